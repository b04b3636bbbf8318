/-! the reference: counts of formes, letters, values -/
theorem take_flc {L : List (List Pl)} {i : Nat} {p : Pl → Bool} (hi : i < L.length) : (L.take (i + 1)).flatten.countP p = (L.take i).flatten.countP p + L[i].countP p := by
  rw [List.take_succ_eq_append_getElem hi, List.flatten_append, List.countP_append]
  simp only [List.flatten_cons, List.flatten_nil, List.append_nil]
set_option maxRecDepth 20000 in
set_option maxHeartbeats 1000000 in
theorem i_X5_countOf_0 {c : Nat → VC} {g : VG} {n tl th : Int32} {f : Nat → Int32} (hO : RO c n tl th) (hA : AA c f) {j : Nat} {L : List (List Pl)} (hj : j < 3) (hL : ForR f j L) {i : Nat} (hi : i < L.length) (hk9 : ∀ o5 o6, Xm M_X5_countOf 5 [some (.ref 456), some (.int (nI j)), some (.int (nI 0)), some (.int (nI ((L.take (i + 1)).flatten.countP (fun _ => true)))), some (.int (nI (i + 1))), o5, o6] [] (g, c) (Rt (.int (nI (L.flatten.countP (fun _ => true)))) (g, c))) : ∀ (m q : Nat) (o6 : Option Value), q ≤ L[i].length → L[i].length < q + m → Xm M_X5_countOf 23 [some (.ref 456), some (.int (nI j)), some (.int (nI 0)), some (.int (nI ((L.take i).flatten.countP (fun _ => true) + (L[i].take q).countP (fun _ => true)))), some (.int (nI i)), some (.int (nI q)), o6] [] (g, c) (Rt (.int (nI (L.flatten.countP (fun _ => true)))) (g, c)) := by
  have h5 := hL.2.1.1
  have h6 := hL.2.1.2 _ (List.getElem_mem hi)
  have h8 := hL.2.2.2.2
  intro m
  induction m with
  | zero => intro q o6 z1 z2; omega
  | succ m ih =>
    intro q o6 z1 z2
    refine x_iload dX5_countOf_23 rfl ?_
    refine x_aload_n dX5_countOf_25 rfl ?_
    refine x_iload_n dX5_countOf_26 rfl ?_
    refine x_iload dX5_countOf_27 rfl ?_
    refine x_cv3 dX5_countOf_29 rfl (by first | assumption | (simp (disch := omega) only [up_s, up_n]; first | assumption | rfl)) rfl ?_
    refine Cm.rt (s_X5_places0 hO hA hj hL hi) ?_
    refine x_icmp_ge 124 dX5_countOf_32 (by decide) (fun c32 => ?_) (fun c32 => ?_)
    · have e1 : q = L[i].length := by have := (nI_leI (by omega) (by omega)).mp c32; omega
      subst e1
      rw [List.take_length, ← take_flc hi]
      refine x_iincN_4 (1) dX5_countOf_124 (by decide) rfl ?_
      refine x_goto 5 dX5_countOf_127 (by decide) ?_
      exact hk9 _ _
    · have hq : q < L[i].length := by
        by_cases zz : q < L[i].length
        · exact zz
        · exact absurd ((nI_leI (by omega) (by omega)).mpr (by omega)) c32
      have hok := h8 _ (List.getElem_mem hi) _ (List.getElem_mem hq)
      refine x_iload_n dX5_countOf_35 rfl ?_
      refine x_if_eq 98 dX5_countOf_36 (by decide) (fun c36 => ?_) (fun c36 => ?_)
      · have et : (fun _ => true) L[i][q] = true := rfl
        refine x_iconst (nI 1) dX5_countOf_98 (by decide) ?_
        refine x_goto 103 dX5_countOf_99 (by decide) ?_
        refine x_istore_6 dX5_countOf_103 rfl ?_
        refine x_iload_n dX5_countOf_105 rfl ?_
        refine x_iload dX5_countOf_106 rfl ?_
        refine x_if_eq 115 dX5_countOf_108 (by decide) (fun c108 => ?_) (fun c108 => ?_)
        · exact absurd c108 (by decide)
        · refine x_iconst (nI 1) dX5_countOf_111 (by decide) ?_
          refine x_goto 116 dX5_countOf_112 (by decide) ?_
          refine x_iaddN dX5_countOf_116 ?_
          refine x_istore_n3 dX5_countOf_117 rfl ?_
          refine x_iincN_5 (1) dX5_countOf_118 (by decide) rfl ?_
          refine x_goto 23 dX5_countOf_121 (by decide) ?_
          have e9 := take_cp1 (p := (fun _ => true)) hq et
          rw [Nat.add_assoc, ← e9]
          exact ih (q + 1) _ (by omega) (by omega)
      · exact absurd rfl c36
set_option maxRecDepth 20000 in
set_option maxHeartbeats 1000000 in
theorem l_X5_countOf_0 {c : Nat → VC} {g : VG} {n tl th : Int32} {f : Nat → Int32} (hO : RO c n tl th) (hA : AA c f) {j : Nat} {L : List (List Pl)} (hj : j < 3) (hL : ForR f j L) : ∀ (m i : Nat) (o5 o6 : Option Value), i ≤ L.length → L.length < i + m → Xm M_X5_countOf 5 [some (.ref 456), some (.int (nI j)), some (.int (nI 0)), some (.int (nI ((L.take i).flatten.countP (fun _ => true)))), some (.int (nI i)), o5, o6] [] (g, c) (Rt (.int (nI (L.flatten.countP (fun _ => true)))) (g, c)) := by
  have h5 := hL.2.1.1
  intro m
  induction m with
  | zero => intro i o5 o6 z1 z2; omega
  | succ m ih =>
    intro i o5 o6 z1 z2
    refine x_iload dX5_countOf_5 rfl ?_
    refine x_aload_n dX5_countOf_7 rfl ?_
    refine x_getfield dX5_countOf_8 rfl (by decide) (by first | assumption | (simp (disch := omega) only [up_s, up_n]; first | assumption | rfl)) rfl ?_
    refine x_sipush (nI 1262) dX5_countOf_11 (by decide) ?_
    refine x_iload_n dX5_countOf_14 rfl ?_
    refine x_iaddN dX5_countOf_15 ?_
    refine x_ialoadN dX5_countOf_16 (by first | assumption | (simp (disch := omega) only [up_s, up_n]; first | assumption | rfl)) (by omega) (by omega) ?_
    rw [hL.1]
    refine x_icmp_ge 130 dX5_countOf_17 (by decide) (fun c17 => ?_) (fun c17 => ?_)
    · have e1 : i = L.length := by have := (nI_leI (by omega) (by omega)).mp c17; omega
      subst e1
      rw [List.take_length]
      refine x_iload_n dX5_countOf_130 rfl ?_
      refine x_ireturn dX5_countOf_131 ?_
      exact ⟨rfl, rfl⟩
    · have hi : i < L.length := by
        by_cases q : i < L.length
        · exact q
        · exact absurd ((nI_leI (by omega) (by omega)).mpr (by omega)) c17
      refine x_iconst (nI 0) dX5_countOf_20 (by decide) ?_
      refine x_istore_5 dX5_countOf_21 rfl ?_
      have h6 := hL.2.1.2 _ (List.getElem_mem hi)
      have := i_X5_countOf_0 (g := g) hO hA hj hL hi (fun o5 o6 => ih (i + 1) o5 o6 (by omega) (by omega)) (L[i].length + 1) 0 o6 (Nat.zero_le _) (by omega)
      exact this
set_option maxRecDepth 20000 in
set_option maxHeartbeats 1000000 in
theorem s_X5_countOf_0 {c : Nat → VC} {g : VG} {n tl th : Int32} {f : Nat → Int32} (hO : RO c n tl th) (hA : AA c f) {j : Nat} {L : List (List Pl)} (hj : j < 3) (hL : ForR f j L) : Cm k_X5_countOf [.ref 456, .int (nI j), .int (nI 0)] (g, c) (Rt (.int (nI (L.flatten.countP (fun _ => true)))) (g, c)) := by
  refine Cm.in (M := M_X5_countOf) (ls := [some (.ref 456), some (.int (nI j)), some (.int (nI 0)), none, none, none, none]) rfl rfl ?_
  refine x_iconst (nI 0) dX5_countOf_0 (by decide) ?_
  refine x_istore_n3 dX5_countOf_1 rfl ?_
  refine x_iconst (nI 0) dX5_countOf_2 (by decide) ?_
  refine x_istore_4 dX5_countOf_3 rfl ?_
  exact l_X5_countOf_0 hO hA hj hL (L.length + 1) 0 none none (Nat.zero_le _) (by omega)
set_option maxRecDepth 20000 in
set_option maxHeartbeats 1000000 in
theorem i_X5_countOf_1 {c : Nat → VC} {g : VG} {n tl th : Int32} {f : Nat → Int32} (hO : RO c n tl th) (hA : AA c f) {j : Nat} {L : List (List Pl)} (hj : j < 3) (hL : ForR f j L) {i : Nat} (hi : i < L.length) (hk9 : ∀ o5 o6, Xm M_X5_countOf 5 [some (.ref 456), some (.int (nI j)), some (.int (nI 1)), some (.int (nI ((L.take (i + 1)).flatten.countP wrg))), some (.int (nI (i + 1))), o5, o6] [] (g, c) (Rt (.int (nI (L.flatten.countP wrg))) (g, c))) : ∀ (m q : Nat) (o6 : Option Value), q ≤ L[i].length → L[i].length < q + m → Xm M_X5_countOf 23 [some (.ref 456), some (.int (nI j)), some (.int (nI 1)), some (.int (nI ((L.take i).flatten.countP wrg + (L[i].take q).countP wrg))), some (.int (nI i)), some (.int (nI q)), o6] [] (g, c) (Rt (.int (nI (L.flatten.countP wrg))) (g, c)) := by
  have h5 := hL.2.1.1
  have h6 := hL.2.1.2 _ (List.getElem_mem hi)
  have h8 := hL.2.2.2.2
  intro m
  induction m with
  | zero => intro q o6 z1 z2; omega
  | succ m ih =>
    intro q o6 z1 z2
    refine x_iload dX5_countOf_23 rfl ?_
    refine x_aload_n dX5_countOf_25 rfl ?_
    refine x_iload_n dX5_countOf_26 rfl ?_
    refine x_iload dX5_countOf_27 rfl ?_
    refine x_cv3 dX5_countOf_29 rfl (by first | assumption | (simp (disch := omega) only [up_s, up_n]; first | assumption | rfl)) rfl ?_
    refine Cm.rt (s_X5_places0 hO hA hj hL hi) ?_
    refine x_icmp_ge 124 dX5_countOf_32 (by decide) (fun c32 => ?_) (fun c32 => ?_)
    · have e1 : q = L[i].length := by have := (nI_leI (by omega) (by omega)).mp c32; omega
      subst e1
      rw [List.take_length, ← take_flc hi]
      refine x_iincN_4 (1) dX5_countOf_124 (by decide) rfl ?_
      refine x_goto 5 dX5_countOf_127 (by decide) ?_
      exact hk9 _ _
    · have hq : q < L[i].length := by
        by_cases zz : q < L[i].length
        · exact zz
        · exact absurd ((nI_leI (by omega) (by omega)).mpr (by omega)) c32
      have hok := h8 _ (List.getElem_mem hi) _ (List.getElem_mem hq)
      refine x_iload_n dX5_countOf_35 rfl ?_
      refine x_if_eq 98 dX5_countOf_36 (by decide) (fun c36 => ?_) (fun c36 => ?_)
      · exact absurd c36 (by decide)
      · refine x_iload_n dX5_countOf_39 rfl ?_
        refine x_iconst (nI 1) dX5_countOf_40 (by decide) ?_
        refine x_icmp_ne 56 dX5_countOf_41 (by decide) (fun c41 => ?_) (fun c41 => ?_)
        · exact absurd rfl c41
        · refine x_aload_n dX5_countOf_44 rfl ?_
          refine x_iload_n dX5_countOf_45 rfl ?_
          refine x_iload dX5_countOf_46 rfl ?_
          refine x_iload dX5_countOf_48 rfl ?_
          refine x_cv4 dX5_countOf_50 rfl (by first | assumption | (simp (disch := omega) only [up_s, up_n]; first | assumption | rfl)) rfl ?_
          refine Cm.rt (s_X5_isWrong hO hA hj hL hi hq) ?_
          refine x_if_ne 98 dX5_countOf_53 (by decide) (fun c53 => ?_) (fun c53 => ?_)
          · have et : wrg L[i][q] = true := bV_ne c53
            refine x_iconst (nI 1) dX5_countOf_98 (by decide) ?_
            refine x_goto 103 dX5_countOf_99 (by decide) ?_
            refine x_istore_6 dX5_countOf_103 rfl ?_
            refine x_iload_n dX5_countOf_105 rfl ?_
            refine x_iload dX5_countOf_106 rfl ?_
            refine x_if_eq 115 dX5_countOf_108 (by decide) (fun c108 => ?_) (fun c108 => ?_)
            · exact absurd c108 (by decide)
            · refine x_iconst (nI 1) dX5_countOf_111 (by decide) ?_
              refine x_goto 116 dX5_countOf_112 (by decide) ?_
              refine x_iaddN dX5_countOf_116 ?_
              refine x_istore_n3 dX5_countOf_117 rfl ?_
              refine x_iincN_5 (1) dX5_countOf_118 (by decide) rfl ?_
              refine x_goto 23 dX5_countOf_121 (by decide) ?_
              have e9 := take_cp1 (p := wrg) hq et
              rw [Nat.add_assoc, ← e9]
              exact ih (q + 1) _ (by omega) (by omega)
          · have ef : wrg L[i][q] = false := bV_eq c53
            refine x_iload_n dX5_countOf_56 rfl ?_
            refine x_iconst (nI 2) dX5_countOf_57 (by decide) ?_
            refine x_icmp_ne 75 dX5_countOf_58 (by decide) (fun c58 => ?_) (fun c58 => ?_)
            · refine x_iload_n dX5_countOf_75 rfl ?_
              refine x_bipush (nI 10) dX5_countOf_76 (by decide) ?_
              refine x_icmp_lt 102 dX5_countOf_78 (by decide) (fun c78 => ?_) (fun c78 => ?_)
              · refine x_iconst (nI 0) dX5_countOf_102 (by decide) ?_
                refine x_istore_6 dX5_countOf_103 rfl ?_
                refine x_iload_n dX5_countOf_105 rfl ?_
                refine x_iload dX5_countOf_106 rfl ?_
                refine x_if_eq 115 dX5_countOf_108 (by decide) (fun c108 => ?_) (fun c108 => ?_)
                · refine x_iconst (nI 0) dX5_countOf_115 (by decide) ?_
                  refine x_iaddN dX5_countOf_116 ?_
                  refine x_istore_n3 dX5_countOf_117 rfl ?_
                  refine x_iincN_5 (1) dX5_countOf_118 (by decide) rfl ?_
                  refine x_goto 23 dX5_countOf_121 (by decide) ?_
                  have e9 := take_cp0 (p := wrg) hq ef
                  rw [Nat.add_zero, ← e9]
                  exact ih (q + 1) _ (by omega) (by omega)
                · exact absurd rfl c108
              · exact absurd (by decide) c78
            · exact absurd c58 (by decide)
set_option maxRecDepth 20000 in
set_option maxHeartbeats 1000000 in
theorem l_X5_countOf_1 {c : Nat → VC} {g : VG} {n tl th : Int32} {f : Nat → Int32} (hO : RO c n tl th) (hA : AA c f) {j : Nat} {L : List (List Pl)} (hj : j < 3) (hL : ForR f j L) : ∀ (m i : Nat) (o5 o6 : Option Value), i ≤ L.length → L.length < i + m → Xm M_X5_countOf 5 [some (.ref 456), some (.int (nI j)), some (.int (nI 1)), some (.int (nI ((L.take i).flatten.countP wrg))), some (.int (nI i)), o5, o6] [] (g, c) (Rt (.int (nI (L.flatten.countP wrg))) (g, c)) := by
  have h5 := hL.2.1.1
  intro m
  induction m with
  | zero => intro i o5 o6 z1 z2; omega
  | succ m ih =>
    intro i o5 o6 z1 z2
    refine x_iload dX5_countOf_5 rfl ?_
    refine x_aload_n dX5_countOf_7 rfl ?_
    refine x_getfield dX5_countOf_8 rfl (by decide) (by first | assumption | (simp (disch := omega) only [up_s, up_n]; first | assumption | rfl)) rfl ?_
    refine x_sipush (nI 1262) dX5_countOf_11 (by decide) ?_
    refine x_iload_n dX5_countOf_14 rfl ?_
    refine x_iaddN dX5_countOf_15 ?_
    refine x_ialoadN dX5_countOf_16 (by first | assumption | (simp (disch := omega) only [up_s, up_n]; first | assumption | rfl)) (by omega) (by omega) ?_
    rw [hL.1]
    refine x_icmp_ge 130 dX5_countOf_17 (by decide) (fun c17 => ?_) (fun c17 => ?_)
    · have e1 : i = L.length := by have := (nI_leI (by omega) (by omega)).mp c17; omega
      subst e1
      rw [List.take_length]
      refine x_iload_n dX5_countOf_130 rfl ?_
      refine x_ireturn dX5_countOf_131 ?_
      exact ⟨rfl, rfl⟩
    · have hi : i < L.length := by
        by_cases q : i < L.length
        · exact q
        · exact absurd ((nI_leI (by omega) (by omega)).mpr (by omega)) c17
      refine x_iconst (nI 0) dX5_countOf_20 (by decide) ?_
      refine x_istore_5 dX5_countOf_21 rfl ?_
      have h6 := hL.2.1.2 _ (List.getElem_mem hi)
      have := i_X5_countOf_1 (g := g) hO hA hj hL hi (fun o5 o6 => ih (i + 1) o5 o6 (by omega) (by omega)) (L[i].length + 1) 0 o6 (Nat.zero_le _) (by omega)
      exact this
set_option maxRecDepth 20000 in
set_option maxHeartbeats 1000000 in
theorem s_X5_countOf_1 {c : Nat → VC} {g : VG} {n tl th : Int32} {f : Nat → Int32} (hO : RO c n tl th) (hA : AA c f) {j : Nat} {L : List (List Pl)} (hj : j < 3) (hL : ForR f j L) : Cm k_X5_countOf [.ref 456, .int (nI j), .int (nI 1)] (g, c) (Rt (.int (nI (L.flatten.countP wrg))) (g, c)) := by
  refine Cm.in (M := M_X5_countOf) (ls := [some (.ref 456), some (.int (nI j)), some (.int (nI 1)), none, none, none, none]) rfl rfl ?_
  refine x_iconst (nI 0) dX5_countOf_0 (by decide) ?_
  refine x_istore_n3 dX5_countOf_1 rfl ?_
  refine x_iconst (nI 0) dX5_countOf_2 (by decide) ?_
  refine x_istore_4 dX5_countOf_3 rfl ?_
  exact l_X5_countOf_1 hO hA hj hL (L.length + 1) 0 none none (Nat.zero_le _) (by omega)
set_option maxRecDepth 20000 in
set_option maxHeartbeats 1000000 in
theorem i_X5_countOf_2 {c : Nat → VC} {g : VG} {n tl th : Int32} {f : Nat → Int32} (hO : RO c n tl th) (hA : AA c f) {j : Nat} {L : List (List Pl)} (hj : j < 3) (hL : ForR f j L) {i : Nat} (hi : i < L.length) (hk9 : ∀ o5 o6, Xm M_X5_countOf 5 [some (.ref 456), some (.int (nI j)), some (.int (nI 2)), some (.int (nI ((L.take (i + 1)).flatten.countP (fun q => q.2.2 == 1)))), some (.int (nI (i + 1))), o5, o6] [] (g, c) (Rt (.int (nI (L.flatten.countP (fun q => q.2.2 == 1)))) (g, c))) : ∀ (m q : Nat) (o6 : Option Value), q ≤ L[i].length → L[i].length < q + m → Xm M_X5_countOf 23 [some (.ref 456), some (.int (nI j)), some (.int (nI 2)), some (.int (nI ((L.take i).flatten.countP (fun q => q.2.2 == 1) + (L[i].take q).countP (fun q => q.2.2 == 1)))), some (.int (nI i)), some (.int (nI q)), o6] [] (g, c) (Rt (.int (nI (L.flatten.countP (fun q => q.2.2 == 1)))) (g, c)) := by
  have h5 := hL.2.1.1
  have h6 := hL.2.1.2 _ (List.getElem_mem hi)
  have h8 := hL.2.2.2.2
  intro m
  induction m with
  | zero => intro q o6 z1 z2; omega
  | succ m ih =>
    intro q o6 z1 z2
    refine x_iload dX5_countOf_23 rfl ?_
    refine x_aload_n dX5_countOf_25 rfl ?_
    refine x_iload_n dX5_countOf_26 rfl ?_
    refine x_iload dX5_countOf_27 rfl ?_
    refine x_cv3 dX5_countOf_29 rfl (by first | assumption | (simp (disch := omega) only [up_s, up_n]; first | assumption | rfl)) rfl ?_
    refine Cm.rt (s_X5_places0 hO hA hj hL hi) ?_
    refine x_icmp_ge 124 dX5_countOf_32 (by decide) (fun c32 => ?_) (fun c32 => ?_)
    · have e1 : q = L[i].length := by have := (nI_leI (by omega) (by omega)).mp c32; omega
      subst e1
      rw [List.take_length, ← take_flc hi]
      refine x_iincN_4 (1) dX5_countOf_124 (by decide) rfl ?_
      refine x_goto 5 dX5_countOf_127 (by decide) ?_
      exact hk9 _ _
    · have hq : q < L[i].length := by
        by_cases zz : q < L[i].length
        · exact zz
        · exact absurd ((nI_leI (by omega) (by omega)).mpr (by omega)) c32
      have hok := h8 _ (List.getElem_mem hi) _ (List.getElem_mem hq)
      refine x_iload_n dX5_countOf_35 rfl ?_
      refine x_if_eq 98 dX5_countOf_36 (by decide) (fun c36 => ?_) (fun c36 => ?_)
      · exact absurd c36 (by decide)
      · refine x_iload_n dX5_countOf_39 rfl ?_
        refine x_iconst (nI 1) dX5_countOf_40 (by decide) ?_
        refine x_icmp_ne 56 dX5_countOf_41 (by decide) (fun c41 => ?_) (fun c41 => ?_)
        · refine x_iload_n dX5_countOf_56 rfl ?_
          refine x_iconst (nI 2) dX5_countOf_57 (by decide) ?_
          refine x_icmp_ne 75 dX5_countOf_58 (by decide) (fun c58 => ?_) (fun c58 => ?_)
          · exact absurd rfl c58
          · refine x_aload_n dX5_countOf_61 rfl ?_
            refine x_iload_n dX5_countOf_62 rfl ?_
            refine x_iload dX5_countOf_63 rfl ?_
            refine x_iload dX5_countOf_65 rfl ?_
            refine x_iconst (nI 2) dX5_countOf_67 (by decide) ?_
            refine x_cv5 dX5_countOf_68 rfl (by first | assumption | (simp (disch := omega) only [up_s, up_n]; first | assumption | rfl)) rfl ?_
            refine Cm.rt (s_X5_of2 hO hA hj hL hi hq) ?_
            refine x_iconst (nI 1) dX5_countOf_71 (by decide) ?_
            refine x_icmp_eq 98 dX5_countOf_72 (by decide) (fun c72 => ?_) (fun c72 => ?_)
            · have e7 : L[i][q].2.2 = 1 := (nI_eq (by omega) (by omega)).mp c72
              have et : (fun q => q.2.2 == 1) L[i][q] = true := by simp [e7]
              refine x_iconst (nI 1) dX5_countOf_98 (by decide) ?_
              refine x_goto 103 dX5_countOf_99 (by decide) ?_
              refine x_istore_6 dX5_countOf_103 rfl ?_
              refine x_iload_n dX5_countOf_105 rfl ?_
              refine x_iload dX5_countOf_106 rfl ?_
              refine x_if_eq 115 dX5_countOf_108 (by decide) (fun c108 => ?_) (fun c108 => ?_)
              · exact absurd c108 (by decide)
              · refine x_iconst (nI 1) dX5_countOf_111 (by decide) ?_
                refine x_goto 116 dX5_countOf_112 (by decide) ?_
                refine x_iaddN dX5_countOf_116 ?_
                refine x_istore_n3 dX5_countOf_117 rfl ?_
                refine x_iincN_5 (1) dX5_countOf_118 (by decide) rfl ?_
                refine x_goto 23 dX5_countOf_121 (by decide) ?_
                have e9 := take_cp1 (p := (fun q => q.2.2 == 1)) hq et
                rw [Nat.add_assoc, ← e9]
                exact ih (q + 1) _ (by omega) (by omega)
            · have e7 : ¬ L[i][q].2.2 = 1 := fun z => c72 (by rw [z])
              have ef : (fun q => q.2.2 == 1) L[i][q] = false := by simp [e7]
              refine x_iload_n dX5_countOf_75 rfl ?_
              refine x_bipush (nI 10) dX5_countOf_76 (by decide) ?_
              refine x_icmp_lt 102 dX5_countOf_78 (by decide) (fun c78 => ?_) (fun c78 => ?_)
              · refine x_iconst (nI 0) dX5_countOf_102 (by decide) ?_
                refine x_istore_6 dX5_countOf_103 rfl ?_
                refine x_iload_n dX5_countOf_105 rfl ?_
                refine x_iload dX5_countOf_106 rfl ?_
                refine x_if_eq 115 dX5_countOf_108 (by decide) (fun c108 => ?_) (fun c108 => ?_)
                · refine x_iconst (nI 0) dX5_countOf_115 (by decide) ?_
                  refine x_iaddN dX5_countOf_116 ?_
                  refine x_istore_n3 dX5_countOf_117 rfl ?_
                  refine x_iincN_5 (1) dX5_countOf_118 (by decide) rfl ?_
                  refine x_goto 23 dX5_countOf_121 (by decide) ?_
                  have e9 := take_cp0 (p := (fun q => q.2.2 == 1)) hq ef
                  rw [Nat.add_zero, ← e9]
                  exact ih (q + 1) _ (by omega) (by omega)
                · exact absurd rfl c108
              · exact absurd (by decide) c78
        · exact absurd c41 (by decide)
set_option maxRecDepth 20000 in
set_option maxHeartbeats 1000000 in
theorem l_X5_countOf_2 {c : Nat → VC} {g : VG} {n tl th : Int32} {f : Nat → Int32} (hO : RO c n tl th) (hA : AA c f) {j : Nat} {L : List (List Pl)} (hj : j < 3) (hL : ForR f j L) : ∀ (m i : Nat) (o5 o6 : Option Value), i ≤ L.length → L.length < i + m → Xm M_X5_countOf 5 [some (.ref 456), some (.int (nI j)), some (.int (nI 2)), some (.int (nI ((L.take i).flatten.countP (fun q => q.2.2 == 1)))), some (.int (nI i)), o5, o6] [] (g, c) (Rt (.int (nI (L.flatten.countP (fun q => q.2.2 == 1)))) (g, c)) := by
  have h5 := hL.2.1.1
  intro m
  induction m with
  | zero => intro i o5 o6 z1 z2; omega
  | succ m ih =>
    intro i o5 o6 z1 z2
    refine x_iload dX5_countOf_5 rfl ?_
    refine x_aload_n dX5_countOf_7 rfl ?_
    refine x_getfield dX5_countOf_8 rfl (by decide) (by first | assumption | (simp (disch := omega) only [up_s, up_n]; first | assumption | rfl)) rfl ?_
    refine x_sipush (nI 1262) dX5_countOf_11 (by decide) ?_
    refine x_iload_n dX5_countOf_14 rfl ?_
    refine x_iaddN dX5_countOf_15 ?_
    refine x_ialoadN dX5_countOf_16 (by first | assumption | (simp (disch := omega) only [up_s, up_n]; first | assumption | rfl)) (by omega) (by omega) ?_
    rw [hL.1]
    refine x_icmp_ge 130 dX5_countOf_17 (by decide) (fun c17 => ?_) (fun c17 => ?_)
    · have e1 : i = L.length := by have := (nI_leI (by omega) (by omega)).mp c17; omega
      subst e1
      rw [List.take_length]
      refine x_iload_n dX5_countOf_130 rfl ?_
      refine x_ireturn dX5_countOf_131 ?_
      exact ⟨rfl, rfl⟩
    · have hi : i < L.length := by
        by_cases q : i < L.length
        · exact q
        · exact absurd ((nI_leI (by omega) (by omega)).mpr (by omega)) c17
      refine x_iconst (nI 0) dX5_countOf_20 (by decide) ?_
      refine x_istore_5 dX5_countOf_21 rfl ?_
      have h6 := hL.2.1.2 _ (List.getElem_mem hi)
      have := i_X5_countOf_2 (g := g) hO hA hj hL hi (fun o5 o6 => ih (i + 1) o5 o6 (by omega) (by omega)) (L[i].length + 1) 0 o6 (Nat.zero_le _) (by omega)
      exact this
set_option maxRecDepth 20000 in
set_option maxHeartbeats 1000000 in
theorem s_X5_countOf_2 {c : Nat → VC} {g : VG} {n tl th : Int32} {f : Nat → Int32} (hO : RO c n tl th) (hA : AA c f) {j : Nat} {L : List (List Pl)} (hj : j < 3) (hL : ForR f j L) : Cm k_X5_countOf [.ref 456, .int (nI j), .int (nI 2)] (g, c) (Rt (.int (nI (L.flatten.countP (fun q => q.2.2 == 1)))) (g, c)) := by
  refine Cm.in (M := M_X5_countOf) (ls := [some (.ref 456), some (.int (nI j)), some (.int (nI 2)), none, none, none, none]) rfl rfl ?_
  refine x_iconst (nI 0) dX5_countOf_0 (by decide) ?_
  refine x_istore_n3 dX5_countOf_1 rfl ?_
  refine x_iconst (nI 0) dX5_countOf_2 (by decide) ?_
  refine x_istore_4 dX5_countOf_3 rfl ?_
  exact l_X5_countOf_2 hO hA hj hL (L.length + 1) 0 none none (Nat.zero_le _) (by omega)
set_option maxRecDepth 20000 in
set_option maxHeartbeats 1000000 in
theorem i_X5_countOf_c {c : Nat → VC} {g : VG} {n tl th : Int32} {f : Nat → Int32} (hO : RO c n tl th) (hA : AA c f) {j : Nat} {L : List (List Pl)} (hj : j < 3) (hL : ForR f j L) {x : Nat} (hx : x < 27) {i : Nat} (hi : i < L.length) (hk9 : ∀ o5 o6, Xm M_X5_countOf 5 [some (.ref 456), some (.int (nI j)), some (.int (nI (10 + x))), some (.int (nI ((L.take (i + 1)).flatten.countP (fun q => q.2.1 == x)))), some (.int (nI (i + 1))), o5, o6] [] (g, c) (Rt (.int (nI (L.flatten.countP (fun q => q.2.1 == x)))) (g, c))) : ∀ (m q : Nat) (o6 : Option Value), q ≤ L[i].length → L[i].length < q + m → Xm M_X5_countOf 23 [some (.ref 456), some (.int (nI j)), some (.int (nI (10 + x))), some (.int (nI ((L.take i).flatten.countP (fun q => q.2.1 == x) + (L[i].take q).countP (fun q => q.2.1 == x)))), some (.int (nI i)), some (.int (nI q)), o6] [] (g, c) (Rt (.int (nI (L.flatten.countP (fun q => q.2.1 == x)))) (g, c)) := by
  have h5 := hL.2.1.1
  have h6 := hL.2.1.2 _ (List.getElem_mem hi)
  have h8 := hL.2.2.2.2
  intro m
  induction m with
  | zero => intro q o6 z1 z2; omega
  | succ m ih =>
    intro q o6 z1 z2
    refine x_iload dX5_countOf_23 rfl ?_
    refine x_aload_n dX5_countOf_25 rfl ?_
    refine x_iload_n dX5_countOf_26 rfl ?_
    refine x_iload dX5_countOf_27 rfl ?_
    refine x_cv3 dX5_countOf_29 rfl (by first | assumption | (simp (disch := omega) only [up_s, up_n]; first | assumption | rfl)) rfl ?_
    refine Cm.rt (s_X5_places0 hO hA hj hL hi) ?_
    refine x_icmp_ge 124 dX5_countOf_32 (by decide) (fun c32 => ?_) (fun c32 => ?_)
    · have e1 : q = L[i].length := by have := (nI_leI (by omega) (by omega)).mp c32; omega
      subst e1
      rw [List.take_length, ← take_flc hi]
      refine x_iincN_4 (1) dX5_countOf_124 (by decide) rfl ?_
      refine x_goto 5 dX5_countOf_127 (by decide) ?_
      exact hk9 _ _
    · have hq : q < L[i].length := by
        by_cases zz : q < L[i].length
        · exact zz
        · exact absurd ((nI_leI (by omega) (by omega)).mpr (by omega)) c32
      have hok := h8 _ (List.getElem_mem hi) _ (List.getElem_mem hq)
      refine x_iload_n dX5_countOf_35 rfl ?_
      refine x_if_eq 98 dX5_countOf_36 (by decide) (fun c36 => ?_) (fun c36 => ?_)
      · exact absurd ((nI_eq (b := 0) (by omega) (by omega)).mp c36) (by omega)
      · refine x_iload_n dX5_countOf_39 rfl ?_
        refine x_iconst (nI 1) dX5_countOf_40 (by decide) ?_
        refine x_icmp_ne 56 dX5_countOf_41 (by decide) (fun c41 => ?_) (fun c41 => ?_)
        · refine x_iload_n dX5_countOf_56 rfl ?_
          refine x_iconst (nI 2) dX5_countOf_57 (by decide) ?_
          refine x_icmp_ne 75 dX5_countOf_58 (by decide) (fun c58 => ?_) (fun c58 => ?_)
          · refine x_iload_n dX5_countOf_75 rfl ?_
            refine x_bipush (nI 10) dX5_countOf_76 (by decide) ?_
            refine x_icmp_lt 102 dX5_countOf_78 (by decide) (fun c78 => ?_) (fun c78 => ?_)
            · exact absurd ((nI_ltI (by omega) (by omega)).mp c78) (by omega)
            · refine x_aload_n dX5_countOf_81 rfl ?_
              refine x_iload_n dX5_countOf_82 rfl ?_
              refine x_iload dX5_countOf_83 rfl ?_
              refine x_iload dX5_countOf_85 rfl ?_
              refine x_iconst (nI 1) dX5_countOf_87 (by decide) ?_
              refine x_cv5 dX5_countOf_88 rfl (by first | assumption | (simp (disch := omega) only [up_s, up_n]; first | assumption | rfl)) rfl ?_
              refine Cm.rt (s_X5_of1 hO hA hj hL hi hq) ?_
              refine x_iload_n dX5_countOf_91 rfl ?_
              refine x_bipush (nI 10) dX5_countOf_92 (by decide) ?_
              refine x_isubN dX5_countOf_94 (by omega) ?_
              rw [show 10 + x - 10 = x by omega]
              refine x_icmp_ne 102 dX5_countOf_95 (by decide) (fun c95 => ?_) (fun c95 => ?_)
              · have e7 : ¬ L[i][q].2.1 = x := fun z => c95 (by rw [z])
                have ef : (fun q => q.2.1 == x) L[i][q] = false := by simp [e7]
                refine x_iconst (nI 0) dX5_countOf_102 (by decide) ?_
                refine x_istore_6 dX5_countOf_103 rfl ?_
                refine x_iload_n dX5_countOf_105 rfl ?_
                refine x_iload dX5_countOf_106 rfl ?_
                refine x_if_eq 115 dX5_countOf_108 (by decide) (fun c108 => ?_) (fun c108 => ?_)
                · refine x_iconst (nI 0) dX5_countOf_115 (by decide) ?_
                  refine x_iaddN dX5_countOf_116 ?_
                  refine x_istore_n3 dX5_countOf_117 rfl ?_
                  refine x_iincN_5 (1) dX5_countOf_118 (by decide) rfl ?_
                  refine x_goto 23 dX5_countOf_121 (by decide) ?_
                  have e9 := take_cp0 (p := (fun q => q.2.1 == x)) hq ef
                  rw [Nat.add_zero, ← e9]
                  exact ih (q + 1) _ (by omega) (by omega)
                · exact absurd rfl c108
              · have e7 : L[i][q].2.1 = x := (nI_eq (by omega) (by omega)).mp c95
                have et : (fun q => q.2.1 == x) L[i][q] = true := by simp [e7]
                refine x_iconst (nI 1) dX5_countOf_98 (by decide) ?_
                refine x_goto 103 dX5_countOf_99 (by decide) ?_
                refine x_istore_6 dX5_countOf_103 rfl ?_
                refine x_iload_n dX5_countOf_105 rfl ?_
                refine x_iload dX5_countOf_106 rfl ?_
                refine x_if_eq 115 dX5_countOf_108 (by decide) (fun c108 => ?_) (fun c108 => ?_)
                · exact absurd c108 (by decide)
                · refine x_iconst (nI 1) dX5_countOf_111 (by decide) ?_
                  refine x_goto 116 dX5_countOf_112 (by decide) ?_
                  refine x_iaddN dX5_countOf_116 ?_
                  refine x_istore_n3 dX5_countOf_117 rfl ?_
                  refine x_iincN_5 (1) dX5_countOf_118 (by decide) rfl ?_
                  refine x_goto 23 dX5_countOf_121 (by decide) ?_
                  have e9 := take_cp1 (p := (fun q => q.2.1 == x)) hq et
                  rw [Nat.add_assoc, ← e9]
                  exact ih (q + 1) _ (by omega) (by omega)
          · exact absurd ((nI_eq (by omega) (by omega)).mp c58) (by omega)
        · exact absurd ((nI_eq (by omega) (by omega)).mp c41) (by omega)
set_option maxRecDepth 20000 in
set_option maxHeartbeats 1000000 in
theorem l_X5_countOf_c {c : Nat → VC} {g : VG} {n tl th : Int32} {f : Nat → Int32} (hO : RO c n tl th) (hA : AA c f) {j : Nat} {L : List (List Pl)} (hj : j < 3) (hL : ForR f j L) {x : Nat} (hx : x < 27) : ∀ (m i : Nat) (o5 o6 : Option Value), i ≤ L.length → L.length < i + m → Xm M_X5_countOf 5 [some (.ref 456), some (.int (nI j)), some (.int (nI (10 + x))), some (.int (nI ((L.take i).flatten.countP (fun q => q.2.1 == x)))), some (.int (nI i)), o5, o6] [] (g, c) (Rt (.int (nI (L.flatten.countP (fun q => q.2.1 == x)))) (g, c)) := by
  have h5 := hL.2.1.1
  intro m
  induction m with
  | zero => intro i o5 o6 z1 z2; omega
  | succ m ih =>
    intro i o5 o6 z1 z2
    refine x_iload dX5_countOf_5 rfl ?_
    refine x_aload_n dX5_countOf_7 rfl ?_
    refine x_getfield dX5_countOf_8 rfl (by decide) (by first | assumption | (simp (disch := omega) only [up_s, up_n]; first | assumption | rfl)) rfl ?_
    refine x_sipush (nI 1262) dX5_countOf_11 (by decide) ?_
    refine x_iload_n dX5_countOf_14 rfl ?_
    refine x_iaddN dX5_countOf_15 ?_
    refine x_ialoadN dX5_countOf_16 (by first | assumption | (simp (disch := omega) only [up_s, up_n]; first | assumption | rfl)) (by omega) (by omega) ?_
    rw [hL.1]
    refine x_icmp_ge 130 dX5_countOf_17 (by decide) (fun c17 => ?_) (fun c17 => ?_)
    · have e1 : i = L.length := by have := (nI_leI (by omega) (by omega)).mp c17; omega
      subst e1
      rw [List.take_length]
      refine x_iload_n dX5_countOf_130 rfl ?_
      refine x_ireturn dX5_countOf_131 ?_
      exact ⟨rfl, rfl⟩
    · have hi : i < L.length := by
        by_cases q : i < L.length
        · exact q
        · exact absurd ((nI_leI (by omega) (by omega)).mpr (by omega)) c17
      refine x_iconst (nI 0) dX5_countOf_20 (by decide) ?_
      refine x_istore_5 dX5_countOf_21 rfl ?_
      have h6 := hL.2.1.2 _ (List.getElem_mem hi)
      have := i_X5_countOf_c (g := g) hO hA hj hL hx hi (fun o5 o6 => ih (i + 1) o5 o6 (by omega) (by omega)) (L[i].length + 1) 0 o6 (Nat.zero_le _) (by omega)
      exact this
set_option maxRecDepth 20000 in
set_option maxHeartbeats 1000000 in
theorem s_X5_countOf_c {c : Nat → VC} {g : VG} {n tl th : Int32} {f : Nat → Int32} (hO : RO c n tl th) (hA : AA c f) {j : Nat} {L : List (List Pl)} (hj : j < 3) (hL : ForR f j L) {x : Nat} (hx : x < 27) : Cm k_X5_countOf [.ref 456, .int (nI j), .int (nI (10 + x))] (g, c) (Rt (.int (nI (L.flatten.countP (fun q => q.2.1 == x)))) (g, c)) := by
  refine Cm.in (M := M_X5_countOf) (ls := [some (.ref 456), some (.int (nI j)), some (.int (nI (10 + x))), none, none, none, none]) rfl rfl ?_
  refine x_iconst (nI 0) dX5_countOf_0 (by decide) ?_
  refine x_istore_n3 dX5_countOf_1 rfl ?_
  refine x_iconst (nI 0) dX5_countOf_2 (by decide) ?_
  refine x_istore_4 dX5_countOf_3 rfl ?_
  exact l_X5_countOf_c hO hA hj hL hx (L.length + 1) 0 none none (Nat.zero_le _) (by omega)
set_option maxRecDepth 20000 in
set_option maxHeartbeats 1000000 in
theorem s_X5_countAll_0 {c : Nat → VC} {g : VG} {n tl th : Int32} {f : Nat → Int32} (hO : RO c n tl th) (hA : AA c f) {F : Fx} (hF : ∀ j, j < 3 → ForR f j (F j)) : Cm k_X5_countAll [.ref 456, .int (nI 0)] (g, c) (Rt (.int (nI (sumN (fun j => (F j).flatten.countP (fun _ => true)) 3))) (g, c)) := by
  refine Cm.in (M := M_X5_countAll) (ls := [some (.ref 456), some (.int (nI 0))]) rfl rfl ?_
  refine x_aload_n dX5_countAll_0 rfl ?_
  refine x_iconst (nI 0) dX5_countAll_1 (by decide) ?_
  refine x_iload_n dX5_countAll_2 rfl ?_
  refine x_cv3 dX5_countAll_3 rfl (by first | assumption | (simp (disch := omega) only [up_s, up_n]; first | assumption | rfl)) rfl ?_
  refine Cm.rt (s_X5_countOf_0 hO hA (j := 0) (by omega) (hF 0 (by omega))) ?_
  refine x_aload_n dX5_countAll_6 rfl ?_
  refine x_iconst (nI 1) dX5_countAll_7 (by decide) ?_
  refine x_iload_n dX5_countAll_8 rfl ?_
  refine x_cv3 dX5_countAll_9 rfl (by first | assumption | (simp (disch := omega) only [up_s, up_n]; first | assumption | rfl)) rfl ?_
  refine Cm.rt (s_X5_countOf_0 hO hA (j := 1) (by omega) (hF 1 (by omega))) ?_
  refine x_iaddN dX5_countAll_12 ?_
  refine x_aload_n dX5_countAll_13 rfl ?_
  refine x_iconst (nI 2) dX5_countAll_14 (by decide) ?_
  refine x_iload_n dX5_countAll_15 rfl ?_
  refine x_cv3 dX5_countAll_16 rfl (by first | assumption | (simp (disch := omega) only [up_s, up_n]; first | assumption | rfl)) rfl ?_
  refine Cm.rt (s_X5_countOf_0 hO hA (j := 2) (by omega) (hF 2 (by omega))) ?_
  refine x_iaddN dX5_countAll_19 ?_
  refine x_ireturn dX5_countAll_20 ?_
  refine ⟨?_, rfl⟩
  simp only [sumN, Nat.zero_add]
set_option maxRecDepth 20000 in
set_option maxHeartbeats 1000000 in
theorem s_X5_countAll_1 {c : Nat → VC} {g : VG} {n tl th : Int32} {f : Nat → Int32} (hO : RO c n tl th) (hA : AA c f) {F : Fx} (hF : ∀ j, j < 3 → ForR f j (F j)) : Cm k_X5_countAll [.ref 456, .int (nI 1)] (g, c) (Rt (.int (nI (sumN (fun j => (F j).flatten.countP wrg) 3))) (g, c)) := by
  refine Cm.in (M := M_X5_countAll) (ls := [some (.ref 456), some (.int (nI 1))]) rfl rfl ?_
  refine x_aload_n dX5_countAll_0 rfl ?_
  refine x_iconst (nI 0) dX5_countAll_1 (by decide) ?_
  refine x_iload_n dX5_countAll_2 rfl ?_
  refine x_cv3 dX5_countAll_3 rfl (by first | assumption | (simp (disch := omega) only [up_s, up_n]; first | assumption | rfl)) rfl ?_
  refine Cm.rt (s_X5_countOf_1 hO hA (j := 0) (by omega) (hF 0 (by omega))) ?_
  refine x_aload_n dX5_countAll_6 rfl ?_
  refine x_iconst (nI 1) dX5_countAll_7 (by decide) ?_
  refine x_iload_n dX5_countAll_8 rfl ?_
  refine x_cv3 dX5_countAll_9 rfl (by first | assumption | (simp (disch := omega) only [up_s, up_n]; first | assumption | rfl)) rfl ?_
  refine Cm.rt (s_X5_countOf_1 hO hA (j := 1) (by omega) (hF 1 (by omega))) ?_
  refine x_iaddN dX5_countAll_12 ?_
  refine x_aload_n dX5_countAll_13 rfl ?_
  refine x_iconst (nI 2) dX5_countAll_14 (by decide) ?_
  refine x_iload_n dX5_countAll_15 rfl ?_
  refine x_cv3 dX5_countAll_16 rfl (by first | assumption | (simp (disch := omega) only [up_s, up_n]; first | assumption | rfl)) rfl ?_
  refine Cm.rt (s_X5_countOf_1 hO hA (j := 2) (by omega) (hF 2 (by omega))) ?_
  refine x_iaddN dX5_countAll_19 ?_
  refine x_ireturn dX5_countAll_20 ?_
  refine ⟨?_, rfl⟩
  simp only [sumN, Nat.zero_add]
set_option maxRecDepth 20000 in
set_option maxHeartbeats 1000000 in
theorem s_X5_countAll_2 {c : Nat → VC} {g : VG} {n tl th : Int32} {f : Nat → Int32} (hO : RO c n tl th) (hA : AA c f) {F : Fx} (hF : ∀ j, j < 3 → ForR f j (F j)) : Cm k_X5_countAll [.ref 456, .int (nI 2)] (g, c) (Rt (.int (nI (sumN (fun j => (F j).flatten.countP (fun q => q.2.2 == 1)) 3))) (g, c)) := by
  refine Cm.in (M := M_X5_countAll) (ls := [some (.ref 456), some (.int (nI 2))]) rfl rfl ?_
  refine x_aload_n dX5_countAll_0 rfl ?_
  refine x_iconst (nI 0) dX5_countAll_1 (by decide) ?_
  refine x_iload_n dX5_countAll_2 rfl ?_
  refine x_cv3 dX5_countAll_3 rfl (by first | assumption | (simp (disch := omega) only [up_s, up_n]; first | assumption | rfl)) rfl ?_
  refine Cm.rt (s_X5_countOf_2 hO hA (j := 0) (by omega) (hF 0 (by omega))) ?_
  refine x_aload_n dX5_countAll_6 rfl ?_
  refine x_iconst (nI 1) dX5_countAll_7 (by decide) ?_
  refine x_iload_n dX5_countAll_8 rfl ?_
  refine x_cv3 dX5_countAll_9 rfl (by first | assumption | (simp (disch := omega) only [up_s, up_n]; first | assumption | rfl)) rfl ?_
  refine Cm.rt (s_X5_countOf_2 hO hA (j := 1) (by omega) (hF 1 (by omega))) ?_
  refine x_iaddN dX5_countAll_12 ?_
  refine x_aload_n dX5_countAll_13 rfl ?_
  refine x_iconst (nI 2) dX5_countAll_14 (by decide) ?_
  refine x_iload_n dX5_countAll_15 rfl ?_
  refine x_cv3 dX5_countAll_16 rfl (by first | assumption | (simp (disch := omega) only [up_s, up_n]; first | assumption | rfl)) rfl ?_
  refine Cm.rt (s_X5_countOf_2 hO hA (j := 2) (by omega) (hF 2 (by omega))) ?_
  refine x_iaddN dX5_countAll_19 ?_
  refine x_ireturn dX5_countAll_20 ?_
  refine ⟨?_, rfl⟩
  simp only [sumN, Nat.zero_add]
set_option maxRecDepth 20000 in
set_option maxHeartbeats 1000000 in
theorem s_X5_countAll_c {c : Nat → VC} {g : VG} {n tl th : Int32} {f : Nat → Int32} (hO : RO c n tl th) (hA : AA c f) {F : Fx} (hF : ∀ j, j < 3 → ForR f j (F j)) {x : Nat} (hx : x < 27) : Cm k_X5_countAll [.ref 456, .int (nI (10 + x))] (g, c) (Rt (.int (nI (sumN (fun j => (F j).flatten.countP (fun q => q.2.1 == x)) 3))) (g, c)) := by
  refine Cm.in (M := M_X5_countAll) (ls := [some (.ref 456), some (.int (nI (10 + x)))]) rfl rfl ?_
  refine x_aload_n dX5_countAll_0 rfl ?_
  refine x_iconst (nI 0) dX5_countAll_1 (by decide) ?_
  refine x_iload_n dX5_countAll_2 rfl ?_
  refine x_cv3 dX5_countAll_3 rfl (by first | assumption | (simp (disch := omega) only [up_s, up_n]; first | assumption | rfl)) rfl ?_
  refine Cm.rt (s_X5_countOf_c hO hA (j := 0) (by omega) (hF 0 (by omega)) hx) ?_
  refine x_aload_n dX5_countAll_6 rfl ?_
  refine x_iconst (nI 1) dX5_countAll_7 (by decide) ?_
  refine x_iload_n dX5_countAll_8 rfl ?_
  refine x_cv3 dX5_countAll_9 rfl (by first | assumption | (simp (disch := omega) only [up_s, up_n]; first | assumption | rfl)) rfl ?_
  refine Cm.rt (s_X5_countOf_c hO hA (j := 1) (by omega) (hF 1 (by omega)) hx) ?_
  refine x_iaddN dX5_countAll_12 ?_
  refine x_aload_n dX5_countAll_13 rfl ?_
  refine x_iconst (nI 2) dX5_countAll_14 (by decide) ?_
  refine x_iload_n dX5_countAll_15 rfl ?_
  refine x_cv3 dX5_countAll_16 rfl (by first | assumption | (simp (disch := omega) only [up_s, up_n]; first | assumption | rfl)) rfl ?_
  refine Cm.rt (s_X5_countOf_c hO hA (j := 2) (by omega) (hF 2 (by omega)) hx) ?_
  refine x_iaddN dX5_countAll_19 ?_
  refine x_ireturn dX5_countAll_20 ?_
  refine ⟨?_, rfl⟩
  simp only [sumN, Nat.zero_add]
theorem cnt_true {L : List Pl} : L.countP (fun _ => true) = L.length := by
  induction L with
  | nil => rfl
  | cons a l ih => simp [List.countP_cons, ih]
theorem cntF_true {F : Fx} : sumN (fun j => (F j).flatten.countP (fun _ => true)) 3 = nF F := by
  unfold nF
  simp only [sumN, cnt_true]
set_option maxRecDepth 20000 in
set_option maxHeartbeats 1000000 in
theorem s_X5_sorts {c : Nat → VC} {g : VG} {n tl th : Int32} {f : Nat → Int32} (hO : RO c n tl th) (hA : AA c f) {σ : Sg} (h : RepA f σ) : Cm k_X5_sorts [.ref 456] (g, c) (Rt (.int (nI (totM σ))) (g, c)) := by
  refine Cm.in (M := M_X5_sorts) (ls := [some (.ref 456)]) rfl rfl ?_
  refine x_aload_n dX5_sorts_0 rfl ?_
  refine x_cv1 dX5_sorts_1 rfl (by first | assumption | (simp (disch := omega) only [up_s, up_n]; first | assumption | rfl)) rfl ?_
  refine Cm.rt (s_X5_inBoxes hO hA h.1) ?_
  refine x_aload_n dX5_sorts_4 rfl ?_
  refine x_iconst (nI 0) dX5_sorts_5 (by decide) ?_
  refine x_cv2 dX5_sorts_6 rfl (by first | assumption | (simp (disch := omega) only [up_s, up_n]; first | assumption | rfl)) rfl ?_
  refine Cm.rt (s_X5_countAll_0 hO hA h.2.1) ?_
  rw [cntF_true]
  refine x_iaddN dX5_sorts_9 ?_
  refine x_aload_n dX5_sorts_10 rfl ?_
  refine x_getfield dX5_sorts_11 rfl (by decide) (by first | assumption | (simp (disch := omega) only [up_s, up_n]; first | assumption | rfl)) rfl ?_
  refine x_sipush (nI 1265) dX5_sorts_14 (by decide) ?_
  refine x_ialoadN dX5_sorts_17 (by first | assumption | (simp (disch := omega) only [up_s, up_n]; first | assumption | rfl)) (by omega) (by omega) ?_
  rw [h.2.2.1.1]
  refine x_iaddN dX5_sorts_18 ?_
  refine x_ireturn dX5_sorts_19 ?_
  exact ⟨rfl, rfl⟩
def TxR (tx : Nat → Int32) (T : List Nat) : Prop := T.length ≤ 16 ∧ (∀ x ∈ T, x < 27) ∧ ∀ (i : Nat) (hi : i < T.length), tx i = nI T[i]
set_option maxRecDepth 20000 in
set_option maxHeartbeats 1000000 in
theorem l_X5_lacking {c : Nat → VC} {g : VG} {n th : Int32} {T : List Nat} {tx : Nat → Int32} {f : Nat → Int32} {B : Bx} (hO : RO c n (nI T.length) th) (hA : AA c f) (hX : c 460 = cI 16 tx) (hT : TxR tx T) (hB : BoxR f B) {a : Nat} (ha : a < 27) : ∀ (m i : Nat), i ≤ T.length → T.length < i + m → Xm M_X5_lacking 4 [some (.ref 456), some (.int (nI a)), some (.int (nI ((T.take i).count a))), some (.int (nI i))] [] (g, c) (Rt (.int (nI (lk T B a))) (g, c)) := by
  obtain ⟨g1, g2, g3⟩ := hT
  intro m
  induction m with
  | zero => intro i z1 z2; omega
  | succ m ih =>
    intro i z1 z2
    refine x_iload_n dX5_lacking_4 rfl ?_
    refine x_aload_n dX5_lacking_5 rfl ?_
    refine x_getfield dX5_lacking_6 rfl (by decide) (by first | assumption | (simp (disch := omega) only [up_s, up_n]; first | assumption | rfl)) rfl ?_
    refine x_icmp_ge 36 dX5_lacking_9 (by decide) (fun c9 => ?_) (fun c9 => ?_)
    · have e1 : i = T.length := by have := (nI_leI (by omega) (by omega)).mp c9; omega
      subst e1
      rw [List.take_length]
      have hc1 : T.count a ≤ T.length := List.count_le_length
      have hc2 : (B a).count a ≤ 250 := by
        obtain ⟨ss, hss⟩ := hB
        have h1 : (B a).count a ≤ (B a).length := List.count_le_length
        have h2 := hss.len ha
        have h3 := hole 0 [] (fun s hs => absurd hs (Nat.not_lt_zero s))
        have h4 : (ss a).length ≤ 250 := by
          have h5 := cntP_list (p := fun _ => false) (n := 250) (hss.2.2.2.1 a ha) (hss.2.2.1 a ha) (fun s _ q => by cases q)
          have h6 : ∀ n (l : List Nat), l.Nodup → (∀ s ∈ l, s < n) → l.length ≤ n := by
            intro n
            induction n with
            | zero => intro l _ hl; cases l with
              | nil => exact Nat.le_refl _
              | cons b l => exact absurd (hl b List.mem_cons_self) (Nat.not_lt_zero b)
            | succ n ih9 =>
              intro l hn hl
              by_cases hm : n ∈ l
              · have hp : l.Perm (n :: l.erase n) := List.perm_cons_erase hm
                have hn2 := List.nodup_cons.mp (hp.nodup_iff.mp hn)
                have h7 := ih9 (l.erase n) hn2.2 (fun s hs => by
                  have h8 := hl s (List.mem_of_mem_erase hs)
                  have h9 : s ≠ n := fun z => hn2.1 (z ▸ hs)
                  omega)
                have h8 := hp.length_eq
                simp only [List.length_cons] at h8
                omega
              · have := ih9 l hn (fun s hs => by
                  have h8 := hl s hs
                  have h9 : s ≠ n := fun z => hm (z ▸ hs)
                  omega)
                omega
          exact h6 250 (ss a) (hss.2.2.2.1 a ha) (hss.2.2.1 a ha)
        omega
      refine x_aload_n dX5_lacking_36 rfl ?_
      refine x_iload_n dX5_lacking_37 rfl ?_
      refine x_iload_n dX5_lacking_38 rfl ?_
      refine x_cv3 dX5_lacking_39 rfl (by first | assumption | (simp (disch := omega) only [up_s, up_n]; first | assumption | rfl)) rfl ?_
      refine Cm.rt (s_X5_countIn_c hO hA hB ha ha) ?_
      refine x_istore_n3 dX5_lacking_42 rfl ?_
      refine x_iload_n dX5_lacking_43 rfl ?_
      refine x_iload_n dX5_lacking_44 rfl ?_
      refine x_icmp_le 54 dX5_lacking_45 (by decide) (fun c45 => ?_) (fun c45 => ?_)
      · have hle := (nI_leI (by omega) (by omega)).mp c45
        refine x_iconst (nI 0) dX5_lacking_54 (by decide) ?_
        refine x_ireturn dX5_lacking_55 ?_
        exact ⟨by unfold lk; first | rfl | (rw [show T.count a - (B a).count a = 0 by omega]), rfl⟩
      · have hgt : (B a).count a < T.count a := by
          by_cases q : (B a).count a < T.count a
          · exact q
          · exact absurd ((nI_leI (by omega) (by omega)).mpr (by omega)) c45
        refine x_iload_n dX5_lacking_48 rfl ?_
        refine x_iload_n dX5_lacking_49 rfl ?_
        refine x_isubN dX5_lacking_50 (by omega) ?_
        refine x_goto 55 dX5_lacking_51 (by decide) ?_
        refine x_ireturn dX5_lacking_55 ?_
        exact ⟨by unfold lk; first | rfl | (rw [show T.count a - (B a).count a = 0 by omega]), rfl⟩
    · have hi : i < T.length := by
        by_cases q : i < T.length
        · exact q
        · exact absurd ((nI_leI (by omega) (by omega)).mpr (by omega)) c9
      have hli := g2 _ (List.getElem_mem hi)
      refine x_iload_n dX5_lacking_12 rfl ?_
      refine x_aload_n dX5_lacking_13 rfl ?_
      refine x_getfield dX5_lacking_14 rfl (by decide) (by first | assumption | (simp (disch := omega) only [up_s, up_n]; first | assumption | rfl)) rfl ?_
      refine x_iload_n dX5_lacking_17 rfl ?_
      refine x_ialoadN dX5_lacking_18 (by first | assumption | (simp (disch := omega) only [up_s, up_n]; first | assumption | rfl)) (by omega) (by omega) ?_
      rw [g3 i hi]
      refine x_iload_n dX5_lacking_19 rfl ?_
      refine x_icmp_ne 27 dX5_lacking_20 (by decide) (fun c20 => ?_) (fun c20 => ?_)
      · have ne : ¬ T[i] = a := fun z => c20 (by rw [z])
        refine x_iconst (nI 0) dX5_lacking_27 (by decide) ?_
        refine x_iaddN dX5_lacking_28 ?_
        first
          | rw [← take_cnt1 hi ee]
          | rw [Nat.add_zero, ← take_cnt0 hi ne]
        refine x_istore_n2 dX5_lacking_29 rfl ?_
        refine x_iincN_3 (1) dX5_lacking_30 (by decide) rfl ?_
        refine x_goto 4 dX5_lacking_33 (by decide) ?_
        exact ih (i + 1) (by omega) (by omega)
      · have ee : T[i] = a := (nI_eq (by omega) (by omega)).mp c20
        refine x_iconst (nI 1) dX5_lacking_23 (by decide) ?_
        refine x_goto 28 dX5_lacking_24 (by decide) ?_
        refine x_iaddN dX5_lacking_28 ?_
        first
          | rw [← take_cnt1 hi ee]
          | rw [Nat.add_zero, ← take_cnt0 hi ne]
        refine x_istore_n2 dX5_lacking_29 rfl ?_
        refine x_iincN_3 (1) dX5_lacking_30 (by decide) rfl ?_
        refine x_goto 4 dX5_lacking_33 (by decide) ?_
        exact ih (i + 1) (by omega) (by omega)
set_option maxRecDepth 20000 in
set_option maxHeartbeats 1000000 in
theorem s_X5_lacking {c : Nat → VC} {g : VG} {n th : Int32} {T : List Nat} {tx : Nat → Int32} {f : Nat → Int32} {B : Bx} (hO : RO c n (nI T.length) th) (hA : AA c f) (hX : c 460 = cI 16 tx) (hT : TxR tx T) (hB : BoxR f B) {a : Nat} (ha : a < 27) : Cm k_X5_lacking [.ref 456, .int (nI a)] (g, c) (Rt (.int (nI (lk T B a))) (g, c)) := by
  refine Cm.in (M := M_X5_lacking) (ls := [some (.ref 456), some (.int (nI a)), none, none]) rfl rfl ?_
  refine x_iconst (nI 0) dX5_lacking_0 (by decide) ?_
  refine x_istore_n2 dX5_lacking_1 rfl ?_
  refine x_iconst (nI 0) dX5_lacking_2 (by decide) ?_
  refine x_istore_n3 dX5_lacking_3 rfl ?_
  exact l_X5_lacking hO hA hX hT hB ha (T.length + 1) 0 (Nat.zero_le _) (by omega)
set_option maxRecDepth 20000 in
set_option maxHeartbeats 2000000 in
theorem s_X5_letterOf0 {c : Nat → VC} {g : VG} {n th : Int32} {S : St} {tx : Nat → Int32} {f : Nat → Int32} (hO : RO c n (nI S.2.1.length) th) (hA : AA c f) (hX : c 460 = cI 16 tx) (hT : TxR tx S.2.1) (h : RepA f S.1) {a : Nat} (ha : a < 27) : Cm k_X5_letterOf [.ref 456, .int (nI a), .int (nI 0)] (g, c) (Rt (.int (letV S a 0)) (g, c)) := by
  refine Cm.in (M := M_X5_letterOf) (ls := [some (.ref 456), some (.int (nI a)), some (.int (nI 0))]) rfl rfl ?_
  refine x_iload_n dX5_letterOf_0 rfl ?_
  refine x_tab (off := 43) 44 dX5_letterOf_1 (by decide) (by decide) (by decide) ?_
  refine x_aload_n dX5_letterOf_44 rfl ?_
  refine x_iload_n dX5_letterOf_45 rfl ?_
  refine x_iconst (-1) dX5_letterOf_46 (by decide) ?_
  refine x_cv3 dX5_letterOf_47 rfl (by first | assumption | (simp (disch := omega) only [up_s, up_n]; first | assumption | rfl)) rfl ?_
  refine Cm.rt (s_X5_countIn_n hO hA h.1 ha) ?_
  refine x_ireturn dX5_letterOf_50 ?_
  exact ⟨rfl, rfl⟩
set_option maxRecDepth 20000 in
set_option maxHeartbeats 2000000 in
theorem s_X5_letterOf1 {c : Nat → VC} {g : VG} {n th : Int32} {S : St} {tx : Nat → Int32} {f : Nat → Int32} (hO : RO c n (nI S.2.1.length) th) (hA : AA c f) (hX : c 460 = cI 16 tx) (hT : TxR tx S.2.1) (h : RepA f S.1) {a : Nat} (ha : a < 27) : Cm k_X5_letterOf [.ref 456, .int (nI a), .int (nI 1)] (g, c) (Rt (.int (letV S a 1)) (g, c)) := by
  refine Cm.in (M := M_X5_letterOf) (ls := [some (.ref 456), some (.int (nI a)), some (.int (nI 1))]) rfl rfl ?_
  refine x_iload_n dX5_letterOf_0 rfl ?_
  refine x_tab (off := 50) 51 dX5_letterOf_1 (by decide) (by decide) (by decide) ?_
  refine x_aload_n dX5_letterOf_51 rfl ?_
  refine x_iload_n dX5_letterOf_52 rfl ?_
  refine x_cv2 dX5_letterOf_53 rfl (by first | assumption | (simp (disch := omega) only [up_s, up_n]; first | assumption | rfl)) rfl ?_
  refine Cm.rt (s_X5_foulIn hO hA h.1 ha) ?_
  refine x_ireturn dX5_letterOf_56 ?_
  exact ⟨rfl, rfl⟩
set_option maxRecDepth 20000 in
set_option maxHeartbeats 2000000 in
theorem s_X5_letterOf2 {c : Nat → VC} {g : VG} {n th : Int32} {S : St} {tx : Nat → Int32} {f : Nat → Int32} (hO : RO c n (nI S.2.1.length) th) (hA : AA c f) (hX : c 460 = cI 16 tx) (hT : TxR tx S.2.1) (h : RepA f S.1) {a : Nat} (ha : a < 27) : Cm k_X5_letterOf [.ref 456, .int (nI a), .int (nI 2)] (g, c) (Rt (.int (letV S a 2)) (g, c)) := by
  refine Cm.in (M := M_X5_letterOf) (ls := [some (.ref 456), some (.int (nI a)), some (.int (nI 2))]) rfl rfl ?_
  refine x_iload_n dX5_letterOf_0 rfl ?_
  refine x_tab (off := 56) 57 dX5_letterOf_1 (by decide) (by decide) (by decide) ?_
  refine x_aload_n dX5_letterOf_57 rfl ?_
  refine x_iload_n dX5_letterOf_58 rfl ?_
  refine x_cv2 dX5_letterOf_59 rfl (by first | assumption | (simp (disch := omega) only [up_s, up_n]; first | assumption | rfl)) rfl ?_
  refine Cm.rt (s_X5_inAllBoxes hO hA h.1 ha) ?_
  refine x_ireturn dX5_letterOf_62 ?_
  exact ⟨rfl, rfl⟩
set_option maxRecDepth 20000 in
set_option maxHeartbeats 2000000 in
theorem s_X5_letterOf3 {c : Nat → VC} {g : VG} {n th : Int32} {S : St} {tx : Nat → Int32} {f : Nat → Int32} (hO : RO c n (nI S.2.1.length) th) (hA : AA c f) (hX : c 460 = cI 16 tx) (hT : TxR tx S.2.1) (h : RepA f S.1) {a : Nat} (ha : a < 27) : Cm k_X5_letterOf [.ref 456, .int (nI a), .int (nI 3)] (g, c) (Rt (.int (letV S a 3)) (g, c)) := by
  refine Cm.in (M := M_X5_letterOf) (ls := [some (.ref 456), some (.int (nI a)), some (.int (nI 3))]) rfl rfl ?_
  refine x_iload_n dX5_letterOf_0 rfl ?_
  refine x_tab (off := 62) 63 dX5_letterOf_1 (by decide) (by decide) (by decide) ?_
  refine x_aload_n dX5_letterOf_63 rfl ?_
  refine x_bipush (nI 10) dX5_letterOf_64 (by decide) ?_
  refine x_iload_n dX5_letterOf_66 rfl ?_
  refine x_iaddN dX5_letterOf_67 ?_
  refine x_cv2 dX5_letterOf_68 rfl (by first | assumption | (simp (disch := omega) only [up_s, up_n]; first | assumption | rfl)) rfl ?_
  refine Cm.rt (s_X5_countAll_c hO hA h.2.1 ha) ?_
  refine x_ireturn dX5_letterOf_71 ?_
  exact ⟨rfl, rfl⟩
set_option maxRecDepth 20000 in
set_option maxHeartbeats 2000000 in
theorem s_X5_letterOf4 {c : Nat → VC} {g : VG} {n th : Int32} {S : St} {tx : Nat → Int32} {f : Nat → Int32} (hO : RO c n (nI S.2.1.length) th) (hA : AA c f) (hX : c 460 = cI 16 tx) (hT : TxR tx S.2.1) (h : RepA f S.1) {a : Nat} (ha : a < 27) : Cm k_X5_letterOf [.ref 456, .int (nI a), .int (nI 4)] (g, c) (Rt (.int (letV S a 4)) (g, c)) := by
  refine Cm.in (M := M_X5_letterOf) (ls := [some (.ref 456), some (.int (nI a)), some (.int (nI 4))]) rfl rfl ?_
  refine x_iload_n dX5_letterOf_0 rfl ?_
  refine x_tab (off := 71) 72 dX5_letterOf_1 (by decide) (by decide) (by decide) ?_
  refine x_aload_n dX5_letterOf_72 rfl ?_
  refine x_iload_n dX5_letterOf_73 rfl ?_
  refine x_cv2 dX5_letterOf_74 rfl (by first | assumption | (simp (disch := omega) only [up_s, up_n]; first | assumption | rfl)) rfl ?_
  refine Cm.rt (s_X5_inTheHeap hO hA h.2.2.1 ha) ?_
  refine x_ireturn dX5_letterOf_77 ?_
  exact ⟨rfl, rfl⟩
set_option maxRecDepth 20000 in
set_option maxHeartbeats 2000000 in
theorem s_X5_letterOf5 {c : Nat → VC} {g : VG} {n th : Int32} {S : St} {tx : Nat → Int32} {f : Nat → Int32} (hO : RO c n (nI S.2.1.length) th) (hA : AA c f) (hX : c 460 = cI 16 tx) (hT : TxR tx S.2.1) (h : RepA f S.1) {a : Nat} (ha : a < 27) : Cm k_X5_letterOf [.ref 456, .int (nI a), .int (nI 5)] (g, c) (Rt (.int (letV S a 5)) (g, c)) := by
  refine Cm.in (M := M_X5_letterOf) (ls := [some (.ref 456), some (.int (nI a)), some (.int (nI 5))]) rfl rfl ?_
  refine x_iload_n dX5_letterOf_0 rfl ?_
  refine x_tab (off := 77) 78 dX5_letterOf_1 (by decide) (by decide) (by decide) ?_
  refine x_iload_n dX5_letterOf_78 rfl ?_
  refine x_cs1 dX5_letterOf_79 rfl ?_
  refine Cm.rt (s_X5_widthOf ha) ?_
  refine x_ireturn dX5_letterOf_82 ?_
  exact ⟨rfl, rfl⟩
set_option maxRecDepth 20000 in
set_option maxHeartbeats 2000000 in
theorem s_X5_letterOf6 {c : Nat → VC} {g : VG} {n th : Int32} {S : St} {tx : Nat → Int32} {f : Nat → Int32} (hO : RO c n (nI S.2.1.length) th) (hA : AA c f) (hX : c 460 = cI 16 tx) (hT : TxR tx S.2.1) (h : RepA f S.1) {a : Nat} (ha : a < 27) : Cm k_X5_letterOf [.ref 456, .int (nI a), .int (nI 6)] (g, c) (Rt (.int (letV S a 6)) (g, c)) := by
  obtain ⟨ss, hss⟩ := h.1
  by_cases hem : S.1.1 a = []
  · have hv : letV S a 6 = -1 := by unfold letV; rw [hem]; rfl
    rw [hv]
    have htop : f (500 + a) = -1 := by
      have h1 := hss.1 a ha
      have h2 := hss.len ha
      rw [hem] at h2
      rw [List.eq_nil_of_length_eq_zero h2] at h1
      exact h1
    refine Cm.in (M := M_X5_letterOf) (ls := [some (.ref 456), some (.int (nI a)), some (.int (nI 6))]) rfl rfl ?_
    refine x_iload_n dX5_letterOf_0 rfl ?_
    refine x_tab (off := 82) 83 dX5_letterOf_1 (by decide) (by decide) (by decide) ?_
    refine x_aload_n dX5_letterOf_83 rfl ?_
    refine x_getfield dX5_letterOf_84 rfl (by decide) (by first | assumption | (simp (disch := omega) only [up_s, up_n]; first | assumption | rfl)) rfl ?_
    refine x_sipush (nI 500) dX5_letterOf_87 (by decide) ?_
    refine x_iload_n dX5_letterOf_90 rfl ?_
    refine x_iaddN dX5_letterOf_91 ?_
    refine x_ialoadN dX5_letterOf_92 (by first | assumption | (simp (disch := omega) only [up_s, up_n]; first | assumption | rfl)) (by omega) (by omega) ?_
    rw [htop]
    refine x_iconst (-1) dX5_letterOf_93 (by decide) ?_
    refine x_icmp_ne 101 dX5_letterOf_94 (by decide) (fun c94 => ?_) (fun c94 => ?_)
    · exact absurd rfl c94
    · refine x_iconst (-1) dX5_letterOf_97 (by decide) ?_
      refine x_goto 118 dX5_letterOf_98 (by decide) ?_
      refine x_ireturn dX5_letterOf_118 ?_
      exact ⟨rfl, rfl⟩
  · obtain ⟨l, y, hly⟩ : ∃ l y, S.1.1 a = l ++ [y] := ⟨_, _, snoc_of (List.length_pos_iff.mpr hem)⟩
    have hv : letV S a 6 = nI y := by unfold letV; rw [hly]; simp [ixV]
    rw [hv]
    obtain ⟨s9, q9, g1, g2, g3, g4, g5, g6⟩ := hss.top ha hly
    refine Cm.in (M := M_X5_letterOf) (ls := [some (.ref 456), some (.int (nI a)), some (.int (nI 6))]) rfl rfl ?_
    refine x_iload_n dX5_letterOf_0 rfl ?_
    refine x_tab (off := 82) 83 dX5_letterOf_1 (by decide) (by decide) (by decide) ?_
    refine x_aload_n dX5_letterOf_83 rfl ?_
    refine x_getfield dX5_letterOf_84 rfl (by decide) (by first | assumption | (simp (disch := omega) only [up_s, up_n]; first | assumption | rfl)) rfl ?_
    refine x_sipush (nI 500) dX5_letterOf_87 (by decide) ?_
    refine x_iload_n dX5_letterOf_90 rfl ?_
    refine x_iaddN dX5_letterOf_91 ?_
    refine x_ialoadN dX5_letterOf_92 (by first | assumption | (simp (disch := omega) only [up_s, up_n]; first | assumption | rfl)) (by omega) (by omega) ?_
    rw [g3]
    refine x_iconst (-1) dX5_letterOf_93 (by decide) ?_
    refine x_icmp_ne 101 dX5_letterOf_94 (by decide) (fun c94 => ?_) (fun c94 => ?_)
    · refine x_aload_n dX5_letterOf_101 rfl ?_
      refine x_getfield dX5_letterOf_102 rfl (by decide) (by first | assumption | (simp (disch := omega) only [up_s, up_n]; first | assumption | rfl)) rfl ?_
      refine x_iconst (nI 0) dX5_letterOf_105 (by decide) ?_
      refine x_aload_n dX5_letterOf_106 rfl ?_
      refine x_getfield dX5_letterOf_107 rfl (by decide) (by first | assumption | (simp (disch := omega) only [up_s, up_n]; first | assumption | rfl)) rfl ?_
      refine x_sipush (nI 500) dX5_letterOf_110 (by decide) ?_
      refine x_iload_n dX5_letterOf_113 rfl ?_
      refine x_iaddN dX5_letterOf_114 ?_
      refine x_ialoadN dX5_letterOf_115 (by first | assumption | (simp (disch := omega) only [up_s, up_n]; first | assumption | rfl)) (by omega) (by omega) ?_
      rw [g3]
      refine x_iaddN dX5_letterOf_116 ?_
      refine x_ialoadN dX5_letterOf_117 (by first | assumption | (simp (disch := omega) only [up_s, up_n]; first | assumption | rfl)) (by omega) (by omega) ?_
      rw [Nat.zero_add s9, g2]
      refine x_ireturn dX5_letterOf_118 ?_
      exact ⟨rfl, rfl⟩
    · exact absurd c94 (m1_ne (by omega))
set_option maxRecDepth 20000 in
set_option maxHeartbeats 2000000 in
theorem s_X5_letterOf7 {c : Nat → VC} {g : VG} {n th : Int32} {S : St} {tx : Nat → Int32} {f : Nat → Int32} (hO : RO c n (nI S.2.1.length) th) (hA : AA c f) (hX : c 460 = cI 16 tx) (hT : TxR tx S.2.1) (h : RepA f S.1) {a : Nat} (ha : a < 27) : Cm k_X5_letterOf [.ref 456, .int (nI a), .int (nI 7)] (g, c) (Rt (.int (letV S a 7)) (g, c)) := by
  refine Cm.in (M := M_X5_letterOf) (ls := [some (.ref 456), some (.int (nI a)), some (.int (nI 7))]) rfl rfl ?_
  refine x_iload_n dX5_letterOf_0 rfl ?_
  refine x_tabD 119 dX5_letterOf_1 (by decide) (by decide) ?_
  refine x_aload_n dX5_letterOf_119 rfl ?_
  refine x_iload_n dX5_letterOf_120 rfl ?_
  refine x_cv2 dX5_letterOf_121 rfl (by first | assumption | (simp (disch := omega) only [up_s, up_n]; first | assumption | rfl)) rfl ?_
  refine Cm.rt (s_X5_lacking hO hA hX hT h.1 ha) ?_
  refine x_ireturn dX5_letterOf_124 ?_
  exact ⟨rfl, rfl⟩
theorem s_X5_letterOf {c : Nat → VC} {g : VG} {n th : Int32} {S : St} {tx : Nat → Int32} {f : Nat → Int32} (hO : RO c n (nI S.2.1.length) th) (hA : AA c f) (hX : c 460 = cI 16 tx) (hT : TxR tx S.2.1) (h : RepA f S.1) {a k : Nat} (ha : a < 27) (hk : k < 8) : Cm k_X5_letterOf [.ref 456, .int (nI a), .int (nI k)] (g, c) (Rt (.int (letV S a k)) (g, c)) := by
  rcases (show k = 0 ∨ k = 1 ∨ k = 2 ∨ k = 3 ∨ k = 4 ∨ k = 5 ∨ k = 6 ∨ k = 7 by omega) with rfl | rfl | rfl | rfl | rfl | rfl | rfl | rfl
  · exact s_X5_letterOf0 hO hA hX hT h ha
  · exact s_X5_letterOf1 hO hA hX hT h ha
  · exact s_X5_letterOf2 hO hA hX hT h ha
  · exact s_X5_letterOf3 hO hA hX hT h ha
  · exact s_X5_letterOf4 hO hA hX hT h ha
  · exact s_X5_letterOf5 hO hA hX hT h ha
  · exact s_X5_letterOf6 hO hA hX hT h ha
  · exact s_X5_letterOf7 hO hA hX hT h ha
set_option maxRecDepth 20000 in
set_option maxHeartbeats 1000000 in
theorem s_X5_valueOf0 {c : Nat → VC} {g : VG} {n tl th : Int32} {σ : Sg} {f : Nat → Int32} (hO : RO c n tl th) (hA : AA c f) (h : RepA f σ) : Cm k_X5_valueOf [.ref 456, .int (nI 0)] (g, c) (Rt (.int (valM σ 0)) (g, c)) := by
  obtain ⟨g1, g2, g3, g4, g5⟩ := h.2.2.2
  refine Cm.in (M := M_X5_valueOf) (ls := [some (.ref 456), some (.int (nI 0))]) rfl rfl ?_
  refine x_iload_n dX5_valueOf_0 rfl ?_
  refine x_tab (off := 63) 64 dX5_valueOf_1 (by decide) (by decide) (by decide) ?_
  refine x_aload_n dX5_valueOf_64 rfl ?_
  refine x_cv1 dX5_valueOf_65 rfl (by first | assumption | (simp (disch := omega) only [up_s, up_n]; first | assumption | rfl)) rfl ?_
  refine Cm.rt (s_X5_inBoxes hO hA h.1) ?_
  refine x_ireturn dX5_valueOf_68 ?_
  first
    | exact ⟨rfl, rfl⟩
    | exact ⟨by show Sum.inl (some (Value.int (f 1516))) = _; rw [g1]; rfl, rfl⟩
    | exact ⟨by show Sum.inl (some (Value.int (f 1517))) = _; rw [g2]; rfl, rfl⟩
    | exact ⟨by show Sum.inl (some (Value.int (f 1518))) = _; rw [g3]; rfl, rfl⟩
    | exact ⟨by show Sum.inl (some (Value.int (f 1519))) = _; rw [g4]; rfl, rfl⟩
    | exact ⟨by show Sum.inl (some (Value.int (f 1520))) = _; rw [g5]; rfl, rfl⟩
set_option maxRecDepth 20000 in
set_option maxHeartbeats 1000000 in
theorem s_X5_valueOf1 {c : Nat → VC} {g : VG} {n tl th : Int32} {σ : Sg} {f : Nat → Int32} (hO : RO c n tl th) (hA : AA c f) (h : RepA f σ) : Cm k_X5_valueOf [.ref 456, .int (nI 1)] (g, c) (Rt (.int (valM σ 1)) (g, c)) := by
  obtain ⟨g1, g2, g3, g4, g5⟩ := h.2.2.2
  refine Cm.in (M := M_X5_valueOf) (ls := [some (.ref 456), some (.int (nI 1))]) rfl rfl ?_
  refine x_iload_n dX5_valueOf_0 rfl ?_
  refine x_tab (off := 68) 69 dX5_valueOf_1 (by decide) (by decide) (by decide) ?_
  refine x_aload_n dX5_valueOf_69 rfl ?_
  refine x_iconst (nI 0) dX5_valueOf_70 (by decide) ?_
  refine x_cv2 dX5_valueOf_71 rfl (by first | assumption | (simp (disch := omega) only [up_s, up_n]; first | assumption | rfl)) rfl ?_
  refine Cm.rt (s_X5_countAll_0 hO hA h.2.1) ?_
  rw [cntF_true]
  refine x_ireturn dX5_valueOf_74 ?_
  first
    | exact ⟨rfl, rfl⟩
    | exact ⟨by show Sum.inl (some (Value.int (f 1516))) = _; rw [g1]; rfl, rfl⟩
    | exact ⟨by show Sum.inl (some (Value.int (f 1517))) = _; rw [g2]; rfl, rfl⟩
    | exact ⟨by show Sum.inl (some (Value.int (f 1518))) = _; rw [g3]; rfl, rfl⟩
    | exact ⟨by show Sum.inl (some (Value.int (f 1519))) = _; rw [g4]; rfl, rfl⟩
    | exact ⟨by show Sum.inl (some (Value.int (f 1520))) = _; rw [g5]; rfl, rfl⟩
set_option maxRecDepth 20000 in
set_option maxHeartbeats 1000000 in
theorem s_X5_valueOf2 {c : Nat → VC} {g : VG} {n tl th : Int32} {σ : Sg} {f : Nat → Int32} (hO : RO c n tl th) (hA : AA c f) (h : RepA f σ) : Cm k_X5_valueOf [.ref 456, .int (nI 2)] (g, c) (Rt (.int (valM σ 2)) (g, c)) := by
  obtain ⟨g1, g2, g3, g4, g5⟩ := h.2.2.2
  refine Cm.in (M := M_X5_valueOf) (ls := [some (.ref 456), some (.int (nI 2))]) rfl rfl ?_
  refine x_iload_n dX5_valueOf_0 rfl ?_
  refine x_tab (off := 74) 75 dX5_valueOf_1 (by decide) (by decide) (by decide) ?_
  refine x_aload_n dX5_valueOf_75 rfl ?_
  refine x_getfield dX5_valueOf_76 rfl (by decide) (by first | assumption | (simp (disch := omega) only [up_s, up_n]; first | assumption | rfl)) rfl ?_
  refine x_sipush (nI 1265) dX5_valueOf_79 (by decide) ?_
  refine x_ialoadN dX5_valueOf_82 (by first | assumption | (simp (disch := omega) only [up_s, up_n]; first | assumption | rfl)) (by omega) (by omega) ?_
  rw [h.2.2.1.1]
  refine x_ireturn dX5_valueOf_83 ?_
  first
    | exact ⟨rfl, rfl⟩
    | exact ⟨by show Sum.inl (some (Value.int (f 1516))) = _; rw [g1]; rfl, rfl⟩
    | exact ⟨by show Sum.inl (some (Value.int (f 1517))) = _; rw [g2]; rfl, rfl⟩
    | exact ⟨by show Sum.inl (some (Value.int (f 1518))) = _; rw [g3]; rfl, rfl⟩
    | exact ⟨by show Sum.inl (some (Value.int (f 1519))) = _; rw [g4]; rfl, rfl⟩
    | exact ⟨by show Sum.inl (some (Value.int (f 1520))) = _; rw [g5]; rfl, rfl⟩
set_option maxRecDepth 20000 in
set_option maxHeartbeats 1000000 in
theorem s_X5_valueOf3 {c : Nat → VC} {g : VG} {n tl th : Int32} {σ : Sg} {f : Nat → Int32} (hO : RO c n tl th) (hA : AA c f) (h : RepA f σ) : Cm k_X5_valueOf [.ref 456, .int (nI 3)] (g, c) (Rt (.int (valM σ 3)) (g, c)) := by
  obtain ⟨g1, g2, g3, g4, g5⟩ := h.2.2.2
  refine Cm.in (M := M_X5_valueOf) (ls := [some (.ref 456), some (.int (nI 3))]) rfl rfl ?_
  refine x_iload_n dX5_valueOf_0 rfl ?_
  refine x_tab (off := 83) 84 dX5_valueOf_1 (by decide) (by decide) (by decide) ?_
  refine x_aload_n dX5_valueOf_84 rfl ?_
  refine x_cv1 dX5_valueOf_85 rfl (by first | assumption | (simp (disch := omega) only [up_s, up_n]; first | assumption | rfl)) rfl ?_
  refine Cm.rt (s_X5_sorts hO hA h) ?_
  refine x_ireturn dX5_valueOf_88 ?_
  first
    | exact ⟨rfl, rfl⟩
    | exact ⟨by show Sum.inl (some (Value.int (f 1516))) = _; rw [g1]; rfl, rfl⟩
    | exact ⟨by show Sum.inl (some (Value.int (f 1517))) = _; rw [g2]; rfl, rfl⟩
    | exact ⟨by show Sum.inl (some (Value.int (f 1518))) = _; rw [g3]; rfl, rfl⟩
    | exact ⟨by show Sum.inl (some (Value.int (f 1519))) = _; rw [g4]; rfl, rfl⟩
    | exact ⟨by show Sum.inl (some (Value.int (f 1520))) = _; rw [g5]; rfl, rfl⟩
set_option maxRecDepth 20000 in
set_option maxHeartbeats 1000000 in
theorem s_X5_valueOf4 {c : Nat → VC} {g : VG} {n tl th : Int32} {σ : Sg} {f : Nat → Int32} (hO : RO c n tl th) (hA : AA c f) (h : RepA f σ) : Cm k_X5_valueOf [.ref 456, .int (nI 4)] (g, c) (Rt (.int (valM σ 4)) (g, c)) := by
  obtain ⟨g1, g2, g3, g4, g5⟩ := h.2.2.2
  refine Cm.in (M := M_X5_valueOf) (ls := [some (.ref 456), some (.int (nI 4))]) rfl rfl ?_
  refine x_iload_n dX5_valueOf_0 rfl ?_
  refine x_tab (off := 105) 106 dX5_valueOf_1 (by decide) (by decide) (by decide) ?_
  refine x_aload_n dX5_valueOf_106 rfl ?_
  refine x_getfield dX5_valueOf_107 rfl (by decide) (by first | assumption | (simp (disch := omega) only [up_s, up_n]; first | assumption | rfl)) rfl ?_
  refine x_sipush (nI 1516) dX5_valueOf_110 (by decide) ?_
  refine x_iload_n dX5_valueOf_113 rfl ?_
  refine x_iaddN dX5_valueOf_114 ?_
  refine x_iconst (nI 4) dX5_valueOf_115 (by decide) ?_
  refine x_isubN dX5_valueOf_116 (by omega) ?_
  refine x_ialoadN dX5_valueOf_117 (by first | assumption | (simp (disch := omega) only [up_s, up_n]; first | assumption | rfl)) (by omega) (by omega) ?_
  refine x_ireturn dX5_valueOf_118 ?_
  first
    | exact ⟨rfl, rfl⟩
    | exact ⟨by show Sum.inl (some (Value.int (f 1516))) = _; rw [g1]; rfl, rfl⟩
    | exact ⟨by show Sum.inl (some (Value.int (f 1517))) = _; rw [g2]; rfl, rfl⟩
    | exact ⟨by show Sum.inl (some (Value.int (f 1518))) = _; rw [g3]; rfl, rfl⟩
    | exact ⟨by show Sum.inl (some (Value.int (f 1519))) = _; rw [g4]; rfl, rfl⟩
    | exact ⟨by show Sum.inl (some (Value.int (f 1520))) = _; rw [g5]; rfl, rfl⟩
set_option maxRecDepth 20000 in
set_option maxHeartbeats 1000000 in
theorem s_X5_valueOf5 {c : Nat → VC} {g : VG} {n tl th : Int32} {σ : Sg} {f : Nat → Int32} (hO : RO c n tl th) (hA : AA c f) (h : RepA f σ) : Cm k_X5_valueOf [.ref 456, .int (nI 5)] (g, c) (Rt (.int (valM σ 5)) (g, c)) := by
  obtain ⟨g1, g2, g3, g4, g5⟩ := h.2.2.2
  refine Cm.in (M := M_X5_valueOf) (ls := [some (.ref 456), some (.int (nI 5))]) rfl rfl ?_
  refine x_iload_n dX5_valueOf_0 rfl ?_
  refine x_tab (off := 105) 106 dX5_valueOf_1 (by decide) (by decide) (by decide) ?_
  refine x_aload_n dX5_valueOf_106 rfl ?_
  refine x_getfield dX5_valueOf_107 rfl (by decide) (by first | assumption | (simp (disch := omega) only [up_s, up_n]; first | assumption | rfl)) rfl ?_
  refine x_sipush (nI 1516) dX5_valueOf_110 (by decide) ?_
  refine x_iload_n dX5_valueOf_113 rfl ?_
  refine x_iaddN dX5_valueOf_114 ?_
  refine x_iconst (nI 4) dX5_valueOf_115 (by decide) ?_
  refine x_isubN dX5_valueOf_116 (by omega) ?_
  refine x_ialoadN dX5_valueOf_117 (by first | assumption | (simp (disch := omega) only [up_s, up_n]; first | assumption | rfl)) (by omega) (by omega) ?_
  refine x_ireturn dX5_valueOf_118 ?_
  first
    | exact ⟨rfl, rfl⟩
    | exact ⟨by show Sum.inl (some (Value.int (f 1516))) = _; rw [g1]; rfl, rfl⟩
    | exact ⟨by show Sum.inl (some (Value.int (f 1517))) = _; rw [g2]; rfl, rfl⟩
    | exact ⟨by show Sum.inl (some (Value.int (f 1518))) = _; rw [g3]; rfl, rfl⟩
    | exact ⟨by show Sum.inl (some (Value.int (f 1519))) = _; rw [g4]; rfl, rfl⟩
    | exact ⟨by show Sum.inl (some (Value.int (f 1520))) = _; rw [g5]; rfl, rfl⟩
set_option maxRecDepth 20000 in
set_option maxHeartbeats 1000000 in
theorem s_X5_valueOf6 {c : Nat → VC} {g : VG} {n tl th : Int32} {σ : Sg} {f : Nat → Int32} (hO : RO c n tl th) (hA : AA c f) (h : RepA f σ) : Cm k_X5_valueOf [.ref 456, .int (nI 6)] (g, c) (Rt (.int (valM σ 6)) (g, c)) := by
  obtain ⟨g1, g2, g3, g4, g5⟩ := h.2.2.2
  refine Cm.in (M := M_X5_valueOf) (ls := [some (.ref 456), some (.int (nI 6))]) rfl rfl ?_
  refine x_iload_n dX5_valueOf_0 rfl ?_
  refine x_tab (off := 105) 106 dX5_valueOf_1 (by decide) (by decide) (by decide) ?_
  refine x_aload_n dX5_valueOf_106 rfl ?_
  refine x_getfield dX5_valueOf_107 rfl (by decide) (by first | assumption | (simp (disch := omega) only [up_s, up_n]; first | assumption | rfl)) rfl ?_
  refine x_sipush (nI 1516) dX5_valueOf_110 (by decide) ?_
  refine x_iload_n dX5_valueOf_113 rfl ?_
  refine x_iaddN dX5_valueOf_114 ?_
  refine x_iconst (nI 4) dX5_valueOf_115 (by decide) ?_
  refine x_isubN dX5_valueOf_116 (by omega) ?_
  refine x_ialoadN dX5_valueOf_117 (by first | assumption | (simp (disch := omega) only [up_s, up_n]; first | assumption | rfl)) (by omega) (by omega) ?_
  refine x_ireturn dX5_valueOf_118 ?_
  first
    | exact ⟨rfl, rfl⟩
    | exact ⟨by show Sum.inl (some (Value.int (f 1516))) = _; rw [g1]; rfl, rfl⟩
    | exact ⟨by show Sum.inl (some (Value.int (f 1517))) = _; rw [g2]; rfl, rfl⟩
    | exact ⟨by show Sum.inl (some (Value.int (f 1518))) = _; rw [g3]; rfl, rfl⟩
    | exact ⟨by show Sum.inl (some (Value.int (f 1519))) = _; rw [g4]; rfl, rfl⟩
    | exact ⟨by show Sum.inl (some (Value.int (f 1520))) = _; rw [g5]; rfl, rfl⟩
set_option maxRecDepth 20000 in
set_option maxHeartbeats 1000000 in
theorem s_X5_valueOf7 {c : Nat → VC} {g : VG} {n tl th : Int32} {σ : Sg} {f : Nat → Int32} (hO : RO c n tl th) (hA : AA c f) (h : RepA f σ) : Cm k_X5_valueOf [.ref 456, .int (nI 7)] (g, c) (Rt (.int (valM σ 7)) (g, c)) := by
  obtain ⟨g1, g2, g3, g4, g5⟩ := h.2.2.2
  refine Cm.in (M := M_X5_valueOf) (ls := [some (.ref 456), some (.int (nI 7))]) rfl rfl ?_
  refine x_iload_n dX5_valueOf_0 rfl ?_
  refine x_tab (off := 105) 106 dX5_valueOf_1 (by decide) (by decide) (by decide) ?_
  refine x_aload_n dX5_valueOf_106 rfl ?_
  refine x_getfield dX5_valueOf_107 rfl (by decide) (by first | assumption | (simp (disch := omega) only [up_s, up_n]; first | assumption | rfl)) rfl ?_
  refine x_sipush (nI 1516) dX5_valueOf_110 (by decide) ?_
  refine x_iload_n dX5_valueOf_113 rfl ?_
  refine x_iaddN dX5_valueOf_114 ?_
  refine x_iconst (nI 4) dX5_valueOf_115 (by decide) ?_
  refine x_isubN dX5_valueOf_116 (by omega) ?_
  refine x_ialoadN dX5_valueOf_117 (by first | assumption | (simp (disch := omega) only [up_s, up_n]; first | assumption | rfl)) (by omega) (by omega) ?_
  refine x_ireturn dX5_valueOf_118 ?_
  first
    | exact ⟨rfl, rfl⟩
    | exact ⟨by show Sum.inl (some (Value.int (f 1516))) = _; rw [g1]; rfl, rfl⟩
    | exact ⟨by show Sum.inl (some (Value.int (f 1517))) = _; rw [g2]; rfl, rfl⟩
    | exact ⟨by show Sum.inl (some (Value.int (f 1518))) = _; rw [g3]; rfl, rfl⟩
    | exact ⟨by show Sum.inl (some (Value.int (f 1519))) = _; rw [g4]; rfl, rfl⟩
    | exact ⟨by show Sum.inl (some (Value.int (f 1520))) = _; rw [g5]; rfl, rfl⟩
set_option maxRecDepth 20000 in
set_option maxHeartbeats 1000000 in
theorem s_X5_valueOf8 {c : Nat → VC} {g : VG} {n tl th : Int32} {σ : Sg} {f : Nat → Int32} (hO : RO c n tl th) (hA : AA c f) (h : RepA f σ) : Cm k_X5_valueOf [.ref 456, .int (nI 8)] (g, c) (Rt (.int (valM σ 8)) (g, c)) := by
  obtain ⟨g1, g2, g3, g4, g5⟩ := h.2.2.2
  refine Cm.in (M := M_X5_valueOf) (ls := [some (.ref 456), some (.int (nI 8))]) rfl rfl ?_
  refine x_iload_n dX5_valueOf_0 rfl ?_
  refine x_tab (off := 105) 106 dX5_valueOf_1 (by decide) (by decide) (by decide) ?_
  refine x_aload_n dX5_valueOf_106 rfl ?_
  refine x_getfield dX5_valueOf_107 rfl (by decide) (by first | assumption | (simp (disch := omega) only [up_s, up_n]; first | assumption | rfl)) rfl ?_
  refine x_sipush (nI 1516) dX5_valueOf_110 (by decide) ?_
  refine x_iload_n dX5_valueOf_113 rfl ?_
  refine x_iaddN dX5_valueOf_114 ?_
  refine x_iconst (nI 4) dX5_valueOf_115 (by decide) ?_
  refine x_isubN dX5_valueOf_116 (by omega) ?_
  refine x_ialoadN dX5_valueOf_117 (by first | assumption | (simp (disch := omega) only [up_s, up_n]; first | assumption | rfl)) (by omega) (by omega) ?_
  refine x_ireturn dX5_valueOf_118 ?_
  first
    | exact ⟨rfl, rfl⟩
    | exact ⟨by show Sum.inl (some (Value.int (f 1516))) = _; rw [g1]; rfl, rfl⟩
    | exact ⟨by show Sum.inl (some (Value.int (f 1517))) = _; rw [g2]; rfl, rfl⟩
    | exact ⟨by show Sum.inl (some (Value.int (f 1518))) = _; rw [g3]; rfl, rfl⟩
    | exact ⟨by show Sum.inl (some (Value.int (f 1519))) = _; rw [g4]; rfl, rfl⟩
    | exact ⟨by show Sum.inl (some (Value.int (f 1520))) = _; rw [g5]; rfl, rfl⟩
set_option maxRecDepth 20000 in
set_option maxHeartbeats 1000000 in
theorem s_X5_valueOf9 {c : Nat → VC} {g : VG} {n tl th : Int32} {σ : Sg} {f : Nat → Int32} (hO : RO c n tl th) (hA : AA c f) (h : RepA f σ) : Cm k_X5_valueOf [.ref 456, .int (nI 9)] (g, c) (Rt (.int (valM σ 9)) (g, c)) := by
  obtain ⟨g1, g2, g3, g4, g5⟩ := h.2.2.2
  refine Cm.in (M := M_X5_valueOf) (ls := [some (.ref 456), some (.int (nI 9))]) rfl rfl ?_
  refine x_iload_n dX5_valueOf_0 rfl ?_
  refine x_tab (off := 88) 89 dX5_valueOf_1 (by decide) (by decide) (by decide) ?_
  refine x_aload_n dX5_valueOf_89 rfl ?_
  refine x_cv1 dX5_valueOf_90 rfl (by first | assumption | (simp (disch := omega) only [up_s, up_n]; first | assumption | rfl)) rfl ?_
  refine Cm.rt (s_X5_allFoul hO hA h.1) ?_
  refine x_ireturn dX5_valueOf_93 ?_
  first
    | exact ⟨rfl, rfl⟩
    | exact ⟨by show Sum.inl (some (Value.int (f 1516))) = _; rw [g1]; rfl, rfl⟩
    | exact ⟨by show Sum.inl (some (Value.int (f 1517))) = _; rw [g2]; rfl, rfl⟩
    | exact ⟨by show Sum.inl (some (Value.int (f 1518))) = _; rw [g3]; rfl, rfl⟩
    | exact ⟨by show Sum.inl (some (Value.int (f 1519))) = _; rw [g4]; rfl, rfl⟩
    | exact ⟨by show Sum.inl (some (Value.int (f 1520))) = _; rw [g5]; rfl, rfl⟩
set_option maxRecDepth 20000 in
set_option maxHeartbeats 1000000 in
theorem s_X5_valueOf10 {c : Nat → VC} {g : VG} {n tl th : Int32} {σ : Sg} {f : Nat → Int32} (hO : RO c n tl th) (hA : AA c f) (h : RepA f σ) : Cm k_X5_valueOf [.ref 456, .int (nI 10)] (g, c) (Rt (.int (valM σ 10)) (g, c)) := by
  obtain ⟨g1, g2, g3, g4, g5⟩ := h.2.2.2
  refine Cm.in (M := M_X5_valueOf) (ls := [some (.ref 456), some (.int (nI 10))]) rfl rfl ?_
  refine x_iload_n dX5_valueOf_0 rfl ?_
  refine x_tab (off := 93) 94 dX5_valueOf_1 (by decide) (by decide) (by decide) ?_
  refine x_aload_n dX5_valueOf_94 rfl ?_
  refine x_iconst (nI 1) dX5_valueOf_95 (by decide) ?_
  refine x_cv2 dX5_valueOf_96 rfl (by first | assumption | (simp (disch := omega) only [up_s, up_n]; first | assumption | rfl)) rfl ?_
  refine Cm.rt (s_X5_countAll_1 hO hA h.2.1) ?_
  refine x_ireturn dX5_valueOf_99 ?_
  first
    | exact ⟨rfl, rfl⟩
    | exact ⟨by show Sum.inl (some (Value.int (f 1516))) = _; rw [g1]; rfl, rfl⟩
    | exact ⟨by show Sum.inl (some (Value.int (f 1517))) = _; rw [g2]; rfl, rfl⟩
    | exact ⟨by show Sum.inl (some (Value.int (f 1518))) = _; rw [g3]; rfl, rfl⟩
    | exact ⟨by show Sum.inl (some (Value.int (f 1519))) = _; rw [g4]; rfl, rfl⟩
    | exact ⟨by show Sum.inl (some (Value.int (f 1520))) = _; rw [g5]; rfl, rfl⟩
set_option maxRecDepth 20000 in
set_option maxHeartbeats 1000000 in
theorem s_X5_valueOf11 {c : Nat → VC} {g : VG} {n tl th : Int32} {σ : Sg} {f : Nat → Int32} (hO : RO c n tl th) (hA : AA c f) (h : RepA f σ) : Cm k_X5_valueOf [.ref 456, .int (nI 11)] (g, c) (Rt (.int (valM σ 11)) (g, c)) := by
  obtain ⟨g1, g2, g3, g4, g5⟩ := h.2.2.2
  refine Cm.in (M := M_X5_valueOf) (ls := [some (.ref 456), some (.int (nI 11))]) rfl rfl ?_
  refine x_iload_n dX5_valueOf_0 rfl ?_
  refine x_tab (off := 99) 100 dX5_valueOf_1 (by decide) (by decide) (by decide) ?_
  refine x_aload_n dX5_valueOf_100 rfl ?_
  refine x_iconst (nI 2) dX5_valueOf_101 (by decide) ?_
  refine x_cv2 dX5_valueOf_102 rfl (by first | assumption | (simp (disch := omega) only [up_s, up_n]; first | assumption | rfl)) rfl ?_
  refine Cm.rt (s_X5_countAll_2 hO hA h.2.1) ?_
  refine x_ireturn dX5_valueOf_105 ?_
  first
    | exact ⟨rfl, rfl⟩
    | exact ⟨by show Sum.inl (some (Value.int (f 1516))) = _; rw [g1]; rfl, rfl⟩
    | exact ⟨by show Sum.inl (some (Value.int (f 1517))) = _; rw [g2]; rfl, rfl⟩
    | exact ⟨by show Sum.inl (some (Value.int (f 1518))) = _; rw [g3]; rfl, rfl⟩
    | exact ⟨by show Sum.inl (some (Value.int (f 1519))) = _; rw [g4]; rfl, rfl⟩
    | exact ⟨by show Sum.inl (some (Value.int (f 1520))) = _; rw [g5]; rfl, rfl⟩
theorem s_X5_valueOf {c : Nat → VC} {g : VG} {n tl th : Int32} {σ : Sg} {f : Nat → Int32} (hO : RO c n tl th) (hA : AA c f) (h : RepA f σ) {k : Nat} (hk : k < 12) : Cm k_X5_valueOf [.ref 456, .int (nI k)] (g, c) (Rt (.int (valM σ k)) (g, c)) := by
  rcases (show k = 0 ∨ k = 1 ∨ k = 2 ∨ k = 3 ∨ k = 4 ∨ k = 5 ∨ k = 6 ∨ k = 7 ∨ k = 8 ∨ k = 9 ∨ k = 10 ∨ k = 11 by omega) with rfl | rfl | rfl | rfl | rfl | rfl | rfl | rfl | rfl | rfl | rfl | rfl
  · exact s_X5_valueOf0 hO hA h
  · exact s_X5_valueOf1 hO hA h
  · exact s_X5_valueOf2 hO hA h
  · exact s_X5_valueOf3 hO hA h
  · exact s_X5_valueOf4 hO hA h
  · exact s_X5_valueOf5 hO hA h
  · exact s_X5_valueOf6 hO hA h
  · exact s_X5_valueOf7 hO hA h
  · exact s_X5_valueOf8 hO hA h
  · exact s_X5_valueOf9 hO hA h
  · exact s_X5_valueOf10 hO hA h
  · exact s_X5_valueOf11 hO hA h
