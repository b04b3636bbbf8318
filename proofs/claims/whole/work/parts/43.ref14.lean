/-! the reference: its digest -/
theorem fold_take {α β : Type} {f : β → α → β} {b : β} {l : List α} {i : Nat} (hi : i < l.length) : (l.take (i + 1)).foldl f b = f ((l.take i).foldl f b) l[i] := by
  rw [List.take_succ_eq_append_getElem hi, List.foldl_append]
  rfl
set_option maxRecDepth 20000 in
set_option maxHeartbeats 2000000 in
theorem k_hb107 {c : Nat → VC} {g : VG} {f vs as tx ll lt : Nat → Int32} {n tl th : Int32} {Q : (Option Value ⊕ Nat) → VH → Prop} {x0 : Int64} {c1 : Nat → VC} {rw : Nat → Int32} (hR1 : RH c1 f vs as tx rw ll lt n tl th) {a : Nat} {l : List Nat} {h1 : Int64} (h250 : l.length ≤ 250) (hlt : ∀ x ∈ l, x < 27) (hrw : ∀ i, i < l.length → rw i = nI (l.getD (l.length - 1 - i) 0)) {q6 q7 : Int32} (K : (∀ o6 o7 o8, Xm M_X5_hashBoxes 5 [some (.ref 456), some (.long x0), none, some (.long (mixL l h1)), none, some (.int (nI (a + 1))), o6, o7, o8] [] (g, c1) Q)) : ∀ m, m ≤ l.length → Xm M_X5_hashBoxes 107 [some (.ref 456), some (.long x0), none, some (.long (mixL (l.take (l.length - m)) h1)), none, some (.int (nI a)), some (.int q6), some (.int q7), some (.int (nI m - nI 1))] [] (g, c1) Q := by
  obtain ⟨hO, hA, hS, hD, hX, hW, hL, hT⟩ := id hR1
  intro m
  induction m with
  | zero =>
    intro z1
    rw [Nat.sub_zero, List.take_length]
    refine x_iload dX5_hashBoxes_107 rfl ?_
    refine x_if_lt 133 dX5_hashBoxes_109 (by decide) (fun c109 => ?_) (fun c109 => ?_)
    · refine x_iincN_5 (1) dX5_hashBoxes_133 (by decide) rfl ?_
      refine x_goto 5 dX5_hashBoxes_136 (by decide) ?_
      exact K _ _ _
    · exact absurd (by decide) c109
  | succ m ih =>
    intro z1
    have e2 : nI (m + 1) - nI 1 = nI m := nI_pred _
    rw [e2]
    have hix : l.length - (m + 1) < l.length := by omega
    have hgd : l.getD (l.length - 1 - m) 0 = l[l.length - (m + 1)] := by
      rw [show l.length - 1 - m = l.length - (m + 1) by omega, List.getD_eq_getElem?_getD, List.getElem?_eq_getElem hix]; rfl
    have h27 := hlt _ (List.getElem_mem hix)
    refine x_iload dX5_hashBoxes_107 rfl ?_
    refine x_if_lt 133 dX5_hashBoxes_109 (by decide) (fun c109 => ?_) (fun c109 => ?_)
    · exact absurd c109 (nI_pos (by omega))
    · refine x_ldc2_w dX5_hashBoxes_112 rfl ?_
      refine x_lload_n dX5_hashBoxes_115 rfl ?_
      refine x_lmul dX5_hashBoxes_116 ?_
      refine x_aload_n dX5_hashBoxes_117 rfl ?_
      refine x_getfield dX5_hashBoxes_118 rfl (by decide) (by first | assumption | (simp (disch := omega) only [up_s, up_n]; first | assumption | rfl)) rfl ?_
      refine x_iload dX5_hashBoxes_121 rfl ?_
      refine x_ialoadN dX5_hashBoxes_123 (by first | assumption | (simp (disch := omega) only [up_s, up_n]; first | assumption | rfl)) (by omega) (by omega) ?_
      rw [hrw m (by omega), hgd]
      refine x_i2lN dX5_hashBoxes_124 (by omega) ?_
      refine x_ladd dX5_hashBoxes_125 ?_
      refine x_lstore_n3 dX5_hashBoxes_126 rfl ?_
      refine x_iinc_8 (-1) dX5_hashBoxes_127 rfl rfl ?_
      rw [show nI m + (-1) = nI m - nI 1 by rw [Int32.sub_eq_add_neg]; rfl]
      refine x_goto 107 dX5_hashBoxes_130 (by decide) ?_
      have hz := ih (by omega)
      have e9 : mixL (l.take (l.length - m)) h1 = 31 * mixL (l.take (l.length - (m + 1))) h1 + lN l[l.length - (m + 1)] := by
        unfold mixL
        rw [show l.length - m = l.length - (m + 1) + 1 by omega, fold_take hix]
      rw [e9] at hz
      exact hz
set_option maxRecDepth 20000 in
set_option maxHeartbeats 2000000 in
theorem k_hb60 {c : Nat → VC} {g : VG} {f vs as tx ll lt : Nat → Int32} {n tl th : Int32} {Q : (Option Value ⊕ Nat) → VH → Prop} {x0 : Int64} {B : Bx} {ss : Nat → List Nat} (hss : BoxS f B ss) {a : Nat} (ha : a < 27) {h1 : Int64} (hb250 : (B a).length ≤ 250) (K : ∀ c1 rw o6 o7 o8, RH c1 f vs as tx rw ll lt n tl th → FrR c c1 → Xm M_X5_hashBoxes 5 [some (.ref 456), some (.long x0), none, some (.long (mixL (B a) h1)), none, some (.int (nI (a + 1))), o6, o7, o8] [] (g, c1) Q) : ∀ (r p : List Nat) (t : Int32) (c1 : Nat → VC) (rw : Nat → Int32) (o8 : Option Value), ss a = p ++ r → Ch f t r → RH c1 f vs as tx rw ll lt n tl th → FrR c c1 → (∀ (i : Nat) (hi : i < p.length), rw i = f p[i]) → Xm M_X5_hashBoxes 60 [some (.ref 456), some (.long x0), none, some (.long (h1)), none, some (.int (nI a)), some (.int (nI p.length)), some (.int t), o8] [] (g, c1) Q := by
  have hlen := hss.len ha
  have hlt : ∀ x ∈ B a, x < 27 := hss.2.2.2.2.2.2 a ha
  intro r
  induction r with
  | nil =>
    intro p t c1 rw o8 e1 e2 hR1 hF1 hp
    rw [List.append_nil] at e1
    have e3 : t = -1 := e2
    subst e3
    obtain ⟨hO, hA, hS, hD, hX, hW, hL, hT⟩ := id hR1
    have hpl : p.length = (B a).length := by rw [← hlen, e1]
    refine x_iload dX5_hashBoxes_60 rfl ?_
    refine x_iconst (-1) dX5_hashBoxes_62 (by decide) ?_
    refine x_icmp_eq 101 dX5_hashBoxes_63 (by decide) (fun c63 => ?_) (fun c63 => ?_)
    · refine x_iload dX5_hashBoxes_101 rfl ?_
      refine x_iconst (nI 1) dX5_hashBoxes_103 (by decide) ?_
      refine x_isub dX5_hashBoxes_104 ?_
      refine x_istore_8 dX5_hashBoxes_105 rfl ?_
      rw [hpl]
      have hz := k_hb107 (c := c1) (g := g) (x0 := x0) (Q := Q) (a := a) (l := B a) (h1 := h1) (q6 := nI (B a).length) (q7 := -1) hR1 hb250 hlt (fun i hi => by
        have h9 := hss.nth ha (i := i) (by omega)
        rw [hp i (by omega)]
        have e9 : p[i]'(by omega) = (ss a)[i]'(by omega) := by simp only [e1]
        rw [e9]; exact h9) (fun o6 o7 o8 => K c1 rw o6 o7 o8 hR1 hF1) (B a).length (Nat.le_refl _)
      rw [Nat.sub_self] at hz
      exact hz
    · exact absurd rfl c63
  | cons s r ih =>
    intro p t c1 rw o8 e1 e2 hR1 hF1 hp
    obtain ⟨rfl, e3⟩ := e2
    obtain ⟨hO, hA, hS, hD, hX, hW, hL, hT⟩ := id hR1
    have hs250 : s < 250 := hss.2.2.1 a ha s (by rw [e1]; simp)
    have hpl : p.length + (r.length + 1) = (B a).length := by rw [← hlen, e1]; simp
    refine x_iload dX5_hashBoxes_60 rfl ?_
    refine x_iconst (-1) dX5_hashBoxes_62 (by decide) ?_
    refine x_icmp_eq 101 dX5_hashBoxes_63 (by decide) (fun c63 => ?_) (fun c63 => ?_)
    · exact absurd c63 (m1_ne (by omega))
    · refine x_aload_n dX5_hashBoxes_66 rfl ?_
      refine x_getfield dX5_hashBoxes_67 rfl (by decide) (by first | assumption | (simp (disch := omega) only [up_s, up_n]; first | assumption | rfl)) rfl ?_
      refine x_iload dX5_hashBoxes_70 rfl ?_
      refine x_aload_n dX5_hashBoxes_72 rfl ?_
      refine x_getfield dX5_hashBoxes_73 rfl (by decide) (by first | assumption | (simp (disch := omega) only [up_s, up_n]; first | assumption | rfl)) rfl ?_
      refine x_iconst (nI 0) dX5_hashBoxes_76 (by decide) ?_
      refine x_iload dX5_hashBoxes_77 rfl ?_
      refine x_iaddN dX5_hashBoxes_79 ?_
      refine x_ialoadN dX5_hashBoxes_80 (by first | assumption | (simp (disch := omega) only [up_s, up_n]; first | assumption | rfl)) (by omega) (by omega) ?_
      rw [Nat.zero_add s]
      refine x_iastoreN dX5_hashBoxes_81 (by first | assumption | (simp (disch := omega) only [up_s, up_n]; first | assumption | rfl)) (by omega) (by omega) ?_
      refine x_iincN_6 (1) dX5_hashBoxes_82 (by decide) rfl ?_
      refine x_aload_n dX5_hashBoxes_85 rfl ?_
      refine x_getfield dX5_hashBoxes_86 rfl (by decide) (by first | assumption | (simp (disch := omega) only [up_s, up_n]; first | assumption | rfl)) rfl ?_
      refine x_sipush (nI 250) dX5_hashBoxes_89 (by decide) ?_
      refine x_iload dX5_hashBoxes_92 rfl ?_
      refine x_iaddN dX5_hashBoxes_94 ?_
      refine x_ialoadN dX5_hashBoxes_95 (by first | assumption | (simp (disch := omega) only [up_s, up_n]; first | assumption | rfl)) (by omega) (by omega) ?_
      refine x_istore_7 dX5_hashBoxes_96 rfl ?_
      refine x_goto 60 dX5_hashBoxes_98 (by decide) ?_
      have hz := ih (p ++ [s]) (f (250 + s)) _ _ o8 (by rw [e1]; simp) e3 (hR1.uW (f' := upd rw p.length (f s))) (hF1.u (by omega) (by omega)) (fun i hi => by
        rw [List.length_append, List.length_singleton] at hi
        by_cases e : i = p.length
        · subst e; rw [pk_us, List.getElem_concat_length rfl]
        · rw [pk_un e, List.getElem_append_left (by omega)]; exact hp i (by omega))
      rw [List.length_append, List.length_singleton] at hz
      exact hz
set_option maxRecDepth 20000 in
set_option maxHeartbeats 1000000 in
theorem k_hb15 {c : Nat → VC} {g : VG} {S : St} {f vs as tx ll lt : Nat → Int32} {n th : Int32} {rw : Nat → Int32} {Q : (Option Value ⊕ Nat) → VH → Prop} {x0 h0 : Int64} {c1 : Nat → VC} (hR1 : RH c1 f vs as tx rw ll lt n (nI S.2.1.length) th) (hRp : RepA f S.1) (hX0 : TxR tx S.2.1) {a : Nat} (ha : a < 27) {o7 o8 : Option Value} (K : Xm M_X5_hashBoxes 44 [some (.ref 456), some (.long x0), none, some (.long (dgLk S a 8 h0)), none, some (.int (nI a)), some (.int (nI 8)), o7, o8] [] (g, c1) Q) : ∀ (m i : Nat), i ≤ 8 → 8 < i + m → Xm M_X5_hashBoxes 15 [some (.ref 456), some (.long x0), none, some (.long (dgLk S a i h0)), none, some (.int (nI a)), some (.int (nI i)), o7, o8] [] (g, c1) Q := by
  obtain ⟨hO, hA, hS, hD, hX, hW, hL, hT⟩ := id hR1
  intro m
  induction m with
  | zero => intro i z1 z2; omega
  | succ m ih =>
    intro i z1 z2
    refine x_iload dX5_hashBoxes_15 rfl ?_
    refine x_bipush (nI 8) dX5_hashBoxes_17 (by decide) ?_
    refine x_icmp_ge 44 dX5_hashBoxes_19 (by decide) (fun c19 => ?_) (fun c19 => ?_)
    · have e1 : i = 8 := by have := (nI_leI (by omega) (by omega)).mp c19; omega
      subst e1
      exact K
    · have hi : i < 8 := by
        by_cases q : i < 8
        · exact q
        · exact absurd ((nI_leI (by omega) (by omega)).mpr (by omega)) c19
      refine x_ldc2_w dX5_hashBoxes_22 rfl ?_
      refine x_lload_n dX5_hashBoxes_25 rfl ?_
      refine x_lmul dX5_hashBoxes_26 ?_
      refine x_aload_n dX5_hashBoxes_27 rfl ?_
      refine x_iload dX5_hashBoxes_28 rfl ?_
      refine x_iload dX5_hashBoxes_30 rfl ?_
      refine x_cv3 dX5_hashBoxes_32 rfl (by first | assumption | (simp (disch := omega) only [up_s, up_n]; first | assumption | rfl)) rfl ?_
      refine Cm.rt (s_X5_letterOf (S := S) hO hA hX hX0 hRp ha hi) ?_
      refine x_i2l dX5_hashBoxes_35 ?_
      refine x_ladd dX5_hashBoxes_36 ?_
      refine x_lstore_n3 dX5_hashBoxes_37 rfl ?_
      refine x_iincN_6 (1) dX5_hashBoxes_38 (by decide) rfl ?_
      refine x_goto 15 dX5_hashBoxes_41 (by decide) ?_
      exact ih (i + 1) (by omega) (by omega)
set_option maxRecDepth 20000 in
set_option maxHeartbeats 1000000 in
theorem k_hb44 {c c1 : Nat → VC} {g : VG} {f vs as tx rw ll lt : Nat → Int32} {n tl th : Int32} {Q : (Option Value ⊕ Nat) → VH → Prop} {x0 h1 : Int64} (hR1 : RH c1 f vs as tx rw ll lt n tl th) (hF1 : FrR c c1) {B : Bx} (hB : BoxR f B) {a : Nat} (ha : a < 27) {q6 : Int32} {o7 o8 : Option Value} (K : ∀ c1 rw o6 o7 o8, RH c1 f vs as tx rw ll lt n tl th → FrR c c1 → Xm M_X5_hashBoxes 5 [some (.ref 456), some (.long x0), none, some (.long (mixL (B a) h1)), none, some (.int (nI (a + 1))), o6, o7, o8] [] (g, c1) Q) : Xm M_X5_hashBoxes 44 [some (.ref 456), some (.long x0), none, some (.long (h1)), none, some (.int (nI a)), some (.int q6), o7, o8] [] (g, c1) Q := by
  obtain ⟨hO, hA, hS, hD, hX, hW, hL, hT⟩ := id hR1
  have h250 := Nat.le_trans (SB_le (B := B) ha) hB.le
  obtain ⟨ss, hss⟩ := hB
  refine x_iconst (nI 0) dX5_hashBoxes_44 (by decide) ?_
  refine x_istore_6 dX5_hashBoxes_45 rfl ?_
  refine x_aload_n dX5_hashBoxes_47 rfl ?_
  refine x_getfield dX5_hashBoxes_48 rfl (by decide) (by first | assumption | (simp (disch := omega) only [up_s, up_n]; first | assumption | rfl)) rfl ?_
  refine x_sipush (nI 500) dX5_hashBoxes_51 (by decide) ?_
  refine x_iload dX5_hashBoxes_54 rfl ?_
  refine x_iaddN dX5_hashBoxes_56 ?_
  refine x_ialoadN dX5_hashBoxes_57 (by first | assumption | (simp (disch := omega) only [up_s, up_n]; first | assumption | rfl)) (by omega) (by omega) ?_
  refine x_istore_7 dX5_hashBoxes_58 rfl ?_
  exact k_hb60 hss ha h250 K (ss a) [] _ c1 rw _ rfl (hss.1 a ha) hR1 hF1 (fun i hi => absurd hi (Nat.not_lt_zero i))
set_option maxRecDepth 20000 in
set_option maxHeartbeats 1000000 in
theorem k_hb5 {c : Nat → VC} {g : VG} {S : St} {f vs as tx ll lt : Nat → Int32} {n th : Int32} {x0 h0 : Int64} (hRp : RepA f S.1) (hX0 : TxR tx S.2.1) : ∀ (m i : Nat) (c1 : Nat → VC) (rw : Nat → Int32) (o6 o7 o8 : Option Value), i ≤ 27 → 27 < i + m → RH c1 f vs as tx rw ll lt n (nI S.2.1.length) th → FrR c c1 → Xm M_X5_hashBoxes 5 [some (.ref 456), some (.long x0), none, some (.long (dgL S i h0)), none, some (.int (nI i)), o6, o7, o8] [] (g, c1) (Ei g (fun v c' => v = .long (dgL S 27 h0) ∧ ∃ rw', RH c' f vs as tx rw' ll lt n (nI S.2.1.length) th ∧ FrR c c')) := by
  intro m
  induction m with
  | zero => intro i c1 rw o6 o7 o8 z1 z2; omega
  | succ m ih =>
    intro i c1 rw o6 o7 o8 z1 z2 hR1 hF1
    obtain ⟨hO, hA, hS, hD, hX, hW, hL, hT⟩ := id hR1
    refine x_iload dX5_hashBoxes_5 rfl ?_
    refine x_bipush (nI 27) dX5_hashBoxes_7 (by decide) ?_
    refine x_icmp_ge 139 dX5_hashBoxes_9 (by decide) (fun c9 => ?_) (fun c9 => ?_)
    · refine x_lload_n dX5_hashBoxes_139 rfl ?_
      refine x_lreturn dX5_hashBoxes_140 ?_
      have e1 : i = 27 := by have := (nI_leI (by omega) (by omega)).mp c9; omega
      subst e1
      exact ⟨_, _, rfl, rfl, rfl, rw, hR1, hF1⟩
    · have hi : i < 27 := by
        by_cases q : i < 27
        · exact q
        · exact absurd ((nI_leI (by omega) (by omega)).mpr (by omega)) c9
      refine x_iconst (nI 0) dX5_hashBoxes_12 (by decide) ?_
      refine x_istore_6 dX5_hashBoxes_13 rfl ?_
      refine k_hb15 (c := c1) hR1 hRp hX0 hi ?_ 9 0 (by omega) (by omega)
      exact k_hb44 hR1 hF1 hRp.1 hi (fun c2 r2 o6 o7 o8 w1 w2 => ih (i + 1) c2 r2 o6 o7 o8 (by omega) (by omega) w1 w2)
set_option maxRecDepth 20000 in
set_option maxHeartbeats 1000000 in
theorem s_X5_hashBoxes {c : Nat → VC} {g : VG} {S : St} {f vs as tx ll lt : Nat → Int32} {n th : Int32} {rw : Nat → Int32} (hR : RH c f vs as tx rw ll lt n (nI S.2.1.length) th) {h0 : Int64} (hRp : RepA f S.1) (hX0 : TxR tx S.2.1) : Cm k_X5_hashBoxes [.ref 456, .long h0] (g, c) (Ei g (fun v c' => v = .long (dgL S 27 h0) ∧ ∃ rw', RH c' f vs as tx rw' ll lt n (nI S.2.1.length) th ∧ FrR c c')) := by
  refine Cm.in (M := M_X5_hashBoxes) (ls := [some (.ref 456), some (.long h0), none, none, none, none, none, none, none]) rfl rfl ?_
  refine x_lload_n dX5_hashBoxes_0 rfl ?_
  refine x_lstore_n3 dX5_hashBoxes_1 rfl ?_
  refine x_iconst (nI 0) dX5_hashBoxes_2 (by decide) ?_
  refine x_istore_5 dX5_hashBoxes_3 rfl ?_
  exact k_hb5 hRp hX0 28 0 c rw none none none (by omega) (by omega) hR FrR.rf
set_option maxRecDepth 20000 in
set_option maxHeartbeats 1000000 in
theorem k_hf88 {c : Nat → VC} {g : VG} {f vs as tx rw ll lt : Nat → Int32} {n tl th : Int32} (hR : RH c f vs as tx rw ll lt n tl th) {j : Nat} {L : List (List Pl)} (hj : j < 3) (hLj : ForR f j L) {Q : (Option Value ⊕ Nat) → VH → Prop} {x0 : Int64} {i p : Nat} (hi : i < L.length) (hp : p < L[i].length) {h2 : Int64} (K : Xm M_X5_hashForme 121 [some (.ref 456), some (.long x0), none, some (.int (nI j)), some (.long (mixP h2 L[i][p])), none, some (.int (nI i)), some (.int (nI p)), some (.int (nI 4))] [] (g, c) Q) : ∀ (m k : Nat), k ≤ 4 → 4 < k + m → Xm M_X5_hashForme 88 [some (.ref 456), some (.long x0), none, some (.int (nI j)), some (.long (mixPk h2 L[i][p] k)), none, some (.int (nI i)), some (.int (nI p)), some (.int (nI k))] [] (g, c) Q := by
  obtain ⟨hO, hA, hS, hD, hX, hW, hL, hT⟩ := id hR
  have hok := hLj.2.2.2.2 _ (List.getElem_mem hi) _ (List.getElem_mem hp)
  intro m
  induction m with
  | zero => intro k z1 z2; omega
  | succ m ih =>
    intro k z1 z2
    have h27 := abt_lt hok k
    refine x_iload dX5_hashForme_88 rfl ?_
    refine x_iconst (nI 4) dX5_hashForme_90 (by decide) ?_
    refine x_icmp_ge 121 dX5_hashForme_91 (by decide) (fun c91 => ?_) (fun c91 => ?_)
    · have e1 : k = 4 := by have := (nI_leI (by omega) (by omega)).mp c91; omega
      subst e1
      exact K
    · have hk : k < 4 := by
        by_cases q : k < 4
        · exact q
        · exact absurd ((nI_leI (by omega) (by omega)).mpr (by omega)) c91
      refine x_ldc2_w dX5_hashForme_94 rfl ?_
      refine x_lload dX5_hashForme_97 rfl ?_
      refine x_lmul dX5_hashForme_99 ?_
      refine x_aload_n dX5_hashForme_100 rfl ?_
      refine x_iload_n dX5_hashForme_101 rfl ?_
      refine x_iload dX5_hashForme_102 rfl ?_
      refine x_iload dX5_hashForme_104 rfl ?_
      refine x_iload dX5_hashForme_106 rfl ?_
      refine x_cv5 dX5_hashForme_108 rfl (by first | assumption | (simp (disch := omega) only [up_s, up_n]; first | assumption | rfl)) rfl ?_
      refine Cm.rt (s_X5_placeOf hR hj hLj hi hp hk) ?_
      refine x_i2lN dX5_hashForme_111 (by omega) ?_
      refine x_ladd dX5_hashForme_112 ?_
      refine x_lstore_4 dX5_hashForme_113 rfl ?_
      refine x_iincN_8 (1) dX5_hashForme_115 (by decide) rfl ?_
      refine x_goto 88 dX5_hashForme_118 (by decide) ?_
      exact ih (k + 1) (by omega) (by omega)
set_option maxRecDepth 20000 in
set_option maxHeartbeats 1000000 in
theorem k_hf73 {c : Nat → VC} {g : VG} {f vs as tx rw ll lt : Nat → Int32} {n tl th : Int32} (hR : RH c f vs as tx rw ll lt n tl th) {j : Nat} {L : List (List Pl)} (hj : j < 3) (hLj : ForR f j L) {Q : (Option Value ⊕ Nat) → VH → Prop} {x0 : Int64} {i : Nat} (hi : i < L.length) {h1 : Int64} (K : ∀ o8, Xm M_X5_hashForme 127 [some (.ref 456), some (.long x0), none, some (.int (nI j)), some (.long (L[i].foldl mixP h1)), none, some (.int (nI i)), some (.int (nI L[i].length)), o8] [] (g, c) Q) : ∀ (m p : Nat) (o8 : Option Value), p ≤ L[i].length → L[i].length < p + m → Xm M_X5_hashForme 73 [some (.ref 456), some (.long x0), none, some (.int (nI j)), some (.long ((L[i].take p).foldl mixP h1)), none, some (.int (nI i)), some (.int (nI p)), o8] [] (g, c) Q := by
  obtain ⟨hO, hA, hS, hD, hX, hW, hL, hT⟩ := id hR
  have h16 := (hLj.2.1.2 _ (List.getElem_mem hi)).2
  intro m
  induction m with
  | zero => intro p o8 z1 z2; omega
  | succ m ih =>
    intro p o8 z1 z2
    refine x_iload dX5_hashForme_73 rfl ?_
    refine x_aload_n dX5_hashForme_75 rfl ?_
    refine x_iload_n dX5_hashForme_76 rfl ?_
    refine x_iload dX5_hashForme_77 rfl ?_
    refine x_cv3 dX5_hashForme_79 rfl (by first | assumption | (simp (disch := omega) only [up_s, up_n]; first | assumption | rfl)) rfl ?_
    refine Cm.rt (s_X5_places0 hO hA hj hLj hi) ?_
    refine x_icmp_ge 127 dX5_hashForme_82 (by decide) (fun c82 => ?_) (fun c82 => ?_)
    · have e1 : p = L[i].length := by have := (nI_leI (by omega) (by omega)).mp c82; omega
      subst e1
      rw [List.take_length]
      exact K _
    · have hp : p < L[i].length := by
        by_cases q : p < L[i].length
        · exact q
        · exact absurd ((nI_leI (by omega) (by omega)).mpr (by omega)) c82
      refine x_iconst (nI 0) dX5_hashForme_85 (by decide) ?_
      refine x_istore_8 dX5_hashForme_86 rfl ?_
      refine k_hf88 (h2 := (L[i].take p).foldl mixP h1) hR hj hLj hi hp ?_ 5 0 (by omega) (by omega)
      refine x_iincN_7 (1) dX5_hashForme_121 (by decide) rfl ?_
      refine x_goto 73 dX5_hashForme_124 (by decide) ?_
      have hz := ih (p + 1) (some (.int (nI 4))) (by omega) (by omega)
      rw [fold_take hp] at hz
      exact hz
set_option maxRecDepth 20000 in
set_option maxHeartbeats 1000000 in
theorem k_hf38 {c : Nat → VC} {g : VG} {f vs as tx rw ll lt : Nat → Int32} {n tl th : Int32} (hR : RH c f vs as tx rw ll lt n tl th) {j : Nat} {L : List (List Pl)} (hj : j < 3) (hLj : ForR f j L) {x0 : Int64} {h0 : Int64} : ∀ (m i : Nat) (o7 o8 : Option Value), i ≤ L.length → L.length < i + m → Xm M_X5_hashForme 38 [some (.ref 456), some (.long x0), none, some (.int (nI j)), some (.long ((L.take i).foldl mixLn h0)), none, some (.int (nI i)), o7, o8] [] (g, c) (Ei g (fun v c' => v = .long (mixFo L h0) ∧ c' = c)) := by
  obtain ⟨hO, hA, hS, hD, hX, hW, hL, hT⟩ := id hR
  have h5 := hLj.2.1.1
  have hm := hLj.1
  intro m
  induction m with
  | zero => intro i o7 o8 z1 z2; omega
  | succ m ih =>
    intro i o7 o8 z1 z2
    refine x_iload dX5_hashForme_38 rfl ?_
    refine x_aload_n dX5_hashForme_40 rfl ?_
    refine x_getfield dX5_hashForme_41 rfl (by decide) (by first | assumption | (simp (disch := omega) only [up_s, up_n]; first | assumption | rfl)) rfl ?_
    refine x_sipush (nI 1262) dX5_hashForme_44 (by decide) ?_
    refine x_iload_n dX5_hashForme_47 rfl ?_
    refine x_iaddN dX5_hashForme_48 ?_
    refine x_ialoadN dX5_hashForme_49 (by first | assumption | (simp (disch := omega) only [up_s, up_n]; first | assumption | rfl)) (by omega) (by omega) ?_
    rw [hm]
    refine x_icmp_ge 133 dX5_hashForme_50 (by decide) (fun c50 => ?_) (fun c50 => ?_)
    · refine x_lload dX5_hashForme_133 rfl ?_
      refine x_lreturn dX5_hashForme_135 ?_
      have e1 : i = L.length := by have := (nI_leI (by omega) (by omega)).mp c50; omega
      subst e1
      rw [List.take_length]
      exact ⟨_, _, rfl, rfl, rfl, rfl⟩
    · have hi : i < L.length := by
        by_cases q : i < L.length
        · exact q
        · exact absurd ((nI_leI (by omega) (by omega)).mpr (by omega)) c50
      refine x_ldc2_w dX5_hashForme_53 rfl ?_
      refine x_lload dX5_hashForme_56 rfl ?_
      refine x_lmul dX5_hashForme_58 ?_
      refine x_aload_n dX5_hashForme_59 rfl ?_
      refine x_iload_n dX5_hashForme_60 rfl ?_
      refine x_iload dX5_hashForme_61 rfl ?_
      refine x_cv3 dX5_hashForme_63 rfl (by first | assumption | (simp (disch := omega) only [up_s, up_n]; first | assumption | rfl)) rfl ?_
      refine Cm.rt (s_X5_places0 hO hA hj hLj hi) ?_
      refine x_i2lN dX5_hashForme_66 (by have := (hLj.2.1.2 _ (List.getElem_mem hi)).2; omega) ?_
      refine x_ladd dX5_hashForme_67 ?_
      refine x_lstore_4 dX5_hashForme_68 rfl ?_
      refine x_iconst (nI 0) dX5_hashForme_70 (by decide) ?_
      refine x_istore_7 dX5_hashForme_71 rfl ?_
      refine k_hf73 (h1 := 31 * (L.take i).foldl mixLn h0 + lN L[i].length) hR hj hLj hi (fun o8 => ?_) (L[i].length + 1) 0 o8 (Nat.zero_le _) (by omega)
      refine x_iincN_6 (1) dX5_hashForme_127 (by decide) rfl ?_
      refine x_goto 38 dX5_hashForme_130 (by decide) ?_
      have hz := ih (i + 1) (some (.int (nI L[i].length))) o8 (by omega) (by omega)
      rw [fold_take hi] at hz
      exact hz
set_option maxRecDepth 20000 in
set_option maxHeartbeats 1000000 in
theorem k_hf6 {c : Nat → VC} {g : VG} {f vs tx rw ll lt : Nat → Int32} {n tl th : Int32} {S : St} (hRp : RepA f S.1) {j : Nat} (hj : j < 3) {x0 h0 : Int64} : ∀ (m i : Nat) (c1 : Nat → VC) (d9 a9 : Nat → Int32) (o7 o8 : Option Value), i ≤ 5 → 5 < i + m → RH c1 d9 vs a9 tx rw ll lt n tl th → FrR c c1 → (∀ k, k < 1542 → d9 k = f k) → Xm M_X5_hashForme 6 [some (.ref 456), some (.long x0), none, some (.int (nI j)), some (.long (dgFk S j i h0)), none, some (.int (nI i)), o7, o8] [] (g, c1) (Ei g (fun v c' => v = .long (mixFo (S.1.2.1 j) (dgFk S j 5 h0)) ∧ ∃ f' as', RH c' f' vs as' tx rw ll lt n tl th ∧ FrR c c' ∧ ∀ k, k < 1542 → f' k = f k)) := by
  intro m
  induction m with
  | zero => intro i c1 d9 a9 o7 o8 z1 z2; omega
  | succ m ih =>
    intro i c1 d9 a9 o7 o8 z1 z2 hR1 hF1 hd
    obtain ⟨hO, hA, hS, hD, hX, hW, hL, hT⟩ := id hR1
    have hRp1 : RepA d9 S.1 := hRp.fr hd
    refine x_iload dX5_hashForme_6 rfl ?_
    refine x_iconst (nI 5) dX5_hashForme_8 (by decide) ?_
    refine x_icmp_ge 35 dX5_hashForme_9 (by decide) (fun c9 => ?_) (fun c9 => ?_)
    · refine x_iconst (nI 0) dX5_hashForme_35 (by decide) ?_
      refine x_istore_6 dX5_hashForme_36 rfl ?_
      have e1 : i = 5 := by have := (nI_leI (by omega) (by omega)).mp c9; omega
      subst e1
      refine Xm.mono (k_hf38 (h0 := dgFk S j 5 h0) hR1 hj (hRp1.2.1 j hj) ((S.1.2.1 j).length + 1) 0 o7 o8 (Nat.zero_le _) (by omega)) (fun r h' q => ?_)
      obtain ⟨v, c', rfl, rfl, rfl, rfl⟩ := q
      exact ⟨_, _, rfl, rfl, rfl, d9, a9, hR1, hF1, hd⟩
    · have hi : i < 5 := by
        by_cases q : i < 5
        · exact q
        · exact absurd ((nI_leI (by omega) (by omega)).mpr (by omega)) c9
      refine x_ldc2_w dX5_hashForme_12 rfl ?_
      refine x_lload dX5_hashForme_15 rfl ?_
      refine x_lmul dX5_hashForme_17 ?_
      refine x_aload_n dX5_hashForme_18 rfl ?_
      refine x_iload_n dX5_hashForme_19 rfl ?_
      refine x_iload dX5_hashForme_20 rfl ?_
      refine x_cv3 dX5_hashForme_22 rfl (by first | assumption | (simp (disch := omega) only [up_s, up_n]; first | assumption | rfl)) rfl ?_
      refine Cm.ei (s_X5_formeOf hR1 hRp1 hj hi) (fun v c2 q2 => ?_)
      obtain ⟨rfl, f2, a2, hR2, hF2, hf2⟩ := q2
      refine x_i2l dX5_hashForme_25 ?_
      refine x_ladd dX5_hashForme_26 ?_
      refine x_lstore_4 dX5_hashForme_27 rfl ?_
      refine x_iincN_6 (1) dX5_hashForme_29 (by decide) rfl ?_
      refine x_goto 6 dX5_hashForme_32 (by decide) ?_
      exact ih (i + 1) c2 f2 a2 o7 o8 (by omega) (by omega) hR2 (hF1.tr hF2) (fun k hk => by rw [hf2 k hk]; exact hd k hk)
set_option maxRecDepth 20000 in
set_option maxHeartbeats 1000000 in
theorem s_X5_hashForme {c : Nat → VC} {g : VG} {f vs tx rw ll lt : Nat → Int32} {n tl th : Int32} {S : St} (hRp : RepA f S.1) {j : Nat} (hj : j < 3) {h0 : Int64} {as : Nat → Int32} (hR : RH c f vs as tx rw ll lt n tl th) : Cm k_X5_hashForme [.ref 456, .long h0, .int (nI j)] (g, c) (Ei g (fun v c' => v = .long (mixFo (S.1.2.1 j) (dgFk S j 5 h0)) ∧ ∃ f' as', RH c' f' vs as' tx rw ll lt n tl th ∧ FrR c c' ∧ ∀ k, k < 1542 → f' k = f k)) := by
  refine Cm.in (M := M_X5_hashForme) (ls := [some (.ref 456), some (.long h0), none, some (.int (nI j)), none, none, none, none, none]) rfl rfl ?_
  refine x_lload_n dX5_hashForme_0 rfl ?_
  refine x_lstore_4 dX5_hashForme_1 rfl ?_
  refine x_iconst (nI 0) dX5_hashForme_3 (by decide) ?_
  refine x_istore_6 dX5_hashForme_4 rfl ?_
  exact k_hf6 hRp hj 6 0 c f as none none (by omega) (by omega) hR FrR.rf (fun k _ => rfl)
set_option maxRecDepth 20000 in
set_option maxHeartbeats 1000000 in
theorem k_dg100 {c : Nat → VC} {g : VG} {S : St} {f vs tx : Nat → Int32} (hRp : RepA f S.1) (hH : HiR vs S.2.2) (hX0 : TxR tx S.2.1) {c1 : Nat → VC} {as rw ll lt d9 : Nat → Int32} (hd : ∀ k, k < 1542 → d9 k = f k) (hR1 : RH c1 d9 vs as tx rw ll lt (nI S.2.2.length) (nI S.2.1.length) (nI 0)) (hF1 : FrR c c1) {h0 : Int64} (hv : 31 * mixL S.1.2.2.1 h0 + lN S.2.2.length = dig S) : ∀ (m i : Nat), i ≤ S.1.2.2.1.length → S.1.2.2.1.length < i + m → Xm M_X5_digest 100 [some (.ref 456), some (.long (mixL (S.1.2.2.1.take i) h0)), none, some (.int (nI i))] [] (g, c1) (RQ g c id (Sum.inl (.long (dig S))) S) := by
  obtain ⟨hO, hA, hS, hD, hX, hW, hL, hT⟩ := id hR1
  obtain ⟨g1, g2, g3, g4⟩ := hRp.2.2.1
  have h4 := hH.1
  intro m
  induction m with
  | zero => intro i z1 z2; omega
  | succ m ih =>
    intro i z1 z2
    refine x_iload_n dX5_digest_100 rfl ?_
    refine x_aload_n dX5_digest_101 rfl ?_
    refine x_getfield dX5_digest_102 rfl (by decide) (by first | assumption | (simp (disch := omega) only [up_s, up_n]; first | assumption | rfl)) rfl ?_
    refine x_sipush (nI 1265) dX5_digest_105 (by decide) ?_
    refine x_ialoadN dX5_digest_108 (by first | assumption | (simp (disch := omega) only [up_s, up_n]; first | assumption | rfl)) (by omega) (by omega) ?_
    rw [hd _ (by omega), g1]
    refine x_icmp_ge 136 dX5_digest_109 (by decide) (fun c109 => ?_) (fun c109 => ?_)
    · have e1 : i = S.1.2.2.1.length := by have := (nI_leI (by omega) (by omega)).mp c109; omega
      subst e1
      rw [List.take_length]
      refine x_ldc2_w dX5_digest_136 rfl ?_
      refine x_lload_n dX5_digest_139 rfl ?_
      refine x_lmul dX5_digest_140 ?_
      refine x_aload_n dX5_digest_141 rfl ?_
      refine x_getfield dX5_digest_142 rfl (by decide) (by first | assumption | (simp (disch := omega) only [up_s, up_n]; first | assumption | rfl)) rfl ?_
      refine x_i2lN dX5_digest_145 (by omega) ?_
      refine x_ladd dX5_digest_146 ?_
      refine x_lreturn dX5_digest_147 ?_
      exact ⟨_, c1, 0, rfl, rfl, ⟨d9, vs, as, tx, rw, ll, lt, hR1, hRp.fr hd, hH, hX0⟩, hF1, rfl, by rw [hv]⟩
    · have hi : i < S.1.2.2.1.length := by
        by_cases q : i < S.1.2.2.1.length
        · exact q
        · exact absurd ((nI_leI (by omega) (by omega)).mpr (by omega)) c109
      refine x_ldc2_w dX5_digest_112 rfl ?_
      refine x_lload_n dX5_digest_115 rfl ?_
      refine x_lmul dX5_digest_116 ?_
      refine x_aload_n dX5_digest_117 rfl ?_
      refine x_getfield dX5_digest_118 rfl (by decide) (by first | assumption | (simp (disch := omega) only [up_s, up_n]; first | assumption | rfl)) rfl ?_
      refine x_sipush (nI 1266) dX5_digest_121 (by decide) ?_
      refine x_iload_n dX5_digest_124 rfl ?_
      refine x_iaddN dX5_digest_125 ?_
      refine x_ialoadN dX5_digest_126 (by first | assumption | (simp (disch := omega) only [up_s, up_n]; first | assumption | rfl)) (by omega) (by omega) ?_
      rw [hd _ (by omega), g4 i hi]
      refine x_i2lN dX5_digest_127 (by have := g3 _ (List.getElem_mem hi); omega) ?_
      refine x_ladd dX5_digest_128 ?_
      refine x_lstore_n1 dX5_digest_129 rfl ?_
      refine x_iincN_3 (1) dX5_digest_130 (by decide) rfl ?_
      refine x_goto 100 dX5_digest_133 (by decide) ?_
      have hz := ih (i + 1) (by omega) (by omega)
      unfold mixL at hz ⊢
      rw [fold_take hi] at hz
      exact hz
set_option maxRecDepth 20000 in
set_option maxHeartbeats 1000000 in
theorem k_dg80 {c : Nat → VC} {g : VG} {S : St} {f vs tx : Nat → Int32} (hRp : RepA f S.1) (hH : HiR vs S.2.2) (hX0 : TxR tx S.2.1) {h0 : Int64} (hv : 31 * mixL S.1.2.2.1 (dgF S 3 h0) + lN S.2.2.length = dig S) : ∀ (m i : Nat) (c1 : Nat → VC) (d9 a9 r9 l9 t9 : Nat → Int32), i ≤ 3 → 3 < i + m → RH c1 d9 vs a9 tx r9 l9 t9 (nI S.2.2.length) (nI S.2.1.length) (nI 0) → FrR c c1 → (∀ k, k < 1542 → d9 k = f k) → Xm M_X5_digest 80 [some (.ref 456), some (.long (dgF S i h0)), none, some (.int (nI i))] [] (g, c1) (RQ g c id (Sum.inl (.long (dig S))) S) := by
  intro m
  induction m with
  | zero => intro i c1 d9 a9 r9 l9 t9 z1 z2; omega
  | succ m ih =>
    intro i c1 d9 a9 r9 l9 t9 z1 z2 hR1 hF1 hd
    obtain ⟨hO, hA, hS, hD, hX, hW, hL, hT⟩ := id hR1
    refine x_iload_n dX5_digest_80 rfl ?_
    refine x_iconst (nI 3) dX5_digest_81 (by decide) ?_
    refine x_icmp_ge 98 dX5_digest_82 (by decide) (fun c82 => ?_) (fun c82 => ?_)
    · refine x_iconst (nI 0) dX5_digest_98 (by decide) ?_
      refine x_istore_n3 dX5_digest_99 rfl ?_
      have e1 : i = 3 := by have := (nI_leI (by omega) (by omega)).mp c82; omega
      subst e1
      exact k_dg100 hRp hH hX0 hd hR1 hF1 hv (S.1.2.2.1.length + 1) 0 (Nat.zero_le _) (by omega)
    · have hi : i < 3 := by
        by_cases q : i < 3
        · exact q
        · exact absurd ((nI_leI (by omega) (by omega)).mpr (by omega)) c82
      refine x_aload_n dX5_digest_85 rfl ?_
      refine x_lload_n dX5_digest_86 rfl ?_
      refine x_iload_n dX5_digest_87 rfl ?_
      refine x_cv3 dX5_digest_88 rfl (by first | assumption | (simp (disch := omega) only [up_s, up_n]; first | assumption | rfl)) rfl ?_
      refine Cm.ei (s_X5_hashForme (S := S) (hRp.fr hd) hi hR1) (fun v c2 q2 => ?_)
      obtain ⟨rfl, f2, a2, hR2, hF2, hf2⟩ := q2
      refine x_lstore_n1 dX5_digest_91 rfl ?_
      refine x_iincN_3 (1) dX5_digest_92 (by decide) rfl ?_
      refine x_goto 80 dX5_digest_95 (by decide) ?_
      exact ih (i + 1) c2 f2 a2 r9 l9 t9 (by omega) (by omega) hR2 (hF1.tr hF2) (fun k hk => by rw [hf2 k hk]; exact hd k hk)
set_option maxRecDepth 20000 in
set_option maxHeartbeats 1000000 in
theorem k_dg47 {c : Nat → VC} {g : VG} {S : St} {f vs tx : Nat → Int32} (hRp : RepA f S.1) (hH : HiR vs S.2.2) (hX0 : TxR tx S.2.1) {c1 : Nat → VC} {as rw ll lt : Nat → Int32} (hR1 : RH c1 f vs as tx rw ll lt (nI S.2.2.length) (nI S.2.1.length) (nI 0)) (hF1 : FrR c c1) {h0 : Int64} (hv : 31 * mixL S.1.2.2.1 (dgF S 3 (dgL S 27 (dgV S 12 h0))) + lN S.2.2.length = dig S) : ∀ (m i : Nat), i ≤ 12 → 12 < i + m → Xm M_X5_digest 47 [some (.ref 456), some (.long (dgV S i h0)), none, some (.int (nI i))] [] (g, c1) (RQ g c id (Sum.inl (.long (dig S))) S) := by
  obtain ⟨hO, hA, hS, hD, hX, hW, hL, hT⟩ := id hR1
  intro m
  induction m with
  | zero => intro i z1 z2; omega
  | succ m ih =>
    intro i z1 z2
    refine x_iload_n dX5_digest_47 rfl ?_
    refine x_bipush (nI 12) dX5_digest_48 (by decide) ?_
    refine x_icmp_ge 72 dX5_digest_50 (by decide) (fun c50 => ?_) (fun c50 => ?_)
    · have e1 : i = 12 := by have := (nI_leI (by omega) (by omega)).mp c50; omega
      subst e1
      refine x_aload_n dX5_digest_72 rfl ?_
      refine x_lload_n dX5_digest_73 rfl ?_
      refine x_cv2 dX5_digest_74 rfl (by first | assumption | (simp (disch := omega) only [up_s, up_n]; first | assumption | rfl)) rfl ?_
      refine Cm.ei (s_X5_hashBoxes (S := S) hR1 hRp hX0) (fun v c2 q2 => ?_)
      obtain ⟨rfl, r2, hR2, hF2⟩ := q2
      obtain ⟨hO2, hA2, hS2, hD2, hX2, hW2, hL2, hT2⟩ := id hR2
      refine x_lstore_n1 dX5_digest_77 rfl ?_
      refine x_iconst (nI 0) dX5_digest_78 (by decide) ?_
      refine x_istore_n3 dX5_digest_79 rfl ?_
      exact k_dg80 hRp hH hX0 hv 4 0 c2 f as r2 ll lt (by omega) (by omega) hR2 (hF1.tr hF2) (fun k _ => rfl)
    · have hi : i < 12 := by
        by_cases q : i < 12
        · exact q
        · exact absurd ((nI_leI (by omega) (by omega)).mpr (by omega)) c50
      refine x_ldc2_w dX5_digest_53 rfl ?_
      refine x_lload_n dX5_digest_56 rfl ?_
      refine x_lmul dX5_digest_57 ?_
      refine x_aload_n dX5_digest_58 rfl ?_
      refine x_iload_n dX5_digest_59 rfl ?_
      refine x_cv2 dX5_digest_60 rfl (by first | assumption | (simp (disch := omega) only [up_s, up_n]; first | assumption | rfl)) rfl ?_
      refine Cm.rt (s_X5_valueOf hO hA hRp hi) ?_
      refine x_i2l dX5_digest_63 ?_
      refine x_ladd dX5_digest_64 ?_
      refine x_lstore_n1 dX5_digest_65 rfl ?_
      refine x_iincN_3 (1) dX5_digest_66 (by decide) rfl ?_
      refine x_goto 47 dX5_digest_69 (by decide) ?_
      exact ih (i + 1) (by omega) (by omega)
set_option maxRecDepth 20000 in
set_option maxHeartbeats 1000000 in
theorem k_dg17 {c : Nat → VC} {g : VG} {S : St} {f vs tx : Nat → Int32} (hRp : RepA f S.1) (hH : HiR vs S.2.2) (hX0 : TxR tx S.2.1) {c1 : Nat → VC} {as rw ll lt : Nat → Int32} (hR1 : RH c1 f vs as tx rw ll lt (nI S.2.2.length) (nI S.2.1.length) (nI 0)) (hF1 : FrR c c1) {h0 : Int64} (hv : 31 * mixL S.1.2.2.1 (dgF S 3 (dgL S 27 (dgV S 12 (mixL S.2.1 h0)))) + lN S.2.2.length = dig S) : ∀ (m i : Nat), i ≤ S.2.1.length → S.2.1.length < i + m → Xm M_X5_digest 17 [some (.ref 456), some (.long (mixL (S.2.1.take i) h0)), none, some (.int (nI i))] [] (g, c1) (RQ g c id (Sum.inl (.long (dig S))) S) := by
  obtain ⟨hO, hA, hS, hD, hX, hW, hL, hT⟩ := id hR1
  obtain ⟨g4, g5, g6⟩ := id hX0
  intro m
  induction m with
  | zero => intro i z1 z2; omega
  | succ m ih =>
    intro i z1 z2
    refine x_iload_n dX5_digest_17 rfl ?_
    refine x_aload_n dX5_digest_18 rfl ?_
    refine x_getfield dX5_digest_19 rfl (by decide) (by first | assumption | (simp (disch := omega) only [up_s, up_n]; first | assumption | rfl)) rfl ?_
    refine x_icmp_ge 45 dX5_digest_22 (by decide) (fun c22 => ?_) (fun c22 => ?_)
    · refine x_iconst (nI 0) dX5_digest_45 (by decide) ?_
      refine x_istore_n3 dX5_digest_46 rfl ?_
      have e1 : i = S.2.1.length := by have := (nI_leI (by omega) (by omega)).mp c22; omega
      subst e1
      rw [List.take_length]
      exact k_dg47 hRp hH hX0 hR1 hF1 hv 13 0 (by omega) (by omega)
    · have hi : i < S.2.1.length := by
        by_cases q : i < S.2.1.length
        · exact q
        · exact absurd ((nI_leI (by omega) (by omega)).mpr (by omega)) c22
      refine x_ldc2_w dX5_digest_25 rfl ?_
      refine x_lload_n dX5_digest_28 rfl ?_
      refine x_lmul dX5_digest_29 ?_
      refine x_aload_n dX5_digest_30 rfl ?_
      refine x_getfield dX5_digest_31 rfl (by decide) (by first | assumption | (simp (disch := omega) only [up_s, up_n]; first | assumption | rfl)) rfl ?_
      refine x_iload_n dX5_digest_34 rfl ?_
      refine x_ialoadN dX5_digest_35 (by first | assumption | (simp (disch := omega) only [up_s, up_n]; first | assumption | rfl)) (by omega) (by omega) ?_
      rw [g6 i hi]
      refine x_i2lN dX5_digest_36 (by have := g5 _ (List.getElem_mem hi); omega) ?_
      refine x_ladd dX5_digest_37 ?_
      refine x_lstore_n1 dX5_digest_38 rfl ?_
      refine x_iincN_3 (1) dX5_digest_39 (by decide) rfl ?_
      refine x_goto 17 dX5_digest_42 (by decide) ?_
      have hz := ih (i + 1) (by omega) (by omega)
      unfold mixL at hz ⊢
      rw [fold_take hi] at hz
      exact hz
set_option maxRecDepth 20000 in
set_option maxHeartbeats 1000000 in
theorem s_X5_digest {c : Nat → VC} {g : VG} {S : St} {th : Int32} (h : RefAt c S th) : Cm k_X5_digest [.ref 456] (g, c) (RQ g c id (Sum.inl (.long (dig S))) S) := by
  obtain ⟨f, vs, as, tx, rw, ll, lt, hR, hRp, hH, hX0⟩ := h
  obtain ⟨hO, hA, hS, hD, hX, hW, hL, hT⟩ := id hR
  obtain ⟨u1, u2, u3, u4, u5⟩ := hRp.2.2.2
  have h16 := hX0.1
  refine Cm.in (M := M_X5_digest) (ls := [some (.ref 456), none, none, none]) rfl rfl ?_
  refine x_aload_n dX5_digest_0 rfl ?_
  refine x_iconst (nI 0) dX5_digest_1 (by decide) ?_
  refine x_putfield7 dX5_digest_2 rfl (by first | assumption | (simp (disch := omega) only [up_s, up_n]; first | assumption | rfl)) rfl ?_
  refine x_ldc2_w dX5_digest_5 rfl ?_
  refine x_aload_n dX5_digest_8 rfl ?_
  refine x_getfield dX5_digest_9 rfl (by decide) (by first | assumption | (simp (disch := omega) only [up_s, up_n]; first | assumption | rfl)) rfl ?_
  refine x_i2lN dX5_digest_12 (by omega) ?_
  refine x_ladd dX5_digest_13 ?_
  refine x_lstore_n1 dX5_digest_14 rfl ?_
  refine x_iconst (nI 0) dX5_digest_15 (by decide) ?_
  refine x_istore_n3 dX5_digest_16 rfl ?_
  exact k_dg17 (c := c) hRp hH hX0 (hR.uO (n' := nI S.2.2.length) (tl' := nI S.2.1.length) (th' := nI 0)) (FrR.w (by omega) (by omega)) rfl (S.2.1.length + 1) 0 (Nat.zero_le _) (by omega)
set_option maxRecDepth 20000 in
set_option maxHeartbeats 1000000 in
theorem s_X5_thrown {c : Nat → VC} {g : VG} {S : St} {th : Int32} (h : RefAt c S th) : Cm k_X5_thrown [.ref 456] (g, c) (Rt (.int th) (g, c)) := by
  obtain ⟨f, vs, as, tx, rw, ll, lt, hR, hRp, hH, hX0⟩ := h
  obtain ⟨hO, hA, hS, hD, hX, hW, hL, hT⟩ := id hR
  refine Cm.in (M := M_X5_thrown) (ls := [some (.ref 456)]) rfl rfl ?_
  refine x_aload_n dX5_thrown_0 rfl ?_
  refine x_getfield dX5_thrown_1 rfl (by decide) (by first | assumption | (simp (disch := omega) only [up_s, up_n]; first | assumption | rfl)) rfl ?_
  refine x_ireturn dX5_thrown_4 ?_
  exact ⟨rfl, rfl⟩
