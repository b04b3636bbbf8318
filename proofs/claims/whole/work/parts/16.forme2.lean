/-! formes by their lines -/
theorem stOf_ends {L : List (List Pl)} {k : Nat} (hk : k ≤ L.length) : stOf (endsL L) k = (L.take k).flatten.length := by
  cases k with
  | zero => simp [stOf]
  | succ k =>
    show (endsL L).getD k 0 = _
    unfold endsL
    rw [List.getD_eq_getElem?_getD, List.getElem?_map, List.getElem?_range (by omega)]
    rfl
theorem take_fl {L : List (List Pl)} {k : Nat} (hk : k < L.length) : (L.take (k + 1)).flatten.length = (L.take k).flatten.length + L[k].length := by
  rw [List.take_succ_eq_append_getElem hk, List.flatten_append, List.length_append]
  simp only [List.flatten_cons, List.flatten_nil, List.append_nil]
theorem fl_idx {L : List (List Pl)} : ∀ {i j : Nat} (hi : i < L.length) (hj : j < L[i].length), ∃ h : (L.take i).flatten.length + j < L.flatten.length, L.flatten[(L.take i).flatten.length + j] = L[i][j] := by
  induction L with
  | nil => intro i j hi; exact absurd hi (Nat.not_lt_zero i)
  | cons a L ih =>
    intro i j hi hj
    cases i with
    | zero =>
      have hj' : j < a.length := hj
      refine ⟨by simp; omega, ?_⟩
      simp [List.getElem_append_left hj']
    | succ i =>
      obtain ⟨h1, h2⟩ := ih (i := i) (j := j) (by simpa using hi) hj
      refine ⟨by simp at h1 ⊢; omega, ?_⟩
      simp only [List.getElem_cons_succ]
      rw [← h2]
      simp only [List.take_succ_cons, List.flatten_cons, List.length_append]
      rw [List.getElem_append_right (by omega)]
      congr 1
      omega
theorem fl_le {L : List (List Pl)} {i : Nat} : (L.take i).flatten.length ≤ L.flatten.length := by
  conv => rhs; rw [← List.take_append_drop i L]
  rw [List.flatten_append, List.length_append]
  omega
/-- 31 h + v for each of the values of a place -/
def mixP (h : Int64) (q : Pl) : Int64 := 31 * (31 * (31 * (31 * h + lN (abt q 0)) + lN (abt q 1)) + lN (abt q 2)) + lN (abt q 3)
def mixLn (h : Int64) (l : List Pl) : Int64 := l.foldl mixP (31 * h + lN l.length)
def mixFo (L : List (List Pl)) (h : Int64) : Int64 := L.foldl mixLn h
def mixPk (h : Int64) (q : Pl) : Nat → Int64
  | 0 => h
  | k + 1 => 31 * mixPk h q k + lN (abt q k)
theorem mixPk_4 {h : Int64} {q : Pl} : mixPk h q 4 = mixP h q := rfl
theorem abt_lt {q : Pl} (h : q.1 < 27 ∧ q.2.1 < 27 ∧ q.2.2 < 2) (k : Nat) : abt q k < 27 := by
  match k with
  | 0 => exact h.1
  | 1 => exact h.2.1
  | 2 => show q.2.2 < 27; omega
  | k + 3 => show (if wrg q then 1 else 0) < 27; split <;> omega
set_option maxRecDepth 20000 in
set_option maxHeartbeats 1000000 in
theorem s_X0_lengthOfL {c : Nat → VC} {g : VG} {p : Nat} {L : List (List Pl)} (h : FormeAt c p L) {k : Nat} (hk : k < L.length) : Cm k_X0_lengthOf [.ref p, .int (nI k)] (g, c) (Rt (.int (nI L[k].length)) (g, c)) := by
  have h1 := take_fl hk
  have h2 := s_X0_lengthOf (g := g) h.1 (k := k) (by rw [endsL_len]; exact hk) (by rw [stOf_ends (by omega), stOf_ends (by omega)]; omega)
  rw [stOf_ends (by omega), stOf_ends (by omega), h1, Nat.add_sub_cancel_left] at h2
  exact h2
theorem s_X0_startOfL {c : Nat → VC} {g : VG} {p : Nat} {L : List (List Pl)} (h : FormeAt c p L) {k : Nat} (hk : k < L.length) : Cm k_X0_startOf [.ref p, .int (nI k)] (g, c) (Rt (.int (nI (L.take k).flatten.length)) (g, c)) := by
  have h2 := s_X0_startOf (g := g) h.1 (k := k) (by rw [endsL_len]; omega)
  rw [stOf_ends (by omega)] at h2
  exact h2
set_option maxRecDepth 20000 in
set_option maxHeartbeats 1000000 in
theorem k_mix_in {c : Nat → VC} {g : VG} {p : Nat} {L : List (List Pl)} (h : FormeAt c p L) {y z m0 : Int64} {i j : Nat} (hi : i < L.length) (hj : j < L[i].length) (hk9 : Xm M_X0_mixedInto 33 [some (.ref p), some (.long y), none, some (.long (mixP m0 L[i][j])), none, some (.int (nI i)), some (.int (nI L[i].length)), some (.int (nI (j + 1))), some (.int (nI 4))] [] (g, c) (Rt (.long z) (g, c))) : ∀ (n k : Nat), k ≤ 4 → 4 < k + n → Xm M_X0_mixedInto 43 [some (.ref p), some (.long y), none, some (.long (mixPk m0 L[i][j] k)), none, some (.int (nI i)), some (.int (nI L[i].length)), some (.int (nI j)), some (.int (nI k))] [] (g, c) (Rt (.long z) (g, c)) := by
  have hF := h.1
  have hp1 := hF.choose_spec.choose_spec.choose_spec.choose_spec.1
  rw [endsL_len] at hp1
  have hL5 := h.2.1
  have hfl : L.flatten.length ≤ 80 := hF.choose_spec.choose_spec.choose_spec.choose_spec.2.2.2.2.2.1
  have hqs := hF.choose_spec.choose_spec.choose_spec.choose_spec.2.2.2.2.2.2.2.1
  obtain ⟨hx1, hx2⟩ := fl_idx hi hj
  have hq9 := hqs _ (List.getElem_mem hx1)
  have hln := h.2.2 _ (List.getElem_mem hi)
  intro n
  induction n with
  | zero => intro k z1 z2; omega
  | succ n ih =>
    intro k z1 z2
    refine x_iload dX0_mixedInto_43 rfl ?_
    refine x_iconst (nI 3) dX0_mixedInto_45 (by decide) ?_
    refine x_icmp_gt 76 dX0_mixedInto_46 (by decide) (fun c46 => ?_) (fun c46 => ?_)
    · have e1 : k = 4 := by have := (nI_ltI (by omega) (by omega)).mp c46; omega
      subst e1
      rw [mixPk_4]
      refine x_iincN_7 (1) dX0_mixedInto_76 (by decide) rfl ?_
      refine x_goto 33 dX0_mixedInto_79 (by decide) ?_
      exact hk9
    · have hk : k < 4 := by
        by_cases q : k < 4
        · exact q
        · exact absurd ((nI_ltI (by omega) (by omega)).mpr (by omega)) c46
      refine x_lload_n dX0_mixedInto_49 rfl ?_
      refine x_aload_n dX0_mixedInto_50 rfl ?_
      refine x_aload_n dX0_mixedInto_51 rfl ?_
      refine x_iload dX0_mixedInto_52 rfl ?_
      refine x_cv2 dX0_mixedInto_54 rfl (by first | assumption | (simp (disch := omega) only [up_s, up_n]; first | assumption | rfl)) rfl ?_
      refine Cm.rt (s_X0_startOfL h hi) ?_
      refine x_iload dX0_mixedInto_57 rfl ?_
      refine x_iaddN dX0_mixedInto_59 ?_
      refine x_iload dX0_mixedInto_60 rfl ?_
      refine x_cv3 dX0_mixedInto_62 rfl (by first | assumption | (simp (disch := omega) only [up_s, up_n]; first | assumption | rfl)) rfl ?_
      have hab := s_X0_about (g := g) hF hx1 hk
      rw [hx2] at hab
      refine Cm.rt hab ?_
      refine x_i2lN dX0_mixedInto_65 (by have := abt_lt hq9 k; rw [hx2] at this; omega) ?_
      refine x_cs2 dX0_mixedInto_66 rfl ?_
      refine Cm.rt s_X4_mixed ?_
      refine x_lstore_n3 dX0_mixedInto_69 rfl ?_
      refine x_iincN_8 (1) dX0_mixedInto_70 (by decide) rfl ?_
      refine x_goto 43 dX0_mixedInto_73 (by decide) ?_
      exact ih (k + 1) (by omega) (by omega)
set_option maxRecDepth 20000 in
set_option maxHeartbeats 1000000 in
theorem k_mix_pl {c : Nat → VC} {g : VG} {p : Nat} {L : List (List Pl)} (h : FormeAt c p L) {y z m0 : Int64} {i : Nat} (hi : i < L.length) (hk9 : ∀ o7 o8, Xm M_X0_mixedInto 5 [some (.ref p), some (.long y), none, some (.long (L[i].foldl mixP m0)), none, some (.int (nI (i + 1))), some (.int (nI L[i].length)), o7, o8] [] (g, c) (Rt (.long z) (g, c))) : ∀ (n j : Nat) (o8 : Option Value), j ≤ L[i].length → L[i].length < j + n → Xm M_X0_mixedInto 33 [some (.ref p), some (.long y), none, some (.long ((L[i].take j).foldl mixP m0)), none, some (.int (nI i)), some (.int (nI L[i].length)), some (.int (nI j)), o8] [] (g, c) (Rt (.long z) (g, c)) := by
  have hF := h.1
  have hp1 := hF.choose_spec.choose_spec.choose_spec.choose_spec.1
  rw [endsL_len] at hp1
  have hL5 := h.2.1
  have hfl : L.flatten.length ≤ 80 := hF.choose_spec.choose_spec.choose_spec.choose_spec.2.2.2.2.2.1
  have hqs := hF.choose_spec.choose_spec.choose_spec.choose_spec.2.2.2.2.2.2.2.1
  have hln := h.2.2 _ (List.getElem_mem hi)
  intro n
  induction n with
  | zero => intro j o8 z1 z2; omega
  | succ n ih =>
    intro j o8 z1 z2
    refine x_iload dX0_mixedInto_33 rfl ?_
    refine x_iload dX0_mixedInto_35 rfl ?_
    refine x_icmp_ge 82 dX0_mixedInto_37 (by decide) (fun c37 => ?_) (fun c37 => ?_)
    · have e1 : j = L[i].length := by have := (nI_leI (by omega) (by omega)).mp c37; omega
      subst e1
      rw [List.take_length]
      refine x_iincN_5 (1) dX0_mixedInto_82 (by decide) rfl ?_
      refine x_goto 5 dX0_mixedInto_85 (by decide) ?_
      exact hk9 _ _
    · have hj : j < L[i].length := by
        by_cases z : j < L[i].length
        · exact z
        · exact absurd ((nI_leI (by omega) (by omega)).mpr (by omega)) c37
      refine x_iconst (nI 0) dX0_mixedInto_40 (by decide) ?_
      refine x_istore_8 dX0_mixedInto_41 rfl ?_
      refine k_mix_in h hi hj ?_ 5 0 (by omega) (by omega)
      have hih := ih (j + 1) (some (.int (nI 4))) (by omega) (by omega)
      rw [List.take_succ_eq_append_getElem hj, List.foldl_append] at hih
      exact hih
set_option maxRecDepth 20000 in
set_option maxHeartbeats 1000000 in
theorem k_mix_ln {c : Nat → VC} {g : VG} {p : Nat} {L : List (List Pl)} (h : FormeAt c p L) {y m0 : Int64} : ∀ (n i : Nat) (o6 o7 o8 : Option Value), i ≤ L.length → L.length < i + n → Xm M_X0_mixedInto 5 [some (.ref p), some (.long y), none, some (.long (mixFo (L.take i) m0)), none, some (.int (nI i)), o6, o7, o8] [] (g, c) (Rt (.long (mixFo L m0)) (g, c)) := by
  have hF := h.1
  have hp1 := hF.choose_spec.choose_spec.choose_spec.choose_spec.1
  rw [endsL_len] at hp1
  have hL5 := h.2.1
  have hfl : L.flatten.length ≤ 80 := hF.choose_spec.choose_spec.choose_spec.choose_spec.2.2.2.2.2.1
  have hqs := hF.choose_spec.choose_spec.choose_spec.choose_spec.2.2.2.2.2.2.2.1
  intro n
  induction n with
  | zero => intro i o6 o7 o8 z1 z2; omega
  | succ n ih =>
    intro i o6 o7 o8 z1 z2
    refine x_iload dX0_mixedInto_5 rfl ?_
    refine x_aload_n dX0_mixedInto_7 rfl ?_
    refine x_getfield dX0_mixedInto_8 rfl (by decide) (by first | assumption | (simp (disch := omega) only [up_s, up_n]; first | assumption | rfl)) rfl ?_
    refine x_icmp_ge 88 dX0_mixedInto_11 (by decide) (fun c11 => ?_) (fun c11 => ?_)
    · have e1 : i = L.length := by have := (nI_leI (by omega) (by omega)).mp c11; omega
      subst e1
      rw [List.take_length]
      refine x_lload_n dX0_mixedInto_88 rfl ?_
      refine x_lreturn dX0_mixedInto_89 ?_
      exact ⟨rfl, rfl⟩
    · have hi : i < L.length := by
        by_cases z : i < L.length
        · exact z
        · exact absurd ((nI_leI (by omega) (by omega)).mpr (by omega)) c11
      refine x_aload_n dX0_mixedInto_14 rfl ?_
      refine x_iload dX0_mixedInto_15 rfl ?_
      refine x_cv2 dX0_mixedInto_17 rfl (by first | assumption | (simp (disch := omega) only [up_s, up_n]; first | assumption | rfl)) rfl ?_
      refine Cm.rt (s_X0_lengthOfL h hi) ?_
      refine x_istore_6 dX0_mixedInto_20 rfl ?_
      refine x_lload_n dX0_mixedInto_22 rfl ?_
      refine x_iload dX0_mixedInto_23 rfl ?_
      refine x_i2lN dX0_mixedInto_25 (by have := h.2.2 _ (List.getElem_mem hi); omega) ?_
      refine x_cs2 dX0_mixedInto_26 rfl ?_
      refine Cm.rt s_X4_mixed ?_
      refine x_lstore_n3 dX0_mixedInto_29 rfl ?_
      refine x_iconst (nI 0) dX0_mixedInto_30 (by decide) ?_
      refine x_istore_7 dX0_mixedInto_31 rfl ?_
      have := k_mix_pl (g := g) (y := y) (z := mixFo L m0) (m0 := 31 * mixFo (L.take i) m0 + lN L[i].length) h hi (fun o7 o8 => ?_) (L[i].length + 1) 0 o8 (Nat.zero_le _) (by omega)
      · exact this
      · have hih := ih (i + 1) (some (.int (nI L[i].length))) o7 o8 (by omega) (by omega)
        rw [show mixFo (L.take (i + 1)) m0 = L[i].foldl mixP (31 * mixFo (L.take i) m0 + lN L[i].length) by unfold mixFo; rw [List.take_succ_eq_append_getElem hi, List.foldl_append]; rfl] at hih
        exact hih
set_option maxRecDepth 20000 in
set_option maxHeartbeats 1000000 in
theorem s_X0_mixedInto {c : Nat → VC} {g : VG} {p : Nat} {L : List (List Pl)} (h : FormeAt c p L) {z : Int64} : Cm k_X0_mixedInto [.ref p, .long z] (g, c) (Rt (.long (mixFo L z)) (g, c)) := by
  refine Cm.in (M := M_X0_mixedInto) (ls := [some (.ref p), some (.long z), none, none, none, none, none, none, none]) rfl rfl ?_
  refine x_lload_n dX0_mixedInto_0 rfl ?_
  refine x_lstore_n3 dX0_mixedInto_1 rfl ?_
  refine x_iconst (nI 0) dX0_mixedInto_2 (by decide) ?_
  refine x_istore_5 dX0_mixedInto_3 rfl ?_
  exact k_mix_ln h (L.length + 1) 0 none none none (Nat.zero_le _) (by omega)
/-- the n-th error from place j of line i on: its number, and how many are left -/
def errP (i : Nat) : Nat → List Pl → Nat → Option Nat × Nat
  | _, [], n => (none, n)
  | j, q :: t, n => if wrg q then (if n = 0 then (some (100 * i + j), 0) else errP i (j + 1) t (n - 1)) else errP i (j + 1) t n
def errL : Nat → List (List Pl) → Nat → Option Nat
  | _, [], _ => none
  | i, l :: t, n => match errP i 0 l n with
    | (some k, _) => some k
    | (none, n') => errL (i + 1) t n' 
set_option maxRecDepth 20000 in
set_option maxHeartbeats 1000000 in
theorem k_err_pl {c : Nat → VC} {g : VG} {p : Nat} {L : List (List Pl)} (h : FormeAt c p L) {N : Nat} (hN : N < 2 ^ 31) {r : Int32} {i : Nat} (hi : i < L.length) : ∀ (l d : List Pl) (b : Nat), L[i] = d ++ l → b ≤ N → b + l.length ≤ 100000 → (hk9 : ∀ n', errP i d.length l (N - b) = (none, n') → n' ≤ N → N - n' ≤ b + l.length → ∀ o4 o5, Xm M_X0_errorAt 4 [some (.ref p), some (.int (nI N)), some (.int (nI (N - n'))), some (.int (nI (i + 1))), o4, o5] [] (g, c) (Rt (.int r) (g, c))) → (hr : ∀ k n', errP i d.length l (N - b) = (some k, n') → r = nI k) → Xm M_X0_errorAt 22 [some (.ref p), some (.int (nI N)), some (.int (nI b)), some (.int (nI i)), some (.int (nI L[i].length)), some (.int (nI d.length))] [] (g, c) (Rt (.int r) (g, c)) := by
  have hF := h.1
  have hp1 := hF.choose_spec.choose_spec.choose_spec.choose_spec.1
  rw [endsL_len] at hp1
  have hL5 := h.2.1
  have hfl : L.flatten.length ≤ 80 := hF.choose_spec.choose_spec.choose_spec.choose_spec.2.2.2.2.2.1
  have hqs := hF.choose_spec.choose_spec.choose_spec.choose_spec.2.2.2.2.2.2.2.1
  have hln := h.2.2 _ (List.getElem_mem hi)
  intro l
  induction l with
  | nil =>
    intro d b e0 hb hb2 hk9 hr
    have e1 : d = L[i] := by rw [e0]; simp
    refine x_iload dX0_errorAt_22 rfl ?_
    refine x_iload dX0_errorAt_24 rfl ?_
    refine x_icmp_ge 66 dX0_errorAt_26 (by decide) (fun c26 => ?_) (fun c26 => absurd (by rw [e1]; exact Int32.le_refl _) c26)
    refine x_iincN_3 (1) dX0_errorAt_66 (by decide) rfl ?_
    refine x_goto 4 dX0_errorAt_69 (by decide) ?_
    have := hk9 (N - b) rfl (by omega) (by omega) (some (.int (nI L[i].length))) (some (.int (nI d.length)))
    rw [show N - (N - b) = b by omega] at this
    exact this
  | cons q l ih =>
    intro d b e0 hb hb2 hk9 hr
    have hdl : L[i].length = d.length + (l.length + 1) := by rw [e0]; simp
    have hj : d.length < L[i].length := by omega
    obtain ⟨hx1, hx2⟩ := fl_idx hi hj
    have hgi : L[i][d.length] = q := by simp [e0]
    rw [hgi] at hx2
    refine x_iload dX0_errorAt_22 rfl ?_
    refine x_iload dX0_errorAt_24 rfl ?_
    refine x_icmp_ge 66 dX0_errorAt_26 (by decide) (fun c26 => ?_) (fun c26 => ?_)
    · exact absurd ((nI_leI (by omega) (by omega)).mp c26) (by omega)
    · refine x_aload_n dX0_errorAt_29 rfl ?_
      refine x_aload_n dX0_errorAt_30 rfl ?_
      refine x_iload_n dX0_errorAt_31 rfl ?_
      refine x_cv2 dX0_errorAt_32 rfl (by first | assumption | (simp (disch := omega) only [up_s, up_n]; first | assumption | rfl)) rfl ?_
      refine Cm.rt (s_X0_startOfL h hi) ?_
      refine x_iload dX0_errorAt_35 rfl ?_
      refine x_iaddN dX0_errorAt_37 ?_
      refine x_cv2 dX0_errorAt_38 rfl (by first | assumption | (simp (disch := omega) only [up_s, up_n]; first | assumption | rfl)) rfl ?_
      have hwa := s_X0_wrongAt (g := g) hF hx1
      rw [hx2] at hwa
      refine Cm.rt hwa ?_
      refine x_if_eq 60 dX0_errorAt_41 (by decide) (fun c41 => ?_) (fun c41 => ?_)
      · have e9 := bV_eq c41
        refine x_iincN_5 (1) dX0_errorAt_60 (by decide) rfl ?_
        refine x_goto 22 dX0_errorAt_63 (by decide) ?_
        have hih := ih (d ++ [q]) b (by rw [e0]; simp) hb (by simp at hb2; omega)
        simp only [List.length_append, List.length_singleton] at hih
        refine hih (fun n' z1 z2 z3 => hk9 n' ?_ z2 (by simp; omega)) (fun k n' z1 => hr k n' ?_)
        · unfold errP; rw [if_neg (by rw [e9]; decide)]; exact z1
        · unfold errP; rw [if_neg (by rw [e9]; decide)]; exact z1
      · have e9 := bV_ne c41
        refine x_iload_n dX0_errorAt_44 rfl ?_
        refine x_iload_n dX0_errorAt_45 rfl ?_
        refine x_icmp_ne 57 dX0_errorAt_46 (by decide) (fun c46 => ?_) (fun c46 => ?_)
        · have hne : ¬ b = N := fun z => c46 (by rw [z])
          refine x_iincN_2 (1) dX0_errorAt_57 (by decide) rfl ?_
          refine x_iincN_5 (1) dX0_errorAt_60 (by decide) rfl ?_
          refine x_goto 22 dX0_errorAt_63 (by decide) ?_
          have hih := ih (d ++ [q]) (b + 1) (by rw [e0]; simp) (by omega) (by simp at hb2; omega)
          simp only [List.length_append, List.length_singleton] at hih
          refine hih (fun n' z1 z2 z3 => hk9 n' ?_ z2 (by simp; omega)) (fun k n' z1 => hr k n' ?_)
          · unfold errP; rw [if_pos e9, if_neg (by omega), show N - b - 1 = N - (b + 1) by omega]; exact z1
          · unfold errP; rw [if_pos e9, if_neg (by omega), show N - b - 1 = N - (b + 1) by omega]; exact z1
        · have hbe : b = N := (nI_eq (by omega) (by omega)).mp c46
          refine x_bipush (nI 100) dX0_errorAt_49 (by decide) ?_
          refine x_iload_n dX0_errorAt_51 rfl ?_
          refine x_imulN dX0_errorAt_52 ?_
          refine x_iload dX0_errorAt_53 rfl ?_
          refine x_iaddN dX0_errorAt_55 ?_
          refine x_ireturn dX0_errorAt_56 ?_
          refine ⟨?_, rfl⟩
          rw [hr (100 * i + d.length) 0 (by unfold errP; rw [if_pos e9, if_pos (by omega)])]
set_option maxRecDepth 20000 in
set_option maxHeartbeats 1000000 in
theorem k_err_ln {c : Nat → VC} {g : VG} {p : Nat} {L : List (List Pl)} (h : FormeAt c p L) {N : Nat} (hN : N < 2 ^ 31) {r : Int32} : ∀ (l d : List (List Pl)) (b : Nat) (o4 o5 : Option Value), L = d ++ l → b ≤ N → b ≤ 16 * d.length → r = ixV (errL d.length l (N - b)) → Xm M_X0_errorAt 4 [some (.ref p), some (.int (nI N)), some (.int (nI b)), some (.int (nI d.length)), o4, o5] [] (g, c) (Rt (.int r) (g, c)) := by
  have hF := h.1
  have hp1 := hF.choose_spec.choose_spec.choose_spec.choose_spec.1
  rw [endsL_len] at hp1
  have hL5 := h.2.1
  have hfl : L.flatten.length ≤ 80 := hF.choose_spec.choose_spec.choose_spec.choose_spec.2.2.2.2.2.1
  have hqs := hF.choose_spec.choose_spec.choose_spec.choose_spec.2.2.2.2.2.2.2.1
  intro l
  induction l with
  | nil =>
    intro d b o4 o5 e0 hb hb2 hr
    have e1 : d = L := by rw [e0]; simp
    refine x_iload_n dX0_errorAt_4 rfl ?_
    refine x_aload_n dX0_errorAt_5 rfl ?_
    refine x_getfield dX0_errorAt_6 rfl (by decide) (by assumption) rfl ?_
    refine x_icmp_ge 72 dX0_errorAt_9 (by decide) (fun c9 => ?_) (fun c9 => absurd (by rw [e1]; exact Int32.le_refl _) c9)
    refine x_iconst (-1) dX0_errorAt_72 (by decide) ?_
    refine x_ireturn dX0_errorAt_73 ?_
    exact ⟨by rw [hr]; rfl, rfl⟩
  | cons q l ih =>
    intro d b o4 o5 e0 hb hb2 hr
    have hdl : L.length = d.length + (l.length + 1) := by rw [e0]; simp
    have hi : d.length < L.length := by omega
    have hgi : L[d.length] = q := by simp [e0]
    have hln := h.2.2 _ (List.getElem_mem hi)
    refine x_iload_n dX0_errorAt_4 rfl ?_
    refine x_aload_n dX0_errorAt_5 rfl ?_
    refine x_getfield dX0_errorAt_6 rfl (by decide) (by first | assumption | (simp (disch := omega) only [up_s, up_n]; first | assumption | rfl)) rfl ?_
    refine x_icmp_ge 72 dX0_errorAt_9 (by decide) (fun c9 => ?_) (fun c9 => ?_)
    · exact absurd ((nI_leI (by omega) (by omega)).mp c9) (by omega)
    · refine x_aload_n dX0_errorAt_12 rfl ?_
      refine x_iload_n dX0_errorAt_13 rfl ?_
      refine x_cv2 dX0_errorAt_14 rfl (by first | assumption | (simp (disch := omega) only [up_s, up_n]; first | assumption | rfl)) rfl ?_
      refine Cm.rt (s_X0_lengthOfL h hi) ?_
      refine x_istore_4 dX0_errorAt_17 rfl ?_
      refine x_iconst (nI 0) dX0_errorAt_19 (by decide) ?_
      refine x_istore_5 dX0_errorAt_20 rfl ?_
      refine k_err_pl h hN hi L[d.length] [] b rfl hb (by omega) (fun n' z1 z2 z3 o4 o5 => ?_) (fun k n' z1 => ?_)
      · have hih := ih (d ++ [q]) (N - n') o4 o5 (by rw [e0]; simp) (by omega) (by simp; omega)
        simp only [List.length_append, List.length_singleton] at hih
        refine hih ?_
        rw [hgi] at z1
        have z1 : errP d.length 0 q (N - b) = (none, n') := z1
        have e2 : errL d.length (q :: l) (N - b) = errL (d.length + 1) l n' := by
          conv => lhs; unfold errL
          rw [z1]
        rw [hr, e2, show N - (N - n') = n' by omega]
      · rw [hgi] at z1
        have z1 : errP d.length 0 q (N - b) = (some k, n') := z1
        rw [hr]
        unfold errL
        rw [z1]
        rfl
set_option maxRecDepth 20000 in
set_option maxHeartbeats 1000000 in
theorem s_X0_errorAt {c : Nat → VC} {g : VG} {p : Nat} {L : List (List Pl)} (h : FormeAt c p L) {N : Nat} (hN : N < 2 ^ 31) : Cm k_X0_errorAt [.ref p, .int (nI N)] (g, c) (Rt (.int (ixV (errL 0 L N))) (g, c)) := by
  refine Cm.in (M := M_X0_errorAt) (ls := [some (.ref p), some (.int (nI N)), none, none, none, none]) rfl rfl ?_
  refine x_iconst (nI 0) dX0_errorAt_0 (by decide) ?_
  refine x_istore_n2 dX0_errorAt_1 rfl ?_
  refine x_iconst (nI 0) dX0_errorAt_2 (by decide) ?_
  refine x_istore_n3 dX0_errorAt_3 rfl ?_
  exact k_err_ln h hN L [] 0 none none rfl (Nat.zero_le _) (Nat.zero_le _) rfl
