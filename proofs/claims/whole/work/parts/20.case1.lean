/-! THE CASE: shop at 3, text at 77, saved states at 79, the shop and the forme of the what-ifs at 377, 451 -/
abbrev St : Type := Sg × List Nat × List Sg
def CaseAt (c : Nat → VC) (S : St) : Prop := c 2 = cO 4 [.ref 3, .ref 77, .ref 79, .ref 377, .ref 451] ∧ ShopAt c 3 S.1 ∧ RowAt c 77 78 16 S.2.1 ∧ HistAt c 79 S.2.2 ∧ (∃ σ, ShopAt c 377 σ) ∧ (∃ pl es, FlatAt c 451 pl es) ∧ WidAt c
def FrC (c c' : Nat → VC) : Prop := ∀ k, k < 2 ∨ 456 ≤ k → c' k = c k
theorem FrC.rf {c : Nat → VC} : FrC c c := fun _ _ => rfl
theorem FrC.tr {c c1 c2 : Nat → VC} (h : FrC c c1) (h2 : FrC c1 c2) : FrC c c2 := fun k hk => (h2 k hk).trans (h k hk)
def CQ (z : Nat) (x : Bool) (k s : Nat) (c : Nat → VC) (r : Value ⊕ Nat) (S' : St) : (Option Value ⊕ Nat) → VH → Prop := fun q h' => ∃ c', CaseAt c' S' ∧ FrC c c' ∧ match r with
  | Sum.inl v => q = Sum.inl (some v) ∧ h' = ((z, x, k, s), c')
  | Sum.inr E => q = Sum.inr E ∧ h' = ((z, false, k + 1, s + 6), c')
def Rx (E : Nat) (h : VH) : (Option Value ⊕ Nat) → VH → Prop := fun r h' => r = Sum.inr E ∧ h' = h
theorem Cm.rx {M : MI} {pc μ E : Nat} {ls : VLs} {as rest : List Value} {Q : (Option Value ⊕ Nat) → VH → Prop} {h h1 : VH} (hc : Cm μ as h (Rx E h1)) (hh : M.2.2.2 = []) (k : Q (Sum.inr E) h1) : Cm μ as h (Xk M pc ls rest Q) := hc.mono (fun r h' q => by
  obtain ⟨rfl, rfl⟩ := q
  show Xx M pc ls Q E _
  unfold Xx
  rw [hh]
  exact k)
theorem CaseAt.shop {c c' : Nat → VC} {S : St} {σ' : Sg} (h : CaseAt c S) (hs : ShopAt c' 3 σ') (hf : ∀ k, k < 3 ∨ 77 ≤ k → c' k = c k) : CaseAt c' (σ', S.2) := by
  obtain ⟨h1, h2, h3, h4, ⟨σt, h5⟩, ⟨pl, es, h6⟩, h7⟩ := h
  exact ⟨by rw [hf 2 (by omega)]; exact h1, hs, h3.fr (hf _ (by omega)) (hf _ (by omega)), h4.fr (fun k z1 z2 => hf k (by omega)), ⟨σt, h5.fr (fun k z1 z2 => hf k (by omega))⟩, ⟨pl, es, h6.fr (fun k z1 z2 => hf k (by omega))⟩, h7.fr (hf 1 (by omega))⟩
theorem CaseAt.saved {c c' : Nat → VC} {S : St} {hs' : List Sg} (h : CaseAt c S) (hs : HistAt c' 79 hs') (hf : ∀ k, k < 79 ∨ 377 ≤ k → c' k = c k) : CaseAt c' (S.1, S.2.1, hs') := by
  obtain ⟨h1, h2, h3, h4, ⟨σt, h5⟩, ⟨pl, es, h6⟩, h7⟩ := h
  exact ⟨by rw [hf 2 (by omega)]; exact h1, h2.fr (fun k z1 z2 => hf k (by omega)), h3.fr (hf _ (by omega)) (hf _ (by omega)), hs, ⟨σt, h5.fr (fun k z1 z2 => hf k (by omega))⟩, ⟨pl, es, h6.fr (fun k z1 z2 => hf k (by omega))⟩, h7.fr (hf 1 (by omega))⟩
theorem CaseAt.text {c c' : Nat → VC} {S : St} {T' : List Nat} (h : CaseAt c S) (hs : RowAt c' 77 78 16 T') (hf : ∀ k, k ≠ 77 → k ≠ 78 → c' k = c k) : CaseAt c' (S.1, T', S.2.2) := by
  obtain ⟨h1, h2, h3, h4, ⟨σt, h5⟩, ⟨pl, es, h6⟩, h7⟩ := h
  exact ⟨by rw [hf 2 (by omega) (by omega)]; exact h1, h2.fr (fun k z1 z2 => hf k (by omega) (by omega)), hs, h4.fr (fun k z1 z2 => hf k (by omega) (by omega)), ⟨σt, h5.fr (fun k z1 z2 => hf k (by omega) (by omega))⟩, ⟨pl, es, h6.fr (fun k z1 z2 => hf k (by omega) (by omega))⟩, h7.fr (hf 1 (by omega) (by omega))⟩
/-- only the what-if's shop and forme have changed -/
theorem CaseAt.trial {c c' : Nat → VC} {S : St} (h : CaseAt c S) (hs : ∃ σ, ShopAt c' 377 σ) (hp : ∃ pl es, FlatAt c' 451 pl es) (hf : ∀ k, k < 377 ∨ 456 ≤ k → c' k = c k) : CaseAt c' S := by
  obtain ⟨h1, h2, h3, h4, -, -, h7⟩ := h
  exact ⟨by rw [hf 2 (by omega)]; exact h1, h2.fr (fun k z1 z2 => hf k (by omega)), h3.fr (hf _ (by omega)) (hf _ (by omega)), h4.fr (fun k z1 z2 => hf k (by omega)), hs, hp, h7.fr (hf 1 (by omega))⟩
/-- an index below n -/
def ix (l : Int32) (n : Nat) : Option Nat := if l < 0 ∨ nI n ≤ l then none else some l.toNatClampNeg
theorem ix_none {l : Int32} {n : Nat} (h : ix l n = none) : l < 0 ∨ nI n ≤ l := by
  unfold ix at h
  by_cases q : l < 0 ∨ nI n ≤ l
  · exact q
  · rw [if_neg q] at h; cases h
theorem ix_some {l : Int32} {n j : Nat} (hn : n < 2 ^ 31) (h : ix l n = some j) : j < n ∧ l = nI j := by
  unfold ix at h
  by_cases q : l < 0 ∨ nI n ≤ l
  · rw [if_pos q] at h; cases h
  · rw [if_neg q] at h
    obtain ⟨i, hi, rfl⟩ := nI_of (fun z => q (Or.inl z))
    rw [nI_clamp hi] at h
    have hij := Option.some.inj h
    subst hij
    refine ⟨?_, rfl⟩
    by_cases z : i < n
    · exact z
    · exact absurd (Or.inr (nI_le (by omega) hi)) q
theorem ix_nI {n j : Nat} (hn : n < 2 ^ 31) (h : j < n) : ix (nI j) n = some j := by
  unfold ix
  rw [if_neg (fun q => q.elim (nI_pos (by omega)) (fun z => absurd ((nI_leI hn (by omega)).mp z) (by omega))), nI_clamp (by omega)]
/-- a number from a to b -/
def rg (v : Int32) (a b : Nat) : Option Nat := if v < nI a ∨ nI b < v then none else some v.toNatClampNeg
theorem rg_none {v : Int32} {a b : Nat} (h : rg v a b = none) : v < nI a ∨ nI b < v := by
  unfold rg at h
  by_cases q : v < nI a ∨ nI b < v
  · exact q
  · rw [if_neg q] at h; cases h
theorem rg_some {v : Int32} {a b j : Nat} (ha : a < 2 ^ 31) (hb : b < 2 ^ 31) (h : rg v a b = some j) : a ≤ j ∧ j ≤ b ∧ v = nI j := by
  unfold rg at h
  by_cases q : v < nI a ∨ nI b < v
  · rw [if_pos q] at h; cases h
  · rw [if_neg q] at h
    have h0 : ¬ v < 0 := fun z => q (Or.inl (Int32.lt_of_lt_of_le z (nI_pos' ha)))
    obtain ⟨i, hi, rfl⟩ := nI_of h0
    rw [nI_clamp hi] at h
    have hij := Option.some.inj h
    subst hij
    refine ⟨?_, ?_, rfl⟩
    · by_cases z : i < a
      · exact absurd (Or.inl ((nI_ltI hi ha).mpr z)) q
      · omega
    · by_cases z : b < i
      · exact absurd (Or.inr ((nI_ltI hb hi).mpr z)) q
      · omega
set_option maxRecDepth 20000 in
set_option maxHeartbeats 2000000 in
theorem s_rqIx {c : Nat → VC} {z k s : Nat} {x : Bool} {a n : Nat} (ha : a < n) (hn : n < 2 ^ 31) : Cm k_X4_requireIndex [.int (nI a), .int (nI n)] ((z, x, k, s), c) (Rv ((z, x, k, s), c)) := by
  refine Cm.in (M := M_X4_requireIndex) (ls := [some (.int (nI a)), some (.int (nI n))]) rfl rfl ?_
  refine x_iload_n dX4_requireIndex_0 rfl ?_
  refine x_if_lt 9 dX4_requireIndex_1 (by decide) (fun c1 => ?_) (fun c1 => ?_)
  · exact absurd c1 (nI_pos (by omega))
  · refine x_iload_n dX4_requireIndex_4 rfl ?_
    refine x_iload_n dX4_requireIndex_5 rfl ?_
    refine x_icmp_lt 19 dX4_requireIndex_6 (by decide) (fun c6 => ?_) (fun c6 => ?_)
    · refine x_return dX4_requireIndex_19 ?_
      exact ⟨rfl, rfl⟩
    · exact absurd ((nI_ltI (by omega) hn).mpr ha) c6
set_option maxRecDepth 20000 in
set_option maxHeartbeats 2000000 in
theorem s_rqIx_x {c : Nat → VC} {z k s : Nat} {x : Bool} {i : Int32} {n : Nat} (h : i < 0 ∨ nI n ≤ i) : Cm k_X4_requireIndex [.int i, .int (nI n)] ((z, x, k, s), c) (Rx 1 ((z, false, k + 1, s + 6), c)) := by
  refine Cm.in (M := M_X4_requireIndex) (ls := [some (.int i), some (.int (nI n))]) rfl rfl ?_
  refine x_iload_n dX4_requireIndex_0 rfl ?_
  refine x_if_lt 9 dX4_requireIndex_1 (by decide) (fun c1 => ?_) (fun c1 => ?_)
  · refine x_throw dX4_requireIndex_9 rfl rfl ?_
    exact ⟨rfl, rfl⟩
  · refine x_iload_n dX4_requireIndex_4 rfl ?_
    refine x_iload_n dX4_requireIndex_5 rfl ?_
    refine x_icmp_lt 19 dX4_requireIndex_6 (by decide) (fun c6 => ?_) (fun c6 => ?_)
    · exact absurd c6 (Int32.not_lt.mpr (h.resolve_left c1))
    · refine x_throw dX4_requireIndex_9 rfl rfl ?_
      exact ⟨rfl, rfl⟩
set_option maxRecDepth 20000 in
set_option maxHeartbeats 2000000 in
theorem s_rqLetter {c : Nat → VC} {z k s : Nat} {x : Bool} {a : Nat} (ha : a < 27) : Cm k_X4_requireLetter [.int (nI a)] ((z, x, k, s), c) (Rv ((z, x, k, s), c)) := by
  refine Cm.in (M := M_X4_requireLetter) (ls := [some (.int (nI a))]) rfl rfl ?_
  refine x_iload_n dX4_requireLetter_0 rfl ?_
  refine x_bipush (nI 27) dX4_requireLetter_1 (by decide) ?_
  refine x_cs2 dX4_requireLetter_3 rfl ?_
  refine Cm.rv (s_rqIx ha (by omega)) ?_
  refine x_return dX4_requireLetter_6 ?_
  exact ⟨rfl, rfl⟩
set_option maxRecDepth 20000 in
set_option maxHeartbeats 2000000 in
theorem s_rqLetter_x {c : Nat → VC} {z k s : Nat} {x : Bool} {i : Int32} (h : i < 0 ∨ nI 27 ≤ i) : Cm k_X4_requireLetter [.int i] ((z, x, k, s), c) (Rx 1 ((z, false, k + 1, s + 6), c)) := by
  refine Cm.in (M := M_X4_requireLetter) (ls := [some (.int i)]) rfl rfl ?_
  refine x_iload_n dX4_requireLetter_0 rfl ?_
  refine x_bipush (nI 27) dX4_requireLetter_1 (by decide) ?_
  refine x_cs2 dX4_requireLetter_3 rfl ?_
  exact Cm.rx (s_rqIx_x h) rfl ⟨rfl, rfl⟩
set_option maxRecDepth 20000 in
set_option maxHeartbeats 2000000 in
theorem s_rqForme {c : Nat → VC} {z k s : Nat} {x : Bool} {a : Nat} (ha : a < 3) : Cm k_X4_requireForme [.int (nI a)] ((z, x, k, s), c) (Rv ((z, x, k, s), c)) := by
  refine Cm.in (M := M_X4_requireForme) (ls := [some (.int (nI a))]) rfl rfl ?_
  refine x_iload_n dX4_requireForme_0 rfl ?_
  refine x_iconst (nI 3) dX4_requireForme_1 (by decide) ?_
  refine x_cs2 dX4_requireForme_2 rfl ?_
  refine Cm.rv (s_rqIx ha (by omega)) ?_
  refine x_return dX4_requireForme_5 ?_
  exact ⟨rfl, rfl⟩
set_option maxRecDepth 20000 in
set_option maxHeartbeats 2000000 in
theorem s_rqForme_x {c : Nat → VC} {z k s : Nat} {x : Bool} {i : Int32} (h : i < 0 ∨ nI 3 ≤ i) : Cm k_X4_requireForme [.int i] ((z, x, k, s), c) (Rx 1 ((z, false, k + 1, s + 6), c)) := by
  refine Cm.in (M := M_X4_requireForme) (ls := [some (.int i)]) rfl rfl ?_
  refine x_iload_n dX4_requireForme_0 rfl ?_
  refine x_iconst (nI 3) dX4_requireForme_1 (by decide) ?_
  refine x_cs2 dX4_requireForme_2 rfl ?_
  exact Cm.rx (s_rqIx_x h) rfl ⟨rfl, rfl⟩
set_option maxRecDepth 20000 in
set_option maxHeartbeats 2000000 in
theorem s_rqRg {c : Nat → VC} {z k s : Nat} {x : Bool} {j a b : Nat} (h1 : a ≤ j) (h2 : j ≤ b) (hb : b < 2 ^ 31) : Cm k_X4_requireRange [.int (nI j), .int (nI a), .int (nI b)] ((z, x, k, s), c) (Rv ((z, x, k, s), c)) := by
  refine Cm.in (M := M_X4_requireRange) (ls := [some (.int (nI j)), some (.int (nI a)), some (.int (nI b))]) rfl rfl ?_
  refine x_iload_n dX4_requireRange_0 rfl ?_
  refine x_iload_n dX4_requireRange_1 rfl ?_
  refine x_icmp_lt 10 dX4_requireRange_2 (by decide) (fun c2 => ?_) (fun c2 => ?_)
  · exact absurd ((nI_ltI (by omega) (by omega)).mp c2) (by omega)
  · refine x_iload_n dX4_requireRange_5 rfl ?_
    refine x_iload_n dX4_requireRange_6 rfl ?_
    refine x_icmp_le 20 dX4_requireRange_7 (by decide) (fun c7 => ?_) (fun c7 => ?_)
    · refine x_return dX4_requireRange_20 ?_
      exact ⟨rfl, rfl⟩
    · exact absurd (nI_le h2 hb) c7
set_option maxRecDepth 20000 in
set_option maxHeartbeats 2000000 in
theorem s_rqRg_x {c : Nat → VC} {z k s : Nat} {x : Bool} {v : Int32} {a b : Nat} (h : v < nI a ∨ nI b < v) : Cm k_X4_requireRange [.int v, .int (nI a), .int (nI b)] ((z, x, k, s), c) (Rx 2 ((z, false, k + 1, s + 6), c)) := by
  refine Cm.in (M := M_X4_requireRange) (ls := [some (.int v), some (.int (nI a)), some (.int (nI b))]) rfl rfl ?_
  refine x_iload_n dX4_requireRange_0 rfl ?_
  refine x_iload_n dX4_requireRange_1 rfl ?_
  refine x_icmp_lt 10 dX4_requireRange_2 (by decide) (fun c2 => ?_) (fun c2 => ?_)
  · refine x_throw dX4_requireRange_10 rfl rfl ?_
    exact ⟨rfl, rfl⟩
  · refine x_iload_n dX4_requireRange_5 rfl ?_
    refine x_iload_n dX4_requireRange_6 rfl ?_
    refine x_icmp_le 20 dX4_requireRange_7 (by decide) (fun c7 => ?_) (fun c7 => ?_)
    · exact absurd c7 (Int32.not_le.mpr (h.resolve_left c2))
    · refine x_throw dX4_requireRange_10 rfl rfl ?_
      exact ⟨rfl, rfl⟩
set_option maxRecDepth 20000 in
set_option maxHeartbeats 2000000 in
theorem s_rqRoom {c : Nat → VC} {z k s : Nat} {x : Bool} {S : St} (h : CaseAt c S) {n : Nat} (hn : totM S.1 + n ≤ 250) : Cm k_X4_requireRoomFor [.ref 2, .int (nI n)] ((z, x, k, s), c) (Rv ((z, x, k, s), c)) := by
  have h2 := h.1
  have h3 := h.2.1.1
  refine Cm.in (M := M_X4_requireRoomFor) (ls := [some (.ref 2), some (.int (nI n))]) rfl rfl ?_
  refine x_aload_n dX4_requireRoomFor_0 rfl ?_
  refine x_getfield dX4_requireRoomFor_1 rfl (by decide) (by first | assumption | (simp (disch := omega) only [up_s, up_n]; first | assumption | rfl)) rfl ?_
  refine x_cv1 dX4_requireRoomFor_4 rfl (by first | assumption | (simp (disch := omega) only [up_s, up_n]; first | assumption | rfl)) rfl ?_
  refine Cm.rt (s_X3_allSorts h.2.1) ?_
  refine x_iload_n dX4_requireRoomFor_7 rfl ?_
  refine x_iaddN dX4_requireRoomFor_8 ?_
  refine x_sipush (nI 250) dX4_requireRoomFor_9 (by decide) ?_
  refine x_icmp_le 25 dX4_requireRoomFor_12 (by decide) (fun c12 => ?_) (fun c12 => ?_)
  · refine x_return dX4_requireRoomFor_25 ?_
    exact ⟨rfl, rfl⟩
  · exact absurd (nI_le hn (by omega)) c12
set_option maxRecDepth 20000 in
set_option maxHeartbeats 2000000 in
theorem s_rqRoom_x {c : Nat → VC} {z k s : Nat} {x : Bool} {S : St} (h : CaseAt c S) {n : Nat} (hn : ¬ totM S.1 + n ≤ 250) (hn2 : totM S.1 + n < 2 ^ 31) : Cm k_X4_requireRoomFor [.ref 2, .int (nI n)] ((z, x, k, s), c) (Rx 3 ((z, false, k + 1, s + 6), c)) := by
  have h2 := h.1
  have h3 := h.2.1.1
  refine Cm.in (M := M_X4_requireRoomFor) (ls := [some (.ref 2), some (.int (nI n))]) rfl rfl ?_
  refine x_aload_n dX4_requireRoomFor_0 rfl ?_
  refine x_getfield dX4_requireRoomFor_1 rfl (by decide) (by first | assumption | (simp (disch := omega) only [up_s, up_n]; first | assumption | rfl)) rfl ?_
  refine x_cv1 dX4_requireRoomFor_4 rfl (by first | assumption | (simp (disch := omega) only [up_s, up_n]; first | assumption | rfl)) rfl ?_
  refine Cm.rt (s_X3_allSorts h.2.1) ?_
  refine x_iload_n dX4_requireRoomFor_7 rfl ?_
  refine x_iaddN dX4_requireRoomFor_8 ?_
  refine x_sipush (nI 250) dX4_requireRoomFor_9 (by decide) ?_
  refine x_icmp_le 25 dX4_requireRoomFor_12 (by decide) (fun c12 => ?_) (fun c12 => ?_)
  · exact absurd ((nI_leI hn2 (by omega)).mp c12) hn
  · refine x_throw dX4_requireRoomFor_15 rfl rfl ?_
    exact ⟨rfl, rfl⟩
/-- behind history.save(shop) -/
theorem s_save {c : Nat → VC} {g : VG} {S : St} (h : CaseAt c S) : Cm k_X1_save [.ref 79, .ref 3] (g, c) (Ev g (fun c' => CaseAt c' (S.1, S.2.1, saveH S.2.2 S.1) ∧ FrC c c')) :=
  (s_X1_save h.2.2.2.1 (by omega) h.2.1).mono (fun r h' q => by
    obtain ⟨c', q1, q2, q3, q4⟩ := q
    exact ⟨c', q1, q2, h.saved q3 q4, fun k hk => q4 k (by omega)⟩)
set_option maxRecDepth 20000 in
set_option maxHeartbeats 1000000 in
theorem s_X4_init {c : Nat → VC} {k s : Nat} (hr : c 2 = cO 4 (dfl 4)) (hW : WidAt c) : Cm k_X4_init [.ref 2] ((3, true, k, s), c) (Ev (456, true, k + 453, s + 47357) (fun c' => CaseAt c' (σ0, [], []) ∧ ∀ j, j < 2 → c' j = c j)) := by
  refine Cm.in (M := M_X4_init) (ls := [some (.ref 2)]) rfl rfl ?_
  refine x_aload_n dX4_init_0 rfl ?_
  refine x_objinit dX4_init_1 rfl ?_
  refine x_aload_n dX4_init_4 rfl ?_
  refine x_new dX4_init_5 rfl ?_
  refine x_dup dX4_init_8 rfl ?_
  refine x_ci1 dX4_init_9 rfl (by first | assumption | (simp (disch := omega) only [up_s, up_n]; first | assumption | exact hr | rfl)) rfl ?_
  refine Cm.ev (s_X3_init up_s rfl) (fun c1 q1 => ?_)
  have hA1 : c1 2 = cO 4 (dfl 4) := by rw [q1.2 2 (by omega), up_n (by omega)]; exact hr
  refine x_putfield0 dX4_init_12 rfl (by first | assumption | (simp (disch := omega) only [up_s, up_n]; first | assumption | exact hr | rfl)) rfl ?_
  refine x_aload_n dX4_init_15 rfl ?_
  refine x_new dX4_init_16 rfl ?_
  refine x_dup dX4_init_19 rfl ?_
  refine x_bipush (nI 16) dX4_init_20 (by decide) ?_
  refine x_ci2 dX4_init_22 rfl (by first | assumption | (simp (disch := omega) only [up_s, up_n]; first | assumption | exact hr | rfl)) rfl ?_
  refine Cm.ev (s_X2_init up_s (by omega) (by omega)) (fun c2 q2 => ?_)
  have hA2 : c2 2 = cO 4 [.ref 3, .null, .null, .null, .null] := by rw [q2.2 2 (by omega) (by omega), up_n (by omega), up_s]; rfl
  refine x_putfield1 dX4_init_25 rfl (by first | assumption | (simp (disch := omega) only [up_s, up_n]; first | assumption | exact hr | rfl)) rfl ?_
  refine x_aload_n dX4_init_28 rfl ?_
  refine x_new dX4_init_29 rfl ?_
  refine x_dup dX4_init_32 rfl ?_
  refine x_ci1 dX4_init_33 rfl (by first | assumption | (simp (disch := omega) only [up_s, up_n]; first | assumption | exact hr | rfl)) rfl ?_
  refine Cm.ev (s_X1_init up_s rfl) (fun c3 q3 => ?_)
  have hA3 : c3 2 = cO 4 [.ref 3, .ref 77, .null, .null, .null] := by rw [q3.2 2 (by omega), up_n (by omega), up_s]
  refine x_putfield2 dX4_init_36 rfl (by first | assumption | (simp (disch := omega) only [up_s, up_n]; first | assumption | exact hr | rfl)) rfl ?_
  refine x_aload_n dX4_init_39 rfl ?_
  refine x_new dX4_init_40 rfl ?_
  refine x_dup dX4_init_43 rfl ?_
  refine x_ci1 dX4_init_44 rfl (by first | assumption | (simp (disch := omega) only [up_s, up_n]; first | assumption | exact hr | rfl)) rfl ?_
  refine Cm.ev (s_X3_init up_s rfl) (fun c4 q4 => ?_)
  have hA4 : c4 2 = cO 4 [.ref 3, .ref 77, .ref 79, .null, .null] := by rw [q4.2 2 (by omega), up_n (by omega), up_s]
  refine x_putfield3 dX4_init_47 rfl (by first | assumption | (simp (disch := omega) only [up_s, up_n]; first | assumption | exact hr | rfl)) rfl ?_
  refine x_aload_n dX4_init_50 rfl ?_
  refine x_new dX4_init_51 rfl ?_
  refine x_dup dX4_init_54 rfl ?_
  refine x_ci1 dX4_init_55 rfl (by first | assumption | (simp (disch := omega) only [up_s, up_n]; first | assumption | exact hr | rfl)) rfl ?_
  refine Cm.ev (s_X0_init up_s rfl) (fun c5 q5 => ?_)
  have hA5 : c5 2 = cO 4 [.ref 3, .ref 77, .ref 79, .ref 377, .null] := by rw [q5.2 2 (by omega), up_n (by omega), up_s]
  refine x_putfield4 dX4_init_58 rfl (by first | assumption | (simp (disch := omega) only [up_s, up_n]; first | assumption | exact hr | rfl)) rfl ?_
  refine x_return dX4_init_61 ?_
  refine ⟨_, rfl, rfl, ⟨up_s, ?_, ?_, ?_, ⟨σ0, ?_⟩, ⟨[], [], ?_⟩, ?_⟩, ?_⟩
  · refine q1.1.fr (fun k z1 z2 => ?_)
    rw [up_n (by omega), q5.2 k (by omega), up_n (by omega), up_n (by omega), q4.2 k (by omega), up_n (by omega), up_n (by omega), q3.2 k (by omega), up_n (by omega), up_n (by omega), q2.2 k (by omega) (by omega), up_n (by omega), up_n (by omega)]
  · refine q2.1.fr ?_ ?_
    · rw [up_n (by omega), q5.2 _ (by omega), up_n (by omega), up_n (by omega), q4.2 _ (by omega), up_n (by omega), up_n (by omega), q3.2 _ (by omega), up_n (by omega), up_n (by omega)]
    · rw [up_n (by omega), q5.2 _ (by omega), up_n (by omega), up_n (by omega), q4.2 _ (by omega), up_n (by omega), up_n (by omega), q3.2 _ (by omega), up_n (by omega), up_n (by omega)]
  · refine q3.1.fr (fun k z1 z2 => ?_)
    rw [up_n (by omega), q5.2 k (by omega), up_n (by omega), up_n (by omega), q4.2 k (by omega), up_n (by omega), up_n (by omega)]
  · refine q4.1.fr (fun k z1 z2 => ?_)
    rw [up_n (by omega), q5.2 k (by omega), up_n (by omega), up_n (by omega)]
  · exact q5.1.fr (fun k z1 z2 => up_n (by omega))
  · refine hW.fr ?_
    rw [up_n (by omega), q5.2 _ (by omega), up_n (by omega), up_n (by omega), q4.2 _ (by omega), up_n (by omega), up_n (by omega), q3.2 _ (by omega), up_n (by omega), up_n (by omega), q2.2 _ (by omega) (by omega), up_n (by omega), up_n (by omega), q1.2 _ (by omega), up_n (by omega)]
  · intro j hj
    rw [up_n (by omega), q5.2 _ (by omega), up_n (by omega), up_n (by omega), q4.2 _ (by omega), up_n (by omega), up_n (by omega), q3.2 _ (by omega), up_n (by omega), up_n (by omega), q2.2 _ (by omega) (by omega), up_n (by omega), up_n (by omega), q1.2 _ (by omega), up_n (by omega)]
