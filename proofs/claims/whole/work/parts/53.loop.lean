/-! THE LAW: its loop, and its start -/
theorem and31 (v : Int32) : ∃ w, w < 32 ∧ v &&& nI 31 = nI w := by
  refine ⟨(v &&& nI 31).toBitVec.toNat, ?_, ?_⟩
  · have h1 : (v &&& nI 31).toBitVec = v.toBitVec &&& (nI 31).toBitVec := rfl
    have h2 : (nI 31).toBitVec.toNat = 31 := by decide
    rw [h1, BitVec.toNat_and, h2]
    exact Nat.lt_succ_of_le Nat.and_le_right
  · refine Int32.toBitVec_inj.mp ?_
    have h3 : ∀ n : Nat, (nI n).toBitVec = BitVec.ofNat 32 n := fun n => rfl
    rw [h3]
    simp
def LwP (kb sb : Nat) : (Option Value ⊕ Nat) → VH → Prop := fun r h' => r = Sum.inl (some (.int (nI 1))) ∧ h'.1.2.2.1 ≤ kb ∧ h'.1.2.2.2 ≤ sb
set_option maxRecDepth 20000 in
set_option maxHeartbeats 2000000 in
theorem l_sw {c : Nat → VC} {S : St} {th : Int32} {f : Nat → Int64} {n k s i : Nat} {x : Bool} {sc : Nat → Int32} {o5 o6 o7 o8 : Option Value} {Q : (Option Value ⊕ Nat) → VH → Prop} (hL : LawAt c S th f n sc) (hi : i + 5 ≤ n) (hn : n < 2 ^ 31) (K : ∀ c2 S2 th2 f2 x2 k2 s2 o5 o6 o7 o8, LawAt c2 S2 th2 f2 n sc → k2 ≤ k + 1 → s2 ≤ s + 6 → Xm M_L_law 1520 [some (.ref 0), some (.ref 2), some (.ref 456), some (.ref 464), some (.int (nI (i))), o5, o6, o7, o8] [] ((465, x2, k2, s2), c2) Q) {w : Nat} (hw : w < 32) : Xm M_L_law 39 [some (.ref 0), some (.ref 2), some (.ref 456), some (.ref 464), some (.int (nI (i))), o5, o6, o7, o8] [.int (nI w)] ((465, x, k, s), c) Q := by
  rcases (show w = 0 ∨ w = 1 ∨ w = 2 ∨ w = 3 ∨ w = 4 ∨ w = 5 ∨ w = 6 ∨ w = 7 ∨ w = 8 ∨ w = 9 ∨ w = 10 ∨ w = 11 ∨ w = 12 ∨ w = 13 ∨ w = 14 ∨ w = 15 ∨ w = 16 ∨ w = 17 ∨ w = 18 ∨ w = 19 ∨ w = 20 ∨ w = 21 ∨ w = 22 ∨ w = 23 ∨ w = 24 ∨ w = 25 ∨ w = 26 ∨ w = 27 ∨ w = 28 ∨ w = 29 ∨ w = 30 ∨ w = 31 by omega) with rfl | rfl | rfl | rfl | rfl | rfl | rfl | rfl | rfl | rfl | rfl | rfl | rfl | rfl | rfl | rfl | rfl | rfl | rfl | rfl | rfl | rfl | rfl | rfl | rfl | rfl | rfl | rfl | rfl | rfl | rfl | rfl
  · refine x_tab (off := 121) 160 dL_law_39 (by decide) (by decide) (by decide) ?_
    exact tc_buy hL hi hn K
  · refine x_tab (off := 189) 228 dL_law_39 (by decide) (by decide) (by decide) ?_
    exact tc_buyLacking hL hi hn K
  · refine x_tab (off := 233) 272 dL_law_39 (by decide) (by decide) (by decide) ?_
    exact tc_spill hL hi hn K
  · refine x_tab (off := 313) 352 dL_law_39 (by decide) (by decide) (by decide) ?_
    exact tc_clean hL hi hn K
  · refine x_tab (off := 369) 408 dL_law_39 (by decide) (by decide) (by decide) ?_
    exact tc_set hL hi hn K
  · refine x_tab (off := 437) 476 dL_law_39 (by decide) (by decide) (by decide) ?_
    exact tc_letter hL hi hn K
  · refine x_tab (off := 505) 544 dL_law_39 (by decide) (by decide) (by decide) ?_
    exact tc_inBox hL hi hn K
  · refine x_tab (off := 573) 612 dL_law_39 (by decide) (by decide) (by decide) ?_
    exact tc_value hL hi hn K
  · refine x_tab (off := 629) 668 dL_law_39 (by decide) (by decide) (by decide) ?_
    exact tc_setLine hL hi hn K
  · refine x_tab (off := 685) 724 dL_law_39 (by decide) (by decide) (by decide) ?_
    exact tc_correct hL hi hn K
  · refine x_tab (off := 741) 780 dL_law_39 (by decide) (by decide) (by decide) ?_
    exact tc_distribute hL hi hn K
  · refine x_tab (off := 797) 836 dL_law_39 (by decide) (by decide) (by decide) ?_
    exact tc_pie hL hi hn K
  · refine x_tab (off := 853) 892 dL_law_39 (by decide) (by decide) (by decide) ?_
    exact tc_sortHeap hL hi hn K
  · refine x_tab (off := 909) 948 dL_law_39 (by decide) (by decide) (by decide) ?_
    exact tc_forme hL hi hn K
  · refine x_tab (off := 977) 1016 dL_law_39 (by decide) (by decide) (by decide) ?_
    exact tc_places hL hi hn K
  · refine x_tab (off := 1045) 1084 dL_law_39 (by decide) (by decide) (by decide) ?_
    exact tc_place hL hi hn K
  · refine x_tab (off := 1137) 1176 dL_law_39 (by decide) (by decide) (by decide) ?_
    exact tc_proof hL hi hn K
  · refine x_tab (off := 1205) 1244 dL_law_39 (by decide) (by decide) (by decide) ?_
    exact tc_inHeap hL hi hn K
  · refine x_tab (off := 1261) 1300 dL_law_39 (by decide) (by decide) (by decide) ?_
    exact tc_errorsIfSet hL hi hn K
  · refine x_tab (off := 1274) 1313 dL_law_39 (by decide) (by decide) (by decide) ?_
    exact tc_turnedIfSet hL hi hn K
  · refine x_tab (off := 1287) 1326 dL_law_39 (by decide) (by decide) (by decide) ?_
    exact tc_copies hL hi hn K
  · refine x_tab (off := 1300) 1339 dL_law_39 (by decide) (by decide) (by decide) ?_
    exact tc_bestToDistribute hL hi hn K
  · refine x_tab (off := 1313) 1352 dL_law_39 (by decide) (by decide) (by decide) ?_
    exact tc_order hL hi hn K
  · refine x_tab (off := 1354) 1393 dL_law_39 (by decide) (by decide) (by decide) ?_
    exact tc_append hL hi hn K
  · refine x_tab (off := 1410) 1449 dL_law_39 (by decide) (by decide) (by decide) ?_
    exact tc_clearText hL hi hn K
  · refine x_tab (off := 1423) 1462 dL_law_39 (by decide) (by decide) (by decide) ?_
    exact tc_undo hL hi hn K
  · refine x_tab (off := 1467) 1506 dL_law_39 (by decide) (by decide) (by decide) ?_
    exact tc_digest hL hi hn K
  · refine x_tabD 1520 dL_law_39 (by decide) (by decide) ?_
    exact K c S th f x k s o5 o6 o7 o8 hL (by omega) (by omega)
  · refine x_tabD 1520 dL_law_39 (by decide) (by decide) ?_
    exact K c S th f x k s o5 o6 o7 o8 hL (by omega) (by omega)
  · refine x_tabD 1520 dL_law_39 (by decide) (by decide) ?_
    exact K c S th f x k s o5 o6 o7 o8 hL (by omega) (by omega)
  · refine x_tabD 1520 dL_law_39 (by decide) (by decide) ?_
    exact K c S th f x k s o5 o6 o7 o8 hL (by omega) (by omega)
  · refine x_tabD 1520 dL_law_39 (by decide) (by decide) ?_
    exact K c S th f x k s o5 o6 o7 o8 hL (by omega) (by omega)
set_option maxRecDepth 20000 in
set_option maxHeartbeats 2000000 in
theorem l_law {n : Nat} {sc : Nat → Int32} {kb sb : Nat} (hn : n < 2 ^ 30) : ∀ (m i : Nat) (c : Nat → VC) (S : St) (th : Int32) (f : Nat → Int64) (x : Bool) (k s : Nat) (o5 o6 o7 o8 : Option Value), i ≤ n → n < i + 5 * m → LawAt c S th f n sc → k + m ≤ kb → s + 6 * m ≤ sb → Xm M_L_law 23 [some (.ref 0), some (.ref 2), some (.ref 456), some (.ref 464), some (.int (nI i)), o5, o6, o7, o8] [] ((465, x, k, s), c) (LwP kb sb) := by
  intro m
  induction m with
  | zero => intro i c S th f x k s o5 o6 o7 o8 z1 z2; omega
  | succ m ih =>
    intro i c S th f x k s o5 o6 o7 o8 z1 z2 hL hk hs
    have hS := hL.2.2.2.1
    by_cases h5 : i + 5 ≤ n
    · have h7 : 5 ≤ n := by omega
      refine x_iload dL_law_23 rfl ?_
      refine x_aload_n dL_law_25 rfl ?_
      refine x_alenS dL_law_26 (by first | assumption | (simp (disch := omega) only [up_s, up_n]; first | assumption | rfl)) ?_
      refine x_iconst (nI 5) dL_law_27 (by decide) ?_
      refine x_isubN dL_law_28 h7 ?_
      refine x_icmp_gt 1526 dL_law_29 (by decide) (fun c29 => ?_) (fun c29 => ?_)
      · exact absurd ((nI_ltI (by omega) (by omega)).mp c29) (by omega)
      · refine x_aload_n dL_law_32 rfl ?_
        refine x_iload dL_law_33 rfl ?_
        refine x_ialoadS dL_law_35 (by first | assumption | (simp (disch := omega) only [up_s, up_n]; first | assumption | rfl)) (inB_nI (by omega) (by omega)) ?_
        refine x_bipush (nI 31) dL_law_36 (by decide) ?_
        refine x_iand dL_law_38 ?_
        obtain ⟨w, hw, hv⟩ := and31 (sc (nI i).toNatClampNeg)
        rw [hv]
        refine l_sw hL h5 (by omega) (fun c2 S2 th2 f2 x2 k2 s2 p5 p6 p7 p8 hL2 hk2 hs2 => ?_) hw
        refine x_iincN_4 (5) dL_law_1520 (by decide) rfl ?_
        refine x_goto 23 dL_law_1523 (by decide) ?_
        exact ih (i + 5) c2 S2 th2 f2 x2 k2 s2 p5 p6 p7 p8 (by omega) (by omega) hL2 (by omega) (by omega)
    · by_cases h6 : 5 ≤ n
      · have h7 : 5 ≤ n := h6
        refine x_iload dL_law_23 rfl ?_
        refine x_aload_n dL_law_25 rfl ?_
        refine x_alenS dL_law_26 (by first | assumption | (simp (disch := omega) only [up_s, up_n]; first | assumption | rfl)) ?_
        refine x_iconst (nI 5) dL_law_27 (by decide) ?_
        refine x_isubN dL_law_28 h7 ?_
        refine x_icmp_gt 1526 dL_law_29 (by decide) (fun c29 => ?_) (fun c29 => ?_)
        · refine x_iconst (nI 1) dL_law_1526 (by decide) ?_
          refine x_ireturn dL_law_1527 ?_
          exact ⟨rfl, by show k ≤ kb; omega, by show s ≤ sb; omega⟩
        · exact absurd ((nI_ltI (by omega) (by omega)).mpr (by omega)) c29
      · have hneg := pk_sneg (a := n) (b := 5) (by omega) (by omega)
        refine x_iload dL_law_23 rfl ?_
        refine x_aload_n dL_law_25 rfl ?_
        refine x_alenS dL_law_26 (by first | assumption | (simp (disch := omega) only [up_s, up_n]; first | assumption | rfl)) ?_
        refine x_iconst (nI 5) dL_law_27 (by decide) ?_
        refine x_isub dL_law_28 ?_
        refine x_icmp_gt 1526 dL_law_29 (by decide) (fun c29 => ?_) (fun c29 => ?_)
        · refine x_iconst (nI 1) dL_law_1526 (by decide) ?_
          refine x_ireturn dL_law_1527 ?_
          exact ⟨rfl, by show k ≤ kb; omega, by show s ≤ sb; omega⟩
        · exact absurd (Int32.lt_of_lt_of_le hneg (Int32.not_lt.mp (nI_pos (by omega)))) c29
set_option maxRecDepth 20000 in
set_option maxHeartbeats 1000000 in
theorem s_law {c : Nat → VC} {k s n : Nat} {sc : Nat → Int32} (hn : n < 2 ^ 30) (hS : c 0 = cS n sc) (hW : WidAt c) : Cm k_L_law [.ref 0] ((2, true, k, s), c) (LwP (k + 463 + (n / 5 + 1)) (s + 56923 + 6 * (n / 5 + 1))) := by
  refine Cm.in (M := M_L_law) (ls := [some (.ref 0), none, none, none, none, none, none, none, none]) rfl rfl ?_
  refine x_new dL_law_0 rfl ?_
  refine x_dup dL_law_3 rfl ?_
  refine x_ci1 dL_law_4 rfl (by first | assumption | (simp (disch := omega) only [up_s, up_n]; first | assumption | rfl)) rfl ?_
  refine Cm.ev (s_X4_init up_s (by
    obtain ⟨f9, w1, w2⟩ := hW
    exact ⟨f9, (up_n (by omega)).trans w1, w2⟩)) (fun c1 q1 => ?_)
  obtain ⟨hC1, hk1⟩ := q1
  refine x_astore_n1 dL_law_7 rfl ?_
  refine x_new dL_law_8 rfl ?_
  refine x_dup dL_law_11 rfl ?_
  refine x_ci1 dL_law_12 rfl (by first | assumption | (simp (disch := omega) only [up_s, up_n]; first | assumption | rfl)) rfl ?_
  refine Cm.ev (s_X5_init up_s) (fun c2 q2 => ?_)
  obtain ⟨hR2, hF2⟩ := q2
  refine x_astore_n2 dL_law_15 rfl ?_
  refine x_iconst (nI 1) dL_law_16 (by decide) ?_
  refine x_newJN dL_law_17 (by decide) ?_
  refine x_astore_n3 dL_law_19 rfl ?_
  refine x_iconst (nI 0) dL_law_20 (by decide) ?_
  refine x_istore_4 dL_law_21 rfl ?_
  have d4 : (dfl 4).length = 5 := rfl
  have d5 : (dfl 5).length = 10 := rfl
  refine l_law (sc := sc) hn (n / 5 + 1) 0 _ (σ0, [], []) 0 (fun _ => 0) _ _ _ _ _ _ _ (Nat.zero_le _) (by omega) ⟨?_, ?_, up_s, ?_, ok_0⟩ (by omega) (by omega)
  · refine CaseAt.out ?_
    exact hC1.fr (fun j hj => (hF2 j (by omega)).trans (up_n (by omega)))
  · exact hR2.fr (fun j z1 z2 => up_n (by omega))
  · rw [up_n (by omega), hF2 0 (by omega), up_n (by omega), hk1 0 (by omega), up_n (by omega)]
    exact hS
