/-! the reference: public methods on boxes -/
theorem lN_pred {n : Nat} (h : n < 2 ^ 31) : (lN n - 1).toInt = (n : Int) - 1 := by
  have e1 : (lN n).toInt = n := by
    have := Int32.toInt_toInt64 (nI n)
    rw [nI_l h, nI_toInt h] at this
    exact this
  rw [Int64.toInt_sub, e1]
  have e2 : (1 : Int64).toInt = 1 := by decide
  rw [e2]
  exact Int.bmod_eq_of_le (by omega) (by omega)
theorem in_ix0 {v : Int32} {n : Nat} {lo hi : Int64} (hn : n < 2 ^ 31) (h1 : lo.toInt = 0) (h2 : hi.toInt = (n : Int) - 1) : inV v.toInt64 lo hi = (ix v n).isSome := by
  unfold inV ix
  have e1 : v.toInt64 < lo ↔ v < 0 := by rw [Int64.lt_iff_toInt_lt, Int32.lt_iff_toInt_lt, Int32.toInt_toInt64, h1, Int32.toInt_zero]
  have e2 : hi < v.toInt64 ↔ nI n ≤ v := by rw [Int64.lt_iff_toInt_lt, Int32.le_iff_toInt_le, Int32.toInt_toInt64, h2, nI_toInt hn]; omega
  by_cases q1 : v < 0
  · rw [if_pos (Or.inl q1)]
    simp [e1.mpr q1]
  · by_cases q2 : nI n ≤ v
    · rw [if_pos (Or.inr q2)]
      simp [e2.mpr q2]
    · rw [if_neg (fun q => q.elim q1 q2)]
      rw [decide_eq_true (p := ¬ v.toInt64 < lo) (fun z => q1 (e1.mp z)), decide_eq_true (p := ¬ hi < v.toInt64) (fun z => q2 (e2.mp z))]
      rfl
def RefAt (c : Nat → VC) (S : St) (th : Int32) : Prop := ∃ f vs as tx rw ll lt, RH c f vs as tx rw ll lt (nI S.2.2.length) (nI S.2.1.length) th ∧ RepA f S.1 ∧ HiR vs S.2.2 ∧ TxR tx S.2.1
theorem RefAt.fr {c c' : Nat → VC} {S : St} {th : Int32} (h : RefAt c S th) (hf : ∀ k, 456 ≤ k → k < 464 → c' k = c k) : RefAt c' S th := by
  obtain ⟨f, vs, as, tx, rw, ll, lt, ⟨g1, g2, g3, g4, g5, g6, g7, g8⟩, h2⟩ := h
  exact ⟨f, vs, as, tx, rw, ll, lt, ⟨(hf _ (by omega) (by omega)).trans g1, (hf _ (by omega) (by omega)).trans g2, (hf _ (by omega) (by omega)).trans g3, (hf _ (by omega) (by omega)).trans g4, (hf _ (by omega) (by omega)).trans g5, (hf _ (by omega) (by omega)).trans g6, (hf _ (by omega) (by omega)).trans g7, (hf _ (by omega) (by omega)).trans g8⟩, h2⟩
def RQ (g : VG) (c : Nat → VC) (pm : Nat → Nat) (r : Value ⊕ Nat) (S' : St) : (Option Value ⊕ Nat) → VH → Prop := fun q h' => ∃ v c' th, q = Sum.inl (some v) ∧ h' = (g, c') ∧ RefAt c' S' (nI th) ∧ FrR c c' ∧ match r with
  | Sum.inl w => th = 0 ∧ v = w
  | Sum.inr E => th = pm E ∧ v = .int (nI 0)
theorem RepA.mk' {f f' : Nat → Int32} {σ : Sg} {B' : Bx} {a b d e z : Int32} (h : RepA f σ) (hB : BoxR f' B') (hf : ∀ k, 527 ≤ k → k < 1516 → f' k = f k) (h1 : f' 1516 = a) (h2 : f' 1517 = b) (h3 : f' 1518 = d) (h4 : f' 1519 = e) (h5 : f' 1520 = z) : RepA f' (B', σ.2.1, σ.2.2.1, a, b, d, e, z) :=
  ⟨hB, fun j hj => (h.2.1 j hj).fr (hf _ (by omega) (by omega)) (fun k z1 z2 => hf k (by omega) (by omega)), h.2.2.1.fr (fun k z1 z2 => hf k (by omega) (by omega)), h1, h2, h3, h4, h5⟩
set_option maxRecDepth 20000 in
set_option maxHeartbeats 2000000 in
theorem s_X5_buy {c : Nat → VC} {g : VG} {S : St} {th : Int32} (h : RefAt c S th) (hk : StOK S) {l m : Int32} : Cm k_X5_buy [.ref 456, .int l, .int m] (g, c) (RQ g c (id) (buyM l m S).1 (buyM l m S).2) := by
  obtain ⟨f, vs, as, tx, rw, ll, lt, hR, hRp, hH, hX0⟩ := h
  obtain ⟨hO, hA, hS, hD, hX, hW, hL, hT⟩ := id hR
  obtain ⟨u1, u2, u3, u4, u5⟩ := hRp.2.2.2
  cases e1 : ix l 27 with
  | none =>
    have hM : buyM l m S = (Sum.inr 1, S) := by simp only [buyM, e1]
    rw [hM]
    refine Cm.in (M := M_X5_buy) (ls := [some (.ref 456), some (.int l), some (.int m)]) rfl rfl ?_
    refine x_iload_n dX5_buy_0 rfl ?_
    refine x_cs1 dX5_buy_1 rfl ?_
    refine Cm.rt s_X5_isLetter ?_
    rw [e1]
    refine x_if_ne 13 dX5_buy_4 (by decide) (fun c4 => ?_) (fun c4 => ?_)
    · exact absurd rfl c4
    · refine x_aload_n dX5_buy_7 rfl ?_
      refine x_iconst (nI 1) dX5_buy_8 (by decide) ?_
      refine x_cv2 dX5_buy_9 rfl (by first | assumption | (simp (disch := omega) only [up_s, up_n]; first | assumption | rfl)) rfl ?_
      refine Cm.ei (s_X5_throwing hR) (fun w c9 q9 => ?_)
      obtain ⟨rfl, w1, w2⟩ := q9
      refine x_ireturn dX5_buy_12 ?_
      exact ⟨_, c9, 1, rfl, rfl, ⟨f, vs, as, tx, rw, ll, lt, w1, hRp, hH, hX0⟩, w2, rfl, rfl⟩
  | some a =>
    obtain ⟨ha, rfl⟩ := ix_some (by omega) e1
    cases e2 : rg m 1 30 with
    | none =>
      have hM : buyM (nI a) m S = (Sum.inr 2, S) := by simp only [buyM, e1, e2]
      rw [hM]
      refine Cm.in (M := M_X5_buy) (ls := [some (.ref 456), some (.int (nI a)), some (.int m)]) rfl rfl ?_
      refine x_iload_n dX5_buy_0 rfl ?_
      refine x_cs1 dX5_buy_1 rfl ?_
      refine Cm.rt s_X5_isLetter ?_
      rw [e1]
      refine x_if_ne 13 dX5_buy_4 (by decide) (fun c4 => ?_) (fun c4 => ?_)
      · refine x_iload_n dX5_buy_13 rfl ?_
        refine x_i2l dX5_buy_14 ?_
        refine x_lconst (1) dX5_buy_15 (by decide) ?_
        refine x_ldc2_w dX5_buy_16 rfl ?_
        refine x_cs3 dX5_buy_19 rfl ?_
        refine Cm.rt s_X5_in ?_
        rw [in_rg (a := 1) (b := 30) (by omega) (by omega) (by decide) (by decide), e2]
        refine x_if_ne 31 dX5_buy_22 (by decide) (fun c22 => ?_) (fun c22 => ?_)
        · exact absurd rfl c22
        · refine x_aload_n dX5_buy_25 rfl ?_
          refine x_iconst (nI 2) dX5_buy_26 (by decide) ?_
          refine x_cv2 dX5_buy_27 rfl (by first | assumption | (simp (disch := omega) only [up_s, up_n]; first | assumption | rfl)) rfl ?_
          refine Cm.ei (s_X5_throwing hR) (fun w c9 q9 => ?_)
          obtain ⟨rfl, w1, w2⟩ := q9
          refine x_ireturn dX5_buy_30 ?_
          exact ⟨_, c9, 2, rfl, rfl, ⟨f, vs, as, tx, rw, ll, lt, w1, hRp, hH, hX0⟩, w2, rfl, rfl⟩
      · exact absurd (show bV true = 0 from c4) (by decide)
    | some n =>
      obtain ⟨hn1, hn2, rfl⟩ := rg_some (by omega) (by omega) e2
      have ht := hk.1
      by_cases hr : totM S.1 + n ≤ 250
      · have hM : buyM (nI a) (nI n) S = (Sum.inl (.int (nI (buyB S.1.1 a n a).length)), sv S (buyB S.1.1 a n, S.1.2.1, S.1.2.2.1, n1 S.1, n2 S.1, n3 S.1 + n2 S.1 * nI n, n4 S.1, n5 S.1)) := by simp only [buyM, e1, e2, if_pos hr]
        rw [hM]
        have hsb : SB S.1.1 + n ≤ 250 := by unfold totM at hr; omega
        refine Cm.in (M := M_X5_buy) (ls := [some (.ref 456), some (.int (nI a)), some (.int (nI n))]) rfl rfl ?_
        refine x_iload_n dX5_buy_0 rfl ?_
        refine x_cs1 dX5_buy_1 rfl ?_
        refine Cm.rt s_X5_isLetter ?_
        rw [e1]
        refine x_if_ne 13 dX5_buy_4 (by decide) (fun c4 => ?_) (fun c4 => ?_)
        · refine x_iload_n dX5_buy_13 rfl ?_
          refine x_i2l dX5_buy_14 ?_
          refine x_lconst (1) dX5_buy_15 (by decide) ?_
          refine x_ldc2_w dX5_buy_16 rfl ?_
          refine x_cs3 dX5_buy_19 rfl ?_
          refine Cm.rt s_X5_in ?_
          rw [in_rg (a := 1) (b := 30) (by omega) (by omega) (by decide) (by decide), e2]
          refine x_if_ne 31 dX5_buy_22 (by decide) (fun c22 => ?_) (fun c22 => ?_)
          · refine x_aload_n dX5_buy_31 rfl ?_
            refine x_cv1 dX5_buy_32 rfl (by first | assumption | (simp (disch := omega) only [up_s, up_n]; first | assumption | rfl)) rfl ?_
            refine Cm.rt (s_X5_sorts hO hA hRp) ?_
            refine x_iload_n dX5_buy_35 rfl ?_
            refine x_iaddN dX5_buy_36 ?_
            refine x_sipush (nI 250) dX5_buy_37 (by decide) ?_
            refine x_icmp_le 49 dX5_buy_40 (by decide) (fun c40 => ?_) (fun c40 => ?_)
            · refine x_aload_n dX5_buy_49 rfl ?_
              refine x_cv1 dX5_buy_50 rfl (by first | assumption | (simp (disch := omega) only [up_s, up_n]; first | assumption | rfl)) rfl ?_
              refine Cm.ev (s_X5_save hR hH hRp) (fun c1 q1 => ?_)
              obtain ⟨v1, hR1, hF1, hH1⟩ := q1
              obtain ⟨hO1, hA1, hS1, hD1, hX1, hW1, hL1, hT1⟩ := id hR1
              refine x_aload_n dX5_buy_53 rfl ?_
              refine x_iload_n dX5_buy_54 rfl ?_
              refine x_iload_n dX5_buy_55 rfl ?_
              refine x_cv3 dX5_buy_56 rfl (by first | assumption | (simp (disch := omega) only [up_s, up_n]; first | assumption | rfl)) rfl ?_
              refine Cm.ev (s_X5_buys hR1 ha hsb hRp.1) (fun c2 q2 => ?_)
              obtain ⟨f2, hR2, hF2, hB2, e18, hfr⟩ := q2
              obtain ⟨hO2, hA2, hS2, hD2, hX2, hW2, hL2, hT2⟩ := id hR2
              refine x_aload_n dX5_buy_59 rfl ?_
              refine x_aload_n dX5_buy_60 rfl ?_
              refine x_iload_n dX5_buy_61 rfl ?_
              refine x_iconst (-1) dX5_buy_62 (by decide) ?_
              refine x_cv3 dX5_buy_63 rfl (by first | assumption | (simp (disch := omega) only [up_s, up_n]; first | assumption | rfl)) rfl ?_
              refine Cm.rt (s_X5_countIn_n hO2 hA2 hB2 ha) ?_
              refine x_cv2 dX5_buy_66 rfl (by first | assumption | (simp (disch := omega) only [up_s, up_n]; first | assumption | rfl)) rfl ?_
              refine Cm.ei (s_X5_fine hR2) (fun w c9 q9 => ?_)
              obtain ⟨rfl, w1, w2⟩ := q9
              refine x_ireturn dX5_buy_69 ?_
              exact ⟨_, c9, 0, rfl, rfl, ⟨f2, v1, as, tx, rw, ll, lt, w1, hRp.mk' hB2 (fun k z1 z2 => hfr k z1 (by omega)) (by rw [hfr _ (by omega) (by omega), u1]) (by rw [hfr _ (by omega) (by omega), u2]) (by rw [e18, u3, u2]) (by rw [hfr _ (by omega) (by omega), u4]) (by rw [hfr _ (by omega) (by omega), u5]), hH1, hX0⟩, (hF1.tr hF2).tr w2, rfl, rfl⟩
            · exact absurd ((nI_leI (by omega) (by omega)).mpr (by omega)) c40
          · exact absurd (show bV true = 0 from c22) (by decide)
        · exact absurd (show bV true = 0 from c4) (by decide)
      · have hM : buyM (nI a) (nI n) S = (Sum.inr 3, S) := by simp only [buyM, e1, e2, if_neg hr]
        rw [hM]
        refine Cm.in (M := M_X5_buy) (ls := [some (.ref 456), some (.int (nI a)), some (.int (nI n))]) rfl rfl ?_
        refine x_iload_n dX5_buy_0 rfl ?_
        refine x_cs1 dX5_buy_1 rfl ?_
        refine Cm.rt s_X5_isLetter ?_
        rw [e1]
        refine x_if_ne 13 dX5_buy_4 (by decide) (fun c4 => ?_) (fun c4 => ?_)
        · refine x_iload_n dX5_buy_13 rfl ?_
          refine x_i2l dX5_buy_14 ?_
          refine x_lconst (1) dX5_buy_15 (by decide) ?_
          refine x_ldc2_w dX5_buy_16 rfl ?_
          refine x_cs3 dX5_buy_19 rfl ?_
          refine Cm.rt s_X5_in ?_
          rw [in_rg (a := 1) (b := 30) (by omega) (by omega) (by decide) (by decide), e2]
          refine x_if_ne 31 dX5_buy_22 (by decide) (fun c22 => ?_) (fun c22 => ?_)
          · refine x_aload_n dX5_buy_31 rfl ?_
            refine x_cv1 dX5_buy_32 rfl (by first | assumption | (simp (disch := omega) only [up_s, up_n]; first | assumption | rfl)) rfl ?_
            refine Cm.rt (s_X5_sorts hO hA hRp) ?_
            refine x_iload_n dX5_buy_35 rfl ?_
            refine x_iaddN dX5_buy_36 ?_
            refine x_sipush (nI 250) dX5_buy_37 (by decide) ?_
            refine x_icmp_le 49 dX5_buy_40 (by decide) (fun c40 => ?_) (fun c40 => ?_)
            · exact absurd ((nI_leI (by omega) (by omega)).mp c40) (by omega)
            · refine x_aload_n dX5_buy_43 rfl ?_
              refine x_iconst (nI 3) dX5_buy_44 (by decide) ?_
              refine x_cv2 dX5_buy_45 rfl (by first | assumption | (simp (disch := omega) only [up_s, up_n]; first | assumption | rfl)) rfl ?_
              refine Cm.ei (s_X5_throwing hR) (fun w c9 q9 => ?_)
              obtain ⟨rfl, w1, w2⟩ := q9
              refine x_ireturn dX5_buy_48 ?_
              exact ⟨_, c9, 3, rfl, rfl, ⟨f, vs, as, tx, rw, ll, lt, w1, hRp, hH, hX0⟩, w2, rfl, rfl⟩
          · exact absurd (show bV true = 0 from c22) (by decide)
        · exact absurd (show bV true = 0 from c4) (by decide)
theorem SB_blN {T : List Nat} {pr co : Int32} {B : Bx} : ∀ n, n ≤ 27 → SB (blN T pr B co n).1 = SB B + sumN (lk T B) n
  | 0, _ => rfl
  | n + 1, hn => by
    show SB (buyB (blN T pr B co n).1 n (lk T (blN T pr B co n).1 n)) = SB B + (sumN (lk T B) n + lk T B n)
    rw [SB_buyB (by omega), SB_blN n (by omega), blN_lk, Nat.add_assoc]
theorem lk_le {T : List Nat} {B : Bx} {a : Nat} : lk T B a ≤ T.length := by
  unfold lk
  have : T.count a ≤ T.length := List.count_le_length
  omega
theorem slk_le {T : List Nat} {B : Bx} : ∀ n, sumN (lk T B) n ≤ n * T.length
  | 0 => by simp [sumN]
  | n + 1 => by
    show sumN (lk T B) n + lk T B n ≤ _
    have h1 := slk_le (T := T) (B := B) n
    have h2 := lk_le (T := T) (B := B) (a := n)
    rw [Nat.add_mul, Nat.one_mul]
    omega
set_option maxRecDepth 20000 in
set_option maxHeartbeats 1000000 in
theorem l_X5_lack1 {c : Nat → VC} {g : VG} {f vs as tx rw ll lt : Nat → Int32} {n th : Int32} {T : List Nat} {B : Bx} (hR : RH c f vs as tx rw ll lt n (nI T.length) th) (hX0 : TxR tx T) (hB : BoxR f B) {Q : (Option Value ⊕ Nat) → VH → Prop} (hQ : Xm M_X5_buyLacking 24 [some (.ref 456), some (.int (nI (sumN (lk T B) 27))), some (.int (nI 27))] [] (g, c) Q) : ∀ (m i : Nat), i ≤ 27 → 27 < i + m → Xm M_X5_buyLacking 4 [some (.ref 456), some (.int (nI (sumN (lk T B) i))), some (.int (nI i))] [] (g, c) Q := by
  obtain ⟨hO, hA, hS, hD, hX, hW, hL, hT⟩ := id hR
  intro m
  induction m with
  | zero => intro i z1 z2; omega
  | succ m ih =>
    intro i z1 z2
    refine x_iload_n dX5_buyLacking_4 rfl ?_
    refine x_bipush (nI 27) dX5_buyLacking_5 (by decide) ?_
    refine x_icmp_ge 24 dX5_buyLacking_7 (by decide) (fun c7 => ?_) (fun c7 => ?_)
    · have e1 : i = 27 := by have := (nI_leI (by omega) (by omega)).mp c7; omega
      subst e1
      exact hQ
    · have hi : i < 27 := by
        by_cases q : i < 27
        · exact q
        · exact absurd ((nI_leI (by omega) (by omega)).mpr (by omega)) c7
      refine x_iload_n dX5_buyLacking_10 rfl ?_
      refine x_aload_n dX5_buyLacking_11 rfl ?_
      refine x_iload_n dX5_buyLacking_12 rfl ?_
      refine x_cv2 dX5_buyLacking_13 rfl (by first | assumption | (simp (disch := omega) only [up_s, up_n]; first | assumption | rfl)) rfl ?_
      refine Cm.rt (s_X5_lacking hO hA hX hX0 hB hi) ?_
      refine x_iaddN dX5_buyLacking_16 ?_
      refine x_istore_n1 dX5_buyLacking_17 rfl ?_
      refine x_iincN_2 (1) dX5_buyLacking_18 (by decide) rfl ?_
      refine x_goto 4 dX5_buyLacking_21 (by decide) ?_
      exact ih (i + 1) (by omega) (by omega)
set_option maxRecDepth 20000 in
set_option maxHeartbeats 1000000 in
theorem l_X5_lack2 {c : Nat → VC} {g : VG} {f vs as tx rw ll lt : Nat → Int32} {n th : Int32} {T : List Nat} {B : Bx} (hX0 : TxR tx T) (hsb : SB B + sumN (lk T B) 27 ≤ 250) {N : Nat} {Q : (Option Value ⊕ Nat) → VH → Prop} (hQ : ∀ c2 d2, RH c2 d2 vs as tx rw ll lt n (nI T.length) th → FrR c c2 → BoxR d2 (blN T (f 1517) B (f 1518) 27).1 → d2 1518 = (blN T (f 1517) B (f 1518) 27).2 → (∀ k, 527 ≤ k → k ≠ 1518 → d2 k = f k) → Xm M_X5_buyLacking 70 [some (.ref 456), some (.int (nI N)), some (.int (nI 27))] [] (g, c2) Q) : ∀ (m i : Nat) (d9 : Nat → Int32) (c1 : Nat → VC), i ≤ 27 → 27 < i + m → RH c1 d9 vs as tx rw ll lt n (nI T.length) th → FrR c c1 → BoxR d9 (blN T (f 1517) B (f 1518) i).1 → d9 1518 = (blN T (f 1517) B (f 1518) i).2 → (∀ k, 527 ≤ k → k ≠ 1518 → d9 k = f k) → Xm M_X5_buyLacking 48 [some (.ref 456), some (.int (nI N)), some (.int (nI i))] [] (g, c1) Q := by
  intro m
  induction m with
  | zero => intro i d9 c1 z1 z2; omega
  | succ m ih =>
    intro i d9 c1 z1 z2 hR1 hF1 hB1 h18 hd
    obtain ⟨hO, hA, hS, hD, hX, hW, hL, hT⟩ := id hR1
    refine x_iload_n dX5_buyLacking_48 rfl ?_
    refine x_bipush (nI 27) dX5_buyLacking_49 (by decide) ?_
    refine x_icmp_ge 70 dX5_buyLacking_51 (by decide) (fun c51 => ?_) (fun c51 => ?_)
    · have e1 : i = 27 := by have := (nI_leI (by omega) (by omega)).mp c51; omega
      subst e1
      exact hQ c1 d9 hR1 hF1 hB1 h18 hd
    · have hi : i < 27 := by
        by_cases q : i < 27
        · exact q
        · exact absurd ((nI_leI (by omega) (by omega)).mpr (by omega)) c51
      refine x_aload_n dX5_buyLacking_54 rfl ?_
      refine x_iload_n dX5_buyLacking_55 rfl ?_
      refine x_aload_n dX5_buyLacking_56 rfl ?_
      refine x_iload_n dX5_buyLacking_57 rfl ?_
      refine x_cv2 dX5_buyLacking_58 rfl (by first | assumption | (simp (disch := omega) only [up_s, up_n]; first | assumption | rfl)) rfl ?_
      refine Cm.rt (s_X5_lacking hO hA hX hX0 hB1 hi) ?_
      refine x_cv3 dX5_buyLacking_61 rfl (by first | assumption | (simp (disch := omega) only [up_s, up_n]; first | assumption | rfl)) rfl ?_
      have h9 := SB_blN (T := T) (pr := f 1517) (co := f 1518) (B := B) i (by omega)
      have h8 := sumN_le (h := lk T B) hi
      have h7 := blN_lk (T := T) (pr := f 1517) (co := f 1518) (B := B) (n := i)
      refine Cm.ev (s_X5_buys hR1 hi (by rw [h7]; omega) hB1) (fun c2 q2 => ?_)
      obtain ⟨f2, hR2, hF2, hB2, e18, hfr⟩ := q2
      refine x_iincN_2 (1) dX5_buyLacking_64 (by decide) rfl ?_
      refine x_goto 48 dX5_buyLacking_67 (by decide) ?_
      exact ih (i + 1) f2 c2 (by omega) (by omega) hR2 (hF1.tr hF2) hB2 (by rw [e18, h18, hd 1517 (by omega) (by omega)]; rfl) (fun k z1 z2 => by rw [hfr k z1 z2]; exact hd k z1 z2)
set_option maxRecDepth 20000 in
set_option maxHeartbeats 1000000 in
theorem k_X5_lackX {c : Nat → VC} {g : VG} {S : St} {f vs as tx rw ll lt : Nat → Int32} {th : Int32} (hR : RH c f vs as tx rw ll lt (nI S.2.2.length) (nI S.2.1.length) th) (hRp : RepA f S.1) (hH : HiR vs S.2.2) (hX0 : TxR tx S.2.1) {N : Nat} (hr : ¬ totM S.1 + N ≤ 250) (hb : totM S.1 + N < 1000000) : Xm M_X5_buyLacking 24 [some (.ref 456), some (.int (nI N)), some (.int (nI 27))] [] (g, c) (RQ g c (fun E => E - 2) (Sum.inr 3) S) := by
  obtain ⟨hO, hA, hS, hD, hX, hW, hL, hT⟩ := id hR
  refine x_aload_n dX5_buyLacking_24 rfl ?_
  refine x_cv1 dX5_buyLacking_25 rfl (by first | assumption | (simp (disch := omega) only [up_s, up_n]; first | assumption | rfl)) rfl ?_
  refine Cm.rt (s_X5_sorts hO hA hRp) ?_
  refine x_iload_n dX5_buyLacking_28 rfl ?_
  refine x_iaddN dX5_buyLacking_29 ?_
  refine x_sipush (nI 250) dX5_buyLacking_30 (by decide) ?_
  refine x_icmp_le 42 dX5_buyLacking_33 (by decide) (fun c33 => ?_) (fun c33 => ?_)
  · exact absurd ((nI_leI (by omega) (by omega)).mp c33) (by omega)
  · refine x_aload_n dX5_buyLacking_36 rfl ?_
    refine x_iconst (nI 1) dX5_buyLacking_37 (by decide) ?_
    refine x_cv2 dX5_buyLacking_38 rfl (by first | assumption | (simp (disch := omega) only [up_s, up_n]; first | assumption | rfl)) rfl ?_
    refine Cm.ei (s_X5_throwing hR) (fun w c9 q9 => ?_)
    obtain ⟨rfl, w1, w2⟩ := q9
    refine x_ireturn dX5_buyLacking_41 ?_
    exact ⟨_, c9, 1, rfl, rfl, ⟨f, vs, as, tx, rw, ll, lt, w1, hRp, hH, hX0⟩, w2, rfl, rfl⟩
set_option maxRecDepth 20000 in
set_option maxHeartbeats 1000000 in
theorem k_X5_lackZ {c c1 : Nat → VC} {g : VG} {S' : St} {d2 v1 as tx rw ll lt : Nat → Int32} {th : Int32} {N : Nat} (hRp : RepA d2 S'.1) (hR1 : RH c1 d2 v1 as tx rw ll lt (nI S'.2.2.length) (nI S'.2.1.length) th) (hH1 : HiR v1 S'.2.2) (hX0 : TxR tx S'.2.1) (hF : FrR c c1) {o : Option Value} : Xm M_X5_buyLacking 70 [some (.ref 456), some (.int (nI N)), o] [] (g, c1) (RQ g c (fun E => E - 2) (Sum.inl (.int (nI N))) S') := by
  obtain ⟨hO, hA, hS, hD, hX, hW, hL, hT⟩ := id hR1
  refine x_aload_n dX5_buyLacking_70 rfl ?_
  refine x_iload_n dX5_buyLacking_71 rfl ?_
  refine x_cv2 dX5_buyLacking_72 rfl (by first | assumption | (simp (disch := omega) only [up_s, up_n]; first | assumption | rfl)) rfl ?_
  refine Cm.ei (s_X5_fine hR1) (fun w c9 q9 => ?_)
  obtain ⟨rfl, w1, w2⟩ := q9
  refine x_ireturn dX5_buyLacking_75 ?_
  exact ⟨_, c9, 0, rfl, rfl, ⟨d2, v1, as, tx, rw, ll, lt, w1, hRp, hH1, hX0⟩, hF.tr w2, rfl, rfl⟩
set_option maxRecDepth 20000 in
set_option maxHeartbeats 1000000 in
theorem k_X5_lackY {c : Nat → VC} {g : VG} {S : St} {f vs as tx rw ll lt : Nat → Int32} {th : Int32} (hR : RH c f vs as tx rw ll lt (nI S.2.2.length) (nI S.2.1.length) th) (hRp : RepA f S.1) (hH : HiR vs S.2.2) (hX0 : TxR tx S.2.1) {N : Nat} (hr : totM S.1 + N ≤ 250) (hb : totM S.1 + N < 1000000) (hsb : SB S.1.1 + sumN (lk S.2.1 S.1.1) 27 ≤ 250) : Xm M_X5_buyLacking 24 [some (.ref 456), some (.int (nI N)), some (.int (nI 27))] [] (g, c) (RQ g c (fun E => E - 2) (Sum.inl (.int (nI N))) (sv S ((blN S.2.1 (n2 S.1) S.1.1 (n3 S.1) 27).1, S.1.2.1, S.1.2.2.1, n1 S.1, n2 S.1, (blN S.2.1 (n2 S.1) S.1.1 (n3 S.1) 27).2, n4 S.1, n5 S.1))) := by
  obtain ⟨hO, hA, hS, hD, hX, hW, hL, hT⟩ := id hR
  obtain ⟨u1, u2, u3, u4, u5⟩ := hRp.2.2.2
  refine x_aload_n dX5_buyLacking_24 rfl ?_
  refine x_cv1 dX5_buyLacking_25 rfl (by first | assumption | (simp (disch := omega) only [up_s, up_n]; first | assumption | rfl)) rfl ?_
  refine Cm.rt (s_X5_sorts hO hA hRp) ?_
  refine x_iload_n dX5_buyLacking_28 rfl ?_
  refine x_iaddN dX5_buyLacking_29 ?_
  refine x_sipush (nI 250) dX5_buyLacking_30 (by decide) ?_
  refine x_icmp_le 42 dX5_buyLacking_33 (by decide) (fun c33 => ?_) (fun c33 => ?_)
  · refine x_aload_n dX5_buyLacking_42 rfl ?_
    refine x_cv1 dX5_buyLacking_43 rfl (by first | assumption | (simp (disch := omega) only [up_s, up_n]; first | assumption | rfl)) rfl ?_
    refine Cm.ev (s_X5_save hR hH hRp) (fun c1 q1 => ?_)
    obtain ⟨v1, hR1, hF1, hH1⟩ := q1
    obtain ⟨hO1, hA1, hS1, hD1, hX1, hW1, hL1, hT1⟩ := id hR1
    refine x_iconst (nI 0) dX5_buyLacking_46 (by decide) ?_
    refine x_istore_n2 dX5_buyLacking_47 rfl ?_
    refine l_X5_lack2 (f := f) hX0 hsb (fun c2 d2 hR2 hF2 hB2 e18 hfr => ?_) 28 0 f c1 (by omega) (by omega) hR1 FrR.rf hRp.1 rfl (fun k z1 z2 => rfl)
    rw [u2, u3] at hB2 e18
    exact k_X5_lackZ (S' := sv S ((blN S.2.1 (n2 S.1) S.1.1 (n3 S.1) 27).1, S.1.2.1, S.1.2.2.1, n1 S.1, n2 S.1, (blN S.2.1 (n2 S.1) S.1.1 (n3 S.1) 27).2, n4 S.1, n5 S.1)) (hRp.mk' hB2 (fun k z1 z2 => hfr k z1 (by omega)) (by rw [hfr _ (by omega) (by omega), u1]) (by rw [hfr _ (by omega) (by omega), u2]) e18 (by rw [hfr _ (by omega) (by omega), u4]) (by rw [hfr _ (by omega) (by omega), u5])) hR2 hH1 hX0 (hF1.tr hF2)
  · exact absurd ((nI_leI (by omega) (by omega)).mpr (by omega)) c33
set_option maxRecDepth 20000 in
set_option maxHeartbeats 2000000 in
theorem s_X5_buyLacking {c : Nat → VC} {g : VG} {S : St} {th : Int32} (h : RefAt c S th) (hk : StOK S) : Cm k_X5_buyLacking [.ref 456] (g, c) (RQ g c (fun E => E - 2) (buyLackingM S).1 (buyLackingM S).2) := by
  obtain ⟨f, vs, as, tx, rw, ll, lt, hR, hRp, hH, hX0⟩ := h
  obtain ⟨hO, hA, hS, hD, hX, hW, hL, hT⟩ := id hR
  obtain ⟨u1, u2, u3, u4, u5⟩ := hRp.2.2.2
  have ht := hk.1
  have hsl := slk_le (T := S.2.1) (B := S.1.1) 27
  have h16 := hX0.1
  by_cases hr : totM S.1 + sumN (lk S.2.1 S.1.1) 27 ≤ 250
  · have hM : buyLackingM S = (Sum.inl (.int (nI (sumN (lk S.2.1 S.1.1) 27))), sv S ((blN S.2.1 (n2 S.1) S.1.1 (n3 S.1) 27).1, S.1.2.1, S.1.2.2.1, n1 S.1, n2 S.1, (blN S.2.1 (n2 S.1) S.1.1 (n3 S.1) 27).2, n4 S.1, n5 S.1)) := by simp only [buyLackingM, if_pos hr]
    rw [hM]
    have hsb : SB S.1.1 + sumN (lk S.2.1 S.1.1) 27 ≤ 250 := by unfold totM at hr; omega
    refine Cm.in (M := M_X5_buyLacking) (ls := [some (.ref 456), none, none]) rfl rfl ?_
    refine x_iconst (nI 0) dX5_buyLacking_0 (by decide) ?_
    refine x_istore_n1 dX5_buyLacking_1 rfl ?_
    refine x_iconst (nI 0) dX5_buyLacking_2 (by decide) ?_
    refine x_istore_n2 dX5_buyLacking_3 rfl ?_
    refine l_X5_lack1 hR hX0 hRp.1 ?_ 28 0 (by omega) (by omega)
    exact k_X5_lackY hR hRp hH hX0 hr (by omega) hsb
  · have hM : buyLackingM S = (Sum.inr 3, S) := by simp only [buyLackingM, if_neg hr]
    rw [hM]
    refine Cm.in (M := M_X5_buyLacking) (ls := [some (.ref 456), none, none]) rfl rfl ?_
    refine x_iconst (nI 0) dX5_buyLacking_0 (by decide) ?_
    refine x_istore_n1 dX5_buyLacking_1 rfl ?_
    refine x_iconst (nI 0) dX5_buyLacking_2 (by decide) ?_
    refine x_istore_n2 dX5_buyLacking_3 rfl ?_
    refine l_X5_lack1 hR hX0 hRp.1 ?_ 28 0 (by omega) (by omega)
    exact k_X5_lackX hR hRp hH hX0 hr (by omega)
set_option maxRecDepth 20000 in
set_option maxHeartbeats 1000000 in
theorem l_X5_spill {c : Nat → VC} {g : VG} {f vs as tx rw ll lt : Nat → Int32} {n tl th : Int32} {a b N : Nat} {B : Bx} (ha : a < 27) (hb : b < 27) (hab : ¬ a = b) {Q : (Option Value ⊕ Nat) → VH → Prop} (hQ : ∀ c2 d2, RH c2 d2 vs as tx rw ll lt n tl th → FrR c c2 → BoxR d2 (spl a b N B) → (∀ k, 527 ≤ k → d2 k = f k) → Xm M_X5_spill 88 [some (.ref 456), some (.int (nI a)), some (.int (nI b)), some (.int (nI N)), some (.int (nI N))] [] (g, c2) Q) : ∀ (r i : Nat) (d9 : Nat → Int32) (c1 : Nat → VC) (B1 : Bx), i + r = N → N ≤ 30 → r ≤ (B1 a).length → spl a b r B1 = spl a b N B → RH c1 d9 vs as tx rw ll lt n tl th → FrR c c1 → BoxR d9 B1 → (∀ k, 527 ≤ k → d9 k = f k) → Xm M_X5_spill 66 [some (.ref 456), some (.int (nI a)), some (.int (nI b)), some (.int (nI N)), some (.int (nI i))] [] (g, c1) Q := by
  intro r
  induction r with
  | zero =>
    intro i d9 c1 B1 z1 z2 z3 z4 hR1 hF1 hB1 hd
    have e1 : i = N := by omega
    subst e1
    refine x_iload dX5_spill_66 rfl ?_
    refine x_iload_n dX5_spill_68 rfl ?_
    refine x_icmp_ge 88 dX5_spill_69 (by decide) (fun c69 => ?_) (fun c69 => absurd (Int32.le_refl _) c69)
    exact hQ c1 d9 hR1 hF1 (by rw [← z4]; exact hB1) hd
  | succ r ih =>
    intro i d9 c1 B1 z1 z2 z3 z4 hR1 hF1 hB1 hd
    obtain ⟨hO, hA, hS, hD, hX, hW, hL, hT⟩ := id hR1
    refine x_iload dX5_spill_66 rfl ?_
    refine x_iload_n dX5_spill_68 rfl ?_
    refine x_icmp_ge 88 dX5_spill_69 (by decide) (fun c69 => ?_) (fun c69 => ?_)
    · exact absurd ((nI_leI (by omega) (by omega)).mp c69) (by omega)
    · refine x_aload_n dX5_spill_72 rfl ?_
      refine x_iload_n dX5_spill_73 rfl ?_
      refine x_aload_n dX5_spill_74 rfl ?_
      refine x_iload_n dX5_spill_75 rfl ?_
      refine x_cv2 dX5_spill_76 rfl (by first | assumption | (simp (disch := omega) only [up_s, up_n]; first | assumption | rfl)) rfl ?_
      refine Cm.ei (s_X5_takes hO hA hB1 ha (snoc_of (l := B1 a) (by omega))) (fun v c2 q2 => ?_)
      obtain ⟨rfl, d8, rfl, hB8, hd8⟩ := q2
      have hR2 := hR1.uA (f' := d8)
      obtain ⟨hO2, hA2, hS2, hD2, hX2, hW2, hL2, hT2⟩ := id hR2
      have h250 := hB1.le
      have hsu := SB_uf (B := B1) (l := (B1 a).dropLast) ha
      rw [List.length_dropLast] at hsu
      have hx27 : (B1 a).getLastD 0 < 27 := by
        obtain ⟨ss, hss⟩ := hB1
        refine hss.2.2.2.2.2.2 a ha _ ?_
        rw [snoc_of (l := B1 a) (by omega)]
        simp
      refine x_cv3 dX5_spill_79 rfl (by first | assumption | (simp (disch := omega) only [up_s, up_n]; first | assumption | rfl)) rfl ?_
      refine Cm.ev (s_X5_puts hO2 hA2 hB8 hb hx27 (by omega)) (fun c3 q3 => ?_)
      obtain ⟨d7, rfl, hB7, hd7⟩ := q3
      refine x_iincN_4 (1) dX5_spill_82 (by decide) rfl ?_
      refine x_goto 66 dX5_spill_85 (by decide) ?_
      refine ih (i + 1) d7 _ _ (by omega) z2 ?_ z4 hR2.uA ((hF1.u (by omega) (by omega)).u (by omega) (by omega)) hB7 (fun k hk => by rw [hd7 k hk, hd8 k hk]; exact hd k hk)
      unfold pb
      rw [uf_n hab, uf_s, List.length_dropLast]
      omega
set_option maxRecDepth 20000 in
set_option maxHeartbeats 1000000 in
theorem k_X5_spill88 {c c1 : Nat → VC} {g : VG} {S' : St} {d2 v1 as tx rw ll lt : Nat → Int32} {th : Int32} {a : Nat} {o2 o3 o4 : Option Value} (ha : a < 27) (hRp : RepA d2 S'.1) (hR1 : RH c1 d2 v1 as tx rw ll lt (nI S'.2.2.length) (nI S'.2.1.length) th) (hH1 : HiR v1 S'.2.2) (hX0 : TxR tx S'.2.1) (hF : FrR c c1) : Xm M_X5_spill 88 [some (.ref 456), some (.int (nI a)), o2, o3, o4] [] (g, c1) (RQ g c id (Sum.inl (.int (nI (S'.1.1 a).length))) S') := by
  obtain ⟨hO, hA, hS, hD, hX, hW, hL, hT⟩ := id hR1
  refine x_aload_n dX5_spill_88 rfl ?_
  refine x_aload_n dX5_spill_89 rfl ?_
  refine x_iload_n dX5_spill_90 rfl ?_
  refine x_iconst (-1) dX5_spill_91 (by decide) ?_
  refine x_cv3 dX5_spill_92 rfl (by first | assumption | (simp (disch := omega) only [up_s, up_n]; first | assumption | rfl)) rfl ?_
  refine Cm.rt (s_X5_countIn_n hO hA hRp.1 ha) ?_
  refine x_cv2 dX5_spill_95 rfl (by first | assumption | (simp (disch := omega) only [up_s, up_n]; first | assumption | rfl)) rfl ?_
  refine Cm.ei (s_X5_fine hR1) (fun w c9 q9 => ?_)
  obtain ⟨rfl, w1, w2⟩ := q9
  refine x_ireturn dX5_spill_98 ?_
  exact ⟨_, c9, 0, rfl, rfl, ⟨d2, v1, as, tx, rw, ll, lt, w1, hRp, hH1, hX0⟩, hF.tr w2, rfl, rfl⟩
set_option maxRecDepth 20000 in
set_option maxHeartbeats 2000000 in
theorem s_X5_spill {c : Nat → VC} {g : VG} {S : St} {th : Int32} (h : RefAt c S th) {l l2 m : Int32} : Cm k_X5_spill [.ref 456, .int l, .int l2, .int m] (g, c) (RQ g c (id) (spillM l l2 m S).1 (spillM l l2 m S).2) := by
  obtain ⟨f, vs, as, tx, rw, ll, lt, hR, hRp, hH, hX0⟩ := h
  obtain ⟨hO, hA, hS, hD, hX, hW, hL, hT⟩ := id hR
  obtain ⟨u1, u2, u3, u4, u5⟩ := hRp.2.2.2
  cases e1 : ix l 27 with
  | none =>
    have hM : spillM l l2 m S = (Sum.inr 1, S) := by simp only [spillM, e1]
    rw [hM]
    refine Cm.in (M := M_X5_spill) (ls := [some (.ref 456), some (.int l), some (.int l2), some (.int m), none]) rfl rfl ?_
    refine x_iload_n dX5_spill_0 rfl ?_
    refine x_cs1 dX5_spill_1 rfl ?_
    refine Cm.rt s_X5_isLetter ?_
    rw [e1]
    refine x_if_eq 14 dX5_spill_4 (by decide) (fun c4 => ?_) (fun c4 => ?_)
    · refine x_aload_n dX5_spill_14 rfl ?_
      refine x_iconst (nI 1) dX5_spill_15 (by decide) ?_
      refine x_cv2 dX5_spill_16 rfl (by first | assumption | (simp (disch := omega) only [up_s, up_n]; first | assumption | rfl)) rfl ?_
      refine Cm.ei (s_X5_throwing hR) (fun w c9 q9 => ?_)
      obtain ⟨rfl, w1, w2⟩ := q9
      refine x_ireturn dX5_spill_19 ?_
      exact ⟨_, c9, 1, rfl, rfl, ⟨f, vs, as, tx, rw, ll, lt, w1, hRp, hH, hX0⟩, w2, rfl, rfl⟩
    · exact absurd rfl c4
  | some a =>
    obtain ⟨ha, rfl⟩ := ix_some (by omega) e1
    have hsb := SB_le (B := S.1.1) ha
    have h250 := hRp.1.le
    cases e2 : ix l2 27 with
    | none =>
      have hM : spillM (nI a) l2 m S = (Sum.inr 1, S) := by simp only [spillM, e1, e2]
      rw [hM]
      refine Cm.in (M := M_X5_spill) (ls := [some (.ref 456), some (.int (nI a)), some (.int l2), some (.int m), none]) rfl rfl ?_
      refine x_iload_n dX5_spill_0 rfl ?_
      refine x_cs1 dX5_spill_1 rfl ?_
      refine Cm.rt s_X5_isLetter ?_
      rw [e1]
      refine x_if_eq 14 dX5_spill_4 (by decide) (fun c4 => ?_) (fun c4 => ?_)
      · exact absurd (show bV true = 0 from c4) (by decide)
      · refine x_iload_n dX5_spill_7 rfl ?_
        refine x_cs1 dX5_spill_8 rfl ?_
        refine Cm.rt s_X5_isLetter ?_
        rw [e2]
        refine x_if_ne 20 dX5_spill_11 (by decide) (fun c11 => ?_) (fun c11 => ?_)
        · exact absurd rfl c11
        · refine x_aload_n dX5_spill_14 rfl ?_
          refine x_iconst (nI 1) dX5_spill_15 (by decide) ?_
          refine x_cv2 dX5_spill_16 rfl (by first | assumption | (simp (disch := omega) only [up_s, up_n]; first | assumption | rfl)) rfl ?_
          refine Cm.ei (s_X5_throwing hR) (fun w c9 q9 => ?_)
          obtain ⟨rfl, w1, w2⟩ := q9
          refine x_ireturn dX5_spill_19 ?_
          exact ⟨_, c9, 1, rfl, rfl, ⟨f, vs, as, tx, rw, ll, lt, w1, hRp, hH, hX0⟩, w2, rfl, rfl⟩
    | some b =>
      obtain ⟨hb, rfl⟩ := ix_some (by omega) e2
      by_cases hab : a = b
      · have hM : spillM (nI a) (nI b) m S = (Sum.inr 2, S) := by simp only [spillM, e1, e2, if_pos hab]
        rw [hM]
        subst hab
        refine Cm.in (M := M_X5_spill) (ls := [some (.ref 456), some (.int (nI a)), some (.int (nI a)), some (.int m), none]) rfl rfl ?_
        refine x_iload_n dX5_spill_0 rfl ?_
        refine x_cs1 dX5_spill_1 rfl ?_
        refine Cm.rt s_X5_isLetter ?_
        rw [e1]
        refine x_if_eq 14 dX5_spill_4 (by decide) (fun c4 => ?_) (fun c4 => ?_)
        · exact absurd (show bV true = 0 from c4) (by decide)
        · refine x_iload_n dX5_spill_7 rfl ?_
          refine x_cs1 dX5_spill_8 rfl ?_
          refine Cm.rt s_X5_isLetter ?_
          rw [e1]
          refine x_if_ne 20 dX5_spill_11 (by decide) (fun c11 => ?_) (fun c11 => ?_)
          · refine x_iload_n dX5_spill_20 rfl ?_
            refine x_iload_n dX5_spill_21 rfl ?_
            refine x_icmp_eq 37 dX5_spill_22 (by decide) (fun c22 => ?_) (fun c22 => ?_)
            · refine x_aload_n dX5_spill_37 rfl ?_
              refine x_iconst (nI 2) dX5_spill_38 (by decide) ?_
              refine x_cv2 dX5_spill_39 rfl (by first | assumption | (simp (disch := omega) only [up_s, up_n]; first | assumption | rfl)) rfl ?_
              refine Cm.ei (s_X5_throwing hR) (fun w c9 q9 => ?_)
              obtain ⟨rfl, w1, w2⟩ := q9
              refine x_ireturn dX5_spill_42 ?_
              exact ⟨_, c9, 2, rfl, rfl, ⟨f, vs, as, tx, rw, ll, lt, w1, hRp, hH, hX0⟩, w2, rfl, rfl⟩
            · exact absurd rfl c22
          · exact absurd (show bV true = 0 from c11) (by decide)
      · cases e3 : rg m 1 30 with
        | none =>
          have hM : spillM (nI a) (nI b) m S = (Sum.inr 2, S) := by simp only [spillM, e1, e2, if_neg hab, e3]
          rw [hM]
          refine Cm.in (M := M_X5_spill) (ls := [some (.ref 456), some (.int (nI a)), some (.int (nI b)), some (.int m), none]) rfl rfl ?_
          refine x_iload_n dX5_spill_0 rfl ?_
          refine x_cs1 dX5_spill_1 rfl ?_
          refine Cm.rt s_X5_isLetter ?_
          rw [e1]
          refine x_if_eq 14 dX5_spill_4 (by decide) (fun c4 => ?_) (fun c4 => ?_)
          · exact absurd (show bV true = 0 from c4) (by decide)
          · refine x_iload_n dX5_spill_7 rfl ?_
            refine x_cs1 dX5_spill_8 rfl ?_
            refine Cm.rt s_X5_isLetter ?_
            rw [e2]
            refine x_if_ne 20 dX5_spill_11 (by decide) (fun c11 => ?_) (fun c11 => ?_)
            · refine x_iload_n dX5_spill_20 rfl ?_
              refine x_iload_n dX5_spill_21 rfl ?_
              refine x_icmp_eq 37 dX5_spill_22 (by decide) (fun c22 => ?_) (fun c22 => ?_)
              · exact absurd ((nI_eq (by omega) (by omega)).mp c22) hab
              · refine x_iload_n dX5_spill_25 rfl ?_
                refine x_i2l dX5_spill_26 ?_
                refine x_lconst (1) dX5_spill_27 (by decide) ?_
                refine x_ldc2_w dX5_spill_28 rfl ?_
                refine x_cs3 dX5_spill_31 rfl ?_
                refine Cm.rt s_X5_in ?_
                rw [in_rg (a := 1) (b := 30) (by omega) (by omega) (by decide) (by decide), e3]
                refine x_if_ne 43 dX5_spill_34 (by decide) (fun c34 => ?_) (fun c34 => ?_)
                · exact absurd rfl c34
                · refine x_aload_n dX5_spill_37 rfl ?_
                  refine x_iconst (nI 2) dX5_spill_38 (by decide) ?_
                  refine x_cv2 dX5_spill_39 rfl (by first | assumption | (simp (disch := omega) only [up_s, up_n]; first | assumption | rfl)) rfl ?_
                  refine Cm.ei (s_X5_throwing hR) (fun w c9 q9 => ?_)
                  obtain ⟨rfl, w1, w2⟩ := q9
                  refine x_ireturn dX5_spill_42 ?_
                  exact ⟨_, c9, 2, rfl, rfl, ⟨f, vs, as, tx, rw, ll, lt, w1, hRp, hH, hX0⟩, w2, rfl, rfl⟩
            · exact absurd (show bV true = 0 from c11) (by decide)
        | some n =>
          obtain ⟨hn1, hn2, rfl⟩ := rg_some (by omega) (by omega) e3
          by_cases hr : n ≤ (S.1.1 a).length
          · have hM : spillM (nI a) (nI b) (nI n) S = (Sum.inl (.int (nI ((spl a b n S.1.1) a).length)), sv S (spl a b n S.1.1, S.1.2)) := by simp only [spillM, e1, e2, if_neg hab, e3, if_pos hr]
            rw [hM]
            refine Cm.in (M := M_X5_spill) (ls := [some (.ref 456), some (.int (nI a)), some (.int (nI b)), some (.int (nI n)), none]) rfl rfl ?_
            refine x_iload_n dX5_spill_0 rfl ?_
            refine x_cs1 dX5_spill_1 rfl ?_
            refine Cm.rt s_X5_isLetter ?_
            rw [e1]
            refine x_if_eq 14 dX5_spill_4 (by decide) (fun c4 => ?_) (fun c4 => ?_)
            · exact absurd (show bV true = 0 from c4) (by decide)
            · refine x_iload_n dX5_spill_7 rfl ?_
              refine x_cs1 dX5_spill_8 rfl ?_
              refine Cm.rt s_X5_isLetter ?_
              rw [e2]
              refine x_if_ne 20 dX5_spill_11 (by decide) (fun c11 => ?_) (fun c11 => ?_)
              · refine x_iload_n dX5_spill_20 rfl ?_
                refine x_iload_n dX5_spill_21 rfl ?_
                refine x_icmp_eq 37 dX5_spill_22 (by decide) (fun c22 => ?_) (fun c22 => ?_)
                · exact absurd ((nI_eq (by omega) (by omega)).mp c22) hab
                · refine x_iload_n dX5_spill_25 rfl ?_
                  refine x_i2l dX5_spill_26 ?_
                  refine x_lconst (1) dX5_spill_27 (by decide) ?_
                  refine x_ldc2_w dX5_spill_28 rfl ?_
                  refine x_cs3 dX5_spill_31 rfl ?_
                  refine Cm.rt s_X5_in ?_
                  rw [in_rg (a := 1) (b := 30) (by omega) (by omega) (by decide) (by decide), e3]
                  refine x_if_ne 43 dX5_spill_34 (by decide) (fun c34 => ?_) (fun c34 => ?_)
                  · refine x_aload_n dX5_spill_43 rfl ?_
                    refine x_iload_n dX5_spill_44 rfl ?_
                    refine x_iconst (-1) dX5_spill_45 (by decide) ?_
                    refine x_cv3 dX5_spill_46 rfl (by first | assumption | (simp (disch := omega) only [up_s, up_n]; first | assumption | rfl)) rfl ?_
                    refine Cm.rt (s_X5_countIn_n hO hA hRp.1 ha) ?_
                    refine x_iload_n dX5_spill_49 rfl ?_
                    refine x_icmp_ge 59 dX5_spill_50 (by decide) (fun c50 => ?_) (fun c50 => ?_)
                    · refine x_aload_n dX5_spill_59 rfl ?_
                      refine x_cv1 dX5_spill_60 rfl (by first | assumption | (simp (disch := omega) only [up_s, up_n]; first | assumption | rfl)) rfl ?_
                      refine Cm.ev (s_X5_save hR hH hRp) (fun c1 q1 => ?_)
                      obtain ⟨v1, hR1, hF1, hH1⟩ := q1
                      obtain ⟨hO1, hA1, hS1, hD1, hX1, hW1, hL1, hT1⟩ := id hR1
                      refine x_iconst (nI 0) dX5_spill_63 (by decide) ?_
                      refine x_istore_4 dX5_spill_64 rfl ?_
                      refine l_X5_spill (f := f) (B := S.1.1) ha hb hab (fun c2 d2 hR2 hF2 hB2 hfr => ?_) n 0 f c1 S.1.1 (by omega) hn2 hr rfl hR1 FrR.rf hRp.1 (fun k hk => rfl)
                      exact k_X5_spill88 (S' := sv S (spl a b n S.1.1, S.1.2)) ha (hRp.mk' hB2 (fun k z1 z2 => hfr k z1) (by rw [hfr _ (by omega), u1]) (by rw [hfr _ (by omega), u2]) (by rw [hfr _ (by omega), u3]) (by rw [hfr _ (by omega), u4]) (by rw [hfr _ (by omega), u5])) hR2 hH1 hX0 (hF1.tr hF2)
                    · exact absurd ((nI_leI (by omega) (by omega)).mpr (by omega)) c50
                  · exact absurd (show bV true = 0 from c34) (by decide)
              · exact absurd (show bV true = 0 from c11) (by decide)
          · have hM : spillM (nI a) (nI b) (nI n) S = (Sum.inr 3, S) := by simp only [spillM, e1, e2, if_neg hab, e3, if_neg hr]
            rw [hM]
            refine Cm.in (M := M_X5_spill) (ls := [some (.ref 456), some (.int (nI a)), some (.int (nI b)), some (.int (nI n)), none]) rfl rfl ?_
            refine x_iload_n dX5_spill_0 rfl ?_
            refine x_cs1 dX5_spill_1 rfl ?_
            refine Cm.rt s_X5_isLetter ?_
            rw [e1]
            refine x_if_eq 14 dX5_spill_4 (by decide) (fun c4 => ?_) (fun c4 => ?_)
            · exact absurd (show bV true = 0 from c4) (by decide)
            · refine x_iload_n dX5_spill_7 rfl ?_
              refine x_cs1 dX5_spill_8 rfl ?_
              refine Cm.rt s_X5_isLetter ?_
              rw [e2]
              refine x_if_ne 20 dX5_spill_11 (by decide) (fun c11 => ?_) (fun c11 => ?_)
              · refine x_iload_n dX5_spill_20 rfl ?_
                refine x_iload_n dX5_spill_21 rfl ?_
                refine x_icmp_eq 37 dX5_spill_22 (by decide) (fun c22 => ?_) (fun c22 => ?_)
                · exact absurd ((nI_eq (by omega) (by omega)).mp c22) hab
                · refine x_iload_n dX5_spill_25 rfl ?_
                  refine x_i2l dX5_spill_26 ?_
                  refine x_lconst (1) dX5_spill_27 (by decide) ?_
                  refine x_ldc2_w dX5_spill_28 rfl ?_
                  refine x_cs3 dX5_spill_31 rfl ?_
                  refine Cm.rt s_X5_in ?_
                  rw [in_rg (a := 1) (b := 30) (by omega) (by omega) (by decide) (by decide), e3]
                  refine x_if_ne 43 dX5_spill_34 (by decide) (fun c34 => ?_) (fun c34 => ?_)
                  · refine x_aload_n dX5_spill_43 rfl ?_
                    refine x_iload_n dX5_spill_44 rfl ?_
                    refine x_iconst (-1) dX5_spill_45 (by decide) ?_
                    refine x_cv3 dX5_spill_46 rfl (by first | assumption | (simp (disch := omega) only [up_s, up_n]; first | assumption | rfl)) rfl ?_
                    refine Cm.rt (s_X5_countIn_n hO hA hRp.1 ha) ?_
                    refine x_iload_n dX5_spill_49 rfl ?_
                    refine x_icmp_ge 59 dX5_spill_50 (by decide) (fun c50 => ?_) (fun c50 => ?_)
                    · exact absurd ((nI_leI (by omega) (by omega)).mp c50) (by omega)
                    · refine x_aload_n dX5_spill_53 rfl ?_
                      refine x_iconst (nI 3) dX5_spill_54 (by decide) ?_
                      refine x_cv2 dX5_spill_55 rfl (by first | assumption | (simp (disch := omega) only [up_s, up_n]; first | assumption | rfl)) rfl ?_
                      refine Cm.ei (s_X5_throwing hR) (fun w c9 q9 => ?_)
                      obtain ⟨rfl, w1, w2⟩ := q9
                      refine x_ireturn dX5_spill_58 ?_
                      exact ⟨_, c9, 3, rfl, rfl, ⟨f, vs, as, tx, rw, ll, lt, w1, hRp, hH, hX0⟩, w2, rfl, rfl⟩
                  · exact absurd (show bV true = 0 from c34) (by decide)
              · exact absurd (show bV true = 0 from c11) (by decide)
