/-! the reference: what if, text, undo, the constructor -/
set_option maxRecDepth 20000 in
set_option maxHeartbeats 2000000 in
theorem s_X5_errorsIfSet {c : Nat → VC} {g : VG} {S : St} {th : Int32} (h : RefAt c S th) : Cm k_X5_errorsIfSet [.ref 456] (g, c) (RQ g c id (Sum.inl (.int (errIfV S))) S) := by
  obtain ⟨f, vs, as, tx, rw, ll, lt, hR, hRp, hH, hX0⟩ := h
  obtain ⟨hO, hA, hS, hD, hX, hW, hL, hT⟩ := id hR
  obtain ⟨u1, u2, u3, u4, u5⟩ := hRp.2.2.2
  cases e1 : goesM S.2.1 S.1.1 with
  | none =>
    have hM : errIfV S = -1 := by simp only [errIfV, e1]
    rw [hM]
    refine Cm.in (M := M_X5_errorsIfSet) (ls := [some (.ref 456), none]) rfl rfl ?_
    refine x_aload_n dX5_errorsIfSet_0 rfl ?_
    refine x_cv1 dX5_errorsIfSet_1 rfl (by first | assumption | (simp (disch := omega) only [up_s, up_n]; first | assumption | rfl)) rfl ?_
    refine Cm.ev (s_X5_laysAside hR) (fun c1 q1 => ?_)
    obtain ⟨a1, hR1, hF1, ha1⟩ := q1
    obtain ⟨hO1, hA1, hS1, hD1, hX1, hW1, hL1, hT1⟩ := id hR1
    refine x_aload_n dX5_errorsIfSet_4 rfl ?_
    refine x_cv1 dX5_errorsIfSet_5 rfl (by first | assumption | (simp (disch := omega) only [up_s, up_n]; first | assumption | rfl)) rfl ?_
    refine Cm.ei (s_X5_sets hR1 hX0 hRp.1) (fun v c2 q2 => ?_)
    rw [e1] at q2
    obtain ⟨rfl, f2, l2, t2, hR2, hF2, hf2⟩ := q2
    obtain ⟨hO2, hA2, hS2, hD2, hX2, hW2, hL2, hT2⟩ := id hR2
    refine x_if_eq 18 dX5_errorsIfSet_8 (by decide) (fun c8 => ?_) (fun c8 => ?_)
    · refine x_iconst (-1) dX5_errorsIfSet_18 (by decide) ?_
      refine x_istore_n1 dX5_errorsIfSet_19 rfl ?_
      refine x_aload_n dX5_errorsIfSet_20 rfl ?_
      refine x_cv1 dX5_errorsIfSet_21 rfl (by first | assumption | (simp (disch := omega) only [up_s, up_n]; first | assumption | rfl)) rfl ?_
      refine Cm.ev (s_X5_takesBack hR2) (fun c3 q3 => ?_)
      obtain ⟨f3, hR3, hF3, hf3⟩ := q3
      have hRp3 : RepA f3 S.1 := hRp.fr (fun k hk => by rw [hf3 k hk, ha1 k hk])
      obtain ⟨hO3, hA3, hS3, hD3, hX3, hW3, hL3, hT3⟩ := id hR3
      refine x_aload_n dX5_errorsIfSet_24 rfl ?_
      refine x_iload_n dX5_errorsIfSet_25 rfl ?_
      refine x_cv2 dX5_errorsIfSet_26 rfl (by first | assumption | (simp (disch := omega) only [up_s, up_n]; first | assumption | rfl)) rfl ?_
      refine Cm.ei (s_X5_fine hR3) (fun w c9 q9 => ?_)
      obtain ⟨rfl, w1, w2⟩ := q9
      refine x_ireturn dX5_errorsIfSet_29 ?_
      exact ⟨_, c9, 0, rfl, rfl, ⟨f3, vs, a1, tx, rw, l2, t2, w1, hRp3, hH, hX0⟩, (((hF1.tr hF2).tr hF3).tr w2), rfl, rfl⟩
    · exact absurd rfl c8
  | some r =>
    have hM : errIfV S = nI (r.2.countP wrg) := by simp only [errIfV, e1]
    rw [hM]
    refine Cm.in (M := M_X5_errorsIfSet) (ls := [some (.ref 456), none]) rfl rfl ?_
    refine x_aload_n dX5_errorsIfSet_0 rfl ?_
    refine x_cv1 dX5_errorsIfSet_1 rfl (by first | assumption | (simp (disch := omega) only [up_s, up_n]; first | assumption | rfl)) rfl ?_
    refine Cm.ev (s_X5_laysAside hR) (fun c1 q1 => ?_)
    obtain ⟨a1, hR1, hF1, ha1⟩ := q1
    obtain ⟨hO1, hA1, hS1, hD1, hX1, hW1, hL1, hT1⟩ := id hR1
    refine x_aload_n dX5_errorsIfSet_4 rfl ?_
    refine x_cv1 dX5_errorsIfSet_5 rfl (by first | assumption | (simp (disch := omega) only [up_s, up_n]; first | assumption | rfl)) rfl ?_
    refine Cm.ei (s_X5_sets hR1 hX0 hRp.1) (fun v c2 q2 => ?_)
    rw [e1] at q2
    obtain ⟨rfl, f2, l2, t2, hR2, hF2, hf2, hB2, hLn⟩ := q2
    obtain ⟨hO2, hA2, hS2, hD2, hX2, hW2, hL2, hT2⟩ := id hR2
    refine x_if_eq 18 dX5_errorsIfSet_8 (by decide) (fun c8 => ?_) (fun c8 => ?_)
    · exact absurd c8 (by decide)
    · refine x_aload_n dX5_errorsIfSet_11 rfl ?_
      refine x_cv1 dX5_errorsIfSet_12 rfl (by first | assumption | (simp (disch := omega) only [up_s, up_n]; first | assumption | rfl)) rfl ?_
      refine Cm.rt (s_X5_wrongInLine hR2 hX0 hLn) ?_
      refine x_goto 19 dX5_errorsIfSet_15 (by decide) ?_
      refine x_istore_n1 dX5_errorsIfSet_19 rfl ?_
      refine x_aload_n dX5_errorsIfSet_20 rfl ?_
      refine x_cv1 dX5_errorsIfSet_21 rfl (by first | assumption | (simp (disch := omega) only [up_s, up_n]; first | assumption | rfl)) rfl ?_
      refine Cm.ev (s_X5_takesBack hR2) (fun c3 q3 => ?_)
      obtain ⟨f3, hR3, hF3, hf3⟩ := q3
      have hRp3 : RepA f3 S.1 := hRp.fr (fun k hk => by rw [hf3 k hk, ha1 k hk])
      obtain ⟨hO3, hA3, hS3, hD3, hX3, hW3, hL3, hT3⟩ := id hR3
      refine x_aload_n dX5_errorsIfSet_24 rfl ?_
      refine x_iload_n dX5_errorsIfSet_25 rfl ?_
      refine x_cv2 dX5_errorsIfSet_26 rfl (by first | assumption | (simp (disch := omega) only [up_s, up_n]; first | assumption | rfl)) rfl ?_
      refine Cm.ei (s_X5_fine hR3) (fun w c9 q9 => ?_)
      obtain ⟨rfl, w1, w2⟩ := q9
      refine x_ireturn dX5_errorsIfSet_29 ?_
      exact ⟨_, c9, 0, rfl, rfl, ⟨f3, vs, a1, tx, rw, l2, t2, w1, hRp3, hH, hX0⟩, (((hF1.tr hF2).tr hF3).tr w2), rfl, rfl⟩
set_option maxRecDepth 20000 in
set_option maxHeartbeats 2000000 in
theorem s_X5_turnedIfSet {c : Nat → VC} {g : VG} {S : St} {th : Int32} (h : RefAt c S th) : Cm k_X5_turnedIfSet [.ref 456] (g, c) (RQ g c id (Sum.inl (.int (turIfV S))) S) := by
  obtain ⟨f, vs, as, tx, rw, ll, lt, hR, hRp, hH, hX0⟩ := h
  obtain ⟨hO, hA, hS, hD, hX, hW, hL, hT⟩ := id hR
  obtain ⟨u1, u2, u3, u4, u5⟩ := hRp.2.2.2
  cases e1 : goesM S.2.1 S.1.1 with
  | none =>
    have hM : turIfV S = -1 := by simp only [turIfV, e1]
    rw [hM]
    refine Cm.in (M := M_X5_turnedIfSet) (ls := [some (.ref 456), none]) rfl rfl ?_
    refine x_aload_n dX5_turnedIfSet_0 rfl ?_
    refine x_cv1 dX5_turnedIfSet_1 rfl (by first | assumption | (simp (disch := omega) only [up_s, up_n]; first | assumption | rfl)) rfl ?_
    refine Cm.ev (s_X5_laysAside hR) (fun c1 q1 => ?_)
    obtain ⟨a1, hR1, hF1, ha1⟩ := q1
    obtain ⟨hO1, hA1, hS1, hD1, hX1, hW1, hL1, hT1⟩ := id hR1
    refine x_aload_n dX5_turnedIfSet_4 rfl ?_
    refine x_cv1 dX5_turnedIfSet_5 rfl (by first | assumption | (simp (disch := omega) only [up_s, up_n]; first | assumption | rfl)) rfl ?_
    refine Cm.ei (s_X5_sets hR1 hX0 hRp.1) (fun v c2 q2 => ?_)
    rw [e1] at q2
    obtain ⟨rfl, f2, l2, t2, hR2, hF2, hf2⟩ := q2
    obtain ⟨hO2, hA2, hS2, hD2, hX2, hW2, hL2, hT2⟩ := id hR2
    refine x_if_eq 18 dX5_turnedIfSet_8 (by decide) (fun c8 => ?_) (fun c8 => ?_)
    · refine x_iconst (-1) dX5_turnedIfSet_18 (by decide) ?_
      refine x_istore_n1 dX5_turnedIfSet_19 rfl ?_
      refine x_aload_n dX5_turnedIfSet_20 rfl ?_
      refine x_cv1 dX5_turnedIfSet_21 rfl (by first | assumption | (simp (disch := omega) only [up_s, up_n]; first | assumption | rfl)) rfl ?_
      refine Cm.ev (s_X5_takesBack hR2) (fun c3 q3 => ?_)
      obtain ⟨f3, hR3, hF3, hf3⟩ := q3
      have hRp3 : RepA f3 S.1 := hRp.fr (fun k hk => by rw [hf3 k hk, ha1 k hk])
      obtain ⟨hO3, hA3, hS3, hD3, hX3, hW3, hL3, hT3⟩ := id hR3
      refine x_aload_n dX5_turnedIfSet_24 rfl ?_
      refine x_iload_n dX5_turnedIfSet_25 rfl ?_
      refine x_cv2 dX5_turnedIfSet_26 rfl (by first | assumption | (simp (disch := omega) only [up_s, up_n]; first | assumption | rfl)) rfl ?_
      refine Cm.ei (s_X5_fine hR3) (fun w c9 q9 => ?_)
      obtain ⟨rfl, w1, w2⟩ := q9
      refine x_ireturn dX5_turnedIfSet_29 ?_
      exact ⟨_, c9, 0, rfl, rfl, ⟨f3, vs, a1, tx, rw, l2, t2, w1, hRp3, hH, hX0⟩, (((hF1.tr hF2).tr hF3).tr w2), rfl, rfl⟩
    · exact absurd rfl c8
  | some r =>
    have hM : turIfV S = nI (r.2.countP (fun q => q.2.2 == 1)) := by simp only [turIfV, e1]
    rw [hM]
    refine Cm.in (M := M_X5_turnedIfSet) (ls := [some (.ref 456), none]) rfl rfl ?_
    refine x_aload_n dX5_turnedIfSet_0 rfl ?_
    refine x_cv1 dX5_turnedIfSet_1 rfl (by first | assumption | (simp (disch := omega) only [up_s, up_n]; first | assumption | rfl)) rfl ?_
    refine Cm.ev (s_X5_laysAside hR) (fun c1 q1 => ?_)
    obtain ⟨a1, hR1, hF1, ha1⟩ := q1
    obtain ⟨hO1, hA1, hS1, hD1, hX1, hW1, hL1, hT1⟩ := id hR1
    refine x_aload_n dX5_turnedIfSet_4 rfl ?_
    refine x_cv1 dX5_turnedIfSet_5 rfl (by first | assumption | (simp (disch := omega) only [up_s, up_n]; first | assumption | rfl)) rfl ?_
    refine Cm.ei (s_X5_sets hR1 hX0 hRp.1) (fun v c2 q2 => ?_)
    rw [e1] at q2
    obtain ⟨rfl, f2, l2, t2, hR2, hF2, hf2, hB2, hLn⟩ := q2
    obtain ⟨hO2, hA2, hS2, hD2, hX2, hW2, hL2, hT2⟩ := id hR2
    refine x_if_eq 18 dX5_turnedIfSet_8 (by decide) (fun c8 => ?_) (fun c8 => ?_)
    · exact absurd c8 (by decide)
    · refine x_aload_n dX5_turnedIfSet_11 rfl ?_
      refine x_cv1 dX5_turnedIfSet_12 rfl (by first | assumption | (simp (disch := omega) only [up_s, up_n]; first | assumption | rfl)) rfl ?_
      refine Cm.rt (s_X5_turnedInLine hR2 hX0 hLn) ?_
      refine x_goto 19 dX5_turnedIfSet_15 (by decide) ?_
      refine x_istore_n1 dX5_turnedIfSet_19 rfl ?_
      refine x_aload_n dX5_turnedIfSet_20 rfl ?_
      refine x_cv1 dX5_turnedIfSet_21 rfl (by first | assumption | (simp (disch := omega) only [up_s, up_n]; first | assumption | rfl)) rfl ?_
      refine Cm.ev (s_X5_takesBack hR2) (fun c3 q3 => ?_)
      obtain ⟨f3, hR3, hF3, hf3⟩ := q3
      have hRp3 : RepA f3 S.1 := hRp.fr (fun k hk => by rw [hf3 k hk, ha1 k hk])
      obtain ⟨hO3, hA3, hS3, hD3, hX3, hW3, hL3, hT3⟩ := id hR3
      refine x_aload_n dX5_turnedIfSet_24 rfl ?_
      refine x_iload_n dX5_turnedIfSet_25 rfl ?_
      refine x_cv2 dX5_turnedIfSet_26 rfl (by first | assumption | (simp (disch := omega) only [up_s, up_n]; first | assumption | rfl)) rfl ?_
      refine Cm.ei (s_X5_fine hR3) (fun w c9 q9 => ?_)
      obtain ⟨rfl, w1, w2⟩ := q9
      refine x_ireturn dX5_turnedIfSet_29 ?_
      exact ⟨_, c9, 0, rfl, rfl, ⟨f3, vs, a1, tx, rw, l2, t2, w1, hRp3, hH, hX0⟩, (((hF1.tr hF2).tr hF3).tr w2), rfl, rfl⟩
theorem setT_SB : ∀ {T : List Nat} {B : Bx} {r : Bx × List Pl}, (∀ x ∈ T, x < 27) → setT T B = some r → SB r.1 + T.length = SB B
  | [], B, r, _, h => by
    have : r = (B, []) := (Option.some.inj h).symm
    rw [this]; rfl
  | x :: T, B, r, hT, h => by
    have hx := hT x List.mem_cons_self
    have hs := srcOf_lt (B := B) hx
    simp only [setT] at h
    cases e : (B (srcOf B x)).getLast? with
    | none => rw [e] at h; cases h
    | some s =>
      rw [e] at h
      simp only at h
      cases e2 : setT T (uf B (srcOf B x) (B (srcOf B x)).dropLast) with
      | none => rw [e2] at h; cases h
      | some r2 =>
        rw [e2] at h
        have h3 := setT_SB (fun y hy => hT y (List.mem_cons_of_mem _ hy)) e2
        have h4 : r = (r2.1, (x, s, flg B x) :: r2.2) := (Option.some.inj h).symm
        have h5 := SB_uf (B := B) (l := (B (srcOf B x)).dropLast) hs
        rw [List.length_dropLast] at h5
        have h6 : 0 < (B (srcOf B x)).length := by
          cases e7 : B (srcOf B x) with
          | nil => rw [e7] at e; cases e
          | cons a l => exact Nat.succ_pos _
        rw [h4, List.length_cons]
        show SB r2.1 + (T.length + 1) = SB B
        omega
theorem goes_SB {T : List Nat} {B : Bx} {r : Bx × List Pl} (hT : ∀ x ∈ T, x < 27) (h : goesM T B = some r) : SB r.1 + T.length = SB B ∧ 0 < T.length := by
  unfold goesM at h
  by_cases e : T = []
  · rw [if_pos e] at h; cases h
  · rw [if_neg e] at h
    exact ⟨setT_SB hT h, List.length_pos_iff.mpr e⟩
set_option maxRecDepth 20000 in
set_option maxHeartbeats 2000000 in
theorem l_X5_copies {c : Nat → VC} {g : VG} {vs as tx rw : Nat → Int32} {n th : Int32} {T : List Nat} (hX0 : TxR tx T) {Q : (Option Value ⊕ Nat) → VH → Prop} : ∀ (m n1 : Nat) (c1 : Nat → VC) (d9 l9 t9 : Nat → Int32) (B1 : Bx), SB B1 ≤ m → RH c1 d9 vs as tx rw l9 t9 n (nI T.length) th → FrR c c1 → BoxR d9 B1 → (∀ c2 d8 l8 t8, RH c2 d8 vs as tx rw l8 t8 n (nI T.length) th → FrR c c2 → Xm M_X5_copies 39 [some (.ref 456), some (.int (nI (n1 + copN T m B1)))] [] (g, c2) Q) → Xm M_X5_copies 19 [some (.ref 456), some (.int (nI n1))] [] (g, c1) Q := by
  intro m
  induction m with
  | zero =>
    intro n1 c1 d9 l9 t9 B1 hs hR1 hF1 hB1 K
    obtain ⟨hO, hA, hS, hD, hX, hW, hL, hT⟩ := id hR1
    cases e1 : goesM T B1 with
    | none =>
      refine x_aload_n dX5_copies_19 rfl ?_
      refine x_cv1 dX5_copies_20 rfl (by first | assumption | (simp (disch := omega) only [up_s, up_n]; first | assumption | rfl)) rfl ?_
      refine Cm.ei (s_X5_sets hR1 hX0 hB1) (fun v c2 q2 => ?_)
      rw [e1] at q2
      obtain ⟨rfl, f2, l2, t2, hR2, hF2, hf2⟩ := q2
      obtain ⟨hO2, hA2, hS2, hD2, hX2, hW2, hL2, hT2⟩ := id hR2
      refine x_if_eq 39 dX5_copies_23 (by decide) (fun c23 => ?_) (fun c23 => ?_)
      · exact K c2 f2 l2 t2 hR2 (hF1.tr hF2)
      · exact absurd rfl c23
    | some r =>
      have h9 := goes_SB hX0.2.1 e1
      omega
  | succ m ih =>
    intro n1 c1 d9 l9 t9 B1 hs hR1 hF1 hB1 K
    obtain ⟨hO, hA, hS, hD, hX, hW, hL, hT⟩ := id hR1
    cases e1 : goesM T B1 with
    | none =>
      have hc : copN T (m + 1) B1 = 0 := by simp only [copN, e1]
      rw [hc] at K
      refine x_aload_n dX5_copies_19 rfl ?_
      refine x_cv1 dX5_copies_20 rfl (by first | assumption | (simp (disch := omega) only [up_s, up_n]; first | assumption | rfl)) rfl ?_
      refine Cm.ei (s_X5_sets hR1 hX0 hB1) (fun v c2 q2 => ?_)
      rw [e1] at q2
      obtain ⟨rfl, f2, l2, t2, hR2, hF2, hf2⟩ := q2
      obtain ⟨hO2, hA2, hS2, hD2, hX2, hW2, hL2, hT2⟩ := id hR2
      refine x_if_eq 39 dX5_copies_23 (by decide) (fun c23 => ?_) (fun c23 => ?_)
      · exact K c2 f2 l2 t2 hR2 (hF1.tr hF2)
      · exact absurd rfl c23
    | some r =>
      have h9 := goes_SB hX0.2.1 e1
      have hc : copN T (m + 1) B1 = if r.2.countP wrg = 0 then copN T m r.1 + 1 else 0 := by simp only [copN, e1]
      by_cases h0 : r.2.countP wrg = 0
      · rw [hc, if_pos h0] at K
        refine x_aload_n dX5_copies_19 rfl ?_
        refine x_cv1 dX5_copies_20 rfl (by first | assumption | (simp (disch := omega) only [up_s, up_n]; first | assumption | rfl)) rfl ?_
        refine Cm.ei (s_X5_sets hR1 hX0 hB1) (fun v c2 q2 => ?_)
        rw [e1] at q2
        obtain ⟨rfl, f2, l2, t2, hR2, hF2, hf2, hB2, hLn⟩ := q2
        obtain ⟨hO2, hA2, hS2, hD2, hX2, hW2, hL2, hT2⟩ := id hR2
        refine x_if_eq 39 dX5_copies_23 (by decide) (fun c23 => ?_) (fun c23 => ?_)
        · exact absurd c23 (by decide)
        · refine x_aload_n dX5_copies_26 rfl ?_
          refine x_cv1 dX5_copies_27 rfl (by first | assumption | (simp (disch := omega) only [up_s, up_n]; first | assumption | rfl)) rfl ?_
          refine Cm.rt (s_X5_wrongInLine hR2 hX0 hLn) ?_
          rw [h0]
          refine x_if_ne 39 dX5_copies_30 (by decide) (fun c30 => ?_) (fun c30 => ?_)
          · exact absurd rfl c30
          · refine x_iincN_1 (1) dX5_copies_33 (by decide) rfl ?_
            refine x_goto 19 dX5_copies_36 (by decide) ?_
            exact ih (n1 + 1) c2 f2 l2 t2 r.1 (by omega) hR2 (hF1.tr hF2) hB2 (fun c3 d8 l8 t8 w1 w2 => by
              have w9 := K c3 d8 l8 t8 w1 w2
              rw [show n1 + (copN T m r.1 + 1) = n1 + 1 + copN T m r.1 by omega] at w9
              exact w9)
      · rw [hc, if_neg h0] at K
        refine x_aload_n dX5_copies_19 rfl ?_
        refine x_cv1 dX5_copies_20 rfl (by first | assumption | (simp (disch := omega) only [up_s, up_n]; first | assumption | rfl)) rfl ?_
        refine Cm.ei (s_X5_sets hR1 hX0 hB1) (fun v c2 q2 => ?_)
        rw [e1] at q2
        obtain ⟨rfl, f2, l2, t2, hR2, hF2, hf2, hB2, hLn⟩ := q2
        obtain ⟨hO2, hA2, hS2, hD2, hX2, hW2, hL2, hT2⟩ := id hR2
        refine x_if_eq 39 dX5_copies_23 (by decide) (fun c23 => ?_) (fun c23 => ?_)
        · exact absurd c23 (by decide)
        · refine x_aload_n dX5_copies_26 rfl ?_
          refine x_cv1 dX5_copies_27 rfl (by first | assumption | (simp (disch := omega) only [up_s, up_n]; first | assumption | rfl)) rfl ?_
          refine Cm.rt (s_X5_wrongInLine hR2 hX0 hLn) ?_
          have h16 := hLn.1
          have h17 : r.2.countP wrg ≤ r.2.length := List.countP_le_length
          have h18 : r.2.length = T.length := by rw [← h16, List.length_map]
          have h19 := hX0.1
          refine x_if_ne 39 dX5_copies_30 (by decide) (fun c30 => ?_) (fun c30 => ?_)
          · exact K c2 f2 l2 t2 hR2 (hF1.tr hF2)
          · exact absurd ((nI_eq (b := 0) (by omega) (by omega)).mp c30) h0
set_option maxRecDepth 20000 in
set_option maxHeartbeats 1000000 in
theorem k_X5_copies39 {c c1 : Nat → VC} {g : VG} {S : St} {f d2 vs a1 tx rw ll lt : Nat → Int32} {th : Int32} {N : Nat} (hR1 : RH c1 d2 vs a1 tx rw ll lt (nI S.2.2.length) (nI S.2.1.length) th) (hRp : RepA f S.1) (hH : HiR vs S.2.2) (hX0 : TxR tx S.2.1) (ha1 : ∀ k, k < 1542 → a1 k = f k) (hF : FrR c c1) : Xm M_X5_copies 39 [some (.ref 456), some (.int (nI N))] [] (g, c1) (RQ g c id (Sum.inl (.int (nI N))) S) := by
  obtain ⟨hO, hA, hS, hD, hX, hW, hL, hT⟩ := id hR1
  refine x_aload_n dX5_copies_39 rfl ?_
  refine x_cv1 dX5_copies_40 rfl (by first | assumption | (simp (disch := omega) only [up_s, up_n]; first | assumption | rfl)) rfl ?_
  refine Cm.ev (s_X5_takesBack hR1) (fun c3 q3 => ?_)
  obtain ⟨f3, hR3, hF3, hf3⟩ := q3
  have hRp3 : RepA f3 S.1 := hRp.fr (fun k hk => by rw [hf3 k hk, ha1 k hk])
  obtain ⟨hO3, hA3, hS3, hD3, hX3, hW3, hL3, hT3⟩ := id hR3
  refine x_aload_n dX5_copies_43 rfl ?_
  refine x_iload_n dX5_copies_44 rfl ?_
  refine x_cv2 dX5_copies_45 rfl (by first | assumption | (simp (disch := omega) only [up_s, up_n]; first | assumption | rfl)) rfl ?_
  refine Cm.ei (s_X5_fine hR3) (fun w c9 q9 => ?_)
  obtain ⟨rfl, w1, w2⟩ := q9
  refine x_ireturn dX5_copies_48 ?_
  exact ⟨_, c9, 0, rfl, rfl, ⟨f3, vs, a1, tx, rw, ll, lt, w1, hRp3, hH, hX0⟩, ((hF.tr hF3).tr w2), rfl, rfl⟩
set_option maxRecDepth 20000 in
set_option maxHeartbeats 2000000 in
theorem s_X5_copies {c : Nat → VC} {g : VG} {S : St} {th : Int32} (h : RefAt c S th) : Cm k_X5_copies [.ref 456] (g, c) (RQ g c id (Sum.inl (.int (copV S))) S) := by
  obtain ⟨f, vs, as, tx, rw, ll, lt, hR, hRp, hH, hX0⟩ := h
  obtain ⟨hO, hA, hS, hD, hX, hW, hL, hT⟩ := id hR
  obtain ⟨u1, u2, u3, u4, u5⟩ := hRp.2.2.2
  have h16 := hX0.1
  by_cases hT : S.2.1 = []
  · have hM : copV S = -1 := by unfold copV; rw [if_pos hT]
    rw [hM]
    refine Cm.in (M := M_X5_copies) (ls := [some (.ref 456), none]) rfl rfl ?_
    refine x_aload_n dX5_copies_0 rfl ?_
    refine x_getfield dX5_copies_1 rfl (by decide) (by first | assumption | (simp (disch := omega) only [up_s, up_n]; first | assumption | rfl)) rfl ?_
    refine x_if_ne 13 dX5_copies_4 (by decide) (fun c4 => ?_) (fun c4 => ?_)
    · exact absurd (by rw [hT]; rfl) c4
    · refine x_aload_n dX5_copies_7 rfl ?_
      refine x_iconst (-1) dX5_copies_8 (by decide) ?_
      refine x_cv2 dX5_copies_9 rfl (by first | assumption | (simp (disch := omega) only [up_s, up_n]; first | assumption | rfl)) rfl ?_
      refine Cm.ei (s_X5_fine hR) (fun w c9 q9 => ?_)
      obtain ⟨rfl, w1, w2⟩ := q9
      refine x_ireturn dX5_copies_12 ?_
      exact ⟨_, c9, 0, rfl, rfl, ⟨f, vs, as, tx, rw, ll, lt, w1, hRp, hH, hX0⟩, w2, rfl, rfl⟩
  · have hM : copV S = nI (copN S.2.1 250 S.1.1) := by unfold copV; rw [if_neg hT]
    rw [hM]
    have h0 := List.length_pos_iff.mpr hT
    refine Cm.in (M := M_X5_copies) (ls := [some (.ref 456), none]) rfl rfl ?_
    refine x_aload_n dX5_copies_0 rfl ?_
    refine x_getfield dX5_copies_1 rfl (by decide) (by first | assumption | (simp (disch := omega) only [up_s, up_n]; first | assumption | rfl)) rfl ?_
    refine x_if_ne 13 dX5_copies_4 (by decide) (fun c4 => ?_) (fun c4 => ?_)
    · refine x_aload_n dX5_copies_13 rfl ?_
      refine x_cv1 dX5_copies_14 rfl (by first | assumption | (simp (disch := omega) only [up_s, up_n]; first | assumption | rfl)) rfl ?_
      refine Cm.ev (s_X5_laysAside hR) (fun c1 q1 => ?_)
      obtain ⟨a1, hR1, hF1, ha1⟩ := q1
      obtain ⟨hO1, hA1, hS1, hD1, hX1, hW1, hL1, hT1⟩ := id hR1
      refine x_iconst (nI 0) dX5_copies_17 (by decide) ?_
      refine x_istore_n1 dX5_copies_18 rfl ?_
      refine l_X5_copies (c := c1) hX0 250 0 c1 f ll lt S.1.1 hRp.1.le hR1 FrR.rf hRp.1 (fun c2 d8 l8 t8 w1 w2 => ?_)
      rw [Nat.zero_add]
      exact k_X5_copies39 w1 hRp hH hX0 ha1 (hF1.tr w2)
    · exact absurd ((nI_eq (b := 0) (by omega) (by omega)).mp c4) (by omega)
set_option maxRecDepth 20000 in
set_option maxHeartbeats 2000000 in
theorem l_X5_best {c : Nat → VC} {g : VG} {S : St} {f vs tx rw : Nat → Int32} {th : Int32} (hk : StOK S) (hRp : RepA f S.1) (hH : HiR vs S.2.2) (hX0 : TxR tx S.2.1) : ∀ (m i : Nat) (c1 : Nat → VC) (d9 a9 l9 t9 : Nat → Int32) (o4 o5 : Option Value), i ≤ 3 → 3 < i + m → RH c1 d9 vs a9 tx rw l9 t9 (nI S.2.2.length) (nI S.2.1.length) th → FrR c c1 → (∀ k, k < 1542 → d9 k = f k) → Xm M_X5_bestToDistribute 7 [some (.ref 456), some (.int (ixV (besN S i).1)), some (.int (nI (besN S i).2)), some (.int (nI i)), o4, o5] [] (g, c1) (RQ g c id (Sum.inl (.int (besV S))) S) := by
  intro m
  induction m with
  | zero => intro i c1 d9 a9 l9 t9 o4 o5 z1 z2; omega
  | succ m ih =>
    intro i c1 d9 a9 l9 t9 o4 o5 z1 z2 hR1 hF1 hd
    have hRp1 : RepA d9 S.1 := hRp.fr hd
    obtain ⟨u1, u2, u3, u4, u5⟩ := hRp1.2.2.2
    obtain ⟨hO, hA, hS, hD, hX, hW, hL, hT⟩ := id hR1
    have ht := hk.1
    have hble : (besN S i).2 ≤ 17 := besN_le
    by_cases hi : i < 3
    · have hfl := flat_tot (σ := S.1) hi
      have h80 : (S.1.2.1 i).flatten.length < 1000 := by omega
      cases e1 : goesM S.2.1 (disL (n1 S.1) (S.1.2.1 i).flatten S.1.1 (n5 S.1)).1 with
      | none =>
        have hb : besN S (i + 1) = besN S i := by simp only [besN, e1]
        refine x_iload_n dX5_bestToDistribute_7 rfl ?_
        refine x_iconst (nI 3) dX5_bestToDistribute_8 (by decide) ?_
        refine x_icmp_ge 85 dX5_bestToDistribute_9 (by decide) (fun c9 => ?_) (fun c9 => ?_)
        · exact absurd ((nI_leI (by omega) (by omega)).mp c9) (by omega)
        · refine x_aload_n dX5_bestToDistribute_12 rfl ?_
          refine x_cv1 dX5_bestToDistribute_13 rfl (by first | assumption | (simp (disch := omega) only [up_s, up_n]; first | assumption | rfl)) rfl ?_
          refine Cm.ev (s_X5_laysAside hR1) (fun c2 q2 => ?_)
          obtain ⟨a2, hR2, hF2, ha2⟩ := q2
          obtain ⟨hO2, hA2, hS2, hD2, hX2, hW2, hL2, hT2⟩ := id hR2
          refine x_aload_n dX5_bestToDistribute_16 rfl ?_
          refine x_iload_n dX5_bestToDistribute_17 rfl ?_
          refine x_cv2 dX5_bestToDistribute_18 rfl (by first | assumption | (simp (disch := omega) only [up_s, up_n]; first | assumption | rfl)) rfl ?_
          refine Cm.ei (s_X5_distributes hR2 hi hRp1.1 (hRp1.2.1 i hi) (by omega)) (fun v c3 q3 => ?_)
          obtain ⟨rfl, f3, hR3, hF3, hB3, _⟩ := q3
          rw [u1, u5] at hB3
          obtain ⟨hO3, hA3, hS3, hD3, hX3, hW3, hL3, hT3⟩ := id hR3
          refine x_istore_4 dX5_bestToDistribute_21 rfl ?_
          refine x_aload_n dX5_bestToDistribute_23 rfl ?_
          refine x_cv1 dX5_bestToDistribute_24 rfl (by first | assumption | (simp (disch := omega) only [up_s, up_n]; first | assumption | rfl)) rfl ?_
          refine Cm.ei (s_X5_sets hR3 hX0 hB3) (fun v c4 q4 => ?_)
          rw [e1] at q4
          obtain ⟨rfl, f4, l4, t4, hR4, hF4, hf4⟩ := q4
          obtain ⟨hO4, hA4, hS4, hD4, hX4, hW4, hL4, hT4⟩ := id hR4
          refine x_if_eq 37 dX5_bestToDistribute_27 (by decide) (fun c27 => ?_) (fun c27 => ?_)
          · refine x_iload dX5_bestToDistribute_37 rfl ?_
            refine x_if_ge 46 dX5_bestToDistribute_39 (by decide) (fun c39 => ?_) (fun c39 => ?_)
            · refine x_bipush (nI 17) dX5_bestToDistribute_46 (by decide) ?_
              refine x_istore_5 dX5_bestToDistribute_48 rfl ?_
              refine x_aload_n dX5_bestToDistribute_50 rfl ?_
              refine x_cv1 dX5_bestToDistribute_51 rfl (by first | assumption | (simp (disch := omega) only [up_s, up_n]; first | assumption | rfl)) rfl ?_
              refine Cm.ev (s_X5_takesBack hR4) (fun c5 q5 => ?_)
              obtain ⟨f5, hR5, hF5, hf5⟩ := q5
              have hz := ih (i + 1) c5 f5 a2 l4 t4 (some (.int (nI (S.1.2.1 i).flatten.length))) (some (.int (nI 17))) (by omega) (by omega) hR5 (((((hF1.tr hF2).tr hF3).tr hF4)).tr hF5) (fun k hk => by rw [hf5 k hk, ha2 k hk]; exact hd k hk)
              rw [hb] at hz
              refine x_iload dX5_bestToDistribute_54 rfl ?_
              refine x_iload_n dX5_bestToDistribute_56 rfl ?_
              refine x_icmp_ge 64 dX5_bestToDistribute_57 (by decide) (fun c57 => ?_) (fun c57 => ?_)
              · refine x_iload_n dX5_bestToDistribute_64 rfl ?_
                refine x_istore_n1 dX5_bestToDistribute_65 rfl ?_
                refine x_iload dX5_bestToDistribute_66 rfl ?_
                refine x_iload_n dX5_bestToDistribute_68 rfl ?_
                refine x_icmp_ge 77 dX5_bestToDistribute_69 (by decide) (fun c69 => ?_) (fun c69 => ?_)
                · refine x_iload_n dX5_bestToDistribute_77 rfl ?_
                  refine x_istore_n2 dX5_bestToDistribute_78 rfl ?_
                  refine x_iincN_3 (1) dX5_bestToDistribute_79 (by decide) rfl ?_
                  refine x_goto 7 dX5_bestToDistribute_82 (by decide) ?_
                  exact hz
                · exact absurd ((nI_leI (by omega) (by omega)).mpr (by omega)) c69
              · exact absurd ((nI_leI (by omega) (by omega)).mpr (by omega)) c57
            · exact absurd ((nI_leI (a := 0) (by omega) (by omega)).mpr (by omega)) c39
          · exact absurd rfl c27
      | some r =>
        by_cases h9 : r.2.countP wrg < (besN S i).2
        · have hb : besN S (i + 1) = (some i, r.2.countP wrg) := by simp only [besN, e1, if_pos h9]
          refine x_iload_n dX5_bestToDistribute_7 rfl ?_
          refine x_iconst (nI 3) dX5_bestToDistribute_8 (by decide) ?_
          refine x_icmp_ge 85 dX5_bestToDistribute_9 (by decide) (fun c9 => ?_) (fun c9 => ?_)
          · exact absurd ((nI_leI (by omega) (by omega)).mp c9) (by omega)
          · refine x_aload_n dX5_bestToDistribute_12 rfl ?_
            refine x_cv1 dX5_bestToDistribute_13 rfl (by first | assumption | (simp (disch := omega) only [up_s, up_n]; first | assumption | rfl)) rfl ?_
            refine Cm.ev (s_X5_laysAside hR1) (fun c2 q2 => ?_)
            obtain ⟨a2, hR2, hF2, ha2⟩ := q2
            obtain ⟨hO2, hA2, hS2, hD2, hX2, hW2, hL2, hT2⟩ := id hR2
            refine x_aload_n dX5_bestToDistribute_16 rfl ?_
            refine x_iload_n dX5_bestToDistribute_17 rfl ?_
            refine x_cv2 dX5_bestToDistribute_18 rfl (by first | assumption | (simp (disch := omega) only [up_s, up_n]; first | assumption | rfl)) rfl ?_
            refine Cm.ei (s_X5_distributes hR2 hi hRp1.1 (hRp1.2.1 i hi) (by omega)) (fun v c3 q3 => ?_)
            obtain ⟨rfl, f3, hR3, hF3, hB3, _⟩ := q3
            rw [u1, u5] at hB3
            obtain ⟨hO3, hA3, hS3, hD3, hX3, hW3, hL3, hT3⟩ := id hR3
            refine x_istore_4 dX5_bestToDistribute_21 rfl ?_
            refine x_aload_n dX5_bestToDistribute_23 rfl ?_
            refine x_cv1 dX5_bestToDistribute_24 rfl (by first | assumption | (simp (disch := omega) only [up_s, up_n]; first | assumption | rfl)) rfl ?_
            refine Cm.ei (s_X5_sets hR3 hX0 hB3) (fun v c4 q4 => ?_)
            rw [e1] at q4
            obtain ⟨rfl, f4, l4, t4, hR4, hF4, hf4, hB4, hLn⟩ := q4
            obtain ⟨hO4, hA4, hS4, hD4, hX4, hW4, hL4, hT4⟩ := id hR4
            refine x_if_eq 37 dX5_bestToDistribute_27 (by decide) (fun c27 => ?_) (fun c27 => ?_)
            · exact absurd c27 (by decide)
            · refine x_aload_n dX5_bestToDistribute_30 rfl ?_
              refine x_cv1 dX5_bestToDistribute_31 rfl (by first | assumption | (simp (disch := omega) only [up_s, up_n]; first | assumption | rfl)) rfl ?_
              refine Cm.rt (s_X5_wrongInLine hR4 hX0 hLn) ?_
              refine x_goto 48 dX5_bestToDistribute_34 (by decide) ?_
              refine x_istore_5 dX5_bestToDistribute_48 rfl ?_
              refine x_aload_n dX5_bestToDistribute_50 rfl ?_
              refine x_cv1 dX5_bestToDistribute_51 rfl (by first | assumption | (simp (disch := omega) only [up_s, up_n]; first | assumption | rfl)) rfl ?_
              refine Cm.ev (s_X5_takesBack hR4) (fun c5 q5 => ?_)
              obtain ⟨f5, hR5, hF5, hf5⟩ := q5
              have hz := ih (i + 1) c5 f5 a2 l4 t4 (some (.int (nI (S.1.2.1 i).flatten.length))) (some (.int (nI (r.2.countP wrg)))) (by omega) (by omega) hR5 (((((hF1.tr hF2).tr hF3).tr hF4)).tr hF5) (fun k hk => by rw [hf5 k hk, ha2 k hk]; exact hd k hk)
              rw [hb] at hz
              refine x_iload dX5_bestToDistribute_54 rfl ?_
              refine x_iload_n dX5_bestToDistribute_56 rfl ?_
              refine x_icmp_ge 64 dX5_bestToDistribute_57 (by decide) (fun c57 => ?_) (fun c57 => ?_)
              · exact absurd ((nI_leI (by omega) (by omega)).mp c57) (by omega)
              · refine x_iload_n dX5_bestToDistribute_60 rfl ?_
                refine x_goto 65 dX5_bestToDistribute_61 (by decide) ?_
                refine x_istore_n1 dX5_bestToDistribute_65 rfl ?_
                refine x_iload dX5_bestToDistribute_66 rfl ?_
                refine x_iload_n dX5_bestToDistribute_68 rfl ?_
                refine x_icmp_ge 77 dX5_bestToDistribute_69 (by decide) (fun c69 => ?_) (fun c69 => ?_)
                · exact absurd ((nI_leI (by omega) (by omega)).mp c69) (by omega)
                · refine x_iload dX5_bestToDistribute_72 rfl ?_
                  refine x_goto 78 dX5_bestToDistribute_74 (by decide) ?_
                  refine x_istore_n2 dX5_bestToDistribute_78 rfl ?_
                  refine x_iincN_3 (1) dX5_bestToDistribute_79 (by decide) rfl ?_
                  refine x_goto 7 dX5_bestToDistribute_82 (by decide) ?_
                  exact hz
        · have hb : besN S (i + 1) = besN S i := by simp only [besN, e1, if_neg h9]
          refine x_iload_n dX5_bestToDistribute_7 rfl ?_
          refine x_iconst (nI 3) dX5_bestToDistribute_8 (by decide) ?_
          refine x_icmp_ge 85 dX5_bestToDistribute_9 (by decide) (fun c9 => ?_) (fun c9 => ?_)
          · exact absurd ((nI_leI (by omega) (by omega)).mp c9) (by omega)
          · refine x_aload_n dX5_bestToDistribute_12 rfl ?_
            refine x_cv1 dX5_bestToDistribute_13 rfl (by first | assumption | (simp (disch := omega) only [up_s, up_n]; first | assumption | rfl)) rfl ?_
            refine Cm.ev (s_X5_laysAside hR1) (fun c2 q2 => ?_)
            obtain ⟨a2, hR2, hF2, ha2⟩ := q2
            obtain ⟨hO2, hA2, hS2, hD2, hX2, hW2, hL2, hT2⟩ := id hR2
            refine x_aload_n dX5_bestToDistribute_16 rfl ?_
            refine x_iload_n dX5_bestToDistribute_17 rfl ?_
            refine x_cv2 dX5_bestToDistribute_18 rfl (by first | assumption | (simp (disch := omega) only [up_s, up_n]; first | assumption | rfl)) rfl ?_
            refine Cm.ei (s_X5_distributes hR2 hi hRp1.1 (hRp1.2.1 i hi) (by omega)) (fun v c3 q3 => ?_)
            obtain ⟨rfl, f3, hR3, hF3, hB3, _⟩ := q3
            rw [u1, u5] at hB3
            obtain ⟨hO3, hA3, hS3, hD3, hX3, hW3, hL3, hT3⟩ := id hR3
            refine x_istore_4 dX5_bestToDistribute_21 rfl ?_
            refine x_aload_n dX5_bestToDistribute_23 rfl ?_
            refine x_cv1 dX5_bestToDistribute_24 rfl (by first | assumption | (simp (disch := omega) only [up_s, up_n]; first | assumption | rfl)) rfl ?_
            refine Cm.ei (s_X5_sets hR3 hX0 hB3) (fun v c4 q4 => ?_)
            rw [e1] at q4
            obtain ⟨rfl, f4, l4, t4, hR4, hF4, hf4, hB4, hLn⟩ := q4
            obtain ⟨hO4, hA4, hS4, hD4, hX4, hW4, hL4, hT4⟩ := id hR4
            have h16 := hLn.1
            have h17 : r.2.countP wrg ≤ r.2.length := List.countP_le_length
            have h18 : r.2.length = S.2.1.length := by rw [← h16, List.length_map]
            have h19 := hX0.1
            refine x_if_eq 37 dX5_bestToDistribute_27 (by decide) (fun c27 => ?_) (fun c27 => ?_)
            · exact absurd c27 (by decide)
            · refine x_aload_n dX5_bestToDistribute_30 rfl ?_
              refine x_cv1 dX5_bestToDistribute_31 rfl (by first | assumption | (simp (disch := omega) only [up_s, up_n]; first | assumption | rfl)) rfl ?_
              refine Cm.rt (s_X5_wrongInLine hR4 hX0 hLn) ?_
              refine x_goto 48 dX5_bestToDistribute_34 (by decide) ?_
              refine x_istore_5 dX5_bestToDistribute_48 rfl ?_
              refine x_aload_n dX5_bestToDistribute_50 rfl ?_
              refine x_cv1 dX5_bestToDistribute_51 rfl (by first | assumption | (simp (disch := omega) only [up_s, up_n]; first | assumption | rfl)) rfl ?_
              refine Cm.ev (s_X5_takesBack hR4) (fun c5 q5 => ?_)
              obtain ⟨f5, hR5, hF5, hf5⟩ := q5
              have hz := ih (i + 1) c5 f5 a2 l4 t4 (some (.int (nI (S.1.2.1 i).flatten.length))) (some (.int (nI (r.2.countP wrg)))) (by omega) (by omega) hR5 (((((hF1.tr hF2).tr hF3).tr hF4)).tr hF5) (fun k hk => by rw [hf5 k hk, ha2 k hk]; exact hd k hk)
              rw [hb] at hz
              refine x_iload dX5_bestToDistribute_54 rfl ?_
              refine x_iload_n dX5_bestToDistribute_56 rfl ?_
              refine x_icmp_ge 64 dX5_bestToDistribute_57 (by decide) (fun c57 => ?_) (fun c57 => ?_)
              · refine x_iload_n dX5_bestToDistribute_64 rfl ?_
                refine x_istore_n1 dX5_bestToDistribute_65 rfl ?_
                refine x_iload dX5_bestToDistribute_66 rfl ?_
                refine x_iload_n dX5_bestToDistribute_68 rfl ?_
                refine x_icmp_ge 77 dX5_bestToDistribute_69 (by decide) (fun c69 => ?_) (fun c69 => ?_)
                · refine x_iload_n dX5_bestToDistribute_77 rfl ?_
                  refine x_istore_n2 dX5_bestToDistribute_78 rfl ?_
                  refine x_iincN_3 (1) dX5_bestToDistribute_79 (by decide) rfl ?_
                  refine x_goto 7 dX5_bestToDistribute_82 (by decide) ?_
                  exact hz
                · exact absurd ((nI_leI (by omega) (by omega)).mpr (by omega)) c69
              · exact absurd ((nI_leI (by omega) (by omega)).mpr (by omega)) c57
    · have e3 : i = 3 := by omega
      subst e3
      refine x_iload_n dX5_bestToDistribute_7 rfl ?_
      refine x_iconst (nI 3) dX5_bestToDistribute_8 (by decide) ?_
      refine x_icmp_ge 85 dX5_bestToDistribute_9 (by decide) (fun c9 => ?_) (fun c9 => ?_)
      · refine x_aload_n dX5_bestToDistribute_85 rfl ?_
        refine x_iload_n dX5_bestToDistribute_86 rfl ?_
        refine x_cv2 dX5_bestToDistribute_87 rfl (by first | assumption | (simp (disch := omega) only [up_s, up_n]; first | assumption | rfl)) rfl ?_
        refine Cm.ei (s_X5_fine hR1) (fun w c9 q9 => ?_)
        obtain ⟨rfl, w1, w2⟩ := q9
        refine x_ireturn dX5_bestToDistribute_90 ?_
        exact ⟨_, c9, 0, rfl, rfl, ⟨d9, vs, a9, tx, rw, l9, t9, w1, hRp1, hH, hX0⟩, hF1.tr w2, rfl, rfl⟩
      · exact absurd (Int32.le_refl _) c9
set_option maxRecDepth 20000 in
set_option maxHeartbeats 1000000 in
theorem s_X5_bestToDistribute {c : Nat → VC} {g : VG} {S : St} {th : Int32} (h : RefAt c S th) (hk : StOK S) : Cm k_X5_bestToDistribute [.ref 456] (g, c) (RQ g c id (Sum.inl (.int (besV S))) S) := by
  obtain ⟨f, vs, as, tx, rw, ll, lt, hR, hRp, hH, hX0⟩ := h
  obtain ⟨hO, hA, hS, hD, hX, hW, hL, hT⟩ := id hR
  obtain ⟨u1, u2, u3, u4, u5⟩ := hRp.2.2.2
  refine Cm.in (M := M_X5_bestToDistribute) (ls := [some (.ref 456), none, none, none, none, none]) rfl rfl ?_
  refine x_iconst (-1) dX5_bestToDistribute_0 (by decide) ?_
  refine x_istore_n1 dX5_bestToDistribute_1 rfl ?_
  refine x_bipush (nI 17) dX5_bestToDistribute_2 (by decide) ?_
  refine x_istore_n2 dX5_bestToDistribute_4 rfl ?_
  refine x_iconst (nI 0) dX5_bestToDistribute_5 (by decide) ?_
  refine x_istore_n3 dX5_bestToDistribute_6 rfl ?_
  exact l_X5_best hk hRp hH hX0 4 0 c f as ll lt none none (by omega) (by omega) hR FrR.rf (fun k hk => rfl)
set_option maxRecDepth 20000 in
set_option maxHeartbeats 2000000 in
theorem s_X5_order {c : Nat → VC} {g : VG} {S : St} {th : Int32} (h : RefAt c S th) (hk : StOK S) : Cm k_X5_order [.ref 456] (g, c) (RQ g c id (Sum.inl (.double (ordV S))) S) := by
  obtain ⟨f, vs, as, tx, rw, ll, lt, hR, hRp, hH, hX0⟩ := h
  obtain ⟨hO, hA, hS, hD, hX, hW, hL, hT⟩ := id hR
  obtain ⟨u1, u2, u3, u4, u5⟩ := hRp.2.2.2
  have h250 := hRp.1.le
  have hfo : sumN (foul S.1.1) 27 ≤ SB S.1.1 := foul_le
  have hR1 := hR.uO (n' := nI S.2.2.length) (tl' := nI S.2.1.length) (th' := nI 0)
  obtain ⟨hO1, hA1, hS1, hD1, hX1, hW1, hL1, hT1⟩ := id hR1
  by_cases hne : SB S.1.1 = 0
  · have hv : ordV S = FP.dconst1 := by unfold ordV; rw [if_pos hne]
    rw [hv]
    refine Cm.in (M := M_X5_order) (ls := [some (.ref 456), none, none, none, none, none]) rfl rfl ?_
    refine x_aload_n dX5_order_0 rfl ?_
    refine x_iconst (nI 0) dX5_order_1 (by decide) ?_
    refine x_putfield7 dX5_order_2 rfl (by first | assumption | (simp (disch := omega) only [up_s, up_n]; first | assumption | rfl)) rfl ?_
    refine x_aload_n dX5_order_5 rfl ?_
    refine x_cv1 dX5_order_6 rfl (by first | assumption | (simp (disch := omega) only [up_s, up_n]; first | assumption | rfl)) rfl ?_
    refine Cm.rt (s_X5_inBoxes hO1 hA1 hRp.1) ?_
    refine x_istore_n1 dX5_order_9 rfl ?_
    refine x_iload_n dX5_order_10 rfl ?_
    refine x_aload_n dX5_order_11 rfl ?_
    refine x_cv1 dX5_order_12 rfl (by first | assumption | (simp (disch := omega) only [up_s, up_n]; first | assumption | rfl)) rfl ?_
    refine Cm.rt (s_X5_allFoul hO1 hA1 hRp.1) ?_
    refine x_isubN dX5_order_15 hfo ?_
    refine x_i2d dX5_order_16 ?_
    refine x_dstore_n2 dX5_order_17 rfl ?_
    refine x_iload_n dX5_order_18 rfl ?_
    refine x_i2d dX5_order_19 ?_
    refine x_dstore_4 dX5_order_20 rfl ?_
    refine x_iload_n dX5_order_22 rfl ?_
    refine x_if_ne 30 dX5_order_23 (by decide) (fun c23 => ?_) (fun c23 => ?_)
    · exact absurd (by rw [hne]; rfl) c23
    · refine x_dconst1 dX5_order_26 ?_
      refine x_goto 34 dX5_order_27 (by decide) ?_
      refine x_dreturn dX5_order_34 ?_
      exact ⟨_, _, 0, rfl, rfl, ⟨f, vs, as, tx, rw, ll, lt, hR1, hRp, hH, hX0⟩, FrR.w (by omega) (by omega), rfl, rfl⟩
  · have hv : ordV S = FP.ddiv (FP.i2d (nI (SB S.1.1 - sumN (foul S.1.1) 27))) (FP.i2d (nI (SB S.1.1))) := by unfold ordV; rw [if_neg hne]
    rw [hv]
    refine Cm.in (M := M_X5_order) (ls := [some (.ref 456), none, none, none, none, none]) rfl rfl ?_
    refine x_aload_n dX5_order_0 rfl ?_
    refine x_iconst (nI 0) dX5_order_1 (by decide) ?_
    refine x_putfield7 dX5_order_2 rfl (by first | assumption | (simp (disch := omega) only [up_s, up_n]; first | assumption | rfl)) rfl ?_
    refine x_aload_n dX5_order_5 rfl ?_
    refine x_cv1 dX5_order_6 rfl (by first | assumption | (simp (disch := omega) only [up_s, up_n]; first | assumption | rfl)) rfl ?_
    refine Cm.rt (s_X5_inBoxes hO1 hA1 hRp.1) ?_
    refine x_istore_n1 dX5_order_9 rfl ?_
    refine x_iload_n dX5_order_10 rfl ?_
    refine x_aload_n dX5_order_11 rfl ?_
    refine x_cv1 dX5_order_12 rfl (by first | assumption | (simp (disch := omega) only [up_s, up_n]; first | assumption | rfl)) rfl ?_
    refine Cm.rt (s_X5_allFoul hO1 hA1 hRp.1) ?_
    refine x_isubN dX5_order_15 hfo ?_
    refine x_i2d dX5_order_16 ?_
    refine x_dstore_n2 dX5_order_17 rfl ?_
    refine x_iload_n dX5_order_18 rfl ?_
    refine x_i2d dX5_order_19 ?_
    refine x_dstore_4 dX5_order_20 rfl ?_
    refine x_iload_n dX5_order_22 rfl ?_
    refine x_if_ne 30 dX5_order_23 (by decide) (fun c23 => ?_) (fun c23 => ?_)
    · refine x_dload_n dX5_order_30 rfl ?_
      refine x_dload dX5_order_31 rfl ?_
      refine x_ddiv dX5_order_33 (fp_ok (by omega) hne h250) ?_
      refine x_dreturn dX5_order_34 ?_
      exact ⟨_, _, 0, rfl, rfl, ⟨f, vs, as, tx, rw, ll, lt, hR1, hRp, hH, hX0⟩, FrR.w (by omega) (by omega), rfl, rfl⟩
    · exact absurd ((nI_eq (b := 0) (by omega) (by omega)).mp c23) hne
theorem TxR.snoc {tx : Nat → Int32} {T : List Nat} {x : Nat} (h : TxR tx T) (hl : T.length < 16) (hx : x < 27) : TxR (upd tx T.length (nI x)) (T ++ [x]) := by
  obtain ⟨h1, h2, h3⟩ := h
  refine ⟨by rw [List.length_append, List.length_singleton]; omega, fun y hy => ?_, fun i hi => ?_⟩
  · rcases List.mem_append.mp hy with z | z
    · exact h2 y z
    · rw [List.mem_singleton.mp z]; exact hx
  · rw [List.length_append, List.length_singleton] at hi
    by_cases e : i = T.length
    · subst e
      rw [pk_us, List.getElem_concat_length rfl]
    · rw [pk_un e, List.getElem_append_left (by omega)]
      exact h3 i (by omega)
set_option maxRecDepth 20000 in
set_option maxHeartbeats 2000000 in
theorem s_X5_append {c : Nat → VC} {g : VG} {S : St} {th : Int32} (h : RefAt c S th) {v : Int32} : Cm k_X5_append [.ref 456, .int v] (g, c) (RQ g c (fun E => E - 1) (appendM v S).1 (appendM v S).2) := by
  obtain ⟨f, vs, as, tx, rw, ll, lt, hR, hRp, hH, hX0⟩ := h
  obtain ⟨hO, hA, hS, hD, hX, hW, hL, hT⟩ := id hR
  obtain ⟨u1, u2, u3, u4, u5⟩ := hRp.2.2.2
  have h16 := hX0.1
  by_cases h32 : v = nI 32
  · subst h32
    by_cases hlt : S.2.1.length < 16
    · have hM : appendM (nI 32) S = (Sum.inl (.int (nI (S.2.1.length + 1))), (S.1, S.2.1 ++ [26], S.2.2)) := by unfold appendM; rw [if_pos rfl, if_pos hlt]
      rw [hM]
      refine Cm.in (M := M_X5_append) (ls := [some (.ref 456), some (.int (nI 32))]) rfl rfl ?_
      refine x_iload_n dX5_append_0 rfl ?_
      refine x_bipush (nI 32) dX5_append_1 (by decide) ?_
      refine x_icmp_eq 26 dX5_append_3 (by decide) (fun c3 => ?_) (fun c3 => ?_)
      · refine x_aload_n dX5_append_26 rfl ?_
        refine x_getfield dX5_append_27 rfl (by decide) (by first | assumption | (simp (disch := omega) only [up_s, up_n]; first | assumption | rfl)) rfl ?_
        refine x_bipush (nI 16) dX5_append_30 (by decide) ?_
        refine x_icmp_ne 41 dX5_append_32 (by decide) (fun c32 => ?_) (fun c32 => ?_)
        · refine x_aload_n dX5_append_41 rfl ?_
          refine x_getfield dX5_append_42 rfl (by decide) (by first | assumption | (simp (disch := omega) only [up_s, up_n]; first | assumption | rfl)) rfl ?_
          refine x_aload_n dX5_append_45 rfl ?_
          refine x_getfield dX5_append_46 rfl (by decide) (by first | assumption | (simp (disch := omega) only [up_s, up_n]; first | assumption | rfl)) rfl ?_
          refine x_iload_n dX5_append_49 rfl ?_
          refine x_bipush (nI 32) dX5_append_50 (by decide) ?_
          refine x_icmp_ne 60 dX5_append_52 (by decide) (fun c52 => ?_) (fun c52 => ?_)
          · exact absurd rfl c52
          · refine x_bipush (nI 26) dX5_append_55 (by decide) ?_
            refine x_goto 64 dX5_append_57 (by decide) ?_
            refine x_iastoreN dX5_append_64 (by first | assumption | (simp (disch := omega) only [up_s, up_n]; first | assumption | rfl)) (by omega) (by omega) ?_
            refine x_aload_n dX5_append_65 rfl ?_
            refine x_dup dX5_append_66 rfl ?_
            refine x_getfield dX5_append_67 rfl (by decide) (by first | assumption | (simp (disch := omega) only [up_s, up_n]; first | assumption | rfl)) rfl ?_
            refine x_iconst (nI 1) dX5_append_70 (by decide) ?_
            refine x_iaddN dX5_append_71 ?_
            refine x_putfield5 dX5_append_72 rfl (by first | assumption | (simp (disch := omega) only [up_s, up_n]; first | assumption | rfl)) rfl ?_
            refine x_aload_n dX5_append_75 rfl ?_
            refine x_aload_n dX5_append_76 rfl ?_
            refine x_getfield dX5_append_77 rfl (by decide) (by first | assumption | (simp (disch := omega) only [up_s, up_n]; first | assumption | rfl)) rfl ?_
            refine x_cv2 dX5_append_80 rfl (by first | assumption | (simp (disch := omega) only [up_s, up_n]; first | assumption | rfl)) rfl ?_
            have hR9 := (hR.uX (f' := upd tx S.2.1.length (nI 26))).uO (n' := nI S.2.2.length) (tl' := nI (S.2.1.length + 1)) (th' := th)
            refine Cm.ei (s_X5_fine hR9) (fun w c9 q9 => ?_)
            obtain ⟨rfl, w1, w2⟩ := q9
            refine x_ireturn dX5_append_83 ?_
            have w3 : S.2.1.length + 1 = (S.2.1 ++ [26]).length := by simp
            rw [w3] at w1 ⊢
            exact ⟨_, c9, 0, rfl, rfl, ⟨f, vs, as, _, rw, ll, lt, w1, hRp, hH, hX0.snoc hlt (by omega)⟩, (((FrR.w (by omega) (by omega)).u (by omega) (by omega)).tr w2), rfl, rfl⟩
        · exact absurd ((nI_eq (by omega) (by omega)).mp c32) (by omega)
      · exact absurd rfl c3
    · have hM : appendM (nI 32) S = (Sum.inr 3, S) := by unfold appendM; rw [if_pos rfl, if_neg hlt]
      rw [hM]
      refine Cm.in (M := M_X5_append) (ls := [some (.ref 456), some (.int (nI 32))]) rfl rfl ?_
      refine x_iload_n dX5_append_0 rfl ?_
      refine x_bipush (nI 32) dX5_append_1 (by decide) ?_
      refine x_icmp_eq 26 dX5_append_3 (by decide) (fun c3 => ?_) (fun c3 => ?_)
      · refine x_aload_n dX5_append_26 rfl ?_
        refine x_getfield dX5_append_27 rfl (by decide) (by first | assumption | (simp (disch := omega) only [up_s, up_n]; first | assumption | rfl)) rfl ?_
        refine x_bipush (nI 16) dX5_append_30 (by decide) ?_
        refine x_icmp_ne 41 dX5_append_32 (by decide) (fun c32 => ?_) (fun c32 => ?_)
        · exact absurd (by rw [show S.2.1.length = 16 by omega]) c32
        · refine x_aload_n dX5_append_35 rfl ?_
          refine x_iconst (nI 2) dX5_append_36 (by decide) ?_
          refine x_cv2 dX5_append_37 rfl (by first | assumption | (simp (disch := omega) only [up_s, up_n]; first | assumption | rfl)) rfl ?_
          refine Cm.ei (s_X5_throwing hR) (fun w c9 q9 => ?_)
          obtain ⟨rfl, w1, w2⟩ := q9
          refine x_ireturn dX5_append_40 ?_
          exact ⟨_, c9, 2, rfl, rfl, ⟨f, vs, as, tx, rw, ll, lt, w1, hRp, hH, hX0⟩, w2, rfl, rfl⟩
      · exact absurd rfl c3
  · cases e2 : rg v 97 122 with
    | none =>
      have hM : appendM v S = (Sum.inr 2, S) := by simp only [appendM, if_neg h32, e2]
      rw [hM]
      refine Cm.in (M := M_X5_append) (ls := [some (.ref 456), some (.int v)]) rfl rfl ?_
      refine x_iload_n dX5_append_0 rfl ?_
      refine x_bipush (nI 32) dX5_append_1 (by decide) ?_
      refine x_icmp_eq 26 dX5_append_3 (by decide) (fun c3 => ?_) (fun c3 => ?_)
      · exact absurd c3 h32
      · refine x_iload_n dX5_append_6 rfl ?_
        refine x_i2l dX5_append_7 ?_
        refine x_ldc2_w dX5_append_8 rfl ?_
        refine x_ldc2_w dX5_append_11 rfl ?_
        refine x_cs3 dX5_append_14 rfl ?_
        refine Cm.rt s_X5_in ?_
        rw [in_rg (a := 97) (b := 122) (by omega) (by omega) (by decide) (by decide), e2]
        refine x_if_ne 26 dX5_append_17 (by decide) (fun c17 => ?_) (fun c17 => ?_)
        · exact absurd rfl c17
        · refine x_aload_n dX5_append_20 rfl ?_
          refine x_iconst (nI 1) dX5_append_21 (by decide) ?_
          refine x_cv2 dX5_append_22 rfl (by first | assumption | (simp (disch := omega) only [up_s, up_n]; first | assumption | rfl)) rfl ?_
          refine Cm.ei (s_X5_throwing hR) (fun w c9 q9 => ?_)
          obtain ⟨rfl, w1, w2⟩ := q9
          refine x_ireturn dX5_append_25 ?_
          exact ⟨_, c9, 1, rfl, rfl, ⟨f, vs, as, tx, rw, ll, lt, w1, hRp, hH, hX0⟩, w2, rfl, rfl⟩
    | some m =>
      obtain ⟨hm1, hm2, rfl⟩ := rg_some (by omega) (by omega) e2
      by_cases hlt : S.2.1.length < 16
      · have hM : appendM (nI m) S = (Sum.inl (.int (nI (S.2.1.length + 1))), (S.1, S.2.1 ++ [m - 97], S.2.2)) := by simp only [appendM, if_neg h32, e2, if_pos hlt]
        rw [hM]
        refine Cm.in (M := M_X5_append) (ls := [some (.ref 456), some (.int (nI m))]) rfl rfl ?_
        refine x_iload_n dX5_append_0 rfl ?_
        refine x_bipush (nI 32) dX5_append_1 (by decide) ?_
        refine x_icmp_eq 26 dX5_append_3 (by decide) (fun c3 => ?_) (fun c3 => ?_)
        · exact absurd c3 h32
        · refine x_iload_n dX5_append_6 rfl ?_
          refine x_i2l dX5_append_7 ?_
          refine x_ldc2_w dX5_append_8 rfl ?_
          refine x_ldc2_w dX5_append_11 rfl ?_
          refine x_cs3 dX5_append_14 rfl ?_
          refine Cm.rt s_X5_in ?_
          rw [in_rg (a := 97) (b := 122) (by omega) (by omega) (by decide) (by decide), e2]
          refine x_if_ne 26 dX5_append_17 (by decide) (fun c17 => ?_) (fun c17 => ?_)
          · refine x_aload_n dX5_append_26 rfl ?_
            refine x_getfield dX5_append_27 rfl (by decide) (by first | assumption | (simp (disch := omega) only [up_s, up_n]; first | assumption | rfl)) rfl ?_
            refine x_bipush (nI 16) dX5_append_30 (by decide) ?_
            refine x_icmp_ne 41 dX5_append_32 (by decide) (fun c32 => ?_) (fun c32 => ?_)
            · refine x_aload_n dX5_append_41 rfl ?_
              refine x_getfield dX5_append_42 rfl (by decide) (by first | assumption | (simp (disch := omega) only [up_s, up_n]; first | assumption | rfl)) rfl ?_
              refine x_aload_n dX5_append_45 rfl ?_
              refine x_getfield dX5_append_46 rfl (by decide) (by first | assumption | (simp (disch := omega) only [up_s, up_n]; first | assumption | rfl)) rfl ?_
              refine x_iload_n dX5_append_49 rfl ?_
              refine x_bipush (nI 32) dX5_append_50 (by decide) ?_
              refine x_icmp_ne 60 dX5_append_52 (by decide) (fun c52 => ?_) (fun c52 => ?_)
              · refine x_iload_n dX5_append_60 rfl ?_
                refine x_bipush (nI 97) dX5_append_61 (by decide) ?_
                refine x_isubN dX5_append_63 hm1 ?_
                refine x_iastoreN dX5_append_64 (by first | assumption | (simp (disch := omega) only [up_s, up_n]; first | assumption | rfl)) (by omega) (by omega) ?_
                refine x_aload_n dX5_append_65 rfl ?_
                refine x_dup dX5_append_66 rfl ?_
                refine x_getfield dX5_append_67 rfl (by decide) (by first | assumption | (simp (disch := omega) only [up_s, up_n]; first | assumption | rfl)) rfl ?_
                refine x_iconst (nI 1) dX5_append_70 (by decide) ?_
                refine x_iaddN dX5_append_71 ?_
                refine x_putfield5 dX5_append_72 rfl (by first | assumption | (simp (disch := omega) only [up_s, up_n]; first | assumption | rfl)) rfl ?_
                refine x_aload_n dX5_append_75 rfl ?_
                refine x_aload_n dX5_append_76 rfl ?_
                refine x_getfield dX5_append_77 rfl (by decide) (by first | assumption | (simp (disch := omega) only [up_s, up_n]; first | assumption | rfl)) rfl ?_
                refine x_cv2 dX5_append_80 rfl (by first | assumption | (simp (disch := omega) only [up_s, up_n]; first | assumption | rfl)) rfl ?_
                have hR9 := (hR.uX (f' := upd tx S.2.1.length (nI (m - 97)))).uO (n' := nI S.2.2.length) (tl' := nI (S.2.1.length + 1)) (th' := th)
                refine Cm.ei (s_X5_fine hR9) (fun w c9 q9 => ?_)
                obtain ⟨rfl, w1, w2⟩ := q9
                refine x_ireturn dX5_append_83 ?_
                have w3 : S.2.1.length + 1 = (S.2.1 ++ [m - 97]).length := by simp
                rw [w3] at w1 ⊢
                exact ⟨_, c9, 0, rfl, rfl, ⟨f, vs, as, _, rw, ll, lt, w1, hRp, hH, hX0.snoc hlt (by omega)⟩, (((FrR.w (by omega) (by omega)).u (by omega) (by omega)).tr w2), rfl, rfl⟩
              · exact absurd c52 h32
            · exact absurd ((nI_eq (by omega) (by omega)).mp c32) (by omega)
          · exact absurd (show bV true = 0 from c17) (by decide)
      · have hM : appendM (nI m) S = (Sum.inr 3, S) := by simp only [appendM, if_neg h32, e2, if_neg hlt]
        rw [hM]
        refine Cm.in (M := M_X5_append) (ls := [some (.ref 456), some (.int (nI m))]) rfl rfl ?_
        refine x_iload_n dX5_append_0 rfl ?_
        refine x_bipush (nI 32) dX5_append_1 (by decide) ?_
        refine x_icmp_eq 26 dX5_append_3 (by decide) (fun c3 => ?_) (fun c3 => ?_)
        · exact absurd c3 h32
        · refine x_iload_n dX5_append_6 rfl ?_
          refine x_i2l dX5_append_7 ?_
          refine x_ldc2_w dX5_append_8 rfl ?_
          refine x_ldc2_w dX5_append_11 rfl ?_
          refine x_cs3 dX5_append_14 rfl ?_
          refine Cm.rt s_X5_in ?_
          rw [in_rg (a := 97) (b := 122) (by omega) (by omega) (by decide) (by decide), e2]
          refine x_if_ne 26 dX5_append_17 (by decide) (fun c17 => ?_) (fun c17 => ?_)
          · refine x_aload_n dX5_append_26 rfl ?_
            refine x_getfield dX5_append_27 rfl (by decide) (by first | assumption | (simp (disch := omega) only [up_s, up_n]; first | assumption | rfl)) rfl ?_
            refine x_bipush (nI 16) dX5_append_30 (by decide) ?_
            refine x_icmp_ne 41 dX5_append_32 (by decide) (fun c32 => ?_) (fun c32 => ?_)
            · exact absurd (by rw [show S.2.1.length = 16 by omega]) c32
            · refine x_aload_n dX5_append_35 rfl ?_
              refine x_iconst (nI 2) dX5_append_36 (by decide) ?_
              refine x_cv2 dX5_append_37 rfl (by first | assumption | (simp (disch := omega) only [up_s, up_n]; first | assumption | rfl)) rfl ?_
              refine Cm.ei (s_X5_throwing hR) (fun w c9 q9 => ?_)
              obtain ⟨rfl, w1, w2⟩ := q9
              refine x_ireturn dX5_append_40 ?_
              exact ⟨_, c9, 2, rfl, rfl, ⟨f, vs, as, tx, rw, ll, lt, w1, hRp, hH, hX0⟩, w2, rfl, rfl⟩
          · exact absurd (show bV true = 0 from c17) (by decide)
set_option maxRecDepth 20000 in
set_option maxHeartbeats 1000000 in
theorem s_X5_clearText {c : Nat → VC} {g : VG} {S : St} {th : Int32} (h : RefAt c S th) : Cm k_X5_clearText [.ref 456] (g, c) (RQ g c id (clearM S).1 (clearM S).2) := by
  obtain ⟨f, vs, as, tx, rw, ll, lt, hR, hRp, hH, hX0⟩ := h
  obtain ⟨hO, hA, hS, hD, hX, hW, hL, hT⟩ := id hR
  obtain ⟨u1, u2, u3, u4, u5⟩ := hRp.2.2.2
  have hR9 := hR.uO (n' := nI S.2.2.length) (tl' := nI 0) (th' := th)
  refine Cm.in (M := M_X5_clearText) (ls := [some (.ref 456), none]) rfl rfl ?_
  refine x_aload_n dX5_clearText_0 rfl ?_
  refine x_getfield dX5_clearText_1 rfl (by decide) (by first | assumption | (simp (disch := omega) only [up_s, up_n]; first | assumption | rfl)) rfl ?_
  refine x_istore_n1 dX5_clearText_4 rfl ?_
  refine x_aload_n dX5_clearText_5 rfl ?_
  refine x_iconst (nI 0) dX5_clearText_6 (by decide) ?_
  refine x_putfield5 dX5_clearText_7 rfl (by first | assumption | (simp (disch := omega) only [up_s, up_n]; first | assumption | rfl)) rfl ?_
  refine x_aload_n dX5_clearText_10 rfl ?_
  refine x_iload_n dX5_clearText_11 rfl ?_
  refine x_cv2 dX5_clearText_12 rfl (by first | assumption | (simp (disch := omega) only [up_s, up_n]; first | assumption | rfl)) rfl ?_
  refine Cm.ei (s_X5_fine hR9) (fun w c9 q9 => ?_)
  obtain ⟨rfl, w1, w2⟩ := q9
  refine x_ireturn dX5_clearText_15 ?_
  exact ⟨_, c9, 0, rfl, rfl, ⟨f, vs, as, tx, rw, ll, lt, w1, hRp, hH, ⟨Nat.zero_le _, fun x hx => absurd hx (by simp [clearM]), fun i hi => absurd hi (Nat.not_lt_zero i)⟩⟩, (FrR.w (by omega) (by omega)).tr w2, rfl, rfl⟩
set_option maxRecDepth 20000 in
set_option maxHeartbeats 1000000 in
theorem l_X5_undo {c : Nat → VC} {g : VG} {vs as tx rw ll lt : Nat → Int32} {tl th : Int32} {N : Nat} (hN : N < 4) {Q : (Option Value ⊕ Nat) → VH → Prop} (hQ : ∀ c2 d2, RH c2 d2 vs as tx rw ll lt (nI N) tl th → FrR c c2 → (∀ k, k < 1542 → d2 k = vs (1542 * N + k)) → Xm M_X5_undo 59 [some (.ref 456), some (.int (nI 1542))] [] (g, c2) Q) : ∀ (m i : Nat) (d9 : Nat → Int32) (c1 : Nat → VC), i ≤ 1542 → 1542 < i + m → RH c1 d9 vs as tx rw ll lt (nI N) tl th → FrR c c1 → (∀ k, k < i → d9 k = vs (1542 * N + k)) → Xm M_X5_undo 25 [some (.ref 456), some (.int (nI i))] [] (g, c1) Q := by
  intro m
  induction m with
  | zero => intro i d9 c1 z1 z2; omega
  | succ m ih =>
    intro i d9 c1 z1 z2 hR1 hF1 hd
    obtain ⟨hO, hA, hS, hD, hX, hW, hL, hT⟩ := id hR1
    refine x_iload_n dX5_undo_25 rfl ?_
    refine x_sipush (nI 1542) dX5_undo_26 (by decide) ?_
    refine x_icmp_ge 59 dX5_undo_29 (by decide) (fun c29 => ?_) (fun c29 => ?_)
    · have e1 : i = 1542 := by have := (nI_leI (by omega) (by omega)).mp c29; omega
      subst e1
      exact hQ c1 d9 hR1 hF1 hd
    · have hi : i < 1542 := by
        by_cases q : i < 1542
        · exact q
        · exact absurd ((nI_leI (by omega) (by omega)).mpr (by omega)) c29
      refine x_aload_n dX5_undo_32 rfl ?_
      refine x_getfield dX5_undo_33 rfl (by decide) (by first | assumption | (simp (disch := omega) only [up_s, up_n]; first | assumption | rfl)) rfl ?_
      refine x_iload_n dX5_undo_36 rfl ?_
      refine x_aload_n dX5_undo_37 rfl ?_
      refine x_getfield dX5_undo_38 rfl (by decide) (by first | assumption | (simp (disch := omega) only [up_s, up_n]; first | assumption | rfl)) rfl ?_
      refine x_sipush (nI 1542) dX5_undo_41 (by decide) ?_
      refine x_aload_n dX5_undo_44 rfl ?_
      refine x_getfield dX5_undo_45 rfl (by decide) (by first | assumption | (simp (disch := omega) only [up_s, up_n]; first | assumption | rfl)) rfl ?_
      refine x_imulN dX5_undo_48 ?_
      refine x_iload_n dX5_undo_49 rfl ?_
      refine x_iaddN dX5_undo_50 ?_
      refine x_ialoadN dX5_undo_51 (by first | assumption | (simp (disch := omega) only [up_s, up_n]; first | assumption | rfl)) (by omega) (by omega) ?_
      refine x_iastoreN dX5_undo_52 (by first | assumption | (simp (disch := omega) only [up_s, up_n]; first | assumption | rfl)) (by omega) (by omega) ?_
      refine x_iincN_1 (1) dX5_undo_53 (by decide) rfl ?_
      refine x_goto 25 dX5_undo_56 (by decide) ?_
      refine ih (i + 1) _ _ (by omega) (by omega) hR1.uA (hF1.u (by omega) (by omega)) (fun k hk => ?_)
      by_cases q : k = i
      · subst q; rw [pk_us]
      · rw [pk_un q]; exact hd k (by omega)
set_option maxRecDepth 20000 in
set_option maxHeartbeats 1000000 in
theorem k_X5_undo59 {c c1 : Nat → VC} {g : VG} {S' : St} {d2 vs as tx rw ll lt : Nat → Int32} {th : Int32} (hRp : RepA d2 S'.1) (hR1 : RH c1 d2 vs as tx rw ll lt (nI S'.2.2.length) (nI S'.2.1.length) th) (hH : HiR vs S'.2.2) (hX0 : TxR tx S'.2.1) (hF : FrR c c1) {o : Option Value} : Xm M_X5_undo 59 [some (.ref 456), o] [] (g, c1) (RQ g c (fun E => E - 2) (Sum.inl (.int (nI S'.2.2.length))) S') := by
  obtain ⟨hO, hA, hS, hD, hX, hW, hL, hT⟩ := id hR1
  refine x_aload_n dX5_undo_59 rfl ?_
  refine x_aload_n dX5_undo_60 rfl ?_
  refine x_getfield dX5_undo_61 rfl (by decide) (by first | assumption | (simp (disch := omega) only [up_s, up_n]; first | assumption | rfl)) rfl ?_
  refine x_cv2 dX5_undo_64 rfl (by first | assumption | (simp (disch := omega) only [up_s, up_n]; first | assumption | rfl)) rfl ?_
  refine Cm.ei (s_X5_fine hR1) (fun w c9 q9 => ?_)
  obtain ⟨rfl, w1, w2⟩ := q9
  refine x_ireturn dX5_undo_67 ?_
  exact ⟨_, c9, 0, rfl, rfl, ⟨d2, vs, as, tx, rw, ll, lt, w1, hRp, hH, hX0⟩, hF.tr w2, rfl, rfl⟩
set_option maxRecDepth 20000 in
set_option maxHeartbeats 2000000 in
theorem s_X5_undo {c : Nat → VC} {g : VG} {S : St} {th : Int32} (h : RefAt c S th) : Cm k_X5_undo [.ref 456] (g, c) (RQ g c (fun E => E - 2) (undoM S).1 (undoM S).2) := by
  obtain ⟨f, vs, as, tx, rw, ll, lt, hR, hRp, hH, hX0⟩ := h
  obtain ⟨hO, hA, hS, hD, hX, hW, hL, hT⟩ := id hR
  obtain ⟨u1, u2, u3, u4, u5⟩ := hRp.2.2.2
  have h4 := hH.1
  cases e1 : S.2.2.getLast? with
  | none =>
    have hM : undoM S = (Sum.inr 3, S) := by simp only [undoM, e1]
    rw [hM]
    have hn : S.2.2 = [] := List.getLast?_eq_none_iff.mp e1
    refine Cm.in (M := M_X5_undo) (ls := [some (.ref 456), none]) rfl rfl ?_
    refine x_aload_n dX5_undo_0 rfl ?_
    refine x_getfield dX5_undo_1 rfl (by decide) (by first | assumption | (simp (disch := omega) only [up_s, up_n]; first | assumption | rfl)) rfl ?_
    refine x_if_ne 13 dX5_undo_4 (by decide) (fun c4 => ?_) (fun c4 => ?_)
    · exact absurd (by rw [hn]; rfl) c4
    · refine x_aload_n dX5_undo_7 rfl ?_
      refine x_iconst (nI 1) dX5_undo_8 (by decide) ?_
      refine x_cv2 dX5_undo_9 rfl (by first | assumption | (simp (disch := omega) only [up_s, up_n]; first | assumption | rfl)) rfl ?_
      refine Cm.ei (s_X5_throwing hR) (fun w c9 q9 => ?_)
      obtain ⟨rfl, w1, w2⟩ := q9
      refine x_ireturn dX5_undo_12 ?_
      exact ⟨_, c9, 1, rfl, rfl, ⟨f, vs, as, tx, rw, ll, lt, w1, hRp, hH, hX0⟩, w2, rfl, rfl⟩
  | some τ =>
    have hM : undoM S = (Sum.inl (.int (nI (S.2.2.length - 1))), (τ, S.2.1, S.2.2.dropLast)) := by simp only [undoM, e1]
    rw [hM]
    obtain ⟨l9, hl9⟩ := List.getLast?_eq_some_iff.mp e1
    have hl1 : S.2.2.length = l9.length + 1 := by rw [hl9, List.length_append, List.length_singleton]
    have hdl : S.2.2.dropLast = l9 := by rw [hl9, List.dropLast_concat]
    rw [hl1, Nat.add_sub_cancel, hdl]
    refine Cm.in (M := M_X5_undo) (ls := [some (.ref 456), none]) rfl rfl ?_
    refine x_aload_n dX5_undo_0 rfl ?_
    refine x_getfield dX5_undo_1 rfl (by decide) (by first | assumption | (simp (disch := omega) only [up_s, up_n]; first | assumption | rfl)) rfl ?_
    refine x_if_ne 13 dX5_undo_4 (by decide) (fun c4 => ?_) (fun c4 => ?_)
    · refine x_aload_n dX5_undo_13 rfl ?_
      refine x_dup dX5_undo_14 rfl ?_
      refine x_getfield dX5_undo_15 rfl (by decide) (by first | assumption | (simp (disch := omega) only [up_s, up_n]; first | assumption | rfl)) rfl ?_
      refine x_iconst (nI 1) dX5_undo_18 (by decide) ?_
      refine x_isubN dX5_undo_19 (by omega) ?_
      refine x_putfield3 dX5_undo_20 rfl (by first | assumption | (simp (disch := omega) only [up_s, up_n]; first | assumption | rfl)) rfl ?_
      refine x_iconst (nI 0) dX5_undo_23 (by decide) ?_
      refine x_istore_n1 dX5_undo_24 rfl ?_
      have hR9 := hR.uO (n' := nI (S.2.2.length - 1)) (tl' := nI S.2.1.length) (th' := th)
      rw [hl1, Nat.add_sub_cancel] at hR9 ⊢
      have hLt : HiR vs l9 := ⟨by omega, fun i hi => by
        have := hH.2 i (by omega)
        simp only [hl9] at this
        rw [List.getElem_append_left hi] at this
        exact this⟩
      have hTp : RepA (fun k => vs (1542 * l9.length + k)) τ := by
        have := hH.2 l9.length (by omega)
        simp only [hl9] at this
        rw [List.getElem_concat_length rfl] at this
        exact this
      refine l_X5_undo (c := c) (by omega) (fun c2 d2 w1 w2 w3 => ?_) 1543 0 f _ (by omega) (by omega) hR9 (FrR.w (by omega) (by omega)) (fun k hk => absurd hk (Nat.not_lt_zero k))
      exact k_X5_undo59 (S' := (τ, S.2.1, l9)) (hTp.fr w3) w1 hLt hX0 w2
    · exact absurd ((nI_eq (b := 0) (by omega) (by omega)).mp c4) (by omega)
