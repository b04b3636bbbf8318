/-! the reference: formes, lines, places, proofs -/
set_option maxRecDepth 20000 in
set_option maxHeartbeats 1000000 in
theorem s_X5_formeOf4 {c : Nat → VC} {g : VG} {f vs as tx rw ll lt : Nat → Int32} {n tl th : Int32} (hR : RH c f vs as tx rw ll lt n tl th) {S : St} (hRp : RepA f S.1) {j : Nat} (hj : j < 3) : Cm k_X5_formeOf [.ref 456, .int (nI j), .int (nI 4)] (g, c) (Ei g (fun v c' => v = .int (foV S j 4) ∧ ∃ f' as', RH c' f' vs as' tx rw ll lt n tl th ∧ FrR c c' ∧ ∀ k, k < 1542 → f' k = f k)) := by
  obtain ⟨hO, hA, hS, hD, hX, hW, hL, hT⟩ := id hR
  refine Cm.in (M := M_X5_formeOf) (ls := [some (.ref 456), some (.int (nI j)), some (.int (nI 4)), none]) rfl rfl ?_
  refine x_iload_n dX5_formeOf_0 rfl ?_
  refine x_iconst (nI 4) dX5_formeOf_1 (by decide) ?_
  refine x_icmp_ne 21 dX5_formeOf_2 (by decide) (fun c2 => ?_) (fun c2 => ?_)
  · exact absurd rfl c2
  · refine x_aload_n dX5_formeOf_5 rfl ?_
    refine x_cv1 dX5_formeOf_6 rfl (by first | assumption | (simp (disch := omega) only [up_s, up_n]; first | assumption | rfl)) rfl ?_
    refine Cm.ev (s_X5_laysAside hR) (fun c1 q1 => ?_)
    obtain ⟨a1, hR1, hF1, ha1⟩ := q1
    obtain ⟨hO1, hA1, hS1, hD1, hX1, hW1, hL1, hT1⟩ := id hR1
    refine x_aload_n dX5_formeOf_9 rfl ?_
    refine x_iload_n dX5_formeOf_10 rfl ?_
    refine x_cv2 dX5_formeOf_11 rfl (by first | assumption | (simp (disch := omega) only [up_s, up_n]; first | assumption | rfl)) rfl ?_
    refine Cm.ei (s_X5_corrects hR1 hj hRp.1 (hRp.2.1 j hj)) (fun v c2 q2 => ?_)
    obtain ⟨rfl, f2, hR2, hF2, _⟩ := q2
    obtain ⟨hO2, hA2, hS2, hD2, hX2, hW2, hL2, hT2⟩ := id hR2
    refine x_istore_n3 dX5_formeOf_14 rfl ?_
    refine x_aload_n dX5_formeOf_15 rfl ?_
    refine x_cv1 dX5_formeOf_16 rfl (by first | assumption | (simp (disch := omega) only [up_s, up_n]; first | assumption | rfl)) rfl ?_
    refine Cm.ev (s_X5_takesBack hR2) (fun c3 q3 => ?_)
    obtain ⟨f3, hR3, hF3, hf3⟩ := q3
    refine x_iload_n dX5_formeOf_19 rfl ?_
    refine x_ireturn dX5_formeOf_20 ?_
    exact ⟨_, c3, rfl, rfl, rfl, f3, a1, hR3, (hF1.tr hF2).tr hF3, fun k hk => by rw [hf3 k hk, ha1 k hk]⟩
set_option maxRecDepth 20000 in
set_option maxHeartbeats 1000000 in
theorem s_X5_formeOf0 {c : Nat → VC} {g : VG} {f vs as tx rw ll lt : Nat → Int32} {n tl th : Int32} (hR : RH c f vs as tx rw ll lt n tl th) {S : St} (hRp : RepA f S.1) {j : Nat} (hj : j < 3) : Cm k_X5_formeOf [.ref 456, .int (nI j), .int (nI 0)] (g, c) (Ei g (fun v c' => v = .int (foV S j 0) ∧ ∃ f' as', RH c' f' vs as' tx rw ll lt n tl th ∧ FrR c c' ∧ ∀ k, k < 1542 → f' k = f k)) := by
  obtain ⟨hO, hA, hS, hD, hX, hW, hL, hT⟩ := id hR
  have hm := (hRp.2.1 j hj).1
  refine Cm.in (M := M_X5_formeOf) (ls := [some (.ref 456), some (.int (nI j)), some (.int (nI 0)), none]) rfl rfl ?_
  refine x_iload_n dX5_formeOf_0 rfl ?_
  refine x_iconst (nI 4) dX5_formeOf_1 (by decide) ?_
  refine x_icmp_ne 21 dX5_formeOf_2 (by decide) (fun c2 => ?_) (fun c2 => ?_)
  · refine x_iload_n dX5_formeOf_21 rfl ?_
    refine x_if_ne 38 dX5_formeOf_22 (by decide) (fun c22 => ?_) (fun c22 => ?_)
    · exact absurd rfl c22
    · refine x_aload_n dX5_formeOf_25 rfl ?_
      refine x_getfield dX5_formeOf_26 rfl (by decide) (by first | assumption | (simp (disch := omega) only [up_s, up_n]; first | assumption | rfl)) rfl ?_
      refine x_sipush (nI 1262) dX5_formeOf_29 (by decide) ?_
      refine x_iload_n dX5_formeOf_32 rfl ?_
      refine x_iaddN dX5_formeOf_33 ?_
      refine x_ialoadN dX5_formeOf_34 (by first | assumption | (simp (disch := omega) only [up_s, up_n]; first | assumption | rfl)) (by omega) (by omega) ?_
      rw [hm]
      refine x_goto 46 dX5_formeOf_35 (by decide) ?_
      refine x_ireturn dX5_formeOf_46 ?_
      exact ⟨_, c, rfl, rfl, rfl, f, as, hR, FrR.rf, fun k _ => rfl⟩
  · exact absurd c2 (by decide)
set_option maxRecDepth 20000 in
set_option maxHeartbeats 1000000 in
theorem s_X5_formeOf1 {c : Nat → VC} {g : VG} {f vs as tx rw ll lt : Nat → Int32} {n tl th : Int32} (hR : RH c f vs as tx rw ll lt n tl th) {S : St} (hRp : RepA f S.1) {j : Nat} (hj : j < 3) : Cm k_X5_formeOf [.ref 456, .int (nI j), .int (nI 1)] (g, c) (Ei g (fun v c' => v = .int (foV S j 1) ∧ ∃ f' as', RH c' f' vs as' tx rw ll lt n tl th ∧ FrR c c' ∧ ∀ k, k < 1542 → f' k = f k)) := by
  obtain ⟨hO, hA, hS, hD, hX, hW, hL, hT⟩ := id hR
  refine Cm.in (M := M_X5_formeOf) (ls := [some (.ref 456), some (.int (nI j)), some (.int (nI 1)), none]) rfl rfl ?_
  refine x_iload_n dX5_formeOf_0 rfl ?_
  refine x_iconst (nI 4) dX5_formeOf_1 (by decide) ?_
  refine x_icmp_ne 21 dX5_formeOf_2 (by decide) (fun c2 => ?_) (fun c2 => ?_)
  · refine x_iload_n dX5_formeOf_21 rfl ?_
    refine x_if_ne 38 dX5_formeOf_22 (by decide) (fun c22 => ?_) (fun c22 => ?_)
    · refine x_aload_n dX5_formeOf_38 rfl ?_
      refine x_iload_n dX5_formeOf_39 rfl ?_
      refine x_iload_n dX5_formeOf_40 rfl ?_
      refine x_iconst (nI 1) dX5_formeOf_41 (by decide) ?_
      refine x_isubN dX5_formeOf_42 (by omega) ?_
      refine x_cv3 dX5_formeOf_43 rfl (by first | assumption | (simp (disch := omega) only [up_s, up_n]; first | assumption | rfl)) rfl ?_
      refine Cm.rt (s_X5_countOf_0 hO hA hj (hRp.2.1 j hj)) ?_
      rw [cnt_true]
      refine x_ireturn dX5_formeOf_46 ?_
      exact ⟨_, c, rfl, rfl, rfl, f, as, hR, FrR.rf, fun k _ => rfl⟩
    · exact absurd c22 (by decide)
  · exact absurd c2 (by decide)
set_option maxRecDepth 20000 in
set_option maxHeartbeats 1000000 in
theorem s_X5_formeOf2 {c : Nat → VC} {g : VG} {f vs as tx rw ll lt : Nat → Int32} {n tl th : Int32} (hR : RH c f vs as tx rw ll lt n tl th) {S : St} (hRp : RepA f S.1) {j : Nat} (hj : j < 3) : Cm k_X5_formeOf [.ref 456, .int (nI j), .int (nI 2)] (g, c) (Ei g (fun v c' => v = .int (foV S j 2) ∧ ∃ f' as', RH c' f' vs as' tx rw ll lt n tl th ∧ FrR c c' ∧ ∀ k, k < 1542 → f' k = f k)) := by
  obtain ⟨hO, hA, hS, hD, hX, hW, hL, hT⟩ := id hR
  refine Cm.in (M := M_X5_formeOf) (ls := [some (.ref 456), some (.int (nI j)), some (.int (nI 2)), none]) rfl rfl ?_
  refine x_iload_n dX5_formeOf_0 rfl ?_
  refine x_iconst (nI 4) dX5_formeOf_1 (by decide) ?_
  refine x_icmp_ne 21 dX5_formeOf_2 (by decide) (fun c2 => ?_) (fun c2 => ?_)
  · refine x_iload_n dX5_formeOf_21 rfl ?_
    refine x_if_ne 38 dX5_formeOf_22 (by decide) (fun c22 => ?_) (fun c22 => ?_)
    · refine x_aload_n dX5_formeOf_38 rfl ?_
      refine x_iload_n dX5_formeOf_39 rfl ?_
      refine x_iload_n dX5_formeOf_40 rfl ?_
      refine x_iconst (nI 1) dX5_formeOf_41 (by decide) ?_
      refine x_isubN dX5_formeOf_42 (by omega) ?_
      refine x_cv3 dX5_formeOf_43 rfl (by first | assumption | (simp (disch := omega) only [up_s, up_n]; first | assumption | rfl)) rfl ?_
      refine Cm.rt (s_X5_countOf_1 hO hA hj (hRp.2.1 j hj)) ?_
      refine x_ireturn dX5_formeOf_46 ?_
      exact ⟨_, c, rfl, rfl, rfl, f, as, hR, FrR.rf, fun k _ => rfl⟩
    · exact absurd c22 (by decide)
  · exact absurd c2 (by decide)
set_option maxRecDepth 20000 in
set_option maxHeartbeats 1000000 in
theorem s_X5_formeOf3 {c : Nat → VC} {g : VG} {f vs as tx rw ll lt : Nat → Int32} {n tl th : Int32} (hR : RH c f vs as tx rw ll lt n tl th) {S : St} (hRp : RepA f S.1) {j : Nat} (hj : j < 3) : Cm k_X5_formeOf [.ref 456, .int (nI j), .int (nI 3)] (g, c) (Ei g (fun v c' => v = .int (foV S j 3) ∧ ∃ f' as', RH c' f' vs as' tx rw ll lt n tl th ∧ FrR c c' ∧ ∀ k, k < 1542 → f' k = f k)) := by
  obtain ⟨hO, hA, hS, hD, hX, hW, hL, hT⟩ := id hR
  refine Cm.in (M := M_X5_formeOf) (ls := [some (.ref 456), some (.int (nI j)), some (.int (nI 3)), none]) rfl rfl ?_
  refine x_iload_n dX5_formeOf_0 rfl ?_
  refine x_iconst (nI 4) dX5_formeOf_1 (by decide) ?_
  refine x_icmp_ne 21 dX5_formeOf_2 (by decide) (fun c2 => ?_) (fun c2 => ?_)
  · refine x_iload_n dX5_formeOf_21 rfl ?_
    refine x_if_ne 38 dX5_formeOf_22 (by decide) (fun c22 => ?_) (fun c22 => ?_)
    · refine x_aload_n dX5_formeOf_38 rfl ?_
      refine x_iload_n dX5_formeOf_39 rfl ?_
      refine x_iload_n dX5_formeOf_40 rfl ?_
      refine x_iconst (nI 1) dX5_formeOf_41 (by decide) ?_
      refine x_isubN dX5_formeOf_42 (by omega) ?_
      refine x_cv3 dX5_formeOf_43 rfl (by first | assumption | (simp (disch := omega) only [up_s, up_n]; first | assumption | rfl)) rfl ?_
      refine Cm.rt (s_X5_countOf_2 hO hA hj (hRp.2.1 j hj)) ?_
      refine x_ireturn dX5_formeOf_46 ?_
      exact ⟨_, c, rfl, rfl, rfl, f, as, hR, FrR.rf, fun k _ => rfl⟩
    · exact absurd c22 (by decide)
  · exact absurd c2 (by decide)
theorem s_X5_formeOf {c : Nat → VC} {g : VG} {f vs as tx rw ll lt : Nat → Int32} {n tl th : Int32} (hR : RH c f vs as tx rw ll lt n tl th) {S : St} (hRp : RepA f S.1) {j : Nat} (hj : j < 3) {k : Nat} (hk : k < 5) : Cm k_X5_formeOf [.ref 456, .int (nI j), .int (nI k)] (g, c) (Ei g (fun v c' => v = .int (foV S j k) ∧ ∃ f' as', RH c' f' vs as' tx rw ll lt n tl th ∧ FrR c c' ∧ ∀ k, k < 1542 → f' k = f k)) := by
  rcases (show k = 0 ∨ k = 1 ∨ k = 2 ∨ k = 3 ∨ k = 4 by omega) with rfl | rfl | rfl | rfl | rfl
  · exact s_X5_formeOf0 hR hRp hj
  · exact s_X5_formeOf1 hR hRp hj
  · exact s_X5_formeOf2 hR hRp hj
  · exact s_X5_formeOf3 hR hRp hj
  · exact s_X5_formeOf4 hR hRp hj
set_option maxRecDepth 20000 in
set_option maxHeartbeats 2000000 in
theorem s_X5_forme {c : Nat → VC} {g : VG} {S : St} {th : Int32} (h : RefAt c S th) {l w : Int32} : Cm k_X5_forme [.ref 456, .int l, .int w] (g, c) (RQ g c (id) (formeM l w S).1 (formeM l w S).2) := by
  obtain ⟨f, vs, as, tx, rw, ll, lt, hR, hRp, hH, hX0⟩ := h
  obtain ⟨hO, hA, hS, hD, hX, hW, hL, hT⟩ := id hR
  obtain ⟨u1, u2, u3, u4, u5⟩ := hRp.2.2.2
  cases e1 : ix l 3 with
  | none =>
    have hM : formeM l w S = (Sum.inr 1, S) := by simp only [formeM, e1]
    rw [hM]
    refine Cm.in (M := M_X5_forme) (ls := [some (.ref 456), some (.int l), some (.int w)]) rfl rfl ?_
    refine x_iload_n dX5_forme_0 rfl ?_
    refine x_cs1 dX5_forme_1 rfl ?_
    refine Cm.rt s_X5_isForme ?_
    rw [e1]
    refine x_if_ne 13 dX5_forme_4 (by decide) (fun c4 => ?_) (fun c4 => ?_)
    · exact absurd rfl c4
    · refine x_aload_n dX5_forme_7 rfl ?_
      refine x_iconst (nI 1) dX5_forme_8 (by decide) ?_
      refine x_cv2 dX5_forme_9 rfl (by first | assumption | (simp (disch := omega) only [up_s, up_n]; first | assumption | rfl)) rfl ?_
      refine Cm.ei (s_X5_throwing hR) (fun w c9 q9 => ?_)
      obtain ⟨rfl, w1, w2⟩ := q9
      refine x_ireturn dX5_forme_12 ?_
      exact ⟨_, c9, 1, rfl, rfl, ⟨f, vs, as, tx, rw, ll, lt, w1, hRp, hH, hX0⟩, w2, rfl, rfl⟩
  | some j =>
    obtain ⟨hj, rfl⟩ := ix_some (by omega) e1
    cases e2 : rg w 0 4 with
    | none =>
      have hM : formeM (nI j) w S = (Sum.inr 2, S) := by simp only [formeM, e1, e2]
      rw [hM]
      refine Cm.in (M := M_X5_forme) (ls := [some (.ref 456), some (.int (nI j)), some (.int w)]) rfl rfl ?_
      refine x_iload_n dX5_forme_0 rfl ?_
      refine x_cs1 dX5_forme_1 rfl ?_
      refine Cm.rt s_X5_isForme ?_
      rw [e1]
      refine x_if_ne 13 dX5_forme_4 (by decide) (fun c4 => ?_) (fun c4 => ?_)
      · refine x_iload_n dX5_forme_13 rfl ?_
        refine x_i2l dX5_forme_14 ?_
        refine x_lconst (0) dX5_forme_15 (by decide) ?_
        refine x_ldc2_w dX5_forme_16 rfl ?_
        refine x_cs3 dX5_forme_19 rfl ?_
        refine Cm.rt s_X5_in ?_
        rw [in_rg (a := 0) (b := 4) (by omega) (by omega) (by decide) (by decide), e2]
        refine x_if_eq 38 dX5_forme_22 (by decide) (fun c22 => ?_) (fun c22 => ?_)
        · refine x_aload_n dX5_forme_38 rfl ?_
          refine x_iconst (nI 2) dX5_forme_39 (by decide) ?_
          refine x_cv2 dX5_forme_40 rfl (by first | assumption | (simp (disch := omega) only [up_s, up_n]; first | assumption | rfl)) rfl ?_
          refine Cm.ei (s_X5_throwing hR) (fun w c9 q9 => ?_)
          obtain ⟨rfl, w1, w2⟩ := q9
          refine x_ireturn dX5_forme_43 ?_
          exact ⟨_, c9, 2, rfl, rfl, ⟨f, vs, as, tx, rw, ll, lt, w1, hRp, hH, hX0⟩, w2, rfl, rfl⟩
        · exact absurd rfl c22
      · exact absurd (show bV true = 0 from c4) (by decide)
    | some n =>
      obtain ⟨hn1, hn2, rfl⟩ := rg_some (by omega) (by omega) e2
      have hM : formeM (nI j) (nI n) S = (Sum.inl (.int (foV S j n)), S) := by simp only [formeM, e1, e2]
      rw [hM]
      refine Cm.in (M := M_X5_forme) (ls := [some (.ref 456), some (.int (nI j)), some (.int (nI n))]) rfl rfl ?_
      refine x_iload_n dX5_forme_0 rfl ?_
      refine x_cs1 dX5_forme_1 rfl ?_
      refine Cm.rt s_X5_isForme ?_
      rw [e1]
      refine x_if_ne 13 dX5_forme_4 (by decide) (fun c4 => ?_) (fun c4 => ?_)
      · refine x_iload_n dX5_forme_13 rfl ?_
        refine x_i2l dX5_forme_14 ?_
        refine x_lconst (0) dX5_forme_15 (by decide) ?_
        refine x_ldc2_w dX5_forme_16 rfl ?_
        refine x_cs3 dX5_forme_19 rfl ?_
        refine Cm.rt s_X5_in ?_
        rw [in_rg (a := 0) (b := 4) (by omega) (by omega) (by decide) (by decide), e2]
        refine x_if_eq 38 dX5_forme_22 (by decide) (fun c22 => ?_) (fun c22 => ?_)
        · exact absurd (show bV true = 0 from c22) (by decide)
        · refine x_aload_n dX5_forme_25 rfl ?_
          refine x_aload_n dX5_forme_26 rfl ?_
          refine x_iload_n dX5_forme_27 rfl ?_
          refine x_iload_n dX5_forme_28 rfl ?_
          refine x_cv3 dX5_forme_29 rfl (by first | assumption | (simp (disch := omega) only [up_s, up_n]; first | assumption | rfl)) rfl ?_
          refine Cm.ei (s_X5_formeOf hR hRp hj (by omega)) (fun v c2 q2 => ?_)
          obtain ⟨rfl, f2, a2, hR2, hF2, hf2⟩ := q2
          obtain ⟨hO2, hA2, hS2, hD2, hX2, hW2, hL2, hT2⟩ := id hR2
          refine x_cv2 dX5_forme_32 rfl (by first | assumption | (simp (disch := omega) only [up_s, up_n]; first | assumption | rfl)) rfl ?_
          refine Cm.ei (s_X5_fine hR2) (fun w c9 q9 => ?_)
          obtain ⟨rfl, w1, w2⟩ := q9
          refine x_goto 43 dX5_forme_35 (by decide) ?_
          refine x_ireturn dX5_forme_43 ?_
          exact ⟨_, c9, 0, rfl, rfl, ⟨f2, vs, a2, tx, rw, ll, lt, w1, hRp.fr hf2, hH, hX0⟩, hF2.tr w2, rfl, rfl⟩
      · exact absurd (show bV true = 0 from c4) (by decide)
set_option maxRecDepth 20000 in
set_option maxHeartbeats 1000000 in
theorem s_X5_isLine_x {c : Nat → VC} {g : VG} {f vs as tx rw ll lt : Nat → Int32} {n tl th : Int32} (hR : RH c f vs as tx rw ll lt n tl th) {l i : Int32} (e1 : ix l 3 = none) : Cm k_X5_isLine [.ref 456, .int l, .int i] (g, c) (Rt (.int (bV false)) (g, c)) := by
  obtain ⟨hO, hA, hS, hD, hX, hW, hL, hT⟩ := id hR
  refine Cm.in (M := M_X5_isLine) (ls := [some (.ref 456), some (.int l), some (.int i)]) rfl rfl ?_
  refine x_iload_n dX5_isLine_0 rfl ?_
  refine x_cs1 dX5_isLine_1 rfl ?_
  refine Cm.rt s_X5_isForme ?_
  rw [e1]
  refine x_if_eq 33 dX5_isLine_4 (by decide) (fun c4 => ?_) (fun c4 => ?_)
  · refine x_iconst (nI 0) dX5_isLine_33 (by decide) ?_
    refine x_ireturn dX5_isLine_34 ?_
    exact ⟨rfl, rfl⟩
  · exact absurd rfl c4
set_option maxRecDepth 20000 in
set_option maxHeartbeats 1000000 in
theorem s_X5_isLine {c : Nat → VC} {g : VG} {f vs as tx rw ll lt : Nat → Int32} {n tl th : Int32} (hR : RH c f vs as tx rw ll lt n tl th) {j : Nat} {i : Int32} {L : List (List Pl)} (hj : j < 3) (hLj : ForR f j L) : Cm k_X5_isLine [.ref 456, .int (nI j), .int i] (g, c) (Rt (.int (bV (ix i L.length).isSome)) (g, c)) := by
  obtain ⟨hO, hA, hS, hD, hX, hW, hL, hT⟩ := id hR
  have e1 : ix (nI j) 3 = some j := ix_nI (by omega) hj
  have h5 := hLj.2.1.1
  have hm := hLj.1
  refine Cm.in (M := M_X5_isLine) (ls := [some (.ref 456), some (.int (nI j)), some (.int i)]) rfl rfl ?_
  refine x_iload_n dX5_isLine_0 rfl ?_
  refine x_cs1 dX5_isLine_1 rfl ?_
  refine Cm.rt s_X5_isForme ?_
  rw [e1]
  refine x_if_eq 33 dX5_isLine_4 (by decide) (fun c4 => ?_) (fun c4 => ?_)
  · exact absurd (show bV true = 0 from c4) (by decide)
  · refine x_iload_n dX5_isLine_7 rfl ?_
    refine x_i2l dX5_isLine_8 ?_
    refine x_lconst (0) dX5_isLine_9 (by decide) ?_
    refine x_aload_n dX5_isLine_10 rfl ?_
    refine x_getfield dX5_isLine_11 rfl (by decide) (by first | assumption | (simp (disch := omega) only [up_s, up_n]; first | assumption | rfl)) rfl ?_
    refine x_sipush (nI 1262) dX5_isLine_14 (by decide) ?_
    refine x_iload_n dX5_isLine_17 rfl ?_
    refine x_iaddN dX5_isLine_18 ?_
    refine x_ialoadN dX5_isLine_19 (by first | assumption | (simp (disch := omega) only [up_s, up_n]; first | assumption | rfl)) (by omega) (by omega) ?_
    rw [hm]
    refine x_i2lN dX5_isLine_20 (by omega) ?_
    refine x_lconst (1) dX5_isLine_21 (by decide) ?_
    refine x_lsub dX5_isLine_22 ?_
    refine x_cs3 dX5_isLine_23 rfl ?_
    refine Cm.rt s_X5_in ?_
    rw [in_ix0 (n := L.length) (by omega) (by decide) (lN_pred (by omega))]
    refine x_if_eq 33 dX5_isLine_26 (by decide) (fun c26 => ?_) (fun c26 => ?_)
    · have e2 := bV_eq c26
      refine x_iconst (nI 0) dX5_isLine_33 (by decide) ?_
      refine x_ireturn dX5_isLine_34 ?_
      exact ⟨by rw [e2]; rfl, rfl⟩
    · have e2 := bV_ne c26
      refine x_iconst (nI 1) dX5_isLine_29 (by decide) ?_
      refine x_goto 34 dX5_isLine_30 (by decide) ?_
      refine x_ireturn dX5_isLine_34 ?_
      exact ⟨by rw [e2]; rfl, rfl⟩
set_option maxRecDepth 20000 in
set_option maxHeartbeats 2000000 in
theorem s_X5_places {c : Nat → VC} {g : VG} {S : St} {th : Int32} (h : RefAt c S th) {l i : Int32} : Cm k_X5_places [.ref 456, .int l, .int i] (g, c) (RQ g c (id) (placesM l i S).1 (placesM l i S).2) := by
  obtain ⟨f, vs, as, tx, rw, ll, lt, hR, hRp, hH, hX0⟩ := h
  obtain ⟨hO, hA, hS, hD, hX, hW, hL, hT⟩ := id hR
  obtain ⟨u1, u2, u3, u4, u5⟩ := hRp.2.2.2
  cases e1 : ix l 3 with
  | none =>
    have hM : placesM l i S = (Sum.inr 1, S) := by simp only [placesM, e1]
    rw [hM]
    refine Cm.in (M := M_X5_places) (ls := [some (.ref 456), some (.int l), some (.int i)]) rfl rfl ?_
    refine x_aload_n dX5_places_0 rfl ?_
    refine x_iload_n dX5_places_1 rfl ?_
    refine x_iload_n dX5_places_2 rfl ?_
    refine x_cv3 dX5_places_3 rfl (by first | assumption | (simp (disch := omega) only [up_s, up_n]; first | assumption | rfl)) rfl ?_
    refine Cm.rt (s_X5_isLine_x hR e1) ?_
    refine x_if_eq 22 dX5_places_6 (by decide) (fun c6 => ?_) (fun c6 => ?_)
    · refine x_aload_n dX5_places_22 rfl ?_
      refine x_iconst (nI 1) dX5_places_23 (by decide) ?_
      refine x_cv2 dX5_places_24 rfl (by first | assumption | (simp (disch := omega) only [up_s, up_n]; first | assumption | rfl)) rfl ?_
      refine Cm.ei (s_X5_throwing hR) (fun w c9 q9 => ?_)
      obtain ⟨rfl, w1, w2⟩ := q9
      refine x_ireturn dX5_places_27 ?_
      exact ⟨_, c9, 1, rfl, rfl, ⟨f, vs, as, tx, rw, ll, lt, w1, hRp, hH, hX0⟩, w2, rfl, rfl⟩
    · exact absurd rfl c6
  | some j =>
    obtain ⟨hj, rfl⟩ := ix_some (by omega) e1
    have hLj := hRp.2.1 j hj
    have h5 := hLj.2.1.1
    cases e2 : ix i (S.1.2.1 j).length with
    | none =>
      have hM : placesM (nI j) i S = (Sum.inr 1, S) := by simp only [placesM, e1, e2]
      rw [hM]
      refine Cm.in (M := M_X5_places) (ls := [some (.ref 456), some (.int (nI j)), some (.int i)]) rfl rfl ?_
      refine x_aload_n dX5_places_0 rfl ?_
      refine x_iload_n dX5_places_1 rfl ?_
      refine x_iload_n dX5_places_2 rfl ?_
      refine x_cv3 dX5_places_3 rfl (by first | assumption | (simp (disch := omega) only [up_s, up_n]; first | assumption | rfl)) rfl ?_
      refine Cm.rt (s_X5_isLine hR hj hLj) ?_
      rw [e2]
      refine x_if_eq 22 dX5_places_6 (by decide) (fun c6 => ?_) (fun c6 => ?_)
      · refine x_aload_n dX5_places_22 rfl ?_
        refine x_iconst (nI 1) dX5_places_23 (by decide) ?_
        refine x_cv2 dX5_places_24 rfl (by first | assumption | (simp (disch := omega) only [up_s, up_n]; first | assumption | rfl)) rfl ?_
        refine Cm.ei (s_X5_throwing hR) (fun w c9 q9 => ?_)
        obtain ⟨rfl, w1, w2⟩ := q9
        refine x_ireturn dX5_places_27 ?_
        exact ⟨_, c9, 1, rfl, rfl, ⟨f, vs, as, tx, rw, ll, lt, w1, hRp, hH, hX0⟩, w2, rfl, rfl⟩
      · exact absurd rfl c6
    | some m =>
      obtain ⟨hm, rfl⟩ := ix_some (by omega) e2
      have hM : placesM (nI j) (nI m) S = (Sum.inl (.int (nI ((S.1.2.1 j).getD m []).length)), S) := by simp only [placesM, e1, e2]
      rw [hM]
      have hgd : (S.1.2.1 j).getD m [] = (S.1.2.1 j)[m] := by rw [List.getD_eq_getElem?_getD, List.getElem?_eq_getElem hm]; rfl
      rw [hgd]
      refine Cm.in (M := M_X5_places) (ls := [some (.ref 456), some (.int (nI j)), some (.int (nI m))]) rfl rfl ?_
      refine x_aload_n dX5_places_0 rfl ?_
      refine x_iload_n dX5_places_1 rfl ?_
      refine x_iload_n dX5_places_2 rfl ?_
      refine x_cv3 dX5_places_3 rfl (by first | assumption | (simp (disch := omega) only [up_s, up_n]; first | assumption | rfl)) rfl ?_
      refine Cm.rt (s_X5_isLine hR hj hLj) ?_
      rw [e2]
      refine x_if_eq 22 dX5_places_6 (by decide) (fun c6 => ?_) (fun c6 => ?_)
      · exact absurd (show bV true = 0 from c6) (by decide)
      · refine x_aload_n dX5_places_9 rfl ?_
        refine x_aload_n dX5_places_10 rfl ?_
        refine x_iload_n dX5_places_11 rfl ?_
        refine x_iload_n dX5_places_12 rfl ?_
        refine x_cv3 dX5_places_13 rfl (by first | assumption | (simp (disch := omega) only [up_s, up_n]; first | assumption | rfl)) rfl ?_
        refine Cm.rt (s_X5_places0 hO hA hj hLj hm) ?_
        refine x_cv2 dX5_places_16 rfl (by first | assumption | (simp (disch := omega) only [up_s, up_n]; first | assumption | rfl)) rfl ?_
        refine Cm.ei (s_X5_fine hR) (fun w c9 q9 => ?_)
        obtain ⟨rfl, w1, w2⟩ := q9
        refine x_goto 27 dX5_places_19 (by decide) ?_
        refine x_ireturn dX5_places_27 ?_
        exact ⟨_, c9, 0, rfl, rfl, ⟨f, vs, as, tx, rw, ll, lt, w1, hRp, hH, hX0⟩, w2, rfl, rfl⟩
set_option maxRecDepth 20000 in
set_option maxHeartbeats 1000000 in
theorem s_X5_placeOf0 {c : Nat → VC} {g : VG} {f vs as tx rw ll lt : Nat → Int32} {n tl th : Int32} (hR : RH c f vs as tx rw ll lt n tl th) {j : Nat} {L : List (List Pl)} (hj : j < 3) (hLj : ForR f j L) {i p : Nat} (hi : i < L.length) (hp : p < L[i].length) : Cm k_X5_placeOf [.ref 456, .int (nI j), .int (nI i), .int (nI p), .int (nI 0)] (g, c) (Rt (.int (nI (abt L[i][p] 0))) (g, c)) := by
  obtain ⟨hO, hA, hS, hD, hX, hW, hL, hT⟩ := id hR
  refine Cm.in (M := M_X5_placeOf) (ls := [some (.ref 456), some (.int (nI j)), some (.int (nI i)), some (.int (nI p)), some (.int (nI 0))]) rfl rfl ?_
  refine x_iload dX5_placeOf_0 rfl ?_
  refine x_iconst (nI 3) dX5_placeOf_2 (by decide) ?_
  refine x_icmp_ge 18 dX5_placeOf_3 (by decide) (fun c3 => ?_) (fun c3 => ?_)
  · exact absurd c3 (by decide)
  · refine x_aload_n dX5_placeOf_6 rfl ?_
    refine x_iload_n dX5_placeOf_7 rfl ?_
    refine x_iload_n dX5_placeOf_8 rfl ?_
    refine x_iload_n dX5_placeOf_9 rfl ?_
    refine x_iload dX5_placeOf_10 rfl ?_
    refine x_cv5 dX5_placeOf_12 rfl (by first | assumption | (simp (disch := omega) only [up_s, up_n]; first | assumption | rfl)) rfl ?_
    refine Cm.rt (s_X5_of0 hO hA hj hLj hi hp) ?_
    refine x_goto 33 dX5_placeOf_15 (by decide) ?_
    refine x_ireturn dX5_placeOf_33 ?_
    exact ⟨rfl, rfl⟩
set_option maxRecDepth 20000 in
set_option maxHeartbeats 1000000 in
theorem s_X5_placeOf1 {c : Nat → VC} {g : VG} {f vs as tx rw ll lt : Nat → Int32} {n tl th : Int32} (hR : RH c f vs as tx rw ll lt n tl th) {j : Nat} {L : List (List Pl)} (hj : j < 3) (hLj : ForR f j L) {i p : Nat} (hi : i < L.length) (hp : p < L[i].length) : Cm k_X5_placeOf [.ref 456, .int (nI j), .int (nI i), .int (nI p), .int (nI 1)] (g, c) (Rt (.int (nI (abt L[i][p] 1))) (g, c)) := by
  obtain ⟨hO, hA, hS, hD, hX, hW, hL, hT⟩ := id hR
  refine Cm.in (M := M_X5_placeOf) (ls := [some (.ref 456), some (.int (nI j)), some (.int (nI i)), some (.int (nI p)), some (.int (nI 1))]) rfl rfl ?_
  refine x_iload dX5_placeOf_0 rfl ?_
  refine x_iconst (nI 3) dX5_placeOf_2 (by decide) ?_
  refine x_icmp_ge 18 dX5_placeOf_3 (by decide) (fun c3 => ?_) (fun c3 => ?_)
  · exact absurd c3 (by decide)
  · refine x_aload_n dX5_placeOf_6 rfl ?_
    refine x_iload_n dX5_placeOf_7 rfl ?_
    refine x_iload_n dX5_placeOf_8 rfl ?_
    refine x_iload_n dX5_placeOf_9 rfl ?_
    refine x_iload dX5_placeOf_10 rfl ?_
    refine x_cv5 dX5_placeOf_12 rfl (by first | assumption | (simp (disch := omega) only [up_s, up_n]; first | assumption | rfl)) rfl ?_
    refine Cm.rt (s_X5_of1 hO hA hj hLj hi hp) ?_
    refine x_goto 33 dX5_placeOf_15 (by decide) ?_
    refine x_ireturn dX5_placeOf_33 ?_
    exact ⟨rfl, rfl⟩
set_option maxRecDepth 20000 in
set_option maxHeartbeats 1000000 in
theorem s_X5_placeOf2 {c : Nat → VC} {g : VG} {f vs as tx rw ll lt : Nat → Int32} {n tl th : Int32} (hR : RH c f vs as tx rw ll lt n tl th) {j : Nat} {L : List (List Pl)} (hj : j < 3) (hLj : ForR f j L) {i p : Nat} (hi : i < L.length) (hp : p < L[i].length) : Cm k_X5_placeOf [.ref 456, .int (nI j), .int (nI i), .int (nI p), .int (nI 2)] (g, c) (Rt (.int (nI (abt L[i][p] 2))) (g, c)) := by
  obtain ⟨hO, hA, hS, hD, hX, hW, hL, hT⟩ := id hR
  refine Cm.in (M := M_X5_placeOf) (ls := [some (.ref 456), some (.int (nI j)), some (.int (nI i)), some (.int (nI p)), some (.int (nI 2))]) rfl rfl ?_
  refine x_iload dX5_placeOf_0 rfl ?_
  refine x_iconst (nI 3) dX5_placeOf_2 (by decide) ?_
  refine x_icmp_ge 18 dX5_placeOf_3 (by decide) (fun c3 => ?_) (fun c3 => ?_)
  · exact absurd c3 (by decide)
  · refine x_aload_n dX5_placeOf_6 rfl ?_
    refine x_iload_n dX5_placeOf_7 rfl ?_
    refine x_iload_n dX5_placeOf_8 rfl ?_
    refine x_iload_n dX5_placeOf_9 rfl ?_
    refine x_iload dX5_placeOf_10 rfl ?_
    refine x_cv5 dX5_placeOf_12 rfl (by first | assumption | (simp (disch := omega) only [up_s, up_n]; first | assumption | rfl)) rfl ?_
    refine Cm.rt (s_X5_of2 hO hA hj hLj hi hp) ?_
    refine x_goto 33 dX5_placeOf_15 (by decide) ?_
    refine x_ireturn dX5_placeOf_33 ?_
    exact ⟨rfl, rfl⟩
set_option maxRecDepth 20000 in
set_option maxHeartbeats 1000000 in
theorem s_X5_placeOf3 {c : Nat → VC} {g : VG} {f vs as tx rw ll lt : Nat → Int32} {n tl th : Int32} (hR : RH c f vs as tx rw ll lt n tl th) {j : Nat} {L : List (List Pl)} (hj : j < 3) (hLj : ForR f j L) {i p : Nat} (hi : i < L.length) (hp : p < L[i].length) : Cm k_X5_placeOf [.ref 456, .int (nI j), .int (nI i), .int (nI p), .int (nI 3)] (g, c) (Rt (.int (nI (abt L[i][p] 3))) (g, c)) := by
  obtain ⟨hO, hA, hS, hD, hX, hW, hL, hT⟩ := id hR
  refine Cm.in (M := M_X5_placeOf) (ls := [some (.ref 456), some (.int (nI j)), some (.int (nI i)), some (.int (nI p)), some (.int (nI 3))]) rfl rfl ?_
  refine x_iload dX5_placeOf_0 rfl ?_
  refine x_iconst (nI 3) dX5_placeOf_2 (by decide) ?_
  refine x_icmp_ge 18 dX5_placeOf_3 (by decide) (fun c3 => ?_) (fun c3 => ?_)
  · refine x_aload_n dX5_placeOf_18 rfl ?_
    refine x_iload_n dX5_placeOf_19 rfl ?_
    refine x_iload_n dX5_placeOf_20 rfl ?_
    refine x_iload_n dX5_placeOf_21 rfl ?_
    refine x_cv4 dX5_placeOf_22 rfl (by first | assumption | (simp (disch := omega) only [up_s, up_n]; first | assumption | rfl)) rfl ?_
    refine Cm.rt (s_X5_isWrong hO hA hj hLj hi hp) ?_
    refine x_if_eq 32 dX5_placeOf_25 (by decide) (fun c25 => ?_) (fun c25 => ?_)
    · have e2 := bV_eq c25
      refine x_iconst (nI 0) dX5_placeOf_32 (by decide) ?_
      refine x_ireturn dX5_placeOf_33 ?_
      exact ⟨by simp [abt, e2], rfl⟩
    · have e2 := bV_ne c25
      refine x_iconst (nI 1) dX5_placeOf_28 (by decide) ?_
      refine x_goto 33 dX5_placeOf_29 (by decide) ?_
      refine x_ireturn dX5_placeOf_33 ?_
      exact ⟨by simp [abt, e2], rfl⟩
  · exact absurd (by decide) c3
theorem s_X5_placeOf {c : Nat → VC} {g : VG} {f vs as tx rw ll lt : Nat → Int32} {n tl th : Int32} (hR : RH c f vs as tx rw ll lt n tl th) {j : Nat} {L : List (List Pl)} (hj : j < 3) (hLj : ForR f j L) {i p : Nat} (hi : i < L.length) (hp : p < L[i].length) {k : Nat} (hk : k < 4) : Cm k_X5_placeOf [.ref 456, .int (nI j), .int (nI i), .int (nI p), .int (nI k)] (g, c) (Rt (.int (nI (abt L[i][p] k))) (g, c)) := by
  rcases (show k = 0 ∨ k = 1 ∨ k = 2 ∨ k = 3 by omega) with rfl | rfl | rfl | rfl
  · exact s_X5_placeOf0 hR hj hLj hi hp
  · exact s_X5_placeOf1 hR hj hLj hi hp
  · exact s_X5_placeOf2 hR hj hLj hi hp
  · exact s_X5_placeOf3 hR hj hLj hi hp
set_option maxRecDepth 20000 in
set_option maxHeartbeats 2000000 in
theorem s_X5_place {c : Nat → VC} {g : VG} {S : St} {th : Int32} (h : RefAt c S th) {l i p w : Int32} : Cm k_X5_place [.ref 456, .int l, .int i, .int p, .int w] (g, c) (RQ g c (id) (placeM l i p w S).1 (placeM l i p w S).2) := by
  obtain ⟨f, vs, as, tx, rw, ll, lt, hR, hRp, hH, hX0⟩ := h
  obtain ⟨hO, hA, hS, hD, hX, hW, hL, hT⟩ := id hR
  obtain ⟨u1, u2, u3, u4, u5⟩ := hRp.2.2.2
  cases e1 : ix l 3 with
  | none =>
    have hM : placeM l i p w S = (Sum.inr 1, S) := by simp only [placeM, e1]
    rw [hM]
    refine Cm.in (M := M_X5_place) (ls := [some (.ref 456), some (.int l), some (.int i), some (.int p), some (.int w)]) rfl rfl ?_
    refine x_aload_n dX5_place_0 rfl ?_
    refine x_iload_n dX5_place_1 rfl ?_
    refine x_iload_n dX5_place_2 rfl ?_
    refine x_cv3 dX5_place_3 rfl (by first | assumption | (simp (disch := omega) only [up_s, up_n]; first | assumption | rfl)) rfl ?_
    refine Cm.rt (s_X5_isLine_x hR e1) ?_
    refine x_if_eq 27 dX5_place_6 (by decide) (fun c6 => ?_) (fun c6 => ?_)
    · refine x_aload_n dX5_place_27 rfl ?_
      refine x_iconst (nI 1) dX5_place_28 (by decide) ?_
      refine x_cv2 dX5_place_29 rfl (by first | assumption | (simp (disch := omega) only [up_s, up_n]; first | assumption | rfl)) rfl ?_
      refine Cm.ei (s_X5_throwing hR) (fun w c9 q9 => ?_)
      obtain ⟨rfl, w1, w2⟩ := q9
      refine x_ireturn dX5_place_32 ?_
      exact ⟨_, c9, 1, rfl, rfl, ⟨f, vs, as, tx, rw, ll, lt, w1, hRp, hH, hX0⟩, w2, rfl, rfl⟩
    · exact absurd rfl c6
  | some j =>
    obtain ⟨hj, rfl⟩ := ix_some (by omega) e1
    have hLj := hRp.2.1 j hj
    have h5 := hLj.2.1.1
    cases e2 : ix i (S.1.2.1 j).length with
    | none =>
      have hM : placeM (nI j) i p w S = (Sum.inr 1, S) := by simp only [placeM, e1, e2]
      rw [hM]
      refine Cm.in (M := M_X5_place) (ls := [some (.ref 456), some (.int (nI j)), some (.int i), some (.int p), some (.int w)]) rfl rfl ?_
      refine x_aload_n dX5_place_0 rfl ?_
      refine x_iload_n dX5_place_1 rfl ?_
      refine x_iload_n dX5_place_2 rfl ?_
      refine x_cv3 dX5_place_3 rfl (by first | assumption | (simp (disch := omega) only [up_s, up_n]; first | assumption | rfl)) rfl ?_
      refine Cm.rt (s_X5_isLine hR hj hLj) ?_
      rw [e2]
      refine x_if_eq 27 dX5_place_6 (by decide) (fun c6 => ?_) (fun c6 => ?_)
      · refine x_aload_n dX5_place_27 rfl ?_
        refine x_iconst (nI 1) dX5_place_28 (by decide) ?_
        refine x_cv2 dX5_place_29 rfl (by first | assumption | (simp (disch := omega) only [up_s, up_n]; first | assumption | rfl)) rfl ?_
        refine Cm.ei (s_X5_throwing hR) (fun w c9 q9 => ?_)
        obtain ⟨rfl, w1, w2⟩ := q9
        refine x_ireturn dX5_place_32 ?_
        exact ⟨_, c9, 1, rfl, rfl, ⟨f, vs, as, tx, rw, ll, lt, w1, hRp, hH, hX0⟩, w2, rfl, rfl⟩
      · exact absurd rfl c6
    | some m =>
      obtain ⟨hm, rfl⟩ := ix_some (by omega) e2
      have hln := (hLj.2.1.2 _ (List.getElem_mem hm)).2
      have hgd : (S.1.2.1 j).getD m [] = (S.1.2.1 j)[m] := by rw [List.getD_eq_getElem?_getD, List.getElem?_eq_getElem hm]; rfl
      cases e3 : ix p ((S.1.2.1 j).getD m []).length with
      | none =>
        have hM : placeM (nI j) (nI m) p w S = (Sum.inr 1, S) := by simp only [placeM, e1, e2, e3]
        rw [hM]
        rw [hgd] at e3
        refine Cm.in (M := M_X5_place) (ls := [some (.ref 456), some (.int (nI j)), some (.int (nI m)), some (.int p), some (.int w)]) rfl rfl ?_
        refine x_aload_n dX5_place_0 rfl ?_
        refine x_iload_n dX5_place_1 rfl ?_
        refine x_iload_n dX5_place_2 rfl ?_
        refine x_cv3 dX5_place_3 rfl (by first | assumption | (simp (disch := omega) only [up_s, up_n]; first | assumption | rfl)) rfl ?_
        refine Cm.rt (s_X5_isLine hR hj hLj) ?_
        rw [e2]
        refine x_if_eq 27 dX5_place_6 (by decide) (fun c6 => ?_) (fun c6 => ?_)
        · exact absurd (show bV true = 0 from c6) (by decide)
        · refine x_iload_n dX5_place_9 rfl ?_
          refine x_i2l dX5_place_10 ?_
          refine x_lconst (0) dX5_place_11 (by decide) ?_
          refine x_aload_n dX5_place_12 rfl ?_
          refine x_iload_n dX5_place_13 rfl ?_
          refine x_iload_n dX5_place_14 rfl ?_
          refine x_cv3 dX5_place_15 rfl (by first | assumption | (simp (disch := omega) only [up_s, up_n]; first | assumption | rfl)) rfl ?_
          refine Cm.rt (s_X5_places0 hO hA hj hLj hm) ?_
          refine x_i2lN dX5_place_18 (by omega) ?_
          refine x_lconst (1) dX5_place_19 (by decide) ?_
          refine x_lsub dX5_place_20 ?_
          refine x_cs3 dX5_place_21 rfl ?_
          refine Cm.rt s_X5_in ?_
          rw [in_ix0 (n := ((S.1.2.1 j)[m]).length) (by omega) (by decide) (lN_pred (by omega)), e3]
          refine x_if_ne 33 dX5_place_24 (by decide) (fun c24 => ?_) (fun c24 => ?_)
          · exact absurd rfl c24
          · refine x_aload_n dX5_place_27 rfl ?_
            refine x_iconst (nI 1) dX5_place_28 (by decide) ?_
            refine x_cv2 dX5_place_29 rfl (by first | assumption | (simp (disch := omega) only [up_s, up_n]; first | assumption | rfl)) rfl ?_
            refine Cm.ei (s_X5_throwing hR) (fun w c9 q9 => ?_)
            obtain ⟨rfl, w1, w2⟩ := q9
            refine x_ireturn dX5_place_32 ?_
            exact ⟨_, c9, 1, rfl, rfl, ⟨f, vs, as, tx, rw, ll, lt, w1, hRp, hH, hX0⟩, w2, rfl, rfl⟩
      | some q =>
        obtain ⟨hq, rfl⟩ := ix_some (by rw [hgd]; omega) e3
        have hq2 := hq
        rw [hgd] at hq2
        cases e4 : rg w 0 3 with
        | none =>
          have hM : placeM (nI j) (nI m) (nI q) w S = (Sum.inr 2, S) := by simp only [placeM, e1, e2, e3, e4]
          rw [hM]
          rw [hgd] at e3
          refine Cm.in (M := M_X5_place) (ls := [some (.ref 456), some (.int (nI j)), some (.int (nI m)), some (.int (nI q)), some (.int w)]) rfl rfl ?_
          refine x_aload_n dX5_place_0 rfl ?_
          refine x_iload_n dX5_place_1 rfl ?_
          refine x_iload_n dX5_place_2 rfl ?_
          refine x_cv3 dX5_place_3 rfl (by first | assumption | (simp (disch := omega) only [up_s, up_n]; first | assumption | rfl)) rfl ?_
          refine Cm.rt (s_X5_isLine hR hj hLj) ?_
          rw [e2]
          refine x_if_eq 27 dX5_place_6 (by decide) (fun c6 => ?_) (fun c6 => ?_)
          · exact absurd (show bV true = 0 from c6) (by decide)
          · refine x_iload_n dX5_place_9 rfl ?_
            refine x_i2l dX5_place_10 ?_
            refine x_lconst (0) dX5_place_11 (by decide) ?_
            refine x_aload_n dX5_place_12 rfl ?_
            refine x_iload_n dX5_place_13 rfl ?_
            refine x_iload_n dX5_place_14 rfl ?_
            refine x_cv3 dX5_place_15 rfl (by first | assumption | (simp (disch := omega) only [up_s, up_n]; first | assumption | rfl)) rfl ?_
            refine Cm.rt (s_X5_places0 hO hA hj hLj hm) ?_
            refine x_i2lN dX5_place_18 (by omega) ?_
            refine x_lconst (1) dX5_place_19 (by decide) ?_
            refine x_lsub dX5_place_20 ?_
            refine x_cs3 dX5_place_21 rfl ?_
            refine Cm.rt s_X5_in ?_
            rw [in_ix0 (n := ((S.1.2.1 j)[m]).length) (by omega) (by decide) (lN_pred (by omega)), e3]
            refine x_if_ne 33 dX5_place_24 (by decide) (fun c24 => ?_) (fun c24 => ?_)
            · refine x_iload dX5_place_33 rfl ?_
              refine x_i2l dX5_place_35 ?_
              refine x_lconst (0) dX5_place_36 (by decide) ?_
              refine x_ldc2_w dX5_place_37 rfl ?_
              refine x_cs3 dX5_place_40 rfl ?_
              refine Cm.rt s_X5_in ?_
              rw [in_rg (a := 0) (b := 3) (by omega) (by omega) (by decide) (by decide), e4]
              refine x_if_eq 62 dX5_place_43 (by decide) (fun c43 => ?_) (fun c43 => ?_)
              · refine x_aload_n dX5_place_62 rfl ?_
                refine x_iconst (nI 2) dX5_place_63 (by decide) ?_
                refine x_cv2 dX5_place_64 rfl (by first | assumption | (simp (disch := omega) only [up_s, up_n]; first | assumption | rfl)) rfl ?_
                refine Cm.ei (s_X5_throwing hR) (fun w c9 q9 => ?_)
                obtain ⟨rfl, w1, w2⟩ := q9
                refine x_ireturn dX5_place_67 ?_
                exact ⟨_, c9, 2, rfl, rfl, ⟨f, vs, as, tx, rw, ll, lt, w1, hRp, hH, hX0⟩, w2, rfl, rfl⟩
              · exact absurd rfl c43
            · exact absurd (show bV true = 0 from c24) (by decide)
        | some v =>
          obtain ⟨hv1, hv2, rfl⟩ := rg_some (by omega) (by omega) e4
          have hM : placeM (nI j) (nI m) (nI q) (nI v) S = (Sum.inl (.int (nI (abt (((S.1.2.1 j).getD m []).getD q (0, 0, 0)) v))), S) := by simp only [placeM, e1, e2, e3, e4]
          rw [hM]
          have hgd2 : ((S.1.2.1 j).getD m []).getD q (0, 0, 0) = (S.1.2.1 j)[m][q] := by rw [hgd, List.getD_eq_getElem?_getD, List.getElem?_eq_getElem hq2]; rfl
          rw [hgd2]
          rw [hgd] at e3
          refine Cm.in (M := M_X5_place) (ls := [some (.ref 456), some (.int (nI j)), some (.int (nI m)), some (.int (nI q)), some (.int (nI v))]) rfl rfl ?_
          refine x_aload_n dX5_place_0 rfl ?_
          refine x_iload_n dX5_place_1 rfl ?_
          refine x_iload_n dX5_place_2 rfl ?_
          refine x_cv3 dX5_place_3 rfl (by first | assumption | (simp (disch := omega) only [up_s, up_n]; first | assumption | rfl)) rfl ?_
          refine Cm.rt (s_X5_isLine hR hj hLj) ?_
          rw [e2]
          refine x_if_eq 27 dX5_place_6 (by decide) (fun c6 => ?_) (fun c6 => ?_)
          · exact absurd (show bV true = 0 from c6) (by decide)
          · refine x_iload_n dX5_place_9 rfl ?_
            refine x_i2l dX5_place_10 ?_
            refine x_lconst (0) dX5_place_11 (by decide) ?_
            refine x_aload_n dX5_place_12 rfl ?_
            refine x_iload_n dX5_place_13 rfl ?_
            refine x_iload_n dX5_place_14 rfl ?_
            refine x_cv3 dX5_place_15 rfl (by first | assumption | (simp (disch := omega) only [up_s, up_n]; first | assumption | rfl)) rfl ?_
            refine Cm.rt (s_X5_places0 hO hA hj hLj hm) ?_
            refine x_i2lN dX5_place_18 (by omega) ?_
            refine x_lconst (1) dX5_place_19 (by decide) ?_
            refine x_lsub dX5_place_20 ?_
            refine x_cs3 dX5_place_21 rfl ?_
            refine Cm.rt s_X5_in ?_
            rw [in_ix0 (n := ((S.1.2.1 j)[m]).length) (by omega) (by decide) (lN_pred (by omega)), e3]
            refine x_if_ne 33 dX5_place_24 (by decide) (fun c24 => ?_) (fun c24 => ?_)
            · refine x_iload dX5_place_33 rfl ?_
              refine x_i2l dX5_place_35 ?_
              refine x_lconst (0) dX5_place_36 (by decide) ?_
              refine x_ldc2_w dX5_place_37 rfl ?_
              refine x_cs3 dX5_place_40 rfl ?_
              refine Cm.rt s_X5_in ?_
              rw [in_rg (a := 0) (b := 3) (by omega) (by omega) (by decide) (by decide), e4]
              refine x_if_eq 62 dX5_place_43 (by decide) (fun c43 => ?_) (fun c43 => ?_)
              · exact absurd (show bV true = 0 from c43) (by decide)
              · refine x_aload_n dX5_place_46 rfl ?_
                refine x_aload_n dX5_place_47 rfl ?_
                refine x_iload_n dX5_place_48 rfl ?_
                refine x_iload_n dX5_place_49 rfl ?_
                refine x_iload_n dX5_place_50 rfl ?_
                refine x_iload dX5_place_51 rfl ?_
                refine x_cv5 dX5_place_53 rfl (by first | assumption | (simp (disch := omega) only [up_s, up_n]; first | assumption | rfl)) rfl ?_
                refine Cm.rt (s_X5_placeOf hR hj hLj hm hq2 (by omega)) ?_
                refine x_cv2 dX5_place_56 rfl (by first | assumption | (simp (disch := omega) only [up_s, up_n]; first | assumption | rfl)) rfl ?_
                refine Cm.ei (s_X5_fine hR) (fun w c9 q9 => ?_)
                obtain ⟨rfl, w1, w2⟩ := q9
                refine x_goto 67 dX5_place_59 (by decide) ?_
                refine x_ireturn dX5_place_67 ?_
                exact ⟨_, c9, 0, rfl, rfl, ⟨f, vs, as, tx, rw, ll, lt, w1, hRp, hH, hX0⟩, w2, rfl, rfl⟩
            · exact absurd (show bV true = 0 from c24) (by decide)
set_option maxRecDepth 20000 in
set_option maxHeartbeats 2000000 in
theorem i_X5_proof {c : Nat → VC} {g : VG} {S : St} {f vs as tx rw ll lt : Nat → Int32} {th : Int32} (hR : RH c f vs as tx rw ll lt (nI S.2.2.length) (nI S.2.1.length) th) (hRp : RepA f S.1) (hH : HiR vs S.2.2) (hX0 : TxR tx S.2.1) {j : Nat} (hj : j < 3) {A C : List (List Pl)} {q2 : Int32} {N : Nat} (hN : N < 2 ^ 31) {val : Int32} : ∀ (r u : List Pl) (n1 : Nat) (o6 : Option Value), n1 ≤ N → ForR f j (A ++ (u ++ r) :: C) → (∀ n9 o5 o6, errP A.length u.length r n1 = (none, n9) → n9 ≤ N → Xm M_X5_proof 22 [some (.ref 456), some (.int (nI j)), some (.int q2), some (.int (nI n9)), some (.int (nI (A.length + 1))), o5, o6] [] (g, c) (RQ g c id (Sum.inl (.int val)) S)) → (∀ k n9, errP A.length u.length r n1 = (some k, n9) → val = nI k) → Xm M_X5_proof 40 [some (.ref 456), some (.int (nI j)), some (.int q2), some (.int (nI n1)), some (.int (nI A.length)), some (.int (nI u.length)), o6] [] (g, c) (RQ g c id (Sum.inl (.int val)) S) := by
  obtain ⟨hO, hA, hS, hD, hX, hW, hL, hT⟩ := id hR
  obtain ⟨u1, u2, u3, u4, u5⟩ := hRp.2.2.2
  intro r
  induction r with
  | nil =>
    intro u n1 o6 hn hL1 K hS
    have hbd := hL1.bd
    have e0 : ([] : List Pl).length = 0 := rfl
    refine x_iload dX5_proof_40 rfl ?_
    refine x_aload_n dX5_proof_42 rfl ?_
    refine x_iload_n dX5_proof_43 rfl ?_
    refine x_iload dX5_proof_44 rfl ?_
    refine x_cv3 dX5_proof_46 rfl (by first | assumption | (simp (disch := omega) only [up_s, up_n]; first | assumption | rfl)) rfl ?_
    refine Cm.rt (r_places0 hO hA hj hL1) ?_
    refine x_icmp_ge 104 dX5_proof_49 (by decide) (fun c49 => ?_) (fun c49 => ?_)
    · refine x_iincN_4 (1) dX5_proof_104 (by decide) rfl ?_
      refine x_goto 22 dX5_proof_107 (by decide) ?_
      exact K n1 _ _ rfl hn
    · exact absurd ((nI_leI (by omega) (by omega)).mpr (by omega)) c49
  | cons y r ih =>
    intro u n1 o6 hn hL1 K hS
    have hbd := hL1.bd
    have e0 : (y :: r).length = r.length + 1 := rfl
    cases hw : wrg y with
    | false =>
      have hz := ih (u ++ [y]) n1 (some (.int (nI 0))) hn (by rw [List.append_assoc]; exact hL1)
      rw [List.length_append, List.length_singleton] at hz
      have he : errP A.length u.length (y :: r) n1 = errP A.length (u.length + 1) r n1 := by show (if wrg y then _ else _) = _; rw [hw]; rfl
      rw [he] at K hS
      refine x_iload dX5_proof_40 rfl ?_
      refine x_aload_n dX5_proof_42 rfl ?_
      refine x_iload_n dX5_proof_43 rfl ?_
      refine x_iload dX5_proof_44 rfl ?_
      refine x_cv3 dX5_proof_46 rfl (by first | assumption | (simp (disch := omega) only [up_s, up_n]; first | assumption | rfl)) rfl ?_
      refine Cm.rt (r_places0 hO hA hj hL1) ?_
      refine x_icmp_ge 104 dX5_proof_49 (by decide) (fun c49 => ?_) (fun c49 => ?_)
      · exact absurd ((nI_leI (by omega) (by omega)).mp c49) (by omega)
      · refine x_aload_n dX5_proof_52 rfl ?_
        refine x_iload_n dX5_proof_53 rfl ?_
        refine x_iload dX5_proof_54 rfl ?_
        refine x_iload dX5_proof_56 rfl ?_
        refine x_cv4 dX5_proof_58 rfl (by first | assumption | (simp (disch := omega) only [up_s, up_n]; first | assumption | rfl)) rfl ?_
        refine Cm.rt (r_isWrong hO hA hj hL1) ?_
        rw [hw]
        refine x_istore_6 dX5_proof_61 rfl ?_
        refine x_iload dX5_proof_63 rfl ?_
        refine x_if_eq 85 dX5_proof_65 (by decide) (fun c65 => ?_) (fun c65 => ?_)
        · refine x_iload_n dX5_proof_85 rfl ?_
          refine x_iload dX5_proof_86 rfl ?_
          refine x_if_eq 95 dX5_proof_88 (by decide) (fun c88 => ?_) (fun c88 => ?_)
          · refine x_iconst (nI 0) dX5_proof_95 (by decide) ?_
            refine x_isubN dX5_proof_96 (Nat.zero_le _) ?_
            rw [Nat.sub_zero]
            refine x_istore_n3 dX5_proof_97 rfl ?_
            refine x_iincN_5 (1) dX5_proof_98 (by decide) rfl ?_
            refine x_goto 40 dX5_proof_101 (by decide) ?_
            exact hz K hS
          · exact absurd rfl c88
        · exact absurd rfl c65
    | true =>
      by_cases h0 : n1 = 0
      · have he : errP A.length u.length (y :: r) n1 = (some (100 * A.length + u.length), 0) := by show (if wrg y then (if n1 = 0 then _ else _) else _) = _; rw [hw, if_pos h0]; rfl
        have hv := hS _ _ he
        subst h0
        subst hv
        refine x_iload dX5_proof_40 rfl ?_
        refine x_aload_n dX5_proof_42 rfl ?_
        refine x_iload_n dX5_proof_43 rfl ?_
        refine x_iload dX5_proof_44 rfl ?_
        refine x_cv3 dX5_proof_46 rfl (by first | assumption | (simp (disch := omega) only [up_s, up_n]; first | assumption | rfl)) rfl ?_
        refine Cm.rt (r_places0 hO hA hj hL1) ?_
        refine x_icmp_ge 104 dX5_proof_49 (by decide) (fun c49 => ?_) (fun c49 => ?_)
        · exact absurd ((nI_leI (by omega) (by omega)).mp c49) (by omega)
        · refine x_aload_n dX5_proof_52 rfl ?_
          refine x_iload_n dX5_proof_53 rfl ?_
          refine x_iload dX5_proof_54 rfl ?_
          refine x_iload dX5_proof_56 rfl ?_
          refine x_cv4 dX5_proof_58 rfl (by first | assumption | (simp (disch := omega) only [up_s, up_n]; first | assumption | rfl)) rfl ?_
          refine Cm.rt (r_isWrong hO hA hj hL1) ?_
          rw [hw]
          refine x_istore_6 dX5_proof_61 rfl ?_
          refine x_iload dX5_proof_63 rfl ?_
          refine x_if_eq 85 dX5_proof_65 (by decide) (fun c65 => ?_) (fun c65 => ?_)
          · exact absurd (show bV true = 0 from c65) (by decide)
          · refine x_iload_n dX5_proof_68 rfl ?_
            refine x_if_ne 85 dX5_proof_69 (by decide) (fun c69 => ?_) (fun c69 => ?_)
            · exact absurd rfl c69
            · refine x_aload_n dX5_proof_72 rfl ?_
              refine x_bipush (nI 100) dX5_proof_73 (by decide) ?_
              refine x_iload dX5_proof_75 rfl ?_
              refine x_imulN dX5_proof_77 ?_
              refine x_iload dX5_proof_78 rfl ?_
              refine x_iaddN dX5_proof_80 ?_
              refine x_cv2 dX5_proof_81 rfl (by first | assumption | (simp (disch := omega) only [up_s, up_n]; first | assumption | rfl)) rfl ?_
              refine Cm.ei (s_X5_fine hR) (fun w c9 q9 => ?_)
              obtain ⟨rfl, w1, w2⟩ := q9
              refine x_ireturn dX5_proof_84 ?_
              exact ⟨_, c9, 0, rfl, rfl, ⟨f, vs, as, tx, rw, ll, lt, w1, hRp, hH, hX0⟩, w2, rfl, rfl⟩
      · have he : errP A.length u.length (y :: r) n1 = errP A.length (u.length + 1) r (n1 - 1) := by show (if wrg y then (if n1 = 0 then _ else _) else _) = _; rw [hw, if_neg h0]; rfl
        rw [he] at K hS
        have hz := ih (u ++ [y]) (n1 - 1) (some (.int (nI 1))) (by omega) (by rw [List.append_assoc]; exact hL1)
        rw [List.length_append, List.length_singleton] at hz
        refine x_iload dX5_proof_40 rfl ?_
        refine x_aload_n dX5_proof_42 rfl ?_
        refine x_iload_n dX5_proof_43 rfl ?_
        refine x_iload dX5_proof_44 rfl ?_
        refine x_cv3 dX5_proof_46 rfl (by first | assumption | (simp (disch := omega) only [up_s, up_n]; first | assumption | rfl)) rfl ?_
        refine Cm.rt (r_places0 hO hA hj hL1) ?_
        refine x_icmp_ge 104 dX5_proof_49 (by decide) (fun c49 => ?_) (fun c49 => ?_)
        · exact absurd ((nI_leI (by omega) (by omega)).mp c49) (by omega)
        · refine x_aload_n dX5_proof_52 rfl ?_
          refine x_iload_n dX5_proof_53 rfl ?_
          refine x_iload dX5_proof_54 rfl ?_
          refine x_iload dX5_proof_56 rfl ?_
          refine x_cv4 dX5_proof_58 rfl (by first | assumption | (simp (disch := omega) only [up_s, up_n]; first | assumption | rfl)) rfl ?_
          refine Cm.rt (r_isWrong hO hA hj hL1) ?_
          rw [hw]
          refine x_istore_6 dX5_proof_61 rfl ?_
          refine x_iload dX5_proof_63 rfl ?_
          refine x_if_eq 85 dX5_proof_65 (by decide) (fun c65 => ?_) (fun c65 => ?_)
          · exact absurd (show bV true = 0 from c65) (by decide)
          · refine x_iload_n dX5_proof_68 rfl ?_
            refine x_if_ne 85 dX5_proof_69 (by decide) (fun c69 => ?_) (fun c69 => ?_)
            · refine x_iload_n dX5_proof_85 rfl ?_
              refine x_iload dX5_proof_86 rfl ?_
              refine x_if_eq 95 dX5_proof_88 (by decide) (fun c88 => ?_) (fun c88 => ?_)
              · exact absurd (show bV true = 0 from c88) (by decide)
              · refine x_iconst (nI 1) dX5_proof_91 (by decide) ?_
                refine x_goto 96 dX5_proof_92 (by decide) ?_
                refine x_isubN dX5_proof_96 (by omega) ?_
                refine x_istore_n3 dX5_proof_97 rfl ?_
                refine x_iincN_5 (1) dX5_proof_98 (by decide) rfl ?_
                refine x_goto 40 dX5_proof_101 (by decide) ?_
                exact hz K hS
            · exact absurd ((nI_eq (b := 0) (by omega) (by omega)).mp c69) h0
set_option maxRecDepth 20000 in
set_option maxHeartbeats 2000000 in
theorem l_X5_proof {c : Nat → VC} {g : VG} {S : St} {f vs as tx rw ll lt : Nat → Int32} {th : Int32} (hR : RH c f vs as tx rw ll lt (nI S.2.2.length) (nI S.2.1.length) th) (hRp : RepA f S.1) (hH : HiR vs S.2.2) (hX0 : TxR tx S.2.1) {j : Nat} (hj : j < 3) {q2 : Int32} {N : Nat} (hN : N < 2 ^ 31) {val : Int32} : ∀ (C A : List (List Pl)) (n1 : Nat) (o5 o6 : Option Value), n1 ≤ N → ForR f j (A ++ C) → val = ixV (errL A.length C n1) → Xm M_X5_proof 22 [some (.ref 456), some (.int (nI j)), some (.int q2), some (.int (nI n1)), some (.int (nI A.length)), o5, o6] [] (g, c) (RQ g c id (Sum.inl (.int val)) S) := by
  obtain ⟨hO, hA, hS, hD, hX, hW, hL, hT⟩ := id hR
  obtain ⟨u1, u2, u3, u4, u5⟩ := hRp.2.2.2
  intro C
  induction C with
  | nil =>
    intro A n1 o5 o6 hn hL1 hv
    rw [List.append_nil] at hL1
    have h5 := hL1.2.1.1
    have hm := hL1.1
    have hv2 : val = -1 := hv
    subst hv2
    refine x_iload dX5_proof_22 rfl ?_
    refine x_aload_n dX5_proof_24 rfl ?_
    refine x_getfield dX5_proof_25 rfl (by decide) (by first | assumption | (simp (disch := omega) only [up_s, up_n]; first | assumption | rfl)) rfl ?_
    refine x_sipush (nI 1262) dX5_proof_28 (by decide) ?_
    refine x_iload_n dX5_proof_31 rfl ?_
    refine x_iaddN dX5_proof_32 ?_
    refine x_ialoadN dX5_proof_33 (by first | assumption | (simp (disch := omega) only [up_s, up_n]; first | assumption | rfl)) (by omega) (by omega) ?_
    rw [hm]
    refine x_icmp_ge 110 dX5_proof_34 (by decide) (fun c34 => ?_) (fun c34 => ?_)
    · refine x_aload_n dX5_proof_110 rfl ?_
      refine x_iconst (-1) dX5_proof_111 (by decide) ?_
      refine x_cv2 dX5_proof_112 rfl (by first | assumption | (simp (disch := omega) only [up_s, up_n]; first | assumption | rfl)) rfl ?_
      refine Cm.ei (s_X5_fine hR) (fun w c9 q9 => ?_)
      obtain ⟨rfl, w1, w2⟩ := q9
      refine x_ireturn dX5_proof_115 ?_
      exact ⟨_, c9, 0, rfl, rfl, ⟨f, vs, as, tx, rw, ll, lt, w1, hRp, hH, hX0⟩, w2, rfl, rfl⟩
    · exact absurd (Int32.le_refl _) c34
  | cons l C ih =>
    intro A n1 o5 o6 hn hL1 hv
    have h5 := hL1.2.1.1
    have hm := hL1.1
    rw [List.length_append, List.length_cons] at h5 hm
    have he : errL A.length (l :: C) n1 = (match errP A.length 0 l n1 with
      | (some k, _) => some k
      | (none, n') => errL (A.length + 1) C n') := rfl
    refine x_iload dX5_proof_22 rfl ?_
    refine x_aload_n dX5_proof_24 rfl ?_
    refine x_getfield dX5_proof_25 rfl (by decide) (by first | assumption | (simp (disch := omega) only [up_s, up_n]; first | assumption | rfl)) rfl ?_
    refine x_sipush (nI 1262) dX5_proof_28 (by decide) ?_
    refine x_iload_n dX5_proof_31 rfl ?_
    refine x_iaddN dX5_proof_32 ?_
    refine x_ialoadN dX5_proof_33 (by first | assumption | (simp (disch := omega) only [up_s, up_n]; first | assumption | rfl)) (by omega) (by omega) ?_
    rw [hm]
    refine x_icmp_ge 110 dX5_proof_34 (by decide) (fun c34 => ?_) (fun c34 => ?_)
    · exact absurd ((nI_leI (by omega) (by omega)).mp c34) (by omega)
    · refine x_iconst (nI 0) dX5_proof_37 (by decide) ?_
      refine x_istore_5 dX5_proof_38 rfl ?_
      refine i_X5_proof hR hRp hH hX0 hj hN l [] n1 o6 hn hL1 (fun n9 o5 o6 e9 h9 => ?_) (fun k n9 e9 => ?_)
      · have e8 : errP A.length 0 l n1 = (none, n9) := e9
        rw [he, e8] at hv
        have hz := ih (A ++ [l]) n9 o5 o6 h9 (by rw [List.append_assoc]; exact hL1) (by rw [List.length_append, List.length_singleton]; exact hv)
        rw [List.length_append, List.length_singleton] at hz
        exact hz
      · have e8 : errP A.length 0 l n1 = (some k, n9) := e9
        rw [he, e8] at hv
        exact hv
set_option maxRecDepth 20000 in
set_option maxHeartbeats 2000000 in
theorem s_X5_proof {c : Nat → VC} {g : VG} {S : St} {th : Int32} (h : RefAt c S th) {l i : Int32} : Cm k_X5_proof [.ref 456, .int l, .int i] (g, c) (RQ g c (id) (proofM l i S).1 (proofM l i S).2) := by
  obtain ⟨f, vs, as, tx, rw, ll, lt, hR, hRp, hH, hX0⟩ := h
  obtain ⟨hO, hA, hS, hD, hX, hW, hL, hT⟩ := id hR
  obtain ⟨u1, u2, u3, u4, u5⟩ := hRp.2.2.2
  cases e1 : ix l 3 with
  | none =>
    have hM : proofM l i S = (Sum.inr 1, S) := by simp only [proofM, e1]
    rw [hM]
    refine Cm.in (M := M_X5_proof) (ls := [some (.ref 456), some (.int l), some (.int i), none, none, none, none]) rfl rfl ?_
    refine x_iload_n dX5_proof_0 rfl ?_
    refine x_cs1 dX5_proof_1 rfl ?_
    refine Cm.rt s_X5_isForme ?_
    rw [e1]
    refine x_if_eq 11 dX5_proof_4 (by decide) (fun c4 => ?_) (fun c4 => ?_)
    · refine x_aload_n dX5_proof_11 rfl ?_
      refine x_iconst (nI 1) dX5_proof_12 (by decide) ?_
      refine x_cv2 dX5_proof_13 rfl (by first | assumption | (simp (disch := omega) only [up_s, up_n]; first | assumption | rfl)) rfl ?_
      refine Cm.ei (s_X5_throwing hR) (fun w c9 q9 => ?_)
      obtain ⟨rfl, w1, w2⟩ := q9
      refine x_ireturn dX5_proof_16 ?_
      exact ⟨_, c9, 1, rfl, rfl, ⟨f, vs, as, tx, rw, ll, lt, w1, hRp, hH, hX0⟩, w2, rfl, rfl⟩
    · exact absurd rfl c4
  | some j =>
    obtain ⟨hj, rfl⟩ := ix_some (by omega) e1
    by_cases hi : i < 0
    · have hM : proofM (nI j) i S = (Sum.inr 1, S) := by simp only [proofM, e1, if_pos hi]
      rw [hM]
      refine Cm.in (M := M_X5_proof) (ls := [some (.ref 456), some (.int (nI j)), some (.int i), none, none, none, none]) rfl rfl ?_
      refine x_iload_n dX5_proof_0 rfl ?_
      refine x_cs1 dX5_proof_1 rfl ?_
      refine Cm.rt s_X5_isForme ?_
      rw [e1]
      refine x_if_eq 11 dX5_proof_4 (by decide) (fun c4 => ?_) (fun c4 => ?_)
      · exact absurd (show bV true = 0 from c4) (by decide)
      · refine x_iload_n dX5_proof_7 rfl ?_
        refine x_if_ge 17 dX5_proof_8 (by decide) (fun c8 => ?_) (fun c8 => ?_)
        · exact absurd hi (Int32.not_lt.mpr c8)
        · refine x_aload_n dX5_proof_11 rfl ?_
          refine x_iconst (nI 1) dX5_proof_12 (by decide) ?_
          refine x_cv2 dX5_proof_13 rfl (by first | assumption | (simp (disch := omega) only [up_s, up_n]; first | assumption | rfl)) rfl ?_
          refine Cm.ei (s_X5_throwing hR) (fun w c9 q9 => ?_)
          obtain ⟨rfl, w1, w2⟩ := q9
          refine x_ireturn dX5_proof_16 ?_
          exact ⟨_, c9, 1, rfl, rfl, ⟨f, vs, as, tx, rw, ll, lt, w1, hRp, hH, hX0⟩, w2, rfl, rfl⟩
    · have hM : proofM (nI j) i S = (Sum.inl (.int (ixV (errL 0 (S.1.2.1 j) i.toNatClampNeg))), S) := by simp only [proofM, e1, if_neg hi]
      rw [hM]
      obtain ⟨m, hm, rfl⟩ := nI_of hi
      rw [nI_clamp hm]
      refine Cm.in (M := M_X5_proof) (ls := [some (.ref 456), some (.int (nI j)), some (.int (nI m)), none, none, none, none]) rfl rfl ?_
      refine x_iload_n dX5_proof_0 rfl ?_
      refine x_cs1 dX5_proof_1 rfl ?_
      refine Cm.rt s_X5_isForme ?_
      rw [e1]
      refine x_if_eq 11 dX5_proof_4 (by decide) (fun c4 => ?_) (fun c4 => ?_)
      · exact absurd (show bV true = 0 from c4) (by decide)
      · refine x_iload_n dX5_proof_7 rfl ?_
        refine x_if_ge 17 dX5_proof_8 (by decide) (fun c8 => ?_) (fun c8 => ?_)
        · refine x_iload_n dX5_proof_17 rfl ?_
          refine x_istore_n3 dX5_proof_18 rfl ?_
          refine x_iconst (nI 0) dX5_proof_19 (by decide) ?_
          refine x_istore_4 dX5_proof_20 rfl ?_
          exact l_X5_proof hR hRp hH hX0 hj hm (S.1.2.1 j) [] m none none (Nat.le_refl _) (hRp.2.1 j hj) rfl
        · exact absurd (nI_pos' hm) c8
set_option maxRecDepth 20000 in
set_option maxHeartbeats 2000000 in
theorem s_X5_inHeap {c : Nat → VC} {g : VG} {S : St} {th : Int32} (h : RefAt c S th) {i : Int32} : Cm k_X5_inHeap [.ref 456, .int i] (g, c) (RQ g c (id) (inHeapM i S).1 (inHeapM i S).2) := by
  obtain ⟨f, vs, as, tx, rw, ll, lt, hR, hRp, hH, hX0⟩ := h
  obtain ⟨hO, hA, hS, hD, hX, hW, hL, hT⟩ := id hR
  obtain ⟨u1, u2, u3, u4, u5⟩ := hRp.2.2.2
  obtain ⟨g1, g2, g3, g4⟩ := hRp.2.2.1
  cases e2 : ix i S.1.2.2.1.length with
  | none =>
    have hM : inHeapM i S = (Sum.inr 1, S) := by simp only [inHeapM, e2]
    rw [hM]
    refine Cm.in (M := M_X5_inHeap) (ls := [some (.ref 456), some (.int i)]) rfl rfl ?_
    refine x_iload_n dX5_inHeap_0 rfl ?_
    refine x_i2l dX5_inHeap_1 ?_
    refine x_lconst (0) dX5_inHeap_2 (by decide) ?_
    refine x_aload_n dX5_inHeap_3 rfl ?_
    refine x_getfield dX5_inHeap_4 rfl (by decide) (by first | assumption | (simp (disch := omega) only [up_s, up_n]; first | assumption | rfl)) rfl ?_
    refine x_sipush (nI 1265) dX5_inHeap_7 (by decide) ?_
    refine x_ialoadN dX5_inHeap_10 (by first | assumption | (simp (disch := omega) only [up_s, up_n]; first | assumption | rfl)) (by omega) (by omega) ?_
    rw [g1]
    refine x_i2lN dX5_inHeap_11 (by omega) ?_
    refine x_lconst (1) dX5_inHeap_12 (by decide) ?_
    refine x_lsub dX5_inHeap_13 ?_
    refine x_cs3 dX5_inHeap_14 rfl ?_
    refine Cm.rt s_X5_in ?_
    rw [in_ix0 (n := S.1.2.2.1.length) (by omega) (by decide) (lN_pred (by omega)), e2]
    refine x_if_eq 37 dX5_inHeap_17 (by decide) (fun c17 => ?_) (fun c17 => ?_)
    · refine x_aload_n dX5_inHeap_37 rfl ?_
      refine x_iconst (nI 1) dX5_inHeap_38 (by decide) ?_
      refine x_cv2 dX5_inHeap_39 rfl (by first | assumption | (simp (disch := omega) only [up_s, up_n]; first | assumption | rfl)) rfl ?_
      refine Cm.ei (s_X5_throwing hR) (fun w c9 q9 => ?_)
      obtain ⟨rfl, w1, w2⟩ := q9
      refine x_ireturn dX5_inHeap_42 ?_
      exact ⟨_, c9, 1, rfl, rfl, ⟨f, vs, as, tx, rw, ll, lt, w1, hRp, hH, hX0⟩, w2, rfl, rfl⟩
    · exact absurd rfl c17
  | some j =>
    obtain ⟨hj, rfl⟩ := ix_some (by omega) e2
    have hM : inHeapM (nI j) S = (Sum.inl (.int (nI (S.1.2.2.1.getD j 0))), S) := by simp only [inHeapM, e2]
    rw [hM]
    have hgd : S.1.2.2.1.getD j 0 = S.1.2.2.1[j] := by rw [List.getD_eq_getElem?_getD, List.getElem?_eq_getElem hj]; rfl
    rw [hgd]
    refine Cm.in (M := M_X5_inHeap) (ls := [some (.ref 456), some (.int (nI j))]) rfl rfl ?_
    refine x_iload_n dX5_inHeap_0 rfl ?_
    refine x_i2l dX5_inHeap_1 ?_
    refine x_lconst (0) dX5_inHeap_2 (by decide) ?_
    refine x_aload_n dX5_inHeap_3 rfl ?_
    refine x_getfield dX5_inHeap_4 rfl (by decide) (by first | assumption | (simp (disch := omega) only [up_s, up_n]; first | assumption | rfl)) rfl ?_
    refine x_sipush (nI 1265) dX5_inHeap_7 (by decide) ?_
    refine x_ialoadN dX5_inHeap_10 (by first | assumption | (simp (disch := omega) only [up_s, up_n]; first | assumption | rfl)) (by omega) (by omega) ?_
    rw [g1]
    refine x_i2lN dX5_inHeap_11 (by omega) ?_
    refine x_lconst (1) dX5_inHeap_12 (by decide) ?_
    refine x_lsub dX5_inHeap_13 ?_
    refine x_cs3 dX5_inHeap_14 rfl ?_
    refine Cm.rt s_X5_in ?_
    rw [in_ix0 (n := S.1.2.2.1.length) (by omega) (by decide) (lN_pred (by omega)), e2]
    refine x_if_eq 37 dX5_inHeap_17 (by decide) (fun c17 => ?_) (fun c17 => ?_)
    · exact absurd (show bV true = 0 from c17) (by decide)
    · refine x_aload_n dX5_inHeap_20 rfl ?_
      refine x_aload_n dX5_inHeap_21 rfl ?_
      refine x_getfield dX5_inHeap_22 rfl (by decide) (by first | assumption | (simp (disch := omega) only [up_s, up_n]; first | assumption | rfl)) rfl ?_
      refine x_sipush (nI 1266) dX5_inHeap_25 (by decide) ?_
      refine x_iload_n dX5_inHeap_28 rfl ?_
      refine x_iaddN dX5_inHeap_29 ?_
      refine x_ialoadN dX5_inHeap_30 (by first | assumption | (simp (disch := omega) only [up_s, up_n]; first | assumption | rfl)) (by omega) (by omega) ?_
      rw [g4 j hj]
      refine x_cv2 dX5_inHeap_31 rfl (by first | assumption | (simp (disch := omega) only [up_s, up_n]; first | assumption | rfl)) rfl ?_
      refine Cm.ei (s_X5_fine hR) (fun w c9 q9 => ?_)
      obtain ⟨rfl, w1, w2⟩ := q9
      refine x_goto 42 dX5_inHeap_34 (by decide) ?_
      refine x_ireturn dX5_inHeap_42 ?_
      exact ⟨_, c9, 0, rfl, rfl, ⟨f, vs, as, tx, rw, ll, lt, w1, hRp, hH, hX0⟩, w2, rfl, rfl⟩
