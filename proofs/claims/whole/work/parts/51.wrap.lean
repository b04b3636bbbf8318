/-! THE LAW: the calls that catch -/
def ResI (r : Value ⊕ Nat) (es : List Nat) : Prop := match r with
  | Sum.inl w => ∃ y : Int32, w = .int y
  | Sum.inr E => E ∈ es
def WQ (z : Nat) (x : Bool) (k s : Nat) (c : Nat → VC) (pm : Nat → Nat) (r : Value ⊕ Nat) (S' : St) : (Option Value ⊕ Nat) → VH → Prop := fun q h' => ∃ c' t f', q = Sum.inl (some (.int (nI t))) ∧ CaseAt c' S' ∧ c' 464 = cL 1 f' ∧ (∀ j, j < 2 ∨ (456 ≤ j ∧ j ≠ 464) → c' j = c j) ∧ match r with
  | Sum.inl w => t = 0 ∧ h' = ((z, x, k, s), c') ∧ ∃ y, w = .int y ∧ f' 0 = y.toInt64
  | Sum.inr E => t = pm E ∧ h' = ((z, false, k + 1, s + 6), c')
theorem Xk.c {M : MI} {pc hp k E : Nat} {ls ls' : VLs} {rest : List Value} {h : VH} {Q : (Option Value ⊕ Nat) → VH → Prop} (hh : hnd M.2.2.2 pc E = some hp) (hd : decode M.1 hp = .ok (.astore k, 2)) (hk : decide (k < ls.length) = true) (hs : set1 k none ls = ls') (k9 : Xm M (hp + 2) ls' [] h Q) : Xk M pc ls rest Q (Sum.inr E) h := by
  show Xx M pc ls Q E h
  unfold Xx
  rw [hh]
  show (match ctch M hp ls with
    | none => False
    | some (pc', ls') => Xm M pc' ls' [] h Q)
  have e : ctch M hp ls = some (hp + 2, ls') := by
    unfold ctch
    rw [hd]
    show cat1 k 2 hp ls = _
    unfold cat1
    rw [if_pos (of_decide_eq_true hk), hs]
  rw [e]
  exact k9
theorem Xk.cn {M : MI} {pc hp E : Nat} {k : Fin 4} {ls ls' : VLs} {rest : List Value} {h : VH} {Q : (Option Value ⊕ Nat) → VH → Prop} (hh : hnd M.2.2.2 pc E = some hp) (hd : decode M.1 hp = .ok (.astore_n k, 1)) (hk : decide (k.val < ls.length) = true) (hs : set1 k.val none ls = ls') (k9 : Xm M (hp + 1) ls' [] h Q) : Xk M pc ls rest Q (Sum.inr E) h := by
  show Xx M pc ls Q E h
  unfold Xx
  rw [hh]
  show (match ctch M hp ls with
    | none => False
    | some (pc', ls') => Xm M pc' ls' [] h Q)
  have e : ctch M hp ls = some (hp + 1, ls') := by
    unfold ctch
    rw [hd]
    show cat1 k.val 1 hp ls = _
    unfold cat1
    rw [if_pos (of_decide_eq_true hk), hs]
  rw [e]
  exact k9
theorem CaseAt.out {c : Nat → VC} {S : St} {x : VC} (h : CaseAt c S) : CaseAt (up c 464 x) S := by
  obtain ⟨h1, h2, h3, h4, ⟨σt, h5⟩, ⟨pl, es, h6⟩, h7⟩ := h
  exact ⟨by rw [up_n (by omega)]; exact h1, h2.fr (fun k z1 z2 => up_n (by omega)), h3.fr (up_n (by omega)) (up_n (by omega)), h4.fr (fun k z1 z2 => up_n (by omega)), ⟨σt, h5.fr (fun k z1 z2 => up_n (by omega))⟩, ⟨pl, es, h6.fr (fun k z1 z2 => up_n (by omega))⟩, h7.fr (up_n (by omega))⟩
theorem res_buy {S : St} {p0 p1 : Int32} : ResI (buyM p0 p1 S).1 [1, 2, 3] := by
  unfold buyM
  repeat' split
  all_goals first
    | exact ⟨_, rfl⟩
    | (show _ ∈ _; decide)
set_option maxRecDepth 20000 in
set_option maxHeartbeats 2000000 in
theorem w_buy {c : Nat → VC} {z k s : Nat} {x : Bool} {S : St} (h : CaseAt c S) (hk : StOK S) {f : Nat → Int64} (hO : c 464 = cL 1 f) {p0 p1 : Int32} : Cm k_L_buy [.ref 2, .int p0, .int p1, .ref 464] ((z, x, k, s), c) (WQ z x k s c (id) (buyM p0 p1 S).1 (buyM p0 p1 S).2) := by
  have hh2 := h.1
  have hr : ResI (buyM p0 p1 S).1 [1, 2, 3] := res_buy
  refine Cm.in (M := M_L_buy) (ls := [some (.ref 2), some (.int p0), some (.int p1), some (.ref 464), none]) rfl rfl ?_
  refine x_aload_n dL_buy_0 rfl ?_
  refine x_iconst (nI 0) dL_buy_1 (by decide) ?_
  refine x_aload_n dL_buy_2 rfl ?_
  refine x_iload_n dL_buy_3 rfl ?_
  refine x_iload_n dL_buy_4 rfl ?_
  refine x_cv3 dL_buy_5 rfl (by first | assumption | (simp (disch := omega) only [up_s, up_n]; first | assumption | rfl)) rfl ?_
  refine (s_X4_buy h hk).mono (fun q h' hq => ?_)
  generalize buyM p0 p1 S = R at hr hq ⊢
  obtain ⟨r, S'⟩ := R
  obtain ⟨c', w1, w2, w3⟩ := hq
  have hO' : c' 464 = cL 1 f := (w2 464 (by omega)).trans hO
  cases r with
  | inl w =>
    obtain ⟨y, rfl⟩ := hr
    obtain ⟨rfl, rfl⟩ := w3
    refine Xk.i ?_
    refine x_i2l dL_buy_8 ?_
    refine x_lastore dL_buy_9 (by first | assumption | (simp (disch := omega) only [up_s, up_n]; first | assumption | rfl)) (by decide) ?_
    refine x_goto 25 dL_buy_10 (by decide) ?_
    refine x_iconst (nI 0) dL_buy_25 (by decide) ?_
    refine x_ireturn dL_buy_26 ?_
    refine ⟨_, 0, _, rfl, w1.out, up_s, fun j hj => ?_, rfl, rfl, y, rfl, ?_⟩
    · rw [up_n (by omega)]
      exact w2 j (by omega)
    · show (if 0 = (nI 0).toNatClampNeg then y.toInt64 else f 0) = y.toInt64
      rw [if_pos (by decide)]
  | inr E =>
    obtain ⟨rfl, rfl⟩ := w3
    have hr2 : E ∈ [1, 2, 3] := hr
    simp only [List.mem_cons, List.not_mem_nil, or_false] at hr2
    rcases hr2 with rfl | rfl | rfl
    · refine Xk.c (ls' := [some (.ref 2), some (.int p0), some (.int p1), some (.ref 464), none]) (by decide) dL_buy_13 rfl rfl ?_
      refine x_iconst (nI 1) dL_buy_15 (by decide) ?_
      refine x_ireturn dL_buy_16 ?_
      exact ⟨c', _, f, rfl, w1, hO', fun j hj => w2 j (by omega), rfl, rfl⟩
    · refine Xk.c (ls' := [some (.ref 2), some (.int p0), some (.int p1), some (.ref 464), none]) (by decide) dL_buy_17 rfl rfl ?_
      refine x_iconst (nI 2) dL_buy_19 (by decide) ?_
      refine x_ireturn dL_buy_20 ?_
      exact ⟨c', _, f, rfl, w1, hO', fun j hj => w2 j (by omega), rfl, rfl⟩
    · refine Xk.c (ls' := [some (.ref 2), some (.int p0), some (.int p1), some (.ref 464), none]) (by decide) dL_buy_21 rfl rfl ?_
      refine x_iconst (nI 3) dL_buy_23 (by decide) ?_
      refine x_ireturn dL_buy_24 ?_
      exact ⟨c', _, f, rfl, w1, hO', fun j hj => w2 j (by omega), rfl, rfl⟩
theorem res_buyLacking {S : St} : ResI (buyLackingM S).1 [3] := by
  unfold buyLackingM
  repeat' split
  all_goals first
    | exact ⟨_, rfl⟩
    | (show _ ∈ _; decide)
set_option maxRecDepth 20000 in
set_option maxHeartbeats 2000000 in
theorem w_buyLacking {c : Nat → VC} {z k s : Nat} {x : Bool} {S : St} (h : CaseAt c S) (hk : StOK S) {f : Nat → Int64} (hO : c 464 = cL 1 f) : Cm k_L_buyLacking [.ref 2, .ref 464] ((z, x, k, s), c) (WQ z x k s c (fun E => E - 2) (buyLackingM S).1 (buyLackingM S).2) := by
  have hh2 := h.1
  have hr : ResI (buyLackingM S).1 [3] := res_buyLacking
  refine Cm.in (M := M_L_buyLacking) (ls := [some (.ref 2), some (.ref 464), none]) rfl rfl ?_
  refine x_aload_n dL_buyLacking_0 rfl ?_
  refine x_iconst (nI 0) dL_buyLacking_1 (by decide) ?_
  refine x_aload_n dL_buyLacking_2 rfl ?_
  refine x_cv1 dL_buyLacking_3 rfl (by first | assumption | (simp (disch := omega) only [up_s, up_n]; first | assumption | rfl)) rfl ?_
  refine (s_X4_buyLacking h hk).mono (fun q h' hq => ?_)
  generalize buyLackingM S = R at hr hq ⊢
  obtain ⟨r, S'⟩ := R
  obtain ⟨c', w1, w2, w3⟩ := hq
  have hO' : c' 464 = cL 1 f := (w2 464 (by omega)).trans hO
  cases r with
  | inl w =>
    obtain ⟨y, rfl⟩ := hr
    obtain ⟨rfl, rfl⟩ := w3
    refine Xk.i ?_
    refine x_i2l dL_buyLacking_6 ?_
    refine x_lastore dL_buyLacking_7 (by first | assumption | (simp (disch := omega) only [up_s, up_n]; first | assumption | rfl)) (by decide) ?_
    refine x_goto 14 dL_buyLacking_8 (by decide) ?_
    refine x_iconst (nI 0) dL_buyLacking_14 (by decide) ?_
    refine x_ireturn dL_buyLacking_15 ?_
    refine ⟨_, 0, _, rfl, w1.out, up_s, fun j hj => ?_, rfl, rfl, y, rfl, ?_⟩
    · rw [up_n (by omega)]
      exact w2 j (by omega)
    · show (if 0 = (nI 0).toNatClampNeg then y.toInt64 else f 0) = y.toInt64
      rw [if_pos (by decide)]
  | inr E =>
    obtain ⟨rfl, rfl⟩ := w3
    have hr2 : E ∈ [3] := hr
    simp only [List.mem_cons, List.not_mem_nil, or_false] at hr2
    subst hr2
    refine Xk.cn (ls' := [some (.ref 2), some (.ref 464), none]) (by decide) dL_buyLacking_11 rfl rfl ?_
    refine x_iconst (nI 1) dL_buyLacking_12 (by decide) ?_
    refine x_ireturn dL_buyLacking_13 ?_
    exact ⟨c', _, f, rfl, w1, hO', fun j hj => w2 j (by omega), rfl, rfl⟩
theorem res_spill {S : St} {p0 p1 p2 : Int32} : ResI (spillM p0 p1 p2 S).1 [1, 2, 3] := by
  unfold spillM
  repeat' split
  all_goals first
    | exact ⟨_, rfl⟩
    | (show _ ∈ _; decide)
set_option maxRecDepth 20000 in
set_option maxHeartbeats 2000000 in
theorem w_spill {c : Nat → VC} {z k s : Nat} {x : Bool} {S : St} (h : CaseAt c S) (hk : StOK S) {f : Nat → Int64} (hO : c 464 = cL 1 f) {p0 p1 p2 : Int32} : Cm k_L_spill [.ref 2, .int p0, .int p1, .int p2, .ref 464] ((z, x, k, s), c) (WQ z x k s c (id) (spillM p0 p1 p2 S).1 (spillM p0 p1 p2 S).2) := by
  have hh2 := h.1
  have hr : ResI (spillM p0 p1 p2 S).1 [1, 2, 3] := res_spill
  refine Cm.in (M := M_L_spill) (ls := [some (.ref 2), some (.int p0), some (.int p1), some (.int p2), some (.ref 464), none]) rfl rfl ?_
  refine x_aload dL_spill_0 rfl ?_
  refine x_iconst (nI 0) dL_spill_2 (by decide) ?_
  refine x_aload_n dL_spill_3 rfl ?_
  refine x_iload_n dL_spill_4 rfl ?_
  refine x_iload_n dL_spill_5 rfl ?_
  refine x_iload_n dL_spill_6 rfl ?_
  refine x_cv4 dL_spill_7 rfl (by first | assumption | (simp (disch := omega) only [up_s, up_n]; first | assumption | rfl)) rfl ?_
  refine (s_X4_spill h hk).mono (fun q h' hq => ?_)
  generalize spillM p0 p1 p2 S = R at hr hq ⊢
  obtain ⟨r, S'⟩ := R
  obtain ⟨c', w1, w2, w3⟩ := hq
  have hO' : c' 464 = cL 1 f := (w2 464 (by omega)).trans hO
  cases r with
  | inl w =>
    obtain ⟨y, rfl⟩ := hr
    obtain ⟨rfl, rfl⟩ := w3
    refine Xk.i ?_
    refine x_i2l dL_spill_10 ?_
    refine x_lastore dL_spill_11 (by first | assumption | (simp (disch := omega) only [up_s, up_n]; first | assumption | rfl)) (by decide) ?_
    refine x_goto 27 dL_spill_12 (by decide) ?_
    refine x_iconst (nI 0) dL_spill_27 (by decide) ?_
    refine x_ireturn dL_spill_28 ?_
    refine ⟨_, 0, _, rfl, w1.out, up_s, fun j hj => ?_, rfl, rfl, y, rfl, ?_⟩
    · rw [up_n (by omega)]
      exact w2 j (by omega)
    · show (if 0 = (nI 0).toNatClampNeg then y.toInt64 else f 0) = y.toInt64
      rw [if_pos (by decide)]
  | inr E =>
    obtain ⟨rfl, rfl⟩ := w3
    have hr2 : E ∈ [1, 2, 3] := hr
    simp only [List.mem_cons, List.not_mem_nil, or_false] at hr2
    rcases hr2 with rfl | rfl | rfl
    · refine Xk.c (ls' := [some (.ref 2), some (.int p0), some (.int p1), some (.int p2), some (.ref 464), none]) (by decide) dL_spill_15 rfl rfl ?_
      refine x_iconst (nI 1) dL_spill_17 (by decide) ?_
      refine x_ireturn dL_spill_18 ?_
      exact ⟨c', _, f, rfl, w1, hO', fun j hj => w2 j (by omega), rfl, rfl⟩
    · refine Xk.c (ls' := [some (.ref 2), some (.int p0), some (.int p1), some (.int p2), some (.ref 464), none]) (by decide) dL_spill_19 rfl rfl ?_
      refine x_iconst (nI 2) dL_spill_21 (by decide) ?_
      refine x_ireturn dL_spill_22 ?_
      exact ⟨c', _, f, rfl, w1, hO', fun j hj => w2 j (by omega), rfl, rfl⟩
    · refine Xk.c (ls' := [some (.ref 2), some (.int p0), some (.int p1), some (.int p2), some (.ref 464), none]) (by decide) dL_spill_23 rfl rfl ?_
      refine x_iconst (nI 3) dL_spill_25 (by decide) ?_
      refine x_ireturn dL_spill_26 ?_
      exact ⟨c', _, f, rfl, w1, hO', fun j hj => w2 j (by omega), rfl, rfl⟩
theorem res_clean {S : St} {p0 : Int32} : ResI (cleanM p0 S).1 [1] := by
  unfold cleanM
  repeat' split
  all_goals first
    | exact ⟨_, rfl⟩
    | (show _ ∈ _; decide)
set_option maxRecDepth 20000 in
set_option maxHeartbeats 2000000 in
theorem w_clean {c : Nat → VC} {z k s : Nat} {x : Bool} {S : St} (h : CaseAt c S) (hk : StOK S) {f : Nat → Int64} (hO : c 464 = cL 1 f) {p0 : Int32} : Cm k_L_clean [.ref 2, .int p0, .ref 464] ((z, x, k, s), c) (WQ z x k s c (id) (cleanM p0 S).1 (cleanM p0 S).2) := by
  have hh2 := h.1
  have hr : ResI (cleanM p0 S).1 [1] := res_clean
  refine Cm.in (M := M_L_clean) (ls := [some (.ref 2), some (.int p0), some (.ref 464), none]) rfl rfl ?_
  refine x_aload_n dL_clean_0 rfl ?_
  refine x_iconst (nI 0) dL_clean_1 (by decide) ?_
  refine x_aload_n dL_clean_2 rfl ?_
  refine x_iload_n dL_clean_3 rfl ?_
  refine x_cv2 dL_clean_4 rfl (by first | assumption | (simp (disch := omega) only [up_s, up_n]; first | assumption | rfl)) rfl ?_
  refine (s_X4_clean h hk).mono (fun q h' hq => ?_)
  generalize cleanM p0 S = R at hr hq ⊢
  obtain ⟨r, S'⟩ := R
  obtain ⟨c', w1, w2, w3⟩ := hq
  have hO' : c' 464 = cL 1 f := (w2 464 (by omega)).trans hO
  cases r with
  | inl w =>
    obtain ⟨y, rfl⟩ := hr
    obtain ⟨rfl, rfl⟩ := w3
    refine Xk.i ?_
    refine x_i2l dL_clean_7 ?_
    refine x_lastore dL_clean_8 (by first | assumption | (simp (disch := omega) only [up_s, up_n]; first | assumption | rfl)) (by decide) ?_
    refine x_goto 15 dL_clean_9 (by decide) ?_
    refine x_iconst (nI 0) dL_clean_15 (by decide) ?_
    refine x_ireturn dL_clean_16 ?_
    refine ⟨_, 0, _, rfl, w1.out, up_s, fun j hj => ?_, rfl, rfl, y, rfl, ?_⟩
    · rw [up_n (by omega)]
      exact w2 j (by omega)
    · show (if 0 = (nI 0).toNatClampNeg then y.toInt64 else f 0) = y.toInt64
      rw [if_pos (by decide)]
  | inr E =>
    obtain ⟨rfl, rfl⟩ := w3
    have hr2 : E ∈ [1] := hr
    simp only [List.mem_cons, List.not_mem_nil, or_false] at hr2
    subst hr2
    refine Xk.cn (ls' := [some (.ref 2), some (.int p0), some (.ref 464), none]) (by decide) dL_clean_12 rfl rfl ?_
    refine x_iconst (nI 1) dL_clean_13 (by decide) ?_
    refine x_ireturn dL_clean_14 ?_
    exact ⟨c', _, f, rfl, w1, hO', fun j hj => w2 j (by omega), rfl, rfl⟩
theorem res_set {S : St} {p0 p1 : Int32} : ResI (setM p0 p1 S).1 [2] := by
  unfold setM
  repeat' split
  all_goals first
    | exact ⟨_, rfl⟩
    | (show _ ∈ _; decide)
set_option maxRecDepth 20000 in
set_option maxHeartbeats 2000000 in
theorem w_set {c : Nat → VC} {z k s : Nat} {x : Bool} {S : St} (h : CaseAt c S) (hk : StOK S) {f : Nat → Int64} (hO : c 464 = cL 1 f) {p0 p1 : Int32} : Cm k_L_set [.ref 2, .int p0, .int p1, .ref 464] ((z, x, k, s), c) (WQ z x k s c (fun E => E - 1) (setM p0 p1 S).1 (setM p0 p1 S).2) := by
  have hh2 := h.1
  have hr : ResI (setM p0 p1 S).1 [2] := res_set
  refine Cm.in (M := M_L_set) (ls := [some (.ref 2), some (.int p0), some (.int p1), some (.ref 464), none]) rfl rfl ?_
  refine x_aload_n dL_set_0 rfl ?_
  refine x_iconst (nI 0) dL_set_1 (by decide) ?_
  refine x_aload_n dL_set_2 rfl ?_
  refine x_iload_n dL_set_3 rfl ?_
  refine x_iload_n dL_set_4 rfl ?_
  refine x_cv3 dL_set_5 rfl (by first | assumption | (simp (disch := omega) only [up_s, up_n]; first | assumption | rfl)) rfl ?_
  refine (s_X4_set h hk).mono (fun q h' hq => ?_)
  generalize setM p0 p1 S = R at hr hq ⊢
  obtain ⟨r, S'⟩ := R
  obtain ⟨c', w1, w2, w3⟩ := hq
  have hO' : c' 464 = cL 1 f := (w2 464 (by omega)).trans hO
  cases r with
  | inl w =>
    obtain ⟨y, rfl⟩ := hr
    obtain ⟨rfl, rfl⟩ := w3
    refine Xk.i ?_
    refine x_i2l dL_set_8 ?_
    refine x_lastore dL_set_9 (by first | assumption | (simp (disch := omega) only [up_s, up_n]; first | assumption | rfl)) (by decide) ?_
    refine x_goto 17 dL_set_10 (by decide) ?_
    refine x_iconst (nI 0) dL_set_17 (by decide) ?_
    refine x_ireturn dL_set_18 ?_
    refine ⟨_, 0, _, rfl, w1.out, up_s, fun j hj => ?_, rfl, rfl, y, rfl, ?_⟩
    · rw [up_n (by omega)]
      exact w2 j (by omega)
    · show (if 0 = (nI 0).toNatClampNeg then y.toInt64 else f 0) = y.toInt64
      rw [if_pos (by decide)]
  | inr E =>
    obtain ⟨rfl, rfl⟩ := w3
    have hr2 : E ∈ [2] := hr
    simp only [List.mem_cons, List.not_mem_nil, or_false] at hr2
    subst hr2
    refine Xk.c (ls' := [some (.ref 2), some (.int p0), some (.int p1), some (.ref 464), none]) (by decide) dL_set_13 rfl rfl ?_
    refine x_iconst (nI 1) dL_set_15 (by decide) ?_
    refine x_ireturn dL_set_16 ?_
    exact ⟨c', _, f, rfl, w1, hO', fun j hj => w2 j (by omega), rfl, rfl⟩
theorem res_letter {S : St} {p0 p1 : Int32} : ResI (letterM p0 p1 S).1 [1, 2] := by
  unfold letterM
  repeat' split
  all_goals first
    | exact ⟨_, rfl⟩
    | (show _ ∈ _; decide)
set_option maxRecDepth 20000 in
set_option maxHeartbeats 2000000 in
theorem w_letter {c : Nat → VC} {z k s : Nat} {x : Bool} {S : St} (h : CaseAt c S) (hk : StOK S) {f : Nat → Int64} (hO : c 464 = cL 1 f) {p0 p1 : Int32} : Cm k_L_letter [.ref 2, .int p0, .int p1, .ref 464] ((z, x, k, s), c) (WQ z x k s c (id) (letterM p0 p1 S).1 (letterM p0 p1 S).2) := by
  have hh2 := h.1
  have hr : ResI (letterM p0 p1 S).1 [1, 2] := res_letter
  refine Cm.in (M := M_L_letter) (ls := [some (.ref 2), some (.int p0), some (.int p1), some (.ref 464), none]) rfl rfl ?_
  refine x_aload_n dL_letter_0 rfl ?_
  refine x_iconst (nI 0) dL_letter_1 (by decide) ?_
  refine x_aload_n dL_letter_2 rfl ?_
  refine x_iload_n dL_letter_3 rfl ?_
  refine x_iload_n dL_letter_4 rfl ?_
  refine x_cv3 dL_letter_5 rfl (by first | assumption | (simp (disch := omega) only [up_s, up_n]; first | assumption | rfl)) rfl ?_
  refine (s_X4_letter h).mono (fun q h' hq => ?_)
  generalize letterM p0 p1 S = R at hr hq ⊢
  obtain ⟨r, S'⟩ := R
  obtain ⟨c', w1, w2, w3⟩ := hq
  have hO' : c' 464 = cL 1 f := (w2 464 (by omega)).trans hO
  cases r with
  | inl w =>
    obtain ⟨y, rfl⟩ := hr
    obtain ⟨rfl, rfl⟩ := w3
    refine Xk.i ?_
    refine x_i2l dL_letter_8 ?_
    refine x_lastore dL_letter_9 (by first | assumption | (simp (disch := omega) only [up_s, up_n]; first | assumption | rfl)) (by decide) ?_
    refine x_goto 21 dL_letter_10 (by decide) ?_
    refine x_iconst (nI 0) dL_letter_21 (by decide) ?_
    refine x_ireturn dL_letter_22 ?_
    refine ⟨_, 0, _, rfl, w1.out, up_s, fun j hj => ?_, rfl, rfl, y, rfl, ?_⟩
    · rw [up_n (by omega)]
      exact w2 j (by omega)
    · show (if 0 = (nI 0).toNatClampNeg then y.toInt64 else f 0) = y.toInt64
      rw [if_pos (by decide)]
  | inr E =>
    obtain ⟨rfl, rfl⟩ := w3
    have hr2 : E ∈ [1, 2] := hr
    simp only [List.mem_cons, List.not_mem_nil, or_false] at hr2
    rcases hr2 with rfl | rfl
    · refine Xk.c (ls' := [some (.ref 2), some (.int p0), some (.int p1), some (.ref 464), none]) (by decide) dL_letter_13 rfl rfl ?_
      refine x_iconst (nI 1) dL_letter_15 (by decide) ?_
      refine x_ireturn dL_letter_16 ?_
      exact ⟨c', _, f, rfl, w1, hO', fun j hj => w2 j (by omega), rfl, rfl⟩
    · refine Xk.c (ls' := [some (.ref 2), some (.int p0), some (.int p1), some (.ref 464), none]) (by decide) dL_letter_17 rfl rfl ?_
      refine x_iconst (nI 2) dL_letter_19 (by decide) ?_
      refine x_ireturn dL_letter_20 ?_
      exact ⟨c', _, f, rfl, w1, hO', fun j hj => w2 j (by omega), rfl, rfl⟩
theorem res_inBox {S : St} {p0 p1 : Int32} : ResI (inBoxM p0 p1 S).1 [1] := by
  unfold inBoxM
  repeat' split
  all_goals first
    | exact ⟨_, rfl⟩
    | (show _ ∈ _; decide)
set_option maxRecDepth 20000 in
set_option maxHeartbeats 2000000 in
theorem w_inBox {c : Nat → VC} {z k s : Nat} {x : Bool} {S : St} (h : CaseAt c S) (hk : StOK S) {f : Nat → Int64} (hO : c 464 = cL 1 f) {p0 p1 : Int32} : Cm k_L_inBox [.ref 2, .int p0, .int p1, .ref 464] ((z, x, k, s), c) (WQ z x k s c (id) (inBoxM p0 p1 S).1 (inBoxM p0 p1 S).2) := by
  have hh2 := h.1
  have hr : ResI (inBoxM p0 p1 S).1 [1] := res_inBox
  refine Cm.in (M := M_L_inBox) (ls := [some (.ref 2), some (.int p0), some (.int p1), some (.ref 464), none]) rfl rfl ?_
  refine x_aload_n dL_inBox_0 rfl ?_
  refine x_iconst (nI 0) dL_inBox_1 (by decide) ?_
  refine x_aload_n dL_inBox_2 rfl ?_
  refine x_iload_n dL_inBox_3 rfl ?_
  refine x_iload_n dL_inBox_4 rfl ?_
  refine x_cv3 dL_inBox_5 rfl (by first | assumption | (simp (disch := omega) only [up_s, up_n]; first | assumption | rfl)) rfl ?_
  refine (s_X4_inBox h).mono (fun q h' hq => ?_)
  generalize inBoxM p0 p1 S = R at hr hq ⊢
  obtain ⟨r, S'⟩ := R
  obtain ⟨c', w1, w2, w3⟩ := hq
  have hO' : c' 464 = cL 1 f := (w2 464 (by omega)).trans hO
  cases r with
  | inl w =>
    obtain ⟨y, rfl⟩ := hr
    obtain ⟨rfl, rfl⟩ := w3
    refine Xk.i ?_
    refine x_i2l dL_inBox_8 ?_
    refine x_lastore dL_inBox_9 (by first | assumption | (simp (disch := omega) only [up_s, up_n]; first | assumption | rfl)) (by decide) ?_
    refine x_goto 17 dL_inBox_10 (by decide) ?_
    refine x_iconst (nI 0) dL_inBox_17 (by decide) ?_
    refine x_ireturn dL_inBox_18 ?_
    refine ⟨_, 0, _, rfl, w1.out, up_s, fun j hj => ?_, rfl, rfl, y, rfl, ?_⟩
    · rw [up_n (by omega)]
      exact w2 j (by omega)
    · show (if 0 = (nI 0).toNatClampNeg then y.toInt64 else f 0) = y.toInt64
      rw [if_pos (by decide)]
  | inr E =>
    obtain ⟨rfl, rfl⟩ := w3
    have hr2 : E ∈ [1] := hr
    simp only [List.mem_cons, List.not_mem_nil, or_false] at hr2
    subst hr2
    refine Xk.c (ls' := [some (.ref 2), some (.int p0), some (.int p1), some (.ref 464), none]) (by decide) dL_inBox_13 rfl rfl ?_
    refine x_iconst (nI 1) dL_inBox_15 (by decide) ?_
    refine x_ireturn dL_inBox_16 ?_
    exact ⟨c', _, f, rfl, w1, hO', fun j hj => w2 j (by omega), rfl, rfl⟩
theorem res_value {S : St} {p0 : Int32} : ResI (valueM p0 S).1 [2] := by
  unfold valueM
  repeat' split
  all_goals first
    | exact ⟨_, rfl⟩
    | (show _ ∈ _; decide)
set_option maxRecDepth 20000 in
set_option maxHeartbeats 2000000 in
theorem w_value {c : Nat → VC} {z k s : Nat} {x : Bool} {S : St} (h : CaseAt c S) (hk : StOK S) {f : Nat → Int64} (hO : c 464 = cL 1 f) {p0 : Int32} : Cm k_L_value [.ref 2, .int p0, .ref 464] ((z, x, k, s), c) (WQ z x k s c (fun E => E - 1) (valueM p0 S).1 (valueM p0 S).2) := by
  have hh2 := h.1
  have hr : ResI (valueM p0 S).1 [2] := res_value
  refine Cm.in (M := M_L_value) (ls := [some (.ref 2), some (.int p0), some (.ref 464), none]) rfl rfl ?_
  refine x_aload_n dL_value_0 rfl ?_
  refine x_iconst (nI 0) dL_value_1 (by decide) ?_
  refine x_aload_n dL_value_2 rfl ?_
  refine x_iload_n dL_value_3 rfl ?_
  refine x_cv2 dL_value_4 rfl (by first | assumption | (simp (disch := omega) only [up_s, up_n]; first | assumption | rfl)) rfl ?_
  refine (s_X4_value h).mono (fun q h' hq => ?_)
  generalize valueM p0 S = R at hr hq ⊢
  obtain ⟨r, S'⟩ := R
  obtain ⟨c', w1, w2, w3⟩ := hq
  have hO' : c' 464 = cL 1 f := (w2 464 (by omega)).trans hO
  cases r with
  | inl w =>
    obtain ⟨y, rfl⟩ := hr
    obtain ⟨rfl, rfl⟩ := w3
    refine Xk.i ?_
    refine x_i2l dL_value_7 ?_
    refine x_lastore dL_value_8 (by first | assumption | (simp (disch := omega) only [up_s, up_n]; first | assumption | rfl)) (by decide) ?_
    refine x_goto 15 dL_value_9 (by decide) ?_
    refine x_iconst (nI 0) dL_value_15 (by decide) ?_
    refine x_ireturn dL_value_16 ?_
    refine ⟨_, 0, _, rfl, w1.out, up_s, fun j hj => ?_, rfl, rfl, y, rfl, ?_⟩
    · rw [up_n (by omega)]
      exact w2 j (by omega)
    · show (if 0 = (nI 0).toNatClampNeg then y.toInt64 else f 0) = y.toInt64
      rw [if_pos (by decide)]
  | inr E =>
    obtain ⟨rfl, rfl⟩ := w3
    have hr2 : E ∈ [2] := hr
    simp only [List.mem_cons, List.not_mem_nil, or_false] at hr2
    subst hr2
    refine Xk.cn (ls' := [some (.ref 2), some (.int p0), some (.ref 464), none]) (by decide) dL_value_12 rfl rfl ?_
    refine x_iconst (nI 1) dL_value_13 (by decide) ?_
    refine x_ireturn dL_value_14 ?_
    exact ⟨c', _, f, rfl, w1, hO', fun j hj => w2 j (by omega), rfl, rfl⟩
theorem res_setLine {S : St} {p0 : Int32} : ResI (setLineM p0 S).1 [1, 3] := by
  unfold setLineM
  repeat' split
  all_goals first
    | exact ⟨_, rfl⟩
    | (show _ ∈ _; decide)
set_option maxRecDepth 20000 in
set_option maxHeartbeats 2000000 in
theorem w_setLine {c : Nat → VC} {z k s : Nat} {x : Bool} {S : St} (h : CaseAt c S) (hk : StOK S) {f : Nat → Int64} (hO : c 464 = cL 1 f) {p0 : Int32} : Cm k_L_setLine [.ref 2, .int p0, .ref 464] ((z, x, k, s), c) (WQ z x k s c (fun E => if E = 1 then 1 else 2) (setLineM p0 S).1 (setLineM p0 S).2) := by
  have hh2 := h.1
  have hr : ResI (setLineM p0 S).1 [1, 3] := res_setLine
  refine Cm.in (M := M_L_setLine) (ls := [some (.ref 2), some (.int p0), some (.ref 464), none]) rfl rfl ?_
  refine x_aload_n dL_setLine_0 rfl ?_
  refine x_iconst (nI 0) dL_setLine_1 (by decide) ?_
  refine x_aload_n dL_setLine_2 rfl ?_
  refine x_iload_n dL_setLine_3 rfl ?_
  refine x_cv2 dL_setLine_4 rfl (by first | assumption | (simp (disch := omega) only [up_s, up_n]; first | assumption | rfl)) rfl ?_
  refine (s_X4_setLine h).mono (fun q h' hq => ?_)
  generalize setLineM p0 S = R at hr hq ⊢
  obtain ⟨r, S'⟩ := R
  obtain ⟨c', w1, w2, w3⟩ := hq
  have hO' : c' 464 = cL 1 f := (w2 464 (by omega)).trans hO
  cases r with
  | inl w =>
    obtain ⟨y, rfl⟩ := hr
    obtain ⟨rfl, rfl⟩ := w3
    refine Xk.i ?_
    refine x_i2l dL_setLine_7 ?_
    refine x_lastore dL_setLine_8 (by first | assumption | (simp (disch := omega) only [up_s, up_n]; first | assumption | rfl)) (by decide) ?_
    refine x_goto 18 dL_setLine_9 (by decide) ?_
    refine x_iconst (nI 0) dL_setLine_18 (by decide) ?_
    refine x_ireturn dL_setLine_19 ?_
    refine ⟨_, 0, _, rfl, w1.out, up_s, fun j hj => ?_, rfl, rfl, y, rfl, ?_⟩
    · rw [up_n (by omega)]
      exact w2 j (by omega)
    · show (if 0 = (nI 0).toNatClampNeg then y.toInt64 else f 0) = y.toInt64
      rw [if_pos (by decide)]
  | inr E =>
    obtain ⟨rfl, rfl⟩ := w3
    have hr2 : E ∈ [1, 3] := hr
    simp only [List.mem_cons, List.not_mem_nil, or_false] at hr2
    rcases hr2 with rfl | rfl
    · refine Xk.cn (ls' := [some (.ref 2), some (.int p0), some (.ref 464), none]) (by decide) dL_setLine_12 rfl rfl ?_
      refine x_iconst (nI 1) dL_setLine_13 (by decide) ?_
      refine x_ireturn dL_setLine_14 ?_
      exact ⟨c', _, f, rfl, w1, hO', fun j hj => w2 j (by omega), rfl, rfl⟩
    · refine Xk.cn (ls' := [some (.ref 2), some (.int p0), some (.ref 464), none]) (by decide) dL_setLine_15 rfl rfl ?_
      refine x_iconst (nI 2) dL_setLine_16 (by decide) ?_
      refine x_ireturn dL_setLine_17 ?_
      exact ⟨c', _, f, rfl, w1, hO', fun j hj => w2 j (by omega), rfl, rfl⟩
theorem res_correct {S : St} {p0 : Int32} : ResI (correctM p0 S).1 [1] := by
  unfold correctM
  repeat' split
  all_goals first
    | exact ⟨_, rfl⟩
    | (show _ ∈ _; decide)
set_option maxRecDepth 20000 in
set_option maxHeartbeats 2000000 in
theorem w_correct {c : Nat → VC} {z k s : Nat} {x : Bool} {S : St} (h : CaseAt c S) (hk : StOK S) {f : Nat → Int64} (hO : c 464 = cL 1 f) {p0 : Int32} : Cm k_L_correct [.ref 2, .int p0, .ref 464] ((z, x, k, s), c) (WQ z x k s c (id) (correctM p0 S).1 (correctM p0 S).2) := by
  have hh2 := h.1
  have hr : ResI (correctM p0 S).1 [1] := res_correct
  refine Cm.in (M := M_L_correct) (ls := [some (.ref 2), some (.int p0), some (.ref 464), none]) rfl rfl ?_
  refine x_aload_n dL_correct_0 rfl ?_
  refine x_iconst (nI 0) dL_correct_1 (by decide) ?_
  refine x_aload_n dL_correct_2 rfl ?_
  refine x_iload_n dL_correct_3 rfl ?_
  refine x_cv2 dL_correct_4 rfl (by first | assumption | (simp (disch := omega) only [up_s, up_n]; first | assumption | rfl)) rfl ?_
  refine (s_X4_correct h hk).mono (fun q h' hq => ?_)
  generalize correctM p0 S = R at hr hq ⊢
  obtain ⟨r, S'⟩ := R
  obtain ⟨c', w1, w2, w3⟩ := hq
  have hO' : c' 464 = cL 1 f := (w2 464 (by omega)).trans hO
  cases r with
  | inl w =>
    obtain ⟨y, rfl⟩ := hr
    obtain ⟨rfl, rfl⟩ := w3
    refine Xk.i ?_
    refine x_i2l dL_correct_7 ?_
    refine x_lastore dL_correct_8 (by first | assumption | (simp (disch := omega) only [up_s, up_n]; first | assumption | rfl)) (by decide) ?_
    refine x_goto 15 dL_correct_9 (by decide) ?_
    refine x_iconst (nI 0) dL_correct_15 (by decide) ?_
    refine x_ireturn dL_correct_16 ?_
    refine ⟨_, 0, _, rfl, w1.out, up_s, fun j hj => ?_, rfl, rfl, y, rfl, ?_⟩
    · rw [up_n (by omega)]
      exact w2 j (by omega)
    · show (if 0 = (nI 0).toNatClampNeg then y.toInt64 else f 0) = y.toInt64
      rw [if_pos (by decide)]
  | inr E =>
    obtain ⟨rfl, rfl⟩ := w3
    have hr2 : E ∈ [1] := hr
    simp only [List.mem_cons, List.not_mem_nil, or_false] at hr2
    subst hr2
    refine Xk.cn (ls' := [some (.ref 2), some (.int p0), some (.ref 464), none]) (by decide) dL_correct_12 rfl rfl ?_
    refine x_iconst (nI 1) dL_correct_13 (by decide) ?_
    refine x_ireturn dL_correct_14 ?_
    exact ⟨c', _, f, rfl, w1, hO', fun j hj => w2 j (by omega), rfl, rfl⟩
theorem res_distribute {S : St} {p0 : Int32} : ResI (distributeM p0 S).1 [1] := by
  unfold distributeM
  repeat' split
  all_goals first
    | exact ⟨_, rfl⟩
    | (show _ ∈ _; decide)
set_option maxRecDepth 20000 in
set_option maxHeartbeats 2000000 in
theorem w_distribute {c : Nat → VC} {z k s : Nat} {x : Bool} {S : St} (h : CaseAt c S) (hk : StOK S) {f : Nat → Int64} (hO : c 464 = cL 1 f) {p0 : Int32} : Cm k_L_distribute [.ref 2, .int p0, .ref 464] ((z, x, k, s), c) (WQ z x k s c (id) (distributeM p0 S).1 (distributeM p0 S).2) := by
  have hh2 := h.1
  have hr : ResI (distributeM p0 S).1 [1] := res_distribute
  refine Cm.in (M := M_L_distribute) (ls := [some (.ref 2), some (.int p0), some (.ref 464), none]) rfl rfl ?_
  refine x_aload_n dL_distribute_0 rfl ?_
  refine x_iconst (nI 0) dL_distribute_1 (by decide) ?_
  refine x_aload_n dL_distribute_2 rfl ?_
  refine x_iload_n dL_distribute_3 rfl ?_
  refine x_cv2 dL_distribute_4 rfl (by first | assumption | (simp (disch := omega) only [up_s, up_n]; first | assumption | rfl)) rfl ?_
  refine (s_X4_distribute h hk).mono (fun q h' hq => ?_)
  generalize distributeM p0 S = R at hr hq ⊢
  obtain ⟨r, S'⟩ := R
  obtain ⟨c', w1, w2, w3⟩ := hq
  have hO' : c' 464 = cL 1 f := (w2 464 (by omega)).trans hO
  cases r with
  | inl w =>
    obtain ⟨y, rfl⟩ := hr
    obtain ⟨rfl, rfl⟩ := w3
    refine Xk.i ?_
    refine x_i2l dL_distribute_7 ?_
    refine x_lastore dL_distribute_8 (by first | assumption | (simp (disch := omega) only [up_s, up_n]; first | assumption | rfl)) (by decide) ?_
    refine x_goto 15 dL_distribute_9 (by decide) ?_
    refine x_iconst (nI 0) dL_distribute_15 (by decide) ?_
    refine x_ireturn dL_distribute_16 ?_
    refine ⟨_, 0, _, rfl, w1.out, up_s, fun j hj => ?_, rfl, rfl, y, rfl, ?_⟩
    · rw [up_n (by omega)]
      exact w2 j (by omega)
    · show (if 0 = (nI 0).toNatClampNeg then y.toInt64 else f 0) = y.toInt64
      rw [if_pos (by decide)]
  | inr E =>
    obtain ⟨rfl, rfl⟩ := w3
    have hr2 : E ∈ [1] := hr
    simp only [List.mem_cons, List.not_mem_nil, or_false] at hr2
    subst hr2
    refine Xk.cn (ls' := [some (.ref 2), some (.int p0), some (.ref 464), none]) (by decide) dL_distribute_12 rfl rfl ?_
    refine x_iconst (nI 1) dL_distribute_13 (by decide) ?_
    refine x_ireturn dL_distribute_14 ?_
    exact ⟨c', _, f, rfl, w1, hO', fun j hj => w2 j (by omega), rfl, rfl⟩
theorem res_pie {S : St} {p0 : Int32} : ResI (pieM p0 S).1 [1] := by
  unfold pieM
  repeat' split
  all_goals first
    | exact ⟨_, rfl⟩
    | (show _ ∈ _; decide)
set_option maxRecDepth 20000 in
set_option maxHeartbeats 2000000 in
theorem w_pie {c : Nat → VC} {z k s : Nat} {x : Bool} {S : St} (h : CaseAt c S) (hk : StOK S) {f : Nat → Int64} (hO : c 464 = cL 1 f) {p0 : Int32} : Cm k_L_pie [.ref 2, .int p0, .ref 464] ((z, x, k, s), c) (WQ z x k s c (id) (pieM p0 S).1 (pieM p0 S).2) := by
  have hh2 := h.1
  have hr : ResI (pieM p0 S).1 [1] := res_pie
  refine Cm.in (M := M_L_pie) (ls := [some (.ref 2), some (.int p0), some (.ref 464), none]) rfl rfl ?_
  refine x_aload_n dL_pie_0 rfl ?_
  refine x_iconst (nI 0) dL_pie_1 (by decide) ?_
  refine x_aload_n dL_pie_2 rfl ?_
  refine x_iload_n dL_pie_3 rfl ?_
  refine x_cv2 dL_pie_4 rfl (by first | assumption | (simp (disch := omega) only [up_s, up_n]; first | assumption | rfl)) rfl ?_
  refine (s_X4_pie h hk).mono (fun q h' hq => ?_)
  generalize pieM p0 S = R at hr hq ⊢
  obtain ⟨r, S'⟩ := R
  obtain ⟨c', w1, w2, w3⟩ := hq
  have hO' : c' 464 = cL 1 f := (w2 464 (by omega)).trans hO
  cases r with
  | inl w =>
    obtain ⟨y, rfl⟩ := hr
    obtain ⟨rfl, rfl⟩ := w3
    refine Xk.i ?_
    refine x_i2l dL_pie_7 ?_
    refine x_lastore dL_pie_8 (by first | assumption | (simp (disch := omega) only [up_s, up_n]; first | assumption | rfl)) (by decide) ?_
    refine x_goto 15 dL_pie_9 (by decide) ?_
    refine x_iconst (nI 0) dL_pie_15 (by decide) ?_
    refine x_ireturn dL_pie_16 ?_
    refine ⟨_, 0, _, rfl, w1.out, up_s, fun j hj => ?_, rfl, rfl, y, rfl, ?_⟩
    · rw [up_n (by omega)]
      exact w2 j (by omega)
    · show (if 0 = (nI 0).toNatClampNeg then y.toInt64 else f 0) = y.toInt64
      rw [if_pos (by decide)]
  | inr E =>
    obtain ⟨rfl, rfl⟩ := w3
    have hr2 : E ∈ [1] := hr
    simp only [List.mem_cons, List.not_mem_nil, or_false] at hr2
    subst hr2
    refine Xk.cn (ls' := [some (.ref 2), some (.int p0), some (.ref 464), none]) (by decide) dL_pie_12 rfl rfl ?_
    refine x_iconst (nI 1) dL_pie_13 (by decide) ?_
    refine x_ireturn dL_pie_14 ?_
    exact ⟨c', _, f, rfl, w1, hO', fun j hj => w2 j (by omega), rfl, rfl⟩
theorem res_sortHeap {S : St} {p0 : Int32} : ResI (sortHeapM p0 S).1 [2] := by
  unfold sortHeapM
  repeat' split
  all_goals first
    | exact ⟨_, rfl⟩
    | (show _ ∈ _; decide)
set_option maxRecDepth 20000 in
set_option maxHeartbeats 2000000 in
theorem w_sortHeap {c : Nat → VC} {z k s : Nat} {x : Bool} {S : St} (h : CaseAt c S) (hk : StOK S) {f : Nat → Int64} (hO : c 464 = cL 1 f) {p0 : Int32} : Cm k_L_sortHeap [.ref 2, .int p0, .ref 464] ((z, x, k, s), c) (WQ z x k s c (fun E => E - 1) (sortHeapM p0 S).1 (sortHeapM p0 S).2) := by
  have hh2 := h.1
  have hr : ResI (sortHeapM p0 S).1 [2] := res_sortHeap
  refine Cm.in (M := M_L_sortHeap) (ls := [some (.ref 2), some (.int p0), some (.ref 464), none]) rfl rfl ?_
  refine x_aload_n dL_sortHeap_0 rfl ?_
  refine x_iconst (nI 0) dL_sortHeap_1 (by decide) ?_
  refine x_aload_n dL_sortHeap_2 rfl ?_
  refine x_iload_n dL_sortHeap_3 rfl ?_
  refine x_cv2 dL_sortHeap_4 rfl (by first | assumption | (simp (disch := omega) only [up_s, up_n]; first | assumption | rfl)) rfl ?_
  refine (s_X4_sortHeap h hk).mono (fun q h' hq => ?_)
  generalize sortHeapM p0 S = R at hr hq ⊢
  obtain ⟨r, S'⟩ := R
  obtain ⟨c', w1, w2, w3⟩ := hq
  have hO' : c' 464 = cL 1 f := (w2 464 (by omega)).trans hO
  cases r with
  | inl w =>
    obtain ⟨y, rfl⟩ := hr
    obtain ⟨rfl, rfl⟩ := w3
    refine Xk.i ?_
    refine x_i2l dL_sortHeap_7 ?_
    refine x_lastore dL_sortHeap_8 (by first | assumption | (simp (disch := omega) only [up_s, up_n]; first | assumption | rfl)) (by decide) ?_
    refine x_goto 15 dL_sortHeap_9 (by decide) ?_
    refine x_iconst (nI 0) dL_sortHeap_15 (by decide) ?_
    refine x_ireturn dL_sortHeap_16 ?_
    refine ⟨_, 0, _, rfl, w1.out, up_s, fun j hj => ?_, rfl, rfl, y, rfl, ?_⟩
    · rw [up_n (by omega)]
      exact w2 j (by omega)
    · show (if 0 = (nI 0).toNatClampNeg then y.toInt64 else f 0) = y.toInt64
      rw [if_pos (by decide)]
  | inr E =>
    obtain ⟨rfl, rfl⟩ := w3
    have hr2 : E ∈ [2] := hr
    simp only [List.mem_cons, List.not_mem_nil, or_false] at hr2
    subst hr2
    refine Xk.cn (ls' := [some (.ref 2), some (.int p0), some (.ref 464), none]) (by decide) dL_sortHeap_12 rfl rfl ?_
    refine x_iconst (nI 1) dL_sortHeap_13 (by decide) ?_
    refine x_ireturn dL_sortHeap_14 ?_
    exact ⟨c', _, f, rfl, w1, hO', fun j hj => w2 j (by omega), rfl, rfl⟩
theorem res_forme {S : St} {p0 p1 : Int32} : ResI (formeM p0 p1 S).1 [1, 2] := by
  unfold formeM
  repeat' split
  all_goals first
    | exact ⟨_, rfl⟩
    | (show _ ∈ _; decide)
set_option maxRecDepth 20000 in
set_option maxHeartbeats 2000000 in
theorem w_forme {c : Nat → VC} {z k s : Nat} {x : Bool} {S : St} (h : CaseAt c S) (hk : StOK S) {f : Nat → Int64} (hO : c 464 = cL 1 f) {p0 p1 : Int32} : Cm k_L_forme [.ref 2, .int p0, .int p1, .ref 464] ((z, x, k, s), c) (WQ z x k s c (id) (formeM p0 p1 S).1 (formeM p0 p1 S).2) := by
  have hh2 := h.1
  have hr : ResI (formeM p0 p1 S).1 [1, 2] := res_forme
  refine Cm.in (M := M_L_forme) (ls := [some (.ref 2), some (.int p0), some (.int p1), some (.ref 464), none]) rfl rfl ?_
  refine x_aload_n dL_forme_0 rfl ?_
  refine x_iconst (nI 0) dL_forme_1 (by decide) ?_
  refine x_aload_n dL_forme_2 rfl ?_
  refine x_iload_n dL_forme_3 rfl ?_
  refine x_iload_n dL_forme_4 rfl ?_
  refine x_cv3 dL_forme_5 rfl (by first | assumption | (simp (disch := omega) only [up_s, up_n]; first | assumption | rfl)) rfl ?_
  refine (s_X4_forme h hk).mono (fun q h' hq => ?_)
  generalize formeM p0 p1 S = R at hr hq ⊢
  obtain ⟨r, S'⟩ := R
  obtain ⟨c', w1, w2, w3⟩ := hq
  have hO' : c' 464 = cL 1 f := (w2 464 (by omega)).trans hO
  cases r with
  | inl w =>
    obtain ⟨y, rfl⟩ := hr
    obtain ⟨rfl, rfl⟩ := w3
    refine Xk.i ?_
    refine x_i2l dL_forme_8 ?_
    refine x_lastore dL_forme_9 (by first | assumption | (simp (disch := omega) only [up_s, up_n]; first | assumption | rfl)) (by decide) ?_
    refine x_goto 21 dL_forme_10 (by decide) ?_
    refine x_iconst (nI 0) dL_forme_21 (by decide) ?_
    refine x_ireturn dL_forme_22 ?_
    refine ⟨_, 0, _, rfl, w1.out, up_s, fun j hj => ?_, rfl, rfl, y, rfl, ?_⟩
    · rw [up_n (by omega)]
      exact w2 j (by omega)
    · show (if 0 = (nI 0).toNatClampNeg then y.toInt64 else f 0) = y.toInt64
      rw [if_pos (by decide)]
  | inr E =>
    obtain ⟨rfl, rfl⟩ := w3
    have hr2 : E ∈ [1, 2] := hr
    simp only [List.mem_cons, List.not_mem_nil, or_false] at hr2
    rcases hr2 with rfl | rfl
    · refine Xk.c (ls' := [some (.ref 2), some (.int p0), some (.int p1), some (.ref 464), none]) (by decide) dL_forme_13 rfl rfl ?_
      refine x_iconst (nI 1) dL_forme_15 (by decide) ?_
      refine x_ireturn dL_forme_16 ?_
      exact ⟨c', _, f, rfl, w1, hO', fun j hj => w2 j (by omega), rfl, rfl⟩
    · refine Xk.c (ls' := [some (.ref 2), some (.int p0), some (.int p1), some (.ref 464), none]) (by decide) dL_forme_17 rfl rfl ?_
      refine x_iconst (nI 2) dL_forme_19 (by decide) ?_
      refine x_ireturn dL_forme_20 ?_
      exact ⟨c', _, f, rfl, w1, hO', fun j hj => w2 j (by omega), rfl, rfl⟩
theorem res_places {S : St} {p0 p1 : Int32} : ResI (placesM p0 p1 S).1 [1] := by
  unfold placesM
  repeat' split
  all_goals first
    | exact ⟨_, rfl⟩
    | (show _ ∈ _; decide)
set_option maxRecDepth 20000 in
set_option maxHeartbeats 2000000 in
theorem w_places {c : Nat → VC} {z k s : Nat} {x : Bool} {S : St} (h : CaseAt c S) (hk : StOK S) {f : Nat → Int64} (hO : c 464 = cL 1 f) {p0 p1 : Int32} : Cm k_L_places [.ref 2, .int p0, .int p1, .ref 464] ((z, x, k, s), c) (WQ z x k s c (id) (placesM p0 p1 S).1 (placesM p0 p1 S).2) := by
  have hh2 := h.1
  have hr : ResI (placesM p0 p1 S).1 [1] := res_places
  refine Cm.in (M := M_L_places) (ls := [some (.ref 2), some (.int p0), some (.int p1), some (.ref 464), none]) rfl rfl ?_
  refine x_aload_n dL_places_0 rfl ?_
  refine x_iconst (nI 0) dL_places_1 (by decide) ?_
  refine x_aload_n dL_places_2 rfl ?_
  refine x_iload_n dL_places_3 rfl ?_
  refine x_iload_n dL_places_4 rfl ?_
  refine x_cv3 dL_places_5 rfl (by first | assumption | (simp (disch := omega) only [up_s, up_n]; first | assumption | rfl)) rfl ?_
  refine (s_X4_places h).mono (fun q h' hq => ?_)
  generalize placesM p0 p1 S = R at hr hq ⊢
  obtain ⟨r, S'⟩ := R
  obtain ⟨c', w1, w2, w3⟩ := hq
  have hO' : c' 464 = cL 1 f := (w2 464 (by omega)).trans hO
  cases r with
  | inl w =>
    obtain ⟨y, rfl⟩ := hr
    obtain ⟨rfl, rfl⟩ := w3
    refine Xk.i ?_
    refine x_i2l dL_places_8 ?_
    refine x_lastore dL_places_9 (by first | assumption | (simp (disch := omega) only [up_s, up_n]; first | assumption | rfl)) (by decide) ?_
    refine x_goto 17 dL_places_10 (by decide) ?_
    refine x_iconst (nI 0) dL_places_17 (by decide) ?_
    refine x_ireturn dL_places_18 ?_
    refine ⟨_, 0, _, rfl, w1.out, up_s, fun j hj => ?_, rfl, rfl, y, rfl, ?_⟩
    · rw [up_n (by omega)]
      exact w2 j (by omega)
    · show (if 0 = (nI 0).toNatClampNeg then y.toInt64 else f 0) = y.toInt64
      rw [if_pos (by decide)]
  | inr E =>
    obtain ⟨rfl, rfl⟩ := w3
    have hr2 : E ∈ [1] := hr
    simp only [List.mem_cons, List.not_mem_nil, or_false] at hr2
    subst hr2
    refine Xk.c (ls' := [some (.ref 2), some (.int p0), some (.int p1), some (.ref 464), none]) (by decide) dL_places_13 rfl rfl ?_
    refine x_iconst (nI 1) dL_places_15 (by decide) ?_
    refine x_ireturn dL_places_16 ?_
    exact ⟨c', _, f, rfl, w1, hO', fun j hj => w2 j (by omega), rfl, rfl⟩
theorem res_place {S : St} {p0 p1 p2 p3 : Int32} : ResI (placeM p0 p1 p2 p3 S).1 [1, 2] := by
  unfold placeM
  repeat' split
  all_goals first
    | exact ⟨_, rfl⟩
    | (show _ ∈ _; decide)
set_option maxRecDepth 20000 in
set_option maxHeartbeats 2000000 in
theorem w_place {c : Nat → VC} {z k s : Nat} {x : Bool} {S : St} (h : CaseAt c S) (hk : StOK S) {f : Nat → Int64} (hO : c 464 = cL 1 f) {p0 p1 p2 p3 : Int32} : Cm k_L_place [.ref 2, .int p0, .int p1, .int p2, .int p3, .ref 464] ((z, x, k, s), c) (WQ z x k s c (id) (placeM p0 p1 p2 p3 S).1 (placeM p0 p1 p2 p3 S).2) := by
  have hh2 := h.1
  have hr : ResI (placeM p0 p1 p2 p3 S).1 [1, 2] := res_place
  refine Cm.in (M := M_L_place) (ls := [some (.ref 2), some (.int p0), some (.int p1), some (.int p2), some (.int p3), some (.ref 464), none]) rfl rfl ?_
  refine x_aload dL_place_0 rfl ?_
  refine x_iconst (nI 0) dL_place_2 (by decide) ?_
  refine x_aload_n dL_place_3 rfl ?_
  refine x_iload_n dL_place_4 rfl ?_
  refine x_iload_n dL_place_5 rfl ?_
  refine x_iload_n dL_place_6 rfl ?_
  refine x_iload dL_place_7 rfl ?_
  refine x_cv5 dL_place_9 rfl (by first | assumption | (simp (disch := omega) only [up_s, up_n]; first | assumption | rfl)) rfl ?_
  refine (s_X4_place h).mono (fun q h' hq => ?_)
  generalize placeM p0 p1 p2 p3 S = R at hr hq ⊢
  obtain ⟨r, S'⟩ := R
  obtain ⟨c', w1, w2, w3⟩ := hq
  have hO' : c' 464 = cL 1 f := (w2 464 (by omega)).trans hO
  cases r with
  | inl w =>
    obtain ⟨y, rfl⟩ := hr
    obtain ⟨rfl, rfl⟩ := w3
    refine Xk.i ?_
    refine x_i2l dL_place_12 ?_
    refine x_lastore dL_place_13 (by first | assumption | (simp (disch := omega) only [up_s, up_n]; first | assumption | rfl)) (by decide) ?_
    refine x_goto 25 dL_place_14 (by decide) ?_
    refine x_iconst (nI 0) dL_place_25 (by decide) ?_
    refine x_ireturn dL_place_26 ?_
    refine ⟨_, 0, _, rfl, w1.out, up_s, fun j hj => ?_, rfl, rfl, y, rfl, ?_⟩
    · rw [up_n (by omega)]
      exact w2 j (by omega)
    · show (if 0 = (nI 0).toNatClampNeg then y.toInt64 else f 0) = y.toInt64
      rw [if_pos (by decide)]
  | inr E =>
    obtain ⟨rfl, rfl⟩ := w3
    have hr2 : E ∈ [1, 2] := hr
    simp only [List.mem_cons, List.not_mem_nil, or_false] at hr2
    rcases hr2 with rfl | rfl
    · refine Xk.c (ls' := [some (.ref 2), some (.int p0), some (.int p1), some (.int p2), some (.int p3), some (.ref 464), none]) (by decide) dL_place_17 rfl rfl ?_
      refine x_iconst (nI 1) dL_place_19 (by decide) ?_
      refine x_ireturn dL_place_20 ?_
      exact ⟨c', _, f, rfl, w1, hO', fun j hj => w2 j (by omega), rfl, rfl⟩
    · refine Xk.c (ls' := [some (.ref 2), some (.int p0), some (.int p1), some (.int p2), some (.int p3), some (.ref 464), none]) (by decide) dL_place_21 rfl rfl ?_
      refine x_iconst (nI 2) dL_place_23 (by decide) ?_
      refine x_ireturn dL_place_24 ?_
      exact ⟨c', _, f, rfl, w1, hO', fun j hj => w2 j (by omega), rfl, rfl⟩
theorem res_proof {S : St} {p0 p1 : Int32} : ResI (proofM p0 p1 S).1 [1] := by
  unfold proofM
  repeat' split
  all_goals first
    | exact ⟨_, rfl⟩
    | (show _ ∈ _; decide)
set_option maxRecDepth 20000 in
set_option maxHeartbeats 2000000 in
theorem w_proof {c : Nat → VC} {z k s : Nat} {x : Bool} {S : St} (h : CaseAt c S) (hk : StOK S) {f : Nat → Int64} (hO : c 464 = cL 1 f) {p0 p1 : Int32} : Cm k_L_proof [.ref 2, .int p0, .int p1, .ref 464] ((z, x, k, s), c) (WQ z x k s c (id) (proofM p0 p1 S).1 (proofM p0 p1 S).2) := by
  have hh2 := h.1
  have hr : ResI (proofM p0 p1 S).1 [1] := res_proof
  refine Cm.in (M := M_L_proof) (ls := [some (.ref 2), some (.int p0), some (.int p1), some (.ref 464), none]) rfl rfl ?_
  refine x_aload_n dL_proof_0 rfl ?_
  refine x_iconst (nI 0) dL_proof_1 (by decide) ?_
  refine x_aload_n dL_proof_2 rfl ?_
  refine x_iload_n dL_proof_3 rfl ?_
  refine x_iload_n dL_proof_4 rfl ?_
  refine x_cv3 dL_proof_5 rfl (by first | assumption | (simp (disch := omega) only [up_s, up_n]; first | assumption | rfl)) rfl ?_
  refine (s_X4_proof h).mono (fun q h' hq => ?_)
  generalize proofM p0 p1 S = R at hr hq ⊢
  obtain ⟨r, S'⟩ := R
  obtain ⟨c', w1, w2, w3⟩ := hq
  have hO' : c' 464 = cL 1 f := (w2 464 (by omega)).trans hO
  cases r with
  | inl w =>
    obtain ⟨y, rfl⟩ := hr
    obtain ⟨rfl, rfl⟩ := w3
    refine Xk.i ?_
    refine x_i2l dL_proof_8 ?_
    refine x_lastore dL_proof_9 (by first | assumption | (simp (disch := omega) only [up_s, up_n]; first | assumption | rfl)) (by decide) ?_
    refine x_goto 17 dL_proof_10 (by decide) ?_
    refine x_iconst (nI 0) dL_proof_17 (by decide) ?_
    refine x_ireturn dL_proof_18 ?_
    refine ⟨_, 0, _, rfl, w1.out, up_s, fun j hj => ?_, rfl, rfl, y, rfl, ?_⟩
    · rw [up_n (by omega)]
      exact w2 j (by omega)
    · show (if 0 = (nI 0).toNatClampNeg then y.toInt64 else f 0) = y.toInt64
      rw [if_pos (by decide)]
  | inr E =>
    obtain ⟨rfl, rfl⟩ := w3
    have hr2 : E ∈ [1] := hr
    simp only [List.mem_cons, List.not_mem_nil, or_false] at hr2
    subst hr2
    refine Xk.c (ls' := [some (.ref 2), some (.int p0), some (.int p1), some (.ref 464), none]) (by decide) dL_proof_13 rfl rfl ?_
    refine x_iconst (nI 1) dL_proof_15 (by decide) ?_
    refine x_ireturn dL_proof_16 ?_
    exact ⟨c', _, f, rfl, w1, hO', fun j hj => w2 j (by omega), rfl, rfl⟩
theorem res_inHeap {S : St} {p0 : Int32} : ResI (inHeapM p0 S).1 [1] := by
  unfold inHeapM
  repeat' split
  all_goals first
    | exact ⟨_, rfl⟩
    | (show _ ∈ _; decide)
set_option maxRecDepth 20000 in
set_option maxHeartbeats 2000000 in
theorem w_inHeap {c : Nat → VC} {z k s : Nat} {x : Bool} {S : St} (h : CaseAt c S) (hk : StOK S) {f : Nat → Int64} (hO : c 464 = cL 1 f) {p0 : Int32} : Cm k_L_inHeap [.ref 2, .int p0, .ref 464] ((z, x, k, s), c) (WQ z x k s c (id) (inHeapM p0 S).1 (inHeapM p0 S).2) := by
  have hh2 := h.1
  have hr : ResI (inHeapM p0 S).1 [1] := res_inHeap
  refine Cm.in (M := M_L_inHeap) (ls := [some (.ref 2), some (.int p0), some (.ref 464), none]) rfl rfl ?_
  refine x_aload_n dL_inHeap_0 rfl ?_
  refine x_iconst (nI 0) dL_inHeap_1 (by decide) ?_
  refine x_aload_n dL_inHeap_2 rfl ?_
  refine x_iload_n dL_inHeap_3 rfl ?_
  refine x_cv2 dL_inHeap_4 rfl (by first | assumption | (simp (disch := omega) only [up_s, up_n]; first | assumption | rfl)) rfl ?_
  refine (s_X4_inHeap h).mono (fun q h' hq => ?_)
  generalize inHeapM p0 S = R at hr hq ⊢
  obtain ⟨r, S'⟩ := R
  obtain ⟨c', w1, w2, w3⟩ := hq
  have hO' : c' 464 = cL 1 f := (w2 464 (by omega)).trans hO
  cases r with
  | inl w =>
    obtain ⟨y, rfl⟩ := hr
    obtain ⟨rfl, rfl⟩ := w3
    refine Xk.i ?_
    refine x_i2l dL_inHeap_7 ?_
    refine x_lastore dL_inHeap_8 (by first | assumption | (simp (disch := omega) only [up_s, up_n]; first | assumption | rfl)) (by decide) ?_
    refine x_goto 15 dL_inHeap_9 (by decide) ?_
    refine x_iconst (nI 0) dL_inHeap_15 (by decide) ?_
    refine x_ireturn dL_inHeap_16 ?_
    refine ⟨_, 0, _, rfl, w1.out, up_s, fun j hj => ?_, rfl, rfl, y, rfl, ?_⟩
    · rw [up_n (by omega)]
      exact w2 j (by omega)
    · show (if 0 = (nI 0).toNatClampNeg then y.toInt64 else f 0) = y.toInt64
      rw [if_pos (by decide)]
  | inr E =>
    obtain ⟨rfl, rfl⟩ := w3
    have hr2 : E ∈ [1] := hr
    simp only [List.mem_cons, List.not_mem_nil, or_false] at hr2
    subst hr2
    refine Xk.cn (ls' := [some (.ref 2), some (.int p0), some (.ref 464), none]) (by decide) dL_inHeap_12 rfl rfl ?_
    refine x_iconst (nI 1) dL_inHeap_13 (by decide) ?_
    refine x_ireturn dL_inHeap_14 ?_
    exact ⟨c', _, f, rfl, w1, hO', fun j hj => w2 j (by omega), rfl, rfl⟩
theorem res_append {S : St} {p0 : Int32} : ResI (appendM p0 S).1 [2, 3] := by
  unfold appendM
  repeat' split
  all_goals first
    | exact ⟨_, rfl⟩
    | (show _ ∈ _; decide)
set_option maxRecDepth 20000 in
set_option maxHeartbeats 2000000 in
theorem w_append {c : Nat → VC} {z k s : Nat} {x : Bool} {S : St} (h : CaseAt c S) (hk : StOK S) {f : Nat → Int64} (hO : c 464 = cL 1 f) {p0 : Int32} : Cm k_L_append [.ref 2, .int p0, .ref 464] ((z, x, k, s), c) (WQ z x k s c (fun E => E - 1) (appendM p0 S).1 (appendM p0 S).2) := by
  have hh2 := h.1
  have hr : ResI (appendM p0 S).1 [2, 3] := res_append
  refine Cm.in (M := M_L_append) (ls := [some (.ref 2), some (.int p0), some (.ref 464), none]) rfl rfl ?_
  refine x_aload_n dL_append_0 rfl ?_
  refine x_iconst (nI 0) dL_append_1 (by decide) ?_
  refine x_aload_n dL_append_2 rfl ?_
  refine x_iload_n dL_append_3 rfl ?_
  refine x_cv2 dL_append_4 rfl (by first | assumption | (simp (disch := omega) only [up_s, up_n]; first | assumption | rfl)) rfl ?_
  refine (s_X4_append h).mono (fun q h' hq => ?_)
  generalize appendM p0 S = R at hr hq ⊢
  obtain ⟨r, S'⟩ := R
  obtain ⟨c', w1, w2, w3⟩ := hq
  have hO' : c' 464 = cL 1 f := (w2 464 (by omega)).trans hO
  cases r with
  | inl w =>
    obtain ⟨y, rfl⟩ := hr
    obtain ⟨rfl, rfl⟩ := w3
    refine Xk.i ?_
    refine x_i2l dL_append_7 ?_
    refine x_lastore dL_append_8 (by first | assumption | (simp (disch := omega) only [up_s, up_n]; first | assumption | rfl)) (by decide) ?_
    refine x_goto 18 dL_append_9 (by decide) ?_
    refine x_iconst (nI 0) dL_append_18 (by decide) ?_
    refine x_ireturn dL_append_19 ?_
    refine ⟨_, 0, _, rfl, w1.out, up_s, fun j hj => ?_, rfl, rfl, y, rfl, ?_⟩
    · rw [up_n (by omega)]
      exact w2 j (by omega)
    · show (if 0 = (nI 0).toNatClampNeg then y.toInt64 else f 0) = y.toInt64
      rw [if_pos (by decide)]
  | inr E =>
    obtain ⟨rfl, rfl⟩ := w3
    have hr2 : E ∈ [2, 3] := hr
    simp only [List.mem_cons, List.not_mem_nil, or_false] at hr2
    rcases hr2 with rfl | rfl
    · refine Xk.cn (ls' := [some (.ref 2), some (.int p0), some (.ref 464), none]) (by decide) dL_append_12 rfl rfl ?_
      refine x_iconst (nI 1) dL_append_13 (by decide) ?_
      refine x_ireturn dL_append_14 ?_
      exact ⟨c', _, f, rfl, w1, hO', fun j hj => w2 j (by omega), rfl, rfl⟩
    · refine Xk.cn (ls' := [some (.ref 2), some (.int p0), some (.ref 464), none]) (by decide) dL_append_15 rfl rfl ?_
      refine x_iconst (nI 2) dL_append_16 (by decide) ?_
      refine x_ireturn dL_append_17 ?_
      exact ⟨c', _, f, rfl, w1, hO', fun j hj => w2 j (by omega), rfl, rfl⟩
theorem res_undo {S : St} : ResI (undoM S).1 [3] := by
  unfold undoM
  repeat' split
  all_goals first
    | exact ⟨_, rfl⟩
    | (show _ ∈ _; decide)
set_option maxRecDepth 20000 in
set_option maxHeartbeats 2000000 in
theorem w_undo {c : Nat → VC} {z k s : Nat} {x : Bool} {S : St} (h : CaseAt c S) (hk : StOK S) {f : Nat → Int64} (hO : c 464 = cL 1 f) : Cm k_L_undo [.ref 2, .ref 464] ((z, x, k, s), c) (WQ z x k s c (fun E => E - 2) (undoM S).1 (undoM S).2) := by
  have hh2 := h.1
  have hr : ResI (undoM S).1 [3] := res_undo
  refine Cm.in (M := M_L_undo) (ls := [some (.ref 2), some (.ref 464), none]) rfl rfl ?_
  refine x_aload_n dL_undo_0 rfl ?_
  refine x_iconst (nI 0) dL_undo_1 (by decide) ?_
  refine x_aload_n dL_undo_2 rfl ?_
  refine x_cv1 dL_undo_3 rfl (by first | assumption | (simp (disch := omega) only [up_s, up_n]; first | assumption | rfl)) rfl ?_
  refine (s_X4_undo h).mono (fun q h' hq => ?_)
  generalize undoM S = R at hr hq ⊢
  obtain ⟨r, S'⟩ := R
  obtain ⟨c', w1, w2, w3⟩ := hq
  have hO' : c' 464 = cL 1 f := (w2 464 (by omega)).trans hO
  cases r with
  | inl w =>
    obtain ⟨y, rfl⟩ := hr
    obtain ⟨rfl, rfl⟩ := w3
    refine Xk.i ?_
    refine x_i2l dL_undo_6 ?_
    refine x_lastore dL_undo_7 (by first | assumption | (simp (disch := omega) only [up_s, up_n]; first | assumption | rfl)) (by decide) ?_
    refine x_goto 14 dL_undo_8 (by decide) ?_
    refine x_iconst (nI 0) dL_undo_14 (by decide) ?_
    refine x_ireturn dL_undo_15 ?_
    refine ⟨_, 0, _, rfl, w1.out, up_s, fun j hj => ?_, rfl, rfl, y, rfl, ?_⟩
    · rw [up_n (by omega)]
      exact w2 j (by omega)
    · show (if 0 = (nI 0).toNatClampNeg then y.toInt64 else f 0) = y.toInt64
      rw [if_pos (by decide)]
  | inr E =>
    obtain ⟨rfl, rfl⟩ := w3
    have hr2 : E ∈ [3] := hr
    simp only [List.mem_cons, List.not_mem_nil, or_false] at hr2
    subst hr2
    refine Xk.cn (ls' := [some (.ref 2), some (.ref 464), none]) (by decide) dL_undo_11 rfl rfl ?_
    refine x_iconst (nI 1) dL_undo_12 (by decide) ?_
    refine x_ireturn dL_undo_13 ?_
    exact ⟨c', _, f, rfl, w1, hO', fun j hj => w2 j (by omega), rfl, rfl⟩
