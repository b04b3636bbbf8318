/-! THE CASE: calls on formes, and what is asked -/
theorem ends_map {L L2 : List (List Pl)} (h : L.map List.length = L2.map List.length) : endsL L = endsL L2 := by
  have hl : L.length = L2.length := by
    have := congrArg List.length h
    simpa using this
  unfold endsL
  rw [hl]
  refine List.map_congr_left (fun k _ => ?_)
  rw [List.length_flatten, List.length_flatten, List.map_take, List.map_take, h]
theorem reL_flat : ∀ {L : List (List Pl)} {p : List Pl}, p.length = L.flatten.length → (reL L p).flatten = p ∧ (reL L p).map List.length = L.map List.length
  | [], p, h => by
    have : p = [] := List.eq_nil_of_length_eq_zero (by rw [h]; rfl)
    subst this
    exact ⟨rfl, rfl⟩
  | l :: L, p, h => by
    rw [List.flatten_cons, List.length_append] at h
    have ih := reL_flat (L := L) (p := p.drop l.length) (by rw [List.length_drop]; omega)
    constructor
    · show (p.take l.length :: reL L (p.drop l.length)).flatten = p
      rw [List.flatten_cons, ih.1, List.take_append_drop]
    · show (p.take l.length :: reL L (p.drop l.length)).map List.length = _
      rw [List.map_cons, ih.2, List.map_cons, List.length_take, Nat.min_eq_left (by omega)]
theorem ends_snoc {L : List (List Pl)} {ps : List Pl} : endsL (L ++ [ps]) = endsL L ++ [(L.flatten ++ ps).length] := by
  unfold endsL
  rw [List.length_append, List.length_singleton, List.range_succ, List.map_append, List.map_cons, List.map_nil]
  have e1 : (L ++ [ps]).take (L.length + 1) = L ++ [ps] := List.take_of_length_le (by simp)
  rw [e1, List.flatten_append]
  have e2 : (List.range L.length).map (fun k => ((L ++ [ps]).take (k + 1)).flatten.length) = (List.range L.length).map (fun k => (L.take (k + 1)).flatten.length) := by
    refine List.map_congr_left (fun k hk => ?_)
    have hk2 := List.mem_range.mp hk
    rw [List.take_append_of_le_length (by omega)]
  rw [e2]
  simp only [List.flatten_cons, List.flatten_nil, List.append_nil]
theorem LnOK.map {L L2 : List (List Pl)} (h : LnOK L) (hm : L2.map List.length = L.map List.length) : LnOK L2 := by
  refine ⟨?_, fun l hl => ?_⟩
  · have := congrArg List.length hm
    simp only [List.length_map] at this
    rw [this]; exact h.1
  · have h1 : l.length ∈ L2.map List.length := List.mem_map_of_mem hl
    rw [hm] at h1
    obtain ⟨l2, h2, h3⟩ := List.mem_map.mp h1
    rw [← h3]; exact h.2 l2 h2
theorem corL_len : ∀ {l : List Pl} {B : Bx}, (corL l B).2.1.length = l.length
  | [], _ => rfl
  | q :: t, B => by show (corL t (corP B q).1).2.1.length + 1 = t.length + 1; rw [corL_len]
theorem ShopAt.bf {c c' : Nat → VC} {A j : Nat} {σ : Sg} {a b d e f : Int32} {B' : Bx} {L : List (List Pl)} (h : ShopAt c A σ) (hO : ObAt c' A a b d e f) (hB : BoxAt c' A B') (hj : j < 3) (hF : FormeAt c' (A + 59 + 5 * j) L) (hf : FrT c c' A (A + 59 + 5 * j)) : ShopAt c' A (B', uf σ.2.1 j L, σ.2.2.1, a, b, d, e, f) :=
  ⟨hO, hB, h.2.2.1.set hj hF (hf _ (by omega) (by omega) (by omega)) (fun k z1 z2 z3 => hf k (by omega) (by omega) z3), h.2.2.2.fr (hf _ (by omega) (by omega) (by omega)) (hf _ (by omega) (by omega) (by omega))⟩
theorem ap3 {j : Nat} : Apart 3 (3 + 59 + 5 * j) := ⟨by omega, by omega, by omega⟩
theorem ap377 {j : Nat} : Apart 377 (377 + 59 + 5 * j) := ⟨by omega, by omega, by omega⟩
theorem fl_tot {σ : Sg} {j : Nat} (hj : j < 3) : SB σ.1 + (σ.2.1 j).flatten.length + σ.2.2.1.length ≤ totM σ := by
  unfold totM nF
  have := sumN_le (h := fun j => (σ.2.1 j).flatten.length) hj
  have h2 : (σ.2.1 j).flatten.length ≤ sumN (fun j => (σ.2.1 j).flatten.length) 3 := by
    have h3 : (fun j => (σ.2.1 j).flatten.length) j = (σ.2.1 j).flatten.length := rfl
    omega
  omega
set_option maxRecDepth 20000 in
set_option maxHeartbeats 2000000 in
theorem s_X4_correct {c : Nat → VC} {z k s : Nat} {x : Bool} {S : St} (h : CaseAt c S) (hk : StOK S) {f : Int32} : Cm k_X4_correct [.ref 2, .int f] ((z, x, k, s), c) (CQ z x k s c (correctM f S).1 (correctM f S).2) := by
  have hh2 := h.1
  have hh3 := h.2.1.1
  have hhs := h.2.2.2.1.choose_spec.choose_spec.2.1
  cases e1 : ix f 3 with
  | none =>
    have hM : correctM f S = (Sum.inr 1, S) := by simp only [correctM, e1]
    rw [hM]
    refine Cm.in (M := M_X4_correct) (ls := [some (.ref 2), some (.int f)]) rfl rfl ?_
    refine x_iload_n dX4_correct_0 rfl ?_
    refine x_cs1 dX4_correct_1 rfl ?_
    exact Cm.rx (s_rqForme_x (ix_none e1)) rfl ⟨c, h, FrC.rf, rfl, rfl⟩
  | some j =>
    obtain ⟨hj, rfl⟩ := ix_some (by omega) e1
    have hM : correctM (nI j) S = (Sum.inl (.int (nI (corL (S.1.2.1 j).flatten S.1.1).2.2)), sv S ((corL (S.1.2.1 j).flatten S.1.1).1, uf S.1.2.1 j (reL (S.1.2.1 j) (corL (S.1.2.1 j).flatten S.1.1).2.1), S.1.2.2.1, n1 S.1, n2 S.1, n3 S.1, n4 S.1 + nI 3 * nI (corL (S.1.2.1 j).flatten S.1.1).2.2, n5 S.1)) := by simp only [correctM, e1]
    rw [hM]
    refine Cm.in (M := M_X4_correct) (ls := [some (.ref 2), some (.int (nI j))]) rfl rfl ?_
    refine x_iload_n dX4_correct_0 rfl ?_
    refine x_cs1 dX4_correct_1 rfl ?_
    refine Cm.rv (s_rqForme hj) ?_
    refine x_aload_n dX4_correct_4 rfl ?_
    refine x_getfield dX4_correct_5 rfl (by decide) (by first | assumption | (simp (disch := omega) only [up_s, up_n]; first | assumption | rfl)) rfl ?_
    refine x_aload_n dX4_correct_8 rfl ?_
    refine x_getfield dX4_correct_9 rfl (by decide) (by first | assumption | (simp (disch := omega) only [up_s, up_n]; first | assumption | rfl)) rfl ?_
    refine x_cv2 dX4_correct_12 rfl (by first | assumption | (simp (disch := omega) only [up_s, up_n]; first | assumption | rfl)) rfl ?_
    refine Cm.ev (s_save h) (fun c1 q1 => ?_)
    obtain ⟨h1, hf1⟩ := q1
    have hh21 := h1.1
    have hh31 := h1.2.1.1
    refine x_aload_n dX4_correct_15 rfl ?_
    refine x_getfield dX4_correct_16 rfl (by decide) (by first | assumption | (simp (disch := omega) only [up_s, up_n]; first | assumption | rfl)) rfl ?_
    refine x_aload_n dX4_correct_19 rfl ?_
    refine x_getfield dX4_correct_20 rfl (by decide) (by first | assumption | (simp (disch := omega) only [up_s, up_n]; first | assumption | rfl)) rfl ?_
    refine x_iload_n dX4_correct_23 rfl ?_
    refine x_cv2 dX4_correct_24 rfl (by first | assumption | (simp (disch := omega) only [up_s, up_n]; first | assumption | rfl)) rfl ?_
    refine Cm.rt (s_X3_formeOf hh31 h1.2.1.2.2.1 hj) ?_
    refine x_cv2 dX4_correct_27 rfl (by first | assumption | (simp (disch := omega) only [up_s, up_n]; first | assumption | rfl)) rfl ?_
    refine Cm.ei (s_X3_correctForme ap3 hh31 h1.2.1.2.1 (h1.2.1.2.2.1.2 j hj).1 (SB_tot hk.1)) (fun v c2 q2 => ?_)
    obtain ⟨rfl, q21, q22, q23, q24⟩ := q2
    have hre := reL_flat (L := S.1.2.1 j) (p := (corL (S.1.2.1 j).flatten S.1.1).2.1) corL_len
    have hfo : FormeAt c2 (3 + 59 + 5 * j) (reL (S.1.2.1 j) (corL (S.1.2.1 j).flatten S.1.1).2.1) := ⟨by rw [hre.1, ends_map hre.2]; exact q23, (h1.2.1.2.2.1.2 j hj).2.map hre.2⟩
    have hs2 := h1.2.1.bf q21 q22 hj hfo q24
    have h2 := h1.shop hs2 (fun k hk => q24 k (by omega) (by omega) (by omega))
    refine x_ireturn dX4_correct_30 ?_
    exact ⟨c2, h2, hf1.tr (fun k hk => q24 k (by omega) (by omega) (by omega)), rfl, rfl⟩
set_option maxRecDepth 20000 in
set_option maxHeartbeats 2000000 in
theorem s_X4_distribute {c : Nat → VC} {z k s : Nat} {x : Bool} {S : St} (h : CaseAt c S) (hk : StOK S) {f : Int32} : Cm k_X4_distribute [.ref 2, .int f] ((z, x, k, s), c) (CQ z x k s c (distributeM f S).1 (distributeM f S).2) := by
  have hh2 := h.1
  have hh3 := h.2.1.1
  have hhs := h.2.2.2.1.choose_spec.choose_spec.2.1
  cases e1 : ix f 3 with
  | none =>
    have hM : distributeM f S = (Sum.inr 1, S) := by simp only [distributeM, e1]
    rw [hM]
    refine Cm.in (M := M_X4_distribute) (ls := [some (.ref 2), some (.int f)]) rfl rfl ?_
    refine x_iload_n dX4_distribute_0 rfl ?_
    refine x_cs1 dX4_distribute_1 rfl ?_
    exact Cm.rx (s_rqForme_x (ix_none e1)) rfl ⟨c, h, FrC.rf, rfl, rfl⟩
  | some j =>
    obtain ⟨hj, rfl⟩ := ix_some (by omega) e1
    have hM : distributeM (nI j) S = (Sum.inl (.int (nI (S.1.2.1 j).flatten.length)), sv S ((disL (n1 S.1) (S.1.2.1 j).flatten S.1.1 (n5 S.1)).1, uf S.1.2.1 j [], S.1.2.2.1, n1 S.1, n2 S.1, n3 S.1, n4 S.1 + nI (S.1.2.1 j).flatten.length, (disL (n1 S.1) (S.1.2.1 j).flatten S.1.1 (n5 S.1)).2)) := by simp only [distributeM, e1]
    rw [hM]
    have hft := fl_tot (σ := S.1) hj
    have hk1 := hk.1
    refine Cm.in (M := M_X4_distribute) (ls := [some (.ref 2), some (.int (nI j))]) rfl rfl ?_
    refine x_iload_n dX4_distribute_0 rfl ?_
    refine x_cs1 dX4_distribute_1 rfl ?_
    refine Cm.rv (s_rqForme hj) ?_
    refine x_aload_n dX4_distribute_4 rfl ?_
    refine x_getfield dX4_distribute_5 rfl (by decide) (by first | assumption | (simp (disch := omega) only [up_s, up_n]; first | assumption | rfl)) rfl ?_
    refine x_aload_n dX4_distribute_8 rfl ?_
    refine x_getfield dX4_distribute_9 rfl (by decide) (by first | assumption | (simp (disch := omega) only [up_s, up_n]; first | assumption | rfl)) rfl ?_
    refine x_cv2 dX4_distribute_12 rfl (by first | assumption | (simp (disch := omega) only [up_s, up_n]; first | assumption | rfl)) rfl ?_
    refine Cm.ev (s_save h) (fun c1 q1 => ?_)
    obtain ⟨h1, hf1⟩ := q1
    have hh21 := h1.1
    have hh31 := h1.2.1.1
    refine x_aload_n dX4_distribute_15 rfl ?_
    refine x_getfield dX4_distribute_16 rfl (by decide) (by first | assumption | (simp (disch := omega) only [up_s, up_n]; first | assumption | rfl)) rfl ?_
    refine x_aload_n dX4_distribute_19 rfl ?_
    refine x_getfield dX4_distribute_20 rfl (by decide) (by first | assumption | (simp (disch := omega) only [up_s, up_n]; first | assumption | rfl)) rfl ?_
    refine x_iload_n dX4_distribute_23 rfl ?_
    refine x_cv2 dX4_distribute_24 rfl (by first | assumption | (simp (disch := omega) only [up_s, up_n]; first | assumption | rfl)) rfl ?_
    refine Cm.rt (s_X3_formeOf hh31 h1.2.1.2.2.1 hj) ?_
    refine x_cv2 dX4_distribute_27 rfl (by first | assumption | (simp (disch := omega) only [up_s, up_n]; first | assumption | rfl)) rfl ?_
    refine Cm.ei (s_X3_distributeForme ap3 hh31 h1.2.1.2.1 (h1.2.1.2.2.1.2 j hj).1 (by show SB S.1.1 + (S.1.2.1 j).flatten.length ≤ 250; omega)) (fun v c2 q2 => ?_)
    obtain ⟨rfl, q21, q22, q23, q24⟩ := q2
    have hs2 := h1.2.1.bf q21 q22 hj (FormeAt_nil q23) q24
    have h2 := h1.shop hs2 (fun k hk => q24 k (by omega) (by omega) (by omega))
    refine x_ireturn dX4_distribute_30 ?_
    exact ⟨c2, h2, hf1.tr (fun k hk => q24 k (by omega) (by omega) (by omega)), rfl, rfl⟩
set_option maxRecDepth 20000 in
set_option maxHeartbeats 2000000 in
theorem s_X4_pie {c : Nat → VC} {z k s : Nat} {x : Bool} {S : St} (h : CaseAt c S) (hk : StOK S) {f : Int32} : Cm k_X4_pie [.ref 2, .int f] ((z, x, k, s), c) (CQ z x k s c (pieM f S).1 (pieM f S).2) := by
  have hh2 := h.1
  have hh3 := h.2.1.1
  have hhs := h.2.2.2.1.choose_spec.choose_spec.2.1
  cases e1 : ix f 3 with
  | none =>
    have hM : pieM f S = (Sum.inr 1, S) := by simp only [pieM, e1]
    rw [hM]
    refine Cm.in (M := M_X4_pie) (ls := [some (.ref 2), some (.int f)]) rfl rfl ?_
    refine x_iload_n dX4_pie_0 rfl ?_
    refine x_cs1 dX4_pie_1 rfl ?_
    exact Cm.rx (s_rqForme_x (ix_none e1)) rfl ⟨c, h, FrC.rf, rfl, rfl⟩
  | some j =>
    obtain ⟨hj, rfl⟩ := ix_some (by omega) e1
    have hM : pieM (nI j) S = (Sum.inl (.int (nI (S.1.2.2.1 ++ srt (S.1.2.1 j).flatten).length)), sv S (S.1.1, uf S.1.2.1 j [], S.1.2.2.1 ++ srt (S.1.2.1 j).flatten, S.1.2.2.2)) := by simp only [pieM, e1]
    rw [hM]
    have hft := fl_tot (σ := S.1) hj
    have hk1 := hk.1
    refine Cm.in (M := M_X4_pie) (ls := [some (.ref 2), some (.int (nI j))]) rfl rfl ?_
    refine x_iload_n dX4_pie_0 rfl ?_
    refine x_cs1 dX4_pie_1 rfl ?_
    refine Cm.rv (s_rqForme hj) ?_
    refine x_aload_n dX4_pie_4 rfl ?_
    refine x_getfield dX4_pie_5 rfl (by decide) (by first | assumption | (simp (disch := omega) only [up_s, up_n]; first | assumption | rfl)) rfl ?_
    refine x_aload_n dX4_pie_8 rfl ?_
    refine x_getfield dX4_pie_9 rfl (by decide) (by first | assumption | (simp (disch := omega) only [up_s, up_n]; first | assumption | rfl)) rfl ?_
    refine x_cv2 dX4_pie_12 rfl (by first | assumption | (simp (disch := omega) only [up_s, up_n]; first | assumption | rfl)) rfl ?_
    refine Cm.ev (s_save h) (fun c1 q1 => ?_)
    obtain ⟨h1, hf1⟩ := q1
    have hh21 := h1.1
    have hh31 := h1.2.1.1
    refine x_aload_n dX4_pie_15 rfl ?_
    refine x_getfield dX4_pie_16 rfl (by decide) (by first | assumption | (simp (disch := omega) only [up_s, up_n]; first | assumption | rfl)) rfl ?_
    refine x_aload_n dX4_pie_19 rfl ?_
    refine x_getfield dX4_pie_20 rfl (by decide) (by first | assumption | (simp (disch := omega) only [up_s, up_n]; first | assumption | rfl)) rfl ?_
    refine x_iload_n dX4_pie_23 rfl ?_
    refine x_cv2 dX4_pie_24 rfl (by first | assumption | (simp (disch := omega) only [up_s, up_n]; first | assumption | rfl)) rfl ?_
    refine Cm.rt (s_X3_formeOf hh31 h1.2.1.2.2.1 hj) ?_
    refine x_cv2 dX4_pie_27 rfl (by first | assumption | (simp (disch := omega) only [up_s, up_n]; first | assumption | rfl)) rfl ?_
    refine Cm.ev (s_X3_pieForme (B := S.1.1) (by omega) hh31 h1.2.1.2.2.2 (h1.2.1.2.2.1.2 j hj).1 (by show S.1.2.2.1.length + (S.1.2.1 j).flatten.length ≤ 250; omega)) (fun c2 q2 => ?_)
    obtain ⟨q21, q23, q24⟩ := q2
    have hs2 : ShopAt c2 3 (S.1.1, uf S.1.2.1 j [], S.1.2.2.1 ++ srt (S.1.2.1 j).flatten, S.1.2.2.2) := ⟨(q24 3 (by omega) (by omega) (by omega)).trans hh31, h1.2.1.2.1.fr2 (q24 _ (by omega) (by omega) (by omega)) (fun k z1 z2 => q24 k (by omega) (by omega) (by omega)), h1.2.1.2.2.1.set hj (FormeAt_nil q23) (q24 _ (by omega) (by omega) (by omega)) (fun k z1 z2 z3 => q24 k (by omega) (by omega) z3), q21⟩
    have h2 := h1.shop hs2 (fun k hk => q24 k (by omega) (by omega) (by omega))
    have hh22 := h2.1
    have hh32 := h2.2.1.1
    have hhp := q21.2.1
    refine x_aload_n dX4_pie_30 rfl ?_
    refine x_getfield dX4_pie_31 rfl (by decide) (by first | assumption | (simp (disch := omega) only [up_s, up_n]; first | assumption | rfl)) rfl ?_
    refine x_getfield dX4_pie_34 rfl (by decide) (by first | assumption | (simp (disch := omega) only [up_s, up_n]; first | assumption | rfl)) rfl ?_
    refine x_cv1 dX4_pie_37 rfl (by first | assumption | (simp (disch := omega) only [up_s, up_n]; first | assumption | rfl)) rfl ?_
    refine Cm.rt (s_X2_size q21) ?_
    refine x_ireturn dX4_pie_40 ?_
    exact ⟨c2, h2, hf1.tr (fun k hk => q24 k (by omega) (by omega) (by omega)), rfl, rfl⟩
set_option maxRecDepth 20000 in
set_option maxHeartbeats 2000000 in
theorem s_X4_sortHeap {c : Nat → VC} {z k s : Nat} {x : Bool} {S : St} (h : CaseAt c S) (hk : StOK S) {m : Int32} : Cm k_X4_sortHeap [.ref 2, .int m] ((z, x, k, s), c) (CQ z x k s c (sortHeapM m S).1 (sortHeapM m S).2) := by
  have hh2 := h.1
  have hh3 := h.2.1.1
  have hhs := h.2.2.2.1.choose_spec.choose_spec.2.1
  cases e1 : rg m 1 99 with
  | none =>
    have hM : sortHeapM m S = (Sum.inr 2, S) := by simp only [sortHeapM, e1]
    rw [hM]
    refine Cm.in (M := M_X4_sortHeap) (ls := [some (.ref 2), some (.int m)]) rfl rfl ?_
    refine x_iload_n dX4_sortHeap_0 rfl ?_
    refine x_iconst (nI 1) dX4_sortHeap_1 (by decide) ?_
    refine x_bipush (nI 99) dX4_sortHeap_2 (by decide) ?_
    refine x_cs3 dX4_sortHeap_4 rfl ?_
    exact Cm.rx (s_rqRg_x (rg_none e1)) rfl ⟨c, h, FrC.rf, rfl, rfl⟩
  | some n =>
    obtain ⟨hn1, hn2, rfl⟩ := rg_some (by omega) (by omega) e1
    have hM : sortHeapM (nI n) S = (Sum.inl (.int (nI (min n S.1.2.2.1.length))), sv S (bkL (S.1.2.2.1.take (min n S.1.2.2.1.length)) S.1.1, S.1.2.1, S.1.2.2.1.drop (min n S.1.2.2.1.length), n1 S.1, n2 S.1, n3 S.1, n4 S.1 + nI (min n S.1.2.2.1.length), n5 S.1)) := by simp only [sortHeapM, e1]
    rw [hM]
    have hft := fl_tot (σ := S.1) (j := 0) (by omega)
    have hk1 := hk.1
    refine Cm.in (M := M_X4_sortHeap) (ls := [some (.ref 2), some (.int (nI n))]) rfl rfl ?_
    refine x_iload_n dX4_sortHeap_0 rfl ?_
    refine x_iconst (nI 1) dX4_sortHeap_1 (by decide) ?_
    refine x_bipush (nI 99) dX4_sortHeap_2 (by decide) ?_
    refine x_cs3 dX4_sortHeap_4 rfl ?_
    refine Cm.rv (s_rqRg hn1 hn2 (by omega)) ?_
    refine x_aload_n dX4_sortHeap_7 rfl ?_
    refine x_getfield dX4_sortHeap_8 rfl (by decide) (by first | assumption | (simp (disch := omega) only [up_s, up_n]; first | assumption | rfl)) rfl ?_
    refine x_aload_n dX4_sortHeap_11 rfl ?_
    refine x_getfield dX4_sortHeap_12 rfl (by decide) (by first | assumption | (simp (disch := omega) only [up_s, up_n]; first | assumption | rfl)) rfl ?_
    refine x_cv2 dX4_sortHeap_15 rfl (by first | assumption | (simp (disch := omega) only [up_s, up_n]; first | assumption | rfl)) rfl ?_
    refine Cm.ev (s_save h) (fun c1 q1 => ?_)
    obtain ⟨h1, hf1⟩ := q1
    have hh21 := h1.1
    have hh31 := h1.2.1.1
    refine x_aload_n dX4_sortHeap_18 rfl ?_
    refine x_getfield dX4_sortHeap_19 rfl (by decide) (by first | assumption | (simp (disch := omega) only [up_s, up_n]; first | assumption | rfl)) rfl ?_
    refine x_iload_n dX4_sortHeap_22 rfl ?_
    refine x_cv2 dX4_sortHeap_23 rfl (by first | assumption | (simp (disch := omega) only [up_s, up_n]; first | assumption | rfl)) rfl ?_
    refine Cm.ei (s_X3_sortFromHeap (by omega) h1.2.1.2.2.2 hh31 h1.2.1.2.1 (by show SB S.1.1 + S.1.2.2.1.length ≤ 250; omega)) (fun v c2 q2 => ?_)
    obtain ⟨rfl, q21, q22, q23, q24⟩ := q2
    have hs2 : ShopAt c2 3 (bkL (S.1.2.2.1.take (min n S.1.2.2.1.length)) S.1.1, S.1.2.1, S.1.2.2.1.drop (min n S.1.2.2.1.length), n1 S.1, n2 S.1, n3 S.1, n4 S.1 + nI (min n S.1.2.2.1.length), n5 S.1) := ⟨q21, q22, h1.2.1.2.2.1.fr (q24 _ (by omega) (by omega) (by omega) (by omega)) (fun k z1 z2 => q24 k (by omega) (by omega) (by omega) (by omega)), q23⟩
    have h2 := h1.shop hs2 (fun k hk => q24 k (by omega) (by omega) (by omega) (by omega))
    refine x_ireturn dX4_sortHeap_26 ?_
    exact ⟨c2, h2, hf1.tr (fun k hk => q24 k (by omega) (by omega) (by omega) (by omega)), rfl, rfl⟩
set_option maxRecDepth 20000 in
set_option maxHeartbeats 2000000 in
theorem s_X4_aboutLetter0 {c : Nat → VC} {g : VG} {S : St} (h : CaseAt c S) {a : Nat} (ha : a < 27) : Cm k_X4_aboutLetter [.ref 2, .int (nI a), .int (nI 0)] (g, c) (Rt (.int (letV S a 0)) (g, c)) := by
  have hh2 := h.1
  have hh3 := h.2.1.1
  have hhs := h.2.2.2.1.choose_spec.choose_spec.2.1
  have hb := h.2.1.2.1
  have hba := (hb.2 a ha).2.1
  have hla := (hb.2 a ha).2.2.1
  have hhp := h.2.1.2.2.2.2.1
  refine Cm.in (M := M_X4_aboutLetter) (ls := [some (.ref 2), some (.int (nI a)), some (.int (nI 0)), none]) rfl rfl ?_
  refine x_aload_n dX4_aboutLetter_0 rfl ?_
  refine x_getfield dX4_aboutLetter_1 rfl (by decide) (by first | assumption | (simp (disch := omega) only [up_s, up_n]; first | assumption | rfl)) rfl ?_
  refine x_iload_n dX4_aboutLetter_4 rfl ?_
  refine x_cv2 dX4_aboutLetter_5 rfl (by first | assumption | (simp (disch := omega) only [up_s, up_n]; first | assumption | rfl)) rfl ?_
  refine Cm.rt (s_X3_boxOf' hh3 hb ha) ?_
  refine x_astore_n3 dX4_aboutLetter_8 rfl ?_
  refine x_iload_n dX4_aboutLetter_9 rfl ?_
  refine x_tab (off := 42) 52 dX4_aboutLetter_10 (by decide) (by decide) (by decide) ?_
  refine x_aload_n dX4_aboutLetter_52 rfl ?_
  refine x_cv1 dX4_aboutLetter_53 rfl (by first | assumption | (simp (disch := omega) only [up_s, up_n]; first | assumption | rfl)) rfl ?_
  refine Cm.rt (s_X2_size (hb.2 a ha)) ?_
  refine x_ireturn dX4_aboutLetter_56 ?_
  exact ⟨rfl, rfl⟩
set_option maxRecDepth 20000 in
set_option maxHeartbeats 2000000 in
theorem s_X4_aboutLetter1 {c : Nat → VC} {g : VG} {S : St} (h : CaseAt c S) {a : Nat} (ha : a < 27) : Cm k_X4_aboutLetter [.ref 2, .int (nI a), .int (nI 1)] (g, c) (Rt (.int (letV S a 1)) (g, c)) := by
  have hh2 := h.1
  have hh3 := h.2.1.1
  have hhs := h.2.2.2.1.choose_spec.choose_spec.2.1
  have hb := h.2.1.2.1
  have hba := (hb.2 a ha).2.1
  have hla := (hb.2 a ha).2.2.1
  have hhp := h.2.1.2.2.2.2.1
  refine Cm.in (M := M_X4_aboutLetter) (ls := [some (.ref 2), some (.int (nI a)), some (.int (nI 1)), none]) rfl rfl ?_
  refine x_aload_n dX4_aboutLetter_0 rfl ?_
  refine x_getfield dX4_aboutLetter_1 rfl (by decide) (by first | assumption | (simp (disch := omega) only [up_s, up_n]; first | assumption | rfl)) rfl ?_
  refine x_iload_n dX4_aboutLetter_4 rfl ?_
  refine x_cv2 dX4_aboutLetter_5 rfl (by first | assumption | (simp (disch := omega) only [up_s, up_n]; first | assumption | rfl)) rfl ?_
  refine Cm.rt (s_X3_boxOf' hh3 hb ha) ?_
  refine x_astore_n3 dX4_aboutLetter_8 rfl ?_
  refine x_iload_n dX4_aboutLetter_9 rfl ?_
  refine x_tab (off := 47) 57 dX4_aboutLetter_10 (by decide) (by decide) (by decide) ?_
  refine x_aload_n dX4_aboutLetter_57 rfl ?_
  refine x_cv1 dX4_aboutLetter_58 rfl (by first | assumption | (simp (disch := omega) only [up_s, up_n]; first | assumption | rfl)) rfl ?_
  refine Cm.rt (s_X2_size (hb.2 a ha)) ?_
  refine x_aload_n dX4_aboutLetter_61 rfl ?_
  refine x_iload_n dX4_aboutLetter_62 rfl ?_
  refine x_cv2 dX4_aboutLetter_63 rfl (by first | assumption | (simp (disch := omega) only [up_s, up_n]; first | assumption | rfl)) rfl ?_
  refine Cm.rt (s_X2_countOf (hb.2 a ha) (by omega)) ?_
  refine x_isubN dX4_aboutLetter_66 List.count_le_length ?_
  refine x_ireturn dX4_aboutLetter_67 ?_
  exact ⟨rfl, rfl⟩
set_option maxRecDepth 20000 in
set_option maxHeartbeats 2000000 in
theorem s_X4_aboutLetter2 {c : Nat → VC} {g : VG} {S : St} (h : CaseAt c S) {a : Nat} (ha : a < 27) : Cm k_X4_aboutLetter [.ref 2, .int (nI a), .int (nI 2)] (g, c) (Rt (.int (letV S a 2)) (g, c)) := by
  have hh2 := h.1
  have hh3 := h.2.1.1
  have hhs := h.2.2.2.1.choose_spec.choose_spec.2.1
  have hb := h.2.1.2.1
  have hba := (hb.2 a ha).2.1
  have hla := (hb.2 a ha).2.2.1
  have hhp := h.2.1.2.2.2.2.1
  refine Cm.in (M := M_X4_aboutLetter) (ls := [some (.ref 2), some (.int (nI a)), some (.int (nI 2)), none]) rfl rfl ?_
  refine x_aload_n dX4_aboutLetter_0 rfl ?_
  refine x_getfield dX4_aboutLetter_1 rfl (by decide) (by first | assumption | (simp (disch := omega) only [up_s, up_n]; first | assumption | rfl)) rfl ?_
  refine x_iload_n dX4_aboutLetter_4 rfl ?_
  refine x_cv2 dX4_aboutLetter_5 rfl (by first | assumption | (simp (disch := omega) only [up_s, up_n]; first | assumption | rfl)) rfl ?_
  refine Cm.rt (s_X3_boxOf' hh3 hb ha) ?_
  refine x_astore_n3 dX4_aboutLetter_8 rfl ?_
  refine x_iload_n dX4_aboutLetter_9 rfl ?_
  refine x_tab (off := 58) 68 dX4_aboutLetter_10 (by decide) (by decide) (by decide) ?_
  refine x_aload_n dX4_aboutLetter_68 rfl ?_
  refine x_getfield dX4_aboutLetter_69 rfl (by decide) (by first | assumption | (simp (disch := omega) only [up_s, up_n]; first | assumption | rfl)) rfl ?_
  refine x_iload_n dX4_aboutLetter_72 rfl ?_
  refine x_cv2 dX4_aboutLetter_73 rfl (by first | assumption | (simp (disch := omega) only [up_s, up_n]; first | assumption | rfl)) rfl ?_
  refine Cm.rt (s_X3_countInBoxes hh3 hb ha) ?_
  refine x_ireturn dX4_aboutLetter_76 ?_
  exact ⟨rfl, rfl⟩
set_option maxRecDepth 20000 in
set_option maxHeartbeats 2000000 in
theorem s_X4_aboutLetter3 {c : Nat → VC} {g : VG} {S : St} (h : CaseAt c S) {a : Nat} (ha : a < 27) : Cm k_X4_aboutLetter [.ref 2, .int (nI a), .int (nI 3)] (g, c) (Rt (.int (letV S a 3)) (g, c)) := by
  have hh2 := h.1
  have hh3 := h.2.1.1
  have hhs := h.2.2.2.1.choose_spec.choose_spec.2.1
  have hb := h.2.1.2.1
  have hba := (hb.2 a ha).2.1
  have hla := (hb.2 a ha).2.2.1
  have hhp := h.2.1.2.2.2.2.1
  refine Cm.in (M := M_X4_aboutLetter) (ls := [some (.ref 2), some (.int (nI a)), some (.int (nI 3)), none]) rfl rfl ?_
  refine x_aload_n dX4_aboutLetter_0 rfl ?_
  refine x_getfield dX4_aboutLetter_1 rfl (by decide) (by first | assumption | (simp (disch := omega) only [up_s, up_n]; first | assumption | rfl)) rfl ?_
  refine x_iload_n dX4_aboutLetter_4 rfl ?_
  refine x_cv2 dX4_aboutLetter_5 rfl (by first | assumption | (simp (disch := omega) only [up_s, up_n]; first | assumption | rfl)) rfl ?_
  refine Cm.rt (s_X3_boxOf' hh3 hb ha) ?_
  refine x_astore_n3 dX4_aboutLetter_8 rfl ?_
  refine x_iload_n dX4_aboutLetter_9 rfl ?_
  refine x_tab (off := 67) 77 dX4_aboutLetter_10 (by decide) (by decide) (by decide) ?_
  refine x_aload_n dX4_aboutLetter_77 rfl ?_
  refine x_getfield dX4_aboutLetter_78 rfl (by decide) (by first | assumption | (simp (disch := omega) only [up_s, up_n]; first | assumption | rfl)) rfl ?_
  refine x_iload_n dX4_aboutLetter_81 rfl ?_
  refine x_cv2 dX4_aboutLetter_82 rfl (by first | assumption | (simp (disch := omega) only [up_s, up_n]; first | assumption | rfl)) rfl ?_
  refine Cm.rt (s_X3_countInFormes hh3 h.2.1.2.2.1 ha) ?_
  refine x_ireturn dX4_aboutLetter_85 ?_
  exact ⟨rfl, rfl⟩
set_option maxRecDepth 20000 in
set_option maxHeartbeats 2000000 in
theorem s_X4_aboutLetter4 {c : Nat → VC} {g : VG} {S : St} (h : CaseAt c S) {a : Nat} (ha : a < 27) : Cm k_X4_aboutLetter [.ref 2, .int (nI a), .int (nI 4)] (g, c) (Rt (.int (letV S a 4)) (g, c)) := by
  have hh2 := h.1
  have hh3 := h.2.1.1
  have hhs := h.2.2.2.1.choose_spec.choose_spec.2.1
  have hb := h.2.1.2.1
  have hba := (hb.2 a ha).2.1
  have hla := (hb.2 a ha).2.2.1
  have hhp := h.2.1.2.2.2.2.1
  refine Cm.in (M := M_X4_aboutLetter) (ls := [some (.ref 2), some (.int (nI a)), some (.int (nI 4)), none]) rfl rfl ?_
  refine x_aload_n dX4_aboutLetter_0 rfl ?_
  refine x_getfield dX4_aboutLetter_1 rfl (by decide) (by first | assumption | (simp (disch := omega) only [up_s, up_n]; first | assumption | rfl)) rfl ?_
  refine x_iload_n dX4_aboutLetter_4 rfl ?_
  refine x_cv2 dX4_aboutLetter_5 rfl (by first | assumption | (simp (disch := omega) only [up_s, up_n]; first | assumption | rfl)) rfl ?_
  refine Cm.rt (s_X3_boxOf' hh3 hb ha) ?_
  refine x_astore_n3 dX4_aboutLetter_8 rfl ?_
  refine x_iload_n dX4_aboutLetter_9 rfl ?_
  refine x_tab (off := 76) 86 dX4_aboutLetter_10 (by decide) (by decide) (by decide) ?_
  refine x_aload_n dX4_aboutLetter_86 rfl ?_
  refine x_getfield dX4_aboutLetter_87 rfl (by decide) (by first | assumption | (simp (disch := omega) only [up_s, up_n]; first | assumption | rfl)) rfl ?_
  refine x_getfield dX4_aboutLetter_90 rfl (by decide) (by first | assumption | (simp (disch := omega) only [up_s, up_n]; first | assumption | rfl)) rfl ?_
  refine x_iload_n dX4_aboutLetter_93 rfl ?_
  refine x_cv2 dX4_aboutLetter_94 rfl (by first | assumption | (simp (disch := omega) only [up_s, up_n]; first | assumption | rfl)) rfl ?_
  refine Cm.rt (s_X2_countOf h.2.1.2.2.2 (by omega)) ?_
  refine x_ireturn dX4_aboutLetter_97 ?_
  exact ⟨rfl, rfl⟩
set_option maxRecDepth 20000 in
set_option maxHeartbeats 2000000 in
theorem s_X4_aboutLetter5 {c : Nat → VC} {g : VG} {S : St} (h : CaseAt c S) {a : Nat} (ha : a < 27) : Cm k_X4_aboutLetter [.ref 2, .int (nI a), .int (nI 5)] (g, c) (Rt (.int (letV S a 5)) (g, c)) := by
  have hh2 := h.1
  have hh3 := h.2.1.1
  have hhs := h.2.2.2.1.choose_spec.choose_spec.2.1
  have hb := h.2.1.2.1
  have hba := (hb.2 a ha).2.1
  have hla := (hb.2 a ha).2.2.1
  have hhp := h.2.1.2.2.2.2.1
  refine Cm.in (M := M_X4_aboutLetter) (ls := [some (.ref 2), some (.int (nI a)), some (.int (nI 5)), none]) rfl rfl ?_
  refine x_aload_n dX4_aboutLetter_0 rfl ?_
  refine x_getfield dX4_aboutLetter_1 rfl (by decide) (by first | assumption | (simp (disch := omega) only [up_s, up_n]; first | assumption | rfl)) rfl ?_
  refine x_iload_n dX4_aboutLetter_4 rfl ?_
  refine x_cv2 dX4_aboutLetter_5 rfl (by first | assumption | (simp (disch := omega) only [up_s, up_n]; first | assumption | rfl)) rfl ?_
  refine Cm.rt (s_X3_boxOf' hh3 hb ha) ?_
  refine x_astore_n3 dX4_aboutLetter_8 rfl ?_
  refine x_iload_n dX4_aboutLetter_9 rfl ?_
  refine x_tab (off := 88) 98 dX4_aboutLetter_10 (by decide) (by decide) (by decide) ?_
  refine x_iload_n dX4_aboutLetter_98 rfl ?_
  refine x_cs1 dX4_aboutLetter_99 rfl ?_
  refine Cm.rt (s_X4_widthOf h.2.2.2.2.2.2 ha) ?_
  refine x_ireturn dX4_aboutLetter_102 ?_
  exact ⟨rfl, rfl⟩
set_option maxRecDepth 20000 in
set_option maxHeartbeats 2000000 in
theorem s_X4_aboutLetter6 {c : Nat → VC} {g : VG} {S : St} (h : CaseAt c S) {a : Nat} (ha : a < 27) : Cm k_X4_aboutLetter [.ref 2, .int (nI a), .int (nI 6)] (g, c) (Rt (.int (letV S a 6)) (g, c)) := by
  have hh2 := h.1
  have hh3 := h.2.1.1
  have hhs := h.2.2.2.1.choose_spec.choose_spec.2.1
  have hb := h.2.1.2.1
  have hba := (hb.2 a ha).2.1
  have hla := (hb.2 a ha).2.2.1
  have hhp := h.2.1.2.2.2.2.1
  by_cases hem : S.1.1 a = []
  · have hv : letV S a 6 = -1 := by unfold letV; rw [hem]; rfl
    rw [hv]
    have hl0 : (S.1.1 a).length = 0 := by rw [hem]; rfl
    refine Cm.in (M := M_X4_aboutLetter) (ls := [some (.ref 2), some (.int (nI a)), some (.int (nI 6)), none]) rfl rfl ?_
    refine x_aload_n dX4_aboutLetter_0 rfl ?_
    refine x_getfield dX4_aboutLetter_1 rfl (by decide) (by first | assumption | (simp (disch := omega) only [up_s, up_n]; first | assumption | rfl)) rfl ?_
    refine x_iload_n dX4_aboutLetter_4 rfl ?_
    refine x_cv2 dX4_aboutLetter_5 rfl (by first | assumption | (simp (disch := omega) only [up_s, up_n]; first | assumption | rfl)) rfl ?_
    refine Cm.rt (s_X3_boxOf' hh3 hb ha) ?_
    refine x_astore_n3 dX4_aboutLetter_8 rfl ?_
    refine x_iload_n dX4_aboutLetter_9 rfl ?_
    refine x_tab (off := 93) 103 dX4_aboutLetter_10 (by decide) (by decide) (by decide) ?_
    refine x_aload_n dX4_aboutLetter_103 rfl ?_
    refine x_aload_n dX4_aboutLetter_104 rfl ?_
    refine x_cv1 dX4_aboutLetter_105 rfl (by first | assumption | (simp (disch := omega) only [up_s, up_n]; first | assumption | rfl)) rfl ?_
    refine Cm.rt (s_X2_size (hb.2 a ha)) ?_
    rw [hl0]
    refine x_iconst (nI 1) dX4_aboutLetter_108 (by decide) ?_
    refine x_isub dX4_aboutLetter_109 ?_
    rw [show nI 0 - nI 1 = -1 by decide]
    refine x_cv2 dX4_aboutLetter_110 rfl (by first | assumption | (simp (disch := omega) only [up_s, up_n]; first | assumption | rfl)) rfl ?_
    refine Cm.rt (s_X2_at_m1 (hb.2 a ha)) ?_
    refine x_ireturn dX4_aboutLetter_113 ?_
    exact ⟨rfl, rfl⟩
  · have hlp : 0 < (S.1.1 a).length := List.length_pos_iff.mpr hem
    have hv : letV S a 6 = nI ((S.1.1 a)[(S.1.1 a).length - 1]'(by omega)) := by unfold letV; rw [List.getLast?_eq_getElem?, List.getElem?_eq_getElem (by omega)]; rfl
    rw [hv]
    refine Cm.in (M := M_X4_aboutLetter) (ls := [some (.ref 2), some (.int (nI a)), some (.int (nI 6)), none]) rfl rfl ?_
    refine x_aload_n dX4_aboutLetter_0 rfl ?_
    refine x_getfield dX4_aboutLetter_1 rfl (by decide) (by first | assumption | (simp (disch := omega) only [up_s, up_n]; first | assumption | rfl)) rfl ?_
    refine x_iload_n dX4_aboutLetter_4 rfl ?_
    refine x_cv2 dX4_aboutLetter_5 rfl (by first | assumption | (simp (disch := omega) only [up_s, up_n]; first | assumption | rfl)) rfl ?_
    refine Cm.rt (s_X3_boxOf' hh3 hb ha) ?_
    refine x_astore_n3 dX4_aboutLetter_8 rfl ?_
    refine x_iload_n dX4_aboutLetter_9 rfl ?_
    refine x_tab (off := 93) 103 dX4_aboutLetter_10 (by decide) (by decide) (by decide) ?_
    refine x_aload_n dX4_aboutLetter_103 rfl ?_
    refine x_aload_n dX4_aboutLetter_104 rfl ?_
    refine x_cv1 dX4_aboutLetter_105 rfl (by first | assumption | (simp (disch := omega) only [up_s, up_n]; first | assumption | rfl)) rfl ?_
    refine Cm.rt (s_X2_size (hb.2 a ha)) ?_
    refine x_iconst (nI 1) dX4_aboutLetter_108 (by decide) ?_
    refine x_isubN dX4_aboutLetter_109 (by omega) ?_
    refine x_cv2 dX4_aboutLetter_110 rfl (by first | assumption | (simp (disch := omega) only [up_s, up_n]; first | assumption | rfl)) rfl ?_
    refine Cm.rt (s_X2_at (hb.2 a ha) (by omega)) ?_
    refine x_ireturn dX4_aboutLetter_113 ?_
    exact ⟨rfl, rfl⟩
set_option maxRecDepth 20000 in
set_option maxHeartbeats 2000000 in
theorem s_X4_aboutLetter7 {c : Nat → VC} {g : VG} {S : St} (h : CaseAt c S) {a : Nat} (ha : a < 27) : Cm k_X4_aboutLetter [.ref 2, .int (nI a), .int (nI 7)] (g, c) (Rt (.int (letV S a 7)) (g, c)) := by
  have hh2 := h.1
  have hh3 := h.2.1.1
  have hhs := h.2.2.2.1.choose_spec.choose_spec.2.1
  have hb := h.2.1.2.1
  have hba := (hb.2 a ha).2.1
  have hla := (hb.2 a ha).2.2.1
  have hhp := h.2.1.2.2.2.2.1
  refine Cm.in (M := M_X4_aboutLetter) (ls := [some (.ref 2), some (.int (nI a)), some (.int (nI 7)), none]) rfl rfl ?_
  refine x_aload_n dX4_aboutLetter_0 rfl ?_
  refine x_getfield dX4_aboutLetter_1 rfl (by decide) (by first | assumption | (simp (disch := omega) only [up_s, up_n]; first | assumption | rfl)) rfl ?_
  refine x_iload_n dX4_aboutLetter_4 rfl ?_
  refine x_cv2 dX4_aboutLetter_5 rfl (by first | assumption | (simp (disch := omega) only [up_s, up_n]; first | assumption | rfl)) rfl ?_
  refine Cm.rt (s_X3_boxOf' hh3 hb ha) ?_
  refine x_astore_n3 dX4_aboutLetter_8 rfl ?_
  refine x_iload_n dX4_aboutLetter_9 rfl ?_
  refine x_tabD 114 dX4_aboutLetter_10 (by decide) (by decide) ?_
  refine x_aload_n dX4_aboutLetter_114 rfl ?_
  refine x_iload_n dX4_aboutLetter_115 rfl ?_
  refine x_cv2 dX4_aboutLetter_116 rfl (by first | assumption | (simp (disch := omega) only [up_s, up_n]; first | assumption | rfl)) rfl ?_
  refine Cm.rt (s_X4_lackingOf h ha) ?_
  refine x_ireturn dX4_aboutLetter_119 ?_
  exact ⟨rfl, rfl⟩
theorem s_X4_aboutLetter {c : Nat → VC} {g : VG} {S : St} (h : CaseAt c S) {a k : Nat} (ha : a < 27) (hk : k < 8) : Cm k_X4_aboutLetter [.ref 2, .int (nI a), .int (nI k)] (g, c) (Rt (.int (letV S a k)) (g, c)) := by
  rcases (show k = 0 ∨ k = 1 ∨ k = 2 ∨ k = 3 ∨ k = 4 ∨ k = 5 ∨ k = 6 ∨ k = 7 by omega) with rfl | rfl | rfl | rfl | rfl | rfl | rfl | rfl
  · exact s_X4_aboutLetter0 h ha
  · exact s_X4_aboutLetter1 h ha
  · exact s_X4_aboutLetter2 h ha
  · exact s_X4_aboutLetter3 h ha
  · exact s_X4_aboutLetter4 h ha
  · exact s_X4_aboutLetter5 h ha
  · exact s_X4_aboutLetter6 h ha
  · exact s_X4_aboutLetter7 h ha
set_option maxRecDepth 20000 in
set_option maxHeartbeats 2000000 in
theorem s_X4_letter {c : Nat → VC} {z k s : Nat} {x : Bool} {S : St} (h : CaseAt c S) {l w : Int32} : Cm k_X4_letter [.ref 2, .int l, .int w] ((z, x, k, s), c) (CQ z x k s c (letterM l w S).1 (letterM l w S).2) := by
  have hh2 := h.1
  have hh3 := h.2.1.1
  have hhs := h.2.2.2.1.choose_spec.choose_spec.2.1
  cases e1 : ix l 27 with
  | none =>
    have hM : letterM l w S = (Sum.inr 1, S) := by simp only [letterM, e1]
    rw [hM]
    refine Cm.in (M := M_X4_letter) (ls := [some (.ref 2), some (.int l), some (.int w)]) rfl rfl ?_
    refine x_iload_n dX4_letter_0 rfl ?_
    refine x_cs1 dX4_letter_1 rfl ?_
    exact Cm.rx (s_rqLetter_x (ix_none e1)) rfl ⟨c, h, FrC.rf, rfl, rfl⟩
  | some a =>
    obtain ⟨ha, rfl⟩ := ix_some (by omega) e1
    cases e2 : rg w 0 7 with
    | none =>
      have hM : letterM (nI a) w S = (Sum.inr 2, S) := by simp only [letterM, e1, e2]
      rw [hM]
      refine Cm.in (M := M_X4_letter) (ls := [some (.ref 2), some (.int (nI a)), some (.int w)]) rfl rfl ?_
      refine x_iload_n dX4_letter_0 rfl ?_
      refine x_cs1 dX4_letter_1 rfl ?_
      refine Cm.rv (s_rqLetter ha) ?_
      refine x_iload_n dX4_letter_4 rfl ?_
      refine x_iconst (nI 0) dX4_letter_5 (by decide) ?_
      refine x_bipush (nI 7) dX4_letter_6 (by decide) ?_
      refine x_cs3 dX4_letter_8 rfl ?_
      exact Cm.rx (s_rqRg_x (rg_none e2)) rfl ⟨c, h, FrC.rf, rfl, rfl⟩
    | some n =>
      obtain ⟨hn1, hn2, rfl⟩ := rg_some (by omega) (by omega) e2
      have hM : letterM (nI a) (nI n) S = (Sum.inl (.int (letV S a n)), S) := by simp only [letterM, e1, e2]
      rw [hM]
      refine Cm.in (M := M_X4_letter) (ls := [some (.ref 2), some (.int (nI a)), some (.int (nI n))]) rfl rfl ?_
      refine x_iload_n dX4_letter_0 rfl ?_
      refine x_cs1 dX4_letter_1 rfl ?_
      refine Cm.rv (s_rqLetter ha) ?_
      refine x_iload_n dX4_letter_4 rfl ?_
      refine x_iconst (nI 0) dX4_letter_5 (by decide) ?_
      refine x_bipush (nI 7) dX4_letter_6 (by decide) ?_
      refine x_cs3 dX4_letter_8 rfl ?_
      refine Cm.rv (s_rqRg hn1 hn2 (by omega)) ?_
      refine x_aload_n dX4_letter_11 rfl ?_
      refine x_iload_n dX4_letter_12 rfl ?_
      refine x_iload_n dX4_letter_13 rfl ?_
      refine x_cv3 dX4_letter_14 rfl (by first | assumption | (simp (disch := omega) only [up_s, up_n]; first | assumption | rfl)) rfl ?_
      refine Cm.rt (s_X4_aboutLetter h ha (by omega)) ?_
      refine x_ireturn dX4_letter_17 ?_
      exact ⟨c, h, FrC.rf, rfl, rfl⟩
set_option maxRecDepth 20000 in
set_option maxHeartbeats 2000000 in
theorem s_X4_inBox {c : Nat → VC} {z k s : Nat} {x : Bool} {S : St} (h : CaseAt c S) {l i : Int32} : Cm k_X4_inBox [.ref 2, .int l, .int i] ((z, x, k, s), c) (CQ z x k s c (inBoxM l i S).1 (inBoxM l i S).2) := by
  have hh2 := h.1
  have hh3 := h.2.1.1
  have hhs := h.2.2.2.1.choose_spec.choose_spec.2.1
  cases e1 : ix l 27 with
  | none =>
    have hM : inBoxM l i S = (Sum.inr 1, S) := by simp only [inBoxM, e1]
    rw [hM]
    refine Cm.in (M := M_X4_inBox) (ls := [some (.ref 2), some (.int l), some (.int i), none]) rfl rfl ?_
    refine x_iload_n dX4_inBox_0 rfl ?_
    refine x_cs1 dX4_inBox_1 rfl ?_
    exact Cm.rx (s_rqLetter_x (ix_none e1)) rfl ⟨c, h, FrC.rf, rfl, rfl⟩
  | some a =>
    obtain ⟨ha, rfl⟩ := ix_some (by omega) e1
    have hb := h.2.1.2.1
    have hba := (hb.2 a ha).2.1
    have hla := (hb.2 a ha).2.2.1
    cases e2 : ix i (S.1.1 a).length with
    | none =>
      have hM : inBoxM (nI a) i S = (Sum.inr 1, S) := by simp only [inBoxM, e1, e2]
      rw [hM]
      refine Cm.in (M := M_X4_inBox) (ls := [some (.ref 2), some (.int (nI a)), some (.int i), none]) rfl rfl ?_
      refine x_iload_n dX4_inBox_0 rfl ?_
      refine x_cs1 dX4_inBox_1 rfl ?_
      refine Cm.rv (s_rqLetter ha) ?_
      refine x_aload_n dX4_inBox_4 rfl ?_
      refine x_getfield dX4_inBox_5 rfl (by decide) (by first | assumption | (simp (disch := omega) only [up_s, up_n]; first | assumption | rfl)) rfl ?_
      refine x_iload_n dX4_inBox_8 rfl ?_
      refine x_cv2 dX4_inBox_9 rfl (by first | assumption | (simp (disch := omega) only [up_s, up_n]; first | assumption | rfl)) rfl ?_
      refine Cm.rt (s_X3_boxOf' hh3 hb ha) ?_
      refine x_astore_n3 dX4_inBox_12 rfl ?_
      refine x_iload_n dX4_inBox_13 rfl ?_
      refine x_aload_n dX4_inBox_14 rfl ?_
      refine x_cv1 dX4_inBox_15 rfl (by first | assumption | (simp (disch := omega) only [up_s, up_n]; first | assumption | rfl)) rfl ?_
      refine Cm.rt (s_X2_size (hb.2 a ha)) ?_
      refine x_cs2 dX4_inBox_18 rfl ?_
      exact Cm.rx (s_rqIx_x (ix_none e2)) rfl ⟨c, h, FrC.rf, rfl, rfl⟩
    | some j =>
      obtain ⟨hj, rfl⟩ := ix_some (by omega) e2
      have hM : inBoxM (nI a) (nI j) S = (Sum.inl (.int (nI ((S.1.1 a).getD ((S.1.1 a).length - 1 - j) 0))), S) := by simp only [inBoxM, e1, e2]
      rw [hM]
      have hgd : (S.1.1 a).getD ((S.1.1 a).length - 1 - j) 0 = (S.1.1 a)[(S.1.1 a).length - 1 - j]'(by omega) := by rw [List.getD_eq_getElem?_getD, List.getElem?_eq_getElem (by omega)]; rfl
      rw [hgd]
      refine Cm.in (M := M_X4_inBox) (ls := [some (.ref 2), some (.int (nI a)), some (.int (nI j)), none]) rfl rfl ?_
      refine x_iload_n dX4_inBox_0 rfl ?_
      refine x_cs1 dX4_inBox_1 rfl ?_
      refine Cm.rv (s_rqLetter ha) ?_
      refine x_aload_n dX4_inBox_4 rfl ?_
      refine x_getfield dX4_inBox_5 rfl (by decide) (by first | assumption | (simp (disch := omega) only [up_s, up_n]; first | assumption | rfl)) rfl ?_
      refine x_iload_n dX4_inBox_8 rfl ?_
      refine x_cv2 dX4_inBox_9 rfl (by first | assumption | (simp (disch := omega) only [up_s, up_n]; first | assumption | rfl)) rfl ?_
      refine Cm.rt (s_X3_boxOf' hh3 hb ha) ?_
      refine x_astore_n3 dX4_inBox_12 rfl ?_
      refine x_iload_n dX4_inBox_13 rfl ?_
      refine x_aload_n dX4_inBox_14 rfl ?_
      refine x_cv1 dX4_inBox_15 rfl (by first | assumption | (simp (disch := omega) only [up_s, up_n]; first | assumption | rfl)) rfl ?_
      refine Cm.rt (s_X2_size (hb.2 a ha)) ?_
      refine x_cs2 dX4_inBox_18 rfl ?_
      refine Cm.rv (s_rqIx hj (by omega)) ?_
      refine x_aload_n dX4_inBox_21 rfl ?_
      refine x_aload_n dX4_inBox_22 rfl ?_
      refine x_cv1 dX4_inBox_23 rfl (by first | assumption | (simp (disch := omega) only [up_s, up_n]; first | assumption | rfl)) rfl ?_
      refine Cm.rt (s_X2_size (hb.2 a ha)) ?_
      refine x_iconst (nI 1) dX4_inBox_26 (by decide) ?_
      refine x_isubN dX4_inBox_27 (by omega) ?_
      refine x_iload_n dX4_inBox_28 rfl ?_
      refine x_isubN dX4_inBox_29 (by omega) ?_
      refine x_cv2 dX4_inBox_30 rfl (by first | assumption | (simp (disch := omega) only [up_s, up_n]; first | assumption | rfl)) rfl ?_
      refine Cm.rt (s_X2_at (hb.2 a ha) (by omega)) ?_
      refine x_ireturn dX4_inBox_33 ?_
      exact ⟨c, h, FrC.rf, rfl, rfl⟩
set_option maxRecDepth 20000 in
set_option maxHeartbeats 2000000 in
theorem s_X4_value {c : Nat → VC} {z k s : Nat} {x : Bool} {S : St} (h : CaseAt c S) {w : Int32} : Cm k_X4_value [.ref 2, .int w] ((z, x, k, s), c) (CQ z x k s c (valueM w S).1 (valueM w S).2) := by
  have hh2 := h.1
  have hh3 := h.2.1.1
  have hhs := h.2.2.2.1.choose_spec.choose_spec.2.1
  cases e2 : rg w 0 11 with
  | none =>
    have hM : valueM w S = (Sum.inr 2, S) := by simp only [valueM, e2]
    rw [hM]
    refine Cm.in (M := M_X4_value) (ls := [some (.ref 2), some (.int w)]) rfl rfl ?_
    refine x_iload_n dX4_value_0 rfl ?_
    refine x_iconst (nI 0) dX4_value_1 (by decide) ?_
    refine x_bipush (nI 11) dX4_value_2 (by decide) ?_
    refine x_cs3 dX4_value_4 rfl ?_
    exact Cm.rx (s_rqRg_x (rg_none e2)) rfl ⟨c, h, FrC.rf, rfl, rfl⟩
  | some n =>
    obtain ⟨hn1, hn2, rfl⟩ := rg_some (by omega) (by omega) e2
    have hM : valueM (nI n) S = (Sum.inl (.int (valM S.1 n)), S) := by simp only [valueM, e2]
    rw [hM]
    refine Cm.in (M := M_X4_value) (ls := [some (.ref 2), some (.int (nI n))]) rfl rfl ?_
    refine x_iload_n dX4_value_0 rfl ?_
    refine x_iconst (nI 0) dX4_value_1 (by decide) ?_
    refine x_bipush (nI 11) dX4_value_2 (by decide) ?_
    refine x_cs3 dX4_value_4 rfl ?_
    refine Cm.rv (s_rqRg hn1 hn2 (by omega)) ?_
    refine x_aload_n dX4_value_7 rfl ?_
    refine x_getfield dX4_value_8 rfl (by decide) (by first | assumption | (simp (disch := omega) only [up_s, up_n]; first | assumption | rfl)) rfl ?_
    refine x_iload_n dX4_value_11 rfl ?_
    refine x_cv2 dX4_value_12 rfl (by first | assumption | (simp (disch := omega) only [up_s, up_n]; first | assumption | rfl)) rfl ?_
    refine Cm.rt (s_X3_number h.2.1 (by omega)) ?_
    refine x_ireturn dX4_value_15 ?_
    exact ⟨c, h, FrC.rf, rfl, rfl⟩
set_option maxRecDepth 20000 in
set_option maxHeartbeats 2000000 in
theorem s_X4_aboutForme0 {c : Nat → VC} {g : VG} {S : St} (h : CaseAt c S) {j : Nat} (hj : j < 3) : Cm k_X4_aboutForme [.ref 2, .int (nI j), .int (nI 0)] (g, c) (Rt (.int (foV S j 0)) (g, c)) := by
  have hh2 := h.1
  have hh3 := h.2.1.1
  have hhs := h.2.2.2.1.choose_spec.choose_spec.2.1
  have hF := h.2.1.2.2.1
  have hfo := hF.2 j hj
  have hfk := hfo.1.choose_spec.choose_spec.choose_spec.choose_spec.1
  refine Cm.in (M := M_X4_aboutForme) (ls := [some (.ref 2), some (.int (nI j)), some (.int (nI 0)), none]) rfl rfl ?_
  refine x_aload_n dX4_aboutForme_0 rfl ?_
  refine x_getfield dX4_aboutForme_1 rfl (by decide) (by first | assumption | (simp (disch := omega) only [up_s, up_n]; first | assumption | rfl)) rfl ?_
  refine x_iload_n dX4_aboutForme_4 rfl ?_
  refine x_cv2 dX4_aboutForme_5 rfl (by first | assumption | (simp (disch := omega) only [up_s, up_n]; first | assumption | rfl)) rfl ?_
  refine Cm.rt (s_X3_formeOf hh3 hF hj) ?_
  refine x_astore_n3 dX4_aboutForme_8 rfl ?_
  refine x_iload_n dX4_aboutForme_9 rfl ?_
  refine x_tab (off := 30) 40 dX4_aboutForme_10 (by decide) (by decide) (by decide) ?_
  refine x_aload_n dX4_aboutForme_40 rfl ?_
  refine x_cv1 dX4_aboutForme_41 rfl (by first | assumption | (simp (disch := omega) only [up_s, up_n]; first | assumption | rfl)) rfl ?_
  refine Cm.rt (s_X0_lines hfo.1) ?_
  rw [endsL_len]
  refine x_ireturn dX4_aboutForme_44 ?_
  exact ⟨rfl, rfl⟩
set_option maxRecDepth 20000 in
set_option maxHeartbeats 2000000 in
theorem s_X4_aboutForme1 {c : Nat → VC} {g : VG} {S : St} (h : CaseAt c S) {j : Nat} (hj : j < 3) : Cm k_X4_aboutForme [.ref 2, .int (nI j), .int (nI 1)] (g, c) (Rt (.int (foV S j 1)) (g, c)) := by
  have hh2 := h.1
  have hh3 := h.2.1.1
  have hhs := h.2.2.2.1.choose_spec.choose_spec.2.1
  have hF := h.2.1.2.2.1
  have hfo := hF.2 j hj
  have hfk := hfo.1.choose_spec.choose_spec.choose_spec.choose_spec.1
  refine Cm.in (M := M_X4_aboutForme) (ls := [some (.ref 2), some (.int (nI j)), some (.int (nI 1)), none]) rfl rfl ?_
  refine x_aload_n dX4_aboutForme_0 rfl ?_
  refine x_getfield dX4_aboutForme_1 rfl (by decide) (by first | assumption | (simp (disch := omega) only [up_s, up_n]; first | assumption | rfl)) rfl ?_
  refine x_iload_n dX4_aboutForme_4 rfl ?_
  refine x_cv2 dX4_aboutForme_5 rfl (by first | assumption | (simp (disch := omega) only [up_s, up_n]; first | assumption | rfl)) rfl ?_
  refine Cm.rt (s_X3_formeOf hh3 hF hj) ?_
  refine x_astore_n3 dX4_aboutForme_8 rfl ?_
  refine x_iload_n dX4_aboutForme_9 rfl ?_
  refine x_tab (off := 35) 45 dX4_aboutForme_10 (by decide) (by decide) (by decide) ?_
  refine x_aload_n dX4_aboutForme_45 rfl ?_
  refine x_cv1 dX4_aboutForme_46 rfl (by first | assumption | (simp (disch := omega) only [up_s, up_n]; first | assumption | rfl)) rfl ?_
  refine Cm.rt (s_X0_size hfo.1) ?_
  refine x_ireturn dX4_aboutForme_49 ?_
  exact ⟨rfl, rfl⟩
set_option maxRecDepth 20000 in
set_option maxHeartbeats 2000000 in
theorem s_X4_aboutForme2 {c : Nat → VC} {g : VG} {S : St} (h : CaseAt c S) {j : Nat} (hj : j < 3) : Cm k_X4_aboutForme [.ref 2, .int (nI j), .int (nI 2)] (g, c) (Rt (.int (foV S j 2)) (g, c)) := by
  have hh2 := h.1
  have hh3 := h.2.1.1
  have hhs := h.2.2.2.1.choose_spec.choose_spec.2.1
  have hF := h.2.1.2.2.1
  have hfo := hF.2 j hj
  have hfk := hfo.1.choose_spec.choose_spec.choose_spec.choose_spec.1
  refine Cm.in (M := M_X4_aboutForme) (ls := [some (.ref 2), some (.int (nI j)), some (.int (nI 2)), none]) rfl rfl ?_
  refine x_aload_n dX4_aboutForme_0 rfl ?_
  refine x_getfield dX4_aboutForme_1 rfl (by decide) (by first | assumption | (simp (disch := omega) only [up_s, up_n]; first | assumption | rfl)) rfl ?_
  refine x_iload_n dX4_aboutForme_4 rfl ?_
  refine x_cv2 dX4_aboutForme_5 rfl (by first | assumption | (simp (disch := omega) only [up_s, up_n]; first | assumption | rfl)) rfl ?_
  refine Cm.rt (s_X3_formeOf hh3 hF hj) ?_
  refine x_astore_n3 dX4_aboutForme_8 rfl ?_
  refine x_iload_n dX4_aboutForme_9 rfl ?_
  refine x_tab (off := 40) 50 dX4_aboutForme_10 (by decide) (by decide) (by decide) ?_
  refine x_aload_n dX4_aboutForme_50 rfl ?_
  refine x_cv1 dX4_aboutForme_51 rfl (by first | assumption | (simp (disch := omega) only [up_s, up_n]; first | assumption | rfl)) rfl ?_
  refine Cm.rt (s_X0_errors hfo.1) ?_
  refine x_ireturn dX4_aboutForme_54 ?_
  exact ⟨rfl, rfl⟩
set_option maxRecDepth 20000 in
set_option maxHeartbeats 2000000 in
theorem s_X4_aboutForme3 {c : Nat → VC} {g : VG} {S : St} (h : CaseAt c S) {j : Nat} (hj : j < 3) : Cm k_X4_aboutForme [.ref 2, .int (nI j), .int (nI 3)] (g, c) (Rt (.int (foV S j 3)) (g, c)) := by
  have hh2 := h.1
  have hh3 := h.2.1.1
  have hhs := h.2.2.2.1.choose_spec.choose_spec.2.1
  have hF := h.2.1.2.2.1
  have hfo := hF.2 j hj
  have hfk := hfo.1.choose_spec.choose_spec.choose_spec.choose_spec.1
  refine Cm.in (M := M_X4_aboutForme) (ls := [some (.ref 2), some (.int (nI j)), some (.int (nI 3)), none]) rfl rfl ?_
  refine x_aload_n dX4_aboutForme_0 rfl ?_
  refine x_getfield dX4_aboutForme_1 rfl (by decide) (by first | assumption | (simp (disch := omega) only [up_s, up_n]; first | assumption | rfl)) rfl ?_
  refine x_iload_n dX4_aboutForme_4 rfl ?_
  refine x_cv2 dX4_aboutForme_5 rfl (by first | assumption | (simp (disch := omega) only [up_s, up_n]; first | assumption | rfl)) rfl ?_
  refine Cm.rt (s_X3_formeOf hh3 hF hj) ?_
  refine x_astore_n3 dX4_aboutForme_8 rfl ?_
  refine x_iload_n dX4_aboutForme_9 rfl ?_
  refine x_tab (off := 45) 55 dX4_aboutForme_10 (by decide) (by decide) (by decide) ?_
  refine x_aload_n dX4_aboutForme_55 rfl ?_
  refine x_cv1 dX4_aboutForme_56 rfl (by first | assumption | (simp (disch := omega) only [up_s, up_n]; first | assumption | rfl)) rfl ?_
  refine Cm.rt (s_X0_turnedSorts hfo.1) ?_
  refine x_ireturn dX4_aboutForme_59 ?_
  exact ⟨rfl, rfl⟩
set_option maxRecDepth 20000 in
set_option maxHeartbeats 2000000 in
theorem s_X4_aboutForme4 {c : Nat → VC} {g : VG} {S : St} (h : CaseAt c S) (hk : StOK S) {j : Nat} (hj : j < 3) : Cm k_X4_aboutForme [.ref 2, .int (nI j), .int (nI 4)] (g, c) (Ei g (fun v c' => v = .int (foV S j 4) ∧ CaseAt c' S ∧ FrC c c')) := by
  have hh2 := h.1
  have hh3 := h.2.1.1
  have hhs := h.2.2.2.1.choose_spec.choose_spec.2.1
  have hF := h.2.1.2.2.1
  obtain ⟨σt, hσt⟩ := h.2.2.2.2.1
  have hot := hσt.1
  refine Cm.in (M := M_X4_aboutForme) (ls := [some (.ref 2), some (.int (nI j)), some (.int (nI 4)), none]) rfl rfl ?_
  refine x_aload_n dX4_aboutForme_0 rfl ?_
  refine x_getfield dX4_aboutForme_1 rfl (by decide) (by first | assumption | (simp (disch := omega) only [up_s, up_n]; first | assumption | rfl)) rfl ?_
  refine x_iload_n dX4_aboutForme_4 rfl ?_
  refine x_cv2 dX4_aboutForme_5 rfl (by first | assumption | (simp (disch := omega) only [up_s, up_n]; first | assumption | rfl)) rfl ?_
  refine Cm.rt (s_X3_formeOf hh3 hF hj) ?_
  refine x_astore_n3 dX4_aboutForme_8 rfl ?_
  refine x_iload_n dX4_aboutForme_9 rfl ?_
  refine x_tabD 60 dX4_aboutForme_10 (by decide) (by decide) ?_
  refine x_aload_n dX4_aboutForme_60 rfl ?_
  refine x_getfield dX4_aboutForme_61 rfl (by decide) (by first | assumption | (simp (disch := omega) only [up_s, up_n]; first | assumption | rfl)) rfl ?_
  refine x_aload_n dX4_aboutForme_64 rfl ?_
  refine x_getfield dX4_aboutForme_65 rfl (by decide) (by first | assumption | (simp (disch := omega) only [up_s, up_n]; first | assumption | rfl)) rfl ?_
  refine x_cv2 dX4_aboutForme_68 rfl (by first | assumption | (simp (disch := omega) only [up_s, up_n]; first | assumption | rfl)) rfl ?_
  refine Cm.ev (s_X3_copyFrom hσt h.2.1 (by omega)) (fun c1 q1 => ?_)
  obtain ⟨q11, q12⟩ := q1
  have hh21 := (q12 2 (by omega)).trans hh2
  have hot1 := q11.1
  refine x_aload_n dX4_aboutForme_71 rfl ?_
  refine x_getfield dX4_aboutForme_72 rfl (by decide) (by first | assumption | (simp (disch := omega) only [up_s, up_n]; first | assumption | rfl)) rfl ?_
  refine x_aload_n dX4_aboutForme_75 rfl ?_
  refine x_getfield dX4_aboutForme_76 rfl (by decide) (by first | assumption | (simp (disch := omega) only [up_s, up_n]; first | assumption | rfl)) rfl ?_
  refine x_iload_n dX4_aboutForme_79 rfl ?_
  refine x_cv2 dX4_aboutForme_80 rfl (by first | assumption | (simp (disch := omega) only [up_s, up_n]; first | assumption | rfl)) rfl ?_
  refine Cm.rt (s_X3_formeOf hot1 q11.2.2.1 hj) ?_
  refine x_cv2 dX4_aboutForme_83 rfl (by first | assumption | (simp (disch := omega) only [up_s, up_n]; first | assumption | rfl)) rfl ?_
  refine Cm.ei (s_X3_correctForme ap377 hot1 q11.2.1 (q11.2.2.1.2 j hj).1 (SB_tot hk.1)) (fun v c2 q2 => ?_)
  obtain ⟨rfl, q21, q22, q23, q24⟩ := q2
  have hre := reL_flat (L := S.1.2.1 j) (p := (corL (S.1.2.1 j).flatten S.1.1).2.1) corL_len
  have hfo : FormeAt c2 (377 + 59 + 5 * j) (reL (S.1.2.1 j) (corL (S.1.2.1 j).flatten S.1.1).2.1) := ⟨by rw [hre.1, ends_map hre.2]; exact q23, (q11.2.2.1.2 j hj).2.map hre.2⟩
  have hs2 := q11.bf q21 q22 hj hfo q24
  have hfr : ∀ k, k < 377 ∨ 451 ≤ k → c2 k = c k := fun k hk => (q24 k (by omega) (by omega) (by omega)).trans (q12 k (by omega))
  have h2 : CaseAt c2 S := h.trial ⟨_, hs2⟩ (by
    obtain ⟨pl, es, h6⟩ := h.2.2.2.2.2.1
    exact ⟨pl, es, h6.fr (fun k z1 z2 => hfr k (by omega))⟩) (fun k hk => hfr k (by omega))
  refine x_ireturn dX4_aboutForme_86 ?_
  exact ⟨_, c2, rfl, rfl, rfl, h2, fun k hk => hfr k (by omega)⟩
theorem s_X4_aboutForme {c : Nat → VC} {g : VG} {S : St} (h : CaseAt c S) (hk : StOK S) {j k : Nat} (hj : j < 3) (hk5 : k < 5) : Cm k_X4_aboutForme [.ref 2, .int (nI j), .int (nI k)] (g, c) (Ei g (fun v c' => v = .int (foV S j k) ∧ CaseAt c' S ∧ FrC c c')) := by
  have e : ∀ {v : Value}, Cm k_X4_aboutForme [.ref 2, .int (nI j), .int (nI k)] (g, c) (Rt v (g, c)) → Cm k_X4_aboutForme [.ref 2, .int (nI j), .int (nI k)] (g, c) (Ei g (fun w c' => w = v ∧ CaseAt c' S ∧ FrC c c')) := fun hc => hc.mono (fun r h' q => ⟨_, c, q.1, q.2, rfl, h, FrC.rf⟩)
  rcases (show k = 0 ∨ k = 1 ∨ k = 2 ∨ k = 3 ∨ k = 4 by omega) with rfl | rfl | rfl | rfl | rfl
  · exact e (s_X4_aboutForme0 h hj)
  · exact e (s_X4_aboutForme1 h hj)
  · exact e (s_X4_aboutForme2 h hj)
  · exact e (s_X4_aboutForme3 h hj)
  · exact s_X4_aboutForme4 h hk hj
set_option maxRecDepth 20000 in
set_option maxHeartbeats 2000000 in
theorem s_X4_forme {c : Nat → VC} {z k s : Nat} {x : Bool} {S : St} (h : CaseAt c S) (hk : StOK S) {f w : Int32} : Cm k_X4_forme [.ref 2, .int f, .int w] ((z, x, k, s), c) (CQ z x k s c (formeM f w S).1 (formeM f w S).2) := by
  have hh2 := h.1
  have hh3 := h.2.1.1
  have hhs := h.2.2.2.1.choose_spec.choose_spec.2.1
  cases e1 : ix f 3 with
  | none =>
    have hM : formeM f w S = (Sum.inr 1, S) := by simp only [formeM, e1]
    rw [hM]
    refine Cm.in (M := M_X4_forme) (ls := [some (.ref 2), some (.int f), some (.int w)]) rfl rfl ?_
    refine x_iload_n dX4_forme_0 rfl ?_
    refine x_cs1 dX4_forme_1 rfl ?_
    exact Cm.rx (s_rqForme_x (ix_none e1)) rfl ⟨c, h, FrC.rf, rfl, rfl⟩
  | some j =>
    obtain ⟨hj, rfl⟩ := ix_some (by omega) e1
    cases e2 : rg w 0 4 with
    | none =>
      have hM : formeM (nI j) w S = (Sum.inr 2, S) := by simp only [formeM, e1, e2]
      rw [hM]
      refine Cm.in (M := M_X4_forme) (ls := [some (.ref 2), some (.int (nI j)), some (.int w)]) rfl rfl ?_
      refine x_iload_n dX4_forme_0 rfl ?_
      refine x_cs1 dX4_forme_1 rfl ?_
      refine Cm.rv (s_rqForme hj) ?_
      refine x_iload_n dX4_forme_4 rfl ?_
      refine x_iconst (nI 0) dX4_forme_5 (by decide) ?_
      refine x_iconst (nI 4) dX4_forme_6 (by decide) ?_
      refine x_cs3 dX4_forme_7 rfl ?_
      exact Cm.rx (s_rqRg_x (rg_none e2)) rfl ⟨c, h, FrC.rf, rfl, rfl⟩
    | some n =>
      obtain ⟨hn1, hn2, rfl⟩ := rg_some (by omega) (by omega) e2
      have hM : formeM (nI j) (nI n) S = (Sum.inl (.int (foV S j n)), S) := by simp only [formeM, e1, e2]
      rw [hM]
      refine Cm.in (M := M_X4_forme) (ls := [some (.ref 2), some (.int (nI j)), some (.int (nI n))]) rfl rfl ?_
      refine x_iload_n dX4_forme_0 rfl ?_
      refine x_cs1 dX4_forme_1 rfl ?_
      refine Cm.rv (s_rqForme hj) ?_
      refine x_iload_n dX4_forme_4 rfl ?_
      refine x_iconst (nI 0) dX4_forme_5 (by decide) ?_
      refine x_iconst (nI 4) dX4_forme_6 (by decide) ?_
      refine x_cs3 dX4_forme_7 rfl ?_
      refine Cm.rv (s_rqRg hn1 hn2 (by omega)) ?_
      refine x_aload_n dX4_forme_10 rfl ?_
      refine x_iload_n dX4_forme_11 rfl ?_
      refine x_iload_n dX4_forme_12 rfl ?_
      refine x_cv3 dX4_forme_13 rfl (by first | assumption | (simp (disch := omega) only [up_s, up_n]; first | assumption | rfl)) rfl ?_
      refine Cm.ei (s_X4_aboutForme h hk hj (by omega)) (fun v c2 q2 => ?_)
      obtain ⟨rfl, q21, q22⟩ := q2
      refine x_ireturn dX4_forme_16 ?_
      exact ⟨c2, q21, q22, rfl, rfl⟩
set_option maxRecDepth 20000 in
set_option maxHeartbeats 2000000 in
theorem s_X4_places {c : Nat → VC} {z k s : Nat} {x : Bool} {S : St} (h : CaseAt c S) {f i : Int32} : Cm k_X4_places [.ref 2, .int f, .int i] ((z, x, k, s), c) (CQ z x k s c (placesM f i S).1 (placesM f i S).2) := by
  have hh2 := h.1
  have hh3 := h.2.1.1
  have hhs := h.2.2.2.1.choose_spec.choose_spec.2.1
  cases e1 : ix f 3 with
  | none =>
    have hM : placesM f i S = (Sum.inr 1, S) := by simp only [placesM, e1]
    rw [hM]
    refine Cm.in (M := M_X4_places) (ls := [some (.ref 2), some (.int f), some (.int i), none]) rfl rfl ?_
    refine x_iload_n dX4_places_0 rfl ?_
    refine x_cs1 dX4_places_1 rfl ?_
    exact Cm.rx (s_rqForme_x (ix_none e1)) rfl ⟨c, h, FrC.rf, rfl, rfl⟩
  | some j =>
    obtain ⟨hj, rfl⟩ := ix_some (by omega) e1
    have hF := h.2.1.2.2.1
    have hfo := hF.2 j hj
    have hfk := hfo.1.choose_spec.choose_spec.choose_spec.choose_spec.1
    have hL5 := hfo.2.1
    cases e2 : ix i (S.1.2.1 j).length with
    | none =>
      have hM : placesM (nI j) i S = (Sum.inr 1, S) := by simp only [placesM, e1, e2]
      rw [hM]
      refine Cm.in (M := M_X4_places) (ls := [some (.ref 2), some (.int (nI j)), some (.int i), none]) rfl rfl ?_
      refine x_iload_n dX4_places_0 rfl ?_
      refine x_cs1 dX4_places_1 rfl ?_
      refine Cm.rv (s_rqForme hj) ?_
      refine x_aload_n dX4_places_4 rfl ?_
      refine x_getfield dX4_places_5 rfl (by decide) (by first | assumption | (simp (disch := omega) only [up_s, up_n]; first | assumption | rfl)) rfl ?_
      refine x_iload_n dX4_places_8 rfl ?_
      refine x_cv2 dX4_places_9 rfl (by first | assumption | (simp (disch := omega) only [up_s, up_n]; first | assumption | rfl)) rfl ?_
      refine Cm.rt (s_X3_formeOf hh3 hF hj) ?_
      refine x_astore_n3 dX4_places_12 rfl ?_
      refine x_iload_n dX4_places_13 rfl ?_
      refine x_aload_n dX4_places_14 rfl ?_
      refine x_cv1 dX4_places_15 rfl (by first | assumption | (simp (disch := omega) only [up_s, up_n]; first | assumption | rfl)) rfl ?_
      refine Cm.rt (s_X0_lines hfo.1) ?_
      rw [endsL_len]
      refine x_cs2 dX4_places_18 rfl ?_
      exact Cm.rx (s_rqIx_x (ix_none e2)) rfl ⟨c, h, FrC.rf, rfl, rfl⟩
    | some n =>
      obtain ⟨hn, rfl⟩ := ix_some (by omega) e2
      have hM : placesM (nI j) (nI n) S = (Sum.inl (.int (nI ((S.1.2.1 j).getD n []).length)), S) := by simp only [placesM, e1, e2]
      rw [hM]
      have hgd : (S.1.2.1 j).getD n [] = (S.1.2.1 j)[n] := by rw [List.getD_eq_getElem?_getD, List.getElem?_eq_getElem hn]; rfl
      rw [hgd]
      refine Cm.in (M := M_X4_places) (ls := [some (.ref 2), some (.int (nI j)), some (.int (nI n)), none]) rfl rfl ?_
      refine x_iload_n dX4_places_0 rfl ?_
      refine x_cs1 dX4_places_1 rfl ?_
      refine Cm.rv (s_rqForme hj) ?_
      refine x_aload_n dX4_places_4 rfl ?_
      refine x_getfield dX4_places_5 rfl (by decide) (by first | assumption | (simp (disch := omega) only [up_s, up_n]; first | assumption | rfl)) rfl ?_
      refine x_iload_n dX4_places_8 rfl ?_
      refine x_cv2 dX4_places_9 rfl (by first | assumption | (simp (disch := omega) only [up_s, up_n]; first | assumption | rfl)) rfl ?_
      refine Cm.rt (s_X3_formeOf hh3 hF hj) ?_
      refine x_astore_n3 dX4_places_12 rfl ?_
      refine x_iload_n dX4_places_13 rfl ?_
      refine x_aload_n dX4_places_14 rfl ?_
      refine x_cv1 dX4_places_15 rfl (by first | assumption | (simp (disch := omega) only [up_s, up_n]; first | assumption | rfl)) rfl ?_
      refine Cm.rt (s_X0_lines hfo.1) ?_
      rw [endsL_len]
      refine x_cs2 dX4_places_18 rfl ?_
      refine Cm.rv (s_rqIx hn (by omega)) ?_
      refine x_aload_n dX4_places_21 rfl ?_
      refine x_iload_n dX4_places_22 rfl ?_
      refine x_cv2 dX4_places_23 rfl (by first | assumption | (simp (disch := omega) only [up_s, up_n]; first | assumption | rfl)) rfl ?_
      refine Cm.rt (s_X0_lengthOfL hfo hn) ?_
      refine x_ireturn dX4_places_26 ?_
      exact ⟨c, h, FrC.rf, rfl, rfl⟩
set_option maxRecDepth 20000 in
set_option maxHeartbeats 2000000 in
theorem s_X4_place {c : Nat → VC} {z k s : Nat} {x : Bool} {S : St} (h : CaseAt c S) {f i p w : Int32} : Cm k_X4_place [.ref 2, .int f, .int i, .int p, .int w] ((z, x, k, s), c) (CQ z x k s c (placeM f i p w S).1 (placeM f i p w S).2) := by
  have hh2 := h.1
  have hh3 := h.2.1.1
  have hhs := h.2.2.2.1.choose_spec.choose_spec.2.1
  cases e1 : ix f 3 with
  | none =>
    have hM : placeM f i p w S = (Sum.inr 1, S) := by simp only [placeM, e1]
    rw [hM]
    refine Cm.in (M := M_X4_place) (ls := [some (.ref 2), some (.int f), some (.int i), some (.int p), some (.int w), none]) rfl rfl ?_
    refine x_iload_n dX4_place_0 rfl ?_
    refine x_cs1 dX4_place_1 rfl ?_
    exact Cm.rx (s_rqForme_x (ix_none e1)) rfl ⟨c, h, FrC.rf, rfl, rfl⟩
  | some j =>
    obtain ⟨hj, rfl⟩ := ix_some (by omega) e1
    have hF := h.2.1.2.2.1
    have hfo := hF.2 j hj
    have hfk := hfo.1.choose_spec.choose_spec.choose_spec.choose_spec.1
    have hL5 := hfo.2.1
    cases e2 : ix i (S.1.2.1 j).length with
    | none =>
      have hM : placeM (nI j) i p w S = (Sum.inr 1, S) := by simp only [placeM, e1, e2]
      rw [hM]
      refine Cm.in (M := M_X4_place) (ls := [some (.ref 2), some (.int (nI j)), some (.int i), some (.int p), some (.int w), none]) rfl rfl ?_
      refine x_iload_n dX4_place_0 rfl ?_
      refine x_cs1 dX4_place_1 rfl ?_
      refine Cm.rv (s_rqForme hj) ?_
      refine x_aload_n dX4_place_4 rfl ?_
      refine x_getfield dX4_place_5 rfl (by decide) (by first | assumption | (simp (disch := omega) only [up_s, up_n]; first | assumption | rfl)) rfl ?_
      refine x_iload_n dX4_place_8 rfl ?_
      refine x_cv2 dX4_place_9 rfl (by first | assumption | (simp (disch := omega) only [up_s, up_n]; first | assumption | rfl)) rfl ?_
      refine Cm.rt (s_X3_formeOf hh3 hF hj) ?_
      refine x_astore_5 dX4_place_12 rfl ?_
      refine x_iload_n dX4_place_14 rfl ?_
      refine x_aload dX4_place_15 rfl ?_
      refine x_cv1 dX4_place_17 rfl (by first | assumption | (simp (disch := omega) only [up_s, up_n]; first | assumption | rfl)) rfl ?_
      refine Cm.rt (s_X0_lines hfo.1) ?_
      rw [endsL_len]
      refine x_cs2 dX4_place_20 rfl ?_
      exact Cm.rx (s_rqIx_x (ix_none e2)) rfl ⟨c, h, FrC.rf, rfl, rfl⟩
    | some n =>
      obtain ⟨hn, rfl⟩ := ix_some (by omega) e2
      have hgd : (S.1.2.1 j).getD n [] = (S.1.2.1 j)[n] := by rw [List.getD_eq_getElem?_getD, List.getElem?_eq_getElem hn]; rfl
      have hln := hfo.2.2 _ (List.getElem_mem hn)
      cases e3 : ix p ((S.1.2.1 j).getD n []).length with
      | none =>
        have hM : placeM (nI j) (nI n) p w S = (Sum.inr 1, S) := by simp only [placeM, e1, e2, e3]
        rw [hM]
        rw [hgd] at e3
        refine Cm.in (M := M_X4_place) (ls := [some (.ref 2), some (.int (nI j)), some (.int (nI n)), some (.int p), some (.int w), none]) rfl rfl ?_
        refine x_iload_n dX4_place_0 rfl ?_
        refine x_cs1 dX4_place_1 rfl ?_
        refine Cm.rv (s_rqForme hj) ?_
        refine x_aload_n dX4_place_4 rfl ?_
        refine x_getfield dX4_place_5 rfl (by decide) (by first | assumption | (simp (disch := omega) only [up_s, up_n]; first | assumption | rfl)) rfl ?_
        refine x_iload_n dX4_place_8 rfl ?_
        refine x_cv2 dX4_place_9 rfl (by first | assumption | (simp (disch := omega) only [up_s, up_n]; first | assumption | rfl)) rfl ?_
        refine Cm.rt (s_X3_formeOf hh3 hF hj) ?_
        refine x_astore_5 dX4_place_12 rfl ?_
        refine x_iload_n dX4_place_14 rfl ?_
        refine x_aload dX4_place_15 rfl ?_
        refine x_cv1 dX4_place_17 rfl (by first | assumption | (simp (disch := omega) only [up_s, up_n]; first | assumption | rfl)) rfl ?_
        refine Cm.rt (s_X0_lines hfo.1) ?_
        rw [endsL_len]
        refine x_cs2 dX4_place_20 rfl ?_
        refine Cm.rv (s_rqIx hn (by omega)) ?_
        refine x_iload_n dX4_place_23 rfl ?_
        refine x_aload dX4_place_24 rfl ?_
        refine x_iload_n dX4_place_26 rfl ?_
        refine x_cv2 dX4_place_27 rfl (by first | assumption | (simp (disch := omega) only [up_s, up_n]; first | assumption | rfl)) rfl ?_
        refine Cm.rt (s_X0_lengthOfL hfo hn) ?_
        refine x_cs2 dX4_place_30 rfl ?_
        exact Cm.rx (s_rqIx_x (ix_none e3)) rfl ⟨c, h, FrC.rf, rfl, rfl⟩
      | some q =>
        obtain ⟨hq, rfl⟩ := ix_some (by rw [hgd]; omega) e3
        have hq2 := hq
        rw [hgd] at hq2
        cases e4 : rg w 0 3 with
        | none =>
          have hM : placeM (nI j) (nI n) (nI q) w S = (Sum.inr 2, S) := by simp only [placeM, e1, e2, e3, e4]
          rw [hM]
          refine Cm.in (M := M_X4_place) (ls := [some (.ref 2), some (.int (nI j)), some (.int (nI n)), some (.int (nI q)), some (.int w), none]) rfl rfl ?_
          refine x_iload_n dX4_place_0 rfl ?_
          refine x_cs1 dX4_place_1 rfl ?_
          refine Cm.rv (s_rqForme hj) ?_
          refine x_aload_n dX4_place_4 rfl ?_
          refine x_getfield dX4_place_5 rfl (by decide) (by first | assumption | (simp (disch := omega) only [up_s, up_n]; first | assumption | rfl)) rfl ?_
          refine x_iload_n dX4_place_8 rfl ?_
          refine x_cv2 dX4_place_9 rfl (by first | assumption | (simp (disch := omega) only [up_s, up_n]; first | assumption | rfl)) rfl ?_
          refine Cm.rt (s_X3_formeOf hh3 hF hj) ?_
          refine x_astore_5 dX4_place_12 rfl ?_
          refine x_iload_n dX4_place_14 rfl ?_
          refine x_aload dX4_place_15 rfl ?_
          refine x_cv1 dX4_place_17 rfl (by first | assumption | (simp (disch := omega) only [up_s, up_n]; first | assumption | rfl)) rfl ?_
          refine Cm.rt (s_X0_lines hfo.1) ?_
          rw [endsL_len]
          refine x_cs2 dX4_place_20 rfl ?_
          refine Cm.rv (s_rqIx hn (by omega)) ?_
          refine x_iload_n dX4_place_23 rfl ?_
          refine x_aload dX4_place_24 rfl ?_
          refine x_iload_n dX4_place_26 rfl ?_
          refine x_cv2 dX4_place_27 rfl (by first | assumption | (simp (disch := omega) only [up_s, up_n]; first | assumption | rfl)) rfl ?_
          refine Cm.rt (s_X0_lengthOfL hfo hn) ?_
          refine x_cs2 dX4_place_30 rfl ?_
          refine Cm.rv (s_rqIx hq2 (by omega)) ?_
          refine x_iload dX4_place_33 rfl ?_
          refine x_iconst (nI 0) dX4_place_35 (by decide) ?_
          refine x_iconst (nI 3) dX4_place_36 (by decide) ?_
          refine x_cs3 dX4_place_37 rfl ?_
          exact Cm.rx (s_rqRg_x (rg_none e4)) rfl ⟨c, h, FrC.rf, rfl, rfl⟩
        | some v =>
          obtain ⟨hv1, hv2, rfl⟩ := rg_some (by omega) (by omega) e4
          have hM : placeM (nI j) (nI n) (nI q) (nI v) S = (Sum.inl (.int (nI (abt (((S.1.2.1 j).getD n []).getD q (0, 0, 0)) v))), S) := by simp only [placeM, e1, e2, e3, e4]
          rw [hM]
          obtain ⟨hx1, hx2⟩ := fl_idx hn hq2
          have hgd2 : ((S.1.2.1 j).getD n []).getD q (0, 0, 0) = (S.1.2.1 j)[n][q] := by rw [hgd, List.getD_eq_getElem?_getD, List.getElem?_eq_getElem hq2]; rfl
          rw [hgd2]
          refine Cm.in (M := M_X4_place) (ls := [some (.ref 2), some (.int (nI j)), some (.int (nI n)), some (.int (nI q)), some (.int (nI v)), none]) rfl rfl ?_
          refine x_iload_n dX4_place_0 rfl ?_
          refine x_cs1 dX4_place_1 rfl ?_
          refine Cm.rv (s_rqForme hj) ?_
          refine x_aload_n dX4_place_4 rfl ?_
          refine x_getfield dX4_place_5 rfl (by decide) (by first | assumption | (simp (disch := omega) only [up_s, up_n]; first | assumption | rfl)) rfl ?_
          refine x_iload_n dX4_place_8 rfl ?_
          refine x_cv2 dX4_place_9 rfl (by first | assumption | (simp (disch := omega) only [up_s, up_n]; first | assumption | rfl)) rfl ?_
          refine Cm.rt (s_X3_formeOf hh3 hF hj) ?_
          refine x_astore_5 dX4_place_12 rfl ?_
          refine x_iload_n dX4_place_14 rfl ?_
          refine x_aload dX4_place_15 rfl ?_
          refine x_cv1 dX4_place_17 rfl (by first | assumption | (simp (disch := omega) only [up_s, up_n]; first | assumption | rfl)) rfl ?_
          refine Cm.rt (s_X0_lines hfo.1) ?_
          rw [endsL_len]
          refine x_cs2 dX4_place_20 rfl ?_
          refine Cm.rv (s_rqIx hn (by omega)) ?_
          refine x_iload_n dX4_place_23 rfl ?_
          refine x_aload dX4_place_24 rfl ?_
          refine x_iload_n dX4_place_26 rfl ?_
          refine x_cv2 dX4_place_27 rfl (by first | assumption | (simp (disch := omega) only [up_s, up_n]; first | assumption | rfl)) rfl ?_
          refine Cm.rt (s_X0_lengthOfL hfo hn) ?_
          refine x_cs2 dX4_place_30 rfl ?_
          refine Cm.rv (s_rqIx hq2 (by omega)) ?_
          refine x_iload dX4_place_33 rfl ?_
          refine x_iconst (nI 0) dX4_place_35 (by decide) ?_
          refine x_iconst (nI 3) dX4_place_36 (by decide) ?_
          refine x_cs3 dX4_place_37 rfl ?_
          refine Cm.rv (s_rqRg hv1 hv2 (by omega)) ?_
          refine x_aload dX4_place_40 rfl ?_
          refine x_aload dX4_place_42 rfl ?_
          refine x_iload_n dX4_place_44 rfl ?_
          refine x_cv2 dX4_place_45 rfl (by first | assumption | (simp (disch := omega) only [up_s, up_n]; first | assumption | rfl)) rfl ?_
          refine Cm.rt (s_X0_startOfL hfo hn) ?_
          refine x_iload_n dX4_place_48 rfl ?_
          refine x_iaddN dX4_place_49 ?_
          refine x_iload dX4_place_50 rfl ?_
          refine x_cv3 dX4_place_52 rfl (by first | assumption | (simp (disch := omega) only [up_s, up_n]; first | assumption | rfl)) rfl ?_
          have hab := s_X0_about (g := (z, x, k, s)) hfo.1 hx1 (k := v) (by omega)
          rw [hx2] at hab
          refine Cm.rt hab ?_
          refine x_ireturn dX4_place_55 ?_
          exact ⟨c, h, FrC.rf, rfl, rfl⟩
set_option maxRecDepth 20000 in
set_option maxHeartbeats 2000000 in
theorem s_X4_proof {c : Nat → VC} {z k s : Nat} {x : Bool} {S : St} (h : CaseAt c S) {f i : Int32} : Cm k_X4_proof [.ref 2, .int f, .int i] ((z, x, k, s), c) (CQ z x k s c (proofM f i S).1 (proofM f i S).2) := by
  have hh2 := h.1
  have hh3 := h.2.1.1
  have hhs := h.2.2.2.1.choose_spec.choose_spec.2.1
  cases e1 : ix f 3 with
  | none =>
    have hM : proofM f i S = (Sum.inr 1, S) := by simp only [proofM, e1]
    rw [hM]
    refine Cm.in (M := M_X4_proof) (ls := [some (.ref 2), some (.int f), some (.int i)]) rfl rfl ?_
    refine x_iload_n dX4_proof_0 rfl ?_
    refine x_cs1 dX4_proof_1 rfl ?_
    exact Cm.rx (s_rqForme_x (ix_none e1)) rfl ⟨c, h, FrC.rf, rfl, rfl⟩
  | some j =>
    obtain ⟨hj, rfl⟩ := ix_some (by omega) e1
    have hF := h.2.1.2.2.1
    have hfo := hF.2 j hj
    have hfk := hfo.1.choose_spec.choose_spec.choose_spec.choose_spec.1
    have hL5 := hfo.2.1
    by_cases hi : i < 0
    · have hM : proofM (nI j) i S = (Sum.inr 1, S) := by simp only [proofM, e1, if_pos hi]
      rw [hM]
      refine Cm.in (M := M_X4_proof) (ls := [some (.ref 2), some (.int (nI j)), some (.int i)]) rfl rfl ?_
      refine x_iload_n dX4_proof_0 rfl ?_
      refine x_cs1 dX4_proof_1 rfl ?_
      refine Cm.rv (s_rqForme hj) ?_
      refine x_iload_n dX4_proof_4 rfl ?_
      refine x_if_ge 18 dX4_proof_5 (by decide) (fun c5 => ?_) (fun c5 => ?_)
      · exact absurd hi (Int32.not_lt.mpr c5)
      · refine x_throw dX4_proof_8 rfl rfl ?_
        exact ⟨c, h, FrC.rf, rfl, rfl⟩
    · have hM : proofM (nI j) i S = (Sum.inl (.int (ixV (errL 0 (S.1.2.1 j) i.toNatClampNeg))), S) := by simp only [proofM, e1, if_neg hi]
      rw [hM]
      obtain ⟨n, hn, rfl⟩ := nI_of hi
      rw [nI_clamp hn]
      refine Cm.in (M := M_X4_proof) (ls := [some (.ref 2), some (.int (nI j)), some (.int (nI n))]) rfl rfl ?_
      refine x_iload_n dX4_proof_0 rfl ?_
      refine x_cs1 dX4_proof_1 rfl ?_
      refine Cm.rv (s_rqForme hj) ?_
      refine x_iload_n dX4_proof_4 rfl ?_
      refine x_if_ge 18 dX4_proof_5 (by decide) (fun c5 => ?_) (fun c5 => ?_)
      · refine x_aload_n dX4_proof_18 rfl ?_
        refine x_getfield dX4_proof_19 rfl (by decide) (by first | assumption | (simp (disch := omega) only [up_s, up_n]; first | assumption | rfl)) rfl ?_
        refine x_iload_n dX4_proof_22 rfl ?_
        refine x_cv2 dX4_proof_23 rfl (by first | assumption | (simp (disch := omega) only [up_s, up_n]; first | assumption | rfl)) rfl ?_
        refine Cm.rt (s_X3_formeOf hh3 hF hj) ?_
        refine x_iload_n dX4_proof_26 rfl ?_
        refine x_cv2 dX4_proof_27 rfl (by first | assumption | (simp (disch := omega) only [up_s, up_n]; first | assumption | rfl)) rfl ?_
        refine Cm.rt (s_X0_errorAt hfo hn) ?_
        refine x_ireturn dX4_proof_30 ?_
        exact ⟨c, h, FrC.rf, rfl, rfl⟩
      · exact absurd (nI_pos' hn) c5
set_option maxRecDepth 20000 in
set_option maxHeartbeats 2000000 in
theorem s_X4_inHeap {c : Nat → VC} {z k s : Nat} {x : Bool} {S : St} (h : CaseAt c S) {i : Int32} : Cm k_X4_inHeap [.ref 2, .int i] ((z, x, k, s), c) (CQ z x k s c (inHeapM i S).1 (inHeapM i S).2) := by
  have hh2 := h.1
  have hh3 := h.2.1.1
  have hhs := h.2.2.2.1.choose_spec.choose_spec.2.1
  have hhp := h.2.1.2.2.2
  have hhk := hhp.2.1
  have hhl := hhp.2.2.1
  cases e2 : ix i S.1.2.2.1.length with
  | none =>
    have hM : inHeapM i S = (Sum.inr 1, S) := by simp only [inHeapM, e2]
    rw [hM]
    refine Cm.in (M := M_X4_inHeap) (ls := [some (.ref 2), some (.int i)]) rfl rfl ?_
    refine x_iload_n dX4_inHeap_0 rfl ?_
    refine x_aload_n dX4_inHeap_1 rfl ?_
    refine x_getfield dX4_inHeap_2 rfl (by decide) (by first | assumption | (simp (disch := omega) only [up_s, up_n]; first | assumption | rfl)) rfl ?_
    refine x_getfield dX4_inHeap_5 rfl (by decide) (by first | assumption | (simp (disch := omega) only [up_s, up_n]; first | assumption | rfl)) rfl ?_
    refine x_cv1 dX4_inHeap_8 rfl (by first | assumption | (simp (disch := omega) only [up_s, up_n]; first | assumption | rfl)) rfl ?_
    refine Cm.rt (s_X2_size hhp) ?_
    refine x_cs2 dX4_inHeap_11 rfl ?_
    exact Cm.rx (s_rqIx_x (ix_none e2)) rfl ⟨c, h, FrC.rf, rfl, rfl⟩
  | some j =>
    obtain ⟨hj, rfl⟩ := ix_some (by omega) e2
    have hM : inHeapM (nI j) S = (Sum.inl (.int (nI (S.1.2.2.1.getD j 0))), S) := by simp only [inHeapM, e2]
    rw [hM]
    have hgd : S.1.2.2.1.getD j 0 = S.1.2.2.1[j] := by rw [List.getD_eq_getElem?_getD, List.getElem?_eq_getElem hj]; rfl
    rw [hgd]
    refine Cm.in (M := M_X4_inHeap) (ls := [some (.ref 2), some (.int (nI j))]) rfl rfl ?_
    refine x_iload_n dX4_inHeap_0 rfl ?_
    refine x_aload_n dX4_inHeap_1 rfl ?_
    refine x_getfield dX4_inHeap_2 rfl (by decide) (by first | assumption | (simp (disch := omega) only [up_s, up_n]; first | assumption | rfl)) rfl ?_
    refine x_getfield dX4_inHeap_5 rfl (by decide) (by first | assumption | (simp (disch := omega) only [up_s, up_n]; first | assumption | rfl)) rfl ?_
    refine x_cv1 dX4_inHeap_8 rfl (by first | assumption | (simp (disch := omega) only [up_s, up_n]; first | assumption | rfl)) rfl ?_
    refine Cm.rt (s_X2_size hhp) ?_
    refine x_cs2 dX4_inHeap_11 rfl ?_
    refine Cm.rv (s_rqIx hj (by omega)) ?_
    refine x_aload_n dX4_inHeap_14 rfl ?_
    refine x_getfield dX4_inHeap_15 rfl (by decide) (by first | assumption | (simp (disch := omega) only [up_s, up_n]; first | assumption | rfl)) rfl ?_
    refine x_getfield dX4_inHeap_18 rfl (by decide) (by first | assumption | (simp (disch := omega) only [up_s, up_n]; first | assumption | rfl)) rfl ?_
    refine x_iload_n dX4_inHeap_21 rfl ?_
    refine x_cv2 dX4_inHeap_22 rfl (by first | assumption | (simp (disch := omega) only [up_s, up_n]; first | assumption | rfl)) rfl ?_
    refine Cm.rt (s_X2_at hhp hj) ?_
    refine x_ireturn dX4_inHeap_25 ?_
    exact ⟨c, h, FrC.rf, rfl, rfl⟩
