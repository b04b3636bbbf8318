/-! FORMES: places (wanted, sort, turned) in one row, the ends of the lines -/
abbrev Pl : Type := Nat × Nat × Nat
def wrg (q : Pl) : Bool := q.2.2 == 1 || !(q.2.1 == q.1)
theorem bV_ne {b : Bool} (h : ¬ bV b = 0) : b = true := by
  cases b
  · exact absurd rfl h
  · rfl
theorem bV_eq {b : Bool} (h : bV b = 0) : b = false := by
  cases b
  · rfl
  · exact absurd h (by decide)
def FlatAt (c : Nat → VC) (p : Nat) (pl : List Pl) (es : List Nat) : Prop := ∃ w s t e, c p = cO 0 [.ref (p + 1), .ref (p + 2), .ref (p + 3), .ref (p + 4), .int (nI pl.length), .int (nI es.length)] ∧ c (p + 1) = cI 80 w ∧ c (p + 2) = cI 80 s ∧ c (p + 3) = cI 80 t ∧ c (p + 4) = cI 5 e ∧ pl.length ≤ 80 ∧ es.length ≤ 5 ∧ (∀ q ∈ pl, q.1 < 27 ∧ q.2.1 < 27 ∧ q.2.2 < 2) ∧ (∀ x ∈ es, x ≤ 80) ∧ (∀ (i : Nat) (hi : i < pl.length), w i = nI pl[i].1 ∧ s i = nI pl[i].2.1 ∧ t i = nI pl[i].2.2) ∧ ∀ (k : Nat) (hk : k < es.length), e k = nI es[k]
/-- nothing but the five cells from p on has changed -/
def Fr5 (c c' : Nat → VC) (p : Nat) : Prop := ∀ k, (k < p ∨ p + 5 ≤ k) → c' k = c k
theorem FlatAt.fr {c c' : Nat → VC} {p : Nat} {pl : List Pl} {es : List Nat} (h : FlatAt c p pl es) (hc : ∀ k, p ≤ k → k < p + 5 → c' k = c k) : FlatAt c' p pl es := by
  obtain ⟨w, s, t, e, h0, h1, h2, h3, h4, h5⟩ := h
  exact ⟨w, s, t, e, by rw [hc _ (by omega) (by omega)]; exact h0, by rw [hc _ (by omega) (by omega)]; exact h1, by rw [hc _ (by omega) (by omega)]; exact h2, by rw [hc _ (by omega) (by omega)]; exact h3, by rw [hc _ (by omega) (by omega)]; exact h4, h5⟩
def stOf (es : List Nat) : Nat → Nat
  | 0 => 0
  | k + 1 => es.getD k 0
theorem take_cp1 {α : Type} {l : List α} {p : α → Bool} {i : Nat} (hi : i < l.length) (q : p l[i] = true) : (l.take (i + 1)).countP p = (l.take i).countP p + 1 := by
  rw [List.take_succ_eq_append_getElem hi, List.countP_append]; simp [q]
theorem take_cp0 {α : Type} {l : List α} {p : α → Bool} {i : Nat} (hi : i < l.length) (q : p l[i] = false) : (l.take (i + 1)).countP p = (l.take i).countP p := by
  rw [List.take_succ_eq_append_getElem hi, List.countP_append]; simp [q]
set_option maxRecDepth 20000 in
set_option maxHeartbeats 1000000 in
theorem s_X0_size {c : Nat → VC} {g : VG} {p : Nat} {pl : List Pl} {es : List Nat} (h : FlatAt c p pl es) : Cm k_X0_size [.ref p] (g, c) (Rt (.int (nI pl.length)) (g, c)) := by
  have h9 := h
  obtain ⟨w, s, t, e, h0, h1, h2, h3, h4, hL, hE, hq, hx, hp, he⟩ := h
  refine Cm.in (M := M_X0_size) (ls := [some (.ref p)]) rfl rfl ?_
  refine x_aload_n dX0_size_0 rfl ?_
  refine x_getfield dX0_size_1 rfl (by decide) (by first | assumption | (simp (disch := omega) only [up_s, up_n]; first | assumption | rfl)) rfl ?_
  refine x_ireturn dX0_size_4 ?_
  exact ⟨rfl, rfl⟩
set_option maxRecDepth 20000 in
set_option maxHeartbeats 1000000 in
theorem s_X0_lines {c : Nat → VC} {g : VG} {p : Nat} {pl : List Pl} {es : List Nat} (h : FlatAt c p pl es) : Cm k_X0_lines [.ref p] (g, c) (Rt (.int (nI es.length)) (g, c)) := by
  have h9 := h
  obtain ⟨w, s, t, e, h0, h1, h2, h3, h4, hL, hE, hq, hx, hp, he⟩ := h
  refine Cm.in (M := M_X0_lines) (ls := [some (.ref p)]) rfl rfl ?_
  refine x_aload_n dX0_lines_0 rfl ?_
  refine x_getfield dX0_lines_1 rfl (by decide) (by first | assumption | (simp (disch := omega) only [up_s, up_n]; first | assumption | rfl)) rfl ?_
  refine x_ireturn dX0_lines_4 ?_
  exact ⟨rfl, rfl⟩
set_option maxRecDepth 20000 in
set_option maxHeartbeats 1000000 in
theorem s_X0_startOf0 {c : Nat → VC} {g : VG} {p : Nat} {pl : List Pl} {es : List Nat} (h : FlatAt c p pl es) : Cm k_X0_startOf [.ref p, .int (nI 0)] (g, c) (Rt (.int (nI 0)) (g, c)) := by
  have h9 := h
  obtain ⟨w, s, t, e, h0, h1, h2, h3, h4, hL, hE, hq, hx, hp, he⟩ := h
  refine Cm.in (M := M_X0_startOf) (ls := [some (.ref p), some (.int (nI 0))]) rfl rfl ?_
  refine x_iload_n dX0_startOf_0 rfl ?_
  refine x_iconst (nI 1) dX0_startOf_1 (by decide) ?_
  refine x_icmp_lt 25 dX0_startOf_2 (by decide) (fun c2 => ?_) (fun c2 => ?_)
  · refine x_iconst (nI 0) dX0_startOf_25 (by decide) ?_
    refine x_ireturn dX0_startOf_26 ?_
    exact ⟨rfl, rfl⟩
  · exact absurd (by decide) c2
set_option maxRecDepth 20000 in
set_option maxHeartbeats 1000000 in
theorem s_X0_startOf1 {c : Nat → VC} {g : VG} {p : Nat} {pl : List Pl} {es : List Nat} (h : FlatAt c p pl es) {k : Nat} (hk : k < es.length) : Cm k_X0_startOf [.ref p, .int (nI (k + 1))] (g, c) (Rt (.int (nI es[k])) (g, c)) := by
  have h9 := h
  obtain ⟨w, s, t, e, h0, h1, h2, h3, h4, hL, hE, hq, hx, hp, he⟩ := h
  refine Cm.in (M := M_X0_startOf) (ls := [some (.ref p), some (.int (nI (k + 1)))]) rfl rfl ?_
  refine x_iload_n dX0_startOf_0 rfl ?_
  refine x_iconst (nI 1) dX0_startOf_1 (by decide) ?_
  refine x_icmp_lt 25 dX0_startOf_2 (by decide) (fun c2 => ?_) (fun c2 => ?_)
  · exact absurd ((nI_ltI (by omega) (by omega)).mp c2) (by omega)
  · refine x_iload_n dX0_startOf_5 rfl ?_
    refine x_aload_n dX0_startOf_6 rfl ?_
    refine x_getfield dX0_startOf_7 rfl (by decide) (by first | assumption | (simp (disch := omega) only [up_s, up_n]; first | assumption | rfl)) rfl ?_
    refine x_alenI dX0_startOf_10 (by first | assumption | (simp (disch := omega) only [up_s, up_n]; first | assumption | rfl)) ?_
    refine x_icmp_gt 25 dX0_startOf_11 (by decide) (fun c11 => ?_) (fun c11 => ?_)
    · exact absurd ((nI_ltI (by omega) (by omega)).mp c11) (by omega)
    · refine x_aload_n dX0_startOf_14 rfl ?_
      refine x_getfield dX0_startOf_15 rfl (by decide) (by first | assumption | (simp (disch := omega) only [up_s, up_n]; first | assumption | rfl)) rfl ?_
      refine x_iload_n dX0_startOf_18 rfl ?_
      refine x_iconst (nI 1) dX0_startOf_19 (by decide) ?_
      refine x_isubN dX0_startOf_20 (by omega) ?_
      refine x_ialoadN dX0_startOf_21 (by first | assumption | (simp (disch := omega) only [up_s, up_n]; first | assumption | rfl)) (by omega) (by omega) ?_
      rw [show k + 1 - 1 = k by omega, he k hk]
      refine x_goto 26 dX0_startOf_22 (by decide) ?_
      refine x_ireturn dX0_startOf_26 ?_
      exact ⟨rfl, rfl⟩
theorem s_X0_startOf {c : Nat → VC} {g : VG} {p : Nat} {pl : List Pl} {es : List Nat} (h : FlatAt c p pl es) {k : Nat} (hk : k ≤ es.length) : Cm k_X0_startOf [.ref p, .int (nI k)] (g, c) (Rt (.int (nI (stOf es k))) (g, c)) := by
  cases k with
  | zero => exact s_X0_startOf0 h
  | succ k =>
    have := s_X0_startOf1 (g := g) h (k := k) (by omega)
    rw [show es[k] = stOf es (k + 1) by simp [stOf, List.getD, List.getElem?_eq_getElem (show k < es.length by omega)]] at this
    exact this
set_option maxRecDepth 20000 in
set_option maxHeartbeats 1000000 in
theorem s_X0_lengthOf {c : Nat → VC} {g : VG} {p : Nat} {pl : List Pl} {es : List Nat} (h : FlatAt c p pl es) {k : Nat} (hk : k < es.length) (hm : stOf es k ≤ stOf es (k + 1)) : Cm k_X0_lengthOf [.ref p, .int (nI k)] (g, c) (Rt (.int (nI (stOf es (k + 1) - stOf es k))) (g, c)) := by
  have h9 := h
  obtain ⟨w, s, t, e, h0, h1, h2, h3, h4, hL, hE, hq, hx, hp, he⟩ := h
  refine Cm.in (M := M_X0_lengthOf) (ls := [some (.ref p), some (.int (nI k))]) rfl rfl ?_
  refine x_iload_n dX0_lengthOf_0 rfl ?_
  refine x_if_lt 28 dX0_lengthOf_1 (by decide) (fun c1 => ?_) (fun c1 => ?_)
  · exact absurd c1 (nI_pos (by omega))
  · refine x_iload_n dX0_lengthOf_4 rfl ?_
    refine x_aload_n dX0_lengthOf_5 rfl ?_
    refine x_getfield dX0_lengthOf_6 rfl (by decide) (by first | assumption | (simp (disch := omega) only [up_s, up_n]; first | assumption | rfl)) rfl ?_
    refine x_icmp_ge 28 dX0_lengthOf_9 (by decide) (fun c9 => ?_) (fun c9 => ?_)
    · exact absurd ((nI_leI (by omega) (by omega)).mp c9) (by omega)
    · refine x_aload_n dX0_lengthOf_12 rfl ?_
      refine x_iload_n dX0_lengthOf_13 rfl ?_
      refine x_iconst (nI 1) dX0_lengthOf_14 (by decide) ?_
      refine x_iaddN dX0_lengthOf_15 ?_
      refine x_cv2 dX0_lengthOf_16 rfl (by first | assumption | (simp (disch := omega) only [up_s, up_n]; first | assumption | rfl)) rfl ?_
      refine Cm.rt (s_X0_startOf h9 (by omega)) ?_
      refine x_aload_n dX0_lengthOf_19 rfl ?_
      refine x_iload_n dX0_lengthOf_20 rfl ?_
      refine x_cv2 dX0_lengthOf_21 rfl (by first | assumption | (simp (disch := omega) only [up_s, up_n]; first | assumption | rfl)) rfl ?_
      refine Cm.rt (s_X0_startOf h9 (by omega)) ?_
      refine x_isubN dX0_lengthOf_24 hm ?_
      refine x_goto 29 dX0_lengthOf_25 (by decide) ?_
      refine x_ireturn dX0_lengthOf_29 ?_
      exact ⟨rfl, rfl⟩
set_option maxRecDepth 20000 in
set_option maxHeartbeats 1000000 in
theorem s_X0_sortAt {c : Nat → VC} {g : VG} {p : Nat} {pl : List Pl} {es : List Nat} (h : FlatAt c p pl es) {i : Nat} (hi : i < pl.length) : Cm k_X0_sortAt [.ref p, .int (nI i)] (g, c) (Rt (.int (nI pl[i].2.1)) (g, c)) := by
  have h9 := h
  obtain ⟨w, s, t, e, h0, h1, h2, h3, h4, hL, hE, hq, hx, hp, he⟩ := h
  refine Cm.in (M := M_X0_sortAt) (ls := [some (.ref p), some (.int (nI i))]) rfl rfl ?_
  refine x_iload_n dX0_sortAt_0 rfl ?_
  refine x_if_lt 22 dX0_sortAt_1 (by decide) (fun c1 => ?_) (fun c1 => ?_)
  · exact absurd c1 (nI_pos (by omega))
  · refine x_iload_n dX0_sortAt_4 rfl ?_
    refine x_aload_n dX0_sortAt_5 rfl ?_
    refine x_getfield dX0_sortAt_6 rfl (by decide) (by first | assumption | (simp (disch := omega) only [up_s, up_n]; first | assumption | rfl)) rfl ?_
    refine x_alenI dX0_sortAt_9 (by first | assumption | (simp (disch := omega) only [up_s, up_n]; first | assumption | rfl)) ?_
    refine x_icmp_ge 22 dX0_sortAt_10 (by decide) (fun c10 => ?_) (fun c10 => ?_)
    · exact absurd ((nI_leI (by omega) (by omega)).mp c10) (by omega)
    · refine x_aload_n dX0_sortAt_13 rfl ?_
      refine x_getfield dX0_sortAt_14 rfl (by decide) (by first | assumption | (simp (disch := omega) only [up_s, up_n]; first | assumption | rfl)) rfl ?_
      refine x_iload_n dX0_sortAt_17 rfl ?_
      refine x_ialoadN dX0_sortAt_18 (by first | assumption | (simp (disch := omega) only [up_s, up_n]; first | assumption | rfl)) (by omega) (by omega) ?_
      rw [(hp i hi).2.1]
      refine x_goto 23 dX0_sortAt_19 (by decide) ?_
      refine x_ireturn dX0_sortAt_23 ?_
      exact ⟨rfl, rfl⟩
set_option maxRecDepth 20000 in
set_option maxHeartbeats 1000000 in
theorem s_X0_wantedAt {c : Nat → VC} {g : VG} {p : Nat} {pl : List Pl} {es : List Nat} (h : FlatAt c p pl es) {i : Nat} (hi : i < pl.length) : Cm k_X0_wantedAt [.ref p, .int (nI i)] (g, c) (Rt (.int (nI pl[i].1)) (g, c)) := by
  have h9 := h
  obtain ⟨w, s, t, e, h0, h1, h2, h3, h4, hL, hE, hq, hx, hp, he⟩ := h
  refine Cm.in (M := M_X0_wantedAt) (ls := [some (.ref p), some (.int (nI i))]) rfl rfl ?_
  refine x_iload_n dX0_wantedAt_0 rfl ?_
  refine x_if_lt 22 dX0_wantedAt_1 (by decide) (fun c1 => ?_) (fun c1 => ?_)
  · exact absurd c1 (nI_pos (by omega))
  · refine x_iload_n dX0_wantedAt_4 rfl ?_
    refine x_aload_n dX0_wantedAt_5 rfl ?_
    refine x_getfield dX0_wantedAt_6 rfl (by decide) (by first | assumption | (simp (disch := omega) only [up_s, up_n]; first | assumption | rfl)) rfl ?_
    refine x_alenI dX0_wantedAt_9 (by first | assumption | (simp (disch := omega) only [up_s, up_n]; first | assumption | rfl)) ?_
    refine x_icmp_ge 22 dX0_wantedAt_10 (by decide) (fun c10 => ?_) (fun c10 => ?_)
    · exact absurd ((nI_leI (by omega) (by omega)).mp c10) (by omega)
    · refine x_aload_n dX0_wantedAt_13 rfl ?_
      refine x_getfield dX0_wantedAt_14 rfl (by decide) (by first | assumption | (simp (disch := omega) only [up_s, up_n]; first | assumption | rfl)) rfl ?_
      refine x_iload_n dX0_wantedAt_17 rfl ?_
      refine x_ialoadN dX0_wantedAt_18 (by first | assumption | (simp (disch := omega) only [up_s, up_n]; first | assumption | rfl)) (by omega) (by omega) ?_
      rw [(hp i hi).1]
      refine x_goto 23 dX0_wantedAt_19 (by decide) ?_
      refine x_ireturn dX0_wantedAt_23 ?_
      exact ⟨rfl, rfl⟩
set_option maxRecDepth 20000 in
set_option maxHeartbeats 1000000 in
theorem s_X0_turnedAt {c : Nat → VC} {g : VG} {p : Nat} {pl : List Pl} {es : List Nat} (h : FlatAt c p pl es) {i : Nat} (hi : i < pl.length) : Cm k_X0_turnedAt [.ref p, .int (nI i)] (g, c) (Rt (.int (bV (pl[i].2.2 == 1))) (g, c)) := by
  have h9 := h
  obtain ⟨w, s, t, e, h0, h1, h2, h3, h4, hL, hE, hq, hx, hp, he⟩ := h
  have hq9 := hq _ (List.getElem_mem hi)
  refine Cm.in (M := M_X0_turnedAt) (ls := [some (.ref p), some (.int (nI i))]) rfl rfl ?_
  refine x_iload_n dX0_turnedAt_0 rfl ?_
  refine x_if_lt 27 dX0_turnedAt_1 (by decide) (fun c1 => ?_) (fun c1 => ?_)
  · exact absurd c1 (nI_pos (by omega))
  · refine x_iload_n dX0_turnedAt_4 rfl ?_
    refine x_aload_n dX0_turnedAt_5 rfl ?_
    refine x_getfield dX0_turnedAt_6 rfl (by decide) (by first | assumption | (simp (disch := omega) only [up_s, up_n]; first | assumption | rfl)) rfl ?_
    refine x_alenI dX0_turnedAt_9 (by first | assumption | (simp (disch := omega) only [up_s, up_n]; first | assumption | rfl)) ?_
    refine x_icmp_ge 27 dX0_turnedAt_10 (by decide) (fun c10 => ?_) (fun c10 => ?_)
    · exact absurd ((nI_leI (by omega) (by omega)).mp c10) (by omega)
    · refine x_aload_n dX0_turnedAt_13 rfl ?_
      refine x_getfield dX0_turnedAt_14 rfl (by decide) (by first | assumption | (simp (disch := omega) only [up_s, up_n]; first | assumption | rfl)) rfl ?_
      refine x_iload_n dX0_turnedAt_17 rfl ?_
      refine x_ialoadN dX0_turnedAt_18 (by first | assumption | (simp (disch := omega) only [up_s, up_n]; first | assumption | rfl)) (by omega) (by omega) ?_
      rw [(hp i hi).2.2]
      refine x_iconst (nI 1) dX0_turnedAt_19 (by decide) ?_
      refine x_icmp_ne 27 dX0_turnedAt_20 (by decide) (fun c20 => ?_) (fun c20 => ?_)
      · have e9 : ¬ pl[i].2.2 = 1 := fun z => c20 (by rw [z])
        refine x_iconst (nI 0) dX0_turnedAt_27 (by decide) ?_
        refine x_ireturn dX0_turnedAt_28 ?_
        exact ⟨by simp [bV, e9], rfl⟩
      · have e9 : pl[i].2.2 = 1 := (nI_eq (by omega) (by omega)).mp c20
        refine x_iconst (nI 1) dX0_turnedAt_23 (by decide) ?_
        refine x_goto 28 dX0_turnedAt_24 (by decide) ?_
        refine x_ireturn dX0_turnedAt_28 ?_
        exact ⟨by simp [bV, e9], rfl⟩
set_option maxRecDepth 20000 in
set_option maxHeartbeats 1000000 in
theorem s_X0_wrongAt {c : Nat → VC} {g : VG} {p : Nat} {pl : List Pl} {es : List Nat} (h : FlatAt c p pl es) {i : Nat} (hi : i < pl.length) : Cm k_X0_wrongAt [.ref p, .int (nI i)] (g, c) (Rt (.int (bV (wrg pl[i]))) (g, c)) := by
  have h9 := h
  obtain ⟨w, s, t, e, h0, h1, h2, h3, h4, hL, hE, hq, hx, hp, he⟩ := h
  have hq9 := hq _ (List.getElem_mem hi)
  refine Cm.in (M := M_X0_wrongAt) (ls := [some (.ref p), some (.int (nI i))]) rfl rfl ?_
  refine x_aload_n dX0_wrongAt_0 rfl ?_
  refine x_iload_n dX0_wrongAt_1 rfl ?_
  refine x_cv2 dX0_wrongAt_2 rfl (by first | assumption | (simp (disch := omega) only [up_s, up_n]; first | assumption | rfl)) rfl ?_
  refine Cm.rt (s_X0_turnedAt h9 hi) ?_
  refine x_if_ne 21 dX0_wrongAt_5 (by decide) (fun c5 => ?_) (fun c5 => ?_)
  · have e9 := bV_ne c5
    refine x_iconst (nI 1) dX0_wrongAt_21 (by decide) ?_
    refine x_goto 26 dX0_wrongAt_22 (by decide) ?_
    refine x_ireturn dX0_wrongAt_26 ?_
    exact ⟨by simp_all [bV, wrg], rfl⟩
  · have e9 := bV_eq c5
    refine x_aload_n dX0_wrongAt_8 rfl ?_
    refine x_iload_n dX0_wrongAt_9 rfl ?_
    refine x_cv2 dX0_wrongAt_10 rfl (by first | assumption | (simp (disch := omega) only [up_s, up_n]; first | assumption | rfl)) rfl ?_
    refine Cm.rt (s_X0_sortAt h9 hi) ?_
    refine x_aload_n dX0_wrongAt_13 rfl ?_
    refine x_iload_n dX0_wrongAt_14 rfl ?_
    refine x_cv2 dX0_wrongAt_15 rfl (by first | assumption | (simp (disch := omega) only [up_s, up_n]; first | assumption | rfl)) rfl ?_
    refine Cm.rt (s_X0_wantedAt h9 hi) ?_
    refine x_icmp_eq 25 dX0_wrongAt_18 (by decide) (fun c18 => ?_) (fun c18 => ?_)
    · have e8 : pl[i].2.1 = pl[i].1 := (nI_eq (by omega) (by omega)).mp c18
      refine x_iconst (nI 0) dX0_wrongAt_25 (by decide) ?_
      refine x_ireturn dX0_wrongAt_26 ?_
      exact ⟨by simp_all [bV, wrg], rfl⟩
    · have e8 : ¬ pl[i].2.1 = pl[i].1 := fun z => c18 (by rw [z])
      refine x_iconst (nI 1) dX0_wrongAt_21 (by decide) ?_
      refine x_goto 26 dX0_wrongAt_22 (by decide) ?_
      refine x_ireturn dX0_wrongAt_26 ?_
      exact ⟨by simp_all [bV, wrg], rfl⟩
def abt (q : Pl) : Nat → Nat
  | 0 => q.1
  | 1 => q.2.1
  | 2 => q.2.2
  | _ => if wrg q then 1 else 0
set_option maxRecDepth 20000 in
set_option maxHeartbeats 1000000 in
theorem s_X0_about0 {c : Nat → VC} {g : VG} {p : Nat} {pl : List Pl} {es : List Nat} (h : FlatAt c p pl es) {i : Nat} (hi : i < pl.length) : Cm k_X0_about [.ref p, .int (nI i), .int (nI 0)] (g, c) (Rt (.int (nI (abt pl[i] 0))) (g, c)) := by
  have h9 := h
  obtain ⟨w, s, t, e, h0, h1, h2, h3, h4, hL, hE, hq, hx, hp, he⟩ := h
  have hq9 := hq _ (List.getElem_mem hi)
  refine Cm.in (M := M_X0_about) (ls := [some (.ref p), some (.int (nI i)), some (.int (nI 0))]) rfl rfl ?_
  refine x_iload_n dX0_about_0 rfl ?_
  refine x_tab (off := 27) 28 dX0_about_1 (by decide) (by decide) (by decide) ?_
  refine x_aload_n dX0_about_28 rfl ?_
  refine x_iload_n dX0_about_29 rfl ?_
  refine x_cv2 dX0_about_30 rfl (by first | assumption | (simp (disch := omega) only [up_s, up_n]; first | assumption | rfl)) rfl ?_
  refine Cm.rt (s_X0_wantedAt h9 hi) ?_
  refine x_ireturn dX0_about_33 ?_
  exact ⟨rfl, rfl⟩
set_option maxRecDepth 20000 in
set_option maxHeartbeats 1000000 in
theorem s_X0_about1 {c : Nat → VC} {g : VG} {p : Nat} {pl : List Pl} {es : List Nat} (h : FlatAt c p pl es) {i : Nat} (hi : i < pl.length) : Cm k_X0_about [.ref p, .int (nI i), .int (nI 1)] (g, c) (Rt (.int (nI (abt pl[i] 1))) (g, c)) := by
  have h9 := h
  obtain ⟨w, s, t, e, h0, h1, h2, h3, h4, hL, hE, hq, hx, hp, he⟩ := h
  have hq9 := hq _ (List.getElem_mem hi)
  refine Cm.in (M := M_X0_about) (ls := [some (.ref p), some (.int (nI i)), some (.int (nI 1))]) rfl rfl ?_
  refine x_iload_n dX0_about_0 rfl ?_
  refine x_tab (off := 33) 34 dX0_about_1 (by decide) (by decide) (by decide) ?_
  refine x_aload_n dX0_about_34 rfl ?_
  refine x_iload_n dX0_about_35 rfl ?_
  refine x_cv2 dX0_about_36 rfl (by first | assumption | (simp (disch := omega) only [up_s, up_n]; first | assumption | rfl)) rfl ?_
  refine Cm.rt (s_X0_sortAt h9 hi) ?_
  refine x_ireturn dX0_about_39 ?_
  exact ⟨rfl, rfl⟩
set_option maxRecDepth 20000 in
set_option maxHeartbeats 1000000 in
theorem s_X0_about2 {c : Nat → VC} {g : VG} {p : Nat} {pl : List Pl} {es : List Nat} (h : FlatAt c p pl es) {i : Nat} (hi : i < pl.length) : Cm k_X0_about [.ref p, .int (nI i), .int (nI 2)] (g, c) (Rt (.int (nI (abt pl[i] 2))) (g, c)) := by
  have h9 := h
  obtain ⟨w, s, t, e, h0, h1, h2, h3, h4, hL, hE, hq, hx, hp, he⟩ := h
  have hq9 := hq _ (List.getElem_mem hi)
  refine Cm.in (M := M_X0_about) (ls := [some (.ref p), some (.int (nI i)), some (.int (nI 2))]) rfl rfl ?_
  refine x_iload_n dX0_about_0 rfl ?_
  refine x_tab (off := 39) 40 dX0_about_1 (by decide) (by decide) (by decide) ?_
  refine x_aload_n dX0_about_40 rfl ?_
  refine x_iload_n dX0_about_41 rfl ?_
  refine x_cv2 dX0_about_42 rfl (by first | assumption | (simp (disch := omega) only [up_s, up_n]; first | assumption | rfl)) rfl ?_
  refine Cm.rt (s_X0_turnedAt h9 hi) ?_
  refine x_if_eq 52 dX0_about_45 (by decide) (fun c45 => ?_) (fun c45 => ?_)
  · have e9 := bV_eq c45
    refine x_iconst (nI 0) dX0_about_52 (by decide) ?_
    refine x_ireturn dX0_about_53 ?_
    refine ⟨?_, rfl⟩
    have hh : pl[i].2.2 = 0 ∨ pl[i].2.2 = 1 := by omega
    rcases hh with hh | hh <;> simp_all [abt]
  · have e9 := bV_ne c45
    refine x_iconst (nI 1) dX0_about_48 (by decide) ?_
    refine x_goto 53 dX0_about_49 (by decide) ?_
    refine x_ireturn dX0_about_53 ?_
    refine ⟨?_, rfl⟩
    have hh : pl[i].2.2 = 0 ∨ pl[i].2.2 = 1 := by omega
    rcases hh with hh | hh <;> simp_all [abt]
set_option maxRecDepth 20000 in
set_option maxHeartbeats 1000000 in
theorem s_X0_about3 {c : Nat → VC} {g : VG} {p : Nat} {pl : List Pl} {es : List Nat} (h : FlatAt c p pl es) {i : Nat} (hi : i < pl.length) : Cm k_X0_about [.ref p, .int (nI i), .int (nI 3)] (g, c) (Rt (.int (nI (abt pl[i] 3))) (g, c)) := by
  have h9 := h
  obtain ⟨w, s, t, e, h0, h1, h2, h3, h4, hL, hE, hq, hx, hp, he⟩ := h
  have hq9 := hq _ (List.getElem_mem hi)
  refine Cm.in (M := M_X0_about) (ls := [some (.ref p), some (.int (nI i)), some (.int (nI 3))]) rfl rfl ?_
  refine x_iload_n dX0_about_0 rfl ?_
  refine x_tabD 54 dX0_about_1 (by decide) (by decide) ?_
  refine x_aload_n dX0_about_54 rfl ?_
  refine x_iload_n dX0_about_55 rfl ?_
  refine x_cv2 dX0_about_56 rfl (by first | assumption | (simp (disch := omega) only [up_s, up_n]; first | assumption | rfl)) rfl ?_
  refine Cm.rt (s_X0_wrongAt h9 hi) ?_
  refine x_if_eq 66 dX0_about_59 (by decide) (fun c59 => ?_) (fun c59 => ?_)
  · have e9 := bV_eq c59
    refine x_iconst (nI 0) dX0_about_66 (by decide) ?_
    refine x_ireturn dX0_about_67 ?_
    exact ⟨by simp [abt, e9], rfl⟩
  · have e9 := bV_ne c59
    refine x_iconst (nI 1) dX0_about_62 (by decide) ?_
    refine x_goto 67 dX0_about_63 (by decide) ?_
    refine x_ireturn dX0_about_67 ?_
    exact ⟨by simp [abt, e9], rfl⟩
theorem s_X0_about {c : Nat → VC} {g : VG} {p : Nat} {pl : List Pl} {es : List Nat} (h : FlatAt c p pl es) {i : Nat} (hi : i < pl.length) {k : Nat} (hk : k < 4) : Cm k_X0_about [.ref p, .int (nI i), .int (nI k)] (g, c) (Rt (.int (nI (abt pl[i] k))) (g, c)) := by
  rcases (show k = 0 ∨ k = 1 ∨ k = 2 ∨ k = 3 by omega) with rfl | rfl | rfl | rfl
  · exact s_X0_about0 h hi
  · exact s_X0_about1 h hi
  · exact s_X0_about2 h hi
  · exact s_X0_about3 h hi
set_option maxRecDepth 20000 in
set_option maxHeartbeats 1000000 in
theorem s_X0_add {c : Nat → VC} {g : VG} {p : Nat} {pl : List Pl} {es : List Nat} (h : FlatAt c p pl es) {a b d : Nat} (ha : a < 27) (hb : b < 27) (hd : d < 2) (hl : pl.length < 80) : Cm k_X0_add [.ref p, .int (nI a), .int (nI b), .int (nI d)] (g, c) (Ev g (fun c' => FlatAt c' p (pl ++ [(a, b, d)]) es ∧ Fr5 c c' p)) := by
  have h9 := h
  obtain ⟨w, s, t, e, h0, h1, h2, h3, h4, hL, hE, hq, hx, hp, he⟩ := h
  refine Cm.in (M := M_X0_add) (ls := [some (.ref p), some (.int (nI a)), some (.int (nI b)), some (.int (nI d))]) rfl rfl ?_
  refine x_aload_n dX0_add_0 rfl ?_
  refine x_getfield dX0_add_1 rfl (by decide) (by first | assumption | (simp (disch := omega) only [up_s, up_n]; first | assumption | rfl)) rfl ?_
  refine x_if_lt 67 dX0_add_4 (by decide) (fun c4 => ?_) (fun c4 => ?_)
  · exact absurd c4 (nI_pos (by omega))
  · refine x_aload_n dX0_add_7 rfl ?_
    refine x_getfield dX0_add_8 rfl (by decide) (by first | assumption | (simp (disch := omega) only [up_s, up_n]; first | assumption | rfl)) rfl ?_
    refine x_aload_n dX0_add_11 rfl ?_
    refine x_getfield dX0_add_12 rfl (by decide) (by first | assumption | (simp (disch := omega) only [up_s, up_n]; first | assumption | rfl)) rfl ?_
    refine x_alenI dX0_add_15 (by first | assumption | (simp (disch := omega) only [up_s, up_n]; first | assumption | rfl)) ?_
    refine x_icmp_ge 67 dX0_add_16 (by decide) (fun c16 => ?_) (fun c16 => ?_)
    · exact absurd ((nI_leI (by omega) (by omega)).mp c16) (by omega)
    · refine x_aload_n dX0_add_19 rfl ?_
      refine x_getfield dX0_add_20 rfl (by decide) (by first | assumption | (simp (disch := omega) only [up_s, up_n]; first | assumption | rfl)) rfl ?_
      refine x_aload_n dX0_add_23 rfl ?_
      refine x_getfield dX0_add_24 rfl (by decide) (by first | assumption | (simp (disch := omega) only [up_s, up_n]; first | assumption | rfl)) rfl ?_
      refine x_iload_n dX0_add_27 rfl ?_
      refine x_iastoreN dX0_add_28 (by first | assumption | (simp (disch := omega) only [up_s, up_n]; first | assumption | rfl)) (by omega) (by omega) ?_
      refine x_aload_n dX0_add_29 rfl ?_
      refine x_getfield dX0_add_30 rfl (by decide) (by first | assumption | (simp (disch := omega) only [up_s, up_n]; first | assumption | rfl)) rfl ?_
      refine x_aload_n dX0_add_33 rfl ?_
      refine x_getfield dX0_add_34 rfl (by decide) (by first | assumption | (simp (disch := omega) only [up_s, up_n]; first | assumption | rfl)) rfl ?_
      refine x_iload_n dX0_add_37 rfl ?_
      refine x_iastoreN dX0_add_38 (by first | assumption | (simp (disch := omega) only [up_s, up_n]; first | assumption | rfl)) (by omega) (by omega) ?_
      refine x_aload_n dX0_add_39 rfl ?_
      refine x_getfield dX0_add_40 rfl (by decide) (by first | assumption | (simp (disch := omega) only [up_s, up_n]; first | assumption | rfl)) rfl ?_
      refine x_aload_n dX0_add_43 rfl ?_
      refine x_getfield dX0_add_44 rfl (by decide) (by first | assumption | (simp (disch := omega) only [up_s, up_n]; first | assumption | rfl)) rfl ?_
      refine x_iload_n dX0_add_47 rfl ?_
      refine x_if_eq 55 dX0_add_48 (by decide) (fun c48 => ?_) (fun c48 => ?_)
      · have e9 : nI 0 = nI d := c48.symm
        refine x_iconst (nI 0) dX0_add_55 (by decide) ?_
        rw [e9]
        refine x_iastoreN dX0_add_56 (by first | assumption | (simp (disch := omega) only [up_s, up_n]; first | assumption | rfl)) (by omega) (by omega) ?_
        refine x_aload_n dX0_add_57 rfl ?_
        refine x_dup dX0_add_58 rfl ?_
        refine x_getfield dX0_add_59 rfl (by decide) (by first | assumption | (simp (disch := omega) only [up_s, up_n]; first | assumption | rfl)) rfl ?_
        refine x_iconst (nI 1) dX0_add_62 (by decide) ?_
        refine x_iaddN dX0_add_63 ?_
        refine x_putfield4 dX0_add_64 rfl (by first | assumption | (simp (disch := omega) only [up_s, up_n]; first | assumption | rfl)) rfl ?_
        refine x_return dX0_add_67 ?_
        refine ⟨_, rfl, rfl, ⟨upd w pl.length (nI a), upd s pl.length (nI b), upd t pl.length (nI d), e, ?_, ?_, ?_, ?_, ?_, ?_, hE, ?_, hx, ?_, he⟩, ?_⟩
        · simp (disch := omega) only [up_s, up_n, List.length_append]; rfl
        · simp (disch := omega) only [up_s, up_n]
        · simp (disch := omega) only [up_s, up_n]
        · simp (disch := omega) only [up_s, up_n]
        · simp (disch := omega) only [up_s, up_n]; exact h4
        · simp only [List.length_append, List.length_singleton]; omega
        · intro q hq1
          rcases List.mem_append.mp hq1 with z | z
          · exact hq q z
          · rw [List.mem_singleton.mp z]; exact ⟨ha, hb, hd⟩
        · intro i hi
          rw [List.length_append, List.length_singleton] at hi
          by_cases z : i < pl.length
          · rw [List.getElem_append_left z, pk_un (by omega), pk_un (by omega), pk_un (by omega)]; exact hp i z
          · have e1 : i = pl.length := by omega
            subst e1
            rw [pk_us, pk_us, pk_us]; simp
        · intro k hk
          simp (disch := omega) only [up_n]
      · have e9 : nI 1 = nI d := by
          have : ¬ d = 0 := fun z => c48 (by rw [z]; rfl)
          rw [show d = 1 by omega]
        refine x_iconst (nI 1) dX0_add_51 (by decide) ?_
        refine x_goto 56 dX0_add_52 (by decide) ?_
        rw [e9]
        refine x_iastoreN dX0_add_56 (by first | assumption | (simp (disch := omega) only [up_s, up_n]; first | assumption | rfl)) (by omega) (by omega) ?_
        refine x_aload_n dX0_add_57 rfl ?_
        refine x_dup dX0_add_58 rfl ?_
        refine x_getfield dX0_add_59 rfl (by decide) (by first | assumption | (simp (disch := omega) only [up_s, up_n]; first | assumption | rfl)) rfl ?_
        refine x_iconst (nI 1) dX0_add_62 (by decide) ?_
        refine x_iaddN dX0_add_63 ?_
        refine x_putfield4 dX0_add_64 rfl (by first | assumption | (simp (disch := omega) only [up_s, up_n]; first | assumption | rfl)) rfl ?_
        refine x_return dX0_add_67 ?_
        refine ⟨_, rfl, rfl, ⟨upd w pl.length (nI a), upd s pl.length (nI b), upd t pl.length (nI d), e, ?_, ?_, ?_, ?_, ?_, ?_, hE, ?_, hx, ?_, he⟩, ?_⟩
        · simp (disch := omega) only [up_s, up_n, List.length_append]; rfl
        · simp (disch := omega) only [up_s, up_n]
        · simp (disch := omega) only [up_s, up_n]
        · simp (disch := omega) only [up_s, up_n]
        · simp (disch := omega) only [up_s, up_n]; exact h4
        · simp only [List.length_append, List.length_singleton]; omega
        · intro q hq1
          rcases List.mem_append.mp hq1 with z | z
          · exact hq q z
          · rw [List.mem_singleton.mp z]; exact ⟨ha, hb, hd⟩
        · intro i hi
          rw [List.length_append, List.length_singleton] at hi
          by_cases z : i < pl.length
          · rw [List.getElem_append_left z, pk_un (by omega), pk_un (by omega), pk_un (by omega)]; exact hp i z
          · have e1 : i = pl.length := by omega
            subst e1
            rw [pk_us, pk_us, pk_us]; simp
        · intro k hk
          simp (disch := omega) only [up_n]
set_option maxRecDepth 20000 in
set_option maxHeartbeats 1000000 in
theorem s_X0_endLine {c : Nat → VC} {g : VG} {p : Nat} {pl : List Pl} {es : List Nat} (h : FlatAt c p pl es) (hl : es.length < 5) : Cm k_X0_endLine [.ref p] (g, c) (Ev g (fun c' => FlatAt c' p pl (es ++ [pl.length]) ∧ Fr5 c c' p)) := by
  have h9 := h
  obtain ⟨w, s, t, e, h0, h1, h2, h3, h4, hL, hE, hq, hx, hp, he⟩ := h
  refine Cm.in (M := M_X0_endLine) (ls := [some (.ref p)]) rfl rfl ?_
  refine x_aload_n dX0_endLine_0 rfl ?_
  refine x_getfield dX0_endLine_1 rfl (by decide) (by first | assumption | (simp (disch := omega) only [up_s, up_n]; first | assumption | rfl)) rfl ?_
  refine x_if_lt 42 dX0_endLine_4 (by decide) (fun c4 => ?_) (fun c4 => ?_)
  · exact absurd c4 (nI_pos (by omega))
  · refine x_aload_n dX0_endLine_7 rfl ?_
    refine x_getfield dX0_endLine_8 rfl (by decide) (by first | assumption | (simp (disch := omega) only [up_s, up_n]; first | assumption | rfl)) rfl ?_
    refine x_aload_n dX0_endLine_11 rfl ?_
    refine x_getfield dX0_endLine_12 rfl (by decide) (by first | assumption | (simp (disch := omega) only [up_s, up_n]; first | assumption | rfl)) rfl ?_
    refine x_alenI dX0_endLine_15 (by first | assumption | (simp (disch := omega) only [up_s, up_n]; first | assumption | rfl)) ?_
    refine x_icmp_ge 42 dX0_endLine_16 (by decide) (fun c16 => ?_) (fun c16 => ?_)
    · exact absurd ((nI_leI (by omega) (by omega)).mp c16) (by omega)
    · refine x_aload_n dX0_endLine_19 rfl ?_
      refine x_getfield dX0_endLine_20 rfl (by decide) (by first | assumption | (simp (disch := omega) only [up_s, up_n]; first | assumption | rfl)) rfl ?_
      refine x_aload_n dX0_endLine_23 rfl ?_
      refine x_getfield dX0_endLine_24 rfl (by decide) (by first | assumption | (simp (disch := omega) only [up_s, up_n]; first | assumption | rfl)) rfl ?_
      refine x_aload_n dX0_endLine_27 rfl ?_
      refine x_getfield dX0_endLine_28 rfl (by decide) (by first | assumption | (simp (disch := omega) only [up_s, up_n]; first | assumption | rfl)) rfl ?_
      refine x_iastoreN dX0_endLine_31 (by first | assumption | (simp (disch := omega) only [up_s, up_n]; first | assumption | rfl)) (by omega) (by omega) ?_
      refine x_aload_n dX0_endLine_32 rfl ?_
      refine x_dup dX0_endLine_33 rfl ?_
      refine x_getfield dX0_endLine_34 rfl (by decide) (by first | assumption | (simp (disch := omega) only [up_s, up_n]; first | assumption | rfl)) rfl ?_
      refine x_iconst (nI 1) dX0_endLine_37 (by decide) ?_
      refine x_iaddN dX0_endLine_38 ?_
      refine x_putfield5 dX0_endLine_39 rfl (by first | assumption | (simp (disch := omega) only [up_s, up_n]; first | assumption | rfl)) rfl ?_
      refine x_return dX0_endLine_42 ?_
      refine ⟨_, rfl, rfl, ⟨w, s, t, upd e es.length (nI pl.length), ?_, ?_, ?_, ?_, ?_, hL, ?_, hq, ?_, hp, ?_⟩, ?_⟩
      · simp (disch := omega) only [up_s, up_n, List.length_append]; rfl
      · simp (disch := omega) only [up_s, up_n]; exact h1
      · simp (disch := omega) only [up_s, up_n]; exact h2
      · simp (disch := omega) only [up_s, up_n]; exact h3
      · simp (disch := omega) only [up_s, up_n]
      · simp only [List.length_append, List.length_singleton]; omega
      · intro q hq1
        rcases List.mem_append.mp hq1 with z | z
        · exact hx q z
        · rw [List.mem_singleton.mp z]; exact hL
      · intro i hi
        rw [List.length_append, List.length_singleton] at hi
        by_cases z : i < es.length
        · rw [List.getElem_append_left z, pk_un (by omega)]; exact he i z
        · have e1 : i = es.length := by omega
          subst e1
          rw [pk_us]; simp
      · intro k hk
        simp (disch := omega) only [up_n]
set_option maxRecDepth 20000 in
set_option maxHeartbeats 1000000 in
theorem s_X0_putRight {c : Nat → VC} {g : VG} {p : Nat} {pl : List Pl} {es : List Nat} (h : FlatAt c p pl es) {i : Nat} (hi : i < pl.length) : Cm k_X0_putRight [.ref p, .int (nI i)] (g, c) (Ev g (fun c' => FlatAt c' p (pl.set i (pl[i].1, pl[i].1, 0)) es ∧ Fr5 c c' p)) := by
  have h9 := h
  obtain ⟨w, s, t, e, h0, h1, h2, h3, h4, hL, hE, hq, hx, hp, he⟩ := h
  refine Cm.in (M := M_X0_putRight) (ls := [some (.ref p), some (.int (nI i))]) rfl rfl ?_
  refine x_iload_n dX0_putRight_0 rfl ?_
  refine x_if_lt 32 dX0_putRight_1 (by decide) (fun c1 => ?_) (fun c1 => ?_)
  · exact absurd c1 (nI_pos (by omega))
  · refine x_iload_n dX0_putRight_4 rfl ?_
    refine x_aload_n dX0_putRight_5 rfl ?_
    refine x_getfield dX0_putRight_6 rfl (by decide) (by first | assumption | (simp (disch := omega) only [up_s, up_n]; first | assumption | rfl)) rfl ?_
    refine x_alenI dX0_putRight_9 (by first | assumption | (simp (disch := omega) only [up_s, up_n]; first | assumption | rfl)) ?_
    refine x_icmp_ge 32 dX0_putRight_10 (by decide) (fun c10 => ?_) (fun c10 => ?_)
    · exact absurd ((nI_leI (by omega) (by omega)).mp c10) (by omega)
    · refine x_aload_n dX0_putRight_13 rfl ?_
      refine x_getfield dX0_putRight_14 rfl (by decide) (by first | assumption | (simp (disch := omega) only [up_s, up_n]; first | assumption | rfl)) rfl ?_
      refine x_iload_n dX0_putRight_17 rfl ?_
      refine x_aload_n dX0_putRight_18 rfl ?_
      refine x_getfield dX0_putRight_19 rfl (by decide) (by first | assumption | (simp (disch := omega) only [up_s, up_n]; first | assumption | rfl)) rfl ?_
      refine x_iload_n dX0_putRight_22 rfl ?_
      refine x_ialoadN dX0_putRight_23 (by first | assumption | (simp (disch := omega) only [up_s, up_n]; first | assumption | rfl)) (by omega) (by omega) ?_
      refine x_iastoreN dX0_putRight_24 (by first | assumption | (simp (disch := omega) only [up_s, up_n]; first | assumption | rfl)) (by omega) (by omega) ?_
      refine x_aload_n dX0_putRight_25 rfl ?_
      refine x_getfield dX0_putRight_26 rfl (by decide) (by first | assumption | (simp (disch := omega) only [up_s, up_n]; first | assumption | rfl)) rfl ?_
      refine x_iload_n dX0_putRight_29 rfl ?_
      refine x_iconst (nI 0) dX0_putRight_30 (by decide) ?_
      refine x_iastoreN dX0_putRight_31 (by first | assumption | (simp (disch := omega) only [up_s, up_n]; first | assumption | rfl)) (by omega) (by omega) ?_
      refine x_return dX0_putRight_32 ?_
      refine ⟨_, rfl, rfl, ⟨w, upd s i (w i), upd t i (nI 0), e, ?_, ?_, ?_, ?_, ?_, ?_, hE, ?_, hx, ?_, he⟩, ?_⟩
      · simp (disch := omega) only [up_s, up_n, List.length_set]; exact h0
      · simp (disch := omega) only [up_s, up_n]; exact h1
      · simp (disch := omega) only [up_s, up_n]
      · simp (disch := omega) only [up_s, up_n]
      · simp (disch := omega) only [up_s, up_n]; exact h4
      · rw [List.length_set]; exact hL
      · intro q hq1
        rcases List.mem_or_eq_of_mem_set hq1 with z | z
        · exact hq q z
        · have := hq _ (List.getElem_mem hi)
          rw [z]; exact ⟨this.1, this.1, Nat.zero_lt_two⟩
      · intro j hj
        rw [List.length_set] at hj
        rw [List.getElem_set]
        by_cases z : i = j
        · subst z
          rw [if_pos rfl, pk_us, pk_us]; exact ⟨(hp i hi).1, (hp i hi).1, rfl⟩
        · rw [if_neg z, pk_un (by omega), pk_un (by omega)]; exact hp j hj
      · intro k hk
        simp (disch := omega) only [up_n]
set_option maxRecDepth 20000 in
set_option maxHeartbeats 1000000 in
theorem s_X0_clear {c : Nat → VC} {g : VG} {p : Nat} {pl : List Pl} {es : List Nat} (h : FlatAt c p pl es) : Cm k_X0_clear [.ref p] (g, c) (Ev g (fun c' => FlatAt c' p [] [] ∧ Fr5 c c' p)) := by
  have h9 := h
  obtain ⟨w, s, t, e, h0, h1, h2, h3, h4, hL, hE, hq, hx, hp, he⟩ := h
  refine Cm.in (M := M_X0_clear) (ls := [some (.ref p)]) rfl rfl ?_
  refine x_aload_n dX0_clear_0 rfl ?_
  refine x_iconst (nI 0) dX0_clear_1 (by decide) ?_
  refine x_putfield4 dX0_clear_2 rfl (by first | assumption | (simp (disch := omega) only [up_s, up_n]; first | assumption | rfl)) rfl ?_
  refine x_aload_n dX0_clear_5 rfl ?_
  refine x_iconst (nI 0) dX0_clear_6 (by decide) ?_
  refine x_putfield5 dX0_clear_7 rfl (by first | assumption | (simp (disch := omega) only [up_s, up_n]; first | assumption | rfl)) rfl ?_
  refine x_return dX0_clear_10 ?_
  refine ⟨_, rfl, rfl, ⟨w, s, t, e, ?_, ?_, ?_, ?_, ?_, Nat.zero_le _, Nat.zero_le _, fun q z => absurd z List.not_mem_nil, fun q z => absurd z List.not_mem_nil, fun i z => absurd z (Nat.not_lt_zero i), fun i z => absurd z (Nat.not_lt_zero i)⟩, ?_⟩
  · simp (disch := omega) only [up_s, up_n]; rfl
  · simp (disch := omega) only [up_s, up_n]; exact h1
  · simp (disch := omega) only [up_s, up_n]; exact h2
  · simp (disch := omega) only [up_s, up_n]; exact h3
  · simp (disch := omega) only [up_s, up_n]; exact h4
  · intro k hk
    simp (disch := omega) only [up_n]
set_option maxRecDepth 20000 in
set_option maxHeartbeats 1000000 in
theorem l_X0_errors {c : Nat → VC} {g : VG} {p : Nat} {pl : List Pl} {es : List Nat} (h : FlatAt c p pl es) : ∀ (n i : Nat), i ≤ pl.length → pl.length < i + n → Xm M_X0_errors 4 [some (.ref p), some (.int (nI ((pl.take i).countP wrg))), some (.int (nI i))] [] (g, c) (Rt (.int (nI (pl.countP wrg))) (g, c)) := by
  have h9 := h
  obtain ⟨w, s, t, e, h0, h1, h2, h3, h4, hL, hE, hq, hx, hp, he⟩ := h
  intro n
  induction n with
  | zero => intro i z1 z2; omega
  | succ n ih =>
    intro i z1 z2
    refine x_iload_n dX0_errors_4 rfl ?_
    refine x_aload_n dX0_errors_5 rfl ?_
    refine x_getfield dX0_errors_6 rfl (by decide) (by first | assumption | (simp (disch := omega) only [up_s, up_n]; first | assumption | rfl)) rfl ?_
    refine x_icmp_ge 29 dX0_errors_9 (by decide) (fun c9 => ?_) (fun c9 => ?_)
    · have e1 : i = pl.length := by have := (nI_leI (by omega) (by omega)).mp c9; omega
      subst e1
      rw [List.take_length]
      refine x_iload_n dX0_errors_29 rfl ?_
      refine x_ireturn dX0_errors_30 ?_
      exact ⟨rfl, rfl⟩
    · refine x_aload_n dX0_errors_12 rfl ?_
      refine x_iload_n dX0_errors_13 rfl ?_
      refine x_cv2 dX0_errors_14 rfl (by first | assumption | (simp (disch := omega) only [up_s, up_n]; first | assumption | rfl)) rfl ?_
      have hi : i < pl.length := by
        by_cases q : i < pl.length
        · exact q
        · exact absurd ((nI_leI (by omega) (by omega)).mpr (by omega)) c9
      refine Cm.rt (s_X0_wrongAt h9 hi) ?_
      refine x_if_eq 23 dX0_errors_17 (by decide) (fun c17 => ?_) (fun c17 => ?_)
      · have e9 := bV_eq c17
        rw [← take_cp0 (p := wrg) hi e9]
        refine x_iincN_2 (1) dX0_errors_23 (by decide) rfl ?_
        refine x_goto 4 dX0_errors_26 (by decide) ?_
        exact ih (i + 1) (by omega) (by omega)
      · have e9 := bV_ne c17
        refine x_iincN_1 (1) dX0_errors_20 (by decide) rfl ?_
        rw [← take_cp1 (p := wrg) hi e9]
        refine x_iincN_2 (1) dX0_errors_23 (by decide) rfl ?_
        refine x_goto 4 dX0_errors_26 (by decide) ?_
        exact ih (i + 1) (by omega) (by omega)
set_option maxRecDepth 20000 in
set_option maxHeartbeats 1000000 in
theorem s_X0_errors {c : Nat → VC} {g : VG} {p : Nat} {pl : List Pl} {es : List Nat} (h : FlatAt c p pl es) : Cm k_X0_errors [.ref p] (g, c) (Rt (.int (nI (pl.countP wrg))) (g, c)) := by
  refine Cm.in (M := M_X0_errors) (ls := [some (.ref p), none, none]) rfl rfl ?_
  refine x_iconst (nI 0) dX0_errors_0 (by decide) ?_
  refine x_istore_n1 dX0_errors_1 rfl ?_
  refine x_iconst (nI 0) dX0_errors_2 (by decide) ?_
  refine x_istore_n2 dX0_errors_3 rfl ?_
  exact l_X0_errors h (pl.length + 1) 0 (Nat.zero_le _) (by omega)
set_option maxRecDepth 20000 in
set_option maxHeartbeats 1000000 in
theorem l_X0_turnedSorts {c : Nat → VC} {g : VG} {p : Nat} {pl : List Pl} {es : List Nat} (h : FlatAt c p pl es) : ∀ (n i : Nat), i ≤ pl.length → pl.length < i + n → Xm M_X0_turnedSorts 4 [some (.ref p), some (.int (nI ((pl.take i).countP (fun q => q.2.2 == 1)))), some (.int (nI i))] [] (g, c) (Rt (.int (nI (pl.countP (fun q => q.2.2 == 1)))) (g, c)) := by
  have h9 := h
  obtain ⟨w, s, t, e, h0, h1, h2, h3, h4, hL, hE, hq, hx, hp, he⟩ := h
  intro n
  induction n with
  | zero => intro i z1 z2; omega
  | succ n ih =>
    intro i z1 z2
    refine x_iload_n dX0_turnedSorts_4 rfl ?_
    refine x_aload_n dX0_turnedSorts_5 rfl ?_
    refine x_getfield dX0_turnedSorts_6 rfl (by decide) (by first | assumption | (simp (disch := omega) only [up_s, up_n]; first | assumption | rfl)) rfl ?_
    refine x_icmp_ge 29 dX0_turnedSorts_9 (by decide) (fun c9 => ?_) (fun c9 => ?_)
    · have e1 : i = pl.length := by have := (nI_leI (by omega) (by omega)).mp c9; omega
      subst e1
      rw [List.take_length]
      refine x_iload_n dX0_turnedSorts_29 rfl ?_
      refine x_ireturn dX0_turnedSorts_30 ?_
      exact ⟨rfl, rfl⟩
    · refine x_aload_n dX0_turnedSorts_12 rfl ?_
      refine x_iload_n dX0_turnedSorts_13 rfl ?_
      refine x_cv2 dX0_turnedSorts_14 rfl (by first | assumption | (simp (disch := omega) only [up_s, up_n]; first | assumption | rfl)) rfl ?_
      have hi : i < pl.length := by
        by_cases q : i < pl.length
        · exact q
        · exact absurd ((nI_leI (by omega) (by omega)).mpr (by omega)) c9
      refine Cm.rt (s_X0_turnedAt h9 hi) ?_
      refine x_if_eq 23 dX0_turnedSorts_17 (by decide) (fun c17 => ?_) (fun c17 => ?_)
      · have e9 := bV_eq c17
        rw [← take_cp0 (p := (fun q => q.2.2 == 1)) hi e9]
        refine x_iincN_2 (1) dX0_turnedSorts_23 (by decide) rfl ?_
        refine x_goto 4 dX0_turnedSorts_26 (by decide) ?_
        exact ih (i + 1) (by omega) (by omega)
      · have e9 := bV_ne c17
        refine x_iincN_1 (1) dX0_turnedSorts_20 (by decide) rfl ?_
        rw [← take_cp1 (p := (fun q => q.2.2 == 1)) hi e9]
        refine x_iincN_2 (1) dX0_turnedSorts_23 (by decide) rfl ?_
        refine x_goto 4 dX0_turnedSorts_26 (by decide) ?_
        exact ih (i + 1) (by omega) (by omega)
set_option maxRecDepth 20000 in
set_option maxHeartbeats 1000000 in
theorem s_X0_turnedSorts {c : Nat → VC} {g : VG} {p : Nat} {pl : List Pl} {es : List Nat} (h : FlatAt c p pl es) : Cm k_X0_turnedSorts [.ref p] (g, c) (Rt (.int (nI (pl.countP (fun q => q.2.2 == 1)))) (g, c)) := by
  refine Cm.in (M := M_X0_turnedSorts) (ls := [some (.ref p), none, none]) rfl rfl ?_
  refine x_iconst (nI 0) dX0_turnedSorts_0 (by decide) ?_
  refine x_istore_n1 dX0_turnedSorts_1 rfl ?_
  refine x_iconst (nI 0) dX0_turnedSorts_2 (by decide) ?_
  refine x_istore_n2 dX0_turnedSorts_3 rfl ?_
  exact l_X0_turnedSorts h (pl.length + 1) 0 (Nat.zero_le _) (by omega)
set_option maxRecDepth 20000 in
set_option maxHeartbeats 1000000 in
theorem l_X0_countOf {c : Nat → VC} {g : VG} {p : Nat} {pl : List Pl} {es : List Nat} (h : FlatAt c p pl es) {x : Nat} (hx9 : x < 2 ^ 31) : ∀ (n i : Nat), i ≤ pl.length → pl.length < i + n → Xm M_X0_countOf 4 [some (.ref p), some (.int (nI x)), some (.int (nI ((pl.take i).countP (fun q => q.2.1 == x)))), some (.int (nI i))] [] (g, c) (Rt (.int (nI (pl.countP (fun q => q.2.1 == x)))) (g, c)) := by
  have h9 := h
  obtain ⟨w, s, t, e, h0, h1, h2, h3, h4, hL, hE, hq, hx, hp, he⟩ := h
  intro n
  induction n with
  | zero => intro i z1 z2; omega
  | succ n ih =>
    intro i z1 z2
    refine x_iload_n dX0_countOf_4 rfl ?_
    refine x_aload_n dX0_countOf_5 rfl ?_
    refine x_getfield dX0_countOf_6 rfl (by decide) (by first | assumption | (simp (disch := omega) only [up_s, up_n]; first | assumption | rfl)) rfl ?_
    refine x_icmp_ge 30 dX0_countOf_9 (by decide) (fun c9 => ?_) (fun c9 => ?_)
    · have e1 : i = pl.length := by have := (nI_leI (by omega) (by omega)).mp c9; omega
      subst e1
      rw [List.take_length]
      refine x_iload_n dX0_countOf_30 rfl ?_
      refine x_ireturn dX0_countOf_31 ?_
      exact ⟨rfl, rfl⟩
    · refine x_aload_n dX0_countOf_12 rfl ?_
      refine x_iload_n dX0_countOf_13 rfl ?_
      refine x_cv2 dX0_countOf_14 rfl (by first | assumption | (simp (disch := omega) only [up_s, up_n]; first | assumption | rfl)) rfl ?_
      have hi : i < pl.length := by
        by_cases q : i < pl.length
        · exact q
        · exact absurd ((nI_leI (by omega) (by omega)).mpr (by omega)) c9
      have hq9 := hq _ (List.getElem_mem hi)
      refine Cm.rt (s_X0_sortAt h9 hi) ?_
      refine x_iload_n dX0_countOf_17 rfl ?_
      refine x_icmp_ne 24 dX0_countOf_18 (by decide) (fun c18 => ?_) (fun c18 => ?_)
      · have e8 : ¬ pl[i].2.1 = x := fun z => c18 (by rw [z])
        rw [← take_cp0 (p := (fun q => q.2.1 == x)) hi (by simp [e8])]
        refine x_iincN_3 (1) dX0_countOf_24 (by decide) rfl ?_
        refine x_goto 4 dX0_countOf_27 (by decide) ?_
        exact ih (i + 1) (by omega) (by omega)
      · have e8 : pl[i].2.1 = x := (nI_eq (by omega) (by omega)).mp c18
        refine x_iincN_2 (1) dX0_countOf_21 (by decide) rfl ?_
        rw [← take_cp1 (p := (fun q => q.2.1 == x)) hi (by simp [e8])]
        refine x_iincN_3 (1) dX0_countOf_24 (by decide) rfl ?_
        refine x_goto 4 dX0_countOf_27 (by decide) ?_
        exact ih (i + 1) (by omega) (by omega)
set_option maxRecDepth 20000 in
set_option maxHeartbeats 1000000 in
theorem s_X0_countOf {c : Nat → VC} {g : VG} {p : Nat} {pl : List Pl} {es : List Nat} (h : FlatAt c p pl es) {x : Nat} (hx9 : x < 2 ^ 31) : Cm k_X0_countOf [.ref p, .int (nI x)] (g, c) (Rt (.int (nI (pl.countP (fun q => q.2.1 == x)))) (g, c)) := by
  refine Cm.in (M := M_X0_countOf) (ls := [some (.ref p), some (.int (nI x)), none, none]) rfl rfl ?_
  refine x_iconst (nI 0) dX0_countOf_0 (by decide) ?_
  refine x_istore_n2 dX0_countOf_1 rfl ?_
  refine x_iconst (nI 0) dX0_countOf_2 (by decide) ?_
  refine x_istore_n3 dX0_countOf_3 rfl ?_
  exact l_X0_countOf h hx9 (pl.length + 1) 0 (Nat.zero_le _) (by omega)
set_option maxRecDepth 20000 in
set_option maxHeartbeats 1000000 in
theorem s_X0_copyFrom {c : Nat → VC} {g : VG} {p : Nat} {pl : List Pl} {es : List Nat} (h : FlatAt c p pl es) {p2 : Nat} {pl2 : List Pl} {es2 : List Nat} (h8 : FlatAt c p2 pl2 es2) (hd : p2 + 5 ≤ p ∨ p + 5 ≤ p2) : Cm k_X0_copyFrom [.ref p, .ref p2] (g, c) (Ev g (fun c' => FlatAt c' p pl2 es2 ∧ Fr5 c c' p)) := by
  have h9 := h
  obtain ⟨w, s, t, e, h0, h1, h2, h3, h4, hL, hE, hq, hx, hp, he⟩ := h
  obtain ⟨w2, s2, t2, e2, h02, h12, h22, h32, h42, hL2, hE2, hq2, hx2, hp2, he2⟩ := h8
  have em1 : (if nI pl2.length < nI 80 then nI pl2.length else nI 80) = nI pl2.length := by
    by_cases q : pl2.length < 80
    · rw [if_pos ((nI_ltI (by omega) (by omega)).mpr q)]
    · rw [show pl2.length = 80 by omega]; exact if_neg (nI_nlt (Nat.le_refl _) (by omega))
  have em2 : (if nI es2.length < nI 5 then nI es2.length else nI 5) = nI es2.length := by
    by_cases q : es2.length < 5
    · rw [if_pos ((nI_ltI (by omega) (by omega)).mpr q)]
    · rw [show es2.length = 5 by omega]; exact if_neg (nI_nlt (Nat.le_refl _) (by omega))
  refine Cm.in (M := M_X0_copyFrom) (ls := [some (.ref p), some (.ref p2)]) rfl rfl ?_
  refine x_aload_n dX0_copyFrom_0 rfl ?_
  refine x_aload_n dX0_copyFrom_1 rfl ?_
  refine x_getfield dX0_copyFrom_2 rfl (by decide) (by first | assumption | (simp (disch := omega) only [up_s, up_n]; first | assumption | rfl)) rfl ?_
  refine x_aload_n dX0_copyFrom_5 rfl ?_
  refine x_getfield dX0_copyFrom_6 rfl (by decide) (by first | assumption | (simp (disch := omega) only [up_s, up_n]; first | assumption | rfl)) rfl ?_
  refine x_alenI dX0_copyFrom_9 (by first | assumption | (simp (disch := omega) only [up_s, up_n]; first | assumption | rfl)) ?_
  refine x_min dX0_copyFrom_10 rfl ?_
  rw [em1]
  refine x_putfield4 dX0_copyFrom_13 rfl (by first | assumption | (simp (disch := omega) only [up_s, up_n]; first | assumption | rfl)) rfl ?_
  refine x_aload_n dX0_copyFrom_16 rfl ?_
  refine x_aload_n dX0_copyFrom_17 rfl ?_
  refine x_getfield dX0_copyFrom_18 rfl (by decide) (by first | assumption | (simp (disch := omega) only [up_s, up_n]; first | assumption | rfl)) rfl ?_
  refine x_aload_n dX0_copyFrom_21 rfl ?_
  refine x_getfield dX0_copyFrom_22 rfl (by decide) (by first | assumption | (simp (disch := omega) only [up_s, up_n]; first | assumption | rfl)) rfl ?_
  refine x_alenI dX0_copyFrom_25 (by first | assumption | (simp (disch := omega) only [up_s, up_n]; first | assumption | rfl)) ?_
  refine x_min dX0_copyFrom_26 rfl ?_
  rw [em2]
  refine x_putfield5 dX0_copyFrom_29 rfl (by first | assumption | (simp (disch := omega) only [up_s, up_n]; first | assumption | rfl)) rfl ?_
  refine x_aload_n dX0_copyFrom_32 rfl ?_
  refine x_getfield dX0_copyFrom_33 rfl (by decide) (by first | assumption | (simp (disch := omega) only [up_s, up_n]; first | assumption | rfl)) rfl ?_
  refine x_iconst (nI 0) dX0_copyFrom_36 (by decide) ?_
  refine x_aload_n dX0_copyFrom_37 rfl ?_
  refine x_getfield dX0_copyFrom_38 rfl (by decide) (by first | assumption | (simp (disch := omega) only [up_s, up_n]; first | assumption | rfl)) rfl ?_
  refine x_iconst (nI 0) dX0_copyFrom_41 (by decide) ?_
  refine x_aload_n dX0_copyFrom_42 rfl ?_
  refine x_getfield dX0_copyFrom_43 rfl (by decide) (by first | assumption | (simp (disch := omega) only [up_s, up_n]; first | assumption | rfl)) rfl ?_
  refine x_acopyN dX0_copyFrom_46 rfl (by first | assumption | (simp (disch := omega) only [up_s, up_n]; first | assumption | rfl)) (by first | assumption | (simp (disch := omega) only [up_s, up_n]; first | assumption | rfl)) (by omega) (by omega) (by omega) (by omega) ?_
  refine x_aload_n dX0_copyFrom_49 rfl ?_
  refine x_getfield dX0_copyFrom_50 rfl (by decide) (by first | assumption | (simp (disch := omega) only [up_s, up_n]; first | assumption | rfl)) rfl ?_
  refine x_iconst (nI 0) dX0_copyFrom_53 (by decide) ?_
  refine x_aload_n dX0_copyFrom_54 rfl ?_
  refine x_getfield dX0_copyFrom_55 rfl (by decide) (by first | assumption | (simp (disch := omega) only [up_s, up_n]; first | assumption | rfl)) rfl ?_
  refine x_iconst (nI 0) dX0_copyFrom_58 (by decide) ?_
  refine x_aload_n dX0_copyFrom_59 rfl ?_
  refine x_getfield dX0_copyFrom_60 rfl (by decide) (by first | assumption | (simp (disch := omega) only [up_s, up_n]; first | assumption | rfl)) rfl ?_
  refine x_acopyN dX0_copyFrom_63 rfl (by first | assumption | (simp (disch := omega) only [up_s, up_n]; first | assumption | rfl)) (by first | assumption | (simp (disch := omega) only [up_s, up_n]; first | assumption | rfl)) (by omega) (by omega) (by omega) (by omega) ?_
  refine x_aload_n dX0_copyFrom_66 rfl ?_
  refine x_getfield dX0_copyFrom_67 rfl (by decide) (by first | assumption | (simp (disch := omega) only [up_s, up_n]; first | assumption | rfl)) rfl ?_
  refine x_iconst (nI 0) dX0_copyFrom_70 (by decide) ?_
  refine x_aload_n dX0_copyFrom_71 rfl ?_
  refine x_getfield dX0_copyFrom_72 rfl (by decide) (by first | assumption | (simp (disch := omega) only [up_s, up_n]; first | assumption | rfl)) rfl ?_
  refine x_iconst (nI 0) dX0_copyFrom_75 (by decide) ?_
  refine x_aload_n dX0_copyFrom_76 rfl ?_
  refine x_getfield dX0_copyFrom_77 rfl (by decide) (by first | assumption | (simp (disch := omega) only [up_s, up_n]; first | assumption | rfl)) rfl ?_
  refine x_acopyN dX0_copyFrom_80 rfl (by first | assumption | (simp (disch := omega) only [up_s, up_n]; first | assumption | rfl)) (by first | assumption | (simp (disch := omega) only [up_s, up_n]; first | assumption | rfl)) (by omega) (by omega) (by omega) (by omega) ?_
  refine x_aload_n dX0_copyFrom_83 rfl ?_
  refine x_getfield dX0_copyFrom_84 rfl (by decide) (by first | assumption | (simp (disch := omega) only [up_s, up_n]; first | assumption | rfl)) rfl ?_
  refine x_iconst (nI 0) dX0_copyFrom_87 (by decide) ?_
  refine x_aload_n dX0_copyFrom_88 rfl ?_
  refine x_getfield dX0_copyFrom_89 rfl (by decide) (by first | assumption | (simp (disch := omega) only [up_s, up_n]; first | assumption | rfl)) rfl ?_
  refine x_iconst (nI 0) dX0_copyFrom_92 (by decide) ?_
  refine x_aload_n dX0_copyFrom_93 rfl ?_
  refine x_getfield dX0_copyFrom_94 rfl (by decide) (by first | assumption | (simp (disch := omega) only [up_s, up_n]; first | assumption | rfl)) rfl ?_
  refine x_acopyN dX0_copyFrom_97 rfl (by first | assumption | (simp (disch := omega) only [up_s, up_n]; first | assumption | rfl)) (by first | assumption | (simp (disch := omega) only [up_s, up_n]; first | assumption | rfl)) (by omega) (by omega) (by omega) (by omega) ?_
  refine x_return dX0_copyFrom_100 ?_
  refine ⟨_, rfl, rfl, ⟨va_cpy w2 w 0 0 pl2.length, va_cpy s2 s 0 0 pl2.length, va_cpy t2 t 0 0 pl2.length, va_cpy e2 e 0 0 es2.length, ?_, ?_, ?_, ?_, ?_, hL2, hE2, hq2, hx2, ?_, ?_⟩, ?_⟩
  · simp (disch := omega) only [up_s, up_n]
  · simp (disch := omega) only [up_s, up_n]
  · simp (disch := omega) only [up_s, up_n]
  · simp (disch := omega) only [up_s, up_n]
  · simp (disch := omega) only [up_s, up_n]
  · intro i hi
    rw [pk_cpy_in (by omega) (by omega), pk_cpy_in (by omega) (by omega), pk_cpy_in (by omega) (by omega), show 0 + (i - 0) = i by omega]; exact hp2 i hi
  · intro i hi
    rw [pk_cpy_in (by omega) (by omega), show 0 + (i - 0) = i by omega]; exact he2 i hi
  · intro k hk
    simp (disch := omega) only [up_n]
