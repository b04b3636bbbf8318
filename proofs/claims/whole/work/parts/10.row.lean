/-! ROWS: a row of letters, its list bottom first -/
def RowP (f : Nat → Int32) (l : List Nat) : Prop := ∀ (i : Nat) (hi : i < l.length), f i = nI l[i]
/-- the row at r, its cells at la, of room cap, holds l -/
def RowAt (c : Nat → VC) (r la cap : Nat) (l : List Nat) : Prop := r ≠ la ∧ c r = cO 2 [.ref la, .int (nI l.length)] ∧ l.length ≤ cap ∧ cap ≤ 250 ∧ (∀ x ∈ l, x < 27) ∧ ∃ f, c la = cI cap f ∧ RowP f l
def Fr2 (c c' : Nat → VC) (r la : Nat) : Prop := ∀ k, k ≠ r → k ≠ la → c' k = c k
theorem RowAt.fr {c c' : Nat → VC} {r la cap : Nat} {l : List Nat} (h : RowAt c r la cap l) (h1 : c' r = c r) (h2 : c' la = c la) : RowAt c' r la cap l := by
  obtain ⟨a, b, d⟩ := h
  refine ⟨a, by rw [h1]; exact b, ?_⟩
  rw [h2]; exact d
theorem ne_m1 {x : Nat} (h : x < 27) : ¬ nI x = -1 := by
  have : ∀ y, y < 27 → ¬ nI y = -1 := by decide +kernel
  exact this x h
theorem m1_ne {n : Nat} (h : n < 1000000) : ¬ nI n = -1 := by
  intro q
  have h1 := congrArg Int32.toInt q
  rw [nI_toInt (by omega)] at h1
  have : (-1 : Int32).toInt = -1 := by decide
  omega
set_option maxRecDepth 20000 in
set_option maxHeartbeats 1000000 in
theorem s_X2_size {c : Nat → VC} {g : VG} {r la cap : Nat} {l : List Nat} (h : RowAt c r la cap l) : Cm k_X2_size [.ref r] (g, c) (Rt (.int (nI l.length)) (g, c)) := by
  obtain ⟨hne, hr, hlen, hcap, hlt, f, hf, hfl⟩ := h
  refine Cm.in (M := M_X2_size) (ls := [some (.ref r)]) rfl rfl ?_
  refine x_aload_n dX2_size_0 rfl ?_
  refine x_getfield dX2_size_1 rfl (by decide) (by first | assumption | (simp (disch := omega) only [up_s, up_n]; first | assumption | rfl)) rfl ?_
  refine x_ireturn dX2_size_4 ?_
  exact ⟨rfl, rfl⟩
set_option maxRecDepth 20000 in
set_option maxHeartbeats 1000000 in
theorem s_X2_clear {c : Nat → VC} {g : VG} {r la cap : Nat} {l : List Nat} (h : RowAt c r la cap l) : Cm k_X2_clear [.ref r] (g, c) (Ev g (fun c' => RowAt c' r la cap [] ∧ Fr2 c c' r la)) := by
  obtain ⟨hne, hr, hlen, hcap, hlt, f, hf, hfl⟩ := h
  refine Cm.in (M := M_X2_clear) (ls := [some (.ref r)]) rfl rfl ?_
  refine x_aload_n dX2_clear_0 rfl ?_
  refine x_iconst (nI 0) dX2_clear_1 (by decide) ?_
  refine x_putfield1 dX2_clear_2 rfl (by first | assumption | (simp (disch := omega) only [up_s, up_n]; first | assumption | rfl)) rfl ?_
  refine x_return dX2_clear_5 ?_
  refine ⟨_, rfl, rfl, ⟨hne, up_s, Nat.zero_le _, hcap, fun _ q => absurd q List.not_mem_nil, f, ?_, fun i hi => absurd hi (Nat.not_lt_zero i)⟩, fun k h1 h2 => up_n h1⟩
  rw [← hf]; exact up_n (Ne.symm hne)
set_option maxRecDepth 20000 in
set_option maxHeartbeats 1000000 in
theorem s_X2_at {c : Nat → VC} {g : VG} {r la cap : Nat} {l : List Nat} (h : RowAt c r la cap l) {i : Nat} (hi : i < l.length) : Cm k_X2_at [.ref r, .int (nI i)] (g, c) (Rt (.int (nI l[i])) (g, c)) := by
  obtain ⟨hne, hr, hlen, hcap, hlt, f, hf, hfl⟩ := h
  refine Cm.in (M := M_X2_at) (ls := [some (.ref r), some (.int (nI i))]) rfl rfl ?_
  refine x_iload_n dX2_at_0 rfl ?_
  refine x_if_lt 30 dX2_at_1 (by decide) (fun c1 => ?_) (fun c1 => ?_)
  · exact absurd c1 (nI_pos (by omega))
  · refine x_iload_n dX2_at_4 rfl ?_
    refine x_aload_n dX2_at_5 rfl ?_
    refine x_getfield dX2_at_6 rfl (by decide) (by first | assumption | (simp (disch := omega) only [up_s, up_n]; first | assumption | rfl)) rfl ?_
    refine x_icmp_ge 30 dX2_at_9 (by decide) (fun c9 => ?_) (fun c9 => ?_)
    · exact absurd ((nI_leI (by omega) (by omega)).mp c9) (by omega)
    · refine x_iload_n dX2_at_12 rfl ?_
      refine x_aload_n dX2_at_13 rfl ?_
      refine x_getfield dX2_at_14 rfl (by decide) (by first | assumption | (simp (disch := omega) only [up_s, up_n]; first | assumption | rfl)) rfl ?_
      refine x_alenI dX2_at_17 (by first | assumption | (simp (disch := omega) only [up_s, up_n]; first | assumption | rfl)) ?_
      refine x_icmp_ge 30 dX2_at_18 (by decide) (fun c18 => ?_) (fun c18 => ?_)
      · exact absurd ((nI_leI (by omega) (by omega)).mp c18) (by omega)
      · refine x_aload_n dX2_at_21 rfl ?_
        refine x_getfield dX2_at_22 rfl (by decide) (by first | assumption | (simp (disch := omega) only [up_s, up_n]; first | assumption | rfl)) rfl ?_
        refine x_iload_n dX2_at_25 rfl ?_
        refine x_ialoadN dX2_at_26 (by first | assumption | (simp (disch := omega) only [up_s, up_n]; first | assumption | rfl)) (by omega) (by omega) ?_
        refine x_goto 31 dX2_at_27 (by decide) ?_
        refine x_ireturn dX2_at_31 ?_
        exact ⟨by rw [hfl i hi], rfl⟩
theorem take_cnt1 {l : List Nat} {x i : Nat} (hi : i < l.length) (q : l[i] = x) : (l.take (i + 1)).count x = (l.take i).count x + 1 := by
  rw [List.take_succ_eq_append_getElem hi, List.count_append]; simp [q]
theorem take_cnt0 {l : List Nat} {x i : Nat} (hi : i < l.length) (q : ¬ l[i] = x) : (l.take (i + 1)).count x = (l.take i).count x := by
  rw [List.take_succ_eq_append_getElem hi, List.count_append]; simp [q, List.count_singleton]
set_option maxRecDepth 20000 in
set_option maxHeartbeats 1000000 in
theorem s_X2_at_m1 {c : Nat → VC} {g : VG} {r la cap : Nat} {l : List Nat} (h : RowAt c r la cap l) : Cm k_X2_at [.ref r, .int (-1)] (g, c) (Rt (.int (-1)) (g, c)) := by
  obtain ⟨hne, hr, hlen, hcap, hlt, f, hf, hfl⟩ := h
  refine Cm.in (M := M_X2_at) (ls := [some (.ref r), some (.int (-1))]) rfl rfl ?_
  refine x_iload_n dX2_at_0 rfl ?_
  refine x_if_lt 30 dX2_at_1 (by decide) (fun c1 => ?_) (fun c1 => ?_)
  · refine x_iconst (-1) dX2_at_30 (by decide) ?_
    refine x_ireturn dX2_at_31 ?_
    exact ⟨rfl, rfl⟩
  · exact absurd (by decide) c1
set_option maxRecDepth 20000 in
set_option maxHeartbeats 1000000 in
theorem s_X2_put {c : Nat → VC} {g : VG} {r la cap : Nat} {l : List Nat} (h : RowAt c r la cap l) {x : Nat} (hx : x < 27) (hl : l.length < cap) : Cm k_X2_put [.ref r, .int (nI x)] (g, c) (Ev g (fun c' => RowAt c' r la cap (l ++ [x]) ∧ Fr2 c c' r la)) := by
  obtain ⟨hne, hr, hlen, hcap, hlt, f, hf, hfl⟩ := h
  have hr2 : ∀ y, (up c la y) r = cO 2 [.ref la, .int (nI l.length)] := fun y => by rw [up_n hne]; exact hr
  refine Cm.in (M := M_X2_put) (ls := [some (.ref r), some (.int (nI x))]) rfl rfl ?_
  refine x_aload_n dX2_put_0 rfl ?_
  refine x_getfield dX2_put_1 rfl (by decide) (by first | assumption | (simp (disch := omega) only [up_s, up_n]; first | assumption | rfl)) rfl ?_
  refine x_if_lt 39 dX2_put_4 (by decide) (fun c4 => ?_) (fun c4 => ?_)
  · exact absurd c4 (nI_pos (by omega))
  · refine x_aload_n dX2_put_7 rfl ?_
    refine x_getfield dX2_put_8 rfl (by decide) (by first | assumption | (simp (disch := omega) only [up_s, up_n]; first | assumption | rfl)) rfl ?_
    refine x_aload_n dX2_put_11 rfl ?_
    refine x_getfield dX2_put_12 rfl (by decide) (by first | assumption | (simp (disch := omega) only [up_s, up_n]; first | assumption | rfl)) rfl ?_
    refine x_alenI dX2_put_15 (by first | assumption | (simp (disch := omega) only [up_s, up_n]; first | assumption | rfl)) ?_
    refine x_icmp_ge 39 dX2_put_16 (by decide) (fun c16 => ?_) (fun c16 => ?_)
    · exact absurd ((nI_leI (by omega) (by omega)).mp c16) (by omega)
    · refine x_aload_n dX2_put_19 rfl ?_
      refine x_getfield dX2_put_20 rfl (by decide) (by first | assumption | (simp (disch := omega) only [up_s, up_n]; first | assumption | rfl)) rfl ?_
      refine x_aload_n dX2_put_23 rfl ?_
      refine x_getfield dX2_put_24 rfl (by decide) (by first | assumption | (simp (disch := omega) only [up_s, up_n]; first | assumption | rfl)) rfl ?_
      refine x_iload_n dX2_put_27 rfl ?_
      refine x_iastoreN dX2_put_28 (by first | assumption | (simp (disch := omega) only [up_s, up_n]; first | assumption | rfl)) (by omega) (by omega) ?_
      refine x_aload_n dX2_put_29 rfl ?_
      refine x_dup dX2_put_30 rfl ?_
      refine x_getfield dX2_put_31 rfl (by decide) (hr2 _) rfl ?_
      refine x_iconst (nI 1) dX2_put_34 (by decide) ?_
      refine x_iaddN dX2_put_35 ?_
      refine x_putfield1 dX2_put_36 rfl (hr2 _) rfl ?_
      refine x_return dX2_put_39 ?_
      refine ⟨_, rfl, rfl, ⟨hne, by rw [up_s, List.length_append]; rfl, by rw [List.length_append]; simp; omega, hcap, ?_, upd f l.length (nI x), ?_, ?_⟩, ?_⟩
      · intro y hy
        rcases List.mem_append.mp hy with q | q
        · exact hlt y q
        · rw [List.mem_singleton.mp q]; exact hx
      · rw [up_n (Ne.symm hne), up_s]
      · intro i hi
        rw [List.length_append] at hi
        by_cases q : i < l.length
        · rw [List.getElem_append_left q, pk_un (by omega)]; exact hfl i q
        · have e : i = l.length := by simp at hi; omega
          subst e
          rw [pk_us]; simp
      · intro k h1 h2
        rw [up_n h1, up_n h2]
set_option maxRecDepth 20000 in
set_option maxHeartbeats 1000000 in
theorem s_X2_takeAt {c : Nat → VC} {g : VG} {r la cap : Nat} {l : List Nat} (h : RowAt c r la cap l) {i : Nat} (hi : i < l.length) : Cm k_X2_takeAt [.ref r, .int (nI i)] (g, c) (Ei g (fun v c' => v = .int (nI l[i]) ∧ RowAt c' r la cap (l.eraseIdx i) ∧ Fr2 c c' r la)) := by
  have h0 := h
  obtain ⟨hne, hr, hlen, hcap, hlt, f, hf, hfl⟩ := h
  have hr2 : ∀ y, (up c la y) r = cO 2 [.ref la, .int (nI l.length)] := fun y => by rw [up_n hne]; exact hr
  have hli : l[i] < 27 := hlt _ (List.getElem_mem hi)
  refine Cm.in (M := M_X2_takeAt) (ls := [some (.ref r), some (.int (nI i)), none]) rfl rfl ?_
  refine x_aload_n dX2_takeAt_0 rfl ?_
  refine x_iload_n dX2_takeAt_1 rfl ?_
  refine x_cv2 dX2_takeAt_2 rfl (by first | assumption | (simp (disch := omega) only [up_s, up_n]; first | assumption | rfl)) rfl ?_
  refine Cm.rt (s_X2_at h0 hi) ?_
  refine x_istore_n2 dX2_takeAt_5 rfl ?_
  refine x_iload_n dX2_takeAt_6 rfl ?_
  refine x_iconst (-1) dX2_takeAt_7 (by decide) ?_
  refine x_icmp_eq 44 dX2_takeAt_8 (by decide) (fun c8 => ?_) (fun c8 => ?_)
  · exact absurd c8 (ne_m1 hli)
  · refine x_aload_n dX2_takeAt_11 rfl ?_
    refine x_getfield dX2_takeAt_12 rfl (by decide) (by first | assumption | (simp (disch := omega) only [up_s, up_n]; first | assumption | rfl)) rfl ?_
    refine x_iload_n dX2_takeAt_15 rfl ?_
    refine x_iconst (nI 1) dX2_takeAt_16 (by decide) ?_
    refine x_iaddN dX2_takeAt_17 ?_
    refine x_aload_n dX2_takeAt_18 rfl ?_
    refine x_getfield dX2_takeAt_19 rfl (by decide) (by first | assumption | (simp (disch := omega) only [up_s, up_n]; first | assumption | rfl)) rfl ?_
    refine x_iload_n dX2_takeAt_22 rfl ?_
    refine x_aload_n dX2_takeAt_23 rfl ?_
    refine x_getfield dX2_takeAt_24 rfl (by decide) (by first | assumption | (simp (disch := omega) only [up_s, up_n]; first | assumption | rfl)) rfl ?_
    refine x_iconst (nI 1) dX2_takeAt_27 (by decide) ?_
    refine x_isubN dX2_takeAt_28 (by omega) ?_
    refine x_iload_n dX2_takeAt_29 rfl ?_
    refine x_isubN dX2_takeAt_30 (by omega) ?_
    refine x_acopyN dX2_takeAt_31 rfl hf hf (by omega) (by omega) (by omega) (by omega) ?_
    refine x_aload_n dX2_takeAt_34 rfl ?_
    refine x_dup dX2_takeAt_35 rfl ?_
    refine x_getfield dX2_takeAt_36 rfl (by decide) (hr2 _) rfl ?_
    refine x_iconst (nI 1) dX2_takeAt_39 (by decide) ?_
    refine x_isubN dX2_takeAt_40 (by omega) ?_
    refine x_putfield1 dX2_takeAt_41 rfl (hr2 _) rfl ?_
    refine x_iload_n dX2_takeAt_44 rfl ?_
    refine x_ireturn dX2_takeAt_45 ?_
    have hle : (l.eraseIdx i).length = l.length - 1 := List.length_eraseIdx_of_lt hi
    refine ⟨_, _, rfl, rfl, rfl, ⟨hne, by rw [up_s, hle], by rw [hle]; omega, hcap, fun y hy => hlt y (List.mem_of_mem_eraseIdx hy), va_cpy f f (i + 1) i (l.length - 1 - i), by rw [up_n (Ne.symm hne), up_s], ?_⟩, ?_⟩
    · intro j hj
      rw [hle] at hj
      rw [List.getElem_eraseIdx]
      by_cases q : j < i
      · rw [dif_pos q, pk_cpy_out (Or.inl q)]; exact hfl j (by omega)
      · rw [dif_neg q, pk_cpy_in (by omega) (by omega), show i + 1 + (j - i) = j + 1 by omega]; exact hfl (j + 1) (by omega)
    · intro k h1 h2
      rw [up_n h1, up_n h2]
set_option maxRecDepth 20000 in
set_option maxHeartbeats 1000000 in
theorem s_X2_takeLast {c : Nat → VC} {g : VG} {r la cap : Nat} {l : List Nat} {x : Nat} (h : RowAt c r la cap (l ++ [x])) : Cm k_X2_takeLast [.ref r] (g, c) (Ei g (fun v c' => v = .int (nI x) ∧ RowAt c' r la cap l ∧ Fr2 c c' r la)) := by
  have h0 := h
  obtain ⟨hne, hr, hlen, hcap, hlt, f, hf, hfl⟩ := h
  have hL : (l ++ [x]).length - 1 < (l ++ [x]).length := by simp
  have e1 : (l ++ [x])[(l ++ [x]).length - 1] = x := by simp
  have e2 : (l ++ [x]).eraseIdx ((l ++ [x]).length - 1) = l := by simp [List.eraseIdx_append_of_length_le]
  refine Cm.in (M := M_X2_takeLast) (ls := [some (.ref r)]) rfl rfl ?_
  refine x_aload_n dX2_takeLast_0 rfl ?_
  refine x_aload_n dX2_takeLast_1 rfl ?_
  refine x_getfield dX2_takeLast_2 rfl (by decide) (by first | assumption | (simp (disch := omega) only [up_s, up_n]; first | assumption | rfl)) rfl ?_
  refine x_iconst (nI 1) dX2_takeLast_5 (by decide) ?_
  refine x_isubN dX2_takeLast_6 (by omega) ?_
  refine x_cv2 dX2_takeLast_7 rfl (by first | assumption | (simp (disch := omega) only [up_s, up_n]; first | assumption | rfl)) rfl ?_
  refine Cm.ei (s_X2_takeAt h0 hL) (fun v c' q => ?_)
  obtain ⟨rfl, q2, q3⟩ := q
  rw [e2] at q2
  rw [e1]
  refine x_ireturn dX2_takeLast_10 ?_
  exact ⟨_, _, rfl, rfl, rfl, q2, q3⟩
set_option maxRecDepth 20000 in
set_option maxHeartbeats 1000000 in
theorem s_X2_dropFirst {c : Nat → VC} {g : VG} {r la cap : Nat} {l : List Nat} (h : RowAt c r la cap l) {n : Nat} (hn : n ≤ l.length) : Cm k_X2_dropFirst [.ref r, .int (nI n)] (g, c) (Ev g (fun c' => RowAt c' r la cap (l.drop n) ∧ Fr2 c c' r la)) := by
  obtain ⟨hne, hr, hlen, hcap, hlt, f, hf, hfl⟩ := h
  have hr2 : ∀ y, (up c la y) r = cO 2 [.ref la, .int (nI l.length)] := fun y => by rw [up_n hne]; exact hr
  refine Cm.in (M := M_X2_dropFirst) (ls := [some (.ref r), some (.int (nI n))]) rfl rfl ?_
  refine x_iload_n dX2_dropFirst_0 rfl ?_
  refine x_if_lt 41 dX2_dropFirst_1 (by decide) (fun c1 => ?_) (fun c1 => ?_)
  · exact absurd c1 (nI_pos (by omega))
  · refine x_iload_n dX2_dropFirst_4 rfl ?_
    refine x_aload_n dX2_dropFirst_5 rfl ?_
    refine x_getfield dX2_dropFirst_6 rfl (by decide) (by first | assumption | (simp (disch := omega) only [up_s, up_n]; first | assumption | rfl)) rfl ?_
    refine x_icmp_gt 41 dX2_dropFirst_9 (by decide) (fun c9 => ?_) (fun c9 => ?_)
    · exact absurd ((nI_ltI (by omega) (by omega)).mp c9) (by omega)
    · refine x_aload_n dX2_dropFirst_12 rfl ?_
      refine x_getfield dX2_dropFirst_13 rfl (by decide) (by first | assumption | (simp (disch := omega) only [up_s, up_n]; first | assumption | rfl)) rfl ?_
      refine x_iload_n dX2_dropFirst_16 rfl ?_
      refine x_aload_n dX2_dropFirst_17 rfl ?_
      refine x_getfield dX2_dropFirst_18 rfl (by decide) (by first | assumption | (simp (disch := omega) only [up_s, up_n]; first | assumption | rfl)) rfl ?_
      refine x_iconst (nI 0) dX2_dropFirst_21 (by decide) ?_
      refine x_aload_n dX2_dropFirst_22 rfl ?_
      refine x_getfield dX2_dropFirst_23 rfl (by decide) (by first | assumption | (simp (disch := omega) only [up_s, up_n]; first | assumption | rfl)) rfl ?_
      refine x_iload_n dX2_dropFirst_26 rfl ?_
      refine x_isubN dX2_dropFirst_27 (by omega) ?_
      refine x_acopyN dX2_dropFirst_28 rfl hf hf (by omega) (by omega) (by omega) (by omega) ?_
      refine x_aload_n dX2_dropFirst_31 rfl ?_
      refine x_dup dX2_dropFirst_32 rfl ?_
      refine x_getfield dX2_dropFirst_33 rfl (by decide) (hr2 _) rfl ?_
      refine x_iload_n dX2_dropFirst_36 rfl ?_
      refine x_isubN dX2_dropFirst_37 (by omega) ?_
      refine x_putfield1 dX2_dropFirst_38 rfl (hr2 _) rfl ?_
      refine x_return dX2_dropFirst_41 ?_
      refine ⟨_, rfl, rfl, ⟨hne, by rw [up_s, List.length_drop], by rw [List.length_drop]; omega, hcap, fun y hy => hlt y (List.mem_of_mem_drop hy), va_cpy f f n 0 (l.length - n), by rw [up_n (Ne.symm hne), up_s], ?_⟩, ?_⟩
      · intro j hj
        rw [List.length_drop] at hj
        rw [List.getElem_drop, pk_cpy_in (by omega) (by omega), show n + (j - 0) = n + j by omega]; exact hfl (n + j) (by omega)
      · intro k h1 h2
        rw [up_n h1, up_n h2]
set_option maxRecDepth 20000 in
set_option maxHeartbeats 1000000 in
theorem l_X2_countOf {c : Nat → VC} {g : VG} {r la cap : Nat} {l : List Nat} (h : RowAt c r la cap l) {x : Nat} (hx : x < 2 ^ 31) : ∀ (n i : Nat), i ≤ l.length → l.length < i + n → Xm M_X2_countOf 4 [some (.ref r), some (.int (nI x)), some (.int (nI ((l.take i).count x))), some (.int (nI i))] [] (g, c) (Rt (.int (nI (l.count x))) (g, c)) := by
  have h0 := h
  obtain ⟨hne, hr, hlen, hcap, hlt, f, hf, hfl⟩ := h
  intro n
  induction n with
  | zero => intro i h1 h2; omega
  | succ n ih =>
    intro i h1 h2
    refine x_iload_n dX2_countOf_4 rfl ?_
    refine x_aload_n dX2_countOf_5 rfl ?_
    refine x_getfield dX2_countOf_6 rfl (by decide) (by first | assumption | (simp (disch := omega) only [up_s, up_n]; first | assumption | rfl)) rfl ?_
    refine x_icmp_ge 30 dX2_countOf_9 (by decide) (fun c9 => ?_) (fun c9 => ?_)
    · have e : i = l.length := by have := (nI_leI (by omega) (by omega)).mp c9; omega
      subst e
      rw [List.take_length]
      refine x_iload_n dX2_countOf_30 rfl ?_
      refine x_ireturn dX2_countOf_31 ?_
      exact ⟨rfl, rfl⟩
    · refine x_aload_n dX2_countOf_12 rfl ?_
      refine x_iload_n dX2_countOf_13 rfl ?_
      refine x_cv2 dX2_countOf_14 rfl (by first | assumption | (simp (disch := omega) only [up_s, up_n]; first | assumption | rfl)) rfl ?_
      have hi : i < l.length := by
        by_cases q : i < l.length
        · exact q
        · exact absurd ((nI_leI (by omega) (by omega)).mpr (by omega)) c9
      have hli : l[i] < 27 := hlt _ (List.getElem_mem hi)
      refine Cm.rt (s_X2_at h0 hi) ?_
      refine x_iload_n dX2_countOf_17 rfl ?_
      refine x_icmp_ne 24 dX2_countOf_18 (by decide) (fun c18 => ?_) (fun c18 => ?_)
      · have ne : ¬ l[i] = x := fun q => c18 (by rw [q])
        rw [← take_cnt0 hi ne]
        refine x_iincN_3 (1) dX2_countOf_24 (by decide) rfl ?_
        refine x_goto 4 dX2_countOf_27 (by decide) ?_
        exact ih (i + 1) (by omega) (by omega)
      · have ee : l[i] = x := (nI_eq (by omega) (by omega)).mp c18
        refine x_iincN_2 (1) dX2_countOf_21 (by decide) rfl ?_
        rw [← take_cnt1 hi ee]
        refine x_iincN_3 (1) dX2_countOf_24 (by decide) rfl ?_
        refine x_goto 4 dX2_countOf_27 (by decide) ?_
        exact ih (i + 1) (by omega) (by omega)
set_option maxRecDepth 20000 in
set_option maxHeartbeats 1000000 in
theorem s_X2_countOf {c : Nat → VC} {g : VG} {r la cap : Nat} {l : List Nat} (h : RowAt c r la cap l) {x : Nat} (hx : x < 2 ^ 31) : Cm k_X2_countOf [.ref r, .int (nI x)] (g, c) (Rt (.int (nI (l.count x))) (g, c)) := by
  refine Cm.in (M := M_X2_countOf) (ls := [some (.ref r), some (.int (nI x)), none, none]) rfl rfl ?_
  refine x_iconst (nI 0) dX2_countOf_0 (by decide) ?_
  refine x_istore_n2 dX2_countOf_1 rfl ?_
  refine x_iconst (nI 0) dX2_countOf_2 (by decide) ?_
  refine x_istore_n3 dX2_countOf_3 rfl ?_
  exact l_X2_countOf h hx (l.length + 1) 0 (Nat.zero_le _) (by omega)
/-- the topmost place of x, seen among the first n -/
def lastIx (l : List Nat) (x : Nat) : Nat → Option Nat
  | 0 => none
  | n + 1 => if l[n]? = some x then some n else lastIx l x n
theorem lastIx_some {l : List Nat} {x : Nat} : ∀ {n i : Nat}, lastIx l x n = some i → i < n ∧ l[i]? = some x
  | 0, _, h => by cases h
  | n + 1, i, h => by
    unfold lastIx at h
    by_cases q : l[n]? = some x
    · rw [if_pos q] at h
      cases h
      exact ⟨Nat.lt_succ_self _, q⟩
    · rw [if_neg q] at h
      have := lastIx_some h
      exact ⟨by omega, this.2⟩
def ixV (o : Option Nat) : Int32 := match o with
  | some i => nI i
  | none => -1
set_option maxRecDepth 20000 in
set_option maxHeartbeats 1000000 in
theorem l_X2_lastIndexOf {c : Nat → VC} {g : VG} {r la cap : Nat} {l : List Nat} (h : RowAt c r la cap l) {x : Nat} (hx : x < 2 ^ 31) : ∀ (n : Nat), n ≤ l.length → Xm M_X2_lastIndexOf 7 [some (.ref r), some (.int (nI x)), some (.int (nI n - nI 1))] [] (g, c) (Rt (.int (ixV (lastIx l x n))) (g, c)) := by
  have h0 := h
  obtain ⟨hne, hr, hlen, hcap, hlt, f, hf, hfl⟩ := h
  intro n
  induction n with
  | zero =>
    intro h1
    refine x_iload_n dX2_lastIndexOf_7 rfl ?_
    refine x_if_lt 28 dX2_lastIndexOf_8 (by decide) (fun c8 => ?_) (fun c8 => absurd (by decide) c8)
    refine x_iconst (-1) dX2_lastIndexOf_28 (by decide) ?_
    refine x_ireturn dX2_lastIndexOf_29 ?_
    exact ⟨rfl, rfl⟩
  | succ n ih =>
    intro h1
    have hi : n < l.length := by omega
    have e1 : nI (n + 1) - nI 1 = nI n := nI_pred n
    have hli : l[n] < 27 := hlt _ (List.getElem_mem hi)
    have eq : l[n]? = some l[n] := List.getElem?_eq_getElem hi
    rw [e1]
    refine x_iload_n dX2_lastIndexOf_7 rfl ?_
    refine x_if_lt 28 dX2_lastIndexOf_8 (by decide) (fun c8 => ?_) (fun c8 => ?_)
    · exact absurd c8 (nI_pos (by omega))
    · refine x_aload_n dX2_lastIndexOf_11 rfl ?_
      refine x_iload_n dX2_lastIndexOf_12 rfl ?_
      refine x_cv2 dX2_lastIndexOf_13 rfl (by first | assumption | (simp (disch := omega) only [up_s, up_n]; first | assumption | rfl)) rfl ?_
      refine Cm.rt (s_X2_at h0 hi) ?_
      refine x_iload_n dX2_lastIndexOf_16 rfl ?_
      refine x_icmp_ne 22 dX2_lastIndexOf_17 (by decide) (fun c17 => ?_) (fun c17 => ?_)
      · have ne : ¬ l[n] = x := fun q => c17 (by rw [q])
        have el : lastIx l x (n + 1) = lastIx l x n := by
          show (if l[n]? = some x then some n else lastIx l x n) = _
          rw [if_neg (by rw [eq]; intro q; exact ne (Option.some.inj q))]
        rw [el]
        refine x_iinc_2 (-1) dX2_lastIndexOf_22 rfl rfl ?_
        rw [show nI n + (-1) = nI n - nI 1 by rw [Int32.sub_eq_add_neg]; rfl]
        refine x_goto 7 dX2_lastIndexOf_25 (by decide) ?_
        exact ih (by omega)
      · have ee : l[n] = x := (nI_eq (by omega) (by omega)).mp c17
        refine x_iload_n dX2_lastIndexOf_20 rfl ?_
        refine x_ireturn dX2_lastIndexOf_21 ?_
        refine ⟨?_, rfl⟩
        unfold lastIx
        rw [if_pos (by rw [eq, ee])]
        rfl
set_option maxRecDepth 20000 in
set_option maxHeartbeats 1000000 in
theorem s_X2_lastIndexOf {c : Nat → VC} {g : VG} {r la cap : Nat} {l : List Nat} (h : RowAt c r la cap l) {x : Nat} (hx : x < 2 ^ 31) : Cm k_X2_lastIndexOf [.ref r, .int (nI x)] (g, c) (Rt (.int (ixV (lastIx l x l.length))) (g, c)) := by
  have h0 := h
  obtain ⟨hne, hr, hlen, hcap, hlt, f, hf, hfl⟩ := h
  refine Cm.in (M := M_X2_lastIndexOf) (ls := [some (.ref r), some (.int (nI x)), none]) rfl rfl ?_
  refine x_aload_n dX2_lastIndexOf_0 rfl ?_
  refine x_getfield dX2_lastIndexOf_1 rfl (by decide) (by first | assumption | (simp (disch := omega) only [up_s, up_n]; first | assumption | rfl)) rfl ?_
  refine x_iconst (nI 1) dX2_lastIndexOf_4 (by decide) ?_
  refine x_isub dX2_lastIndexOf_5 ?_
  refine x_istore_n2 dX2_lastIndexOf_6 rfl ?_
  exact l_X2_lastIndexOf h0 hx l.length (Nat.le_refl _)
set_option maxRecDepth 20000 in
set_option maxHeartbeats 1000000 in
theorem s_X4_mixed {c : Nat → VC} {g : VG} {x y : Int64} : Cm k_X4_mixed [.long x, .long y] (g, c) (Rt (.long (31 * x + y)) (g, c)) := by
  refine Cm.in (M := M_X4_mixed) (ls := [some (.long x), none, some (.long y), none]) rfl rfl ?_
  refine x_ldc2_w dX4_mixed_0 rfl ?_
  refine x_lload_n dX4_mixed_3 rfl ?_
  refine x_lmul dX4_mixed_4 ?_
  refine x_lload_n dX4_mixed_5 rfl ?_
  refine x_ladd dX4_mixed_6 ?_
  refine x_lreturn dX4_mixed_7 ?_
  exact ⟨rfl, rfl⟩
def mixL (l : List Nat) (h : Int64) : Int64 := l.foldl (fun h x => 31 * h + lN x) h
set_option maxRecDepth 20000 in
set_option maxHeartbeats 1000000 in
theorem l_X2_mixedInto {c : Nat → VC} {g : VG} {r la cap : Nat} {l : List Nat} (h : RowAt c r la cap l) {y z : Int64} : ∀ (n i : Nat), i ≤ l.length → l.length < i + n → Xm M_X2_mixedInto 5 [some (.ref r), some (.long y), none, some (.long (mixL (l.take i) z)), none, some (.int (nI i))] [] (g, c) (Rt (.long (mixL l z)) (g, c)) := by
  have h0 := h
  obtain ⟨hne, hr, hlen, hcap, hlt, f, hf, hfl⟩ := h
  intro n
  induction n with
  | zero => intro i h1 h2; omega
  | succ n ih =>
    intro i h1 h2
    refine x_iload dX2_mixedInto_5 rfl ?_
    refine x_aload_n dX2_mixedInto_7 rfl ?_
    refine x_getfield dX2_mixedInto_8 rfl (by decide) (by first | assumption | (simp (disch := omega) only [up_s, up_n]; first | assumption | rfl)) rfl ?_
    refine x_icmp_ge 32 dX2_mixedInto_11 (by decide) (fun c11 => ?_) (fun c11 => ?_)
    · have e : i = l.length := by have := (nI_leI (by omega) (by omega)).mp c11; omega
      subst e
      rw [List.take_length]
      refine x_lload_n dX2_mixedInto_32 rfl ?_
      refine x_lreturn dX2_mixedInto_33 ?_
      exact ⟨rfl, rfl⟩
    · have hi : i < l.length := by
        by_cases q : i < l.length
        · exact q
        · exact absurd ((nI_leI (by omega) (by omega)).mpr (by omega)) c11
      have hli : l[i] < 27 := hlt _ (List.getElem_mem hi)
      have et : mixL (l.take (i + 1)) z = 31 * mixL (l.take i) z + lN l[i] := by
        unfold mixL
        rw [List.take_succ_eq_append_getElem hi, List.foldl_append]; rfl
      refine x_lload_n dX2_mixedInto_14 rfl ?_
      refine x_aload_n dX2_mixedInto_15 rfl ?_
      refine x_iload dX2_mixedInto_16 rfl ?_
      refine x_cv2 dX2_mixedInto_18 rfl (by first | assumption | (simp (disch := omega) only [up_s, up_n]; first | assumption | rfl)) rfl ?_
      refine Cm.rt (s_X2_at h0 hi) ?_
      refine x_i2lN dX2_mixedInto_21 (by omega) ?_
      refine x_cs2 dX2_mixedInto_22 rfl ?_
      refine Cm.rt s_X4_mixed ?_
      rw [← et]
      refine x_lstore_n3 dX2_mixedInto_25 rfl ?_
      refine x_iincN_5 (1) dX2_mixedInto_26 (by decide) rfl ?_
      refine x_goto 5 dX2_mixedInto_29 (by decide) ?_
      exact ih (i + 1) (by omega) (by omega)
set_option maxRecDepth 20000 in
set_option maxHeartbeats 1000000 in
theorem s_X2_mixedInto {c : Nat → VC} {g : VG} {r la cap : Nat} {l : List Nat} (h : RowAt c r la cap l) {z : Int64} : Cm k_X2_mixedInto [.ref r, .long z] (g, c) (Rt (.long (mixL l z)) (g, c)) := by
  refine Cm.in (M := M_X2_mixedInto) (ls := [some (.ref r), some (.long z), none, none, none, none]) rfl rfl ?_
  refine x_lload_n dX2_mixedInto_0 rfl ?_
  refine x_lstore_n3 dX2_mixedInto_1 rfl ?_
  refine x_iconst (nI 0) dX2_mixedInto_2 (by decide) ?_
  refine x_istore_5 dX2_mixedInto_3 rfl ?_
  exact l_X2_mixedInto h (l.length + 1) 0 (Nat.zero_le _) (by omega)
set_option maxRecDepth 20000 in
set_option maxHeartbeats 1000000 in
theorem s_X2_copyFrom {c : Nat → VC} {g : VG} {r la cap r2 la2 cap2 : Nat} {l l2 : List Nat} (h : RowAt c r la cap l) (h2 : RowAt c r2 la2 cap2 l2) (hn1 : r2 ≠ r) (hn2 : r2 ≠ la) (hn3 : la2 ≠ r) (hn4 : la2 ≠ la) (hc : l2.length ≤ cap) : Cm k_X2_copyFrom [.ref r, .ref r2] (g, c) (Ev g (fun c' => RowAt c' r la cap l2 ∧ Fr2 c c' r la)) := by
  obtain ⟨hne, hr, hlen, hcap, hlt, f, hf, hfl⟩ := h
  obtain ⟨hne2, hr2, hlen2, hcap2, hlt2, f2, hf2, hfl2⟩ := h2
  have em : (if nI l2.length < nI cap then nI l2.length else nI cap) = nI l2.length := by
    by_cases q : l2.length < cap
    · rw [if_pos ((nI_ltI (by omega) (by omega)).mpr q)]
    · rw [show l2.length = cap by omega]; exact if_neg (nI_nlt (Nat.le_refl _) (by omega))
  have k1 : ∀ y, (up c r y) la = cI cap f := fun y => by rw [up_n (Ne.symm hne)]; exact hf
  have k2 : ∀ y, (up c r y) r2 = cO 2 [.ref la2, .int (nI l2.length)] := fun y => by rw [up_n hn1]; exact hr2
  have k3 : ∀ y, (up c r y) la2 = cI cap2 f2 := fun y => by rw [up_n hn3]; exact hf2
  have k4 : ∀ y, (up c r y) r = y := fun y => up_s
  refine Cm.in (M := M_X2_copyFrom) (ls := [some (.ref r), some (.ref r2)]) rfl rfl ?_
  refine x_aload_n dX2_copyFrom_0 rfl ?_
  refine x_aload_n dX2_copyFrom_1 rfl ?_
  refine x_getfield dX2_copyFrom_2 rfl (by decide) (by first | assumption | (simp (disch := omega) only [up_s, up_n]; first | assumption | rfl)) rfl ?_
  refine x_aload_n dX2_copyFrom_5 rfl ?_
  refine x_getfield dX2_copyFrom_6 rfl (by decide) (by first | assumption | (simp (disch := omega) only [up_s, up_n]; first | assumption | rfl)) rfl ?_
  refine x_alenI dX2_copyFrom_9 (by first | assumption | (simp (disch := omega) only [up_s, up_n]; first | assumption | rfl)) ?_
  refine x_min dX2_copyFrom_10 rfl ?_
  rw [em]
  refine x_putfield1 dX2_copyFrom_13 rfl (by first | assumption | (simp (disch := omega) only [up_s, up_n]; first | assumption | rfl)) rfl ?_
  refine x_aload_n dX2_copyFrom_16 rfl ?_
  refine x_getfield dX2_copyFrom_17 rfl (by decide) (k2 _) rfl ?_
  refine x_iconst (nI 0) dX2_copyFrom_20 (by decide) ?_
  refine x_aload_n dX2_copyFrom_21 rfl ?_
  refine x_getfield dX2_copyFrom_22 rfl (by decide) (k4 _) rfl ?_
  refine x_iconst (nI 0) dX2_copyFrom_25 (by decide) ?_
  refine x_aload_n dX2_copyFrom_26 rfl ?_
  refine x_getfield dX2_copyFrom_27 rfl (by decide) (k4 _) rfl ?_
  refine x_acopyN dX2_copyFrom_30 rfl (k3 _) (k1 _) (by omega) (by omega) (by omega) (by omega) ?_
  refine x_return dX2_copyFrom_33 ?_
  refine ⟨_, rfl, rfl, ⟨hne, by rw [up_n hne, up_s], hc, hcap, hlt2, va_cpy f2 f 0 0 l2.length, up_s, ?_⟩, ?_⟩
  · intro j hj
    rw [pk_cpy_in (by omega) (by omega), show 0 + (j - 0) = j by omega]; exact hfl2 j hj
  · intro k h1 h2
    rw [up_n h2, up_n h1]
