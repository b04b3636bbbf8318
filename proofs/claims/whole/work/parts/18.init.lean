/-! the constructors -/
def Nx (z k s : Nat) : VG := (z, true, k, s)
def Kp (c c' : Nat → VC) (z : Nat) : Prop := ∀ j, j < z → c' j = c j
set_option maxRecDepth 20000 in
set_option maxHeartbeats 1000000 in
theorem s_X2_init {c : Nat → VC} {z k s r cap : Nat} (hr : c r = cO 2 (dfl 2)) (hz : r < z) (hc : cap ≤ 250) : Cm k_X2_init [.ref r, .int (nI cap)] ((z, true, k, s), c) (Ev (z + 1, true, k + 1, s + cap) (fun c' => RowAt c' r z cap [] ∧ ∀ j, j ≠ r → j ≠ z → c' j = c j)) := by
  refine Cm.in (M := M_X2_init) (ls := [some (.ref r), some (.int (nI cap))]) rfl rfl ?_
  refine x_aload_n dX2_init_0 rfl ?_
  refine x_objinit dX2_init_1 rfl ?_
  refine x_aload_n dX2_init_4 rfl ?_
  refine x_iconst (nI 0) dX2_init_5 (by decide) ?_
  refine x_iload_n dX2_init_6 rfl ?_
  refine x_max dX2_init_7 rfl ?_
  rw [show (if nI 0 < nI cap then nI cap else nI 0) = nI cap by
    by_cases q : 0 < cap
    · rw [if_pos ((nI_ltI (by omega) (by omega)).mpr q)]
    · rw [show cap = 0 by omega]; rfl]
  refine x_newIN dX2_init_10 (by omega) ?_
  refine x_putfield0 dX2_init_12 rfl (by first | assumption | (simp (disch := omega) only [up_s, up_n]; first | assumption | exact hr | rfl)) rfl ?_
  refine x_return dX2_init_15 ?_
  refine ⟨_, rfl, rfl, ⟨by omega, up_s, Nat.zero_le _, hc, fun x q => absurd q List.not_mem_nil, fun _ => 0, ?_, fun i q => absurd q (Nat.not_lt_zero i)⟩, ?_⟩
  · simp (disch := omega) only [up_s, up_n]
  · intro j j1 j2
    simp (disch := omega) only [up_n]
set_option maxRecDepth 20000 in
set_option maxHeartbeats 1000000 in
theorem s_X0_init {c : Nat → VC} {z k s p : Nat} (hr : c p = cO 0 (dfl 0)) (hz : z = p + 1) : Cm k_X0_init [.ref p] ((z, true, k, s), c) (Ev (z + 4, true, k + 4, s + 245) (fun c' => FlatAt c' p [] [] ∧ Fr5 c c' p)) := by
  subst hz
  refine Cm.in (M := M_X0_init) (ls := [some (.ref p)]) rfl rfl ?_
  refine x_aload_n dX0_init_0 rfl ?_
  refine x_objinit dX0_init_1 rfl ?_
  refine x_aload_n dX0_init_4 rfl ?_
  refine x_bipush (nI 80) dX0_init_5 (by decide) ?_
  refine x_newIN dX0_init_7 (by decide) ?_
  refine x_putfield0 dX0_init_9 rfl (by first | assumption | (simp (disch := omega) only [up_s, up_n]; first | assumption | exact hr | rfl)) rfl ?_
  refine x_aload_n dX0_init_12 rfl ?_
  refine x_bipush (nI 80) dX0_init_13 (by decide) ?_
  refine x_newIN dX0_init_15 (by decide) ?_
  refine x_putfield1 dX0_init_17 rfl (by first | assumption | (simp (disch := omega) only [up_s, up_n]; first | assumption | exact hr | rfl)) rfl ?_
  refine x_aload_n dX0_init_20 rfl ?_
  refine x_bipush (nI 80) dX0_init_21 (by decide) ?_
  refine x_newIN dX0_init_23 (by decide) ?_
  refine x_putfield2 dX0_init_25 rfl (by first | assumption | (simp (disch := omega) only [up_s, up_n]; first | assumption | exact hr | rfl)) rfl ?_
  refine x_aload_n dX0_init_28 rfl ?_
  refine x_iconst (nI 5) dX0_init_29 (by decide) ?_
  refine x_newIN dX0_init_30 (by decide) ?_
  refine x_putfield3 dX0_init_32 rfl (by first | assumption | (simp (disch := omega) only [up_s, up_n]; first | assumption | exact hr | rfl)) rfl ?_
  refine x_return dX0_init_35 ?_
  refine ⟨_, rfl, rfl, ⟨fun _ => 0, fun _ => 0, fun _ => 0, fun _ => 0, ?_, ?_, ?_, ?_, ?_, Nat.zero_le _, Nat.zero_le _, fun q z => absurd z List.not_mem_nil, fun q z => absurd z List.not_mem_nil, fun i z => absurd z (Nat.not_lt_zero i), fun i z => absurd z (Nat.not_lt_zero i)⟩, ?_⟩
  · simp (disch := omega) only [up_s, up_n]; rfl
  · simp (disch := omega) only [up_s, up_n]
  · simp (disch := omega) only [up_s, up_n]
  · simp (disch := omega) only [up_s, up_n]
  · simp (disch := omega) only [up_s, up_n]
  · intro j hj
    simp (disch := omega) only [up_n]
def σ0 : Sg := (fun _ => [], fun _ => [], [], 0, nI 3, 0, 0, 0)
/-- the shop as it is being built: the first i boxes, the first j formes -/
def ShopI (c : Nat → VC) (A i j : Nat) : Prop := ObAt c A 0 (nI 3) 0 0 0 ∧ RowAt c (A + 3) (A + 4) 250 [] ∧ (∃ f, c (A + 1) = cR 2 27 f ∧ ∀ b, b < i → f b = some (A + 5 + 2 * b)) ∧ (∀ b, b < i → RowAt c (A + 5 + 2 * b) (A + 6 + 2 * b) 250 []) ∧ (∃ f, c (A + 2) = cR 0 3 f ∧ ∀ b, b < j → f b = some (A + 59 + 5 * b)) ∧ ∀ b, b < j → FormeAt c (A + 59 + 5 * b) []
theorem FormeAt_nil {c : Nat → VC} {p : Nat} (h : FlatAt c p [] []) : FormeAt c p [] := ⟨h, Nat.zero_le _, fun l q => absurd q List.not_mem_nil⟩
theorem ShopI.done {c : Nat → VC} {A : Nat} (h : ShopI c A 27 3) : ShopAt c A σ0 := ⟨h.1, ⟨h.2.2.1, h.2.2.2.1⟩, ⟨h.2.2.2.2.1, h.2.2.2.2.2⟩, h.2.1⟩
set_option maxRecDepth 20000 in
set_option maxHeartbeats 1000000 in
theorem n_X3_init {c : Nat → VC} {A k s : Nat} : ∀ (m j : Nat), j ≤ 3 → 3 < j + m → ∀ c1, ShopI c1 A 27 j → (∀ q, q < A → c1 q = c q) → Xm M_X3_init 72 [some (.ref A), some (.int (nI j))] [] ((A + 59 + 5 * j, true, k + 5 * j, s + 251 * j), c1) (Ev (A + 74, true, k + 15, s + 753) (fun c' => ShopAt c' A σ0 ∧ ∀ q, q < A → c' q = c q)) := by
  intro m
  induction m with
  | zero => intro j z1 z2; omega
  | succ m ih =>
    intro j z1 z2 c1 h hk
    have h9 := h
    obtain ⟨hO, hH, ⟨f1, hf1, hg1⟩, hR, ⟨f2, hf2, hg2⟩, hF⟩ := h
    refine x_iload_n dX3_init_72 rfl ?_
    refine x_iconst (nI 3) dX3_init_73 (by decide) ?_
    refine x_icmp_ge 96 dX3_init_74 (by decide) (fun c74 => ?_) (fun c74 => ?_)
    · refine x_return dX3_init_96 ?_
      have e1 : j = 3 := by have := (nI_leI (by omega) (by omega)).mp c74; omega
      subst e1
      exact ⟨c1, rfl, rfl, h9.done, hk⟩
    · have hj : j < 3 := by
        by_cases z9 : j < 3
        · exact z9
        · exact absurd ((nI_leI (by omega) (by omega)).mpr (by omega)) c74
      refine x_aload_n dX3_init_77 rfl ?_
      refine x_getfield dX3_init_78 rfl (by decide) (by first | assumption | (simp (disch := omega) only [up_s, up_n]; first | assumption | exact hr | rfl)) rfl ?_
      refine x_iload_n dX3_init_81 rfl ?_
      refine x_new dX3_init_82 rfl ?_
      refine x_dup dX3_init_85 rfl ?_
      refine x_ci1 dX3_init_86 rfl (by first | assumption | (simp (disch := omega) only [up_s, up_n]; first | assumption | exact hr | rfl)) rfl ?_
      refine Cm.ev (s_X0_init up_s (by omega)) (fun c2 q2 => ?_)
      have hf9 : c2 (A + 2) = cR 0 3 f2 := by rw [q2.2 _ (by omega), up_n (by omega)]; exact hf2
      have hp9 := q2.1.choose_spec.choose_spec.choose_spec.choose_spec.1
      refine x_aastoreN dX3_init_89 hf9 hp9 hj (by omega) ?_
      refine x_iincN_1 (1) dX3_init_90 (by decide) rfl ?_
      refine x_goto 72 dX3_init_93 (by decide) ?_
      refine ih (j + 1) (by omega) (by omega) _ ?_ ?_
      · refine ⟨?_, ?_, ⟨f1, ?_, hg1⟩, ?_, ⟨_, up_s, ?_⟩, ?_⟩
        · simp (disch := omega) only [ObAt, up_n]
          rw [q2.2 _ (by omega)]
          simp (disch := omega) only [up_n]; exact hO
        · exact hH.fr (by simp (disch := omega) only [up_n]; rw [q2.2 _ (by omega)]; simp (disch := omega) only [up_n]) (by simp (disch := omega) only [up_n]; rw [q2.2 _ (by omega)]; simp (disch := omega) only [up_n])
        · simp (disch := omega) only [up_n]
          rw [q2.2 _ (by omega)]
          simp (disch := omega) only [up_n]; exact hf1
        · intro b hb
          exact (hR b hb).fr (by simp (disch := omega) only [up_n]; rw [q2.2 _ (by omega)]; simp (disch := omega) only [up_n]) (by simp (disch := omega) only [up_n]; rw [q2.2 _ (by omega)]; simp (disch := omega) only [up_n])
        · intro b hb
          by_cases e : b = j
          · subst e; rw [vup_s]
          · rw [vup_n e]; exact hg2 b (by omega)
        · intro b hb
          by_cases e : b = j
          · subst e
            exact (FormeAt_nil q2.1).fr (fun q z3 z4 => up_n (by omega))
          · exact (hF b (by omega)).fr (fun q z3 z4 => by simp (disch := omega) only [up_n]; rw [q2.2 _ (by omega)]; simp (disch := omega) only [up_n])
      · intro q hq
        simp (disch := omega) only [up_n]
        rw [q2.2 _ (by omega)]
        simp (disch := omega) only [up_n]; exact hk q hq
set_option maxRecDepth 20000 in
set_option maxHeartbeats 1000000 in
theorem l_X3_init {c : Nat → VC} {A k s : Nat} : ∀ (m i : Nat), i ≤ 27 → 27 < i + m → ∀ c1, ShopI c1 A i 0 → (∃ f, c1 (A + 2) = cR 0 3 f) → (∀ q, q < A → c1 q = c q) → Xm M_X3_init 42 [some (.ref A), some (.int (nI i))] [] ((A + 5 + 2 * i, true, k + 2 * i, s + 252 * i), c1) (Ev (A + 74, true, k + 69, s + 7557) (fun c' => ShopAt c' A σ0 ∧ ∀ q, q < A → c' q = c q)) := by
  intro m
  induction m with
  | zero => intro i z1 z2; omega
  | succ m ih =>
    intro i z1 z2 c1 h hff hk
    obtain ⟨hO, hH, ⟨f1, hf1, hg1⟩, hR, ⟨f2, hf2, hg2⟩, hF⟩ := id h
    refine x_iload_n dX3_init_42 rfl ?_
    refine x_bipush (nI 27) dX3_init_43 (by decide) ?_
    refine x_icmp_ge 70 dX3_init_45 (by decide) (fun c45 => ?_) (fun c45 => ?_)
    · refine x_iconst (nI 0) dX3_init_70 (by decide) ?_
      refine x_istore_n1 dX3_init_71 rfl ?_
      have e1 : i = 27 := by have := (nI_leI (by omega) (by omega)).mp c45; omega
      subst e1
      exact n_X3_init (k := k + 54) (s := s + 6804) 4 0 (by omega) (by omega) c1 h hk
    · have hi : i < 27 := by
        by_cases z9 : i < 27
        · exact z9
        · exact absurd ((nI_leI (by omega) (by omega)).mpr (by omega)) c45
      refine x_aload_n dX3_init_48 rfl ?_
      refine x_getfield dX3_init_49 rfl (by decide) (by first | assumption | (simp (disch := omega) only [up_s, up_n]; first | assumption | exact hr | rfl)) rfl ?_
      refine x_iload_n dX3_init_52 rfl ?_
      refine x_new dX3_init_53 rfl ?_
      refine x_dup dX3_init_56 rfl ?_
      refine x_sipush (nI 250) dX3_init_57 (by decide) ?_
      refine x_ci2 dX3_init_60 rfl (by first | assumption | (simp (disch := omega) only [up_s, up_n]; first | assumption | exact hr | rfl)) rfl ?_
      refine Cm.ev (s_X2_init up_s (by omega) (by omega)) (fun c2 q2 => ?_)
      have hf9 : c2 (A + 1) = cR 2 27 f1 := by rw [q2.2 _ (by omega) (by omega), up_n (by omega)]; exact hf1
      have hp9 := q2.1.2.1
      refine x_aastoreN dX3_init_63 hf9 hp9 hi (by omega) ?_
      refine x_iincN_1 (1) dX3_init_64 (by decide) rfl ?_
      refine x_goto 42 dX3_init_67 (by decide) ?_
      refine ih (i + 1) (by omega) (by omega) _ ?_ ⟨f2, ?_⟩ ?_
      · refine ⟨?_, ?_, ⟨_, up_s, ?_⟩, ?_, ⟨f2, ?_, hg2⟩, ?_⟩
        · simp (disch := omega) only [ObAt, up_n]
          rw [q2.2 _ (by omega) (by omega)]
          simp (disch := omega) only [up_n]; exact hO
        · exact hH.fr (by simp (disch := omega) only [up_n]; rw [q2.2 _ (by omega) (by omega)]; simp (disch := omega) only [up_n]) (by simp (disch := omega) only [up_n]; rw [q2.2 _ (by omega) (by omega)]; simp (disch := omega) only [up_n])
        · intro b hb
          by_cases e : b = i
          · subst e; rw [vup_s]
          · rw [vup_n e]; exact hg1 b (by omega)
        · intro b hb
          by_cases e : b = i
          · subst e
            have := q2.1.fr (c' := up c2 (A + 1) (cR 2 27 (va_up f1 b (some (A + 5 + 2 * b))))) (up_n (by omega)) (up_n (by omega))
            rw [show A + 6 + 2 * b = A + 5 + 2 * b + 1 by omega]
            exact this
          · exact (hR b (by omega)).fr (by simp (disch := omega) only [up_n]; rw [q2.2 _ (by omega) (by omega)]; simp (disch := omega) only [up_n]) (by simp (disch := omega) only [up_n]; rw [q2.2 _ (by omega) (by omega)]; simp (disch := omega) only [up_n])
        · simp (disch := omega) only [up_n]
          rw [q2.2 _ (by omega) (by omega)]
          simp (disch := omega) only [up_n]; exact hf2
        · intro b hb; omega
      · simp (disch := omega) only [up_n]
        rw [q2.2 _ (by omega) (by omega)]
        simp (disch := omega) only [up_n]; exact hf2
      · intro q hq
        simp (disch := omega) only [up_n]
        rw [q2.2 _ (by omega) (by omega)]
        simp (disch := omega) only [up_n]; exact hk q hq
set_option maxRecDepth 20000 in
set_option maxHeartbeats 1000000 in
theorem s_X3_init {c : Nat → VC} {z k s A : Nat} (hr : c A = cO 3 (dfl 3)) (hz : z = A + 1) : Cm k_X3_init [.ref A] ((z, true, k, s), c) (Ev (A + 74, true, k + 73, s + 7839) (fun c' => ShopAt c' A σ0 ∧ ∀ q, q < A → c' q = c q)) := by
  subst hz
  refine Cm.in (M := M_X3_init) (ls := [some (.ref A), none]) rfl rfl ?_
  refine x_aload_n dX3_init_0 rfl ?_
  refine x_objinit dX3_init_1 rfl ?_
  refine x_aload_n dX3_init_4 rfl ?_
  refine x_bipush (nI 27) dX3_init_5 (by decide) ?_
  refine x_newRN dX3_init_7 rfl (by decide) ?_
  refine x_putfield0 dX3_init_10 rfl (by first | assumption | (simp (disch := omega) only [up_s, up_n]; first | assumption | exact hr | rfl)) rfl ?_
  refine x_aload_n dX3_init_13 rfl ?_
  refine x_iconst (nI 3) dX3_init_14 (by decide) ?_
  refine x_newRN dX3_init_15 rfl (by decide) ?_
  refine x_putfield1 dX3_init_18 rfl (by first | assumption | (simp (disch := omega) only [up_s, up_n]; first | assumption | exact hr | rfl)) rfl ?_
  refine x_aload_n dX3_init_21 rfl ?_
  refine x_new dX3_init_22 rfl ?_
  refine x_dup dX3_init_25 rfl ?_
  refine x_sipush (nI 250) dX3_init_26 (by decide) ?_
  refine x_ci2 dX3_init_29 rfl (by first | assumption | (simp (disch := omega) only [up_s, up_n]; first | assumption | exact hr | rfl)) rfl ?_
  refine Cm.ev (s_X2_init up_s (by omega) (by omega)) (fun c2 q2 => ?_)
  have hA9 : c2 A = cO 3 [.ref (A + 1), .ref (A + 2), .null, .int 0, .int 0, .int 0, .int 0, .int 0] := by
    rw [q2.2 _ (by omega) (by omega)]
    simp (disch := omega) only [up_s, up_n]; rfl
  refine x_putfield2 dX3_init_32 rfl (by first | assumption | (simp (disch := omega) only [up_s, up_n]; first | assumption | exact hr | rfl)) rfl ?_
  refine x_aload_n dX3_init_35 rfl ?_
  refine x_iconst (nI 3) dX3_init_36 (by decide) ?_
  refine x_putfield4 dX3_init_37 rfl (by first | assumption | (simp (disch := omega) only [up_s, up_n]; first | assumption | exact hr | rfl)) rfl ?_
  refine x_iconst (nI 0) dX3_init_40 (by decide) ?_
  refine x_istore_n1 dX3_init_41 rfl ?_
  refine l_X3_init (k := k + 4) (s := s + 282) 28 0 (by omega) (by omega) _ ⟨?_, ?_, ⟨fun _ => none, ?_, fun b hb => by omega⟩, fun b hb => by omega, ⟨fun _ => none, ?_, fun b hb => by omega⟩, fun b hb => by omega⟩ ⟨fun _ => none, ?_⟩ ?_
  · simp (disch := omega) only [ObAt, up_s] <;> rfl
  · exact q2.1.fr (by simp (disch := omega) only [up_n]) (by simp (disch := omega) only [up_n])
  · simp (disch := omega) only [up_n]
    rw [q2.2 _ (by omega) (by omega)]
    simp (disch := omega) only [up_s, up_n]
  · simp (disch := omega) only [up_n]
    rw [q2.2 _ (by omega) (by omega)]
    simp (disch := omega) only [up_s, up_n]
  · simp (disch := omega) only [up_n]
    rw [q2.2 _ (by omega) (by omega)]
    simp (disch := omega) only [up_s, up_n]
  · intro q hq
    simp (disch := omega) only [up_n]
    rw [q2.2 _ (by omega) (by omega)]
    simp (disch := omega) only [up_n]
def HistI (c : Nat → VC) (H i : Nat) : Prop := c H = cO 1 [.ref (H + 1), .int (nI 0)] ∧ (∃ f, c (H + 1) = cR 3 4 f ∧ ∀ b, b < i → f b = some (H + 2 + 74 * b)) ∧ ∀ b, b < i → ShopAt c (H + 2 + 74 * b) σ0
theorem HistI.done {c : Nat → VC} {H : Nat} (h : HistI c H 4) : HistAt c H [] := by
  obtain ⟨h1, ⟨f, h2, h3⟩, h4⟩ := h
  exact ⟨fun i => H + 2 + 74 * i, f, ⟨fun i hi => ⟨i, hi, rfl⟩, fun i j _ _ e => by have e : H + 2 + 74 * i = H + 2 + 74 * j := e; omega⟩, h1, h2, h3, Nat.zero_le _, fun i hi => absurd hi (Nat.not_lt_zero i), fun i hi => ⟨σ0, h4 i hi⟩⟩
set_option maxRecDepth 20000 in
set_option maxHeartbeats 1000000 in
theorem l_X1_init {c : Nat → VC} {H k s : Nat} : ∀ (m i : Nat), i ≤ 4 → 4 < i + m → ∀ c1, HistI c1 H i → (∀ q, q < H → c1 q = c q) → Xm M_X1_init 14 [some (.ref H), some (.int (nI i))] [] ((H + 2 + 74 * i, true, k + 74 * i, s + 7847 * i), c1) (Ev (H + 298, true, k + 296, s + 31388) (fun c' => HistAt c' H [] ∧ ∀ q, q < H → c' q = c q)) := by
  intro m
  induction m with
  | zero => intro i z1 z2; omega
  | succ m ih =>
    intro i z1 z2 c1 h hk
    obtain ⟨hH, ⟨f1, hf1, hg1⟩, hR⟩ := id h
    refine x_iload_n dX1_init_14 rfl ?_
    refine x_iconst (nI 4) dX1_init_15 (by decide) ?_
    refine x_icmp_ge 38 dX1_init_16 (by decide) (fun c16 => ?_) (fun c16 => ?_)
    · refine x_return dX1_init_38 ?_
      have e1 : i = 4 := by have := (nI_leI (by omega) (by omega)).mp c16; omega
      subst e1
      exact ⟨c1, rfl, rfl, h.done, hk⟩
    · have hi : i < 4 := by
        by_cases z9 : i < 4
        · exact z9
        · exact absurd ((nI_leI (by omega) (by omega)).mpr (by omega)) c16
      refine x_aload_n dX1_init_19 rfl ?_
      refine x_getfield dX1_init_20 rfl (by decide) (by first | assumption | (simp (disch := omega) only [up_s, up_n]; first | assumption | exact hr | rfl)) rfl ?_
      refine x_iload_n dX1_init_23 rfl ?_
      refine x_new dX1_init_24 rfl ?_
      refine x_dup dX1_init_27 rfl ?_
      refine x_ci1 dX1_init_28 rfl (by first | assumption | (simp (disch := omega) only [up_s, up_n]; first | assumption | exact hr | rfl)) rfl ?_
      refine Cm.ev (s_X3_init up_s rfl) (fun c2 q2 => ?_)
      have hf9 : c2 (H + 1) = cR 3 4 f1 := by rw [q2.2 _ (by omega), up_n (by omega)]; exact hf1
      have hp9 := q2.1.1
      rw [show H + 2 + 74 * i + 74 = H + 2 + 74 * (i + 1) by omega, show k + 74 * i + 1 + 73 = k + 74 * (i + 1) by omega, show s + 7847 * i + (dfl 3).length + 7839 = s + 7847 * (i + 1) by show s + 7847 * i + 8 + 7839 = _; omega]
      refine x_aastoreN dX1_init_31 hf9 hp9 hi (by omega) ?_
      refine x_iincN_1 (1) dX1_init_32 (by decide) rfl ?_
      refine x_goto 14 dX1_init_35 (by decide) ?_
      refine ih (i + 1) (by omega) (by omega) _ ⟨?_, ⟨_, up_s, ?_⟩, ?_⟩ ?_
      · simp (disch := omega) only [up_n]
        rw [q2.2 _ (by omega)]
        simp (disch := omega) only [up_n]; exact hH
      · intro b hb
        by_cases e : b = i
        · subst e; rw [vup_s]
        · rw [vup_n e]; exact hg1 b (by omega)
      · intro b hb
        by_cases e : b = i
        · subst e
          exact q2.1.fr (fun q z3 z4 => up_n (by omega))
        · exact (hR b (by omega)).fr (fun q z3 z4 => by simp (disch := omega) only [up_n]; rw [q2.2 _ (by omega)]; simp (disch := omega) only [up_n])
      · intro q hq
        simp (disch := omega) only [up_n]
        rw [q2.2 _ (by omega)]
        simp (disch := omega) only [up_n]; exact hk q hq
set_option maxRecDepth 20000 in
set_option maxHeartbeats 1000000 in
theorem s_X1_init {c : Nat → VC} {z k s H : Nat} (hr : c H = cO 1 (dfl 1)) (hz : z = H + 1) : Cm k_X1_init [.ref H] ((z, true, k, s), c) (Ev (H + 298, true, k + 297, s + 31392) (fun c' => HistAt c' H [] ∧ ∀ q, q < H → c' q = c q)) := by
  subst hz
  refine Cm.in (M := M_X1_init) (ls := [some (.ref H), none]) rfl rfl ?_
  refine x_aload_n dX1_init_0 rfl ?_
  refine x_objinit dX1_init_1 rfl ?_
  refine x_aload_n dX1_init_4 rfl ?_
  refine x_iconst (nI 4) dX1_init_5 (by decide) ?_
  refine x_newRN dX1_init_6 rfl (by decide) ?_
  refine x_putfield0 dX1_init_9 rfl (by first | assumption | (simp (disch := omega) only [up_s, up_n]; first | assumption | exact hr | rfl)) rfl ?_
  refine x_iconst (nI 0) dX1_init_12 (by decide) ?_
  refine x_istore_n1 dX1_init_13 rfl ?_
  refine l_X1_init (k := k + 1) (s := s + 4) 5 0 (by omega) (by omega) _ ⟨?_, ⟨fun _ => none, ?_, fun b hb => by omega⟩, fun b hb => by omega⟩ ?_
  · simp (disch := omega) only [up_s, up_n]; rfl
  · simp (disch := omega) only [up_s, up_n]
  · intro q hq
    simp (disch := omega) only [up_n]
