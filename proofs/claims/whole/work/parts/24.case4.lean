/-! THE CASE: setting, what-ifs, text, undo, digest -/
theorem ShopAt.bt {c c' : Nat → VC} {A p : Nat} {σ : Sg} {a b d e f : Int32} {B' : Bx} (h : ShopAt c A σ) (hO : ObAt c' A a b d e f) (hB : BoxAt c' A B') (hp : p + 5 ≤ A ∨ A + 74 ≤ p) (hf : FrT c c' A p) : ShopAt c' A (B', σ.2.1, σ.2.2.1, a, b, d, e, f) :=
  ⟨hO, hB, h.2.2.1.fr (hf _ (by omega) (by omega) (by omega)) (fun k z1 z2 => hf k (by omega) (by omega) (by omega)), h.2.2.2.fr (hf _ (by omega) (by omega) (by omega)) (hf _ (by omega) (by omega) (by omega))⟩
/-- what the trial says: the places stand in its forme then, the boxes that are left in its shop -/
def TG (T : List Nat) (τ : Sg) (v : Value) (c' : Nat → VC) : Prop := match goesM T τ.1 with
  | some r => v = .int (nI 1) ∧ (∃ m, ShopAt c' 377 (r.1, τ.2.1, τ.2.2.1, n1 τ, n2 τ, n3 τ, m, n5 τ)) ∧ FlatAt c' 451 r.2 [r.2.length]
  | none => v = .int (nI 0)
set_option maxRecDepth 20000 in
set_option maxHeartbeats 2000000 in
theorem s_X4_trialGoes {c : Nat → VC} {g : VG} {S : St} {τ : Sg} (h : CaseAt c S) (hτ : ShopAt c 377 τ) : Cm k_X4_trialGoes [.ref 2] (g, c) (Ei g (fun v c' => TG S.2.1 τ v c' ∧ CaseAt c' S ∧ FrC c c')) := by
  have hh2 := h.1
  have hh3 := h.2.1.1
  have hhs := h.2.2.2.1.choose_spec.choose_spec.2.1
  have hht := h.2.2.1
  have htk := hht.2.1
  have htl := hht.2.2.1
  obtain ⟨pl0, es0, hF0⟩ := h.2.2.2.2.2.1
  have hp0 := hF0.choose_spec.choose_spec.choose_spec.choose_spec.1
  refine Cm.in (M := M_X4_trialGoes) (ls := [some (.ref 2)]) rfl rfl ?_
  refine x_aload_n dX4_trialGoes_0 rfl ?_
  refine x_getfield dX4_trialGoes_1 rfl (by decide) (by first | assumption | (simp (disch := omega) only [up_s, up_n]; first | assumption | rfl)) rfl ?_
  refine x_cv1 dX4_trialGoes_4 rfl (by first | assumption | (simp (disch := omega) only [up_s, up_n]; first | assumption | rfl)) rfl ?_
  refine Cm.ev (s_X0_clear hF0) (fun c1 q1 => ?_)
  obtain ⟨q11, q12⟩ := q1
  have h1 : CaseAt c1 S := h.trial ⟨τ, hτ.fr (fun k z1 z2 => q12 k (by omega))⟩ ⟨[], [], q11⟩ (fun k hk => q12 k (by omega))
  have hτ1 := hτ.fr (c' := c1) (fun k z1 z2 => q12 k (by omega))
  have hh21 := h1.1
  have hht1 := h1.2.2.1
  have htk1 := hht1.2.1
  have hot1 := hτ1.1
  refine x_aload_n dX4_trialGoes_7 rfl ?_
  refine x_getfield dX4_trialGoes_8 rfl (by decide) (by first | assumption | (simp (disch := omega) only [up_s, up_n]; first | assumption | rfl)) rfl ?_
  refine x_cv1 dX4_trialGoes_11 rfl (by first | assumption | (simp (disch := omega) only [up_s, up_n]; first | assumption | rfl)) rfl ?_
  refine Cm.rt (s_X2_size hht1) ?_
  refine x_if_le 39 dX4_trialGoes_14 (by decide) (fun c14 => ?_) (fun c14 => ?_)
  · have hem : S.2.1 = [] := List.eq_nil_of_length_eq_zero (by
      have := (nI_leI (b := 0) (by omega) (by omega)).mp c14
      omega)
    have hgo : goesM S.2.1 τ.1 = none := by unfold goesM; rw [if_pos hem]
    refine x_iconst (nI 0) dX4_trialGoes_39 (by decide) ?_
    refine x_ireturn dX4_trialGoes_40 ?_
    first
      | (refine ⟨_, c1, rfl, rfl, ?_, h1, fun k hk => q12 k (by omega)⟩
         unfold TG
         rw [hgo])
      | (refine ⟨_, c2, rfl, rfl, ?_, h2, hf2⟩
         unfold TG
         rw [hgo]
         first
           | rw [hw3 hw0]
           | (obtain ⟨r, hr1, hr2, hr3⟩ := hw2 hw9
              rw [hr1]
              exact ⟨rfl, hr2, hr3⟩))
  · refine x_aload_n dX4_trialGoes_17 rfl ?_
    refine x_getfield dX4_trialGoes_18 rfl (by decide) (by first | assumption | (simp (disch := omega) only [up_s, up_n]; first | assumption | rfl)) rfl ?_
    refine x_aload_n dX4_trialGoes_21 rfl ?_
    refine x_getfield dX4_trialGoes_22 rfl (by decide) (by first | assumption | (simp (disch := omega) only [up_s, up_n]; first | assumption | rfl)) rfl ?_
    refine x_aload_n dX4_trialGoes_25 rfl ?_
    refine x_getfield dX4_trialGoes_26 rfl (by decide) (by first | assumption | (simp (disch := omega) only [up_s, up_n]; first | assumption | rfl)) rfl ?_
    refine x_cv3 dX4_trialGoes_29 rfl (by first | assumption | (simp (disch := omega) only [up_s, up_n]; first | assumption | rfl)) rfl ?_
    have hne : ¬ S.2.1 = [] := fun z => c14 (by rw [z]; exact Int32.le_refl _)
    have hgo : goesM S.2.1 τ.1 = setT S.2.1 τ.1 := by unfold goesM; rw [if_neg hne]
    refine Cm.ei (s_X3_setText (p := 451) (tr := 77) (tla := 78) ⟨by omega, by omega, by omega⟩ ⟨by omega, by omega, by omega, by omega⟩ hht1 h1.2.2.2.2.2.2 (by decide) hot1 hτ1.2.1 q11 (by simp; omega)) (fun v c2 q2 => ?_)
    obtain ⟨q21, q22⟩ := q2
    have hfr : ∀ k, k < 377 ∨ 456 ≤ k → c2 k = c1 k := fun k hk => q22 k (by omega) (by omega) (by omega)
    obtain ⟨w, hw⟩ : ∃ w : Nat, v = .int (nI w) ∧ w ≤ 1 ∧ (w = 1 → ∃ r, setT S.2.1 τ.1 = some r ∧ (∃ m, ShopAt c2 377 (r.1, τ.2.1, τ.2.2.1, n1 τ, n2 τ, n3 τ, m, n5 τ)) ∧ FlatAt c2 451 r.2 [r.2.length]) ∧ (w = 0 → setT S.2.1 τ.1 = none) ∧ (∃ σ, ShopAt c2 377 σ) ∧ ∃ pl es, FlatAt c2 451 pl es := by
      unfold SetP at q21
      cases e : setT S.2.1 τ.1 with
      | none =>
        rw [e] at q21
        obtain ⟨p1, p2, ⟨B', p3⟩, pl', p4⟩ := q21
        exact ⟨0, p1, by omega, fun z => by omega, fun _ => rfl, ⟨_, hτ1.bt p2 p3 (by omega) q22⟩, pl', _, p4⟩
      | some r =>
        rw [e] at q21
        obtain ⟨B', ps⟩ := r
        obtain ⟨p1, p2, p3, p4⟩ := q21
        have p5 := hτ1.bt p2 p3 (by omega) q22
        exact ⟨1, p1, Nat.le_refl _, fun _ => ⟨(B', ps), rfl, ⟨_, p5⟩, p4⟩, fun z => by omega, ⟨_, p5⟩, _, _, p4⟩
    obtain ⟨rfl, hw1, hw2, hw3, hw4, hw5⟩ := hw
    have h2 : CaseAt c2 S := h1.trial hw4 hw5 hfr
    have hf2 : FrC c c2 := fun k hk => (hfr k (by omega)).trans (q12 k (by omega))
    refine x_if_eq 39 dX4_trialGoes_32 (by decide) (fun c32 => ?_) (fun c32 => ?_)
    · have hw0 : w = 0 := (nI_eq (b := 0) (by omega) (by omega)).mp c32
      refine x_iconst (nI 0) dX4_trialGoes_39 (by decide) ?_
      refine x_ireturn dX4_trialGoes_40 ?_
      first
        | (refine ⟨_, c1, rfl, rfl, ?_, h1, fun k hk => q12 k (by omega)⟩
           unfold TG
           rw [hgo])
        | (refine ⟨_, c2, rfl, rfl, ?_, h2, hf2⟩
           unfold TG
           rw [hgo]
           first
             | rw [hw3 hw0]
             | (obtain ⟨r, hr1, hr2, hr3⟩ := hw2 hw9
                rw [hr1]
                exact ⟨rfl, hr2, hr3⟩))
    · have hw9 : w = 1 := by
        have : ¬ w = 0 := fun z => c32 (by rw [z]; rfl)
        omega
      refine x_iconst (nI 1) dX4_trialGoes_35 (by decide) ?_
      refine x_goto 40 dX4_trialGoes_36 (by decide) ?_
      refine x_ireturn dX4_trialGoes_40 ?_
      first
        | (refine ⟨_, c1, rfl, rfl, ?_, h1, fun k hk => q12 k (by omega)⟩
           unfold TG
           rw [hgo])
        | (refine ⟨_, c2, rfl, rfl, ?_, h2, hf2⟩
           unfold TG
           rw [hgo]
           first
             | rw [hw3 hw0]
             | (obtain ⟨r, hr1, hr2, hr3⟩ := hw2 hw9
                rw [hr1]
                exact ⟨rfl, hr2, hr3⟩))
set_option maxRecDepth 20000 in
set_option maxHeartbeats 2000000 in
theorem s_X4_settingGoes {c : Nat → VC} {g : VG} {S : St} (h : CaseAt c S) : Cm k_X4_settingGoes [.ref 2] (g, c) (Ei g (fun v c' => TG S.2.1 S.1 v c' ∧ CaseAt c' S ∧ FrC c c')) := by
  have hh2 := h.1
  have hh3 := h.2.1.1
  have hhs := h.2.2.2.1.choose_spec.choose_spec.2.1
  have hht := h.2.2.1
  have htk := hht.2.1
  have htl := hht.2.2.1
  obtain ⟨σt, hσt⟩ := h.2.2.2.2.1
  have hot := hσt.1
  refine Cm.in (M := M_X4_settingGoes) (ls := [some (.ref 2)]) rfl rfl ?_
  refine x_aload_n dX4_settingGoes_0 rfl ?_
  refine x_getfield dX4_settingGoes_1 rfl (by decide) (by first | assumption | (simp (disch := omega) only [up_s, up_n]; first | assumption | rfl)) rfl ?_
  refine x_aload_n dX4_settingGoes_4 rfl ?_
  refine x_getfield dX4_settingGoes_5 rfl (by decide) (by first | assumption | (simp (disch := omega) only [up_s, up_n]; first | assumption | rfl)) rfl ?_
  refine x_cv2 dX4_settingGoes_8 rfl (by first | assumption | (simp (disch := omega) only [up_s, up_n]; first | assumption | rfl)) rfl ?_
  refine Cm.ev (s_X3_copyFrom hσt h.2.1 (by omega)) (fun c1 q1 => ?_)
  obtain ⟨q11, q12⟩ := q1
  have h1 : CaseAt c1 S := h.trial ⟨_, q11⟩ (by
    obtain ⟨pl, es, h6⟩ := h.2.2.2.2.2.1
    exact ⟨pl, es, h6.fr (fun k z1 z2 => q12 k (by omega))⟩) (fun k hk => q12 k (by omega))
  have hh21 := h1.1
  refine x_aload_n dX4_settingGoes_11 rfl ?_
  refine x_cv1 dX4_settingGoes_12 rfl (by first | assumption | (simp (disch := omega) only [up_s, up_n]; first | assumption | rfl)) rfl ?_
  refine Cm.ei (s_X4_trialGoes h1 q11) (fun v c2 q2 => ?_)
  obtain ⟨q21, q22, q23⟩ := q2
  have hv : ∃ w : Int32, v = .int w ∧ (w = nI 0 ∨ w = nI 1) := by
    unfold TG at q21
    cases e : goesM S.2.1 S.1.1 with
    | none => rw [e] at q21; exact ⟨_, q21, Or.inl rfl⟩
    | some r => rw [e] at q21; exact ⟨_, q21.1, Or.inr rfl⟩
  obtain ⟨w, rfl, hw01⟩ := hv
  refine x_ireturn dX4_settingGoes_15 ?_
  exact ⟨_, c2, rfl, rfl, q21, q22, FrC.tr (fun k hk => q12 k (by omega)) q23⟩
set_option maxRecDepth 20000 in
set_option maxHeartbeats 2000000 in
theorem s_X4_errorsIfSet {c : Nat → VC} {z k s : Nat} {x : Bool} {S : St} (h : CaseAt c S) : Cm k_X4_errorsIfSet [.ref 2] ((z, x, k, s), c) (CQ z x k s c (Sum.inl (.int (errIfV S))) S) := by
  have hh2 := h.1
  refine Cm.in (M := M_X4_errorsIfSet) (ls := [some (.ref 2)]) rfl rfl ?_
  refine x_aload_n dX4_errorsIfSet_0 rfl ?_
  refine x_cv1 dX4_errorsIfSet_1 rfl (by first | assumption | (simp (disch := omega) only [up_s, up_n]; first | assumption | rfl)) rfl ?_
  refine Cm.ei (s_X4_settingGoes h) (fun v c1 q1 => ?_)
  obtain ⟨q11, h1, hf1⟩ := q1
  have hh21 := h1.1
  unfold TG at q11
  obtain ⟨w, hw⟩ : ∃ w : Nat, v = .int (nI w) ∧ w ≤ 1 ∧ (w = 1 → ∃ r, goesM S.2.1 S.1.1 = some r ∧ FlatAt c1 451 r.2 [r.2.length]) ∧ (w = 0 → goesM S.2.1 S.1.1 = none) := by
    cases e : goesM S.2.1 S.1.1 with
    | none => rw [e] at q11; exact ⟨0, q11, by omega, fun z => by omega, fun _ => rfl⟩
    | some r => rw [e] at q11; exact ⟨1, q11.1, Nat.le_refl _, fun _ => ⟨r, rfl, q11.2.2⟩, fun z => by omega⟩
  obtain ⟨rfl, hw1, hw2, hw3⟩ := hw
  refine x_if_eq 17 dX4_errorsIfSet_4 (by decide) (fun c4 => ?_) (fun c4 => ?_)
  · have hw0 : w = 0 := (nI_eq (b := 0) (by omega) (by omega)).mp c4
    have hv9 : errIfV S = -1 := by unfold errIfV; rw [hw3 hw0]
    refine x_iconst (-1) dX4_errorsIfSet_17 (by decide) ?_
    refine x_ireturn dX4_errorsIfSet_18 ?_
    exact ⟨c1, h1, hf1, by rw [hv9], rfl⟩
  · have hw9 : w = 1 := by
      have : ¬ w = 0 := fun z => c4 (by rw [z]; rfl)
      omega
    obtain ⟨r, hw91, hw92⟩ := hw2 hw9
    have hp9 := hw92.choose_spec.choose_spec.choose_spec.choose_spec.1
    have hv9 : errIfV S = nI (r.2.countP wrg) := by unfold errIfV; rw [hw91]
    refine x_aload_n dX4_errorsIfSet_7 rfl ?_
    refine x_getfield dX4_errorsIfSet_8 rfl (by decide) (by first | assumption | (simp (disch := omega) only [up_s, up_n]; first | assumption | rfl)) rfl ?_
    refine x_cv1 dX4_errorsIfSet_11 rfl (by first | assumption | (simp (disch := omega) only [up_s, up_n]; first | assumption | rfl)) rfl ?_
    refine Cm.rt (s_X0_errors hw92) ?_
    refine x_goto 18 dX4_errorsIfSet_14 (by decide) ?_
    refine x_ireturn dX4_errorsIfSet_18 ?_
    exact ⟨c1, h1, hf1, by rw [hv9], rfl⟩
set_option maxRecDepth 20000 in
set_option maxHeartbeats 2000000 in
theorem s_X4_turnedIfSet {c : Nat → VC} {z k s : Nat} {x : Bool} {S : St} (h : CaseAt c S) : Cm k_X4_turnedIfSet [.ref 2] ((z, x, k, s), c) (CQ z x k s c (Sum.inl (.int (turIfV S))) S) := by
  have hh2 := h.1
  refine Cm.in (M := M_X4_turnedIfSet) (ls := [some (.ref 2)]) rfl rfl ?_
  refine x_aload_n dX4_turnedIfSet_0 rfl ?_
  refine x_cv1 dX4_turnedIfSet_1 rfl (by first | assumption | (simp (disch := omega) only [up_s, up_n]; first | assumption | rfl)) rfl ?_
  refine Cm.ei (s_X4_settingGoes h) (fun v c1 q1 => ?_)
  obtain ⟨q11, h1, hf1⟩ := q1
  have hh21 := h1.1
  unfold TG at q11
  obtain ⟨w, hw⟩ : ∃ w : Nat, v = .int (nI w) ∧ w ≤ 1 ∧ (w = 1 → ∃ r, goesM S.2.1 S.1.1 = some r ∧ FlatAt c1 451 r.2 [r.2.length]) ∧ (w = 0 → goesM S.2.1 S.1.1 = none) := by
    cases e : goesM S.2.1 S.1.1 with
    | none => rw [e] at q11; exact ⟨0, q11, by omega, fun z => by omega, fun _ => rfl⟩
    | some r => rw [e] at q11; exact ⟨1, q11.1, Nat.le_refl _, fun _ => ⟨r, rfl, q11.2.2⟩, fun z => by omega⟩
  obtain ⟨rfl, hw1, hw2, hw3⟩ := hw
  refine x_if_eq 17 dX4_turnedIfSet_4 (by decide) (fun c4 => ?_) (fun c4 => ?_)
  · have hw0 : w = 0 := (nI_eq (b := 0) (by omega) (by omega)).mp c4
    have hv9 : turIfV S = -1 := by unfold turIfV; rw [hw3 hw0]
    refine x_iconst (-1) dX4_turnedIfSet_17 (by decide) ?_
    refine x_ireturn dX4_turnedIfSet_18 ?_
    exact ⟨c1, h1, hf1, by rw [hv9], rfl⟩
  · have hw9 : w = 1 := by
      have : ¬ w = 0 := fun z => c4 (by rw [z]; rfl)
      omega
    obtain ⟨r, hw91, hw92⟩ := hw2 hw9
    have hp9 := hw92.choose_spec.choose_spec.choose_spec.choose_spec.1
    have hv9 : turIfV S = nI (r.2.countP (fun q => q.2.2 == 1)) := by unfold turIfV; rw [hw91]
    refine x_aload_n dX4_turnedIfSet_7 rfl ?_
    refine x_getfield dX4_turnedIfSet_8 rfl (by decide) (by first | assumption | (simp (disch := omega) only [up_s, up_n]; first | assumption | rfl)) rfl ?_
    refine x_cv1 dX4_turnedIfSet_11 rfl (by first | assumption | (simp (disch := omega) only [up_s, up_n]; first | assumption | rfl)) rfl ?_
    refine Cm.rt (s_X0_turnedSorts hw92) ?_
    refine x_goto 18 dX4_turnedIfSet_14 (by decide) ?_
    refine x_ireturn dX4_turnedIfSet_18 ?_
    exact ⟨c1, h1, hf1, by rw [hv9], rfl⟩
set_option maxRecDepth 20000 in
set_option maxHeartbeats 1000000 in
theorem l_X4_copies {c : Nat → VC} {z k s : Nat} {x : Bool} {S : St} (hne : ¬ S.2.1 = []) : ∀ (m d : Nat), d + m = 250 → ∀ (c1 : Nat → VC) (τ : Sg), CaseAt c1 S → ShopAt c1 377 τ → FrC c c1 → Xm M_X4_copies 25 [some (.ref 2), some (.int (nI d))] [] ((z, x, k, s), c1) (CQ z x k s c (Sum.inl (.int (nI (d + copN S.2.1 m τ.1)))) S) := by
  intro m
  induction m with
  | zero =>
    intro d e0 c1 τ h1 hτ hf1
    refine x_iload_n dX4_copies_25 rfl ?_
    refine x_sipush (nI 250) dX4_copies_26 (by decide) ?_
    refine x_icmp_ge 55 dX4_copies_29 (by decide) (fun c29 => ?_) (fun c29 => absurd (nI_le (by omega) (by omega)) c29)
    refine x_iload_n dX4_copies_55 rfl ?_
    refine x_ireturn dX4_copies_56 ?_
    exact ⟨c1, h1, hf1, rfl, rfl⟩
  | succ m ih =>
    intro d e0 c1 τ h1 hτ hf1
    have hh21 := h1.1
    refine x_iload_n dX4_copies_25 rfl ?_
    refine x_sipush (nI 250) dX4_copies_26 (by decide) ?_
    refine x_icmp_ge 55 dX4_copies_29 (by decide) (fun c29 => ?_) (fun c29 => ?_)
    · exact absurd ((nI_leI (by omega) (by omega)).mp c29) (by omega)
    · refine x_aload_n dX4_copies_32 rfl ?_
      refine x_cv1 dX4_copies_33 rfl (by first | assumption | (simp (disch := omega) only [up_s, up_n]; first | assumption | rfl)) rfl ?_
      refine Cm.ei (s_X4_trialGoes h1 hτ) (fun v c2 q2 => ?_)
      obtain ⟨q21, h2, hf12⟩ := q2
      have hf2 := hf1.tr hf12
      have hh22 := h2.1
      unfold TG at q21
      obtain ⟨w, hw⟩ : ∃ w : Nat, v = .int (nI w) ∧ w ≤ 1 ∧ (w = 1 → ∃ r, goesM S.2.1 τ.1 = some r ∧ FlatAt c2 451 r.2 [r.2.length] ∧ ∃ mm, ShopAt c2 377 (r.1, τ.2.1, τ.2.2.1, n1 τ, n2 τ, n3 τ, mm, n5 τ)) ∧ (w = 0 → goesM S.2.1 τ.1 = none) := by
        cases e : goesM S.2.1 τ.1 with
        | none => rw [e] at q21; exact ⟨0, q21, by omega, fun z => by omega, fun _ => rfl⟩
        | some r => rw [e] at q21; exact ⟨1, q21.1, Nat.le_refl _, fun _ => ⟨r, rfl, q21.2.2, q21.2.1⟩, fun z => by omega⟩
      obtain ⟨rfl, hw1, hw2, hw3⟩ := hw
      refine x_if_eq 55 dX4_copies_36 (by decide) (fun c36 => ?_) (fun c36 => ?_)
      · have hw0 : w = 0 := (nI_eq (b := 0) (by omega) (by omega)).mp c36
        have ecp : copN S.2.1 (m + 1) τ.1 = 0 := by
          conv => lhs; unfold copN
          rw [hw3 hw0]
        refine x_iload_n dX4_copies_55 rfl ?_
        refine x_ireturn dX4_copies_56 ?_
        exact ⟨c2, h2, hf2, by rw [ecp]; rfl, rfl⟩
      · have hw9 : w = 1 := by
          have : ¬ w = 0 := fun z => c36 (by rw [z]; rfl)
          omega
        obtain ⟨r, hw91, hw92, mm, hw93⟩ := hw2 hw9
        have hp9 := hw92.choose_spec.choose_spec.choose_spec.choose_spec.1
        have hl9 : r.2.length ≤ 80 := hw92.choose_spec.choose_spec.choose_spec.choose_spec.2.2.2.2.2.1
        have hl8 : r.2.countP wrg ≤ r.2.length := List.countP_le_length
        refine x_aload_n dX4_copies_39 rfl ?_
        refine x_getfield dX4_copies_40 rfl (by decide) (by first | assumption | (simp (disch := omega) only [up_s, up_n]; first | assumption | rfl)) rfl ?_
        refine x_cv1 dX4_copies_43 rfl (by first | assumption | (simp (disch := omega) only [up_s, up_n]; first | assumption | rfl)) rfl ?_
        refine Cm.rt (s_X0_errors hw92) ?_
        refine x_if_ne 55 dX4_copies_46 (by decide) (fun c46 => ?_) (fun c46 => ?_)
        · have he1 : ¬ r.2.countP wrg = 0 := fun z => c46 (by rw [z]; rfl)
          have ecp : copN S.2.1 (m + 1) τ.1 = 0 := by
            conv => lhs; unfold copN
            rw [hw91]
            simp only
            rw [if_neg he1]
          refine x_iload_n dX4_copies_55 rfl ?_
          refine x_ireturn dX4_copies_56 ?_
          exact ⟨c2, h2, hf2, by rw [ecp]; rfl, rfl⟩
        · have he0 : r.2.countP wrg = 0 := (nI_eq (b := 0) (by omega) (by omega)).mp c46
          refine x_iincN_1 (1) dX4_copies_49 (by decide) rfl ?_
          refine x_goto 25 dX4_copies_52 (by decide) ?_
          have hih := ih (d + 1) (by omega) c2 (r.1, τ.2.1, τ.2.2.1, n1 τ, n2 τ, n3 τ, mm, n5 τ) h2 hw93 hf2
          have ecp : copN S.2.1 (m + 1) τ.1 = copN S.2.1 m r.1 + 1 := by
            conv => lhs; unfold copN
            rw [hw91]
            simp only
            rw [if_pos he0]
          rw [ecp, show d + (copN S.2.1 m r.1 + 1) = d + 1 + copN S.2.1 m r.1 by omega]
          exact hih
set_option maxRecDepth 20000 in
set_option maxHeartbeats 2000000 in
theorem s_X4_copies {c : Nat → VC} {z k s : Nat} {x : Bool} {S : St} (h : CaseAt c S) : Cm k_X4_copies [.ref 2] ((z, x, k, s), c) (CQ z x k s c (Sum.inl (.int (copV S))) S) := by
  have hh2 := h.1
  have hh3 := h.2.1.1
  have hhs := h.2.2.2.1.choose_spec.choose_spec.2.1
  have hht := h.2.2.1
  have htk := hht.2.1
  have htl := hht.2.2.1
  obtain ⟨σt, hσt⟩ := h.2.2.2.2.1
  have hot := hσt.1
  refine Cm.in (M := M_X4_copies) (ls := [some (.ref 2), none]) rfl rfl ?_
  refine x_aload_n dX4_copies_0 rfl ?_
  refine x_getfield dX4_copies_1 rfl (by decide) (by first | assumption | (simp (disch := omega) only [up_s, up_n]; first | assumption | rfl)) rfl ?_
  refine x_cv1 dX4_copies_4 rfl (by first | assumption | (simp (disch := omega) only [up_s, up_n]; first | assumption | rfl)) rfl ?_
  refine Cm.rt (s_X2_size hht) ?_
  refine x_if_ne 12 dX4_copies_7 (by decide) (fun c7 => ?_) (fun c7 => ?_)
  · have hne : ¬ S.2.1 = [] := fun z => c7 (by rw [z]; rfl)
    have hv : copV S = nI (0 + copN S.2.1 250 S.1.1) := by unfold copV; rw [if_neg hne, Nat.zero_add]
    rw [hv]
    refine x_aload_n dX4_copies_12 rfl ?_
    refine x_getfield dX4_copies_13 rfl (by decide) (by first | assumption | (simp (disch := omega) only [up_s, up_n]; first | assumption | rfl)) rfl ?_
    refine x_aload_n dX4_copies_16 rfl ?_
    refine x_getfield dX4_copies_17 rfl (by decide) (by first | assumption | (simp (disch := omega) only [up_s, up_n]; first | assumption | rfl)) rfl ?_
    refine x_cv2 dX4_copies_20 rfl (by first | assumption | (simp (disch := omega) only [up_s, up_n]; first | assumption | rfl)) rfl ?_
    refine Cm.ev (s_X3_copyFrom hσt h.2.1 (by omega)) (fun c1 q1 => ?_)
    obtain ⟨q11, q12⟩ := q1
    have h1 : CaseAt c1 S := h.trial ⟨_, q11⟩ (by
      obtain ⟨pl, es, h6⟩ := h.2.2.2.2.2.1
      exact ⟨pl, es, h6.fr (fun k z1 z2 => q12 k (by omega))⟩) (fun k hk => q12 k (by omega))
    refine x_iconst (nI 0) dX4_copies_23 (by decide) ?_
    refine x_istore_n1 dX4_copies_24 rfl ?_
    exact l_X4_copies hne 250 0 rfl c1 S.1 h1 q11 (fun k hk => q12 k (by omega))
  · have hem : S.2.1 = [] := List.eq_nil_of_length_eq_zero ((nI_eq (b := 0) (by omega) (by omega)).mp c7)
    have hv : copV S = -1 := by unfold copV; rw [if_pos hem]
    rw [hv]
    refine x_iconst (-1) dX4_copies_10 (by decide) ?_
    refine x_ireturn dX4_copies_11 ?_
    exact ⟨c, h, FrC.rf, rfl, rfl⟩
theorem besN_le {S : St} : ∀ {n : Nat}, (besN S n).2 ≤ 17
  | 0 => Nat.le_refl _
  | n + 1 => by
    unfold besN
    split
    · exact besN_le
    · rename_i r _
      split
      · have := besN_le (S := S) (n := n); omega
      · exact besN_le
theorem besN_ix {S : St} : ∀ {n : Nat}, ∀ j, (besN S n).1 = some j → j < n
  | 0, j, h => by cases h
  | n + 1, j, h => by
    unfold besN at h
    split at h
    · have := besN_ix j h; omega
    · split at h
      · have := Option.some.inj h; omega
      · have := besN_ix j h; omega
set_option maxRecDepth 20000 in
set_option maxHeartbeats 1000000 in
theorem l_X4_best {c : Nat → VC} {z k s : Nat} {x : Bool} {S : St} (h : CaseAt c S) (hk : StOK S) : ∀ (m i : Nat), i ≤ 3 → 3 < i + m → ∀ c1, CaseAt c1 S → FrC c c1 → Xm M_X4_bestToDistribute 7 [some (.ref 2), some (.int (ixV (besN S i).1)), some (.int (nI (besN S i).2)), some (.int (nI i))] [] ((z, x, k, s), c1) (CQ z x k s c (Sum.inl (.int (besV S))) S) := by
  intro m
  induction m with
  | zero => intro i z1 z2; omega
  | succ m ih =>
    intro i z1 z2 c1 h1 hf1
    have hh21 := h1.1
    have hh31 := h1.2.1.1
    obtain ⟨σt, hσt⟩ := h1.2.2.2.2.1
    have hot := hσt.1
    have hb17 := besN_le (S := S) (n := i)
    refine x_iload_n dX4_bestToDistribute_7 rfl ?_
    refine x_iconst (nI 3) dX4_bestToDistribute_8 (by decide) ?_
    refine x_icmp_ge 73 dX4_bestToDistribute_9 (by decide) (fun c9 => ?_) (fun c9 => ?_)
    · have e1 : i = 3 := by have := (nI_leI (by omega) (by omega)).mp c9; omega
      subst e1
      refine x_iload_n dX4_bestToDistribute_73 rfl ?_
      refine x_ireturn dX4_bestToDistribute_74 ?_
      exact ⟨c1, h1, hf1, rfl, rfl⟩
    · have hi : i < 3 := by
        by_cases q : i < 3
        · exact q
        · exact absurd ((nI_leI (by omega) (by omega)).mpr (by omega)) c9
      refine x_aload_n dX4_bestToDistribute_12 rfl ?_
      refine x_getfield dX4_bestToDistribute_13 rfl (by decide) (by first | assumption | (simp (disch := omega) only [up_s, up_n]; first | assumption | rfl)) rfl ?_
      refine x_aload_n dX4_bestToDistribute_16 rfl ?_
      refine x_getfield dX4_bestToDistribute_17 rfl (by decide) (by first | assumption | (simp (disch := omega) only [up_s, up_n]; first | assumption | rfl)) rfl ?_
      refine x_cv2 dX4_bestToDistribute_20 rfl (by first | assumption | (simp (disch := omega) only [up_s, up_n]; first | assumption | rfl)) rfl ?_
      refine Cm.ev (s_X3_copyFrom hσt h1.2.1 (by omega)) (fun c2 q2 => ?_)
      obtain ⟨q21, q22⟩ := q2
      have h2 : CaseAt c2 S := h1.trial ⟨_, q21⟩ (by
        obtain ⟨pl, es, h6⟩ := h1.2.2.2.2.2.1
        exact ⟨pl, es, h6.fr (fun k z1 z2 => q22 k (by omega))⟩) (fun k hk => q22 k (by omega))
      have hh22 := h2.1
      have hot2 := q21.1
      refine x_aload_n dX4_bestToDistribute_23 rfl ?_
      refine x_getfield dX4_bestToDistribute_24 rfl (by decide) (by first | assumption | (simp (disch := omega) only [up_s, up_n]; first | assumption | rfl)) rfl ?_
      refine x_aload_n dX4_bestToDistribute_27 rfl ?_
      refine x_getfield dX4_bestToDistribute_28 rfl (by decide) (by first | assumption | (simp (disch := omega) only [up_s, up_n]; first | assumption | rfl)) rfl ?_
      refine x_iload_n dX4_bestToDistribute_31 rfl ?_
      refine x_cv2 dX4_bestToDistribute_32 rfl (by first | assumption | (simp (disch := omega) only [up_s, up_n]; first | assumption | rfl)) rfl ?_
      refine Cm.rt (s_X3_formeOf hot2 q21.2.2.1 hi) ?_
      refine x_cv2 dX4_bestToDistribute_35 rfl (by first | assumption | (simp (disch := omega) only [up_s, up_n]; first | assumption | rfl)) rfl ?_
      have hft := fl_tot (σ := S.1) hi
      have hk1 := hk.1
      refine Cm.ei (s_X3_distributeForme ap377 hot2 q21.2.1 (q21.2.2.1.2 i hi).1 (by omega)) (fun v c3 q3 => ?_)
      obtain ⟨rfl, q31, q32, q33, q34⟩ := q3
      have hs3 := q21.bf q31 q32 hi (FormeAt_nil q33) q34
      have hfr3 : ∀ k, k < 377 ∨ 451 ≤ k → c3 k = c2 k := fun k hk => q34 k (by omega) (by omega) (by omega)
      have h3 : CaseAt c3 S := h2.trial ⟨_, hs3⟩ (by
        obtain ⟨pl, es, h6⟩ := h2.2.2.2.2.2.1
        exact ⟨pl, es, h6.fr (fun k z1 z2 => hfr3 k (by omega))⟩) (fun k hk => hfr3 k (by omega))
      have hf3 : FrC c c3 := hf1.tr (fun k hk => (hfr3 k (by omega)).trans (q22 k (by omega)))
      have hh23 := h3.1
      refine x_pop dX4_bestToDistribute_38 rfl ?_
      refine x_aload_n dX4_bestToDistribute_39 rfl ?_
      refine x_cv1 dX4_bestToDistribute_40 rfl (by first | assumption | (simp (disch := omega) only [up_s, up_n]; first | assumption | rfl)) rfl ?_
      refine Cm.ei (s_X4_trialGoes h3 hs3) (fun v c4 q4 => ?_)
      obtain ⟨q41, h4, hf4⟩ := q4
      have hh24 := h4.1
      unfold TG at q41
      obtain ⟨w, hw⟩ : ∃ w : Nat, v = .int (nI w) ∧ w ≤ 1 ∧ (w = 1 → ∃ r, goesM S.2.1 (disL (n1 S.1) (S.1.2.1 i).flatten S.1.1 (n5 S.1)).1 = some r ∧ FlatAt c4 451 r.2 [r.2.length]) ∧ (w = 0 → goesM S.2.1 (disL (n1 S.1) (S.1.2.1 i).flatten S.1.1 (n5 S.1)).1 = none) := by
        cases e : goesM S.2.1 (disL (n1 S.1) (S.1.2.1 i).flatten S.1.1 (n5 S.1)).1 with
        | none => rw [e] at q41; exact ⟨0, q41, by omega, fun z => by omega, fun _ => rfl⟩
        | some r => rw [e] at q41; exact ⟨1, q41.1, Nat.le_refl _, fun _ => ⟨r, rfl, q41.2.2⟩, fun z => by omega⟩
      obtain ⟨rfl, hw1, hw2, hw3⟩ := hw
      refine x_if_eq 67 dX4_bestToDistribute_43 (by decide) (fun c43 => ?_) (fun c43 => ?_)
      · have hw0 : w = 0 := (nI_eq (b := 0) (by omega) (by omega)).mp c43
        have ebs : besN S i = besN S (i + 1) := by
          conv => rhs; unfold besN
          rw [hw3 hw0]
        rw [ebs]
        refine x_iincN_3 (1) dX4_bestToDistribute_67 (by decide) rfl ?_
        refine x_goto 7 dX4_bestToDistribute_70 (by decide) ?_
        exact ih (i + 1) (by omega) (by omega) c4 h4 (hf3.tr hf4)
      · have hw9 : w = 1 := by
          have : ¬ w = 0 := fun z => c43 (by rw [z]; rfl)
          omega
        obtain ⟨r, hw91, hw92⟩ := hw2 hw9
        have hp9 := hw92.choose_spec.choose_spec.choose_spec.choose_spec.1
        have hl9 : r.2.length ≤ 80 := hw92.choose_spec.choose_spec.choose_spec.choose_spec.2.2.2.2.2.1
        have hl8 : r.2.countP wrg ≤ r.2.length := List.countP_le_length
        refine x_aload_n dX4_bestToDistribute_46 rfl ?_
        refine x_getfield dX4_bestToDistribute_47 rfl (by decide) (by first | assumption | (simp (disch := omega) only [up_s, up_n]; first | assumption | rfl)) rfl ?_
        refine x_cv1 dX4_bestToDistribute_50 rfl (by first | assumption | (simp (disch := omega) only [up_s, up_n]; first | assumption | rfl)) rfl ?_
        refine Cm.rt (s_X0_errors hw92) ?_
        refine x_iload_n dX4_bestToDistribute_53 rfl ?_
        refine x_icmp_ge 67 dX4_bestToDistribute_54 (by decide) (fun c54 => ?_) (fun c54 => ?_)
        · have hge := (nI_leI (by omega) (by omega)).mp c54
          have ebs : besN S i = besN S (i + 1) := by
            conv => rhs; unfold besN
            rw [hw91]
            simp only
            rw [if_neg (by omega)]
          rw [ebs]
          refine x_iincN_3 (1) dX4_bestToDistribute_67 (by decide) rfl ?_
          refine x_goto 7 dX4_bestToDistribute_70 (by decide) ?_
          exact ih (i + 1) (by omega) (by omega) c4 h4 (hf3.tr hf4)
        · have hlt : r.2.countP wrg < (besN S i).2 := by
            by_cases q : r.2.countP wrg < (besN S i).2
            · exact q
            · exact absurd ((nI_leI (by omega) (by omega)).mpr (by omega)) c54
          have ebs : besN S (i + 1) = (some i, r.2.countP wrg) := by
            conv => lhs; unfold besN
            rw [hw91]
            simp only
            rw [if_pos hlt]
          have hih := ih (i + 1) (by omega) (by omega) c4 h4 (hf3.tr hf4)
          rw [ebs] at hih
          refine x_iload_n dX4_bestToDistribute_57 rfl ?_
          refine x_istore_n1 dX4_bestToDistribute_58 rfl ?_
          refine x_aload_n dX4_bestToDistribute_59 rfl ?_
          refine x_getfield dX4_bestToDistribute_60 rfl (by decide) (by first | assumption | (simp (disch := omega) only [up_s, up_n]; first | assumption | rfl)) rfl ?_
          refine x_cv1 dX4_bestToDistribute_63 rfl (by first | assumption | (simp (disch := omega) only [up_s, up_n]; first | assumption | rfl)) rfl ?_
          refine Cm.rt (s_X0_errors hw92) ?_
          refine x_istore_n2 dX4_bestToDistribute_66 rfl ?_
          refine x_iincN_3 (1) dX4_bestToDistribute_67 (by decide) rfl ?_
          refine x_goto 7 dX4_bestToDistribute_70 (by decide) ?_
          exact hih
set_option maxRecDepth 20000 in
set_option maxHeartbeats 2000000 in
theorem s_X4_bestToDistribute {c : Nat → VC} {z k s : Nat} {x : Bool} {S : St} (h : CaseAt c S) (hk : StOK S) : Cm k_X4_bestToDistribute [.ref 2] ((z, x, k, s), c) (CQ z x k s c (Sum.inl (.int (besV S))) S) := by
  refine Cm.in (M := M_X4_bestToDistribute) (ls := [some (.ref 2), none, none, none]) rfl rfl ?_
  refine x_iconst (-1) dX4_bestToDistribute_0 (by decide) ?_
  refine x_istore_n1 dX4_bestToDistribute_1 rfl ?_
  refine x_bipush (nI 17) dX4_bestToDistribute_2 (by decide) ?_
  refine x_istore_n2 dX4_bestToDistribute_4 rfl ?_
  refine x_iconst (nI 0) dX4_bestToDistribute_5 (by decide) ?_
  refine x_istore_n3 dX4_bestToDistribute_6 rfl ?_
  exact l_X4_best h hk 4 0 (by omega) (by omega) c h FrC.rf
theorem foul_le {B : Bx} : ∀ {n : Nat}, sumN (foul B) n ≤ sbN B n
  | 0 => Nat.le_refl _
  | n + 1 => by
    show sumN (foul B) n + foul B n ≤ sbN B n + (B n).length
    have := foul_le (B := B) (n := n)
    unfold foul at this ⊢
    omega
set_option maxRecDepth 20000 in
set_option maxHeartbeats 2000000 in
theorem s_X4_order {c : Nat → VC} {z k s : Nat} {x : Bool} {S : St} (h : CaseAt c S) (hk : StOK S) : Cm k_X4_order [.ref 2] ((z, x, k, s), c) (CQ z x k s c (Sum.inl (.double (ordV S))) S) := by
  have hh2 := h.1
  have hh3 := h.2.1.1
  have hhs := h.2.2.2.1.choose_spec.choose_spec.2.1
  have hht := h.2.2.1
  have htk := hht.2.1
  have htl := hht.2.2.1
  have hsb := SB_tot hk.1
  have hfo : sumN (foul S.1.1) 27 ≤ SB S.1.1 := foul_le
  refine Cm.in (M := M_X4_order) (ls := [some (.ref 2), none]) rfl rfl ?_
  refine x_aload_n dX4_order_0 rfl ?_
  refine x_getfield dX4_order_1 rfl (by decide) (by first | assumption | (simp (disch := omega) only [up_s, up_n]; first | assumption | rfl)) rfl ?_
  refine x_cv1 dX4_order_4 rfl (by first | assumption | (simp (disch := omega) only [up_s, up_n]; first | assumption | rfl)) rfl ?_
  refine Cm.rt (s_X3_sortsInBoxes hh3 h.2.1.2.1) ?_
  refine x_istore_n1 dX4_order_7 rfl ?_
  refine x_iload_n dX4_order_8 rfl ?_
  refine x_if_ne 14 dX4_order_9 (by decide) (fun c9 => ?_) (fun c9 => ?_)
  · have hne : ¬ SB S.1.1 = 0 := fun z => c9 (by rw [z]; rfl)
    have hv : ordV S = FP.ddiv (FP.i2d (nI (SB S.1.1 - sumN (foul S.1.1) 27))) (FP.i2d (nI (SB S.1.1))) := by unfold ordV; rw [if_neg hne]
    rw [hv]
    refine x_iload_n dX4_order_14 rfl ?_
    refine x_aload_n dX4_order_15 rfl ?_
    refine x_getfield dX4_order_16 rfl (by decide) (by first | assumption | (simp (disch := omega) only [up_s, up_n]; first | assumption | rfl)) rfl ?_
    refine x_cv1 dX4_order_19 rfl (by first | assumption | (simp (disch := omega) only [up_s, up_n]; first | assumption | rfl)) rfl ?_
    refine Cm.rt (s_X3_foulSorts hh3 h.2.1.2.1) ?_
    refine x_isubN dX4_order_22 hfo ?_
    refine x_i2d dX4_order_23 ?_
    refine x_iload_n dX4_order_24 rfl ?_
    refine x_i2d dX4_order_25 ?_
    refine x_ddiv dX4_order_26 (fp_ok (by omega) hne hsb) ?_
    refine x_dreturn dX4_order_27 ?_
    exact ⟨c, h, FrC.rf, rfl, rfl⟩
  · have hz : SB S.1.1 = 0 := (nI_eq (b := 0) (by omega) (by omega)).mp c9
    have hv : ordV S = FP.dconst1 := by unfold ordV; rw [if_pos hz]
    rw [hv]
    refine x_dconst1 dX4_order_12 ?_
    refine x_dreturn dX4_order_13 ?_
    exact ⟨c, h, FrC.rf, rfl, rfl⟩
set_option maxRecDepth 20000 in
set_option maxHeartbeats 2000000 in
theorem s_X4_append {c : Nat → VC} {z k s : Nat} {x : Bool} {S : St} (h : CaseAt c S) {v : Int32} : Cm k_X4_append [.ref 2, .int v] ((z, x, k, s), c) (CQ z x k s c (appendM v S).1 (appendM v S).2) := by
  have hh2 := h.1
  have hh3 := h.2.1.1
  have hhs := h.2.2.2.1.choose_spec.choose_spec.2.1
  have hht := h.2.2.1
  have htk := hht.2.1
  have htl := hht.2.2.1
  by_cases e0 : v = nI 32
  · subst e0
    by_cases hl : S.2.1.length < 16
    · have hM : appendM (nI 32) S = (Sum.inl (.int (nI (S.2.1.length + 1))), (S.1, S.2.1 ++ [26], S.2.2)) := by simp only [appendM, if_pos hl, if_true]
      rw [hM]
      refine Cm.in (M := M_X4_append) (ls := [some (.ref 2), some (.int (nI 32))]) rfl rfl ?_
      refine x_iload_n dX4_append_0 rfl ?_
      refine x_bipush (nI 32) dX4_append_1 (by decide) ?_
      refine x_icmp_eq 28 dX4_append_3 (by decide) (fun c3 => ?_) (fun c3 => ?_)
      · refine x_aload_n dX4_append_28 rfl ?_
        refine x_getfield dX4_append_29 rfl (by decide) (by first | assumption | (simp (disch := omega) only [up_s, up_n]; first | assumption | rfl)) rfl ?_
        refine x_cv1 dX4_append_32 rfl (by first | assumption | (simp (disch := omega) only [up_s, up_n]; first | assumption | rfl)) rfl ?_
        refine Cm.rt (s_X2_size hht) ?_
        refine x_bipush (nI 16) dX4_append_35 (by decide) ?_
        refine x_icmp_lt 50 dX4_append_37 (by decide) (fun c37 => ?_) (fun c37 => ?_)
        · refine x_aload_n dX4_append_50 rfl ?_
          refine x_getfield dX4_append_51 rfl (by decide) (by first | assumption | (simp (disch := omega) only [up_s, up_n]; first | assumption | rfl)) rfl ?_
          refine x_iload_n dX4_append_54 rfl ?_
          refine x_bipush (nI 32) dX4_append_55 (by decide) ?_
          refine x_icmp_ne 65 dX4_append_57 (by decide) (fun c57 => ?_) (fun c57 => ?_)
          · exact absurd rfl c57
          · refine x_bipush (nI 26) dX4_append_60 (by decide) ?_
            refine x_goto 69 dX4_append_62 (by decide) ?_
            refine x_cv2 dX4_append_69 rfl (by first | assumption | (simp (disch := omega) only [up_s, up_n]; first | assumption | rfl)) rfl ?_
            refine Cm.ev (s_X2_put hht (by omega) (by omega)) (fun c2 q2 => ?_)
            have h2 := h.text q2.1 q2.2
            have hh22 := h2.1
            have htk2 := q2.1.2.1
            refine x_aload_n dX4_append_72 rfl ?_
            refine x_getfield dX4_append_73 rfl (by decide) (by first | assumption | (simp (disch := omega) only [up_s, up_n]; first | assumption | rfl)) rfl ?_
            refine x_cv1 dX4_append_76 rfl (by first | assumption | (simp (disch := omega) only [up_s, up_n]; first | assumption | rfl)) rfl ?_
            refine Cm.rt (s_X2_size q2.1) ?_
            refine x_ireturn dX4_append_79 ?_
            exact ⟨c2, h2, fun k hk => q2.2 k (by omega) (by omega), by simp, rfl⟩
        · exact absurd ((nI_ltI (by omega) (by omega)).mpr hl) c37
      · exact absurd rfl c3
    · have hM : appendM (nI 32) S = (Sum.inr 3, S) := by simp only [appendM, if_neg hl, if_true]
      rw [hM]
      refine Cm.in (M := M_X4_append) (ls := [some (.ref 2), some (.int (nI 32))]) rfl rfl ?_
      refine x_iload_n dX4_append_0 rfl ?_
      refine x_bipush (nI 32) dX4_append_1 (by decide) ?_
      refine x_icmp_eq 28 dX4_append_3 (by decide) (fun c3 => ?_) (fun c3 => ?_)
      · refine x_aload_n dX4_append_28 rfl ?_
        refine x_getfield dX4_append_29 rfl (by decide) (by first | assumption | (simp (disch := omega) only [up_s, up_n]; first | assumption | rfl)) rfl ?_
        refine x_cv1 dX4_append_32 rfl (by first | assumption | (simp (disch := omega) only [up_s, up_n]; first | assumption | rfl)) rfl ?_
        refine Cm.rt (s_X2_size hht) ?_
        refine x_bipush (nI 16) dX4_append_35 (by decide) ?_
        refine x_icmp_lt 50 dX4_append_37 (by decide) (fun c37 => ?_) (fun c37 => ?_)
        · exact absurd ((nI_ltI (by omega) (by omega)).mp c37) hl
        · refine x_throw dX4_append_40 rfl rfl ?_
          exact ⟨c, h, FrC.rf, rfl, rfl⟩
      · exact absurd rfl c3
  · cases e1 : rg v 97 122 with
    | none =>
      have hM : appendM v S = (Sum.inr 2, S) := by simp only [appendM, if_neg e0, e1]
      rw [hM]
      have hb := rg_none e1
      refine Cm.in (M := M_X4_append) (ls := [some (.ref 2), some (.int v)]) rfl rfl ?_
      refine x_iload_n dX4_append_0 rfl ?_
      refine x_bipush (nI 32) dX4_append_1 (by decide) ?_
      refine x_icmp_eq 28 dX4_append_3 (by decide) (fun c3 => ?_) (fun c3 => ?_)
      · exact absurd c3 e0
      · refine x_iload_n dX4_append_6 rfl ?_
        refine x_bipush (nI 97) dX4_append_7 (by decide) ?_
        refine x_icmp_lt 18 dX4_append_9 (by decide) (fun c9 => ?_) (fun c9 => ?_)
        · refine x_throw dX4_append_18 rfl rfl ?_
          exact ⟨c, h, FrC.rf, rfl, rfl⟩
        · refine x_iload_n dX4_append_12 rfl ?_
          refine x_bipush (nI 122) dX4_append_13 (by decide) ?_
          refine x_icmp_le 28 dX4_append_15 (by decide) (fun c15 => ?_) (fun c15 => ?_)
          · exact absurd c15 (Int32.not_le.mpr (hb.resolve_left c9))
          · refine x_throw dX4_append_18 rfl rfl ?_
            exact ⟨c, h, FrC.rf, rfl, rfl⟩
    | some n =>
      obtain ⟨hn1, hn2, rfl⟩ := rg_some (by omega) (by omega) e1
      by_cases hl : S.2.1.length < 16
      · have hM : appendM (nI n) S = (Sum.inl (.int (nI (S.2.1.length + 1))), (S.1, S.2.1 ++ [n - 97], S.2.2)) := by simp only [appendM, if_neg e0, e1, if_pos hl]
        rw [hM]
        refine Cm.in (M := M_X4_append) (ls := [some (.ref 2), some (.int (nI n))]) rfl rfl ?_
        refine x_iload_n dX4_append_0 rfl ?_
        refine x_bipush (nI 32) dX4_append_1 (by decide) ?_
        refine x_icmp_eq 28 dX4_append_3 (by decide) (fun c3 => ?_) (fun c3 => ?_)
        · exact absurd c3 e0
        · refine x_iload_n dX4_append_6 rfl ?_
          refine x_bipush (nI 97) dX4_append_7 (by decide) ?_
          refine x_icmp_lt 18 dX4_append_9 (by decide) (fun c9 => ?_) (fun c9 => ?_)
          · exact absurd ((nI_ltI (by omega) (by omega)).mp c9) (by omega)
          · refine x_iload_n dX4_append_12 rfl ?_
            refine x_bipush (nI 122) dX4_append_13 (by decide) ?_
            refine x_icmp_le 28 dX4_append_15 (by decide) (fun c15 => ?_) (fun c15 => ?_)
            · refine x_aload_n dX4_append_28 rfl ?_
              refine x_getfield dX4_append_29 rfl (by decide) (by first | assumption | (simp (disch := omega) only [up_s, up_n]; first | assumption | rfl)) rfl ?_
              refine x_cv1 dX4_append_32 rfl (by first | assumption | (simp (disch := omega) only [up_s, up_n]; first | assumption | rfl)) rfl ?_
              refine Cm.rt (s_X2_size hht) ?_
              refine x_bipush (nI 16) dX4_append_35 (by decide) ?_
              refine x_icmp_lt 50 dX4_append_37 (by decide) (fun c37 => ?_) (fun c37 => ?_)
              · refine x_aload_n dX4_append_50 rfl ?_
                refine x_getfield dX4_append_51 rfl (by decide) (by first | assumption | (simp (disch := omega) only [up_s, up_n]; first | assumption | rfl)) rfl ?_
                refine x_iload_n dX4_append_54 rfl ?_
                refine x_bipush (nI 32) dX4_append_55 (by decide) ?_
                refine x_icmp_ne 65 dX4_append_57 (by decide) (fun c57 => ?_) (fun c57 => ?_)
                · refine x_iload_n dX4_append_65 rfl ?_
                  refine x_bipush (nI 97) dX4_append_66 (by decide) ?_
                  refine x_isubN dX4_append_68 hn1 ?_
                  refine x_cv2 dX4_append_69 rfl (by first | assumption | (simp (disch := omega) only [up_s, up_n]; first | assumption | rfl)) rfl ?_
                  refine Cm.ev (s_X2_put hht (by omega) (by omega)) (fun c2 q2 => ?_)
                  have h2 := h.text q2.1 q2.2
                  have hh22 := h2.1
                  have htk2 := q2.1.2.1
                  refine x_aload_n dX4_append_72 rfl ?_
                  refine x_getfield dX4_append_73 rfl (by decide) (by first | assumption | (simp (disch := omega) only [up_s, up_n]; first | assumption | rfl)) rfl ?_
                  refine x_cv1 dX4_append_76 rfl (by first | assumption | (simp (disch := omega) only [up_s, up_n]; first | assumption | rfl)) rfl ?_
                  refine Cm.rt (s_X2_size q2.1) ?_
                  refine x_ireturn dX4_append_79 ?_
                  exact ⟨c2, h2, fun k hk => q2.2 k (by omega) (by omega), by simp, rfl⟩
                · exact absurd c57 e0
              · exact absurd ((nI_ltI (by omega) (by omega)).mpr hl) c37
            · exact absurd (nI_le hn2 (by omega)) c15
      · have hM : appendM (nI n) S = (Sum.inr 3, S) := by simp only [appendM, if_neg e0, e1, if_neg hl]
        rw [hM]
        refine Cm.in (M := M_X4_append) (ls := [some (.ref 2), some (.int (nI n))]) rfl rfl ?_
        refine x_iload_n dX4_append_0 rfl ?_
        refine x_bipush (nI 32) dX4_append_1 (by decide) ?_
        refine x_icmp_eq 28 dX4_append_3 (by decide) (fun c3 => ?_) (fun c3 => ?_)
        · exact absurd c3 e0
        · refine x_iload_n dX4_append_6 rfl ?_
          refine x_bipush (nI 97) dX4_append_7 (by decide) ?_
          refine x_icmp_lt 18 dX4_append_9 (by decide) (fun c9 => ?_) (fun c9 => ?_)
          · exact absurd ((nI_ltI (by omega) (by omega)).mp c9) (by omega)
          · refine x_iload_n dX4_append_12 rfl ?_
            refine x_bipush (nI 122) dX4_append_13 (by decide) ?_
            refine x_icmp_le 28 dX4_append_15 (by decide) (fun c15 => ?_) (fun c15 => ?_)
            · refine x_aload_n dX4_append_28 rfl ?_
              refine x_getfield dX4_append_29 rfl (by decide) (by first | assumption | (simp (disch := omega) only [up_s, up_n]; first | assumption | rfl)) rfl ?_
              refine x_cv1 dX4_append_32 rfl (by first | assumption | (simp (disch := omega) only [up_s, up_n]; first | assumption | rfl)) rfl ?_
              refine Cm.rt (s_X2_size hht) ?_
              refine x_bipush (nI 16) dX4_append_35 (by decide) ?_
              refine x_icmp_lt 50 dX4_append_37 (by decide) (fun c37 => ?_) (fun c37 => ?_)
              · exact absurd ((nI_ltI (by omega) (by omega)).mp c37) hl
              · refine x_throw dX4_append_40 rfl rfl ?_
                exact ⟨c, h, FrC.rf, rfl, rfl⟩
            · exact absurd (nI_le hn2 (by omega)) c15
set_option maxRecDepth 20000 in
set_option maxHeartbeats 2000000 in
theorem s_X4_clearText {c : Nat → VC} {z k s : Nat} {x : Bool} {S : St} (h : CaseAt c S) : Cm k_X4_clearText [.ref 2] ((z, x, k, s), c) (CQ z x k s c (clearM S).1 (clearM S).2) := by
  have hh2 := h.1
  have hh3 := h.2.1.1
  have hhs := h.2.2.2.1.choose_spec.choose_spec.2.1
  have hht := h.2.2.1
  have htk := hht.2.1
  have htl := hht.2.2.1
  refine Cm.in (M := M_X4_clearText) (ls := [some (.ref 2), none]) rfl rfl ?_
  refine x_aload_n dX4_clearText_0 rfl ?_
  refine x_getfield dX4_clearText_1 rfl (by decide) (by first | assumption | (simp (disch := omega) only [up_s, up_n]; first | assumption | rfl)) rfl ?_
  refine x_cv1 dX4_clearText_4 rfl (by first | assumption | (simp (disch := omega) only [up_s, up_n]; first | assumption | rfl)) rfl ?_
  refine Cm.rt (s_X2_size hht) ?_
  refine x_istore_n1 dX4_clearText_7 rfl ?_
  refine x_aload_n dX4_clearText_8 rfl ?_
  refine x_getfield dX4_clearText_9 rfl (by decide) (by first | assumption | (simp (disch := omega) only [up_s, up_n]; first | assumption | rfl)) rfl ?_
  refine x_cv1 dX4_clearText_12 rfl (by first | assumption | (simp (disch := omega) only [up_s, up_n]; first | assumption | rfl)) rfl ?_
  refine Cm.ev (s_X2_clear hht) (fun c2 q2 => ?_)
  have h2 := h.text q2.1 q2.2
  refine x_iload_n dX4_clearText_15 rfl ?_
  refine x_ireturn dX4_clearText_16 ?_
  exact ⟨c2, h2, fun k hk => q2.2 k (by omega) (by omega), rfl, rfl⟩
set_option maxRecDepth 20000 in
set_option maxHeartbeats 2000000 in
theorem s_X4_undo {c : Nat → VC} {z k s : Nat} {x : Bool} {S : St} (h : CaseAt c S) : Cm k_X4_undo [.ref 2] ((z, x, k, s), c) (CQ z x k s c (undoM S).1 (undoM S).2) := by
  have hh2 := h.1
  have hh3 := h.2.1.1
  have hhs := h.2.2.2.1.choose_spec.choose_spec.2.1
  have hht := h.2.2.1
  have htk := hht.2.1
  have htl := hht.2.2.1
  have hH := h.2.2.2.1
  have hhl := hH.choose_spec.choose_spec.2.2.2.2.1
  by_cases hem : S.2.2 = []
  · have hM : undoM S = (Sum.inr 3, S) := by unfold undoM; rw [hem]; rfl
    rw [hM]
    have hl0 : S.2.2.length = 0 := by rw [hem]; rfl
    refine Cm.in (M := M_X4_undo) (ls := [some (.ref 2)]) rfl rfl ?_
    refine x_aload_n dX4_undo_0 rfl ?_
    refine x_getfield dX4_undo_1 rfl (by decide) (by first | assumption | (simp (disch := omega) only [up_s, up_n]; first | assumption | rfl)) rfl ?_
    refine x_cv1 dX4_undo_4 rfl (by first | assumption | (simp (disch := omega) only [up_s, up_n]; first | assumption | rfl)) rfl ?_
    refine Cm.rt (s_X1_size hH) ?_
    rw [hl0]
    refine x_if_ne 20 dX4_undo_7 (by decide) (fun c7 => ?_) (fun c7 => ?_)
    · exact absurd rfl c7
    · refine x_throw dX4_undo_10 rfl rfl ?_
      exact ⟨c, h, FrC.rf, rfl, rfl⟩
  · obtain ⟨τ, hτ⟩ : ∃ τ, S.2.2.getLast? = some τ := ⟨S.2.2.getLast hem, List.getLast?_eq_some_getLast hem⟩
    have hM : undoM S = (Sum.inl (.int (nI (S.2.2.length - 1))), (τ, S.2.1, S.2.2.dropLast)) := by unfold undoM; rw [hτ]
    rw [hM]
    have hsn : S.2.2 = S.2.2.dropLast ++ [τ] := by
      have e1 := List.dropLast_concat_getLast hem
      rw [List.getLast?_eq_some_getLast hem] at hτ
      rw [Option.some.inj hτ] at e1
      exact e1.symm
    have hH2 := hH
    rw [hsn] at hH2
    have hlp : 0 < S.2.2.length := List.length_pos_iff.mpr hem
    have hdl : S.2.2.length - 1 = S.2.2.dropLast.length := by rw [List.length_dropLast]
    refine Cm.in (M := M_X4_undo) (ls := [some (.ref 2)]) rfl rfl ?_
    refine x_aload_n dX4_undo_0 rfl ?_
    refine x_getfield dX4_undo_1 rfl (by decide) (by first | assumption | (simp (disch := omega) only [up_s, up_n]; first | assumption | rfl)) rfl ?_
    refine x_cv1 dX4_undo_4 rfl (by first | assumption | (simp (disch := omega) only [up_s, up_n]; first | assumption | rfl)) rfl ?_
    refine Cm.rt (s_X1_size hH) ?_
    refine x_if_ne 20 dX4_undo_7 (by decide) (fun c7 => ?_) (fun c7 => ?_)
    · refine x_aload_n dX4_undo_20 rfl ?_
      refine x_getfield dX4_undo_21 rfl (by decide) (by first | assumption | (simp (disch := omega) only [up_s, up_n]; first | assumption | rfl)) rfl ?_
      refine x_aload_n dX4_undo_24 rfl ?_
      refine x_getfield dX4_undo_25 rfl (by decide) (by first | assumption | (simp (disch := omega) only [up_s, up_n]; first | assumption | rfl)) rfl ?_
      refine x_cv2 dX4_undo_28 rfl (by first | assumption | (simp (disch := omega) only [up_s, up_n]; first | assumption | rfl)) rfl ?_
      refine Cm.ev (s_X1_restore hH2 (by omega) h.2.1) (fun c2 q2 => ?_)
      obtain ⟨q21, q22, q23⟩ := q2
      have h1 : CaseAt c2 (τ, S.2.1, S.2.2.dropLast) := ⟨(q23 2 (by omega) (by omega)).trans hh2, q22, hht.fr (q23 _ (by omega) (by omega)) (q23 _ (by omega) (by omega)), q21, by
        obtain ⟨σt, h5⟩ := h.2.2.2.2.1
        exact ⟨σt, h5.fr (fun k z1 z2 => q23 k (by omega) (by omega))⟩, by
        obtain ⟨pl, es, h6⟩ := h.2.2.2.2.2.1
        exact ⟨pl, es, h6.fr (fun k z1 z2 => q23 k (by omega) (by omega))⟩, h.2.2.2.2.2.2.fr (q23 1 (by omega) (by omega))⟩
      have hh22 := h1.1
      have hhs2 := h1.2.2.2.1.choose_spec.choose_spec.2.1
      refine x_aload_n dX4_undo_31 rfl ?_
      refine x_getfield dX4_undo_32 rfl (by decide) (by first | assumption | (simp (disch := omega) only [up_s, up_n]; first | assumption | rfl)) rfl ?_
      refine x_cv1 dX4_undo_35 rfl (by first | assumption | (simp (disch := omega) only [up_s, up_n]; first | assumption | rfl)) rfl ?_
      refine Cm.rt (s_X1_size q21) ?_
      rw [← hdl]
      refine x_ireturn dX4_undo_38 ?_
      exact ⟨c2, h1, fun k hk => q23 k (by omega) (by omega), rfl, rfl⟩
    · exact absurd ((nI_eq (b := 0) (by omega) (by omega)).mp c7) (by omega)
