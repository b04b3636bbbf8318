/-! the saved states -/
def SvOK (H : Nat) (sv : Nat → Nat) : Prop := (∀ i, i < 4 → ∃ k, k < 4 ∧ sv i = H + 2 + 74 * k) ∧ ∀ i j, i < 4 → j < 4 → sv i = sv j → i = j
def HistAt (c : Nat → VC) (H : Nat) (hs : List Sg) : Prop := ∃ sv f, SvOK H sv ∧ c H = cO 1 [.ref (H + 1), .int (nI hs.length)] ∧ c (H + 1) = cR 3 4 f ∧ (∀ i, i < 4 → f i = some (sv i)) ∧ hs.length ≤ 4 ∧ (∀ (i : Nat) (hi : i < hs.length), ShopAt c (sv i) hs[i]) ∧ ∀ i, i < 4 → ∃ σ, ShopAt c (sv i) σ
theorem HistAt.fr {c c' : Nat → VC} {H : Nat} {hs : List Sg} (h : HistAt c H hs) (hc : ∀ k, H ≤ k → k < H + 298 → c' k = c k) : HistAt c' H hs := by
  obtain ⟨sv, f, h1, h2, h3, h4, h5, h6, h7⟩ := h
  have e : ∀ i, i < 4 → ∀ k, sv i ≤ k → k < sv i + 74 → c' k = c k := fun i hi k z1 z2 => by
    obtain ⟨q, q1, q2⟩ := h1.1 i hi
    exact hc k (by omega) (by omega)
  exact ⟨sv, f, h1, by rw [hc _ (by omega) (by omega)]; exact h2, by rw [hc _ (by omega) (by omega)]; exact h3, h4, h5, fun i hi => (h6 i hi).fr (e i (by omega)), fun i hi => by obtain ⟨σ, hσ⟩ := h7 i hi; exact ⟨σ, hσ.fr (e i hi)⟩⟩
def saveH (hs : List Sg) (σ : Sg) : List Sg := (if hs.length = 4 then hs.tail else hs) ++ [σ]
theorem vup_s {α : Type} {f : Nat → α} {k : Nat} {v : α} : va_up f k v k = v := by simp [va_up]
theorem vup_n {α : Type} {f : Nat → α} {k j : Nat} {v : α} (h : j ≠ k) : va_up f k v j = f j := by simp [va_up, h]
def rot (sv : Nat → Nat) : Nat → Nat := fun i => if i = 0 then sv 1 else if i = 1 then sv 2 else if i = 2 then sv 3 else if i = 3 then sv 0 else sv i
theorem rot_ok {H : Nat} {sv : Nat → Nat} (h : SvOK H sv) : SvOK H (rot sv) := by
  refine ⟨fun i hi => ?_, fun i j hi hj he => ?_⟩
  · rcases (show i = 0 ∨ i = 1 ∨ i = 2 ∨ i = 3 by omega) with rfl | rfl | rfl | rfl
    · exact h.1 1 (by omega)
    · exact h.1 2 (by omega)
    · exact h.1 3 (by omega)
    · exact h.1 0 (by omega)
  · have inj := h.2
    rcases (show i = 0 ∨ i = 1 ∨ i = 2 ∨ i = 3 by omega) with rfl | rfl | rfl | rfl <;> rcases (show j = 0 ∨ j = 1 ∨ j = 2 ∨ j = 3 by omega) with rfl | rfl | rfl | rfl <;> first | rfl | (simp [rot] at he; exact absurd (inj _ _ (by omega) (by omega) he) (by omega))
set_option maxRecDepth 20000 in
set_option maxHeartbeats 1000000 in
theorem s_X1_size {c : Nat → VC} {g : VG} {H : Nat} {hs : List Sg} (h : HistAt c H hs) : Cm k_X1_size [.ref H] (g, c) (Rt (.int (nI hs.length)) (g, c)) := by
  have h9 := h
  obtain ⟨sv, f, h1, h2, h3, h4, h5, h6, h7⟩ := h
  refine Cm.in (M := M_X1_size) (ls := [some (.ref H)]) rfl rfl ?_
  refine x_aload_n dX1_size_0 rfl ?_
  refine x_getfield dX1_size_1 rfl (by decide) (by first | assumption | (simp (disch := omega) only [up_s, up_n]; first | assumption | rfl)) rfl ?_
  refine x_ireturn dX1_size_4 ?_
  exact ⟨rfl, rfl⟩
set_option maxRecDepth 20000 in
set_option maxHeartbeats 1000000 in
theorem s_X1_dropOldest {c : Nat → VC} {g : VG} {H : Nat} {hs : List Sg} (h : HistAt c H hs) (hl : hs.length = 4) : Cm k_X1_dropOldest [.ref H] (g, c) (Ev g (fun c' => HistAt c' H hs.tail ∧ ∀ k, k ≠ H → k ≠ H + 1 → c' k = c k)) := by
  have h9 := h
  obtain ⟨sv, f, h1, h2, h3, h4, h5, h6, h7⟩ := h
  obtain ⟨x0, y0, z0⟩ := h1.1 0 (by omega)
  obtain ⟨x1, y1, z1⟩ := h1.1 1 (by omega)
  obtain ⟨x2, y2, z2⟩ := h1.1 2 (by omega)
  obtain ⟨x3, y3, z3⟩ := h1.1 3 (by omega)
  have o0 := (h7 0 (by omega)).choose_spec.1
  have o1 := (h7 1 (by omega)).choose_spec.1
  have o2 := (h7 2 (by omega)).choose_spec.1
  have o3 := (h7 3 (by omega)).choose_spec.1
  refine Cm.in (M := M_X1_dropOldest) (ls := [some (.ref H), none, none]) rfl rfl ?_
  refine x_aload_n dX1_dropOldest_0 rfl ?_
  refine x_getfield dX1_dropOldest_1 rfl (by decide) (by first | assumption | (simp (disch := omega) only [up_s, up_n]; first | assumption | rfl)) rfl ?_
  refine x_iconst (nI 0) dX1_dropOldest_4 (by decide) ?_
  refine x_aaloadN dX1_dropOldest_5 (by first | assumption | (simp (disch := omega) only [up_s, up_n]; first | assumption | rfl)) (by omega) (by omega) (h4 0 (by omega)) ?_
  refine x_astore_n1 dX1_dropOldest_6 rfl ?_
  refine x_iconst (nI 1) dX1_dropOldest_7 (by decide) ?_
  refine x_istore_n2 dX1_dropOldest_8 rfl ?_
  refine x_iload_n dX1_dropOldest_9 rfl ?_
  refine x_iconst (nI 4) dX1_dropOldest_10 (by decide) ?_
  refine x_icmp_ge 34 dX1_dropOldest_11 (by decide) (fun c11 => ?_) (fun c11 => ?_)
  · exact absurd c11 (by decide)
  · refine x_aload_n dX1_dropOldest_14 rfl ?_
    refine x_getfield dX1_dropOldest_15 rfl (by decide) (by first | assumption | (simp (disch := omega) only [up_s, up_n]; first | assumption | rfl)) rfl ?_
    refine x_iload_n dX1_dropOldest_18 rfl ?_
    refine x_iconst (nI 1) dX1_dropOldest_19 (by decide) ?_
    refine x_isubN dX1_dropOldest_20 (by omega) ?_
    refine x_aload_n dX1_dropOldest_21 rfl ?_
    refine x_getfield dX1_dropOldest_22 rfl (by decide) (by first | assumption | (simp (disch := omega) only [up_s, up_n]; first | assumption | rfl)) rfl ?_
    refine x_iload_n dX1_dropOldest_25 rfl ?_
    refine x_aaloadN dX1_dropOldest_26 (by first | assumption | (simp (disch := omega) only [up_s, up_n]; first | assumption | rfl)) (by omega) (by omega) (by first | exact h4 1 (by omega) | (rw [vup_n (by decide)]; exact h4 2 (by omega)) | (rw [vup_n (by decide), vup_n (by decide)]; exact h4 3 (by omega))) ?_
    refine x_aastoreN dX1_dropOldest_27 (by first | assumption | (simp (disch := omega) only [up_s, up_n]; first | assumption | rfl)) (by first | assumption | (simp (disch := omega) only [up_s, up_n]; first | assumption | rfl)) (by omega) (by omega) ?_
    refine x_iincN_2 (1) dX1_dropOldest_28 (by decide) rfl ?_
    refine x_goto 9 dX1_dropOldest_31 (by decide) ?_
    refine x_iload_n dX1_dropOldest_9 rfl ?_
    refine x_iconst (nI 4) dX1_dropOldest_10 (by decide) ?_
    refine x_icmp_ge 34 dX1_dropOldest_11 (by decide) (fun c11 => ?_) (fun c11 => ?_)
    · exact absurd c11 (by decide)
    · refine x_aload_n dX1_dropOldest_14 rfl ?_
      refine x_getfield dX1_dropOldest_15 rfl (by decide) (by first | assumption | (simp (disch := omega) only [up_s, up_n]; first | assumption | rfl)) rfl ?_
      refine x_iload_n dX1_dropOldest_18 rfl ?_
      refine x_iconst (nI 1) dX1_dropOldest_19 (by decide) ?_
      refine x_isubN dX1_dropOldest_20 (by omega) ?_
      refine x_aload_n dX1_dropOldest_21 rfl ?_
      refine x_getfield dX1_dropOldest_22 rfl (by decide) (by first | assumption | (simp (disch := omega) only [up_s, up_n]; first | assumption | rfl)) rfl ?_
      refine x_iload_n dX1_dropOldest_25 rfl ?_
      refine x_aaloadN dX1_dropOldest_26 (by first | assumption | (simp (disch := omega) only [up_s, up_n]; first | assumption | rfl)) (by omega) (by omega) (by first | exact h4 1 (by omega) | (rw [vup_n (by decide)]; exact h4 2 (by omega)) | (rw [vup_n (by decide), vup_n (by decide)]; exact h4 3 (by omega))) ?_
      refine x_aastoreN dX1_dropOldest_27 (by first | assumption | (simp (disch := omega) only [up_s, up_n]; first | assumption | rfl)) (by first | assumption | (simp (disch := omega) only [up_s, up_n]; first | assumption | rfl)) (by omega) (by omega) ?_
      refine x_iincN_2 (1) dX1_dropOldest_28 (by decide) rfl ?_
      refine x_goto 9 dX1_dropOldest_31 (by decide) ?_
      refine x_iload_n dX1_dropOldest_9 rfl ?_
      refine x_iconst (nI 4) dX1_dropOldest_10 (by decide) ?_
      refine x_icmp_ge 34 dX1_dropOldest_11 (by decide) (fun c11 => ?_) (fun c11 => ?_)
      · exact absurd c11 (by decide)
      · refine x_aload_n dX1_dropOldest_14 rfl ?_
        refine x_getfield dX1_dropOldest_15 rfl (by decide) (by first | assumption | (simp (disch := omega) only [up_s, up_n]; first | assumption | rfl)) rfl ?_
        refine x_iload_n dX1_dropOldest_18 rfl ?_
        refine x_iconst (nI 1) dX1_dropOldest_19 (by decide) ?_
        refine x_isubN dX1_dropOldest_20 (by omega) ?_
        refine x_aload_n dX1_dropOldest_21 rfl ?_
        refine x_getfield dX1_dropOldest_22 rfl (by decide) (by first | assumption | (simp (disch := omega) only [up_s, up_n]; first | assumption | rfl)) rfl ?_
        refine x_iload_n dX1_dropOldest_25 rfl ?_
        refine x_aaloadN dX1_dropOldest_26 (by first | assumption | (simp (disch := omega) only [up_s, up_n]; first | assumption | rfl)) (by omega) (by omega) (by first | exact h4 1 (by omega) | (rw [vup_n (by decide)]; exact h4 2 (by omega)) | (rw [vup_n (by decide), vup_n (by decide)]; exact h4 3 (by omega))) ?_
        refine x_aastoreN dX1_dropOldest_27 (by first | assumption | (simp (disch := omega) only [up_s, up_n]; first | assumption | rfl)) (by first | assumption | (simp (disch := omega) only [up_s, up_n]; first | assumption | rfl)) (by omega) (by omega) ?_
        refine x_iincN_2 (1) dX1_dropOldest_28 (by decide) rfl ?_
        refine x_goto 9 dX1_dropOldest_31 (by decide) ?_
        refine x_iload_n dX1_dropOldest_9 rfl ?_
        refine x_iconst (nI 4) dX1_dropOldest_10 (by decide) ?_
        refine x_icmp_ge 34 dX1_dropOldest_11 (by decide) (fun c11 => ?_) (fun c11 => ?_)
        · refine x_aload_n dX1_dropOldest_34 rfl ?_
          refine x_getfield dX1_dropOldest_35 rfl (by decide) (by first | assumption | (simp (disch := omega) only [up_s, up_n]; first | assumption | rfl)) rfl ?_
          refine x_iconst (nI 3) dX1_dropOldest_38 (by decide) ?_
          refine x_aload_n dX1_dropOldest_39 rfl ?_
          refine x_aastoreN dX1_dropOldest_40 (by first | assumption | (simp (disch := omega) only [up_s, up_n]; first | assumption | rfl)) (by first | assumption | (simp (disch := omega) only [up_s, up_n]; first | assumption | rfl)) (by omega) (by omega) ?_
          refine x_aload_n dX1_dropOldest_41 rfl ?_
          refine x_dup dX1_dropOldest_42 rfl ?_
          refine x_getfield dX1_dropOldest_43 rfl (by decide) (by first | assumption | (simp (disch := omega) only [up_s, up_n]; first | assumption | rfl)) rfl ?_
          refine x_iconst (nI 1) dX1_dropOldest_46 (by decide) ?_
          refine x_isubN dX1_dropOldest_47 (by omega) ?_
          refine x_putfield1 dX1_dropOldest_48 rfl (by first | assumption | (simp (disch := omega) only [up_s, up_n]; first | assumption | rfl)) rfl ?_
          refine x_return dX1_dropOldest_51 ?_
          refine ⟨_, rfl, rfl, ⟨rot sv, va_up (va_up (va_up (va_up f 0 (some (sv 1))) 1 (some (sv 2))) 2 (some (sv 3))) 3 (some (sv 0)), rot_ok h1, ?_, ?_, ?_, ?_, ?_, ?_⟩, ?_⟩
          · simp (disch := omega) only [up_s, up_n, List.length_tail]
          · simp (disch := omega) only [up_s, up_n]
          · intro i hi
            rcases (show i = 0 ∨ i = 1 ∨ i = 2 ∨ i = 3 by omega) with rfl | rfl | rfl | rfl <;> rfl
          · rw [List.length_tail]; omega
          · intro i hi
            rw [List.length_tail] at hi
            rw [List.getElem_tail]
            have e := (h6 (i + 1) (by omega))
            have e2 : rot sv i = sv (i + 1) := by
              rcases (show i = 0 ∨ i = 1 ∨ i = 2 by omega) with rfl | rfl | rfl <;> rfl
            rw [e2]
            obtain ⟨k, k1, k2⟩ := h1.1 (i + 1) (by omega)
            exact e.fr (fun k z4 z5 => by simp (disch := omega) only [up_n])
          · intro i hi
            obtain ⟨k, k1, k2⟩ := (rot_ok h1).1 i hi
            have : ∃ j, j < 4 ∧ rot sv i = sv j := by
              rcases (show i = 0 ∨ i = 1 ∨ i = 2 ∨ i = 3 by omega) with rfl | rfl | rfl | rfl
              · exact ⟨1, by omega, rfl⟩
              · exact ⟨2, by omega, rfl⟩
              · exact ⟨3, by omega, rfl⟩
              · exact ⟨0, by omega, rfl⟩
            obtain ⟨j, j1, j2⟩ := this
            obtain ⟨σ, hσ⟩ := h7 j j1
            rw [← j2] at hσ
            exact ⟨σ, hσ.fr (fun k z4 z5 => by simp (disch := omega) only [up_n])⟩
          · intro k k1 k2
            simp (disch := omega) only [up_n]
        · exact absurd (by decide) c11
set_option maxRecDepth 20000 in
set_option maxHeartbeats 1000000 in
theorem k_X1_sv {c : Nat → VC} {g : VG} {H : Nat} {A : Nat} {σ : Sg} {hs : List Sg} (h : HistAt c H hs) (hap : A + 74 ≤ H ∨ H + 298 ≤ A) (hS : ShopAt c A σ) (hl : hs.length < 4) : Xm M_X1_save 12 [some (.ref H), some (.ref A)] [] (g, c) (Ev g (fun c' => HistAt c' H (hs ++ [σ]) ∧ ∀ k, (k < H ∨ H + 298 ≤ k) → c' k = c k)) := by
  have h9 := h
  obtain ⟨sv, f, h1, h2, h3, h4, h5, h6, h7⟩ := h
  obtain ⟨σ9, hσ9⟩ := h7 hs.length hl
  obtain ⟨k9, k91, k92⟩ := h1.1 hs.length hl
  have o9 := hσ9.1
  refine x_aload_n dX1_save_12 rfl ?_
  refine x_getfield dX1_save_13 rfl (by decide) (by first | assumption | (simp (disch := omega) only [up_s, up_n]; first | assumption | rfl)) rfl ?_
  refine x_if_lt 54 dX1_save_16 (by decide) (fun c16 => ?_) (fun c16 => ?_)
  · exact absurd c16 (nI_pos (by omega))
  · refine x_aload_n dX1_save_19 rfl ?_
    refine x_getfield dX1_save_20 rfl (by decide) (by first | assumption | (simp (disch := omega) only [up_s, up_n]; first | assumption | rfl)) rfl ?_
    refine x_aload_n dX1_save_23 rfl ?_
    refine x_getfield dX1_save_24 rfl (by decide) (by first | assumption | (simp (disch := omega) only [up_s, up_n]; first | assumption | rfl)) rfl ?_
    refine x_alenR dX1_save_27 (by first | assumption | (simp (disch := omega) only [up_s, up_n]; first | assumption | rfl)) ?_
    refine x_icmp_ge 54 dX1_save_28 (by decide) (fun c28 => ?_) (fun c28 => ?_)
    · exact absurd ((nI_leI (by omega) (by omega)).mp c28) (by omega)
    · refine x_aload_n dX1_save_31 rfl ?_
      refine x_getfield dX1_save_32 rfl (by decide) (by first | assumption | (simp (disch := omega) only [up_s, up_n]; first | assumption | rfl)) rfl ?_
      refine x_aload_n dX1_save_35 rfl ?_
      refine x_getfield dX1_save_36 rfl (by decide) (by first | assumption | (simp (disch := omega) only [up_s, up_n]; first | assumption | rfl)) rfl ?_
      refine x_aaloadN dX1_save_39 (by first | assumption | (simp (disch := omega) only [up_s, up_n]; first | assumption | rfl)) hl (by omega) (h4 _ hl) ?_
      refine x_aload_n dX1_save_40 rfl ?_
      refine x_cv2 dX1_save_41 rfl (by first | assumption | (simp (disch := omega) only [up_s, up_n]; first | assumption | rfl)) rfl ?_
      refine Cm.ev (s_X3_copyFrom hσ9 hS (by omega)) (fun c1 q1 => ?_)
      have e9 := (q1.2 H (by omega)).trans h2
      refine x_aload_n dX1_save_44 rfl ?_
      refine x_dup dX1_save_45 rfl ?_
      refine x_getfield dX1_save_46 rfl (by decide) (by first | assumption | (simp (disch := omega) only [up_s, up_n]; first | assumption | rfl)) rfl ?_
      refine x_iconst (nI 1) dX1_save_49 (by decide) ?_
      refine x_iaddN dX1_save_50 ?_
      refine x_putfield1 dX1_save_51 rfl (by first | assumption | (simp (disch := omega) only [up_s, up_n]; first | assumption | rfl)) rfl ?_
      refine x_return dX1_save_54 ?_
      refine ⟨_, rfl, rfl, ⟨sv, f, h1, ?_, ?_, h4, ?_, ?_, ?_⟩, ?_⟩
      · simp (disch := omega) only [up_s, up_n, List.length_append, List.length_singleton]
      · simp (disch := omega) only [up_s, up_n]
        rw [q1.2 _ (by omega)]; exact h3
      · simp only [List.length_append, List.length_singleton]; omega
      · intro i hi
        simp only [List.length_append, List.length_singleton] at hi
        by_cases z : i < hs.length
        · rw [List.getElem_append_left z]
          obtain ⟨k8, k81, k82⟩ := h1.1 i (by omega)
          have hne : sv i ≠ sv hs.length := fun q => by have := h1.2 _ _ (by omega) hl q; omega
          have hne2 : k8 ≠ k9 := fun q => hne (by omega)
          exact ((h6 i z).fr (fun k z4 z5 => q1.2 k (by omega))).fr (fun k z4 z5 => by simp (disch := omega) only [up_n])
        · have e1 : i = hs.length := by omega
          subst e1
          rw [List.getElem_append_right (Nat.le_refl _)]
          simp only [Nat.sub_self, List.getElem_cons_zero]
          exact q1.1.fr (fun k z4 z5 => by simp (disch := omega) only [up_n])
      · intro i hi
        obtain ⟨k8, k81, k82⟩ := h1.1 i hi
        by_cases z : i = hs.length
        · subst z
          exact ⟨σ, q1.1.fr (fun k z4 z5 => by simp (disch := omega) only [up_n])⟩
        · have hne : sv i ≠ sv hs.length := fun q => z (h1.2 _ _ hi hl q)
          have hne2 : k8 ≠ k9 := fun q => hne (by omega)
          obtain ⟨σ8, hσ8⟩ := h7 i hi
          exact ⟨σ8, (hσ8.fr (fun k z4 z5 => q1.2 k (by omega))).fr (fun k z4 z5 => by simp (disch := omega) only [up_n])⟩
      · intro k z4
        simp (disch := omega) only [up_n]
        exact q1.2 k (by omega)
set_option maxRecDepth 20000 in
set_option maxHeartbeats 1000000 in
theorem s_X1_save {c : Nat → VC} {g : VG} {H : Nat} {A : Nat} {σ : Sg} {hs : List Sg} (h : HistAt c H hs) (hap : A + 74 ≤ H ∨ H + 298 ≤ A) (hS : ShopAt c A σ) : Cm k_X1_save [.ref H, .ref A] (g, c) (Ev g (fun c' => HistAt c' H (saveH hs σ) ∧ ∀ k, (k < H ∨ H + 298 ≤ k) → c' k = c k)) := by
  have h9 := h
  obtain ⟨sv, f, h1, h2, h3, h4, h5, h6, h7⟩ := h
  refine Cm.in (M := M_X1_save) (ls := [some (.ref H), some (.ref A)]) rfl rfl ?_
  refine x_aload_n dX1_save_0 rfl ?_
  refine x_getfield dX1_save_1 rfl (by decide) (by first | assumption | (simp (disch := omega) only [up_s, up_n]; first | assumption | rfl)) rfl ?_
  refine x_iconst (nI 4) dX1_save_4 (by decide) ?_
  refine x_icmp_lt 12 dX1_save_5 (by decide) (fun c5 => ?_) (fun c5 => ?_)
  · have e1 : hs.length < 4 := (nI_ltI (by omega) (by omega)).mp c5
    have e2 : saveH hs σ = hs ++ [σ] := by unfold saveH; rw [if_neg (by omega)]
    rw [e2]
    first
      | exact k_X1_sv h9 hap hS e1
      | (refine (k_X1_sv q1.1 hap hS1 (by rw [List.length_tail]; omega)).mono (fun r h' q => ?_)
         obtain ⟨c2, rfl, rfl, q2, q3⟩ := q
         exact ⟨c2, rfl, rfl, q2, fun k z4 => (q3 k z4).trans (q1.2 k (by omega) (by omega))⟩)
  · have e1 : hs.length = 4 := by
      by_cases z : hs.length < 4
      · exact absurd ((nI_ltI (by omega) (by omega)).mpr z) c5
      · omega
    have e2 : saveH hs σ = hs.tail ++ [σ] := by unfold saveH; rw [if_pos e1]
    rw [e2]
    refine x_aload_n dX1_save_8 rfl ?_
    refine x_cv1 dX1_save_9 rfl (by first | assumption | (simp (disch := omega) only [up_s, up_n]; first | assumption | rfl)) rfl ?_
    refine Cm.ev (s_X1_dropOldest h9 e1) (fun c1 q1 => ?_)
    have hS1 := hS.fr (c' := c1) (fun k z4 z5 => q1.2 k (by omega) (by omega))
    first
      | exact k_X1_sv h9 hap hS e1
      | (refine (k_X1_sv q1.1 hap hS1 (by rw [List.length_tail]; omega)).mono (fun r h' q => ?_)
         obtain ⟨c2, rfl, rfl, q2, q3⟩ := q
         exact ⟨c2, rfl, rfl, q2, fun k z4 => (q3 k z4).trans (q1.2 k (by omega) (by omega))⟩)
set_option maxRecDepth 20000 in
set_option maxHeartbeats 1000000 in
theorem s_X1_restore {c : Nat → VC} {g : VG} {H A : Nat} {σ τ : Sg} {hs : List Sg} (h : HistAt c H (hs ++ [τ])) (hap : A + 74 ≤ H ∨ H + 298 ≤ A) (hS : ShopAt c A σ) : Cm k_X1_restore [.ref H, .ref A] (g, c) (Ev g (fun c' => HistAt c' H hs ∧ ShopAt c' A τ ∧ ∀ k, (k < H ∨ H + 298 ≤ k) → (k < A ∨ A + 74 ≤ k) → c' k = c k)) := by
  have h9 := h
  obtain ⟨sv, f, h1, h2, h3, h4, h5, h6, h7⟩ := h
  have hlen : (hs ++ [τ]).length = hs.length + 1 := by simp
  rw [hlen] at h2 h5
  have hτ := h6 hs.length (by omega)
  rw [List.getElem_append_right (Nat.le_refl _)] at hτ
  simp only [Nat.sub_self, List.getElem_cons_zero] at hτ
  obtain ⟨k9, k91, k92⟩ := h1.1 hs.length (by omega)
  refine Cm.in (M := M_X1_restore) (ls := [some (.ref H), some (.ref A)]) rfl rfl ?_
  refine x_aload_n dX1_restore_0 rfl ?_
  refine x_getfield dX1_restore_1 rfl (by decide) (by first | assumption | (simp (disch := omega) only [up_s, up_n]; first | assumption | rfl)) rfl ?_
  refine x_iconst (nI 1) dX1_restore_4 (by decide) ?_
  refine x_icmp_lt 43 dX1_restore_5 (by decide) (fun c5 => ?_) (fun c5 => ?_)
  · exact absurd ((nI_ltI (by omega) (by omega)).mp c5) (by omega)
  · refine x_aload_n dX1_restore_8 rfl ?_
    refine x_getfield dX1_restore_9 rfl (by decide) (by first | assumption | (simp (disch := omega) only [up_s, up_n]; first | assumption | rfl)) rfl ?_
    refine x_aload_n dX1_restore_12 rfl ?_
    refine x_getfield dX1_restore_13 rfl (by decide) (by first | assumption | (simp (disch := omega) only [up_s, up_n]; first | assumption | rfl)) rfl ?_
    refine x_alenR dX1_restore_16 (by first | assumption | (simp (disch := omega) only [up_s, up_n]; first | assumption | rfl)) ?_
    refine x_icmp_gt 43 dX1_restore_17 (by decide) (fun c17 => ?_) (fun c17 => ?_)
    · exact absurd ((nI_ltI (by omega) (by omega)).mp c17) (by omega)
    · refine x_aload_n dX1_restore_20 rfl ?_
      refine x_dup dX1_restore_21 rfl ?_
      refine x_getfield dX1_restore_22 rfl (by decide) (by first | assumption | (simp (disch := omega) only [up_s, up_n]; first | assumption | rfl)) rfl ?_
      refine x_iconst (nI 1) dX1_restore_25 (by decide) ?_
      refine x_isubN dX1_restore_26 (by omega) ?_
      rw [show hs.length + 1 - 1 = hs.length by omega]
      refine x_putfield1 dX1_restore_27 rfl (by first | assumption | (simp (disch := omega) only [up_s, up_n]; first | assumption | rfl)) rfl ?_
      refine x_aload_n dX1_restore_30 rfl ?_
      refine x_aload_n dX1_restore_31 rfl ?_
      refine x_getfield dX1_restore_32 rfl (by decide) (by first | assumption | (simp (disch := omega) only [up_s, up_n]; first | assumption | rfl)) rfl ?_
      refine x_aload_n dX1_restore_35 rfl ?_
      refine x_getfield dX1_restore_36 rfl (by decide) (by first | assumption | (simp (disch := omega) only [up_s, up_n]; first | assumption | rfl)) rfl ?_
      refine x_aaloadN dX1_restore_39 (by first | assumption | (simp (disch := omega) only [up_s, up_n]; first | assumption | rfl)) (by omega) (by omega) (h4 _ (by omega)) ?_
      have o9 := hτ.1
      have oA := hS.1
      refine x_cv2 dX1_restore_40 rfl (by first | assumption | (simp (disch := omega) only [up_s, up_n]; first | assumption | rfl)) rfl ?_
      have hS1 := hS.fr (c' := up c H (cO 1 [.ref (H + 1), .int (nI hs.length)])) (fun k z4 z5 => up_n (by omega))
      have hτ1 := hτ.fr (c' := up c H (cO 1 [.ref (H + 1), .int (nI hs.length)])) (fun k z4 z5 => up_n (by omega))
      refine Cm.ev (s_X3_copyFrom hS1 hτ1 (by omega)) (fun c1 q1 => ?_)
      refine x_return dX1_restore_43 ?_
      refine ⟨c1, rfl, rfl, ?_, q1.1, ?_⟩
      · refine HistAt.fr (c := up c H (cO 1 [.ref (H + 1), .int (nI hs.length)])) ⟨sv, f, h1, up_s, by rw [up_n (by omega)]; exact h3, h4, by omega, ?_, ?_⟩ (fun k z4 z5 => q1.2 k (by omega))
        · intro i hi
          obtain ⟨k8, k81, k82⟩ := h1.1 i (by omega)
          have := h6 i (by omega)
          rw [List.getElem_append_left hi] at this
          exact this.fr (fun k z4 z5 => up_n (by omega))
        · intro i hi
          obtain ⟨k8, k81, k82⟩ := h1.1 i hi
          obtain ⟨σ8, hσ8⟩ := h7 i hi
          exact ⟨σ8, hσ8.fr (fun k z4 z5 => up_n (by omega))⟩
      · intro k z4 z5
        rw [q1.2 k z5, up_n (by omega)]
