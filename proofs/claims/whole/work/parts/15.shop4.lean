/-! the shop: its counts, its copy -/
def sumN (h : Nat → Nat) : Nat → Nat
  | 0 => 0
  | n + 1 => sumN h n + h n
theorem SB_sum {B : Bx} : ∀ n, sbN B n = sumN (fun b => (B b).length) n
  | 0 => rfl
  | n + 1 => by show sbN B n + _ = sumN _ n + _; rw [SB_sum n]
abbrev Fx : Type := Nat → List (List Pl)
/-- the ends of the lines -/
def endsL (L : List (List Pl)) : List Nat := (List.range L.length).map (fun k => (L.take (k + 1)).flatten.length)
theorem endsL_len {L : List (List Pl)} : (endsL L).length = L.length := by unfold endsL; simp
def LnOK (L : List (List Pl)) : Prop := L.length ≤ 5 ∧ ∀ l ∈ L, 1 ≤ l.length ∧ l.length ≤ 16
def FormeAt (c : Nat → VC) (p : Nat) (L : List (List Pl)) : Prop := FlatAt c p L.flatten (endsL L) ∧ LnOK L
def FmAt (c : Nat → VC) (A : Nat) (F : Fx) : Prop := (∃ f, c (A + 2) = cR 0 3 f ∧ ∀ j, j < 3 → f j = some (A + 59 + 5 * j)) ∧ ∀ j, j < 3 → FormeAt c (A + 59 + 5 * j) (F j)
theorem FormeAt.fr {c c' : Nat → VC} {p : Nat} {L : List (List Pl)} (h : FormeAt c p L) (hc : ∀ k, p ≤ k → k < p + 5 → c' k = c k) : FormeAt c' p L := ⟨h.1.fr hc, h.2⟩
theorem FmAt.fr {c c' : Nat → VC} {A : Nat} {F : Fx} (h : FmAt c A F) (h2 : c' (A + 2) = c (A + 2)) (hc : ∀ k, A + 59 ≤ k → k < A + 74 → c' k = c k) : FmAt c' A F := by
  obtain ⟨⟨f, q1, q2⟩, h3⟩ := h
  exact ⟨⟨f, by rw [h2]; exact q1, q2⟩, fun j hj => (h3 j hj).fr (fun k z1 z2 => hc k (by omega) (by omega))⟩
theorem FmAt.set {c c' : Nat → VC} {A j : Nat} {F : Fx} {L : List (List Pl)} (h : FmAt c A F) (hj : j < 3) (hr : FormeAt c' (A + 59 + 5 * j) L) (h2 : c' (A + 2) = c (A + 2)) (hf : ∀ k, A + 59 ≤ k → k < A + 74 → (k < A + 59 + 5 * j ∨ A + 59 + 5 * j + 5 ≤ k) → c' k = c k) : FmAt c' A (uf F j L) := by
  obtain ⟨⟨f, q1, q2⟩, h3⟩ := h
  refine ⟨⟨f, by rw [h2]; exact q1, q2⟩, fun i hi => ?_⟩
  by_cases e : i = j
  · subst e; rw [uf_s]; exact hr
  · rw [uf_n e]; exact (h3 i hi).fr (fun k z1 z2 => hf k (by omega) (by omega) (by omega))
abbrev Sg : Type := Bx × Fx × List Nat × Int32 × Int32 × Int32 × Int32 × Int32
def ShopAt (c : Nat → VC) (A : Nat) (σ : Sg) : Prop := ObAt c A σ.2.2.2.1 σ.2.2.2.2.1 σ.2.2.2.2.2.1 σ.2.2.2.2.2.2.1 σ.2.2.2.2.2.2.2 ∧ BoxAt c A σ.1 ∧ FmAt c A σ.2.1 ∧ RowAt c (A + 3) (A + 4) 250 σ.2.2.1
theorem ShopAt.fr {c c' : Nat → VC} {A : Nat} {σ : Sg} (h : ShopAt c A σ) (hc : ∀ k, A ≤ k → k < A + 74 → c' k = c k) : ShopAt c' A σ :=
  ⟨(hc A (by omega) (by omega)).trans h.1, h.2.1.fr (fun k z1 z2 => hc k (by omega) (by omega)), h.2.2.1.fr (hc _ (by omega) (by omega)) (fun k z1 z2 => hc k (by omega) (by omega)), h.2.2.2.fr (hc _ (by omega) (by omega)) (hc _ (by omega) (by omega))⟩
set_option maxRecDepth 20000 in
set_option maxHeartbeats 1000000 in
theorem s_X3_formeOf {c : Nat → VC} {g : VG} {A : Nat} {sl pr co mi go : Int32} {F : Fx} (hO : ObAt c A sl pr co mi go) (hF : FmAt c A F) {j : Nat} (hj : j < 3) : Cm k_X3_formeOf [.ref A, .int (nI j)] (g, c) (Rt (.ref (A + 59 + 5 * j)) (g, c)) := by
  obtain ⟨⟨f, hf1, hf2⟩, hF3⟩ := hF
  refine Cm.in (M := M_X3_formeOf) (ls := [some (.ref A), some (.int (nI j))]) rfl rfl ?_
  refine x_aload_n dX3_formeOf_0 rfl ?_
  refine x_getfield dX3_formeOf_1 rfl (by decide) (by first | assumption | (simp (disch := omega) only [up_s, up_n]; first | assumption | rfl)) rfl ?_
  refine x_iload_n dX3_formeOf_4 rfl ?_
  refine x_iconst (nI 3) dX3_formeOf_5 (by decide) ?_
  refine x_cs2 dX3_formeOf_6 rfl ?_
  refine Cm.rt (s_J9_floorMod (by omega) (by omega) (by omega)) ?_
  rw [Nat.mod_eq_of_lt hj]
  refine x_aaloadN dX3_formeOf_9 (by first | assumption | (simp (disch := omega) only [up_s, up_n]; first | assumption | rfl)) (by omega) (by omega) (hf2 _ hj) ?_
  refine x_areturn dX3_formeOf_10 ?_
  exact ⟨rfl, rfl⟩
set_option maxRecDepth 20000 in
set_option maxHeartbeats 1000000 in
theorem l_X3_sortsInBoxes {c : Nat → VC} {g : VG} {A : Nat} {B : Bx} (hB : BoxAt c A B) : ∀ (m i : Nat) (o5 : Option Value), i ≤ 27 → 27 < i + m → Xm M_X3_sortsInBoxes 13 [some (.ref A), some (.int (nI (sumN (fun b => (B b).length) i))), some (.ref (A + 1)), some (.int (nI 27)), some (.int (nI i)), o5] [] (g, c) (Rt (.int (nI (sumN (fun b => (B b).length) 27))) (g, c)) := by
  obtain ⟨⟨f, hf1, hf2⟩, hrow⟩ := hB
  intro m
  induction m with
  | zero => intro i o5 z1 z2; omega
  | succ m ih =>
    intro i o5 z1 z2
    refine x_iload dX3_sortsInBoxes_13 rfl ?_
    refine x_iload_n dX3_sortsInBoxes_15 rfl ?_
    refine x_icmp_ge 39 dX3_sortsInBoxes_16 (by decide) (fun c16 => ?_) (fun c16 => ?_)
    · have e1 : i = 27 := by have := (nI_leI (by omega) (by omega)).mp c16; omega
      subst e1
      refine x_iload_n dX3_sortsInBoxes_39 rfl ?_
      refine x_ireturn dX3_sortsInBoxes_40 ?_
      exact ⟨rfl, rfl⟩
    · have hi : i < 27 := by
        by_cases z : i < 27
        · exact z
        · exact absurd ((nI_leI (by omega) (by omega)).mpr (by omega)) c16
      have hk := (hrow i hi).2.1
      refine x_aload_n dX3_sortsInBoxes_19 rfl ?_
      refine x_iload dX3_sortsInBoxes_20 rfl ?_
      refine x_aaloadN dX3_sortsInBoxes_22 (by first | assumption | (simp (disch := omega) only [up_s, up_n]; first | assumption | rfl)) hi (by omega) (hf2 i hi) ?_
      refine x_astore_5 dX3_sortsInBoxes_23 rfl ?_
      refine x_iload_n dX3_sortsInBoxes_25 rfl ?_
      refine x_aload dX3_sortsInBoxes_26 rfl ?_
      refine x_cv1 dX3_sortsInBoxes_28 rfl (by first | assumption | (simp (disch := omega) only [up_s, up_n]; first | assumption | rfl)) rfl ?_
      refine Cm.rt (s_X2_size (hrow i hi)) ?_
      refine x_iaddN dX3_sortsInBoxes_31 ?_
      refine x_istore_n1 dX3_sortsInBoxes_32 rfl ?_
      refine x_iincN_4 (1) dX3_sortsInBoxes_33 (by decide) rfl ?_
      refine x_goto 13 dX3_sortsInBoxes_36 (by decide) ?_
      exact ih (i + 1) _ (by omega) (by omega)
set_option maxRecDepth 20000 in
set_option maxHeartbeats 1000000 in
theorem s_X3_sortsInBoxes {c : Nat → VC} {g : VG} {A : Nat} {sl pr co mi go : Int32} {B : Bx} (hO : ObAt c A sl pr co mi go) (hB : BoxAt c A B) : Cm k_X3_sortsInBoxes [.ref A] (g, c) (Rt (.int (nI (SB B))) (g, c)) := by
  obtain ⟨f, hf1, hf2⟩ := hB.1
  unfold SB
  rw [SB_sum]
  refine Cm.in (M := M_X3_sortsInBoxes) (ls := [some (.ref A), none, none, none, none, none]) rfl rfl ?_
  refine x_iconst (nI 0) dX3_sortsInBoxes_0 (by decide) ?_
  refine x_istore_n1 dX3_sortsInBoxes_1 rfl ?_
  refine x_aload_n dX3_sortsInBoxes_2 rfl ?_
  refine x_getfield dX3_sortsInBoxes_3 rfl (by decide) (by first | assumption | (simp (disch := omega) only [up_s, up_n]; first | assumption | rfl)) rfl ?_
  refine x_astore_n2 dX3_sortsInBoxes_6 rfl ?_
  refine x_aload_n dX3_sortsInBoxes_7 rfl ?_
  refine x_alenR dX3_sortsInBoxes_8 (by first | assumption | (simp (disch := omega) only [up_s, up_n]; first | assumption | rfl)) ?_
  refine x_istore_n3 dX3_sortsInBoxes_9 rfl ?_
  refine x_iconst (nI 0) dX3_sortsInBoxes_10 (by decide) ?_
  refine x_istore_4 dX3_sortsInBoxes_11 rfl ?_
  exact l_X3_sortsInBoxes hB 28 0 none (by omega) (by omega)
set_option maxRecDepth 20000 in
set_option maxHeartbeats 1000000 in
theorem l_X3_countInBoxes {c : Nat → VC} {g : VG} {A : Nat} {B : Bx} (hB : BoxAt c A B) {x : Nat} (hx : x < 27) : ∀ (m i : Nat) (o6 : Option Value), i ≤ 27 → 27 < i + m → Xm M_X3_countInBoxes 14 [some (.ref A), some (.int (nI x)), some (.int (nI (sumN (fun b => (B b).count x) i))), some (.ref (A + 1)), some (.int (nI 27)), some (.int (nI i)), o6] [] (g, c) (Rt (.int (nI (sumN (fun b => (B b).count x) 27))) (g, c)) := by
  obtain ⟨⟨f, hf1, hf2⟩, hrow⟩ := hB
  intro m
  induction m with
  | zero => intro i o6 z1 z2; omega
  | succ m ih =>
    intro i o6 z1 z2
    refine x_iload dX3_countInBoxes_14 rfl ?_
    refine x_iload dX3_countInBoxes_16 rfl ?_
    refine x_icmp_ge 42 dX3_countInBoxes_18 (by decide) (fun c18 => ?_) (fun c18 => ?_)
    · have e1 : i = 27 := by have := (nI_leI (by omega) (by omega)).mp c18; omega
      subst e1
      refine x_iload_n dX3_countInBoxes_42 rfl ?_
      refine x_ireturn dX3_countInBoxes_43 ?_
      exact ⟨rfl, rfl⟩
    · have hi : i < 27 := by
        by_cases z : i < 27
        · exact z
        · exact absurd ((nI_leI (by omega) (by omega)).mpr (by omega)) c18
      have hk := (hrow i hi).2.1
      refine x_aload_n dX3_countInBoxes_21 rfl ?_
      refine x_iload dX3_countInBoxes_22 rfl ?_
      refine x_aaloadN dX3_countInBoxes_24 (by first | assumption | (simp (disch := omega) only [up_s, up_n]; first | assumption | rfl)) hi (by omega) (hf2 i hi) ?_
      refine x_astore_6 dX3_countInBoxes_25 rfl ?_
      refine x_iload_n dX3_countInBoxes_27 rfl ?_
      refine x_aload dX3_countInBoxes_28 rfl ?_
      refine x_iload_n dX3_countInBoxes_30 rfl ?_
      refine x_cv2 dX3_countInBoxes_31 rfl (by first | assumption | (simp (disch := omega) only [up_s, up_n]; first | assumption | rfl)) rfl ?_
      refine Cm.rt (s_X2_countOf (hrow i hi) (by omega)) ?_
      refine x_iaddN dX3_countInBoxes_34 ?_
      refine x_istore_n2 dX3_countInBoxes_35 rfl ?_
      refine x_iincN_5 (1) dX3_countInBoxes_36 (by decide) rfl ?_
      refine x_goto 14 dX3_countInBoxes_39 (by decide) ?_
      exact ih (i + 1) _ (by omega) (by omega)
set_option maxRecDepth 20000 in
set_option maxHeartbeats 1000000 in
theorem s_X3_countInBoxes {c : Nat → VC} {g : VG} {A : Nat} {sl pr co mi go : Int32} {B : Bx} (hO : ObAt c A sl pr co mi go) (hB : BoxAt c A B) {x : Nat} (hx : x < 27) : Cm k_X3_countInBoxes [.ref A, .int (nI x)] (g, c) (Rt (.int (nI (sumN (fun b => (B b).count x) 27))) (g, c)) := by
  obtain ⟨f, hf1, hf2⟩ := hB.1
  refine Cm.in (M := M_X3_countInBoxes) (ls := [some (.ref A), some (.int (nI x)), none, none, none, none, none]) rfl rfl ?_
  refine x_iconst (nI 0) dX3_countInBoxes_0 (by decide) ?_
  refine x_istore_n2 dX3_countInBoxes_1 rfl ?_
  refine x_aload_n dX3_countInBoxes_2 rfl ?_
  refine x_getfield dX3_countInBoxes_3 rfl (by decide) (by first | assumption | (simp (disch := omega) only [up_s, up_n]; first | assumption | rfl)) rfl ?_
  refine x_astore_n3 dX3_countInBoxes_6 rfl ?_
  refine x_aload_n dX3_countInBoxes_7 rfl ?_
  refine x_alenR dX3_countInBoxes_8 (by first | assumption | (simp (disch := omega) only [up_s, up_n]; first | assumption | rfl)) ?_
  refine x_istore_4 dX3_countInBoxes_9 rfl ?_
  refine x_iconst (nI 0) dX3_countInBoxes_11 (by decide) ?_
  refine x_istore_5 dX3_countInBoxes_12 rfl ?_
  exact l_X3_countInBoxes hB hx 28 0 none (by omega) (by omega)
set_option maxRecDepth 20000 in
set_option maxHeartbeats 1000000 in
theorem l_X3_foulSorts {c : Nat → VC} {g : VG} {A : Nat} {sl pr co mi go : Int32} {B : Bx} (hO : ObAt c A sl pr co mi go) (hB : BoxAt c A B) : ∀ (m i : Nat), i ≤ 27 → 27 < i + m → Xm M_X3_foulSorts 4 [some (.ref A), some (.int (nI (sumN (foul B) i))), some (.int (nI i))] [] (g, c) (Rt (.int (nI (sumN (foul B) 27))) (g, c)) := by
  intro m
  induction m with
  | zero => intro i z1 z2; omega
  | succ m ih =>
    intro i z1 z2
    refine x_iload_n dX3_foulSorts_4 rfl ?_
    refine x_bipush (nI 27) dX3_foulSorts_5 (by decide) ?_
    refine x_icmp_ge 37 dX3_foulSorts_7 (by decide) (fun c7 => ?_) (fun c7 => ?_)
    · have e1 : i = 27 := by have := (nI_leI (by omega) (by omega)).mp c7; omega
      subst e1
      refine x_iload_n dX3_foulSorts_37 rfl ?_
      refine x_ireturn dX3_foulSorts_38 ?_
      exact ⟨rfl, rfl⟩
    · have hi : i < 27 := by
        by_cases z : i < 27
        · exact z
        · exact absurd ((nI_leI (by omega) (by omega)).mpr (by omega)) c7
      have hk := (hB.2 i hi).2.1
      refine x_iload_n dX3_foulSorts_10 rfl ?_
      refine x_aload_n dX3_foulSorts_11 rfl ?_
      refine x_iload_n dX3_foulSorts_12 rfl ?_
      refine x_cv2 dX3_foulSorts_13 rfl (by first | assumption | (simp (disch := omega) only [up_s, up_n]; first | assumption | rfl)) rfl ?_
      refine Cm.rt (s_X3_boxOf' hO hB hi) ?_
      refine x_cv1 dX3_foulSorts_16 rfl (by first | assumption | (simp (disch := omega) only [up_s, up_n]; first | assumption | rfl)) rfl ?_
      refine Cm.rt (s_X2_size (hB.2 i hi)) ?_
      refine x_aload_n dX3_foulSorts_19 rfl ?_
      refine x_iload_n dX3_foulSorts_20 rfl ?_
      refine x_cv2 dX3_foulSorts_21 rfl (by first | assumption | (simp (disch := omega) only [up_s, up_n]; first | assumption | rfl)) rfl ?_
      refine Cm.rt (s_X3_boxOf' hO hB hi) ?_
      refine x_iload_n dX3_foulSorts_24 rfl ?_
      refine x_cv2 dX3_foulSorts_25 rfl (by first | assumption | (simp (disch := omega) only [up_s, up_n]; first | assumption | rfl)) rfl ?_
      refine Cm.rt (s_X2_countOf (hB.2 i hi) (by omega)) ?_
      refine x_isubN dX3_foulSorts_28 List.count_le_length ?_
      refine x_iaddN dX3_foulSorts_29 ?_
      refine x_istore_n1 dX3_foulSorts_30 rfl ?_
      refine x_iincN_2 (1) dX3_foulSorts_31 (by decide) rfl ?_
      refine x_goto 4 dX3_foulSorts_34 (by decide) ?_
      exact ih (i + 1) (by omega) (by omega)
set_option maxRecDepth 20000 in
set_option maxHeartbeats 1000000 in
theorem s_X3_foulSorts {c : Nat → VC} {g : VG} {A : Nat} {sl pr co mi go : Int32} {B : Bx} (hO : ObAt c A sl pr co mi go) (hB : BoxAt c A B) : Cm k_X3_foulSorts [.ref A] (g, c) (Rt (.int (nI (sumN (foul B) 27))) (g, c)) := by
  refine Cm.in (M := M_X3_foulSorts) (ls := [some (.ref A), none, none]) rfl rfl ?_
  refine x_iconst (nI 0) dX3_foulSorts_0 (by decide) ?_
  refine x_istore_n1 dX3_foulSorts_1 rfl ?_
  refine x_iconst (nI 0) dX3_foulSorts_2 (by decide) ?_
  refine x_istore_n2 dX3_foulSorts_3 rfl ?_
  exact l_X3_foulSorts hO hB 28 0 (by omega) (by omega)
set_option maxRecDepth 20000 in
set_option maxHeartbeats 1000000 in
theorem l_X3_sortsInFormes {c : Nat → VC} {g : VG} {A : Nat} {F : Fx} (hF : FmAt c A F) : ∀ (m i : Nat) (o5 : Option Value), i ≤ 3 → 3 < i + m → Xm M_X3_sortsInFormes 13 [some (.ref A), some (.int (nI (sumN (fun j => (F j).flatten.length) i))), some (.ref (A + 2)), some (.int (nI 3)), some (.int (nI i)), o5] [] (g, c) (Rt (.int (nI (sumN (fun j => (F j).flatten.length) 3))) (g, c)) := by
  obtain ⟨⟨f, hf1, hf2⟩, hF3⟩ := hF
  intro m
  induction m with
  | zero => intro i o5 z1 z2; omega
  | succ m ih =>
    intro i o5 z1 z2
    refine x_iload dX3_sortsInFormes_13 rfl ?_
    refine x_iload_n dX3_sortsInFormes_15 rfl ?_
    refine x_icmp_ge 39 dX3_sortsInFormes_16 (by decide) (fun c16 => ?_) (fun c16 => ?_)
    · have e1 : i = 3 := by have := (nI_leI (by omega) (by omega)).mp c16; omega
      subst e1
      refine x_iload_n dX3_sortsInFormes_39 rfl ?_
      refine x_ireturn dX3_sortsInFormes_40 ?_
      exact ⟨rfl, rfl⟩
    · have hi : i < 3 := by
        by_cases z : i < 3
        · exact z
        · exact absurd ((nI_leI (by omega) (by omega)).mpr (by omega)) c16
      have hk := (hF3 i hi).1.choose_spec.choose_spec.choose_spec.choose_spec.1
      refine x_aload_n dX3_sortsInFormes_19 rfl ?_
      refine x_iload dX3_sortsInFormes_20 rfl ?_
      refine x_aaloadN dX3_sortsInFormes_22 (by first | assumption | (simp (disch := omega) only [up_s, up_n]; first | assumption | rfl)) hi (by omega) (hf2 i hi) ?_
      refine x_astore_5 dX3_sortsInFormes_23 rfl ?_
      refine x_iload_n dX3_sortsInFormes_25 rfl ?_
      refine x_aload dX3_sortsInFormes_26 rfl ?_
      refine x_cv1 dX3_sortsInFormes_28 rfl (by first | assumption | (simp (disch := omega) only [up_s, up_n]; first | assumption | rfl)) rfl ?_
      refine Cm.rt (s_X0_size (hF3 i hi).1) ?_
      refine x_iaddN dX3_sortsInFormes_31 ?_
      refine x_istore_n1 dX3_sortsInFormes_32 rfl ?_
      refine x_iincN_4 (1) dX3_sortsInFormes_33 (by decide) rfl ?_
      refine x_goto 13 dX3_sortsInFormes_36 (by decide) ?_
      exact ih (i + 1) _ (by omega) (by omega)
set_option maxRecDepth 20000 in
set_option maxHeartbeats 1000000 in
theorem s_X3_sortsInFormes {c : Nat → VC} {g : VG} {A : Nat} {sl pr co mi go : Int32} {F : Fx} (hO : ObAt c A sl pr co mi go) (hF : FmAt c A F) : Cm k_X3_sortsInFormes [.ref A] (g, c) (Rt (.int (nI (sumN (fun j => (F j).flatten.length) 3))) (g, c)) := by
  obtain ⟨f, hf1, hf2⟩ := hF.1
  refine Cm.in (M := M_X3_sortsInFormes) (ls := [some (.ref A), none, none, none, none, none]) rfl rfl ?_
  refine x_iconst (nI 0) dX3_sortsInFormes_0 (by decide) ?_
  refine x_istore_n1 dX3_sortsInFormes_1 rfl ?_
  refine x_aload_n dX3_sortsInFormes_2 rfl ?_
  refine x_getfield dX3_sortsInFormes_3 rfl (by decide) (by first | assumption | (simp (disch := omega) only [up_s, up_n]; first | assumption | rfl)) rfl ?_
  refine x_astore_n2 dX3_sortsInFormes_6 rfl ?_
  refine x_aload_n dX3_sortsInFormes_7 rfl ?_
  refine x_alenR dX3_sortsInFormes_8 (by first | assumption | (simp (disch := omega) only [up_s, up_n]; first | assumption | rfl)) ?_
  refine x_istore_n3 dX3_sortsInFormes_9 rfl ?_
  refine x_iconst (nI 0) dX3_sortsInFormes_10 (by decide) ?_
  refine x_istore_4 dX3_sortsInFormes_11 rfl ?_
  exact l_X3_sortsInFormes hF 4 0 none (by omega) (by omega)
set_option maxRecDepth 20000 in
set_option maxHeartbeats 1000000 in
theorem l_X3_errorsInFormes {c : Nat → VC} {g : VG} {A : Nat} {F : Fx} (hF : FmAt c A F) : ∀ (m i : Nat) (o5 : Option Value), i ≤ 3 → 3 < i + m → Xm M_X3_errorsInFormes 13 [some (.ref A), some (.int (nI (sumN (fun j => (F j).flatten.countP wrg) i))), some (.ref (A + 2)), some (.int (nI 3)), some (.int (nI i)), o5] [] (g, c) (Rt (.int (nI (sumN (fun j => (F j).flatten.countP wrg) 3))) (g, c)) := by
  obtain ⟨⟨f, hf1, hf2⟩, hF3⟩ := hF
  intro m
  induction m with
  | zero => intro i o5 z1 z2; omega
  | succ m ih =>
    intro i o5 z1 z2
    refine x_iload dX3_errorsInFormes_13 rfl ?_
    refine x_iload_n dX3_errorsInFormes_15 rfl ?_
    refine x_icmp_ge 39 dX3_errorsInFormes_16 (by decide) (fun c16 => ?_) (fun c16 => ?_)
    · have e1 : i = 3 := by have := (nI_leI (by omega) (by omega)).mp c16; omega
      subst e1
      refine x_iload_n dX3_errorsInFormes_39 rfl ?_
      refine x_ireturn dX3_errorsInFormes_40 ?_
      exact ⟨rfl, rfl⟩
    · have hi : i < 3 := by
        by_cases z : i < 3
        · exact z
        · exact absurd ((nI_leI (by omega) (by omega)).mpr (by omega)) c16
      have hk := (hF3 i hi).1.choose_spec.choose_spec.choose_spec.choose_spec.1
      refine x_aload_n dX3_errorsInFormes_19 rfl ?_
      refine x_iload dX3_errorsInFormes_20 rfl ?_
      refine x_aaloadN dX3_errorsInFormes_22 (by first | assumption | (simp (disch := omega) only [up_s, up_n]; first | assumption | rfl)) hi (by omega) (hf2 i hi) ?_
      refine x_astore_5 dX3_errorsInFormes_23 rfl ?_
      refine x_iload_n dX3_errorsInFormes_25 rfl ?_
      refine x_aload dX3_errorsInFormes_26 rfl ?_
      refine x_cv1 dX3_errorsInFormes_28 rfl (by first | assumption | (simp (disch := omega) only [up_s, up_n]; first | assumption | rfl)) rfl ?_
      refine Cm.rt (s_X0_errors (hF3 i hi).1) ?_
      refine x_iaddN dX3_errorsInFormes_31 ?_
      refine x_istore_n1 dX3_errorsInFormes_32 rfl ?_
      refine x_iincN_4 (1) dX3_errorsInFormes_33 (by decide) rfl ?_
      refine x_goto 13 dX3_errorsInFormes_36 (by decide) ?_
      exact ih (i + 1) _ (by omega) (by omega)
set_option maxRecDepth 20000 in
set_option maxHeartbeats 1000000 in
theorem s_X3_errorsInFormes {c : Nat → VC} {g : VG} {A : Nat} {sl pr co mi go : Int32} {F : Fx} (hO : ObAt c A sl pr co mi go) (hF : FmAt c A F) : Cm k_X3_errorsInFormes [.ref A] (g, c) (Rt (.int (nI (sumN (fun j => (F j).flatten.countP wrg) 3))) (g, c)) := by
  obtain ⟨f, hf1, hf2⟩ := hF.1
  refine Cm.in (M := M_X3_errorsInFormes) (ls := [some (.ref A), none, none, none, none, none]) rfl rfl ?_
  refine x_iconst (nI 0) dX3_errorsInFormes_0 (by decide) ?_
  refine x_istore_n1 dX3_errorsInFormes_1 rfl ?_
  refine x_aload_n dX3_errorsInFormes_2 rfl ?_
  refine x_getfield dX3_errorsInFormes_3 rfl (by decide) (by first | assumption | (simp (disch := omega) only [up_s, up_n]; first | assumption | rfl)) rfl ?_
  refine x_astore_n2 dX3_errorsInFormes_6 rfl ?_
  refine x_aload_n dX3_errorsInFormes_7 rfl ?_
  refine x_alenR dX3_errorsInFormes_8 (by first | assumption | (simp (disch := omega) only [up_s, up_n]; first | assumption | rfl)) ?_
  refine x_istore_n3 dX3_errorsInFormes_9 rfl ?_
  refine x_iconst (nI 0) dX3_errorsInFormes_10 (by decide) ?_
  refine x_istore_4 dX3_errorsInFormes_11 rfl ?_
  exact l_X3_errorsInFormes hF 4 0 none (by omega) (by omega)
set_option maxRecDepth 20000 in
set_option maxHeartbeats 1000000 in
theorem l_X3_turnedInFormes {c : Nat → VC} {g : VG} {A : Nat} {F : Fx} (hF : FmAt c A F) : ∀ (m i : Nat) (o5 : Option Value), i ≤ 3 → 3 < i + m → Xm M_X3_turnedInFormes 13 [some (.ref A), some (.int (nI (sumN (fun j => (F j).flatten.countP (fun q => q.2.2 == 1)) i))), some (.ref (A + 2)), some (.int (nI 3)), some (.int (nI i)), o5] [] (g, c) (Rt (.int (nI (sumN (fun j => (F j).flatten.countP (fun q => q.2.2 == 1)) 3))) (g, c)) := by
  obtain ⟨⟨f, hf1, hf2⟩, hF3⟩ := hF
  intro m
  induction m with
  | zero => intro i o5 z1 z2; omega
  | succ m ih =>
    intro i o5 z1 z2
    refine x_iload dX3_turnedInFormes_13 rfl ?_
    refine x_iload_n dX3_turnedInFormes_15 rfl ?_
    refine x_icmp_ge 39 dX3_turnedInFormes_16 (by decide) (fun c16 => ?_) (fun c16 => ?_)
    · have e1 : i = 3 := by have := (nI_leI (by omega) (by omega)).mp c16; omega
      subst e1
      refine x_iload_n dX3_turnedInFormes_39 rfl ?_
      refine x_ireturn dX3_turnedInFormes_40 ?_
      exact ⟨rfl, rfl⟩
    · have hi : i < 3 := by
        by_cases z : i < 3
        · exact z
        · exact absurd ((nI_leI (by omega) (by omega)).mpr (by omega)) c16
      have hk := (hF3 i hi).1.choose_spec.choose_spec.choose_spec.choose_spec.1
      refine x_aload_n dX3_turnedInFormes_19 rfl ?_
      refine x_iload dX3_turnedInFormes_20 rfl ?_
      refine x_aaloadN dX3_turnedInFormes_22 (by first | assumption | (simp (disch := omega) only [up_s, up_n]; first | assumption | rfl)) hi (by omega) (hf2 i hi) ?_
      refine x_astore_5 dX3_turnedInFormes_23 rfl ?_
      refine x_iload_n dX3_turnedInFormes_25 rfl ?_
      refine x_aload dX3_turnedInFormes_26 rfl ?_
      refine x_cv1 dX3_turnedInFormes_28 rfl (by first | assumption | (simp (disch := omega) only [up_s, up_n]; first | assumption | rfl)) rfl ?_
      refine Cm.rt (s_X0_turnedSorts (hF3 i hi).1) ?_
      refine x_iaddN dX3_turnedInFormes_31 ?_
      refine x_istore_n1 dX3_turnedInFormes_32 rfl ?_
      refine x_iincN_4 (1) dX3_turnedInFormes_33 (by decide) rfl ?_
      refine x_goto 13 dX3_turnedInFormes_36 (by decide) ?_
      exact ih (i + 1) _ (by omega) (by omega)
set_option maxRecDepth 20000 in
set_option maxHeartbeats 1000000 in
theorem s_X3_turnedInFormes {c : Nat → VC} {g : VG} {A : Nat} {sl pr co mi go : Int32} {F : Fx} (hO : ObAt c A sl pr co mi go) (hF : FmAt c A F) : Cm k_X3_turnedInFormes [.ref A] (g, c) (Rt (.int (nI (sumN (fun j => (F j).flatten.countP (fun q => q.2.2 == 1)) 3))) (g, c)) := by
  obtain ⟨f, hf1, hf2⟩ := hF.1
  refine Cm.in (M := M_X3_turnedInFormes) (ls := [some (.ref A), none, none, none, none, none]) rfl rfl ?_
  refine x_iconst (nI 0) dX3_turnedInFormes_0 (by decide) ?_
  refine x_istore_n1 dX3_turnedInFormes_1 rfl ?_
  refine x_aload_n dX3_turnedInFormes_2 rfl ?_
  refine x_getfield dX3_turnedInFormes_3 rfl (by decide) (by first | assumption | (simp (disch := omega) only [up_s, up_n]; first | assumption | rfl)) rfl ?_
  refine x_astore_n2 dX3_turnedInFormes_6 rfl ?_
  refine x_aload_n dX3_turnedInFormes_7 rfl ?_
  refine x_alenR dX3_turnedInFormes_8 (by first | assumption | (simp (disch := omega) only [up_s, up_n]; first | assumption | rfl)) ?_
  refine x_istore_n3 dX3_turnedInFormes_9 rfl ?_
  refine x_iconst (nI 0) dX3_turnedInFormes_10 (by decide) ?_
  refine x_istore_4 dX3_turnedInFormes_11 rfl ?_
  exact l_X3_turnedInFormes hF 4 0 none (by omega) (by omega)
set_option maxRecDepth 20000 in
set_option maxHeartbeats 1000000 in
theorem l_X3_countInFormes {c : Nat → VC} {g : VG} {A : Nat} {F : Fx} (hF : FmAt c A F) {x : Nat} (hx : x < 27) : ∀ (m i : Nat) (o6 : Option Value), i ≤ 3 → 3 < i + m → Xm M_X3_countInFormes 14 [some (.ref A), some (.int (nI x)), some (.int (nI (sumN (fun j => (F j).flatten.countP (fun q => q.2.1 == x)) i))), some (.ref (A + 2)), some (.int (nI 3)), some (.int (nI i)), o6] [] (g, c) (Rt (.int (nI (sumN (fun j => (F j).flatten.countP (fun q => q.2.1 == x)) 3))) (g, c)) := by
  obtain ⟨⟨f, hf1, hf2⟩, hF3⟩ := hF
  intro m
  induction m with
  | zero => intro i o6 z1 z2; omega
  | succ m ih =>
    intro i o6 z1 z2
    refine x_iload dX3_countInFormes_14 rfl ?_
    refine x_iload dX3_countInFormes_16 rfl ?_
    refine x_icmp_ge 42 dX3_countInFormes_18 (by decide) (fun c18 => ?_) (fun c18 => ?_)
    · have e1 : i = 3 := by have := (nI_leI (by omega) (by omega)).mp c18; omega
      subst e1
      refine x_iload_n dX3_countInFormes_42 rfl ?_
      refine x_ireturn dX3_countInFormes_43 ?_
      exact ⟨rfl, rfl⟩
    · have hi : i < 3 := by
        by_cases z : i < 3
        · exact z
        · exact absurd ((nI_leI (by omega) (by omega)).mpr (by omega)) c18
      have hk := (hF3 i hi).1.choose_spec.choose_spec.choose_spec.choose_spec.1
      refine x_aload_n dX3_countInFormes_21 rfl ?_
      refine x_iload dX3_countInFormes_22 rfl ?_
      refine x_aaloadN dX3_countInFormes_24 (by first | assumption | (simp (disch := omega) only [up_s, up_n]; first | assumption | rfl)) hi (by omega) (hf2 i hi) ?_
      refine x_astore_6 dX3_countInFormes_25 rfl ?_
      refine x_iload_n dX3_countInFormes_27 rfl ?_
      refine x_aload dX3_countInFormes_28 rfl ?_
      refine x_iload_n dX3_countInFormes_30 rfl ?_
      refine x_cv2 dX3_countInFormes_31 rfl (by first | assumption | (simp (disch := omega) only [up_s, up_n]; first | assumption | rfl)) rfl ?_
      refine Cm.rt (s_X0_countOf (hF3 i hi).1 (by omega)) ?_
      refine x_iaddN dX3_countInFormes_34 ?_
      refine x_istore_n2 dX3_countInFormes_35 rfl ?_
      refine x_iincN_5 (1) dX3_countInFormes_36 (by decide) rfl ?_
      refine x_goto 14 dX3_countInFormes_39 (by decide) ?_
      exact ih (i + 1) _ (by omega) (by omega)
set_option maxRecDepth 20000 in
set_option maxHeartbeats 1000000 in
theorem s_X3_countInFormes {c : Nat → VC} {g : VG} {A : Nat} {sl pr co mi go : Int32} {F : Fx} (hO : ObAt c A sl pr co mi go) (hF : FmAt c A F) {x : Nat} (hx : x < 27) : Cm k_X3_countInFormes [.ref A, .int (nI x)] (g, c) (Rt (.int (nI (sumN (fun j => (F j).flatten.countP (fun q => q.2.1 == x)) 3))) (g, c)) := by
  obtain ⟨f, hf1, hf2⟩ := hF.1
  refine Cm.in (M := M_X3_countInFormes) (ls := [some (.ref A), some (.int (nI x)), none, none, none, none, none]) rfl rfl ?_
  refine x_iconst (nI 0) dX3_countInFormes_0 (by decide) ?_
  refine x_istore_n2 dX3_countInFormes_1 rfl ?_
  refine x_aload_n dX3_countInFormes_2 rfl ?_
  refine x_getfield dX3_countInFormes_3 rfl (by decide) (by first | assumption | (simp (disch := omega) only [up_s, up_n]; first | assumption | rfl)) rfl ?_
  refine x_astore_n3 dX3_countInFormes_6 rfl ?_
  refine x_aload_n dX3_countInFormes_7 rfl ?_
  refine x_alenR dX3_countInFormes_8 (by first | assumption | (simp (disch := omega) only [up_s, up_n]; first | assumption | rfl)) ?_
  refine x_istore_4 dX3_countInFormes_9 rfl ?_
  refine x_iconst (nI 0) dX3_countInFormes_11 (by decide) ?_
  refine x_istore_5 dX3_countInFormes_12 rfl ?_
  exact l_X3_countInFormes hF hx 4 0 none (by omega) (by omega)
def nF (F : Fx) : Nat := sumN (fun j => (F j).flatten.length) 3
def totM (σ : Sg) : Nat := SB σ.1 + nF σ.2.1 + σ.2.2.1.length
def valM (σ : Sg) : Nat → Int32
  | 0 => nI (SB σ.1)
  | 1 => nI (nF σ.2.1)
  | 2 => nI σ.2.2.1.length
  | 3 => nI (totM σ)
  | 4 => σ.2.2.2.1
  | 5 => σ.2.2.2.2.1
  | 6 => σ.2.2.2.2.2.1
  | 7 => σ.2.2.2.2.2.2.1
  | 8 => σ.2.2.2.2.2.2.2
  | 9 => nI (sumN (foul σ.1) 27)
  | 10 => nI (sumN (fun j => (σ.2.1 j).flatten.countP wrg) 3)
  | _ => nI (sumN (fun j => (σ.2.1 j).flatten.countP (fun q => q.2.2 == 1)) 3)
set_option maxRecDepth 20000 in
set_option maxHeartbeats 1000000 in
theorem s_X3_allSorts {c : Nat → VC} {g : VG} {A : Nat} {σ : Sg} (h : ShopAt c A σ) : Cm k_X3_allSorts [.ref A] (g, c) (Rt (.int (nI (totM σ))) (g, c)) := by
  obtain ⟨hO, hB, hF, hH⟩ := h
  have hhk := hH.2.1
  refine Cm.in (M := M_X3_allSorts) (ls := [some (.ref A)]) rfl rfl ?_
  refine x_aload_n dX3_allSorts_0 rfl ?_
  refine x_cv1 dX3_allSorts_1 rfl (by first | assumption | (simp (disch := omega) only [up_s, up_n]; first | assumption | rfl)) rfl ?_
  refine Cm.rt (s_X3_sortsInBoxes hO hB) ?_
  refine x_aload_n dX3_allSorts_4 rfl ?_
  refine x_cv1 dX3_allSorts_5 rfl (by first | assumption | (simp (disch := omega) only [up_s, up_n]; first | assumption | rfl)) rfl ?_
  refine Cm.rt (s_X3_sortsInFormes hO hF) ?_
  refine x_iaddN dX3_allSorts_8 ?_
  refine x_aload_n dX3_allSorts_9 rfl ?_
  refine x_getfield dX3_allSorts_10 rfl (by decide) (by first | assumption | (simp (disch := omega) only [up_s, up_n]; first | assumption | rfl)) rfl ?_
  refine x_cv1 dX3_allSorts_13 rfl (by first | assumption | (simp (disch := omega) only [up_s, up_n]; first | assumption | rfl)) rfl ?_
  refine Cm.rt (s_X2_size hH) ?_
  refine x_iaddN dX3_allSorts_16 ?_
  refine x_ireturn dX3_allSorts_17 ?_
  exact ⟨rfl, rfl⟩
set_option maxRecDepth 20000 in
set_option maxHeartbeats 1000000 in
theorem s_X3_number0 {c : Nat → VC} {g : VG} {A : Nat} {σ : Sg} (h : ShopAt c A σ) : Cm k_X3_number [.ref A, .int (nI 0)] (g, c) (Rt (.int (valM σ 0)) (g, c)) := by
  have h9 := h
  obtain ⟨hO, hB, hF, hH⟩ := h
  have hhk := hH.2.1
  refine Cm.in (M := M_X3_number) (ls := [some (.ref A), some (.int (nI 0))]) rfl rfl ?_
  refine x_iload_n dX3_number_0 rfl ?_
  refine x_tab (off := 59) 60 dX3_number_1 (by decide) (by decide) (by decide) ?_
  refine x_aload_n dX3_number_60 rfl ?_
  refine x_cv1 dX3_number_61 rfl (by first | assumption | (simp (disch := omega) only [up_s, up_n]; first | assumption | rfl)) rfl ?_
  refine Cm.rt (s_X3_sortsInBoxes hO hB) ?_
  refine x_ireturn dX3_number_64 ?_
  exact ⟨rfl, rfl⟩
set_option maxRecDepth 20000 in
set_option maxHeartbeats 1000000 in
theorem s_X3_number1 {c : Nat → VC} {g : VG} {A : Nat} {σ : Sg} (h : ShopAt c A σ) : Cm k_X3_number [.ref A, .int (nI 1)] (g, c) (Rt (.int (valM σ 1)) (g, c)) := by
  have h9 := h
  obtain ⟨hO, hB, hF, hH⟩ := h
  have hhk := hH.2.1
  refine Cm.in (M := M_X3_number) (ls := [some (.ref A), some (.int (nI 1))]) rfl rfl ?_
  refine x_iload_n dX3_number_0 rfl ?_
  refine x_tab (off := 64) 65 dX3_number_1 (by decide) (by decide) (by decide) ?_
  refine x_aload_n dX3_number_65 rfl ?_
  refine x_cv1 dX3_number_66 rfl (by first | assumption | (simp (disch := omega) only [up_s, up_n]; first | assumption | rfl)) rfl ?_
  refine Cm.rt (s_X3_sortsInFormes hO hF) ?_
  refine x_ireturn dX3_number_69 ?_
  exact ⟨rfl, rfl⟩
set_option maxRecDepth 20000 in
set_option maxHeartbeats 1000000 in
theorem s_X3_number2 {c : Nat → VC} {g : VG} {A : Nat} {σ : Sg} (h : ShopAt c A σ) : Cm k_X3_number [.ref A, .int (nI 2)] (g, c) (Rt (.int (valM σ 2)) (g, c)) := by
  have h9 := h
  obtain ⟨hO, hB, hF, hH⟩ := h
  have hhk := hH.2.1
  refine Cm.in (M := M_X3_number) (ls := [some (.ref A), some (.int (nI 2))]) rfl rfl ?_
  refine x_iload_n dX3_number_0 rfl ?_
  refine x_tab (off := 69) 70 dX3_number_1 (by decide) (by decide) (by decide) ?_
  refine x_aload_n dX3_number_70 rfl ?_
  refine x_getfield dX3_number_71 rfl (by decide) (by first | assumption | (simp (disch := omega) only [up_s, up_n]; first | assumption | rfl)) rfl ?_
  refine x_cv1 dX3_number_74 rfl (by first | assumption | (simp (disch := omega) only [up_s, up_n]; first | assumption | rfl)) rfl ?_
  refine Cm.rt (s_X2_size hH) ?_
  refine x_ireturn dX3_number_77 ?_
  exact ⟨rfl, rfl⟩
set_option maxRecDepth 20000 in
set_option maxHeartbeats 1000000 in
theorem s_X3_number3 {c : Nat → VC} {g : VG} {A : Nat} {σ : Sg} (h : ShopAt c A σ) : Cm k_X3_number [.ref A, .int (nI 3)] (g, c) (Rt (.int (valM σ 3)) (g, c)) := by
  have h9 := h
  obtain ⟨hO, hB, hF, hH⟩ := h
  have hhk := hH.2.1
  refine Cm.in (M := M_X3_number) (ls := [some (.ref A), some (.int (nI 3))]) rfl rfl ?_
  refine x_iload_n dX3_number_0 rfl ?_
  refine x_tab (off := 77) 78 dX3_number_1 (by decide) (by decide) (by decide) ?_
  refine x_aload_n dX3_number_78 rfl ?_
  refine x_cv1 dX3_number_79 rfl (by first | assumption | (simp (disch := omega) only [up_s, up_n]; first | assumption | rfl)) rfl ?_
  refine Cm.rt (s_X3_allSorts h9) ?_
  refine x_ireturn dX3_number_82 ?_
  exact ⟨rfl, rfl⟩
set_option maxRecDepth 20000 in
set_option maxHeartbeats 1000000 in
theorem s_X3_number4 {c : Nat → VC} {g : VG} {A : Nat} {σ : Sg} (h : ShopAt c A σ) : Cm k_X3_number [.ref A, .int (nI 4)] (g, c) (Rt (.int (valM σ 4)) (g, c)) := by
  have h9 := h
  obtain ⟨hO, hB, hF, hH⟩ := h
  have hhk := hH.2.1
  refine Cm.in (M := M_X3_number) (ls := [some (.ref A), some (.int (nI 4))]) rfl rfl ?_
  refine x_iload_n dX3_number_0 rfl ?_
  refine x_tab (off := 82) 83 dX3_number_1 (by decide) (by decide) (by decide) ?_
  refine x_aload_n dX3_number_83 rfl ?_
  refine x_getfield dX3_number_84 rfl (by decide) (by first | assumption | (simp (disch := omega) only [up_s, up_n]; first | assumption | rfl)) rfl ?_
  refine x_ireturn dX3_number_87 ?_
  exact ⟨rfl, rfl⟩
set_option maxRecDepth 20000 in
set_option maxHeartbeats 1000000 in
theorem s_X3_number5 {c : Nat → VC} {g : VG} {A : Nat} {σ : Sg} (h : ShopAt c A σ) : Cm k_X3_number [.ref A, .int (nI 5)] (g, c) (Rt (.int (valM σ 5)) (g, c)) := by
  have h9 := h
  obtain ⟨hO, hB, hF, hH⟩ := h
  have hhk := hH.2.1
  refine Cm.in (M := M_X3_number) (ls := [some (.ref A), some (.int (nI 5))]) rfl rfl ?_
  refine x_iload_n dX3_number_0 rfl ?_
  refine x_tab (off := 87) 88 dX3_number_1 (by decide) (by decide) (by decide) ?_
  refine x_aload_n dX3_number_88 rfl ?_
  refine x_getfield dX3_number_89 rfl (by decide) (by first | assumption | (simp (disch := omega) only [up_s, up_n]; first | assumption | rfl)) rfl ?_
  refine x_ireturn dX3_number_92 ?_
  exact ⟨rfl, rfl⟩
set_option maxRecDepth 20000 in
set_option maxHeartbeats 1000000 in
theorem s_X3_number6 {c : Nat → VC} {g : VG} {A : Nat} {σ : Sg} (h : ShopAt c A σ) : Cm k_X3_number [.ref A, .int (nI 6)] (g, c) (Rt (.int (valM σ 6)) (g, c)) := by
  have h9 := h
  obtain ⟨hO, hB, hF, hH⟩ := h
  have hhk := hH.2.1
  refine Cm.in (M := M_X3_number) (ls := [some (.ref A), some (.int (nI 6))]) rfl rfl ?_
  refine x_iload_n dX3_number_0 rfl ?_
  refine x_tab (off := 92) 93 dX3_number_1 (by decide) (by decide) (by decide) ?_
  refine x_aload_n dX3_number_93 rfl ?_
  refine x_getfield dX3_number_94 rfl (by decide) (by first | assumption | (simp (disch := omega) only [up_s, up_n]; first | assumption | rfl)) rfl ?_
  refine x_ireturn dX3_number_97 ?_
  exact ⟨rfl, rfl⟩
set_option maxRecDepth 20000 in
set_option maxHeartbeats 1000000 in
theorem s_X3_number7 {c : Nat → VC} {g : VG} {A : Nat} {σ : Sg} (h : ShopAt c A σ) : Cm k_X3_number [.ref A, .int (nI 7)] (g, c) (Rt (.int (valM σ 7)) (g, c)) := by
  have h9 := h
  obtain ⟨hO, hB, hF, hH⟩ := h
  have hhk := hH.2.1
  refine Cm.in (M := M_X3_number) (ls := [some (.ref A), some (.int (nI 7))]) rfl rfl ?_
  refine x_iload_n dX3_number_0 rfl ?_
  refine x_tab (off := 97) 98 dX3_number_1 (by decide) (by decide) (by decide) ?_
  refine x_aload_n dX3_number_98 rfl ?_
  refine x_getfield dX3_number_99 rfl (by decide) (by first | assumption | (simp (disch := omega) only [up_s, up_n]; first | assumption | rfl)) rfl ?_
  refine x_ireturn dX3_number_102 ?_
  exact ⟨rfl, rfl⟩
set_option maxRecDepth 20000 in
set_option maxHeartbeats 1000000 in
theorem s_X3_number8 {c : Nat → VC} {g : VG} {A : Nat} {σ : Sg} (h : ShopAt c A σ) : Cm k_X3_number [.ref A, .int (nI 8)] (g, c) (Rt (.int (valM σ 8)) (g, c)) := by
  have h9 := h
  obtain ⟨hO, hB, hF, hH⟩ := h
  have hhk := hH.2.1
  refine Cm.in (M := M_X3_number) (ls := [some (.ref A), some (.int (nI 8))]) rfl rfl ?_
  refine x_iload_n dX3_number_0 rfl ?_
  refine x_tab (off := 102) 103 dX3_number_1 (by decide) (by decide) (by decide) ?_
  refine x_aload_n dX3_number_103 rfl ?_
  refine x_getfield dX3_number_104 rfl (by decide) (by first | assumption | (simp (disch := omega) only [up_s, up_n]; first | assumption | rfl)) rfl ?_
  refine x_ireturn dX3_number_107 ?_
  exact ⟨rfl, rfl⟩
set_option maxRecDepth 20000 in
set_option maxHeartbeats 1000000 in
theorem s_X3_number9 {c : Nat → VC} {g : VG} {A : Nat} {σ : Sg} (h : ShopAt c A σ) : Cm k_X3_number [.ref A, .int (nI 9)] (g, c) (Rt (.int (valM σ 9)) (g, c)) := by
  have h9 := h
  obtain ⟨hO, hB, hF, hH⟩ := h
  have hhk := hH.2.1
  refine Cm.in (M := M_X3_number) (ls := [some (.ref A), some (.int (nI 9))]) rfl rfl ?_
  refine x_iload_n dX3_number_0 rfl ?_
  refine x_tab (off := 107) 108 dX3_number_1 (by decide) (by decide) (by decide) ?_
  refine x_aload_n dX3_number_108 rfl ?_
  refine x_cv1 dX3_number_109 rfl (by first | assumption | (simp (disch := omega) only [up_s, up_n]; first | assumption | rfl)) rfl ?_
  refine Cm.rt (s_X3_foulSorts hO hB) ?_
  refine x_ireturn dX3_number_112 ?_
  exact ⟨rfl, rfl⟩
set_option maxRecDepth 20000 in
set_option maxHeartbeats 1000000 in
theorem s_X3_number10 {c : Nat → VC} {g : VG} {A : Nat} {σ : Sg} (h : ShopAt c A σ) : Cm k_X3_number [.ref A, .int (nI 10)] (g, c) (Rt (.int (valM σ 10)) (g, c)) := by
  have h9 := h
  obtain ⟨hO, hB, hF, hH⟩ := h
  have hhk := hH.2.1
  refine Cm.in (M := M_X3_number) (ls := [some (.ref A), some (.int (nI 10))]) rfl rfl ?_
  refine x_iload_n dX3_number_0 rfl ?_
  refine x_tab (off := 112) 113 dX3_number_1 (by decide) (by decide) (by decide) ?_
  refine x_aload_n dX3_number_113 rfl ?_
  refine x_cv1 dX3_number_114 rfl (by first | assumption | (simp (disch := omega) only [up_s, up_n]; first | assumption | rfl)) rfl ?_
  refine Cm.rt (s_X3_errorsInFormes hO hF) ?_
  refine x_ireturn dX3_number_117 ?_
  exact ⟨rfl, rfl⟩
set_option maxRecDepth 20000 in
set_option maxHeartbeats 1000000 in
theorem s_X3_number11 {c : Nat → VC} {g : VG} {A : Nat} {σ : Sg} (h : ShopAt c A σ) : Cm k_X3_number [.ref A, .int (nI 11)] (g, c) (Rt (.int (valM σ 11)) (g, c)) := by
  have h9 := h
  obtain ⟨hO, hB, hF, hH⟩ := h
  have hhk := hH.2.1
  refine Cm.in (M := M_X3_number) (ls := [some (.ref A), some (.int (nI 11))]) rfl rfl ?_
  refine x_iload_n dX3_number_0 rfl ?_
  refine x_tabD 118 dX3_number_1 (by decide) (by decide) ?_
  refine x_aload_n dX3_number_118 rfl ?_
  refine x_cv1 dX3_number_119 rfl (by first | assumption | (simp (disch := omega) only [up_s, up_n]; first | assumption | rfl)) rfl ?_
  refine Cm.rt (s_X3_turnedInFormes hO hF) ?_
  refine x_ireturn dX3_number_122 ?_
  exact ⟨rfl, rfl⟩
theorem s_X3_number {c : Nat → VC} {g : VG} {A : Nat} {σ : Sg} (h : ShopAt c A σ) {k : Nat} (hk : k < 12) : Cm k_X3_number [.ref A, .int (nI k)] (g, c) (Rt (.int (valM σ k)) (g, c)) := by
  rcases (show k = 0 ∨ k = 1 ∨ k = 2 ∨ k = 3 ∨ k = 4 ∨ k = 5 ∨ k = 6 ∨ k = 7 ∨ k = 8 ∨ k = 9 ∨ k = 10 ∨ k = 11 by omega) with rfl | rfl | rfl | rfl | rfl | rfl | rfl | rfl | rfl | rfl | rfl | rfl
  · exact s_X3_number0 h
  · exact s_X3_number1 h
  · exact s_X3_number2 h
  · exact s_X3_number3 h
  · exact s_X3_number4 h
  · exact s_X3_number5 h
  · exact s_X3_number6 h
  · exact s_X3_number7 h
  · exact s_X3_number8 h
  · exact s_X3_number9 h
  · exact s_X3_number10 h
  · exact s_X3_number11 h
def Fr74 (c c' : Nat → VC) (A : Nat) : Prop := ∀ k, k < A ∨ A + 74 ≤ k → c' k = c k
def mixB (B1 B2 : Bx) (i : Nat) : Bx := fun b => if b < i then B2 b else B1 b
theorem mixB_0 {B1 B2 : Bx} : mixB B1 B2 0 = B1 := by funext b; simp [mixB]
theorem mixB_s {B1 B2 : Bx} {i : Nat} : uf (mixB B1 B2 i) i (B2 i) = mixB B1 B2 (i + 1) := by
  funext b
  by_cases e : b = i
  · subst e; rw [uf_s]; simp [mixB]
  · rw [uf_n e]
    unfold mixB
    by_cases q : b < i
    · rw [if_pos q, if_pos (by omega)]
    · rw [if_neg q, if_neg (by omega)]
def mixF (B1 B2 : Fx) (i : Nat) : Fx := fun b => if b < i then B2 b else B1 b
theorem mixF_0 {B1 B2 : Fx} : mixF B1 B2 0 = B1 := by funext b; simp [mixF]
theorem mixF_s {B1 B2 : Fx} {i : Nat} : uf (mixF B1 B2 i) i (B2 i) = mixF B1 B2 (i + 1) := by
  funext b
  by_cases e : b = i
  · subst e; rw [uf_s]; simp [mixF]
  · rw [uf_n e]
    unfold mixF
    by_cases q : b < i
    · rw [if_pos q, if_pos (by omega)]
    · rw [if_neg q, if_neg (by omega)]
theorem BoxAt.eq {c : Nat → VC} {A : Nat} {B1 B2 : Bx} (h : BoxAt c A B1) (he : ∀ b, b < 27 → B1 b = B2 b) : BoxAt c A B2 := ⟨h.1, fun i hi => by rw [← he i hi]; exact h.2 i hi⟩
theorem FmAt.eq {c : Nat → VC} {A : Nat} {B1 B2 : Fx} (h : FmAt c A B1) (he : ∀ b, b < 3 → B1 b = B2 b) : FmAt c A B2 := ⟨h.1, fun i hi => by rw [← he i hi]; exact h.2 i hi⟩
set_option maxRecDepth 20000 in
set_option maxHeartbeats 1000000 in
theorem m_X3_copyFrom {c : Nat → VC} {g : VG} {A A2 : Nat} {σ τ : Sg} (h : ShopAt c A σ) (h2 : ShopAt c A2 τ) (hap : A2 + 74 ≤ A ∨ A + 74 ≤ A2) : ∀ (m i : Nat), i ≤ 3 → 3 < i + m → ∀ c1, ObAt c1 A σ.2.2.2.1 σ.2.2.2.2.1 σ.2.2.2.2.2.1 σ.2.2.2.2.2.2.1 σ.2.2.2.2.2.2.2 → BoxAt c1 A τ.1 → FmAt c1 A (mixF σ.2.1 τ.2.1 i) → RowAt c1 (A + 3) (A + 4) 250 σ.2.2.1 → Fr74 c c1 A → Xm M_X3_copyFrom 29 [some (.ref A), some (.ref A2), some (.int (nI i))] [] (g, c1) (Ev g (fun c' => ShopAt c' A τ ∧ Fr74 c c' A)) := by
  intro m
  induction m with
  | zero => intro i z1 z2; omega
  | succ m ih =>
    intro i z1 z2 c1 hO1 hB1 hF1 hH1 hFr
    obtain ⟨hO2, hB2, hF2, hH2⟩ := h2.fr (c' := c1) (fun k z3 z4 => hFr k (by omega))
    have hk1 := hH1.2.1
    have hk2 := hH2.2.1
    refine x_iload_n dX3_copyFrom_29 rfl ?_
    refine x_iconst (nI 3) dX3_copyFrom_30 (by decide) ?_
    refine x_icmp_ge 53 dX3_copyFrom_31 (by decide) (fun c31 => ?_) (fun c31 => ?_)
    · have e1 : i = 3 := by have := (nI_leI (by omega) (by omega)).mp c31; omega
      subst e1
      refine x_aload_n dX3_copyFrom_53 rfl ?_
      refine x_getfield dX3_copyFrom_54 rfl (by decide) (by first | assumption | (simp (disch := omega) only [up_s, up_n]; first | assumption | rfl)) rfl ?_
      refine x_aload_n dX3_copyFrom_57 rfl ?_
      refine x_getfield dX3_copyFrom_58 rfl (by decide) (by first | assumption | (simp (disch := omega) only [up_s, up_n]; first | assumption | rfl)) rfl ?_
      refine x_cv2 dX3_copyFrom_61 rfl (by first | assumption | (simp (disch := omega) only [up_s, up_n]; first | assumption | rfl)) rfl ?_
      refine Cm.ev (s_X2_copyFrom hH1 hH2 (by omega) (by omega) (by omega) (by omega) hH2.2.2.1) (fun c3 q3 => ?_)
      have hO3 := (q3.2 A (by omega) (by omega)).trans hO1
      have hO4 := (q3.2 A2 (by omega) (by omega)).trans hO2
      refine x_aload_n dX3_copyFrom_64 rfl ?_
      refine x_aload_n dX3_copyFrom_65 rfl ?_
      refine x_getfield dX3_copyFrom_66 rfl (by decide) (by first | assumption | (simp (disch := omega) only [up_s, up_n]; first | assumption | rfl)) rfl ?_
      refine x_putfield3 dX3_copyFrom_69 rfl (by first | assumption | (simp (disch := omega) only [up_s, up_n]; first | assumption | rfl)) rfl ?_
      refine x_aload_n dX3_copyFrom_72 rfl ?_
      refine x_aload_n dX3_copyFrom_73 rfl ?_
      refine x_getfield dX3_copyFrom_74 rfl (by decide) (by first | assumption | (simp (disch := omega) only [up_s, up_n]; first | assumption | rfl)) rfl ?_
      refine x_putfield4 dX3_copyFrom_77 rfl (by first | assumption | (simp (disch := omega) only [up_s, up_n]; first | assumption | rfl)) rfl ?_
      refine x_aload_n dX3_copyFrom_80 rfl ?_
      refine x_aload_n dX3_copyFrom_81 rfl ?_
      refine x_getfield dX3_copyFrom_82 rfl (by decide) (by first | assumption | (simp (disch := omega) only [up_s, up_n]; first | assumption | rfl)) rfl ?_
      refine x_putfield5 dX3_copyFrom_85 rfl (by first | assumption | (simp (disch := omega) only [up_s, up_n]; first | assumption | rfl)) rfl ?_
      refine x_aload_n dX3_copyFrom_88 rfl ?_
      refine x_aload_n dX3_copyFrom_89 rfl ?_
      refine x_getfield dX3_copyFrom_90 rfl (by decide) (by first | assumption | (simp (disch := omega) only [up_s, up_n]; first | assumption | rfl)) rfl ?_
      refine x_putfield6 dX3_copyFrom_93 rfl (by first | assumption | (simp (disch := omega) only [up_s, up_n]; first | assumption | rfl)) rfl ?_
      refine x_aload_n dX3_copyFrom_96 rfl ?_
      refine x_aload_n dX3_copyFrom_97 rfl ?_
      refine x_getfield dX3_copyFrom_98 rfl (by decide) (by first | assumption | (simp (disch := omega) only [up_s, up_n]; first | assumption | rfl)) rfl ?_
      refine x_putfield7 dX3_copyFrom_101 rfl (by first | assumption | (simp (disch := omega) only [up_s, up_n]; first | assumption | rfl)) rfl ?_
      refine x_return dX3_copyFrom_104 ?_
      refine ⟨_, rfl, rfl, ⟨?_, ?_, ?_, ?_⟩, ?_⟩
      · simp only [ObAt, up_s]
      · exact (hB1.fr2 (c' := c3) (q3.2 _ (by omega) (by omega)) (fun k z3 z4 => q3.2 k (by omega) (by omega))).fr (fun k z3 z4 => by simp (disch := omega) only [up_n])
      · have hF9 : FmAt c1 A τ.2.1 := hF1.eq (fun b hb => by unfold mixF; rw [if_pos (by omega)])
        exact (hF9.fr (c' := c3) (q3.2 _ (by omega) (by omega)) (fun k z3 z4 => q3.2 k (by omega) (by omega))).fr (by simp (disch := omega) only [up_n]) (fun k z3 z4 => by simp (disch := omega) only [up_n])
      · exact q3.1.fr (by simp (disch := omega) only [up_n]) (by simp (disch := omega) only [up_n])
      · intro k z3
        simp (disch := omega) only [up_n]
        rw [q3.2 k (by omega) (by omega)]; exact hFr k z3
    · have hi : i < 3 := by
        by_cases z : i < 3
        · exact z
        · exact absurd ((nI_leI (by omega) (by omega)).mpr (by omega)) c31
      have hfk := (hF1.2 i hi).1.choose_spec.choose_spec.choose_spec.choose_spec.1
      refine x_aload_n dX3_copyFrom_34 rfl ?_
      refine x_iload_n dX3_copyFrom_35 rfl ?_
      refine x_cv2 dX3_copyFrom_36 rfl (by first | assumption | (simp (disch := omega) only [up_s, up_n]; first | assumption | rfl)) rfl ?_
      refine Cm.rt (s_X3_formeOf hO1 hF1 hi) ?_
      refine x_aload_n dX3_copyFrom_39 rfl ?_
      refine x_iload_n dX3_copyFrom_40 rfl ?_
      refine x_cv2 dX3_copyFrom_41 rfl (by first | assumption | (simp (disch := omega) only [up_s, up_n]; first | assumption | rfl)) rfl ?_
      refine Cm.rt (s_X3_formeOf hO2 hF2 hi) ?_
      refine x_cv2 dX3_copyFrom_44 rfl (by first | assumption | (simp (disch := omega) only [up_s, up_n]; first | assumption | rfl)) rfl ?_
      refine Cm.ev (s_X0_copyFrom (hF1.2 i hi).1 (hF2.2 i hi).1 (by omega)) (fun c2 q2 => ?_)
      refine x_iincN_2 (1) dX3_copyFrom_47 (by decide) rfl ?_
      refine x_goto 29 dX3_copyFrom_50 (by decide) ?_
      refine ih (i + 1) (by omega) (by omega) c2 ((q2.2 A (by omega)).trans hO1) (hB1.fr (fun k z3 z4 => q2.2 k (by omega))) ?_ (hH1.fr (q2.2 _ (by omega)) (q2.2 _ (by omega))) (fun k z3 => (q2.2 k (by omega)).trans (hFr k z3))
      rw [← mixF_s]
      exact hF1.set hi ⟨q2.1, (hF2.2 i hi).2⟩ (q2.2 _ (by omega)) (fun k z3 z4 z5 => q2.2 k z5)
set_option maxRecDepth 20000 in
set_option maxHeartbeats 1000000 in
theorem l_X3_copyFrom {c : Nat → VC} {g : VG} {A A2 : Nat} {σ τ : Sg} (h : ShopAt c A σ) (h2 : ShopAt c A2 τ) (hap : A2 + 74 ≤ A ∨ A + 74 ≤ A2) : ∀ (m i : Nat), i ≤ 27 → 27 < i + m → ∀ c1, BoxAt c1 A (mixB σ.1 τ.1 i) → FrB c c1 A → Xm M_X3_copyFrom 2 [some (.ref A), some (.ref A2), some (.int (nI i))] [] (g, c1) (Ev g (fun c' => ShopAt c' A τ ∧ Fr74 c c' A)) := by
  intro m
  induction m with
  | zero => intro i z1 z2; omega
  | succ m ih =>
    intro i z1 z2 c1 hB1 hFr
    have hO1 := (hFr A (by omega)).trans h.1
    obtain ⟨hO2, hB2, hF2, hH2⟩ := h2.fr (c' := c1) (fun k z3 z4 => hFr k (by omega))
    refine x_iload_n dX3_copyFrom_2 rfl ?_
    refine x_bipush (nI 27) dX3_copyFrom_3 (by decide) ?_
    refine x_icmp_ge 27 dX3_copyFrom_5 (by decide) (fun c5 => ?_) (fun c5 => ?_)
    · have e1 : i = 27 := by have := (nI_leI (by omega) (by omega)).mp c5; omega
      subst e1
      refine x_iconst (nI 0) dX3_copyFrom_27 (by decide) ?_
      refine x_istore_n2 dX3_copyFrom_28 rfl ?_
      refine m_X3_copyFrom h h2 hap 4 0 (by omega) (by omega) c1 hO1 (hB1.eq (fun b hb => by unfold mixB; rw [if_pos (by omega)])) ?_ (h.2.2.2.fr (hFr _ (by omega)) (hFr _ (by omega))) (fun k z3 => hFr k (by omega))
      rw [mixF_0]
      exact h.2.2.1.fr (hFr _ (by omega)) (fun k z3 z4 => hFr k (by omega))
    · have hi : i < 27 := by
        by_cases z : i < 27
        · exact z
        · exact absurd ((nI_leI (by omega) (by omega)).mpr (by omega)) c5
      have hk1 := (hB1.2 i hi).2.1
      refine x_aload_n dX3_copyFrom_8 rfl ?_
      refine x_iload_n dX3_copyFrom_9 rfl ?_
      refine x_cv2 dX3_copyFrom_10 rfl (by first | assumption | (simp (disch := omega) only [up_s, up_n]; first | assumption | rfl)) rfl ?_
      refine Cm.rt (s_X3_boxOf' hO1 hB1 hi) ?_
      refine x_aload_n dX3_copyFrom_13 rfl ?_
      refine x_iload_n dX3_copyFrom_14 rfl ?_
      refine x_cv2 dX3_copyFrom_15 rfl (by first | assumption | (simp (disch := omega) only [up_s, up_n]; first | assumption | rfl)) rfl ?_
      refine Cm.rt (s_X3_boxOf' hO2 hB2 hi) ?_
      refine x_cv2 dX3_copyFrom_18 rfl (by first | assumption | (simp (disch := omega) only [up_s, up_n]; first | assumption | rfl)) rfl ?_
      refine Cm.ev (s_X2_copyFrom (hB1.2 i hi) (hB2.2 i hi) (by omega) (by omega) (by omega) (by omega) (hB2.2 i hi).2.2.1) (fun c2 q2 => ?_)
      refine x_iincN_2 (1) dX3_copyFrom_21 (by decide) rfl ?_
      refine x_goto 2 dX3_copyFrom_24 (by decide) ?_
      refine ih (i + 1) (by omega) (by omega) c2 ?_ (hFr.tr (FrB.of2 hi q2.2))
      rw [← mixB_s]
      exact hB1.set hi q2.1 q2.2
set_option maxRecDepth 20000 in
set_option maxHeartbeats 1000000 in
theorem s_X3_copyFrom {c : Nat → VC} {g : VG} {A A2 : Nat} {σ τ : Sg} (h : ShopAt c A σ) (h2 : ShopAt c A2 τ) (hap : A2 + 74 ≤ A ∨ A + 74 ≤ A2) : Cm k_X3_copyFrom [.ref A, .ref A2] (g, c) (Ev g (fun c' => ShopAt c' A τ ∧ Fr74 c c' A)) := by
  refine Cm.in (M := M_X3_copyFrom) (ls := [some (.ref A), some (.ref A2), none]) rfl rfl ?_
  refine x_iconst (nI 0) dX3_copyFrom_0 (by decide) ?_
  refine x_istore_n2 dX3_copyFrom_1 rfl ?_
  exact l_X3_copyFrom h h2 hap 28 0 (by omega) (by omega) c (by rw [mixB_0]; exact h.2.1) FrB.rf
