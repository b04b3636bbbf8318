/-! what every call keeps: no more than 250 sorts -/
def WF (σ : Sg) : Prop := (∀ b, b < 27 → ∀ x ∈ σ.1 b, x < 27) ∧ (∀ j, j < 3 → ∀ l ∈ σ.2.1 j, ∀ q ∈ l, q.1 < 27 ∧ q.2.1 < 27 ∧ q.2.2 < 2) ∧ ∀ x ∈ σ.2.2.1, x < 27
theorem RefAt.wf {c : Nat → VC} {S : St} {th : Int32} (h : RefAt c S th) : WF S.1 ∧ ∀ x ∈ S.2.1, x < 27 := by
  obtain ⟨f, vs, as, tx, rw, ll, lt, hR, hRp, hH, hX0⟩ := h
  obtain ⟨⟨ss, hss⟩, h2, h3, _⟩ := hRp
  exact ⟨⟨hss.2.2.2.2.2.2, fun j hj => (h2 j hj).2.2.2.2, h3.2.2.1⟩, hX0.2.1⟩
theorem StOK.sv {S : St} {σ : Sg} (h : StOK S) (hs : totM σ ≤ 250) : StOK (sv S σ) := by
  refine ⟨hs, fun τ hτ => ?_⟩
  have hτ2 : τ ∈ saveH S.2.2 S.1 := hτ
  unfold saveH at hτ2
  rcases List.mem_append.mp hτ2 with z | z
  · split at z
    · exact h.2 τ (List.mem_of_mem_tail z)
    · exact h.2 τ z
  · rw [List.mem_singleton.mp z]; exact h.1
theorem nF_uf {F : Fx} {j : Nat} {L : List (List Pl)} (hj : j < 3) : nF (uf F j L) + (F j).flatten.length = nF F + L.flatten.length := by
  unfold nF
  simp only [sumN, Nat.zero_add]
  rcases (show j = 0 ∨ j = 1 ∨ j = 2 by omega) with rfl | rfl | rfl
  · rw [uf_s, uf_n (by omega), uf_n (by omega)]; omega
  · rw [uf_s, uf_n (by omega), uf_n (by omega)]; omega
  · rw [uf_s, uf_n (by omega), uf_n (by omega)]; omega
theorem tot_mk {B : Bx} {F : Fx} {hp : List Nat} {r : Int32 × Int32 × Int32 × Int32 × Int32} : totM (B, F, hp, r) = SB B + nF F + hp.length := rfl
theorem spl_SB {a b : Nat} (ha : a < 27) (hb : b < 27) (hab : ¬ a = b) : ∀ {n : Nat} {B : Bx}, n ≤ (B a).length → SB (spl a b n B) = SB B
  | 0, _, _ => rfl
  | n + 1, B, h => by
    show SB (spl a b n (pb (uf B a (B a).dropLast) b ((B a).getLastD 0))) = SB B
    have h1 := SB_uf (B := B) (l := (B a).dropLast) ha
    rw [List.length_dropLast] at h1
    rw [spl_SB ha hb hab, SB_pb hb]
    · omega
    · unfold pb
      rw [uf_n hab, uf_s, List.length_dropLast]
      omega
theorem corL_SB : ∀ {l : List Pl} {B : Bx}, (∀ q ∈ l, q.1 < 27 ∧ q.2.1 < 27 ∧ q.2.2 < 2) → SB (corL l B).1 = SB B
  | [], _, _ => rfl
  | q :: l, B, h => by
    have h1 := h q List.mem_cons_self
    show SB (corL l (corP B q).1).1 = SB B
    rw [corL_SB (fun y hy => h y (List.mem_cons_of_mem _ hy)), corP_SB h1.1 h1.2.1]
theorem fl_ok {σ : Sg} (h : WF σ) {j : Nat} (hj : j < 3) : ∀ q ∈ (σ.2.1 j).flatten, q.1 < 27 ∧ q.2.1 < 27 ∧ q.2.2 < 2 := fun q hq => by
  obtain ⟨l, hl, hq2⟩ := List.mem_flatten.mp hq
  exact h.2.1 j hj l hl q hq2
theorem ok_buy {S : St} (h : StOK S) {l m : Int32} : StOK (buyM l m S).2 := by
  unfold buyM
  cases e1 : ix l 27 with
  | none => exact h
  | some a =>
    obtain ⟨ha, -⟩ := ix_some (by omega) e1
    cases e2 : rg m 1 30 with
    | none => exact h
    | some n =>
      simp only
      split
      · rename_i hr
        refine h.sv ?_
        rw [tot_mk, SB_buyB ha]
        unfold totM at hr; omega
      · exact h
theorem ok_buyLacking {S : St} (h : StOK S) : StOK (buyLackingM S).2 := by
  unfold buyLackingM
  split
  · rename_i hr
    refine h.sv ?_
    rw [tot_mk, SB_blN 27 (Nat.le_refl _)]
    unfold totM at hr; omega
  · exact h
theorem ok_spill {S : St} (h : StOK S) {l l2 m : Int32} : StOK (spillM l l2 m S).2 := by
  unfold spillM
  cases e1 : ix l 27 with
  | none => exact h
  | some a =>
    obtain ⟨ha, -⟩ := ix_some (by omega) e1
    cases e2 : ix l2 27 with
    | none => exact h
    | some b =>
      obtain ⟨hb, -⟩ := ix_some (by omega) e2
      simp only
      split
      · exact h
      · rename_i hab
        cases e3 : rg m 1 30 with
        | none => exact h
        | some n =>
          simp only
          split
          · rename_i hr
            refine h.sv ?_
            rw [show ∀ B : Bx, totM (B, S.1.2) = SB B + nF S.1.2.1 + S.1.2.2.1.length from fun _ => rfl, spl_SB ha hb hab hr]
            exact h.1
          · exact h
theorem ok_clean {S : St} (h : StOK S) (hw : WF S.1) {l : Int32} : StOK (cleanM l S).2 := by
  unfold cleanM
  cases e1 : ix l 27 with
  | none => exact h
  | some a =>
    obtain ⟨ha, -⟩ := ix_some (by omega) e1
    refine h.sv ?_
    rw [tot_mk]
    unfold cleanB
    rw [SB_bkL (hw.1 a ha), SB_uf ha, List.length_nil]
    exact h.1
theorem ok_set {S : St} (h : StOK S) {p q : Int32} : StOK (setM p q S).2 := by
  unfold setM
  split
  · exact h
  · cases e : rg q 0 99 with
    | none => exact h
    | some n => exact h.sv h.1
theorem ok_correct {S : St} (h : StOK S) (hw : WF S.1) {l : Int32} : StOK (correctM l S).2 := by
  unfold correctM
  cases e1 : ix l 3 with
  | none => exact h
  | some j =>
    obtain ⟨hj, -⟩ := ix_some (by omega) e1
    refine h.sv ?_
    have h1 := nF_uf (F := S.1.2.1) (L := reL (S.1.2.1 j) (corL (S.1.2.1 j).flatten S.1.1).2.1) hj
    rw [(reL_flat (corL_len)).1, corL_len] at h1
    rw [tot_mk, corL_SB (fl_ok hw hj)]
    have h2 := h.1
    unfold totM at h2
    omega
theorem ok_distribute {S : St} (h : StOK S) (hw : WF S.1) {l : Int32} : StOK (distributeM l S).2 := by
  unfold distributeM
  cases e1 : ix l 3 with
  | none => exact h
  | some j =>
    obtain ⟨hj, -⟩ := ix_some (by omega) e1
    refine h.sv ?_
    have h1 := nF_uf (F := S.1.2.1) (L := []) hj
    rw [List.flatten_nil, List.length_nil] at h1
    rw [tot_mk, SB_dis (fl_ok hw hj)]
    have h2 := h.1
    unfold totM at h2
    omega
theorem ok_pie {S : St} (h : StOK S) {l : Int32} : StOK (pieM l S).2 := by
  unfold pieM
  cases e1 : ix l 3 with
  | none => exact h
  | some j =>
    obtain ⟨hj, -⟩ := ix_some (by omega) e1
    refine h.sv ?_
    have h1 := nF_uf (F := S.1.2.1) (L := []) hj
    rw [List.flatten_nil, List.length_nil] at h1
    rw [tot_mk, List.length_append, List.length_map]
    have h2 := h.1
    unfold totM at h2
    omega
theorem ok_sortHeap {S : St} (h : StOK S) (hw : WF S.1) {m : Int32} : StOK (sortHeapM m S).2 := by
  unfold sortHeapM
  cases e1 : rg m 1 99 with
  | none => exact h
  | some n =>
    refine h.sv ?_
    rw [tot_mk, SB_bkL (fun x hx => hw.2.2 x (List.mem_of_mem_take hx)), List.length_take, List.length_drop]
    have h2 := h.1
    unfold totM at h2
    omega
theorem ok_setLine {S : St} (h : StOK S) (hT : ∀ x ∈ S.2.1, x < 27) {l : Int32} : StOK (setLineM l S).2 := by
  unfold setLineM
  cases e1 : ix l 3 with
  | none => exact h
  | some j =>
    obtain ⟨hj, -⟩ := ix_some (by omega) e1
    simp only
    split
    · cases e3 : goesM S.2.1 S.1.1 with
      | none => exact h
      | some r =>
        refine h.sv ?_
        have h3 := (goes_SB hT e3).1
        have h4 : r.2.length = S.2.1.length := by
          unfold goesM at e3
          by_cases z : S.2.1 = []
          · rw [if_pos z] at e3; cases e3
          · rw [if_neg z] at e3; exact setT_len e3
        have h1 := nF_uf (F := S.1.2.1) (L := S.1.2.1 j ++ [r.2]) hj
        rw [List.flatten_append, List.length_append] at h1
        simp only [List.flatten_cons, List.flatten_nil, List.append_nil] at h1
        rw [tot_mk]
        have h2 := h.1
        unfold totM at h2
        omega
    · exact h
theorem ok_append {S : St} (h : StOK S) {v : Int32} : StOK (appendM v S).2 := by
  unfold appendM
  split
  · split
    · exact h
    · exact h
  · cases e : rg v 97 122 with
    | none => exact h
    | some n =>
      simp only
      split
      · exact h
      · exact h
theorem ok_undo {S : St} (h : StOK S) : StOK (undoM S).2 := by
  unfold undoM
  cases e : S.2.2.getLast? with
  | none => exact h
  | some τ => exact ⟨h.2 τ (List.mem_of_getLast? e), fun y hy => h.2 y (by
    have hy2 : y ∈ S.2.2.dropLast := hy
    rw [List.dropLast_eq_take] at hy2
    exact List.mem_of_mem_take hy2)⟩
theorem st_letter {S : St} {l w : Int32} : (letterM l w S).2 = S := by
  unfold letterM
  cases ix l 27 with
  | none => rfl
  | some a => 
    simp only
    cases rg w 0 7 with
    | none => rfl
    | some b => rfl
theorem st_inBox {S : St} {l i : Int32} : (inBoxM l i S).2 = S := by
  unfold inBoxM
  cases ix l 27 with
  | none => rfl
  | some a => 
    simp only
    cases ix i (S.1.1 a).length with
    | none => rfl
    | some b => rfl
theorem st_value {S : St} {w : Int32} : (valueM w S).2 = S := by
  unfold valueM
  cases rg w 0 11 with
  | none => rfl
  | some a => rfl
theorem st_forme {S : St} {f w : Int32} : (formeM f w S).2 = S := by
  unfold formeM
  cases ix f 3 with
  | none => rfl
  | some a => 
    simp only
    cases rg w 0 4 with
    | none => rfl
    | some b => rfl
theorem st_places {S : St} {f i : Int32} : (placesM f i S).2 = S := by
  unfold placesM
  cases ix f 3 with
  | none => rfl
  | some a => 
    simp only
    cases ix i (S.1.2.1 a).length with
    | none => rfl
    | some b => rfl
theorem st_inHeap {S : St} {i : Int32} : (inHeapM i S).2 = S := by
  unfold inHeapM
  cases ix i S.1.2.2.1.length with
  | none => rfl
  | some a => rfl
theorem st_proof {S : St} {f i : Int32} : (proofM f i S).2 = S := by
  unfold proofM
  cases ix f 3 with
  | none => rfl
  | some a =>
    simp only
    split <;> rfl
theorem st_place {S : St} {f i p w : Int32} : (placeM f i p w S).2 = S := by
  unfold placeM
  cases ix f 3 with
  | none => rfl
  | some a =>
    simp only
    cases ix i (S.1.2.1 a).length with
    | none => rfl
    | some n =>
      simp only
      cases ix p ((S.1.2.1 a).getD n []).length with
      | none => rfl
      | some q =>
        simp only
        cases rg w 0 3 with
        | none => rfl
        | some k => rfl
theorem ok_0 : StOK (σ0, [], []) := by
  refine ⟨?_, fun τ hτ => absurd hτ (by simp)⟩
  decide
