/-! SOUND 1: the small machine's values, locals and heap, seen in the great one -/
def tv (τ : Nat → Nat) (v : Value) : Value := match v with
  | .ref a => .ref (τ a)
  | v => v
theorem tv_cat (τ : Nat → Nat) (v : Value) : (tv τ v).category = v.category := by cases v <;> rfl
theorem tv_map_cat (τ : Nat → Nat) (l : List Value) : ((l.map (tv τ)).map fun v => v.category).sum = catS l := by
  induction l with
  | nil => rfl
  | cons v t ih =>
    simp only [List.map_cons, List.sum_cons, catS, tv_cat]
    rw [ih]
theorem set1_len (v : Option Value) : ∀ (i : Nat) (ls : VLs), (set1 i v ls).length = ls.length
  | 0, [] => rfl
  | 0, _ :: _ => rfl
  | 1, [] => rfl
  | 1, [_] => rfl
  | 1, _ :: _ :: _ => rfl
  | _ + 2, [] => rfl
  | i + 2, a :: t => by
    show (a :: set1 (i + 1) v t).length = _
    rw [List.length_cons, set1_len v (i + 1) t, List.length_cons]
theorem set1_get (v : Option Value) : ∀ (i : Nat) (ls : VLs) (j : Nat), i < ls.length → (set1 i v ls)[j]? = if j = i then some v else if j + 1 = i then (ls[j]?).map clr else ls[j]?
  | 0, [], j, h => by cases h
  | 0, _ :: t, j, _ => by
    cases j with
    | zero => rfl
    | succ j =>
      show (v :: t)[j + 1]? = _
      simp
  | 1, [], j, h => by cases h
  | 1, [_], j, h => by simp at h
  | 1, a :: b :: t, j, _ => by
    show (clr a :: v :: t)[j]? = _
    cases j with
    | zero => simp
    | succ j =>
      cases j with
      | zero => simp
      | succ j => simp
  | i + 2, [], j, h => by cases h
  | i + 2, a :: t, j, h => by
    show (a :: set1 (i + 1) v t)[j]? = _
    cases j with
    | zero => simp
    | succ j =>
      have h1 := set1_get v (i + 1) t j (by rw [List.length_cons] at h; omega)
      simp only [List.getElem?_cons_succ]
      rw [h1]
      by_cases e1 : j = i + 1
      · simp [e1]
      · by_cases e2 : j + 1 = i + 1
        · simp [e1, e2]
        · have e3 : ¬ j + 1 = i + 2 := by omega
          have e4 : ¬ j + 1 + 1 = i + 2 := by omega
          rw [if_neg e1, if_neg e2, if_neg e3, if_neg e4]
theorem set2_len (v : Option Value) : ∀ (i : Nat) (ls : VLs), (set2 i v ls).length = ls.length
  | 0, [] => rfl
  | 0, [_] => rfl
  | 0, _ :: _ :: _ => rfl
  | 1, [] => rfl
  | 1, [_] => rfl
  | 1, [_, _] => rfl
  | 1, _ :: _ :: _ :: _ => rfl
  | _ + 2, [] => rfl
  | i + 2, a :: t => by
    show (a :: set2 (i + 1) v t).length = _
    rw [List.length_cons, set2_len v (i + 1) t, List.length_cons]
theorem set2_get (v : Option Value) : ∀ (i : Nat) (ls : VLs) (j : Nat), i + 1 < ls.length → (set2 i v ls)[j]? = if j = i then some v else if j = i + 1 then some none else if j + 1 = i then (ls[j]?).map clr else ls[j]?
  | 0, [], j, h => by cases h
  | 0, [_], j, h => by simp at h
  | 0, _ :: _ :: t, j, _ => by
    show (v :: none :: t)[j]? = _
    cases j with
    | zero => rfl
    | succ j =>
      cases j with
      | zero => simp
      | succ j => simp
  | 1, [], j, h => by cases h
  | 1, [_], j, h => by simp at h
  | 1, [_, _], j, h => by simp at h
  | 1, a :: b :: d :: t, j, _ => by
    show (clr a :: v :: none :: t)[j]? = _
    cases j with
    | zero => simp
    | succ j =>
      cases j with
      | zero => simp
      | succ j =>
        cases j with
        | zero => simp
        | succ j => simp
  | i + 2, [], j, h => by cases h
  | i + 2, a :: t, j, h => by
    show (a :: set2 (i + 1) v t)[j]? = _
    cases j with
    | zero => simp
    | succ j =>
      have h1 := set2_get v (i + 1) t j (by rw [List.length_cons] at h; omega)
      simp only [List.getElem?_cons_succ]
      rw [h1]
      by_cases e1 : j = i + 1
      · simp [e1]
      · by_cases e0 : j = i + 1 + 1
        · simp [e0]
        · by_cases e2 : j + 1 = i + 1
          · have e4 : ¬ j + 1 = i + 2 := by omega
            have e5 : ¬ j + 1 = i + 2 + 1 := by omega
            have e6 : j + 1 + 1 = i + 2 := by omega
            rw [if_neg e1, if_neg e0, if_pos e2, if_neg e4, if_neg e5, if_pos e6]
          · have e3 : ¬ j + 1 = i + 2 := by omega
            have e5 : ¬ j + 1 = i + 2 + 1 := by omega
            have e4 : ¬ j + 1 + 1 = i + 2 := by omega
            rw [if_neg e1, if_neg e0, if_neg e2, if_neg e3, if_neg e5, if_neg e4]
/-- the locals that are known, as the kit lists them -/
def lvl (τ : Nat → Nat) (ls : VLs) : List (Nat × Value) := (List.range ls.length).filterMap (fun j => match ls[j]? with
  | some (some v) => some (j, tv τ v)
  | _ => none)
theorem lvl_mem {τ : Nat → Nat} {ls : VLs} {q : Nat × Value} : q ∈ lvl τ ls ↔ ∃ v, ls[q.1]? = some (some v) ∧ q.2 = tv τ v := by
  unfold lvl
  rw [List.mem_filterMap]
  constructor
  · rintro ⟨j, hj, h⟩
    split at h
    · next v hv =>
      cases h
      exact ⟨v, hv, rfl⟩
    · cases h
  · rintro ⟨v, hv, he⟩
    refine ⟨q.1, List.mem_range.mpr (List.getElem?_eq_some_iff.mp hv).1, ?_⟩
    rw [hv]
    show some (q.1, tv τ v) = some q
    rw [← he]
def LsR (τ : Nat → Nat) (ls : VLs) (LS : Array Slot) : Prop := lv_has LS ls.length (lvl τ ls)
theorem LsR.at {τ : Nat → Nat} {ls : VLs} {LS : Array Slot} (h : LsR τ ls LS) {j : Nat} {v : Value} (hv : ls[j]? = some (some v)) : LS[j]? = some (.val (tv τ v)) := h.2.2 (j, tv τ v) (lvl_mem.mpr ⟨v, hv, rfl⟩)
theorem clr_some {o : Option Value} {u : Value} (h : clr o = some u) : o = some u ∧ ¬ u.category = 2 := by
  cases o with
  | none => cases h
  | some w =>
    unfold clr at h
    simp only at h
    split at h
    · cases h
    · next hc => cases h; exact ⟨rfl, hc⟩
theorem LsR.st1 {τ : Nat → Nat} {ls : VLs} {LS' : Array Slot} {i : Nat} {o : Option Value} {x : Value} (hi : i < ls.length) (ho : ∀ v, o = some v → x = tv τ v)
    (h' : lv_has LS' ls.length ((i, x) :: (lvl τ ls).filter (fun q => !(q.1 == i) && !(q.1 + 1 == i && q.2.category == 2)))) : LsR τ (set1 i o ls) LS' := by
  refine ⟨h'.1.trans (set1_len o i ls).symm, h'.2.1, fun q hq => ?_⟩
  obtain ⟨u, hu, he⟩ := lvl_mem.mp hq
  rw [set1_get o i ls q.1 hi] at hu
  by_cases e1 : q.1 = i
  · rw [if_pos e1] at hu
    have hx := ho u (Option.some.inj hu)
    have := h'.2.2 (i, x) List.mem_cons_self
    rw [he, ← hx, e1]
    exact this
  · rw [if_neg e1] at hu
    by_cases e2 : q.1 + 1 = i
    · rw [if_pos e2] at hu
      cases hl : ls[q.1]? with
      | none => rw [hl] at hu; cases hu
      | some o' =>
        rw [hl] at hu
        obtain ⟨h1, h2⟩ := clr_some (Option.some.inj hu)
        subst h1
        refine h'.2.2 q (List.mem_cons_of_mem _ (List.mem_filter.mpr ⟨lvl_mem.mpr ⟨u, hl, he⟩, ?_⟩))
        rw [he, tv_cat]
        simp [e1, h2]
    · rw [if_neg e2] at hu
      refine h'.2.2 q (List.mem_cons_of_mem _ (List.mem_filter.mpr ⟨lvl_mem.mpr ⟨u, hu, he⟩, ?_⟩))
      simp [e1, e2]
theorem LsR.st2 {τ : Nat → Nat} {ls : VLs} {LS' : Array Slot} {i : Nat} {v : Value} (hi : i + 1 < ls.length)
    (h' : lv_has LS' ls.length ((i, tv τ v) :: (lvl τ ls).filter (fun q => !(q.1 == i) && (!(q.1 == i + 1) && !(q.1 + 1 == i && q.2.category == 2))))) : LsR τ (set2 i (some v) ls) LS' := by
  refine ⟨h'.1.trans (set2_len (some v) i ls).symm, h'.2.1, fun q hq => ?_⟩
  obtain ⟨u, hu, he⟩ := lvl_mem.mp hq
  rw [set2_get (some v) i ls q.1 hi] at hu
  by_cases e1 : q.1 = i
  · rw [if_pos e1] at hu
    have hx : v = u := Option.some.inj (Option.some.inj hu)
    have := h'.2.2 (i, tv τ v) List.mem_cons_self
    rw [he, ← hx, e1]
    exact this
  · rw [if_neg e1] at hu
    by_cases e0 : q.1 = i + 1
    · rw [if_pos e0] at hu
      cases hu
    · rw [if_neg e0] at hu
      by_cases e2 : q.1 + 1 = i
      · rw [if_pos e2] at hu
        cases hl : ls[q.1]? with
        | none => rw [hl] at hu; cases hu
        | some o' =>
          rw [hl] at hu
          obtain ⟨h1, h2⟩ := clr_some (Option.some.inj hu)
          subst h1
          refine h'.2.2 q (List.mem_cons_of_mem _ (List.mem_filter.mpr ⟨lvl_mem.mpr ⟨u, hl, he⟩, ?_⟩))
          rw [he, tv_cat]
          simp [e1, e0, h2]
      · rw [if_neg e2] at hu
        refine h'.2.2 q (List.mem_cons_of_mem _ (List.mem_filter.mpr ⟨lvl_mem.mpr ⟨u, hu, he⟩, ?_⟩))
        simp [e1, e0, e2]
theorem entA_len (τ : Nat → Nat) (vs : List Value) : (lg_sl (vs.map (tv τ))).length = (entA vs).length := by
  induction vs with
  | nil => rfl
  | cons v t ih =>
    have hc := tv_cat τ v
    simp only [lg_sl, List.map_cons, List.flatMap_cons, List.length_append, entA] at ih ⊢
    rw [ih, hc]
    by_cases h : v.category = 2
    · simp [h]; omega
    · simp [h]; omega
theorem entA_get (τ : Nat → Nat) : ∀ (vs : List Value) (k j : Nat) (u : Value), (entA vs)[j]? = some (some u) → (k + j, tv τ u) ∈ lv_args k (vs.map (tv τ))
  | [], k, j, u, h => by simp [entA] at h
  | v :: t, k, j, u, h => by
    simp only [entA] at h
    simp only [List.map_cons, lv_args, tv_cat]
    by_cases hc : v.category = 2
    · rw [if_pos hc] at h
      rw [if_pos hc]
      cases j with
      | zero => cases h; exact List.mem_cons_self
      | succ j =>
        cases j with
        | zero => simp at h
        | succ j =>
          have := entA_get τ t (k + 2) j u (by simpa using h)
          rw [show k + (j + 1 + 1) = k + 2 + j by omega]
          exact List.mem_cons_of_mem _ this
    · rw [if_neg hc] at h
      rw [if_neg hc]
      cases j with
      | zero => cases h; exact List.mem_cons_self
      | succ j =>
        have := entA_get τ t (k + 1) j u (by simpa using h)
        rw [show k + (j + 1) = k + 1 + j by omega]
        exact List.mem_cons_of_mem _ this
theorem entL_len {n : Nat} {vs : List Value} (h : (entA vs).length ≤ n) : (entL n vs).length = n := by
  unfold entL
  rw [List.length_append, List.length_replicate]
  omega
theorem LsR.ent (τ : Nat → Nat) {n : Nat} {vs : List Value} (h : (entA vs).length ≤ n) : LsR τ (entL n vs) ((lg_sl (vs.map (tv τ)) ++ List.replicate (n - (lg_sl (vs.map (tv τ))).length) Slot.unset).toArray) := by
  have h0 := lv_entry (vs.map (tv τ)) (n := n) (by rw [entA_len]; exact h)
  refine ⟨h0.1.trans (entL_len h).symm, h0.2.1, fun q hq => ?_⟩
  obtain ⟨u, hu, he⟩ := lvl_mem.mp hq
  refine h0.2.2 q ?_
  have h1 : (entA vs)[q.1]? = some (some u) := by
    unfold entL at hu
    by_cases hl : q.1 < (entA vs).length
    · rw [List.getElem?_append_left hl] at hu; exact hu
    · rw [List.getElem?_append_right (by omega), List.getElem?_replicate] at hu
      split at hu
      · cases hu
      · cases hu
  have h2 := entA_get τ vs 0 q.1 u h1
  rw [Nat.zero_add, ← he] at h2
  exact h2
/-! the heap -/
def cNm (k : Nat) : String := match k with
  | 0 => RX0
  | 1 => RX1
  | 2 => RX2
  | 3 => RX3
  | 4 => RX4
  | _ => RX5
def tFd (k : Nat) : u_T := match k with
  | 0 => TX0
  | 1 => TX1
  | 2 => TX2
  | 3 => TX3
  | 4 => TX4
  | _ => TX5
def yFd (k : Nat) : Nat → FieldType := match k with
  | 0 => tyX0
  | 1 => tyX1
  | 2 => tyX2
  | 3 => tyX3
  | 4 => tyX4
  | _ => tyX5
def nFd (k : Nat) : Nat := (fdI k).length
section HEAP
variable (τ : Nat → Nat) (D : va_G) (cA : Nat → ClassId) (s0 : State)
def AtC (x : VC) (q : Nat) (H : Heap) : Prop := match x with
  | Sum.inl (n, f) => H[q]? = some (arrV (cA 0) n (fun j => .int (f j)))
  | Sum.inr (Sum.inl (t, n, f)) => okA t = true ∧ H[q]? = some (arrV (cA (2 + t)) n (fun j => tv τ (va_rf (f j))))
  | Sum.inr (Sum.inr (Sum.inl (n, f))) => H[q]? = some (arrV (cA 1) n (fun j => .long (f j)))
  | Sum.inr (Sum.inr (Sum.inr (Sum.inl (k, fs)))) => k < 6 ∧ fs.length = nFd k ∧ t_OB q (D.1 k) (nFd k) (D.2 k) H (vp_V (fs.map (tv τ)))
  | Sum.inr (Sum.inr (Sum.inr (Sum.inr (Sum.inl (n, f))))) => ∃ scr : Cell, H[q]? = some scr ∧ s0.isArrayOf scr .int ∧ scr.vm ≠ .unknown ∧ n ≤ scr.slots.size ∧ scr.slots.size.toInt32 = nI n ∧ ∀ j : Nat, j < n → scr.slots[j]? = some (.int (f j))
  | _ => True
theorem AtC.kept {x : VC} {q : Nat} {H H1 : Heap} (h : AtC τ D cA s0 x q H) (hq : q < H.size → H1[q]? = H[q]?) : AtC τ D cA s0 x q H1 := by
  rcases x with ⟨n, f⟩ | ⟨t, n, f⟩ | ⟨n, f⟩ | ⟨k, fs⟩ | ⟨n, f⟩ | u
  · exact (hq (Array.getElem?_eq_some_iff.mp h).1).trans h
  · exact ⟨h.1, (hq (Array.getElem?_eq_some_iff.mp h.2).1).trans h.2⟩
  · exact (hq (Array.getElem?_eq_some_iff.mp h).1).trans h
  · obtain ⟨h1, h2, h3⟩ := h
    obtain ⟨cell, g1, g2⟩ := h3
    exact ⟨h1, h2, cell, (hq (Array.getElem?_eq_some_iff.mp g1).1).trans g1, g2⟩
  · obtain ⟨cell, g1, g2⟩ := h
    exact ⟨cell, (hq (Array.getElem?_eq_some_iff.mp g1).1).trans g1, g2⟩
  · trivial
def roC (x : VC) : Prop := match x with
  | Sum.inr (Sum.inr (Sum.inr (Sum.inr _))) => True
  | _ => False
def RelH (h : VH) (H : Heap) : Prop := (∀ a, AtC τ D cA s0 (h.2 a) (τ a) H) ∧ (∀ a, a < 2 → roC (h.2 a)) ∧ 2 ≤ h.1.1 ∧ (h.1.2.1 = true → H.size + 2 = s0.heap.size + h.1.1)
/-- where the small machine's addresses lie -/
def Tau : Prop := (∀ a, 2 ≤ a → τ a + 2 = s0.heap.size + a) ∧ ∀ a, a < 2 → τ a < s0.heap.size
theorem RelH.set {h : VH} {H H1 : Heap} {a : Nat} {x : VC} (hτ : Tau τ s0) (hR : RelH τ D cA s0 h H) (ha : ¬ roC (h.2 a)) (hx : AtC τ D cA s0 x (τ a) H1) (hz : H1.size = H.size) (ho : ∀ q, q ≠ τ a → H1[q]? = H[q]?) : RelH τ D cA s0 (h.1, up h.2 a x) H1 := by
  obtain ⟨r1, r2, r3, r4⟩ := hR
  have h2 : 2 ≤ a := by
    by_cases q : 2 ≤ a
    · exact q
    · exact absurd (r2 a (by omega)) ha
  refine ⟨fun j => ?_, fun j hj => ?_, r3, fun q => by rw [hz]; exact r4 q⟩
  · by_cases e : j = a
    · subst e
      show AtC τ D cA s0 (up h.2 j x j) (τ j) H1
      unfold up
      rw [if_pos rfl]
      exact hx
    · show AtC τ D cA s0 (up h.2 a x j) (τ j) H1
      unfold up
      rw [if_neg e]
      refine (r1 j).kept τ D cA s0 (fun _ => ho _ (fun q => ?_))
      by_cases q2 : 2 ≤ j
      · have := hτ.1 j q2
        have := hτ.1 a h2
        omega
      · have := hτ.2 j (by omega)
        have := hτ.1 a h2
        omega
  · show roC (up h.2 a x j)
    unfold up
    rw [if_neg (by omega)]
    exact r2 j hj
theorem RelH.push {z k1 n1 k2 n2 : Nat} {b : Bool} {c : Nat → VC} {H H1 : Heap} {x : VC} (hτ : Tau τ s0) (hR : RelH τ D cA s0 ((z, true, k1, n1), c) H) (hx : AtC τ D cA s0 x H.size H1) (hz : H1.size = H.size + 1) (ho : ∀ q, q < H.size → H1[q]? = H[q]?) : H.size = τ z ∧ RelH τ D cA s0 ((z + 1, b, k2, n2), up c z x) H1 := by
  obtain ⟨r1, r2, r3, r4⟩ := hR
  have r3' : 2 ≤ z := r3
  have r4' : H.size + 2 = s0.heap.size + z := r4 rfl
  have hq : H.size = τ z := by
    have := hτ.1 z r3'
    omega
  refine ⟨hq, fun j => ?_, fun j hj => ?_, by show 2 ≤ z + 1; omega, fun _ => by show H1.size + 2 = s0.heap.size + (z + 1); omega⟩
  · show AtC τ D cA s0 (up c z x j) (τ j) H1
    unfold up
    by_cases e : j = z
    · subst e
      rw [if_pos rfl, ← hq]
      exact hx
    · rw [if_neg e]
      exact (r1 j).kept τ D cA s0 (fun q => ho _ q)
  · show roC (up c z x j)
    unfold up
    rw [if_neg (by omega)]
    exact r2 j hj
theorem RelH.fuzz {z k1 n1 k2 n2 : Nat} {b : Bool} {c : Nat → VC} {H H1 : Heap} (hR : RelH τ D cA s0 ((z, b, k1, n1), c) H) (ho : ∀ q, q < H.size → H1[q]? = H[q]?) : RelH τ D cA s0 ((z, false, k2, n2), c) H1 := by
  obtain ⟨r1, r2, r3, r4⟩ := hR
  exact ⟨fun j => (r1 j).kept τ D cA s0 (fun q => ho _ q), r2, r3, fun q => by cases q⟩
/-- within a method's frame: s is its start -/
def Inv (s : State) (h : VH) (H : Heap) (locs : List Loc) : Prop := RelH τ D cA s0 h H ∧ s.heap.size ≤ H.size ∧ (∀ q, q < s0.heap.size → H[q]? = s0.heap[q]?) ∧ ∀ l ∈ locs, s0.heap.size ≤ l.base
theorem Inv.put {s : State} {h : VH} {H H1 : Heap} {locs : List Loc} {a k : Nat} {x : VC} (hτ : Tau τ s0) (hI : Inv τ D cA s0 s h H locs) (ha : ¬ roC (h.2 a)) (hx : AtC τ D cA s0 x (τ a) H1) (hz : H1.size = H.size) (ho : ∀ q, q ≠ τ a → H1[q]? = H[q]?) : Inv τ D cA s0 s (h.1, up h.2 a x) H1 (locs ++ [⟨τ a, k⟩]) := by
  have h2 : 2 ≤ a := by
    by_cases q : 2 ≤ a
    · exact q
    · exact absurd (hI.1.2.1 a (by omega)) ha
  have h3 := hτ.1 a h2
  refine ⟨hI.1.set τ D cA s0 hτ ha hx hz ho, by rw [hz]; exact hI.2.1, fun q hq => ?_, fun l hl => ?_⟩
  · rw [ho q (by omega)]
    exact hI.2.2.1 q hq
  · rcases List.mem_append.mp hl with h4 | h4
    · exact hI.2.2.2 l h4
    · rw [List.mem_singleton.mp h4]
      show s0.heap.size ≤ τ a
      omega
end HEAP
