/-! one step, and the run: 'mt' is the table of the methods (part 'table') -/
def cat1 (k : Nat) (len hp : Nat) (ls : VLs) : Option (Nat × VLs) := if k < ls.length then some (hp + len, set1 k none ls) else none
def ctch (M : MI) (hp : Nat) (ls : VLs) : Option (Nat × VLs) := match decode M.1 hp with
  | .ok (.astore_n k, 1) => cat1 k 1 hp ls
  | .ok (.astore k, 2) => cat1 k 2 hp ls
  | _ => none
def stepc (rec : MI → Nat → VLs → List Value → VH → Option VR) (M : MI) (pc : Nat) (ls : VLs) (h : VH) : VA → Option VR
  | Sum.inl q => rec M q.1 q.2.1 q.2.2.1 q.2.2.2
  | Sum.inr (Sum.inl (μ, as, rest)) => if (entA as).length ≤ (mt μ).2.2.1.1 then (match rec (mt μ) 0 (entL (mt μ).2.2.1.1 as) [] h with
    | none => none
    | some (Sum.inl v, h') => rec M (pc + 3) ls (v.toList ++ rest) h'
    | some (Sum.inr E, h') => match hnd M.2.2.2 pc E with
      | none => some (Sum.inr E, h')
      | some hp => match ctch M hp ls with
        | none => none
        | some (pc', ls') => rec M pc' ls' [] h') else none
  | Sum.inr (Sum.inr (Sum.inl v)) => some (Sum.inl v, h)
  | Sum.inr (Sum.inr (Sum.inr E)) => some (Sum.inr E, ((h.1.1, false, h.1.2.2.1 + 1, h.1.2.2.2 + 6), h.2))
def run : Nat → MI → Nat → VLs → List Value → VH → Option VR
  | 0, _, _, _, _, _ => none
  | f + 1, M, pc, ls, st, h => match decode M.1 pc with
    | .ok (ins, len) => if okL ins len = true then (match act M ins len pc ls st h with
      | some a => stepc (run f) M pc ls h a
      | none => none) else none
    | _ => none
theorem stepc_mono {r1 r2 : MI → Nat → VLs → List Value → VH → Option VR} (hr : ∀ M pc ls st h x, r1 M pc ls st h = some x → r2 M pc ls st h = some x) {M : MI} {pc : Nat} {ls : VLs} {h : VH} {a : VA} {x : VR} (hx : stepc r1 M pc ls h a = some x) : stepc r2 M pc ls h a = some x := by
  rcases a with q | ⟨μ, as, rest⟩ | v | E
  · exact hr _ _ _ _ _ _ hx
  · simp only [stepc] at hx ⊢
    by_cases he : (entA as).length ≤ (mt μ).2.2.1.1
    case neg => rw [if_neg he] at hx; cases hx
    rw [if_pos he] at hx ⊢
    cases h1 : r1 (mt μ) 0 (entL (mt μ).2.2.1.1 as) [] h with
    | none => rw [h1] at hx; cases hx
    | some y =>
      rw [hr _ _ _ _ _ _ h1]
      rw [h1] at hx
      obtain ⟨v | E, h'⟩ := y
      · exact hr _ _ _ _ _ _ hx
      · simp only at hx ⊢
        cases h2 : hnd M.2.2.2 pc E with
        | none => rw [h2] at hx; exact hx
        | some hp =>
          rw [h2] at hx
          simp only at hx ⊢
          cases h3 : ctch M hp ls with
          | none => rw [h3] at hx; cases hx
          | some z =>
            rw [h3] at hx
            exact hr _ _ _ _ _ _ hx
  · exact hx
  · exact hx
theorem run_mono1 : ∀ (f : Nat) {M : MI} {pc : Nat} {ls : VLs} {st : List Value} {h : VH} {x : VR}, run f M pc ls st h = some x → run (f + 1) M pc ls st h = some x := by
  intro f
  induction f with
  | zero => intro M pc ls st h x hx; cases hx
  | succ f ih =>
    intro M pc ls st h x hx
    rw [run] at hx ⊢
    cases hd : decode M.1 pc with
    | error e => rw [hd] at hx; cases hx
    | ok q =>
      rw [hd] at hx
      obtain ⟨ins, len⟩ := q
      simp only at hx ⊢
      by_cases ho : okL ins len = true
      case neg => rw [if_neg ho] at hx; cases hx
      rw [if_pos ho] at hx ⊢
      cases ha : act M ins len pc ls st h with
      | none => rw [ha] at hx; cases hx
      | some a =>
        rw [ha] at hx
        exact stepc_mono (fun M pc ls st h x q => ih q) hx
theorem run_mono {f g : Nat} (hfg : f ≤ g) {M : MI} {pc : Nat} {ls : VLs} {st : List Value} {h : VH} {x : VR} (hx : run f M pc ls st h = some x) : run g M pc ls st h = some x := by
  induction g with
  | zero =>
    have : f = 0 := by omega
    subst this; exact hx
  | succ g ih =>
    by_cases q : f ≤ g
    · exact run_mono1 g (ih q)
    · have : f = g + 1 := by omega
      subst this; exact hx
/-- from this point the method's run ends, and Q holds of its end -/
def Xm (M : MI) (pc : Nat) (ls : VLs) (st : List Value) (h : VH) (Q : (Option Value ⊕ Nat) → VH → Prop) : Prop := ∃ (f : Nat) (x : VR), run f M pc ls st h = some x ∧ Q x.1 x.2
/-- a call of the method with these arguments ends, and Q holds of its end -/
def Cm (μ : Nat) (as : List Value) (h : VH) (Q : (Option Value ⊕ Nat) → VH → Prop) : Prop := Xm (mt μ) 0 (entL (mt μ).2.2.1.1 as) [] h Q
theorem Xm.mono {M : MI} {pc : Nat} {ls : VLs} {st : List Value} {h : VH} {Q Q' : (Option Value ⊕ Nat) → VH → Prop} (k : Xm M pc ls st h Q) (hq : ∀ r h', Q r h' → Q' r h') : Xm M pc ls st h Q' := by
  obtain ⟨f, x, h1, h2⟩ := k
  exact ⟨f, x, h1, hq _ _ h2⟩
theorem Cm.mono {μ : Nat} {as : List Value} {h : VH} {Q Q' : (Option Value ⊕ Nat) → VH → Prop} (k : Cm μ as h Q) (hq : ∀ r h', Q r h' → Q' r h') : Cm μ as h Q' := Xm.mono k hq
theorem Cm.in {μ : Nat} {M : MI} {as : List Value} {h : VH} {ls : VLs} {Q : (Option Value ⊕ Nat) → VH → Prop} (hM : mt μ = M) (hl : entL M.2.2.1.1 as = ls) (k : Xm M 0 ls [] h Q) : Cm μ as h Q := by
  subst hM; subst hl; exact k
section XR
variable {M : MI} {pc len : Nat} {ls : VLs} {st : List Value} {h : VH} {Q : (Option Value ⊕ Nat) → VH → Prop} {ins : ClassFile.Instr}
theorem X_nx {pc' : Nat} {ls' : VLs} {st' : List Value} {h' : VH} (hd : decode M.1 pc = .ok (ins, len)) (ha : act M ins len pc ls st h = some (Sum.inl (pc', ls', st', h'))) (k : Xm M pc' ls' st' h' Q) (ho : okL ins len = true := by rfl) : Xm M pc ls st h Q := by
  obtain ⟨f, x, h1, h2⟩ := k
  refine ⟨f + 1, x, ?_, h2⟩
  rw [run, hd]
  simp only [ho, if_true, ha]
  exact h1
theorem X_ret {v : Option Value} (hd : decode M.1 pc = .ok (ins, len)) (ha : act M ins len pc ls st h = some (Sum.inr (Sum.inr (Sum.inl v)))) (k : Q (Sum.inl v) h) (ho : okL ins len = true := by rfl) : Xm M pc ls st h Q := by
  refine ⟨1, (Sum.inl v, h), ?_, k⟩
  rw [run, hd]
  simp only [ho, if_true, ha]
  rfl
theorem X_thr {E : Nat} (hd : decode M.1 pc = .ok (ins, len)) (ha : act M ins len pc ls st h = some (Sum.inr (Sum.inr (Sum.inr E)))) (k : Q (Sum.inr E) ((h.1.1, false, h.1.2.2.1 + 1, h.1.2.2.2 + 6), h.2)) (ho : okL ins len = true := by rfl) : Xm M pc ls st h Q := by
  refine ⟨1, (Sum.inr E, ((h.1.1, false, h.1.2.2.1 + 1, h.1.2.2.2 + 6), h.2)), ?_, k⟩
  rw [run, hd]
  simp only [ho, if_true, ha]
  rfl
/-- behind a call that throws: not caught, or caught -/
def Xx (M : MI) (pc : Nat) (ls : VLs) (Q : (Option Value ⊕ Nat) → VH → Prop) (E : Nat) (h : VH) : Prop := match hnd M.2.2.2 pc E with
  | none => Q (Sum.inr E) h
  | some hp => match ctch M hp ls with
    | none => False
    | some (pc', ls') => Xm M pc' ls' [] h Q
def Xk (M : MI) (pc : Nat) (ls : VLs) (rest : List Value) (Q : (Option Value ⊕ Nat) → VH → Prop) (r : Option Value ⊕ Nat) (h : VH) : Prop := match r with
  | Sum.inl v => Xm M (pc + 3) ls (v.toList ++ rest) h Q
  | Sum.inr E => Xx M pc ls Q E h
theorem X_call {μ : Nat} {as rest : List Value} (hd : decode M.1 pc = .ok (ins, len)) (ha : act M ins len pc ls st h = some (Sum.inr (Sum.inl (μ, as, rest)))) (he : (entA as).length ≤ (mt μ).2.2.1.1) (hc : Cm μ as h (Xk M pc ls rest Q)) (ho : okL ins len = true := by rfl) : Xm M pc ls st h Q := by
  obtain ⟨f, ⟨r, h'⟩, h1, h2⟩ := hc
  rcases r with v | E
  · obtain ⟨g, x, g1, g2⟩ := h2
    refine ⟨max f g + 1, x, ?_, g2⟩
    rw [run, hd]
    simp only [ho, if_true, ha, stepc, he]
    rw [run_mono (Nat.le_max_left f g) h1]
    exact run_mono (Nat.le_max_right f g) g1
  · simp only [Xk, Xx] at h2
    cases e1 : hnd M.2.2.2 pc E with
    | none =>
      rw [e1] at h2
      refine ⟨f + 1, (Sum.inr E, h'), ?_, h2⟩
      rw [run, hd]
      simp only [ho, if_true, ha, stepc, he]
      rw [h1]
      simp only [e1]
    | some hp =>
      rw [e1] at h2
      simp only at h2
      cases e2 : ctch M hp ls with
      | none => rw [e2] at h2; exact h2.elim
      | some z =>
        rw [e2] at h2
        obtain ⟨g, x, g1, g2⟩ := h2
        refine ⟨max f g + 1, x, ?_, g2⟩
        rw [run, hd]
        simp only [ho, if_true, ha, stepc, he]
        rw [run_mono (Nat.le_max_left f g) h1]
        simp only [e1, e2]
        exact run_mono (Nat.le_max_right f g) g1
end XR
