/-! THE SHOP: its boxes, its formes, its heap, its numbers -/
def uf {α : Type} (f : Nat → α) (a : Nat) (x : α) : Nat → α := fun j => if j = a then x else f j
theorem uf_s {α : Type} {f : Nat → α} {a : Nat} {x : α} : uf f a x a = x := if_pos rfl
theorem uf_n {α : Type} {f : Nat → α} {a b : Nat} {x : α} (h : b ≠ a) : uf f a x b = f b := if_neg h
abbrev Bx : Type := Nat → List Nat
/-- x onto the top of box b -/
def pb (B : Bx) (b x : Nat) : Bx := uf B b (B b ++ [x])
def sbN (B : Bx) : Nat → Nat
  | 0 => 0
  | n + 1 => sbN B n + (B n).length
/-- the sorts in all boxes -/
def SB (B : Bx) : Nat := sbN B 27
theorem sbN_uf_ge {B : Bx} {b : Nat} {l : List Nat} : ∀ {n : Nat}, n ≤ b → sbN (uf B b l) n = sbN B n
  | 0, _ => rfl
  | n + 1, h => by
    show sbN (uf B b l) n + (uf B b l n).length = sbN B n + (B n).length
    rw [sbN_uf_ge (by omega), uf_n (by omega)]
theorem sbN_uf {B : Bx} {b : Nat} {l : List Nat} : ∀ {n : Nat}, b < n → sbN (uf B b l) n + (B b).length = sbN B n + l.length
  | 0, h => by omega
  | n + 1, h => by
    show sbN (uf B b l) n + (uf B b l n).length + (B b).length = sbN B n + (B n).length + l.length
    by_cases e : b = n
    · subst e
      rw [sbN_uf_ge (Nat.le_refl _), uf_s]; omega
    · have := sbN_uf (B := B) (l := l) (b := b) (n := n) (by omega)
      rw [uf_n (by omega)]; omega
theorem SB_uf {B : Bx} {b : Nat} {l : List Nat} (h : b < 27) : SB (uf B b l) + (B b).length = SB B + l.length := sbN_uf h
theorem sbN_le {B : Bx} {b : Nat} : ∀ {n : Nat}, b < n → (B b).length ≤ sbN B n
  | 0, h => by omega
  | n + 1, h => by
    show (B b).length ≤ sbN B n + (B n).length
    by_cases e : b = n
    · subst e; omega
    · have := sbN_le (B := B) (b := b) (n := n) (by omega); omega
theorem SB_le {B : Bx} {b : Nat} (h : b < 27) : (B b).length ≤ SB B := sbN_le h
theorem SB_pb {B : Bx} {b x : Nat} (h : b < 27) : SB (pb B b x) = SB B + 1 := by
  have := SB_uf (B := B) (l := B b ++ [x]) h
  simp only [List.length_append, List.length_singleton] at this
  unfold pb; omega
abbrev ObAt (c : Nat → VC) (A : Nat) (sl pr co mi go : Int32) : Prop := c A = cO 3 [.ref (A + 1), .ref (A + 2), .ref (A + 3), .int sl, .int pr, .int co, .int mi, .int go]
def BoxAt (c : Nat → VC) (A : Nat) (B : Bx) : Prop := (∃ f, c (A + 1) = cR 2 27 f ∧ ∀ i, i < 27 → f i = some (A + 5 + 2 * i)) ∧ ∀ i, i < 27 → RowAt c (A + 5 + 2 * i) (A + 6 + 2 * i) 250 (B i)
def FrB (c c' : Nat → VC) (A : Nat) : Prop := ∀ k, k < A + 5 ∨ A + 59 ≤ k → c' k = c k
def FrS (c c' : Nat → VC) (A : Nat) : Prop := ∀ k, k ≠ A → k < A + 5 ∨ A + 59 ≤ k → c' k = c k
theorem FrB.rf {c : Nat → VC} {A : Nat} : FrB c c A := fun _ _ => rfl
theorem FrB.tr {c c1 c2 : Nat → VC} {A : Nat} (h : FrB c c1 A) (h2 : FrB c1 c2 A) : FrB c c2 A := fun k hk => (h2 k hk).trans (h k hk)
theorem FrB.S {c c1 : Nat → VC} {A : Nat} (h : FrB c c1 A) : FrS c c1 A := fun k _ hk => h k hk
theorem FrS.tr {c c1 c2 : Nat → VC} {A : Nat} (h : FrS c c1 A) (h2 : FrS c1 c2 A) : FrS c c2 A := fun k h0 hk => (h2 k h0 hk).trans (h k h0 hk)
theorem FrS.up {c c1 : Nat → VC} {A : Nat} {x : VC} (h : FrS c c1 A) : FrS c (up c1 A x) A := fun k h0 hk => (up_n h0).trans (h k h0 hk)
theorem FrB.of2 {c c' : Nat → VC} {A b : Nat} (hb : b < 27) (h : Fr2 c c' (A + 5 + 2 * b) (A + 6 + 2 * b)) : FrB c c' A := fun k hk => h k (by omega) (by omega)
theorem BoxAt.fr {c c' : Nat → VC} {A : Nat} {B : Bx} (h : BoxAt c A B) (hc : ∀ k, A < k → k < A + 59 → c' k = c k) : BoxAt c' A B := by
  obtain ⟨⟨f, h1, h2⟩, h3⟩ := h
  exact ⟨⟨f, by rw [hc _ (by omega) (by omega)]; exact h1, h2⟩, fun i hi => (h3 i hi).fr (hc _ (by omega) (by omega)) (hc _ (by omega) (by omega))⟩
theorem BoxAt.set {c c' : Nat → VC} {A b : Nat} {B : Bx} {l : List Nat} (h : BoxAt c A B) (hb : b < 27) (hr : RowAt c' (A + 5 + 2 * b) (A + 6 + 2 * b) 250 l) (hf : Fr2 c c' (A + 5 + 2 * b) (A + 6 + 2 * b)) : BoxAt c' A (uf B b l) := by
  obtain ⟨⟨f, h1, h2⟩, h3⟩ := h
  refine ⟨⟨f, by rw [hf _ (by omega) (by omega)]; exact h1, h2⟩, fun i hi => ?_⟩
  by_cases e : i = b
  · subst e; rw [uf_s]; exact hr
  · rw [uf_n e]; exact (h3 i hi).fr (hf _ (by omega) (by omega)) (hf _ (by omega) (by omega))
theorem BoxAt.lt {c : Nat → VC} {A : Nat} {B : Bx} (h : BoxAt c A B) {b : Nat} (hb : b < 27) : ∀ x ∈ B b, x < 27 := (h.2 b hb).2.2.2.2.1
theorem nI_mod {a b : Nat} (ha : a < 2 ^ 31) (hb : b < 2 ^ 31) (h0 : 0 < b) : nI a - nI a / nI b * nI b = nI (a % b) := pk_rem ha h0 hb
/-- the words' widths -/
def wd (x : Nat) : Nat := if x = 5 ∨ x = 8 ∨ x = 9 ∨ x = 11 ∨ x = 19 then 0 else if x = 12 ∨ x = 22 then 2 else if x = 26 then 3 else 1
theorem wd_lt (x : Nat) : wd x < 4 := by unfold wd; repeat (split <;> try decide)
def WidAt (c : Nat → VC) : Prop := ∃ f, c 1 = cS 27 f ∧ ∀ i, i < 27 → f i = nI (wd i)
theorem WidAt.fr {c c' : Nat → VC} (h : WidAt c) (hc : c' 1 = c 1) : WidAt c' := by
  obtain ⟨f, h1, h2⟩ := h
  exact ⟨f, by rw [hc]; exact h1, h2⟩
set_option maxRecDepth 20000 in
set_option maxHeartbeats 1000000 in
theorem s_J9_floorMod {h : VH} {a b : Nat} (ha : a < 1000000) (hb : b < 1000000) (h0 : 0 < b) : Cm k_J9_floorMod [.int (nI a), .int (nI b)] h (Rt (.int (nI (a % b))) h) := by
  have e1 := nI_mod (a := a) (b := b) (by omega) (by omega) h0
  refine Cm.in (M := M_J9_floorMod) (ls := [some (.int (nI a)), some (.int (nI b)), none]) rfl rfl ?_
  refine x_iload_n dJ9_floorMod_7cf53_0 rfl ?_
  refine x_iload_n dJ9_floorMod_7cf53_1 rfl ?_
  refine x_irem dJ9_floorMod_7cf53_2 (nI_ne0 h0 (by omega)) ?_
  rw [e1]
  refine x_istore_n2 dJ9_floorMod_7cf53_3 rfl ?_
  refine x_iload_n dJ9_floorMod_7cf53_4 rfl ?_
  refine x_iload_n dJ9_floorMod_7cf53_5 rfl ?_
  refine x_ixor dJ9_floorMod_7cf53_6 ?_
  refine x_if_ge 18 dJ9_floorMod_7cf53_7 (by decide) (fun c7 => ?_) (fun c7 => ?_)
  · refine x_iload_n dJ9_floorMod_7cf53_18 rfl ?_
    refine x_ireturn dJ9_floorMod_7cf53_19 ?_
    exact ⟨rfl, rfl⟩
  · refine absurd ?_ c7
    have e2 : nI a ^^^ nI b = nI (a ^^^ b) := by
      unfold nI
      apply Int32.toBitVec_inj.mp
      simp [Int32.toBitVec_xor]
    rw [e2]
    exact nI_pos' (Nat.lt_of_lt_of_le (Nat.xor_lt_two_pow (n := 20) (by omega) (by omega)) (by decide))
set_option maxRecDepth 20000 in
set_option maxHeartbeats 1000000 in
theorem s_X3_boxOf {c : Nat → VC} {g : VG} {A : Nat} {sl pr co mi go : Int32} {B : Bx} (hO : ObAt c A sl pr co mi go) (hB : BoxAt c A B) {a : Nat} (ha : a < 1000) : Cm k_X3_boxOf [.ref A, .int (nI a)] (g, c) (Rt (.ref (A + 5 + 2 * (a % 27))) (g, c)) := by
  have hB9 := hB
  obtain ⟨⟨f, hf1, hf2⟩, hrow⟩ := hB
  refine Cm.in (M := M_X3_boxOf) (ls := [some (.ref A), some (.int (nI a))]) rfl rfl ?_
  refine x_aload_n dX3_boxOf_0 rfl ?_
  refine x_getfield dX3_boxOf_1 rfl (by decide) (by first | assumption | (simp (disch := omega) only [up_s, up_n]; first | assumption | rfl)) rfl ?_
  refine x_iload_n dX3_boxOf_4 rfl ?_
  refine x_bipush (nI 27) dX3_boxOf_5 (by decide) ?_
  refine x_cs2 dX3_boxOf_7 rfl ?_
  refine Cm.rt (s_J9_floorMod (by omega) (by omega) (by omega)) ?_
  refine x_aaloadN dX3_boxOf_10 (by first | assumption | (simp (disch := omega) only [up_s, up_n]; first | assumption | rfl)) (by omega) (by omega) (hf2 _ (by omega)) ?_
  refine x_areturn dX3_boxOf_11 ?_
  exact ⟨rfl, rfl⟩
theorem s_X3_boxOf' {c : Nat → VC} {g : VG} {A : Nat} {sl pr co mi go : Int32} {B : Bx} (hO : ObAt c A sl pr co mi go) (hB : BoxAt c A B) {a : Nat} (ha : a < 27) : Cm k_X3_boxOf [.ref A, .int (nI a)] (g, c) (Rt (.ref (A + 5 + 2 * a)) (g, c)) := by
  have := s_X3_boxOf (g := g) hO hB (a := a) (by omega)
  rw [Nat.mod_eq_of_lt ha] at this
  exact this
set_option maxRecDepth 20000 in
set_option maxHeartbeats 1000000 in
theorem s_X3_putBack {c : Nat → VC} {g : VG} {A : Nat} {sl pr co mi go : Int32} {B : Bx} (hO : ObAt c A sl pr co mi go) (hB : BoxAt c A B) {x : Nat} (hx : x < 27) (hl : (B x).length < 250) : Cm k_X3_putBack [.ref A, .int (nI x)] (g, c) (Ev g (fun c' => BoxAt c' A (pb B x x) ∧ FrB c c' A)) := by
  have hR := hB.2 x hx
  have hR1 := hR.2.1
  refine Cm.in (M := M_X3_putBack) (ls := [some (.ref A), some (.int (nI x))]) rfl rfl ?_
  refine x_aload_n dX3_putBack_0 rfl ?_
  refine x_iload_n dX3_putBack_1 rfl ?_
  refine x_cv2 dX3_putBack_2 rfl (by first | assumption | (simp (disch := omega) only [up_s, up_n]; first | assumption | rfl)) rfl ?_
  refine Cm.rt (s_X3_boxOf' hO hB hx) ?_
  refine x_iload_n dX3_putBack_5 rfl ?_
  refine x_cv2 dX3_putBack_6 rfl (by first | assumption | (simp (disch := omega) only [up_s, up_n]; first | assumption | rfl)) rfl ?_
  refine Cm.ev (s_X2_put hR hx hl) (fun c1 q1 => ?_)
  refine x_return dX3_putBack_9 ?_
  exact ⟨c1, rfl, rfl, hB.set hx q1.1 q1.2, FrB.of2 hx q1.2⟩
def buyB (B : Bx) (x n : Nat) : Bx := uf B x (B x ++ List.replicate n x)
theorem buyB_0 {B : Bx} {x : Nat} : buyB B x 0 = B := by
  funext j
  unfold buyB
  by_cases e : j = x
  · subst e; rw [uf_s]; simp
  · rw [uf_n e]
theorem buyB_s {B : Bx} {x n : Nat} : pb (buyB B x n) x x = buyB B x (n + 1) := by
  funext j
  unfold pb buyB
  by_cases e : j = x
  · subst e; rw [uf_s, uf_s, uf_s, List.replicate_succ']; simp
  · rw [uf_n e, uf_n e, uf_n e]
set_option maxRecDepth 20000 in
set_option maxHeartbeats 1000000 in
theorem l_X3_buySorts {c : Nat → VC} {g : VG} {A : Nat} {sl pr co mi go : Int32} {B : Bx} (hO : ObAt c A sl pr co mi go) {x n : Nat} (hx : x < 27) (hl : (B x).length + n ≤ 250) : ∀ (m i : Nat), i ≤ n → n < i + m → ∀ c1, BoxAt c1 A (buyB B x i) → FrB c c1 A → Xm M_X3_buySorts 2 [some (.ref A), some (.int (nI x)), some (.int (nI n)), some (.int (nI i))] [] (g, c1) (Ev g (fun c' => ObAt c' A sl pr (co + pr * nI n) mi go ∧ BoxAt c' A (buyB B x n) ∧ FrS c c' A)) := by
  intro m
  induction m with
  | zero => intro i z1 z2; omega
  | succ m ih =>
    intro i z1 z2 c1 hB1 hF1
    have hO1 : ObAt c1 A sl pr co mi go := (hF1 A (by omega)).trans hO
    refine x_iload_n dX3_buySorts_2 rfl ?_
    refine x_iload_n dX3_buySorts_3 rfl ?_
    refine x_icmp_ge 18 dX3_buySorts_4 (by decide) (fun c4 => ?_) (fun c4 => ?_)
    · have e1 : i = n := by have := (nI_leI (by omega) (by omega)).mp c4; omega
      subst e1
      refine x_aload_n dX3_buySorts_18 rfl ?_
      refine x_dup dX3_buySorts_19 rfl ?_
      refine x_getfield dX3_buySorts_20 rfl (by decide) (by first | assumption | (simp (disch := omega) only [up_s, up_n]; first | assumption | rfl)) rfl ?_
      refine x_aload_n dX3_buySorts_23 rfl ?_
      refine x_getfield dX3_buySorts_24 rfl (by decide) (by first | assumption | (simp (disch := omega) only [up_s, up_n]; first | assumption | rfl)) rfl ?_
      refine x_iload_n dX3_buySorts_27 rfl ?_
      refine x_imul dX3_buySorts_28 ?_
      refine x_iadd dX3_buySorts_29 ?_
      refine x_putfield5 dX3_buySorts_30 rfl (by first | assumption | (simp (disch := omega) only [up_s, up_n]; first | assumption | rfl)) rfl ?_
      refine x_return dX3_buySorts_33 ?_
      exact ⟨_, rfl, rfl, up_s, hB1.fr (fun k z3 z4 => up_n (by omega)), hF1.S.up⟩
    · refine x_aload_n dX3_buySorts_7 rfl ?_
      refine x_iload_n dX3_buySorts_8 rfl ?_
      refine x_cv2 dX3_buySorts_9 rfl (by first | assumption | (simp (disch := omega) only [up_s, up_n]; first | assumption | rfl)) rfl ?_
      have hi : i < n := by
        by_cases z : i < n
        · exact z
        · exact absurd ((nI_leI (by omega) (by omega)).mpr (by omega)) c4
      have hl2 : (buyB B x i x).length < 250 := by unfold buyB; rw [uf_s]; simp; omega
      refine Cm.ev (s_X3_putBack hO1 hB1 hx hl2) (fun c2 q2 => ?_)
      refine x_iincN_3 (1) dX3_buySorts_12 (by decide) rfl ?_
      refine x_goto 2 dX3_buySorts_15 (by decide) ?_
      exact ih (i + 1) (by omega) (by omega) c2 (by rw [← buyB_s]; exact q2.1) (hF1.tr q2.2)
set_option maxRecDepth 20000 in
set_option maxHeartbeats 1000000 in
theorem s_X3_buySorts {c : Nat → VC} {g : VG} {A : Nat} {sl pr co mi go : Int32} {B : Bx} (hO : ObAt c A sl pr co mi go) (hB : BoxAt c A B) {x n : Nat} (hx : x < 27) (hl : (B x).length + n ≤ 250) : Cm k_X3_buySorts [.ref A, .int (nI x), .int (nI n)] (g, c) (Ev g (fun c' => ObAt c' A sl pr (co + pr * nI n) mi go ∧ BoxAt c' A (buyB B x n) ∧ FrS c c' A)) := by
  refine Cm.in (M := M_X3_buySorts) (ls := [some (.ref A), some (.int (nI x)), some (.int (nI n)), none]) rfl rfl ?_
  refine x_iconst (nI 0) dX3_buySorts_0 (by decide) ?_
  refine x_istore_n3 dX3_buySorts_1 rfl ?_
  exact l_X3_buySorts hO hx hl (n + 1) 0 (Nat.zero_le _) (by omega) c (by rw [buyB_0]; exact hB) FrB.rf
def spl (a b : Nat) : Nat → Bx → Bx
  | 0, B => B
  | n + 1, B => spl a b n (pb (uf B a (B a).dropLast) b ((B a).getLastD 0))
theorem snoc_of {l : List Nat} (h : 0 < l.length) : l = l.dropLast ++ [l.getLastD 0] := by
  have hne : l ≠ [] := by intro e; subst e; simp at h
  rw [List.getLastD_eq_getLast?, List.getLast?_eq_some_getLast hne]
  exact (List.dropLast_concat_getLast hne).symm
set_option maxRecDepth 20000 in
set_option maxHeartbeats 1000000 in
theorem l_X3_spillSorts {c : Nat → VC} {g : VG} {A : Nat} {sl pr co mi go : Int32} {B : Bx} (hO : ObAt c A sl pr co mi go) {a b n : Nat} (ha : a < 27) (hb : b < 27) (hab : a ≠ b) (hn : n ≤ 30) : ∀ (m i : Nat), i + m = n → ∀ (c1 : Nat → VC) (B1 : Bx), BoxAt c1 A B1 → SB B1 ≤ 250 → m ≤ (B1 a).length → FrB c c1 A → Xm M_X3_spillSorts 3 [some (.ref A), some (.int (nI a)), some (.int (nI b)), some (.int (nI n)), some (.int (nI i))] [] (g, c1) (Ev g (fun c' => BoxAt c' A (spl a b m B1) ∧ FrB c c' A)) := by
  intro m
  induction m with
  | zero =>
    intro i z1 c1 B1 hB1 hs hm hF1
    refine x_iload dX3_spillSorts_3 rfl ?_
    refine x_iload_n dX3_spillSorts_5 rfl ?_
    refine x_icmp_ge 31 dX3_spillSorts_6 (by decide) (fun c6 => ?_) (fun c6 => absurd (nI_le (by omega) (by omega)) c6)
    refine x_return dX3_spillSorts_31 ?_
    exact ⟨c1, rfl, rfl, hB1, hF1⟩
  | succ m ih =>
    intro i z1 c1 B1 hB1 hs hm hF1
    have hO1 : ObAt c1 A sl pr co mi go := (hF1 A (by omega)).trans hO
    have hRa := hB1.2 a ha
    have hRb := hB1.2 b hb
    rw [snoc_of (l := B1 a) (by omega)] at hRa
    have hx : (B1 a).getLastD 0 < 27 := hRa.2.2.2.2.1 _ (by simp)
    have kb := hRb.2.1
    have ka := hRa.2.1
    have lb := SB_le (B := B1) hb
    have la := SB_le (B := B1) ha
    have hlb : (B1 b).length < 250 := by
      have := SB_uf (B := B1) (l := []) ha
      have h2 := SB_le (B := uf B1 a []) hb
      rw [uf_n (Ne.symm hab)] at h2
      simp at this
      omega
    refine x_iload dX3_spillSorts_3 rfl ?_
    refine x_iload_n dX3_spillSorts_5 rfl ?_
    refine x_icmp_ge 31 dX3_spillSorts_6 (by decide) (fun c6 => ?_) (fun c6 => ?_)
    · exact absurd ((nI_leI (by omega) (by omega)).mp c6) (by omega)
    · refine x_aload_n dX3_spillSorts_9 rfl ?_
      refine x_iload_n dX3_spillSorts_10 rfl ?_
      refine x_cv2 dX3_spillSorts_11 rfl (by first | assumption | (simp (disch := omega) only [up_s, up_n]; first | assumption | rfl)) rfl ?_
      refine Cm.rt (s_X3_boxOf' hO1 hB1 hb) ?_
      refine x_aload_n dX3_spillSorts_14 rfl ?_
      refine x_iload_n dX3_spillSorts_15 rfl ?_
      refine x_cv2 dX3_spillSorts_16 rfl (by first | assumption | (simp (disch := omega) only [up_s, up_n]; first | assumption | rfl)) rfl ?_
      refine Cm.rt (s_X3_boxOf' hO1 hB1 ha) ?_
      refine x_cv1 dX3_spillSorts_19 rfl (by first | assumption | (simp (disch := omega) only [up_s, up_n]; first | assumption | rfl)) rfl ?_
      refine Cm.ei (s_X2_takeLast hRa) (fun v c2 q2 => ?_)
      obtain ⟨rfl, q2⟩ := q2
      have hB2 := hB1.set ha q2.1 q2.2
      have kb2 := (hB2.2 b hb).2.1
      rw [uf_n (Ne.symm hab)] at kb2
      refine x_cv2 dX3_spillSorts_22 rfl (by first | assumption | (simp (disch := omega) only [up_s, up_n]; first | assumption | rfl)) rfl ?_
      have hlb2 : (uf B1 a (B1 a).dropLast b).length < 250 := by rw [uf_n (Ne.symm hab)]; exact hlb
      refine Cm.ev (s_X2_put (hB2.2 b hb) hx hlb2) (fun c3 q3 => ?_)
      have hB3 := hB2.set hb q3.1 q3.2
      refine x_iincN_4 (1) dX3_spillSorts_25 (by decide) rfl ?_
      refine x_goto 3 dX3_spillSorts_28 (by decide) ?_
      refine ih (i + 1) (by omega) c3 _ hB3 ?_ ?_ ((hF1.tr (FrB.of2 ha q2.2)).tr (FrB.of2 hb q3.2))
      · rw [SB_pb hb]
        have := SB_uf (B := B1) (l := (B1 a).dropLast) ha
        simp at this
        omega
      · unfold pb
        rw [uf_n hab, uf_s]
        simp
        omega
set_option maxRecDepth 20000 in
set_option maxHeartbeats 1000000 in
theorem s_X3_spillSorts {c : Nat → VC} {g : VG} {A : Nat} {sl pr co mi go : Int32} {B : Bx} (hO : ObAt c A sl pr co mi go) (hB : BoxAt c A B) {a b n : Nat} (ha : a < 27) (hb : b < 27) (hab : a ≠ b) (hn : n ≤ 30) (hs : SB B ≤ 250) (hm : n ≤ (B a).length) : Cm k_X3_spillSorts [.ref A, .int (nI a), .int (nI b), .int (nI n)] (g, c) (Ev g (fun c' => BoxAt c' A (spl a b n B) ∧ FrB c c' A)) := by
  refine Cm.in (M := M_X3_spillSorts) (ls := [some (.ref A), some (.int (nI a)), some (.int (nI b)), some (.int (nI n)), none]) rfl rfl ?_
  refine x_iconst (nI 0) dX3_spillSorts_0 (by decide) ?_
  refine x_istore_4 dX3_spillSorts_1 rfl ?_
  exact l_X3_spillSorts (B := B) hO ha hb hab hn n 0 (by omega) c B hB hs hm FrB.rf
/-- a row of sorts goes back, each to its own box -/
def bkL (l : List Nat) (B : Bx) : Bx := l.foldl (fun B x => pb B x x) B
def cleanB (B : Bx) (b : Nat) : Bx := bkL (B b) (uf B b [])
/-- how many are foul -/
def foul (B : Bx) (b : Nat) : Nat := (B b).length - (B b).count b
theorem bkL_snoc {l : List Nat} {x : Nat} {B : Bx} : bkL (l ++ [x]) B = pb (bkL l B) x x := by unfold bkL; rw [List.foldl_append]; rfl
theorem bkL_cons {l : List Nat} {x : Nat} {B : Bx} : bkL (x :: l) B = bkL l (pb B x x) := rfl
theorem bkL_self {b : Nat} : ∀ {l : List Nat} {B : Bx}, bkL l B b = B b ++ List.replicate (l.count b) b
  | [], B => by simp [bkL]
  | x :: l, B => by
    rw [bkL_cons, bkL_self]
    unfold pb
    by_cases e : b = x
    · subst e
      rw [uf_s, List.append_assoc, List.count_cons_self]
      rfl
    · rw [uf_n e, List.count_cons_of_ne (Ne.symm e)]
theorem SB_bkL : ∀ {l : List Nat} {B : Bx}, (∀ x ∈ l, x < 27) → SB (bkL l B) = SB B + l.length
  | [], _, _ => rfl
  | x :: l, B, h => by
    rw [bkL_cons, SB_bkL (fun y hy => h y (List.mem_cons_of_mem _ hy)), SB_pb (h x List.mem_cons_self)]
    simp; omega
set_option maxRecDepth 20000 in
set_option maxHeartbeats 1000000 in
theorem l_X3_cleanBox {c : Nat → VC} {g : VG} {A : Nat} {sl pr co mi go : Int32} {B : Bx} (hO : ObAt c A sl pr co mi go) {b : Nat} (hb : b < 27) (hlt : ∀ x ∈ B b, x < 27) (hs : SB B ≤ 250) : ∀ (m : Nat) (l1 l2 : List Nat), l2.length < m → B b = l1 ++ l2 → ∀ c1, BoxAt c1 A (uf (bkL l1 (uf B b [])) b (bkL l1 (uf B b []) b ++ l2)) → FrB c c1 A → Xm M_X3_cleanBox 17 [some (.ref A), some (.int (nI b)), some (.ref (A + 5 + 2 * b)), some (.int (nI (B b).length)), some (.int (nI (l1.count b))), some (.int (nI l1.length))] [] (g, c1) (Ei g (fun v c' => v = .int (nI (foul B b)) ∧ ObAt c' A sl pr co (mi + nI 2 * nI (foul B b)) go ∧ BoxAt c' A (cleanB B b) ∧ FrS c c' A)) := by
  intro m
  induction m with
  | zero => intro l1 l2 z1; omega
  | succ m ih =>
    intro l1 l2 z1 z2 c1 hB1 hF1
    have hO1 : ObAt c1 A sl pr co mi go := (hF1 A (by omega)).trans hO
    have hR := hB1.2 b hb
    rw [uf_s] at hR
    have hk : bkL l1 (uf B b []) b = List.replicate (l1.count b) b := by rw [bkL_self, uf_s]; rfl
    have hlen : (B b).length = l1.length + l2.length := by rw [z2]; simp
    have hk1 := hR.2.1
    have hcl := List.count_le_length (a := b) (l := l1)
    have hsb := SB_le (B := B) hb
    refine x_iload dX3_cleanBox_17 rfl ?_
    refine x_iload_n dX3_cleanBox_19 rfl ?_
    refine x_icmp_ge 55 dX3_cleanBox_20 (by decide) (fun c20 => ?_) (fun c20 => ?_)
    · have e1 : l2 = [] := by
        have := (nI_leI (by omega) (by omega)).mp c20
        exact List.eq_nil_of_length_eq_zero (by omega)
      subst e1
      have e2 : B b = l1 := by rw [z2]; simp
      have hcc : (B b).count b ≤ (B b).length := List.count_le_length
      have hcc2 : l1.count b = (B b).count b := by rw [e2]
      rw [hcc2]
      refine x_aload_n dX3_cleanBox_55 rfl ?_
      refine x_dup dX3_cleanBox_56 rfl ?_
      refine x_getfield dX3_cleanBox_57 rfl (by decide) (by first | assumption | (simp (disch := omega) only [up_s, up_n]; first | assumption | rfl)) rfl ?_
      refine x_iconst (nI 2) dX3_cleanBox_60 (by decide) ?_
      refine x_iload_n dX3_cleanBox_61 rfl ?_
      refine x_iload dX3_cleanBox_62 rfl ?_
      refine x_isubN dX3_cleanBox_64 (by omega) ?_
      refine x_imul dX3_cleanBox_65 ?_
      refine x_iadd dX3_cleanBox_66 ?_
      refine x_putfield6 dX3_cleanBox_67 rfl (by first | assumption | (simp (disch := omega) only [up_s, up_n]; first | assumption | rfl)) rfl ?_
      refine x_iload_n dX3_cleanBox_70 rfl ?_
      refine x_iload dX3_cleanBox_71 rfl ?_
      refine x_isubN dX3_cleanBox_73 (by omega) ?_
      refine x_ireturn dX3_cleanBox_74 ?_
      refine ⟨_, _, rfl, rfl, rfl, up_s, ?_, hF1.S.up⟩
      have e3 : cleanB B b = uf (bkL l1 (uf B b [])) b (bkL l1 (uf B b []) b ++ []) := by
        unfold cleanB
        rw [e2, List.append_nil]
        funext j
        by_cases e : j = b
        · subst e; rw [uf_s]
        · rw [uf_n e]
      rw [e3]
      exact hB1.fr (fun k z3 z4 => up_n (by omega))
    · refine x_aload_n dX3_cleanBox_23 rfl ?_
      refine x_iload dX3_cleanBox_24 rfl ?_
      refine x_cv2 dX3_cleanBox_26 rfl (by first | assumption | (simp (disch := omega) only [up_s, up_n]; first | assumption | rfl)) rfl ?_
      obtain ⟨y, l3, e4⟩ : ∃ y l3, l2 = y :: l3 := by
        cases l2 with
        | nil => exact absurd (nI_le (by simp at hlen; omega) (by omega)) c20
        | cons y l3 => exact ⟨y, l3, rfl⟩
      subst e4
      have hy : y < 27 := hlt y (by rw [z2]; simp)
      have hz2 : B b = (l1 ++ [y]) ++ l3 := by rw [z2]; simp
      have hix : l1.count b < (bkL l1 (uf B b []) b ++ y :: l3).length := by rw [hk]; simp
      have hgt : (bkL l1 (uf B b []) b ++ y :: l3)[l1.count b] = y := by simp [hk]
      have hat := s_X2_at (g := g) hR hix
      rw [hgt] at hat
      refine Cm.rt hat ?_
      refine x_iload_n dX3_cleanBox_29 rfl ?_
      refine x_icmp_ne 39 dX3_cleanBox_30 (by decide) (fun c30 => ?_) (fun c30 => ?_)
      · have e5 : ¬ y = b := fun z => c30 (by rw [z])
        refine x_aload_n dX3_cleanBox_39 rfl ?_
        refine x_aload_n dX3_cleanBox_40 rfl ?_
        refine x_iload dX3_cleanBox_41 rfl ?_
        refine x_cv2 dX3_cleanBox_43 rfl (by first | assumption | (simp (disch := omega) only [up_s, up_n]; first | assumption | rfl)) rfl ?_
        have htk := s_X2_takeAt (g := g) hR hix
        rw [hgt] at htk
        refine Cm.ei htk (fun v c2 q2 => ?_)
        obtain ⟨rfl, q2⟩ := q2
        have her : (bkL l1 (uf B b []) b ++ y :: l3).eraseIdx (l1.count b) = bkL l1 (uf B b []) b ++ l3 := by
          rw [hk, List.eraseIdx_append_of_length_le (by simp)]
          simp
        rw [her] at q2
        have hB2 := hB1.set hb q2.1 q2.2
        have hO2 : ObAt c2 A sl pr co mi go := (q2.2 A (by omega) (by omega)).trans hO1
        refine x_cv2 dX3_cleanBox_46 rfl (by first | assumption | (simp (disch := omega) only [up_s, up_n]; first | assumption | rfl)) rfl ?_
        have hs3 : SB (bkL l1 (uf B b [])) = SB (uf B b []) + l1.length := SB_bkL (fun x hx => hlt x (by rw [z2]; exact List.mem_append_left _ hx))
        have hs4 := SB_uf (B := B) (l := []) hb
        have hly : (uf (uf (bkL l1 (uf B b [])) b (bkL l1 (uf B b []) b ++ y :: l3)) b (bkL l1 (uf B b []) b ++ l3) y).length < 250 := by
          rw [uf_n e5, uf_n e5]
          have := SB_le (B := bkL l1 (uf B b [])) hy
          simp at hs4 hlen
          omega
        refine Cm.ev (s_X3_putBack hO2 hB2 hy hly) (fun c3 q3 => ?_)
        refine x_iincN_5 (1) dX3_cleanBox_49 (by decide) rfl ?_
        refine x_goto 17 dX3_cleanBox_52 (by decide) ?_
        rw [show l1.count b = (l1 ++ [y]).count b by rw [List.count_append]; simp [List.count_singleton, e5], show l1.length + 1 = (l1 ++ [y]).length by simp]
        refine ih (l1 ++ [y]) l3 (by simp at z1; omega) hz2 c3 ?_ ((hF1.tr (FrB.of2 hb q2.2)).tr q3.2)
        have e6 : uf (bkL (l1 ++ [y]) (uf B b [])) b (bkL (l1 ++ [y]) (uf B b []) b ++ l3) = pb (uf (uf (bkL l1 (uf B b [])) b (bkL l1 (uf B b []) b ++ y :: l3)) b (bkL l1 (uf B b []) b ++ l3)) y y := by
          rw [bkL_snoc]
          funext j
          unfold pb
          by_cases e7 : j = b
          · subst e7
            rw [uf_s, uf_n (Ne.symm e5), uf_n (Ne.symm e5), uf_s]
          · rw [uf_n e7]
            by_cases e8 : j = y
            · subst e8
              rw [uf_s, uf_s, uf_n e7, uf_n e7]
            · rw [uf_n e8, uf_n e8, uf_n e7, uf_n e7]
        rw [e6]
        exact q3.1
      · have e5 : y = b := (nI_eq (by omega) (by omega)).mp c30
        subst e5
        refine x_iincN_4 (1) dX3_cleanBox_33 (by decide) rfl ?_
        refine x_goto 49 dX3_cleanBox_36 (by decide) ?_
        refine x_iincN_5 (1) dX3_cleanBox_49 (by decide) rfl ?_
        refine x_goto 17 dX3_cleanBox_52 (by decide) ?_
        rw [show l1.count y + 1 = (l1 ++ [y]).count y by rw [List.count_append]; simp, show l1.length + 1 = (l1 ++ [y]).length by simp]
        refine ih (l1 ++ [y]) l3 (by simp at z1; omega) hz2 c1 ?_ hF1
        have e6 : uf (bkL (l1 ++ [y]) (uf B y [])) y (bkL (l1 ++ [y]) (uf B y []) y ++ l3) = uf (bkL l1 (uf B y [])) y (bkL l1 (uf B y []) y ++ y :: l3) := by
          rw [bkL_snoc]
          funext j
          unfold pb
          by_cases e7 : j = y
          · subst e7
            rw [uf_s, uf_s, uf_s]; simp
          · rw [uf_n e7, uf_n e7, uf_n e7]
        rw [e6]
        exact hB1
set_option maxRecDepth 20000 in
set_option maxHeartbeats 1000000 in
theorem s_X3_cleanBox {c : Nat → VC} {g : VG} {A : Nat} {sl pr co mi go : Int32} {B : Bx} (hO : ObAt c A sl pr co mi go) (hB : BoxAt c A B) {b : Nat} (hb : b < 27) (hs : SB B ≤ 250) : Cm k_X3_cleanBox [.ref A, .int (nI b)] (g, c) (Ei g (fun v c' => v = .int (nI (foul B b)) ∧ ObAt c' A sl pr co (mi + nI 2 * nI (foul B b)) go ∧ BoxAt c' A (cleanB B b) ∧ FrS c c' A)) := by
  have hR1 := (hB.2 b hb).2.1
  refine Cm.in (M := M_X3_cleanBox) (ls := [some (.ref A), some (.int (nI b)), none, none, none, none]) rfl rfl ?_
  refine x_aload_n dX3_cleanBox_0 rfl ?_
  refine x_iload_n dX3_cleanBox_1 rfl ?_
  refine x_cv2 dX3_cleanBox_2 rfl (by first | assumption | (simp (disch := omega) only [up_s, up_n]; first | assumption | rfl)) rfl ?_
  refine Cm.rt (s_X3_boxOf' hO hB hb) ?_
  refine x_astore_n2 dX3_cleanBox_5 rfl ?_
  refine x_aload_n dX3_cleanBox_6 rfl ?_
  refine x_cv1 dX3_cleanBox_7 rfl (by first | assumption | (simp (disch := omega) only [up_s, up_n]; first | assumption | rfl)) rfl ?_
  refine Cm.rt (s_X2_size (hB.2 b hb)) ?_
  refine x_istore_n3 dX3_cleanBox_10 rfl ?_
  refine x_iconst (nI 0) dX3_cleanBox_11 (by decide) ?_
  refine x_istore_4 dX3_cleanBox_12 rfl ?_
  refine x_iconst (nI 0) dX3_cleanBox_14 (by decide) ?_
  refine x_istore_5 dX3_cleanBox_15 rfl ?_
  refine l_X3_cleanBox hO hb (hB.lt hb) hs ((B b).length + 1) [] (B b) (Nat.lt_succ_self _) rfl c ?_ FrB.rf
  have e1 : uf (bkL [] (uf B b [])) b (bkL [] (uf B b []) b ++ B b) = B := by
    funext j
    by_cases e : j = b
    · subst e; rw [uf_s]; show uf B j [] j ++ B j = B j; rw [uf_s]; rfl
    · rw [uf_n e]; show uf B b [] j = B j; rw [uf_n e]
  rw [e1]
  exact hB
