/-! the reference: what its array says -/
def cntP (p : Nat → Bool) : Nat → Nat
  | 0 => 0
  | n + 1 => cntP p n + (if p n then 1 else 0)
theorem cntP_list {p : Nat → Bool} : ∀ {n : Nat} {l : List Nat}, l.Nodup → (∀ s ∈ l, s < n) → (∀ s, s < n → p s = true → s ∈ l) → cntP p n = l.countP p
  | 0, l, _, h2, _ => by
    have : l = [] := by
      cases l with
      | nil => rfl
      | cons a l => exact absurd (h2 a List.mem_cons_self) (Nat.not_lt_zero a)
    subst this
    rfl
  | n + 1, l, h1, h2, h3 => by
    show cntP p n + (if p n then 1 else 0) = l.countP p
    by_cases hm : n ∈ l
    · have hp : l.Perm (n :: l.erase n) := List.perm_cons_erase hm
      have hn : (n :: l.erase n).Nodup := hp.nodup_iff.mp h1
      have hn2 := List.nodup_cons.mp hn
      have ih := cntP_list (p := p) (n := n) (l := l.erase n) hn2.2 (fun s hs => by
        have h4 : s ∈ l := List.mem_of_mem_erase hs
        have h5 := h2 s h4
        have h6 : s ≠ n := fun z => hn2.1 (z ▸ hs)
        omega) (fun s hs hp9 => (List.mem_erase_of_ne (by omega)).mpr (h3 s (by omega) hp9))
      rw [ih, hp.countP_eq, List.countP_cons]
    · have hpn : ¬ p n = true := fun z => hm (h3 n (Nat.lt_succ_self n) z)
      rw [if_neg hpn, Nat.add_zero]
      refine cntP_list h1 (fun s hs => ?_) (fun s hs hp9 => h3 s (by omega) hp9)
      have h5 := h2 s hs
      have h6 : s ≠ n := fun z => hm (z ▸ hs)
      omega
theorem BoxS.allNd {f : Nat → Int32} {B : Bx} {ss : Nat → List Nat} (h : BoxS f B ss) : ∀ n, n ≤ 27 → (allS ss n).Nodup
  | 0, _ => List.nodup_nil
  | n + 1, hn => by
    show (allS ss n ++ ss n).Nodup
    refine List.nodup_append.mpr ⟨BoxS.allNd h n (by omega), h.2.2.2.1 n (by omega), fun a ha b hb hab => ?_⟩
    obtain ⟨d, h1, h2⟩ := mem_allS.mp ha
    exact h.2.2.2.2.1 d n (by omega) (by omega) (by omega) a h2 (hab ▸ hb)
theorem BoxS.cnt {f : Nat → Int32} {B : Bx} {ss : Nat → List Nat} (h : BoxS f B ss) {p : Int32 → Bool} (hp : p (-1) = false) : cntP (fun s => p (f s)) 250 = sumN (fun b => ((B b).map nI).countP p) 27 := by
  have h1 := cntP_list (p := fun s => p (f s)) (n := 250) (l := allS ss 27) (h.allNd 27 (Nat.le_refl _)) (fun s hs => by
    obtain ⟨b, hb, hm⟩ := mem_allS.mp hs
    exact h.2.2.1 b hb s hm) (fun s hs hps => by
    by_cases z : s ∈ allS ss 27
    · exact z
    · have := h.2.2.2.2.2.1 s hs (fun b hb hm => z (mem_allS.mpr ⟨b, hb, hm⟩))
      rw [this, hp] at hps
      cases hps)
  rw [h1]
  have h2 : ∀ n, n ≤ 27 → (allS ss n).countP (fun s => p (f s)) = sumN (fun b => ((B b).map nI).countP p) n := by
    intro n
    induction n with
    | zero => intro _; rfl
    | succ n ih =>
      intro hn
      show (allS ss n ++ ss n).countP (fun s => p (f s)) = sumN (fun b => ((B b).map nI).countP p) n + ((B n).map nI).countP p
      rw [List.countP_append, ih (by omega)]
      have h3 : (ss n).countP (fun s => p (f s)) = ((ss n).map f).countP p := by rw [List.countP_map]; rfl
      rw [h3, h.2.1 n (by omega), List.map_reverse, List.countP_reverse]
  exact h2 27 (Nat.le_refl _)
def ForR (f : Nat → Int32) (j : Nat) (L : List (List Pl)) : Prop := f (1262 + j) = nI L.length ∧ LnOK L ∧ (∀ (i : Nat) (hi : i < L.length), f (527 + 49 * (5 * j + i)) = nI L[i].length) ∧ (∀ (i : Nat) (hi : i < L.length) (p : Nat) (hp : p < L[i].length), f (527 + 49 * (5 * j + i) + 1 + 3 * p) = nI L[i][p].1 ∧ f (527 + 49 * (5 * j + i) + 2 + 3 * p) = nI L[i][p].2.1 ∧ f (527 + 49 * (5 * j + i) + 3 + 3 * p) = nI L[i][p].2.2) ∧ ∀ l ∈ L, ∀ q ∈ l, q.1 < 27 ∧ q.2.1 < 27 ∧ q.2.2 < 2
theorem ForR.fr {f f' : Nat → Int32} {j : Nat} {L : List (List Pl)} (h : ForR f j L) (h1 : f' (1262 + j) = f (1262 + j)) (hf : ∀ k, 527 + 245 * j ≤ k → k < 527 + 245 * (j + 1) → f' k = f k) : ForR f' j L := by
  obtain ⟨g1, g2, g3, g4, g5⟩ := h
  refine ⟨by rw [h1]; exact g1, g2, fun i hi => ?_, fun i hi p hp => ?_, g5⟩
  · have := g2.1
    rw [hf _ (by omega) (by omega)]; exact g3 i hi
  · have h9 := g2.1
    have h8 := g2.2 _ (List.getElem_mem hi)
    have h7 := g4 i hi p hp
    rw [hf _ (by omega) (by omega), hf _ (by omega) (by omega), hf _ (by omega) (by omega)]; exact h7
def HpR (f : Nat → Int32) (hp : List Nat) : Prop := f 1265 = nI hp.length ∧ hp.length ≤ 250 ∧ (∀ x ∈ hp, x < 27) ∧ ∀ (i : Nat) (hi : i < hp.length), f (1266 + i) = nI hp[i]
theorem HpR.fr {f f' : Nat → Int32} {hp : List Nat} (h : HpR f hp) (hf : ∀ k, 1265 ≤ k → k < 1516 → f' k = f k) : HpR f' hp := by
  obtain ⟨g1, g2, g3, g4⟩ := h
  exact ⟨by rw [hf _ (by omega) (by omega)]; exact g1, g2, g3, fun i hi => by rw [hf _ (by omega) (by omega)]; exact g4 i hi⟩
def NuR (f : Nat → Int32) (σ : Sg) : Prop := f 1516 = n1 σ ∧ f 1517 = n2 σ ∧ f 1518 = n3 σ ∧ f 1519 = n4 σ ∧ f 1520 = n5 σ
def RepA (f : Nat → Int32) (σ : Sg) : Prop := BoxR f σ.1 ∧ (∀ j, j < 3 → ForR f j (σ.2.1 j)) ∧ HpR f σ.2.2.1 ∧ NuR f σ
theorem RepA.fr {f f' : Nat → Int32} {σ : Sg} (h : RepA f σ) (hf : ∀ k, k < 1542 → f' k = f k) : RepA f' σ := by
  obtain ⟨h1, h2, h3, g1, g2, g3, g4, g5⟩ := h
  exact ⟨h1.fr (fun j hj => hf j (by omega)), fun j hj => (h2 j hj).fr (hf _ (by omega)) (fun k z1 z2 => hf k (by omega)), h3.fr (fun k z1 z2 => hf k (by omega)), by rw [hf _ (by omega)]; exact g1, by rw [hf _ (by omega)]; exact g2, by rw [hf _ (by omega)]; exact g3, by rw [hf _ (by omega)]; exact g4, by rw [hf _ (by omega)]; exact g5⟩
def inV (x lo hi : Int64) : Bool := decide (¬ x < lo) && decide (¬ hi < x)
theorem cmp_lt {x y : Int64} : lg_cmp x y < 0 ↔ x < y := by
  unfold lg_cmp
  by_cases h1 : x > y
  · rw [if_pos h1]
    refine ⟨fun q => absurd q (by decide), fun q => ?_⟩
    rw [Int64.lt_iff_toInt_lt] at q
    have h1 := Int64.lt_iff_toInt_lt.mp h1
    omega
  · rw [if_neg h1]
    by_cases h2 : x = y
    · rw [if_pos h2, h2]
      exact ⟨fun q => absurd q (by decide), fun q => absurd q (Int64.lt_irrefl)⟩
    · rw [if_neg h2]
      refine ⟨fun _ => ?_, fun _ => by decide⟩
      rw [Int64.lt_iff_toInt_lt]
      have h3 : ¬ y.toInt < x.toInt := fun q => h1 (Int64.lt_iff_toInt_lt.mpr q)
      have h4 : ¬ x.toInt = y.toInt := fun q => h2 (Int64.toInt_inj.mp q)
      omega
theorem cmp_gt {x y : Int64} : 0 < lg_cmp x y ↔ y < x := by
  unfold lg_cmp
  by_cases h1 : x > y
  · rw [if_pos h1]
    exact ⟨fun _ => h1, fun _ => by decide⟩
  · rw [if_neg h1]
    refine ⟨fun q => ?_, fun q => absurd q h1⟩
    by_cases h2 : x = y
    · rw [if_pos h2] at q; exact absurd q (by decide)
    · rw [if_neg h2] at q; exact absurd q (by decide)
set_option maxRecDepth 20000 in
set_option maxHeartbeats 1000000 in
theorem s_X5_in {h : VH} {x lo hi : Int64} : Cm k_X5_in [.long x, .long lo, .long hi] h (Rt (.int (bV (inV x lo hi))) h) := by
  refine Cm.in (M := M_X5_in) (ls := [some (.long x), none, some (.long lo), none, some (.long hi), none]) rfl rfl ?_
  refine x_lload_n dX5_in_0 rfl ?_
  refine x_lload_n dX5_in_1 rfl ?_
  refine x_lcmp dX5_in_2 ?_
  refine x_if_lt 17 dX5_in_3 (by decide) (fun c3 => ?_) (fun c3 => ?_)
  · have e1 := cmp_lt.mp c3
    refine x_iconst (nI 0) dX5_in_17 (by decide) ?_
    refine x_ireturn dX5_in_18 ?_
    exact ⟨by simp [inV, bV, *], rfl⟩
  · have e1 : ¬ x < lo := fun q => c3 (cmp_lt.mpr q)
    refine x_lload_n dX5_in_6 rfl ?_
    refine x_lload dX5_in_7 rfl ?_
    refine x_lcmp dX5_in_9 ?_
    refine x_if_gt 17 dX5_in_10 (by decide) (fun c10 => ?_) (fun c10 => ?_)
    · have e2 := cmp_gt.mp c10
      refine x_iconst (nI 0) dX5_in_17 (by decide) ?_
      refine x_ireturn dX5_in_18 ?_
      exact ⟨by simp [inV, bV, *], rfl⟩
    · have e2 : ¬ hi < x := fun q => c10 (cmp_gt.mpr q)
      refine x_iconst (nI 1) dX5_in_13 (by decide) ?_
      refine x_goto 18 dX5_in_14 (by decide) ?_
      refine x_ireturn dX5_in_18 ?_
      exact ⟨by simp [inV, bV, *], rfl⟩
theorem in_rg {v : Int32} {a b : Nat} {lo hi : Int64} (ha : a < 2 ^ 31) (hb : b < 2 ^ 31) (h1 : lo.toInt = a) (h2 : hi.toInt = b) : inV v.toInt64 lo hi = (rg v a b).isSome := by
  unfold inV rg
  have e1 : v.toInt64 < lo ↔ v < nI a := by rw [Int64.lt_iff_toInt_lt, Int32.lt_iff_toInt_lt, Int32.toInt_toInt64, h1, nI_toInt ha]
  have e2 : hi < v.toInt64 ↔ nI b < v := by rw [Int64.lt_iff_toInt_lt, Int32.lt_iff_toInt_lt, Int32.toInt_toInt64, h2, nI_toInt hb]
  by_cases q1 : v < nI a
  · rw [if_pos (Or.inl q1)]
    simp [e1.mpr q1]
  · by_cases q2 : nI b < v
    · rw [if_pos (Or.inr q2)]
      simp [e2.mpr q2]
    · rw [if_neg (fun q => q.elim q1 q2)]
      rw [decide_eq_true (p := ¬ v.toInt64 < lo) (fun z => q1 (e1.mp z)), decide_eq_true (p := ¬ hi < v.toInt64) (fun z => q2 (e2.mp z))]
      rfl
theorem in_ix {v : Int32} {n : Nat} {lo hi : Int64} (h0 : 0 < n) (hn : n < 2 ^ 31) (h1 : lo.toInt = 0) (h2 : hi.toInt = (n : Int) - 1) : inV v.toInt64 lo hi = (ix v n).isSome := by
  unfold inV ix
  have e1 : v.toInt64 < lo ↔ v < 0 := by rw [Int64.lt_iff_toInt_lt, Int32.lt_iff_toInt_lt, Int32.toInt_toInt64, h1, Int32.toInt_zero]
  have e2 : hi < v.toInt64 ↔ nI n ≤ v := by rw [Int64.lt_iff_toInt_lt, Int32.le_iff_toInt_le, Int32.toInt_toInt64, h2, nI_toInt hn]; omega
  by_cases q1 : v < 0
  · rw [if_pos (Or.inl q1)]
    simp [e1.mpr q1]
  · by_cases q2 : nI n ≤ v
    · rw [if_pos (Or.inr q2)]
      simp [e2.mpr q2]
    · rw [if_neg (fun q => q.elim q1 q2)]
      rw [decide_eq_true (p := ¬ v.toInt64 < lo) (fun z => q1 (e1.mp z)), decide_eq_true (p := ¬ hi < v.toInt64) (fun z => q2 (e2.mp z))]
      rfl
set_option maxRecDepth 20000 in
set_option maxHeartbeats 1000000 in
theorem s_X5_isLetter {h : VH} {v : Int32} : Cm k_X5_isLetter [.int v] h (Rt (.int (bV (ix v 27).isSome)) h) := by
  refine Cm.in (M := M_X5_isLetter) (ls := [some (.int v)]) rfl rfl ?_
  refine x_iload_n dX5_isLetter_0 rfl ?_
  refine x_i2l dX5_isLetter_1 ?_
  refine x_lconst (0) dX5_isLetter_2 (by decide) ?_
  refine x_ldc2_w dX5_isLetter_3 rfl ?_
  refine x_cs3 dX5_isLetter_6 rfl ?_
  refine Cm.rt s_X5_in ?_
  rw [in_ix (n := 27) (by omega) (by omega) (by decide) (by decide)]
  refine x_ireturn dX5_isLetter_9 ?_
  exact ⟨rfl, rfl⟩
set_option maxRecDepth 20000 in
set_option maxHeartbeats 1000000 in
theorem s_X5_isForme {h : VH} {v : Int32} : Cm k_X5_isForme [.int v] h (Rt (.int (bV (ix v 3).isSome)) h) := by
  refine Cm.in (M := M_X5_isForme) (ls := [some (.int v)]) rfl rfl ?_
  refine x_iload_n dX5_isForme_0 rfl ?_
  refine x_i2l dX5_isForme_1 ?_
  refine x_lconst (0) dX5_isForme_2 (by decide) ?_
  refine x_ldc2_w dX5_isForme_3 rfl ?_
  refine x_cs3 dX5_isForme_6 rfl ?_
  refine Cm.rt s_X5_in ?_
  rw [in_ix (n := 3) (by omega) (by omega) (by decide) (by decide)]
  refine x_ireturn dX5_isForme_9 ?_
  exact ⟨rfl, rfl⟩
set_option maxRecDepth 20000 in
set_option maxHeartbeats 1000000 in
theorem s_X5_lineAt {h : VH} {a b : Nat} : Cm k_X5_lineAt [.int (nI a), .int (nI b)] h (Rt (.int (nI (527 + 49 * (5 * a + b)))) h) := by
  refine Cm.in (M := M_X5_lineAt) (ls := [some (.int (nI a)), some (.int (nI b))]) rfl rfl ?_
  refine x_sipush (nI 527) dX5_lineAt_0 (by decide) ?_
  refine x_bipush (nI 49) dX5_lineAt_3 (by decide) ?_
  refine x_iconst (nI 5) dX5_lineAt_5 (by decide) ?_
  refine x_iload_n dX5_lineAt_6 rfl ?_
  refine x_imulN dX5_lineAt_7 ?_
  refine x_iload_n dX5_lineAt_8 rfl ?_
  refine x_iaddN dX5_lineAt_9 ?_
  refine x_imulN dX5_lineAt_10 ?_
  refine x_iaddN dX5_lineAt_11 ?_
  refine x_ireturn dX5_lineAt_12 ?_
  exact ⟨rfl, rfl⟩
set_option maxRecDepth 20000 in
set_option maxHeartbeats 1000000 in
theorem s_X5_widthOf {h : VH} {x : Nat} (hx : x < 27) : Cm k_X5_widthOf [.int (nI x)] h (Rt (.int (nI (wd x))) h) := by
  refine Cm.in (M := M_X5_widthOf) (ls := [some (.int (nI x)), none]) rfl rfl ?_
  refine x_bipush (nI 97) dX5_widthOf_0 (by decide) ?_
  refine x_iload_n dX5_widthOf_2 rfl ?_
  refine x_iaddN dX5_widthOf_3 ?_
  refine x_istore_n1 dX5_widthOf_4 rfl ?_
  refine x_iload_n dX5_widthOf_5 rfl ?_
  refine x_bipush (nI 26) dX5_widthOf_6 (by decide) ?_
  refine x_icmp_ne 13 dX5_widthOf_8 (by decide) (fun c8 => ?_) (fun c8 => ?_)
  · have e8 : ¬ x = 26 := fun z => c8 (by rw [z])
    refine x_iload_n dX5_widthOf_13 rfl ?_
    refine x_bipush (nI 102) dX5_widthOf_14 (by decide) ?_
    refine x_icmp_eq 43 dX5_widthOf_16 (by decide) (fun c16 => ?_) (fun c16 => ?_)
    · have e16 : x = 5 := by have := (nI_eq (by omega) (by omega)).mp c16; omega
      refine x_iconst (nI 0) dX5_widthOf_43 (by decide) ?_
      refine x_goto 64 dX5_widthOf_44 (by decide) ?_
      refine x_ireturn dX5_widthOf_64 ?_
      refine ⟨?_, rfl⟩
      unfold wd
      first
        | (rw [if_neg (by omega), if_neg (by omega), if_pos (by omega)])
        | (rw [if_pos (by omega)])
        | (rw [if_neg (by omega), if_pos (by omega)])
        | (rw [if_neg (by omega), if_neg (by omega), if_neg (by omega)])
    · have e16 : ¬ x = 5 := fun z => c16 (by rw [z])
      refine x_iload_n dX5_widthOf_19 rfl ?_
      refine x_bipush (nI 105) dX5_widthOf_20 (by decide) ?_
      refine x_icmp_eq 43 dX5_widthOf_22 (by decide) (fun c22 => ?_) (fun c22 => ?_)
      · have e22 : x = 8 := by have := (nI_eq (by omega) (by omega)).mp c22; omega
        refine x_iconst (nI 0) dX5_widthOf_43 (by decide) ?_
        refine x_goto 64 dX5_widthOf_44 (by decide) ?_
        refine x_ireturn dX5_widthOf_64 ?_
        refine ⟨?_, rfl⟩
        unfold wd
        first
          | (rw [if_neg (by omega), if_neg (by omega), if_pos (by omega)])
          | (rw [if_pos (by omega)])
          | (rw [if_neg (by omega), if_pos (by omega)])
          | (rw [if_neg (by omega), if_neg (by omega), if_neg (by omega)])
      · have e22 : ¬ x = 8 := fun z => c22 (by rw [z])
        refine x_iload_n dX5_widthOf_25 rfl ?_
        refine x_bipush (nI 106) dX5_widthOf_26 (by decide) ?_
        refine x_icmp_eq 43 dX5_widthOf_28 (by decide) (fun c28 => ?_) (fun c28 => ?_)
        · have e28 : x = 9 := by have := (nI_eq (by omega) (by omega)).mp c28; omega
          refine x_iconst (nI 0) dX5_widthOf_43 (by decide) ?_
          refine x_goto 64 dX5_widthOf_44 (by decide) ?_
          refine x_ireturn dX5_widthOf_64 ?_
          refine ⟨?_, rfl⟩
          unfold wd
          first
            | (rw [if_neg (by omega), if_neg (by omega), if_pos (by omega)])
            | (rw [if_pos (by omega)])
            | (rw [if_neg (by omega), if_pos (by omega)])
            | (rw [if_neg (by omega), if_neg (by omega), if_neg (by omega)])
        · have e28 : ¬ x = 9 := fun z => c28 (by rw [z])
          refine x_iload_n dX5_widthOf_31 rfl ?_
          refine x_bipush (nI 108) dX5_widthOf_32 (by decide) ?_
          refine x_icmp_eq 43 dX5_widthOf_34 (by decide) (fun c34 => ?_) (fun c34 => ?_)
          · have e34 : x = 11 := by have := (nI_eq (by omega) (by omega)).mp c34; omega
            refine x_iconst (nI 0) dX5_widthOf_43 (by decide) ?_
            refine x_goto 64 dX5_widthOf_44 (by decide) ?_
            refine x_ireturn dX5_widthOf_64 ?_
            refine ⟨?_, rfl⟩
            unfold wd
            first
              | (rw [if_neg (by omega), if_neg (by omega), if_pos (by omega)])
              | (rw [if_pos (by omega)])
              | (rw [if_neg (by omega), if_pos (by omega)])
              | (rw [if_neg (by omega), if_neg (by omega), if_neg (by omega)])
          · have e34 : ¬ x = 11 := fun z => c34 (by rw [z])
            refine x_iload_n dX5_widthOf_37 rfl ?_
            refine x_bipush (nI 116) dX5_widthOf_38 (by decide) ?_
            refine x_icmp_ne 47 dX5_widthOf_40 (by decide) (fun c40 => ?_) (fun c40 => ?_)
            · have e40 : ¬ x = 19 := fun z => c40 (by rw [z])
              refine x_iload_n dX5_widthOf_47 rfl ?_
              refine x_bipush (nI 109) dX5_widthOf_48 (by decide) ?_
              refine x_icmp_eq 59 dX5_widthOf_50 (by decide) (fun c50 => ?_) (fun c50 => ?_)
              · have e50 : x = 12 := by have := (nI_eq (by omega) (by omega)).mp c50; omega
                refine x_iconst (nI 2) dX5_widthOf_59 (by decide) ?_
                refine x_goto 64 dX5_widthOf_60 (by decide) ?_
                refine x_ireturn dX5_widthOf_64 ?_
                refine ⟨?_, rfl⟩
                unfold wd
                first
                  | (rw [if_neg (by omega), if_neg (by omega), if_pos (by omega)])
                  | (rw [if_pos (by omega)])
                  | (rw [if_neg (by omega), if_pos (by omega)])
                  | (rw [if_neg (by omega), if_neg (by omega), if_neg (by omega)])
              · have e50 : ¬ x = 12 := fun z => c50 (by rw [z])
                refine x_iload_n dX5_widthOf_53 rfl ?_
                refine x_bipush (nI 119) dX5_widthOf_54 (by decide) ?_
                refine x_icmp_ne 63 dX5_widthOf_56 (by decide) (fun c56 => ?_) (fun c56 => ?_)
                · have e56 : ¬ x = 22 := fun z => c56 (by rw [z])
                  refine x_iconst (nI 1) dX5_widthOf_63 (by decide) ?_
                  refine x_ireturn dX5_widthOf_64 ?_
                  refine ⟨?_, rfl⟩
                  unfold wd
                  first
                    | (rw [if_neg (by omega), if_neg (by omega), if_pos (by omega)])
                    | (rw [if_pos (by omega)])
                    | (rw [if_neg (by omega), if_pos (by omega)])
                    | (rw [if_neg (by omega), if_neg (by omega), if_neg (by omega)])
                · have e56 : x = 22 := by have := (nI_eq (by omega) (by omega)).mp c56; omega
                  refine x_iconst (nI 2) dX5_widthOf_59 (by decide) ?_
                  refine x_goto 64 dX5_widthOf_60 (by decide) ?_
                  refine x_ireturn dX5_widthOf_64 ?_
                  refine ⟨?_, rfl⟩
                  unfold wd
                  first
                    | (rw [if_neg (by omega), if_neg (by omega), if_pos (by omega)])
                    | (rw [if_pos (by omega)])
                    | (rw [if_neg (by omega), if_pos (by omega)])
                    | (rw [if_neg (by omega), if_neg (by omega), if_neg (by omega)])
            · have e40 : x = 19 := by have := (nI_eq (by omega) (by omega)).mp c40; omega
              refine x_iconst (nI 0) dX5_widthOf_43 (by decide) ?_
              refine x_goto 64 dX5_widthOf_44 (by decide) ?_
              refine x_ireturn dX5_widthOf_64 ?_
              refine ⟨?_, rfl⟩
              unfold wd
              first
                | (rw [if_neg (by omega), if_neg (by omega), if_pos (by omega)])
                | (rw [if_pos (by omega)])
                | (rw [if_neg (by omega), if_pos (by omega)])
                | (rw [if_neg (by omega), if_neg (by omega), if_neg (by omega)])
  · have e8 : x = 26 := (nI_eq (by omega) (by omega)).mp c8
    refine x_iconst (nI 3) dX5_widthOf_11 (by decide) ?_
    refine x_ireturn dX5_widthOf_12 ?_
    refine ⟨?_, rfl⟩
    unfold wd
    first
      | (rw [if_neg (by omega), if_neg (by omega), if_pos (by omega)])
      | (rw [if_pos (by omega)])
      | (rw [if_neg (by omega), if_pos (by omega)])
      | (rw [if_neg (by omega), if_neg (by omega), if_neg (by omega)])
set_option maxRecDepth 20000 in
set_option maxHeartbeats 1000000 in
theorem s_X5_foulIn {c : Nat → VC} {g : VG} {n tl th : Int32} {f : Nat → Int32} {B : Bx} (hO : RO c n tl th) (hA : AA c f) (hB : BoxR f B) {b : Nat} (hb : b < 27) : Cm k_X5_foulIn [.ref 456, .int (nI b)] (g, c) (Rt (.int (nI (foul B b))) (g, c)) := by
  refine Cm.in (M := M_X5_foulIn) (ls := [some (.ref 456), some (.int (nI b))]) rfl rfl ?_
  refine x_aload_n dX5_foulIn_0 rfl ?_
  refine x_iload_n dX5_foulIn_1 rfl ?_
  refine x_iconst (-1) dX5_foulIn_2 (by decide) ?_
  refine x_cv3 dX5_foulIn_3 rfl (by first | assumption | (simp (disch := omega) only [up_s, up_n]; first | assumption | rfl)) rfl ?_
  refine Cm.rt (s_X5_countIn_n hO hA hB hb) ?_
  refine x_aload_n dX5_foulIn_6 rfl ?_
  refine x_iload_n dX5_foulIn_7 rfl ?_
  refine x_iload_n dX5_foulIn_8 rfl ?_
  refine x_cv3 dX5_foulIn_9 rfl (by first | assumption | (simp (disch := omega) only [up_s, up_n]; first | assumption | rfl)) rfl ?_
  refine Cm.rt (s_X5_countIn_c hO hA hB hb hb) ?_
  refine x_isubN dX5_foulIn_12 List.count_le_length ?_
  refine x_ireturn dX5_foulIn_13 ?_
  exact ⟨rfl, rfl⟩
set_option maxRecDepth 20000 in
set_option maxHeartbeats 1000000 in
theorem l_X5_inBoxes {c : Nat → VC} {g : VG} {n tl th : Int32} {f : Nat → Int32} (hO : RO c n tl th) (hA : AA c f) : ∀ (m i : Nat), i ≤ 250 → 250 < i + m → Xm M_X5_inBoxes 4 [some (.ref 456), some (.int (nI (cntP (fun s => !(f s == -1)) i))), some (.int (nI i))] [] (g, c) (Rt (.int (nI (cntP (fun s => !(f s == -1)) 250))) (g, c)) := by
  intro m
  induction m with
  | zero => intro i z1 z2; omega
  | succ m ih =>
    intro i z1 z2
    have ih2 := ih (i + 1)
    simp only [cntP] at ih2
    refine x_iload_n dX5_inBoxes_4 rfl ?_
    refine x_sipush (nI 250) dX5_inBoxes_5 (by decide) ?_
    refine x_icmp_ge 37 dX5_inBoxes_8 (by decide) (fun c8 => ?_) (fun c8 => ?_)
    · have e1 : i = 250 := by have := (nI_leI (by omega) (by omega)).mp c8; omega
      subst e1
      refine x_iload_n dX5_inBoxes_37 rfl ?_
      refine x_ireturn dX5_inBoxes_38 ?_
      exact ⟨rfl, rfl⟩
    · have hi : i < 250 := by
        by_cases q : i < 250
        · exact q
        · exact absurd ((nI_leI (by omega) (by omega)).mpr (by omega)) c8
      refine x_iload_n dX5_inBoxes_11 rfl ?_
      refine x_aload_n dX5_inBoxes_12 rfl ?_
      refine x_getfield dX5_inBoxes_13 rfl (by decide) (by first | assumption | (simp (disch := omega) only [up_s, up_n]; first | assumption | rfl)) rfl ?_
      refine x_iconst (nI 0) dX5_inBoxes_16 (by decide) ?_
      refine x_iload_n dX5_inBoxes_17 rfl ?_
      refine x_iaddN dX5_inBoxes_18 ?_
      refine x_ialoadN dX5_inBoxes_19 (by first | assumption | (simp (disch := omega) only [up_s, up_n]; first | assumption | rfl)) (by omega) (by omega) ?_
      rw [Nat.zero_add]
      refine x_iconst (-1) dX5_inBoxes_20 (by decide) ?_
      refine x_icmp_ne 28 dX5_inBoxes_21 (by decide) (fun c21 => ?_) (fun c21 => ?_)
      · have ee : (!(f i == -1)) = true := by simp [c21]
        refine x_iconst (nI 1) dX5_inBoxes_28 (by decide) ?_
        refine x_iaddN dX5_inBoxes_29 ?_
        refine x_istore_n1 dX5_inBoxes_30 rfl ?_
        refine x_iincN_2 (1) dX5_inBoxes_31 (by decide) rfl ?_
        refine x_goto 4 dX5_inBoxes_34 (by decide) ?_
        first
          | (rw [if_pos ee] at ih2; exact ih2 (by omega) (by omega))
          | (rw [if_neg ne] at ih2; exact ih2 (by omega) (by omega))
      · have ne : ¬ (!(f i == -1)) = true := by simp [c21]
        refine x_iconst (nI 0) dX5_inBoxes_24 (by decide) ?_
        refine x_goto 29 dX5_inBoxes_25 (by decide) ?_
        refine x_iaddN dX5_inBoxes_29 ?_
        refine x_istore_n1 dX5_inBoxes_30 rfl ?_
        refine x_iincN_2 (1) dX5_inBoxes_31 (by decide) rfl ?_
        refine x_goto 4 dX5_inBoxes_34 (by decide) ?_
        first
          | (rw [if_pos ee] at ih2; exact ih2 (by omega) (by omega))
          | (rw [if_neg ne] at ih2; exact ih2 (by omega) (by omega))
theorem cnt_used {f : Nat → Int32} {B : Bx} (h : BoxR f B) : cntP (fun s => !(f s == -1)) 250 = SB B := by
  obtain ⟨ss, hss⟩ := h
  have h1 := hss.cnt (p := fun v => !(v == -1)) (by decide)
  rw [h1]
  unfold SB
  rw [SB_sum]
  have h2 : ∀ n, n ≤ 27 → sumN (fun b => ((B b).map nI).countP (fun v => !(v == -1))) n = sumN (fun b => (B b).length) n := by
    intro n
    induction n with
    | zero => intro _; rfl
    | succ n ih =>
      intro hn
      show sumN (fun b => ((B b).map nI).countP (fun v => !(v == -1))) n + ((B n).map nI).countP (fun v => !(v == -1)) = sumN (fun b => (B b).length) n + (B n).length
      rw [ih (by omega)]
      have h3 : ((B n).map nI).countP (fun v => !(v == -1)) = ((B n).map nI).length := by
        refine List.countP_eq_length.mpr (fun v hv => ?_)
        obtain ⟨x, hx, e⟩ := List.mem_map.mp hv
        have := ne_m1 (hss.2.2.2.2.2.2 n (by omega) x hx)
        rw [← e]
        simp [this]
      rw [h3, List.length_map]
  exact h2 27 (Nat.le_refl _)
theorem cnt_let {f : Nat → Int32} {B : Bx} (h : BoxR f B) {x : Nat} (hx : x < 27) : cntP (fun s => f s == nI x) 250 = sumN (fun b => (B b).count x) 27 := by
  obtain ⟨ss, hss⟩ := h
  have h1 := hss.cnt (p := fun v => v == nI x) (by
    have := ne_m1 hx
    simp only [beq_eq_false_iff_ne]
    exact fun z => this z.symm)
  rw [h1]
  have h2 : ∀ n, n ≤ 27 → sumN (fun b => ((B b).map nI).countP (fun v => v == nI x)) n = sumN (fun b => (B b).count x) n := by
    intro n
    induction n with
    | zero => intro _; rfl
    | succ n ih =>
      intro hn
      show sumN (fun b => ((B b).map nI).countP (fun v => v == nI x)) n + ((B n).map nI).countP (fun v => v == nI x) = sumN (fun b => (B b).count x) n + (B n).count x
      rw [ih (by omega)]
      have h3 : ((B n).map nI).countP (fun v => v == nI x) = (B n).count x := by
        rw [List.countP_map]
        unfold List.count
        refine List.countP_congr (fun y hy => ?_)
        have hy2 := hss.2.2.2.2.2.2 n (by omega) y hy
        simp only [Function.comp_apply, beq_iff_eq]
        exact nI_eq (by omega) (by omega)
      rw [h3]
  exact h2 27 (Nat.le_refl _)
set_option maxRecDepth 20000 in
set_option maxHeartbeats 1000000 in
theorem s_X5_inBoxes {c : Nat → VC} {g : VG} {n tl th : Int32} {f : Nat → Int32} {B : Bx} (hO : RO c n tl th) (hA : AA c f) (hB : BoxR f B) : Cm k_X5_inBoxes [.ref 456] (g, c) (Rt (.int (nI (SB B))) (g, c)) := by
  rw [← cnt_used hB]
  refine Cm.in (M := M_X5_inBoxes) (ls := [some (.ref 456), none, none]) rfl rfl ?_
  refine x_iconst (nI 0) dX5_inBoxes_0 (by decide) ?_
  refine x_istore_n1 dX5_inBoxes_1 rfl ?_
  refine x_iconst (nI 0) dX5_inBoxes_2 (by decide) ?_
  refine x_istore_n2 dX5_inBoxes_3 rfl ?_
  exact l_X5_inBoxes hO hA 251 0 (by omega) (by omega)
set_option maxRecDepth 20000 in
set_option maxHeartbeats 1000000 in
theorem l_X5_inAllBoxes {c : Nat → VC} {g : VG} {n tl th : Int32} {f : Nat → Int32} (hO : RO c n tl th) (hA : AA c f) {x : Nat} : ∀ (m i : Nat), i ≤ 250 → 250 < i + m → Xm M_X5_inAllBoxes 4 [some (.ref 456), some (.int (nI x)), some (.int (nI (cntP (fun s => f s == nI x) i))), some (.int (nI i))] [] (g, c) (Rt (.int (nI (cntP (fun s => f s == nI x) 250))) (g, c)) := by
  intro m
  induction m with
  | zero => intro i z1 z2; omega
  | succ m ih =>
    intro i z1 z2
    have ih2 := ih (i + 1)
    simp only [cntP] at ih2
    refine x_iload_n dX5_inAllBoxes_4 rfl ?_
    refine x_sipush (nI 250) dX5_inAllBoxes_5 (by decide) ?_
    refine x_icmp_ge 37 dX5_inAllBoxes_8 (by decide) (fun c8 => ?_) (fun c8 => ?_)
    · have e1 : i = 250 := by have := (nI_leI (by omega) (by omega)).mp c8; omega
      subst e1
      refine x_iload_n dX5_inAllBoxes_37 rfl ?_
      refine x_ireturn dX5_inAllBoxes_38 ?_
      exact ⟨rfl, rfl⟩
    · have hi : i < 250 := by
        by_cases q : i < 250
        · exact q
        · exact absurd ((nI_leI (by omega) (by omega)).mpr (by omega)) c8
      refine x_iload_n dX5_inAllBoxes_11 rfl ?_
      refine x_aload_n dX5_inAllBoxes_12 rfl ?_
      refine x_getfield dX5_inAllBoxes_13 rfl (by decide) (by first | assumption | (simp (disch := omega) only [up_s, up_n]; first | assumption | rfl)) rfl ?_
      refine x_iconst (nI 0) dX5_inAllBoxes_16 (by decide) ?_
      refine x_iload_n dX5_inAllBoxes_17 rfl ?_
      refine x_iaddN dX5_inAllBoxes_18 ?_
      refine x_ialoadN dX5_inAllBoxes_19 (by first | assumption | (simp (disch := omega) only [up_s, up_n]; first | assumption | rfl)) (by omega) (by omega) ?_
      rw [Nat.zero_add]
      refine x_iload_n dX5_inAllBoxes_20 rfl ?_
      refine x_icmp_ne 28 dX5_inAllBoxes_21 (by decide) (fun c21 => ?_) (fun c21 => ?_)
      · have ne : ¬ (f i == nI x) = true := by simp [c21]
        refine x_iconst (nI 0) dX5_inAllBoxes_28 (by decide) ?_
        refine x_iaddN dX5_inAllBoxes_29 ?_
        refine x_istore_n2 dX5_inAllBoxes_30 rfl ?_
        refine x_iincN_3 (1) dX5_inAllBoxes_31 (by decide) rfl ?_
        refine x_goto 4 dX5_inAllBoxes_34 (by decide) ?_
        first
          | (rw [if_pos ee] at ih2; exact ih2 (by omega) (by omega))
          | (rw [if_neg ne] at ih2; exact ih2 (by omega) (by omega))
      · have ee : (f i == nI x) = true := by simp [c21]
        refine x_iconst (nI 1) dX5_inAllBoxes_24 (by decide) ?_
        refine x_goto 29 dX5_inAllBoxes_25 (by decide) ?_
        refine x_iaddN dX5_inAllBoxes_29 ?_
        refine x_istore_n2 dX5_inAllBoxes_30 rfl ?_
        refine x_iincN_3 (1) dX5_inAllBoxes_31 (by decide) rfl ?_
        refine x_goto 4 dX5_inAllBoxes_34 (by decide) ?_
        first
          | (rw [if_pos ee] at ih2; exact ih2 (by omega) (by omega))
          | (rw [if_neg ne] at ih2; exact ih2 (by omega) (by omega))
set_option maxRecDepth 20000 in
set_option maxHeartbeats 1000000 in
theorem s_X5_inAllBoxes {c : Nat → VC} {g : VG} {n tl th : Int32} {f : Nat → Int32} {B : Bx} (hO : RO c n tl th) (hA : AA c f) (hB : BoxR f B) {x : Nat} (hx : x < 27) : Cm k_X5_inAllBoxes [.ref 456, .int (nI x)] (g, c) (Rt (.int (nI (sumN (fun b => (B b).count x) 27))) (g, c)) := by
  rw [← cnt_let hB hx]
  refine Cm.in (M := M_X5_inAllBoxes) (ls := [some (.ref 456), some (.int (nI x)), none, none]) rfl rfl ?_
  refine x_iconst (nI 0) dX5_inAllBoxes_0 (by decide) ?_
  refine x_istore_n2 dX5_inAllBoxes_1 rfl ?_
  refine x_iconst (nI 0) dX5_inAllBoxes_2 (by decide) ?_
  refine x_istore_n3 dX5_inAllBoxes_3 rfl ?_
  exact l_X5_inAllBoxes hO hA 251 0 (by omega) (by omega)
set_option maxRecDepth 20000 in
set_option maxHeartbeats 1000000 in
theorem l_X5_allFoul {c : Nat → VC} {g : VG} {n tl th : Int32} {f : Nat → Int32} {B : Bx} (hO : RO c n tl th) (hA : AA c f) (hB : BoxR f B) : ∀ (m i : Nat), i ≤ 27 → 27 < i + m → Xm M_X5_allFoul 4 [some (.ref 456), some (.int (nI (sumN (foul B) i))), some (.int (nI i))] [] (g, c) (Rt (.int (nI (sumN (foul B) 27))) (g, c)) := by
  intro m
  induction m with
  | zero => intro i z1 z2; omega
  | succ m ih =>
    intro i z1 z2
    refine x_iload_n dX5_allFoul_4 rfl ?_
    refine x_bipush (nI 27) dX5_allFoul_5 (by decide) ?_
    refine x_icmp_ge 24 dX5_allFoul_7 (by decide) (fun c7 => ?_) (fun c7 => ?_)
    · have e1 : i = 27 := by have := (nI_leI (by omega) (by omega)).mp c7; omega
      subst e1
      refine x_iload_n dX5_allFoul_24 rfl ?_
      refine x_ireturn dX5_allFoul_25 ?_
      exact ⟨rfl, rfl⟩
    · have hi : i < 27 := by
        by_cases q : i < 27
        · exact q
        · exact absurd ((nI_leI (by omega) (by omega)).mpr (by omega)) c7
      refine x_iload_n dX5_allFoul_10 rfl ?_
      refine x_aload_n dX5_allFoul_11 rfl ?_
      refine x_iload_n dX5_allFoul_12 rfl ?_
      refine x_cv2 dX5_allFoul_13 rfl (by first | assumption | (simp (disch := omega) only [up_s, up_n]; first | assumption | rfl)) rfl ?_
      refine Cm.rt (s_X5_foulIn hO hA hB hi) ?_
      refine x_iaddN dX5_allFoul_16 ?_
      refine x_istore_n1 dX5_allFoul_17 rfl ?_
      refine x_iincN_2 (1) dX5_allFoul_18 (by decide) rfl ?_
      refine x_goto 4 dX5_allFoul_21 (by decide) ?_
      exact ih (i + 1) (by omega) (by omega)
set_option maxRecDepth 20000 in
set_option maxHeartbeats 1000000 in
theorem s_X5_allFoul {c : Nat → VC} {g : VG} {n tl th : Int32} {f : Nat → Int32} {B : Bx} (hO : RO c n tl th) (hA : AA c f) (hB : BoxR f B) : Cm k_X5_allFoul [.ref 456] (g, c) (Rt (.int (nI (sumN (foul B) 27))) (g, c)) := by
  refine Cm.in (M := M_X5_allFoul) (ls := [some (.ref 456), none, none]) rfl rfl ?_
  refine x_iconst (nI 0) dX5_allFoul_0 (by decide) ?_
  refine x_istore_n1 dX5_allFoul_1 rfl ?_
  refine x_iconst (nI 0) dX5_allFoul_2 (by decide) ?_
  refine x_istore_n2 dX5_allFoul_3 rfl ?_
  exact l_X5_allFoul hO hA hB 28 0 (by omega) (by omega)
set_option maxRecDepth 20000 in
set_option maxHeartbeats 1000000 in
theorem l_X5_inTheHeap {c : Nat → VC} {g : VG} {n tl th : Int32} {f : Nat → Int32} (hO : RO c n tl th) (hA : AA c f) {hp : List Nat} (hH : HpR f hp) {x : Nat} (hx : x < 27) : ∀ (m i : Nat), i ≤ hp.length → hp.length < i + m → Xm M_X5_inTheHeap 4 [some (.ref 456), some (.int (nI x)), some (.int (nI ((hp.take i).count x))), some (.int (nI i))] [] (g, c) (Rt (.int (nI (hp.count x))) (g, c)) := by
  obtain ⟨g1, g2, g3, g4⟩ := hH
  intro m
  induction m with
  | zero => intro i z1 z2; omega
  | succ m ih =>
    intro i z1 z2
    refine x_iload_n dX5_inTheHeap_4 rfl ?_
    refine x_aload_n dX5_inTheHeap_5 rfl ?_
    refine x_getfield dX5_inTheHeap_6 rfl (by decide) (by first | assumption | (simp (disch := omega) only [up_s, up_n]; first | assumption | rfl)) rfl ?_
    refine x_sipush (nI 1265) dX5_inTheHeap_9 (by decide) ?_
    refine x_ialoadN dX5_inTheHeap_12 (by first | assumption | (simp (disch := omega) only [up_s, up_n]; first | assumption | rfl)) (by omega) (by omega) ?_
    rw [g1]
    refine x_icmp_ge 44 dX5_inTheHeap_13 (by decide) (fun c13 => ?_) (fun c13 => ?_)
    · have e1 : i = hp.length := by have := (nI_leI (by omega) (by omega)).mp c13; omega
      subst e1
      rw [List.take_length]
      refine x_iload_n dX5_inTheHeap_44 rfl ?_
      refine x_ireturn dX5_inTheHeap_45 ?_
      exact ⟨rfl, rfl⟩
    · have hi : i < hp.length := by
        by_cases q : i < hp.length
        · exact q
        · exact absurd ((nI_leI (by omega) (by omega)).mpr (by omega)) c13
      have hli := g3 _ (List.getElem_mem hi)
      refine x_iload_n dX5_inTheHeap_16 rfl ?_
      refine x_aload_n dX5_inTheHeap_17 rfl ?_
      refine x_getfield dX5_inTheHeap_18 rfl (by decide) (by first | assumption | (simp (disch := omega) only [up_s, up_n]; first | assumption | rfl)) rfl ?_
      refine x_sipush (nI 1266) dX5_inTheHeap_21 (by decide) ?_
      refine x_iload_n dX5_inTheHeap_24 rfl ?_
      refine x_iaddN dX5_inTheHeap_25 ?_
      refine x_ialoadN dX5_inTheHeap_26 (by first | assumption | (simp (disch := omega) only [up_s, up_n]; first | assumption | rfl)) (by omega) (by omega) ?_
      rw [g4 i hi]
      refine x_iload_n dX5_inTheHeap_27 rfl ?_
      refine x_icmp_ne 35 dX5_inTheHeap_28 (by decide) (fun c28 => ?_) (fun c28 => ?_)
      · have ne : ¬ hp[i] = x := fun z => c28 (by rw [z])
        refine x_iconst (nI 0) dX5_inTheHeap_35 (by decide) ?_
        refine x_iaddN dX5_inTheHeap_36 ?_
        first
          | rw [← take_cnt1 hi ee]
          | rw [Nat.add_zero, ← take_cnt0 hi ne]
        refine x_istore_n2 dX5_inTheHeap_37 rfl ?_
        refine x_iincN_3 (1) dX5_inTheHeap_38 (by decide) rfl ?_
        refine x_goto 4 dX5_inTheHeap_41 (by decide) ?_
        exact ih (i + 1) (by omega) (by omega)
      · have ee : hp[i] = x := (nI_eq (by omega) (by omega)).mp c28
        refine x_iconst (nI 1) dX5_inTheHeap_31 (by decide) ?_
        refine x_goto 36 dX5_inTheHeap_32 (by decide) ?_
        refine x_iaddN dX5_inTheHeap_36 ?_
        first
          | rw [← take_cnt1 hi ee]
          | rw [Nat.add_zero, ← take_cnt0 hi ne]
        refine x_istore_n2 dX5_inTheHeap_37 rfl ?_
        refine x_iincN_3 (1) dX5_inTheHeap_38 (by decide) rfl ?_
        refine x_goto 4 dX5_inTheHeap_41 (by decide) ?_
        exact ih (i + 1) (by omega) (by omega)
set_option maxRecDepth 20000 in
set_option maxHeartbeats 1000000 in
theorem s_X5_inTheHeap {c : Nat → VC} {g : VG} {n tl th : Int32} {f : Nat → Int32} (hO : RO c n tl th) (hA : AA c f) {hp : List Nat} (hH : HpR f hp) {x : Nat} (hx : x < 27) : Cm k_X5_inTheHeap [.ref 456, .int (nI x)] (g, c) (Rt (.int (nI (hp.count x))) (g, c)) := by
  refine Cm.in (M := M_X5_inTheHeap) (ls := [some (.ref 456), some (.int (nI x)), none, none]) rfl rfl ?_
  refine x_iconst (nI 0) dX5_inTheHeap_0 (by decide) ?_
  refine x_istore_n2 dX5_inTheHeap_1 rfl ?_
  refine x_iconst (nI 0) dX5_inTheHeap_2 (by decide) ?_
  refine x_istore_n3 dX5_inTheHeap_3 rfl ?_
  exact l_X5_inTheHeap hO hA hH hx (hp.length + 1) 0 (Nat.zero_le _) (by omega)
set_option maxRecDepth 20000 in
set_option maxHeartbeats 1000000 in
theorem s_X5_places0 {c : Nat → VC} {g : VG} {n tl th : Int32} {f : Nat → Int32} (hO : RO c n tl th) (hA : AA c f) {j : Nat} {L : List (List Pl)} (hj : j < 3) (hL : ForR f j L) {i : Nat} (hi : i < L.length) : Cm k_X5_places0 [.ref 456, .int (nI j), .int (nI i)] (g, c) (Rt (.int (nI L[i].length)) (g, c)) := by
  have h5 := hL.2.1.1
  refine Cm.in (M := M_X5_places0) (ls := [some (.ref 456), some (.int (nI j)), some (.int (nI i))]) rfl rfl ?_
  refine x_aload_n dX5_places0_0 rfl ?_
  refine x_getfield dX5_places0_1 rfl (by decide) (by first | assumption | (simp (disch := omega) only [up_s, up_n]; first | assumption | rfl)) rfl ?_
  refine x_iload_n dX5_places0_4 rfl ?_
  refine x_iload_n dX5_places0_5 rfl ?_
  refine x_cs2 dX5_places0_6 rfl ?_
  refine Cm.rt s_X5_lineAt ?_
  refine x_ialoadN dX5_places0_9 (by first | assumption | (simp (disch := omega) only [up_s, up_n]; first | assumption | rfl)) (by omega) (by omega) ?_
  rw [hL.2.2.1 i hi]
  refine x_ireturn dX5_places0_10 ?_
  exact ⟨rfl, rfl⟩
set_option maxRecDepth 20000 in
set_option maxHeartbeats 1000000 in
theorem s_X5_of0 {c : Nat → VC} {g : VG} {n tl th : Int32} {f : Nat → Int32} (hO : RO c n tl th) (hA : AA c f) {j : Nat} {L : List (List Pl)} (hj : j < 3) (hL : ForR f j L) {i p : Nat} (hi : i < L.length) (hp : p < L[i].length) : Cm k_X5_of [.ref 456, .int (nI j), .int (nI i), .int (nI p), .int (nI 0)] (g, c) (Rt (.int (nI L[i][p].1)) (g, c)) := by
  have h5 := hL.2.1.1
  have h6 := hL.2.1.2 _ (List.getElem_mem hi)
  have h7 := hL.2.2.2.1 i hi p hp
  refine Cm.in (M := M_X5_of) (ls := [some (.ref 456), some (.int (nI j)), some (.int (nI i)), some (.int (nI p)), some (.int (nI 0))]) rfl rfl ?_
  refine x_aload_n dX5_of_0 rfl ?_
  refine x_getfield dX5_of_1 rfl (by decide) (by first | assumption | (simp (disch := omega) only [up_s, up_n]; first | assumption | rfl)) rfl ?_
  refine x_iload_n dX5_of_4 rfl ?_
  refine x_iload_n dX5_of_5 rfl ?_
  refine x_cs2 dX5_of_6 rfl ?_
  refine Cm.rt s_X5_lineAt ?_
  refine x_iconst (nI 1) dX5_of_9 (by decide) ?_
  refine x_iaddN dX5_of_10 ?_
  refine x_iconst (nI 3) dX5_of_11 (by decide) ?_
  refine x_iload_n dX5_of_12 rfl ?_
  refine x_imulN dX5_of_13 ?_
  refine x_iaddN dX5_of_14 ?_
  refine x_iload dX5_of_15 rfl ?_
  refine x_iaddN dX5_of_17 ?_
  refine x_ialoadN dX5_of_18 (by first | assumption | (simp (disch := omega) only [up_s, up_n]; first | assumption | rfl)) (by omega) (by omega) ?_
  rw [show 527 + 49 * (5 * j + i) + 1 + 3 * p + 0 = 527 + 49 * (5 * j + i) + 1 + 3 * p by omega, h7.1]
  refine x_ireturn dX5_of_19 ?_
  exact ⟨rfl, rfl⟩
set_option maxRecDepth 20000 in
set_option maxHeartbeats 1000000 in
theorem s_X5_of1 {c : Nat → VC} {g : VG} {n tl th : Int32} {f : Nat → Int32} (hO : RO c n tl th) (hA : AA c f) {j : Nat} {L : List (List Pl)} (hj : j < 3) (hL : ForR f j L) {i p : Nat} (hi : i < L.length) (hp : p < L[i].length) : Cm k_X5_of [.ref 456, .int (nI j), .int (nI i), .int (nI p), .int (nI 1)] (g, c) (Rt (.int (nI L[i][p].2.1)) (g, c)) := by
  have h5 := hL.2.1.1
  have h6 := hL.2.1.2 _ (List.getElem_mem hi)
  have h7 := hL.2.2.2.1 i hi p hp
  refine Cm.in (M := M_X5_of) (ls := [some (.ref 456), some (.int (nI j)), some (.int (nI i)), some (.int (nI p)), some (.int (nI 1))]) rfl rfl ?_
  refine x_aload_n dX5_of_0 rfl ?_
  refine x_getfield dX5_of_1 rfl (by decide) (by first | assumption | (simp (disch := omega) only [up_s, up_n]; first | assumption | rfl)) rfl ?_
  refine x_iload_n dX5_of_4 rfl ?_
  refine x_iload_n dX5_of_5 rfl ?_
  refine x_cs2 dX5_of_6 rfl ?_
  refine Cm.rt s_X5_lineAt ?_
  refine x_iconst (nI 1) dX5_of_9 (by decide) ?_
  refine x_iaddN dX5_of_10 ?_
  refine x_iconst (nI 3) dX5_of_11 (by decide) ?_
  refine x_iload_n dX5_of_12 rfl ?_
  refine x_imulN dX5_of_13 ?_
  refine x_iaddN dX5_of_14 ?_
  refine x_iload dX5_of_15 rfl ?_
  refine x_iaddN dX5_of_17 ?_
  refine x_ialoadN dX5_of_18 (by first | assumption | (simp (disch := omega) only [up_s, up_n]; first | assumption | rfl)) (by omega) (by omega) ?_
  rw [show 527 + 49 * (5 * j + i) + 1 + 3 * p + 1 = 527 + 49 * (5 * j + i) + 2 + 3 * p by omega, h7.2.1]
  refine x_ireturn dX5_of_19 ?_
  exact ⟨rfl, rfl⟩
set_option maxRecDepth 20000 in
set_option maxHeartbeats 1000000 in
theorem s_X5_of2 {c : Nat → VC} {g : VG} {n tl th : Int32} {f : Nat → Int32} (hO : RO c n tl th) (hA : AA c f) {j : Nat} {L : List (List Pl)} (hj : j < 3) (hL : ForR f j L) {i p : Nat} (hi : i < L.length) (hp : p < L[i].length) : Cm k_X5_of [.ref 456, .int (nI j), .int (nI i), .int (nI p), .int (nI 2)] (g, c) (Rt (.int (nI L[i][p].2.2)) (g, c)) := by
  have h5 := hL.2.1.1
  have h6 := hL.2.1.2 _ (List.getElem_mem hi)
  have h7 := hL.2.2.2.1 i hi p hp
  refine Cm.in (M := M_X5_of) (ls := [some (.ref 456), some (.int (nI j)), some (.int (nI i)), some (.int (nI p)), some (.int (nI 2))]) rfl rfl ?_
  refine x_aload_n dX5_of_0 rfl ?_
  refine x_getfield dX5_of_1 rfl (by decide) (by first | assumption | (simp (disch := omega) only [up_s, up_n]; first | assumption | rfl)) rfl ?_
  refine x_iload_n dX5_of_4 rfl ?_
  refine x_iload_n dX5_of_5 rfl ?_
  refine x_cs2 dX5_of_6 rfl ?_
  refine Cm.rt s_X5_lineAt ?_
  refine x_iconst (nI 1) dX5_of_9 (by decide) ?_
  refine x_iaddN dX5_of_10 ?_
  refine x_iconst (nI 3) dX5_of_11 (by decide) ?_
  refine x_iload_n dX5_of_12 rfl ?_
  refine x_imulN dX5_of_13 ?_
  refine x_iaddN dX5_of_14 ?_
  refine x_iload dX5_of_15 rfl ?_
  refine x_iaddN dX5_of_17 ?_
  refine x_ialoadN dX5_of_18 (by first | assumption | (simp (disch := omega) only [up_s, up_n]; first | assumption | rfl)) (by omega) (by omega) ?_
  rw [show 527 + 49 * (5 * j + i) + 1 + 3 * p + 2 = 527 + 49 * (5 * j + i) + 3 + 3 * p by omega, h7.2.2]
  refine x_ireturn dX5_of_19 ?_
  exact ⟨rfl, rfl⟩
set_option maxRecDepth 20000 in
set_option maxHeartbeats 1000000 in
theorem s_X5_isWrong {c : Nat → VC} {g : VG} {n tl th : Int32} {f : Nat → Int32} (hO : RO c n tl th) (hA : AA c f) {j : Nat} {L : List (List Pl)} (hj : j < 3) (hL : ForR f j L) {i p : Nat} (hi : i < L.length) (hp : p < L[i].length) : Cm k_X5_isWrong [.ref 456, .int (nI j), .int (nI i), .int (nI p)] (g, c) (Rt (.int (bV (wrg L[i][p]))) (g, c)) := by
  have hok := hL.2.2.2.2 _ (List.getElem_mem hi) _ (List.getElem_mem hp)
  refine Cm.in (M := M_X5_isWrong) (ls := [some (.ref 456), some (.int (nI j)), some (.int (nI i)), some (.int (nI p))]) rfl rfl ?_
  refine x_aload_n dX5_isWrong_0 rfl ?_
  refine x_iload_n dX5_isWrong_1 rfl ?_
  refine x_iload_n dX5_isWrong_2 rfl ?_
  refine x_iload_n dX5_isWrong_3 rfl ?_
  refine x_iconst (nI 2) dX5_isWrong_4 (by decide) ?_
  refine x_cv5 dX5_isWrong_5 rfl (by first | assumption | (simp (disch := omega) only [up_s, up_n]; first | assumption | rfl)) rfl ?_
  refine Cm.rt (s_X5_of2 hO hA hj hL hi hp) ?_
  refine x_iconst (nI 1) dX5_isWrong_8 (by decide) ?_
  refine x_icmp_eq 31 dX5_isWrong_9 (by decide) (fun c9 => ?_) (fun c9 => ?_)
  · have e9 : L[i][p].2.2 = 1 := (nI_eq (by omega) (by omega)).mp c9
    refine x_iconst (nI 1) dX5_isWrong_31 (by decide) ?_
    refine x_goto 36 dX5_isWrong_32 (by decide) ?_
    refine x_ireturn dX5_isWrong_36 ?_
    refine ⟨?_, rfl⟩
    first
      | (have hw : wrg L[i][p] = true := by unfold wrg; rw [e9]; rfl
         rw [hw]; rfl)
      | (have hw : wrg L[i][p] = false := by unfold wrg; rw [← e8]; simp [e9]
         rw [hw]; rfl)
      | (have hw : wrg L[i][p] = true := by unfold wrg; simp [e9, Ne.symm e8]
         rw [hw]; rfl)
  · have e9 : ¬ L[i][p].2.2 = 1 := fun z => c9 (by rw [z])
    refine x_aload_n dX5_isWrong_12 rfl ?_
    refine x_iload_n dX5_isWrong_13 rfl ?_
    refine x_iload_n dX5_isWrong_14 rfl ?_
    refine x_iload_n dX5_isWrong_15 rfl ?_
    refine x_iconst (nI 0) dX5_isWrong_16 (by decide) ?_
    refine x_cv5 dX5_isWrong_17 rfl (by first | assumption | (simp (disch := omega) only [up_s, up_n]; first | assumption | rfl)) rfl ?_
    refine Cm.rt (s_X5_of0 hO hA hj hL hi hp) ?_
    refine x_aload_n dX5_isWrong_20 rfl ?_
    refine x_iload_n dX5_isWrong_21 rfl ?_
    refine x_iload_n dX5_isWrong_22 rfl ?_
    refine x_iload_n dX5_isWrong_23 rfl ?_
    refine x_iconst (nI 1) dX5_isWrong_24 (by decide) ?_
    refine x_cv5 dX5_isWrong_25 rfl (by first | assumption | (simp (disch := omega) only [up_s, up_n]; first | assumption | rfl)) rfl ?_
    refine Cm.rt (s_X5_of1 hO hA hj hL hi hp) ?_
    refine x_icmp_eq 35 dX5_isWrong_28 (by decide) (fun c28 => ?_) (fun c28 => ?_)
    · have e8 : L[i][p].1 = L[i][p].2.1 := (nI_eq (by omega) (by omega)).mp c28
      refine x_iconst (nI 0) dX5_isWrong_35 (by decide) ?_
      refine x_ireturn dX5_isWrong_36 ?_
      refine ⟨?_, rfl⟩
      first
        | (have hw : wrg L[i][p] = true := by unfold wrg; rw [e9]; rfl
           rw [hw]; rfl)
        | (have hw : wrg L[i][p] = false := by unfold wrg; rw [← e8]; simp [e9]
           rw [hw]; rfl)
        | (have hw : wrg L[i][p] = true := by unfold wrg; simp [e9, Ne.symm e8]
           rw [hw]; rfl)
    · have e8 : ¬ L[i][p].1 = L[i][p].2.1 := fun z => c28 (by rw [z])
      refine x_iconst (nI 1) dX5_isWrong_31 (by decide) ?_
      refine x_goto 36 dX5_isWrong_32 (by decide) ?_
      refine x_ireturn dX5_isWrong_36 ?_
      refine ⟨?_, rfl⟩
      first
        | (have hw : wrg L[i][p] = true := by unfold wrg; rw [e9]; rfl
           rw [hw]; rfl)
        | (have hw : wrg L[i][p] = false := by unfold wrg; rw [← e8]; simp [e9]
           rw [hw]; rfl)
        | (have hw : wrg L[i][p] = true := by unfold wrg; simp [e9, Ne.symm e8]
           rw [hw]; rfl)
