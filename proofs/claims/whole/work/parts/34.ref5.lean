/-! the reference: taking the own sort, emptying a box, who lends, setting the text -/
theorem BoxS.split {f : Nat → Int32} {B : Bx} {ss : Nat → List Nat} {b s : Nat} {p q : List Nat} (h : BoxS f B ss) (hb : b < 27) (hs : ss b = p ++ s :: q) : ∃ X x Y, B b = X ++ x :: Y ∧ X.length = q.length ∧ f s = nI x ∧ x < 27 ∧ p.map f = Y.reverse.map nI ∧ ∀ y ∈ Y, y < 27 := by
  have h2 := h.2.1 b hb
  rw [hs, List.map_append, List.map_cons] at h2
  obtain ⟨l1, l2, e1, e2, e3⟩ := List.map_eq_append_iff.mp h2.symm
  obtain ⟨x, l3, e4, e5, e6⟩ := List.map_eq_cons_iff.mp e3
  have e7 : B b = l3.reverse ++ x :: l1.reverse := by
    have := congrArg List.reverse e1
    rw [List.reverse_reverse] at this
    rw [this, e4]
    simp
  have h7 := h.2.2.2.2.2.2 b hb
  refine ⟨l3.reverse, x, l1.reverse, e7, ?_, e5.symm, h7 x (by rw [e7]; simp), by rw [List.reverse_reverse]; exact e2.symm, fun y hy => h7 y (by rw [e7]; exact List.mem_append_right _ (List.mem_cons_of_mem _ hy))⟩
  have := congrArg List.length e6
  simp at this ⊢
  omega
theorem lastIx_mid {X Y : List Nat} {x : Nat} (hY : x ∉ Y) : ∀ k, k ≤ Y.length → lastIx (X ++ x :: Y) x (X.length + 1 + k) = some X.length
  | 0, _ => by
    show (if (X ++ x :: Y)[X.length]? = some x then some X.length else _) = _
    rw [if_pos (by simp)]
  | k + 1, hk => by
    show (if (X ++ x :: Y)[X.length + 1 + k]? = some x then _ else lastIx (X ++ x :: Y) x (X.length + 1 + k)) = _
    rw [if_neg, lastIx_mid hY k (by omega)]
    intro q
    rw [List.getElem?_append_right (by omega), show X.length + 1 + k - X.length = k + 1 by omega, List.getElem?_cons_succ] at q
    exact hY (List.mem_of_getElem? q)
theorem lastIx_no {l : List Nat} {x : Nat} (h : x ∉ l) : ∀ n, lastIx l x n = none
  | 0 => rfl
  | n + 1 => by
    show (if l[n]? = some x then some n else lastIx l x n) = none
    rw [if_neg (fun q => h (List.mem_of_getElem? q)), lastIx_no h n]
theorem lastIx_split {l X Y : List Nat} {x : Nat} (h : l = X ++ x :: Y) (hY : x ∉ Y) : lastIx l x l.length = some X.length ∧ l.eraseIdx X.length = X ++ Y := by
  subst h
  refine ⟨?_, ?_⟩
  · have := lastIx_mid (X := X) hY Y.length (Nat.le_refl _)
    rw [List.length_append, List.length_cons, show X.length + (Y.length + 1) = X.length + 1 + Y.length by omega]
    exact this
  · rw [List.eraseIdx_append_of_length_le (Nat.le_refl _), Nat.sub_self]
    rfl
theorem BoxR.le {f : Nat → Int32} {B : Bx} (h : BoxR f B) : SB B ≤ 250 := by
  rw [← cnt_used h]
  have e : ∀ (p : Nat → Bool) n, cntP p n ≤ n := by
    intro p n
    induction n with
    | zero => exact Nat.le_refl _
    | succ n ih =>
      show cntP p n + (if p n then 1 else 0) ≤ n + 1
      split <;> omega
  exact e _ _
theorem BoxR.topE {f : Nat → Int32} {B : Bx} (h : BoxR f B) {b : Nat} (hb : b < 27) : f (500 + b) = -1 ↔ B b = [] := by
  obtain ⟨ss, hss⟩ := h
  have h1 := hss.1 b hb
  have h2 := hss.len hb
  constructor
  · intro q
    cases e : ss b with
    | nil => rw [e] at h2; exact List.eq_nil_of_length_eq_zero h2.symm
    | cons s r =>
      rw [e] at h1
      have h3 := hss.2.2.1 b hb s (by rw [e]; exact List.mem_cons_self)
      exact absurd (h1.1.symm.trans q) (m1_ne (by omega))
  · intro q
    rw [q] at h2
    rw [List.eq_nil_of_length_eq_zero h2] at h1
    exact h1
def OwnP (c : Nat → VC) (f : Nat → Int32) (B : Bx) (b : Nat) (v : Value) (c' : Nat → VC) : Prop := match lastIx (B b) b (B b).length with
  | none => v = .int (nI 0) ∧ c' = c
  | some i => v = .int (nI 1) ∧ ∃ f', c' = up c 457 (cI 1542 f') ∧ BoxR f' (uf B b ((B b).eraseIdx i)) ∧ ∀ j, 527 ≤ j → f' j = f j
theorem own_some {c : Nat → VC} {f f9 : Nat → Int32} {B : Bx} {ss : Nat → List Nat} {b s : Nat} {p q : List Nat} (hss : BoxS f B ss) (hb : b < 27) (hs : ss b = p ++ s :: q) (hf : f s = nI b) (hp : ∀ d ∈ p, ¬ f d = nI b) (hch : Ch f9 (f9 (500 + b)) (p ++ q)) (e1 : ∀ j, j < 250 → j ≠ s → f9 j = f j) (e2 : f9 s = -1) (e3 : ∀ d, d < 27 → d ≠ b → f9 (500 + d) = f (500 + d)) (e4 : ∀ d, d < 27 → d ≠ b → ∀ t ∈ ss d, f9 (250 + t) = f (250 + t)) (e5 : ∀ j, 527 ≤ j → f9 j = f j) : OwnP c f B b (.int (nI 1)) (up c 457 (cI 1542 f9)) := by
  obtain ⟨X, x, Y, g1, g2, g3, g4, g5, g6⟩ := hss.split hb hs
  have hx : x = b := (nI_eq (by omega) (by omega)).mp (g3.symm.trans hf)
  subst hx
  have hY : x ∉ Y := fun z => by
    have h1 : nI x ∈ p.map f := by
      rw [g5]
      exact List.mem_map_of_mem (List.mem_reverse.mpr z)
    obtain ⟨d, hd, hd2⟩ := List.mem_map.mp h1
    exact hp d hd hd2
  obtain ⟨k1, k2⟩ := lastIx_split g1 hY
  unfold OwnP
  rw [k1]
  exact ⟨rfl, f9, rfl, ⟨_, by rw [k2]; exact hss.cut hb hs g1 g2.symm hch e1 e2 e3 e4⟩, e5⟩
set_option maxRecDepth 20000 in
set_option maxHeartbeats 1000000 in
theorem k_X5_own0 {c : Nat → VC} {g : VG} {n tl th : Int32} {f : Nat → Int32} {B : Bx} (hO : RO c n tl th) (hA : AA c f) {ss : Nat → List Nat} {b s : Nat} {q : List Nat} (hss : BoxS f B ss) (hb : b < 27) (hsb : ss b = s :: q) (hfs : f s = nI b) : Xm M_X5_takesOwn 53 [some (.ref 456), some (.int (nI b)), some (.int (-1)), some (.int (nI s))] [] (g, c) (Ei g (OwnP c f B b)) := by
  have hs250 : s < 250 := hss.2.2.1 b hb s (by rw [hsb]; simp)
  have hnd := hss.2.2.2.1 b hb
  rw [hsb] at hnd
  have hsq := (List.nodup_cons.mp hnd).1
  have hcc := hss.1 b hb
  rw [hsb] at hcc
  refine x_iload_n dX5_takesOwn_53 rfl ?_
  refine x_iconst (-1) dX5_takesOwn_54 (by decide) ?_
  refine x_icmp_ne 81 dX5_takesOwn_55 (by decide) (fun c55 => ?_) (fun c55 => ?_)
  · exact absurd rfl c55
  · refine x_aload_n dX5_takesOwn_58 rfl ?_
    refine x_getfield dX5_takesOwn_59 rfl (by decide) (by first | assumption | (simp (disch := omega) only [up_s, up_n]; first | assumption | rfl)) rfl ?_
    refine x_sipush (nI 500) dX5_takesOwn_62 (by decide) ?_
    refine x_iload_n dX5_takesOwn_65 rfl ?_
    refine x_iaddN dX5_takesOwn_66 ?_
    refine x_aload_n dX5_takesOwn_67 rfl ?_
    refine x_getfield dX5_takesOwn_68 rfl (by decide) (by first | assumption | (simp (disch := omega) only [up_s, up_n]; first | assumption | rfl)) rfl ?_
    refine x_sipush (nI 250) dX5_takesOwn_71 (by decide) ?_
    refine x_iload_n dX5_takesOwn_74 rfl ?_
    refine x_iaddN dX5_takesOwn_75 ?_
    refine x_ialoadN dX5_takesOwn_76 (by first | assumption | (simp (disch := omega) only [up_s, up_n]; first | assumption | rfl)) (by omega) (by omega) ?_
    refine x_iastoreN dX5_takesOwn_77 (by first | assumption | (simp (disch := omega) only [up_s, up_n]; first | assumption | rfl)) (by omega) (by omega) ?_
    refine x_goto 101 dX5_takesOwn_78 (by decide) ?_
    refine x_aload_n dX5_takesOwn_101 rfl ?_
    refine x_getfield dX5_takesOwn_102 rfl (by decide) (by first | assumption | (simp (disch := omega) only [up_s, up_n]; first | assumption | rfl)) rfl ?_
    refine x_iconst (nI 0) dX5_takesOwn_105 (by decide) ?_
    refine x_iload_n dX5_takesOwn_106 rfl ?_
    refine x_iaddN dX5_takesOwn_107 ?_
    refine x_iconst (-1) dX5_takesOwn_108 (by decide) ?_
    refine x_iastoreN dX5_takesOwn_109 (by first | assumption | (simp (disch := omega) only [up_s, up_n]; first | assumption | rfl)) (by omega) (by omega) ?_
    rw [Nat.zero_add s]
    refine x_aload_n dX5_takesOwn_110 rfl ?_
    refine x_getfield dX5_takesOwn_111 rfl (by decide) (by first | assumption | (simp (disch := omega) only [up_s, up_n]; first | assumption | rfl)) rfl ?_
    refine x_sipush (nI 250) dX5_takesOwn_114 (by decide) ?_
    refine x_iload_n dX5_takesOwn_117 rfl ?_
    refine x_iaddN dX5_takesOwn_118 ?_
    refine x_iconst (nI 0) dX5_takesOwn_119 (by decide) ?_
    refine x_iastoreN dX5_takesOwn_120 (by first | assumption | (simp (disch := omega) only [up_s, up_n]; first | assumption | rfl)) (by omega) (by omega) ?_
    refine x_iconst (nI 1) dX5_takesOwn_121 (by decide) ?_
    refine x_ireturn dX5_takesOwn_122 ?_
    refine ⟨_, _, rfl, rfl, ?_⟩
    rw [up_up, up_up]
    exact own_some (p := []) (q := q) hss hb hsb hfs (fun d hd => absurd hd (by simp)) (by
      rw [pk_un (by omega), pk_un (by omega), pk_us]
      exact hcc.2.fr (fun t ht => by
        have h31 := hss.2.2.1 b hb t (by rw [hsb]; exact List.mem_cons_of_mem _ ht)
        have hts : t ≠ s := fun z => hsq (z ▸ ht)
        rw [pk_un (by omega), pk_un (by omega), pk_un (by omega)])) (fun j hj hne => by rw [pk_un (by omega), pk_un hne, pk_un (by omega)]) (by rw [pk_un (by omega), pk_us]) (fun d hd hne => by rw [pk_un (by omega), pk_un (by omega), pk_un (by omega)]) (fun d hd hne t ht => by
      have h31 := hss.2.2.1 d hd t ht
      have hts : t ≠ s := fun z => hss.2.2.2.2.1 d b hd hb hne t ht (by rw [hsb, z]; simp)
      rw [pk_un (by omega), pk_un (by omega), pk_un (by omega)]) (fun j hj => by rw [pk_un (by omega), pk_un (by omega), pk_un (by omega)])
set_option maxRecDepth 20000 in
set_option maxHeartbeats 1000000 in
theorem k_X5_own1 {c : Nat → VC} {g : VG} {n tl th : Int32} {f : Nat → Int32} {B : Bx} (hO : RO c n tl th) (hA : AA c f) {ss : Nat → List Nat} {b s d : Nat} {p q : List Nat} (hss : BoxS f B ss) (hb : b < 27) (hsb : ss b = (p ++ [d]) ++ s :: q) (hfs : f s = nI b) (hp : ∀ e ∈ p ++ [d], ¬ f e = nI b) : Xm M_X5_takesOwn 53 [some (.ref 456), some (.int (nI b)), some (.int (nI d)), some (.int (nI s))] [] (g, c) (Ei g (OwnP c f B b)) := by
  have hs250 : s < 250 := hss.2.2.1 b hb s (by rw [hsb]; simp)
  have hd250 : d < 250 := hss.2.2.1 b hb d (by rw [hsb]; simp)
  have hnd := hss.2.2.2.1 b hb
  rw [hsb] at hnd
  have hnd2 := List.nodup_append.mp hnd
  have hnd3 := List.nodup_append.mp hnd2.1
  have hsq := (List.nodup_cons.mp hnd2.2.1).1
  have hds : d ≠ s := hnd2.2.2 d (by simp) s (by simp)
  have hcc := hss.1 b hb
  rw [hsb, List.append_assoc] at hcc
  have hmb : ∀ t, t ∈ p ∨ t ∈ q → t < 250 ∧ t ≠ s ∧ t ≠ d := fun t ht => by
    refine ⟨hss.2.2.1 b hb t (by rw [hsb]; rcases ht with z | z <;> simp [z]), ?_, ?_⟩
    · rcases ht with z | z
      · exact hnd2.2.2 t (by simp [z]) s (by simp)
      · exact fun z2 => hsq (z2 ▸ z)
    · rcases ht with z | z
      · exact hnd3.2.2 t z d (by simp)
      · exact fun z2 => hnd2.2.2 d (by simp) t (by simp [z]) z2.symm
  refine x_iload_n dX5_takesOwn_53 rfl ?_
  refine x_iconst (-1) dX5_takesOwn_54 (by decide) ?_
  refine x_icmp_ne 81 dX5_takesOwn_55 (by decide) (fun c55 => ?_) (fun c55 => ?_)
  · refine x_aload_n dX5_takesOwn_81 rfl ?_
    refine x_getfield dX5_takesOwn_82 rfl (by decide) (by first | assumption | (simp (disch := omega) only [up_s, up_n]; first | assumption | rfl)) rfl ?_
    refine x_sipush (nI 250) dX5_takesOwn_85 (by decide) ?_
    refine x_iload_n dX5_takesOwn_88 rfl ?_
    refine x_iaddN dX5_takesOwn_89 ?_
    refine x_aload_n dX5_takesOwn_90 rfl ?_
    refine x_getfield dX5_takesOwn_91 rfl (by decide) (by first | assumption | (simp (disch := omega) only [up_s, up_n]; first | assumption | rfl)) rfl ?_
    refine x_sipush (nI 250) dX5_takesOwn_94 (by decide) ?_
    refine x_iload_n dX5_takesOwn_97 rfl ?_
    refine x_iaddN dX5_takesOwn_98 ?_
    refine x_ialoadN dX5_takesOwn_99 (by first | assumption | (simp (disch := omega) only [up_s, up_n]; first | assumption | rfl)) (by omega) (by omega) ?_
    refine x_iastoreN dX5_takesOwn_100 (by first | assumption | (simp (disch := omega) only [up_s, up_n]; first | assumption | rfl)) (by omega) (by omega) ?_
    refine x_aload_n dX5_takesOwn_101 rfl ?_
    refine x_getfield dX5_takesOwn_102 rfl (by decide) (by first | assumption | (simp (disch := omega) only [up_s, up_n]; first | assumption | rfl)) rfl ?_
    refine x_iconst (nI 0) dX5_takesOwn_105 (by decide) ?_
    refine x_iload_n dX5_takesOwn_106 rfl ?_
    refine x_iaddN dX5_takesOwn_107 ?_
    refine x_iconst (-1) dX5_takesOwn_108 (by decide) ?_
    refine x_iastoreN dX5_takesOwn_109 (by first | assumption | (simp (disch := omega) only [up_s, up_n]; first | assumption | rfl)) (by omega) (by omega) ?_
    rw [Nat.zero_add s]
    refine x_aload_n dX5_takesOwn_110 rfl ?_
    refine x_getfield dX5_takesOwn_111 rfl (by decide) (by first | assumption | (simp (disch := omega) only [up_s, up_n]; first | assumption | rfl)) rfl ?_
    refine x_sipush (nI 250) dX5_takesOwn_114 (by decide) ?_
    refine x_iload_n dX5_takesOwn_117 rfl ?_
    refine x_iaddN dX5_takesOwn_118 ?_
    refine x_iconst (nI 0) dX5_takesOwn_119 (by decide) ?_
    refine x_iastoreN dX5_takesOwn_120 (by first | assumption | (simp (disch := omega) only [up_s, up_n]; first | assumption | rfl)) (by omega) (by omega) ?_
    refine x_iconst (nI 1) dX5_takesOwn_121 (by decide) ?_
    refine x_ireturn dX5_takesOwn_122 ?_
    refine ⟨_, _, rfl, rfl, ?_⟩
    rw [up_up, up_up]
    exact own_some (p := p ++ [d]) (q := q) hss hb hsb hfs hp (by
      rw [pk_un (by omega), pk_un (by omega), pk_un (by omega), List.append_assoc]
      exact Ch.skip (by rw [pk_un (by omega), pk_un (by omega), pk_us]) hcc (fun t ht => by
        obtain ⟨w1, w2, w3⟩ := hmb t (Or.inl ht)
        rw [pk_un (by omega), pk_un (by omega), pk_un (by omega)]) (fun t ht => by
        obtain ⟨w1, w2, w3⟩ := hmb t (Or.inr ht)
        rw [pk_un (by omega), pk_un (by omega), pk_un (by omega)])) (fun j hj hne => by rw [pk_un (by omega), pk_un hne, pk_un (by omega)]) (by rw [pk_un (by omega), pk_us]) (fun d8 hd hne => by rw [pk_un (by omega), pk_un (by omega), pk_un (by omega)]) (fun d9 hd hne t ht => by
      have h31 := hss.2.2.1 d9 hd t ht
      have hts : t ≠ s := fun z => hss.2.2.2.2.1 d9 b hd hb hne t ht (by rw [hsb, z]; simp)
      have htd : t ≠ d := fun z => hss.2.2.2.2.1 d9 b hd hb hne t ht (by rw [hsb, z]; simp)
      rw [pk_un (by omega), pk_un (by omega), pk_un (by omega)]) (fun j hj => by rw [pk_un (by omega), pk_un (by omega), pk_un (by omega)])
  · exact absurd c55 (m1_ne (by omega))
set_option maxRecDepth 20000 in
set_option maxHeartbeats 2000000 in
theorem l_X5_takesOwn {c : Nat → VC} {g : VG} {n tl th : Int32} {f : Nat → Int32} {B : Bx} (hO : RO c n tl th) (hA : AA c f) {ss : Nat → List Nat} {b : Nat} (hss : BoxS f B ss) (hb : b < 27) : ∀ (r p : List Nat) (t ab : Int32), ss b = p ++ r → Ch f t r → (∀ e ∈ p, ¬ f e = nI b) → ab = ixV p.getLast? → Xm M_X5_takesOwn 13 [some (.ref 456), some (.int (nI b)), some (.int ab), some (.int t)] [] (g, c) (Ei g (OwnP c f B b)) := by
  intro r
  induction r with
  | nil =>
    intro p t ab e1 e2 e3 e4
    rw [List.append_nil] at e1
    have e5 : t = -1 := e2
    subst e5
    refine x_iload_n dX5_takesOwn_13 rfl ?_
    refine x_iconst (-1) dX5_takesOwn_14 (by decide) ?_
    refine x_icmp_eq 46 dX5_takesOwn_15 (by decide) (fun c15 => ?_) (fun c15 => ?_)
    · refine x_iload_n dX5_takesOwn_46 rfl ?_
      refine x_iconst (-1) dX5_takesOwn_47 (by decide) ?_
      refine x_icmp_ne 53 dX5_takesOwn_48 (by decide) (fun c48 => ?_) (fun c48 => ?_)
      · exact absurd rfl c48
      · refine x_iconst (nI 0) dX5_takesOwn_51 (by decide) ?_
        refine x_ireturn dX5_takesOwn_52 ?_
        refine ⟨_, _, rfl, rfl, ?_⟩
        unfold OwnP
        have h2 := hss.2.1 b hb
        rw [e1] at h2
        rw [lastIx_no]
        · exact ⟨rfl, rfl⟩
        · intro z
          have h3 : nI b ∈ p.map f := by rw [h2]; exact List.mem_map_of_mem (List.mem_reverse.mpr z)
          obtain ⟨d, hd, hd2⟩ := List.mem_map.mp h3
          exact e3 d hd hd2
    · exact absurd rfl c15
  | cons s r ih =>
    intro p t ab e1 e2 e3 e4
    obtain ⟨rfl, e5⟩ := e2
    have hs250 : s < 250 := hss.2.2.1 b hb s (by rw [e1]; simp)
    refine x_iload_n dX5_takesOwn_13 rfl ?_
    refine x_iconst (-1) dX5_takesOwn_14 (by decide) ?_
    refine x_icmp_eq 46 dX5_takesOwn_15 (by decide) (fun c15 => ?_) (fun c15 => ?_)
    · exact absurd c15 (m1_ne (by omega))
    · refine x_aload_n dX5_takesOwn_18 rfl ?_
      refine x_getfield dX5_takesOwn_19 rfl (by decide) (by first | assumption | (simp (disch := omega) only [up_s, up_n]; first | assumption | rfl)) rfl ?_
      refine x_iconst (nI 0) dX5_takesOwn_22 (by decide) ?_
      refine x_iload_n dX5_takesOwn_23 rfl ?_
      refine x_iaddN dX5_takesOwn_24 ?_
      refine x_ialoadN dX5_takesOwn_25 (by first | assumption | (simp (disch := omega) only [up_s, up_n]; first | assumption | rfl)) (by omega) (by omega) ?_
      rw [Nat.zero_add s]
      refine x_iload_n dX5_takesOwn_26 rfl ?_
      refine x_icmp_eq 46 dX5_takesOwn_27 (by decide) (fun c27 => ?_) (fun c27 => ?_)
      · refine x_iload_n dX5_takesOwn_46 rfl ?_
        refine x_iconst (-1) dX5_takesOwn_47 (by decide) ?_
        refine x_icmp_ne 53 dX5_takesOwn_48 (by decide) (fun c48 => ?_) (fun c48 => ?_)
        · rcases List.eq_nil_or_concat p with rfl | ⟨p0, d, rfl⟩
          · have e9 : ab = -1 := e4
            subst e9
            exact k_X5_own0 hO hA hss hb e1 c27
          · have e9 : ab = nI d := by rw [e4]; simp [ixV]
            subst e9
            rw [List.concat_eq_append] at *
            exact k_X5_own1 hO hA hss hb e1 c27 e3
        · exact absurd c48 (m1_ne (by omega))
      · refine x_iload_n dX5_takesOwn_30 rfl ?_
        refine x_istore_n2 dX5_takesOwn_31 rfl ?_
        refine x_aload_n dX5_takesOwn_32 rfl ?_
        refine x_getfield dX5_takesOwn_33 rfl (by decide) (by first | assumption | (simp (disch := omega) only [up_s, up_n]; first | assumption | rfl)) rfl ?_
        refine x_sipush (nI 250) dX5_takesOwn_36 (by decide) ?_
        refine x_iload_n dX5_takesOwn_39 rfl ?_
        refine x_iaddN dX5_takesOwn_40 ?_
        refine x_ialoadN dX5_takesOwn_41 (by first | assumption | (simp (disch := omega) only [up_s, up_n]; first | assumption | rfl)) (by omega) (by omega) ?_
        refine x_istore_n3 dX5_takesOwn_42 rfl ?_
        refine x_goto 13 dX5_takesOwn_43 (by decide) ?_
        exact ih (p ++ [s]) _ _ (by rw [e1]; simp) e5 (fun e he => by
          rcases List.mem_append.mp he with z | z
          · exact e3 e z
          · rw [List.mem_singleton.mp z]; exact c27) (by simp [ixV])
set_option maxRecDepth 20000 in
set_option maxHeartbeats 1000000 in
theorem s_X5_takesOwn {c : Nat → VC} {g : VG} {n tl th : Int32} {f : Nat → Int32} {B : Bx} (hO : RO c n tl th) (hA : AA c f) (hB : BoxR f B) {b : Nat} (hb : b < 27) : Cm k_X5_takesOwn [.ref 456, .int (nI b)] (g, c) (Ei g (OwnP c f B b)) := by
  obtain ⟨ss, hss⟩ := hB
  refine Cm.in (M := M_X5_takesOwn) (ls := [some (.ref 456), some (.int (nI b)), none, none]) rfl rfl ?_
  refine x_iconst (-1) dX5_takesOwn_0 (by decide) ?_
  refine x_istore_n2 dX5_takesOwn_1 rfl ?_
  refine x_aload_n dX5_takesOwn_2 rfl ?_
  refine x_getfield dX5_takesOwn_3 rfl (by decide) (by first | assumption | (simp (disch := omega) only [up_s, up_n]; first | assumption | rfl)) rfl ?_
  refine x_sipush (nI 500) dX5_takesOwn_6 (by decide) ?_
  refine x_iload_n dX5_takesOwn_9 rfl ?_
  refine x_iaddN dX5_takesOwn_10 ?_
  refine x_ialoadN dX5_takesOwn_11 (by first | assumption | (simp (disch := omega) only [up_s, up_n]; first | assumption | rfl)) (by omega) (by omega) ?_
  refine x_istore_n3 dX5_takesOwn_12 rfl ?_
  exact l_X5_takesOwn hO hA hss hb (ss b) [] _ _ rfl (hss.1 b hb) (fun e he => absurd he (by simp)) rfl
theorem uf_uf {α : Type} {f : Nat → α} {a : Nat} {x y : α} : uf (uf f a x) a y = uf f a y := by
  funext j
  unfold uf
  split <;> rfl
theorem uf_id {α : Type} {f : Nat → α} {a : Nat} : uf f a (f a) = f := by
  funext j
  unfold uf
  split
  · rename_i h; rw [h]
  · rfl
set_option maxRecDepth 20000 in
set_option maxHeartbeats 2000000 in
theorem l_X5_empties {c : Nat → VC} {g : VG} {f vs as tx ll lt : Nat → Int32} {n tl th : Int32} {B : Bx} {b : Nat} (hb : b < 27) (h250 : (B b).length ≤ 250) : ∀ (m : Nat) (l l2 : List Nat), l.length = m → B b = l ++ l2 → ∀ (d9 r9 : Nat → Int32) (c1 : Nat → VC), RH c1 d9 vs as tx r9 ll lt n tl th → FrR c c1 → BoxR d9 (uf B b l) → (∀ k, 527 ≤ k → d9 k = f k) → (∀ (i : Nat) (hi : i < (B b).length), l.length ≤ i → r9 i = nI (B b)[i]) → Xm M_X5_empties 11 [some (.ref 456), some (.int (nI b)), some (.int (nI (B b).length)), some (.int (nI l.length - nI 1))] [] (g, c1) (Ei g (fun v c' => v = .int (nI (B b).length) ∧ ∃ f' rw', RH c' f' vs as tx rw' ll lt n tl th ∧ FrR c c' ∧ BoxR f' (uf B b []) ∧ (∀ k, 527 ≤ k → f' k = f k) ∧ ∀ (i : Nat) (hi : i < (B b).length), rw' i = nI (B b)[i])) := by
  intro m
  induction m with
  | zero =>
    intro l l2 z1 z2 d9 r9 c1 hR1 hF1 hB1 hd hr
    have e1 : l = [] := List.eq_nil_of_length_eq_zero z1
    subst e1
    refine x_iload_n dX5_empties_11 rfl ?_
    refine x_if_lt 32 dX5_empties_12 (by decide) (fun c12 => ?_) (fun c12 => ?_)
    · refine x_iload_n dX5_empties_32 rfl ?_
      refine x_ireturn dX5_empties_33 ?_
      exact ⟨_, _, rfl, rfl, rfl, d9, r9, hR1, hF1, hB1, hd, fun i hi => hr i hi (Nat.zero_le _)⟩
    · exact absurd (by decide) c12
  | succ m ih =>
    intro l l2 z1 z2 d9 r9 c1 hR1 hF1 hB1 hd hr
    obtain ⟨hO, hA, hS, hD, hX, hW, hL, hT⟩ := id hR1
    obtain ⟨l0, x, rfl⟩ : ∃ l0 x, l = l0 ++ [x] := ⟨_, _, snoc_of (by omega)⟩
    rw [List.length_append, List.length_singleton] at z1
    have e2 : nI (l0 ++ [x]).length - nI 1 = nI l0.length := by rw [List.length_append, List.length_singleton]; exact nI_pred _
    have e3 : (B b).length = l0.length + 1 + l2.length := by rw [z2]; simp; omega
    rw [e2]
    refine x_iload_n dX5_empties_11 rfl ?_
    refine x_if_lt 32 dX5_empties_12 (by decide) (fun c12 => ?_) (fun c12 => ?_)
    · exact absurd c12 (nI_pos (by omega))
    · refine x_aload_n dX5_empties_15 rfl ?_
      refine x_getfield dX5_empties_16 rfl (by decide) (by first | assumption | (simp (disch := omega) only [up_s, up_n]; first | assumption | rfl)) rfl ?_
      refine x_iload_n dX5_empties_19 rfl ?_
      refine x_aload_n dX5_empties_20 rfl ?_
      refine x_iload_n dX5_empties_21 rfl ?_
      refine x_cv2 dX5_empties_22 rfl (by first | assumption | (simp (disch := omega) only [up_s, up_n]; first | assumption | rfl)) rfl ?_
      refine Cm.ei (s_X5_takes hO hA hB1 hb (l := l0) (x := x) uf_s) (fun v c2 q2 => ?_)
      obtain ⟨rfl, d8, rfl, hB8, hd8⟩ := q2
      rw [uf_uf] at hB8
      refine x_iastoreN dX5_empties_25 (by first | assumption | (simp (disch := omega) only [up_s, up_n]; first | assumption | rfl)) (by omega) (by omega) ?_
      refine x_iinc_3 (-1) dX5_empties_26 rfl rfl ?_
      rw [show nI l0.length + (-1) = nI l0.length - nI 1 by rw [Int32.sub_eq_add_neg]; rfl]
      refine x_goto 11 dX5_empties_29 (by decide) ?_
      refine ih l0 (x :: l2) (by omega) (by rw [z2]; simp) _ _ _ hR1.uA.uW ((hF1.u (by omega) (by omega)).u (by omega) (by omega)) hB8 (fun k hk => by rw [hd8 k hk]; exact hd k hk) (fun i hi hl => ?_)
      by_cases q : i = l0.length
      · subst q
        rw [pk_us]
        congr 1
        simp [z2]
      · rw [pk_un q]
        exact hr i hi (by rw [List.length_append, List.length_singleton]; omega)
set_option maxRecDepth 20000 in
set_option maxHeartbeats 1000000 in
theorem s_X5_empties {c : Nat → VC} {g : VG} {f vs as tx rw ll lt : Nat → Int32} {n tl th : Int32} (hR : RH c f vs as tx rw ll lt n tl th) {B : Bx} (hB : BoxR f B) {b : Nat} (hb : b < 27) : Cm k_X5_empties [.ref 456, .int (nI b)] (g, c) (Ei g (fun v c' => v = .int (nI (B b).length) ∧ ∃ f' rw', RH c' f' vs as tx rw' ll lt n tl th ∧ FrR c c' ∧ BoxR f' (uf B b []) ∧ (∀ k, 527 ≤ k → f' k = f k) ∧ ∀ (i : Nat) (hi : i < (B b).length), rw' i = nI (B b)[i])) := by
  obtain ⟨hO, hA, hS, hD, hX, hW, hL, hT⟩ := id hR
  have h250 : (B b).length ≤ 250 := Nat.le_trans (SB_le hb) hB.le
  refine Cm.in (M := M_X5_empties) (ls := [some (.ref 456), some (.int (nI b)), none, none]) rfl rfl ?_
  refine x_aload_n dX5_empties_0 rfl ?_
  refine x_iload_n dX5_empties_1 rfl ?_
  refine x_iconst (-1) dX5_empties_2 (by decide) ?_
  refine x_cv3 dX5_empties_3 rfl (by first | assumption | (simp (disch := omega) only [up_s, up_n]; first | assumption | rfl)) rfl ?_
  refine Cm.rt (s_X5_countIn_n hO hA hB hb) ?_
  refine x_istore_n2 dX5_empties_6 rfl ?_
  refine x_iload_n dX5_empties_7 rfl ?_
  refine x_iconst (nI 1) dX5_empties_8 (by decide) ?_
  refine x_isub dX5_empties_9 ?_
  refine x_istore_n3 dX5_empties_10 rfl ?_
  refine l_X5_empties hb h250 _ (B b) [] rfl (by simp) f rw c hR FrR.rf (by rw [uf_id]; exact hB) (fun k hk => rfl) (fun i hi hl => by omega)
def lendV (B : Bx) (x n : Nat) : Int32 := if B (lendN B x n) = [] then -1 else nI (lendN B x n)
theorem lend_eq {B : Bx} {x n : Nat} (h : ¬ (wd n = wd x ∧ (B (lendN B x n)).length < (B n).length)) : lendN B x (n + 1) = lendN B x n := by
  show (if _ then _ else _) = _
  rw [if_neg h]
theorem lend_n {B : Bx} {x n : Nat} (h1 : wd n = wd x) (h2 : (B (lendN B x n)).length < (B n).length) : lendN B x (n + 1) = n := by
  show (if _ then _ else _) = _
  rw [if_pos ⟨h1, h2⟩]
theorem lend27 {B : Bx} {x : Nat} (hx : x < 26) : lendN B x 27 = lendN B x 26 := by
  refine lend_eq (fun h => ?_)
  have h1 := h.1
  unfold wd at h1
  rw [if_neg (by omega), if_neg (by omega), if_pos rfl] at h1
  split at h1
  · omega
  · split at h1
    · omega
    · split at h1 <;> omega
theorem lendV_ne {B : Bx} {x n : Nat} (h : ¬ B n = []) (e : lendN B x (n + 1) = n) : lendV B x (n + 1) = nI n := by
  unfold lendV
  rw [e, if_neg h]
theorem lendV_eq {B : Bx} {x n : Nat} (e : lendN B x (n + 1) = lendN B x n) : lendV B x (n + 1) = lendV B x n := by
  unfold lendV
  rw [e]
set_option maxRecDepth 20000 in
set_option maxHeartbeats 1000000 in
theorem l_X5_lender {c : Nat → VC} {g : VG} {n tl th : Int32} {f : Nat → Int32} {B : Bx} (hO : RO c n tl th) (hA : AA c f) (hB : BoxR f B) {x : Nat} (hx : x < 27) (hE : B x = []) : ∀ (m i : Nat) (o4 : Option Value), i ≤ 26 → 26 < i + m → Xm M_X5_lender 4 [some (.ref 456), some (.int (nI x)), some (.int (lendV B x i)), some (.int (nI i)), o4] [] (g, c) (Rt (.int (lendV B x 26)) (g, c)) := by
  have h250 := hB.le
  intro m
  induction m with
  | zero => intro i o4 z1 z2; omega
  | succ m ih =>
    intro i o4 z1 z2
    refine x_iload_n dX5_lender_4 rfl ?_
    refine x_bipush (nI 26) dX5_lender_5 (by decide) ?_
    refine x_icmp_ge 79 dX5_lender_7 (by decide) (fun c7 => ?_) (fun c7 => ?_)
    · have e1 : i = 26 := by have := (nI_leI (by omega) (by omega)).mp c7; omega
      subst e1
      refine x_iload_n dX5_lender_79 rfl ?_
      refine x_ireturn dX5_lender_80 ?_
      exact ⟨rfl, rfl⟩
    · have hi : i < 26 := by
        by_cases q : i < 26
        · exact q
        · exact absurd ((nI_leI (by omega) (by omega)).mpr (by omega)) c7
      have hwi := wd_lt i
      have hwx := wd_lt x
      have hsi := SB_le (B := B) (b := i) (by omega)
      have hln : lendN B x i < 27 := lendN_lt hx (by omega)
      have hsl := SB_le (B := B) hln
      refine x_iload_n dX5_lender_10 rfl ?_
      refine x_cs1 dX5_lender_11 rfl ?_
      refine Cm.rt (s_X5_widthOf (by omega)) ?_
      refine x_iload_n dX5_lender_14 rfl ?_
      refine x_cs1 dX5_lender_15 rfl ?_
      refine Cm.rt (s_X5_widthOf hx) ?_
      refine x_icmp_ne 39 dX5_lender_18 (by decide) (fun c18 => ?_) (fun c18 => ?_)
      · have hne : ¬ (wd i = wd x ∧ (B (lendN B x i)).length < (B i).length) := fun z => c18 (by rw [z.1])
        refine x_iconst (nI 0) dX5_lender_39 (by decide) ?_
        refine x_istore_4 dX5_lender_40 rfl ?_
        refine x_iload dX5_lender_42 rfl ?_
        refine x_if_eq 71 dX5_lender_44 (by decide) (fun c44 => ?_) (fun c44 => ?_)
        · refine x_iload_n dX5_lender_71 rfl ?_
          refine x_istore_n2 dX5_lender_72 rfl ?_
          refine x_iincN_3 (1) dX5_lender_73 (by decide) rfl ?_
          refine x_goto 4 dX5_lender_76 (by decide) ?_
          first
            | (have e9 := lendV_ne hEi (lend_n hwe hgt)
               rw [← e9]
               exact ih (i + 1) _ (by omega) (by omega))
            | (have e9 := lendV_eq (lend_eq hne)
               rw [← e9]
               exact ih (i + 1) _ (by omega) (by omega))
            | (have e9 := lendV_eq (lend_eq hne)
               rw [← hLv, ← e9]
               exact ih (i + 1) _ (by omega) (by omega))
        · exact absurd rfl c44
      · have hwe : wd i = wd x := (nI_eq (by omega) (by omega)).mp c18
        refine x_aload_n dX5_lender_21 rfl ?_
        refine x_getfield dX5_lender_22 rfl (by decide) (by first | assumption | (simp (disch := omega) only [up_s, up_n]; first | assumption | rfl)) rfl ?_
        refine x_sipush (nI 500) dX5_lender_25 (by decide) ?_
        refine x_iload_n dX5_lender_28 rfl ?_
        refine x_iaddN dX5_lender_29 ?_
        refine x_ialoadN dX5_lender_30 (by first | assumption | (simp (disch := omega) only [up_s, up_n]; first | assumption | rfl)) (by omega) (by omega) ?_
        refine x_iconst (-1) dX5_lender_31 (by decide) ?_
        refine x_icmp_eq 39 dX5_lender_32 (by decide) (fun c32 => ?_) (fun c32 => ?_)
        · have hEi := (hB.topE (by omega)).mp c32
          have hne : ¬ (wd i = wd x ∧ (B (lendN B x i)).length < (B i).length) := fun z => by
            have z2 := z.2
            rw [hEi] at z2
            exact absurd z2 (Nat.not_lt_zero _)
          refine x_iconst (nI 0) dX5_lender_39 (by decide) ?_
          refine x_istore_4 dX5_lender_40 rfl ?_
          refine x_iload dX5_lender_42 rfl ?_
          refine x_if_eq 71 dX5_lender_44 (by decide) (fun c44 => ?_) (fun c44 => ?_)
          · refine x_iload_n dX5_lender_71 rfl ?_
            refine x_istore_n2 dX5_lender_72 rfl ?_
            refine x_iincN_3 (1) dX5_lender_73 (by decide) rfl ?_
            refine x_goto 4 dX5_lender_76 (by decide) ?_
            first
              | (have e9 := lendV_ne hEi (lend_n hwe hgt)
                 rw [← e9]
                 exact ih (i + 1) _ (by omega) (by omega))
              | (have e9 := lendV_eq (lend_eq hne)
                 rw [← e9]
                 exact ih (i + 1) _ (by omega) (by omega))
              | (have e9 := lendV_eq (lend_eq hne)
                 rw [← hLv, ← e9]
                 exact ih (i + 1) _ (by omega) (by omega))
          · exact absurd rfl c44
        · have hEi : ¬ B i = [] := fun z => c32 ((hB.topE (by omega)).mpr z)
          refine x_iconst (nI 1) dX5_lender_35 (by decide) ?_
          refine x_goto 40 dX5_lender_36 (by decide) ?_
          refine x_istore_4 dX5_lender_40 rfl ?_
          refine x_iload dX5_lender_42 rfl ?_
          refine x_if_eq 71 dX5_lender_44 (by decide) (fun c44 => ?_) (fun c44 => ?_)
          · exact absurd c44 (by decide)
          · refine x_iload_n dX5_lender_47 rfl ?_
            refine x_iconst (-1) dX5_lender_48 (by decide) ?_
            refine x_icmp_eq 67 dX5_lender_49 (by decide) (fun c49 => ?_) (fun c49 => ?_)
            · have hLe : B (lendN B x i) = [] := by
                by_cases q : B (lendN B x i) = []
                · exact q
                · unfold lendV at c49; rw [if_neg q] at c49; exact absurd c49 (m1_ne (by omega))
              have hgt : (B (lendN B x i)).length < (B i).length := by rw [hLe]; exact List.length_pos_iff.mpr hEi
              refine x_iload_n dX5_lender_67 rfl ?_
              refine x_goto 72 dX5_lender_68 (by decide) ?_
              refine x_istore_n2 dX5_lender_72 rfl ?_
              refine x_iincN_3 (1) dX5_lender_73 (by decide) rfl ?_
              refine x_goto 4 dX5_lender_76 (by decide) ?_
              first
                | (have e9 := lendV_ne hEi (lend_n hwe hgt)
                   rw [← e9]
                   exact ih (i + 1) _ (by omega) (by omega))
                | (have e9 := lendV_eq (lend_eq hne)
                   rw [← e9]
                   exact ih (i + 1) _ (by omega) (by omega))
                | (have e9 := lendV_eq (lend_eq hne)
                   rw [← hLv, ← e9]
                   exact ih (i + 1) _ (by omega) (by omega))
            · have hLv : lendV B x i = nI (lendN B x i) := by
                by_cases q : B (lendN B x i) = []
                · exact absurd (by unfold lendV; rw [if_pos q]) c49
                · unfold lendV; rw [if_neg q]
              refine x_aload_n dX5_lender_52 rfl ?_
              refine x_iload_n dX5_lender_53 rfl ?_
              refine x_iconst (-1) dX5_lender_54 (by decide) ?_
              refine x_cv3 dX5_lender_55 rfl (by first | assumption | (simp (disch := omega) only [up_s, up_n]; first | assumption | rfl)) rfl ?_
              refine Cm.rt (s_X5_countIn_n hO hA hB (by omega)) ?_
              refine x_aload_n dX5_lender_58 rfl ?_
              refine x_iload_n dX5_lender_59 rfl ?_
              refine x_iconst (-1) dX5_lender_60 (by decide) ?_
              refine x_cv3 dX5_lender_61 rfl (by first | assumption | (simp (disch := omega) only [up_s, up_n]; first | assumption | rfl)) rfl ?_
              rw [hLv]
              refine Cm.rt (s_X5_countIn_n hO hA hB hln) ?_
              refine x_icmp_le 71 dX5_lender_64 (by decide) (fun c64 => ?_) (fun c64 => ?_)
              · have hle := (nI_leI (by omega) (by omega)).mp c64
                have hne : ¬ (wd i = wd x ∧ (B (lendN B x i)).length < (B i).length) := fun z => by have := z.2; omega
                refine x_iload_n dX5_lender_71 rfl ?_
                refine x_istore_n2 dX5_lender_72 rfl ?_
                refine x_iincN_3 (1) dX5_lender_73 (by decide) rfl ?_
                refine x_goto 4 dX5_lender_76 (by decide) ?_
                first
                  | (have e9 := lendV_ne hEi (lend_n hwe hgt)
                     rw [← e9]
                     exact ih (i + 1) _ (by omega) (by omega))
                  | (have e9 := lendV_eq (lend_eq hne)
                     rw [← e9]
                     exact ih (i + 1) _ (by omega) (by omega))
                  | (have e9 := lendV_eq (lend_eq hne)
                     rw [← hLv, ← e9]
                     exact ih (i + 1) _ (by omega) (by omega))
              · have hgt : (B (lendN B x i)).length < (B i).length := by
                  by_cases q : (B (lendN B x i)).length < (B i).length
                  · exact q
                  · exact absurd ((nI_leI (by omega) (by omega)).mpr (by omega)) c64
                refine x_iload_n dX5_lender_67 rfl ?_
                refine x_goto 72 dX5_lender_68 (by decide) ?_
                refine x_istore_n2 dX5_lender_72 rfl ?_
                refine x_iincN_3 (1) dX5_lender_73 (by decide) rfl ?_
                refine x_goto 4 dX5_lender_76 (by decide) ?_
                first
                  | (have e9 := lendV_ne hEi (lend_n hwe hgt)
                     rw [← e9]
                     exact ih (i + 1) _ (by omega) (by omega))
                  | (have e9 := lendV_eq (lend_eq hne)
                     rw [← e9]
                     exact ih (i + 1) _ (by omega) (by omega))
                  | (have e9 := lendV_eq (lend_eq hne)
                     rw [← hLv, ← e9]
                     exact ih (i + 1) _ (by omega) (by omega))
theorem lendV0 {B : Bx} {x : Nat} (h : B x = []) : lendV B x 0 = -1 := by
  unfold lendV
  show (if B x = [] then (-1 : Int32) else nI x) = -1
  rw [if_pos h]
set_option maxRecDepth 20000 in
set_option maxHeartbeats 1000000 in
theorem s_X5_lender {c : Nat → VC} {g : VG} {n tl th : Int32} {f : Nat → Int32} {B : Bx} (hO : RO c n tl th) (hA : AA c f) (hB : BoxR f B) {x : Nat} (hx : x < 27) (hE : B x = []) : Cm k_X5_lender [.ref 456, .int (nI x)] (g, c) (Rt (.int (lendV B x 26)) (g, c)) := by
  refine Cm.in (M := M_X5_lender) (ls := [some (.ref 456), some (.int (nI x)), none, none, none]) rfl rfl ?_
  refine x_iconst (-1) dX5_lender_0 (by decide) ?_
  refine x_istore_n2 dX5_lender_1 rfl ?_
  refine x_iconst (nI 0) dX5_lender_2 (by decide) ?_
  refine x_istore_n3 dX5_lender_3 rfl ?_
  have := l_X5_lender (g := g) hO hA hB hx hE 27 0 none (by omega) (by omega)
  rw [lendV0 hE] at this
  exact this
