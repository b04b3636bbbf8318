/-! THE REFERENCE: its array, its chains of sorts -/
abbrev RO (c : Nat → VC) (n tl th : Int32) : Prop := c 456 = cO 5 [.ref 457, .ref 458, .ref 459, .int n, .ref 460, .int tl, .ref 461, .int th, .ref 462, .ref 463]
abbrev AA (c : Nat → VC) (f : Nat → Int32) : Prop := c 457 = cI 1542 f
/-- from the pointer t on, the sorts of a box from the top -/
def Ch (f : Nat → Int32) : Int32 → List Nat → Prop
  | t, [] => t = -1
  | t, s :: l => t = nI s ∧ Ch f (f (250 + s)) l
theorem Ch.fr {f f' : Nat → Int32} : ∀ {l : List Nat} {t : Int32}, Ch f t l → (∀ s ∈ l, f' (250 + s) = f (250 + s)) → Ch f' t l
  | [], _, h, _ => h
  | s :: l, t, h, hf => ⟨h.1, by rw [hf s List.mem_cons_self]; exact Ch.fr h.2 (fun s' hs' => hf s' (List.mem_cons_of_mem _ hs'))⟩
theorem Ch.skip {f f' : Nat → Int32} {a s : Nat} {q : List Nat} (hfa : f' (250 + a) = f (250 + s)) : ∀ {p : List Nat} {t : Int32}, Ch f t (p ++ a :: s :: q) → (∀ d ∈ p, f' (250 + d) = f (250 + d)) → (∀ d ∈ q, f' (250 + d) = f (250 + d)) → Ch f' t (p ++ a :: q)
  | [], t, h, _, hq => ⟨h.1, by rw [hfa]; exact Ch.fr h.2.2 hq⟩
  | d :: p, t, h, hp, hq => ⟨h.1, by rw [hp d List.mem_cons_self]; exact Ch.skip hfa h.2 (fun e he => hp e (List.mem_cons_of_mem _ he)) hq⟩
def BoxS (f : Nat → Int32) (B : Bx) (ss : Nat → List Nat) : Prop := (∀ b, b < 27 → Ch f (f (500 + b)) (ss b)) ∧ (∀ b, b < 27 → (ss b).map f = (B b).reverse.map nI) ∧ (∀ b, b < 27 → ∀ s ∈ ss b, s < 250) ∧ (∀ b, b < 27 → (ss b).Nodup) ∧ (∀ b d, b < 27 → d < 27 → b ≠ d → ∀ s ∈ ss b, s ∉ ss d) ∧ (∀ s, s < 250 → (∀ b, b < 27 → s ∉ ss b) → f s = -1) ∧ ∀ b, b < 27 → ∀ x ∈ B b, x < 27
def BoxR (f : Nat → Int32) (B : Bx) : Prop := ∃ ss, BoxS f B ss
theorem BoxR.fr {f f' : Nat → Int32} {B : Bx} (h : BoxR f B) (hf : ∀ j, j < 527 → f' j = f j) : BoxR f' B := by
  obtain ⟨ss, h1, h2, h3, h4, h5, h6, h7⟩ := h
  refine ⟨ss, fun b hb => ?_, fun b hb => ?_, h3, h4, h5, fun s hs hn => by rw [hf s (by omega)]; exact h6 s hs hn, h7⟩
  · rw [hf _ (by omega)]
    exact (h1 b hb).fr (fun s hs => hf _ (by have := h3 b hb s hs; omega))
  · rw [← h2 b hb]
    exact List.map_congr_left (fun s hs => hf _ (by have := h3 b hb s hs; omega))
theorem BoxS.len {f : Nat → Int32} {B : Bx} {ss : Nat → List Nat} (h : BoxS f B ss) {b : Nat} (hb : b < 27) : (ss b).length = (B b).length := by
  have := congrArg List.length (h.2.1 b hb)
  simpa using this
theorem BoxS.used {f : Nat → Int32} {B : Bx} {ss : Nat → List Nat} (h : BoxS f B ss) {b s : Nat} (hb : b < 27) (hs : s ∈ ss b) : ¬ f s = -1 := by
  have h1 : f s ∈ (ss b).map f := List.mem_map_of_mem hs
  rw [h.2.1 b hb] at h1
  obtain ⟨x, hx, e⟩ := List.mem_map.mp h1
  rw [← e]
  exact ne_m1 (h.2.2.2.2.2.2 b hb x (List.mem_reverse.mp hx))
theorem hole : ∀ (n : Nat) (l : List Nat), (∀ s, s < n → s ∈ l) → n ≤ l.length
  | 0, _, _ => Nat.zero_le _
  | n + 1, l, h => by
    have h1 : n ∈ l := h n (Nat.lt_succ_self n)
    have h2 := hole n (l.erase n) (fun s hs => (List.mem_erase_of_ne (by omega)).mpr (h s (by omega)))
    rw [List.length_erase_of_mem h1] at h2
    have h3 := List.length_pos_of_mem h1
    omega
def allS (ss : Nat → List Nat) : Nat → List Nat
  | 0 => []
  | n + 1 => allS ss n ++ ss n
theorem mem_allS {ss : Nat → List Nat} {s : Nat} : ∀ {n : Nat}, s ∈ allS ss n ↔ ∃ b, b < n ∧ s ∈ ss b
  | 0 => by simp [allS]
  | n + 1 => by
    show s ∈ allS ss n ++ ss n ↔ _
    rw [List.mem_append, mem_allS]
    constructor
    · rintro (⟨b, h1, h2⟩ | h)
      · exact ⟨b, by omega, h2⟩
      · exact ⟨n, by omega, h⟩
    · rintro ⟨b, h1, h2⟩
      by_cases e : b = n
      · subst e; exact Or.inr h2
      · exact Or.inl ⟨b, by omega, h2⟩
theorem BoxS.free {f : Nat → Int32} {B : Bx} {ss : Nat → List Nat} (h : BoxS f B ss) (hs : SB B < 250) : ∃ s, s < 250 ∧ f s = -1 := by
  by_cases q : ∃ s, s < 250 ∧ f s = -1
  · exact q
  · have hall : ∀ s, s < 250 → s ∈ allS ss 27 := by
      intro s hs1
      by_cases z : s ∈ allS ss 27
      · exact z
      · refine absurd ⟨s, hs1, h.2.2.2.2.2.1 s hs1 (fun b hb hm => z (mem_allS.mpr ⟨b, hb, hm⟩))⟩ q
    have h1 := hole 250 _ hall
    have h2 : ∀ n, n ≤ 27 → (allS ss n).length = sbN B n := by
      intro n
      induction n with
      | zero => intro _; rfl
      | succ n ih =>
        intro hn
        show (allS ss n ++ ss n).length = sbN B n + (B n).length
        rw [List.length_append, ih (by omega), h.len (by omega)]
    have h3 := h2 27 (Nat.le_refl _)
    unfold SB at hs
    omega
theorem BoxS.puts {f : Nat → Int32} {B : Bx} {ss : Nat → List Nat} {b x i : Nat} (h : BoxS f B ss) (hb : b < 27) (hx : x < 27) (hi : i < 250) (hf : f i = -1) : BoxS (upd (upd (upd f i (nI x)) (250 + i) (f (500 + b))) (500 + b) (nI i)) (pb B b x) (uf ss b (i :: ss b)) := by
  have hni : ∀ d, d < 27 → i ∉ ss d := fun d hd hm => h.used hd hm hf
  obtain ⟨h1, h2, h3, h4, h5, h6, h7⟩ := h
  have e1 : ∀ j, j < 250 → j ≠ i → upd (upd (upd f i (nI x)) (250 + i) (f (500 + b))) (500 + b) (nI i) j = f j := fun j hj hne => by rw [pk_un (by omega), pk_un (by omega), pk_un hne]
  have e2 : upd (upd (upd f i (nI x)) (250 + i) (f (500 + b))) (500 + b) (nI i) i = nI x := by rw [pk_un (by omega), pk_un (by omega), pk_us]
  have e3 : ∀ j, j < 250 → j ≠ i → upd (upd (upd f i (nI x)) (250 + i) (f (500 + b))) (500 + b) (nI i) (250 + j) = f (250 + j) := fun j hj hne => by rw [pk_un (by omega), pk_un (by omega), pk_un (by omega)]
  have e4 : upd (upd (upd f i (nI x)) (250 + i) (f (500 + b))) (500 + b) (nI i) (250 + i) = f (500 + b) := by rw [pk_un (by omega), pk_us]
  have e5 : ∀ d, d < 27 → d ≠ b → upd (upd (upd f i (nI x)) (250 + i) (f (500 + b))) (500 + b) (nI i) (500 + d) = f (500 + d) := fun d hd hne => by rw [pk_un (by omega), pk_un (by omega), pk_un (by omega)]
  have e6 : upd (upd (upd f i (nI x)) (250 + i) (f (500 + b))) (500 + b) (nI i) (500 + b) = nI i := pk_us
  generalize upd (upd (upd f i (nI x)) (250 + i) (f (500 + b))) (500 + b) (nI i) = f9 at e1 e2 e3 e4 e5 e6 ⊢
  have hch : ∀ d, d < 27 → Ch f9 (f (500 + d)) (ss d) := fun d hd => (h1 d hd).fr (fun s hs => e3 s (h3 d hd s hs) (fun q => hni d hd (q ▸ hs)))
  have hmp : ∀ d, d < 27 → (ss d).map f9 = (B d).reverse.map nI := fun d hd => by
    rw [← h2 d hd]
    exact List.map_congr_left (fun s hs => e1 s (h3 d hd s hs) (fun q => hni d hd (q ▸ hs)))
  refine ⟨fun d hd => ?_, fun d hd => ?_, fun d hd => ?_, fun d hd => ?_, fun d e hd he hde => ?_, fun s hs hn => ?_, fun d hd => ?_⟩
  · by_cases q : d = b
    · subst q
      rw [uf_s, e6]
      exact ⟨rfl, by rw [e4]; exact hch d hd⟩
    · rw [uf_n q, e5 d hd q]; exact hch d hd
  · by_cases q : d = b
    · subst q
      unfold pb
      rw [uf_s, uf_s, List.map_cons, e2, hmp d hd, List.reverse_append]
      rfl
    · unfold pb
      rw [uf_n q, uf_n q]; exact hmp d hd
  · by_cases q : d = b
    · subst q
      rw [uf_s]
      intro s hs
      rcases List.mem_cons.mp hs with z | z
      · rw [z]; exact hi
      · exact h3 d hd s z
    · rw [uf_n q]; exact h3 d hd
  · by_cases q : d = b
    · subst q
      rw [uf_s]
      exact List.nodup_cons.mpr ⟨hni d hd, h4 d hd⟩
    · rw [uf_n q]; exact h4 d hd
  · intro s hs
    by_cases q : d = b
    · subst q
      rw [uf_s] at hs
      rw [uf_n (Ne.symm hde)]
      rcases List.mem_cons.mp hs with z | z
      · rw [z]; exact hni e he
      · exact h5 d e hd he hde s z
    · rw [uf_n q] at hs
      by_cases q2 : e = b
      · subst q2
        rw [uf_s]
        intro hm
        rcases List.mem_cons.mp hm with z | z
        · rw [z] at hs; exact hni d hd hs
        · exact h5 d e hd he hde s hs z
      · rw [uf_n q2]; exact h5 d e hd he hde s hs
  · have hne : s ≠ i := fun q => hn b hb (by rw [uf_s, q]; exact List.mem_cons_self)
    rw [e1 s hs hne]
    refine h6 s hs (fun d hd hm => hn d hd ?_)
    by_cases q : d = b
    · subst q; rw [uf_s]; exact List.mem_cons_of_mem _ hm
    · rw [uf_n q]; exact hm
  · by_cases q : d = b
    · subst q
      unfold pb
      rw [uf_s]
      intro y hy
      rcases List.mem_append.mp hy with z | z
      · exact h7 d hd y z
      · rw [List.mem_singleton.mp z]; exact hx
    · unfold pb
      rw [uf_n q]; exact h7 d hd
/-- a sort leaves a chain: q1 ++ s :: q2 becomes q1 ++ q2 -/
theorem BoxS.cut {f f9 : Nat → Int32} {B : Bx} {ss : Nat → List Nat} {b s : Nat} {q1 q2 : List Nat} {X Y : List Nat} {x : Nat} (h : BoxS f B ss) (hb : b < 27) (hss : ss b = q1 ++ s :: q2) (hB : B b = X ++ x :: Y) (hlen : q2.length = X.length) (hch : Ch f9 (f9 (500 + b)) (q1 ++ q2)) (e1 : ∀ j, j < 250 → j ≠ s → f9 j = f j) (e2 : f9 s = -1) (e3 : ∀ d, d < 27 → d ≠ b → f9 (500 + d) = f (500 + d)) (e4 : ∀ d, d < 27 → d ≠ b → ∀ t ∈ ss d, f9 (250 + t) = f (250 + t)) : BoxS f9 (uf B b (X ++ Y)) (uf ss b (q1 ++ q2)) := by
  obtain ⟨h1, h2, h3, h4, h5, h6, h7⟩ := h
  have hnd := h4 b hb
  rw [hss] at hnd
  have hs1 : s ∉ q1 ++ q2 := by
    intro hm
    have hp : (s :: (q1 ++ q2)).Nodup := (List.Perm.nodup_iff (List.perm_middle)).mp hnd
    exact (List.nodup_cons.mp hp).1 hm
  have hnd2 : (q1 ++ q2).Nodup := (List.nodup_cons.mp ((List.Perm.nodup_iff (List.perm_middle)).mp hnd)).2
  have hsub : ∀ t, t ∈ q1 ++ q2 → t ∈ ss b := fun t ht => by
    rw [hss]
    rcases List.mem_append.mp ht with z | z
    · exact List.mem_append_left _ z
    · exact List.mem_append_right _ (List.mem_cons_of_mem _ z)
  have hsm : s ∈ ss b := by rw [hss]; simp
  have hmap := h2 b hb
  rw [hss, hB, List.reverse_append, List.reverse_cons, List.append_assoc, List.map_append, List.map_append] at hmap
  have hl1 : (q1.map f).length = (Y.reverse.map nI).length := by
    have h8 := congrArg List.length hmap
    simp at h8 ⊢
    omega
  obtain ⟨g1, g2⟩ := List.append_inj hmap hl1
  have g3 : q2.map f = X.reverse.map nI := by
    have g4 : f s :: q2.map f = nI x :: X.reverse.map nI := by simpa using g2
    exact (List.cons.inj g4).2
  have hm9 : ∀ l : List Nat, (∀ t ∈ l, t < 250 ∧ t ≠ s) → l.map f9 = l.map f := fun l hl => List.map_congr_left (fun t ht => e1 t (hl t ht).1 (hl t ht).2)
  refine ⟨fun d hd => ?_, fun d hd => ?_, fun d hd => ?_, fun d hd => ?_, fun d e hd he hde => ?_, fun t ht hn => ?_, fun d hd => ?_⟩
  · by_cases q : d = b
    · subst q; rw [uf_s]; exact hch
    · rw [uf_n q, e3 d hd q]; exact (h1 d hd).fr (e4 d hd q)
  · by_cases q : d = b
    · subst q
      rw [uf_s, uf_s, hm9 _ (fun t ht => ⟨h3 d hd t (hsub t ht), fun z => hs1 (z ▸ ht)⟩), List.map_append, g1, g3, List.reverse_append, List.map_append]
    · rw [uf_n q, uf_n q, hm9 _ (fun t ht => ⟨h3 d hd t ht, fun z => h5 b d hb hd (Ne.symm q) s hsm (z ▸ ht)⟩)]
      exact h2 d hd
  · by_cases q : d = b
    · subst q; rw [uf_s]; exact fun t ht => h3 d hd t (hsub t ht)
    · rw [uf_n q]; exact h3 d hd
  · by_cases q : d = b
    · subst q; rw [uf_s]; exact hnd2
    · rw [uf_n q]; exact h4 d hd
  · intro t ht
    by_cases q : d = b
    · subst q
      rw [uf_s] at ht
      rw [uf_n (Ne.symm hde)]
      exact h5 d e hd he hde t (hsub t ht)
    · rw [uf_n q] at ht
      by_cases q9 : e = b
      · subst q9
        rw [uf_s]
        exact fun hm => h5 d e hd he hde t ht (hsub t hm)
      · rw [uf_n q9]; exact h5 d e hd he hde t ht
  · by_cases q : t = s
    · rw [q]; exact e2
    · rw [e1 t ht q]
      refine h6 t ht (fun d hd hm => ?_)
      by_cases q9 : d = b
      · subst q9
        refine hn d hd ?_
        rw [uf_s]
        rw [hss] at hm
        rcases List.mem_append.mp hm with z | z
        · exact List.mem_append_left _ z
        · rcases List.mem_cons.mp z with z2 | z2
          · exact absurd z2 q
          · exact List.mem_append_right _ z2
      · exact hn d hd (by rw [uf_n q9]; exact hm)
  · by_cases q : d = b
    · subst q
      rw [uf_s]
      intro y hy
      refine h7 d hd y ?_
      rw [hB]
      rcases List.mem_append.mp hy with z | z
      · exact List.mem_append_left _ z
      · exact List.mem_append_right _ (List.mem_cons_of_mem _ z)
    · rw [uf_n q]; exact h7 d hd
set_option maxRecDepth 20000 in
set_option maxHeartbeats 1000000 in
theorem l_X5_puts {c : Nat → VC} {g : VG} {n tl th : Int32} {f : Nat → Int32} {B : Bx} (hO : RO c n tl th) (hA : AA c f) (hB : BoxR f B) {b x s0 : Nat} (hb : b < 27) (hx : x < 27) (h0 : s0 < 250) (hf0 : f s0 = -1) : ∀ (m i : Nat), i ≤ s0 → s0 < i + m → Xm M_X5_puts 2 [some (.ref 456), some (.int (nI b)), some (.int (nI x)), some (.int (nI i))] [] (g, c) (Ev g (fun c' => ∃ f', c' = up c 457 (cI 1542 f') ∧ BoxR f' (pb B b x) ∧ ∀ j, 527 ≤ j → f' j = f j)) := by
  intro m
  induction m with
  | zero => intro i z1 z2; omega
  | succ m ih =>
    intro i z1 z2
    refine x_aload_n dX5_puts_2 rfl ?_
    refine x_getfield dX5_puts_3 rfl (by decide) (by first | assumption | (simp (disch := omega) only [up_s, up_n]; first | assumption | rfl)) rfl ?_
    refine x_iconst (nI 0) dX5_puts_6 (by decide) ?_
    refine x_iload_n dX5_puts_7 rfl ?_
    refine x_iaddN dX5_puts_8 ?_
    refine x_ialoadN dX5_puts_9 (by first | assumption | (simp (disch := omega) only [up_s, up_n]; first | assumption | rfl)) (by omega) (by omega) ?_
    rw [Nat.zero_add]
    refine x_iconst (-1) dX5_puts_10 (by decide) ?_
    refine x_icmp_eq 20 dX5_puts_11 (by decide) (fun c11 => ?_) (fun c11 => ?_)
    · refine x_aload_n dX5_puts_20 rfl ?_
      refine x_getfield dX5_puts_21 rfl (by decide) (by first | assumption | (simp (disch := omega) only [up_s, up_n]; first | assumption | rfl)) rfl ?_
      refine x_iconst (nI 0) dX5_puts_24 (by decide) ?_
      refine x_iload_n dX5_puts_25 rfl ?_
      refine x_iaddN dX5_puts_26 ?_
      refine x_iload_n dX5_puts_27 rfl ?_
      refine x_iastoreN dX5_puts_28 (by first | assumption | (simp (disch := omega) only [up_s, up_n]; first | assumption | rfl)) (by omega) (by omega) ?_
      rw [Nat.zero_add]
      refine x_aload_n dX5_puts_29 rfl ?_
      refine x_getfield dX5_puts_30 rfl (by decide) (by first | assumption | (simp (disch := omega) only [up_s, up_n]; first | assumption | rfl)) rfl ?_
      refine x_sipush (nI 250) dX5_puts_33 (by decide) ?_
      refine x_iload_n dX5_puts_36 rfl ?_
      refine x_iaddN dX5_puts_37 ?_
      refine x_aload_n dX5_puts_38 rfl ?_
      refine x_getfield dX5_puts_39 rfl (by decide) (by first | assumption | (simp (disch := omega) only [up_s, up_n]; first | assumption | rfl)) rfl ?_
      refine x_sipush (nI 500) dX5_puts_42 (by decide) ?_
      refine x_iload_n dX5_puts_45 rfl ?_
      refine x_iaddN dX5_puts_46 ?_
      refine x_ialoadN dX5_puts_47 (by first | assumption | (simp (disch := omega) only [up_s, up_n]; first | assumption | rfl)) (by omega) (by omega) ?_
      rw [pk_un (by omega)]
      refine x_iastoreN dX5_puts_48 (by first | assumption | (simp (disch := omega) only [up_s, up_n]; first | assumption | rfl)) (by omega) (by omega) ?_
      refine x_aload_n dX5_puts_49 rfl ?_
      refine x_getfield dX5_puts_50 rfl (by decide) (by first | assumption | (simp (disch := omega) only [up_s, up_n]; first | assumption | rfl)) rfl ?_
      refine x_sipush (nI 500) dX5_puts_53 (by decide) ?_
      refine x_iload_n dX5_puts_56 rfl ?_
      refine x_iaddN dX5_puts_57 ?_
      refine x_iload_n dX5_puts_58 rfl ?_
      refine x_iastoreN dX5_puts_59 (by first | assumption | (simp (disch := omega) only [up_s, up_n]; first | assumption | rfl)) (by omega) (by omega) ?_
      refine x_return dX5_puts_60 ?_
      obtain ⟨ss, hss⟩ := hB
      refine ⟨_, rfl, rfl, _, ?_, ⟨_, hss.puts hb hx (i := i) (by omega) c11⟩, fun j hj => by rw [pk_un (by omega), pk_un (by omega), pk_un (by omega)]⟩
      funext j
      unfold up
      by_cases q : j = 457
      · simp [q]
      · simp [q]
    · refine x_iincN_3 (1) dX5_puts_14 (by decide) rfl ?_
      refine x_goto 2 dX5_puts_17 (by decide) ?_
      refine ih (i + 1) ?_ (by omega)
      by_cases q : i = s0
      · subst q
        exact absurd hf0 c11
      · omega
set_option maxRecDepth 20000 in
set_option maxHeartbeats 1000000 in
theorem s_X5_puts {c : Nat → VC} {g : VG} {n tl th : Int32} {f : Nat → Int32} {B : Bx} (hO : RO c n tl th) (hA : AA c f) (hB : BoxR f B) {b x : Nat} (hb : b < 27) (hx : x < 27) (hs : SB B < 250) : Cm k_X5_puts [.ref 456, .int (nI b), .int (nI x)] (g, c) (Ev g (fun c' => ∃ f', c' = up c 457 (cI 1542 f') ∧ BoxR f' (pb B b x) ∧ ∀ j, 527 ≤ j → f' j = f j)) := by
  obtain ⟨ss, hss⟩ := id hB
  obtain ⟨s0, h01, h02⟩ := hss.free hs
  refine Cm.in (M := M_X5_puts) (ls := [some (.ref 456), some (.int (nI b)), some (.int (nI x)), none]) rfl rfl ?_
  refine x_iconst (nI 0) dX5_puts_0 (by decide) ?_
  refine x_istore_n3 dX5_puts_1 rfl ?_
  exact l_X5_puts hO hA hB hb hx h01 h02 251 0 (Nat.zero_le _) (by omega)
theorem up_up {c : Nat → VC} {a : Nat} {x y : VC} : up (up c a x) a y = up c a y := by
  funext j
  unfold up
  by_cases q : j = a
  · simp [q]
  · simp [q]
theorem BoxS.top {f : Nat → Int32} {B : Bx} {ss : Nat → List Nat} {b x : Nat} {l : List Nat} (h : BoxS f B ss) (hb : b < 27) (hB : B b = l ++ [x]) : ∃ s q, ss b = s :: q ∧ f s = nI x ∧ f (500 + b) = nI s ∧ Ch f (f (250 + s)) q ∧ s < 250 ∧ q.length = l.length := by
  have h2 := h.2.1 b hb
  have h1 := h.1 b hb
  have h3 := h.2.2.1 b hb
  rw [hB, List.reverse_append] at h2
  cases e : ss b with
  | nil => rw [e] at h2; simp at h2
  | cons s q =>
    rw [e] at h1 h2 h3
    have h4 : f s :: q.map f = nI x :: l.reverse.map nI := by simpa using h2
    have h5 := List.cons.inj h4
    refine ⟨s, q, rfl, h5.1, h1.1, h1.2, h3 s List.mem_cons_self, ?_⟩
    have h6 := congrArg List.length h5.2
    simpa using h6
set_option maxRecDepth 20000 in
set_option maxHeartbeats 1000000 in
theorem s_X5_takes {c : Nat → VC} {g : VG} {n tl th : Int32} {f : Nat → Int32} {B : Bx} (hO : RO c n tl th) (hA : AA c f) (hB : BoxR f B) {b x : Nat} {l : List Nat} (hb : b < 27) (hl : B b = l ++ [x]) : Cm k_X5_takes [.ref 456, .int (nI b)] (g, c) (Ei g (fun v c' => v = .int (nI x) ∧ ∃ f', c' = up c 457 (cI 1542 f') ∧ BoxR f' (uf B b l) ∧ ∀ j, 527 ≤ j → f' j = f j)) := by
  obtain ⟨ss, hss⟩ := id hB
  obtain ⟨s, q, g1, g2, g3, g4, g5, g6⟩ := hss.top hb hl
  refine Cm.in (M := M_X5_takes) (ls := [some (.ref 456), some (.int (nI b)), none, none]) rfl rfl ?_
  refine x_aload_n dX5_takes_0 rfl ?_
  refine x_getfield dX5_takes_1 rfl (by decide) (by first | assumption | (simp (disch := omega) only [up_s, up_n]; first | assumption | rfl)) rfl ?_
  refine x_sipush (nI 500) dX5_takes_4 (by decide) ?_
  refine x_iload_n dX5_takes_7 rfl ?_
  refine x_iaddN dX5_takes_8 ?_
  refine x_ialoadN dX5_takes_9 (by first | assumption | (simp (disch := omega) only [up_s, up_n]; first | assumption | rfl)) (by omega) (by omega) ?_
  rw [g3]
  refine x_istore_n2 dX5_takes_10 rfl ?_
  refine x_aload_n dX5_takes_11 rfl ?_
  refine x_getfield dX5_takes_12 rfl (by decide) (by first | assumption | (simp (disch := omega) only [up_s, up_n]; first | assumption | rfl)) rfl ?_
  refine x_iconst (nI 0) dX5_takes_15 (by decide) ?_
  refine x_iload_n dX5_takes_16 rfl ?_
  refine x_iaddN dX5_takes_17 ?_
  refine x_ialoadN dX5_takes_18 (by first | assumption | (simp (disch := omega) only [up_s, up_n]; first | assumption | rfl)) (by omega) (by omega) ?_
  rw [Nat.zero_add s, g2]
  refine x_istore_n3 dX5_takes_19 rfl ?_
  refine x_aload_n dX5_takes_20 rfl ?_
  refine x_getfield dX5_takes_21 rfl (by decide) (by first | assumption | (simp (disch := omega) only [up_s, up_n]; first | assumption | rfl)) rfl ?_
  refine x_sipush (nI 500) dX5_takes_24 (by decide) ?_
  refine x_iload_n dX5_takes_27 rfl ?_
  refine x_iaddN dX5_takes_28 ?_
  refine x_aload_n dX5_takes_29 rfl ?_
  refine x_getfield dX5_takes_30 rfl (by decide) (by first | assumption | (simp (disch := omega) only [up_s, up_n]; first | assumption | rfl)) rfl ?_
  refine x_sipush (nI 250) dX5_takes_33 (by decide) ?_
  refine x_iload_n dX5_takes_36 rfl ?_
  refine x_iaddN dX5_takes_37 ?_
  refine x_ialoadN dX5_takes_38 (by first | assumption | (simp (disch := omega) only [up_s, up_n]; first | assumption | rfl)) (by omega) (by omega) ?_
  refine x_iastoreN dX5_takes_39 (by first | assumption | (simp (disch := omega) only [up_s, up_n]; first | assumption | rfl)) (by omega) (by omega) ?_
  refine x_aload_n dX5_takes_40 rfl ?_
  refine x_getfield dX5_takes_41 rfl (by decide) (by first | assumption | (simp (disch := omega) only [up_s, up_n]; first | assumption | rfl)) rfl ?_
  refine x_iconst (nI 0) dX5_takes_44 (by decide) ?_
  refine x_iload_n dX5_takes_45 rfl ?_
  refine x_iaddN dX5_takes_46 ?_
  refine x_iconst (-1) dX5_takes_47 (by decide) ?_
  refine x_iastoreN dX5_takes_48 (by first | assumption | (simp (disch := omega) only [up_s, up_n]; first | assumption | rfl)) (by omega) (by omega) ?_
  rw [Nat.zero_add s]
  refine x_aload_n dX5_takes_49 rfl ?_
  refine x_getfield dX5_takes_50 rfl (by decide) (by first | assumption | (simp (disch := omega) only [up_s, up_n]; first | assumption | rfl)) rfl ?_
  refine x_sipush (nI 250) dX5_takes_53 (by decide) ?_
  refine x_iload_n dX5_takes_56 rfl ?_
  refine x_iaddN dX5_takes_57 ?_
  refine x_iconst (nI 0) dX5_takes_58 (by decide) ?_
  refine x_iastoreN dX5_takes_59 (by first | assumption | (simp (disch := omega) only [up_s, up_n]; first | assumption | rfl)) (by omega) (by omega) ?_
  refine x_iload_n dX5_takes_60 rfl ?_
  refine x_ireturn dX5_takes_61 ?_
  have hnd := hss.2.2.2.1 b hb
  rw [g1] at hnd
  have hsq := (List.nodup_cons.mp hnd).1
  have h3 := hss.2.2.1 b hb
  rw [g1] at h3
  have hcut := hss.cut (f9 := upd (upd (upd f (500 + b) (f (250 + s))) s (-1)) (250 + s) (nI 0)) (X := l) (Y := []) (q1 := []) (q2 := q) hb g1 hl g6 (by
    rw [pk_un (by omega), pk_un (by omega), pk_us]
    exact g4.fr (fun t ht => by
      have h31 := h3 t (List.mem_cons_of_mem _ ht)
      have hts : t ≠ s := fun z => hsq (z ▸ ht)
      rw [pk_un (by omega), pk_un (by omega), pk_un (by omega)])) (fun j hj hne => by rw [pk_un (by omega), pk_un hne, pk_un (by omega)]) (by rw [pk_un (by omega), pk_us]) (fun d hd hne => by rw [pk_un (by omega), pk_un (by omega), pk_un (by omega)]) (fun d hd hne t ht => by
      have h31 := hss.2.2.1 d hd t ht
      have hts : t ≠ s := fun z => hss.2.2.2.2.1 d b hd hb hne t ht (by rw [g1, z]; exact List.mem_cons_self)
      rw [pk_un (by omega), pk_un (by omega), pk_un (by omega)])
  rw [List.append_nil] at hcut
  refine ⟨_, _, rfl, rfl, rfl, _, ?_, ⟨_, hcut⟩, fun j hj => by rw [pk_un (by omega), pk_un (by omega), pk_un (by omega)]⟩
  rw [up_up, up_up]
set_option maxRecDepth 20000 in
set_option maxHeartbeats 1000000 in
theorem l_X5_countIn_n {c : Nat → VC} {g : VG} {n tl th : Int32} {f : Nat → Int32} (hO : RO c n tl th) (hA : AA c f) {b : Nat} : ∀ (r ls : List Nat) (m : Nat) (t : Int32), Ch f t r → r.map f = ls.map nI → (∀ s ∈ r, s < 250) → (∀ y ∈ ls, y < 27) → Xm M_X5_countIn 14 [some (.ref 456), some (.int (nI b)), some (.int (-1)), some (.int (nI m)), some (.int t)] [] (g, c) (Rt (.int (nI (m + ls.length))) (g, c)) := by
  intro r
  induction r with
  | nil =>
    intro ls m t h1 h2 h3 h4
    have e1 : t = -1 := h1
    have e2 : ls = [] := by cases ls with
      | nil => rfl
      | cons y ls => simp at h2
    subst e1; subst e2
    refine x_iload dX5_countIn_14 rfl ?_
    refine x_iconst (-1) dX5_countIn_16 (by decide) ?_
    refine x_icmp_eq 62 dX5_countIn_17 (by decide) (fun c17 => ?_) (fun c17 => absurd rfl c17)
    refine x_iload_n dX5_countIn_62 rfl ?_
    refine x_ireturn dX5_countIn_63 ?_
    exact ⟨rfl, rfl⟩
  | cons s r ih =>
    intro ls m t h1 h2 h3 h4
    obtain ⟨rfl, h1⟩ := h1
    obtain ⟨y, ls, rfl⟩ : ∃ y ls0, ls = y :: ls0 := by
      cases ls with
      | nil => simp at h2
      | cons y ls => exact ⟨y, ls, rfl⟩
    have h5 : f s :: r.map f = nI y :: ls.map nI := by simpa using h2
    have h6 := List.cons.inj h5
    have hs : s < 250 := h3 s List.mem_cons_self
    have hy : y < 27 := h4 y List.mem_cons_self
    have ih2 := ih ls (m + 1) (f (250 + s)) h1 h6.2 (fun s9 q9 => h3 s9 (List.mem_cons_of_mem _ q9)) (fun s9 q9 => h4 s9 (List.mem_cons_of_mem _ q9))
    refine x_iload dX5_countIn_14 rfl ?_
    refine x_iconst (-1) dX5_countIn_16 (by decide) ?_
    refine x_icmp_eq 62 dX5_countIn_17 (by decide) (fun c17 => ?_) (fun c17 => ?_)
    · exact absurd c17 (m1_ne (by omega))
    · refine x_iload_n dX5_countIn_20 rfl ?_
      refine x_iload_n dX5_countIn_21 rfl ?_
      refine x_iconst (-1) dX5_countIn_22 (by decide) ?_
      refine x_icmp_eq 39 dX5_countIn_23 (by decide) (fun c23 => ?_) (fun c23 => ?_)
      · refine x_iconst (nI 1) dX5_countIn_39 (by decide) ?_
        refine x_goto 44 dX5_countIn_40 (by decide) ?_
        refine x_iaddN dX5_countIn_44 ?_
        refine x_istore_n3 dX5_countIn_45 rfl ?_
        refine x_aload_n dX5_countIn_46 rfl ?_
        refine x_getfield dX5_countIn_47 rfl (by decide) (by first | assumption | (simp (disch := omega) only [up_s, up_n]; first | assumption | rfl)) rfl ?_
        refine x_sipush (nI 250) dX5_countIn_50 (by decide) ?_
        refine x_iload dX5_countIn_53 rfl ?_
        refine x_iaddN dX5_countIn_55 ?_
        refine x_ialoadN dX5_countIn_56 (by first | assumption | (simp (disch := omega) only [up_s, up_n]; first | assumption | rfl)) (by omega) (by omega) ?_
        refine x_istore_4 dX5_countIn_57 rfl ?_
        refine x_goto 14 dX5_countIn_59 (by decide) ?_
        rw [List.length_cons, show m + (ls.length + 1) = m + 1 + ls.length by omega]
        exact ih2
      · exact absurd rfl c23
set_option maxRecDepth 20000 in
set_option maxHeartbeats 1000000 in
theorem l_X5_countIn_c {c : Nat → VC} {g : VG} {n tl th : Int32} {f : Nat → Int32} (hO : RO c n tl th) (hA : AA c f) {b : Nat} {x : Nat} (hx : x < 27) : ∀ (r ls : List Nat) (m : Nat) (t : Int32), Ch f t r → r.map f = ls.map nI → (∀ s ∈ r, s < 250) → (∀ y ∈ ls, y < 27) → Xm M_X5_countIn 14 [some (.ref 456), some (.int (nI b)), some (.int (nI x)), some (.int (nI m)), some (.int t)] [] (g, c) (Rt (.int (nI (m + ls.count x))) (g, c)) := by
  intro r
  induction r with
  | nil =>
    intro ls m t h1 h2 h3 h4
    have e1 : t = -1 := h1
    have e2 : ls = [] := by cases ls with
      | nil => rfl
      | cons y ls => simp at h2
    subst e1; subst e2
    refine x_iload dX5_countIn_14 rfl ?_
    refine x_iconst (-1) dX5_countIn_16 (by decide) ?_
    refine x_icmp_eq 62 dX5_countIn_17 (by decide) (fun c17 => ?_) (fun c17 => absurd rfl c17)
    refine x_iload_n dX5_countIn_62 rfl ?_
    refine x_ireturn dX5_countIn_63 ?_
    exact ⟨rfl, rfl⟩
  | cons s r ih =>
    intro ls m t h1 h2 h3 h4
    obtain ⟨rfl, h1⟩ := h1
    obtain ⟨y, ls, rfl⟩ : ∃ y ls0, ls = y :: ls0 := by
      cases ls with
      | nil => simp at h2
      | cons y ls => exact ⟨y, ls, rfl⟩
    have h5 : f s :: r.map f = nI y :: ls.map nI := by simpa using h2
    have h6 := List.cons.inj h5
    have hs : s < 250 := h3 s List.mem_cons_self
    have hy : y < 27 := h4 y List.mem_cons_self
    have ih2 := ih ls (m + (if y = x then 1 else 0)) (f (250 + s)) h1 h6.2 (fun s9 q9 => h3 s9 (List.mem_cons_of_mem _ q9)) (fun s9 q9 => h4 s9 (List.mem_cons_of_mem _ q9))
    refine x_iload dX5_countIn_14 rfl ?_
    refine x_iconst (-1) dX5_countIn_16 (by decide) ?_
    refine x_icmp_eq 62 dX5_countIn_17 (by decide) (fun c17 => ?_) (fun c17 => ?_)
    · exact absurd c17 (m1_ne (by omega))
    · refine x_iload_n dX5_countIn_20 rfl ?_
      refine x_iload_n dX5_countIn_21 rfl ?_
      refine x_iconst (-1) dX5_countIn_22 (by decide) ?_
      refine x_icmp_eq 39 dX5_countIn_23 (by decide) (fun c23 => ?_) (fun c23 => ?_)
      · exact absurd c23 (ne_m1 hx)
      · refine x_aload_n dX5_countIn_26 rfl ?_
        refine x_getfield dX5_countIn_27 rfl (by decide) (by first | assumption | (simp (disch := omega) only [up_s, up_n]; first | assumption | rfl)) rfl ?_
        refine x_iconst (nI 0) dX5_countIn_30 (by decide) ?_
        refine x_iload dX5_countIn_31 rfl ?_
        refine x_iaddN dX5_countIn_33 ?_
        refine x_ialoadN dX5_countIn_34 (by first | assumption | (simp (disch := omega) only [up_s, up_n]; first | assumption | rfl)) (by omega) (by omega) ?_
        rw [Nat.zero_add, h6.1]
        refine x_iload_n dX5_countIn_35 rfl ?_
        refine x_icmp_ne 43 dX5_countIn_36 (by decide) (fun c36 => ?_) (fun c36 => ?_)
        · have ne : ¬ y = x := fun z => c36 (by rw [z])
          refine x_iconst (nI 0) dX5_countIn_43 (by decide) ?_
          refine x_iaddN dX5_countIn_44 ?_
          refine x_istore_n3 dX5_countIn_45 rfl ?_
          refine x_aload_n dX5_countIn_46 rfl ?_
          refine x_getfield dX5_countIn_47 rfl (by decide) (by first | assumption | (simp (disch := omega) only [up_s, up_n]; first | assumption | rfl)) rfl ?_
          refine x_sipush (nI 250) dX5_countIn_50 (by decide) ?_
          refine x_iload dX5_countIn_53 rfl ?_
          refine x_iaddN dX5_countIn_55 ?_
          refine x_ialoadN dX5_countIn_56 (by first | assumption | (simp (disch := omega) only [up_s, up_n]; first | assumption | rfl)) (by omega) (by omega) ?_
          refine x_istore_4 dX5_countIn_57 rfl ?_
          refine x_goto 14 dX5_countIn_59 (by decide) ?_
          rw [List.count_cons, show m + (ls.count x + if (y == x) = true then 1 else 0) = m + (if y = x then 1 else 0) + ls.count x by simp only [beq_iff_eq]; omega]
          first
            | (rw [if_pos ee] at ih2 ⊢; exact ih2)
            | (rw [if_neg ne] at ih2 ⊢; exact ih2)
        · have ee : y = x := (nI_eq (by omega) (by omega)).mp c36
          refine x_iconst (nI 1) dX5_countIn_39 (by decide) ?_
          refine x_goto 44 dX5_countIn_40 (by decide) ?_
          refine x_iaddN dX5_countIn_44 ?_
          refine x_istore_n3 dX5_countIn_45 rfl ?_
          refine x_aload_n dX5_countIn_46 rfl ?_
          refine x_getfield dX5_countIn_47 rfl (by decide) (by first | assumption | (simp (disch := omega) only [up_s, up_n]; first | assumption | rfl)) rfl ?_
          refine x_sipush (nI 250) dX5_countIn_50 (by decide) ?_
          refine x_iload dX5_countIn_53 rfl ?_
          refine x_iaddN dX5_countIn_55 ?_
          refine x_ialoadN dX5_countIn_56 (by first | assumption | (simp (disch := omega) only [up_s, up_n]; first | assumption | rfl)) (by omega) (by omega) ?_
          refine x_istore_4 dX5_countIn_57 rfl ?_
          refine x_goto 14 dX5_countIn_59 (by decide) ?_
          rw [List.count_cons, show m + (ls.count x + if (y == x) = true then 1 else 0) = m + (if y = x then 1 else 0) + ls.count x by simp only [beq_iff_eq]; omega]
          first
            | (rw [if_pos ee] at ih2 ⊢; exact ih2)
            | (rw [if_neg ne] at ih2 ⊢; exact ih2)
set_option maxRecDepth 20000 in
set_option maxHeartbeats 1000000 in
theorem s_X5_countIn_n {c : Nat → VC} {g : VG} {n tl th : Int32} {f : Nat → Int32} {B : Bx} (hO : RO c n tl th) (hA : AA c f) (hB : BoxR f B) {b : Nat} (hb : b < 27) : Cm k_X5_countIn [.ref 456, .int (nI b), .int (-1)] (g, c) (Rt (.int (nI (B b).length)) (g, c)) := by
  obtain ⟨ss, hss⟩ := hB
  refine Cm.in (M := M_X5_countIn) (ls := [some (.ref 456), some (.int (nI b)), some (.int (-1)), none, none]) rfl rfl ?_
  refine x_iconst (nI 0) dX5_countIn_0 (by decide) ?_
  refine x_istore_n3 dX5_countIn_1 rfl ?_
  refine x_aload_n dX5_countIn_2 rfl ?_
  refine x_getfield dX5_countIn_3 rfl (by decide) (by first | assumption | (simp (disch := omega) only [up_s, up_n]; first | assumption | rfl)) rfl ?_
  refine x_sipush (nI 500) dX5_countIn_6 (by decide) ?_
  refine x_iload_n dX5_countIn_9 rfl ?_
  refine x_iaddN dX5_countIn_10 ?_
  refine x_ialoadN dX5_countIn_11 (by first | assumption | (simp (disch := omega) only [up_s, up_n]; first | assumption | rfl)) (by omega) (by omega) ?_
  refine x_istore_4 dX5_countIn_12 rfl ?_
  have h9 := l_X5_countIn_n (g := g) (b := b) hO hA (ss b) (B b).reverse 0 (f (500 + b)) (hss.1 b hb) (hss.2.1 b hb) (hss.2.2.1 b hb) (fun y hy => hss.2.2.2.2.2.2 b hb y (List.mem_reverse.mp hy))
  rw [List.length_reverse, Nat.zero_add] at h9
  exact h9
set_option maxRecDepth 20000 in
set_option maxHeartbeats 1000000 in
theorem s_X5_countIn_c {c : Nat → VC} {g : VG} {n tl th : Int32} {f : Nat → Int32} {B : Bx} (hO : RO c n tl th) (hA : AA c f) (hB : BoxR f B) {b x : Nat} (hb : b < 27) (hx : x < 27) : Cm k_X5_countIn [.ref 456, .int (nI b), .int (nI x)] (g, c) (Rt (.int (nI ((B b).count x))) (g, c)) := by
  obtain ⟨ss, hss⟩ := hB
  refine Cm.in (M := M_X5_countIn) (ls := [some (.ref 456), some (.int (nI b)), some (.int (nI x)), none, none]) rfl rfl ?_
  refine x_iconst (nI 0) dX5_countIn_0 (by decide) ?_
  refine x_istore_n3 dX5_countIn_1 rfl ?_
  refine x_aload_n dX5_countIn_2 rfl ?_
  refine x_getfield dX5_countIn_3 rfl (by decide) (by first | assumption | (simp (disch := omega) only [up_s, up_n]; first | assumption | rfl)) rfl ?_
  refine x_sipush (nI 500) dX5_countIn_6 (by decide) ?_
  refine x_iload_n dX5_countIn_9 rfl ?_
  refine x_iaddN dX5_countIn_10 ?_
  refine x_ialoadN dX5_countIn_11 (by first | assumption | (simp (disch := omega) only [up_s, up_n]; first | assumption | rfl)) (by omega) (by omega) ?_
  refine x_istore_4 dX5_countIn_12 rfl ?_
  have h9 := l_X5_countIn_c (g := g) (b := b) hO hA hx (ss b) (B b).reverse 0 (f (500 + b)) (hss.1 b hb) (hss.2.1 b hb) (hss.2.2.1 b hb) (fun y hy => hss.2.2.2.2.2.2 b hb y (List.mem_reverse.mp hy))
  rw [List.count_reverse, Nat.zero_add] at h9
  exact h9
