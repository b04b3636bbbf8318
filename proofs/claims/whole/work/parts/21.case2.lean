/-! THE CASE: calls on boxes -/
theorem ShopAt.bx {c c' : Nat → VC} {A : Nat} {σ : Sg} {a b d e f : Int32} {B' : Bx} (h : ShopAt c A σ) (hO : ObAt c' A a b d e f) (hB : BoxAt c' A B') (hf : FrS c c' A) : ShopAt c' A (B', σ.2.1, σ.2.2.1, a, b, d, e, f) :=
  ⟨hO, hB, h.2.2.1.fr (hf _ (by omega) (by omega)) (fun k z1 z2 => hf k (by omega) (by omega)), h.2.2.2.fr (hf _ (by omega) (by omega)) (hf _ (by omega) (by omega))⟩
theorem buyB_len {B : Bx} {a n : Nat} : (buyB B a n a).length = (B a).length + n := by unfold buyB; rw [uf_s]; simp
theorem SB_tot {σ : Sg} (h : totM σ ≤ 250) : SB σ.1 ≤ 250 := by unfold totM at h; omega
set_option maxRecDepth 20000 in
set_option maxHeartbeats 2000000 in
theorem s_X4_buy {c : Nat → VC} {z k s : Nat} {x : Bool} {S : St} (h : CaseAt c S) (hk : StOK S) {l m : Int32} : Cm k_X4_buy [.ref 2, .int l, .int m] ((z, x, k, s), c) (CQ z x k s c (buyM l m S).1 (buyM l m S).2) := by
  have hh2 := h.1
  have hh3 := h.2.1.1
  cases e1 : ix l 27 with
  | none =>
    have hM : buyM l m S = (Sum.inr 1, S) := by simp only [buyM, e1]
    rw [hM]
    refine Cm.in (M := M_X4_buy) (ls := [some (.ref 2), some (.int l), some (.int m)]) rfl rfl ?_
    refine x_iload_n dX4_buy_0 rfl ?_
    refine x_cs1 dX4_buy_1 rfl ?_
    exact Cm.rx (s_rqLetter_x (ix_none e1)) rfl ⟨c, h, FrC.rf, rfl, rfl⟩
  | some a =>
    obtain ⟨ha, rfl⟩ := ix_some (by omega) e1
    cases e2 : rg m 1 30 with
    | none =>
      have hM : buyM (nI a) m S = (Sum.inr 2, S) := by simp only [buyM, e1, e2]
      rw [hM]
      refine Cm.in (M := M_X4_buy) (ls := [some (.ref 2), some (.int (nI a)), some (.int m)]) rfl rfl ?_
      refine x_iload_n dX4_buy_0 rfl ?_
      refine x_cs1 dX4_buy_1 rfl ?_
      refine Cm.rv (s_rqLetter ha) ?_
      refine x_iload_n dX4_buy_4 rfl ?_
      refine x_iconst (nI 1) dX4_buy_5 (by decide) ?_
      refine x_bipush (nI 30) dX4_buy_6 (by decide) ?_
      refine x_cs3 dX4_buy_8 rfl ?_
      exact Cm.rx (s_rqRg_x (rg_none e2)) rfl ⟨c, h, FrC.rf, rfl, rfl⟩
    | some n =>
      obtain ⟨hn1, hn2, rfl⟩ := rg_some (by omega) (by omega) e2
      by_cases hr : totM S.1 + n ≤ 250
      · have hM : buyM (nI a) (nI n) S = (Sum.inl (.int (nI (buyB S.1.1 a n a).length)), sv S (buyB S.1.1 a n, S.1.2.1, S.1.2.2.1, n1 S.1, n2 S.1, n3 S.1 + n2 S.1 * nI n, n4 S.1, n5 S.1)) := by simp only [buyM, e1, e2, if_pos hr]
        rw [hM]
        have hsb := SB_le (B := S.1.1) ha
        have hln : (S.1.1 a).length + n ≤ 250 := by unfold totM at hr; omega
        refine Cm.in (M := M_X4_buy) (ls := [some (.ref 2), some (.int (nI a)), some (.int (nI n))]) rfl rfl ?_
        refine x_iload_n dX4_buy_0 rfl ?_
        refine x_cs1 dX4_buy_1 rfl ?_
        refine Cm.rv (s_rqLetter ha) ?_
        refine x_iload_n dX4_buy_4 rfl ?_
        refine x_iconst (nI 1) dX4_buy_5 (by decide) ?_
        refine x_bipush (nI 30) dX4_buy_6 (by decide) ?_
        refine x_cs3 dX4_buy_8 rfl ?_
        refine Cm.rv (s_rqRg hn1 hn2 (by omega)) ?_
        refine x_aload_n dX4_buy_11 rfl ?_
        refine x_iload_n dX4_buy_12 rfl ?_
        refine x_cv2 dX4_buy_13 rfl (by first | assumption | (simp (disch := omega) only [up_s, up_n]; first | assumption | rfl)) rfl ?_
        refine Cm.rv (s_rqRoom h hr) ?_
        refine x_aload_n dX4_buy_16 rfl ?_
        refine x_getfield dX4_buy_17 rfl (by decide) (by first | assumption | (simp (disch := omega) only [up_s, up_n]; first | assumption | rfl)) rfl ?_
        refine x_aload_n dX4_buy_20 rfl ?_
        refine x_getfield dX4_buy_21 rfl (by decide) (by first | assumption | (simp (disch := omega) only [up_s, up_n]; first | assumption | rfl)) rfl ?_
        have hhs := h.2.2.2.1.choose_spec.choose_spec.2.1
        refine x_cv2 dX4_buy_24 rfl (by first | assumption | (simp (disch := omega) only [up_s, up_n]; first | assumption | rfl)) rfl ?_
        refine Cm.ev (s_save h) (fun c1 q1 => ?_)
        obtain ⟨h1, hf1⟩ := q1
        have hh21 := h1.1
        have hh31 := h1.2.1.1
        have hhs := h.2.2.2.1.choose_spec.choose_spec.2.1
        refine x_aload_n dX4_buy_27 rfl ?_
        refine x_getfield dX4_buy_28 rfl (by decide) (by first | assumption | (simp (disch := omega) only [up_s, up_n]; first | assumption | rfl)) rfl ?_
        refine x_iload_n dX4_buy_31 rfl ?_
        refine x_iload_n dX4_buy_32 rfl ?_
        refine x_cv3 dX4_buy_33 rfl (by first | assumption | (simp (disch := omega) only [up_s, up_n]; first | assumption | rfl)) rfl ?_
        refine Cm.ev (s_X3_buySorts h1.2.1.1 h1.2.1.2.1 ha hln) (fun c2 q2 => ?_)
        obtain ⟨q21, q22, q23⟩ := q2
        have hs2 := h1.2.1.bx q21 q22 q23
        have h2 := h1.shop hs2 (fun k hk => q23 k (by omega) (by omega))
        have hh22 := h2.1
        have hh32 := h2.2.1.1
        have hba := (h2.2.1.2.1.2 a ha).2.1
        refine x_aload_n dX4_buy_36 rfl ?_
        refine x_getfield dX4_buy_37 rfl (by decide) (by first | assumption | (simp (disch := omega) only [up_s, up_n]; first | assumption | rfl)) rfl ?_
        refine x_iload_n dX4_buy_40 rfl ?_
        refine x_cv2 dX4_buy_41 rfl (by first | assumption | (simp (disch := omega) only [up_s, up_n]; first | assumption | rfl)) rfl ?_
        refine Cm.rt (s_X3_boxOf' hh32 h2.2.1.2.1 ha) ?_
        refine x_cv1 dX4_buy_44 rfl (by first | assumption | (simp (disch := omega) only [up_s, up_n]; first | assumption | rfl)) rfl ?_
        refine Cm.rt (s_X2_size (h2.2.1.2.1.2 a ha)) ?_
        refine x_ireturn dX4_buy_47 ?_
        exact ⟨c2, h2, hf1.tr (fun k hk => q23 k (by omega) (by omega)), rfl, rfl⟩
      · have hM : buyM (nI a) (nI n) S = (Sum.inr 3, S) := by simp only [buyM, e1, e2, if_neg hr]
        rw [hM]
        have ht := hk.1
        refine Cm.in (M := M_X4_buy) (ls := [some (.ref 2), some (.int (nI a)), some (.int (nI n))]) rfl rfl ?_
        refine x_iload_n dX4_buy_0 rfl ?_
        refine x_cs1 dX4_buy_1 rfl ?_
        refine Cm.rv (s_rqLetter ha) ?_
        refine x_iload_n dX4_buy_4 rfl ?_
        refine x_iconst (nI 1) dX4_buy_5 (by decide) ?_
        refine x_bipush (nI 30) dX4_buy_6 (by decide) ?_
        refine x_cs3 dX4_buy_8 rfl ?_
        refine Cm.rv (s_rqRg hn1 hn2 (by omega)) ?_
        refine x_aload_n dX4_buy_11 rfl ?_
        refine x_iload_n dX4_buy_12 rfl ?_
        refine x_cv2 dX4_buy_13 rfl (by first | assumption | (simp (disch := omega) only [up_s, up_n]; first | assumption | rfl)) rfl ?_
        exact Cm.rx (s_rqRoom_x h hr (by omega)) rfl ⟨c, h, FrC.rf, rfl, rfl⟩
set_option maxRecDepth 20000 in
set_option maxHeartbeats 1000000 in
theorem s_X4_lackingOf {c : Nat → VC} {g : VG} {S : St} (h : CaseAt c S) {a : Nat} (ha : a < 27) : Cm k_X4_lackingOf [.ref 2, .int (nI a)] (g, c) (Rt (.int (nI (lk S.2.1 S.1.1 a))) (g, c)) := by
  have hh2 := h.1
  have hh3 := h.2.1.1
  have ht := h.2.2.1
  have htk := ht.2.1
  have hba := (h.2.1.2.1.2 a ha).2.1
  have hl1 : S.2.1.count a ≤ 16 := Nat.le_trans List.count_le_length ht.2.2.1
  have hl2 : (S.1.1 a).count a ≤ 250 := Nat.le_trans List.count_le_length (h.2.1.2.1.2 a ha).2.2.1
  refine Cm.in (M := M_X4_lackingOf) (ls := [some (.ref 2), some (.int (nI a))]) rfl rfl ?_
  refine x_iconst (nI 0) dX4_lackingOf_0 (by decide) ?_
  refine x_aload_n dX4_lackingOf_1 rfl ?_
  refine x_getfield dX4_lackingOf_2 rfl (by decide) (by first | assumption | (simp (disch := omega) only [up_s, up_n]; first | assumption | rfl)) rfl ?_
  refine x_iload_n dX4_lackingOf_5 rfl ?_
  refine x_cv2 dX4_lackingOf_6 rfl (by first | assumption | (simp (disch := omega) only [up_s, up_n]; first | assumption | rfl)) rfl ?_
  refine Cm.rt (s_X2_countOf ht (by omega)) ?_
  refine x_aload_n dX4_lackingOf_9 rfl ?_
  refine x_getfield dX4_lackingOf_10 rfl (by decide) (by first | assumption | (simp (disch := omega) only [up_s, up_n]; first | assumption | rfl)) rfl ?_
  refine x_iload_n dX4_lackingOf_13 rfl ?_
  refine x_cv2 dX4_lackingOf_14 rfl (by first | assumption | (simp (disch := omega) only [up_s, up_n]; first | assumption | rfl)) rfl ?_
  refine Cm.rt (s_X3_boxOf' hh3 h.2.1.2.1 ha) ?_
  refine x_iload_n dX4_lackingOf_17 rfl ?_
  refine x_cv2 dX4_lackingOf_18 rfl (by first | assumption | (simp (disch := omega) only [up_s, up_n]; first | assumption | rfl)) rfl ?_
  refine Cm.rt (s_X2_countOf (h.2.1.2.1.2 a ha) (by omega)) ?_
  refine x_isub dX4_lackingOf_21 ?_
  refine x_max dX4_lackingOf_22 rfl ?_
  refine x_ireturn dX4_lackingOf_25 ?_
  refine ⟨?_, rfl⟩
  unfold lk
  by_cases q : (S.1.1 a).count a < S.2.1.count a
  · rw [pk_sub (by omega), if_pos ((nI_ltI (by omega) (by omega)).mpr (by omega))]
  · rw [show S.2.1.count a - (S.1.1 a).count a = 0 by omega]
    by_cases q2 : S.2.1.count a = (S.1.1 a).count a
    · rw [q2, Int32.sub_self]; rfl
    · rw [if_neg]
      have := pk_sneg (a := S.2.1.count a) (b := (S.1.1 a).count a) (by omega) (by omega)
      exact Int32.not_lt.mpr (Int32.le_of_lt this)
theorem blN_ge {T : List Nat} {pr co : Int32} {B : Bx} {b : Nat} : ∀ {n : Nat}, n ≤ b → (blN T pr B co n).1 b = B b
  | 0, _ => rfl
  | n + 1, hn => by
    show buyB _ n _ b = B b
    unfold buyB
    rw [uf_n (by omega), blN_ge (by omega)]
theorem blN_lk {T : List Nat} {pr co : Int32} {B : Bx} {n : Nat} : lk T (blN T pr B co n).1 n = lk T B n := by
  unfold lk
  rw [blN_ge (Nat.le_refl _)]
theorem sumN_le {h : Nat → Nat} : ∀ {i n : Nat}, i < n → sumN h i + h i ≤ sumN h n
  | i, 0, hn => by omega
  | i, n + 1, hn => by
    show sumN h i + h i ≤ sumN h n + h n
    by_cases e : i = n
    · subst e; omega
    · have := sumN_le (h := h) (i := i) (n := n) (by omega); omega
set_option maxRecDepth 20000 in
set_option maxHeartbeats 1000000 in
theorem l_X4_lack {c : Nat → VC} {g : VG} {S : St} (h : CaseAt c S) {Q : (Option Value ⊕ Nat) → VH → Prop} (hQ : Xm M_X4_buyLacking 24 [some (.ref 2), some (.int (nI (sumN (lk S.2.1 S.1.1) 27))), some (.int (nI 27))] [] (g, c) Q) : ∀ (m i : Nat), i ≤ 27 → 27 < i + m → Xm M_X4_buyLacking 4 [some (.ref 2), some (.int (nI (sumN (lk S.2.1 S.1.1) i))), some (.int (nI i))] [] (g, c) Q := by
  have hh2 := h.1
  intro m
  induction m with
  | zero => intro i z1 z2; omega
  | succ m ih =>
    intro i z1 z2
    refine x_iload_n dX4_buyLacking_4 rfl ?_
    refine x_bipush (nI 27) dX4_buyLacking_5 (by decide) ?_
    refine x_icmp_ge 24 dX4_buyLacking_7 (by decide) (fun c7 => ?_) (fun c7 => ?_)
    · have e1 : i = 27 := by have := (nI_leI (by omega) (by omega)).mp c7; omega
      subst e1
      exact hQ
    · have hi : i < 27 := by
        by_cases q : i < 27
        · exact q
        · exact absurd ((nI_leI (by omega) (by omega)).mpr (by omega)) c7
      refine x_iload_n dX4_buyLacking_10 rfl ?_
      refine x_aload_n dX4_buyLacking_11 rfl ?_
      refine x_iload_n dX4_buyLacking_12 rfl ?_
      refine x_cv2 dX4_buyLacking_13 rfl (by first | assumption | (simp (disch := omega) only [up_s, up_n]; first | assumption | rfl)) rfl ?_
      refine Cm.rt (s_X4_lackingOf h hi) ?_
      refine x_iaddN dX4_buyLacking_16 ?_
      refine x_istore_n1 dX4_buyLacking_17 rfl ?_
      refine x_iincN_2 (1) dX4_buyLacking_18 (by decide) rfl ?_
      refine x_goto 4 dX4_buyLacking_21 (by decide) ?_
      exact ih (i + 1) (by omega) (by omega)
set_option maxRecDepth 20000 in
set_option maxHeartbeats 1000000 in
theorem m_X4_lack {c : Nat → VC} {z k s : Nat} {x : Bool} {S : St} (h : CaseAt c S) (hk : StOK S) (hr : totM S.1 + sumN (lk S.2.1 S.1.1) 27 ≤ 250) {n : Nat} : ∀ (m i : Nat), i ≤ 27 → 27 < i + m → ∀ c1, CaseAt c1 (sv S ((blN S.2.1 (n2 S.1) S.1.1 (n3 S.1) i).1, S.1.2.1, S.1.2.2.1, n1 S.1, n2 S.1, (blN S.2.1 (n2 S.1) S.1.1 (n3 S.1) i).2, n4 S.1, n5 S.1)) → FrC c c1 → Xm M_X4_buyLacking 42 [some (.ref 2), some (.int (nI n)), some (.int (nI i))] [] ((z, x, k, s), c1) (CQ z x k s c (Sum.inl (.int (nI n))) (sv S ((blN S.2.1 (n2 S.1) S.1.1 (n3 S.1) 27).1, S.1.2.1, S.1.2.2.1, n1 S.1, n2 S.1, (blN S.2.1 (n2 S.1) S.1.1 (n3 S.1) 27).2, n4 S.1, n5 S.1))) := by
  intro m
  induction m with
  | zero => intro i z1 z2; omega
  | succ m ih =>
    intro i z1 z2 c1 h1 hf1
    have hh2 := h1.1
    have hh3 := h1.2.1.1
    refine x_iload_n dX4_buyLacking_42 rfl ?_
    refine x_bipush (nI 27) dX4_buyLacking_43 (by decide) ?_
    refine x_icmp_ge 67 dX4_buyLacking_45 (by decide) (fun c45 => ?_) (fun c45 => ?_)
    · have e1 : i = 27 := by have := (nI_leI (by omega) (by omega)).mp c45; omega
      subst e1
      refine x_iload_n dX4_buyLacking_67 rfl ?_
      refine x_ireturn dX4_buyLacking_68 ?_
      exact ⟨c1, h1, hf1, rfl, rfl⟩
    · have hi : i < 27 := by
        by_cases q : i < 27
        · exact q
        · exact absurd ((nI_leI (by omega) (by omega)).mpr (by omega)) c45
      refine x_aload_n dX4_buyLacking_48 rfl ?_
      refine x_getfield dX4_buyLacking_49 rfl (by decide) (by first | assumption | (simp (disch := omega) only [up_s, up_n]; first | assumption | rfl)) rfl ?_
      refine x_iload_n dX4_buyLacking_52 rfl ?_
      refine x_aload_n dX4_buyLacking_53 rfl ?_
      refine x_iload_n dX4_buyLacking_54 rfl ?_
      refine x_cv2 dX4_buyLacking_55 rfl (by first | assumption | (simp (disch := omega) only [up_s, up_n]; first | assumption | rfl)) rfl ?_
      refine Cm.rt (s_X4_lackingOf h1 hi) ?_
      refine x_cv3 dX4_buyLacking_58 rfl (by first | assumption | (simp (disch := omega) only [up_s, up_n]; first | assumption | rfl)) rfl ?_
      have hsi := sumN_le (h := lk S.2.1 S.1.1) hi
      have hbi := SB_le (B := S.1.1) hi
      have hlb : ((blN S.2.1 (n2 S.1) S.1.1 (n3 S.1) i).1 i).length + lk S.2.1 (blN S.2.1 (n2 S.1) S.1.1 (n3 S.1) i).1 i ≤ 250 := by
        rw [blN_lk, blN_ge (Nat.le_refl _)]
        unfold totM at hr
        omega
      refine Cm.ev (s_X3_buySorts h1.2.1.1 h1.2.1.2.1 hi hlb) (fun c2 q2 => ?_)
      obtain ⟨q21, q22, q23⟩ := q2
      have hs2 := h1.2.1.bx q21 q22 q23
      have h2 := h1.shop hs2 (fun k hk => q23 k (by omega) (by omega))
      refine x_iincN_2 (1) dX4_buyLacking_61 (by decide) rfl ?_
      refine x_goto 42 dX4_buyLacking_64 (by decide) ?_
      exact ih (i + 1) (by omega) (by omega) c2 h2 (hf1.tr (fun k hk => q23 k (by omega) (by omega)))
set_option maxRecDepth 20000 in
set_option maxHeartbeats 2000000 in
theorem s_X4_buyLacking {c : Nat → VC} {z k s : Nat} {x : Bool} {S : St} (h : CaseAt c S) (hk : StOK S) : Cm k_X4_buyLacking [.ref 2] ((z, x, k, s), c) (CQ z x k s c (buyLackingM S).1 (buyLackingM S).2) := by
  have hh2 := h.1
  have hh3 := h.2.1.1
  have ht := hk.1
  have hhs := h.2.2.2.1.choose_spec.choose_spec.2.1
  have hbd : sumN (lk S.2.1 S.1.1) 27 < 100000 := by
    have e : ∀ n, n ≤ 27 → sumN (lk S.2.1 S.1.1) n ≤ n * 16 := by
      intro n
      induction n with
      | zero => intro _; exact Nat.le_refl _
      | succ n ih =>
        intro hn
        have h1 := ih (by omega)
        have h2 : lk S.2.1 S.1.1 n ≤ 16 := by
          unfold lk
          have h3 : S.2.1.count n ≤ S.2.1.length := List.count_le_length
          have h4 := h.2.2.1.2.2.1
          omega
        show sumN (lk S.2.1 S.1.1) n + lk S.2.1 S.1.1 n ≤ (n + 1) * 16
        omega
    have := e 27 (Nat.le_refl _)
    omega
  by_cases hr : totM S.1 + sumN (lk S.2.1 S.1.1) 27 ≤ 250
  · have hM : buyLackingM S = (Sum.inl (.int (nI (sumN (lk S.2.1 S.1.1) 27))), sv S ((blN S.2.1 (n2 S.1) S.1.1 (n3 S.1) 27).1, S.1.2.1, S.1.2.2.1, n1 S.1, n2 S.1, (blN S.2.1 (n2 S.1) S.1.1 (n3 S.1) 27).2, n4 S.1, n5 S.1)) := by simp only [buyLackingM, if_pos hr]
    rw [hM]
    refine Cm.in (M := M_X4_buyLacking) (ls := [some (.ref 2), none, none]) rfl rfl ?_
    refine x_iconst (nI 0) dX4_buyLacking_0 (by decide) ?_
    refine x_istore_n1 dX4_buyLacking_1 rfl ?_
    refine x_iconst (nI 0) dX4_buyLacking_2 (by decide) ?_
    refine x_istore_n2 dX4_buyLacking_3 rfl ?_
    refine l_X4_lack h ?_ 28 0 (by omega) (by omega)
    refine x_aload_n dX4_buyLacking_24 rfl ?_
    refine x_iload_n dX4_buyLacking_25 rfl ?_
    refine x_cv2 dX4_buyLacking_26 rfl (by first | assumption | (simp (disch := omega) only [up_s, up_n]; first | assumption | rfl)) rfl ?_
    refine Cm.rv (s_rqRoom h hr) ?_
    refine x_aload_n dX4_buyLacking_29 rfl ?_
    refine x_getfield dX4_buyLacking_30 rfl (by decide) (by first | assumption | (simp (disch := omega) only [up_s, up_n]; first | assumption | rfl)) rfl ?_
    refine x_aload_n dX4_buyLacking_33 rfl ?_
    refine x_getfield dX4_buyLacking_34 rfl (by decide) (by first | assumption | (simp (disch := omega) only [up_s, up_n]; first | assumption | rfl)) rfl ?_
    refine x_cv2 dX4_buyLacking_37 rfl (by first | assumption | (simp (disch := omega) only [up_s, up_n]; first | assumption | rfl)) rfl ?_
    refine Cm.ev (s_save h) (fun c1 q1 => ?_)
    refine x_iconst (nI 0) dX4_buyLacking_40 (by decide) ?_
    refine x_istore_n2 dX4_buyLacking_41 rfl ?_
    exact m_X4_lack h hk hr 28 0 (by omega) (by omega) c1 q1.1 q1.2
  · have hM : buyLackingM S = (Sum.inr 3, S) := by simp only [buyLackingM, if_neg hr]
    rw [hM]
    refine Cm.in (M := M_X4_buyLacking) (ls := [some (.ref 2), none, none]) rfl rfl ?_
    refine x_iconst (nI 0) dX4_buyLacking_0 (by decide) ?_
    refine x_istore_n1 dX4_buyLacking_1 rfl ?_
    refine x_iconst (nI 0) dX4_buyLacking_2 (by decide) ?_
    refine x_istore_n2 dX4_buyLacking_3 rfl ?_
    refine l_X4_lack h ?_ 28 0 (by omega) (by omega)
    refine x_aload_n dX4_buyLacking_24 rfl ?_
    refine x_iload_n dX4_buyLacking_25 rfl ?_
    refine x_cv2 dX4_buyLacking_26 rfl (by first | assumption | (simp (disch := omega) only [up_s, up_n]; first | assumption | rfl)) rfl ?_
    exact Cm.rx (s_rqRoom_x h hr (by omega)) rfl ⟨c, h, FrC.rf, rfl, rfl⟩
set_option maxRecDepth 20000 in
set_option maxHeartbeats 2000000 in
theorem s_X4_spill {c : Nat → VC} {z k s : Nat} {x : Bool} {S : St} (h : CaseAt c S) (hk : StOK S) {l l2 m : Int32} : Cm k_X4_spill [.ref 2, .int l, .int l2, .int m] ((z, x, k, s), c) (CQ z x k s c (spillM l l2 m S).1 (spillM l l2 m S).2) := by
  have hh2 := h.1
  have hh3 := h.2.1.1
  have hhs := h.2.2.2.1.choose_spec.choose_spec.2.1
  cases e1 : ix l 27 with
  | none =>
    have hM : spillM l l2 m S = (Sum.inr 1, S) := by simp only [spillM, e1]
    rw [hM]
    refine Cm.in (M := M_X4_spill) (ls := [some (.ref 2), some (.int l), some (.int l2), some (.int m)]) rfl rfl ?_
    refine x_iload_n dX4_spill_0 rfl ?_
    refine x_cs1 dX4_spill_1 rfl ?_
    exact Cm.rx (s_rqLetter_x (ix_none e1)) rfl ⟨c, h, FrC.rf, rfl, rfl⟩
  | some a =>
    obtain ⟨ha, rfl⟩ := ix_some (by omega) e1
    have hba := (h.2.1.2.1.2 a ha).2.1
    have hla := (h.2.1.2.1.2 a ha).2.2.1
    cases e2 : ix l2 27 with
    | none =>
      have hM : spillM (nI a) l2 m S = (Sum.inr 1, S) := by simp only [spillM, e1, e2]
      rw [hM]
      refine Cm.in (M := M_X4_spill) (ls := [some (.ref 2), some (.int (nI a)), some (.int l2), some (.int m)]) rfl rfl ?_
      refine x_iload_n dX4_spill_0 rfl ?_
      refine x_cs1 dX4_spill_1 rfl ?_
      refine Cm.rv (s_rqLetter ha) ?_
      refine x_iload_n dX4_spill_4 rfl ?_
      refine x_cs1 dX4_spill_5 rfl ?_
      exact Cm.rx (s_rqLetter_x (ix_none e2)) rfl ⟨c, h, FrC.rf, rfl, rfl⟩
    | some b =>
      obtain ⟨hb, rfl⟩ := ix_some (by omega) e2
      by_cases hab : a = b
      · have hM : spillM (nI a) (nI b) m S = (Sum.inr 2, S) := by simp only [spillM, e1, e2, if_pos hab]
        rw [hM]
        refine Cm.in (M := M_X4_spill) (ls := [some (.ref 2), some (.int (nI a)), some (.int (nI b)), some (.int m)]) rfl rfl ?_
        refine x_iload_n dX4_spill_0 rfl ?_
        refine x_cs1 dX4_spill_1 rfl ?_
        refine Cm.rv (s_rqLetter ha) ?_
        refine x_iload_n dX4_spill_4 rfl ?_
        refine x_cs1 dX4_spill_5 rfl ?_
        refine Cm.rv (s_rqLetter hb) ?_
        refine x_iload_n dX4_spill_8 rfl ?_
        refine x_iload_n dX4_spill_9 rfl ?_
        refine x_icmp_ne 23 dX4_spill_10 (by decide) (fun c10 => ?_) (fun c10 => ?_)
        · exact absurd (by rw [hab]) c10
        · refine x_throw dX4_spill_13 rfl rfl ?_
          exact ⟨c, h, FrC.rf, rfl, rfl⟩
      · cases e3 : rg m 1 30 with
        | none =>
          have hM : spillM (nI a) (nI b) m S = (Sum.inr 2, S) := by simp only [spillM, e1, e2, e3, if_neg hab]
          rw [hM]
          refine Cm.in (M := M_X4_spill) (ls := [some (.ref 2), some (.int (nI a)), some (.int (nI b)), some (.int m)]) rfl rfl ?_
          refine x_iload_n dX4_spill_0 rfl ?_
          refine x_cs1 dX4_spill_1 rfl ?_
          refine Cm.rv (s_rqLetter ha) ?_
          refine x_iload_n dX4_spill_4 rfl ?_
          refine x_cs1 dX4_spill_5 rfl ?_
          refine Cm.rv (s_rqLetter hb) ?_
          refine x_iload_n dX4_spill_8 rfl ?_
          refine x_iload_n dX4_spill_9 rfl ?_
          refine x_icmp_ne 23 dX4_spill_10 (by decide) (fun c10 => ?_) (fun c10 => ?_)
          · refine x_iload_n dX4_spill_23 rfl ?_
            refine x_iconst (nI 1) dX4_spill_24 (by decide) ?_
            refine x_bipush (nI 30) dX4_spill_25 (by decide) ?_
            refine x_cs3 dX4_spill_27 rfl ?_
            exact Cm.rx (s_rqRg_x (rg_none e3)) rfl ⟨c, h, FrC.rf, rfl, rfl⟩
          · exact absurd ((nI_eq (by omega) (by omega)).mp c10) hab
        | some n =>
          obtain ⟨hn1, hn2, rfl⟩ := rg_some (by omega) (by omega) e3
          by_cases hr : n ≤ (S.1.1 a).length
          · have hM : spillM (nI a) (nI b) (nI n) S = (Sum.inl (.int (nI ((spl a b n S.1.1) a).length)), sv S (spl a b n S.1.1, S.1.2)) := by simp only [spillM, e1, e2, e3, if_neg hab, if_pos hr]
            rw [hM]
            refine Cm.in (M := M_X4_spill) (ls := [some (.ref 2), some (.int (nI a)), some (.int (nI b)), some (.int (nI n))]) rfl rfl ?_
            refine x_iload_n dX4_spill_0 rfl ?_
            refine x_cs1 dX4_spill_1 rfl ?_
            refine Cm.rv (s_rqLetter ha) ?_
            refine x_iload_n dX4_spill_4 rfl ?_
            refine x_cs1 dX4_spill_5 rfl ?_
            refine Cm.rv (s_rqLetter hb) ?_
            refine x_iload_n dX4_spill_8 rfl ?_
            refine x_iload_n dX4_spill_9 rfl ?_
            refine x_icmp_ne 23 dX4_spill_10 (by decide) (fun c10 => ?_) (fun c10 => ?_)
            · refine x_iload_n dX4_spill_23 rfl ?_
              refine x_iconst (nI 1) dX4_spill_24 (by decide) ?_
              refine x_bipush (nI 30) dX4_spill_25 (by decide) ?_
              refine x_cs3 dX4_spill_27 rfl ?_
              refine Cm.rv (s_rqRg hn1 hn2 (by omega)) ?_
              refine x_aload_n dX4_spill_30 rfl ?_
              refine x_getfield dX4_spill_31 rfl (by decide) (by first | assumption | (simp (disch := omega) only [up_s, up_n]; first | assumption | rfl)) rfl ?_
              refine x_iload_n dX4_spill_34 rfl ?_
              refine x_cv2 dX4_spill_35 rfl (by first | assumption | (simp (disch := omega) only [up_s, up_n]; first | assumption | rfl)) rfl ?_
              refine Cm.rt (s_X3_boxOf' hh3 h.2.1.2.1 ha) ?_
              refine x_cv1 dX4_spill_38 rfl (by first | assumption | (simp (disch := omega) only [up_s, up_n]; first | assumption | rfl)) rfl ?_
              refine Cm.rt (s_X2_size (h.2.1.2.1.2 a ha)) ?_
              refine x_iload_n dX4_spill_41 rfl ?_
              refine x_icmp_ge 55 dX4_spill_42 (by decide) (fun c42 => ?_) (fun c42 => ?_)
              · refine x_aload_n dX4_spill_55 rfl ?_
                refine x_getfield dX4_spill_56 rfl (by decide) (by first | assumption | (simp (disch := omega) only [up_s, up_n]; first | assumption | rfl)) rfl ?_
                refine x_aload_n dX4_spill_59 rfl ?_
                refine x_getfield dX4_spill_60 rfl (by decide) (by first | assumption | (simp (disch := omega) only [up_s, up_n]; first | assumption | rfl)) rfl ?_
                refine x_cv2 dX4_spill_63 rfl (by first | assumption | (simp (disch := omega) only [up_s, up_n]; first | assumption | rfl)) rfl ?_
                refine Cm.ev (s_save h) (fun c1 q1 => ?_)
                obtain ⟨h1, hf1⟩ := q1
                have hh21 := h1.1
                have hh31 := h1.2.1.1
                refine x_aload_n dX4_spill_66 rfl ?_
                refine x_getfield dX4_spill_67 rfl (by decide) (by first | assumption | (simp (disch := omega) only [up_s, up_n]; first | assumption | rfl)) rfl ?_
                refine x_iload_n dX4_spill_70 rfl ?_
                refine x_iload_n dX4_spill_71 rfl ?_
                refine x_iload_n dX4_spill_72 rfl ?_
                refine x_cv4 dX4_spill_73 rfl (by first | assumption | (simp (disch := omega) only [up_s, up_n]; first | assumption | rfl)) rfl ?_
                refine Cm.ev (s_X3_spillSorts h1.2.1.1 h1.2.1.2.1 ha hb hab hn2 (SB_tot hk.1) hr) (fun c2 q2 => ?_)
                obtain ⟨q22, q23⟩ := q2
                have hs2 := h1.2.1.bx ((q23 3 (by omega)).trans h1.2.1.1) q22 q23.S
                have h2 := h1.shop hs2 (fun k hk => q23 k (by omega))
                have hh22 := h2.1
                have hh32 := h2.2.1.1
                have hba2 := (h2.2.1.2.1.2 a ha).2.1
                refine x_aload_n dX4_spill_76 rfl ?_
                refine x_getfield dX4_spill_77 rfl (by decide) (by first | assumption | (simp (disch := omega) only [up_s, up_n]; first | assumption | rfl)) rfl ?_
                refine x_iload_n dX4_spill_80 rfl ?_
                refine x_cv2 dX4_spill_81 rfl (by first | assumption | (simp (disch := omega) only [up_s, up_n]; first | assumption | rfl)) rfl ?_
                refine Cm.rt (s_X3_boxOf' hh32 h2.2.1.2.1 ha) ?_
                refine x_cv1 dX4_spill_84 rfl (by first | assumption | (simp (disch := omega) only [up_s, up_n]; first | assumption | rfl)) rfl ?_
                refine Cm.rt (s_X2_size (h2.2.1.2.1.2 a ha)) ?_
                refine x_ireturn dX4_spill_87 ?_
                exact ⟨c2, h2, hf1.tr (fun k hk => q23 k (by omega)), rfl, rfl⟩
              · exact absurd (nI_le hr (by omega)) c42
            · exact absurd ((nI_eq (by omega) (by omega)).mp c10) hab
          · have hM : spillM (nI a) (nI b) (nI n) S = (Sum.inr 3, S) := by simp only [spillM, e1, e2, e3, if_neg hab, if_neg hr]
            rw [hM]
            refine Cm.in (M := M_X4_spill) (ls := [some (.ref 2), some (.int (nI a)), some (.int (nI b)), some (.int (nI n))]) rfl rfl ?_
            refine x_iload_n dX4_spill_0 rfl ?_
            refine x_cs1 dX4_spill_1 rfl ?_
            refine Cm.rv (s_rqLetter ha) ?_
            refine x_iload_n dX4_spill_4 rfl ?_
            refine x_cs1 dX4_spill_5 rfl ?_
            refine Cm.rv (s_rqLetter hb) ?_
            refine x_iload_n dX4_spill_8 rfl ?_
            refine x_iload_n dX4_spill_9 rfl ?_
            refine x_icmp_ne 23 dX4_spill_10 (by decide) (fun c10 => ?_) (fun c10 => ?_)
            · refine x_iload_n dX4_spill_23 rfl ?_
              refine x_iconst (nI 1) dX4_spill_24 (by decide) ?_
              refine x_bipush (nI 30) dX4_spill_25 (by decide) ?_
              refine x_cs3 dX4_spill_27 rfl ?_
              refine Cm.rv (s_rqRg hn1 hn2 (by omega)) ?_
              refine x_aload_n dX4_spill_30 rfl ?_
              refine x_getfield dX4_spill_31 rfl (by decide) (by first | assumption | (simp (disch := omega) only [up_s, up_n]; first | assumption | rfl)) rfl ?_
              refine x_iload_n dX4_spill_34 rfl ?_
              refine x_cv2 dX4_spill_35 rfl (by first | assumption | (simp (disch := omega) only [up_s, up_n]; first | assumption | rfl)) rfl ?_
              refine Cm.rt (s_X3_boxOf' hh3 h.2.1.2.1 ha) ?_
              refine x_cv1 dX4_spill_38 rfl (by first | assumption | (simp (disch := omega) only [up_s, up_n]; first | assumption | rfl)) rfl ?_
              refine Cm.rt (s_X2_size (h.2.1.2.1.2 a ha)) ?_
              refine x_iload_n dX4_spill_41 rfl ?_
              refine x_icmp_ge 55 dX4_spill_42 (by decide) (fun c42 => ?_) (fun c42 => ?_)
              · exact absurd ((nI_leI (by omega) (by omega)).mp c42) hr
              · refine x_throw dX4_spill_45 rfl rfl ?_
                exact ⟨c, h, FrC.rf, rfl, rfl⟩
            · exact absurd ((nI_eq (by omega) (by omega)).mp c10) hab
set_option maxRecDepth 20000 in
set_option maxHeartbeats 2000000 in
theorem s_X4_clean {c : Nat → VC} {z k s : Nat} {x : Bool} {S : St} (h : CaseAt c S) (hk : StOK S) {l : Int32} : Cm k_X4_clean [.ref 2, .int l] ((z, x, k, s), c) (CQ z x k s c (cleanM l S).1 (cleanM l S).2) := by
  have hh2 := h.1
  have hh3 := h.2.1.1
  have hhs := h.2.2.2.1.choose_spec.choose_spec.2.1
  cases e1 : ix l 27 with
  | none =>
    have hM : cleanM l S = (Sum.inr 1, S) := by simp only [cleanM, e1]
    rw [hM]
    refine Cm.in (M := M_X4_clean) (ls := [some (.ref 2), some (.int l)]) rfl rfl ?_
    refine x_iload_n dX4_clean_0 rfl ?_
    refine x_cs1 dX4_clean_1 rfl ?_
    exact Cm.rx (s_rqLetter_x (ix_none e1)) rfl ⟨c, h, FrC.rf, rfl, rfl⟩
  | some a =>
    obtain ⟨ha, rfl⟩ := ix_some (by omega) e1
    have hM : cleanM (nI a) S = (Sum.inl (.int (nI (foul S.1.1 a))), sv S (cleanB S.1.1 a, S.1.2.1, S.1.2.2.1, n1 S.1, n2 S.1, n3 S.1, n4 S.1 + nI 2 * nI (foul S.1.1 a), n5 S.1)) := by simp only [cleanM, e1]
    rw [hM]
    refine Cm.in (M := M_X4_clean) (ls := [some (.ref 2), some (.int (nI a))]) rfl rfl ?_
    refine x_iload_n dX4_clean_0 rfl ?_
    refine x_cs1 dX4_clean_1 rfl ?_
    refine Cm.rv (s_rqLetter ha) ?_
    refine x_aload_n dX4_clean_4 rfl ?_
    refine x_getfield dX4_clean_5 rfl (by decide) (by first | assumption | (simp (disch := omega) only [up_s, up_n]; first | assumption | rfl)) rfl ?_
    refine x_aload_n dX4_clean_8 rfl ?_
    refine x_getfield dX4_clean_9 rfl (by decide) (by first | assumption | (simp (disch := omega) only [up_s, up_n]; first | assumption | rfl)) rfl ?_
    refine x_cv2 dX4_clean_12 rfl (by first | assumption | (simp (disch := omega) only [up_s, up_n]; first | assumption | rfl)) rfl ?_
    refine Cm.ev (s_save h) (fun c1 q1 => ?_)
    obtain ⟨h1, hf1⟩ := q1
    have hh21 := h1.1
    have hh31 := h1.2.1.1
    refine x_aload_n dX4_clean_15 rfl ?_
    refine x_getfield dX4_clean_16 rfl (by decide) (by first | assumption | (simp (disch := omega) only [up_s, up_n]; first | assumption | rfl)) rfl ?_
    refine x_iload_n dX4_clean_19 rfl ?_
    refine x_cv2 dX4_clean_20 rfl (by first | assumption | (simp (disch := omega) only [up_s, up_n]; first | assumption | rfl)) rfl ?_
    refine Cm.ei (s_X3_cleanBox h1.2.1.1 h1.2.1.2.1 ha (SB_tot hk.1)) (fun v c2 q2 => ?_)
    obtain ⟨rfl, q21, q22, q23⟩ := q2
    have hs2 := h1.2.1.bx q21 q22 q23
    have h2 := h1.shop hs2 (fun k hk => q23 k (by omega) (by omega))
    refine x_ireturn dX4_clean_23 ?_
    exact ⟨c2, h2, hf1.tr (fun k hk => q23 k (by omega) (by omega)), rfl, rfl⟩
set_option maxRecDepth 20000 in
set_option maxHeartbeats 2000000 in
theorem s_X4_set {c : Nat → VC} {z k s : Nat} {x : Bool} {S : St} (h : CaseAt c S) (hk : StOK S) {p q : Int32} : Cm k_X4_set [.ref 2, .int p, .int q] ((z, x, k, s), c) (CQ z x k s c (setM p q S).1 (setM p q S).2) := by
  have hh2 := h.1
  have hh3 := h.2.1.1
  have hhs := h.2.2.2.1.choose_spec.choose_spec.2.1
  by_cases hp : ¬ p = 0 ∧ rg p 2 50 = none
  · have hM : setM p q S = (Sum.inr 2, S) := by simp only [setM, if_pos hp]
    rw [hM]
    refine Cm.in (M := M_X4_set) (ls := [some (.ref 2), some (.int p), some (.int q), none]) rfl rfl ?_
    refine x_iload_n dX4_set_0 rfl ?_
    refine x_if_eq 11 dX4_set_1 (by decide) (fun c1 => ?_) (fun c1 => ?_)
    · exact absurd c1 hp.1
    · refine x_iload_n dX4_set_4 rfl ?_
      refine x_iconst (nI 2) dX4_set_5 (by decide) ?_
      refine x_bipush (nI 50) dX4_set_6 (by decide) ?_
      refine x_cs3 dX4_set_8 rfl ?_
      exact Cm.rx (s_rqRg_x (rg_none hp.2)) rfl ⟨c, h, FrC.rf, rfl, rfl⟩
  · cases e2 : rg q 0 99 with
    | none =>
      have hM : setM p q S = (Sum.inr 2, S) := by simp only [setM, if_neg hp, e2]
      rw [hM]
      refine Cm.in (M := M_X4_set) (ls := [some (.ref 2), some (.int p), some (.int q), none]) rfl rfl ?_
      refine x_iload_n dX4_set_0 rfl ?_
      refine x_if_eq 11 dX4_set_1 (by decide) (fun c1 => ?_) (fun c1 => ?_)
      · refine x_iload_n dX4_set_11 rfl ?_
        refine x_iconst (nI 0) dX4_set_12 (by decide) ?_
        refine x_bipush (nI 99) dX4_set_13 (by decide) ?_
        refine x_cs3 dX4_set_15 rfl ?_
        exact Cm.rx (s_rqRg_x (rg_none e2)) rfl ⟨c, h, FrC.rf, rfl, rfl⟩
      · refine x_iload_n dX4_set_4 rfl ?_
        refine x_iconst (nI 2) dX4_set_5 (by decide) ?_
        refine x_bipush (nI 50) dX4_set_6 (by decide) ?_
        refine x_cs3 dX4_set_8 rfl ?_
        obtain ⟨n0, e9⟩ : ∃ n0, rg p 2 50 = some n0 := by
          cases e9 : rg p 2 50 with
          | none => exact absurd ⟨c1, e9⟩ hp
          | some n0 => exact ⟨n0, rfl⟩
        have hp9 := rg_some (by omega) (by omega) e9
        rw [hp9.2.2]
        refine Cm.rv (s_rqRg hp9.1 hp9.2.1 (by omega)) ?_
        rw [← hp9.2.2]
        refine x_iload_n dX4_set_11 rfl ?_
        refine x_iconst (nI 0) dX4_set_12 (by decide) ?_
        refine x_bipush (nI 99) dX4_set_13 (by decide) ?_
        refine x_cs3 dX4_set_15 rfl ?_
        exact Cm.rx (s_rqRg_x (rg_none e2)) rfl ⟨c, h, FrC.rf, rfl, rfl⟩
    | some n =>
      obtain ⟨hn1, hn2, rfl⟩ := rg_some (by omega) (by omega) e2
      have hM : setM p (nI n) S = (Sum.inl (.int (n1 S.1)), sv S (S.1.1, S.1.2.1, S.1.2.2.1, p, nI n, n3 S.1, n4 S.1, n5 S.1)) := by simp only [setM, if_neg hp, e2]
      rw [hM]
      refine Cm.in (M := M_X4_set) (ls := [some (.ref 2), some (.int p), some (.int (nI n)), none]) rfl rfl ?_
      refine x_iload_n dX4_set_0 rfl ?_
      refine x_if_eq 11 dX4_set_1 (by decide) (fun c1 => ?_) (fun c1 => ?_)
      · refine x_iload_n dX4_set_11 rfl ?_
        refine x_iconst (nI 0) dX4_set_12 (by decide) ?_
        refine x_bipush (nI 99) dX4_set_13 (by decide) ?_
        refine x_cs3 dX4_set_15 rfl ?_
        refine Cm.rv (s_rqRg hn1 hn2 (by omega)) ?_
        refine x_aload_n dX4_set_18 rfl ?_
        refine x_getfield dX4_set_19 rfl (by decide) (by first | assumption | (simp (disch := omega) only [up_s, up_n]; first | assumption | rfl)) rfl ?_
        refine x_aload_n dX4_set_22 rfl ?_
        refine x_getfield dX4_set_23 rfl (by decide) (by first | assumption | (simp (disch := omega) only [up_s, up_n]; first | assumption | rfl)) rfl ?_
        refine x_cv2 dX4_set_26 rfl (by first | assumption | (simp (disch := omega) only [up_s, up_n]; first | assumption | rfl)) rfl ?_
        refine Cm.ev (s_save h) (fun c1 q1 => ?_)
        obtain ⟨h1, hf1⟩ := q1
        have hh21 := h1.1
        have hh31 := h1.2.1.1
        refine x_aload_n dX4_set_29 rfl ?_
        refine x_getfield dX4_set_30 rfl (by decide) (by first | assumption | (simp (disch := omega) only [up_s, up_n]; first | assumption | rfl)) rfl ?_
        refine x_getfield dX4_set_33 rfl (by decide) (by first | assumption | (simp (disch := omega) only [up_s, up_n]; first | assumption | rfl)) rfl ?_
        refine x_istore_n3 dX4_set_36 rfl ?_
        refine x_aload_n dX4_set_37 rfl ?_
        refine x_getfield dX4_set_38 rfl (by decide) (by first | assumption | (simp (disch := omega) only [up_s, up_n]; first | assumption | rfl)) rfl ?_
        refine x_iload_n dX4_set_41 rfl ?_
        refine x_putfield3 dX4_set_42 rfl (by first | assumption | (simp (disch := omega) only [up_s, up_n]; first | assumption | rfl)) rfl ?_
        refine x_aload_n dX4_set_45 rfl ?_
        refine x_getfield dX4_set_46 rfl (by decide) (by first | assumption | (simp (disch := omega) only [up_s, up_n]; first | assumption | rfl)) rfl ?_
        refine x_iload_n dX4_set_49 rfl ?_
        refine x_putfield4 dX4_set_50 rfl (by first | assumption | (simp (disch := omega) only [up_s, up_n]; first | assumption | rfl)) rfl ?_
        refine x_iload_n dX4_set_53 rfl ?_
        refine x_ireturn dX4_set_54 ?_
        have hs2 : ShopAt (up (up c1 3 (cO 3 [.ref (3 + 1), .ref (3 + 2), .ref (3 + 3), .int p, .int (n2 S.1), .int (n3 S.1), .int (n4 S.1), .int (n5 S.1)])) 3 (cO 3 [.ref (3 + 1), .ref (3 + 2), .ref (3 + 3), .int p, .int (nI n), .int (n3 S.1), .int (n4 S.1), .int (n5 S.1)])) 3 (S.1.1, S.1.2.1, S.1.2.2.1, p, nI n, n3 S.1, n4 S.1, n5 S.1) :=
          h1.2.1.bx up_s (h1.2.1.2.1.fr (fun k z3 z4 => by simp (disch := omega) only [up_n])) (fun k z3 z4 => by simp (disch := omega) only [up_n])
        exact ⟨_, h1.shop hs2 (fun k hk => by simp (disch := omega) only [up_n]), hf1.tr (fun k hk => by simp (disch := omega) only [up_n]), rfl, rfl⟩
      · refine x_iload_n dX4_set_4 rfl ?_
        refine x_iconst (nI 2) dX4_set_5 (by decide) ?_
        refine x_bipush (nI 50) dX4_set_6 (by decide) ?_
        refine x_cs3 dX4_set_8 rfl ?_
        obtain ⟨n0, e9⟩ : ∃ n0, rg p 2 50 = some n0 := by
          cases e9 : rg p 2 50 with
          | none => exact absurd ⟨c1, e9⟩ hp
          | some n0 => exact ⟨n0, rfl⟩
        have hp9 := rg_some (by omega) (by omega) e9
        rw [hp9.2.2]
        refine Cm.rv (s_rqRg hp9.1 hp9.2.1 (by omega)) ?_
        rw [← hp9.2.2]
        refine x_iload_n dX4_set_11 rfl ?_
        refine x_iconst (nI 0) dX4_set_12 (by decide) ?_
        refine x_bipush (nI 99) dX4_set_13 (by decide) ?_
        refine x_cs3 dX4_set_15 rfl ?_
        refine Cm.rv (s_rqRg hn1 hn2 (by omega)) ?_
        refine x_aload_n dX4_set_18 rfl ?_
        refine x_getfield dX4_set_19 rfl (by decide) (by first | assumption | (simp (disch := omega) only [up_s, up_n]; first | assumption | rfl)) rfl ?_
        refine x_aload_n dX4_set_22 rfl ?_
        refine x_getfield dX4_set_23 rfl (by decide) (by first | assumption | (simp (disch := omega) only [up_s, up_n]; first | assumption | rfl)) rfl ?_
        refine x_cv2 dX4_set_26 rfl (by first | assumption | (simp (disch := omega) only [up_s, up_n]; first | assumption | rfl)) rfl ?_
        refine Cm.ev (s_save h) (fun c1 q1 => ?_)
        obtain ⟨h1, hf1⟩ := q1
        have hh21 := h1.1
        have hh31 := h1.2.1.1
        refine x_aload_n dX4_set_29 rfl ?_
        refine x_getfield dX4_set_30 rfl (by decide) (by first | assumption | (simp (disch := omega) only [up_s, up_n]; first | assumption | rfl)) rfl ?_
        refine x_getfield dX4_set_33 rfl (by decide) (by first | assumption | (simp (disch := omega) only [up_s, up_n]; first | assumption | rfl)) rfl ?_
        refine x_istore_n3 dX4_set_36 rfl ?_
        refine x_aload_n dX4_set_37 rfl ?_
        refine x_getfield dX4_set_38 rfl (by decide) (by first | assumption | (simp (disch := omega) only [up_s, up_n]; first | assumption | rfl)) rfl ?_
        refine x_iload_n dX4_set_41 rfl ?_
        refine x_putfield3 dX4_set_42 rfl (by first | assumption | (simp (disch := omega) only [up_s, up_n]; first | assumption | rfl)) rfl ?_
        refine x_aload_n dX4_set_45 rfl ?_
        refine x_getfield dX4_set_46 rfl (by decide) (by first | assumption | (simp (disch := omega) only [up_s, up_n]; first | assumption | rfl)) rfl ?_
        refine x_iload_n dX4_set_49 rfl ?_
        refine x_putfield4 dX4_set_50 rfl (by first | assumption | (simp (disch := omega) only [up_s, up_n]; first | assumption | rfl)) rfl ?_
        refine x_iload_n dX4_set_53 rfl ?_
        refine x_ireturn dX4_set_54 ?_
        have hs2 : ShopAt (up (up c1 3 (cO 3 [.ref (3 + 1), .ref (3 + 2), .ref (3 + 3), .int p, .int (n2 S.1), .int (n3 S.1), .int (n4 S.1), .int (n5 S.1)])) 3 (cO 3 [.ref (3 + 1), .ref (3 + 2), .ref (3 + 3), .int p, .int (nI n), .int (n3 S.1), .int (n4 S.1), .int (n5 S.1)])) 3 (S.1.1, S.1.2.1, S.1.2.2.1, p, nI n, n3 S.1, n4 S.1, n5 S.1) :=
          h1.2.1.bx up_s (h1.2.1.2.1.fr (fun k z3 z4 => by simp (disch := omega) only [up_n])) (fun k z3 z4 => by simp (disch := omega) only [up_n])
        exact ⟨_, h1.shop hs2 (fun k hk => by simp (disch := omega) only [up_n]), hf1.tr (fun k hk => by simp (disch := omega) only [up_n]), rfl, rfl⟩
