/-! the reference: public methods -/
theorem ncount {a : Nat} : ∀ {l : List Nat}, l.countP (fun y => !(y == a)) = l.length - l.count a
  | [] => rfl
  | x :: l => by
    have h1 := ncount (a := a) (l := l)
    have h2 : l.count a ≤ l.length := List.count_le_length
    rw [List.countP_cons, List.count_cons, h1, List.length_cons]
    by_cases e : x = a
    · simp [e]
    · simp [e]
      omega
theorem take_bk {l : List Nat} {B : Bx} {i : Nat} (hi : i < l.length) : bkL (l.take (i + 1)) B = pb (bkL (l.take i) B) l[i] l[i] := by
  rw [List.take_succ_eq_append_getElem hi, bkL_snoc]
set_option maxRecDepth 20000 in
set_option maxHeartbeats 1000000 in
theorem l_X5_clean {c : Nat → VC} {g : VG} {f vs as tx rw ll lt : Nat → Int32} {n tl th : Int32} {a : Nat} {l : List Nat} {B0 : Bx} (ha : a < 27) (hl27 : ∀ x ∈ l, x < 27) (hsb : SB B0 + l.length ≤ 250) (hrw : ∀ (i : Nat) (hi : i < l.length), rw i = nI l[i]) {Q : (Option Value ⊕ Nat) → VH → Prop} (hQ : ∀ c2 d2, RH c2 d2 vs as tx rw ll lt n tl th → FrR c c2 → BoxR d2 (bkL l B0) → (∀ k, 527 ≤ k → d2 k = f k) → Xm M_X5_clean 77 [some (.ref 456), some (.int (nI a)), some (.int (nI l.length)), some (.int (nI (l.length - l.count a))), some (.int (nI l.length))] [] (g, c2) Q) : ∀ (m i : Nat) (d9 : Nat → Int32) (c1 : Nat → VC), i ≤ l.length → l.length < i + m → RH c1 d9 vs as tx rw ll lt n tl th → FrR c c1 → BoxR d9 (bkL (l.take i) B0) → (∀ k, 527 ≤ k → d9 k = f k) → Xm M_X5_clean 28 [some (.ref 456), some (.int (nI a)), some (.int (nI l.length)), some (.int (nI ((l.take i).countP (fun y => !(y == a))))), some (.int (nI i))] [] (g, c1) Q := by
  intro m
  induction m with
  | zero => intro i d9 c1 z1 z2; omega
  | succ m ih =>
    intro i d9 c1 z1 z2 hR1 hF1 hB1 hd
    obtain ⟨hO, hA, hS, hD, hX, hW, hL, hT⟩ := id hR1
    refine x_iload dX5_clean_28 rfl ?_
    refine x_iload_n dX5_clean_30 rfl ?_
    refine x_icmp_ge 77 dX5_clean_31 (by decide) (fun c31 => ?_) (fun c31 => ?_)
    · have e1 : i = l.length := by have := (nI_leI (by omega) (by omega)).mp c31; omega
      subst e1
      rw [List.take_length] at hB1 ⊢
      rw [ncount]
      exact hQ c1 d9 hR1 hF1 hB1 hd
    · have hi : i < l.length := by
        by_cases q : i < l.length
        · exact q
        · exact absurd ((nI_leI (by omega) (by omega)).mpr (by omega)) c31
      have h27 := hl27 _ (List.getElem_mem hi)
      refine x_aload_n dX5_clean_34 rfl ?_
      refine x_aload_n dX5_clean_35 rfl ?_
      refine x_getfield dX5_clean_36 rfl (by decide) (by first | assumption | (simp (disch := omega) only [up_s, up_n]; first | assumption | rfl)) rfl ?_
      refine x_iload dX5_clean_39 rfl ?_
      refine x_ialoadN dX5_clean_41 (by first | assumption | (simp (disch := omega) only [up_s, up_n]; first | assumption | rfl)) (by omega) (by omega) ?_
      rw [hrw i hi]
      refine x_aload_n dX5_clean_42 rfl ?_
      refine x_getfield dX5_clean_43 rfl (by decide) (by first | assumption | (simp (disch := omega) only [up_s, up_n]; first | assumption | rfl)) rfl ?_
      refine x_iload dX5_clean_46 rfl ?_
      refine x_ialoadN dX5_clean_48 (by first | assumption | (simp (disch := omega) only [up_s, up_n]; first | assumption | rfl)) (by omega) (by omega) ?_
      rw [hrw i hi]
      refine x_cv3 dX5_clean_49 rfl (by first | assumption | (simp (disch := omega) only [up_s, up_n]; first | assumption | rfl)) rfl ?_
      have hsi := SB_bkL (l := l.take i) (B := B0) (fun x hx => hl27 x (List.mem_of_mem_take hx))
      rw [List.length_take, Nat.min_eq_left (by omega)] at hsi
      refine Cm.ev (s_X5_puts hO hA hB1 h27 h27 (by omega)) (fun c3 q3 => ?_)
      obtain ⟨d7, rfl, hB7, hd7⟩ := q3
      have hR2 := hR1.uA (f' := d7)
      obtain ⟨hO2, hA2, hS2, hD2, hX2, hW2, hL2, hT2⟩ := id hR2
      refine x_iload_n dX5_clean_52 rfl ?_
      refine x_aload_n dX5_clean_53 rfl ?_
      refine x_getfield dX5_clean_54 rfl (by decide) (by first | assumption | (simp (disch := omega) only [up_s, up_n]; first | assumption | rfl)) rfl ?_
      refine x_iload dX5_clean_57 rfl ?_
      refine x_ialoadN dX5_clean_59 (by first | assumption | (simp (disch := omega) only [up_s, up_n]; first | assumption | rfl)) (by omega) (by omega) ?_
      rw [hrw i hi]
      refine x_iload_n dX5_clean_60 rfl ?_
      refine x_icmp_ne 68 dX5_clean_61 (by decide) (fun c61 => ?_) (fun c61 => ?_)
      · have e9 : ¬ l[i] = a := fun z => c61 (by rw [z])
        refine x_iconst (nI 1) dX5_clean_68 (by decide) ?_
        refine x_iaddN dX5_clean_69 ?_
        refine x_istore_n3 dX5_clean_70 rfl ?_
        refine x_iincN_4 (1) dX5_clean_71 (by decide) rfl ?_
        refine x_goto 28 dX5_clean_74 (by decide) ?_
        have hz := ih (i + 1) d7 _ (by omega) (by omega) hR2 (hF1.u (by omega) (by omega)) (by rw [take_bk hi]; exact hB7) (fun k hk => by rw [hd7 k hk]; exact hd k hk)
        rw [take_cp1 (p := fun y => !(y == a)) hi (by simp [e9])] at hz
        exact hz
      · have e9 : l[i] = a := (nI_eq (by omega) (by omega)).mp c61
        refine x_iconst (nI 0) dX5_clean_64 (by decide) ?_
        refine x_goto 69 dX5_clean_65 (by decide) ?_
        refine x_iaddN dX5_clean_69 ?_
        refine x_istore_n3 dX5_clean_70 rfl ?_
        refine x_iincN_4 (1) dX5_clean_71 (by decide) rfl ?_
        refine x_goto 28 dX5_clean_74 (by decide) ?_
        have hz := ih (i + 1) d7 _ (by omega) (by omega) hR2 (hF1.u (by omega) (by omega)) (by rw [take_bk hi]; exact hB7) (fun k hk => by rw [hd7 k hk]; exact hd k hk)
        rw [take_cp0 (p := fun y => !(y == a)) hi (by simp [e9])] at hz
        exact hz
set_option maxRecDepth 20000 in
set_option maxHeartbeats 1000000 in
theorem k_X5_clean77 {c c1 : Nat → VC} {g : VG} {S : St} {f d2 v1 as tx rw ll lt : Nat → Int32} {th : Int32} {N : Nat} {B2 : Bx} {hs : List Sg} (hR1 : RH c1 d2 v1 as tx rw ll lt (nI hs.length) (nI S.2.1.length) th) (hRp : RepA f S.1) (hB : BoxR d2 B2) (hd : ∀ k, 527 ≤ k → d2 k = f k) (hH1 : HiR v1 hs) (hX0 : TxR tx S.2.1) (hF : FrR c c1) {o1 o2 o4 : Option Value} : Xm M_X5_clean 77 [some (.ref 456), o1, o2, some (.int (nI N)), o4] [] (g, c1) (RQ g c id (Sum.inl (.int (nI N))) ((B2, S.1.2.1, S.1.2.2.1, n1 S.1, n2 S.1, n3 S.1, n4 S.1 + nI 2 * nI N, n5 S.1), S.2.1, hs)) := by
  obtain ⟨u1, u2, u3, u4, u5⟩ := hRp.2.2.2
  obtain ⟨hO, hA, hS, hD, hX, hW, hL, hT⟩ := id hR1
  refine x_aload_n dX5_clean_77 rfl ?_
  refine x_getfield dX5_clean_78 rfl (by decide) (by first | assumption | (simp (disch := omega) only [up_s, up_n]; first | assumption | rfl)) rfl ?_
  refine x_sipush (nI 1519) dX5_clean_81 (by decide) ?_
  refine x_dup2 dX5_clean_84 rfl rfl ?_
  refine x_ialoadN dX5_clean_85 (by first | assumption | (simp (disch := omega) only [up_s, up_n]; first | assumption | rfl)) (by omega) (by omega) ?_
  refine x_iconst (nI 2) dX5_clean_86 (by decide) ?_
  refine x_iload_n dX5_clean_87 rfl ?_
  refine x_imul dX5_clean_88 ?_
  refine x_iadd dX5_clean_89 ?_
  refine x_iastoreN dX5_clean_90 (by first | assumption | (simp (disch := omega) only [up_s, up_n]; first | assumption | rfl)) (by omega) (by omega) ?_
  refine x_aload_n dX5_clean_91 rfl ?_
  refine x_iload_n dX5_clean_92 rfl ?_
  refine x_cv2 dX5_clean_93 rfl (by first | assumption | (simp (disch := omega) only [up_s, up_n]; first | assumption | rfl)) rfl ?_
  refine Cm.ei (s_X5_fine hR1.uA) (fun w c9 q9 => ?_)
  obtain ⟨rfl, w1, w2⟩ := q9
  refine x_ireturn dX5_clean_96 ?_
  exact ⟨_, c9, 0, rfl, rfl, ⟨_, v1, as, tx, rw, ll, lt, w1, hRp.mk' (hB.fr (fun k hk => by rw [pk_un (by omega)])) (fun k z1 z2 => by rw [pk_un (by omega)]; exact hd k z1) (by rw [pk_un (by omega), hd _ (by omega), u1]) (by rw [pk_un (by omega), hd _ (by omega), u2]) (by rw [pk_un (by omega), hd _ (by omega), u3]) (by rw [pk_us, hd _ (by omega), u4]) (by rw [pk_un (by omega), hd _ (by omega), u5]), hH1, hX0⟩, (hF.u (by omega) (by omega)).tr w2, rfl, rfl⟩
set_option maxRecDepth 20000 in
set_option maxHeartbeats 2000000 in
theorem s_X5_clean {c : Nat → VC} {g : VG} {S : St} {th : Int32} (h : RefAt c S th) {l : Int32} : Cm k_X5_clean [.ref 456, .int l] (g, c) (RQ g c (id) (cleanM l S).1 (cleanM l S).2) := by
  obtain ⟨f, vs, as, tx, rw, ll, lt, hR, hRp, hH, hX0⟩ := h
  obtain ⟨hO, hA, hS, hD, hX, hW, hL, hT⟩ := id hR
  obtain ⟨u1, u2, u3, u4, u5⟩ := hRp.2.2.2
  cases e1 : ix l 27 with
  | none =>
    have hM : cleanM l S = (Sum.inr 1, S) := by simp only [cleanM, e1]
    rw [hM]
    refine Cm.in (M := M_X5_clean) (ls := [some (.ref 456), some (.int l), none, none, none]) rfl rfl ?_
    refine x_iload_n dX5_clean_0 rfl ?_
    refine x_cs1 dX5_clean_1 rfl ?_
    refine Cm.rt s_X5_isLetter ?_
    rw [e1]
    refine x_if_ne 13 dX5_clean_4 (by decide) (fun c4 => ?_) (fun c4 => ?_)
    · exact absurd rfl c4
    · refine x_aload_n dX5_clean_7 rfl ?_
      refine x_iconst (nI 1) dX5_clean_8 (by decide) ?_
      refine x_cv2 dX5_clean_9 rfl (by first | assumption | (simp (disch := omega) only [up_s, up_n]; first | assumption | rfl)) rfl ?_
      refine Cm.ei (s_X5_throwing hR) (fun w c9 q9 => ?_)
      obtain ⟨rfl, w1, w2⟩ := q9
      refine x_ireturn dX5_clean_12 ?_
      exact ⟨_, c9, 1, rfl, rfl, ⟨f, vs, as, tx, rw, ll, lt, w1, hRp, hH, hX0⟩, w2, rfl, rfl⟩
  | some a =>
    obtain ⟨ha, rfl⟩ := ix_some (by omega) e1
    have hsb := SB_le (B := S.1.1) ha
    have h250 := hRp.1.le
    have hM : cleanM (nI a) S = (Sum.inl (.int (nI (foul S.1.1 a))), sv S (cleanB S.1.1 a, S.1.2.1, S.1.2.2.1, n1 S.1, n2 S.1, n3 S.1, n4 S.1 + nI 2 * nI (foul S.1.1 a), n5 S.1)) := by simp only [cleanM, e1]
    rw [hM]
    have hsu := SB_uf (B := S.1.1) (l := []) ha
    have hl27 : ∀ x ∈ S.1.1 a, x < 27 := by
      obtain ⟨ss, hss⟩ := hRp.1
      exact hss.2.2.2.2.2.2 a ha
    rw [List.length_nil] at hsu
    refine Cm.in (M := M_X5_clean) (ls := [some (.ref 456), some (.int (nI a)), none, none, none]) rfl rfl ?_
    refine x_iload_n dX5_clean_0 rfl ?_
    refine x_cs1 dX5_clean_1 rfl ?_
    refine Cm.rt s_X5_isLetter ?_
    rw [e1]
    refine x_if_ne 13 dX5_clean_4 (by decide) (fun c4 => ?_) (fun c4 => ?_)
    · refine x_aload_n dX5_clean_13 rfl ?_
      refine x_cv1 dX5_clean_14 rfl (by first | assumption | (simp (disch := omega) only [up_s, up_n]; first | assumption | rfl)) rfl ?_
      refine Cm.ev (s_X5_save hR hH hRp) (fun c1 q1 => ?_)
      obtain ⟨v1, hR1, hF1, hH1⟩ := q1
      obtain ⟨hO1, hA1, hS1, hD1, hX1, hW1, hL1, hT1⟩ := id hR1
      refine x_aload_n dX5_clean_17 rfl ?_
      refine x_iload_n dX5_clean_18 rfl ?_
      refine x_cv2 dX5_clean_19 rfl (by first | assumption | (simp (disch := omega) only [up_s, up_n]; first | assumption | rfl)) rfl ?_
      refine Cm.ei (s_X5_empties hR1 hRp.1 ha) (fun w c2 q2 => ?_)
      obtain ⟨rfl, f2, rw2, hR2, hF2, hB2, hfr, hrw⟩ := q2
      refine x_istore_n2 dX5_clean_22 rfl ?_
      refine x_iconst (nI 0) dX5_clean_23 (by decide) ?_
      refine x_istore_n3 dX5_clean_24 rfl ?_
      refine x_iconst (nI 0) dX5_clean_25 (by decide) ?_
      refine x_istore_4 dX5_clean_26 rfl ?_
      refine l_X5_clean (f := f2) (c := c2) (l := S.1.1 a) (B0 := uf S.1.1 a []) ha hl27 (by omega) hrw (fun c3 d3 hR3 hF3 hB3 hd3 => ?_) ((S.1.1 a).length + 1) 0 f2 c2 (Nat.zero_le _) (by omega) hR2 FrR.rf hB2 (fun k hk => rfl)
      exact k_X5_clean77 (S := S) (hs := saveH S.2.2 S.1) hR3 hRp hB3 (fun k hk => by rw [hd3 k hk]; exact hfr k hk) hH1 hX0 ((hF1.tr hF2).tr hF3)
    · exact absurd (show bV true = 0 from c4) (by decide)
set_option maxRecDepth 20000 in
set_option maxHeartbeats 2000000 in
theorem s_X5_set {c : Nat → VC} {g : VG} {S : St} {th : Int32} (h : RefAt c S th) {p q : Int32} : Cm k_X5_set [.ref 456, .int p, .int q] (g, c) (RQ g c (fun E => E - 1) (setM p q S).1 (setM p q S).2) := by
  obtain ⟨f, vs, as, tx, rw, ll, lt, hR, hRp, hH, hX0⟩ := h
  obtain ⟨hO, hA, hS, hD, hX, hW, hL, hT⟩ := id hR
  obtain ⟨u1, u2, u3, u4, u5⟩ := hRp.2.2.2
  by_cases e0 : p = 0
  · cases e2 : rg q 0 99 with
    | none =>
      have hM : setM p q S = (Sum.inr 2, S) := by simp only [setM, if_neg (fun z : ¬ p = 0 ∧ rg p 2 50 = none => z.1 e0), e2]
      rw [hM]
      subst e0
      refine Cm.in (M := M_X5_set) (ls := [some (.ref 456), some (.int (0)), some (.int q), none]) rfl rfl ?_
      refine x_iload_n dX5_set_0 rfl ?_
      refine x_if_eq 18 dX5_set_1 (by decide) (fun c1 => ?_) (fun c1 => ?_)
      · refine x_iload_n dX5_set_18 rfl ?_
        refine x_i2l dX5_set_19 ?_
        refine x_lconst (0) dX5_set_20 (by decide) ?_
        refine x_ldc2_w dX5_set_21 rfl ?_
        refine x_cs3 dX5_set_24 rfl ?_
        refine Cm.rt s_X5_in ?_
        rw [in_rg (a := 0) (b := 99) (by omega) (by omega) (by decide) (by decide), e2]
        refine x_if_ne 36 dX5_set_27 (by decide) (fun c27 => ?_) (fun c27 => ?_)
        · exact absurd rfl c27
        · refine x_aload_n dX5_set_30 rfl ?_
          refine x_iconst (nI 1) dX5_set_31 (by decide) ?_
          refine x_cv2 dX5_set_32 rfl (by first | assumption | (simp (disch := omega) only [up_s, up_n]; first | assumption | rfl)) rfl ?_
          refine Cm.ei (s_X5_throwing hR) (fun w c9 q9 => ?_)
          obtain ⟨rfl, w1, w2⟩ := q9
          refine x_ireturn dX5_set_35 ?_
          exact ⟨_, c9, 1, rfl, rfl, ⟨f, vs, as, tx, rw, ll, lt, w1, hRp, hH, hX0⟩, w2, rfl, rfl⟩
      · exact absurd rfl c1
    | some y =>
      have hM : setM p q S = (Sum.inl (.int (n1 S.1)), sv S (S.1.1, S.1.2.1, S.1.2.2.1, p, q, n3 S.1, n4 S.1, n5 S.1)) := by simp only [setM, if_neg (fun z : ¬ p = 0 ∧ rg p 2 50 = none => z.1 e0), e2]
      rw [hM]
      subst e0
      refine Cm.in (M := M_X5_set) (ls := [some (.ref 456), some (.int (0)), some (.int q), none]) rfl rfl ?_
      refine x_iload_n dX5_set_0 rfl ?_
      refine x_if_eq 18 dX5_set_1 (by decide) (fun c1 => ?_) (fun c1 => ?_)
      · refine x_iload_n dX5_set_18 rfl ?_
        refine x_i2l dX5_set_19 ?_
        refine x_lconst (0) dX5_set_20 (by decide) ?_
        refine x_ldc2_w dX5_set_21 rfl ?_
        refine x_cs3 dX5_set_24 rfl ?_
        refine Cm.rt s_X5_in ?_
        rw [in_rg (a := 0) (b := 99) (by omega) (by omega) (by decide) (by decide), e2]
        refine x_if_ne 36 dX5_set_27 (by decide) (fun c27 => ?_) (fun c27 => ?_)
        · refine x_aload_n dX5_set_36 rfl ?_
          refine x_cv1 dX5_set_37 rfl (by first | assumption | (simp (disch := omega) only [up_s, up_n]; first | assumption | rfl)) rfl ?_
          refine Cm.ev (s_X5_save hR hH hRp) (fun c1 q1 => ?_)
          obtain ⟨v1, hR1, hF1, hH1⟩ := q1
          obtain ⟨hO1, hA1, hS1, hD1, hX1, hW1, hL1, hT1⟩ := id hR1
          refine x_aload_n dX5_set_40 rfl ?_
          refine x_getfield dX5_set_41 rfl (by decide) (by first | assumption | (simp (disch := omega) only [up_s, up_n]; first | assumption | rfl)) rfl ?_
          refine x_sipush (nI 1516) dX5_set_44 (by decide) ?_
          refine x_ialoadN dX5_set_47 (by first | assumption | (simp (disch := omega) only [up_s, up_n]; first | assumption | rfl)) (by omega) (by omega) ?_
          rw [u1]
          refine x_istore_n3 dX5_set_48 rfl ?_
          refine x_aload_n dX5_set_49 rfl ?_
          refine x_getfield dX5_set_50 rfl (by decide) (by first | assumption | (simp (disch := omega) only [up_s, up_n]; first | assumption | rfl)) rfl ?_
          refine x_sipush (nI 1516) dX5_set_53 (by decide) ?_
          refine x_iload_n dX5_set_56 rfl ?_
          refine x_iastoreN dX5_set_57 (by first | assumption | (simp (disch := omega) only [up_s, up_n]; first | assumption | rfl)) (by omega) (by omega) ?_
          refine x_aload_n dX5_set_58 rfl ?_
          refine x_getfield dX5_set_59 rfl (by decide) (by first | assumption | (simp (disch := omega) only [up_s, up_n]; first | assumption | rfl)) rfl ?_
          refine x_sipush (nI 1517) dX5_set_62 (by decide) ?_
          refine x_iload_n dX5_set_65 rfl ?_
          refine x_iastoreN dX5_set_66 (by first | assumption | (simp (disch := omega) only [up_s, up_n]; first | assumption | rfl)) (by omega) (by omega) ?_
          refine x_aload_n dX5_set_67 rfl ?_
          refine x_iload_n dX5_set_68 rfl ?_
          refine x_cv2 dX5_set_69 rfl (by first | assumption | (simp (disch := omega) only [up_s, up_n]; first | assumption | rfl)) rfl ?_
          refine Cm.ei (s_X5_fine hR1.uA.uA) (fun w c9 q9 => ?_)
          obtain ⟨rfl, w1, w2⟩ := q9
          refine x_ireturn dX5_set_72 ?_
          exact ⟨_, c9, 0, rfl, rfl, ⟨_, v1, as, tx, rw, ll, lt, w1, hRp.mk' (hRp.1.fr (fun k hk => by rw [pk_un (by omega), pk_un (by omega)])) (fun k z1 z2 => by rw [pk_un (by omega), pk_un (by omega)]) (by rw [pk_un (by omega), pk_us]) (by rw [pk_us]) (by rw [pk_un (by omega), pk_un (by omega), u3]) (by rw [pk_un (by omega), pk_un (by omega), u4]) (by rw [pk_un (by omega), pk_un (by omega), u5]), hH1, hX0⟩, ((hF1.u (by omega) (by omega)).u (by omega) (by omega)).tr w2, rfl, rfl⟩
        · exact absurd (show bV true = 0 from c27) (by decide)
      · exact absurd rfl c1
  · cases e1 : rg p 2 50 with
    | none =>
      have hM : setM p q S = (Sum.inr 2, S) := by simp only [setM, if_pos (⟨e0, e1⟩ : ¬ p = 0 ∧ rg p 2 50 = none)]
      rw [hM]
      refine Cm.in (M := M_X5_set) (ls := [some (.ref 456), some (.int p), some (.int q), none]) rfl rfl ?_
      refine x_iload_n dX5_set_0 rfl ?_
      refine x_if_eq 18 dX5_set_1 (by decide) (fun c1 => ?_) (fun c1 => ?_)
      · exact absurd c1 e0
      · refine x_iload_n dX5_set_4 rfl ?_
        refine x_i2l dX5_set_5 ?_
        refine x_ldc2_w dX5_set_6 rfl ?_
        refine x_ldc2_w dX5_set_9 rfl ?_
        refine x_cs3 dX5_set_12 rfl ?_
        refine Cm.rt s_X5_in ?_
        rw [in_rg (a := 2) (b := 50) (by omega) (by omega) (by decide) (by decide), e1]
        refine x_if_eq 30 dX5_set_15 (by decide) (fun c15 => ?_) (fun c15 => ?_)
        · refine x_aload_n dX5_set_30 rfl ?_
          refine x_iconst (nI 1) dX5_set_31 (by decide) ?_
          refine x_cv2 dX5_set_32 rfl (by first | assumption | (simp (disch := omega) only [up_s, up_n]; first | assumption | rfl)) rfl ?_
          refine Cm.ei (s_X5_throwing hR) (fun w c9 q9 => ?_)
          obtain ⟨rfl, w1, w2⟩ := q9
          refine x_ireturn dX5_set_35 ?_
          exact ⟨_, c9, 1, rfl, rfl, ⟨f, vs, as, tx, rw, ll, lt, w1, hRp, hH, hX0⟩, w2, rfl, rfl⟩
        · exact absurd rfl c15
    | some x =>
      have hn : ¬ (¬ p = 0 ∧ rg p 2 50 = none) := fun z => by rw [e1] at z; exact absurd z.2 (by simp)
      cases e2 : rg q 0 99 with
      | none =>
        have hM : setM p q S = (Sum.inr 2, S) := by simp only [setM, if_neg hn, e2]
        rw [hM]
        refine Cm.in (M := M_X5_set) (ls := [some (.ref 456), some (.int p), some (.int q), none]) rfl rfl ?_
        refine x_iload_n dX5_set_0 rfl ?_
        refine x_if_eq 18 dX5_set_1 (by decide) (fun c1 => ?_) (fun c1 => ?_)
        · exact absurd c1 e0
        · refine x_iload_n dX5_set_4 rfl ?_
          refine x_i2l dX5_set_5 ?_
          refine x_ldc2_w dX5_set_6 rfl ?_
          refine x_ldc2_w dX5_set_9 rfl ?_
          refine x_cs3 dX5_set_12 rfl ?_
          refine Cm.rt s_X5_in ?_
          rw [in_rg (a := 2) (b := 50) (by omega) (by omega) (by decide) (by decide), e1]
          refine x_if_eq 30 dX5_set_15 (by decide) (fun c15 => ?_) (fun c15 => ?_)
          · exact absurd (show bV true = 0 from c15) (by decide)
          · refine x_iload_n dX5_set_18 rfl ?_
            refine x_i2l dX5_set_19 ?_
            refine x_lconst (0) dX5_set_20 (by decide) ?_
            refine x_ldc2_w dX5_set_21 rfl ?_
            refine x_cs3 dX5_set_24 rfl ?_
            refine Cm.rt s_X5_in ?_
            rw [in_rg (a := 0) (b := 99) (by omega) (by omega) (by decide) (by decide), e2]
            refine x_if_ne 36 dX5_set_27 (by decide) (fun c27 => ?_) (fun c27 => ?_)
            · exact absurd rfl c27
            · refine x_aload_n dX5_set_30 rfl ?_
              refine x_iconst (nI 1) dX5_set_31 (by decide) ?_
              refine x_cv2 dX5_set_32 rfl (by first | assumption | (simp (disch := omega) only [up_s, up_n]; first | assumption | rfl)) rfl ?_
              refine Cm.ei (s_X5_throwing hR) (fun w c9 q9 => ?_)
              obtain ⟨rfl, w1, w2⟩ := q9
              refine x_ireturn dX5_set_35 ?_
              exact ⟨_, c9, 1, rfl, rfl, ⟨f, vs, as, tx, rw, ll, lt, w1, hRp, hH, hX0⟩, w2, rfl, rfl⟩
      | some y =>
        have hM : setM p q S = (Sum.inl (.int (n1 S.1)), sv S (S.1.1, S.1.2.1, S.1.2.2.1, p, q, n3 S.1, n4 S.1, n5 S.1)) := by simp only [setM, if_neg hn, e2]
        rw [hM]
        refine Cm.in (M := M_X5_set) (ls := [some (.ref 456), some (.int p), some (.int q), none]) rfl rfl ?_
        refine x_iload_n dX5_set_0 rfl ?_
        refine x_if_eq 18 dX5_set_1 (by decide) (fun c1 => ?_) (fun c1 => ?_)
        · exact absurd c1 e0
        · refine x_iload_n dX5_set_4 rfl ?_
          refine x_i2l dX5_set_5 ?_
          refine x_ldc2_w dX5_set_6 rfl ?_
          refine x_ldc2_w dX5_set_9 rfl ?_
          refine x_cs3 dX5_set_12 rfl ?_
          refine Cm.rt s_X5_in ?_
          rw [in_rg (a := 2) (b := 50) (by omega) (by omega) (by decide) (by decide), e1]
          refine x_if_eq 30 dX5_set_15 (by decide) (fun c15 => ?_) (fun c15 => ?_)
          · exact absurd (show bV true = 0 from c15) (by decide)
          · refine x_iload_n dX5_set_18 rfl ?_
            refine x_i2l dX5_set_19 ?_
            refine x_lconst (0) dX5_set_20 (by decide) ?_
            refine x_ldc2_w dX5_set_21 rfl ?_
            refine x_cs3 dX5_set_24 rfl ?_
            refine Cm.rt s_X5_in ?_
            rw [in_rg (a := 0) (b := 99) (by omega) (by omega) (by decide) (by decide), e2]
            refine x_if_ne 36 dX5_set_27 (by decide) (fun c27 => ?_) (fun c27 => ?_)
            · refine x_aload_n dX5_set_36 rfl ?_
              refine x_cv1 dX5_set_37 rfl (by first | assumption | (simp (disch := omega) only [up_s, up_n]; first | assumption | rfl)) rfl ?_
              refine Cm.ev (s_X5_save hR hH hRp) (fun c1 q1 => ?_)
              obtain ⟨v1, hR1, hF1, hH1⟩ := q1
              obtain ⟨hO1, hA1, hS1, hD1, hX1, hW1, hL1, hT1⟩ := id hR1
              refine x_aload_n dX5_set_40 rfl ?_
              refine x_getfield dX5_set_41 rfl (by decide) (by first | assumption | (simp (disch := omega) only [up_s, up_n]; first | assumption | rfl)) rfl ?_
              refine x_sipush (nI 1516) dX5_set_44 (by decide) ?_
              refine x_ialoadN dX5_set_47 (by first | assumption | (simp (disch := omega) only [up_s, up_n]; first | assumption | rfl)) (by omega) (by omega) ?_
              rw [u1]
              refine x_istore_n3 dX5_set_48 rfl ?_
              refine x_aload_n dX5_set_49 rfl ?_
              refine x_getfield dX5_set_50 rfl (by decide) (by first | assumption | (simp (disch := omega) only [up_s, up_n]; first | assumption | rfl)) rfl ?_
              refine x_sipush (nI 1516) dX5_set_53 (by decide) ?_
              refine x_iload_n dX5_set_56 rfl ?_
              refine x_iastoreN dX5_set_57 (by first | assumption | (simp (disch := omega) only [up_s, up_n]; first | assumption | rfl)) (by omega) (by omega) ?_
              refine x_aload_n dX5_set_58 rfl ?_
              refine x_getfield dX5_set_59 rfl (by decide) (by first | assumption | (simp (disch := omega) only [up_s, up_n]; first | assumption | rfl)) rfl ?_
              refine x_sipush (nI 1517) dX5_set_62 (by decide) ?_
              refine x_iload_n dX5_set_65 rfl ?_
              refine x_iastoreN dX5_set_66 (by first | assumption | (simp (disch := omega) only [up_s, up_n]; first | assumption | rfl)) (by omega) (by omega) ?_
              refine x_aload_n dX5_set_67 rfl ?_
              refine x_iload_n dX5_set_68 rfl ?_
              refine x_cv2 dX5_set_69 rfl (by first | assumption | (simp (disch := omega) only [up_s, up_n]; first | assumption | rfl)) rfl ?_
              refine Cm.ei (s_X5_fine hR1.uA.uA) (fun w c9 q9 => ?_)
              obtain ⟨rfl, w1, w2⟩ := q9
              refine x_ireturn dX5_set_72 ?_
              exact ⟨_, c9, 0, rfl, rfl, ⟨_, v1, as, tx, rw, ll, lt, w1, hRp.mk' (hRp.1.fr (fun k hk => by rw [pk_un (by omega), pk_un (by omega)])) (fun k z1 z2 => by rw [pk_un (by omega), pk_un (by omega)]) (by rw [pk_un (by omega), pk_us]) (by rw [pk_us]) (by rw [pk_un (by omega), pk_un (by omega), u3]) (by rw [pk_un (by omega), pk_un (by omega), u4]) (by rw [pk_un (by omega), pk_un (by omega), u5]), hH1, hX0⟩, ((hF1.u (by omega) (by omega)).u (by omega) (by omega)).tr w2, rfl, rfl⟩
            · exact absurd (show bV true = 0 from c27) (by decide)
set_option maxRecDepth 20000 in
set_option maxHeartbeats 2000000 in
theorem s_X5_letter {c : Nat → VC} {g : VG} {S : St} {th : Int32} (h : RefAt c S th) {l w : Int32} : Cm k_X5_letter [.ref 456, .int l, .int w] (g, c) (RQ g c (id) (letterM l w S).1 (letterM l w S).2) := by
  obtain ⟨f, vs, as, tx, rw, ll, lt, hR, hRp, hH, hX0⟩ := h
  obtain ⟨hO, hA, hS, hD, hX, hW, hL, hT⟩ := id hR
  obtain ⟨u1, u2, u3, u4, u5⟩ := hRp.2.2.2
  cases e1 : ix l 27 with
  | none =>
    have hM : letterM l w S = (Sum.inr 1, S) := by simp only [letterM, e1]
    rw [hM]
    refine Cm.in (M := M_X5_letter) (ls := [some (.ref 456), some (.int l), some (.int w)]) rfl rfl ?_
    refine x_iload_n dX5_letter_0 rfl ?_
    refine x_cs1 dX5_letter_1 rfl ?_
    refine Cm.rt s_X5_isLetter ?_
    rw [e1]
    refine x_if_ne 13 dX5_letter_4 (by decide) (fun c4 => ?_) (fun c4 => ?_)
    · exact absurd rfl c4
    · refine x_aload_n dX5_letter_7 rfl ?_
      refine x_iconst (nI 1) dX5_letter_8 (by decide) ?_
      refine x_cv2 dX5_letter_9 rfl (by first | assumption | (simp (disch := omega) only [up_s, up_n]; first | assumption | rfl)) rfl ?_
      refine Cm.ei (s_X5_throwing hR) (fun w c9 q9 => ?_)
      obtain ⟨rfl, w1, w2⟩ := q9
      refine x_ireturn dX5_letter_12 ?_
      exact ⟨_, c9, 1, rfl, rfl, ⟨f, vs, as, tx, rw, ll, lt, w1, hRp, hH, hX0⟩, w2, rfl, rfl⟩
  | some a =>
    obtain ⟨ha, rfl⟩ := ix_some (by omega) e1
    cases e2 : rg w 0 7 with
    | none =>
      have hM : letterM (nI a) w S = (Sum.inr 2, S) := by simp only [letterM, e1, e2]
      rw [hM]
      refine Cm.in (M := M_X5_letter) (ls := [some (.ref 456), some (.int (nI a)), some (.int w)]) rfl rfl ?_
      refine x_iload_n dX5_letter_0 rfl ?_
      refine x_cs1 dX5_letter_1 rfl ?_
      refine Cm.rt s_X5_isLetter ?_
      rw [e1]
      refine x_if_ne 13 dX5_letter_4 (by decide) (fun c4 => ?_) (fun c4 => ?_)
      · refine x_iload_n dX5_letter_13 rfl ?_
        refine x_i2l dX5_letter_14 ?_
        refine x_lconst (0) dX5_letter_15 (by decide) ?_
        refine x_ldc2_w dX5_letter_16 rfl ?_
        refine x_cs3 dX5_letter_19 rfl ?_
        refine Cm.rt s_X5_in ?_
        rw [in_rg (a := 0) (b := 7) (by omega) (by omega) (by decide) (by decide), e2]
        refine x_if_eq 38 dX5_letter_22 (by decide) (fun c22 => ?_) (fun c22 => ?_)
        · refine x_aload_n dX5_letter_38 rfl ?_
          refine x_iconst (nI 2) dX5_letter_39 (by decide) ?_
          refine x_cv2 dX5_letter_40 rfl (by first | assumption | (simp (disch := omega) only [up_s, up_n]; first | assumption | rfl)) rfl ?_
          refine Cm.ei (s_X5_throwing hR) (fun w c9 q9 => ?_)
          obtain ⟨rfl, w1, w2⟩ := q9
          refine x_ireturn dX5_letter_43 ?_
          exact ⟨_, c9, 2, rfl, rfl, ⟨f, vs, as, tx, rw, ll, lt, w1, hRp, hH, hX0⟩, w2, rfl, rfl⟩
        · exact absurd rfl c22
      · exact absurd (show bV true = 0 from c4) (by decide)
    | some n =>
      obtain ⟨hn1, hn2, rfl⟩ := rg_some (by omega) (by omega) e2
      have hM : letterM (nI a) (nI n) S = (Sum.inl (.int (letV S a n)), S) := by simp only [letterM, e1, e2]
      rw [hM]
      refine Cm.in (M := M_X5_letter) (ls := [some (.ref 456), some (.int (nI a)), some (.int (nI n))]) rfl rfl ?_
      refine x_iload_n dX5_letter_0 rfl ?_
      refine x_cs1 dX5_letter_1 rfl ?_
      refine Cm.rt s_X5_isLetter ?_
      rw [e1]
      refine x_if_ne 13 dX5_letter_4 (by decide) (fun c4 => ?_) (fun c4 => ?_)
      · refine x_iload_n dX5_letter_13 rfl ?_
        refine x_i2l dX5_letter_14 ?_
        refine x_lconst (0) dX5_letter_15 (by decide) ?_
        refine x_ldc2_w dX5_letter_16 rfl ?_
        refine x_cs3 dX5_letter_19 rfl ?_
        refine Cm.rt s_X5_in ?_
        rw [in_rg (a := 0) (b := 7) (by omega) (by omega) (by decide) (by decide), e2]
        refine x_if_eq 38 dX5_letter_22 (by decide) (fun c22 => ?_) (fun c22 => ?_)
        · exact absurd (show bV true = 0 from c22) (by decide)
        · refine x_aload_n dX5_letter_25 rfl ?_
          refine x_aload_n dX5_letter_26 rfl ?_
          refine x_iload_n dX5_letter_27 rfl ?_
          refine x_iload_n dX5_letter_28 rfl ?_
          refine x_cv3 dX5_letter_29 rfl (by first | assumption | (simp (disch := omega) only [up_s, up_n]; first | assumption | rfl)) rfl ?_
          refine Cm.rt (s_X5_letterOf (S := S) hO hA hX hX0 hRp ha (by omega)) ?_
          refine x_cv2 dX5_letter_32 rfl (by first | assumption | (simp (disch := omega) only [up_s, up_n]; first | assumption | rfl)) rfl ?_
          refine Cm.ei (s_X5_fine hR) (fun w c9 q9 => ?_)
          obtain ⟨rfl, w1, w2⟩ := q9
          refine x_goto 43 dX5_letter_35 (by decide) ?_
          refine x_ireturn dX5_letter_43 ?_
          exact ⟨_, c9, 0, rfl, rfl, ⟨f, vs, as, tx, rw, ll, lt, w1, hRp, hH, hX0⟩, w2, rfl, rfl⟩
      · exact absurd (show bV true = 0 from c4) (by decide)
set_option maxRecDepth 20000 in
set_option maxHeartbeats 2000000 in
theorem s_X5_value {c : Nat → VC} {g : VG} {S : St} {th : Int32} (h : RefAt c S th) {w : Int32} : Cm k_X5_value [.ref 456, .int w] (g, c) (RQ g c (fun E => E - 1) (valueM w S).1 (valueM w S).2) := by
  obtain ⟨f, vs, as, tx, rw, ll, lt, hR, hRp, hH, hX0⟩ := h
  obtain ⟨hO, hA, hS, hD, hX, hW, hL, hT⟩ := id hR
  obtain ⟨u1, u2, u3, u4, u5⟩ := hRp.2.2.2
  cases e2 : rg w 0 11 with
  | none =>
    have hM : valueM w S = (Sum.inr 2, S) := by simp only [valueM, e2]
    rw [hM]
    refine Cm.in (M := M_X5_value) (ls := [some (.ref 456), some (.int w)]) rfl rfl ?_
    refine x_iload_n dX5_value_0 rfl ?_
    refine x_i2l dX5_value_1 ?_
    refine x_lconst (0) dX5_value_2 (by decide) ?_
    refine x_ldc2_w dX5_value_3 rfl ?_
    refine x_cs3 dX5_value_6 rfl ?_
    refine Cm.rt s_X5_in ?_
    rw [in_rg (a := 0) (b := 11) (by omega) (by omega) (by decide) (by decide), e2]
    refine x_if_eq 24 dX5_value_9 (by decide) (fun c9 => ?_) (fun c9 => ?_)
    · refine x_aload_n dX5_value_24 rfl ?_
      refine x_iconst (nI 1) dX5_value_25 (by decide) ?_
      refine x_cv2 dX5_value_26 rfl (by first | assumption | (simp (disch := omega) only [up_s, up_n]; first | assumption | rfl)) rfl ?_
      refine Cm.ei (s_X5_throwing hR) (fun w c9 q9 => ?_)
      obtain ⟨rfl, w1, w2⟩ := q9
      refine x_ireturn dX5_value_29 ?_
      exact ⟨_, c9, 1, rfl, rfl, ⟨f, vs, as, tx, rw, ll, lt, w1, hRp, hH, hX0⟩, w2, rfl, rfl⟩
    · exact absurd rfl c9
  | some n =>
    obtain ⟨hn1, hn2, rfl⟩ := rg_some (by omega) (by omega) e2
    have hM : valueM (nI n) S = (Sum.inl (.int (valM S.1 n)), S) := by simp only [valueM, e2]
    rw [hM]
    refine Cm.in (M := M_X5_value) (ls := [some (.ref 456), some (.int (nI n))]) rfl rfl ?_
    refine x_iload_n dX5_value_0 rfl ?_
    refine x_i2l dX5_value_1 ?_
    refine x_lconst (0) dX5_value_2 (by decide) ?_
    refine x_ldc2_w dX5_value_3 rfl ?_
    refine x_cs3 dX5_value_6 rfl ?_
    refine Cm.rt s_X5_in ?_
    rw [in_rg (a := 0) (b := 11) (by omega) (by omega) (by decide) (by decide), e2]
    refine x_if_eq 24 dX5_value_9 (by decide) (fun c9 => ?_) (fun c9 => ?_)
    · exact absurd (show bV true = 0 from c9) (by decide)
    · refine x_aload_n dX5_value_12 rfl ?_
      refine x_aload_n dX5_value_13 rfl ?_
      refine x_iload_n dX5_value_14 rfl ?_
      refine x_cv2 dX5_value_15 rfl (by first | assumption | (simp (disch := omega) only [up_s, up_n]; first | assumption | rfl)) rfl ?_
      refine Cm.rt (s_X5_valueOf hO hA hRp (by omega)) ?_
      refine x_cv2 dX5_value_18 rfl (by first | assumption | (simp (disch := omega) only [up_s, up_n]; first | assumption | rfl)) rfl ?_
      refine Cm.ei (s_X5_fine hR) (fun w c9 q9 => ?_)
      obtain ⟨rfl, w1, w2⟩ := q9
      refine x_goto 29 dX5_value_21 (by decide) ?_
      refine x_ireturn dX5_value_29 ?_
      exact ⟨_, c9, 0, rfl, rfl, ⟨f, vs, as, tx, rw, ll, lt, w1, hRp, hH, hX0⟩, w2, rfl, rfl⟩
theorem Ch.at {f : Nat → Int32} {l : List Nat} {t : Int32} : ∀ {p : List Nat}, Ch f t (p ++ l) → ∃ t', Ch f t' l
  | [], h => ⟨t, h⟩
  | s :: p, h => Ch.at (t := f (250 + s)) h.2
theorem BoxS.nth {f : Nat → Int32} {B : Bx} {ss : Nat → List Nat} (h : BoxS f B ss) {b : Nat} (hb : b < 27) {i : Nat} (hi : i < (ss b).length) : f (ss b)[i] = nI ((B b).getD ((B b).length - 1 - i) 0) := by
  have h2 := h.2.1 b hb
  have h3 := h.len hb
  have h4 : i < ((B b).reverse.map nI).length := by simp; omega
  have h5 : ((ss b).map f)[i]? = ((B b).reverse.map nI)[i]? := by rw [h2]
  rw [List.getElem?_map, List.getElem?_map, List.getElem?_eq_getElem hi, List.getElem?_reverse (by omega), List.getElem?_eq_getElem (by omega)] at h5
  have h6 := Option.some.inj h5
  rw [h6, List.getD_eq_getElem?_getD, List.getElem?_eq_getElem (by omega)]
  rfl
set_option maxRecDepth 20000 in
set_option maxHeartbeats 2000000 in
theorem l_X5_inBox {c : Nat → VC} {g : VG} {n tl th : Int32} {f : Nat → Int32} (hO : RO c n tl th) (hA : AA c f) {a N : Nat} {Q : (Option Value ⊕ Nat) → VH → Prop} : ∀ (p l : List Nat) (s i : Nat) (t : Int32), (∀ x ∈ p, x < 250) → i + p.length = N → N < 1000 → Ch f t (p ++ s :: l) → (hQ : Xm M_X5_inBox 64 [some (.ref 456), some (.int (nI a)), some (.int (nI N)), some (.int (nI s)), some (.int (nI N))] [] (g, c) Q) → Xm M_X5_inBox 41 [some (.ref 456), some (.int (nI a)), some (.int (nI N)), some (.int t), some (.int (nI i))] [] (g, c) Q := by
  intro p
  induction p with
  | nil =>
    intro l s i t z0 z1 zn z2 hQ
    rw [List.length_nil, Nat.add_zero] at z1
    subst z1
    obtain ⟨rfl, z3⟩ := z2
    refine x_iload dX5_inBox_41 rfl ?_
    refine x_iload_n dX5_inBox_43 rfl ?_
    refine x_icmp_ge 64 dX5_inBox_44 (by decide) (fun c44 => ?_) (fun c44 => ?_)
    · exact hQ
    · exact absurd (Int32.le_refl _) c44
  | cons x p ih =>
    intro l s i t z0 z1 zn z2 hQ
    rw [List.length_cons] at z1
    obtain ⟨rfl, z3⟩ := z2
    have hx := z0 x List.mem_cons_self
    refine x_iload dX5_inBox_41 rfl ?_
    refine x_iload_n dX5_inBox_43 rfl ?_
    refine x_icmp_ge 64 dX5_inBox_44 (by decide) (fun c44 => ?_) (fun c44 => ?_)
    · exact absurd ((nI_leI (by omega) (by omega)).mp c44) (by omega)
    · refine x_aload_n dX5_inBox_47 rfl ?_
      refine x_getfield dX5_inBox_48 rfl (by decide) (by first | assumption | (simp (disch := omega) only [up_s, up_n]; first | assumption | rfl)) rfl ?_
      refine x_sipush (nI 250) dX5_inBox_51 (by decide) ?_
      refine x_iload_n dX5_inBox_54 rfl ?_
      refine x_iaddN dX5_inBox_55 ?_
      refine x_ialoadN dX5_inBox_56 (by first | assumption | (simp (disch := omega) only [up_s, up_n]; first | assumption | rfl)) (by omega) (by omega) ?_
      refine x_istore_n3 dX5_inBox_57 rfl ?_
      refine x_iincN_4 (1) dX5_inBox_58 (by decide) rfl ?_
      refine x_goto 41 dX5_inBox_61 (by decide) ?_
      exact ih l s (i + 1) _ (fun y hy => z0 y (List.mem_cons_of_mem _ hy)) (by omega) zn z3 hQ
set_option maxRecDepth 20000 in
set_option maxHeartbeats 1000000 in
theorem k_X5_inBox64 {c : Nat → VC} {g : VG} {S : St} {f vs as tx rw ll lt : Nat → Int32} {th : Int32} (hR : RH c f vs as tx rw ll lt (nI S.2.2.length) (nI S.2.1.length) th) (hRp : RepA f S.1) (hH : HiR vs S.2.2) (hX0 : TxR tx S.2.1) {s y : Nat} (hs : s < 250) (hy : f s = nI y) {o1 o2 o4 : Option Value} : Xm M_X5_inBox 64 [some (.ref 456), o1, o2, some (.int (nI s)), o4] [] (g, c) (RQ g c id (Sum.inl (.int (nI y))) S) := by
  obtain ⟨hO, hA, hS, hD, hX, hW, hL, hT⟩ := id hR
  refine x_aload_n dX5_inBox_64 rfl ?_
  refine x_aload_n dX5_inBox_65 rfl ?_
  refine x_getfield dX5_inBox_66 rfl (by decide) (by first | assumption | (simp (disch := omega) only [up_s, up_n]; first | assumption | rfl)) rfl ?_
  refine x_iconst (nI 0) dX5_inBox_69 (by decide) ?_
  refine x_iload_n dX5_inBox_70 rfl ?_
  refine x_iaddN dX5_inBox_71 ?_
  refine x_ialoadN dX5_inBox_72 (by first | assumption | (simp (disch := omega) only [up_s, up_n]; first | assumption | rfl)) (by omega) (by omega) ?_
  rw [Nat.zero_add s, hy]
  refine x_cv2 dX5_inBox_73 rfl (by first | assumption | (simp (disch := omega) only [up_s, up_n]; first | assumption | rfl)) rfl ?_
  refine Cm.ei (s_X5_fine hR) (fun w c9 q9 => ?_)
  obtain ⟨rfl, w1, w2⟩ := q9
  refine x_ireturn dX5_inBox_76 ?_
  exact ⟨_, c9, 0, rfl, rfl, ⟨f, vs, as, tx, rw, ll, lt, w1, hRp, hH, hX0⟩, w2, rfl, rfl⟩
set_option maxRecDepth 20000 in
set_option maxHeartbeats 2000000 in
theorem s_X5_inBox {c : Nat → VC} {g : VG} {S : St} {th : Int32} (h : RefAt c S th) {l i : Int32} : Cm k_X5_inBox [.ref 456, .int l, .int i] (g, c) (RQ g c (id) (inBoxM l i S).1 (inBoxM l i S).2) := by
  obtain ⟨f, vs, as, tx, rw, ll, lt, hR, hRp, hH, hX0⟩ := h
  obtain ⟨hO, hA, hS, hD, hX, hW, hL, hT⟩ := id hR
  obtain ⟨u1, u2, u3, u4, u5⟩ := hRp.2.2.2
  cases e1 : ix l 27 with
  | none =>
    have hM : inBoxM l i S = (Sum.inr 1, S) := by simp only [inBoxM, e1]
    rw [hM]
    refine Cm.in (M := M_X5_inBox) (ls := [some (.ref 456), some (.int l), some (.int i), none, none]) rfl rfl ?_
    refine x_iload_n dX5_inBox_0 rfl ?_
    refine x_cs1 dX5_inBox_1 rfl ?_
    refine Cm.rt s_X5_isLetter ?_
    rw [e1]
    refine x_if_eq 21 dX5_inBox_4 (by decide) (fun c4 => ?_) (fun c4 => ?_)
    · refine x_aload_n dX5_inBox_21 rfl ?_
      refine x_iconst (nI 1) dX5_inBox_22 (by decide) ?_
      refine x_cv2 dX5_inBox_23 rfl (by first | assumption | (simp (disch := omega) only [up_s, up_n]; first | assumption | rfl)) rfl ?_
      refine Cm.ei (s_X5_throwing hR) (fun w c9 q9 => ?_)
      obtain ⟨rfl, w1, w2⟩ := q9
      refine x_ireturn dX5_inBox_26 ?_
      exact ⟨_, c9, 1, rfl, rfl, ⟨f, vs, as, tx, rw, ll, lt, w1, hRp, hH, hX0⟩, w2, rfl, rfl⟩
    · exact absurd rfl c4
  | some a =>
    obtain ⟨ha, rfl⟩ := ix_some (by omega) e1
    have hsb := SB_le (B := S.1.1) ha
    have h250 := hRp.1.le
    cases e2 : ix i (S.1.1 a).length with
    | none =>
      have hM : inBoxM (nI a) i S = (Sum.inr 1, S) := by simp only [inBoxM, e1, e2]
      rw [hM]
      have hn := ix_none e2
      refine Cm.in (M := M_X5_inBox) (ls := [some (.ref 456), some (.int (nI a)), some (.int i), none, none]) rfl rfl ?_
      refine x_iload_n dX5_inBox_0 rfl ?_
      refine x_cs1 dX5_inBox_1 rfl ?_
      refine Cm.rt s_X5_isLetter ?_
      rw [e1]
      refine x_if_eq 21 dX5_inBox_4 (by decide) (fun c4 => ?_) (fun c4 => ?_)
      · exact absurd (show bV true = 0 from c4) (by decide)
      · refine x_iload_n dX5_inBox_7 rfl ?_
        refine x_if_lt 21 dX5_inBox_8 (by decide) (fun c8 => ?_) (fun c8 => ?_)
        · refine x_aload_n dX5_inBox_21 rfl ?_
          refine x_iconst (nI 1) dX5_inBox_22 (by decide) ?_
          refine x_cv2 dX5_inBox_23 rfl (by first | assumption | (simp (disch := omega) only [up_s, up_n]; first | assumption | rfl)) rfl ?_
          refine Cm.ei (s_X5_throwing hR) (fun w c9 q9 => ?_)
          obtain ⟨rfl, w1, w2⟩ := q9
          refine x_ireturn dX5_inBox_26 ?_
          exact ⟨_, c9, 1, rfl, rfl, ⟨f, vs, as, tx, rw, ll, lt, w1, hRp, hH, hX0⟩, w2, rfl, rfl⟩
        · refine x_iload_n dX5_inBox_11 rfl ?_
          refine x_aload_n dX5_inBox_12 rfl ?_
          refine x_iload_n dX5_inBox_13 rfl ?_
          refine x_iconst (-1) dX5_inBox_14 (by decide) ?_
          refine x_cv3 dX5_inBox_15 rfl (by first | assumption | (simp (disch := omega) only [up_s, up_n]; first | assumption | rfl)) rfl ?_
          refine Cm.rt (s_X5_countIn_n hO hA hRp.1 ha) ?_
          refine x_icmp_lt 27 dX5_inBox_18 (by decide) (fun c18 => ?_) (fun c18 => ?_)
          · exact hn.elim (fun z => absurd z c8) (fun z => absurd c18 (Int32.not_lt.mpr z))
          · refine x_aload_n dX5_inBox_21 rfl ?_
            refine x_iconst (nI 1) dX5_inBox_22 (by decide) ?_
            refine x_cv2 dX5_inBox_23 rfl (by first | assumption | (simp (disch := omega) only [up_s, up_n]; first | assumption | rfl)) rfl ?_
            refine Cm.ei (s_X5_throwing hR) (fun w c9 q9 => ?_)
            obtain ⟨rfl, w1, w2⟩ := q9
            refine x_ireturn dX5_inBox_26 ?_
            exact ⟨_, c9, 1, rfl, rfl, ⟨f, vs, as, tx, rw, ll, lt, w1, hRp, hH, hX0⟩, w2, rfl, rfl⟩
    | some n =>
      obtain ⟨hn1, rfl⟩ := ix_some (by omega) e2
      have hM : inBoxM (nI a) (nI n) S = (Sum.inl (.int (nI ((S.1.1 a).getD ((S.1.1 a).length - 1 - n) 0))), S) := by simp only [inBoxM, e1, e2]
      rw [hM]
      obtain ⟨ss, hss⟩ := hRp.1
      have hlen := hss.len ha
      have hsp : ss a = (ss a).take n ++ (ss a)[n] :: (ss a).drop (n + 1) := by rw [List.getElem_cons_drop, List.take_append_drop]
      have h2n : (ss a)[n] < 250 := hss.2.2.1 a ha _ (List.getElem_mem (by omega))
      have hch := hss.1 a ha
      rw [hsp] at hch
      refine Cm.in (M := M_X5_inBox) (ls := [some (.ref 456), some (.int (nI a)), some (.int (nI n)), none, none]) rfl rfl ?_
      refine x_iload_n dX5_inBox_0 rfl ?_
      refine x_cs1 dX5_inBox_1 rfl ?_
      refine Cm.rt s_X5_isLetter ?_
      rw [e1]
      refine x_if_eq 21 dX5_inBox_4 (by decide) (fun c4 => ?_) (fun c4 => ?_)
      · exact absurd (show bV true = 0 from c4) (by decide)
      · refine x_iload_n dX5_inBox_7 rfl ?_
        refine x_if_lt 21 dX5_inBox_8 (by decide) (fun c8 => ?_) (fun c8 => ?_)
        · exact absurd c8 (nI_pos (by omega))
        · refine x_iload_n dX5_inBox_11 rfl ?_
          refine x_aload_n dX5_inBox_12 rfl ?_
          refine x_iload_n dX5_inBox_13 rfl ?_
          refine x_iconst (-1) dX5_inBox_14 (by decide) ?_
          refine x_cv3 dX5_inBox_15 rfl (by first | assumption | (simp (disch := omega) only [up_s, up_n]; first | assumption | rfl)) rfl ?_
          refine Cm.rt (s_X5_countIn_n hO hA hRp.1 ha) ?_
          refine x_icmp_lt 27 dX5_inBox_18 (by decide) (fun c18 => ?_) (fun c18 => ?_)
          · refine x_aload_n dX5_inBox_27 rfl ?_
            refine x_getfield dX5_inBox_28 rfl (by decide) (by first | assumption | (simp (disch := omega) only [up_s, up_n]; first | assumption | rfl)) rfl ?_
            refine x_sipush (nI 500) dX5_inBox_31 (by decide) ?_
            refine x_iload_n dX5_inBox_34 rfl ?_
            refine x_iaddN dX5_inBox_35 ?_
            refine x_ialoadN dX5_inBox_36 (by first | assumption | (simp (disch := omega) only [up_s, up_n]; first | assumption | rfl)) (by omega) (by omega) ?_
            refine x_istore_n3 dX5_inBox_37 rfl ?_
            refine x_iconst (nI 0) dX5_inBox_38 (by decide) ?_
            refine x_istore_4 dX5_inBox_39 rfl ?_
            refine l_X5_inBox hO hA ((ss a).take n) ((ss a).drop (n + 1)) (ss a)[n] 0 _ (fun x hx => hss.2.2.1 a ha x (List.mem_of_mem_take hx)) (by rw [List.length_take]; omega) (by omega) hch ?_
            exact k_X5_inBox64 hR hRp hH hX0 h2n (hss.nth ha (by omega))
          · exact absurd ((nI_ltI (by omega) (by omega)).mpr hn1) c18
set_option maxRecDepth 20000 in
theorem RepA.fo {f f' : Nat → Int32} {σ : Sg} {B' : Bx} {j : Nat} {L : List (List Pl)} {a b d e z : Int32} (h : RepA f σ) (hj : j < 3) (hB : BoxR f' B') (hL : ForR f' j L) (hf : ∀ k, 527 ≤ k → k < 1516 → (k < 527 + 245 * j ∨ 527 + 245 * (j + 1) ≤ k) → k ≠ 1262 + j → f' k = f k) (h1 : f' 1516 = a) (h2 : f' 1517 = b) (h3 : f' 1518 = d) (h4 : f' 1519 = e) (h5 : f' 1520 = z) : RepA f' (B', uf σ.2.1 j L, σ.2.2.1, a, b, d, e, z) := by
  refine ⟨hB, fun i hi => ?_, h.2.2.1.fr (fun k z1 z2 => hf k (by omega) (by omega) (by omega) (by omega)), h1, h2, h3, h4, h5⟩
  by_cases q : i = j
  · subst q
    show ForR f' i (uf σ.2.1 i L i)
    rw [uf_s]; exact hL
  · show ForR f' i (uf σ.2.1 j L i)
    rw [uf_n q]
    exact (h.2.1 i hi).fr (hf _ (by omega) (by omega) (by omega) (by omega)) (fun k z1 z2 => hf k (by omega) (by omega) (by omega) (by omega))
set_option maxRecDepth 20000 in
set_option maxHeartbeats 2000000 in
theorem s_X5_correct {c : Nat → VC} {g : VG} {S : St} {th : Int32} (h : RefAt c S th) {l : Int32} : Cm k_X5_correct [.ref 456, .int l] (g, c) (RQ g c (id) (correctM l S).1 (correctM l S).2) := by
  obtain ⟨f, vs, as, tx, rw, ll, lt, hR, hRp, hH, hX0⟩ := h
  obtain ⟨hO, hA, hS, hD, hX, hW, hL, hT⟩ := id hR
  obtain ⟨u1, u2, u3, u4, u5⟩ := hRp.2.2.2
  cases e1 : ix l 3 with
  | none =>
    have hM : correctM l S = (Sum.inr 1, S) := by simp only [correctM, e1]
    rw [hM]
    refine Cm.in (M := M_X5_correct) (ls := [some (.ref 456), some (.int l)]) rfl rfl ?_
    refine x_iload_n dX5_correct_0 rfl ?_
    refine x_cs1 dX5_correct_1 rfl ?_
    refine Cm.rt s_X5_isForme ?_
    rw [e1]
    refine x_if_ne 13 dX5_correct_4 (by decide) (fun c4 => ?_) (fun c4 => ?_)
    · exact absurd rfl c4
    · refine x_aload_n dX5_correct_7 rfl ?_
      refine x_iconst (nI 1) dX5_correct_8 (by decide) ?_
      refine x_cv2 dX5_correct_9 rfl (by first | assumption | (simp (disch := omega) only [up_s, up_n]; first | assumption | rfl)) rfl ?_
      refine Cm.ei (s_X5_throwing hR) (fun w c9 q9 => ?_)
      obtain ⟨rfl, w1, w2⟩ := q9
      refine x_ireturn dX5_correct_12 ?_
      exact ⟨_, c9, 1, rfl, rfl, ⟨f, vs, as, tx, rw, ll, lt, w1, hRp, hH, hX0⟩, w2, rfl, rfl⟩
  | some j =>
    obtain ⟨hj, rfl⟩ := ix_some (by omega) e1
    have hM : correctM (nI j) S = (Sum.inl (.int (nI (corL (S.1.2.1 j).flatten S.1.1).2.2)), sv S ((corL (S.1.2.1 j).flatten S.1.1).1, uf S.1.2.1 j (reL (S.1.2.1 j) (corL (S.1.2.1 j).flatten S.1.1).2.1), S.1.2.2.1, n1 S.1, n2 S.1, n3 S.1, n4 S.1 + nI 3 * nI (corL (S.1.2.1 j).flatten S.1.1).2.2, n5 S.1)) := by simp only [correctM, e1]
    rw [hM]
    refine Cm.in (M := M_X5_correct) (ls := [some (.ref 456), some (.int (nI j))]) rfl rfl ?_
    refine x_iload_n dX5_correct_0 rfl ?_
    refine x_cs1 dX5_correct_1 rfl ?_
    refine Cm.rt s_X5_isForme ?_
    rw [e1]
    refine x_if_ne 13 dX5_correct_4 (by decide) (fun c4 => ?_) (fun c4 => ?_)
    · refine x_aload_n dX5_correct_13 rfl ?_
      refine x_cv1 dX5_correct_14 rfl (by first | assumption | (simp (disch := omega) only [up_s, up_n]; first | assumption | rfl)) rfl ?_
      refine Cm.ev (s_X5_save hR hH hRp) (fun c1 q1 => ?_)
      obtain ⟨v1, hR1, hF1, hH1⟩ := q1
      obtain ⟨hO1, hA1, hS1, hD1, hX1, hW1, hL1, hT1⟩ := id hR1
      refine x_aload_n dX5_correct_17 rfl ?_
      refine x_aload_n dX5_correct_18 rfl ?_
      refine x_iload_n dX5_correct_19 rfl ?_
      refine x_cv2 dX5_correct_20 rfl (by first | assumption | (simp (disch := omega) only [up_s, up_n]; first | assumption | rfl)) rfl ?_
      refine Cm.ei (s_X5_corrects hR1 hj hRp.1 (hRp.2.1 j hj)) (fun w c2 q2 => ?_)
      obtain ⟨rfl, f2, hR2, hF2, hB2, hL2, e19, hfr⟩ := q2
      obtain ⟨hO9, hA9, hS9, hD9, hX9, hW9, hL9, hT9⟩ := id hR2
      refine x_cv2 dX5_correct_23 rfl (by first | assumption | (simp (disch := omega) only [up_s, up_n]; first | assumption | rfl)) rfl ?_
      refine Cm.ei (s_X5_fine hR2) (fun w c9 q9 => ?_)
      obtain ⟨rfl, w1, w2⟩ := q9
      refine x_ireturn dX5_correct_26 ?_
      exact ⟨_, c9, 0, rfl, rfl, ⟨f2, v1, as, tx, rw, ll, lt, w1, hRp.fo hj hB2 hL2 (fun k z1 z2 z3 z4 => hfr k z1 z3 (by omega)) (by rw [hfr _ (by omega) (by omega) (by omega), u1]) (by rw [hfr _ (by omega) (by omega) (by omega), u2]) (by rw [hfr _ (by omega) (by omega) (by omega), u3]) (by rw [e19, u4]) (by rw [hfr _ (by omega) (by omega) (by omega), u5]), hH1, hX0⟩, (hF1.tr hF2).tr w2, rfl, rfl⟩
    · exact absurd (show bV true = 0 from c4) (by decide)
theorem flat_tot {σ : Sg} {j : Nat} (hj : j < 3) : SB σ.1 + (σ.2.1 j).flatten.length ≤ totM σ := by
  unfold totM nF
  simp only [sumN, Nat.zero_add]
  rcases (show j = 0 ∨ j = 1 ∨ j = 2 by omega) with rfl | rfl | rfl <;> omega
set_option maxRecDepth 20000 in
set_option maxHeartbeats 2000000 in
theorem s_X5_distribute {c : Nat → VC} {g : VG} {S : St} {th : Int32} (h : RefAt c S th) (hk : StOK S) {l : Int32} : Cm k_X5_distribute [.ref 456, .int l] (g, c) (RQ g c (id) (distributeM l S).1 (distributeM l S).2) := by
  obtain ⟨f, vs, as, tx, rw, ll, lt, hR, hRp, hH, hX0⟩ := h
  obtain ⟨hO, hA, hS, hD, hX, hW, hL, hT⟩ := id hR
  obtain ⟨u1, u2, u3, u4, u5⟩ := hRp.2.2.2
  cases e1 : ix l 3 with
  | none =>
    have hM : distributeM l S = (Sum.inr 1, S) := by simp only [distributeM, e1]
    rw [hM]
    refine Cm.in (M := M_X5_distribute) (ls := [some (.ref 456), some (.int l)]) rfl rfl ?_
    refine x_iload_n dX5_distribute_0 rfl ?_
    refine x_cs1 dX5_distribute_1 rfl ?_
    refine Cm.rt s_X5_isForme ?_
    rw [e1]
    refine x_if_ne 13 dX5_distribute_4 (by decide) (fun c4 => ?_) (fun c4 => ?_)
    · exact absurd rfl c4
    · refine x_aload_n dX5_distribute_7 rfl ?_
      refine x_iconst (nI 1) dX5_distribute_8 (by decide) ?_
      refine x_cv2 dX5_distribute_9 rfl (by first | assumption | (simp (disch := omega) only [up_s, up_n]; first | assumption | rfl)) rfl ?_
      refine Cm.ei (s_X5_throwing hR) (fun w c9 q9 => ?_)
      obtain ⟨rfl, w1, w2⟩ := q9
      refine x_ireturn dX5_distribute_12 ?_
      exact ⟨_, c9, 1, rfl, rfl, ⟨f, vs, as, tx, rw, ll, lt, w1, hRp, hH, hX0⟩, w2, rfl, rfl⟩
  | some j =>
    obtain ⟨hj, rfl⟩ := ix_some (by omega) e1
    have hM : distributeM (nI j) S = (Sum.inl (.int (nI (S.1.2.1 j).flatten.length)), sv S ((disL (n1 S.1) (S.1.2.1 j).flatten S.1.1 (n5 S.1)).1, uf S.1.2.1 j [], S.1.2.2.1, n1 S.1, n2 S.1, n3 S.1, n4 S.1 + nI (S.1.2.1 j).flatten.length, (disL (n1 S.1) (S.1.2.1 j).flatten S.1.1 (n5 S.1)).2)) := by simp only [distributeM, e1]
    rw [hM]
    have ht := hk.1
    have hfl := flat_tot (σ := S.1) hj
    refine Cm.in (M := M_X5_distribute) (ls := [some (.ref 456), some (.int (nI j))]) rfl rfl ?_
    refine x_iload_n dX5_distribute_0 rfl ?_
    refine x_cs1 dX5_distribute_1 rfl ?_
    refine Cm.rt s_X5_isForme ?_
    rw [e1]
    refine x_if_ne 13 dX5_distribute_4 (by decide) (fun c4 => ?_) (fun c4 => ?_)
    · refine x_aload_n dX5_distribute_13 rfl ?_
      refine x_cv1 dX5_distribute_14 rfl (by first | assumption | (simp (disch := omega) only [up_s, up_n]; first | assumption | rfl)) rfl ?_
      refine Cm.ev (s_X5_save hR hH hRp) (fun c1 q1 => ?_)
      obtain ⟨v1, hR1, hF1, hH1⟩ := q1
      obtain ⟨hO1, hA1, hS1, hD1, hX1, hW1, hL1, hT1⟩ := id hR1
      refine x_aload_n dX5_distribute_17 rfl ?_
      refine x_aload_n dX5_distribute_18 rfl ?_
      refine x_iload_n dX5_distribute_19 rfl ?_
      refine x_cv2 dX5_distribute_20 rfl (by first | assumption | (simp (disch := omega) only [up_s, up_n]; first | assumption | rfl)) rfl ?_
      refine Cm.ei (s_X5_distributes hR1 hj hRp.1 (hRp.2.1 j hj) (by omega)) (fun w c2 q2 => ?_)
      obtain ⟨rfl, f2, hR2, hF2, hB2, e20, e19, hL2, hfr⟩ := q2
      rw [u1, u5] at hB2 e20
      obtain ⟨hO9, hA9, hS9, hD9, hX9, hW9, hL9, hT9⟩ := id hR2
      refine x_cv2 dX5_distribute_23 rfl (by first | assumption | (simp (disch := omega) only [up_s, up_n]; first | assumption | rfl)) rfl ?_
      refine Cm.ei (s_X5_fine hR2) (fun w c9 q9 => ?_)
      obtain ⟨rfl, w1, w2⟩ := q9
      refine x_ireturn dX5_distribute_26 ?_
      exact ⟨_, c9, 0, rfl, rfl, ⟨f2, v1, as, tx, rw, ll, lt, w1, hRp.fo hj hB2 hL2 (fun k z1 z2 z3 z4 => hfr k z1 z3 z4 (by omega) (by omega)) (by rw [hfr _ (by omega) (by omega) (by omega) (by omega) (by omega), u1]) (by rw [hfr _ (by omega) (by omega) (by omega) (by omega) (by omega), u2]) (by rw [hfr _ (by omega) (by omega) (by omega) (by omega) (by omega), u3]) (by rw [e19, u4]) e20, hH1, hX0⟩, (hF1.tr hF2).tr w2, rfl, rfl⟩
    · exact absurd (show bV true = 0 from c4) (by decide)
