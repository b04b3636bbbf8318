/-! the shop: lending, setting, correcting, distributing, pieing, sorting the heap -/
set_option maxRecDepth 20000 in
set_option maxHeartbeats 1000000 in
theorem s_X4_widthOf {c : Nat → VC} {g : VG} (hW : WidAt c) {x : Nat} (hx : x < 27) : Cm k_X4_widthOf [.int (nI x)] (g, c) (Rt (.int (nI (wd x))) (g, c)) := by
  obtain ⟨f, hf1, hf2⟩ := hW
  refine Cm.in (M := M_X4_widthOf) (ls := [some (.int (nI x))]) rfl rfl ?_
  refine x_iload_n dX4_widthOf_0 rfl ?_
  refine x_if_lt 20 dX4_widthOf_1 (by decide) (fun c1 => ?_) (fun c1 => ?_)
  · exact absurd c1 (nI_pos (by omega))
  · refine x_iload_n dX4_widthOf_4 rfl ?_
    refine x_getstatic dX4_widthOf_5 rfl ?_
    refine x_alenS dX4_widthOf_8 (by first | assumption | (simp (disch := omega) only [up_s, up_n]; first | assumption | rfl)) ?_
    refine x_icmp_ge 20 dX4_widthOf_9 (by decide) (fun c9 => ?_) (fun c9 => ?_)
    · exact absurd ((nI_leI (by omega) (by omega)).mp c9) (by omega)
    · refine x_getstatic dX4_widthOf_12 rfl ?_
      refine x_iload_n dX4_widthOf_15 rfl ?_
      refine x_ialoadS dX4_widthOf_16 (by first | assumption | (simp (disch := omega) only [up_s, up_n]; first | assumption | rfl)) (inB_nI hx (by omega)) ?_
      rw [nI_clamp (by omega), hf2 x hx]
      refine x_goto 21 dX4_widthOf_17 (by decide) ?_
      refine x_ireturn dX4_widthOf_21 ?_
      exact ⟨rfl, rfl⟩
/-- the fullest box of the letter's width, seen among the first n -/
def lendN (B : Bx) (x : Nat) : Nat → Nat
  | 0 => x
  | n + 1 => if wd n = wd x ∧ (B (lendN B x n)).length < (B n).length then n else lendN B x n
theorem lendN_lt {B : Bx} {x : Nat} (hx : x < 27) : ∀ {n : Nat}, n ≤ 27 → lendN B x n < 27
  | 0, _ => hx
  | n + 1, h => by
    unfold lendN
    split
    · omega
    · exact lendN_lt hx (by omega)
set_option maxRecDepth 20000 in
set_option maxHeartbeats 1000000 in
theorem l_X3_lenderFor {c : Nat → VC} {g : VG} {A : Nat} {sl pr co mi go : Int32} {B : Bx} (hO : ObAt c A sl pr co mi go) (hB : BoxAt c A B) (hW : WidAt c) {x : Nat} (hx : x < 27) : ∀ (m i : Nat), i ≤ 27 → 27 < i + m → Xm M_X3_lenderFor 8 [some (.ref A), some (.int (nI x)), some (.ref (A + 5 + 2 * lendN B x i)), some (.int (nI i))] [] (g, c) (Rt (.ref (A + 5 + 2 * lendN B x 27)) (g, c)) := by
  intro m
  induction m with
  | zero => intro i z1 z2; omega
  | succ m ih =>
    intro i z1 z2
    have hlx := lendN_lt (B := B) hx z1
    have hRb := (hB.2 _ hlx).2.1
    refine x_iload_n dX3_lenderFor_8 rfl ?_
    refine x_bipush (nI 27) dX3_lenderFor_9 (by decide) ?_
    refine x_icmp_ge 52 dX3_lenderFor_11 (by decide) (fun c11 => ?_) (fun c11 => ?_)
    · have e1 : i = 27 := by have := (nI_leI (by omega) (by omega)).mp c11; omega
      subst e1
      refine x_aload_n dX3_lenderFor_52 rfl ?_
      refine x_areturn dX3_lenderFor_53 ?_
      exact ⟨rfl, rfl⟩
    · refine x_iload_n dX3_lenderFor_14 rfl ?_
      refine x_cs1 dX3_lenderFor_15 rfl ?_
      have hi : i < 27 := by
        by_cases z : i < 27
        · exact z
        · exact absurd ((nI_leI (by omega) (by omega)).mpr (by omega)) c11
      have hRi := (hB.2 i hi).2.1
      have hw1 := wd_lt i
      have hw2 := wd_lt x
      have hl1 := (hB.2 i hi).2.2.1
      have hl2 := (hB.2 _ hlx).2.2.1
      refine Cm.rt (s_X4_widthOf hW hi) ?_
      refine x_iload_n dX3_lenderFor_18 rfl ?_
      refine x_cs1 dX3_lenderFor_19 rfl ?_
      refine Cm.rt (s_X4_widthOf hW hx) ?_
      refine x_icmp_ne 46 dX3_lenderFor_22 (by decide) (fun c22 => ?_) (fun c22 => ?_)
      · have e3 : lendN B x i = lendN B x (i + 1) := by
          conv => rhs; unfold lendN
          rw [if_neg]
          intro q
          exact c22 (by rw [q.1])
        rw [e3]
        refine x_iincN_3 (1) dX3_lenderFor_46 (by decide) rfl ?_
        refine x_goto 8 dX3_lenderFor_49 (by decide) ?_
        exact ih (i + 1) (by omega) (by omega)
      · have e2 : wd i = wd x := (nI_eq (by omega) (by omega)).mp c22
        refine x_aload_n dX3_lenderFor_25 rfl ?_
        refine x_iload_n dX3_lenderFor_26 rfl ?_
        refine x_cv2 dX3_lenderFor_27 rfl (by first | assumption | (simp (disch := omega) only [up_s, up_n]; first | assumption | rfl)) rfl ?_
        refine Cm.rt (s_X3_boxOf' hO hB hi) ?_
        refine x_cv1 dX3_lenderFor_30 rfl (by first | assumption | (simp (disch := omega) only [up_s, up_n]; first | assumption | rfl)) rfl ?_
        refine Cm.rt (s_X2_size (hB.2 i hi)) ?_
        refine x_aload_n dX3_lenderFor_33 rfl ?_
        refine x_cv1 dX3_lenderFor_34 rfl (by first | assumption | (simp (disch := omega) only [up_s, up_n]; first | assumption | rfl)) rfl ?_
        refine Cm.rt (s_X2_size (hB.2 _ hlx)) ?_
        refine x_icmp_le 46 dX3_lenderFor_37 (by decide) (fun c37 => ?_) (fun c37 => ?_)
        · have e4 := (nI_leI (by omega) (by omega)).mp c37
          have e3 : lendN B x i = lendN B x (i + 1) := by
            conv => rhs; unfold lendN
            rw [if_neg]
            intro q
            have := q.2
            omega
          rw [e3]
          refine x_iincN_3 (1) dX3_lenderFor_46 (by decide) rfl ?_
          refine x_goto 8 dX3_lenderFor_49 (by decide) ?_
          exact ih (i + 1) (by omega) (by omega)
        · have e4 : (B (lendN B x i)).length < (B i).length := by
            by_cases z : (B (lendN B x i)).length < (B i).length
            · exact z
            · exact absurd ((nI_leI (by omega) (by omega)).mpr (by omega)) c37
          have e3 : i = lendN B x (i + 1) := by
            unfold lendN
            rw [if_pos ⟨e2, e4⟩]
          refine x_aload_n dX3_lenderFor_40 rfl ?_
          refine x_iload_n dX3_lenderFor_41 rfl ?_
          refine x_cv2 dX3_lenderFor_42 rfl (by first | assumption | (simp (disch := omega) only [up_s, up_n]; first | assumption | rfl)) rfl ?_
          refine Cm.rt (s_X3_boxOf' hO hB hi) ?_
          refine x_astore_n2 dX3_lenderFor_45 rfl ?_
          rw [show A + 5 + 2 * i = A + 5 + 2 * lendN B x (i + 1) by rw [← e3]]
          refine x_iincN_3 (1) dX3_lenderFor_46 (by decide) rfl ?_
          refine x_goto 8 dX3_lenderFor_49 (by decide) ?_
          exact ih (i + 1) (by omega) (by omega)
set_option maxRecDepth 20000 in
set_option maxHeartbeats 1000000 in
theorem s_X3_lenderFor {c : Nat → VC} {g : VG} {A : Nat} {sl pr co mi go : Int32} {B : Bx} (hO : ObAt c A sl pr co mi go) (hB : BoxAt c A B) (hW : WidAt c) {x : Nat} (hx : x < 27) : Cm k_X3_lenderFor [.ref A, .int (nI x)] (g, c) (Rt (.ref (A + 5 + 2 * lendN B x 27)) (g, c)) := by
  refine Cm.in (M := M_X3_lenderFor) (ls := [some (.ref A), some (.int (nI x)), none, none]) rfl rfl ?_
  refine x_aload_n dX3_lenderFor_0 rfl ?_
  refine x_iload_n dX3_lenderFor_1 rfl ?_
  refine x_cv2 dX3_lenderFor_2 rfl (by first | assumption | (simp (disch := omega) only [up_s, up_n]; first | assumption | rfl)) rfl ?_
  refine Cm.rt (s_X3_boxOf' hO hB hx) ?_
  refine x_astore_n2 dX3_lenderFor_5 rfl ?_
  refine x_iconst (nI 0) dX3_lenderFor_6 (by decide) ?_
  refine x_istore_n3 dX3_lenderFor_7 rfl ?_
  exact l_X3_lenderFor hO hB hW hx 28 0 (by omega) (by omega)
def srcOf (B : Bx) (x : Nat) : Nat := if B x = [] then lendN B x 27 else x
def flg (B : Bx) (x : Nat) : Nat := if B x = [] then 1 else 0
theorem srcOf_lt {B : Bx} {x : Nat} (hx : x < 27) : srcOf B x < 27 := by
  unfold srcOf
  split
  · exact lendN_lt hx (Nat.le_refl _)
  · exact hx
/-- the text is set: the boxes then, and the places; or it can't be -/
def setT : List Nat → Bx → Option (Bx × List Pl)
  | [], B => some (B, [])
  | x :: T, B => match (B (srcOf B x)).getLast? with
    | none => none
    | some s => match setT T (uf B (srcOf B x) (B (srcOf B x)).dropLast) with
      | none => none
      | some r => some (r.1, (x, s, flg B x) :: r.2)
/-- behind setText -/
def SetP (A p : Nat) (sl pr co mi go : Int32) (n : Nat) (pl : List Pl) (es : List Nat) (r : Option (Bx × List Pl)) (v : Value) (c' : Nat → VC) : Prop := match r with
  | some (B', ps) => v = .int (nI 1) ∧ ObAt c' A sl pr co (mi + nI n) go ∧ BoxAt c' A B' ∧ FlatAt c' p (pl ++ ps) (es ++ [(pl ++ ps).length])
  | none => v = .int (nI 0) ∧ ObAt c' A sl pr co mi go ∧ (∃ B', BoxAt c' A B') ∧ ∃ pl', FlatAt c' p pl' es
def FrT (c c' : Nat → VC) (A p : Nat) : Prop := ∀ k, k ≠ A → (k < A + 5 ∨ A + 59 ≤ k) → (k < p ∨ p + 5 ≤ k) → c' k = c k
def Apart (A p : Nat) : Prop := 2 ≤ A ∧ 2 ≤ p ∧ (p + 5 ≤ A ∨ A + 59 ≤ p)
def TxAway (A p tr tla : Nat) : Prop := (tr < A ∨ A + 59 ≤ tr) ∧ (tr < p ∨ p + 5 ≤ tr) ∧ (tla < A ∨ A + 59 ≤ tla) ∧ (tla < p ∨ p + 5 ≤ tla)
set_option maxRecDepth 20000 in
set_option maxHeartbeats 1000000 in
theorem l_X3_setText {c : Nat → VC} {g : VG} {A : Nat} {sl pr co mi go : Int32} {B : Bx} {p tr tla : Nat} {T : List Nat} {es : List Nat} (hap : Apart A p) (haw : TxAway A p tr tla) (hT : RowAt c tr tla 16 T) (hW : WidAt c) (hes : es.length < 5) : ∀ (T3 T1 : List Nat), T = T1 ++ T3 → ∀ (c1 : Nat → VC) (B1 : Bx) (pl1 : List Pl) (o4 o5 o6 : Option Value), ObAt c1 A sl pr co mi go → BoxAt c1 A B1 → FlatAt c1 p pl1 es → pl1.length + T3.length ≤ 80 → FrT c c1 A p → Xm M_X3_setText 2 [some (.ref A), some (.ref tr), some (.ref p), some (.int (nI T1.length)), o4, o5, o6] [] (g, c1) (Ei g (fun v c' => SetP A p sl pr co mi go T.length pl1 es (setT T3 B1) v c' ∧ FrT c c' A p)) := by
  obtain ⟨ha1, ha2, ha3⟩ := hap
  obtain ⟨hw1, hw2, hw3, hw4⟩ := haw
  intro T3
  induction T3 with
  | nil =>
    intro T1 z1 c1 B1 pl1 o4 o5 o6 hO1 hB1 hF1 hlen hFr
    have hT1 : RowAt c1 tr tla 16 T := hT.fr (hFr _ (by omega) (by omega) (by omega)) (hFr _ (by omega) (by omega) (by omega))
    have e1 : T1 = T := by rw [z1]; simp
    have hk1 := hT1.2.1
    have hp1 := hF1.choose_spec.choose_spec.choose_spec.choose_spec.1
    have htl := hT.2.2.1
    rw [e1]
    refine x_iload_n dX3_setText_2 rfl ?_
    refine x_aload_n dX3_setText_3 rfl ?_
    refine x_cv1 dX3_setText_4 rfl (by first | assumption | (simp (disch := omega) only [up_s, up_n]; first | assumption | rfl)) rfl ?_
    refine Cm.rt (s_X2_size hT1) ?_
    refine x_icmp_ge 87 dX3_setText_7 (by decide) (fun c7 => ?_) (fun c7 => ?_)
    · refine x_aload_n dX3_setText_87 rfl ?_
      refine x_cv1 dX3_setText_88 rfl (by first | assumption | (simp (disch := omega) only [up_s, up_n]; first | assumption | rfl)) rfl ?_
      refine Cm.ev (s_X0_endLine hF1 hes) (fun c2 q2 => ?_)
      have hO2 : ObAt c2 A sl pr co mi go := (q2.2 A (by omega)).trans hO1
      have hT2 : RowAt c2 tr tla 16 T := hT1.fr (q2.2 _ (by omega)) (q2.2 _ (by omega))
      have hk2 := hT2.2.1
      refine x_aload_n dX3_setText_91 rfl ?_
      refine x_dup dX3_setText_92 rfl ?_
      refine x_getfield dX3_setText_93 rfl (by decide) (by first | assumption | (simp (disch := omega) only [up_s, up_n]; first | assumption | rfl)) rfl ?_
      refine x_aload_n dX3_setText_96 rfl ?_
      refine x_cv1 dX3_setText_97 rfl (by first | assumption | (simp (disch := omega) only [up_s, up_n]; first | assumption | rfl)) rfl ?_
      refine Cm.rt (s_X2_size hT2) ?_
      refine x_iadd dX3_setText_100 ?_
      refine x_putfield6 dX3_setText_101 rfl (by first | assumption | (simp (disch := omega) only [up_s, up_n]; first | assumption | rfl)) rfl ?_
      refine x_iconst (nI 1) dX3_setText_104 (by decide) ?_
      refine x_ireturn dX3_setText_105 ?_
      refine ⟨_, _, rfl, rfl, ⟨rfl, up_s, (hB1.fr (fun k z3 z4 => q2.2 k (by omega))).fr (fun k z3 z4 => up_n (by omega)), ?_⟩, ?_⟩
      · rw [List.append_nil]
        exact q2.1.fr (fun k z3 z4 => up_n (by omega))
      · intro k z2 z3 z4
        rw [up_n z2, q2.2 k z4]; exact hFr k z2 z3 z4
    · exact absurd (Int32.le_refl _) c7
  | cons x T3 ih =>
    intro T1 z1 c1 B1 pl1 o4 o5 o6 hO1 hB1 hF1 hlen hFr
    have hT1 : RowAt c1 tr tla 16 T := hT.fr (hFr _ (by omega) (by omega) (by omega)) (hFr _ (by omega) (by omega) (by omega))
    have hW1 : WidAt c1 := hW.fr (hFr 1 (by omega) (by omega) (by omega))
    have hk1 := hT1.2.1
    have hp1 := hF1.choose_spec.choose_spec.choose_spec.choose_spec.1
    have htl := hT.2.2.1
    have hTl : T.length = T1.length + (T3.length + 1) := by rw [z1]; simp
    have hx : x < 27 := hT.2.2.2.2.1 x (by rw [z1]; simp)
    have hRx := (hB1.2 x hx).2.1
    have hlx := (hB1.2 x hx).2.2.1
    have hs27 := srcOf_lt (B := B1) hx
    have hRs := (hB1.2 _ hs27).2.1
    have hls := (hB1.2 _ hs27).2.2.1
    refine x_iload_n dX3_setText_2 rfl ?_
    refine x_aload_n dX3_setText_3 rfl ?_
    refine x_cv1 dX3_setText_4 rfl (by first | assumption | (simp (disch := omega) only [up_s, up_n]; first | assumption | rfl)) rfl ?_
    refine Cm.rt (s_X2_size hT1) ?_
    refine x_icmp_ge 87 dX3_setText_7 (by decide) (fun c7 => ?_) (fun c7 => ?_)
    · exact absurd ((nI_leI (by omega) (by omega)).mp c7) (by omega)
    · refine x_aload_n dX3_setText_10 rfl ?_
      refine x_iload_n dX3_setText_11 rfl ?_
      refine x_cv2 dX3_setText_12 rfl (by first | assumption | (simp (disch := omega) only [up_s, up_n]; first | assumption | rfl)) rfl ?_
      have hat := s_X2_at (g := g) hT1 (i := T1.length) (by omega)
      rw [show T[T1.length]'(by omega) = x by simp [z1]] at hat
      refine Cm.rt hat ?_
      refine x_istore_4 dX3_setText_15 rfl ?_
      refine x_aload_n dX3_setText_17 rfl ?_
      refine x_iload dX3_setText_18 rfl ?_
      refine x_cv2 dX3_setText_20 rfl (by first | assumption | (simp (disch := omega) only [up_s, up_n]; first | assumption | rfl)) rfl ?_
      refine Cm.rt (s_X3_boxOf' hO1 hB1 hx) ?_
      refine x_cv1 dX3_setText_23 rfl (by first | assumption | (simp (disch := omega) only [up_s, up_n]; first | assumption | rfl)) rfl ?_
      refine Cm.rt (s_X2_size (hB1.2 x hx)) ?_
      refine x_if_ne 33 dX3_setText_26 (by decide) (fun c26 => ?_) (fun c26 => ?_)
      · have hem : ¬ B1 x = [] := fun z => c26 (by rw [z]; rfl)
        obtain ⟨dd, hd0⟩ : ∃ dd, dd = 0 := ⟨0, rfl⟩
        have hdd : dd = flg B1 x := by unfold flg; rw [if_neg hem]; exact hd0
        have hsr : A + 5 + 2 * x = A + 5 + 2 * srcOf B1 x := by unfold srcOf; rw [if_neg hem]
        refine x_iconst (nI 0) dX3_setText_33 (by decide) ?_
        rw [show nI 0 = nI dd by rw [hd0]]
        refine x_istore_5 dX3_setText_34 rfl ?_
        refine x_iload dX3_setText_36 rfl ?_
        refine x_if_eq 50 dX3_setText_38 (by decide) (fun c38 => ?_) (fun c38 => ?_)
        · refine x_aload_n dX3_setText_50 rfl ?_
          refine x_iload dX3_setText_51 rfl ?_
          refine x_cv2 dX3_setText_53 rfl (by first | assumption | (simp (disch := omega) only [up_s, up_n]; first | assumption | rfl)) rfl ?_
          refine Cm.rt (s_X3_boxOf' hO1 hB1 hx) ?_
          rw [hsr]
          refine x_astore_6 dX3_setText_56 rfl ?_
          refine x_aload dX3_setText_58 rfl ?_
          refine x_cv1 dX3_setText_60 rfl (by first | assumption | (simp (disch := omega) only [up_s, up_n]; first | assumption | rfl)) rfl ?_
          refine Cm.rt (s_X2_size (hB1.2 _ hs27)) ?_
          refine x_if_ne 68 dX3_setText_63 (by decide) (fun c63 => ?_) (fun c63 => ?_)
          · have e5 : ¬ B1 (srcOf B1 x) = [] := fun z => c63 (by rw [z]; rfl)
            refine x_aload_n dX3_setText_68 rfl ?_
            refine x_iload dX3_setText_69 rfl ?_
            refine x_aload dX3_setText_71 rfl ?_
            refine x_cv1 dX3_setText_73 rfl (by first | assumption | (simp (disch := omega) only [up_s, up_n]; first | assumption | rfl)) rfl ?_
            have hlp : 0 < (B1 (srcOf B1 x)).length := List.length_pos_iff.mpr e5
            obtain ⟨s, hs⟩ : ∃ s, s = (B1 (srcOf B1 x)).getLastD 0 := ⟨_, rfl⟩
            have hsn := snoc_of hlp
            rw [← hs] at hsn
            have e6 : (B1 (srcOf B1 x)).getLast? = some s := by rw [hsn]; simp
            have hRs2 := hB1.2 _ hs27
            rw [hsn] at hRs2
            have hs9 : s < 27 := hRs2.2.2.2.2.1 s (by simp)
            refine Cm.ei (s_X2_takeLast hRs2) (fun v c2 q2 => ?_)
            obtain ⟨rfl, q2⟩ := q2
            have hB2 := hB1.set hs27 q2.1 q2.2
            have hF2 : FlatAt c2 p pl1 es := hF1.fr (fun k z3 z4 => q2.2 k (by omega) (by omega))
            have hp2 := hF2.choose_spec.choose_spec.choose_spec.choose_spec.1
            have hO2 : ObAt c2 A sl pr co mi go := (q2.2 A (by omega) (by omega)).trans hO1
            refine x_iload dX3_setText_76 rfl ?_
            refine x_cv4 dX3_setText_78 rfl (by first | assumption | (simp (disch := omega) only [up_s, up_n]; first | assumption | rfl)) rfl ?_
            have hdl : dd < 2 := by omega
            refine Cm.ev (s_X0_add hF2 hx hs9 hdl (by simp at hlen; omega)) (fun c3 q3 => ?_)
            have hB3 := hB2.fr (fun k z3 z4 => q3.2 k (by omega))
            have hO3 : ObAt c3 A sl pr co mi go := (q3.2 A (by omega)).trans hO2
            refine x_iincN_3 (1) dX3_setText_81 (by decide) rfl ?_
            refine x_goto 2 dX3_setText_84 (by decide) ?_
            have hFr3 : FrT c c3 A p := fun k z2 z3 z4 => ((q3.2 k z4).trans (q2.2 k (by omega) (by omega))).trans (hFr k z2 z3 z4)
            have hih := ih (T1 ++ [x]) (by rw [z1]; simp) c3 _ _ (some (.int (nI x))) (some (.int (nI dd))) (some (.ref (A + 5 + 2 * srcOf B1 x))) hO3 hB3 q3.1 (by simp at hlen ⊢; omega) hFr3
            have e9 : (T1 ++ [x]).length = T1.length + 1 := by simp
            rw [e9] at hih
            refine hih.mono (fun r h' q => ?_)
            obtain ⟨v, c', rfl, rfl, q5, q6⟩ := q
            refine ⟨v, c', rfl, rfl, ?_, q6⟩
            have e10 : setT (x :: T3) B1 = (match setT T3 (uf B1 (srcOf B1 x) (B1 (srcOf B1 x)).dropLast) with
              | none => none
              | some r => some (r.1, (x, s, flg B1 x) :: r.2)) := by
              conv => lhs; unfold setT
              rw [e6]
            rw [e10]
            cases e11 : setT T3 (uf B1 (srcOf B1 x) (B1 (srcOf B1 x)).dropLast) with
            | none => rw [e11] at q5; exact q5
            | some r =>
              rw [e11] at q5
              obtain ⟨B', ps⟩ := r
              simp only [SetP] at q5 ⊢
              rw [List.append_assoc] at q5
              rw [← hdd]
              exact q5
          · have e5 : B1 (srcOf B1 x) = [] := List.eq_nil_of_length_eq_zero ((nI_eq (b := 0) (by omega) (by omega)).mp c63)
            have e6 : (B1 (srcOf B1 x)).getLast? = none := by rw [e5]; rfl
            refine x_iconst (nI 0) dX3_setText_66 (by decide) ?_
            refine x_ireturn dX3_setText_67 ?_
            have e7 : setT (x :: T3) B1 = none := by
              unfold setT
              rw [e6]
            rw [e7]
            exact ⟨_, _, rfl, rfl, ⟨rfl, hO1, ⟨B1, hB1⟩, pl1, hF1⟩, hFr⟩
        · exact absurd (by rw [hd0]; rfl) c38
      · have hem : B1 x = [] := List.eq_nil_of_length_eq_zero ((nI_eq (b := 0) (by omega) (by omega)).mp c26)
        obtain ⟨dd, hd0⟩ : ∃ dd, dd = 1 := ⟨1, rfl⟩
        have hdd : dd = flg B1 x := by unfold flg; rw [if_pos hem]; exact hd0
        have hsr : A + 5 + 2 * lendN B1 x 27 = A + 5 + 2 * srcOf B1 x := by unfold srcOf; rw [if_pos hem]
        refine x_iconst (nI 1) dX3_setText_29 (by decide) ?_
        rw [show nI 1 = nI dd by rw [hd0]]
        refine x_goto 34 dX3_setText_30 (by decide) ?_
        refine x_istore_5 dX3_setText_34 rfl ?_
        refine x_iload dX3_setText_36 rfl ?_
        refine x_if_eq 50 dX3_setText_38 (by decide) (fun c38 => ?_) (fun c38 => ?_)
        · exact absurd (by rw [hd0] at c38; exact c38) (by decide)
        · refine x_aload_n dX3_setText_41 rfl ?_
          refine x_iload dX3_setText_42 rfl ?_
          refine x_cv2 dX3_setText_44 rfl (by first | assumption | (simp (disch := omega) only [up_s, up_n]; first | assumption | rfl)) rfl ?_
          refine Cm.rt (s_X3_lenderFor hO1 hB1 hW1 hx) ?_
          refine x_goto 56 dX3_setText_47 (by decide) ?_
          rw [hsr]
          refine x_astore_6 dX3_setText_56 rfl ?_
          refine x_aload dX3_setText_58 rfl ?_
          refine x_cv1 dX3_setText_60 rfl (by first | assumption | (simp (disch := omega) only [up_s, up_n]; first | assumption | rfl)) rfl ?_
          refine Cm.rt (s_X2_size (hB1.2 _ hs27)) ?_
          refine x_if_ne 68 dX3_setText_63 (by decide) (fun c63 => ?_) (fun c63 => ?_)
          · have e5 : ¬ B1 (srcOf B1 x) = [] := fun z => c63 (by rw [z]; rfl)
            refine x_aload_n dX3_setText_68 rfl ?_
            refine x_iload dX3_setText_69 rfl ?_
            refine x_aload dX3_setText_71 rfl ?_
            refine x_cv1 dX3_setText_73 rfl (by first | assumption | (simp (disch := omega) only [up_s, up_n]; first | assumption | rfl)) rfl ?_
            have hlp : 0 < (B1 (srcOf B1 x)).length := List.length_pos_iff.mpr e5
            obtain ⟨s, hs⟩ : ∃ s, s = (B1 (srcOf B1 x)).getLastD 0 := ⟨_, rfl⟩
            have hsn := snoc_of hlp
            rw [← hs] at hsn
            have e6 : (B1 (srcOf B1 x)).getLast? = some s := by rw [hsn]; simp
            have hRs2 := hB1.2 _ hs27
            rw [hsn] at hRs2
            have hs9 : s < 27 := hRs2.2.2.2.2.1 s (by simp)
            refine Cm.ei (s_X2_takeLast hRs2) (fun v c2 q2 => ?_)
            obtain ⟨rfl, q2⟩ := q2
            have hB2 := hB1.set hs27 q2.1 q2.2
            have hF2 : FlatAt c2 p pl1 es := hF1.fr (fun k z3 z4 => q2.2 k (by omega) (by omega))
            have hp2 := hF2.choose_spec.choose_spec.choose_spec.choose_spec.1
            have hO2 : ObAt c2 A sl pr co mi go := (q2.2 A (by omega) (by omega)).trans hO1
            refine x_iload dX3_setText_76 rfl ?_
            refine x_cv4 dX3_setText_78 rfl (by first | assumption | (simp (disch := omega) only [up_s, up_n]; first | assumption | rfl)) rfl ?_
            have hdl : dd < 2 := by omega
            refine Cm.ev (s_X0_add hF2 hx hs9 hdl (by simp at hlen; omega)) (fun c3 q3 => ?_)
            have hB3 := hB2.fr (fun k z3 z4 => q3.2 k (by omega))
            have hO3 : ObAt c3 A sl pr co mi go := (q3.2 A (by omega)).trans hO2
            refine x_iincN_3 (1) dX3_setText_81 (by decide) rfl ?_
            refine x_goto 2 dX3_setText_84 (by decide) ?_
            have hFr3 : FrT c c3 A p := fun k z2 z3 z4 => ((q3.2 k z4).trans (q2.2 k (by omega) (by omega))).trans (hFr k z2 z3 z4)
            have hih := ih (T1 ++ [x]) (by rw [z1]; simp) c3 _ _ (some (.int (nI x))) (some (.int (nI dd))) (some (.ref (A + 5 + 2 * srcOf B1 x))) hO3 hB3 q3.1 (by simp at hlen ⊢; omega) hFr3
            have e9 : (T1 ++ [x]).length = T1.length + 1 := by simp
            rw [e9] at hih
            refine hih.mono (fun r h' q => ?_)
            obtain ⟨v, c', rfl, rfl, q5, q6⟩ := q
            refine ⟨v, c', rfl, rfl, ?_, q6⟩
            have e10 : setT (x :: T3) B1 = (match setT T3 (uf B1 (srcOf B1 x) (B1 (srcOf B1 x)).dropLast) with
              | none => none
              | some r => some (r.1, (x, s, flg B1 x) :: r.2)) := by
              conv => lhs; unfold setT
              rw [e6]
            rw [e10]
            cases e11 : setT T3 (uf B1 (srcOf B1 x) (B1 (srcOf B1 x)).dropLast) with
            | none => rw [e11] at q5; exact q5
            | some r =>
              rw [e11] at q5
              obtain ⟨B', ps⟩ := r
              simp only [SetP] at q5 ⊢
              rw [List.append_assoc] at q5
              rw [← hdd]
              exact q5
          · have e5 : B1 (srcOf B1 x) = [] := List.eq_nil_of_length_eq_zero ((nI_eq (b := 0) (by omega) (by omega)).mp c63)
            have e6 : (B1 (srcOf B1 x)).getLast? = none := by rw [e5]; rfl
            refine x_iconst (nI 0) dX3_setText_66 (by decide) ?_
            refine x_ireturn dX3_setText_67 ?_
            have e7 : setT (x :: T3) B1 = none := by
              unfold setT
              rw [e6]
            rw [e7]
            exact ⟨_, _, rfl, rfl, ⟨rfl, hO1, ⟨B1, hB1⟩, pl1, hF1⟩, hFr⟩
set_option maxRecDepth 20000 in
set_option maxHeartbeats 1000000 in
theorem s_X3_setText {c : Nat → VC} {g : VG} {A : Nat} {sl pr co mi go : Int32} {B : Bx} {p tr tla : Nat} {T : List Nat} {pl : List Pl} {es : List Nat} (hap : Apart A p) (haw : TxAway A p tr tla) (hT : RowAt c tr tla 16 T) (hW : WidAt c) (hes : es.length < 5) (hO : ObAt c A sl pr co mi go) (hB : BoxAt c A B) (hF : FlatAt c p pl es) (hlen : pl.length + T.length ≤ 80) : Cm k_X3_setText [.ref A, .ref tr, .ref p] (g, c) (Ei g (fun v c' => SetP A p sl pr co mi go T.length pl es (setT T B) v c' ∧ FrT c c' A p)) := by
  refine Cm.in (M := M_X3_setText) (ls := [some (.ref A), some (.ref tr), some (.ref p), none, none, none, none]) rfl rfl ?_
  refine x_iconst (nI 0) dX3_setText_0 (by decide) ?_
  refine x_istore_n3 dX3_setText_1 rfl ?_
  exact l_X3_setText (B := B) hap haw hT hW hes T [] rfl c B pl none none none hO hB hF hlen (fun _ _ _ _ => rfl)
