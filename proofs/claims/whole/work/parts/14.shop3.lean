/-! the shop: correcting, distributing, pieing, sorting the heap -/
/-- a place is corrected, if it has an error and can be: boxes, place, 1 if so -/
def corP (B : Bx) (q : Pl) : Bx × Pl × Nat := if wrg q then (match lastIx (B q.1) q.1 (B q.1).length with
  | some k => (pb (uf B q.1 ((B q.1).eraseIdx k)) q.2.1 q.2.1, (q.1, q.1, 0), 1)
  | none => (B, q, 0)) else (B, q, 0)
def corL : List Pl → Bx → Bx × List Pl × Nat
  | [], B => (B, [], 0)
  | q :: t, B => ((corL t (corP B q).1).1, (corP B q).2.1 :: (corL t (corP B q).1).2.1, (corP B q).2.2 + (corL t (corP B q).1).2.2)
theorem SB_cor {B : Bx} {x y k : Nat} (hx : x < 27) (hy : y < 27) (hk : lastIx (B x) x (B x).length = some k) : SB (pb (uf B x ((B x).eraseIdx k)) y y) = SB B := by
  have h1 := (lastIx_some hk).1
  rw [SB_pb hy]
  have h2 := SB_uf (B := B) (l := (B x).eraseIdx k) hx
  rw [List.length_eraseIdx_of_lt h1] at h2
  omega
theorem corP_SB {B : Bx} {q : Pl} (h1 : q.1 < 27) (h2 : q.2.1 < 27) : SB (corP B q).1 = SB B := by
  unfold corP
  by_cases hw : wrg q = true
  · rw [if_pos hw]
    cases e : lastIx (B q.1) q.1 (B q.1).length with
    | none => rfl
    | some k => exact SB_cor h1 h2 e
  · rw [if_neg hw]
theorem corP_ok {B : Bx} {q : Pl} (h : q.1 < 27 ∧ q.2.1 < 27 ∧ q.2.2 < 2) : (corP B q).2.1.1 < 27 ∧ (corP B q).2.1.2.1 < 27 ∧ (corP B q).2.1.2.2 < 2 := by
  unfold corP
  by_cases hw : wrg q = true
  · rw [if_pos hw]
    cases e : lastIx (B q.1) q.1 (B q.1).length with
    | none => exact h
    | some k => exact ⟨h.1, h.1, Nat.zero_lt_two⟩
  · rw [if_neg hw]; exact h
theorem corP_1 {B : Bx} {q : Pl} : (corP B q).2.2 ≤ 1 := by
  unfold corP
  by_cases hw : wrg q = true
  · rw [if_pos hw]
    cases e : lastIx (B q.1) q.1 (B q.1).length with
    | none => exact Nat.zero_le _
    | some k => exact Nat.le_refl _
  · rw [if_neg hw]; exact Nat.zero_le _
theorem corL_le : ∀ {l : List Pl} {B : Bx}, (corL l B).2.2 ≤ l.length
  | [], _ => Nat.le_refl _
  | q :: t, B => by
    have h1 := corP_1 (B := B) (q := q)
    have h2 := corL_le (l := t) (B := (corP B q).1)
    show (corP B q).2.2 + (corL t (corP B q).1).2.2 ≤ t.length + 1
    omega
theorem set_mid {α : Type} {l1 l2 : List α} {x y : α} : (l1 ++ x :: l2).set l1.length y = l1 ++ y :: l2 := by
  induction l1 with
  | nil => rfl
  | cons a l ih => show a :: (l ++ x :: l2).set l.length y = _; rw [ih]; rfl
set_option maxRecDepth 20000 in
set_option maxHeartbeats 1000000 in
theorem s_X3_correctPlace {c : Nat → VC} {g : VG} {A : Nat} {sl pr co mi go : Int32} {B : Bx} {p : Nat} {pl : List Pl} {es : List Nat} (hap : Apart A p) (hO : ObAt c A sl pr co mi go) (hB : BoxAt c A B) (hF1 : FlatAt c p pl es) {i : Nat} (hi : i < pl.length) (hs : SB B ≤ 250) (hwr : wrg pl[i] = true) : Cm k_X3_correctPlace [.ref A, .ref p, .int (nI i)] (g, c) (Ei g (fun v c' => v = .int (nI (corP B pl[i]).2.2) ∧ BoxAt c' A (corP B pl[i]).1 ∧ FlatAt c' p (pl.set i (corP B pl[i]).2.1) es ∧ ∀ k, (k < A + 5 ∨ A + 59 ≤ k) → (k < p ∨ p + 5 ≤ k) → c' k = c k)) := by
  obtain ⟨ha1, ha2, ha3⟩ := hap
  have hp1 := hF1.choose_spec.choose_spec.choose_spec.choose_spec.1
  have hq := hF1.choose_spec.choose_spec.choose_spec.choose_spec.2.2.2.2.2.2.2.1 _ (List.getElem_mem hi)
  obtain ⟨hq1, hq2, hq3⟩ := hq
  have hRw := hB.2 _ hq1
  have hkw := hRw.2.1
  have hlw := hRw.2.2.1
  refine Cm.in (M := M_X3_correctPlace) (ls := [some (.ref A), some (.ref p), some (.int (nI i)), none, none, none, none]) rfl rfl ?_
  refine x_aload_n dX3_correctPlace_0 rfl ?_
  refine x_iload_n dX3_correctPlace_1 rfl ?_
  refine x_cv2 dX3_correctPlace_2 rfl (by first | assumption | (simp (disch := omega) only [up_s, up_n]; first | assumption | rfl)) rfl ?_
  refine Cm.rt (s_X0_wantedAt hF1 hi) ?_
  refine x_istore_n3 dX3_correctPlace_5 rfl ?_
  refine x_aload_n dX3_correctPlace_6 rfl ?_
  refine x_iload_n dX3_correctPlace_7 rfl ?_
  refine x_cv2 dX3_correctPlace_8 rfl (by first | assumption | (simp (disch := omega) only [up_s, up_n]; first | assumption | rfl)) rfl ?_
  refine Cm.rt (s_X0_sortAt hF1 hi) ?_
  refine x_istore_4 dX3_correctPlace_11 rfl ?_
  refine x_aload_n dX3_correctPlace_13 rfl ?_
  refine x_iload_n dX3_correctPlace_14 rfl ?_
  refine x_cv2 dX3_correctPlace_15 rfl (by first | assumption | (simp (disch := omega) only [up_s, up_n]; first | assumption | rfl)) rfl ?_
  refine Cm.rt (s_X3_boxOf' hO hB hq1) ?_
  refine x_astore_5 dX3_correctPlace_18 rfl ?_
  refine x_aload dX3_correctPlace_20 rfl ?_
  refine x_iload_n dX3_correctPlace_22 rfl ?_
  refine x_cv2 dX3_correctPlace_23 rfl (by first | assumption | (simp (disch := omega) only [up_s, up_n]; first | assumption | rfl)) rfl ?_
  refine Cm.rt (s_X2_lastIndexOf hRw (by omega)) ?_
  refine x_istore_6 dX3_correctPlace_26 rfl ?_
  refine x_iload dX3_correctPlace_28 rfl ?_
  refine x_iconst (-1) dX3_correctPlace_30 (by decide) ?_
  refine x_icmp_ne 36 dX3_correctPlace_31 (by decide) (fun c31 => ?_) (fun c31 => ?_)
  · refine x_aload dX3_correctPlace_36 rfl ?_
    refine x_iload dX3_correctPlace_38 rfl ?_
    refine x_cv2 dX3_correctPlace_40 rfl (by first | assumption | (simp (disch := omega) only [up_s, up_n]; first | assumption | rfl)) rfl ?_
    obtain ⟨k, hk⟩ : ∃ k, lastIx (B pl[i].1) pl[i].1 (B pl[i].1).length = some k := by
      cases e : lastIx (B pl[i].1) pl[i].1 (B pl[i].1).length with
      | none => exact absurd (by rw [e]; rfl) c31
      | some k => exact ⟨k, rfl⟩
    have hk1 := (lastIx_some hk).1
    rw [show ixV (lastIx (B pl[i].1) pl[i].1 (B pl[i].1).length) = nI k by rw [hk]; rfl]
    have ecor : corP B pl[i] = (pb (uf B pl[i].1 ((B pl[i].1).eraseIdx k)) pl[i].2.1 pl[i].2.1, (pl[i].1, pl[i].1, 0), 1) := by
      unfold corP
      rw [if_pos hwr, hk]
    refine Cm.ei (s_X2_takeAt hRw hk1) (fun v c1 q1 => ?_)
    obtain ⟨rfl, q1⟩ := q1
    have hB1 := hB.set hq1 q1.1 q1.2
    have hF2 : FlatAt c1 p pl es := hF1.fr (fun k z3 z4 => q1.2 k (by omega) (by omega))
    have hp2 := hF2.choose_spec.choose_spec.choose_spec.choose_spec.1
    have hO1 : ObAt c1 A sl pr co mi go := (q1.2 A (by omega) (by omega)).trans hO
    refine x_pop dX3_correctPlace_43 rfl ?_
    refine x_aload_n dX3_correctPlace_44 rfl ?_
    refine x_iload_n dX3_correctPlace_45 rfl ?_
    refine x_cv2 dX3_correctPlace_46 rfl (by first | assumption | (simp (disch := omega) only [up_s, up_n]; first | assumption | rfl)) rfl ?_
    refine Cm.ev (s_X0_putRight hF2 hi) (fun c2 q2 => ?_)
    have hB2 := hB1.fr (fun k z3 z4 => q2.2 k (by omega))
    have hO2 : ObAt c2 A sl pr co mi go := (q2.2 A (by omega)).trans hO1
    refine x_aload_n dX3_correctPlace_49 rfl ?_
    refine x_iload dX3_correctPlace_50 rfl ?_
    refine x_cv2 dX3_correctPlace_52 rfl (by first | assumption | (simp (disch := omega) only [up_s, up_n]; first | assumption | rfl)) rfl ?_
    have hsl : (uf B pl[i].1 ((B pl[i].1).eraseIdx k) pl[i].2.1).length < 250 := by
      have h2 := SB_uf (B := B) (l := (B pl[i].1).eraseIdx k) hq1
      rw [List.length_eraseIdx_of_lt hk1] at h2
      have h3 := SB_le (B := uf B pl[i].1 ((B pl[i].1).eraseIdx k)) hq2
      omega
    refine Cm.ev (s_X3_putBack hO2 hB2 hq2 hsl) (fun c3 q3 => ?_)
    refine x_iconst (nI 1) dX3_correctPlace_55 (by decide) ?_
    refine x_ireturn dX3_correctPlace_56 ?_
    refine ⟨_, c3, rfl, rfl, by rw [ecor], by rw [ecor]; exact q3.1, ?_, ?_⟩
    · rw [ecor]
      exact q2.1.fr (fun k z3 z4 => q3.2 k (by omega))
    · intro k z1 z2
      rw [q3.2 k z1, q2.2 k z2, q1.2 k (by omega) (by omega)]
  · have hk : lastIx (B pl[i].1) pl[i].1 (B pl[i].1).length = none := by
      cases e : lastIx (B pl[i].1) pl[i].1 (B pl[i].1).length with
      | none => rfl
      | some k =>
        rw [e] at c31
        have := (lastIx_some e).1
        exact absurd c31 (m1_ne (by omega))
    have ecor : corP B pl[i] = (B, pl[i], 0) := by
      unfold corP
      rw [if_pos hwr, hk]
    refine x_iconst (nI 0) dX3_correctPlace_34 (by decide) ?_
    refine x_ireturn dX3_correctPlace_35 ?_
    refine ⟨_, c, rfl, rfl, by rw [ecor], by rw [ecor]; exact hB, ?_, fun _ _ _ => rfl⟩
    rw [ecor]
    have : pl.set i pl[i] = pl := List.set_getElem_self hi
    rw [this]; exact hF1
set_option maxRecDepth 20000 in
set_option maxHeartbeats 1000000 in
theorem l_X3_correctForme {c : Nat → VC} {g : VG} {A : Nat} {sl pr co mi go : Int32} {B : Bx} {p : Nat} {es : List Nat} (hap : Apart A p) : ∀ (r d : List Pl) (n : Nat) (c1 : Nat → VC) (B1 : Bx) (o4 : Unit), ObAt c1 A sl pr co mi go → BoxAt c1 A B1 → FlatAt c1 p (d ++ r) es → SB B1 ≤ 250 → n ≤ d.length → FrT c c1 A p → Xm M_X3_correctForme 4 [some (.ref A), some (.ref p), some (.int (nI n)), some (.int (nI d.length))] [] (g, c1) (Ei g (fun v c' => v = .int (nI (n + (corL r B1).2.2)) ∧ ObAt c' A sl pr co (mi + nI 3 * nI (n + (corL r B1).2.2)) go ∧ BoxAt c' A (corL r B1).1 ∧ FlatAt c' p (d ++ (corL r B1).2.1) es ∧ FrT c c' A p)) := by
  obtain ⟨ha1, ha2, ha3⟩ := hap
  intro r
  induction r with
  | nil =>
    intro d n c1 B1 _ hO1 hB1 hF1 hs hn hFr
    have hp1 := hF1.choose_spec.choose_spec.choose_spec.choose_spec.1
    refine x_iload_n dX3_correctForme_4 rfl ?_
    refine x_aload_n dX3_correctForme_5 rfl ?_
    refine x_cv1 dX3_correctForme_6 rfl (by first | assumption | (simp (disch := omega) only [up_s, up_n]; first | assumption | rfl)) rfl ?_
    refine Cm.rt (s_X0_size hF1) ?_
    refine x_icmp_ge 38 dX3_correctForme_9 (by decide) (fun c9 => ?_) (fun c9 => ?_)
    · refine x_aload_n dX3_correctForme_38 rfl ?_
      refine x_dup dX3_correctForme_39 rfl ?_
      refine x_getfield dX3_correctForme_40 rfl (by decide) (by first | assumption | (simp (disch := omega) only [up_s, up_n]; first | assumption | rfl)) rfl ?_
      refine x_iconst (nI 3) dX3_correctForme_43 (by decide) ?_
      refine x_iload_n dX3_correctForme_44 rfl ?_
      refine x_imul dX3_correctForme_45 ?_
      refine x_iadd dX3_correctForme_46 ?_
      refine x_putfield6 dX3_correctForme_47 rfl (by first | assumption | (simp (disch := omega) only [up_s, up_n]; first | assumption | rfl)) rfl ?_
      refine x_iload_n dX3_correctForme_50 rfl ?_
      refine x_ireturn dX3_correctForme_51 ?_
      refine ⟨_, _, rfl, rfl, rfl, up_s, hB1.fr (fun k z3 z4 => up_n (by omega)), hF1.fr (fun k z3 z4 => up_n (by omega)), ?_⟩
      intro k z1 z2 z3
      rw [up_n z1]; exact hFr k z1 z2 z3
    · exact absurd (by rw [List.append_nil]; exact Int32.le_refl _) c9
  | cons q r ih =>
    intro d n c1 B1 _ hO1 hB1 hF1 hs hn hFr
    have hp1 := hF1.choose_spec.choose_spec.choose_spec.choose_spec.1
    have hpl : (d ++ q :: r).length ≤ 80 := hF1.choose_spec.choose_spec.choose_spec.choose_spec.2.2.2.2.2.1
    have hqs := hF1.choose_spec.choose_spec.choose_spec.choose_spec.2.2.2.2.2.2.2.1 q (by simp)
    have hi : d.length < (d ++ q :: r).length := by simp
    have hgi : (d ++ q :: r)[d.length] = q := by simp
    have hdl : (d ++ q :: r).length = d.length + (r.length + 1) := by simp
    refine x_iload_n dX3_correctForme_4 rfl ?_
    refine x_aload_n dX3_correctForme_5 rfl ?_
    refine x_cv1 dX3_correctForme_6 rfl (by first | assumption | (simp (disch := omega) only [up_s, up_n]; first | assumption | rfl)) rfl ?_
    refine Cm.rt (s_X0_size hF1) ?_
    refine x_icmp_ge 38 dX3_correctForme_9 (by decide) (fun c9 => ?_) (fun c9 => ?_)
    · exact absurd ((nI_leI (by omega) (by omega)).mp c9) (by omega)
    · refine x_aload_n dX3_correctForme_12 rfl ?_
      refine x_iload_n dX3_correctForme_13 rfl ?_
      refine x_cv2 dX3_correctForme_14 rfl (by first | assumption | (simp (disch := omega) only [up_s, up_n]; first | assumption | rfl)) rfl ?_
      have hwa := s_X0_wrongAt (g := g) hF1 hi
      rw [hgi] at hwa
      refine Cm.rt hwa ?_
      refine x_if_eq 32 dX3_correctForme_17 (by decide) (fun c17 => ?_) (fun c17 => ?_)
      · have e9 := bV_eq c17
        have ecp : corP B1 q = (B1, q, 0) := by
          unfold corP
          rw [if_neg (by rw [e9]; decide)]
        refine x_iincN_3 (1) dX3_correctForme_32 (by decide) rfl ?_
        refine x_goto 4 dX3_correctForme_35 (by decide) ?_
        have hih := ih (d ++ [q]) n c1 B1 () hO1 hB1 (by rw [List.append_assoc]; exact hF1) hs (by simp; omega) hFr
        have ecl : corL (q :: r) B1 = ((corL r B1).1, q :: (corL r B1).2.1, (corL r B1).2.2) := by
          conv => lhs; unfold corL
          rw [ecp]
          simp
        rw [ecl]
        simp only [List.length_append, List.length_singleton, List.append_assoc] at hih
        exact hih
      · have e9 := bV_ne c17
        refine x_aload_n dX3_correctForme_20 rfl ?_
        refine x_aload_n dX3_correctForme_21 rfl ?_
        refine x_iload_n dX3_correctForme_22 rfl ?_
        refine x_cv3 dX3_correctForme_23 rfl (by first | assumption | (simp (disch := omega) only [up_s, up_n]; first | assumption | rfl)) rfl ?_
        have hcp := s_X3_correctPlace (g := g) ⟨ha1, ha2, ha3⟩ hO1 hB1 hF1 hi hs (by rw [hgi]; exact e9)
        rw [hgi, set_mid] at hcp
        refine Cm.ei hcp (fun v c2 q2 => ?_)
        obtain ⟨rfl, q2⟩ := q2
        have q2 : True ∧ BoxAt c2 A (corP B1 q).1 ∧ FlatAt c2 p (d ++ (corP B1 q).2.1 :: r) es ∧ ∀ k, (k < A + 5 ∨ A + 59 ≤ k) → (k < p ∨ p + 5 ≤ k) → c2 k = c1 k := ⟨trivial, q2⟩
        have hO2 : ObAt c2 A sl pr co mi go := (q2.2.2.2 A (by omega) (by omega)).trans hO1
        have hFr2 : FrT c c2 A p := fun k z1 z2 z3 => (q2.2.2.2 k z2 z3).trans (hFr k z1 z2 z3)
        refine x_if_eq 32 dX3_correctForme_26 (by decide) (fun c26 => ?_) (fun c26 => ?_)
        · have hc0 : (corP B1 q).2.2 = 0 := by
            have h1 := corP_1 (B := B1) (q := q)
            exact (nI_eq (b := 0) (by omega) (by omega)).mp c26
          have ecp : corP B1 q = (B1, q, 0) := by
            unfold corP at hc0 ⊢
            rw [if_pos e9] at hc0 ⊢
            cases e : lastIx (B1 q.1) q.1 (B1 q.1).length with
            | none => rfl
            | some k => rw [e] at hc0; simp at hc0
          rw [ecp] at q2
          have hB2 := q2.2.1
          refine x_iincN_3 (1) dX3_correctForme_32 (by decide) rfl ?_
          refine x_goto 4 dX3_correctForme_35 (by decide) ?_
          have hih := ih (d ++ [q]) n c2 B1 () hO2 hB2 (by rw [List.append_assoc]; exact q2.2.2.1) hs (by simp; omega) hFr2
          have ecl : corL (q :: r) B1 = ((corL r B1).1, q :: (corL r B1).2.1, (corL r B1).2.2) := by
            conv => lhs; unfold corL
            rw [ecp]
            simp
          rw [ecl]
          simp only [List.length_append, List.length_singleton, List.append_assoc] at hih
          exact hih
        · have hc1 : (corP B1 q).2.2 = 1 := by
            have h1 := corP_1 (B := B1) (q := q)
            have h2 : ¬ (corP B1 q).2.2 = 0 := fun z => c26 (by rw [z]; rfl)
            omega
          refine x_iincN_2 (1) dX3_correctForme_29 (by decide) rfl ?_
          refine x_iincN_3 (1) dX3_correctForme_32 (by decide) rfl ?_
          refine x_goto 4 dX3_correctForme_35 (by decide) ?_
          have hih := ih (d ++ [(corP B1 q).2.1]) (n + 1) c2 (corP B1 q).1 () hO2 q2.2.1 (by rw [List.append_assoc]; exact q2.2.2.1) (by rw [corP_SB hqs.1 hqs.2.1]; exact hs) (by simp; omega) hFr2
          have ecl : corL (q :: r) B1 = ((corL r (corP B1 q).1).1, (corP B1 q).2.1 :: (corL r (corP B1 q).1).2.1, 1 + (corL r (corP B1 q).1).2.2) := by
            conv => lhs; unfold corL
            rw [hc1]
          rw [ecl]
          simp only [List.length_append, List.length_singleton, List.append_assoc, Nat.add_assoc] at hih
          exact hih
set_option maxRecDepth 20000 in
set_option maxHeartbeats 1000000 in
theorem s_X3_correctForme {c : Nat → VC} {g : VG} {A : Nat} {sl pr co mi go : Int32} {B : Bx} {p : Nat} {pl : List Pl} {es : List Nat} (hap : Apart A p) (hO : ObAt c A sl pr co mi go) (hB : BoxAt c A B) (hF : FlatAt c p pl es) (hs : SB B ≤ 250) : Cm k_X3_correctForme [.ref A, .ref p] (g, c) (Ei g (fun v c' => v = .int (nI (corL pl B).2.2) ∧ ObAt c' A sl pr co (mi + nI 3 * nI (corL pl B).2.2) go ∧ BoxAt c' A (corL pl B).1 ∧ FlatAt c' p (corL pl B).2.1 es ∧ FrT c c' A p)) := by
  refine Cm.in (M := M_X3_correctForme) (ls := [some (.ref A), some (.ref p), none, none]) rfl rfl ?_
  refine x_iconst (nI 0) dX3_correctForme_0 (by decide) ?_
  refine x_istore_n2 dX3_correctForme_1 rfl ?_
  refine x_iconst (nI 0) dX3_correctForme_2 (by decide) ?_
  refine x_istore_n3 dX3_correctForme_3 rfl ?_
  have := l_X3_correctForme (B := B) (g := g) (c := c) (sl := sl) (pr := pr) (co := co) (mi := mi) (go := go) (es := es) hap pl [] 0 c B () hO hB hF hs (Nat.le_refl _) (fun _ _ _ _ => rfl)
  simp only [Nat.zero_add, List.nil_append] at this
  exact this
def slp (sl go : Int32) : Bool := decide (¬ sl ≤ 0) && decide (go - go / sl * sl = 0)
set_option maxRecDepth 20000 in
set_option maxHeartbeats 1000000 in
theorem s_X3_slips {c : Nat → VC} {g : VG} {A : Nat} {sl pr co mi go : Int32} {B : Bx} (hO : ObAt c A sl pr co mi go) {n : Int32} : Cm k_X3_slips [.ref A, .int n] (g, c) (Rt (.int (bV (slp sl n))) (g, c)) := by
  refine Cm.in (M := M_X3_slips) (ls := [some (.ref A), some (.int n)]) rfl rfl ?_
  refine x_aload_n dX3_slips_0 rfl ?_
  refine x_getfield dX3_slips_1 rfl (by decide) (by first | assumption | (simp (disch := omega) only [up_s, up_n]; first | assumption | rfl)) rfl ?_
  refine x_if_le 20 dX3_slips_4 (by decide) (fun c4 => ?_) (fun c4 => ?_)
  · refine x_iconst (nI 0) dX3_slips_20 (by decide) ?_
    refine x_ireturn dX3_slips_21 ?_
    exact ⟨by simp_all [slp, bV], rfl⟩
  · refine x_iload_n dX3_slips_7 rfl ?_
    refine x_aload_n dX3_slips_8 rfl ?_
    refine x_getfield dX3_slips_9 rfl (by decide) (by first | assumption | (simp (disch := omega) only [up_s, up_n]; first | assumption | rfl)) rfl ?_
    refine x_irem dX3_slips_12 (fun z => c4 (by rw [z]; exact Int32.le_refl _)) ?_
    refine x_if_ne 20 dX3_slips_13 (by decide) (fun c13 => ?_) (fun c13 => ?_)
    · refine x_iconst (nI 0) dX3_slips_20 (by decide) ?_
      refine x_ireturn dX3_slips_21 ?_
      exact ⟨by simp_all [slp, bV], rfl⟩
    · refine x_iconst (nI 1) dX3_slips_16 (by decide) ?_
      refine x_goto 21 dX3_slips_17 (by decide) ?_
      refine x_ireturn dX3_slips_21 ?_
      exact ⟨by simp_all [slp, bV], rfl⟩
/-- the sorts of the places are distributed: boxes, number of the last one -/
def disL (sl : Int32) : List Pl → Bx → Int32 → Bx × Int32
  | [], B, go => (B, go)
  | q :: t, B, go => disL sl t (pb B (if slp sl (go + nI 1) then (q.2.1 + 1) % 27 else q.2.1) q.2.1) (go + nI 1)
set_option maxRecDepth 20000 in
set_option maxHeartbeats 1000000 in
theorem l_X3_distributeForme {c : Nat → VC} {g : VG} {A : Nat} {sl pr co mi go : Int32} {B : Bx} {p : Nat} {pl : List Pl} {es : List Nat} (hap : Apart A p) : ∀ (r d : List Pl) (c1 : Nat → VC) (B1 : Bx) (go1 : Int32) (o4 : Option Value), pl = d ++ r → ObAt c1 A sl pr co mi go1 → BoxAt c1 A B1 → FlatAt c1 p pl es → SB B1 + r.length ≤ 250 → FrT c c1 A p → Xm M_X3_distributeForme 7 [some (.ref A), some (.ref p), some (.int (nI pl.length)), some (.int (nI d.length)), o4] [] (g, c1) (Ei g (fun v c' => v = .int (nI pl.length) ∧ ObAt c' A sl pr co (mi + nI pl.length) (disL sl r B1 go1).2 ∧ BoxAt c' A (disL sl r B1 go1).1 ∧ FlatAt c' p [] [] ∧ FrT c c' A p)) := by
  obtain ⟨ha1, ha2, ha3⟩ := hap
  intro r
  induction r with
  | nil =>
    intro d c1 B1 go1 o4 e1 hO1 hB1 hF1 hs hFr
    have hp1 := hF1.choose_spec.choose_spec.choose_spec.choose_spec.1
    have e2 : d = pl := by rw [e1]; simp
    refine x_iload_n dX3_distributeForme_7 rfl ?_
    refine x_iload_n dX3_distributeForme_8 rfl ?_
    refine x_icmp_ge 64 dX3_distributeForme_9 (by decide) (fun c9 => ?_) (fun c9 => ?_)
    · refine x_aload_n dX3_distributeForme_64 rfl ?_
      refine x_dup dX3_distributeForme_65 rfl ?_
      refine x_getfield dX3_distributeForme_66 rfl (by decide) (by first | assumption | (simp (disch := omega) only [up_s, up_n]; first | assumption | rfl)) rfl ?_
      refine x_iload_n dX3_distributeForme_69 rfl ?_
      refine x_iadd dX3_distributeForme_70 ?_
      refine x_putfield6 dX3_distributeForme_71 rfl (by first | assumption | (simp (disch := omega) only [up_s, up_n]; first | assumption | rfl)) rfl ?_
      refine x_aload_n dX3_distributeForme_74 rfl ?_
      refine x_cv1 dX3_distributeForme_75 rfl (by simp (disch := omega) only [up_s, up_n]; exact hp1) rfl ?_
      refine Cm.ev (s_X0_clear (hF1.fr (fun k z3 z4 => up_n (by omega)))) (fun c2 q2 => ?_)
      refine x_iload_n dX3_distributeForme_78 rfl ?_
      refine x_ireturn dX3_distributeForme_79 ?_
      refine ⟨_, c2, rfl, rfl, rfl, (q2.2 A (by omega)).trans up_s, (hB1.fr (fun k z3 z4 => up_n (by omega))).fr (fun k z3 z4 => q2.2 k (by omega)), q2.1, ?_⟩
      intro k z1 z2 z3
      rw [q2.2 k z3, up_n z1]; exact hFr k z1 z2 z3
    · exact absurd (by rw [e2]; exact Int32.le_refl _) c9
  | cons q r ih =>
    intro d c1 B1 go1 o4 e1 hO1 hB1 hF1 hs hFr
    have hp1 := hF1.choose_spec.choose_spec.choose_spec.choose_spec.1
    have hpl : pl.length ≤ 80 := hF1.choose_spec.choose_spec.choose_spec.choose_spec.2.2.2.2.2.1
    have hqs := hF1.choose_spec.choose_spec.choose_spec.choose_spec.2.2.2.2.2.2.2.1 q (by rw [e1]; simp)
    have hdl : pl.length = d.length + (r.length + 1) := by rw [e1]; simp
    have hi : d.length < pl.length := by omega
    have hgi : pl[d.length] = q := by simp [e1]
    refine x_iload_n dX3_distributeForme_7 rfl ?_
    refine x_iload_n dX3_distributeForme_8 rfl ?_
    refine x_icmp_ge 64 dX3_distributeForme_9 (by decide) (fun c9 => ?_) (fun c9 => ?_)
    · exact absurd ((nI_leI (by omega) (by omega)).mp c9) (by omega)
    · refine x_aload_n dX3_distributeForme_12 rfl ?_
      refine x_iload_n dX3_distributeForme_13 rfl ?_
      refine x_cv2 dX3_distributeForme_14 rfl (by first | assumption | (simp (disch := omega) only [up_s, up_n]; first | assumption | rfl)) rfl ?_
      have hsa := s_X0_sortAt (g := g) hF1 hi
      rw [hgi] at hsa
      refine Cm.rt hsa ?_
      refine x_istore_4 dX3_distributeForme_17 rfl ?_
      refine x_aload_n dX3_distributeForme_19 rfl ?_
      refine x_dup dX3_distributeForme_20 rfl ?_
      refine x_getfield dX3_distributeForme_21 rfl (by decide) (by first | assumption | (simp (disch := omega) only [up_s, up_n]; first | assumption | rfl)) rfl ?_
      refine x_iconst (nI 1) dX3_distributeForme_24 (by decide) ?_
      refine x_iadd dX3_distributeForme_25 ?_
      refine x_putfield7 dX3_distributeForme_26 rfl (by first | assumption | (simp (disch := omega) only [up_s, up_n]; first | assumption | rfl)) rfl ?_
      refine x_aload_n dX3_distributeForme_29 rfl ?_
      refine x_aload_n dX3_distributeForme_30 rfl ?_
      refine x_aload_n dX3_distributeForme_31 rfl ?_
      refine x_getfield dX3_distributeForme_32 rfl (by decide) (by first | assumption | (simp (disch := omega) only [up_s, up_n]; first | assumption | rfl)) rfl ?_
      refine x_cv2 dX3_distributeForme_35 rfl (by first | assumption | (simp (disch := omega) only [up_s, up_n]; first | assumption | rfl)) rfl ?_
      have hO2 : ∀ z, ObAt (up c1 A (cO 3 [.ref (A + 1), .ref (A + 2), .ref (A + 3), .int sl, .int pr, .int co, .int mi, .int z])) A sl pr co mi z := fun z => up_s
      have hB2 := hB1.fr (c' := up c1 A (cO 3 [.ref (A + 1), .ref (A + 2), .ref (A + 3), .int sl, .int pr, .int co, .int mi, .int (go1 + nI 1)])) (fun k z3 z4 => up_n (by omega))
      have hF2 := hF1.fr (c' := up c1 A (cO 3 [.ref (A + 1), .ref (A + 2), .ref (A + 3), .int sl, .int pr, .int co, .int mi, .int (go1 + nI 1)])) (fun k z3 z4 => up_n (by omega))
      refine Cm.rt (s_X3_slips (B := B1) (hO2 _)) ?_
      refine x_if_eq 48 dX3_distributeForme_38 (by decide) (fun c38 => ?_) (fun c38 => ?_)
      · have e9 := bV_eq c38
        obtain ⟨dd, hd0⟩ : ∃ dd, dd = q.2.1 := ⟨_, rfl⟩
        have hdd : (if slp sl (go1 + nI 1) = true then (q.2.1 + 1) % 27 else q.2.1) = dd := by rw [e9]; exact hd0.symm
        have hd27 : dd < 27 := by omega
        have hbx : A + 5 + 2 * (q.2.1 % 27) = A + 5 + 2 * dd := by rw [hd0, Nat.mod_eq_of_lt hqs.2.1]
        refine x_iload dX3_distributeForme_48 rfl ?_
        refine x_cv2 dX3_distributeForme_50 rfl (by first | assumption | (simp (disch := omega) only [up_s, up_n]; first | assumption | rfl)) rfl ?_
        refine Cm.rt (s_X3_boxOf (hO2 _) hB2 (by omega)) ?_
        rw [hbx]
        have hk2 := (hB2.2 dd hd27).2.1
        refine x_iload dX3_distributeForme_53 rfl ?_
        refine x_cv2 dX3_distributeForme_55 rfl (by first | assumption | (simp (disch := omega) only [up_s, up_n]; first | assumption | rfl)) rfl ?_
        have hl9 : (B1 dd).length < 250 := by
          have := SB_le (B := B1) hd27
          simp at hs
          omega
        refine Cm.ev (s_X2_put (hB2.2 dd hd27) hqs.2.1 hl9) (fun c3 q3 => ?_)
        have hO3 : ObAt c3 A sl pr co mi (go1 + nI 1) := (q3.2 A (by omega) (by omega)).trans (hO2 _)
        refine x_iincN_3 (1) dX3_distributeForme_58 (by decide) rfl ?_
        refine x_goto 7 dX3_distributeForme_61 (by decide) ?_
        have hFr3 : FrT c c3 A p := fun k z1 z2 z3 => ((q3.2 k (by omega) (by omega)).trans (up_n z1)).trans (hFr k z1 z2 z3)
        have hih := ih (d ++ [q]) c3 _ (go1 + nI 1) (some (.int (nI q.2.1))) (by rw [e1]; simp) hO3 (hB2.set hd27 q3.1 q3.2) (hF2.fr (fun k z3 z4 => q3.2 k (by omega) (by omega))) (by have h1 := SB_pb (B := B1) (x := q.2.1) hd27; unfold pb at h1; simp at hs; omega) hFr3
        simp only [List.length_append, List.length_singleton] at hih
        have edl : disL sl (q :: r) B1 go1 = disL sl r (pb B1 dd q.2.1) (go1 + nI 1) := by
          conv => lhs; unfold disL
          rw [hdd]
        rw [edl]
        exact hih
      · have e9 := bV_ne c38
        obtain ⟨dd, hd0⟩ : ∃ dd, dd = (q.2.1 + 1) % 27 := ⟨_, rfl⟩
        have hdd : (if slp sl (go1 + nI 1) = true then (q.2.1 + 1) % 27 else q.2.1) = dd := by rw [e9]; exact hd0.symm
        have hd27 : dd < 27 := by omega
        have hbx : A + 5 + 2 * ((q.2.1 + 1) % 27) = A + 5 + 2 * dd := by rw [hd0]
        refine x_iload dX3_distributeForme_41 rfl ?_
        refine x_iconst (nI 1) dX3_distributeForme_43 (by decide) ?_
        refine x_iaddN dX3_distributeForme_44 ?_
        refine x_goto 50 dX3_distributeForme_45 (by decide) ?_
        refine x_cv2 dX3_distributeForme_50 rfl (by first | assumption | (simp (disch := omega) only [up_s, up_n]; first | assumption | rfl)) rfl ?_
        refine Cm.rt (s_X3_boxOf (hO2 _) hB2 (by omega)) ?_
        rw [hbx]
        have hk2 := (hB2.2 dd hd27).2.1
        refine x_iload dX3_distributeForme_53 rfl ?_
        refine x_cv2 dX3_distributeForme_55 rfl (by first | assumption | (simp (disch := omega) only [up_s, up_n]; first | assumption | rfl)) rfl ?_
        have hl9 : (B1 dd).length < 250 := by
          have := SB_le (B := B1) hd27
          simp at hs
          omega
        refine Cm.ev (s_X2_put (hB2.2 dd hd27) hqs.2.1 hl9) (fun c3 q3 => ?_)
        have hO3 : ObAt c3 A sl pr co mi (go1 + nI 1) := (q3.2 A (by omega) (by omega)).trans (hO2 _)
        refine x_iincN_3 (1) dX3_distributeForme_58 (by decide) rfl ?_
        refine x_goto 7 dX3_distributeForme_61 (by decide) ?_
        have hFr3 : FrT c c3 A p := fun k z1 z2 z3 => ((q3.2 k (by omega) (by omega)).trans (up_n z1)).trans (hFr k z1 z2 z3)
        have hih := ih (d ++ [q]) c3 _ (go1 + nI 1) (some (.int (nI q.2.1))) (by rw [e1]; simp) hO3 (hB2.set hd27 q3.1 q3.2) (hF2.fr (fun k z3 z4 => q3.2 k (by omega) (by omega))) (by have h1 := SB_pb (B := B1) (x := q.2.1) hd27; unfold pb at h1; simp at hs; omega) hFr3
        simp only [List.length_append, List.length_singleton] at hih
        have edl : disL sl (q :: r) B1 go1 = disL sl r (pb B1 dd q.2.1) (go1 + nI 1) := by
          conv => lhs; unfold disL
          rw [hdd]
        rw [edl]
        exact hih
set_option maxRecDepth 20000 in
set_option maxHeartbeats 1000000 in
theorem s_X3_distributeForme {c : Nat → VC} {g : VG} {A : Nat} {sl pr co mi go : Int32} {B : Bx} {p : Nat} {pl : List Pl} {es : List Nat} (hap : Apart A p) (hO : ObAt c A sl pr co mi go) (hB : BoxAt c A B) (hF : FlatAt c p pl es) (hs : SB B + pl.length ≤ 250) : Cm k_X3_distributeForme [.ref A, .ref p] (g, c) (Ei g (fun v c' => v = .int (nI pl.length) ∧ ObAt c' A sl pr co (mi + nI pl.length) (disL sl pl B go).2 ∧ BoxAt c' A (disL sl pl B go).1 ∧ FlatAt c' p [] [] ∧ FrT c c' A p)) := by
  have hp1 := hF.choose_spec.choose_spec.choose_spec.choose_spec.1
  refine Cm.in (M := M_X3_distributeForme) (ls := [some (.ref A), some (.ref p), none, none, none]) rfl rfl ?_
  refine x_aload_n dX3_distributeForme_0 rfl ?_
  refine x_cv1 dX3_distributeForme_1 rfl (by first | assumption | (simp (disch := omega) only [up_s, up_n]; first | assumption | rfl)) rfl ?_
  refine Cm.rt (s_X0_size hF) ?_
  refine x_istore_n2 dX3_distributeForme_4 rfl ?_
  refine x_iconst (nI 0) dX3_distributeForme_5 (by decide) ?_
  refine x_istore_n3 dX3_distributeForme_6 rfl ?_
  exact l_X3_distributeForme (go := go) (g := g) (B := B) hap pl [] c B go none rfl hO hB hF hs (fun _ _ _ _ => rfl)
abbrev srt (l : List Pl) : List Nat := l.map (fun q => q.2.1)
set_option maxRecDepth 20000 in
set_option maxHeartbeats 1000000 in
theorem l_X3_pieForme {c : Nat → VC} {g : VG} {A : Nat} {sl pr co mi go : Int32} {B : Bx} {p : Nat} {pl : List Pl} {es : List Nat} (hap : p + 5 ≤ A ∨ A + 5 ≤ p) : ∀ (r d : List Pl) (hp : List Nat) (c1 : Nat → VC), pl = d ++ r → ObAt c1 A sl pr co mi go → RowAt c1 (A + 3) (A + 4) 250 hp → FlatAt c1 p pl es → hp.length + r.length ≤ 250 → Fr2 c c1 (A + 3) (A + 4) → Xm M_X3_pieForme 2 [some (.ref A), some (.ref p), some (.int (nI d.length))] [] (g, c1) (Ev g (fun c' => RowAt c' (A + 3) (A + 4) 250 (hp ++ srt r) ∧ FlatAt c' p [] [] ∧ ∀ k, k ≠ A + 3 → k ≠ A + 4 → (k < p ∨ p + 5 ≤ k) → c' k = c k)) := by
  intro r
  induction r with
  | nil =>
    intro d hp c1 e1 hO1 hH1 hF1 hs hFr
    have hp1 := hF1.choose_spec.choose_spec.choose_spec.choose_spec.1
    have e2 : d = pl := by rw [e1]; simp
    refine x_iload_n dX3_pieForme_2 rfl ?_
    refine x_aload_n dX3_pieForme_3 rfl ?_
    refine x_cv1 dX3_pieForme_4 rfl (by first | assumption | (simp (disch := omega) only [up_s, up_n]; first | assumption | rfl)) rfl ?_
    refine Cm.rt (s_X0_size hF1) ?_
    refine x_icmp_ge 28 dX3_pieForme_7 (by decide) (fun c7 => ?_) (fun c7 => ?_)
    · refine x_aload_n dX3_pieForme_28 rfl ?_
      refine x_cv1 dX3_pieForme_29 rfl (by first | assumption | (simp (disch := omega) only [up_s, up_n]; first | assumption | rfl)) rfl ?_
      refine Cm.ev (s_X0_clear hF1) (fun c2 q2 => ?_)
      refine x_return dX3_pieForme_32 ?_
      refine ⟨c2, rfl, rfl, ?_, q2.1, fun k z1 z2 z3 => (q2.2 k z3).trans (hFr k z1 z2)⟩
      rw [show hp ++ srt [] = hp by simp]
      exact hH1.fr (q2.2 _ (by omega)) (q2.2 _ (by omega))
    · exact absurd (by rw [e2]; exact Int32.le_refl _) c7
  | cons q r ih =>
    intro d hp c1 e1 hO1 hH1 hF1 hs hFr
    have hp1 := hF1.choose_spec.choose_spec.choose_spec.choose_spec.1
    have hpl : pl.length ≤ 80 := hF1.choose_spec.choose_spec.choose_spec.choose_spec.2.2.2.2.2.1
    have hqs := hF1.choose_spec.choose_spec.choose_spec.choose_spec.2.2.2.2.2.2.2.1 q (by rw [e1]; simp)
    have hdl : pl.length = d.length + (r.length + 1) := by rw [e1]; simp
    have hi : d.length < pl.length := by omega
    have hgi : pl[d.length] = q := by simp [e1]
    have hhk := hH1.2.1
    refine x_iload_n dX3_pieForme_2 rfl ?_
    refine x_aload_n dX3_pieForme_3 rfl ?_
    refine x_cv1 dX3_pieForme_4 rfl (by first | assumption | (simp (disch := omega) only [up_s, up_n]; first | assumption | rfl)) rfl ?_
    refine Cm.rt (s_X0_size hF1) ?_
    refine x_icmp_ge 28 dX3_pieForme_7 (by decide) (fun c7 => ?_) (fun c7 => ?_)
    · exact absurd ((nI_leI (by omega) (by omega)).mp c7) (by omega)
    · refine x_aload_n dX3_pieForme_10 rfl ?_
      refine x_getfield dX3_pieForme_11 rfl (by decide) (by first | assumption | (simp (disch := omega) only [up_s, up_n]; first | assumption | rfl)) rfl ?_
      refine x_aload_n dX3_pieForme_14 rfl ?_
      refine x_iload_n dX3_pieForme_15 rfl ?_
      refine x_cv2 dX3_pieForme_16 rfl (by first | assumption | (simp (disch := omega) only [up_s, up_n]; first | assumption | rfl)) rfl ?_
      have hsa := s_X0_sortAt (g := g) hF1 hi
      rw [hgi] at hsa
      refine Cm.rt hsa ?_
      refine x_cv2 dX3_pieForme_19 rfl (by first | assumption | (simp (disch := omega) only [up_s, up_n]; first | assumption | rfl)) rfl ?_
      refine Cm.ev (s_X2_put hH1 hqs.2.1 (by simp at hs; omega)) (fun c2 q2 => ?_)
      refine x_iincN_2 (1) dX3_pieForme_22 (by decide) rfl ?_
      refine x_goto 2 dX3_pieForme_25 (by decide) ?_
      have hih := ih (d ++ [q]) (hp ++ [q.2.1]) c2 (by rw [e1]; simp) ((q2.2 A (by omega) (by omega)).trans hO1) q2.1 (hF1.fr (fun k z3 z4 => q2.2 k (by omega) (by omega))) (by simp at hs ⊢; omega) (fun k z1 z2 => (q2.2 k z1 z2).trans (hFr k z1 z2))
      simp only [List.length_append, List.length_singleton, List.append_assoc] at hih
      exact hih
set_option maxRecDepth 20000 in
set_option maxHeartbeats 1000000 in
theorem s_X3_pieForme {c : Nat → VC} {g : VG} {A : Nat} {sl pr co mi go : Int32} {B : Bx} {p : Nat} {pl : List Pl} {es : List Nat} {hp : List Nat} (hap : p + 5 ≤ A ∨ A + 5 ≤ p) (hO : ObAt c A sl pr co mi go) (hH : RowAt c (A + 3) (A + 4) 250 hp) (hF : FlatAt c p pl es) (hs : hp.length + pl.length ≤ 250) : Cm k_X3_pieForme [.ref A, .ref p] (g, c) (Ev g (fun c' => RowAt c' (A + 3) (A + 4) 250 (hp ++ srt pl) ∧ FlatAt c' p [] [] ∧ ∀ k, k ≠ A + 3 → k ≠ A + 4 → (k < p ∨ p + 5 ≤ k) → c' k = c k)) := by
  refine Cm.in (M := M_X3_pieForme) (ls := [some (.ref A), some (.ref p), none]) rfl rfl ?_
  refine x_iconst (nI 0) dX3_pieForme_0 (by decide) ?_
  refine x_istore_n2 dX3_pieForme_1 rfl ?_
  exact l_X3_pieForme (g := g) (B := B) hap pl [] hp c rfl hO hH hF hs (fun _ _ _ => rfl)
theorem BoxAt.fr2 {c c' : Nat → VC} {A : Nat} {B : Bx} (h : BoxAt c A B) (h1 : c' (A + 1) = c (A + 1)) (hc : ∀ k, A + 5 ≤ k → k < A + 59 → c' k = c k) : BoxAt c' A B := by
  obtain ⟨⟨f, q1, q2⟩, h3⟩ := h
  exact ⟨⟨f, by rw [h1]; exact q1, q2⟩, fun i hi => (h3 i hi).fr (hc _ (by omega) (by omega)) (hc _ (by omega) (by omega))⟩
set_option maxRecDepth 20000 in
set_option maxHeartbeats 1000000 in
theorem l_X3_sortFromHeap {c : Nat → VC} {g : VG} {A : Nat} {sl pr co mi go : Int32} {B : Bx} {hp : List Nat} {n : Nat} {m1 : Int32} (hn : n ≤ hp.length) (hH : RowAt c (A + 3) (A + 4) 250 hp) : ∀ (m i : Nat), i + m = n → ∀ (c1 : Nat → VC) (B1 : Bx), ObAt c1 A sl pr co mi go → BoxAt c1 A B1 → SB B1 + m ≤ 250 → FrB c c1 A → Xm M_X3_sortFromHeap 14 [some (.ref A), some (.int m1), some (.int (nI n)), some (.int (nI i))] [] (g, c1) (Ei g (fun v c' => v = .int (nI n) ∧ ObAt c' A sl pr co (mi + nI n) go ∧ BoxAt c' A (bkL ((hp.drop i).take m) B1) ∧ RowAt c' (A + 3) (A + 4) 250 (hp.drop n) ∧ ∀ k, k ≠ A → k ≠ A + 3 → k ≠ A + 4 → (k < A + 5 ∨ A + 59 ≤ k) → c' k = c k)) := by
  have hhl := hH.2.2.1
  intro m
  induction m with
  | zero =>
    intro i e1 c1 B1 hO1 hB1 hs hFr
    have e2 : i = n := by omega
    have hH1 := hH.fr (hFr (A + 3) (by omega)) (hFr (A + 4) (by omega))
    have hhk := hH1.2.1
    refine x_iload_n dX3_sortFromHeap_14 rfl ?_
    refine x_iload_n dX3_sortFromHeap_15 rfl ?_
    refine x_icmp_ge 37 dX3_sortFromHeap_16 (by decide) (fun c16 => ?_) (fun c16 => ?_)
    · refine x_aload_n dX3_sortFromHeap_37 rfl ?_
      refine x_getfield dX3_sortFromHeap_38 rfl (by decide) (by first | assumption | (simp (disch := omega) only [up_s, up_n]; first | assumption | rfl)) rfl ?_
      refine x_iload_n dX3_sortFromHeap_41 rfl ?_
      refine x_cv2 dX3_sortFromHeap_42 rfl (by first | assumption | (simp (disch := omega) only [up_s, up_n]; first | assumption | rfl)) rfl ?_
      refine Cm.ev (s_X2_dropFirst hH1 hn) (fun c2 q2 => ?_)
      have hO2 : ObAt c2 A sl pr co mi go := (q2.2 A (by omega) (by omega)).trans hO1
      refine x_aload_n dX3_sortFromHeap_45 rfl ?_
      refine x_dup dX3_sortFromHeap_46 rfl ?_
      refine x_getfield dX3_sortFromHeap_47 rfl (by decide) (by first | assumption | (simp (disch := omega) only [up_s, up_n]; first | assumption | rfl)) rfl ?_
      refine x_iload_n dX3_sortFromHeap_50 rfl ?_
      refine x_iadd dX3_sortFromHeap_51 ?_
      refine x_putfield6 dX3_sortFromHeap_52 rfl (by first | assumption | (simp (disch := omega) only [up_s, up_n]; first | assumption | rfl)) rfl ?_
      refine x_iload_n dX3_sortFromHeap_55 rfl ?_
      refine x_ireturn dX3_sortFromHeap_56 ?_
      refine ⟨_, _, rfl, rfl, rfl, up_s, ?_, q2.1.fr (up_n (by omega)) (up_n (by omega)), ?_⟩
      · have : bkL ((hp.drop i).take 0) B1 = B1 := rfl
        rw [this]
        exact (hB1.fr2 (q2.2 _ (by omega) (by omega)) (fun k z3 z4 => q2.2 k (by omega) (by omega))).fr (fun k z3 z4 => up_n (by omega))
      · intro k z1 z2 z3 z4
        rw [up_n z1, q2.2 k z2 z3]; exact hFr k z4
    · exact absurd (by rw [e2]; exact Int32.le_refl _) c16
  | succ m ih =>
    intro i e1 c1 B1 hO1 hB1 hs hFr
    have hH1 := hH.fr (hFr (A + 3) (by omega)) (hFr (A + 4) (by omega))
    have hhk := hH1.2.1
    have hi : i < hp.length := by omega
    have hx : hp[i] < 27 := hH.2.2.2.2.1 _ (List.getElem_mem hi)
    refine x_iload_n dX3_sortFromHeap_14 rfl ?_
    refine x_iload_n dX3_sortFromHeap_15 rfl ?_
    refine x_icmp_ge 37 dX3_sortFromHeap_16 (by decide) (fun c16 => ?_) (fun c16 => ?_)
    · exact absurd ((nI_leI (by omega) (by omega)).mp c16) (by omega)
    · refine x_aload_n dX3_sortFromHeap_19 rfl ?_
      refine x_aload_n dX3_sortFromHeap_20 rfl ?_
      refine x_getfield dX3_sortFromHeap_21 rfl (by decide) (by first | assumption | (simp (disch := omega) only [up_s, up_n]; first | assumption | rfl)) rfl ?_
      refine x_iload_n dX3_sortFromHeap_24 rfl ?_
      refine x_cv2 dX3_sortFromHeap_25 rfl (by first | assumption | (simp (disch := omega) only [up_s, up_n]; first | assumption | rfl)) rfl ?_
      refine Cm.rt (s_X2_at hH1 hi) ?_
      refine x_cv2 dX3_sortFromHeap_28 rfl (by first | assumption | (simp (disch := omega) only [up_s, up_n]; first | assumption | rfl)) rfl ?_
      refine Cm.ev (s_X3_putBack hO1 hB1 hx (by have := SB_le (B := B1) hx; omega)) (fun c2 q2 => ?_)
      refine x_iincN_3 (1) dX3_sortFromHeap_31 (by decide) rfl ?_
      refine x_goto 14 dX3_sortFromHeap_34 (by decide) ?_
      have hih := ih (i + 1) (by omega) c2 _ ((q2.2 A (by omega)).trans hO1) q2.1 (by rw [SB_pb hx]; omega) (hFr.tr q2.2)
      have e3 : (hp.drop i).take (m + 1) = hp[i] :: (hp.drop (i + 1)).take m := by
        rw [List.drop_eq_getElem_cons hi, List.take_succ_cons]
      rw [e3, bkL_cons]
      exact hih
theorem min_nI {a b : Nat} (ha : a < 2 ^ 31) (hb : b < 2 ^ 31) : (if nI a < nI b then nI a else nI b) = nI (min a b) := by
  by_cases q : a < b
  · rw [if_pos ((nI_ltI ha hb).mpr q), Nat.min_eq_left (by omega)]
  · rw [if_neg (fun z => q ((nI_ltI ha hb).mp z)), Nat.min_eq_right (by omega)]
set_option maxRecDepth 20000 in
set_option maxHeartbeats 1000000 in
theorem s_X3_sortFromHeap {c : Nat → VC} {g : VG} {A : Nat} {sl pr co mi go : Int32} {B : Bx} {hp : List Nat} {m : Nat} (hm : m < 1000) (hH : RowAt c (A + 3) (A + 4) 250 hp) (hO : ObAt c A sl pr co mi go) (hB : BoxAt c A B) (hs : SB B + hp.length ≤ 250) : Cm k_X3_sortFromHeap [.ref A, .int (nI m)] (g, c) (Ei g (fun v c' => v = .int (nI (min m hp.length)) ∧ ObAt c' A sl pr co (mi + nI (min m hp.length)) go ∧ BoxAt c' A (bkL (hp.take (min m hp.length)) B) ∧ RowAt c' (A + 3) (A + 4) 250 (hp.drop (min m hp.length)) ∧ ∀ k, k ≠ A → k ≠ A + 3 → k ≠ A + 4 → (k < A + 5 ∨ A + 59 ≤ k) → c' k = c k)) := by
  have hhk := hH.2.1
  have hhl := hH.2.2.1
  refine Cm.in (M := M_X3_sortFromHeap) (ls := [some (.ref A), some (.int (nI m)), none, none]) rfl rfl ?_
  refine x_iload_n dX3_sortFromHeap_0 rfl ?_
  refine x_aload_n dX3_sortFromHeap_1 rfl ?_
  refine x_getfield dX3_sortFromHeap_2 rfl (by decide) (by first | assumption | (simp (disch := omega) only [up_s, up_n]; first | assumption | rfl)) rfl ?_
  refine x_cv1 dX3_sortFromHeap_5 rfl (by first | assumption | (simp (disch := omega) only [up_s, up_n]; first | assumption | rfl)) rfl ?_
  refine Cm.rt (s_X2_size hH) ?_
  refine x_min dX3_sortFromHeap_8 rfl ?_
  rw [min_nI (by omega) (by omega)]
  refine x_istore_n2 dX3_sortFromHeap_11 rfl ?_
  refine x_iconst (nI 0) dX3_sortFromHeap_12 (by decide) ?_
  refine x_istore_n3 dX3_sortFromHeap_13 rfl ?_
  exact l_X3_sortFromHeap (g := g) (B := B) (n := min m hp.length) (Nat.min_le_right _ _) hH (min m hp.length) 0 (by omega) c B hO hB (by omega) FrB.rf
