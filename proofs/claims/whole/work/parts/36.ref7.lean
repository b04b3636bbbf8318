/-! the reference: correcting, distributing -/
theorem st_mid {α : Type} {l l' : α} {C : List α} : ∀ {A : List α}, A ++ l' :: C = (A ++ l :: C).set A.length l'
  | [] => rfl
  | a :: A => by
    show a :: (A ++ l' :: C) = a :: (A ++ l :: C).set A.length l'
    rw [← st_mid]
theorem ForR.set {f f' : Nat → Int32} {j : Nat} {L : List (List Pl)} {i p : Nat} {y : Pl} (h : ForR f j L) (hi : i < L.length) (hp : p < L[i].length) (hy : y.1 < 27 ∧ y.2.1 < 27 ∧ y.2.2 < 2) (h0 : L[i][p].1 = y.1) (h2 : f' (527 + 49 * (5 * j + i) + 2 + 3 * p) = nI y.2.1) (h3 : f' (527 + 49 * (5 * j + i) + 3 + 3 * p) = nI y.2.2) (h1 : f' (1262 + j) = f (1262 + j)) (hf : ∀ k, 527 + 245 * j ≤ k → k < 527 + 245 * (j + 1) → k ≠ 527 + 49 * (5 * j + i) + 2 + 3 * p → k ≠ 527 + 49 * (5 * j + i) + 3 + 3 * p → f' k = f k) : ForR f' j (L.set i (L[i].set p y)) := by
  obtain ⟨g1, g2, g3, g4, g5⟩ := h
  have hl5 := g2.1
  have hl16 := (g2.2 _ (List.getElem_mem hi)).2
  refine ⟨by rw [h1, List.length_set]; exact g1, ⟨by rw [List.length_set]; exact g2.1, fun l hl => ?_⟩, fun a ha => ?_, fun a ha b hb => ?_, fun l hl q hq => ?_⟩
  · rcases List.mem_or_eq_of_mem_set hl with z | z
    · exact g2.2 l z
    · rw [z, List.length_set]; exact g2.2 _ (List.getElem_mem hi)
  · rw [List.length_set] at ha
    have hla := (g2.2 _ (List.getElem_mem ha)).2
    rw [hf _ (by omega) (by omega) (by omega) (by omega), g3 a ha]
    by_cases e : i = a
    · subst e; simp only [List.getElem_set_self, List.length_set]
    · simp only [List.getElem_set_ne e]
  · rw [List.length_set] at ha
    have hla := (g2.2 _ (List.getElem_mem ha)).2
    by_cases e : i = a
    · subst e
      simp only [List.getElem_set_self] at hb ⊢
      rw [List.length_set] at hb
      by_cases e2 : p = b
      · subst e2
        simp only [List.getElem_set_self]
        refine ⟨?_, h2, h3⟩
        rw [hf _ (by omega) (by omega) (by omega) (by omega), (g4 i hi p hp).1, h0]
      · simp only [List.getElem_set_ne e2]
        rw [hf _ (by omega) (by omega) (by omega) (by omega), hf _ (by omega) (by omega) (by omega) (by omega), hf _ (by omega) (by omega) (by omega) (by omega)]
        exact g4 i hi b hb
    · simp only [List.getElem_set_ne e] at hb ⊢
      rw [hf _ (by omega) (by omega) (by omega) (by omega), hf _ (by omega) (by omega) (by omega) (by omega), hf _ (by omega) (by omega) (by omega) (by omega)]
      exact g4 a ha b hb
  · rcases List.mem_or_eq_of_mem_set hl with z | z
    · exact g5 l z q hq
    · rw [z] at hq
      rcases List.mem_or_eq_of_mem_set hq with w | w
      · exact g5 _ (List.getElem_mem hi) q w
      · rw [w]; exact hy
theorem ForR.put {f f' : Nat → Int32} {j : Nat} {A C : List (List Pl)} {u r : List Pl} {x y : Pl} (h : ForR f j (A ++ (u ++ x :: r) :: C)) (hy : y.1 < 27 ∧ y.2.1 < 27 ∧ y.2.2 < 2) (h0 : x.1 = y.1) (h2 : f' (527 + 49 * (5 * j + A.length) + 2 + 3 * u.length) = nI y.2.1) (h3 : f' (527 + 49 * (5 * j + A.length) + 3 + 3 * u.length) = nI y.2.2) (h1 : f' (1262 + j) = f (1262 + j)) (hf : ∀ k, 527 + 245 * j ≤ k → k < 527 + 245 * (j + 1) → k ≠ 527 + 49 * (5 * j + A.length) + 2 + 3 * u.length → k ≠ 527 + 49 * (5 * j + A.length) + 3 + 3 * u.length → f' k = f k) : ForR f' j (A ++ (u ++ y :: r) :: C) := by
  have hi : A.length < (A ++ (u ++ x :: r) :: C).length := by simp
  have e1 : (A ++ (u ++ x :: r) :: C)[A.length] = u ++ x :: r := by simp
  have hp : u.length < ((A ++ (u ++ x :: r) :: C)[A.length]).length := by rw [e1]; simp
  have e2 : ((A ++ (u ++ x :: r) :: C)[A.length])[u.length] = x := by simp
  have h9 := h.set hi hp hy (by rw [e2]; exact h0) h2 h3 h1 hf
  rw [e1, ← st_mid, ← st_mid] at h9
  exact h9
theorem ForR.bd {f : Nat → Int32} {j : Nat} {A C : List (List Pl)} {u r : List Pl} (h : ForR f j (A ++ (u ++ r) :: C)) : A.length + C.length + 1 ≤ 5 ∧ u.length + r.length ≤ 16 := by
  have h1 := h.2.1.1
  have h2 := (h.2.1.2 (u ++ r) (by simp)).2
  rw [List.length_append, List.length_cons] at h1
  rw [List.length_append] at h2
  omega
theorem ForR.ok {f : Nat → Int32} {j : Nat} {A C : List (List Pl)} {u r : List Pl} {y : Pl} (h : ForR f j (A ++ (u ++ y :: r) :: C)) : y.1 < 27 ∧ y.2.1 < 27 ∧ y.2.2 < 2 := h.2.2.2.2 (u ++ y :: r) (by simp) y (by simp)
theorem r_places0 {c : Nat → VC} {g : VG} {n tl th : Int32} {f : Nat → Int32} (hO : RO c n tl th) (hA : AA c f) {j : Nat} {A C : List (List Pl)} {u r : List Pl} (hj : j < 3) (h : ForR f j (A ++ (u ++ r) :: C)) : Cm k_X5_places0 [.ref 456, .int (nI j), .int (nI A.length)] (g, c) (Rt (.int (nI (u.length + r.length))) (g, c)) := by
  have hi : A.length < (A ++ (u ++ r) :: C).length := by simp
  have h9 := s_X5_places0 (g := g) hO hA hj h hi
  simpa using h9
theorem r_of0 {c : Nat → VC} {g : VG} {n tl th : Int32} {f : Nat → Int32} (hO : RO c n tl th) (hA : AA c f) {j : Nat} {A C : List (List Pl)} {u r : List Pl} {y : Pl} (hj : j < 3) (h : ForR f j (A ++ (u ++ y :: r) :: C)) : Cm k_X5_of [.ref 456, .int (nI j), .int (nI A.length), .int (nI u.length), .int (nI 0)] (g, c) (Rt (.int (nI y.1)) (g, c)) := by
  have hi : A.length < (A ++ (u ++ y :: r) :: C).length := by simp
  have hp : u.length < ((A ++ (u ++ y :: r) :: C)[A.length]).length := by simp
  have h9 := s_X5_of0 (g := g) hO hA hj h hi hp
  simpa using h9
theorem r_of1 {c : Nat → VC} {g : VG} {n tl th : Int32} {f : Nat → Int32} (hO : RO c n tl th) (hA : AA c f) {j : Nat} {A C : List (List Pl)} {u r : List Pl} {y : Pl} (hj : j < 3) (h : ForR f j (A ++ (u ++ y :: r) :: C)) : Cm k_X5_of [.ref 456, .int (nI j), .int (nI A.length), .int (nI u.length), .int (nI 1)] (g, c) (Rt (.int (nI y.2.1)) (g, c)) := by
  have hi : A.length < (A ++ (u ++ y :: r) :: C).length := by simp
  have hp : u.length < ((A ++ (u ++ y :: r) :: C)[A.length]).length := by simp
  have h9 := s_X5_of1 (g := g) hO hA hj h hi hp
  simpa using h9
theorem r_of2 {c : Nat → VC} {g : VG} {n tl th : Int32} {f : Nat → Int32} (hO : RO c n tl th) (hA : AA c f) {j : Nat} {A C : List (List Pl)} {u r : List Pl} {y : Pl} (hj : j < 3) (h : ForR f j (A ++ (u ++ y :: r) :: C)) : Cm k_X5_of [.ref 456, .int (nI j), .int (nI A.length), .int (nI u.length), .int (nI 2)] (g, c) (Rt (.int (nI y.2.2)) (g, c)) := by
  have hi : A.length < (A ++ (u ++ y :: r) :: C).length := by simp
  have hp : u.length < ((A ++ (u ++ y :: r) :: C)[A.length]).length := by simp
  have h9 := s_X5_of2 (g := g) hO hA hj h hi hp
  simpa using h9
theorem r_isWrong {c : Nat → VC} {g : VG} {n tl th : Int32} {f : Nat → Int32} (hO : RO c n tl th) (hA : AA c f) {j : Nat} {A C : List (List Pl)} {u r : List Pl} {y : Pl} (hj : j < 3) (h : ForR f j (A ++ (u ++ y :: r) :: C)) : Cm k_X5_isWrong [.ref 456, .int (nI j), .int (nI A.length), .int (nI u.length)] (g, c) (Rt (.int (bV (wrg y))) (g, c)) := by
  have hi : A.length < (A ++ (u ++ y :: r) :: C).length := by simp
  have hp : u.length < ((A ++ (u ++ y :: r) :: C)[A.length]).length := by simp
  have h9 := s_X5_isWrong (g := g) hO hA hj h hi hp
  simpa using h9
theorem corL_app : ∀ {l t : List Pl} {B : Bx}, corL (l ++ t) B = ((corL t (corL l B).1).1, (corL l B).2.1 ++ (corL t (corL l B).1).2.1, (corL l B).2.2 + (corL t (corL l B).1).2.2)
  | [], t, B => by simp [corL]
  | q :: l, t, B => by
    show ((corL (l ++ t) (corP B q).1).1, (corP B q).2.1 :: (corL (l ++ t) (corP B q).1).2.1, (corP B q).2.2 + (corL (l ++ t) (corP B q).1).2.2) = _
    rw [corL_app]
    simp [corL, Nat.add_assoc]
theorem reL_cons {l x1 x2 : List Pl} {C : List (List Pl)} (h : x1.length = l.length) : reL (l :: C) (x1 ++ x2) = x1 :: reL C x2 := by
  show (x1 ++ x2).take l.length :: reL C ((x1 ++ x2).drop l.length) = _
  rw [← h, List.take_left, List.drop_left]
def FrF (f d : Nat → Int32) (j : Nat) (p : Nat → Prop) : Prop := ∀ k, 527 ≤ k → (k < 527 + 245 * j ∨ 527 + 245 * (j + 1) ≤ k) → ¬ p k → d k = f k
theorem corP_w0 {B : Bx} {y : Pl} (h : wrg y = false) : corP B y = (B, y, 0) := by unfold corP; rw [h]; rfl
theorem corP_n {B : Bx} {y : Pl} (h : wrg y = true) (e : lastIx (B y.1) y.1 (B y.1).length = none) : corP B y = (B, y, 0) := by unfold corP; rw [h, e]; rfl
theorem corP_s {B : Bx} {y : Pl} {k : Nat} (h : wrg y = true) (e : lastIx (B y.1) y.1 (B y.1).length = some k) : corP B y = (pb (uf B y.1 ((B y.1).eraseIdx k)) y.2.1 y.2.1, (y.1, y.1, 0), 1) := by unfold corP; rw [h, e]; rfl
theorem corL_c {B B' : Bx} {y y' : Pl} {k : Nat} {l : List Pl} (h : corP B y = (B', y', k)) : corL (y :: l) B = ((corL l B').1, y' :: (corL l B').2.1, k + (corL l B').2.2) := by
  show (_, _, _) = _
  rw [h]
set_option maxRecDepth 20000 in
set_option maxHeartbeats 2000000 in
theorem i_X5_corrects {c : Nat → VC} {g : VG} {f vs as tx rw ll lt : Nat → Int32} {n tl th : Int32} {j : Nat} (hj : j < 3) {Q : (Option Value ⊕ Nat) → VH → Prop} {A C : List (List Pl)} : ∀ (r u : List Pl) (c1 : Nat → VC) (d9 : Nat → Int32) (B1 : Bx) (n1 : Nat) (o5 o6 : Option Value), RH c1 d9 vs as tx rw ll lt n tl th → FrR c c1 → BoxR d9 B1 → ForR d9 j (A ++ (u ++ r) :: C) → FrF f d9 j (fun _ => False) → (∀ c2 d8 o4 o5 o6, RH c2 d8 vs as tx rw ll lt n tl th → FrR c c2 → BoxR d8 (corL r B1).1 → ForR d8 j (A ++ (u ++ (corL r B1).2.1) :: C) → FrF f d8 j (fun _ => False) → Xm M_X5_corrects 4 [some (.ref 456), some (.int (nI j)), some (.int (nI (n1 + (corL r B1).2.2))), some (.int (nI (A.length + 1))), o4, o5, o6] [] (g, c2) Q) → Xm M_X5_corrects 21 [some (.ref 456), some (.int (nI j)), some (.int (nI n1)), some (.int (nI A.length)), some (.int (nI u.length)), o5, o6] [] (g, c1) Q := by
  intro r
  induction r with
  | nil =>
    intro u c1 d9 B1 n1 o5 o6 hR1 hF1 hB1 hL1 hd K
    obtain ⟨hO, hA, hS, hD, hX, hW, hL, hT⟩ := id hR1
    have hbd := hL1.bd
    have e0 : ([] : List Pl).length = 0 := rfl
    refine x_iload dX5_corrects_21 rfl ?_
    refine x_aload_n dX5_corrects_23 rfl ?_
    refine x_iload_n dX5_corrects_24 rfl ?_
    refine x_iload_n dX5_corrects_25 rfl ?_
    refine x_cv3 dX5_corrects_26 rfl (by first | assumption | (simp (disch := omega) only [up_s, up_n]; first | assumption | rfl)) rfl ?_
    refine Cm.rt (r_places0 hO hA hj hL1) ?_
    refine x_icmp_ge 128 dX5_corrects_29 (by decide) (fun c29 => ?_) (fun c29 => ?_)
    · refine x_iincN_3 (1) dX5_corrects_128 (by decide) rfl ?_
      refine x_goto 4 dX5_corrects_131 (by decide) ?_
      have w9 := K c1 d9 (some (.int (nI u.length))) o5 o6 hR1 hF1 hB1 (by rw [List.append_nil] at hL1; simp only [corL, List.append_nil]; exact hL1) hd
      exact w9
    · exact absurd ((nI_leI (by omega) (by omega)).mpr (by omega)) c29
  | cons y r ih =>
    intro u c1 d9 B1 n1 o5 o6 hR1 hF1 hB1 hL1 hd K
    obtain ⟨hO, hA, hS, hD, hX, hW, hL, hT⟩ := id hR1
    have hbd := hL1.bd
    have hok := hL1.ok
    have e0 : (y :: r).length = r.length + 1 := rfl
    cases hw : wrg y with
    | false =>
      have hcl := corL_c (l := r) (corP_w0 (B := B1) hw)
      rw [hcl] at K
      have hz := ih (u ++ [y]) c1 d9 B1 n1
      rw [List.length_append, List.length_singleton, List.append_assoc] at hz
      refine x_iload dX5_corrects_21 rfl ?_
      refine x_aload_n dX5_corrects_23 rfl ?_
      refine x_iload_n dX5_corrects_24 rfl ?_
      refine x_iload_n dX5_corrects_25 rfl ?_
      refine x_cv3 dX5_corrects_26 rfl (by first | assumption | (simp (disch := omega) only [up_s, up_n]; first | assumption | rfl)) rfl ?_
      refine Cm.rt (r_places0 hO hA hj hL1) ?_
      refine x_icmp_ge 128 dX5_corrects_29 (by decide) (fun c29 => ?_) (fun c29 => ?_)
      · exact absurd ((nI_leI (by omega) (by omega)).mp c29) (by omega)
      · refine x_aload_n dX5_corrects_32 rfl ?_
        refine x_iload_n dX5_corrects_33 rfl ?_
        refine x_iload_n dX5_corrects_34 rfl ?_
        refine x_iload dX5_corrects_35 rfl ?_
        refine x_iconst (nI 0) dX5_corrects_37 (by decide) ?_
        refine x_cv5 dX5_corrects_38 rfl (by first | assumption | (simp (disch := omega) only [up_s, up_n]; first | assumption | rfl)) rfl ?_
        refine Cm.rt (r_of0 hO hA hj hL1) ?_
        refine x_istore_5 dX5_corrects_41 rfl ?_
        refine x_aload_n dX5_corrects_43 rfl ?_
        refine x_iload_n dX5_corrects_44 rfl ?_
        refine x_iload_n dX5_corrects_45 rfl ?_
        refine x_iload dX5_corrects_46 rfl ?_
        refine x_cv4 dX5_corrects_48 rfl (by first | assumption | (simp (disch := omega) only [up_s, up_n]; first | assumption | rfl)) rfl ?_
        refine Cm.rt (r_isWrong hO hA hj hL1) ?_
        rw [hw]
        refine x_if_eq 122 dX5_corrects_51 (by decide) (fun c51 => ?_) (fun c51 => ?_)
        · refine x_iincN_4 (1) dX5_corrects_122 (by decide) rfl ?_
          refine x_goto 21 dX5_corrects_125 (by decide) ?_
          exact hz _ _ hR1 hF1 hB1 hL1 hd (fun c2 d8 o4 o5 o6 w1 w2 w3 w4 w5 => by
            have w9 := K c2 d8 o4 o5 o6 w1 w2 w3 (by rw [List.append_assoc] at w4; exact w4) w5
            simp only [Nat.zero_add] at w9
            exact w9)
        · exact absurd rfl c51
    | true =>
      cases hx : lastIx (B1 y.1) y.1 (B1 y.1).length with
      | none =>
        have hcl := corL_c (l := r) (corP_n (B := B1) hw hx)
        rw [hcl] at K
        have hz := ih (u ++ [y]) c1 d9 B1 n1
        rw [List.length_append, List.length_singleton, List.append_assoc] at hz
        refine x_iload dX5_corrects_21 rfl ?_
        refine x_aload_n dX5_corrects_23 rfl ?_
        refine x_iload_n dX5_corrects_24 rfl ?_
        refine x_iload_n dX5_corrects_25 rfl ?_
        refine x_cv3 dX5_corrects_26 rfl (by first | assumption | (simp (disch := omega) only [up_s, up_n]; first | assumption | rfl)) rfl ?_
        refine Cm.rt (r_places0 hO hA hj hL1) ?_
        refine x_icmp_ge 128 dX5_corrects_29 (by decide) (fun c29 => ?_) (fun c29 => ?_)
        · exact absurd ((nI_leI (by omega) (by omega)).mp c29) (by omega)
        · refine x_aload_n dX5_corrects_32 rfl ?_
          refine x_iload_n dX5_corrects_33 rfl ?_
          refine x_iload_n dX5_corrects_34 rfl ?_
          refine x_iload dX5_corrects_35 rfl ?_
          refine x_iconst (nI 0) dX5_corrects_37 (by decide) ?_
          refine x_cv5 dX5_corrects_38 rfl (by first | assumption | (simp (disch := omega) only [up_s, up_n]; first | assumption | rfl)) rfl ?_
          refine Cm.rt (r_of0 hO hA hj hL1) ?_
          refine x_istore_5 dX5_corrects_41 rfl ?_
          refine x_aload_n dX5_corrects_43 rfl ?_
          refine x_iload_n dX5_corrects_44 rfl ?_
          refine x_iload_n dX5_corrects_45 rfl ?_
          refine x_iload dX5_corrects_46 rfl ?_
          refine x_cv4 dX5_corrects_48 rfl (by first | assumption | (simp (disch := omega) only [up_s, up_n]; first | assumption | rfl)) rfl ?_
          refine Cm.rt (r_isWrong hO hA hj hL1) ?_
          rw [hw]
          refine x_if_eq 122 dX5_corrects_51 (by decide) (fun c51 => ?_) (fun c51 => ?_)
          · exact absurd c51 (by decide)
          · refine x_aload_n dX5_corrects_54 rfl ?_
            refine x_iload dX5_corrects_55 rfl ?_
            refine x_cv2 dX5_corrects_57 rfl (by first | assumption | (simp (disch := omega) only [up_s, up_n]; first | assumption | rfl)) rfl ?_
            refine Cm.ei (s_X5_takesOwn hO hA hB1 hok.1) (fun v c2 q2 => ?_)
            unfold OwnP at q2
            rw [hx] at q2
            obtain ⟨rfl, rfl⟩ := q2
            refine x_if_eq 122 dX5_corrects_60 (by decide) (fun c60 => ?_) (fun c60 => ?_)
            · refine x_iincN_4 (1) dX5_corrects_122 (by decide) rfl ?_
              refine x_goto 21 dX5_corrects_125 (by decide) ?_
              exact hz _ _ hR1 hF1 hB1 hL1 hd (fun c2 d8 o4 o5 o6 w1 w2 w3 w4 w5 => by
                have w9 := K c2 d8 o4 o5 o6 w1 w2 w3 (by rw [List.append_assoc] at w4; exact w4) w5
                simp only [Nat.zero_add] at w9
                exact w9)
            · exact absurd rfl c60
      | some k0 =>
        have hcl := corL_c (l := r) (corP_s (B := B1) hw hx)
        rw [hcl] at K
        have hsk := SB_cor (B := B1) (y := y.2.1) hok.1 hok.2.1 hx
        rw [SB_pb hok.2.1] at hsk
        have h250 := hB1.le
        refine x_iload dX5_corrects_21 rfl ?_
        refine x_aload_n dX5_corrects_23 rfl ?_
        refine x_iload_n dX5_corrects_24 rfl ?_
        refine x_iload_n dX5_corrects_25 rfl ?_
        refine x_cv3 dX5_corrects_26 rfl (by first | assumption | (simp (disch := omega) only [up_s, up_n]; first | assumption | rfl)) rfl ?_
        refine Cm.rt (r_places0 hO hA hj hL1) ?_
        refine x_icmp_ge 128 dX5_corrects_29 (by decide) (fun c29 => ?_) (fun c29 => ?_)
        · exact absurd ((nI_leI (by omega) (by omega)).mp c29) (by omega)
        · refine x_aload_n dX5_corrects_32 rfl ?_
          refine x_iload_n dX5_corrects_33 rfl ?_
          refine x_iload_n dX5_corrects_34 rfl ?_
          refine x_iload dX5_corrects_35 rfl ?_
          refine x_iconst (nI 0) dX5_corrects_37 (by decide) ?_
          refine x_cv5 dX5_corrects_38 rfl (by first | assumption | (simp (disch := omega) only [up_s, up_n]; first | assumption | rfl)) rfl ?_
          refine Cm.rt (r_of0 hO hA hj hL1) ?_
          refine x_istore_5 dX5_corrects_41 rfl ?_
          refine x_aload_n dX5_corrects_43 rfl ?_
          refine x_iload_n dX5_corrects_44 rfl ?_
          refine x_iload_n dX5_corrects_45 rfl ?_
          refine x_iload dX5_corrects_46 rfl ?_
          refine x_cv4 dX5_corrects_48 rfl (by first | assumption | (simp (disch := omega) only [up_s, up_n]; first | assumption | rfl)) rfl ?_
          refine Cm.rt (r_isWrong hO hA hj hL1) ?_
          rw [hw]
          refine x_if_eq 122 dX5_corrects_51 (by decide) (fun c51 => ?_) (fun c51 => ?_)
          · exact absurd c51 (by decide)
          · refine x_aload_n dX5_corrects_54 rfl ?_
            refine x_iload dX5_corrects_55 rfl ?_
            refine x_cv2 dX5_corrects_57 rfl (by first | assumption | (simp (disch := omega) only [up_s, up_n]; first | assumption | rfl)) rfl ?_
            refine Cm.ei (s_X5_takesOwn hO hA hB1 hok.1) (fun v c2 q2 => ?_)
            unfold OwnP at q2
            rw [hx] at q2
            obtain ⟨rfl, d8, rfl, hB8, hd8⟩ := q2
            have hR2 := hR1.uA (f' := d8)
            obtain ⟨hO, hA, hS, hD, hX, hW, hL, hT⟩ := id hR2
            have hL2 := hL1.fr (f' := d8) (hd8 _ (by omega)) (fun k z1 z2 => hd8 k (by omega))
            refine x_if_eq 122 dX5_corrects_60 (by decide) (fun c60 => ?_) (fun c60 => ?_)
            · exact absurd c60 (by decide)
            · refine x_aload_n dX5_corrects_63 rfl ?_
              refine x_iload_n dX5_corrects_64 rfl ?_
              refine x_iload_n dX5_corrects_65 rfl ?_
              refine x_iload dX5_corrects_66 rfl ?_
              refine x_iconst (nI 1) dX5_corrects_68 (by decide) ?_
              refine x_cv5 dX5_corrects_69 rfl (by first | assumption | (simp (disch := omega) only [up_s, up_n]; first | assumption | rfl)) rfl ?_
              refine Cm.rt (r_of1 hO hA hj hL2) ?_
              refine x_istore_6 dX5_corrects_72 rfl ?_
              refine x_aload_n dX5_corrects_74 rfl ?_
              refine x_iload dX5_corrects_75 rfl ?_
              refine x_iload dX5_corrects_77 rfl ?_
              refine x_cv3 dX5_corrects_79 rfl (by first | assumption | (simp (disch := omega) only [up_s, up_n]; first | assumption | rfl)) rfl ?_
              refine Cm.ev (s_X5_puts hO hA hB8 hok.2.1 hok.2.1 (by omega)) (fun c3 q3 => ?_)
              obtain ⟨d7, rfl, hB7, hd7⟩ := q3
              have hR3 := hR2.uA (f' := d7)
              obtain ⟨hO, hA, hS, hD, hX, hW, hL, hT⟩ := id hR3
              have hL3 := hL2.fr (f' := d7) (hd7 _ (by omega)) (fun k z1 z2 => hd7 k (by omega))
              refine x_aload_n dX5_corrects_82 rfl ?_
              refine x_getfield dX5_corrects_83 rfl (by decide) (by first | assumption | (simp (disch := omega) only [up_s, up_n]; first | assumption | rfl)) rfl ?_
              refine x_iload_n dX5_corrects_86 rfl ?_
              refine x_iload_n dX5_corrects_87 rfl ?_
              refine x_cs2 dX5_corrects_88 rfl ?_
              refine Cm.rt s_X5_lineAt ?_
              refine x_iconst (nI 2) dX5_corrects_91 (by decide) ?_
              refine x_iaddN dX5_corrects_92 ?_
              refine x_iconst (nI 3) dX5_corrects_93 (by decide) ?_
              refine x_iload dX5_corrects_94 rfl ?_
              refine x_imulN dX5_corrects_96 ?_
              refine x_iaddN dX5_corrects_97 ?_
              refine x_iload dX5_corrects_98 rfl ?_
              refine x_iastoreN dX5_corrects_100 (by first | assumption | (simp (disch := omega) only [up_s, up_n]; first | assumption | rfl)) (by omega) (by omega) ?_
              refine x_aload_n dX5_corrects_101 rfl ?_
              refine x_getfield dX5_corrects_102 rfl (by decide) (by first | assumption | (simp (disch := omega) only [up_s, up_n]; first | assumption | rfl)) rfl ?_
              refine x_iload_n dX5_corrects_105 rfl ?_
              refine x_iload_n dX5_corrects_106 rfl ?_
              refine x_cs2 dX5_corrects_107 rfl ?_
              refine Cm.rt s_X5_lineAt ?_
              refine x_iconst (nI 3) dX5_corrects_110 (by decide) ?_
              refine x_iaddN dX5_corrects_111 ?_
              refine x_iconst (nI 3) dX5_corrects_112 (by decide) ?_
              refine x_iload dX5_corrects_113 rfl ?_
              refine x_imulN dX5_corrects_115 ?_
              refine x_iaddN dX5_corrects_116 ?_
              refine x_iconst (nI 0) dX5_corrects_117 (by decide) ?_
              refine x_iastoreN dX5_corrects_118 (by first | assumption | (simp (disch := omega) only [up_s, up_n]; first | assumption | rfl)) (by omega) (by omega) ?_
              refine x_iincN_2 (1) dX5_corrects_119 (by decide) rfl ?_
              refine x_iincN_4 (1) dX5_corrects_122 (by decide) rfl ?_
              refine x_goto 21 dX5_corrects_125 (by decide) ?_
              have hL4 := hL3.put (f' := upd (upd d7 (527 + 49 * (5 * j + A.length) + 2 + 3 * u.length) (nI y.1)) (527 + 49 * (5 * j + A.length) + 3 + 3 * u.length) (nI 0)) (y := (y.1, y.1, 0)) ⟨hok.1, hok.1, Nat.zero_lt_two⟩ rfl (by rw [pk_un (by omega), pk_us]) (by rw [pk_us]) (by rw [pk_un (by omega), pk_un (by omega)]) (fun k z1 z2 z3 z4 => by rw [pk_un z4, pk_un z3])
              have hB4 := hB7.fr (f' := upd (upd d7 (527 + 49 * (5 * j + A.length) + 2 + 3 * u.length) (nI y.1)) (527 + 49 * (5 * j + A.length) + 3 + 3 * u.length) (nI 0)) (fun k hk => by rw [pk_un (by omega), pk_un (by omega)])
              have hz := ih (u ++ [(y.1, y.1, 0)]) _ _ _ (n1 + 1) (some (.int (nI y.1))) (some (.int (nI y.2.1))) ((hR3.uA (f' := upd d7 (527 + 49 * (5 * j + A.length) + 2 + 3 * u.length) (nI y.1))).uA) ((((hF1.u (by omega) (by omega)).u (by omega) (by omega)).u (by omega) (by omega)).u (by omega) (by omega)) hB4 (by rw [List.append_assoc]; exact hL4) (fun k z1 z2 z3 => by
                rw [pk_un (by omega), pk_un (by omega), hd7 k z1, hd8 k z1]
                exact hd k z1 z2 z3) (fun c2 d8 o4 o5 o6 w1 w2 w3 w4 w5 => by
                have w9 := K c2 d8 o4 o5 o6 w1 w2 w3 (by rw [List.append_assoc] at w4; exact w4) w5
                simp only [← Nat.add_assoc] at w9
                exact w9)
              rw [List.length_append, List.length_singleton] at hz
              exact hz
set_option maxRecDepth 20000 in
set_option maxHeartbeats 2000000 in
theorem l_X5_corrects {c : Nat → VC} {g : VG} {f vs as tx rw ll lt : Nat → Int32} {n tl th : Int32} {j : Nat} (hj : j < 3) : ∀ (C A : List (List Pl)) (c1 : Nat → VC) (d9 : Nat → Int32) (B1 : Bx) (n1 : Nat) (o4 o5 o6 : Option Value), RH c1 d9 vs as tx rw ll lt n tl th → FrR c c1 → BoxR d9 B1 → ForR d9 j (A ++ C) → FrF f d9 j (fun _ => False) → Xm M_X5_corrects 4 [some (.ref 456), some (.int (nI j)), some (.int (nI n1)), some (.int (nI A.length)), o4, o5, o6] [] (g, c1) (Ei g (fun v c' => v = .int (nI (n1 + (corL C.flatten B1).2.2)) ∧ ∃ f', RH c' f' vs as tx rw ll lt n tl th ∧ FrR c c' ∧ BoxR f' ((corL C.flatten B1).1) ∧ ForR f' j (A ++ reL C (corL C.flatten B1).2.1) ∧ f' 1519 = f 1519 + nI 3 * nI (n1 + (corL C.flatten B1).2.2) ∧ FrF f f' j (fun k => k = 1519))) := by
  intro C
  induction C with
  | nil =>
    intro A c1 d9 B1 n1 o4 o5 o6 hR1 hF1 hB1 hL1 hd
    obtain ⟨hO, hA, hS, hD, hX, hW, hL, hT⟩ := id hR1
    rw [List.append_nil] at hL1
    have h5 := hL1.2.1.1
    have hm := hL1.1
    refine x_iload_n dX5_corrects_4 rfl ?_
    refine x_aload_n dX5_corrects_5 rfl ?_
    refine x_getfield dX5_corrects_6 rfl (by decide) (by first | assumption | (simp (disch := omega) only [up_s, up_n]; first | assumption | rfl)) rfl ?_
    refine x_sipush (nI 1262) dX5_corrects_9 (by decide) ?_
    refine x_iload_n dX5_corrects_12 rfl ?_
    refine x_iaddN dX5_corrects_13 ?_
    refine x_ialoadN dX5_corrects_14 (by first | assumption | (simp (disch := omega) only [up_s, up_n]; first | assumption | rfl)) (by omega) (by omega) ?_
    rw [hm]
    refine x_icmp_ge 134 dX5_corrects_15 (by decide) (fun c15 => ?_) (fun c15 => ?_)
    · refine x_aload_n dX5_corrects_134 rfl ?_
      refine x_getfield dX5_corrects_135 rfl (by decide) (by first | assumption | (simp (disch := omega) only [up_s, up_n]; first | assumption | rfl)) rfl ?_
      refine x_sipush (nI 1519) dX5_corrects_138 (by decide) ?_
      refine x_dup2 dX5_corrects_141 rfl rfl ?_
      refine x_ialoadN dX5_corrects_142 (by first | assumption | (simp (disch := omega) only [up_s, up_n]; first | assumption | rfl)) (by omega) (by omega) ?_
      refine x_iconst (nI 3) dX5_corrects_143 (by decide) ?_
      refine x_iload_n dX5_corrects_144 rfl ?_
      refine x_imul dX5_corrects_145 ?_
      refine x_iadd dX5_corrects_146 ?_
      refine x_iastoreN dX5_corrects_147 (by first | assumption | (simp (disch := omega) only [up_s, up_n]; first | assumption | rfl)) (by omega) (by omega) ?_
      refine x_iload_n dX5_corrects_148 rfl ?_
      refine x_ireturn dX5_corrects_149 ?_
      refine ⟨_, _, rfl, rfl, rfl, _, hR1.uA, hF1.u (by omega) (by omega), hB1.fr (fun k hk => by rw [pk_un (by omega)]), ?_, ?_, fun k z1 z2 z3 => by rw [pk_un z3]; exact hd k z1 z2 (fun w => w)⟩
      · show ForR _ j (A ++ [])
        rw [List.append_nil]
        exact hL1.fr (by rw [pk_un (by omega)]) (fun k z1 z2 => by rw [pk_un (by omega)])
      · rw [pk_us, hd 1519 (by omega) (by omega) (fun w => w)]
        rfl
    · exact absurd (Int32.le_refl _) c15
  | cons l C ih =>
    intro A c1 d9 B1 n1 o4 o5 o6 hR1 hF1 hB1 hL1 hd
    obtain ⟨hO, hA, hS, hD, hX, hW, hL, hT⟩ := id hR1
    have h5 := hL1.2.1.1
    have hm := hL1.1
    rw [List.length_append, List.length_cons] at h5 hm
    rw [List.flatten_cons, corL_app]
    simp only
    rw [reL_cons corL_len]
    refine x_iload_n dX5_corrects_4 rfl ?_
    refine x_aload_n dX5_corrects_5 rfl ?_
    refine x_getfield dX5_corrects_6 rfl (by decide) (by first | assumption | (simp (disch := omega) only [up_s, up_n]; first | assumption | rfl)) rfl ?_
    refine x_sipush (nI 1262) dX5_corrects_9 (by decide) ?_
    refine x_iload_n dX5_corrects_12 rfl ?_
    refine x_iaddN dX5_corrects_13 ?_
    refine x_ialoadN dX5_corrects_14 (by first | assumption | (simp (disch := omega) only [up_s, up_n]; first | assumption | rfl)) (by omega) (by omega) ?_
    rw [hm]
    refine x_icmp_ge 134 dX5_corrects_15 (by decide) (fun c15 => ?_) (fun c15 => ?_)
    · exact absurd ((nI_leI (by omega) (by omega)).mp c15) (by omega)
    · refine x_iconst (nI 0) dX5_corrects_18 (by decide) ?_
      refine x_istore_4 dX5_corrects_19 rfl ?_
      refine i_X5_corrects hj l [] c1 d9 B1 n1 o5 o6 hR1 hF1 hB1 hL1 hd (fun c2 d8 o4 o5 o6 w1 w2 w3 w4 w5 => ?_)
      have hz := ih (A ++ [(corL l B1).2.1]) c2 d8 _ (n1 + (corL l B1).2.2) o4 o5 o6 w1 w2 w3 (by rw [List.append_assoc]; exact w4) w5
      rw [List.length_append, List.length_singleton] at hz
      simp only [List.append_assoc, List.singleton_append, Nat.add_assoc] at hz
      exact hz
set_option maxRecDepth 20000 in
set_option maxHeartbeats 1000000 in
theorem s_X5_corrects {c : Nat → VC} {g : VG} {f vs as tx rw ll lt : Nat → Int32} {n tl th : Int32} (hR : RH c f vs as tx rw ll lt n tl th) {j : Nat} {L : List (List Pl)} {B : Bx} (hj : j < 3) (hB : BoxR f B) (hL : ForR f j L) : Cm k_X5_corrects [.ref 456, .int (nI j)] (g, c) (Ei g (fun v c' => v = .int (nI ((corL L.flatten B).2.2)) ∧ ∃ f', RH c' f' vs as tx rw ll lt n tl th ∧ FrR c c' ∧ BoxR f' ((corL L.flatten B).1) ∧ ForR f' j (reL L (corL L.flatten B).2.1) ∧ f' 1519 = f 1519 + nI 3 * nI ((corL L.flatten B).2.2) ∧ FrF f f' j (fun k => k = 1519))) := by
  refine Cm.in (M := M_X5_corrects) (ls := [some (.ref 456), some (.int (nI j)), none, none, none, none, none]) rfl rfl ?_
  refine x_iconst (nI 0) dX5_corrects_0 (by decide) ?_
  refine x_istore_n2 dX5_corrects_1 rfl ?_
  refine x_iconst (nI 0) dX5_corrects_2 (by decide) ?_
  refine x_istore_n3 dX5_corrects_3 rfl ?_
  have h9 := l_X5_corrects (g := g) (c := c) (f := f) hj L [] c f B 0 none none none hR FrR.rf hB hL (fun k z1 z2 z3 => rfl)
  simp only [Nat.zero_add, List.nil_append] at h9
  exact h9
theorem disL_app {sl : Int32} : ∀ {l t : List Pl} {B : Bx} {go : Int32}, disL sl (l ++ t) B go = disL sl t (disL sl l B go).1 (disL sl l B go).2
  | [], _, _, _ => rfl
  | q :: l, t, B, go => by
    show disL sl (l ++ t) _ _ = _
    rw [disL_app]
    rfl
theorem SB_dis {sl : Int32} : ∀ {l : List Pl} {B : Bx} {go : Int32}, (∀ q ∈ l, q.1 < 27 ∧ q.2.1 < 27 ∧ q.2.2 < 2) → SB (disL sl l B go).1 = SB B + l.length
  | [], _, _, _ => rfl
  | q :: l, B, go, h => by
    have h1 := h q List.mem_cons_self
    show SB (disL sl l (pb B (if slp sl (go + nI 1) then (q.2.1 + 1) % 27 else q.2.1) q.2.1) (go + nI 1)).1 = _
    rw [SB_dis (fun z hz => h z (List.mem_cons_of_mem _ hz)), SB_pb, List.length_cons]
    · omega
    · split <;> omega
def FrD (f d : Nat → Int32) : Prop := ∀ k, 527 ≤ k → k ≠ 1520 → d k = f k
set_option maxRecDepth 20000 in
set_option maxHeartbeats 2000000 in
theorem i_X5_distributes {c : Nat → VC} {g : VG} {f vs as tx rw ll lt : Nat → Int32} {n tl th : Int32} {j : Nat} (hj : j < 3) {sl : Int32} (hsl : f 1516 = sl) {Q : (Option Value ⊕ Nat) → VH → Prop} {A C : List (List Pl)} : ∀ (r u : List Pl) (c1 : Nat → VC) (d9 : Nat → Int32) (B1 : Bx) (n1 : Nat) (o5 o6 : Option Value), RH c1 d9 vs as tx rw ll lt n tl th → FrR c c1 → BoxR d9 B1 → ForR f j (A ++ (u ++ r) :: C) → FrD f d9 → SB B1 + r.length ≤ 250 → (∀ c2 d8 o4 o5 o6, RH c2 d8 vs as tx rw ll lt n tl th → FrR c c2 → BoxR d8 (disL sl r B1 (d9 1520)).1 → d8 1520 = (disL sl r B1 (d9 1520)).2 → FrD f d8 → Xm M_X5_distributes 4 [some (.ref 456), some (.int (nI j)), some (.int (nI (n1 + r.length))), some (.int (nI (A.length + 1))), o4, o5, o6] [] (g, c2) Q) → Xm M_X5_distributes 21 [some (.ref 456), some (.int (nI j)), some (.int (nI n1)), some (.int (nI A.length)), some (.int (nI u.length)), o5, o6] [] (g, c1) Q := by
  intro r
  induction r with
  | nil =>
    intro u c1 d9 B1 n1 o5 o6 hR1 hF1 hB1 hL0 hd hsb K
    have hL1 := hL0.fr (f' := d9) (hd _ (by omega) (by omega)) (fun k z1 z2 => hd k (by omega) (by omega))
    obtain ⟨hO, hA, hS, hD, hX, hW, hL, hT⟩ := id hR1
    have hbd := hL1.bd
    have e0 : ([] : List Pl).length = 0 := rfl
    refine x_iload dX5_distributes_21 rfl ?_
    refine x_aload_n dX5_distributes_23 rfl ?_
    refine x_iload_n dX5_distributes_24 rfl ?_
    refine x_iload_n dX5_distributes_25 rfl ?_
    refine x_cv3 dX5_distributes_26 rfl (by first | assumption | (simp (disch := omega) only [up_s, up_n]; first | assumption | rfl)) rfl ?_
    refine Cm.rt (r_places0 hO hA hj hL1) ?_
    refine x_icmp_ge 125 dX5_distributes_29 (by decide) (fun c29 => ?_) (fun c29 => ?_)
    · refine x_iincN_3 (1) dX5_distributes_125 (by decide) rfl ?_
      refine x_goto 4 dX5_distributes_128 (by decide) ?_
      exact K c1 d9 (some (.int (nI u.length))) o5 o6 hR1 hF1 hB1 rfl hd
    · exact absurd ((nI_leI (by omega) (by omega)).mpr (by omega)) c29
  | cons y r ih =>
    intro u c1 d9 B1 n1 o5 o6 hR1 hF1 hB1 hL0 hd hsb K
    have hL1 := hL0.fr (f' := d9) (hd _ (by omega) (by omega)) (fun k z1 z2 => hd k (by omega) (by omega))
    obtain ⟨hO, hA, hS, hD, hX, hW, hL, hT⟩ := id hR1
    have hbd := hL1.bd
    have hok := hL1.ok
    have e0 : (y :: r).length = r.length + 1 := rfl
    have hds : d9 1516 = sl := by rw [hd _ (by omega) (by omega)]; exact hsl
    have hR2 := hR1.uA (f' := upd d9 1520 (d9 1520 + nI 1))
    have hB2 := hB1.fr (f' := upd d9 1520 (d9 1520 + nI 1)) (fun k hk => by rw [pk_un (by omega)])
    have hd2 : FrD f (upd d9 1520 (d9 1520 + nI 1)) := fun k z1 z2 => by rw [pk_un z2]; exact hd k z1 z2
    cases hw : slp sl (d9 1520 + nI 1) with
    | false =>
      have hdl : disL sl (y :: r) B1 (d9 1520) = disL sl r (pb B1 y.2.1 y.2.1) (d9 1520 + nI 1) := by
        show disL sl r (pb B1 (if slp sl (d9 1520 + nI 1) then (y.2.1 + 1) % 27 else y.2.1) y.2.1) (d9 1520 + nI 1) = _
        rw [hw]; rfl
      rw [hdl] at K
      refine x_iload dX5_distributes_21 rfl ?_
      refine x_aload_n dX5_distributes_23 rfl ?_
      refine x_iload_n dX5_distributes_24 rfl ?_
      refine x_iload_n dX5_distributes_25 rfl ?_
      refine x_cv3 dX5_distributes_26 rfl (by first | assumption | (simp (disch := omega) only [up_s, up_n]; first | assumption | rfl)) rfl ?_
      refine Cm.rt (r_places0 hO hA hj hL1) ?_
      refine x_icmp_ge 125 dX5_distributes_29 (by decide) (fun c29 => ?_) (fun c29 => ?_)
      · exact absurd ((nI_leI (by omega) (by omega)).mp c29) (by omega)
      · refine x_aload_n dX5_distributes_32 rfl ?_
        refine x_iload_n dX5_distributes_33 rfl ?_
        refine x_iload_n dX5_distributes_34 rfl ?_
        refine x_iload dX5_distributes_35 rfl ?_
        refine x_iconst (nI 1) dX5_distributes_37 (by decide) ?_
        refine x_cv5 dX5_distributes_38 rfl (by first | assumption | (simp (disch := omega) only [up_s, up_n]; first | assumption | rfl)) rfl ?_
        refine Cm.rt (r_of1 hO hA hj hL1) ?_
        refine x_istore_5 dX5_distributes_41 rfl ?_
        refine x_aload_n dX5_distributes_43 rfl ?_
        refine x_getfield dX5_distributes_44 rfl (by decide) (by first | assumption | (simp (disch := omega) only [up_s, up_n]; first | assumption | rfl)) rfl ?_
        refine x_sipush (nI 1520) dX5_distributes_47 (by decide) ?_
        refine x_dup2 dX5_distributes_50 rfl rfl ?_
        refine x_ialoadN dX5_distributes_51 (by first | assumption | (simp (disch := omega) only [up_s, up_n]; first | assumption | rfl)) (by omega) (by omega) ?_
        refine x_iconst (nI 1) dX5_distributes_52 (by decide) ?_
        refine x_iadd dX5_distributes_53 ?_
        refine x_iastoreN dX5_distributes_54 (by first | assumption | (simp (disch := omega) only [up_s, up_n]; first | assumption | rfl)) (by omega) (by omega) ?_
        refine x_aload_n dX5_distributes_55 rfl ?_
        refine x_getfield dX5_distributes_56 rfl (by decide) (by first | assumption | (simp (disch := omega) only [up_s, up_n]; first | assumption | rfl)) rfl ?_
        refine x_sipush (nI 1516) dX5_distributes_59 (by decide) ?_
        refine x_ialoadN dX5_distributes_62 (by first | assumption | (simp (disch := omega) only [up_s, up_n]; first | assumption | rfl)) (by omega) (by omega) ?_
        rw [pk_un (by omega), hds]
        refine x_if_le 90 dX5_distributes_63 (by decide) (fun c63 => ?_) (fun c63 => ?_)
        · refine x_iconst (nI 0) dX5_distributes_90 (by decide) ?_
          refine x_istore_6 dX5_distributes_91 rfl ?_
          refine x_aload_n dX5_distributes_93 rfl ?_
          refine x_iload dX5_distributes_94 rfl ?_
          refine x_if_eq 109 dX5_distributes_96 (by decide) (fun c96 => ?_) (fun c96 => ?_)
          · refine x_iload dX5_distributes_109 rfl ?_
            refine x_iload dX5_distributes_111 rfl ?_
            refine x_cv3 dX5_distributes_113 rfl (by first | assumption | (simp (disch := omega) only [up_s, up_n]; first | assumption | rfl)) rfl ?_
            obtain ⟨hO2, hA2, _⟩ := id hR2
            refine Cm.ev (s_X5_puts hO2 hA2 hB2 (b := y.2.1) (x := y.2.1) (by omega) hok.2.1 (by omega)) (fun c3 q3 => ?_)
            obtain ⟨d7, rfl, hB7, hd7⟩ := q3
            refine x_iincN_2 (1) dX5_distributes_116 (by decide) rfl ?_
            refine x_iincN_4 (1) dX5_distributes_119 (by decide) rfl ?_
            refine x_goto 21 dX5_distributes_122 (by decide) ?_
            have h20 : d7 1520 = d9 1520 + nI 1 := by rw [hd7 _ (by omega), pk_us]
            have hz := ih (u ++ [y]) _ d7 _ (n1 + 1) (some (.int (nI y.2.1))) (some (.int (nI 0))) (hR2.uA) ((hF1.u (by omega) (by omega)).u (by omega) (by omega)) hB7 (by rw [List.append_assoc]; exact hL0) (fun k z1 z2 => by rw [hd7 k z1]; exact hd2 k z1 z2) (by rw [SB_pb (by omega)]; omega) (fun c2 d8 o4 o5 o6 w1 w2 w3 w4 w5 => by
              rw [h20] at w3 w4
              have w9 := K c2 d8 o4 o5 o6 w1 w2 w3 w4 w5
              simp only [List.length_cons, show n1 + (r.length + 1) = n1 + 1 + r.length by omega] at w9
              exact w9)
            rw [List.length_append, List.length_singleton] at hz
            exact hz
          · exact absurd rfl c96
        · refine x_aload_n dX5_distributes_66 rfl ?_
          refine x_getfield dX5_distributes_67 rfl (by decide) (by first | assumption | (simp (disch := omega) only [up_s, up_n]; first | assumption | rfl)) rfl ?_
          refine x_sipush (nI 1520) dX5_distributes_70 (by decide) ?_
          refine x_ialoadN dX5_distributes_73 (by first | assumption | (simp (disch := omega) only [up_s, up_n]; first | assumption | rfl)) (by omega) (by omega) ?_
          rw [pk_us]
          refine x_aload_n dX5_distributes_74 rfl ?_
          refine x_getfield dX5_distributes_75 rfl (by decide) (by first | assumption | (simp (disch := omega) only [up_s, up_n]; first | assumption | rfl)) rfl ?_
          refine x_sipush (nI 1516) dX5_distributes_78 (by decide) ?_
          refine x_ialoadN dX5_distributes_81 (by first | assumption | (simp (disch := omega) only [up_s, up_n]; first | assumption | rfl)) (by omega) (by omega) ?_
          rw [pk_un (by omega), hds]
          refine x_irem dX5_distributes_82 (fun z => c63 (by rw [z]; exact Int32.le_refl _)) ?_
          refine x_if_ne 90 dX5_distributes_83 (by decide) (fun c83 => ?_) (fun c83 => ?_)
          · refine x_iconst (nI 0) dX5_distributes_90 (by decide) ?_
            refine x_istore_6 dX5_distributes_91 rfl ?_
            refine x_aload_n dX5_distributes_93 rfl ?_
            refine x_iload dX5_distributes_94 rfl ?_
            refine x_if_eq 109 dX5_distributes_96 (by decide) (fun c96 => ?_) (fun c96 => ?_)
            · refine x_iload dX5_distributes_109 rfl ?_
              refine x_iload dX5_distributes_111 rfl ?_
              refine x_cv3 dX5_distributes_113 rfl (by first | assumption | (simp (disch := omega) only [up_s, up_n]; first | assumption | rfl)) rfl ?_
              obtain ⟨hO2, hA2, _⟩ := id hR2
              refine Cm.ev (s_X5_puts hO2 hA2 hB2 (b := y.2.1) (x := y.2.1) (by omega) hok.2.1 (by omega)) (fun c3 q3 => ?_)
              obtain ⟨d7, rfl, hB7, hd7⟩ := q3
              refine x_iincN_2 (1) dX5_distributes_116 (by decide) rfl ?_
              refine x_iincN_4 (1) dX5_distributes_119 (by decide) rfl ?_
              refine x_goto 21 dX5_distributes_122 (by decide) ?_
              have h20 : d7 1520 = d9 1520 + nI 1 := by rw [hd7 _ (by omega), pk_us]
              have hz := ih (u ++ [y]) _ d7 _ (n1 + 1) (some (.int (nI y.2.1))) (some (.int (nI 0))) (hR2.uA) ((hF1.u (by omega) (by omega)).u (by omega) (by omega)) hB7 (by rw [List.append_assoc]; exact hL0) (fun k z1 z2 => by rw [hd7 k z1]; exact hd2 k z1 z2) (by rw [SB_pb (by omega)]; omega) (fun c2 d8 o4 o5 o6 w1 w2 w3 w4 w5 => by
                rw [h20] at w3 w4
                have w9 := K c2 d8 o4 o5 o6 w1 w2 w3 w4 w5
                simp only [List.length_cons, show n1 + (r.length + 1) = n1 + 1 + r.length by omega] at w9
                exact w9)
              rw [List.length_append, List.length_singleton] at hz
              exact hz
            · exact absurd rfl c96
          · exact absurd (by simp [slp, c63, c83] : slp sl (d9 1520 + nI 1) = true) (by rw [hw]; decide)
    | true =>
      have hdl : disL sl (y :: r) B1 (d9 1520) = disL sl r (pb B1 ((y.2.1 + 1) % 27) y.2.1) (d9 1520 + nI 1) := by
        show disL sl r (pb B1 (if slp sl (d9 1520 + nI 1) then (y.2.1 + 1) % 27 else y.2.1) y.2.1) (d9 1520 + nI 1) = _
        rw [hw]; rfl
      rw [hdl] at K
      refine x_iload dX5_distributes_21 rfl ?_
      refine x_aload_n dX5_distributes_23 rfl ?_
      refine x_iload_n dX5_distributes_24 rfl ?_
      refine x_iload_n dX5_distributes_25 rfl ?_
      refine x_cv3 dX5_distributes_26 rfl (by first | assumption | (simp (disch := omega) only [up_s, up_n]; first | assumption | rfl)) rfl ?_
      refine Cm.rt (r_places0 hO hA hj hL1) ?_
      refine x_icmp_ge 125 dX5_distributes_29 (by decide) (fun c29 => ?_) (fun c29 => ?_)
      · exact absurd ((nI_leI (by omega) (by omega)).mp c29) (by omega)
      · refine x_aload_n dX5_distributes_32 rfl ?_
        refine x_iload_n dX5_distributes_33 rfl ?_
        refine x_iload_n dX5_distributes_34 rfl ?_
        refine x_iload dX5_distributes_35 rfl ?_
        refine x_iconst (nI 1) dX5_distributes_37 (by decide) ?_
        refine x_cv5 dX5_distributes_38 rfl (by first | assumption | (simp (disch := omega) only [up_s, up_n]; first | assumption | rfl)) rfl ?_
        refine Cm.rt (r_of1 hO hA hj hL1) ?_
        refine x_istore_5 dX5_distributes_41 rfl ?_
        refine x_aload_n dX5_distributes_43 rfl ?_
        refine x_getfield dX5_distributes_44 rfl (by decide) (by first | assumption | (simp (disch := omega) only [up_s, up_n]; first | assumption | rfl)) rfl ?_
        refine x_sipush (nI 1520) dX5_distributes_47 (by decide) ?_
        refine x_dup2 dX5_distributes_50 rfl rfl ?_
        refine x_ialoadN dX5_distributes_51 (by first | assumption | (simp (disch := omega) only [up_s, up_n]; first | assumption | rfl)) (by omega) (by omega) ?_
        refine x_iconst (nI 1) dX5_distributes_52 (by decide) ?_
        refine x_iadd dX5_distributes_53 ?_
        refine x_iastoreN dX5_distributes_54 (by first | assumption | (simp (disch := omega) only [up_s, up_n]; first | assumption | rfl)) (by omega) (by omega) ?_
        refine x_aload_n dX5_distributes_55 rfl ?_
        refine x_getfield dX5_distributes_56 rfl (by decide) (by first | assumption | (simp (disch := omega) only [up_s, up_n]; first | assumption | rfl)) rfl ?_
        refine x_sipush (nI 1516) dX5_distributes_59 (by decide) ?_
        refine x_ialoadN dX5_distributes_62 (by first | assumption | (simp (disch := omega) only [up_s, up_n]; first | assumption | rfl)) (by omega) (by omega) ?_
        rw [pk_un (by omega), hds]
        refine x_if_le 90 dX5_distributes_63 (by decide) (fun c63 => ?_) (fun c63 => ?_)
        · exact absurd hw (by simp [slp, c63])
        · refine x_aload_n dX5_distributes_66 rfl ?_
          refine x_getfield dX5_distributes_67 rfl (by decide) (by first | assumption | (simp (disch := omega) only [up_s, up_n]; first | assumption | rfl)) rfl ?_
          refine x_sipush (nI 1520) dX5_distributes_70 (by decide) ?_
          refine x_ialoadN dX5_distributes_73 (by first | assumption | (simp (disch := omega) only [up_s, up_n]; first | assumption | rfl)) (by omega) (by omega) ?_
          rw [pk_us]
          refine x_aload_n dX5_distributes_74 rfl ?_
          refine x_getfield dX5_distributes_75 rfl (by decide) (by first | assumption | (simp (disch := omega) only [up_s, up_n]; first | assumption | rfl)) rfl ?_
          refine x_sipush (nI 1516) dX5_distributes_78 (by decide) ?_
          refine x_ialoadN dX5_distributes_81 (by first | assumption | (simp (disch := omega) only [up_s, up_n]; first | assumption | rfl)) (by omega) (by omega) ?_
          rw [pk_un (by omega), hds]
          refine x_irem dX5_distributes_82 (fun z => c63 (by rw [z]; exact Int32.le_refl _)) ?_
          refine x_if_ne 90 dX5_distributes_83 (by decide) (fun c83 => ?_) (fun c83 => ?_)
          · exact absurd hw (by simp [slp, c83])
          · refine x_iconst (nI 1) dX5_distributes_86 (by decide) ?_
            refine x_goto 91 dX5_distributes_87 (by decide) ?_
            refine x_istore_6 dX5_distributes_91 rfl ?_
            refine x_aload_n dX5_distributes_93 rfl ?_
            refine x_iload dX5_distributes_94 rfl ?_
            refine x_if_eq 109 dX5_distributes_96 (by decide) (fun c96 => ?_) (fun c96 => ?_)
            · exact absurd c96 (by decide)
            · refine x_iload dX5_distributes_99 rfl ?_
              refine x_iconst (nI 1) dX5_distributes_101 (by decide) ?_
              refine x_iaddN dX5_distributes_102 ?_
              refine x_bipush (nI 27) dX5_distributes_103 (by decide) ?_
              refine x_irem dX5_distributes_105 (by decide) ?_
              rw [nI_mod (by omega) (by omega) (by omega)]
              refine x_goto 111 dX5_distributes_106 (by decide) ?_
              refine x_iload dX5_distributes_111 rfl ?_
              refine x_cv3 dX5_distributes_113 rfl (by first | assumption | (simp (disch := omega) only [up_s, up_n]; first | assumption | rfl)) rfl ?_
              obtain ⟨hO2, hA2, _⟩ := id hR2
              refine Cm.ev (s_X5_puts hO2 hA2 hB2 (b := (y.2.1 + 1) % 27) (x := y.2.1) (by omega) hok.2.1 (by omega)) (fun c3 q3 => ?_)
              obtain ⟨d7, rfl, hB7, hd7⟩ := q3
              refine x_iincN_2 (1) dX5_distributes_116 (by decide) rfl ?_
              refine x_iincN_4 (1) dX5_distributes_119 (by decide) rfl ?_
              refine x_goto 21 dX5_distributes_122 (by decide) ?_
              have h20 : d7 1520 = d9 1520 + nI 1 := by rw [hd7 _ (by omega), pk_us]
              have hz := ih (u ++ [y]) _ d7 _ (n1 + 1) (some (.int (nI y.2.1))) (some (.int (nI 1))) (hR2.uA) ((hF1.u (by omega) (by omega)).u (by omega) (by omega)) hB7 (by rw [List.append_assoc]; exact hL0) (fun k z1 z2 => by rw [hd7 k z1]; exact hd2 k z1 z2) (by rw [SB_pb (by omega)]; omega) (fun c2 d8 o4 o5 o6 w1 w2 w3 w4 w5 => by
                rw [h20] at w3 w4
                have w9 := K c2 d8 o4 o5 o6 w1 w2 w3 w4 w5
                simp only [List.length_cons, show n1 + (r.length + 1) = n1 + 1 + r.length by omega] at w9
                exact w9)
              rw [List.length_append, List.length_singleton] at hz
              exact hz
theorem ForR.nil {f : Nat → Int32} {j : Nat} (h : f (1262 + j) = 0) : ForR f j [] := ⟨h, ⟨Nat.zero_le _, fun l hl => absurd hl (by simp)⟩, fun i hi => absurd hi (Nat.not_lt_zero i), fun i hi => absurd hi (Nat.not_lt_zero i), fun l hl => absurd hl (by simp)⟩
set_option maxRecDepth 20000 in
set_option maxHeartbeats 2000000 in
theorem l_X5_distributes {c : Nat → VC} {g : VG} {f vs as tx rw ll lt : Nat → Int32} {n tl th : Int32} {j : Nat} (hj : j < 3) {sl : Int32} (hsl : f 1516 = sl) : ∀ (C A : List (List Pl)) (c1 : Nat → VC) (d9 : Nat → Int32) (B1 : Bx) (n1 : Nat) (o4 o5 o6 : Option Value), RH c1 d9 vs as tx rw ll lt n tl th → FrR c c1 → BoxR d9 B1 → ForR f j (A ++ C) → FrD f d9 → SB B1 + C.flatten.length ≤ 250 → Xm M_X5_distributes 4 [some (.ref 456), some (.int (nI j)), some (.int (nI n1)), some (.int (nI A.length)), o4, o5, o6] [] (g, c1) (Ei g (fun v c' => v = .int (nI (n1 + C.flatten.length)) ∧ ∃ f', RH c' f' vs as tx rw ll lt n tl th ∧ FrR c c' ∧ BoxR f' (disL sl C.flatten B1 (d9 1520)).1 ∧ f' 1520 = (disL sl C.flatten B1 (d9 1520)).2 ∧ f' 1519 = f 1519 + nI (n1 + C.flatten.length) ∧ ForR f' j [] ∧ ∀ k, 527 ≤ k → (k < 527 + 245 * j ∨ 527 + 245 * (j + 1) ≤ k) → k ≠ 1262 + j → k ≠ 1519 → k ≠ 1520 → f' k = f k)) := by
  intro C
  induction C with
  | nil =>
    intro A c1 d9 B1 n1 o4 o5 o6 hR1 hF1 hB1 hL0 hd hsb
    have hL1 := hL0.fr (f' := d9) (hd _ (by omega) (by omega)) (fun k z1 z2 => hd k (by omega) (by omega))
    obtain ⟨hO, hA, hS, hD, hX, hW, hL, hT⟩ := id hR1
    rw [List.append_nil] at hL1
    have h5 := hL1.2.1.1
    have hm := hL1.1
    refine x_iload_n dX5_distributes_4 rfl ?_
    refine x_aload_n dX5_distributes_5 rfl ?_
    refine x_getfield dX5_distributes_6 rfl (by decide) (by first | assumption | (simp (disch := omega) only [up_s, up_n]; first | assumption | rfl)) rfl ?_
    refine x_sipush (nI 1262) dX5_distributes_9 (by decide) ?_
    refine x_iload_n dX5_distributes_12 rfl ?_
    refine x_iaddN dX5_distributes_13 ?_
    refine x_ialoadN dX5_distributes_14 (by first | assumption | (simp (disch := omega) only [up_s, up_n]; first | assumption | rfl)) (by omega) (by omega) ?_
    rw [hm]
    refine x_icmp_ge 131 dX5_distributes_15 (by decide) (fun c15 => ?_) (fun c15 => ?_)
    · refine x_aload_n dX5_distributes_131 rfl ?_
      refine x_getfield dX5_distributes_132 rfl (by decide) (by first | assumption | (simp (disch := omega) only [up_s, up_n]; first | assumption | rfl)) rfl ?_
      refine x_sipush (nI 1519) dX5_distributes_135 (by decide) ?_
      refine x_dup2 dX5_distributes_138 rfl rfl ?_
      refine x_ialoadN dX5_distributes_139 (by first | assumption | (simp (disch := omega) only [up_s, up_n]; first | assumption | rfl)) (by omega) (by omega) ?_
      refine x_iload_n dX5_distributes_140 rfl ?_
      refine x_iadd dX5_distributes_141 ?_
      refine x_iastoreN dX5_distributes_142 (by first | assumption | (simp (disch := omega) only [up_s, up_n]; first | assumption | rfl)) (by omega) (by omega) ?_
      refine x_aload_n dX5_distributes_143 rfl ?_
      refine x_iload_n dX5_distributes_144 rfl ?_
      refine x_cv2 dX5_distributes_145 rfl (by first | assumption | (simp (disch := omega) only [up_s, up_n]; first | assumption | rfl)) rfl ?_
      refine Cm.ev (s_X5_loosens hR1.uA hj) (fun c2 q2 => ?_)
      obtain ⟨d8, w1, w2, w3, w4⟩ := q2
      refine x_iload_n dX5_distributes_148 rfl ?_
      refine x_ireturn dX5_distributes_149 ?_
      refine ⟨_, _, rfl, rfl, rfl, d8, w1, (hF1.u (by omega) (by omega)).tr w2, hB1.fr (fun k hk => ?_), ?_, ?_, ForR.nil w3, fun k z1 z2 z3 z4 z5 => ?_⟩
      · rw [w4 k (by omega) (by omega), pk_un (by omega)]
      · rw [w4 _ (by omega) (by omega), pk_un (by omega)]; rfl
      · rw [w4 _ (by omega) (by omega), pk_us, hd _ (by omega) (by omega)]; rfl
      · rw [w4 k z2 z3, pk_un z4]; exact hd k z1 z5
    · exact absurd (Int32.le_refl _) c15
  | cons l C ih =>
    intro A c1 d9 B1 n1 o4 o5 o6 hR1 hF1 hB1 hL0 hd hsb
    have hL1 := hL0.fr (f' := d9) (hd _ (by omega) (by omega)) (fun k z1 z2 => hd k (by omega) (by omega))
    obtain ⟨hO, hA, hS, hD, hX, hW, hL, hT⟩ := id hR1
    have h5 := hL1.2.1.1
    have hm := hL1.1
    rw [List.length_append, List.length_cons] at h5 hm
    have hok : ∀ q ∈ l, q.1 < 27 ∧ q.2.1 < 27 ∧ q.2.2 < 2 := hL1.2.2.2.2 l (by simp)
    rw [List.flatten_cons, List.length_append] at hsb
    rw [List.flatten_cons, disL_app, List.length_append]
    refine x_iload_n dX5_distributes_4 rfl ?_
    refine x_aload_n dX5_distributes_5 rfl ?_
    refine x_getfield dX5_distributes_6 rfl (by decide) (by first | assumption | (simp (disch := omega) only [up_s, up_n]; first | assumption | rfl)) rfl ?_
    refine x_sipush (nI 1262) dX5_distributes_9 (by decide) ?_
    refine x_iload_n dX5_distributes_12 rfl ?_
    refine x_iaddN dX5_distributes_13 ?_
    refine x_ialoadN dX5_distributes_14 (by first | assumption | (simp (disch := omega) only [up_s, up_n]; first | assumption | rfl)) (by omega) (by omega) ?_
    rw [hm]
    refine x_icmp_ge 131 dX5_distributes_15 (by decide) (fun c15 => ?_) (fun c15 => ?_)
    · exact absurd ((nI_leI (by omega) (by omega)).mp c15) (by omega)
    · refine x_iconst (nI 0) dX5_distributes_18 (by decide) ?_
      refine x_istore_4 dX5_distributes_19 rfl ?_
      refine i_X5_distributes hj hsl l [] c1 d9 B1 n1 o5 o6 hR1 hF1 hB1 hL0 hd (by omega) (fun c2 d8 o4 o5 o6 w1 w2 w3 w4 w5 => ?_)
      have hz := ih (A ++ [l]) c2 d8 _ (n1 + l.length) o4 o5 o6 w1 w2 w3 (by rw [List.append_assoc]; exact hL0) w5 (by rw [SB_dis hok]; omega)
      rw [List.length_append, List.length_singleton, w4, Nat.add_assoc] at hz
      exact hz
set_option maxRecDepth 20000 in
set_option maxHeartbeats 1000000 in
theorem s_X5_distributes {c : Nat → VC} {g : VG} {f vs as tx rw ll lt : Nat → Int32} {n tl th : Int32} (hR : RH c f vs as tx rw ll lt n tl th) {j : Nat} {L : List (List Pl)} {B : Bx} (hj : j < 3) (hB : BoxR f B) (hL : ForR f j L) (hs : SB B + L.flatten.length ≤ 250) : Cm k_X5_distributes [.ref 456, .int (nI j)] (g, c) (Ei g (fun v c' => v = .int (nI (L.flatten.length)) ∧ ∃ f', RH c' f' vs as tx rw ll lt n tl th ∧ FrR c c' ∧ BoxR f' (disL (f 1516) L.flatten B (f 1520)).1 ∧ f' 1520 = (disL (f 1516) L.flatten B (f 1520)).2 ∧ f' 1519 = f 1519 + nI (L.flatten.length) ∧ ForR f' j [] ∧ ∀ k, 527 ≤ k → (k < 527 + 245 * j ∨ 527 + 245 * (j + 1) ≤ k) → k ≠ 1262 + j → k ≠ 1519 → k ≠ 1520 → f' k = f k)) := by
  refine Cm.in (M := M_X5_distributes) (ls := [some (.ref 456), some (.int (nI j)), none, none, none, none, none]) rfl rfl ?_
  refine x_iconst (nI 0) dX5_distributes_0 (by decide) ?_
  refine x_istore_n2 dX5_distributes_1 rfl ?_
  refine x_iconst (nI 0) dX5_distributes_2 (by decide) ?_
  refine x_istore_n3 dX5_distributes_3 rfl ?_
  have h9 := l_X5_distributes (g := g) (c := c) (f := f) hj rfl L [] c f B 0 none none none hR FrR.rf hB hL (fun k z1 z2 => rfl) hs
  rw [Nat.zero_add] at h9
  exact h9
