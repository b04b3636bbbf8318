/-! the reference: its arrays; saving, laying aside, loosening, buying -/
def RH (c : Nat → VC) (f vs as tx rw ll lt : Nat → Int32) (n tl th : Int32) : Prop := RO c n tl th ∧ AA c f ∧ c 458 = cI 6168 vs ∧ c 459 = cI 1542 as ∧ c 460 = cI 16 tx ∧ c 461 = cI 250 rw ∧ c 462 = cI 16 ll ∧ c 463 = cI 16 lt
def FrR (c c' : Nat → VC) : Prop := ∀ k, k < 456 ∨ 464 ≤ k → c' k = c k
theorem FrR.rf {c : Nat → VC} : FrR c c := fun _ _ => rfl
theorem FrR.tr {c c1 c2 : Nat → VC} (h : FrR c c1) (h2 : FrR c1 c2) : FrR c c2 := fun k hk => (h2 k hk).trans (h k hk)
theorem FrR.w {c : Nat → VC} {a : Nat} {x : VC} (h1 : 456 ≤ a) (h2 : a < 464) : FrR c (up c a x) := fun k hk => up_n (by omega)
theorem FrR.u {c c1 : Nat → VC} {a : Nat} {x : VC} (h : FrR c c1) (h1 : 456 ≤ a) (h2 : a < 464) : FrR c (up c1 a x) := h.tr (FrR.w h1 h2)
theorem RH.uA {c : Nat → VC} {f vs as tx rw ll lt : Nat → Int32} {n tl th : Int32} {f' : Nat → Int32} (h : RH c f vs as tx rw ll lt n tl th) : RH (up c 457 (cI 1542 f')) f' vs as tx rw ll lt n tl th := by
  obtain ⟨h1, h2, h3, h4, h5, h6, h7, h8⟩ := h
  refine ⟨?_, ?_, ?_, ?_, ?_, ?_, ?_, ?_⟩
  all_goals simp (disch := omega) only [up_s, up_n, RO, AA]
  all_goals first | assumption | rfl
theorem RH.uS {c : Nat → VC} {f vs as tx rw ll lt : Nat → Int32} {n tl th : Int32} {f' : Nat → Int32} (h : RH c f vs as tx rw ll lt n tl th) : RH (up c 458 (cI 6168 f')) f f' as tx rw ll lt n tl th := by
  obtain ⟨h1, h2, h3, h4, h5, h6, h7, h8⟩ := h
  refine ⟨?_, ?_, ?_, ?_, ?_, ?_, ?_, ?_⟩
  all_goals simp (disch := omega) only [up_s, up_n, RO, AA]
  all_goals first | assumption | rfl
theorem RH.uD {c : Nat → VC} {f vs as tx rw ll lt : Nat → Int32} {n tl th : Int32} {f' : Nat → Int32} (h : RH c f vs as tx rw ll lt n tl th) : RH (up c 459 (cI 1542 f')) f vs f' tx rw ll lt n tl th := by
  obtain ⟨h1, h2, h3, h4, h5, h6, h7, h8⟩ := h
  refine ⟨?_, ?_, ?_, ?_, ?_, ?_, ?_, ?_⟩
  all_goals simp (disch := omega) only [up_s, up_n, RO, AA]
  all_goals first | assumption | rfl
theorem RH.uX {c : Nat → VC} {f vs as tx rw ll lt : Nat → Int32} {n tl th : Int32} {f' : Nat → Int32} (h : RH c f vs as tx rw ll lt n tl th) : RH (up c 460 (cI 16 f')) f vs as f' rw ll lt n tl th := by
  obtain ⟨h1, h2, h3, h4, h5, h6, h7, h8⟩ := h
  refine ⟨?_, ?_, ?_, ?_, ?_, ?_, ?_, ?_⟩
  all_goals simp (disch := omega) only [up_s, up_n, RO, AA]
  all_goals first | assumption | rfl
theorem RH.uW {c : Nat → VC} {f vs as tx rw ll lt : Nat → Int32} {n tl th : Int32} {f' : Nat → Int32} (h : RH c f vs as tx rw ll lt n tl th) : RH (up c 461 (cI 250 f')) f vs as tx f' ll lt n tl th := by
  obtain ⟨h1, h2, h3, h4, h5, h6, h7, h8⟩ := h
  refine ⟨?_, ?_, ?_, ?_, ?_, ?_, ?_, ?_⟩
  all_goals simp (disch := omega) only [up_s, up_n, RO, AA]
  all_goals first | assumption | rfl
theorem RH.uL {c : Nat → VC} {f vs as tx rw ll lt : Nat → Int32} {n tl th : Int32} {f' : Nat → Int32} (h : RH c f vs as tx rw ll lt n tl th) : RH (up c 462 (cI 16 f')) f vs as tx rw f' lt n tl th := by
  obtain ⟨h1, h2, h3, h4, h5, h6, h7, h8⟩ := h
  refine ⟨?_, ?_, ?_, ?_, ?_, ?_, ?_, ?_⟩
  all_goals simp (disch := omega) only [up_s, up_n, RO, AA]
  all_goals first | assumption | rfl
theorem RH.uT {c : Nat → VC} {f vs as tx rw ll lt : Nat → Int32} {n tl th : Int32} {f' : Nat → Int32} (h : RH c f vs as tx rw ll lt n tl th) : RH (up c 463 (cI 16 f')) f vs as tx rw ll f' n tl th := by
  obtain ⟨h1, h2, h3, h4, h5, h6, h7, h8⟩ := h
  refine ⟨?_, ?_, ?_, ?_, ?_, ?_, ?_, ?_⟩
  all_goals simp (disch := omega) only [up_s, up_n, RO, AA]
  all_goals first | assumption | rfl
theorem RH.uO {c : Nat → VC} {f vs as tx rw ll lt : Nat → Int32} {n tl th : Int32} {n' tl' th' : Int32} (h : RH c f vs as tx rw ll lt n tl th) : RH (up c 456 (cO 5 [.ref 457, .ref 458, .ref 459, .int n', .ref 460, .int tl', .ref 461, .int th', .ref 462, .ref 463])) f vs as tx rw ll lt n' tl' th' := by
  obtain ⟨h1, h2, h3, h4, h5, h6, h7, h8⟩ := h
  refine ⟨?_, ?_, ?_, ?_, ?_, ?_, ?_, ?_⟩
  all_goals simp (disch := omega) only [up_s, up_n, RO, AA]
  all_goals first | assumption | rfl
set_option maxRecDepth 20000 in
set_option maxHeartbeats 1000000 in
theorem s_X5_fine {c : Nat → VC} {g : VG} {f vs as tx rw ll lt : Nat → Int32} {n tl th : Int32} (hR : RH c f vs as tx rw ll lt n tl th) {v : Int32} : Cm k_X5_fine [.ref 456, .int v] (g, c) (Ei g (fun w c' => w = .int v ∧ RH c' f vs as tx rw ll lt n tl (nI 0) ∧ FrR c c')) := by
  obtain ⟨hO, hA, hS, hD, hX, hW, hL, hT⟩ := id hR
  refine Cm.in (M := M_X5_fine) (ls := [some (.ref 456), some (.int v)]) rfl rfl ?_
  refine x_aload_n dX5_fine_0 rfl ?_
  refine x_iconst (nI 0) dX5_fine_1 (by decide) ?_
  refine x_putfield7 dX5_fine_2 rfl (by first | assumption | (simp (disch := omega) only [up_s, up_n]; first | assumption | rfl)) rfl ?_
  refine x_iload_n dX5_fine_5 rfl ?_
  refine x_ireturn dX5_fine_6 ?_
  exact ⟨_, _, rfl, rfl, rfl, hR.uO, FrR.w (by omega) (by omega)⟩
set_option maxRecDepth 20000 in
set_option maxHeartbeats 1000000 in
theorem s_X5_throwing {c : Nat → VC} {g : VG} {f vs as tx rw ll lt : Nat → Int32} {n tl th : Int32} (hR : RH c f vs as tx rw ll lt n tl th) {v : Int32} : Cm k_X5_throwing [.ref 456, .int v] (g, c) (Ei g (fun w c' => w = .int (nI 0) ∧ RH c' f vs as tx rw ll lt n tl v ∧ FrR c c')) := by
  obtain ⟨hO, hA, hS, hD, hX, hW, hL, hT⟩ := id hR
  refine Cm.in (M := M_X5_throwing) (ls := [some (.ref 456), some (.int v)]) rfl rfl ?_
  refine x_aload_n dX5_throwing_0 rfl ?_
  refine x_iload_n dX5_throwing_1 rfl ?_
  refine x_putfield7 dX5_throwing_2 rfl (by first | assumption | (simp (disch := omega) only [up_s, up_n]; first | assumption | rfl)) rfl ?_
  refine x_iconst (nI 0) dX5_throwing_5 (by decide) ?_
  refine x_ireturn dX5_throwing_6 ?_
  exact ⟨_, _, rfl, rfl, rfl, hR.uO, FrR.w (by omega) (by omega)⟩
set_option maxRecDepth 20000 in
set_option maxHeartbeats 1000000 in
theorem l_X5_laysAside {c : Nat → VC} {g : VG} {f vs tx rw ll lt : Nat → Int32} {n tl th : Int32} : ∀ (m i : Nat) (d9 : Nat → Int32) (c1 : Nat → VC), i ≤ 1542 → 1542 < i + m → RH c1 f vs d9 tx rw ll lt n tl th → FrR c c1 → (∀ k, k < i → d9 k = f k) → Xm M_X5_laysAside 2 [some (.ref 456), some (.int (nI i))] [] (g, c1) (Ev g (fun c' => ∃ as', RH c' f vs as' tx rw ll lt n tl th ∧ FrR c c' ∧ ∀ k, k < 1542 → as' k = f k)) := by
  intro m
  induction m with
  | zero => intro i d9 c1 z1 z2; omega
  | succ m ih =>
    intro i d9 c1 z1 z2 hR1 hF1 hd
    obtain ⟨hO, hA, hS, hD, hX, hW, hL, hT⟩ := id hR1
    refine x_iload_n dX5_laysAside_2 rfl ?_
    refine x_sipush (nI 1542) dX5_laysAside_3 (by decide) ?_
    refine x_icmp_ge 27 dX5_laysAside_6 (by decide) (fun c6 => ?_) (fun c6 => ?_)
    · refine x_return dX5_laysAside_27 ?_
      have e1 : i = 1542 := by have := (nI_leI (by omega) (by omega)).mp c6; omega
      subst e1
      exact ⟨_, rfl, rfl, d9, hR1, hF1, hd⟩
    · have hi : i < 1542 := by
        by_cases q : i < 1542
        · exact q
        · exact absurd ((nI_leI (by omega) (by omega)).mpr (by omega)) c6
      refine x_aload_n dX5_laysAside_9 rfl ?_
      refine x_getfield dX5_laysAside_10 rfl (by decide) (by first | assumption | (simp (disch := omega) only [up_s, up_n]; first | assumption | rfl)) rfl ?_
      refine x_iload_n dX5_laysAside_13 rfl ?_
      refine x_aload_n dX5_laysAside_14 rfl ?_
      refine x_getfield dX5_laysAside_15 rfl (by decide) (by first | assumption | (simp (disch := omega) only [up_s, up_n]; first | assumption | rfl)) rfl ?_
      refine x_iload_n dX5_laysAside_18 rfl ?_
      refine x_ialoadN dX5_laysAside_19 (by first | assumption | (simp (disch := omega) only [up_s, up_n]; first | assumption | rfl)) (by omega) (by omega) ?_
      refine x_iastoreN dX5_laysAside_20 (by first | assumption | (simp (disch := omega) only [up_s, up_n]; first | assumption | rfl)) (by omega) (by omega) ?_
      refine x_iincN_1 (1) dX5_laysAside_21 (by decide) rfl ?_
      refine x_goto 2 dX5_laysAside_24 (by decide) ?_
      refine ih (i + 1) _ _ (by omega) (by omega) hR1.uD (hF1.u (by omega) (by omega)) (fun k hk => ?_)
      by_cases q : k = i
      · subst q; rw [pk_us]
      · rw [pk_un q]; exact hd k (by omega)
set_option maxRecDepth 20000 in
set_option maxHeartbeats 1000000 in
theorem s_X5_laysAside {c : Nat → VC} {g : VG} {f vs as tx rw ll lt : Nat → Int32} {n tl th : Int32} (hR : RH c f vs as tx rw ll lt n tl th) : Cm k_X5_laysAside [.ref 456] (g, c) (Ev g (fun c' => ∃ as', RH c' f vs as' tx rw ll lt n tl th ∧ FrR c c' ∧ ∀ k, k < 1542 → as' k = f k)) := by
  refine Cm.in (M := M_X5_laysAside) (ls := [some (.ref 456), none]) rfl rfl ?_
  refine x_iconst (nI 0) dX5_laysAside_0 (by decide) ?_
  refine x_istore_n1 dX5_laysAside_1 rfl ?_
  exact l_X5_laysAside 1543 0 _ c (by omega) (by omega) hR FrR.rf (fun k hk => absurd hk (Nat.not_lt_zero k))
set_option maxRecDepth 20000 in
set_option maxHeartbeats 1000000 in
theorem l_X5_takesBack {c : Nat → VC} {g : VG} {as vs tx rw ll lt : Nat → Int32} {n tl th : Int32} : ∀ (m i : Nat) (d9 : Nat → Int32) (c1 : Nat → VC), i ≤ 1542 → 1542 < i + m → RH c1 d9 vs as tx rw ll lt n tl th → FrR c c1 → (∀ k, k < i → d9 k = as k) → Xm M_X5_takesBack 2 [some (.ref 456), some (.int (nI i))] [] (g, c1) (Ev g (fun c' => ∃ f', RH c' f' vs as tx rw ll lt n tl th ∧ FrR c c' ∧ ∀ k, k < 1542 → f' k = as k)) := by
  intro m
  induction m with
  | zero => intro i d9 c1 z1 z2; omega
  | succ m ih =>
    intro i d9 c1 z1 z2 hR1 hF1 hd
    obtain ⟨hO, hA, hS, hD, hX, hW, hL, hT⟩ := id hR1
    refine x_iload_n dX5_takesBack_2 rfl ?_
    refine x_sipush (nI 1542) dX5_takesBack_3 (by decide) ?_
    refine x_icmp_ge 27 dX5_takesBack_6 (by decide) (fun c6 => ?_) (fun c6 => ?_)
    · refine x_return dX5_takesBack_27 ?_
      have e1 : i = 1542 := by have := (nI_leI (by omega) (by omega)).mp c6; omega
      subst e1
      exact ⟨_, rfl, rfl, d9, hR1, hF1, hd⟩
    · have hi : i < 1542 := by
        by_cases q : i < 1542
        · exact q
        · exact absurd ((nI_leI (by omega) (by omega)).mpr (by omega)) c6
      refine x_aload_n dX5_takesBack_9 rfl ?_
      refine x_getfield dX5_takesBack_10 rfl (by decide) (by first | assumption | (simp (disch := omega) only [up_s, up_n]; first | assumption | rfl)) rfl ?_
      refine x_iload_n dX5_takesBack_13 rfl ?_
      refine x_aload_n dX5_takesBack_14 rfl ?_
      refine x_getfield dX5_takesBack_15 rfl (by decide) (by first | assumption | (simp (disch := omega) only [up_s, up_n]; first | assumption | rfl)) rfl ?_
      refine x_iload_n dX5_takesBack_18 rfl ?_
      refine x_ialoadN dX5_takesBack_19 (by first | assumption | (simp (disch := omega) only [up_s, up_n]; first | assumption | rfl)) (by omega) (by omega) ?_
      refine x_iastoreN dX5_takesBack_20 (by first | assumption | (simp (disch := omega) only [up_s, up_n]; first | assumption | rfl)) (by omega) (by omega) ?_
      refine x_iincN_1 (1) dX5_takesBack_21 (by decide) rfl ?_
      refine x_goto 2 dX5_takesBack_24 (by decide) ?_
      refine ih (i + 1) _ _ (by omega) (by omega) hR1.uA (hF1.u (by omega) (by omega)) (fun k hk => ?_)
      by_cases q : k = i
      · subst q; rw [pk_us]
      · rw [pk_un q]; exact hd k (by omega)
set_option maxRecDepth 20000 in
set_option maxHeartbeats 1000000 in
theorem s_X5_takesBack {c : Nat → VC} {g : VG} {f vs as tx rw ll lt : Nat → Int32} {n tl th : Int32} (hR : RH c f vs as tx rw ll lt n tl th) : Cm k_X5_takesBack [.ref 456] (g, c) (Ev g (fun c' => ∃ f', RH c' f' vs as tx rw ll lt n tl th ∧ FrR c c' ∧ ∀ k, k < 1542 → f' k = as k)) := by
  refine Cm.in (M := M_X5_takesBack) (ls := [some (.ref 456), none]) rfl rfl ?_
  refine x_iconst (nI 0) dX5_takesBack_0 (by decide) ?_
  refine x_istore_n1 dX5_takesBack_1 rfl ?_
  exact l_X5_takesBack 1543 0 _ c (by omega) (by omega) hR FrR.rf (fun k hk => absurd hk (Nat.not_lt_zero k))
def HiR (vs : Nat → Int32) (hs : List Sg) : Prop := hs.length ≤ 4 ∧ ∀ (i : Nat) (hi : i < hs.length), RepA (fun k => vs (1542 * i + k)) hs[i]
theorem HiR.push {vs v1 f : Nat → Int32} {hs : List Sg} {σ : Sg} (h : HiR vs hs) (hl : hs.length ≤ 3) (h1 : ∀ k, k < 1542 * hs.length → v1 k = vs k) (h2 : ∀ k, k < 1542 → v1 (1542 * hs.length + k) = f k) (hf : RepA f σ) : HiR v1 (hs ++ [σ]) := by
  refine ⟨by rw [List.length_append, List.length_singleton]; omega, fun i hi => ?_⟩
  rw [List.length_append, List.length_singleton] at hi
  by_cases q : i < hs.length
  · rw [List.getElem_append_left q]
    exact (h.2 i q).fr (fun k hk => h1 _ (by omega))
  · have e : i = hs.length := by omega
    subst e
    rw [List.getElem_concat_length]
    exact hf.fr (fun k hk => h2 k hk)
    rfl
theorem HiR.shift {vs v1 : Nat → Int32} {hs : List Sg} (h : HiR vs hs) (hl : hs.length = 4) (h1 : ∀ k, k < 4626 → v1 k = vs (k + 1542)) : HiR v1 hs.tail := by
  refine ⟨by rw [List.length_tail]; omega, fun i hi => ?_⟩
  rw [List.length_tail] at hi
  rw [List.getElem_tail]
  exact (h.2 (i + 1) (by omega)).fr (fun k hk => by
    show v1 (1542 * i + k) = vs (1542 * (i + 1) + k)
    rw [h1 _ (by omega)]
    congr 1
    omega)
set_option maxRecDepth 20000 in
set_option maxHeartbeats 1000000 in
theorem k_X5_save1 {c : Nat → VC} {g : VG} {f as tx rw ll lt : Nat → Int32} {tl th : Int32} {hs : List Sg} {σ : Sg} {v0 : Nat → Int32} (hH : HiR v0 hs) (hl : hs.length ≤ 3) (hf : RepA f σ) : ∀ (m i : Nat) (d9 : Nat → Int32) (c1 : Nat → VC), i ≤ 1542 → 1542 < i + m → RH c1 f d9 as tx rw ll lt (nI hs.length) tl th → FrR c c1 → (∀ k, k < 1542 * hs.length → d9 k = v0 k) → (∀ k, k < i → d9 (1542 * hs.length + k) = f k) → Xm M_X5_save 51 [some (.ref 456), some (.int (nI i))] [] (g, c1) (Ev g (fun c' => ∃ v', RH c' f v' as tx rw ll lt (nI (hs ++ [σ]).length) tl th ∧ FrR c c' ∧ HiR v' (hs ++ [σ]))) := by
  intro m
  induction m with
  | zero => intro i d9 c1 z1 z2; omega
  | succ m ih =>
    intro i d9 c1 z1 z2 hR1 hF1 hd hd2
    obtain ⟨hO, hA, hS, hD, hX, hW, hL, hT⟩ := id hR1
    refine x_iload_n dX5_save_51 rfl ?_
    refine x_sipush (nI 1542) dX5_save_52 (by decide) ?_
    refine x_icmp_ge 85 dX5_save_55 (by decide) (fun c55 => ?_) (fun c55 => ?_)
    · have e1 : i = 1542 := by have := (nI_leI (by omega) (by omega)).mp c55; omega
      subst e1
      refine x_aload_n dX5_save_85 rfl ?_
      refine x_dup dX5_save_86 rfl ?_
      refine x_getfield dX5_save_87 rfl (by decide) (by first | assumption | (simp (disch := omega) only [up_s, up_n]; first | assumption | rfl)) rfl ?_
      refine x_iconst (nI 1) dX5_save_90 (by decide) ?_
      refine x_iaddN dX5_save_91 ?_
      refine x_putfield3 dX5_save_92 rfl (by first | assumption | (simp (disch := omega) only [up_s, up_n]; first | assumption | rfl)) rfl ?_
      refine x_return dX5_save_95 ?_
      refine ⟨_, rfl, rfl, d9, ?_, hF1.u (by omega) (by omega), hH.push hl hd hd2 hf⟩
      rw [List.length_append, List.length_singleton]
      exact hR1.uO
    · have hi : i < 1542 := by
        by_cases q : i < 1542
        · exact q
        · exact absurd ((nI_leI (by omega) (by omega)).mpr (by omega)) c55
      refine x_aload_n dX5_save_58 rfl ?_
      refine x_getfield dX5_save_59 rfl (by decide) (by first | assumption | (simp (disch := omega) only [up_s, up_n]; first | assumption | rfl)) rfl ?_
      refine x_sipush (nI 1542) dX5_save_62 (by decide) ?_
      refine x_aload_n dX5_save_65 rfl ?_
      refine x_getfield dX5_save_66 rfl (by decide) (by first | assumption | (simp (disch := omega) only [up_s, up_n]; first | assumption | rfl)) rfl ?_
      refine x_imulN dX5_save_69 ?_
      refine x_iload_n dX5_save_70 rfl ?_
      refine x_iaddN dX5_save_71 ?_
      refine x_aload_n dX5_save_72 rfl ?_
      refine x_getfield dX5_save_73 rfl (by decide) (by first | assumption | (simp (disch := omega) only [up_s, up_n]; first | assumption | rfl)) rfl ?_
      refine x_iload_n dX5_save_76 rfl ?_
      refine x_ialoadN dX5_save_77 (by first | assumption | (simp (disch := omega) only [up_s, up_n]; first | assumption | rfl)) (by omega) (by omega) ?_
      refine x_iastoreN dX5_save_78 (by first | assumption | (simp (disch := omega) only [up_s, up_n]; first | assumption | rfl)) (by omega) (by omega) ?_
      refine x_iincN_1 (1) dX5_save_79 (by decide) rfl ?_
      refine x_goto 51 dX5_save_82 (by decide) ?_
      refine ih (i + 1) _ _ (by omega) (by omega) hR1.uS (hF1.u (by omega) (by omega)) (fun k hk => ?_) (fun k hk => ?_)
      · rw [pk_un (by omega)]; exact hd k hk
      · by_cases q : k = i
        · subst q; rw [pk_us]
        · rw [pk_un (by omega)]; exact hd2 k (by omega)
set_option maxRecDepth 20000 in
set_option maxHeartbeats 1000000 in
theorem k_X5_save0 {c : Nat → VC} {g : VG} {f vs as tx rw ll lt : Nat → Int32} {n tl th : Int32} {Q : (Option Value ⊕ Nat) → VH → Prop} (hQ : ∀ d9 c1, RH c1 f d9 as tx rw ll lt n tl th → FrR c c1 → (∀ k, k < 4626 → d9 k = vs (k + 1542)) → Xm M_X5_save 39 [some (.ref 456), some (.int (nI 4626))] [] (g, c1) Q) : ∀ (m i : Nat) (d9 : Nat → Int32) (c1 : Nat → VC), i ≤ 4626 → 4626 < i + m → RH c1 f d9 as tx rw ll lt n tl th → FrR c c1 → (∀ k, k < i → d9 k = vs (k + 1542)) → (∀ k, i ≤ k → d9 k = vs k) → Xm M_X5_save 10 [some (.ref 456), some (.int (nI i))] [] (g, c1) Q := by
  intro m
  induction m with
  | zero => intro i d9 c1 z1 z2; omega
  | succ m ih =>
    intro i d9 c1 z1 z2 hR1 hF1 hd hd2
    obtain ⟨hO, hA, hS, hD, hX, hW, hL, hT⟩ := id hR1
    refine x_iload_n dX5_save_10 rfl ?_
    refine x_sipush (nI 4626) dX5_save_11 (by decide) ?_
    refine x_icmp_ge 39 dX5_save_14 (by decide) (fun c14 => ?_) (fun c14 => ?_)
    · have e1 : i = 4626 := by have := (nI_leI (by omega) (by omega)).mp c14; omega
      subst e1
      exact hQ d9 c1 hR1 hF1 hd
    · have hi : i < 4626 := by
        by_cases q : i < 4626
        · exact q
        · exact absurd ((nI_leI (by omega) (by omega)).mpr (by omega)) c14
      refine x_aload_n dX5_save_17 rfl ?_
      refine x_getfield dX5_save_18 rfl (by decide) (by first | assumption | (simp (disch := omega) only [up_s, up_n]; first | assumption | rfl)) rfl ?_
      refine x_iload_n dX5_save_21 rfl ?_
      refine x_aload_n dX5_save_22 rfl ?_
      refine x_getfield dX5_save_23 rfl (by decide) (by first | assumption | (simp (disch := omega) only [up_s, up_n]; first | assumption | rfl)) rfl ?_
      refine x_iload_n dX5_save_26 rfl ?_
      refine x_sipush (nI 1542) dX5_save_27 (by decide) ?_
      refine x_iaddN dX5_save_30 ?_
      refine x_ialoadN dX5_save_31 (by first | assumption | (simp (disch := omega) only [up_s, up_n]; first | assumption | rfl)) (by omega) (by omega) ?_
      refine x_iastoreN dX5_save_32 (by first | assumption | (simp (disch := omega) only [up_s, up_n]; first | assumption | rfl)) (by omega) (by omega) ?_
      refine x_iincN_1 (1) dX5_save_33 (by decide) rfl ?_
      refine x_goto 10 dX5_save_36 (by decide) ?_
      refine ih (i + 1) _ _ (by omega) (by omega) hR1.uS (hF1.u (by omega) (by omega)) (fun k hk => ?_) (fun k hk => ?_)
      · by_cases q : k = i
        · subst q; rw [pk_us]; exact hd2 _ (by omega)
        · rw [pk_un (by omega)]; exact hd k (by omega)
      · rw [pk_un (by omega)]; exact hd2 k (by omega)
set_option maxRecDepth 20000 in
set_option maxHeartbeats 1000000 in
theorem k_X5_save39 {c c1 : Nat → VC} {g : VG} {f as tx rw ll lt : Nat → Int32} {n tl th : Int32} {hs : List Sg} {σ : Sg} {d9 : Nat → Int32} (hR1 : RH c1 f d9 as tx rw ll lt n tl th) (hF1 : FrR c c1) (hH : HiR d9 hs) (hl : hs.length = 3) (hn : n = nI 4) (hf : RepA f σ) {o : Option Value} : Xm M_X5_save 39 [some (.ref 456), o] [] (g, c1) (Ev g (fun c' => ∃ v', RH c' f v' as tx rw ll lt (nI (hs ++ [σ]).length) tl th ∧ FrR c c' ∧ HiR v' (hs ++ [σ]))) := by
  obtain ⟨hO, hA, hS, hD, hX, hW, hL, hT⟩ := id hR1
  subst hn
  refine x_aload_n dX5_save_39 rfl ?_
  refine x_dup dX5_save_40 rfl ?_
  refine x_getfield dX5_save_41 rfl (by decide) (by first | assumption | (simp (disch := omega) only [up_s, up_n]; first | assumption | rfl)) rfl ?_
  refine x_iconst (nI 1) dX5_save_44 (by decide) ?_
  refine x_isubN dX5_save_45 (by omega) ?_
  refine x_putfield3 dX5_save_46 rfl (by first | assumption | (simp (disch := omega) only [up_s, up_n]; first | assumption | rfl)) rfl ?_
  refine x_iconst (nI 0) dX5_save_49 (by decide) ?_
  refine x_istore_n1 dX5_save_50 rfl ?_
  have hR2 := hR1.uO (n' := nI hs.length) (tl' := tl) (th' := th)
  rw [hl] at hR2
  exact k_X5_save1 hH (by omega) hf 1543 0 d9 _ (by omega) (by omega) (by rw [hl]; exact hR2) (hF1.u (by omega) (by omega)) (fun k hk => rfl) (fun k hk => absurd hk (Nat.not_lt_zero k))
set_option maxRecDepth 20000 in
set_option maxHeartbeats 2000000 in
theorem s_X5_save {c : Nat → VC} {g : VG} {f vs as tx rw ll lt : Nat → Int32} {tl th : Int32} {hs : List Sg} {σ : Sg} (hR : RH c f vs as tx rw ll lt (nI hs.length) tl th) (hH : HiR vs hs) (hf : RepA f σ) : Cm k_X5_save [.ref 456] (g, c) (Ev g (fun c' => ∃ v', RH c' f v' as tx rw ll lt (nI (saveH hs σ).length) tl th ∧ FrR c c' ∧ HiR v' (saveH hs σ))) := by
  obtain ⟨hO, hA, hS, hD, hX, hW, hL, hT⟩ := id hR
  have h4 := hH.1
  unfold saveH
  by_cases q4 : hs.length = 4
  · rw [if_pos q4]
    refine Cm.in (M := M_X5_save) (ls := [some (.ref 456), none]) rfl rfl ?_
    refine x_aload_n dX5_save_0 rfl ?_
    refine x_getfield dX5_save_1 rfl (by decide) (by first | assumption | (simp (disch := omega) only [up_s, up_n]; first | assumption | rfl)) rfl ?_
    refine x_iconst (nI 4) dX5_save_4 (by decide) ?_
    refine x_icmp_ne 49 dX5_save_5 (by decide) (fun c5 => ?_) (fun c5 => ?_)
    · exact absurd (by rw [q4]) c5
    · refine x_iconst (nI 0) dX5_save_8 (by decide) ?_
      refine x_istore_n1 dX5_save_9 rfl ?_
      refine k_X5_save0 (fun d9 c1 hR1 hF1 hd => ?_) 4627 0 vs c (by omega) (by omega) hR FrR.rf (fun k hk => absurd hk (Nat.not_lt_zero k)) (fun k hk => rfl)
      obtain ⟨hO1, hA1, hS1, hD1, hX1, hW1, hL1, hT1⟩ := id hR1
      exact k_X5_save39 hR1 hF1 (hH.shift q4 hd) (by rw [List.length_tail, q4]) (by rw [q4]) hf
  · rw [if_neg q4]
    refine Cm.in (M := M_X5_save) (ls := [some (.ref 456), none]) rfl rfl ?_
    refine x_aload_n dX5_save_0 rfl ?_
    refine x_getfield dX5_save_1 rfl (by decide) (by first | assumption | (simp (disch := omega) only [up_s, up_n]; first | assumption | rfl)) rfl ?_
    refine x_iconst (nI 4) dX5_save_4 (by decide) ?_
    refine x_icmp_ne 49 dX5_save_5 (by decide) (fun c5 => ?_) (fun c5 => ?_)
    · refine x_iconst (nI 0) dX5_save_49 (by decide) ?_
      refine x_istore_n1 dX5_save_50 rfl ?_
      exact k_X5_save1 hH (by omega) hf 1543 0 vs c (by omega) (by omega) hR FrR.rf (fun k hk => rfl) (fun k hk => absurd hk (Nat.not_lt_zero k))
    · exact absurd ((nI_eq (by omega) (by omega)).mp c5) q4
set_option maxRecDepth 20000 in
set_option maxHeartbeats 1000000 in
theorem l_X5_loosens {c : Nat → VC} {g : VG} {f vs as tx rw ll lt : Nat → Int32} {n tl th : Int32} {j : Nat} (hj : j < 3) : ∀ (m i : Nat) (d9 : Nat → Int32) (c1 : Nat → VC), i ≤ 245 → 245 < i + m → RH c1 d9 vs as tx rw ll lt n tl th → FrR c c1 → (∀ k, (k < 527 + 245 * j ∨ 527 + 245 * (j + 1) ≤ k) → d9 k = f k) → Xm M_X5_loosens 2 [some (.ref 456), some (.int (nI j)), some (.int (nI i))] [] (g, c1) (Ev g (fun c' => ∃ f', RH c' f' vs as tx rw ll lt n tl th ∧ FrR c c' ∧ f' (1262 + j) = 0 ∧ ∀ k, (k < 527 + 245 * j ∨ 527 + 245 * (j + 1) ≤ k) → k ≠ 1262 + j → f' k = f k)) := by
  intro m
  induction m with
  | zero => intro i d9 c1 z1 z2; omega
  | succ m ih =>
    intro i d9 c1 z1 z2 hR1 hF1 hd
    obtain ⟨hO, hA, hS, hD, hX, hW, hL, hT⟩ := id hR1
    refine x_iload_n dX5_loosens_2 rfl ?_
    refine x_sipush (nI 245) dX5_loosens_3 (by decide) ?_
    refine x_icmp_ge 28 dX5_loosens_6 (by decide) (fun c6 => ?_) (fun c6 => ?_)
    · refine x_aload_n dX5_loosens_28 rfl ?_
      refine x_getfield dX5_loosens_29 rfl (by decide) (by first | assumption | (simp (disch := omega) only [up_s, up_n]; first | assumption | rfl)) rfl ?_
      refine x_sipush (nI 1262) dX5_loosens_32 (by decide) ?_
      refine x_iload_n dX5_loosens_35 rfl ?_
      refine x_iaddN dX5_loosens_36 ?_
      refine x_iconst (nI 0) dX5_loosens_37 (by decide) ?_
      refine x_iastoreN dX5_loosens_38 (by first | assumption | (simp (disch := omega) only [up_s, up_n]; first | assumption | rfl)) (by omega) (by omega) ?_
      refine x_return dX5_loosens_39 ?_
      exact ⟨_, rfl, rfl, _, hR1.uA, hF1.u (by omega) (by omega), pk_us, fun k hk hk2 => by rw [pk_un hk2]; exact hd k hk⟩
    · have hi : i < 245 := by
        by_cases q : i < 245
        · exact q
        · exact absurd ((nI_leI (by omega) (by omega)).mpr (by omega)) c6
      refine x_aload_n dX5_loosens_9 rfl ?_
      refine x_getfield dX5_loosens_10 rfl (by decide) (by first | assumption | (simp (disch := omega) only [up_s, up_n]; first | assumption | rfl)) rfl ?_
      refine x_iload_n dX5_loosens_13 rfl ?_
      refine x_iconst (nI 0) dX5_loosens_14 (by decide) ?_
      refine x_cs2 dX5_loosens_15 rfl ?_
      refine Cm.rt s_X5_lineAt ?_
      refine x_iload_n dX5_loosens_18 rfl ?_
      refine x_iaddN dX5_loosens_19 ?_
      refine x_iconst (nI 0) dX5_loosens_20 (by decide) ?_
      refine x_iastoreN dX5_loosens_21 (by first | assumption | (simp (disch := omega) only [up_s, up_n]; first | assumption | rfl)) (by omega) (by omega) ?_
      refine x_iincN_2 (1) dX5_loosens_22 (by decide) rfl ?_
      refine x_goto 2 dX5_loosens_25 (by decide) ?_
      refine ih (i + 1) _ _ (by omega) (by omega) hR1.uA (hF1.u (by omega) (by omega)) (fun k hk => ?_)
      rw [pk_un (by omega)]; exact hd k hk
set_option maxRecDepth 20000 in
set_option maxHeartbeats 1000000 in
theorem s_X5_loosens {c : Nat → VC} {g : VG} {f vs as tx rw ll lt : Nat → Int32} {n tl th : Int32} (hR : RH c f vs as tx rw ll lt n tl th) {j : Nat} (hj : j < 3) : Cm k_X5_loosens [.ref 456, .int (nI j)] (g, c) (Ev g (fun c' => ∃ f', RH c' f' vs as tx rw ll lt n tl th ∧ FrR c c' ∧ f' (1262 + j) = 0 ∧ ∀ k, (k < 527 + 245 * j ∨ 527 + 245 * (j + 1) ≤ k) → k ≠ 1262 + j → f' k = f k)) := by
  refine Cm.in (M := M_X5_loosens) (ls := [some (.ref 456), some (.int (nI j)), none]) rfl rfl ?_
  refine x_iconst (nI 0) dX5_loosens_0 (by decide) ?_
  refine x_istore_n2 dX5_loosens_1 rfl ?_
  exact l_X5_loosens hj 246 0 f c (by omega) (by omega) hR FrR.rf (fun k hk => rfl)
theorem SB_buyB {B : Bx} {x n : Nat} (hx : x < 27) : SB (buyB B x n) = SB B + n := by
  have h1 := SB_uf (B := B) (b := x) (l := B x ++ List.replicate n x) hx
  rw [List.length_append, List.length_replicate] at h1
  unfold buyB
  omega
set_option maxRecDepth 20000 in
set_option maxHeartbeats 1000000 in
theorem l_X5_buys {c : Nat → VC} {g : VG} {f vs as tx rw ll lt : Nat → Int32} {n tl th : Int32} {B : Bx} {x N : Nat} (hx : x < 27) (hs : SB B + N ≤ 250) : ∀ (m i : Nat) (d9 : Nat → Int32) (c1 : Nat → VC), i ≤ N → N < i + m → RH c1 d9 vs as tx rw ll lt n tl th → FrR c c1 → BoxR d9 (buyB B x i) → (∀ k, 527 ≤ k → d9 k = f k) → Xm M_X5_buys 2 [some (.ref 456), some (.int (nI x)), some (.int (nI N)), some (.int (nI i))] [] (g, c1) (Ev g (fun c' => ∃ f', RH c' f' vs as tx rw ll lt n tl th ∧ FrR c c' ∧ BoxR f' (buyB B x N) ∧ f' 1518 = f 1518 + f 1517 * nI N ∧ ∀ k, 527 ≤ k → k ≠ 1518 → f' k = f k)) := by
  intro m
  induction m with
  | zero => intro i d9 c1 z1 z2; omega
  | succ m ih =>
    intro i d9 c1 z1 z2 hR1 hF1 hB hd
    obtain ⟨hO, hA, hS, hD, hX, hW, hL, hT⟩ := id hR1
    refine x_iload_n dX5_buys_2 rfl ?_
    refine x_iload_n dX5_buys_3 rfl ?_
    refine x_icmp_ge 19 dX5_buys_4 (by decide) (fun c4 => ?_) (fun c4 => ?_)
    · have e1 : i = N := by have := (nI_leI (by omega) (by omega)).mp c4; omega
      subst e1
      refine x_aload_n dX5_buys_19 rfl ?_
      refine x_getfield dX5_buys_20 rfl (by decide) (by first | assumption | (simp (disch := omega) only [up_s, up_n]; first | assumption | rfl)) rfl ?_
      refine x_sipush (nI 1518) dX5_buys_23 (by decide) ?_
      refine x_dup2 dX5_buys_26 rfl rfl ?_
      refine x_ialoadN dX5_buys_27 (by first | assumption | (simp (disch := omega) only [up_s, up_n]; first | assumption | rfl)) (by omega) (by omega) ?_
      refine x_iload_n dX5_buys_28 rfl ?_
      refine x_aload_n dX5_buys_29 rfl ?_
      refine x_getfield dX5_buys_30 rfl (by decide) (by first | assumption | (simp (disch := omega) only [up_s, up_n]; first | assumption | rfl)) rfl ?_
      refine x_sipush (nI 1517) dX5_buys_33 (by decide) ?_
      refine x_ialoadN dX5_buys_36 (by first | assumption | (simp (disch := omega) only [up_s, up_n]; first | assumption | rfl)) (by omega) (by omega) ?_
      refine x_imul dX5_buys_37 ?_
      refine x_iadd dX5_buys_38 ?_
      refine x_iastoreN dX5_buys_39 (by first | assumption | (simp (disch := omega) only [up_s, up_n]; first | assumption | rfl)) (by omega) (by omega) ?_
      refine x_return dX5_buys_40 ?_
      refine ⟨_, rfl, rfl, _, hR1.uA, hF1.u (by omega) (by omega), hB.fr (fun k hk => by rw [pk_un (by omega)]), ?_, fun k hk hk2 => by rw [pk_un hk2]; exact hd k hk⟩
      rw [pk_us, hd _ (by omega), hd _ (by omega), Int32.mul_comm]
    · have hi : i < N := by
        by_cases q : i < N
        · exact q
        · exact absurd ((nI_leI (by omega) (by omega)).mpr (by omega)) c4
      refine x_aload_n dX5_buys_7 rfl ?_
      refine x_iload_n dX5_buys_8 rfl ?_
      refine x_iload_n dX5_buys_9 rfl ?_
      refine x_cv3 dX5_buys_10 rfl (by first | assumption | (simp (disch := omega) only [up_s, up_n]; first | assumption | rfl)) rfl ?_
      have hsb : SB (buyB B x i) < 250 := by rw [SB_buyB hx]; omega
      refine Cm.ev (s_X5_puts hO hA hB hx hx hsb) (fun c2 q2 => ?_)
      obtain ⟨d8, rfl, hB8, hd8⟩ := q2
      refine x_iincN_3 (1) dX5_buys_13 (by decide) rfl ?_
      refine x_goto 2 dX5_buys_16 (by decide) ?_
      refine ih (i + 1) _ _ (by omega) (by omega) hR1.uA (hF1.u (by omega) (by omega)) ?_ (fun k hk => by rw [hd8 k hk]; exact hd k hk)
      rw [← buyB_s]; exact hB8
set_option maxRecDepth 20000 in
set_option maxHeartbeats 1000000 in
theorem s_X5_buys {c : Nat → VC} {g : VG} {f vs as tx rw ll lt : Nat → Int32} {n tl th : Int32} (hR : RH c f vs as tx rw ll lt n tl th) {B : Bx} {x N : Nat} (hx : x < 27) (hs : SB B + N ≤ 250) (hB : BoxR f B) : Cm k_X5_buys [.ref 456, .int (nI x), .int (nI N)] (g, c) (Ev g (fun c' => ∃ f', RH c' f' vs as tx rw ll lt n tl th ∧ FrR c c' ∧ BoxR f' (buyB B x N) ∧ f' 1518 = f 1518 + f 1517 * nI N ∧ ∀ k, 527 ≤ k → k ≠ 1518 → f' k = f k)) := by
  refine Cm.in (M := M_X5_buys) (ls := [some (.ref 456), some (.int (nI x)), some (.int (nI N)), none]) rfl rfl ?_
  refine x_iconst (nI 0) dX5_buys_0 (by decide) ?_
  refine x_istore_n3 dX5_buys_1 rfl ?_
  exact l_X5_buys hx hs (N + 1) 0 f c (by omega) (by omega) hR FrR.rf (by rw [buyB_0]; exact hB) (fun k hk => rfl)
