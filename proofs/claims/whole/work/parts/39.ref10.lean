/-! the reference: the heap, formes and places -/
def FrP (f d : Nat → Int32) : Prop := ∀ k, k < 1265 ∨ 1516 ≤ k → d k = f k
theorem HpR.snoc {f f' : Nat → Int32} {hp : List Nat} {x : Nat} (h : HpR f hp) (hl : hp.length < 250) (hx : x < 27) (h1 : f' 1265 = nI (hp.length + 1)) (h2 : f' (1266 + hp.length) = nI x) (h3 : ∀ k, 1266 ≤ k → k < 1266 + hp.length → f' k = f k) : HpR f' (hp ++ [x]) := by
  obtain ⟨g1, g2, g3, g4⟩ := h
  refine ⟨by rw [h1, List.length_append, List.length_singleton], by rw [List.length_append, List.length_singleton]; omega, fun y hy => ?_, fun i hi => ?_⟩
  · rcases List.mem_append.mp hy with z | z
    · exact g3 y z
    · rw [List.mem_singleton.mp z]; exact hx
  · rw [List.length_append, List.length_singleton] at hi
    by_cases e : i = hp.length
    · subst e
      rw [h2, List.getElem_concat_length rfl]
    · rw [h3 _ (by omega) (by omega), List.getElem_append_left (by omega)]
      exact g4 i (by omega)
set_option maxRecDepth 20000 in
set_option maxHeartbeats 2000000 in
theorem i_X5_pie {c : Nat → VC} {g : VG} {f vs as tx rw ll lt : Nat → Int32} {n tl th : Int32} {j : Nat} (hj : j < 3) {Q : (Option Value ⊕ Nat) → VH → Prop} {A C : List (List Pl)} : ∀ (r u : List Pl) (c1 : Nat → VC) (d9 : Nat → Int32) (H1 : List Nat), RH c1 d9 vs as tx rw ll lt n tl th → FrR c c1 → HpR d9 H1 → FrP f d9 → H1.length + r.length ≤ 250 → ForR f j (A ++ (u ++ r) :: C) → (∀ c2 d8 o3, RH c2 d8 vs as tx rw ll lt n tl th → FrR c c2 → HpR d8 (H1 ++ srt r) → FrP f d8 → Xm M_X5_pie 19 [some (.ref 456), some (.int (nI j)), some (.int (nI (A.length + 1))), o3] [] (g, c2) Q) → Xm M_X5_pie 35 [some (.ref 456), some (.int (nI j)), some (.int (nI A.length)), some (.int (nI u.length))] [] (g, c1) Q := by
  intro r
  induction r with
  | nil =>
    intro u c1 d9 H1 hR1 hF1 hH1 hd hb hL0 K
    have hL1 := hL0.fr (f' := d9) (hd _ (by omega)) (fun k z1 z2 => hd k (by omega))
    obtain ⟨hO, hA, hS, hD, hX, hW, hL, hT⟩ := id hR1
    have hbd := hL1.bd
    have e0 : ([] : List Pl).length = 0 := rfl
    refine x_iload_n dX5_pie_35 rfl ?_
    refine x_aload_n dX5_pie_36 rfl ?_
    refine x_iload_n dX5_pie_37 rfl ?_
    refine x_iload_n dX5_pie_38 rfl ?_
    refine x_cv3 dX5_pie_39 rfl (by first | assumption | (simp (disch := omega) only [up_s, up_n]; first | assumption | rfl)) rfl ?_
    refine Cm.rt (r_places0 hO hA hj hL1) ?_
    refine x_icmp_ge 88 dX5_pie_42 (by decide) (fun c42 => ?_) (fun c42 => ?_)
    · refine x_iincN_2 (1) dX5_pie_88 (by decide) rfl ?_
      refine x_goto 19 dX5_pie_91 (by decide) ?_
      exact K c1 d9 _ hR1 hF1 (by show HpR d9 (H1 ++ []); rw [List.append_nil]; exact hH1) hd
    · exact absurd ((nI_leI (by omega) (by omega)).mpr (by omega)) c42
  | cons y r ih =>
    intro u c1 d9 H1 hR1 hF1 hH1 hd hb hL0 K
    have hL1 := hL0.fr (f' := d9) (hd _ (by omega)) (fun k z1 z2 => hd k (by omega))
    obtain ⟨hO, hA, hS, hD, hX, hW, hL, hT⟩ := id hR1
    have hbd := hL1.bd
    have hok := hL1.ok
    have e0 : (y :: r).length = r.length + 1 := rfl
    have hm := hH1.1
    refine x_iload_n dX5_pie_35 rfl ?_
    refine x_aload_n dX5_pie_36 rfl ?_
    refine x_iload_n dX5_pie_37 rfl ?_
    refine x_iload_n dX5_pie_38 rfl ?_
    refine x_cv3 dX5_pie_39 rfl (by first | assumption | (simp (disch := omega) only [up_s, up_n]; first | assumption | rfl)) rfl ?_
    refine Cm.rt (r_places0 hO hA hj hL1) ?_
    refine x_icmp_ge 88 dX5_pie_42 (by decide) (fun c42 => ?_) (fun c42 => ?_)
    · exact absurd ((nI_leI (by omega) (by omega)).mp c42) (by omega)
    · refine x_aload_n dX5_pie_45 rfl ?_
      refine x_getfield dX5_pie_46 rfl (by decide) (by first | assumption | (simp (disch := omega) only [up_s, up_n]; first | assumption | rfl)) rfl ?_
      refine x_sipush (nI 1266) dX5_pie_49 (by decide) ?_
      refine x_aload_n dX5_pie_52 rfl ?_
      refine x_getfield dX5_pie_53 rfl (by decide) (by first | assumption | (simp (disch := omega) only [up_s, up_n]; first | assumption | rfl)) rfl ?_
      refine x_sipush (nI 1265) dX5_pie_56 (by decide) ?_
      refine x_ialoadN dX5_pie_59 (by first | assumption | (simp (disch := omega) only [up_s, up_n]; first | assumption | rfl)) (by omega) (by omega) ?_
      rw [hm]
      refine x_iaddN dX5_pie_60 ?_
      refine x_aload_n dX5_pie_61 rfl ?_
      refine x_iload_n dX5_pie_62 rfl ?_
      refine x_iload_n dX5_pie_63 rfl ?_
      refine x_iload_n dX5_pie_64 rfl ?_
      refine x_iconst (nI 1) dX5_pie_65 (by decide) ?_
      refine x_cv5 dX5_pie_66 rfl (by first | assumption | (simp (disch := omega) only [up_s, up_n]; first | assumption | rfl)) rfl ?_
      refine Cm.rt (r_of1 hO hA hj hL1) ?_
      refine x_iastoreN dX5_pie_69 (by first | assumption | (simp (disch := omega) only [up_s, up_n]; first | assumption | rfl)) (by omega) (by omega) ?_
      refine x_aload_n dX5_pie_70 rfl ?_
      refine x_getfield dX5_pie_71 rfl (by decide) (by first | assumption | (simp (disch := omega) only [up_s, up_n]; first | assumption | rfl)) rfl ?_
      refine x_sipush (nI 1265) dX5_pie_74 (by decide) ?_
      refine x_dup2 dX5_pie_77 rfl rfl ?_
      refine x_ialoadN dX5_pie_78 (by first | assumption | (simp (disch := omega) only [up_s, up_n]; first | assumption | rfl)) (by omega) (by omega) ?_
      rw [pk_un (by omega), hm]
      refine x_iconst (nI 1) dX5_pie_79 (by decide) ?_
      refine x_iaddN dX5_pie_80 ?_
      refine x_iastoreN dX5_pie_81 (by first | assumption | (simp (disch := omega) only [up_s, up_n]; first | assumption | rfl)) (by omega) (by omega) ?_
      refine x_iincN_3 (1) dX5_pie_82 (by decide) rfl ?_
      refine x_goto 35 dX5_pie_85 (by decide) ?_
      have hz := ih (u ++ [y]) _ (upd (upd d9 (1266 + H1.length) (nI y.2.1)) 1265 (nI (H1.length + 1))) (H1 ++ [y.2.1]) ((hR1.uA (f' := upd d9 (1266 + H1.length) (nI y.2.1))).uA) ((hF1.u (by omega) (by omega)).u (by omega) (by omega)) (hH1.snoc (by omega) hok.2.1 pk_us (by rw [pk_un (by omega), pk_us]) (fun k z1 z2 => by rw [pk_un (by omega), pk_un (by omega)])) (fun k hk => by rw [pk_un (by omega), pk_un (by omega)]; exact hd k hk) (by rw [List.length_append, List.length_singleton]; omega) (by rw [List.append_assoc]; exact hL0) (fun c2 d8 o3 w1 w2 w3 w4 => K c2 d8 o3 w1 w2 (by rw [List.append_assoc] at w3; exact w3) w4)
      rw [List.length_append, List.length_singleton] at hz
      exact hz
set_option maxRecDepth 20000 in
set_option maxHeartbeats 2000000 in
theorem l_X5_pie {c : Nat → VC} {g : VG} {f vs as tx rw ll lt : Nat → Int32} {n tl th : Int32} {j : Nat} (hj : j < 3) {Q : (Option Value ⊕ Nat) → VH → Prop} : ∀ (C A : List (List Pl)) (c1 : Nat → VC) (d9 : Nat → Int32) (H1 : List Nat) (o3 : Option Value), RH c1 d9 vs as tx rw ll lt n tl th → FrR c c1 → HpR d9 H1 → FrP f d9 → H1.length + C.flatten.length ≤ 250 → ForR f j (A ++ C) → (∀ c2 d8 o2 o3, RH c2 d8 vs as tx rw ll lt n tl th → FrR c c2 → HpR d8 (H1 ++ srt C.flatten) → FrP f d8 → Xm M_X5_pie 94 [some (.ref 456), some (.int (nI j)), o2, o3] [] (g, c2) Q) → Xm M_X5_pie 19 [some (.ref 456), some (.int (nI j)), some (.int (nI A.length)), o3] [] (g, c1) Q := by
  intro C
  induction C with
  | nil =>
    intro A c1 d9 H1 o3 hR1 hF1 hH1 hd hb hL0 K
    have hL1 := hL0.fr (f' := d9) (hd _ (by omega)) (fun k z1 z2 => hd k (by omega))
    obtain ⟨hO, hA, hS, hD, hX, hW, hL, hT⟩ := id hR1
    rw [List.append_nil] at hL1
    have h5 := hL1.2.1.1
    have hm := hL1.1
    refine x_iload_n dX5_pie_19 rfl ?_
    refine x_aload_n dX5_pie_20 rfl ?_
    refine x_getfield dX5_pie_21 rfl (by decide) (by first | assumption | (simp (disch := omega) only [up_s, up_n]; first | assumption | rfl)) rfl ?_
    refine x_sipush (nI 1262) dX5_pie_24 (by decide) ?_
    refine x_iload_n dX5_pie_27 rfl ?_
    refine x_iaddN dX5_pie_28 ?_
    refine x_ialoadN dX5_pie_29 (by first | assumption | (simp (disch := omega) only [up_s, up_n]; first | assumption | rfl)) (by omega) (by omega) ?_
    rw [hm]
    refine x_icmp_ge 94 dX5_pie_30 (by decide) (fun c30 => ?_) (fun c30 => ?_)
    · exact K c1 d9 _ _ hR1 hF1 (by show HpR d9 (H1 ++ []); rw [List.append_nil]; exact hH1) hd
    · exact absurd (Int32.le_refl _) c30
  | cons l C ih =>
    intro A c1 d9 H1 o3 hR1 hF1 hH1 hd hb hL0 K
    have hL1 := hL0.fr (f' := d9) (hd _ (by omega)) (fun k z1 z2 => hd k (by omega))
    obtain ⟨hO, hA, hS, hD, hX, hW, hL, hT⟩ := id hR1
    have h5 := hL1.2.1.1
    have hm := hL1.1
    rw [List.length_append, List.length_cons] at h5 hm
    rw [List.flatten_cons, List.length_append] at hb
    refine x_iload_n dX5_pie_19 rfl ?_
    refine x_aload_n dX5_pie_20 rfl ?_
    refine x_getfield dX5_pie_21 rfl (by decide) (by first | assumption | (simp (disch := omega) only [up_s, up_n]; first | assumption | rfl)) rfl ?_
    refine x_sipush (nI 1262) dX5_pie_24 (by decide) ?_
    refine x_iload_n dX5_pie_27 rfl ?_
    refine x_iaddN dX5_pie_28 ?_
    refine x_ialoadN dX5_pie_29 (by first | assumption | (simp (disch := omega) only [up_s, up_n]; first | assumption | rfl)) (by omega) (by omega) ?_
    rw [hm]
    refine x_icmp_ge 94 dX5_pie_30 (by decide) (fun c30 => ?_) (fun c30 => ?_)
    · exact absurd ((nI_leI (by omega) (by omega)).mp c30) (by omega)
    · refine x_iconst (nI 0) dX5_pie_33 (by decide) ?_
      refine x_istore_n3 dX5_pie_34 rfl ?_
      refine i_X5_pie hj l [] c1 d9 H1 hR1 hF1 hH1 hd (by omega) hL0 (fun c2 d8 o3 w1 w2 w3 w4 => ?_)
      have hz := ih (A ++ [l]) c2 d8 (H1 ++ srt l) o3 w1 w2 w3 w4 (by rw [List.length_append, List.length_map]; omega) (by rw [List.append_assoc]; exact hL0) (fun c3 d7 o2 o3 y1 y2 y3 y4 => K c3 d7 o2 o3 y1 y2 (by rw [List.flatten_cons, show srt (l ++ C.flatten) = srt l ++ srt C.flatten from List.map_append, ← List.append_assoc]; exact y3) y4)
      rw [List.length_append, List.length_singleton] at hz
      exact hz
theorem RepA.ph {f f' : Nat → Int32} {σ : Sg} {j : Nat} {L : List (List Pl)} {hp : List Nat} (h : RepA f σ) (hj : j < 3) (hL : ForR f' j L) (hH : HpR f' hp) (hf : ∀ k, k < 1265 ∨ 1516 ≤ k → (k < 527 + 245 * j ∨ 527 + 245 * (j + 1) ≤ k) → k ≠ 1262 + j → f' k = f k) : RepA f' (σ.1, uf σ.2.1 j L, hp, σ.2.2.2) := by
  obtain ⟨u1, u2, u3, u4, u5⟩ := h.2.2.2
  refine ⟨h.1.fr (fun k hk => hf k (by omega) (by omega) (by omega)), fun i hi => ?_, hH, (hf _ (by omega) (by omega) (by omega)).trans u1, (hf _ (by omega) (by omega) (by omega)).trans u2, (hf _ (by omega) (by omega) (by omega)).trans u3, (hf _ (by omega) (by omega) (by omega)).trans u4, (hf _ (by omega) (by omega) (by omega)).trans u5⟩
  by_cases q : i = j
  · subst q
    show ForR f' i (uf σ.2.1 i L i)
    rw [uf_s]; exact hL
  · show ForR f' i (uf σ.2.1 j L i)
    rw [uf_n q]
    have h1 : f' (1262 + i) = f (1262 + i) := hf _ (by omega) (by omega) (by omega)
    exact (h.2.1 i hi).fr h1 (fun k z1 z2 => by
      have h2 : k < 527 + 245 * j ∨ 527 + 245 * (j + 1) ≤ k := by omega
      exact hf k (by omega) h2 (by omega))
set_option maxRecDepth 20000 in
set_option maxHeartbeats 1000000 in
theorem k_X5_pie94 {c c1 : Nat → VC} {g : VG} {S : St} {f d2 v1 as tx rw ll lt : Nat → Int32} {th : Int32} {j : Nat} {hp : List Nat} {hs : List Sg} (hj : j < 3) (hR1 : RH c1 d2 v1 as tx rw ll lt (nI hs.length) (nI S.2.1.length) th) (hRp : RepA f S.1) (hH : HpR d2 hp) (hd : FrP f d2) (hH1 : HiR v1 hs) (hX0 : TxR tx S.2.1) (hF : FrR c c1) {o2 o3 : Option Value} : Xm M_X5_pie 94 [some (.ref 456), some (.int (nI j)), o2, o3] [] (g, c1) (RQ g c id (Sum.inl (.int (nI hp.length))) ((S.1.1, uf S.1.2.1 j [], hp, S.1.2.2.2), S.2.1, hs)) := by
  obtain ⟨hO, hA, hS, hD, hX, hW, hL, hT⟩ := id hR1
  refine x_aload_n dX5_pie_94 rfl ?_
  refine x_iload_n dX5_pie_95 rfl ?_
  refine x_cv2 dX5_pie_96 rfl (by first | assumption | (simp (disch := omega) only [up_s, up_n]; first | assumption | rfl)) rfl ?_
  refine Cm.ev (s_X5_loosens hR1 hj) (fun c3 q3 => ?_)
  obtain ⟨d3, hR3, hF3, e3, hfr⟩ := q3
  obtain ⟨hO3, hA3, hS3, hD3, hX3, hW3, hL3, hT3⟩ := id hR3
  have hH3 : HpR d3 hp := hH.fr (fun k z1 z2 => hfr k (by omega) (by omega))
  have hm := hH3.1
  refine x_aload_n dX5_pie_99 rfl ?_
  refine x_aload_n dX5_pie_100 rfl ?_
  refine x_getfield dX5_pie_101 rfl (by decide) (by first | assumption | (simp (disch := omega) only [up_s, up_n]; first | assumption | rfl)) rfl ?_
  refine x_sipush (nI 1265) dX5_pie_104 (by decide) ?_
  refine x_ialoadN dX5_pie_107 (by first | assumption | (simp (disch := omega) only [up_s, up_n]; first | assumption | rfl)) (by omega) (by omega) ?_
  rw [hm]
  refine x_cv2 dX5_pie_108 rfl (by first | assumption | (simp (disch := omega) only [up_s, up_n]; first | assumption | rfl)) rfl ?_
  refine Cm.ei (s_X5_fine hR3) (fun w c9 q9 => ?_)
  obtain ⟨rfl, w1, w2⟩ := q9
  refine x_ireturn dX5_pie_111 ?_
  exact ⟨_, c9, 0, rfl, rfl, ⟨d3, v1, as, tx, rw, ll, lt, w1, hRp.ph hj (ForR.nil e3) hH3 (fun k z1 z2 z3 => by rw [hfr k z2 z3]; exact hd k z1), hH1, hX0⟩, (hF.tr hF3).tr w2, rfl, rfl⟩
theorem flh_tot {σ : Sg} {j : Nat} (hj : j < 3) : σ.2.2.1.length + (σ.2.1 j).flatten.length ≤ totM σ := by
  unfold totM nF
  simp only [sumN, Nat.zero_add]
  rcases (show j = 0 ∨ j = 1 ∨ j = 2 by omega) with rfl | rfl | rfl <;> omega
set_option maxRecDepth 20000 in
set_option maxHeartbeats 2000000 in
theorem s_X5_pie {c : Nat → VC} {g : VG} {S : St} {th : Int32} (h : RefAt c S th) (hk : StOK S) {l : Int32} : Cm k_X5_pie [.ref 456, .int l] (g, c) (RQ g c (id) (pieM l S).1 (pieM l S).2) := by
  obtain ⟨f, vs, as, tx, rw, ll, lt, hR, hRp, hH, hX0⟩ := h
  obtain ⟨hO, hA, hS, hD, hX, hW, hL, hT⟩ := id hR
  obtain ⟨u1, u2, u3, u4, u5⟩ := hRp.2.2.2
  cases e1 : ix l 3 with
  | none =>
    have hM : pieM l S = (Sum.inr 1, S) := by simp only [pieM, e1]
    rw [hM]
    refine Cm.in (M := M_X5_pie) (ls := [some (.ref 456), some (.int l), none, none]) rfl rfl ?_
    refine x_iload_n dX5_pie_0 rfl ?_
    refine x_cs1 dX5_pie_1 rfl ?_
    refine Cm.rt s_X5_isForme ?_
    rw [e1]
    refine x_if_ne 13 dX5_pie_4 (by decide) (fun c4 => ?_) (fun c4 => ?_)
    · exact absurd rfl c4
    · refine x_aload_n dX5_pie_7 rfl ?_
      refine x_iconst (nI 1) dX5_pie_8 (by decide) ?_
      refine x_cv2 dX5_pie_9 rfl (by first | assumption | (simp (disch := omega) only [up_s, up_n]; first | assumption | rfl)) rfl ?_
      refine Cm.ei (s_X5_throwing hR) (fun w c9 q9 => ?_)
      obtain ⟨rfl, w1, w2⟩ := q9
      refine x_ireturn dX5_pie_12 ?_
      exact ⟨_, c9, 1, rfl, rfl, ⟨f, vs, as, tx, rw, ll, lt, w1, hRp, hH, hX0⟩, w2, rfl, rfl⟩
  | some j =>
    obtain ⟨hj, rfl⟩ := ix_some (by omega) e1
    have hM : pieM (nI j) S = (Sum.inl (.int (nI (S.1.2.2.1 ++ srt (S.1.2.1 j).flatten).length)), sv S (S.1.1, uf S.1.2.1 j [], S.1.2.2.1 ++ srt (S.1.2.1 j).flatten, S.1.2.2.2)) := by simp only [pieM, e1]
    rw [hM]
    have ht := hk.1
    have hfl := flh_tot (σ := S.1) hj
    refine Cm.in (M := M_X5_pie) (ls := [some (.ref 456), some (.int (nI j)), none, none]) rfl rfl ?_
    refine x_iload_n dX5_pie_0 rfl ?_
    refine x_cs1 dX5_pie_1 rfl ?_
    refine Cm.rt s_X5_isForme ?_
    rw [e1]
    refine x_if_ne 13 dX5_pie_4 (by decide) (fun c4 => ?_) (fun c4 => ?_)
    · refine x_aload_n dX5_pie_13 rfl ?_
      refine x_cv1 dX5_pie_14 rfl (by first | assumption | (simp (disch := omega) only [up_s, up_n]; first | assumption | rfl)) rfl ?_
      refine Cm.ev (s_X5_save hR hH hRp) (fun c1 q1 => ?_)
      obtain ⟨v1, hR1, hF1, hH1⟩ := q1
      obtain ⟨hO1, hA1, hS1, hD1, hX1, hW1, hL1, hT1⟩ := id hR1
      refine x_iconst (nI 0) dX5_pie_17 (by decide) ?_
      refine x_istore_n2 dX5_pie_18 rfl ?_
      refine l_X5_pie (f := f) (c := c1) hj (S.1.2.1 j) [] c1 f S.1.2.2.1 none hR1 FrR.rf hRp.2.2.1 (fun k hk => rfl) (by omega) (hRp.2.1 j hj) (fun c2 d8 o2 o3 w1 w2 w3 w4 => ?_)
      exact k_X5_pie94 hj w1 hRp w3 w4 hH1 hX0 (hF1.tr w2)
    · exact absurd (show bV true = 0 from c4) (by decide)
set_option maxRecDepth 20000 in
set_option maxHeartbeats 1000000 in
theorem l_X5_sh1 {c : Nat → VC} {g : VG} {f vs as tx rw ll lt : Nat → Int32} {n tl th : Int32} {hp : List Nat} {B0 : Bx} {N : Nat} (hN : N ≤ hp.length) (hHp : HpR f hp) (hsb : SB B0 + hp.length ≤ 250) {o1 : Option Value} {Q : (Option Value ⊕ Nat) → VH → Prop} (hQ : ∀ c2 d2, RH c2 d2 vs as tx rw ll lt n tl th → FrR c c2 → BoxR d2 (bkL (hp.take N) B0) → (∀ k, 527 ≤ k → d2 k = f k) → Xm M_X5_sortHeap 84 [some (.ref 456), o1, some (.int (nI N)), some (.int (nI N))] [] (g, c2) Q) : ∀ (m i : Nat) (d9 : Nat → Int32) (c1 : Nat → VC), i ≤ N → N < i + m → RH c1 d9 vs as tx rw ll lt n tl th → FrR c c1 → BoxR d9 (bkL (hp.take i) B0) → (∀ k, 527 ≤ k → d9 k = f k) → Xm M_X5_sortHeap 49 [some (.ref 456), o1, some (.int (nI N)), some (.int (nI i))] [] (g, c1) Q := by
  obtain ⟨g1, g2, g3, g4⟩ := hHp
  intro m
  induction m with
  | zero => intro i d9 c1 z1 z2; omega
  | succ m ih =>
    intro i d9 c1 z1 z2 hR1 hF1 hB1 hd
    obtain ⟨hO, hA, hS, hD, hX, hW, hL, hT⟩ := id hR1
    refine x_iload_n dX5_sortHeap_49 rfl ?_
    refine x_iload_n dX5_sortHeap_50 rfl ?_
    refine x_icmp_ge 84 dX5_sortHeap_51 (by decide) (fun c51 => ?_) (fun c51 => ?_)
    · have e1 : i = N := by have := (nI_leI (by omega) (by omega)).mp c51; omega
      subst e1
      exact hQ c1 d9 hR1 hF1 hB1 hd
    · have hi : i < N := by
        by_cases q : i < N
        · exact q
        · exact absurd ((nI_leI (by omega) (by omega)).mpr (by omega)) c51
      have hi2 : i < hp.length := by omega
      have h27 := g3 _ (List.getElem_mem hi2)
      refine x_aload_n dX5_sortHeap_54 rfl ?_
      refine x_aload_n dX5_sortHeap_55 rfl ?_
      refine x_getfield dX5_sortHeap_56 rfl (by decide) (by first | assumption | (simp (disch := omega) only [up_s, up_n]; first | assumption | rfl)) rfl ?_
      refine x_sipush (nI 1266) dX5_sortHeap_59 (by decide) ?_
      refine x_iload_n dX5_sortHeap_62 rfl ?_
      refine x_iaddN dX5_sortHeap_63 ?_
      refine x_ialoadN dX5_sortHeap_64 (by first | assumption | (simp (disch := omega) only [up_s, up_n]; first | assumption | rfl)) (by omega) (by omega) ?_
      rw [hd _ (by omega), g4 i hi2]
      refine x_aload_n dX5_sortHeap_65 rfl ?_
      refine x_getfield dX5_sortHeap_66 rfl (by decide) (by first | assumption | (simp (disch := omega) only [up_s, up_n]; first | assumption | rfl)) rfl ?_
      refine x_sipush (nI 1266) dX5_sortHeap_69 (by decide) ?_
      refine x_iload_n dX5_sortHeap_72 rfl ?_
      refine x_iaddN dX5_sortHeap_73 ?_
      refine x_ialoadN dX5_sortHeap_74 (by first | assumption | (simp (disch := omega) only [up_s, up_n]; first | assumption | rfl)) (by omega) (by omega) ?_
      rw [hd _ (by omega), g4 i hi2]
      refine x_cv3 dX5_sortHeap_75 rfl (by first | assumption | (simp (disch := omega) only [up_s, up_n]; first | assumption | rfl)) rfl ?_
      have hsi := SB_bkL (l := hp.take i) (B := B0) (fun x hx => g3 x (List.mem_of_mem_take hx))
      rw [List.length_take, Nat.min_eq_left (by omega)] at hsi
      refine Cm.ev (s_X5_puts hO hA hB1 h27 h27 (by omega)) (fun c3 q3 => ?_)
      obtain ⟨d7, rfl, hB7, hd7⟩ := q3
      refine x_iincN_3 (1) dX5_sortHeap_78 (by decide) rfl ?_
      refine x_goto 49 dX5_sortHeap_81 (by decide) ?_
      exact ih (i + 1) d7 _ (by omega) (by omega) hR1.uA (hF1.u (by omega) (by omega)) (by rw [take_bk hi2]; exact hB7) (fun k hk => by rw [hd7 k hk]; exact hd k hk)
set_option maxRecDepth 20000 in
set_option maxHeartbeats 1000000 in
theorem l_X5_sh2 {c : Nat → VC} {g : VG} {f vs as tx rw ll lt : Nat → Int32} {n tl th : Int32} {hp : List Nat} {N : Nat} (hN : N ≤ hp.length) (h250 : hp.length ≤ 250) (hm : f 1265 = nI (hp.length - N)) (hf : ∀ (i : Nat) (hi : i < hp.length), f (1266 + i) = nI hp[i]) {o1 : Option Value} {Q : (Option Value ⊕ Nat) → VH → Prop} (hQ : ∀ c2 d2 o3, RH c2 d2 vs as tx rw ll lt n tl th → FrR c c2 → (∀ k (hk : N + k < hp.length), d2 (1266 + k) = nI hp[N + k]) → (∀ k, k < 1266 ∨ 1516 ≤ k → d2 k = f k) → Xm M_X5_sortHeap 138 [some (.ref 456), o1, some (.int (nI N)), o3] [] (g, c2) Q) : ∀ (m i : Nat) (d9 : Nat → Int32) (c1 : Nat → VC), i ≤ hp.length - N → hp.length - N < i + m → RH c1 d9 vs as tx rw ll lt n tl th → FrR c c1 → (∀ k (hk : N + k < hp.length), k < i → d9 (1266 + k) = nI hp[N + k]) → (∀ k, i ≤ k → d9 (1266 + k) = f (1266 + k)) → (∀ k, k < 1266 ∨ 1516 ≤ k → d9 k = f k) → Xm M_X5_sortHeap 98 [some (.ref 456), o1, some (.int (nI N)), some (.int (nI i))] [] (g, c1) Q := by
  intro m
  induction m with
  | zero => intro i d9 c1 z1 z2; omega
  | succ m ih =>
    intro i d9 c1 z1 z2 hR1 hF1 hd1 hd2 hd3
    obtain ⟨hO, hA, hS, hD, hX, hW, hL, hT⟩ := id hR1
    refine x_iload_n dX5_sortHeap_98 rfl ?_
    refine x_aload_n dX5_sortHeap_99 rfl ?_
    refine x_getfield dX5_sortHeap_100 rfl (by decide) (by first | assumption | (simp (disch := omega) only [up_s, up_n]; first | assumption | rfl)) rfl ?_
    refine x_sipush (nI 1265) dX5_sortHeap_103 (by decide) ?_
    refine x_ialoadN dX5_sortHeap_106 (by first | assumption | (simp (disch := omega) only [up_s, up_n]; first | assumption | rfl)) (by omega) (by omega) ?_
    rw [hd3 _ (by omega), hm]
    refine x_icmp_ge 138 dX5_sortHeap_107 (by decide) (fun c107 => ?_) (fun c107 => ?_)
    · have e1 : i = hp.length - N := by have := (nI_leI (by omega) (by omega)).mp c107; omega
      subst e1
      exact hQ c1 d9 _ hR1 hF1 (fun k hk => hd1 k hk (by omega)) hd3
    · have hi : i < hp.length - N := by
        by_cases q : i < hp.length - N
        · exact q
        · exact absurd ((nI_leI (by omega) (by omega)).mpr (by omega)) c107
      refine x_aload_n dX5_sortHeap_110 rfl ?_
      refine x_getfield dX5_sortHeap_111 rfl (by decide) (by first | assumption | (simp (disch := omega) only [up_s, up_n]; first | assumption | rfl)) rfl ?_
      refine x_sipush (nI 1266) dX5_sortHeap_114 (by decide) ?_
      refine x_iload_n dX5_sortHeap_117 rfl ?_
      refine x_iaddN dX5_sortHeap_118 ?_
      refine x_aload_n dX5_sortHeap_119 rfl ?_
      refine x_getfield dX5_sortHeap_120 rfl (by decide) (by first | assumption | (simp (disch := omega) only [up_s, up_n]; first | assumption | rfl)) rfl ?_
      refine x_sipush (nI 1266) dX5_sortHeap_123 (by decide) ?_
      refine x_iload_n dX5_sortHeap_126 rfl ?_
      refine x_iaddN dX5_sortHeap_127 ?_
      refine x_iload_n dX5_sortHeap_128 rfl ?_
      refine x_iaddN dX5_sortHeap_129 ?_
      refine x_ialoadN dX5_sortHeap_130 (by first | assumption | (simp (disch := omega) only [up_s, up_n]; first | assumption | rfl)) (by omega) (by omega) ?_
      rw [show 1266 + i + N = 1266 + (i + N) by omega, hd2 _ (by omega), hf (i + N) (by omega)]
      refine x_iastoreN dX5_sortHeap_131 (by first | assumption | (simp (disch := omega) only [up_s, up_n]; first | assumption | rfl)) (by omega) (by omega) ?_
      refine x_iincN_3 (1) dX5_sortHeap_132 (by decide) rfl ?_
      refine x_goto 98 dX5_sortHeap_135 (by decide) ?_
      refine ih (i + 1) _ _ (by omega) (by omega) hR1.uA (hF1.u (by omega) (by omega)) (fun k hk z3 => ?_) (fun k z3 => ?_) (fun k z3 => ?_)
      · by_cases e : k = i
        · subst e
          rw [pk_us]
          congr 2
          omega
        · rw [pk_un (by omega)]; exact hd1 k hk (by omega)
      · rw [pk_un (by omega)]; exact hd2 k (by omega)
      · rw [pk_un (by omega)]; exact hd3 k z3
theorem bk_id {l : List Nat} {B : Bx} : bkL l B = bkL l B := rfl
theorem HpR.drop {f f' : Nat → Int32} {hp : List Nat} {N : Nat} (h : HpR f hp) (h1 : f' 1265 = nI (hp.length - N)) (h2 : ∀ k (hk : N + k < hp.length), f' (1266 + k) = nI hp[N + k]) : HpR f' (hp.drop N) := by
  obtain ⟨g1, g2, g3, g4⟩ := h
  refine ⟨by rw [h1, List.length_drop], by rw [List.length_drop]; omega, fun x hx => g3 x (List.mem_of_mem_drop hx), fun i hi => ?_⟩
  rw [List.length_drop] at hi
  rw [List.getElem_drop]
  exact h2 i (by omega)
set_option maxRecDepth 20000 in
set_option maxHeartbeats 1000000 in
theorem k_X5_sh138 {c c1 : Nat → VC} {g : VG} {S : St} {f d2 v1 as tx rw ll lt : Nat → Int32} {th : Int32} {N : Nat} {B2 : Bx} {hp : List Nat} {hs : List Sg} (hR1 : RH c1 d2 v1 as tx rw ll lt (nI hs.length) (nI S.2.1.length) th) (hRp : RepA f S.1) (hB : BoxR d2 B2) (hHp : HpR d2 hp) (hd : ∀ k, 527 ≤ k → k < 1265 ∨ 1516 ≤ k → d2 k = f k) (hH1 : HiR v1 hs) (hX0 : TxR tx S.2.1) (hF : FrR c c1) {o1 o3 : Option Value} : Xm M_X5_sortHeap 138 [some (.ref 456), o1, some (.int (nI N)), o3] [] (g, c1) (RQ g c (fun E => E - 1) (Sum.inl (.int (nI N))) ((B2, S.1.2.1, hp, n1 S.1, n2 S.1, n3 S.1, n4 S.1 + nI N, n5 S.1), S.2.1, hs)) := by
  obtain ⟨u1, u2, u3, u4, u5⟩ := hRp.2.2.2
  obtain ⟨hO, hA, hS, hD, hX, hW, hL, hT⟩ := id hR1
  refine x_aload_n dX5_sortHeap_138 rfl ?_
  refine x_getfield dX5_sortHeap_139 rfl (by decide) (by first | assumption | (simp (disch := omega) only [up_s, up_n]; first | assumption | rfl)) rfl ?_
  refine x_sipush (nI 1519) dX5_sortHeap_142 (by decide) ?_
  refine x_dup2 dX5_sortHeap_145 rfl rfl ?_
  refine x_ialoadN dX5_sortHeap_146 (by first | assumption | (simp (disch := omega) only [up_s, up_n]; first | assumption | rfl)) (by omega) (by omega) ?_
  refine x_iload_n dX5_sortHeap_147 rfl ?_
  refine x_iadd dX5_sortHeap_148 ?_
  refine x_iastoreN dX5_sortHeap_149 (by first | assumption | (simp (disch := omega) only [up_s, up_n]; first | assumption | rfl)) (by omega) (by omega) ?_
  refine x_aload_n dX5_sortHeap_150 rfl ?_
  refine x_iload_n dX5_sortHeap_151 rfl ?_
  refine x_cv2 dX5_sortHeap_152 rfl (by first | assumption | (simp (disch := omega) only [up_s, up_n]; first | assumption | rfl)) rfl ?_
  refine Cm.ei (s_X5_fine hR1.uA) (fun w c9 q9 => ?_)
  obtain ⟨rfl, w1, w2⟩ := q9
  refine x_ireturn dX5_sortHeap_155 ?_
  refine ⟨_, c9, 0, rfl, rfl, ⟨_, v1, as, tx, rw, ll, lt, w1, ⟨hB.fr (fun k hk => by rw [pk_un (by omega)]), fun i hi => ?_, hHp.fr (fun k z1 z2 => by rw [pk_un (by omega)]), ?_, ?_, ?_, ?_, ?_⟩, hH1, hX0⟩, (hF.u (by omega) (by omega)).tr w2, rfl, rfl⟩
  · have h2 : d2 (1262 + i) = f (1262 + i) := hd _ (by omega) (by omega)
    exact (hRp.2.1 i hi).fr (by rw [pk_un (by omega)]; exact h2) (fun k z1 z2 => by rw [pk_un (by omega)]; exact hd k (by omega) (by omega))
  · rw [pk_un (by omega), hd _ (by omega) (by omega), u1]
  · rw [pk_un (by omega), hd _ (by omega) (by omega), u2]
  · rw [pk_un (by omega), hd _ (by omega) (by omega), u3]
  · rw [pk_us, hd _ (by omega) (by omega), u4]
  · rw [pk_un (by omega), hd _ (by omega) (by omega), u5]
set_option maxRecDepth 20000 in
set_option maxHeartbeats 1000000 in
theorem k_X5_sh84 {c c1 : Nat → VC} {g : VG} {S : St} {f d2 v1 as tx rw ll lt : Nat → Int32} {th : Int32} {N : Nat} {B2 : Bx} {hs : List Sg} (hN : N ≤ S.1.2.2.1.length) (hR1 : RH c1 d2 v1 as tx rw ll lt (nI hs.length) (nI S.2.1.length) th) (hRp : RepA f S.1) (hB : BoxR d2 B2) (hd : ∀ k, 527 ≤ k → d2 k = f k) (hH1 : HiR v1 hs) (hX0 : TxR tx S.2.1) (hF : FrR c c1) {o1 o3 : Option Value} : Xm M_X5_sortHeap 84 [some (.ref 456), o1, some (.int (nI N)), o3] [] (g, c1) (RQ g c (fun E => E - 1) (Sum.inl (.int (nI N))) ((B2, S.1.2.1, S.1.2.2.1.drop N, n1 S.1, n2 S.1, n3 S.1, n4 S.1 + nI N, n5 S.1), S.2.1, hs)) := by
  obtain ⟨g1, g2, g3, g4⟩ := hRp.2.2.1
  obtain ⟨hO, hA, hS, hD, hX, hW, hL, hT⟩ := id hR1
  refine x_aload_n dX5_sortHeap_84 rfl ?_
  refine x_getfield dX5_sortHeap_85 rfl (by decide) (by first | assumption | (simp (disch := omega) only [up_s, up_n]; first | assumption | rfl)) rfl ?_
  refine x_sipush (nI 1265) dX5_sortHeap_88 (by decide) ?_
  refine x_dup2 dX5_sortHeap_91 rfl rfl ?_
  refine x_ialoadN dX5_sortHeap_92 (by first | assumption | (simp (disch := omega) only [up_s, up_n]; first | assumption | rfl)) (by omega) (by omega) ?_
  rw [hd _ (by omega), g1]
  refine x_iload_n dX5_sortHeap_93 rfl ?_
  refine x_isubN dX5_sortHeap_94 hN ?_
  refine x_iastoreN dX5_sortHeap_95 (by first | assumption | (simp (disch := omega) only [up_s, up_n]; first | assumption | rfl)) (by omega) (by omega) ?_
  refine x_iconst (nI 0) dX5_sortHeap_96 (by decide) ?_
  refine x_istore_n3 dX5_sortHeap_97 rfl ?_
  refine l_X5_sh2 (c := c1) (f := upd d2 1265 (nI (S.1.2.2.1.length - N))) hN g2 pk_us (fun i hi => by rw [pk_un (by omega), hd _ (by omega)]; exact g4 i hi) (fun c3 d3 o3 w1 w2 w3 w4 => ?_) (S.1.2.2.1.length - N + 1) 0 _ _ (Nat.zero_le _) (by omega) hR1.uA (FrR.w (by omega) (by omega)) (fun k hk z => absurd z (Nat.not_lt_zero k)) (fun k _ => rfl) (fun k _ => rfl)
  have hB3 : BoxR d3 B2 := hB.fr (fun k hk => by rw [w4 k (by omega), pk_un (by omega)])
  have hHp3 : HpR d3 (S.1.2.2.1.drop N) := hRp.2.2.1.drop (by rw [w4 _ (by omega), pk_us]) w3
  exact k_X5_sh138 w1 hRp hB3 hHp3 (fun k z1 z2 => by rw [w4 k (by omega), pk_un (by omega)]; exact hd k z1) hH1 hX0 (hF.tr w2)
set_option maxRecDepth 20000 in
set_option maxHeartbeats 1000000 in
theorem k_X5_sh47 {c c1 : Nat → VC} {g : VG} {S : St} {f v1 as tx rw ll lt : Nat → Int32} {th : Int32} {N : Nat} {hs : List Sg} (hk : totM S.1 ≤ 250) (hN : N ≤ S.1.2.2.1.length) (hR1 : RH c1 f v1 as tx rw ll lt (nI hs.length) (nI S.2.1.length) th) (hRp : RepA f S.1) (hH1 : HiR v1 hs) (hX0 : TxR tx S.2.1) (hF1 : FrR c c1) {q1 : Int32} {o3 : Option Value} : Xm M_X5_sortHeap 46 [some (.ref 456), some (.int q1), none, o3] [.int (nI N)] (g, c1) (RQ g c (fun E => E - 1) (Sum.inl (.int (nI N))) ((bkL (S.1.2.2.1.take N) S.1.1, S.1.2.1, S.1.2.2.1.drop N, n1 S.1, n2 S.1, n3 S.1, n4 S.1 + nI N, n5 S.1), S.2.1, hs)) := by
  refine x_istore_n2 dX5_sortHeap_46 rfl ?_
  refine x_iconst (nI 0) dX5_sortHeap_47 (by decide) ?_
  refine x_istore_n3 dX5_sortHeap_48 rfl ?_
  have hsb : SB S.1.1 + S.1.2.2.1.length ≤ 250 := by unfold totM at hk; omega
  refine l_X5_sh1 (c := c1) (B0 := S.1.1) hN hRp.2.2.1 hsb (fun c2 d2 w1 w2 w3 w4 => ?_) (N + 1) 0 f c1 (Nat.zero_le _) (by omega) hR1 FrR.rf hRp.1 (fun k hk => rfl)
  exact k_X5_sh84 hN w1 hRp w3 w4 hH1 hX0 (hF1.tr w2)
set_option maxRecDepth 20000 in
set_option maxHeartbeats 2000000 in
theorem s_X5_sortHeap {c : Nat → VC} {g : VG} {S : St} {th : Int32} (h : RefAt c S th) (hk : StOK S) {m : Int32} : Cm k_X5_sortHeap [.ref 456, .int m] (g, c) (RQ g c (fun E => E - 1) (sortHeapM m S).1 (sortHeapM m S).2) := by
  obtain ⟨f, vs, as, tx, rw, ll, lt, hR, hRp, hH, hX0⟩ := h
  obtain ⟨hO, hA, hS, hD, hX, hW, hL, hT⟩ := id hR
  obtain ⟨u1, u2, u3, u4, u5⟩ := hRp.2.2.2
  obtain ⟨g1, g2, g3, g4⟩ := hRp.2.2.1
  cases e2 : rg m 1 99 with
  | none =>
    have hM : sortHeapM m S = (Sum.inr 2, S) := by simp only [sortHeapM, e2]
    rw [hM]
    refine Cm.in (M := M_X5_sortHeap) (ls := [some (.ref 456), some (.int m), none, none]) rfl rfl ?_
    refine x_iload_n dX5_sortHeap_0 rfl ?_
    refine x_i2l dX5_sortHeap_1 ?_
    refine x_lconst (1) dX5_sortHeap_2 (by decide) ?_
    refine x_ldc2_w dX5_sortHeap_3 rfl ?_
    refine x_cs3 dX5_sortHeap_6 rfl ?_
    refine Cm.rt s_X5_in ?_
    rw [in_rg (a := 1) (b := 99) (by omega) (by omega) (by decide) (by decide), e2]
    refine x_if_ne 18 dX5_sortHeap_9 (by decide) (fun c9 => ?_) (fun c9 => ?_)
    · exact absurd rfl c9
    · refine x_aload_n dX5_sortHeap_12 rfl ?_
      refine x_iconst (nI 1) dX5_sortHeap_13 (by decide) ?_
      refine x_cv2 dX5_sortHeap_14 rfl (by first | assumption | (simp (disch := omega) only [up_s, up_n]; first | assumption | rfl)) rfl ?_
      refine Cm.ei (s_X5_throwing hR) (fun w c9 q9 => ?_)
      obtain ⟨rfl, w1, w2⟩ := q9
      refine x_ireturn dX5_sortHeap_17 ?_
      exact ⟨_, c9, 1, rfl, rfl, ⟨f, vs, as, tx, rw, ll, lt, w1, hRp, hH, hX0⟩, w2, rfl, rfl⟩
  | some n =>
    obtain ⟨hn1, hn2, rfl⟩ := rg_some (by omega) (by omega) e2
    have hM : sortHeapM (nI n) S = (Sum.inl (.int (nI (min n S.1.2.2.1.length))), sv S (bkL (S.1.2.2.1.take (min n S.1.2.2.1.length)) S.1.1, S.1.2.1, S.1.2.2.1.drop (min n S.1.2.2.1.length), n1 S.1, n2 S.1, n3 S.1, n4 S.1 + nI (min n S.1.2.2.1.length), n5 S.1)) := by simp only [sortHeapM, e2]
    rw [hM]
    refine Cm.in (M := M_X5_sortHeap) (ls := [some (.ref 456), some (.int (nI n)), none, none]) rfl rfl ?_
    refine x_iload_n dX5_sortHeap_0 rfl ?_
    refine x_i2l dX5_sortHeap_1 ?_
    refine x_lconst (1) dX5_sortHeap_2 (by decide) ?_
    refine x_ldc2_w dX5_sortHeap_3 rfl ?_
    refine x_cs3 dX5_sortHeap_6 rfl ?_
    refine Cm.rt s_X5_in ?_
    rw [in_rg (a := 1) (b := 99) (by omega) (by omega) (by decide) (by decide), e2]
    refine x_if_ne 18 dX5_sortHeap_9 (by decide) (fun c9 => ?_) (fun c9 => ?_)
    · refine x_aload_n dX5_sortHeap_18 rfl ?_
      refine x_cv1 dX5_sortHeap_19 rfl (by first | assumption | (simp (disch := omega) only [up_s, up_n]; first | assumption | rfl)) rfl ?_
      refine Cm.ev (s_X5_save hR hH hRp) (fun c1 q1 => ?_)
      obtain ⟨v1, hR1, hF1, hH1⟩ := q1
      obtain ⟨hO1, hA1, hS1, hD1, hX1, hW1, hL1, hT1⟩ := id hR1
      refine x_iload_n dX5_sortHeap_22 rfl ?_
      refine x_aload_n dX5_sortHeap_23 rfl ?_
      refine x_getfield dX5_sortHeap_24 rfl (by decide) (by first | assumption | (simp (disch := omega) only [up_s, up_n]; first | assumption | rfl)) rfl ?_
      refine x_sipush (nI 1265) dX5_sortHeap_27 (by decide) ?_
      refine x_ialoadN dX5_sortHeap_30 (by first | assumption | (simp (disch := omega) only [up_s, up_n]; first | assumption | rfl)) (by omega) (by omega) ?_
      rw [g1]
      refine x_icmp_ge 38 dX5_sortHeap_31 (by decide) (fun c31 => ?_) (fun c31 => ?_)
      · have hle := (nI_leI (by omega) (by omega)).mp c31
        rw [Nat.min_eq_right hle]
        refine x_aload_n dX5_sortHeap_38 rfl ?_
        refine x_getfield dX5_sortHeap_39 rfl (by decide) (by first | assumption | (simp (disch := omega) only [up_s, up_n]; first | assumption | rfl)) rfl ?_
        refine x_sipush (nI 1265) dX5_sortHeap_42 (by decide) ?_
        refine x_ialoadN dX5_sortHeap_45 (by first | assumption | (simp (disch := omega) only [up_s, up_n]; first | assumption | rfl)) (by omega) (by omega) ?_
        try rw [g1]
        exact k_X5_sh47 hk.1 (by first | exact Nat.le_refl _ | omega) hR1 hRp hH1 hX0 hF1
      · have hlt : n < S.1.2.2.1.length := by
          by_cases q : n < S.1.2.2.1.length
          · exact q
          · exact absurd ((nI_leI (by omega) (by omega)).mpr (by omega)) c31
        rw [Nat.min_eq_left (by omega)]
        refine x_iload_n dX5_sortHeap_34 rfl ?_
        refine x_goto 46 dX5_sortHeap_35 (by decide) ?_
        try rw [g1]
        exact k_X5_sh47 hk.1 (by first | exact Nat.le_refl _ | omega) hR1 hRp hH1 hX0 hF1
    · exact absurd (show bV true = 0 from c9) (by decide)
