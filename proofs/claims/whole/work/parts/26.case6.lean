/-! THE CASE: setLine -/
theorem fl16 : ∀ {L : List (List Pl)}, (∀ l ∈ L, l.length ≤ 16) → L.flatten.length ≤ 16 * L.length
  | [], _ => Nat.le_refl _
  | l :: L, h => by
    have h1 := h l List.mem_cons_self
    have h2 := fl16 (L := L) (fun y hy => h y (List.mem_cons_of_mem _ hy))
    rw [List.flatten_cons, List.length_append, List.length_cons]
    omega
theorem setT_len : ∀ {T : List Nat} {B : Bx} {r : Bx × List Pl}, setT T B = some r → r.2.length = T.length
  | [], B, r, h => by
    have : r = (B, []) := (Option.some.inj h).symm
    rw [this]; rfl
  | x :: T, B, r, h => by
    simp only [setT] at h
    cases e : (B (srcOf B x)).getLast? with
    | none => rw [e] at h; cases h
    | some s =>
      rw [e] at h
      simp only at h
      cases e2 : setT T (uf B (srcOf B x) (B (srcOf B x)).dropLast) with
      | none => rw [e2] at h; cases h
      | some r2 =>
        rw [e2] at h
        have h3 := setT_len e2
        have h4 : r = (r2.1, (x, s, flg B x) :: r2.2) := (Option.some.inj h).symm
        rw [h4]
        show r2.2.length + 1 = T.length + 1
        rw [h3]
theorem LnOK.snoc {L : List (List Pl)} {ps : List Pl} (h : LnOK L) (hl : L.length < 5) (h1 : 1 ≤ ps.length) (h2 : ps.length ≤ 16) : LnOK (L ++ [ps]) := by
  refine ⟨by rw [List.length_append, List.length_singleton]; omega, fun l hm => ?_⟩
  rcases List.mem_append.mp hm with z | z
  · exact h.2 l z
  · rw [List.mem_singleton.mp z]; exact ⟨h1, h2⟩
set_option maxRecDepth 20000 in
set_option maxHeartbeats 2000000 in
theorem s_X4_setLine {c : Nat → VC} {z k s : Nat} {x : Bool} {S : St} (h : CaseAt c S) {f : Int32} : Cm k_X4_setLine [.ref 2, .int f] ((z, x, k, s), c) (CQ z x k s c (setLineM f S).1 (setLineM f S).2) := by
  have hh2 := h.1
  have hh3 := h.2.1.1
  have hhs := h.2.2.2.1.choose_spec.choose_spec.2.1
  have hht := h.2.2.1
  have htk := hht.2.1
  have htl := hht.2.2.1
  cases e1 : ix f 3 with
  | none =>
    have hM : setLineM f S = (Sum.inr 1, S) := by simp only [setLineM, e1]
    rw [hM]
    refine Cm.in (M := M_X4_setLine) (ls := [some (.ref 2), some (.int f), none]) rfl rfl ?_
    refine x_iload_n dX4_setLine_0 rfl ?_
    refine x_cs1 dX4_setLine_1 rfl ?_
    exact Cm.rx (s_rqForme_x (ix_none e1)) rfl ⟨c, h, FrC.rf, rfl, rfl⟩
  | some j =>
    obtain ⟨hj, rfl⟩ := ix_some (by omega) e1
    have hF := h.2.1.2.2.1
    have hfo := hF.2 j hj
    have h5 := hfo.2.1
    have hfk := hfo.1.choose_spec.choose_spec.choose_spec.choose_spec.1
    by_cases hlt : (S.1.2.1 j).length < 5
    · cases e3 : goesM S.2.1 S.1.1 with
      | none =>
        have hM : setLineM (nI j) S = (Sum.inr 3, S) := by simp only [setLineM, e1, if_pos hlt, e3]
        rw [hM]
        by_cases hT : S.2.1 = []
        · have h0 := hT
          refine Cm.in (M := M_X4_setLine) (ls := [some (.ref 2), some (.int (nI j)), none]) rfl rfl ?_
          refine x_iload_n dX4_setLine_0 rfl ?_
          refine x_cs1 dX4_setLine_1 rfl ?_
          refine Cm.rv (s_rqForme hj) ?_
          refine x_aload_n dX4_setLine_4 rfl ?_
          refine x_getfield dX4_setLine_5 rfl (by decide) (by first | assumption | (simp (disch := omega) only [up_s, up_n]; first | assumption | rfl)) rfl ?_
          refine x_iload_n dX4_setLine_8 rfl ?_
          refine x_cv2 dX4_setLine_9 rfl (by first | assumption | (simp (disch := omega) only [up_s, up_n]; first | assumption | rfl)) rfl ?_
          refine Cm.rt (s_X3_formeOf hh3 hF hj) ?_
          refine x_astore_n2 dX4_setLine_12 rfl ?_
          refine x_aload_n dX4_setLine_13 rfl ?_
          refine x_getfield dX4_setLine_14 rfl (by decide) (by first | assumption | (simp (disch := omega) only [up_s, up_n]; first | assumption | rfl)) rfl ?_
          refine x_cv1 dX4_setLine_17 rfl (by first | assumption | (simp (disch := omega) only [up_s, up_n]; first | assumption | rfl)) rfl ?_
          refine Cm.rt (s_X2_size hht) ?_
          refine x_if_eq 38 dX4_setLine_20 (by decide) (fun c20 => ?_) (fun c20 => ?_)
          · refine x_throw dX4_setLine_38 rfl rfl ?_
            exact ⟨c, h, FrC.rf, rfl, rfl⟩
          · exact absurd (by rw [hT]; rfl) c20
        · have h0 := List.length_pos_iff.mpr hT
          refine Cm.in (M := M_X4_setLine) (ls := [some (.ref 2), some (.int (nI j)), none]) rfl rfl ?_
          refine x_iload_n dX4_setLine_0 rfl ?_
          refine x_cs1 dX4_setLine_1 rfl ?_
          refine Cm.rv (s_rqForme hj) ?_
          refine x_aload_n dX4_setLine_4 rfl ?_
          refine x_getfield dX4_setLine_5 rfl (by decide) (by first | assumption | (simp (disch := omega) only [up_s, up_n]; first | assumption | rfl)) rfl ?_
          refine x_iload_n dX4_setLine_8 rfl ?_
          refine x_cv2 dX4_setLine_9 rfl (by first | assumption | (simp (disch := omega) only [up_s, up_n]; first | assumption | rfl)) rfl ?_
          refine Cm.rt (s_X3_formeOf hh3 hF hj) ?_
          refine x_astore_n2 dX4_setLine_12 rfl ?_
          refine x_aload_n dX4_setLine_13 rfl ?_
          refine x_getfield dX4_setLine_14 rfl (by decide) (by first | assumption | (simp (disch := omega) only [up_s, up_n]; first | assumption | rfl)) rfl ?_
          refine x_cv1 dX4_setLine_17 rfl (by first | assumption | (simp (disch := omega) only [up_s, up_n]; first | assumption | rfl)) rfl ?_
          refine Cm.rt (s_X2_size hht) ?_
          refine x_if_eq 38 dX4_setLine_20 (by decide) (fun c20 => ?_) (fun c20 => ?_)
          · exact absurd ((nI_eq (b := 0) (by omega) (by omega)).mp c20) (by omega)
          · refine x_aload_n dX4_setLine_23 rfl ?_
            refine x_cv1 dX4_setLine_24 rfl (by first | assumption | (simp (disch := omega) only [up_s, up_n]; first | assumption | rfl)) rfl ?_
            refine Cm.rt (s_X0_lines hfo.1) ?_
            rw [endsL_len]
            refine x_iconst (nI 5) dX4_setLine_27 (by decide) ?_
            refine x_icmp_ge 38 dX4_setLine_28 (by decide) (fun c28 => ?_) (fun c28 => ?_)
            · exact absurd ((nI_leI (by omega) (by omega)).mp c28) (by omega)
            · refine x_aload_n dX4_setLine_31 rfl ?_
              refine x_cv1 dX4_setLine_32 rfl (by first | assumption | (simp (disch := omega) only [up_s, up_n]; first | assumption | rfl)) rfl ?_
              refine Cm.ei (s_X4_settingGoes h) (fun v c2 q2 => ?_)
              obtain ⟨q21, q22, q23⟩ := q2
              unfold TG at q21
              rw [e3] at q21
              subst q21
              refine x_if_ne 48 dX4_setLine_35 (by decide) (fun c35 => ?_) (fun c35 => ?_)
              · exact absurd rfl c35
              · refine x_throw dX4_setLine_38 rfl rfl ?_
                exact ⟨c2, q22, q23, rfl, rfl⟩
      | some r =>
        have hM : setLineM (nI j) S = (Sum.inl (.int (nI (S.1.2.1 j).length)), sv S (r.1, uf S.1.2.1 j (S.1.2.1 j ++ [r.2]), S.1.2.2.1, n1 S.1, n2 S.1, n3 S.1, n4 S.1 + nI S.2.1.length, n5 S.1)) := by simp only [setLineM, e1, if_pos hlt, e3]
        rw [hM]
        have hT : ¬ S.2.1 = [] := fun z => by unfold goesM at e3; rw [if_pos z] at e3; cases e3
        have hst : setT S.2.1 S.1.1 = some r := by unfold goesM at e3; rw [if_neg hT] at e3; exact e3
        have h0 := List.length_pos_iff.mpr hT
        have hrl := setT_len hst
        have h64 := fl16 (L := S.1.2.1 j) (fun l hl => (hfo.2.2 l hl).2)
        refine Cm.in (M := M_X4_setLine) (ls := [some (.ref 2), some (.int (nI j)), none]) rfl rfl ?_
        refine x_iload_n dX4_setLine_0 rfl ?_
        refine x_cs1 dX4_setLine_1 rfl ?_
        refine Cm.rv (s_rqForme hj) ?_
        refine x_aload_n dX4_setLine_4 rfl ?_
        refine x_getfield dX4_setLine_5 rfl (by decide) (by first | assumption | (simp (disch := omega) only [up_s, up_n]; first | assumption | rfl)) rfl ?_
        refine x_iload_n dX4_setLine_8 rfl ?_
        refine x_cv2 dX4_setLine_9 rfl (by first | assumption | (simp (disch := omega) only [up_s, up_n]; first | assumption | rfl)) rfl ?_
        refine Cm.rt (s_X3_formeOf hh3 hF hj) ?_
        refine x_astore_n2 dX4_setLine_12 rfl ?_
        refine x_aload_n dX4_setLine_13 rfl ?_
        refine x_getfield dX4_setLine_14 rfl (by decide) (by first | assumption | (simp (disch := omega) only [up_s, up_n]; first | assumption | rfl)) rfl ?_
        refine x_cv1 dX4_setLine_17 rfl (by first | assumption | (simp (disch := omega) only [up_s, up_n]; first | assumption | rfl)) rfl ?_
        refine Cm.rt (s_X2_size hht) ?_
        refine x_if_eq 38 dX4_setLine_20 (by decide) (fun c20 => ?_) (fun c20 => ?_)
        · exact absurd ((nI_eq (b := 0) (by omega) (by omega)).mp c20) (by omega)
        · refine x_aload_n dX4_setLine_23 rfl ?_
          refine x_cv1 dX4_setLine_24 rfl (by first | assumption | (simp (disch := omega) only [up_s, up_n]; first | assumption | rfl)) rfl ?_
          refine Cm.rt (s_X0_lines hfo.1) ?_
          rw [endsL_len]
          refine x_iconst (nI 5) dX4_setLine_27 (by decide) ?_
          refine x_icmp_ge 38 dX4_setLine_28 (by decide) (fun c28 => ?_) (fun c28 => ?_)
          · exact absurd ((nI_leI (by omega) (by omega)).mp c28) (by omega)
          · refine x_aload_n dX4_setLine_31 rfl ?_
            refine x_cv1 dX4_setLine_32 rfl (by first | assumption | (simp (disch := omega) only [up_s, up_n]; first | assumption | rfl)) rfl ?_
            refine Cm.ei (s_X4_settingGoes h) (fun v c2 q2 => ?_)
            obtain ⟨q21, q22, q23⟩ := q2
            unfold TG at q21
            rw [e3] at q21
            obtain ⟨rfl, -, -⟩ := q21
            have hh22 := q22.1
            have hhs2 := q22.2.2.2.1.choose_spec.choose_spec.2.1
            refine x_if_ne 48 dX4_setLine_35 (by decide) (fun c35 => ?_) (fun c35 => ?_)
            · refine x_aload_n dX4_setLine_48 rfl ?_
              refine x_getfield dX4_setLine_49 rfl (by decide) (by first | assumption | (simp (disch := omega) only [up_s, up_n]; first | assumption | rfl)) rfl ?_
              refine x_aload_n dX4_setLine_52 rfl ?_
              refine x_getfield dX4_setLine_53 rfl (by decide) (by first | assumption | (simp (disch := omega) only [up_s, up_n]; first | assumption | rfl)) rfl ?_
              refine x_cv2 dX4_setLine_56 rfl (by first | assumption | (simp (disch := omega) only [up_s, up_n]; first | assumption | rfl)) rfl ?_
              refine Cm.ev (s_save q22) (fun c3 q3 => ?_)
              obtain ⟨h3, hf3⟩ := q3
              have hh23 := h3.1
              have hh33 := h3.2.1.1
              have hht3 := h3.2.2.1
              refine x_aload_n dX4_setLine_59 rfl ?_
              refine x_getfield dX4_setLine_60 rfl (by decide) (by first | assumption | (simp (disch := omega) only [up_s, up_n]; first | assumption | rfl)) rfl ?_
              refine x_aload_n dX4_setLine_63 rfl ?_
              refine x_getfield dX4_setLine_64 rfl (by decide) (by first | assumption | (simp (disch := omega) only [up_s, up_n]; first | assumption | rfl)) rfl ?_
              refine x_aload_n dX4_setLine_67 rfl ?_
              refine x_cv3 dX4_setLine_68 rfl (by first | assumption | (simp (disch := omega) only [up_s, up_n]; first | assumption | rfl)) rfl ?_
              have hfo3 := h3.2.1.2.2.1.2 j hj
              refine Cm.ei (s_X3_setText (p := 3 + 59 + 5 * j) (tr := 77) (tla := 78) ap3 ⟨by omega, by omega, by omega, by omega⟩ hht3 h3.2.2.2.2.2.2 (by rw [endsL_len]; exact hlt) hh33 h3.2.1.2.1 hfo3.1 (by show (S.1.2.1 j).flatten.length + S.2.1.length ≤ 80; omega)) (fun v c4 q4 => ?_)
              obtain ⟨q41, q42⟩ := q4
              unfold SetP at q41
              rw [hst] at q41
              obtain ⟨B', ps⟩ := r
              obtain ⟨rfl, p2, p3, p4⟩ := q41
              have hp4 := p4.choose_spec.choose_spec.choose_spec.choose_spec.1
              have hfo4 : FormeAt c4 (3 + 59 + 5 * j) (S.1.2.1 j ++ [ps]) := ⟨by
                rw [ends_snoc, List.flatten_append]
                simp only [List.flatten_cons, List.flatten_nil, List.append_nil]
                exact p4, hfo3.2.snoc hlt (by rw [show ps.length = S.2.1.length from hrl]; omega) (by rw [show ps.length = S.2.1.length from hrl]; omega)⟩
              have hs4 := h3.2.1.bf p2 p3 hj hfo4 q42
              have h4 := h3.shop hs4 (fun k hk => q42 k (by omega) (by omega) (by omega))
              have hf4 : FrC c c4 := (q23.tr hf3).tr (fun k hk => q42 k (by omega) (by omega) (by omega))
              refine x_pop dX4_setLine_71 rfl ?_
              refine x_aload_n dX4_setLine_72 rfl ?_
              refine x_cv1 dX4_setLine_73 rfl (by first | assumption | (simp (disch := omega) only [up_s, up_n]; first | assumption | rfl)) rfl ?_
              refine Cm.rt (s_X0_lines p4) ?_
              rw [List.length_append, List.length_singleton, endsL_len]
              refine x_iconst (nI 1) dX4_setLine_76 (by decide) ?_
              refine x_isubN dX4_setLine_77 (by omega) ?_
              rw [Nat.add_sub_cancel]
              refine x_ireturn dX4_setLine_78 ?_
              exact ⟨c4, h4, hf4, rfl, rfl⟩
            · exact absurd c35 (by decide)
    · have hM : setLineM (nI j) S = (Sum.inr 3, S) := by simp only [setLineM, e1, if_neg hlt]
      rw [hM]
      refine Cm.in (M := M_X4_setLine) (ls := [some (.ref 2), some (.int (nI j)), none]) rfl rfl ?_
      refine x_iload_n dX4_setLine_0 rfl ?_
      refine x_cs1 dX4_setLine_1 rfl ?_
      refine Cm.rv (s_rqForme hj) ?_
      refine x_aload_n dX4_setLine_4 rfl ?_
      refine x_getfield dX4_setLine_5 rfl (by decide) (by first | assumption | (simp (disch := omega) only [up_s, up_n]; first | assumption | rfl)) rfl ?_
      refine x_iload_n dX4_setLine_8 rfl ?_
      refine x_cv2 dX4_setLine_9 rfl (by first | assumption | (simp (disch := omega) only [up_s, up_n]; first | assumption | rfl)) rfl ?_
      refine Cm.rt (s_X3_formeOf hh3 hF hj) ?_
      refine x_astore_n2 dX4_setLine_12 rfl ?_
      refine x_aload_n dX4_setLine_13 rfl ?_
      refine x_getfield dX4_setLine_14 rfl (by decide) (by first | assumption | (simp (disch := omega) only [up_s, up_n]; first | assumption | rfl)) rfl ?_
      refine x_cv1 dX4_setLine_17 rfl (by first | assumption | (simp (disch := omega) only [up_s, up_n]; first | assumption | rfl)) rfl ?_
      refine Cm.rt (s_X2_size hht) ?_
      refine x_if_eq 38 dX4_setLine_20 (by decide) (fun c20 => ?_) (fun c20 => ?_)
      · refine x_throw dX4_setLine_38 rfl rfl ?_
        exact ⟨c, h, FrC.rf, rfl, rfl⟩
      · refine x_aload_n dX4_setLine_23 rfl ?_
        refine x_cv1 dX4_setLine_24 rfl (by first | assumption | (simp (disch := omega) only [up_s, up_n]; first | assumption | rfl)) rfl ?_
        refine Cm.rt (s_X0_lines hfo.1) ?_
        rw [endsL_len]
        refine x_iconst (nI 5) dX4_setLine_27 (by decide) ?_
        refine x_icmp_ge 38 dX4_setLine_28 (by decide) (fun c28 => ?_) (fun c28 => ?_)
        · refine x_throw dX4_setLine_38 rfl rfl ?_
          exact ⟨c, h, FrC.rf, rfl, rfl⟩
        · exact absurd ((nI_leI (by omega) (by omega)).mpr (by omega)) c28
