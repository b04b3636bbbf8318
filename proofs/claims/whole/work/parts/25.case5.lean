/-! THE CASE: its digest -/
set_option maxRecDepth 20000 in
set_option maxHeartbeats 1000000 in
theorem k_dgFk {c : Nat → VC} {z k s : Nat} {x : Bool} {S : St} (hk : StOK S) {dv h0 : Int64} {j : Nat} (hj : j < 3) (hk9 : ∀ c1 o4, CaseAt c1 S → FrC c c1 → Xm M_X4_digest 110 [some (.ref 2), some (.long (mixFo (S.1.2.1 j) (dgFk S j 5 h0))), none, some (.int (nI (j + 1))), o4] [] ((z, x, k, s), c1) (CQ z x k s c (Sum.inl (.long dv)) S)) : ∀ (m i : Nat), i ≤ 5 → 5 < i + m → ∀ c1, CaseAt c1 S → FrC c c1 → Xm M_X4_digest 118 [some (.ref 2), some (.long (dgFk S j i h0)), none, some (.int (nI j)), some (.int (nI i))] [] ((z, x, k, s), c1) (CQ z x k s c (Sum.inl (.long dv)) S) := by
  intro m
  induction m with
  | zero => intro i z1 z2; omega
  | succ m ih =>
    intro i z1 z2 c1 h1 hf1
    have hh2 := h1.1
    have hh3 := h1.2.1.1
    refine x_iload dX4_digest_118 rfl ?_
    refine x_iconst (nI 4) dX4_digest_120 (by decide) ?_
    refine x_icmp_gt 143 dX4_digest_121 (by decide) (fun c121 => ?_) (fun c121 => ?_)
    · have e1 : i = 5 := by have := (nI_ltI (by omega) (by omega)).mp c121; omega
      subst e1
      have hF := h1.2.1.2.2.1
      have hfo := hF.2 j hj
      have hfk := hfo.1.choose_spec.choose_spec.choose_spec.choose_spec.1
      refine x_aload_n dX4_digest_143 rfl ?_
      refine x_getfield dX4_digest_144 rfl (by decide) (by first | assumption | (simp (disch := omega) only [up_s, up_n]; first | assumption | rfl)) rfl ?_
      refine x_iload_n dX4_digest_147 rfl ?_
      refine x_cv2 dX4_digest_148 rfl (by first | assumption | (simp (disch := omega) only [up_s, up_n]; first | assumption | rfl)) rfl ?_
      refine Cm.rt (s_X3_formeOf hh3 hF hj) ?_
      refine x_lload_n dX4_digest_151 rfl ?_
      refine x_cv2 dX4_digest_152 rfl (by first | assumption | (simp (disch := omega) only [up_s, up_n]; first | assumption | rfl)) rfl ?_
      refine Cm.rt (s_X0_mixedInto hfo) ?_
      refine x_lstore_n1 dX4_digest_155 rfl ?_
      refine x_iincN_3 (1) dX4_digest_156 (by decide) rfl ?_
      refine x_goto 110 dX4_digest_159 (by decide) ?_
      exact hk9 c1 _ h1 hf1
    · have hi : i < 5 := by
        by_cases q : i < 5
        · exact q
        · exact absurd ((nI_ltI (by omega) (by omega)).mpr (by omega)) c121
      refine x_lload_n dX4_digest_124 rfl ?_
      refine x_aload_n dX4_digest_125 rfl ?_
      refine x_iload_n dX4_digest_126 rfl ?_
      refine x_iload dX4_digest_127 rfl ?_
      refine x_cv3 dX4_digest_129 rfl (by first | assumption | (simp (disch := omega) only [up_s, up_n]; first | assumption | rfl)) rfl ?_
      refine Cm.ei (s_X4_aboutForme h1 hk hj (by omega)) (fun v c2 q2 => ?_)
      obtain ⟨rfl, q22, q23⟩ := q2
      refine x_i2l dX4_digest_132 ?_
      refine x_cs2 dX4_digest_133 rfl ?_
      refine Cm.rt s_X4_mixed ?_
      refine x_lstore_n1 dX4_digest_136 rfl ?_
      refine x_iincN_4 (1) dX4_digest_137 (by decide) rfl ?_
      refine x_goto 118 dX4_digest_140 (by decide) ?_
      exact ih (i + 1) (by omega) (by omega) c2 q22 (hf1.tr q23)
set_option maxRecDepth 20000 in
set_option maxHeartbeats 1000000 in
theorem k_dgF {c : Nat → VC} {z k s : Nat} {x : Bool} {S : St} (hk : StOK S) {dv h0 : Int64} (hv : 31 * mixL S.1.2.2.1 (dgF S 3 h0) + lN S.2.2.length = dv) : ∀ (m i : Nat), i ≤ 3 → 3 < i + m → ∀ c1 o4, CaseAt c1 S → FrC c c1 → Xm M_X4_digest 110 [some (.ref 2), some (.long (dgF S i h0)), none, some (.int (nI i)), o4] [] ((z, x, k, s), c1) (CQ z x k s c (Sum.inl (.long dv)) S) := by
  intro m
  induction m with
  | zero => intro i z1 z2; omega
  | succ m ih =>
    intro i z1 z2 c1 o4 h1 hf1
    have hh2 := h1.1
    have hh3 := h1.2.1.1
    have hhp := h1.2.1.2.2.2
    have hhk := hhp.2.1
    have hhs := h1.2.2.2.1.choose_spec.choose_spec.2.1
    have hsl : S.2.2.length ≤ 4 := h1.2.2.2.1.choose_spec.choose_spec.2.2.2.2.1
    refine x_iload_n dX4_digest_110 rfl ?_
    refine x_iconst (nI 3) dX4_digest_111 (by decide) ?_
    refine x_icmp_ge 162 dX4_digest_112 (by decide) (fun c112 => ?_) (fun c112 => ?_)
    · have e1 : i = 3 := by have := (nI_leI (by omega) (by omega)).mp c112; omega
      subst e1
      refine x_aload_n dX4_digest_162 rfl ?_
      refine x_getfield dX4_digest_163 rfl (by decide) (by first | assumption | (simp (disch := omega) only [up_s, up_n]; first | assumption | rfl)) rfl ?_
      refine x_getfield dX4_digest_166 rfl (by decide) (by first | assumption | (simp (disch := omega) only [up_s, up_n]; first | assumption | rfl)) rfl ?_
      refine x_lload_n dX4_digest_169 rfl ?_
      refine x_cv2 dX4_digest_170 rfl (by first | assumption | (simp (disch := omega) only [up_s, up_n]; first | assumption | rfl)) rfl ?_
      refine Cm.rt (s_X2_mixedInto hhp) ?_
      refine x_lstore_n1 dX4_digest_173 rfl ?_
      refine x_lload_n dX4_digest_174 rfl ?_
      refine x_aload_n dX4_digest_175 rfl ?_
      refine x_getfield dX4_digest_176 rfl (by decide) (by first | assumption | (simp (disch := omega) only [up_s, up_n]; first | assumption | rfl)) rfl ?_
      refine x_cv1 dX4_digest_179 rfl (by first | assumption | (simp (disch := omega) only [up_s, up_n]; first | assumption | rfl)) rfl ?_
      refine Cm.rt (s_X1_size h1.2.2.2.1) ?_
      refine x_i2lN dX4_digest_182 (by omega) ?_
      refine x_cs2 dX4_digest_183 rfl ?_
      refine Cm.rt s_X4_mixed ?_
      refine x_lreturn dX4_digest_186 ?_
      exact ⟨c1, h1, hf1, by rw [hv], rfl⟩
    · have hi : i < 3 := by
        by_cases q : i < 3
        · exact q
        · exact absurd ((nI_leI (by omega) (by omega)).mpr (by omega)) c112
      refine x_iconst (nI 0) dX4_digest_115 (by decide) ?_
      refine x_istore_4 dX4_digest_116 rfl ?_
      exact k_dgFk hk hi (fun c2 o9 h2 hf2 => ih (i + 1) (by omega) (by omega) c2 o9 h2 hf2) 6 0 (by omega) (by omega) c1 h1 hf1
set_option maxRecDepth 20000 in
set_option maxHeartbeats 1000000 in
theorem k_dgLk {c : Nat → VC} {z k s : Nat} {x : Bool} {S : St} (h : CaseAt c S) {dv h0 : Int64} {a : Nat} (ha : a < 27) (hk9 : ∀ o4, Xm M_X4_digest 54 [some (.ref 2), some (.long (mixL (S.1.1 a) (dgLk S a 8 h0))), none, some (.int (nI (a + 1))), o4] [] ((z, x, k, s), c) (CQ z x k s c (Sum.inl (.long dv)) S)) : ∀ (m i : Nat), i ≤ 8 → 8 < i + m → Xm M_X4_digest 63 [some (.ref 2), some (.long (dgLk S a i h0)), none, some (.int (nI a)), some (.int (nI i))] [] ((z, x, k, s), c) (CQ z x k s c (Sum.inl (.long dv)) S) := by
  have hh2 := h.1
  have hh3 := h.2.1.1
  intro m
  induction m with
  | zero => intro i z1 z2; omega
  | succ m ih =>
    intro i z1 z2
    refine x_iload dX4_digest_63 rfl ?_
    refine x_bipush (nI 7) dX4_digest_65 (by decide) ?_
    refine x_icmp_gt 89 dX4_digest_67 (by decide) (fun c67 => ?_) (fun c67 => ?_)
    · have e1 : i = 8 := by have := (nI_ltI (by omega) (by omega)).mp c67; omega
      subst e1
      have hb := h.2.1.2.1
      have hba := (hb.2 a ha).2.1
      refine x_aload_n dX4_digest_89 rfl ?_
      refine x_getfield dX4_digest_90 rfl (by decide) (by first | assumption | (simp (disch := omega) only [up_s, up_n]; first | assumption | rfl)) rfl ?_
      refine x_iload_n dX4_digest_93 rfl ?_
      refine x_cv2 dX4_digest_94 rfl (by first | assumption | (simp (disch := omega) only [up_s, up_n]; first | assumption | rfl)) rfl ?_
      refine Cm.rt (s_X3_boxOf' hh3 hb ha) ?_
      refine x_lload_n dX4_digest_97 rfl ?_
      refine x_cv2 dX4_digest_98 rfl (by first | assumption | (simp (disch := omega) only [up_s, up_n]; first | assumption | rfl)) rfl ?_
      refine Cm.rt (s_X2_mixedInto (hb.2 a ha)) ?_
      refine x_lstore_n1 dX4_digest_101 rfl ?_
      refine x_iincN_3 (1) dX4_digest_102 (by decide) rfl ?_
      refine x_goto 54 dX4_digest_105 (by decide) ?_
      exact hk9 _
    · have hi : i < 8 := by
        by_cases q : i < 8
        · exact q
        · exact absurd ((nI_ltI (by omega) (by omega)).mpr (by omega)) c67
      refine x_lload_n dX4_digest_70 rfl ?_
      refine x_aload_n dX4_digest_71 rfl ?_
      refine x_iload_n dX4_digest_72 rfl ?_
      refine x_iload dX4_digest_73 rfl ?_
      refine x_cv3 dX4_digest_75 rfl (by first | assumption | (simp (disch := omega) only [up_s, up_n]; first | assumption | rfl)) rfl ?_
      refine Cm.rt (s_X4_aboutLetter h ha hi) ?_
      refine x_i2l dX4_digest_78 ?_
      refine x_cs2 dX4_digest_79 rfl ?_
      refine Cm.rt s_X4_mixed ?_
      refine x_lstore_n1 dX4_digest_82 rfl ?_
      refine x_iincN_4 (1) dX4_digest_83 (by decide) rfl ?_
      refine x_goto 63 dX4_digest_86 (by decide) ?_
      exact ih (i + 1) (by omega) (by omega)
set_option maxRecDepth 20000 in
set_option maxHeartbeats 1000000 in
theorem k_dgL {c : Nat → VC} {z k s : Nat} {x : Bool} {S : St} (h : CaseAt c S) (hk : StOK S) {dv h0 : Int64} (hv : 31 * mixL S.1.2.2.1 (dgF S 3 (dgL S 27 h0)) + lN S.2.2.length = dv) : ∀ (m i : Nat), i ≤ 27 → 27 < i + m → ∀ o4, Xm M_X4_digest 54 [some (.ref 2), some (.long (dgL S i h0)), none, some (.int (nI i)), o4] [] ((z, x, k, s), c) (CQ z x k s c (Sum.inl (.long dv)) S) := by
  intro m
  induction m with
  | zero => intro i z1 z2; omega
  | succ m ih =>
    intro i z1 z2 o4
    refine x_iload_n dX4_digest_54 rfl ?_
    refine x_bipush (nI 27) dX4_digest_55 (by decide) ?_
    refine x_icmp_ge 108 dX4_digest_57 (by decide) (fun c57 => ?_) (fun c57 => ?_)
    · have e1 : i = 27 := by have := (nI_leI (by omega) (by omega)).mp c57; omega
      subst e1
      refine x_iconst (nI 0) dX4_digest_108 (by decide) ?_
      refine x_istore_n3 dX4_digest_109 rfl ?_
      exact k_dgF hk hv 4 0 (by omega) (by omega) c _ h FrC.rf
    · have hi : i < 27 := by
        by_cases q : i < 27
        · exact q
        · exact absurd ((nI_leI (by omega) (by omega)).mpr (by omega)) c57
      refine x_iconst (nI 0) dX4_digest_60 (by decide) ?_
      refine x_istore_4 dX4_digest_61 rfl ?_
      exact k_dgLk h hi (fun o9 => ih (i + 1) (by omega) (by omega) o9) 9 0 (by omega) (by omega)
set_option maxRecDepth 20000 in
set_option maxHeartbeats 1000000 in
theorem k_dgV {c : Nat → VC} {z k s : Nat} {x : Bool} {S : St} (h : CaseAt c S) (hk : StOK S) {dv h0 : Int64} (hv : 31 * mixL S.1.2.2.1 (dgF S 3 (dgL S 27 (dgV S 12 h0))) + lN S.2.2.length = dv) : ∀ (m i : Nat), i ≤ 12 → 12 < i + m → ∀ o4, Xm M_X4_digest 26 [some (.ref 2), some (.long (dgV S i h0)), none, some (.int (nI i)), o4] [] ((z, x, k, s), c) (CQ z x k s c (Sum.inl (.long dv)) S) := by
  have hh2 := h.1
  have hh3 := h.2.1.1
  intro m
  induction m with
  | zero => intro i z1 z2; omega
  | succ m ih =>
    intro i z1 z2 o4
    refine x_iload_n dX4_digest_26 rfl ?_
    refine x_bipush (nI 11) dX4_digest_27 (by decide) ?_
    refine x_icmp_gt 52 dX4_digest_29 (by decide) (fun c29 => ?_) (fun c29 => ?_)
    · have e1 : i = 12 := by have := (nI_ltI (by omega) (by omega)).mp c29; omega
      subst e1
      refine x_iconst (nI 0) dX4_digest_52 (by decide) ?_
      refine x_istore_n3 dX4_digest_53 rfl ?_
      exact k_dgL h hk hv 28 0 (by omega) (by omega) _
    · have hi : i < 12 := by
        by_cases q : i < 12
        · exact q
        · exact absurd ((nI_ltI (by omega) (by omega)).mpr (by omega)) c29
      refine x_lload_n dX4_digest_32 rfl ?_
      refine x_aload_n dX4_digest_33 rfl ?_
      refine x_getfield dX4_digest_34 rfl (by decide) (by first | assumption | (simp (disch := omega) only [up_s, up_n]; first | assumption | rfl)) rfl ?_
      refine x_iload_n dX4_digest_37 rfl ?_
      refine x_cv2 dX4_digest_38 rfl (by first | assumption | (simp (disch := omega) only [up_s, up_n]; first | assumption | rfl)) rfl ?_
      refine Cm.rt (s_X3_number h.2.1 hi) ?_
      refine x_i2l dX4_digest_41 ?_
      refine x_cs2 dX4_digest_42 rfl ?_
      refine Cm.rt s_X4_mixed ?_
      refine x_lstore_n1 dX4_digest_45 rfl ?_
      refine x_iincN_3 (1) dX4_digest_46 (by decide) rfl ?_
      refine x_goto 26 dX4_digest_49 (by decide) ?_
      exact ih (i + 1) (by omega) (by omega) o4
set_option maxRecDepth 20000 in
set_option maxHeartbeats 2000000 in
theorem s_X4_digest {c : Nat → VC} {z k s : Nat} {x : Bool} {S : St} (h : CaseAt c S) (hk : StOK S) : Cm k_X4_digest [.ref 2] ((z, x, k, s), c) (CQ z x k s c (Sum.inl (.long (dig S))) S) := by
  have hh2 := h.1
  have hht := h.2.2.1
  have htk := hht.2.1
  have htl := hht.2.2.1
  refine Cm.in (M := M_X4_digest) (ls := [some (.ref 2), none, none, none, none]) rfl rfl ?_
  refine x_ldc2_w dX4_digest_0 rfl ?_
  refine x_aload_n dX4_digest_3 rfl ?_
  refine x_getfield dX4_digest_4 rfl (by decide) (by first | assumption | (simp (disch := omega) only [up_s, up_n]; first | assumption | rfl)) rfl ?_
  refine x_cv1 dX4_digest_7 rfl (by first | assumption | (simp (disch := omega) only [up_s, up_n]; first | assumption | rfl)) rfl ?_
  refine Cm.rt (s_X2_size hht) ?_
  refine x_i2lN dX4_digest_10 (by omega) ?_
  refine x_cs2 dX4_digest_11 rfl ?_
  refine Cm.rt s_X4_mixed ?_
  refine x_lstore_n1 dX4_digest_14 rfl ?_
  refine x_aload_n dX4_digest_15 rfl ?_
  refine x_getfield dX4_digest_16 rfl (by decide) (by first | assumption | (simp (disch := omega) only [up_s, up_n]; first | assumption | rfl)) rfl ?_
  refine x_lload_n dX4_digest_19 rfl ?_
  refine x_cv2 dX4_digest_20 rfl (by first | assumption | (simp (disch := omega) only [up_s, up_n]; first | assumption | rfl)) rfl ?_
  refine Cm.rt (s_X2_mixedInto hht) ?_
  refine x_lstore_n1 dX4_digest_23 rfl ?_
  refine x_iconst (nI 0) dX4_digest_24 (by decide) ?_
  refine x_istore_n3 dX4_digest_25 rfl ?_
  exact k_dgV h hk rfl 13 0 (by omega) (by omega) none
