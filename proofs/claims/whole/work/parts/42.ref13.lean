/-! the reference: setLine, the constructor -/
theorem ForR.snoc {f f' : Nat → Int32} {j : Nat} {L : List (List Pl)} {ps : List Pl} (h : ForR f j L) (hl : L.length < 5) (hp1 : 1 ≤ ps.length) (hp2 : ps.length ≤ 16) (hok : ∀ q ∈ ps, q.1 < 27 ∧ q.2.1 < 27 ∧ q.2.2 < 2) (h1 : f' (1262 + j) = nI (L.length + 1)) (h2 : f' (527 + 49 * (5 * j + L.length)) = nI ps.length) (h3 : ∀ (p : Nat) (hp : p < ps.length), f' (527 + 49 * (5 * j + L.length) + 1 + 3 * p) = nI ps[p].1 ∧ f' (527 + 49 * (5 * j + L.length) + 2 + 3 * p) = nI ps[p].2.1 ∧ f' (527 + 49 * (5 * j + L.length) + 3 + 3 * p) = nI ps[p].2.2) (h4 : ∀ k, 527 + 245 * j ≤ k → k < 527 + 49 * (5 * j + L.length) → f' k = f k) : ForR f' j (L ++ [ps]) := by
  obtain ⟨g1, g2, g3, g4, g5⟩ := h
  refine ⟨by rw [h1, List.length_append, List.length_singleton], ⟨by rw [List.length_append, List.length_singleton]; omega, fun l hl9 => ?_⟩, fun i hi => ?_, fun i hi p hp => ?_, fun l hl9 q hq => ?_⟩
  · rcases List.mem_append.mp hl9 with z | z
    · exact g2.2 l z
    · rw [List.mem_singleton.mp z]; exact ⟨hp1, hp2⟩
  · rw [List.length_append, List.length_singleton] at hi
    by_cases e : i = L.length
    · subst e
      rw [h2, List.getElem_concat_length rfl]
    · rw [List.getElem_append_left (by omega), h4 _ (by omega) (by omega)]
      exact g3 i (by omega)
  · rw [List.length_append, List.length_singleton] at hi
    by_cases e : i = L.length
    · subst e
      simp only [List.getElem_concat_length] at hp ⊢
      exact h3 p hp
    · have hi2 : i < L.length := by omega
      simp only [List.getElem_append_left hi2] at hp ⊢
      have h16 := (g2.2 _ (List.getElem_mem hi2)).2
      rw [h4 _ (by omega) (by omega), h4 _ (by omega) (by omega), h4 _ (by omega) (by omega)]
      exact g4 i hi2 p hp
  · rcases List.mem_append.mp hl9 with z | z
    · exact g5 l z q hq
    · rw [List.mem_singleton.mp z] at hq; exact hok q hq
set_option maxRecDepth 20000 in
set_option maxHeartbeats 1000000 in
theorem l_X5_setLine {c : Nat → VC} {g : VG} {f vs as tx rw ll lt : Nat → Int32} {n th : Int32} {T : List Nat} {ps : List Pl} {j q : Nat} (hj : j < 3) (hq : q < 5) (hX0 : TxR tx T) (hLn : LnR ll lt T ps) {o3 : Option Value} {q4 : Int32} {Q : (Option Value ⊕ Nat) → VH → Prop} (hQ : ∀ c2 d2, RH c2 d2 vs as tx rw ll lt n (nI T.length) th → FrR c c2 → (∀ (p : Nat) (hp : p < ps.length), d2 ((527 + 49 * (5 * j + q)) + 1 + 3 * p) = nI ps[p].1 ∧ d2 ((527 + 49 * (5 * j + q)) + 2 + 3 * p) = nI ps[p].2.1 ∧ d2 ((527 + 49 * (5 * j + q)) + 3 + 3 * p) = nI ps[p].2.2) → (∀ k, k ≤ (527 + 49 * (5 * j + q)) ∨ (527 + 49 * (5 * j + q)) + 49 ≤ k → d2 k = f k) → Xm M_X5_setLine 183 [some (.ref 456), some (.int (nI j)), some (.int (nI q)), o3, some (.int q4), some (.int (nI T.length))] [] (g, c2) Q) : ∀ (m i : Nat) (d9 : Nat → Int32) (c1 : Nat → VC), i ≤ T.length → T.length < i + m → RH c1 d9 vs as tx rw ll lt n (nI T.length) th → FrR c c1 → (∀ (p : Nat) (hp : p < ps.length), p < i → d9 ((527 + 49 * (5 * j + q)) + 1 + 3 * p) = nI ps[p].1 ∧ d9 ((527 + 49 * (5 * j + q)) + 2 + 3 * p) = nI ps[p].2.1 ∧ d9 ((527 + 49 * (5 * j + q)) + 3 + 3 * p) = nI ps[p].2.2) → (∀ k, k ≤ (527 + 49 * (5 * j + q)) ∨ (527 + 49 * (5 * j + q)) + 49 ≤ k → d9 k = f k) → Xm M_X5_setLine 96 [some (.ref 456), some (.int (nI j)), some (.int (nI q)), o3, some (.int q4), some (.int (nI i))] [] (g, c1) Q := by
  obtain ⟨g1, g2, g3⟩ := hLn
  obtain ⟨g4, g5, g6⟩ := hX0
  have hlm : ps.length = T.length := by rw [← g1, List.length_map]
  intro m
  induction m with
  | zero => intro i d9 c1 z1 z2; omega
  | succ m ih =>
    intro i d9 c1 z1 z2 hR1 hF1 hd1 hd2
    obtain ⟨hO, hA, hS, hD, hX, hW, hL, hT⟩ := id hR1
    refine x_iload dX5_setLine_96 rfl ?_
    refine x_aload_n dX5_setLine_98 rfl ?_
    refine x_getfield dX5_setLine_99 rfl (by decide) (by first | assumption | (simp (disch := omega) only [up_s, up_n]; first | assumption | rfl)) rfl ?_
    refine x_icmp_ge 183 dX5_setLine_102 (by decide) (fun c102 => ?_) (fun c102 => ?_)
    · have e1 : i = T.length := by have := (nI_leI (by omega) (by omega)).mp c102; omega
      subst e1
      exact hQ c1 d9 hR1 hF1 (fun p hp => hd1 p hp (by omega)) hd2
    · have hi : i < T.length := by
        by_cases q : i < T.length
        · exact q
        · exact absurd ((nI_leI (by omega) (by omega)).mpr (by omega)) c102
      have hip : i < ps.length := by omega
      have hg3 := g3 i hip
      have hti : tx i = nI ps[i].1 := by
        rw [g6 i hi]
        congr 1
        have e9 : T[i]? = (ps.map (fun q => q.1))[i]? := by rw [g1]
        rw [List.getElem?_map, List.getElem?_eq_getElem hi, List.getElem?_eq_getElem hip] at e9
        exact Option.some.inj e9
      refine x_aload_n dX5_setLine_105 rfl ?_
      refine x_getfield dX5_setLine_106 rfl (by decide) (by first | assumption | (simp (disch := omega) only [up_s, up_n]; first | assumption | rfl)) rfl ?_
      refine x_iload_n dX5_setLine_109 rfl ?_
      refine x_iload_n dX5_setLine_110 rfl ?_
      refine x_cs2 dX5_setLine_111 rfl ?_
      refine Cm.rt s_X5_lineAt ?_
      refine x_iconst (nI 1) dX5_setLine_114 (by decide) ?_
      refine x_iaddN dX5_setLine_115 ?_
      refine x_iconst (nI 3) dX5_setLine_116 (by decide) ?_
      refine x_iload dX5_setLine_117 rfl ?_
      refine x_imulN dX5_setLine_119 ?_
      refine x_iaddN dX5_setLine_120 ?_
      refine x_aload_n dX5_setLine_121 rfl ?_
      refine x_getfield dX5_setLine_122 rfl (by decide) (by first | assumption | (simp (disch := omega) only [up_s, up_n]; first | assumption | rfl)) rfl ?_
      refine x_iload dX5_setLine_125 rfl ?_
      refine x_ialoadN dX5_setLine_127 (by first | assumption | (simp (disch := omega) only [up_s, up_n]; first | assumption | rfl)) (by omega) (by omega) ?_
      rw [hti]
      refine x_iastoreN dX5_setLine_128 (by first | assumption | (simp (disch := omega) only [up_s, up_n]; first | assumption | rfl)) (by omega) (by omega) ?_
      refine x_aload_n dX5_setLine_129 rfl ?_
      refine x_getfield dX5_setLine_130 rfl (by decide) (by first | assumption | (simp (disch := omega) only [up_s, up_n]; first | assumption | rfl)) rfl ?_
      refine x_iload_n dX5_setLine_133 rfl ?_
      refine x_iload_n dX5_setLine_134 rfl ?_
      refine x_cs2 dX5_setLine_135 rfl ?_
      refine Cm.rt s_X5_lineAt ?_
      refine x_iconst (nI 2) dX5_setLine_138 (by decide) ?_
      refine x_iaddN dX5_setLine_139 ?_
      refine x_iconst (nI 3) dX5_setLine_140 (by decide) ?_
      refine x_iload dX5_setLine_141 rfl ?_
      refine x_imulN dX5_setLine_143 ?_
      refine x_iaddN dX5_setLine_144 ?_
      refine x_aload_n dX5_setLine_145 rfl ?_
      refine x_getfield dX5_setLine_146 rfl (by decide) (by first | assumption | (simp (disch := omega) only [up_s, up_n]; first | assumption | rfl)) rfl ?_
      refine x_iload dX5_setLine_149 rfl ?_
      refine x_ialoadN dX5_setLine_151 (by first | assumption | (simp (disch := omega) only [up_s, up_n]; first | assumption | rfl)) (by omega) (by omega) ?_
      rw [hg3.1]
      refine x_iastoreN dX5_setLine_152 (by first | assumption | (simp (disch := omega) only [up_s, up_n]; first | assumption | rfl)) (by omega) (by omega) ?_
      refine x_aload_n dX5_setLine_153 rfl ?_
      refine x_getfield dX5_setLine_154 rfl (by decide) (by first | assumption | (simp (disch := omega) only [up_s, up_n]; first | assumption | rfl)) rfl ?_
      refine x_iload_n dX5_setLine_157 rfl ?_
      refine x_iload_n dX5_setLine_158 rfl ?_
      refine x_cs2 dX5_setLine_159 rfl ?_
      refine Cm.rt s_X5_lineAt ?_
      refine x_iconst (nI 3) dX5_setLine_162 (by decide) ?_
      refine x_iaddN dX5_setLine_163 ?_
      refine x_iconst (nI 3) dX5_setLine_164 (by decide) ?_
      refine x_iload dX5_setLine_165 rfl ?_
      refine x_imulN dX5_setLine_167 ?_
      refine x_iaddN dX5_setLine_168 ?_
      refine x_aload_n dX5_setLine_169 rfl ?_
      refine x_getfield dX5_setLine_170 rfl (by decide) (by first | assumption | (simp (disch := omega) only [up_s, up_n]; first | assumption | rfl)) rfl ?_
      refine x_iload dX5_setLine_173 rfl ?_
      refine x_ialoadN dX5_setLine_175 (by first | assumption | (simp (disch := omega) only [up_s, up_n]; first | assumption | rfl)) (by omega) (by omega) ?_
      rw [hg3.2]
      refine x_iastoreN dX5_setLine_176 (by first | assumption | (simp (disch := omega) only [up_s, up_n]; first | assumption | rfl)) (by omega) (by omega) ?_
      refine x_iincN_5 (1) dX5_setLine_177 (by decide) rfl ?_
      refine x_goto 96 dX5_setLine_180 (by decide) ?_
      refine ih (i + 1) (upd (upd (upd d9 ((527 + 49 * (5 * j + q)) + 1 + 3 * i) (nI ps[i].1)) ((527 + 49 * (5 * j + q)) + 2 + 3 * i) (nI ps[i].2.1)) ((527 + 49 * (5 * j + q)) + 3 + 3 * i) (nI ps[i].2.2)) _ (by omega) (by omega) (((hR1.uA (f' := upd d9 ((527 + 49 * (5 * j + q)) + 1 + 3 * i) (nI ps[i].1))).uA (f' := upd (upd d9 ((527 + 49 * (5 * j + q)) + 1 + 3 * i) (nI ps[i].1)) ((527 + 49 * (5 * j + q)) + 2 + 3 * i) (nI ps[i].2.1))).uA) (((hF1.u (by omega) (by omega)).u (by omega) (by omega)).u (by omega) (by omega)) (fun p hp z3 => ?_) (fun k z3 => ?_)
      · by_cases e : p = i
        · subst e
          refine ⟨?_, ?_, ?_⟩
          · rw [pk_un (by omega), pk_un (by omega), pk_us]
          · rw [pk_un (by omega), pk_us]
          · rw [pk_us]
        · rw [pk_un (by omega), pk_un (by omega), pk_un (by omega), pk_un (by omega), pk_un (by omega), pk_un (by omega), pk_un (by omega), pk_un (by omega), pk_un (by omega)]
          exact hd1 p hp (by omega)
      · rw [pk_un (by omega), pk_un (by omega), pk_un (by omega)]
        exact hd2 k z3
set_option maxRecDepth 20000 in
set_option maxHeartbeats 1000000 in
theorem k_X5_sl183 {c c1 : Nat → VC} {g : VG} {S : St} {f d2 d5 vs as tx rw ll lt : Nat → Int32} {th : Int32} {j : Nat} {r : Bx × List Pl} {hs : List Sg} (hj : j < 3) (hlt5 : (S.1.2.1 j).length < 5) (hR1 : RH c1 d2 vs as tx rw ll lt (nI hs.length) (nI S.2.1.length) th) (hRp : RepA f S.1) (hB : BoxR d5 r.1) (hd5 : ∀ k, 527 ≤ k → d5 k = f k) (hLn : LnR ll lt S.2.1 r.2) (hne : 0 < S.2.1.length) (ha0 : d2 (527 + 49 * (5 * j + (S.1.2.1 j).length)) = nI S.2.1.length) (ha1 : ∀ (p : Nat) (hp : p < r.2.length), d2 (527 + 49 * (5 * j + (S.1.2.1 j).length) + 1 + 3 * p) = nI r.2[p].1 ∧ d2 (527 + 49 * (5 * j + (S.1.2.1 j).length) + 2 + 3 * p) = nI r.2[p].2.1 ∧ d2 (527 + 49 * (5 * j + (S.1.2.1 j).length) + 3 + 3 * p) = nI r.2[p].2.2) (ha2 : ∀ k, k < 527 + 49 * (5 * j + (S.1.2.1 j).length) ∨ 527 + 49 * (5 * j + (S.1.2.1 j).length) + 49 ≤ k → d2 k = d5 k) (hH : HiR vs hs) (hX0 : TxR tx S.2.1) (hF : FrR c c1) {o3 o4 o5 : Option Value} : Xm M_X5_setLine 183 [some (.ref 456), some (.int (nI j)), some (.int (nI (S.1.2.1 j).length)), o3, o4, o5] [] (g, c1) (RQ g c (fun E => if E = 1 then 1 else 2) (Sum.inl (.int (nI (S.1.2.1 j).length))) ((r.1, uf S.1.2.1 j (S.1.2.1 j ++ [r.2]), S.1.2.2.1, n1 S.1, n2 S.1, n3 S.1, n4 S.1 + nI S.2.1.length, n5 S.1), S.2.1, hs)) := by
  obtain ⟨u1, u2, u3, u4, u5⟩ := hRp.2.2.2
  obtain ⟨hO, hA, hS, hD, hX, hW, hL, hT⟩ := id hR1
  have hLj := hRp.2.1 j hj
  have hm := hLj.1
  have h16 := hX0.1
  have hlm : r.2.length = S.2.1.length := by rw [← hLn.1, List.length_map]
  refine x_aload_n dX5_setLine_183 rfl ?_
  refine x_getfield dX5_setLine_184 rfl (by decide) (by first | assumption | (simp (disch := omega) only [up_s, up_n]; first | assumption | rfl)) rfl ?_
  refine x_sipush (nI 1262) dX5_setLine_187 (by decide) ?_
  refine x_iload_n dX5_setLine_190 rfl ?_
  refine x_iaddN dX5_setLine_191 ?_
  refine x_dup2 dX5_setLine_192 rfl rfl ?_
  refine x_ialoadN dX5_setLine_193 (by first | assumption | (simp (disch := omega) only [up_s, up_n]; first | assumption | rfl)) (by omega) (by omega) ?_
  rw [ha2 _ (by omega), hd5 _ (by omega), hm]
  refine x_iconst (nI 1) dX5_setLine_194 (by decide) ?_
  refine x_iaddN dX5_setLine_195 ?_
  refine x_iastoreN dX5_setLine_196 (by first | assumption | (simp (disch := omega) only [up_s, up_n]; first | assumption | rfl)) (by omega) (by omega) ?_
  refine x_aload_n dX5_setLine_197 rfl ?_
  refine x_getfield dX5_setLine_198 rfl (by decide) (by first | assumption | (simp (disch := omega) only [up_s, up_n]; first | assumption | rfl)) rfl ?_
  refine x_sipush (nI 1519) dX5_setLine_201 (by decide) ?_
  refine x_dup2 dX5_setLine_204 rfl rfl ?_
  refine x_ialoadN dX5_setLine_205 (by first | assumption | (simp (disch := omega) only [up_s, up_n]; first | assumption | rfl)) (by omega) (by omega) ?_
  refine x_aload_n dX5_setLine_206 rfl ?_
  refine x_getfield dX5_setLine_207 rfl (by decide) (by first | assumption | (simp (disch := omega) only [up_s, up_n]; first | assumption | rfl)) rfl ?_
  refine x_iadd dX5_setLine_210 ?_
  refine x_iastoreN dX5_setLine_211 (by first | assumption | (simp (disch := omega) only [up_s, up_n]; first | assumption | rfl)) (by omega) (by omega) ?_
  refine x_aload_n dX5_setLine_212 rfl ?_
  refine x_iload_n dX5_setLine_213 rfl ?_
  refine x_cv2 dX5_setLine_214 rfl (by first | assumption | (simp (disch := omega) only [up_s, up_n]; first | assumption | rfl)) rfl ?_
  refine Cm.ei (s_X5_fine ((hR1.uA (f' := upd d2 (1262 + j) (nI ((S.1.2.1 j).length + 1)))).uA)) (fun w c9 q9 => ?_)
  obtain ⟨rfl, w1, w2⟩ := q9
  refine x_ireturn dX5_setLine_217 ?_
  have hx : ∀ k, 527 ≤ k → k ≠ 1519 → k ≠ 1262 + j → (k < 527 + 49 * (5 * j + (S.1.2.1 j).length) ∨ 527 + 49 * (5 * j + (S.1.2.1 j).length) + 49 ≤ k) → upd (upd d2 (1262 + j) (nI ((S.1.2.1 j).length + 1))) 1519 (upd d2 (1262 + j) (nI ((S.1.2.1 j).length + 1)) 1519 + nI S.2.1.length) k = f k := fun k z1 z2 z3 z4 => by
    rw [pk_un z2, pk_un z3, ha2 k z4]; exact hd5 k z1
  refine ⟨_, c9, 0, rfl, rfl, ⟨_, vs, as, tx, rw, ll, lt, w1, hRp.fo hj (hB.fr (fun k hk => by rw [pk_un (by omega), pk_un (by omega), ha2 k (by omega)])) (hLj.snoc hlt5 (by omega) (by omega) hLn.2.1 (by rw [pk_un (by omega), pk_us]) (by rw [pk_un (by omega), pk_un (by omega), ha0, hlm]) (fun p hp => ?_) (fun k z1 z2 => hx k (by omega) (by omega) (by omega) (Or.inl z2))) (fun k z1 z2 z3 z4 => ?_) ?_ ?_ ?_ ?_ ?_, hH, hX0⟩, ((hF.u (by omega) (by omega)).u (by omega) (by omega)).tr w2, rfl, rfl⟩
  · rw [pk_un (by omega), pk_un (by omega), pk_un (by omega), pk_un (by omega), pk_un (by omega), pk_un (by omega)]
    exact ha1 p hp
  · by_cases e : k = 1519
    · omega
    · exact hx k z1 e z4 (by omega)
  · rw [hx _ (by omega) (by omega) (by omega) (by omega), u1]
  · rw [hx _ (by omega) (by omega) (by omega) (by omega), u2]
  · rw [hx _ (by omega) (by omega) (by omega) (by omega), u3]
  · rw [pk_us, pk_un (by omega), ha2 _ (by omega), hd5 _ (by omega), u4]
  · rw [hx _ (by omega) (by omega) (by omega) (by omega), u5]
set_option maxRecDepth 20000 in
set_option maxHeartbeats 2000000 in
theorem s_X5_setLine {c : Nat → VC} {g : VG} {S : St} {th : Int32} (h : RefAt c S th) {l : Int32} : Cm k_X5_setLine [.ref 456, .int l] (g, c) (RQ g c (fun E => if E = 1 then 1 else 2) (setLineM l S).1 (setLineM l S).2) := by
  obtain ⟨f, vs, as, tx, rw, ll, lt, hR, hRp, hH, hX0⟩ := h
  obtain ⟨hO, hA, hS, hD, hX, hW, hL, hT⟩ := id hR
  obtain ⟨u1, u2, u3, u4, u5⟩ := hRp.2.2.2
  cases e1 : ix l 3 with
  | none =>
    have hM : setLineM l S = (Sum.inr 1, S) := by simp only [setLineM, e1]
    rw [hM]
    refine Cm.in (M := M_X5_setLine) (ls := [some (.ref 456), some (.int l), none, none, none, none]) rfl rfl ?_
    refine x_iload_n dX5_setLine_0 rfl ?_
    refine x_cs1 dX5_setLine_1 rfl ?_
    refine Cm.rt s_X5_isForme ?_
    rw [e1]
    refine x_if_ne 13 dX5_setLine_4 (by decide) (fun c4 => ?_) (fun c4 => ?_)
    · exact absurd rfl c4
    · refine x_aload_n dX5_setLine_7 rfl ?_
      refine x_iconst (nI 1) dX5_setLine_8 (by decide) ?_
      refine x_cv2 dX5_setLine_9 rfl (by first | assumption | (simp (disch := omega) only [up_s, up_n]; first | assumption | rfl)) rfl ?_
      refine Cm.ei (s_X5_throwing hR) (fun w c9 q9 => ?_)
      obtain ⟨rfl, w1, w2⟩ := q9
      refine x_ireturn dX5_setLine_12 ?_
      exact ⟨_, c9, 1, rfl, rfl, ⟨f, vs, as, tx, rw, ll, lt, w1, hRp, hH, hX0⟩, w2, rfl, rfl⟩
  | some j =>
    obtain ⟨hj, rfl⟩ := ix_some (by omega) e1
    have hLj := hRp.2.1 j hj
    have hm := hLj.1
    have h5 := hLj.2.1.1
    by_cases hlt5 : (S.1.2.1 j).length < 5
    · cases e3 : goesM S.2.1 S.1.1 with
      | none =>
        have hM : setLineM (nI j) S = (Sum.inr 3, S) := by simp only [setLineM, e1, if_pos hlt5, e3]
        rw [hM]
        refine Cm.in (M := M_X5_setLine) (ls := [some (.ref 456), some (.int (nI j)), none, none, none, none]) rfl rfl ?_
        refine x_iload_n dX5_setLine_0 rfl ?_
        refine x_cs1 dX5_setLine_1 rfl ?_
        refine Cm.rt s_X5_isForme ?_
        rw [e1]
        refine x_if_ne 13 dX5_setLine_4 (by decide) (fun c4 => ?_) (fun c4 => ?_)
        · refine x_aload_n dX5_setLine_13 rfl ?_
          refine x_getfield dX5_setLine_14 rfl (by decide) (by first | assumption | (simp (disch := omega) only [up_s, up_n]; first | assumption | rfl)) rfl ?_
          refine x_sipush (nI 1262) dX5_setLine_17 (by decide) ?_
          refine x_iload_n dX5_setLine_20 rfl ?_
          refine x_iaddN dX5_setLine_21 ?_
          refine x_ialoadN dX5_setLine_22 (by first | assumption | (simp (disch := omega) only [up_s, up_n]; first | assumption | rfl)) (by omega) (by omega) ?_
          rw [hm]
          refine x_istore_n2 dX5_setLine_23 rfl ?_
          refine x_aload_n dX5_setLine_24 rfl ?_
          refine x_cv1 dX5_setLine_25 rfl (by first | assumption | (simp (disch := omega) only [up_s, up_n]; first | assumption | rfl)) rfl ?_
          refine Cm.ev (s_X5_laysAside hR) (fun c1 q1 => ?_)
          obtain ⟨a1, hR1, hF1, ha1⟩ := q1
          obtain ⟨hO1, hA1, hS1, hD1, hX1, hW1, hL1, hT1⟩ := id hR1
          refine x_iload_n dX5_setLine_28 rfl ?_
          refine x_iconst (nI 5) dX5_setLine_29 (by decide) ?_
          refine x_icmp_ge 44 dX5_setLine_30 (by decide) (fun c30 => ?_) (fun c30 => ?_)
          · exact absurd ((nI_leI (by omega) (by omega)).mp c30) (by omega)
          · refine x_aload_n dX5_setLine_33 rfl ?_
            refine x_cv1 dX5_setLine_34 rfl (by first | assumption | (simp (disch := omega) only [up_s, up_n]; first | assumption | rfl)) rfl ?_
            refine Cm.ei (s_X5_sets hR1 hX0 hRp.1) (fun v c2 q2 => ?_)
            rw [e3] at q2
            obtain ⟨rfl, f2, l2, t2, hR2, hF2, hf2⟩ := q2
            obtain ⟨hO2, hA2, hS2, hD2, hX2, hW2, hL2, hT2⟩ := id hR2
            refine x_if_eq 44 dX5_setLine_37 (by decide) (fun c37 => ?_) (fun c37 => ?_)
            · refine x_iconst (nI 0) dX5_setLine_44 (by decide) ?_
              refine x_istore_n3 dX5_setLine_45 rfl ?_
              refine x_aload_n dX5_setLine_46 rfl ?_
              refine x_cv1 dX5_setLine_47 rfl (by first | assumption | (simp (disch := omega) only [up_s, up_n]; first | assumption | rfl)) rfl ?_
              refine Cm.ev (s_X5_takesBack hR2) (fun c3 q3 => ?_)
              obtain ⟨f3, hR3, hF3, hf3⟩ := q3
              have hRp3 : RepA f3 S.1 := hRp.fr (fun k hk => by rw [hf3 k hk, ha1 k hk])
              have hF03 : FrR c c3 := (hF1.tr hF2).tr hF3
              obtain ⟨hO3, hA3, hS3, hD3, hX3, hW3, hL3, hT3⟩ := id hR3
              refine x_iload_n dX5_setLine_50 rfl ?_
              refine x_if_ne 60 dX5_setLine_51 (by decide) (fun c51 => ?_) (fun c51 => ?_)
              · exact absurd rfl c51
              · refine x_aload_n dX5_setLine_54 rfl ?_
                refine x_iconst (nI 2) dX5_setLine_55 (by decide) ?_
                refine x_cv2 dX5_setLine_56 rfl (by first | assumption | (simp (disch := omega) only [up_s, up_n]; first | assumption | rfl)) rfl ?_
                refine Cm.ei (s_X5_throwing hR3) (fun w c9 q9 => ?_)
                obtain ⟨rfl, w1, w2⟩ := q9
                refine x_ireturn dX5_setLine_59 ?_
                exact ⟨_, c9, 2, rfl, rfl, ⟨f3, vs, a1, tx, rw, l2, t2, w1, hRp3, hH, hX0⟩, hF03.tr w2, rfl, rfl⟩
            · exact absurd rfl c37
        · exact absurd (show bV true = 0 from c4) (by decide)
      | some r =>
        have hM : setLineM (nI j) S = (Sum.inl (.int (nI (S.1.2.1 j).length)), sv S (r.1, uf S.1.2.1 j (S.1.2.1 j ++ [r.2]), S.1.2.2.1, n1 S.1, n2 S.1, n3 S.1, n4 S.1 + nI S.2.1.length, n5 S.1)) := by simp only [setLineM, e1, if_pos hlt5, e3]
        rw [hM]
        have h0 := (goes_SB hX0.2.1 e3).2
        have h16 := hX0.1
        refine Cm.in (M := M_X5_setLine) (ls := [some (.ref 456), some (.int (nI j)), none, none, none, none]) rfl rfl ?_
        refine x_iload_n dX5_setLine_0 rfl ?_
        refine x_cs1 dX5_setLine_1 rfl ?_
        refine Cm.rt s_X5_isForme ?_
        rw [e1]
        refine x_if_ne 13 dX5_setLine_4 (by decide) (fun c4 => ?_) (fun c4 => ?_)
        · refine x_aload_n dX5_setLine_13 rfl ?_
          refine x_getfield dX5_setLine_14 rfl (by decide) (by first | assumption | (simp (disch := omega) only [up_s, up_n]; first | assumption | rfl)) rfl ?_
          refine x_sipush (nI 1262) dX5_setLine_17 (by decide) ?_
          refine x_iload_n dX5_setLine_20 rfl ?_
          refine x_iaddN dX5_setLine_21 ?_
          refine x_ialoadN dX5_setLine_22 (by first | assumption | (simp (disch := omega) only [up_s, up_n]; first | assumption | rfl)) (by omega) (by omega) ?_
          rw [hm]
          refine x_istore_n2 dX5_setLine_23 rfl ?_
          refine x_aload_n dX5_setLine_24 rfl ?_
          refine x_cv1 dX5_setLine_25 rfl (by first | assumption | (simp (disch := omega) only [up_s, up_n]; first | assumption | rfl)) rfl ?_
          refine Cm.ev (s_X5_laysAside hR) (fun c1 q1 => ?_)
          obtain ⟨a1, hR1, hF1, ha1⟩ := q1
          obtain ⟨hO1, hA1, hS1, hD1, hX1, hW1, hL1, hT1⟩ := id hR1
          refine x_iload_n dX5_setLine_28 rfl ?_
          refine x_iconst (nI 5) dX5_setLine_29 (by decide) ?_
          refine x_icmp_ge 44 dX5_setLine_30 (by decide) (fun c30 => ?_) (fun c30 => ?_)
          · exact absurd ((nI_leI (by omega) (by omega)).mp c30) (by omega)
          · refine x_aload_n dX5_setLine_33 rfl ?_
            refine x_cv1 dX5_setLine_34 rfl (by first | assumption | (simp (disch := omega) only [up_s, up_n]; first | assumption | rfl)) rfl ?_
            refine Cm.ei (s_X5_sets hR1 hX0 hRp.1) (fun v c2 q2 => ?_)
            rw [e3] at q2
            obtain ⟨rfl, f2, l2, t2, hR2, hF2, hf2, hB2, hLn2⟩ := q2
            obtain ⟨hO2, hA2, hS2, hD2, hX2, hW2, hL2, hT2⟩ := id hR2
            refine x_if_eq 44 dX5_setLine_37 (by decide) (fun c37 => ?_) (fun c37 => ?_)
            · exact absurd c37 (by decide)
            · refine x_iconst (nI 1) dX5_setLine_40 (by decide) ?_
              refine x_goto 45 dX5_setLine_41 (by decide) ?_
              refine x_istore_n3 dX5_setLine_45 rfl ?_
              refine x_aload_n dX5_setLine_46 rfl ?_
              refine x_cv1 dX5_setLine_47 rfl (by first | assumption | (simp (disch := omega) only [up_s, up_n]; first | assumption | rfl)) rfl ?_
              refine Cm.ev (s_X5_takesBack hR2) (fun c3 q3 => ?_)
              obtain ⟨f3, hR3, hF3, hf3⟩ := q3
              have hRp3 : RepA f3 S.1 := hRp.fr (fun k hk => by rw [hf3 k hk, ha1 k hk])
              have hF03 : FrR c c3 := (hF1.tr hF2).tr hF3
              obtain ⟨hO3, hA3, hS3, hD3, hX3, hW3, hL3, hT3⟩ := id hR3
              refine x_iload_n dX5_setLine_50 rfl ?_
              refine x_if_ne 60 dX5_setLine_51 (by decide) (fun c51 => ?_) (fun c51 => ?_)
              · refine x_aload_n dX5_setLine_60 rfl ?_
                refine x_cv1 dX5_setLine_61 rfl (by first | assumption | (simp (disch := omega) only [up_s, up_n]; first | assumption | rfl)) rfl ?_
                refine Cm.ev (s_X5_save hR3 hH hRp3) (fun c4 q4 => ?_)
                obtain ⟨v4, hR4, hF4, hH4⟩ := q4
                obtain ⟨hO4, hA4, hS4, hD4, hX4, hW4, hL4, hT4⟩ := id hR4
                refine x_aload_n dX5_setLine_64 rfl ?_
                refine x_cv1 dX5_setLine_65 rfl (by first | assumption | (simp (disch := omega) only [up_s, up_n]; first | assumption | rfl)) rfl ?_
                refine Cm.ei (s_X5_sets hR4 hX0 hRp3.1) (fun v c5 q5 => ?_)
                rw [e3] at q5
                obtain ⟨rfl, f5, l5, t5, hR5, hF5, hf5, hB5, hLn5⟩ := q5
                obtain ⟨hO5, hA5, hS5, hD5, hX5, hW5, hL5, hT5⟩ := id hR5
                refine x_istore_4 dX5_setLine_68 rfl ?_
                refine x_aload_n dX5_setLine_70 rfl ?_
                refine x_getfield dX5_setLine_71 rfl (by decide) (by first | assumption | (simp (disch := omega) only [up_s, up_n]; first | assumption | rfl)) rfl ?_
                refine x_iload_n dX5_setLine_74 rfl ?_
                refine x_iload_n dX5_setLine_75 rfl ?_
                refine x_cs2 dX5_setLine_76 rfl ?_
                refine Cm.rt s_X5_lineAt ?_
                refine x_iload dX5_setLine_79 rfl ?_
                refine x_if_eq 91 dX5_setLine_81 (by decide) (fun c81 => ?_) (fun c81 => ?_)
                · exact absurd c81 (by decide)
                · refine x_aload_n dX5_setLine_84 rfl ?_
                  refine x_getfield dX5_setLine_85 rfl (by decide) (by first | assumption | (simp (disch := omega) only [up_s, up_n]; first | assumption | rfl)) rfl ?_
                  refine x_goto 92 dX5_setLine_88 (by decide) ?_
                  refine x_iastoreN dX5_setLine_92 (by first | assumption | (simp (disch := omega) only [up_s, up_n]; first | assumption | rfl)) (by omega) (by omega) ?_
                  refine x_iconst (nI 0) dX5_setLine_93 (by decide) ?_
                  refine x_istore_5 dX5_setLine_94 rfl ?_
                  refine l_X5_setLine (c := c5) (f := upd f5 (527 + 49 * (5 * j + (S.1.2.1 j).length)) (nI S.2.1.length)) hj hlt5 hX0 hLn5 (fun c6 d6 w1 w2 w3 w4 => ?_) (S.2.1.length + 1) 0 _ _ (Nat.zero_le _) (by omega) hR5.uA (FrR.w (by omega) (by omega)) (fun p hp z => absurd z (Nat.not_lt_zero p)) (fun k _ => rfl)
                  exact k_X5_sl183 (r := r) (hs := saveH S.2.2 S.1) hj hlt5 w1 hRp3 hB5 hf5 hLn5 h0 (by rw [w4 _ (by omega), pk_us]) w3 (fun k z => by rw [w4 k (by omega), pk_un (by omega)]) hH4 hX0 (((hF03.tr hF4).tr hF5).tr w2)
              · exact absurd c51 (by decide)
        · exact absurd (show bV true = 0 from c4) (by decide)
    · have hM : setLineM (nI j) S = (Sum.inr 3, S) := by simp only [setLineM, e1, if_neg hlt5]
      rw [hM]
      refine Cm.in (M := M_X5_setLine) (ls := [some (.ref 456), some (.int (nI j)), none, none, none, none]) rfl rfl ?_
      refine x_iload_n dX5_setLine_0 rfl ?_
      refine x_cs1 dX5_setLine_1 rfl ?_
      refine Cm.rt s_X5_isForme ?_
      rw [e1]
      refine x_if_ne 13 dX5_setLine_4 (by decide) (fun c4 => ?_) (fun c4 => ?_)
      · refine x_aload_n dX5_setLine_13 rfl ?_
        refine x_getfield dX5_setLine_14 rfl (by decide) (by first | assumption | (simp (disch := omega) only [up_s, up_n]; first | assumption | rfl)) rfl ?_
        refine x_sipush (nI 1262) dX5_setLine_17 (by decide) ?_
        refine x_iload_n dX5_setLine_20 rfl ?_
        refine x_iaddN dX5_setLine_21 ?_
        refine x_ialoadN dX5_setLine_22 (by first | assumption | (simp (disch := omega) only [up_s, up_n]; first | assumption | rfl)) (by omega) (by omega) ?_
        rw [hm]
        refine x_istore_n2 dX5_setLine_23 rfl ?_
        refine x_aload_n dX5_setLine_24 rfl ?_
        refine x_cv1 dX5_setLine_25 rfl (by first | assumption | (simp (disch := omega) only [up_s, up_n]; first | assumption | rfl)) rfl ?_
        refine Cm.ev (s_X5_laysAside hR) (fun c1 q1 => ?_)
        obtain ⟨a1, hR1, hF1, ha1⟩ := q1
        obtain ⟨hO1, hA1, hS1, hD1, hX1, hW1, hL1, hT1⟩ := id hR1
        refine x_iload_n dX5_setLine_28 rfl ?_
        refine x_iconst (nI 5) dX5_setLine_29 (by decide) ?_
        refine x_icmp_ge 44 dX5_setLine_30 (by decide) (fun c30 => ?_) (fun c30 => ?_)
        · refine x_iconst (nI 0) dX5_setLine_44 (by decide) ?_
          refine x_istore_n3 dX5_setLine_45 rfl ?_
          refine x_aload_n dX5_setLine_46 rfl ?_
          refine x_cv1 dX5_setLine_47 rfl (by first | assumption | (simp (disch := omega) only [up_s, up_n]; first | assumption | rfl)) rfl ?_
          refine Cm.ev (s_X5_takesBack hR1) (fun c3 q3 => ?_)
          obtain ⟨f3, hR3, hF3, hf3⟩ := q3
          have hRp3 : RepA f3 S.1 := hRp.fr (fun k hk => by rw [hf3 k hk, ha1 k hk])
          have hF03 : FrR c c3 := (hF1).tr hF3
          obtain ⟨hO3, hA3, hS3, hD3, hX3, hW3, hL3, hT3⟩ := id hR3
          refine x_iload_n dX5_setLine_50 rfl ?_
          refine x_if_ne 60 dX5_setLine_51 (by decide) (fun c51 => ?_) (fun c51 => ?_)
          · exact absurd rfl c51
          · refine x_aload_n dX5_setLine_54 rfl ?_
            refine x_iconst (nI 2) dX5_setLine_55 (by decide) ?_
            refine x_cv2 dX5_setLine_56 rfl (by first | assumption | (simp (disch := omega) only [up_s, up_n]; first | assumption | rfl)) rfl ?_
            refine Cm.ei (s_X5_throwing hR3) (fun w c9 q9 => ?_)
            obtain ⟨rfl, w1, w2⟩ := q9
            refine x_ireturn dX5_setLine_59 ?_
            exact ⟨_, c9, 2, rfl, rfl, ⟨f3, vs, a1, tx, rw, ll, lt, w1, hRp3, hH, hX0⟩, hF03.tr w2, rfl, rfl⟩
        · exact absurd ((nI_leI (by omega) (by omega)).mpr (by omega)) c30
      · exact absurd (show bV true = 0 from c4) (by decide)
def RefI (c : Nat → VC) (f : Nat → Int32) : Prop := RH c f (fun _ => 0) (fun _ => 0) (fun _ => 0) (fun _ => 0) (fun _ => 0) (fun _ => 0) 0 0 0
theorem rep0 {f : Nat → Int32} (h1 : ∀ k, k < 250 → f k = -1) (h2 : ∀ k, k < 27 → f (500 + k) = -1) (h3 : ∀ k, 527 ≤ k → k ≠ 1517 → f k = 0) (h4 : f 1517 = nI 3) : RepA f σ0 := by
  refine ⟨⟨fun _ => [], fun b hb => h2 b hb, fun b hb => rfl, fun b hb s hs => absurd hs (by simp), fun b hb => List.nodup_nil, fun b d hb hd hne s hs => absurd hs (by simp), fun s hs _ => h1 s hs, fun b hb x hx => absurd hx (by simp [σ0])⟩, fun j hj => ForR.nil (h3 _ (by omega) (by omega)), ⟨h3 _ (by omega) (by omega), Nat.zero_le _, fun x hx => absurd hx (by simp [σ0]), fun i hi => absurd hi (Nat.not_lt_zero i)⟩, h3 _ (by omega) (by omega), h4, h3 _ (by omega) (by omega), h3 _ (by omega) (by omega), h3 _ (by omega) (by omega)⟩
set_option maxRecDepth 20000 in
set_option maxHeartbeats 1000000 in
theorem k_X5_init90 {c : Nat → VC} {k s : Nat} : ∀ (m i : Nat) (d9 : Nat → Int32) (c1 : Nat → VC), i ≤ 27 → 27 < i + m → RefI c1 d9 → FrR c c1 → (∀ q, q < 250 → d9 q = -1) → (∀ q, q < i → d9 (500 + q) = -1) → (∀ q, 527 ≤ q → d9 q = 0) → Xm M_X5_init 90 [some (.ref 456), some (.int (nI i))] [] ((464, true, k + 7, s + 9550), c1) (Ev (464, true, k + 7, s + 9550) (fun c' => RefAt c' (σ0, [], []) 0 ∧ FrR c c')) := by
  intro m
  induction m with
  | zero => intro i d9 c1 z1 z2; omega
  | succ m ih =>
    intro i d9 c1 z1 z2 hR1 hF1 hd1 hd2 hd3
    obtain ⟨hO, hA, hS, hD, hX, hW, hL, hT⟩ := id hR1
    refine x_iload_n dX5_init_90 rfl ?_
    refine x_bipush (nI 27) dX5_init_91 (by decide) ?_
    refine x_icmp_ge 113 dX5_init_93 (by decide) (fun c93 => ?_) (fun c93 => ?_)
    · refine x_aload_n dX5_init_113 rfl ?_
      refine x_getfield dX5_init_114 rfl (by decide) (by first | assumption | (simp (disch := omega) only [up_s, up_n]; first | assumption | rfl)) rfl ?_
      refine x_sipush (nI 1517) dX5_init_117 (by decide) ?_
      refine x_iconst (nI 3) dX5_init_120 (by decide) ?_
      refine x_iastoreN dX5_init_121 (by first | assumption | (simp (disch := omega) only [up_s, up_n]; first | assumption | rfl)) (by omega) (by omega) ?_
      refine x_return dX5_init_122 ?_
      have e1 : i = 27 := by have := (nI_leI (by omega) (by omega)).mp c93; omega
      subst e1
      refine ⟨_, rfl, rfl, ⟨_, _, _, _, _, _, _, hR1.uA, rep0 (fun q hq => ?_) (fun q hq => ?_) (fun q hq hq2 => ?_) pk_us, ⟨Nat.zero_le _, fun i hi => absurd hi (Nat.not_lt_zero i)⟩, ⟨Nat.zero_le _, fun x hx => absurd hx (by simp), fun i hi => absurd hi (Nat.not_lt_zero i)⟩⟩, hF1.u (by omega) (by omega)⟩
      · rw [pk_un (by omega)]; exact hd1 q hq
      · rw [pk_un (by omega)]; exact hd2 q hq
      · rw [pk_un hq2]; exact hd3 q hq
    · have hi : i < 27 := by
        by_cases q : i < 27
        · exact q
        · exact absurd ((nI_leI (by omega) (by omega)).mpr (by omega)) c93
      refine x_aload_n dX5_init_96 rfl ?_
      refine x_getfield dX5_init_97 rfl (by decide) (by first | assumption | (simp (disch := omega) only [up_s, up_n]; first | assumption | rfl)) rfl ?_
      refine x_sipush (nI 500) dX5_init_100 (by decide) ?_
      refine x_iload_n dX5_init_103 rfl ?_
      refine x_iaddN dX5_init_104 ?_
      refine x_iconst (-1) dX5_init_105 (by decide) ?_
      refine x_iastoreN dX5_init_106 (by first | assumption | (simp (disch := omega) only [up_s, up_n]; first | assumption | rfl)) (by omega) (by omega) ?_
      refine x_iincN_1 (1) dX5_init_107 (by decide) rfl ?_
      refine x_goto 90 dX5_init_110 (by decide) ?_
      refine ih (i + 1) _ _ (by omega) (by omega) hR1.uA (hF1.u (by omega) (by omega)) (fun q hq => ?_) (fun q hq => ?_) (fun q hq => ?_)
      · rw [pk_un (by omega)]; exact hd1 q hq
      · by_cases e : q = i
        · subst e; rw [pk_us]
        · rw [pk_un (by omega)]; exact hd2 q (by omega)
      · rw [pk_un (by omega)]; exact hd3 q hq
set_option maxRecDepth 20000 in
set_option maxHeartbeats 1000000 in
theorem k_X5_init66 {c : Nat → VC} {k s : Nat} : ∀ (m i : Nat) (d9 : Nat → Int32) (c1 : Nat → VC), i ≤ 250 → 250 < i + m → RefI c1 d9 → FrR c c1 → (∀ q, q < i → d9 q = -1) → (∀ q, 527 ≤ q → d9 q = 0) → Xm M_X5_init 66 [some (.ref 456), some (.int (nI i))] [] ((464, true, k + 7, s + 9550), c1) (Ev (464, true, k + 7, s + 9550) (fun c' => RefAt c' (σ0, [], []) 0 ∧ FrR c c')) := by
  intro m
  induction m with
  | zero => intro i d9 c1 z1 z2; omega
  | succ m ih =>
    intro i d9 c1 z1 z2 hR1 hF1 hd1 hd3
    obtain ⟨hO, hA, hS, hD, hX, hW, hL, hT⟩ := id hR1
    refine x_iload_n dX5_init_66 rfl ?_
    refine x_sipush (nI 250) dX5_init_67 (by decide) ?_
    refine x_icmp_ge 88 dX5_init_70 (by decide) (fun c70 => ?_) (fun c70 => ?_)
    · refine x_iconst (nI 0) dX5_init_88 (by decide) ?_
      refine x_istore_n1 dX5_init_89 rfl ?_
      have e1 : i = 250 := by have := (nI_leI (by omega) (by omega)).mp c70; omega
      subst e1
      exact k_X5_init90 28 0 d9 c1 (by omega) (by omega) hR1 hF1 hd1 (fun q hq => absurd hq (Nat.not_lt_zero q)) hd3
    · have hi : i < 250 := by
        by_cases q : i < 250
        · exact q
        · exact absurd ((nI_leI (by omega) (by omega)).mpr (by omega)) c70
      refine x_aload_n dX5_init_73 rfl ?_
      refine x_getfield dX5_init_74 rfl (by decide) (by first | assumption | (simp (disch := omega) only [up_s, up_n]; first | assumption | rfl)) rfl ?_
      refine x_iconst (nI 0) dX5_init_77 (by decide) ?_
      refine x_iload_n dX5_init_78 rfl ?_
      refine x_iaddN dX5_init_79 ?_
      refine x_iconst (-1) dX5_init_80 (by decide) ?_
      refine x_iastoreN dX5_init_81 (by first | assumption | (simp (disch := omega) only [up_s, up_n]; first | assumption | rfl)) (by omega) (by omega) ?_
      refine x_iincN_1 (1) dX5_init_82 (by decide) rfl ?_
      refine x_goto 66 dX5_init_85 (by decide) ?_
      refine ih (i + 1) _ _ (by omega) (by omega) hR1.uA (hF1.u (by omega) (by omega)) (fun q hq => ?_) (fun q hq => ?_)
      · by_cases e : q = i
        · subst e; rw [Nat.zero_add, pk_us]
        · rw [pk_un (by omega)]; exact hd1 q (by omega)
      · rw [pk_un (by omega)]; exact hd3 q hq
set_option maxRecDepth 20000 in
set_option maxHeartbeats 1000000 in
theorem s_X5_init {c : Nat → VC} {k s : Nat} (hc : c 456 = cO 5 (dfl 5)) : Cm k_X5_init [.ref 456] ((457, true, k, s), c) (Ev (464, true, k + 7, s + 9550) (fun c' => RefAt c' (σ0, [], []) 0 ∧ FrR c c')) := by
  refine Cm.in (M := M_X5_init) (ls := [some (.ref 456), none]) rfl rfl ?_
  refine x_aload_n dX5_init_0 rfl ?_
  refine x_objinit dX5_init_1 rfl ?_
  refine x_aload_n dX5_init_4 rfl ?_
  refine x_sipush (nI 1542) dX5_init_5 (by decide) ?_
  refine x_newIN dX5_init_8 (by decide) ?_
  refine x_putfield0 dX5_init_10 rfl (by first | assumption | (simp (disch := omega) only [up_s, up_n]; first | assumption | exact hc | rfl)) rfl ?_
  refine x_aload_n dX5_init_13 rfl ?_
  refine x_sipush (nI 6168) dX5_init_14 (by decide) ?_
  refine x_newIN dX5_init_17 (by decide) ?_
  refine x_putfield1 dX5_init_19 rfl (by first | assumption | (simp (disch := omega) only [up_s, up_n]; first | assumption | exact hc | rfl)) rfl ?_
  refine x_aload_n dX5_init_22 rfl ?_
  refine x_sipush (nI 1542) dX5_init_23 (by decide) ?_
  refine x_newIN dX5_init_26 (by decide) ?_
  refine x_putfield2 dX5_init_28 rfl (by first | assumption | (simp (disch := omega) only [up_s, up_n]; first | assumption | exact hc | rfl)) rfl ?_
  refine x_aload_n dX5_init_31 rfl ?_
  refine x_bipush (nI 16) dX5_init_32 (by decide) ?_
  refine x_newIN dX5_init_34 (by decide) ?_
  refine x_putfield4 dX5_init_36 rfl (by first | assumption | (simp (disch := omega) only [up_s, up_n]; first | assumption | exact hc | rfl)) rfl ?_
  refine x_aload_n dX5_init_39 rfl ?_
  refine x_sipush (nI 250) dX5_init_40 (by decide) ?_
  refine x_newIN dX5_init_43 (by decide) ?_
  refine x_putfield6 dX5_init_45 rfl (by first | assumption | (simp (disch := omega) only [up_s, up_n]; first | assumption | exact hc | rfl)) rfl ?_
  refine x_aload_n dX5_init_48 rfl ?_
  refine x_bipush (nI 16) dX5_init_49 (by decide) ?_
  refine x_newIN dX5_init_51 (by decide) ?_
  refine x_putfield8 dX5_init_53 rfl (by first | assumption | (simp (disch := omega) only [up_s, up_n]; first | assumption | exact hc | rfl)) rfl ?_
  refine x_aload_n dX5_init_56 rfl ?_
  refine x_bipush (nI 16) dX5_init_57 (by decide) ?_
  refine x_newIN dX5_init_59 (by decide) ?_
  refine x_putfield9 dX5_init_61 rfl (by first | assumption | (simp (disch := omega) only [up_s, up_n]; first | assumption | exact hc | rfl)) rfl ?_
  refine x_iconst (nI 0) dX5_init_64 (by decide) ?_
  refine x_istore_n1 dX5_init_65 rfl ?_
  refine k_X5_init66 251 0 (fun _ => 0) _ (by omega) (by omega) ⟨?_, ?_, ?_, ?_, ?_, ?_, ?_, ?_⟩ (fun q hq => ?_) (fun q hq => absurd hq (Nat.not_lt_zero q)) (fun q _ => rfl)
  · simp (disch := omega) only [RO, up_s, up_n]; rfl
  · simp (disch := omega) only [AA, up_s, up_n]
  · simp (disch := omega) only [up_s, up_n]
  · simp (disch := omega) only [up_s, up_n]
  · simp (disch := omega) only [up_s, up_n]
  · simp (disch := omega) only [up_s, up_n]
  · simp (disch := omega) only [up_s, up_n]
  · simp (disch := omega) only [up_s, up_n]
  · simp (disch := omega) only [up_n]
