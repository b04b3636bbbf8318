/-! THE LAW: its cases -/
def LawAt (c : Nat → VC) (S : St) (th : Int32) (f : Nat → Int64) (n : Nat) (sc : Nat → Int32) : Prop := CaseAt c S ∧ RefAt c S th ∧ c 464 = cL 1 f ∧ c 0 = cS n sc ∧ StOK S
theorem CaseAt.fr {c c' : Nat → VC} {S : St} (h : CaseAt c S) (hf : ∀ k, k < 456 → c' k = c k) : CaseAt c' S := by
  obtain ⟨h1, h2, h3, h4, ⟨σt, h5⟩, ⟨pl, es, h6⟩, h7⟩ := h
  exact ⟨by rw [hf 2 (by omega)]; exact h1, h2.fr (fun k z1 z2 => hf k (by omega)), h3.fr (hf _ (by omega)) (hf _ (by omega)), h4.fr (fun k z1 z2 => hf k (by omega)), ⟨σt, h5.fr (fun k z1 z2 => hf k (by omega))⟩, ⟨pl, es, h6.fr (fun k z1 z2 => hf k (by omega))⟩, h7.fr (hf 1 (by omega))⟩
theorem RefAt.ob {c : Nat → VC} {S : St} {th : Int32} (h : RefAt c S th) : ∃ n tl, RO c n tl th := by
  obtain ⟨f, vs, as, tx, rw, ll, lt, hR, _⟩ := h
  exact ⟨_, _, hR.1⟩
theorem lg_self {x : Int64} : lg_cmp x x = 0 := by
  unfold lg_cmp
  rw [if_neg (fun h => Int64.lt_irrefl h), if_pos rfl]
/-- behind both calls: they threw alike, or answered alike -/
theorem both {z k s : Nat} {x : Bool} {h' : VH} {c1 : Nat → VC} {pm : Nat → Nat} {es : List Nat} {r : Value ⊕ Nat} {t th2 : Nat} {f1 : Nat → Int64} {v : Value} (hpm : ∀ E ∈ es, 0 < pm E ∧ pm E < 10) (hr : ResI r es) (hm : match (generalizing := false) r with
  | Sum.inl w => t = 0 ∧ h' = ((z, x, k, s), c1) ∧ ∃ y, w = .int y ∧ f1 0 = y.toInt64
  | Sum.inr E => t = pm E ∧ h' = ((z, false, k + 1, s + 6), c1)) (hm2 : match (generalizing := false) r with
  | Sum.inl w => th2 = 0 ∧ v = w
  | Sum.inr E => th2 = pm E ∧ v = .int (nI 0)) : ∃ y, v = .int y ∧ th2 = t ∧ t < 10 ∧ (t = 0 → f1 0 = y.toInt64) := by
  cases r with
  | inl w =>
    obtain ⟨rfl, -, y, rfl, h1⟩ := hm
    obtain ⟨rfl, rfl⟩ := hm2
    exact ⟨y, rfl, rfl, by omega, fun _ => h1⟩
  | inr E =>
    obtain ⟨rfl, -⟩ := hm
    obtain ⟨rfl, rfl⟩ := hm2
    have := hpm E hr
    exact ⟨_, rfl, rfl, this.2, fun q => by omega⟩
theorem heap1 {z k s : Nat} {x : Bool} {h' : VH} {c1 : Nat → VC} {pm : Nat → Nat} {r : Value ⊕ Nat} {t : Nat} {f1 : Nat → Int64} (hm : match (generalizing := false) r with
  | Sum.inl w => t = 0 ∧ h' = ((z, x, k, s), c1) ∧ ∃ y, w = .int y ∧ f1 0 = y.toInt64
  | Sum.inr E => t = pm E ∧ h' = ((z, false, k + 1, s + 6), c1)) : ∃ x1 k1 s1, h' = ((z, x1, k1, s1), c1) ∧ k1 ≤ k + 1 ∧ s1 ≤ s + 6 := by
  cases r with
  | inl w =>
    obtain ⟨-, rfl, -⟩ := hm
    exact ⟨x, k, s, rfl, by omega, by omega⟩
  | inr E =>
    obtain ⟨-, rfl⟩ := hm
    exact ⟨false, k + 1, s + 6, rfl, by omega, by omega⟩
set_option maxRecDepth 20000 in
set_option maxHeartbeats 2000000 in
theorem tc_buy {c : Nat → VC} {S : St} {th : Int32} {f : Nat → Int64} {n k s i : Nat} {x : Bool} {sc : Nat → Int32} {o5 o6 o7 o8 : Option Value} {Q : (Option Value ⊕ Nat) → VH → Prop} (hL : LawAt c S th f n sc) (hi : i + 5 ≤ n) (hn : n < 2 ^ 31) (K : ∀ c2 S2 th2 f2 x2 k2 s2 o5 o6 o7 o8, LawAt c2 S2 th2 f2 n sc → k2 ≤ k + 1 → s2 ≤ s + 6 → Xm M_L_law 1520 [some (.ref 0), some (.ref 2), some (.ref 456), some (.ref 464), some (.int (nI (i))), o5, o6, o7, o8] [] ((465, x2, k2, s2), c2) Q) : Xm M_L_law 160 [some (.ref 0), some (.ref 2), some (.ref 456), some (.ref 464), some (.int (nI (i))), o5, o6, o7, o8] [] ((465, x, k, s), c) Q := by
  obtain ⟨n0, tl0, hO0⟩ := hL.2.1.ob
  have hS0 := hL.2.2.2.1
  have hok : StOK (buyM (sc (nI (i + 1)).toNatClampNeg) (sc (nI (i + 2)).toNatClampNeg) S).2 := ok_buy hL.2.2.2.2
  have hr : ResI (buyM (sc (nI (i + 1)).toNatClampNeg) (sc (nI (i + 2)).toNatClampNeg) S).1 [1, 2, 3] := res_buy
  refine x_aload_n dL_law_160 rfl ?_
  refine x_aload_n dL_law_161 rfl ?_
  refine x_iload dL_law_162 rfl ?_
  refine x_iconst (nI 1) dL_law_164 (by decide) ?_
  refine x_iaddN dL_law_165 ?_
  refine x_ialoadS dL_law_166 (by first | assumption | (simp (disch := omega) only [up_s, up_n]; first | assumption | rfl)) (inB_nI (by omega) hn) ?_
  refine x_aload_n dL_law_167 rfl ?_
  refine x_iload dL_law_168 rfl ?_
  refine x_iconst (nI 2) dL_law_170 (by decide) ?_
  refine x_iaddN dL_law_171 ?_
  refine x_ialoadS dL_law_172 (by first | assumption | (simp (disch := omega) only [up_s, up_n]; first | assumption | rfl)) (inB_nI (by omega) hn) ?_
  refine x_aload_n dL_law_173 rfl ?_
  refine x_cs4 dL_law_174 rfl ?_
  refine (w_buy hL.1 hL.2.2.2.2 hL.2.2.1).mono (fun q h' hq => ?_)
  obtain ⟨c1, t, f1, rfl, hC1, hf1, hfr, hm⟩ := hq
  obtain ⟨x1, k1, s1, hh, hk1, hs1⟩ := heap1 hm
  subst hh
  refine Xk.i ?_
  have hR1 : RefAt c1 S th := hL.2.1.fr (fun j z1 z2 => hfr j (by omega))
  obtain ⟨n1, tl1, hO1⟩ := hR1.ob
  have hS1 : c1 0 = cS n sc := (hfr 0 (by omega)).trans hS0
  refine x_istore_5 dL_law_177 rfl ?_
  refine x_aload_n dL_law_179 rfl ?_
  refine x_aload_n dL_law_180 rfl ?_
  refine x_iload dL_law_181 rfl ?_
  refine x_iconst (nI 1) dL_law_183 (by decide) ?_
  refine x_iaddN dL_law_184 ?_
  refine x_ialoadS dL_law_185 (by first | assumption | (simp (disch := omega) only [up_s, up_n]; first | assumption | rfl)) (inB_nI (by omega) hn) ?_
  refine x_aload_n dL_law_186 rfl ?_
  refine x_iload dL_law_187 rfl ?_
  refine x_iconst (nI 2) dL_law_189 (by decide) ?_
  refine x_iaddN dL_law_190 ?_
  refine x_ialoadS dL_law_191 (by first | assumption | (simp (disch := omega) only [up_s, up_n]; first | assumption | rfl)) (inB_nI (by omega) hn) ?_
  refine x_cv3 dL_law_192 rfl (by first | assumption | (simp (disch := omega) only [up_s, up_n]; first | assumption | rfl)) rfl ?_
  refine (s_X5_buy hR1 hL.2.2.2.2).mono (fun q h' hq2 => ?_)
  obtain ⟨v, c2, t2, rfl, rfl, hR2, hF2, hm2⟩ := hq2
  obtain ⟨y, rfl, rfl, ht10, hy⟩ := both (es := [1, 2, 3]) (by decide) hr hm hm2
  refine Xk.i ?_
  obtain ⟨n2, tl2, hO2⟩ := hR2.ob
  have hS2 : c2 0 = cS n sc := (hF2 0 (by omega)).trans hS1
  have hf2 : c2 464 = cL 1 f1 := (hF2 464 (by omega)).trans hf1
  have hC2 := hC1.fr (c' := c2) (fun j z => hF2 j (by omega))
  refine x_istore_6 dL_law_195 rfl ?_
  refine x_aload_n dL_law_197 rfl ?_
  refine x_cv1 dL_law_198 rfl (by first | assumption | (simp (disch := omega) only [up_s, up_n]; first | assumption | rfl)) rfl ?_
  refine Cm.rt (s_X5_thrown hR2) ?_
  refine x_iload dL_law_201 rfl ?_
  refine x_icmp_eq 208 dL_law_203 (by decide) (fun c203 => ?_) (fun c203 => ?_)
  · refine x_iload dL_law_208 rfl ?_
    refine x_if_ne 225 dL_law_210 (by decide) (fun c210 => ?_) (fun c210 => ?_)
    · refine x_goto 1520 dL_law_225 (by decide) ?_
      exact K c2 _ _ f1 x1 k1 s1 _ _ _ _ ⟨hC2, hR2, hf2, hS2, hok⟩ hk1 hs1
    · have ht0 : t2 = 0 := (nI_eq (b := 0) (by omega) (by omega)).mp c210
      refine x_aload_n dL_law_213 rfl ?_
      refine x_iconst (nI 0) dL_law_214 (by decide) ?_
      refine x_laload dL_law_215 (by first | assumption | (simp (disch := omega) only [up_s, up_n]; first | assumption | rfl)) (by decide) ?_
      refine x_iload dL_law_216 rfl ?_
      refine x_i2l dL_law_218 ?_
      refine x_lcmp dL_law_219 ?_
      refine x_if_eq 225 dL_law_220 (by decide) (fun c220 => ?_) (fun c220 => ?_)
      · refine x_goto 1520 dL_law_225 (by decide) ?_
        exact K c2 _ _ f1 x1 k1 s1 _ _ _ _ ⟨hC2, hR2, hf2, hS2, hok⟩ hk1 hs1
      · exact absurd (by rw [show (nI 0).toNatClampNeg = 0 from rfl, hy ht0]; exact lg_self) c220
  · exact absurd rfl c203
set_option maxRecDepth 20000 in
set_option maxHeartbeats 2000000 in
theorem tc_buyLacking {c : Nat → VC} {S : St} {th : Int32} {f : Nat → Int64} {n k s i : Nat} {x : Bool} {sc : Nat → Int32} {o5 o6 o7 o8 : Option Value} {Q : (Option Value ⊕ Nat) → VH → Prop} (hL : LawAt c S th f n sc) (hi : i + 5 ≤ n) (hn : n < 2 ^ 31) (K : ∀ c2 S2 th2 f2 x2 k2 s2 o5 o6 o7 o8, LawAt c2 S2 th2 f2 n sc → k2 ≤ k + 1 → s2 ≤ s + 6 → Xm M_L_law 1520 [some (.ref 0), some (.ref 2), some (.ref 456), some (.ref 464), some (.int (nI (i))), o5, o6, o7, o8] [] ((465, x2, k2, s2), c2) Q) : Xm M_L_law 228 [some (.ref 0), some (.ref 2), some (.ref 456), some (.ref 464), some (.int (nI (i))), o5, o6, o7, o8] [] ((465, x, k, s), c) Q := by
  obtain ⟨n0, tl0, hO0⟩ := hL.2.1.ob
  have hS0 := hL.2.2.2.1
  have hok : StOK (buyLackingM S).2 := ok_buyLacking hL.2.2.2.2
  have hr : ResI (buyLackingM S).1 [3] := res_buyLacking
  refine x_aload_n dL_law_228 rfl ?_
  refine x_aload_n dL_law_229 rfl ?_
  refine x_cs2 dL_law_230 rfl ?_
  refine (w_buyLacking hL.1 hL.2.2.2.2 hL.2.2.1).mono (fun q h' hq => ?_)
  obtain ⟨c1, t, f1, rfl, hC1, hf1, hfr, hm⟩ := hq
  obtain ⟨x1, k1, s1, hh, hk1, hs1⟩ := heap1 hm
  subst hh
  refine Xk.i ?_
  have hR1 : RefAt c1 S th := hL.2.1.fr (fun j z1 z2 => hfr j (by omega))
  obtain ⟨n1, tl1, hO1⟩ := hR1.ob
  have hS1 : c1 0 = cS n sc := (hfr 0 (by omega)).trans hS0
  refine x_istore_5 dL_law_233 rfl ?_
  refine x_aload_n dL_law_235 rfl ?_
  refine x_cv1 dL_law_236 rfl (by first | assumption | (simp (disch := omega) only [up_s, up_n]; first | assumption | rfl)) rfl ?_
  refine (s_X5_buyLacking hR1 hL.2.2.2.2).mono (fun q h' hq2 => ?_)
  obtain ⟨v, c2, t2, rfl, rfl, hR2, hF2, hm2⟩ := hq2
  obtain ⟨y, rfl, rfl, ht10, hy⟩ := both (es := [3]) (by decide) hr hm hm2
  refine Xk.i ?_
  obtain ⟨n2, tl2, hO2⟩ := hR2.ob
  have hS2 : c2 0 = cS n sc := (hF2 0 (by omega)).trans hS1
  have hf2 : c2 464 = cL 1 f1 := (hF2 464 (by omega)).trans hf1
  have hC2 := hC1.fr (c' := c2) (fun j z => hF2 j (by omega))
  refine x_istore_6 dL_law_239 rfl ?_
  refine x_aload_n dL_law_241 rfl ?_
  refine x_cv1 dL_law_242 rfl (by first | assumption | (simp (disch := omega) only [up_s, up_n]; first | assumption | rfl)) rfl ?_
  refine Cm.rt (s_X5_thrown hR2) ?_
  refine x_iload dL_law_245 rfl ?_
  refine x_icmp_eq 252 dL_law_247 (by decide) (fun c247 => ?_) (fun c247 => ?_)
  · refine x_iload dL_law_252 rfl ?_
    refine x_if_ne 269 dL_law_254 (by decide) (fun c254 => ?_) (fun c254 => ?_)
    · refine x_goto 1520 dL_law_269 (by decide) ?_
      exact K c2 _ _ f1 x1 k1 s1 _ _ _ _ ⟨hC2, hR2, hf2, hS2, hok⟩ hk1 hs1
    · have ht0 : t2 = 0 := (nI_eq (b := 0) (by omega) (by omega)).mp c254
      refine x_aload_n dL_law_257 rfl ?_
      refine x_iconst (nI 0) dL_law_258 (by decide) ?_
      refine x_laload dL_law_259 (by first | assumption | (simp (disch := omega) only [up_s, up_n]; first | assumption | rfl)) (by decide) ?_
      refine x_iload dL_law_260 rfl ?_
      refine x_i2l dL_law_262 ?_
      refine x_lcmp dL_law_263 ?_
      refine x_if_eq 269 dL_law_264 (by decide) (fun c264 => ?_) (fun c264 => ?_)
      · refine x_goto 1520 dL_law_269 (by decide) ?_
        exact K c2 _ _ f1 x1 k1 s1 _ _ _ _ ⟨hC2, hR2, hf2, hS2, hok⟩ hk1 hs1
      · exact absurd (by rw [show (nI 0).toNatClampNeg = 0 from rfl, hy ht0]; exact lg_self) c264
  · exact absurd rfl c247
set_option maxRecDepth 20000 in
set_option maxHeartbeats 2000000 in
theorem tc_spill {c : Nat → VC} {S : St} {th : Int32} {f : Nat → Int64} {n k s i : Nat} {x : Bool} {sc : Nat → Int32} {o5 o6 o7 o8 : Option Value} {Q : (Option Value ⊕ Nat) → VH → Prop} (hL : LawAt c S th f n sc) (hi : i + 5 ≤ n) (hn : n < 2 ^ 31) (K : ∀ c2 S2 th2 f2 x2 k2 s2 o5 o6 o7 o8, LawAt c2 S2 th2 f2 n sc → k2 ≤ k + 1 → s2 ≤ s + 6 → Xm M_L_law 1520 [some (.ref 0), some (.ref 2), some (.ref 456), some (.ref 464), some (.int (nI (i))), o5, o6, o7, o8] [] ((465, x2, k2, s2), c2) Q) : Xm M_L_law 272 [some (.ref 0), some (.ref 2), some (.ref 456), some (.ref 464), some (.int (nI (i))), o5, o6, o7, o8] [] ((465, x, k, s), c) Q := by
  obtain ⟨n0, tl0, hO0⟩ := hL.2.1.ob
  have hS0 := hL.2.2.2.1
  have hok : StOK (spillM (sc (nI (i + 1)).toNatClampNeg) (sc (nI (i + 2)).toNatClampNeg) (sc (nI (i + 3)).toNatClampNeg) S).2 := ok_spill hL.2.2.2.2
  have hr : ResI (spillM (sc (nI (i + 1)).toNatClampNeg) (sc (nI (i + 2)).toNatClampNeg) (sc (nI (i + 3)).toNatClampNeg) S).1 [1, 2, 3] := res_spill
  refine x_aload_n dL_law_272 rfl ?_
  refine x_aload_n dL_law_273 rfl ?_
  refine x_iload dL_law_274 rfl ?_
  refine x_iconst (nI 1) dL_law_276 (by decide) ?_
  refine x_iaddN dL_law_277 ?_
  refine x_ialoadS dL_law_278 (by first | assumption | (simp (disch := omega) only [up_s, up_n]; first | assumption | rfl)) (inB_nI (by omega) hn) ?_
  refine x_aload_n dL_law_279 rfl ?_
  refine x_iload dL_law_280 rfl ?_
  refine x_iconst (nI 2) dL_law_282 (by decide) ?_
  refine x_iaddN dL_law_283 ?_
  refine x_ialoadS dL_law_284 (by first | assumption | (simp (disch := omega) only [up_s, up_n]; first | assumption | rfl)) (inB_nI (by omega) hn) ?_
  refine x_aload_n dL_law_285 rfl ?_
  refine x_iload dL_law_286 rfl ?_
  refine x_iconst (nI 3) dL_law_288 (by decide) ?_
  refine x_iaddN dL_law_289 ?_
  refine x_ialoadS dL_law_290 (by first | assumption | (simp (disch := omega) only [up_s, up_n]; first | assumption | rfl)) (inB_nI (by omega) hn) ?_
  refine x_aload_n dL_law_291 rfl ?_
  refine x_cs5 dL_law_292 rfl ?_
  refine (w_spill hL.1 hL.2.2.2.2 hL.2.2.1).mono (fun q h' hq => ?_)
  obtain ⟨c1, t, f1, rfl, hC1, hf1, hfr, hm⟩ := hq
  obtain ⟨x1, k1, s1, hh, hk1, hs1⟩ := heap1 hm
  subst hh
  refine Xk.i ?_
  have hR1 : RefAt c1 S th := hL.2.1.fr (fun j z1 z2 => hfr j (by omega))
  obtain ⟨n1, tl1, hO1⟩ := hR1.ob
  have hS1 : c1 0 = cS n sc := (hfr 0 (by omega)).trans hS0
  refine x_istore_5 dL_law_295 rfl ?_
  refine x_aload_n dL_law_297 rfl ?_
  refine x_aload_n dL_law_298 rfl ?_
  refine x_iload dL_law_299 rfl ?_
  refine x_iconst (nI 1) dL_law_301 (by decide) ?_
  refine x_iaddN dL_law_302 ?_
  refine x_ialoadS dL_law_303 (by first | assumption | (simp (disch := omega) only [up_s, up_n]; first | assumption | rfl)) (inB_nI (by omega) hn) ?_
  refine x_aload_n dL_law_304 rfl ?_
  refine x_iload dL_law_305 rfl ?_
  refine x_iconst (nI 2) dL_law_307 (by decide) ?_
  refine x_iaddN dL_law_308 ?_
  refine x_ialoadS dL_law_309 (by first | assumption | (simp (disch := omega) only [up_s, up_n]; first | assumption | rfl)) (inB_nI (by omega) hn) ?_
  refine x_aload_n dL_law_310 rfl ?_
  refine x_iload dL_law_311 rfl ?_
  refine x_iconst (nI 3) dL_law_313 (by decide) ?_
  refine x_iaddN dL_law_314 ?_
  refine x_ialoadS dL_law_315 (by first | assumption | (simp (disch := omega) only [up_s, up_n]; first | assumption | rfl)) (inB_nI (by omega) hn) ?_
  refine x_cv4 dL_law_316 rfl (by first | assumption | (simp (disch := omega) only [up_s, up_n]; first | assumption | rfl)) rfl ?_
  refine (s_X5_spill hR1).mono (fun q h' hq2 => ?_)
  obtain ⟨v, c2, t2, rfl, rfl, hR2, hF2, hm2⟩ := hq2
  obtain ⟨y, rfl, rfl, ht10, hy⟩ := both (es := [1, 2, 3]) (by decide) hr hm hm2
  refine Xk.i ?_
  obtain ⟨n2, tl2, hO2⟩ := hR2.ob
  have hS2 : c2 0 = cS n sc := (hF2 0 (by omega)).trans hS1
  have hf2 : c2 464 = cL 1 f1 := (hF2 464 (by omega)).trans hf1
  have hC2 := hC1.fr (c' := c2) (fun j z => hF2 j (by omega))
  refine x_istore_6 dL_law_319 rfl ?_
  refine x_aload_n dL_law_321 rfl ?_
  refine x_cv1 dL_law_322 rfl (by first | assumption | (simp (disch := omega) only [up_s, up_n]; first | assumption | rfl)) rfl ?_
  refine Cm.rt (s_X5_thrown hR2) ?_
  refine x_iload dL_law_325 rfl ?_
  refine x_icmp_eq 332 dL_law_327 (by decide) (fun c327 => ?_) (fun c327 => ?_)
  · refine x_iload dL_law_332 rfl ?_
    refine x_if_ne 349 dL_law_334 (by decide) (fun c334 => ?_) (fun c334 => ?_)
    · refine x_goto 1520 dL_law_349 (by decide) ?_
      exact K c2 _ _ f1 x1 k1 s1 _ _ _ _ ⟨hC2, hR2, hf2, hS2, hok⟩ hk1 hs1
    · have ht0 : t2 = 0 := (nI_eq (b := 0) (by omega) (by omega)).mp c334
      refine x_aload_n dL_law_337 rfl ?_
      refine x_iconst (nI 0) dL_law_338 (by decide) ?_
      refine x_laload dL_law_339 (by first | assumption | (simp (disch := omega) only [up_s, up_n]; first | assumption | rfl)) (by decide) ?_
      refine x_iload dL_law_340 rfl ?_
      refine x_i2l dL_law_342 ?_
      refine x_lcmp dL_law_343 ?_
      refine x_if_eq 349 dL_law_344 (by decide) (fun c344 => ?_) (fun c344 => ?_)
      · refine x_goto 1520 dL_law_349 (by decide) ?_
        exact K c2 _ _ f1 x1 k1 s1 _ _ _ _ ⟨hC2, hR2, hf2, hS2, hok⟩ hk1 hs1
      · exact absurd (by rw [show (nI 0).toNatClampNeg = 0 from rfl, hy ht0]; exact lg_self) c344
  · exact absurd rfl c327
set_option maxRecDepth 20000 in
set_option maxHeartbeats 2000000 in
theorem tc_clean {c : Nat → VC} {S : St} {th : Int32} {f : Nat → Int64} {n k s i : Nat} {x : Bool} {sc : Nat → Int32} {o5 o6 o7 o8 : Option Value} {Q : (Option Value ⊕ Nat) → VH → Prop} (hL : LawAt c S th f n sc) (hi : i + 5 ≤ n) (hn : n < 2 ^ 31) (K : ∀ c2 S2 th2 f2 x2 k2 s2 o5 o6 o7 o8, LawAt c2 S2 th2 f2 n sc → k2 ≤ k + 1 → s2 ≤ s + 6 → Xm M_L_law 1520 [some (.ref 0), some (.ref 2), some (.ref 456), some (.ref 464), some (.int (nI (i))), o5, o6, o7, o8] [] ((465, x2, k2, s2), c2) Q) : Xm M_L_law 352 [some (.ref 0), some (.ref 2), some (.ref 456), some (.ref 464), some (.int (nI (i))), o5, o6, o7, o8] [] ((465, x, k, s), c) Q := by
  obtain ⟨n0, tl0, hO0⟩ := hL.2.1.ob
  have hS0 := hL.2.2.2.1
  have hok : StOK (cleanM (sc (nI (i + 1)).toNatClampNeg) S).2 := ok_clean hL.2.2.2.2 hL.2.1.wf.1
  have hr : ResI (cleanM (sc (nI (i + 1)).toNatClampNeg) S).1 [1] := res_clean
  refine x_aload_n dL_law_352 rfl ?_
  refine x_aload_n dL_law_353 rfl ?_
  refine x_iload dL_law_354 rfl ?_
  refine x_iconst (nI 1) dL_law_356 (by decide) ?_
  refine x_iaddN dL_law_357 ?_
  refine x_ialoadS dL_law_358 (by first | assumption | (simp (disch := omega) only [up_s, up_n]; first | assumption | rfl)) (inB_nI (by omega) hn) ?_
  refine x_aload_n dL_law_359 rfl ?_
  refine x_cs3 dL_law_360 rfl ?_
  refine (w_clean hL.1 hL.2.2.2.2 hL.2.2.1).mono (fun q h' hq => ?_)
  obtain ⟨c1, t, f1, rfl, hC1, hf1, hfr, hm⟩ := hq
  obtain ⟨x1, k1, s1, hh, hk1, hs1⟩ := heap1 hm
  subst hh
  refine Xk.i ?_
  have hR1 : RefAt c1 S th := hL.2.1.fr (fun j z1 z2 => hfr j (by omega))
  obtain ⟨n1, tl1, hO1⟩ := hR1.ob
  have hS1 : c1 0 = cS n sc := (hfr 0 (by omega)).trans hS0
  refine x_istore_5 dL_law_363 rfl ?_
  refine x_aload_n dL_law_365 rfl ?_
  refine x_aload_n dL_law_366 rfl ?_
  refine x_iload dL_law_367 rfl ?_
  refine x_iconst (nI 1) dL_law_369 (by decide) ?_
  refine x_iaddN dL_law_370 ?_
  refine x_ialoadS dL_law_371 (by first | assumption | (simp (disch := omega) only [up_s, up_n]; first | assumption | rfl)) (inB_nI (by omega) hn) ?_
  refine x_cv2 dL_law_372 rfl (by first | assumption | (simp (disch := omega) only [up_s, up_n]; first | assumption | rfl)) rfl ?_
  refine (s_X5_clean hR1).mono (fun q h' hq2 => ?_)
  obtain ⟨v, c2, t2, rfl, rfl, hR2, hF2, hm2⟩ := hq2
  obtain ⟨y, rfl, rfl, ht10, hy⟩ := both (es := [1]) (by decide) hr hm hm2
  refine Xk.i ?_
  obtain ⟨n2, tl2, hO2⟩ := hR2.ob
  have hS2 : c2 0 = cS n sc := (hF2 0 (by omega)).trans hS1
  have hf2 : c2 464 = cL 1 f1 := (hF2 464 (by omega)).trans hf1
  have hC2 := hC1.fr (c' := c2) (fun j z => hF2 j (by omega))
  refine x_istore_6 dL_law_375 rfl ?_
  refine x_aload_n dL_law_377 rfl ?_
  refine x_cv1 dL_law_378 rfl (by first | assumption | (simp (disch := omega) only [up_s, up_n]; first | assumption | rfl)) rfl ?_
  refine Cm.rt (s_X5_thrown hR2) ?_
  refine x_iload dL_law_381 rfl ?_
  refine x_icmp_eq 388 dL_law_383 (by decide) (fun c383 => ?_) (fun c383 => ?_)
  · refine x_iload dL_law_388 rfl ?_
    refine x_if_ne 405 dL_law_390 (by decide) (fun c390 => ?_) (fun c390 => ?_)
    · refine x_goto 1520 dL_law_405 (by decide) ?_
      exact K c2 _ _ f1 x1 k1 s1 _ _ _ _ ⟨hC2, hR2, hf2, hS2, hok⟩ hk1 hs1
    · have ht0 : t2 = 0 := (nI_eq (b := 0) (by omega) (by omega)).mp c390
      refine x_aload_n dL_law_393 rfl ?_
      refine x_iconst (nI 0) dL_law_394 (by decide) ?_
      refine x_laload dL_law_395 (by first | assumption | (simp (disch := omega) only [up_s, up_n]; first | assumption | rfl)) (by decide) ?_
      refine x_iload dL_law_396 rfl ?_
      refine x_i2l dL_law_398 ?_
      refine x_lcmp dL_law_399 ?_
      refine x_if_eq 405 dL_law_400 (by decide) (fun c400 => ?_) (fun c400 => ?_)
      · refine x_goto 1520 dL_law_405 (by decide) ?_
        exact K c2 _ _ f1 x1 k1 s1 _ _ _ _ ⟨hC2, hR2, hf2, hS2, hok⟩ hk1 hs1
      · exact absurd (by rw [show (nI 0).toNatClampNeg = 0 from rfl, hy ht0]; exact lg_self) c400
  · exact absurd rfl c383
set_option maxRecDepth 20000 in
set_option maxHeartbeats 2000000 in
theorem tc_set {c : Nat → VC} {S : St} {th : Int32} {f : Nat → Int64} {n k s i : Nat} {x : Bool} {sc : Nat → Int32} {o5 o6 o7 o8 : Option Value} {Q : (Option Value ⊕ Nat) → VH → Prop} (hL : LawAt c S th f n sc) (hi : i + 5 ≤ n) (hn : n < 2 ^ 31) (K : ∀ c2 S2 th2 f2 x2 k2 s2 o5 o6 o7 o8, LawAt c2 S2 th2 f2 n sc → k2 ≤ k + 1 → s2 ≤ s + 6 → Xm M_L_law 1520 [some (.ref 0), some (.ref 2), some (.ref 456), some (.ref 464), some (.int (nI (i))), o5, o6, o7, o8] [] ((465, x2, k2, s2), c2) Q) : Xm M_L_law 408 [some (.ref 0), some (.ref 2), some (.ref 456), some (.ref 464), some (.int (nI (i))), o5, o6, o7, o8] [] ((465, x, k, s), c) Q := by
  obtain ⟨n0, tl0, hO0⟩ := hL.2.1.ob
  have hS0 := hL.2.2.2.1
  have hok : StOK (setM (sc (nI (i + 1)).toNatClampNeg) (sc (nI (i + 2)).toNatClampNeg) S).2 := ok_set hL.2.2.2.2
  have hr : ResI (setM (sc (nI (i + 1)).toNatClampNeg) (sc (nI (i + 2)).toNatClampNeg) S).1 [2] := res_set
  refine x_aload_n dL_law_408 rfl ?_
  refine x_aload_n dL_law_409 rfl ?_
  refine x_iload dL_law_410 rfl ?_
  refine x_iconst (nI 1) dL_law_412 (by decide) ?_
  refine x_iaddN dL_law_413 ?_
  refine x_ialoadS dL_law_414 (by first | assumption | (simp (disch := omega) only [up_s, up_n]; first | assumption | rfl)) (inB_nI (by omega) hn) ?_
  refine x_aload_n dL_law_415 rfl ?_
  refine x_iload dL_law_416 rfl ?_
  refine x_iconst (nI 2) dL_law_418 (by decide) ?_
  refine x_iaddN dL_law_419 ?_
  refine x_ialoadS dL_law_420 (by first | assumption | (simp (disch := omega) only [up_s, up_n]; first | assumption | rfl)) (inB_nI (by omega) hn) ?_
  refine x_aload_n dL_law_421 rfl ?_
  refine x_cs4 dL_law_422 rfl ?_
  refine (w_set hL.1 hL.2.2.2.2 hL.2.2.1).mono (fun q h' hq => ?_)
  obtain ⟨c1, t, f1, rfl, hC1, hf1, hfr, hm⟩ := hq
  obtain ⟨x1, k1, s1, hh, hk1, hs1⟩ := heap1 hm
  subst hh
  refine Xk.i ?_
  have hR1 : RefAt c1 S th := hL.2.1.fr (fun j z1 z2 => hfr j (by omega))
  obtain ⟨n1, tl1, hO1⟩ := hR1.ob
  have hS1 : c1 0 = cS n sc := (hfr 0 (by omega)).trans hS0
  refine x_istore_5 dL_law_425 rfl ?_
  refine x_aload_n dL_law_427 rfl ?_
  refine x_aload_n dL_law_428 rfl ?_
  refine x_iload dL_law_429 rfl ?_
  refine x_iconst (nI 1) dL_law_431 (by decide) ?_
  refine x_iaddN dL_law_432 ?_
  refine x_ialoadS dL_law_433 (by first | assumption | (simp (disch := omega) only [up_s, up_n]; first | assumption | rfl)) (inB_nI (by omega) hn) ?_
  refine x_aload_n dL_law_434 rfl ?_
  refine x_iload dL_law_435 rfl ?_
  refine x_iconst (nI 2) dL_law_437 (by decide) ?_
  refine x_iaddN dL_law_438 ?_
  refine x_ialoadS dL_law_439 (by first | assumption | (simp (disch := omega) only [up_s, up_n]; first | assumption | rfl)) (inB_nI (by omega) hn) ?_
  refine x_cv3 dL_law_440 rfl (by first | assumption | (simp (disch := omega) only [up_s, up_n]; first | assumption | rfl)) rfl ?_
  refine (s_X5_set hR1).mono (fun q h' hq2 => ?_)
  obtain ⟨v, c2, t2, rfl, rfl, hR2, hF2, hm2⟩ := hq2
  obtain ⟨y, rfl, rfl, ht10, hy⟩ := both (es := [2]) (by decide) hr hm hm2
  refine Xk.i ?_
  obtain ⟨n2, tl2, hO2⟩ := hR2.ob
  have hS2 : c2 0 = cS n sc := (hF2 0 (by omega)).trans hS1
  have hf2 : c2 464 = cL 1 f1 := (hF2 464 (by omega)).trans hf1
  have hC2 := hC1.fr (c' := c2) (fun j z => hF2 j (by omega))
  refine x_istore_6 dL_law_443 rfl ?_
  refine x_aload_n dL_law_445 rfl ?_
  refine x_cv1 dL_law_446 rfl (by first | assumption | (simp (disch := omega) only [up_s, up_n]; first | assumption | rfl)) rfl ?_
  refine Cm.rt (s_X5_thrown hR2) ?_
  refine x_iload dL_law_449 rfl ?_
  refine x_icmp_eq 456 dL_law_451 (by decide) (fun c451 => ?_) (fun c451 => ?_)
  · refine x_iload dL_law_456 rfl ?_
    refine x_if_ne 473 dL_law_458 (by decide) (fun c458 => ?_) (fun c458 => ?_)
    · refine x_goto 1520 dL_law_473 (by decide) ?_
      exact K c2 _ _ f1 x1 k1 s1 _ _ _ _ ⟨hC2, hR2, hf2, hS2, hok⟩ hk1 hs1
    · have ht0 : t2 = 0 := (nI_eq (b := 0) (by omega) (by omega)).mp c458
      refine x_aload_n dL_law_461 rfl ?_
      refine x_iconst (nI 0) dL_law_462 (by decide) ?_
      refine x_laload dL_law_463 (by first | assumption | (simp (disch := omega) only [up_s, up_n]; first | assumption | rfl)) (by decide) ?_
      refine x_iload dL_law_464 rfl ?_
      refine x_i2l dL_law_466 ?_
      refine x_lcmp dL_law_467 ?_
      refine x_if_eq 473 dL_law_468 (by decide) (fun c468 => ?_) (fun c468 => ?_)
      · refine x_goto 1520 dL_law_473 (by decide) ?_
        exact K c2 _ _ f1 x1 k1 s1 _ _ _ _ ⟨hC2, hR2, hf2, hS2, hok⟩ hk1 hs1
      · exact absurd (by rw [show (nI 0).toNatClampNeg = 0 from rfl, hy ht0]; exact lg_self) c468
  · exact absurd rfl c451
set_option maxRecDepth 20000 in
set_option maxHeartbeats 2000000 in
theorem tc_letter {c : Nat → VC} {S : St} {th : Int32} {f : Nat → Int64} {n k s i : Nat} {x : Bool} {sc : Nat → Int32} {o5 o6 o7 o8 : Option Value} {Q : (Option Value ⊕ Nat) → VH → Prop} (hL : LawAt c S th f n sc) (hi : i + 5 ≤ n) (hn : n < 2 ^ 31) (K : ∀ c2 S2 th2 f2 x2 k2 s2 o5 o6 o7 o8, LawAt c2 S2 th2 f2 n sc → k2 ≤ k + 1 → s2 ≤ s + 6 → Xm M_L_law 1520 [some (.ref 0), some (.ref 2), some (.ref 456), some (.ref 464), some (.int (nI (i))), o5, o6, o7, o8] [] ((465, x2, k2, s2), c2) Q) : Xm M_L_law 476 [some (.ref 0), some (.ref 2), some (.ref 456), some (.ref 464), some (.int (nI (i))), o5, o6, o7, o8] [] ((465, x, k, s), c) Q := by
  obtain ⟨n0, tl0, hO0⟩ := hL.2.1.ob
  have hS0 := hL.2.2.2.1
  have hok : StOK (letterM (sc (nI (i + 1)).toNatClampNeg) (sc (nI (i + 2)).toNatClampNeg) S).2 := (by rw [st_letter]; exact hL.2.2.2.2)
  have hr : ResI (letterM (sc (nI (i + 1)).toNatClampNeg) (sc (nI (i + 2)).toNatClampNeg) S).1 [1, 2] := res_letter
  refine x_aload_n dL_law_476 rfl ?_
  refine x_aload_n dL_law_477 rfl ?_
  refine x_iload dL_law_478 rfl ?_
  refine x_iconst (nI 1) dL_law_480 (by decide) ?_
  refine x_iaddN dL_law_481 ?_
  refine x_ialoadS dL_law_482 (by first | assumption | (simp (disch := omega) only [up_s, up_n]; first | assumption | rfl)) (inB_nI (by omega) hn) ?_
  refine x_aload_n dL_law_483 rfl ?_
  refine x_iload dL_law_484 rfl ?_
  refine x_iconst (nI 2) dL_law_486 (by decide) ?_
  refine x_iaddN dL_law_487 ?_
  refine x_ialoadS dL_law_488 (by first | assumption | (simp (disch := omega) only [up_s, up_n]; first | assumption | rfl)) (inB_nI (by omega) hn) ?_
  refine x_aload_n dL_law_489 rfl ?_
  refine x_cs4 dL_law_490 rfl ?_
  refine (w_letter hL.1 hL.2.2.2.2 hL.2.2.1).mono (fun q h' hq => ?_)
  obtain ⟨c1, t, f1, rfl, hC1, hf1, hfr, hm⟩ := hq
  obtain ⟨x1, k1, s1, hh, hk1, hs1⟩ := heap1 hm
  subst hh
  refine Xk.i ?_
  have hR1 : RefAt c1 S th := hL.2.1.fr (fun j z1 z2 => hfr j (by omega))
  obtain ⟨n1, tl1, hO1⟩ := hR1.ob
  have hS1 : c1 0 = cS n sc := (hfr 0 (by omega)).trans hS0
  refine x_istore_5 dL_law_493 rfl ?_
  refine x_aload_n dL_law_495 rfl ?_
  refine x_aload_n dL_law_496 rfl ?_
  refine x_iload dL_law_497 rfl ?_
  refine x_iconst (nI 1) dL_law_499 (by decide) ?_
  refine x_iaddN dL_law_500 ?_
  refine x_ialoadS dL_law_501 (by first | assumption | (simp (disch := omega) only [up_s, up_n]; first | assumption | rfl)) (inB_nI (by omega) hn) ?_
  refine x_aload_n dL_law_502 rfl ?_
  refine x_iload dL_law_503 rfl ?_
  refine x_iconst (nI 2) dL_law_505 (by decide) ?_
  refine x_iaddN dL_law_506 ?_
  refine x_ialoadS dL_law_507 (by first | assumption | (simp (disch := omega) only [up_s, up_n]; first | assumption | rfl)) (inB_nI (by omega) hn) ?_
  refine x_cv3 dL_law_508 rfl (by first | assumption | (simp (disch := omega) only [up_s, up_n]; first | assumption | rfl)) rfl ?_
  refine (s_X5_letter hR1).mono (fun q h' hq2 => ?_)
  obtain ⟨v, c2, t2, rfl, rfl, hR2, hF2, hm2⟩ := hq2
  obtain ⟨y, rfl, rfl, ht10, hy⟩ := both (es := [1, 2]) (by decide) hr hm hm2
  refine Xk.i ?_
  obtain ⟨n2, tl2, hO2⟩ := hR2.ob
  have hS2 : c2 0 = cS n sc := (hF2 0 (by omega)).trans hS1
  have hf2 : c2 464 = cL 1 f1 := (hF2 464 (by omega)).trans hf1
  have hC2 := hC1.fr (c' := c2) (fun j z => hF2 j (by omega))
  refine x_istore_6 dL_law_511 rfl ?_
  refine x_aload_n dL_law_513 rfl ?_
  refine x_cv1 dL_law_514 rfl (by first | assumption | (simp (disch := omega) only [up_s, up_n]; first | assumption | rfl)) rfl ?_
  refine Cm.rt (s_X5_thrown hR2) ?_
  refine x_iload dL_law_517 rfl ?_
  refine x_icmp_eq 524 dL_law_519 (by decide) (fun c519 => ?_) (fun c519 => ?_)
  · refine x_iload dL_law_524 rfl ?_
    refine x_if_ne 541 dL_law_526 (by decide) (fun c526 => ?_) (fun c526 => ?_)
    · refine x_goto 1520 dL_law_541 (by decide) ?_
      exact K c2 _ _ f1 x1 k1 s1 _ _ _ _ ⟨hC2, hR2, hf2, hS2, hok⟩ hk1 hs1
    · have ht0 : t2 = 0 := (nI_eq (b := 0) (by omega) (by omega)).mp c526
      refine x_aload_n dL_law_529 rfl ?_
      refine x_iconst (nI 0) dL_law_530 (by decide) ?_
      refine x_laload dL_law_531 (by first | assumption | (simp (disch := omega) only [up_s, up_n]; first | assumption | rfl)) (by decide) ?_
      refine x_iload dL_law_532 rfl ?_
      refine x_i2l dL_law_534 ?_
      refine x_lcmp dL_law_535 ?_
      refine x_if_eq 541 dL_law_536 (by decide) (fun c536 => ?_) (fun c536 => ?_)
      · refine x_goto 1520 dL_law_541 (by decide) ?_
        exact K c2 _ _ f1 x1 k1 s1 _ _ _ _ ⟨hC2, hR2, hf2, hS2, hok⟩ hk1 hs1
      · exact absurd (by rw [show (nI 0).toNatClampNeg = 0 from rfl, hy ht0]; exact lg_self) c536
  · exact absurd rfl c519
set_option maxRecDepth 20000 in
set_option maxHeartbeats 2000000 in
theorem tc_inBox {c : Nat → VC} {S : St} {th : Int32} {f : Nat → Int64} {n k s i : Nat} {x : Bool} {sc : Nat → Int32} {o5 o6 o7 o8 : Option Value} {Q : (Option Value ⊕ Nat) → VH → Prop} (hL : LawAt c S th f n sc) (hi : i + 5 ≤ n) (hn : n < 2 ^ 31) (K : ∀ c2 S2 th2 f2 x2 k2 s2 o5 o6 o7 o8, LawAt c2 S2 th2 f2 n sc → k2 ≤ k + 1 → s2 ≤ s + 6 → Xm M_L_law 1520 [some (.ref 0), some (.ref 2), some (.ref 456), some (.ref 464), some (.int (nI (i))), o5, o6, o7, o8] [] ((465, x2, k2, s2), c2) Q) : Xm M_L_law 544 [some (.ref 0), some (.ref 2), some (.ref 456), some (.ref 464), some (.int (nI (i))), o5, o6, o7, o8] [] ((465, x, k, s), c) Q := by
  obtain ⟨n0, tl0, hO0⟩ := hL.2.1.ob
  have hS0 := hL.2.2.2.1
  have hok : StOK (inBoxM (sc (nI (i + 1)).toNatClampNeg) (sc (nI (i + 2)).toNatClampNeg) S).2 := (by rw [st_inBox]; exact hL.2.2.2.2)
  have hr : ResI (inBoxM (sc (nI (i + 1)).toNatClampNeg) (sc (nI (i + 2)).toNatClampNeg) S).1 [1] := res_inBox
  refine x_aload_n dL_law_544 rfl ?_
  refine x_aload_n dL_law_545 rfl ?_
  refine x_iload dL_law_546 rfl ?_
  refine x_iconst (nI 1) dL_law_548 (by decide) ?_
  refine x_iaddN dL_law_549 ?_
  refine x_ialoadS dL_law_550 (by first | assumption | (simp (disch := omega) only [up_s, up_n]; first | assumption | rfl)) (inB_nI (by omega) hn) ?_
  refine x_aload_n dL_law_551 rfl ?_
  refine x_iload dL_law_552 rfl ?_
  refine x_iconst (nI 2) dL_law_554 (by decide) ?_
  refine x_iaddN dL_law_555 ?_
  refine x_ialoadS dL_law_556 (by first | assumption | (simp (disch := omega) only [up_s, up_n]; first | assumption | rfl)) (inB_nI (by omega) hn) ?_
  refine x_aload_n dL_law_557 rfl ?_
  refine x_cs4 dL_law_558 rfl ?_
  refine (w_inBox hL.1 hL.2.2.2.2 hL.2.2.1).mono (fun q h' hq => ?_)
  obtain ⟨c1, t, f1, rfl, hC1, hf1, hfr, hm⟩ := hq
  obtain ⟨x1, k1, s1, hh, hk1, hs1⟩ := heap1 hm
  subst hh
  refine Xk.i ?_
  have hR1 : RefAt c1 S th := hL.2.1.fr (fun j z1 z2 => hfr j (by omega))
  obtain ⟨n1, tl1, hO1⟩ := hR1.ob
  have hS1 : c1 0 = cS n sc := (hfr 0 (by omega)).trans hS0
  refine x_istore_5 dL_law_561 rfl ?_
  refine x_aload_n dL_law_563 rfl ?_
  refine x_aload_n dL_law_564 rfl ?_
  refine x_iload dL_law_565 rfl ?_
  refine x_iconst (nI 1) dL_law_567 (by decide) ?_
  refine x_iaddN dL_law_568 ?_
  refine x_ialoadS dL_law_569 (by first | assumption | (simp (disch := omega) only [up_s, up_n]; first | assumption | rfl)) (inB_nI (by omega) hn) ?_
  refine x_aload_n dL_law_570 rfl ?_
  refine x_iload dL_law_571 rfl ?_
  refine x_iconst (nI 2) dL_law_573 (by decide) ?_
  refine x_iaddN dL_law_574 ?_
  refine x_ialoadS dL_law_575 (by first | assumption | (simp (disch := omega) only [up_s, up_n]; first | assumption | rfl)) (inB_nI (by omega) hn) ?_
  refine x_cv3 dL_law_576 rfl (by first | assumption | (simp (disch := omega) only [up_s, up_n]; first | assumption | rfl)) rfl ?_
  refine (s_X5_inBox hR1).mono (fun q h' hq2 => ?_)
  obtain ⟨v, c2, t2, rfl, rfl, hR2, hF2, hm2⟩ := hq2
  obtain ⟨y, rfl, rfl, ht10, hy⟩ := both (es := [1]) (by decide) hr hm hm2
  refine Xk.i ?_
  obtain ⟨n2, tl2, hO2⟩ := hR2.ob
  have hS2 : c2 0 = cS n sc := (hF2 0 (by omega)).trans hS1
  have hf2 : c2 464 = cL 1 f1 := (hF2 464 (by omega)).trans hf1
  have hC2 := hC1.fr (c' := c2) (fun j z => hF2 j (by omega))
  refine x_istore_6 dL_law_579 rfl ?_
  refine x_aload_n dL_law_581 rfl ?_
  refine x_cv1 dL_law_582 rfl (by first | assumption | (simp (disch := omega) only [up_s, up_n]; first | assumption | rfl)) rfl ?_
  refine Cm.rt (s_X5_thrown hR2) ?_
  refine x_iload dL_law_585 rfl ?_
  refine x_icmp_eq 592 dL_law_587 (by decide) (fun c587 => ?_) (fun c587 => ?_)
  · refine x_iload dL_law_592 rfl ?_
    refine x_if_ne 609 dL_law_594 (by decide) (fun c594 => ?_) (fun c594 => ?_)
    · refine x_goto 1520 dL_law_609 (by decide) ?_
      exact K c2 _ _ f1 x1 k1 s1 _ _ _ _ ⟨hC2, hR2, hf2, hS2, hok⟩ hk1 hs1
    · have ht0 : t2 = 0 := (nI_eq (b := 0) (by omega) (by omega)).mp c594
      refine x_aload_n dL_law_597 rfl ?_
      refine x_iconst (nI 0) dL_law_598 (by decide) ?_
      refine x_laload dL_law_599 (by first | assumption | (simp (disch := omega) only [up_s, up_n]; first | assumption | rfl)) (by decide) ?_
      refine x_iload dL_law_600 rfl ?_
      refine x_i2l dL_law_602 ?_
      refine x_lcmp dL_law_603 ?_
      refine x_if_eq 609 dL_law_604 (by decide) (fun c604 => ?_) (fun c604 => ?_)
      · refine x_goto 1520 dL_law_609 (by decide) ?_
        exact K c2 _ _ f1 x1 k1 s1 _ _ _ _ ⟨hC2, hR2, hf2, hS2, hok⟩ hk1 hs1
      · exact absurd (by rw [show (nI 0).toNatClampNeg = 0 from rfl, hy ht0]; exact lg_self) c604
  · exact absurd rfl c587
set_option maxRecDepth 20000 in
set_option maxHeartbeats 2000000 in
theorem tc_value {c : Nat → VC} {S : St} {th : Int32} {f : Nat → Int64} {n k s i : Nat} {x : Bool} {sc : Nat → Int32} {o5 o6 o7 o8 : Option Value} {Q : (Option Value ⊕ Nat) → VH → Prop} (hL : LawAt c S th f n sc) (hi : i + 5 ≤ n) (hn : n < 2 ^ 31) (K : ∀ c2 S2 th2 f2 x2 k2 s2 o5 o6 o7 o8, LawAt c2 S2 th2 f2 n sc → k2 ≤ k + 1 → s2 ≤ s + 6 → Xm M_L_law 1520 [some (.ref 0), some (.ref 2), some (.ref 456), some (.ref 464), some (.int (nI (i))), o5, o6, o7, o8] [] ((465, x2, k2, s2), c2) Q) : Xm M_L_law 612 [some (.ref 0), some (.ref 2), some (.ref 456), some (.ref 464), some (.int (nI (i))), o5, o6, o7, o8] [] ((465, x, k, s), c) Q := by
  obtain ⟨n0, tl0, hO0⟩ := hL.2.1.ob
  have hS0 := hL.2.2.2.1
  have hok : StOK (valueM (sc (nI (i + 1)).toNatClampNeg) S).2 := (by rw [st_value]; exact hL.2.2.2.2)
  have hr : ResI (valueM (sc (nI (i + 1)).toNatClampNeg) S).1 [2] := res_value
  refine x_aload_n dL_law_612 rfl ?_
  refine x_aload_n dL_law_613 rfl ?_
  refine x_iload dL_law_614 rfl ?_
  refine x_iconst (nI 1) dL_law_616 (by decide) ?_
  refine x_iaddN dL_law_617 ?_
  refine x_ialoadS dL_law_618 (by first | assumption | (simp (disch := omega) only [up_s, up_n]; first | assumption | rfl)) (inB_nI (by omega) hn) ?_
  refine x_aload_n dL_law_619 rfl ?_
  refine x_cs3 dL_law_620 rfl ?_
  refine (w_value hL.1 hL.2.2.2.2 hL.2.2.1).mono (fun q h' hq => ?_)
  obtain ⟨c1, t, f1, rfl, hC1, hf1, hfr, hm⟩ := hq
  obtain ⟨x1, k1, s1, hh, hk1, hs1⟩ := heap1 hm
  subst hh
  refine Xk.i ?_
  have hR1 : RefAt c1 S th := hL.2.1.fr (fun j z1 z2 => hfr j (by omega))
  obtain ⟨n1, tl1, hO1⟩ := hR1.ob
  have hS1 : c1 0 = cS n sc := (hfr 0 (by omega)).trans hS0
  refine x_istore_5 dL_law_623 rfl ?_
  refine x_aload_n dL_law_625 rfl ?_
  refine x_aload_n dL_law_626 rfl ?_
  refine x_iload dL_law_627 rfl ?_
  refine x_iconst (nI 1) dL_law_629 (by decide) ?_
  refine x_iaddN dL_law_630 ?_
  refine x_ialoadS dL_law_631 (by first | assumption | (simp (disch := omega) only [up_s, up_n]; first | assumption | rfl)) (inB_nI (by omega) hn) ?_
  refine x_cv2 dL_law_632 rfl (by first | assumption | (simp (disch := omega) only [up_s, up_n]; first | assumption | rfl)) rfl ?_
  refine (s_X5_value hR1).mono (fun q h' hq2 => ?_)
  obtain ⟨v, c2, t2, rfl, rfl, hR2, hF2, hm2⟩ := hq2
  obtain ⟨y, rfl, rfl, ht10, hy⟩ := both (es := [2]) (by decide) hr hm hm2
  refine Xk.i ?_
  obtain ⟨n2, tl2, hO2⟩ := hR2.ob
  have hS2 : c2 0 = cS n sc := (hF2 0 (by omega)).trans hS1
  have hf2 : c2 464 = cL 1 f1 := (hF2 464 (by omega)).trans hf1
  have hC2 := hC1.fr (c' := c2) (fun j z => hF2 j (by omega))
  refine x_istore_6 dL_law_635 rfl ?_
  refine x_aload_n dL_law_637 rfl ?_
  refine x_cv1 dL_law_638 rfl (by first | assumption | (simp (disch := omega) only [up_s, up_n]; first | assumption | rfl)) rfl ?_
  refine Cm.rt (s_X5_thrown hR2) ?_
  refine x_iload dL_law_641 rfl ?_
  refine x_icmp_eq 648 dL_law_643 (by decide) (fun c643 => ?_) (fun c643 => ?_)
  · refine x_iload dL_law_648 rfl ?_
    refine x_if_ne 665 dL_law_650 (by decide) (fun c650 => ?_) (fun c650 => ?_)
    · refine x_goto 1520 dL_law_665 (by decide) ?_
      exact K c2 _ _ f1 x1 k1 s1 _ _ _ _ ⟨hC2, hR2, hf2, hS2, hok⟩ hk1 hs1
    · have ht0 : t2 = 0 := (nI_eq (b := 0) (by omega) (by omega)).mp c650
      refine x_aload_n dL_law_653 rfl ?_
      refine x_iconst (nI 0) dL_law_654 (by decide) ?_
      refine x_laload dL_law_655 (by first | assumption | (simp (disch := omega) only [up_s, up_n]; first | assumption | rfl)) (by decide) ?_
      refine x_iload dL_law_656 rfl ?_
      refine x_i2l dL_law_658 ?_
      refine x_lcmp dL_law_659 ?_
      refine x_if_eq 665 dL_law_660 (by decide) (fun c660 => ?_) (fun c660 => ?_)
      · refine x_goto 1520 dL_law_665 (by decide) ?_
        exact K c2 _ _ f1 x1 k1 s1 _ _ _ _ ⟨hC2, hR2, hf2, hS2, hok⟩ hk1 hs1
      · exact absurd (by rw [show (nI 0).toNatClampNeg = 0 from rfl, hy ht0]; exact lg_self) c660
  · exact absurd rfl c643
set_option maxRecDepth 20000 in
set_option maxHeartbeats 2000000 in
theorem tc_setLine {c : Nat → VC} {S : St} {th : Int32} {f : Nat → Int64} {n k s i : Nat} {x : Bool} {sc : Nat → Int32} {o5 o6 o7 o8 : Option Value} {Q : (Option Value ⊕ Nat) → VH → Prop} (hL : LawAt c S th f n sc) (hi : i + 5 ≤ n) (hn : n < 2 ^ 31) (K : ∀ c2 S2 th2 f2 x2 k2 s2 o5 o6 o7 o8, LawAt c2 S2 th2 f2 n sc → k2 ≤ k + 1 → s2 ≤ s + 6 → Xm M_L_law 1520 [some (.ref 0), some (.ref 2), some (.ref 456), some (.ref 464), some (.int (nI (i))), o5, o6, o7, o8] [] ((465, x2, k2, s2), c2) Q) : Xm M_L_law 668 [some (.ref 0), some (.ref 2), some (.ref 456), some (.ref 464), some (.int (nI (i))), o5, o6, o7, o8] [] ((465, x, k, s), c) Q := by
  obtain ⟨n0, tl0, hO0⟩ := hL.2.1.ob
  have hS0 := hL.2.2.2.1
  have hok : StOK (setLineM (sc (nI (i + 1)).toNatClampNeg) S).2 := ok_setLine hL.2.2.2.2 hL.2.1.wf.2
  have hr : ResI (setLineM (sc (nI (i + 1)).toNatClampNeg) S).1 [1, 3] := res_setLine
  refine x_aload_n dL_law_668 rfl ?_
  refine x_aload_n dL_law_669 rfl ?_
  refine x_iload dL_law_670 rfl ?_
  refine x_iconst (nI 1) dL_law_672 (by decide) ?_
  refine x_iaddN dL_law_673 ?_
  refine x_ialoadS dL_law_674 (by first | assumption | (simp (disch := omega) only [up_s, up_n]; first | assumption | rfl)) (inB_nI (by omega) hn) ?_
  refine x_aload_n dL_law_675 rfl ?_
  refine x_cs3 dL_law_676 rfl ?_
  refine (w_setLine hL.1 hL.2.2.2.2 hL.2.2.1).mono (fun q h' hq => ?_)
  obtain ⟨c1, t, f1, rfl, hC1, hf1, hfr, hm⟩ := hq
  obtain ⟨x1, k1, s1, hh, hk1, hs1⟩ := heap1 hm
  subst hh
  refine Xk.i ?_
  have hR1 : RefAt c1 S th := hL.2.1.fr (fun j z1 z2 => hfr j (by omega))
  obtain ⟨n1, tl1, hO1⟩ := hR1.ob
  have hS1 : c1 0 = cS n sc := (hfr 0 (by omega)).trans hS0
  refine x_istore_5 dL_law_679 rfl ?_
  refine x_aload_n dL_law_681 rfl ?_
  refine x_aload_n dL_law_682 rfl ?_
  refine x_iload dL_law_683 rfl ?_
  refine x_iconst (nI 1) dL_law_685 (by decide) ?_
  refine x_iaddN dL_law_686 ?_
  refine x_ialoadS dL_law_687 (by first | assumption | (simp (disch := omega) only [up_s, up_n]; first | assumption | rfl)) (inB_nI (by omega) hn) ?_
  refine x_cv2 dL_law_688 rfl (by first | assumption | (simp (disch := omega) only [up_s, up_n]; first | assumption | rfl)) rfl ?_
  refine (s_X5_setLine hR1).mono (fun q h' hq2 => ?_)
  obtain ⟨v, c2, t2, rfl, rfl, hR2, hF2, hm2⟩ := hq2
  obtain ⟨y, rfl, rfl, ht10, hy⟩ := both (es := [1, 3]) (by decide) hr hm hm2
  refine Xk.i ?_
  obtain ⟨n2, tl2, hO2⟩ := hR2.ob
  have hS2 : c2 0 = cS n sc := (hF2 0 (by omega)).trans hS1
  have hf2 : c2 464 = cL 1 f1 := (hF2 464 (by omega)).trans hf1
  have hC2 := hC1.fr (c' := c2) (fun j z => hF2 j (by omega))
  refine x_istore_6 dL_law_691 rfl ?_
  refine x_aload_n dL_law_693 rfl ?_
  refine x_cv1 dL_law_694 rfl (by first | assumption | (simp (disch := omega) only [up_s, up_n]; first | assumption | rfl)) rfl ?_
  refine Cm.rt (s_X5_thrown hR2) ?_
  refine x_iload dL_law_697 rfl ?_
  refine x_icmp_eq 704 dL_law_699 (by decide) (fun c699 => ?_) (fun c699 => ?_)
  · refine x_iload dL_law_704 rfl ?_
    refine x_if_ne 721 dL_law_706 (by decide) (fun c706 => ?_) (fun c706 => ?_)
    · refine x_goto 1520 dL_law_721 (by decide) ?_
      exact K c2 _ _ f1 x1 k1 s1 _ _ _ _ ⟨hC2, hR2, hf2, hS2, hok⟩ hk1 hs1
    · have ht0 : t2 = 0 := (nI_eq (b := 0) (by omega) (by omega)).mp c706
      refine x_aload_n dL_law_709 rfl ?_
      refine x_iconst (nI 0) dL_law_710 (by decide) ?_
      refine x_laload dL_law_711 (by first | assumption | (simp (disch := omega) only [up_s, up_n]; first | assumption | rfl)) (by decide) ?_
      refine x_iload dL_law_712 rfl ?_
      refine x_i2l dL_law_714 ?_
      refine x_lcmp dL_law_715 ?_
      refine x_if_eq 721 dL_law_716 (by decide) (fun c716 => ?_) (fun c716 => ?_)
      · refine x_goto 1520 dL_law_721 (by decide) ?_
        exact K c2 _ _ f1 x1 k1 s1 _ _ _ _ ⟨hC2, hR2, hf2, hS2, hok⟩ hk1 hs1
      · exact absurd (by rw [show (nI 0).toNatClampNeg = 0 from rfl, hy ht0]; exact lg_self) c716
  · exact absurd rfl c699
set_option maxRecDepth 20000 in
set_option maxHeartbeats 2000000 in
theorem tc_correct {c : Nat → VC} {S : St} {th : Int32} {f : Nat → Int64} {n k s i : Nat} {x : Bool} {sc : Nat → Int32} {o5 o6 o7 o8 : Option Value} {Q : (Option Value ⊕ Nat) → VH → Prop} (hL : LawAt c S th f n sc) (hi : i + 5 ≤ n) (hn : n < 2 ^ 31) (K : ∀ c2 S2 th2 f2 x2 k2 s2 o5 o6 o7 o8, LawAt c2 S2 th2 f2 n sc → k2 ≤ k + 1 → s2 ≤ s + 6 → Xm M_L_law 1520 [some (.ref 0), some (.ref 2), some (.ref 456), some (.ref 464), some (.int (nI (i))), o5, o6, o7, o8] [] ((465, x2, k2, s2), c2) Q) : Xm M_L_law 724 [some (.ref 0), some (.ref 2), some (.ref 456), some (.ref 464), some (.int (nI (i))), o5, o6, o7, o8] [] ((465, x, k, s), c) Q := by
  obtain ⟨n0, tl0, hO0⟩ := hL.2.1.ob
  have hS0 := hL.2.2.2.1
  have hok : StOK (correctM (sc (nI (i + 1)).toNatClampNeg) S).2 := ok_correct hL.2.2.2.2 hL.2.1.wf.1
  have hr : ResI (correctM (sc (nI (i + 1)).toNatClampNeg) S).1 [1] := res_correct
  refine x_aload_n dL_law_724 rfl ?_
  refine x_aload_n dL_law_725 rfl ?_
  refine x_iload dL_law_726 rfl ?_
  refine x_iconst (nI 1) dL_law_728 (by decide) ?_
  refine x_iaddN dL_law_729 ?_
  refine x_ialoadS dL_law_730 (by first | assumption | (simp (disch := omega) only [up_s, up_n]; first | assumption | rfl)) (inB_nI (by omega) hn) ?_
  refine x_aload_n dL_law_731 rfl ?_
  refine x_cs3 dL_law_732 rfl ?_
  refine (w_correct hL.1 hL.2.2.2.2 hL.2.2.1).mono (fun q h' hq => ?_)
  obtain ⟨c1, t, f1, rfl, hC1, hf1, hfr, hm⟩ := hq
  obtain ⟨x1, k1, s1, hh, hk1, hs1⟩ := heap1 hm
  subst hh
  refine Xk.i ?_
  have hR1 : RefAt c1 S th := hL.2.1.fr (fun j z1 z2 => hfr j (by omega))
  obtain ⟨n1, tl1, hO1⟩ := hR1.ob
  have hS1 : c1 0 = cS n sc := (hfr 0 (by omega)).trans hS0
  refine x_istore_5 dL_law_735 rfl ?_
  refine x_aload_n dL_law_737 rfl ?_
  refine x_aload_n dL_law_738 rfl ?_
  refine x_iload dL_law_739 rfl ?_
  refine x_iconst (nI 1) dL_law_741 (by decide) ?_
  refine x_iaddN dL_law_742 ?_
  refine x_ialoadS dL_law_743 (by first | assumption | (simp (disch := omega) only [up_s, up_n]; first | assumption | rfl)) (inB_nI (by omega) hn) ?_
  refine x_cv2 dL_law_744 rfl (by first | assumption | (simp (disch := omega) only [up_s, up_n]; first | assumption | rfl)) rfl ?_
  refine (s_X5_correct hR1).mono (fun q h' hq2 => ?_)
  obtain ⟨v, c2, t2, rfl, rfl, hR2, hF2, hm2⟩ := hq2
  obtain ⟨y, rfl, rfl, ht10, hy⟩ := both (es := [1]) (by decide) hr hm hm2
  refine Xk.i ?_
  obtain ⟨n2, tl2, hO2⟩ := hR2.ob
  have hS2 : c2 0 = cS n sc := (hF2 0 (by omega)).trans hS1
  have hf2 : c2 464 = cL 1 f1 := (hF2 464 (by omega)).trans hf1
  have hC2 := hC1.fr (c' := c2) (fun j z => hF2 j (by omega))
  refine x_istore_6 dL_law_747 rfl ?_
  refine x_aload_n dL_law_749 rfl ?_
  refine x_cv1 dL_law_750 rfl (by first | assumption | (simp (disch := omega) only [up_s, up_n]; first | assumption | rfl)) rfl ?_
  refine Cm.rt (s_X5_thrown hR2) ?_
  refine x_iload dL_law_753 rfl ?_
  refine x_icmp_eq 760 dL_law_755 (by decide) (fun c755 => ?_) (fun c755 => ?_)
  · refine x_iload dL_law_760 rfl ?_
    refine x_if_ne 777 dL_law_762 (by decide) (fun c762 => ?_) (fun c762 => ?_)
    · refine x_goto 1520 dL_law_777 (by decide) ?_
      exact K c2 _ _ f1 x1 k1 s1 _ _ _ _ ⟨hC2, hR2, hf2, hS2, hok⟩ hk1 hs1
    · have ht0 : t2 = 0 := (nI_eq (b := 0) (by omega) (by omega)).mp c762
      refine x_aload_n dL_law_765 rfl ?_
      refine x_iconst (nI 0) dL_law_766 (by decide) ?_
      refine x_laload dL_law_767 (by first | assumption | (simp (disch := omega) only [up_s, up_n]; first | assumption | rfl)) (by decide) ?_
      refine x_iload dL_law_768 rfl ?_
      refine x_i2l dL_law_770 ?_
      refine x_lcmp dL_law_771 ?_
      refine x_if_eq 777 dL_law_772 (by decide) (fun c772 => ?_) (fun c772 => ?_)
      · refine x_goto 1520 dL_law_777 (by decide) ?_
        exact K c2 _ _ f1 x1 k1 s1 _ _ _ _ ⟨hC2, hR2, hf2, hS2, hok⟩ hk1 hs1
      · exact absurd (by rw [show (nI 0).toNatClampNeg = 0 from rfl, hy ht0]; exact lg_self) c772
  · exact absurd rfl c755
set_option maxRecDepth 20000 in
set_option maxHeartbeats 2000000 in
theorem tc_distribute {c : Nat → VC} {S : St} {th : Int32} {f : Nat → Int64} {n k s i : Nat} {x : Bool} {sc : Nat → Int32} {o5 o6 o7 o8 : Option Value} {Q : (Option Value ⊕ Nat) → VH → Prop} (hL : LawAt c S th f n sc) (hi : i + 5 ≤ n) (hn : n < 2 ^ 31) (K : ∀ c2 S2 th2 f2 x2 k2 s2 o5 o6 o7 o8, LawAt c2 S2 th2 f2 n sc → k2 ≤ k + 1 → s2 ≤ s + 6 → Xm M_L_law 1520 [some (.ref 0), some (.ref 2), some (.ref 456), some (.ref 464), some (.int (nI (i))), o5, o6, o7, o8] [] ((465, x2, k2, s2), c2) Q) : Xm M_L_law 780 [some (.ref 0), some (.ref 2), some (.ref 456), some (.ref 464), some (.int (nI (i))), o5, o6, o7, o8] [] ((465, x, k, s), c) Q := by
  obtain ⟨n0, tl0, hO0⟩ := hL.2.1.ob
  have hS0 := hL.2.2.2.1
  have hok : StOK (distributeM (sc (nI (i + 1)).toNatClampNeg) S).2 := ok_distribute hL.2.2.2.2 hL.2.1.wf.1
  have hr : ResI (distributeM (sc (nI (i + 1)).toNatClampNeg) S).1 [1] := res_distribute
  refine x_aload_n dL_law_780 rfl ?_
  refine x_aload_n dL_law_781 rfl ?_
  refine x_iload dL_law_782 rfl ?_
  refine x_iconst (nI 1) dL_law_784 (by decide) ?_
  refine x_iaddN dL_law_785 ?_
  refine x_ialoadS dL_law_786 (by first | assumption | (simp (disch := omega) only [up_s, up_n]; first | assumption | rfl)) (inB_nI (by omega) hn) ?_
  refine x_aload_n dL_law_787 rfl ?_
  refine x_cs3 dL_law_788 rfl ?_
  refine (w_distribute hL.1 hL.2.2.2.2 hL.2.2.1).mono (fun q h' hq => ?_)
  obtain ⟨c1, t, f1, rfl, hC1, hf1, hfr, hm⟩ := hq
  obtain ⟨x1, k1, s1, hh, hk1, hs1⟩ := heap1 hm
  subst hh
  refine Xk.i ?_
  have hR1 : RefAt c1 S th := hL.2.1.fr (fun j z1 z2 => hfr j (by omega))
  obtain ⟨n1, tl1, hO1⟩ := hR1.ob
  have hS1 : c1 0 = cS n sc := (hfr 0 (by omega)).trans hS0
  refine x_istore_5 dL_law_791 rfl ?_
  refine x_aload_n dL_law_793 rfl ?_
  refine x_aload_n dL_law_794 rfl ?_
  refine x_iload dL_law_795 rfl ?_
  refine x_iconst (nI 1) dL_law_797 (by decide) ?_
  refine x_iaddN dL_law_798 ?_
  refine x_ialoadS dL_law_799 (by first | assumption | (simp (disch := omega) only [up_s, up_n]; first | assumption | rfl)) (inB_nI (by omega) hn) ?_
  refine x_cv2 dL_law_800 rfl (by first | assumption | (simp (disch := omega) only [up_s, up_n]; first | assumption | rfl)) rfl ?_
  refine (s_X5_distribute hR1 hL.2.2.2.2).mono (fun q h' hq2 => ?_)
  obtain ⟨v, c2, t2, rfl, rfl, hR2, hF2, hm2⟩ := hq2
  obtain ⟨y, rfl, rfl, ht10, hy⟩ := both (es := [1]) (by decide) hr hm hm2
  refine Xk.i ?_
  obtain ⟨n2, tl2, hO2⟩ := hR2.ob
  have hS2 : c2 0 = cS n sc := (hF2 0 (by omega)).trans hS1
  have hf2 : c2 464 = cL 1 f1 := (hF2 464 (by omega)).trans hf1
  have hC2 := hC1.fr (c' := c2) (fun j z => hF2 j (by omega))
  refine x_istore_6 dL_law_803 rfl ?_
  refine x_aload_n dL_law_805 rfl ?_
  refine x_cv1 dL_law_806 rfl (by first | assumption | (simp (disch := omega) only [up_s, up_n]; first | assumption | rfl)) rfl ?_
  refine Cm.rt (s_X5_thrown hR2) ?_
  refine x_iload dL_law_809 rfl ?_
  refine x_icmp_eq 816 dL_law_811 (by decide) (fun c811 => ?_) (fun c811 => ?_)
  · refine x_iload dL_law_816 rfl ?_
    refine x_if_ne 833 dL_law_818 (by decide) (fun c818 => ?_) (fun c818 => ?_)
    · refine x_goto 1520 dL_law_833 (by decide) ?_
      exact K c2 _ _ f1 x1 k1 s1 _ _ _ _ ⟨hC2, hR2, hf2, hS2, hok⟩ hk1 hs1
    · have ht0 : t2 = 0 := (nI_eq (b := 0) (by omega) (by omega)).mp c818
      refine x_aload_n dL_law_821 rfl ?_
      refine x_iconst (nI 0) dL_law_822 (by decide) ?_
      refine x_laload dL_law_823 (by first | assumption | (simp (disch := omega) only [up_s, up_n]; first | assumption | rfl)) (by decide) ?_
      refine x_iload dL_law_824 rfl ?_
      refine x_i2l dL_law_826 ?_
      refine x_lcmp dL_law_827 ?_
      refine x_if_eq 833 dL_law_828 (by decide) (fun c828 => ?_) (fun c828 => ?_)
      · refine x_goto 1520 dL_law_833 (by decide) ?_
        exact K c2 _ _ f1 x1 k1 s1 _ _ _ _ ⟨hC2, hR2, hf2, hS2, hok⟩ hk1 hs1
      · exact absurd (by rw [show (nI 0).toNatClampNeg = 0 from rfl, hy ht0]; exact lg_self) c828
  · exact absurd rfl c811
set_option maxRecDepth 20000 in
set_option maxHeartbeats 2000000 in
theorem tc_pie {c : Nat → VC} {S : St} {th : Int32} {f : Nat → Int64} {n k s i : Nat} {x : Bool} {sc : Nat → Int32} {o5 o6 o7 o8 : Option Value} {Q : (Option Value ⊕ Nat) → VH → Prop} (hL : LawAt c S th f n sc) (hi : i + 5 ≤ n) (hn : n < 2 ^ 31) (K : ∀ c2 S2 th2 f2 x2 k2 s2 o5 o6 o7 o8, LawAt c2 S2 th2 f2 n sc → k2 ≤ k + 1 → s2 ≤ s + 6 → Xm M_L_law 1520 [some (.ref 0), some (.ref 2), some (.ref 456), some (.ref 464), some (.int (nI (i))), o5, o6, o7, o8] [] ((465, x2, k2, s2), c2) Q) : Xm M_L_law 836 [some (.ref 0), some (.ref 2), some (.ref 456), some (.ref 464), some (.int (nI (i))), o5, o6, o7, o8] [] ((465, x, k, s), c) Q := by
  obtain ⟨n0, tl0, hO0⟩ := hL.2.1.ob
  have hS0 := hL.2.2.2.1
  have hok : StOK (pieM (sc (nI (i + 1)).toNatClampNeg) S).2 := ok_pie hL.2.2.2.2
  have hr : ResI (pieM (sc (nI (i + 1)).toNatClampNeg) S).1 [1] := res_pie
  refine x_aload_n dL_law_836 rfl ?_
  refine x_aload_n dL_law_837 rfl ?_
  refine x_iload dL_law_838 rfl ?_
  refine x_iconst (nI 1) dL_law_840 (by decide) ?_
  refine x_iaddN dL_law_841 ?_
  refine x_ialoadS dL_law_842 (by first | assumption | (simp (disch := omega) only [up_s, up_n]; first | assumption | rfl)) (inB_nI (by omega) hn) ?_
  refine x_aload_n dL_law_843 rfl ?_
  refine x_cs3 dL_law_844 rfl ?_
  refine (w_pie hL.1 hL.2.2.2.2 hL.2.2.1).mono (fun q h' hq => ?_)
  obtain ⟨c1, t, f1, rfl, hC1, hf1, hfr, hm⟩ := hq
  obtain ⟨x1, k1, s1, hh, hk1, hs1⟩ := heap1 hm
  subst hh
  refine Xk.i ?_
  have hR1 : RefAt c1 S th := hL.2.1.fr (fun j z1 z2 => hfr j (by omega))
  obtain ⟨n1, tl1, hO1⟩ := hR1.ob
  have hS1 : c1 0 = cS n sc := (hfr 0 (by omega)).trans hS0
  refine x_istore_5 dL_law_847 rfl ?_
  refine x_aload_n dL_law_849 rfl ?_
  refine x_aload_n dL_law_850 rfl ?_
  refine x_iload dL_law_851 rfl ?_
  refine x_iconst (nI 1) dL_law_853 (by decide) ?_
  refine x_iaddN dL_law_854 ?_
  refine x_ialoadS dL_law_855 (by first | assumption | (simp (disch := omega) only [up_s, up_n]; first | assumption | rfl)) (inB_nI (by omega) hn) ?_
  refine x_cv2 dL_law_856 rfl (by first | assumption | (simp (disch := omega) only [up_s, up_n]; first | assumption | rfl)) rfl ?_
  refine (s_X5_pie hR1 hL.2.2.2.2).mono (fun q h' hq2 => ?_)
  obtain ⟨v, c2, t2, rfl, rfl, hR2, hF2, hm2⟩ := hq2
  obtain ⟨y, rfl, rfl, ht10, hy⟩ := both (es := [1]) (by decide) hr hm hm2
  refine Xk.i ?_
  obtain ⟨n2, tl2, hO2⟩ := hR2.ob
  have hS2 : c2 0 = cS n sc := (hF2 0 (by omega)).trans hS1
  have hf2 : c2 464 = cL 1 f1 := (hF2 464 (by omega)).trans hf1
  have hC2 := hC1.fr (c' := c2) (fun j z => hF2 j (by omega))
  refine x_istore_6 dL_law_859 rfl ?_
  refine x_aload_n dL_law_861 rfl ?_
  refine x_cv1 dL_law_862 rfl (by first | assumption | (simp (disch := omega) only [up_s, up_n]; first | assumption | rfl)) rfl ?_
  refine Cm.rt (s_X5_thrown hR2) ?_
  refine x_iload dL_law_865 rfl ?_
  refine x_icmp_eq 872 dL_law_867 (by decide) (fun c867 => ?_) (fun c867 => ?_)
  · refine x_iload dL_law_872 rfl ?_
    refine x_if_ne 889 dL_law_874 (by decide) (fun c874 => ?_) (fun c874 => ?_)
    · refine x_goto 1520 dL_law_889 (by decide) ?_
      exact K c2 _ _ f1 x1 k1 s1 _ _ _ _ ⟨hC2, hR2, hf2, hS2, hok⟩ hk1 hs1
    · have ht0 : t2 = 0 := (nI_eq (b := 0) (by omega) (by omega)).mp c874
      refine x_aload_n dL_law_877 rfl ?_
      refine x_iconst (nI 0) dL_law_878 (by decide) ?_
      refine x_laload dL_law_879 (by first | assumption | (simp (disch := omega) only [up_s, up_n]; first | assumption | rfl)) (by decide) ?_
      refine x_iload dL_law_880 rfl ?_
      refine x_i2l dL_law_882 ?_
      refine x_lcmp dL_law_883 ?_
      refine x_if_eq 889 dL_law_884 (by decide) (fun c884 => ?_) (fun c884 => ?_)
      · refine x_goto 1520 dL_law_889 (by decide) ?_
        exact K c2 _ _ f1 x1 k1 s1 _ _ _ _ ⟨hC2, hR2, hf2, hS2, hok⟩ hk1 hs1
      · exact absurd (by rw [show (nI 0).toNatClampNeg = 0 from rfl, hy ht0]; exact lg_self) c884
  · exact absurd rfl c867
set_option maxRecDepth 20000 in
set_option maxHeartbeats 2000000 in
theorem tc_sortHeap {c : Nat → VC} {S : St} {th : Int32} {f : Nat → Int64} {n k s i : Nat} {x : Bool} {sc : Nat → Int32} {o5 o6 o7 o8 : Option Value} {Q : (Option Value ⊕ Nat) → VH → Prop} (hL : LawAt c S th f n sc) (hi : i + 5 ≤ n) (hn : n < 2 ^ 31) (K : ∀ c2 S2 th2 f2 x2 k2 s2 o5 o6 o7 o8, LawAt c2 S2 th2 f2 n sc → k2 ≤ k + 1 → s2 ≤ s + 6 → Xm M_L_law 1520 [some (.ref 0), some (.ref 2), some (.ref 456), some (.ref 464), some (.int (nI (i))), o5, o6, o7, o8] [] ((465, x2, k2, s2), c2) Q) : Xm M_L_law 892 [some (.ref 0), some (.ref 2), some (.ref 456), some (.ref 464), some (.int (nI (i))), o5, o6, o7, o8] [] ((465, x, k, s), c) Q := by
  obtain ⟨n0, tl0, hO0⟩ := hL.2.1.ob
  have hS0 := hL.2.2.2.1
  have hok : StOK (sortHeapM (sc (nI (i + 1)).toNatClampNeg) S).2 := ok_sortHeap hL.2.2.2.2 hL.2.1.wf.1
  have hr : ResI (sortHeapM (sc (nI (i + 1)).toNatClampNeg) S).1 [2] := res_sortHeap
  refine x_aload_n dL_law_892 rfl ?_
  refine x_aload_n dL_law_893 rfl ?_
  refine x_iload dL_law_894 rfl ?_
  refine x_iconst (nI 1) dL_law_896 (by decide) ?_
  refine x_iaddN dL_law_897 ?_
  refine x_ialoadS dL_law_898 (by first | assumption | (simp (disch := omega) only [up_s, up_n]; first | assumption | rfl)) (inB_nI (by omega) hn) ?_
  refine x_aload_n dL_law_899 rfl ?_
  refine x_cs3 dL_law_900 rfl ?_
  refine (w_sortHeap hL.1 hL.2.2.2.2 hL.2.2.1).mono (fun q h' hq => ?_)
  obtain ⟨c1, t, f1, rfl, hC1, hf1, hfr, hm⟩ := hq
  obtain ⟨x1, k1, s1, hh, hk1, hs1⟩ := heap1 hm
  subst hh
  refine Xk.i ?_
  have hR1 : RefAt c1 S th := hL.2.1.fr (fun j z1 z2 => hfr j (by omega))
  obtain ⟨n1, tl1, hO1⟩ := hR1.ob
  have hS1 : c1 0 = cS n sc := (hfr 0 (by omega)).trans hS0
  refine x_istore_5 dL_law_903 rfl ?_
  refine x_aload_n dL_law_905 rfl ?_
  refine x_aload_n dL_law_906 rfl ?_
  refine x_iload dL_law_907 rfl ?_
  refine x_iconst (nI 1) dL_law_909 (by decide) ?_
  refine x_iaddN dL_law_910 ?_
  refine x_ialoadS dL_law_911 (by first | assumption | (simp (disch := omega) only [up_s, up_n]; first | assumption | rfl)) (inB_nI (by omega) hn) ?_
  refine x_cv2 dL_law_912 rfl (by first | assumption | (simp (disch := omega) only [up_s, up_n]; first | assumption | rfl)) rfl ?_
  refine (s_X5_sortHeap hR1 hL.2.2.2.2).mono (fun q h' hq2 => ?_)
  obtain ⟨v, c2, t2, rfl, rfl, hR2, hF2, hm2⟩ := hq2
  obtain ⟨y, rfl, rfl, ht10, hy⟩ := both (es := [2]) (by decide) hr hm hm2
  refine Xk.i ?_
  obtain ⟨n2, tl2, hO2⟩ := hR2.ob
  have hS2 : c2 0 = cS n sc := (hF2 0 (by omega)).trans hS1
  have hf2 : c2 464 = cL 1 f1 := (hF2 464 (by omega)).trans hf1
  have hC2 := hC1.fr (c' := c2) (fun j z => hF2 j (by omega))
  refine x_istore_6 dL_law_915 rfl ?_
  refine x_aload_n dL_law_917 rfl ?_
  refine x_cv1 dL_law_918 rfl (by first | assumption | (simp (disch := omega) only [up_s, up_n]; first | assumption | rfl)) rfl ?_
  refine Cm.rt (s_X5_thrown hR2) ?_
  refine x_iload dL_law_921 rfl ?_
  refine x_icmp_eq 928 dL_law_923 (by decide) (fun c923 => ?_) (fun c923 => ?_)
  · refine x_iload dL_law_928 rfl ?_
    refine x_if_ne 945 dL_law_930 (by decide) (fun c930 => ?_) (fun c930 => ?_)
    · refine x_goto 1520 dL_law_945 (by decide) ?_
      exact K c2 _ _ f1 x1 k1 s1 _ _ _ _ ⟨hC2, hR2, hf2, hS2, hok⟩ hk1 hs1
    · have ht0 : t2 = 0 := (nI_eq (b := 0) (by omega) (by omega)).mp c930
      refine x_aload_n dL_law_933 rfl ?_
      refine x_iconst (nI 0) dL_law_934 (by decide) ?_
      refine x_laload dL_law_935 (by first | assumption | (simp (disch := omega) only [up_s, up_n]; first | assumption | rfl)) (by decide) ?_
      refine x_iload dL_law_936 rfl ?_
      refine x_i2l dL_law_938 ?_
      refine x_lcmp dL_law_939 ?_
      refine x_if_eq 945 dL_law_940 (by decide) (fun c940 => ?_) (fun c940 => ?_)
      · refine x_goto 1520 dL_law_945 (by decide) ?_
        exact K c2 _ _ f1 x1 k1 s1 _ _ _ _ ⟨hC2, hR2, hf2, hS2, hok⟩ hk1 hs1
      · exact absurd (by rw [show (nI 0).toNatClampNeg = 0 from rfl, hy ht0]; exact lg_self) c940
  · exact absurd rfl c923
set_option maxRecDepth 20000 in
set_option maxHeartbeats 2000000 in
theorem tc_forme {c : Nat → VC} {S : St} {th : Int32} {f : Nat → Int64} {n k s i : Nat} {x : Bool} {sc : Nat → Int32} {o5 o6 o7 o8 : Option Value} {Q : (Option Value ⊕ Nat) → VH → Prop} (hL : LawAt c S th f n sc) (hi : i + 5 ≤ n) (hn : n < 2 ^ 31) (K : ∀ c2 S2 th2 f2 x2 k2 s2 o5 o6 o7 o8, LawAt c2 S2 th2 f2 n sc → k2 ≤ k + 1 → s2 ≤ s + 6 → Xm M_L_law 1520 [some (.ref 0), some (.ref 2), some (.ref 456), some (.ref 464), some (.int (nI (i))), o5, o6, o7, o8] [] ((465, x2, k2, s2), c2) Q) : Xm M_L_law 948 [some (.ref 0), some (.ref 2), some (.ref 456), some (.ref 464), some (.int (nI (i))), o5, o6, o7, o8] [] ((465, x, k, s), c) Q := by
  obtain ⟨n0, tl0, hO0⟩ := hL.2.1.ob
  have hS0 := hL.2.2.2.1
  have hok : StOK (formeM (sc (nI (i + 1)).toNatClampNeg) (sc (nI (i + 2)).toNatClampNeg) S).2 := (by rw [st_forme]; exact hL.2.2.2.2)
  have hr : ResI (formeM (sc (nI (i + 1)).toNatClampNeg) (sc (nI (i + 2)).toNatClampNeg) S).1 [1, 2] := res_forme
  refine x_aload_n dL_law_948 rfl ?_
  refine x_aload_n dL_law_949 rfl ?_
  refine x_iload dL_law_950 rfl ?_
  refine x_iconst (nI 1) dL_law_952 (by decide) ?_
  refine x_iaddN dL_law_953 ?_
  refine x_ialoadS dL_law_954 (by first | assumption | (simp (disch := omega) only [up_s, up_n]; first | assumption | rfl)) (inB_nI (by omega) hn) ?_
  refine x_aload_n dL_law_955 rfl ?_
  refine x_iload dL_law_956 rfl ?_
  refine x_iconst (nI 2) dL_law_958 (by decide) ?_
  refine x_iaddN dL_law_959 ?_
  refine x_ialoadS dL_law_960 (by first | assumption | (simp (disch := omega) only [up_s, up_n]; first | assumption | rfl)) (inB_nI (by omega) hn) ?_
  refine x_aload_n dL_law_961 rfl ?_
  refine x_cs4 dL_law_962 rfl ?_
  refine (w_forme hL.1 hL.2.2.2.2 hL.2.2.1).mono (fun q h' hq => ?_)
  obtain ⟨c1, t, f1, rfl, hC1, hf1, hfr, hm⟩ := hq
  obtain ⟨x1, k1, s1, hh, hk1, hs1⟩ := heap1 hm
  subst hh
  refine Xk.i ?_
  have hR1 : RefAt c1 S th := hL.2.1.fr (fun j z1 z2 => hfr j (by omega))
  obtain ⟨n1, tl1, hO1⟩ := hR1.ob
  have hS1 : c1 0 = cS n sc := (hfr 0 (by omega)).trans hS0
  refine x_istore_5 dL_law_965 rfl ?_
  refine x_aload_n dL_law_967 rfl ?_
  refine x_aload_n dL_law_968 rfl ?_
  refine x_iload dL_law_969 rfl ?_
  refine x_iconst (nI 1) dL_law_971 (by decide) ?_
  refine x_iaddN dL_law_972 ?_
  refine x_ialoadS dL_law_973 (by first | assumption | (simp (disch := omega) only [up_s, up_n]; first | assumption | rfl)) (inB_nI (by omega) hn) ?_
  refine x_aload_n dL_law_974 rfl ?_
  refine x_iload dL_law_975 rfl ?_
  refine x_iconst (nI 2) dL_law_977 (by decide) ?_
  refine x_iaddN dL_law_978 ?_
  refine x_ialoadS dL_law_979 (by first | assumption | (simp (disch := omega) only [up_s, up_n]; first | assumption | rfl)) (inB_nI (by omega) hn) ?_
  refine x_cv3 dL_law_980 rfl (by first | assumption | (simp (disch := omega) only [up_s, up_n]; first | assumption | rfl)) rfl ?_
  refine (s_X5_forme hR1).mono (fun q h' hq2 => ?_)
  obtain ⟨v, c2, t2, rfl, rfl, hR2, hF2, hm2⟩ := hq2
  obtain ⟨y, rfl, rfl, ht10, hy⟩ := both (es := [1, 2]) (by decide) hr hm hm2
  refine Xk.i ?_
  obtain ⟨n2, tl2, hO2⟩ := hR2.ob
  have hS2 : c2 0 = cS n sc := (hF2 0 (by omega)).trans hS1
  have hf2 : c2 464 = cL 1 f1 := (hF2 464 (by omega)).trans hf1
  have hC2 := hC1.fr (c' := c2) (fun j z => hF2 j (by omega))
  refine x_istore_6 dL_law_983 rfl ?_
  refine x_aload_n dL_law_985 rfl ?_
  refine x_cv1 dL_law_986 rfl (by first | assumption | (simp (disch := omega) only [up_s, up_n]; first | assumption | rfl)) rfl ?_
  refine Cm.rt (s_X5_thrown hR2) ?_
  refine x_iload dL_law_989 rfl ?_
  refine x_icmp_eq 996 dL_law_991 (by decide) (fun c991 => ?_) (fun c991 => ?_)
  · refine x_iload dL_law_996 rfl ?_
    refine x_if_ne 1013 dL_law_998 (by decide) (fun c998 => ?_) (fun c998 => ?_)
    · refine x_goto 1520 dL_law_1013 (by decide) ?_
      exact K c2 _ _ f1 x1 k1 s1 _ _ _ _ ⟨hC2, hR2, hf2, hS2, hok⟩ hk1 hs1
    · have ht0 : t2 = 0 := (nI_eq (b := 0) (by omega) (by omega)).mp c998
      refine x_aload_n dL_law_1001 rfl ?_
      refine x_iconst (nI 0) dL_law_1002 (by decide) ?_
      refine x_laload dL_law_1003 (by first | assumption | (simp (disch := omega) only [up_s, up_n]; first | assumption | rfl)) (by decide) ?_
      refine x_iload dL_law_1004 rfl ?_
      refine x_i2l dL_law_1006 ?_
      refine x_lcmp dL_law_1007 ?_
      refine x_if_eq 1013 dL_law_1008 (by decide) (fun c1008 => ?_) (fun c1008 => ?_)
      · refine x_goto 1520 dL_law_1013 (by decide) ?_
        exact K c2 _ _ f1 x1 k1 s1 _ _ _ _ ⟨hC2, hR2, hf2, hS2, hok⟩ hk1 hs1
      · exact absurd (by rw [show (nI 0).toNatClampNeg = 0 from rfl, hy ht0]; exact lg_self) c1008
  · exact absurd rfl c991
set_option maxRecDepth 20000 in
set_option maxHeartbeats 2000000 in
theorem tc_places {c : Nat → VC} {S : St} {th : Int32} {f : Nat → Int64} {n k s i : Nat} {x : Bool} {sc : Nat → Int32} {o5 o6 o7 o8 : Option Value} {Q : (Option Value ⊕ Nat) → VH → Prop} (hL : LawAt c S th f n sc) (hi : i + 5 ≤ n) (hn : n < 2 ^ 31) (K : ∀ c2 S2 th2 f2 x2 k2 s2 o5 o6 o7 o8, LawAt c2 S2 th2 f2 n sc → k2 ≤ k + 1 → s2 ≤ s + 6 → Xm M_L_law 1520 [some (.ref 0), some (.ref 2), some (.ref 456), some (.ref 464), some (.int (nI (i))), o5, o6, o7, o8] [] ((465, x2, k2, s2), c2) Q) : Xm M_L_law 1016 [some (.ref 0), some (.ref 2), some (.ref 456), some (.ref 464), some (.int (nI (i))), o5, o6, o7, o8] [] ((465, x, k, s), c) Q := by
  obtain ⟨n0, tl0, hO0⟩ := hL.2.1.ob
  have hS0 := hL.2.2.2.1
  have hok : StOK (placesM (sc (nI (i + 1)).toNatClampNeg) (sc (nI (i + 2)).toNatClampNeg) S).2 := (by rw [st_places]; exact hL.2.2.2.2)
  have hr : ResI (placesM (sc (nI (i + 1)).toNatClampNeg) (sc (nI (i + 2)).toNatClampNeg) S).1 [1] := res_places
  refine x_aload_n dL_law_1016 rfl ?_
  refine x_aload_n dL_law_1017 rfl ?_
  refine x_iload dL_law_1018 rfl ?_
  refine x_iconst (nI 1) dL_law_1020 (by decide) ?_
  refine x_iaddN dL_law_1021 ?_
  refine x_ialoadS dL_law_1022 (by first | assumption | (simp (disch := omega) only [up_s, up_n]; first | assumption | rfl)) (inB_nI (by omega) hn) ?_
  refine x_aload_n dL_law_1023 rfl ?_
  refine x_iload dL_law_1024 rfl ?_
  refine x_iconst (nI 2) dL_law_1026 (by decide) ?_
  refine x_iaddN dL_law_1027 ?_
  refine x_ialoadS dL_law_1028 (by first | assumption | (simp (disch := omega) only [up_s, up_n]; first | assumption | rfl)) (inB_nI (by omega) hn) ?_
  refine x_aload_n dL_law_1029 rfl ?_
  refine x_cs4 dL_law_1030 rfl ?_
  refine (w_places hL.1 hL.2.2.2.2 hL.2.2.1).mono (fun q h' hq => ?_)
  obtain ⟨c1, t, f1, rfl, hC1, hf1, hfr, hm⟩ := hq
  obtain ⟨x1, k1, s1, hh, hk1, hs1⟩ := heap1 hm
  subst hh
  refine Xk.i ?_
  have hR1 : RefAt c1 S th := hL.2.1.fr (fun j z1 z2 => hfr j (by omega))
  obtain ⟨n1, tl1, hO1⟩ := hR1.ob
  have hS1 : c1 0 = cS n sc := (hfr 0 (by omega)).trans hS0
  refine x_istore_5 dL_law_1033 rfl ?_
  refine x_aload_n dL_law_1035 rfl ?_
  refine x_aload_n dL_law_1036 rfl ?_
  refine x_iload dL_law_1037 rfl ?_
  refine x_iconst (nI 1) dL_law_1039 (by decide) ?_
  refine x_iaddN dL_law_1040 ?_
  refine x_ialoadS dL_law_1041 (by first | assumption | (simp (disch := omega) only [up_s, up_n]; first | assumption | rfl)) (inB_nI (by omega) hn) ?_
  refine x_aload_n dL_law_1042 rfl ?_
  refine x_iload dL_law_1043 rfl ?_
  refine x_iconst (nI 2) dL_law_1045 (by decide) ?_
  refine x_iaddN dL_law_1046 ?_
  refine x_ialoadS dL_law_1047 (by first | assumption | (simp (disch := omega) only [up_s, up_n]; first | assumption | rfl)) (inB_nI (by omega) hn) ?_
  refine x_cv3 dL_law_1048 rfl (by first | assumption | (simp (disch := omega) only [up_s, up_n]; first | assumption | rfl)) rfl ?_
  refine (s_X5_places hR1).mono (fun q h' hq2 => ?_)
  obtain ⟨v, c2, t2, rfl, rfl, hR2, hF2, hm2⟩ := hq2
  obtain ⟨y, rfl, rfl, ht10, hy⟩ := both (es := [1]) (by decide) hr hm hm2
  refine Xk.i ?_
  obtain ⟨n2, tl2, hO2⟩ := hR2.ob
  have hS2 : c2 0 = cS n sc := (hF2 0 (by omega)).trans hS1
  have hf2 : c2 464 = cL 1 f1 := (hF2 464 (by omega)).trans hf1
  have hC2 := hC1.fr (c' := c2) (fun j z => hF2 j (by omega))
  refine x_istore_6 dL_law_1051 rfl ?_
  refine x_aload_n dL_law_1053 rfl ?_
  refine x_cv1 dL_law_1054 rfl (by first | assumption | (simp (disch := omega) only [up_s, up_n]; first | assumption | rfl)) rfl ?_
  refine Cm.rt (s_X5_thrown hR2) ?_
  refine x_iload dL_law_1057 rfl ?_
  refine x_icmp_eq 1064 dL_law_1059 (by decide) (fun c1059 => ?_) (fun c1059 => ?_)
  · refine x_iload dL_law_1064 rfl ?_
    refine x_if_ne 1081 dL_law_1066 (by decide) (fun c1066 => ?_) (fun c1066 => ?_)
    · refine x_goto 1520 dL_law_1081 (by decide) ?_
      exact K c2 _ _ f1 x1 k1 s1 _ _ _ _ ⟨hC2, hR2, hf2, hS2, hok⟩ hk1 hs1
    · have ht0 : t2 = 0 := (nI_eq (b := 0) (by omega) (by omega)).mp c1066
      refine x_aload_n dL_law_1069 rfl ?_
      refine x_iconst (nI 0) dL_law_1070 (by decide) ?_
      refine x_laload dL_law_1071 (by first | assumption | (simp (disch := omega) only [up_s, up_n]; first | assumption | rfl)) (by decide) ?_
      refine x_iload dL_law_1072 rfl ?_
      refine x_i2l dL_law_1074 ?_
      refine x_lcmp dL_law_1075 ?_
      refine x_if_eq 1081 dL_law_1076 (by decide) (fun c1076 => ?_) (fun c1076 => ?_)
      · refine x_goto 1520 dL_law_1081 (by decide) ?_
        exact K c2 _ _ f1 x1 k1 s1 _ _ _ _ ⟨hC2, hR2, hf2, hS2, hok⟩ hk1 hs1
      · exact absurd (by rw [show (nI 0).toNatClampNeg = 0 from rfl, hy ht0]; exact lg_self) c1076
  · exact absurd rfl c1059
set_option maxRecDepth 20000 in
set_option maxHeartbeats 2000000 in
theorem tc_place {c : Nat → VC} {S : St} {th : Int32} {f : Nat → Int64} {n k s i : Nat} {x : Bool} {sc : Nat → Int32} {o5 o6 o7 o8 : Option Value} {Q : (Option Value ⊕ Nat) → VH → Prop} (hL : LawAt c S th f n sc) (hi : i + 5 ≤ n) (hn : n < 2 ^ 31) (K : ∀ c2 S2 th2 f2 x2 k2 s2 o5 o6 o7 o8, LawAt c2 S2 th2 f2 n sc → k2 ≤ k + 1 → s2 ≤ s + 6 → Xm M_L_law 1520 [some (.ref 0), some (.ref 2), some (.ref 456), some (.ref 464), some (.int (nI (i))), o5, o6, o7, o8] [] ((465, x2, k2, s2), c2) Q) : Xm M_L_law 1084 [some (.ref 0), some (.ref 2), some (.ref 456), some (.ref 464), some (.int (nI (i))), o5, o6, o7, o8] [] ((465, x, k, s), c) Q := by
  obtain ⟨n0, tl0, hO0⟩ := hL.2.1.ob
  have hS0 := hL.2.2.2.1
  have hok : StOK (placeM (sc (nI (i + 1)).toNatClampNeg) (sc (nI (i + 2)).toNatClampNeg) (sc (nI (i + 3)).toNatClampNeg) (sc (nI (i + 4)).toNatClampNeg) S).2 := (by rw [st_place]; exact hL.2.2.2.2)
  have hr : ResI (placeM (sc (nI (i + 1)).toNatClampNeg) (sc (nI (i + 2)).toNatClampNeg) (sc (nI (i + 3)).toNatClampNeg) (sc (nI (i + 4)).toNatClampNeg) S).1 [1, 2] := res_place
  refine x_aload_n dL_law_1084 rfl ?_
  refine x_aload_n dL_law_1085 rfl ?_
  refine x_iload dL_law_1086 rfl ?_
  refine x_iconst (nI 1) dL_law_1088 (by decide) ?_
  refine x_iaddN dL_law_1089 ?_
  refine x_ialoadS dL_law_1090 (by first | assumption | (simp (disch := omega) only [up_s, up_n]; first | assumption | rfl)) (inB_nI (by omega) hn) ?_
  refine x_aload_n dL_law_1091 rfl ?_
  refine x_iload dL_law_1092 rfl ?_
  refine x_iconst (nI 2) dL_law_1094 (by decide) ?_
  refine x_iaddN dL_law_1095 ?_
  refine x_ialoadS dL_law_1096 (by first | assumption | (simp (disch := omega) only [up_s, up_n]; first | assumption | rfl)) (inB_nI (by omega) hn) ?_
  refine x_aload_n dL_law_1097 rfl ?_
  refine x_iload dL_law_1098 rfl ?_
  refine x_iconst (nI 3) dL_law_1100 (by decide) ?_
  refine x_iaddN dL_law_1101 ?_
  refine x_ialoadS dL_law_1102 (by first | assumption | (simp (disch := omega) only [up_s, up_n]; first | assumption | rfl)) (inB_nI (by omega) hn) ?_
  refine x_aload_n dL_law_1103 rfl ?_
  refine x_iload dL_law_1104 rfl ?_
  refine x_iconst (nI 4) dL_law_1106 (by decide) ?_
  refine x_iaddN dL_law_1107 ?_
  refine x_ialoadS dL_law_1108 (by first | assumption | (simp (disch := omega) only [up_s, up_n]; first | assumption | rfl)) (inB_nI (by omega) hn) ?_
  refine x_aload_n dL_law_1109 rfl ?_
  refine x_cs6 dL_law_1110 rfl ?_
  refine (w_place hL.1 hL.2.2.2.2 hL.2.2.1).mono (fun q h' hq => ?_)
  obtain ⟨c1, t, f1, rfl, hC1, hf1, hfr, hm⟩ := hq
  obtain ⟨x1, k1, s1, hh, hk1, hs1⟩ := heap1 hm
  subst hh
  refine Xk.i ?_
  have hR1 : RefAt c1 S th := hL.2.1.fr (fun j z1 z2 => hfr j (by omega))
  obtain ⟨n1, tl1, hO1⟩ := hR1.ob
  have hS1 : c1 0 = cS n sc := (hfr 0 (by omega)).trans hS0
  refine x_istore_5 dL_law_1113 rfl ?_
  refine x_aload_n dL_law_1115 rfl ?_
  refine x_aload_n dL_law_1116 rfl ?_
  refine x_iload dL_law_1117 rfl ?_
  refine x_iconst (nI 1) dL_law_1119 (by decide) ?_
  refine x_iaddN dL_law_1120 ?_
  refine x_ialoadS dL_law_1121 (by first | assumption | (simp (disch := omega) only [up_s, up_n]; first | assumption | rfl)) (inB_nI (by omega) hn) ?_
  refine x_aload_n dL_law_1122 rfl ?_
  refine x_iload dL_law_1123 rfl ?_
  refine x_iconst (nI 2) dL_law_1125 (by decide) ?_
  refine x_iaddN dL_law_1126 ?_
  refine x_ialoadS dL_law_1127 (by first | assumption | (simp (disch := omega) only [up_s, up_n]; first | assumption | rfl)) (inB_nI (by omega) hn) ?_
  refine x_aload_n dL_law_1128 rfl ?_
  refine x_iload dL_law_1129 rfl ?_
  refine x_iconst (nI 3) dL_law_1131 (by decide) ?_
  refine x_iaddN dL_law_1132 ?_
  refine x_ialoadS dL_law_1133 (by first | assumption | (simp (disch := omega) only [up_s, up_n]; first | assumption | rfl)) (inB_nI (by omega) hn) ?_
  refine x_aload_n dL_law_1134 rfl ?_
  refine x_iload dL_law_1135 rfl ?_
  refine x_iconst (nI 4) dL_law_1137 (by decide) ?_
  refine x_iaddN dL_law_1138 ?_
  refine x_ialoadS dL_law_1139 (by first | assumption | (simp (disch := omega) only [up_s, up_n]; first | assumption | rfl)) (inB_nI (by omega) hn) ?_
  refine x_cv5 dL_law_1140 rfl (by first | assumption | (simp (disch := omega) only [up_s, up_n]; first | assumption | rfl)) rfl ?_
  refine (s_X5_place hR1).mono (fun q h' hq2 => ?_)
  obtain ⟨v, c2, t2, rfl, rfl, hR2, hF2, hm2⟩ := hq2
  obtain ⟨y, rfl, rfl, ht10, hy⟩ := both (es := [1, 2]) (by decide) hr hm hm2
  refine Xk.i ?_
  obtain ⟨n2, tl2, hO2⟩ := hR2.ob
  have hS2 : c2 0 = cS n sc := (hF2 0 (by omega)).trans hS1
  have hf2 : c2 464 = cL 1 f1 := (hF2 464 (by omega)).trans hf1
  have hC2 := hC1.fr (c' := c2) (fun j z => hF2 j (by omega))
  refine x_istore_6 dL_law_1143 rfl ?_
  refine x_aload_n dL_law_1145 rfl ?_
  refine x_cv1 dL_law_1146 rfl (by first | assumption | (simp (disch := omega) only [up_s, up_n]; first | assumption | rfl)) rfl ?_
  refine Cm.rt (s_X5_thrown hR2) ?_
  refine x_iload dL_law_1149 rfl ?_
  refine x_icmp_eq 1156 dL_law_1151 (by decide) (fun c1151 => ?_) (fun c1151 => ?_)
  · refine x_iload dL_law_1156 rfl ?_
    refine x_if_ne 1173 dL_law_1158 (by decide) (fun c1158 => ?_) (fun c1158 => ?_)
    · refine x_goto 1520 dL_law_1173 (by decide) ?_
      exact K c2 _ _ f1 x1 k1 s1 _ _ _ _ ⟨hC2, hR2, hf2, hS2, hok⟩ hk1 hs1
    · have ht0 : t2 = 0 := (nI_eq (b := 0) (by omega) (by omega)).mp c1158
      refine x_aload_n dL_law_1161 rfl ?_
      refine x_iconst (nI 0) dL_law_1162 (by decide) ?_
      refine x_laload dL_law_1163 (by first | assumption | (simp (disch := omega) only [up_s, up_n]; first | assumption | rfl)) (by decide) ?_
      refine x_iload dL_law_1164 rfl ?_
      refine x_i2l dL_law_1166 ?_
      refine x_lcmp dL_law_1167 ?_
      refine x_if_eq 1173 dL_law_1168 (by decide) (fun c1168 => ?_) (fun c1168 => ?_)
      · refine x_goto 1520 dL_law_1173 (by decide) ?_
        exact K c2 _ _ f1 x1 k1 s1 _ _ _ _ ⟨hC2, hR2, hf2, hS2, hok⟩ hk1 hs1
      · exact absurd (by rw [show (nI 0).toNatClampNeg = 0 from rfl, hy ht0]; exact lg_self) c1168
  · exact absurd rfl c1151
set_option maxRecDepth 20000 in
set_option maxHeartbeats 2000000 in
theorem tc_proof {c : Nat → VC} {S : St} {th : Int32} {f : Nat → Int64} {n k s i : Nat} {x : Bool} {sc : Nat → Int32} {o5 o6 o7 o8 : Option Value} {Q : (Option Value ⊕ Nat) → VH → Prop} (hL : LawAt c S th f n sc) (hi : i + 5 ≤ n) (hn : n < 2 ^ 31) (K : ∀ c2 S2 th2 f2 x2 k2 s2 o5 o6 o7 o8, LawAt c2 S2 th2 f2 n sc → k2 ≤ k + 1 → s2 ≤ s + 6 → Xm M_L_law 1520 [some (.ref 0), some (.ref 2), some (.ref 456), some (.ref 464), some (.int (nI (i))), o5, o6, o7, o8] [] ((465, x2, k2, s2), c2) Q) : Xm M_L_law 1176 [some (.ref 0), some (.ref 2), some (.ref 456), some (.ref 464), some (.int (nI (i))), o5, o6, o7, o8] [] ((465, x, k, s), c) Q := by
  obtain ⟨n0, tl0, hO0⟩ := hL.2.1.ob
  have hS0 := hL.2.2.2.1
  have hok : StOK (proofM (sc (nI (i + 1)).toNatClampNeg) (sc (nI (i + 2)).toNatClampNeg) S).2 := (by rw [st_proof]; exact hL.2.2.2.2)
  have hr : ResI (proofM (sc (nI (i + 1)).toNatClampNeg) (sc (nI (i + 2)).toNatClampNeg) S).1 [1] := res_proof
  refine x_aload_n dL_law_1176 rfl ?_
  refine x_aload_n dL_law_1177 rfl ?_
  refine x_iload dL_law_1178 rfl ?_
  refine x_iconst (nI 1) dL_law_1180 (by decide) ?_
  refine x_iaddN dL_law_1181 ?_
  refine x_ialoadS dL_law_1182 (by first | assumption | (simp (disch := omega) only [up_s, up_n]; first | assumption | rfl)) (inB_nI (by omega) hn) ?_
  refine x_aload_n dL_law_1183 rfl ?_
  refine x_iload dL_law_1184 rfl ?_
  refine x_iconst (nI 2) dL_law_1186 (by decide) ?_
  refine x_iaddN dL_law_1187 ?_
  refine x_ialoadS dL_law_1188 (by first | assumption | (simp (disch := omega) only [up_s, up_n]; first | assumption | rfl)) (inB_nI (by omega) hn) ?_
  refine x_aload_n dL_law_1189 rfl ?_
  refine x_cs4 dL_law_1190 rfl ?_
  refine (w_proof hL.1 hL.2.2.2.2 hL.2.2.1).mono (fun q h' hq => ?_)
  obtain ⟨c1, t, f1, rfl, hC1, hf1, hfr, hm⟩ := hq
  obtain ⟨x1, k1, s1, hh, hk1, hs1⟩ := heap1 hm
  subst hh
  refine Xk.i ?_
  have hR1 : RefAt c1 S th := hL.2.1.fr (fun j z1 z2 => hfr j (by omega))
  obtain ⟨n1, tl1, hO1⟩ := hR1.ob
  have hS1 : c1 0 = cS n sc := (hfr 0 (by omega)).trans hS0
  refine x_istore_5 dL_law_1193 rfl ?_
  refine x_aload_n dL_law_1195 rfl ?_
  refine x_aload_n dL_law_1196 rfl ?_
  refine x_iload dL_law_1197 rfl ?_
  refine x_iconst (nI 1) dL_law_1199 (by decide) ?_
  refine x_iaddN dL_law_1200 ?_
  refine x_ialoadS dL_law_1201 (by first | assumption | (simp (disch := omega) only [up_s, up_n]; first | assumption | rfl)) (inB_nI (by omega) hn) ?_
  refine x_aload_n dL_law_1202 rfl ?_
  refine x_iload dL_law_1203 rfl ?_
  refine x_iconst (nI 2) dL_law_1205 (by decide) ?_
  refine x_iaddN dL_law_1206 ?_
  refine x_ialoadS dL_law_1207 (by first | assumption | (simp (disch := omega) only [up_s, up_n]; first | assumption | rfl)) (inB_nI (by omega) hn) ?_
  refine x_cv3 dL_law_1208 rfl (by first | assumption | (simp (disch := omega) only [up_s, up_n]; first | assumption | rfl)) rfl ?_
  refine (s_X5_proof hR1).mono (fun q h' hq2 => ?_)
  obtain ⟨v, c2, t2, rfl, rfl, hR2, hF2, hm2⟩ := hq2
  obtain ⟨y, rfl, rfl, ht10, hy⟩ := both (es := [1]) (by decide) hr hm hm2
  refine Xk.i ?_
  obtain ⟨n2, tl2, hO2⟩ := hR2.ob
  have hS2 : c2 0 = cS n sc := (hF2 0 (by omega)).trans hS1
  have hf2 : c2 464 = cL 1 f1 := (hF2 464 (by omega)).trans hf1
  have hC2 := hC1.fr (c' := c2) (fun j z => hF2 j (by omega))
  refine x_istore_6 dL_law_1211 rfl ?_
  refine x_aload_n dL_law_1213 rfl ?_
  refine x_cv1 dL_law_1214 rfl (by first | assumption | (simp (disch := omega) only [up_s, up_n]; first | assumption | rfl)) rfl ?_
  refine Cm.rt (s_X5_thrown hR2) ?_
  refine x_iload dL_law_1217 rfl ?_
  refine x_icmp_eq 1224 dL_law_1219 (by decide) (fun c1219 => ?_) (fun c1219 => ?_)
  · refine x_iload dL_law_1224 rfl ?_
    refine x_if_ne 1241 dL_law_1226 (by decide) (fun c1226 => ?_) (fun c1226 => ?_)
    · refine x_goto 1520 dL_law_1241 (by decide) ?_
      exact K c2 _ _ f1 x1 k1 s1 _ _ _ _ ⟨hC2, hR2, hf2, hS2, hok⟩ hk1 hs1
    · have ht0 : t2 = 0 := (nI_eq (b := 0) (by omega) (by omega)).mp c1226
      refine x_aload_n dL_law_1229 rfl ?_
      refine x_iconst (nI 0) dL_law_1230 (by decide) ?_
      refine x_laload dL_law_1231 (by first | assumption | (simp (disch := omega) only [up_s, up_n]; first | assumption | rfl)) (by decide) ?_
      refine x_iload dL_law_1232 rfl ?_
      refine x_i2l dL_law_1234 ?_
      refine x_lcmp dL_law_1235 ?_
      refine x_if_eq 1241 dL_law_1236 (by decide) (fun c1236 => ?_) (fun c1236 => ?_)
      · refine x_goto 1520 dL_law_1241 (by decide) ?_
        exact K c2 _ _ f1 x1 k1 s1 _ _ _ _ ⟨hC2, hR2, hf2, hS2, hok⟩ hk1 hs1
      · exact absurd (by rw [show (nI 0).toNatClampNeg = 0 from rfl, hy ht0]; exact lg_self) c1236
  · exact absurd rfl c1219
set_option maxRecDepth 20000 in
set_option maxHeartbeats 2000000 in
theorem tc_inHeap {c : Nat → VC} {S : St} {th : Int32} {f : Nat → Int64} {n k s i : Nat} {x : Bool} {sc : Nat → Int32} {o5 o6 o7 o8 : Option Value} {Q : (Option Value ⊕ Nat) → VH → Prop} (hL : LawAt c S th f n sc) (hi : i + 5 ≤ n) (hn : n < 2 ^ 31) (K : ∀ c2 S2 th2 f2 x2 k2 s2 o5 o6 o7 o8, LawAt c2 S2 th2 f2 n sc → k2 ≤ k + 1 → s2 ≤ s + 6 → Xm M_L_law 1520 [some (.ref 0), some (.ref 2), some (.ref 456), some (.ref 464), some (.int (nI (i))), o5, o6, o7, o8] [] ((465, x2, k2, s2), c2) Q) : Xm M_L_law 1244 [some (.ref 0), some (.ref 2), some (.ref 456), some (.ref 464), some (.int (nI (i))), o5, o6, o7, o8] [] ((465, x, k, s), c) Q := by
  obtain ⟨n0, tl0, hO0⟩ := hL.2.1.ob
  have hS0 := hL.2.2.2.1
  have hok : StOK (inHeapM (sc (nI (i + 1)).toNatClampNeg) S).2 := (by rw [st_inHeap]; exact hL.2.2.2.2)
  have hr : ResI (inHeapM (sc (nI (i + 1)).toNatClampNeg) S).1 [1] := res_inHeap
  refine x_aload_n dL_law_1244 rfl ?_
  refine x_aload_n dL_law_1245 rfl ?_
  refine x_iload dL_law_1246 rfl ?_
  refine x_iconst (nI 1) dL_law_1248 (by decide) ?_
  refine x_iaddN dL_law_1249 ?_
  refine x_ialoadS dL_law_1250 (by first | assumption | (simp (disch := omega) only [up_s, up_n]; first | assumption | rfl)) (inB_nI (by omega) hn) ?_
  refine x_aload_n dL_law_1251 rfl ?_
  refine x_cs3 dL_law_1252 rfl ?_
  refine (w_inHeap hL.1 hL.2.2.2.2 hL.2.2.1).mono (fun q h' hq => ?_)
  obtain ⟨c1, t, f1, rfl, hC1, hf1, hfr, hm⟩ := hq
  obtain ⟨x1, k1, s1, hh, hk1, hs1⟩ := heap1 hm
  subst hh
  refine Xk.i ?_
  have hR1 : RefAt c1 S th := hL.2.1.fr (fun j z1 z2 => hfr j (by omega))
  obtain ⟨n1, tl1, hO1⟩ := hR1.ob
  have hS1 : c1 0 = cS n sc := (hfr 0 (by omega)).trans hS0
  refine x_istore_5 dL_law_1255 rfl ?_
  refine x_aload_n dL_law_1257 rfl ?_
  refine x_aload_n dL_law_1258 rfl ?_
  refine x_iload dL_law_1259 rfl ?_
  refine x_iconst (nI 1) dL_law_1261 (by decide) ?_
  refine x_iaddN dL_law_1262 ?_
  refine x_ialoadS dL_law_1263 (by first | assumption | (simp (disch := omega) only [up_s, up_n]; first | assumption | rfl)) (inB_nI (by omega) hn) ?_
  refine x_cv2 dL_law_1264 rfl (by first | assumption | (simp (disch := omega) only [up_s, up_n]; first | assumption | rfl)) rfl ?_
  refine (s_X5_inHeap hR1).mono (fun q h' hq2 => ?_)
  obtain ⟨v, c2, t2, rfl, rfl, hR2, hF2, hm2⟩ := hq2
  obtain ⟨y, rfl, rfl, ht10, hy⟩ := both (es := [1]) (by decide) hr hm hm2
  refine Xk.i ?_
  obtain ⟨n2, tl2, hO2⟩ := hR2.ob
  have hS2 : c2 0 = cS n sc := (hF2 0 (by omega)).trans hS1
  have hf2 : c2 464 = cL 1 f1 := (hF2 464 (by omega)).trans hf1
  have hC2 := hC1.fr (c' := c2) (fun j z => hF2 j (by omega))
  refine x_istore_6 dL_law_1267 rfl ?_
  refine x_aload_n dL_law_1269 rfl ?_
  refine x_cv1 dL_law_1270 rfl (by first | assumption | (simp (disch := omega) only [up_s, up_n]; first | assumption | rfl)) rfl ?_
  refine Cm.rt (s_X5_thrown hR2) ?_
  refine x_iload dL_law_1273 rfl ?_
  refine x_icmp_eq 1280 dL_law_1275 (by decide) (fun c1275 => ?_) (fun c1275 => ?_)
  · refine x_iload dL_law_1280 rfl ?_
    refine x_if_ne 1297 dL_law_1282 (by decide) (fun c1282 => ?_) (fun c1282 => ?_)
    · refine x_goto 1520 dL_law_1297 (by decide) ?_
      exact K c2 _ _ f1 x1 k1 s1 _ _ _ _ ⟨hC2, hR2, hf2, hS2, hok⟩ hk1 hs1
    · have ht0 : t2 = 0 := (nI_eq (b := 0) (by omega) (by omega)).mp c1282
      refine x_aload_n dL_law_1285 rfl ?_
      refine x_iconst (nI 0) dL_law_1286 (by decide) ?_
      refine x_laload dL_law_1287 (by first | assumption | (simp (disch := omega) only [up_s, up_n]; first | assumption | rfl)) (by decide) ?_
      refine x_iload dL_law_1288 rfl ?_
      refine x_i2l dL_law_1290 ?_
      refine x_lcmp dL_law_1291 ?_
      refine x_if_eq 1297 dL_law_1292 (by decide) (fun c1292 => ?_) (fun c1292 => ?_)
      · refine x_goto 1520 dL_law_1297 (by decide) ?_
        exact K c2 _ _ f1 x1 k1 s1 _ _ _ _ ⟨hC2, hR2, hf2, hS2, hok⟩ hk1 hs1
      · exact absurd (by rw [show (nI 0).toNatClampNeg = 0 from rfl, hy ht0]; exact lg_self) c1292
  · exact absurd rfl c1275
set_option maxRecDepth 20000 in
set_option maxHeartbeats 2000000 in
theorem tc_errorsIfSet {c : Nat → VC} {S : St} {th : Int32} {f : Nat → Int64} {n k s i : Nat} {x : Bool} {sc : Nat → Int32} {o5 o6 o7 o8 : Option Value} {Q : (Option Value ⊕ Nat) → VH → Prop} (hL : LawAt c S th f n sc) (hi : i + 5 ≤ n) (hn : n < 2 ^ 31) (K : ∀ c2 S2 th2 f2 x2 k2 s2 o5 o6 o7 o8, LawAt c2 S2 th2 f2 n sc → k2 ≤ k + 1 → s2 ≤ s + 6 → Xm M_L_law 1520 [some (.ref 0), some (.ref 2), some (.ref 456), some (.ref 464), some (.int (nI (i))), o5, o6, o7, o8] [] ((465, x2, k2, s2), c2) Q) : Xm M_L_law 1300 [some (.ref 0), some (.ref 2), some (.ref 456), some (.ref 464), some (.int (nI (i))), o5, o6, o7, o8] [] ((465, x, k, s), c) Q := by
  obtain ⟨n0, tl0, hO0⟩ := hL.2.1.ob
  have hh2 := hL.1.1
  refine x_aload_n dL_law_1300 rfl ?_
  refine x_cv1 dL_law_1301 rfl (by first | assumption | (simp (disch := omega) only [up_s, up_n]; first | assumption | rfl)) rfl ?_
  refine (s_X4_errorsIfSet hL.1).mono (fun q h' hq => ?_)
  obtain ⟨c1, hC1, hF1, rfl, rfl⟩ := hq
  refine Xk.i ?_
  have hR1 : RefAt c1 S th := hL.2.1.fr (fun j z1 z2 => hF1 j (by omega))
  obtain ⟨n1, tl1, hO1⟩ := hR1.ob
  refine x_aload_n dL_law_1304 rfl ?_
  refine x_cv1 dL_law_1305 rfl (by first | assumption | (simp (disch := omega) only [up_s, up_n]; first | assumption | rfl)) rfl ?_
  refine (s_X5_errorsIfSet hR1).mono (fun q h' hq2 => ?_)
  obtain ⟨v, c2, t2, rfl, rfl, hR2, hF2, rfl, rfl⟩ := hq2
  refine Xk.i ?_
  have hS2 : c2 0 = cS n sc := (hF2 0 (by omega)).trans ((hF1 0 (by omega)).trans hL.2.2.2.1)
  have hf2 : c2 464 = cL 1 f := (hF2 464 (by omega)).trans ((hF1 464 (by omega)).trans hL.2.2.1)
  have hC2 := hC1.fr (c' := c2) (fun j z => hF2 j (by omega))
  refine x_icmp_eq 1520 dL_law_1308 (by decide) (fun c1308 => ?_) (fun c1308 => ?_)
  · exact K c2 _ _ f x k s _ _ _ _ ⟨hC2, hR2, hf2, hS2, hL.2.2.2.2⟩ (by omega) (by omega)
  · exact absurd rfl c1308
set_option maxRecDepth 20000 in
set_option maxHeartbeats 2000000 in
theorem tc_turnedIfSet {c : Nat → VC} {S : St} {th : Int32} {f : Nat → Int64} {n k s i : Nat} {x : Bool} {sc : Nat → Int32} {o5 o6 o7 o8 : Option Value} {Q : (Option Value ⊕ Nat) → VH → Prop} (hL : LawAt c S th f n sc) (hi : i + 5 ≤ n) (hn : n < 2 ^ 31) (K : ∀ c2 S2 th2 f2 x2 k2 s2 o5 o6 o7 o8, LawAt c2 S2 th2 f2 n sc → k2 ≤ k + 1 → s2 ≤ s + 6 → Xm M_L_law 1520 [some (.ref 0), some (.ref 2), some (.ref 456), some (.ref 464), some (.int (nI (i))), o5, o6, o7, o8] [] ((465, x2, k2, s2), c2) Q) : Xm M_L_law 1313 [some (.ref 0), some (.ref 2), some (.ref 456), some (.ref 464), some (.int (nI (i))), o5, o6, o7, o8] [] ((465, x, k, s), c) Q := by
  obtain ⟨n0, tl0, hO0⟩ := hL.2.1.ob
  have hh2 := hL.1.1
  refine x_aload_n dL_law_1313 rfl ?_
  refine x_cv1 dL_law_1314 rfl (by first | assumption | (simp (disch := omega) only [up_s, up_n]; first | assumption | rfl)) rfl ?_
  refine (s_X4_turnedIfSet hL.1).mono (fun q h' hq => ?_)
  obtain ⟨c1, hC1, hF1, rfl, rfl⟩ := hq
  refine Xk.i ?_
  have hR1 : RefAt c1 S th := hL.2.1.fr (fun j z1 z2 => hF1 j (by omega))
  obtain ⟨n1, tl1, hO1⟩ := hR1.ob
  refine x_aload_n dL_law_1317 rfl ?_
  refine x_cv1 dL_law_1318 rfl (by first | assumption | (simp (disch := omega) only [up_s, up_n]; first | assumption | rfl)) rfl ?_
  refine (s_X5_turnedIfSet hR1).mono (fun q h' hq2 => ?_)
  obtain ⟨v, c2, t2, rfl, rfl, hR2, hF2, rfl, rfl⟩ := hq2
  refine Xk.i ?_
  have hS2 : c2 0 = cS n sc := (hF2 0 (by omega)).trans ((hF1 0 (by omega)).trans hL.2.2.2.1)
  have hf2 : c2 464 = cL 1 f := (hF2 464 (by omega)).trans ((hF1 464 (by omega)).trans hL.2.2.1)
  have hC2 := hC1.fr (c' := c2) (fun j z => hF2 j (by omega))
  refine x_icmp_eq 1520 dL_law_1321 (by decide) (fun c1321 => ?_) (fun c1321 => ?_)
  · exact K c2 _ _ f x k s _ _ _ _ ⟨hC2, hR2, hf2, hS2, hL.2.2.2.2⟩ (by omega) (by omega)
  · exact absurd rfl c1321
set_option maxRecDepth 20000 in
set_option maxHeartbeats 2000000 in
theorem tc_copies {c : Nat → VC} {S : St} {th : Int32} {f : Nat → Int64} {n k s i : Nat} {x : Bool} {sc : Nat → Int32} {o5 o6 o7 o8 : Option Value} {Q : (Option Value ⊕ Nat) → VH → Prop} (hL : LawAt c S th f n sc) (hi : i + 5 ≤ n) (hn : n < 2 ^ 31) (K : ∀ c2 S2 th2 f2 x2 k2 s2 o5 o6 o7 o8, LawAt c2 S2 th2 f2 n sc → k2 ≤ k + 1 → s2 ≤ s + 6 → Xm M_L_law 1520 [some (.ref 0), some (.ref 2), some (.ref 456), some (.ref 464), some (.int (nI (i))), o5, o6, o7, o8] [] ((465, x2, k2, s2), c2) Q) : Xm M_L_law 1326 [some (.ref 0), some (.ref 2), some (.ref 456), some (.ref 464), some (.int (nI (i))), o5, o6, o7, o8] [] ((465, x, k, s), c) Q := by
  obtain ⟨n0, tl0, hO0⟩ := hL.2.1.ob
  have hh2 := hL.1.1
  refine x_aload_n dL_law_1326 rfl ?_
  refine x_cv1 dL_law_1327 rfl (by first | assumption | (simp (disch := omega) only [up_s, up_n]; first | assumption | rfl)) rfl ?_
  refine (s_X4_copies hL.1).mono (fun q h' hq => ?_)
  obtain ⟨c1, hC1, hF1, rfl, rfl⟩ := hq
  refine Xk.i ?_
  have hR1 : RefAt c1 S th := hL.2.1.fr (fun j z1 z2 => hF1 j (by omega))
  obtain ⟨n1, tl1, hO1⟩ := hR1.ob
  refine x_aload_n dL_law_1330 rfl ?_
  refine x_cv1 dL_law_1331 rfl (by first | assumption | (simp (disch := omega) only [up_s, up_n]; first | assumption | rfl)) rfl ?_
  refine (s_X5_copies hR1).mono (fun q h' hq2 => ?_)
  obtain ⟨v, c2, t2, rfl, rfl, hR2, hF2, rfl, rfl⟩ := hq2
  refine Xk.i ?_
  have hS2 : c2 0 = cS n sc := (hF2 0 (by omega)).trans ((hF1 0 (by omega)).trans hL.2.2.2.1)
  have hf2 : c2 464 = cL 1 f := (hF2 464 (by omega)).trans ((hF1 464 (by omega)).trans hL.2.2.1)
  have hC2 := hC1.fr (c' := c2) (fun j z => hF2 j (by omega))
  refine x_icmp_eq 1520 dL_law_1334 (by decide) (fun c1334 => ?_) (fun c1334 => ?_)
  · exact K c2 _ _ f x k s _ _ _ _ ⟨hC2, hR2, hf2, hS2, hL.2.2.2.2⟩ (by omega) (by omega)
  · exact absurd rfl c1334
set_option maxRecDepth 20000 in
set_option maxHeartbeats 2000000 in
theorem tc_bestToDistribute {c : Nat → VC} {S : St} {th : Int32} {f : Nat → Int64} {n k s i : Nat} {x : Bool} {sc : Nat → Int32} {o5 o6 o7 o8 : Option Value} {Q : (Option Value ⊕ Nat) → VH → Prop} (hL : LawAt c S th f n sc) (hi : i + 5 ≤ n) (hn : n < 2 ^ 31) (K : ∀ c2 S2 th2 f2 x2 k2 s2 o5 o6 o7 o8, LawAt c2 S2 th2 f2 n sc → k2 ≤ k + 1 → s2 ≤ s + 6 → Xm M_L_law 1520 [some (.ref 0), some (.ref 2), some (.ref 456), some (.ref 464), some (.int (nI (i))), o5, o6, o7, o8] [] ((465, x2, k2, s2), c2) Q) : Xm M_L_law 1339 [some (.ref 0), some (.ref 2), some (.ref 456), some (.ref 464), some (.int (nI (i))), o5, o6, o7, o8] [] ((465, x, k, s), c) Q := by
  obtain ⟨n0, tl0, hO0⟩ := hL.2.1.ob
  have hh2 := hL.1.1
  refine x_aload_n dL_law_1339 rfl ?_
  refine x_cv1 dL_law_1340 rfl (by first | assumption | (simp (disch := omega) only [up_s, up_n]; first | assumption | rfl)) rfl ?_
  refine (s_X4_bestToDistribute hL.1 hL.2.2.2.2).mono (fun q h' hq => ?_)
  obtain ⟨c1, hC1, hF1, rfl, rfl⟩ := hq
  refine Xk.i ?_
  have hR1 : RefAt c1 S th := hL.2.1.fr (fun j z1 z2 => hF1 j (by omega))
  obtain ⟨n1, tl1, hO1⟩ := hR1.ob
  refine x_aload_n dL_law_1343 rfl ?_
  refine x_cv1 dL_law_1344 rfl (by first | assumption | (simp (disch := omega) only [up_s, up_n]; first | assumption | rfl)) rfl ?_
  refine (s_X5_bestToDistribute hR1 hL.2.2.2.2).mono (fun q h' hq2 => ?_)
  obtain ⟨v, c2, t2, rfl, rfl, hR2, hF2, rfl, rfl⟩ := hq2
  refine Xk.i ?_
  have hS2 : c2 0 = cS n sc := (hF2 0 (by omega)).trans ((hF1 0 (by omega)).trans hL.2.2.2.1)
  have hf2 : c2 464 = cL 1 f := (hF2 464 (by omega)).trans ((hF1 464 (by omega)).trans hL.2.2.1)
  have hC2 := hC1.fr (c' := c2) (fun j z => hF2 j (by omega))
  refine x_icmp_eq 1520 dL_law_1347 (by decide) (fun c1347 => ?_) (fun c1347 => ?_)
  · exact K c2 _ _ f x k s _ _ _ _ ⟨hC2, hR2, hf2, hS2, hL.2.2.2.2⟩ (by omega) (by omega)
  · exact absurd rfl c1347
set_option maxRecDepth 20000 in
set_option maxHeartbeats 2000000 in
theorem tc_order {c : Nat → VC} {S : St} {th : Int32} {f : Nat → Int64} {n k s i : Nat} {x : Bool} {sc : Nat → Int32} {o5 o6 o7 o8 : Option Value} {Q : (Option Value ⊕ Nat) → VH → Prop} (hL : LawAt c S th f n sc) (hi : i + 5 ≤ n) (hn : n < 2 ^ 31) (K : ∀ c2 S2 th2 f2 x2 k2 s2 o5 o6 o7 o8, LawAt c2 S2 th2 f2 n sc → k2 ≤ k + 1 → s2 ≤ s + 6 → Xm M_L_law 1520 [some (.ref 0), some (.ref 2), some (.ref 456), some (.ref 464), some (.int (nI (i))), o5, o6, o7, o8] [] ((465, x2, k2, s2), c2) Q) : Xm M_L_law 1352 [some (.ref 0), some (.ref 2), some (.ref 456), some (.ref 464), some (.int (nI (i))), o5, o6, o7, o8] [] ((465, x, k, s), c) Q := by
  obtain ⟨n0, tl0, hO0⟩ := hL.2.1.ob
  have hh2 := hL.1.1
  refine x_aload_n dL_law_1352 rfl ?_
  refine x_cv1 dL_law_1353 rfl (by first | assumption | (simp (disch := omega) only [up_s, up_n]; first | assumption | rfl)) rfl ?_
  refine (s_X4_order hL.1 hL.2.2.2.2).mono (fun q h' hq => ?_)
  obtain ⟨c1, hC1, hF1, rfl, rfl⟩ := hq
  refine Xk.i ?_
  have hR1 : RefAt c1 S th := hL.2.1.fr (fun j z1 z2 => hF1 j (by omega))
  obtain ⟨n1, tl1, hO1⟩ := hR1.ob
  refine x_dstore_5 dL_law_1356 rfl ?_
  refine x_aload_n dL_law_1358 rfl ?_
  refine x_cv1 dL_law_1359 rfl (by first | assumption | (simp (disch := omega) only [up_s, up_n]; first | assumption | rfl)) rfl ?_
  refine (s_X5_order hR1 hL.2.2.2.2).mono (fun q h' hq2 => ?_)
  obtain ⟨v, c2, t2, rfl, rfl, hR2, hF2, rfl, rfl⟩ := hq2
  refine Xk.i ?_
  have hS2 : c2 0 = cS n sc := (hF2 0 (by omega)).trans ((hF1 0 (by omega)).trans hL.2.2.2.1)
  have hf2 : c2 464 = cL 1 f := (hF2 464 (by omega)).trans ((hF1 464 (by omega)).trans hL.2.2.1)
  have hC2 := hC1.fr (c' := c2) (fun j z => hF2 j (by omega))
  refine x_dstore_7 dL_law_1362 rfl ?_
  refine x_dload dL_law_1364 rfl ?_
  refine x_dload dL_law_1366 rfl ?_
  refine x_dcmp dL_law_1368 ?_
  refine x_if_eq 1390 dL_law_1369 (by decide) (fun c1369 => ?_) (fun c1369 => ?_)
  · refine x_goto 1520 dL_law_1390 (by decide) ?_
    exact K c2 _ _ f x k s _ _ _ _ ⟨hC2, hR2, hf2, hS2, hL.2.2.2.2⟩ (by omega) (by omega)
  · refine x_dload dL_law_1372 rfl ?_
    refine x_dload dL_law_1374 rfl ?_
    refine x_dcmp dL_law_1376 ?_
    refine x_if_eq 1388 dL_law_1377 (by decide) (fun c1377 => ?_) (fun c1377 => ?_)
    · exact absurd c1377 c1369
    · refine x_dload dL_law_1380 rfl ?_
      refine x_dload dL_law_1382 rfl ?_
      refine x_dcmp dL_law_1384 ?_
      refine x_if_ne 1390 dL_law_1385 (by decide) (fun c1385 => ?_) (fun c1385 => ?_)
      · refine x_goto 1520 dL_law_1390 (by decide) ?_
        exact K c2 _ _ f x k s _ _ _ _ ⟨hC2, hR2, hf2, hS2, hL.2.2.2.2⟩ (by omega) (by omega)
      · exact absurd c1385 c1369
set_option maxRecDepth 20000 in
set_option maxHeartbeats 2000000 in
theorem tc_append {c : Nat → VC} {S : St} {th : Int32} {f : Nat → Int64} {n k s i : Nat} {x : Bool} {sc : Nat → Int32} {o5 o6 o7 o8 : Option Value} {Q : (Option Value ⊕ Nat) → VH → Prop} (hL : LawAt c S th f n sc) (hi : i + 5 ≤ n) (hn : n < 2 ^ 31) (K : ∀ c2 S2 th2 f2 x2 k2 s2 o5 o6 o7 o8, LawAt c2 S2 th2 f2 n sc → k2 ≤ k + 1 → s2 ≤ s + 6 → Xm M_L_law 1520 [some (.ref 0), some (.ref 2), some (.ref 456), some (.ref 464), some (.int (nI (i))), o5, o6, o7, o8] [] ((465, x2, k2, s2), c2) Q) : Xm M_L_law 1393 [some (.ref 0), some (.ref 2), some (.ref 456), some (.ref 464), some (.int (nI (i))), o5, o6, o7, o8] [] ((465, x, k, s), c) Q := by
  obtain ⟨n0, tl0, hO0⟩ := hL.2.1.ob
  have hS0 := hL.2.2.2.1
  have hok : StOK (appendM (sc (nI (i + 1)).toNatClampNeg) S).2 := ok_append hL.2.2.2.2
  have hr : ResI (appendM (sc (nI (i + 1)).toNatClampNeg) S).1 [2, 3] := res_append
  refine x_aload_n dL_law_1393 rfl ?_
  refine x_aload_n dL_law_1394 rfl ?_
  refine x_iload dL_law_1395 rfl ?_
  refine x_iconst (nI 1) dL_law_1397 (by decide) ?_
  refine x_iaddN dL_law_1398 ?_
  refine x_ialoadS dL_law_1399 (by first | assumption | (simp (disch := omega) only [up_s, up_n]; first | assumption | rfl)) (inB_nI (by omega) hn) ?_
  refine x_aload_n dL_law_1400 rfl ?_
  refine x_cs3 dL_law_1401 rfl ?_
  refine (w_append hL.1 hL.2.2.2.2 hL.2.2.1).mono (fun q h' hq => ?_)
  obtain ⟨c1, t, f1, rfl, hC1, hf1, hfr, hm⟩ := hq
  obtain ⟨x1, k1, s1, hh, hk1, hs1⟩ := heap1 hm
  subst hh
  refine Xk.i ?_
  have hR1 : RefAt c1 S th := hL.2.1.fr (fun j z1 z2 => hfr j (by omega))
  obtain ⟨n1, tl1, hO1⟩ := hR1.ob
  have hS1 : c1 0 = cS n sc := (hfr 0 (by omega)).trans hS0
  refine x_istore_5 dL_law_1404 rfl ?_
  refine x_aload_n dL_law_1406 rfl ?_
  refine x_aload_n dL_law_1407 rfl ?_
  refine x_iload dL_law_1408 rfl ?_
  refine x_iconst (nI 1) dL_law_1410 (by decide) ?_
  refine x_iaddN dL_law_1411 ?_
  refine x_ialoadS dL_law_1412 (by first | assumption | (simp (disch := omega) only [up_s, up_n]; first | assumption | rfl)) (inB_nI (by omega) hn) ?_
  refine x_cv2 dL_law_1413 rfl (by first | assumption | (simp (disch := omega) only [up_s, up_n]; first | assumption | rfl)) rfl ?_
  refine (s_X5_append hR1).mono (fun q h' hq2 => ?_)
  obtain ⟨v, c2, t2, rfl, rfl, hR2, hF2, hm2⟩ := hq2
  obtain ⟨y, rfl, rfl, ht10, hy⟩ := both (es := [2, 3]) (by decide) hr hm hm2
  refine Xk.i ?_
  obtain ⟨n2, tl2, hO2⟩ := hR2.ob
  have hS2 : c2 0 = cS n sc := (hF2 0 (by omega)).trans hS1
  have hf2 : c2 464 = cL 1 f1 := (hF2 464 (by omega)).trans hf1
  have hC2 := hC1.fr (c' := c2) (fun j z => hF2 j (by omega))
  refine x_istore_6 dL_law_1416 rfl ?_
  refine x_aload_n dL_law_1418 rfl ?_
  refine x_cv1 dL_law_1419 rfl (by first | assumption | (simp (disch := omega) only [up_s, up_n]; first | assumption | rfl)) rfl ?_
  refine Cm.rt (s_X5_thrown hR2) ?_
  refine x_iload dL_law_1422 rfl ?_
  refine x_icmp_eq 1429 dL_law_1424 (by decide) (fun c1424 => ?_) (fun c1424 => ?_)
  · refine x_iload dL_law_1429 rfl ?_
    refine x_if_ne 1446 dL_law_1431 (by decide) (fun c1431 => ?_) (fun c1431 => ?_)
    · refine x_goto 1520 dL_law_1446 (by decide) ?_
      exact K c2 _ _ f1 x1 k1 s1 _ _ _ _ ⟨hC2, hR2, hf2, hS2, hok⟩ hk1 hs1
    · have ht0 : t2 = 0 := (nI_eq (b := 0) (by omega) (by omega)).mp c1431
      refine x_aload_n dL_law_1434 rfl ?_
      refine x_iconst (nI 0) dL_law_1435 (by decide) ?_
      refine x_laload dL_law_1436 (by first | assumption | (simp (disch := omega) only [up_s, up_n]; first | assumption | rfl)) (by decide) ?_
      refine x_iload dL_law_1437 rfl ?_
      refine x_i2l dL_law_1439 ?_
      refine x_lcmp dL_law_1440 ?_
      refine x_if_eq 1446 dL_law_1441 (by decide) (fun c1441 => ?_) (fun c1441 => ?_)
      · refine x_goto 1520 dL_law_1446 (by decide) ?_
        exact K c2 _ _ f1 x1 k1 s1 _ _ _ _ ⟨hC2, hR2, hf2, hS2, hok⟩ hk1 hs1
      · exact absurd (by rw [show (nI 0).toNatClampNeg = 0 from rfl, hy ht0]; exact lg_self) c1441
  · exact absurd rfl c1424
set_option maxRecDepth 20000 in
set_option maxHeartbeats 2000000 in
theorem tc_clearText {c : Nat → VC} {S : St} {th : Int32} {f : Nat → Int64} {n k s i : Nat} {x : Bool} {sc : Nat → Int32} {o5 o6 o7 o8 : Option Value} {Q : (Option Value ⊕ Nat) → VH → Prop} (hL : LawAt c S th f n sc) (hi : i + 5 ≤ n) (hn : n < 2 ^ 31) (K : ∀ c2 S2 th2 f2 x2 k2 s2 o5 o6 o7 o8, LawAt c2 S2 th2 f2 n sc → k2 ≤ k + 1 → s2 ≤ s + 6 → Xm M_L_law 1520 [some (.ref 0), some (.ref 2), some (.ref 456), some (.ref 464), some (.int (nI (i))), o5, o6, o7, o8] [] ((465, x2, k2, s2), c2) Q) : Xm M_L_law 1449 [some (.ref 0), some (.ref 2), some (.ref 456), some (.ref 464), some (.int (nI (i))), o5, o6, o7, o8] [] ((465, x, k, s), c) Q := by
  obtain ⟨n0, tl0, hO0⟩ := hL.2.1.ob
  have hh2 := hL.1.1
  have hM : clearM S = (Sum.inl (.int (nI S.2.1.length)), (S.1, [], S.2.2)) := rfl
  refine x_aload_n dL_law_1449 rfl ?_
  refine x_cv1 dL_law_1450 rfl (by first | assumption | (simp (disch := omega) only [up_s, up_n]; first | assumption | rfl)) rfl ?_
  refine (s_X4_clearText hL.1).mono (fun q h' hq => ?_)
  rw [hM] at hq
  obtain ⟨c1, hC1, hF1, rfl, rfl⟩ := hq
  refine Xk.i ?_
  have hR1 : RefAt c1 S th := hL.2.1.fr (fun j z1 z2 => hF1 j (by omega))
  obtain ⟨n1, tl1, hO1⟩ := hR1.ob
  refine x_aload_n dL_law_1453 rfl ?_
  refine x_cv1 dL_law_1454 rfl (by first | assumption | (simp (disch := omega) only [up_s, up_n]; first | assumption | rfl)) rfl ?_
  refine (s_X5_clearText hR1).mono (fun q h' hq2 => ?_)
  rw [hM] at hq2
  obtain ⟨v, c2, t2, rfl, rfl, hR2, hF2, rfl, rfl⟩ := hq2
  refine Xk.i ?_
  have hS2 : c2 0 = cS n sc := (hF2 0 (by omega)).trans ((hF1 0 (by omega)).trans hL.2.2.2.1)
  have hf2 : c2 464 = cL 1 f := (hF2 464 (by omega)).trans ((hF1 464 (by omega)).trans hL.2.2.1)
  have hC2 := hC1.fr (c' := c2) (fun j z => hF2 j (by omega))
  refine x_icmp_eq 1520 dL_law_1457 (by decide) (fun c1457 => ?_) (fun c1457 => ?_)
  · exact K c2 _ _ f x k s _ _ _ _ ⟨hC2, hR2, hf2, hS2, hL.2.2.2.2⟩ (by omega) (by omega)
  · exact absurd rfl c1457
set_option maxRecDepth 20000 in
set_option maxHeartbeats 2000000 in
theorem tc_undo {c : Nat → VC} {S : St} {th : Int32} {f : Nat → Int64} {n k s i : Nat} {x : Bool} {sc : Nat → Int32} {o5 o6 o7 o8 : Option Value} {Q : (Option Value ⊕ Nat) → VH → Prop} (hL : LawAt c S th f n sc) (hi : i + 5 ≤ n) (hn : n < 2 ^ 31) (K : ∀ c2 S2 th2 f2 x2 k2 s2 o5 o6 o7 o8, LawAt c2 S2 th2 f2 n sc → k2 ≤ k + 1 → s2 ≤ s + 6 → Xm M_L_law 1520 [some (.ref 0), some (.ref 2), some (.ref 456), some (.ref 464), some (.int (nI (i))), o5, o6, o7, o8] [] ((465, x2, k2, s2), c2) Q) : Xm M_L_law 1462 [some (.ref 0), some (.ref 2), some (.ref 456), some (.ref 464), some (.int (nI (i))), o5, o6, o7, o8] [] ((465, x, k, s), c) Q := by
  obtain ⟨n0, tl0, hO0⟩ := hL.2.1.ob
  have hS0 := hL.2.2.2.1
  have hok : StOK (undoM S).2 := ok_undo hL.2.2.2.2
  have hr : ResI (undoM S).1 [3] := res_undo
  refine x_aload_n dL_law_1462 rfl ?_
  refine x_aload_n dL_law_1463 rfl ?_
  refine x_cs2 dL_law_1464 rfl ?_
  refine (w_undo hL.1 hL.2.2.2.2 hL.2.2.1).mono (fun q h' hq => ?_)
  obtain ⟨c1, t, f1, rfl, hC1, hf1, hfr, hm⟩ := hq
  obtain ⟨x1, k1, s1, hh, hk1, hs1⟩ := heap1 hm
  subst hh
  refine Xk.i ?_
  have hR1 : RefAt c1 S th := hL.2.1.fr (fun j z1 z2 => hfr j (by omega))
  obtain ⟨n1, tl1, hO1⟩ := hR1.ob
  have hS1 : c1 0 = cS n sc := (hfr 0 (by omega)).trans hS0
  refine x_istore_5 dL_law_1467 rfl ?_
  refine x_aload_n dL_law_1469 rfl ?_
  refine x_cv1 dL_law_1470 rfl (by first | assumption | (simp (disch := omega) only [up_s, up_n]; first | assumption | rfl)) rfl ?_
  refine (s_X5_undo hR1).mono (fun q h' hq2 => ?_)
  obtain ⟨v, c2, t2, rfl, rfl, hR2, hF2, hm2⟩ := hq2
  obtain ⟨y, rfl, rfl, ht10, hy⟩ := both (es := [3]) (by decide) hr hm hm2
  refine Xk.i ?_
  obtain ⟨n2, tl2, hO2⟩ := hR2.ob
  have hS2 : c2 0 = cS n sc := (hF2 0 (by omega)).trans hS1
  have hf2 : c2 464 = cL 1 f1 := (hF2 464 (by omega)).trans hf1
  have hC2 := hC1.fr (c' := c2) (fun j z => hF2 j (by omega))
  refine x_istore_6 dL_law_1473 rfl ?_
  refine x_aload_n dL_law_1475 rfl ?_
  refine x_cv1 dL_law_1476 rfl (by first | assumption | (simp (disch := omega) only [up_s, up_n]; first | assumption | rfl)) rfl ?_
  refine Cm.rt (s_X5_thrown hR2) ?_
  refine x_iload dL_law_1479 rfl ?_
  refine x_icmp_eq 1486 dL_law_1481 (by decide) (fun c1481 => ?_) (fun c1481 => ?_)
  · refine x_iload dL_law_1486 rfl ?_
    refine x_if_ne 1503 dL_law_1488 (by decide) (fun c1488 => ?_) (fun c1488 => ?_)
    · refine x_goto 1520 dL_law_1503 (by decide) ?_
      exact K c2 _ _ f1 x1 k1 s1 _ _ _ _ ⟨hC2, hR2, hf2, hS2, hok⟩ hk1 hs1
    · have ht0 : t2 = 0 := (nI_eq (b := 0) (by omega) (by omega)).mp c1488
      refine x_aload_n dL_law_1491 rfl ?_
      refine x_iconst (nI 0) dL_law_1492 (by decide) ?_
      refine x_laload dL_law_1493 (by first | assumption | (simp (disch := omega) only [up_s, up_n]; first | assumption | rfl)) (by decide) ?_
      refine x_iload dL_law_1494 rfl ?_
      refine x_i2l dL_law_1496 ?_
      refine x_lcmp dL_law_1497 ?_
      refine x_if_eq 1503 dL_law_1498 (by decide) (fun c1498 => ?_) (fun c1498 => ?_)
      · refine x_goto 1520 dL_law_1503 (by decide) ?_
        exact K c2 _ _ f1 x1 k1 s1 _ _ _ _ ⟨hC2, hR2, hf2, hS2, hok⟩ hk1 hs1
      · exact absurd (by rw [show (nI 0).toNatClampNeg = 0 from rfl, hy ht0]; exact lg_self) c1498
  · exact absurd rfl c1481
set_option maxRecDepth 20000 in
set_option maxHeartbeats 2000000 in
theorem tc_digest {c : Nat → VC} {S : St} {th : Int32} {f : Nat → Int64} {n k s i : Nat} {x : Bool} {sc : Nat → Int32} {o5 o6 o7 o8 : Option Value} {Q : (Option Value ⊕ Nat) → VH → Prop} (hL : LawAt c S th f n sc) (hi : i + 5 ≤ n) (hn : n < 2 ^ 31) (K : ∀ c2 S2 th2 f2 x2 k2 s2 o5 o6 o7 o8, LawAt c2 S2 th2 f2 n sc → k2 ≤ k + 1 → s2 ≤ s + 6 → Xm M_L_law 1520 [some (.ref 0), some (.ref 2), some (.ref 456), some (.ref 464), some (.int (nI (i))), o5, o6, o7, o8] [] ((465, x2, k2, s2), c2) Q) : Xm M_L_law 1506 [some (.ref 0), some (.ref 2), some (.ref 456), some (.ref 464), some (.int (nI (i))), o5, o6, o7, o8] [] ((465, x, k, s), c) Q := by
  obtain ⟨n0, tl0, hO0⟩ := hL.2.1.ob
  have hh2 := hL.1.1
  refine x_aload_n dL_law_1506 rfl ?_
  refine x_cv1 dL_law_1507 rfl (by first | assumption | (simp (disch := omega) only [up_s, up_n]; first | assumption | rfl)) rfl ?_
  refine (s_X4_digest hL.1 hL.2.2.2.2).mono (fun q h' hq => ?_)
  obtain ⟨c1, hC1, hF1, rfl, rfl⟩ := hq
  refine Xk.i ?_
  have hR1 : RefAt c1 S th := hL.2.1.fr (fun j z1 z2 => hF1 j (by omega))
  obtain ⟨n1, tl1, hO1⟩ := hR1.ob
  refine x_aload_n dL_law_1510 rfl ?_
  refine x_cv1 dL_law_1511 rfl (by first | assumption | (simp (disch := omega) only [up_s, up_n]; first | assumption | rfl)) rfl ?_
  refine (s_X5_digest hR1).mono (fun q h' hq2 => ?_)
  obtain ⟨v, c2, t2, rfl, rfl, hR2, hF2, rfl, rfl⟩ := hq2
  refine Xk.i ?_
  have hS2 : c2 0 = cS n sc := (hF2 0 (by omega)).trans ((hF1 0 (by omega)).trans hL.2.2.2.1)
  have hf2 : c2 464 = cL 1 f := (hF2 464 (by omega)).trans ((hF1 464 (by omega)).trans hL.2.2.1)
  have hC2 := hC1.fr (c' := c2) (fun j z => hF2 j (by omega))
  refine x_lcmp dL_law_1514 ?_
  refine x_if_eq 1520 dL_law_1515 (by decide) (fun c1515 => ?_) (fun c1515 => ?_)
  · exact K c2 _ _ f x k s _ _ _ _ ⟨hC2, hR2, hf2, hS2, hL.2.2.2.2⟩ (by omega) (by omega)
  · exact absurd lg_self c1515
