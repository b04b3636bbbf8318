/-! SOUND 7: what the small machine does, the great one does -/
def CalF (n : Nat) (st as rest : List Value) : Prop := n ≤ st.length ∧ catS (st.drop n) ≤ 8 ∧ as = (st.take n).reverse ∧ rest = st.drop n
theorem cal_F {ν μ n : Nat} {st as rest : List Value} (h : cal μ n st = some (Sum.inr (Sum.inl (ν, as, rest)))) : ν = μ ∧ CalF n st as rest := by
  unfold cal at h
  split at h
  · next hq =>
    cases h
    exact ⟨rfl, hq.1, hq.2, rfl, rfl⟩
  · cases h
theorem isK_of {h : VH} {k : Nat} {v : Option Value} (hk : isK h k v = true) : ∃ (a : Nat) (fs : List Value), v = some (.ref a) ∧ h.2 a = cO k fs := by
  unfold isK at hk
  split at hk
  · next a =>
    split at hk
    · next k' fs he =>
      have e1 : k = k' := eq_of_beq hk
      subst e1
      exact ⟨a, fs, rfl, he⟩
    · cases hk
  · cases hk
set_option maxHeartbeats 4000000 in
theorem act_call {M : MI} {ins : ClassFile.Instr} {len pc ν : Nat} {ls : VLs} {st as rest : List Value} {h : VH} (ha : act M ins len pc ls st h = some (Sum.inr (Sum.inl (ν, as, rest)))) : ∃ i : Nat,
    (ins = .invokestatic i ∧ (lkf M.2.1 i).1 = 3 ∧ ν = (lkf M.2.1 i).2.1 ∧ CalF (lkf M.2.1 i).2.2.1 st as rest) ∨
    (ins = .invokevirtual i ∧ (lkf M.2.1 i).1 = 2 ∧ ν = (lkf M.2.1 i).2.1 ∧ 1 ≤ (lkf M.2.1 i).2.2.1 ∧ isK h (lkf M.2.1 i).2.2.2.toNatClampNeg st[(lkf M.2.1 i).2.2.1 - 1]? = true ∧ CalF (lkf M.2.1 i).2.2.1 st as rest) ∨
    (ins = .invokespecial i ∧ (lkf M.2.1 i).1 = 4 ∧ ν = (lkf M.2.1 i).2.1 ∧ 1 ≤ (lkf M.2.1 i).2.2.1 ∧ isK h (lkf M.2.1 i).2.2.2.toNatClampNeg st[(lkf M.2.1 i).2.2.1 - 1]? = true ∧ CalF (lkf M.2.1 i).2.2.1 st as rest) := by
  cases ins
  case invokestatic i =>
    simp only [act, aSta] at ha
    split at ha
    · next ht =>
      obtain ⟨h1, h2⟩ := cal_F ha
      exact ⟨i, Or.inl ⟨rfl, ht, h1, h2⟩⟩
    · simp only [aCpy, nx] at ha
      repeat' split at ha
      all_goals (cases ha; done)
  case invokevirtual i =>
    simp only [act, aVir] at ha
    split at ha
    · next ht =>
      obtain ⟨h1, h2⟩ := cal_F ha
      exact ⟨i, Or.inr (Or.inl ⟨rfl, ht.1, h1, ht.2.2, ht.2.1, h2⟩)⟩
    · cases ha
  case invokespecial i =>
    simp only [act, aSpc] at ha
    split at ha
    · next ht =>
      obtain ⟨h1, h2⟩ := cal_F ha
      exact ⟨i, Or.inr (Or.inr ⟨rfl, ht.1, h1, ht.2.1, ht.2.2, h2⟩)⟩
    · simp only [nx] at ha
      repeat' split at ha
      all_goals (cases ha; done)
  all_goals first
    | (exact absurd (show (none : Option VA) = some _ from ha) (fun z => by cases z))
    | (simp only [act, ldl, ldI, ldJ, ldD, ldA, stI, stA, stJ, stD, nx, jmp, bra, aGet, aPut, aNewI, aNewJ, aNewR, aNew, aIld, aJld, aAld, aIst, aJst, aAst, aLen, aCpy, aTab] at ha
       repeat' split at ha
       all_goals (cases ha; done))
theorem CalF.st {n : Nat} {st as rest : List Value} (h : CalF n st as rest) : st = as.reverse ++ rest ∧ as.length = n := by
  obtain ⟨h1, -, h3, h4⟩ := h
  rw [h3, h4, List.reverse_reverse, List.take_append_drop, List.length_reverse, List.length_take]
  exact ⟨rfl, by omega⟩
theorem CalF.recv {n a : Nat} {st as rest : List Value} (h : CalF n st as rest) (hn : 1 ≤ n) (hv : st[n - 1]? = some (.ref a)) : as = .ref a :: (st.take (n - 1)).reverse ∧ st = (st.take (n - 1)).reverse.reverse ++ .ref a :: rest := by
  obtain ⟨h1, -, h3, h4⟩ := h
  have hlt : n - 1 < st.length := by omega
  have e0 : st[n - 1] = .ref a := by
    rw [List.getElem?_eq_getElem hlt] at hv
    exact Option.some.inj hv
  have e1 : st.take n = st.take (n - 1) ++ [.ref a] := by
    have : n = (n - 1) + 1 := by omega
    rw [this, List.take_succ_eq_append_getElem hlt, Nat.add_sub_cancel, e0]
  refine ⟨?_, ?_⟩
  · rw [h3, e1, List.reverse_append]
    rfl
  · rw [List.reverse_reverse, h4]
    have : st = st.take n ++ st.drop n := (List.take_append_drop n st).symm
    rw [e1, List.append_assoc] at this
    exact this
section SND
variable {l : Launch} {s0 : State} {a0 : Array Value} {τ : Nat → Nat} {D : va_G} {cA : Nat → ClassId}
variable {p : Program} {e : Env} {R : Room} {s : State} {m : MethodId} {args : Array Value} {below : List Frame} {meth : Method} {c : Code} {T : State} {locs : List Loc} {cells slots : Nat} {H : Heap} {Q : State → Prop} {μ ν : Nat}
theorem ce_all (G : GX l s0 a0 τ D cA) (F : FX s0 μ p R s m meth c) (hM : okM μ = true) {ins : ClassFile.Instr} {len pc : Nat} {ls : VLs} {st as rest : List Value} {h : VH} {LS : Array Slot} (ho : okL ins len = true) (hd : decode (mt μ).1 pc = .ok (ins, len)) (ha : act (mt μ) ins len pc ls st h = some (Sum.inr (Sum.inl (ν, as, rest)))) (hI : Inv τ D cA s0 s h H locs) :
    cll μ ν = true ∧ catS rest ≤ 8 ∧ ∀ T, T.heap = H → Stand p l e R s m args below meth c T locs cells slots → CE p l e R s m args below meth c locs cells slots T (F0 m pc LS (st.map (tv τ))) (rest.map (tv τ)) ν (as.map (tv τ)).toArray := by
  obtain ⟨hμ, hx, hb, hml, hown, hW, hBs, hLow, hfr, hlo, hlk, hrt, hnm, hex⟩ := F
  obtain ⟨i, ⟨rfl, ht, hν, hC⟩ | ⟨rfl, ht, hν, hn1, hK, hC⟩ | ⟨rfl, ht, hν, hn1, hK, hC⟩⟩ := act_call ha
  · obtain rfl : len = 3 := eq_of_beq ho
    obtain ⟨hck, hw⟩ := okM_e hM (i := i) (by rw [ht]; decide)
    have hck1 : cll μ ν = true ∧ par ν (lkf (mt μ).2.1 i).2.2.1 = true := by
      unfold chkE at hck
      rw [ht, ← hν] at hck
      simpa using hck
    have hw1 : lkM (yM μ).cls i (yM ν) ∈ lw_tbl := hw _ (by unfold wdE; rw [ht, ← hν]; simp)
    have hw2 : Cond.static (yM ν) ∈ lw_tbl := hw _ (by unfold wdE; rw [ht, ← hν]; simp)
    have hc9 := hck1.1
    unfold cll at hc9
    simp only [Bool.and_eq_true, decide_eq_true_eq] at hc9
    have hN := okM_all hc9.1
    have hcd := okM_cd hN hc9.2.1
    have hy := (okM_rk hN).2.2.2
    obtain ⟨e1, e2⟩ := hC.st
    refine ⟨hck1.1, by rw [hC.2.2.2]; exact hC.2.1, fun T hT X => ?_⟩
    refine ce_S X hx hown (lkM_at G hW hw1) (wd_at G hW hw2 rfl) (wd_at G hW hcd.2 rfl) (wd_at G hW hcd.1 (cdW_good ν)) hy rfl (by rw [List.length_map, e2]; exact hck1.2) ?_ (by rw [hb]; exact hd)
    show st.map (tv τ) = _
    rw [e1, List.map_append, List.map_reverse]
  · obtain rfl : len = 3 := eq_of_beq ho
    obtain ⟨hck, hw⟩ := okM_e hM (i := i) (by rw [ht]; decide)
    have hck1 : cll μ ν = true ∧ (yM ν).cls = cNm (lkf (mt μ).2.1 i).2.2.2.toNatClampNeg ∧ hhM ν = [] ∧ par ν ((lkf (mt μ).2.1 i).2.2.1 - 1) = true := by
      unfold chkE at hck
      rw [ht, ← hν] at hck
      simpa using hck
    have hw1 : lkM (yM μ).cls i (yM ν) ∈ lw_tbl := hw _ (by unfold wdE; rw [ht, ← hν]; simp)
    have hw2 : Cond.instanceMethod (yM ν) ∈ lw_tbl := hw _ (by unfold wdE; rw [ht, ← hν]; simp)
    have hw3 : Cond.selects (cNm (lkf (mt μ).2.1 i).2.2.2.toNatClampNeg) (yM ν) (yM ν) ∈ lw_tbl := hw _ (by unfold wdE; rw [ht, ← hν]; simp)
    have hc9 := hck1.1
    unfold cll at hc9
    simp only [Bool.and_eq_true, decide_eq_true_eq] at hc9
    have hN := okM_all hc9.1
    have hcd := okM_cd hN hc9.2.1
    have hy := (okM_rk hN).2.2.2
    obtain ⟨a, fs, ea, ef⟩ := isK_of hK
    obtain ⟨e1, e2⟩ := hC.recv hn1 ea
    have hA := hI.1.1 a
    rw [ef] at hA
    obtain ⟨hk6, hlen, cell, q1, q2, q3, q4⟩ := hA
    refine ⟨hck1.1, by rw [hC.2.2.2]; exact hC.2.1, fun T hT X => ?_⟩
    have hlen2 : (((st.take ((lkf (mt μ).2.1 i).2.2.1 - 1)).reverse).map (tv τ)).length = (lkf (mt μ).2.1 i).2.2.1 - 1 := by
      rw [List.length_map, List.length_reverse, List.length_take]
      have := hC.1
      omega
    have hce := ce_V (ν := ν) (argsL := ((st.take ((lkf (mt μ).2.1 i).2.2.1 - 1)).reverse).map (tv τ)) (rest := rest.map (tv τ)) (b := τ a) (g := F0 m pc LS (st.map (tv τ))) X hx hown (lkM_at G hW hw1) (wd_at G hW hw2 rfl) (wd_at G hW hw3 rfl) (wd_at G hW hcd.1 (cdW_good ν)) hy (by rw [hT]; exact q1) q3 (by rw [q2]; exact (kn_at G hW hk6).2.1) rfl (by rw [hlen2]; exact hck1.2.2.2) (by
      show st.map (tv τ) = _
      conv => lhs; rw [e2]
      rw [List.map_append, List.map_reverse]
      rfl) (by rw [hb]; exact hd)
    rw [e1]
    exact hce
  · obtain rfl : len = 3 := eq_of_beq ho
    obtain ⟨hck, hw⟩ := okM_e hM (i := i) (by rw [ht]; decide)
    have hck1 : cll μ ν = true ∧ (yM ν).name = "<init>" ∧ hhM ν = [] ∧ par ν ((lkf (mt μ).2.1 i).2.2.1 - 1) = true ∧ rtM ν = none := by
      unfold chkE at hck
      rw [ht, ← hν] at hck
      simpa using hck
    have hw1 : lkM (yM μ).cls i (yM ν) ∈ lw_tbl := hw _ (by unfold wdE; rw [ht, ← hν]; simp)
    have hw2 : Cond.instanceMethod (yM ν) ∈ lw_tbl := hw _ (by unfold wdE; rw [ht, ← hν]; simp)
    have hc9 := hck1.1
    unfold cll at hc9
    simp only [Bool.and_eq_true, decide_eq_true_eq] at hc9
    have hN := okM_all hc9.1
    have hcd := okM_cd hN hc9.2.1
    have hy := (okM_rk hN).2.2.2
    obtain ⟨a, fs, ea, ef⟩ := isK_of hK
    obtain ⟨e1, e2⟩ := hC.recv hn1 ea
    refine ⟨hck1.1, by rw [hC.2.2.2]; exact hC.2.1, fun T hT X => ?_⟩
    have hlen2 : (((st.take ((lkf (mt μ).2.1 i).2.2.1 - 1)).reverse).map (tv τ)).length = (lkf (mt μ).2.1 i).2.2.1 - 1 := by
      rw [List.length_map, List.length_reverse, List.length_take]
      have := hC.1
      omega
    have hce := ce_I (ν := ν) (argsL := ((st.take ((lkf (mt μ).2.1 i).2.2.1 - 1)).reverse).map (tv τ)) (rest := rest.map (tv τ)) (b := τ a) (g := F0 m pc LS (st.map (tv τ))) X hx hown hck1.2.1 hck1.2.2.1 hck1.2.2.2.2 (lkM_at G hW hw1) (wd_at G hW hw2 rfl) (wd_at G hW hcd.1 (cdW_good ν)) hy rfl (by rw [hlen2]; exact hck1.2.2.2.1) (by
      show st.map (tv τ) = _
      conv => lhs; rw [e2]
      rw [List.map_append, List.map_reverse]
      rfl) (by rw [hb]; exact hd)
    rw [e1]
    exact hce
/-- the run from here, in the great machine -/
def RnP (l : Launch) (s0 : State) (τ : Nat → Nat) (D : va_G) (cA : Nat → ClassId) (f : Nat) : Prop := ∀ (μ pc : Nat) (ls : VLs) (st : List Value) (h : VH) (x : VR), run f (mt μ) pc ls st h = some x → okM μ = true →
  ∀ (p : Program) (e : Env) (R : Room) (s : State) (m : MethodId) (args : Array Value) (below : List Frame) (meth : Method) (c : Code) (locs : List Loc) (cells slots : Nat) (H : Heap) (LS : Array Slot) (k0 z0 mc ms : Nat), FX s0 μ p R s m meth c → LsR τ ls LS → ls.length = (mt μ).2.2.1.1 → Inv τ D cA s0 s h H locs →
    cells + k0 = h.1.2.2.1 → slots + z0 = h.1.2.2.2 → mc + k0 = x.2.1.2.2.1 → ms + z0 = x.2.1.2.2.2 → mc ≤ R.cells → ms ≤ R.slots →
    W p l e R s m args below meth c H locs cells slots (vx_MQ below (QcM s0 τ D cA x) (XcM s0 τ D cA x) args s mc ms (FrM s0)) (F0 m pc LS (st.map (tv τ)))
theorem snd_met {f : Nat} (ih : RnP l s0 τ D cA f) {as : List Value} {h : VH} {x : VR} (hr : run f (mt ν) 0 (entL (mt ν).2.2.1.1 as) [] h = some x) (hN : okM ν = true) (hν : ν < nM) (hea : (entA as).length ≤ (mt ν).2.2.1.1) {mc ms : Nat} (hmc : mc + h.1.2.2.1 = x.2.1.2.2.1) (hms : ms + h.1.2.2.2 = x.2.1.2.2.2) :
    vx_Met l (yM ν) [cdW ν] (rmK ν mc ms) (PcM s0 τ D cA as h) (QcM s0 τ D cA x) (XcM s0 τ D cA x) mc ms (FrM s0) := by
  obtain ⟨-, -, hpl, -⟩ := okM_rk hN
  unfold vx_Met
  refine MetFree.of_bodySF (code := (mt ν).1) (maxLocals := (mt ν).2.2.1.1) (ret := rtM ν) hpl ?_ ?_
  · intro args s m h1 hn
    have h2 : (cdW ν).before args s = true := atoms_spec (ws := [cdW ν]) h1 _ List.mem_cons_self
    unfold cdW at h2
    split at h2
    · obtain ⟨meth, c, g1, g2, g3, g4, g5, g6, -, -⟩ := Cond.code_spec hn h2
      exact ⟨meth, c, g1, g2, g3, g4, g5, g6⟩
    · obtain ⟨m9, meth, c, hn9, g1, g2, g3, g4, -, g5, g6, -⟩ := Cond.codeWith_spec h2
      cases hn.symm.trans hn9
      exact ⟨meth, c, g1, g2, g3, g4, g5, g6⟩
  · intro p e s m args below meth c s₁ B hml hP _
    obtain ⟨rfl, hW, hR, hB, hlow⟩ := hP
    have hh0 : s₁.heap = s.heap := by rw [B.state]; rfl
    have h2 : (cdW ν).before (as.map (tv τ)).toArray s = true := atoms_spec (ws := [cdW ν]) B.pre _ List.mem_cons_self
    have hex : c.exceptionTable.toList = tableOf (hhM ν) := by
      unfold cdW at h2
      split at h2
      · next hh =>
        obtain ⟨meth9, c9, g1, g2, -, -, -, -, g7, -⟩ := Cond.code_spec B.named h2
        cases Option.some.inj (g1.symm.trans B.method)
        cases Option.some.inj (g2.symm.trans (Stand.of_body B).code)
        rw [hh, Array.isEmpty_iff.mp g7]
        rfl
      · next q t hh =>
        rw [hh]
        exact vx_table (x := yM ν) B h2
    have F : FX s0 ν p (headSpec [cdW ν] (rmK ν mc ms)).room s m meth c := ⟨hν, B.exec, B.bytes, hml, findClass_of_methodNamed B.named, hW, hB, hlow, Nat.le_refl _, Nat.le_refl _, B.notSynchronized, B.returns, (name_of_methodNamed B.named B.method).1, hex⟩
    have k := ih ν 0 _ [] h x hr hN p e _ s m (as.map (tv τ)).toArray below meth c [] 0 0 s.heap _ h.1.2.2.1 h.1.2.2.2 mc ms F (LsR.ent τ hea) (entL_len hea) ⟨hR, Nat.le_refl _, hlow, fun z hz => (by cases hz)⟩ (Nat.zero_add _) (Nat.zero_add _) hmc hms (Nat.le_refl _) (Nat.le_refl _)
    obtain ⟨t, a1, o, b1, b2, b3⟩ := k s₁ hh0 (Stand.of_body B)
    refine ⟨t, o, ?_, b1, b2, b3⟩
    rw [lg_entry_eq]
    exact a1
set_option maxHeartbeats 4000000 in
theorem rn_all (G : GX l s0 a0 τ D cA) : ∀ f, RnP l s0 τ D cA f
  | 0 => fun μ pc ls st h x hx => by cases hx
  | f + 1 => by
    have ih := rn_all G f
    intro μ pc ls st h x hx hM p e R s m args below meth c locs cells slots H LS k0 z0 mc ms F hl hn hI hc hs hmc hms hRc hRs
    have hcnt := run_cnt (f + 1) hx
    rw [run] at hx
    cases hd : decode (mt μ).1 pc with
    | error e9 => rw [hd] at hx; cases hx
    | ok q0 =>
      rw [hd] at hx
      obtain ⟨ins, len⟩ := q0
      simp only at hx
      by_cases ho : okL ins len = true
      case neg => rw [if_neg ho] at hx; cases hx
      rw [if_pos ho] at hx
      cases ha : act (mt μ) ins len pc ls st h with
      | none => rw [ha] at hx; cases hx
      | some a =>
        rw [ha] at hx
        rcases a with q | ⟨ν, as, rest⟩ | v | E
        · have hx' : run f (mt μ) q.1 q.2.1 q.2.2.1 q.2.2.2 = some x := hx
          have g := run_cnt f hx'
          exact sp_all ho μ p e R s m args below meth c _ G F hM pc ls st h q LS H locs cells slots k0 z0 hd ha hl hn hI hc hs (by omega) (by omega)
            (fun LS9 H9 locs9 cells9 slots9 y1 y2 y3 y4 y5 => ih μ q.1 q.2.1 q.2.2.1 q.2.2.2 x hx' hM p e R s m args below meth c locs9 cells9 slots9 H9 LS9 k0 z0 mc ms F y1 y2 y3 y4 y5 hmc hms hRc hRs)
        · simp only [stepc] at hx
          by_cases he : (entA as).length ≤ (mt ν).2.2.1.1
          case neg => rw [if_neg he] at hx; cases hx
          rw [if_pos he] at hx
          cases h1 : run f (mt ν) 0 (entL (mt ν).2.2.1.1 as) [] h with
          | none => rw [h1] at hx; cases hx
          | some y =>
            rw [h1] at hx
            have gy := run_cnt f h1
            obtain ⟨hcl, hr8, hce⟩ := ce_all (e := e) (l := l) (args := args) (below := below) (cells := cells) (slots := slots) (LS := LS) G F hM ho hd ha hI
            have hc9 := hcl
            unfold cll at hc9
            simp only [Bool.and_eq_true, decide_eq_true_eq] at hc9
            have hN := okM_all hc9.1
            have hMet := snd_met ih h1 hN hc9.1 he (mc := y.2.1.2.2.1 - h.1.2.2.1) (ms := y.2.1.2.2.2 - h.1.2.2.2) (by omega) (by omega)
            have gx : y.2.1.2.2.1 ≤ x.2.1.2.2.1 ∧ y.2.1.2.2.2 ≤ x.2.1.2.2.2 := by
              obtain ⟨v | E, h'⟩ := y
              · exact run_cnt f hx
              · simp only at hx
                cases h2 : hnd (mt μ).2.2.2 pc E with
                | none => rw [h2] at hx; cases hx; exact ⟨Nat.le_refl _, Nat.le_refl _⟩
                | some hp =>
                  rw [h2] at hx
                  simp only at hx
                  cases h3 : ctch (mt μ) hp ls with
                  | none => rw [h3] at hx; cases hx
                  | some z =>
                    rw [h3] at hx
                    exact run_cnt f hx
            refine cl_W G F hN hcl hMet hI (hl.1.trans hn) hr8 (by omega) (by omega) hce ?_ ?_
            · intro v hv H1 locs1 hI1
              obtain ⟨r9, h'⟩ := y
              cases hv
              exact ih μ (pc + 3) ls (v.toList ++ rest) h' x hx hM p e R s m args below meth c locs1 _ _ H1 LS k0 z0 mc ms F hl hn hI1 (by show _ = h'.1.2.2.1; have : h.1.2.2.1 ≤ h'.1.2.2.1 := gy.1; show cells + (h'.1.2.2.1 - h.1.2.2.1) + k0 = _; omega) (by have : h.1.2.2.2 ≤ h'.1.2.2.2 := gy.2; show slots + (h'.1.2.2.2 - h.1.2.2.2) + z0 = _; omega) hmc hms hRc hRs
            · intro E hE e1 e3 H1 locs1 q ce hI1 hce1 hcv hcl1
              obtain ⟨r9, h'⟩ := y
              cases hE
              have gy1 : h.1.2.2.1 ≤ h'.1.2.2.1 := gy.1
              have gy2 : h.1.2.2.2 ≤ h'.1.2.2.2 := gy.2
              have gx1 : h'.1.2.2.1 ≤ x.2.1.2.2.1 := gx.1
              have gx2 : h'.1.2.2.2 ≤ x.2.1.2.2.2 := gx.2
              simp only at hx
              obtain ⟨hμ, hx0, hb, hml, hown, hW, hBs, hLow, hfr, hlo, hlk, hrt, hnm, hex⟩ := id F
              obtain ⟨g1, g2⟩ := hnd_spec (yM μ).cls pc E (hhM μ) (mt μ).2.2.2 (okM_rk hM).2.1 (hw_at hM)
              cases h2 : hnd (mt μ).2.2.2 pc E with
              | none =>
                rw [h2] at hx
                cases hx
                have hmc' : mc + k0 = h'.1.2.2.1 := hmc
                have hms' : ms + z0 = h'.1.2.2.2 := hms
                refine vx_outP hown hlk (fun z hz => pass_at G hW e1 e3 (g2 h2 z (by rw [← hex]; exact hz))) hce1 hcv hcl1 ?_ hI1.2.2.2 (by show cells + (h'.1.2.2.1 - h.1.2.2.1) ≤ mc; omega) (by show slots + (h'.1.2.2.2 - h.1.2.2.2) ≤ ms; omega)
                intro t ht hal
                exact ⟨E, rfl, e1, e3, rfl, by rw [ht]; exact hI1.1, by rw [ht]; exact hI1.2.1, by rw [ht]; exact hI1.2.2.1⟩
              | some hp =>
                rw [h2] at hx
                simp only at hx
                cases h3 : ctch (mt μ) hp ls with
                | none => rw [h3] at hx; cases hx
                | some z9 =>
                  rw [h3] at hx
                  obtain ⟨pc9, ls9⟩ := z9
                  simp only at hx
                  obtain ⟨pre, xx, suf, f1, f2, f3, f4, f5, f6⟩ := g1 hp h2
                  refine vx_catch hown pre xx suf (hex.trans f1) (fun z hz => pass_at G hW e1 e3 (f2 z hz)) f3 f4 (wd_at G hW f6 rfl) (cast_at G hW (gW_mem (gW_e e1 e3).2.1)) hce1 hcv hcl1 ?_
                  rw [f5]
                  unfold ctch at h3
                  split at h3
                  · next k d9 =>
                    unfold cat1 at h3
                    split at h3
                    · next hk =>
                      cases h3
                      refine lv_astore_n hx0 hb d9 rfl hl hk rfl (fun LS9 h9 => ?_)
                      exact ih μ _ _ [] h' x hx hM p e R s m args below meth c locs1 _ _ H1 LS9 k0 z0 mc ms F (LsR.st1 (o := none) hk (fun v q => (by cases q)) h9) ((set1_len _ _ _).trans hn) hI1 (by show cells + (h'.1.2.2.1 - h.1.2.2.1) + k0 = h'.1.2.2.1; omega) (by show slots + (h'.1.2.2.2 - h.1.2.2.2) + z0 = h'.1.2.2.2; omega) hmc hms hRc hRs
                    · cases h3
                  · next k d9 =>
                    unfold cat1 at h3
                    split at h3
                    · next hk =>
                      cases h3
                      refine lv_astore hx0 hb d9 hl hk rfl (fun LS9 h9 => ?_)
                      exact ih μ _ _ [] h' x hx hM p e R s m args below meth c locs1 _ _ H1 LS9 k0 z0 mc ms F (LsR.st1 (o := none) hk (fun v q => (by cases q)) h9) ((set1_len _ _ _).trans hn) hI1 (by show cells + (h'.1.2.2.1 - h.1.2.2.1) + k0 = h'.1.2.2.1; omega) (by show slots + (h'.1.2.2.2 - h.1.2.2.2) + z0 = h'.1.2.2.2; omega) hmc hms hRc hRs
                    · cases h3
                  · cases h3
        · cases hx
          have hmc' : mc + k0 = h.1.2.2.1 := hmc
          have hms' : ms + z0 = h.1.2.2.2 := hms
          obtain rfl : cells = mc := by omega
          obtain rfl : slots = ms := by omega
          exact en_ret F hM ho hd ha hI
        · cases hx
          have hmc' : mc + k0 = h.1.2.2.1 + 1 := hmc
          have hms' : ms + z0 = h.1.2.2.2 + 6 := hms
          exact en_thr G F hM (hl.1.trans hn) ho hd ha hI (by omega) (by omega) hRc hRs
end SND
