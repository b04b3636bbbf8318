/-! THE CLAIM OUT OF ONE WALK OF THE LAW'S BODY. Your part is whole_start (and what it stands on); all else here is the same for every law, but numbers. -/
def R_law : String := "SortsCaseLaw"
def lw_P (b : Addr) (xs : List Int32) (args : Array Value) (s : State) : Prop := args = #[.ref b] ∧ s.IntsAt b xs ∧ xs.length ≤ 2560 ∧ (Jvm.Cond.and given_1 narrow_1).before args s = true
/-- what a walk over the start with the record d0 says of its end, said of the start itself -/
theorem lw_closed {s t : State} {o : Outcome} {d0 : Drawn} {L : List Loc} {k n : Nat} (hd0 : s.drawn.sameBut d0 lw_cs) (hv : ∃ v, o = .returned v) (hW : (s.setDrawn d0).WarmedH t.vm) (hs : (s.setDrawn d0).sameButNew ({ t with vm := s.vm } : State) L k n) : State.butDraws s t lw_cs (fun t1 => Framed s o t1 L k n) := by
  have h2 : t.drawn = d0 := congrArg State.drawn hs.1
  refine ⟨⟨hv, hW, State.sameButNew.setDrawn hs s.drawn⟩, ?_, by decide⟩
  rw [h2]
  exact hd0
def lw_Q (_ : Array Value) (s : State) (o : Outcome) (t : State) : Prop := o = .returned (some (.int 1)) ∧ State.butDraws s t lw_cs (fun t1 => Framed s o t1 [] 601024 7293034)
def lw_Z (below : List Frame) (a : Array Value) (s : State) : State → Prop := fun t => ∃ o, t.status = .running ∧ Ended t below o ∧ lw_Q a s o t
/-- the law's own end, with 1 on the stack, nothing written that was there before, its room as the claim has it; d0: the record of draws at this point (at the entry s.drawn: begin with 'refine W.base ?_' and 'have hd0 := Drawn.sameBut.refl s.drawn lw_cs') -/
theorem lw_ret {p : Program} {l : Launch} {e : Env} {s : State} {m : MethodId} {below : List Frame} {meth : Method} {c : Code} {b : Nat} {d0 : Drawn} (hd0 : s.drawn.sameBut d0 lw_cs) (hx : p.tables.exec = Jvm.exec) (hb : c.code = code) (hr : meth.sig.returnType = ret) (hlocks : meth.locks = false) {pc : Nat} {H : Heap} {ls : Array Slot} (hdg : decode code pc = .ok (.ireturn, 1)) : W p l e room_1 (s.setDrawn d0) m #[Value.ref b] below meth c H [] 601024 7293034 (lw_Z below #[Value.ref b] s) (F0 m pc ls [.int 1]) := by
  intro T hT X
  obtain ⟨fs, hret, hrun, hended, hW, hframe⟩ := X.leave (v := some (.int 1)) (hlocks := hlocks) (fun h => by rw [hr] at h; cases h)
  have hmeth' : T.vm.method? m = some meth := X.method'
  refine ⟨T.setFrames fs, ?_, .returned (some (.int 1)), hrun, hended, rfl, lw_closed hd0 ⟨_, rfl⟩ hW hframe⟩
  jvm_step X.here [X.here.top, hx, hb, hdg, hmeth', hr, ret, narrow_b1]
  (try refine ⟨rfl, ?_⟩); (try refine ⟨rfl, ?_⟩)
  first | (intro acts; rw [hret _ acts rfl rfl rfl]) | rw [hret _ _ rfl rfl rfl]
  exact Steps.refl _
/-- what holds at the law's entry: the machine, the code, the tables' words (any of lw_tbl by 'hts w (by decide +kernel)'), the script of L ints xs at the cell b, what the Statement gives of the start (any of its parts by flat_of_before) -/
def lw_At (p : Program) (s : State) (m : MethodId) (meth : Method) (c : Code) (b L : Nat) (xs : Nat → Int32) : Prop :=
  p.tables.exec = Jvm.exec ∧ c.code = code ∧ meth.sig.returnType = ret ∧ c.maxLocals = 9 ∧ s.vm.findClass R_law = some m.cls ∧ (∀ w ∈ lw_tbl, w.before #[Value.ref b] s = true) ∧ va_X b L xs s s.heap ∧ b < s.heap.size ∧ meth.locks = false ∧ (Jvm.Cond.and given_1 narrow_1).before #[Value.ref b] s = true ∧ meth.name = "law" ∧ c.exceptionTable.toList = []
-- ===== YOUR PART BEGINS =====
/-- the small machine's addresses: the script, WIDTHS, then what is made -/
def tu (b w B a : Nat) : Nat := if a = 0 then b else if a = 1 then w else B + (a - 2)
def c0 (L : Nat) (xs : Nat → Int32) (a : Nat) : VC := if a = 0 then cS L xs else if a = 1 then cS 27 (fun j => nI (wd j)) else cN
theorem fl_w : (List.range 27).all (fun j => decide (Cond.eq (.elem (.static "SortsCase" "WIDTHS" "[I") (.int (Int32.ofNat j))) (.int (nI (wd j))) ∈ flatC (Jvm.Cond.and given_1 narrow_1))) = true := by decide +kernel
theorem str_w : lw_tbl.all (fun w => match w with
  | .stringRef own k _ => decide (Cond.exactly (.string own k) "java/lang/String" ∈ flatC (Jvm.Cond.and given_1 narrow_1))
  | _ => true) = true := by decide +kernel
theorem nc_w : ([1, 2, 3] : List Nat).all (fun E => ([1, 2, 3] : List Nat).all (fun F => E == F || decide (Cond.not (.castable (eNm E) (eNm F)) ∈ flatC (Jvm.Cond.and given_1 narrow_1)))) = true := by decide +kernel
theorem in3 {E : Nat} (h1 : 1 ≤ E) (h3 : E ≤ 3) : E ∈ ([1, 2, 3] : List Nat) := by
  have h : E = 1 ∨ E = 2 ∨ E = 3 := by omega
  rcases h with rfl | rfl | rfl <;> simp
set_option maxHeartbeats 4000000 in
theorem gx_of {l : Launch} {s : State} {b : Nat} (hflags : l.flags = flags0) (hts : ∀ w ∈ lw_tbl, w.before #[Value.ref b] s = true) (hb : b < s.heap.size) (hgv : (Jvm.Cond.and given_1 narrow_1).before #[Value.ref b] s = true) :
    ∃ (w : Nat) (D : va_G) (cA : Nat → ClassId), w < s.heap.size ∧ GX l s #[Value.ref b] (tu b w s.heap.size) D cA ∧ va_T .int w 27 (fun j => .int (nI (wd j))) (fun q => s.heap.size ≤ q) s s.heap := by
  have hs := flat_of_before _ hgv
  have hA : ∀ a : Nat, a < s.heap.size → ¬ s.heap.size ≤ a := fun a h => by omega
  have hgw : ∀ {x : Cond}, x ∈ gW → x.before #[Value.ref b] s = true := fun h => hts _ (gW_mem h)
  have w1 : (Cond.laysStatic "SortsCase" "WIDTHS" "[I").before #[Value.ref b] s = true := hts _ (by decide +kernel)
  have w2 : (Cond.initialized "SortsCase").before #[Value.ref b] s = true := hts _ (by decide +kernel)
  have w3 : (Cond.arrayOf (.static "SortsCase" "WIDTHS" "[I") .int).before #[Value.ref b] s = true := hs _ (by decide +kernel)
  have w4 : (Cond.eq (.length (.static "SortsCase" "WIDTHS" "[I")) (.int 27)).before #[Value.ref b] s = true := hs _ (by decide +kernel)
  obtain ⟨w, hw1, hw2⟩ := va_Tof (N := 27) (f := fun j => .int (nI (wd j))) (A := fun q => s.heap.size ≤ q) (by decide) w3 (va_eqt w4) (fun j hj => va_eqt (hs _ (of_decide_eq_true (List.all_eq_true.mp fl_w j (List.mem_range.mpr hj))))) hA
  have hwl : w < s.heap.size := by
    obtain ⟨cell, h1, -⟩ := hw2
    exact (Array.getElem?_eq_some_iff.mp h1).1
  have hkn : ∀ k, ∃ (cC : ClassId) (iS : Nat → Nat), k < 6 → u_Kn s (cNm k) (tFd k) (nFd k) cC iS := by
    intro k
    by_cases hk : k < 6
    · obtain ⟨cC, iS, h⟩ := u_known (ws := u_ws (cNm k) (tFd k) (nFd k)) (fun x hx => hgw ((gW_cls hk).2.2 x hx)) (fun x h => h) (hgw (gW_cls hk).1)
      exact ⟨cC, iS, fun _ => h⟩
    · exact ⟨0, fun _ => 0, fun h => absurd h hk⟩
  have hI := Cond.arrayClass_spec (show (Cond.arrayClass .int).holds #[Value.ref b] s none s [] = true from hgw (List.mem_append_right _ (by simp)))
  have hJ := Cond.arrayClass_spec (show (Cond.arrayClass .long).holds #[Value.ref b] s none s [] = true from hgw (List.mem_append_right _ (by simp)))
  obtain ⟨ci, ki, mi, i1, i2, i3⟩ := hI
  obtain ⟨cj, kj, mj, j1, j2, j3⟩ := hJ
  have hR : ∀ t, ∃ ca : ClassId, okA t = true → ArrOfT s ca (.object (cNm t)) ∧ va_RA s ca (.object (cNm t)) := by
    intro t
    by_cases ht : okA t = true
    · obtain ⟨comp, ca, kA, h1, h2, h3, h4, h5⟩ := Cond.arrayOver_spec (show (Cond.arrayOver (.object (cNm t))).holds #[Value.ref b] s none s [] = true from hgw (gW_ao ht))
      exact ⟨ca, fun _ => ⟨fun n z => ⟨fun k h => (by cases h), kA, h3, comp, h4⟩, kA, comp, h3, h4, h1, h5⟩⟩
    · exact ⟨0, fun h => absurd h ht⟩
  have t1 : (Cond.isRef (.static "java/lang/Throwable" "UNASSIGNED_STACK" "[Ljava/lang/StackTraceElement;")).before #[Value.ref b] s = true := hs _ (by decide +kernel)
  have t2 : (Cond.isRef (.static "java/lang/Throwable" "SUPPRESSED_SENTINEL" "Ljava/util/List;")).before #[Value.ref b] s = true := hs _ (by decide +kernel)
  have t3 : (Cond.laysStatic "java/lang/Throwable" "UNASSIGNED_STACK" "[Ljava/lang/StackTraceElement;").before #[Value.ref b] s = true := hts _ (by decide +kernel)
  have t4 : (Cond.laysStatic "java/lang/Throwable" "SUPPRESSED_SENTINEL" "Ljava/util/List;").before #[Value.ref b] s = true := hts _ (by decide +kernel)
  have t5 : (Cond.initialized "java/lang/Throwable").before #[Value.ref b] s = true := hts _ (by decide +kernel)
  refine ⟨w, (fun k => Classical.choose (hkn k), fun k => Classical.choose (Classical.choose_spec (hkn k))), fun a => if a = 0 then ci else if a = 1 then cj else Classical.choose (hR (a - 2)), hwl, ⟨hts, ⟨fun a ha => ?_, fun a ha => ?_⟩, fun k hk => ?_, ⟨?_, ?_⟩, ⟨?_, ?_⟩, fun t ht => ?_, ?_, ⟨?_, ?_⟩, fun own k tx hm => ?_, ?_, fun E F e1 e3 f1 f3 hne => ?_⟩, hw2⟩
  · unfold tu
    rw [if_neg (by omega), if_neg (by omega)]
    omega
  · unfold tu
    by_cases h0 : a = 0
    · rw [if_pos h0]; exact hb
    · rw [if_neg h0, if_pos (by omega)]; exact hwl
  · exact Classical.choose_spec (Classical.choose_spec (hkn k)) hk
  · exact fun n z => ⟨fun k h => (by cases h), ki, i2, mi, i3⟩
  · exact i1
  · exact fun n z => ⟨fun k h => (by cases h), kj, j2, mj, j3⟩
  · exact j1
  · show ArrOfT s (if 2 + t = 0 then ci else if 2 + t = 1 then cj else Classical.choose (hR (2 + t - 2))) _ ∧ va_RA s (if 2 + t = 0 then ci else if 2 + t = 1 then cj else Classical.choose (hR (2 + t - 2))) _
    rw [if_neg (by omega), if_neg (by omega), show 2 + t - 2 = t by omega]
    exact Classical.choose_spec (hR t) ht
  · exact va_Zref w1 w2 hw1 hA
  · exact vx_Zqof t3 t5 t1 hA
  · exact vx_Zqof t4 t5 t2 hA
  · have h9 := List.all_eq_true.mp str_w _ hm
    have h8 := hs _ (of_decide_eq_true h9)
    obtain ⟨a, c, cell, k9, z1, -⟩ := Cond.exactly_spec (show (Cond.exactly (.string own k) "java/lang/String").holds #[Value.ref b] s none s [] = true from h8)
    exact ⟨a, vk_R.of (A := #[Value.ref b]) (hts _ hm) z1⟩
  · unfold Launch.stackTraces
    rw [hflags]
    decide +kernel
  · have h9 := List.all_eq_true.mp (List.all_eq_true.mp nc_w E (in3 e1 e3)) F (in3 f1 f3)
    simp only [Bool.or_eq_true, beq_iff_eq, decide_eq_true_eq] at h9
    exact va_Nc.of (hs _ (h9.resolve_left hne))
theorem law_rm : (rmM k_L_law).1 ≤ room_1.frames ∧ (rmM k_L_law).2 ≤ room_1.locals := by decide +kernel
set_option maxHeartbeats 4000000 in
/-- from the entry, for every script of at most 2560 ints, the law comes to its end with true -/
theorem whole_start {p : Program} {e : Env} {s : State} {m : MethodId} {below : List Frame} {meth : Method} {c : Code} (l : Launch) (hflags : l.flags = flags0) {b L : Nat} {xs : Nat → Int32} (hL : L ≤ 2560) (C0 : lw_At p s m meth c b L xs) : W p l e room_1 s m #[Value.ref b] below meth c s.heap [] 0 0 (lw_Z below #[Value.ref b] s) (entryFrame m ([Value.ref b] : List Value).toArray 9) := by
  obtain ⟨hx, hb, hr, hml, hown, hts, hX, hbl, hlk, hgv, hnm, hxt⟩ := C0
  obtain ⟨w, D, cA, hwl, G, hT⟩ := gx_of hflags hts hbl hgv
  have hW0 : s.WarmedH s.vm := State.WarmedH.refl s
  obtain ⟨f, x, hrun, hx1, hx2, hx3⟩ := s_law (c := c0 L xs) (k := 0) (s := 0) (n := L) (sc := xs) (by omega) rfl ⟨_, rfl, fun _ _ => rfl⟩
  have hI : Inv (tu b w s.heap.size) D cA s s ((2, true, 0, 0), c0 L xs) s.heap [] := by
    refine ⟨⟨fun a => ?_, fun a ha => ?_, Nat.le_refl _, fun _ => rfl⟩, Nat.le_refl _, fun _ _ => rfl, fun z hz => (by cases hz)⟩
    · show AtC _ D cA s (c0 L xs a) (tu b w s.heap.size a) s.heap
      unfold c0 tu
      by_cases h0 : a = 0
      · rw [if_pos h0, if_pos h0]
        obtain ⟨scr, x1, x2, x3, x4, x5⟩ := hX
        exact ⟨scr, x1, x2, x3, Nat.le_of_eq x4.symm, by rw [x4]; rfl, x5⟩
      · rw [if_neg h0, if_neg h0]
        by_cases h1 : a = 1
        · rw [if_pos h1, if_pos h1]
          obtain ⟨cell, y1, y2, y3, y4, y5, y6, -⟩ := hT
          exact ⟨cell, y1, y2, y3, y4, y5, y6⟩
        · rw [if_neg h1]
          trivial
    · show roC (c0 L xs a)
      unfold c0
      by_cases h0 : a = 0
      · rw [if_pos h0]; trivial
      · rw [if_neg h0, if_pos (by omega)]; trivial
  have hM : okM k_L_law = true := okM_all (by decide)
  have F : FX s k_L_law p room_1 s m meth c := ⟨by decide, hx, hb, hml, hown, hW0, Nat.le_refl _, fun _ _ => rfl, law_rm.1, law_rm.2, hlk, hr, hnm, hxt⟩
  have hea : (entA [Value.ref 0]).length ≤ (mt k_L_law).2.2.1.1 := by decide +kernel
  have hk1 : x.2.1.2.2.1 ≤ 976 := by omega
  have hk2 : x.2.1.2.2.2 ≤ 60001 := by omega
  have k := rn_all G f k_L_law 0 _ [] _ x hrun hM p e room_1 s m #[Value.ref b] below meth c [] 0 0 s.heap _ 0 0 x.2.1.2.2.1 x.2.1.2.2.2 F (LsR.ent (tu b w s.heap.size) hea) (entL_len hea) hI rfl rfl rfl rfl (show x.2.1.2.2.1 ≤ 601024 by omega) (show x.2.1.2.2.2 ≤ 7293034 by omega)
  intro T hT9 X
  obtain ⟨t, a1, o, b1, b2, b3⟩ := k T hT9 X
  refine ⟨t, ?_, o, b1, b2, ?_⟩
  · rw [lg_entry_eq]
    exact a1
  · rcases b3 with ⟨⟨v, hv, ho, -⟩, L9, ⟨-, hW9, hsm⟩, hfr⟩ | ⟨q, -, E, ce, L9, ⟨k9, hk9, -⟩, -⟩
    · rw [hx1] at hv
      cases hv
      subst ho
      have e1 : (Value.int (nI 1)) = .int 1 := by decide +kernel
      refine ⟨by show Outcome.returned (some (tv _ (.int (nI 1)))) = _; show Outcome.returned (some (Value.int (nI 1))) = _; rw [e1], lw_closed (d0 := s.drawn) (L := []) (k := 601024) (n := 7293034) (Drawn.sameBut.refl s.drawn lw_cs) ⟨_, rfl⟩ hW9 ?_⟩
      exact hsm.weaken (fun y hy hlt => absurd hlt (Nat.not_lt.mpr (hfr y hy))) (by omega) (by omega)
    · rw [hx1] at hk9
      cases hk9
-- ===== YOUR PART ENDS =====
set_option maxHeartbeats 4000000 in
theorem lw_walk (l : Launch) (hflags : l.flags = flags0) (b : Addr) (xs : List Int32) : MetFree l x (headSpec (Jvm.Cond.code x code maxLocals ret :: tables_1) room_1) (lw_P b xs) (fun _ _ _ _ _ => True) lw_Q := by
  refine MetFree.of_bodyS (code := code) (maxLocals := maxLocals) (ret := ret) (by decide) ?_ ?_
  · intro args s m h hn
    obtain ⟨meth, c, h1, h2, h3, h4, h5, h6, -, -⟩ := Cond.code_spec hn (atoms_spec (ws := Jvm.Cond.code x code maxLocals ret :: tables_1) h _ List.mem_cons_self)
    exact ⟨meth, c, h1, h2, h3, h4, h5, h6⟩
  · intro p e s m args below meth c s₁ B hml0 hP _
    obtain ⟨rfl, hx, hbd, hgv⟩ := hP
    obtain ⟨scr, harrAt, hlist, hof, hsmall⟩ := hx
    obtain ⟨hcb, hkn, -, -⟩ := State.arrayAt?_spec harrAt
    have hown : s.vm.findClass R_law = some m.cls := findClass_of_methodNamed B.named
    have hts0 : ∀ c ∈ (Jvm.Cond.code x code maxLocals ret :: tables_1), c.before #[Value.ref b] s = true := atoms_spec (ws := Jvm.Cond.code x code maxLocals ret :: tables_1) B.pre
    have hts : ∀ w ∈ lw_tbl, w.before #[Value.ref b] s = true := k2_hts_sels lw_privs (fun w hw => hts0 w (List.mem_cons_of_mem _ hw)) lw_privs_ok
    have hml : c.maxLocals = 9 := B.maxLocals_eq (hts0 _ List.mem_cons_self)
    have X₀ : Stand p l e room_1 s m #[Value.ref b] below meth c s₁ [] 0 0 := Stand.of_body B
    have hxt : c.exceptionTable.toList = [] := by
      obtain ⟨meth9, c9, g1, g2, -, -, -, -, g7, -⟩ := Cond.code_spec B.named (hts0 _ List.mem_cons_self)
      cases Option.some.inj (g1.symm.trans B.method)
      cases Option.some.inj (g2.symm.trans X₀.code)
      rw [Array.isEmpty_iff.mp g7]
    have hh0 : s₁.heap = s.heap := by rw [B.state]; rfl
    have hsz : scr.slots.size = xs.length := by rw [← Array.length_toList, hlist, List.length_map]
    have hval : ∀ j : Nat, j < xs.length → scr.slots[j]? = some (.int (xs.getD j 0)) := fun j hj => by
      rw [← Array.getElem?_toList, hlist]
      simp [hj]
    have hbl : b < s.heap.size := (Array.getElem?_eq_some_iff.mp hcb).1
    have hX : va_X b xs.length (fun j => xs.getD j 0) s s.heap := ⟨scr, hcb, hof, hkn, hsz, hval⟩
    have K : W p l e room_1 s m #[Value.ref b] below meth c s₁.heap [] 0 0 (lw_Z below #[Value.ref b] s) (entryFrame m ([Value.ref b] : List Value).toArray 9) := by
      rw [hh0]
      exact whole_start l hflags hbd ⟨B.exec, B.bytes, B.returns, hml, hown, hts, hX, hbl, B.notSynchronized, hgv, (name_of_methodNamed B.named B.method).1, hxt⟩
    obtain ⟨t, a1, o, b1, b2, b3⟩ := K s₁ rfl X₀
    exact ⟨t, o, a1, b1, b2, b3⟩
theorem lw_pre_spec {args : Array Value} {s : State} (h : (Jvm.Cond.and given_1 narrow_1).before args s = true) (hr : rest_1_c.before args s = true) : ∃ (b : Addr) (xs : List Int32), lw_P b xs args s := by
  have hs := flat_of_before _ h
  have hq := flat_of_before _ hr
  have hc : (Cond.count 1).before args s = true := hs _ (by decide +kernel)
  have harr : (Cond.arrayOf (.arg 0) .int).before args s = true := hs _ (by decide +kernel)
  have hle : (Cond.le (.length (.arg 0)) (.int 2560)).before args s = true := hs _ (by decide +kernel)
  have hlen : (Cond.isInt (.length (.arg 0))).before args s = true := hq _ (by decide +kernel)
  have hall : (Cond.all (.arg 0) (.isInt (.elem (.arg 0) (.index 0)))).before args s = true := hq _ (by decide +kernel)
  obtain ⟨b, xs, hb, hx⟩ := State.ints_of_pre rfl harr hlen hall
  have hsm : xs.length < 2 ^ 31 := hx.choose_spec.2.2.2
  have hev : (Term.length (.arg 0)).eval args s none [] s = some (.int xs.length.toInt32) := hx.length_eval hb
  have hv := Cond.le_ints hev (show (Term.int 2560).eval args s none [] s = some (.int 2560) from rfl)
  have hd : xs.length.toInt32 ≤ 2560 := by
    simpa [Cond.before, Cond.holds, hv] using hle
  have hN : xs.length ≤ 2560 := (Int32.ofNat_le_ofNat hsm (by decide)).mp (show Int32.ofNat xs.length ≤ Int32.ofNat 2560 from hd)
  exact ⟨b, xs, Cond.one_arg hc (show args[0]? = some (.ref b) from hb), hx, hN, h⟩
theorem lw_comes (l : Launch) (hflags : l.flags = flags0) : Comes l x (Jvm.Cond.code x code maxLocals ret :: tables_1) room_1 (fun tb e args s => Calls_1 tb e args s ∧ rest_1 tb e args s ∧ Pre_1 tb e args s)
    (fun _ _ args s o t => lw_Q args s o t) := by
  intro p e ha hc hk s m args below hf hfit hheap happ hpre
  obtain ⟨b, xs, hP⟩ := lw_pre_spec hpre.2.2 hpre.2.1
  obtain ⟨k, o, h1, h2, h3, hQ⟩ := lw_walk l hflags b xs p e ha hc hk s m args below hf ((Spec.applies_iff_loose hf).mp happ).1 hP trivial
  exact ⟨k, o, h1, h2, h3, hQ⟩
theorem lw_frame {s t : State} {o : Outcome} {args : Array Value} (h : State.butDraws s t lw_cs (fun t1 => Framed s o t1 [] 601024 7293034)) :
    State.butDraws s t [Jvm.Choice.named "NaN.bits"] (fun t1 => Framed s o t1 (fieldLocs frame_1_writes args s ++ arrayLocs frame_1_arrays args s ++ staticLocs frame_1_statics s) 601024 7293034) := h
theorem lw_limb (L : Cond) (hL : ∀ (args : Array Value) (s t : State), L.after args s (.returned (some (.int 1))) t = true) :
    ArmFor flags0 classFile x code maxLocals ret World_1 tables_1 room_1 Calls_1 rest_1 Pre_1
      (fun tb e a s o t => postC L tb e a s o t ∧ State.butDraws s t [Jvm.Choice.named "NaN.bits"] (fun t1 => Framed s o t1 (fieldLocs frame_1_writes a s ++ arrayLocs frame_1_arrays a s ++ staticLocs frame_1_statics s) 601024 7293034)) := by
  intro l hflags _ _ p e ha hc hk s m args below hf hfit hheap happ hpre
  obtain ⟨k, o, h1, h2, h3, rfl, hF⟩ := lw_comes l hflags p e ha hc hk s m args below hf hfit hheap happ hpre
  exact ⟨k, _, h1, h2, h3, hL args s _, lw_frame hF⟩
theorem i_vc : Claimed_1_1 ∧ Claimed_1_2 := ⟨lw_limb limb_1_1 (fun args s t => by simp [limb_1_1, Cond.after, Cond.holds, Cond.value]), lw_limb limb_1_2 (fun args s t => Cond.after_iff.mpr (by
  first | (rw [show limb_1_2 = Cond.eq .result (.int 1) from rfl, Cond.eq_ints (x := 1) (y := 1) rfl rfl]; simp; done) | (simp [limb_1_2, Cond.value, Term.eval]; done)))⟩
