/-! SOUND 5: counts; how a call begins; how a method ends -/
set_option maxHeartbeats 4000000 in
theorem act_cnt {M : MI} {ins : ClassFile.Instr} {len pc : Nat} {ls : VLs} {st : List Value} {h : VH} {q : Nat × VLs × List Value × VH} (ha : act M ins len pc ls st h = some (Sum.inl q)) : h.1.2.2.1 ≤ q.2.2.2.1.2.2.1 ∧ h.1.2.2.2 ≤ q.2.2.2.1.2.2.2 := by
  cases ins <;> first
    | (exact absurd (show (none : Option VA) = some (Sum.inl q) from ha) (fun z => by cases z))
    | (simp only [act, ldl, ldI, ldJ, ldD, ldA, stI, stA, stJ, stD, nx, jmp, bra, aGet, aPut, aNewI, aNewJ, aNewR, aNew, aIld, aJld, aAld, aIst, aJst, aAst, aLen, aCpy, aSta, aVir, aSpc, aTab, cal] at ha
       repeat' split at ha
       all_goals first
         | (cases ha; done)
         | (cases ha; exact ⟨Nat.le_refl _, Nat.le_refl _⟩)
         | (cases ha; exact ⟨Nat.le_add_right _ _, Nat.le_add_right _ _⟩))
theorem run_cnt : ∀ (f : Nat) {M : MI} {pc : Nat} {ls : VLs} {st : List Value} {h : VH} {x : VR}, run f M pc ls st h = some x → h.1.2.2.1 ≤ x.2.1.2.2.1 ∧ h.1.2.2.2 ≤ x.2.1.2.2.2 := by
  intro f
  induction f with
  | zero => intro M pc ls st h x hx; cases hx
  | succ f ih =>
    intro M pc ls st h x hx
    rw [run] at hx
    cases hd : decode M.1 pc with
    | error e => rw [hd] at hx; cases hx
    | ok q =>
      rw [hd] at hx
      obtain ⟨ins, len⟩ := q
      simp only at hx
      by_cases ho : okL ins len = true
      case neg => rw [if_neg ho] at hx; cases hx
      rw [if_pos ho] at hx
      cases ha : act M ins len pc ls st h with
      | none => rw [ha] at hx; cases hx
      | some a =>
        rw [ha] at hx
        rcases a with q | ⟨μ, as, rest⟩ | v | E
        · have g := act_cnt ha
          have g2 := ih hx
          exact ⟨Nat.le_trans g.1 g2.1, Nat.le_trans g.2 g2.2⟩
        · simp only [stepc] at hx
          by_cases he : (entA as).length ≤ (mt μ).2.2.1.1
          case neg => rw [if_neg he] at hx; cases hx
          rw [if_pos he] at hx
          cases h1 : run f (mt μ) 0 (entL (mt μ).2.2.1.1 as) [] h with
          | none => rw [h1] at hx; cases hx
          | some y =>
            rw [h1] at hx
            have g := ih h1
            obtain ⟨v | E, h'⟩ := y
            · have g2 := ih hx
              exact ⟨Nat.le_trans g.1 g2.1, Nat.le_trans g.2 g2.2⟩
            · simp only at hx
              cases h2 : hnd M.2.2.2 pc E with
              | none => rw [h2] at hx; cases hx; exact g
              | some hp =>
                rw [h2] at hx
                simp only at hx
                cases h3 : ctch M hp ls with
                | none => rw [h3] at hx; cases hx
                | some z =>
                  rw [h3] at hx
                  have g2 := ih hx
                  exact ⟨Nat.le_trans g.1 g2.1, Nat.le_trans g.2 g2.2⟩
        · cases hx
          exact ⟨Nat.le_refl _, Nat.le_refl _⟩
        · cases hx
          exact ⟨Nat.le_add_right _ _, Nat.le_add_right _ _⟩
theorem okM_rk {μ : Nat} (hM : okM μ = true) : rkc (mt μ).2.2.1.2 (rtM μ) (yM μ) = true ∧ hck (hhM μ) (mt μ).2.2.2 = true ∧ plainFor (yM μ) = true ∧ ((yM μ).cls ≠ "java/lang/invoke/MethodHandle" ∧ (yM μ).cls ≠ "java/lang/invoke/VarHandle") := by
  unfold okM at hM
  simp only [Bool.and_eq_true, bne_iff_ne] at hM
  obtain ⟨-, -, h1, h2, h3, h4, h5⟩ := hM
  exact ⟨h4, h5, h1, h2, h3⟩
theorem okM_cd {μ : Nat} (hM : okM μ = true) (hl : μ ≠ k_L_law) : cdW μ ∈ lw_tbl ∧ Cond.initialized (yM μ).cls ∈ lw_tbl := by
  have h : ∀ w ∈ (if μ = k_L_law then [] else [cdW μ, .initialized (yM μ).cls] : List Cond), w ∈ lw_tbl := fun w hw => okM_w hM w (List.mem_append_right _ (List.mem_append_right _ hw))
  rw [if_neg hl] at h
  exact ⟨h _ (by simp), h _ (by simp)⟩
theorem cdW_good (μ : Nat) : goodWord (cdW μ) = true := by
  unfold cdW
  split <;> rfl
section SND
variable {l : Launch} {s0 : State} {a0 : Array Value} {τ : Nat → Nat} {D : va_G} {cA : Nat → ClassId}
variable {p : Program} {e : Env} {R : Room} {s : State} {m : MethodId} {args : Array Value} {below : List Frame} {meth : Method} {c : Code} {T : State} {locs : List Loc} {cells slots : Nat} {H : Heap} {Q : State → Prop} {μ ν : Nat}
/-- what a method is called with, and what it gives back -/
def PcM (s0 : State) (τ : Nat → Nat) (D : va_G) (cA : Nat → ClassId) (as : List Value) (h : VH) : Array Value → State → Prop := fun v U => v = (as.map (tv τ)).toArray ∧ s0.WarmedH U.vm ∧ RelH τ D cA s0 h U.heap ∧ s0.heap.size ≤ U.heap.size ∧ ∀ q, q < s0.heap.size → U.heap[q]? = s0.heap[q]?
def PstH (s0 : State) (τ : Nat → Nat) (D : va_G) (cA : Nat → ClassId) (x : VR) (st t : State) : Prop := RelH τ D cA s0 x.2 t.heap ∧ st.heap.size ≤ t.heap.size ∧ ∀ q, q < s0.heap.size → t.heap[q]? = s0.heap[q]?
def QcM (s0 : State) (τ : Nat → Nat) (D : va_G) (cA : Nat → ClassId) (x : VR) : Array Value → State → Outcome → State → Prop := fun _ st o t => ∃ v : Option Value, x.1 = Sum.inl v ∧ o = .returned (v.map (tv τ)) ∧ PstH s0 τ D cA x st t
def XcM (s0 : State) (τ : Nat → Nat) (D : va_G) (cA : Nat → ClassId) (x : VR) : String → State → State → Prop := fun E st t => ∃ k : Nat, x.1 = Sum.inr k ∧ 1 ≤ k ∧ k ≤ 3 ∧ E = eNm k ∧ PstH s0 τ D cA x st t
def FrM (s0 : State) : Addr → Prop := fun q => s0.heap.size ≤ q
theorem PcM.blind (as : List Value) (h : VH) : FrameBlind (PcM s0 τ D cA as h) := fun _ _ _ _ q => q
/-- a call's beginning: the machine stands at the invocation of ν -/
def CE (p : Program) (l : Launch) (e : Env) (R : Room) (s : State) (m : MethodId) (args : Array Value) (below : List Frame) (meth : Method) (c : Code) (locs : List Loc) (cells slots : Nat) (T : State) (g : JFrame) (rest : List Value) (ν : Nat) (vs : Array Value) : Prop :=
  ∃ (mk : MethodId) (vm₁ : Vm) (ig : Instr), s.WarmedH vm₁ ∧ Stand p l e R s m args below meth c (T.setVm vm₁) locs cells slots ∧ s.methodNamed? (yM ν) = some mk ∧ decode c.code g.pc = .ok (ig, 3) ∧
    ∀ target, (∀ acts, Steps p.tables e below (doInvoke e ((T.setVm vm₁).setTop { g with stack := rest }) acts mk vs).1 target) → Steps p.tables e below (T.setTop g) target
theorem cd_spec (h : (cdW ν).before args s = true) : ∃ mk methM cM, s.methodNamed? (yM ν) = some mk ∧ s.vm.method? mk = some methM ∧ methM.code = some cM ∧ parseMethodDescriptor (yM ν).desc = some methM.sig := by
  unfold cdW at h
  split at h
  · obtain ⟨mk, hnamed⟩ := Cond.code_named h
    obtain ⟨methM, cM, h1, h2, -, -, -, -, -, h3⟩ := Cond.code_spec hnamed h
    exact ⟨mk, methM, cM, hnamed, h1, h2, h3⟩
  · obtain ⟨mk, methM, cM, hnamed, h1, h2, -, -, -, -, -, h3⟩ := Cond.codeWith_spec h
    exact ⟨mk, methM, cM, hnamed, h1, h2, h3⟩
theorem ce_S (X : Stand p l e R s m args below meth c T locs cells slots) (hexec : p.tables.exec = Jvm.exec) {own : String} {index : Nat} (hown : s.vm.findClass own = some m.cls)
    (hlink : (Cond.methodLink own index (yM ν)).before args s = true ∨ (Cond.methodLinkNest own index (yM ν) RX4).before args s = true) (hstat : (Cond.static (yM ν)).before args s = true) (hinit : (Cond.initialized (yM ν).cls).before args s = true) (hcode : (cdW ν).before args s = true)
    (hy : (yM ν).cls ≠ "java/lang/invoke/MethodHandle" ∧ (yM ν).cls ≠ "java/lang/invoke/VarHandle") {g : JFrame} (hg : g.method = m) {argsL rest : List Value} (hlen : par ν argsL.length = true) (hstack : g.stack = argsL.reverse ++ rest) (hdg : decode c.code g.pc = .ok (.invokestatic index, 3)) :
    CE p l e R s m args below meth c locs cells slots T g rest ν argsL.toArray := by
  obtain ⟨mk, methM, cM, hnamed, hmethM, -, hsigM⟩ := cd_spec hcode
  have hstatic : methM.isStatic = true := Cond.static_spec hnamed hmethM hstat
  obtain ⟨kP, hkP, -⟩ := className_of_methodNamed hnamed
  have hinitP : kP.init = .initialized := Cond.initialized_spec (findClass_of_methodNamed hnamed) hkP hinit
  have hl : argsL.length = methM.sig.parameters.length := by
    unfold par at hlen
    rw [hsigM] at hlen
    have h9 := eq_of_beq hlen
    exact (Option.some.inj h9).symm
  rcases hlink with hlink | hlink
  · obtain ⟨vm₁, X₁, hstep₁⟩ := X.invokestatic hexec hown hlink hnamed hmethM hstatic hkP hinitP hy (g := g) hg (argsL := argsL) (rest := rest) hl hstack hdg
    exact ⟨mk, vm₁, _, X₁.warmed, X₁, hnamed, hdg, hstep₁⟩
  · obtain ⟨vm₁, X₁, hstep₁⟩ := X.invokestaticNest hexec hown hlink hnamed hmethM hstatic hkP hinitP hy (g := g) hg (argsL := argsL) (rest := rest) hl hstack hdg
    exact ⟨mk, vm₁, _, X₁.warmed, X₁, hnamed, hdg, hstep₁⟩
theorem ce_V (X : Stand p l e R s m args below meth c T locs cells slots) (hexec : p.tables.exec = Jvm.exec) {own C : String} {index : Nat} (hown : s.vm.findClass own = some m.cls)
    (hlink : (Cond.methodLink own index (yM ν)).before args s = true ∨ (Cond.methodLinkNest own index (yM ν) RX4).before args s = true) (hinst : (Cond.instanceMethod (yM ν)).before args s = true) (hsel : (Cond.selects C (yM ν) (yM ν)).before args s = true) (hcode : (cdW ν).before args s = true)
    (hy : (yM ν).cls ≠ "java/lang/invoke/MethodHandle" ∧ (yM ν).cls ≠ "java/lang/invoke/VarHandle") {b : Addr} {cellB : Cell} (hcell : T.heap[b]? = some cellB) (hobj : cellB.vm = .none) (hcls : s.vm.findClass C = some cellB.cls)
    {g : JFrame} (hg : g.method = m) {argsL rest : List Value} (hlen : par ν argsL.length = true) (hstack : g.stack = argsL.reverse ++ .ref b :: rest) (hdg : decode c.code g.pc = .ok (.invokevirtual index, 3)) :
    CE p l e R s m args below meth c locs cells slots T g rest ν (Value.ref b :: argsL).toArray := by
  obtain ⟨mk, methM, hnamed, hmethM, hstM, habM⟩ := Cond.instanceMethod_spec hinst
  obtain ⟨mk', methM', cM, hnamed', hmethM', -, hsigM⟩ := cd_spec hcode
  cases hnamed.symm.trans hnamed'
  cases hmethM.symm.trans hmethM'
  have hl : argsL.length = methM.sig.parameters.length := by
    unfold par at hlen
    rw [hsigM] at hlen
    have h9 := eq_of_beq hlen
    exact (Option.some.inj h9).symm
  obtain ⟨c2, r2, m2, q1, q2, q3, q4, kP, hkP, hkPi⟩ := Cond.selects_spec hsel
  cases hcls.symm.trans q1
  cases (State.methodFound?_of_named hnamed hy).symm.trans q2
  cases hnamed.symm.trans q3
  have hselP : selectMethod e.platform s.vm cellB.cls mk = .method mk := by rw [Launch.admits_selectMethod X.admits]; exact q4
  rcases hlink with hlink | hlink
  · obtain ⟨vm₁, X₁, hstep₁⟩ := X.invokevirtual hexec hown hlink hnamed hmethM hstM hkP hkPi hy (a := b) (cell := cellB) hcell
      (fun z h => by rw [h] at hobj; cases hobj) hselP hmethM habM hkP hkPi (g := g) hg (argsL := argsL) (rest := rest) hl hstack hdg
    exact ⟨mk, vm₁, _, X₁.warmed, X₁, hnamed, hdg, hstep₁⟩
  · obtain ⟨vm₁, X₁, hstep₁⟩ := X.invokevirtualNest hexec hown hlink hnamed hmethM hstM hkP hkPi hy (a := b) (cell := cellB) hcell
      (fun z h => by rw [h] at hobj; cases hobj) hselP hmethM habM hkP hkPi (g := g) hg (argsL := argsL) (rest := rest) hl hstack hdg
    exact ⟨mk, vm₁, _, X₁.warmed, X₁, hnamed, hdg, hstep₁⟩
theorem ce_I (X : Stand p l e R s m args below meth c T locs cells slots) (hexec : p.tables.exec = Jvm.exec) {own : String} {index : Nat} (hown : s.vm.findClass own = some m.cls) (hy1 : (yM ν).name = "<init>") (hh0 : hhM ν = []) (hr0 : rtM ν = none)
    (hlink : (Cond.methodLink own index (yM ν)).before args s = true ∨ (Cond.methodLinkNest own index (yM ν) RX4).before args s = true) (hinst : (Cond.instanceMethod (yM ν)).before args s = true) (hcode : (cdW ν).before args s = true)
    (hy : (yM ν).cls ≠ "java/lang/invoke/MethodHandle" ∧ (yM ν).cls ≠ "java/lang/invoke/VarHandle") {b : Addr}
    {g : JFrame} (hg : g.method = m) {argsL rest : List Value} (hlen : par ν argsL.length = true) (hstack : g.stack = argsL.reverse ++ .ref b :: rest) (hdg : decode c.code g.pc = .ok (.invokespecial index, 3)) :
    CE p l e R s m args below meth c locs cells slots T g rest ν (Value.ref b :: argsL).toArray := by
  subst hg
  have hpl : e.platform.magicAccessors = ({} : Platform).magicAccessors := by rw [X.admits.platform]
  have hl : ∀ sig, parseMethodDescriptor (yM ν).desc = some sig → argsL.length = sig.parameters.length := by
    intro sig h
    unfold par at hlen
    rw [h] at hlen
    have h9 := eq_of_beq hlen
    exact (Option.some.inj h9).symm
  have hc1 : (Cond.code (yM ν) (mt ν).1 (mt ν).2.2.1.1 none).before args s = true := by
    unfold cdW at hcode
    rw [hh0, hr0] at hcode
    exact hcode
  rcases hlink with hlink | hlink
  · obtain ⟨mk, methM, cM, kP, vm₁, hnamed, hmethM, hcodeM, -, hlocalsM, -, hkP, -, hW₁, hstep₁⟩ := Steps.initColdArgs (e := e) X.here hexec X.warmed hpl hown hy1 hy hlink hinst hc1 (f := g) rfl hl hstack hdg
    exact ⟨mk, vm₁, _, hW₁, X.noted hW₁, hnamed, hdg, hstep₁⟩
  · obtain ⟨mk, methM, cM, kP, vm₁, hnamed, hmethM, hcodeM, -, hlocalsM, -, hkP, -, hW₁, hstep₁⟩ := Steps.initColdArgsNest (e := e) X.here hexec X.warmed hpl hown hy1 hy hlink hinst hc1 (f := g) rfl hl hstack hdg
    exact ⟨mk, vm₁, _, hW₁, X.noted hW₁, hnamed, hdg, hstep₁⟩
abbrev rmK (ν mc ms : Nat) : Room := { frames := (rmM ν).1, locals := (rmM ν).2, cells := mc, slots := ms }
theorem bk_of (G : GX l s0 a0 τ D cA) (hW : s0.WarmedH s.vm) (hN : okM ν = true) (hl : ν ≠ k_L_law) {Pc : Array Value → State → Prop} {Qc : Array Value → State → Outcome → State → Prop} {XC : String → State → State → Prop} {mc ms : Nat} {free : Addr → Prop}
    (hM : vx_Met l (yM ν) [cdW ν] (rmK ν mc ms) Pc Qc XC mc ms free) (hbl : FrameBlind Pc) (hfr : (rmM ν).1 + 1 ≤ R.frames) (hlo : 8 + ((mt ν).2.2.1.1 + 11) + (rmM ν).2 ≤ R.locals) :
    vx_Back l R p e below s args (yM ν) 3 8 (PreOf R mc ms Pc) (PostOf Qc mc ms free) (vx_Post XC mc ms free) := by
  have hcd := okM_cd hN hl
  have hws : ∀ w ∈ [cdW ν], ∀ (a' : Array Value) (U : State), s.WarmedH U.vm → w.before a' U = true := by
    intro w hw a' U hU
    rw [List.mem_singleton.mp hw]
    exact wd_at G (hW.trans hU) hcd.1 (cdW_good ν)
  have hini : ∀ (a' : Array Value) (U : State), s.WarmedH U.vm → (Cond.initialized (yM ν).cls).before a' U = true := fun a' U hU => wd_at G (hW.trans hU) hcd.2 rfl
  cases hh : hhM ν with
  | nil => exact vx_back (bytes := (mt ν).1) (maxL := (mt ν).2.2.1.1) (ret := rtM ν) hM hbl rfl rfl hfr hlo hws (by unfold cdW; rw [hh]; exact List.mem_cons_self) hini
  | cons q t => exact vx_backW (hh := q :: t) (bytes := (mt ν).1) (maxL := (mt ν).2.2.1.1) (ret := rtM ν) hM hbl rfl rfl hfr hlo hws (by unfold cdW; rw [hh]; exact List.mem_cons_self) hini
set_option maxHeartbeats 1000000 in
/-- a call, over the callee's contract -/
theorem cl_W (G : GX l s0 a0 τ D cA) (F : FX s0 μ p R s m meth c) (hN : okM ν = true) (hcl : cll μ ν = true) {as rest : List Value} {h : VH} {x : VR} {mc ms : Nat} {pc : Nat} {LS : Array Slot} {st0 : List Value}
    (hM : vx_Met l (yM ν) [cdW ν] (rmK ν mc ms) (PcM s0 τ D cA as h) (QcM s0 τ D cA x) (XcM s0 τ D cA x) mc ms (FrM s0)) (hI : Inv τ D cA s0 s h H locs) (hLS : LS.size = (mt μ).2.2.1.1) (hr8 : catS rest ≤ 8) (hcc : cells + mc ≤ R.cells) (hss : slots + ms ≤ R.slots)
    (hce : ∀ T, T.heap = H → Stand p l e R s m args below meth c T locs cells slots → CE p l e R s m args below meth c locs cells slots T (F0 m pc LS st0) (rest.map (tv τ)) ν (as.map (tv τ)).toArray)
    (kr : ∀ v, x.1 = Sum.inl v → ∀ (H1 : Heap) (locs1 : List Loc), Inv τ D cA s0 s x.2 H1 locs1 → W p l e R s m args below meth c H1 locs1 (cells + mc) (slots + ms) Q (F0 m (pc + 3) LS ((v.toList ++ rest).map (tv τ))))
    (kx : ∀ E, x.1 = Sum.inr E → 1 ≤ E → E ≤ 3 → ∀ (H1 : Heap) (locs1 : List Loc) (q : Addr) (ce : Cell), Inv τ D cA s0 s x.2 H1 locs1 → H1[q]? = some ce → ce.vm = .none → s.vm.findClass (eNm E) = some ce.cls → vx_W p l e R s m args below meth c H1 locs1 (cells + mc) (slots + ms) Q (F0 m pc LS (rest.map (tv τ))) q) :
    W p l e R s m args below meth c H locs cells slots Q (F0 m pc LS st0) := by
  obtain ⟨hμ, hx, hb, hml, hown, hW, hBs, hLow, hfr, hlo, hlk, hrt, hnm, hex⟩ := F
  unfold cll at hcl
  simp only [Bool.and_eq_true, decide_eq_true_eq] at hcl
  obtain ⟨c1, c2, c3, c4⟩ := hcl
  intro T hT X
  obtain ⟨mk, vm₁, ig, hW₁, X₁, hn, hdg, hstep⟩ := hce T hT X
  have hK : vx_Back l R p e below s args (yM ν) 3 8 (PreOf R mc ms (PcM s0 τ D cA as h)) (PostOf (QcM s0 τ D cA x) mc ms (FrM s0)) (vx_Post (XcM s0 τ D cA x) mc ms (FrM s0)) := bk_of G hW hN c2 hM (PcM.blind as h) (by omega) (by omega)
  obtain ⟨i1, i2, i3, i4⟩ := hI
  have hP : PcM s0 τ D cA as h (as.map (tv τ)).toArray (T.setVm vm₁) := ⟨rfl, hW.trans hW₁, by show RelH τ D cA s0 h T.heap; rw [hT]; exact i1, by show _ ≤ T.heap.size; rw [hT]; omega, by show ∀ q, q < _ → T.heap[q]? = _; rw [hT]; exact i3⟩
  have hr8' := catS_le (τ := τ) hr8
  rcases hK m meth c ⟨T.setVm vm₁, locs, cells, slots⟩ { F0 m pc LS st0 with stack := rest.map (tv τ) } ig mk (as.map (tv τ)).toArray X₁ rfl (hLS.trans hml.symm) hdg (by show 2 * 0 + ((rest.map (tv τ)).map fun v => v.category).sum ≤ 8; omega) (X₁.named hn) ⟨hcc, hss, hP⟩ with ⟨v, ⟨U', l2, k2, n2⟩, X', ⟨g', mk', t, L, e1, e2, hq, h1, hL, h2, h3⟩, hsteps⟩ | ⟨q, ⟨U', l2, k2, n2⟩, X', ⟨g', mk', t, L, E, ce, e1, e2, hq, hce1, hcv, hcl1, h1, hL, h2, h3⟩, hsteps⟩
  · dsimp only [Pt.U, Pt.locs, Pt.cells, Pt.slots] at X' e1 e2 h1 h2 h3 hsteps
    subst h1; subst h2; subst h3
    obtain ⟨w, hw1, hw2, r1, r2, r3⟩ := hq
    cases hw2
    have hsz : H.size ≤ t.heap.size := by
      have : T.heap.size ≤ t.heap.size := r2
      rw [hT] at this
      exact this
    obtain ⟨t2, a1, b1⟩ := kr w hw1 U'.heap (locs ++ L) ⟨by rw [e1]; exact r1, by rw [e1]; omega, by rw [e1]; exact r3, fun z hz => by
      rcases List.mem_append.mp hz with h9 | h9
      · exact i4 z h9
      · exact hL z h9⟩ U' rfl X'
    refine ⟨t2, hstep _ fun acts => ?_, b1⟩
    rw [doInvoke_state]
    refine hsteps.trans ?_
    have e9 : (w.toList ++ rest).map (tv τ) = (w.map (tv τ)).toList ++ rest.map (tv τ) := by cases w <;> rfl
    rw [e9] at a1
    exact a1
  · dsimp only [Pt.U, Pt.locs, Pt.cells, Pt.slots] at X' e1 e2 h1 h2 h3 hsteps hcl1
    subst h1; subst h2; subst h3
    obtain ⟨k, hk1, hk2, hk3, hk4, r1, r2, r3⟩ := hq
    subst hk4
    have hsz : H.size ≤ t.heap.size := by
      have : T.heap.size ≤ t.heap.size := r2
      rw [hT] at this
      exact this
    obtain ⟨t2, a1, b1⟩ := kx k hk1 hk2 hk3 U'.heap (locs ++ L) q ce ⟨by rw [e1]; exact r1, by rw [e1]; omega, by rw [e1]; exact r3, fun z hz => by
      rcases List.mem_append.mp hz with h9 | h9
      · exact i4 z h9
      · exact hL z h9⟩ (by rw [e1]; exact hce1) hcv (vx_cls hW₁ hcl1) U' rfl X'
    refine ⟨t2, hstep _ fun acts => ?_, b1⟩
    rw [doInvoke_state]
    exact hsteps.trans a1
end SND
