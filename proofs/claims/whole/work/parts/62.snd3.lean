/-! SOUND 3: what is known of the law's start and of a frame; one step of the great machine for one of the small one -/
/-- the law's start -/
def GX (l : Launch) (s0 : State) (a0 : Array Value) (τ : Nat → Nat) (D : va_G) (cA : Nat → ClassId) : Prop :=
  (∀ w ∈ lw_tbl, w.before a0 s0 = true) ∧ Tau τ s0 ∧ (∀ k, k < 6 → u_Kn s0 (cNm k) (tFd k) (nFd k) (D.1 k) (D.2 k)) ∧
  (ArrOfT s0 (cA 0) .int ∧ s0.vm.findClass ("[" ++ FieldType.int.toString) = some (cA 0)) ∧ (ArrOfT s0 (cA 1) .long ∧ s0.vm.findClass ("[" ++ FieldType.long.toString) = some (cA 1)) ∧
  (∀ t, okA t = true → ArrOfT s0 (cA (2 + t)) (.object (cNm t)) ∧ va_RA s0 (cA (2 + t)) (.object (cNm t))) ∧
  va_Z RX4 "WIDTHS" "[I" (.ref (τ 1)) (fun q => s0.heap.size ≤ q) s0 s0.heap ∧
  (vx_Zq Bundle.tN "UNASSIGNED_STACK" Bundle.steD (fun q => s0.heap.size ≤ q) s0 s0.heap ∧ vx_Zq Bundle.tN "SUPPRESSED_SENTINEL" Bundle.listD (fun q => s0.heap.size ≤ q) s0 s0.heap) ∧
  (∀ (own : String) (k : Nat) (tx : String), Cond.stringRef own k tx ∈ lw_tbl → ∃ sa, vk_R own k tx sa s0) ∧ l.stackTraces = false ∧
  (∀ E F : Nat, 1 ≤ E → E ≤ 3 → 1 ≤ F → F ≤ 3 → E ≠ F → va_Nc (eNm E) (eNm F) s0)
/-- a method's frame -/
def FX (s0 : State) (μ : Nat) (p : Program) (R : Room) (s : State) (m : MethodId) (meth : Method) (c : Code) : Prop :=
  μ < nM ∧ p.tables.exec = Jvm.exec ∧ c.code = (mt μ).1 ∧ c.maxLocals = (mt μ).2.2.1.1 ∧ s.vm.findClass (yM μ).cls = some m.cls ∧ s0.WarmedH s.vm ∧ s0.heap.size ≤ s.heap.size ∧ (∀ q, q < s0.heap.size → s.heap[q]? = s0.heap[q]?) ∧
  (rmM μ).1 ≤ R.frames ∧ (rmM μ).2 ≤ R.locals ∧ meth.locks = false ∧ meth.sig.returnType = rtM μ ∧ meth.name = (yM μ).name ∧ c.exceptionTable.toList = tableOf (hhM μ)
theorem lkf_mem {l : List (Nat × LI)} {i : Nat} (h : (lkf l i).1 ≠ 99) : (i, lkf l i) ∈ l := by
  unfold lkf at h ⊢
  cases hl : l.lookup i with
  | none => rw [hl] at h; exact absurd rfl h
  | some q =>
    clear h
    simp only [Option.getD_some]
    induction l with
    | nil => cases hl
    | cons a t ih =>
      rw [List.lookup_cons] at hl
      split at hl
      · next he =>
        cases hl
        have : i = a.1 := by simpa using he
        rw [this]
        exact List.mem_cons_self
      · exact List.mem_cons_of_mem _ (ih hl)
theorem okM_w {μ : Nat} (h : okM μ = true) : ∀ w ∈ wdM μ, w ∈ lw_tbl := by
  unfold okM at h
  simp only [Bool.and_eq_true, decide_eq_true_eq] at h
  intro w hw
  have h1 : some w ∈ (wdM μ).map some := List.mem_map.mpr ⟨w, hw, rfl⟩
  rw [h.1] at h1
  obtain ⟨i, -, hi⟩ := List.mem_map.mp h1
  exact List.mem_of_getElem? hi
theorem okM_e {μ i : Nat} (h : okM μ = true) (hq : (lkf (mt μ).2.1 i).1 ≠ 99) : chkE μ i (lkf (mt μ).2.1 i) = true ∧ ∀ w ∈ wdE (yM μ).cls i (lkf (mt μ).2.1 i), w ∈ lw_tbl := by
  have hm := lkf_mem hq
  refine ⟨?_, fun w hw => okM_w h w (List.mem_append_left _ (List.mem_flatMap.mpr ⟨_, hm, hw⟩))⟩
  unfold okM at h
  simp only [Bool.and_eq_true, List.all_eq_true] at h
  exact h.2.1 _ hm
theorem gW_mem {w : Cond} (h : w ∈ gW) : w ∈ lw_tbl := of_decide_eq_true (List.all_eq_true.mp gW_in w h)
section SND
variable {l : Launch} {s0 : State} {a0 : Array Value} {τ : Nat → Nat} {D : va_G} {cA : Nat → ClassId}
variable {p : Program} {e : Env} {R : Room} {s : State} {m : MethodId} {args : Array Value} {below : List Frame} {meth : Method} {c : Code} {Q : State → Prop} {μ : Nat}
theorem wd_at (G : GX l s0 a0 τ D cA) (hW : s0.WarmedH s.vm) {w : Cond} (hw : w ∈ lw_tbl) (hg : goodWord w = true) : w.before args s = true := word_at hW (good_of_word hg) (G.1 w hw)
theorem lkF_at (G : GX l s0 a0 τ D cA) (hW : s0.WarmedH s.vm) {own : String} {i : Nat} {ref n d : String} (hw : lkF own i ref n d ∈ lw_tbl) : (Cond.fieldLink own i ref n d).before args s = true ∨ (Cond.fieldLinkNest own i ref n d RX4).before args s = true := by
  unfold lkF at hw
  split at hw
  · exact Or.inr (va_Nw.use rfl (va_Nw.warmF hW (va_Nw.of rfl (G.1 _ hw))))
  · exact Or.inl (wd_at G hW hw rfl)
theorem lkM_at (G : GX l s0 a0 τ D cA) (hW : s0.WarmedH s.vm) {own : String} {i : Nat} {y : MethodName} (hw : lkM own i y ∈ lw_tbl) : (Cond.methodLink own i y).before args s = true ∨ (Cond.methodLinkNest own i y RX4).before args s = true := by
  unfold lkM at hw
  split at hw
  · exact Or.inr (va_Nw.use rfl (va_Nw.warmM hW (va_Nw.of rfl (G.1 _ hw))))
  · exact Or.inl (wd_at G hW hw rfl)
/-- the walk goes on from the small machine's next point -/
def Nxt (l : Launch) (s0 : State) (τ : Nat → Nat) (D : va_G) (cA : Nat → ClassId) (μ : Nat) (p : Program) (e : Env) (R : Room) (s : State) (m : MethodId) (args : Array Value) (below : List Frame) (meth : Method) (c : Code) (Q : State → Prop) (k0 z0 : Nat) (q : Nat × VLs × List Value × VH) : Prop :=
  ∀ (LS : Array Slot) (H : Heap) (locs : List Loc) (cells slots : Nat), LsR τ q.2.1 LS → q.2.1.length = (mt μ).2.2.1.1 → Inv τ D cA s0 s q.2.2.2 H locs → cells + k0 = q.2.2.2.1.2.2.1 → slots + z0 = q.2.2.2.1.2.2.2 →
    W p l e R s m args below meth c H locs cells slots Q (F0 m q.1 LS (q.2.2.1.map (tv τ)))
def SP (l : Launch) (s0 : State) (a0 : Array Value) (τ : Nat → Nat) (D : va_G) (cA : Nat → ClassId) (ins : ClassFile.Instr) (len : Nat) : Prop :=
  ∀ (μ : Nat) (p : Program) (e : Env) (R : Room) (s : State) (m : MethodId) (args : Array Value) (below : List Frame) (meth : Method) (c : Code) (Q : State → Prop), GX l s0 a0 τ D cA → FX s0 μ p R s m meth c → okM μ = true →
    ∀ (pc : Nat) (ls : VLs) (st : List Value) (h : VH) (q : Nat × VLs × List Value × VH) (LS : Array Slot) (H : Heap) (locs : List Loc) (cells slots k0 z0 : Nat), decode (mt μ).1 pc = .ok (ins, len) → act (mt μ) ins len pc ls st h = some (Sum.inl q) →
      LsR τ ls LS → ls.length = (mt μ).2.2.1.1 → Inv τ D cA s0 s h H locs → cells + k0 = h.1.2.2.1 → slots + z0 = h.1.2.2.2 → q.2.2.2.1.2.2.1 ≤ k0 + R.cells → q.2.2.2.1.2.2.2 ≤ z0 + R.slots →
      Nxt l s0 τ D cA μ p e R s m args below meth c Q k0 z0 q → W p l e R s m args below meth c H locs cells slots Q (F0 m pc LS (st.map (tv τ)))
theorem nx_inj {pc : Nat} {ls : VLs} {st : List Value} {h : VH} {q : Nat × VLs × List Value × VH} (k : nx pc ls st h = some (Sum.inl q)) : (pc, ls, st, h) = q := by
  unfold nx at k
  exact Sum.inl.inj (Option.some.inj k)
theorem jmp_inj {pc : Nat} {off : Int} {ls : VLs} {st : List Value} {h : VH} {q : Nat × VLs × List Value × VH} (k : jmp pc off ls st h = some (Sum.inl q)) : ∃ tgt : Nat, (pc : Int) + off = (tgt : Int) ∧ (tgt, ls, st, h) = q := by
  unfold jmp at k
  split at k
  · next h0 => exact ⟨_, (Int.toNat_of_nonneg h0).symm, Sum.inl.inj (Option.some.inj k)⟩
  · cases k
theorem sp_iadd : SP l s0 a0 τ D cA (.iadd) 1 := by
  intro μ p e R s m args below meth c Q G F hM pc ls st h q LS H locs cells slots k0 z0 hd ha hl hn hI hc hs h1 h2 kk
  obtain ⟨hμ, hx, hb, hml, hown, hW, hBs, hLow, hfr, hlo, hlk, hrt, hnm, hex⟩ := F
  simp only [act] at ha
  split at ha
  · obtain rfl := nx_inj ha
    exact lv_iadd hx hb hd (kk LS H locs cells slots hl hn hI hc hs)
  · cases ha
theorem sp_isub : SP l s0 a0 τ D cA (.isub) 1 := by
  intro μ p e R s m args below meth c Q G F hM pc ls st h q LS H locs cells slots k0 z0 hd ha hl hn hI hc hs h1 h2 kk
  obtain ⟨hμ, hx, hb, hml, hown, hW, hBs, hLow, hfr, hlo, hlk, hrt, hnm, hex⟩ := F
  simp only [act] at ha
  split at ha
  · obtain rfl := nx_inj ha
    exact lv_isub hx hb hd (kk LS H locs cells slots hl hn hI hc hs)
  · cases ha
theorem sp_imul : SP l s0 a0 τ D cA (.imul) 1 := by
  intro μ p e R s m args below meth c Q G F hM pc ls st h q LS H locs cells slots k0 z0 hd ha hl hn hI hc hs h1 h2 kk
  obtain ⟨hμ, hx, hb, hml, hown, hW, hBs, hLow, hfr, hlo, hlk, hrt, hnm, hex⟩ := F
  simp only [act] at ha
  split at ha
  · obtain rfl := nx_inj ha
    exact lv_imul hx hb hd (kk LS H locs cells slots hl hn hI hc hs)
  · cases ha
theorem sp_iand : SP l s0 a0 τ D cA (.iand) 1 := by
  intro μ p e R s m args below meth c Q G F hM pc ls st h q LS H locs cells slots k0 z0 hd ha hl hn hI hc hs h1 h2 kk
  obtain ⟨hμ, hx, hb, hml, hown, hW, hBs, hLow, hfr, hlo, hlk, hrt, hnm, hex⟩ := F
  simp only [act] at ha
  split at ha
  · obtain rfl := nx_inj ha
    exact lv_iand hx hb hd (kk LS H locs cells slots hl hn hI hc hs)
  · cases ha
theorem sp_ixor : SP l s0 a0 τ D cA (.ixor) 1 := by
  intro μ p e R s m args below meth c Q G F hM pc ls st h q LS H locs cells slots k0 z0 hd ha hl hn hI hc hs h1 h2 kk
  obtain ⟨hμ, hx, hb, hml, hown, hW, hBs, hLow, hfr, hlo, hlk, hrt, hnm, hex⟩ := F
  simp only [act] at ha
  split at ha
  · obtain rfl := nx_inj ha
    exact lv_ixor hx hb hd (kk LS H locs cells slots hl hn hI hc hs)
  · cases ha
theorem sp_ladd : SP l s0 a0 τ D cA (.ladd) 1 := by
  intro μ p e R s m args below meth c Q G F hM pc ls st h q LS H locs cells slots k0 z0 hd ha hl hn hI hc hs h1 h2 kk
  obtain ⟨hμ, hx, hb, hml, hown, hW, hBs, hLow, hfr, hlo, hlk, hrt, hnm, hex⟩ := F
  simp only [act] at ha
  split at ha
  · obtain rfl := nx_inj ha
    exact lv_ladd hx hb hd (kk LS H locs cells slots hl hn hI hc hs)
  · cases ha
theorem sp_lsub : SP l s0 a0 τ D cA (.lsub) 1 := by
  intro μ p e R s m args below meth c Q G F hM pc ls st h q LS H locs cells slots k0 z0 hd ha hl hn hI hc hs h1 h2 kk
  obtain ⟨hμ, hx, hb, hml, hown, hW, hBs, hLow, hfr, hlo, hlk, hrt, hnm, hex⟩ := F
  simp only [act] at ha
  split at ha
  · obtain rfl := nx_inj ha
    exact lv_lsub hx hb hd (kk LS H locs cells slots hl hn hI hc hs)
  · cases ha
theorem sp_lmul : SP l s0 a0 τ D cA (.lmul) 1 := by
  intro μ p e R s m args below meth c Q G F hM pc ls st h q LS H locs cells slots k0 z0 hd ha hl hn hI hc hs h1 h2 kk
  obtain ⟨hμ, hx, hb, hml, hown, hW, hBs, hLow, hfr, hlo, hlk, hrt, hnm, hex⟩ := F
  simp only [act] at ha
  split at ha
  · obtain rfl := nx_inj ha
    exact lv_lmul hx hb hd (kk LS H locs cells slots hl hn hI hc hs)
  · cases ha
theorem sp_i2l : SP l s0 a0 τ D cA (.i2l) 1 := by
  intro μ p e R s m args below meth c Q G F hM pc ls st h q LS H locs cells slots k0 z0 hd ha hl hn hI hc hs h1 h2 kk
  obtain ⟨hμ, hx, hb, hml, hown, hW, hBs, hLow, hfr, hlo, hlk, hrt, hnm, hex⟩ := F
  simp only [act] at ha
  split at ha
  · obtain rfl := nx_inj ha
    exact lv_i2l hx hb hd rfl (kk LS H locs cells slots hl hn hI hc hs)
  · cases ha
theorem sp_i2d : SP l s0 a0 τ D cA (.i2d) 1 := by
  intro μ p e R s m args below meth c Q G F hM pc ls st h q LS H locs cells slots k0 z0 hd ha hl hn hI hc hs h1 h2 kk
  obtain ⟨hμ, hx, hb, hml, hown, hW, hBs, hLow, hfr, hlo, hlk, hrt, hnm, hex⟩ := F
  simp only [act] at ha
  split at ha
  · obtain rfl := nx_inj ha
    exact lv_i2d hx hb hd (kk LS H locs cells slots hl hn hI hc hs)
  · cases ha
theorem sp_lcmp : SP l s0 a0 τ D cA (.lcmp) 1 := by
  intro μ p e R s m args below meth c Q G F hM pc ls st h q LS H locs cells slots k0 z0 hd ha hl hn hI hc hs h1 h2 kk
  obtain ⟨hμ, hx, hb, hml, hown, hW, hBs, hLow, hfr, hlo, hlk, hrt, hnm, hex⟩ := F
  simp only [act] at ha
  split at ha
  · obtain rfl := nx_inj ha
    exact W.lcmp hx hb hd (kk LS H locs cells slots hl hn hI hc hs)
  · cases ha
theorem sp_dcmp (op : CmpOp) : SP l s0 a0 τ D cA (.dcmp op) 1 := by
  intro μ p e R s m args below meth c Q G F hM pc ls st h q LS H locs cells slots k0 z0 hd ha hl hn hI hc hs h1 h2 kk
  obtain ⟨hμ, hx, hb, hml, hown, hW, hBs, hLow, hfr, hlo, hlk, hrt, hnm, hex⟩ := F
  simp only [act] at ha
  split at ha
  · obtain rfl := nx_inj ha
    exact lv_dcmp hx hb hd (kk LS H locs cells slots hl hn hI hc hs)
  · cases ha
theorem sp_irem : SP l s0 a0 τ D cA (.irem) 1 := by
  intro μ p e R s m args below meth c Q G F hM pc ls st h q LS H locs cells slots k0 z0 hd ha hl hn hI hc hs h1 h2 kk
  obtain ⟨hμ, hx, hb, hml, hown, hW, hBs, hLow, hfr, hlo, hlk, hrt, hnm, hex⟩ := F
  simp only [act] at ha
  split at ha
  · split at ha
    · cases ha
    · next hne =>
      obtain rfl := nx_inj ha
      exact lv_irem hx hb hd hne (kk LS H locs cells slots hl hn hI hc hs)
  · cases ha
theorem sp_ddiv : SP l s0 a0 τ D cA (.ddiv) 1 := by
  intro μ p e R s m args below meth c Q G F hM pc ls st h q LS H locs cells slots k0 z0 hd ha hl hn hI hc hs h1 h2 kk
  obtain ⟨hμ, hx, hb, hml, hown, hW, hBs, hLow, hfr, hlo, hlk, hrt, hnm, hex⟩ := F
  simp only [act] at ha
  split at ha
  · split at ha
    · next hne =>
      obtain rfl := nx_inj ha
      exact lv_ddiv hx hb hd hne (kk LS H locs cells slots hl hn hI hc hs)
    · cases ha
  · cases ha
theorem sp_dconst (d : Fin 2) : SP l s0 a0 τ D cA (.dconst d) 1 := by
  intro μ p e R s m args below meth c Q G F hM pc ls st h q LS H locs cells slots k0 z0 hd ha hl hn hI hc hs h1 h2 kk
  obtain ⟨hμ, hx, hb, hml, hown, hW, hBs, hLow, hfr, hlo, hlk, hrt, hnm, hex⟩ := F
  simp only [act] at ha
  split at ha
  · next hd1 =>
    subst hd1
    obtain rfl := nx_inj ha
    exact lv_dconst1 hx hb hd (kk LS H locs cells slots hl hn hI hc hs)
  · cases ha
theorem sp_iconst (n : Int) : SP l s0 a0 τ D cA (.iconst n) 1 := by
  intro μ p e R s m args below meth c Q G F hM pc ls st h q LS H locs cells slots k0 z0 hd ha hl hn hI hc hs h1 h2 kk
  obtain ⟨hμ, hx, hb, hml, hown, hW, hBs, hLow, hfr, hlo, hlk, hrt, hnm, hex⟩ := F
  simp only [act] at ha
  obtain rfl := nx_inj ha
  exact lv_iconst hx hb hd rfl (kk LS H locs cells slots hl hn hI hc hs)
theorem sp_bipush (n : Int) : SP l s0 a0 τ D cA (.bipush n) 2 := by
  intro μ p e R s m args below meth c Q G F hM pc ls st h q LS H locs cells slots k0 z0 hd ha hl hn hI hc hs h1 h2 kk
  obtain ⟨hμ, hx, hb, hml, hown, hW, hBs, hLow, hfr, hlo, hlk, hrt, hnm, hex⟩ := F
  simp only [act] at ha
  obtain rfl := nx_inj ha
  exact lv_bipush hx hb hd rfl (kk LS H locs cells slots hl hn hI hc hs)
theorem sp_sipush (n : Int) : SP l s0 a0 τ D cA (.sipush n) 3 := by
  intro μ p e R s m args below meth c Q G F hM pc ls st h q LS H locs cells slots k0 z0 hd ha hl hn hI hc hs h1 h2 kk
  obtain ⟨hμ, hx, hb, hml, hown, hW, hBs, hLow, hfr, hlo, hlk, hrt, hnm, hex⟩ := F
  simp only [act] at ha
  obtain rfl := nx_inj ha
  exact lv_sipush hx hb hd rfl (kk LS H locs cells slots hl hn hI hc hs)
theorem sp_lconst (n : Fin 2) : SP l s0 a0 τ D cA (.lconst n) 1 := by
  intro μ p e R s m args below meth c Q G F hM pc ls st h q LS H locs cells slots k0 z0 hd ha hl hn hI hc hs h1 h2 kk
  obtain ⟨hμ, hx, hb, hml, hown, hW, hBs, hLow, hfr, hlo, hlk, hrt, hnm, hex⟩ := F
  simp only [act] at ha
  obtain rfl := nx_inj ha
  exact lv_lconst hx hb hd rfl (kk LS H locs cells slots hl hn hI hc hs)
theorem sp_ldc2_w (i : Nat) : SP l s0 a0 τ D cA (.ldc2_w i) 3 := by
  intro μ p e R s m args below meth c Q G F hM pc ls st h q LS H locs cells slots k0 z0 hd ha hl hn hI hc hs h1 h2 kk
  obtain ⟨hμ, hx, hb, hml, hown, hW, hBs, hLow, hfr, hlo, hlk, hrt, hnm, hex⟩ := F
  simp only [act] at ha
  split at ha
  · next ht =>
    obtain rfl := nx_inj ha
    obtain ⟨-, hw⟩ := okM_e hM (i := i) (by rw [ht]; decide)
    have hw1 : Cond.constantLong (yM μ).cls i (lkf (mt μ).2.1 i).2.2.2 ∈ lw_tbl := hw _ (by unfold wdE; rw [ht]; simp)
    exact lv_ldc2 hx hb hown (wd_at G hW hw1 rfl) hd (kk LS H locs cells slots hl hn hI hc hs)
  · cases ha
theorem sp_dup : SP l s0 a0 τ D cA (.dup) 1 := by
  intro μ p e R s m args below meth c Q G F hM pc ls st h q LS H locs cells slots k0 z0 hd ha hl hn hI hc hs h1 h2 kk
  obtain ⟨hμ, hx, hb, hml, hown, hW, hBs, hLow, hfr, hlo, hlk, hrt, hnm, hex⟩ := F
  simp only [act] at ha
  split at ha
  · split at ha
    · next hv =>
      obtain rfl := nx_inj ha
      exact lv_dup hx hb hd ((tv_cat τ _).trans hv) (kk LS H locs cells slots hl hn hI hc hs)
    · cases ha
  · cases ha
theorem sp_pop : SP l s0 a0 τ D cA (.pop) 1 := by
  intro μ p e R s m args below meth c Q G F hM pc ls st h q LS H locs cells slots k0 z0 hd ha hl hn hI hc hs h1 h2 kk
  obtain ⟨hμ, hx, hb, hml, hown, hW, hBs, hLow, hfr, hlo, hlk, hrt, hnm, hex⟩ := F
  simp only [act] at ha
  split at ha
  · split at ha
    · next hv =>
      obtain rfl := nx_inj ha
      exact lv_pop hx hb hd ((tv_cat τ _).trans hv) (kk LS H locs cells slots hl hn hI hc hs)
    · cases ha
  · cases ha
theorem sp_dup2 : SP l s0 a0 τ D cA (.dup2) 1 := by
  intro μ p e R s m args below meth c Q G F hM pc ls st h q LS H locs cells slots k0 z0 hd ha hl hn hI hc hs h1 h2 kk
  obtain ⟨hμ, hx, hb, hml, hown, hW, hBs, hLow, hfr, hlo, hlk, hrt, hnm, hex⟩ := F
  simp only [act] at ha
  split at ha
  · split at ha
    · next hv =>
      obtain rfl := nx_inj ha
      exact lv_dup2_11 hx hb hd ((tv_cat τ _).trans hv.1) ((tv_cat τ _).trans hv.2) (kk LS H locs cells slots hl hn hI hc hs)
    · cases ha
  · cases ha
theorem sp_iload_n (k : Fin 4) : SP l s0 a0 τ D cA (.iload_n k) 1 := by
  intro μ p e R s m args below meth c Q G F hM pc ls st h q LS H locs cells slots k0 z0 hd ha hl hn hI hc hs h1 h2 kk
  obtain ⟨hμ, hx, hb, hml, hown, hW, hBs, hLow, hfr, hlo, hlk, hrt, hnm, hex⟩ := F
  simp only [act, ldI] at ha
  split at ha
  · next hv =>
    obtain rfl := nx_inj ha
    exact lv_iload_n hx hb hd rfl (hl.at hv) (kk LS H locs cells slots hl hn hI hc hs)
  · cases ha
theorem sp_iload (k : Nat) : SP l s0 a0 τ D cA (.iload k) 2 := by
  intro μ p e R s m args below meth c Q G F hM pc ls st h q LS H locs cells slots k0 z0 hd ha hl hn hI hc hs h1 h2 kk
  obtain ⟨hμ, hx, hb, hml, hown, hW, hBs, hLow, hfr, hlo, hlk, hrt, hnm, hex⟩ := F
  simp only [act, ldI] at ha
  split at ha
  · next hv =>
    obtain rfl := nx_inj ha
    exact lv_iload hx hb hd (hl.at hv) (kk LS H locs cells slots hl hn hI hc hs)
  · cases ha
theorem sp_lload_n (k : Fin 4) : SP l s0 a0 τ D cA (.lload_n k) 1 := by
  intro μ p e R s m args below meth c Q G F hM pc ls st h q LS H locs cells slots k0 z0 hd ha hl hn hI hc hs h1 h2 kk
  obtain ⟨hμ, hx, hb, hml, hown, hW, hBs, hLow, hfr, hlo, hlk, hrt, hnm, hex⟩ := F
  simp only [act, ldJ] at ha
  split at ha
  · next hv =>
    obtain rfl := nx_inj ha
    exact lv_lload_n hx hb hd rfl (hl.at hv) (kk LS H locs cells slots hl hn hI hc hs)
  · cases ha
theorem sp_lload (k : Nat) : SP l s0 a0 τ D cA (.lload k) 2 := by
  intro μ p e R s m args below meth c Q G F hM pc ls st h q LS H locs cells slots k0 z0 hd ha hl hn hI hc hs h1 h2 kk
  obtain ⟨hμ, hx, hb, hml, hown, hW, hBs, hLow, hfr, hlo, hlk, hrt, hnm, hex⟩ := F
  simp only [act, ldJ] at ha
  split at ha
  · next hv =>
    obtain rfl := nx_inj ha
    exact lv_lload hx hb hd (hl.at hv) (kk LS H locs cells slots hl hn hI hc hs)
  · cases ha
theorem sp_dload_n (k : Fin 4) : SP l s0 a0 τ D cA (.dload_n k) 1 := by
  intro μ p e R s m args below meth c Q G F hM pc ls st h q LS H locs cells slots k0 z0 hd ha hl hn hI hc hs h1 h2 kk
  obtain ⟨hμ, hx, hb, hml, hown, hW, hBs, hLow, hfr, hlo, hlk, hrt, hnm, hex⟩ := F
  simp only [act, ldD] at ha
  split at ha
  · next hv =>
    obtain rfl := nx_inj ha
    exact lv_dload_n hx hb hd rfl (hl.at hv) (kk LS H locs cells slots hl hn hI hc hs)
  · cases ha
theorem sp_dload (k : Nat) : SP l s0 a0 τ D cA (.dload k) 2 := by
  intro μ p e R s m args below meth c Q G F hM pc ls st h q LS H locs cells slots k0 z0 hd ha hl hn hI hc hs h1 h2 kk
  obtain ⟨hμ, hx, hb, hml, hown, hW, hBs, hLow, hfr, hlo, hlk, hrt, hnm, hex⟩ := F
  simp only [act, ldD] at ha
  split at ha
  · next hv =>
    obtain rfl := nx_inj ha
    exact lv_dload hx hb hd (hl.at hv) (kk LS H locs cells slots hl hn hI hc hs)
  · cases ha
theorem sp_aload_n (k : Fin 4) : SP l s0 a0 τ D cA (.aload_n k) 1 := by
  intro μ p e R s m args below meth c Q G F hM pc ls st h q LS H locs cells slots k0 z0 hd ha hl hn hI hc hs h1 h2 kk
  obtain ⟨hμ, hx, hb, hml, hown, hW, hBs, hLow, hfr, hlo, hlk, hrt, hnm, hex⟩ := F
  simp only [act, ldA] at ha
  split at ha
  · next hv =>
    obtain rfl := nx_inj ha
    exact lv_aload_n hx hb hd rfl (hl.at hv) (kk LS H locs cells slots hl hn hI hc hs)
  · cases ha
theorem sp_aload (k : Nat) : SP l s0 a0 τ D cA (.aload k) 2 := by
  intro μ p e R s m args below meth c Q G F hM pc ls st h q LS H locs cells slots k0 z0 hd ha hl hn hI hc hs h1 h2 kk
  obtain ⟨hμ, hx, hb, hml, hown, hW, hBs, hLow, hfr, hlo, hlk, hrt, hnm, hex⟩ := F
  simp only [act, ldA] at ha
  split at ha
  · next hv =>
    obtain rfl := nx_inj ha
    exact lv_aload hx hb hd (hl.at hv) (kk LS H locs cells slots hl hn hI hc hs)
  · cases ha
theorem sp_istore_n (k : Fin 4) : SP l s0 a0 τ D cA (.istore_n k) 1 := by
  intro μ p e R s m args below meth c Q G F hM pc ls st h q LS H locs cells slots k0 z0 hd ha hl hn hI hc hs h1 h2 kk
  obtain ⟨hμ, hx, hb, hml, hown, hW, hBs, hLow, hfr, hlo, hlk, hrt, hnm, hex⟩ := F
  simp only [act, stI] at ha
  split at ha
  · split at ha
    · next hi =>
      obtain rfl := nx_inj ha
      refine lv_istore_n hx hb hd rfl hl hi rfl (fun LS9 h9 => ?_)
      exact kk LS9 H locs cells slots (LsR.st1 (o := some (.int _)) hi (fun v q => by cases q; rfl) h9) ((set1_len _ _ _).trans hn) hI hc hs
    · cases ha
  · cases ha
theorem sp_istore (k : Nat) : SP l s0 a0 τ D cA (.istore k) 2 := by
  intro μ p e R s m args below meth c Q G F hM pc ls st h q LS H locs cells slots k0 z0 hd ha hl hn hI hc hs h1 h2 kk
  obtain ⟨hμ, hx, hb, hml, hown, hW, hBs, hLow, hfr, hlo, hlk, hrt, hnm, hex⟩ := F
  simp only [act, stI] at ha
  split at ha
  · split at ha
    · next hi =>
      obtain rfl := nx_inj ha
      refine lv_istore hx hb hd hl hi rfl (fun LS9 h9 => ?_)
      exact kk LS9 H locs cells slots (LsR.st1 (o := some (.int _)) hi (fun v q => by cases q; rfl) h9) ((set1_len _ _ _).trans hn) hI hc hs
    · cases ha
  · cases ha
theorem sp_astore_n (k : Fin 4) : SP l s0 a0 τ D cA (.astore_n k) 1 := by
  intro μ p e R s m args below meth c Q G F hM pc ls st h q LS H locs cells slots k0 z0 hd ha hl hn hI hc hs h1 h2 kk
  obtain ⟨hμ, hx, hb, hml, hown, hW, hBs, hLow, hfr, hlo, hlk, hrt, hnm, hex⟩ := F
  simp only [act, stA] at ha
  split at ha
  · split at ha
    · next hi =>
      obtain rfl := nx_inj ha
      refine lv_astore_n hx hb hd rfl hl hi rfl (fun LS9 h9 => ?_)
      exact kk LS9 H locs cells slots (LsR.st1 (o := some (.ref _)) hi (fun v q => by cases q; rfl) h9) ((set1_len _ _ _).trans hn) hI hc hs
    · cases ha
  · cases ha
theorem sp_astore (k : Nat) : SP l s0 a0 τ D cA (.astore k) 2 := by
  intro μ p e R s m args below meth c Q G F hM pc ls st h q LS H locs cells slots k0 z0 hd ha hl hn hI hc hs h1 h2 kk
  obtain ⟨hμ, hx, hb, hml, hown, hW, hBs, hLow, hfr, hlo, hlk, hrt, hnm, hex⟩ := F
  simp only [act, stA] at ha
  split at ha
  · split at ha
    · next hi =>
      obtain rfl := nx_inj ha
      refine lv_astore hx hb hd hl hi rfl (fun LS9 h9 => ?_)
      exact kk LS9 H locs cells slots (LsR.st1 (o := some (.ref _)) hi (fun v q => by cases q; rfl) h9) ((set1_len _ _ _).trans hn) hI hc hs
    · cases ha
  · cases ha
theorem sp_lstore_n (k : Fin 4) : SP l s0 a0 τ D cA (.lstore_n k) 1 := by
  intro μ p e R s m args below meth c Q G F hM pc ls st h q LS H locs cells slots k0 z0 hd ha hl hn hI hc hs h1 h2 kk
  obtain ⟨hμ, hx, hb, hml, hown, hW, hBs, hLow, hfr, hlo, hlk, hrt, hnm, hex⟩ := F
  simp only [act, stJ] at ha
  split at ha
  · split at ha
    · next hi =>
      obtain rfl := nx_inj ha
      refine lv_lstore_n hx hb hd rfl hl hi rfl (fun LS9 h9 => ?_)
      exact kk LS9 H locs cells slots (LsR.st2 (v := .long _) hi h9) ((set2_len _ _ _).trans hn) hI hc hs
    · cases ha
  · cases ha
theorem sp_lstore (k : Nat) : SP l s0 a0 τ D cA (.lstore k) 2 := by
  intro μ p e R s m args below meth c Q G F hM pc ls st h q LS H locs cells slots k0 z0 hd ha hl hn hI hc hs h1 h2 kk
  obtain ⟨hμ, hx, hb, hml, hown, hW, hBs, hLow, hfr, hlo, hlk, hrt, hnm, hex⟩ := F
  simp only [act, stJ] at ha
  split at ha
  · split at ha
    · next hi =>
      obtain rfl := nx_inj ha
      refine lv_lstore hx hb hd hl hi rfl (fun LS9 h9 => ?_)
      exact kk LS9 H locs cells slots (LsR.st2 (v := .long _) hi h9) ((set2_len _ _ _).trans hn) hI hc hs
    · cases ha
  · cases ha
theorem sp_dstore_n (k : Fin 4) : SP l s0 a0 τ D cA (.dstore_n k) 1 := by
  intro μ p e R s m args below meth c Q G F hM pc ls st h q LS H locs cells slots k0 z0 hd ha hl hn hI hc hs h1 h2 kk
  obtain ⟨hμ, hx, hb, hml, hown, hW, hBs, hLow, hfr, hlo, hlk, hrt, hnm, hex⟩ := F
  simp only [act, stD] at ha
  split at ha
  · split at ha
    · next hi =>
      obtain rfl := nx_inj ha
      refine lv_dstore_n hx hb hd rfl hl hi rfl (fun LS9 h9 => ?_)
      exact kk LS9 H locs cells slots (LsR.st2 (v := .double _) hi h9) ((set2_len _ _ _).trans hn) hI hc hs
    · cases ha
  · cases ha
theorem sp_dstore (k : Nat) : SP l s0 a0 τ D cA (.dstore k) 2 := by
  intro μ p e R s m args below meth c Q G F hM pc ls st h q LS H locs cells slots k0 z0 hd ha hl hn hI hc hs h1 h2 kk
  obtain ⟨hμ, hx, hb, hml, hown, hW, hBs, hLow, hfr, hlo, hlk, hrt, hnm, hex⟩ := F
  simp only [act, stD] at ha
  split at ha
  · split at ha
    · next hi =>
      obtain rfl := nx_inj ha
      refine lv_dstore hx hb hd hl hi rfl (fun LS9 h9 => ?_)
      exact kk LS9 H locs cells slots (LsR.st2 (v := .double _) hi h9) ((set2_len _ _ _).trans hn) hI hc hs
    · cases ha
  · cases ha
theorem sp_iinc (i : Nat) (n : Int) : SP l s0 a0 τ D cA (.iinc i n) 3 := by
  intro μ p e R s m args below meth c Q G F hM pc ls st h q LS H locs cells slots k0 z0 hd ha hl hn hI hc hs h1 h2 kk
  obtain ⟨hμ, hx, hb, hml, hown, hW, hBs, hLow, hfr, hlo, hlk, hrt, hnm, hex⟩ := F
  simp only [act] at ha
  split at ha
  · next x hv =>
    split at ha
    · next hi =>
      obtain rfl := nx_inj ha
      obtain ⟨k, hk⟩ := List.getElem?_of_mem (lvl_mem (τ := τ) (q := (i, .int x)).mpr ⟨_, hv, rfl⟩)
      refine lv_iinc hx hb hd hl hk rfl hi rfl (fun LS9 h9 => ?_)
      exact kk LS9 H locs cells slots (LsR.st1 (o := some (.int _)) hi (fun v q => by cases q; rfl) h9) ((set1_len _ _ _).trans hn) hI hc hs
    · cases ha
  · cases ha
theorem sp_ifCond (cn : ClassFile.Cond) (off : Int) : SP l s0 a0 τ D cA (.ifCond cn off) 3 := by
  intro μ p e R s m args below meth c Q G F hM pc ls st h q LS H locs cells slots k0 z0 hd ha hl hn hI hc hs h1 h2 kk
  obtain ⟨hμ, hx, hb, hml, hown, hW, hBs, hLow, hfr, hlo, hlk, hrt, hnm, hex⟩ := F
  simp only [act] at ha
  split at ha
  · next x r =>
    unfold bra at ha
    split at ha
    case isFalse => cases ha
    next h0 =>
    cases cn
    · by_cases hP : x = 0
      · rw [show cnd .eq x 0 = true from decide_eq_true hP, if_pos rfl] at ha
        obtain ⟨tgt, ht, rfl⟩ := jmp_inj ha
        exact lv_if_eq hx hb hd ht (fun _ => (kk LS H locs cells slots hl hn hI hc hs)) (fun hN => absurd hP hN)
      · rw [show cnd .eq x 0 = false from decide_eq_false hP, if_neg Bool.false_ne_true] at ha
        obtain rfl := nx_inj ha
        exact lv_if_eq hx hb hd (Int.toNat_of_nonneg h0).symm (fun hN => absurd hN hP) (fun _ => (kk LS H locs cells slots hl hn hI hc hs))
    · by_cases hP : ¬ x = 0
      · rw [show cnd .ne x 0 = true from decide_eq_true hP, if_pos rfl] at ha
        obtain ⟨tgt, ht, rfl⟩ := jmp_inj ha
        exact lv_if_ne hx hb hd ht (fun _ => (kk LS H locs cells slots hl hn hI hc hs)) (fun hN => absurd hP (fun z9 => z9 hN))
      · rw [show cnd .ne x 0 = false from decide_eq_false hP, if_neg Bool.false_ne_true] at ha
        obtain rfl := nx_inj ha
        exact lv_if_ne hx hb hd (Int.toNat_of_nonneg h0).symm (fun hN => absurd hN hP) (fun _ => (kk LS H locs cells slots hl hn hI hc hs))
    · by_cases hP : x < 0
      · rw [show cnd .lt x 0 = true from decide_eq_true hP, if_pos rfl] at ha
        obtain ⟨tgt, ht, rfl⟩ := jmp_inj ha
        exact lv_if_lt hx hb hd ht (fun _ => (kk LS H locs cells slots hl hn hI hc hs)) (fun hN => absurd hP hN)
      · rw [show cnd .lt x 0 = false from decide_eq_false hP, if_neg Bool.false_ne_true] at ha
        obtain rfl := nx_inj ha
        exact lv_if_lt hx hb hd (Int.toNat_of_nonneg h0).symm (fun hN => absurd hN hP) (fun _ => (kk LS H locs cells slots hl hn hI hc hs))
    · by_cases hP : 0 ≤ x
      · rw [show cnd .ge x 0 = true from decide_eq_true hP, if_pos rfl] at ha
        obtain ⟨tgt, ht, rfl⟩ := jmp_inj ha
        exact lv_if_ge hx hb hd ht (fun _ => (kk LS H locs cells slots hl hn hI hc hs)) (fun hN => absurd hP hN)
      · rw [show cnd .ge x 0 = false from decide_eq_false hP, if_neg Bool.false_ne_true] at ha
        obtain rfl := nx_inj ha
        exact lv_if_ge hx hb hd (Int.toNat_of_nonneg h0).symm (fun hN => absurd hN hP) (fun _ => (kk LS H locs cells slots hl hn hI hc hs))
    · by_cases hP : 0 < x
      · rw [show cnd .gt x 0 = true from decide_eq_true hP, if_pos rfl] at ha
        obtain ⟨tgt, ht, rfl⟩ := jmp_inj ha
        exact lv_if_gt hx hb hd ht (fun _ => (kk LS H locs cells slots hl hn hI hc hs)) (fun hN => absurd hP hN)
      · rw [show cnd .gt x 0 = false from decide_eq_false hP, if_neg Bool.false_ne_true] at ha
        obtain rfl := nx_inj ha
        exact lv_if_gt hx hb hd (Int.toNat_of_nonneg h0).symm (fun hN => absurd hN hP) (fun _ => (kk LS H locs cells slots hl hn hI hc hs))
    · by_cases hP : x ≤ 0
      · rw [show cnd .le x 0 = true from decide_eq_true hP, if_pos rfl] at ha
        obtain ⟨tgt, ht, rfl⟩ := jmp_inj ha
        exact lv_if_le hx hb hd ht (fun _ => (kk LS H locs cells slots hl hn hI hc hs)) (fun hN => absurd hP hN)
      · rw [show cnd .le x 0 = false from decide_eq_false hP, if_neg Bool.false_ne_true] at ha
        obtain rfl := nx_inj ha
        exact lv_if_le hx hb hd (Int.toNat_of_nonneg h0).symm (fun hN => absurd hN hP) (fun _ => (kk LS H locs cells slots hl hn hI hc hs))
  · cases ha
theorem sp_if_icmp (cn : ClassFile.Cond) (off : Int) : SP l s0 a0 τ D cA (.if_icmp cn off) 3 := by
  intro μ p e R s m args below meth c Q G F hM pc ls st h q LS H locs cells slots k0 z0 hd ha hl hn hI hc hs h1 h2 kk
  obtain ⟨hμ, hx, hb, hml, hown, hW, hBs, hLow, hfr, hlo, hlk, hrt, hnm, hex⟩ := F
  simp only [act] at ha
  split at ha
  · next y x r =>
    unfold bra at ha
    split at ha
    case isFalse => cases ha
    next h0 =>
    cases cn
    · by_cases hP : x = y
      · rw [show cnd .eq x y = true from decide_eq_true hP, if_pos rfl] at ha
        obtain ⟨tgt, ht, rfl⟩ := jmp_inj ha
        exact lv_icmp_eq hx hb hd ht (fun _ => (kk LS H locs cells slots hl hn hI hc hs)) (fun hN => absurd hP hN)
      · rw [show cnd .eq x y = false from decide_eq_false hP, if_neg Bool.false_ne_true] at ha
        obtain rfl := nx_inj ha
        exact lv_icmp_eq hx hb hd (Int.toNat_of_nonneg h0).symm (fun hN => absurd hN hP) (fun _ => (kk LS H locs cells slots hl hn hI hc hs))
    · by_cases hP : ¬ x = y
      · rw [show cnd .ne x y = true from decide_eq_true hP, if_pos rfl] at ha
        obtain ⟨tgt, ht, rfl⟩ := jmp_inj ha
        exact lv_icmp_ne hx hb hd ht (fun _ => (kk LS H locs cells slots hl hn hI hc hs)) (fun hN => absurd hP (fun z9 => z9 hN))
      · rw [show cnd .ne x y = false from decide_eq_false hP, if_neg Bool.false_ne_true] at ha
        obtain rfl := nx_inj ha
        exact lv_icmp_ne hx hb hd (Int.toNat_of_nonneg h0).symm (fun hN => absurd hN hP) (fun _ => (kk LS H locs cells slots hl hn hI hc hs))
    · by_cases hP : x < y
      · rw [show cnd .lt x y = true from decide_eq_true hP, if_pos rfl] at ha
        obtain ⟨tgt, ht, rfl⟩ := jmp_inj ha
        exact lv_icmp_lt hx hb hd ht (fun _ => (kk LS H locs cells slots hl hn hI hc hs)) (fun hN => absurd hP hN)
      · rw [show cnd .lt x y = false from decide_eq_false hP, if_neg Bool.false_ne_true] at ha
        obtain rfl := nx_inj ha
        exact lv_icmp_lt hx hb hd (Int.toNat_of_nonneg h0).symm (fun hN => absurd hN hP) (fun _ => (kk LS H locs cells slots hl hn hI hc hs))
    · by_cases hP : y ≤ x
      · rw [show cnd .ge x y = true from decide_eq_true hP, if_pos rfl] at ha
        obtain ⟨tgt, ht, rfl⟩ := jmp_inj ha
        exact lv_icmp_ge hx hb hd ht (fun _ => (kk LS H locs cells slots hl hn hI hc hs)) (fun hN => absurd hP hN)
      · rw [show cnd .ge x y = false from decide_eq_false hP, if_neg Bool.false_ne_true] at ha
        obtain rfl := nx_inj ha
        exact lv_icmp_ge hx hb hd (Int.toNat_of_nonneg h0).symm (fun hN => absurd hN hP) (fun _ => (kk LS H locs cells slots hl hn hI hc hs))
    · by_cases hP : y < x
      · rw [show cnd .gt x y = true from decide_eq_true hP, if_pos rfl] at ha
        obtain ⟨tgt, ht, rfl⟩ := jmp_inj ha
        exact lv_icmp_gt hx hb hd ht (fun _ => (kk LS H locs cells slots hl hn hI hc hs)) (fun hN => absurd hP hN)
      · rw [show cnd .gt x y = false from decide_eq_false hP, if_neg Bool.false_ne_true] at ha
        obtain rfl := nx_inj ha
        exact lv_icmp_gt hx hb hd (Int.toNat_of_nonneg h0).symm (fun hN => absurd hN hP) (fun _ => (kk LS H locs cells slots hl hn hI hc hs))
    · by_cases hP : x ≤ y
      · rw [show cnd .le x y = true from decide_eq_true hP, if_pos rfl] at ha
        obtain ⟨tgt, ht, rfl⟩ := jmp_inj ha
        exact lv_icmp_le hx hb hd ht (fun _ => (kk LS H locs cells slots hl hn hI hc hs)) (fun hN => absurd hP hN)
      · rw [show cnd .le x y = false from decide_eq_false hP, if_neg Bool.false_ne_true] at ha
        obtain rfl := nx_inj ha
        exact lv_icmp_le hx hb hd (Int.toNat_of_nonneg h0).symm (fun hN => absurd hN hP) (fun _ => (kk LS H locs cells slots hl hn hI hc hs))
  · cases ha
theorem sp_goto (off : Int) : SP l s0 a0 τ D cA (.goto off) 3 := by
  intro μ p e R s m args below meth c Q G F hM pc ls st h q LS H locs cells slots k0 z0 hd ha hl hn hI hc hs h1 h2 kk
  obtain ⟨hμ, hx, hb, hml, hown, hW, hBs, hLow, hfr, hlo, hlk, hrt, hnm, hex⟩ := F
  simp only [act] at ha
  obtain ⟨tgt, ht, rfl⟩ := jmp_inj ha
  exact lv_goto hx hb hd ht (kk LS H locs cells slots hl hn hI hc hs)
theorem sp_tab (df lo hi : Int) (offs : Array Int) (len : Nat) : SP l s0 a0 τ D cA (.tableswitch df lo hi offs) len := by
  intro μ p e R s m args below meth c Q G F hM pc ls st h q LS H locs cells slots k0 z0 hd ha hl hn hI hc hs h1 h2 kk
  obtain ⟨hμ, hx, hb, hml, hown, hW, hBs, hLow, hfr, hlo, hlk, hrt, hnm, hex⟩ := F
  simp only [act, aTab] at ha
  split at ha
  · split at ha
    · next ho =>
      obtain ⟨tgt, ht, rfl⟩ := jmp_inj ha
      exact lv_tableOut hx hb hd ho ht (kk LS H locs cells slots hl hn hI hc hs)
    · next ho =>
      split at ha
      · next off he =>
        obtain ⟨tgt, ht, rfl⟩ := jmp_inj ha
        exact lv_tableIn hx hb hd (fun z => ho (Or.inl z)) (fun z => ho (Or.inr z)) he ht (kk LS H locs cells slots hl hn hI hc hs)
      · cases ha
  · cases ha
end SND
