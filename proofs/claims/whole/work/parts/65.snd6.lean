/-! SOUND 6: the end of a method, handlers, and the whole -/
section SND
variable {l : Launch} {s0 : State} {a0 : Array Value} {τ : Nat → Nat} {D : va_G} {cA : Nat → ClassId}
variable {p : Program} {e : Env} {R : Room} {s : State} {m : MethodId} {args : Array Value} {below : List Frame} {meth : Method} {c : Code} {T : State} {locs : List Loc} {cells slots : Nat} {H : Heap} {Q : State → Prop} {μ ν : Nat}
theorem rk_at {ini : Nat} {rt : Option FieldType} {y : MethodName} (h : rkc ini rt y = true) : (ini = 11 → rt = some .int) ∧ (ini = 12 → rt = some .boolean) ∧ (ini = 13 → rt = some .long) ∧ (ini = 14 → rt = some .double) ∧ (ini = 15 → ∃ t, rt = some t ∧ ((∃ n, t = .object n) ∨ ∃ u, t = .array u)) ∧ (ini < 11 → rt = none) := by
  refine ⟨fun q => ?_, fun q => ?_, fun q => ?_, fun q => ?_, fun q => ?_, fun q => ?_⟩
  · subst q; exact of_decide_eq_true h
  · subst q; exact of_decide_eq_true h
  · subst q; exact of_decide_eq_true h
  · subst q; exact of_decide_eq_true h
  · subst q
    unfold rkc at h
    rw [if_neg (by decide), if_neg (by decide), if_neg (by decide), if_neg (by decide), if_pos rfl] at h
    split at h
    · exact ⟨_, rfl, Or.inl ⟨_, rfl⟩⟩
    · exact ⟨_, rfl, Or.inr ⟨_, rfl⟩⟩
    · cases h
  · unfold rkc at h
    rw [if_neg (by omega), if_neg (by omega), if_neg (by omega), if_neg (by omega), if_neg (by omega)] at h
    split at h
    · exact of_decide_eq_true h
    · simp only [Bool.and_eq_true, decide_eq_true_eq] at h
      exact h.1
set_option maxHeartbeats 4000000 in
theorem en_ret (F : FX s0 μ p R s m meth c) (hM : okM μ = true) {ins : ClassFile.Instr} {len pc : Nat} {ls : VLs} {st : List Value} {h : VH} {v : Option Value} {LS : Array Slot} (ho : okL ins len = true) (hd : decode (mt μ).1 pc = .ok (ins, len)) (ha : act (mt μ) ins len pc ls st h = some (Sum.inr (Sum.inr (Sum.inl v)))) (hI : Inv τ D cA s0 s h H locs) :
    W p l e R s m args below meth c H locs cells slots (vx_MQ below (QcM s0 τ D cA (Sum.inl v, h)) (XcM s0 τ D cA (Sum.inl v, h)) args s cells slots (FrM s0)) (F0 m pc LS (st.map (tv τ))) := by
  obtain ⟨hμ, hx, hb, hml, hown, hW, hBs, hLow, hfr, hlo, hlk, hrt, hnm, hex⟩ := F
  obtain ⟨r11, r12, r13, r14, r15, r10⟩ := rk_at (okM_rk hM).1
  have hq : ∀ t : State, t.heap = H → s.WarmedH t.vm → QcM s0 τ D cA (Sum.inl v, h) args s (.returned (v.map (tv τ))) t := fun t ht _ => ⟨v, rfl, rfl, by rw [ht]; exact hI.1, by rw [ht]; exact hI.2.1, by rw [ht]; exact hI.2.2.1⟩
  have hf : ∀ q ∈ locs, FrM s0 q.base := hI.2.2.2
  cases ins
  case ireturn =>
    obtain rfl : len = 1 := eq_of_beq ho
    simp only [act] at ha
    split at ha
    · next x9 =>
      split at ha
      · next hz =>
        cases ha
        unfold rz at hz
        simp only [Bool.or_eq_true, Bool.and_eq_true, beq_iff_eq] at hz
        rcases hz with h11 | ⟨h12, h01⟩
        · exact vx_ret (W.iret hx hb (hrt.trans (r11 h11)) hq hf hd (hlocks := hlk))
        · refine vx_ret (W.zret (ty := .boolean) hx hb (hrt.trans (r12 h12)) ?_ hq hf hd (hlocks := hlk))
          rcases h01 with h01 | h01
          · rw [h01]; rfl
          · rw [h01]; rfl
      · cases ha
    · cases ha
  case lreturn =>
    obtain rfl : len = 1 := eq_of_beq ho
    simp only [act] at ha
    split at ha
    · split at ha
      · next hz =>
        cases ha
        exact vx_ret (W.lret hx hb (hrt.trans (r13 hz)) hq hf hd (hlocks := hlk))
      · cases ha
    · cases ha
  case dreturn =>
    obtain rfl : len = 1 := eq_of_beq ho
    simp only [act] at ha
    split at ha
    · split at ha
      · next hz =>
        cases ha
        exact vx_ret (W.dret hx hb (hrt.trans (r14 hz)) hq hf hd (hlocks := hlk))
      · cases ha
    · cases ha
  case areturn =>
    obtain rfl : len = 1 := eq_of_beq ho
    simp only [act] at ha
    split at ha
    · split at ha
      · next x9 hz =>
        cases ha
        obtain ⟨t, ht, ht2⟩ := r15 hz
        exact vx_ret (W.aret (v := .ref (τ _)) hx hb (hrt.trans ht) ht2 (Or.inr ⟨_, rfl⟩) hq hf hd (hlocks := hlk))
      · cases ha
    · cases ha
  case return_ =>
    obtain rfl : len = 1 := eq_of_beq ho
    simp only [act] at ha
    split at ha
    · split at ha
      · next hz =>
        cases ha
        exact vx_ret (W.vret hx hb (hrt.trans (r10 hz)) hq hf hd (hlocks := hlk))
      · cases ha
    · cases ha
  all_goals first
    | (exact absurd (show (none : Option VA) = some _ from ha) (fun z => by cases z))
    | (simp only [act, ldl, ldI, ldJ, ldD, ldA, stI, stA, stJ, stD, nx, jmp, bra, aGet, aPut, aNewI, aNewJ, aNewR, aNew, aIld, aJld, aAld, aIst, aJst, aAst, aLen, aCpy, aSta, aVir, aSpc, aTab, cal] at ha
       repeat' split at ha
       all_goals (cases ha; done))
/-! handlers -/
def PassE (own : String) (pc E : Nat) (z : ExceptionTableEntry) : Prop := covers z pc = false ∨ (z.catchType ≠ 0 ∧ ∃ F : Nat, 1 ≤ F ∧ F ≤ 3 ∧ E ≠ F ∧ Cond.classLink own z.catchType (eNm F) ∈ lw_tbl)
theorem hnd_spec (own : String) (pc E : Nat) : ∀ (hh exc : List (Nat × Nat × Nat × Nat)), hck hh exc = true → (∀ q ∈ hh.zip exc, Cond.classLink own q.1.2.2.2 (eNm q.2.2.2.2) ∈ lw_tbl) →
    (∀ hp, hnd exc pc E = some hp → ∃ (pre : List ExceptionTableEntry) (x : ExceptionTableEntry) (suf : List ExceptionTableEntry), tableOf hh = pre ++ x :: suf ∧ (∀ z ∈ pre, PassE own pc E z) ∧ covers x pc = true ∧ x.catchType ≠ 0 ∧ x.handlerPc = hp ∧ Cond.classLink own x.catchType (eNm E) ∈ lw_tbl) ∧
    (hnd exc pc E = none → ∀ z ∈ tableOf hh, PassE own pc E z)
  | [], [], _, _ => ⟨fun hp q => (by cases q), fun _ z hz => (by cases hz)⟩
  | [], _ :: _, h, _ => by cases h
  | _ :: _, [], h, _ => by cases h
  | q :: t, x :: u, h, hw => by
    simp only [hck, Bool.and_eq_true, beq_iff_eq, decide_eq_true_eq] at h
    obtain ⟨h1, h2, h3, h4, h5, h6, h7⟩ := h
    have hw0 := hw (q, x) (by rw [List.zip_cons_cons]; exact List.mem_cons_self)
    obtain ⟨g1, g2⟩ := hnd_spec own pc E t u h7 (fun z hz => hw z (by rw [List.zip_cons_cons]; exact List.mem_cons_of_mem _ hz))
    have hpass : ¬ (x.1 ≤ pc ∧ pc < x.2.1 ∧ x.2.2.2 = E) → PassE own pc E ⟨q.1, q.2.1, q.2.2.1, q.2.2.2⟩ := by
      intro hn
      by_cases hc : x.1 ≤ pc ∧ pc < x.2.1
      · exact Or.inr ⟨h6, x.2.2.2, h4, h5, fun z => hn ⟨hc.1, hc.2, z.symm⟩, hw0⟩
      · refine Or.inl ?_
        show (decide (q.1 ≤ pc) && decide (pc < q.2.1)) = false
        rw [h1, h2]
        by_cases hc1 : x.1 ≤ pc
        · have hc2 : ¬ pc < x.2.1 := fun z => hc ⟨hc1, z⟩
          simp [hc2]
        · simp [hc1]
    refine ⟨fun hp hh => ?_, fun hh => ?_⟩
    · unfold hnd at hh
      by_cases hm : x.1 ≤ pc ∧ pc < x.2.1 ∧ x.2.2.2 = E
      · rw [if_pos hm] at hh
        refine ⟨[], ⟨q.1, q.2.1, q.2.2.1, q.2.2.2⟩, tableOf t, rfl, fun z hz => (by cases hz), ?_, h6, ?_, ?_⟩
        · show (decide (q.1 ≤ pc) && decide (pc < q.2.1)) = true
          rw [h1, h2]
          simp [hm.1, hm.2.1]
        · show q.2.2.1 = hp
          rw [h3]
          exact Option.some.inj hh
        · rw [← hm.2.2]
          exact hw0
      · rw [if_neg hm] at hh
        obtain ⟨pre, y, suf, e1, e2, e3⟩ := g1 hp hh
        refine ⟨⟨q.1, q.2.1, q.2.2.1, q.2.2.2⟩ :: pre, y, suf, ?_, ?_, e3⟩
        · show (⟨q.1, q.2.1, q.2.2.1, q.2.2.2⟩ : ExceptionTableEntry) :: tableOf t = _
          rw [e1]
          rfl
        · intro z hz
          rcases List.mem_cons.mp hz with rfl | hz
          · exact hpass hm
          · exact e2 z hz
    · unfold hnd at hh
      by_cases hm : x.1 ≤ pc ∧ pc < x.2.1 ∧ x.2.2.2 = E
      · rw [if_pos hm] at hh
        cases hh
      · rw [if_neg hm] at hh
        intro z hz
        have hz' : z ∈ (⟨q.1, q.2.1, q.2.2.1, q.2.2.2⟩ : ExceptionTableEntry) :: tableOf t := hz
        rcases List.mem_cons.mp hz' with rfl | hz'
        · exact hpass hm
        · exact g2 hh z hz'
theorem hw_at {μ : Nat} (hM : okM μ = true) : ∀ q ∈ (hhM μ).zip (mt μ).2.2.2, Cond.classLink (yM μ).cls q.1.2.2.2 (eNm q.2.2.2.2) ∈ lw_tbl := fun q hq => okM_w hM _ (List.mem_append_right _ (List.mem_append_left _ (List.mem_map.mpr ⟨q, hq, rfl⟩)))
theorem pass_at (G : GX l s0 a0 τ D cA) (hW : s0.WarmedH s.vm) {own : String} {pc E : Nat} (h1 : 1 ≤ E) (h3 : E ≤ 3) {z : ExceptionTableEntry} (h : PassE own pc E z) : covers z pc = false ∨ (z.catchType ≠ 0 ∧ ∃ nm : String, (Cond.classLink own z.catchType nm).before args s = true ∧ va_Nc (eNm E) nm s) := by
  rcases h with h | ⟨h0, F, f1, f2, f3, f4⟩
  · exact Or.inl h
  · exact Or.inr ⟨h0, eNm F, wd_at G hW f4 rfl, va_Nc.moved hW.alike (G.2.2.2.2.2.2.2.2.2.2 E F h1 h3 f1 f2 f3)⟩
theorem cast_at (G : GX l s0 a0 τ D cA) (hW : s0.WarmedH s.vm) {E : String} (hw : Cond.castable E E ∈ lw_tbl) : (Cond.castable E E).before args s = true := by
  obtain ⟨c1, t1, h1, h2, h3⟩ := Cond.castable_spec (G.1 _ hw)
  cases Option.some.inj (h1.symm.trans h2)
  simp [Cond.before, Cond.holds, Cond.value, hW.alike.findClass, h1, hW.alike.assignable, h3]
theorem gW_e {E : Nat} (h1 : 1 ≤ E) (h3 : E ≤ 3) : Cond.initialized (eNm E) ∈ gW ∧ Cond.castable (eNm E) (eNm E) ∈ gW ∧ ∀ w ∈ vx_atS RX4 (icE E) (eNm E) exN, w ∈ gW := by
  have h : E = 1 ∨ E = 2 ∨ E = 3 := by omega
  rcases h with rfl | rfl | rfl
  · exact ⟨List.mem_append_right _ (List.mem_append_left _ (by simp)), List.mem_append_right _ (List.mem_append_left _ (by simp)), fun w hw => List.mem_append_right _ (List.mem_append_right _ (List.mem_append_left _ hw))⟩
  · exact ⟨List.mem_append_right _ (List.mem_append_left _ (by simp)), List.mem_append_right _ (List.mem_append_left _ (by simp)), fun w hw => List.mem_append_right _ (List.mem_append_right _ (List.mem_append_right _ (List.mem_append_left _ hw)))⟩
  · exact ⟨List.mem_append_right _ (List.mem_append_left _ (by simp)), List.mem_append_right _ (List.mem_append_left _ (by simp)), fun w hw => List.mem_append_right _ (List.mem_append_right _ (List.mem_append_right _ (List.mem_append_right _ hw)))⟩
def isDcl (w : Cond) : Bool := match w with
  | .declares _ => true
  | _ => false
theorem dcl_at (G : GX l s0 a0 τ D cA) (hW : s0.WarmedH s.vm) {w : Cond} (hd : isDcl w = true) (hw : w ∈ lw_tbl) : w.before args s = true := by
  unfold isDcl at hd
  split at hd
  · exact va_Nw.use rfl (va_Nw.warmD hW (va_Nw.of rfl (G.1 _ hw)))
  · cases hd
theorem atS_good : ([1, 2, 3] : List Nat).all (fun E => (vx_atS RX4 (icE E) (eNm E) exN).all (fun w => (goodWord w || (isDcl w || decide (w = .castable (eNm E) (eNm E)))) && vx_ot w) && (Bundle.fit (eNm E) && exN.all Bundle.fit)) = true := by decide +kernel
theorem atS_at {E : Nat} (h1 : 1 ≤ E) (h3 : E ≤ 3) : (∀ w ∈ vx_atS RX4 (icE E) (eNm E) exN, (goodWord w = true ∨ isDcl w = true ∨ w = .castable (eNm E) (eNm E)) ∧ vx_ot w = true) ∧ Bundle.fit (eNm E) = true ∧ ∀ n ∈ exN, Bundle.fit n = true := by
  have hm : E ∈ ([1, 2, 3] : List Nat) := by
    have h : E = 1 ∨ E = 2 ∨ E = 3 := by omega
    rcases h with rfl | rfl | rfl <;> simp
  have h := List.all_eq_true.mp atS_good E hm
  simp only [Bool.and_eq_true] at h
  refine ⟨fun w hw => ?_, h.2.1, List.all_eq_true.mp h.2.2⟩
  have h9 := List.all_eq_true.mp h.1 w hw
  simp only [Bool.and_eq_true, Bool.or_eq_true, decide_eq_true_eq] at h9
  exact h9
theorem hck_nil {hh : List (Nat × Nat × Nat × Nat)} (h : hck hh [] = true) : hh = [] := by
  cases hh with
  | nil => rfl
  | cons q t => cases h
set_option maxHeartbeats 4000000 in
theorem en_thr (G : GX l s0 a0 τ D cA) (F : FX s0 μ p R s m meth c) (hM : okM μ = true) {ins : ClassFile.Instr} {len pc : Nat} {ls : VLs} {st : List Value} {h : VH} {E : Nat} {LS : Array Slot} (hLS : LS.size = (mt μ).2.2.1.1) (ho : okL ins len = true) (hd : decode (mt μ).1 pc = .ok (ins, len)) (ha : act (mt μ) ins len pc ls st h = some (Sum.inr (Sum.inr (Sum.inr E)))) (hI : Inv τ D cA s0 s h H locs)
    {mc ms : Nat} (hmc : mc = cells + 1) (hms : ms = slots + 6) (hRc : mc ≤ R.cells) (hRs : ms ≤ R.slots) :
    W p l e R s m args below meth c H locs cells slots (vx_MQ below (QcM s0 τ D cA (Sum.inr E, ((h.1.1, false, h.1.2.2.1 + 1, h.1.2.2.2 + 6), h.2))) (XcM s0 τ D cA (Sum.inr E, ((h.1.1, false, h.1.2.2.1 + 1, h.1.2.2.2 + 6), h.2))) args s mc ms (FrM s0)) (F0 m pc LS (st.map (tv τ))) := by
  obtain ⟨hμ, hx, hb, hml, hown, hW, hBs, hLow, hfr, hlo, hlk, hrt, hnm, hex⟩ := F
  cases ins
  case new i =>
    obtain rfl : len = 3 := eq_of_beq ho
    simp only [act, aNew] at ha
    split at ha
    · split at ha
      · cases ha
      · cases ha
    · split at ha
      · next h8 =>
        obtain ⟨h8a, h8b, h8c, h8d⟩ := h8
        subst h8c
        have hE : (lkf (mt μ).2.1 i).2.1 = E := by cases ha; rfl
        rw [hE] at h8d
        unfold thr at h8d
        split at h8d
        · next d3 =>
          split at h8d
          · next is d4 =>
            split at h8d
            · next ic d6 =>
              split at h8d
              · next d9 =>
                simp only [Bool.and_eq_true, beq_iff_eq] at h8d
                obtain ⟨z1, z2, z3⟩ := h8d
                obtain ⟨hck1, hw1⟩ := okM_e hM (i := i) (by rw [h8a]; decide)
                obtain ⟨hck2, hw2⟩ := okM_e hM (i := is) (by rw [z1]; decide)
                obtain ⟨hck3, hw3⟩ := okM_e hM (i := ic) (by rw [z2]; decide)
                have g1 : (yM μ).cls = RX4 ∧ 1 ≤ E ∧ E ≤ 3 ∧ 6 ≤ (rmM μ).1 ∧ 82 ≤ (rmM μ).2 := by
                  unfold chkE at hck1
                  rw [h8a, hE] at hck1
                  simpa using hck1
                obtain ⟨gR, e1, e3, gf, gl⟩ := g1
                have g3 : ic = icE E := by
                  unfold chkE at hck3
                  rw [z2, z3] at hck3
                  simpa using hck3
                have hwa : Cond.classLink (yM μ).cls i (eNm E) ∈ lw_tbl := hw1 _ (by unfold wdE; rw [h8a, hE]; simp)
                have hws : Cond.stringRef (yM μ).cls is (strL.getD (lkf (mt μ).2.1 is).2.1 "") ∈ lw_tbl := hw2 _ (by unfold wdE; rw [z1]; simp)
                obtain ⟨sa, hsa⟩ := G.2.2.2.2.2.2.2.2.1 _ _ _ hws
                have hstr := vk_R.warm hW hsa
                obtain ⟨t1, t2, t3⟩ := atS_at e1 e3
                obtain ⟨u1, u2, u3⟩ := gW_e e1 e3
                have hno : hhM μ = [] := hck_nil (by rw [← h8b]; exact (okM_rk hM).2.1)
                rw [gR] at hwa hown hstr
                subst g3
                have hat : ∀ w ∈ vx_atS RX4 (icE E) (eNm E) exN, w.before args s = true := by
                  intro w hw
                  rcases (t1 w hw).1 with h9 | h9 | h9
                  · exact gw_at G hW (u3 w hw) h9
                  · exact dcl_at G hW h9 (gW_mem (u3 w hw))
                  · rw [h9]
                    exact cast_at G hW (gW_mem u2)
                refine vx_throwS (own := RX4) (cls := eNm E) (names := exN) (ik := i) (is := is) (ic := icE E) (sa := sa) (A := fun q => s0.heap.size ≤ q) hx hb G.2.2.2.2.2.2.2.2.2.1 hown t2 t3 (wd_at G hW hwa rfl) (gw_at G hW u1 rfl) hstr hat ?_ ?_ ?_ ?_ (hLS.trans hml.symm) hd d3 d4 d6 d9 ?_ ?_ ?_ (by omega) (by omega) hlk ?_ hI.2.2.2 (by omega) (by omega)
                · intro w hw
                  rcases List.mem_cons.mp hw with rfl | hw
                  · rfl
                  · rcases List.mem_cons.mp hw with rfl | hw
                    · rfl
                    · exact (t1 w hw).2
                · exact (vx_Zq.moved hW.alike G.2.2.2.2.2.2.2.1.1).kept (fun a ha9 _ => hLow a ha9)
                · exact (vx_Zq.moved hW.alike G.2.2.2.2.2.2.2.1.2).kept (fun a ha9 _ => hLow a ha9)
                · exact ⟨hI.2.1, fun q q1 q2 => (hI.2.2.1 q (by omega)).trans (hLow q (by omega)).symm, hI.2.2.2⟩
                · rw [hex, hno]
                  intro x hx9
                  cases hx9
                · show 2 + 3 < R.frames
                  omega
                · show 0 + (13 * (2 + 1) + 43) ≤ R.locals
                  omega
                · intro t hal hsz ho9
                  refine ⟨E, rfl, e1, e3, rfl, ?_, ?_, ?_⟩
                  · obtain ⟨⟨z, b9, k9, n9⟩, c9⟩ := h
                    exact hI.1.fuzz τ D cA s0 ho9
                  · exact Nat.le_trans hI.2.1 hsz
                  · intro q hq
                    have h9 : q < H.size := Nat.lt_of_lt_of_le (Nat.lt_of_lt_of_le hq hBs) hI.2.1
                    exact (ho9 q h9).trans (hI.2.2.1 q hq)
              · cases h8d
            · cases h8d
          · cases h8d
        · cases h8d
      · cases ha
  all_goals first
    | (exact absurd (show (none : Option VA) = some _ from ha) (fun z => by cases z))
    | (simp only [act, ldl, ldI, ldJ, ldD, ldA, stI, stA, stJ, stD, nx, jmp, bra, aGet, aPut, aNewI, aNewJ, aNewR, aNew, aIld, aJld, aAld, aIst, aJst, aAst, aLen, aCpy, aSta, aVir, aSpc, aTab, cal] at ha
       repeat' split at ha
       all_goals (cases ha; done))
/-! every instruction that goes on -/
theorem sp_none {ins : ClassFile.Instr} {len : Nat} (h : ∀ (M : MI) (pc : Nat) (ls : VLs) (st : List Value) (h : VH) (q : Nat × VLs × List Value × VH), act M ins len pc ls st h ≠ some (Sum.inl q)) : SP l s0 a0 τ D cA ins len := by
  intro μ p e R s m args below meth c Q G F hM pc ls st hh q LS H locs cells slots k0 z0 hd ha
  exact absurd ha (h _ _ _ _ _ _)
set_option maxHeartbeats 4000000 in
theorem sp_all {ins : ClassFile.Instr} {len : Nat} (ho : okL ins len = true) : SP l s0 a0 τ D cA ins len := by
  cases ins
  case tableswitch df lo hi offs => exact sp_tab df lo hi offs len
  case iadd =>
    obtain rfl : len = 1 := eq_of_beq ho
    exact sp_iadd
  case isub =>
    obtain rfl : len = 1 := eq_of_beq ho
    exact sp_isub
  case imul =>
    obtain rfl : len = 1 := eq_of_beq ho
    exact sp_imul
  case iand =>
    obtain rfl : len = 1 := eq_of_beq ho
    exact sp_iand
  case ixor =>
    obtain rfl : len = 1 := eq_of_beq ho
    exact sp_ixor
  case ladd =>
    obtain rfl : len = 1 := eq_of_beq ho
    exact sp_ladd
  case lsub =>
    obtain rfl : len = 1 := eq_of_beq ho
    exact sp_lsub
  case lmul =>
    obtain rfl : len = 1 := eq_of_beq ho
    exact sp_lmul
  case i2l =>
    obtain rfl : len = 1 := eq_of_beq ho
    exact sp_i2l
  case i2d =>
    obtain rfl : len = 1 := eq_of_beq ho
    exact sp_i2d
  case lcmp =>
    obtain rfl : len = 1 := eq_of_beq ho
    exact sp_lcmp
  case irem =>
    obtain rfl : len = 1 := eq_of_beq ho
    exact sp_irem
  case ddiv =>
    obtain rfl : len = 1 := eq_of_beq ho
    exact sp_ddiv
  case dup =>
    obtain rfl : len = 1 := eq_of_beq ho
    exact sp_dup
  case pop =>
    obtain rfl : len = 1 := eq_of_beq ho
    exact sp_pop
  case dup2 =>
    obtain rfl : len = 1 := eq_of_beq ho
    exact sp_dup2
  case iaload =>
    obtain rfl : len = 1 := eq_of_beq ho
    exact sp_iaload
  case laload =>
    obtain rfl : len = 1 := eq_of_beq ho
    exact sp_laload
  case aaload =>
    obtain rfl : len = 1 := eq_of_beq ho
    exact sp_aaload
  case iastore =>
    obtain rfl : len = 1 := eq_of_beq ho
    exact sp_iastore
  case lastore =>
    obtain rfl : len = 1 := eq_of_beq ho
    exact sp_lastore
  case aastore =>
    obtain rfl : len = 1 := eq_of_beq ho
    exact sp_aastore
  case dcmp op =>
    obtain rfl : len = 1 := eq_of_beq ho
    exact sp_dcmp op
  case dconst d =>
    obtain rfl : len = 1 := eq_of_beq ho
    exact sp_dconst d
  case iconst n =>
    obtain rfl : len = 1 := eq_of_beq ho
    exact sp_iconst n
  case bipush n =>
    obtain rfl : len = 2 := eq_of_beq ho
    exact sp_bipush n
  case sipush n =>
    obtain rfl : len = 3 := eq_of_beq ho
    exact sp_sipush n
  case lconst n =>
    obtain rfl : len = 1 := eq_of_beq ho
    exact sp_lconst n
  case iload_n k =>
    obtain rfl : len = 1 := eq_of_beq ho
    exact sp_iload_n k
  case iload k =>
    obtain rfl : len = 2 := eq_of_beq ho
    exact sp_iload k
  case istore_n k =>
    obtain rfl : len = 1 := eq_of_beq ho
    exact sp_istore_n k
  case istore k =>
    obtain rfl : len = 2 := eq_of_beq ho
    exact sp_istore k
  case lload_n k =>
    obtain rfl : len = 1 := eq_of_beq ho
    exact sp_lload_n k
  case lload k =>
    obtain rfl : len = 2 := eq_of_beq ho
    exact sp_lload k
  case lstore_n k =>
    obtain rfl : len = 1 := eq_of_beq ho
    exact sp_lstore_n k
  case lstore k =>
    obtain rfl : len = 2 := eq_of_beq ho
    exact sp_lstore k
  case dload_n k =>
    obtain rfl : len = 1 := eq_of_beq ho
    exact sp_dload_n k
  case dload k =>
    obtain rfl : len = 2 := eq_of_beq ho
    exact sp_dload k
  case dstore_n k =>
    obtain rfl : len = 1 := eq_of_beq ho
    exact sp_dstore_n k
  case dstore k =>
    obtain rfl : len = 2 := eq_of_beq ho
    exact sp_dstore k
  case aload_n k =>
    obtain rfl : len = 1 := eq_of_beq ho
    exact sp_aload_n k
  case aload k =>
    obtain rfl : len = 2 := eq_of_beq ho
    exact sp_aload k
  case astore_n k =>
    obtain rfl : len = 1 := eq_of_beq ho
    exact sp_astore_n k
  case astore k =>
    obtain rfl : len = 2 := eq_of_beq ho
    exact sp_astore k
  case iinc i n =>
    obtain rfl : len = 3 := eq_of_beq ho
    exact sp_iinc i n
  case ifCond cn off =>
    obtain rfl : len = 3 := eq_of_beq ho
    exact sp_ifCond cn off
  case if_icmp cn off =>
    obtain rfl : len = 3 := eq_of_beq ho
    exact sp_if_icmp cn off
  case goto off =>
    obtain rfl : len = 3 := eq_of_beq ho
    exact sp_goto off
  case ldc2_w i =>
    obtain rfl : len = 3 := eq_of_beq ho
    exact sp_ldc2_w i
  case getfield i =>
    obtain rfl : len = 3 := eq_of_beq ho
    exact sp_getfield i
  case putfield i =>
    obtain rfl : len = 3 := eq_of_beq ho
    exact sp_putfield i
  case new i =>
    obtain rfl : len = 3 := eq_of_beq ho
    exact sp_new i
  case anewarray i =>
    obtain rfl : len = 3 := eq_of_beq ho
    exact sp_anewarray i
  case getstatic i =>
    obtain rfl : len = 3 := eq_of_beq ho
    exact sp_getstatic i
  case invokestatic i =>
    obtain rfl : len = 3 := eq_of_beq ho
    exact sp_invokestaticN i
  case invokespecial i =>
    obtain rfl : len = 3 := eq_of_beq ho
    exact sp_objinit i
  case arraylength =>
    obtain rfl : len = 1 := eq_of_beq ho
    exact sp_alen
  case newarray t =>
    obtain rfl : len = 2 := eq_of_beq ho
    by_cases h1 : t = .int
    · subst h1; exact sp_newI
    · by_cases h2 : t = .long
      · subst h2; exact sp_newJ
      · refine sp_none (fun M pc ls st h q ha => ?_)
        simp only [act] at ha
        rw [if_neg h1, if_neg h2] at ha
        cases ha
  all_goals first
    | (refine sp_none (fun M pc ls st h q ha => ?_); exact absurd (show (none : Option VA) = some (Sum.inl q) from ha) (fun z => by cases z); done)
    | (refine sp_none (fun M pc ls st h q ha => ?_)
       simp only [act, ldl, ldI, ldJ, ldD, ldA, stI, stA, stJ, stD, nx, jmp, bra, aGet, aPut, aNewI, aNewJ, aNewR, aNew, aIld, aJld, aAld, aIst, aJst, aAst, aLen, aCpy, aSta, aVir, aSpc, aTab, cal] at ha
       repeat' split at ha
       all_goals (cases ha; done))
end SND
