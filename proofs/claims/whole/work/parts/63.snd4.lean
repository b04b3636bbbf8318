/-! SOUND 4: steps that read or write the heap -/
def isRt (ty : FieldType) : Bool := match ty with
  | .object _ => true
  | .array _ => true
  | _ => false
def fdc (k j : Nat) : Bool := ((tFd k j).1 == cNm k) && (decide (parseFieldDescriptor (tFd k j).2.2.1 = some (yFd k j)) && (((tFd k j).2.2.2 == (fdF k).getD j true) && ((if (fdI k).getD j false = true then decide (yFd k j = .int) else isRt (yFd k j)) && (List.range (nFd k)).all (fun i => i == j || (tFd k i).2.1 != (tFd k j).2.1))))
theorem fdc_all : (List.range 6).all (fun k => (List.range (nFd k)).all (fdc k)) = true := by decide +kernel
theorem fdc_at {k j : Nat} (hk : k < 6) (hj : j < nFd k) : (tFd k j).1 = cNm k ∧ parseFieldDescriptor (tFd k j).2.2.1 = some (yFd k j) ∧ (tFd k j).2.2.2 = (fdF k).getD j true ∧ ((if (fdI k).getD j false = true then decide (yFd k j = .int) else isRt (yFd k j)) = true) ∧ ∀ i, i < nFd k → i ≠ j → (tFd k i).2.1 ≠ (tFd k j).2.1 := by
  have h := List.all_eq_true.mp (List.all_eq_true.mp fdc_all k (List.mem_range.mpr hk)) j (List.mem_range.mpr hj)
  unfold fdc at h
  simp only [Bool.and_eq_true, beq_iff_eq, decide_eq_true_eq] at h
  obtain ⟨h1, h2, h3, h4, h5⟩ := h
  refine ⟨h1, h2, h3, h4, fun i hi hne => ?_⟩
  have := List.all_eq_true.mp h5 i (List.mem_range.mpr hi)
  simp only [Bool.or_eq_true, beq_iff_eq, bne_iff_ne] at this
  exact this.resolve_left hne
theorem fd_fit (τ : Nat → Nat) {k j : Nat} {v : Value} (hk : k < 6) (hj : j < nFd k) (hv : okf ((fdI k).getD j false) v = true) : narrow (yFd k j) (tv τ v) = tv τ v ∧ fits (yFd k j) (tv τ v) = true := by
  obtain ⟨-, -, -, h4, -⟩ := fdc_at hk hj
  unfold okf at hv
  split at h4
  · next hb =>
    rw [if_pos hb] at hv
    rw [of_decide_eq_true h4]
    cases v <;> first | exact ⟨rfl, rfl⟩ | cases hv
  · next hb =>
    rw [if_neg hb] at hv
    generalize yFd k j = ty at h4 ⊢
    cases ty <;> first | (cases h4; done) | (cases v <;> first | exact ⟨rfl, rfl⟩ | cases hv)
theorem dfl_ok : (List.range 6).all (fun k => (List.range (nFd k)).all (fun j => decide (defaultValue (yFd k j) = vp_V (dfl k) j))) = true := by decide +kernel
theorem dfl_at {k j : Nat} (hk : k < 6) (hj : j < nFd k) : defaultValue (yFd k j) = vp_V (dfl k) j := of_decide_eq_true (List.all_eq_true.mp (List.all_eq_true.mp dfl_ok k (List.mem_range.mpr hk)) j (List.mem_range.mpr hj))
theorem dfl_len (k : Nat) : (dfl k).length = nFd k := by unfold dfl nFd; rw [List.length_map]
theorem dfl_tv (τ : Nat → Nat) (k : Nat) : (dfl k).map (tv τ) = dfl k := by
  unfold dfl
  rw [List.map_map]
  congr 1
  funext b
  cases b <;> rfl
theorem vpV_map {τ : Nat → Nat} {fs : List Value} {j : Nat} {v : Value} (h : fs[j]? = some v) : vp_V (fs.map (tv τ)) j = tv τ v := by
  unfold vp_V
  rw [List.getD_eq_getElem?_getD, List.getElem?_map, h]
  rfl
theorem inB_of {i : Int32} {n : Nat} (h : inB i n = true) : ¬ (i < 0 ∨ n ≤ i.toNatClampNeg) := of_decide_eq_true h
theorem inB_lt {i : Int32} {n : Nat} (h : inB i n = true) : i.toNatClampNeg < n := Nat.not_le.mp fun q => inB_of h (Or.inr q)
section SND
variable {l : Launch} {s0 : State} {a0 : Array Value} {τ : Nat → Nat} {D : va_G} {cA : Nat → ClassId}
variable {p : Program} {e : Env} {R : Room} {s : State} {m : MethodId} {args : Array Value} {below : List Frame} {meth : Method} {c : Code} {Q : State → Prop} {μ : Nat} {H : Heap} {locs : List Loc} {cells slots : Nat}
theorem Inv.push {z k1 n1 k2 n2 : Nat} {b : Bool} {c : Nat → VC} {H1 : Heap} {x : VC} (hτ : Tau τ s0) (hI : Inv τ D cA s0 s ((z, true, k1, n1), c) H locs) (hx : AtC τ D cA s0 x H.size H1) (hz : H1.size = H.size + 1) (ho : ∀ q, q < H.size → H1[q]? = H[q]?) : H.size = τ z ∧ Inv τ D cA s0 s ((z + 1, b, k2, n2), up c z x) H1 locs := by
  obtain ⟨i1, i2, i3, i4⟩ := hI
  obtain ⟨g1, g2⟩ := i1.push τ D cA s0 (b := b) (k2 := k2) (n2 := n2) hτ hx hz ho
  have r3 : 2 ≤ z := i1.2.2.1
  have r4 : H.size + 2 = s0.heap.size + z := i1.2.2.2 rfl
  exact ⟨g1, g2, by omega, fun q hq => (ho q (by omega)).trans (i3 q hq), i4⟩
theorem gw_at (G : GX l s0 a0 τ D cA) (hW : s0.WarmedH s.vm) {w : Cond} (hw : w ∈ gW) (hg : goodWord w = true) : w.before args s = true := wd_at G hW (gW_mem hw) hg
theorem gW_cls {k : Nat} (hk : k < 6) : Cond.instantiable (cNm k) (nFd k) ∈ gW ∧ Cond.initialized (cNm k) ∈ gW ∧ ∀ w ∈ u_ws (cNm k) (tFd k) (nFd k), w ∈ gW := by
  have h : ∀ w ∈ ([.instantiable (cNm k) (nFd k), .initialized (cNm k)] ++ u_ws (cNm k) (tFd k) (nFd k) : List Cond), w ∈ gW := fun w hw => List.mem_append_left _ (List.mem_flatMap.mpr ⟨k, List.mem_range.mpr hk, hw⟩)
  exact ⟨h _ (by simp), h _ (by simp), fun w hw => h w (List.mem_append_right _ hw)⟩
theorem ulay_good (C : String) (T : u_T) (k : Nat) : goodWord (u_lay C T k) = true := by
  unfold u_lay
  split <;> rfl
theorem uws_at (G : GX l s0 a0 τ D cA) (hW : s0.WarmedH s.vm) {k : Nat} (hk : k < 6) : ∀ w ∈ u_ws (cNm k) (tFd k) (nFd k), w.before args s = true := by
  intro w hw
  refine gw_at G hW ((gW_cls hk).2.2 w hw) ?_
  obtain ⟨j, -, rfl⟩ := List.mem_map.mp hw
  exact ulay_good _ _ _
theorem kn_at (G : GX l s0 a0 τ D cA) (hW : s0.WarmedH s.vm) {k : Nat} (hk : k < 6) : u_Kn s (cNm k) (tFd k) (nFd k) (D.1 k) (D.2 k) := u_Kn_moved hW.alike (G.2.2.1 k hk)
/-- an object's fields lie apart -/
theorem ap_at (G : GX l s0 a0 τ D cA) (hW : s0.WarmedH s.vm) (args : Array Value) {k : Nat} (hk : k < 6) : ∀ x y, x < nFd k → y < nFd k → x ≠ y → D.2 k x ≠ D.2 k y := by
  intro x y hx hy hne
  obtain ⟨hS, -⟩ := kn_at G hW hk
  obtain ⟨_, _, _, fa, hia, ea⟩ := hS x hx
  obtain ⟨_, _, _, fb, hib, eb⟩ := hS y hy
  rw [← ea, ← eb]
  refine u_apart (u_lays (uws_at (args := args) G hW hk) (fun w h => h) hx) (u_lays (uws_at (args := args) G hW hk) (fun w h => h) hy) hia hib ?_
  rw [(State.fieldFound?_type hia (fdc_at hk hx).2.1).1, (State.fieldFound?_type hib (fdc_at hk hy).2.1).1]
  exact (fdc_at hk hy).2.2.2.2 x hx hne
theorem sp_getfield (i : Nat) : SP l s0 a0 τ D cA (.getfield i) 3 := by
  intro μ p e R s m args below meth c Q G F hM pc ls st h q LS H locs cells slots k0 z0 hd ha hl hn hI hc hs h1 h2 kk
  obtain ⟨hμ, hx, hb, hml, hown, hW, hBs, hLow, hfr, hlo, hlk, hrt, hnm, hex⟩ := F
  simp only [act, aGet] at ha
  split at ha
  · next a r =>
    split at ha
    · next k fs he =>
      split at ha
      · next hq =>
        obtain ⟨ht, hk⟩ := hq
        split at ha
        · next v hv =>
          obtain rfl := nx_inj ha
          have hA := hI.1.1 a
          rw [he] at hA
          obtain ⟨hk6, hlen, cell, q1, q2, q3, q4⟩ := hA
          have hj : (lkf (mt μ).2.1 i).2.2.1 < nFd k := by
            rw [← hlen]; exact (List.getElem?_eq_some_iff.mp hv).1
          obtain ⟨-, hw⟩ := okM_e hM (i := i) (by omega)
          have hw1 : lkF (yM μ).cls i (cNm k) (tFd k (lkf (mt μ).2.1 i).2.2.1).2.1 (tFd k (lkf (mt μ).2.1 i).2.2.1).2.2.1 ∈ lw_tbl := hw _ (by unfold wdE; rw [if_pos ht, ← hk]; exact List.mem_cons_self)
          generalize (lkf (mt μ).2.1 i).2.2.1 = j at hj hw1 hv
          obtain ⟨hS, hfc, kC, hkC, hkind⟩ := kn_at G hW hk6
          obtain ⟨cf, kf, fi, f, hi, hsl⟩ := hS j hj
          have hst := (u_facts hfc hkC (u_lays (uws_at (args := args) G hW hk6) (fun w h => h) hj) hi).1
          rw [(fdc_at hk6 hj).1] at hi
          have hsv : cell.slots[f.slot]? = some (tv τ v) := by rw [hsl, q4 j hj, vpV_map hv]
          rcases lkF_at (args := args) G hW hw1 with hlk1 | hlk1
          · exact W.getf hx hb hown hlk1 hi hst q1 (by rw [q3]; exact fun h => by cases h) hsv rfl rfl hd (kk LS H locs cells slots hl hn hI hc hs)
          · exact va_Wgetf hx hb hown hlk1 hi hst q1 (by rw [q3]; exact fun h => by cases h) hsv rfl rfl hd (kk LS H locs cells slots hl hn hI hc hs)
        · cases ha
      · cases ha
    · cases ha
  · cases ha
theorem sp_putfield (i : Nat) : SP l s0 a0 τ D cA (.putfield i) 3 := by
  intro μ p e R s m args below meth c Q G F hM pc ls st h q LS H locs cells slots k0 z0 hd ha hl hn hI hc hs h1 h2 kk
  obtain ⟨hμ, hx, hb, hml, hown, hW, hBs, hLow, hfr, hlo, hlk, hrt, hnm, hex⟩ := F
  simp only [act, aPut] at ha
  split at ha
  · next v a r =>
    split at ha
    · next k fs he =>
      split at ha
      · next hq =>
        obtain ⟨hk, hP⟩ := hq
        obtain rfl := nx_inj ha
        have hA := hI.1.1 a
        rw [he] at hA
        obtain ⟨hk6, hlen, cell, q1, q2, q3, q4⟩ := hA
        unfold okP at hP
        simp only [Bool.and_eq_true, decide_eq_true_eq, Bool.or_eq_true] at hP
        obtain ⟨⟨⟨ht, hj0⟩, hf⟩, hfin⟩ := hP
        have hj : (lkf (mt μ).2.1 i).2.2.1 < nFd k := by rw [← hlen]; exact hj0
        obtain ⟨-, hw⟩ := okM_e hM (i := i) (by omega)
        have hw1 : lkF (yM μ).cls i (cNm k) (tFd k (lkf (mt μ).2.1 i).2.2.1).2.1 (tFd k (lkf (mt μ).2.1 i).2.2.1).2.2.1 ∈ lw_tbl := hw _ (by unfold wdE; rw [if_pos ht, ← hk]; exact List.mem_cons_self)
        generalize (lkf (mt μ).2.1 i).2.2.1 = j at hj hw1 hf hfin hj0 kk
        obtain ⟨hS, hfc, kC, hkC, hkind⟩ := kn_at G hW hk6
        obtain ⟨cf, kf, fi, f, hi, hsl⟩ := hS j hj
        have hlays := u_lays (uws_at (args := args) G hW hk6) (fun w h => h) hj
        have hst := (u_facts hfc hkC hlays hi).1
        obtain ⟨hn1, hn2⟩ := fd_fit τ hk6 hj hf
        have hi' := hi
        rw [(fdc_at hk6 hj).1] at hi'
        have hlt : f.slot < cell.slots.size := by rw [hsl]; exact k2_hasslot (q4 j hj)
        have fin : ∀ (H' : Heap), H'[τ a]? = some (cell.setSlot f.slot (tv τ v)) → H'.size = H.size → (∀ q, q ≠ τ a → H'[q]? = H[q]?) → W p l e R s m args below meth c H' (locs ++ [⟨τ a, f.slot⟩]) cells slots Q (F0 m (pc + 3) LS (r.map (tv τ))) := by
          intro H' e1 e2 e3
          refine kk LS H' _ cells slots hl hn (hI.put τ D cA s0 G.2.1 (by rw [he]; exact fun z => z) ?_ e2 e3) hc hs
          refine ⟨hk6, by rw [List.length_set]; exact hlen, _, e1, q2, q3, ?_⟩
          rw [hsl]
          intro y hy
          rw [t_set q4 (ap_at G hW args hk6) hj (tv τ v) y hy, List.map_set]
          exact congrArg some (vp_updV_set (by rw [List.length_map]; exact hj0) (tv τ v) y)
        by_cases hfb : (fdF k).getD j true = true
        · have hw2 : (lkf (mt μ).2.1 i).1 = 0 ∧ (mt μ).2.2.1.2 = k + 1 := by
            rcases hfin with z | z
            · rw [hfb] at z; cases z
            · exact z
          have hlay := uws_at (args := args) G hW hk6 _ (u_in_lay hj)
          unfold u_lay at hlay
          rw [if_pos ((fdc_at hk6 hj).2.2.1.trans hfb)] at hlay
          have hrk : rkc (mt μ).2.2.1.2 (rtM μ) (yM μ) = true := by
            have := hM
            unfold okM at this
            simp only [Bool.and_eq_true] at this
            exact this.2.2.2.2.2.1
          have hy : (yM μ).name = "<init>" ∧ (yM μ).cls = cNm k := by
            unfold rkc at hrk
            rw [hw2.2] at hrk
            rw [if_neg (by omega), if_neg (by omega), if_neg (by omega), if_neg (by omega), if_neg (by omega), if_neg (by omega)] at hrk
            simp only [Bool.and_eq_true, beq_iff_eq, Nat.add_sub_cancel] at hrk
            exact hrk.2.2.2
          have hcf : m.cls = cf := by
            obtain ⟨_, _, c', _, _, _, -, -, hf', -, -, -, hown2, -⟩ := Cond.laysFinal_spec hlay
            have e1 : c' = cf := by have := hi.symm.trans hf'; simp at this; exact this.1.symm
            rw [(fdc_at hk6 hj).1, ← hy.2] at hown2
            rw [← e1]; exact Option.some.inj (hown.symm.trans hown2)
          have h6 := u_fits hfc hkC hkind hlays hi (fdc_at hk6 hj).2.1 hn1 hn2
          rcases lkF_at (args := args) G hW hw1 with hlk1 | hlk1
          · exact W.putFinK hx hb hown hlk1 hi' hst hcf (hnm.trans hy.1) (by rw [q2]; exact h6) q1 q3 hlt rfl rfl hd fin
          · refine va_Wputf hx hb hown hlk1 hi' hst (Or.inr ⟨hcf, hnm.trans hy.1⟩) q1 (by rw [q3]; exact fun h => by cases h) hlt h6.1 (by rw [q2, q3]; exact h6.2) rfl rfl hd ?_
            have hsz : τ a < H.size := (Array.getElem?_eq_some_iff.mp q1).1
            exact fin _ (by simp [Array.getElem?_setIfInBounds, hsz]) (by simp) (fun q hq => by simp [Array.getElem?_setIfInBounds, Ne.symm hq])
        · have hlay := uws_at (args := args) G hW hk6 _ (u_in_lay hj)
          unfold u_lay at hlay
          rw [if_neg (by rw [(fdc_at hk6 hj).2.2.1]; exact hfb)] at hlay
          have h6 := u_store hfc hkC hkind hlay hi (fdc_at hk6 hj).2.1 hn1 hn2
          rcases lkF_at (args := args) G hW hw1 with hlk1 | hlk1
          · exact W.putK hx hb (f := f) ⟨hown, hlk1, ⟨_, _, _, hi'⟩, hst⟩ (by rw [q2]; exact h6) q1 q3 hlt rfl rfl hd fin
          · exact va_WputK hx hb (f := f) hown hlk1 hi' hst (by rw [q2]; exact h6) q1 q3 hlt rfl rfl hd fin
      · cases ha
    · cases ha
  · cases ha
theorem sp_new (i : Nat) : SP l s0 a0 τ D cA (.new i) 3 := by
  intro μ p e R s m args below meth c Q G F hM pc ls st h q LS H locs cells slots k0 z0 hd ha hl hn hI hc hs h1 h2 kk
  obtain ⟨hμ, hx, hb, hml, hown, hW, hBs, hLow, hfr, hlo, hlk, hrt, hnm, hex⟩ := F
  simp only [act, aNew] at ha
  split at ha
  · next ht =>
    split at ha
    · next hex1 =>
      obtain rfl := nx_inj ha
      obtain ⟨⟨z, x, k1, n1⟩, cc⟩ := h
      simp only at hex1
      subst hex1
      obtain ⟨hck, hw⟩ := okM_e hM (i := i) (by rw [ht]; decide)
      have hk6 : (lkf (mt μ).2.1 i).2.1 < 6 := by
        unfold chkE at hck
        rw [ht] at hck
        simpa using hck
      have hw1 : Cond.classLink (yM μ).cls i (cNm (lkf (mt μ).2.1 i).2.1) ∈ lw_tbl := hw _ (by unfold wdE; rw [ht]; simp)
      generalize (lkf (mt μ).2.1 i).2.1 = k at hk6 hw1 kk h1 h2
      have hKn := kn_at G hW hk6
      have hlen := dfl_len k
      have h1' : k1 + 1 ≤ k0 + R.cells := h1
      have h2' : n1 + (dfl k).length ≤ z0 + R.slots := h2
      have hc' : cells + k0 = k1 := hc
      have hs' : slots + z0 = n1 := hs
      refine W.newcK hx hb hown (wd_at G hW hw1 rfl) (gw_at G hW (gW_cls hk6).1 rfl) (gw_at G hW (gW_cls hk6).2.1 rfl) rfl hd (by omega) (by omega) hKn.2.1 rfl fun H1 kC hkC e1 z1 o1 => ?_
      have hOB := (u_born (yFd k) (uws_at (args := args) G hW hk6) (fun w h => h) hKn hkC e1 (fun j hj => (fdc_at hk6 hj).2.1)).to (V' := vp_V ((dfl k).map (tv τ))) (fun j hj => by rw [dfl_tv]; exact dfl_at hk6 hj)
      obtain ⟨g1, g2⟩ := hI.push (b := true) (k2 := k1 + 1) (n2 := n1 + (dfl k).length) (x := cO k (dfl k)) G.2.1 ⟨hk6, hlen, hOB⟩ z1 o1
      have := kk LS H1 locs (cells + 1) (slots + nFd k) hl hn g2 (show cells + 1 + k0 = k1 + 1 by omega) (show slots + nFd k + z0 = n1 + (dfl k).length by omega)
      rw [g1]
      exact this
    · cases ha
  · split at ha
    · cases ha
    · cases ha
theorem sp_newI : SP l s0 a0 τ D cA (.newarray .int) 2 := by
  intro μ p e R s m args below meth c Q G F hM pc ls st h q LS H locs cells slots k0 z0 hd ha hl hn hI hc hs h1 h2 kk
  obtain ⟨hμ, hx, hb, hml, hown, hW, hBs, hLow, hfr, hlo, hlk, hrt, hnm, hex⟩ := F
  simp only [act, aNewI, reduceCtorEq, if_true, if_false] at ha
  split at ha
  · next n r =>
    split at ha
    · next hq =>
      obtain ⟨hn0, hn1, hex1⟩ := hq
      obtain rfl := nx_inj ha
      obtain ⟨⟨z, x, k1, n1⟩, cc⟩ := h
      simp only at hex1
      subst hex1
      have h1' : k1 + 1 ≤ k0 + R.cells := h1
      have h2' : n1 + n.toNatClampNeg ≤ z0 + R.slots := h2
      have hc' : cells + k0 = k1 := hc
      have hs' : slots + z0 = n1 := hs
      refine va_newaK (atype := .int) hx hb (gw_at G hW (w := .arrayClass .int) (List.mem_append_right _ (by simp)) rfl) rfl hd rfl hn0 rfl (Nat.le_trans (Nat.mul_le_mul_right _ hn1) (Nat.le_of_ble_eq_true rfl)) (by omega) (by omega) rfl fun H1 cA1 e1 z1 o1 hAr hNm => ?_
      have hcA : cA1 = cA 0 := by
        have g := G.2.2.2.1.2
        rw [hW.alike.findClass] at hNm
        exact Option.some.inj (hNm.symm.trans g)
      obtain ⟨g1, g2⟩ := hI.push (b := true) (k2 := k1 + 1) (n2 := n1 + n.toNatClampNeg) (x := cI n.toNatClampNeg (fun _ => 0)) G.2.1 (show H1[H.size]? = _ from e1.trans (by rw [hcA]; rfl)) z1 o1
      have := kk LS H1 locs (cells + 1) (slots + n.toNatClampNeg) hl hn g2 (show cells + 1 + k0 = k1 + 1 by omega) (show slots + n.toNatClampNeg + z0 = n1 + n.toNatClampNeg by omega)
      rw [g1]
      exact this
    · cases ha
  · cases ha
theorem sp_newJ : SP l s0 a0 τ D cA (.newarray .long) 2 := by
  intro μ p e R s m args below meth c Q G F hM pc ls st h q LS H locs cells slots k0 z0 hd ha hl hn hI hc hs h1 h2 kk
  obtain ⟨hμ, hx, hb, hml, hown, hW, hBs, hLow, hfr, hlo, hlk, hrt, hnm, hex⟩ := F
  simp only [act, aNewJ, reduceCtorEq, if_true, if_false] at ha
  split at ha
  · next n r =>
    split at ha
    · next hq =>
      obtain ⟨hn0, hn1, hex1⟩ := hq
      obtain rfl := nx_inj ha
      obtain ⟨⟨z, x, k1, n1⟩, cc⟩ := h
      simp only at hex1
      subst hex1
      have h1' : k1 + 1 ≤ k0 + R.cells := h1
      have h2' : n1 + n.toNatClampNeg ≤ z0 + R.slots := h2
      have hc' : cells + k0 = k1 := hc
      have hs' : slots + z0 = n1 := hs
      refine va_newaK (atype := .long) hx hb (gw_at G hW (w := .arrayClass .long) (List.mem_append_right _ (by simp)) rfl) rfl hd rfl hn0 rfl (Nat.le_trans (Nat.mul_le_mul_right _ hn1) (Nat.le_of_ble_eq_true rfl)) (by omega) (by omega) rfl fun H1 cA1 e1 z1 o1 hAr hNm => ?_
      have hcA : cA1 = cA 1 := by
        have g := G.2.2.2.2.1.2
        rw [hW.alike.findClass] at hNm
        exact Option.some.inj (hNm.symm.trans g)
      obtain ⟨g1, g2⟩ := hI.push (b := true) (k2 := k1 + 1) (n2 := n1 + n.toNatClampNeg) (x := cL n.toNatClampNeg (fun _ => 0)) G.2.1 (show H1[H.size]? = _ from e1.trans (by rw [hcA]; rfl)) z1 o1
      have := kk LS H1 locs (cells + 1) (slots + n.toNatClampNeg) hl hn g2 (show cells + 1 + k0 = k1 + 1 by omega) (show slots + n.toNatClampNeg + z0 = n1 + n.toNatClampNeg by omega)
      rw [g1]
      exact this
    · cases ha
  · cases ha
theorem gW_ao {t : Nat} (h : okA t = true) : Cond.arrayOver (.object (cNm t)) ∈ gW := by
  unfold okA at h
  simp only [Bool.or_eq_true, beq_iff_eq] at h
  rcases h with rfl | rfl | rfl
  · exact List.mem_append_right _ (by simp [cNm])
  · exact List.mem_append_right _ (by simp [cNm])
  · exact List.mem_append_right _ (by simp [cNm])
theorem okA_lt {t : Nat} (h : okA t = true) : t < 6 := by
  unfold okA at h
  simp only [Bool.or_eq_true, beq_iff_eq] at h
  omega
theorem sp_anewarray (i : Nat) : SP l s0 a0 τ D cA (.anewarray i) 3 := by
  intro μ p e R s m args below meth c Q G F hM pc ls st h q LS H locs cells slots k0 z0 hd ha hl hn hI hc hs h1 h2 kk
  obtain ⟨hμ, hx, hb, hml, hown, hW, hBs, hLow, hfr, hlo, hlk, hrt, hnm, hex⟩ := F
  simp only [act, aNewR] at ha
  split at ha
  · next n r =>
    split at ha
    · next hq =>
      obtain ⟨ht, hA, hn0, hn1, hex1⟩ := hq
      obtain rfl := nx_inj ha
      obtain ⟨⟨z, x, k1, n1⟩, cc⟩ := h
      simp only at hex1
      subst hex1
      obtain ⟨-, hw⟩ := okM_e hM (i := i) (by rw [ht]; decide)
      have hw1 : Cond.classLink (yM μ).cls i (cNm (lkf (mt μ).2.1 i).2.1) ∈ lw_tbl := hw _ (by unfold wdE; rw [ht]; simp)
      generalize (lkf (mt μ).2.1 i).2.1 = t at hA hw1 kk h1 h2
      have h1' : k1 + 1 ≤ k0 + R.cells := h1
      have h2' : n1 + n.toNatClampNeg ≤ z0 + R.slots := h2
      have hc' : cells + k0 = k1 := hc
      have hs' : slots + z0 = n1 := hs
      have hao : (Cond.arrayOver (.object (cNm t))).before args s = true := va_AO.use (va_AO.moved hW.alike (va_AO.of (G.1 _ (gW_mem (gW_ao hA)))))
      refine W.anew hx hb hown (wd_at G hW hw1 rfl) hao rfl hd rfl hn0 (Nat.le_trans (Nat.mul_le_mul_right _ hn1) (Nat.le_of_ble_eq_true rfl)) (by omega) (by omega) fun cA1 kA comp f1 f2 f3 f4 => ?_
      have hcA : cA1 = cA (2 + t) := by
        obtain ⟨-, -, -, -, -, g⟩ := (G.2.2.2.2.2.1 t hA).2
        rw [hW.alike.findClass] at f1
        exact Option.some.inj (f1.symm.trans g)
      have e1 : (H.push { cls := cA1, slots := Array.replicate n.toNatClampNeg .null, vm := .none })[H.size]? = some (arrV (cA (2 + t)) n.toNatClampNeg (fun j => tv τ (va_rf ((fun _ => none : Nat → Option Nat) j)))) := by
        rw [hcA, arrV_new]
        simp
        rfl
      obtain ⟨g1, g2⟩ := hI.push (b := true) (k2 := k1 + 1) (n2 := n1 + n.toNatClampNeg) (x := cR t n.toNatClampNeg (fun _ => none)) G.2.1 ⟨hA, e1⟩ (by simp) (fun q hq => by rw [Array.getElem?_push, if_neg (Nat.ne_of_lt hq)])
      have := kk LS _ locs (cells + 1) (slots + n.toNatClampNeg) hl hn g2 (show cells + 1 + k0 = k1 + 1 by omega) (show slots + n.toNatClampNeg + z0 = n1 + n.toNatClampNeg by omega)
      rw [g1]
      exact this
    · cases ha
  · cases ha
theorem nR {x : VmData} (h : x = .none) : x ≠ .unknown := by rw [h]; exact fun q => by cases q
theorem sp_iaload : SP l s0 a0 τ D cA (.iaload) 1 := by
  intro μ p e R s m args below meth c Q G F hM pc ls st h q LS H locs cells slots k0 z0 hd ha hl hn hI hc hs h1 h2 kk
  obtain ⟨hμ, hx, hb, hml, hown, hW, hBs, hLow, hfr, hlo, hlk, hrt, hnm, hex⟩ := F
  simp only [act, aIld] at ha
  split at ha
  · next i a r =>
    split at ha
    · next n f he =>
      split at ha
      · next hi =>
        obtain rfl := nx_inj ha
        have hA := hI.1.1 a
        rw [he] at hA
        exact W.iald (v := .int (f i.toNatClampNeg)) hx hb hA (arrOfT_moved hW.alike G.2.2.2.1.1 _ _) (fun q => by cases q) (by rw [arrV_size]; exact inB_of hi) (by rw [arrV_read _ _ (inB_lt hi)]) rfl rfl hd (kk LS H locs cells slots hl hn hI hc hs)
      · cases ha
    · next n f he =>
      split at ha
      · next hi =>
        obtain rfl := nx_inj ha
        have hA := hI.1.1 a
        rw [he] at hA
        obtain ⟨scr, x1, x2, x3, x4, -, x5⟩ := hA
        exact W.iald (v := .int (f i.toNatClampNeg)) hx hb x1 (State.isArrayOf_alike hW.alike x2) x3 (fun z => inB_of hi (z.imp_right (fun z2 => Nat.le_trans x4 z2))) (x5 _ (inB_lt hi)) rfl rfl hd (kk LS H locs cells slots hl hn hI hc hs)
      · cases ha
    · cases ha
  · cases ha
theorem sp_laload : SP l s0 a0 τ D cA (.laload) 1 := by
  intro μ p e R s m args below meth c Q G F hM pc ls st h q LS H locs cells slots k0 z0 hd ha hl hn hI hc hs h1 h2 kk
  obtain ⟨hμ, hx, hb, hml, hown, hW, hBs, hLow, hfr, hlo, hlk, hrt, hnm, hex⟩ := F
  simp only [act, aJld] at ha
  split at ha
  · next i a r =>
    split at ha
    · next n f he =>
      split at ha
      · next hi =>
        obtain rfl := nx_inj ha
        have hA := hI.1.1 a
        rw [he] at hA
        exact W.lald (v := .long (f i.toNatClampNeg)) hx hb hA (arrOfT_moved hW.alike G.2.2.2.2.1.1 _ _) (fun q => by cases q) (by rw [arrV_size]; exact inB_of hi) (by rw [arrV_read _ _ (inB_lt hi)]) rfl rfl hd (kk LS H locs cells slots hl hn hI hc hs)
      · cases ha
    · cases ha
  · cases ha
theorem sp_aaload : SP l s0 a0 τ D cA (.aaload) 1 := by
  intro μ p e R s m args below meth c Q G F hM pc ls st h q LS H locs cells slots k0 z0 hd ha hl hn hI hc hs h1 h2 kk
  obtain ⟨hμ, hx, hb, hml, hown, hW, hBs, hLow, hfr, hlo, hlk, hrt, hnm, hex⟩ := F
  simp only [act, aAld] at ha
  split at ha
  · next i a r =>
    split at ha
    · next t n f he =>
      split at ha
      · next hi =>
        obtain rfl := nx_inj ha
        have hA := hI.1.1 a
        rw [he] at hA
        exact W.aald (v := tv τ (va_rf (f i.toNatClampNeg))) (ty := .object (cNm t)) hx hb hA.2 (arrOfT_moved hW.alike (G.2.2.2.2.2.1 t hA.1).1 _ _) rfl (fun q => by cases q) (by rw [arrV_size]; exact inB_of hi) (by rw [arrV_read _ _ (inB_lt hi)]) rfl rfl hd (kk LS H locs cells slots hl hn hI hc hs)
      · cases ha
    · cases ha
  · cases ha
theorem sp_alen : SP l s0 a0 τ D cA (.arraylength) 1 := by
  intro μ p e R s m args below meth c Q G F hM pc ls st h q LS H locs cells slots k0 z0 hd ha hl hn hI hc hs h1 h2 kk
  obtain ⟨hμ, hx, hb, hml, hown, hW, hBs, hLow, hfr, hlo, hlk, hrt, hnm, hex⟩ := F
  simp only [act, aLen] at ha
  split at ha
  · next a r =>
    split at ha
    · next n f he =>
      obtain rfl := nx_inj ha
      have hA := hI.1.1 a
      rw [he] at hA
      exact W.alen (n := nI n) hx hb hA (arrOfT_moved hW.alike G.2.2.2.1.1 _ _) (by rw [arrV_size]; rfl) rfl rfl hd (kk LS H locs cells slots hl hn hI hc hs)
    · next t n f he =>
      obtain rfl := nx_inj ha
      have hA := hI.1.1 a
      rw [he] at hA
      exact W.alen (n := nI n) hx hb hA.2 (arrOfT_moved hW.alike (G.2.2.2.2.2.1 t hA.1).1 _ _) (by rw [arrV_size]; rfl) rfl rfl hd (kk LS H locs cells slots hl hn hI hc hs)
    · next n f he =>
      obtain rfl := nx_inj ha
      have hA := hI.1.1 a
      rw [he] at hA
      exact W.alen (n := nI n) hx hb hA (arrOfT_moved hW.alike G.2.2.2.2.1.1 _ _) (by rw [arrV_size]; rfl) rfl rfl hd (kk LS H locs cells slots hl hn hI hc hs)
    · next n f he =>
      obtain rfl := nx_inj ha
      have hA := hI.1.1 a
      rw [he] at hA
      obtain ⟨scr, x1, x2, x3, x4, x6, x5⟩ := hA
      exact W.alen (n := nI n) hx hb x1 (State.isArrayOf_alike hW.alike x2) x6 rfl rfl hd (kk LS H locs cells slots hl hn hI hc hs)
    · cases ha
  · cases ha
theorem upd_v (f : Nat → Int32) (k : Nat) (x : Int32) : updV (fun j => Value.int (f j)) k (.int x) = fun j => .int (upd f k x j) := by
  funext j
  unfold updV upd
  by_cases h : j = k
  · rw [if_pos h, if_pos h]
  · rw [if_neg h, if_neg h]
theorem upd_l (f : Nat → Int64) (k : Nat) (x : Int64) : updV (fun j => Value.long (f j)) k (.long x) = fun j => .long (vp_updL f k x j) := by
  funext j
  unfold updV vp_updL
  by_cases h : j = k
  · rw [if_pos h, if_pos h]
  · rw [if_neg h, if_neg h]
theorem upd_r (τ : Nat → Nat) (f : Nat → Option Nat) (k v : Nat) : updV (fun j => tv τ (va_rf (f j))) k (.ref (τ v)) = fun j => tv τ (va_rf (va_up f k (some v) j)) := by
  funext j
  unfold updV va_up
  by_cases h : j = k
  · rw [if_pos h, if_pos h]
    rfl
  · rw [if_neg h, if_neg h]
theorem sp_iastore : SP l s0 a0 τ D cA (.iastore) 1 := by
  intro μ p e R s m args below meth c Q G F hM pc ls st h q LS H locs cells slots k0 z0 hd ha hl hn hI hc hs h1 h2 kk
  obtain ⟨hμ, hx, hb, hml, hown, hW, hBs, hLow, hfr, hlo, hlk, hrt, hnm, hex⟩ := F
  simp only [act, aIst] at ha
  split at ha
  · next x i a r =>
    split at ha
    · next n f he =>
      split at ha
      · next hi =>
        obtain rfl := nx_inj ha
        have hA := hI.1.1 a
        rw [he] at hA
        refine W.iast hx hb hA (arrOfT_moved hW.alike G.2.2.2.1.1 _ _) (fun q => by cases q) (by rw [arrV_size]; exact inB_of hi) rfl rfl hd fun H1 e1 e2 e3 => ?_
        refine kk LS H1 _ cells slots hl hn (hI.put τ D cA s0 G.2.1 (by rw [he]; exact fun z => z) ?_ e2 e3) hc hs
        rw [arrV_store, upd_v] at e1
        exact e1
      · cases ha
    · cases ha
  · cases ha
theorem sp_lastore : SP l s0 a0 τ D cA (.lastore) 1 := by
  intro μ p e R s m args below meth c Q G F hM pc ls st h q LS H locs cells slots k0 z0 hd ha hl hn hI hc hs h1 h2 kk
  obtain ⟨hμ, hx, hb, hml, hown, hW, hBs, hLow, hfr, hlo, hlk, hrt, hnm, hex⟩ := F
  simp only [act, aJst] at ha
  split at ha
  · next x i a r =>
    split at ha
    · next n f he =>
      split at ha
      · next hi =>
        obtain rfl := nx_inj ha
        have hA := hI.1.1 a
        rw [he] at hA
        refine W.last hx hb hA (arrOfT_moved hW.alike G.2.2.2.2.1.1 _ _) (fun q => by cases q) (by rw [arrV_size]; exact inB_of hi) rfl rfl hd fun H1 e1 e2 e3 => ?_
        refine kk LS H1 _ cells slots hl hn (hI.put τ D cA s0 G.2.1 (by rw [he]; exact fun z => z) ?_ e2 e3) hc hs
        rw [arrV_store, upd_l] at e1
        exact e1
      · cases ha
    · cases ha
  · cases ha
theorem sp_aastore : SP l s0 a0 τ D cA (.aastore) 1 := by
  intro μ p e R s m args below meth c Q G F hM pc ls st h q LS H locs cells slots k0 z0 hd ha hl hn hI hc hs h1 h2 kk
  obtain ⟨hμ, hx, hb, hml, hown, hW, hBs, hLow, hfr, hlo, hlk, hrt, hnm, hex⟩ := F
  simp only [act, aAst] at ha
  split at ha
  · next v i a r =>
    split at ha
    · next t n f he =>
      split at ha
      · next k fs hv =>
        split at ha
        · next hq =>
          obtain ⟨hi, hkt⟩ := hq
          subst hkt
          obtain rfl := nx_inj ha
          have hA := hI.1.1 a
          rw [he] at hA
          have hV := hI.1.1 v
          rw [hv] at hV
          obtain ⟨hk6, hlen, cellV, g1, g2, g3, -⟩ := hV
          have hcls := (kn_at G hW hk6).2
          obtain ⟨kA, comp, k1, k2, k3, -⟩ := va_RA.moved hW.alike (G.2.2.2.2.2.1 k hA.1).2
          have hcomp : comp = D.1 k := Option.some.inj (k3.symm.trans hcls.1)
          subst hcomp
          obtain ⟨kC, hkC, -⟩ := hcls.2
          refine W.aast hx hb hA.2 (fun q h => by cases h) (fun h => by cases h) k1 k2 rfl hkC ⟨fun q => inB_of hi (Or.inl q), by rw [arrV_size]; exact inB_lt hi⟩ g1 (fun q h => by rw [g3] at h; cases h) (by rw [g2]; exact hkC) (by rw [g2]; exact va_assign hcls) rfl rfl hd fun H1 e1 e2 e3 => ?_
          refine kk LS H1 _ cells slots hl hn (hI.put τ D cA s0 G.2.1 (by rw [he]; exact fun z => z) ?_ e2 e3) hc hs
          rw [arrV_store, upd_r] at e1
          exact ⟨hA.1, e1⟩
        · cases ha
      · cases ha
    · cases ha
  · cases ha
theorem sp_getstatic (i : Nat) : SP l s0 a0 τ D cA (.getstatic i) 3 := by
  intro μ p e R s m args below meth c Q G F hM pc ls st h q LS H locs cells slots k0 z0 hd ha hl hn hI hc hs h1 h2 kk
  obtain ⟨hμ, hx, hb, hml, hown, hW, hBs, hLow, hfr, hlo, hlk, hrt, hnm, hex⟩ := F
  simp only [act] at ha
  split at ha
  · next ht =>
    obtain rfl := nx_inj ha
    obtain ⟨-, hw⟩ := okM_e hM (i := i) (by rw [ht]; decide)
    have hw1 : Cond.fieldLink (yM μ).cls i RX4 "WIDTHS" "[I" ∈ lw_tbl := hw _ (by unfold wdE; rw [ht]; simp)
    obtain ⟨cf, kf, fi, f, a, cell, z1, z2, z3, z4, z5, z6, z7, z8⟩ := va_Z.moved hW.alike G.2.2.2.2.2.2.1
    have hlt : a < s0.heap.size := (Array.getElem?_eq_some_iff.mp z5).1
    exact W.gets hx hb hown (wd_at G hW hw1 rfl) z1 z2 z3 z4 ((hI.2.2.1 a hlt).trans z5) (fun e => by rw [e] at z6; cases z6) z7 rfl hd (kk LS H locs cells slots hl hn hI hc hs)
  · cases ha
theorem min_sw (x y : Int32) : (if y < x then y else x) = if x < y then x else y := by
  by_cases h1 : x < y
  · have h2 : ¬ y < x := by
      rw [Int32.lt_iff_toInt_lt] at h1 ⊢
      omega
    rw [if_neg h2, if_pos h1]
  · rw [if_neg h1]
    by_cases h2 : y < x
    · rw [if_pos h2]
    · rw [if_neg h2]
      apply Int32.toInt_inj.mp
      rw [Int32.lt_iff_toInt_lt] at h1 h2
      omega
theorem catS_le {τ : Nat → Nat} {r : List Value} {n : Nat} (h : catS r ≤ n) : ((r.map (tv τ)).map fun v => v.category).sum ≤ n := by rw [tv_map_cat]; exact h
/-- System.arraycopy of ints, with all that stays -/
theorem acpy_W {cc : ByteArray} {ls : Array Slot} {pc : Nat} {rest : List Value} (hexec : p.tables.exec = Jvm.exec) (hb : c.code = cc) (hml : c.maxLocals = ls.size) {own : String} {index : Nat} (hown : s.vm.findClass own = some m.cls) (hlink : (Cond.methodLink own index arraycopyName).before args s = true) (hnat : (Cond.native arraycopyName).before args s = true) (hstat : (Cond.static arraycopyName).before args s = true) (hini : (Cond.initialized "java/lang/System").before args s = true)
    {cI : ClassId} (hArr : ArrOfT s cI .int) {a a0 : Nat} {n0 n1 : Nat} {f g : Nat → Int32} (hc0 : H[a0]? = some (arrV cI n0 (fun j => .int (f j)))) (hc1 : H[a]? = some (arrV cI n1 (fun j => .int (g j))))
    {sp dp n : Int32} (h1 : ¬ sp < 0) (h2 : ¬ dp < 0) (h3 : ¬ n < 0) (h4 : sp.toNatClampNeg + n.toNatClampNeg ≤ n0) (h5 : dp.toNatClampNeg + n.toNatClampNeg ≤ n1)
    (hframes : 1 ≤ R.frames) (hlocals : (rest.map fun v => v.category).sum + (nativeFrameWords "java/lang/System" "arraycopy" 5 + 11) ≤ R.locals) (hdg : decode cc pc = .ok (.invokestatic index, 3))
    (kk : ∀ (H1 : Heap) (locs1 : List Loc), H1[a]? = some (arrV cI n1 (fun j => .int (va_cpy f g sp.toNatClampNeg dp.toNatClampNeg n.toNatClampNeg j))) → H1.size = H.size → (∀ q, q ≠ a → H1[q]? = H[q]?) → (∀ z ∈ locs1, z ∈ locs ∨ z.base = a) → W p l e R s m args below meth c H1 locs1 cells slots Q (F0 m (pc + 3) ls rest)) : W p l e R s m args below meth c H locs cells slots Q (F0 m pc ls (.int n :: .int dp :: .ref a :: .int sp :: .ref a0 :: rest)) := by
  have nn : ∀ z : Int32, ¬ z < 0 → z.toInt = (z.toNatClampNeg : Int) := by
    intro z hz
    have hz0 : (0 : Int) ≤ z.toInt := by
      have := Int32.not_lt.mp hz
      simpa using Int32.le_iff_toInt_le.mp this
    show z.toInt = ((z.toInt.toNat : Nat) : Int)
    omega
  intro T hT X
  have hc0 : H[a0]? = some (vp_cell cI (n0, .inl f)) := hc0
  have hc1 : H[a]? = some (vp_cell cI (n1, .inl g)) := hc1
  obtain ⟨-, k0, hk0, cm0, hkk0⟩ := hArr n0 (fun j => .int (f j))
  obtain ⟨-, k1, hk1, cm1, hkk1⟩ := hArr n1 (fun j => .int (g j))
  obtain ⟨vm', X', step⟩ := X.arraycopy hexec hown hlink hnat hstat hini (src := a0) (dst := a) (cs := vp_cell cI (n0, .inl f)) (cd := vp_cell cI (n1, .inl g)) (srcPos := sp) (destPos := dp) (n := n) (by rw [hT]; exact hc0) (by rw [hT]; exact hc1)
    (fun _ h => by cases h) (fun _ h => by cases h) (fun h => by cases h) (fun h => by cases h) hk0 hk1 hkk0 hkk1 (by rfl) h1 h2 h3
    (by rw [nn sp h1, nn n h3]; show ¬ _ > ((arrV cI n0 (fun j => .int (f j))).slots.size : Int); rw [arrV_size]; omega)
    (by rw [nn dp h2, nn n h3]; show ¬ _ > ((arrV cI n1 (fun j => .int (g j))).slots.size : Int); rw [arrV_size]; omega)
    (fun vm₁ _ i hi => by
      have e : (vp_cell cI (n0, .inl f)).slots.getD (sp.toNatClampNeg + i) .null = .int (f (sp.toNatClampNeg + i)) := by
        show (arrV cI n0 (fun j => .int (f j))).slots.getD _ _ = _
        rw [Array.getD_eq_getD_getElem?, arrV_read _ _ (by omega)]
        rfl
      refine ⟨?_, ?_⟩
      · rw [e]
        rfl
      · rw [e]
        exact trivial)
    (g := F0 m pc ls (.int n :: .int dp :: .ref a :: .int sp :: .ref a0 :: rest)) rfl (by rw [hml]) (rest := rest) rfl (by rw [hb]; exact hdg) hframes (by show 2 * 0 + _ + _ ≤ _; omega)
  have e1 : copied (vp_cell cI (n0, .inl f)) (vp_cell cI (n1, .inl g)) sp dp n = vp_cell cI (n1, .inl (va_cpy f g sp.toNatClampNeg dp.toNatClampNeg n.toNatClampNeg)) := va_copied (fun z => .int z) cI cI f g h4
  rw [e1] at X' step
  have hl : a < H.size := (Array.getElem?_eq_some_iff.mp hc1).1
  have hheap : ((T.setVm vm').setCell a (vp_cell cI (n1, .inl (va_cpy f g sp.toNatClampNeg dp.toNatClampNeg n.toNatClampNeg)))).heap = H.setIfInBounds a (vp_cell cI (n1, .inl (va_cpy f g sp.toNatClampNeg dp.toNatClampNeg n.toNatClampNeg))) := by rw [← hT]; rfl
  obtain ⟨t, a1, b1⟩ := kk _ _ (by rw [show arrV cI n1 (fun j => .int (va_cpy f g sp.toNatClampNeg dp.toNatClampNeg n.toNatClampNeg j)) = vp_cell cI (n1, .inl (va_cpy f g sp.toNatClampNeg dp.toNatClampNeg n.toNatClampNeg)) from rfl]; simp [Array.getElem?_setIfInBounds, hl]) (by simp) (fun q hq => by simp [Array.getElem?_setIfInBounds, Ne.symm hq]) (fun q hq => by
      rcases List.mem_append.mp hq with h | h
      · exact Or.inl h
      · obtain ⟨z, -, hz⟩ := List.mem_map.mp h
        exact Or.inr (by rw [← hz])) _ hheap X'
  exact ⟨t, step t a1, b1⟩
theorem sp_invokestaticN (i : Nat) : SP l s0 a0 τ D cA (.invokestatic i) 3 := by
  intro μ p e R s m args below meth c Q G F hM pc ls st h q LS H locs cells slots k0 z0 hd ha hl hn hI hc hs h1 h2 kk
  obtain ⟨hμ, hx, hb, hml, hown, hW, hBs, hLow, hfr, hlo, hlk, hrt, hnm, hex⟩ := F
  simp only [act, aSta] at ha
  split at ha
  · unfold cal at ha
    split at ha <;> cases ha
  · split at ha
    · next ht3 ht =>
      obtain ⟨hck, hw⟩ := okM_e hM (i := i) (by rw [ht]; decide)
      have hw1 : Cond.methodLink (yM μ).cls i (natN (lkf (mt μ).2.1 i).2.1) ∈ lw_tbl := hw _ (by unfold wdE; rw [ht]; simp)
      have hck1 : 1 ≤ (rmM μ).1 ∧ (26 ≤ (rmM μ).2 ∨ ((lkf (mt μ).2.1 i).2.1 ≤ 1 ∧ 21 ≤ (rmM μ).2)) := by
        unfold chkE at hck
        rw [ht] at hck
        simpa using hck
      generalize (lkf (mt μ).2.1 i).2.1 = t at hck1 hw1 ha
      split at ha
      · next h0 =>
        subst h0
        split at ha
        · next y x r =>
          split at ha
          · next hr =>
            obtain rfl := nx_inj ha
            have hr' := catS_le (τ := τ) hr
            have h1' : h.1.2.2.1 ≤ k0 + R.cells := h1
            have h2' : h.1.2.2.2 ≤ z0 + R.slots := h2
            have hls : c.maxLocals = LS.size := by rw [hml, ← hn]; exact hl.1.symm
            refine va_mmax hx hb hls hown (wd_at G hW hw1 rfl) (gw_at G hW (w := .static Lib.Math.max.name) (List.mem_append_right _ (by simp)) rfl) (gw_at G hW (w := .initialized "java/lang/Math") (List.mem_append_right _ (by simp)) rfl) (gw_at G hW (w := .code Lib.Math.max.name Lib.Math.max.code 2 (some .int)) (List.mem_append_right _ (by simp)) rfl) (by omega) (by omega) (by omega) (by omega) hd (kk LS H locs cells slots hl hn hI hc hs)
          · cases ha
        · cases ha
      · split at ha
        · next h0 =>
          subst h0
          split at ha
          · next y x r =>
            split at ha
            · next hr =>
              obtain rfl := nx_inj ha
              have hr' := catS_le (τ := τ) hr
              have h1' : h.1.2.2.1 ≤ k0 + R.cells := h1
              have h2' : h.1.2.2.2 ≤ z0 + R.slots := h2
              have hls : c.maxLocals = LS.size := by rw [hml, ← hn]; exact hl.1.symm
              refine va_mmin hx hb hls hown (wd_at G hW hw1 rfl) (gw_at G hW (w := .static Lib.Math.min.name) (List.mem_append_right _ (by simp)) rfl) (gw_at G hW (w := .initialized "java/lang/Math") (List.mem_append_right _ (by simp)) rfl) (gw_at G hW (w := .code Lib.Math.min.name Lib.Math.min.code 2 (some .int)) (List.mem_append_right _ (by simp)) rfl) (by omega) (by omega) (by omega) (by omega) hd ?_
              rw [min_sw]
              exact (kk LS H locs cells slots hl hn hI hc hs)
            · cases ha
          · cases ha
        · next h00 h01 =>
          unfold aCpy at ha
          split at ha
          · next n dp d sp sq r =>
            split at ha
            · next n0 f hes =>
              split at ha
              · next n1 g hed =>
                split at ha
                · next hq =>
                  obtain ⟨hr, y1, y2, y3, y4, y5⟩ := hq
                  obtain rfl := nx_inj ha
                  have hr' := catS_le (τ := τ) hr
                  have hls : c.maxLocals = LS.size := by rw [hml, ← hn]; exact hl.1.symm
                  have hnat : natN t = arraycopyName := by unfold natN; rw [if_neg h00, if_neg h01]
                  rw [hnat] at hw1
                  have hA := hI.1.1 sq
                  rw [hes] at hA
                  have hB := hI.1.1 d
                  rw [hed] at hB
                  refine acpy_W hx hb hls hown (wd_at G hW hw1 rfl) (gw_at G hW (w := .native arraycopyName) (List.mem_append_right _ (by simp)) rfl) (gw_at G hW (w := .static arraycopyName) (List.mem_append_right _ (by simp)) rfl) (gw_at G hW (w := .initialized "java/lang/System") (List.mem_append_right _ (by simp)) rfl) (arrOfT_moved hW.alike G.2.2.2.1.1) hA hB y1 y2 y3 y4 y5 (by omega) (by show _ + (7 + 11) ≤ _; omega) hd fun H1 locs1 e1 e2 e3 e4 => ?_
                  refine kk LS H1 locs1 cells slots hl hn ?_ hc hs
                  have hP := hI.put τ D cA s0 (x := cI n1 (va_cpy f g sp.toNatClampNeg dp.toNatClampNeg n.toNatClampNeg)) (k := 0) G.2.1 (by rw [hed]; exact fun z => z) e1 e2 e3
                  refine ⟨hP.1, hP.2.1, hP.2.2.1, fun z hz => ?_⟩
                  rcases e4 z hz with h9 | h9
                  · exact hI.2.2.2 z h9
                  · rw [h9]
                    exact hP.2.2.2 ⟨τ d, 0⟩ (by simp)
                · cases ha
              · cases ha
            · cases ha
          · cases ha
    · cases ha
theorem sp_objinit (i : Nat) : SP l s0 a0 τ D cA (.invokespecial i) 3 := by
  intro μ p e R s m args below meth c Q G F hM pc ls st h q LS H locs cells slots k0 z0 hd ha hl hn hI hc hs h1 h2 kk
  obtain ⟨hμ, hx, hb, hml, hown, hW, hBs, hLow, hfr, hlo, hlk, hrt, hnm, hex⟩ := F
  simp only [act, aSpc] at ha
  split at ha
  · unfold cal at ha
    split at ha <;> cases ha
  · split at ha
    · next ht3 ht =>
      split at ha
      · next a =>
        obtain rfl := nx_inj ha
        obtain ⟨hck, hw⟩ := okM_e hM (i := i) (by rw [ht]; decide)
        have hw1 : Cond.methodLink (yM μ).cls i Lib.objectInit ∈ lw_tbl := hw _ (by unfold wdE; rw [ht]; simp)
        have hck1 : 1 ≤ (rmM μ).1 ∧ 12 ≤ (rmM μ).2 := by
          unfold chkE at hck
          rw [ht] at hck
          simpa using hck
        have hls : LS.size = c.maxLocals := by rw [hml, ← hn]; exact hl.1
        exact W.objInit hx hb hown (wd_at G hW hw1 rfl) (gw_at G hW (w := .instanceMethod Lib.objectInit) (List.mem_append_right _ (by simp)) rfl) (gw_at G hW (w := .code Lib.objectInit ⟨#[0xb1]⟩ 1 none) (List.mem_append_right _ (by simp)) rfl) (g := F0 m pc LS [.ref (τ a)]) rfl hls rfl hd (by omega) (by show 2 * 0 + 0 + 12 ≤ _; omega) (kk LS H locs cells slots hl hn hI hc hs)
      · cases ha
    · cases ha
end SND
