/-! ONE ROW AN INSTRUCTION: from the point behind it to the point ahead of it -/
section XR
variable {M : MI} {pc : Nat} {ls : VLs} {st : List Value} {h : VH} {Q : (Option Value ⊕ Nat) → VH → Prop}
theorem act_getfield (i : Nat) {len : Nat} : act M (.getfield i) len pc ls st h = aGet (lkf M.2.1 i) pc ls st h := rfl
theorem act_putfield (i : Nat) {len : Nat} : act M (.putfield i) len pc ls st h = aPut M.2.2.1.2 (lkf M.2.1 i) pc ls st h := rfl
theorem act_new (i : Nat) {len : Nat} : act M (.new i) len pc ls st h = aNew M (lkf M.2.1 i) pc ls st h := rfl
theorem act_newI {len : Nat} : act M (.newarray .int) len pc ls st h = aNewI pc ls st h := rfl
theorem act_newJ {len : Nat} : act M (.newarray .long) len pc ls st h = aNewJ pc ls st h := rfl
theorem act_anew (i : Nat) {len : Nat} : act M (.anewarray i) len pc ls st h = aNewR (lkf M.2.1 i) pc ls st h := rfl
theorem act_alen {len : Nat} : act M (.arraylength) len pc ls st h = aLen pc ls st h := rfl
theorem act_iald {len : Nat} : act M (.iaload) len pc ls st h = aIld pc ls st h := rfl
theorem act_jald {len : Nat} : act M (.laload) len pc ls st h = aJld pc ls st h := rfl
theorem act_aald {len : Nat} : act M (.aaload) len pc ls st h = aAld pc ls st h := rfl
theorem act_iast {len : Nat} : act M (.iastore) len pc ls st h = aIst pc ls st h := rfl
theorem act_jast {len : Nat} : act M (.lastore) len pc ls st h = aJst pc ls st h := rfl
theorem act_aast {len : Nat} : act M (.aastore) len pc ls st h = aAst pc ls st h := rfl
theorem act_sta (i : Nat) {len : Nat} : act M (.invokestatic i) len pc ls st h = aSta (lkf M.2.1 i) pc ls st h := rfl
theorem act_vir (i : Nat) {len : Nat} : act M (.invokevirtual i) len pc ls st h = aVir (lkf M.2.1 i) st h := rfl
theorem act_spc (i : Nat) {len : Nat} : act M (.invokespecial i) len pc ls st h = aSpc (lkf M.2.1 i) pc ls st h := rfl
theorem act_tab (d l u : Int) (o : Array Int) {len : Nat} : act M (.tableswitch d l u o) len pc ls st h = aTab d l u o pc ls st h := rfl
theorem act_ifc (c : ClassFile.Cond) (o : Int) (x : Int32) (r : List Value) {len : Nat} : act M (.ifCond c o) len pc ls (.int x :: r) h = bra (cnd c x 0) pc o ls r h := rfl
theorem act_icmp (c : ClassFile.Cond) (o : Int) (x y : Int32) (r : List Value) {len : Nat} : act M (.if_icmp c o) len pc ls (.int y :: .int x :: r) h = bra (cnd c x y) pc o ls r h := rfl
theorem act_astore (i : Nat) {len : Nat} : act M (.astore i) len pc ls st h = stA i (pc + 2) ls st h := rfl
theorem act_astore_n (i : Fin 4) {len : Nat} : act M (.astore_n i) len pc ls st h = stA i (pc + 1) ls st h := rfl
theorem act_istore (i : Nat) {len : Nat} : act M (.istore i) len pc ls st h = stI i (pc + 2) ls st h := rfl
theorem act_istore_n (i : Fin 4) {len : Nat} : act M (.istore_n i) len pc ls st h = stI i (pc + 1) ls st h := rfl
theorem act_lstore (i : Nat) {len : Nat} : act M (.lstore i) len pc ls st h = stJ i (pc + 2) ls st h := rfl
theorem act_lstore_n (i : Fin 4) {len : Nat} : act M (.lstore_n i) len pc ls st h = stJ i (pc + 1) ls st h := rfl
theorem act_dstore (i : Nat) {len : Nat} : act M (.dstore i) len pc ls st h = stD i (pc + 2) ls st h := rfl
theorem act_dstore_n (i : Fin 4) {len : Nat} : act M (.dstore_n i) len pc ls st h = stD i (pc + 1) ls st h := rfl
theorem x_aload_n {k : Fin 4} {x : Nat} (hd : decode M.1 pc = .ok (.aload_n k, 1)) (hl : ls[k.val]? = some (some (.ref x))) (k9 : Xm M (pc + 1) ls (.ref x :: st) h Q) : Xm M pc ls st h Q :=
  X_nx hd (by show ldA _ _ _ _ _ = _; unfold ldA; rw [hl]; rfl) k9
theorem x_aload {k : Nat} {x : Nat} (hd : decode M.1 pc = .ok (.aload k, 2)) (hl : ls[k]? = some (some (.ref x))) (k9 : Xm M (pc + 2) ls (.ref x :: st) h Q) : Xm M pc ls st h Q :=
  X_nx hd (by show ldA _ _ _ _ _ = _; unfold ldA; rw [hl]; rfl) k9
theorem x_iload_n {k : Fin 4} {x : Int32} (hd : decode M.1 pc = .ok (.iload_n k, 1)) (hl : ls[k.val]? = some (some (.int x))) (k9 : Xm M (pc + 1) ls (.int x :: st) h Q) : Xm M pc ls st h Q :=
  X_nx hd (by show ldI _ _ _ _ _ = _; unfold ldI; rw [hl]; rfl) k9
theorem x_iload {k : Nat} {x : Int32} (hd : decode M.1 pc = .ok (.iload k, 2)) (hl : ls[k]? = some (some (.int x))) (k9 : Xm M (pc + 2) ls (.int x :: st) h Q) : Xm M pc ls st h Q :=
  X_nx hd (by show ldI _ _ _ _ _ = _; unfold ldI; rw [hl]; rfl) k9
theorem x_lload_n {k : Fin 4} {x : Int64} (hd : decode M.1 pc = .ok (.lload_n k, 1)) (hl : ls[k.val]? = some (some (.long x))) (k9 : Xm M (pc + 1) ls (.long x :: st) h Q) : Xm M pc ls st h Q :=
  X_nx hd (by show ldJ _ _ _ _ _ = _; unfold ldJ; rw [hl]; rfl) k9
theorem x_lload {k : Nat} {x : Int64} (hd : decode M.1 pc = .ok (.lload k, 2)) (hl : ls[k]? = some (some (.long x))) (k9 : Xm M (pc + 2) ls (.long x :: st) h Q) : Xm M pc ls st h Q :=
  X_nx hd (by show ldJ _ _ _ _ _ = _; unfold ldJ; rw [hl]; rfl) k9
theorem x_dload_n {k : Fin 4} {x : UInt64} (hd : decode M.1 pc = .ok (.dload_n k, 1)) (hl : ls[k.val]? = some (some (.double x))) (k9 : Xm M (pc + 1) ls (.double x :: st) h Q) : Xm M pc ls st h Q :=
  X_nx hd (by show ldD _ _ _ _ _ = _; unfold ldD; rw [hl]; rfl) k9
theorem x_dload {k : Nat} {x : UInt64} (hd : decode M.1 pc = .ok (.dload k, 2)) (hl : ls[k]? = some (some (.double x))) (k9 : Xm M (pc + 2) ls (.double x :: st) h Q) : Xm M pc ls st h Q :=
  X_nx hd (by show ldD _ _ _ _ _ = _; unfold ldD; rw [hl]; rfl) k9
theorem x_astore_n0 {x : Nat} {y1 : Option Value} {t : VLs} (hd : decode M.1 pc = .ok (.astore_n 0, 1)) (k9 : Xm M (pc + 1) (some (.ref x) :: t) st h Q) : Xm M pc (y1 :: t) (.ref x :: st) h Q :=
  X_nx hd (by rw [act_astore_n]; simp [stA, set1, nx]) k9
theorem x_astore_n1 {x : Nat} {o0 y1 : Option Value} {t : VLs} (hd : decode M.1 pc = .ok (.astore_n 1, 1)) (hc : clr o0 = o0) (k9 : Xm M (pc + 1) (o0 :: some (.ref x) :: t) st h Q) : Xm M pc (o0 :: y1 :: t) (.ref x :: st) h Q :=
  X_nx hd (by rw [act_astore_n]; simp [stA, set1, nx, hc]) k9
theorem x_astore_n2 {x : Nat} {o0 o1 y1 : Option Value} {t : VLs} (hd : decode M.1 pc = .ok (.astore_n 2, 1)) (hc : clr o1 = o1) (k9 : Xm M (pc + 1) (o0 :: o1 :: some (.ref x) :: t) st h Q) : Xm M pc (o0 :: o1 :: y1 :: t) (.ref x :: st) h Q :=
  X_nx hd (by rw [act_astore_n]; simp [stA, set1, nx, hc]) k9
theorem x_astore_n3 {x : Nat} {o0 o1 o2 y1 : Option Value} {t : VLs} (hd : decode M.1 pc = .ok (.astore_n 3, 1)) (hc : clr o2 = o2) (k9 : Xm M (pc + 1) (o0 :: o1 :: o2 :: some (.ref x) :: t) st h Q) : Xm M pc (o0 :: o1 :: o2 :: y1 :: t) (.ref x :: st) h Q :=
  X_nx hd (by rw [act_astore_n]; simp [stA, set1, nx, hc] <;> (show (3 : Nat) < _; omega)) k9
theorem x_astore_4 {x : Nat} {o0 o1 o2 o3 y1 : Option Value} {t : VLs} (hd : decode M.1 pc = .ok (.astore 4, 2)) (hc : clr o3 = o3) (k9 : Xm M (pc + 2) (o0 :: o1 :: o2 :: o3 :: some (.ref x) :: t) st h Q) : Xm M pc (o0 :: o1 :: o2 :: o3 :: y1 :: t) (.ref x :: st) h Q :=
  X_nx hd (by rw [act_astore]; simp [stA, set1, nx, hc]) k9
theorem x_astore_5 {x : Nat} {o0 o1 o2 o3 o4 y1 : Option Value} {t : VLs} (hd : decode M.1 pc = .ok (.astore 5, 2)) (hc : clr o4 = o4) (k9 : Xm M (pc + 2) (o0 :: o1 :: o2 :: o3 :: o4 :: some (.ref x) :: t) st h Q) : Xm M pc (o0 :: o1 :: o2 :: o3 :: o4 :: y1 :: t) (.ref x :: st) h Q :=
  X_nx hd (by rw [act_astore]; simp [stA, set1, nx, hc]) k9
theorem x_astore_6 {x : Nat} {o0 o1 o2 o3 o4 o5 y1 : Option Value} {t : VLs} (hd : decode M.1 pc = .ok (.astore 6, 2)) (hc : clr o5 = o5) (k9 : Xm M (pc + 2) (o0 :: o1 :: o2 :: o3 :: o4 :: o5 :: some (.ref x) :: t) st h Q) : Xm M pc (o0 :: o1 :: o2 :: o3 :: o4 :: o5 :: y1 :: t) (.ref x :: st) h Q :=
  X_nx hd (by rw [act_astore]; simp [stA, set1, nx, hc]) k9
theorem x_astore_7 {x : Nat} {o0 o1 o2 o3 o4 o5 o6 y1 : Option Value} {t : VLs} (hd : decode M.1 pc = .ok (.astore 7, 2)) (hc : clr o6 = o6) (k9 : Xm M (pc + 2) (o0 :: o1 :: o2 :: o3 :: o4 :: o5 :: o6 :: some (.ref x) :: t) st h Q) : Xm M pc (o0 :: o1 :: o2 :: o3 :: o4 :: o5 :: o6 :: y1 :: t) (.ref x :: st) h Q :=
  X_nx hd (by rw [act_astore]; simp [stA, set1, nx, hc]) k9
theorem x_astore_8 {x : Nat} {o0 o1 o2 o3 o4 o5 o6 o7 y1 : Option Value} {t : VLs} (hd : decode M.1 pc = .ok (.astore 8, 2)) (hc : clr o7 = o7) (k9 : Xm M (pc + 2) (o0 :: o1 :: o2 :: o3 :: o4 :: o5 :: o6 :: o7 :: some (.ref x) :: t) st h Q) : Xm M pc (o0 :: o1 :: o2 :: o3 :: o4 :: o5 :: o6 :: o7 :: y1 :: t) (.ref x :: st) h Q :=
  X_nx hd (by rw [act_astore]; simp [stA, set1, nx, hc]) k9
theorem x_astore_9 {x : Nat} {o0 o1 o2 o3 o4 o5 o6 o7 o8 y1 : Option Value} {t : VLs} (hd : decode M.1 pc = .ok (.astore 9, 2)) (hc : clr o8 = o8) (k9 : Xm M (pc + 2) (o0 :: o1 :: o2 :: o3 :: o4 :: o5 :: o6 :: o7 :: o8 :: some (.ref x) :: t) st h Q) : Xm M pc (o0 :: o1 :: o2 :: o3 :: o4 :: o5 :: o6 :: o7 :: o8 :: y1 :: t) (.ref x :: st) h Q :=
  X_nx hd (by rw [act_astore]; simp [stA, set1, nx, hc]) k9
theorem x_astore_10 {x : Nat} {o0 o1 o2 o3 o4 o5 o6 o7 o8 o9 y1 : Option Value} {t : VLs} (hd : decode M.1 pc = .ok (.astore 10, 2)) (hc : clr o9 = o9) (k9 : Xm M (pc + 2) (o0 :: o1 :: o2 :: o3 :: o4 :: o5 :: o6 :: o7 :: o8 :: o9 :: some (.ref x) :: t) st h Q) : Xm M pc (o0 :: o1 :: o2 :: o3 :: o4 :: o5 :: o6 :: o7 :: o8 :: o9 :: y1 :: t) (.ref x :: st) h Q :=
  X_nx hd (by rw [act_astore]; simp [stA, set1, nx, hc]) k9
theorem x_astore_11 {x : Nat} {o0 o1 o2 o3 o4 o5 o6 o7 o8 o9 o10 y1 : Option Value} {t : VLs} (hd : decode M.1 pc = .ok (.astore 11, 2)) (hc : clr o10 = o10) (k9 : Xm M (pc + 2) (o0 :: o1 :: o2 :: o3 :: o4 :: o5 :: o6 :: o7 :: o8 :: o9 :: o10 :: some (.ref x) :: t) st h Q) : Xm M pc (o0 :: o1 :: o2 :: o3 :: o4 :: o5 :: o6 :: o7 :: o8 :: o9 :: o10 :: y1 :: t) (.ref x :: st) h Q :=
  X_nx hd (by rw [act_astore]; simp [stA, set1, nx, hc]) k9
theorem x_istore_n0 {x : Int32} {y1 : Option Value} {t : VLs} (hd : decode M.1 pc = .ok (.istore_n 0, 1)) (k9 : Xm M (pc + 1) (some (.int x) :: t) st h Q) : Xm M pc (y1 :: t) (.int x :: st) h Q :=
  X_nx hd (by rw [act_istore_n]; simp [stI, set1, nx]) k9
theorem x_istore_n1 {x : Int32} {o0 y1 : Option Value} {t : VLs} (hd : decode M.1 pc = .ok (.istore_n 1, 1)) (hc : clr o0 = o0) (k9 : Xm M (pc + 1) (o0 :: some (.int x) :: t) st h Q) : Xm M pc (o0 :: y1 :: t) (.int x :: st) h Q :=
  X_nx hd (by rw [act_istore_n]; simp [stI, set1, nx, hc]) k9
theorem x_istore_n2 {x : Int32} {o0 o1 y1 : Option Value} {t : VLs} (hd : decode M.1 pc = .ok (.istore_n 2, 1)) (hc : clr o1 = o1) (k9 : Xm M (pc + 1) (o0 :: o1 :: some (.int x) :: t) st h Q) : Xm M pc (o0 :: o1 :: y1 :: t) (.int x :: st) h Q :=
  X_nx hd (by rw [act_istore_n]; simp [stI, set1, nx, hc]) k9
theorem x_istore_n3 {x : Int32} {o0 o1 o2 y1 : Option Value} {t : VLs} (hd : decode M.1 pc = .ok (.istore_n 3, 1)) (hc : clr o2 = o2) (k9 : Xm M (pc + 1) (o0 :: o1 :: o2 :: some (.int x) :: t) st h Q) : Xm M pc (o0 :: o1 :: o2 :: y1 :: t) (.int x :: st) h Q :=
  X_nx hd (by rw [act_istore_n]; simp [stI, set1, nx, hc] <;> (show (3 : Nat) < _; omega)) k9
theorem x_istore_4 {x : Int32} {o0 o1 o2 o3 y1 : Option Value} {t : VLs} (hd : decode M.1 pc = .ok (.istore 4, 2)) (hc : clr o3 = o3) (k9 : Xm M (pc + 2) (o0 :: o1 :: o2 :: o3 :: some (.int x) :: t) st h Q) : Xm M pc (o0 :: o1 :: o2 :: o3 :: y1 :: t) (.int x :: st) h Q :=
  X_nx hd (by rw [act_istore]; simp [stI, set1, nx, hc]) k9
theorem x_istore_5 {x : Int32} {o0 o1 o2 o3 o4 y1 : Option Value} {t : VLs} (hd : decode M.1 pc = .ok (.istore 5, 2)) (hc : clr o4 = o4) (k9 : Xm M (pc + 2) (o0 :: o1 :: o2 :: o3 :: o4 :: some (.int x) :: t) st h Q) : Xm M pc (o0 :: o1 :: o2 :: o3 :: o4 :: y1 :: t) (.int x :: st) h Q :=
  X_nx hd (by rw [act_istore]; simp [stI, set1, nx, hc]) k9
theorem x_istore_6 {x : Int32} {o0 o1 o2 o3 o4 o5 y1 : Option Value} {t : VLs} (hd : decode M.1 pc = .ok (.istore 6, 2)) (hc : clr o5 = o5) (k9 : Xm M (pc + 2) (o0 :: o1 :: o2 :: o3 :: o4 :: o5 :: some (.int x) :: t) st h Q) : Xm M pc (o0 :: o1 :: o2 :: o3 :: o4 :: o5 :: y1 :: t) (.int x :: st) h Q :=
  X_nx hd (by rw [act_istore]; simp [stI, set1, nx, hc]) k9
theorem x_istore_7 {x : Int32} {o0 o1 o2 o3 o4 o5 o6 y1 : Option Value} {t : VLs} (hd : decode M.1 pc = .ok (.istore 7, 2)) (hc : clr o6 = o6) (k9 : Xm M (pc + 2) (o0 :: o1 :: o2 :: o3 :: o4 :: o5 :: o6 :: some (.int x) :: t) st h Q) : Xm M pc (o0 :: o1 :: o2 :: o3 :: o4 :: o5 :: o6 :: y1 :: t) (.int x :: st) h Q :=
  X_nx hd (by rw [act_istore]; simp [stI, set1, nx, hc]) k9
theorem x_istore_8 {x : Int32} {o0 o1 o2 o3 o4 o5 o6 o7 y1 : Option Value} {t : VLs} (hd : decode M.1 pc = .ok (.istore 8, 2)) (hc : clr o7 = o7) (k9 : Xm M (pc + 2) (o0 :: o1 :: o2 :: o3 :: o4 :: o5 :: o6 :: o7 :: some (.int x) :: t) st h Q) : Xm M pc (o0 :: o1 :: o2 :: o3 :: o4 :: o5 :: o6 :: o7 :: y1 :: t) (.int x :: st) h Q :=
  X_nx hd (by rw [act_istore]; simp [stI, set1, nx, hc]) k9
theorem x_istore_9 {x : Int32} {o0 o1 o2 o3 o4 o5 o6 o7 o8 y1 : Option Value} {t : VLs} (hd : decode M.1 pc = .ok (.istore 9, 2)) (hc : clr o8 = o8) (k9 : Xm M (pc + 2) (o0 :: o1 :: o2 :: o3 :: o4 :: o5 :: o6 :: o7 :: o8 :: some (.int x) :: t) st h Q) : Xm M pc (o0 :: o1 :: o2 :: o3 :: o4 :: o5 :: o6 :: o7 :: o8 :: y1 :: t) (.int x :: st) h Q :=
  X_nx hd (by rw [act_istore]; simp [stI, set1, nx, hc]) k9
theorem x_istore_10 {x : Int32} {o0 o1 o2 o3 o4 o5 o6 o7 o8 o9 y1 : Option Value} {t : VLs} (hd : decode M.1 pc = .ok (.istore 10, 2)) (hc : clr o9 = o9) (k9 : Xm M (pc + 2) (o0 :: o1 :: o2 :: o3 :: o4 :: o5 :: o6 :: o7 :: o8 :: o9 :: some (.int x) :: t) st h Q) : Xm M pc (o0 :: o1 :: o2 :: o3 :: o4 :: o5 :: o6 :: o7 :: o8 :: o9 :: y1 :: t) (.int x :: st) h Q :=
  X_nx hd (by rw [act_istore]; simp [stI, set1, nx, hc]) k9
theorem x_istore_11 {x : Int32} {o0 o1 o2 o3 o4 o5 o6 o7 o8 o9 o10 y1 : Option Value} {t : VLs} (hd : decode M.1 pc = .ok (.istore 11, 2)) (hc : clr o10 = o10) (k9 : Xm M (pc + 2) (o0 :: o1 :: o2 :: o3 :: o4 :: o5 :: o6 :: o7 :: o8 :: o9 :: o10 :: some (.int x) :: t) st h Q) : Xm M pc (o0 :: o1 :: o2 :: o3 :: o4 :: o5 :: o6 :: o7 :: o8 :: o9 :: o10 :: y1 :: t) (.int x :: st) h Q :=
  X_nx hd (by rw [act_istore]; simp [stI, set1, nx, hc]) k9
theorem x_lstore_n0 {x : Int64} {y1 y2 : Option Value} {t : VLs} (hd : decode M.1 pc = .ok (.lstore_n 0, 1)) (k9 : Xm M (pc + 1) (some (.long x) :: none :: t) st h Q) : Xm M pc (y1 :: y2 :: t) (.long x :: st) h Q :=
  X_nx hd (by rw [act_lstore_n]; simp [stJ, set2, nx]) k9
theorem x_lstore_n1 {x : Int64} {o0 y1 y2 : Option Value} {t : VLs} (hd : decode M.1 pc = .ok (.lstore_n 1, 1)) (hc : clr o0 = o0) (k9 : Xm M (pc + 1) (o0 :: some (.long x) :: none :: t) st h Q) : Xm M pc (o0 :: y1 :: y2 :: t) (.long x :: st) h Q :=
  X_nx hd (by rw [act_lstore_n]; simp [stJ, set2, nx, hc]) k9
theorem x_lstore_n2 {x : Int64} {o0 o1 y1 y2 : Option Value} {t : VLs} (hd : decode M.1 pc = .ok (.lstore_n 2, 1)) (hc : clr o1 = o1) (k9 : Xm M (pc + 1) (o0 :: o1 :: some (.long x) :: none :: t) st h Q) : Xm M pc (o0 :: o1 :: y1 :: y2 :: t) (.long x :: st) h Q :=
  X_nx hd (by rw [act_lstore_n]; simp [stJ, set2, nx, hc]) k9
theorem x_lstore_n3 {x : Int64} {o0 o1 o2 y1 y2 : Option Value} {t : VLs} (hd : decode M.1 pc = .ok (.lstore_n 3, 1)) (hc : clr o2 = o2) (k9 : Xm M (pc + 1) (o0 :: o1 :: o2 :: some (.long x) :: none :: t) st h Q) : Xm M pc (o0 :: o1 :: o2 :: y1 :: y2 :: t) (.long x :: st) h Q :=
  X_nx hd (by rw [act_lstore_n]; simp [stJ, set2, nx, hc] <;> (show (3 : Nat) < _; omega)) k9
theorem x_lstore_4 {x : Int64} {o0 o1 o2 o3 y1 y2 : Option Value} {t : VLs} (hd : decode M.1 pc = .ok (.lstore 4, 2)) (hc : clr o3 = o3) (k9 : Xm M (pc + 2) (o0 :: o1 :: o2 :: o3 :: some (.long x) :: none :: t) st h Q) : Xm M pc (o0 :: o1 :: o2 :: o3 :: y1 :: y2 :: t) (.long x :: st) h Q :=
  X_nx hd (by rw [act_lstore]; simp [stJ, set2, nx, hc]) k9
theorem x_lstore_5 {x : Int64} {o0 o1 o2 o3 o4 y1 y2 : Option Value} {t : VLs} (hd : decode M.1 pc = .ok (.lstore 5, 2)) (hc : clr o4 = o4) (k9 : Xm M (pc + 2) (o0 :: o1 :: o2 :: o3 :: o4 :: some (.long x) :: none :: t) st h Q) : Xm M pc (o0 :: o1 :: o2 :: o3 :: o4 :: y1 :: y2 :: t) (.long x :: st) h Q :=
  X_nx hd (by rw [act_lstore]; simp [stJ, set2, nx, hc]) k9
theorem x_lstore_6 {x : Int64} {o0 o1 o2 o3 o4 o5 y1 y2 : Option Value} {t : VLs} (hd : decode M.1 pc = .ok (.lstore 6, 2)) (hc : clr o5 = o5) (k9 : Xm M (pc + 2) (o0 :: o1 :: o2 :: o3 :: o4 :: o5 :: some (.long x) :: none :: t) st h Q) : Xm M pc (o0 :: o1 :: o2 :: o3 :: o4 :: o5 :: y1 :: y2 :: t) (.long x :: st) h Q :=
  X_nx hd (by rw [act_lstore]; simp [stJ, set2, nx, hc]) k9
theorem x_lstore_7 {x : Int64} {o0 o1 o2 o3 o4 o5 o6 y1 y2 : Option Value} {t : VLs} (hd : decode M.1 pc = .ok (.lstore 7, 2)) (hc : clr o6 = o6) (k9 : Xm M (pc + 2) (o0 :: o1 :: o2 :: o3 :: o4 :: o5 :: o6 :: some (.long x) :: none :: t) st h Q) : Xm M pc (o0 :: o1 :: o2 :: o3 :: o4 :: o5 :: o6 :: y1 :: y2 :: t) (.long x :: st) h Q :=
  X_nx hd (by rw [act_lstore]; simp [stJ, set2, nx, hc]) k9
theorem x_lstore_8 {x : Int64} {o0 o1 o2 o3 o4 o5 o6 o7 y1 y2 : Option Value} {t : VLs} (hd : decode M.1 pc = .ok (.lstore 8, 2)) (hc : clr o7 = o7) (k9 : Xm M (pc + 2) (o0 :: o1 :: o2 :: o3 :: o4 :: o5 :: o6 :: o7 :: some (.long x) :: none :: t) st h Q) : Xm M pc (o0 :: o1 :: o2 :: o3 :: o4 :: o5 :: o6 :: o7 :: y1 :: y2 :: t) (.long x :: st) h Q :=
  X_nx hd (by rw [act_lstore]; simp [stJ, set2, nx, hc]) k9
theorem x_lstore_9 {x : Int64} {o0 o1 o2 o3 o4 o5 o6 o7 o8 y1 y2 : Option Value} {t : VLs} (hd : decode M.1 pc = .ok (.lstore 9, 2)) (hc : clr o8 = o8) (k9 : Xm M (pc + 2) (o0 :: o1 :: o2 :: o3 :: o4 :: o5 :: o6 :: o7 :: o8 :: some (.long x) :: none :: t) st h Q) : Xm M pc (o0 :: o1 :: o2 :: o3 :: o4 :: o5 :: o6 :: o7 :: o8 :: y1 :: y2 :: t) (.long x :: st) h Q :=
  X_nx hd (by rw [act_lstore]; simp [stJ, set2, nx, hc]) k9
theorem x_lstore_10 {x : Int64} {o0 o1 o2 o3 o4 o5 o6 o7 o8 o9 y1 y2 : Option Value} {t : VLs} (hd : decode M.1 pc = .ok (.lstore 10, 2)) (hc : clr o9 = o9) (k9 : Xm M (pc + 2) (o0 :: o1 :: o2 :: o3 :: o4 :: o5 :: o6 :: o7 :: o8 :: o9 :: some (.long x) :: none :: t) st h Q) : Xm M pc (o0 :: o1 :: o2 :: o3 :: o4 :: o5 :: o6 :: o7 :: o8 :: o9 :: y1 :: y2 :: t) (.long x :: st) h Q :=
  X_nx hd (by rw [act_lstore]; simp [stJ, set2, nx, hc]) k9
theorem x_lstore_11 {x : Int64} {o0 o1 o2 o3 o4 o5 o6 o7 o8 o9 o10 y1 y2 : Option Value} {t : VLs} (hd : decode M.1 pc = .ok (.lstore 11, 2)) (hc : clr o10 = o10) (k9 : Xm M (pc + 2) (o0 :: o1 :: o2 :: o3 :: o4 :: o5 :: o6 :: o7 :: o8 :: o9 :: o10 :: some (.long x) :: none :: t) st h Q) : Xm M pc (o0 :: o1 :: o2 :: o3 :: o4 :: o5 :: o6 :: o7 :: o8 :: o9 :: o10 :: y1 :: y2 :: t) (.long x :: st) h Q :=
  X_nx hd (by rw [act_lstore]; simp [stJ, set2, nx, hc]) k9
theorem x_dstore_n0 {x : UInt64} {y1 y2 : Option Value} {t : VLs} (hd : decode M.1 pc = .ok (.dstore_n 0, 1)) (k9 : Xm M (pc + 1) (some (.double x) :: none :: t) st h Q) : Xm M pc (y1 :: y2 :: t) (.double x :: st) h Q :=
  X_nx hd (by rw [act_dstore_n]; simp [stD, set2, nx]) k9
theorem x_dstore_n1 {x : UInt64} {o0 y1 y2 : Option Value} {t : VLs} (hd : decode M.1 pc = .ok (.dstore_n 1, 1)) (hc : clr o0 = o0) (k9 : Xm M (pc + 1) (o0 :: some (.double x) :: none :: t) st h Q) : Xm M pc (o0 :: y1 :: y2 :: t) (.double x :: st) h Q :=
  X_nx hd (by rw [act_dstore_n]; simp [stD, set2, nx, hc]) k9
theorem x_dstore_n2 {x : UInt64} {o0 o1 y1 y2 : Option Value} {t : VLs} (hd : decode M.1 pc = .ok (.dstore_n 2, 1)) (hc : clr o1 = o1) (k9 : Xm M (pc + 1) (o0 :: o1 :: some (.double x) :: none :: t) st h Q) : Xm M pc (o0 :: o1 :: y1 :: y2 :: t) (.double x :: st) h Q :=
  X_nx hd (by rw [act_dstore_n]; simp [stD, set2, nx, hc]) k9
theorem x_dstore_n3 {x : UInt64} {o0 o1 o2 y1 y2 : Option Value} {t : VLs} (hd : decode M.1 pc = .ok (.dstore_n 3, 1)) (hc : clr o2 = o2) (k9 : Xm M (pc + 1) (o0 :: o1 :: o2 :: some (.double x) :: none :: t) st h Q) : Xm M pc (o0 :: o1 :: o2 :: y1 :: y2 :: t) (.double x :: st) h Q :=
  X_nx hd (by rw [act_dstore_n]; simp [stD, set2, nx, hc] <;> (show (3 : Nat) < _; omega)) k9
theorem x_dstore_4 {x : UInt64} {o0 o1 o2 o3 y1 y2 : Option Value} {t : VLs} (hd : decode M.1 pc = .ok (.dstore 4, 2)) (hc : clr o3 = o3) (k9 : Xm M (pc + 2) (o0 :: o1 :: o2 :: o3 :: some (.double x) :: none :: t) st h Q) : Xm M pc (o0 :: o1 :: o2 :: o3 :: y1 :: y2 :: t) (.double x :: st) h Q :=
  X_nx hd (by rw [act_dstore]; simp [stD, set2, nx, hc]) k9
theorem x_dstore_5 {x : UInt64} {o0 o1 o2 o3 o4 y1 y2 : Option Value} {t : VLs} (hd : decode M.1 pc = .ok (.dstore 5, 2)) (hc : clr o4 = o4) (k9 : Xm M (pc + 2) (o0 :: o1 :: o2 :: o3 :: o4 :: some (.double x) :: none :: t) st h Q) : Xm M pc (o0 :: o1 :: o2 :: o3 :: o4 :: y1 :: y2 :: t) (.double x :: st) h Q :=
  X_nx hd (by rw [act_dstore]; simp [stD, set2, nx, hc]) k9
theorem x_dstore_6 {x : UInt64} {o0 o1 o2 o3 o4 o5 y1 y2 : Option Value} {t : VLs} (hd : decode M.1 pc = .ok (.dstore 6, 2)) (hc : clr o5 = o5) (k9 : Xm M (pc + 2) (o0 :: o1 :: o2 :: o3 :: o4 :: o5 :: some (.double x) :: none :: t) st h Q) : Xm M pc (o0 :: o1 :: o2 :: o3 :: o4 :: o5 :: y1 :: y2 :: t) (.double x :: st) h Q :=
  X_nx hd (by rw [act_dstore]; simp [stD, set2, nx, hc]) k9
theorem x_dstore_7 {x : UInt64} {o0 o1 o2 o3 o4 o5 o6 y1 y2 : Option Value} {t : VLs} (hd : decode M.1 pc = .ok (.dstore 7, 2)) (hc : clr o6 = o6) (k9 : Xm M (pc + 2) (o0 :: o1 :: o2 :: o3 :: o4 :: o5 :: o6 :: some (.double x) :: none :: t) st h Q) : Xm M pc (o0 :: o1 :: o2 :: o3 :: o4 :: o5 :: o6 :: y1 :: y2 :: t) (.double x :: st) h Q :=
  X_nx hd (by rw [act_dstore]; simp [stD, set2, nx, hc]) k9
theorem x_dstore_8 {x : UInt64} {o0 o1 o2 o3 o4 o5 o6 o7 y1 y2 : Option Value} {t : VLs} (hd : decode M.1 pc = .ok (.dstore 8, 2)) (hc : clr o7 = o7) (k9 : Xm M (pc + 2) (o0 :: o1 :: o2 :: o3 :: o4 :: o5 :: o6 :: o7 :: some (.double x) :: none :: t) st h Q) : Xm M pc (o0 :: o1 :: o2 :: o3 :: o4 :: o5 :: o6 :: o7 :: y1 :: y2 :: t) (.double x :: st) h Q :=
  X_nx hd (by rw [act_dstore]; simp [stD, set2, nx, hc]) k9
theorem x_dstore_9 {x : UInt64} {o0 o1 o2 o3 o4 o5 o6 o7 o8 y1 y2 : Option Value} {t : VLs} (hd : decode M.1 pc = .ok (.dstore 9, 2)) (hc : clr o8 = o8) (k9 : Xm M (pc + 2) (o0 :: o1 :: o2 :: o3 :: o4 :: o5 :: o6 :: o7 :: o8 :: some (.double x) :: none :: t) st h Q) : Xm M pc (o0 :: o1 :: o2 :: o3 :: o4 :: o5 :: o6 :: o7 :: o8 :: y1 :: y2 :: t) (.double x :: st) h Q :=
  X_nx hd (by rw [act_dstore]; simp [stD, set2, nx, hc]) k9
theorem x_dstore_10 {x : UInt64} {o0 o1 o2 o3 o4 o5 o6 o7 o8 o9 y1 y2 : Option Value} {t : VLs} (hd : decode M.1 pc = .ok (.dstore 10, 2)) (hc : clr o9 = o9) (k9 : Xm M (pc + 2) (o0 :: o1 :: o2 :: o3 :: o4 :: o5 :: o6 :: o7 :: o8 :: o9 :: some (.double x) :: none :: t) st h Q) : Xm M pc (o0 :: o1 :: o2 :: o3 :: o4 :: o5 :: o6 :: o7 :: o8 :: o9 :: y1 :: y2 :: t) (.double x :: st) h Q :=
  X_nx hd (by rw [act_dstore]; simp [stD, set2, nx, hc]) k9
theorem x_dstore_11 {x : UInt64} {o0 o1 o2 o3 o4 o5 o6 o7 o8 o9 o10 y1 y2 : Option Value} {t : VLs} (hd : decode M.1 pc = .ok (.dstore 11, 2)) (hc : clr o10 = o10) (k9 : Xm M (pc + 2) (o0 :: o1 :: o2 :: o3 :: o4 :: o5 :: o6 :: o7 :: o8 :: o9 :: o10 :: some (.double x) :: none :: t) st h Q) : Xm M pc (o0 :: o1 :: o2 :: o3 :: o4 :: o5 :: o6 :: o7 :: o8 :: o9 :: o10 :: y1 :: y2 :: t) (.double x :: st) h Q :=
  X_nx hd (by rw [act_dstore]; simp [stD, set2, nx, hc]) k9
theorem x_iinc_0 {x : Int32} {n : Int} {t : VLs} (w : Int32) (hd : decode M.1 pc = .ok (.iinc 0 n, 3)) (hw : Int32.ofInt n = w) (k9 : Xm M (pc + 3) (some (.int (x + w)) :: t) st h Q) : Xm M pc (some (.int x) :: t) st h Q :=
  X_nx hd (by simp [act, set1, nx, hw]) k9
theorem x_iinc_1 {x : Int32} {n : Int} {o0 : Option Value} {t : VLs} (w : Int32) (hd : decode M.1 pc = .ok (.iinc 1 n, 3)) (hw : Int32.ofInt n = w) (hc : clr o0 = o0) (k9 : Xm M (pc + 3) (o0 :: some (.int (x + w)) :: t) st h Q) : Xm M pc (o0 :: some (.int x) :: t) st h Q :=
  X_nx hd (by simp [act, set1, nx, hw, hc]) k9
theorem x_iinc_2 {x : Int32} {n : Int} {o0 o1 : Option Value} {t : VLs} (w : Int32) (hd : decode M.1 pc = .ok (.iinc 2 n, 3)) (hw : Int32.ofInt n = w) (hc : clr o1 = o1) (k9 : Xm M (pc + 3) (o0 :: o1 :: some (.int (x + w)) :: t) st h Q) : Xm M pc (o0 :: o1 :: some (.int x) :: t) st h Q :=
  X_nx hd (by simp [act, set1, nx, hw, hc]) k9
theorem x_iinc_3 {x : Int32} {n : Int} {o0 o1 o2 : Option Value} {t : VLs} (w : Int32) (hd : decode M.1 pc = .ok (.iinc 3 n, 3)) (hw : Int32.ofInt n = w) (hc : clr o2 = o2) (k9 : Xm M (pc + 3) (o0 :: o1 :: o2 :: some (.int (x + w)) :: t) st h Q) : Xm M pc (o0 :: o1 :: o2 :: some (.int x) :: t) st h Q :=
  X_nx hd (by simp [act, set1, nx, hw, hc]) k9
theorem x_iinc_4 {x : Int32} {n : Int} {o0 o1 o2 o3 : Option Value} {t : VLs} (w : Int32) (hd : decode M.1 pc = .ok (.iinc 4 n, 3)) (hw : Int32.ofInt n = w) (hc : clr o3 = o3) (k9 : Xm M (pc + 3) (o0 :: o1 :: o2 :: o3 :: some (.int (x + w)) :: t) st h Q) : Xm M pc (o0 :: o1 :: o2 :: o3 :: some (.int x) :: t) st h Q :=
  X_nx hd (by simp [act, set1, nx, hw, hc]) k9
theorem x_iinc_5 {x : Int32} {n : Int} {o0 o1 o2 o3 o4 : Option Value} {t : VLs} (w : Int32) (hd : decode M.1 pc = .ok (.iinc 5 n, 3)) (hw : Int32.ofInt n = w) (hc : clr o4 = o4) (k9 : Xm M (pc + 3) (o0 :: o1 :: o2 :: o3 :: o4 :: some (.int (x + w)) :: t) st h Q) : Xm M pc (o0 :: o1 :: o2 :: o3 :: o4 :: some (.int x) :: t) st h Q :=
  X_nx hd (by simp [act, set1, nx, hw, hc]) k9
theorem x_iinc_6 {x : Int32} {n : Int} {o0 o1 o2 o3 o4 o5 : Option Value} {t : VLs} (w : Int32) (hd : decode M.1 pc = .ok (.iinc 6 n, 3)) (hw : Int32.ofInt n = w) (hc : clr o5 = o5) (k9 : Xm M (pc + 3) (o0 :: o1 :: o2 :: o3 :: o4 :: o5 :: some (.int (x + w)) :: t) st h Q) : Xm M pc (o0 :: o1 :: o2 :: o3 :: o4 :: o5 :: some (.int x) :: t) st h Q :=
  X_nx hd (by simp [act, set1, nx, hw, hc]) k9
theorem x_iinc_7 {x : Int32} {n : Int} {o0 o1 o2 o3 o4 o5 o6 : Option Value} {t : VLs} (w : Int32) (hd : decode M.1 pc = .ok (.iinc 7 n, 3)) (hw : Int32.ofInt n = w) (hc : clr o6 = o6) (k9 : Xm M (pc + 3) (o0 :: o1 :: o2 :: o3 :: o4 :: o5 :: o6 :: some (.int (x + w)) :: t) st h Q) : Xm M pc (o0 :: o1 :: o2 :: o3 :: o4 :: o5 :: o6 :: some (.int x) :: t) st h Q :=
  X_nx hd (by simp [act, set1, nx, hw, hc]) k9
theorem x_iinc_8 {x : Int32} {n : Int} {o0 o1 o2 o3 o4 o5 o6 o7 : Option Value} {t : VLs} (w : Int32) (hd : decode M.1 pc = .ok (.iinc 8 n, 3)) (hw : Int32.ofInt n = w) (hc : clr o7 = o7) (k9 : Xm M (pc + 3) (o0 :: o1 :: o2 :: o3 :: o4 :: o5 :: o6 :: o7 :: some (.int (x + w)) :: t) st h Q) : Xm M pc (o0 :: o1 :: o2 :: o3 :: o4 :: o5 :: o6 :: o7 :: some (.int x) :: t) st h Q :=
  X_nx hd (by simp [act, set1, nx, hw, hc]) k9
theorem x_iinc_9 {x : Int32} {n : Int} {o0 o1 o2 o3 o4 o5 o6 o7 o8 : Option Value} {t : VLs} (w : Int32) (hd : decode M.1 pc = .ok (.iinc 9 n, 3)) (hw : Int32.ofInt n = w) (hc : clr o8 = o8) (k9 : Xm M (pc + 3) (o0 :: o1 :: o2 :: o3 :: o4 :: o5 :: o6 :: o7 :: o8 :: some (.int (x + w)) :: t) st h Q) : Xm M pc (o0 :: o1 :: o2 :: o3 :: o4 :: o5 :: o6 :: o7 :: o8 :: some (.int x) :: t) st h Q :=
  X_nx hd (by simp [act, set1, nx, hw, hc]) k9
theorem x_iinc_10 {x : Int32} {n : Int} {o0 o1 o2 o3 o4 o5 o6 o7 o8 o9 : Option Value} {t : VLs} (w : Int32) (hd : decode M.1 pc = .ok (.iinc 10 n, 3)) (hw : Int32.ofInt n = w) (hc : clr o9 = o9) (k9 : Xm M (pc + 3) (o0 :: o1 :: o2 :: o3 :: o4 :: o5 :: o6 :: o7 :: o8 :: o9 :: some (.int (x + w)) :: t) st h Q) : Xm M pc (o0 :: o1 :: o2 :: o3 :: o4 :: o5 :: o6 :: o7 :: o8 :: o9 :: some (.int x) :: t) st h Q :=
  X_nx hd (by simp [act, set1, nx, hw, hc]) k9
theorem x_iinc_11 {x : Int32} {n : Int} {o0 o1 o2 o3 o4 o5 o6 o7 o8 o9 o10 : Option Value} {t : VLs} (w : Int32) (hd : decode M.1 pc = .ok (.iinc 11 n, 3)) (hw : Int32.ofInt n = w) (hc : clr o10 = o10) (k9 : Xm M (pc + 3) (o0 :: o1 :: o2 :: o3 :: o4 :: o5 :: o6 :: o7 :: o8 :: o9 :: o10 :: some (.int (x + w)) :: t) st h Q) : Xm M pc (o0 :: o1 :: o2 :: o3 :: o4 :: o5 :: o6 :: o7 :: o8 :: o9 :: o10 :: some (.int x) :: t) st h Q :=
  X_nx hd (by simp [act, set1, nx, hw, hc]) k9
theorem x_iconst {n : Int} (w : Int32) (hd : decode M.1 pc = .ok (.iconst n, 1)) (hw : Int32.ofInt n = w) (k9 : Xm M (pc + 1) ls (.int w :: st) h Q) : Xm M pc ls st h Q := X_nx hd (by subst hw; rfl) k9
theorem x_bipush {n : Int} (w : Int32) (hd : decode M.1 pc = .ok (.bipush n, 2)) (hw : (Int8.ofInt n).toInt32 = w) (k9 : Xm M (pc + 2) ls (.int w :: st) h Q) : Xm M pc ls st h Q := X_nx hd (by subst hw; rfl) k9
theorem x_sipush {n : Int} (w : Int32) (hd : decode M.1 pc = .ok (.sipush n, 3)) (hw : (Int16.ofInt n).toInt32 = w) (k9 : Xm M (pc + 3) ls (.int w :: st) h Q) : Xm M pc ls st h Q := X_nx hd (by subst hw; rfl) k9
theorem x_lconst {n : Fin 2} (w : Int64) (hd : decode M.1 pc = .ok (.lconst n, 1)) (hw : Int64.ofNat (n : Nat) = w) (k9 : Xm M (pc + 1) ls (.long w :: st) h Q) : Xm M pc ls st h Q := X_nx hd (by subst hw; rfl) k9
theorem x_ldc2_w {i a b : Nat} {w : Int64} (hd : decode M.1 pc = .ok (.ldc2_w i, 3)) (hw : lkf M.2.1 i = (10, a, b, w)) (k9 : Xm M (pc + 3) ls (.long w :: st) h Q) : Xm M pc ls st h Q := X_nx hd (by simp [act, hw, nx]) k9
theorem x_dup {v : Value} (hd : decode M.1 pc = .ok (.dup, 1)) (hv : v.category = 1) (k9 : Xm M (pc + 1) ls (v :: v :: st) h Q) : Xm M pc ls (v :: st) h Q := X_nx hd (by simp [act, hv, nx]) k9
theorem x_dup2 {v u : Value} (hd : decode M.1 pc = .ok (.dup2, 1)) (hv : v.category = 1) (hu : u.category = 1) (k9 : Xm M (pc + 1) ls (v :: u :: v :: u :: st) h Q) : Xm M pc ls (v :: u :: st) h Q := X_nx hd (by simp [act, hv, hu, nx]) k9
theorem x_pop {v : Value} (hd : decode M.1 pc = .ok (.pop, 1)) (hv : v.category = 1) (k9 : Xm M (pc + 1) ls st h Q) : Xm M pc ls (v :: st) h Q := X_nx hd (by simp [act, hv, nx]) k9
theorem x_iadd {x y : Int32} (hd : decode M.1 pc = .ok (.iadd, 1)) (k9 : Xm M (pc + 1) ls (.int (x + y) :: st) h Q) : Xm M pc ls (.int y :: .int x :: st) h Q := X_nx hd rfl k9
theorem x_isub {x y : Int32} (hd : decode M.1 pc = .ok (.isub, 1)) (k9 : Xm M (pc + 1) ls (.int (x - y) :: st) h Q) : Xm M pc ls (.int y :: .int x :: st) h Q := X_nx hd rfl k9
theorem x_imul {x y : Int32} (hd : decode M.1 pc = .ok (.imul, 1)) (k9 : Xm M (pc + 1) ls (.int (x * y) :: st) h Q) : Xm M pc ls (.int y :: .int x :: st) h Q := X_nx hd rfl k9
theorem x_iand {x y : Int32} (hd : decode M.1 pc = .ok (.iand, 1)) (k9 : Xm M (pc + 1) ls (.int (x &&& y) :: st) h Q) : Xm M pc ls (.int y :: .int x :: st) h Q := X_nx hd rfl k9
theorem x_ixor {x y : Int32} (hd : decode M.1 pc = .ok (.ixor, 1)) (k9 : Xm M (pc + 1) ls (.int (x ^^^ y) :: st) h Q) : Xm M pc ls (.int y :: .int x :: st) h Q := X_nx hd rfl k9
theorem x_ladd {x y : Int64} (hd : decode M.1 pc = .ok (.ladd, 1)) (k9 : Xm M (pc + 1) ls (.long (x + y) :: st) h Q) : Xm M pc ls (.long y :: .long x :: st) h Q := X_nx hd rfl k9
theorem x_lsub {x y : Int64} (hd : decode M.1 pc = .ok (.lsub, 1)) (k9 : Xm M (pc + 1) ls (.long (x - y) :: st) h Q) : Xm M pc ls (.long y :: .long x :: st) h Q := X_nx hd rfl k9
theorem x_lmul {x y : Int64} (hd : decode M.1 pc = .ok (.lmul, 1)) (k9 : Xm M (pc + 1) ls (.long (x * y) :: st) h Q) : Xm M pc ls (.long y :: .long x :: st) h Q := X_nx hd rfl k9
theorem x_irem {x y : Int32} (hd : decode M.1 pc = .ok (.irem, 1)) (hy : ¬ y = 0) (k9 : Xm M (pc + 1) ls (.int (x - x / y * y) :: st) h Q) : Xm M pc ls (.int y :: .int x :: st) h Q := X_nx hd (by simp [act, hy, nx]) k9
theorem x_lcmp {x y : Int64} (hd : decode M.1 pc = .ok (.lcmp, 1)) (k9 : Xm M (pc + 1) ls (.int (lg_cmp x y) :: st) h Q) : Xm M pc ls (.long y :: .long x :: st) h Q := X_nx hd rfl k9
theorem x_i2l {x : Int32} (hd : decode M.1 pc = .ok (.i2l, 1)) (k9 : Xm M (pc + 1) ls (.long x.toInt64 :: st) h Q) : Xm M pc ls (.int x :: st) h Q := X_nx hd rfl k9
theorem x_i2d {x : Int32} (hd : decode M.1 pc = .ok (.i2d, 1)) (k9 : Xm M (pc + 1) ls (.double (FP.i2d x) :: st) h Q) : Xm M pc ls (.int x :: st) h Q := X_nx hd rfl k9
theorem x_dconst1 (hd : decode M.1 pc = .ok (.dconst 1, 1)) (k9 : Xm M (pc + 1) ls (.double FP.dconst1 :: st) h Q) : Xm M pc ls st h Q := X_nx hd rfl k9
theorem x_ddiv {x y : UInt64} (hd : decode M.1 pc = .ok (.ddiv, 1)) (hn : FP.ddiv x y &&& 0x7fffffffffffffff ≤ 0x7ff0000000000000) (k9 : Xm M (pc + 1) ls (.double (FP.ddiv x y) :: st) h Q) : Xm M pc ls (.double y :: .double x :: st) h Q := X_nx hd (by simp only [act]; rw [if_pos hn]; rfl) k9
theorem x_dcmp {x y : UInt64} {op : ClassFile.CmpOp} (hd : decode M.1 pc = .ok (.dcmp op, 1)) (k9 : Xm M (pc + 1) ls (.int (Op.cmpValue (FP.dcmp x y) op) :: st) h Q) : Xm M pc ls (.double y :: .double x :: st) h Q := X_nx hd rfl k9
theorem jmp_eq {off : Int} {tgt : Nat} (ht : (pc : Int) + off = (tgt : Int)) : jmp pc off ls st h = some (Sum.inl (tgt, ls, st, h)) := by
  unfold jmp
  rw [ht, if_pos (Int.natCast_nonneg tgt), Int.toNat_natCast]
theorem x_goto {off : Int} (tgt : Nat) (hd : decode M.1 pc = .ok (.goto off, 3)) (ht : (pc : Int) + off = (tgt : Int)) (k9 : Xm M tgt ls st h Q) : Xm M pc ls st h Q := X_nx hd (jmp_eq ht) k9
theorem x_if_eq {x : Int32} {off : Int} (tgt : Nat) (hd : decode M.1 pc = .ok (.ifCond .eq off, 3)) (ht : (pc : Int) + off = (tgt : Int)) (kt : x = 0 → Xm M tgt ls st h Q) (kf : ¬ x = 0 → Xm M (pc + 3) ls st h Q) : Xm M pc ls (.int x :: st) h Q := by
  by_cases hP : x = 0
  · exact X_nx hd (by rw [act_ifc]; unfold cnd bra; rw [if_pos (show 0 ≤ (pc : Int) + off by rw [ht]; exact Int.natCast_nonneg tgt), if_pos (decide_eq_true hP)]; exact jmp_eq ht) (kt hP)
  · exact X_nx hd (by rw [act_ifc]; unfold cnd bra; rw [if_pos (show 0 ≤ (pc : Int) + off by rw [ht]; exact Int.natCast_nonneg tgt), if_neg (by simpa using hP)]; rfl) (kf hP)
theorem x_icmp_eq {x y : Int32} {off : Int} (tgt : Nat) (hd : decode M.1 pc = .ok (.if_icmp .eq off, 3)) (ht : (pc : Int) + off = (tgt : Int)) (kt : x = y → Xm M tgt ls st h Q) (kf : ¬ x = y → Xm M (pc + 3) ls st h Q) : Xm M pc ls (.int y :: .int x :: st) h Q := by
  by_cases hP : x = y
  · exact X_nx hd (by rw [act_icmp]; unfold cnd bra; rw [if_pos (show 0 ≤ (pc : Int) + off by rw [ht]; exact Int.natCast_nonneg tgt), if_pos (decide_eq_true hP)]; exact jmp_eq ht) (kt hP)
  · exact X_nx hd (by rw [act_icmp]; unfold cnd bra; rw [if_pos (show 0 ≤ (pc : Int) + off by rw [ht]; exact Int.natCast_nonneg tgt), if_neg (by simpa using hP)]; rfl) (kf hP)
theorem x_if_ne {x : Int32} {off : Int} (tgt : Nat) (hd : decode M.1 pc = .ok (.ifCond .ne off, 3)) (ht : (pc : Int) + off = (tgt : Int)) (kt : ¬ x = 0 → Xm M tgt ls st h Q) (kf : x = 0 → Xm M (pc + 3) ls st h Q) : Xm M pc ls (.int x :: st) h Q := by
  by_cases hP : ¬ x = 0
  · exact X_nx hd (by rw [act_ifc]; unfold cnd bra; rw [if_pos (show 0 ≤ (pc : Int) + off by rw [ht]; exact Int.natCast_nonneg tgt), if_pos (decide_eq_true hP)]; exact jmp_eq ht) (kt hP)
  · exact X_nx hd (by rw [act_ifc]; unfold cnd bra; rw [if_pos (show 0 ≤ (pc : Int) + off by rw [ht]; exact Int.natCast_nonneg tgt), if_neg (by simpa using hP)]; rfl) (kf (Classical.not_not.mp hP))
theorem x_icmp_ne {x y : Int32} {off : Int} (tgt : Nat) (hd : decode M.1 pc = .ok (.if_icmp .ne off, 3)) (ht : (pc : Int) + off = (tgt : Int)) (kt : ¬ x = y → Xm M tgt ls st h Q) (kf : x = y → Xm M (pc + 3) ls st h Q) : Xm M pc ls (.int y :: .int x :: st) h Q := by
  by_cases hP : ¬ x = y
  · exact X_nx hd (by rw [act_icmp]; unfold cnd bra; rw [if_pos (show 0 ≤ (pc : Int) + off by rw [ht]; exact Int.natCast_nonneg tgt), if_pos (decide_eq_true hP)]; exact jmp_eq ht) (kt hP)
  · exact X_nx hd (by rw [act_icmp]; unfold cnd bra; rw [if_pos (show 0 ≤ (pc : Int) + off by rw [ht]; exact Int.natCast_nonneg tgt), if_neg (by simpa using hP)]; rfl) (kf (Classical.not_not.mp hP))
theorem x_if_lt {x : Int32} {off : Int} (tgt : Nat) (hd : decode M.1 pc = .ok (.ifCond .lt off, 3)) (ht : (pc : Int) + off = (tgt : Int)) (kt : x < 0 → Xm M tgt ls st h Q) (kf : ¬ x < 0 → Xm M (pc + 3) ls st h Q) : Xm M pc ls (.int x :: st) h Q := by
  by_cases hP : x < 0
  · exact X_nx hd (by rw [act_ifc]; unfold cnd bra; rw [if_pos (show 0 ≤ (pc : Int) + off by rw [ht]; exact Int.natCast_nonneg tgt), if_pos (decide_eq_true hP)]; exact jmp_eq ht) (kt hP)
  · exact X_nx hd (by rw [act_ifc]; unfold cnd bra; rw [if_pos (show 0 ≤ (pc : Int) + off by rw [ht]; exact Int.natCast_nonneg tgt), if_neg (by simpa using hP)]; rfl) (kf hP)
theorem x_icmp_lt {x y : Int32} {off : Int} (tgt : Nat) (hd : decode M.1 pc = .ok (.if_icmp .lt off, 3)) (ht : (pc : Int) + off = (tgt : Int)) (kt : x < y → Xm M tgt ls st h Q) (kf : ¬ x < y → Xm M (pc + 3) ls st h Q) : Xm M pc ls (.int y :: .int x :: st) h Q := by
  by_cases hP : x < y
  · exact X_nx hd (by rw [act_icmp]; unfold cnd bra; rw [if_pos (show 0 ≤ (pc : Int) + off by rw [ht]; exact Int.natCast_nonneg tgt), if_pos (decide_eq_true hP)]; exact jmp_eq ht) (kt hP)
  · exact X_nx hd (by rw [act_icmp]; unfold cnd bra; rw [if_pos (show 0 ≤ (pc : Int) + off by rw [ht]; exact Int.natCast_nonneg tgt), if_neg (by simpa using hP)]; rfl) (kf hP)
theorem x_if_ge {x : Int32} {off : Int} (tgt : Nat) (hd : decode M.1 pc = .ok (.ifCond .ge off, 3)) (ht : (pc : Int) + off = (tgt : Int)) (kt : 0 ≤ x → Xm M tgt ls st h Q) (kf : ¬ 0 ≤ x → Xm M (pc + 3) ls st h Q) : Xm M pc ls (.int x :: st) h Q := by
  by_cases hP : 0 ≤ x
  · exact X_nx hd (by rw [act_ifc]; unfold cnd bra; rw [if_pos (show 0 ≤ (pc : Int) + off by rw [ht]; exact Int.natCast_nonneg tgt), if_pos (decide_eq_true hP)]; exact jmp_eq ht) (kt hP)
  · exact X_nx hd (by rw [act_ifc]; unfold cnd bra; rw [if_pos (show 0 ≤ (pc : Int) + off by rw [ht]; exact Int.natCast_nonneg tgt), if_neg (by simpa using hP)]; rfl) (kf hP)
theorem x_icmp_ge {x y : Int32} {off : Int} (tgt : Nat) (hd : decode M.1 pc = .ok (.if_icmp .ge off, 3)) (ht : (pc : Int) + off = (tgt : Int)) (kt : y ≤ x → Xm M tgt ls st h Q) (kf : ¬ y ≤ x → Xm M (pc + 3) ls st h Q) : Xm M pc ls (.int y :: .int x :: st) h Q := by
  by_cases hP : y ≤ x
  · exact X_nx hd (by rw [act_icmp]; unfold cnd bra; rw [if_pos (show 0 ≤ (pc : Int) + off by rw [ht]; exact Int.natCast_nonneg tgt), if_pos (decide_eq_true hP)]; exact jmp_eq ht) (kt hP)
  · exact X_nx hd (by rw [act_icmp]; unfold cnd bra; rw [if_pos (show 0 ≤ (pc : Int) + off by rw [ht]; exact Int.natCast_nonneg tgt), if_neg (by simpa using hP)]; rfl) (kf hP)
theorem x_if_gt {x : Int32} {off : Int} (tgt : Nat) (hd : decode M.1 pc = .ok (.ifCond .gt off, 3)) (ht : (pc : Int) + off = (tgt : Int)) (kt : 0 < x → Xm M tgt ls st h Q) (kf : ¬ 0 < x → Xm M (pc + 3) ls st h Q) : Xm M pc ls (.int x :: st) h Q := by
  by_cases hP : 0 < x
  · exact X_nx hd (by rw [act_ifc]; unfold cnd bra; rw [if_pos (show 0 ≤ (pc : Int) + off by rw [ht]; exact Int.natCast_nonneg tgt), if_pos (decide_eq_true hP)]; exact jmp_eq ht) (kt hP)
  · exact X_nx hd (by rw [act_ifc]; unfold cnd bra; rw [if_pos (show 0 ≤ (pc : Int) + off by rw [ht]; exact Int.natCast_nonneg tgt), if_neg (by simpa using hP)]; rfl) (kf hP)
theorem x_icmp_gt {x y : Int32} {off : Int} (tgt : Nat) (hd : decode M.1 pc = .ok (.if_icmp .gt off, 3)) (ht : (pc : Int) + off = (tgt : Int)) (kt : y < x → Xm M tgt ls st h Q) (kf : ¬ y < x → Xm M (pc + 3) ls st h Q) : Xm M pc ls (.int y :: .int x :: st) h Q := by
  by_cases hP : y < x
  · exact X_nx hd (by rw [act_icmp]; unfold cnd bra; rw [if_pos (show 0 ≤ (pc : Int) + off by rw [ht]; exact Int.natCast_nonneg tgt), if_pos (decide_eq_true hP)]; exact jmp_eq ht) (kt hP)
  · exact X_nx hd (by rw [act_icmp]; unfold cnd bra; rw [if_pos (show 0 ≤ (pc : Int) + off by rw [ht]; exact Int.natCast_nonneg tgt), if_neg (by simpa using hP)]; rfl) (kf hP)
theorem x_if_le {x : Int32} {off : Int} (tgt : Nat) (hd : decode M.1 pc = .ok (.ifCond .le off, 3)) (ht : (pc : Int) + off = (tgt : Int)) (kt : x ≤ 0 → Xm M tgt ls st h Q) (kf : ¬ x ≤ 0 → Xm M (pc + 3) ls st h Q) : Xm M pc ls (.int x :: st) h Q := by
  by_cases hP : x ≤ 0
  · exact X_nx hd (by rw [act_ifc]; unfold cnd bra; rw [if_pos (show 0 ≤ (pc : Int) + off by rw [ht]; exact Int.natCast_nonneg tgt), if_pos (decide_eq_true hP)]; exact jmp_eq ht) (kt hP)
  · exact X_nx hd (by rw [act_ifc]; unfold cnd bra; rw [if_pos (show 0 ≤ (pc : Int) + off by rw [ht]; exact Int.natCast_nonneg tgt), if_neg (by simpa using hP)]; rfl) (kf hP)
theorem x_icmp_le {x y : Int32} {off : Int} (tgt : Nat) (hd : decode M.1 pc = .ok (.if_icmp .le off, 3)) (ht : (pc : Int) + off = (tgt : Int)) (kt : x ≤ y → Xm M tgt ls st h Q) (kf : ¬ x ≤ y → Xm M (pc + 3) ls st h Q) : Xm M pc ls (.int y :: .int x :: st) h Q := by
  by_cases hP : x ≤ y
  · exact X_nx hd (by rw [act_icmp]; unfold cnd bra; rw [if_pos (show 0 ≤ (pc : Int) + off by rw [ht]; exact Int.natCast_nonneg tgt), if_pos (decide_eq_true hP)]; exact jmp_eq ht) (kt hP)
  · exact X_nx hd (by rw [act_icmp]; unfold cnd bra; rw [if_pos (show 0 ≤ (pc : Int) + off by rw [ht]; exact Int.natCast_nonneg tgt), if_neg (by simpa using hP)]; rfl) (kf hP)
theorem x_tab {dflt lo hi off : Int} {offs : Array Int} {len : Nat} {x : Int32} (tgt : Nat) (hd : decode M.1 pc = .ok (.tableswitch dflt lo hi offs, len)) (h1 : ¬ (x.toInt < lo ∨ hi < x.toInt)) (ho : offs[(x.toInt - lo).toNat]? = some off) (ht : (pc : Int) + off = (tgt : Int)) (k9 : Xm M tgt ls st h Q) : Xm M pc ls (.int x :: st) h Q :=
  X_nx hd (by rw [act_tab]; unfold aTab; simp only; rw [if_neg h1, ho]; exact jmp_eq ht) k9
theorem x_tabD {dflt lo hi : Int} {offs : Array Int} {len : Nat} {x : Int32} (tgt : Nat) (hd : decode M.1 pc = .ok (.tableswitch dflt lo hi offs, len)) (h1 : x.toInt < lo ∨ hi < x.toInt) (ht : (pc : Int) + dflt = (tgt : Int)) (k9 : Xm M tgt ls st h Q) : Xm M pc ls (.int x :: st) h Q :=
  X_nx hd (by rw [act_tab]; unfold aTab; simp only; rw [if_pos h1]; exact jmp_eq ht) k9
theorem x_getfield {i t k j a : Nat} {w : Int64} {fs : List Value} {v : Value} (hd : decode M.1 pc = .ok (.getfield i, 3)) (hl : lkf M.2.1 i = (t, k, j, w)) (ht : t ≤ 1) (ha : h.2 a = cO k fs) (hv : fs[j]? = some v) (k9 : Xm M (pc + 3) ls (v :: st) h Q) : Xm M pc ls (.ref a :: st) h Q :=
  X_nx hd (by rw [act_getfield]; unfold aGet; simp only [ha, hl]; rw [if_pos ⟨ht, trivial⟩, hv]; rfl) k9
theorem x_putfield {g : VG} {c : Nat → VC} {i t k j a : Nat} {w : Int64} {fs : List Value} {v : Value} (hd : decode M.1 pc = .ok (.putfield i, 3)) (hl : lkf M.2.1 i = (t, k, j, w)) (ha : c a = cO k fs) (hk : okP M.2.2.1.2 k fs.length t j v = true) (k9 : Xm M (pc + 3) ls st (g, up c a (cO k (fs.set j v))) Q) : Xm M pc ls (v :: .ref a :: st) (g, c) Q :=
  X_nx hd (by rw [act_putfield]; unfold aPut; simp only [ha, hl]; rw [if_pos ⟨trivial, hk⟩]; rfl) k9

theorem x_putfield0 {g : VG} {c : Nat → VC} {i t k a : Nat} {w : Int64} {y : Value} {fs : List Value} {v : Value} (hd : decode M.1 pc = .ok (.putfield i, 3)) (hl : lkf M.2.1 i = (t, k, 0, w)) (ha : c a = cO k (y :: fs)) (hk : okP M.2.2.1.2 k (y :: fs).length t 0 v = true) (k9 : Xm M (pc + 3) ls st (g, up c a (cO k (v :: fs))) Q) : Xm M pc ls (v :: .ref a :: st) (g, c) Q :=
  x_putfield hd hl ha hk k9
theorem x_putfield1 {g : VG} {c : Nat → VC} {i t k a : Nat} {w : Int64} {b0 y : Value} {fs : List Value} {v : Value} (hd : decode M.1 pc = .ok (.putfield i, 3)) (hl : lkf M.2.1 i = (t, k, 1, w)) (ha : c a = cO k (b0 :: y :: fs)) (hk : okP M.2.2.1.2 k (b0 :: y :: fs).length t 1 v = true) (k9 : Xm M (pc + 3) ls st (g, up c a (cO k (b0 :: v :: fs))) Q) : Xm M pc ls (v :: .ref a :: st) (g, c) Q :=
  x_putfield hd hl ha hk k9
theorem x_putfield2 {g : VG} {c : Nat → VC} {i t k a : Nat} {w : Int64} {b0 b1 y : Value} {fs : List Value} {v : Value} (hd : decode M.1 pc = .ok (.putfield i, 3)) (hl : lkf M.2.1 i = (t, k, 2, w)) (ha : c a = cO k (b0 :: b1 :: y :: fs)) (hk : okP M.2.2.1.2 k (b0 :: b1 :: y :: fs).length t 2 v = true) (k9 : Xm M (pc + 3) ls st (g, up c a (cO k (b0 :: b1 :: v :: fs))) Q) : Xm M pc ls (v :: .ref a :: st) (g, c) Q :=
  x_putfield hd hl ha hk k9
theorem x_putfield3 {g : VG} {c : Nat → VC} {i t k a : Nat} {w : Int64} {b0 b1 b2 y : Value} {fs : List Value} {v : Value} (hd : decode M.1 pc = .ok (.putfield i, 3)) (hl : lkf M.2.1 i = (t, k, 3, w)) (ha : c a = cO k (b0 :: b1 :: b2 :: y :: fs)) (hk : okP M.2.2.1.2 k (b0 :: b1 :: b2 :: y :: fs).length t 3 v = true) (k9 : Xm M (pc + 3) ls st (g, up c a (cO k (b0 :: b1 :: b2 :: v :: fs))) Q) : Xm M pc ls (v :: .ref a :: st) (g, c) Q :=
  x_putfield hd hl ha hk k9
theorem x_putfield4 {g : VG} {c : Nat → VC} {i t k a : Nat} {w : Int64} {b0 b1 b2 b3 y : Value} {fs : List Value} {v : Value} (hd : decode M.1 pc = .ok (.putfield i, 3)) (hl : lkf M.2.1 i = (t, k, 4, w)) (ha : c a = cO k (b0 :: b1 :: b2 :: b3 :: y :: fs)) (hk : okP M.2.2.1.2 k (b0 :: b1 :: b2 :: b3 :: y :: fs).length t 4 v = true) (k9 : Xm M (pc + 3) ls st (g, up c a (cO k (b0 :: b1 :: b2 :: b3 :: v :: fs))) Q) : Xm M pc ls (v :: .ref a :: st) (g, c) Q :=
  x_putfield hd hl ha hk k9
theorem x_putfield5 {g : VG} {c : Nat → VC} {i t k a : Nat} {w : Int64} {b0 b1 b2 b3 b4 y : Value} {fs : List Value} {v : Value} (hd : decode M.1 pc = .ok (.putfield i, 3)) (hl : lkf M.2.1 i = (t, k, 5, w)) (ha : c a = cO k (b0 :: b1 :: b2 :: b3 :: b4 :: y :: fs)) (hk : okP M.2.2.1.2 k (b0 :: b1 :: b2 :: b3 :: b4 :: y :: fs).length t 5 v = true) (k9 : Xm M (pc + 3) ls st (g, up c a (cO k (b0 :: b1 :: b2 :: b3 :: b4 :: v :: fs))) Q) : Xm M pc ls (v :: .ref a :: st) (g, c) Q :=
  x_putfield hd hl ha hk k9
theorem x_putfield6 {g : VG} {c : Nat → VC} {i t k a : Nat} {w : Int64} {b0 b1 b2 b3 b4 b5 y : Value} {fs : List Value} {v : Value} (hd : decode M.1 pc = .ok (.putfield i, 3)) (hl : lkf M.2.1 i = (t, k, 6, w)) (ha : c a = cO k (b0 :: b1 :: b2 :: b3 :: b4 :: b5 :: y :: fs)) (hk : okP M.2.2.1.2 k (b0 :: b1 :: b2 :: b3 :: b4 :: b5 :: y :: fs).length t 6 v = true) (k9 : Xm M (pc + 3) ls st (g, up c a (cO k (b0 :: b1 :: b2 :: b3 :: b4 :: b5 :: v :: fs))) Q) : Xm M pc ls (v :: .ref a :: st) (g, c) Q :=
  x_putfield hd hl ha hk k9
theorem x_putfield7 {g : VG} {c : Nat → VC} {i t k a : Nat} {w : Int64} {b0 b1 b2 b3 b4 b5 b6 y : Value} {fs : List Value} {v : Value} (hd : decode M.1 pc = .ok (.putfield i, 3)) (hl : lkf M.2.1 i = (t, k, 7, w)) (ha : c a = cO k (b0 :: b1 :: b2 :: b3 :: b4 :: b5 :: b6 :: y :: fs)) (hk : okP M.2.2.1.2 k (b0 :: b1 :: b2 :: b3 :: b4 :: b5 :: b6 :: y :: fs).length t 7 v = true) (k9 : Xm M (pc + 3) ls st (g, up c a (cO k (b0 :: b1 :: b2 :: b3 :: b4 :: b5 :: b6 :: v :: fs))) Q) : Xm M pc ls (v :: .ref a :: st) (g, c) Q :=
  x_putfield hd hl ha hk k9
theorem x_putfield8 {g : VG} {c : Nat → VC} {i t k a : Nat} {w : Int64} {b0 b1 b2 b3 b4 b5 b6 b7 y : Value} {fs : List Value} {v : Value} (hd : decode M.1 pc = .ok (.putfield i, 3)) (hl : lkf M.2.1 i = (t, k, 8, w)) (ha : c a = cO k (b0 :: b1 :: b2 :: b3 :: b4 :: b5 :: b6 :: b7 :: y :: fs)) (hk : okP M.2.2.1.2 k (b0 :: b1 :: b2 :: b3 :: b4 :: b5 :: b6 :: b7 :: y :: fs).length t 8 v = true) (k9 : Xm M (pc + 3) ls st (g, up c a (cO k (b0 :: b1 :: b2 :: b3 :: b4 :: b5 :: b6 :: b7 :: v :: fs))) Q) : Xm M pc ls (v :: .ref a :: st) (g, c) Q :=
  x_putfield hd hl ha hk k9
theorem x_putfield9 {g : VG} {c : Nat → VC} {i t k a : Nat} {w : Int64} {b0 b1 b2 b3 b4 b5 b6 b7 b8 y : Value} {fs : List Value} {v : Value} (hd : decode M.1 pc = .ok (.putfield i, 3)) (hl : lkf M.2.1 i = (t, k, 9, w)) (ha : c a = cO k (b0 :: b1 :: b2 :: b3 :: b4 :: b5 :: b6 :: b7 :: b8 :: y :: fs)) (hk : okP M.2.2.1.2 k (b0 :: b1 :: b2 :: b3 :: b4 :: b5 :: b6 :: b7 :: b8 :: y :: fs).length t 9 v = true) (k9 : Xm M (pc + 3) ls st (g, up c a (cO k (b0 :: b1 :: b2 :: b3 :: b4 :: b5 :: b6 :: b7 :: b8 :: v :: fs))) Q) : Xm M pc ls (v :: .ref a :: st) (g, c) Q :=
  x_putfield hd hl ha hk k9
theorem x_getstatic {i : Nat} (hd : decode M.1 pc = .ok (.getstatic i, 3)) (hl : (lkf M.2.1 i).1 = 7) (k9 : Xm M (pc + 3) ls (.ref 1 :: st) h Q) : Xm M pc ls st h Q := X_nx hd (by simp only [act]; rw [if_pos hl]; rfl) k9
theorem x_newI {z k1 s1 : Nat} {c : Nat → VC} {n : Int32} (hd : decode M.1 pc = .ok (.newarray .int, 2)) (hn : ¬ n < 0 ∧ n.toNatClampNeg ≤ 100000) (k9 : Xm M (pc + 2) ls (.ref z :: st) ((z + 1, true, k1 + 1, s1 + n.toNatClampNeg), up c z (cI n.toNatClampNeg (fun _ => 0))) Q) : Xm M pc ls (.int n :: st) ((z, true, k1, s1), c) Q :=
  X_nx hd (by rw [act_newI]; unfold aNewI; simp only; rw [if_pos ⟨hn.1, hn.2, trivial⟩]; rfl) k9
theorem x_newJ {z k1 s1 : Nat} {c : Nat → VC} {n : Int32} (hd : decode M.1 pc = .ok (.newarray .long, 2)) (hn : ¬ n < 0 ∧ n.toNatClampNeg ≤ 100000) (k9 : Xm M (pc + 2) ls (.ref z :: st) ((z + 1, true, k1 + 1, s1 + n.toNatClampNeg), up c z (cL n.toNatClampNeg (fun _ => 0))) Q) : Xm M pc ls (.int n :: st) ((z, true, k1, s1), c) Q :=
  X_nx hd (by rw [act_newJ]; unfold aNewJ; simp only; rw [if_pos ⟨hn.1, hn.2, trivial⟩]; rfl) k9
theorem x_newR {z k1 s1 : Nat} {c : Nat → VC} {i t b : Nat} {w : Int64} {n : Int32} (hd : decode M.1 pc = .ok (.anewarray i, 3)) (hl : lkf M.2.1 i = (5, t, b, w)) (hn : ¬ n < 0 ∧ n.toNatClampNeg ≤ 100000) (k9 : Xm M (pc + 3) ls (.ref z :: st) ((z + 1, true, k1 + 1, s1 + n.toNatClampNeg), up c z (cR t n.toNatClampNeg (fun _ => none))) Q) (hq : okA t = true := by rfl) : Xm M pc ls (.int n :: st) ((z, true, k1, s1), c) Q :=
  X_nx hd (by rw [act_anew]; simp [aNewR, hl, hn, hq, nx]) k9
theorem x_new {z k1 s1 : Nat} {c : Nat → VC} {i k b : Nat} {w : Int64} (hd : decode M.1 pc = .ok (.new i, 3)) (hl : lkf M.2.1 i = (5, k, b, w)) (k9 : Xm M (pc + 3) ls (.ref z :: st) ((z + 1, true, k1 + 1, s1 + (dfl k).length), up c z (cO k (dfl k))) Q) : Xm M pc ls st ((z, true, k1, s1), c) Q :=
  X_nx hd (by rw [act_new]; simp [aNew, hl, nx]) k9
/-- new, dup, ldc, <init>, athrow -/
theorem x_throw {z k1 s1 i E b : Nat} {x1 : Bool} {c : Nat → VC} {w : Int64} (hd : decode M.1 pc = .ok (.new i, 3)) (hl : lkf M.2.1 i = (8, E, b, w)) (hh : M.2.2.2 = []) (k9 : Q (Sum.inr E) ((z, false, k1 + 1, s1 + 6), c)) (ht : thr M pc E = true := by decide +kernel) : Xm M pc ls [] ((z, x1, k1, s1), c) Q :=
  X_thr hd (by rw [act_new]; simp [aNew, hl, hh, ht]) k9
theorem x_iaload {n a : Nat} {f : Nat → Int32} {i : Int32} (hd : decode M.1 pc = .ok (.iaload, 1)) (ha : h.2 a = cI n f) (hi : inB i n = true) (k9 : Xm M (pc + 1) ls (.int (f i.toNatClampNeg) :: st) h Q) : Xm M pc ls (.int i :: .ref a :: st) h Q :=
  X_nx hd (by rw [act_iald]; unfold aIld; simp only [ha]; rw [if_pos hi]; rfl) k9
theorem x_ialoadS {n a : Nat} {f : Nat → Int32} {i : Int32} (hd : decode M.1 pc = .ok (.iaload, 1)) (ha : h.2 a = cS n f) (hi : inB i n = true) (k9 : Xm M (pc + 1) ls (.int (f i.toNatClampNeg) :: st) h Q) : Xm M pc ls (.int i :: .ref a :: st) h Q :=
  X_nx hd (by rw [act_iald]; unfold aIld; simp only [ha]; rw [if_pos hi]; rfl) k9
theorem x_laload {n a : Nat} {f : Nat → Int64} {i : Int32} (hd : decode M.1 pc = .ok (.laload, 1)) (ha : h.2 a = cL n f) (hi : inB i n = true) (k9 : Xm M (pc + 1) ls (.long (f i.toNatClampNeg) :: st) h Q) : Xm M pc ls (.int i :: .ref a :: st) h Q :=
  X_nx hd (by rw [act_jald]; unfold aJld; simp only [ha]; rw [if_pos hi]; rfl) k9
theorem x_aaload {t n a : Nat} {f : Nat → Option Nat} {i : Int32} {v : Value} (hd : decode M.1 pc = .ok (.aaload, 1)) (ha : h.2 a = cR t n f) (hi : inB i n = true) (hv : va_rf (f i.toNatClampNeg) = v) (k9 : Xm M (pc + 1) ls (v :: st) h Q) : Xm M pc ls (.int i :: .ref a :: st) h Q :=
  X_nx hd (by rw [act_aald]; unfold aAld; simp only [ha]; rw [if_pos hi, hv]; rfl) k9
theorem x_iastore {g : VG} {c : Nat → VC} {n a : Nat} {f : Nat → Int32} {i x : Int32} (hd : decode M.1 pc = .ok (.iastore, 1)) (ha : c a = cI n f) (hi : inB i n = true) (k9 : Xm M (pc + 1) ls st (g, up c a (cI n (upd f i.toNatClampNeg x))) Q) : Xm M pc ls (.int x :: .int i :: .ref a :: st) (g, c) Q :=
  X_nx hd (by rw [act_iast]; unfold aIst; simp only [ha]; rw [if_pos hi]; rfl) k9
theorem x_lastore {g : VG} {c : Nat → VC} {n a : Nat} {f : Nat → Int64} {i : Int32} {x : Int64} (hd : decode M.1 pc = .ok (.lastore, 1)) (ha : c a = cL n f) (hi : inB i n = true) (k9 : Xm M (pc + 1) ls st (g, up c a (cL n (vp_updL f i.toNatClampNeg x))) Q) : Xm M pc ls (.long x :: .int i :: .ref a :: st) (g, c) Q :=
  X_nx hd (by rw [act_jast]; unfold aJst; simp only [ha]; rw [if_pos hi]; rfl) k9
theorem x_aastore {g : VG} {c : Nat → VC} {t n a v : Nat} {f : Nat → Option Nat} {fs : List Value} {i : Int32} (hd : decode M.1 pc = .ok (.aastore, 1)) (ha : c a = cR t n f) (hv : c v = cO t fs) (hi : inB i n = true) (k9 : Xm M (pc + 1) ls st (g, up c a (cR t n (va_up f i.toNatClampNeg (some v)))) Q) : Xm M pc ls (.ref v :: .int i :: .ref a :: st) (g, c) Q :=
  X_nx hd (by rw [act_aast]; unfold aAst; simp only [ha, hv]; rw [if_pos ⟨hi, trivial⟩]; rfl) k9
theorem x_alenI {n a : Nat} {f : Nat → Int32} (hd : decode M.1 pc = .ok (.arraylength, 1)) (ha : h.2 a = cI n f) (k9 : Xm M (pc + 1) ls (.int (nI n) :: st) h Q) : Xm M pc ls (.ref a :: st) h Q :=
  X_nx hd (by rw [act_alen]; unfold aLen; simp only [ha]; rfl) k9
theorem x_alenR {t n a : Nat} {f : Nat → Option Nat} (hd : decode M.1 pc = .ok (.arraylength, 1)) (ha : h.2 a = cR t n f) (k9 : Xm M (pc + 1) ls (.int (nI n) :: st) h Q) : Xm M pc ls (.ref a :: st) h Q :=
  X_nx hd (by rw [act_alen]; unfold aLen; simp only [ha]; rfl) k9
theorem x_alenS {n a : Nat} {f : Nat → Int32} (hd : decode M.1 pc = .ok (.arraylength, 1)) (ha : h.2 a = cS n f) (k9 : Xm M (pc + 1) ls (.int (nI n) :: st) h Q) : Xm M pc ls (.ref a :: st) h Q :=
  X_nx hd (by rw [act_alen]; unfold aLen; simp only [ha]; rfl) k9
theorem x_max {i b : Nat} {w : Int64} {x y : Int32} (hd : decode M.1 pc = .ok (.invokestatic i, 3)) (hl : lkf M.2.1 i = (9, 0, b, w)) (k9 : Xm M (pc + 3) ls (.int (if x < y then y else x) :: st) h Q) (hr : catS st ≤ 8 := by first | exact Nat.le_of_ble_eq_true rfl | (simp [catS, Value.category]; done)) : Xm M pc ls (.int y :: .int x :: st) h Q :=
  X_nx hd (by rw [act_sta]; simp [aSta, hl, hr, nx]) k9
theorem x_min {i b : Nat} {w : Int64} {x y : Int32} (hd : decode M.1 pc = .ok (.invokestatic i, 3)) (hl : lkf M.2.1 i = (9, 1, b, w)) (k9 : Xm M (pc + 3) ls (.int (if x < y then x else y) :: st) h Q) (hr : catS st ≤ 8 := by first | exact Nat.le_of_ble_eq_true rfl | (simp [catS, Value.category]; done)) : Xm M pc ls (.int y :: .int x :: st) h Q :=
  X_nx hd (by rw [act_sta]; simp [aSta, hl, hr, nx]) k9
theorem x_acopy {g : VG} {c : Nat → VC} {i b n0 n1 s d : Nat} {w : Int64} {f f1 : Nat → Int32} {n sp dp : Int32} (hd : decode M.1 pc = .ok (.invokestatic i, 3)) (hl : lkf M.2.1 i = (9, 2, b, w)) (hs : c s = cI n0 f) (he : c d = cI n1 f1) (hb : ¬ sp < 0 ∧ ¬ dp < 0 ∧ ¬ n < 0 ∧ sp.toNatClampNeg + n.toNatClampNeg ≤ n0 ∧ dp.toNatClampNeg + n.toNatClampNeg ≤ n1) (k9 : Xm M (pc + 3) ls st (g, up c d (cI n1 (va_cpy f f1 sp.toNatClampNeg dp.toNatClampNeg n.toNatClampNeg))) Q) (hr : catS st ≤ 8 := by first | exact Nat.le_of_ble_eq_true rfl | (simp [catS, Value.category]; done)) : Xm M pc ls (.int n :: .int dp :: .ref d :: .int sp :: .ref s :: st) (g, c) Q :=
  X_nx hd (by rw [act_sta]; simp [aSta, hl, aCpy, hs, he, hb, hr, nx]) k9
theorem x_objinit {i a b d : Nat} {w : Int64} (hd : decode M.1 pc = .ok (.invokespecial i, 3)) (hl : lkf M.2.1 i = (6, b, d, w)) (k9 : Xm M (pc + 3) ls [] h Q) : Xm M pc ls [.ref a] h Q :=
  X_nx hd (by rw [act_spc]; simp [aSpc, hl, nx]) k9
theorem x_return (hd : decode M.1 pc = .ok (.return_, 1)) (k9 : Q (Sum.inl none) h) (hz : M.2.2.1.2 < 11 := by exact Nat.le_of_ble_eq_true rfl) : Xm M pc ls [] h Q := X_ret hd (by simp only [act]; rw [if_pos hz]) k9
def bV (b : Bool) : Int32 := if b then nI 1 else nI 0
theorem bV_01 (b : Bool) : bV b = nI 0 ∨ bV b = nI 1 := by
  unfold bV
  split
  · exact Or.inr rfl
  · exact Or.inl rfl
theorem rz_b {M : MI} {x : Int32} (h : M.2.2.1.2 = 12) (hx : x = nI 0 ∨ x = nI 1) : rz M x = true := by
  unfold rz
  rw [h]
  rcases hx with rfl | rfl <;> decide
theorem x_ireturn {x : Int32} (hd : decode M.1 pc = .ok (.ireturn, 1)) (k9 : Q (Sum.inl (some (.int x))) h) (hz : rz M x = true := by first | rfl | exact rz_b rfl (bV_01 _) | exact rz_b rfl (by assumption)) : Xm M pc ls [.int x] h Q := X_ret hd (by simp only [act]; rw [if_pos hz]) k9
theorem x_lreturn {x : Int64} (hd : decode M.1 pc = .ok (.lreturn, 1)) (k9 : Q (Sum.inl (some (.long x))) h) (hz : M.2.2.1.2 = 13 := by rfl) : Xm M pc ls [.long x] h Q := X_ret hd (by simp only [act]; rw [if_pos hz]) k9
theorem x_dreturn {x : UInt64} (hd : decode M.1 pc = .ok (.dreturn, 1)) (k9 : Q (Sum.inl (some (.double x))) h) (hz : M.2.2.1.2 = 14 := by rfl) : Xm M pc ls [.double x] h Q := X_ret hd (by simp only [act]; rw [if_pos hz]) k9
theorem x_areturn {x : Nat} (hd : decode M.1 pc = .ok (.areturn, 1)) (k9 : Q (Sum.inl (some (.ref x))) h) (hz : M.2.2.1.2 = 15 := by rfl) : Xm M pc ls [.ref x] h Q := X_ret hd (by simp only [act]; rw [if_pos hz]) k9
theorem x_cs0 {i μ : Nat} {w : Int64} (hd : decode M.1 pc = .ok (.invokestatic i, 3)) (hl : lkf M.2.1 i = (3, μ, 0, w)) (k9 : Cm μ [] h (Xk M pc ls st Q)) (he : (entA []).length ≤ (mt μ).2.2.1.1 := by first | exact Nat.le_of_ble_eq_true rfl | (simp [entA, Value.category]; done)) (hr : catS st ≤ 8 := by first | exact Nat.le_of_ble_eq_true rfl | (simp [catS, Value.category]; done)) : Xm M pc ls (st) h Q :=
  X_call hd (by rw [act_sta]; simp [aSta, hl, cal, hr]) he k9
theorem x_cs1 {i μ : Nat} {w : Int64} {a0 : Value} (hd : decode M.1 pc = .ok (.invokestatic i, 3)) (hl : lkf M.2.1 i = (3, μ, 1, w)) (k9 : Cm μ [a0] h (Xk M pc ls st Q)) (he : (entA [a0]).length ≤ (mt μ).2.2.1.1 := by first | exact Nat.le_of_ble_eq_true rfl | (simp [entA, Value.category]; done)) (hr : catS st ≤ 8 := by first | exact Nat.le_of_ble_eq_true rfl | (simp [catS, Value.category]; done)) : Xm M pc ls (a0 :: st) h Q :=
  X_call hd (by rw [act_sta]; simp [aSta, hl, cal, hr]) he k9
theorem x_cv1 {i μ a k : Nat} {w : Int64} {fs : List Value} (hd : decode M.1 pc = .ok (.invokevirtual i, 3)) (hl : lkf M.2.1 i = (2, μ, 1, w)) (ha : h.2 a = cO k fs) (hk : w.toNatClampNeg = k) (k9 : Cm μ [.ref a] h (Xk M pc ls st Q)) (he : (entA [.ref a]).length ≤ (mt μ).2.2.1.1 := by first | exact Nat.le_of_ble_eq_true rfl | (simp [entA, Value.category]; done)) (hr : catS st ≤ 8 := by first | exact Nat.le_of_ble_eq_true rfl | (simp [catS, Value.category]; done)) : Xm M pc ls (.ref a :: st) h Q :=
  X_call hd (by rw [act_vir]; simp [aVir, hl, isK, ha, hk, cal, hr]) he k9
theorem x_ci1 {i μ a k : Nat} {w : Int64} {fs : List Value} (hd : decode M.1 pc = .ok (.invokespecial i, 3)) (hl : lkf M.2.1 i = (4, μ, 1, w)) (ha : h.2 a = cO k fs) (hk : w.toNatClampNeg = k) (k9 : Cm μ [.ref a] h (Xk M pc ls st Q)) (he : (entA [.ref a]).length ≤ (mt μ).2.2.1.1 := by first | exact Nat.le_of_ble_eq_true rfl | (simp [entA, Value.category]; done)) (hr : catS st ≤ 8 := by first | exact Nat.le_of_ble_eq_true rfl | (simp [catS, Value.category]; done)) : Xm M pc ls (.ref a :: st) h Q :=
  X_call hd (by rw [act_spc]; simp [aSpc, hl, isK, ha, hk, cal, hr]) he k9
theorem x_cs2 {i μ : Nat} {w : Int64} {a0 a1 : Value} (hd : decode M.1 pc = .ok (.invokestatic i, 3)) (hl : lkf M.2.1 i = (3, μ, 2, w)) (k9 : Cm μ [a0, a1] h (Xk M pc ls st Q)) (he : (entA [a0, a1]).length ≤ (mt μ).2.2.1.1 := by first | exact Nat.le_of_ble_eq_true rfl | (simp [entA, Value.category]; done)) (hr : catS st ≤ 8 := by first | exact Nat.le_of_ble_eq_true rfl | (simp [catS, Value.category]; done)) : Xm M pc ls (a1 :: a0 :: st) h Q :=
  X_call hd (by rw [act_sta]; simp [aSta, hl, cal, hr]) he k9
theorem x_cv2 {i μ a k : Nat} {w : Int64} {a1 : Value} {fs : List Value} (hd : decode M.1 pc = .ok (.invokevirtual i, 3)) (hl : lkf M.2.1 i = (2, μ, 2, w)) (ha : h.2 a = cO k fs) (hk : w.toNatClampNeg = k) (k9 : Cm μ [.ref a, a1] h (Xk M pc ls st Q)) (he : (entA [.ref a, a1]).length ≤ (mt μ).2.2.1.1 := by first | exact Nat.le_of_ble_eq_true rfl | (simp [entA, Value.category]; done)) (hr : catS st ≤ 8 := by first | exact Nat.le_of_ble_eq_true rfl | (simp [catS, Value.category]; done)) : Xm M pc ls (a1 :: .ref a :: st) h Q :=
  X_call hd (by rw [act_vir]; simp [aVir, hl, isK, ha, hk, cal, hr]) he k9
theorem x_ci2 {i μ a k : Nat} {w : Int64} {a1 : Value} {fs : List Value} (hd : decode M.1 pc = .ok (.invokespecial i, 3)) (hl : lkf M.2.1 i = (4, μ, 2, w)) (ha : h.2 a = cO k fs) (hk : w.toNatClampNeg = k) (k9 : Cm μ [.ref a, a1] h (Xk M pc ls st Q)) (he : (entA [.ref a, a1]).length ≤ (mt μ).2.2.1.1 := by first | exact Nat.le_of_ble_eq_true rfl | (simp [entA, Value.category]; done)) (hr : catS st ≤ 8 := by first | exact Nat.le_of_ble_eq_true rfl | (simp [catS, Value.category]; done)) : Xm M pc ls (a1 :: .ref a :: st) h Q :=
  X_call hd (by rw [act_spc]; simp [aSpc, hl, isK, ha, hk, cal, hr]) he k9
theorem x_cs3 {i μ : Nat} {w : Int64} {a0 a1 a2 : Value} (hd : decode M.1 pc = .ok (.invokestatic i, 3)) (hl : lkf M.2.1 i = (3, μ, 3, w)) (k9 : Cm μ [a0, a1, a2] h (Xk M pc ls st Q)) (he : (entA [a0, a1, a2]).length ≤ (mt μ).2.2.1.1 := by first | exact Nat.le_of_ble_eq_true rfl | (simp [entA, Value.category]; done)) (hr : catS st ≤ 8 := by first | exact Nat.le_of_ble_eq_true rfl | (simp [catS, Value.category]; done)) : Xm M pc ls (a2 :: a1 :: a0 :: st) h Q :=
  X_call hd (by rw [act_sta]; simp [aSta, hl, cal, hr]) he k9
theorem x_cv3 {i μ a k : Nat} {w : Int64} {a1 a2 : Value} {fs : List Value} (hd : decode M.1 pc = .ok (.invokevirtual i, 3)) (hl : lkf M.2.1 i = (2, μ, 3, w)) (ha : h.2 a = cO k fs) (hk : w.toNatClampNeg = k) (k9 : Cm μ [.ref a, a1, a2] h (Xk M pc ls st Q)) (he : (entA [.ref a, a1, a2]).length ≤ (mt μ).2.2.1.1 := by first | exact Nat.le_of_ble_eq_true rfl | (simp [entA, Value.category]; done)) (hr : catS st ≤ 8 := by first | exact Nat.le_of_ble_eq_true rfl | (simp [catS, Value.category]; done)) : Xm M pc ls (a2 :: a1 :: .ref a :: st) h Q :=
  X_call hd (by rw [act_vir]; simp [aVir, hl, isK, ha, hk, cal, hr]) he k9
theorem x_ci3 {i μ a k : Nat} {w : Int64} {a1 a2 : Value} {fs : List Value} (hd : decode M.1 pc = .ok (.invokespecial i, 3)) (hl : lkf M.2.1 i = (4, μ, 3, w)) (ha : h.2 a = cO k fs) (hk : w.toNatClampNeg = k) (k9 : Cm μ [.ref a, a1, a2] h (Xk M pc ls st Q)) (he : (entA [.ref a, a1, a2]).length ≤ (mt μ).2.2.1.1 := by first | exact Nat.le_of_ble_eq_true rfl | (simp [entA, Value.category]; done)) (hr : catS st ≤ 8 := by first | exact Nat.le_of_ble_eq_true rfl | (simp [catS, Value.category]; done)) : Xm M pc ls (a2 :: a1 :: .ref a :: st) h Q :=
  X_call hd (by rw [act_spc]; simp [aSpc, hl, isK, ha, hk, cal, hr]) he k9
theorem x_cs4 {i μ : Nat} {w : Int64} {a0 a1 a2 a3 : Value} (hd : decode M.1 pc = .ok (.invokestatic i, 3)) (hl : lkf M.2.1 i = (3, μ, 4, w)) (k9 : Cm μ [a0, a1, a2, a3] h (Xk M pc ls st Q)) (he : (entA [a0, a1, a2, a3]).length ≤ (mt μ).2.2.1.1 := by first | exact Nat.le_of_ble_eq_true rfl | (simp [entA, Value.category]; done)) (hr : catS st ≤ 8 := by first | exact Nat.le_of_ble_eq_true rfl | (simp [catS, Value.category]; done)) : Xm M pc ls (a3 :: a2 :: a1 :: a0 :: st) h Q :=
  X_call hd (by rw [act_sta]; simp [aSta, hl, cal, hr]) he k9
theorem x_cv4 {i μ a k : Nat} {w : Int64} {a1 a2 a3 : Value} {fs : List Value} (hd : decode M.1 pc = .ok (.invokevirtual i, 3)) (hl : lkf M.2.1 i = (2, μ, 4, w)) (ha : h.2 a = cO k fs) (hk : w.toNatClampNeg = k) (k9 : Cm μ [.ref a, a1, a2, a3] h (Xk M pc ls st Q)) (he : (entA [.ref a, a1, a2, a3]).length ≤ (mt μ).2.2.1.1 := by first | exact Nat.le_of_ble_eq_true rfl | (simp [entA, Value.category]; done)) (hr : catS st ≤ 8 := by first | exact Nat.le_of_ble_eq_true rfl | (simp [catS, Value.category]; done)) : Xm M pc ls (a3 :: a2 :: a1 :: .ref a :: st) h Q :=
  X_call hd (by rw [act_vir]; simp [aVir, hl, isK, ha, hk, cal, hr]) he k9
theorem x_ci4 {i μ a k : Nat} {w : Int64} {a1 a2 a3 : Value} {fs : List Value} (hd : decode M.1 pc = .ok (.invokespecial i, 3)) (hl : lkf M.2.1 i = (4, μ, 4, w)) (ha : h.2 a = cO k fs) (hk : w.toNatClampNeg = k) (k9 : Cm μ [.ref a, a1, a2, a3] h (Xk M pc ls st Q)) (he : (entA [.ref a, a1, a2, a3]).length ≤ (mt μ).2.2.1.1 := by first | exact Nat.le_of_ble_eq_true rfl | (simp [entA, Value.category]; done)) (hr : catS st ≤ 8 := by first | exact Nat.le_of_ble_eq_true rfl | (simp [catS, Value.category]; done)) : Xm M pc ls (a3 :: a2 :: a1 :: .ref a :: st) h Q :=
  X_call hd (by rw [act_spc]; simp [aSpc, hl, isK, ha, hk, cal, hr]) he k9
theorem x_cs5 {i μ : Nat} {w : Int64} {a0 a1 a2 a3 a4 : Value} (hd : decode M.1 pc = .ok (.invokestatic i, 3)) (hl : lkf M.2.1 i = (3, μ, 5, w)) (k9 : Cm μ [a0, a1, a2, a3, a4] h (Xk M pc ls st Q)) (he : (entA [a0, a1, a2, a3, a4]).length ≤ (mt μ).2.2.1.1 := by first | exact Nat.le_of_ble_eq_true rfl | (simp [entA, Value.category]; done)) (hr : catS st ≤ 8 := by first | exact Nat.le_of_ble_eq_true rfl | (simp [catS, Value.category]; done)) : Xm M pc ls (a4 :: a3 :: a2 :: a1 :: a0 :: st) h Q :=
  X_call hd (by rw [act_sta]; simp [aSta, hl, cal, hr]) he k9
theorem x_cv5 {i μ a k : Nat} {w : Int64} {a1 a2 a3 a4 : Value} {fs : List Value} (hd : decode M.1 pc = .ok (.invokevirtual i, 3)) (hl : lkf M.2.1 i = (2, μ, 5, w)) (ha : h.2 a = cO k fs) (hk : w.toNatClampNeg = k) (k9 : Cm μ [.ref a, a1, a2, a3, a4] h (Xk M pc ls st Q)) (he : (entA [.ref a, a1, a2, a3, a4]).length ≤ (mt μ).2.2.1.1 := by first | exact Nat.le_of_ble_eq_true rfl | (simp [entA, Value.category]; done)) (hr : catS st ≤ 8 := by first | exact Nat.le_of_ble_eq_true rfl | (simp [catS, Value.category]; done)) : Xm M pc ls (a4 :: a3 :: a2 :: a1 :: .ref a :: st) h Q :=
  X_call hd (by rw [act_vir]; simp [aVir, hl, isK, ha, hk, cal, hr]) he k9
theorem x_ci5 {i μ a k : Nat} {w : Int64} {a1 a2 a3 a4 : Value} {fs : List Value} (hd : decode M.1 pc = .ok (.invokespecial i, 3)) (hl : lkf M.2.1 i = (4, μ, 5, w)) (ha : h.2 a = cO k fs) (hk : w.toNatClampNeg = k) (k9 : Cm μ [.ref a, a1, a2, a3, a4] h (Xk M pc ls st Q)) (he : (entA [.ref a, a1, a2, a3, a4]).length ≤ (mt μ).2.2.1.1 := by first | exact Nat.le_of_ble_eq_true rfl | (simp [entA, Value.category]; done)) (hr : catS st ≤ 8 := by first | exact Nat.le_of_ble_eq_true rfl | (simp [catS, Value.category]; done)) : Xm M pc ls (a4 :: a3 :: a2 :: a1 :: .ref a :: st) h Q :=
  X_call hd (by rw [act_spc]; simp [aSpc, hl, isK, ha, hk, cal, hr]) he k9
theorem x_cs6 {i μ : Nat} {w : Int64} {a0 a1 a2 a3 a4 a5 : Value} (hd : decode M.1 pc = .ok (.invokestatic i, 3)) (hl : lkf M.2.1 i = (3, μ, 6, w)) (k9 : Cm μ [a0, a1, a2, a3, a4, a5] h (Xk M pc ls st Q)) (he : (entA [a0, a1, a2, a3, a4, a5]).length ≤ (mt μ).2.2.1.1 := by first | exact Nat.le_of_ble_eq_true rfl | (simp [entA, Value.category]; done)) (hr : catS st ≤ 8 := by first | exact Nat.le_of_ble_eq_true rfl | (simp [catS, Value.category]; done)) : Xm M pc ls (a5 :: a4 :: a3 :: a2 :: a1 :: a0 :: st) h Q :=
  X_call hd (by rw [act_sta]; simp [aSta, hl, cal, hr]) he k9
theorem x_cv6 {i μ a k : Nat} {w : Int64} {a1 a2 a3 a4 a5 : Value} {fs : List Value} (hd : decode M.1 pc = .ok (.invokevirtual i, 3)) (hl : lkf M.2.1 i = (2, μ, 6, w)) (ha : h.2 a = cO k fs) (hk : w.toNatClampNeg = k) (k9 : Cm μ [.ref a, a1, a2, a3, a4, a5] h (Xk M pc ls st Q)) (he : (entA [.ref a, a1, a2, a3, a4, a5]).length ≤ (mt μ).2.2.1.1 := by first | exact Nat.le_of_ble_eq_true rfl | (simp [entA, Value.category]; done)) (hr : catS st ≤ 8 := by first | exact Nat.le_of_ble_eq_true rfl | (simp [catS, Value.category]; done)) : Xm M pc ls (a5 :: a4 :: a3 :: a2 :: a1 :: .ref a :: st) h Q :=
  X_call hd (by rw [act_vir]; simp [aVir, hl, isK, ha, hk, cal, hr]) he k9
theorem x_ci6 {i μ a k : Nat} {w : Int64} {a1 a2 a3 a4 a5 : Value} {fs : List Value} (hd : decode M.1 pc = .ok (.invokespecial i, 3)) (hl : lkf M.2.1 i = (4, μ, 6, w)) (ha : h.2 a = cO k fs) (hk : w.toNatClampNeg = k) (k9 : Cm μ [.ref a, a1, a2, a3, a4, a5] h (Xk M pc ls st Q)) (he : (entA [.ref a, a1, a2, a3, a4, a5]).length ≤ (mt μ).2.2.1.1 := by first | exact Nat.le_of_ble_eq_true rfl | (simp [entA, Value.category]; done)) (hr : catS st ≤ 8 := by first | exact Nat.le_of_ble_eq_true rfl | (simp [catS, Value.category]; done)) : Xm M pc ls (a5 :: a4 :: a3 :: a2 :: a1 :: .ref a :: st) h Q :=
  X_call hd (by rw [act_spc]; simp [aSpc, hl, isK, ha, hk, cal, hr]) he k9
theorem x_iaddN {a b : Nat} (hd : decode M.1 pc = .ok (.iadd, 1)) (k9 : Xm M (pc + 1) ls (.int (nI (a + b)) :: st) h Q) : Xm M pc ls (.int (nI b) :: .int (nI a) :: st) h Q := x_iadd hd (by rw [nI_add]; exact k9)
theorem x_isubN {a b : Nat} (hd : decode M.1 pc = .ok (.isub, 1)) (hab : b ≤ a) (k9 : Xm M (pc + 1) ls (.int (nI (a - b)) :: st) h Q) : Xm M pc ls (.int (nI b) :: .int (nI a) :: st) h Q := x_isub hd (by rw [pk_sub hab]; exact k9)
theorem x_imulN {a b : Nat} (hd : decode M.1 pc = .ok (.imul, 1)) (k9 : Xm M (pc + 1) ls (.int (nI (a * b)) :: st) h Q) : Xm M pc ls (.int (nI b) :: .int (nI a) :: st) h Q := x_imul hd (by rw [pk_mul]; exact k9)
theorem x_i2lN {a : Nat} (hd : decode M.1 pc = .ok (.i2l, 1)) (ha : a < 2 ^ 31) (k9 : Xm M (pc + 1) ls (.long (lN a) :: st) h Q) : Xm M pc ls (.int (nI a) :: st) h Q := x_i2l hd (by rw [nI_l ha]; exact k9)
theorem x_ialoadN {n a i : Nat} {f : Nat → Int32} (hd : decode M.1 pc = .ok (.iaload, 1)) (ha : h.2 a = cI n f) (hi : i < n) (hn : n < 2 ^ 31) (k9 : Xm M (pc + 1) ls (.int (f i) :: st) h Q) : Xm M pc ls (.int (nI i) :: .ref a :: st) h Q := x_iaload hd ha (decide_eq_true (nI_in hi hn)) (by rw [nI_clamp (by omega)]; exact k9)
theorem x_iastoreN {g : VG} {c : Nat → VC} {n a i : Nat} {f : Nat → Int32} {x : Int32} (hd : decode M.1 pc = .ok (.iastore, 1)) (ha : c a = cI n f) (hi : i < n) (hn : n < 2 ^ 31) (k9 : Xm M (pc + 1) ls st (g, up c a (cI n (upd f i x))) Q) : Xm M pc ls (.int x :: .int (nI i) :: .ref a :: st) (g, c) Q := x_iastore hd ha (decide_eq_true (nI_in hi hn)) (by rw [nI_clamp (by omega)]; exact k9)
theorem x_aaloadN {t n a i q : Nat} {f : Nat → Option Nat} (hd : decode M.1 pc = .ok (.aaload, 1)) (ha : h.2 a = cR t n f) (hi : i < n) (hn : n < 2 ^ 31) (hv : f i = some q) (k9 : Xm M (pc + 1) ls (.ref q :: st) h Q) : Xm M pc ls (.int (nI i) :: .ref a :: st) h Q := x_aaload hd ha (decide_eq_true (nI_in hi hn)) (by rw [nI_clamp (by omega), hv]; rfl) k9
theorem x_aastoreN {g : VG} {c : Nat → VC} {t n a v i : Nat} {f : Nat → Option Nat} {fs : List Value} (hd : decode M.1 pc = .ok (.aastore, 1)) (ha : c a = cR t n f) (hv : c v = cO t fs) (hi : i < n) (hn : n < 2 ^ 31) (k9 : Xm M (pc + 1) ls st (g, up c a (cR t n (va_up f i (some v)))) Q) : Xm M pc ls (.ref v :: .int (nI i) :: .ref a :: st) (g, c) Q := x_aastore hd ha hv (decide_eq_true (nI_in hi hn)) (by rw [nI_clamp (by omega)]; exact k9)
theorem x_acopyN {g : VG} {c : Nat → VC} {i b n0 n1 s d n sp dp : Nat} {w : Int64} {f f1 : Nat → Int32} (hd : decode M.1 pc = .ok (.invokestatic i, 3)) (hl : lkf M.2.1 i = (9, 2, b, w)) (hs : c s = cI n0 f) (he : c d = cI n1 f1) (h1 : sp + n ≤ n0) (h2 : dp + n ≤ n1) (h3 : n0 < 2 ^ 31) (h4 : n1 < 2 ^ 31) (k9 : Xm M (pc + 3) ls st (g, up c d (cI n1 (va_cpy f f1 sp dp n))) Q) (hr : catS st ≤ 8 := by first | exact Nat.le_of_ble_eq_true rfl | (simp [catS, Value.category]; done)) : Xm M pc ls (.int (nI n) :: .int (nI dp) :: .ref d :: .int (nI sp) :: .ref s :: st) (g, c) Q := x_acopy hd hl hs he ⟨nI_pos (by omega), nI_pos (by omega), nI_pos (by omega), by rw [nI_clamp (by omega), nI_clamp (by omega)]; exact h1, by rw [nI_clamp (by omega), nI_clamp (by omega)]; exact h2⟩ (by rw [nI_clamp (by omega), nI_clamp (by omega), nI_clamp (by omega)]; exact k9) hr
theorem x_newIN {z k1 s1 n : Nat} {c : Nat → VC} (hd : decode M.1 pc = .ok (.newarray .int, 2)) (hn : n ≤ 100000) (k9 : Xm M (pc + 2) ls (.ref z :: st) ((z + 1, true, k1 + 1, s1 + n), up c z (cI n (fun _ => 0))) Q) : Xm M pc ls (.int (nI n) :: st) ((z, true, k1, s1), c) Q := x_newI hd ⟨nI_pos (by omega), by rw [nI_clamp (by omega)]; exact hn⟩ (by rw [nI_clamp (by omega)]; exact k9)
theorem x_newJN {z k1 s1 n : Nat} {c : Nat → VC} (hd : decode M.1 pc = .ok (.newarray .long, 2)) (hn : n ≤ 100000) (k9 : Xm M (pc + 2) ls (.ref z :: st) ((z + 1, true, k1 + 1, s1 + n), up c z (cL n (fun _ => 0))) Q) : Xm M pc ls (.int (nI n) :: st) ((z, true, k1, s1), c) Q := x_newJ hd ⟨nI_pos (by omega), by rw [nI_clamp (by omega)]; exact hn⟩ (by rw [nI_clamp (by omega)]; exact k9)
theorem x_newRN {z k1 s1 i t b n : Nat} {c : Nat → VC} {w : Int64} (hd : decode M.1 pc = .ok (.anewarray i, 3)) (hl : lkf M.2.1 i = (5, t, b, w)) (hn : n ≤ 100000) (k9 : Xm M (pc + 3) ls (.ref z :: st) ((z + 1, true, k1 + 1, s1 + n), up c z (cR t n (fun _ => none))) Q) (hq : okA t = true := by rfl) : Xm M pc ls (.int (nI n) :: st) ((z, true, k1, s1), c) Q := x_newR hd hl ⟨nI_pos (by omega), by rw [nI_clamp (by omega)]; exact hn⟩ (by rw [nI_clamp (by omega)]; exact k9) hq
theorem x_ixlt {a b : Nat} {c1 c2 : Int32} (h1 : c1 = nI a) (h2 : c2 = nI b) (ha : a < 2 ^ 31) (hb : b < 2 ^ 31) : c1 < c2 ↔ a < b := by rw [h1, h2]; exact nI_ltI ha hb
theorem x_iincN_0 {x : Nat} {n : Int} {t : VLs} (w : Nat) (hd : decode M.1 pc = .ok (.iinc 0 n, 3)) (hw : Int32.ofInt n = nI w) (k9 : Xm M (pc + 3) (some (.int (nI (x + w))) :: t) st h Q) : Xm M pc (some (.int (nI x)) :: t) st h Q := x_iinc_0 (nI w) hd hw (by rw [nI_add]; exact k9)
theorem x_iincN_1 {x : Nat} {n : Int} {o0 : Option Value} {t : VLs} (w : Nat) (hd : decode M.1 pc = .ok (.iinc 1 n, 3)) (hw : Int32.ofInt n = nI w) (hc : clr o0 = o0) (k9 : Xm M (pc + 3) (o0 :: some (.int (nI (x + w))) :: t) st h Q) : Xm M pc (o0 :: some (.int (nI x)) :: t) st h Q := x_iinc_1 (nI w) hd hw hc (by rw [nI_add]; exact k9)
theorem x_iincN_2 {x : Nat} {n : Int} {o0 o1 : Option Value} {t : VLs} (w : Nat) (hd : decode M.1 pc = .ok (.iinc 2 n, 3)) (hw : Int32.ofInt n = nI w) (hc : clr o1 = o1) (k9 : Xm M (pc + 3) (o0 :: o1 :: some (.int (nI (x + w))) :: t) st h Q) : Xm M pc (o0 :: o1 :: some (.int (nI x)) :: t) st h Q := x_iinc_2 (nI w) hd hw hc (by rw [nI_add]; exact k9)
theorem x_iincN_3 {x : Nat} {n : Int} {o0 o1 o2 : Option Value} {t : VLs} (w : Nat) (hd : decode M.1 pc = .ok (.iinc 3 n, 3)) (hw : Int32.ofInt n = nI w) (hc : clr o2 = o2) (k9 : Xm M (pc + 3) (o0 :: o1 :: o2 :: some (.int (nI (x + w))) :: t) st h Q) : Xm M pc (o0 :: o1 :: o2 :: some (.int (nI x)) :: t) st h Q := x_iinc_3 (nI w) hd hw hc (by rw [nI_add]; exact k9)
theorem x_iincN_4 {x : Nat} {n : Int} {o0 o1 o2 o3 : Option Value} {t : VLs} (w : Nat) (hd : decode M.1 pc = .ok (.iinc 4 n, 3)) (hw : Int32.ofInt n = nI w) (hc : clr o3 = o3) (k9 : Xm M (pc + 3) (o0 :: o1 :: o2 :: o3 :: some (.int (nI (x + w))) :: t) st h Q) : Xm M pc (o0 :: o1 :: o2 :: o3 :: some (.int (nI x)) :: t) st h Q := x_iinc_4 (nI w) hd hw hc (by rw [nI_add]; exact k9)
theorem x_iincN_5 {x : Nat} {n : Int} {o0 o1 o2 o3 o4 : Option Value} {t : VLs} (w : Nat) (hd : decode M.1 pc = .ok (.iinc 5 n, 3)) (hw : Int32.ofInt n = nI w) (hc : clr o4 = o4) (k9 : Xm M (pc + 3) (o0 :: o1 :: o2 :: o3 :: o4 :: some (.int (nI (x + w))) :: t) st h Q) : Xm M pc (o0 :: o1 :: o2 :: o3 :: o4 :: some (.int (nI x)) :: t) st h Q := x_iinc_5 (nI w) hd hw hc (by rw [nI_add]; exact k9)
theorem x_iincN_6 {x : Nat} {n : Int} {o0 o1 o2 o3 o4 o5 : Option Value} {t : VLs} (w : Nat) (hd : decode M.1 pc = .ok (.iinc 6 n, 3)) (hw : Int32.ofInt n = nI w) (hc : clr o5 = o5) (k9 : Xm M (pc + 3) (o0 :: o1 :: o2 :: o3 :: o4 :: o5 :: some (.int (nI (x + w))) :: t) st h Q) : Xm M pc (o0 :: o1 :: o2 :: o3 :: o4 :: o5 :: some (.int (nI x)) :: t) st h Q := x_iinc_6 (nI w) hd hw hc (by rw [nI_add]; exact k9)
theorem x_iincN_7 {x : Nat} {n : Int} {o0 o1 o2 o3 o4 o5 o6 : Option Value} {t : VLs} (w : Nat) (hd : decode M.1 pc = .ok (.iinc 7 n, 3)) (hw : Int32.ofInt n = nI w) (hc : clr o6 = o6) (k9 : Xm M (pc + 3) (o0 :: o1 :: o2 :: o3 :: o4 :: o5 :: o6 :: some (.int (nI (x + w))) :: t) st h Q) : Xm M pc (o0 :: o1 :: o2 :: o3 :: o4 :: o5 :: o6 :: some (.int (nI x)) :: t) st h Q := x_iinc_7 (nI w) hd hw hc (by rw [nI_add]; exact k9)
theorem x_iincN_8 {x : Nat} {n : Int} {o0 o1 o2 o3 o4 o5 o6 o7 : Option Value} {t : VLs} (w : Nat) (hd : decode M.1 pc = .ok (.iinc 8 n, 3)) (hw : Int32.ofInt n = nI w) (hc : clr o7 = o7) (k9 : Xm M (pc + 3) (o0 :: o1 :: o2 :: o3 :: o4 :: o5 :: o6 :: o7 :: some (.int (nI (x + w))) :: t) st h Q) : Xm M pc (o0 :: o1 :: o2 :: o3 :: o4 :: o5 :: o6 :: o7 :: some (.int (nI x)) :: t) st h Q := x_iinc_8 (nI w) hd hw hc (by rw [nI_add]; exact k9)
theorem x_iincN_9 {x : Nat} {n : Int} {o0 o1 o2 o3 o4 o5 o6 o7 o8 : Option Value} {t : VLs} (w : Nat) (hd : decode M.1 pc = .ok (.iinc 9 n, 3)) (hw : Int32.ofInt n = nI w) (hc : clr o8 = o8) (k9 : Xm M (pc + 3) (o0 :: o1 :: o2 :: o3 :: o4 :: o5 :: o6 :: o7 :: o8 :: some (.int (nI (x + w))) :: t) st h Q) : Xm M pc (o0 :: o1 :: o2 :: o3 :: o4 :: o5 :: o6 :: o7 :: o8 :: some (.int (nI x)) :: t) st h Q := x_iinc_9 (nI w) hd hw hc (by rw [nI_add]; exact k9)
theorem x_iincN_10 {x : Nat} {n : Int} {o0 o1 o2 o3 o4 o5 o6 o7 o8 o9 : Option Value} {t : VLs} (w : Nat) (hd : decode M.1 pc = .ok (.iinc 10 n, 3)) (hw : Int32.ofInt n = nI w) (hc : clr o9 = o9) (k9 : Xm M (pc + 3) (o0 :: o1 :: o2 :: o3 :: o4 :: o5 :: o6 :: o7 :: o8 :: o9 :: some (.int (nI (x + w))) :: t) st h Q) : Xm M pc (o0 :: o1 :: o2 :: o3 :: o4 :: o5 :: o6 :: o7 :: o8 :: o9 :: some (.int (nI x)) :: t) st h Q := x_iinc_10 (nI w) hd hw hc (by rw [nI_add]; exact k9)
theorem x_iincN_11 {x : Nat} {n : Int} {o0 o1 o2 o3 o4 o5 o6 o7 o8 o9 o10 : Option Value} {t : VLs} (w : Nat) (hd : decode M.1 pc = .ok (.iinc 11 n, 3)) (hw : Int32.ofInt n = nI w) (hc : clr o10 = o10) (k9 : Xm M (pc + 3) (o0 :: o1 :: o2 :: o3 :: o4 :: o5 :: o6 :: o7 :: o8 :: o9 :: o10 :: some (.int (nI (x + w))) :: t) st h Q) : Xm M pc (o0 :: o1 :: o2 :: o3 :: o4 :: o5 :: o6 :: o7 :: o8 :: o9 :: o10 :: some (.int (nI x)) :: t) st h Q := x_iinc_11 (nI w) hd hw hc (by rw [nI_add]; exact k9)
end XR
theorem up_s {c : Nat → VC} {a : Nat} {x : VC} : up c a x a = x := if_pos rfl
theorem up_n {c : Nat → VC} {a b : Nat} {x : VC} (hb : b ≠ a) : up c a x b = c b := if_neg hb
theorem inB_nI {i n : Nat} (h : i < n) (hn : n < 2 ^ 31) : inB (nI i) n = true := decide_eq_true (nI_in h hn)
def Rt (v : Value) (h : VH) : (Option Value ⊕ Nat) → VH → Prop := fun r h' => r = Sum.inl (some v) ∧ h' = h
def Rv (h : VH) : (Option Value ⊕ Nat) → VH → Prop := fun r h' => r = Sum.inl none ∧ h' = h
def Ev (g : VG) (P : (Nat → VC) → Prop) : (Option Value ⊕ Nat) → VH → Prop := fun r h' => ∃ c', r = Sum.inl none ∧ h' = (g, c') ∧ P c'
def Ei (g : VG) (P : Value → (Nat → VC) → Prop) : (Option Value ⊕ Nat) → VH → Prop := fun r h' => ∃ v c', r = Sum.inl (some v) ∧ h' = (g, c') ∧ P v c'
theorem Cm.rt {M : MI} {pc μ : Nat} {ls : VLs} {as rest : List Value} {Q : (Option Value ⊕ Nat) → VH → Prop} {v : Value} {h h1 : VH} (hc : Cm μ as h (Rt v h1)) (k : Xm M (pc + 3) ls (v :: rest) h1 Q) : Cm μ as h (Xk M pc ls rest Q) := hc.mono (fun r h' q => by obtain ⟨rfl, rfl⟩ := q; exact k)
theorem Cm.rv {M : MI} {pc μ : Nat} {ls : VLs} {as rest : List Value} {Q : (Option Value ⊕ Nat) → VH → Prop} {h h1 : VH} (hc : Cm μ as h (Rv h1)) (k : Xm M (pc + 3) ls rest h1 Q) : Cm μ as h (Xk M pc ls rest Q) := hc.mono (fun r h' q => by obtain ⟨rfl, rfl⟩ := q; exact k)
theorem Cm.ev {M : MI} {pc μ : Nat} {ls : VLs} {as rest : List Value} {Q : (Option Value ⊕ Nat) → VH → Prop} {h : VH} {g : VG} {P : (Nat → VC) → Prop} (hc : Cm μ as h (Ev g P)) (k : ∀ c', P c' → Xm M (pc + 3) ls rest (g, c') Q) : Cm μ as h (Xk M pc ls rest Q) := hc.mono (fun r h' q => by obtain ⟨c', rfl, rfl, p⟩ := q; exact k c' p)
theorem Cm.ei {M : MI} {pc μ : Nat} {ls : VLs} {as rest : List Value} {Q : (Option Value ⊕ Nat) → VH → Prop} {h : VH} {g : VG} {P : Value → (Nat → VC) → Prop} (hc : Cm μ as h (Ei g P)) (k : ∀ v c', P v c' → Xm M (pc + 3) ls (v :: rest) (g, c') Q) : Cm μ as h (Xk M pc ls rest Q) := hc.mono (fun r h' q => by obtain ⟨v, c', rfl, rfl, p⟩ := q; exact k v c' p)
theorem Xk.i {M : MI} {pc : Nat} {ls : VLs} {rest : List Value} {Q : (Option Value ⊕ Nat) → VH → Prop} {v : Value} {h : VH} (k : Xm M (pc + 3) ls (v :: rest) h Q) : Xk M pc ls rest Q (Sum.inl (some v)) h := k
theorem Xk.v {M : MI} {pc : Nat} {ls : VLs} {rest : List Value} {Q : (Option Value ⊕ Nat) → VH → Prop} {h : VH} (k : Xm M (pc + 3) ls rest h Q) : Xk M pc ls rest Q (Sum.inl none) h := k
