/-! THE SMALL MACHINE: the class, the reference and the law run by a function 'run' over a heap of numbered cells; that the great machine does what it does is shown once (part 'sound'); everything else is said of 'run' alone. -/
/-! cells: rows of ints, rows of references (by the class of what they hold), rows of longs, objects (class, fields), rows that are read alone, nothing -/
abbrev VC : Type := (Nat × (Nat → Int32)) ⊕ ((Nat × Nat × (Nat → Option Nat)) ⊕ ((Nat × (Nat → Int64)) ⊕ ((Nat × List Value) ⊕ ((Nat × (Nat → Int32)) ⊕ Unit))))
abbrev cI (n : Nat) (f : Nat → Int32) : VC := Sum.inl (n, f)
abbrev cR (t n : Nat) (f : Nat → Option Nat) : VC := Sum.inr (Sum.inl (t, n, f))
abbrev cL (n : Nat) (f : Nat → Int64) : VC := Sum.inr (Sum.inr (Sum.inl (n, f)))
abbrev cO (k : Nat) (fs : List Value) : VC := Sum.inr (Sum.inr (Sum.inr (Sum.inl (k, fs))))
abbrev cS (n : Nat) (f : Nat → Int32) : VC := Sum.inr (Sum.inr (Sum.inr (Sum.inr (Sum.inl (n, f)))))
abbrev cN : VC := Sum.inr (Sum.inr (Sum.inr (Sum.inr (Sum.inr ()))))
/-- the next cell, whether the heap's size is known, cells made, slots made -/
abbrev VG : Type := Nat × Bool × Nat × Nat
abbrev VH : Type := VG × (Nat → VC)
abbrev VLs : Type := List (Option Value)
/-- an entry of a constant pool: its kind and numbers -/
abbrev LI : Type := Nat × Nat × Nat × Int64
/-- a method: code, its pool entries, size of its locals, 1 + the class that it constructs, its handlers -/
abbrev MI : Type := ByteArray × List (Nat × LI) × (Nat × Nat) × List (Nat × Nat × Nat × Nat)
abbrev VR : Type := (Option Value ⊕ Nat) × VH
abbrev VA : Type := (Nat × VLs × List Value × VH) ⊕ ((Nat × List Value × List Value) ⊕ (Option Value ⊕ Nat))
def up (c : Nat → VC) (a : Nat) (x : VC) : Nat → VC := fun j => if j = a then x else c j
def lkf (l : List (Nat × LI)) (i : Nat) : LI := (l.lookup i).getD (99, 0, 0, 0)
def clr (o : Option Value) : Option Value := match o with
  | some v => if v.category = 2 then none else some v
  | none => none
/-- a local is written: one place -/
def set1 : Nat → Option Value → VLs → VLs
  | _, _, [] => []
  | 0, v, _ :: t => v :: t
  | 1, _, [a] => [a]
  | 1, v, a :: _ :: t => clr a :: v :: t
  | i + 2, v, a :: t => a :: set1 (i + 1) v t
/-- two places -/
def set2 : Nat → Option Value → VLs → VLs
  | 0, v, _ :: _ :: t => v :: none :: t
  | 1, v, a :: _ :: _ :: t => clr a :: v :: none :: t
  | i + 2, v, a :: t => a :: set2 (i + 1) v t
  | _, _, l => l
def entA : List Value → VLs
  | [] => []
  | v :: vs => if v.category = 2 then some v :: none :: entA vs else some v :: entA vs
def entL (n : Nat) (vs : List Value) : VLs := entA vs ++ List.replicate (n - (entA vs).length) none
/-- the kinds of the fields: true for a number -/
def fdI : Nat → List Bool
  | 0 => [false, false, false, false, true, true]
  | 1 => [false, true]
  | 2 => [false, true]
  | 3 => [false, false, false, true, true, true, true, true]
  | 4 => [false, false, false, false, false]
  | 5 => [false, false, false, true, false, true, false, true, false, false]
  | _ => []
/-- the final ones -/
def fdF : Nat → List Bool
  | 0 => [true, true, true, true, false, false]
  | 1 => [true, false]
  | 2 => [true, false]
  | 3 => [true, true, true, false, false, false, false, false]
  | 4 => [true, true, true, true, true]
  | 5 => [true, true, true, false, true, false, true, false, true, true]
  | _ => []
def dfl (k : Nat) : List Value := (fdI k).map (fun b => if b then .int 0 else .null)
def isNum (v : Value) : Bool := match v with
  | .int _ => true
  | _ => false
def isAdr (v : Value) : Bool := match v with
  | .ref _ => true
  | .null => true
  | _ => false
def jmp (pc : Nat) (off : Int) (ls : VLs) (st : List Value) (h : VH) : Option VA :=
  if 0 ≤ (pc : Int) + off then some (Sum.inl (((pc : Int) + off).toNat, ls, st, h)) else none
def nx (pc : Nat) (ls : VLs) (st : List Value) (h : VH) : Option VA := some (Sum.inl (pc, ls, st, h))
def bra (b : Bool) (pc : Nat) (off : Int) (ls : VLs) (st : List Value) (h : VH) : Option VA := if 0 ≤ (pc : Int) + off then (if b then jmp pc off ls st h else nx (pc + 3) ls st h) else none
def cnd (c : ClassFile.Cond) (x y : Int32) : Bool := match c with
  | .eq => decide (x = y)
  | .ne => decide (¬ x = y)
  | .lt => decide (x < y)
  | .ge => decide (y ≤ x)
  | .gt => decide (y < x)
  | .le => decide (x ≤ y)
def ldl (i pc' : Nat) (ls : VLs) (st : List Value) (h : VH) : Option VA := match ls[i]? with
  | some (some v) => nx pc' ls (v :: st) h
  | _ => none
def ldI (i pc' : Nat) (ls : VLs) (st : List Value) (h : VH) : Option VA := match ls[i]? with
  | some (some (.int x)) => nx pc' ls (.int x :: st) h
  | _ => none
def ldJ (i pc' : Nat) (ls : VLs) (st : List Value) (h : VH) : Option VA := match ls[i]? with
  | some (some (.long x)) => nx pc' ls (.long x :: st) h
  | _ => none
def ldD (i pc' : Nat) (ls : VLs) (st : List Value) (h : VH) : Option VA := match ls[i]? with
  | some (some (.double x)) => nx pc' ls (.double x :: st) h
  | _ => none
def ldA (i pc' : Nat) (ls : VLs) (st : List Value) (h : VH) : Option VA := match ls[i]? with
  | some (some (.ref x)) => nx pc' ls (.ref x :: st) h
  | _ => none
def stI (i pc' : Nat) (ls : VLs) (st : List Value) (h : VH) : Option VA := match st with
  | .int x :: r => if i < ls.length then nx pc' (set1 i (some (.int x)) ls) r h else none
  | _ => none
def stA (i pc' : Nat) (ls : VLs) (st : List Value) (h : VH) : Option VA := match st with
  | .ref x :: r => if i < ls.length then nx pc' (set1 i (some (.ref x)) ls) r h else none
  | _ => none
def stJ (i pc' : Nat) (ls : VLs) (st : List Value) (h : VH) : Option VA := match st with
  | .long x :: r => if i + 1 < ls.length then nx pc' (set2 i (some (.long x)) ls) r h else none
  | _ => none
def stD (i pc' : Nat) (ls : VLs) (st : List Value) (h : VH) : Option VA := match st with
  | .double x :: r => if i + 1 < ls.length then nx pc' (set2 i (some (.double x)) ls) r h else none
  | _ => none
def inB (i : Int32) (n : Nat) : Bool := decide (¬ (i < 0 ∨ n ≤ i.toNatClampNeg))
/-- how much of the stack a list of values takes -/
def catS : List Value → Nat
  | [] => 0
  | v :: t => v.category + catS t
/-- a call: the arguments off the stack -/
def cal (μ n : Nat) (st : List Value) : Option VA :=
  if n ≤ st.length ∧ catS (st.drop n) ≤ 8 then some (Sum.inr (Sum.inl (μ, (st.take n).reverse, st.drop n))) else none
def aGet (q : LI) (pc : Nat) (ls : VLs) (st : List Value) (h : VH) : Option VA := match st with
  | .ref a :: r => match h.2 a with
    | Sum.inr (Sum.inr (Sum.inr (Sum.inl (k, fs)))) => if q.1 ≤ 1 ∧ k = q.2.1 then (match fs[q.2.2.1]? with
      | some v => nx (pc + 3) ls (v :: r) h
      | none => none) else none
    | _ => none
  | _ => none
def okf (b : Bool) (v : Value) : Bool := if b then isNum v else isAdr v
def okP (ini k n t j : Nat) (v : Value) : Bool := decide (t ≤ 1) && decide (j < n) && okf ((fdI k).getD j false) v && (!((fdF k).getD j true) || (decide (t = 0) && decide (ini = k + 1)))
def aPut (ini : Nat) (q : LI) (pc : Nat) (ls : VLs) (st : List Value) (h : VH) : Option VA := match st with
  | v :: .ref a :: r => match h.2 a with
    | Sum.inr (Sum.inr (Sum.inr (Sum.inl (k, fs)))) => if k = q.2.1 ∧ okP ini k fs.length q.1 q.2.2.1 v = true then nx (pc + 3) ls r (h.1, up h.2 a (cO k (fs.set q.2.2.1 v))) else none
    | _ => none
  | _ => none
def aNewI (pc : Nat) (ls : VLs) (st : List Value) (h : VH) : Option VA := match st with
  | .int n :: r => if ¬ n < 0 ∧ n.toNatClampNeg ≤ 100000 ∧ h.1.2.1 = true then
      nx (pc + 2) ls (.ref h.1.1 :: r) ((h.1.1 + 1, true, h.1.2.2.1 + 1, h.1.2.2.2 + n.toNatClampNeg), up h.2 h.1.1 (cI n.toNatClampNeg (fun _ => 0))) else none
  | _ => none
def aNewJ (pc : Nat) (ls : VLs) (st : List Value) (h : VH) : Option VA := match st with
  | .int n :: r => if ¬ n < 0 ∧ n.toNatClampNeg ≤ 100000 ∧ h.1.2.1 = true then
      nx (pc + 2) ls (.ref h.1.1 :: r) ((h.1.1 + 1, true, h.1.2.2.1 + 1, h.1.2.2.2 + n.toNatClampNeg), up h.2 h.1.1 (cL n.toNatClampNeg (fun _ => 0))) else none
  | _ => none
/-- the classes of which there are rows -/
def okA (t : Nat) : Bool := (t == 0) || ((t == 2) || (t == 3))
def aNewR (q : LI) (pc : Nat) (ls : VLs) (st : List Value) (h : VH) : Option VA := match st with
  | .int n :: r => if q.1 = 5 ∧ okA q.2.1 = true ∧ ¬ n < 0 ∧ n.toNatClampNeg ≤ 100000 ∧ h.1.2.1 = true then
      nx (pc + 3) ls (.ref h.1.1 :: r) ((h.1.1 + 1, true, h.1.2.2.1 + 1, h.1.2.2.2 + n.toNatClampNeg), up h.2 h.1.1 (cR q.2.1 n.toNatClampNeg (fun _ => none))) else none
  | _ => none
/-- behind 'new' at pc there stand dup, ldc, <init> of the exception E, athrow -/
def thr (M : MI) (pc E : Nat) : Bool := match decode M.1 (pc + 3) with
  | .ok (.dup, 1) => (match decode M.1 (pc + 4) with
    | .ok (.ldc is, 2) => (match decode M.1 (pc + 6) with
      | .ok (.invokespecial ic, 3) => (match decode M.1 (pc + 9) with
        | .ok (.athrow, 1) => (lkf M.2.1 is).1 == 13 && ((lkf M.2.1 ic).1 == 12 && (lkf M.2.1 ic).2.1 == E)
        | _ => false)
      | _ => false)
    | _ => false)
  | _ => false
/-- 'new': an object (5), or a throw: new, dup, ldc, <init>, athrow (8) -/
def aNew (M : MI) (q : LI) (pc : Nat) (ls : VLs) (st : List Value) (h : VH) : Option VA :=
  if q.1 = 5 then (if h.1.2.1 = true then nx (pc + 3) ls (.ref h.1.1 :: st) ((h.1.1 + 1, true, h.1.2.2.1 + 1, h.1.2.2.2 + (dfl q.2.1).length), up h.2 h.1.1 (cO q.2.1 (dfl q.2.1))) else none)
  else if q.1 = 8 ∧ M.2.2.2 = [] ∧ st = [] ∧ thr M pc q.2.1 = true then some (Sum.inr (Sum.inr (Sum.inr q.2.1))) else none
def aIld (pc : Nat) (ls : VLs) (st : List Value) (h : VH) : Option VA := match st with
  | .int i :: .ref a :: r => match h.2 a with
    | Sum.inl (n, f) => if inB i n then nx (pc + 1) ls (.int (f i.toNatClampNeg) :: r) h else none
    | Sum.inr (Sum.inr (Sum.inr (Sum.inr (Sum.inl (n, f))))) => if inB i n then nx (pc + 1) ls (.int (f i.toNatClampNeg) :: r) h else none
    | _ => none
  | _ => none
def aJld (pc : Nat) (ls : VLs) (st : List Value) (h : VH) : Option VA := match st with
  | .int i :: .ref a :: r => match h.2 a with
    | Sum.inr (Sum.inr (Sum.inl (n, f))) => if inB i n then nx (pc + 1) ls (.long (f i.toNatClampNeg) :: r) h else none
    | _ => none
  | _ => none
def aAld (pc : Nat) (ls : VLs) (st : List Value) (h : VH) : Option VA := match st with
  | .int i :: .ref a :: r => match h.2 a with
    | Sum.inr (Sum.inl (_, n, f)) => if inB i n then nx (pc + 1) ls (va_rf (f i.toNatClampNeg) :: r) h else none
    | _ => none
  | _ => none
def aIst (pc : Nat) (ls : VLs) (st : List Value) (h : VH) : Option VA := match st with
  | .int x :: .int i :: .ref a :: r => match h.2 a with
    | Sum.inl (n, f) => if inB i n then nx (pc + 1) ls r (h.1, up h.2 a (cI n (upd f i.toNatClampNeg x))) else none
    | _ => none
  | _ => none
def aJst (pc : Nat) (ls : VLs) (st : List Value) (h : VH) : Option VA := match st with
  | .long x :: .int i :: .ref a :: r => match h.2 a with
    | Sum.inr (Sum.inr (Sum.inl (n, f))) => if inB i n then nx (pc + 1) ls r (h.1, up h.2 a (cL n (vp_updL f i.toNatClampNeg x))) else none
    | _ => none
  | _ => none
def aAst (pc : Nat) (ls : VLs) (st : List Value) (h : VH) : Option VA := match st with
  | .ref v :: .int i :: .ref a :: r => match h.2 a with
    | Sum.inr (Sum.inl (t, n, f)) => match h.2 v with
      | Sum.inr (Sum.inr (Sum.inr (Sum.inl (k, _)))) => if inB i n ∧ k = t then nx (pc + 1) ls r (h.1, up h.2 a (cR t n (va_up f i.toNatClampNeg (some v)))) else none
      | _ => none
    | _ => none
  | _ => none
def aLen (pc : Nat) (ls : VLs) (st : List Value) (h : VH) : Option VA := match st with
  | .ref a :: r => match h.2 a with
    | Sum.inl (n, _) => nx (pc + 1) ls (.int (nI n) :: r) h
    | Sum.inr (Sum.inl (_, n, _)) => nx (pc + 1) ls (.int (nI n) :: r) h
    | Sum.inr (Sum.inr (Sum.inl (n, _))) => nx (pc + 1) ls (.int (nI n) :: r) h
    | Sum.inr (Sum.inr (Sum.inr (Sum.inr (Sum.inl (n, _))))) => nx (pc + 1) ls (.int (nI n) :: r) h
    | _ => none
  | _ => none
def aCpy (pc : Nat) (ls : VLs) (st : List Value) (h : VH) : Option VA := match st with
  | .int n :: .int dp :: .ref d :: .int sp :: .ref s :: r => match h.2 s with
    | Sum.inl (n0, f) => match h.2 d with
      | Sum.inl (n1, g) => if catS r ≤ 8 ∧ ¬ sp < 0 ∧ ¬ dp < 0 ∧ ¬ n < 0 ∧ sp.toNatClampNeg + n.toNatClampNeg ≤ n0 ∧ dp.toNatClampNeg + n.toNatClampNeg ≤ n1 then nx (pc + 3) ls r (h.1, up h.2 d (cI n1 (va_cpy f g sp.toNatClampNeg dp.toNatClampNeg n.toNatClampNeg))) else none
      | _ => none
    | _ => none
  | _ => none
def aSta (q : LI) (pc : Nat) (ls : VLs) (st : List Value) (h : VH) : Option VA :=
  if q.1 = 3 then cal q.2.1 q.2.2.1 st
  else if q.1 = 9 then (if q.2.1 = 0 then (match st with
      | .int y :: .int x :: r => if catS r ≤ 8 then nx (pc + 3) ls (.int (if x < y then y else x) :: r) h else none
      | _ => none)
    else if q.2.1 = 1 then (match st with
      | .int y :: .int x :: r => if catS r ≤ 8 then nx (pc + 3) ls (.int (if x < y then x else y) :: r) h else none
      | _ => none)
    else aCpy pc ls st h)
  else none
/-- an object of the class k is the receiver -/
def isK (h : VH) (k : Nat) (v : Option Value) : Bool := match v with
  | some (.ref a) => match h.2 a with
    | Sum.inr (Sum.inr (Sum.inr (Sum.inl (k', _)))) => k == k'
    | _ => false
  | _ => false
def aVir (q : LI) (st : List Value) (h : VH) : Option VA :=
  if q.1 = 2 ∧ isK h q.2.2.2.toNatClampNeg st[q.2.2.1 - 1]? = true ∧ 1 ≤ q.2.2.1 then cal q.2.1 q.2.2.1 st else none
def aSpc (q : LI) (pc : Nat) (ls : VLs) (st : List Value) (h : VH) : Option VA :=
  if q.1 = 4 ∧ 1 ≤ q.2.2.1 ∧ isK h q.2.2.2.toNatClampNeg st[q.2.2.1 - 1]? = true then cal q.2.1 q.2.2.1 st
  else if q.1 = 6 then (match st with
    | [.ref _] => nx (pc + 3) ls [] h
    | _ => none)
  else none
def aTab (dflt lo hi : Int) (offs : Array Int) (pc : Nat) (ls : VLs) (st : List Value) (h : VH) : Option VA := match st with
  | .int x :: r => if x.toInt < lo ∨ hi < x.toInt then jmp pc dflt ls r h else (match offs[(x.toInt - lo).toNat]? with
    | some off => jmp pc off ls r h
    | none => none)
  | _ => none
/-- what the method returns, by its number: up to 10 nothing, 11 an int, 12 a boolean, 13 a long, 14 a double, 15 a reference -/
def rz (M : MI) (x : Int32) : Bool := (M.2.2.1.2 == 11) || ((M.2.2.1.2 == 12) && ((x == 0) || (x == 1)))
/-- the length of an instruction that the machine knows -/
def okL (ins : ClassFile.Instr) (len : Nat) : Bool := match ins with
  | .tableswitch .. => true
  | .aload _ => len == 2
  | .iload _ => len == 2
  | .lload _ => len == 2
  | .dload _ => len == 2
  | .astore _ => len == 2
  | .istore _ => len == 2
  | .lstore _ => len == 2
  | .dstore _ => len == 2
  | .bipush _ => len == 2
  | .newarray _ => len == 2
  | .iinc _ _ => len == 3
  | .sipush _ => len == 3
  | .ldc2_w _ => len == 3
  | .ifCond _ _ => len == 3
  | .if_icmp _ _ => len == 3
  | .goto _ => len == 3
  | .getfield _ => len == 3
  | .putfield _ => len == 3
  | .getstatic _ => len == 3
  | .anewarray _ => len == 3
  | .new _ => len == 3
  | .invokestatic _ => len == 3
  | .invokevirtual _ => len == 3
  | .invokespecial _ => len == 3
  | _ => len == 1
def act (M : MI) (ins : ClassFile.Instr) (len pc : Nat) (ls : VLs) (st : List Value) (h : VH) : Option VA := match ins with
  | .aload_n k => ldA k (pc + 1) ls st h
  | .aload i => ldA i (pc + 2) ls st h
  | .iload_n k => ldI k (pc + 1) ls st h
  | .iload i => ldI i (pc + 2) ls st h
  | .lload_n k => ldJ k (pc + 1) ls st h
  | .lload i => ldJ i (pc + 2) ls st h
  | .dload_n k => ldD k (pc + 1) ls st h
  | .dload i => ldD i (pc + 2) ls st h
  | .istore_n k => stI k (pc + 1) ls st h
  | .istore i => stI i (pc + 2) ls st h
  | .astore_n k => stA k (pc + 1) ls st h
  | .astore i => stA i (pc + 2) ls st h
  | .lstore_n k => stJ k (pc + 1) ls st h
  | .lstore i => stJ i (pc + 2) ls st h
  | .dstore_n k => stD k (pc + 1) ls st h
  | .dstore i => stD i (pc + 2) ls st h
  | .iinc i n => (match ls[i]? with
    | some (some (.int x)) => if i < ls.length then nx (pc + 3) (set1 i (some (.int (x + Int32.ofInt n))) ls) st h else none
    | _ => none)
  | .iconst n => nx (pc + 1) ls (.int (Int32.ofInt n) :: st) h
  | .bipush n => nx (pc + 2) ls (.int (Int8.ofInt n).toInt32 :: st) h
  | .sipush n => nx (pc + 3) ls (.int (Int16.ofInt n).toInt32 :: st) h
  | .lconst n => nx (pc + 1) ls (.long (Int64.ofNat n) :: st) h
  | .ldc2_w i => if (lkf M.2.1 i).1 = 10 then nx (pc + 3) ls (.long (lkf M.2.1 i).2.2.2 :: st) h else none
  | .dup => (match st with
    | v :: r => if v.category = 1 then nx (pc + 1) ls (v :: v :: r) h else none
    | _ => none)
  | .dup2 => (match st with
    | va :: vb :: r => if va.category = 1 ∧ vb.category = 1 then nx (pc + 1) ls (va :: vb :: va :: vb :: r) h else none
    | _ => none)
  | .pop => (match st with
    | v :: r => if v.category = 1 then nx (pc + 1) ls r h else none
    | _ => none)
  | .iadd => (match st with
    | .int y :: .int x :: r => nx (pc + 1) ls (.int (x + y) :: r) h
    | _ => none)
  | .isub => (match st with
    | .int y :: .int x :: r => nx (pc + 1) ls (.int (x - y) :: r) h
    | _ => none)
  | .imul => (match st with
    | .int y :: .int x :: r => nx (pc + 1) ls (.int (x * y) :: r) h
    | _ => none)
  | .irem => (match st with
    | .int y :: .int x :: r => if y = 0 then none else nx (pc + 1) ls (.int (x - x / y * y) :: r) h
    | _ => none)
  | .iand => (match st with
    | .int y :: .int x :: r => nx (pc + 1) ls (.int (x &&& y) :: r) h
    | _ => none)
  | .ixor => (match st with
    | .int y :: .int x :: r => nx (pc + 1) ls (.int (x ^^^ y) :: r) h
    | _ => none)
  | .ladd => (match st with
    | .long y :: .long x :: r => nx (pc + 1) ls (.long (x + y) :: r) h
    | _ => none)
  | .lsub => (match st with
    | .long y :: .long x :: r => nx (pc + 1) ls (.long (x - y) :: r) h
    | _ => none)
  | .lmul => (match st with
    | .long y :: .long x :: r => nx (pc + 1) ls (.long (x * y) :: r) h
    | _ => none)
  | .lcmp => (match st with
    | .long y :: .long x :: r => nx (pc + 1) ls (.int (lg_cmp x y) :: r) h
    | _ => none)
  | .i2l => (match st with
    | .int x :: r => nx (pc + 1) ls (.long x.toInt64 :: r) h
    | _ => none)
  | .i2d => (match st with
    | .int x :: r => nx (pc + 1) ls (.double (FP.i2d x) :: r) h
    | _ => none)
  | .dconst d => if d = 1 then nx (pc + 1) ls (.double FP.dconst1 :: st) h else none
  | .ddiv => (match st with
    | .double y :: .double x :: r => if FP.ddiv x y &&& 0x7fffffffffffffff ≤ 0x7ff0000000000000 then nx (pc + 1) ls (.double (FP.ddiv x y) :: r) h else none
    | _ => none)
  | .dcmp op => (match st with
    | .double y :: .double x :: r => nx (pc + 1) ls (.int (Op.cmpValue (FP.dcmp x y) op) :: r) h
    | _ => none)
  | .ifCond c off => (match st with
    | .int x :: r => bra (cnd c x 0) pc off ls r h
    | _ => none)
  | .if_icmp c off => (match st with
    | .int y :: .int x :: r => bra (cnd c x y) pc off ls r h
    | _ => none)
  | .goto off => jmp pc off ls st h
  | .tableswitch dflt lo hi offs => aTab dflt lo hi offs pc ls st h
  | .getfield i => aGet (lkf M.2.1 i) pc ls st h
  | .putfield i => aPut M.2.2.1.2 (lkf M.2.1 i) pc ls st h
  | .getstatic i => if (lkf M.2.1 i).1 = 7 then nx (pc + 3) ls (.ref 1 :: st) h else none
  | .newarray t => if t = .int then aNewI pc ls st h else if t = .long then aNewJ pc ls st h else none
  | .anewarray i => aNewR (lkf M.2.1 i) pc ls st h
  | .new i => aNew M (lkf M.2.1 i) pc ls st h
  | .arraylength => aLen pc ls st h
  | .iaload => aIld pc ls st h
  | .laload => aJld pc ls st h
  | .aaload => aAld pc ls st h
  | .iastore => aIst pc ls st h
  | .lastore => aJst pc ls st h
  | .aastore => aAst pc ls st h
  | .invokestatic i => aSta (lkf M.2.1 i) pc ls st h
  | .invokevirtual i => aVir (lkf M.2.1 i) st h
  | .invokespecial i => aSpc (lkf M.2.1 i) pc ls st h
  | .return_ => (match st with
    | [] => if M.2.2.1.2 < 11 then some (Sum.inr (Sum.inr (Sum.inl none))) else none
    | _ => none)
  | .ireturn => (match st with
    | [.int x] => if rz M x = true then some (Sum.inr (Sum.inr (Sum.inl (some (.int x))))) else none
    | _ => none)
  | .lreturn => (match st with
    | [.long x] => if M.2.2.1.2 = 13 then some (Sum.inr (Sum.inr (Sum.inl (some (.long x))))) else none
    | _ => none)
  | .dreturn => (match st with
    | [.double x] => if M.2.2.1.2 = 14 then some (Sum.inr (Sum.inr (Sum.inl (some (.double x))))) else none
    | _ => none)
  | .areturn => (match st with
    | [.ref x] => if M.2.2.1.2 = 15 then some (Sum.inr (Sum.inr (Sum.inl (some (.ref x))))) else none
    | _ => none)
  | _ => none
def hnd (hh : List (Nat × Nat × Nat × Nat)) (pc E : Nat) : Option Nat := match hh with
  | [] => none
  | q :: t => if q.1 ≤ pc ∧ pc < q.2.1 ∧ q.2.2.2 = E then some q.2.2.1 else hnd t pc E
