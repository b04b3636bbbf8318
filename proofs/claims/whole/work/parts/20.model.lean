/-! THE MODEL: what each call answers, and what the state is then. inr E: an exception (1: index, 2: argument, 3: state) -/
abbrev n1 (σ : Sg) : Int32 := σ.2.2.2.1
abbrev n2 (σ : Sg) : Int32 := σ.2.2.2.2.1
abbrev n3 (σ : Sg) : Int32 := σ.2.2.2.2.2.1
abbrev n4 (σ : Sg) : Int32 := σ.2.2.2.2.2.2.1
abbrev n5 (σ : Sg) : Int32 := σ.2.2.2.2.2.2.2
abbrev MR : Type := (Value ⊕ Nat) × St
def StOK (S : St) : Prop := totM S.1 ≤ 250 ∧ ∀ τ ∈ S.2.2, totM τ ≤ 250
/-- the state is saved, and is σ then -/
abbrev sv (S : St) (σ : Sg) : St := (σ, S.2.1, saveH S.2.2 S.1)
def buyM (l m : Int32) (S : St) : MR := match ix l 27 with
  | none => (Sum.inr 1, S)
  | some a => match rg m 1 30 with
    | none => (Sum.inr 2, S)
    | some n => if totM S.1 + n ≤ 250 then (Sum.inl (.int (nI (buyB S.1.1 a n a).length)), sv S (buyB S.1.1 a n, S.1.2.1, S.1.2.2.1, n1 S.1, n2 S.1, n3 S.1 + n2 S.1 * nI n, n4 S.1, n5 S.1)) else (Sum.inr 3, S)
def lk (T : List Nat) (B : Bx) (x : Nat) : Nat := T.count x - (B x).count x
def blN (T : List Nat) (pr : Int32) (B : Bx) (co : Int32) : Nat → Bx × Int32
  | 0 => (B, co)
  | n + 1 => (buyB (blN T pr B co n).1 n (lk T (blN T pr B co n).1 n), (blN T pr B co n).2 + pr * nI (lk T (blN T pr B co n).1 n))
def buyLackingM (S : St) : MR := if totM S.1 + sumN (lk S.2.1 S.1.1) 27 ≤ 250 then (Sum.inl (.int (nI (sumN (lk S.2.1 S.1.1) 27))), sv S ((blN S.2.1 (n2 S.1) S.1.1 (n3 S.1) 27).1, S.1.2.1, S.1.2.2.1, n1 S.1, n2 S.1, (blN S.2.1 (n2 S.1) S.1.1 (n3 S.1) 27).2, n4 S.1, n5 S.1)) else (Sum.inr 3, S)
def spillM (l l2 m : Int32) (S : St) : MR := match ix l 27 with
  | none => (Sum.inr 1, S)
  | some a => match ix l2 27 with
    | none => (Sum.inr 1, S)
    | some b => if a = b then (Sum.inr 2, S) else match rg m 1 30 with
      | none => (Sum.inr 2, S)
      | some n => if n ≤ (S.1.1 a).length then (Sum.inl (.int (nI ((spl a b n S.1.1) a).length)), sv S (spl a b n S.1.1, S.1.2)) else (Sum.inr 3, S)
def cleanM (l : Int32) (S : St) : MR := match ix l 27 with
  | none => (Sum.inr 1, S)
  | some a => (Sum.inl (.int (nI (foul S.1.1 a))), sv S (cleanB S.1.1 a, S.1.2.1, S.1.2.2.1, n1 S.1, n2 S.1, n3 S.1, n4 S.1 + nI 2 * nI (foul S.1.1 a), n5 S.1))
def setM (p q : Int32) (S : St) : MR := if ¬ p = 0 ∧ rg p 2 50 = none then (Sum.inr 2, S) else match rg q 0 99 with
  | none => (Sum.inr 2, S)
  | some _ => (Sum.inl (.int (n1 S.1)), sv S (S.1.1, S.1.2.1, S.1.2.2.1, p, q, n3 S.1, n4 S.1, n5 S.1))
def optV (o : Option Nat) : Int32 := ixV o
def letV (S : St) (a : Nat) : Nat → Int32
  | 0 => nI (S.1.1 a).length
  | 1 => nI (foul S.1.1 a)
  | 2 => nI (sumN (fun b => (S.1.1 b).count a) 27)
  | 3 => nI (sumN (fun j => (S.1.2.1 j).flatten.countP (fun q => q.2.1 == a)) 3)
  | 4 => nI (S.1.2.2.1.count a)
  | 5 => nI (wd a)
  | 6 => ixV (S.1.1 a).getLast?
  | _ => nI (lk S.2.1 S.1.1 a)
def letterM (l w : Int32) (S : St) : MR := match ix l 27 with
  | none => (Sum.inr 1, S)
  | some a => match rg w 0 7 with
    | none => (Sum.inr 2, S)
    | some k => (Sum.inl (.int (letV S a k)), S)
def inBoxM (l i : Int32) (S : St) : MR := match ix l 27 with
  | none => (Sum.inr 1, S)
  | some a => match ix i (S.1.1 a).length with
    | none => (Sum.inr 1, S)
    | some j => (Sum.inl (.int (nI ((S.1.1 a).getD ((S.1.1 a).length - 1 - j) 0))), S)
def valueM (w : Int32) (S : St) : MR := match rg w 0 11 with
  | none => (Sum.inr 2, S)
  | some k => (Sum.inl (.int (valM S.1 k)), S)
/-- the places, laid into lines as long as those of L -/
def reL : List (List Pl) → List Pl → List (List Pl)
  | [], _ => []
  | l :: L, p => p.take l.length :: reL L (p.drop l.length)
def correctM (f : Int32) (S : St) : MR := match ix f 3 with
  | none => (Sum.inr 1, S)
  | some j => (Sum.inl (.int (nI (corL (S.1.2.1 j).flatten S.1.1).2.2)), sv S ((corL (S.1.2.1 j).flatten S.1.1).1, uf S.1.2.1 j (reL (S.1.2.1 j) (corL (S.1.2.1 j).flatten S.1.1).2.1), S.1.2.2.1, n1 S.1, n2 S.1, n3 S.1, n4 S.1 + nI 3 * nI (corL (S.1.2.1 j).flatten S.1.1).2.2, n5 S.1))
def distributeM (f : Int32) (S : St) : MR := match ix f 3 with
  | none => (Sum.inr 1, S)
  | some j => (Sum.inl (.int (nI (S.1.2.1 j).flatten.length)), sv S ((disL (n1 S.1) (S.1.2.1 j).flatten S.1.1 (n5 S.1)).1, uf S.1.2.1 j [], S.1.2.2.1, n1 S.1, n2 S.1, n3 S.1, n4 S.1 + nI (S.1.2.1 j).flatten.length, (disL (n1 S.1) (S.1.2.1 j).flatten S.1.1 (n5 S.1)).2))
def pieM (f : Int32) (S : St) : MR := match ix f 3 with
  | none => (Sum.inr 1, S)
  | some j => (Sum.inl (.int (nI (S.1.2.2.1 ++ srt (S.1.2.1 j).flatten).length)), sv S (S.1.1, uf S.1.2.1 j [], S.1.2.2.1 ++ srt (S.1.2.1 j).flatten, S.1.2.2.2))
def sortHeapM (m : Int32) (S : St) : MR := match rg m 1 99 with
  | none => (Sum.inr 2, S)
  | some n => (Sum.inl (.int (nI (min n S.1.2.2.1.length))), sv S (bkL (S.1.2.2.1.take (min n S.1.2.2.1.length)) S.1.1, S.1.2.1, S.1.2.2.1.drop (min n S.1.2.2.1.length), n1 S.1, n2 S.1, n3 S.1, n4 S.1 + nI (min n S.1.2.2.1.length), n5 S.1))
def foV (S : St) (j : Nat) : Nat → Int32
  | 0 => nI (S.1.2.1 j).length
  | 1 => nI (S.1.2.1 j).flatten.length
  | 2 => nI ((S.1.2.1 j).flatten.countP wrg)
  | 3 => nI ((S.1.2.1 j).flatten.countP (fun q => q.2.2 == 1))
  | _ => nI (corL (S.1.2.1 j).flatten S.1.1).2.2
def formeM (f w : Int32) (S : St) : MR := match ix f 3 with
  | none => (Sum.inr 1, S)
  | some j => match rg w 0 4 with
    | none => (Sum.inr 2, S)
    | some k => (Sum.inl (.int (foV S j k)), S)
def placesM (f i : Int32) (S : St) : MR := match ix f 3 with
  | none => (Sum.inr 1, S)
  | some j => match ix i (S.1.2.1 j).length with
    | none => (Sum.inr 1, S)
    | some n => (Sum.inl (.int (nI ((S.1.2.1 j).getD n []).length)), S)
def placeM (f i p w : Int32) (S : St) : MR := match ix f 3 with
  | none => (Sum.inr 1, S)
  | some j => match ix i (S.1.2.1 j).length with
    | none => (Sum.inr 1, S)
    | some n => match ix p ((S.1.2.1 j).getD n []).length with
      | none => (Sum.inr 1, S)
      | some q => match rg w 0 3 with
        | none => (Sum.inr 2, S)
        | some k => (Sum.inl (.int (nI (abt (((S.1.2.1 j).getD n []).getD q (0, 0, 0)) k))), S)
def proofM (f i : Int32) (S : St) : MR := match ix f 3 with
  | none => (Sum.inr 1, S)
  | some j => if i < 0 then (Sum.inr 1, S) else (Sum.inl (.int (ixV (errL 0 (S.1.2.1 j) i.toNatClampNeg))), S)
def inHeapM (i : Int32) (S : St) : MR := match ix i S.1.2.2.1.length with
  | none => (Sum.inr 1, S)
  | some j => (Sum.inl (.int (nI (S.1.2.2.1.getD j 0))), S)
/-- the text, set now: boxes and places -/
def goesM (T : List Nat) (B : Bx) : Option (Bx × List Pl) := if T = [] then none else setT T B
def setLineM (f : Int32) (S : St) : MR := match ix f 3 with
  | none => (Sum.inr 1, S)
  | some j => if (S.1.2.1 j).length < 5 then (match goesM S.2.1 S.1.1 with
    | none => (Sum.inr 3, S)
    | some r => (Sum.inl (.int (nI (S.1.2.1 j).length)), sv S (r.1, uf S.1.2.1 j (S.1.2.1 j ++ [r.2]), S.1.2.2.1, n1 S.1, n2 S.1, n3 S.1, n4 S.1 + nI S.2.1.length, n5 S.1))) else (Sum.inr 3, S)
def errIfV (S : St) : Int32 := match goesM S.2.1 S.1.1 with
  | none => -1
  | some r => nI (r.2.countP wrg)
def turIfV (S : St) : Int32 := match goesM S.2.1 S.1.1 with
  | none => -1
  | some r => nI (r.2.countP (fun q => q.2.2 == 1))
def copN (T : List Nat) : Nat → Bx → Nat
  | 0, _ => 0
  | n + 1, B => match goesM T B with
    | none => 0
    | some r => if r.2.countP wrg = 0 then copN T n r.1 + 1 else 0
def copV (S : St) : Int32 := if S.2.1 = [] then -1 else nI (copN S.2.1 250 S.1.1)
/-- the best of the first n formes, and its errors -/
def besN (S : St) : Nat → Option Nat × Nat
  | 0 => (none, 17)
  | n + 1 => match goesM S.2.1 (disL (n1 S.1) (S.1.2.1 n).flatten S.1.1 (n5 S.1)).1 with
    | none => besN S n
    | some r => if r.2.countP wrg < (besN S n).2 then (some n, r.2.countP wrg) else besN S n
def besV (S : St) : Int32 := ixV (besN S 3).1
def ordV (S : St) : UInt64 := if SB S.1.1 = 0 then FP.dconst1 else FP.ddiv (FP.i2d (nI (SB S.1.1 - sumN (foul S.1.1) 27))) (FP.i2d (nI (SB S.1.1)))
def appendM (v : Int32) (S : St) : MR := if v = nI 32 then (if S.2.1.length < 16 then (Sum.inl (.int (nI (S.2.1.length + 1))), (S.1, S.2.1 ++ [26], S.2.2)) else (Sum.inr 3, S)) else match rg v 97 122 with
  | none => (Sum.inr 2, S)
  | some n => if S.2.1.length < 16 then (Sum.inl (.int (nI (S.2.1.length + 1))), (S.1, S.2.1 ++ [n - 97], S.2.2)) else (Sum.inr 3, S)
def clearM (S : St) : MR := (Sum.inl (.int (nI S.2.1.length)), (S.1, [], S.2.2))
def undoM (S : St) : MR := match S.2.2.getLast? with
  | none => (Sum.inr 3, S)
  | some τ => (Sum.inl (.int (nI (S.2.2.length - 1))), (τ, S.2.1, S.2.2.dropLast))
/-! the digest -/
def dgV (S : St) : Nat → Int64 → Int64
  | 0, h => h
  | n + 1, h => 31 * dgV S n h + (valM S.1 n).toInt64
def dgLk (S : St) (a : Nat) : Nat → Int64 → Int64
  | 0, h => h
  | n + 1, h => 31 * dgLk S a n h + (letV S a n).toInt64
def dgL (S : St) : Nat → Int64 → Int64
  | 0, h => h
  | n + 1, h => mixL (S.1.1 n) (dgLk S n 8 (dgL S n h))
def dgFk (S : St) (j : Nat) : Nat → Int64 → Int64
  | 0, h => h
  | n + 1, h => 31 * dgFk S j n h + (foV S j n).toInt64
def dgF (S : St) : Nat → Int64 → Int64
  | 0, h => h
  | n + 1, h => mixFo (S.1.2.1 n) (dgFk S n 5 (dgF S n h))
def dig (S : St) : Int64 := 31 * mixL S.1.2.2.1 (dgF S 3 (dgL S 27 (dgV S 12 (mixL S.2.1 (31 * 3449 + lN S.2.1.length))))) + lN S.2.2.length
