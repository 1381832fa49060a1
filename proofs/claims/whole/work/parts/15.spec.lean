/-! WHAT THE CALLS ANSWER AND MAKE, in words of versions: a tree and whether it is being edited. -/
abbrev St : Type := List (Tr × Bool)
def T0 : Tr := ([], fun _ => [], 0)
def okS (S : St) : Prop := 1 ≤ S.length ∧ S.length ≤ 40 ∧ ∀ q ∈ S, wfT 4 q.1
abbrev vOk (S : St) (v : Int32) : Prop := 0 ≤ v.toInt ∧ v.toInt < S.length
def vT (S : St) (v : Int32) : Tr := (gd (T0, false) S v.toInt.toNat).1
def vO (S : St) (v : Int32) : Bool := (gd (T0, false) S v.toInt.toNat).2
abbrev frz (S : St) (v : Int32) : Prop := vOk S v ∧ vO S v = false
abbrev opn (S : St) (v : Int32) : Prop := vOk S v ∧ vO S v = true
abbrev plc (S : St) (v i : Int32) : Prop := 0 ≤ i.toInt ∧ i.toInt < (vT S v).1.length
def setT (T : Tr) (i : Int32) (x : Int32) : Tr := (T.1.set i.toInt.toNat x, T.2)
def sKeep (S : St) (T : Tr) (o : Bool) : Int32 × St := if 4 < T.2.2 then (-4, S) else (nI S.length, S ++ [(T, o)])
def sGrow (S : St) (v : Int32) (T : Tr) : Int32 × St := if ¬ frz S v then (-1, S) else if 40 ≤ S.length then (-2, S) else if 80 < (vT S v).1.length + 1 then (-3, S) else sKeep S T false
def sApp (S : St) (v x : Int32) : Int32 × St := sGrow S v (addEnd (vT S v) x)
def sPre (S : St) (v x : Int32) : Int32 × St := sGrow S v (addBeg (vT S v) x)
def sSet (S : St) (v i x : Int32) : Int32 × St := if ¬ (frz S v ∧ plc S v i) then (-1, S) else if 40 ≤ S.length then (-2, S) else sKeep S (setT (vT S v) i x) false
def sCat (S : St) (a b : Int32) : Int32 × St := if ¬ (frz S a ∧ frz S b) then (-1, S) else if 40 ≤ S.length then (-2, S) else if 80 < (vT S a).1.length + (vT S b).1.length then (-3, S) else sKeep S (joinT (vT S a) (vT S b)) false
def sSli (S : St) (v f t : Int32) : Int32 × St := if ¬ (frz S v ∧ 0 ≤ f.toInt ∧ f.toInt ≤ t.toInt ∧ t.toInt ≤ (vT S v).1.length) then (-1, S) else if 40 ≤ S.length then (-2, S) else sKeep S (cutT (vT S v) f.toInt.toNat t.toInt.toNat) false
def sIns (S : St) (v i x : Int32) : Int32 × St := if ¬ (frz S v ∧ 0 ≤ i.toInt ∧ i.toInt ≤ (vT S v).1.length) then (-1, S) else if 40 ≤ S.length then (-2, S) else if 80 < (vT S v).1.length + 1 then (-3, S) else
  sKeep S (joinT (addEnd (cutT (vT S v) 0 i.toInt.toNat) x) (cutT (vT S v) i.toInt.toNat (vT S v).1.length)) false
def sRem (S : St) (v i : Int32) : Int32 × St := if ¬ (frz S v ∧ plc S v i) then (-1, S) else if 40 ≤ S.length then (-2, S) else
  sKeep S (joinT (cutT (vT S v) 0 i.toInt.toNat) (cutT (vT S v) (i.toInt.toNat + 1) (vT S v).1.length)) false
def sThaw (S : St) (v : Int32) : Int32 × St := if ¬ frz S v then (-1, S) else if 40 ≤ S.length then (-2, S) else sKeep S (vT S v) true
def sPush (S : St) (v x : Int32) : Int32 × St := if ¬ opn S v ∨ 80 ≤ (vT S v).1.length then (0, S) else if 4 < (addEnd (vT S v) x).2.2 then (0, S) else (1, S.set v.toInt.toNat (addEnd (vT S v) x, true))
def sPut (S : St) (v i x : Int32) : Int32 × St := if ¬ (opn S v ∧ plc S v i) then (0, S) else (1, S.set v.toInt.toNat (setT (vT S v) i x, true))
def sFrz (S : St) (v : Int32) : Int32 × St := if ¬ opn S v then (0, S) else (1, S.set v.toInt.toNat (vT S v, false))
def sSize (S : St) (v : Int32) : Int32 := if vOk S v then nI (vT S v).1.length else -1
def sGet (S : St) (v i : Int32) : Int64 := if vOk S v ∧ plc S v i then (gd 0 (vT S v).1 i.toInt.toNat).toInt64 else 4294967296
def hsh (h : Int32) : List Int32 → Int32
  | [] => h
  | x :: l => hsh (nI 31 * h + x) l
def sHash (S : St) (v : Int32) : Int32 := if vOk S v then hsh (nI 1) (vT S v).1 else 0
def cmpL : List Int32 → List Int32 → Int32
  | [], [] => 0
  | [], _ :: _ => -1
  | _ :: _, [] => 1
  | x :: a, y :: b => if x = y then cmpL a b else if x < y then -1 else 1
def sCmp (S : St) (a b : Int32) : Int32 := if vOk S a ∧ vOk S b then cmpL (vT S a).1 (vT S b).1 else 2
def sHei (S : St) (v : Int32) : Int32 := if vOk S v then nI (vT S v).2.2 else -1
def ndT (T : Tr) : Nat := (T.2.1 1).length + (T.2.1 2).length + (T.2.1 3).length + (T.2.1 4).length
def sNod (S : St) (v : Int32) : Int32 := if vOk S v then nI (ndT (vT S v)) else -1
def sRow (S : St) (v l k : Int32) : Int32 := if vOk S v ∧ 1 ≤ l.toInt ∧ l.toInt ≤ (vT S v).2.2 ∧ 0 ≤ k.toInt ∧ k.toInt < ((vT S v).2.1 l.toInt.toNat).length then nI (gd 0 ((vT S v).2.1 l.toInt.toNat) k.toInt.toNat) else -1
/-- the first place under node n of level l -/
def fpu (r : Nat → List Nat) : Nat → Nat → Nat
  | 0, n => n
  | l + 1, n => fpu r l (ps (r (l + 1)) n)
def prb (r : Nat → List Nat) (i : Nat) : Nat → Int32
  | 0 => 0
  | 1 => 0
  | l + 2 => prb r i (l + 1) + (nI (cutF r i (l + 1) - ps (r (l + 2)) (cutF r i (l + 2))) - nI ((i - fpu r (l + 2) (cutF r i (l + 2))) / 4 ^ (l + 1)))
def sPrb (S : St) (v i : Int32) : Int32 := if vOk S v ∧ plc S v i then prb (vT S v).2.1 i.toInt.toNat (vT S v).2.2 else -1
