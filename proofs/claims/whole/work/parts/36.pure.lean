/-! THE MEANING OF A TEXT, without machine. A text: n characters t 0 .. ; pek: the one at a place, 0 behind the end. -/
/-- an event of the code: kind, operand, the words held ahead of it, the words of the value at hand ahead of it (0: none). Kinds: 0 a number, 1 2 a parameter (its words), 3 4 hold (its words), 5 6 7 + - *, 8 make a pair, 9 10 .0 .1, 11 go on at the operand if 0, 12 go on at the operand, 13 call, 14 back -/
abbrev Ev : Type := Nat × Nat × Nat × Nat
/-- what is typed: the words of its type, its events, the most words held while it is worked out (0: none were) -/
abbrev TI : Type := Option (Nat × List Ev × Nat)
/-- what is read: where it ends, and what it is by the number of its first event and the words held ahead of it -/
abbrev PR : Type := Option (Nat × (Nat → Nat → TI))
def tl (r : TI) : Nat := match r with
  | none => 0
  | some x => x.2.1.length
/-- a signature's type k (0 the result's; 0 when there is none); the words of the parameters ahead of k -/
def ta (s k : Nat) : Nat := if 3 < k then 0 else s / 4 ^ k % 4
def wb (s : Nat) : Nat → Nat
  | 0 => 0
  | k + 1 => if k = 0 then 0 else wb s k + ta s k
/-- the heads: owner (0: none, else the module + 1), name, signature -/
def lkp : List (Nat × Nat × Nat) → Nat → Nat → Option Nat
  | [], _, _ => none
  | q :: l, o, m => if q.1 = o ∧ q.2.1 = m then some q.2.2 else lkp l o m
section PURE
variable (t : Nat → Nat) (n : Nat) (hs : List (Nat × Nat × Nat)) (sg : Nat)
def nmb : Nat → Nat → Nat → Nat × Nat
  | 0, a, v => (a, v)
  | f + 1, a, v => if 48 ≤ pek t n a ∧ pek t n a ≤ 57 then nmb f (a + 1) (10 * v + (pek t n a - 48)) else (a, v)
def pNum (a : Nat) : PR := some ((nmb t n 4 a 0).1, fun _ hd => some (1, [(0, (nmb t n 4 a 0).2, hd, 0)], 0))
def pPar (a : Nat) : PR := if 49 ≤ pek t n (a + 1) ∧ pek t n (a + 1) ≤ 51 then some (a + 2, fun _ hd => if ta sg (pek t n (a + 1) - 48) = 0 then none else some (ta sg (pek t n (a + 1) - 48), [(ta sg (pek t n (a + 1) - 48), wb sg (pek t n (a + 1) - 48), hd, 0)], 0)) else none
/-- an operator of two numbers -/
def tOp (k hd : Nat) (r1 r2 : TI) : TI := match r1, r2 with
  | some (1, e1, m1), some (1, e2, m2) => some (if k = 8 then 2 else 1, e1 ++ (3, 0, hd, 1) :: (e2 ++ [(k, 0, hd + 1, 1)]), max m1 (max (hd + 1) m2))
  | _, _ => none
def tPrj (k hd : Nat) (r : TI) : TI := match r with
  | some (2, e, m) => some (1, e ++ [(k, 0, hd, 2)], m)
  | _ => none
def tCho (bs hd : Nat) (r1 r2 r3 : TI) : TI := match r1, r2, r3 with
  | some (1, e1, m1), some (y, e2, m2), some (z, e3, m3) => if y = z then some (y, e1 ++ (11, bs + e1.length + 1 + e2.length + 1, hd, 1) :: (e2 ++ (12, bs + e1.length + 1 + e2.length + 1 + e3.length, hd, y) :: e3), max m1 (max m2 m3)) else none
  | _, _, _ => none
def pGrp (sub : Nat → PR) (a : Nat) : PR := match sub (a + 1) with
  | none => none
  | some (a1, f) => if pek t n a1 = 41 then some (a1 + 1, f) else none
def pPair (sub : Nat → PR) (a : Nat) : PR := match sub (a + 1) with
  | none => none
  | some (a1, f1) => if pek t n a1 = 44 then (match sub (a1 + 1) with
    | none => none
    | some (a2, f2) => if pek t n a2 = 125 then some (a2 + 1, fun bs hd => tOp 8 hd (f1 bs hd) (f2 (bs + tl (f1 bs hd) + 1) (hd + 1))) else none) else none
def pCho (sub : Nat → PR) (a : Nat) : PR := match sub (a + 1) with
  | none => none
  | some (a1, f1) => if pek t n a1 = 63 then (match sub (a1 + 1) with
    | none => none
    | some (a2, f2) => if pek t n a2 = 58 then (match sub (a2 + 1) with
      | none => none
      | some (a3, f3) => if pek t n a3 = 93 then some (a3 + 1, fun bs hd => tCho bs hd (f1 bs hd) (f2 (bs + tl (f1 bs hd) + 1) hd) (f3 (bs + tl (f1 bs hd) + 1 + tl (f2 (bs + tl (f1 bs hd) + 1) hd) + 1) hd)) else none) else none) else none
/-- the arguments so far: events, the most held, the words held now -/
abbrev TA : Type := Option (List Ev × Nat × Nat)
def tArg (cs : Option Nat) (k : Nat) (q : TA) (f : Nat → Nat → TI) (bs : Nat) : TA := match cs, q with
  | some s, some (e, m, hc) => (match f (bs + e.length) hc with
    | some (y, e2, m2) => if ta s (k + 1) = y then some (e ++ (e2 ++ [(2 + y, 0, hc, y)]), max m (max m2 (hc + y)), hc + y) else none
    | none => none)
  | _, _ => none
/-- arguments from a on, k of them read: where they end, how many, what they are -/
def pArgs (sub : Nat → PR) (cs : Option Nat) : Nat → Nat → Nat → (Nat → Nat → TA) → Option (Nat × Nat × (Nat → Nat → TA))
  | 0, _, _, _ => none
  | f + 1, k, a, q => match sub a with
    | none => none
    | some (a1, g) => if pek t n a1 = 44 then pArgs sub cs f (k + 1) (a1 + 1) (fun bs hd => tArg cs k (q bs hd) g bs) else some (a1, k + 1, fun bs hd => tArg cs k (q bs hd) g bs)
def tCall (cs : Option Nat) (o m k : Nat) (q : TA) : TI := match cs, q with
  | some s, some (e, mx, hc) => if ta s (k + 1) = 0 then some (ta s 0, e ++ [(13, o * 26 + m, hc, 0)], mx) else none
  | _, _ => none
/-- a call, from behind its opening bracket -/
def pCall (sub : Nat → PR) (o m a : Nat) : PR := if pek t n a = 41 then some (a + 1, fun _ hd => tCall (lkp hs o m) o m 0 (some ([], 0, hd))) else match pArgs t n sub (lkp hs o m) (n - a) 0 a (fun _ hd => some ([], 0, hd)) with
  | none => none
  | some (a1, k, q) => if pek t n a1 = 41 then some (a1 + 1, fun bs hd => tCall (lkp hs o m) o m k (q bs hd)) else none
/-- a factor without what may stand behind it; br: whether brackets may still be opened -/
def pWho (br : Bool) (sub : Nat → PR) (a : Nat) : PR :=
  if 48 ≤ pek t n a ∧ pek t n a ≤ 57 then pNum t n a
  else if pek t n a = 36 then pPar t n sg a
  else if br = false then none
  else if 97 ≤ pek t n a ∧ pek t n a ≤ 122 then (if pek t n (a + 1) = 40 then pCall t n hs sub 0 (pek t n a - 97) (a + 2) else none)
  else if 65 ≤ pek t n a ∧ pek t n a ≤ 70 then (if pek t n (a + 1) = 46 ∧ (97 ≤ pek t n (a + 2) ∧ pek t n (a + 2) ≤ 122) ∧ pek t n (a + 3) = 40 then pCall t n hs sub (pek t n a - 64) (pek t n (a + 2) - 97) (a + 4) else none)
  else if pek t n a = 40 then pGrp t n sub a
  else if pek t n a = 123 then pPair t n sub a
  else if pek t n a = 91 then pCho t n sub a
  else none
def pFac (br : Bool) (sub : Nat → PR) (a : Nat) : PR := match pWho t n hs sg br sub a with
  | none => none
  | some (a1, f) => if pek t n a1 = 46 then (if pek t n (a1 + 1) = 48 then some (a1 + 2, fun bs hd => tPrj 9 hd (f bs hd)) else if pek t n (a1 + 1) = 49 then some (a1 + 2, fun bs hd => tPrj 10 hd (f bs hd)) else none) else some (a1, f)
def pMul (br : Bool) (sub : Nat → PR) : Nat → Nat → (Nat → Nat → TI) → PR
  | 0, a, f => some (a, f)
  | q + 1, a, f => if pek t n a = 42 then (match pFac t n hs sg br sub (a + 1) with
    | none => none
    | some (a1, g) => pMul br sub q a1 (fun bs hd => tOp 7 hd (f bs hd) (g (bs + tl (f bs hd) + 1) (hd + 1)))) else some (a, f)
def pPro (br : Bool) (sub : Nat → PR) (a : Nat) : PR := match pFac t n hs sg br sub a with
  | none => none
  | some (a1, f) => pMul t n hs sg br sub (n - a1) a1 f
def pAdd (br : Bool) (sub : Nat → PR) : Nat → Nat → (Nat → Nat → TI) → PR
  | 0, a, f => some (a, f)
  | q + 1, a, f => if pek t n a = 43 ∨ pek t n a = 45 then (match pPro t n hs sg br sub (a + 1) with
    | none => none
    | some (a1, g) => pAdd br sub q a1 (fun bs hd => tOp (if pek t n a = 43 then 5 else 6) hd (f bs hd) (g (bs + tl (f bs hd) + 1) (hd + 1)))) else some (a, f)
def pSum (br : Bool) (sub : Nat → PR) (a : Nat) : PR := match pPro t n hs sg br sub a with
  | none => none
  | some (a1, f) => pAdd t n hs sg br sub (n - a1) a1 f
/-- an expression with at most b brackets in one another -/
def pE : Nat → Nat → PR
  | 0, a => pSum t n hs sg false (fun _ => none) a
  | b + 1, a => pSum t n hs sg true (pE b) a
end PURE
