/-! a small machine over pictures of the heap: what each instruction does, as a function; a reference is a number of a picture's cell -/
abbrev IL : Type := List (Nat × Value)
abbrev IS : Type := Nat × IL × List Value
abbrev HI : Type := Nat → Nat → Int32
abbrev HK : Type := Nat × Nat × (Nat → Nat × Nat) × (Nat → Nat → Option Nat)
abbrev Hp : Type := HK × HI
abbrev CX : Type := Option (Nat × (Nat → Int32)) × Nat × Nat
abbrev IR : Type := Option ((IS × Hp) ⊕ (Option Value ⊕ (Nat × List Value × IS)))
abbrev IOp : Type := CX → IS → Hp → IR
abbrev kN (h : Hp) : Nat := h.1.1
abbrev kS (h : Hp) : Nat := h.1.2.1
abbrev kH (h : Hp) : Nat → Nat × Nat := h.1.2.2.1
abbrev kR (h : Hp) : Nat → Nat → Option Nat := h.1.2.2.2
def lkp : IL → Nat → Option Value
  | [], _ => none
  | (j, v) :: l, i => match Nat.beq j i with
    | true => some v
    | false => lkp l i
def rmv : IL → Nat → IL
  | [], _ => []
  | (j, v) :: l, i => match Nat.beq j i with
    | true => rmv l i
    | false => (j, v) :: rmv l i
def upl : IL → Nat → Value → IL
  | [], i, v => [(i, v)]
  | (j, w) :: l, i, v => match Nat.beq j i with
    | true => (i, v) :: rmv l i
    | false => (j, w) :: upl l i v
/-- no value of two slots ends at i -/
def clr : IL → Nat → Bool
  | [], _ => true
  | (j, v) :: l, i => match v with
    | .long _ => match Nat.beq (j + 1) i with
      | true => false
      | false => clr l i
    | .double _ => match Nat.beq (j + 1) i with
      | true => false
      | false => clr l i
    | _ => clr l i
def kpl : IL → List Nat → IL
  | [], _ => []
  | (j, v) :: l, ks => match ks.any (fun k => Nat.beq k j) with
    | true => (j, v) :: kpl l ks
    | false => kpl l ks
def up2 (f : HI) (a k : Nat) (v : Int32) : HI := fun b j => match Nat.beq b a && Nat.beq j k with
  | true => v
  | false => f b j
def upr (f : Nat → Nat → Option Nat) (a k : Nat) (v : Option Nat) : Nat → Nat → Option Nat := fun b j => match Nat.beq b a && Nat.beq j k with
  | true => v
  | false => f b j
def up1 (f : HI) (a : Nat) (g : Nat → Int32) : HI := fun b => match Nat.beq b a with
  | true => g
  | false => f b
def upc {β : Type} (f : Nat → β) (a : Nat) (g : β) : Nat → β := fun b => match Nat.beq b a with
  | true => g
  | false => f b
def isO (h : Hp) (a ci : Nat) : Bool := Nat.blt a (kN h) && (Nat.beq (kH h a).1 0 && Nat.beq (kH h a).2 ci)
def isA (h : Hp) (a t : Nat) : Bool := Nat.blt a (kN h) && Nat.beq (kH h a).1 t
abbrev nxt (st : IS) (h : Hp) : IR := some (.inl (st, h))
/-! the instructions -/
def oBad : IOp := fun _ _ _ => none
def oLdI (i n : Nat) : IOp := fun _ st h => match lkp st.2.1 i with
  | some (.int x) => nxt (n, st.2.1, .int x :: st.2.2) h
  | _ => none
def oLdL (i n : Nat) : IOp := fun _ st h => match lkp st.2.1 i with
  | some (.long x) => nxt (n, st.2.1, .long x :: st.2.2) h
  | _ => none
def oLdA (i n : Nat) : IOp := fun _ st h => match lkp st.2.1 i with
  | some (.ref x) => nxt (n, st.2.1, .ref x :: st.2.2) h
  | _ => none
def oI (v : Int32) (n : Nat) : IOp := fun _ st h => nxt (n, st.2.1, .int v :: st.2.2) h
def oJ (v : Int64) (n : Nat) : IOp := fun _ st h => nxt (n, st.2.1, .long v :: st.2.2) h
def oStI (i n : Nat) : IOp := fun _ st h => match st.2.2, clr st.2.1 i with
  | .int x :: s, true => nxt (n, upl st.2.1 i (.int x), s) h
  | _, _ => none
def oStA (i n : Nat) : IOp := fun _ st h => match st.2.2, clr st.2.1 i with
  | .ref x :: s, true => nxt (n, upl st.2.1 i (.ref x), s) h
  | _, _ => none
def oInc (i : Nat) (c : Int32) (n : Nat) : IOp := fun _ st h => match lkp st.2.1 i, clr st.2.1 i with
  | some (.int x), true => nxt (n, upl st.2.1 i (.int (x + c)), st.2.2) h
  | _, _ => none
def o2 (f : Int32 → Int32 → Int32) (n : Nat) : IOp := fun _ st h => match st.2.2 with
  | .int y :: .int x :: s => nxt (n, st.2.1, .int (f x y) :: s) h
  | _ => none
def oDiv (n : Nat) : IOp := fun _ st h => match st.2.2 with
  | .int y :: .int x :: s => if y = 0 then none else nxt (n, st.2.1, .int (x / y) :: s) h
  | _ => none
def oRem (n : Nat) : IOp := fun _ st h => match st.2.2 with
  | .int y :: .int x :: s => if y = 0 then none else nxt (n, st.2.1, .int (x - x / y * y) :: s) h
  | _ => none
def oI2l (n : Nat) : IOp := fun _ st h => match st.2.2 with
  | .int x :: s => nxt (n, st.2.1, .long x.toInt64 :: s) h
  | _ => none
def oL2i (n : Nat) : IOp := fun _ st h => match st.2.2 with
  | .long x :: s => nxt (n, st.2.1, .int x.toInt32 :: s) h
  | _ => none
def oI2c (n : Nat) : IOp := fun _ st h => match st.2.2 with
  | .int x :: s => nxt (n, st.2.1, .int (x.toUInt32 % 65536).toInt32 :: s) h
  | _ => none
def oL2 (f : Int64 → Int64 → Int64) (n : Nat) : IOp := fun _ st h => match st.2.2 with
  | .long y :: .long x :: s => nxt (n, st.2.1, .long (f x y) :: s) h
  | _ => none
def oLs (f : Int64 → Int32 → Int64) (n : Nat) : IOp := fun _ st h => match st.2.2 with
  | .int y :: .long x :: s => nxt (n, st.2.1, .long (f x y) :: s) h
  | _ => none
def oLcmp (n : Nat) : IOp := fun _ st h => match st.2.2 with
  | .long y :: .long x :: s => nxt (n, st.2.1, .int (lg_cmp x y) :: s) h
  | _ => none
def oDup (n : Nat) : IOp := fun _ st h => match st.2.2 with
  | .int x :: s => nxt (n, st.2.1, .int x :: .int x :: s) h
  | .ref x :: s => nxt (n, st.2.1, .ref x :: .ref x :: s) h
  | _ => none
def oDup2 (n : Nat) : IOp := fun _ st h => match st.2.2 with
  | .int y :: .ref x :: s => nxt (n, st.2.1, .int y :: .ref x :: .int y :: .ref x :: s) h
  | _ => none
def oDupX (n : Nat) : IOp := fun _ st h => match st.2.2 with
  | .int y :: .ref x :: s => nxt (n, st.2.1, .int y :: .ref x :: .int y :: s) h
  | _ => none
def oPop (n : Nat) : IOp := fun _ st h => match st.2.2 with
  | .int _ :: s => nxt (n, st.2.1, s) h
  | _ => none
def oGo (t : Nat) : IOp := fun _ st h => nxt (t, st.2.1, st.2.2) h
/-- a jump on one number: the kinds 0 eq, 1 ne, 2 lt, 3 ge, 4 gt, 5 le -/
def oEq (t n : Nat) : IOp := fun _ st h => match st.2.2 with
  | .int x :: s => if x = 0 then nxt (t, st.2.1, s) h else nxt (n, st.2.1, s) h
  | _ => none
def oNe (t n : Nat) : IOp := fun _ st h => match st.2.2 with
  | .int x :: s => if x = 0 then nxt (n, st.2.1, s) h else nxt (t, st.2.1, s) h
  | _ => none
def oLt (t n : Nat) : IOp := fun _ st h => match st.2.2 with
  | .int x :: s => if x < 0 then nxt (t, st.2.1, s) h else nxt (n, st.2.1, s) h
  | _ => none
def oGe (t n : Nat) : IOp := fun _ st h => match st.2.2 with
  | .int x :: s => if 0 ≤ x then nxt (t, st.2.1, s) h else nxt (n, st.2.1, s) h
  | _ => none
def oGt (t n : Nat) : IOp := fun _ st h => match st.2.2 with
  | .int x :: s => if 0 < x then nxt (t, st.2.1, s) h else nxt (n, st.2.1, s) h
  | _ => none
def oLe (t n : Nat) : IOp := fun _ st h => match st.2.2 with
  | .int x :: s => if x ≤ 0 then nxt (t, st.2.1, s) h else nxt (n, st.2.1, s) h
  | _ => none
def oCEq (t n : Nat) : IOp := fun _ st h => match st.2.2 with
  | .int y :: .int x :: s => if x = y then nxt (t, st.2.1, s) h else nxt (n, st.2.1, s) h
  | _ => none
def oCNe (t n : Nat) : IOp := fun _ st h => match st.2.2 with
  | .int y :: .int x :: s => if x = y then nxt (n, st.2.1, s) h else nxt (t, st.2.1, s) h
  | _ => none
def oCLt (t n : Nat) : IOp := fun _ st h => match st.2.2 with
  | .int y :: .int x :: s => if x < y then nxt (t, st.2.1, s) h else nxt (n, st.2.1, s) h
  | _ => none
def oCGe (t n : Nat) : IOp := fun _ st h => match st.2.2 with
  | .int y :: .int x :: s => if y ≤ x then nxt (t, st.2.1, s) h else nxt (n, st.2.1, s) h
  | _ => none
def oCGt (t n : Nat) : IOp := fun _ st h => match st.2.2 with
  | .int y :: .int x :: s => if y < x then nxt (t, st.2.1, s) h else nxt (n, st.2.1, s) h
  | _ => none
def oCLe (t n : Nat) : IOp := fun _ st h => match st.2.2 with
  | .int y :: .int x :: s => if x ≤ y then nxt (t, st.2.1, s) h else nxt (n, st.2.1, s) h
  | _ => none
/-- a table: the targets from lo on; else d -/
def oTab (lo hi : Int) (ts : List Nat) (d : Nat) : IOp := fun _ st h => match st.2.2 with
  | .int x :: s => if x.toInt < lo ∨ hi < x.toInt then nxt (d, st.2.1, s) h else nxt (ts.getD (x.toInt - lo).toNat 0, st.2.1, s) h
  | _ => none
/-- fields -/
def oGetI (ci k n : Nat) : IOp := fun _ st h => match st.2.2 with
  | .ref a :: s => match isO h a ci with
    | true => nxt (n, st.2.1, .int (h.2 a k) :: s) h
    | false => none
  | _ => none
def oGetR (ci k n : Nat) : IOp := fun _ st h => match st.2.2 with
  | .ref a :: s => match isO h a ci with
    | true => match kR h a k with
      | some b => nxt (n, st.2.1, .ref b :: s) h
      | none => none
    | false => none
  | _ => none
def oPutI (ci k n : Nat) : IOp := fun _ st h => match st.2.2 with
  | .int v :: .ref a :: s => match isO h a ci with
    | true => nxt (n, st.2.1, s) (h.1, up2 h.2 a k v)
    | false => none
  | _ => none
def oPutZ (ci k n : Nat) : IOp := fun _ st h => match st.2.2 with
  | .int v :: .ref a :: s => match isO h a ci with
    | true => if v = 0 ∨ v = 1 then nxt (n, st.2.1, s) (h.1, up2 h.2 a k v) else none
    | false => none
  | _ => none
def oPutR (ci k n : Nat) : IOp := fun _ st h => match st.2.2 with
  | .ref v :: .ref a :: s => match isO h a ci with
    | true => nxt (n, st.2.1, s) ((kN h, kS h, kH h, upr (kR h) a k (some v)), h.2)
    | false => none
  | _ => none
/-- rows: 1 of ints, 2 of booleans, 3 and 4 of objects -/
def oALd (t n : Nat) : IOp := fun _ st h => match st.2.2 with
  | .int i :: .ref a :: s => match isA h a t with
    | true => if i < 0 ∨ (kH h a).2 ≤ i.toNatClampNeg then none else nxt (n, st.2.1, .int (h.2 a i.toNatClampNeg) :: s) h
    | false => none
  | _ => none
def oISt (n : Nat) : IOp := fun _ st h => match st.2.2 with
  | .int v :: .int i :: .ref a :: s => match isA h a 1 with
    | true => if i < 0 ∨ (kH h a).2 ≤ i.toNatClampNeg then none else nxt (n, st.2.1, s) (h.1, up2 h.2 a i.toNatClampNeg v)
    | false => none
  | _ => none
def oZSt (n : Nat) : IOp := fun _ st h => match st.2.2 with
  | .int v :: .int i :: .ref a :: s => match isA h a 2 with
    | true => if i < 0 ∨ (kH h a).2 ≤ i.toNatClampNeg then none else if v = 0 ∨ v = 1 then nxt (n, st.2.1, s) (h.1, up2 h.2 a i.toNatClampNeg v) else none
    | false => none
  | _ => none
def oQLd (t n : Nat) : IOp := fun _ st h => match st.2.2 with
  | .int i :: .ref a :: s => match isA h a t with
    | true => if i < 0 ∨ (kH h a).2 ≤ i.toNatClampNeg then none else match kR h a i.toNatClampNeg with
      | some b => nxt (n, st.2.1, .ref b :: s) h
      | none => none
    | false => none
  | _ => none
def oQSt (t ci n : Nat) : IOp := fun _ st h => match st.2.2 with
  | .ref v :: .int i :: .ref a :: s => match isA h a t && isO h v ci with
    | true => if i < 0 ∨ (kH h a).2 ≤ i.toNatClampNeg then none else nxt (n, st.2.1, s) ((kN h, kS h, kH h, upr (kR h) a i.toNatClampNeg (some v)), h.2)
    | false => none
  | _ => none
def oALen (n : Nat) : IOp := fun _ st h => match st.2.2 with
  | .ref a :: s => match isA h a 1 with
    | true => nxt (n, st.2.1, .int (nI (kH h a).2) :: s) h
    | false => none
  | _ => none
/-- the script: number 1000000 -/
def oSLen (n : Nat) : IOp := fun X st h => match st.2.2, X.1 with
  | .ref a :: s, some x => if a = 1000000 then nxt (n, st.2.1, .int (nI x.1) :: s) h else none
  | _, _ => none
def oSLd (n : Nat) : IOp := fun X st h => match st.2.2, X.1 with
  | .int i :: .ref a :: s, some x => if a = 1000000 then (if i < 0 ∨ x.1 ≤ i.toNatClampNeg then none else nxt (n, st.2.1, .int (x.2 i.toNatClampNeg) :: s) h) else none
  | _, _ => none
/-- making -/
def oNewa (t n : Nat) : IOp := fun X st h => match st.2.2 with
  | .int k :: s => if k < 0 ∨ 65536 < k.toNatClampNeg ∨ X.2.1 < kN h + 1 ∨ X.2.2 < kS h + k.toNatClampNeg ∨ 999999 < kN h then none else
      nxt (n, st.2.1, .ref (kN h) :: s) ((kN h + 1, kS h + k.toNatClampNeg, upc (kH h) (kN h) (t, k.toNatClampNeg), upc (kR h) (kN h) (fun _ => none)), up1 h.2 (kN h) (fun _ => 0))
  | _ => none
def oNew (ci w n : Nat) : IOp := fun X st h => if X.2.1 < kN h + 1 ∨ X.2.2 < kS h + w ∨ 999999 < kN h then none else
      nxt (n, st.2.1, .ref (kN h) :: st.2.2) ((kN h + 1, kS h + w, upc (kH h) (kN h) (0, ci), upc (kR h) (kN h) (fun _ => none)), up1 h.2 (kN h) (fun _ => 0))
/-- ends -/
def oRet : IOp := fun _ st _ => match st.2.2 with
  | [] => some (.inr (.inl none))
  | _ => none
def oRetI : IOp := fun _ st _ => match st.2.2 with
  | [.int x] => some (.inr (.inl (some (.int x))))
  | _ => none
def oRetZ : IOp := fun _ st _ => match st.2.2 with
  | [.int x] => if x = 0 ∨ x = 1 then some (.inr (.inl (some (.int x)))) else none
  | _ => none
def oRetC : IOp := fun _ st _ => match st.2.2 with
  | [.int x] => if (x.toUInt32 % 65536).toInt32 = x then some (.inr (.inl (some (.int x)))) else none
  | _ => none
def oRetA : IOp := fun _ st _ => match st.2.2 with
  | [.ref x] => some (.inr (.inl (some (.ref x))))
  | _ => none
/-- calls: the arguments off the stack -/
def pops : Nat → List Value → List Value → Option (List Value × List Value)
  | 0, as, s => some (as, s)
  | k + 1, as, v :: s => pops k (v :: as) s
  | _ + 1, _, [] => none
def oObj (n : Nat) : IOp := fun _ st h => match st.2.2 with
  | [.ref _] => nxt (n, st.2.1, []) h
  | _ => none
def oCallV (mid ci k n : Nat) : IOp := fun _ st h => match pops k [] st.2.2 with
  | some (as, .ref b :: s) => match isO h b ci with
    | true => some (.inr (.inr (mid, .ref b :: as, (n, st.2.1, s))))
    | false => none
  | _ => none
def oCallS (mid k n : Nat) : IOp := fun _ st _ => match pops k [] st.2.2 with
  | some (as, s) => some (.inr (.inr (mid, as, (n, st.2.1, s))))
  | none => none
/-- a call on a string -/
def oCallK (mid k n : Nat) : IOp := fun _ st _ => match pops k [] st.2.2 with
  | some (as, .ref b :: s) => if 2000000 ≤ b ∧ b < 2000007 then some (.inr (.inr (mid, .ref b :: as, (n, st.2.1, s)))) else none
  | _ => none
def oCopy (n : Nat) : IOp := fun _ st h => match st.2.2 with
  | .int c :: .int dp :: .ref b :: .int sp :: .ref a :: s => match isA h a 1 && isA h b 1 with
    | true => if c < 0 ∨ dp < 0 ∨ sp < 0 ∨ (kH h a).2 < sp.toNatClampNeg + c.toNatClampNeg ∨ (kH h b).2 < dp.toNatClampNeg + c.toNatClampNeg ∨ 8 < s.length then none
      else nxt (n, st.2.1, s) (h.1, up1 h.2 b (va_cpy (h.2 a) (h.2 b) sp.toNatClampNeg dp.toNatClampNeg c.toNatClampNeg))
    | false => none
  | _ => none
/-- strings and other constants of the classes -/
def strB : List (List Int32) := [[116, 111], [111, 118, 101, 114], [119, 101, 105, 103, 104], [102, 114, 101, 101], [97, 104, 101, 97, 100], [108, 101, 97, 115, 116], [112, 97, 121]]
def strN : List Nat := [2, 4, 5, 4, 5, 5, 3]
def tabB : List (List Int32) := [[1, 1, 1, 0, 0, 0], [999, 999, 64, 99, 99, 99], [0, 0, 0, 0, 0, -1000000, -1], [2, 200, 100000, 99, 9, 1000000, 99]]
def tabN : List Nat := [6, 6, 7, 7]
def oStr (k n : Nat) : IOp := fun _ st h => nxt (n, st.2.1, .ref (2000000 + k) :: st.2.2) h
def oStrV (n : Nat) : IOp := fun _ st h => match st.2.2 with
  | .ref a :: s => if 2000000 ≤ a ∧ a < 2000007 then nxt (n, st.2.1, .ref (a + 1000000) :: s) h else none
  | _ => none
def oStrC (n : Nat) : IOp := fun _ st h => match st.2.2 with
  | .ref a :: s => if 2000000 ≤ a ∧ a < 2000007 then nxt (n, st.2.1, .int 0 :: s) h else none
  | _ => none
def oStrL (n : Nat) : IOp := fun _ st h => match st.2.2 with
  | .ref a :: s => if 3000000 ≤ a ∧ a < 3000007 then nxt (n, st.2.1, .int (nI (strN.getD (a - 3000000) 0)) :: s) h else none
  | _ => none
def oStrB (n : Nat) : IOp := fun _ st h => match st.2.2 with
  | .int i :: .ref a :: s => if 3000000 ≤ a ∧ a < 3000007 then (if i < 0 ∨ strN.getD (a - 3000000) 0 ≤ i.toNatClampNeg then none else nxt (n, st.2.1, .int ((strB.getD (a - 3000000) []).getD i.toNatClampNeg 0) :: s) h) else none
  | _ => none
def oTabR (k n : Nat) : IOp := fun _ st h => nxt (n, st.2.1, .ref (4000000 + k) :: st.2.2) h
def oTabL (k n : Nat) : IOp := fun _ st h => match st.2.2 with
  | .int i :: .ref a :: s => if a = 4000000 + k then (if i < 0 ∨ tabN.getD k 0 ≤ i.toNatClampNeg then none else nxt (n, st.2.1, .int ((tabB.getD k []).getD i.toNatClampNeg 0) :: s) h) else none
  | _ => none
def oOne (n : Nat) : IOp := fun _ st h => nxt (n, st.2.1, .int 1 :: st.2.2) h
def oFmt (n : Nat) : IOp := fun _ st h => nxt (n, st.2.1, .null :: st.2.2) h
/-- a choice of two -/
def oSel (a1 : Int) (t1 : Nat) (a2 : Int) (t2 d : Nat) : IOp := fun _ st h => match st.2.2 with
  | .int x :: s => if x.toInt = a1 then nxt (t1, st.2.1, s) h else if x.toInt = a2 then nxt (t2, st.2.1, s) h else nxt (d, st.2.1, s) h
  | _ => none
/-- fewer places kept behind an instruction -/
def oKp (ks : List Nat) (o : IOp) : IOp := fun X st h => match o X st h with
  | some (.inl (st', h')) => some (.inl ((st'.1, kpl st'.2.1 ks, st'.2.2), h'))
  | r => r
