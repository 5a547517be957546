/-! a reader of the printed code. Values: .ref k is the k-th cell that the run makes, .retAddr k a cell that stands outside (0 the script, 1 ABOVE, 2 BODIES, 3..8 String constants, 9..14 their bytes, 15 a static reference that nobody follows) -/
abbrev Hp : Type := Nat × (Nat → Nat → Int32) × (Nat → Nat → Int64) × (Nat → Nat → Option Nat)
abbrev Lv : Type := List (Nat × Value)
def lkp : Lv → Nat → Option Value
  | [], _ => none
  | (j, v) :: r, i => bif Nat.beq j i then some v else lkp r i
def sto1 (lv : Lv) (i : Nat) (v : Value) : Lv := (i, v) :: lv.filter (fun q => !(q.1 == i) && !(q.1 + 1 == i && q.2.category == 2))
def sto2 (lv : Lv) (i : Nat) (v : Value) : Lv := (i, v) :: lv.filter (fun q => !(q.1 == i) && (!(q.1 == i + 1) && !(q.1 + 1 == i && q.2.category == 2)))
def u2 {α : Type} (f : Nat → Nat → α) (k j : Nat) (v : α) : Nat → Nat → α := fun a b => if a = k then (if b = j then v else f a b) else f a b
def ur {α : Type} (f : Nat → Nat → α) (k : Nat) (g : Nat → α) : Nat → Nat → α := fun a b => if a = k then g b else f a b
def inb (i : Int32) (n : Nat) : Bool := !(decide (i < 0) || Nat.ble n i.toNatClampNeg)
theorem inb_iff {i : Int32} {n : Nat} : inb i n = true ↔ vp_in i n := by
  simp only [inb, vp_in, Bool.not_eq_true', Bool.or_eq_false_iff, decide_eq_false_iff_not, not_or]
  constructor
  · intro h
    refine ⟨h.1, ?_⟩
    have := h.2
    intro hc
    rw [Nat.ble_eq_true_of_le hc] at this
    cases this
  · intro h
    refine ⟨h.1, ?_⟩
    rw [← Bool.not_eq_true]
    intro hc
    exact h.2 (Nat.le_of_ble_eq_true hc)
-- the cells outside
def lABOVE : List Int32 := [-1, 0, 0, 0, 1, 2, 3]
def lBODIES : List Int32 := [10, 11, 12, 0, 20, 0, 30, 0, 0, 0, 0, 40, 50, 51, 0, 0, 0, 60, 71, 70, 0]
noncomputable def xLen (L k : Nat) : Nat := bif Nat.beq k 0 then L else bif Nat.beq k 1 then 7 else bif Nat.beq k 2 then 21 else sLn (k - 6)
noncomputable def xVal (xs : Nat → Int32) (k j : Nat) : Int32 := bif Nat.beq k 0 then xs j else bif Nat.beq k 1 then lABOVE.getD j 0 else bif Nat.beq k 2 then lBODIES.getD j 0 else (sBy (k - 6)).getD j 0
def catS (r : List Value) : Nat := (r.map fun v => v.category).sum
-- constants, locals, the stack
def ldI (lv : Lv) (st : List Value) (k : Nat) : Option (Lv × List Value) := match lkp lv k with
  | some (.int x) => some (lv, .int x :: st)
  | _ => none
def ldL (lv : Lv) (st : List Value) (k : Nat) : Option (Lv × List Value) := match lkp lv k with
  | some (.long x) => some (lv, .long x :: st)
  | _ => none
def ldA (lv : Lv) (st : List Value) (k : Nat) : Option (Lv × List Value) := match lkp lv k with
  | some (.ref x) => some (lv, .ref x :: st)
  | some (.retAddr x) => bif Nat.beq x 15 then none else some (lv, .retAddr x :: st)
  | _ => none
def soI (nL : Nat) (lv : Lv) (st : List Value) (k : Nat) : Option (Lv × List Value) := match st with
  | .int x :: r => bif Nat.blt k nL then some (sto1 lv k (.int x), r) else none
  | _ => none
def soL (nL : Nat) (lv : Lv) (st : List Value) (k : Nat) : Option (Lv × List Value) := match st with
  | .long x :: r => bif Nat.blt (k + 1) nL then some (sto2 lv k (.long x), r) else none
  | _ => none
def soA (nL : Nat) (lv : Lv) (st : List Value) (k : Nat) : Option (Lv × List Value) := match st with
  | .ref x :: r => bif Nat.blt k nL then some (sto1 lv k (.ref x), r) else none
  | .retAddr x :: r => bif Nat.blt k nL && !Nat.beq x 15 then some (sto1 lv k (.retAddr x), r) else none
  | _ => none
def stA (nL : Nat) (i : Instr) (lv : Lv) (st : List Value) : Option (Lv × List Value) := match i with
  | .iconst n => some (lv, .int (Int32.ofInt n) :: st)
  | .bipush n => some (lv, .int (Int8.ofInt n).toInt32 :: st)
  | .sipush n => some (lv, .int (Int16.ofInt n).toInt32 :: st)
  | .lconst n => some (lv, .long (Int64.ofNat n) :: st)
  | .iload_n k => ldI lv st k
  | .iload k => ldI lv st k
  | .lload_n k => ldL lv st k
  | .lload k => ldL lv st k
  | .aload_n k => ldA lv st k
  | .aload k => ldA lv st k
  | .istore_n k => soI nL lv st k
  | .istore k => soI nL lv st k
  | .lstore_n k => soL nL lv st k
  | .lstore k => soL nL lv st k
  | .astore_n k => soA nL lv st k
  | .astore k => soA nL lv st k
  | .iinc k n => match lkp lv k with
    | some (.int x) => bif Nat.blt k nL then some (sto1 lv k (.int (x + Int32.ofInt n)), st) else none
    | _ => none
  | .dup => match st with
    | v :: r => bif Nat.beq v.category 1 then some (lv, v :: v :: r) else none
    | _ => none
  | .pop => match st with
    | v :: r => bif Nat.beq v.category 1 then some (lv, r) else none
    | _ => none
  | .dup2 => match st with
    | v :: w :: r => bif Nat.beq v.category 1 && Nat.beq w.category 1 then some (lv, v :: w :: v :: w :: r) else none
    | _ => none
  | _ => none
-- arithmetic
def p2 (st : List Value) (k : Int32 → Int32 → List Value → Option (List Value)) : Option (List Value) := match st with
  | .int y :: .int x :: r => k x y r
  | _ => none
def p2l (st : List Value) (k : Int64 → Int64 → List Value → Option (List Value)) : Option (List Value) := match st with
  | .long y :: .long x :: r => k x y r
  | _ => none
def p1 (st : List Value) (k : Int32 → List Value → Option (List Value)) : Option (List Value) := match st with
  | .int x :: r => k x r
  | _ => none
def stB (i : Instr) (st : List Value) : Option (List Value) := match i with
  | .iadd => p2 st fun x y r => some (.int (x + y) :: r)
  | .isub => p2 st fun x y r => some (.int (x - y) :: r)
  | .imul => p2 st fun x y r => some (.int (x * y) :: r)
  | .iand => p2 st fun x y r => some (.int (x &&& y) :: r)
  | .ior => p2 st fun x y r => some (.int (x ||| y) :: r)
  | .ixor => p2 st fun x y r => some (.int (x ^^^ y) :: r)
  | .ishl => p2 st fun x y r => some (.int (x <<< (y &&& 31)) :: r)
  | .ishr => p2 st fun x y r => some (.int (x >>> (y &&& 31)) :: r)
  | .iushr => p2 st fun x y r => some (.int (x.toUInt32 >>> (y.toUInt32 &&& Int32.toUInt32 31)).toInt32 :: r)
  | .idiv => p2 st fun x y r => if y = 0 then none else some (.int (x / y) :: r)
  | .irem => p2 st fun x y r => if y = 0 then none else some (.int (x - x / y * y) :: r)
  | .ineg => p1 st fun x r => some (.int (-x) :: r)
  | .i2l => p1 st fun x r => some (.long x.toInt64 :: r)
  | .i2b => p1 st fun x r => some (.int x.toInt8.toInt32 :: r)
  | .i2s => p1 st fun x r => some (.int x.toInt16.toInt32 :: r)
  | .i2c => p1 st fun x r => some (.int (x.toUInt32 % 65536).toInt32 :: r)
  | .l2i => match st with
    | .long x :: r => some (.int x.toInt32 :: r)
    | _ => none
  | .land => p2l st fun x y r => some (.long (x &&& y) :: r)
  | .lor => p2l st fun x y r => some (.long (x ||| y) :: r)
  | .lcmp => p2l st fun x y r => some (.int (lg_cmp x y) :: r)
  | .lshl => match st with
    | .int y :: .long x :: r => some (.long (x <<< (y.toInt64 &&& 63)) :: r)
    | _ => none
  | _ => none
-- branches
def q1 (st : List Value) (k : Int32 → List Value → Option (Nat × List Value)) : Option (Nat × List Value) := match st with
  | .int x :: r => k x r
  | _ => none
def q2 (st : List Value) (k : Int32 → Int32 → List Value → Option (Nat × List Value)) : Option (Nat × List Value) := match st with
  | .int y :: .int x :: r => k x y r
  | _ => none
def tsw (pc : Nat) (dflt lo hi : Int) (offs : Array Int) (x : Int32) : Option Int :=
  if x.toInt < lo ∨ hi < x.toInt then some ((pc : Int) + dflt) else (offs[(x.toInt - lo).toNat]?).map (fun o => (pc : Int) + o)
def stC (pc nx a : Nat) (i : Instr) (st : List Value) : Option (Nat × List Value) := match i with
  | .goto _ => some (a, st)
  | .ifCond .eq _ => q1 st fun x r => some (if x = 0 then a else nx, r)
  | .ifCond .ne _ => q1 st fun x r => some (if x = 0 then nx else a, r)
  | .ifCond .lt _ => q1 st fun x r => some (if x < 0 then a else nx, r)
  | .ifCond .ge _ => q1 st fun x r => some (if 0 ≤ x then a else nx, r)
  | .ifCond .gt _ => q1 st fun x r => some (if 0 < x then a else nx, r)
  | .ifCond .le _ => q1 st fun x r => some (if x ≤ 0 then a else nx, r)
  | .if_icmp .eq _ => q2 st fun x y r => some (if x = y then a else nx, r)
  | .if_icmp .ne _ => q2 st fun x y r => some (if x = y then nx else a, r)
  | .if_icmp .lt _ => q2 st fun x y r => some (if x < y then a else nx, r)
  | .if_icmp .ge _ => q2 st fun x y r => some (if y ≤ x then a else nx, r)
  | .if_icmp .gt _ => q2 st fun x y r => some (if y < x then a else nx, r)
  | .if_icmp .le _ => q2 st fun x y r => some (if x ≤ y then a else nx, r)
  | .tableswitch dflt lo hi offs => q1 st fun x r => match tsw pc dflt lo hi offs x with
    | some t => if 0 ≤ t then some (t.toNat, r) else none
    | none => none
  | .lookupswitch dflt ps => q1 st fun x r => if 0 ≤ (pc : Int) + Op.lookupswitch.offset ps.toList dflt x.toInt then some (((pc : Int) + Op.lookupswitch.offset ps.toList dflt x.toInt).toNat, r) else none
  | _ => none
-- cells
noncomputable def isK (h : Hp) (k c : Nat) : Bool := Nat.blt k h.1 && Nat.beq (SH k).1 c
def gfv (h : Hp) (t k j : Nat) : Value := bif Nat.ble t 1 then .int (h.2.1 k j) else va_rf (h.2.2.2 k j)
def setI (h : Hp) (k j : Nat) (x : Int32) : Hp := (h.1, u2 h.2.1 k j x, h.2.2.1, h.2.2.2)
def setL (h : Hp) (k j : Nat) (x : Int64) : Hp := (h.1, h.2.1, u2 h.2.2.1 k j x, h.2.2.2)
def setR (h : Hp) (k j : Nat) (x : Option Nat) : Hp := (h.1, h.2.1, h.2.2.1, u2 h.2.2.2 k j x)
def b01 (x : Int32) : Bool := decide (x = 0) || decide (x = 1)
noncomputable def getF (a b t : Nat) (st : List Value) (h : Hp) : Option (List Value) := match st with
  | .ref k :: r => bif Nat.blt a 11 && isK h k a then some (gfv h t k b :: r) else none
  | .retAddr k :: r => bif Nat.ble 11 a && Nat.ble 3 k && Nat.blt k 9 then some ((bif Nat.beq b 0 then .retAddr (k + 6) else .int 0) :: r) else none
  | _ => none
noncomputable def putF (a b t : Nat) (st : List Value) (h : Hp) : Option (List Value × Hp) := match st with
  | .int x :: .ref k :: r => bif isK h k a && (Nat.beq t 0 || (Nat.beq t 1 && b01 x)) then some (r, setI h k b x) else none
  | .ref q :: .ref k :: r => bif isK h k a && Nat.beq t 2 then some (r, setR h k b (some q)) else none
  | _ => none
noncomputable def iald (L : Nat) (xs : Nat → Int32) (st : List Value) (h : Hp) : Option (List Value) := match st with
  | .int i :: .ref k :: r => bif isK h k 11 && inb i (SH k).2 then some (.int (h.2.1 k i.toNatClampNeg) :: r) else none
  | .int i :: .retAddr k :: r => bif Nat.blt k 3 && inb i (xLen L k) then some (.int (xVal xs k i.toNatClampNeg) :: r) else none
  | _ => none
noncomputable def bald (xs : Nat → Int32) (st : List Value) (h : Hp) : Option (List Value) := match st with
  | .int i :: .ref k :: r => bif isK h k 13 && inb i (SH k).2 then some (.int (h.2.1 k i.toNatClampNeg) :: r) else none
  | .int i :: .retAddr k :: r => bif Nat.ble 9 k && Nat.blt k 15 && inb i (sLn (k - 6)) then some (.int ((sBy (k - 6)).getD i.toNatClampNeg 0) :: r) else none
  | _ => none
noncomputable def lald (st : List Value) (h : Hp) : Option (List Value) := match st with
  | .int i :: .ref k :: r => bif isK h k 12 && inb i (SH k).2 then some (.long (h.2.2.1 k i.toNatClampNeg) :: r) else none
  | _ => none
noncomputable def aald (st : List Value) (h : Hp) : Option (List Value) := match st with
  | .int i :: .ref k :: r => bif Nat.blt k h.1 && Nat.ble 14 (SH k).1 && Nat.blt (SH k).1 18 && inb i (SH k).2 then some (va_rf (h.2.2.2 k i.toNatClampNeg) :: r) else none
  | _ => none
noncomputable def alen (L : Nat) (st : List Value) (h : Hp) : Option (List Value) := match st with
  | .ref k :: r => bif Nat.blt k h.1 && Nat.ble 11 (SH k).1 && Nat.blt (SH k).1 18 then some (.int (Int32.ofNat (SH k).2) :: r) else none
  | .retAddr k :: r => bif Nat.blt k 3 || (Nat.ble 9 k && Nat.blt k 15) then some (.int (Int32.ofNat (xLen L k)) :: r) else none
  | _ => none
noncomputable def iast (st : List Value) (h : Hp) : Option (List Value × Hp) := match st with
  | .int x :: .int i :: .ref k :: r => bif isK h k 11 && inb i (SH k).2 then some (r, setI h k i.toNatClampNeg x) else none
  | _ => none
noncomputable def bast (st : List Value) (h : Hp) : Option (List Value × Hp) := match st with
  | .int x :: .int i :: .ref k :: r => bif isK h k 13 && inb i (SH k).2 then some (r, setI h k i.toNatClampNeg (vp_nar .boolean x)) else none
  | _ => none
noncomputable def last_ (st : List Value) (h : Hp) : Option (List Value × Hp) := match st with
  | .long x :: .int i :: .ref k :: r => bif isK h k 12 && inb i (SH k).2 then some (r, setL h k i.toNatClampNeg x) else none
  | _ => none
noncomputable def eCls (kind : Nat) : Nat := bif Nat.beq kind 14 then 3 else bif Nat.beq kind 15 then 4 else bif Nat.beq kind 16 then 7 else 8
noncomputable def aast (st : List Value) (h : Hp) : Option (List Value × Hp) := match st with
  | .ref q :: .int i :: .ref k :: r => bif Nat.blt k h.1 && Nat.ble 14 (SH k).1 && Nat.blt (SH k).1 18 && inb i (SH k).2 && isK h q (eCls (SH k).1) then some (r, setR h k i.toNatClampNeg (some q)) else none
  | _ => none
noncomputable def mkA (kind : Nat) (st : List Value) (h : Hp) : Option (List Value × Hp) := match st with
  | .int v :: r => bif !decide (v < 0) && Nat.beq v.toNatClampNeg (SH h.1).2 && Nat.beq (SH h.1).1 kind && Nat.ble (SH h.1).2 1000 then some (.ref h.1 :: r, (h.1 + 1, h.2)) else none
  | _ => none
noncomputable def acpy (st : List Value) (h : Hp) : Option (List Value × Hp) := match st with
  | .int n :: .int dp :: .ref k1 :: .int sp :: .ref k0 :: r =>
    bif !decide (sp < 0) && !decide (dp < 0) && !decide (n < 0) && Nat.ble (sp.toNatClampNeg + n.toNatClampNeg) (SH k0).2 && Nat.ble (dp.toNatClampNeg + n.toNatClampNeg) (SH k1).2 && Nat.ble (catS r) 8 then
      (bif isK h k0 11 && isK h k1 11 then some (r, (h.1, ur h.2.1 k1 (va_cpy (h.2.1 k0) (h.2.1 k1) sp.toNatClampNeg dp.toNatClampNeg n.toNatClampNeg), h.2.2)) else
      bif isK h k0 12 && isK h k1 12 then some (r, (h.1, h.2.1, ur h.2.2.1 k1 (va_cpy (h.2.2.1 k0) (h.2.2.1 k1) sp.toNatClampNeg dp.toNatClampNeg n.toNatClampNeg), h.2.2.2)) else none)
    else none
  | _ => none
def gst (a : Nat) : Option Value := bif Nat.beq a 1 then some (.retAddr 1) else bif Nat.beq a 2 then some (.retAddr 2) else bif Nat.beq a 15 then some (.retAddr 15) else bif Nat.beq a 20 then some (.int 1) else none
noncomputable def stD (L : Nat) (xs : Nat → Int32) (d : Nat) (i : Instr) (a b t q : Nat) (st : List Value) (h : Hp) : Option (List Value × Hp) := match i with
  | .getfield _ => (getF a b t st h).map fun r => (r, h)
  | .putfield _ => putF a b t st h
  | .iaload => (iald L xs st h).map fun r => (r, h)
  | .baload => (bald xs st h).map fun r => (r, h)
  | .laload => (lald st h).map fun r => (r, h)
  | .aaload => (aald st h).map fun r => (r, h)
  | .arraylength => (alen L st h).map fun r => (r, h)
  | .iastore => iast st h
  | .bastore => bast st h
  | .lastore => last_ st h
  | .aastore => aast st h
  | .getstatic _ => bif Nat.blt q 9000 then (gst a).map fun v => (v :: st, h) else none
  | .new _ => bif Nat.beq (SH h.1).1 a && Nat.beq (SH h.1).2 (cNn a) then some (.ref h.1 :: st, (h.1 + 1, h.2)) else none
  | .newarray _ => mkA a st h
  | .anewarray _ => mkA a st h
  | .ldc _ => some ((bif Nat.beq t 1 then .retAddr a else .int (Int32.ofNat b)) :: st, h)
  | .ldc_w _ => some (.int (Int32.ofNat b) :: st, h)
  | .ldc2_w _ => some (.long (Int64.ofNat b) :: st, h)
  | .invokestatic _ => bif Nat.ble 2 d then
      (bif Nat.beq a 1000 then acpy st h else
       bif Nat.beq a 1002 then (p2 st fun x y r => bif Nat.ble (catS r) 8 then some (.int (if x < y then y else x) :: r) else none).map fun r => (r, h) else
       bif Nat.beq a 1003 then (p2 st fun x y r => bif Nat.ble (catS r) 8 then some (.int (if y < x then y else x) :: r) else none).map fun r => (r, h) else none) else none
  | .invokespecial _ => bif Nat.ble 2 d && Nat.beq a 1001 then (match st with
      | .ref _ :: r => bif Nat.ble (catS r) 8 then some (r, h) else none
      | _ => none) else none
  | _ => none
/-- one instruction that is no call of a method of ours and no return: what comes next -/
noncomputable def stp (L : Nat) (xs : Nat → Int32) (d nL pc : Nat) (e : Ent) (lv : Lv) (st : List Value) (h : Hp) : Option (Nat × Lv × List Value × Hp) :=
  match stA nL e.1 lv st with
  | some c => some (pc + e.2.1, c.1, c.2, h)
  | none => match stB e.1 st with
    | some s => some (pc + e.2.1, lv, s, h)
    | none => match stC pc (pc + e.2.1) e.2.2.1 e.1 st with
      | some c => some (c.1, lv, c.2, h)
      | none => match stD L xs d e.1 e.2.2.1 e.2.2.2.1 e.2.2.2.2.1 e.2.2.2.2.2 st h with
        | some c => some (pc + e.2.1, lv, c.1, c.2)
        | none => none
/-- 0: as above; 1: a call of a method of ours; 2: an int is returned; 3: a long; 4: a cell; 5: nothing -/
def kindI (i : Instr) (a : Nat) : Nat := match i with
  | .invokevirtual _ => 1
  | .invokestatic _ => bif Nat.blt a 1000 then 1 else 0
  | .invokespecial _ => bif Nat.blt a 1000 then 1 else 0
  | .ireturn => 2
  | .lreturn => 3
  | .areturn => 4
  | .return_ => 5
  | _ => 0
def nar3 (t : Nat) (x : Int32) : Bool := bif Nat.beq t 0 then true else bif Nat.beq t 1 then decide (narrow .boolean (.int x) = .int x) else bif Nat.beq t 2 then decide (narrow .char (.int x) = .int x) else decide (narrow .byte (.int x) = .int x)
/-- the receiver: a cell of the class that the method is of, or a String constant -/
noncomputable def rcvOK (h : Hp) (t c : Nat) (as : List Value) : Bool := bif Nat.beq t 1 then (match as with
    | .ref k :: _ => isK h k c
    | _ => false)
  else bif Nat.beq t 2 then (match as with
    | .retAddr k :: _ => Nat.ble 3 k && Nat.blt k 9
    | _ => false)
  else true
/-- how many values a call takes -/
noncomputable def mTk (m : Nat) : Nat := bif mS m then mN m else mN m + 1
def retO (k t : Nat) (st : List Value) : Option (Option Value) := match st with
  | [.int x] => bif Nat.beq k 2 && nar3 t x then some (some (.int x)) else none
  | [.long x] => bif Nat.beq k 3 then some (some (.long x)) else none
  | [.ref x] => bif Nat.beq k 4 then some (some (.ref x)) else none
  | [] => bif Nat.beq k 5 then some none else none
  | _ => none
abbrev Rs : Type := Option Value × Hp
noncomputable def nxt (L : Nat) (xs : Nat → Int32) (go : Nat → Nat → Nat → Lv → List Value → Hp → Option Rs) (d m pc : Nat) (lv : Lv) (st : List Value) (h : Hp) : Option Rs :=
  match fetch_ m pc with
  | none => none
  | some e =>
    bif Nat.beq (kindI e.1 e.2.2.1) 0 then (match stp L xs d (mL m) pc e lv st h with
      | some c => go d m c.1 c.2.1 c.2.2.1 c.2.2.2
      | none => none)
    else bif Nat.beq (kindI e.1 e.2.2.1) 1 then (match d with
      | 0 => none
      | d' + 1 => bif Nat.blt 0 e.2.2.1 && Nat.blt e.2.2.1 mCnt && Nat.ble (mTk e.2.2.1) st.length && Nat.ble (catS (st.drop (mTk e.2.2.1))) 8 && rcvOK h (bif mI e.2.2.1 then 1 else e.2.2.2.2.1) (mC e.2.2.1) (st.take (mTk e.2.2.1)).reverse && Nat.ble (lg_sl (st.take (mTk e.2.2.1)).reverse).length (mL e.2.2.1) then
          (match go d' e.2.2.1 0 (lv_args 0 (st.take (mTk e.2.2.1)).reverse) [] h with
            | some r => go (d' + 1) m (pc + 3) lv (r.1.toList ++ st.drop (mTk e.2.2.1)) r.2
            | none => none)
        else none)
    else (match retO (kindI e.1 e.2.2.1) e.2.2.2.2.1 st with
      | some v => some (v, h)
      | none => none)
/-- n instructions at most, d frames at most -/
noncomputable def exec (L : Nat) (xs : Nat → Int32) : Nat → Nat → Nat → Nat → Lv → List Value → Hp → Option Rs
  | 0 => fun _ _ _ _ _ _ => none
  | n + 1 => fun d m pc lv st h => nxt L xs (exec L xs n) d m pc lv st h
