def chkT (pc : Nat) (off : Int) (a : Nat) : Bool := decide ((pc : Int) + off = (a : Int))
noncomputable def eq4 (q : Nat × Nat × Nat × Nat) (a b c d : Nat) : Bool := Nat.beq q.1 a && Nat.beq q.2.1 b && Nat.beq q.2.2.1 c && Nat.beq q.2.2.2 d
noncomputable def eq3 (q : Nat × Nat × Nat) (a b c : Nat) : Bool := Nat.beq q.1 a && Nat.beq q.2.1 b && Nat.beq q.2.2 c
noncomputable def chkM (o k a b p : Nat) : Bool := Nat.blt p MTn && eq4 (MT p) o k a b
/-- one printed instruction against the bytes, and what its pool entry means against the tables -/
noncomputable def chkR (o : Nat) (ini : Bool) (ret : Option FieldType) (pc : Nat) (i : Instr) (a b t p : Nat) : Bool := match i with
  | .goto off => chkT pc off a
  | .ifCond _ off => chkT pc off a
  | .if_icmp _ off => chkT pc off a
  | .getfield k => bif Nat.blt a 11 then Nat.blt b (cNn a) && Nat.blt p FTn && eq4 (FT p) o k a b && Nat.beq t (tcd (fy a b))
      else Nat.blt p STn && eq3 (ST p) o k b
  | .putfield k => Nat.blt a 11 && Nat.blt b (cNn a) && Nat.blt p FTn && eq4 (FT p) o k a b && Nat.beq t (tcd (fy a b)) && (!(fT a b).2.2.2 || (ini && Nat.beq a o))
  | .getstatic k => Nat.ble 9000 p || (Nat.blt p GTn && eq4 (GT p) o k a b)
  | .invokevirtual k => Nat.ble 1500 a || (chkM o k a b p && Nat.blt a mCnt && !mS a && !mI a && ((Nat.beq t 1 && Nat.blt (mC a) 11) || (Nat.beq t 2 && Nat.beq (mC a) 12)))
  | .invokestatic k => Nat.ble 1500 a || (chkM o k a b p && ((Nat.blt a mCnt && mS a) || ((Nat.beq a 1000 || Nat.beq a 1002 || Nat.beq a 1003) && Nat.beq b 0)))
  | .invokespecial k => Nat.ble 1500 a || (chkM o k a b p && ((Nat.blt a mCnt && !mS a && mI a && decide (mR a = none) && Nat.blt (mC a) 11) || (Nat.beq a 1001 && Nat.beq b 0)))
  | .new k => Nat.blt a 11 && Nat.blt p CTn && eq3 (CT p) o k a
  | .anewarray k => Nat.ble 14 a && Nat.blt a 18 && Nat.blt p ATn && eq3 (AT p) o k a
  | .newarray ty => decide ((a = 11 ∧ ty = .int) ∨ (a = 12 ∧ ty = .long) ∨ (a = 13 ∧ ty = .boolean))
  | .ldc k => bif Nat.beq t 1 then Nat.ble 3 a && Nat.blt a 9 && Nat.beq (sIx a) k && Nat.beq o 5 && Nat.blt p TTn && eq3 (TT p) o k a else Nat.blt p KTn && eq3 (KT p) o k b
  | .ldc_w k => Nat.blt p KTn && eq3 (KT p) o k b
  | .ldc2_w k => Nat.blt p LTn && eq3 (LT p) o k b
  | .lookupswitch _ ps => (ps.toList.zip (ps.toList.drop 1)).all (fun (q, next) => q.1 < next.1)
  | .ireturn => decide (ret = some (if t = 0 then .int else if t = 1 then .boolean else if t = 2 then .char else .byte)) && Nat.blt t 4
  | .lreturn => decide (ret = some .long)
  | .areturn => ret.isSome && (match ret with | some (.object _) => true | _ => false)
  | .return_ => ret.isNone
  | _ => true
def chkD (cc : ByteArray) (pc : Nat) (i : Instr) (len : Nat) : Bool := match decode cc pc with
  | .ok (j, n) => decide (j = i) && Nat.beq n len
  | .error _ => false
noncomputable def chkE (o : Nat) (ini : Bool) (ret : Option FieldType) (cc : ByteArray) (pc : Nat) (e : Ent) : Bool := chkD cc pc e.1 e.2.1 && chkR o ini ret pc e.1 e.2.2.1 e.2.2.2.1 e.2.2.2.2.1 e.2.2.2.2.2
noncomputable def chkN (o : Nat) (ini : Bool) (ret : Option FieldType) (cc : ByteArray) (f : Nat → Option Ent) (lo : Nat) : Nat → Bool
  | 0 => true
  | n + 1 => (match f (lo + n) with | none => true | some e => chkE o ini ret cc (lo + n) e) && chkN o ini ret cc f lo n
theorem chkN_ok {o : Nat} {ini : Bool} {ret : Option FieldType} {cc : ByteArray} {f : Nat → Option Ent} {lo : Nat} : ∀ {n : Nat}, chkN o ini ret cc f lo n = true → ∀ {k : Nat} {e : Ent}, lo ≤ k → k < lo + n → f k = some e → chkE o ini ret cc k e = true := by
  intro n
  induction n with
  | zero => intro _ k e h1 h2; omega
  | succ n ih =>
    intro h k e h1 h2 hf
    simp only [chkN, Bool.and_eq_true] at h
    by_cases q : k = lo + n
    · subst q
      rw [hf] at h
      exact h.1
    · exact ih h.2 h1 (by omega) hf
noncomputable def eOK (m lo n : Nat) : Bool := chkN (mC m) (mI m) (mR m) (mB m) (fetch_ m) lo n
noncomputable def dOK (m : Nat) : Bool := plainFor (mY m) && decide ((mY m).cls ≠ "java/lang/invoke/MethodHandle") && decide ((mY m).cls ≠ "java/lang/invoke/VarHandle") && decide ((parseMethodDescriptor (mY m).desc).map (fun d => d.parameters.length) = some (mN m)) && Nat.ble (mL m) 20
theorem guard_ok {α : Type} {k n : Nat} {t : Option α} {e : α} (h : (bif Nat.blt k n then t else none) = some e) : k < n := by
  by_cases q : k < n
  · exact q
  · have e1 : Nat.blt k n = false := by rw [← Bool.not_eq_true, Nat.blt_eq]; exact q
    rw [e1] at h
    cases h
set_option maxRecDepth 100000 in
theorem q_0 : dOK 0 = true := by decide +kernel
set_option maxRecDepth 100000 in
theorem r_0_0 : eOK 0 0 254 = true := by decide +kernel
set_option maxRecDepth 100000 in
theorem r_0_1 : eOK 0 254 72 = true := by decide +kernel
set_option maxRecDepth 100000 in
theorem r_0_2 : eOK 0 326 72 = true := by decide +kernel
set_option maxRecDepth 100000 in
theorem r_0_3 : eOK 0 398 84 = true := by decide +kernel
set_option maxRecDepth 100000 in
theorem r_0_4 : eOK 0 482 80 = true := by decide +kernel
set_option maxRecDepth 100000 in
theorem r_0_5 : eOK 0 562 78 = true := by decide +kernel
set_option maxRecDepth 100000 in
theorem r_0_6 : eOK 0 640 76 = true := by decide +kernel
set_option maxRecDepth 100000 in
theorem r_0_7 : eOK 0 716 74 = true := by decide +kernel
set_option maxRecDepth 100000 in
theorem r_0_8 : eOK 0 790 76 = true := by decide +kernel
set_option maxRecDepth 100000 in
theorem r_0_9 : eOK 0 866 76 = true := by decide +kernel
set_option maxRecDepth 100000 in
theorem r_0_10 : eOK 0 942 86 = true := by decide +kernel
set_option maxRecDepth 100000 in
theorem r_0_11 : eOK 0 1028 74 = true := by decide +kernel
set_option maxRecDepth 100000 in
theorem r_0_12 : eOK 0 1102 72 = true := by decide +kernel
set_option maxRecDepth 100000 in
theorem r_0_13 : eOK 0 1174 70 = true := by decide +kernel
set_option maxRecDepth 100000 in
theorem r_0_14 : eOK 0 1244 72 = true := by decide +kernel
set_option maxRecDepth 100000 in
theorem r_0_15 : eOK 0 1316 46 = true := by decide +kernel
theorem s_0 {k : Nat} {e : Ent} (h : fetch_ 0 k = some e) : chkE (mC 0) (mI 0) (mR 0) (mB 0) k e = true := by
  have hk : k < 1362 := guard_ok (show (bif Nat.blt k 1362 then _ else none) = some e from h)
  by_cases h0 : k < 254
  · exact chkN_ok r_0_0 (by omega) (by omega) h
  by_cases h1 : k < 326
  · exact chkN_ok r_0_1 (by omega) (by omega) h
  by_cases h2 : k < 398
  · exact chkN_ok r_0_2 (by omega) (by omega) h
  by_cases h3 : k < 482
  · exact chkN_ok r_0_3 (by omega) (by omega) h
  by_cases h4 : k < 562
  · exact chkN_ok r_0_4 (by omega) (by omega) h
  by_cases h5 : k < 640
  · exact chkN_ok r_0_5 (by omega) (by omega) h
  by_cases h6 : k < 716
  · exact chkN_ok r_0_6 (by omega) (by omega) h
  by_cases h7 : k < 790
  · exact chkN_ok r_0_7 (by omega) (by omega) h
  by_cases h8 : k < 866
  · exact chkN_ok r_0_8 (by omega) (by omega) h
  by_cases h9 : k < 942
  · exact chkN_ok r_0_9 (by omega) (by omega) h
  by_cases h10 : k < 1028
  · exact chkN_ok r_0_10 (by omega) (by omega) h
  by_cases h11 : k < 1102
  · exact chkN_ok r_0_11 (by omega) (by omega) h
  by_cases h12 : k < 1174
  · exact chkN_ok r_0_12 (by omega) (by omega) h
  by_cases h13 : k < 1244
  · exact chkN_ok r_0_13 (by omega) (by omega) h
  by_cases h14 : k < 1316
  · exact chkN_ok r_0_14 (by omega) (by omega) h
  exact chkN_ok r_0_15 (by omega) (by omega) h
set_option maxRecDepth 100000 in
theorem q_1 : dOK 1 = true := by decide +kernel
set_option maxRecDepth 100000 in
theorem r_1_0 : eOK 1 0 23 = true := by decide +kernel
theorem s_1 {k : Nat} {e : Ent} (h : fetch_ 1 k = some e) : chkE (mC 1) (mI 1) (mR 1) (mB 1) k e = true := by
  have hk : k < 23 := guard_ok (show (bif Nat.blt k 23 then _ else none) = some e from h)
  exact chkN_ok r_1_0 (by omega) (by omega) h
set_option maxRecDepth 100000 in
theorem q_2 : dOK 2 = true := by decide +kernel
set_option maxRecDepth 100000 in
theorem r_2_0 : eOK 2 0 13 = true := by decide +kernel
theorem s_2 {k : Nat} {e : Ent} (h : fetch_ 2 k = some e) : chkE (mC 2) (mI 2) (mR 2) (mB 2) k e = true := by
  have hk : k < 13 := guard_ok (show (bif Nat.blt k 13 then _ else none) = some e from h)
  exact chkN_ok r_2_0 (by omega) (by omega) h
set_option maxRecDepth 100000 in
theorem q_3 : dOK 3 = true := by decide +kernel
set_option maxRecDepth 100000 in
theorem r_3_0 : eOK 3 0 13 = true := by decide +kernel
theorem s_3 {k : Nat} {e : Ent} (h : fetch_ 3 k = some e) : chkE (mC 3) (mI 3) (mR 3) (mB 3) k e = true := by
  have hk : k < 13 := guard_ok (show (bif Nat.blt k 13 then _ else none) = some e from h)
  exact chkN_ok r_3_0 (by omega) (by omega) h
set_option maxRecDepth 100000 in
theorem q_4 : dOK 4 = true := by decide +kernel
set_option maxRecDepth 100000 in
theorem r_4_0 : eOK 4 0 201 = true := by decide +kernel
set_option maxRecDepth 100000 in
theorem r_4_1 : eOK 4 201 91 = true := by decide +kernel
set_option maxRecDepth 100000 in
theorem r_4_2 : eOK 4 292 69 = true := by decide +kernel
theorem s_4 {k : Nat} {e : Ent} (h : fetch_ 4 k = some e) : chkE (mC 4) (mI 4) (mR 4) (mB 4) k e = true := by
  have hk : k < 361 := guard_ok (show (bif Nat.blt k 361 then _ else none) = some e from h)
  by_cases h0 : k < 201
  · exact chkN_ok r_4_0 (by omega) (by omega) h
  by_cases h1 : k < 292
  · exact chkN_ok r_4_1 (by omega) (by omega) h
  exact chkN_ok r_4_2 (by omega) (by omega) h
set_option maxRecDepth 100000 in
theorem q_5 : dOK 5 = true := by decide +kernel
set_option maxRecDepth 100000 in
theorem r_5_0 : eOK 5 0 47 = true := by decide +kernel
theorem s_5 {k : Nat} {e : Ent} (h : fetch_ 5 k = some e) : chkE (mC 5) (mI 5) (mR 5) (mB 5) k e = true := by
  have hk : k < 47 := guard_ok (show (bif Nat.blt k 47 then _ else none) = some e from h)
  exact chkN_ok r_5_0 (by omega) (by omega) h
set_option maxRecDepth 100000 in
theorem q_6 : dOK 6 = true := by decide +kernel
set_option maxRecDepth 100000 in
theorem r_6_0 : eOK 6 0 80 = true := by decide +kernel
theorem s_6 {k : Nat} {e : Ent} (h : fetch_ 6 k = some e) : chkE (mC 6) (mI 6) (mR 6) (mB 6) k e = true := by
  have hk : k < 80 := guard_ok (show (bif Nat.blt k 80 then _ else none) = some e from h)
  exact chkN_ok r_6_0 (by omega) (by omega) h
set_option maxRecDepth 100000 in
theorem q_7 : dOK 7 = true := by decide +kernel
set_option maxRecDepth 100000 in
theorem r_7_0 : eOK 7 0 15 = true := by decide +kernel
theorem s_7 {k : Nat} {e : Ent} (h : fetch_ 7 k = some e) : chkE (mC 7) (mI 7) (mR 7) (mB 7) k e = true := by
  have hk : k < 15 := guard_ok (show (bif Nat.blt k 15 then _ else none) = some e from h)
  exact chkN_ok r_7_0 (by omega) (by omega) h
set_option maxRecDepth 100000 in
theorem q_8 : dOK 8 = true := by decide +kernel
set_option maxRecDepth 100000 in
theorem r_8_0 : eOK 8 0 99 = true := by decide +kernel
set_option maxRecDepth 100000 in
theorem r_8_1 : eOK 8 99 9 = true := by decide +kernel
theorem s_8 {k : Nat} {e : Ent} (h : fetch_ 8 k = some e) : chkE (mC 8) (mI 8) (mR 8) (mB 8) k e = true := by
  have hk : k < 108 := guard_ok (show (bif Nat.blt k 108 then _ else none) = some e from h)
  by_cases h0 : k < 99
  · exact chkN_ok r_8_0 (by omega) (by omega) h
  exact chkN_ok r_8_1 (by omega) (by omega) h
set_option maxRecDepth 100000 in
theorem q_9 : dOK 9 = true := by decide +kernel
set_option maxRecDepth 100000 in
theorem r_9_0 : eOK 9 0 83 = true := by decide +kernel
theorem s_9 {k : Nat} {e : Ent} (h : fetch_ 9 k = some e) : chkE (mC 9) (mI 9) (mR 9) (mB 9) k e = true := by
  have hk : k < 83 := guard_ok (show (bif Nat.blt k 83 then _ else none) = some e from h)
  exact chkN_ok r_9_0 (by omega) (by omega) h
set_option maxRecDepth 100000 in
theorem q_10 : dOK 10 = true := by decide +kernel
set_option maxRecDepth 100000 in
theorem r_10_0 : eOK 10 0 9 = true := by decide +kernel
theorem s_10 {k : Nat} {e : Ent} (h : fetch_ 10 k = some e) : chkE (mC 10) (mI 10) (mR 10) (mB 10) k e = true := by
  have hk : k < 9 := guard_ok (show (bif Nat.blt k 9 then _ else none) = some e from h)
  exact chkN_ok r_10_0 (by omega) (by omega) h
set_option maxRecDepth 100000 in
theorem q_11 : dOK 11 = true := by decide +kernel
set_option maxRecDepth 100000 in
theorem r_11_0 : eOK 11 0 36 = true := by decide +kernel
theorem s_11 {k : Nat} {e : Ent} (h : fetch_ 11 k = some e) : chkE (mC 11) (mI 11) (mR 11) (mB 11) k e = true := by
  have hk : k < 36 := guard_ok (show (bif Nat.blt k 36 then _ else none) = some e from h)
  exact chkN_ok r_11_0 (by omega) (by omega) h
set_option maxRecDepth 100000 in
theorem q_12 : dOK 12 = true := by decide +kernel
set_option maxRecDepth 100000 in
theorem r_12_0 : eOK 12 0 43 = true := by decide +kernel
theorem s_12 {k : Nat} {e : Ent} (h : fetch_ 12 k = some e) : chkE (mC 12) (mI 12) (mR 12) (mB 12) k e = true := by
  have hk : k < 43 := guard_ok (show (bif Nat.blt k 43 then _ else none) = some e from h)
  exact chkN_ok r_12_0 (by omega) (by omega) h
set_option maxRecDepth 100000 in
theorem q_13 : dOK 13 = true := by decide +kernel
set_option maxRecDepth 100000 in
theorem r_13_0 : eOK 13 0 37 = true := by decide +kernel
theorem s_13 {k : Nat} {e : Ent} (h : fetch_ 13 k = some e) : chkE (mC 13) (mI 13) (mR 13) (mB 13) k e = true := by
  have hk : k < 37 := guard_ok (show (bif Nat.blt k 37 then _ else none) = some e from h)
  exact chkN_ok r_13_0 (by omega) (by omega) h
set_option maxRecDepth 100000 in
theorem q_14 : dOK 14 = true := by decide +kernel
set_option maxRecDepth 100000 in
theorem r_14_0 : eOK 14 0 19 = true := by decide +kernel
theorem s_14 {k : Nat} {e : Ent} (h : fetch_ 14 k = some e) : chkE (mC 14) (mI 14) (mR 14) (mB 14) k e = true := by
  have hk : k < 19 := guard_ok (show (bif Nat.blt k 19 then _ else none) = some e from h)
  exact chkN_ok r_14_0 (by omega) (by omega) h
set_option maxRecDepth 100000 in
theorem q_15 : dOK 15 = true := by decide +kernel
set_option maxRecDepth 100000 in
theorem r_15_0 : eOK 15 0 32 = true := by decide +kernel
theorem s_15 {k : Nat} {e : Ent} (h : fetch_ 15 k = some e) : chkE (mC 15) (mI 15) (mR 15) (mB 15) k e = true := by
  have hk : k < 32 := guard_ok (show (bif Nat.blt k 32 then _ else none) = some e from h)
  exact chkN_ok r_15_0 (by omega) (by omega) h
set_option maxRecDepth 100000 in
theorem q_16 : dOK 16 = true := by decide +kernel
set_option maxRecDepth 100000 in
theorem r_16_0 : eOK 16 0 38 = true := by decide +kernel
theorem s_16 {k : Nat} {e : Ent} (h : fetch_ 16 k = some e) : chkE (mC 16) (mI 16) (mR 16) (mB 16) k e = true := by
  have hk : k < 38 := guard_ok (show (bif Nat.blt k 38 then _ else none) = some e from h)
  exact chkN_ok r_16_0 (by omega) (by omega) h
set_option maxRecDepth 100000 in
theorem q_17 : dOK 17 = true := by decide +kernel
set_option maxRecDepth 100000 in
theorem r_17_0 : eOK 17 0 53 = true := by decide +kernel
theorem s_17 {k : Nat} {e : Ent} (h : fetch_ 17 k = some e) : chkE (mC 17) (mI 17) (mR 17) (mB 17) k e = true := by
  have hk : k < 53 := guard_ok (show (bif Nat.blt k 53 then _ else none) = some e from h)
  exact chkN_ok r_17_0 (by omega) (by omega) h
set_option maxRecDepth 100000 in
theorem q_18 : dOK 18 = true := by decide +kernel
set_option maxRecDepth 100000 in
theorem r_18_0 : eOK 18 0 90 = true := by decide +kernel
theorem s_18 {k : Nat} {e : Ent} (h : fetch_ 18 k = some e) : chkE (mC 18) (mI 18) (mR 18) (mB 18) k e = true := by
  have hk : k < 90 := guard_ok (show (bif Nat.blt k 90 then _ else none) = some e from h)
  exact chkN_ok r_18_0 (by omega) (by omega) h
set_option maxRecDepth 100000 in
theorem q_19 : dOK 19 = true := by decide +kernel
set_option maxRecDepth 100000 in
theorem r_19_0 : eOK 19 0 74 = true := by decide +kernel
theorem s_19 {k : Nat} {e : Ent} (h : fetch_ 19 k = some e) : chkE (mC 19) (mI 19) (mR 19) (mB 19) k e = true := by
  have hk : k < 74 := guard_ok (show (bif Nat.blt k 74 then _ else none) = some e from h)
  exact chkN_ok r_19_0 (by omega) (by omega) h
set_option maxRecDepth 100000 in
theorem q_20 : dOK 20 = true := by decide +kernel
set_option maxRecDepth 100000 in
theorem r_20_0 : eOK 20 0 23 = true := by decide +kernel
theorem s_20 {k : Nat} {e : Ent} (h : fetch_ 20 k = some e) : chkE (mC 20) (mI 20) (mR 20) (mB 20) k e = true := by
  have hk : k < 23 := guard_ok (show (bif Nat.blt k 23 then _ else none) = some e from h)
  exact chkN_ok r_20_0 (by omega) (by omega) h
set_option maxRecDepth 100000 in
theorem q_21 : dOK 21 = true := by decide +kernel
set_option maxRecDepth 100000 in
theorem r_21_0 : eOK 21 0 121 = true := by decide +kernel
set_option maxRecDepth 100000 in
theorem r_21_1 : eOK 21 121 15 = true := by decide +kernel
theorem s_21 {k : Nat} {e : Ent} (h : fetch_ 21 k = some e) : chkE (mC 21) (mI 21) (mR 21) (mB 21) k e = true := by
  have hk : k < 136 := guard_ok (show (bif Nat.blt k 136 then _ else none) = some e from h)
  by_cases h0 : k < 121
  · exact chkN_ok r_21_0 (by omega) (by omega) h
  exact chkN_ok r_21_1 (by omega) (by omega) h
set_option maxRecDepth 100000 in
theorem q_22 : dOK 22 = true := by decide +kernel
set_option maxRecDepth 100000 in
theorem r_22_0 : eOK 22 0 12 = true := by decide +kernel
theorem s_22 {k : Nat} {e : Ent} (h : fetch_ 22 k = some e) : chkE (mC 22) (mI 22) (mR 22) (mB 22) k e = true := by
  have hk : k < 12 := guard_ok (show (bif Nat.blt k 12 then _ else none) = some e from h)
  exact chkN_ok r_22_0 (by omega) (by omega) h
set_option maxRecDepth 100000 in
theorem q_23 : dOK 23 = true := by decide +kernel
set_option maxRecDepth 100000 in
theorem r_23_0 : eOK 23 0 65 = true := by decide +kernel
theorem s_23 {k : Nat} {e : Ent} (h : fetch_ 23 k = some e) : chkE (mC 23) (mI 23) (mR 23) (mB 23) k e = true := by
  have hk : k < 65 := guard_ok (show (bif Nat.blt k 65 then _ else none) = some e from h)
  exact chkN_ok r_23_0 (by omega) (by omega) h
set_option maxRecDepth 100000 in
theorem q_24 : dOK 24 = true := by decide +kernel
set_option maxRecDepth 100000 in
theorem r_24_0 : eOK 24 0 22 = true := by decide +kernel
theorem s_24 {k : Nat} {e : Ent} (h : fetch_ 24 k = some e) : chkE (mC 24) (mI 24) (mR 24) (mB 24) k e = true := by
  have hk : k < 22 := guard_ok (show (bif Nat.blt k 22 then _ else none) = some e from h)
  exact chkN_ok r_24_0 (by omega) (by omega) h
set_option maxRecDepth 100000 in
theorem q_25 : dOK 25 = true := by decide +kernel
set_option maxRecDepth 100000 in
theorem r_25_0 : eOK 25 0 25 = true := by decide +kernel
theorem s_25 {k : Nat} {e : Ent} (h : fetch_ 25 k = some e) : chkE (mC 25) (mI 25) (mR 25) (mB 25) k e = true := by
  have hk : k < 25 := guard_ok (show (bif Nat.blt k 25 then _ else none) = some e from h)
  exact chkN_ok r_25_0 (by omega) (by omega) h
set_option maxRecDepth 100000 in
theorem q_26 : dOK 26 = true := by decide +kernel
set_option maxRecDepth 100000 in
theorem r_26_0 : eOK 26 0 111 = true := by decide +kernel
theorem s_26 {k : Nat} {e : Ent} (h : fetch_ 26 k = some e) : chkE (mC 26) (mI 26) (mR 26) (mB 26) k e = true := by
  have hk : k < 111 := guard_ok (show (bif Nat.blt k 111 then _ else none) = some e from h)
  exact chkN_ok r_26_0 (by omega) (by omega) h
set_option maxRecDepth 100000 in
theorem q_27 : dOK 27 = true := by decide +kernel
set_option maxRecDepth 100000 in
theorem r_27_0 : eOK 27 0 40 = true := by decide +kernel
theorem s_27 {k : Nat} {e : Ent} (h : fetch_ 27 k = some e) : chkE (mC 27) (mI 27) (mR 27) (mB 27) k e = true := by
  have hk : k < 40 := guard_ok (show (bif Nat.blt k 40 then _ else none) = some e from h)
  exact chkN_ok r_27_0 (by omega) (by omega) h
set_option maxRecDepth 100000 in
theorem q_28 : dOK 28 = true := by decide +kernel
set_option maxRecDepth 100000 in
theorem r_28_0 : eOK 28 0 26 = true := by decide +kernel
theorem s_28 {k : Nat} {e : Ent} (h : fetch_ 28 k = some e) : chkE (mC 28) (mI 28) (mR 28) (mB 28) k e = true := by
  have hk : k < 26 := guard_ok (show (bif Nat.blt k 26 then _ else none) = some e from h)
  exact chkN_ok r_28_0 (by omega) (by omega) h
set_option maxRecDepth 100000 in
theorem q_29 : dOK 29 = true := by decide +kernel
set_option maxRecDepth 100000 in
theorem r_29_0 : eOK 29 0 98 = true := by decide +kernel
theorem s_29 {k : Nat} {e : Ent} (h : fetch_ 29 k = some e) : chkE (mC 29) (mI 29) (mR 29) (mB 29) k e = true := by
  have hk : k < 98 := guard_ok (show (bif Nat.blt k 98 then _ else none) = some e from h)
  exact chkN_ok r_29_0 (by omega) (by omega) h
set_option maxRecDepth 100000 in
theorem q_30 : dOK 30 = true := by decide +kernel
set_option maxRecDepth 100000 in
theorem r_30_0 : eOK 30 0 49 = true := by decide +kernel
theorem s_30 {k : Nat} {e : Ent} (h : fetch_ 30 k = some e) : chkE (mC 30) (mI 30) (mR 30) (mB 30) k e = true := by
  have hk : k < 49 := guard_ok (show (bif Nat.blt k 49 then _ else none) = some e from h)
  exact chkN_ok r_30_0 (by omega) (by omega) h
set_option maxRecDepth 100000 in
theorem q_31 : dOK 31 = true := by decide +kernel
set_option maxRecDepth 100000 in
theorem r_31_0 : eOK 31 0 56 = true := by decide +kernel
theorem s_31 {k : Nat} {e : Ent} (h : fetch_ 31 k = some e) : chkE (mC 31) (mI 31) (mR 31) (mB 31) k e = true := by
  have hk : k < 56 := guard_ok (show (bif Nat.blt k 56 then _ else none) = some e from h)
  exact chkN_ok r_31_0 (by omega) (by omega) h
set_option maxRecDepth 100000 in
theorem q_32 : dOK 32 = true := by decide +kernel
set_option maxRecDepth 100000 in
theorem r_32_0 : eOK 32 0 29 = true := by decide +kernel
theorem s_32 {k : Nat} {e : Ent} (h : fetch_ 32 k = some e) : chkE (mC 32) (mI 32) (mR 32) (mB 32) k e = true := by
  have hk : k < 29 := guard_ok (show (bif Nat.blt k 29 then _ else none) = some e from h)
  exact chkN_ok r_32_0 (by omega) (by omega) h
set_option maxRecDepth 100000 in
theorem q_33 : dOK 33 = true := by decide +kernel
set_option maxRecDepth 100000 in
theorem r_33_0 : eOK 33 0 43 = true := by decide +kernel
theorem s_33 {k : Nat} {e : Ent} (h : fetch_ 33 k = some e) : chkE (mC 33) (mI 33) (mR 33) (mB 33) k e = true := by
  have hk : k < 43 := guard_ok (show (bif Nat.blt k 43 then _ else none) = some e from h)
  exact chkN_ok r_33_0 (by omega) (by omega) h
set_option maxRecDepth 100000 in
theorem q_34 : dOK 34 = true := by decide +kernel
set_option maxRecDepth 100000 in
theorem r_34_0 : eOK 34 0 40 = true := by decide +kernel
theorem s_34 {k : Nat} {e : Ent} (h : fetch_ 34 k = some e) : chkE (mC 34) (mI 34) (mR 34) (mB 34) k e = true := by
  have hk : k < 40 := guard_ok (show (bif Nat.blt k 40 then _ else none) = some e from h)
  exact chkN_ok r_34_0 (by omega) (by omega) h
set_option maxRecDepth 100000 in
theorem q_35 : dOK 35 = true := by decide +kernel
set_option maxRecDepth 100000 in
theorem r_35_0 : eOK 35 0 20 = true := by decide +kernel
theorem s_35 {k : Nat} {e : Ent} (h : fetch_ 35 k = some e) : chkE (mC 35) (mI 35) (mR 35) (mB 35) k e = true := by
  have hk : k < 20 := guard_ok (show (bif Nat.blt k 20 then _ else none) = some e from h)
  exact chkN_ok r_35_0 (by omega) (by omega) h
set_option maxRecDepth 100000 in
theorem q_36 : dOK 36 = true := by decide +kernel
set_option maxRecDepth 100000 in
theorem r_36_0 : eOK 36 0 105 = true := by decide +kernel
set_option maxRecDepth 100000 in
theorem r_36_1 : eOK 36 105 13 = true := by decide +kernel
theorem s_36 {k : Nat} {e : Ent} (h : fetch_ 36 k = some e) : chkE (mC 36) (mI 36) (mR 36) (mB 36) k e = true := by
  have hk : k < 118 := guard_ok (show (bif Nat.blt k 118 then _ else none) = some e from h)
  by_cases h0 : k < 105
  · exact chkN_ok r_36_0 (by omega) (by omega) h
  exact chkN_ok r_36_1 (by omega) (by omega) h
set_option maxRecDepth 100000 in
theorem q_37 : dOK 37 = true := by decide +kernel
set_option maxRecDepth 100000 in
theorem r_37_0 : eOK 37 0 87 = true := by decide +kernel
theorem s_37 {k : Nat} {e : Ent} (h : fetch_ 37 k = some e) : chkE (mC 37) (mI 37) (mR 37) (mB 37) k e = true := by
  have hk : k < 87 := guard_ok (show (bif Nat.blt k 87 then _ else none) = some e from h)
  exact chkN_ok r_37_0 (by omega) (by omega) h
set_option maxRecDepth 100000 in
theorem q_38 : dOK 38 = true := by decide +kernel
set_option maxRecDepth 100000 in
theorem r_38_0 : eOK 38 0 44 = true := by decide +kernel
theorem s_38 {k : Nat} {e : Ent} (h : fetch_ 38 k = some e) : chkE (mC 38) (mI 38) (mR 38) (mB 38) k e = true := by
  have hk : k < 44 := guard_ok (show (bif Nat.blt k 44 then _ else none) = some e from h)
  exact chkN_ok r_38_0 (by omega) (by omega) h
set_option maxRecDepth 100000 in
theorem q_39 : dOK 39 = true := by decide +kernel
set_option maxRecDepth 100000 in
theorem r_39_0 : eOK 39 0 117 = true := by decide +kernel
set_option maxRecDepth 100000 in
theorem r_39_1 : eOK 39 117 128 = true := by decide +kernel
set_option maxRecDepth 100000 in
theorem r_39_2 : eOK 39 245 7 = true := by decide +kernel
theorem s_39 {k : Nat} {e : Ent} (h : fetch_ 39 k = some e) : chkE (mC 39) (mI 39) (mR 39) (mB 39) k e = true := by
  have hk : k < 252 := guard_ok (show (bif Nat.blt k 252 then _ else none) = some e from h)
  by_cases h0 : k < 117
  · exact chkN_ok r_39_0 (by omega) (by omega) h
  by_cases h1 : k < 245
  · exact chkN_ok r_39_1 (by omega) (by omega) h
  exact chkN_ok r_39_2 (by omega) (by omega) h
set_option maxRecDepth 100000 in
theorem q_40 : dOK 40 = true := by decide +kernel
set_option maxRecDepth 100000 in
theorem r_40_0 : eOK 40 0 123 = true := by decide +kernel
set_option maxRecDepth 100000 in
theorem r_40_1 : eOK 40 123 1 = true := by decide +kernel
theorem s_40 {k : Nat} {e : Ent} (h : fetch_ 40 k = some e) : chkE (mC 40) (mI 40) (mR 40) (mB 40) k e = true := by
  have hk : k < 124 := guard_ok (show (bif Nat.blt k 124 then _ else none) = some e from h)
  by_cases h0 : k < 123
  · exact chkN_ok r_40_0 (by omega) (by omega) h
  exact chkN_ok r_40_1 (by omega) (by omega) h
set_option maxRecDepth 100000 in
theorem q_41 : dOK 41 = true := by decide +kernel
set_option maxRecDepth 100000 in
theorem r_41_0 : eOK 41 0 21 = true := by decide +kernel
theorem s_41 {k : Nat} {e : Ent} (h : fetch_ 41 k = some e) : chkE (mC 41) (mI 41) (mR 41) (mB 41) k e = true := by
  have hk : k < 21 := guard_ok (show (bif Nat.blt k 21 then _ else none) = some e from h)
  exact chkN_ok r_41_0 (by omega) (by omega) h
set_option maxRecDepth 100000 in
theorem q_42 : dOK 42 = true := by decide +kernel
set_option maxRecDepth 100000 in
theorem r_42_0 : eOK 42 0 18 = true := by decide +kernel
theorem s_42 {k : Nat} {e : Ent} (h : fetch_ 42 k = some e) : chkE (mC 42) (mI 42) (mR 42) (mB 42) k e = true := by
  have hk : k < 18 := guard_ok (show (bif Nat.blt k 18 then _ else none) = some e from h)
  exact chkN_ok r_42_0 (by omega) (by omega) h
set_option maxRecDepth 100000 in
theorem q_43 : dOK 43 = true := by decide +kernel
set_option maxRecDepth 100000 in
theorem r_43_0 : eOK 43 0 33 = true := by decide +kernel
theorem s_43 {k : Nat} {e : Ent} (h : fetch_ 43 k = some e) : chkE (mC 43) (mI 43) (mR 43) (mB 43) k e = true := by
  have hk : k < 33 := guard_ok (show (bif Nat.blt k 33 then _ else none) = some e from h)
  exact chkN_ok r_43_0 (by omega) (by omega) h
set_option maxRecDepth 100000 in
theorem q_44 : dOK 44 = true := by decide +kernel
set_option maxRecDepth 100000 in
theorem r_44_0 : eOK 44 0 23 = true := by decide +kernel
theorem s_44 {k : Nat} {e : Ent} (h : fetch_ 44 k = some e) : chkE (mC 44) (mI 44) (mR 44) (mB 44) k e = true := by
  have hk : k < 23 := guard_ok (show (bif Nat.blt k 23 then _ else none) = some e from h)
  exact chkN_ok r_44_0 (by omega) (by omega) h
set_option maxRecDepth 100000 in
theorem q_45 : dOK 45 = true := by decide +kernel
set_option maxRecDepth 100000 in
theorem r_45_0 : eOK 45 0 6 = true := by decide +kernel
theorem s_45 {k : Nat} {e : Ent} (h : fetch_ 45 k = some e) : chkE (mC 45) (mI 45) (mR 45) (mB 45) k e = true := by
  have hk : k < 6 := guard_ok (show (bif Nat.blt k 6 then _ else none) = some e from h)
  exact chkN_ok r_45_0 (by omega) (by omega) h
set_option maxRecDepth 100000 in
theorem q_46 : dOK 46 = true := by decide +kernel
set_option maxRecDepth 100000 in
theorem r_46_0 : eOK 46 0 34 = true := by decide +kernel
theorem s_46 {k : Nat} {e : Ent} (h : fetch_ 46 k = some e) : chkE (mC 46) (mI 46) (mR 46) (mB 46) k e = true := by
  have hk : k < 34 := guard_ok (show (bif Nat.blt k 34 then _ else none) = some e from h)
  exact chkN_ok r_46_0 (by omega) (by omega) h
set_option maxRecDepth 100000 in
theorem q_47 : dOK 47 = true := by decide +kernel
set_option maxRecDepth 100000 in
theorem r_47_0 : eOK 47 0 27 = true := by decide +kernel
theorem s_47 {k : Nat} {e : Ent} (h : fetch_ 47 k = some e) : chkE (mC 47) (mI 47) (mR 47) (mB 47) k e = true := by
  have hk : k < 27 := guard_ok (show (bif Nat.blt k 27 then _ else none) = some e from h)
  exact chkN_ok r_47_0 (by omega) (by omega) h
set_option maxRecDepth 100000 in
theorem q_48 : dOK 48 = true := by decide +kernel
set_option maxRecDepth 100000 in
theorem r_48_0 : eOK 48 0 24 = true := by decide +kernel
theorem s_48 {k : Nat} {e : Ent} (h : fetch_ 48 k = some e) : chkE (mC 48) (mI 48) (mR 48) (mB 48) k e = true := by
  have hk : k < 24 := guard_ok (show (bif Nat.blt k 24 then _ else none) = some e from h)
  exact chkN_ok r_48_0 (by omega) (by omega) h
set_option maxRecDepth 100000 in
theorem q_49 : dOK 49 = true := by decide +kernel
set_option maxRecDepth 100000 in
theorem r_49_0 : eOK 49 0 31 = true := by decide +kernel
theorem s_49 {k : Nat} {e : Ent} (h : fetch_ 49 k = some e) : chkE (mC 49) (mI 49) (mR 49) (mB 49) k e = true := by
  have hk : k < 31 := guard_ok (show (bif Nat.blt k 31 then _ else none) = some e from h)
  exact chkN_ok r_49_0 (by omega) (by omega) h
set_option maxRecDepth 100000 in
theorem q_50 : dOK 50 = true := by decide +kernel
set_option maxRecDepth 100000 in
theorem r_50_0 : eOK 50 0 38 = true := by decide +kernel
theorem s_50 {k : Nat} {e : Ent} (h : fetch_ 50 k = some e) : chkE (mC 50) (mI 50) (mR 50) (mB 50) k e = true := by
  have hk : k < 38 := guard_ok (show (bif Nat.blt k 38 then _ else none) = some e from h)
  exact chkN_ok r_50_0 (by omega) (by omega) h
set_option maxRecDepth 100000 in
theorem q_51 : dOK 51 = true := by decide +kernel
set_option maxRecDepth 100000 in
theorem r_51_0 : eOK 51 0 106 = true := by decide +kernel
theorem s_51 {k : Nat} {e : Ent} (h : fetch_ 51 k = some e) : chkE (mC 51) (mI 51) (mR 51) (mB 51) k e = true := by
  have hk : k < 106 := guard_ok (show (bif Nat.blt k 106 then _ else none) = some e from h)
  exact chkN_ok r_51_0 (by omega) (by omega) h
set_option maxRecDepth 100000 in
theorem q_52 : dOK 52 = true := by decide +kernel
set_option maxRecDepth 100000 in
theorem r_52_0 : eOK 52 0 103 = true := by decide +kernel
theorem s_52 {k : Nat} {e : Ent} (h : fetch_ 52 k = some e) : chkE (mC 52) (mI 52) (mR 52) (mB 52) k e = true := by
  have hk : k < 103 := guard_ok (show (bif Nat.blt k 103 then _ else none) = some e from h)
  exact chkN_ok r_52_0 (by omega) (by omega) h
set_option maxRecDepth 100000 in
theorem q_53 : dOK 53 = true := by decide +kernel
set_option maxRecDepth 100000 in
theorem r_53_0 : eOK 53 0 115 = true := by decide +kernel
set_option maxRecDepth 100000 in
theorem r_53_1 : eOK 53 115 1 = true := by decide +kernel
theorem s_53 {k : Nat} {e : Ent} (h : fetch_ 53 k = some e) : chkE (mC 53) (mI 53) (mR 53) (mB 53) k e = true := by
  have hk : k < 116 := guard_ok (show (bif Nat.blt k 116 then _ else none) = some e from h)
  by_cases h0 : k < 115
  · exact chkN_ok r_53_0 (by omega) (by omega) h
  exact chkN_ok r_53_1 (by omega) (by omega) h
set_option maxRecDepth 100000 in
theorem q_54 : dOK 54 = true := by decide +kernel
set_option maxRecDepth 100000 in
theorem r_54_0 : eOK 54 0 112 = true := by decide +kernel
set_option maxRecDepth 100000 in
theorem r_54_1 : eOK 54 112 17 = true := by decide +kernel
theorem s_54 {k : Nat} {e : Ent} (h : fetch_ 54 k = some e) : chkE (mC 54) (mI 54) (mR 54) (mB 54) k e = true := by
  have hk : k < 129 := guard_ok (show (bif Nat.blt k 129 then _ else none) = some e from h)
  by_cases h0 : k < 112
  · exact chkN_ok r_54_0 (by omega) (by omega) h
  exact chkN_ok r_54_1 (by omega) (by omega) h
set_option maxRecDepth 100000 in
theorem q_55 : dOK 55 = true := by decide +kernel
set_option maxRecDepth 100000 in
theorem r_55_0 : eOK 55 0 58 = true := by decide +kernel
theorem s_55 {k : Nat} {e : Ent} (h : fetch_ 55 k = some e) : chkE (mC 55) (mI 55) (mR 55) (mB 55) k e = true := by
  have hk : k < 58 := guard_ok (show (bif Nat.blt k 58 then _ else none) = some e from h)
  exact chkN_ok r_55_0 (by omega) (by omega) h
set_option maxRecDepth 100000 in
theorem q_56 : dOK 56 = true := by decide +kernel
set_option maxRecDepth 100000 in
theorem r_56_0 : eOK 56 0 43 = true := by decide +kernel
theorem s_56 {k : Nat} {e : Ent} (h : fetch_ 56 k = some e) : chkE (mC 56) (mI 56) (mR 56) (mB 56) k e = true := by
  have hk : k < 43 := guard_ok (show (bif Nat.blt k 43 then _ else none) = some e from h)
  exact chkN_ok r_56_0 (by omega) (by omega) h
set_option maxRecDepth 100000 in
theorem q_57 : dOK 57 = true := by decide +kernel
set_option maxRecDepth 100000 in
theorem r_57_0 : eOK 57 0 26 = true := by decide +kernel
theorem s_57 {k : Nat} {e : Ent} (h : fetch_ 57 k = some e) : chkE (mC 57) (mI 57) (mR 57) (mB 57) k e = true := by
  have hk : k < 26 := guard_ok (show (bif Nat.blt k 26 then _ else none) = some e from h)
  exact chkN_ok r_57_0 (by omega) (by omega) h
set_option maxRecDepth 100000 in
theorem q_58 : dOK 58 = true := by decide +kernel
set_option maxRecDepth 100000 in
theorem r_58_0 : eOK 58 0 32 = true := by decide +kernel
theorem s_58 {k : Nat} {e : Ent} (h : fetch_ 58 k = some e) : chkE (mC 58) (mI 58) (mR 58) (mB 58) k e = true := by
  have hk : k < 32 := guard_ok (show (bif Nat.blt k 32 then _ else none) = some e from h)
  exact chkN_ok r_58_0 (by omega) (by omega) h
set_option maxRecDepth 100000 in
theorem q_59 : dOK 59 = true := by decide +kernel
set_option maxRecDepth 100000 in
theorem r_59_0 : eOK 59 0 32 = true := by decide +kernel
theorem s_59 {k : Nat} {e : Ent} (h : fetch_ 59 k = some e) : chkE (mC 59) (mI 59) (mR 59) (mB 59) k e = true := by
  have hk : k < 32 := guard_ok (show (bif Nat.blt k 32 then _ else none) = some e from h)
  exact chkN_ok r_59_0 (by omega) (by omega) h
set_option maxRecDepth 100000 in
theorem q_60 : dOK 60 = true := by decide +kernel
set_option maxRecDepth 100000 in
theorem r_60_0 : eOK 60 0 40 = true := by decide +kernel
theorem s_60 {k : Nat} {e : Ent} (h : fetch_ 60 k = some e) : chkE (mC 60) (mI 60) (mR 60) (mB 60) k e = true := by
  have hk : k < 40 := guard_ok (show (bif Nat.blt k 40 then _ else none) = some e from h)
  exact chkN_ok r_60_0 (by omega) (by omega) h
set_option maxRecDepth 100000 in
theorem q_61 : dOK 61 = true := by decide +kernel
set_option maxRecDepth 100000 in
theorem r_61_0 : eOK 61 0 18 = true := by decide +kernel
theorem s_61 {k : Nat} {e : Ent} (h : fetch_ 61 k = some e) : chkE (mC 61) (mI 61) (mR 61) (mB 61) k e = true := by
  have hk : k < 18 := guard_ok (show (bif Nat.blt k 18 then _ else none) = some e from h)
  exact chkN_ok r_61_0 (by omega) (by omega) h
set_option maxRecDepth 100000 in
theorem q_62 : dOK 62 = true := by decide +kernel
set_option maxRecDepth 100000 in
theorem r_62_0 : eOK 62 0 47 = true := by decide +kernel
theorem s_62 {k : Nat} {e : Ent} (h : fetch_ 62 k = some e) : chkE (mC 62) (mI 62) (mR 62) (mB 62) k e = true := by
  have hk : k < 47 := guard_ok (show (bif Nat.blt k 47 then _ else none) = some e from h)
  exact chkN_ok r_62_0 (by omega) (by omega) h
set_option maxRecDepth 100000 in
theorem q_63 : dOK 63 = true := by decide +kernel
set_option maxRecDepth 100000 in
theorem r_63_0 : eOK 63 0 36 = true := by decide +kernel
theorem s_63 {k : Nat} {e : Ent} (h : fetch_ 63 k = some e) : chkE (mC 63) (mI 63) (mR 63) (mB 63) k e = true := by
  have hk : k < 36 := guard_ok (show (bif Nat.blt k 36 then _ else none) = some e from h)
  exact chkN_ok r_63_0 (by omega) (by omega) h
set_option maxRecDepth 100000 in
theorem q_64 : dOK 64 = true := by decide +kernel
set_option maxRecDepth 100000 in
theorem r_64_0 : eOK 64 0 16 = true := by decide +kernel
theorem s_64 {k : Nat} {e : Ent} (h : fetch_ 64 k = some e) : chkE (mC 64) (mI 64) (mR 64) (mB 64) k e = true := by
  have hk : k < 16 := guard_ok (show (bif Nat.blt k 16 then _ else none) = some e from h)
  exact chkN_ok r_64_0 (by omega) (by omega) h
set_option maxRecDepth 100000 in
theorem q_65 : dOK 65 = true := by decide +kernel
set_option maxRecDepth 100000 in
theorem r_65_0 : eOK 65 0 33 = true := by decide +kernel
theorem s_65 {k : Nat} {e : Ent} (h : fetch_ 65 k = some e) : chkE (mC 65) (mI 65) (mR 65) (mB 65) k e = true := by
  have hk : k < 33 := guard_ok (show (bif Nat.blt k 33 then _ else none) = some e from h)
  exact chkN_ok r_65_0 (by omega) (by omega) h
set_option maxRecDepth 100000 in
theorem q_66 : dOK 66 = true := by decide +kernel
set_option maxRecDepth 100000 in
theorem r_66_0 : eOK 66 0 15 = true := by decide +kernel
theorem s_66 {k : Nat} {e : Ent} (h : fetch_ 66 k = some e) : chkE (mC 66) (mI 66) (mR 66) (mB 66) k e = true := by
  have hk : k < 15 := guard_ok (show (bif Nat.blt k 15 then _ else none) = some e from h)
  exact chkN_ok r_66_0 (by omega) (by omega) h
set_option maxRecDepth 100000 in
theorem q_67 : dOK 67 = true := by decide +kernel
set_option maxRecDepth 100000 in
theorem r_67_0 : eOK 67 0 107 = true := by decide +kernel
set_option maxRecDepth 100000 in
theorem r_67_1 : eOK 67 107 82 = true := by decide +kernel
theorem s_67 {k : Nat} {e : Ent} (h : fetch_ 67 k = some e) : chkE (mC 67) (mI 67) (mR 67) (mB 67) k e = true := by
  have hk : k < 189 := guard_ok (show (bif Nat.blt k 189 then _ else none) = some e from h)
  by_cases h0 : k < 107
  · exact chkN_ok r_67_0 (by omega) (by omega) h
  exact chkN_ok r_67_1 (by omega) (by omega) h
set_option maxRecDepth 100000 in
theorem q_68 : dOK 68 = true := by decide +kernel
set_option maxRecDepth 100000 in
theorem r_68_0 : eOK 68 0 109 = true := by decide +kernel
set_option maxRecDepth 100000 in
theorem r_68_1 : eOK 68 109 9 = true := by decide +kernel
theorem s_68 {k : Nat} {e : Ent} (h : fetch_ 68 k = some e) : chkE (mC 68) (mI 68) (mR 68) (mB 68) k e = true := by
  have hk : k < 118 := guard_ok (show (bif Nat.blt k 118 then _ else none) = some e from h)
  by_cases h0 : k < 109
  · exact chkN_ok r_68_0 (by omega) (by omega) h
  exact chkN_ok r_68_1 (by omega) (by omega) h
set_option maxRecDepth 100000 in
theorem q_69 : dOK 69 = true := by decide +kernel
set_option maxRecDepth 100000 in
theorem r_69_0 : eOK 69 0 79 = true := by decide +kernel
theorem s_69 {k : Nat} {e : Ent} (h : fetch_ 69 k = some e) : chkE (mC 69) (mI 69) (mR 69) (mB 69) k e = true := by
  have hk : k < 79 := guard_ok (show (bif Nat.blt k 79 then _ else none) = some e from h)
  exact chkN_ok r_69_0 (by omega) (by omega) h
set_option maxRecDepth 100000 in
theorem q_70 : dOK 70 = true := by decide +kernel
set_option maxRecDepth 100000 in
theorem r_70_0 : eOK 70 0 23 = true := by decide +kernel
theorem s_70 {k : Nat} {e : Ent} (h : fetch_ 70 k = some e) : chkE (mC 70) (mI 70) (mR 70) (mB 70) k e = true := by
  have hk : k < 23 := guard_ok (show (bif Nat.blt k 23 then _ else none) = some e from h)
  exact chkN_ok r_70_0 (by omega) (by omega) h
set_option maxRecDepth 100000 in
theorem q_71 : dOK 71 = true := by decide +kernel
set_option maxRecDepth 100000 in
theorem r_71_0 : eOK 71 0 14 = true := by decide +kernel
theorem s_71 {k : Nat} {e : Ent} (h : fetch_ 71 k = some e) : chkE (mC 71) (mI 71) (mR 71) (mB 71) k e = true := by
  have hk : k < 14 := guard_ok (show (bif Nat.blt k 14 then _ else none) = some e from h)
  exact chkN_ok r_71_0 (by omega) (by omega) h
set_option maxRecDepth 100000 in
theorem q_72 : dOK 72 = true := by decide +kernel
set_option maxRecDepth 100000 in
theorem r_72_0 : eOK 72 0 19 = true := by decide +kernel
theorem s_72 {k : Nat} {e : Ent} (h : fetch_ 72 k = some e) : chkE (mC 72) (mI 72) (mR 72) (mB 72) k e = true := by
  have hk : k < 19 := guard_ok (show (bif Nat.blt k 19 then _ else none) = some e from h)
  exact chkN_ok r_72_0 (by omega) (by omega) h
set_option maxRecDepth 100000 in
theorem q_73 : dOK 73 = true := by decide +kernel
set_option maxRecDepth 100000 in
theorem r_73_0 : eOK 73 0 32 = true := by decide +kernel
theorem s_73 {k : Nat} {e : Ent} (h : fetch_ 73 k = some e) : chkE (mC 73) (mI 73) (mR 73) (mB 73) k e = true := by
  have hk : k < 32 := guard_ok (show (bif Nat.blt k 32 then _ else none) = some e from h)
  exact chkN_ok r_73_0 (by omega) (by omega) h
set_option maxRecDepth 100000 in
theorem q_74 : dOK 74 = true := by decide +kernel
set_option maxRecDepth 100000 in
theorem r_74_0 : eOK 74 0 68 = true := by decide +kernel
theorem s_74 {k : Nat} {e : Ent} (h : fetch_ 74 k = some e) : chkE (mC 74) (mI 74) (mR 74) (mB 74) k e = true := by
  have hk : k < 68 := guard_ok (show (bif Nat.blt k 68 then _ else none) = some e from h)
  exact chkN_ok r_74_0 (by omega) (by omega) h
set_option maxRecDepth 100000 in
theorem q_75 : dOK 75 = true := by decide +kernel
set_option maxRecDepth 100000 in
theorem r_75_0 : eOK 75 0 125 = true := by decide +kernel
set_option maxRecDepth 100000 in
theorem r_75_1 : eOK 75 125 43 = true := by decide +kernel
theorem s_75 {k : Nat} {e : Ent} (h : fetch_ 75 k = some e) : chkE (mC 75) (mI 75) (mR 75) (mB 75) k e = true := by
  have hk : k < 168 := guard_ok (show (bif Nat.blt k 168 then _ else none) = some e from h)
  by_cases h0 : k < 125
  · exact chkN_ok r_75_0 (by omega) (by omega) h
  exact chkN_ok r_75_1 (by omega) (by omega) h
set_option maxRecDepth 100000 in
theorem q_76 : dOK 76 = true := by decide +kernel
set_option maxRecDepth 100000 in
theorem r_76_0 : eOK 76 0 54 = true := by decide +kernel
theorem s_76 {k : Nat} {e : Ent} (h : fetch_ 76 k = some e) : chkE (mC 76) (mI 76) (mR 76) (mB 76) k e = true := by
  have hk : k < 54 := guard_ok (show (bif Nat.blt k 54 then _ else none) = some e from h)
  exact chkN_ok r_76_0 (by omega) (by omega) h
set_option maxRecDepth 100000 in
theorem q_77 : dOK 77 = true := by decide +kernel
set_option maxRecDepth 100000 in
theorem r_77_0 : eOK 77 0 94 = true := by decide +kernel
theorem s_77 {k : Nat} {e : Ent} (h : fetch_ 77 k = some e) : chkE (mC 77) (mI 77) (mR 77) (mB 77) k e = true := by
  have hk : k < 94 := guard_ok (show (bif Nat.blt k 94 then _ else none) = some e from h)
  exact chkN_ok r_77_0 (by omega) (by omega) h
set_option maxRecDepth 100000 in
theorem q_78 : dOK 78 = true := by decide +kernel
set_option maxRecDepth 100000 in
theorem r_78_0 : eOK 78 0 90 = true := by decide +kernel
theorem s_78 {k : Nat} {e : Ent} (h : fetch_ 78 k = some e) : chkE (mC 78) (mI 78) (mR 78) (mB 78) k e = true := by
  have hk : k < 90 := guard_ok (show (bif Nat.blt k 90 then _ else none) = some e from h)
  exact chkN_ok r_78_0 (by omega) (by omega) h
set_option maxRecDepth 100000 in
theorem q_79 : dOK 79 = true := by decide +kernel
set_option maxRecDepth 100000 in
theorem r_79_0 : eOK 79 0 32 = true := by decide +kernel
theorem s_79 {k : Nat} {e : Ent} (h : fetch_ 79 k = some e) : chkE (mC 79) (mI 79) (mR 79) (mB 79) k e = true := by
  have hk : k < 32 := guard_ok (show (bif Nat.blt k 32 then _ else none) = some e from h)
  exact chkN_ok r_79_0 (by omega) (by omega) h
set_option maxRecDepth 100000 in
theorem q_80 : dOK 80 = true := by decide +kernel
set_option maxRecDepth 100000 in
theorem r_80_0 : eOK 80 0 129 = true := by decide +kernel
theorem s_80 {k : Nat} {e : Ent} (h : fetch_ 80 k = some e) : chkE (mC 80) (mI 80) (mR 80) (mB 80) k e = true := by
  have hk : k < 129 := guard_ok (show (bif Nat.blt k 129 then _ else none) = some e from h)
  exact chkN_ok r_80_0 (by omega) (by omega) h
set_option maxRecDepth 100000 in
theorem q_81 : dOK 81 = true := by decide +kernel
set_option maxRecDepth 100000 in
theorem r_81_0 : eOK 81 0 54 = true := by decide +kernel
theorem s_81 {k : Nat} {e : Ent} (h : fetch_ 81 k = some e) : chkE (mC 81) (mI 81) (mR 81) (mB 81) k e = true := by
  have hk : k < 54 := guard_ok (show (bif Nat.blt k 54 then _ else none) = some e from h)
  exact chkN_ok r_81_0 (by omega) (by omega) h
set_option maxRecDepth 100000 in
theorem q_82 : dOK 82 = true := by decide +kernel
set_option maxRecDepth 100000 in
theorem r_82_0 : eOK 82 0 88 = true := by decide +kernel
theorem s_82 {k : Nat} {e : Ent} (h : fetch_ 82 k = some e) : chkE (mC 82) (mI 82) (mR 82) (mB 82) k e = true := by
  have hk : k < 88 := guard_ok (show (bif Nat.blt k 88 then _ else none) = some e from h)
  exact chkN_ok r_82_0 (by omega) (by omega) h
set_option maxRecDepth 100000 in
theorem q_83 : dOK 83 = true := by decide +kernel
set_option maxRecDepth 100000 in
theorem r_83_0 : eOK 83 0 42 = true := by decide +kernel
theorem s_83 {k : Nat} {e : Ent} (h : fetch_ 83 k = some e) : chkE (mC 83) (mI 83) (mR 83) (mB 83) k e = true := by
  have hk : k < 42 := guard_ok (show (bif Nat.blt k 42 then _ else none) = some e from h)
  exact chkN_ok r_83_0 (by omega) (by omega) h
set_option maxRecDepth 100000 in
theorem q_84 : dOK 84 = true := by decide +kernel
set_option maxRecDepth 100000 in
theorem r_84_0 : eOK 84 0 82 = true := by decide +kernel
theorem s_84 {k : Nat} {e : Ent} (h : fetch_ 84 k = some e) : chkE (mC 84) (mI 84) (mR 84) (mB 84) k e = true := by
  have hk : k < 82 := guard_ok (show (bif Nat.blt k 82 then _ else none) = some e from h)
  exact chkN_ok r_84_0 (by omega) (by omega) h
set_option maxRecDepth 100000 in
theorem q_85 : dOK 85 = true := by decide +kernel
set_option maxRecDepth 100000 in
theorem r_85_0 : eOK 85 0 133 = true := by decide +kernel
theorem s_85 {k : Nat} {e : Ent} (h : fetch_ 85 k = some e) : chkE (mC 85) (mI 85) (mR 85) (mB 85) k e = true := by
  have hk : k < 133 := guard_ok (show (bif Nat.blt k 133 then _ else none) = some e from h)
  exact chkN_ok r_85_0 (by omega) (by omega) h
set_option maxRecDepth 100000 in
theorem q_86 : dOK 86 = true := by decide +kernel
set_option maxRecDepth 100000 in
theorem r_86_0 : eOK 86 0 22 = true := by decide +kernel
theorem s_86 {k : Nat} {e : Ent} (h : fetch_ 86 k = some e) : chkE (mC 86) (mI 86) (mR 86) (mB 86) k e = true := by
  have hk : k < 22 := guard_ok (show (bif Nat.blt k 22 then _ else none) = some e from h)
  exact chkN_ok r_86_0 (by omega) (by omega) h
set_option maxRecDepth 100000 in
theorem q_87 : dOK 87 = true := by decide +kernel
set_option maxRecDepth 100000 in
theorem r_87_0 : eOK 87 0 55 = true := by decide +kernel
theorem s_87 {k : Nat} {e : Ent} (h : fetch_ 87 k = some e) : chkE (mC 87) (mI 87) (mR 87) (mB 87) k e = true := by
  have hk : k < 55 := guard_ok (show (bif Nat.blt k 55 then _ else none) = some e from h)
  exact chkN_ok r_87_0 (by omega) (by omega) h
set_option maxRecDepth 100000 in
theorem q_88 : dOK 88 = true := by decide +kernel
set_option maxRecDepth 100000 in
theorem r_88_0 : eOK 88 0 105 = true := by decide +kernel
theorem s_88 {k : Nat} {e : Ent} (h : fetch_ 88 k = some e) : chkE (mC 88) (mI 88) (mR 88) (mB 88) k e = true := by
  have hk : k < 105 := guard_ok (show (bif Nat.blt k 105 then _ else none) = some e from h)
  exact chkN_ok r_88_0 (by omega) (by omega) h
set_option maxRecDepth 100000 in
theorem q_89 : dOK 89 = true := by decide +kernel
set_option maxRecDepth 100000 in
theorem r_89_0 : eOK 89 0 87 = true := by decide +kernel
theorem s_89 {k : Nat} {e : Ent} (h : fetch_ 89 k = some e) : chkE (mC 89) (mI 89) (mR 89) (mB 89) k e = true := by
  have hk : k < 87 := guard_ok (show (bif Nat.blt k 87 then _ else none) = some e from h)
  exact chkN_ok r_89_0 (by omega) (by omega) h
set_option maxRecDepth 100000 in
theorem q_90 : dOK 90 = true := by decide +kernel
set_option maxRecDepth 100000 in
theorem r_90_0 : eOK 90 0 109 = true := by decide +kernel
theorem s_90 {k : Nat} {e : Ent} (h : fetch_ 90 k = some e) : chkE (mC 90) (mI 90) (mR 90) (mB 90) k e = true := by
  have hk : k < 109 := guard_ok (show (bif Nat.blt k 109 then _ else none) = some e from h)
  exact chkN_ok r_90_0 (by omega) (by omega) h
set_option maxRecDepth 100000 in
theorem q_91 : dOK 91 = true := by decide +kernel
set_option maxRecDepth 100000 in
theorem r_91_0 : eOK 91 0 45 = true := by decide +kernel
theorem s_91 {k : Nat} {e : Ent} (h : fetch_ 91 k = some e) : chkE (mC 91) (mI 91) (mR 91) (mB 91) k e = true := by
  have hk : k < 45 := guard_ok (show (bif Nat.blt k 45 then _ else none) = some e from h)
  exact chkN_ok r_91_0 (by omega) (by omega) h
set_option maxRecDepth 100000 in
theorem q_92 : dOK 92 = true := by decide +kernel
set_option maxRecDepth 100000 in
theorem r_92_0 : eOK 92 0 96 = true := by decide +kernel
theorem s_92 {k : Nat} {e : Ent} (h : fetch_ 92 k = some e) : chkE (mC 92) (mI 92) (mR 92) (mB 92) k e = true := by
  have hk : k < 96 := guard_ok (show (bif Nat.blt k 96 then _ else none) = some e from h)
  exact chkN_ok r_92_0 (by omega) (by omega) h
set_option maxRecDepth 100000 in
theorem q_93 : dOK 93 = true := by decide +kernel
set_option maxRecDepth 100000 in
theorem r_93_0 : eOK 93 0 112 = true := by decide +kernel
set_option maxRecDepth 100000 in
theorem r_93_1 : eOK 93 112 61 = true := by decide +kernel
theorem s_93 {k : Nat} {e : Ent} (h : fetch_ 93 k = some e) : chkE (mC 93) (mI 93) (mR 93) (mB 93) k e = true := by
  have hk : k < 173 := guard_ok (show (bif Nat.blt k 173 then _ else none) = some e from h)
  by_cases h0 : k < 112
  · exact chkN_ok r_93_0 (by omega) (by omega) h
  exact chkN_ok r_93_1 (by omega) (by omega) h
set_option maxRecDepth 100000 in
theorem q_94 : dOK 94 = true := by decide +kernel
set_option maxRecDepth 100000 in
theorem r_94_0 : eOK 94 0 68 = true := by decide +kernel
theorem s_94 {k : Nat} {e : Ent} (h : fetch_ 94 k = some e) : chkE (mC 94) (mI 94) (mR 94) (mB 94) k e = true := by
  have hk : k < 68 := guard_ok (show (bif Nat.blt k 68 then _ else none) = some e from h)
  exact chkN_ok r_94_0 (by omega) (by omega) h
set_option maxRecDepth 100000 in
theorem q_95 : dOK 95 = true := by decide +kernel
set_option maxRecDepth 100000 in
theorem r_95_0 : eOK 95 0 80 = true := by decide +kernel
theorem s_95 {k : Nat} {e : Ent} (h : fetch_ 95 k = some e) : chkE (mC 95) (mI 95) (mR 95) (mB 95) k e = true := by
  have hk : k < 80 := guard_ok (show (bif Nat.blt k 80 then _ else none) = some e from h)
  exact chkN_ok r_95_0 (by omega) (by omega) h
set_option maxRecDepth 100000 in
theorem q_96 : dOK 96 = true := by decide +kernel
set_option maxRecDepth 100000 in
theorem r_96_0 : eOK 96 0 110 = true := by decide +kernel
theorem s_96 {k : Nat} {e : Ent} (h : fetch_ 96 k = some e) : chkE (mC 96) (mI 96) (mR 96) (mB 96) k e = true := by
  have hk : k < 110 := guard_ok (show (bif Nat.blt k 110 then _ else none) = some e from h)
  exact chkN_ok r_96_0 (by omega) (by omega) h
set_option maxRecDepth 100000 in
theorem q_97 : dOK 97 = true := by decide +kernel
set_option maxRecDepth 100000 in
theorem r_97_0 : eOK 97 0 37 = true := by decide +kernel
theorem s_97 {k : Nat} {e : Ent} (h : fetch_ 97 k = some e) : chkE (mC 97) (mI 97) (mR 97) (mB 97) k e = true := by
  have hk : k < 37 := guard_ok (show (bif Nat.blt k 37 then _ else none) = some e from h)
  exact chkN_ok r_97_0 (by omega) (by omega) h
set_option maxRecDepth 100000 in
theorem q_98 : dOK 98 = true := by decide +kernel
set_option maxRecDepth 100000 in
theorem r_98_0 : eOK 98 0 117 = true := by decide +kernel
set_option maxRecDepth 100000 in
theorem r_98_1 : eOK 98 117 13 = true := by decide +kernel
theorem s_98 {k : Nat} {e : Ent} (h : fetch_ 98 k = some e) : chkE (mC 98) (mI 98) (mR 98) (mB 98) k e = true := by
  have hk : k < 130 := guard_ok (show (bif Nat.blt k 130 then _ else none) = some e from h)
  by_cases h0 : k < 117
  · exact chkN_ok r_98_0 (by omega) (by omega) h
  exact chkN_ok r_98_1 (by omega) (by omega) h
set_option maxRecDepth 100000 in
theorem q_99 : dOK 99 = true := by decide +kernel
set_option maxRecDepth 100000 in
theorem r_99_0 : eOK 99 0 69 = true := by decide +kernel
theorem s_99 {k : Nat} {e : Ent} (h : fetch_ 99 k = some e) : chkE (mC 99) (mI 99) (mR 99) (mB 99) k e = true := by
  have hk : k < 69 := guard_ok (show (bif Nat.blt k 69 then _ else none) = some e from h)
  exact chkN_ok r_99_0 (by omega) (by omega) h
set_option maxRecDepth 100000 in
theorem q_100 : dOK 100 = true := by decide +kernel
set_option maxRecDepth 100000 in
theorem r_100_0 : eOK 100 0 75 = true := by decide +kernel
theorem s_100 {k : Nat} {e : Ent} (h : fetch_ 100 k = some e) : chkE (mC 100) (mI 100) (mR 100) (mB 100) k e = true := by
  have hk : k < 75 := guard_ok (show (bif Nat.blt k 75 then _ else none) = some e from h)
  exact chkN_ok r_100_0 (by omega) (by omega) h
set_option maxRecDepth 100000 in
theorem q_101 : dOK 101 = true := by decide +kernel
set_option maxRecDepth 100000 in
theorem r_101_0 : eOK 101 0 75 = true := by decide +kernel
theorem s_101 {k : Nat} {e : Ent} (h : fetch_ 101 k = some e) : chkE (mC 101) (mI 101) (mR 101) (mB 101) k e = true := by
  have hk : k < 75 := guard_ok (show (bif Nat.blt k 75 then _ else none) = some e from h)
  exact chkN_ok r_101_0 (by omega) (by omega) h
set_option maxRecDepth 100000 in
theorem q_102 : dOK 102 = true := by decide +kernel
set_option maxRecDepth 100000 in
theorem r_102_0 : eOK 102 0 68 = true := by decide +kernel
theorem s_102 {k : Nat} {e : Ent} (h : fetch_ 102 k = some e) : chkE (mC 102) (mI 102) (mR 102) (mB 102) k e = true := by
  have hk : k < 68 := guard_ok (show (bif Nat.blt k 68 then _ else none) = some e from h)
  exact chkN_ok r_102_0 (by omega) (by omega) h
set_option maxRecDepth 100000 in
theorem q_103 : dOK 103 = true := by decide +kernel
set_option maxRecDepth 100000 in
theorem r_103_0 : eOK 103 0 95 = true := by decide +kernel
theorem s_103 {k : Nat} {e : Ent} (h : fetch_ 103 k = some e) : chkE (mC 103) (mI 103) (mR 103) (mB 103) k e = true := by
  have hk : k < 95 := guard_ok (show (bif Nat.blt k 95 then _ else none) = some e from h)
  exact chkN_ok r_103_0 (by omega) (by omega) h
set_option maxRecDepth 100000 in
theorem q_104 : dOK 104 = true := by decide +kernel
set_option maxRecDepth 100000 in
theorem r_104_0 : eOK 104 0 112 = true := by decide +kernel
theorem s_104 {k : Nat} {e : Ent} (h : fetch_ 104 k = some e) : chkE (mC 104) (mI 104) (mR 104) (mB 104) k e = true := by
  have hk : k < 112 := guard_ok (show (bif Nat.blt k 112 then _ else none) = some e from h)
  exact chkN_ok r_104_0 (by omega) (by omega) h
set_option maxRecDepth 100000 in
theorem q_105 : dOK 105 = true := by decide +kernel
set_option maxRecDepth 100000 in
theorem r_105_0 : eOK 105 0 24 = true := by decide +kernel
theorem s_105 {k : Nat} {e : Ent} (h : fetch_ 105 k = some e) : chkE (mC 105) (mI 105) (mR 105) (mB 105) k e = true := by
  have hk : k < 24 := guard_ok (show (bif Nat.blt k 24 then _ else none) = some e from h)
  exact chkN_ok r_105_0 (by omega) (by omega) h
set_option maxRecDepth 100000 in
theorem q_106 : dOK 106 = true := by decide +kernel
set_option maxRecDepth 100000 in
theorem r_106_0 : eOK 106 0 29 = true := by decide +kernel
theorem s_106 {k : Nat} {e : Ent} (h : fetch_ 106 k = some e) : chkE (mC 106) (mI 106) (mR 106) (mB 106) k e = true := by
  have hk : k < 29 := guard_ok (show (bif Nat.blt k 29 then _ else none) = some e from h)
  exact chkN_ok r_106_0 (by omega) (by omega) h
set_option maxRecDepth 100000 in
theorem q_107 : dOK 107 = true := by decide +kernel
set_option maxRecDepth 100000 in
theorem r_107_0 : eOK 107 0 48 = true := by decide +kernel
theorem s_107 {k : Nat} {e : Ent} (h : fetch_ 107 k = some e) : chkE (mC 107) (mI 107) (mR 107) (mB 107) k e = true := by
  have hk : k < 48 := guard_ok (show (bif Nat.blt k 48 then _ else none) = some e from h)
  exact chkN_ok r_107_0 (by omega) (by omega) h
set_option maxRecDepth 100000 in
theorem q_108 : dOK 108 = true := by decide +kernel
set_option maxRecDepth 100000 in
theorem r_108_0 : eOK 108 0 12 = true := by decide +kernel
theorem s_108 {k : Nat} {e : Ent} (h : fetch_ 108 k = some e) : chkE (mC 108) (mI 108) (mR 108) (mB 108) k e = true := by
  have hk : k < 12 := guard_ok (show (bif Nat.blt k 12 then _ else none) = some e from h)
  exact chkN_ok r_108_0 (by omega) (by omega) h
set_option maxRecDepth 100000 in
theorem q_109 : dOK 109 = true := by decide +kernel
set_option maxRecDepth 100000 in
theorem r_109_0 : eOK 109 0 52 = true := by decide +kernel
theorem s_109 {k : Nat} {e : Ent} (h : fetch_ 109 k = some e) : chkE (mC 109) (mI 109) (mR 109) (mB 109) k e = true := by
  have hk : k < 52 := guard_ok (show (bif Nat.blt k 52 then _ else none) = some e from h)
  exact chkN_ok r_109_0 (by omega) (by omega) h
set_option maxRecDepth 100000 in
theorem q_110 : dOK 110 = true := by decide +kernel
set_option maxRecDepth 100000 in
theorem r_110_0 : eOK 110 0 121 = true := by decide +kernel
theorem s_110 {k : Nat} {e : Ent} (h : fetch_ 110 k = some e) : chkE (mC 110) (mI 110) (mR 110) (mB 110) k e = true := by
  have hk : k < 121 := guard_ok (show (bif Nat.blt k 121 then _ else none) = some e from h)
  exact chkN_ok r_110_0 (by omega) (by omega) h
set_option maxRecDepth 100000 in
theorem q_111 : dOK 111 = true := by decide +kernel
set_option maxRecDepth 100000 in
theorem r_111_0 : eOK 111 0 68 = true := by decide +kernel
theorem s_111 {k : Nat} {e : Ent} (h : fetch_ 111 k = some e) : chkE (mC 111) (mI 111) (mR 111) (mB 111) k e = true := by
  have hk : k < 68 := guard_ok (show (bif Nat.blt k 68 then _ else none) = some e from h)
  exact chkN_ok r_111_0 (by omega) (by omega) h
set_option maxRecDepth 100000 in
theorem q_112 : dOK 112 = true := by decide +kernel
set_option maxRecDepth 100000 in
theorem r_112_0 : eOK 112 0 69 = true := by decide +kernel
theorem s_112 {k : Nat} {e : Ent} (h : fetch_ 112 k = some e) : chkE (mC 112) (mI 112) (mR 112) (mB 112) k e = true := by
  have hk : k < 69 := guard_ok (show (bif Nat.blt k 69 then _ else none) = some e from h)
  exact chkN_ok r_112_0 (by omega) (by omega) h
set_option maxRecDepth 100000 in
theorem q_113 : dOK 113 = true := by decide +kernel
set_option maxRecDepth 100000 in
theorem r_113_0 : eOK 113 0 42 = true := by decide +kernel
theorem s_113 {k : Nat} {e : Ent} (h : fetch_ 113 k = some e) : chkE (mC 113) (mI 113) (mR 113) (mB 113) k e = true := by
  have hk : k < 42 := guard_ok (show (bif Nat.blt k 42 then _ else none) = some e from h)
  exact chkN_ok r_113_0 (by omega) (by omega) h
set_option maxRecDepth 100000 in
theorem q_114 : dOK 114 = true := by decide +kernel
set_option maxRecDepth 100000 in
theorem r_114_0 : eOK 114 0 114 = true := by decide +kernel
theorem s_114 {k : Nat} {e : Ent} (h : fetch_ 114 k = some e) : chkE (mC 114) (mI 114) (mR 114) (mB 114) k e = true := by
  have hk : k < 114 := guard_ok (show (bif Nat.blt k 114 then _ else none) = some e from h)
  exact chkN_ok r_114_0 (by omega) (by omega) h
set_option maxRecDepth 100000 in
theorem q_115 : dOK 115 = true := by decide +kernel
set_option maxRecDepth 100000 in
theorem r_115_0 : eOK 115 0 26 = true := by decide +kernel
theorem s_115 {k : Nat} {e : Ent} (h : fetch_ 115 k = some e) : chkE (mC 115) (mI 115) (mR 115) (mB 115) k e = true := by
  have hk : k < 26 := guard_ok (show (bif Nat.blt k 26 then _ else none) = some e from h)
  exact chkN_ok r_115_0 (by omega) (by omega) h
set_option maxRecDepth 100000 in
theorem q_116 : dOK 116 = true := by decide +kernel
set_option maxRecDepth 100000 in
theorem r_116_0 : eOK 116 0 39 = true := by decide +kernel
theorem s_116 {k : Nat} {e : Ent} (h : fetch_ 116 k = some e) : chkE (mC 116) (mI 116) (mR 116) (mB 116) k e = true := by
  have hk : k < 39 := guard_ok (show (bif Nat.blt k 39 then _ else none) = some e from h)
  exact chkN_ok r_116_0 (by omega) (by omega) h
set_option maxRecDepth 100000 in
theorem q_117 : dOK 117 = true := by decide +kernel
set_option maxRecDepth 100000 in
theorem r_117_0 : eOK 117 0 73 = true := by decide +kernel
theorem s_117 {k : Nat} {e : Ent} (h : fetch_ 117 k = some e) : chkE (mC 117) (mI 117) (mR 117) (mB 117) k e = true := by
  have hk : k < 73 := guard_ok (show (bif Nat.blt k 73 then _ else none) = some e from h)
  exact chkN_ok r_117_0 (by omega) (by omega) h
set_option maxRecDepth 100000 in
theorem q_118 : dOK 118 = true := by decide +kernel
set_option maxRecDepth 100000 in
theorem r_118_0 : eOK 118 0 16 = true := by decide +kernel
theorem s_118 {k : Nat} {e : Ent} (h : fetch_ 118 k = some e) : chkE (mC 118) (mI 118) (mR 118) (mB 118) k e = true := by
  have hk : k < 16 := guard_ok (show (bif Nat.blt k 16 then _ else none) = some e from h)
  exact chkN_ok r_118_0 (by omega) (by omega) h
set_option maxRecDepth 100000 in
theorem q_119 : dOK 119 = true := by decide +kernel
set_option maxRecDepth 100000 in
theorem r_119_0 : eOK 119 0 7 = true := by decide +kernel
theorem s_119 {k : Nat} {e : Ent} (h : fetch_ 119 k = some e) : chkE (mC 119) (mI 119) (mR 119) (mB 119) k e = true := by
  have hk : k < 7 := guard_ok (show (bif Nat.blt k 7 then _ else none) = some e from h)
  exact chkN_ok r_119_0 (by omega) (by omega) h
set_option maxRecDepth 100000 in
theorem q_120 : dOK 120 = true := by decide +kernel
set_option maxRecDepth 100000 in
theorem r_120_0 : eOK 120 0 12 = true := by decide +kernel
theorem s_120 {k : Nat} {e : Ent} (h : fetch_ 120 k = some e) : chkE (mC 120) (mI 120) (mR 120) (mB 120) k e = true := by
  have hk : k < 12 := guard_ok (show (bif Nat.blt k 12 then _ else none) = some e from h)
  exact chkN_ok r_120_0 (by omega) (by omega) h
set_option maxRecDepth 100000 in
theorem q_121 : dOK 121 = true := by decide +kernel
set_option maxRecDepth 100000 in
theorem r_121_0 : eOK 121 0 40 = true := by decide +kernel
theorem s_121 {k : Nat} {e : Ent} (h : fetch_ 121 k = some e) : chkE (mC 121) (mI 121) (mR 121) (mB 121) k e = true := by
  have hk : k < 40 := guard_ok (show (bif Nat.blt k 40 then _ else none) = some e from h)
  exact chkN_ok r_121_0 (by omega) (by omega) h
set_option maxRecDepth 100000 in
theorem q_122 : dOK 122 = true := by decide +kernel
set_option maxRecDepth 100000 in
theorem r_122_0 : eOK 122 0 14 = true := by decide +kernel
theorem s_122 {k : Nat} {e : Ent} (h : fetch_ 122 k = some e) : chkE (mC 122) (mI 122) (mR 122) (mB 122) k e = true := by
  have hk : k < 14 := guard_ok (show (bif Nat.blt k 14 then _ else none) = some e from h)
  exact chkN_ok r_122_0 (by omega) (by omega) h
set_option maxRecDepth 100000 in
theorem q_123 : dOK 123 = true := by decide +kernel
set_option maxRecDepth 100000 in
theorem r_123_0 : eOK 123 0 26 = true := by decide +kernel
theorem s_123 {k : Nat} {e : Ent} (h : fetch_ 123 k = some e) : chkE (mC 123) (mI 123) (mR 123) (mB 123) k e = true := by
  have hk : k < 26 := guard_ok (show (bif Nat.blt k 26 then _ else none) = some e from h)
  exact chkN_ok r_123_0 (by omega) (by omega) h
set_option maxRecDepth 100000 in
theorem q_124 : dOK 124 = true := by decide +kernel
set_option maxRecDepth 100000 in
theorem r_124_0 : eOK 124 0 66 = true := by decide +kernel
theorem s_124 {k : Nat} {e : Ent} (h : fetch_ 124 k = some e) : chkE (mC 124) (mI 124) (mR 124) (mB 124) k e = true := by
  have hk : k < 66 := guard_ok (show (bif Nat.blt k 66 then _ else none) = some e from h)
  exact chkN_ok r_124_0 (by omega) (by omega) h
set_option maxRecDepth 100000 in
theorem q_125 : dOK 125 = true := by decide +kernel
set_option maxRecDepth 100000 in
theorem r_125_0 : eOK 125 0 109 = true := by decide +kernel
set_option maxRecDepth 100000 in
theorem r_125_1 : eOK 125 109 110 = true := by decide +kernel
set_option maxRecDepth 100000 in
theorem r_125_2 : eOK 125 219 89 = true := by decide +kernel
set_option maxRecDepth 100000 in
theorem r_125_3 : eOK 125 308 109 = true := by decide +kernel
set_option maxRecDepth 100000 in
theorem r_125_4 : eOK 125 417 109 = true := by decide +kernel
set_option maxRecDepth 100000 in
theorem r_125_5 : eOK 125 526 90 = true := by decide +kernel
theorem s_125 {k : Nat} {e : Ent} (h : fetch_ 125 k = some e) : chkE (mC 125) (mI 125) (mR 125) (mB 125) k e = true := by
  have hk : k < 616 := guard_ok (show (bif Nat.blt k 616 then _ else none) = some e from h)
  by_cases h0 : k < 109
  · exact chkN_ok r_125_0 (by omega) (by omega) h
  by_cases h1 : k < 219
  · exact chkN_ok r_125_1 (by omega) (by omega) h
  by_cases h2 : k < 308
  · exact chkN_ok r_125_2 (by omega) (by omega) h
  by_cases h3 : k < 417
  · exact chkN_ok r_125_3 (by omega) (by omega) h
  by_cases h4 : k < 526
  · exact chkN_ok r_125_4 (by omega) (by omega) h
  exact chkN_ok r_125_5 (by omega) (by omega) h
set_option maxRecDepth 100000 in
theorem q_126 : dOK 126 = true := by decide +kernel
set_option maxRecDepth 100000 in
theorem r_126_0 : eOK 126 0 16 = true := by decide +kernel
theorem s_126 {k : Nat} {e : Ent} (h : fetch_ 126 k = some e) : chkE (mC 126) (mI 126) (mR 126) (mB 126) k e = true := by
  have hk : k < 16 := guard_ok (show (bif Nat.blt k 16 then _ else none) = some e from h)
  exact chkN_ok r_126_0 (by omega) (by omega) h
set_option maxRecDepth 100000 in
theorem q_127 : dOK 127 = true := by decide +kernel
set_option maxRecDepth 100000 in
theorem r_127_0 : eOK 127 0 15 = true := by decide +kernel
theorem s_127 {k : Nat} {e : Ent} (h : fetch_ 127 k = some e) : chkE (mC 127) (mI 127) (mR 127) (mB 127) k e = true := by
  have hk : k < 15 := guard_ok (show (bif Nat.blt k 15 then _ else none) = some e from h)
  exact chkN_ok r_127_0 (by omega) (by omega) h
set_option maxRecDepth 100000 in
theorem q_128 : dOK 128 = true := by decide +kernel
set_option maxRecDepth 100000 in
theorem r_128_0 : eOK 128 0 22 = true := by decide +kernel
theorem s_128 {k : Nat} {e : Ent} (h : fetch_ 128 k = some e) : chkE (mC 128) (mI 128) (mR 128) (mB 128) k e = true := by
  have hk : k < 22 := guard_ok (show (bif Nat.blt k 22 then _ else none) = some e from h)
  exact chkN_ok r_128_0 (by omega) (by omega) h
set_option maxRecDepth 100000 in
theorem q_129 : dOK 129 = true := by decide +kernel
set_option maxRecDepth 100000 in
theorem r_129_0 : eOK 129 0 19 = true := by decide +kernel
theorem s_129 {k : Nat} {e : Ent} (h : fetch_ 129 k = some e) : chkE (mC 129) (mI 129) (mR 129) (mB 129) k e = true := by
  have hk : k < 19 := guard_ok (show (bif Nat.blt k 19 then _ else none) = some e from h)
  exact chkN_ok r_129_0 (by omega) (by omega) h
set_option maxRecDepth 100000 in
theorem q_130 : dOK 130 = true := by decide +kernel
set_option maxRecDepth 100000 in
theorem r_130_0 : eOK 130 0 13 = true := by decide +kernel
theorem s_130 {k : Nat} {e : Ent} (h : fetch_ 130 k = some e) : chkE (mC 130) (mI 130) (mR 130) (mB 130) k e = true := by
  have hk : k < 13 := guard_ok (show (bif Nat.blt k 13 then _ else none) = some e from h)
  exact chkN_ok r_130_0 (by omega) (by omega) h
set_option maxRecDepth 100000 in
theorem q_131 : dOK 131 = true := by decide +kernel
set_option maxRecDepth 100000 in
theorem r_131_0 : eOK 131 0 61 = true := by decide +kernel
theorem s_131 {k : Nat} {e : Ent} (h : fetch_ 131 k = some e) : chkE (mC 131) (mI 131) (mR 131) (mB 131) k e = true := by
  have hk : k < 61 := guard_ok (show (bif Nat.blt k 61 then _ else none) = some e from h)
  exact chkN_ok r_131_0 (by omega) (by omega) h
set_option maxRecDepth 100000 in
theorem q_132 : dOK 132 = true := by decide +kernel
set_option maxRecDepth 100000 in
theorem r_132_0 : eOK 132 0 55 = true := by decide +kernel
theorem s_132 {k : Nat} {e : Ent} (h : fetch_ 132 k = some e) : chkE (mC 132) (mI 132) (mR 132) (mB 132) k e = true := by
  have hk : k < 55 := guard_ok (show (bif Nat.blt k 55 then _ else none) = some e from h)
  exact chkN_ok r_132_0 (by omega) (by omega) h
set_option maxRecDepth 100000 in
theorem q_133 : dOK 133 = true := by decide +kernel
set_option maxRecDepth 100000 in
theorem r_133_0 : eOK 133 0 111 = true := by decide +kernel
set_option maxRecDepth 100000 in
theorem r_133_1 : eOK 133 111 33 = true := by decide +kernel
theorem s_133 {k : Nat} {e : Ent} (h : fetch_ 133 k = some e) : chkE (mC 133) (mI 133) (mR 133) (mB 133) k e = true := by
  have hk : k < 144 := guard_ok (show (bif Nat.blt k 144 then _ else none) = some e from h)
  by_cases h0 : k < 111
  · exact chkN_ok r_133_0 (by omega) (by omega) h
  exact chkN_ok r_133_1 (by omega) (by omega) h
set_option maxRecDepth 100000 in
theorem q_134 : dOK 134 = true := by decide +kernel
set_option maxRecDepth 100000 in
theorem r_134_0 : eOK 134 0 73 = true := by decide +kernel
theorem s_134 {k : Nat} {e : Ent} (h : fetch_ 134 k = some e) : chkE (mC 134) (mI 134) (mR 134) (mB 134) k e = true := by
  have hk : k < 73 := guard_ok (show (bif Nat.blt k 73 then _ else none) = some e from h)
  exact chkN_ok r_134_0 (by omega) (by omega) h
set_option maxRecDepth 100000 in
theorem q_135 : dOK 135 = true := by decide +kernel
set_option maxRecDepth 100000 in
theorem r_135_0 : eOK 135 0 13 = true := by decide +kernel
theorem s_135 {k : Nat} {e : Ent} (h : fetch_ 135 k = some e) : chkE (mC 135) (mI 135) (mR 135) (mB 135) k e = true := by
  have hk : k < 13 := guard_ok (show (bif Nat.blt k 13 then _ else none) = some e from h)
  exact chkN_ok r_135_0 (by omega) (by omega) h
set_option maxRecDepth 100000 in
theorem q_136 : dOK 136 = true := by decide +kernel
set_option maxRecDepth 100000 in
theorem r_136_0 : eOK 136 0 100 = true := by decide +kernel
set_option maxRecDepth 100000 in
theorem r_136_1 : eOK 136 100 16 = true := by decide +kernel
theorem s_136 {k : Nat} {e : Ent} (h : fetch_ 136 k = some e) : chkE (mC 136) (mI 136) (mR 136) (mB 136) k e = true := by
  have hk : k < 116 := guard_ok (show (bif Nat.blt k 116 then _ else none) = some e from h)
  by_cases h0 : k < 100
  · exact chkN_ok r_136_0 (by omega) (by omega) h
  exact chkN_ok r_136_1 (by omega) (by omega) h
set_option maxRecDepth 100000 in
theorem q_137 : dOK 137 = true := by decide +kernel
set_option maxRecDepth 100000 in
theorem r_137_0 : eOK 137 0 40 = true := by decide +kernel
theorem s_137 {k : Nat} {e : Ent} (h : fetch_ 137 k = some e) : chkE (mC 137) (mI 137) (mR 137) (mB 137) k e = true := by
  have hk : k < 40 := guard_ok (show (bif Nat.blt k 40 then _ else none) = some e from h)
  exact chkN_ok r_137_0 (by omega) (by omega) h
set_option maxRecDepth 100000 in
theorem q_138 : dOK 138 = true := by decide +kernel
set_option maxRecDepth 100000 in
theorem r_138_0 : eOK 138 0 73 = true := by decide +kernel
theorem s_138 {k : Nat} {e : Ent} (h : fetch_ 138 k = some e) : chkE (mC 138) (mI 138) (mR 138) (mB 138) k e = true := by
  have hk : k < 73 := guard_ok (show (bif Nat.blt k 73 then _ else none) = some e from h)
  exact chkN_ok r_138_0 (by omega) (by omega) h
set_option maxRecDepth 100000 in
theorem q_139 : dOK 139 = true := by decide +kernel
set_option maxRecDepth 100000 in
theorem r_139_0 : eOK 139 0 51 = true := by decide +kernel
theorem s_139 {k : Nat} {e : Ent} (h : fetch_ 139 k = some e) : chkE (mC 139) (mI 139) (mR 139) (mB 139) k e = true := by
  have hk : k < 51 := guard_ok (show (bif Nat.blt k 51 then _ else none) = some e from h)
  exact chkN_ok r_139_0 (by omega) (by omega) h
set_option maxRecDepth 100000 in
theorem q_140 : dOK 140 = true := by decide +kernel
set_option maxRecDepth 100000 in
theorem r_140_0 : eOK 140 0 25 = true := by decide +kernel
theorem s_140 {k : Nat} {e : Ent} (h : fetch_ 140 k = some e) : chkE (mC 140) (mI 140) (mR 140) (mB 140) k e = true := by
  have hk : k < 25 := guard_ok (show (bif Nat.blt k 25 then _ else none) = some e from h)
  exact chkN_ok r_140_0 (by omega) (by omega) h
set_option maxRecDepth 100000 in
theorem q_141 : dOK 141 = true := by decide +kernel
set_option maxRecDepth 100000 in
theorem r_141_0 : eOK 141 0 29 = true := by decide +kernel
theorem s_141 {k : Nat} {e : Ent} (h : fetch_ 141 k = some e) : chkE (mC 141) (mI 141) (mR 141) (mB 141) k e = true := by
  have hk : k < 29 := guard_ok (show (bif Nat.blt k 29 then _ else none) = some e from h)
  exact chkN_ok r_141_0 (by omega) (by omega) h
set_option maxRecDepth 100000 in
theorem q_142 : dOK 142 = true := by decide +kernel
set_option maxRecDepth 100000 in
theorem r_142_0 : eOK 142 0 22 = true := by decide +kernel
theorem s_142 {k : Nat} {e : Ent} (h : fetch_ 142 k = some e) : chkE (mC 142) (mI 142) (mR 142) (mB 142) k e = true := by
  have hk : k < 22 := guard_ok (show (bif Nat.blt k 22 then _ else none) = some e from h)
  exact chkN_ok r_142_0 (by omega) (by omega) h
set_option maxRecDepth 100000 in
theorem q_143 : dOK 143 = true := by decide +kernel
set_option maxRecDepth 100000 in
theorem r_143_0 : eOK 143 0 37 = true := by decide +kernel
theorem s_143 {k : Nat} {e : Ent} (h : fetch_ 143 k = some e) : chkE (mC 143) (mI 143) (mR 143) (mB 143) k e = true := by
  have hk : k < 37 := guard_ok (show (bif Nat.blt k 37 then _ else none) = some e from h)
  exact chkN_ok r_143_0 (by omega) (by omega) h
set_option maxRecDepth 100000 in
theorem q_144 : dOK 144 = true := by decide +kernel
set_option maxRecDepth 100000 in
theorem r_144_0 : eOK 144 0 13 = true := by decide +kernel
theorem s_144 {k : Nat} {e : Ent} (h : fetch_ 144 k = some e) : chkE (mC 144) (mI 144) (mR 144) (mB 144) k e = true := by
  have hk : k < 13 := guard_ok (show (bif Nat.blt k 13 then _ else none) = some e from h)
  exact chkN_ok r_144_0 (by omega) (by omega) h
set_option maxRecDepth 100000 in
theorem q_145 : dOK 145 = true := by decide +kernel
set_option maxRecDepth 100000 in
theorem r_145_0 : eOK 145 0 65 = true := by decide +kernel
theorem s_145 {k : Nat} {e : Ent} (h : fetch_ 145 k = some e) : chkE (mC 145) (mI 145) (mR 145) (mB 145) k e = true := by
  have hk : k < 65 := guard_ok (show (bif Nat.blt k 65 then _ else none) = some e from h)
  exact chkN_ok r_145_0 (by omega) (by omega) h
set_option maxRecDepth 100000 in
theorem q_146 : dOK 146 = true := by decide +kernel
set_option maxRecDepth 100000 in
theorem r_146_0 : eOK 146 0 21 = true := by decide +kernel
theorem s_146 {k : Nat} {e : Ent} (h : fetch_ 146 k = some e) : chkE (mC 146) (mI 146) (mR 146) (mB 146) k e = true := by
  have hk : k < 21 := guard_ok (show (bif Nat.blt k 21 then _ else none) = some e from h)
  exact chkN_ok r_146_0 (by omega) (by omega) h
set_option maxRecDepth 100000 in
theorem q_147 : dOK 147 = true := by decide +kernel
set_option maxRecDepth 100000 in
theorem r_147_0 : eOK 147 0 53 = true := by decide +kernel
theorem s_147 {k : Nat} {e : Ent} (h : fetch_ 147 k = some e) : chkE (mC 147) (mI 147) (mR 147) (mB 147) k e = true := by
  have hk : k < 53 := guard_ok (show (bif Nat.blt k 53 then _ else none) = some e from h)
  exact chkN_ok r_147_0 (by omega) (by omega) h
set_option maxRecDepth 100000 in
theorem q_148 : dOK 148 = true := by decide +kernel
set_option maxRecDepth 100000 in
theorem r_148_0 : eOK 148 0 73 = true := by decide +kernel
theorem s_148 {k : Nat} {e : Ent} (h : fetch_ 148 k = some e) : chkE (mC 148) (mI 148) (mR 148) (mB 148) k e = true := by
  have hk : k < 73 := guard_ok (show (bif Nat.blt k 73 then _ else none) = some e from h)
  exact chkN_ok r_148_0 (by omega) (by omega) h
set_option maxRecDepth 100000 in
theorem q_149 : dOK 149 = true := by decide +kernel
set_option maxRecDepth 100000 in
theorem r_149_0 : eOK 149 0 110 = true := by decide +kernel
theorem s_149 {k : Nat} {e : Ent} (h : fetch_ 149 k = some e) : chkE (mC 149) (mI 149) (mR 149) (mB 149) k e = true := by
  have hk : k < 110 := guard_ok (show (bif Nat.blt k 110 then _ else none) = some e from h)
  exact chkN_ok r_149_0 (by omega) (by omega) h
set_option maxRecDepth 100000 in
theorem q_150 : dOK 150 = true := by decide +kernel
set_option maxRecDepth 100000 in
theorem r_150_0 : eOK 150 0 91 = true := by decide +kernel
theorem s_150 {k : Nat} {e : Ent} (h : fetch_ 150 k = some e) : chkE (mC 150) (mI 150) (mR 150) (mB 150) k e = true := by
  have hk : k < 91 := guard_ok (show (bif Nat.blt k 91 then _ else none) = some e from h)
  exact chkN_ok r_150_0 (by omega) (by omega) h
set_option maxRecDepth 100000 in
theorem q_151 : dOK 151 = true := by decide +kernel
set_option maxRecDepth 100000 in
theorem r_151_0 : eOK 151 0 104 = true := by decide +kernel
set_option maxRecDepth 100000 in
theorem r_151_1 : eOK 151 104 102 = true := by decide +kernel
set_option maxRecDepth 100000 in
theorem r_151_2 : eOK 151 206 26 = true := by decide +kernel
theorem s_151 {k : Nat} {e : Ent} (h : fetch_ 151 k = some e) : chkE (mC 151) (mI 151) (mR 151) (mB 151) k e = true := by
  have hk : k < 232 := guard_ok (show (bif Nat.blt k 232 then _ else none) = some e from h)
  by_cases h0 : k < 104
  · exact chkN_ok r_151_0 (by omega) (by omega) h
  by_cases h1 : k < 206
  · exact chkN_ok r_151_1 (by omega) (by omega) h
  exact chkN_ok r_151_2 (by omega) (by omega) h
set_option maxRecDepth 100000 in
theorem q_152 : dOK 152 = true := by decide +kernel
set_option maxRecDepth 100000 in
theorem r_152_0 : eOK 152 0 70 = true := by decide +kernel
theorem s_152 {k : Nat} {e : Ent} (h : fetch_ 152 k = some e) : chkE (mC 152) (mI 152) (mR 152) (mB 152) k e = true := by
  have hk : k < 70 := guard_ok (show (bif Nat.blt k 70 then _ else none) = some e from h)
  exact chkN_ok r_152_0 (by omega) (by omega) h
set_option maxRecDepth 100000 in
theorem q_153 : dOK 153 = true := by decide +kernel
set_option maxRecDepth 100000 in
theorem r_153_0 : eOK 153 0 46 = true := by decide +kernel
theorem s_153 {k : Nat} {e : Ent} (h : fetch_ 153 k = some e) : chkE (mC 153) (mI 153) (mR 153) (mB 153) k e = true := by
  have hk : k < 46 := guard_ok (show (bif Nat.blt k 46 then _ else none) = some e from h)
  exact chkN_ok r_153_0 (by omega) (by omega) h
set_option maxRecDepth 100000 in
theorem q_154 : dOK 154 = true := by decide +kernel
set_option maxRecDepth 100000 in
theorem r_154_0 : eOK 154 0 70 = true := by decide +kernel
theorem s_154 {k : Nat} {e : Ent} (h : fetch_ 154 k = some e) : chkE (mC 154) (mI 154) (mR 154) (mB 154) k e = true := by
  have hk : k < 70 := guard_ok (show (bif Nat.blt k 70 then _ else none) = some e from h)
  exact chkN_ok r_154_0 (by omega) (by omega) h
set_option maxRecDepth 100000 in
theorem q_155 : dOK 155 = true := by decide +kernel
set_option maxRecDepth 100000 in
theorem r_155_0 : eOK 155 0 61 = true := by decide +kernel
theorem s_155 {k : Nat} {e : Ent} (h : fetch_ 155 k = some e) : chkE (mC 155) (mI 155) (mR 155) (mB 155) k e = true := by
  have hk : k < 61 := guard_ok (show (bif Nat.blt k 61 then _ else none) = some e from h)
  exact chkN_ok r_155_0 (by omega) (by omega) h
set_option maxRecDepth 100000 in
theorem q_156 : dOK 156 = true := by decide +kernel
set_option maxRecDepth 100000 in
theorem r_156_0 : eOK 156 0 19 = true := by decide +kernel
theorem s_156 {k : Nat} {e : Ent} (h : fetch_ 156 k = some e) : chkE (mC 156) (mI 156) (mR 156) (mB 156) k e = true := by
  have hk : k < 19 := guard_ok (show (bif Nat.blt k 19 then _ else none) = some e from h)
  exact chkN_ok r_156_0 (by omega) (by omega) h
set_option maxRecDepth 100000 in
theorem q_157 : dOK 157 = true := by decide +kernel
set_option maxRecDepth 100000 in
theorem r_157_0 : eOK 157 0 29 = true := by decide +kernel
theorem s_157 {k : Nat} {e : Ent} (h : fetch_ 157 k = some e) : chkE (mC 157) (mI 157) (mR 157) (mB 157) k e = true := by
  have hk : k < 29 := guard_ok (show (bif Nat.blt k 29 then _ else none) = some e from h)
  exact chkN_ok r_157_0 (by omega) (by omega) h
set_option maxRecDepth 100000 in
theorem q_158 : dOK 158 = true := by decide +kernel
set_option maxRecDepth 100000 in
theorem r_158_0 : eOK 158 0 44 = true := by decide +kernel
theorem s_158 {k : Nat} {e : Ent} (h : fetch_ 158 k = some e) : chkE (mC 158) (mI 158) (mR 158) (mB 158) k e = true := by
  have hk : k < 44 := guard_ok (show (bif Nat.blt k 44 then _ else none) = some e from h)
  exact chkN_ok r_158_0 (by omega) (by omega) h
set_option maxRecDepth 100000 in
theorem q_159 : dOK 159 = true := by decide +kernel
set_option maxRecDepth 100000 in
theorem r_159_0 : eOK 159 0 76 = true := by decide +kernel
theorem s_159 {k : Nat} {e : Ent} (h : fetch_ 159 k = some e) : chkE (mC 159) (mI 159) (mR 159) (mB 159) k e = true := by
  have hk : k < 76 := guard_ok (show (bif Nat.blt k 76 then _ else none) = some e from h)
  exact chkN_ok r_159_0 (by omega) (by omega) h
set_option maxRecDepth 100000 in
theorem q_160 : dOK 160 = true := by decide +kernel
set_option maxRecDepth 100000 in
theorem r_160_0 : eOK 160 0 109 = true := by decide +kernel
set_option maxRecDepth 100000 in
theorem r_160_1 : eOK 160 109 115 = true := by decide +kernel
set_option maxRecDepth 100000 in
theorem r_160_2 : eOK 160 224 36 = true := by decide +kernel
theorem s_160 {k : Nat} {e : Ent} (h : fetch_ 160 k = some e) : chkE (mC 160) (mI 160) (mR 160) (mB 160) k e = true := by
  have hk : k < 260 := guard_ok (show (bif Nat.blt k 260 then _ else none) = some e from h)
  by_cases h0 : k < 109
  · exact chkN_ok r_160_0 (by omega) (by omega) h
  by_cases h1 : k < 224
  · exact chkN_ok r_160_1 (by omega) (by omega) h
  exact chkN_ok r_160_2 (by omega) (by omega) h
set_option maxRecDepth 100000 in
theorem q_161 : dOK 161 = true := by decide +kernel
set_option maxRecDepth 100000 in
theorem r_161_0 : eOK 161 0 89 = true := by decide +kernel
theorem s_161 {k : Nat} {e : Ent} (h : fetch_ 161 k = some e) : chkE (mC 161) (mI 161) (mR 161) (mB 161) k e = true := by
  have hk : k < 89 := guard_ok (show (bif Nat.blt k 89 then _ else none) = some e from h)
  exact chkN_ok r_161_0 (by omega) (by omega) h
set_option maxRecDepth 100000 in
theorem q_162 : dOK 162 = true := by decide +kernel
set_option maxRecDepth 100000 in
theorem r_162_0 : eOK 162 0 39 = true := by decide +kernel
theorem s_162 {k : Nat} {e : Ent} (h : fetch_ 162 k = some e) : chkE (mC 162) (mI 162) (mR 162) (mB 162) k e = true := by
  have hk : k < 39 := guard_ok (show (bif Nat.blt k 39 then _ else none) = some e from h)
  exact chkN_ok r_162_0 (by omega) (by omega) h
set_option maxRecDepth 100000 in
theorem q_163 : dOK 163 = true := by decide +kernel
set_option maxRecDepth 100000 in
theorem r_163_0 : eOK 163 0 55 = true := by decide +kernel
theorem s_163 {k : Nat} {e : Ent} (h : fetch_ 163 k = some e) : chkE (mC 163) (mI 163) (mR 163) (mB 163) k e = true := by
  have hk : k < 55 := guard_ok (show (bif Nat.blt k 55 then _ else none) = some e from h)
  exact chkN_ok r_163_0 (by omega) (by omega) h
set_option maxRecDepth 100000 in
theorem q_164 : dOK 164 = true := by decide +kernel
set_option maxRecDepth 100000 in
theorem r_164_0 : eOK 164 0 47 = true := by decide +kernel
theorem s_164 {k : Nat} {e : Ent} (h : fetch_ 164 k = some e) : chkE (mC 164) (mI 164) (mR 164) (mB 164) k e = true := by
  have hk : k < 47 := guard_ok (show (bif Nat.blt k 47 then _ else none) = some e from h)
  exact chkN_ok r_164_0 (by omega) (by omega) h
set_option maxRecDepth 100000 in
theorem q_165 : dOK 165 = true := by decide +kernel
set_option maxRecDepth 100000 in
theorem r_165_0 : eOK 165 0 9 = true := by decide +kernel
theorem s_165 {k : Nat} {e : Ent} (h : fetch_ 165 k = some e) : chkE (mC 165) (mI 165) (mR 165) (mB 165) k e = true := by
  have hk : k < 9 := guard_ok (show (bif Nat.blt k 9 then _ else none) = some e from h)
  exact chkN_ok r_165_0 (by omega) (by omega) h
set_option maxRecDepth 100000 in
theorem q_166 : dOK 166 = true := by decide +kernel
set_option maxRecDepth 100000 in
theorem r_166_0 : eOK 166 0 53 = true := by decide +kernel
theorem s_166 {k : Nat} {e : Ent} (h : fetch_ 166 k = some e) : chkE (mC 166) (mI 166) (mR 166) (mB 166) k e = true := by
  have hk : k < 53 := guard_ok (show (bif Nat.blt k 53 then _ else none) = some e from h)
  exact chkN_ok r_166_0 (by omega) (by omega) h
set_option maxRecDepth 100000 in
theorem q_167 : dOK 167 = true := by decide +kernel
set_option maxRecDepth 100000 in
theorem r_167_0 : eOK 167 0 45 = true := by decide +kernel
theorem s_167 {k : Nat} {e : Ent} (h : fetch_ 167 k = some e) : chkE (mC 167) (mI 167) (mR 167) (mB 167) k e = true := by
  have hk : k < 45 := guard_ok (show (bif Nat.blt k 45 then _ else none) = some e from h)
  exact chkN_ok r_167_0 (by omega) (by omega) h
set_option maxRecDepth 100000 in
theorem q_168 : dOK 168 = true := by decide +kernel
set_option maxRecDepth 100000 in
theorem r_168_0 : eOK 168 0 84 = true := by decide +kernel
theorem s_168 {k : Nat} {e : Ent} (h : fetch_ 168 k = some e) : chkE (mC 168) (mI 168) (mR 168) (mB 168) k e = true := by
  have hk : k < 84 := guard_ok (show (bif Nat.blt k 84 then _ else none) = some e from h)
  exact chkN_ok r_168_0 (by omega) (by omega) h
set_option maxRecDepth 100000 in
theorem q_169 : dOK 169 = true := by decide +kernel
set_option maxRecDepth 100000 in
theorem r_169_0 : eOK 169 0 44 = true := by decide +kernel
theorem s_169 {k : Nat} {e : Ent} (h : fetch_ 169 k = some e) : chkE (mC 169) (mI 169) (mR 169) (mB 169) k e = true := by
  have hk : k < 44 := guard_ok (show (bif Nat.blt k 44 then _ else none) = some e from h)
  exact chkN_ok r_169_0 (by omega) (by omega) h
set_option maxRecDepth 100000 in
theorem q_170 : dOK 170 = true := by decide +kernel
set_option maxRecDepth 100000 in
theorem r_170_0 : eOK 170 0 68 = true := by decide +kernel
theorem s_170 {k : Nat} {e : Ent} (h : fetch_ 170 k = some e) : chkE (mC 170) (mI 170) (mR 170) (mB 170) k e = true := by
  have hk : k < 68 := guard_ok (show (bif Nat.blt k 68 then _ else none) = some e from h)
  exact chkN_ok r_170_0 (by omega) (by omega) h
set_option maxRecDepth 100000 in
theorem q_171 : dOK 171 = true := by decide +kernel
set_option maxRecDepth 100000 in
theorem r_171_0 : eOK 171 0 65 = true := by decide +kernel
theorem s_171 {k : Nat} {e : Ent} (h : fetch_ 171 k = some e) : chkE (mC 171) (mI 171) (mR 171) (mB 171) k e = true := by
  have hk : k < 65 := guard_ok (show (bif Nat.blt k 65 then _ else none) = some e from h)
  exact chkN_ok r_171_0 (by omega) (by omega) h
set_option maxRecDepth 100000 in
theorem q_172 : dOK 172 = true := by decide +kernel
set_option maxRecDepth 100000 in
theorem r_172_0 : eOK 172 0 105 = true := by decide +kernel
set_option maxRecDepth 100000 in
theorem r_172_1 : eOK 172 105 3 = true := by decide +kernel
theorem s_172 {k : Nat} {e : Ent} (h : fetch_ 172 k = some e) : chkE (mC 172) (mI 172) (mR 172) (mB 172) k e = true := by
  have hk : k < 108 := guard_ok (show (bif Nat.blt k 108 then _ else none) = some e from h)
  by_cases h0 : k < 105
  · exact chkN_ok r_172_0 (by omega) (by omega) h
  exact chkN_ok r_172_1 (by omega) (by omega) h
set_option maxRecDepth 100000 in
theorem q_173 : dOK 173 = true := by decide +kernel
set_option maxRecDepth 100000 in
theorem r_173_0 : eOK 173 0 81 = true := by decide +kernel
theorem s_173 {k : Nat} {e : Ent} (h : fetch_ 173 k = some e) : chkE (mC 173) (mI 173) (mR 173) (mB 173) k e = true := by
  have hk : k < 81 := guard_ok (show (bif Nat.blt k 81 then _ else none) = some e from h)
  exact chkN_ok r_173_0 (by omega) (by omega) h
set_option maxRecDepth 100000 in
theorem q_174 : dOK 174 = true := by decide +kernel
set_option maxRecDepth 100000 in
theorem r_174_0 : eOK 174 0 56 = true := by decide +kernel
theorem s_174 {k : Nat} {e : Ent} (h : fetch_ 174 k = some e) : chkE (mC 174) (mI 174) (mR 174) (mB 174) k e = true := by
  have hk : k < 56 := guard_ok (show (bif Nat.blt k 56 then _ else none) = some e from h)
  exact chkN_ok r_174_0 (by omega) (by omega) h
set_option maxRecDepth 100000 in
theorem q_175 : dOK 175 = true := by decide +kernel
set_option maxRecDepth 100000 in
theorem r_175_0 : eOK 175 0 49 = true := by decide +kernel
theorem s_175 {k : Nat} {e : Ent} (h : fetch_ 175 k = some e) : chkE (mC 175) (mI 175) (mR 175) (mB 175) k e = true := by
  have hk : k < 49 := guard_ok (show (bif Nat.blt k 49 then _ else none) = some e from h)
  exact chkN_ok r_175_0 (by omega) (by omega) h
set_option maxRecDepth 100000 in
theorem q_176 : dOK 176 = true := by decide +kernel
set_option maxRecDepth 100000 in
theorem r_176_0 : eOK 176 0 40 = true := by decide +kernel
theorem s_176 {k : Nat} {e : Ent} (h : fetch_ 176 k = some e) : chkE (mC 176) (mI 176) (mR 176) (mB 176) k e = true := by
  have hk : k < 40 := guard_ok (show (bif Nat.blt k 40 then _ else none) = some e from h)
  exact chkN_ok r_176_0 (by omega) (by omega) h
set_option maxRecDepth 100000 in
theorem q_177 : dOK 177 = true := by decide +kernel
set_option maxRecDepth 100000 in
theorem r_177_0 : eOK 177 0 77 = true := by decide +kernel
theorem s_177 {k : Nat} {e : Ent} (h : fetch_ 177 k = some e) : chkE (mC 177) (mI 177) (mR 177) (mB 177) k e = true := by
  have hk : k < 77 := guard_ok (show (bif Nat.blt k 77 then _ else none) = some e from h)
  exact chkN_ok r_177_0 (by omega) (by omega) h
set_option maxRecDepth 100000 in
theorem q_178 : dOK 178 = true := by decide +kernel
set_option maxRecDepth 100000 in
theorem r_178_0 : eOK 178 0 39 = true := by decide +kernel
theorem s_178 {k : Nat} {e : Ent} (h : fetch_ 178 k = some e) : chkE (mC 178) (mI 178) (mR 178) (mB 178) k e = true := by
  have hk : k < 39 := guard_ok (show (bif Nat.blt k 39 then _ else none) = some e from h)
  exact chkN_ok r_178_0 (by omega) (by omega) h
set_option maxRecDepth 100000 in
theorem q_179 : dOK 179 = true := by decide +kernel
set_option maxRecDepth 100000 in
theorem r_179_0 : eOK 179 0 43 = true := by decide +kernel
theorem s_179 {k : Nat} {e : Ent} (h : fetch_ 179 k = some e) : chkE (mC 179) (mI 179) (mR 179) (mB 179) k e = true := by
  have hk : k < 43 := guard_ok (show (bif Nat.blt k 43 then _ else none) = some e from h)
  exact chkN_ok r_179_0 (by omega) (by omega) h
set_option maxRecDepth 100000 in
theorem q_180 : dOK 180 = true := by decide +kernel
set_option maxRecDepth 100000 in
theorem r_180_0 : eOK 180 0 10 = true := by decide +kernel
theorem s_180 {k : Nat} {e : Ent} (h : fetch_ 180 k = some e) : chkE (mC 180) (mI 180) (mR 180) (mB 180) k e = true := by
  have hk : k < 10 := guard_ok (show (bif Nat.blt k 10 then _ else none) = some e from h)
  exact chkN_ok r_180_0 (by omega) (by omega) h
set_option maxRecDepth 100000 in
theorem q_181 : dOK 181 = true := by decide +kernel
set_option maxRecDepth 100000 in
theorem r_181_0 : eOK 181 0 42 = true := by decide +kernel
theorem s_181 {k : Nat} {e : Ent} (h : fetch_ 181 k = some e) : chkE (mC 181) (mI 181) (mR 181) (mB 181) k e = true := by
  have hk : k < 42 := guard_ok (show (bif Nat.blt k 42 then _ else none) = some e from h)
  exact chkN_ok r_181_0 (by omega) (by omega) h
set_option maxRecDepth 100000 in
theorem q_182 : dOK 182 = true := by decide +kernel
set_option maxRecDepth 100000 in
theorem r_182_0 : eOK 182 0 27 = true := by decide +kernel
theorem s_182 {k : Nat} {e : Ent} (h : fetch_ 182 k = some e) : chkE (mC 182) (mI 182) (mR 182) (mB 182) k e = true := by
  have hk : k < 27 := guard_ok (show (bif Nat.blt k 27 then _ else none) = some e from h)
  exact chkN_ok r_182_0 (by omega) (by omega) h
set_option maxRecDepth 100000 in
theorem q_183 : dOK 183 = true := by decide +kernel
set_option maxRecDepth 100000 in
theorem r_183_0 : eOK 183 0 88 = true := by decide +kernel
theorem s_183 {k : Nat} {e : Ent} (h : fetch_ 183 k = some e) : chkE (mC 183) (mI 183) (mR 183) (mB 183) k e = true := by
  have hk : k < 88 := guard_ok (show (bif Nat.blt k 88 then _ else none) = some e from h)
  exact chkN_ok r_183_0 (by omega) (by omega) h
set_option maxRecDepth 100000 in
theorem q_184 : dOK 184 = true := by decide +kernel
set_option maxRecDepth 100000 in
theorem r_184_0 : eOK 184 0 45 = true := by decide +kernel
theorem s_184 {k : Nat} {e : Ent} (h : fetch_ 184 k = some e) : chkE (mC 184) (mI 184) (mR 184) (mB 184) k e = true := by
  have hk : k < 45 := guard_ok (show (bif Nat.blt k 45 then _ else none) = some e from h)
  exact chkN_ok r_184_0 (by omega) (by omega) h
set_option maxRecDepth 100000 in
theorem q_185 : dOK 185 = true := by decide +kernel
set_option maxRecDepth 100000 in
theorem r_185_0 : eOK 185 0 23 = true := by decide +kernel
theorem s_185 {k : Nat} {e : Ent} (h : fetch_ 185 k = some e) : chkE (mC 185) (mI 185) (mR 185) (mB 185) k e = true := by
  have hk : k < 23 := guard_ok (show (bif Nat.blt k 23 then _ else none) = some e from h)
  exact chkN_ok r_185_0 (by omega) (by omega) h
set_option maxRecDepth 100000 in
theorem q_186 : dOK 186 = true := by decide +kernel
set_option maxRecDepth 100000 in
theorem r_186_0 : eOK 186 0 31 = true := by decide +kernel
theorem s_186 {k : Nat} {e : Ent} (h : fetch_ 186 k = some e) : chkE (mC 186) (mI 186) (mR 186) (mB 186) k e = true := by
  have hk : k < 31 := guard_ok (show (bif Nat.blt k 31 then _ else none) = some e from h)
  exact chkN_ok r_186_0 (by omega) (by omega) h
set_option maxRecDepth 100000 in
theorem q_187 : dOK 187 = true := by decide +kernel
set_option maxRecDepth 100000 in
theorem r_187_0 : eOK 187 0 126 = true := by decide +kernel
set_option maxRecDepth 100000 in
theorem r_187_1 : eOK 187 126 8 = true := by decide +kernel
theorem s_187 {k : Nat} {e : Ent} (h : fetch_ 187 k = some e) : chkE (mC 187) (mI 187) (mR 187) (mB 187) k e = true := by
  have hk : k < 134 := guard_ok (show (bif Nat.blt k 134 then _ else none) = some e from h)
  by_cases h0 : k < 126
  · exact chkN_ok r_187_0 (by omega) (by omega) h
  exact chkN_ok r_187_1 (by omega) (by omega) h
set_option maxRecDepth 100000 in
theorem q_188 : dOK 188 = true := by decide +kernel
set_option maxRecDepth 100000 in
theorem r_188_0 : eOK 188 0 60 = true := by decide +kernel
theorem s_188 {k : Nat} {e : Ent} (h : fetch_ 188 k = some e) : chkE (mC 188) (mI 188) (mR 188) (mB 188) k e = true := by
  have hk : k < 60 := guard_ok (show (bif Nat.blt k 60 then _ else none) = some e from h)
  exact chkN_ok r_188_0 (by omega) (by omega) h
set_option maxRecDepth 100000 in
theorem q_189 : dOK 189 = true := by decide +kernel
set_option maxRecDepth 100000 in
theorem r_189_0 : eOK 189 0 58 = true := by decide +kernel
theorem s_189 {k : Nat} {e : Ent} (h : fetch_ 189 k = some e) : chkE (mC 189) (mI 189) (mR 189) (mB 189) k e = true := by
  have hk : k < 58 := guard_ok (show (bif Nat.blt k 58 then _ else none) = some e from h)
  exact chkN_ok r_189_0 (by omega) (by omega) h
set_option maxRecDepth 100000 in
theorem q_190 : dOK 190 = true := by decide +kernel
set_option maxRecDepth 100000 in
theorem r_190_0 : eOK 190 0 67 = true := by decide +kernel
theorem s_190 {k : Nat} {e : Ent} (h : fetch_ 190 k = some e) : chkE (mC 190) (mI 190) (mR 190) (mB 190) k e = true := by
  have hk : k < 67 := guard_ok (show (bif Nat.blt k 67 then _ else none) = some e from h)
  exact chkN_ok r_190_0 (by omega) (by omega) h
set_option maxRecDepth 100000 in
theorem q_191 : dOK 191 = true := by decide +kernel
set_option maxRecDepth 100000 in
theorem r_191_0 : eOK 191 0 28 = true := by decide +kernel
theorem s_191 {k : Nat} {e : Ent} (h : fetch_ 191 k = some e) : chkE (mC 191) (mI 191) (mR 191) (mB 191) k e = true := by
  have hk : k < 28 := guard_ok (show (bif Nat.blt k 28 then _ else none) = some e from h)
  exact chkN_ok r_191_0 (by omega) (by omega) h
set_option maxRecDepth 100000 in
theorem q_192 : dOK 192 = true := by decide +kernel
set_option maxRecDepth 100000 in
theorem r_192_0 : eOK 192 0 45 = true := by decide +kernel
theorem s_192 {k : Nat} {e : Ent} (h : fetch_ 192 k = some e) : chkE (mC 192) (mI 192) (mR 192) (mB 192) k e = true := by
  have hk : k < 45 := guard_ok (show (bif Nat.blt k 45 then _ else none) = some e from h)
  exact chkN_ok r_192_0 (by omega) (by omega) h
set_option maxRecDepth 100000 in
theorem q_193 : dOK 193 = true := by decide +kernel
set_option maxRecDepth 100000 in
theorem r_193_0 : eOK 193 0 18 = true := by decide +kernel
theorem s_193 {k : Nat} {e : Ent} (h : fetch_ 193 k = some e) : chkE (mC 193) (mI 193) (mR 193) (mB 193) k e = true := by
  have hk : k < 18 := guard_ok (show (bif Nat.blt k 18 then _ else none) = some e from h)
  exact chkN_ok r_193_0 (by omega) (by omega) h
set_option maxRecDepth 100000 in
theorem q_194 : dOK 194 = true := by decide +kernel
set_option maxRecDepth 100000 in
theorem r_194_0 : eOK 194 0 44 = true := by decide +kernel
theorem s_194 {k : Nat} {e : Ent} (h : fetch_ 194 k = some e) : chkE (mC 194) (mI 194) (mR 194) (mB 194) k e = true := by
  have hk : k < 44 := guard_ok (show (bif Nat.blt k 44 then _ else none) = some e from h)
  exact chkN_ok r_194_0 (by omega) (by omega) h
set_option maxRecDepth 100000 in
theorem q_195 : dOK 195 = true := by decide +kernel
set_option maxRecDepth 100000 in
theorem r_195_0 : eOK 195 0 93 = true := by decide +kernel
theorem s_195 {k : Nat} {e : Ent} (h : fetch_ 195 k = some e) : chkE (mC 195) (mI 195) (mR 195) (mB 195) k e = true := by
  have hk : k < 93 := guard_ok (show (bif Nat.blt k 93 then _ else none) = some e from h)
  exact chkN_ok r_195_0 (by omega) (by omega) h
set_option maxRecDepth 100000 in
theorem q_196 : dOK 196 = true := by decide +kernel
set_option maxRecDepth 100000 in
theorem r_196_0 : eOK 196 0 117 = true := by decide +kernel
theorem s_196 {k : Nat} {e : Ent} (h : fetch_ 196 k = some e) : chkE (mC 196) (mI 196) (mR 196) (mB 196) k e = true := by
  have hk : k < 117 := guard_ok (show (bif Nat.blt k 117 then _ else none) = some e from h)
  exact chkN_ok r_196_0 (by omega) (by omega) h
set_option maxRecDepth 100000 in
theorem q_197 : dOK 197 = true := by decide +kernel
set_option maxRecDepth 100000 in
theorem r_197_0 : eOK 197 0 76 = true := by decide +kernel
theorem s_197 {k : Nat} {e : Ent} (h : fetch_ 197 k = some e) : chkE (mC 197) (mI 197) (mR 197) (mB 197) k e = true := by
  have hk : k < 76 := guard_ok (show (bif Nat.blt k 76 then _ else none) = some e from h)
  exact chkN_ok r_197_0 (by omega) (by omega) h
set_option maxRecDepth 100000 in
theorem q_198 : dOK 198 = true := by decide +kernel
set_option maxRecDepth 100000 in
theorem r_198_0 : eOK 198 0 76 = true := by decide +kernel
theorem s_198 {k : Nat} {e : Ent} (h : fetch_ 198 k = some e) : chkE (mC 198) (mI 198) (mR 198) (mB 198) k e = true := by
  have hk : k < 76 := guard_ok (show (bif Nat.blt k 76 then _ else none) = some e from h)
  exact chkN_ok r_198_0 (by omega) (by omega) h
set_option maxRecDepth 100000 in
theorem q_199 : dOK 199 = true := by decide +kernel
set_option maxRecDepth 100000 in
theorem r_199_0 : eOK 199 0 27 = true := by decide +kernel
theorem s_199 {k : Nat} {e : Ent} (h : fetch_ 199 k = some e) : chkE (mC 199) (mI 199) (mR 199) (mB 199) k e = true := by
  have hk : k < 27 := guard_ok (show (bif Nat.blt k 27 then _ else none) = some e from h)
  exact chkN_ok r_199_0 (by omega) (by omega) h
set_option maxRecDepth 100000 in
theorem q_200 : dOK 200 = true := by decide +kernel
set_option maxRecDepth 100000 in
theorem r_200_0 : eOK 200 0 103 = true := by decide +kernel
theorem s_200 {k : Nat} {e : Ent} (h : fetch_ 200 k = some e) : chkE (mC 200) (mI 200) (mR 200) (mB 200) k e = true := by
  have hk : k < 103 := guard_ok (show (bif Nat.blt k 103 then _ else none) = some e from h)
  exact chkN_ok r_200_0 (by omega) (by omega) h
set_option maxRecDepth 100000 in
theorem q_201 : dOK 201 = true := by decide +kernel
set_option maxRecDepth 100000 in
theorem r_201_0 : eOK 201 0 102 = true := by decide +kernel
theorem s_201 {k : Nat} {e : Ent} (h : fetch_ 201 k = some e) : chkE (mC 201) (mI 201) (mR 201) (mB 201) k e = true := by
  have hk : k < 102 := guard_ok (show (bif Nat.blt k 102 then _ else none) = some e from h)
  exact chkN_ok r_201_0 (by omega) (by omega) h
set_option maxRecDepth 100000 in
theorem q_202 : dOK 202 = true := by decide +kernel
set_option maxRecDepth 100000 in
theorem r_202_0 : eOK 202 0 43 = true := by decide +kernel
theorem s_202 {k : Nat} {e : Ent} (h : fetch_ 202 k = some e) : chkE (mC 202) (mI 202) (mR 202) (mB 202) k e = true := by
  have hk : k < 43 := guard_ok (show (bif Nat.blt k 43 then _ else none) = some e from h)
  exact chkN_ok r_202_0 (by omega) (by omega) h
set_option maxRecDepth 100000 in
theorem q_203 : dOK 203 = true := by decide +kernel
set_option maxRecDepth 100000 in
theorem r_203_0 : eOK 203 0 39 = true := by decide +kernel
theorem s_203 {k : Nat} {e : Ent} (h : fetch_ 203 k = some e) : chkE (mC 203) (mI 203) (mR 203) (mB 203) k e = true := by
  have hk : k < 39 := guard_ok (show (bif Nat.blt k 39 then _ else none) = some e from h)
  exact chkN_ok r_203_0 (by omega) (by omega) h
set_option maxRecDepth 100000 in
theorem q_204 : dOK 204 = true := by decide +kernel
set_option maxRecDepth 100000 in
theorem r_204_0 : eOK 204 0 57 = true := by decide +kernel
theorem s_204 {k : Nat} {e : Ent} (h : fetch_ 204 k = some e) : chkE (mC 204) (mI 204) (mR 204) (mB 204) k e = true := by
  have hk : k < 57 := guard_ok (show (bif Nat.blt k 57 then _ else none) = some e from h)
  exact chkN_ok r_204_0 (by omega) (by omega) h
set_option maxRecDepth 100000 in
theorem q_205 : dOK 205 = true := by decide +kernel
set_option maxRecDepth 100000 in
theorem r_205_0 : eOK 205 0 22 = true := by decide +kernel
theorem s_205 {k : Nat} {e : Ent} (h : fetch_ 205 k = some e) : chkE (mC 205) (mI 205) (mR 205) (mB 205) k e = true := by
  have hk : k < 22 := guard_ok (show (bif Nat.blt k 22 then _ else none) = some e from h)
  exact chkN_ok r_205_0 (by omega) (by omega) h
set_option maxRecDepth 100000 in
theorem q_206 : dOK 206 = true := by decide +kernel
set_option maxRecDepth 100000 in
theorem r_206_0 : eOK 206 0 111 = true := by decide +kernel
set_option maxRecDepth 100000 in
theorem r_206_1 : eOK 206 111 6 = true := by decide +kernel
theorem s_206 {k : Nat} {e : Ent} (h : fetch_ 206 k = some e) : chkE (mC 206) (mI 206) (mR 206) (mB 206) k e = true := by
  have hk : k < 117 := guard_ok (show (bif Nat.blt k 117 then _ else none) = some e from h)
  by_cases h0 : k < 111
  · exact chkN_ok r_206_0 (by omega) (by omega) h
  exact chkN_ok r_206_1 (by omega) (by omega) h
set_option maxRecDepth 100000 in
theorem q_207 : dOK 207 = true := by decide +kernel
set_option maxRecDepth 100000 in
theorem r_207_0 : eOK 207 0 30 = true := by decide +kernel
theorem s_207 {k : Nat} {e : Ent} (h : fetch_ 207 k = some e) : chkE (mC 207) (mI 207) (mR 207) (mB 207) k e = true := by
  have hk : k < 30 := guard_ok (show (bif Nat.blt k 30 then _ else none) = some e from h)
  exact chkN_ok r_207_0 (by omega) (by omega) h
set_option maxRecDepth 100000 in
theorem q_208 : dOK 208 = true := by decide +kernel
set_option maxRecDepth 100000 in
theorem r_208_0 : eOK 208 0 72 = true := by decide +kernel
theorem s_208 {k : Nat} {e : Ent} (h : fetch_ 208 k = some e) : chkE (mC 208) (mI 208) (mR 208) (mB 208) k e = true := by
  have hk : k < 72 := guard_ok (show (bif Nat.blt k 72 then _ else none) = some e from h)
  exact chkN_ok r_208_0 (by omega) (by omega) h
set_option maxRecDepth 100000 in
theorem q_209 : dOK 209 = true := by decide +kernel
set_option maxRecDepth 100000 in
theorem r_209_0 : eOK 209 0 69 = true := by decide +kernel
theorem s_209 {k : Nat} {e : Ent} (h : fetch_ 209 k = some e) : chkE (mC 209) (mI 209) (mR 209) (mB 209) k e = true := by
  have hk : k < 69 := guard_ok (show (bif Nat.blt k 69 then _ else none) = some e from h)
  exact chkN_ok r_209_0 (by omega) (by omega) h
set_option maxRecDepth 100000 in
theorem q_210 : dOK 210 = true := by decide +kernel
set_option maxRecDepth 100000 in
theorem r_210_0 : eOK 210 0 101 = true := by decide +kernel
set_option maxRecDepth 100000 in
theorem r_210_1 : eOK 210 101 4 = true := by decide +kernel
theorem s_210 {k : Nat} {e : Ent} (h : fetch_ 210 k = some e) : chkE (mC 210) (mI 210) (mR 210) (mB 210) k e = true := by
  have hk : k < 105 := guard_ok (show (bif Nat.blt k 105 then _ else none) = some e from h)
  by_cases h0 : k < 101
  · exact chkN_ok r_210_0 (by omega) (by omega) h
  exact chkN_ok r_210_1 (by omega) (by omega) h
set_option maxRecDepth 100000 in
theorem q_211 : dOK 211 = true := by decide +kernel
set_option maxRecDepth 100000 in
theorem r_211_0 : eOK 211 0 43 = true := by decide +kernel
theorem s_211 {k : Nat} {e : Ent} (h : fetch_ 211 k = some e) : chkE (mC 211) (mI 211) (mR 211) (mB 211) k e = true := by
  have hk : k < 43 := guard_ok (show (bif Nat.blt k 43 then _ else none) = some e from h)
  exact chkN_ok r_211_0 (by omega) (by omega) h
set_option maxRecDepth 100000 in
theorem q_212 : dOK 212 = true := by decide +kernel
set_option maxRecDepth 100000 in
theorem r_212_0 : eOK 212 0 60 = true := by decide +kernel
theorem s_212 {k : Nat} {e : Ent} (h : fetch_ 212 k = some e) : chkE (mC 212) (mI 212) (mR 212) (mB 212) k e = true := by
  have hk : k < 60 := guard_ok (show (bif Nat.blt k 60 then _ else none) = some e from h)
  exact chkN_ok r_212_0 (by omega) (by omega) h
set_option maxRecDepth 100000 in
theorem q_213 : dOK 213 = true := by decide +kernel
set_option maxRecDepth 100000 in
theorem r_213_0 : eOK 213 0 72 = true := by decide +kernel
theorem s_213 {k : Nat} {e : Ent} (h : fetch_ 213 k = some e) : chkE (mC 213) (mI 213) (mR 213) (mB 213) k e = true := by
  have hk : k < 72 := guard_ok (show (bif Nat.blt k 72 then _ else none) = some e from h)
  exact chkN_ok r_213_0 (by omega) (by omega) h
set_option maxRecDepth 100000 in
theorem q_214 : dOK 214 = true := by decide +kernel
set_option maxRecDepth 100000 in
theorem r_214_0 : eOK 214 0 28 = true := by decide +kernel
theorem s_214 {k : Nat} {e : Ent} (h : fetch_ 214 k = some e) : chkE (mC 214) (mI 214) (mR 214) (mB 214) k e = true := by
  have hk : k < 28 := guard_ok (show (bif Nat.blt k 28 then _ else none) = some e from h)
  exact chkN_ok r_214_0 (by omega) (by omega) h
set_option maxRecDepth 100000 in
theorem q_215 : dOK 215 = true := by decide +kernel
set_option maxRecDepth 100000 in
theorem r_215_0 : eOK 215 0 26 = true := by decide +kernel
theorem s_215 {k : Nat} {e : Ent} (h : fetch_ 215 k = some e) : chkE (mC 215) (mI 215) (mR 215) (mB 215) k e = true := by
  have hk : k < 26 := guard_ok (show (bif Nat.blt k 26 then _ else none) = some e from h)
  exact chkN_ok r_215_0 (by omega) (by omega) h
set_option maxRecDepth 100000 in
theorem q_216 : dOK 216 = true := by decide +kernel
set_option maxRecDepth 100000 in
theorem r_216_0 : eOK 216 0 81 = true := by decide +kernel
theorem s_216 {k : Nat} {e : Ent} (h : fetch_ 216 k = some e) : chkE (mC 216) (mI 216) (mR 216) (mB 216) k e = true := by
  have hk : k < 81 := guard_ok (show (bif Nat.blt k 81 then _ else none) = some e from h)
  exact chkN_ok r_216_0 (by omega) (by omega) h
set_option maxRecDepth 100000 in
theorem q_217 : dOK 217 = true := by decide +kernel
set_option maxRecDepth 100000 in
theorem r_217_0 : eOK 217 0 70 = true := by decide +kernel
theorem s_217 {k : Nat} {e : Ent} (h : fetch_ 217 k = some e) : chkE (mC 217) (mI 217) (mR 217) (mB 217) k e = true := by
  have hk : k < 70 := guard_ok (show (bif Nat.blt k 70 then _ else none) = some e from h)
  exact chkN_ok r_217_0 (by omega) (by omega) h
set_option maxRecDepth 100000 in
theorem q_218 : dOK 218 = true := by decide +kernel
set_option maxRecDepth 100000 in
theorem r_218_0 : eOK 218 0 59 = true := by decide +kernel
theorem s_218 {k : Nat} {e : Ent} (h : fetch_ 218 k = some e) : chkE (mC 218) (mI 218) (mR 218) (mB 218) k e = true := by
  have hk : k < 59 := guard_ok (show (bif Nat.blt k 59 then _ else none) = some e from h)
  exact chkN_ok r_218_0 (by omega) (by omega) h
set_option maxRecDepth 100000 in
theorem q_219 : dOK 219 = true := by decide +kernel
set_option maxRecDepth 100000 in
theorem r_219_0 : eOK 219 0 108 = true := by decide +kernel
theorem s_219 {k : Nat} {e : Ent} (h : fetch_ 219 k = some e) : chkE (mC 219) (mI 219) (mR 219) (mB 219) k e = true := by
  have hk : k < 108 := guard_ok (show (bif Nat.blt k 108 then _ else none) = some e from h)
  exact chkN_ok r_219_0 (by omega) (by omega) h
set_option maxRecDepth 100000 in
theorem q_220 : dOK 220 = true := by decide +kernel
set_option maxRecDepth 100000 in
theorem r_220_0 : eOK 220 0 93 = true := by decide +kernel
set_option maxRecDepth 100000 in
theorem r_220_1 : eOK 220 93 6 = true := by decide +kernel
theorem s_220 {k : Nat} {e : Ent} (h : fetch_ 220 k = some e) : chkE (mC 220) (mI 220) (mR 220) (mB 220) k e = true := by
  have hk : k < 99 := guard_ok (show (bif Nat.blt k 99 then _ else none) = some e from h)
  by_cases h0 : k < 93
  · exact chkN_ok r_220_0 (by omega) (by omega) h
  exact chkN_ok r_220_1 (by omega) (by omega) h
set_option maxRecDepth 100000 in
theorem q_221 : dOK 221 = true := by decide +kernel
set_option maxRecDepth 100000 in
theorem r_221_0 : eOK 221 0 112 = true := by decide +kernel
set_option maxRecDepth 100000 in
theorem r_221_1 : eOK 221 112 95 = true := by decide +kernel
set_option maxRecDepth 100000 in
theorem r_221_2 : eOK 221 207 94 = true := by decide +kernel
theorem s_221 {k : Nat} {e : Ent} (h : fetch_ 221 k = some e) : chkE (mC 221) (mI 221) (mR 221) (mB 221) k e = true := by
  have hk : k < 301 := guard_ok (show (bif Nat.blt k 301 then _ else none) = some e from h)
  by_cases h0 : k < 112
  · exact chkN_ok r_221_0 (by omega) (by omega) h
  by_cases h1 : k < 207
  · exact chkN_ok r_221_1 (by omega) (by omega) h
  exact chkN_ok r_221_2 (by omega) (by omega) h
set_option maxRecDepth 100000 in
theorem q_222 : dOK 222 = true := by decide +kernel
set_option maxRecDepth 100000 in
theorem r_222_0 : eOK 222 0 113 = true := by decide +kernel
set_option maxRecDepth 100000 in
theorem r_222_1 : eOK 222 113 95 = true := by decide +kernel
set_option maxRecDepth 100000 in
theorem r_222_2 : eOK 222 208 98 = true := by decide +kernel
theorem s_222 {k : Nat} {e : Ent} (h : fetch_ 222 k = some e) : chkE (mC 222) (mI 222) (mR 222) (mB 222) k e = true := by
  have hk : k < 306 := guard_ok (show (bif Nat.blt k 306 then _ else none) = some e from h)
  by_cases h0 : k < 113
  · exact chkN_ok r_222_0 (by omega) (by omega) h
  by_cases h1 : k < 208
  · exact chkN_ok r_222_1 (by omega) (by omega) h
  exact chkN_ok r_222_2 (by omega) (by omega) h
set_option maxRecDepth 100000 in
theorem q_223 : dOK 223 = true := by decide +kernel
set_option maxRecDepth 100000 in
theorem r_223_0 : eOK 223 0 30 = true := by decide +kernel
theorem s_223 {k : Nat} {e : Ent} (h : fetch_ 223 k = some e) : chkE (mC 223) (mI 223) (mR 223) (mB 223) k e = true := by
  have hk : k < 30 := guard_ok (show (bif Nat.blt k 30 then _ else none) = some e from h)
  exact chkN_ok r_223_0 (by omega) (by omega) h
set_option maxRecDepth 100000 in
theorem q_224 : dOK 224 = true := by decide +kernel
set_option maxRecDepth 100000 in
theorem r_224_0 : eOK 224 0 10 = true := by decide +kernel
theorem s_224 {k : Nat} {e : Ent} (h : fetch_ 224 k = some e) : chkE (mC 224) (mI 224) (mR 224) (mB 224) k e = true := by
  have hk : k < 10 := guard_ok (show (bif Nat.blt k 10 then _ else none) = some e from h)
  exact chkN_ok r_224_0 (by omega) (by omega) h
set_option maxRecDepth 100000 in
theorem q_225 : dOK 225 = true := by decide +kernel
set_option maxRecDepth 100000 in
theorem r_225_0 : eOK 225 0 96 = true := by decide +kernel
theorem s_225 {k : Nat} {e : Ent} (h : fetch_ 225 k = some e) : chkE (mC 225) (mI 225) (mR 225) (mB 225) k e = true := by
  have hk : k < 96 := guard_ok (show (bif Nat.blt k 96 then _ else none) = some e from h)
  exact chkN_ok r_225_0 (by omega) (by omega) h
set_option maxRecDepth 100000 in
theorem q_226 : dOK 226 = true := by decide +kernel
set_option maxRecDepth 100000 in
theorem r_226_0 : eOK 226 0 20 = true := by decide +kernel
theorem s_226 {k : Nat} {e : Ent} (h : fetch_ 226 k = some e) : chkE (mC 226) (mI 226) (mR 226) (mB 226) k e = true := by
  have hk : k < 20 := guard_ok (show (bif Nat.blt k 20 then _ else none) = some e from h)
  exact chkN_ok r_226_0 (by omega) (by omega) h
set_option maxRecDepth 100000 in
theorem q_227 : dOK 227 = true := by decide +kernel
set_option maxRecDepth 100000 in
theorem r_227_0 : eOK 227 0 16 = true := by decide +kernel
theorem s_227 {k : Nat} {e : Ent} (h : fetch_ 227 k = some e) : chkE (mC 227) (mI 227) (mR 227) (mB 227) k e = true := by
  have hk : k < 16 := guard_ok (show (bif Nat.blt k 16 then _ else none) = some e from h)
  exact chkN_ok r_227_0 (by omega) (by omega) h
set_option maxRecDepth 100000 in
theorem q_228 : dOK 228 = true := by decide +kernel
set_option maxRecDepth 100000 in
theorem r_228_0 : eOK 228 0 91 = true := by decide +kernel
theorem s_228 {k : Nat} {e : Ent} (h : fetch_ 228 k = some e) : chkE (mC 228) (mI 228) (mR 228) (mB 228) k e = true := by
  have hk : k < 91 := guard_ok (show (bif Nat.blt k 91 then _ else none) = some e from h)
  exact chkN_ok r_228_0 (by omega) (by omega) h
set_option maxRecDepth 100000 in
theorem q_229 : dOK 229 = true := by decide +kernel
set_option maxRecDepth 100000 in
theorem r_229_0 : eOK 229 0 15 = true := by decide +kernel
theorem s_229 {k : Nat} {e : Ent} (h : fetch_ 229 k = some e) : chkE (mC 229) (mI 229) (mR 229) (mB 229) k e = true := by
  have hk : k < 15 := guard_ok (show (bif Nat.blt k 15 then _ else none) = some e from h)
  exact chkN_ok r_229_0 (by omega) (by omega) h
set_option maxRecDepth 100000 in
theorem q_230 : dOK 230 = true := by decide +kernel
set_option maxRecDepth 100000 in
theorem r_230_0 : eOK 230 0 80 = true := by decide +kernel
theorem s_230 {k : Nat} {e : Ent} (h : fetch_ 230 k = some e) : chkE (mC 230) (mI 230) (mR 230) (mB 230) k e = true := by
  have hk : k < 80 := guard_ok (show (bif Nat.blt k 80 then _ else none) = some e from h)
  exact chkN_ok r_230_0 (by omega) (by omega) h
set_option maxRecDepth 100000 in
theorem q_231 : dOK 231 = true := by decide +kernel
set_option maxRecDepth 100000 in
theorem r_231_0 : eOK 231 0 59 = true := by decide +kernel
theorem s_231 {k : Nat} {e : Ent} (h : fetch_ 231 k = some e) : chkE (mC 231) (mI 231) (mR 231) (mB 231) k e = true := by
  have hk : k < 59 := guard_ok (show (bif Nat.blt k 59 then _ else none) = some e from h)
  exact chkN_ok r_231_0 (by omega) (by omega) h
set_option maxRecDepth 100000 in
theorem q_232 : dOK 232 = true := by decide +kernel
set_option maxRecDepth 100000 in
theorem r_232_0 : eOK 232 0 30 = true := by decide +kernel
theorem s_232 {k : Nat} {e : Ent} (h : fetch_ 232 k = some e) : chkE (mC 232) (mI 232) (mR 232) (mB 232) k e = true := by
  have hk : k < 30 := guard_ok (show (bif Nat.blt k 30 then _ else none) = some e from h)
  exact chkN_ok r_232_0 (by omega) (by omega) h
set_option maxRecDepth 100000 in
theorem q_233 : dOK 233 = true := by decide +kernel
set_option maxRecDepth 100000 in
theorem r_233_0 : eOK 233 0 79 = true := by decide +kernel
theorem s_233 {k : Nat} {e : Ent} (h : fetch_ 233 k = some e) : chkE (mC 233) (mI 233) (mR 233) (mB 233) k e = true := by
  have hk : k < 79 := guard_ok (show (bif Nat.blt k 79 then _ else none) = some e from h)
  exact chkN_ok r_233_0 (by omega) (by omega) h
set_option maxRecDepth 100000 in
theorem q_234 : dOK 234 = true := by decide +kernel
set_option maxRecDepth 100000 in
theorem r_234_0 : eOK 234 0 91 = true := by decide +kernel
theorem s_234 {k : Nat} {e : Ent} (h : fetch_ 234 k = some e) : chkE (mC 234) (mI 234) (mR 234) (mB 234) k e = true := by
  have hk : k < 91 := guard_ok (show (bif Nat.blt k 91 then _ else none) = some e from h)
  exact chkN_ok r_234_0 (by omega) (by omega) h
set_option maxRecDepth 100000 in
theorem q_235 : dOK 235 = true := by decide +kernel
set_option maxRecDepth 100000 in
theorem r_235_0 : eOK 235 0 8 = true := by decide +kernel
theorem s_235 {k : Nat} {e : Ent} (h : fetch_ 235 k = some e) : chkE (mC 235) (mI 235) (mR 235) (mB 235) k e = true := by
  have hk : k < 8 := guard_ok (show (bif Nat.blt k 8 then _ else none) = some e from h)
  exact chkN_ok r_235_0 (by omega) (by omega) h
set_option maxRecDepth 100000 in
theorem q_236 : dOK 236 = true := by decide +kernel
set_option maxRecDepth 100000 in
theorem r_236_0 : eOK 236 0 97 = true := by decide +kernel
theorem s_236 {k : Nat} {e : Ent} (h : fetch_ 236 k = some e) : chkE (mC 236) (mI 236) (mR 236) (mB 236) k e = true := by
  have hk : k < 97 := guard_ok (show (bif Nat.blt k 97 then _ else none) = some e from h)
  exact chkN_ok r_236_0 (by omega) (by omega) h
set_option maxRecDepth 100000 in
theorem q_237 : dOK 237 = true := by decide +kernel
set_option maxRecDepth 100000 in
theorem r_237_0 : eOK 237 0 55 = true := by decide +kernel
theorem s_237 {k : Nat} {e : Ent} (h : fetch_ 237 k = some e) : chkE (mC 237) (mI 237) (mR 237) (mB 237) k e = true := by
  have hk : k < 55 := guard_ok (show (bif Nat.blt k 55 then _ else none) = some e from h)
  exact chkN_ok r_237_0 (by omega) (by omega) h
set_option maxRecDepth 100000 in
theorem q_238 : dOK 238 = true := by decide +kernel
set_option maxRecDepth 100000 in
theorem r_238_0 : eOK 238 0 66 = true := by decide +kernel
theorem s_238 {k : Nat} {e : Ent} (h : fetch_ 238 k = some e) : chkE (mC 238) (mI 238) (mR 238) (mB 238) k e = true := by
  have hk : k < 66 := guard_ok (show (bif Nat.blt k 66 then _ else none) = some e from h)
  exact chkN_ok r_238_0 (by omega) (by omega) h
set_option maxRecDepth 100000 in
theorem q_239 : dOK 239 = true := by decide +kernel
set_option maxRecDepth 100000 in
theorem r_239_0 : eOK 239 0 52 = true := by decide +kernel
theorem s_239 {k : Nat} {e : Ent} (h : fetch_ 239 k = some e) : chkE (mC 239) (mI 239) (mR 239) (mB 239) k e = true := by
  have hk : k < 52 := guard_ok (show (bif Nat.blt k 52 then _ else none) = some e from h)
  exact chkN_ok r_239_0 (by omega) (by omega) h
set_option maxRecDepth 100000 in
theorem q_240 : dOK 240 = true := by decide +kernel
set_option maxRecDepth 100000 in
theorem r_240_0 : eOK 240 0 106 = true := by decide +kernel
set_option maxRecDepth 100000 in
theorem r_240_1 : eOK 240 106 73 = true := by decide +kernel
theorem s_240 {k : Nat} {e : Ent} (h : fetch_ 240 k = some e) : chkE (mC 240) (mI 240) (mR 240) (mB 240) k e = true := by
  have hk : k < 179 := guard_ok (show (bif Nat.blt k 179 then _ else none) = some e from h)
  by_cases h0 : k < 106
  · exact chkN_ok r_240_0 (by omega) (by omega) h
  exact chkN_ok r_240_1 (by omega) (by omega) h
set_option maxRecDepth 100000 in
theorem q_241 : dOK 241 = true := by decide +kernel
set_option maxRecDepth 100000 in
theorem r_241_0 : eOK 241 0 11 = true := by decide +kernel
theorem s_241 {k : Nat} {e : Ent} (h : fetch_ 241 k = some e) : chkE (mC 241) (mI 241) (mR 241) (mB 241) k e = true := by
  have hk : k < 11 := guard_ok (show (bif Nat.blt k 11 then _ else none) = some e from h)
  exact chkN_ok r_241_0 (by omega) (by omega) h
set_option maxRecDepth 100000 in
theorem q_242 : dOK 242 = true := by decide +kernel
set_option maxRecDepth 100000 in
theorem r_242_0 : eOK 242 0 25 = true := by decide +kernel
theorem s_242 {k : Nat} {e : Ent} (h : fetch_ 242 k = some e) : chkE (mC 242) (mI 242) (mR 242) (mB 242) k e = true := by
  have hk : k < 25 := guard_ok (show (bif Nat.blt k 25 then _ else none) = some e from h)
  exact chkN_ok r_242_0 (by omega) (by omega) h
set_option maxRecDepth 100000 in
theorem q_243 : dOK 243 = true := by decide +kernel
set_option maxRecDepth 100000 in
theorem r_243_0 : eOK 243 0 7 = true := by decide +kernel
theorem s_243 {k : Nat} {e : Ent} (h : fetch_ 243 k = some e) : chkE (mC 243) (mI 243) (mR 243) (mB 243) k e = true := by
  have hk : k < 7 := guard_ok (show (bif Nat.blt k 7 then _ else none) = some e from h)
  exact chkN_ok r_243_0 (by omega) (by omega) h
set_option maxRecDepth 100000 in
theorem q_244 : dOK 244 = true := by decide +kernel
set_option maxRecDepth 100000 in
theorem r_244_0 : eOK 244 0 37 = true := by decide +kernel
theorem s_244 {k : Nat} {e : Ent} (h : fetch_ 244 k = some e) : chkE (mC 244) (mI 244) (mR 244) (mB 244) k e = true := by
  have hk : k < 37 := guard_ok (show (bif Nat.blt k 37 then _ else none) = some e from h)
  exact chkN_ok r_244_0 (by omega) (by omega) h
set_option maxRecDepth 100000 in
theorem q_245 : dOK 245 = true := by decide +kernel
set_option maxRecDepth 100000 in
theorem r_245_0 : eOK 245 0 15 = true := by decide +kernel
theorem s_245 {k : Nat} {e : Ent} (h : fetch_ 245 k = some e) : chkE (mC 245) (mI 245) (mR 245) (mB 245) k e = true := by
  have hk : k < 15 := guard_ok (show (bif Nat.blt k 15 then _ else none) = some e from h)
  exact chkN_ok r_245_0 (by omega) (by omega) h
set_option maxRecDepth 100000 in
theorem q_246 : dOK 246 = true := by decide +kernel
set_option maxRecDepth 100000 in
theorem r_246_0 : eOK 246 0 19 = true := by decide +kernel
theorem s_246 {k : Nat} {e : Ent} (h : fetch_ 246 k = some e) : chkE (mC 246) (mI 246) (mR 246) (mB 246) k e = true := by
  have hk : k < 19 := guard_ok (show (bif Nat.blt k 19 then _ else none) = some e from h)
  exact chkN_ok r_246_0 (by omega) (by omega) h
set_option maxRecDepth 100000 in
theorem q_247 : dOK 247 = true := by decide +kernel
set_option maxRecDepth 100000 in
theorem r_247_0 : eOK 247 0 10 = true := by decide +kernel
theorem s_247 {k : Nat} {e : Ent} (h : fetch_ 247 k = some e) : chkE (mC 247) (mI 247) (mR 247) (mB 247) k e = true := by
  have hk : k < 10 := guard_ok (show (bif Nat.blt k 10 then _ else none) = some e from h)
  exact chkN_ok r_247_0 (by omega) (by omega) h
set_option maxRecDepth 100000 in
theorem q_248 : dOK 248 = true := by decide +kernel
set_option maxRecDepth 100000 in
theorem r_248_0 : eOK 248 0 15 = true := by decide +kernel
theorem s_248 {k : Nat} {e : Ent} (h : fetch_ 248 k = some e) : chkE (mC 248) (mI 248) (mR 248) (mB 248) k e = true := by
  have hk : k < 15 := guard_ok (show (bif Nat.blt k 15 then _ else none) = some e from h)
  exact chkN_ok r_248_0 (by omega) (by omega) h
set_option maxRecDepth 100000 in
theorem q_249 : dOK 249 = true := by decide +kernel
set_option maxRecDepth 100000 in
theorem r_249_0 : eOK 249 0 17 = true := by decide +kernel
theorem s_249 {k : Nat} {e : Ent} (h : fetch_ 249 k = some e) : chkE (mC 249) (mI 249) (mR 249) (mB 249) k e = true := by
  have hk : k < 17 := guard_ok (show (bif Nat.blt k 17 then _ else none) = some e from h)
  exact chkN_ok r_249_0 (by omega) (by omega) h
set_option maxRecDepth 100000 in
theorem q_250 : dOK 250 = true := by decide +kernel
set_option maxRecDepth 100000 in
theorem r_250_0 : eOK 250 0 37 = true := by decide +kernel
theorem s_250 {k : Nat} {e : Ent} (h : fetch_ 250 k = some e) : chkE (mC 250) (mI 250) (mR 250) (mB 250) k e = true := by
  have hk : k < 37 := guard_ok (show (bif Nat.blt k 37 then _ else none) = some e from h)
  exact chkN_ok r_250_0 (by omega) (by omega) h
set_option maxRecDepth 100000 in
theorem q_251 : dOK 251 = true := by decide +kernel
set_option maxRecDepth 100000 in
theorem r_251_0 : eOK 251 0 33 = true := by decide +kernel
theorem s_251 {k : Nat} {e : Ent} (h : fetch_ 251 k = some e) : chkE (mC 251) (mI 251) (mR 251) (mB 251) k e = true := by
  have hk : k < 33 := guard_ok (show (bif Nat.blt k 33 then _ else none) = some e from h)
  exact chkN_ok r_251_0 (by omega) (by omega) h
set_option maxRecDepth 100000 in
theorem q_252 : dOK 252 = true := by decide +kernel
set_option maxRecDepth 100000 in
theorem r_252_0 : eOK 252 0 18 = true := by decide +kernel
theorem s_252 {k : Nat} {e : Ent} (h : fetch_ 252 k = some e) : chkE (mC 252) (mI 252) (mR 252) (mB 252) k e = true := by
  have hk : k < 18 := guard_ok (show (bif Nat.blt k 18 then _ else none) = some e from h)
  exact chkN_ok r_252_0 (by omega) (by omega) h
set_option maxRecDepth 100000 in
theorem q_253 : dOK 253 = true := by decide +kernel
set_option maxRecDepth 100000 in
theorem r_253_0 : eOK 253 0 53 = true := by decide +kernel
theorem s_253 {k : Nat} {e : Ent} (h : fetch_ 253 k = some e) : chkE (mC 253) (mI 253) (mR 253) (mB 253) k e = true := by
  have hk : k < 53 := guard_ok (show (bif Nat.blt k 53 then _ else none) = some e from h)
  exact chkN_ok r_253_0 (by omega) (by omega) h
set_option maxRecDepth 100000 in
theorem q_254 : dOK 254 = true := by decide +kernel
set_option maxRecDepth 100000 in
theorem r_254_0 : eOK 254 0 23 = true := by decide +kernel
theorem s_254 {k : Nat} {e : Ent} (h : fetch_ 254 k = some e) : chkE (mC 254) (mI 254) (mR 254) (mB 254) k e = true := by
  have hk : k < 23 := guard_ok (show (bif Nat.blt k 23 then _ else none) = some e from h)
  exact chkN_ok r_254_0 (by omega) (by omega) h
set_option maxRecDepth 100000 in
theorem q_255 : dOK 255 = true := by decide +kernel
set_option maxRecDepth 100000 in
theorem r_255_0 : eOK 255 0 21 = true := by decide +kernel
theorem s_255 {k : Nat} {e : Ent} (h : fetch_ 255 k = some e) : chkE (mC 255) (mI 255) (mR 255) (mB 255) k e = true := by
  have hk : k < 21 := guard_ok (show (bif Nat.blt k 21 then _ else none) = some e from h)
  exact chkN_ok r_255_0 (by omega) (by omega) h
set_option maxRecDepth 100000 in
theorem q_256 : dOK 256 = true := by decide +kernel
set_option maxRecDepth 100000 in
theorem r_256_0 : eOK 256 0 20 = true := by decide +kernel
theorem s_256 {k : Nat} {e : Ent} (h : fetch_ 256 k = some e) : chkE (mC 256) (mI 256) (mR 256) (mB 256) k e = true := by
  have hk : k < 20 := guard_ok (show (bif Nat.blt k 20 then _ else none) = some e from h)
  exact chkN_ok r_256_0 (by omega) (by omega) h
theorem dOK_all {m : Nat} (h : m < mCnt) : dOK m = true := by
  have h : m < 257 := h
  · by_cases h128 : m < 128
    · by_cases h64 : m < 64
      · by_cases h32 : m < 32
        · by_cases h16 : m < 16
          · by_cases h8 : m < 8
            · by_cases h4 : m < 4
              · by_cases h2 : m < 2
                · by_cases h1 : m < 1
                  · obtain rfl : m = 0 := by omega
                    exact q_0
                  · obtain rfl : m = 1 := by omega
                    exact q_1
                · by_cases h3 : m < 3
                  · obtain rfl : m = 2 := by omega
                    exact q_2
                  · obtain rfl : m = 3 := by omega
                    exact q_3
              · by_cases h6 : m < 6
                · by_cases h5 : m < 5
                  · obtain rfl : m = 4 := by omega
                    exact q_4
                  · obtain rfl : m = 5 := by omega
                    exact q_5
                · by_cases h7 : m < 7
                  · obtain rfl : m = 6 := by omega
                    exact q_6
                  · obtain rfl : m = 7 := by omega
                    exact q_7
            · by_cases h12 : m < 12
              · by_cases h10 : m < 10
                · by_cases h9 : m < 9
                  · obtain rfl : m = 8 := by omega
                    exact q_8
                  · obtain rfl : m = 9 := by omega
                    exact q_9
                · by_cases h11 : m < 11
                  · obtain rfl : m = 10 := by omega
                    exact q_10
                  · obtain rfl : m = 11 := by omega
                    exact q_11
              · by_cases h14 : m < 14
                · by_cases h13 : m < 13
                  · obtain rfl : m = 12 := by omega
                    exact q_12
                  · obtain rfl : m = 13 := by omega
                    exact q_13
                · by_cases h15 : m < 15
                  · obtain rfl : m = 14 := by omega
                    exact q_14
                  · obtain rfl : m = 15 := by omega
                    exact q_15
          · by_cases h24 : m < 24
            · by_cases h20 : m < 20
              · by_cases h18 : m < 18
                · by_cases h17 : m < 17
                  · obtain rfl : m = 16 := by omega
                    exact q_16
                  · obtain rfl : m = 17 := by omega
                    exact q_17
                · by_cases h19 : m < 19
                  · obtain rfl : m = 18 := by omega
                    exact q_18
                  · obtain rfl : m = 19 := by omega
                    exact q_19
              · by_cases h22 : m < 22
                · by_cases h21 : m < 21
                  · obtain rfl : m = 20 := by omega
                    exact q_20
                  · obtain rfl : m = 21 := by omega
                    exact q_21
                · by_cases h23 : m < 23
                  · obtain rfl : m = 22 := by omega
                    exact q_22
                  · obtain rfl : m = 23 := by omega
                    exact q_23
            · by_cases h28 : m < 28
              · by_cases h26 : m < 26
                · by_cases h25 : m < 25
                  · obtain rfl : m = 24 := by omega
                    exact q_24
                  · obtain rfl : m = 25 := by omega
                    exact q_25
                · by_cases h27 : m < 27
                  · obtain rfl : m = 26 := by omega
                    exact q_26
                  · obtain rfl : m = 27 := by omega
                    exact q_27
              · by_cases h30 : m < 30
                · by_cases h29 : m < 29
                  · obtain rfl : m = 28 := by omega
                    exact q_28
                  · obtain rfl : m = 29 := by omega
                    exact q_29
                · by_cases h31 : m < 31
                  · obtain rfl : m = 30 := by omega
                    exact q_30
                  · obtain rfl : m = 31 := by omega
                    exact q_31
        · by_cases h48 : m < 48
          · by_cases h40 : m < 40
            · by_cases h36 : m < 36
              · by_cases h34 : m < 34
                · by_cases h33 : m < 33
                  · obtain rfl : m = 32 := by omega
                    exact q_32
                  · obtain rfl : m = 33 := by omega
                    exact q_33
                · by_cases h35 : m < 35
                  · obtain rfl : m = 34 := by omega
                    exact q_34
                  · obtain rfl : m = 35 := by omega
                    exact q_35
              · by_cases h38 : m < 38
                · by_cases h37 : m < 37
                  · obtain rfl : m = 36 := by omega
                    exact q_36
                  · obtain rfl : m = 37 := by omega
                    exact q_37
                · by_cases h39 : m < 39
                  · obtain rfl : m = 38 := by omega
                    exact q_38
                  · obtain rfl : m = 39 := by omega
                    exact q_39
            · by_cases h44 : m < 44
              · by_cases h42 : m < 42
                · by_cases h41 : m < 41
                  · obtain rfl : m = 40 := by omega
                    exact q_40
                  · obtain rfl : m = 41 := by omega
                    exact q_41
                · by_cases h43 : m < 43
                  · obtain rfl : m = 42 := by omega
                    exact q_42
                  · obtain rfl : m = 43 := by omega
                    exact q_43
              · by_cases h46 : m < 46
                · by_cases h45 : m < 45
                  · obtain rfl : m = 44 := by omega
                    exact q_44
                  · obtain rfl : m = 45 := by omega
                    exact q_45
                · by_cases h47 : m < 47
                  · obtain rfl : m = 46 := by omega
                    exact q_46
                  · obtain rfl : m = 47 := by omega
                    exact q_47
          · by_cases h56 : m < 56
            · by_cases h52 : m < 52
              · by_cases h50 : m < 50
                · by_cases h49 : m < 49
                  · obtain rfl : m = 48 := by omega
                    exact q_48
                  · obtain rfl : m = 49 := by omega
                    exact q_49
                · by_cases h51 : m < 51
                  · obtain rfl : m = 50 := by omega
                    exact q_50
                  · obtain rfl : m = 51 := by omega
                    exact q_51
              · by_cases h54 : m < 54
                · by_cases h53 : m < 53
                  · obtain rfl : m = 52 := by omega
                    exact q_52
                  · obtain rfl : m = 53 := by omega
                    exact q_53
                · by_cases h55 : m < 55
                  · obtain rfl : m = 54 := by omega
                    exact q_54
                  · obtain rfl : m = 55 := by omega
                    exact q_55
            · by_cases h60 : m < 60
              · by_cases h58 : m < 58
                · by_cases h57 : m < 57
                  · obtain rfl : m = 56 := by omega
                    exact q_56
                  · obtain rfl : m = 57 := by omega
                    exact q_57
                · by_cases h59 : m < 59
                  · obtain rfl : m = 58 := by omega
                    exact q_58
                  · obtain rfl : m = 59 := by omega
                    exact q_59
              · by_cases h62 : m < 62
                · by_cases h61 : m < 61
                  · obtain rfl : m = 60 := by omega
                    exact q_60
                  · obtain rfl : m = 61 := by omega
                    exact q_61
                · by_cases h63 : m < 63
                  · obtain rfl : m = 62 := by omega
                    exact q_62
                  · obtain rfl : m = 63 := by omega
                    exact q_63
      · by_cases h96 : m < 96
        · by_cases h80 : m < 80
          · by_cases h72 : m < 72
            · by_cases h68 : m < 68
              · by_cases h66 : m < 66
                · by_cases h65 : m < 65
                  · obtain rfl : m = 64 := by omega
                    exact q_64
                  · obtain rfl : m = 65 := by omega
                    exact q_65
                · by_cases h67 : m < 67
                  · obtain rfl : m = 66 := by omega
                    exact q_66
                  · obtain rfl : m = 67 := by omega
                    exact q_67
              · by_cases h70 : m < 70
                · by_cases h69 : m < 69
                  · obtain rfl : m = 68 := by omega
                    exact q_68
                  · obtain rfl : m = 69 := by omega
                    exact q_69
                · by_cases h71 : m < 71
                  · obtain rfl : m = 70 := by omega
                    exact q_70
                  · obtain rfl : m = 71 := by omega
                    exact q_71
            · by_cases h76 : m < 76
              · by_cases h74 : m < 74
                · by_cases h73 : m < 73
                  · obtain rfl : m = 72 := by omega
                    exact q_72
                  · obtain rfl : m = 73 := by omega
                    exact q_73
                · by_cases h75 : m < 75
                  · obtain rfl : m = 74 := by omega
                    exact q_74
                  · obtain rfl : m = 75 := by omega
                    exact q_75
              · by_cases h78 : m < 78
                · by_cases h77 : m < 77
                  · obtain rfl : m = 76 := by omega
                    exact q_76
                  · obtain rfl : m = 77 := by omega
                    exact q_77
                · by_cases h79 : m < 79
                  · obtain rfl : m = 78 := by omega
                    exact q_78
                  · obtain rfl : m = 79 := by omega
                    exact q_79
          · by_cases h88 : m < 88
            · by_cases h84 : m < 84
              · by_cases h82 : m < 82
                · by_cases h81 : m < 81
                  · obtain rfl : m = 80 := by omega
                    exact q_80
                  · obtain rfl : m = 81 := by omega
                    exact q_81
                · by_cases h83 : m < 83
                  · obtain rfl : m = 82 := by omega
                    exact q_82
                  · obtain rfl : m = 83 := by omega
                    exact q_83
              · by_cases h86 : m < 86
                · by_cases h85 : m < 85
                  · obtain rfl : m = 84 := by omega
                    exact q_84
                  · obtain rfl : m = 85 := by omega
                    exact q_85
                · by_cases h87 : m < 87
                  · obtain rfl : m = 86 := by omega
                    exact q_86
                  · obtain rfl : m = 87 := by omega
                    exact q_87
            · by_cases h92 : m < 92
              · by_cases h90 : m < 90
                · by_cases h89 : m < 89
                  · obtain rfl : m = 88 := by omega
                    exact q_88
                  · obtain rfl : m = 89 := by omega
                    exact q_89
                · by_cases h91 : m < 91
                  · obtain rfl : m = 90 := by omega
                    exact q_90
                  · obtain rfl : m = 91 := by omega
                    exact q_91
              · by_cases h94 : m < 94
                · by_cases h93 : m < 93
                  · obtain rfl : m = 92 := by omega
                    exact q_92
                  · obtain rfl : m = 93 := by omega
                    exact q_93
                · by_cases h95 : m < 95
                  · obtain rfl : m = 94 := by omega
                    exact q_94
                  · obtain rfl : m = 95 := by omega
                    exact q_95
        · by_cases h112 : m < 112
          · by_cases h104 : m < 104
            · by_cases h100 : m < 100
              · by_cases h98 : m < 98
                · by_cases h97 : m < 97
                  · obtain rfl : m = 96 := by omega
                    exact q_96
                  · obtain rfl : m = 97 := by omega
                    exact q_97
                · by_cases h99 : m < 99
                  · obtain rfl : m = 98 := by omega
                    exact q_98
                  · obtain rfl : m = 99 := by omega
                    exact q_99
              · by_cases h102 : m < 102
                · by_cases h101 : m < 101
                  · obtain rfl : m = 100 := by omega
                    exact q_100
                  · obtain rfl : m = 101 := by omega
                    exact q_101
                · by_cases h103 : m < 103
                  · obtain rfl : m = 102 := by omega
                    exact q_102
                  · obtain rfl : m = 103 := by omega
                    exact q_103
            · by_cases h108 : m < 108
              · by_cases h106 : m < 106
                · by_cases h105 : m < 105
                  · obtain rfl : m = 104 := by omega
                    exact q_104
                  · obtain rfl : m = 105 := by omega
                    exact q_105
                · by_cases h107 : m < 107
                  · obtain rfl : m = 106 := by omega
                    exact q_106
                  · obtain rfl : m = 107 := by omega
                    exact q_107
              · by_cases h110 : m < 110
                · by_cases h109 : m < 109
                  · obtain rfl : m = 108 := by omega
                    exact q_108
                  · obtain rfl : m = 109 := by omega
                    exact q_109
                · by_cases h111 : m < 111
                  · obtain rfl : m = 110 := by omega
                    exact q_110
                  · obtain rfl : m = 111 := by omega
                    exact q_111
          · by_cases h120 : m < 120
            · by_cases h116 : m < 116
              · by_cases h114 : m < 114
                · by_cases h113 : m < 113
                  · obtain rfl : m = 112 := by omega
                    exact q_112
                  · obtain rfl : m = 113 := by omega
                    exact q_113
                · by_cases h115 : m < 115
                  · obtain rfl : m = 114 := by omega
                    exact q_114
                  · obtain rfl : m = 115 := by omega
                    exact q_115
              · by_cases h118 : m < 118
                · by_cases h117 : m < 117
                  · obtain rfl : m = 116 := by omega
                    exact q_116
                  · obtain rfl : m = 117 := by omega
                    exact q_117
                · by_cases h119 : m < 119
                  · obtain rfl : m = 118 := by omega
                    exact q_118
                  · obtain rfl : m = 119 := by omega
                    exact q_119
            · by_cases h124 : m < 124
              · by_cases h122 : m < 122
                · by_cases h121 : m < 121
                  · obtain rfl : m = 120 := by omega
                    exact q_120
                  · obtain rfl : m = 121 := by omega
                    exact q_121
                · by_cases h123 : m < 123
                  · obtain rfl : m = 122 := by omega
                    exact q_122
                  · obtain rfl : m = 123 := by omega
                    exact q_123
              · by_cases h126 : m < 126
                · by_cases h125 : m < 125
                  · obtain rfl : m = 124 := by omega
                    exact q_124
                  · obtain rfl : m = 125 := by omega
                    exact q_125
                · by_cases h127 : m < 127
                  · obtain rfl : m = 126 := by omega
                    exact q_126
                  · obtain rfl : m = 127 := by omega
                    exact q_127
    · by_cases h192 : m < 192
      · by_cases h160 : m < 160
        · by_cases h144 : m < 144
          · by_cases h136 : m < 136
            · by_cases h132 : m < 132
              · by_cases h130 : m < 130
                · by_cases h129 : m < 129
                  · obtain rfl : m = 128 := by omega
                    exact q_128
                  · obtain rfl : m = 129 := by omega
                    exact q_129
                · by_cases h131 : m < 131
                  · obtain rfl : m = 130 := by omega
                    exact q_130
                  · obtain rfl : m = 131 := by omega
                    exact q_131
              · by_cases h134 : m < 134
                · by_cases h133 : m < 133
                  · obtain rfl : m = 132 := by omega
                    exact q_132
                  · obtain rfl : m = 133 := by omega
                    exact q_133
                · by_cases h135 : m < 135
                  · obtain rfl : m = 134 := by omega
                    exact q_134
                  · obtain rfl : m = 135 := by omega
                    exact q_135
            · by_cases h140 : m < 140
              · by_cases h138 : m < 138
                · by_cases h137 : m < 137
                  · obtain rfl : m = 136 := by omega
                    exact q_136
                  · obtain rfl : m = 137 := by omega
                    exact q_137
                · by_cases h139 : m < 139
                  · obtain rfl : m = 138 := by omega
                    exact q_138
                  · obtain rfl : m = 139 := by omega
                    exact q_139
              · by_cases h142 : m < 142
                · by_cases h141 : m < 141
                  · obtain rfl : m = 140 := by omega
                    exact q_140
                  · obtain rfl : m = 141 := by omega
                    exact q_141
                · by_cases h143 : m < 143
                  · obtain rfl : m = 142 := by omega
                    exact q_142
                  · obtain rfl : m = 143 := by omega
                    exact q_143
          · by_cases h152 : m < 152
            · by_cases h148 : m < 148
              · by_cases h146 : m < 146
                · by_cases h145 : m < 145
                  · obtain rfl : m = 144 := by omega
                    exact q_144
                  · obtain rfl : m = 145 := by omega
                    exact q_145
                · by_cases h147 : m < 147
                  · obtain rfl : m = 146 := by omega
                    exact q_146
                  · obtain rfl : m = 147 := by omega
                    exact q_147
              · by_cases h150 : m < 150
                · by_cases h149 : m < 149
                  · obtain rfl : m = 148 := by omega
                    exact q_148
                  · obtain rfl : m = 149 := by omega
                    exact q_149
                · by_cases h151 : m < 151
                  · obtain rfl : m = 150 := by omega
                    exact q_150
                  · obtain rfl : m = 151 := by omega
                    exact q_151
            · by_cases h156 : m < 156
              · by_cases h154 : m < 154
                · by_cases h153 : m < 153
                  · obtain rfl : m = 152 := by omega
                    exact q_152
                  · obtain rfl : m = 153 := by omega
                    exact q_153
                · by_cases h155 : m < 155
                  · obtain rfl : m = 154 := by omega
                    exact q_154
                  · obtain rfl : m = 155 := by omega
                    exact q_155
              · by_cases h158 : m < 158
                · by_cases h157 : m < 157
                  · obtain rfl : m = 156 := by omega
                    exact q_156
                  · obtain rfl : m = 157 := by omega
                    exact q_157
                · by_cases h159 : m < 159
                  · obtain rfl : m = 158 := by omega
                    exact q_158
                  · obtain rfl : m = 159 := by omega
                    exact q_159
        · by_cases h176 : m < 176
          · by_cases h168 : m < 168
            · by_cases h164 : m < 164
              · by_cases h162 : m < 162
                · by_cases h161 : m < 161
                  · obtain rfl : m = 160 := by omega
                    exact q_160
                  · obtain rfl : m = 161 := by omega
                    exact q_161
                · by_cases h163 : m < 163
                  · obtain rfl : m = 162 := by omega
                    exact q_162
                  · obtain rfl : m = 163 := by omega
                    exact q_163
              · by_cases h166 : m < 166
                · by_cases h165 : m < 165
                  · obtain rfl : m = 164 := by omega
                    exact q_164
                  · obtain rfl : m = 165 := by omega
                    exact q_165
                · by_cases h167 : m < 167
                  · obtain rfl : m = 166 := by omega
                    exact q_166
                  · obtain rfl : m = 167 := by omega
                    exact q_167
            · by_cases h172 : m < 172
              · by_cases h170 : m < 170
                · by_cases h169 : m < 169
                  · obtain rfl : m = 168 := by omega
                    exact q_168
                  · obtain rfl : m = 169 := by omega
                    exact q_169
                · by_cases h171 : m < 171
                  · obtain rfl : m = 170 := by omega
                    exact q_170
                  · obtain rfl : m = 171 := by omega
                    exact q_171
              · by_cases h174 : m < 174
                · by_cases h173 : m < 173
                  · obtain rfl : m = 172 := by omega
                    exact q_172
                  · obtain rfl : m = 173 := by omega
                    exact q_173
                · by_cases h175 : m < 175
                  · obtain rfl : m = 174 := by omega
                    exact q_174
                  · obtain rfl : m = 175 := by omega
                    exact q_175
          · by_cases h184 : m < 184
            · by_cases h180 : m < 180
              · by_cases h178 : m < 178
                · by_cases h177 : m < 177
                  · obtain rfl : m = 176 := by omega
                    exact q_176
                  · obtain rfl : m = 177 := by omega
                    exact q_177
                · by_cases h179 : m < 179
                  · obtain rfl : m = 178 := by omega
                    exact q_178
                  · obtain rfl : m = 179 := by omega
                    exact q_179
              · by_cases h182 : m < 182
                · by_cases h181 : m < 181
                  · obtain rfl : m = 180 := by omega
                    exact q_180
                  · obtain rfl : m = 181 := by omega
                    exact q_181
                · by_cases h183 : m < 183
                  · obtain rfl : m = 182 := by omega
                    exact q_182
                  · obtain rfl : m = 183 := by omega
                    exact q_183
            · by_cases h188 : m < 188
              · by_cases h186 : m < 186
                · by_cases h185 : m < 185
                  · obtain rfl : m = 184 := by omega
                    exact q_184
                  · obtain rfl : m = 185 := by omega
                    exact q_185
                · by_cases h187 : m < 187
                  · obtain rfl : m = 186 := by omega
                    exact q_186
                  · obtain rfl : m = 187 := by omega
                    exact q_187
              · by_cases h190 : m < 190
                · by_cases h189 : m < 189
                  · obtain rfl : m = 188 := by omega
                    exact q_188
                  · obtain rfl : m = 189 := by omega
                    exact q_189
                · by_cases h191 : m < 191
                  · obtain rfl : m = 190 := by omega
                    exact q_190
                  · obtain rfl : m = 191 := by omega
                    exact q_191
      · by_cases h224 : m < 224
        · by_cases h208 : m < 208
          · by_cases h200 : m < 200
            · by_cases h196 : m < 196
              · by_cases h194 : m < 194
                · by_cases h193 : m < 193
                  · obtain rfl : m = 192 := by omega
                    exact q_192
                  · obtain rfl : m = 193 := by omega
                    exact q_193
                · by_cases h195 : m < 195
                  · obtain rfl : m = 194 := by omega
                    exact q_194
                  · obtain rfl : m = 195 := by omega
                    exact q_195
              · by_cases h198 : m < 198
                · by_cases h197 : m < 197
                  · obtain rfl : m = 196 := by omega
                    exact q_196
                  · obtain rfl : m = 197 := by omega
                    exact q_197
                · by_cases h199 : m < 199
                  · obtain rfl : m = 198 := by omega
                    exact q_198
                  · obtain rfl : m = 199 := by omega
                    exact q_199
            · by_cases h204 : m < 204
              · by_cases h202 : m < 202
                · by_cases h201 : m < 201
                  · obtain rfl : m = 200 := by omega
                    exact q_200
                  · obtain rfl : m = 201 := by omega
                    exact q_201
                · by_cases h203 : m < 203
                  · obtain rfl : m = 202 := by omega
                    exact q_202
                  · obtain rfl : m = 203 := by omega
                    exact q_203
              · by_cases h206 : m < 206
                · by_cases h205 : m < 205
                  · obtain rfl : m = 204 := by omega
                    exact q_204
                  · obtain rfl : m = 205 := by omega
                    exact q_205
                · by_cases h207 : m < 207
                  · obtain rfl : m = 206 := by omega
                    exact q_206
                  · obtain rfl : m = 207 := by omega
                    exact q_207
          · by_cases h216 : m < 216
            · by_cases h212 : m < 212
              · by_cases h210 : m < 210
                · by_cases h209 : m < 209
                  · obtain rfl : m = 208 := by omega
                    exact q_208
                  · obtain rfl : m = 209 := by omega
                    exact q_209
                · by_cases h211 : m < 211
                  · obtain rfl : m = 210 := by omega
                    exact q_210
                  · obtain rfl : m = 211 := by omega
                    exact q_211
              · by_cases h214 : m < 214
                · by_cases h213 : m < 213
                  · obtain rfl : m = 212 := by omega
                    exact q_212
                  · obtain rfl : m = 213 := by omega
                    exact q_213
                · by_cases h215 : m < 215
                  · obtain rfl : m = 214 := by omega
                    exact q_214
                  · obtain rfl : m = 215 := by omega
                    exact q_215
            · by_cases h220 : m < 220
              · by_cases h218 : m < 218
                · by_cases h217 : m < 217
                  · obtain rfl : m = 216 := by omega
                    exact q_216
                  · obtain rfl : m = 217 := by omega
                    exact q_217
                · by_cases h219 : m < 219
                  · obtain rfl : m = 218 := by omega
                    exact q_218
                  · obtain rfl : m = 219 := by omega
                    exact q_219
              · by_cases h222 : m < 222
                · by_cases h221 : m < 221
                  · obtain rfl : m = 220 := by omega
                    exact q_220
                  · obtain rfl : m = 221 := by omega
                    exact q_221
                · by_cases h223 : m < 223
                  · obtain rfl : m = 222 := by omega
                    exact q_222
                  · obtain rfl : m = 223 := by omega
                    exact q_223
        · by_cases h240 : m < 240
          · by_cases h232 : m < 232
            · by_cases h228 : m < 228
              · by_cases h226 : m < 226
                · by_cases h225 : m < 225
                  · obtain rfl : m = 224 := by omega
                    exact q_224
                  · obtain rfl : m = 225 := by omega
                    exact q_225
                · by_cases h227 : m < 227
                  · obtain rfl : m = 226 := by omega
                    exact q_226
                  · obtain rfl : m = 227 := by omega
                    exact q_227
              · by_cases h230 : m < 230
                · by_cases h229 : m < 229
                  · obtain rfl : m = 228 := by omega
                    exact q_228
                  · obtain rfl : m = 229 := by omega
                    exact q_229
                · by_cases h231 : m < 231
                  · obtain rfl : m = 230 := by omega
                    exact q_230
                  · obtain rfl : m = 231 := by omega
                    exact q_231
            · by_cases h236 : m < 236
              · by_cases h234 : m < 234
                · by_cases h233 : m < 233
                  · obtain rfl : m = 232 := by omega
                    exact q_232
                  · obtain rfl : m = 233 := by omega
                    exact q_233
                · by_cases h235 : m < 235
                  · obtain rfl : m = 234 := by omega
                    exact q_234
                  · obtain rfl : m = 235 := by omega
                    exact q_235
              · by_cases h238 : m < 238
                · by_cases h237 : m < 237
                  · obtain rfl : m = 236 := by omega
                    exact q_236
                  · obtain rfl : m = 237 := by omega
                    exact q_237
                · by_cases h239 : m < 239
                  · obtain rfl : m = 238 := by omega
                    exact q_238
                  · obtain rfl : m = 239 := by omega
                    exact q_239
          · by_cases h248 : m < 248
            · by_cases h244 : m < 244
              · by_cases h242 : m < 242
                · by_cases h241 : m < 241
                  · obtain rfl : m = 240 := by omega
                    exact q_240
                  · obtain rfl : m = 241 := by omega
                    exact q_241
                · by_cases h243 : m < 243
                  · obtain rfl : m = 242 := by omega
                    exact q_242
                  · obtain rfl : m = 243 := by omega
                    exact q_243
              · by_cases h246 : m < 246
                · by_cases h245 : m < 245
                  · obtain rfl : m = 244 := by omega
                    exact q_244
                  · obtain rfl : m = 245 := by omega
                    exact q_245
                · by_cases h247 : m < 247
                  · obtain rfl : m = 246 := by omega
                    exact q_246
                  · obtain rfl : m = 247 := by omega
                    exact q_247
            · by_cases h252 : m < 252
              · by_cases h250 : m < 250
                · by_cases h249 : m < 249
                  · obtain rfl : m = 248 := by omega
                    exact q_248
                  · obtain rfl : m = 249 := by omega
                    exact q_249
                · by_cases h251 : m < 251
                  · obtain rfl : m = 250 := by omega
                    exact q_250
                  · obtain rfl : m = 251 := by omega
                    exact q_251
              · by_cases h254 : m < 254
                · by_cases h253 : m < 253
                  · obtain rfl : m = 252 := by omega
                    exact q_252
                  · obtain rfl : m = 253 := by omega
                    exact q_253
                · by_cases h255 : m < 255
                  · obtain rfl : m = 254 := by omega
                    exact q_254
                  · by_cases h256 : m < 256
                    · obtain rfl : m = 255 := by omega
                      exact q_255
                    · obtain rfl : m = 256 := by omega
                      exact q_256
theorem ent_all {m : Nat} (h : m < mCnt) {k : Nat} {e : Ent} (he : fetch_ m k = some e) : chkE (mC m) (mI m) (mR m) (mB m) k e = true := by
  have h : m < 257 := h
  · by_cases h128 : m < 128
    · by_cases h64 : m < 64
      · by_cases h32 : m < 32
        · by_cases h16 : m < 16
          · by_cases h8 : m < 8
            · by_cases h4 : m < 4
              · by_cases h2 : m < 2
                · by_cases h1 : m < 1
                  · obtain rfl : m = 0 := by omega
                    exact s_0 he
                  · obtain rfl : m = 1 := by omega
                    exact s_1 he
                · by_cases h3 : m < 3
                  · obtain rfl : m = 2 := by omega
                    exact s_2 he
                  · obtain rfl : m = 3 := by omega
                    exact s_3 he
              · by_cases h6 : m < 6
                · by_cases h5 : m < 5
                  · obtain rfl : m = 4 := by omega
                    exact s_4 he
                  · obtain rfl : m = 5 := by omega
                    exact s_5 he
                · by_cases h7 : m < 7
                  · obtain rfl : m = 6 := by omega
                    exact s_6 he
                  · obtain rfl : m = 7 := by omega
                    exact s_7 he
            · by_cases h12 : m < 12
              · by_cases h10 : m < 10
                · by_cases h9 : m < 9
                  · obtain rfl : m = 8 := by omega
                    exact s_8 he
                  · obtain rfl : m = 9 := by omega
                    exact s_9 he
                · by_cases h11 : m < 11
                  · obtain rfl : m = 10 := by omega
                    exact s_10 he
                  · obtain rfl : m = 11 := by omega
                    exact s_11 he
              · by_cases h14 : m < 14
                · by_cases h13 : m < 13
                  · obtain rfl : m = 12 := by omega
                    exact s_12 he
                  · obtain rfl : m = 13 := by omega
                    exact s_13 he
                · by_cases h15 : m < 15
                  · obtain rfl : m = 14 := by omega
                    exact s_14 he
                  · obtain rfl : m = 15 := by omega
                    exact s_15 he
          · by_cases h24 : m < 24
            · by_cases h20 : m < 20
              · by_cases h18 : m < 18
                · by_cases h17 : m < 17
                  · obtain rfl : m = 16 := by omega
                    exact s_16 he
                  · obtain rfl : m = 17 := by omega
                    exact s_17 he
                · by_cases h19 : m < 19
                  · obtain rfl : m = 18 := by omega
                    exact s_18 he
                  · obtain rfl : m = 19 := by omega
                    exact s_19 he
              · by_cases h22 : m < 22
                · by_cases h21 : m < 21
                  · obtain rfl : m = 20 := by omega
                    exact s_20 he
                  · obtain rfl : m = 21 := by omega
                    exact s_21 he
                · by_cases h23 : m < 23
                  · obtain rfl : m = 22 := by omega
                    exact s_22 he
                  · obtain rfl : m = 23 := by omega
                    exact s_23 he
            · by_cases h28 : m < 28
              · by_cases h26 : m < 26
                · by_cases h25 : m < 25
                  · obtain rfl : m = 24 := by omega
                    exact s_24 he
                  · obtain rfl : m = 25 := by omega
                    exact s_25 he
                · by_cases h27 : m < 27
                  · obtain rfl : m = 26 := by omega
                    exact s_26 he
                  · obtain rfl : m = 27 := by omega
                    exact s_27 he
              · by_cases h30 : m < 30
                · by_cases h29 : m < 29
                  · obtain rfl : m = 28 := by omega
                    exact s_28 he
                  · obtain rfl : m = 29 := by omega
                    exact s_29 he
                · by_cases h31 : m < 31
                  · obtain rfl : m = 30 := by omega
                    exact s_30 he
                  · obtain rfl : m = 31 := by omega
                    exact s_31 he
        · by_cases h48 : m < 48
          · by_cases h40 : m < 40
            · by_cases h36 : m < 36
              · by_cases h34 : m < 34
                · by_cases h33 : m < 33
                  · obtain rfl : m = 32 := by omega
                    exact s_32 he
                  · obtain rfl : m = 33 := by omega
                    exact s_33 he
                · by_cases h35 : m < 35
                  · obtain rfl : m = 34 := by omega
                    exact s_34 he
                  · obtain rfl : m = 35 := by omega
                    exact s_35 he
              · by_cases h38 : m < 38
                · by_cases h37 : m < 37
                  · obtain rfl : m = 36 := by omega
                    exact s_36 he
                  · obtain rfl : m = 37 := by omega
                    exact s_37 he
                · by_cases h39 : m < 39
                  · obtain rfl : m = 38 := by omega
                    exact s_38 he
                  · obtain rfl : m = 39 := by omega
                    exact s_39 he
            · by_cases h44 : m < 44
              · by_cases h42 : m < 42
                · by_cases h41 : m < 41
                  · obtain rfl : m = 40 := by omega
                    exact s_40 he
                  · obtain rfl : m = 41 := by omega
                    exact s_41 he
                · by_cases h43 : m < 43
                  · obtain rfl : m = 42 := by omega
                    exact s_42 he
                  · obtain rfl : m = 43 := by omega
                    exact s_43 he
              · by_cases h46 : m < 46
                · by_cases h45 : m < 45
                  · obtain rfl : m = 44 := by omega
                    exact s_44 he
                  · obtain rfl : m = 45 := by omega
                    exact s_45 he
                · by_cases h47 : m < 47
                  · obtain rfl : m = 46 := by omega
                    exact s_46 he
                  · obtain rfl : m = 47 := by omega
                    exact s_47 he
          · by_cases h56 : m < 56
            · by_cases h52 : m < 52
              · by_cases h50 : m < 50
                · by_cases h49 : m < 49
                  · obtain rfl : m = 48 := by omega
                    exact s_48 he
                  · obtain rfl : m = 49 := by omega
                    exact s_49 he
                · by_cases h51 : m < 51
                  · obtain rfl : m = 50 := by omega
                    exact s_50 he
                  · obtain rfl : m = 51 := by omega
                    exact s_51 he
              · by_cases h54 : m < 54
                · by_cases h53 : m < 53
                  · obtain rfl : m = 52 := by omega
                    exact s_52 he
                  · obtain rfl : m = 53 := by omega
                    exact s_53 he
                · by_cases h55 : m < 55
                  · obtain rfl : m = 54 := by omega
                    exact s_54 he
                  · obtain rfl : m = 55 := by omega
                    exact s_55 he
            · by_cases h60 : m < 60
              · by_cases h58 : m < 58
                · by_cases h57 : m < 57
                  · obtain rfl : m = 56 := by omega
                    exact s_56 he
                  · obtain rfl : m = 57 := by omega
                    exact s_57 he
                · by_cases h59 : m < 59
                  · obtain rfl : m = 58 := by omega
                    exact s_58 he
                  · obtain rfl : m = 59 := by omega
                    exact s_59 he
              · by_cases h62 : m < 62
                · by_cases h61 : m < 61
                  · obtain rfl : m = 60 := by omega
                    exact s_60 he
                  · obtain rfl : m = 61 := by omega
                    exact s_61 he
                · by_cases h63 : m < 63
                  · obtain rfl : m = 62 := by omega
                    exact s_62 he
                  · obtain rfl : m = 63 := by omega
                    exact s_63 he
      · by_cases h96 : m < 96
        · by_cases h80 : m < 80
          · by_cases h72 : m < 72
            · by_cases h68 : m < 68
              · by_cases h66 : m < 66
                · by_cases h65 : m < 65
                  · obtain rfl : m = 64 := by omega
                    exact s_64 he
                  · obtain rfl : m = 65 := by omega
                    exact s_65 he
                · by_cases h67 : m < 67
                  · obtain rfl : m = 66 := by omega
                    exact s_66 he
                  · obtain rfl : m = 67 := by omega
                    exact s_67 he
              · by_cases h70 : m < 70
                · by_cases h69 : m < 69
                  · obtain rfl : m = 68 := by omega
                    exact s_68 he
                  · obtain rfl : m = 69 := by omega
                    exact s_69 he
                · by_cases h71 : m < 71
                  · obtain rfl : m = 70 := by omega
                    exact s_70 he
                  · obtain rfl : m = 71 := by omega
                    exact s_71 he
            · by_cases h76 : m < 76
              · by_cases h74 : m < 74
                · by_cases h73 : m < 73
                  · obtain rfl : m = 72 := by omega
                    exact s_72 he
                  · obtain rfl : m = 73 := by omega
                    exact s_73 he
                · by_cases h75 : m < 75
                  · obtain rfl : m = 74 := by omega
                    exact s_74 he
                  · obtain rfl : m = 75 := by omega
                    exact s_75 he
              · by_cases h78 : m < 78
                · by_cases h77 : m < 77
                  · obtain rfl : m = 76 := by omega
                    exact s_76 he
                  · obtain rfl : m = 77 := by omega
                    exact s_77 he
                · by_cases h79 : m < 79
                  · obtain rfl : m = 78 := by omega
                    exact s_78 he
                  · obtain rfl : m = 79 := by omega
                    exact s_79 he
          · by_cases h88 : m < 88
            · by_cases h84 : m < 84
              · by_cases h82 : m < 82
                · by_cases h81 : m < 81
                  · obtain rfl : m = 80 := by omega
                    exact s_80 he
                  · obtain rfl : m = 81 := by omega
                    exact s_81 he
                · by_cases h83 : m < 83
                  · obtain rfl : m = 82 := by omega
                    exact s_82 he
                  · obtain rfl : m = 83 := by omega
                    exact s_83 he
              · by_cases h86 : m < 86
                · by_cases h85 : m < 85
                  · obtain rfl : m = 84 := by omega
                    exact s_84 he
                  · obtain rfl : m = 85 := by omega
                    exact s_85 he
                · by_cases h87 : m < 87
                  · obtain rfl : m = 86 := by omega
                    exact s_86 he
                  · obtain rfl : m = 87 := by omega
                    exact s_87 he
            · by_cases h92 : m < 92
              · by_cases h90 : m < 90
                · by_cases h89 : m < 89
                  · obtain rfl : m = 88 := by omega
                    exact s_88 he
                  · obtain rfl : m = 89 := by omega
                    exact s_89 he
                · by_cases h91 : m < 91
                  · obtain rfl : m = 90 := by omega
                    exact s_90 he
                  · obtain rfl : m = 91 := by omega
                    exact s_91 he
              · by_cases h94 : m < 94
                · by_cases h93 : m < 93
                  · obtain rfl : m = 92 := by omega
                    exact s_92 he
                  · obtain rfl : m = 93 := by omega
                    exact s_93 he
                · by_cases h95 : m < 95
                  · obtain rfl : m = 94 := by omega
                    exact s_94 he
                  · obtain rfl : m = 95 := by omega
                    exact s_95 he
        · by_cases h112 : m < 112
          · by_cases h104 : m < 104
            · by_cases h100 : m < 100
              · by_cases h98 : m < 98
                · by_cases h97 : m < 97
                  · obtain rfl : m = 96 := by omega
                    exact s_96 he
                  · obtain rfl : m = 97 := by omega
                    exact s_97 he
                · by_cases h99 : m < 99
                  · obtain rfl : m = 98 := by omega
                    exact s_98 he
                  · obtain rfl : m = 99 := by omega
                    exact s_99 he
              · by_cases h102 : m < 102
                · by_cases h101 : m < 101
                  · obtain rfl : m = 100 := by omega
                    exact s_100 he
                  · obtain rfl : m = 101 := by omega
                    exact s_101 he
                · by_cases h103 : m < 103
                  · obtain rfl : m = 102 := by omega
                    exact s_102 he
                  · obtain rfl : m = 103 := by omega
                    exact s_103 he
            · by_cases h108 : m < 108
              · by_cases h106 : m < 106
                · by_cases h105 : m < 105
                  · obtain rfl : m = 104 := by omega
                    exact s_104 he
                  · obtain rfl : m = 105 := by omega
                    exact s_105 he
                · by_cases h107 : m < 107
                  · obtain rfl : m = 106 := by omega
                    exact s_106 he
                  · obtain rfl : m = 107 := by omega
                    exact s_107 he
              · by_cases h110 : m < 110
                · by_cases h109 : m < 109
                  · obtain rfl : m = 108 := by omega
                    exact s_108 he
                  · obtain rfl : m = 109 := by omega
                    exact s_109 he
                · by_cases h111 : m < 111
                  · obtain rfl : m = 110 := by omega
                    exact s_110 he
                  · obtain rfl : m = 111 := by omega
                    exact s_111 he
          · by_cases h120 : m < 120
            · by_cases h116 : m < 116
              · by_cases h114 : m < 114
                · by_cases h113 : m < 113
                  · obtain rfl : m = 112 := by omega
                    exact s_112 he
                  · obtain rfl : m = 113 := by omega
                    exact s_113 he
                · by_cases h115 : m < 115
                  · obtain rfl : m = 114 := by omega
                    exact s_114 he
                  · obtain rfl : m = 115 := by omega
                    exact s_115 he
              · by_cases h118 : m < 118
                · by_cases h117 : m < 117
                  · obtain rfl : m = 116 := by omega
                    exact s_116 he
                  · obtain rfl : m = 117 := by omega
                    exact s_117 he
                · by_cases h119 : m < 119
                  · obtain rfl : m = 118 := by omega
                    exact s_118 he
                  · obtain rfl : m = 119 := by omega
                    exact s_119 he
            · by_cases h124 : m < 124
              · by_cases h122 : m < 122
                · by_cases h121 : m < 121
                  · obtain rfl : m = 120 := by omega
                    exact s_120 he
                  · obtain rfl : m = 121 := by omega
                    exact s_121 he
                · by_cases h123 : m < 123
                  · obtain rfl : m = 122 := by omega
                    exact s_122 he
                  · obtain rfl : m = 123 := by omega
                    exact s_123 he
              · by_cases h126 : m < 126
                · by_cases h125 : m < 125
                  · obtain rfl : m = 124 := by omega
                    exact s_124 he
                  · obtain rfl : m = 125 := by omega
                    exact s_125 he
                · by_cases h127 : m < 127
                  · obtain rfl : m = 126 := by omega
                    exact s_126 he
                  · obtain rfl : m = 127 := by omega
                    exact s_127 he
    · by_cases h192 : m < 192
      · by_cases h160 : m < 160
        · by_cases h144 : m < 144
          · by_cases h136 : m < 136
            · by_cases h132 : m < 132
              · by_cases h130 : m < 130
                · by_cases h129 : m < 129
                  · obtain rfl : m = 128 := by omega
                    exact s_128 he
                  · obtain rfl : m = 129 := by omega
                    exact s_129 he
                · by_cases h131 : m < 131
                  · obtain rfl : m = 130 := by omega
                    exact s_130 he
                  · obtain rfl : m = 131 := by omega
                    exact s_131 he
              · by_cases h134 : m < 134
                · by_cases h133 : m < 133
                  · obtain rfl : m = 132 := by omega
                    exact s_132 he
                  · obtain rfl : m = 133 := by omega
                    exact s_133 he
                · by_cases h135 : m < 135
                  · obtain rfl : m = 134 := by omega
                    exact s_134 he
                  · obtain rfl : m = 135 := by omega
                    exact s_135 he
            · by_cases h140 : m < 140
              · by_cases h138 : m < 138
                · by_cases h137 : m < 137
                  · obtain rfl : m = 136 := by omega
                    exact s_136 he
                  · obtain rfl : m = 137 := by omega
                    exact s_137 he
                · by_cases h139 : m < 139
                  · obtain rfl : m = 138 := by omega
                    exact s_138 he
                  · obtain rfl : m = 139 := by omega
                    exact s_139 he
              · by_cases h142 : m < 142
                · by_cases h141 : m < 141
                  · obtain rfl : m = 140 := by omega
                    exact s_140 he
                  · obtain rfl : m = 141 := by omega
                    exact s_141 he
                · by_cases h143 : m < 143
                  · obtain rfl : m = 142 := by omega
                    exact s_142 he
                  · obtain rfl : m = 143 := by omega
                    exact s_143 he
          · by_cases h152 : m < 152
            · by_cases h148 : m < 148
              · by_cases h146 : m < 146
                · by_cases h145 : m < 145
                  · obtain rfl : m = 144 := by omega
                    exact s_144 he
                  · obtain rfl : m = 145 := by omega
                    exact s_145 he
                · by_cases h147 : m < 147
                  · obtain rfl : m = 146 := by omega
                    exact s_146 he
                  · obtain rfl : m = 147 := by omega
                    exact s_147 he
              · by_cases h150 : m < 150
                · by_cases h149 : m < 149
                  · obtain rfl : m = 148 := by omega
                    exact s_148 he
                  · obtain rfl : m = 149 := by omega
                    exact s_149 he
                · by_cases h151 : m < 151
                  · obtain rfl : m = 150 := by omega
                    exact s_150 he
                  · obtain rfl : m = 151 := by omega
                    exact s_151 he
            · by_cases h156 : m < 156
              · by_cases h154 : m < 154
                · by_cases h153 : m < 153
                  · obtain rfl : m = 152 := by omega
                    exact s_152 he
                  · obtain rfl : m = 153 := by omega
                    exact s_153 he
                · by_cases h155 : m < 155
                  · obtain rfl : m = 154 := by omega
                    exact s_154 he
                  · obtain rfl : m = 155 := by omega
                    exact s_155 he
              · by_cases h158 : m < 158
                · by_cases h157 : m < 157
                  · obtain rfl : m = 156 := by omega
                    exact s_156 he
                  · obtain rfl : m = 157 := by omega
                    exact s_157 he
                · by_cases h159 : m < 159
                  · obtain rfl : m = 158 := by omega
                    exact s_158 he
                  · obtain rfl : m = 159 := by omega
                    exact s_159 he
        · by_cases h176 : m < 176
          · by_cases h168 : m < 168
            · by_cases h164 : m < 164
              · by_cases h162 : m < 162
                · by_cases h161 : m < 161
                  · obtain rfl : m = 160 := by omega
                    exact s_160 he
                  · obtain rfl : m = 161 := by omega
                    exact s_161 he
                · by_cases h163 : m < 163
                  · obtain rfl : m = 162 := by omega
                    exact s_162 he
                  · obtain rfl : m = 163 := by omega
                    exact s_163 he
              · by_cases h166 : m < 166
                · by_cases h165 : m < 165
                  · obtain rfl : m = 164 := by omega
                    exact s_164 he
                  · obtain rfl : m = 165 := by omega
                    exact s_165 he
                · by_cases h167 : m < 167
                  · obtain rfl : m = 166 := by omega
                    exact s_166 he
                  · obtain rfl : m = 167 := by omega
                    exact s_167 he
            · by_cases h172 : m < 172
              · by_cases h170 : m < 170
                · by_cases h169 : m < 169
                  · obtain rfl : m = 168 := by omega
                    exact s_168 he
                  · obtain rfl : m = 169 := by omega
                    exact s_169 he
                · by_cases h171 : m < 171
                  · obtain rfl : m = 170 := by omega
                    exact s_170 he
                  · obtain rfl : m = 171 := by omega
                    exact s_171 he
              · by_cases h174 : m < 174
                · by_cases h173 : m < 173
                  · obtain rfl : m = 172 := by omega
                    exact s_172 he
                  · obtain rfl : m = 173 := by omega
                    exact s_173 he
                · by_cases h175 : m < 175
                  · obtain rfl : m = 174 := by omega
                    exact s_174 he
                  · obtain rfl : m = 175 := by omega
                    exact s_175 he
          · by_cases h184 : m < 184
            · by_cases h180 : m < 180
              · by_cases h178 : m < 178
                · by_cases h177 : m < 177
                  · obtain rfl : m = 176 := by omega
                    exact s_176 he
                  · obtain rfl : m = 177 := by omega
                    exact s_177 he
                · by_cases h179 : m < 179
                  · obtain rfl : m = 178 := by omega
                    exact s_178 he
                  · obtain rfl : m = 179 := by omega
                    exact s_179 he
              · by_cases h182 : m < 182
                · by_cases h181 : m < 181
                  · obtain rfl : m = 180 := by omega
                    exact s_180 he
                  · obtain rfl : m = 181 := by omega
                    exact s_181 he
                · by_cases h183 : m < 183
                  · obtain rfl : m = 182 := by omega
                    exact s_182 he
                  · obtain rfl : m = 183 := by omega
                    exact s_183 he
            · by_cases h188 : m < 188
              · by_cases h186 : m < 186
                · by_cases h185 : m < 185
                  · obtain rfl : m = 184 := by omega
                    exact s_184 he
                  · obtain rfl : m = 185 := by omega
                    exact s_185 he
                · by_cases h187 : m < 187
                  · obtain rfl : m = 186 := by omega
                    exact s_186 he
                  · obtain rfl : m = 187 := by omega
                    exact s_187 he
              · by_cases h190 : m < 190
                · by_cases h189 : m < 189
                  · obtain rfl : m = 188 := by omega
                    exact s_188 he
                  · obtain rfl : m = 189 := by omega
                    exact s_189 he
                · by_cases h191 : m < 191
                  · obtain rfl : m = 190 := by omega
                    exact s_190 he
                  · obtain rfl : m = 191 := by omega
                    exact s_191 he
      · by_cases h224 : m < 224
        · by_cases h208 : m < 208
          · by_cases h200 : m < 200
            · by_cases h196 : m < 196
              · by_cases h194 : m < 194
                · by_cases h193 : m < 193
                  · obtain rfl : m = 192 := by omega
                    exact s_192 he
                  · obtain rfl : m = 193 := by omega
                    exact s_193 he
                · by_cases h195 : m < 195
                  · obtain rfl : m = 194 := by omega
                    exact s_194 he
                  · obtain rfl : m = 195 := by omega
                    exact s_195 he
              · by_cases h198 : m < 198
                · by_cases h197 : m < 197
                  · obtain rfl : m = 196 := by omega
                    exact s_196 he
                  · obtain rfl : m = 197 := by omega
                    exact s_197 he
                · by_cases h199 : m < 199
                  · obtain rfl : m = 198 := by omega
                    exact s_198 he
                  · obtain rfl : m = 199 := by omega
                    exact s_199 he
            · by_cases h204 : m < 204
              · by_cases h202 : m < 202
                · by_cases h201 : m < 201
                  · obtain rfl : m = 200 := by omega
                    exact s_200 he
                  · obtain rfl : m = 201 := by omega
                    exact s_201 he
                · by_cases h203 : m < 203
                  · obtain rfl : m = 202 := by omega
                    exact s_202 he
                  · obtain rfl : m = 203 := by omega
                    exact s_203 he
              · by_cases h206 : m < 206
                · by_cases h205 : m < 205
                  · obtain rfl : m = 204 := by omega
                    exact s_204 he
                  · obtain rfl : m = 205 := by omega
                    exact s_205 he
                · by_cases h207 : m < 207
                  · obtain rfl : m = 206 := by omega
                    exact s_206 he
                  · obtain rfl : m = 207 := by omega
                    exact s_207 he
          · by_cases h216 : m < 216
            · by_cases h212 : m < 212
              · by_cases h210 : m < 210
                · by_cases h209 : m < 209
                  · obtain rfl : m = 208 := by omega
                    exact s_208 he
                  · obtain rfl : m = 209 := by omega
                    exact s_209 he
                · by_cases h211 : m < 211
                  · obtain rfl : m = 210 := by omega
                    exact s_210 he
                  · obtain rfl : m = 211 := by omega
                    exact s_211 he
              · by_cases h214 : m < 214
                · by_cases h213 : m < 213
                  · obtain rfl : m = 212 := by omega
                    exact s_212 he
                  · obtain rfl : m = 213 := by omega
                    exact s_213 he
                · by_cases h215 : m < 215
                  · obtain rfl : m = 214 := by omega
                    exact s_214 he
                  · obtain rfl : m = 215 := by omega
                    exact s_215 he
            · by_cases h220 : m < 220
              · by_cases h218 : m < 218
                · by_cases h217 : m < 217
                  · obtain rfl : m = 216 := by omega
                    exact s_216 he
                  · obtain rfl : m = 217 := by omega
                    exact s_217 he
                · by_cases h219 : m < 219
                  · obtain rfl : m = 218 := by omega
                    exact s_218 he
                  · obtain rfl : m = 219 := by omega
                    exact s_219 he
              · by_cases h222 : m < 222
                · by_cases h221 : m < 221
                  · obtain rfl : m = 220 := by omega
                    exact s_220 he
                  · obtain rfl : m = 221 := by omega
                    exact s_221 he
                · by_cases h223 : m < 223
                  · obtain rfl : m = 222 := by omega
                    exact s_222 he
                  · obtain rfl : m = 223 := by omega
                    exact s_223 he
        · by_cases h240 : m < 240
          · by_cases h232 : m < 232
            · by_cases h228 : m < 228
              · by_cases h226 : m < 226
                · by_cases h225 : m < 225
                  · obtain rfl : m = 224 := by omega
                    exact s_224 he
                  · obtain rfl : m = 225 := by omega
                    exact s_225 he
                · by_cases h227 : m < 227
                  · obtain rfl : m = 226 := by omega
                    exact s_226 he
                  · obtain rfl : m = 227 := by omega
                    exact s_227 he
              · by_cases h230 : m < 230
                · by_cases h229 : m < 229
                  · obtain rfl : m = 228 := by omega
                    exact s_228 he
                  · obtain rfl : m = 229 := by omega
                    exact s_229 he
                · by_cases h231 : m < 231
                  · obtain rfl : m = 230 := by omega
                    exact s_230 he
                  · obtain rfl : m = 231 := by omega
                    exact s_231 he
            · by_cases h236 : m < 236
              · by_cases h234 : m < 234
                · by_cases h233 : m < 233
                  · obtain rfl : m = 232 := by omega
                    exact s_232 he
                  · obtain rfl : m = 233 := by omega
                    exact s_233 he
                · by_cases h235 : m < 235
                  · obtain rfl : m = 234 := by omega
                    exact s_234 he
                  · obtain rfl : m = 235 := by omega
                    exact s_235 he
              · by_cases h238 : m < 238
                · by_cases h237 : m < 237
                  · obtain rfl : m = 236 := by omega
                    exact s_236 he
                  · obtain rfl : m = 237 := by omega
                    exact s_237 he
                · by_cases h239 : m < 239
                  · obtain rfl : m = 238 := by omega
                    exact s_238 he
                  · obtain rfl : m = 239 := by omega
                    exact s_239 he
          · by_cases h248 : m < 248
            · by_cases h244 : m < 244
              · by_cases h242 : m < 242
                · by_cases h241 : m < 241
                  · obtain rfl : m = 240 := by omega
                    exact s_240 he
                  · obtain rfl : m = 241 := by omega
                    exact s_241 he
                · by_cases h243 : m < 243
                  · obtain rfl : m = 242 := by omega
                    exact s_242 he
                  · obtain rfl : m = 243 := by omega
                    exact s_243 he
              · by_cases h246 : m < 246
                · by_cases h245 : m < 245
                  · obtain rfl : m = 244 := by omega
                    exact s_244 he
                  · obtain rfl : m = 245 := by omega
                    exact s_245 he
                · by_cases h247 : m < 247
                  · obtain rfl : m = 246 := by omega
                    exact s_246 he
                  · obtain rfl : m = 247 := by omega
                    exact s_247 he
            · by_cases h252 : m < 252
              · by_cases h250 : m < 250
                · by_cases h249 : m < 249
                  · obtain rfl : m = 248 := by omega
                    exact s_248 he
                  · obtain rfl : m = 249 := by omega
                    exact s_249 he
                · by_cases h251 : m < 251
                  · obtain rfl : m = 250 := by omega
                    exact s_250 he
                  · obtain rfl : m = 251 := by omega
                    exact s_251 he
              · by_cases h254 : m < 254
                · by_cases h253 : m < 253
                  · obtain rfl : m = 252 := by omega
                    exact s_252 he
                  · obtain rfl : m = 253 := by omega
                    exact s_253 he
                · by_cases h255 : m < 255
                  · obtain rfl : m = 254 := by omega
                    exact s_254 he
                  · by_cases h256 : m < 256
                    · obtain rfl : m = 255 := by omega
                      exact s_255 he
                    · obtain rfl : m = 256 := by omega
                      exact s_256 he
