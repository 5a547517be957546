/-! runs of the reader, piece by piece -/
theorem exec_succ {L : Nat} {xs : Nat → Int32} : ∀ {n d q pc : Nat} {lv : Lv} {st : List Value} {hp : Hp} {r : Rs}, exec L xs n d q pc lv st hp = some r → exec L xs (n + 1) d q pc lv st hp = some r := by
  intro n
  induction n with
  | zero => intro d q pc lv st hp r h; cases h
  | succ n ih =>
    intro d q pc lv st hp r h
    have h : nxt L xs (exec L xs n) d q pc lv st hp = some r := h
    show nxt L xs (exec L xs (n + 1)) d q pc lv st hp = some r
    unfold nxt at h ⊢
    cases he : fetch_ q pc with
    | none => rw [he] at h; cases h
    | some en =>
      rw [he] at h
      dsimp only at h ⊢
      cases k0 : Nat.beq (kindI en.1 en.2.2.1) 0 with
      | true =>
        rw [k0] at h
        simp only [cond_true] at h ⊢
        cases hs : stp L xs d (mL q) pc en lv st hp with
        | none => rw [hs] at h; cases h
        | some cf =>
          rw [hs] at h
          exact ih h
      | false =>
        rw [k0] at h
        simp only [cond_false] at h ⊢
        cases k1 : Nat.beq (kindI en.1 en.2.2.1) 1 with
        | true =>
          rw [k1] at h
          simp only [cond_true] at h ⊢
          cases d with
          | zero => cases h
          | succ d =>
            dsimp only at h ⊢
            revert h
            generalize (Nat.blt 0 en.2.2.1 && Nat.blt en.2.2.1 mCnt && Nat.ble (mTk en.2.2.1) st.length && Nat.ble (catS (st.drop (mTk en.2.2.1))) 8 && rcvOK hp (bif mI en.2.2.1 then 1 else en.2.2.2.2.1) (mC en.2.2.1) (st.take (mTk en.2.2.1)).reverse && Nat.ble (lg_sl (st.take (mTk en.2.2.1)).reverse).length (mL en.2.2.1)) = bb
            intro h
            cases bb with
            | false => cases h
            | true =>
              simp only [cond_true] at h ⊢
              cases hs : exec L xs n d en.2.2.1 0 (lv_args 0 (st.take (mTk en.2.2.1)).reverse) [] hp with
              | none => rw [hs] at h; cases h
              | some x =>
                rw [hs] at h
                rw [ih hs]
                exact ih h
        | false =>
          rw [k1] at h
          simp only [cond_false] at h ⊢
          exact h
theorem exec_mono {L : Nat} {xs : Nat → Int32} {n k d q pc : Nat} {lv : Lv} {st : List Value} {hp : Hp} {r : Rs} (h : exec L xs n d q pc lv st hp = some r) : exec L xs (n + k) d q pc lv st hp = some r := by
  induction k with
  | zero => exact h
  | succ k ih => exact exec_succ ih
/-- from here on the run ends, with an answer and cells of which Q holds -/
def Ev (L : Nat) (xs : Nat → Int32) (d q pc : Nat) (lv : Lv) (st : List Value) (h : Hp) (Q : Option Value → Hp → Prop) : Prop := ∃ (n : Nat) (r : Rs), exec L xs n d q pc lv st h = some r ∧ Q r.1 r.2
noncomputable def stN (L : Nat) (xs : Nat → Int32) (d q : Nat) : Nat → Nat → Lv → List Value → Hp → Option (Nat × Lv × List Value × Hp)
  | 0, pc, lv, st, h => some (pc, lv, st, h)
  | k + 1, pc, lv, st, h => match fetch_ q pc with
    | none => none
    | some e => bif Nat.beq (kindI e.1 e.2.2.1) 0 then (match stp L xs d (mL q) pc e lv st h with
        | some c => stN L xs d q k c.1 c.2.1 c.2.2.1 c.2.2.2
        | none => none) else none
section EV
variable {L : Nat} {xs : Nat → Int32} {d q pc : Nat} {lv : Lv} {st : List Value} {h : Hp} {Q : Option Value → Hp → Prop}
theorem Ev.run (k : Nat) {pc' : Nat} {lv' : Lv} {st' : List Value} {h' : Hp} (hs : stN L xs d q k pc lv st h = some (pc', lv', st', h')) (kk : Ev L xs d q pc' lv' st' h' Q) : Ev L xs d q pc lv st h Q := by
  induction k generalizing pc lv st h with
  | zero => cases hs; exact kk
  | succ k ih =>
    unfold stN at hs
    split at hs
    · cases hs
    · rename_i e he
      cases k0 : Nat.beq (kindI e.1 e.2.2.1) 0 with
      | false => rw [k0] at hs; cases hs
      | true =>
        rw [k0] at hs
        simp only [cond_true] at hs
        split at hs
        · rename_i c hc
          obtain ⟨n, r, h1, h2⟩ := ih hs
          refine ⟨n + 1, r, ?_, h2⟩
          unfold exec nxt
          rw [he]
          simp only [k0, cond_true, hc]
          exact h1
        · cases hs
/-- a call: which method, its values, what stays on the stack -/
noncomputable def clI (q pc : Nat) (st : List Value) (h : Hp) : Option (Nat × List Value × List Value) := match fetch_ q pc with
  | none => none
  | some e => bif Nat.beq (kindI e.1 e.2.2.1) 1 && (Nat.blt 0 e.2.2.1 && Nat.blt e.2.2.1 mCnt && Nat.ble (mTk e.2.2.1) st.length && Nat.ble (catS (st.drop (mTk e.2.2.1))) 8 && rcvOK h (bif mI e.2.2.1 then 1 else e.2.2.2.2.1) (mC e.2.2.1) (st.take (mTk e.2.2.1)).reverse && Nat.ble (lg_sl (st.take (mTk e.2.2.1)).reverse).length (mL e.2.2.1))
    then some (e.2.2.1, (st.take (mTk e.2.2.1)).reverse, st.drop (mTk e.2.2.1)) else none
theorem Ev.call {a : Nat} {as rest : List Value} {lv0 : Lv} {Q1 : Option Value → Hp → Prop} (hc : clI q pc st h = some (a, as, rest)) (hl : lv_args 0 as = lv0) (h1 : Ev L xs d a 0 lv0 [] h Q1) (kk : ∀ r h', Q1 r h' → Ev L xs (d + 1) q (pc + 3) lv (r.toList ++ rest) h' Q) : Ev L xs (d + 1) q pc lv st h Q := by
  subst hl
  obtain ⟨n1, r1, e1, q1⟩ := h1
  obtain ⟨n2, r2, e2, q2⟩ := kk _ _ q1
  refine ⟨n1 + n2 + 1, r2, ?_, q2⟩
  unfold clI at hc
  split at hc
  · cases hc
  · rename_i e he
    obtain ⟨g, hc⟩ := cnd_some hc
    rw [Bool.and_eq_true] at g
    have hk1 := beq_e g.1
    cases hc
    unfold exec nxt
    rw [he]
    have k0 : Nat.beq (kindI e.1 e.2.2.1) 0 = false := by rw [hk1]; rfl
    simp only [k0, cond_false, g.1, cond_true, g.2]
    rw [exec_mono e1]
    dsimp only
    rw [show n1 + n2 = n2 + n1 by omega]
    exact exec_mono e2
noncomputable def retI (q pc : Nat) (st : List Value) : Option (Option Value) := match fetch_ q pc with
  | none => none
  | some e => bif Nat.ble 2 (kindI e.1 e.2.2.1) then retO (kindI e.1 e.2.2.1) e.2.2.2.2.1 st else none
theorem Ev.ret {v : Option Value} (hr : retI q pc st = some v) (hq : Q v h) : Ev L xs d q pc lv st h Q := by
  refine ⟨1, (v, h), ?_, hq⟩
  unfold retI at hr
  split at hr
  · cases hr
  · rename_i e he
    cases g : Nat.ble 2 (kindI e.1 e.2.2.1) with
    | false => rw [g] at hr; cases hr
    | true =>
      rw [g] at hr
      simp only [cond_true] at hr
      have g2 := ble_e g
      unfold exec nxt
      rw [he]
      have k0 : Nat.beq (kindI e.1 e.2.2.1) 0 = false := beq_f (by omega)
      have k1 : Nat.beq (kindI e.1 e.2.2.1) 1 = false := beq_f (by omega)
      simp only [k0, k1, cond_false, hr]
theorem Ev.post {Q2 : Option Value → Hp → Prop} (h1 : Ev L xs d q pc lv st h Q2) (hq : ∀ r h', Q2 r h' → Q r h') : Ev L xs d q pc lv st h Q := by
  obtain ⟨n, r, e, q1⟩ := h1
  exact ⟨n, r, e, hq _ _ q1⟩
theorem Ev.ite {c : Prop} {_ : Decidable c} {a b : Nat} (ht : c → Ev L xs d q a lv st h Q) (hf : ¬ c → Ev L xs d q b lv st h Q) : Ev L xs d q (if c then a else b) lv st h Q := by
  by_cases hc : c
  · rw [if_pos hc]; exact ht hc
  · rw [if_neg hc]; exact hf hc
theorem Ev.topI {x y : Int32} (hxy : x = y) (kk : Ev L xs d q pc lv (.int y :: st) h Q) : Ev L xs d q pc lv (.int x :: st) h Q := by rw [hxy]; exact kk
theorem Ev.topL {x y : Int64} (hxy : x = y) (kk : Ev L xs d q pc lv (.long y :: st) h Q) : Ev L xs d q pc lv (.long x :: st) h Q := by rw [hxy]; exact kk
theorem Ev.hp {h' : Hp} (hh : h = h') (kk : Ev L xs d q pc lv st h' Q) : Ev L xs d q pc lv st h Q := by rw [hh]; exact kk
theorem Ev.lvE {lv' : Lv} (hh : lv = lv') (kk : Ev L xs d q pc lv' st h Q) : Ev L xs d q pc lv st h Q := by rw [hh]; exact kk
theorem Ev.stE {st' : List Value} (hh : st = st') (kk : Ev L xs d q pc lv st' h Q) : Ev L xs d q pc lv st h Q := by rw [hh]; exact kk
/-- one instruction that the stack's values decide -/
theorem Ev.one {e : Ent} {c : Nat × Lv × List Value × Hp} (he : fetch_ q pc = some e) (hk : Nat.beq (kindI e.1 e.2.2.1) 0 = true) (hs : stp L xs d (mL q) pc e lv st h = some c) (kk : Ev L xs d q c.1 c.2.1 c.2.2.1 c.2.2.2 Q) : Ev L xs d q pc lv st h Q := by
  obtain ⟨n, r, h1, h2⟩ := kk
  refine ⟨n + 1, r, ?_, h2⟩
  unfold exec nxt
  rw [he]
  simp only [hk, cond_true, hs]
  exact h1
end EV
theorem inb_nI {n N : Nat} (h : n < N) (hN : N < 2 ^ 31) : inb (nI n) N = true := inb_iff.mpr (vp_in_nI h hN)
theorem cl_nI {n : Nat} (h : n < 2 ^ 31) : (nI n).toNatClampNeg = n := nI_clamp h
/-- all ints as numbers below 2^32 -/
noncomputable def HN (g : Nat → Nat → Nat) (hl : Nat → Nat → Int64) (rf : Nat → Nat → Option Nat) : Hp := (210, fun k j => nI (g k j), hl, rf)
theorem HN_set (g : Nat → Nat → Nat) (hl : Nat → Nat → Int64) (rf : Nat → Nat → Option Nat) (k j x : Nat) : setI (HN g hl rf) k j (nI x) = HN (u2 g k j x) hl rf := by
  unfold setI HN
  refine congrArg (fun z => ((210 : Nat), z, hl, rf)) (funext fun a => funext fun b => ?_)
  show u2 (fun k j => nI (g k j)) k j (nI x) a b = nI (u2 g k j x a b)
  unfold u2
  split
  · split <;> rfl
  · rfl
section EA
variable {L : Nat} {xs : Nat → Int32} {d q pc : Nat} {lv : Lv} {st : List Value} {h : Hp} {Q : Option Value → Hp → Prop} {g : Nat → Nat → Nat} {hl : Nat → Nat → Int64} {rf : Nat → Nat → Option Nat}
theorem stp_iald {nL a b t p : Nat} : stp L xs d nL pc (.iaload, 1, a, b, t, p) lv st h = (iald L xs st h).map (fun r => (pc + 1, lv, r, h)) := by
  show (match (iald L xs st h).map (fun r => (r, h)) with | some c => some (pc + 1, lv, c.1, c.2) | none => none) = _
  cases iald L xs st h <;> rfl
theorem stp_bald {nL a b t p : Nat} : stp L xs d nL pc (.baload, 1, a, b, t, p) lv st h = (bald xs st h).map (fun r => (pc + 1, lv, r, h)) := by
  show (match (bald xs st h).map (fun r => (r, h)) with | some c => some (pc + 1, lv, c.1, c.2) | none => none) = _
  cases bald xs st h <;> rfl
theorem stp_lald {nL a b t p : Nat} : stp L xs d nL pc (.laload, 1, a, b, t, p) lv st h = (lald st h).map (fun r => (pc + 1, lv, r, h)) := by
  show (match (lald st h).map (fun r => (r, h)) with | some c => some (pc + 1, lv, c.1, c.2) | none => none) = _
  cases lald st h <;> rfl
theorem stp_aald {nL a b t p : Nat} : stp L xs d nL pc (.aaload, 1, a, b, t, p) lv st h = (aald st h).map (fun r => (pc + 1, lv, r, h)) := by
  show (match (aald st h).map (fun r => (r, h)) with | some c => some (pc + 1, lv, c.1, c.2) | none => none) = _
  cases aald st h <;> rfl
theorem stp_iast {nL a b t p : Nat} : stp L xs d nL pc (.iastore, 1, a, b, t, p) lv st h = (iast st h).map (fun r => (pc + 1, lv, r.1, r.2)) := by
  show (match iast st h with | some c => some (pc + 1, lv, c.1, c.2) | none => none) = _
  cases iast st h <;> rfl
theorem stp_bast {nL a b t p : Nat} : stp L xs d nL pc (.bastore, 1, a, b, t, p) lv st h = (bast st h).map (fun r => (pc + 1, lv, r.1, r.2)) := by
  show (match bast st h with | some c => some (pc + 1, lv, c.1, c.2) | none => none) = _
  cases bast st h <;> rfl
theorem stp_last {nL a b t p : Nat} : stp L xs d nL pc (.lastore, 1, a, b, t, p) lv st h = (last_ st h).map (fun r => (pc + 1, lv, r.1, r.2)) := by
  show (match last_ st h with | some c => some (pc + 1, lv, c.1, c.2) | none => none) = _
  cases last_ st h <;> rfl
theorem stp_B {nL a b t p : Nat} {i : Instr} {s' : List Value} (hA : stA nL i lv st = none) (hB : stB i st = some s') : stp L xs d nL pc (i, 1, a, b, t, p) lv st h = some (pc + 1, lv, s', h) := by
  unfold stp
  dsimp only
  rw [hA, hB]
/-- the instruction at a place, with its length -/
noncomputable def atI (q pc : Nat) : Option (Instr × Nat) := (fetch_ q pc).map (fun e => (e.1, e.2.1))
theorem Ev.at1 {i : Instr} {n : Nat} {c : Nat × Lv × List Value × Hp} (he : atI q pc = some (i, n)) (hk : ∀ a : Nat, Nat.beq (kindI i a) 0 = true) (hs : ∀ a b t p : Nat, stp L xs d (mL q) pc (i, n, a, b, t, p) lv st h = some c) (kk : Ev L xs d q c.1 c.2.1 c.2.2.1 c.2.2.2 Q) : Ev L xs d q pc lv st h Q := by
  unfold atI at he
  cases hf : fetch_ q pc with
  | none => rw [hf] at he; cases he
  | some e =>
    rw [hf] at he
    obtain ⟨i', n', a, b, t, p⟩ := e
    cases he
    exact Ev.one hf (hk a) (hs a b t p) kk
theorem Ev_iald {k n : Nat} (he : atI q pc = some (.iaload, 1)) (hk : isK (HN g hl rf) k 11 = true) (hn : n < (SH k).2) (hN : (SH k).2 < 2 ^ 31) (kk : Ev L xs d q (pc + 1) lv (.int (nI (g k n)) :: st) (HN g hl rf) Q) : Ev L xs d q pc lv (.int (nI n) :: .ref k :: st) (HN g hl rf) Q := by
  refine Ev.at1 he (fun _ => rfl) (c := (pc + 1, lv, .int (nI (g k n)) :: st, HN g hl rf)) (fun a b t p => ?_) kk
  rw [stp_iald]
  unfold iald
  dsimp only
  rw [hk, inb_nI hn hN, cl_nI (by omega)]
  rfl
theorem Ev_xald {k n : Nat} (he : atI q pc = some (.iaload, 1)) (hk : k < 3) (hn : n < xLen L k) (hN : xLen L k < 2 ^ 31) (kk : Ev L xs d q (pc + 1) lv (.int (xVal xs k n) :: st) h Q) : Ev L xs d q pc lv (.int (nI n) :: .retAddr k :: st) h Q := by
  refine Ev.at1 he (fun _ => rfl) (c := (pc + 1, lv, .int (xVal xs k n) :: st, h)) (fun a b t p => ?_) kk
  rw [stp_iald]
  unfold iald
  dsimp only
  rw [blt_t hk, inb_nI hn hN, cl_nI (by omega)]
  rfl
theorem Ev_bald {k n : Nat} (he : atI q pc = some (.baload, 1)) (hk : isK (HN g hl rf) k 13 = true) (hn : n < (SH k).2) (hN : (SH k).2 < 2 ^ 31) (kk : Ev L xs d q (pc + 1) lv (.int (nI (g k n)) :: st) (HN g hl rf) Q) : Ev L xs d q pc lv (.int (nI n) :: .ref k :: st) (HN g hl rf) Q := by
  refine Ev.at1 he (fun _ => rfl) (c := (pc + 1, lv, .int (nI (g k n)) :: st, HN g hl rf)) (fun a b t p => ?_) kk
  rw [stp_bald]
  unfold bald
  dsimp only
  rw [hk, inb_nI hn hN, cl_nI (by omega)]
  rfl
theorem Ev_lald {k n : Nat} (he : atI q pc = some (.laload, 1)) (hk : isK (HN g hl rf) k 12 = true) (hn : n < (SH k).2) (hN : (SH k).2 < 2 ^ 31) (kk : Ev L xs d q (pc + 1) lv (.long (hl k n) :: st) (HN g hl rf) Q) : Ev L xs d q pc lv (.int (nI n) :: .ref k :: st) (HN g hl rf) Q := by
  refine Ev.at1 he (fun _ => rfl) (c := (pc + 1, lv, .long (hl k n) :: st, HN g hl rf)) (fun a b t p => ?_) kk
  rw [stp_lald]
  unfold lald
  dsimp only
  rw [hk, inb_nI hn hN, cl_nI (by omega)]
  rfl
theorem Ev_aald {k n c : Nat} (he : atI q pc = some (.aaload, 1)) (hk : k < 210) (hc : (Nat.ble 14 (SH k).1 && Nat.blt (SH k).1 18) = true) (hn : n < (SH k).2) (hN : (SH k).2 < 2 ^ 31) (hr : rf k n = some c) (kk : Ev L xs d q (pc + 1) lv (.ref c :: st) (HN g hl rf) Q) : Ev L xs d q pc lv (.int (nI n) :: .ref k :: st) (HN g hl rf) Q := by
  rw [Bool.and_eq_true] at hc
  refine Ev.at1 he (fun _ => rfl) (c := (pc + 1, lv, .ref c :: st, HN g hl rf)) (fun a b t p => ?_) kk
  rw [stp_aald]
  unfold aald
  dsimp only
  have e1 : Nat.blt k (HN g hl rf).1 = true := blt_t hk
  have e2 : (HN g hl rf).2.2.2 k n = some c := hr
  rw [e1, hc.1, hc.2, inb_nI hn hN, cl_nI (by omega), e2]
  rfl
theorem Ev_iast {k n x : Nat} (he : atI q pc = some (.iastore, 1)) (hk : isK (HN g hl rf) k 11 = true) (hn : n < (SH k).2) (hN : (SH k).2 < 2 ^ 31) (kk : Ev L xs d q (pc + 1) lv st (HN (u2 g k n x) hl rf) Q) : Ev L xs d q pc lv (.int (nI x) :: .int (nI n) :: .ref k :: st) (HN g hl rf) Q := by
  refine Ev.at1 he (fun _ => rfl) (c := (pc + 1, lv, st, HN (u2 g k n x) hl rf)) (fun a b t p => ?_) kk
  rw [stp_iast]
  unfold iast
  dsimp only
  rw [hk, inb_nI hn hN, cl_nI (by omega), HN_set]
  rfl
theorem vp_b01 {x : Nat} (h : x < 2) : vp_nar .boolean (nI x) = nI x := by
  rcases (show x = 0 ∨ x = 1 by omega) with rfl | rfl <;> decide +kernel
theorem Ev_bast {k n x : Nat} (he : atI q pc = some (.bastore, 1)) (hk : isK (HN g hl rf) k 13 = true) (hn : n < (SH k).2) (hN : (SH k).2 < 2 ^ 31) (hx : x < 2) (kk : Ev L xs d q (pc + 1) lv st (HN (u2 g k n x) hl rf) Q) : Ev L xs d q pc lv (.int (nI x) :: .int (nI n) :: .ref k :: st) (HN g hl rf) Q := by
  refine Ev.at1 he (fun _ => rfl) (c := (pc + 1, lv, st, HN (u2 g k n x) hl rf)) (fun a b t p => ?_) kk
  rw [stp_bast]
  unfold bast
  dsimp only
  rw [hk, inb_nI hn hN, cl_nI (by omega), vp_b01 hx, HN_set]
  rfl
theorem Ev_last {k n : Nat} {x : Int64} (he : atI q pc = some (.lastore, 1)) (hk : isK (HN g hl rf) k 12 = true) (hn : n < (SH k).2) (hN : (SH k).2 < 2 ^ 31) (kk : Ev L xs d q (pc + 1) lv st (HN g (u2 hl k n x) rf) Q) : Ev L xs d q pc lv (.long x :: .int (nI n) :: .ref k :: st) (HN g hl rf) Q := by
  refine Ev.at1 he (fun _ => rfl) (c := (pc + 1, lv, st, HN g (u2 hl k n x) rf)) (fun a b t p => ?_) kk
  rw [stp_last]
  unfold last_
  dsimp only
  rw [hk, inb_nI hn hN, cl_nI (by omega)]
  rfl
theorem Ev_irem {a b : Nat} (he : atI q pc = some (.irem, 1)) (ha : a < 2 ^ 31) (h0 : 0 < b) (hb : b < 2 ^ 31) (kk : Ev L xs d q (pc + 1) lv (.int (nI (a % b)) :: st) h Q) : Ev L xs d q pc lv (.int (nI b) :: .int (nI a) :: st) h Q := by
  refine Ev.at1 he (fun _ => rfl) (c := (pc + 1, lv, .int (nI (a % b)) :: st, h)) (fun _ _ _ _ => stp_B rfl ?_) kk
  show (if nI b = 0 then none else some (Value.int (nI a - nI a / nI b * nI b) :: st)) = _
  rw [if_neg (nI_ne0 h0 hb), pk_rem ha h0 hb]
theorem Ev_idiv {a b : Nat} (he : atI q pc = some (.idiv, 1)) (ha : a < 2 ^ 31) (h0 : 0 < b) (hb : b < 2 ^ 31) (kk : Ev L xs d q (pc + 1) lv (.int (nI (a / b)) :: st) h Q) : Ev L xs d q pc lv (.int (nI b) :: .int (nI a) :: st) h Q := by
  refine Ev.at1 he (fun _ => rfl) (c := (pc + 1, lv, .int (nI (a / b)) :: st, h)) (fun _ _ _ _ => stp_B rfl ?_) kk
  show (if nI b = 0 then none else some (Value.int (nI a / nI b) :: st)) = _
  rw [if_neg (nI_ne0 h0 hb), pk_div ha h0 hb]
end EA
