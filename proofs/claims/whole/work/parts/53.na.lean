/-! the class: cells by a variable -/
def KC (c cls n : Nat) : Prop := c < 210 ∧ SH c = (cls, n)
section KCs
variable {L : Nat} {xs : Nat → Int32} {d q pc : Nat} {lv : Lv} {st : List Value} {Q : Option Value → Hp → Prop} {g : Nat → Nat → Nat} {hl : Nat → Nat → Int64} {rf : Nat → Nat → Option Nat}
theorem KC.k {c cls n : Nat} (h : KC c cls n) : isK (HN g hl rf) c cls = true := by
  unfold isK
  have e : Nat.blt c (HN g hl rf).1 = true := blt_t h.1
  rw [e, h.2]
  exact beq_t rfl
theorem KC.n {c cls n : Nat} (h : KC c cls n) : (SH c).2 = n := by rw [h.2]
theorem Ev_gfI {i : Nat} {n a b t p k N : Nat} (he : fetch_ q pc = some (.getfield i, n, a, b, t, p)) (ha : Nat.blt a 11 = true) (ht : Nat.ble t 1 = true) (hk : KC k a N) (kk : Ev L xs d q (pc + n) lv (.int (nI (g k b)) :: st) (HN g hl rf) Q) : Ev L xs d q pc lv (.ref k :: st) (HN g hl rf) Q := by
  refine Ev.one he rfl (c := (pc + n, lv, .int (nI (g k b)) :: st, HN g hl rf)) ?_ kk
  show (match (getF a b t (.ref k :: st) (HN g hl rf)).map (fun r => (r, HN g hl rf)) with | some c => some (pc + n, lv, c.1, c.2) | none => none) = _
  unfold getF
  dsimp only
  rw [ha, hk.k]
  show some (pc + n, lv, gfv (HN g hl rf) t k b :: st, HN g hl rf) = _
  unfold gfv
  rw [ht]
  rfl
theorem Ev_gfR {i : Nat} {n a b t p k N c : Nat} (he : fetch_ q pc = some (.getfield i, n, a, b, t, p)) (ha : Nat.blt a 11 = true) (ht : Nat.ble t 1 = false) (hk : KC k a N) (hr : rf k b = some c) (kk : Ev L xs d q (pc + n) lv (.ref c :: st) (HN g hl rf) Q) : Ev L xs d q pc lv (.ref k :: st) (HN g hl rf) Q := by
  refine Ev.one he rfl (c := (pc + n, lv, .ref c :: st, HN g hl rf)) ?_ kk
  show (match (getF a b t (.ref k :: st) (HN g hl rf)).map (fun r => (r, HN g hl rf)) with | some c => some (pc + n, lv, c.1, c.2) | none => none) = _
  unfold getF
  dsimp only
  rw [ha, hk.k]
  show some (pc + n, lv, gfv (HN g hl rf) t k b :: st, HN g hl rf) = _
  unfold gfv
  rw [ht]
  have e : (HN g hl rf).2.2.2 k b = some c := hr
  rw [e]
  rfl
theorem Ev_pfI {i : Nat} {n a b p k N x : Nat} (he : fetch_ q pc = some (.putfield i, n, a, b, 0, p)) (hk : KC k a N) (kk : Ev L xs d q (pc + n) lv st (HN (u2 g k b x) hl rf) Q) : Ev L xs d q pc lv (.int (nI x) :: .ref k :: st) (HN g hl rf) Q := by
  refine Ev.one he rfl (c := (pc + n, lv, st, HN (u2 g k b x) hl rf)) ?_ kk
  show (match putF a b 0 (.int (nI x) :: .ref k :: st) (HN g hl rf) with | some c => some (pc + n, lv, c.1, c.2) | none => none) = _
  unfold putF
  dsimp only
  rw [hk.k, HN_set]
  rfl
theorem Ev_alen {n a b t p k cls N : Nat} (he : fetch_ q pc = some (.arraylength, n, a, b, t, p)) (hk : KC k cls N) (hc : (Nat.ble 11 cls && Nat.blt cls 18) = true) (kk : Ev L xs d q (pc + n) lv (.int (nI N) :: st) (HN g hl rf) Q) : Ev L xs d q pc lv (.ref k :: st) (HN g hl rf) Q := by
  refine Ev.one he rfl (c := (pc + n, lv, .int (nI N) :: st, HN g hl rf)) ?_ kk
  show (match (alen L (.ref k :: st) (HN g hl rf)).map (fun r => (r, HN g hl rf)) with | some c => some (pc + n, lv, c.1, c.2) | none => none) = _
  unfold alen
  dsimp only
  have e : Nat.blt k (HN g hl rf).1 = true := blt_t hk.1
  rw [Bool.and_eq_true] at hc
  rw [e, hk.2, hc.1, hc.2]
  rfl
/-- a call whose receiver is a cell by a variable -/
theorem Ev_callV {h : Hp} {e : Ent} {a : Nat} {as rest : List Value} {lv0 : Lv} {Q1 : Option Value → Hp → Prop} (he : fetch_ q pc = some e) (ea : e.2.2.1 = a) (hk : Nat.beq (kindI e.1 a) 1 = true) (hA : (Nat.blt 0 a && Nat.blt a mCnt && Nat.ble (mTk a) st.length && Nat.ble (catS (st.drop (mTk a))) 8) = true) (hS : Nat.ble (lg_sl (st.take (mTk a)).reverse).length (mL a) = true) (hr : rcvOK h (bif mI a then 1 else e.2.2.2.2.1) (mC a) as = true) (has : (st.take (mTk a)).reverse = as) (hrest : st.drop (mTk a) = rest) (hl : lv_args 0 as = lv0) (h1 : Ev L xs d a 0 lv0 [] h Q1) (kk : ∀ r h', Q1 r h' → Ev L xs (d + 1) q (pc + 3) lv (r.toList ++ rest) h' Q) : Ev L xs (d + 1) q pc lv st h Q := by
  subst ea
  refine Ev.call (a := e.2.2.1) (as := as) (rest := rest) (lv0 := lv0) ?_ hl h1 kk
  unfold clI
  rw [he]
  dsimp only
  rw [hk, hA, has, hr, hrest, ← has, hS]
  rfl
end KCs
/-- a Line: its items lie in the next cell -/
def LnC (rt : Nat × Nat × Nat × Nat) (c N : Nat) : Prop := KC c 3 2 ∧ KC (c + 1) 11 N ∧ RF rt c 0 = some (c + 1) ∧ N ≤ 100
