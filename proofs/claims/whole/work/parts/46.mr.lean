/-! the reference: numbers, words and tests of a table -/
theorem exS_drop {g : Nat → Nat → Nat} {ws : List Nat} {k q : Nat} (hk : k < ws.length) : exS g (ws.drop k ++ [32]) q = if pkS g q = ws.getD k 0 then exS g (ws.drop (k + 1) ++ [32]) (q + 1) else (false, q) := by
  have e : ws.getD k 0 = ws[k] := by rw [List.getD_eq_getElem?_getD, List.getElem?_eq_getElem hk]; rfl
  rw [List.drop_eq_getElem_cons hk, e]
  rfl
def opn : List Nat → Nat
  | [] => 0
  | x :: t => (if x = 33 ∨ x = 40 then 1 else 0) + opn t
def whW : List Nat → List Nat
  | [] => []
  | x :: t => if x = 33 then whW t else x :: t
def whL : List Nat → List Nat
  | [] => []
  | x :: t => if x = 33 then 4294967263 :: whL t else []
def stW (s : Nat) : List Nat → List Nat
  | [] => []
  | x :: t => if x = 38 ∨ (x = 124 ∧ ¬ s = 38) then stW s t else x :: t
def stL (s : Nat) : List Nat → List Nat
  | [] => []
  | x :: t => if x = 38 ∨ (x = 124 ∧ ¬ s = 38) then (4294967296 - x) :: stL s t else []
/-- what waits stands in w, the latest last -/
def WR (w : Nat → Nat) (W : List Nat) : Prop := (∀ k, k < W.length → w k = W.getD (W.length - 1 - k) 0) ∧ ∀ x ∈ W, x ≤ 127
theorem WR.tl {w : Nat → Nat} {x : Nat} {t : List Nat} (h : WR w (x :: t)) : WR w t := ⟨fun k hk => by
  rw [h.1 k (by show k < t.length + 1; omega), show (x :: t).length - 1 - k = (t.length - 1 - k) + 1 by show t.length + 1 - 1 - k = _; omega]
  rfl, fun y hy => h.2 y (List.mem_cons_of_mem _ hy)⟩
theorem WR.top {w : Nat → Nat} {x : Nat} {t : List Nat} (h : WR w (x :: t)) : w t.length = x ∧ x ≤ 127 := ⟨by
  rw [h.1 t.length (Nat.lt_succ_self _), show (x :: t).length - 1 - t.length = 0 by show t.length + 1 - 1 - t.length = 0; omega]
  rfl, h.2 x List.mem_cons_self⟩
theorem WR.push {w : Nat → Nat} {W : List Nat} {x : Nat} (h : WR w W) (hx : x ≤ 127) : WR (up w W.length x) (x :: W) := ⟨fun k hk => by
  have hk : k < W.length + 1 := hk
  unfold up
  by_cases e : k = W.length
  · rw [if_pos e, e, show (x :: W).length - 1 - W.length = 0 by show W.length + 1 - 1 - W.length = 0; omega]; rfl
  · rw [if_neg e, h.1 k (by omega), show (x :: W).length - 1 - k = (W.length - 1 - k) + 1 by show W.length + 1 - 1 - k = _; omega]
    rfl, fun y hy => by
  rw [List.mem_cons] at hy
  rcases hy with hy | hy
  · rw [hy]; exact hx
  · exact h.2 y hy⟩
theorem WR.wh {w : Nat → Nat} : ∀ {W : List Nat}, WR w W → WR w (whW W) := by
  intro W
  induction W with
  | nil => intro h; exact h
  | cons x t ih =>
    intro h
    unfold whW
    split
    · exact ih h.tl
    · exact h
theorem WR.st {w : Nat → Nat} {s : Nat} : ∀ {W : List Nat}, WR w W → WR w (stW s W) := by
  intro W
  induction W with
  | nil => intro h; exact h
  | cons x t ih =>
    intro h
    unfold stW
    split
    · exact ih h.tl
    · exact h
theorem opn_le : ∀ W : List Nat, opn W ≤ W.length := by
  intro W
  induction W with
  | nil => exact Nat.le_refl _
  | cons x t ih =>
    show (if x = 33 ∨ x = 40 then 1 else 0) + opn t ≤ t.length + 1
    split <;> omega
theorem wh_len (W : List Nat) : (whL W).length + (whW W).length = W.length := by
  induction W with
  | nil => rfl
  | cons x t ih =>
    unfold whL whW
    split
    · show (whL t).length + 1 + _ = t.length + 1; omega
    · exact Nat.zero_add _
theorem st_len (s : Nat) (W : List Nat) : (stL s W).length + (stW s W).length = W.length := by
  induction W with
  | nil => rfl
  | cons x t ih =>
    unfold stL stW
    split
    · show (stL s t).length + 1 + _ = t.length + 1; omega
    · exact Nat.zero_add _
theorem opn_33 (t : List Nat) : opn (33 :: t) = opn t + 1 := by
  show (if _ then _ else _) + opn t = _
  rw [if_pos (Or.inl rfl)]; omega
theorem opn_op {x : Nat} (t : List Nat) (h : x = 38 ∨ x = 124) : opn (x :: t) = opn t := by
  show (if _ then _ else _) + opn t = _
  rw [if_neg (by omega)]; omega
theorem C_takesNumber {L : Nat} {xs : Nat → Int32} (d : Nat) (g : Nat → Nat → Nat) (hl : Nat → Nat → Int64) (rt : Nat × Nat × Nat × Nat) (hF : g 166 17 ≤ 100) (ht : ∀ j, j < 100 → g 176 j ≤ 127) (p dg b : Nat) (l : List Nat) (w : Nat → Nat) (n op : Nat) (hp : p ≤ 500) {Q : Po} (hq : (∀ dd q, nuS g p = (true, dd, q) → Q (some (.int (nI 1))) (HN (PT g q dd b l w n op) hl (RF rt))) ∧ (nuS g p = (false, 0, p) → Q (some (.int (nI 0))) (HN (PT g p dg b l w n op) hl (RF rt)))) : Ev L xs (d + 2) 145 0 [(0, .ref 166)] [] (HN (PT g p dg b l w n op) hl (RF rt)) Q := by
  refine Ev.run 1 (pc' := 1) (lv' := [(0, .ref 166)]) (st' := [.ref 166]) (h' := HN (PT g p dg b l w n op) hl (RF rt)) rfl ?_
  refine Ev.call (a := 144) (as := [.ref 166]) (rest := []) (lv0 := [(0, .ref 166)]) (Q1 := (fun z0 h' => z0 = some (.int (nI (bn (isDg (pkS g p))))) ∧ h' = HN (PT g p dg b l w n op) hl (RF rt))) rfl rfl (C_isDigit _ g _ _ hF ht p dg b l w n op (by omega) ⟨rfl, rfl⟩) (fun r h' hr => ?_)
  obtain ⟨rfl, rfl⟩ := hr
  refine Ev_bn (fun hb4 => ?_) (fun hb4 => ?_)
  · skip
    refine Ev.run 4 (pc' := 14) (lv' := [(0, .ref 166)]) (st' := []) (h' := setI (HN (PT g p dg b l w n op) hl (RF rt)) 166 19 (nI 0)) rfl ?_
    refine Ev.hp (HN_set _ _ _ _ _ _) ?_
    refine Ev.hp (congrArg (fun z => HN z hl (RF rt)) (PT_19 _ _ _ _ _ _ _ _ _)) ?_
    refine Ev.run 6 (pc' := 22) (lv' := [(1, .int (nI 0)), (0, .ref 166)]) (st' := [.ref 166]) (h' := HN (PT g p 0 b l w n op) hl (RF rt)) rfl ?_
    refine Ev.call (a := 144) (as := [.ref 166]) (rest := []) (lv0 := [(0, .ref 166)]) (Q1 := (fun z0 h' => z0 = some (.int (nI (bn (isDg (pkS g p))))) ∧ h' = HN (PT g p 0 b l w n op) hl (RF rt))) rfl rfl (C_isDigit _ g _ _ hF ht p 0 b l w n op (by omega) ⟨rfl, rfl⟩) (fun r h' hr => ?_)
    obtain ⟨rfl, rfl⟩ := hr
    refine Ev_bn (fun hb25 => ?_) (fun hb25 => ?_)
    · skip
      refine Ev.run 1 (pc' := 28) (lv' := [(1, .int (nI 0)), (0, .ref 166)]) (st' := []) (h' := HN (PT g p 0 b l w n op) hl (RF rt)) rfl ?_
      have hdg1 := isDg_lt hb25
      refine Ev.run 6 (pc' := 37) (lv' := [(1, .int (nI 0)), (0, .ref 166)]) (st' := [.ref 166, .int (nI 0), .ref 166]) (h' := HN (PT g p 0 b l w n op) hl (RF rt)) rfl ?_
      refine Ev.call (a := 140) (as := [.ref 166]) (rest := [.int (nI 0), .ref 166]) (lv0 := [(0, .ref 166)]) (Q1 := (fun z0 h' => z0 = some (.int (nI (pkS g p))) ∧ h' = HN (PT g p 0 b l w n op) hl (RF rt))) rfl rfl (C_peek _ g _ _ hF ht p 0 b l w n op (by omega) ⟨rfl, rfl⟩) (fun r h' hr => ?_)
      obtain ⟨rfl, rfl⟩ := hr
      have hpk40 := pkS_le hF ht p
      refine Ev.run 1 (pc' := 41) (lv' := [(1, .int (nI 0)), (0, .ref 166)]) (st' := [.int (nI 0 + nI (pkS g p)), .ref 166]) (h' := HN (PT g p 0 b l w n op) hl (RF rt)) rfl ?_
      refine Ev.topI (nI_add _ _) ?_
      refine Ev.run 2 (pc' := 44) (lv' := [(1, .int (nI 0)), (0, .ref 166)]) (st' := [.int (nI (0 + (pkS g p)) - nI 48), .ref 166]) (h' := HN (PT g p 0 b l w n op) hl (RF rt)) rfl ?_
      refine Ev.topI (pk_sub (a := (0 + (pkS g p))) (b := 48) (by omega)) ?_
      refine Ev.run 1 (pc' := 47) (lv' := [(1, .int (nI 0)), (0, .ref 166)]) (st' := []) (h' := setI (HN (PT g p 0 b l w n op) hl (RF rt)) 166 19 (nI ((0 + (pkS g p)) - 48))) rfl ?_
      refine Ev.hp (HN_set _ _ _ _ _ _) ?_
      refine Ev.hp (congrArg (fun z => HN z hl (RF rt)) (PT_19 _ _ _ _ _ _ _ _ _)) ?_
      refine Ev.run 5 (pc' := 54) (lv' := [(1, .int (nI 0)), (0, .ref 166)]) (st' := [.int (nI p + nI 1), .ref 166]) (h' := HN (PT g p ((0 + (pkS g p)) - 48) b l w n op) hl (RF rt)) rfl ?_
      refine Ev.topI (nI_add _ _) ?_
      refine Ev.run 1 (pc' := 57) (lv' := [(1, .int (nI 0)), (0, .ref 166)]) (st' := []) (h' := setI (HN (PT g p ((0 + (pkS g p)) - 48) b l w n op) hl (RF rt)) 166 18 (nI (p + 1))) rfl ?_
      refine Ev.hp (HN_set _ _ _ _ _ _) ?_
      refine Ev.hp (congrArg (fun z => HN z hl (RF rt)) (PT_18 _ _ _ _ _ _ _ _ _)) ?_
      refine Ev.run 6 (pc' := 22) (lv' := [(1, .int (nI 1)), (0, .ref 166)]) (st' := [.ref 166]) (h' := HN (PT g (p + 1) ((0 + (pkS g p)) - 48) b l w n op) hl (RF rt)) rfl ?_
      refine Ev.call (a := 144) (as := [.ref 166]) (rest := []) (lv0 := [(0, .ref 166)]) (Q1 := (fun z0 h' => z0 = some (.int (nI (bn (isDg (pkS g (p + 1)))))) ∧ h' = HN (PT g (p + 1) ((0 + (pkS g p)) - 48) b l w n op) hl (RF rt))) rfl rfl (C_isDigit _ g _ _ hF ht (p + 1) ((0 + (pkS g p)) - 48) b l w n op (by omega) ⟨rfl, rfl⟩) (fun r h' hr => ?_)
      obtain ⟨rfl, rfl⟩ := hr
      refine Ev_bn (fun hb25 => ?_) (fun hb25 => ?_)
      · skip
        refine Ev.run 1 (pc' := 28) (lv' := [(1, .int (nI 1)), (0, .ref 166)]) (st' := []) (h' := HN (PT g (p + 1) ((0 + (pkS g p)) - 48) b l w n op) hl (RF rt)) rfl ?_
        have hdg2 := isDg_lt hb25
        refine Ev.run 5 (pc' := 36) (lv' := [(1, .int (nI 1)), (0, .ref 166)]) (st' := [.int (nI 10 * nI ((0 + (pkS g p)) - 48)), .ref 166]) (h' := HN (PT g (p + 1) ((0 + (pkS g p)) - 48) b l w n op) hl (RF rt)) rfl ?_
        refine Ev.topI (pk_mul _ _) ?_
        refine Ev.run 1 (pc' := 37) (lv' := [(1, .int (nI 1)), (0, .ref 166)]) (st' := [.ref 166, .int (nI (10 * ((0 + (pkS g p)) - 48))), .ref 166]) (h' := HN (PT g (p + 1) ((0 + (pkS g p)) - 48) b l w n op) hl (RF rt)) rfl ?_
        refine Ev.call (a := 140) (as := [.ref 166]) (rest := [.int (nI (10 * ((0 + (pkS g p)) - 48))), .ref 166]) (lv0 := [(0, .ref 166)]) (Q1 := (fun z0 h' => z0 = some (.int (nI (pkS g (p + 1)))) ∧ h' = HN (PT g (p + 1) ((0 + (pkS g p)) - 48) b l w n op) hl (RF rt))) rfl rfl (C_peek _ g _ _ hF ht (p + 1) ((0 + (pkS g p)) - 48) b l w n op (by omega) ⟨rfl, rfl⟩) (fun r h' hr => ?_)
        obtain ⟨rfl, rfl⟩ := hr
        have hpk40 := pkS_le hF ht (p + 1)
        refine Ev.run 1 (pc' := 41) (lv' := [(1, .int (nI 1)), (0, .ref 166)]) (st' := [.int (nI (10 * ((0 + (pkS g p)) - 48)) + nI (pkS g (p + 1))), .ref 166]) (h' := HN (PT g (p + 1) ((0 + (pkS g p)) - 48) b l w n op) hl (RF rt)) rfl ?_
        refine Ev.topI (nI_add _ _) ?_
        refine Ev.run 2 (pc' := 44) (lv' := [(1, .int (nI 1)), (0, .ref 166)]) (st' := [.int (nI ((10 * ((0 + (pkS g p)) - 48)) + (pkS g (p + 1))) - nI 48), .ref 166]) (h' := HN (PT g (p + 1) ((0 + (pkS g p)) - 48) b l w n op) hl (RF rt)) rfl ?_
        refine Ev.topI (pk_sub (a := ((10 * ((0 + (pkS g p)) - 48)) + (pkS g (p + 1)))) (b := 48) (by omega)) ?_
        refine Ev.run 1 (pc' := 47) (lv' := [(1, .int (nI 1)), (0, .ref 166)]) (st' := []) (h' := setI (HN (PT g (p + 1) ((0 + (pkS g p)) - 48) b l w n op) hl (RF rt)) 166 19 (nI (((10 * ((0 + (pkS g p)) - 48)) + (pkS g (p + 1))) - 48))) rfl ?_
        refine Ev.hp (HN_set _ _ _ _ _ _) ?_
        refine Ev.hp (congrArg (fun z => HN z hl (RF rt)) (PT_19 _ _ _ _ _ _ _ _ _)) ?_
        refine Ev.run 5 (pc' := 54) (lv' := [(1, .int (nI 1)), (0, .ref 166)]) (st' := [.int (nI (p + 1) + nI 1), .ref 166]) (h' := HN (PT g (p + 1) (((10 * ((0 + (pkS g p)) - 48)) + (pkS g (p + 1))) - 48) b l w n op) hl (RF rt)) rfl ?_
        refine Ev.topI (nI_add _ _) ?_
        refine Ev.run 1 (pc' := 57) (lv' := [(1, .int (nI 1)), (0, .ref 166)]) (st' := []) (h' := setI (HN (PT g (p + 1) (((10 * ((0 + (pkS g p)) - 48)) + (pkS g (p + 1))) - 48) b l w n op) hl (RF rt)) 166 18 (nI ((p + 1) + 1))) rfl ?_
        refine Ev.hp (HN_set _ _ _ _ _ _) ?_
        refine Ev.hp (congrArg (fun z => HN z hl (RF rt)) (PT_18 _ _ _ _ _ _ _ _ _)) ?_
        refine Ev.run 5 (pc' := 63) (lv' := [(1, .int (nI 2)), (0, .ref 166)]) (st' := []) (h' := HN (PT g ((p + 1) + 1) (((10 * ((0 + (pkS g p)) - 48)) + (pkS g (p + 1))) - 48) b l w n op) hl (RF rt)) rfl ?_
        refine Ev.run 1 (pc' := 64) (lv' := [(1, .int (nI 2)), (0, .ref 166)]) (st' := [.int (nI 1)]) (h' := HN (PT g ((p + 1) + 1) (((10 * ((0 + (pkS g p)) - 48)) + (pkS g (p + 1))) - 48) b l w n op) hl (RF rt)) rfl ?_
        refine Ev.ret (v := some (.int (nI 1))) rfl ?_
        exact hq.1 _ _ (by unfold nuS; rw [hb4, hb25]; exact congrArg (fun z => (true, z, p + 2)) (show 10 * (pkS g p - 48) + (pkS g (p + 1) - 48) = ((10 * ((0 + (pkS g p)) - 48)) + (pkS g (p + 1))) - 48 by omega))
      · skip
        refine Ev.run 1 (pc' := 63) (lv' := [(1, .int (nI 1)), (0, .ref 166)]) (st' := []) (h' := HN (PT g (p + 1) ((0 + (pkS g p)) - 48) b l w n op) hl (RF rt)) rfl ?_
        refine Ev.run 1 (pc' := 64) (lv' := [(1, .int (nI 1)), (0, .ref 166)]) (st' := [.int (nI 1)]) (h' := HN (PT g (p + 1) ((0 + (pkS g p)) - 48) b l w n op) hl (RF rt)) rfl ?_
        refine Ev.ret (v := some (.int (nI 1))) rfl ?_
        exact hq.1 _ _ (by unfold nuS; rw [hb4, hb25]; exact congrArg (fun z => (true, z, p + 1)) (show pkS g p - 48 = (0 + (pkS g p)) - 48 by omega))
    · skip
      refine Ev.run 1 (pc' := 63) (lv' := [(1, .int (nI 0)), (0, .ref 166)]) (st' := []) (h' := HN (PT g p 0 b l w n op) hl (RF rt)) rfl ?_
      refine Ev.run 1 (pc' := 64) (lv' := [(1, .int (nI 0)), (0, .ref 166)]) (st' := [.int (nI 1)]) (h' := HN (PT g p 0 b l w n op) hl (RF rt)) rfl ?_
      refine Ev.ret (v := some (.int (nI 1))) rfl ?_
      exact (tf hb4 hb25).elim
  · skip
    refine Ev.run 2 (pc' := 8) (lv' := [(0, .ref 166)]) (st' := [.int (nI 0)]) (h' := HN (PT g p dg b l w n op) hl (RF rt)) rfl ?_
    refine Ev.ret (v := some (.int (nI 0))) rfl ?_
    exact hq.2 (by unfold nuS; rw [hb4]; rfl)
theorem C_emits {L : Nat} {xs : Nat → Int32} (d : Nat) (g : Nat → Nat → Nat) (hl : Nat → Nat → Int64) (rt : Nat × Nat × Nat × Nat) (p dg b : Nat) (l : List Nat) (w : Nat → Nat) (n op : Nat) (s : Nat) (hr : b + l.length < 600) {Q : Po} (hq : Q none (HN (PT g p dg b (l ++ [s]) w n op) hl (RF rt))) : Ev L xs d 146 0 [(0, .ref 166), (1, .int (nI s))] [] (HN (PT g p dg b l w n op) hl (RF rt)) Q := by
  refine Ev.run 5 (pc' := 9) (lv' := [(0, .ref 166), (1, .int (nI s))]) (st' := [.int (nI s), .int (nI (b + l.length)), .ref 182]) (h' := HN (PT g p dg b l w n op) hl (RF rt)) rfl ?_
  refine Ev_iast rfl rfl (show b + l.length < 600 by omega) (Nat.le_of_ble_eq_true rfl) ?_
  refine Ev.run 5 (pc' := 17) (lv' := [(0, .ref 166), (1, .int (nI s))]) (st' := [.int (nI (b + l.length) + nI 1), .ref 166]) (h' := HN (u2 (PT g p dg b l w n op) 182 (b + l.length) s) hl (RF rt)) rfl ?_
  refine Ev.topI (nI_add _ _) ?_
  refine Ev.run 1 (pc' := 20) (lv' := [(0, .ref 166), (1, .int (nI s))]) (st' := []) (h' := setI (HN (u2 (PT g p dg b l w n op) 182 (b + l.length) s) hl (RF rt)) 166 28 (nI ((b + l.length) + 1))) rfl ?_
  refine Ev.hp (HN_set _ _ _ _ _ _) ?_
  refine Ev.ret (v := none) rfl ?_
  rw [PT_em]
  exact hq
theorem C_takesWord {L : Nat} {xs : Nat → Int32} (d : Nat) (g : Nat → Nat → Nat) (hl : Nat → Nat → Int64) (rt : Nat × Nat × Nat × Nat) (hF : g 166 17 ≤ 100) (ht : ∀ j, j < 100 → g 176 j ≤ 127) (p dg b : Nat) (l : List Nat) (w : Nat → Nat) (n op : Nat) (a m : Nat) (ws : List Nat) (hws : ws.length = m) (hlet : ∀ k, k < m → g 184 (a + k) = ws.getD k 0) (ham : a + m ≤ 14) (hc : ∀ k, k < m → ws.getD k 0 ≤ 127) (hp : p ≤ 500) {Q : Po} (hq : (∀ q, exS g (ws ++ [32]) p = (true, q) → Q (some (.int (nI 1))) (HN (PT g q dg b l w n op) hl (RF rt))) ∧ (∀ q, exS g (ws ++ [32]) p = (false, q) → Q (some (.int (nI 0))) (HN (PT g q dg b l w n op) hl (RF rt)))) : Ev L xs (d + 2) 143 0 [(0, .ref 166), (1, .int (nI a)), (2, .int (nI m))] [] (HN (PT g p dg b l w n op) hl (RF rt)) Q := by
  refine Ev.run 2 (pc' := 2) (lv' := [(3, .int (nI 0)), (0, .ref 166), (1, .int (nI a)), (2, .int (nI m))]) (st' := []) (h' := HN (PT g p dg b l w n op) hl (RF rt)) rfl ?_
  refine for_ind m (fun k => exS g (ws.drop k ++ [32]) (p + k) = exS g (ws ++ [32]) p → Ev L xs (d + 2) 143 2 [(3, .int (nI k)), (0, .ref 166), (1, .int (nI a)), (2, .int (nI m))] [] (HN (PT g (p + k) dg b l w n op) hl (RF rt)) Q) (fun k hk hnext ha => ?_) 0 (Nat.zero_le _) rfl
  refine Ev.run 3 (pc' := (if nI m ≤ nI k then 30 else 7)) (lv' := [(3, .int (nI k)), (0, .ref 166), (1, .int (nI a)), (2, .int (nI m))]) (st' := []) (h' := HN (PT g (p + k) dg b l w n op) hl (RF rt)) rfl ?_
  refine Ev.ite (fun hc4 => ?_) (fun hc4 => ?_)
  · have hc4 : m ≤ k := (nI_leI (by omega) (by omega)).mp hc4
    have hkm : k = m := by omega
    have ha2 : exS g (ws ++ [32]) p = if pkS g (p + k) = 32 then (true, p + k + 1) else (false, p + k) := by
      rw [← ha, List.drop_of_length_le (by omega)]
      rfl
    refine Ev.run 2 (pc' := 33) (lv' := [(3, .int (nI k)), (0, .ref 166), (1, .int (nI a)), (2, .int (nI m))]) (st' := [.int (nI 32), .ref 166]) (h' := HN (PT g (p + k) dg b l w n op) hl (RF rt)) rfl ?_
    refine Ev.call (a := 142) (as := [.ref 166, .int (nI 32)]) (rest := []) (lv0 := [(0, .ref 166), (1, .int (nI 32))]) (Q1 := (fun z0 h' => (pkS g (p + k) = 32 ∧ z0 = some (.int (nI 1)) ∧ h' = HN (PT g ((p + k) + 1) dg b l w n op) hl (RF rt)) ∨ (¬ pkS g (p + k) = 32 ∧ z0 = some (.int (nI 0)) ∧ h' = HN (PT g (p + k) dg b l w n op) hl (RF rt)))) rfl rfl (C_takes _ g _ _ hF ht (p + k) dg b l w n op 32 (by omega) (by omega) ⟨fun z => Or.inl ⟨z, rfl, rfl⟩, fun z => Or.inr ⟨z, rfl, rfl⟩⟩) (fun r h' hr => ?_)
    rcases hr with ⟨hk33, rfl, rfl⟩ | ⟨hk33, rfl, rfl⟩
    · skip
      refine Ev.ret (v := some (.int (nI 1))) rfl ?_
      exact hq.1 _ (by rw [ha2, if_pos hk33])
    · skip
      refine Ev.ret (v := some (.int (nI 0))) rfl ?_
      first | exact hq.2 _ (by rw [ha2, if_neg hk33]) | exact hq.2 _ (by rw [← ha, exS_drop (by omega), if_neg (by rw [← hlet k (by omega)]; exact hk16)])
  · have hc4 : ¬ (m ≤ k) := fun z => hc4 ((nI_leI (by omega) (by omega)).mpr z)
    refine Ev.run 6 (pc' := 15) (lv' := [(3, .int (nI k)), (0, .ref 166), (1, .int (nI a)), (2, .int (nI m))]) (st' := [.int (nI a + nI k), .ref 184, .ref 166]) (h' := HN (PT g (p + k) dg b l w n op) hl (RF rt)) rfl ?_
    refine Ev.topI (nI_add _ _) ?_
    refine Ev_iald rfl rfl (show a + k < 14 by omega) (Nat.le_of_ble_eq_true rfl) ?_
    have hck := hc k (by omega)
    have hlk := hlet k (by omega)
    refine Ev.call (a := 142) (as := [.ref 166, .int (nI (g 184 (a + k)))]) (rest := []) (lv0 := [(0, .ref 166), (1, .int (nI (g 184 (a + k))))]) (Q1 := (fun z0 h' => (pkS g (p + k) = (g 184 (a + k)) ∧ z0 = some (.int (nI 1)) ∧ h' = HN (PT g ((p + k) + 1) dg b l w n op) hl (RF rt)) ∨ (¬ pkS g (p + k) = (g 184 (a + k)) ∧ z0 = some (.int (nI 0)) ∧ h' = HN (PT g (p + k) dg b l w n op) hl (RF rt)))) rfl rfl (C_takes _ g _ _ hF ht (p + k) dg b l w n op (g 184 (a + k)) (by omega) (by omega) ⟨fun z => Or.inl ⟨z, rfl, rfl⟩, fun z => Or.inr ⟨z, rfl, rfl⟩⟩) (fun r h' hr => ?_)
    rcases hr with ⟨hk16, rfl, rfl⟩ | ⟨hk16, rfl, rfl⟩
    · skip
      refine Ev.run 2 (pc' := 27) (lv' := [(3, .int (nI k + 1)), (0, .ref 166), (1, .int (nI a)), (2, .int (nI m))]) (st' := []) (h' := HN (PT g ((p + k) + 1) dg b l w n op) hl (RF rt)) rfl ?_
      refine Ev.lvE (congrArg (fun z => (3, Value.int z) :: [(0, .ref 166), (1, .int (nI a)), (2, .int (nI m))]) (nI_1 _)) ?_
      refine Ev.run 1 (pc' := 2) (lv' := [(3, .int (nI (k + 1))), (0, .ref 166), (1, .int (nI a)), (2, .int (nI m))]) (st' := []) (h' := HN (PT g ((p + k) + 1) dg b l w n op) hl (RF rt)) rfl ?_
      exact hnext (by omega) (by rw [← ha]; exact ((exS_drop (g := g) (k := k) (q := p + k) (by omega)).trans (if_pos (by rw [hk16, ← hlet k (by omega)]))).symm)
    · skip
      refine Ev.run 2 (pc' := 23) (lv' := [(3, .int (nI k)), (0, .ref 166), (1, .int (nI a)), (2, .int (nI m))]) (st' := [.int (nI 0)]) (h' := HN (PT g (p + k) dg b l w n op) hl (RF rt)) rfl ?_
      refine Ev.ret (v := some (.int (nI 0))) rfl ?_
      first | exact hq.2 _ (by rw [ha2, if_neg hk33]) | exact hq.2 _ (by rw [← ha, exS_drop (by omega), if_neg (by rw [← hlet k (by omega)]; exact hk16)])
theorem C_whole {L : Nat} {xs : Nat → Int32} (d : Nat) (g : Nat → Nat → Nat) (hl : Nat → Nat → Int64) (rt : Nat × Nat × Nat × Nat) (p dg b : Nat) (w : Nat → Nat) {Q : Po} : ∀ (W : List Nat) (l : List Nat), WR w W → b + l.length + W.length ≤ 600 → W.length ≤ 100 → Q none (HN (PT g p dg b (l ++ whL W) w ((whW W).length) (opn (whW W))) hl (RF rt)) → Ev L xs (d + 1) 147 0 [(0, .ref 166)] [] (HN (PT g p dg b l w W.length (opn W)) hl (RF rt)) Q := by
  intro W
  induction W with
  | nil =>
    intro l hW h6 h1 hq
    have hq : Q none (HN (PT g p dg b (l ++ []) w 0 0) hl (RF rt)) := hq
    show Ev L xs _ _ _ _ _ (HN (PT g p dg b l w 0 0) hl (RF rt)) Q
    refine Ev.run 3 (pc' := 52) (lv' := [(0, .ref 166)]) (st' := []) (h' := HN (PT g p dg b l w 0 0) hl (RF rt)) rfl ?_
    refine Ev.ret (v := none) rfl ?_
    rw [List.append_nil] at hq
    exact hq
  | cons x t ih =>
    intro l hW h6 h1 hq
    have hWt := hW.top
    have hlt : (x :: t).length = t.length + 1 := rfl
    have hop := opn_le t
    have hop2 := opn_le (x :: t)
    show Ev L xs _ _ _ _ _ (HN (PT g p dg b l w (t.length + 1) (opn (x :: t))) hl (RF rt)) Q
    refine Ev.run 3 (pc' := (if nI (t.length + 1) ≤ 0 then 52 else 7)) (lv' := [(0, .ref 166)]) (st' := []) (h' := HN (PT g p dg b l w (t.length + 1) (opn (x :: t))) hl (RF rt)) rfl ?_
    refine Ev.ite (fun hc4 => ?_) (fun hc4 => ?_)
    · have hc4 : (t.length + 1) ≤ 0 := (nI_leI0 (by omega)).mp hc4
      refine Ev.ret (v := none) rfl ?_
      exfalso
      omega
    · have hc4 : ¬ ((t.length + 1) ≤ 0) := fun z => hc4 ((nI_leI0 (by omega)).mpr z)
      refine Ev.run 6 (pc' := 17) (lv' := [(0, .ref 166)]) (st' := [.int (nI (t.length + 1) - nI 1), .ref 183]) (h' := HN (PT g p dg b l w (t.length + 1) (opn (x :: t))) hl (RF rt)) rfl ?_
      refine Ev.topI (pk_sub (a := (t.length + 1)) (b := 1) (by omega)) ?_
      refine Ev_iald rfl rfl (show t.length < 101 by omega) (Nat.le_of_ble_eq_true rfl) ?_
      refine Ev.run 2 (pc' := (if nI (w t.length) = nI 33 then 23 else 52)) (lv' := [(0, .ref 166)]) (st' := []) (h' := HN (PT g p dg b l w (t.length + 1) (opn (x :: t))) hl (RF rt)) rfl ?_
      refine Ev.ite (fun hc20 => ?_) (fun hc20 => ?_)
      · have hc20 : x = 33 := ((show nI (w t.length) = nI 33 ↔ x = 33 from by rw [hWt.1]; exact nI_eqU (by omega) (by decide))).mp hc20
        refine Ev.run 2 (pc' := 26) (lv' := [(0, .ref 166)]) (st' := [.int (nI 4294967263), .ref 166]) (h' := HN (PT g p dg b l w (t.length + 1) (opn (x :: t))) hl (RF rt)) rfl ?_
        have hx33 : x = 33 := hc20
        refine Ev.call (a := 146) (as := [.ref 166, .int (nI 4294967263)]) (rest := []) (lv0 := [(0, .ref 166), (1, .int (nI 4294967263))]) (Q1 := (fun z0 h' => z0 = none ∧ h' = HN (PT g p dg b (l ++ [4294967263]) w (t.length + 1) (opn (x :: t))) hl (RF rt))) rfl rfl (C_emits _ g _ _ p dg b l w (t.length + 1) (opn (x :: t)) 4294967263 (show _ < 600 by first | omega | (simp only [List.length_append, List.length_cons, List.length_nil]; omega)) ⟨rfl, rfl⟩) (fun r h' hr => ?_)
        obtain ⟨rfl, rfl⟩ := hr
        refine Ev.run 5 (pc' := 36) (lv' := [(0, .ref 166)]) (st' := [.int (nI (t.length + 1) - nI 1), .ref 166]) (h' := HN (PT g p dg b (l ++ [4294967263]) w (t.length + 1) (opn (x :: t))) hl (RF rt)) rfl ?_
        refine Ev.topI (pk_sub (a := (t.length + 1)) (b := 1) (by omega)) ?_
        refine Ev.run 1 (pc' := 39) (lv' := [(0, .ref 166)]) (st' := []) (h' := setI (HN (PT g p dg b (l ++ [4294967263]) w (t.length + 1) (opn (x :: t))) hl (RF rt)) 166 29 (nI t.length)) rfl ?_
        refine Ev.hp (HN_set _ _ _ _ _ _) ?_
        refine Ev.hp (congrArg (fun z => HN z hl (RF rt)) (PT_29 _ _ _ _ _ _ _ _ _)) ?_
        refine Ev.run 5 (pc' := 46) (lv' := [(0, .ref 166)]) (st' := [.int (nI (opn (x :: t)) - nI 1), .ref 166]) (h' := HN (PT g p dg b (l ++ [4294967263]) w t.length (opn (x :: t))) hl (RF rt)) rfl ?_
        refine Ev.topI ((pk_sub (a := opn (x :: t)) (b := 1) (by rw [hc20, opn_33]; omega)).trans (congrArg nI (show opn (x :: t) - 1 = opn t by rw [hc20, opn_33]; omega))) ?_
        refine Ev.run 1 (pc' := 49) (lv' := [(0, .ref 166)]) (st' := []) (h' := setI (HN (PT g p dg b (l ++ [4294967263]) w t.length (opn (x :: t))) hl (RF rt)) 166 30 (nI (opn t))) rfl ?_
        refine Ev.hp (HN_set _ _ _ _ _ _) ?_
        refine Ev.hp (congrArg (fun z => HN z hl (RF rt)) (PT_30 _ _ _ _ _ _ _ _ _)) ?_
        refine Ev.run 1 (pc' := 0) (lv' := [(0, .ref 166)]) (st' := []) (h' := HN (PT g p dg b (l ++ [4294967263]) w t.length (opn t)) hl (RF rt)) rfl ?_
        rw [hc20] at hq
        have hx := ih (l ++ [4294967263]) hW.tl (by rw [List.length_append]; show b + (l.length + 1) + _ ≤ 600; have : (x :: t).length = t.length + 1 := rfl; omega) (by have : (x :: t).length = t.length + 1 := rfl; omega) (by rw [List.append_assoc]; exact hq)
        exact hx
      · have hc20 : ¬ (x = 33) := fun z => hc20 (((show nI (w t.length) = nI 33 ↔ x = 33 from by rw [hWt.1]; exact nI_eqU (by omega) (by decide))).mpr z)
        refine Ev.ret (v := none) rfl ?_
        have e1 : whL (x :: t) = [] := by unfold whL; rw [if_neg hc20]
        have e2 : whW (x :: t) = x :: t := by unfold whW; rw [if_neg hc20]
        rw [e1, e2, List.append_nil] at hq
        exact hq
