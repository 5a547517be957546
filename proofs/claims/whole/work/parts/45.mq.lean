/-! the reference: reading a table -/
/-- the reader's state: place, digits, signs from b on, what waits, how many, how many open -/
def PT (g : Nat → Nat → Nat) (p dg b : Nat) (l : List Nat) (w : Nat → Nat) (n op : Nat) : Nat → Nat → Nat := fun a c => if a = 166 then (if c = 18 then p else if c = 19 then dg else if c = 28 then b + l.length else if c = 29 then n else if c = 30 then op else g 166 c) else if a = 182 then (if b ≤ c ∧ c < b + l.length then l.getD (c - b) 0 else g 182 c) else if a = 183 then w c else g a c
section PTs
variable (g : Nat → Nat → Nat) (p dg b : Nat) (l : List Nat) (w : Nat → Nat) (n op x : Nat)
theorem PT_18 : u2 (PT g p dg b l w n op) 166 18 x = PT g x dg b l w n op := by
  funext a c; unfold u2 PT
  by_cases e : a = 166
  · subst e; by_cases e2 : c = 18 <;> simp [e2]
  · simp [e]
theorem PT_19 : u2 (PT g p dg b l w n op) 166 19 x = PT g p x b l w n op := by
  funext a c; unfold u2 PT
  by_cases e : a = 166
  · subst e; by_cases e2 : c = 19 <;> simp [e2]
  · simp [e]
theorem PT_29 : u2 (PT g p dg b l w n op) 166 29 x = PT g p dg b l w x op := by
  funext a c; unfold u2 PT
  by_cases e : a = 166
  · subst e; by_cases e2 : c = 29 <;> simp [e2]
  · simp [e]
theorem PT_30 : u2 (PT g p dg b l w n op) 166 30 x = PT g p dg b l w n x := by
  funext a c; unfold u2 PT
  by_cases e : a = 166
  · subst e; by_cases e2 : c = 30 <;> simp [e2]
  · simp [e]
theorem PT_f (j y : Nat) (h : j ≠ 18 ∧ j ≠ 19 ∧ j ≠ 28 ∧ j ≠ 29 ∧ j ≠ 30) : u2 (PT g p dg b l w n op) 166 j y = PT (u2 g 166 j y) p dg b l w n op := by
  obtain ⟨h1, h2, h3, h4, h5⟩ := h
  funext a c; unfold u2 PT
  by_cases e : a = 166
  · subst e
    by_cases e2 : c = j
    · subst e2; simp [h1, h2, h3, h4, h5]
    · simp [e2]
  · simp [e]
theorem PT_183 (j y : Nat) : u2 (PT g p dg b l w n op) 183 j y = PT g p dg b l (up w j y) n op := by
  funext a c; unfold u2 PT up
  by_cases e : a = 183
  · subst e; simp
  · simp [e]
theorem PT_o (k j y : Nat) (h1 : k ≠ 166) (h2 : k ≠ 182) (h3 : k ≠ 183) : u2 (PT g p dg b l w n op) k j y = PT (u2 g k j y) p dg b l w n op := by
  funext a c; unfold u2 PT
  by_cases e : a = k
  · subst e; simp [h1, h2, h3]
  · by_cases e2 : a = 166
    · subst e2; simp [h1.symm]
    · by_cases e3 : a = 182
      · subst e3; simp [h2.symm]
      · simp [e, e2, e3]
theorem PT_em (y : Nat) : u2 (u2 (PT g p dg b l w n op) 182 (b + l.length) y) 166 28 (b + l.length + 1) = PT g p dg b (l ++ [y]) w n op := by
  funext a c; unfold u2 PT
  by_cases e : a = 166
  · subst e
    by_cases e2 : c = 28
    · subst e2; simp [Nat.add_assoc]
    · simp [e2]
  · by_cases e2 : a = 182
    · subst e2
      by_cases e3 : c = b + l.length
      · subst e3
        simp [List.getElem?_append]
      · by_cases e4 : b ≤ c ∧ c < b + l.length
        · have e5 : b ≤ c ∧ c < b + (l ++ [y]).length := by rw [List.length_append]; omega
          rw [if_neg e, if_pos rfl, if_neg e3, if_neg e, if_pos rfl, if_pos e4, if_neg e, if_pos rfl, if_pos e5, List.getD_eq_getElem?_getD, List.getD_eq_getElem?_getD, List.getElem?_append_left (by omega)]
        · have e5 : ¬ (b ≤ c ∧ c < b + (l ++ [y]).length) := by rw [List.length_append, show [y].length = 1 from rfl]; omega
          rw [if_neg e, if_pos rfl, if_neg e3, if_neg e, if_pos rfl, if_neg e4, if_neg e, if_pos rfl, if_neg e5]
    · simp [e, e2]
end PTs
def pkS (g : Nat → Nat → Nat) (p : Nat) : Nat := if g 166 17 ≤ p then 4294967295 else g 176 p
theorem pkS_le {g : Nat → Nat → Nat} (hF : g 166 17 ≤ 100) (ht : ∀ j, j < 100 → g 176 j ≤ 127) (p : Nat) : pkS g p ≤ 127 ∨ pkS g p = 4294967295 := by
  unfold pkS
  split
  · exact Or.inr rfl
  · exact Or.inl (ht p (by omega))
theorem pkS_lt {g : Nat → Nat → Nat} {p : Nat} (h : pkS g p < 4294967295) : p < g 166 17 := by
  refine Classical.byContradiction fun z => ?_
  unfold pkS at h
  rw [if_pos (by omega)] at h
  omega
def isDg (x : Nat) : Bool := decide (48 ≤ x ∧ x ≤ 57)
def exS (g : Nat → Nat → Nat) : List Nat → Nat → Bool × Nat
  | [], p => (true, p)
  | c :: cs, p => if pkS g p = c then exS g cs (p + 1) else (false, p)
theorem exS_le {g : Nat → Nat → Nat} : ∀ (cs : List Nat) (p : Nat), p ≤ g 166 17 → (∀ c ∈ cs, c < 4294967295) → (exS g cs p).2 ≤ g 166 17 ∧ p ≤ (exS g cs p).2 := by
  intro cs
  induction cs with
  | nil => intro p h _; exact ⟨h, Nat.le_refl _⟩
  | cons c cs ih =>
    intro p h hc
    unfold exS
    split
    · rename_i e
      have h1 := pkS_lt (g := g) (p := p) (by rw [e]; exact hc c List.mem_cons_self)
      have h2 := ih (p + 1) (by omega) (fun c h => hc c (List.mem_cons_of_mem _ h))
      omega
    · exact ⟨h, Nat.le_refl _⟩
def nuS (g : Nat → Nat → Nat) (p : Nat) : Bool × Nat × Nat := bif isDg (pkS g p) then (bif isDg (pkS g (p + 1)) then (true, 10 * (pkS g p - 48) + (pkS g (p + 1) - 48), p + 2) else (true, pkS g p - 48, p + 1)) else (false, 0, p)
theorem isDg_lt {g : Nat → Nat → Nat} {p : Nat} (h : isDg (pkS g p) = true) : p < g 166 17 ∧ 48 ≤ pkS g p ∧ pkS g p ≤ 57 := by
  have h2 := of_decide_eq_true h
  exact ⟨pkS_lt (by omega), h2⟩
theorem nuS_le {g : Nat → Nat → Nat} {p d q : Nat} (h : nuS g p = (true, d, q)) : d ≤ 99 ∧ p < q ∧ q ≤ g 166 17 := by
  unfold nuS at h
  cases e : isDg (pkS g p) with
  | false => rw [e] at h; cases h
  | true =>
    rw [e] at h
    have h1 := isDg_lt e
    cases e2 : isDg (pkS g (p + 1)) with
    | false => rw [e2] at h; cases h; omega
    | true =>
      rw [e2] at h
      have h3 := isDg_lt e2
      cases h
      omega
theorem inDg {x : Nat} (hx : x < 2 ^ 32) : (decide (nI 48 ≤ nI x) && decide (nI x ≤ nI 57)) = isDg x := by
  unfold isDg
  rw [decide_eq_decide.mpr Int32.le_iff_toInt_le, decide_eq_decide.mpr Int32.le_iff_toInt_le, ← Bool.decide_and, nI_tI hx, nI_toInt (by decide : 48 < 2 ^ 31), nI_toInt (by decide : 57 < 2 ^ 31)]
  refine decide_eq_decide.mpr ?_
  split <;> omega
theorem C_peek {L : Nat} {xs : Nat → Int32} (d : Nat) (g : Nat → Nat → Nat) (hl : Nat → Nat → Int64) (rt : Nat × Nat × Nat × Nat) (hF : g 166 17 ≤ 100) (ht : ∀ j, j < 100 → g 176 j ≤ 127) (p dg b : Nat) (l : List Nat) (w : Nat → Nat) (n op : Nat) (hp : p < 2 ^ 31) {Q : Po} (hq : Q (some (.int (nI (pkS g p)))) (HN (PT g p dg b l w n op) hl (RF rt))) : Ev L xs d 140 0 [(0, .ref 166)] [] (HN (PT g p dg b l w n op) hl (RF rt)) Q := by
  refine Ev.run 5 (pc' := (if nI (g 166 17) ≤ nI p then 23 else 11)) (lv' := [(0, .ref 166)]) (st' := []) (h' := HN (PT g p dg b l w n op) hl (RF rt)) rfl ?_
  refine Ev.ite (fun hc8 => ?_) (fun hc8 => ?_)
  · have hc8 : (g 166 17) ≤ p := (nI_leI (by omega) (by omega)).mp hc8
    refine Ev.run 1 (pc' := 24) (lv' := [(0, .ref 166)]) (st' := [.int (nI 4294967295)]) (h' := HN (PT g p dg b l w n op) hl (RF rt)) rfl ?_
    refine Ev.ret (v := some (.int (nI 4294967295))) rfl ?_
    simp only [pkS, if_pos hc8] at hq
    exact hq
  · have hc8 : ¬ ((g 166 17) ≤ p) := fun z => hc8 ((nI_leI (by omega) (by omega)).mpr z)
    refine Ev.run 4 (pc' := 19) (lv' := [(0, .ref 166)]) (st' := [.int (nI p), .ref 176]) (h' := HN (PT g p dg b l w n op) hl (RF rt)) rfl ?_
    refine Ev_iald rfl rfl (show p < 100 by omega) (Nat.le_of_ble_eq_true rfl) ?_
    refine Ev.run 1 (pc' := 24) (lv' := [(0, .ref 166)]) (st' := [.int (nI (g 176 p))]) (h' := HN (PT g p dg b l w n op) hl (RF rt)) rfl ?_
    refine Ev.ret (v := some (.int (nI (g 176 p)))) rfl ?_
    simp only [pkS, if_neg hc8] at hq
    exact hq
theorem C_second {L : Nat} {xs : Nat → Int32} (d : Nat) (g : Nat → Nat → Nat) (hl : Nat → Nat → Int64) (rt : Nat × Nat × Nat × Nat) (hF : g 166 17 ≤ 100) (ht : ∀ j, j < 100 → g 176 j ≤ 127) (p dg b : Nat) (l : List Nat) (w : Nat → Nat) (n op : Nat) (hp : p ≤ 1000) {Q : Po} (hq : Q (some (.int (nI (pkS g (p + 1))))) (HN (PT g p dg b l w n op) hl (RF rt))) : Ev L xs d 141 0 [(0, .ref 166)] [] (HN (PT g p dg b l w n op) hl (RF rt)) Q := by
  refine Ev.run 4 (pc' := 6) (lv' := [(0, .ref 166)]) (st' := [.int (nI p + nI 1)]) (h' := HN (PT g p dg b l w n op) hl (RF rt)) rfl ?_
  refine Ev.topI (nI_add _ _) ?_
  refine Ev.run 3 (pc' := (if nI (g 166 17) ≤ nI (p + 1) then 27 else 13)) (lv' := [(0, .ref 166)]) (st' := []) (h' := HN (PT g p dg b l w n op) hl (RF rt)) rfl ?_
  refine Ev.ite (fun hc10 => ?_) (fun hc10 => ?_)
  · have hc10 : (g 166 17) ≤ (p + 1) := (nI_leI (by omega) (by omega)).mp hc10
    refine Ev.run 1 (pc' := 28) (lv' := [(0, .ref 166)]) (st' := [.int (nI 4294967295)]) (h' := HN (PT g p dg b l w n op) hl (RF rt)) rfl ?_
    refine Ev.ret (v := some (.int (nI 4294967295))) rfl ?_
    simp only [pkS, if_pos hc10] at hq
    exact hq
  · have hc10 : ¬ ((g 166 17) ≤ (p + 1)) := fun z => hc10 ((nI_leI (by omega) (by omega)).mpr z)
    refine Ev.run 6 (pc' := 23) (lv' := [(0, .ref 166)]) (st' := [.int (nI p + nI 1), .ref 176]) (h' := HN (PT g p dg b l w n op) hl (RF rt)) rfl ?_
    refine Ev.topI (nI_add _ _) ?_
    refine Ev_iald rfl rfl (show p + 1 < 100 by omega) (Nat.le_of_ble_eq_true rfl) ?_
    refine Ev.run 1 (pc' := 28) (lv' := [(0, .ref 166)]) (st' := [.int (nI (g 176 (p + 1)))]) (h' := HN (PT g p dg b l w n op) hl (RF rt)) rfl ?_
    refine Ev.ret (v := some (.int (nI (g 176 (p + 1))))) rfl ?_
    simp only [pkS, if_neg hc10] at hq
    exact hq
theorem C_takes {L : Nat} {xs : Nat → Int32} (d : Nat) (g : Nat → Nat → Nat) (hl : Nat → Nat → Int64) (rt : Nat × Nat × Nat × Nat) (hF : g 166 17 ≤ 100) (ht : ∀ j, j < 100 → g 176 j ≤ 127) (p dg b : Nat) (l : List Nat) (w : Nat → Nat) (n op : Nat) (c : Nat) (hc : c < 2 ^ 32) (hp : p ≤ 1000) {Q : Po} (hq : (pkS g p = c → Q (some (.int (nI 1))) (HN (PT g (p + 1) dg b l w n op) hl (RF rt))) ∧ (¬ pkS g p = c → Q (some (.int (nI 0))) (HN (PT g p dg b l w n op) hl (RF rt)))) : Ev L xs (d + 1) 142 0 [(0, .ref 166), (1, .int (nI c))] [] (HN (PT g p dg b l w n op) hl (RF rt)) Q := by
  refine Ev.run 1 (pc' := 1) (lv' := [(0, .ref 166), (1, .int (nI c))]) (st' := [.ref 166]) (h' := HN (PT g p dg b l w n op) hl (RF rt)) rfl ?_
  refine Ev.call (a := 140) (as := [.ref 166]) (rest := []) (lv0 := [(0, .ref 166)]) (Q1 := (fun z0 h' => z0 = some (.int (nI (pkS g p))) ∧ h' = HN (PT g p dg b l w n op) hl (RF rt))) rfl rfl (C_peek _ g _ _ hF ht p dg b l w n op (by omega) ⟨rfl, rfl⟩) (fun r h' hr => ?_)
  obtain ⟨rfl, rfl⟩ := hr
  have hpk4 := pkS_le hF ht p
  refine Ev.run 2 (pc' := (if nI (pkS g p) = nI c then 10 else 8)) (lv' := [(0, .ref 166), (1, .int (nI c))]) (st' := []) (h' := HN (PT g p dg b l w n op) hl (RF rt)) rfl ?_
  refine Ev.ite (fun hc5 => ?_) (fun hc5 => ?_)
  · have hc5 : (pkS g p) = c := (nI_eqU (by omega) (by omega)).mp hc5
    refine Ev.run 5 (pc' := 17) (lv' := [(0, .ref 166), (1, .int (nI c))]) (st' := [.int (nI p + nI 1), .ref 166]) (h' := HN (PT g p dg b l w n op) hl (RF rt)) rfl ?_
    refine Ev.topI (nI_add _ _) ?_
    refine Ev.run 1 (pc' := 20) (lv' := [(0, .ref 166), (1, .int (nI c))]) (st' := []) (h' := setI (HN (PT g p dg b l w n op) hl (RF rt)) 166 18 (nI (p + 1))) rfl ?_
    refine Ev.hp (HN_set _ _ _ _ _ _) ?_
    refine Ev.hp (congrArg (fun z => HN z hl (RF rt)) (PT_18 _ _ _ _ _ _ _ _ _)) ?_
    refine Ev.run 1 (pc' := 21) (lv' := [(0, .ref 166), (1, .int (nI c))]) (st' := [.int (nI 1)]) (h' := HN (PT g (p + 1) dg b l w n op) hl (RF rt)) rfl ?_
    refine Ev.ret (v := some (.int (nI 1))) rfl ?_
    exact hq.1 hc5
  · have hc5 : ¬ ((pkS g p) = c) := fun z => hc5 ((nI_eqU (by omega) (by omega)).mpr z)
    refine Ev.run 1 (pc' := 9) (lv' := [(0, .ref 166), (1, .int (nI c))]) (st' := [.int (nI 0)]) (h' := HN (PT g p dg b l w n op) hl (RF rt)) rfl ?_
    refine Ev.ret (v := some (.int (nI 0))) rfl ?_
    exact hq.2 hc5
theorem C_isDigit {L : Nat} {xs : Nat → Int32} (d : Nat) (g : Nat → Nat → Nat) (hl : Nat → Nat → Int64) (rt : Nat × Nat × Nat × Nat) (hF : g 166 17 ≤ 100) (ht : ∀ j, j < 100 → g 176 j ≤ 127) (p dg b : Nat) (l : List Nat) (w : Nat → Nat) (n op : Nat) (hp : p ≤ 1000) {Q : Po} (hq : Q (some (.int (nI (bn (isDg (pkS g p)))))) (HN (PT g p dg b l w n op) hl (RF rt))) : Ev L xs (d + 1) 144 0 [(0, .ref 166)] [] (HN (PT g p dg b l w n op) hl (RF rt)) Q := by
  refine Ev.run 2 (pc' := 2) (lv' := [(0, .ref 166)]) (st' := [.ref 166, .ref 166]) (h' := HN (PT g p dg b l w n op) hl (RF rt)) rfl ?_
  refine Ev.call (a := 140) (as := [.ref 166]) (rest := [.ref 166]) (lv0 := [(0, .ref 166)]) (Q1 := (fun z0 h' => z0 = some (.int (nI (pkS g p))) ∧ h' = HN (PT g p dg b l w n op) hl (RF rt))) rfl rfl (C_peek _ g _ _ hF ht p dg b l w n op (by omega) ⟨rfl, rfl⟩) (fun r h' hr => ?_)
  obtain ⟨rfl, rfl⟩ := hr
  have hpk5 := pkS_le hF ht p
  refine Ev.run 2 (pc' := 9) (lv' := [(0, .ref 166)]) (st' := [.int (nI 57), .int (nI 48), .int (nI (pkS g p)), .ref 166]) (h' := HN (PT g p dg b l w n op) hl (RF rt)) rfl ?_
  refine Ev.call (a := 126) (as := [.ref 166, .int (nI (pkS g p)), .int (nI 48), .int (nI 57)]) (rest := []) (lv0 := [(0, .ref 166), (1, .int (nI (pkS g p))), (2, .int (nI 48)), (3, .int (nI 57))]) (Q1 := (fun z0 h' => z0 = some (.int (nI (bn (isDg (pkS g p))))) ∧ h' = HN (PT g p dg b l w n op) hl (RF rt))) rfl rfl (C_in _ _ _ _ (nI (pkS g p)) (nI 48) (nI 57) (by rw [inDg (by omega)]; exact ⟨rfl, rfl⟩)) (fun r h' hr => ?_)
  obtain ⟨rfl, rfl⟩ := hr
  refine Ev_bn (fun hb12 => ?_) (fun hb12 => ?_)
  · skip
    refine Ev.ret (v := some (.int (nI 1))) rfl ?_
    rw [hb12] at hq
    exact hq
  · skip
    refine Ev.ret (v := some (.int (nI 0))) rfl ?_
    rw [hb12] at hq
    exact hq
