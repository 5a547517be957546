/-! the reference: acts -/
/-- the bodies of a list ran -/
def bdsG (g : Nat → Nat → Nat) (l : List Nat) : Nat → Nat → Nat := fun a c => if a = 205 then (if g 166 71 ≤ c ∧ c < g 166 71 + l.length ∧ c < 20 then l.getD (c - g 166 71) 0 else g 205 c) else if a = 166 then (if c = 71 then g 166 71 + l.length else g 166 c) else g a c
theorem bds_c (g : Nat → Nat → Nat) (l m : List Nat) : bdsG (bdsG g l) m = bdsG g (l ++ m) := by
  funext a c
  have e : bdsG g l 166 71 = g 166 71 + l.length := rfl
  by_cases h : a = 205
  · subst h
    show (if bdsG g l 166 71 ≤ c ∧ c < bdsG g l 166 71 + m.length ∧ c < 20 then m.getD (c - bdsG g l 166 71) 0 else (if g 166 71 ≤ c ∧ c < g 166 71 + l.length ∧ c < 20 then l.getD (c - g 166 71) 0 else g 205 c)) = (if g 166 71 ≤ c ∧ c < g 166 71 + (l ++ m).length ∧ c < 20 then (l ++ m).getD (c - g 166 71) 0 else g 205 c)
    rw [e, List.length_append]
    by_cases h1 : g 166 71 + l.length ≤ c ∧ c < g 166 71 + l.length + m.length ∧ c < 20
    · rw [if_pos h1, if_pos (by omega), List.getD_eq_getElem?_getD, List.getD_eq_getElem?_getD, List.getElem?_append_right (by omega), show c - g 166 71 - l.length = c - (g 166 71 + l.length) by omega]
    · rw [if_neg h1]
      by_cases h2 : g 166 71 ≤ c ∧ c < g 166 71 + l.length ∧ c < 20
      · rw [if_pos h2, if_pos (by omega), List.getD_eq_getElem?_getD, List.getD_eq_getElem?_getD, List.getElem?_append_left (by omega)]
      · rw [if_neg h2, if_neg (by omega)]
  · by_cases h2 : a = 166
    · subst h2
      show (if c = 71 then bdsG g l 166 71 + m.length else (if c = 71 then g 166 71 + l.length else g 166 c)) = (if c = 71 then g 166 71 + (l ++ m).length else g 166 c)
      by_cases h3 : c = 71
      · rw [if_pos h3, if_pos h3, e, List.length_append, Nat.add_assoc]
      · rw [if_neg h3, if_neg h3, if_neg h3]
    · unfold bdsG
      simp [h, h2]
theorem bds_1a (g : Nat → Nat → Nat) (b : Nat) (h : ¬ 20 ≤ g 166 71) : u2 (u2 g 205 (g 166 71) b) 166 71 (g 166 71 + 1) = bdsG g [b] := by
  funext a c
  unfold u2 bdsG
  by_cases h1 : a = 166
  · subst h1
    by_cases h2 : c = 71
    · subst h2; simp
    · simp [h2]
  · by_cases h2 : a = 205
    · subst h2
      by_cases h3 : c = g 166 71
      · subst h3
        simp
        omega
      · have : ¬ (g 166 71 ≤ c ∧ c < g 166 71 + [b].length ∧ c < 20) := by
          intro z
          have := z.2.1
          have e : [b].length = 1 := rfl
          omega
        rw [if_neg h1, if_pos rfl, if_neg h3, if_pos rfl, if_neg this]
    · simp [h1, h2]
theorem bds_1b (g : Nat → Nat → Nat) (b : Nat) (h : 20 ≤ g 166 71) : u2 g 166 71 (g 166 71 + 1) = bdsG g [b] := by
  funext a c
  unfold u2 bdsG
  by_cases h1 : a = 166
  · subst h1
    by_cases h2 : c = 71
    · subst h2; simp
    · simp [h2]
  · by_cases h2 : a = 205
    · subst h2
      have : ¬ (g 166 71 ≤ c ∧ c < g 166 71 + [b].length ∧ c < 20) := by
        intro z
        omega
      rw [if_neg h1, if_pos rfl, if_neg this]
    · simp [h1, h2]
def adL (k : Nat) : List Nat := if k = 2 then [30, 10] else if k = 3 then [10] else if k = 4 then [50, 10] else if k = 5 then [30, 10] else if k = 6 then [71, 10] else [10]
def adX (k i v : Nat) (x : Int32) : Int32 := if k = 2 then x * nI 3 + nI i else if k = 3 then x + nI i else if k = 4 then -(x + nI i) else if k = 5 then x * nI 3 + nI i else if k = 6 then (x + nI i) ^^^ nI v else x + nI i
theorem adL_len (k : Nat) : (adL k).length ≤ 2 := by
  unfold adL
  repeat' split
  all_goals decide
def psL (k : Nat) : List Nat := [11] ++ adL k
def psX (k i v : Nat) (x : Int32) : Int32 := adX k i v x - nI v
def ssL (k : Nat) : List Nat := [20] ++ psL k
def ssX (k i v : Nat) (x : Int32) : Int32 := psX k i v x ^^^ nI 6
def akL (k : Nat) : List Nat := if k = 0 then psL k else if k = 1 then ssL k else if k = 2 then psL k else if k = 3 then psL k else if k = 4 then [51] ++ ssL k else if k = 5 then psL k else ([70] ++ psL k) ++ [10]
def akX (k i v : Nat) (x : Int32) : Int32 := if k = 0 then psX k i v x else if k = 1 then ssX k i v x else if k = 2 then psX k i v x else if k = 3 then psX k i v x else if k = 4 then ssX k i v (x + nI 1) else if k = 5 then psX k i v x else psX k i v x + (nI 2 + nI i)
theorem psL_len (k : Nat) : (psL k).length ≤ 3 := by
  have := adL_len k
  unfold psL
  rw [List.length_append]
  show 1 + _ ≤ 3
  omega
theorem ssL_len (k : Nat) : (ssL k).length ≤ 4 := by
  have := psL_len k
  unfold ssL
  rw [List.length_append]
  show 1 + _ ≤ 4
  omega
theorem akL_len (k : Nat) : (akL k).length ≤ 5 := by
  have h1 := psL_len k
  have h2 := ssL_len k
  unfold akL
  repeat' split
  all_goals first | omega | (simp only [List.length_append, List.length_cons, List.length_nil]; omega)
def ptL (k : Nat) : List Nat := [12] ++ akL k
def ptX (k i v : Nat) (x : Int32) : Int32 := akX k i v x * nI 2
theorem ptL_len (k : Nat) : (ptL k).length ≤ 6 := by
  have := akL_len k
  unfold ptL
  rw [List.length_append]
  show 1 + _ ≤ 6
  omega
def teL (k : Nat) : List Nat := if k = 3 then ([40] ++ ptL k) ++ akL k else if k = 4 then ptL k else if k = 5 then [60] ++ ptL k else if k = 6 then ([40] ++ ptL k) ++ akL k else ptL k
def teX (k i v : Nat) (x : Int32) : Int32 := if k = 3 then ptX k i v x + akX k i v (nI 1) else if k = 4 then ptX k i v x else if k = 5 then ptX k i v (x - nI i) else if k = 6 then ptX k i v x + akX k i v (nI 1) else ptX k i v x
theorem bdsG_71 (g : Nat → Nat → Nat) (l : List Nat) : bdsG g l 166 71 = g 166 71 + l.length := rfl
theorem C_body {L : Nat} {xs : Nat → Int32} (d : Nat) (g : Nat → Nat → Nat) (hl : Nat → Nat → Int64) (rt : Nat × Nat × Nat × Nat) (b : Nat) (hr : g 166 71 + 1 ≤ 60) {Q : Po} (hq : Q none (HN (bdsG g [b]) hl (RF rt))) : Ev L xs d 223 0 [(0, .ref 166), (1, .int (nI b))] [] (HN g hl (RF rt)) Q := by
  refine Ev.run 4 (pc' := (if nI 20 ≤ nI (g 166 71) then 19 else 9)) (lv' := [(0, .ref 166), (1, .int (nI b))]) (st' := []) (h' := HN g hl (RF rt)) rfl ?_
  refine Ev.ite (fun hc6 => ?_) (fun hc6 => ?_)
  · have hc6 : 20 ≤ (g 166 71) := (nI_leI (by omega) (by omega)).mp hc6
    refine Ev.run 5 (pc' := 26) (lv' := [(0, .ref 166), (1, .int (nI b))]) (st' := [.int (nI (g 166 71) + nI 1), .ref 166]) (h' := HN g hl (RF rt)) rfl ?_
    refine Ev.topI (nI_add _ _) ?_
    refine Ev.run 1 (pc' := 29) (lv' := [(0, .ref 166), (1, .int (nI b))]) (st' := []) (h' := setI (HN g hl (RF rt)) 166 71 (nI ((g 166 71) + 1))) rfl ?_
    refine Ev.hp (HN_set _ _ _ _ _ _) ?_
    refine Ev.ret (v := none) rfl ?_
    rw [bds_1b g b hc6]
    exact hq
  · have hc6 : ¬ (20 ≤ (g 166 71)) := fun z => hc6 ((nI_leI (by omega) (by omega)).mpr z)
    refine Ev.run 5 (pc' := 18) (lv' := [(0, .ref 166), (1, .int (nI b))]) (st' := [.int (nI b), .int (nI (g 166 71)), .ref 205]) (h' := HN g hl (RF rt)) rfl ?_
    refine Ev_iast rfl rfl (show g 166 71 < 20 by omega) (Nat.le_of_ble_eq_true rfl) ?_
    refine Ev.run 5 (pc' := 26) (lv' := [(0, .ref 166), (1, .int (nI b))]) (st' := [.int (nI (g 166 71) + nI 1), .ref 166]) (h' := HN (u2 g 205 (g 166 71) b) hl (RF rt)) rfl ?_
    refine Ev.topI (nI_add _ _) ?_
    refine Ev.run 1 (pc' := 29) (lv' := [(0, .ref 166), (1, .int (nI b))]) (st' := []) (h' := setI (HN (u2 g 205 (g 166 71) b) hl (RF rt)) 166 71 (nI ((g 166 71) + 1))) rfl ?_
    refine Ev.hp (HN_set _ _ _ _ _ _) ?_
    refine Ev.ret (v := none) rfl ?_
    rw [bds_1a g b hc6]
    exact hq
theorem C_playerAdds {L : Nat} {xs : Nat → Int32} (d : Nat) (g : Nat → Nat → Nat) (hl : Nat → Nat → Int64) (rt : Nat × Nat × Nat × Nat) (i : Nat) (hi5 : i < 5) (x : Int32) (hr : g 166 71 + 1 ≤ 60) {Q : Po} (hq : Q (some (.int (x + nI i))) (HN (bdsG g [10]) hl (RF rt))) : Ev L xs (d + 1) 224 0 [(0, .ref 166), (1, .int (nI i)), (2, .int (x))] [] (HN g hl (RF rt)) Q := by
  refine Ev.run 2 (pc' := 3) (lv' := [(0, .ref 166), (1, .int (nI i)), (2, .int (x))]) (st' := [.int (nI 10), .ref 166]) (h' := HN g hl (RF rt)) rfl ?_
  refine Ev.call (a := 223) (as := [.ref 166, .int (nI 10)]) (rest := []) (lv0 := [(0, .ref 166), (1, .int (nI 10))]) (Q1 := (fun z0 h' => z0 = none ∧ h' = HN (bdsG g [10]) hl (RF rt))) rfl rfl (C_body _ g _ _ 10 (show _ + 1 ≤ 60 by first | omega | (rw [bdsG_71]; simp only [List.length_append, List.length_cons, List.length_nil]; omega)) ⟨rfl, rfl⟩) (fun r h' hr => ?_)
  obtain ⟨rfl, rfl⟩ := hr
  refine Ev.run 3 (pc' := 9) (lv' := [(0, .ref 166), (1, .int (nI i)), (2, .int (x))]) (st' := [.int (x + nI i)]) (h' := HN (bdsG g [10]) hl (RF rt)) rfl ?_
  refine Ev.ret (v := some (.int (x + nI i))) rfl ?_
  exact hq
theorem C_addsAct {L : Nat} {xs : Nat → Int32} (d : Nat) (g : Nat → Nat → Nat) (hl : Nat → Nat → Int64) (rt : Nat × Nat × Nat × Nat) (i : Nat) (hi5 : i < 5) (x : Int32) (hk : g 171 i ≤ 6) (hv : g 172 i ≤ 9) (hr : g 166 71 + 2 ≤ 60) {Q : Po} (hq : Q (some (.int (adX (g 171 i) i (g 172 i) x))) (HN (bdsG g (adL (g 171 i))) hl (RF rt))) : Ev L xs (d + 2) 225 0 [(0, .ref 166), (1, .int (nI i)), (2, .int (x))] [] (HN g hl (RF rt)) Q := by
  have hadl := adL_len (g 171 i)
  have hpsl := psL_len (g 171 i)
  have hssl := ssL_len (g 171 i)
  have hakl := akL_len (g 171 i)
  have hptl := ptL_len (g 171 i)
  refine Ev.run 3 (pc' := 5) (lv' := [(0, .ref 166), (1, .int (nI i)), (2, .int (x))]) (st' := [.int (nI i), .ref 171]) (h' := HN g hl (RF rt)) rfl ?_
  refine Ev_iald rfl rfl (show i < 5 by omega) (Nat.le_of_ble_eq_true rfl) ?_
  by_cases hs6_2 : g 171 i = 2
  · refine Ev.topI (congrArg nI hs6_2) ?_
    refine Ev.run 3 (pc' := 43) (lv' := [(0, .ref 166), (1, .int (nI i)), (2, .int (x))]) (st' := [.int (nI 30), .ref 166]) (h' := HN g hl (RF rt)) rfl ?_
    refine Ev.call (a := 223) (as := [.ref 166, .int (nI 30)]) (rest := []) (lv0 := [(0, .ref 166), (1, .int (nI 30))]) (Q1 := (fun z0 h' => z0 = none ∧ h' = HN (bdsG g [30]) hl (RF rt))) rfl rfl (C_body _ g _ _ 30 (show _ + 1 ≤ 60 by first | omega | (rw [bdsG_71]; simp only [List.length_append, List.length_cons, List.length_nil]; omega)) ⟨rfl, rfl⟩) (fun r h' hr => ?_)
    obtain ⟨rfl, rfl⟩ := hr
    refine Ev.run 5 (pc' := 51) (lv' := [(0, .ref 166), (1, .int (nI i)), (2, .int (x))]) (st' := [.int (x * nI 3), .int (nI i), .ref 166]) (h' := HN (bdsG g [30]) hl (RF rt)) rfl ?_
    refine Ev.call (a := 224) (as := [.ref 166, .int (nI i), .int (x * nI 3)]) (rest := []) (lv0 := [(0, .ref 166), (1, .int (nI i)), (2, .int (x * nI 3))]) (Q1 := (fun z0 h' => z0 = some (.int ((x * nI 3) + nI i)) ∧ h' = HN (bdsG g ([30] ++ [10])) hl (RF rt))) rfl rfl (C_playerAdds _ (bdsG g [30]) _ _ i hi5 (x * nI 3)  (show _ + 1 ≤ 60 by first | omega | (rw [bdsG_71]; simp only [List.length_append, List.length_cons, List.length_nil]; omega)) ⟨rfl, congrArg (fun z => HN z hl (RF rt)) (bds_c g [30] ([10]))⟩) (fun r h' hr => ?_)
    obtain ⟨rfl, rfl⟩ := hr
    refine Ev.ret (v := some (.int ((x * nI 3) + nI i))) rfl ?_
    unfold adL adX at hq
    simp only [if_pos hs6_2] at hq
    exact hq
  by_cases hs6_3 : g 171 i = 3
  · refine Ev.topI (congrArg nI hs6_3) ?_
    refine Ev.run 4 (pc' := 92) (lv' := [(0, .ref 166), (1, .int (nI i)), (2, .int (x))]) (st' := [.int (x), .int (nI i), .ref 166]) (h' := HN g hl (RF rt)) rfl ?_
    refine Ev.call (a := 224) (as := [.ref 166, .int (nI i), .int (x)]) (rest := []) (lv0 := [(0, .ref 166), (1, .int (nI i)), (2, .int (x))]) (Q1 := (fun z0 h' => z0 = some (.int (x + nI i)) ∧ h' = HN (bdsG g [10]) hl (RF rt))) rfl rfl (C_playerAdds _ g _ _ i hi5 x  (show _ + 1 ≤ 60 by first | omega | (rw [bdsG_71]; simp only [List.length_append, List.length_cons, List.length_nil]; omega)) ⟨rfl, rfl⟩) (fun r h' hr => ?_)
    obtain ⟨rfl, rfl⟩ := hr
    refine Ev.ret (v := some (.int (x + nI i))) rfl ?_
    unfold adL adX at hq
    simp only [if_neg hs6_2, if_pos hs6_3] at hq
    exact hq
  by_cases hs6_4 : g 171 i = 4
  · refine Ev.topI (congrArg nI hs6_4) ?_
    refine Ev.run 3 (pc' := 58) (lv' := [(0, .ref 166), (1, .int (nI i)), (2, .int (x))]) (st' := [.int (nI 50), .ref 166]) (h' := HN g hl (RF rt)) rfl ?_
    refine Ev.call (a := 223) (as := [.ref 166, .int (nI 50)]) (rest := []) (lv0 := [(0, .ref 166), (1, .int (nI 50))]) (Q1 := (fun z0 h' => z0 = none ∧ h' = HN (bdsG g [50]) hl (RF rt))) rfl rfl (C_body _ g _ _ 50 (show _ + 1 ≤ 60 by first | omega | (rw [bdsG_71]; simp only [List.length_append, List.length_cons, List.length_nil]; omega)) ⟨rfl, rfl⟩) (fun r h' hr => ?_)
    obtain ⟨rfl, rfl⟩ := hr
    refine Ev.run 3 (pc' := 64) (lv' := [(0, .ref 166), (1, .int (nI i)), (2, .int (x))]) (st' := [.int (x), .int (nI i), .ref 166]) (h' := HN (bdsG g [50]) hl (RF rt)) rfl ?_
    refine Ev.call (a := 224) (as := [.ref 166, .int (nI i), .int (x)]) (rest := []) (lv0 := [(0, .ref 166), (1, .int (nI i)), (2, .int (x))]) (Q1 := (fun z0 h' => z0 = some (.int (x + nI i)) ∧ h' = HN (bdsG g ([50] ++ [10])) hl (RF rt))) rfl rfl (C_playerAdds _ (bdsG g [50]) _ _ i hi5 x  (show _ + 1 ≤ 60 by first | omega | (rw [bdsG_71]; simp only [List.length_append, List.length_cons, List.length_nil]; omega)) ⟨rfl, congrArg (fun z => HN z hl (RF rt)) (bds_c g [50] ([10]))⟩) (fun r h' hr => ?_)
    obtain ⟨rfl, rfl⟩ := hr
    refine Ev.run 1 (pc' := 68) (lv' := [(0, .ref 166), (1, .int (nI i)), (2, .int (x))]) (st' := [.int (-(x + nI i))]) (h' := HN (bdsG g ([50] ++ [10])) hl (RF rt)) rfl ?_
    refine Ev.ret (v := some (.int (-(x + nI i)))) rfl ?_
    unfold adL adX at hq
    simp only [if_neg hs6_2, if_neg hs6_3, if_pos hs6_4] at hq
    exact hq
  by_cases hs6_5 : g 171 i = 5
  · refine Ev.topI (congrArg nI hs6_5) ?_
    refine Ev.run 3 (pc' := 43) (lv' := [(0, .ref 166), (1, .int (nI i)), (2, .int (x))]) (st' := [.int (nI 30), .ref 166]) (h' := HN g hl (RF rt)) rfl ?_
    refine Ev.call (a := 223) (as := [.ref 166, .int (nI 30)]) (rest := []) (lv0 := [(0, .ref 166), (1, .int (nI 30))]) (Q1 := (fun z0 h' => z0 = none ∧ h' = HN (bdsG g [30]) hl (RF rt))) rfl rfl (C_body _ g _ _ 30 (show _ + 1 ≤ 60 by first | omega | (rw [bdsG_71]; simp only [List.length_append, List.length_cons, List.length_nil]; omega)) ⟨rfl, rfl⟩) (fun r h' hr => ?_)
    obtain ⟨rfl, rfl⟩ := hr
    refine Ev.run 5 (pc' := 51) (lv' := [(0, .ref 166), (1, .int (nI i)), (2, .int (x))]) (st' := [.int (x * nI 3), .int (nI i), .ref 166]) (h' := HN (bdsG g [30]) hl (RF rt)) rfl ?_
    refine Ev.call (a := 224) (as := [.ref 166, .int (nI i), .int (x * nI 3)]) (rest := []) (lv0 := [(0, .ref 166), (1, .int (nI i)), (2, .int (x * nI 3))]) (Q1 := (fun z0 h' => z0 = some (.int ((x * nI 3) + nI i)) ∧ h' = HN (bdsG g ([30] ++ [10])) hl (RF rt))) rfl rfl (C_playerAdds _ (bdsG g [30]) _ _ i hi5 (x * nI 3)  (show _ + 1 ≤ 60 by first | omega | (rw [bdsG_71]; simp only [List.length_append, List.length_cons, List.length_nil]; omega)) ⟨rfl, congrArg (fun z => HN z hl (RF rt)) (bds_c g [30] ([10]))⟩) (fun r h' hr => ?_)
    obtain ⟨rfl, rfl⟩ := hr
    refine Ev.ret (v := some (.int ((x * nI 3) + nI i))) rfl ?_
    unfold adL adX at hq
    simp only [if_neg hs6_2, if_neg hs6_3, if_neg hs6_4, if_pos hs6_5] at hq
    exact hq
  by_cases hs6_6 : g 171 i = 6
  · refine Ev.topI (congrArg nI hs6_6) ?_
    refine Ev.run 3 (pc' := 72) (lv' := [(0, .ref 166), (1, .int (nI i)), (2, .int (x))]) (st' := [.int (nI 71), .ref 166]) (h' := HN g hl (RF rt)) rfl ?_
    refine Ev.call (a := 223) (as := [.ref 166, .int (nI 71)]) (rest := []) (lv0 := [(0, .ref 166), (1, .int (nI 71))]) (Q1 := (fun z0 h' => z0 = none ∧ h' = HN (bdsG g [71]) hl (RF rt))) rfl rfl (C_body _ g _ _ 71 (show _ + 1 ≤ 60 by first | omega | (rw [bdsG_71]; simp only [List.length_append, List.length_cons, List.length_nil]; omega)) ⟨rfl, rfl⟩) (fun r h' hr => ?_)
    obtain ⟨rfl, rfl⟩ := hr
    refine Ev.run 3 (pc' := 78) (lv' := [(0, .ref 166), (1, .int (nI i)), (2, .int (x))]) (st' := [.int (x), .int (nI i), .ref 166]) (h' := HN (bdsG g [71]) hl (RF rt)) rfl ?_
    refine Ev.call (a := 224) (as := [.ref 166, .int (nI i), .int (x)]) (rest := []) (lv0 := [(0, .ref 166), (1, .int (nI i)), (2, .int (x))]) (Q1 := (fun z0 h' => z0 = some (.int (x + nI i)) ∧ h' = HN (bdsG g ([71] ++ [10])) hl (RF rt))) rfl rfl (C_playerAdds _ (bdsG g [71]) _ _ i hi5 x  (show _ + 1 ≤ 60 by first | omega | (rw [bdsG_71]; simp only [List.length_append, List.length_cons, List.length_nil]; omega)) ⟨rfl, congrArg (fun z => HN z hl (RF rt)) (bds_c g [71] ([10]))⟩) (fun r h' hr => ?_)
    obtain ⟨rfl, rfl⟩ := hr
    refine Ev.run 3 (pc' := 86) (lv' := [(0, .ref 166), (1, .int (nI i)), (2, .int (x))]) (st' := [.int (nI i), .ref 172, .int (x + nI i)]) (h' := HN (bdsG g ([71] ++ [10])) hl (RF rt)) rfl ?_
    refine Ev_iald rfl rfl (show i < 5 by omega) (Nat.le_of_ble_eq_true rfl) ?_
    refine Ev.run 1 (pc' := 88) (lv' := [(0, .ref 166), (1, .int (nI i)), (2, .int (x))]) (st' := [.int ((x + nI i) ^^^ nI (g 172 i))]) (h' := HN (bdsG g ([71] ++ [10])) hl (RF rt)) rfl ?_
    refine Ev.ret (v := some (.int ((x + nI i) ^^^ nI (g 172 i)))) rfl ?_
    unfold adL adX at hq
    simp only [if_neg hs6_2, if_neg hs6_3, if_neg hs6_4, if_neg hs6_5, if_pos hs6_6] at hq
    exact hq
  refine Ev_tsOut (tgt := 89) rfl (sw_outL (x := (g 171 i)) (lo := 2) (hi := 6) (by omega) (by omega)) rfl ?_
  refine Ev.run 3 (pc' := 92) (lv' := [(0, .ref 166), (1, .int (nI i)), (2, .int (x))]) (st' := [.int (x), .int (nI i), .ref 166]) (h' := HN g hl (RF rt)) rfl ?_
  refine Ev.call (a := 224) (as := [.ref 166, .int (nI i), .int (x)]) (rest := []) (lv0 := [(0, .ref 166), (1, .int (nI i)), (2, .int (x))]) (Q1 := (fun z0 h' => z0 = some (.int (x + nI i)) ∧ h' = HN (bdsG g [10]) hl (RF rt))) rfl rfl (C_playerAdds _ g _ _ i hi5 x  (show _ + 1 ≤ 60 by first | omega | (rw [bdsG_71]; simp only [List.length_append, List.length_cons, List.length_nil]; omega)) ⟨rfl, rfl⟩) (fun r h' hr => ?_)
  obtain ⟨rfl, rfl⟩ := hr
  refine Ev.ret (v := some (.int (x + nI i))) rfl ?_
  unfold adL adX at hq
  simp only [if_neg hs6_2, if_neg hs6_3, if_neg hs6_4, if_neg hs6_5, if_neg hs6_6] at hq
  exact hq
theorem C_playerAsks {L : Nat} {xs : Nat → Int32} (d : Nat) (g : Nat → Nat → Nat) (hl : Nat → Nat → Int64) (rt : Nat × Nat × Nat × Nat) (i : Nat) (hi5 : i < 5) (x : Int32) (hk : g 171 i ≤ 6) (hv : g 172 i ≤ 9) (hr : g 166 71 + 3 ≤ 60) {Q : Po} (hq : Q (some (.int (psX (g 171 i) i (g 172 i) x))) (HN (bdsG g (psL (g 171 i))) hl (RF rt))) : Ev L xs (d + 3) 226 0 [(0, .ref 166), (1, .int (nI i)), (2, .int (x))] [] (HN g hl (RF rt)) Q := by
  have hadl := adL_len (g 171 i)
  have hpsl := psL_len (g 171 i)
  have hssl := ssL_len (g 171 i)
  have hakl := akL_len (g 171 i)
  have hptl := ptL_len (g 171 i)
  refine Ev.run 2 (pc' := 3) (lv' := [(0, .ref 166), (1, .int (nI i)), (2, .int (x))]) (st' := [.int (nI 11), .ref 166]) (h' := HN g hl (RF rt)) rfl ?_
  refine Ev.call (a := 223) (as := [.ref 166, .int (nI 11)]) (rest := []) (lv0 := [(0, .ref 166), (1, .int (nI 11))]) (Q1 := (fun z0 h' => z0 = none ∧ h' = HN (bdsG g [11]) hl (RF rt))) rfl rfl (C_body _ g _ _ 11 (show _ + 1 ≤ 60 by first | omega | (rw [bdsG_71]; simp only [List.length_append, List.length_cons, List.length_nil]; omega)) ⟨rfl, rfl⟩) (fun r h' hr => ?_)
  obtain ⟨rfl, rfl⟩ := hr
  refine Ev.run 3 (pc' := 9) (lv' := [(0, .ref 166), (1, .int (nI i)), (2, .int (x))]) (st' := [.int (x), .int (nI i), .ref 166]) (h' := HN (bdsG g [11]) hl (RF rt)) rfl ?_
  refine Ev.call (a := 225) (as := [.ref 166, .int (nI i), .int (x)]) (rest := []) (lv0 := [(0, .ref 166), (1, .int (nI i)), (2, .int (x))]) (Q1 := (fun z0 h' => z0 = some (.int (adX (g 171 i) i (g 172 i) x)) ∧ h' = HN (bdsG g ([11] ++ (adL (g 171 i)))) hl (RF rt))) rfl rfl (C_addsAct _ (bdsG g [11]) _ _ i hi5 x hk hv  (show _ + 2 ≤ 60 by first | omega | (rw [bdsG_71]; simp only [List.length_append, List.length_cons, List.length_nil]; omega)) ⟨rfl, congrArg (fun z => HN z hl (RF rt)) (bds_c g [11] (adL (g 171 i)))⟩) (fun r h' hr => ?_)
  obtain ⟨rfl, rfl⟩ := hr
  refine Ev.run 3 (pc' := 17) (lv' := [(0, .ref 166), (1, .int (nI i)), (2, .int (x))]) (st' := [.int (nI i), .ref 172, .int (adX (g 171 i) i (g 172 i) x)]) (h' := HN (bdsG g ([11] ++ (adL (g 171 i)))) hl (RF rt)) rfl ?_
  refine Ev_iald rfl rfl (show i < 5 by omega) (Nat.le_of_ble_eq_true rfl) ?_
  refine Ev.run 1 (pc' := 19) (lv' := [(0, .ref 166), (1, .int (nI i)), (2, .int (x))]) (st' := [.int ((adX (g 171 i) i (g 172 i) x) - nI (g 172 i))]) (h' := HN (bdsG g ([11] ++ (adL (g 171 i)))) hl (RF rt)) rfl ?_
  refine Ev.ret (v := some (.int ((adX (g 171 i) i (g 172 i) x) - nI (g 172 i)))) rfl ?_
  unfold psL psX at hq
  exact hq
theorem C_slyAsks {L : Nat} {xs : Nat → Int32} (d : Nat) (g : Nat → Nat → Nat) (hl : Nat → Nat → Int64) (rt : Nat × Nat × Nat × Nat) (i : Nat) (hi5 : i < 5) (x : Int32) (hk : g 171 i ≤ 6) (hv : g 172 i ≤ 9) (hr : g 166 71 + 4 ≤ 60) {Q : Po} (hq : Q (some (.int (ssX (g 171 i) i (g 172 i) x))) (HN (bdsG g (ssL (g 171 i))) hl (RF rt))) : Ev L xs (d + 4) 227 0 [(0, .ref 166), (1, .int (nI i)), (2, .int (x))] [] (HN g hl (RF rt)) Q := by
  have hadl := adL_len (g 171 i)
  have hpsl := psL_len (g 171 i)
  have hssl := ssL_len (g 171 i)
  have hakl := akL_len (g 171 i)
  have hptl := ptL_len (g 171 i)
  refine Ev.run 2 (pc' := 3) (lv' := [(0, .ref 166), (1, .int (nI i)), (2, .int (x))]) (st' := [.int (nI 20), .ref 166]) (h' := HN g hl (RF rt)) rfl ?_
  refine Ev.call (a := 223) (as := [.ref 166, .int (nI 20)]) (rest := []) (lv0 := [(0, .ref 166), (1, .int (nI 20))]) (Q1 := (fun z0 h' => z0 = none ∧ h' = HN (bdsG g [20]) hl (RF rt))) rfl rfl (C_body _ g _ _ 20 (show _ + 1 ≤ 60 by first | omega | (rw [bdsG_71]; simp only [List.length_append, List.length_cons, List.length_nil]; omega)) ⟨rfl, rfl⟩) (fun r h' hr => ?_)
  obtain ⟨rfl, rfl⟩ := hr
  refine Ev.run 3 (pc' := 9) (lv' := [(0, .ref 166), (1, .int (nI i)), (2, .int (x))]) (st' := [.int (x), .int (nI i), .ref 166]) (h' := HN (bdsG g [20]) hl (RF rt)) rfl ?_
  refine Ev.call (a := 226) (as := [.ref 166, .int (nI i), .int (x)]) (rest := []) (lv0 := [(0, .ref 166), (1, .int (nI i)), (2, .int (x))]) (Q1 := (fun z0 h' => z0 = some (.int (psX (g 171 i) i (g 172 i) x)) ∧ h' = HN (bdsG g ([20] ++ (psL (g 171 i)))) hl (RF rt))) rfl rfl (C_playerAsks _ (bdsG g [20]) _ _ i hi5 x hk hv  (show _ + 3 ≤ 60 by first | omega | (rw [bdsG_71]; simp only [List.length_append, List.length_cons, List.length_nil]; omega)) ⟨rfl, congrArg (fun z => HN z hl (RF rt)) (bds_c g [20] (psL (g 171 i)))⟩) (fun r h' hr => ?_)
  obtain ⟨rfl, rfl⟩ := hr
  refine Ev.run 2 (pc' := 15) (lv' := [(0, .ref 166), (1, .int (nI i)), (2, .int (x))]) (st' := [.int ((psX (g 171 i) i (g 172 i) x) ^^^ nI 6)]) (h' := HN (bdsG g ([20] ++ (psL (g 171 i)))) hl (RF rt)) rfl ?_
  refine Ev.ret (v := some (.int ((psX (g 171 i) i (g 172 i) x) ^^^ nI 6))) rfl ?_
  unfold ssL ssX at hq
  exact hq
theorem C_asksAct {L : Nat} {xs : Nat → Int32} (d : Nat) (g : Nat → Nat → Nat) (hl : Nat → Nat → Int64) (rt : Nat × Nat × Nat × Nat) (i : Nat) (hi5 : i < 5) (x : Int32) (hk : g 171 i ≤ 6) (hv : g 172 i ≤ 9) (hr : g 166 71 + 5 ≤ 60) {Q : Po} (hq : Q (some (.int (akX (g 171 i) i (g 172 i) x))) (HN (bdsG g (akL (g 171 i))) hl (RF rt))) : Ev L xs (d + 5) 228 0 [(0, .ref 166), (1, .int (nI i)), (2, .int (x))] [] (HN g hl (RF rt)) Q := by
  have hadl := adL_len (g 171 i)
  have hpsl := psL_len (g 171 i)
  have hssl := ssL_len (g 171 i)
  have hakl := akL_len (g 171 i)
  have hptl := ptL_len (g 171 i)
  refine Ev.run 3 (pc' := 5) (lv' := [(0, .ref 166), (1, .int (nI i)), (2, .int (x))]) (st' := [.int (nI i), .ref 171]) (h' := HN g hl (RF rt)) rfl ?_
  refine Ev_iald rfl rfl (show i < 5 by omega) (Nat.le_of_ble_eq_true rfl) ?_
  by_cases hs6_0 : g 171 i = 0
  · refine Ev.topI (congrArg nI hs6_0) ?_
    refine Ev.run 4 (pc' := 87) (lv' := [(0, .ref 166), (1, .int (nI i)), (2, .int (x))]) (st' := [.int (x), .int (nI i), .ref 166]) (h' := HN g hl (RF rt)) rfl ?_
    refine Ev.call (a := 226) (as := [.ref 166, .int (nI i), .int (x)]) (rest := []) (lv0 := [(0, .ref 166), (1, .int (nI i)), (2, .int (x))]) (Q1 := (fun z0 h' => z0 = some (.int (psX (g 171 i) i (g 172 i) x)) ∧ h' = HN (bdsG g (psL (g 171 i))) hl (RF rt))) rfl rfl (C_playerAsks _ g _ _ i hi5 x hk hv  (show _ + 3 ≤ 60 by first | omega | (rw [bdsG_71]; simp only [List.length_append, List.length_cons, List.length_nil]; omega)) ⟨rfl, rfl⟩) (fun r h' hr => ?_)
    obtain ⟨rfl, rfl⟩ := hr
    refine Ev.ret (v := some (.int (psX (g 171 i) i (g 172 i) x))) rfl ?_
    unfold akL akX at hq
    simp only [if_pos hs6_0] at hq
    exact hq
  by_cases hs6_1 : g 171 i = 1
  · refine Ev.topI (congrArg nI hs6_1) ?_
    refine Ev.run 4 (pc' := 43) (lv' := [(0, .ref 166), (1, .int (nI i)), (2, .int (x))]) (st' := [.int (x), .int (nI i), .ref 166]) (h' := HN g hl (RF rt)) rfl ?_
    refine Ev.call (a := 227) (as := [.ref 166, .int (nI i), .int (x)]) (rest := []) (lv0 := [(0, .ref 166), (1, .int (nI i)), (2, .int (x))]) (Q1 := (fun z0 h' => z0 = some (.int (ssX (g 171 i) i (g 172 i) x)) ∧ h' = HN (bdsG g (ssL (g 171 i))) hl (RF rt))) rfl rfl (C_slyAsks _ g _ _ i hi5 x hk hv  (show _ + 4 ≤ 60 by first | omega | (rw [bdsG_71]; simp only [List.length_append, List.length_cons, List.length_nil]; omega)) ⟨rfl, rfl⟩) (fun r h' hr => ?_)
    obtain ⟨rfl, rfl⟩ := hr
    refine Ev.ret (v := some (.int (ssX (g 171 i) i (g 172 i) x))) rfl ?_
    unfold akL akX at hq
    simp only [if_neg hs6_0, if_pos hs6_1] at hq
    exact hq
  by_cases hs6_2 : g 171 i = 2
  · refine Ev.topI (congrArg nI hs6_2) ?_
    refine Ev.run 4 (pc' := 87) (lv' := [(0, .ref 166), (1, .int (nI i)), (2, .int (x))]) (st' := [.int (x), .int (nI i), .ref 166]) (h' := HN g hl (RF rt)) rfl ?_
    refine Ev.call (a := 226) (as := [.ref 166, .int (nI i), .int (x)]) (rest := []) (lv0 := [(0, .ref 166), (1, .int (nI i)), (2, .int (x))]) (Q1 := (fun z0 h' => z0 = some (.int (psX (g 171 i) i (g 172 i) x)) ∧ h' = HN (bdsG g (psL (g 171 i))) hl (RF rt))) rfl rfl (C_playerAsks _ g _ _ i hi5 x hk hv  (show _ + 3 ≤ 60 by first | omega | (rw [bdsG_71]; simp only [List.length_append, List.length_cons, List.length_nil]; omega)) ⟨rfl, rfl⟩) (fun r h' hr => ?_)
    obtain ⟨rfl, rfl⟩ := hr
    refine Ev.ret (v := some (.int (psX (g 171 i) i (g 172 i) x))) rfl ?_
    unfold akL akX at hq
    simp only [if_neg hs6_0, if_neg hs6_1, if_pos hs6_2] at hq
    exact hq
  by_cases hs6_3 : g 171 i = 3
  · refine Ev.topI (congrArg nI hs6_3) ?_
    refine Ev.run 4 (pc' := 87) (lv' := [(0, .ref 166), (1, .int (nI i)), (2, .int (x))]) (st' := [.int (x), .int (nI i), .ref 166]) (h' := HN g hl (RF rt)) rfl ?_
    refine Ev.call (a := 226) (as := [.ref 166, .int (nI i), .int (x)]) (rest := []) (lv0 := [(0, .ref 166), (1, .int (nI i)), (2, .int (x))]) (Q1 := (fun z0 h' => z0 = some (.int (psX (g 171 i) i (g 172 i) x)) ∧ h' = HN (bdsG g (psL (g 171 i))) hl (RF rt))) rfl rfl (C_playerAsks _ g _ _ i hi5 x hk hv  (show _ + 3 ≤ 60 by first | omega | (rw [bdsG_71]; simp only [List.length_append, List.length_cons, List.length_nil]; omega)) ⟨rfl, rfl⟩) (fun r h' hr => ?_)
    obtain ⟨rfl, rfl⟩ := hr
    refine Ev.ret (v := some (.int (psX (g 171 i) i (g 172 i) x))) rfl ?_
    unfold akL akX at hq
    simp only [if_neg hs6_0, if_neg hs6_1, if_neg hs6_2, if_pos hs6_3] at hq
    exact hq
  by_cases hs6_4 : g 171 i = 4
  · refine Ev.topI (congrArg nI hs6_4) ?_
    refine Ev.run 3 (pc' := 50) (lv' := [(0, .ref 166), (1, .int (nI i)), (2, .int (x))]) (st' := [.int (nI 51), .ref 166]) (h' := HN g hl (RF rt)) rfl ?_
    refine Ev.call (a := 223) (as := [.ref 166, .int (nI 51)]) (rest := []) (lv0 := [(0, .ref 166), (1, .int (nI 51))]) (Q1 := (fun z0 h' => z0 = none ∧ h' = HN (bdsG g [51]) hl (RF rt))) rfl rfl (C_body _ g _ _ 51 (show _ + 1 ≤ 60 by first | omega | (rw [bdsG_71]; simp only [List.length_append, List.length_cons, List.length_nil]; omega)) ⟨rfl, rfl⟩) (fun r h' hr => ?_)
    obtain ⟨rfl, rfl⟩ := hr
    refine Ev.run 5 (pc' := 58) (lv' := [(0, .ref 166), (1, .int (nI i)), (2, .int (x))]) (st' := [.int (x + nI 1), .int (nI i), .ref 166]) (h' := HN (bdsG g [51]) hl (RF rt)) rfl ?_
    refine Ev.call (a := 227) (as := [.ref 166, .int (nI i), .int (x + nI 1)]) (rest := []) (lv0 := [(0, .ref 166), (1, .int (nI i)), (2, .int (x + nI 1))]) (Q1 := (fun z0 h' => z0 = some (.int (ssX (g 171 i) i (g 172 i) (x + nI 1))) ∧ h' = HN (bdsG g ([51] ++ (ssL (g 171 i)))) hl (RF rt))) rfl rfl (C_slyAsks _ (bdsG g [51]) _ _ i hi5 (x + nI 1) hk hv  (show _ + 4 ≤ 60 by first | omega | (rw [bdsG_71]; simp only [List.length_append, List.length_cons, List.length_nil]; omega)) ⟨rfl, congrArg (fun z => HN z hl (RF rt)) (bds_c g [51] (ssL (g 171 i)))⟩) (fun r h' hr => ?_)
    obtain ⟨rfl, rfl⟩ := hr
    refine Ev.ret (v := some (.int (ssX (g 171 i) i (g 172 i) (x + nI 1)))) rfl ?_
    unfold akL akX at hq
    simp only [if_neg hs6_0, if_neg hs6_1, if_neg hs6_2, if_neg hs6_3, if_pos hs6_4] at hq
    exact hq
  by_cases hs6_5 : g 171 i = 5
  · refine Ev.topI (congrArg nI hs6_5) ?_
    refine Ev.run 4 (pc' := 87) (lv' := [(0, .ref 166), (1, .int (nI i)), (2, .int (x))]) (st' := [.int (x), .int (nI i), .ref 166]) (h' := HN g hl (RF rt)) rfl ?_
    refine Ev.call (a := 226) (as := [.ref 166, .int (nI i), .int (x)]) (rest := []) (lv0 := [(0, .ref 166), (1, .int (nI i)), (2, .int (x))]) (Q1 := (fun z0 h' => z0 = some (.int (psX (g 171 i) i (g 172 i) x)) ∧ h' = HN (bdsG g (psL (g 171 i))) hl (RF rt))) rfl rfl (C_playerAsks _ g _ _ i hi5 x hk hv  (show _ + 3 ≤ 60 by first | omega | (rw [bdsG_71]; simp only [List.length_append, List.length_cons, List.length_nil]; omega)) ⟨rfl, rfl⟩) (fun r h' hr => ?_)
    obtain ⟨rfl, rfl⟩ := hr
    refine Ev.ret (v := some (.int (psX (g 171 i) i (g 172 i) x))) rfl ?_
    unfold akL akX at hq
    simp only [if_neg hs6_0, if_neg hs6_1, if_neg hs6_2, if_neg hs6_3, if_neg hs6_4, if_pos hs6_5] at hq
    exact hq
  by_cases hs6_6 : g 171 i = 6
  · refine Ev.topI (congrArg nI hs6_6) ?_
    refine Ev.run 3 (pc' := 65) (lv' := [(0, .ref 166), (1, .int (nI i)), (2, .int (x))]) (st' := [.int (nI 70), .ref 166]) (h' := HN g hl (RF rt)) rfl ?_
    refine Ev.call (a := 223) (as := [.ref 166, .int (nI 70)]) (rest := []) (lv0 := [(0, .ref 166), (1, .int (nI 70))]) (Q1 := (fun z0 h' => z0 = none ∧ h' = HN (bdsG g [70]) hl (RF rt))) rfl rfl (C_body _ g _ _ 70 (show _ + 1 ≤ 60 by first | omega | (rw [bdsG_71]; simp only [List.length_append, List.length_cons, List.length_nil]; omega)) ⟨rfl, rfl⟩) (fun r h' hr => ?_)
    obtain ⟨rfl, rfl⟩ := hr
    refine Ev.run 3 (pc' := 71) (lv' := [(0, .ref 166), (1, .int (nI i)), (2, .int (x))]) (st' := [.int (x), .int (nI i), .ref 166]) (h' := HN (bdsG g [70]) hl (RF rt)) rfl ?_
    refine Ev.call (a := 226) (as := [.ref 166, .int (nI i), .int (x)]) (rest := []) (lv0 := [(0, .ref 166), (1, .int (nI i)), (2, .int (x))]) (Q1 := (fun z0 h' => z0 = some (.int (psX (g 171 i) i (g 172 i) x)) ∧ h' = HN (bdsG g ([70] ++ (psL (g 171 i)))) hl (RF rt))) rfl rfl (C_playerAsks _ (bdsG g [70]) _ _ i hi5 x hk hv  (show _ + 3 ≤ 60 by first | omega | (rw [bdsG_71]; simp only [List.length_append, List.length_cons, List.length_nil]; omega)) ⟨rfl, congrArg (fun z => HN z hl (RF rt)) (bds_c g [70] (psL (g 171 i)))⟩) (fun r h' hr => ?_)
    obtain ⟨rfl, rfl⟩ := hr
    refine Ev.run 5 (pc' := 79) (lv' := [(3, .int (psX (g 171 i) i (g 172 i) x)), (0, .ref 166), (1, .int (nI i)), (2, .int (x))]) (st' := [.int (nI 2), .int (nI i), .ref 166, .int (psX (g 171 i) i (g 172 i) x)]) (h' := HN (bdsG g ([70] ++ (psL (g 171 i)))) hl (RF rt)) rfl ?_
    refine Ev.call (a := 224) (as := [.ref 166, .int (nI i), .int (nI 2)]) (rest := [.int (psX (g 171 i) i (g 172 i) x)]) (lv0 := [(0, .ref 166), (1, .int (nI i)), (2, .int (nI 2))]) (Q1 := (fun z0 h' => z0 = some (.int ((nI 2) + nI i)) ∧ h' = HN (bdsG g (([70] ++ (psL (g 171 i))) ++ [10])) hl (RF rt))) rfl rfl (C_playerAdds _ (bdsG g ([70] ++ (psL (g 171 i)))) _ _ i hi5 (nI 2)  (show _ + 1 ≤ 60 by first | omega | (rw [bdsG_71]; simp only [List.length_append, List.length_cons, List.length_nil]; omega)) ⟨rfl, congrArg (fun z => HN z hl (RF rt)) (bds_c g ([70] ++ (psL (g 171 i))) ([10]))⟩) (fun r h' hr => ?_)
    obtain ⟨rfl, rfl⟩ := hr
    refine Ev.run 1 (pc' := 83) (lv' := [(3, .int (psX (g 171 i) i (g 172 i) x)), (0, .ref 166), (1, .int (nI i)), (2, .int (x))]) (st' := [.int ((psX (g 171 i) i (g 172 i) x) + ((nI 2) + nI i))]) (h' := HN (bdsG g (([70] ++ (psL (g 171 i))) ++ [10])) hl (RF rt)) rfl ?_
    refine Ev.ret (v := some (.int ((psX (g 171 i) i (g 172 i) x) + ((nI 2) + nI i)))) rfl ?_
    unfold akL akX at hq
    simp only [if_neg hs6_0, if_neg hs6_1, if_neg hs6_2, if_neg hs6_3, if_neg hs6_4, if_neg hs6_5, if_pos hs6_6] at hq
    exact hq
  exfalso
  omega
theorem C_playerTells {L : Nat} {xs : Nat → Int32} (d : Nat) (g : Nat → Nat → Nat) (hl : Nat → Nat → Int64) (rt : Nat × Nat × Nat × Nat) (i : Nat) (hi5 : i < 5) (x : Int32) (hk : g 171 i ≤ 6) (hv : g 172 i ≤ 9) (hr : g 166 71 + 6 ≤ 60) {Q : Po} (hq : Q (some (.int (ptX (g 171 i) i (g 172 i) x))) (HN (bdsG g (ptL (g 171 i))) hl (RF rt))) : Ev L xs (d + 6) 229 0 [(0, .ref 166), (1, .int (nI i)), (2, .int (x))] [] (HN g hl (RF rt)) Q := by
  have hadl := adL_len (g 171 i)
  have hpsl := psL_len (g 171 i)
  have hssl := ssL_len (g 171 i)
  have hakl := akL_len (g 171 i)
  have hptl := ptL_len (g 171 i)
  refine Ev.run 2 (pc' := 3) (lv' := [(0, .ref 166), (1, .int (nI i)), (2, .int (x))]) (st' := [.int (nI 12), .ref 166]) (h' := HN g hl (RF rt)) rfl ?_
  refine Ev.call (a := 223) (as := [.ref 166, .int (nI 12)]) (rest := []) (lv0 := [(0, .ref 166), (1, .int (nI 12))]) (Q1 := (fun z0 h' => z0 = none ∧ h' = HN (bdsG g [12]) hl (RF rt))) rfl rfl (C_body _ g _ _ 12 (show _ + 1 ≤ 60 by first | omega | (rw [bdsG_71]; simp only [List.length_append, List.length_cons, List.length_nil]; omega)) ⟨rfl, rfl⟩) (fun r h' hr => ?_)
  obtain ⟨rfl, rfl⟩ := hr
  refine Ev.run 3 (pc' := 9) (lv' := [(0, .ref 166), (1, .int (nI i)), (2, .int (x))]) (st' := [.int (x), .int (nI i), .ref 166]) (h' := HN (bdsG g [12]) hl (RF rt)) rfl ?_
  refine Ev.call (a := 228) (as := [.ref 166, .int (nI i), .int (x)]) (rest := []) (lv0 := [(0, .ref 166), (1, .int (nI i)), (2, .int (x))]) (Q1 := (fun z0 h' => z0 = some (.int (akX (g 171 i) i (g 172 i) x)) ∧ h' = HN (bdsG g ([12] ++ (akL (g 171 i)))) hl (RF rt))) rfl rfl (C_asksAct _ (bdsG g [12]) _ _ i hi5 x hk hv  (show _ + 5 ≤ 60 by first | omega | (rw [bdsG_71]; simp only [List.length_append, List.length_cons, List.length_nil]; omega)) ⟨rfl, congrArg (fun z => HN z hl (RF rt)) (bds_c g [12] (akL (g 171 i)))⟩) (fun r h' hr => ?_)
  obtain ⟨rfl, rfl⟩ := hr
  refine Ev.run 2 (pc' := 14) (lv' := [(0, .ref 166), (1, .int (nI i)), (2, .int (x))]) (st' := [.int ((akX (g 171 i) i (g 172 i) x) * nI 2)]) (h' := HN (bdsG g ([12] ++ (akL (g 171 i)))) hl (RF rt)) rfl ?_
  refine Ev.ret (v := some (.int ((akX (g 171 i) i (g 172 i) x) * nI 2))) rfl ?_
  unfold ptL ptX at hq
  exact hq
theorem C_tellsAct {L : Nat} {xs : Nat → Int32} (d : Nat) (g : Nat → Nat → Nat) (hl : Nat → Nat → Int64) (rt : Nat × Nat × Nat × Nat) (i : Nat) (hi5 : i < 5) (x : Int32) (hk : g 171 i ≤ 6) (hv : g 172 i ≤ 9) (hr : g 166 71 + 13 ≤ 60) {Q : Po} (hq : Q (some (.int (teX (g 171 i) i (g 172 i) x))) (HN (bdsG g (teL (g 171 i))) hl (RF rt))) : Ev L xs (d + 7) 230 0 [(0, .ref 166), (1, .int (nI i)), (2, .int (x))] [] (HN g hl (RF rt)) Q := by
  have hadl := adL_len (g 171 i)
  have hpsl := psL_len (g 171 i)
  have hssl := ssL_len (g 171 i)
  have hakl := akL_len (g 171 i)
  have hptl := ptL_len (g 171 i)
  refine Ev.run 3 (pc' := 5) (lv' := [(0, .ref 166), (1, .int (nI i)), (2, .int (x))]) (st' := [.int (nI i), .ref 171]) (h' := HN g hl (RF rt)) rfl ?_
  refine Ev_iald rfl rfl (show i < 5 by omega) (Nat.le_of_ble_eq_true rfl) ?_
  by_cases hs6_3 : g 171 i = 3
  · refine Ev.topI (congrArg nI hs6_3) ?_
    refine Ev.run 3 (pc' := 39) (lv' := [(0, .ref 166), (1, .int (nI i)), (2, .int (x))]) (st' := [.int (nI 40), .ref 166]) (h' := HN g hl (RF rt)) rfl ?_
    refine Ev.call (a := 223) (as := [.ref 166, .int (nI 40)]) (rest := []) (lv0 := [(0, .ref 166), (1, .int (nI 40))]) (Q1 := (fun z0 h' => z0 = none ∧ h' = HN (bdsG g [40]) hl (RF rt))) rfl rfl (C_body _ g _ _ 40 (show _ + 1 ≤ 60 by first | omega | (rw [bdsG_71]; simp only [List.length_append, List.length_cons, List.length_nil]; omega)) ⟨rfl, rfl⟩) (fun r h' hr => ?_)
    obtain ⟨rfl, rfl⟩ := hr
    refine Ev.run 3 (pc' := 45) (lv' := [(0, .ref 166), (1, .int (nI i)), (2, .int (x))]) (st' := [.int (x), .int (nI i), .ref 166]) (h' := HN (bdsG g [40]) hl (RF rt)) rfl ?_
    refine Ev.call (a := 229) (as := [.ref 166, .int (nI i), .int (x)]) (rest := []) (lv0 := [(0, .ref 166), (1, .int (nI i)), (2, .int (x))]) (Q1 := (fun z0 h' => z0 = some (.int (ptX (g 171 i) i (g 172 i) x)) ∧ h' = HN (bdsG g ([40] ++ (ptL (g 171 i)))) hl (RF rt))) rfl rfl (C_playerTells _ (bdsG g [40]) _ _ i hi5 x hk hv  (show _ + 6 ≤ 60 by first | omega | (rw [bdsG_71]; simp only [List.length_append, List.length_cons, List.length_nil]; omega)) ⟨rfl, congrArg (fun z => HN z hl (RF rt)) (bds_c g [40] (ptL (g 171 i)))⟩) (fun r h' hr => ?_)
    obtain ⟨rfl, rfl⟩ := hr
    refine Ev.run 5 (pc' := 53) (lv' := [(3, .int (ptX (g 171 i) i (g 172 i) x)), (0, .ref 166), (1, .int (nI i)), (2, .int (x))]) (st' := [.int (nI 1), .int (nI i), .ref 166, .int (ptX (g 171 i) i (g 172 i) x)]) (h' := HN (bdsG g ([40] ++ (ptL (g 171 i)))) hl (RF rt)) rfl ?_
    refine Ev.call (a := 228) (as := [.ref 166, .int (nI i), .int (nI 1)]) (rest := [.int (ptX (g 171 i) i (g 172 i) x)]) (lv0 := [(0, .ref 166), (1, .int (nI i)), (2, .int (nI 1))]) (Q1 := (fun z0 h' => z0 = some (.int (akX (g 171 i) i (g 172 i) (nI 1))) ∧ h' = HN (bdsG g (([40] ++ (ptL (g 171 i))) ++ (akL (g 171 i)))) hl (RF rt))) rfl rfl (C_asksAct _ (bdsG g ([40] ++ (ptL (g 171 i)))) _ _ i hi5 (nI 1) hk hv  (show _ + 5 ≤ 60 by first | omega | (rw [bdsG_71]; simp only [List.length_append, List.length_cons, List.length_nil]; omega)) ⟨rfl, congrArg (fun z => HN z hl (RF rt)) (bds_c g ([40] ++ (ptL (g 171 i))) (akL (g 171 i)))⟩) (fun r h' hr => ?_)
    obtain ⟨rfl, rfl⟩ := hr
    refine Ev.run 1 (pc' := 57) (lv' := [(3, .int (ptX (g 171 i) i (g 172 i) x)), (0, .ref 166), (1, .int (nI i)), (2, .int (x))]) (st' := [.int ((ptX (g 171 i) i (g 172 i) x) + (akX (g 171 i) i (g 172 i) (nI 1)))]) (h' := HN (bdsG g (([40] ++ (ptL (g 171 i))) ++ (akL (g 171 i)))) hl (RF rt)) rfl ?_
    refine Ev.ret (v := some (.int ((ptX (g 171 i) i (g 172 i) x) + (akX (g 171 i) i (g 172 i) (nI 1))))) rfl ?_
    unfold teL teX at hq
    simp only [if_pos hs6_3] at hq
    exact hq
  by_cases hs6_4 : g 171 i = 4
  · refine Ev.topI (congrArg nI hs6_4) ?_
    refine Ev.run 4 (pc' := 76) (lv' := [(0, .ref 166), (1, .int (nI i)), (2, .int (x))]) (st' := [.int (x), .int (nI i), .ref 166]) (h' := HN g hl (RF rt)) rfl ?_
    refine Ev.call (a := 229) (as := [.ref 166, .int (nI i), .int (x)]) (rest := []) (lv0 := [(0, .ref 166), (1, .int (nI i)), (2, .int (x))]) (Q1 := (fun z0 h' => z0 = some (.int (ptX (g 171 i) i (g 172 i) x)) ∧ h' = HN (bdsG g (ptL (g 171 i))) hl (RF rt))) rfl rfl (C_playerTells _ g _ _ i hi5 x hk hv  (show _ + 6 ≤ 60 by first | omega | (rw [bdsG_71]; simp only [List.length_append, List.length_cons, List.length_nil]; omega)) ⟨rfl, rfl⟩) (fun r h' hr => ?_)
    obtain ⟨rfl, rfl⟩ := hr
    refine Ev.ret (v := some (.int (ptX (g 171 i) i (g 172 i) x))) rfl ?_
    unfold teL teX at hq
    simp only [if_neg hs6_3, if_pos hs6_4] at hq
    exact hq
  by_cases hs6_5 : g 171 i = 5
  · refine Ev.topI (congrArg nI hs6_5) ?_
    refine Ev.run 3 (pc' := 61) (lv' := [(0, .ref 166), (1, .int (nI i)), (2, .int (x))]) (st' := [.int (nI 60), .ref 166]) (h' := HN g hl (RF rt)) rfl ?_
    refine Ev.call (a := 223) (as := [.ref 166, .int (nI 60)]) (rest := []) (lv0 := [(0, .ref 166), (1, .int (nI 60))]) (Q1 := (fun z0 h' => z0 = none ∧ h' = HN (bdsG g [60]) hl (RF rt))) rfl rfl (C_body _ g _ _ 60 (show _ + 1 ≤ 60 by first | omega | (rw [bdsG_71]; simp only [List.length_append, List.length_cons, List.length_nil]; omega)) ⟨rfl, rfl⟩) (fun r h' hr => ?_)
    obtain ⟨rfl, rfl⟩ := hr
    refine Ev.run 5 (pc' := 69) (lv' := [(0, .ref 166), (1, .int (nI i)), (2, .int (x))]) (st' := [.int (x - nI i), .int (nI i), .ref 166]) (h' := HN (bdsG g [60]) hl (RF rt)) rfl ?_
    refine Ev.call (a := 229) (as := [.ref 166, .int (nI i), .int (x - nI i)]) (rest := []) (lv0 := [(0, .ref 166), (1, .int (nI i)), (2, .int (x - nI i))]) (Q1 := (fun z0 h' => z0 = some (.int (ptX (g 171 i) i (g 172 i) (x - nI i))) ∧ h' = HN (bdsG g ([60] ++ (ptL (g 171 i)))) hl (RF rt))) rfl rfl (C_playerTells _ (bdsG g [60]) _ _ i hi5 (x - nI i) hk hv  (show _ + 6 ≤ 60 by first | omega | (rw [bdsG_71]; simp only [List.length_append, List.length_cons, List.length_nil]; omega)) ⟨rfl, congrArg (fun z => HN z hl (RF rt)) (bds_c g [60] (ptL (g 171 i)))⟩) (fun r h' hr => ?_)
    obtain ⟨rfl, rfl⟩ := hr
    refine Ev.ret (v := some (.int (ptX (g 171 i) i (g 172 i) (x - nI i)))) rfl ?_
    unfold teL teX at hq
    simp only [if_neg hs6_3, if_neg hs6_4, if_pos hs6_5] at hq
    exact hq
  by_cases hs6_6 : g 171 i = 6
  · refine Ev.topI (congrArg nI hs6_6) ?_
    refine Ev.run 3 (pc' := 39) (lv' := [(0, .ref 166), (1, .int (nI i)), (2, .int (x))]) (st' := [.int (nI 40), .ref 166]) (h' := HN g hl (RF rt)) rfl ?_
    refine Ev.call (a := 223) (as := [.ref 166, .int (nI 40)]) (rest := []) (lv0 := [(0, .ref 166), (1, .int (nI 40))]) (Q1 := (fun z0 h' => z0 = none ∧ h' = HN (bdsG g [40]) hl (RF rt))) rfl rfl (C_body _ g _ _ 40 (show _ + 1 ≤ 60 by first | omega | (rw [bdsG_71]; simp only [List.length_append, List.length_cons, List.length_nil]; omega)) ⟨rfl, rfl⟩) (fun r h' hr => ?_)
    obtain ⟨rfl, rfl⟩ := hr
    refine Ev.run 3 (pc' := 45) (lv' := [(0, .ref 166), (1, .int (nI i)), (2, .int (x))]) (st' := [.int (x), .int (nI i), .ref 166]) (h' := HN (bdsG g [40]) hl (RF rt)) rfl ?_
    refine Ev.call (a := 229) (as := [.ref 166, .int (nI i), .int (x)]) (rest := []) (lv0 := [(0, .ref 166), (1, .int (nI i)), (2, .int (x))]) (Q1 := (fun z0 h' => z0 = some (.int (ptX (g 171 i) i (g 172 i) x)) ∧ h' = HN (bdsG g ([40] ++ (ptL (g 171 i)))) hl (RF rt))) rfl rfl (C_playerTells _ (bdsG g [40]) _ _ i hi5 x hk hv  (show _ + 6 ≤ 60 by first | omega | (rw [bdsG_71]; simp only [List.length_append, List.length_cons, List.length_nil]; omega)) ⟨rfl, congrArg (fun z => HN z hl (RF rt)) (bds_c g [40] (ptL (g 171 i)))⟩) (fun r h' hr => ?_)
    obtain ⟨rfl, rfl⟩ := hr
    refine Ev.run 5 (pc' := 53) (lv' := [(3, .int (ptX (g 171 i) i (g 172 i) x)), (0, .ref 166), (1, .int (nI i)), (2, .int (x))]) (st' := [.int (nI 1), .int (nI i), .ref 166, .int (ptX (g 171 i) i (g 172 i) x)]) (h' := HN (bdsG g ([40] ++ (ptL (g 171 i)))) hl (RF rt)) rfl ?_
    refine Ev.call (a := 228) (as := [.ref 166, .int (nI i), .int (nI 1)]) (rest := [.int (ptX (g 171 i) i (g 172 i) x)]) (lv0 := [(0, .ref 166), (1, .int (nI i)), (2, .int (nI 1))]) (Q1 := (fun z0 h' => z0 = some (.int (akX (g 171 i) i (g 172 i) (nI 1))) ∧ h' = HN (bdsG g (([40] ++ (ptL (g 171 i))) ++ (akL (g 171 i)))) hl (RF rt))) rfl rfl (C_asksAct _ (bdsG g ([40] ++ (ptL (g 171 i)))) _ _ i hi5 (nI 1) hk hv  (show _ + 5 ≤ 60 by first | omega | (rw [bdsG_71]; simp only [List.length_append, List.length_cons, List.length_nil]; omega)) ⟨rfl, congrArg (fun z => HN z hl (RF rt)) (bds_c g ([40] ++ (ptL (g 171 i))) (akL (g 171 i)))⟩) (fun r h' hr => ?_)
    obtain ⟨rfl, rfl⟩ := hr
    refine Ev.run 1 (pc' := 57) (lv' := [(3, .int (ptX (g 171 i) i (g 172 i) x)), (0, .ref 166), (1, .int (nI i)), (2, .int (x))]) (st' := [.int ((ptX (g 171 i) i (g 172 i) x) + (akX (g 171 i) i (g 172 i) (nI 1)))]) (h' := HN (bdsG g (([40] ++ (ptL (g 171 i))) ++ (akL (g 171 i)))) hl (RF rt)) rfl ?_
    refine Ev.ret (v := some (.int ((ptX (g 171 i) i (g 172 i) x) + (akX (g 171 i) i (g 172 i) (nI 1))))) rfl ?_
    unfold teL teX at hq
    simp only [if_neg hs6_3, if_neg hs6_4, if_neg hs6_5, if_pos hs6_6] at hq
    exact hq
  refine Ev_tsOut (tgt := 73) rfl (sw_outL (x := (g 171 i)) (lo := 3) (hi := 6) (by omega) (by omega)) rfl ?_
  refine Ev.run 3 (pc' := 76) (lv' := [(0, .ref 166), (1, .int (nI i)), (2, .int (x))]) (st' := [.int (x), .int (nI i), .ref 166]) (h' := HN g hl (RF rt)) rfl ?_
  refine Ev.call (a := 229) (as := [.ref 166, .int (nI i), .int (x)]) (rest := []) (lv0 := [(0, .ref 166), (1, .int (nI i)), (2, .int (x))]) (Q1 := (fun z0 h' => z0 = some (.int (ptX (g 171 i) i (g 172 i) x)) ∧ h' = HN (bdsG g (ptL (g 171 i))) hl (RF rt))) rfl rfl (C_playerTells _ g _ _ i hi5 x hk hv  (show _ + 6 ≤ 60 by first | omega | (rw [bdsG_71]; simp only [List.length_append, List.length_cons, List.length_nil]; omega)) ⟨rfl, rfl⟩) (fun r h' hr => ?_)
  obtain ⟨rfl, rfl⟩ := hr
  refine Ev.ret (v := some (.int (ptX (g 171 i) i (g 172 i) x))) rfl ?_
  unfold teL teX at hq
  simp only [if_neg hs6_3, if_neg hs6_4, if_neg hs6_5, if_neg hs6_6] at hq
  exact hq
