/-! the class's reader: numbers, signs of the table, factors, expressions -/
theorem dgS_y {c : Nat} (h1 : 48 ≤ c) (h2 : c ≤ 57) : dgS c = c - 48 := by
  unfold dgS
  repeat' split
  all_goals omega
theorem dgS_n {c : Nat} (h : ¬ (48 ≤ c ∧ c ≤ 57)) : dgS c = 4294967295 := by
  unfold dgS
  repeat' split
  all_goals omega
theorem isDg_nx (g : Nat → Nat → Nat) (p : Nat) : isDg (pkS g p) = decide (48 ≤ nxC g p ∧ nxC g p ≤ 57) ∧ (48 ≤ nxC g p ∧ nxC g p ≤ 57 → pkS g p = nxC g p) := by
  unfold isDg pkS nxC
  by_cases h : p < g 166 17
  · rw [if_neg (by omega), if_pos h]
    exact ⟨rfl, fun _ => rfl⟩
  · rw [if_pos (by omega), if_neg h]
    exact ⟨rfl, fun z => by omega⟩
theorem nu_nx (g : Nat → Nat → Nat) (p : Nat) : nuS g p = if dgS (nxC g p) = 4294967295 then (false, 0, p) else if 48 ≤ nxC g (p + 1) ∧ nxC g (p + 1) ≤ 57 then (true, dgS (nxC g p) * 10 + dgS (nxC g (p + 1)), p + 1 + 1) else (true, dgS (nxC g p), p + 1) := by
  have a := isDg_nx g p
  have b := isDg_nx g (p + 1)
  unfold nuS
  rw [a.1, b.1]
  by_cases h1 : 48 ≤ nxC g p ∧ nxC g p ≤ 57
  · have e := dgS_y h1.1 h1.2
    rw [decide_eq_true h1, if_neg (by omega), a.2 h1]
    by_cases h2 : 48 ≤ nxC g (p + 1) ∧ nxC g (p + 1) ≤ 57
    · have e2 := dgS_y h2.1 h2.2
      rw [decide_eq_true h2, if_pos h2, b.2 h2, e, e2, Nat.mul_comm]
      rfl
    · rw [decide_eq_false h2, if_neg h2, e]
      rfl
  · rw [decide_eq_false h1, if_pos (dgS_n h1)]
    rfl
/-- a sign put behind the others, while there is room -/
def plT (l : List Nat) (s : Nat) : List Nat := if l.length < 100 then l ++ [s] else l
theorem plT_lt {l : List Nat} {s : Nat} (h : l.length < 100) : plT l s = l ++ [s] := if_pos h
theorem plT_le {l : List Nat} (s : Nat) (h : l.length ≤ 100) : (plT l s).length ≤ 100 := by
  unfold plT
  split
  · rw [List.length_append]; show l.length + 1 ≤ 100; omega
  · exact h
theorem trS_t {a b n : Nat} (ha : a ≤ 5) (hb : b ≤ 2) (hn : n ≤ 99) : (a * 3 + b) * 100 + n = trS (1000 * a + 100 * b + n) := by
  unfold trS
  rw [if_pos (by omega)]
  omega
theorem K_num1 {L : Nat} {xs : Nat → Int32} (d : Nat) (g : Nat → Nat → Nat) (hl : Nat → Nat → Int64) (T c e : Nat) (hT : TbT T) (hX : TX g) (p le li : Nat) (l : List Nat) {Q : Po} (hq : Q (some (.int (nI 0))) (HN (RT g T p 1 le li l) hl (RF (3, T, c, e)))) : Ev L xs (d + 1) 55 0 [(0, .ref 5)] [] (HN (RT g T p 1 le li l) hl (RF (3, T, c, e))) Q := by
  have hN := hX.1
  refine Ev.run 2 (pc' := 3) (lv' := [(0, .ref 5)]) (st' := [.retAddr 6, .ref 5]) (h' := HN (RT g T p 1 le li l) hl (RF (3, T, c, e))) rfl ?_
  refine Ev.call (a := 56) (as := [.ref 5, .retAddr 6]) (rest := []) (lv0 := [(0, .ref 5), (1, .retAddr 6)]) (Q1 := (fun z0 h' => z0 = some (.int (nI 0)) ∧ h' = HN (RT g T p 1 le li l) hl (RF (3, T, c, e)))) rfl rfl (K_one1_6 _ _ _ _ _ _ hT hX p le li l ⟨rfl, rfl⟩) (fun r h' hr => ?_)
  obtain ⟨rfl, rfl⟩ := hr
  refine Ev.run 9 (pc' := 57) (lv' := [(2, .int (nI 0)), (1, .int (nI 0)), (0, .ref 5)]) (st' := [.int (nI 0)]) (h' := HN (RT g T p 1 le li l) hl (RF (3, T, c, e))) rfl ?_
  refine Ev.ret (v := some (.int (nI 0))) rfl ?_
  exact hq
theorem K_num0 {L : Nat} {xs : Nat → Int32} (d : Nat) (g : Nat → Nat → Nat) (hl : Nat → Nat → Int64) (T c e : Nat) (hT : TbT T) (hX : TX g) (p le li : Nat) (l : List Nat) (hp : p ≤ 300) {Q : Po} (hq : (∀ dd q, nuS g p = (true, dd, q) → Q (some (.int (nI dd))) (HN (RT g T q 0 le li l) hl (RF (3, T, c, e)))) ∧ (nuS g p = (false, 0, p) → Q (some (.int (nI 0))) (HN (RT g T p 1 le li l) hl (RF (3, T, c, e))))) : Ev L xs (d + 6) 55 0 [(0, .ref 5)] [] (HN (RT g T p 0 le li l) hl (RF (3, T, c, e))) Q := by
  have hN := hX.1
  have hd := nu_nx g p
  have hn1 := nx_le hX (p + 1)
  refine Ev.run 2 (pc' := 3) (lv' := [(0, .ref 5)]) (st' := [.retAddr 6, .ref 5]) (h' := HN (RT g T p 0 le li l) hl (RF (3, T, c, e))) rfl ?_
  refine Ev.call (a := 56) (as := [.ref 5, .retAddr 6]) (rest := []) (lv0 := [(0, .ref 5), (1, .retAddr 6)]) (Q1 := (fun z0 h' => (dgS (nxC g p) < 4294967295 ∧ z0 = some (.int (nI (dgS (nxC g p)))) ∧ h' = HN (RT g T (p + 1) 0 le li l) hl (RF (3, T, c, e))) ∨ (dgS (nxC g p) = 4294967295 ∧ z0 = some (.int (nI 0)) ∧ h' = HN (RT g T p 1 le li l) hl (RF (3, T, c, e))))) rfl rfl (K_one0_6 _ _ _ _ _ _ hT hX p le li l (by omega) ⟨fun hz => Or.inl ⟨hz, rfl, rfl⟩, fun hz => Or.inr ⟨hz, rfl, rfl⟩⟩) (fun r h' hr => ?_)
  rcases hr with ⟨hza, rfl, rfl⟩ | ⟨hza, rfl, rfl⟩
  · skip
    have hfa := dgS_le2 (nxC g p)
    refine Ev.run 5 (pc' := 15) (lv' := [(1, .int (nI (dgS (nxC g p)))), (0, .ref 5)]) (st' := [.ref 5]) (h' := HN (RT g T (p + 1) 0 le li l) hl (RF (3, T, c, e))) rfl ?_
    refine Ev.call (a := 59) (as := [.ref 5]) (rest := []) (lv0 := [(0, .ref 5)]) (Q1 := (fun z0 h' => z0 = some (.int (nI (nxC g (p + 1)))) ∧ h' = HN (RT g T (p + 1) 0 le li l) hl (RF (3, T, c, e)))) rfl rfl (K_next _ _ _ _ _ _ hT hX (p + 1) _ _ l 0 (by omega) ⟨rfl, rfl⟩) (fun r h' hr => ?_)
    obtain ⟨rfl, rfl⟩ := hr
    refine Ev.run 2 (pc' := (if nI (nxC g (p + 1)) < nI 48 then 36 else 23)) (lv' := [(1, .int (nI (dgS (nxC g p)))), (0, .ref 5)]) (st' := []) (h' := HN (RT g T (p + 1) 0 le li l) hl (RF (3, T, c, e))) rfl ?_
    refine Ev.ite (fun hc20 => ?_) (fun hc20 => ?_)
    · have hc20 : (nxC g (p + 1)) < 48 := (nI_ltI (by omega) (by omega)).mp hc20
      refine Ev.run 5 (pc' := 57) (lv' := [(2, .int (nI 0)), (1, .int (nI (dgS (nxC g p)))), (0, .ref 5)]) (st' := [.int (nI (dgS (nxC g p)))]) (h' := HN (RT g T (p + 1) 0 le li l) hl (RF (3, T, c, e))) rfl ?_
      refine Ev.ret (v := some (.int (nI (dgS (nxC g p))))) rfl ?_
      first
        | exact hq.2 (by rw [hd, if_pos (by omega)])
        | exact hq.1 _ _ (by rw [hd, if_neg (by omega), if_pos (by omega)])
        | exact hq.1 _ _ (by rw [hd, if_neg (by omega), if_neg (by omega)])
        | (exfalso; have hdy := dgS_y (c := nxC g (p + 1)) (by omega) (by omega); omega)
    · have hc20 : ¬ ((nxC g (p + 1)) < 48) := fun z => hc20 ((nI_ltI (by omega) (by omega)).mpr z)
      refine Ev.run 1 (pc' := 24) (lv' := [(1, .int (nI (dgS (nxC g p)))), (0, .ref 5)]) (st' := [.ref 5]) (h' := HN (RT g T (p + 1) 0 le li l) hl (RF (3, T, c, e))) rfl ?_
      refine Ev.call (a := 59) (as := [.ref 5]) (rest := []) (lv0 := [(0, .ref 5)]) (Q1 := (fun z0 h' => z0 = some (.int (nI (nxC g (p + 1)))) ∧ h' = HN (RT g T (p + 1) 0 le li l) hl (RF (3, T, c, e)))) rfl rfl (K_next _ _ _ _ _ _ hT hX (p + 1) _ _ l 0 (by omega) ⟨rfl, rfl⟩) (fun r h' hr => ?_)
      obtain ⟨rfl, rfl⟩ := hr
      refine Ev.run 2 (pc' := (if nI 57 < nI (nxC g (p + 1)) then 36 else 32)) (lv' := [(1, .int (nI (dgS (nxC g p)))), (0, .ref 5)]) (st' := []) (h' := HN (RT g T (p + 1) 0 le li l) hl (RF (3, T, c, e))) rfl ?_
      refine Ev.ite (fun hc29 => ?_) (fun hc29 => ?_)
      · have hc29 : 57 < (nxC g (p + 1)) := (nI_ltI (by omega) (by omega)).mp hc29
        refine Ev.run 5 (pc' := 57) (lv' := [(2, .int (nI 0)), (1, .int (nI (dgS (nxC g p)))), (0, .ref 5)]) (st' := [.int (nI (dgS (nxC g p)))]) (h' := HN (RT g T (p + 1) 0 le li l) hl (RF (3, T, c, e))) rfl ?_
        refine Ev.ret (v := some (.int (nI (dgS (nxC g p))))) rfl ?_
        first
          | exact hq.2 (by rw [hd, if_pos (by omega)])
          | exact hq.1 _ _ (by rw [hd, if_neg (by omega), if_pos (by omega)])
          | exact hq.1 _ _ (by rw [hd, if_neg (by omega), if_neg (by omega)])
          | (exfalso; have hdy := dgS_y (c := nxC g (p + 1)) (by omega) (by omega); omega)
      · have hc29 : ¬ (57 < (nxC g (p + 1))) := fun z => hc29 ((nI_ltI (by omega) (by omega)).mpr z)
        refine Ev.run 8 (pc' := 46) (lv' := [(2, .int (nI 1)), (1, .int (nI (dgS (nxC g p)))), (0, .ref 5)]) (st' := [.int (nI (dgS (nxC g p)) * nI 10)]) (h' := HN (RT g T (p + 1) 0 le li l) hl (RF (3, T, c, e))) rfl ?_
        refine Ev.topI (pk_mul _ _) ?_
        refine Ev.run 2 (pc' := 49) (lv' := [(2, .int (nI 1)), (1, .int (nI (dgS (nxC g p)))), (0, .ref 5)]) (st' := [.retAddr 6, .ref 5, .int (nI ((dgS (nxC g p)) * 10))]) (h' := HN (RT g T (p + 1) 0 le li l) hl (RF (3, T, c, e))) rfl ?_
        refine Ev.call (a := 56) (as := [.ref 5, .retAddr 6]) (rest := [.int (nI ((dgS (nxC g p)) * 10))]) (lv0 := [(0, .ref 5), (1, .retAddr 6)]) (Q1 := (fun z0 h' => (dgS (nxC g (p + 1)) < 4294967295 ∧ z0 = some (.int (nI (dgS (nxC g (p + 1))))) ∧ h' = HN (RT g T (p + 1 + 1) 0 le li l) hl (RF (3, T, c, e))) ∨ (dgS (nxC g (p + 1)) = 4294967295 ∧ z0 = some (.int (nI 0)) ∧ h' = HN (RT g T (p + 1) 1 le li l) hl (RF (3, T, c, e))))) rfl rfl (K_one0_6 _ _ _ _ _ _ hT hX (p + 1) le li l (by omega) ⟨fun hz => Or.inl ⟨hz, rfl, rfl⟩, fun hz => Or.inr ⟨hz, rfl, rfl⟩⟩) (fun r h' hr => ?_)
        rcases hr with ⟨hzb, rfl, rfl⟩ | ⟨hzb, rfl, rfl⟩
        · skip
          have hfb := dgS_le2 (nxC g (p + 1))
          refine Ev.run 1 (pc' := 53) (lv' := [(2, .int (nI 1)), (1, .int (nI (dgS (nxC g p)))), (0, .ref 5)]) (st' := [.int (nI ((dgS (nxC g p)) * 10) + nI (dgS (nxC g (p + 1))))]) (h' := HN (RT g T (p + 1 + 1) 0 le li l) hl (RF (3, T, c, e))) rfl ?_
          refine Ev.topI (nI_add _ _) ?_
          refine Ev.run 1 (pc' := 57) (lv' := [(2, .int (nI 1)), (1, .int (nI (dgS (nxC g p)))), (0, .ref 5)]) (st' := [.int (nI (((dgS (nxC g p)) * 10) + (dgS (nxC g (p + 1)))))]) (h' := HN (RT g T (p + 1 + 1) 0 le li l) hl (RF (3, T, c, e))) rfl ?_
          refine Ev.ret (v := some (.int (nI (((dgS (nxC g p)) * 10) + (dgS (nxC g (p + 1))))))) rfl ?_
          first
            | exact hq.2 (by rw [hd, if_pos (by omega)])
            | exact hq.1 _ _ (by rw [hd, if_neg (by omega), if_pos (by omega)])
            | exact hq.1 _ _ (by rw [hd, if_neg (by omega), if_neg (by omega)])
            | (exfalso; have hdy := dgS_y (c := nxC g (p + 1)) (by omega) (by omega); omega)
        · skip
          refine Ev.run 1 (pc' := 53) (lv' := [(2, .int (nI 1)), (1, .int (nI (dgS (nxC g p)))), (0, .ref 5)]) (st' := [.int (nI ((dgS (nxC g p)) * 10) + nI 0)]) (h' := HN (RT g T (p + 1) 1 le li l) hl (RF (3, T, c, e))) rfl ?_
          refine Ev.topI (nI_add _ _) ?_
          refine Ev.run 1 (pc' := 57) (lv' := [(2, .int (nI 1)), (1, .int (nI (dgS (nxC g p)))), (0, .ref 5)]) (st' := [.int (nI (((dgS (nxC g p)) * 10) + 0))]) (h' := HN (RT g T (p + 1) 1 le li l) hl (RF (3, T, c, e))) rfl ?_
          refine Ev.ret (v := some (.int (nI (((dgS (nxC g p)) * 10) + 0)))) rfl ?_
          first
            | exact hq.2 (by rw [hd, if_pos (by omega)])
            | exact hq.1 _ _ (by rw [hd, if_neg (by omega), if_pos (by omega)])
            | exact hq.1 _ _ (by rw [hd, if_neg (by omega), if_neg (by omega)])
            | (exfalso; have hdy := dgS_y (c := nxC g (p + 1)) (by omega) (by omega); omega)
  · skip
    refine Ev.run 9 (pc' := 57) (lv' := [(2, .int (nI 0)), (1, .int (nI 0)), (0, .ref 5)]) (st' := [.int (nI 0)]) (h' := HN (RT g T p 1 le li l) hl (RF (3, T, c, e))) rfl ?_
    refine Ev.ret (v := some (.int (nI 0))) rfl ?_
    first
      | exact hq.2 (by rw [hd, if_pos (by omega)])
      | exact hq.1 _ _ (by rw [hd, if_neg (by omega), if_pos (by omega)])
      | exact hq.1 _ _ (by rw [hd, if_neg (by omega), if_neg (by omega)])
      | (exfalso; have hdy := dgS_y (c := nxC g (p + 1)) (by omega) (by omega); omega)
theorem K_tput {L : Nat} {xs : Nat → Int32} (d : Nat) (g : Nat → Nat → Nat) (hl : Nat → Nat → Int64) (T c e : Nat) (hT : TbT T) (hX : TX g) (p le li : Nat) (l : List Nat) (fl x s : Nat) (hx : x = trS s) (hl100 : l.length ≤ 100) {Q : Po} (hq : Q none (HN (RT g T p fl le li (plT l s)) hl (RF (3, T, c, e)))) : Ev L xs (d) 65 0 [(0, .ref T), (1, .int (nI x))] [] (HN (RT g T p fl le li l) hl (RF (3, T, c, e))) Q := by
  have hN := hX.1
  refine Ev.run 1 (pc' := 1) (lv' := [(0, .ref T), (1, .int (nI x))]) (st' := [.ref T]) (h' := HN (RT g T p fl le li l) hl (RF (3, T, c, e))) rfl ?_
  refine Ev_gfI rfl rfl rfl hT.1 ?_
  refine Ev.topI (congrArg nI (RT_n _ _ _ _ _ _ hT)) ?_
  refine Ev.run 1 (pc' := 5) (lv' := [(0, .ref T), (1, .int (nI x))]) (st' := [.ref T, .int (nI l.length)]) (h' := HN (RT g T p fl le li l) hl (RF (3, T, c, e))) rfl ?_
  refine Ev_gfR rfl rfl rfl hT.1 (hT.2.2.1 c e) ?_
  refine Ev_alen rfl hT.2.1 rfl ?_
  refine Ev.run 1 (pc' := (if nI 100 ≤ nI l.length then 32 else 12)) (lv' := [(0, .ref T), (1, .int (nI x))]) (st' := []) (h' := HN (RT g T p fl le li l) hl (RF (3, T, c, e))) rfl ?_
  refine Ev.ite (fun hc9 => ?_) (fun hc9 => ?_)
  · have hc9 : 100 ≤ l.length := (nI_leI (by omega) (by omega)).mp hc9
    refine Ev.ret (v := none) rfl ?_
    unfold plT at hq
    rw [if_neg (by omega)] at hq
    exact hq
  · have hc9 : ¬ (100 ≤ l.length) := fun z => hc9 ((nI_leI (by omega) (by omega)).mpr z)
    refine Ev.run 1 (pc' := 13) (lv' := [(0, .ref T), (1, .int (nI x))]) (st' := [.ref T]) (h' := HN (RT g T p fl le li l) hl (RF (3, T, c, e))) rfl ?_
    refine Ev_gfR rfl rfl rfl hT.1 (hT.2.2.1 c e) ?_
    refine Ev.run 1 (pc' := 17) (lv' := [(0, .ref T), (1, .int (nI x))]) (st' := [.ref T, .ref (T + 1)]) (h' := HN (RT g T p fl le li l) hl (RF (3, T, c, e))) rfl ?_
    refine Ev_gfI rfl rfl rfl hT.1 ?_
    refine Ev.topI (congrArg nI (RT_n _ _ _ _ _ _ hT)) ?_
    refine Ev.run 1 (pc' := 21) (lv' := [(0, .ref T), (1, .int (nI x))]) (st' := [.int (nI x), .int (nI l.length), .ref (T + 1)]) (h' := HN (RT g T p fl le li l) hl (RF (3, T, c, e))) rfl ?_
    refine Ev_iast rfl hT.2.1.k (show _ < _ by rw [hT.2.1.n]; omega) (by rw [hT.2.1.n]; omega) ?_
    refine Ev.run 2 (pc' := 24) (lv' := [(0, .ref T), (1, .int (nI x))]) (st' := [.ref T, .ref T]) (h' := HN (u2 (RT g T p fl le li l) (T + 1) l.length x) hl (RF (3, T, c, e))) rfl ?_
    refine Ev_gfI rfl rfl rfl hT.1 ?_
    refine Ev.topI (congrArg nI ((u2_ne _ (Or.inl (by omega))).trans (RT_n _ _ _ _ _ _ hT))) ?_
    refine Ev.run 2 (pc' := 29) (lv' := [(0, .ref T), (1, .int (nI x))]) (st' := [.int (nI l.length + nI 1), .ref T]) (h' := HN (u2 (RT g T p fl le li l) (T + 1) l.length x) hl (RF (3, T, c, e))) rfl ?_
    refine Ev.topI (nI_add _ _) ?_
    refine Ev_pfI rfl hT.1 ?_
    refine Ev.ret (v := none) rfl ?_
    rw [hx, RT_put _ _ _ _ _ _ hT s]
    rw [plT_lt (by omega)] at hq
    exact hq
theorem K_ptest {L : Nat} {xs : Nat → Int32} (d : Nat) (g : Nat → Nat → Nat) (hl : Nat → Nat → Int64) (T c e : Nat) (hT : TbT T) (hX : TX g) (p le li : Nat) (l : List Nat) (fl a b n : Nat) (ha : a ≤ 5) (hb : b ≤ 2) (hn : n ≤ 99) (hl100 : l.length ≤ 100) {Q : Po} (hq : Q none (HN (RT g T p fl le li (plT l (1000 * a + 100 * b + n))) hl (RF (3, T, c, e)))) : Ev L xs (d + 1) 66 0 [(0, .ref T), (1, .int (nI a)), (2, .int (nI b)), (3, .int (nI n))] [] (HN (RT g T p fl le li l) hl (RF (3, T, c, e))) Q := by
  have hN := hX.1
  refine Ev.run 4 (pc' := 4) (lv' := [(0, .ref T), (1, .int (nI a)), (2, .int (nI b)), (3, .int (nI n))]) (st' := [.int (nI a * nI 3), .ref T]) (h' := HN (RT g T p fl le li l) hl (RF (3, T, c, e))) rfl ?_
  refine Ev.topI (pk_mul _ _) ?_
  refine Ev.run 2 (pc' := 6) (lv' := [(0, .ref T), (1, .int (nI a)), (2, .int (nI b)), (3, .int (nI n))]) (st' := [.int (nI (a * 3) + nI b), .ref T]) (h' := HN (RT g T p fl le li l) hl (RF (3, T, c, e))) rfl ?_
  refine Ev.topI (nI_add _ _) ?_
  refine Ev.run 2 (pc' := 9) (lv' := [(0, .ref T), (1, .int (nI a)), (2, .int (nI b)), (3, .int (nI n))]) (st' := [.int (nI ((a * 3) + b) * nI 100), .ref T]) (h' := HN (RT g T p fl le li l) hl (RF (3, T, c, e))) rfl ?_
  refine Ev.topI (pk_mul _ _) ?_
  refine Ev.run 2 (pc' := 11) (lv' := [(0, .ref T), (1, .int (nI a)), (2, .int (nI b)), (3, .int (nI n))]) (st' := [.int (nI (((a * 3) + b) * 100) + nI n), .ref T]) (h' := HN (RT g T p fl le li l) hl (RF (3, T, c, e))) rfl ?_
  refine Ev.topI (nI_add _ _) ?_
  refine Ev_callV (a := 65) (as := [.ref T, .int (nI ((((a * 3) + b) * 100) + n))]) (rest := []) (lv0 := [(0, .ref T), (1, .int (nI ((((a * 3) + b) * 100) + n)))]) (Q1 := (fun z0 h' => z0 = none ∧ h' = HN (RT g T p fl le li (plT l (1000 * a + 100 * b + n))) hl (RF (3, T, c, e)))) rfl rfl rfl rfl rfl hT.1.k rfl rfl rfl (K_tput _ _ _ _ _ _ hT hX p le li l fl ((a * 3 + b) * 100 + n) (1000 * a + 100 * b + n) (trS_t ha hb hn) hl100 ⟨rfl, rfl⟩) (fun r h' hr => ?_)
  obtain ⟨rfl, rfl⟩ := hr
  refine Ev.ret (v := none) rfl ?_
  exact hq
theorem K_fac1 {L : Nat} {xs : Nat → Int32} (d : Nat) (g : Nat → Nat → Nat) (hl : Nat → Nat → Int64) (T c e : Nat) (hT : TbT T) (hX : TX g) (p le li : Nat) (l : List Nat) (n : Nat) (hn : n < 2 ^ 31) (hl100 : l.length ≤ 100) {Q : Po} (hq : ∀ l', l'.length ≤ 100 → Q none (HN (RT g T p 1 le li l') hl (RF (3, T, c, e)))) : Ev L xs (d + 2) 54 0 [(0, .ref 5), (1, .int (nI n))] [] (HN (RT g T p 1 le li l) hl (RF (3, T, c, e))) Q := by
  have hN := hX.1
  refine Ev.run 11 (pc' := 102) (lv' := [(2, .int (nI 0)), (0, .ref 5), (1, .int (nI n))]) (st' := [.retAddr 4, .ref 5]) (h' := HN (RT g T p 1 le li l) hl (RF (3, T, c, e))) rfl ?_
  refine Ev.call (a := 56) (as := [.ref 5, .retAddr 4]) (rest := []) (lv0 := [(0, .ref 5), (1, .retAddr 4)]) (Q1 := (fun z0 h' => z0 = some (.int (nI 0)) ∧ h' = HN (RT g T p 1 le li l) hl (RF (3, T, c, e)))) rfl rfl (K_one1_4 _ _ _ _ _ _ hT hX p le li l ⟨rfl, rfl⟩) (fun r h' hr => ?_)
  obtain ⟨rfl, rfl⟩ := hr
  refine Ev.run 3 (pc' := 109) (lv' := [(3, .int (nI 0)), (2, .int (nI 0)), (0, .ref 5), (1, .int (nI n))]) (st' := [.retAddr 5, .ref 5]) (h' := HN (RT g T p 1 le li l) hl (RF (3, T, c, e))) rfl ?_
  refine Ev.call (a := 56) (as := [.ref 5, .retAddr 5]) (rest := []) (lv0 := [(0, .ref 5), (1, .retAddr 5)]) (Q1 := (fun z0 h' => z0 = some (.int (nI 0)) ∧ h' = HN (RT g T p 1 le li l) hl (RF (3, T, c, e)))) rfl rfl (K_one1_5 _ _ _ _ _ _ hT hX p le li l ⟨rfl, rfl⟩) (fun r h' hr => ?_)
  obtain ⟨rfl, rfl⟩ := hr
  refine Ev.run 6 (pc' := 122) (lv' := [(4, .int (nI 0)), (3, .int (nI 0)), (2, .int (nI 0)), (0, .ref 5), (1, .int (nI n))]) (st' := [.ref 5, .int (nI 0), .int (nI 0), .ref T]) (h' := HN (RT g T p 1 le li l) hl (RF (3, T, c, e))) rfl ?_
  refine Ev.call (a := 55) (as := [.ref 5]) (rest := [.int (nI 0), .int (nI 0), .ref T]) (lv0 := [(0, .ref 5)]) (Q1 := (fun z0 h' => z0 = some (.int (nI 0)) ∧ h' = HN (RT g T p 1 le li l) hl (RF (3, T, c, e)))) rfl rfl (K_num1 _ _ _ _ _ _ hT hX p le li l ⟨rfl, rfl⟩) (fun r h' hr => ?_)
  obtain ⟨rfl, rfl⟩ := hr
  refine Ev_callV (a := 66) (as := [.ref T, .int (nI 0), .int (nI 0), .int (nI 0)]) (rest := []) (lv0 := [(0, .ref T), (1, .int (nI 0)), (2, .int (nI 0)), (3, .int (nI 0))]) (Q1 := (fun z0 h' => z0 = none ∧ h' = HN (RT g T p 1 le li (plT l (1000 * 0 + 100 * 0 + 0))) hl (RF (3, T, c, e)))) rfl rfl rfl rfl rfl hT.1.k rfl rfl rfl (K_ptest _ _ _ _ _ _ hT hX p le li l 1 0 0 0 (by omega) (by omega) (by omega) (by first | omega | exact plT_le _ (by omega) | exact plT_le _ (plT_le _ (by omega))) ⟨rfl, rfl⟩) (fun r h' hr => ?_)
  obtain ⟨rfl, rfl⟩ := hr
  refine Ev.ret (v := none) rfl ?_
  exact hq _ (plT_le _ hl100)
theorem K_exp1f {L : Nat} {xs : Nat → Int32} (d : Nat) (g : Nat → Nat → Nat) (hl : Nat → Nat → Int64) (T c e : Nat) (hT : TbT T) (hX : TX g) (p le li : Nat) (l : List Nat) (n : Nat) (hn : n < 2 ^ 31) (hl100 : l.length ≤ 100) {Q : Po} (hq : ∀ l', l'.length ≤ 100 → Q none (HN (RT g T p 1 le li l') hl (RF (3, T, c, e)))) : Ev L xs (d + 3) 53 0 [(0, .ref 5), (1, .int (nI n))] [] (HN (RT g T p 1 le li l) hl (RF (3, T, c, e))) Q := by
  have hN := hX.1
  refine Ev.run 4 (pc' := 4) (lv' := [(2, .int (nI 0)), (0, .ref 5), (1, .int (nI n))]) (st' := [.int (nI n), .ref 5]) (h' := HN (RT g T p 1 le li l) hl (RF (3, T, c, e))) rfl ?_
  refine Ev.call (a := 54) (as := [.ref 5, .int (nI n)]) (rest := []) (lv0 := [(0, .ref 5), (1, .int (nI n))]) (Q1 := (fun z0 h' => z0 = none ∧ ∃ l' : List Nat, l'.length ≤ 100 ∧ h' = HN (RT g T p 1 le li l') hl (RF (3, T, c, e)))) rfl rfl (K_fac1 _ _ _ _ _ _ hT hX p le li l n hn hl100 (fun l' hl' => ⟨rfl, l', hl', rfl⟩)) (fun r h' hr => ?_)
  obtain ⟨rfl, l', hl', rfl⟩ := hr
  refine Ev.run 10 (pc' := 115) (lv' := [(3, .int (nI 0)), (2, .int (nI 0)), (0, .ref 5), (1, .int (nI n))]) (st' := []) (h' := HN (RT g T p 1 le li l') hl (RF (3, T, c, e))) rfl ?_
  refine Ev.ret (v := none) rfl ?_
  exact hq l' hl'
theorem te_nx (g : Nat → Nat → Nat) (p : Nat) : teS g p = if plcS (nxC g p) = 4294967295 then (false, 0, p) else if rlS (nxC g (p + 1)) = 4294967295 then (false, 0, p + 1) else if (nuS g (p + 2)).1 = true then (true, 1000 * plcS (nxC g p) + 100 * rlS (nxC g (p + 1)) + (nuS g (p + 2)).2.1, (nuS g (p + 2)).2.2) else (false, 0, p + 2) := by
  have e1 : plcS (nxC g p) = plcS (pkS g p) := by
    unfold nxC pkS
    by_cases h : p < g 166 17
    · rw [if_pos h, if_neg (by omega)]
    · rw [if_neg h, if_pos (by omega)]; rfl
  have e2 : rlS (nxC g (p + 1)) = if 60 ≤ pkS g (p + 1) ∧ pkS g (p + 1) ≤ 62 then pkS g (p + 1) - 60 else 4294967295 := by
    by_cases h : p + 1 < g 166 17
    · have a1 : nxC g (p + 1) = g 176 (p + 1) := if_pos h
      have a2 : pkS g (p + 1) = g 176 (p + 1) := if_neg (by omega)
      rw [a1, a2]
      generalize g 176 (p + 1) = x
      unfold rlS
      by_cases z0 : x = 60
      · subst z0; rfl
      · by_cases z1 : x = 61
        · subst z1; rfl
        · by_cases z2 : x = 62
          · subst z2; rfl
          · rw [if_neg z0, if_neg z1, if_neg z2, if_neg (by omega)]
    · have a1 : nxC g (p + 1) = 0 := if_neg h
      have a2 : pkS g (p + 1) = 4294967295 := if_pos (by omega)
      rw [a1, a2]
      rfl
  unfold teS
  rw [e1, e2]
  by_cases h1 : plcS (pkS g p) = 4294967295
  · rw [if_pos h1, if_pos h1]
  · rw [if_neg h1, if_neg h1]
    by_cases h2 : 60 ≤ pkS g (p + 1) ∧ pkS g (p + 1) ≤ 62
    · rw [if_pos h2, if_pos h2, if_neg (show ¬ pkS g (p + 1) - 60 = 4294967295 by omega)]
    · rw [if_neg h2, if_neg h2, if_pos rfl]
theorem K_facT {L : Nat} {xs : Nat → Int32} (d : Nat) (g : Nat → Nat → Nat) (hl : Nat → Nat → Int64) (T c e : Nat) (hT : TbT T) (hX : TX g) (p le li : Nat) (l : List Nat) (hp : p ≤ 200) (hl100 : l.length ≤ 100) {Q : Po} (hq : (∀ cd q, teS g p = (true, cd, q) → Q none (HN (RT g T q 0 le li (plT l cd)) hl (RF (3, T, c, e)))) ∧ (∀ q, teS g p = (false, 0, q) → ∀ l', l'.length ≤ 100 → Q none (HN (RT g T q 1 le li l') hl (RF (3, T, c, e))))) : Ev L xs (d + 7) 54 99 [(0, .ref 5)] [] (HN (RT g T p 0 le li l) hl (RF (3, T, c, e))) Q := by
  have hN := hX.1
  have hd := te_nx g p
  refine Ev.run 2 (pc' := 102) (lv' := [(0, .ref 5)]) (st' := [.retAddr 4, .ref 5]) (h' := HN (RT g T p 0 le li l) hl (RF (3, T, c, e))) rfl ?_
  refine Ev.call (a := 56) (as := [.ref 5, .retAddr 4]) (rest := []) (lv0 := [(0, .ref 5), (1, .retAddr 4)]) (Q1 := (fun z0 h' => (plcS (nxC g p) < 4294967295 ∧ z0 = some (.int (nI (plcS (nxC g p)))) ∧ h' = HN (RT g T (p + 1) 0 le li l) hl (RF (3, T, c, e))) ∨ (plcS (nxC g p) = 4294967295 ∧ z0 = some (.int (nI 0)) ∧ h' = HN (RT g T p 1 le li l) hl (RF (3, T, c, e))))) rfl rfl (K_one0_4 _ _ _ _ _ _ hT hX p le li l (by omega) ⟨fun hz => Or.inl ⟨hz, rfl, rfl⟩, fun hz => Or.inr ⟨hz, rfl, rfl⟩⟩) (fun r h' hr => ?_)
  rcases hr with ⟨hza, rfl, rfl⟩ | ⟨hza, rfl, rfl⟩
  · skip
    have hfa := plcS_le2 (nxC g p)
    refine Ev.run 3 (pc' := 109) (lv' := [(3, .int (nI (plcS (nxC g p)))), (0, .ref 5)]) (st' := [.retAddr 5, .ref 5]) (h' := HN (RT g T (p + 1) 0 le li l) hl (RF (3, T, c, e))) rfl ?_
    refine Ev.call (a := 56) (as := [.ref 5, .retAddr 5]) (rest := []) (lv0 := [(0, .ref 5), (1, .retAddr 5)]) (Q1 := (fun z0 h' => (rlS (nxC g (p + 1)) < 4294967295 ∧ z0 = some (.int (nI (rlS (nxC g (p + 1))))) ∧ h' = HN (RT g T (p + 1 + 1) 0 le li l) hl (RF (3, T, c, e))) ∨ (rlS (nxC g (p + 1)) = 4294967295 ∧ z0 = some (.int (nI 0)) ∧ h' = HN (RT g T (p + 1) 1 le li l) hl (RF (3, T, c, e))))) rfl rfl (K_one0_5 _ _ _ _ _ _ hT hX (p + 1) le li l (by omega) ⟨fun hz => Or.inl ⟨hz, rfl, rfl⟩, fun hz => Or.inr ⟨hz, rfl, rfl⟩⟩) (fun r h' hr => ?_)
    rcases hr with ⟨hzb, rfl, rfl⟩ | ⟨hzb, rfl, rfl⟩
    · skip
      have hfb := rlS_le2 (nxC g (p + 1))
      refine Ev.run 6 (pc' := 122) (lv' := [(4, .int (nI (rlS (nxC g (p + 1))))), (3, .int (nI (plcS (nxC g p)))), (0, .ref 5)]) (st' := [.ref 5, .int (nI (rlS (nxC g (p + 1)))), .int (nI (plcS (nxC g p))), .ref T]) (h' := HN (RT g T (p + 1 + 1) 0 le li l) hl (RF (3, T, c, e))) rfl ?_
      refine Ev.call (a := 55) (as := [.ref 5]) (rest := [.int (nI (rlS (nxC g (p + 1)))), .int (nI (plcS (nxC g p))), .ref T]) (lv0 := [(0, .ref 5)]) (Q1 := (fun z0 h' => (∃ dd q, nuS g (p + 1 + 1) = (true, dd, q) ∧ z0 = some (.int (nI dd)) ∧ h' = HN (RT g T q 0 le li l) hl (RF (3, T, c, e))) ∨ (nuS g (p + 1 + 1) = (false, 0, p + 1 + 1) ∧ z0 = some (.int (nI 0)) ∧ h' = HN (RT g T (p + 1 + 1) 1 le li l) hl (RF (3, T, c, e))))) rfl rfl (K_num0 _ _ _ _ _ _ hT hX (p + 1 + 1) le li l (by omega) ⟨fun dd q hz => Or.inl ⟨dd, q, hz, rfl, rfl⟩, fun hz => Or.inr ⟨hz, rfl, rfl⟩⟩) (fun r h' hr => ?_)
      rcases hr with ⟨ddc, qc, hzc, rfl, rfl⟩ | ⟨hzc, rfl, rfl⟩
      · skip
        have hlec := nuS_le hzc
        refine Ev_callV (a := 66) (as := [.ref T, .int (nI (plcS (nxC g p))), .int (nI (rlS (nxC g (p + 1)))), .int (nI ddc)]) (rest := []) (lv0 := [(0, .ref T), (1, .int (nI (plcS (nxC g p)))), (2, .int (nI (rlS (nxC g (p + 1))))), (3, .int (nI ddc))]) (Q1 := (fun z0 h' => z0 = none ∧ h' = HN (RT g T qc 0 le li (plT l (1000 * (plcS (nxC g p)) + 100 * (rlS (nxC g (p + 1))) + ddc))) hl (RF (3, T, c, e)))) rfl rfl rfl rfl rfl hT.1.k rfl rfl rfl (K_ptest _ _ _ _ _ _ hT hX qc le li l 0 (plcS (nxC g p)) (rlS (nxC g (p + 1))) ddc (by omega) (by omega) (by omega) (by first | omega | exact plT_le _ (by omega) | exact plT_le _ (plT_le _ (by omega))) ⟨rfl, rfl⟩) (fun r h' hr => ?_)
        obtain ⟨rfl, rfl⟩ := hr
        refine Ev.ret (v := none) rfl ?_
        first
          | exact hq.1 _ _ (by rw [hd, if_neg (by omega), if_neg (by omega), if_pos (by rw [hzc]), hzc])
          | exact hq.2 _ (by rw [hd, if_pos (by omega)]) _ (plT_le _ hl100)
          | exact hq.2 _ (by rw [hd, if_neg (by omega), if_pos (by omega)]) _ (plT_le _ hl100)
          | exact hq.2 _ (by rw [hd, if_neg (by omega), if_neg (by omega), if_neg (by rw [hzc]; exact Bool.false_ne_true)]) _ (plT_le _ hl100)
      · skip
        refine Ev_callV (a := 66) (as := [.ref T, .int (nI (plcS (nxC g p))), .int (nI (rlS (nxC g (p + 1)))), .int (nI 0)]) (rest := []) (lv0 := [(0, .ref T), (1, .int (nI (plcS (nxC g p)))), (2, .int (nI (rlS (nxC g (p + 1))))), (3, .int (nI 0))]) (Q1 := (fun z0 h' => z0 = none ∧ h' = HN (RT g T (p + 1 + 1) 1 le li (plT l (1000 * (plcS (nxC g p)) + 100 * (rlS (nxC g (p + 1))) + 0))) hl (RF (3, T, c, e)))) rfl rfl rfl rfl rfl hT.1.k rfl rfl rfl (K_ptest _ _ _ _ _ _ hT hX (p + 1 + 1) le li l 1 (plcS (nxC g p)) (rlS (nxC g (p + 1))) 0 (by omega) (by omega) (by omega) (by first | omega | exact plT_le _ (by omega) | exact plT_le _ (plT_le _ (by omega))) ⟨rfl, rfl⟩) (fun r h' hr => ?_)
        obtain ⟨rfl, rfl⟩ := hr
        refine Ev.ret (v := none) rfl ?_
        first
          | exact hq.1 _ _ (by rw [hd, if_neg (by omega), if_neg (by omega), if_pos (by rw [hzc]), hzc])
          | exact hq.2 _ (by rw [hd, if_pos (by omega)]) _ (plT_le _ hl100)
          | exact hq.2 _ (by rw [hd, if_neg (by omega), if_pos (by omega)]) _ (plT_le _ hl100)
          | exact hq.2 _ (by rw [hd, if_neg (by omega), if_neg (by omega), if_neg (by rw [hzc]; exact Bool.false_ne_true)]) _ (plT_le _ hl100)
    · skip
      refine Ev.run 6 (pc' := 122) (lv' := [(4, .int (nI 0)), (3, .int (nI (plcS (nxC g p)))), (0, .ref 5)]) (st' := [.ref 5, .int (nI 0), .int (nI (plcS (nxC g p))), .ref T]) (h' := HN (RT g T (p + 1) 1 le li l) hl (RF (3, T, c, e))) rfl ?_
      refine Ev.call (a := 55) (as := [.ref 5]) (rest := [.int (nI 0), .int (nI (plcS (nxC g p))), .ref T]) (lv0 := [(0, .ref 5)]) (Q1 := (fun z0 h' => z0 = some (.int (nI 0)) ∧ h' = HN (RT g T (p + 1) 1 le li l) hl (RF (3, T, c, e)))) rfl rfl (K_num1 _ _ _ _ _ _ hT hX (p + 1) le li l ⟨rfl, rfl⟩) (fun r h' hr => ?_)
      obtain ⟨rfl, rfl⟩ := hr
      refine Ev_callV (a := 66) (as := [.ref T, .int (nI (plcS (nxC g p))), .int (nI 0), .int (nI 0)]) (rest := []) (lv0 := [(0, .ref T), (1, .int (nI (plcS (nxC g p)))), (2, .int (nI 0)), (3, .int (nI 0))]) (Q1 := (fun z0 h' => z0 = none ∧ h' = HN (RT g T (p + 1) 1 le li (plT l (1000 * (plcS (nxC g p)) + 100 * 0 + 0))) hl (RF (3, T, c, e)))) rfl rfl rfl rfl rfl hT.1.k rfl rfl rfl (K_ptest _ _ _ _ _ _ hT hX (p + 1) le li l 1 (plcS (nxC g p)) 0 0 (by omega) (by omega) (by omega) (by first | omega | exact plT_le _ (by omega) | exact plT_le _ (plT_le _ (by omega))) ⟨rfl, rfl⟩) (fun r h' hr => ?_)
      obtain ⟨rfl, rfl⟩ := hr
      refine Ev.ret (v := none) rfl ?_
      first
        | exact hq.1 _ _ (by rw [hd, if_neg (by omega), if_neg (by omega), if_pos (by rw [hzc]), hzc])
        | exact hq.2 _ (by rw [hd, if_pos (by omega)]) _ (plT_le _ hl100)
        | exact hq.2 _ (by rw [hd, if_neg (by omega), if_pos (by omega)]) _ (plT_le _ hl100)
        | exact hq.2 _ (by rw [hd, if_neg (by omega), if_neg (by omega), if_neg (by rw [hzc]; exact Bool.false_ne_true)]) _ (plT_le _ hl100)
  · skip
    refine Ev.run 3 (pc' := 109) (lv' := [(3, .int (nI 0)), (0, .ref 5)]) (st' := [.retAddr 5, .ref 5]) (h' := HN (RT g T p 1 le li l) hl (RF (3, T, c, e))) rfl ?_
    refine Ev.call (a := 56) (as := [.ref 5, .retAddr 5]) (rest := []) (lv0 := [(0, .ref 5), (1, .retAddr 5)]) (Q1 := (fun z0 h' => z0 = some (.int (nI 0)) ∧ h' = HN (RT g T p 1 le li l) hl (RF (3, T, c, e)))) rfl rfl (K_one1_5 _ _ _ _ _ _ hT hX p le li l ⟨rfl, rfl⟩) (fun r h' hr => ?_)
    obtain ⟨rfl, rfl⟩ := hr
    refine Ev.run 6 (pc' := 122) (lv' := [(4, .int (nI 0)), (3, .int (nI 0)), (0, .ref 5)]) (st' := [.ref 5, .int (nI 0), .int (nI 0), .ref T]) (h' := HN (RT g T p 1 le li l) hl (RF (3, T, c, e))) rfl ?_
    refine Ev.call (a := 55) (as := [.ref 5]) (rest := [.int (nI 0), .int (nI 0), .ref T]) (lv0 := [(0, .ref 5)]) (Q1 := (fun z0 h' => z0 = some (.int (nI 0)) ∧ h' = HN (RT g T p 1 le li l) hl (RF (3, T, c, e)))) rfl rfl (K_num1 _ _ _ _ _ _ hT hX p le li l ⟨rfl, rfl⟩) (fun r h' hr => ?_)
    obtain ⟨rfl, rfl⟩ := hr
    refine Ev_callV (a := 66) (as := [.ref T, .int (nI 0), .int (nI 0), .int (nI 0)]) (rest := []) (lv0 := [(0, .ref T), (1, .int (nI 0)), (2, .int (nI 0)), (3, .int (nI 0))]) (Q1 := (fun z0 h' => z0 = none ∧ h' = HN (RT g T p 1 le li (plT l (1000 * 0 + 100 * 0 + 0))) hl (RF (3, T, c, e)))) rfl rfl rfl rfl rfl hT.1.k rfl rfl rfl (K_ptest _ _ _ _ _ _ hT hX p le li l 1 0 0 0 (by omega) (by omega) (by omega) (by first | omega | exact plT_le _ (by omega) | exact plT_le _ (plT_le _ (by omega))) ⟨rfl, rfl⟩) (fun r h' hr => ?_)
    obtain ⟨rfl, rfl⟩ := hr
    refine Ev.ret (v := none) rfl ?_
    first
      | exact hq.1 _ _ (by rw [hd, if_neg (by omega), if_neg (by omega), if_pos (by rw [hzc]), hzc])
      | exact hq.2 _ (by rw [hd, if_pos (by omega)]) _ (plT_le _ hl100)
      | exact hq.2 _ (by rw [hd, if_neg (by omega), if_pos (by omega)]) _ (plT_le _ hl100)
      | exact hq.2 _ (by rw [hd, if_neg (by omega), if_neg (by omega), if_neg (by rw [hzc]; exact Bool.false_ne_true)]) _ (plT_le _ hl100)
