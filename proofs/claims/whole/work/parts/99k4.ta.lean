theorem K_exp1 {L : Nat} {xs : Nat → Int32} (d : Nat) (g : Nat → Nat → Nat) (hl : Nat → Nat → Int64) (T c e : Nat) (hT : TbT T) (hX : TX g) (p le li : Nat) (l : List Nat) (s : Nat) {Q : Po} (hq : Q none (HN (RT g T p 1 le li l) hl (RF (3, T, c, e)))) : Ev L xs (d) 58 0 [(0, .ref 5), (1, .int (nI s))] [] (HN (RT g T p 1 le li l) hl (RF (3, T, c, e))) Q := by
  have hN := hX.1
  refine Ev.run 6 (pc' := 20) (lv' := [(0, .ref 5), (1, .int (nI s))]) (st' := []) (h' := setI (HN (RT g T p 1 le li l) hl (RF (3, T, c, e))) 5 3 (nI 1)) rfl ?_
  refine Ev.hp (HN_set _ _ _ _ _ _) ?_
  refine Ev.hp (congrArg (fun z => HN z hl (RF (3, T, c, e))) (RT_53 _ _ _ _ _ _ _)) ?_
  refine Ev.ret (v := none) rfl ?_
  exact hq
theorem K_exp0 {L : Nat} {xs : Nat → Int32} (d : Nat) (g : Nat → Nat → Nat) (hl : Nat → Nat → Int64) (T c e : Nat) (hT : TbT T) (hX : TX g) (p le li : Nat) (l : List Nat) (s : Nat) (hp : p < 2 ^ 31) (hs0 : s ≠ 0) (hs : s < 128) {Q : Po} (hq : (pkS g p = s → Q none (HN (RT g T (p + 1) 0 le li l) hl (RF (3, T, c, e)))) ∧ (¬ pkS g p = s → Q none (HN (RT g T p 1 le li l) hl (RF (3, T, c, e))))) : Ev L xs (d + 1) 58 0 [(0, .ref 5), (1, .int (nI s))] [] (HN (RT g T p 0 le li l) hl (RF (3, T, c, e))) Q := by
  have hN := hX.1
  have hn := nx_le hX p
  refine Ev.run 4 (pc' := 8) (lv' := [(0, .ref 5), (1, .int (nI s))]) (st' := [.ref 5]) (h' := HN (RT g T p 0 le li l) hl (RF (3, T, c, e))) rfl ?_
  refine Ev.call (a := 59) (as := [.ref 5]) (rest := []) (lv0 := [(0, .ref 5)]) (Q1 := (fun z0 h' => z0 = some (.int (nI (nxC g p))) ∧ h' = HN (RT g T p 0 le li l) hl (RF (3, T, c, e)))) rfl rfl (K_next _ _ _ _ _ _ hT hX p _ _ l 0 (by omega) ⟨rfl, rfl⟩) (fun r h' hr => ?_)
  obtain ⟨rfl, rfl⟩ := hr
  refine Ev.run 2 (pc' := (if nI (nxC g p) = nI s then 21 else 15)) (lv' := [(0, .ref 5), (1, .int (nI s))]) (st' := []) (h' := HN (RT g T p 0 le li l) hl (RF (3, T, c, e))) rfl ?_
  refine Ev.ite (fun hc12 => ?_) (fun hc12 => ?_)
  · have hc12 : (nxC g p) = s := (nI_eqU (by omega) (by omega)).mp hc12
    refine Ev.run 5 (pc' := 28) (lv' := [(0, .ref 5), (1, .int (nI s))]) (st' := [.int (nI p + nI 1), .ref 5]) (h' := HN (RT g T p 0 le li l) hl (RF (3, T, c, e))) rfl ?_
    refine Ev.topI (nI_add _ _) ?_
    refine Ev.run 1 (pc' := 31) (lv' := [(0, .ref 5), (1, .int (nI s))]) (st' := []) (h' := setI (HN (RT g T p 0 le li l) hl (RF (3, T, c, e))) 5 2 (nI (p + 1))) rfl ?_
    refine Ev.hp (HN_set _ _ _ _ _ _) ?_
    refine Ev.hp (congrArg (fun z => HN z hl (RF (3, T, c, e))) (RT_52 _ _ _ _ _ _ _)) ?_
    refine Ev.ret (v := none) rfl ?_
    first
      | exact hq.1 ((nx_pk p hs0 (by omega)).mp hc12)
      | exact hq.2 (fun z => hc12 ((nx_pk p hs0 (by omega)).mpr z))
  · have hc12 : ¬ ((nxC g p) = s) := fun z => hc12 ((nI_eqU (by omega) (by omega)).mpr z)
    refine Ev.run 3 (pc' := 20) (lv' := [(0, .ref 5), (1, .int (nI s))]) (st' := []) (h' := setI (HN (RT g T p 0 le li l) hl (RF (3, T, c, e))) 5 3 (nI 1)) rfl ?_
    refine Ev.hp (HN_set _ _ _ _ _ _) ?_
    refine Ev.hp (congrArg (fun z => HN z hl (RF (3, T, c, e))) (RT_53 _ _ _ _ _ _ _)) ?_
    refine Ev.ret (v := none) rfl ?_
    first
      | exact hq.1 ((nx_pk p hs0 (by omega)).mp hc12)
      | exact hq.2 (fun z => hc12 ((nx_pk p hs0 (by omega)).mpr z))
theorem K_one1_4 {L : Nat} {xs : Nat → Int32} (d : Nat) (g : Nat → Nat → Nat) (hl : Nat → Nat → Int64) (T c e : Nat) (hT : TbT T) (hX : TX g) (p le li : Nat) (l : List Nat) {Q : Po} (hq : Q (some (.int (nI 0))) (HN (RT g T p 1 le li l) hl (RF (3, T, c, e)))) : Ev L xs (d) 56 0 [(0, .ref 5), (1, .retAddr 4)] [] (HN (RT g T p 1 le li l) hl (RF (3, T, c, e))) Q := by
  have hN := hX.1
  refine Ev.run 11 (pc' := 29) (lv' := [(2, .int (nI 4294967295)), (0, .ref 5), (1, .retAddr 4)]) (st' := []) (h' := setI (HN (RT g T p 1 le li l) hl (RF (3, T, c, e))) 5 3 (nI 1)) rfl ?_
  refine Ev.hp (HN_set _ _ _ _ _ _) ?_
  refine Ev.hp (congrArg (fun z => HN z hl (RF (3, T, c, e))) (RT_53 _ _ _ _ _ _ _)) ?_
  refine Ev.run 1 (pc' := 30) (lv' := [(2, .int (nI 4294967295)), (0, .ref 5), (1, .retAddr 4)]) (st' := [.int (nI 0)]) (h' := HN (RT g T p 1 le li l) hl (RF (3, T, c, e))) rfl ?_
  refine Ev.ret (v := some (.int (nI 0))) rfl ?_
  exact hq
theorem K_one0_4 {L : Nat} {xs : Nat → Int32} (d : Nat) (g : Nat → Nat → Nat) (hl : Nat → Nat → Int64) (T c e : Nat) (hT : TbT T) (hX : TX g) (p le li : Nat) (l : List Nat) (hp : p < 2 ^ 31) {Q : Po} (hq : (plcS (nxC g p) < 4294967295 → Q (some (.int (nI (plcS (nxC g p))))) (HN (RT g T (p + 1) 0 le li l) hl (RF (3, T, c, e)))) ∧ (plcS (nxC g p) = 4294967295 → Q (some (.int (nI 0))) (HN (RT g T p 1 le li l) hl (RF (3, T, c, e))))) : Ev L xs (d + 5) 56 0 [(0, .ref 5), (1, .retAddr 4)] [] (HN (RT g T p 0 le li l) hl (RF (3, T, c, e))) Q := by
  have hN := hX.1
  have hn := nx_le hX p
  have hf := plcS_le2 (nxC g p)
  refine Ev.run 5 (pc' := 13) (lv' := [(0, .ref 5), (1, .retAddr 4)]) (st' := [.ref 5, .retAddr 4]) (h' := HN (RT g T p 0 le li l) hl (RF (3, T, c, e))) rfl ?_
  refine Ev.call (a := 59) (as := [.ref 5]) (rest := [.retAddr 4]) (lv0 := [(0, .ref 5)]) (Q1 := (fun z0 h' => z0 = some (.int (nI (nxC g p))) ∧ h' = HN (RT g T p 0 le li l) hl (RF (3, T, c, e)))) rfl rfl (K_next _ _ _ _ _ _ hT hX p _ _ l 0 (by omega) ⟨rfl, rfl⟩) (fun r h' hr => ?_)
  obtain ⟨rfl, rfl⟩ := hr
  refine Ev.call (a := 243) (as := [.retAddr 4, .int (nI (nxC g p))]) (rest := []) (lv0 := [(0, .retAddr 4), (1, .int (nI (nxC g p)))]) (Q1 := (fun z0 h' => z0 = some (.int (nI (plcS (nxC g p)))) ∧ h' = HN (RT g T p 0 le li l) hl (RF (3, T, c, e)))) rfl rfl (K_io4 _ _ _ _ (nxC g p) (by omega) ⟨rfl, rfl⟩) (fun r h' hr => ?_)
  obtain ⟨rfl, rfl⟩ := hr
  refine Ev.run 3 (pc' := (if 0 ≤ nI (plcS (nxC g p)) then 31 else 24)) (lv' := [(2, .int (nI (plcS (nxC g p)))), (0, .ref 5), (1, .retAddr 4)]) (st' := []) (h' := HN (RT g T p 0 le li l) hl (RF (3, T, c, e))) rfl ?_
  refine Ev.ite (fun hc21 => ?_) (fun hc21 => ?_)
  · have hc21 : (plcS (nxC g p)) < 2147483648 := (nI_geU0 (by omega)).mp hc21
    refine Ev.run 5 (pc' := 38) (lv' := [(2, .int (nI (plcS (nxC g p)))), (0, .ref 5), (1, .retAddr 4)]) (st' := [.int (nI p + nI 1), .ref 5]) (h' := HN (RT g T p 0 le li l) hl (RF (3, T, c, e))) rfl ?_
    refine Ev.topI (nI_add _ _) ?_
    refine Ev.run 1 (pc' := 41) (lv' := [(2, .int (nI (plcS (nxC g p)))), (0, .ref 5), (1, .retAddr 4)]) (st' := []) (h' := setI (HN (RT g T p 0 le li l) hl (RF (3, T, c, e))) 5 2 (nI (p + 1))) rfl ?_
    refine Ev.hp (HN_set _ _ _ _ _ _) ?_
    refine Ev.hp (congrArg (fun z => HN z hl (RF (3, T, c, e))) (RT_52 _ _ _ _ _ _ _)) ?_
    refine Ev.run 1 (pc' := 42) (lv' := [(2, .int (nI (plcS (nxC g p)))), (0, .ref 5), (1, .retAddr 4)]) (st' := [.int (nI (plcS (nxC g p)))]) (h' := HN (RT g T (p + 1) 0 le li l) hl (RF (3, T, c, e))) rfl ?_
    refine Ev.ret (v := some (.int (nI (plcS (nxC g p))))) rfl ?_
    first
      | exact hq.1 (by omega)
      | exact hq.2 (by omega)
  · have hc21 : ¬ ((plcS (nxC g p)) < 2147483648) := fun z => hc21 ((nI_geU0 (by omega)).mpr z)
    refine Ev.run 3 (pc' := 29) (lv' := [(2, .int (nI (plcS (nxC g p)))), (0, .ref 5), (1, .retAddr 4)]) (st' := []) (h' := setI (HN (RT g T p 0 le li l) hl (RF (3, T, c, e))) 5 3 (nI 1)) rfl ?_
    refine Ev.hp (HN_set _ _ _ _ _ _) ?_
    refine Ev.hp (congrArg (fun z => HN z hl (RF (3, T, c, e))) (RT_53 _ _ _ _ _ _ _)) ?_
    refine Ev.run 1 (pc' := 30) (lv' := [(2, .int (nI (plcS (nxC g p)))), (0, .ref 5), (1, .retAddr 4)]) (st' := [.int (nI 0)]) (h' := HN (RT g T p 1 le li l) hl (RF (3, T, c, e))) rfl ?_
    refine Ev.ret (v := some (.int (nI 0))) rfl ?_
    first
      | exact hq.1 (by omega)
      | exact hq.2 (by omega)
theorem K_one1_5 {L : Nat} {xs : Nat → Int32} (d : Nat) (g : Nat → Nat → Nat) (hl : Nat → Nat → Int64) (T c e : Nat) (hT : TbT T) (hX : TX g) (p le li : Nat) (l : List Nat) {Q : Po} (hq : Q (some (.int (nI 0))) (HN (RT g T p 1 le li l) hl (RF (3, T, c, e)))) : Ev L xs (d) 56 0 [(0, .ref 5), (1, .retAddr 5)] [] (HN (RT g T p 1 le li l) hl (RF (3, T, c, e))) Q := by
  have hN := hX.1
  refine Ev.run 11 (pc' := 29) (lv' := [(2, .int (nI 4294967295)), (0, .ref 5), (1, .retAddr 5)]) (st' := []) (h' := setI (HN (RT g T p 1 le li l) hl (RF (3, T, c, e))) 5 3 (nI 1)) rfl ?_
  refine Ev.hp (HN_set _ _ _ _ _ _) ?_
  refine Ev.hp (congrArg (fun z => HN z hl (RF (3, T, c, e))) (RT_53 _ _ _ _ _ _ _)) ?_
  refine Ev.run 1 (pc' := 30) (lv' := [(2, .int (nI 4294967295)), (0, .ref 5), (1, .retAddr 5)]) (st' := [.int (nI 0)]) (h' := HN (RT g T p 1 le li l) hl (RF (3, T, c, e))) rfl ?_
  refine Ev.ret (v := some (.int (nI 0))) rfl ?_
  exact hq
theorem K_one0_5 {L : Nat} {xs : Nat → Int32} (d : Nat) (g : Nat → Nat → Nat) (hl : Nat → Nat → Int64) (T c e : Nat) (hT : TbT T) (hX : TX g) (p le li : Nat) (l : List Nat) (hp : p < 2 ^ 31) {Q : Po} (hq : (rlS (nxC g p) < 4294967295 → Q (some (.int (nI (rlS (nxC g p))))) (HN (RT g T (p + 1) 0 le li l) hl (RF (3, T, c, e)))) ∧ (rlS (nxC g p) = 4294967295 → Q (some (.int (nI 0))) (HN (RT g T p 1 le li l) hl (RF (3, T, c, e))))) : Ev L xs (d + 5) 56 0 [(0, .ref 5), (1, .retAddr 5)] [] (HN (RT g T p 0 le li l) hl (RF (3, T, c, e))) Q := by
  have hN := hX.1
  have hn := nx_le hX p
  have hf := rlS_le2 (nxC g p)
  refine Ev.run 5 (pc' := 13) (lv' := [(0, .ref 5), (1, .retAddr 5)]) (st' := [.ref 5, .retAddr 5]) (h' := HN (RT g T p 0 le li l) hl (RF (3, T, c, e))) rfl ?_
  refine Ev.call (a := 59) (as := [.ref 5]) (rest := [.retAddr 5]) (lv0 := [(0, .ref 5)]) (Q1 := (fun z0 h' => z0 = some (.int (nI (nxC g p))) ∧ h' = HN (RT g T p 0 le li l) hl (RF (3, T, c, e)))) rfl rfl (K_next _ _ _ _ _ _ hT hX p _ _ l 0 (by omega) ⟨rfl, rfl⟩) (fun r h' hr => ?_)
  obtain ⟨rfl, rfl⟩ := hr
  refine Ev.call (a := 243) (as := [.retAddr 5, .int (nI (nxC g p))]) (rest := []) (lv0 := [(0, .retAddr 5), (1, .int (nI (nxC g p)))]) (Q1 := (fun z0 h' => z0 = some (.int (nI (rlS (nxC g p)))) ∧ h' = HN (RT g T p 0 le li l) hl (RF (3, T, c, e)))) rfl rfl (K_io5 _ _ _ _ (nxC g p) (by omega) ⟨rfl, rfl⟩) (fun r h' hr => ?_)
  obtain ⟨rfl, rfl⟩ := hr
  refine Ev.run 3 (pc' := (if 0 ≤ nI (rlS (nxC g p)) then 31 else 24)) (lv' := [(2, .int (nI (rlS (nxC g p)))), (0, .ref 5), (1, .retAddr 5)]) (st' := []) (h' := HN (RT g T p 0 le li l) hl (RF (3, T, c, e))) rfl ?_
  refine Ev.ite (fun hc21 => ?_) (fun hc21 => ?_)
  · have hc21 : (rlS (nxC g p)) < 2147483648 := (nI_geU0 (by omega)).mp hc21
    refine Ev.run 5 (pc' := 38) (lv' := [(2, .int (nI (rlS (nxC g p)))), (0, .ref 5), (1, .retAddr 5)]) (st' := [.int (nI p + nI 1), .ref 5]) (h' := HN (RT g T p 0 le li l) hl (RF (3, T, c, e))) rfl ?_
    refine Ev.topI (nI_add _ _) ?_
    refine Ev.run 1 (pc' := 41) (lv' := [(2, .int (nI (rlS (nxC g p)))), (0, .ref 5), (1, .retAddr 5)]) (st' := []) (h' := setI (HN (RT g T p 0 le li l) hl (RF (3, T, c, e))) 5 2 (nI (p + 1))) rfl ?_
    refine Ev.hp (HN_set _ _ _ _ _ _) ?_
    refine Ev.hp (congrArg (fun z => HN z hl (RF (3, T, c, e))) (RT_52 _ _ _ _ _ _ _)) ?_
    refine Ev.run 1 (pc' := 42) (lv' := [(2, .int (nI (rlS (nxC g p)))), (0, .ref 5), (1, .retAddr 5)]) (st' := [.int (nI (rlS (nxC g p)))]) (h' := HN (RT g T (p + 1) 0 le li l) hl (RF (3, T, c, e))) rfl ?_
    refine Ev.ret (v := some (.int (nI (rlS (nxC g p))))) rfl ?_
    first
      | exact hq.1 (by omega)
      | exact hq.2 (by omega)
  · have hc21 : ¬ ((rlS (nxC g p)) < 2147483648) := fun z => hc21 ((nI_geU0 (by omega)).mpr z)
    refine Ev.run 3 (pc' := 29) (lv' := [(2, .int (nI (rlS (nxC g p)))), (0, .ref 5), (1, .retAddr 5)]) (st' := []) (h' := setI (HN (RT g T p 0 le li l) hl (RF (3, T, c, e))) 5 3 (nI 1)) rfl ?_
    refine Ev.hp (HN_set _ _ _ _ _ _) ?_
    refine Ev.hp (congrArg (fun z => HN z hl (RF (3, T, c, e))) (RT_53 _ _ _ _ _ _ _)) ?_
    refine Ev.run 1 (pc' := 30) (lv' := [(2, .int (nI (rlS (nxC g p)))), (0, .ref 5), (1, .retAddr 5)]) (st' := [.int (nI 0)]) (h' := HN (RT g T p 1 le li l) hl (RF (3, T, c, e))) rfl ?_
    refine Ev.ret (v := some (.int (nI 0))) rfl ?_
    first
      | exact hq.1 (by omega)
      | exact hq.2 (by omega)
theorem K_one1_6 {L : Nat} {xs : Nat → Int32} (d : Nat) (g : Nat → Nat → Nat) (hl : Nat → Nat → Int64) (T c e : Nat) (hT : TbT T) (hX : TX g) (p le li : Nat) (l : List Nat) {Q : Po} (hq : Q (some (.int (nI 0))) (HN (RT g T p 1 le li l) hl (RF (3, T, c, e)))) : Ev L xs (d) 56 0 [(0, .ref 5), (1, .retAddr 6)] [] (HN (RT g T p 1 le li l) hl (RF (3, T, c, e))) Q := by
  have hN := hX.1
  refine Ev.run 11 (pc' := 29) (lv' := [(2, .int (nI 4294967295)), (0, .ref 5), (1, .retAddr 6)]) (st' := []) (h' := setI (HN (RT g T p 1 le li l) hl (RF (3, T, c, e))) 5 3 (nI 1)) rfl ?_
  refine Ev.hp (HN_set _ _ _ _ _ _) ?_
  refine Ev.hp (congrArg (fun z => HN z hl (RF (3, T, c, e))) (RT_53 _ _ _ _ _ _ _)) ?_
  refine Ev.run 1 (pc' := 30) (lv' := [(2, .int (nI 4294967295)), (0, .ref 5), (1, .retAddr 6)]) (st' := [.int (nI 0)]) (h' := HN (RT g T p 1 le li l) hl (RF (3, T, c, e))) rfl ?_
  refine Ev.ret (v := some (.int (nI 0))) rfl ?_
  exact hq
theorem K_one0_6 {L : Nat} {xs : Nat → Int32} (d : Nat) (g : Nat → Nat → Nat) (hl : Nat → Nat → Int64) (T c e : Nat) (hT : TbT T) (hX : TX g) (p le li : Nat) (l : List Nat) (hp : p < 2 ^ 31) {Q : Po} (hq : (dgS (nxC g p) < 4294967295 → Q (some (.int (nI (dgS (nxC g p))))) (HN (RT g T (p + 1) 0 le li l) hl (RF (3, T, c, e)))) ∧ (dgS (nxC g p) = 4294967295 → Q (some (.int (nI 0))) (HN (RT g T p 1 le li l) hl (RF (3, T, c, e))))) : Ev L xs (d + 5) 56 0 [(0, .ref 5), (1, .retAddr 6)] [] (HN (RT g T p 0 le li l) hl (RF (3, T, c, e))) Q := by
  have hN := hX.1
  have hn := nx_le hX p
  have hf := dgS_le2 (nxC g p)
  refine Ev.run 5 (pc' := 13) (lv' := [(0, .ref 5), (1, .retAddr 6)]) (st' := [.ref 5, .retAddr 6]) (h' := HN (RT g T p 0 le li l) hl (RF (3, T, c, e))) rfl ?_
  refine Ev.call (a := 59) (as := [.ref 5]) (rest := [.retAddr 6]) (lv0 := [(0, .ref 5)]) (Q1 := (fun z0 h' => z0 = some (.int (nI (nxC g p))) ∧ h' = HN (RT g T p 0 le li l) hl (RF (3, T, c, e)))) rfl rfl (K_next _ _ _ _ _ _ hT hX p _ _ l 0 (by omega) ⟨rfl, rfl⟩) (fun r h' hr => ?_)
  obtain ⟨rfl, rfl⟩ := hr
  refine Ev.call (a := 243) (as := [.retAddr 6, .int (nI (nxC g p))]) (rest := []) (lv0 := [(0, .retAddr 6), (1, .int (nI (nxC g p)))]) (Q1 := (fun z0 h' => z0 = some (.int (nI (dgS (nxC g p)))) ∧ h' = HN (RT g T p 0 le li l) hl (RF (3, T, c, e)))) rfl rfl (K_io6 _ _ _ _ (nxC g p) (by omega) ⟨rfl, rfl⟩) (fun r h' hr => ?_)
  obtain ⟨rfl, rfl⟩ := hr
  refine Ev.run 3 (pc' := (if 0 ≤ nI (dgS (nxC g p)) then 31 else 24)) (lv' := [(2, .int (nI (dgS (nxC g p)))), (0, .ref 5), (1, .retAddr 6)]) (st' := []) (h' := HN (RT g T p 0 le li l) hl (RF (3, T, c, e))) rfl ?_
  refine Ev.ite (fun hc21 => ?_) (fun hc21 => ?_)
  · have hc21 : (dgS (nxC g p)) < 2147483648 := (nI_geU0 (by omega)).mp hc21
    refine Ev.run 5 (pc' := 38) (lv' := [(2, .int (nI (dgS (nxC g p)))), (0, .ref 5), (1, .retAddr 6)]) (st' := [.int (nI p + nI 1), .ref 5]) (h' := HN (RT g T p 0 le li l) hl (RF (3, T, c, e))) rfl ?_
    refine Ev.topI (nI_add _ _) ?_
    refine Ev.run 1 (pc' := 41) (lv' := [(2, .int (nI (dgS (nxC g p)))), (0, .ref 5), (1, .retAddr 6)]) (st' := []) (h' := setI (HN (RT g T p 0 le li l) hl (RF (3, T, c, e))) 5 2 (nI (p + 1))) rfl ?_
    refine Ev.hp (HN_set _ _ _ _ _ _) ?_
    refine Ev.hp (congrArg (fun z => HN z hl (RF (3, T, c, e))) (RT_52 _ _ _ _ _ _ _)) ?_
    refine Ev.run 1 (pc' := 42) (lv' := [(2, .int (nI (dgS (nxC g p)))), (0, .ref 5), (1, .retAddr 6)]) (st' := [.int (nI (dgS (nxC g p)))]) (h' := HN (RT g T (p + 1) 0 le li l) hl (RF (3, T, c, e))) rfl ?_
    refine Ev.ret (v := some (.int (nI (dgS (nxC g p))))) rfl ?_
    first
      | exact hq.1 (by omega)
      | exact hq.2 (by omega)
  · have hc21 : ¬ ((dgS (nxC g p)) < 2147483648) := fun z => hc21 ((nI_geU0 (by omega)).mpr z)
    refine Ev.run 3 (pc' := 29) (lv' := [(2, .int (nI (dgS (nxC g p)))), (0, .ref 5), (1, .retAddr 6)]) (st' := []) (h' := setI (HN (RT g T p 0 le li l) hl (RF (3, T, c, e))) 5 3 (nI 1)) rfl ?_
    refine Ev.hp (HN_set _ _ _ _ _ _) ?_
    refine Ev.hp (congrArg (fun z => HN z hl (RF (3, T, c, e))) (RT_53 _ _ _ _ _ _ _)) ?_
    refine Ev.run 1 (pc' := 30) (lv' := [(2, .int (nI (dgS (nxC g p)))), (0, .ref 5), (1, .retAddr 6)]) (st' := [.int (nI 0)]) (h' := HN (RT g T p 1 le li l) hl (RF (3, T, c, e))) rfl ?_
    refine Ev.ret (v := some (.int (nI 0))) rfl ?_
    first
      | exact hq.1 (by omega)
      | exact hq.2 (by omega)

