theorem K_ioc5 {L : Nat} {xs : Nat → Int32} (d : Nat) (g : Nat → Nat → Nat) (hl : Nat → Nat → Int64) (rt : Nat × Nat × Nat × Nat) (c : Nat) (hc : c < 128) {Q : Po} (hq : Q (some (.int (nI (rlS c)))) (HN g hl (RF rt))) : Ev L xs (d) 251 0 [(0, .retAddr 11), (1, .int (nI c)), (2, .int (nI 0)), (3, .int (nI 3))] [] (HN g hl (RF rt)) Q := by
  refine Ev.run 2 (pc' := 2) (lv' := [(0, .retAddr 11), (1, .int (nI c)), (2, .int (nI 0)), (3, .int (nI 3))]) (st' := [.int ((nI c).toInt8.toInt32)]) (h' := HN g hl (RF rt)) rfl ?_
  refine Ev.topI (nI_i2b (by omega)) ?_
  refine Ev.run 8 (pc' := 16) (lv' := [(5, .int (nI 0)), (4, .int (nI c)), (0, .retAddr 11), (1, .int (nI c)), (2, .int (nI 0)), (3, .int (nI 3))]) (st' := [.int (nI 0), .retAddr 11]) (h' := HN g hl (RF rt)) rfl ?_
  refine Ev.run 1 (pc' := 17) (lv' := [(5, .int (nI 0)), (4, .int (nI c)), (0, .retAddr 11), (1, .int (nI c)), (2, .int (nI 0)), (3, .int (nI 3))]) (st' := [.int (nI 60)]) (h' := HN g hl (RF rt)) rfl ?_
  refine Ev.run 2 (pc' := (if nI 60 = nI c then 22 else 25)) (lv' := [(5, .int (nI 0)), (4, .int (nI c)), (0, .retAddr 11), (1, .int (nI c)), (2, .int (nI 0)), (3, .int (nI 3))]) (st' := []) (h' := HN g hl (RF rt)) rfl ?_
  refine Ev.ite (fun hc19 => ?_) (fun hc19 => ?_)
  · have hc19 : 60 = c := (nI_eqU (by omega) (by omega)).mp hc19
    refine Ev.run 1 (pc' := 24) (lv' := [(5, .int (nI 0)), (4, .int (nI c)), (0, .retAddr 11), (1, .int (nI c)), (2, .int (nI 0)), (3, .int (nI 3))]) (st' := [.int (nI 0)]) (h' := HN g hl (RF rt)) rfl ?_
    refine Ev.ret (v := some (.int (nI 0))) rfl ?_
    unfold rlS at hq
    repeat (first | rw [if_neg (by omega)] at hq | rw [if_pos (by omega)] at hq)
    exact hq
  · have hc19 : ¬ (60 = c) := fun z => hc19 ((nI_eqU (by omega) (by omega)).mpr z)
    refine Ev.run 7 (pc' := 16) (lv' := [(5, .int (nI 1)), (4, .int (nI c)), (0, .retAddr 11), (1, .int (nI c)), (2, .int (nI 0)), (3, .int (nI 3))]) (st' := [.int (nI 1), .retAddr 11]) (h' := HN g hl (RF rt)) rfl ?_
    refine Ev.run 1 (pc' := 17) (lv' := [(5, .int (nI 1)), (4, .int (nI c)), (0, .retAddr 11), (1, .int (nI c)), (2, .int (nI 0)), (3, .int (nI 3))]) (st' := [.int (nI 61)]) (h' := HN g hl (RF rt)) rfl ?_
    refine Ev.run 2 (pc' := (if nI 61 = nI c then 22 else 25)) (lv' := [(5, .int (nI 1)), (4, .int (nI c)), (0, .retAddr 11), (1, .int (nI c)), (2, .int (nI 0)), (3, .int (nI 3))]) (st' := []) (h' := HN g hl (RF rt)) rfl ?_
    refine Ev.ite (fun hc19 => ?_) (fun hc19 => ?_)
    · have hc19 : 61 = c := (nI_eqU (by omega) (by omega)).mp hc19
      refine Ev.run 1 (pc' := 24) (lv' := [(5, .int (nI 1)), (4, .int (nI c)), (0, .retAddr 11), (1, .int (nI c)), (2, .int (nI 0)), (3, .int (nI 3))]) (st' := [.int (nI 1)]) (h' := HN g hl (RF rt)) rfl ?_
      refine Ev.ret (v := some (.int (nI 1))) rfl ?_
      unfold rlS at hq
      repeat (first | rw [if_neg (by omega)] at hq | rw [if_pos (by omega)] at hq)
      exact hq
    · have hc19 : ¬ (61 = c) := fun z => hc19 ((nI_eqU (by omega) (by omega)).mpr z)
      refine Ev.run 7 (pc' := 16) (lv' := [(5, .int (nI 2)), (4, .int (nI c)), (0, .retAddr 11), (1, .int (nI c)), (2, .int (nI 0)), (3, .int (nI 3))]) (st' := [.int (nI 2), .retAddr 11]) (h' := HN g hl (RF rt)) rfl ?_
      refine Ev.run 1 (pc' := 17) (lv' := [(5, .int (nI 2)), (4, .int (nI c)), (0, .retAddr 11), (1, .int (nI c)), (2, .int (nI 0)), (3, .int (nI 3))]) (st' := [.int (nI 62)]) (h' := HN g hl (RF rt)) rfl ?_
      refine Ev.run 2 (pc' := (if nI 62 = nI c then 22 else 25)) (lv' := [(5, .int (nI 2)), (4, .int (nI c)), (0, .retAddr 11), (1, .int (nI c)), (2, .int (nI 0)), (3, .int (nI 3))]) (st' := []) (h' := HN g hl (RF rt)) rfl ?_
      refine Ev.ite (fun hc19 => ?_) (fun hc19 => ?_)
      · have hc19 : 62 = c := (nI_eqU (by omega) (by omega)).mp hc19
        refine Ev.run 1 (pc' := 24) (lv' := [(5, .int (nI 2)), (4, .int (nI c)), (0, .retAddr 11), (1, .int (nI c)), (2, .int (nI 0)), (3, .int (nI 3))]) (st' := [.int (nI 2)]) (h' := HN g hl (RF rt)) rfl ?_
        refine Ev.ret (v := some (.int (nI 2))) rfl ?_
        unfold rlS at hq
        repeat (first | rw [if_neg (by omega)] at hq | rw [if_pos (by omega)] at hq)
        exact hq
      · have hc19 : ¬ (62 = c) := fun z => hc19 ((nI_eqU (by omega) (by omega)).mpr z)
        refine Ev.run 6 (pc' := 32) (lv' := [(5, .int (nI 3)), (4, .int (nI c)), (0, .retAddr 11), (1, .int (nI c)), (2, .int (nI 0)), (3, .int (nI 3))]) (st' := [.int (nI 4294967295)]) (h' := HN g hl (RF rt)) rfl ?_
        refine Ev.ret (v := some (.int (nI 4294967295))) rfl ?_
        unfold rlS at hq
        repeat (first | rw [if_neg (by omega)] at hq | rw [if_pos (by omega)] at hq)
        exact hq
theorem K_iob5 {L : Nat} {xs : Nat → Int32} (d : Nat) (g : Nat → Nat → Nat) (hl : Nat → Nat → Int64) (rt : Nat × Nat × Nat × Nat) (c : Nat) (hc : c < 128) {Q : Po} (hq : Q (some (.int (nI (rlS c)))) (HN g hl (RF rt))) : Ev L xs (d + 2) 250 0 [(0, .retAddr 11), (1, .int (nI c)), (2, .int (nI 0)), (3, .int (nI 3))] [] (HN g hl (RF rt)) Q := by
  refine Ev.run 1 (pc' := 1) (lv' := [(0, .retAddr 11), (1, .int (nI c)), (2, .int (nI 0)), (3, .int (nI 3))]) (st' := [.int (nI c)]) (h' := HN g hl (RF rt)) rfl ?_
  refine Ev.call (a := 249) (as := [.int (nI c)]) (rest := []) (lv0 := [(0, .int (nI c))]) (Q1 := (fun z0 h' => z0 = some (.int (nI 1)) ∧ h' = HN g hl (RF rt))) rfl rfl (K_canE _ _ _ _ c hc ⟨rfl, rfl⟩) (fun r h' hr => ?_)
  obtain ⟨rfl, rfl⟩ := hr
  refine Ev.run 3 (pc' := 11) (lv' := [(0, .retAddr 11), (1, .int (nI c)), (2, .int (nI 0)), (3, .int (nI 3))]) (st' := [.int (nI 0), .int (nI 0)]) (h' := HN g hl (RF rt)) rfl ?_
  refine Ev_max rfl rfl rfl (show (if nI 0 < nI 0 then nI 0 else nI 0) = nI 0 from rfl) ?_
  refine Ev.run 4 (pc' := 18) (lv' := [(2, .int (nI 0)), (0, .retAddr 11), (1, .int (nI c)), (3, .int (nI 3))]) (st' := [.int (Int32.ofNat (xLen L 11)), .int (nI 3)]) (h' := HN g hl (RF rt)) rfl ?_
  refine Ev.topI (show Int32.ofNat (xLen L 11) = nI 3 from rfl) ?_
  refine Ev_min rfl (by omega) (by omega) rfl rfl ?_
  refine Ev.topI (show nI (if 3 < 3 then 3 else 3) = nI 3 from rfl) ?_
  refine Ev.run 8 (pc' := 33) (lv' := [(3, .int (nI 3)), (2, .int (nI 0)), (0, .retAddr 11), (1, .int (nI c))]) (st' := [.int (nI 3), .int (nI 0), .int (nI c), .retAddr 11]) (h' := HN g hl (RF rt)) rfl ?_
  refine Ev.call (a := 251) (as := [.retAddr 11, .int (nI c), .int (nI 0), .int (nI 3)]) (rest := []) (lv0 := [(0, .retAddr 11), (1, .int (nI c)), (2, .int (nI 0)), (3, .int (nI 3))]) (Q1 := (fun z0 h' => z0 = some (.int (nI (rlS c))) ∧ h' = HN g hl (RF rt))) rfl rfl (K_ioc5 _ _ _ _ c hc ⟨rfl, rfl⟩) (fun r h' hr => ?_)
  obtain ⟨rfl, rfl⟩ := hr
  refine Ev.ret (v := some (.int (nI (rlS c)))) rfl ?_
  first
    | exact hq
    | (exfalso; omega)
theorem K_ioa5 {L : Nat} {xs : Nat → Int32} (d : Nat) (g : Nat → Nat → Nat) (hl : Nat → Nat → Int64) (rt : Nat × Nat × Nat × Nat) (c : Nat) (hc : c < 128) {Q : Po} (hq : Q (some (.int (nI (rlS c)))) (HN g hl (RF rt))) : Ev L xs (d + 3) 244 0 [(0, .retAddr 5), (1, .int (nI c)), (2, .int (nI 0))] [] (HN g hl (RF rt)) Q := by
  refine Ev.run 1 (pc' := 1) (lv' := [(0, .retAddr 5), (1, .int (nI c)), (2, .int (nI 0))]) (st' := [.retAddr 5]) (h' := HN g hl (RF rt)) rfl ?_
  refine Ev.call (a := 246) (as := [.retAddr 5]) (rest := []) (lv0 := [(0, .retAddr 5)]) (Q1 := (fun z0 h' => z0 = some (.int (nI 1)) ∧ h' = HN g hl (RF rt))) rfl rfl (K_lat5 _ _ ⟨rfl, rfl⟩) (fun r h' hr => ?_)
  obtain ⟨rfl, rfl⟩ := hr
  refine Ev.run 6 (pc' := 14) (lv' := [(0, .retAddr 5), (1, .int (nI c)), (2, .int (nI 0))]) (st' := [.retAddr 5, .int (nI 0), .int (nI c), .retAddr 11]) (h' := HN g hl (RF rt)) rfl ?_
  refine Ev.call (a := 241) (as := [.retAddr 5]) (rest := [.int (nI 0), .int (nI c), .retAddr 11]) (lv0 := [(0, .retAddr 5)]) (Q1 := (fun z0 h' => z0 = some (.int (nI 3)) ∧ h' = HN g hl (RF rt))) rfl rfl (K_len5 _ _ ⟨rfl, rfl⟩) (fun r h' hr => ?_)
  obtain ⟨rfl, rfl⟩ := hr
  refine Ev.call (a := 250) (as := [.retAddr 11, .int (nI c), .int (nI 0), .int (nI 3)]) (rest := []) (lv0 := [(0, .retAddr 11), (1, .int (nI c)), (2, .int (nI 0)), (3, .int (nI 3))]) (Q1 := (fun z0 h' => z0 = some (.int (nI (rlS c))) ∧ h' = HN g hl (RF rt))) rfl rfl (K_iob5 _ _ _ _ c hc ⟨rfl, rfl⟩) (fun r h' hr => ?_)
  obtain ⟨rfl, rfl⟩ := hr
  refine Ev.run 1 (pc' := 36) (lv' := [(0, .retAddr 5), (1, .int (nI c)), (2, .int (nI 0))]) (st' := [.int (nI (rlS c))]) (h' := HN g hl (RF rt)) rfl ?_
  refine Ev.ret (v := some (.int (nI (rlS c)))) rfl ?_
  first
    | exact hq
    | (exfalso; omega)
theorem K_io5 {L : Nat} {xs : Nat → Int32} (d : Nat) (g : Nat → Nat → Nat) (hl : Nat → Nat → Int64) (rt : Nat × Nat × Nat × Nat) (c : Nat) (hc : c < 128) {Q : Po} (hq : Q (some (.int (nI (rlS c)))) (HN g hl (RF rt))) : Ev L xs (d + 4) 243 0 [(0, .retAddr 5), (1, .int (nI c))] [] (HN g hl (RF rt)) Q := by
  refine Ev.run 3 (pc' := 3) (lv' := [(0, .retAddr 5), (1, .int (nI c))]) (st' := [.int (nI 0), .int (nI c), .retAddr 5]) (h' := HN g hl (RF rt)) rfl ?_
  refine Ev.call (a := 244) (as := [.retAddr 5, .int (nI c), .int (nI 0)]) (rest := []) (lv0 := [(0, .retAddr 5), (1, .int (nI c)), (2, .int (nI 0))]) (Q1 := (fun z0 h' => z0 = some (.int (nI (rlS c))) ∧ h' = HN g hl (RF rt))) rfl rfl (K_ioa5 _ _ _ _ c hc ⟨rfl, rfl⟩) (fun r h' hr => ?_)
  obtain ⟨rfl, rfl⟩ := hr
  refine Ev.ret (v := some (.int (nI (rlS c)))) rfl ?_
  first
    | exact hq
    | (exfalso; omega)
theorem K_ioc6 {L : Nat} {xs : Nat → Int32} (d : Nat) (g : Nat → Nat → Nat) (hl : Nat → Nat → Int64) (rt : Nat × Nat × Nat × Nat) (c : Nat) (hc : c < 128) {Q : Po} (hq : Q (some (.int (nI (dgS c)))) (HN g hl (RF rt))) : Ev L xs (d) 251 0 [(0, .retAddr 12), (1, .int (nI c)), (2, .int (nI 0)), (3, .int (nI 10))] [] (HN g hl (RF rt)) Q := by
  refine Ev.run 2 (pc' := 2) (lv' := [(0, .retAddr 12), (1, .int (nI c)), (2, .int (nI 0)), (3, .int (nI 10))]) (st' := [.int ((nI c).toInt8.toInt32)]) (h' := HN g hl (RF rt)) rfl ?_
  refine Ev.topI (nI_i2b (by omega)) ?_
  refine Ev.run 8 (pc' := 16) (lv' := [(5, .int (nI 0)), (4, .int (nI c)), (0, .retAddr 12), (1, .int (nI c)), (2, .int (nI 0)), (3, .int (nI 10))]) (st' := [.int (nI 0), .retAddr 12]) (h' := HN g hl (RF rt)) rfl ?_
  refine Ev.run 1 (pc' := 17) (lv' := [(5, .int (nI 0)), (4, .int (nI c)), (0, .retAddr 12), (1, .int (nI c)), (2, .int (nI 0)), (3, .int (nI 10))]) (st' := [.int (nI 48)]) (h' := HN g hl (RF rt)) rfl ?_
  refine Ev.run 2 (pc' := (if nI 48 = nI c then 22 else 25)) (lv' := [(5, .int (nI 0)), (4, .int (nI c)), (0, .retAddr 12), (1, .int (nI c)), (2, .int (nI 0)), (3, .int (nI 10))]) (st' := []) (h' := HN g hl (RF rt)) rfl ?_
  refine Ev.ite (fun hc19 => ?_) (fun hc19 => ?_)
  · have hc19 : 48 = c := (nI_eqU (by omega) (by omega)).mp hc19
    refine Ev.run 1 (pc' := 24) (lv' := [(5, .int (nI 0)), (4, .int (nI c)), (0, .retAddr 12), (1, .int (nI c)), (2, .int (nI 0)), (3, .int (nI 10))]) (st' := [.int (nI 0)]) (h' := HN g hl (RF rt)) rfl ?_
    refine Ev.ret (v := some (.int (nI 0))) rfl ?_
    unfold dgS at hq
    repeat (first | rw [if_neg (by omega)] at hq | rw [if_pos (by omega)] at hq)
    exact hq
  · have hc19 : ¬ (48 = c) := fun z => hc19 ((nI_eqU (by omega) (by omega)).mpr z)
    refine Ev.run 7 (pc' := 16) (lv' := [(5, .int (nI 1)), (4, .int (nI c)), (0, .retAddr 12), (1, .int (nI c)), (2, .int (nI 0)), (3, .int (nI 10))]) (st' := [.int (nI 1), .retAddr 12]) (h' := HN g hl (RF rt)) rfl ?_
    refine Ev.run 1 (pc' := 17) (lv' := [(5, .int (nI 1)), (4, .int (nI c)), (0, .retAddr 12), (1, .int (nI c)), (2, .int (nI 0)), (3, .int (nI 10))]) (st' := [.int (nI 49)]) (h' := HN g hl (RF rt)) rfl ?_
    refine Ev.run 2 (pc' := (if nI 49 = nI c then 22 else 25)) (lv' := [(5, .int (nI 1)), (4, .int (nI c)), (0, .retAddr 12), (1, .int (nI c)), (2, .int (nI 0)), (3, .int (nI 10))]) (st' := []) (h' := HN g hl (RF rt)) rfl ?_
    refine Ev.ite (fun hc19 => ?_) (fun hc19 => ?_)
    · have hc19 : 49 = c := (nI_eqU (by omega) (by omega)).mp hc19
      refine Ev.run 1 (pc' := 24) (lv' := [(5, .int (nI 1)), (4, .int (nI c)), (0, .retAddr 12), (1, .int (nI c)), (2, .int (nI 0)), (3, .int (nI 10))]) (st' := [.int (nI 1)]) (h' := HN g hl (RF rt)) rfl ?_
      refine Ev.ret (v := some (.int (nI 1))) rfl ?_
      unfold dgS at hq
      repeat (first | rw [if_neg (by omega)] at hq | rw [if_pos (by omega)] at hq)
      exact hq
    · have hc19 : ¬ (49 = c) := fun z => hc19 ((nI_eqU (by omega) (by omega)).mpr z)
      refine Ev.run 7 (pc' := 16) (lv' := [(5, .int (nI 2)), (4, .int (nI c)), (0, .retAddr 12), (1, .int (nI c)), (2, .int (nI 0)), (3, .int (nI 10))]) (st' := [.int (nI 2), .retAddr 12]) (h' := HN g hl (RF rt)) rfl ?_
      refine Ev.run 1 (pc' := 17) (lv' := [(5, .int (nI 2)), (4, .int (nI c)), (0, .retAddr 12), (1, .int (nI c)), (2, .int (nI 0)), (3, .int (nI 10))]) (st' := [.int (nI 50)]) (h' := HN g hl (RF rt)) rfl ?_
      refine Ev.run 2 (pc' := (if nI 50 = nI c then 22 else 25)) (lv' := [(5, .int (nI 2)), (4, .int (nI c)), (0, .retAddr 12), (1, .int (nI c)), (2, .int (nI 0)), (3, .int (nI 10))]) (st' := []) (h' := HN g hl (RF rt)) rfl ?_
      refine Ev.ite (fun hc19 => ?_) (fun hc19 => ?_)
      · have hc19 : 50 = c := (nI_eqU (by omega) (by omega)).mp hc19
        refine Ev.run 1 (pc' := 24) (lv' := [(5, .int (nI 2)), (4, .int (nI c)), (0, .retAddr 12), (1, .int (nI c)), (2, .int (nI 0)), (3, .int (nI 10))]) (st' := [.int (nI 2)]) (h' := HN g hl (RF rt)) rfl ?_
        refine Ev.ret (v := some (.int (nI 2))) rfl ?_
        unfold dgS at hq
        repeat (first | rw [if_neg (by omega)] at hq | rw [if_pos (by omega)] at hq)
        exact hq
      · have hc19 : ¬ (50 = c) := fun z => hc19 ((nI_eqU (by omega) (by omega)).mpr z)
        refine Ev.run 7 (pc' := 16) (lv' := [(5, .int (nI 3)), (4, .int (nI c)), (0, .retAddr 12), (1, .int (nI c)), (2, .int (nI 0)), (3, .int (nI 10))]) (st' := [.int (nI 3), .retAddr 12]) (h' := HN g hl (RF rt)) rfl ?_
        refine Ev.run 1 (pc' := 17) (lv' := [(5, .int (nI 3)), (4, .int (nI c)), (0, .retAddr 12), (1, .int (nI c)), (2, .int (nI 0)), (3, .int (nI 10))]) (st' := [.int (nI 51)]) (h' := HN g hl (RF rt)) rfl ?_
        refine Ev.run 2 (pc' := (if nI 51 = nI c then 22 else 25)) (lv' := [(5, .int (nI 3)), (4, .int (nI c)), (0, .retAddr 12), (1, .int (nI c)), (2, .int (nI 0)), (3, .int (nI 10))]) (st' := []) (h' := HN g hl (RF rt)) rfl ?_
        refine Ev.ite (fun hc19 => ?_) (fun hc19 => ?_)
        · have hc19 : 51 = c := (nI_eqU (by omega) (by omega)).mp hc19
          refine Ev.run 1 (pc' := 24) (lv' := [(5, .int (nI 3)), (4, .int (nI c)), (0, .retAddr 12), (1, .int (nI c)), (2, .int (nI 0)), (3, .int (nI 10))]) (st' := [.int (nI 3)]) (h' := HN g hl (RF rt)) rfl ?_
          refine Ev.ret (v := some (.int (nI 3))) rfl ?_
          unfold dgS at hq
          repeat (first | rw [if_neg (by omega)] at hq | rw [if_pos (by omega)] at hq)
          exact hq
        · have hc19 : ¬ (51 = c) := fun z => hc19 ((nI_eqU (by omega) (by omega)).mpr z)
          refine Ev.run 7 (pc' := 16) (lv' := [(5, .int (nI 4)), (4, .int (nI c)), (0, .retAddr 12), (1, .int (nI c)), (2, .int (nI 0)), (3, .int (nI 10))]) (st' := [.int (nI 4), .retAddr 12]) (h' := HN g hl (RF rt)) rfl ?_
          refine Ev.run 1 (pc' := 17) (lv' := [(5, .int (nI 4)), (4, .int (nI c)), (0, .retAddr 12), (1, .int (nI c)), (2, .int (nI 0)), (3, .int (nI 10))]) (st' := [.int (nI 52)]) (h' := HN g hl (RF rt)) rfl ?_
          refine Ev.run 2 (pc' := (if nI 52 = nI c then 22 else 25)) (lv' := [(5, .int (nI 4)), (4, .int (nI c)), (0, .retAddr 12), (1, .int (nI c)), (2, .int (nI 0)), (3, .int (nI 10))]) (st' := []) (h' := HN g hl (RF rt)) rfl ?_
          refine Ev.ite (fun hc19 => ?_) (fun hc19 => ?_)
          · have hc19 : 52 = c := (nI_eqU (by omega) (by omega)).mp hc19
            refine Ev.run 1 (pc' := 24) (lv' := [(5, .int (nI 4)), (4, .int (nI c)), (0, .retAddr 12), (1, .int (nI c)), (2, .int (nI 0)), (3, .int (nI 10))]) (st' := [.int (nI 4)]) (h' := HN g hl (RF rt)) rfl ?_
            refine Ev.ret (v := some (.int (nI 4))) rfl ?_
            unfold dgS at hq
            repeat (first | rw [if_neg (by omega)] at hq | rw [if_pos (by omega)] at hq)
            exact hq
          · have hc19 : ¬ (52 = c) := fun z => hc19 ((nI_eqU (by omega) (by omega)).mpr z)
            refine Ev.run 7 (pc' := 16) (lv' := [(5, .int (nI 5)), (4, .int (nI c)), (0, .retAddr 12), (1, .int (nI c)), (2, .int (nI 0)), (3, .int (nI 10))]) (st' := [.int (nI 5), .retAddr 12]) (h' := HN g hl (RF rt)) rfl ?_
            refine Ev.run 1 (pc' := 17) (lv' := [(5, .int (nI 5)), (4, .int (nI c)), (0, .retAddr 12), (1, .int (nI c)), (2, .int (nI 0)), (3, .int (nI 10))]) (st' := [.int (nI 53)]) (h' := HN g hl (RF rt)) rfl ?_
            refine Ev.run 2 (pc' := (if nI 53 = nI c then 22 else 25)) (lv' := [(5, .int (nI 5)), (4, .int (nI c)), (0, .retAddr 12), (1, .int (nI c)), (2, .int (nI 0)), (3, .int (nI 10))]) (st' := []) (h' := HN g hl (RF rt)) rfl ?_
            refine Ev.ite (fun hc19 => ?_) (fun hc19 => ?_)
            · have hc19 : 53 = c := (nI_eqU (by omega) (by omega)).mp hc19
              refine Ev.run 1 (pc' := 24) (lv' := [(5, .int (nI 5)), (4, .int (nI c)), (0, .retAddr 12), (1, .int (nI c)), (2, .int (nI 0)), (3, .int (nI 10))]) (st' := [.int (nI 5)]) (h' := HN g hl (RF rt)) rfl ?_
              refine Ev.ret (v := some (.int (nI 5))) rfl ?_
              unfold dgS at hq
              repeat (first | rw [if_neg (by omega)] at hq | rw [if_pos (by omega)] at hq)
              exact hq
            · have hc19 : ¬ (53 = c) := fun z => hc19 ((nI_eqU (by omega) (by omega)).mpr z)
              refine Ev.run 7 (pc' := 16) (lv' := [(5, .int (nI 6)), (4, .int (nI c)), (0, .retAddr 12), (1, .int (nI c)), (2, .int (nI 0)), (3, .int (nI 10))]) (st' := [.int (nI 6), .retAddr 12]) (h' := HN g hl (RF rt)) rfl ?_
              refine Ev.run 1 (pc' := 17) (lv' := [(5, .int (nI 6)), (4, .int (nI c)), (0, .retAddr 12), (1, .int (nI c)), (2, .int (nI 0)), (3, .int (nI 10))]) (st' := [.int (nI 54)]) (h' := HN g hl (RF rt)) rfl ?_
              refine Ev.run 2 (pc' := (if nI 54 = nI c then 22 else 25)) (lv' := [(5, .int (nI 6)), (4, .int (nI c)), (0, .retAddr 12), (1, .int (nI c)), (2, .int (nI 0)), (3, .int (nI 10))]) (st' := []) (h' := HN g hl (RF rt)) rfl ?_
              refine Ev.ite (fun hc19 => ?_) (fun hc19 => ?_)
              · have hc19 : 54 = c := (nI_eqU (by omega) (by omega)).mp hc19
                refine Ev.run 1 (pc' := 24) (lv' := [(5, .int (nI 6)), (4, .int (nI c)), (0, .retAddr 12), (1, .int (nI c)), (2, .int (nI 0)), (3, .int (nI 10))]) (st' := [.int (nI 6)]) (h' := HN g hl (RF rt)) rfl ?_
                refine Ev.ret (v := some (.int (nI 6))) rfl ?_
                unfold dgS at hq
                repeat (first | rw [if_neg (by omega)] at hq | rw [if_pos (by omega)] at hq)
                exact hq
              · have hc19 : ¬ (54 = c) := fun z => hc19 ((nI_eqU (by omega) (by omega)).mpr z)
                refine Ev.run 7 (pc' := 16) (lv' := [(5, .int (nI 7)), (4, .int (nI c)), (0, .retAddr 12), (1, .int (nI c)), (2, .int (nI 0)), (3, .int (nI 10))]) (st' := [.int (nI 7), .retAddr 12]) (h' := HN g hl (RF rt)) rfl ?_
                refine Ev.run 1 (pc' := 17) (lv' := [(5, .int (nI 7)), (4, .int (nI c)), (0, .retAddr 12), (1, .int (nI c)), (2, .int (nI 0)), (3, .int (nI 10))]) (st' := [.int (nI 55)]) (h' := HN g hl (RF rt)) rfl ?_
                refine Ev.run 2 (pc' := (if nI 55 = nI c then 22 else 25)) (lv' := [(5, .int (nI 7)), (4, .int (nI c)), (0, .retAddr 12), (1, .int (nI c)), (2, .int (nI 0)), (3, .int (nI 10))]) (st' := []) (h' := HN g hl (RF rt)) rfl ?_
                refine Ev.ite (fun hc19 => ?_) (fun hc19 => ?_)
                · have hc19 : 55 = c := (nI_eqU (by omega) (by omega)).mp hc19
                  refine Ev.run 1 (pc' := 24) (lv' := [(5, .int (nI 7)), (4, .int (nI c)), (0, .retAddr 12), (1, .int (nI c)), (2, .int (nI 0)), (3, .int (nI 10))]) (st' := [.int (nI 7)]) (h' := HN g hl (RF rt)) rfl ?_
                  refine Ev.ret (v := some (.int (nI 7))) rfl ?_
                  unfold dgS at hq
                  repeat (first | rw [if_neg (by omega)] at hq | rw [if_pos (by omega)] at hq)
                  exact hq
                · have hc19 : ¬ (55 = c) := fun z => hc19 ((nI_eqU (by omega) (by omega)).mpr z)
                  refine Ev.run 7 (pc' := 16) (lv' := [(5, .int (nI 8)), (4, .int (nI c)), (0, .retAddr 12), (1, .int (nI c)), (2, .int (nI 0)), (3, .int (nI 10))]) (st' := [.int (nI 8), .retAddr 12]) (h' := HN g hl (RF rt)) rfl ?_
                  refine Ev.run 1 (pc' := 17) (lv' := [(5, .int (nI 8)), (4, .int (nI c)), (0, .retAddr 12), (1, .int (nI c)), (2, .int (nI 0)), (3, .int (nI 10))]) (st' := [.int (nI 56)]) (h' := HN g hl (RF rt)) rfl ?_
                  refine Ev.run 2 (pc' := (if nI 56 = nI c then 22 else 25)) (lv' := [(5, .int (nI 8)), (4, .int (nI c)), (0, .retAddr 12), (1, .int (nI c)), (2, .int (nI 0)), (3, .int (nI 10))]) (st' := []) (h' := HN g hl (RF rt)) rfl ?_
                  refine Ev.ite (fun hc19 => ?_) (fun hc19 => ?_)
                  · have hc19 : 56 = c := (nI_eqU (by omega) (by omega)).mp hc19
                    refine Ev.run 1 (pc' := 24) (lv' := [(5, .int (nI 8)), (4, .int (nI c)), (0, .retAddr 12), (1, .int (nI c)), (2, .int (nI 0)), (3, .int (nI 10))]) (st' := [.int (nI 8)]) (h' := HN g hl (RF rt)) rfl ?_
                    refine Ev.ret (v := some (.int (nI 8))) rfl ?_
                    unfold dgS at hq
                    repeat (first | rw [if_neg (by omega)] at hq | rw [if_pos (by omega)] at hq)
                    exact hq
                  · have hc19 : ¬ (56 = c) := fun z => hc19 ((nI_eqU (by omega) (by omega)).mpr z)
                    refine Ev.run 7 (pc' := 16) (lv' := [(5, .int (nI 9)), (4, .int (nI c)), (0, .retAddr 12), (1, .int (nI c)), (2, .int (nI 0)), (3, .int (nI 10))]) (st' := [.int (nI 9), .retAddr 12]) (h' := HN g hl (RF rt)) rfl ?_
                    refine Ev.run 1 (pc' := 17) (lv' := [(5, .int (nI 9)), (4, .int (nI c)), (0, .retAddr 12), (1, .int (nI c)), (2, .int (nI 0)), (3, .int (nI 10))]) (st' := [.int (nI 57)]) (h' := HN g hl (RF rt)) rfl ?_
                    refine Ev.run 2 (pc' := (if nI 57 = nI c then 22 else 25)) (lv' := [(5, .int (nI 9)), (4, .int (nI c)), (0, .retAddr 12), (1, .int (nI c)), (2, .int (nI 0)), (3, .int (nI 10))]) (st' := []) (h' := HN g hl (RF rt)) rfl ?_
                    refine Ev.ite (fun hc19 => ?_) (fun hc19 => ?_)
                    · have hc19 : 57 = c := (nI_eqU (by omega) (by omega)).mp hc19
                      refine Ev.run 1 (pc' := 24) (lv' := [(5, .int (nI 9)), (4, .int (nI c)), (0, .retAddr 12), (1, .int (nI c)), (2, .int (nI 0)), (3, .int (nI 10))]) (st' := [.int (nI 9)]) (h' := HN g hl (RF rt)) rfl ?_
                      refine Ev.ret (v := some (.int (nI 9))) rfl ?_
                      unfold dgS at hq
                      repeat (first | rw [if_neg (by omega)] at hq | rw [if_pos (by omega)] at hq)
                      exact hq
                    · have hc19 : ¬ (57 = c) := fun z => hc19 ((nI_eqU (by omega) (by omega)).mpr z)
                      refine Ev.run 6 (pc' := 32) (lv' := [(5, .int (nI 10)), (4, .int (nI c)), (0, .retAddr 12), (1, .int (nI c)), (2, .int (nI 0)), (3, .int (nI 10))]) (st' := [.int (nI 4294967295)]) (h' := HN g hl (RF rt)) rfl ?_
                      refine Ev.ret (v := some (.int (nI 4294967295))) rfl ?_
                      unfold dgS at hq
                      repeat (first | rw [if_neg (by omega)] at hq | rw [if_pos (by omega)] at hq)
                      exact hq
theorem K_iob6 {L : Nat} {xs : Nat → Int32} (d : Nat) (g : Nat → Nat → Nat) (hl : Nat → Nat → Int64) (rt : Nat × Nat × Nat × Nat) (c : Nat) (hc : c < 128) {Q : Po} (hq : Q (some (.int (nI (dgS c)))) (HN g hl (RF rt))) : Ev L xs (d + 2) 250 0 [(0, .retAddr 12), (1, .int (nI c)), (2, .int (nI 0)), (3, .int (nI 10))] [] (HN g hl (RF rt)) Q := by
  refine Ev.run 1 (pc' := 1) (lv' := [(0, .retAddr 12), (1, .int (nI c)), (2, .int (nI 0)), (3, .int (nI 10))]) (st' := [.int (nI c)]) (h' := HN g hl (RF rt)) rfl ?_
  refine Ev.call (a := 249) (as := [.int (nI c)]) (rest := []) (lv0 := [(0, .int (nI c))]) (Q1 := (fun z0 h' => z0 = some (.int (nI 1)) ∧ h' = HN g hl (RF rt))) rfl rfl (K_canE _ _ _ _ c hc ⟨rfl, rfl⟩) (fun r h' hr => ?_)
  obtain ⟨rfl, rfl⟩ := hr
  refine Ev.run 3 (pc' := 11) (lv' := [(0, .retAddr 12), (1, .int (nI c)), (2, .int (nI 0)), (3, .int (nI 10))]) (st' := [.int (nI 0), .int (nI 0)]) (h' := HN g hl (RF rt)) rfl ?_
  refine Ev_max rfl rfl rfl (show (if nI 0 < nI 0 then nI 0 else nI 0) = nI 0 from rfl) ?_
  refine Ev.run 4 (pc' := 18) (lv' := [(2, .int (nI 0)), (0, .retAddr 12), (1, .int (nI c)), (3, .int (nI 10))]) (st' := [.int (Int32.ofNat (xLen L 12)), .int (nI 10)]) (h' := HN g hl (RF rt)) rfl ?_
  refine Ev.topI (show Int32.ofNat (xLen L 12) = nI 10 from rfl) ?_
  refine Ev_min rfl (by omega) (by omega) rfl rfl ?_
  refine Ev.topI (show nI (if 10 < 10 then 10 else 10) = nI 10 from rfl) ?_
  refine Ev.run 8 (pc' := 33) (lv' := [(3, .int (nI 10)), (2, .int (nI 0)), (0, .retAddr 12), (1, .int (nI c))]) (st' := [.int (nI 10), .int (nI 0), .int (nI c), .retAddr 12]) (h' := HN g hl (RF rt)) rfl ?_
  refine Ev.call (a := 251) (as := [.retAddr 12, .int (nI c), .int (nI 0), .int (nI 10)]) (rest := []) (lv0 := [(0, .retAddr 12), (1, .int (nI c)), (2, .int (nI 0)), (3, .int (nI 10))]) (Q1 := (fun z0 h' => z0 = some (.int (nI (dgS c))) ∧ h' = HN g hl (RF rt))) rfl rfl (K_ioc6 _ _ _ _ c hc ⟨rfl, rfl⟩) (fun r h' hr => ?_)
  obtain ⟨rfl, rfl⟩ := hr
  refine Ev.ret (v := some (.int (nI (dgS c)))) rfl ?_
  first
    | exact hq
    | (exfalso; omega)
theorem K_ioa6 {L : Nat} {xs : Nat → Int32} (d : Nat) (g : Nat → Nat → Nat) (hl : Nat → Nat → Int64) (rt : Nat × Nat × Nat × Nat) (c : Nat) (hc : c < 128) {Q : Po} (hq : Q (some (.int (nI (dgS c)))) (HN g hl (RF rt))) : Ev L xs (d + 3) 244 0 [(0, .retAddr 6), (1, .int (nI c)), (2, .int (nI 0))] [] (HN g hl (RF rt)) Q := by
  refine Ev.run 1 (pc' := 1) (lv' := [(0, .retAddr 6), (1, .int (nI c)), (2, .int (nI 0))]) (st' := [.retAddr 6]) (h' := HN g hl (RF rt)) rfl ?_
  refine Ev.call (a := 246) (as := [.retAddr 6]) (rest := []) (lv0 := [(0, .retAddr 6)]) (Q1 := (fun z0 h' => z0 = some (.int (nI 1)) ∧ h' = HN g hl (RF rt))) rfl rfl (K_lat6 _ _ ⟨rfl, rfl⟩) (fun r h' hr => ?_)
  obtain ⟨rfl, rfl⟩ := hr
  refine Ev.run 6 (pc' := 14) (lv' := [(0, .retAddr 6), (1, .int (nI c)), (2, .int (nI 0))]) (st' := [.retAddr 6, .int (nI 0), .int (nI c), .retAddr 12]) (h' := HN g hl (RF rt)) rfl ?_
  refine Ev.call (a := 241) (as := [.retAddr 6]) (rest := [.int (nI 0), .int (nI c), .retAddr 12]) (lv0 := [(0, .retAddr 6)]) (Q1 := (fun z0 h' => z0 = some (.int (nI 10)) ∧ h' = HN g hl (RF rt))) rfl rfl (K_len6 _ _ ⟨rfl, rfl⟩) (fun r h' hr => ?_)
  obtain ⟨rfl, rfl⟩ := hr
  refine Ev.call (a := 250) (as := [.retAddr 12, .int (nI c), .int (nI 0), .int (nI 10)]) (rest := []) (lv0 := [(0, .retAddr 12), (1, .int (nI c)), (2, .int (nI 0)), (3, .int (nI 10))]) (Q1 := (fun z0 h' => z0 = some (.int (nI (dgS c))) ∧ h' = HN g hl (RF rt))) rfl rfl (K_iob6 _ _ _ _ c hc ⟨rfl, rfl⟩) (fun r h' hr => ?_)
  obtain ⟨rfl, rfl⟩ := hr
  refine Ev.run 1 (pc' := 36) (lv' := [(0, .retAddr 6), (1, .int (nI c)), (2, .int (nI 0))]) (st' := [.int (nI (dgS c))]) (h' := HN g hl (RF rt)) rfl ?_
  refine Ev.ret (v := some (.int (nI (dgS c)))) rfl ?_
  first
    | exact hq
    | (exfalso; omega)
theorem K_io6 {L : Nat} {xs : Nat → Int32} (d : Nat) (g : Nat → Nat → Nat) (hl : Nat → Nat → Int64) (rt : Nat × Nat × Nat × Nat) (c : Nat) (hc : c < 128) {Q : Po} (hq : Q (some (.int (nI (dgS c)))) (HN g hl (RF rt))) : Ev L xs (d + 4) 243 0 [(0, .retAddr 6), (1, .int (nI c))] [] (HN g hl (RF rt)) Q := by
  refine Ev.run 3 (pc' := 3) (lv' := [(0, .retAddr 6), (1, .int (nI c))]) (st' := [.int (nI 0), .int (nI c), .retAddr 6]) (h' := HN g hl (RF rt)) rfl ?_
  refine Ev.call (a := 244) (as := [.retAddr 6, .int (nI c), .int (nI 0)]) (rest := []) (lv0 := [(0, .retAddr 6), (1, .int (nI c)), (2, .int (nI 0))]) (Q1 := (fun z0 h' => z0 = some (.int (nI (dgS c))) ∧ h' = HN g hl (RF rt))) rfl rfl (K_ioa6 _ _ _ _ c hc ⟨rfl, rfl⟩) (fun r h' hr => ?_)
  obtain ⟨rfl, rfl⟩ := hr
  refine Ev.ret (v := some (.int (nI (dgS c)))) rfl ?_
  first
    | exact hq
    | (exfalso; omega)
theorem plcS_le2 (c : Nat) : plcS c ≤ 5 ∨ plcS c = 4294967295 := (plcS_le c).imp (fun z => z.1) id
theorem rlS_le2 (c : Nat) : rlS c ≤ 2 ∨ rlS c = 4294967295 := by
  unfold rlS
  repeat' split
  all_goals omega
theorem dgS_le2 (c : Nat) : dgS c ≤ 9 ∨ dgS c = 4294967295 := by
  unfold dgS
  repeat' split
  all_goals omega
