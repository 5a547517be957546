def rlS (c : Nat) : Nat := if c = 60 then 0 else if c = 61 then 1 else if c = 62 then 2 else 4294967295
def dgS (c : Nat) : Nat := if c = 48 then 0 else if c = 49 then 1 else if c = 50 then 2 else if c = 51 then 3 else if c = 52 then 4 else if c = 53 then 5 else if c = 54 then 6 else if c = 55 then 7 else if c = 56 then 8 else if c = 57 then 9 else 4294967295
theorem K_ioc4 {L : Nat} {xs : Nat → Int32} (d : Nat) (g : Nat → Nat → Nat) (hl : Nat → Nat → Int64) (rt : Nat × Nat × Nat × Nat) (c : Nat) (hc : c < 128) {Q : Po} (hq : Q (some (.int (nI (plcS c)))) (HN g hl (RF rt))) : Ev L xs (d) 251 0 [(0, .retAddr 10), (1, .int (nI c)), (2, .int (nI 0)), (3, .int (nI 6))] [] (HN g hl (RF rt)) Q := by
  refine Ev.run 2 (pc' := 2) (lv' := [(0, .retAddr 10), (1, .int (nI c)), (2, .int (nI 0)), (3, .int (nI 6))]) (st' := [.int ((nI c).toInt8.toInt32)]) (h' := HN g hl (RF rt)) rfl ?_
  refine Ev.topI (nI_i2b (by omega)) ?_
  refine Ev.run 8 (pc' := 16) (lv' := [(5, .int (nI 0)), (4, .int (nI c)), (0, .retAddr 10), (1, .int (nI c)), (2, .int (nI 0)), (3, .int (nI 6))]) (st' := [.int (nI 0), .retAddr 10]) (h' := HN g hl (RF rt)) rfl ?_
  refine Ev.run 1 (pc' := 17) (lv' := [(5, .int (nI 0)), (4, .int (nI c)), (0, .retAddr 10), (1, .int (nI c)), (2, .int (nI 0)), (3, .int (nI 6))]) (st' := [.int (nI 112)]) (h' := HN g hl (RF rt)) rfl ?_
  refine Ev.run 2 (pc' := (if nI 112 = nI c then 22 else 25)) (lv' := [(5, .int (nI 0)), (4, .int (nI c)), (0, .retAddr 10), (1, .int (nI c)), (2, .int (nI 0)), (3, .int (nI 6))]) (st' := []) (h' := HN g hl (RF rt)) rfl ?_
  refine Ev.ite (fun hc19 => ?_) (fun hc19 => ?_)
  · have hc19 : 112 = c := (nI_eqU (by omega) (by omega)).mp hc19
    refine Ev.run 1 (pc' := 24) (lv' := [(5, .int (nI 0)), (4, .int (nI c)), (0, .retAddr 10), (1, .int (nI c)), (2, .int (nI 0)), (3, .int (nI 6))]) (st' := [.int (nI 0)]) (h' := HN g hl (RF rt)) rfl ?_
    refine Ev.ret (v := some (.int (nI 0))) rfl ?_
    unfold plcS at hq
    repeat (first | rw [if_neg (by omega)] at hq | rw [if_pos (by omega)] at hq)
    exact hq
  · have hc19 : ¬ (112 = c) := fun z => hc19 ((nI_eqU (by omega) (by omega)).mpr z)
    refine Ev.run 7 (pc' := 16) (lv' := [(5, .int (nI 1)), (4, .int (nI c)), (0, .retAddr 10), (1, .int (nI c)), (2, .int (nI 0)), (3, .int (nI 6))]) (st' := [.int (nI 1), .retAddr 10]) (h' := HN g hl (RF rt)) rfl ?_
    refine Ev.run 1 (pc' := 17) (lv' := [(5, .int (nI 1)), (4, .int (nI c)), (0, .retAddr 10), (1, .int (nI c)), (2, .int (nI 0)), (3, .int (nI 6))]) (st' := [.int (nI 107)]) (h' := HN g hl (RF rt)) rfl ?_
    refine Ev.run 2 (pc' := (if nI 107 = nI c then 22 else 25)) (lv' := [(5, .int (nI 1)), (4, .int (nI c)), (0, .retAddr 10), (1, .int (nI c)), (2, .int (nI 0)), (3, .int (nI 6))]) (st' := []) (h' := HN g hl (RF rt)) rfl ?_
    refine Ev.ite (fun hc19 => ?_) (fun hc19 => ?_)
    · have hc19 : 107 = c := (nI_eqU (by omega) (by omega)).mp hc19
      refine Ev.run 1 (pc' := 24) (lv' := [(5, .int (nI 1)), (4, .int (nI c)), (0, .retAddr 10), (1, .int (nI c)), (2, .int (nI 0)), (3, .int (nI 6))]) (st' := [.int (nI 1)]) (h' := HN g hl (RF rt)) rfl ?_
      refine Ev.ret (v := some (.int (nI 1))) rfl ?_
      unfold plcS at hq
      repeat (first | rw [if_neg (by omega)] at hq | rw [if_pos (by omega)] at hq)
      exact hq
    · have hc19 : ¬ (107 = c) := fun z => hc19 ((nI_eqU (by omega) (by omega)).mpr z)
      refine Ev.run 7 (pc' := 16) (lv' := [(5, .int (nI 2)), (4, .int (nI c)), (0, .retAddr 10), (1, .int (nI c)), (2, .int (nI 0)), (3, .int (nI 6))]) (st' := [.int (nI 2), .retAddr 10]) (h' := HN g hl (RF rt)) rfl ?_
      refine Ev.run 1 (pc' := 17) (lv' := [(5, .int (nI 2)), (4, .int (nI c)), (0, .retAddr 10), (1, .int (nI c)), (2, .int (nI 0)), (3, .int (nI 6))]) (st' := [.int (nI 118)]) (h' := HN g hl (RF rt)) rfl ?_
      refine Ev.run 2 (pc' := (if nI 118 = nI c then 22 else 25)) (lv' := [(5, .int (nI 2)), (4, .int (nI c)), (0, .retAddr 10), (1, .int (nI c)), (2, .int (nI 0)), (3, .int (nI 6))]) (st' := []) (h' := HN g hl (RF rt)) rfl ?_
      refine Ev.ite (fun hc19 => ?_) (fun hc19 => ?_)
      · have hc19 : 118 = c := (nI_eqU (by omega) (by omega)).mp hc19
        refine Ev.run 1 (pc' := 24) (lv' := [(5, .int (nI 2)), (4, .int (nI c)), (0, .retAddr 10), (1, .int (nI c)), (2, .int (nI 0)), (3, .int (nI 6))]) (st' := [.int (nI 2)]) (h' := HN g hl (RF rt)) rfl ?_
        refine Ev.ret (v := some (.int (nI 2))) rfl ?_
        unfold plcS at hq
        repeat (first | rw [if_neg (by omega)] at hq | rw [if_pos (by omega)] at hq)
        exact hq
      · have hc19 : ¬ (118 = c) := fun z => hc19 ((nI_eqU (by omega) (by omega)).mpr z)
        refine Ev.run 7 (pc' := 16) (lv' := [(5, .int (nI 3)), (4, .int (nI c)), (0, .retAddr 10), (1, .int (nI c)), (2, .int (nI 0)), (3, .int (nI 6))]) (st' := [.int (nI 3), .retAddr 10]) (h' := HN g hl (RF rt)) rfl ?_
        refine Ev.run 1 (pc' := 17) (lv' := [(5, .int (nI 3)), (4, .int (nI c)), (0, .retAddr 10), (1, .int (nI c)), (2, .int (nI 0)), (3, .int (nI 6))]) (st' := [.int (nI 99)]) (h' := HN g hl (RF rt)) rfl ?_
        refine Ev.run 2 (pc' := (if nI 99 = nI c then 22 else 25)) (lv' := [(5, .int (nI 3)), (4, .int (nI c)), (0, .retAddr 10), (1, .int (nI c)), (2, .int (nI 0)), (3, .int (nI 6))]) (st' := []) (h' := HN g hl (RF rt)) rfl ?_
        refine Ev.ite (fun hc19 => ?_) (fun hc19 => ?_)
        · have hc19 : 99 = c := (nI_eqU (by omega) (by omega)).mp hc19
          refine Ev.run 1 (pc' := 24) (lv' := [(5, .int (nI 3)), (4, .int (nI c)), (0, .retAddr 10), (1, .int (nI c)), (2, .int (nI 0)), (3, .int (nI 6))]) (st' := [.int (nI 3)]) (h' := HN g hl (RF rt)) rfl ?_
          refine Ev.ret (v := some (.int (nI 3))) rfl ?_
          unfold plcS at hq
          repeat (first | rw [if_neg (by omega)] at hq | rw [if_pos (by omega)] at hq)
          exact hq
        · have hc19 : ¬ (99 = c) := fun z => hc19 ((nI_eqU (by omega) (by omega)).mpr z)
          refine Ev.run 7 (pc' := 16) (lv' := [(5, .int (nI 4)), (4, .int (nI c)), (0, .retAddr 10), (1, .int (nI c)), (2, .int (nI 0)), (3, .int (nI 6))]) (st' := [.int (nI 4), .retAddr 10]) (h' := HN g hl (RF rt)) rfl ?_
          refine Ev.run 1 (pc' := 17) (lv' := [(5, .int (nI 4)), (4, .int (nI c)), (0, .retAddr 10), (1, .int (nI c)), (2, .int (nI 0)), (3, .int (nI 6))]) (st' := [.int (nI 108)]) (h' := HN g hl (RF rt)) rfl ?_
          refine Ev.run 2 (pc' := (if nI 108 = nI c then 22 else 25)) (lv' := [(5, .int (nI 4)), (4, .int (nI c)), (0, .retAddr 10), (1, .int (nI c)), (2, .int (nI 0)), (3, .int (nI 6))]) (st' := []) (h' := HN g hl (RF rt)) rfl ?_
          refine Ev.ite (fun hc19 => ?_) (fun hc19 => ?_)
          · have hc19 : 108 = c := (nI_eqU (by omega) (by omega)).mp hc19
            refine Ev.run 1 (pc' := 24) (lv' := [(5, .int (nI 4)), (4, .int (nI c)), (0, .retAddr 10), (1, .int (nI c)), (2, .int (nI 0)), (3, .int (nI 6))]) (st' := [.int (nI 4)]) (h' := HN g hl (RF rt)) rfl ?_
            refine Ev.ret (v := some (.int (nI 4))) rfl ?_
            unfold plcS at hq
            repeat (first | rw [if_neg (by omega)] at hq | rw [if_pos (by omega)] at hq)
            exact hq
          · have hc19 : ¬ (108 = c) := fun z => hc19 ((nI_eqU (by omega) (by omega)).mpr z)
            refine Ev.run 7 (pc' := 16) (lv' := [(5, .int (nI 5)), (4, .int (nI c)), (0, .retAddr 10), (1, .int (nI c)), (2, .int (nI 0)), (3, .int (nI 6))]) (st' := [.int (nI 5), .retAddr 10]) (h' := HN g hl (RF rt)) rfl ?_
            refine Ev.run 1 (pc' := 17) (lv' := [(5, .int (nI 5)), (4, .int (nI c)), (0, .retAddr 10), (1, .int (nI c)), (2, .int (nI 0)), (3, .int (nI 6))]) (st' := [.int (nI 102)]) (h' := HN g hl (RF rt)) rfl ?_
            refine Ev.run 2 (pc' := (if nI 102 = nI c then 22 else 25)) (lv' := [(5, .int (nI 5)), (4, .int (nI c)), (0, .retAddr 10), (1, .int (nI c)), (2, .int (nI 0)), (3, .int (nI 6))]) (st' := []) (h' := HN g hl (RF rt)) rfl ?_
            refine Ev.ite (fun hc19 => ?_) (fun hc19 => ?_)
            · have hc19 : 102 = c := (nI_eqU (by omega) (by omega)).mp hc19
              refine Ev.run 1 (pc' := 24) (lv' := [(5, .int (nI 5)), (4, .int (nI c)), (0, .retAddr 10), (1, .int (nI c)), (2, .int (nI 0)), (3, .int (nI 6))]) (st' := [.int (nI 5)]) (h' := HN g hl (RF rt)) rfl ?_
              refine Ev.ret (v := some (.int (nI 5))) rfl ?_
              unfold plcS at hq
              repeat (first | rw [if_neg (by omega)] at hq | rw [if_pos (by omega)] at hq)
              exact hq
            · have hc19 : ¬ (102 = c) := fun z => hc19 ((nI_eqU (by omega) (by omega)).mpr z)
              refine Ev.run 6 (pc' := 32) (lv' := [(5, .int (nI 6)), (4, .int (nI c)), (0, .retAddr 10), (1, .int (nI c)), (2, .int (nI 0)), (3, .int (nI 6))]) (st' := [.int (nI 4294967295)]) (h' := HN g hl (RF rt)) rfl ?_
              refine Ev.ret (v := some (.int (nI 4294967295))) rfl ?_
              unfold plcS at hq
              repeat (first | rw [if_neg (by omega)] at hq | rw [if_pos (by omega)] at hq)
              exact hq
theorem K_canE {L : Nat} {xs : Nat → Int32} (d : Nat) (g : Nat → Nat → Nat) (hl : Nat → Nat → Int64) (rt : Nat × Nat × Nat × Nat) (c : Nat) (hc : c < 128) {Q : Po} (hq : Q (some (.int (nI 1))) (HN g hl (RF rt))) : Ev L xs d 249 0 [(0, .int (nI c))] [] (HN g hl (RF rt)) Q := by
  refine Ev.run 2 (pc' := (if nI c < 0 then 15 else 4)) (lv' := [(0, .int (nI c))]) (st' := []) (h' := HN g hl (RF rt)) rfl ?_
  refine Ev.ite (fun hc1 => ?_) (fun hc1 => ?_)
  · have hc1 : 2147483648 ≤ c := (nI_ltU0 (by omega)).mp hc1
    refine Ev.run 1 (pc' := 16) (lv' := [(0, .int (nI c))]) (st' := [.int (nI 0)]) (h' := HN g hl (RF rt)) rfl ?_
    refine Ev.ret (v := some (.int (nI 0))) rfl ?_
    first
      | exact hq
      | (exfalso; omega)
  · have hc1 : ¬ (2147483648 ≤ c) := fun z => hc1 ((nI_ltU0 (by omega)).mpr z)
    refine Ev.run 3 (pc' := (if nI 255 < nI c then 15 else 11)) (lv' := [(0, .int (nI c))]) (st' := []) (h' := HN g hl (RF rt)) rfl ?_
    refine Ev.ite (fun hc8 => ?_) (fun hc8 => ?_)
    · have hc8 : 255 < c := (nI_ltI (by omega) (by omega)).mp hc8
      refine Ev.run 1 (pc' := 16) (lv' := [(0, .int (nI c))]) (st' := [.int (nI 0)]) (h' := HN g hl (RF rt)) rfl ?_
      refine Ev.ret (v := some (.int (nI 0))) rfl ?_
      first
        | exact hq
        | (exfalso; omega)
    · have hc8 : ¬ (255 < c) := fun z => hc8 ((nI_ltI (by omega) (by omega)).mpr z)
      refine Ev.run 2 (pc' := 16) (lv' := [(0, .int (nI c))]) (st' := [.int (nI 1)]) (h' := HN g hl (RF rt)) rfl ?_
      refine Ev.ret (v := some (.int (nI 1))) rfl ?_
      first
        | exact hq
        | (exfalso; omega)
theorem K_iob4 {L : Nat} {xs : Nat → Int32} (d : Nat) (g : Nat → Nat → Nat) (hl : Nat → Nat → Int64) (rt : Nat × Nat × Nat × Nat) (c : Nat) (hc : c < 128) {Q : Po} (hq : Q (some (.int (nI (plcS c)))) (HN g hl (RF rt))) : Ev L xs (d + 2) 250 0 [(0, .retAddr 10), (1, .int (nI c)), (2, .int (nI 0)), (3, .int (nI 6))] [] (HN g hl (RF rt)) Q := by
  refine Ev.run 1 (pc' := 1) (lv' := [(0, .retAddr 10), (1, .int (nI c)), (2, .int (nI 0)), (3, .int (nI 6))]) (st' := [.int (nI c)]) (h' := HN g hl (RF rt)) rfl ?_
  refine Ev.call (a := 249) (as := [.int (nI c)]) (rest := []) (lv0 := [(0, .int (nI c))]) (Q1 := (fun z0 h' => z0 = some (.int (nI 1)) ∧ h' = HN g hl (RF rt))) rfl rfl (K_canE _ _ _ _ c hc ⟨rfl, rfl⟩) (fun r h' hr => ?_)
  obtain ⟨rfl, rfl⟩ := hr
  refine Ev.run 3 (pc' := 11) (lv' := [(0, .retAddr 10), (1, .int (nI c)), (2, .int (nI 0)), (3, .int (nI 6))]) (st' := [.int (nI 0), .int (nI 0)]) (h' := HN g hl (RF rt)) rfl ?_
  refine Ev_max rfl rfl rfl (show (if nI 0 < nI 0 then nI 0 else nI 0) = nI 0 from rfl) ?_
  refine Ev.run 4 (pc' := 18) (lv' := [(2, .int (nI 0)), (0, .retAddr 10), (1, .int (nI c)), (3, .int (nI 6))]) (st' := [.int (Int32.ofNat (xLen L 10)), .int (nI 6)]) (h' := HN g hl (RF rt)) rfl ?_
  refine Ev.topI (show Int32.ofNat (xLen L 10) = nI 6 from rfl) ?_
  refine Ev_min rfl (by omega) (by omega) rfl rfl ?_
  refine Ev.topI (show nI (if 6 < 6 then 6 else 6) = nI 6 from rfl) ?_
  refine Ev.run 8 (pc' := 33) (lv' := [(3, .int (nI 6)), (2, .int (nI 0)), (0, .retAddr 10), (1, .int (nI c))]) (st' := [.int (nI 6), .int (nI 0), .int (nI c), .retAddr 10]) (h' := HN g hl (RF rt)) rfl ?_
  refine Ev.call (a := 251) (as := [.retAddr 10, .int (nI c), .int (nI 0), .int (nI 6)]) (rest := []) (lv0 := [(0, .retAddr 10), (1, .int (nI c)), (2, .int (nI 0)), (3, .int (nI 6))]) (Q1 := (fun z0 h' => z0 = some (.int (nI (plcS c))) ∧ h' = HN g hl (RF rt))) rfl rfl (K_ioc4 _ _ _ _ c hc ⟨rfl, rfl⟩) (fun r h' hr => ?_)
  obtain ⟨rfl, rfl⟩ := hr
  refine Ev.ret (v := some (.int (nI (plcS c)))) rfl ?_
  first
    | exact hq
    | (exfalso; omega)
theorem K_ioa4 {L : Nat} {xs : Nat → Int32} (d : Nat) (g : Nat → Nat → Nat) (hl : Nat → Nat → Int64) (rt : Nat × Nat × Nat × Nat) (c : Nat) (hc : c < 128) {Q : Po} (hq : Q (some (.int (nI (plcS c)))) (HN g hl (RF rt))) : Ev L xs (d + 3) 244 0 [(0, .retAddr 4), (1, .int (nI c)), (2, .int (nI 0))] [] (HN g hl (RF rt)) Q := by
  refine Ev.run 1 (pc' := 1) (lv' := [(0, .retAddr 4), (1, .int (nI c)), (2, .int (nI 0))]) (st' := [.retAddr 4]) (h' := HN g hl (RF rt)) rfl ?_
  refine Ev.call (a := 246) (as := [.retAddr 4]) (rest := []) (lv0 := [(0, .retAddr 4)]) (Q1 := (fun z0 h' => z0 = some (.int (nI 1)) ∧ h' = HN g hl (RF rt))) rfl rfl (K_lat4 _ _ ⟨rfl, rfl⟩) (fun r h' hr => ?_)
  obtain ⟨rfl, rfl⟩ := hr
  refine Ev.run 6 (pc' := 14) (lv' := [(0, .retAddr 4), (1, .int (nI c)), (2, .int (nI 0))]) (st' := [.retAddr 4, .int (nI 0), .int (nI c), .retAddr 10]) (h' := HN g hl (RF rt)) rfl ?_
  refine Ev.call (a := 241) (as := [.retAddr 4]) (rest := [.int (nI 0), .int (nI c), .retAddr 10]) (lv0 := [(0, .retAddr 4)]) (Q1 := (fun z0 h' => z0 = some (.int (nI 6)) ∧ h' = HN g hl (RF rt))) rfl rfl (K_len4 _ _ ⟨rfl, rfl⟩) (fun r h' hr => ?_)
  obtain ⟨rfl, rfl⟩ := hr
  refine Ev.call (a := 250) (as := [.retAddr 10, .int (nI c), .int (nI 0), .int (nI 6)]) (rest := []) (lv0 := [(0, .retAddr 10), (1, .int (nI c)), (2, .int (nI 0)), (3, .int (nI 6))]) (Q1 := (fun z0 h' => z0 = some (.int (nI (plcS c))) ∧ h' = HN g hl (RF rt))) rfl rfl (K_iob4 _ _ _ _ c hc ⟨rfl, rfl⟩) (fun r h' hr => ?_)
  obtain ⟨rfl, rfl⟩ := hr
  refine Ev.run 1 (pc' := 36) (lv' := [(0, .retAddr 4), (1, .int (nI c)), (2, .int (nI 0))]) (st' := [.int (nI (plcS c))]) (h' := HN g hl (RF rt)) rfl ?_
  refine Ev.ret (v := some (.int (nI (plcS c)))) rfl ?_
  first
    | exact hq
    | (exfalso; omega)
theorem K_io4 {L : Nat} {xs : Nat → Int32} (d : Nat) (g : Nat → Nat → Nat) (hl : Nat → Nat → Int64) (rt : Nat × Nat × Nat × Nat) (c : Nat) (hc : c < 128) {Q : Po} (hq : Q (some (.int (nI (plcS c)))) (HN g hl (RF rt))) : Ev L xs (d + 4) 243 0 [(0, .retAddr 4), (1, .int (nI c))] [] (HN g hl (RF rt)) Q := by
  refine Ev.run 3 (pc' := 3) (lv' := [(0, .retAddr 4), (1, .int (nI c))]) (st' := [.int (nI 0), .int (nI c), .retAddr 4]) (h' := HN g hl (RF rt)) rfl ?_
  refine Ev.call (a := 244) (as := [.retAddr 4, .int (nI c), .int (nI 0)]) (rest := []) (lv0 := [(0, .retAddr 4), (1, .int (nI c)), (2, .int (nI 0))]) (Q1 := (fun z0 h' => z0 = some (.int (nI (plcS c))) ∧ h' = HN g hl (RF rt))) rfl rfl (K_ioa4 _ _ _ _ c hc ⟨rfl, rfl⟩) (fun r h' hr => ?_)
  obtain ⟨rfl, rfl⟩ := hr
  refine Ev.ret (v := some (.int (nI (plcS c)))) rfl ?_
  first
    | exact hq
    | (exfalso; omega)
