/-! the reference: who is next, what is won -/
theorem wrS_lt {g : Nat → Nat → Nat} (h : MI g) (r : Nat → Nat) (n s : Nat) : wrS g r n s < 16 := by
  unfold wrS
  split
  · decide
  · split
    · decide
    · exact winF_lt h _ _ _ _
theorem u2_up (g : Nat → Nat → Nat) (c n l : Nat) : u2 g c n l c = up (g c) n l := by
  funext b; unfold u2 up; rw [if_pos rfl]
theorem bk9w (g : Nat → Nat → Nat) (n l x y : Nat) (w : Nat → Nat) (h : y = g 166 9) : u2 (ur (u2 (u2 g 175 n l) 166 9 x) 186 w) 166 9 y = ur (u2 g 175 n l) 186 w := by
  funext a b; unfold u2 ur
  by_cases e : a = 166
  · subst e
    by_cases e2 : b = 9
    · subst e2; simp [h]
    · simp [e2]
  · simp [e]
theorem bk9 (g : Nat → Nat → Nat) (n l x y : Nat) (h : y = g 166 9) : u2 (u2 (u2 g 175 n l) 166 9 x) 166 9 y = u2 g 175 n l := by
  funext a b; unfold u2
  by_cases e : a = 166
  · subst e
    by_cases e2 : b = 9
    · subst e2; simp [h]
    · simp [e2]
  · simp [e]
theorem bk9v (g : Nat → Nat → Nat) (x y : Nat) (w : Nat → Nat) (h : y = g 166 9) : u2 (ur (u2 g 166 9 x) 186 w) 166 9 y = ur g 186 w := by
  funext a b; unfold u2 ur
  by_cases e : a = 166
  · subst e
    by_cases e2 : b = 9
    · subst e2; simp [h]
    · simp [e2]
  · simp [e]
theorem Cx.row (g : Nat → Nat → Nat) (n l x : Nat) : Cx g (u2 (u2 g 175 n l) 166 9 x) := ⟨fun c h1 _ h3 _ _ _ _ => by funext b; unfold u2; rw [if_neg h1, if_neg h3], fun j _ _ h _ _ _ _ _ _ => by unfold u2; simp [h]⟩
theorem Cx.len (g : Nat → Nat → Nat) (x : Nat) : Cx g (u2 g 166 9 x) := ⟨fun c h1 _ h3 _ _ _ _ => by funext b; unfold u2; rw [if_neg h1], fun j _ _ h _ _ _ _ _ _ => by unfold u2; simp [h]⟩
theorem C_isLostBy {L : Nat} {xs : Nat → Int32} (d : Nat) (g : Nat → Nat → Nat) (hl : Nat → Nat → Int64) (rt : Nat × Nat × Nat × Nat) (hI : MI g) (l : Nat) (hl3 : l ≤ 3) (hn12 : g 166 9 < 12) {Q : Po} (hq : ∀ w : Nat → Nat, (∀ j, j < 84 → w j ≤ 1) → Q (some (.int (nI (bn (decide (wrS g (up (g 175) (g 166 9) l) (g 166 9 + 1) (allS g) = 0)))))) (HN (ur (u2 g 175 (g 166 9) l) 186 w) hl (RF rt))) : Ev L xs (d + 6) 175 0 [(0, .ref 166), (1, .int (nI l))] [] (HN g hl (RF rt)) Q := by
  have hW := hI.hW
  have hS := hI.hS
  have hPl := hI.hPl
  have hNx := hI.hNx
  have hLa := hI.hLa
  have hLo := hI.hLo
  have hTb := hI.hTb
  have hTh := hI.hTh
  have hFd := hI.hFd
  have hSn := hI.hSn
  have hSh := hI.hSh
  have hRan := hI.hRan
  have hLr := hI.hLr
  have hLt := hI.hLt
  have hgl := hI.hgl
  have hsz := hI.hsz
  have hcm := hI.hcm
  have hsl := hI.hsl
  have hkd := hI.hkd
  have hvv := hI.hvv
  have hli := hI.hli
  have hro := hI.hro
  have hrw := hI.hrw
  have htx := hI.htx
  have hsw := hI.hsw
  have hsx := hI.hsx
  have hsy := hI.hsy
  have hsh := hI.hsh
  have hle := hI.hle
  have hcl := hI.hcl
  have hwd := hI.hwd
  have hnu := hI.hnu
  have hwn := hI.hwn
  have hs1 := hI.hs1
  have hso := hI.hso
  refine Ev.run 5 (pc' := 9) (lv' := [(0, .ref 166), (1, .int (nI l))]) (st' := [.int (nI l), .int (nI (g 166 9)), .ref 175]) (h' := HN g hl (RF rt)) rfl ?_
  refine Ev_iast rfl rfl (show g 166 9 < 12 by omega) (Nat.le_of_ble_eq_true rfl) ?_
  refine Ev.run 5 (pc' := 17) (lv' := [(0, .ref 166), (1, .int (nI l))]) (st' := [.int (nI (g 166 9) + nI 1), .ref 166]) (h' := HN (u2 g 175 (g 166 9) l) hl (RF rt)) rfl ?_
  refine Ev.topI (nI_add _ _) ?_
  refine Ev.run 1 (pc' := 20) (lv' := [(0, .ref 166), (1, .int (nI l))]) (st' := []) (h' := setI (HN (u2 g 175 (g 166 9) l) hl (RF rt)) 166 9 (nI ((g 166 9) + 1))) rfl ?_
  refine Ev.hp (HN_set _ _ _ _ _ _) ?_
  have hI2 : MI (u2 (u2 g 175 (g 166 9) l) 166 9 (g 166 9 + 1)) := (hI.a175 (by omega)).f9 (by omega)
  have hal : allS (u2 (u2 g 175 (g 166 9) l) 166 9 (g 166 9 + 1)) = allS g := (Cx.row g (g 166 9) l (g 166 9 + 1)).xallS
  have hwq : ∀ r n s, wrS (u2 (u2 g 175 (g 166 9) l) 166 9 (g 166 9 + 1)) r n s = wrS g r n s := fun r n s => by rw [(Cx.row g (g 166 9) l (g 166 9 + 1)).xwrS]
  refine Ev.run 2 (pc' := 22) (lv' := [(0, .ref 166), (1, .int (nI l))]) (st' := [.ref 166, .ref 166]) (h' := HN (u2 (u2 g 175 (g 166 9) l) 166 9 ((g 166 9) + 1)) hl (RF rt)) rfl ?_
  refine Ev.call (a := 165) (as := [.ref 166]) (rest := [.ref 166]) (lv0 := [(0, .ref 166)]) (Q1 := (fun z0 h' => z0 = some (.int (nI (allS (u2 (u2 g 175 (g 166 9) l) 166 9 ((g 166 9) + 1))))) ∧ h' = HN (u2 (u2 g 175 (g 166 9) l) 166 9 ((g 166 9) + 1)) hl (RF rt))) rfl rfl (C_all _ _ _ _ hI2 ⟨rfl, rfl⟩) (fun r h' hr => ?_)
  obtain ⟨rfl, rfl⟩ := hr
  have hall := allS_lt hI2
  refine Ev.call (a := 174) (as := [.ref 166, .int (nI (allS (u2 (u2 g 175 (g 166 9) l) 166 9 ((g 166 9) + 1))))]) (rest := []) (lv0 := [(0, .ref 166), (1, .int (nI (allS (u2 (u2 g 175 (g 166 9) l) 166 9 ((g 166 9) + 1)))))]) (Q1 := (fun r h' => ∃ w, (∀ j, j < 84 → w j ≤ 1) ∧ r = some (.int (nI (wrS (u2 (u2 g 175 (g 166 9) l) 166 9 ((g 166 9) + 1)) ((u2 (u2 g 175 (g 166 9) l) 166 9 ((g 166 9) + 1)) 175) ((g 166 9) + 1) (allS (u2 (u2 g 175 (g 166 9) l) 166 9 ((g 166 9) + 1)))))) ∧ h' = HN (ur (u2 (u2 g 175 (g 166 9) l) 166 9 ((g 166 9) + 1)) 186 w) hl (RF rt))) rfl rfl (C_winningRow _ _ _ _ hI2 (allS (u2 (u2 g 175 (g 166 9) l) 166 9 ((g 166 9) + 1))) (by omega) (fun w hw => ⟨w, hw, rfl, rfl⟩)) (fun r h' hr => ?_)
  obtain ⟨w1, hw2, rfl, rfl⟩ := hr
  have hwr := wrS_lt hI2 ((u2 (u2 g 175 (g 166 9) l) 166 9 ((g 166 9) + 1)) 175) ((g 166 9) + 1) (allS (u2 (u2 g 175 (g 166 9) l) 166 9 ((g 166 9) + 1)))
  refine Ev.run 1 (pc' := (if nI (wrS (u2 (u2 g 175 (g 166 9) l) 166 9 ((g 166 9) + 1)) ((u2 (u2 g 175 (g 166 9) l) 166 9 ((g 166 9) + 1)) 175) ((g 166 9) + 1) (allS (u2 (u2 g 175 (g 166 9) l) 166 9 ((g 166 9) + 1)))) = 0 then 31 else 35)) (lv' := [(0, .ref 166), (1, .int (nI l))]) (st' := []) (h' := HN (ur (u2 (u2 g 175 (g 166 9) l) 166 9 ((g 166 9) + 1)) 186 w1) hl (RF rt)) rfl ?_
  refine Ev.ite (fun hc28 => ?_) (fun hc28 => ?_)
  · have hc28 : (wrS (u2 (u2 g 175 (g 166 9) l) 166 9 ((g 166 9) + 1)) ((u2 (u2 g 175 (g 166 9) l) 166 9 ((g 166 9) + 1)) 175) ((g 166 9) + 1) (allS (u2 (u2 g 175 (g 166 9) l) 166 9 ((g 166 9) + 1)))) = 0 := (nI_eqU0 (by omega)).mp hc28
    refine Ev.run 2 (pc' := 36) (lv' := [(0, .ref 166), (1, .int (nI l))]) (st' := [.int (nI 1)]) (h' := HN (ur (u2 (u2 g 175 (g 166 9) l) 166 9 ((g 166 9) + 1)) 186 w1) hl (RF rt)) rfl ?_
    have hz28 := hc28
    rw [hwq, hal, show (u2 (u2 g 175 (g 166 9) l) 166 9 (g 166 9 + 1)) 175 = up (g 175) (g 166 9) l from u2_up g 175 (g 166 9) l] at hz28
    refine Ev.run 6 (pc' := 44) (lv' := [(2, .int (nI 1)), (0, .ref 166), (1, .int (nI l))]) (st' := [.int (nI ((g 166 9) + 1) - nI 1), .ref 166]) (h' := HN (ur (u2 (u2 g 175 (g 166 9) l) 166 9 ((g 166 9) + 1)) 186 w1) hl (RF rt)) rfl ?_
    refine Ev.topI (pk_sub (a := ((g 166 9) + 1)) (b := 1) (by omega)) ?_
    refine Ev.run 1 (pc' := 47) (lv' := [(2, .int (nI 1)), (0, .ref 166), (1, .int (nI l))]) (st' := []) (h' := setI (HN (ur (u2 (u2 g 175 (g 166 9) l) 166 9 ((g 166 9) + 1)) 186 w1) hl (RF rt)) 166 9 (nI (((g 166 9) + 1) - 1))) rfl ?_
    refine Ev.hp (HN_set _ _ _ _ _ _) ?_
    refine Ev.run 1 (pc' := 48) (lv' := [(2, .int (nI 1)), (0, .ref 166), (1, .int (nI l))]) (st' := [.int (nI 1)]) (h' := HN (u2 (ur (u2 (u2 g 175 (g 166 9) l) 166 9 ((g 166 9) + 1)) 186 w1) 166 9 (((g 166 9) + 1) - 1)) hl (RF rt)) rfl ?_
    refine Ev.ret (v := some (.int (nI 1))) rfl ?_
    have hx := hq w1 hw2
    rw [← bk9w g (g 166 9) l (g 166 9 + 1) (g 166 9 + 1 - 1) w1 (by omega)] at hx
    rw [show decide (wrS g (up (g 175) (g 166 9) l) (g 166 9 + 1) (allS g) = 0) = true from by first | exact decide_eq_true hz28 | exact decide_eq_false hz28] at hx
    exact hx
  · have hc28 : ¬ ((wrS (u2 (u2 g 175 (g 166 9) l) 166 9 ((g 166 9) + 1)) ((u2 (u2 g 175 (g 166 9) l) 166 9 ((g 166 9) + 1)) 175) ((g 166 9) + 1) (allS (u2 (u2 g 175 (g 166 9) l) 166 9 ((g 166 9) + 1)))) = 0) := fun z => hc28 ((nI_eqU0 (by omega)).mpr z)
    refine Ev.run 1 (pc' := 36) (lv' := [(0, .ref 166), (1, .int (nI l))]) (st' := [.int (nI 0)]) (h' := HN (ur (u2 (u2 g 175 (g 166 9) l) 166 9 ((g 166 9) + 1)) 186 w1) hl (RF rt)) rfl ?_
    have hz28 := hc28
    rw [hwq, hal, show (u2 (u2 g 175 (g 166 9) l) 166 9 (g 166 9 + 1)) 175 = up (g 175) (g 166 9) l from u2_up g 175 (g 166 9) l] at hz28
    refine Ev.run 6 (pc' := 44) (lv' := [(2, .int (nI 0)), (0, .ref 166), (1, .int (nI l))]) (st' := [.int (nI ((g 166 9) + 1) - nI 1), .ref 166]) (h' := HN (ur (u2 (u2 g 175 (g 166 9) l) 166 9 ((g 166 9) + 1)) 186 w1) hl (RF rt)) rfl ?_
    refine Ev.topI (pk_sub (a := ((g 166 9) + 1)) (b := 1) (by omega)) ?_
    refine Ev.run 1 (pc' := 47) (lv' := [(2, .int (nI 0)), (0, .ref 166), (1, .int (nI l))]) (st' := []) (h' := setI (HN (ur (u2 (u2 g 175 (g 166 9) l) 166 9 ((g 166 9) + 1)) 186 w1) hl (RF rt)) 166 9 (nI (((g 166 9) + 1) - 1))) rfl ?_
    refine Ev.hp (HN_set _ _ _ _ _ _) ?_
    refine Ev.run 1 (pc' := 48) (lv' := [(2, .int (nI 0)), (0, .ref 166), (1, .int (nI l))]) (st' := [.int (nI 0)]) (h' := HN (u2 (ur (u2 (u2 g 175 (g 166 9) l) 166 9 ((g 166 9) + 1)) 186 w1) 166 9 (((g 166 9) + 1) - 1)) hl (RF rt)) rfl ?_
    refine Ev.ret (v := some (.int (nI 0))) rfl ?_
    have hx := hq w1 hw2
    rw [← bk9w g (g 166 9) l (g 166 9 + 1) (g 166 9 + 1 - 1) w1 (by omega)] at hx
    rw [show decide (wrS g (up (g 175) (g 166 9) l) (g 166 9 + 1) (allS g) = 0) = false from by first | exact decide_eq_true hz28 | exact decide_eq_false hz28] at hx
    exact hx
noncomputable def rs_won (g : Nat → Nat → Nat) (x : Nat) : Nat := if x ≤ 1 then (if x = 1 then wrS g (g 175) (g 166 9) (allS g) else if wrS g (g 175) (g 166 9) (allS g) = 0 then 0 else 1) else 4294967295
theorem C_won {L : Nat} {xs : Nat → Int32} (d : Nat) (g : Nat → Nat → Nat) (hl : Nat → Nat → Int64) (rt : Nat × Nat × Nat × Nat) (hI : MI g) (x : Nat) (hx : x < 2 ^ 32) {Q : Po} (hq : ∀ w : Nat → Nat, (∀ j, j < 84 → w j ≤ 1) → Q (some (.int (nI (rs_won g x)))) (HN (ur g 186 w) hl (RF rt))) : Ev L xs (d + 6) 176 0 [(0, .ref 166), (1, .int (nI x))] [] (HN g hl (RF rt)) Q := by
  have hW := hI.hW
  have hS := hI.hS
  have hPl := hI.hPl
  have hNx := hI.hNx
  have hLa := hI.hLa
  have hLo := hI.hLo
  have hTb := hI.hTb
  have hTh := hI.hTh
  have hFd := hI.hFd
  have hSn := hI.hSn
  have hSh := hI.hSh
  have hRan := hI.hRan
  have hLr := hI.hLr
  have hLt := hI.hLt
  have hgl := hI.hgl
  have hsz := hI.hsz
  have hcm := hI.hcm
  have hsl := hI.hsl
  have hkd := hI.hkd
  have hvv := hI.hvv
  have hli := hI.hli
  have hro := hI.hro
  have hrw := hI.hrw
  have htx := hI.htx
  have hsw := hI.hsw
  have hsx := hI.hsx
  have hsy := hI.hsy
  have hsh := hI.hsh
  have hle := hI.hle
  have hcl := hI.hcl
  have hwd := hI.hwd
  have hnu := hI.hnu
  have hwn := hI.hwn
  have hs1 := hI.hs1
  have hso := hI.hso
  refine Ev.run 4 (pc' := 4) (lv' := [(0, .ref 166), (1, .int (nI x))]) (st' := [.int (nI 1), .int (nI 0), .int (nI x), .ref 166]) (h' := HN g hl (RF rt)) rfl ?_
  refine Ev.call (a := 126) (as := [.ref 166, .int (nI x), .int (nI 0), .int (nI 1)]) (rest := []) (lv0 := [(0, .ref 166), (1, .int (nI x)), (2, .int (nI 0)), (3, .int (nI 1))]) (Q1 := (fun z0 h' => z0 = some (.int (nI (bn (decide (x ≤ 1))))) ∧ h' = HN g hl (RF rt))) rfl rfl (C_in _ _ _ _ (nI x) (nI 0) (nI 1) (by rw [in0 (by omega) (by omega)]; exact ⟨rfl, rfl⟩)) (fun r h' hr => ?_)
  obtain ⟨rfl, rfl⟩ := hr
  refine Ev_bn (fun hb7 => ?_) (fun hb7 => ?_)
  · have hhb7 : x ≤ 1 := of_decide_eq_true hb7
    refine Ev.run 3 (pc' := 14) (lv' := [(0, .ref 166), (1, .int (nI x))]) (st' := [.ref 166, .ref 166]) (h' := HN g hl (RF rt)) rfl ?_
    refine Ev.call (a := 165) (as := [.ref 166]) (rest := [.ref 166]) (lv0 := [(0, .ref 166)]) (Q1 := (fun z0 h' => z0 = some (.int (nI (allS g))) ∧ h' = HN g hl (RF rt))) rfl rfl (C_all _ _ _ _ hI ⟨rfl, rfl⟩) (fun r h' hr => ?_)
    obtain ⟨rfl, rfl⟩ := hr
    have hall := allS_lt hI
    refine Ev.call (a := 174) (as := [.ref 166, .int (nI (allS g))]) (rest := []) (lv0 := [(0, .ref 166), (1, .int (nI (allS g)))]) (Q1 := (fun r h' => ∃ w, (∀ j, j < 84 → w j ≤ 1) ∧ r = some (.int (nI (wrS g (g 175) (g 166 9) (allS g)))) ∧ h' = HN (ur g 186 w) hl (RF rt))) rfl rfl (C_winningRow _ _ _ _ hI (allS g) (by omega) (fun w hw => ⟨w, hw, rfl, rfl⟩)) (fun r h' hr => ?_)
    obtain ⟨w3, hw4, rfl, rfl⟩ := hr
    have hwr := wrS_lt hI (g 175) (g 166 9) (allS g)
    refine Ev.run 4 (pc' := (if nI x = nI 1 then 26 else 30)) (lv' := [(2, .int (nI (wrS g (g 175) (g 166 9) (allS g)))), (0, .ref 166), (1, .int (nI x))]) (st' := []) (h' := HN (ur g 186 w3) hl (RF rt)) rfl ?_
    refine Ev.ite (fun hc23 => ?_) (fun hc23 => ?_)
    · have hc23 : x = 1 := (nI_eqU (by omega) (by omega)).mp hc23
      refine Ev.run 2 (pc' := 39) (lv' := [(2, .int (nI (wrS g (g 175) (g 166 9) (allS g)))), (0, .ref 166), (1, .int (nI x))]) (st' := [.int (nI (wrS g (g 175) (g 166 9) (allS g)))]) (h' := HN (ur g 186 w3) hl (RF rt)) rfl ?_
      refine Ev.ret (v := some (.int (nI (wrS g (g 175) (g 166 9) (allS g))))) rfl ?_
      have hx := hq w3 hw4
      simp only [rs_won, if_pos hhb7, if_pos hc23] at hx
      exact hx
    · have hc23 : ¬ (x = 1) := fun z => hc23 ((nI_eqU (by omega) (by omega)).mpr z)
      refine Ev.run 2 (pc' := (if nI (wrS g (g 175) (g 166 9) (allS g)) = 0 then 38 else 34)) (lv' := [(2, .int (nI (wrS g (g 175) (g 166 9) (allS g)))), (0, .ref 166), (1, .int (nI x))]) (st' := []) (h' := HN (ur g 186 w3) hl (RF rt)) rfl ?_
      refine Ev.ite (fun hc31 => ?_) (fun hc31 => ?_)
      · have hc31 : (wrS g (g 175) (g 166 9) (allS g)) = 0 := (nI_eqU0 (by omega)).mp hc31
        refine Ev.run 1 (pc' := 39) (lv' := [(2, .int (nI (wrS g (g 175) (g 166 9) (allS g)))), (0, .ref 166), (1, .int (nI x))]) (st' := [.int (nI 0)]) (h' := HN (ur g 186 w3) hl (RF rt)) rfl ?_
        refine Ev.ret (v := some (.int (nI 0))) rfl ?_
        have hx := hq w3 hw4
        simp only [rs_won, if_pos hhb7, if_neg hc23, if_pos hc31] at hx
        exact hx
      · have hc31 : ¬ ((wrS g (g 175) (g 166 9) (allS g)) = 0) := fun z => hc31 ((nI_eqU0 (by omega)).mpr z)
        refine Ev.run 2 (pc' := 39) (lv' := [(2, .int (nI (wrS g (g 175) (g 166 9) (allS g)))), (0, .ref 166), (1, .int (nI x))]) (st' := [.int (nI 1)]) (h' := HN (ur g 186 w3) hl (RF rt)) rfl ?_
        refine Ev.ret (v := some (.int (nI 1))) rfl ?_
        have hx := hq w3 hw4
        simp only [rs_won, if_pos hhb7, if_neg hc23, if_neg hc31] at hx
        exact hx
  · have hhb7 : ¬ (x ≤ 1) := of_decide_eq_false hb7
    refine Ev.run 2 (pc' := 11) (lv' := [(0, .ref 166), (1, .int (nI x))]) (st' := [.int (nI 4294967295)]) (h' := HN g hl (RF rt)) rfl ?_
    refine Ev.ret (v := some (.int (nI 4294967295))) rfl ?_
    have hx := hq (g 186) hI.hwn
    rw [ur_self] at hx
    simp only [rs_won, if_neg hhb7] at hx
    exact hx
noncomputable def rs_begins (g : Nat → Nat → Nat) (m : Nat) : Nat := if m ≤ 9 then wrS g (g 175) 0 (bset (fun i => !decide (g 169 i < m)) (g 166 0)) else 4294967294
theorem C_begins {L : Nat} {xs : Nat → Int32} (d : Nat) (g : Nat → Nat → Nat) (hl : Nat → Nat → Int64) (rt : Nat × Nat × Nat × Nat) (hI : MI g) (m : Nat) (hm : m < 2 ^ 32) {Q : Po} (hq : ∀ w : Nat → Nat, (∀ j, j < 84 → w j ≤ 1) → Q (some (.int (nI (rs_begins g m)))) (HN (ur g 186 w) hl (RF rt))) : Ev L xs (d + 6) 177 0 [(0, .ref 166), (1, .int (nI m))] [] (HN g hl (RF rt)) Q := by
  have hW := hI.hW
  have hS := hI.hS
  have hPl := hI.hPl
  have hNx := hI.hNx
  have hLa := hI.hLa
  have hLo := hI.hLo
  have hTb := hI.hTb
  have hTh := hI.hTh
  have hFd := hI.hFd
  have hSn := hI.hSn
  have hSh := hI.hSh
  have hRan := hI.hRan
  have hLr := hI.hLr
  have hLt := hI.hLt
  have hgl := hI.hgl
  have hsz := hI.hsz
  have hcm := hI.hcm
  have hsl := hI.hsl
  have hkd := hI.hkd
  have hvv := hI.hvv
  have hli := hI.hli
  have hro := hI.hro
  have hrw := hI.hrw
  have htx := hI.htx
  have hsw := hI.hsw
  have hsx := hI.hsx
  have hsy := hI.hsy
  have hsh := hI.hsh
  have hle := hI.hle
  have hcl := hI.hcl
  have hwd := hI.hwd
  have hnu := hI.hnu
  have hwn := hI.hwn
  have hs1 := hI.hs1
  have hso := hI.hso
  refine Ev.run 4 (pc' := 5) (lv' := [(0, .ref 166), (1, .int (nI m))]) (st' := [.int (nI 9), .int (nI 0), .int (nI m), .ref 166]) (h' := HN g hl (RF rt)) rfl ?_
  refine Ev.call (a := 126) (as := [.ref 166, .int (nI m), .int (nI 0), .int (nI 9)]) (rest := []) (lv0 := [(0, .ref 166), (1, .int (nI m)), (2, .int (nI 0)), (3, .int (nI 9))]) (Q1 := (fun z0 h' => z0 = some (.int (nI (bn (decide (m ≤ 9))))) ∧ h' = HN g hl (RF rt))) rfl rfl (C_in _ _ _ _ (nI m) (nI 0) (nI 9) (by rw [in0 (by omega) (by omega)]; exact ⟨rfl, rfl⟩)) (fun r h' hr => ?_)
  obtain ⟨rfl, rfl⟩ := hr
  refine Ev_bn (fun hb8 => ?_) (fun hb8 => ?_)
  · have hhb8 : m ≤ 9 := of_decide_eq_true hb8
    refine Ev.run 5 (pc' := 18) (lv' := [(3, .int (nI 0)), (2, .int (nI 0)), (0, .ref 166), (1, .int (nI m))]) (st' := []) (h' := HN g hl (RF rt)) rfl ?_
    refine for_ind (g 166 0) (fun n => Ev L xs (d + 6) 177 18 [(3, .int (nI n)), (2, .int (nI (bset (fun i => !decide (g 169 i < m)) n))), (0, .ref 166), (1, .int (nI m))] [] (HN g hl (RF rt)) Q) (fun n hn hnext => ?_) 0 (Nat.zero_le _)
    refine Ev.run 4 (pc' := (if nI (g 166 0) ≤ nI n then 52 else 26)) (lv' := [(3, .int (nI n)), (2, .int (nI (bset (fun i => !decide (g 169 i < m)) n))), (0, .ref 166), (1, .int (nI m))]) (st' := []) (h' := HN g hl (RF rt)) rfl ?_
    refine Ev.ite (fun hc23 => ?_) (fun hc23 => ?_)
    · have hc23 : (g 166 0) ≤ n := (nI_leI (by omega) (by omega)).mp hc23
      refine Ev.run 6 (pc' := 62) (lv' := [(3, .int (nI (g 166 9))), (2, .int (nI (bset (fun i => !decide (g 169 i < m)) n))), (0, .ref 166), (1, .int (nI m))]) (st' := []) (h' := setI (HN g hl (RF rt)) 166 9 (nI 0)) rfl ?_
      refine Ev.hp (HN_set _ _ _ _ _ _) ?_
      have hI2 : MI (u2 g 166 9 0) := hI.f9 (by omega)
      have hnW : n = g 166 0 := by omega
      have hb12 := bset_12 (fun i => !decide (g 169 i < m)) (n := n) (by omega)
      refine Ev.run 2 (pc' := 64) (lv' := [(3, .int (nI (g 166 9))), (2, .int (nI (bset (fun i => !decide (g 169 i < m)) n))), (0, .ref 166), (1, .int (nI m))]) (st' := [.int (nI (bset (fun i => !decide (g 169 i < m)) n)), .ref 166]) (h' := HN (u2 g 166 9 0) hl (RF rt)) rfl ?_
      refine Ev.call (a := 174) (as := [.ref 166, .int (nI (bset (fun i => !decide (g 169 i < m)) n))]) (rest := []) (lv0 := [(0, .ref 166), (1, .int (nI (bset (fun i => !decide (g 169 i < m)) n)))]) (Q1 := (fun r h' => ∃ w, (∀ j, j < 84 → w j ≤ 1) ∧ r = some (.int (nI (wrS (u2 g 166 9 0) ((u2 g 166 9 0) 175) (0) (bset (fun i => !decide (g 169 i < m)) n)))) ∧ h' = HN (ur (u2 g 166 9 0) 186 w) hl (RF rt))) rfl rfl (C_winningRow _ _ _ _ hI2 (bset (fun i => !decide (g 169 i < m)) n) (by omega) (fun w hw => ⟨w, hw, rfl, rfl⟩)) (fun r h' hr => ?_)
      obtain ⟨w5, hw6, rfl, rfl⟩ := hr
      have hwr := wrS_lt hI2 ((u2 g 166 9 0) 175) (0) (bset (fun i => !decide (g 169 i < m)) n)
      refine Ev.run 4 (pc' := 74) (lv' := [(4, .int (nI (wrS (u2 g 166 9 0) ((u2 g 166 9 0) 175) (0) (bset (fun i => !decide (g 169 i < m)) n)))), (3, .int (nI (g 166 9))), (2, .int (nI (bset (fun i => !decide (g 169 i < m)) n))), (0, .ref 166), (1, .int (nI m))]) (st' := []) (h' := setI (HN (ur (u2 g 166 9 0) 186 w5) hl (RF rt)) 166 9 (nI (g 166 9))) rfl ?_
      refine Ev.hp (HN_set _ _ _ _ _ _) ?_
      refine Ev.run 1 (pc' := 76) (lv' := [(4, .int (nI (wrS (u2 g 166 9 0) ((u2 g 166 9 0) 175) (0) (bset (fun i => !decide (g 169 i < m)) n)))), (3, .int (nI (g 166 9))), (2, .int (nI (bset (fun i => !decide (g 169 i < m)) n))), (0, .ref 166), (1, .int (nI m))]) (st' := [.int (nI (wrS (u2 g 166 9 0) ((u2 g 166 9 0) 175) (0) (bset (fun i => !decide (g 169 i < m)) n)))]) (h' := HN (u2 (ur (u2 g 166 9 0) 186 w5) 166 9 (g 166 9)) hl (RF rt)) rfl ?_
      refine Ev.ret (v := some (.int (nI (wrS (u2 g 166 9 0) ((u2 g 166 9 0) 175) (0) (bset (fun i => !decide (g 169 i < m)) n))))) rfl ?_
      have hx := hq w5 hw6
      rw [← bk9v g 0 (g 166 9) w5 rfl] at hx
      simp only [rs_begins, if_pos hhb8] at hx
      rw [(Cx.len g 0).xwrS, hnW]
      exact hx
    · have hc23 : ¬ ((g 166 0) ≤ n) := fun z => hc23 ((nI_leI (by omega) (by omega)).mpr z)
      refine Ev.run 4 (pc' := 32) (lv' := [(3, .int (nI n)), (2, .int (nI (bset (fun i => !decide (g 169 i < m)) n))), (0, .ref 166), (1, .int (nI m))]) (st' := [.int (nI n), .ref 169, .int (nI (bset (fun i => !decide (g 169 i < m)) n))]) (h' := HN g hl (RF rt)) rfl ?_
      refine Ev_iald rfl rfl (show n < 12 by omega) (Nat.le_of_ble_eq_true rfl) ?_
      have hr0 := hcm n (by omega)
      refine Ev.run 2 (pc' := (if nI (g 169 n) < nI m then 43 else 37)) (lv' := [(3, .int (nI n)), (2, .int (nI (bset (fun i => !decide (g 169 i < m)) n))), (0, .ref 166), (1, .int (nI m))]) (st' := [.int (nI (bset (fun i => !decide (g 169 i < m)) n))]) (h' := HN g hl (RF rt)) rfl ?_
      refine Ev.ite (fun hc34 => ?_) (fun hc34 => ?_)
      · have hc34 : (g 169 n) < m := (nI_ltI (by omega) (by omega)).mp hc34
        refine Ev.run 2 (pc' := 45) (lv' := [(3, .int (nI n)), (2, .int (nI (bset (fun i => !decide (g 169 i < m)) n))), (0, .ref 166), (1, .int (nI m))]) (st' := [.int (nI (bset (fun i => !decide (g 169 i < m)) n) ||| nI 0)]) (h' := HN g hl (RF rt)) rfl ?_
        refine Ev.topI (nIo _ _) ?_
        refine Ev.run 2 (pc' := 49) (lv' := [(3, .int (nI n + 1)), (2, .int (nI ((bset (fun i => !decide (g 169 i < m)) n) ||| 0))), (0, .ref 166), (1, .int (nI m))]) (st' := []) (h' := HN g hl (RF rt)) rfl ?_
        refine Ev.lvE (congrArg (fun z => (3, Value.int z) :: [(2, .int (nI ((bset (fun i => !decide (g 169 i < m)) n) ||| 0))), (0, .ref 166), (1, .int (nI m))]) (nI_1 _)) ?_
        refine Ev.run 1 (pc' := 18) (lv' := [(3, .int (nI (n + 1))), (2, .int (nI ((bset (fun i => !decide (g 169 i < m)) n) ||| 0))), (0, .ref 166), (1, .int (nI m))]) (st' := []) (h' := HN g hl (RF rt)) rfl ?_
        have hx := hnext (by omega)
        rw [bset_s0 (p := fun i => !decide (g 169 i < m)) (by simp only [hhb8, hc23, hc34, Bool.and_true, Bool.and_false, Bool.true_and, Bool.false_and, decide_true, decide_false, Bool.not_true, Bool.not_false])] at hx
        exact hx
      · have hc34 : ¬ ((g 169 n) < m) := fun z => hc34 ((nI_ltI (by omega) (by omega)).mpr z)
        refine Ev.run 3 (pc' := 40) (lv' := [(3, .int (nI n)), (2, .int (nI (bset (fun i => !decide (g 169 i < m)) n))), (0, .ref 166), (1, .int (nI m))]) (st' := [.int (nI 1 <<< (nI n &&& 31)), .int (nI (bset (fun i => !decide (g 169 i < m)) n))]) (h' := HN g hl (RF rt)) rfl ?_
        refine Ev.topI (nI_shl (by omega)) ?_
        refine Ev.run 2 (pc' := 45) (lv' := [(3, .int (nI n)), (2, .int (nI (bset (fun i => !decide (g 169 i < m)) n))), (0, .ref 166), (1, .int (nI m))]) (st' := [.int (nI (bset (fun i => !decide (g 169 i < m)) n) ||| nI (nSh 1 n))]) (h' := HN g hl (RF rt)) rfl ?_
        refine Ev.topI (nIo _ _) ?_
        refine Ev.run 2 (pc' := 49) (lv' := [(3, .int (nI n + 1)), (2, .int (nI ((bset (fun i => !decide (g 169 i < m)) n) ||| (nSh 1 n)))), (0, .ref 166), (1, .int (nI m))]) (st' := []) (h' := HN g hl (RF rt)) rfl ?_
        refine Ev.lvE (congrArg (fun z => (3, Value.int z) :: [(2, .int (nI ((bset (fun i => !decide (g 169 i < m)) n) ||| (nSh 1 n)))), (0, .ref 166), (1, .int (nI m))]) (nI_1 _)) ?_
        refine Ev.run 1 (pc' := 18) (lv' := [(3, .int (nI (n + 1))), (2, .int (nI ((bset (fun i => !decide (g 169 i < m)) n) ||| (nSh 1 n)))), (0, .ref 166), (1, .int (nI m))]) (st' := []) (h' := HN g hl (RF rt)) rfl ?_
        have hx := hnext (by omega)
        rw [bset_s1 (p := fun i => !decide (g 169 i < m)) (by simp only [hhb8, hc23, hc34, Bool.and_true, Bool.and_false, Bool.true_and, Bool.false_and, decide_true, decide_false, Bool.not_true, Bool.not_false])] at hx
        exact hx
  · have hhb8 : ¬ (m ≤ 9) := of_decide_eq_false hb8
    refine Ev.run 2 (pc' := 13) (lv' := [(0, .ref 166), (1, .int (nI m))]) (st' := [.int (nI 4294967294)]) (h' := HN g hl (RF rt)) rfl ?_
    refine Ev.ret (v := some (.int (nI 4294967294))) rfl ?_
    have hx := hq (g 186) hI.hwn
    rw [ur_self] at hx
    simp only [rs_begins, if_neg hhb8] at hx
    exact hx
def alS (g : Nat → Nat → Nat) : Nat := bset (fun p => !decide (g 173 p ≤ 0)) (g 166 6)
theorem alS_lt {g : Nat → Nat → Nat} (h : MI g) : alS g < 32 := bset_lt' _ (m := 5) h.hPl
def nxF (lv : Nat → Nat) (P p : Nat) : Nat → Nat → Nat
  | 0, _ => p
  | f + 1, k => if 0 < lv ((p + k) % P) then (p + k) % P else nxF lv P p f (k + 1)
/-- the next one by numbers, round, of whom lv says more than 0; p itself if there is none -/
def nxS (lv : Nat → Nat) (P p : Nat) : Nat := nxF lv P p P 1
theorem nxF_lt (lv : Nat → Nat) (P p : Nat) (hp : p < 5) (hP : P ≤ 5) : ∀ f k, k + f ≤ P + 1 → nxF lv P p f k < 5 := by
  intro f
  induction f with
  | zero => intro k _; exact hp
  | succ f ih =>
    intro k hk
    unfold nxF
    split
    · by_cases h0 : P = 0
      · subst h0; rw [Nat.mod_zero]; omega
      · have := Nat.mod_lt (p + k) (show 0 < P by omega); omega
    · exact ih (k + 1) (by omega)
theorem nxS_lt (lv : Nat → Nat) (P p : Nat) (hp : p < 5) (hP : P ≤ 5) : nxS lv P p < 5 := by
  by_cases h0 : P = 0
  · subst h0; exact hp
  · exact nxF_lt lv P p hp hP P 1 (by omega)
theorem nxF_s (lv : Nat → Nat) (P p n : Nat) (h : n < P) (h2 : ¬ 0 < lv ((p + (n + 1)) % P)) : nxF lv P p (P - (n + 1)) (n + 1 + 1) = nxF lv P p (P - n) (n + 1) := by
  rw [show P - n = (P - (n + 1)) + 1 by omega]
  show _ = (if _ then _ else _)
  rw [if_neg h2]
theorem nxF_e (lv : Nat → Nat) (P p n : Nat) (h : n < P) (h2 : 0 < lv ((p + (n + 1)) % P)) : nxF lv P p (P - n) (n + 1) = (p + (n + 1)) % P := by
  rw [show P - n = (P - (n + 1)) + 1 by omega]
  show (if _ then _ else _) = _
  rw [if_pos h2]
def plS (may safe : Nat) : Nat := if safe = 0 then (if may = 0 then 10 else least may) else least safe
def waS (last may safe : Nat) : Nat := if safe = 0 then (if 2147483648 ≤ last then plS may safe else 10) else plS may safe
def boS (len v may safe : Nat) : Nat := if may = 0 then (if 12 ≤ len then plS may safe else v % 4) else plS may safe
theorem least_lt {s N : Nat} (h : s ≠ 0) (hs : s < 2 ^ N) (hN : N ≤ 31) : least s < N := by
  obtain ⟨j, h1, h2, h3⟩ := least_ex h hs
  rw [least_eq (by omega) h2 h3]
  exact h1
theorem plS_lt {may safe : Nat} (h1 : may < 16) (h2 : safe < 16) : plS may safe ≤ 10 := by
  unfold plS
  split
  · split
    · exact Nat.le_refl _
    · rename_i h; have := least_lt h (N := 4) h1 (by decide); omega
  · rename_i h; have := least_lt h (N := 4) h2 (by decide); omega
def tnS (g : Nat → Nat → Nat) : Nat := if g 173 (g 166 7) ≤ 0 then nxS (g 173) (g 166 6) (g 166 7) else g 166 7
theorem tnS_lt {g : Nat → Nat → Nat} (h : MI g) : tnS g < 5 := by
  unfold tnS
  have := h.hNx
  split
  · exact nxS_lt _ _ _ (by omega) h.hPl
  · omega
theorem C_aliveSet {L : Nat} {xs : Nat → Int32} (d : Nat) (g : Nat → Nat → Nat) (hl : Nat → Nat → Int64) (rt : Nat × Nat × Nat × Nat) (hI : MI g)  {Q : Po} (hq : Q (some (.int (nI (alS g)))) (HN g hl (RF rt))) : Ev L xs d 178 0 [(0, .ref 166)] [] (HN g hl (RF rt)) Q := by
  have hW := hI.hW
  have hS := hI.hS
  have hPl := hI.hPl
  have hNx := hI.hNx
  have hLa := hI.hLa
  have hLo := hI.hLo
  have hTb := hI.hTb
  have hTh := hI.hTh
  have hFd := hI.hFd
  have hSn := hI.hSn
  have hSh := hI.hSh
  have hRan := hI.hRan
  have hLr := hI.hLr
  have hLt := hI.hLt
  have hgl := hI.hgl
  have hsz := hI.hsz
  have hcm := hI.hcm
  have hsl := hI.hsl
  have hkd := hI.hkd
  have hvv := hI.hvv
  have hli := hI.hli
  have hro := hI.hro
  have hrw := hI.hrw
  have htx := hI.htx
  have hsw := hI.hsw
  have hsx := hI.hsx
  have hsy := hI.hsy
  have hsh := hI.hsh
  have hle := hI.hle
  have hcl := hI.hcl
  have hwd := hI.hwd
  have hnu := hI.hnu
  have hwn := hI.hwn
  have hs1 := hI.hs1
  have hso := hI.hso
  refine Ev.run 4 (pc' := 4) (lv' := [(2, .int (nI 0)), (1, .int (nI 0)), (0, .ref 166)]) (st' := []) (h' := HN g hl (RF rt)) rfl ?_
  refine for_ind (g 166 6) (fun n => Ev L xs d 178 4 [(2, .int (nI n)), (1, .int (nI (bset (fun p => !decide (g 173 p ≤ 0)) n))), (0, .ref 166)] [] (HN g hl (RF rt)) Q) (fun n hn hnext => ?_) 0 (Nat.zero_le _)
  refine Ev.run 4 (pc' := (if nI (g 166 6) ≤ nI n then 37 else 12)) (lv' := [(2, .int (nI n)), (1, .int (nI (bset (fun p => !decide (g 173 p ≤ 0)) n))), (0, .ref 166)]) (st' := []) (h' := HN g hl (RF rt)) rfl ?_
  refine Ev.ite (fun hc9 => ?_) (fun hc9 => ?_)
  · have hc9 : (g 166 6) ≤ n := (nI_leI (by omega) (by omega)).mp hc9
    refine Ev.run 1 (pc' := 38) (lv' := [(2, .int (nI n)), (1, .int (nI (bset (fun p => !decide (g 173 p ≤ 0)) n))), (0, .ref 166)]) (st' := [.int (nI (bset (fun p => !decide (g 173 p ≤ 0)) n))]) (h' := HN g hl (RF rt)) rfl ?_
    refine Ev.ret (v := some (.int (nI (bset (fun p => !decide (g 173 p ≤ 0)) n)))) rfl ?_
    obtain rfl : n = g 166 6 := by omega
    exact hq
  · have hc9 : ¬ ((g 166 6) ≤ n) := fun z => hc9 ((nI_leI (by omega) (by omega)).mpr z)
    refine Ev.run 4 (pc' := 18) (lv' := [(2, .int (nI n)), (1, .int (nI (bset (fun p => !decide (g 173 p ≤ 0)) n))), (0, .ref 166)]) (st' := [.int (nI n), .ref 173, .int (nI (bset (fun p => !decide (g 173 p ≤ 0)) n))]) (h' := HN g hl (RF rt)) rfl ?_
    refine Ev_iald rfl rfl (show n < 5 by omega) (Nat.le_of_ble_eq_true rfl) ?_
    have hr0 := hli n (by omega)
    refine Ev.run 1 (pc' := (if nI (g 173 n) ≤ 0 then 28 else 22)) (lv' := [(2, .int (nI n)), (1, .int (nI (bset (fun p => !decide (g 173 p ≤ 0)) n))), (0, .ref 166)]) (st' := [.int (nI (bset (fun p => !decide (g 173 p ≤ 0)) n))]) (h' := HN g hl (RF rt)) rfl ?_
    refine Ev.ite (fun hc19 => ?_) (fun hc19 => ?_)
    · have hc19 : (g 173 n) ≤ 0 := (nI_leI0 (by omega)).mp hc19
      refine Ev.run 2 (pc' := 30) (lv' := [(2, .int (nI n)), (1, .int (nI (bset (fun p => !decide (g 173 p ≤ 0)) n))), (0, .ref 166)]) (st' := [.int (nI (bset (fun p => !decide (g 173 p ≤ 0)) n) ||| nI 0)]) (h' := HN g hl (RF rt)) rfl ?_
      refine Ev.topI (nIo _ _) ?_
      refine Ev.run 2 (pc' := 34) (lv' := [(2, .int (nI n + 1)), (1, .int (nI ((bset (fun p => !decide (g 173 p ≤ 0)) n) ||| 0))), (0, .ref 166)]) (st' := []) (h' := HN g hl (RF rt)) rfl ?_
      refine Ev.lvE (congrArg (fun z => (2, Value.int z) :: [(1, .int (nI ((bset (fun p => !decide (g 173 p ≤ 0)) n) ||| 0))), (0, .ref 166)]) (nI_1 _)) ?_
      refine Ev.run 1 (pc' := 4) (lv' := [(2, .int (nI (n + 1))), (1, .int (nI ((bset (fun p => !decide (g 173 p ≤ 0)) n) ||| 0))), (0, .ref 166)]) (st' := []) (h' := HN g hl (RF rt)) rfl ?_
      have hx := hnext (by omega)
      rw [bset_s0 (p := fun p => !decide (g 173 p ≤ 0)) (by simp only [hc9, hc19, Bool.and_true, Bool.and_false, Bool.true_and, Bool.false_and, decide_true, decide_false, Bool.not_true, Bool.not_false])] at hx
      exact hx
    · have hc19 : ¬ ((g 173 n) ≤ 0) := fun z => hc19 ((nI_leI0 (by omega)).mpr z)
      refine Ev.run 3 (pc' := 25) (lv' := [(2, .int (nI n)), (1, .int (nI (bset (fun p => !decide (g 173 p ≤ 0)) n))), (0, .ref 166)]) (st' := [.int (nI 1 <<< (nI n &&& 31)), .int (nI (bset (fun p => !decide (g 173 p ≤ 0)) n))]) (h' := HN g hl (RF rt)) rfl ?_
      refine Ev.topI (nI_shl (by omega)) ?_
      refine Ev.run 2 (pc' := 30) (lv' := [(2, .int (nI n)), (1, .int (nI (bset (fun p => !decide (g 173 p ≤ 0)) n))), (0, .ref 166)]) (st' := [.int (nI (bset (fun p => !decide (g 173 p ≤ 0)) n) ||| nI (nSh 1 n))]) (h' := HN g hl (RF rt)) rfl ?_
      refine Ev.topI (nIo _ _) ?_
      refine Ev.run 2 (pc' := 34) (lv' := [(2, .int (nI n + 1)), (1, .int (nI ((bset (fun p => !decide (g 173 p ≤ 0)) n) ||| (nSh 1 n)))), (0, .ref 166)]) (st' := []) (h' := HN g hl (RF rt)) rfl ?_
      refine Ev.lvE (congrArg (fun z => (2, Value.int z) :: [(1, .int (nI ((bset (fun p => !decide (g 173 p ≤ 0)) n) ||| (nSh 1 n)))), (0, .ref 166)]) (nI_1 _)) ?_
      refine Ev.run 1 (pc' := 4) (lv' := [(2, .int (nI (n + 1))), (1, .int (nI ((bset (fun p => !decide (g 173 p ≤ 0)) n) ||| (nSh 1 n)))), (0, .ref 166)]) (st' := []) (h' := HN g hl (RF rt)) rfl ?_
      have hx := hnext (by omega)
      rw [bset_s1 (p := fun p => !decide (g 173 p ≤ 0)) (by simp only [hc9, hc19, Bool.and_true, Bool.and_false, Bool.true_and, Bool.false_and, decide_true, decide_false, Bool.not_true, Bool.not_false])] at hx
      exact hx
theorem C_nextOf {L : Nat} {xs : Nat → Int32} (d : Nat) (g : Nat → Nat → Nat) (hl : Nat → Nat → Int64) (rt : Nat × Nat × Nat × Nat) (hI : MI g) (p : Nat) (hp : p < 5) {Q : Po} (hq : Q (some (.int (nI (nxS (g 173) (g 166 6) p)))) (HN g hl (RF rt))) : Ev L xs d 179 0 [(0, .ref 166), (1, .int (nI p))] [] (HN g hl (RF rt)) Q := by
  have hW := hI.hW
  have hS := hI.hS
  have hPl := hI.hPl
  have hNx := hI.hNx
  have hLa := hI.hLa
  have hLo := hI.hLo
  have hTb := hI.hTb
  have hTh := hI.hTh
  have hFd := hI.hFd
  have hSn := hI.hSn
  have hSh := hI.hSh
  have hRan := hI.hRan
  have hLr := hI.hLr
  have hLt := hI.hLt
  have hgl := hI.hgl
  have hsz := hI.hsz
  have hcm := hI.hcm
  have hsl := hI.hsl
  have hkd := hI.hkd
  have hvv := hI.hvv
  have hli := hI.hli
  have hro := hI.hro
  have hrw := hI.hrw
  have htx := hI.htx
  have hsw := hI.hsw
  have hsx := hI.hsx
  have hsy := hI.hsy
  have hsh := hI.hsh
  have hle := hI.hle
  have hcl := hI.hcl
  have hwd := hI.hwd
  have hnu := hI.hnu
  have hwn := hI.hwn
  have hs1 := hI.hs1
  have hso := hI.hso
  refine Ev.run 2 (pc' := 2) (lv' := [(2, .int (nI 1)), (0, .ref 166), (1, .int (nI p))]) (st' := []) (h' := HN g hl (RF rt)) rfl ?_
  refine for_ind (g 166 6) (fun n => nxF (g 173) (g 166 6) p (g 166 6 - n) (n + 1) = nxS (g 173) (g 166 6) p → Ev L xs d 179 2 [(2, .int (nI (n + 1))), (0, .ref 166), (1, .int (nI p))] [] (HN g hl (RF rt)) Q) (fun n hn hnext ha => ?_) 0 (Nat.zero_le _) rfl
  refine Ev.run 4 (pc' := (if nI (g 166 6) < nI (n + 1) then 41 else 10)) (lv' := [(2, .int (nI (n + 1))), (0, .ref 166), (1, .int (nI p))]) (st' := []) (h' := HN g hl (RF rt)) rfl ?_
  refine Ev.ite (fun hc7 => ?_) (fun hc7 => ?_)
  · have hc7 : (g 166 6) < (n + 1) := (nI_ltI (by omega) (by omega)).mp hc7
    refine Ev.run 1 (pc' := 42) (lv' := [(2, .int (nI (n + 1))), (0, .ref 166), (1, .int (nI p))]) (st' := [.int (nI p)]) (h' := HN g hl (RF rt)) rfl ?_
    refine Ev.ret (v := some (.int (nI p))) rfl ?_
    first
      | (rw [nxF_e _ _ _ _ (by omega) (by omega)] at ha
         rw [← ha] at hq
         exact hq)
      | (obtain rfl : n = g 166 6 := by omega
         rw [Nat.sub_self] at ha
         rw [← ha] at hq
         exact hq)
  · have hc7 : ¬ ((g 166 6) < (n + 1)) := fun z => hc7 ((nI_ltI (by omega) (by omega)).mpr z)
    refine Ev.run 5 (pc' := 17) (lv' := [(2, .int (nI (n + 1))), (0, .ref 166), (1, .int (nI p))]) (st' := [.int (nI p + nI (n + 1)), .ref 173]) (h' := HN g hl (RF rt)) rfl ?_
    refine Ev.topI (nI_add _ _) ?_
    refine Ev.run 2 (pc' := 21) (lv' := [(2, .int (nI (n + 1))), (0, .ref 166), (1, .int (nI p))]) (st' := [.int (nI (g 166 6)), .int (nI (p + (n + 1))), .ref 173]) (h' := HN g hl (RF rt)) rfl ?_
    refine Ev_irem rfl (by omega) (by omega) (by omega) ?_
    have hmd21 := Nat.mod_lt (p + (n + 1)) (show 0 < g 166 6 by omega)
    refine Ev_iald rfl rfl (show (p + (n + 1)) % (g 166 6) < 5 by omega) (Nat.le_of_ble_eq_true rfl) ?_
    have hr0 := hli ((p + (n + 1)) % (g 166 6)) (by omega)
    refine Ev.run 1 (pc' := (if nI (g 173 ((p + (n + 1)) % (g 166 6))) ≤ 0 then 35 else 26)) (lv' := [(2, .int (nI (n + 1))), (0, .ref 166), (1, .int (nI p))]) (st' := []) (h' := HN g hl (RF rt)) rfl ?_
    refine Ev.ite (fun hc23 => ?_) (fun hc23 => ?_)
    · have hc23 : (g 173 ((p + (n + 1)) % (g 166 6))) ≤ 0 := (nI_leI0 (by omega)).mp hc23
      refine Ev.run 1 (pc' := 38) (lv' := [(2, .int (nI (n + 1) + 1)), (0, .ref 166), (1, .int (nI p))]) (st' := []) (h' := HN g hl (RF rt)) rfl ?_
      refine Ev.lvE (congrArg (fun z => (2, Value.int z) :: [(0, .ref 166), (1, .int (nI p))]) (nI_1 _)) ?_
      refine Ev.run 1 (pc' := 2) (lv' := [(2, .int (nI (n + 1 + 1))), (0, .ref 166), (1, .int (nI p))]) (st' := []) (h' := HN g hl (RF rt)) rfl ?_
      exact hnext (by omega) (by rw [nxF_s _ _ _ _ (by omega) (by omega)]; exact ha)
    · have hc23 : ¬ ((g 173 ((p + (n + 1)) % (g 166 6))) ≤ 0) := fun z => hc23 ((nI_leI0 (by omega)).mpr z)
      refine Ev.run 3 (pc' := 29) (lv' := [(2, .int (nI (n + 1))), (0, .ref 166), (1, .int (nI p))]) (st' := [.int (nI p + nI (n + 1))]) (h' := HN g hl (RF rt)) rfl ?_
      refine Ev.topI (nI_add _ _) ?_
      refine Ev.run 2 (pc' := 33) (lv' := [(2, .int (nI (n + 1))), (0, .ref 166), (1, .int (nI p))]) (st' := [.int (nI (g 166 6)), .int (nI (p + (n + 1)))]) (h' := HN g hl (RF rt)) rfl ?_
      refine Ev_irem rfl (by omega) (by omega) (by omega) ?_
      have hmd33 := Nat.mod_lt (p + (n + 1)) (show 0 < g 166 6 by omega)
      refine Ev.ret (v := some (.int (nI ((p + (n + 1)) % (g 166 6))))) rfl ?_
      first
        | (rw [nxF_e _ _ _ _ (by omega) (by omega)] at ha
           rw [← ha] at hq
           exact hq)
        | (obtain rfl : n = g 166 6 := by omega
           rw [Nat.sub_self] at ha
           rw [← ha] at hq
           exact hq)
theorem C_plainly {L : Nat} {xs : Nat → Int32} (d : Nat) (g : Nat → Nat → Nat) (hl : Nat → Nat → Int64) (rt : Nat × Nat × Nat × Nat) (may safe : Nat) (hmay : may < 16) (hsafe : safe < 16) {Q : Po} (hq : Q (some (.int (nI (plS may safe)))) (HN g hl (RF rt))) : Ev L xs (d + 2) 182 0 [(0, .ref 166), (1, .int (nI may)), (2, .int (nI safe))] [] (HN g hl (RF rt)) Q := by
  refine Ev.run 2 (pc' := (if nI safe = 0 then 12 else 4)) (lv' := [(0, .ref 166), (1, .int (nI may)), (2, .int (nI safe))]) (st' := []) (h' := HN g hl (RF rt)) rfl ?_
  refine Ev.ite (fun hc1 => ?_) (fun hc1 => ?_)
  · have hc1 : safe = 0 := (nI_eqU0 (by omega)).mp hc1
    refine Ev.run 2 (pc' := (if nI may = 0 then 24 else 16)) (lv' := [(0, .ref 166), (1, .int (nI may)), (2, .int (nI safe))]) (st' := []) (h' := HN g hl (RF rt)) rfl ?_
    refine Ev.ite (fun hc13 => ?_) (fun hc13 => ?_)
    · have hc13 : may = 0 := (nI_eqU0 (by omega)).mp hc13
      refine Ev.run 1 (pc' := 26) (lv' := [(0, .ref 166), (1, .int (nI may)), (2, .int (nI safe))]) (st' := [.int (nI 10)]) (h' := HN g hl (RF rt)) rfl ?_
      refine Ev.ret (v := some (.int (nI 10))) rfl ?_
      simp only [plS, if_pos hc1, if_pos hc13] at hq
      exact hq
    · have hc13 : ¬ (may = 0) := fun z => hc13 ((nI_eqU0 (by omega)).mpr z)
      refine Ev.run 2 (pc' := 18) (lv' := [(0, .ref 166), (1, .int (nI may)), (2, .int (nI safe))]) (st' := [.int (nI may), .ref 166]) (h' := HN g hl (RF rt)) rfl ?_
      refine Ev.call (a := 129) (as := [.ref 166, .int (nI may)]) (rest := []) (lv0 := [(0, .ref 166), (1, .int (nI may))]) (Q1 := (fun z0 h' => z0 = some (.int (nI (least may))) ∧ h' = HN g hl (RF rt))) rfl rfl (C_leastOf _ _ _ _ may (by assumption) (by omega) ⟨rfl, rfl⟩) (fun r h' hr => ?_)
      obtain ⟨rfl, rfl⟩ := hr
      refine Ev.run 1 (pc' := 26) (lv' := [(0, .ref 166), (1, .int (nI may)), (2, .int (nI safe))]) (st' := [.int (nI (least may))]) (h' := HN g hl (RF rt)) rfl ?_
      refine Ev.ret (v := some (.int (nI (least may)))) rfl ?_
      simp only [plS, if_pos hc1, if_neg hc13] at hq
      exact hq
  · have hc1 : ¬ (safe = 0) := fun z => hc1 ((nI_eqU0 (by omega)).mpr z)
    refine Ev.run 2 (pc' := 6) (lv' := [(0, .ref 166), (1, .int (nI may)), (2, .int (nI safe))]) (st' := [.int (nI safe), .ref 166]) (h' := HN g hl (RF rt)) rfl ?_
    refine Ev.call (a := 129) (as := [.ref 166, .int (nI safe)]) (rest := []) (lv0 := [(0, .ref 166), (1, .int (nI safe))]) (Q1 := (fun z0 h' => z0 = some (.int (nI (least safe))) ∧ h' = HN g hl (RF rt))) rfl rfl (C_leastOf _ _ _ _ safe (by assumption) (by omega) ⟨rfl, rfl⟩) (fun r h' hr => ?_)
    obtain ⟨rfl, rfl⟩ := hr
    refine Ev.run 1 (pc' := 26) (lv' := [(0, .ref 166), (1, .int (nI may)), (2, .int (nI safe))]) (st' := [.int (nI (least safe))]) (h' := HN g hl (RF rt)) rfl ?_
    refine Ev.ret (v := some (.int (nI (least safe)))) rfl ?_
    simp only [plS, if_neg hc1] at hq
    exact hq
theorem C_warily {L : Nat} {xs : Nat → Int32} (d : Nat) (g : Nat → Nat → Nat) (hl : Nat → Nat → Int64) (rt : Nat × Nat × Nat × Nat) (hI : MI g) (may safe : Nat) (hmay : may < 16) (hsafe : safe < 16) {Q : Po} (hq : Q (some (.int (nI (waS (g 166 8) may safe)))) (HN g hl (RF rt))) : Ev L xs (d + 3) 185 0 [(0, .ref 166), (1, .int (nI may)), (2, .int (nI safe))] [] (HN g hl (RF rt)) Q := by
  have hW := hI.hW
  have hS := hI.hS
  have hPl := hI.hPl
  have hNx := hI.hNx
  have hLa := hI.hLa
  have hLo := hI.hLo
  have hTb := hI.hTb
  have hTh := hI.hTh
  have hFd := hI.hFd
  have hSn := hI.hSn
  have hSh := hI.hSh
  have hRan := hI.hRan
  have hLr := hI.hLr
  have hLt := hI.hLt
  have hgl := hI.hgl
  have hsz := hI.hsz
  have hcm := hI.hcm
  have hsl := hI.hsl
  have hkd := hI.hkd
  have hvv := hI.hvv
  have hli := hI.hli
  have hro := hI.hro
  have hrw := hI.hrw
  have htx := hI.htx
  have hsw := hI.hsw
  have hsx := hI.hsx
  have hsy := hI.hsy
  have hsh := hI.hsh
  have hle := hI.hle
  have hcl := hI.hcl
  have hwd := hI.hwd
  have hnu := hI.hnu
  have hwn := hI.hwn
  have hs1 := hI.hs1
  have hso := hI.hso
  refine Ev.run 2 (pc' := (if nI safe = 0 then 4 else 16)) (lv' := [(0, .ref 166), (1, .int (nI may)), (2, .int (nI safe))]) (st' := []) (h' := HN g hl (RF rt)) rfl ?_
  refine Ev.ite (fun hc1 => ?_) (fun hc1 => ?_)
  · have hc1 : safe = 0 := (nI_eqU0 (by omega)).mp hc1
    refine Ev.run 3 (pc' := (if nI (g 166 8) < 0 then 16 else 11)) (lv' := [(0, .ref 166), (1, .int (nI may)), (2, .int (nI safe))]) (st' := []) (h' := HN g hl (RF rt)) rfl ?_
    refine Ev.ite (fun hc8 => ?_) (fun hc8 => ?_)
    · have hc8 : 2147483648 ≤ (g 166 8) := (nI_ltU0 (by omega)).mp hc8
      refine Ev.run 3 (pc' := 19) (lv' := [(0, .ref 166), (1, .int (nI may)), (2, .int (nI safe))]) (st' := [.int (nI safe), .int (nI may), .ref 166]) (h' := HN g hl (RF rt)) rfl ?_
      refine Ev.call (a := 182) (as := [.ref 166, .int (nI may), .int (nI safe)]) (rest := []) (lv0 := [(0, .ref 166), (1, .int (nI may)), (2, .int (nI safe))]) (Q1 := (fun z0 h' => z0 = some (.int (nI (plS may safe))) ∧ h' = HN g hl (RF rt))) rfl rfl (C_plainly _ _ _ _ may safe (by omega) (by omega) ⟨rfl, rfl⟩) (fun r h' hr => ?_)
      obtain ⟨rfl, rfl⟩ := hr
      refine Ev.ret (v := some (.int (nI (plS may safe)))) rfl ?_
      simp only [waS, if_pos hc1, if_pos hc8] at hq
      exact hq
    · have hc8 : ¬ (2147483648 ≤ (g 166 8)) := fun z => hc8 ((nI_ltU0 (by omega)).mpr z)
      refine Ev.run 2 (pc' := 22) (lv' := [(0, .ref 166), (1, .int (nI may)), (2, .int (nI safe))]) (st' := [.int (nI 10)]) (h' := HN g hl (RF rt)) rfl ?_
      refine Ev.ret (v := some (.int (nI 10))) rfl ?_
      simp only [waS, if_pos hc1, if_neg hc8] at hq
      exact hq
  · have hc1 : ¬ (safe = 0) := fun z => hc1 ((nI_eqU0 (by omega)).mpr z)
    refine Ev.run 3 (pc' := 19) (lv' := [(0, .ref 166), (1, .int (nI may)), (2, .int (nI safe))]) (st' := [.int (nI safe), .int (nI may), .ref 166]) (h' := HN g hl (RF rt)) rfl ?_
    refine Ev.call (a := 182) (as := [.ref 166, .int (nI may), .int (nI safe)]) (rest := []) (lv0 := [(0, .ref 166), (1, .int (nI may)), (2, .int (nI safe))]) (Q1 := (fun z0 h' => z0 = some (.int (nI (plS may safe))) ∧ h' = HN g hl (RF rt))) rfl rfl (C_plainly _ _ _ _ may safe (by omega) (by omega) ⟨rfl, rfl⟩) (fun r h' hr => ?_)
    obtain ⟨rfl, rfl⟩ := hr
    refine Ev.ret (v := some (.int (nI (plS may safe)))) rfl ?_
    simp only [waS, if_neg hc1] at hq
    exact hq
theorem C_boldly {L : Nat} {xs : Nat → Int32} (d : Nat) (g : Nat → Nat → Nat) (hl : Nat → Nat → Int64) (rt : Nat × Nat × Nat × Nat) (hI : MI g) (p : Nat) (hp : p < 5) (may safe : Nat) (hmay : may < 16) (hsafe : safe < 16) {Q : Po} (hq : Q (some (.int (nI (boS (g 166 9) (g 172 p) may safe)))) (HN g hl (RF rt))) : Ev L xs (d + 3) 186 0 [(0, .ref 166), (1, .int (nI p)), (2, .int (nI may)), (3, .int (nI safe))] [] (HN g hl (RF rt)) Q := by
  have hW := hI.hW
  have hS := hI.hS
  have hPl := hI.hPl
  have hNx := hI.hNx
  have hLa := hI.hLa
  have hLo := hI.hLo
  have hTb := hI.hTb
  have hTh := hI.hTh
  have hFd := hI.hFd
  have hSn := hI.hSn
  have hSh := hI.hSh
  have hRan := hI.hRan
  have hLr := hI.hLr
  have hLt := hI.hLt
  have hgl := hI.hgl
  have hsz := hI.hsz
  have hcm := hI.hcm
  have hsl := hI.hsl
  have hkd := hI.hkd
  have hvv := hI.hvv
  have hli := hI.hli
  have hro := hI.hro
  have hrw := hI.hrw
  have htx := hI.htx
  have hsw := hI.hsw
  have hsx := hI.hsx
  have hsy := hI.hsy
  have hsh := hI.hsh
  have hle := hI.hle
  have hcl := hI.hcl
  have hwd := hI.hwd
  have hnu := hI.hnu
  have hwn := hI.hwn
  have hs1 := hI.hs1
  have hso := hI.hso
  refine Ev.run 2 (pc' := (if nI may = 0 then 4 else 24)) (lv' := [(0, .ref 166), (1, .int (nI p)), (2, .int (nI may)), (3, .int (nI safe))]) (st' := []) (h' := HN g hl (RF rt)) rfl ?_
  refine Ev.ite (fun hc1 => ?_) (fun hc1 => ?_)
  · have hc1 : may = 0 := (nI_eqU0 (by omega)).mp hc1
    refine Ev.run 4 (pc' := (if nI 12 ≤ nI (g 166 9) then 24 else 13)) (lv' := [(0, .ref 166), (1, .int (nI p)), (2, .int (nI may)), (3, .int (nI safe))]) (st' := []) (h' := HN g hl (RF rt)) rfl ?_
    refine Ev.ite (fun hc10 => ?_) (fun hc10 => ?_)
    · have hc10 : 12 ≤ (g 166 9) := (nI_leI (by omega) (by omega)).mp hc10
      refine Ev.run 3 (pc' := 27) (lv' := [(0, .ref 166), (1, .int (nI p)), (2, .int (nI may)), (3, .int (nI safe))]) (st' := [.int (nI safe), .int (nI may), .ref 166]) (h' := HN g hl (RF rt)) rfl ?_
      refine Ev.call (a := 182) (as := [.ref 166, .int (nI may), .int (nI safe)]) (rest := []) (lv0 := [(0, .ref 166), (1, .int (nI may)), (2, .int (nI safe))]) (Q1 := (fun z0 h' => z0 = some (.int (nI (plS may safe))) ∧ h' = HN g hl (RF rt))) rfl rfl (C_plainly _ _ _ _ may safe (by omega) (by omega) ⟨rfl, rfl⟩) (fun r h' hr => ?_)
      obtain ⟨rfl, rfl⟩ := hr
      refine Ev.ret (v := some (.int (nI (plS may safe)))) rfl ?_
      simp only [boS, if_pos hc1, if_pos hc10] at hq
      exact hq
    · have hc10 : ¬ (12 ≤ (g 166 9)) := fun z => hc10 ((nI_leI (by omega) (by omega)).mpr z)
      refine Ev.run 3 (pc' := 18) (lv' := [(0, .ref 166), (1, .int (nI p)), (2, .int (nI may)), (3, .int (nI safe))]) (st' := [.int (nI p), .ref 172]) (h' := HN g hl (RF rt)) rfl ?_
      refine Ev_iald rfl rfl (show p < 5 by omega) (Nat.le_of_ble_eq_true rfl) ?_
      have hr0 := hvv p (by omega)
      refine Ev.run 1 (pc' := 20) (lv' := [(0, .ref 166), (1, .int (nI p)), (2, .int (nI may)), (3, .int (nI safe))]) (st' := [.int (nI 4), .int (nI (g 172 p))]) (h' := HN g hl (RF rt)) rfl ?_
      refine Ev_irem rfl (by omega) (by omega) (by omega) ?_
      refine Ev.run 1 (pc' := 30) (lv' := [(0, .ref 166), (1, .int (nI p)), (2, .int (nI may)), (3, .int (nI safe))]) (st' := [.int (nI ((g 172 p) % 4))]) (h' := HN g hl (RF rt)) rfl ?_
      refine Ev.ret (v := some (.int (nI ((g 172 p) % 4)))) rfl ?_
      simp only [boS, if_pos hc1, if_neg hc10] at hq
      exact hq
  · have hc1 : ¬ (may = 0) := fun z => hc1 ((nI_eqU0 (by omega)).mpr z)
    refine Ev.run 3 (pc' := 27) (lv' := [(0, .ref 166), (1, .int (nI p)), (2, .int (nI may)), (3, .int (nI safe))]) (st' := [.int (nI safe), .int (nI may), .ref 166]) (h' := HN g hl (RF rt)) rfl ?_
    refine Ev.call (a := 182) (as := [.ref 166, .int (nI may), .int (nI safe)]) (rest := []) (lv0 := [(0, .ref 166), (1, .int (nI may)), (2, .int (nI safe))]) (Q1 := (fun z0 h' => z0 = some (.int (nI (plS may safe))) ∧ h' = HN g hl (RF rt))) rfl rfl (C_plainly _ _ _ _ may safe (by omega) (by omega) ⟨rfl, rfl⟩) (fun r h' hr => ?_)
    obtain ⟨rfl, rfl⟩ := hr
    refine Ev.ret (v := some (.int (nI (plS may safe)))) rfl ?_
    simp only [boS, if_neg hc1] at hq
    exact hq
theorem C_turner {L : Nat} {xs : Nat → Int32} (d : Nat) (g : Nat → Nat → Nat) (hl : Nat → Nat → Int64) (rt : Nat × Nat × Nat × Nat) (hI : MI g)  {Q : Po} (hq : Q (some (.int (nI (tnS g)))) (HN g hl (RF rt))) : Ev L xs (d + 1) 191 0 [(0, .ref 166)] [] (HN g hl (RF rt)) Q := by
  have hW := hI.hW
  have hS := hI.hS
  have hPl := hI.hPl
  have hNx := hI.hNx
  have hLa := hI.hLa
  have hLo := hI.hLo
  have hTb := hI.hTb
  have hTh := hI.hTh
  have hFd := hI.hFd
  have hSn := hI.hSn
  have hSh := hI.hSh
  have hRan := hI.hRan
  have hLr := hI.hLr
  have hLt := hI.hLt
  have hgl := hI.hgl
  have hsz := hI.hsz
  have hcm := hI.hcm
  have hsl := hI.hsl
  have hkd := hI.hkd
  have hvv := hI.hvv
  have hli := hI.hli
  have hro := hI.hro
  have hrw := hI.hrw
  have htx := hI.htx
  have hsw := hI.hsw
  have hsx := hI.hsx
  have hsy := hI.hsy
  have hsh := hI.hsh
  have hle := hI.hle
  have hcl := hI.hcl
  have hwd := hI.hwd
  have hnu := hI.hnu
  have hwn := hI.hwn
  have hs1 := hI.hs1
  have hso := hI.hso
  refine Ev.run 4 (pc' := 8) (lv' := [(0, .ref 166)]) (st' := [.int (nI (g 166 7)), .ref 173]) (h' := HN g hl (RF rt)) rfl ?_
  refine Ev_iald rfl rfl (show g 166 7 < 5 by omega) (Nat.le_of_ble_eq_true rfl) ?_
  have hr0 := hli (g 166 7) (by omega)
  refine Ev.run 1 (pc' := (if nI (g 173 (g 166 7)) ≤ 0 then 19 else 12)) (lv' := [(0, .ref 166)]) (st' := []) (h' := HN g hl (RF rt)) rfl ?_
  refine Ev.ite (fun hc9 => ?_) (fun hc9 => ?_)
  · have hc9 : (g 173 (g 166 7)) ≤ 0 := (nI_leI0 (by omega)).mp hc9
    refine Ev.run 3 (pc' := 24) (lv' := [(0, .ref 166)]) (st' := [.int (nI (g 166 7)), .ref 166]) (h' := HN g hl (RF rt)) rfl ?_
    refine Ev.call (a := 179) (as := [.ref 166, .int (nI (g 166 7))]) (rest := []) (lv0 := [(0, .ref 166), (1, .int (nI (g 166 7)))]) (Q1 := (fun z0 h' => z0 = some (.int (nI (nxS (g 173) (g 166 6) (g 166 7)))) ∧ h' = HN g hl (RF rt))) rfl rfl (C_nextOf _ _ _ _ hI (g 166 7) (by omega) ⟨rfl, rfl⟩) (fun r h' hr => ?_)
    obtain ⟨rfl, rfl⟩ := hr
    refine Ev.ret (v := some (.int (nI (nxS (g 173) (g 166 6) (g 166 7))))) rfl ?_
    simp only [tnS, if_pos hc9] at hq
    exact hq
  · have hc9 : ¬ ((g 173 (g 166 7)) ≤ 0) := fun z => hc9 ((nI_leI0 (by omega)).mpr z)
    refine Ev.run 3 (pc' := 27) (lv' := [(0, .ref 166)]) (st' := [.int (nI (g 166 7))]) (h' := HN g hl (RF rt)) rfl ?_
    refine Ev.ret (v := some (.int (nI (g 166 7)))) rfl ?_
    simp only [tnS, if_neg hc9] at hq
    exact hq
def rs_told (g : Nat → Nat → Nat) (x : Nat) : Nat := if 10 ≤ x ∧ x < 10 + g 166 9 then g 175 (x - 10) else if x = 0 then (if g 166 6 = 0 then 4294967291 else g 166 7) else if x = 1 then (if g 166 8 < 2147483648 then g 166 8 else 4294967291) else if x = 2 then g 166 9 else if x = 3 then lwS g 1 else if x = 4 then lwS g 2 else 4294967295
theorem C_told {L : Nat} {xs : Nat → Int32} (d : Nat) (g : Nat → Nat → Nat) (hl : Nat → Nat → Int64) (rt : Nat × Nat × Nat × Nat) (hI : MI g) (x : Nat) (hx : x < 2 ^ 32) {Q : Po} (hq : Q (some (.int (nI (rs_told g x)))) (HN g hl (RF rt))) : Ev L xs (d + 2) 196 0 [(0, .ref 166), (1, .int (nI x))] [] (HN g hl (RF rt)) Q := by
  have hW := hI.hW
  have hS := hI.hS
  have hPl := hI.hPl
  have hNx := hI.hNx
  have hLa := hI.hLa
  have hLo := hI.hLo
  have hTb := hI.hTb
  have hTh := hI.hTh
  have hFd := hI.hFd
  have hSn := hI.hSn
  have hSh := hI.hSh
  have hRan := hI.hRan
  have hLr := hI.hLr
  have hLt := hI.hLt
  have hgl := hI.hgl
  have hsz := hI.hsz
  have hcm := hI.hcm
  have hsl := hI.hsl
  have hkd := hI.hkd
  have hvv := hI.hvv
  have hli := hI.hli
  have hro := hI.hro
  have hrw := hI.hrw
  have htx := hI.htx
  have hsw := hI.hsw
  have hsx := hI.hsx
  have hsy := hI.hsy
  have hsh := hI.hsh
  have hle := hI.hle
  have hcl := hI.hcl
  have hwd := hI.hwd
  have hnu := hI.hnu
  have hwn := hI.hwn
  have hs1 := hI.hs1
  have hso := hI.hso
  refine Ev.run 7 (pc' := 11) (lv' := [(0, .ref 166), (1, .int (nI x))]) (st' := [.int (nI 9 + nI (g 166 9)), .int (nI 10), .int (nI x), .ref 166]) (h' := HN g hl (RF rt)) rfl ?_
  refine Ev.topI (nI_add _ _) ?_
  refine Ev.call (a := 126) (as := [.ref 166, .int (nI x), .int (nI 10), .int (nI (9 + (g 166 9)))]) (rest := []) (lv0 := [(0, .ref 166), (1, .int (nI x)), (2, .int (nI 10)), (3, .int (nI (9 + (g 166 9))))]) (Q1 := (fun z0 h' => z0 = some (.int (nI (bn (decide (10 ≤ x ∧ x < 10 + g 166 9))))) ∧ h' = HN g hl (RF rt))) rfl rfl (C_in _ _ _ _ (nI x) (nI 10) (nI (9 + (g 166 9))) (by rw [in10 (by omega) (by omega)]; exact ⟨rfl, rfl⟩)) (fun r h' hr => ?_)
  obtain ⟨rfl, rfl⟩ := hr
  refine Ev_bn (fun hb14 => ?_) (fun hb14 => ?_)
  · have hhb14 : 10 ≤ x ∧ x < 10 + g 166 9 := of_decide_eq_true hb14
    refine Ev.run 6 (pc' := 25) (lv' := [(0, .ref 166), (1, .int (nI x))]) (st' := [.int (nI x - nI 10), .ref 175]) (h' := HN g hl (RF rt)) rfl ?_
    refine Ev.topI (pk_sub (a := x) (b := 10) (by omega)) ?_
    refine Ev_iald rfl rfl (show x - 10 < 12 by omega) (Nat.le_of_ble_eq_true rfl) ?_
    have hr0 := hrw (x - 10) (by omega)
    refine Ev.ret (v := some (.int (nI (g 175 (x - 10))))) rfl ?_
    simp only [rs_told, if_pos hhb14] at hq
    exact hq
  · have hhb14 : ¬ (10 ≤ x ∧ x < 10 + g 166 9) := of_decide_eq_false hb14
    refine Ev.run 2 (pc' := 28) (lv' := [(0, .ref 166), (1, .int (nI x))]) (st' := [.int (nI x)]) (h' := HN g hl (RF rt)) rfl ?_
    by_cases hs28_0 : x = 0
    · refine Ev.topI (congrArg nI hs28_0) ?_
      refine Ev.run 4 (pc' := (if nI (g 166 6) = 0 then 71 else 76)) (lv' := [(0, .ref 166), (1, .int (nI x))]) (st' := []) (h' := HN g hl (RF rt)) rfl ?_
      refine Ev.ite (fun hc68 => ?_) (fun hc68 => ?_)
      · have hc68 : (g 166 6) = 0 := (nI_eqU0 (by omega)).mp hc68
        refine Ev.run 2 (pc' := 80) (lv' := [(0, .ref 166), (1, .int (nI x))]) (st' := [.int (nI 4294967291)]) (h' := HN g hl (RF rt)) rfl ?_
        refine Ev.ret (v := some (.int (nI 4294967291))) rfl ?_
        simp only [rs_told, if_neg hhb14, if_pos hs28_0, if_pos hc68] at hq
        exact hq
      · have hc68 : ¬ ((g 166 6) = 0) := fun z => hc68 ((nI_eqU0 (by omega)).mpr z)
        refine Ev.run 2 (pc' := 80) (lv' := [(0, .ref 166), (1, .int (nI x))]) (st' := [.int (nI (g 166 7))]) (h' := HN g hl (RF rt)) rfl ?_
        refine Ev.ret (v := some (.int (nI (g 166 7)))) rfl ?_
        simp only [rs_told, if_neg hhb14, if_pos hs28_0, if_neg hc68] at hq
        exact hq
    by_cases hs28_1 : x = 1
    · refine Ev.topI (congrArg nI hs28_1) ?_
      refine Ev.run 4 (pc' := (if 0 ≤ nI (g 166 8) then 93 else 88)) (lv' := [(0, .ref 166), (1, .int (nI x))]) (st' := []) (h' := HN g hl (RF rt)) rfl ?_
      refine Ev.ite (fun hc85 => ?_) (fun hc85 => ?_)
      · have hc85 : (g 166 8) < 2147483648 := (nI_geU0 (by omega)).mp hc85
        refine Ev.run 2 (pc' := 97) (lv' := [(0, .ref 166), (1, .int (nI x))]) (st' := [.int (nI (g 166 8))]) (h' := HN g hl (RF rt)) rfl ?_
        refine Ev.ret (v := some (.int (nI (g 166 8)))) rfl ?_
        simp only [rs_told, if_neg hhb14, if_neg hs28_0, if_pos hs28_1, if_pos hc85] at hq
        exact hq
      · have hc85 : ¬ ((g 166 8) < 2147483648) := fun z => hc85 ((nI_geU0 (by omega)).mpr z)
        refine Ev.run 2 (pc' := 97) (lv' := [(0, .ref 166), (1, .int (nI x))]) (st' := [.int (nI 4294967291)]) (h' := HN g hl (RF rt)) rfl ?_
        refine Ev.ret (v := some (.int (nI 4294967291))) rfl ?_
        simp only [rs_told, if_neg hhb14, if_neg hs28_0, if_pos hs28_1, if_neg hc85] at hq
        exact hq
    by_cases hs28_2 : x = 2
    · refine Ev.topI (congrArg nI hs28_2) ?_
      refine Ev.run 3 (pc' := 102) (lv' := [(0, .ref 166), (1, .int (nI x))]) (st' := [.int (nI (g 166 9))]) (h' := HN g hl (RF rt)) rfl ?_
      refine Ev.ret (v := some (.int (nI (g 166 9)))) rfl ?_
      simp only [rs_told, if_neg hhb14, if_neg hs28_0, if_neg hs28_1, if_pos hs28_2] at hq
      exact hq
    by_cases hs28_3 : x = 3
    · refine Ev.topI (congrArg nI hs28_3) ?_
      refine Ev.run 3 (pc' := 105) (lv' := [(0, .ref 166), (1, .int (nI x))]) (st' := [.int (nI 1), .ref 166]) (h' := HN g hl (RF rt)) rfl ?_
      refine Ev.call (a := 158) (as := [.ref 166, .int (nI 1)]) (rest := []) (lv0 := [(0, .ref 166), (1, .int (nI 1))]) (Q1 := (fun z0 h' => z0 = some (.int (nI (lwS g 1))) ∧ h' = HN g hl (RF rt))) rfl rfl (C_lastOf _ _ _ _ hI 1 (by omega) ⟨rfl, rfl⟩) (fun r h' hr => ?_)
      obtain ⟨rfl, rfl⟩ := hr
      have hlw := lwS_le hI 1
      refine Ev.ret (v := some (.int (nI (lwS g 1)))) rfl ?_
      simp only [rs_told, if_neg hhb14, if_neg hs28_0, if_neg hs28_1, if_neg hs28_2, if_pos hs28_3] at hq
      exact hq
    by_cases hs28_4 : x = 4
    · refine Ev.topI (congrArg nI hs28_4) ?_
      refine Ev.run 3 (pc' := 111) (lv' := [(0, .ref 166), (1, .int (nI x))]) (st' := [.int (nI 2), .ref 166]) (h' := HN g hl (RF rt)) rfl ?_
      refine Ev.call (a := 158) (as := [.ref 166, .int (nI 2)]) (rest := []) (lv0 := [(0, .ref 166), (1, .int (nI 2))]) (Q1 := (fun z0 h' => z0 = some (.int (nI (lwS g 2))) ∧ h' = HN g hl (RF rt))) rfl rfl (C_lastOf _ _ _ _ hI 2 (by omega) ⟨rfl, rfl⟩) (fun r h' hr => ?_)
      obtain ⟨rfl, rfl⟩ := hr
      have hlw := lwS_le hI 2
      refine Ev.ret (v := some (.int (nI (lwS g 2)))) rfl ?_
      simp only [rs_told, if_neg hhb14, if_neg hs28_0, if_neg hs28_1, if_neg hs28_2, if_neg hs28_3, if_pos hs28_4] at hq
      exact hq
    refine Ev_tsOut (tgt := 115) rfl (sw_out (x := x) (hi := 4) (by omega) (by omega) (by omega)) rfl ?_
    refine Ev.run 1 (pc' := 116) (lv' := [(0, .ref 166), (1, .int (nI x))]) (st' := [.int (nI 4294967295)]) (h' := HN g hl (RF rt)) rfl ?_
    refine Ev.ret (v := some (.int (nI 4294967295))) rfl ?_
    simp only [rs_told, if_neg hhb14, if_neg hs28_0, if_neg hs28_1, if_neg hs28_2, if_neg hs28_3, if_neg hs28_4] at hq
    exact hq
def foF (lv : Nat → Nat) (e : Nat) : Nat → Nat → Nat
  | 0, _ => e
  | f + 1, p => if lv p = 0 then p else foF lv e f (p + 1)
/-- the first of P of whom lv says 0; e if there is none -/
def foS (lv : Nat → Nat) (e P : Nat) : Nat := foF lv e P 0
theorem foF_s (lv : Nat → Nat) (e P n : Nat) (h : n < P) (h2 : ¬ lv n = 0) : foF lv e (P - (n + 1)) (n + 1) = foF lv e (P - n) n := by
  rw [show P - n = (P - (n + 1)) + 1 by omega]
  show _ = (if _ then _ else _)
  rw [if_neg h2]
theorem foF_e (lv : Nat → Nat) (e P n : Nat) (h : n < P) (h2 : lv n = 0) : foF lv e (P - n) n = n := by
  rw [show P - n = (P - (n + 1)) + 1 by omega]
  show (if _ then _ else _) = _
  rw [if_pos h2]
theorem C_firstOut {L : Nat} {xs : Nat → Int32} (d : Nat) (g : Nat → Nat → Nat) (hl : Nat → Nat → Int64) (rt : Nat × Nat × Nat × Nat) (hI : MI g)  {Q : Po} (hq : Q (some (.int (nI (foS (g 173) 4294967291 (g 166 6))))) (HN g hl (RF rt))) : Ev L xs d 207 0 [(0, .ref 166)] [] (HN g hl (RF rt)) Q := by
  have hW := hI.hW
  have hS := hI.hS
  have hPl := hI.hPl
  have hNx := hI.hNx
  have hLa := hI.hLa
  have hLo := hI.hLo
  have hTb := hI.hTb
  have hTh := hI.hTh
  have hFd := hI.hFd
  have hSn := hI.hSn
  have hSh := hI.hSh
  have hRan := hI.hRan
  have hLr := hI.hLr
  have hLt := hI.hLt
  have hgl := hI.hgl
  have hsz := hI.hsz
  have hcm := hI.hcm
  have hsl := hI.hsl
  have hkd := hI.hkd
  have hvv := hI.hvv
  have hli := hI.hli
  have hro := hI.hro
  have hrw := hI.hrw
  have htx := hI.htx
  have hsw := hI.hsw
  have hsx := hI.hsx
  have hsy := hI.hsy
  have hsh := hI.hsh
  have hle := hI.hle
  have hcl := hI.hcl
  have hwd := hI.hwd
  have hnu := hI.hnu
  have hwn := hI.hwn
  have hs1 := hI.hs1
  have hso := hI.hso
  refine Ev.run 2 (pc' := 2) (lv' := [(1, .int (nI 0)), (0, .ref 166)]) (st' := []) (h' := HN g hl (RF rt)) rfl ?_
  refine for_ind (g 166 6) (fun n => foF (g 173) 4294967291 (g 166 6 - n) n = foS (g 173) 4294967291 (g 166 6) → Ev L xs d 207 2 [(1, .int (nI n)), (0, .ref 166)] [] (HN g hl (RF rt)) Q) (fun n hn hnext ha => ?_) 0 (Nat.zero_le _) rfl
  refine Ev.run 4 (pc' := (if nI (g 166 6) ≤ nI n then 27 else 10)) (lv' := [(1, .int (nI n)), (0, .ref 166)]) (st' := []) (h' := HN g hl (RF rt)) rfl ?_
  refine Ev.ite (fun hc7 => ?_) (fun hc7 => ?_)
  · have hc7 : (g 166 6) ≤ n := (nI_leI (by omega) (by omega)).mp hc7
    refine Ev.run 1 (pc' := 29) (lv' := [(1, .int (nI n)), (0, .ref 166)]) (st' := [.int (nI 4294967291)]) (h' := HN g hl (RF rt)) rfl ?_
    refine Ev.ret (v := some (.int (nI 4294967291))) rfl ?_
    first
      | (rw [foF_e _ _ _ _ (by omega) hc16] at ha
         rw [← ha] at hq
         exact hq)
      | (obtain rfl : n = g 166 6 := by omega
         rw [Nat.sub_self] at ha
         rw [← ha] at hq
         exact hq)
  · have hc7 : ¬ ((g 166 6) ≤ n) := fun z => hc7 ((nI_leI (by omega) (by omega)).mpr z)
    refine Ev.run 3 (pc' := 15) (lv' := [(1, .int (nI n)), (0, .ref 166)]) (st' := [.int (nI n), .ref 173]) (h' := HN g hl (RF rt)) rfl ?_
    refine Ev_iald rfl rfl (show n < 5 by omega) (Nat.le_of_ble_eq_true rfl) ?_
    have hr0 := hli n (by omega)
    refine Ev.run 1 (pc' := (if nI (g 173 n) = 0 then 19 else 21)) (lv' := [(1, .int (nI n)), (0, .ref 166)]) (st' := []) (h' := HN g hl (RF rt)) rfl ?_
    refine Ev.ite (fun hc16 => ?_) (fun hc16 => ?_)
    · have hc16 : (g 173 n) = 0 := (nI_eqU0 (by omega)).mp hc16
      refine Ev.run 1 (pc' := 20) (lv' := [(1, .int (nI n)), (0, .ref 166)]) (st' := [.int (nI n)]) (h' := HN g hl (RF rt)) rfl ?_
      refine Ev.ret (v := some (.int (nI n))) rfl ?_
      first
        | (rw [foF_e _ _ _ _ (by omega) hc16] at ha
           rw [← ha] at hq
           exact hq)
        | (obtain rfl : n = g 166 6 := by omega
           rw [Nat.sub_self] at ha
           rw [← ha] at hq
           exact hq)
    · have hc16 : ¬ ((g 173 n) = 0) := fun z => hc16 ((nI_eqU0 (by omega)).mpr z)
      refine Ev.run 1 (pc' := 24) (lv' := [(1, .int (nI n + 1)), (0, .ref 166)]) (st' := []) (h' := HN g hl (RF rt)) rfl ?_
      refine Ev.lvE (congrArg (fun z => (1, Value.int z) :: [(0, .ref 166)]) (nI_1 _)) ?_
      refine Ev.run 1 (pc' := 2) (lv' := [(1, .int (nI (n + 1))), (0, .ref 166)]) (st' := []) (h' := HN g hl (RF rt)) rfl ?_
      exact hnext (by omega) (by rw [foF_s _ _ _ _ (by omega) hc16]; exact ha)
