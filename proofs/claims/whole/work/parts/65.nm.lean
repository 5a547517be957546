/-! the class: what one does -/
theorem sh_pl (rt : Nat × Nat × Nat × Nat) : ∀ i, i < 5 → SH (60 + 2 * i) = (4, 4) ∧ SH (60 + 2 * i + 1) = (11, 4) ∧ RF rt 43 i = some (60 + 2 * i) ∧ RF rt (60 + 2 * i) 0 = some (60 + 2 * i + 1) := by
  intro i hi
  rcases (show i = 0 ∨ i = 1 ∨ i = 2 ∨ i = 3 ∨ i = 4 by omega) with rfl | rfl | rfl | rfl | rfl <;> exact ⟨rfl, rfl, rfl, rfl⟩
theorem kcP {i : Nat} (hi : i < 5) : KC (60 + 2 * i) 4 4 := ⟨by omega, (sh_pl (0, 0, 0, 0) i hi).1⟩
theorem kcQ {i : Nat} (hi : i < 5) : KC (60 + 2 * i + 1) 11 4 := ⟨by omega, (sh_pl (0, 0, 0, 0) i hi).2.1⟩
/-- the players are the reference's -/
def CPl (g : Nat → Nat → Nat) : Prop := (∀ i, i < 5 → g (60 + 2 * i) 2 = g 171 i ∧ g (60 + 2 * i) 3 = g 172 i) ∧ (∀ i k, i < 5 → k < 4 → g (60 + 2 * i + 1) k = g 174 (4 * i + k)) ∧ ∀ i, i < g 166 6 → g (60 + 2 * i) 1 = i
def XL (g : Nat → Nat → Nat) (n : Nat) : Nat := if n + 1 ≤ 6 then g 18 (n + 1) else 0
noncomputable def mayC (g : Nat → Nat → Nat) (x1 x2 : Nat → Nat) (who : Nat) : Nat := goB g (ftX g x1 x2 (x1 1) &&& g 59 who) (x1 1)
noncomputable def safC (g : Nat → Nat → Nat) (x1 x2 : Nat → Nat) (who y : Nat) : Nat := neB g (ftX g x1 x2 (x1 1)) (x1 1) (mayC g x1 x2 who) y
noncomputable def ldC (g : Nat → Nat → Nat) (x1 x2 : Nat → Nat) (who y : Nat) : Nat := if g 171 who = 4 then safC g x1 x2 who y &&& wiF g (ftX g x1 x2 (x1 1)) (x1 1) y (XL g (x1 1)) else 0
noncomputable def chC (g : Nat → Nat → Nat) (x0 x1 x2 x3 : Nat → Nat) (who y : Nat) : Nat := if g 171 who = 6 ∧ (mayC g x1 x2 who).testBit (g 174 (4 * who + x1 1 % 4)) = true then g 174 (4 * who + x1 1 % 4) else if ldC g x1 x2 who y = 0 then (if safC g x1 x2 who y = 0 then (if undS (g 171 who) 2 = true ∧ x0 3 < 2147483648 then 10 else if mayC g x1 x2 who = 0 then (if undS (g 171 who) 3 = true ∧ x1 1 < 12 then g 172 who % 4 else 10) else frS (mayC g x1 x2 who)) else if undS (g 171 who) 1 = true then syC g x1 x3 who (ftX g x1 x2 (x1 1)) (safC g x1 x2 who y) else frS (safC g x1 x2 who y)) else frS (ldC g x1 x2 who y)
theorem K44_choose {L : Nat} {xs : Nat → Int32} (d : Nat) (g : Nat → Nat → Nat) (hl : Nat → Nat → Int64) (rt : Nat × Nat × Nat × Nat) (hI : MI g) (hB : CB g) (hP5 : g 12 2 ≤ 5) (y : Nat) (hT : TbC g rt y) (hk59 : ∀ j, j < 5 → g 59 j < 4096) (hlo : ∀ j, j < 7 → g 18 j < 4096) (hPl : CPl g) (x0 x1 x2 x3 : Nat → Nat) (hx3 : ∀ j, j < 5 → x3 j ≤ 99) (hn12 : x1 1 ≤ 12) (hr : ∀ k, k < x1 1 → x2 k ≤ 3) (hx0 : x0 2 ≤ 4) (hx03 : x0 3 ≤ 4 ∨ x0 3 = 4294967295) (who : Nat) (hwho : who < 5) {Q : Po} (hq : Q (some (.int (nI (chC g x0 x1 x2 x3 who y)))) (HN (RO g 44 x0 x1 x2 x3) hl (RF rt))) : Ev L xs (d + 5) 39 0 [(0, .ref 12), (1, .ref 44), (2, .int (nI who))] [] (HN (RO g 44 x0 x1 x2 x3) hl (RF rt)) Q := by
  have hyy := hT.2.1
  have hkd := hI.hkd
  have hvv := hI.hvv
  have hro := hI.hro
  refine Ev.run 3 (pc' := 5) (lv' := [(0, .ref 12), (1, .ref 44), (2, .int (nI who))]) (st' := [.int (nI who), .ref 43]) (h' := HN (RO g 44 x0 x1 x2 x3) hl (RF rt)) rfl ?_
  refine Ev_aald (c := (60 + 2 * who)) rfl (by decide) rfl (show who < 5 by omega) (Nat.le_of_ble_eq_true rfl) (sh_pl rt who hwho).2.2.1 ?_
  have hkdw := hkd who hwho
  have hvvw := hvv who hwho
  have hrow := hro (4 * who + x1 1 % 4) (by omega)
  have hkn := hk59 who hwho
  refine Ev.run 10 (pc' := 26) (lv' := [(4, .int (nI (x1 1))), (3, .ref (60 + 2 * who)), (0, .ref 12), (1, .ref 44), (2, .int (nI who))]) (st' := [.int (nI (x1 1)), .ref 45, .ref 13]) (h' := HN (RO g 44 x0 x1 x2 x3) hl (RF rt)) rfl ?_
  refine Ev.call (a := 13) (as := [.ref 13, .ref 45, .int (nI (x1 1))]) (rest := []) (lv0 := [(0, .ref 13), (1, .ref 45), (2, .int (nI (x1 1)))]) (Q1 := (fun z0 h' => z0 = some (.int (nI (ftX g x1 x2 (x1 1)))) ∧ h' = HN (RO g 44 x0 x1 x2 x3) hl (RF rt))) rfl rfl (K_fitting _ (RO g 44 x0 x1 x2 x3) _ _ (hI.mRO (by decide)) (hB.cRO (by decide)) 45 12 (ln45 rt) (x1 1) (by omega) (show x1 1 ≤ 12 by omega) (fun k => atX_lt hr k) ⟨rfl, rfl⟩) (fun r h' hr => ?_)
  obtain ⟨rfl, rfl⟩ := hr
  have hftx : ftX g x1 x2 (x1 1) < 4096 := bset_12 _ hI.hW
  refine Ev.run 7 (pc' := 42) (lv' := [(5, .int (nI (ftX g x1 x2 (x1 1)))), (4, .int (nI (x1 1))), (3, .ref (60 + 2 * who)), (0, .ref 12), (1, .ref 44), (2, .int (nI who))]) (st' := [.int (nI who), .ref 59, .int (nI (ftX g x1 x2 (x1 1))), .ref 13]) (h' := HN (RO g 44 x0 x1 x2 x3) hl (RF rt)) rfl ?_
  refine Ev_iald rfl rfl (show who < 5 by omega) (Nat.le_of_ble_eq_true rfl) ?_
  have hand := and_le (ftX g x1 x2 (x1 1)) (g 59 who)
  refine Ev.run 1 (pc' := 44) (lv' := [(5, .int (nI (ftX g x1 x2 (x1 1)))), (4, .int (nI (x1 1))), (3, .ref (60 + 2 * who)), (0, .ref 12), (1, .ref 44), (2, .int (nI who))]) (st' := [.int (nI (ftX g x1 x2 (x1 1)) &&& nI (g 59 who)), .ref 13]) (h' := HN (RO g 44 x0 x1 x2 x3) hl (RF rt)) rfl ?_
  refine Ev.topI (nIa _ _) ?_
  refine Ev.run 1 (pc' := 46) (lv' := [(5, .int (nI (ftX g x1 x2 (x1 1)))), (4, .int (nI (x1 1))), (3, .ref (60 + 2 * who)), (0, .ref 12), (1, .ref 44), (2, .int (nI who))]) (st' := [.int (nI (x1 1)), .int (nI ((ftX g x1 x2 (x1 1)) &&& (g 59 who))), .ref 13]) (h' := HN (RO g 44 x0 x1 x2 x3) hl (RF rt)) rfl ?_
  refine Ev.call (a := 16) (as := [.ref 13, .int (nI ((ftX g x1 x2 (x1 1)) &&& (g 59 who))), .int (nI (x1 1))]) (rest := []) (lv0 := [(0, .ref 13), (1, .int (nI ((ftX g x1 x2 (x1 1)) &&& (g 59 who)))), (2, .int (nI (x1 1)))]) (Q1 := (fun z0 h' => z0 = some (.int (nI (mayC g x1 x2 who))) ∧ h' = HN (RO g 44 x0 x1 x2 x3) hl (RF rt))) rfl rfl (K_going _ (RO g 44 x0 x1 x2 x3) _ _ (hI.mRO (by decide)) (hB.cRO (by decide)) ((ftX g x1 x2 (x1 1)) &&& (g 59 who)) (by omega) (x1 1) (by omega) ⟨rfl, rfl⟩) (fun r h' hr => ?_)
  obtain ⟨rfl, rfl⟩ := hr
  have hmay : mayC g x1 x2 who < 16 := bset_lt _ 4
  refine Ev.run 8 (pc' := 65) (lv' := [(6, .int (nI (mayC g x1 x2 who))), (5, .int (nI (ftX g x1 x2 (x1 1)))), (4, .int (nI (x1 1))), (3, .ref (60 + 2 * who)), (0, .ref 12), (1, .ref 44), (2, .int (nI who))]) (st' := [.ref rt.2.2.1, .int (nI (mayC g x1 x2 who)), .int (nI (x1 1)), .int (nI (ftX g x1 x2 (x1 1))), .ref 13]) (h' := HN (RO g 44 x0 x1 x2 x3) hl (RF rt)) rfl ?_
  refine Ev_gfI rfl rfl rfl hT.1 ?_
  refine Ev.topI (congrArg nI ((RO_ne g 44 _ _ _ _ (fun k hk => by have := hT.2.2.2 k hk; omega) 3).trans hT.2.2.1)) ?_
  refine Ev.call (a := 17) (as := [.ref 13, .int (nI (ftX g x1 x2 (x1 1))), .int (nI (x1 1)), .int (nI (mayC g x1 x2 who)), .int (nI y)]) (rest := []) (lv0 := [(0, .ref 13), (1, .int (nI (ftX g x1 x2 (x1 1)))), (2, .int (nI (x1 1))), (3, .int (nI (mayC g x1 x2 who))), (4, .int (nI y))]) (Q1 := (fun z0 h' => z0 = some (.int (nI (safC g x1 x2 who y))) ∧ h' = HN (RO g 44 x0 x1 x2 x3) hl (RF rt))) rfl rfl (K_notEnding _ (RO g 44 x0 x1 x2 x3) _ _ (hI.mRO (by decide)) (hB.cRO (by decide)) (ftX g x1 x2 (x1 1)) (by omega) (x1 1) (by omega) (mayC g x1 x2 who) y (by omega) (by omega) ⟨rfl, rfl⟩) (fun r h' hr => ?_)
  obtain ⟨rfl, rfl⟩ := hr
  have hsaf : safC g x1 x2 who y < 16 := bset_lt _ 4
  refine Ev.run 2 (pc' := 74) (lv' := [(7, .int (nI (safC g x1 x2 who y))), (6, .int (nI (mayC g x1 x2 who))), (5, .int (nI (ftX g x1 x2 (x1 1)))), (4, .int (nI (x1 1))), (3, .ref (60 + 2 * who)), (0, .ref 12), (1, .ref 44), (2, .int (nI who))]) (st' := [.ref (60 + 2 * who)]) (h' := HN (RO g 44 x0 x1 x2 x3) hl (RF rt)) rfl ?_
  refine Ev_gfR rfl rfl rfl (kcP hwho) (sh_pl rt who hwho).2.2.2 ?_
  refine Ev.run 2 (pc' := 80) (lv' := [(7, .int (nI (safC g x1 x2 who y))), (6, .int (nI (mayC g x1 x2 who))), (5, .int (nI (ftX g x1 x2 (x1 1)))), (4, .int (nI (x1 1))), (3, .ref (60 + 2 * who)), (0, .ref 12), (1, .ref 44), (2, .int (nI who))]) (st' := [.int (nI 4), .int (nI (x1 1)), .ref (60 + 2 * who + 1)]) (h' := HN (RO g 44 x0 x1 x2 x3) hl (RF rt)) rfl ?_
  refine Ev_irem rfl (by omega) (by omega) (by omega) ?_
  refine Ev_iald rfl (kcQ hwho).k (show _ < _ by rw [(kcQ hwho).n]; omega) (by rw [(kcQ hwho).n]; omega) ?_
  refine Ev.topI (congrArg nI ((RO_ne g 44 _ _ _ _ (fun k hk => by omega) _).trans (hPl.2.1 who _ hwho (by omega)))) ?_
  refine Ev.run 2 (pc' := 85) (lv' := [(8, .int (nI (g 174 (4 * who + x1 1 % 4)))), (7, .int (nI (safC g x1 x2 who y))), (6, .int (nI (mayC g x1 x2 who))), (5, .int (nI (ftX g x1 x2 (x1 1)))), (4, .int (nI (x1 1))), (3, .ref (60 + 2 * who)), (0, .ref 12), (1, .ref 44), (2, .int (nI who))]) (st' := [.ref (60 + 2 * who)]) (h' := HN (RO g 44 x0 x1 x2 x3) hl (RF rt)) rfl ?_
  refine Ev_gfI rfl rfl rfl (kcP hwho) ?_
  refine Ev.topI (congrArg nI ((RO_ne g 44 _ _ _ _ (fun k hk => by omega) 2).trans (hPl.1 who hwho).1)) ?_
  refine Ev.run 2 (pc' := (if nI (g 171 who) = nI 6 then 93 else 106)) (lv' := [(8, .int (nI (g 174 (4 * who + x1 1 % 4)))), (7, .int (nI (safC g x1 x2 who y))), (6, .int (nI (mayC g x1 x2 who))), (5, .int (nI (ftX g x1 x2 (x1 1)))), (4, .int (nI (x1 1))), (3, .ref (60 + 2 * who)), (0, .ref 12), (1, .ref 44), (2, .int (nI who))]) (st' := []) (h' := HN (RO g 44 x0 x1 x2 x3) hl (RF rt)) rfl ?_
  refine Ev.ite (fun hc90 => ?_) (fun hc90 => ?_)
  · have hc90 : (g 171 who) = 6 := (nI_eqU (by omega) (by omega)).mp hc90
    refine Ev.run 2 (pc' := 97) (lv' := [(8, .int (nI (g 174 (4 * who + x1 1 % 4)))), (7, .int (nI (safC g x1 x2 who y))), (6, .int (nI (mayC g x1 x2 who))), (5, .int (nI (ftX g x1 x2 (x1 1)))), (4, .int (nI (x1 1))), (3, .ref (60 + 2 * who)), (0, .ref 12), (1, .ref 44), (2, .int (nI who))]) (st' := [.int (nI (g 174 (4 * who + x1 1 % 4))), .int (nI (mayC g x1 x2 who))]) (h' := HN (RO g 44 x0 x1 x2 x3) hl (RF rt)) rfl ?_
    refine Ev.call (a := 122) (as := [.int (nI (mayC g x1 x2 who)), .int (nI (g 174 (4 * who + x1 1 % 4)))]) (rest := []) (lv0 := [(0, .int (nI (mayC g x1 x2 who))), (1, .int (nI (g 174 (4 * who + x1 1 % 4))))]) (Q1 := (fun z0 h' => z0 = some (.int (nI (bn (Nat.testBit (mayC g x1 x2 who) (g 174 (4 * who + x1 1 % 4)))))) ∧ h' = HN (RO g 44 x0 x1 x2 x3) hl (RF rt))) rfl rfl (K_isIn _ _ _ _ (mayC g x1 x2 who) (g 174 (4 * who + x1 1 % 4)) (by omega) (by omega) ⟨rfl, rfl⟩) (fun r h' hr => ?_)
    obtain ⟨rfl, rfl⟩ := hr
    refine Ev_bn (fun hb100 => ?_) (fun hb100 => ?_)
    · skip
      refine Ev.run 2 (pc' := 105) (lv' := [(8, .int (nI (g 174 (4 * who + x1 1 % 4)))), (7, .int (nI (safC g x1 x2 who y))), (6, .int (nI (mayC g x1 x2 who))), (5, .int (nI (ftX g x1 x2 (x1 1)))), (4, .int (nI (x1 1))), (3, .ref (60 + 2 * who)), (0, .ref 12), (1, .ref 44), (2, .int (nI who))]) (st' := [.int (nI (g 174 (4 * who + x1 1 % 4)))]) (h' := HN (RO g 44 x0 x1 x2 x3) hl (RF rt)) rfl ?_
      refine Ev.ret (v := some (.int (nI (g 174 (4 * who + x1 1 % 4))))) rfl ?_
      have e : chC g x0 x1 x2 x3 who y = g 174 (4 * who + x1 1 % 4) := by
        unfold chC
        rw [if_pos ⟨hc90, hb100⟩]
      rw [e] at hq
      exact hq
    · skip
      refine Ev.run 2 (pc' := 107) (lv' := [(8, .int (nI (g 174 (4 * who + x1 1 % 4)))), (7, .int (nI (safC g x1 x2 who y))), (6, .int (nI (mayC g x1 x2 who))), (5, .int (nI (ftX g x1 x2 (x1 1)))), (4, .int (nI (x1 1))), (3, .ref (60 + 2 * who)), (0, .ref 12), (1, .ref 44), (2, .int (nI who))]) (st' := [.ref (60 + 2 * who)]) (h' := HN (RO g 44 x0 x1 x2 x3) hl (RF rt)) rfl ?_
      refine Ev_gfI rfl rfl rfl (kcP hwho) ?_
      refine Ev.topI (congrArg nI ((RO_ne g 44 _ _ _ _ (fun k hk => by omega) 2).trans (hPl.1 who hwho).1)) ?_
      refine Ev.run 2 (pc' := (if nI (g 171 who) = nI 4 then 114 else 138)) (lv' := [(8, .int (nI (g 174 (4 * who + x1 1 % 4)))), (7, .int (nI (safC g x1 x2 who y))), (6, .int (nI (mayC g x1 x2 who))), (5, .int (nI (ftX g x1 x2 (x1 1)))), (4, .int (nI (x1 1))), (3, .ref (60 + 2 * who)), (0, .ref 12), (1, .ref 44), (2, .int (nI who))]) (st' := []) (h' := HN (RO g 44 x0 x1 x2 x3) hl (RF rt)) rfl ?_
      refine Ev.ite (fun hc111 => ?_) (fun hc111 => ?_)
      · have hc111 : (g 171 who) = 4 := (nI_eqU (by omega) (by omega)).mp hc111
        refine Ev.run 7 (pc' := 128) (lv' := [(8, .int (nI (g 174 (4 * who + x1 1 % 4)))), (7, .int (nI (safC g x1 x2 who y))), (6, .int (nI (mayC g x1 x2 who))), (5, .int (nI (ftX g x1 x2 (x1 1)))), (4, .int (nI (x1 1))), (3, .ref (60 + 2 * who)), (0, .ref 12), (1, .ref 44), (2, .int (nI who))]) (st' := [.ref rt.2.2.1, .int (nI (x1 1)), .int (nI (ftX g x1 x2 (x1 1))), .ref 13, .int (nI (safC g x1 x2 who y))]) (h' := HN (RO g 44 x0 x1 x2 x3) hl (RF rt)) rfl ?_
        refine Ev_gfI rfl rfl rfl hT.1 ?_
        refine Ev.topI (congrArg nI ((RO_ne g 44 _ _ _ _ (fun k hk => by have := hT.2.2.2 k hk; omega) 3).trans hT.2.2.1)) ?_
        refine Ev.call (a := 19) (as := [.ref 13, .int (nI (ftX g x1 x2 (x1 1))), .int (nI (x1 1)), .int (nI y)]) (rest := [.int (nI (safC g x1 x2 who y))]) (lv0 := [(0, .ref 13), (1, .int (nI (ftX g x1 x2 (x1 1)))), (2, .int (nI (x1 1))), (3, .int (nI y))]) (Q1 := (fun z0 h' => z0 = some (.int (nI (wiF g (ftX g x1 x2 (x1 1)) (x1 1) y (XL g (x1 1))))) ∧ h' = HN (RO g 44 x0 x1 x2 x3) hl (RF rt))) rfl rfl (K_winning _ (RO g 44 x0 x1 x2 x3) _ _ (hI.mRO (by decide)) (hB.cRO (by decide)) (ftX g x1 x2 (x1 1)) (by omega) (x1 1) y (XL g (x1 1)) (by omega) (by omega) (fun h => (if_pos h).symm) (fun h => if_neg (by omega)) (by unfold XL; split <;> first | exact hlo _ (by omega) | decide) ⟨rfl, rfl⟩) (fun r h' hr => ?_)
        obtain ⟨rfl, rfl⟩ := hr
        have hwif : wiF g (ftX g x1 x2 (x1 1)) (x1 1) y (XL g (x1 1)) < 16 := bset_lt _ 4
        have hlan := and_le (safC g x1 x2 who y) (wiF g (ftX g x1 x2 (x1 1)) (x1 1) y (XL g (x1 1)))
        refine Ev.run 1 (pc' := 135) (lv' := [(8, .int (nI (g 174 (4 * who + x1 1 % 4)))), (7, .int (nI (safC g x1 x2 who y))), (6, .int (nI (mayC g x1 x2 who))), (5, .int (nI (ftX g x1 x2 (x1 1)))), (4, .int (nI (x1 1))), (3, .ref (60 + 2 * who)), (0, .ref 12), (1, .ref 44), (2, .int (nI who))]) (st' := [.int (nI (safC g x1 x2 who y) &&& nI (wiF g (ftX g x1 x2 (x1 1)) (x1 1) y (XL g (x1 1))))]) (h' := HN (RO g 44 x0 x1 x2 x3) hl (RF rt)) rfl ?_
        refine Ev.topI (nIa _ _) ?_
        refine Ev.run 1 (pc' := 139) (lv' := [(8, .int (nI (g 174 (4 * who + x1 1 % 4)))), (7, .int (nI (safC g x1 x2 who y))), (6, .int (nI (mayC g x1 x2 who))), (5, .int (nI (ftX g x1 x2 (x1 1)))), (4, .int (nI (x1 1))), (3, .ref (60 + 2 * who)), (0, .ref 12), (1, .ref 44), (2, .int (nI who))]) (st' := [.int (nI ((safC g x1 x2 who y) &&& (wiF g (ftX g x1 x2 (x1 1)) (x1 1) y (XL g (x1 1)))))]) (h' := HN (RO g 44 x0 x1 x2 x3) hl (RF rt)) rfl ?_
        refine Ev.topI (congrArg nI (show (safC g x1 x2 who y) &&& (wiF g (ftX g x1 x2 (x1 1)) (x1 1) y (XL g (x1 1))) = ldC g x1 x2 who y by unfold ldC; first | rw [if_pos hc111] | rw [if_neg hc111])) ?_
        have hldc : ldC g x1 x2 who y < 16 := by unfold ldC; first | (rw [if_pos hc111]; omega) | (rw [if_neg hc111]; decide)
        refine Ev.run 3 (pc' := (if nI (ldC g x1 x2 who y) = 0 then 152 else 146)) (lv' := [(9, .int (nI (ldC g x1 x2 who y))), (8, .int (nI (g 174 (4 * who + x1 1 % 4)))), (7, .int (nI (safC g x1 x2 who y))), (6, .int (nI (mayC g x1 x2 who))), (5, .int (nI (ftX g x1 x2 (x1 1)))), (4, .int (nI (x1 1))), (3, .ref (60 + 2 * who)), (0, .ref 12), (1, .ref 44), (2, .int (nI who))]) (st' := []) (h' := HN (RO g 44 x0 x1 x2 x3) hl (RF rt)) rfl ?_
        refine Ev.ite (fun hc143 => ?_) (fun hc143 => ?_)
        · have hc143 : (ldC g x1 x2 who y) = 0 := (nI_eqU0 (by omega)).mp hc143
          refine Ev.run 2 (pc' := (if nI (safC g x1 x2 who y) = 0 then 187 else 157)) (lv' := [(9, .int (nI (ldC g x1 x2 who y))), (8, .int (nI (g 174 (4 * who + x1 1 % 4)))), (7, .int (nI (safC g x1 x2 who y))), (6, .int (nI (mayC g x1 x2 who))), (5, .int (nI (ftX g x1 x2 (x1 1)))), (4, .int (nI (x1 1))), (3, .ref (60 + 2 * who)), (0, .ref 12), (1, .ref 44), (2, .int (nI who))]) (st' := []) (h' := HN (RO g 44 x0 x1 x2 x3) hl (RF rt)) rfl ?_
          refine Ev.ite (fun hc154 => ?_) (fun hc154 => ?_)
          · have hc154 : (safC g x1 x2 who y) = 0 := (nI_eqU0 (by omega)).mp hc154
            refine Ev.run 1 (pc' := 188) (lv' := [(9, .int (nI (ldC g x1 x2 who y))), (8, .int (nI (g 174 (4 * who + x1 1 % 4)))), (7, .int (nI (safC g x1 x2 who y))), (6, .int (nI (mayC g x1 x2 who))), (5, .int (nI (ftX g x1 x2 (x1 1)))), (4, .int (nI (x1 1))), (3, .ref (60 + 2 * who)), (0, .ref 12), (1, .ref 44), (2, .int (nI who))]) (st' := [.ref (60 + 2 * who)]) (h' := HN (RO g 44 x0 x1 x2 x3) hl (RF rt)) rfl ?_
            refine Ev_gfI rfl rfl rfl (kcP hwho) ?_
            refine Ev.topI (congrArg nI ((RO_ne g 44 _ _ _ _ (fun k hk => by omega) 2).trans (hPl.1 who hwho).1)) ?_
            refine Ev.run 1 (pc' := 192) (lv' := [(9, .int (nI (ldC g x1 x2 who y))), (8, .int (nI (g 174 (4 * who + x1 1 % 4)))), (7, .int (nI (safC g x1 x2 who y))), (6, .int (nI (mayC g x1 x2 who))), (5, .int (nI (ftX g x1 x2 (x1 1)))), (4, .int (nI (x1 1))), (3, .ref (60 + 2 * who)), (0, .ref 12), (1, .ref 44), (2, .int (nI who))]) (st' := [.int (nI 2), .int (nI (g 171 who))]) (h' := HN (RO g 44 x0 x1 x2 x3) hl (RF rt)) rfl ?_
            refine Ev.call (a := 121) (as := [.int (nI (g 171 who)), .int (nI 2)]) (rest := []) (lv0 := [(0, .int (nI (g 171 who))), (1, .int (nI 2))]) (Q1 := (fun z0 h' => z0 = some (.int (nI (bn (undS (g 171 who) 2)))) ∧ h' = HN (RO g 44 x0 x1 x2 x3) hl (RF rt))) rfl rfl (K_und _ (HN g hl (RF rt)) (RO g 44 x0 x1 x2 x3) _ _ (g 171 who) 2 (by omega) (by omega) ⟨rfl, rfl⟩) (fun r h' hr => ?_)
            obtain ⟨rfl, rfl⟩ := hr
            refine Ev_bn (fun hb195 => ?_) (fun hb195 => ?_)
            · skip
              refine Ev.run 4 (pc' := (if nI (x0 3) < 0 then 208 else 205)) (lv' := [(9, .int (nI (ldC g x1 x2 who y))), (8, .int (nI (g 174 (4 * who + x1 1 % 4)))), (7, .int (nI (safC g x1 x2 who y))), (6, .int (nI (mayC g x1 x2 who))), (5, .int (nI (ftX g x1 x2 (x1 1)))), (4, .int (nI (x1 1))), (3, .ref (60 + 2 * who)), (0, .ref 12), (1, .ref 44), (2, .int (nI who))]) (st' := []) (h' := HN (RO g 44 x0 x1 x2 x3) hl (RF rt)) rfl ?_
              refine Ev.ite (fun hc202 => ?_) (fun hc202 => ?_)
              · have hc202 : 2147483648 ≤ (x0 3) := (nI_ltU0 (by omega)).mp hc202
                refine Ev.run 2 (pc' := (if nI (mayC g x1 x2 who) = 0 then 219 else 213)) (lv' := [(9, .int (nI (ldC g x1 x2 who y))), (8, .int (nI (g 174 (4 * who + x1 1 % 4)))), (7, .int (nI (safC g x1 x2 who y))), (6, .int (nI (mayC g x1 x2 who))), (5, .int (nI (ftX g x1 x2 (x1 1)))), (4, .int (nI (x1 1))), (3, .ref (60 + 2 * who)), (0, .ref 12), (1, .ref 44), (2, .int (nI who))]) (st' := []) (h' := HN (RO g 44 x0 x1 x2 x3) hl (RF rt)) rfl ?_
                refine Ev.ite (fun hc210 => ?_) (fun hc210 => ?_)
                · have hc210 : (mayC g x1 x2 who) = 0 := (nI_eqU0 (by omega)).mp hc210
                  refine Ev.run 1 (pc' := 220) (lv' := [(9, .int (nI (ldC g x1 x2 who y))), (8, .int (nI (g 174 (4 * who + x1 1 % 4)))), (7, .int (nI (safC g x1 x2 who y))), (6, .int (nI (mayC g x1 x2 who))), (5, .int (nI (ftX g x1 x2 (x1 1)))), (4, .int (nI (x1 1))), (3, .ref (60 + 2 * who)), (0, .ref 12), (1, .ref 44), (2, .int (nI who))]) (st' := [.ref (60 + 2 * who)]) (h' := HN (RO g 44 x0 x1 x2 x3) hl (RF rt)) rfl ?_
                  refine Ev_gfI rfl rfl rfl (kcP hwho) ?_
                  refine Ev.topI (congrArg nI ((RO_ne g 44 _ _ _ _ (fun k hk => by omega) 2).trans (hPl.1 who hwho).1)) ?_
                  refine Ev.run 1 (pc' := 224) (lv' := [(9, .int (nI (ldC g x1 x2 who y))), (8, .int (nI (g 174 (4 * who + x1 1 % 4)))), (7, .int (nI (safC g x1 x2 who y))), (6, .int (nI (mayC g x1 x2 who))), (5, .int (nI (ftX g x1 x2 (x1 1)))), (4, .int (nI (x1 1))), (3, .ref (60 + 2 * who)), (0, .ref 12), (1, .ref 44), (2, .int (nI who))]) (st' := [.int (nI 3), .int (nI (g 171 who))]) (h' := HN (RO g 44 x0 x1 x2 x3) hl (RF rt)) rfl ?_
                  refine Ev.call (a := 121) (as := [.int (nI (g 171 who)), .int (nI 3)]) (rest := []) (lv0 := [(0, .int (nI (g 171 who))), (1, .int (nI 3))]) (Q1 := (fun z0 h' => z0 = some (.int (nI (bn (undS (g 171 who) 3)))) ∧ h' = HN (RO g 44 x0 x1 x2 x3) hl (RF rt))) rfl rfl (K_und _ (HN g hl (RF rt)) (RO g 44 x0 x1 x2 x3) _ _ (g 171 who) 3 (by omega) (by omega) ⟨rfl, rfl⟩) (fun r h' hr => ?_)
                  obtain ⟨rfl, rfl⟩ := hr
                  refine Ev_bn (fun hb227 => ?_) (fun hb227 => ?_)
                  · skip
                    refine Ev.run 3 (pc' := 234) (lv' := [(9, .int (nI (ldC g x1 x2 who y))), (8, .int (nI (g 174 (4 * who + x1 1 % 4)))), (7, .int (nI (safC g x1 x2 who y))), (6, .int (nI (mayC g x1 x2 who))), (5, .int (nI (ftX g x1 x2 (x1 1)))), (4, .int (nI (x1 1))), (3, .ref (60 + 2 * who)), (0, .ref 12), (1, .ref 44), (2, .int (nI who))]) (st' := [.ref 45]) (h' := HN (RO g 44 x0 x1 x2 x3) hl (RF rt)) rfl ?_
                    refine Ev.call (a := 42) (as := [.ref 45]) (rest := []) (lv0 := [(0, .ref 45)]) (Q1 := (fun z0 h' => z0 = some (.int (nI (bn (decide (12 ≤ x1 1))))) ∧ h' = HN (RO g 44 x0 x1 x2 x3) hl (RF rt))) rfl rfl (K_isFull _ (RO g 44 x0 x1 x2 x3) _ _ 45 12 (ln45 rt) (show x1 1 < 2 ^ 31 by omega) ⟨rfl, rfl⟩) (fun r h' hr => ?_)
                    obtain ⟨rfl, rfl⟩ := hr
                    refine Ev_bn (fun hb237 => ?_) (fun hb237 => ?_)
                    · have hhb237 : 12 ≤ x1 1 := of_decide_eq_true hb237
                      refine Ev.run 2 (pc' := 251) (lv' := [(9, .int (nI (ldC g x1 x2 who y))), (8, .int (nI (g 174 (4 * who + x1 1 % 4)))), (7, .int (nI (safC g x1 x2 who y))), (6, .int (nI (mayC g x1 x2 who))), (5, .int (nI (ftX g x1 x2 (x1 1)))), (4, .int (nI (x1 1))), (3, .ref (60 + 2 * who)), (0, .ref 12), (1, .ref 44), (2, .int (nI who))]) (st' := [.int (nI 10)]) (h' := HN (RO g 44 x0 x1 x2 x3) hl (RF rt)) rfl ?_
                      refine Ev.ret (v := some (.int (nI 10))) rfl ?_
                      have e : chC g x0 x1 x2 x3 who y = 10 := by
                        unfold chC
                        rw [if_neg (fun z => tf z.2 hb100)]
                        rw [if_pos hc143]
                        rw [if_pos hc154]
                        rw [if_neg (fun z => by have := z.2; omega)]
                        rw [if_pos hc210]
                        rw [if_neg (fun z => by have h1 := of_decide_eq_true hb237; have h2 := z.2; omega)]
                      rw [e] at hq
                      exact hq
                    · have hhb237 : ¬ (12 ≤ x1 1) := of_decide_eq_false hb237
                      refine Ev.run 2 (pc' := 241) (lv' := [(9, .int (nI (ldC g x1 x2 who y))), (8, .int (nI (g 174 (4 * who + x1 1 % 4)))), (7, .int (nI (safC g x1 x2 who y))), (6, .int (nI (mayC g x1 x2 who))), (5, .int (nI (ftX g x1 x2 (x1 1)))), (4, .int (nI (x1 1))), (3, .ref (60 + 2 * who)), (0, .ref 12), (1, .ref 44), (2, .int (nI who))]) (st' := [.ref (60 + 2 * who)]) (h' := HN (RO g 44 x0 x1 x2 x3) hl (RF rt)) rfl ?_
                      refine Ev_gfI rfl rfl rfl (kcP hwho) ?_
                      refine Ev.topI (congrArg nI ((RO_ne g 44 _ _ _ _ (fun k hk => by omega) 3).trans (hPl.1 who hwho).2)) ?_
                      refine Ev.run 1 (pc' := 245) (lv' := [(9, .int (nI (ldC g x1 x2 who y))), (8, .int (nI (g 174 (4 * who + x1 1 % 4)))), (7, .int (nI (safC g x1 x2 who y))), (6, .int (nI (mayC g x1 x2 who))), (5, .int (nI (ftX g x1 x2 (x1 1)))), (4, .int (nI (x1 1))), (3, .ref (60 + 2 * who)), (0, .ref 12), (1, .ref 44), (2, .int (nI who))]) (st' := [.int (nI 4), .int (nI (g 172 who))]) (h' := HN (RO g 44 x0 x1 x2 x3) hl (RF rt)) rfl ?_
                      refine Ev_irem rfl (by omega) (by omega) (by omega) ?_
                      refine Ev.run 1 (pc' := 251) (lv' := [(9, .int (nI (ldC g x1 x2 who y))), (8, .int (nI (g 174 (4 * who + x1 1 % 4)))), (7, .int (nI (safC g x1 x2 who y))), (6, .int (nI (mayC g x1 x2 who))), (5, .int (nI (ftX g x1 x2 (x1 1)))), (4, .int (nI (x1 1))), (3, .ref (60 + 2 * who)), (0, .ref 12), (1, .ref 44), (2, .int (nI who))]) (st' := [.int (nI ((g 172 who) % 4))]) (h' := HN (RO g 44 x0 x1 x2 x3) hl (RF rt)) rfl ?_
                      refine Ev.ret (v := some (.int (nI ((g 172 who) % 4)))) rfl ?_
                      have e : chC g x0 x1 x2 x3 who y = (g 172 who) % 4 := by
                        unfold chC
                        rw [if_neg (fun z => tf z.2 hb100)]
                        rw [if_pos hc143]
                        rw [if_pos hc154]
                        rw [if_neg (fun z => by have := z.2; omega)]
                        rw [if_pos hc210]
                        rw [if_pos ⟨hb227, by have := of_decide_eq_false hb237; omega⟩]
                      rw [e] at hq
                      exact hq
                  · skip
                    refine Ev.run 2 (pc' := 251) (lv' := [(9, .int (nI (ldC g x1 x2 who y))), (8, .int (nI (g 174 (4 * who + x1 1 % 4)))), (7, .int (nI (safC g x1 x2 who y))), (6, .int (nI (mayC g x1 x2 who))), (5, .int (nI (ftX g x1 x2 (x1 1)))), (4, .int (nI (x1 1))), (3, .ref (60 + 2 * who)), (0, .ref 12), (1, .ref 44), (2, .int (nI who))]) (st' := [.int (nI 10)]) (h' := HN (RO g 44 x0 x1 x2 x3) hl (RF rt)) rfl ?_
                    refine Ev.ret (v := some (.int (nI 10))) rfl ?_
                    have e : chC g x0 x1 x2 x3 who y = 10 := by
                      unfold chC
                      rw [if_neg (fun z => tf z.2 hb100)]
                      rw [if_pos hc143]
                      rw [if_pos hc154]
                      rw [if_neg (fun z => by have := z.2; omega)]
                      rw [if_pos hc210]
                      rw [if_neg (fun z => tf z.1 hb227)]
                    rw [e] at hq
                    exact hq
                · have hc210 : ¬ ((mayC g x1 x2 who) = 0) := fun z => hc210 ((nI_eqU0 (by omega)).mpr z)
                  refine Ev.run 1 (pc' := 215) (lv' := [(9, .int (nI (ldC g x1 x2 who y))), (8, .int (nI (g 174 (4 * who + x1 1 % 4)))), (7, .int (nI (safC g x1 x2 who y))), (6, .int (nI (mayC g x1 x2 who))), (5, .int (nI (ftX g x1 x2 (x1 1)))), (4, .int (nI (x1 1))), (3, .ref (60 + 2 * who)), (0, .ref 12), (1, .ref 44), (2, .int (nI who))]) (st' := [.int (nI (mayC g x1 x2 who))]) (h' := HN (RO g 44 x0 x1 x2 x3) hl (RF rt)) rfl ?_
                  refine Ev.call (a := 123) (as := [.int (nI (mayC g x1 x2 who))]) (rest := []) (lv0 := [(0, .int (nI (mayC g x1 x2 who)))]) (Q1 := (fun z0 h' => z0 = some (.int (nI (frS (mayC g x1 x2 who)))) ∧ h' = HN (RO g 44 x0 x1 x2 x3) hl (RF rt))) rfl rfl (K_first _ _ _ _ (mayC g x1 x2 who) (by omega) ⟨rfl, rfl⟩) (fun r h' hr => ?_)
                  obtain ⟨rfl, rfl⟩ := hr
                  refine Ev.ret (v := some (.int (nI (frS (mayC g x1 x2 who))))) rfl ?_
                  have e : chC g x0 x1 x2 x3 who y = frS (mayC g x1 x2 who) := by
                    unfold chC
                    rw [if_neg (fun z => tf z.2 hb100)]
                    rw [if_pos hc143]
                    rw [if_pos hc154]
                    rw [if_neg (fun z => by have := z.2; omega)]
                    rw [if_neg hc210]
                  rw [e] at hq
                  exact hq
              · have hc202 : ¬ (2147483648 ≤ (x0 3)) := fun z => hc202 ((nI_ltU0 (by omega)).mpr z)
                refine Ev.run 1 (pc' := 207) (lv' := [(9, .int (nI (ldC g x1 x2 who y))), (8, .int (nI (g 174 (4 * who + x1 1 % 4)))), (7, .int (nI (safC g x1 x2 who y))), (6, .int (nI (mayC g x1 x2 who))), (5, .int (nI (ftX g x1 x2 (x1 1)))), (4, .int (nI (x1 1))), (3, .ref (60 + 2 * who)), (0, .ref 12), (1, .ref 44), (2, .int (nI who))]) (st' := [.int (nI 10)]) (h' := HN (RO g 44 x0 x1 x2 x3) hl (RF rt)) rfl ?_
                refine Ev.ret (v := some (.int (nI 10))) rfl ?_
                have e : chC g x0 x1 x2 x3 who y = 10 := by
                  unfold chC
                  rw [if_neg (fun z => tf z.2 hb100)]
                  rw [if_pos hc143]
                  rw [if_pos hc154]
                  rw [if_pos ⟨hb195, by omega⟩]
                rw [e] at hq
                exact hq
            · skip
              refine Ev.run 3 (pc' := (if nI (mayC g x1 x2 who) = 0 then 219 else 213)) (lv' := [(9, .int (nI (ldC g x1 x2 who y))), (8, .int (nI (g 174 (4 * who + x1 1 % 4)))), (7, .int (nI (safC g x1 x2 who y))), (6, .int (nI (mayC g x1 x2 who))), (5, .int (nI (ftX g x1 x2 (x1 1)))), (4, .int (nI (x1 1))), (3, .ref (60 + 2 * who)), (0, .ref 12), (1, .ref 44), (2, .int (nI who))]) (st' := []) (h' := HN (RO g 44 x0 x1 x2 x3) hl (RF rt)) rfl ?_
              refine Ev.ite (fun hc210 => ?_) (fun hc210 => ?_)
              · have hc210 : (mayC g x1 x2 who) = 0 := (nI_eqU0 (by omega)).mp hc210
                refine Ev.run 1 (pc' := 220) (lv' := [(9, .int (nI (ldC g x1 x2 who y))), (8, .int (nI (g 174 (4 * who + x1 1 % 4)))), (7, .int (nI (safC g x1 x2 who y))), (6, .int (nI (mayC g x1 x2 who))), (5, .int (nI (ftX g x1 x2 (x1 1)))), (4, .int (nI (x1 1))), (3, .ref (60 + 2 * who)), (0, .ref 12), (1, .ref 44), (2, .int (nI who))]) (st' := [.ref (60 + 2 * who)]) (h' := HN (RO g 44 x0 x1 x2 x3) hl (RF rt)) rfl ?_
                refine Ev_gfI rfl rfl rfl (kcP hwho) ?_
                refine Ev.topI (congrArg nI ((RO_ne g 44 _ _ _ _ (fun k hk => by omega) 2).trans (hPl.1 who hwho).1)) ?_
                refine Ev.run 1 (pc' := 224) (lv' := [(9, .int (nI (ldC g x1 x2 who y))), (8, .int (nI (g 174 (4 * who + x1 1 % 4)))), (7, .int (nI (safC g x1 x2 who y))), (6, .int (nI (mayC g x1 x2 who))), (5, .int (nI (ftX g x1 x2 (x1 1)))), (4, .int (nI (x1 1))), (3, .ref (60 + 2 * who)), (0, .ref 12), (1, .ref 44), (2, .int (nI who))]) (st' := [.int (nI 3), .int (nI (g 171 who))]) (h' := HN (RO g 44 x0 x1 x2 x3) hl (RF rt)) rfl ?_
                refine Ev.call (a := 121) (as := [.int (nI (g 171 who)), .int (nI 3)]) (rest := []) (lv0 := [(0, .int (nI (g 171 who))), (1, .int (nI 3))]) (Q1 := (fun z0 h' => z0 = some (.int (nI (bn (undS (g 171 who) 3)))) ∧ h' = HN (RO g 44 x0 x1 x2 x3) hl (RF rt))) rfl rfl (K_und _ (HN g hl (RF rt)) (RO g 44 x0 x1 x2 x3) _ _ (g 171 who) 3 (by omega) (by omega) ⟨rfl, rfl⟩) (fun r h' hr => ?_)
                obtain ⟨rfl, rfl⟩ := hr
                refine Ev_bn (fun hb227 => ?_) (fun hb227 => ?_)
                · skip
                  refine Ev.run 3 (pc' := 234) (lv' := [(9, .int (nI (ldC g x1 x2 who y))), (8, .int (nI (g 174 (4 * who + x1 1 % 4)))), (7, .int (nI (safC g x1 x2 who y))), (6, .int (nI (mayC g x1 x2 who))), (5, .int (nI (ftX g x1 x2 (x1 1)))), (4, .int (nI (x1 1))), (3, .ref (60 + 2 * who)), (0, .ref 12), (1, .ref 44), (2, .int (nI who))]) (st' := [.ref 45]) (h' := HN (RO g 44 x0 x1 x2 x3) hl (RF rt)) rfl ?_
                  refine Ev.call (a := 42) (as := [.ref 45]) (rest := []) (lv0 := [(0, .ref 45)]) (Q1 := (fun z0 h' => z0 = some (.int (nI (bn (decide (12 ≤ x1 1))))) ∧ h' = HN (RO g 44 x0 x1 x2 x3) hl (RF rt))) rfl rfl (K_isFull _ (RO g 44 x0 x1 x2 x3) _ _ 45 12 (ln45 rt) (show x1 1 < 2 ^ 31 by omega) ⟨rfl, rfl⟩) (fun r h' hr => ?_)
                  obtain ⟨rfl, rfl⟩ := hr
                  refine Ev_bn (fun hb237 => ?_) (fun hb237 => ?_)
                  · have hhb237 : 12 ≤ x1 1 := of_decide_eq_true hb237
                    refine Ev.run 2 (pc' := 251) (lv' := [(9, .int (nI (ldC g x1 x2 who y))), (8, .int (nI (g 174 (4 * who + x1 1 % 4)))), (7, .int (nI (safC g x1 x2 who y))), (6, .int (nI (mayC g x1 x2 who))), (5, .int (nI (ftX g x1 x2 (x1 1)))), (4, .int (nI (x1 1))), (3, .ref (60 + 2 * who)), (0, .ref 12), (1, .ref 44), (2, .int (nI who))]) (st' := [.int (nI 10)]) (h' := HN (RO g 44 x0 x1 x2 x3) hl (RF rt)) rfl ?_
                    refine Ev.ret (v := some (.int (nI 10))) rfl ?_
                    have e : chC g x0 x1 x2 x3 who y = 10 := by
                      unfold chC
                      rw [if_neg (fun z => tf z.2 hb100)]
                      rw [if_pos hc143]
                      rw [if_pos hc154]
                      rw [if_neg (fun z => tf z.1 hb195)]
                      rw [if_pos hc210]
                      rw [if_neg (fun z => by have h1 := of_decide_eq_true hb237; have h2 := z.2; omega)]
                    rw [e] at hq
                    exact hq
                  · have hhb237 : ¬ (12 ≤ x1 1) := of_decide_eq_false hb237
                    refine Ev.run 2 (pc' := 241) (lv' := [(9, .int (nI (ldC g x1 x2 who y))), (8, .int (nI (g 174 (4 * who + x1 1 % 4)))), (7, .int (nI (safC g x1 x2 who y))), (6, .int (nI (mayC g x1 x2 who))), (5, .int (nI (ftX g x1 x2 (x1 1)))), (4, .int (nI (x1 1))), (3, .ref (60 + 2 * who)), (0, .ref 12), (1, .ref 44), (2, .int (nI who))]) (st' := [.ref (60 + 2 * who)]) (h' := HN (RO g 44 x0 x1 x2 x3) hl (RF rt)) rfl ?_
                    refine Ev_gfI rfl rfl rfl (kcP hwho) ?_
                    refine Ev.topI (congrArg nI ((RO_ne g 44 _ _ _ _ (fun k hk => by omega) 3).trans (hPl.1 who hwho).2)) ?_
                    refine Ev.run 1 (pc' := 245) (lv' := [(9, .int (nI (ldC g x1 x2 who y))), (8, .int (nI (g 174 (4 * who + x1 1 % 4)))), (7, .int (nI (safC g x1 x2 who y))), (6, .int (nI (mayC g x1 x2 who))), (5, .int (nI (ftX g x1 x2 (x1 1)))), (4, .int (nI (x1 1))), (3, .ref (60 + 2 * who)), (0, .ref 12), (1, .ref 44), (2, .int (nI who))]) (st' := [.int (nI 4), .int (nI (g 172 who))]) (h' := HN (RO g 44 x0 x1 x2 x3) hl (RF rt)) rfl ?_
                    refine Ev_irem rfl (by omega) (by omega) (by omega) ?_
                    refine Ev.run 1 (pc' := 251) (lv' := [(9, .int (nI (ldC g x1 x2 who y))), (8, .int (nI (g 174 (4 * who + x1 1 % 4)))), (7, .int (nI (safC g x1 x2 who y))), (6, .int (nI (mayC g x1 x2 who))), (5, .int (nI (ftX g x1 x2 (x1 1)))), (4, .int (nI (x1 1))), (3, .ref (60 + 2 * who)), (0, .ref 12), (1, .ref 44), (2, .int (nI who))]) (st' := [.int (nI ((g 172 who) % 4))]) (h' := HN (RO g 44 x0 x1 x2 x3) hl (RF rt)) rfl ?_
                    refine Ev.ret (v := some (.int (nI ((g 172 who) % 4)))) rfl ?_
                    have e : chC g x0 x1 x2 x3 who y = (g 172 who) % 4 := by
                      unfold chC
                      rw [if_neg (fun z => tf z.2 hb100)]
                      rw [if_pos hc143]
                      rw [if_pos hc154]
                      rw [if_neg (fun z => tf z.1 hb195)]
                      rw [if_pos hc210]
                      rw [if_pos ⟨hb227, by have := of_decide_eq_false hb237; omega⟩]
                    rw [e] at hq
                    exact hq
                · skip
                  refine Ev.run 2 (pc' := 251) (lv' := [(9, .int (nI (ldC g x1 x2 who y))), (8, .int (nI (g 174 (4 * who + x1 1 % 4)))), (7, .int (nI (safC g x1 x2 who y))), (6, .int (nI (mayC g x1 x2 who))), (5, .int (nI (ftX g x1 x2 (x1 1)))), (4, .int (nI (x1 1))), (3, .ref (60 + 2 * who)), (0, .ref 12), (1, .ref 44), (2, .int (nI who))]) (st' := [.int (nI 10)]) (h' := HN (RO g 44 x0 x1 x2 x3) hl (RF rt)) rfl ?_
                  refine Ev.ret (v := some (.int (nI 10))) rfl ?_
                  have e : chC g x0 x1 x2 x3 who y = 10 := by
                    unfold chC
                    rw [if_neg (fun z => tf z.2 hb100)]
                    rw [if_pos hc143]
                    rw [if_pos hc154]
                    rw [if_neg (fun z => tf z.1 hb195)]
                    rw [if_pos hc210]
                    rw [if_neg (fun z => tf z.1 hb227)]
                  rw [e] at hq
                  exact hq
              · have hc210 : ¬ ((mayC g x1 x2 who) = 0) := fun z => hc210 ((nI_eqU0 (by omega)).mpr z)
                refine Ev.run 1 (pc' := 215) (lv' := [(9, .int (nI (ldC g x1 x2 who y))), (8, .int (nI (g 174 (4 * who + x1 1 % 4)))), (7, .int (nI (safC g x1 x2 who y))), (6, .int (nI (mayC g x1 x2 who))), (5, .int (nI (ftX g x1 x2 (x1 1)))), (4, .int (nI (x1 1))), (3, .ref (60 + 2 * who)), (0, .ref 12), (1, .ref 44), (2, .int (nI who))]) (st' := [.int (nI (mayC g x1 x2 who))]) (h' := HN (RO g 44 x0 x1 x2 x3) hl (RF rt)) rfl ?_
                refine Ev.call (a := 123) (as := [.int (nI (mayC g x1 x2 who))]) (rest := []) (lv0 := [(0, .int (nI (mayC g x1 x2 who)))]) (Q1 := (fun z0 h' => z0 = some (.int (nI (frS (mayC g x1 x2 who)))) ∧ h' = HN (RO g 44 x0 x1 x2 x3) hl (RF rt))) rfl rfl (K_first _ _ _ _ (mayC g x1 x2 who) (by omega) ⟨rfl, rfl⟩) (fun r h' hr => ?_)
                obtain ⟨rfl, rfl⟩ := hr
                refine Ev.ret (v := some (.int (nI (frS (mayC g x1 x2 who))))) rfl ?_
                have e : chC g x0 x1 x2 x3 who y = frS (mayC g x1 x2 who) := by
                  unfold chC
                  rw [if_neg (fun z => tf z.2 hb100)]
                  rw [if_pos hc143]
                  rw [if_pos hc154]
                  rw [if_neg (fun z => tf z.1 hb195)]
                  rw [if_neg hc210]
                rw [e] at hq
                exact hq
          · have hc154 : ¬ ((safC g x1 x2 who y) = 0) := fun z => hc154 ((nI_eqU0 (by omega)).mpr z)
            refine Ev.run 1 (pc' := 158) (lv' := [(9, .int (nI (ldC g x1 x2 who y))), (8, .int (nI (g 174 (4 * who + x1 1 % 4)))), (7, .int (nI (safC g x1 x2 who y))), (6, .int (nI (mayC g x1 x2 who))), (5, .int (nI (ftX g x1 x2 (x1 1)))), (4, .int (nI (x1 1))), (3, .ref (60 + 2 * who)), (0, .ref 12), (1, .ref 44), (2, .int (nI who))]) (st' := [.ref (60 + 2 * who)]) (h' := HN (RO g 44 x0 x1 x2 x3) hl (RF rt)) rfl ?_
            refine Ev_gfI rfl rfl rfl (kcP hwho) ?_
            refine Ev.topI (congrArg nI ((RO_ne g 44 _ _ _ _ (fun k hk => by omega) 2).trans (hPl.1 who hwho).1)) ?_
            refine Ev.run 1 (pc' := 162) (lv' := [(9, .int (nI (ldC g x1 x2 who y))), (8, .int (nI (g 174 (4 * who + x1 1 % 4)))), (7, .int (nI (safC g x1 x2 who y))), (6, .int (nI (mayC g x1 x2 who))), (5, .int (nI (ftX g x1 x2 (x1 1)))), (4, .int (nI (x1 1))), (3, .ref (60 + 2 * who)), (0, .ref 12), (1, .ref 44), (2, .int (nI who))]) (st' := [.int (nI 1), .int (nI (g 171 who))]) (h' := HN (RO g 44 x0 x1 x2 x3) hl (RF rt)) rfl ?_
            refine Ev.call (a := 121) (as := [.int (nI (g 171 who)), .int (nI 1)]) (rest := []) (lv0 := [(0, .int (nI (g 171 who))), (1, .int (nI 1))]) (Q1 := (fun z0 h' => z0 = some (.int (nI (bn (undS (g 171 who) 1)))) ∧ h' = HN (RO g 44 x0 x1 x2 x3) hl (RF rt))) rfl rfl (K_und _ (HN g hl (RF rt)) (RO g 44 x0 x1 x2 x3) _ _ (g 171 who) 1 (by omega) (by omega) ⟨rfl, rfl⟩) (fun r h' hr => ?_)
            obtain ⟨rfl, rfl⟩ := hr
            refine Ev_bn (fun hb165 => ?_) (fun hb165 => ?_)
            · skip
              refine Ev.run 6 (pc' := 175) (lv' := [(9, .int (nI (ldC g x1 x2 who y))), (8, .int (nI (g 174 (4 * who + x1 1 % 4)))), (7, .int (nI (safC g x1 x2 who y))), (6, .int (nI (mayC g x1 x2 who))), (5, .int (nI (ftX g x1 x2 (x1 1)))), (4, .int (nI (x1 1))), (3, .ref (60 + 2 * who)), (0, .ref 12), (1, .ref 44), (2, .int (nI who))]) (st' := [.int (nI (safC g x1 x2 who y)), .int (nI (ftX g x1 x2 (x1 1))), .int (nI who), .ref 44, .ref 12]) (h' := HN (RO g 44 x0 x1 x2 x3) hl (RF rt)) rfl ?_
              refine Ev.call (a := 40) (as := [.ref 12, .ref 44, .int (nI who), .int (nI (ftX g x1 x2 (x1 1))), .int (nI (safC g x1 x2 who y))]) (rest := []) (lv0 := [(0, .ref 12), (1, .ref 44), (2, .int (nI who)), (3, .int (nI (ftX g x1 x2 (x1 1)))), (4, .int (nI (safC g x1 x2 who y)))]) (Q1 := (fun z0 h' => z0 = some (.int (nI (syC g x1 x3 who (ftX g x1 x2 (x1 1)) (safC g x1 x2 who y)))) ∧ h' = HN (RO g 44 x0 x1 x2 x3) hl (RF rt))) rfl rfl (K44_slyest _ g _ _ hI hB hP5 hk59 x0 x1 x2 x3 hx3 (by omega) who (ftX g x1 x2 (x1 1)) (safC g x1 x2 who y) (by omega) (by omega) (by omega) ⟨rfl, rfl⟩) (fun r h' hr => ?_)
              obtain ⟨rfl, rfl⟩ := hr
              refine Ev.run 1 (pc' := 186) (lv' := [(9, .int (nI (ldC g x1 x2 who y))), (8, .int (nI (g 174 (4 * who + x1 1 % 4)))), (7, .int (nI (safC g x1 x2 who y))), (6, .int (nI (mayC g x1 x2 who))), (5, .int (nI (ftX g x1 x2 (x1 1)))), (4, .int (nI (x1 1))), (3, .ref (60 + 2 * who)), (0, .ref 12), (1, .ref 44), (2, .int (nI who))]) (st' := [.int (nI (syC g x1 x3 who (ftX g x1 x2 (x1 1)) (safC g x1 x2 who y)))]) (h' := HN (RO g 44 x0 x1 x2 x3) hl (RF rt)) rfl ?_
              refine Ev.ret (v := some (.int (nI (syC g x1 x3 who (ftX g x1 x2 (x1 1)) (safC g x1 x2 who y))))) rfl ?_
              have e : chC g x0 x1 x2 x3 who y = syC g x1 x3 who (ftX g x1 x2 (x1 1)) (safC g x1 x2 who y) := by
                unfold chC
                rw [if_neg (fun z => tf z.2 hb100)]
                rw [if_pos hc143]
                rw [if_neg hc154]
                rw [if_pos hb165]
              rw [e] at hq
              exact hq
            · skip
              refine Ev.run 2 (pc' := 183) (lv' := [(9, .int (nI (ldC g x1 x2 who y))), (8, .int (nI (g 174 (4 * who + x1 1 % 4)))), (7, .int (nI (safC g x1 x2 who y))), (6, .int (nI (mayC g x1 x2 who))), (5, .int (nI (ftX g x1 x2 (x1 1)))), (4, .int (nI (x1 1))), (3, .ref (60 + 2 * who)), (0, .ref 12), (1, .ref 44), (2, .int (nI who))]) (st' := [.int (nI (safC g x1 x2 who y))]) (h' := HN (RO g 44 x0 x1 x2 x3) hl (RF rt)) rfl ?_
              refine Ev.call (a := 123) (as := [.int (nI (safC g x1 x2 who y))]) (rest := []) (lv0 := [(0, .int (nI (safC g x1 x2 who y)))]) (Q1 := (fun z0 h' => z0 = some (.int (nI (frS (safC g x1 x2 who y)))) ∧ h' = HN (RO g 44 x0 x1 x2 x3) hl (RF rt))) rfl rfl (K_first _ _ _ _ (safC g x1 x2 who y) (by omega) ⟨rfl, rfl⟩) (fun r h' hr => ?_)
              obtain ⟨rfl, rfl⟩ := hr
              refine Ev.ret (v := some (.int (nI (frS (safC g x1 x2 who y))))) rfl ?_
              have e : chC g x0 x1 x2 x3 who y = frS (safC g x1 x2 who y) := by
                unfold chC
                rw [if_neg (fun z => tf z.2 hb100)]
                rw [if_pos hc143]
                rw [if_neg hc154]
                rw [if_neg (fun z => tf z hb165)]
              rw [e] at hq
              exact hq
        · have hc143 : ¬ ((ldC g x1 x2 who y) = 0) := fun z => hc143 ((nI_eqU0 (by omega)).mpr z)
          refine Ev.run 1 (pc' := 148) (lv' := [(9, .int (nI (ldC g x1 x2 who y))), (8, .int (nI (g 174 (4 * who + x1 1 % 4)))), (7, .int (nI (safC g x1 x2 who y))), (6, .int (nI (mayC g x1 x2 who))), (5, .int (nI (ftX g x1 x2 (x1 1)))), (4, .int (nI (x1 1))), (3, .ref (60 + 2 * who)), (0, .ref 12), (1, .ref 44), (2, .int (nI who))]) (st' := [.int (nI (ldC g x1 x2 who y))]) (h' := HN (RO g 44 x0 x1 x2 x3) hl (RF rt)) rfl ?_
          refine Ev.call (a := 123) (as := [.int (nI (ldC g x1 x2 who y))]) (rest := []) (lv0 := [(0, .int (nI (ldC g x1 x2 who y)))]) (Q1 := (fun z0 h' => z0 = some (.int (nI (frS (ldC g x1 x2 who y)))) ∧ h' = HN (RO g 44 x0 x1 x2 x3) hl (RF rt))) rfl rfl (K_first _ _ _ _ (ldC g x1 x2 who y) (by omega) ⟨rfl, rfl⟩) (fun r h' hr => ?_)
          obtain ⟨rfl, rfl⟩ := hr
          refine Ev.ret (v := some (.int (nI (frS (ldC g x1 x2 who y))))) rfl ?_
          have e : chC g x0 x1 x2 x3 who y = frS (ldC g x1 x2 who y) := by
            unfold chC
            rw [if_neg (fun z => tf z.2 hb100)]
            rw [if_neg hc143]
          rw [e] at hq
          exact hq
      · have hc111 : ¬ ((g 171 who) = 4) := fun z => hc111 ((nI_eqU (by omega) (by omega)).mpr z)
        refine Ev.run 1 (pc' := 139) (lv' := [(8, .int (nI (g 174 (4 * who + x1 1 % 4)))), (7, .int (nI (safC g x1 x2 who y))), (6, .int (nI (mayC g x1 x2 who))), (5, .int (nI (ftX g x1 x2 (x1 1)))), (4, .int (nI (x1 1))), (3, .ref (60 + 2 * who)), (0, .ref 12), (1, .ref 44), (2, .int (nI who))]) (st' := [.int (nI 0)]) (h' := HN (RO g 44 x0 x1 x2 x3) hl (RF rt)) rfl ?_
        refine Ev.topI (congrArg nI (show 0 = ldC g x1 x2 who y by unfold ldC; first | rw [if_pos hc111] | rw [if_neg hc111])) ?_
        have hldc : ldC g x1 x2 who y < 16 := by unfold ldC; first | (rw [if_pos hc111]; omega) | (rw [if_neg hc111]; decide)
        refine Ev.run 3 (pc' := (if nI (ldC g x1 x2 who y) = 0 then 152 else 146)) (lv' := [(9, .int (nI (ldC g x1 x2 who y))), (8, .int (nI (g 174 (4 * who + x1 1 % 4)))), (7, .int (nI (safC g x1 x2 who y))), (6, .int (nI (mayC g x1 x2 who))), (5, .int (nI (ftX g x1 x2 (x1 1)))), (4, .int (nI (x1 1))), (3, .ref (60 + 2 * who)), (0, .ref 12), (1, .ref 44), (2, .int (nI who))]) (st' := []) (h' := HN (RO g 44 x0 x1 x2 x3) hl (RF rt)) rfl ?_
        refine Ev.ite (fun hc143 => ?_) (fun hc143 => ?_)
        · have hc143 : (ldC g x1 x2 who y) = 0 := (nI_eqU0 (by omega)).mp hc143
          refine Ev.run 2 (pc' := (if nI (safC g x1 x2 who y) = 0 then 187 else 157)) (lv' := [(9, .int (nI (ldC g x1 x2 who y))), (8, .int (nI (g 174 (4 * who + x1 1 % 4)))), (7, .int (nI (safC g x1 x2 who y))), (6, .int (nI (mayC g x1 x2 who))), (5, .int (nI (ftX g x1 x2 (x1 1)))), (4, .int (nI (x1 1))), (3, .ref (60 + 2 * who)), (0, .ref 12), (1, .ref 44), (2, .int (nI who))]) (st' := []) (h' := HN (RO g 44 x0 x1 x2 x3) hl (RF rt)) rfl ?_
          refine Ev.ite (fun hc154 => ?_) (fun hc154 => ?_)
          · have hc154 : (safC g x1 x2 who y) = 0 := (nI_eqU0 (by omega)).mp hc154
            refine Ev.run 1 (pc' := 188) (lv' := [(9, .int (nI (ldC g x1 x2 who y))), (8, .int (nI (g 174 (4 * who + x1 1 % 4)))), (7, .int (nI (safC g x1 x2 who y))), (6, .int (nI (mayC g x1 x2 who))), (5, .int (nI (ftX g x1 x2 (x1 1)))), (4, .int (nI (x1 1))), (3, .ref (60 + 2 * who)), (0, .ref 12), (1, .ref 44), (2, .int (nI who))]) (st' := [.ref (60 + 2 * who)]) (h' := HN (RO g 44 x0 x1 x2 x3) hl (RF rt)) rfl ?_
            refine Ev_gfI rfl rfl rfl (kcP hwho) ?_
            refine Ev.topI (congrArg nI ((RO_ne g 44 _ _ _ _ (fun k hk => by omega) 2).trans (hPl.1 who hwho).1)) ?_
            refine Ev.run 1 (pc' := 192) (lv' := [(9, .int (nI (ldC g x1 x2 who y))), (8, .int (nI (g 174 (4 * who + x1 1 % 4)))), (7, .int (nI (safC g x1 x2 who y))), (6, .int (nI (mayC g x1 x2 who))), (5, .int (nI (ftX g x1 x2 (x1 1)))), (4, .int (nI (x1 1))), (3, .ref (60 + 2 * who)), (0, .ref 12), (1, .ref 44), (2, .int (nI who))]) (st' := [.int (nI 2), .int (nI (g 171 who))]) (h' := HN (RO g 44 x0 x1 x2 x3) hl (RF rt)) rfl ?_
            refine Ev.call (a := 121) (as := [.int (nI (g 171 who)), .int (nI 2)]) (rest := []) (lv0 := [(0, .int (nI (g 171 who))), (1, .int (nI 2))]) (Q1 := (fun z0 h' => z0 = some (.int (nI (bn (undS (g 171 who) 2)))) ∧ h' = HN (RO g 44 x0 x1 x2 x3) hl (RF rt))) rfl rfl (K_und _ (HN g hl (RF rt)) (RO g 44 x0 x1 x2 x3) _ _ (g 171 who) 2 (by omega) (by omega) ⟨rfl, rfl⟩) (fun r h' hr => ?_)
            obtain ⟨rfl, rfl⟩ := hr
            refine Ev_bn (fun hb195 => ?_) (fun hb195 => ?_)
            · skip
              refine Ev.run 4 (pc' := (if nI (x0 3) < 0 then 208 else 205)) (lv' := [(9, .int (nI (ldC g x1 x2 who y))), (8, .int (nI (g 174 (4 * who + x1 1 % 4)))), (7, .int (nI (safC g x1 x2 who y))), (6, .int (nI (mayC g x1 x2 who))), (5, .int (nI (ftX g x1 x2 (x1 1)))), (4, .int (nI (x1 1))), (3, .ref (60 + 2 * who)), (0, .ref 12), (1, .ref 44), (2, .int (nI who))]) (st' := []) (h' := HN (RO g 44 x0 x1 x2 x3) hl (RF rt)) rfl ?_
              refine Ev.ite (fun hc202 => ?_) (fun hc202 => ?_)
              · have hc202 : 2147483648 ≤ (x0 3) := (nI_ltU0 (by omega)).mp hc202
                refine Ev.run 2 (pc' := (if nI (mayC g x1 x2 who) = 0 then 219 else 213)) (lv' := [(9, .int (nI (ldC g x1 x2 who y))), (8, .int (nI (g 174 (4 * who + x1 1 % 4)))), (7, .int (nI (safC g x1 x2 who y))), (6, .int (nI (mayC g x1 x2 who))), (5, .int (nI (ftX g x1 x2 (x1 1)))), (4, .int (nI (x1 1))), (3, .ref (60 + 2 * who)), (0, .ref 12), (1, .ref 44), (2, .int (nI who))]) (st' := []) (h' := HN (RO g 44 x0 x1 x2 x3) hl (RF rt)) rfl ?_
                refine Ev.ite (fun hc210 => ?_) (fun hc210 => ?_)
                · have hc210 : (mayC g x1 x2 who) = 0 := (nI_eqU0 (by omega)).mp hc210
                  refine Ev.run 1 (pc' := 220) (lv' := [(9, .int (nI (ldC g x1 x2 who y))), (8, .int (nI (g 174 (4 * who + x1 1 % 4)))), (7, .int (nI (safC g x1 x2 who y))), (6, .int (nI (mayC g x1 x2 who))), (5, .int (nI (ftX g x1 x2 (x1 1)))), (4, .int (nI (x1 1))), (3, .ref (60 + 2 * who)), (0, .ref 12), (1, .ref 44), (2, .int (nI who))]) (st' := [.ref (60 + 2 * who)]) (h' := HN (RO g 44 x0 x1 x2 x3) hl (RF rt)) rfl ?_
                  refine Ev_gfI rfl rfl rfl (kcP hwho) ?_
                  refine Ev.topI (congrArg nI ((RO_ne g 44 _ _ _ _ (fun k hk => by omega) 2).trans (hPl.1 who hwho).1)) ?_
                  refine Ev.run 1 (pc' := 224) (lv' := [(9, .int (nI (ldC g x1 x2 who y))), (8, .int (nI (g 174 (4 * who + x1 1 % 4)))), (7, .int (nI (safC g x1 x2 who y))), (6, .int (nI (mayC g x1 x2 who))), (5, .int (nI (ftX g x1 x2 (x1 1)))), (4, .int (nI (x1 1))), (3, .ref (60 + 2 * who)), (0, .ref 12), (1, .ref 44), (2, .int (nI who))]) (st' := [.int (nI 3), .int (nI (g 171 who))]) (h' := HN (RO g 44 x0 x1 x2 x3) hl (RF rt)) rfl ?_
                  refine Ev.call (a := 121) (as := [.int (nI (g 171 who)), .int (nI 3)]) (rest := []) (lv0 := [(0, .int (nI (g 171 who))), (1, .int (nI 3))]) (Q1 := (fun z0 h' => z0 = some (.int (nI (bn (undS (g 171 who) 3)))) ∧ h' = HN (RO g 44 x0 x1 x2 x3) hl (RF rt))) rfl rfl (K_und _ (HN g hl (RF rt)) (RO g 44 x0 x1 x2 x3) _ _ (g 171 who) 3 (by omega) (by omega) ⟨rfl, rfl⟩) (fun r h' hr => ?_)
                  obtain ⟨rfl, rfl⟩ := hr
                  refine Ev_bn (fun hb227 => ?_) (fun hb227 => ?_)
                  · skip
                    refine Ev.run 3 (pc' := 234) (lv' := [(9, .int (nI (ldC g x1 x2 who y))), (8, .int (nI (g 174 (4 * who + x1 1 % 4)))), (7, .int (nI (safC g x1 x2 who y))), (6, .int (nI (mayC g x1 x2 who))), (5, .int (nI (ftX g x1 x2 (x1 1)))), (4, .int (nI (x1 1))), (3, .ref (60 + 2 * who)), (0, .ref 12), (1, .ref 44), (2, .int (nI who))]) (st' := [.ref 45]) (h' := HN (RO g 44 x0 x1 x2 x3) hl (RF rt)) rfl ?_
                    refine Ev.call (a := 42) (as := [.ref 45]) (rest := []) (lv0 := [(0, .ref 45)]) (Q1 := (fun z0 h' => z0 = some (.int (nI (bn (decide (12 ≤ x1 1))))) ∧ h' = HN (RO g 44 x0 x1 x2 x3) hl (RF rt))) rfl rfl (K_isFull _ (RO g 44 x0 x1 x2 x3) _ _ 45 12 (ln45 rt) (show x1 1 < 2 ^ 31 by omega) ⟨rfl, rfl⟩) (fun r h' hr => ?_)
                    obtain ⟨rfl, rfl⟩ := hr
                    refine Ev_bn (fun hb237 => ?_) (fun hb237 => ?_)
                    · have hhb237 : 12 ≤ x1 1 := of_decide_eq_true hb237
                      refine Ev.run 2 (pc' := 251) (lv' := [(9, .int (nI (ldC g x1 x2 who y))), (8, .int (nI (g 174 (4 * who + x1 1 % 4)))), (7, .int (nI (safC g x1 x2 who y))), (6, .int (nI (mayC g x1 x2 who))), (5, .int (nI (ftX g x1 x2 (x1 1)))), (4, .int (nI (x1 1))), (3, .ref (60 + 2 * who)), (0, .ref 12), (1, .ref 44), (2, .int (nI who))]) (st' := [.int (nI 10)]) (h' := HN (RO g 44 x0 x1 x2 x3) hl (RF rt)) rfl ?_
                      refine Ev.ret (v := some (.int (nI 10))) rfl ?_
                      have e : chC g x0 x1 x2 x3 who y = 10 := by
                        unfold chC
                        rw [if_neg (fun z => tf z.2 hb100)]
                        rw [if_pos hc143]
                        rw [if_pos hc154]
                        rw [if_neg (fun z => by have := z.2; omega)]
                        rw [if_pos hc210]
                        rw [if_neg (fun z => by have h1 := of_decide_eq_true hb237; have h2 := z.2; omega)]
                      rw [e] at hq
                      exact hq
                    · have hhb237 : ¬ (12 ≤ x1 1) := of_decide_eq_false hb237
                      refine Ev.run 2 (pc' := 241) (lv' := [(9, .int (nI (ldC g x1 x2 who y))), (8, .int (nI (g 174 (4 * who + x1 1 % 4)))), (7, .int (nI (safC g x1 x2 who y))), (6, .int (nI (mayC g x1 x2 who))), (5, .int (nI (ftX g x1 x2 (x1 1)))), (4, .int (nI (x1 1))), (3, .ref (60 + 2 * who)), (0, .ref 12), (1, .ref 44), (2, .int (nI who))]) (st' := [.ref (60 + 2 * who)]) (h' := HN (RO g 44 x0 x1 x2 x3) hl (RF rt)) rfl ?_
                      refine Ev_gfI rfl rfl rfl (kcP hwho) ?_
                      refine Ev.topI (congrArg nI ((RO_ne g 44 _ _ _ _ (fun k hk => by omega) 3).trans (hPl.1 who hwho).2)) ?_
                      refine Ev.run 1 (pc' := 245) (lv' := [(9, .int (nI (ldC g x1 x2 who y))), (8, .int (nI (g 174 (4 * who + x1 1 % 4)))), (7, .int (nI (safC g x1 x2 who y))), (6, .int (nI (mayC g x1 x2 who))), (5, .int (nI (ftX g x1 x2 (x1 1)))), (4, .int (nI (x1 1))), (3, .ref (60 + 2 * who)), (0, .ref 12), (1, .ref 44), (2, .int (nI who))]) (st' := [.int (nI 4), .int (nI (g 172 who))]) (h' := HN (RO g 44 x0 x1 x2 x3) hl (RF rt)) rfl ?_
                      refine Ev_irem rfl (by omega) (by omega) (by omega) ?_
                      refine Ev.run 1 (pc' := 251) (lv' := [(9, .int (nI (ldC g x1 x2 who y))), (8, .int (nI (g 174 (4 * who + x1 1 % 4)))), (7, .int (nI (safC g x1 x2 who y))), (6, .int (nI (mayC g x1 x2 who))), (5, .int (nI (ftX g x1 x2 (x1 1)))), (4, .int (nI (x1 1))), (3, .ref (60 + 2 * who)), (0, .ref 12), (1, .ref 44), (2, .int (nI who))]) (st' := [.int (nI ((g 172 who) % 4))]) (h' := HN (RO g 44 x0 x1 x2 x3) hl (RF rt)) rfl ?_
                      refine Ev.ret (v := some (.int (nI ((g 172 who) % 4)))) rfl ?_
                      have e : chC g x0 x1 x2 x3 who y = (g 172 who) % 4 := by
                        unfold chC
                        rw [if_neg (fun z => tf z.2 hb100)]
                        rw [if_pos hc143]
                        rw [if_pos hc154]
                        rw [if_neg (fun z => by have := z.2; omega)]
                        rw [if_pos hc210]
                        rw [if_pos ⟨hb227, by have := of_decide_eq_false hb237; omega⟩]
                      rw [e] at hq
                      exact hq
                  · skip
                    refine Ev.run 2 (pc' := 251) (lv' := [(9, .int (nI (ldC g x1 x2 who y))), (8, .int (nI (g 174 (4 * who + x1 1 % 4)))), (7, .int (nI (safC g x1 x2 who y))), (6, .int (nI (mayC g x1 x2 who))), (5, .int (nI (ftX g x1 x2 (x1 1)))), (4, .int (nI (x1 1))), (3, .ref (60 + 2 * who)), (0, .ref 12), (1, .ref 44), (2, .int (nI who))]) (st' := [.int (nI 10)]) (h' := HN (RO g 44 x0 x1 x2 x3) hl (RF rt)) rfl ?_
                    refine Ev.ret (v := some (.int (nI 10))) rfl ?_
                    have e : chC g x0 x1 x2 x3 who y = 10 := by
                      unfold chC
                      rw [if_neg (fun z => tf z.2 hb100)]
                      rw [if_pos hc143]
                      rw [if_pos hc154]
                      rw [if_neg (fun z => by have := z.2; omega)]
                      rw [if_pos hc210]
                      rw [if_neg (fun z => tf z.1 hb227)]
                    rw [e] at hq
                    exact hq
                · have hc210 : ¬ ((mayC g x1 x2 who) = 0) := fun z => hc210 ((nI_eqU0 (by omega)).mpr z)
                  refine Ev.run 1 (pc' := 215) (lv' := [(9, .int (nI (ldC g x1 x2 who y))), (8, .int (nI (g 174 (4 * who + x1 1 % 4)))), (7, .int (nI (safC g x1 x2 who y))), (6, .int (nI (mayC g x1 x2 who))), (5, .int (nI (ftX g x1 x2 (x1 1)))), (4, .int (nI (x1 1))), (3, .ref (60 + 2 * who)), (0, .ref 12), (1, .ref 44), (2, .int (nI who))]) (st' := [.int (nI (mayC g x1 x2 who))]) (h' := HN (RO g 44 x0 x1 x2 x3) hl (RF rt)) rfl ?_
                  refine Ev.call (a := 123) (as := [.int (nI (mayC g x1 x2 who))]) (rest := []) (lv0 := [(0, .int (nI (mayC g x1 x2 who)))]) (Q1 := (fun z0 h' => z0 = some (.int (nI (frS (mayC g x1 x2 who)))) ∧ h' = HN (RO g 44 x0 x1 x2 x3) hl (RF rt))) rfl rfl (K_first _ _ _ _ (mayC g x1 x2 who) (by omega) ⟨rfl, rfl⟩) (fun r h' hr => ?_)
                  obtain ⟨rfl, rfl⟩ := hr
                  refine Ev.ret (v := some (.int (nI (frS (mayC g x1 x2 who))))) rfl ?_
                  have e : chC g x0 x1 x2 x3 who y = frS (mayC g x1 x2 who) := by
                    unfold chC
                    rw [if_neg (fun z => tf z.2 hb100)]
                    rw [if_pos hc143]
                    rw [if_pos hc154]
                    rw [if_neg (fun z => by have := z.2; omega)]
                    rw [if_neg hc210]
                  rw [e] at hq
                  exact hq
              · have hc202 : ¬ (2147483648 ≤ (x0 3)) := fun z => hc202 ((nI_ltU0 (by omega)).mpr z)
                refine Ev.run 1 (pc' := 207) (lv' := [(9, .int (nI (ldC g x1 x2 who y))), (8, .int (nI (g 174 (4 * who + x1 1 % 4)))), (7, .int (nI (safC g x1 x2 who y))), (6, .int (nI (mayC g x1 x2 who))), (5, .int (nI (ftX g x1 x2 (x1 1)))), (4, .int (nI (x1 1))), (3, .ref (60 + 2 * who)), (0, .ref 12), (1, .ref 44), (2, .int (nI who))]) (st' := [.int (nI 10)]) (h' := HN (RO g 44 x0 x1 x2 x3) hl (RF rt)) rfl ?_
                refine Ev.ret (v := some (.int (nI 10))) rfl ?_
                have e : chC g x0 x1 x2 x3 who y = 10 := by
                  unfold chC
                  rw [if_neg (fun z => tf z.2 hb100)]
                  rw [if_pos hc143]
                  rw [if_pos hc154]
                  rw [if_pos ⟨hb195, by omega⟩]
                rw [e] at hq
                exact hq
            · skip
              refine Ev.run 3 (pc' := (if nI (mayC g x1 x2 who) = 0 then 219 else 213)) (lv' := [(9, .int (nI (ldC g x1 x2 who y))), (8, .int (nI (g 174 (4 * who + x1 1 % 4)))), (7, .int (nI (safC g x1 x2 who y))), (6, .int (nI (mayC g x1 x2 who))), (5, .int (nI (ftX g x1 x2 (x1 1)))), (4, .int (nI (x1 1))), (3, .ref (60 + 2 * who)), (0, .ref 12), (1, .ref 44), (2, .int (nI who))]) (st' := []) (h' := HN (RO g 44 x0 x1 x2 x3) hl (RF rt)) rfl ?_
              refine Ev.ite (fun hc210 => ?_) (fun hc210 => ?_)
              · have hc210 : (mayC g x1 x2 who) = 0 := (nI_eqU0 (by omega)).mp hc210
                refine Ev.run 1 (pc' := 220) (lv' := [(9, .int (nI (ldC g x1 x2 who y))), (8, .int (nI (g 174 (4 * who + x1 1 % 4)))), (7, .int (nI (safC g x1 x2 who y))), (6, .int (nI (mayC g x1 x2 who))), (5, .int (nI (ftX g x1 x2 (x1 1)))), (4, .int (nI (x1 1))), (3, .ref (60 + 2 * who)), (0, .ref 12), (1, .ref 44), (2, .int (nI who))]) (st' := [.ref (60 + 2 * who)]) (h' := HN (RO g 44 x0 x1 x2 x3) hl (RF rt)) rfl ?_
                refine Ev_gfI rfl rfl rfl (kcP hwho) ?_
                refine Ev.topI (congrArg nI ((RO_ne g 44 _ _ _ _ (fun k hk => by omega) 2).trans (hPl.1 who hwho).1)) ?_
                refine Ev.run 1 (pc' := 224) (lv' := [(9, .int (nI (ldC g x1 x2 who y))), (8, .int (nI (g 174 (4 * who + x1 1 % 4)))), (7, .int (nI (safC g x1 x2 who y))), (6, .int (nI (mayC g x1 x2 who))), (5, .int (nI (ftX g x1 x2 (x1 1)))), (4, .int (nI (x1 1))), (3, .ref (60 + 2 * who)), (0, .ref 12), (1, .ref 44), (2, .int (nI who))]) (st' := [.int (nI 3), .int (nI (g 171 who))]) (h' := HN (RO g 44 x0 x1 x2 x3) hl (RF rt)) rfl ?_
                refine Ev.call (a := 121) (as := [.int (nI (g 171 who)), .int (nI 3)]) (rest := []) (lv0 := [(0, .int (nI (g 171 who))), (1, .int (nI 3))]) (Q1 := (fun z0 h' => z0 = some (.int (nI (bn (undS (g 171 who) 3)))) ∧ h' = HN (RO g 44 x0 x1 x2 x3) hl (RF rt))) rfl rfl (K_und _ (HN g hl (RF rt)) (RO g 44 x0 x1 x2 x3) _ _ (g 171 who) 3 (by omega) (by omega) ⟨rfl, rfl⟩) (fun r h' hr => ?_)
                obtain ⟨rfl, rfl⟩ := hr
                refine Ev_bn (fun hb227 => ?_) (fun hb227 => ?_)
                · skip
                  refine Ev.run 3 (pc' := 234) (lv' := [(9, .int (nI (ldC g x1 x2 who y))), (8, .int (nI (g 174 (4 * who + x1 1 % 4)))), (7, .int (nI (safC g x1 x2 who y))), (6, .int (nI (mayC g x1 x2 who))), (5, .int (nI (ftX g x1 x2 (x1 1)))), (4, .int (nI (x1 1))), (3, .ref (60 + 2 * who)), (0, .ref 12), (1, .ref 44), (2, .int (nI who))]) (st' := [.ref 45]) (h' := HN (RO g 44 x0 x1 x2 x3) hl (RF rt)) rfl ?_
                  refine Ev.call (a := 42) (as := [.ref 45]) (rest := []) (lv0 := [(0, .ref 45)]) (Q1 := (fun z0 h' => z0 = some (.int (nI (bn (decide (12 ≤ x1 1))))) ∧ h' = HN (RO g 44 x0 x1 x2 x3) hl (RF rt))) rfl rfl (K_isFull _ (RO g 44 x0 x1 x2 x3) _ _ 45 12 (ln45 rt) (show x1 1 < 2 ^ 31 by omega) ⟨rfl, rfl⟩) (fun r h' hr => ?_)
                  obtain ⟨rfl, rfl⟩ := hr
                  refine Ev_bn (fun hb237 => ?_) (fun hb237 => ?_)
                  · have hhb237 : 12 ≤ x1 1 := of_decide_eq_true hb237
                    refine Ev.run 2 (pc' := 251) (lv' := [(9, .int (nI (ldC g x1 x2 who y))), (8, .int (nI (g 174 (4 * who + x1 1 % 4)))), (7, .int (nI (safC g x1 x2 who y))), (6, .int (nI (mayC g x1 x2 who))), (5, .int (nI (ftX g x1 x2 (x1 1)))), (4, .int (nI (x1 1))), (3, .ref (60 + 2 * who)), (0, .ref 12), (1, .ref 44), (2, .int (nI who))]) (st' := [.int (nI 10)]) (h' := HN (RO g 44 x0 x1 x2 x3) hl (RF rt)) rfl ?_
                    refine Ev.ret (v := some (.int (nI 10))) rfl ?_
                    have e : chC g x0 x1 x2 x3 who y = 10 := by
                      unfold chC
                      rw [if_neg (fun z => tf z.2 hb100)]
                      rw [if_pos hc143]
                      rw [if_pos hc154]
                      rw [if_neg (fun z => tf z.1 hb195)]
                      rw [if_pos hc210]
                      rw [if_neg (fun z => by have h1 := of_decide_eq_true hb237; have h2 := z.2; omega)]
                    rw [e] at hq
                    exact hq
                  · have hhb237 : ¬ (12 ≤ x1 1) := of_decide_eq_false hb237
                    refine Ev.run 2 (pc' := 241) (lv' := [(9, .int (nI (ldC g x1 x2 who y))), (8, .int (nI (g 174 (4 * who + x1 1 % 4)))), (7, .int (nI (safC g x1 x2 who y))), (6, .int (nI (mayC g x1 x2 who))), (5, .int (nI (ftX g x1 x2 (x1 1)))), (4, .int (nI (x1 1))), (3, .ref (60 + 2 * who)), (0, .ref 12), (1, .ref 44), (2, .int (nI who))]) (st' := [.ref (60 + 2 * who)]) (h' := HN (RO g 44 x0 x1 x2 x3) hl (RF rt)) rfl ?_
                    refine Ev_gfI rfl rfl rfl (kcP hwho) ?_
                    refine Ev.topI (congrArg nI ((RO_ne g 44 _ _ _ _ (fun k hk => by omega) 3).trans (hPl.1 who hwho).2)) ?_
                    refine Ev.run 1 (pc' := 245) (lv' := [(9, .int (nI (ldC g x1 x2 who y))), (8, .int (nI (g 174 (4 * who + x1 1 % 4)))), (7, .int (nI (safC g x1 x2 who y))), (6, .int (nI (mayC g x1 x2 who))), (5, .int (nI (ftX g x1 x2 (x1 1)))), (4, .int (nI (x1 1))), (3, .ref (60 + 2 * who)), (0, .ref 12), (1, .ref 44), (2, .int (nI who))]) (st' := [.int (nI 4), .int (nI (g 172 who))]) (h' := HN (RO g 44 x0 x1 x2 x3) hl (RF rt)) rfl ?_
                    refine Ev_irem rfl (by omega) (by omega) (by omega) ?_
                    refine Ev.run 1 (pc' := 251) (lv' := [(9, .int (nI (ldC g x1 x2 who y))), (8, .int (nI (g 174 (4 * who + x1 1 % 4)))), (7, .int (nI (safC g x1 x2 who y))), (6, .int (nI (mayC g x1 x2 who))), (5, .int (nI (ftX g x1 x2 (x1 1)))), (4, .int (nI (x1 1))), (3, .ref (60 + 2 * who)), (0, .ref 12), (1, .ref 44), (2, .int (nI who))]) (st' := [.int (nI ((g 172 who) % 4))]) (h' := HN (RO g 44 x0 x1 x2 x3) hl (RF rt)) rfl ?_
                    refine Ev.ret (v := some (.int (nI ((g 172 who) % 4)))) rfl ?_
                    have e : chC g x0 x1 x2 x3 who y = (g 172 who) % 4 := by
                      unfold chC
                      rw [if_neg (fun z => tf z.2 hb100)]
                      rw [if_pos hc143]
                      rw [if_pos hc154]
                      rw [if_neg (fun z => tf z.1 hb195)]
                      rw [if_pos hc210]
                      rw [if_pos ⟨hb227, by have := of_decide_eq_false hb237; omega⟩]
                    rw [e] at hq
                    exact hq
                · skip
                  refine Ev.run 2 (pc' := 251) (lv' := [(9, .int (nI (ldC g x1 x2 who y))), (8, .int (nI (g 174 (4 * who + x1 1 % 4)))), (7, .int (nI (safC g x1 x2 who y))), (6, .int (nI (mayC g x1 x2 who))), (5, .int (nI (ftX g x1 x2 (x1 1)))), (4, .int (nI (x1 1))), (3, .ref (60 + 2 * who)), (0, .ref 12), (1, .ref 44), (2, .int (nI who))]) (st' := [.int (nI 10)]) (h' := HN (RO g 44 x0 x1 x2 x3) hl (RF rt)) rfl ?_
                  refine Ev.ret (v := some (.int (nI 10))) rfl ?_
                  have e : chC g x0 x1 x2 x3 who y = 10 := by
                    unfold chC
                    rw [if_neg (fun z => tf z.2 hb100)]
                    rw [if_pos hc143]
                    rw [if_pos hc154]
                    rw [if_neg (fun z => tf z.1 hb195)]
                    rw [if_pos hc210]
                    rw [if_neg (fun z => tf z.1 hb227)]
                  rw [e] at hq
                  exact hq
              · have hc210 : ¬ ((mayC g x1 x2 who) = 0) := fun z => hc210 ((nI_eqU0 (by omega)).mpr z)
                refine Ev.run 1 (pc' := 215) (lv' := [(9, .int (nI (ldC g x1 x2 who y))), (8, .int (nI (g 174 (4 * who + x1 1 % 4)))), (7, .int (nI (safC g x1 x2 who y))), (6, .int (nI (mayC g x1 x2 who))), (5, .int (nI (ftX g x1 x2 (x1 1)))), (4, .int (nI (x1 1))), (3, .ref (60 + 2 * who)), (0, .ref 12), (1, .ref 44), (2, .int (nI who))]) (st' := [.int (nI (mayC g x1 x2 who))]) (h' := HN (RO g 44 x0 x1 x2 x3) hl (RF rt)) rfl ?_
                refine Ev.call (a := 123) (as := [.int (nI (mayC g x1 x2 who))]) (rest := []) (lv0 := [(0, .int (nI (mayC g x1 x2 who)))]) (Q1 := (fun z0 h' => z0 = some (.int (nI (frS (mayC g x1 x2 who)))) ∧ h' = HN (RO g 44 x0 x1 x2 x3) hl (RF rt))) rfl rfl (K_first _ _ _ _ (mayC g x1 x2 who) (by omega) ⟨rfl, rfl⟩) (fun r h' hr => ?_)
                obtain ⟨rfl, rfl⟩ := hr
                refine Ev.ret (v := some (.int (nI (frS (mayC g x1 x2 who))))) rfl ?_
                have e : chC g x0 x1 x2 x3 who y = frS (mayC g x1 x2 who) := by
                  unfold chC
                  rw [if_neg (fun z => tf z.2 hb100)]
                  rw [if_pos hc143]
                  rw [if_pos hc154]
                  rw [if_neg (fun z => tf z.1 hb195)]
                  rw [if_neg hc210]
                rw [e] at hq
                exact hq
          · have hc154 : ¬ ((safC g x1 x2 who y) = 0) := fun z => hc154 ((nI_eqU0 (by omega)).mpr z)
            refine Ev.run 1 (pc' := 158) (lv' := [(9, .int (nI (ldC g x1 x2 who y))), (8, .int (nI (g 174 (4 * who + x1 1 % 4)))), (7, .int (nI (safC g x1 x2 who y))), (6, .int (nI (mayC g x1 x2 who))), (5, .int (nI (ftX g x1 x2 (x1 1)))), (4, .int (nI (x1 1))), (3, .ref (60 + 2 * who)), (0, .ref 12), (1, .ref 44), (2, .int (nI who))]) (st' := [.ref (60 + 2 * who)]) (h' := HN (RO g 44 x0 x1 x2 x3) hl (RF rt)) rfl ?_
            refine Ev_gfI rfl rfl rfl (kcP hwho) ?_
            refine Ev.topI (congrArg nI ((RO_ne g 44 _ _ _ _ (fun k hk => by omega) 2).trans (hPl.1 who hwho).1)) ?_
            refine Ev.run 1 (pc' := 162) (lv' := [(9, .int (nI (ldC g x1 x2 who y))), (8, .int (nI (g 174 (4 * who + x1 1 % 4)))), (7, .int (nI (safC g x1 x2 who y))), (6, .int (nI (mayC g x1 x2 who))), (5, .int (nI (ftX g x1 x2 (x1 1)))), (4, .int (nI (x1 1))), (3, .ref (60 + 2 * who)), (0, .ref 12), (1, .ref 44), (2, .int (nI who))]) (st' := [.int (nI 1), .int (nI (g 171 who))]) (h' := HN (RO g 44 x0 x1 x2 x3) hl (RF rt)) rfl ?_
            refine Ev.call (a := 121) (as := [.int (nI (g 171 who)), .int (nI 1)]) (rest := []) (lv0 := [(0, .int (nI (g 171 who))), (1, .int (nI 1))]) (Q1 := (fun z0 h' => z0 = some (.int (nI (bn (undS (g 171 who) 1)))) ∧ h' = HN (RO g 44 x0 x1 x2 x3) hl (RF rt))) rfl rfl (K_und _ (HN g hl (RF rt)) (RO g 44 x0 x1 x2 x3) _ _ (g 171 who) 1 (by omega) (by omega) ⟨rfl, rfl⟩) (fun r h' hr => ?_)
            obtain ⟨rfl, rfl⟩ := hr
            refine Ev_bn (fun hb165 => ?_) (fun hb165 => ?_)
            · skip
              refine Ev.run 6 (pc' := 175) (lv' := [(9, .int (nI (ldC g x1 x2 who y))), (8, .int (nI (g 174 (4 * who + x1 1 % 4)))), (7, .int (nI (safC g x1 x2 who y))), (6, .int (nI (mayC g x1 x2 who))), (5, .int (nI (ftX g x1 x2 (x1 1)))), (4, .int (nI (x1 1))), (3, .ref (60 + 2 * who)), (0, .ref 12), (1, .ref 44), (2, .int (nI who))]) (st' := [.int (nI (safC g x1 x2 who y)), .int (nI (ftX g x1 x2 (x1 1))), .int (nI who), .ref 44, .ref 12]) (h' := HN (RO g 44 x0 x1 x2 x3) hl (RF rt)) rfl ?_
              refine Ev.call (a := 40) (as := [.ref 12, .ref 44, .int (nI who), .int (nI (ftX g x1 x2 (x1 1))), .int (nI (safC g x1 x2 who y))]) (rest := []) (lv0 := [(0, .ref 12), (1, .ref 44), (2, .int (nI who)), (3, .int (nI (ftX g x1 x2 (x1 1)))), (4, .int (nI (safC g x1 x2 who y)))]) (Q1 := (fun z0 h' => z0 = some (.int (nI (syC g x1 x3 who (ftX g x1 x2 (x1 1)) (safC g x1 x2 who y)))) ∧ h' = HN (RO g 44 x0 x1 x2 x3) hl (RF rt))) rfl rfl (K44_slyest _ g _ _ hI hB hP5 hk59 x0 x1 x2 x3 hx3 (by omega) who (ftX g x1 x2 (x1 1)) (safC g x1 x2 who y) (by omega) (by omega) (by omega) ⟨rfl, rfl⟩) (fun r h' hr => ?_)
              obtain ⟨rfl, rfl⟩ := hr
              refine Ev.run 1 (pc' := 186) (lv' := [(9, .int (nI (ldC g x1 x2 who y))), (8, .int (nI (g 174 (4 * who + x1 1 % 4)))), (7, .int (nI (safC g x1 x2 who y))), (6, .int (nI (mayC g x1 x2 who))), (5, .int (nI (ftX g x1 x2 (x1 1)))), (4, .int (nI (x1 1))), (3, .ref (60 + 2 * who)), (0, .ref 12), (1, .ref 44), (2, .int (nI who))]) (st' := [.int (nI (syC g x1 x3 who (ftX g x1 x2 (x1 1)) (safC g x1 x2 who y)))]) (h' := HN (RO g 44 x0 x1 x2 x3) hl (RF rt)) rfl ?_
              refine Ev.ret (v := some (.int (nI (syC g x1 x3 who (ftX g x1 x2 (x1 1)) (safC g x1 x2 who y))))) rfl ?_
              have e : chC g x0 x1 x2 x3 who y = syC g x1 x3 who (ftX g x1 x2 (x1 1)) (safC g x1 x2 who y) := by
                unfold chC
                rw [if_neg (fun z => tf z.2 hb100)]
                rw [if_pos hc143]
                rw [if_neg hc154]
                rw [if_pos hb165]
              rw [e] at hq
              exact hq
            · skip
              refine Ev.run 2 (pc' := 183) (lv' := [(9, .int (nI (ldC g x1 x2 who y))), (8, .int (nI (g 174 (4 * who + x1 1 % 4)))), (7, .int (nI (safC g x1 x2 who y))), (6, .int (nI (mayC g x1 x2 who))), (5, .int (nI (ftX g x1 x2 (x1 1)))), (4, .int (nI (x1 1))), (3, .ref (60 + 2 * who)), (0, .ref 12), (1, .ref 44), (2, .int (nI who))]) (st' := [.int (nI (safC g x1 x2 who y))]) (h' := HN (RO g 44 x0 x1 x2 x3) hl (RF rt)) rfl ?_
              refine Ev.call (a := 123) (as := [.int (nI (safC g x1 x2 who y))]) (rest := []) (lv0 := [(0, .int (nI (safC g x1 x2 who y)))]) (Q1 := (fun z0 h' => z0 = some (.int (nI (frS (safC g x1 x2 who y)))) ∧ h' = HN (RO g 44 x0 x1 x2 x3) hl (RF rt))) rfl rfl (K_first _ _ _ _ (safC g x1 x2 who y) (by omega) ⟨rfl, rfl⟩) (fun r h' hr => ?_)
              obtain ⟨rfl, rfl⟩ := hr
              refine Ev.ret (v := some (.int (nI (frS (safC g x1 x2 who y))))) rfl ?_
              have e : chC g x0 x1 x2 x3 who y = frS (safC g x1 x2 who y) := by
                unfold chC
                rw [if_neg (fun z => tf z.2 hb100)]
                rw [if_pos hc143]
                rw [if_neg hc154]
                rw [if_neg (fun z => tf z hb165)]
              rw [e] at hq
              exact hq
        · have hc143 : ¬ ((ldC g x1 x2 who y) = 0) := fun z => hc143 ((nI_eqU0 (by omega)).mpr z)
          refine Ev.run 1 (pc' := 148) (lv' := [(9, .int (nI (ldC g x1 x2 who y))), (8, .int (nI (g 174 (4 * who + x1 1 % 4)))), (7, .int (nI (safC g x1 x2 who y))), (6, .int (nI (mayC g x1 x2 who))), (5, .int (nI (ftX g x1 x2 (x1 1)))), (4, .int (nI (x1 1))), (3, .ref (60 + 2 * who)), (0, .ref 12), (1, .ref 44), (2, .int (nI who))]) (st' := [.int (nI (ldC g x1 x2 who y))]) (h' := HN (RO g 44 x0 x1 x2 x3) hl (RF rt)) rfl ?_
          refine Ev.call (a := 123) (as := [.int (nI (ldC g x1 x2 who y))]) (rest := []) (lv0 := [(0, .int (nI (ldC g x1 x2 who y)))]) (Q1 := (fun z0 h' => z0 = some (.int (nI (frS (ldC g x1 x2 who y)))) ∧ h' = HN (RO g 44 x0 x1 x2 x3) hl (RF rt))) rfl rfl (K_first _ _ _ _ (ldC g x1 x2 who y) (by omega) ⟨rfl, rfl⟩) (fun r h' hr => ?_)
          obtain ⟨rfl, rfl⟩ := hr
          refine Ev.ret (v := some (.int (nI (frS (ldC g x1 x2 who y))))) rfl ?_
          have e : chC g x0 x1 x2 x3 who y = frS (ldC g x1 x2 who y) := by
            unfold chC
            rw [if_neg (fun z => tf z.2 hb100)]
            rw [if_neg hc143]
          rw [e] at hq
          exact hq
  · have hc90 : ¬ ((g 171 who) = 6) := fun z => hc90 ((nI_eqU (by omega) (by omega)).mpr z)
    refine Ev.run 1 (pc' := 107) (lv' := [(8, .int (nI (g 174 (4 * who + x1 1 % 4)))), (7, .int (nI (safC g x1 x2 who y))), (6, .int (nI (mayC g x1 x2 who))), (5, .int (nI (ftX g x1 x2 (x1 1)))), (4, .int (nI (x1 1))), (3, .ref (60 + 2 * who)), (0, .ref 12), (1, .ref 44), (2, .int (nI who))]) (st' := [.ref (60 + 2 * who)]) (h' := HN (RO g 44 x0 x1 x2 x3) hl (RF rt)) rfl ?_
    refine Ev_gfI rfl rfl rfl (kcP hwho) ?_
    refine Ev.topI (congrArg nI ((RO_ne g 44 _ _ _ _ (fun k hk => by omega) 2).trans (hPl.1 who hwho).1)) ?_
    refine Ev.run 2 (pc' := (if nI (g 171 who) = nI 4 then 114 else 138)) (lv' := [(8, .int (nI (g 174 (4 * who + x1 1 % 4)))), (7, .int (nI (safC g x1 x2 who y))), (6, .int (nI (mayC g x1 x2 who))), (5, .int (nI (ftX g x1 x2 (x1 1)))), (4, .int (nI (x1 1))), (3, .ref (60 + 2 * who)), (0, .ref 12), (1, .ref 44), (2, .int (nI who))]) (st' := []) (h' := HN (RO g 44 x0 x1 x2 x3) hl (RF rt)) rfl ?_
    refine Ev.ite (fun hc111 => ?_) (fun hc111 => ?_)
    · have hc111 : (g 171 who) = 4 := (nI_eqU (by omega) (by omega)).mp hc111
      refine Ev.run 7 (pc' := 128) (lv' := [(8, .int (nI (g 174 (4 * who + x1 1 % 4)))), (7, .int (nI (safC g x1 x2 who y))), (6, .int (nI (mayC g x1 x2 who))), (5, .int (nI (ftX g x1 x2 (x1 1)))), (4, .int (nI (x1 1))), (3, .ref (60 + 2 * who)), (0, .ref 12), (1, .ref 44), (2, .int (nI who))]) (st' := [.ref rt.2.2.1, .int (nI (x1 1)), .int (nI (ftX g x1 x2 (x1 1))), .ref 13, .int (nI (safC g x1 x2 who y))]) (h' := HN (RO g 44 x0 x1 x2 x3) hl (RF rt)) rfl ?_
      refine Ev_gfI rfl rfl rfl hT.1 ?_
      refine Ev.topI (congrArg nI ((RO_ne g 44 _ _ _ _ (fun k hk => by have := hT.2.2.2 k hk; omega) 3).trans hT.2.2.1)) ?_
      refine Ev.call (a := 19) (as := [.ref 13, .int (nI (ftX g x1 x2 (x1 1))), .int (nI (x1 1)), .int (nI y)]) (rest := [.int (nI (safC g x1 x2 who y))]) (lv0 := [(0, .ref 13), (1, .int (nI (ftX g x1 x2 (x1 1)))), (2, .int (nI (x1 1))), (3, .int (nI y))]) (Q1 := (fun z0 h' => z0 = some (.int (nI (wiF g (ftX g x1 x2 (x1 1)) (x1 1) y (XL g (x1 1))))) ∧ h' = HN (RO g 44 x0 x1 x2 x3) hl (RF rt))) rfl rfl (K_winning _ (RO g 44 x0 x1 x2 x3) _ _ (hI.mRO (by decide)) (hB.cRO (by decide)) (ftX g x1 x2 (x1 1)) (by omega) (x1 1) y (XL g (x1 1)) (by omega) (by omega) (fun h => (if_pos h).symm) (fun h => if_neg (by omega)) (by unfold XL; split <;> first | exact hlo _ (by omega) | decide) ⟨rfl, rfl⟩) (fun r h' hr => ?_)
      obtain ⟨rfl, rfl⟩ := hr
      have hwif : wiF g (ftX g x1 x2 (x1 1)) (x1 1) y (XL g (x1 1)) < 16 := bset_lt _ 4
      have hlan := and_le (safC g x1 x2 who y) (wiF g (ftX g x1 x2 (x1 1)) (x1 1) y (XL g (x1 1)))
      refine Ev.run 1 (pc' := 135) (lv' := [(8, .int (nI (g 174 (4 * who + x1 1 % 4)))), (7, .int (nI (safC g x1 x2 who y))), (6, .int (nI (mayC g x1 x2 who))), (5, .int (nI (ftX g x1 x2 (x1 1)))), (4, .int (nI (x1 1))), (3, .ref (60 + 2 * who)), (0, .ref 12), (1, .ref 44), (2, .int (nI who))]) (st' := [.int (nI (safC g x1 x2 who y) &&& nI (wiF g (ftX g x1 x2 (x1 1)) (x1 1) y (XL g (x1 1))))]) (h' := HN (RO g 44 x0 x1 x2 x3) hl (RF rt)) rfl ?_
      refine Ev.topI (nIa _ _) ?_
      refine Ev.run 1 (pc' := 139) (lv' := [(8, .int (nI (g 174 (4 * who + x1 1 % 4)))), (7, .int (nI (safC g x1 x2 who y))), (6, .int (nI (mayC g x1 x2 who))), (5, .int (nI (ftX g x1 x2 (x1 1)))), (4, .int (nI (x1 1))), (3, .ref (60 + 2 * who)), (0, .ref 12), (1, .ref 44), (2, .int (nI who))]) (st' := [.int (nI ((safC g x1 x2 who y) &&& (wiF g (ftX g x1 x2 (x1 1)) (x1 1) y (XL g (x1 1)))))]) (h' := HN (RO g 44 x0 x1 x2 x3) hl (RF rt)) rfl ?_
      refine Ev.topI (congrArg nI (show (safC g x1 x2 who y) &&& (wiF g (ftX g x1 x2 (x1 1)) (x1 1) y (XL g (x1 1))) = ldC g x1 x2 who y by unfold ldC; first | rw [if_pos hc111] | rw [if_neg hc111])) ?_
      have hldc : ldC g x1 x2 who y < 16 := by unfold ldC; first | (rw [if_pos hc111]; omega) | (rw [if_neg hc111]; decide)
      refine Ev.run 3 (pc' := (if nI (ldC g x1 x2 who y) = 0 then 152 else 146)) (lv' := [(9, .int (nI (ldC g x1 x2 who y))), (8, .int (nI (g 174 (4 * who + x1 1 % 4)))), (7, .int (nI (safC g x1 x2 who y))), (6, .int (nI (mayC g x1 x2 who))), (5, .int (nI (ftX g x1 x2 (x1 1)))), (4, .int (nI (x1 1))), (3, .ref (60 + 2 * who)), (0, .ref 12), (1, .ref 44), (2, .int (nI who))]) (st' := []) (h' := HN (RO g 44 x0 x1 x2 x3) hl (RF rt)) rfl ?_
      refine Ev.ite (fun hc143 => ?_) (fun hc143 => ?_)
      · have hc143 : (ldC g x1 x2 who y) = 0 := (nI_eqU0 (by omega)).mp hc143
        refine Ev.run 2 (pc' := (if nI (safC g x1 x2 who y) = 0 then 187 else 157)) (lv' := [(9, .int (nI (ldC g x1 x2 who y))), (8, .int (nI (g 174 (4 * who + x1 1 % 4)))), (7, .int (nI (safC g x1 x2 who y))), (6, .int (nI (mayC g x1 x2 who))), (5, .int (nI (ftX g x1 x2 (x1 1)))), (4, .int (nI (x1 1))), (3, .ref (60 + 2 * who)), (0, .ref 12), (1, .ref 44), (2, .int (nI who))]) (st' := []) (h' := HN (RO g 44 x0 x1 x2 x3) hl (RF rt)) rfl ?_
        refine Ev.ite (fun hc154 => ?_) (fun hc154 => ?_)
        · have hc154 : (safC g x1 x2 who y) = 0 := (nI_eqU0 (by omega)).mp hc154
          refine Ev.run 1 (pc' := 188) (lv' := [(9, .int (nI (ldC g x1 x2 who y))), (8, .int (nI (g 174 (4 * who + x1 1 % 4)))), (7, .int (nI (safC g x1 x2 who y))), (6, .int (nI (mayC g x1 x2 who))), (5, .int (nI (ftX g x1 x2 (x1 1)))), (4, .int (nI (x1 1))), (3, .ref (60 + 2 * who)), (0, .ref 12), (1, .ref 44), (2, .int (nI who))]) (st' := [.ref (60 + 2 * who)]) (h' := HN (RO g 44 x0 x1 x2 x3) hl (RF rt)) rfl ?_
          refine Ev_gfI rfl rfl rfl (kcP hwho) ?_
          refine Ev.topI (congrArg nI ((RO_ne g 44 _ _ _ _ (fun k hk => by omega) 2).trans (hPl.1 who hwho).1)) ?_
          refine Ev.run 1 (pc' := 192) (lv' := [(9, .int (nI (ldC g x1 x2 who y))), (8, .int (nI (g 174 (4 * who + x1 1 % 4)))), (7, .int (nI (safC g x1 x2 who y))), (6, .int (nI (mayC g x1 x2 who))), (5, .int (nI (ftX g x1 x2 (x1 1)))), (4, .int (nI (x1 1))), (3, .ref (60 + 2 * who)), (0, .ref 12), (1, .ref 44), (2, .int (nI who))]) (st' := [.int (nI 2), .int (nI (g 171 who))]) (h' := HN (RO g 44 x0 x1 x2 x3) hl (RF rt)) rfl ?_
          refine Ev.call (a := 121) (as := [.int (nI (g 171 who)), .int (nI 2)]) (rest := []) (lv0 := [(0, .int (nI (g 171 who))), (1, .int (nI 2))]) (Q1 := (fun z0 h' => z0 = some (.int (nI (bn (undS (g 171 who) 2)))) ∧ h' = HN (RO g 44 x0 x1 x2 x3) hl (RF rt))) rfl rfl (K_und _ (HN g hl (RF rt)) (RO g 44 x0 x1 x2 x3) _ _ (g 171 who) 2 (by omega) (by omega) ⟨rfl, rfl⟩) (fun r h' hr => ?_)
          obtain ⟨rfl, rfl⟩ := hr
          refine Ev_bn (fun hb195 => ?_) (fun hb195 => ?_)
          · skip
            refine Ev.run 4 (pc' := (if nI (x0 3) < 0 then 208 else 205)) (lv' := [(9, .int (nI (ldC g x1 x2 who y))), (8, .int (nI (g 174 (4 * who + x1 1 % 4)))), (7, .int (nI (safC g x1 x2 who y))), (6, .int (nI (mayC g x1 x2 who))), (5, .int (nI (ftX g x1 x2 (x1 1)))), (4, .int (nI (x1 1))), (3, .ref (60 + 2 * who)), (0, .ref 12), (1, .ref 44), (2, .int (nI who))]) (st' := []) (h' := HN (RO g 44 x0 x1 x2 x3) hl (RF rt)) rfl ?_
            refine Ev.ite (fun hc202 => ?_) (fun hc202 => ?_)
            · have hc202 : 2147483648 ≤ (x0 3) := (nI_ltU0 (by omega)).mp hc202
              refine Ev.run 2 (pc' := (if nI (mayC g x1 x2 who) = 0 then 219 else 213)) (lv' := [(9, .int (nI (ldC g x1 x2 who y))), (8, .int (nI (g 174 (4 * who + x1 1 % 4)))), (7, .int (nI (safC g x1 x2 who y))), (6, .int (nI (mayC g x1 x2 who))), (5, .int (nI (ftX g x1 x2 (x1 1)))), (4, .int (nI (x1 1))), (3, .ref (60 + 2 * who)), (0, .ref 12), (1, .ref 44), (2, .int (nI who))]) (st' := []) (h' := HN (RO g 44 x0 x1 x2 x3) hl (RF rt)) rfl ?_
              refine Ev.ite (fun hc210 => ?_) (fun hc210 => ?_)
              · have hc210 : (mayC g x1 x2 who) = 0 := (nI_eqU0 (by omega)).mp hc210
                refine Ev.run 1 (pc' := 220) (lv' := [(9, .int (nI (ldC g x1 x2 who y))), (8, .int (nI (g 174 (4 * who + x1 1 % 4)))), (7, .int (nI (safC g x1 x2 who y))), (6, .int (nI (mayC g x1 x2 who))), (5, .int (nI (ftX g x1 x2 (x1 1)))), (4, .int (nI (x1 1))), (3, .ref (60 + 2 * who)), (0, .ref 12), (1, .ref 44), (2, .int (nI who))]) (st' := [.ref (60 + 2 * who)]) (h' := HN (RO g 44 x0 x1 x2 x3) hl (RF rt)) rfl ?_
                refine Ev_gfI rfl rfl rfl (kcP hwho) ?_
                refine Ev.topI (congrArg nI ((RO_ne g 44 _ _ _ _ (fun k hk => by omega) 2).trans (hPl.1 who hwho).1)) ?_
                refine Ev.run 1 (pc' := 224) (lv' := [(9, .int (nI (ldC g x1 x2 who y))), (8, .int (nI (g 174 (4 * who + x1 1 % 4)))), (7, .int (nI (safC g x1 x2 who y))), (6, .int (nI (mayC g x1 x2 who))), (5, .int (nI (ftX g x1 x2 (x1 1)))), (4, .int (nI (x1 1))), (3, .ref (60 + 2 * who)), (0, .ref 12), (1, .ref 44), (2, .int (nI who))]) (st' := [.int (nI 3), .int (nI (g 171 who))]) (h' := HN (RO g 44 x0 x1 x2 x3) hl (RF rt)) rfl ?_
                refine Ev.call (a := 121) (as := [.int (nI (g 171 who)), .int (nI 3)]) (rest := []) (lv0 := [(0, .int (nI (g 171 who))), (1, .int (nI 3))]) (Q1 := (fun z0 h' => z0 = some (.int (nI (bn (undS (g 171 who) 3)))) ∧ h' = HN (RO g 44 x0 x1 x2 x3) hl (RF rt))) rfl rfl (K_und _ (HN g hl (RF rt)) (RO g 44 x0 x1 x2 x3) _ _ (g 171 who) 3 (by omega) (by omega) ⟨rfl, rfl⟩) (fun r h' hr => ?_)
                obtain ⟨rfl, rfl⟩ := hr
                refine Ev_bn (fun hb227 => ?_) (fun hb227 => ?_)
                · skip
                  refine Ev.run 3 (pc' := 234) (lv' := [(9, .int (nI (ldC g x1 x2 who y))), (8, .int (nI (g 174 (4 * who + x1 1 % 4)))), (7, .int (nI (safC g x1 x2 who y))), (6, .int (nI (mayC g x1 x2 who))), (5, .int (nI (ftX g x1 x2 (x1 1)))), (4, .int (nI (x1 1))), (3, .ref (60 + 2 * who)), (0, .ref 12), (1, .ref 44), (2, .int (nI who))]) (st' := [.ref 45]) (h' := HN (RO g 44 x0 x1 x2 x3) hl (RF rt)) rfl ?_
                  refine Ev.call (a := 42) (as := [.ref 45]) (rest := []) (lv0 := [(0, .ref 45)]) (Q1 := (fun z0 h' => z0 = some (.int (nI (bn (decide (12 ≤ x1 1))))) ∧ h' = HN (RO g 44 x0 x1 x2 x3) hl (RF rt))) rfl rfl (K_isFull _ (RO g 44 x0 x1 x2 x3) _ _ 45 12 (ln45 rt) (show x1 1 < 2 ^ 31 by omega) ⟨rfl, rfl⟩) (fun r h' hr => ?_)
                  obtain ⟨rfl, rfl⟩ := hr
                  refine Ev_bn (fun hb237 => ?_) (fun hb237 => ?_)
                  · have hhb237 : 12 ≤ x1 1 := of_decide_eq_true hb237
                    refine Ev.run 2 (pc' := 251) (lv' := [(9, .int (nI (ldC g x1 x2 who y))), (8, .int (nI (g 174 (4 * who + x1 1 % 4)))), (7, .int (nI (safC g x1 x2 who y))), (6, .int (nI (mayC g x1 x2 who))), (5, .int (nI (ftX g x1 x2 (x1 1)))), (4, .int (nI (x1 1))), (3, .ref (60 + 2 * who)), (0, .ref 12), (1, .ref 44), (2, .int (nI who))]) (st' := [.int (nI 10)]) (h' := HN (RO g 44 x0 x1 x2 x3) hl (RF rt)) rfl ?_
                    refine Ev.ret (v := some (.int (nI 10))) rfl ?_
                    have e : chC g x0 x1 x2 x3 who y = 10 := by
                      unfold chC
                      rw [if_neg (fun z => hc90 z.1)]
                      rw [if_pos hc143]
                      rw [if_pos hc154]
                      rw [if_neg (fun z => by have := z.2; omega)]
                      rw [if_pos hc210]
                      rw [if_neg (fun z => by have h1 := of_decide_eq_true hb237; have h2 := z.2; omega)]
                    rw [e] at hq
                    exact hq
                  · have hhb237 : ¬ (12 ≤ x1 1) := of_decide_eq_false hb237
                    refine Ev.run 2 (pc' := 241) (lv' := [(9, .int (nI (ldC g x1 x2 who y))), (8, .int (nI (g 174 (4 * who + x1 1 % 4)))), (7, .int (nI (safC g x1 x2 who y))), (6, .int (nI (mayC g x1 x2 who))), (5, .int (nI (ftX g x1 x2 (x1 1)))), (4, .int (nI (x1 1))), (3, .ref (60 + 2 * who)), (0, .ref 12), (1, .ref 44), (2, .int (nI who))]) (st' := [.ref (60 + 2 * who)]) (h' := HN (RO g 44 x0 x1 x2 x3) hl (RF rt)) rfl ?_
                    refine Ev_gfI rfl rfl rfl (kcP hwho) ?_
                    refine Ev.topI (congrArg nI ((RO_ne g 44 _ _ _ _ (fun k hk => by omega) 3).trans (hPl.1 who hwho).2)) ?_
                    refine Ev.run 1 (pc' := 245) (lv' := [(9, .int (nI (ldC g x1 x2 who y))), (8, .int (nI (g 174 (4 * who + x1 1 % 4)))), (7, .int (nI (safC g x1 x2 who y))), (6, .int (nI (mayC g x1 x2 who))), (5, .int (nI (ftX g x1 x2 (x1 1)))), (4, .int (nI (x1 1))), (3, .ref (60 + 2 * who)), (0, .ref 12), (1, .ref 44), (2, .int (nI who))]) (st' := [.int (nI 4), .int (nI (g 172 who))]) (h' := HN (RO g 44 x0 x1 x2 x3) hl (RF rt)) rfl ?_
                    refine Ev_irem rfl (by omega) (by omega) (by omega) ?_
                    refine Ev.run 1 (pc' := 251) (lv' := [(9, .int (nI (ldC g x1 x2 who y))), (8, .int (nI (g 174 (4 * who + x1 1 % 4)))), (7, .int (nI (safC g x1 x2 who y))), (6, .int (nI (mayC g x1 x2 who))), (5, .int (nI (ftX g x1 x2 (x1 1)))), (4, .int (nI (x1 1))), (3, .ref (60 + 2 * who)), (0, .ref 12), (1, .ref 44), (2, .int (nI who))]) (st' := [.int (nI ((g 172 who) % 4))]) (h' := HN (RO g 44 x0 x1 x2 x3) hl (RF rt)) rfl ?_
                    refine Ev.ret (v := some (.int (nI ((g 172 who) % 4)))) rfl ?_
                    have e : chC g x0 x1 x2 x3 who y = (g 172 who) % 4 := by
                      unfold chC
                      rw [if_neg (fun z => hc90 z.1)]
                      rw [if_pos hc143]
                      rw [if_pos hc154]
                      rw [if_neg (fun z => by have := z.2; omega)]
                      rw [if_pos hc210]
                      rw [if_pos ⟨hb227, by have := of_decide_eq_false hb237; omega⟩]
                    rw [e] at hq
                    exact hq
                · skip
                  refine Ev.run 2 (pc' := 251) (lv' := [(9, .int (nI (ldC g x1 x2 who y))), (8, .int (nI (g 174 (4 * who + x1 1 % 4)))), (7, .int (nI (safC g x1 x2 who y))), (6, .int (nI (mayC g x1 x2 who))), (5, .int (nI (ftX g x1 x2 (x1 1)))), (4, .int (nI (x1 1))), (3, .ref (60 + 2 * who)), (0, .ref 12), (1, .ref 44), (2, .int (nI who))]) (st' := [.int (nI 10)]) (h' := HN (RO g 44 x0 x1 x2 x3) hl (RF rt)) rfl ?_
                  refine Ev.ret (v := some (.int (nI 10))) rfl ?_
                  have e : chC g x0 x1 x2 x3 who y = 10 := by
                    unfold chC
                    rw [if_neg (fun z => hc90 z.1)]
                    rw [if_pos hc143]
                    rw [if_pos hc154]
                    rw [if_neg (fun z => by have := z.2; omega)]
                    rw [if_pos hc210]
                    rw [if_neg (fun z => tf z.1 hb227)]
                  rw [e] at hq
                  exact hq
              · have hc210 : ¬ ((mayC g x1 x2 who) = 0) := fun z => hc210 ((nI_eqU0 (by omega)).mpr z)
                refine Ev.run 1 (pc' := 215) (lv' := [(9, .int (nI (ldC g x1 x2 who y))), (8, .int (nI (g 174 (4 * who + x1 1 % 4)))), (7, .int (nI (safC g x1 x2 who y))), (6, .int (nI (mayC g x1 x2 who))), (5, .int (nI (ftX g x1 x2 (x1 1)))), (4, .int (nI (x1 1))), (3, .ref (60 + 2 * who)), (0, .ref 12), (1, .ref 44), (2, .int (nI who))]) (st' := [.int (nI (mayC g x1 x2 who))]) (h' := HN (RO g 44 x0 x1 x2 x3) hl (RF rt)) rfl ?_
                refine Ev.call (a := 123) (as := [.int (nI (mayC g x1 x2 who))]) (rest := []) (lv0 := [(0, .int (nI (mayC g x1 x2 who)))]) (Q1 := (fun z0 h' => z0 = some (.int (nI (frS (mayC g x1 x2 who)))) ∧ h' = HN (RO g 44 x0 x1 x2 x3) hl (RF rt))) rfl rfl (K_first _ _ _ _ (mayC g x1 x2 who) (by omega) ⟨rfl, rfl⟩) (fun r h' hr => ?_)
                obtain ⟨rfl, rfl⟩ := hr
                refine Ev.ret (v := some (.int (nI (frS (mayC g x1 x2 who))))) rfl ?_
                have e : chC g x0 x1 x2 x3 who y = frS (mayC g x1 x2 who) := by
                  unfold chC
                  rw [if_neg (fun z => hc90 z.1)]
                  rw [if_pos hc143]
                  rw [if_pos hc154]
                  rw [if_neg (fun z => by have := z.2; omega)]
                  rw [if_neg hc210]
                rw [e] at hq
                exact hq
            · have hc202 : ¬ (2147483648 ≤ (x0 3)) := fun z => hc202 ((nI_ltU0 (by omega)).mpr z)
              refine Ev.run 1 (pc' := 207) (lv' := [(9, .int (nI (ldC g x1 x2 who y))), (8, .int (nI (g 174 (4 * who + x1 1 % 4)))), (7, .int (nI (safC g x1 x2 who y))), (6, .int (nI (mayC g x1 x2 who))), (5, .int (nI (ftX g x1 x2 (x1 1)))), (4, .int (nI (x1 1))), (3, .ref (60 + 2 * who)), (0, .ref 12), (1, .ref 44), (2, .int (nI who))]) (st' := [.int (nI 10)]) (h' := HN (RO g 44 x0 x1 x2 x3) hl (RF rt)) rfl ?_
              refine Ev.ret (v := some (.int (nI 10))) rfl ?_
              have e : chC g x0 x1 x2 x3 who y = 10 := by
                unfold chC
                rw [if_neg (fun z => hc90 z.1)]
                rw [if_pos hc143]
                rw [if_pos hc154]
                rw [if_pos ⟨hb195, by omega⟩]
              rw [e] at hq
              exact hq
          · skip
            refine Ev.run 3 (pc' := (if nI (mayC g x1 x2 who) = 0 then 219 else 213)) (lv' := [(9, .int (nI (ldC g x1 x2 who y))), (8, .int (nI (g 174 (4 * who + x1 1 % 4)))), (7, .int (nI (safC g x1 x2 who y))), (6, .int (nI (mayC g x1 x2 who))), (5, .int (nI (ftX g x1 x2 (x1 1)))), (4, .int (nI (x1 1))), (3, .ref (60 + 2 * who)), (0, .ref 12), (1, .ref 44), (2, .int (nI who))]) (st' := []) (h' := HN (RO g 44 x0 x1 x2 x3) hl (RF rt)) rfl ?_
            refine Ev.ite (fun hc210 => ?_) (fun hc210 => ?_)
            · have hc210 : (mayC g x1 x2 who) = 0 := (nI_eqU0 (by omega)).mp hc210
              refine Ev.run 1 (pc' := 220) (lv' := [(9, .int (nI (ldC g x1 x2 who y))), (8, .int (nI (g 174 (4 * who + x1 1 % 4)))), (7, .int (nI (safC g x1 x2 who y))), (6, .int (nI (mayC g x1 x2 who))), (5, .int (nI (ftX g x1 x2 (x1 1)))), (4, .int (nI (x1 1))), (3, .ref (60 + 2 * who)), (0, .ref 12), (1, .ref 44), (2, .int (nI who))]) (st' := [.ref (60 + 2 * who)]) (h' := HN (RO g 44 x0 x1 x2 x3) hl (RF rt)) rfl ?_
              refine Ev_gfI rfl rfl rfl (kcP hwho) ?_
              refine Ev.topI (congrArg nI ((RO_ne g 44 _ _ _ _ (fun k hk => by omega) 2).trans (hPl.1 who hwho).1)) ?_
              refine Ev.run 1 (pc' := 224) (lv' := [(9, .int (nI (ldC g x1 x2 who y))), (8, .int (nI (g 174 (4 * who + x1 1 % 4)))), (7, .int (nI (safC g x1 x2 who y))), (6, .int (nI (mayC g x1 x2 who))), (5, .int (nI (ftX g x1 x2 (x1 1)))), (4, .int (nI (x1 1))), (3, .ref (60 + 2 * who)), (0, .ref 12), (1, .ref 44), (2, .int (nI who))]) (st' := [.int (nI 3), .int (nI (g 171 who))]) (h' := HN (RO g 44 x0 x1 x2 x3) hl (RF rt)) rfl ?_
              refine Ev.call (a := 121) (as := [.int (nI (g 171 who)), .int (nI 3)]) (rest := []) (lv0 := [(0, .int (nI (g 171 who))), (1, .int (nI 3))]) (Q1 := (fun z0 h' => z0 = some (.int (nI (bn (undS (g 171 who) 3)))) ∧ h' = HN (RO g 44 x0 x1 x2 x3) hl (RF rt))) rfl rfl (K_und _ (HN g hl (RF rt)) (RO g 44 x0 x1 x2 x3) _ _ (g 171 who) 3 (by omega) (by omega) ⟨rfl, rfl⟩) (fun r h' hr => ?_)
              obtain ⟨rfl, rfl⟩ := hr
              refine Ev_bn (fun hb227 => ?_) (fun hb227 => ?_)
              · skip
                refine Ev.run 3 (pc' := 234) (lv' := [(9, .int (nI (ldC g x1 x2 who y))), (8, .int (nI (g 174 (4 * who + x1 1 % 4)))), (7, .int (nI (safC g x1 x2 who y))), (6, .int (nI (mayC g x1 x2 who))), (5, .int (nI (ftX g x1 x2 (x1 1)))), (4, .int (nI (x1 1))), (3, .ref (60 + 2 * who)), (0, .ref 12), (1, .ref 44), (2, .int (nI who))]) (st' := [.ref 45]) (h' := HN (RO g 44 x0 x1 x2 x3) hl (RF rt)) rfl ?_
                refine Ev.call (a := 42) (as := [.ref 45]) (rest := []) (lv0 := [(0, .ref 45)]) (Q1 := (fun z0 h' => z0 = some (.int (nI (bn (decide (12 ≤ x1 1))))) ∧ h' = HN (RO g 44 x0 x1 x2 x3) hl (RF rt))) rfl rfl (K_isFull _ (RO g 44 x0 x1 x2 x3) _ _ 45 12 (ln45 rt) (show x1 1 < 2 ^ 31 by omega) ⟨rfl, rfl⟩) (fun r h' hr => ?_)
                obtain ⟨rfl, rfl⟩ := hr
                refine Ev_bn (fun hb237 => ?_) (fun hb237 => ?_)
                · have hhb237 : 12 ≤ x1 1 := of_decide_eq_true hb237
                  refine Ev.run 2 (pc' := 251) (lv' := [(9, .int (nI (ldC g x1 x2 who y))), (8, .int (nI (g 174 (4 * who + x1 1 % 4)))), (7, .int (nI (safC g x1 x2 who y))), (6, .int (nI (mayC g x1 x2 who))), (5, .int (nI (ftX g x1 x2 (x1 1)))), (4, .int (nI (x1 1))), (3, .ref (60 + 2 * who)), (0, .ref 12), (1, .ref 44), (2, .int (nI who))]) (st' := [.int (nI 10)]) (h' := HN (RO g 44 x0 x1 x2 x3) hl (RF rt)) rfl ?_
                  refine Ev.ret (v := some (.int (nI 10))) rfl ?_
                  have e : chC g x0 x1 x2 x3 who y = 10 := by
                    unfold chC
                    rw [if_neg (fun z => hc90 z.1)]
                    rw [if_pos hc143]
                    rw [if_pos hc154]
                    rw [if_neg (fun z => tf z.1 hb195)]
                    rw [if_pos hc210]
                    rw [if_neg (fun z => by have h1 := of_decide_eq_true hb237; have h2 := z.2; omega)]
                  rw [e] at hq
                  exact hq
                · have hhb237 : ¬ (12 ≤ x1 1) := of_decide_eq_false hb237
                  refine Ev.run 2 (pc' := 241) (lv' := [(9, .int (nI (ldC g x1 x2 who y))), (8, .int (nI (g 174 (4 * who + x1 1 % 4)))), (7, .int (nI (safC g x1 x2 who y))), (6, .int (nI (mayC g x1 x2 who))), (5, .int (nI (ftX g x1 x2 (x1 1)))), (4, .int (nI (x1 1))), (3, .ref (60 + 2 * who)), (0, .ref 12), (1, .ref 44), (2, .int (nI who))]) (st' := [.ref (60 + 2 * who)]) (h' := HN (RO g 44 x0 x1 x2 x3) hl (RF rt)) rfl ?_
                  refine Ev_gfI rfl rfl rfl (kcP hwho) ?_
                  refine Ev.topI (congrArg nI ((RO_ne g 44 _ _ _ _ (fun k hk => by omega) 3).trans (hPl.1 who hwho).2)) ?_
                  refine Ev.run 1 (pc' := 245) (lv' := [(9, .int (nI (ldC g x1 x2 who y))), (8, .int (nI (g 174 (4 * who + x1 1 % 4)))), (7, .int (nI (safC g x1 x2 who y))), (6, .int (nI (mayC g x1 x2 who))), (5, .int (nI (ftX g x1 x2 (x1 1)))), (4, .int (nI (x1 1))), (3, .ref (60 + 2 * who)), (0, .ref 12), (1, .ref 44), (2, .int (nI who))]) (st' := [.int (nI 4), .int (nI (g 172 who))]) (h' := HN (RO g 44 x0 x1 x2 x3) hl (RF rt)) rfl ?_
                  refine Ev_irem rfl (by omega) (by omega) (by omega) ?_
                  refine Ev.run 1 (pc' := 251) (lv' := [(9, .int (nI (ldC g x1 x2 who y))), (8, .int (nI (g 174 (4 * who + x1 1 % 4)))), (7, .int (nI (safC g x1 x2 who y))), (6, .int (nI (mayC g x1 x2 who))), (5, .int (nI (ftX g x1 x2 (x1 1)))), (4, .int (nI (x1 1))), (3, .ref (60 + 2 * who)), (0, .ref 12), (1, .ref 44), (2, .int (nI who))]) (st' := [.int (nI ((g 172 who) % 4))]) (h' := HN (RO g 44 x0 x1 x2 x3) hl (RF rt)) rfl ?_
                  refine Ev.ret (v := some (.int (nI ((g 172 who) % 4)))) rfl ?_
                  have e : chC g x0 x1 x2 x3 who y = (g 172 who) % 4 := by
                    unfold chC
                    rw [if_neg (fun z => hc90 z.1)]
                    rw [if_pos hc143]
                    rw [if_pos hc154]
                    rw [if_neg (fun z => tf z.1 hb195)]
                    rw [if_pos hc210]
                    rw [if_pos ⟨hb227, by have := of_decide_eq_false hb237; omega⟩]
                  rw [e] at hq
                  exact hq
              · skip
                refine Ev.run 2 (pc' := 251) (lv' := [(9, .int (nI (ldC g x1 x2 who y))), (8, .int (nI (g 174 (4 * who + x1 1 % 4)))), (7, .int (nI (safC g x1 x2 who y))), (6, .int (nI (mayC g x1 x2 who))), (5, .int (nI (ftX g x1 x2 (x1 1)))), (4, .int (nI (x1 1))), (3, .ref (60 + 2 * who)), (0, .ref 12), (1, .ref 44), (2, .int (nI who))]) (st' := [.int (nI 10)]) (h' := HN (RO g 44 x0 x1 x2 x3) hl (RF rt)) rfl ?_
                refine Ev.ret (v := some (.int (nI 10))) rfl ?_
                have e : chC g x0 x1 x2 x3 who y = 10 := by
                  unfold chC
                  rw [if_neg (fun z => hc90 z.1)]
                  rw [if_pos hc143]
                  rw [if_pos hc154]
                  rw [if_neg (fun z => tf z.1 hb195)]
                  rw [if_pos hc210]
                  rw [if_neg (fun z => tf z.1 hb227)]
                rw [e] at hq
                exact hq
            · have hc210 : ¬ ((mayC g x1 x2 who) = 0) := fun z => hc210 ((nI_eqU0 (by omega)).mpr z)
              refine Ev.run 1 (pc' := 215) (lv' := [(9, .int (nI (ldC g x1 x2 who y))), (8, .int (nI (g 174 (4 * who + x1 1 % 4)))), (7, .int (nI (safC g x1 x2 who y))), (6, .int (nI (mayC g x1 x2 who))), (5, .int (nI (ftX g x1 x2 (x1 1)))), (4, .int (nI (x1 1))), (3, .ref (60 + 2 * who)), (0, .ref 12), (1, .ref 44), (2, .int (nI who))]) (st' := [.int (nI (mayC g x1 x2 who))]) (h' := HN (RO g 44 x0 x1 x2 x3) hl (RF rt)) rfl ?_
              refine Ev.call (a := 123) (as := [.int (nI (mayC g x1 x2 who))]) (rest := []) (lv0 := [(0, .int (nI (mayC g x1 x2 who)))]) (Q1 := (fun z0 h' => z0 = some (.int (nI (frS (mayC g x1 x2 who)))) ∧ h' = HN (RO g 44 x0 x1 x2 x3) hl (RF rt))) rfl rfl (K_first _ _ _ _ (mayC g x1 x2 who) (by omega) ⟨rfl, rfl⟩) (fun r h' hr => ?_)
              obtain ⟨rfl, rfl⟩ := hr
              refine Ev.ret (v := some (.int (nI (frS (mayC g x1 x2 who))))) rfl ?_
              have e : chC g x0 x1 x2 x3 who y = frS (mayC g x1 x2 who) := by
                unfold chC
                rw [if_neg (fun z => hc90 z.1)]
                rw [if_pos hc143]
                rw [if_pos hc154]
                rw [if_neg (fun z => tf z.1 hb195)]
                rw [if_neg hc210]
              rw [e] at hq
              exact hq
        · have hc154 : ¬ ((safC g x1 x2 who y) = 0) := fun z => hc154 ((nI_eqU0 (by omega)).mpr z)
          refine Ev.run 1 (pc' := 158) (lv' := [(9, .int (nI (ldC g x1 x2 who y))), (8, .int (nI (g 174 (4 * who + x1 1 % 4)))), (7, .int (nI (safC g x1 x2 who y))), (6, .int (nI (mayC g x1 x2 who))), (5, .int (nI (ftX g x1 x2 (x1 1)))), (4, .int (nI (x1 1))), (3, .ref (60 + 2 * who)), (0, .ref 12), (1, .ref 44), (2, .int (nI who))]) (st' := [.ref (60 + 2 * who)]) (h' := HN (RO g 44 x0 x1 x2 x3) hl (RF rt)) rfl ?_
          refine Ev_gfI rfl rfl rfl (kcP hwho) ?_
          refine Ev.topI (congrArg nI ((RO_ne g 44 _ _ _ _ (fun k hk => by omega) 2).trans (hPl.1 who hwho).1)) ?_
          refine Ev.run 1 (pc' := 162) (lv' := [(9, .int (nI (ldC g x1 x2 who y))), (8, .int (nI (g 174 (4 * who + x1 1 % 4)))), (7, .int (nI (safC g x1 x2 who y))), (6, .int (nI (mayC g x1 x2 who))), (5, .int (nI (ftX g x1 x2 (x1 1)))), (4, .int (nI (x1 1))), (3, .ref (60 + 2 * who)), (0, .ref 12), (1, .ref 44), (2, .int (nI who))]) (st' := [.int (nI 1), .int (nI (g 171 who))]) (h' := HN (RO g 44 x0 x1 x2 x3) hl (RF rt)) rfl ?_
          refine Ev.call (a := 121) (as := [.int (nI (g 171 who)), .int (nI 1)]) (rest := []) (lv0 := [(0, .int (nI (g 171 who))), (1, .int (nI 1))]) (Q1 := (fun z0 h' => z0 = some (.int (nI (bn (undS (g 171 who) 1)))) ∧ h' = HN (RO g 44 x0 x1 x2 x3) hl (RF rt))) rfl rfl (K_und _ (HN g hl (RF rt)) (RO g 44 x0 x1 x2 x3) _ _ (g 171 who) 1 (by omega) (by omega) ⟨rfl, rfl⟩) (fun r h' hr => ?_)
          obtain ⟨rfl, rfl⟩ := hr
          refine Ev_bn (fun hb165 => ?_) (fun hb165 => ?_)
          · skip
            refine Ev.run 6 (pc' := 175) (lv' := [(9, .int (nI (ldC g x1 x2 who y))), (8, .int (nI (g 174 (4 * who + x1 1 % 4)))), (7, .int (nI (safC g x1 x2 who y))), (6, .int (nI (mayC g x1 x2 who))), (5, .int (nI (ftX g x1 x2 (x1 1)))), (4, .int (nI (x1 1))), (3, .ref (60 + 2 * who)), (0, .ref 12), (1, .ref 44), (2, .int (nI who))]) (st' := [.int (nI (safC g x1 x2 who y)), .int (nI (ftX g x1 x2 (x1 1))), .int (nI who), .ref 44, .ref 12]) (h' := HN (RO g 44 x0 x1 x2 x3) hl (RF rt)) rfl ?_
            refine Ev.call (a := 40) (as := [.ref 12, .ref 44, .int (nI who), .int (nI (ftX g x1 x2 (x1 1))), .int (nI (safC g x1 x2 who y))]) (rest := []) (lv0 := [(0, .ref 12), (1, .ref 44), (2, .int (nI who)), (3, .int (nI (ftX g x1 x2 (x1 1)))), (4, .int (nI (safC g x1 x2 who y)))]) (Q1 := (fun z0 h' => z0 = some (.int (nI (syC g x1 x3 who (ftX g x1 x2 (x1 1)) (safC g x1 x2 who y)))) ∧ h' = HN (RO g 44 x0 x1 x2 x3) hl (RF rt))) rfl rfl (K44_slyest _ g _ _ hI hB hP5 hk59 x0 x1 x2 x3 hx3 (by omega) who (ftX g x1 x2 (x1 1)) (safC g x1 x2 who y) (by omega) (by omega) (by omega) ⟨rfl, rfl⟩) (fun r h' hr => ?_)
            obtain ⟨rfl, rfl⟩ := hr
            refine Ev.run 1 (pc' := 186) (lv' := [(9, .int (nI (ldC g x1 x2 who y))), (8, .int (nI (g 174 (4 * who + x1 1 % 4)))), (7, .int (nI (safC g x1 x2 who y))), (6, .int (nI (mayC g x1 x2 who))), (5, .int (nI (ftX g x1 x2 (x1 1)))), (4, .int (nI (x1 1))), (3, .ref (60 + 2 * who)), (0, .ref 12), (1, .ref 44), (2, .int (nI who))]) (st' := [.int (nI (syC g x1 x3 who (ftX g x1 x2 (x1 1)) (safC g x1 x2 who y)))]) (h' := HN (RO g 44 x0 x1 x2 x3) hl (RF rt)) rfl ?_
            refine Ev.ret (v := some (.int (nI (syC g x1 x3 who (ftX g x1 x2 (x1 1)) (safC g x1 x2 who y))))) rfl ?_
            have e : chC g x0 x1 x2 x3 who y = syC g x1 x3 who (ftX g x1 x2 (x1 1)) (safC g x1 x2 who y) := by
              unfold chC
              rw [if_neg (fun z => hc90 z.1)]
              rw [if_pos hc143]
              rw [if_neg hc154]
              rw [if_pos hb165]
            rw [e] at hq
            exact hq
          · skip
            refine Ev.run 2 (pc' := 183) (lv' := [(9, .int (nI (ldC g x1 x2 who y))), (8, .int (nI (g 174 (4 * who + x1 1 % 4)))), (7, .int (nI (safC g x1 x2 who y))), (6, .int (nI (mayC g x1 x2 who))), (5, .int (nI (ftX g x1 x2 (x1 1)))), (4, .int (nI (x1 1))), (3, .ref (60 + 2 * who)), (0, .ref 12), (1, .ref 44), (2, .int (nI who))]) (st' := [.int (nI (safC g x1 x2 who y))]) (h' := HN (RO g 44 x0 x1 x2 x3) hl (RF rt)) rfl ?_
            refine Ev.call (a := 123) (as := [.int (nI (safC g x1 x2 who y))]) (rest := []) (lv0 := [(0, .int (nI (safC g x1 x2 who y)))]) (Q1 := (fun z0 h' => z0 = some (.int (nI (frS (safC g x1 x2 who y)))) ∧ h' = HN (RO g 44 x0 x1 x2 x3) hl (RF rt))) rfl rfl (K_first _ _ _ _ (safC g x1 x2 who y) (by omega) ⟨rfl, rfl⟩) (fun r h' hr => ?_)
            obtain ⟨rfl, rfl⟩ := hr
            refine Ev.ret (v := some (.int (nI (frS (safC g x1 x2 who y))))) rfl ?_
            have e : chC g x0 x1 x2 x3 who y = frS (safC g x1 x2 who y) := by
              unfold chC
              rw [if_neg (fun z => hc90 z.1)]
              rw [if_pos hc143]
              rw [if_neg hc154]
              rw [if_neg (fun z => tf z hb165)]
            rw [e] at hq
            exact hq
      · have hc143 : ¬ ((ldC g x1 x2 who y) = 0) := fun z => hc143 ((nI_eqU0 (by omega)).mpr z)
        refine Ev.run 1 (pc' := 148) (lv' := [(9, .int (nI (ldC g x1 x2 who y))), (8, .int (nI (g 174 (4 * who + x1 1 % 4)))), (7, .int (nI (safC g x1 x2 who y))), (6, .int (nI (mayC g x1 x2 who))), (5, .int (nI (ftX g x1 x2 (x1 1)))), (4, .int (nI (x1 1))), (3, .ref (60 + 2 * who)), (0, .ref 12), (1, .ref 44), (2, .int (nI who))]) (st' := [.int (nI (ldC g x1 x2 who y))]) (h' := HN (RO g 44 x0 x1 x2 x3) hl (RF rt)) rfl ?_
        refine Ev.call (a := 123) (as := [.int (nI (ldC g x1 x2 who y))]) (rest := []) (lv0 := [(0, .int (nI (ldC g x1 x2 who y)))]) (Q1 := (fun z0 h' => z0 = some (.int (nI (frS (ldC g x1 x2 who y)))) ∧ h' = HN (RO g 44 x0 x1 x2 x3) hl (RF rt))) rfl rfl (K_first _ _ _ _ (ldC g x1 x2 who y) (by omega) ⟨rfl, rfl⟩) (fun r h' hr => ?_)
        obtain ⟨rfl, rfl⟩ := hr
        refine Ev.ret (v := some (.int (nI (frS (ldC g x1 x2 who y))))) rfl ?_
        have e : chC g x0 x1 x2 x3 who y = frS (ldC g x1 x2 who y) := by
          unfold chC
          rw [if_neg (fun z => hc90 z.1)]
          rw [if_neg hc143]
        rw [e] at hq
        exact hq
    · have hc111 : ¬ ((g 171 who) = 4) := fun z => hc111 ((nI_eqU (by omega) (by omega)).mpr z)
      refine Ev.run 1 (pc' := 139) (lv' := [(8, .int (nI (g 174 (4 * who + x1 1 % 4)))), (7, .int (nI (safC g x1 x2 who y))), (6, .int (nI (mayC g x1 x2 who))), (5, .int (nI (ftX g x1 x2 (x1 1)))), (4, .int (nI (x1 1))), (3, .ref (60 + 2 * who)), (0, .ref 12), (1, .ref 44), (2, .int (nI who))]) (st' := [.int (nI 0)]) (h' := HN (RO g 44 x0 x1 x2 x3) hl (RF rt)) rfl ?_
      refine Ev.topI (congrArg nI (show 0 = ldC g x1 x2 who y by unfold ldC; first | rw [if_pos hc111] | rw [if_neg hc111])) ?_
      have hldc : ldC g x1 x2 who y < 16 := by unfold ldC; first | (rw [if_pos hc111]; omega) | (rw [if_neg hc111]; decide)
      refine Ev.run 3 (pc' := (if nI (ldC g x1 x2 who y) = 0 then 152 else 146)) (lv' := [(9, .int (nI (ldC g x1 x2 who y))), (8, .int (nI (g 174 (4 * who + x1 1 % 4)))), (7, .int (nI (safC g x1 x2 who y))), (6, .int (nI (mayC g x1 x2 who))), (5, .int (nI (ftX g x1 x2 (x1 1)))), (4, .int (nI (x1 1))), (3, .ref (60 + 2 * who)), (0, .ref 12), (1, .ref 44), (2, .int (nI who))]) (st' := []) (h' := HN (RO g 44 x0 x1 x2 x3) hl (RF rt)) rfl ?_
      refine Ev.ite (fun hc143 => ?_) (fun hc143 => ?_)
      · have hc143 : (ldC g x1 x2 who y) = 0 := (nI_eqU0 (by omega)).mp hc143
        refine Ev.run 2 (pc' := (if nI (safC g x1 x2 who y) = 0 then 187 else 157)) (lv' := [(9, .int (nI (ldC g x1 x2 who y))), (8, .int (nI (g 174 (4 * who + x1 1 % 4)))), (7, .int (nI (safC g x1 x2 who y))), (6, .int (nI (mayC g x1 x2 who))), (5, .int (nI (ftX g x1 x2 (x1 1)))), (4, .int (nI (x1 1))), (3, .ref (60 + 2 * who)), (0, .ref 12), (1, .ref 44), (2, .int (nI who))]) (st' := []) (h' := HN (RO g 44 x0 x1 x2 x3) hl (RF rt)) rfl ?_
        refine Ev.ite (fun hc154 => ?_) (fun hc154 => ?_)
        · have hc154 : (safC g x1 x2 who y) = 0 := (nI_eqU0 (by omega)).mp hc154
          refine Ev.run 1 (pc' := 188) (lv' := [(9, .int (nI (ldC g x1 x2 who y))), (8, .int (nI (g 174 (4 * who + x1 1 % 4)))), (7, .int (nI (safC g x1 x2 who y))), (6, .int (nI (mayC g x1 x2 who))), (5, .int (nI (ftX g x1 x2 (x1 1)))), (4, .int (nI (x1 1))), (3, .ref (60 + 2 * who)), (0, .ref 12), (1, .ref 44), (2, .int (nI who))]) (st' := [.ref (60 + 2 * who)]) (h' := HN (RO g 44 x0 x1 x2 x3) hl (RF rt)) rfl ?_
          refine Ev_gfI rfl rfl rfl (kcP hwho) ?_
          refine Ev.topI (congrArg nI ((RO_ne g 44 _ _ _ _ (fun k hk => by omega) 2).trans (hPl.1 who hwho).1)) ?_
          refine Ev.run 1 (pc' := 192) (lv' := [(9, .int (nI (ldC g x1 x2 who y))), (8, .int (nI (g 174 (4 * who + x1 1 % 4)))), (7, .int (nI (safC g x1 x2 who y))), (6, .int (nI (mayC g x1 x2 who))), (5, .int (nI (ftX g x1 x2 (x1 1)))), (4, .int (nI (x1 1))), (3, .ref (60 + 2 * who)), (0, .ref 12), (1, .ref 44), (2, .int (nI who))]) (st' := [.int (nI 2), .int (nI (g 171 who))]) (h' := HN (RO g 44 x0 x1 x2 x3) hl (RF rt)) rfl ?_
          refine Ev.call (a := 121) (as := [.int (nI (g 171 who)), .int (nI 2)]) (rest := []) (lv0 := [(0, .int (nI (g 171 who))), (1, .int (nI 2))]) (Q1 := (fun z0 h' => z0 = some (.int (nI (bn (undS (g 171 who) 2)))) ∧ h' = HN (RO g 44 x0 x1 x2 x3) hl (RF rt))) rfl rfl (K_und _ (HN g hl (RF rt)) (RO g 44 x0 x1 x2 x3) _ _ (g 171 who) 2 (by omega) (by omega) ⟨rfl, rfl⟩) (fun r h' hr => ?_)
          obtain ⟨rfl, rfl⟩ := hr
          refine Ev_bn (fun hb195 => ?_) (fun hb195 => ?_)
          · skip
            refine Ev.run 4 (pc' := (if nI (x0 3) < 0 then 208 else 205)) (lv' := [(9, .int (nI (ldC g x1 x2 who y))), (8, .int (nI (g 174 (4 * who + x1 1 % 4)))), (7, .int (nI (safC g x1 x2 who y))), (6, .int (nI (mayC g x1 x2 who))), (5, .int (nI (ftX g x1 x2 (x1 1)))), (4, .int (nI (x1 1))), (3, .ref (60 + 2 * who)), (0, .ref 12), (1, .ref 44), (2, .int (nI who))]) (st' := []) (h' := HN (RO g 44 x0 x1 x2 x3) hl (RF rt)) rfl ?_
            refine Ev.ite (fun hc202 => ?_) (fun hc202 => ?_)
            · have hc202 : 2147483648 ≤ (x0 3) := (nI_ltU0 (by omega)).mp hc202
              refine Ev.run 2 (pc' := (if nI (mayC g x1 x2 who) = 0 then 219 else 213)) (lv' := [(9, .int (nI (ldC g x1 x2 who y))), (8, .int (nI (g 174 (4 * who + x1 1 % 4)))), (7, .int (nI (safC g x1 x2 who y))), (6, .int (nI (mayC g x1 x2 who))), (5, .int (nI (ftX g x1 x2 (x1 1)))), (4, .int (nI (x1 1))), (3, .ref (60 + 2 * who)), (0, .ref 12), (1, .ref 44), (2, .int (nI who))]) (st' := []) (h' := HN (RO g 44 x0 x1 x2 x3) hl (RF rt)) rfl ?_
              refine Ev.ite (fun hc210 => ?_) (fun hc210 => ?_)
              · have hc210 : (mayC g x1 x2 who) = 0 := (nI_eqU0 (by omega)).mp hc210
                refine Ev.run 1 (pc' := 220) (lv' := [(9, .int (nI (ldC g x1 x2 who y))), (8, .int (nI (g 174 (4 * who + x1 1 % 4)))), (7, .int (nI (safC g x1 x2 who y))), (6, .int (nI (mayC g x1 x2 who))), (5, .int (nI (ftX g x1 x2 (x1 1)))), (4, .int (nI (x1 1))), (3, .ref (60 + 2 * who)), (0, .ref 12), (1, .ref 44), (2, .int (nI who))]) (st' := [.ref (60 + 2 * who)]) (h' := HN (RO g 44 x0 x1 x2 x3) hl (RF rt)) rfl ?_
                refine Ev_gfI rfl rfl rfl (kcP hwho) ?_
                refine Ev.topI (congrArg nI ((RO_ne g 44 _ _ _ _ (fun k hk => by omega) 2).trans (hPl.1 who hwho).1)) ?_
                refine Ev.run 1 (pc' := 224) (lv' := [(9, .int (nI (ldC g x1 x2 who y))), (8, .int (nI (g 174 (4 * who + x1 1 % 4)))), (7, .int (nI (safC g x1 x2 who y))), (6, .int (nI (mayC g x1 x2 who))), (5, .int (nI (ftX g x1 x2 (x1 1)))), (4, .int (nI (x1 1))), (3, .ref (60 + 2 * who)), (0, .ref 12), (1, .ref 44), (2, .int (nI who))]) (st' := [.int (nI 3), .int (nI (g 171 who))]) (h' := HN (RO g 44 x0 x1 x2 x3) hl (RF rt)) rfl ?_
                refine Ev.call (a := 121) (as := [.int (nI (g 171 who)), .int (nI 3)]) (rest := []) (lv0 := [(0, .int (nI (g 171 who))), (1, .int (nI 3))]) (Q1 := (fun z0 h' => z0 = some (.int (nI (bn (undS (g 171 who) 3)))) ∧ h' = HN (RO g 44 x0 x1 x2 x3) hl (RF rt))) rfl rfl (K_und _ (HN g hl (RF rt)) (RO g 44 x0 x1 x2 x3) _ _ (g 171 who) 3 (by omega) (by omega) ⟨rfl, rfl⟩) (fun r h' hr => ?_)
                obtain ⟨rfl, rfl⟩ := hr
                refine Ev_bn (fun hb227 => ?_) (fun hb227 => ?_)
                · skip
                  refine Ev.run 3 (pc' := 234) (lv' := [(9, .int (nI (ldC g x1 x2 who y))), (8, .int (nI (g 174 (4 * who + x1 1 % 4)))), (7, .int (nI (safC g x1 x2 who y))), (6, .int (nI (mayC g x1 x2 who))), (5, .int (nI (ftX g x1 x2 (x1 1)))), (4, .int (nI (x1 1))), (3, .ref (60 + 2 * who)), (0, .ref 12), (1, .ref 44), (2, .int (nI who))]) (st' := [.ref 45]) (h' := HN (RO g 44 x0 x1 x2 x3) hl (RF rt)) rfl ?_
                  refine Ev.call (a := 42) (as := [.ref 45]) (rest := []) (lv0 := [(0, .ref 45)]) (Q1 := (fun z0 h' => z0 = some (.int (nI (bn (decide (12 ≤ x1 1))))) ∧ h' = HN (RO g 44 x0 x1 x2 x3) hl (RF rt))) rfl rfl (K_isFull _ (RO g 44 x0 x1 x2 x3) _ _ 45 12 (ln45 rt) (show x1 1 < 2 ^ 31 by omega) ⟨rfl, rfl⟩) (fun r h' hr => ?_)
                  obtain ⟨rfl, rfl⟩ := hr
                  refine Ev_bn (fun hb237 => ?_) (fun hb237 => ?_)
                  · have hhb237 : 12 ≤ x1 1 := of_decide_eq_true hb237
                    refine Ev.run 2 (pc' := 251) (lv' := [(9, .int (nI (ldC g x1 x2 who y))), (8, .int (nI (g 174 (4 * who + x1 1 % 4)))), (7, .int (nI (safC g x1 x2 who y))), (6, .int (nI (mayC g x1 x2 who))), (5, .int (nI (ftX g x1 x2 (x1 1)))), (4, .int (nI (x1 1))), (3, .ref (60 + 2 * who)), (0, .ref 12), (1, .ref 44), (2, .int (nI who))]) (st' := [.int (nI 10)]) (h' := HN (RO g 44 x0 x1 x2 x3) hl (RF rt)) rfl ?_
                    refine Ev.ret (v := some (.int (nI 10))) rfl ?_
                    have e : chC g x0 x1 x2 x3 who y = 10 := by
                      unfold chC
                      rw [if_neg (fun z => hc90 z.1)]
                      rw [if_pos hc143]
                      rw [if_pos hc154]
                      rw [if_neg (fun z => by have := z.2; omega)]
                      rw [if_pos hc210]
                      rw [if_neg (fun z => by have h1 := of_decide_eq_true hb237; have h2 := z.2; omega)]
                    rw [e] at hq
                    exact hq
                  · have hhb237 : ¬ (12 ≤ x1 1) := of_decide_eq_false hb237
                    refine Ev.run 2 (pc' := 241) (lv' := [(9, .int (nI (ldC g x1 x2 who y))), (8, .int (nI (g 174 (4 * who + x1 1 % 4)))), (7, .int (nI (safC g x1 x2 who y))), (6, .int (nI (mayC g x1 x2 who))), (5, .int (nI (ftX g x1 x2 (x1 1)))), (4, .int (nI (x1 1))), (3, .ref (60 + 2 * who)), (0, .ref 12), (1, .ref 44), (2, .int (nI who))]) (st' := [.ref (60 + 2 * who)]) (h' := HN (RO g 44 x0 x1 x2 x3) hl (RF rt)) rfl ?_
                    refine Ev_gfI rfl rfl rfl (kcP hwho) ?_
                    refine Ev.topI (congrArg nI ((RO_ne g 44 _ _ _ _ (fun k hk => by omega) 3).trans (hPl.1 who hwho).2)) ?_
                    refine Ev.run 1 (pc' := 245) (lv' := [(9, .int (nI (ldC g x1 x2 who y))), (8, .int (nI (g 174 (4 * who + x1 1 % 4)))), (7, .int (nI (safC g x1 x2 who y))), (6, .int (nI (mayC g x1 x2 who))), (5, .int (nI (ftX g x1 x2 (x1 1)))), (4, .int (nI (x1 1))), (3, .ref (60 + 2 * who)), (0, .ref 12), (1, .ref 44), (2, .int (nI who))]) (st' := [.int (nI 4), .int (nI (g 172 who))]) (h' := HN (RO g 44 x0 x1 x2 x3) hl (RF rt)) rfl ?_
                    refine Ev_irem rfl (by omega) (by omega) (by omega) ?_
                    refine Ev.run 1 (pc' := 251) (lv' := [(9, .int (nI (ldC g x1 x2 who y))), (8, .int (nI (g 174 (4 * who + x1 1 % 4)))), (7, .int (nI (safC g x1 x2 who y))), (6, .int (nI (mayC g x1 x2 who))), (5, .int (nI (ftX g x1 x2 (x1 1)))), (4, .int (nI (x1 1))), (3, .ref (60 + 2 * who)), (0, .ref 12), (1, .ref 44), (2, .int (nI who))]) (st' := [.int (nI ((g 172 who) % 4))]) (h' := HN (RO g 44 x0 x1 x2 x3) hl (RF rt)) rfl ?_
                    refine Ev.ret (v := some (.int (nI ((g 172 who) % 4)))) rfl ?_
                    have e : chC g x0 x1 x2 x3 who y = (g 172 who) % 4 := by
                      unfold chC
                      rw [if_neg (fun z => hc90 z.1)]
                      rw [if_pos hc143]
                      rw [if_pos hc154]
                      rw [if_neg (fun z => by have := z.2; omega)]
                      rw [if_pos hc210]
                      rw [if_pos ⟨hb227, by have := of_decide_eq_false hb237; omega⟩]
                    rw [e] at hq
                    exact hq
                · skip
                  refine Ev.run 2 (pc' := 251) (lv' := [(9, .int (nI (ldC g x1 x2 who y))), (8, .int (nI (g 174 (4 * who + x1 1 % 4)))), (7, .int (nI (safC g x1 x2 who y))), (6, .int (nI (mayC g x1 x2 who))), (5, .int (nI (ftX g x1 x2 (x1 1)))), (4, .int (nI (x1 1))), (3, .ref (60 + 2 * who)), (0, .ref 12), (1, .ref 44), (2, .int (nI who))]) (st' := [.int (nI 10)]) (h' := HN (RO g 44 x0 x1 x2 x3) hl (RF rt)) rfl ?_
                  refine Ev.ret (v := some (.int (nI 10))) rfl ?_
                  have e : chC g x0 x1 x2 x3 who y = 10 := by
                    unfold chC
                    rw [if_neg (fun z => hc90 z.1)]
                    rw [if_pos hc143]
                    rw [if_pos hc154]
                    rw [if_neg (fun z => by have := z.2; omega)]
                    rw [if_pos hc210]
                    rw [if_neg (fun z => tf z.1 hb227)]
                  rw [e] at hq
                  exact hq
              · have hc210 : ¬ ((mayC g x1 x2 who) = 0) := fun z => hc210 ((nI_eqU0 (by omega)).mpr z)
                refine Ev.run 1 (pc' := 215) (lv' := [(9, .int (nI (ldC g x1 x2 who y))), (8, .int (nI (g 174 (4 * who + x1 1 % 4)))), (7, .int (nI (safC g x1 x2 who y))), (6, .int (nI (mayC g x1 x2 who))), (5, .int (nI (ftX g x1 x2 (x1 1)))), (4, .int (nI (x1 1))), (3, .ref (60 + 2 * who)), (0, .ref 12), (1, .ref 44), (2, .int (nI who))]) (st' := [.int (nI (mayC g x1 x2 who))]) (h' := HN (RO g 44 x0 x1 x2 x3) hl (RF rt)) rfl ?_
                refine Ev.call (a := 123) (as := [.int (nI (mayC g x1 x2 who))]) (rest := []) (lv0 := [(0, .int (nI (mayC g x1 x2 who)))]) (Q1 := (fun z0 h' => z0 = some (.int (nI (frS (mayC g x1 x2 who)))) ∧ h' = HN (RO g 44 x0 x1 x2 x3) hl (RF rt))) rfl rfl (K_first _ _ _ _ (mayC g x1 x2 who) (by omega) ⟨rfl, rfl⟩) (fun r h' hr => ?_)
                obtain ⟨rfl, rfl⟩ := hr
                refine Ev.ret (v := some (.int (nI (frS (mayC g x1 x2 who))))) rfl ?_
                have e : chC g x0 x1 x2 x3 who y = frS (mayC g x1 x2 who) := by
                  unfold chC
                  rw [if_neg (fun z => hc90 z.1)]
                  rw [if_pos hc143]
                  rw [if_pos hc154]
                  rw [if_neg (fun z => by have := z.2; omega)]
                  rw [if_neg hc210]
                rw [e] at hq
                exact hq
            · have hc202 : ¬ (2147483648 ≤ (x0 3)) := fun z => hc202 ((nI_ltU0 (by omega)).mpr z)
              refine Ev.run 1 (pc' := 207) (lv' := [(9, .int (nI (ldC g x1 x2 who y))), (8, .int (nI (g 174 (4 * who + x1 1 % 4)))), (7, .int (nI (safC g x1 x2 who y))), (6, .int (nI (mayC g x1 x2 who))), (5, .int (nI (ftX g x1 x2 (x1 1)))), (4, .int (nI (x1 1))), (3, .ref (60 + 2 * who)), (0, .ref 12), (1, .ref 44), (2, .int (nI who))]) (st' := [.int (nI 10)]) (h' := HN (RO g 44 x0 x1 x2 x3) hl (RF rt)) rfl ?_
              refine Ev.ret (v := some (.int (nI 10))) rfl ?_
              have e : chC g x0 x1 x2 x3 who y = 10 := by
                unfold chC
                rw [if_neg (fun z => hc90 z.1)]
                rw [if_pos hc143]
                rw [if_pos hc154]
                rw [if_pos ⟨hb195, by omega⟩]
              rw [e] at hq
              exact hq
          · skip
            refine Ev.run 3 (pc' := (if nI (mayC g x1 x2 who) = 0 then 219 else 213)) (lv' := [(9, .int (nI (ldC g x1 x2 who y))), (8, .int (nI (g 174 (4 * who + x1 1 % 4)))), (7, .int (nI (safC g x1 x2 who y))), (6, .int (nI (mayC g x1 x2 who))), (5, .int (nI (ftX g x1 x2 (x1 1)))), (4, .int (nI (x1 1))), (3, .ref (60 + 2 * who)), (0, .ref 12), (1, .ref 44), (2, .int (nI who))]) (st' := []) (h' := HN (RO g 44 x0 x1 x2 x3) hl (RF rt)) rfl ?_
            refine Ev.ite (fun hc210 => ?_) (fun hc210 => ?_)
            · have hc210 : (mayC g x1 x2 who) = 0 := (nI_eqU0 (by omega)).mp hc210
              refine Ev.run 1 (pc' := 220) (lv' := [(9, .int (nI (ldC g x1 x2 who y))), (8, .int (nI (g 174 (4 * who + x1 1 % 4)))), (7, .int (nI (safC g x1 x2 who y))), (6, .int (nI (mayC g x1 x2 who))), (5, .int (nI (ftX g x1 x2 (x1 1)))), (4, .int (nI (x1 1))), (3, .ref (60 + 2 * who)), (0, .ref 12), (1, .ref 44), (2, .int (nI who))]) (st' := [.ref (60 + 2 * who)]) (h' := HN (RO g 44 x0 x1 x2 x3) hl (RF rt)) rfl ?_
              refine Ev_gfI rfl rfl rfl (kcP hwho) ?_
              refine Ev.topI (congrArg nI ((RO_ne g 44 _ _ _ _ (fun k hk => by omega) 2).trans (hPl.1 who hwho).1)) ?_
              refine Ev.run 1 (pc' := 224) (lv' := [(9, .int (nI (ldC g x1 x2 who y))), (8, .int (nI (g 174 (4 * who + x1 1 % 4)))), (7, .int (nI (safC g x1 x2 who y))), (6, .int (nI (mayC g x1 x2 who))), (5, .int (nI (ftX g x1 x2 (x1 1)))), (4, .int (nI (x1 1))), (3, .ref (60 + 2 * who)), (0, .ref 12), (1, .ref 44), (2, .int (nI who))]) (st' := [.int (nI 3), .int (nI (g 171 who))]) (h' := HN (RO g 44 x0 x1 x2 x3) hl (RF rt)) rfl ?_
              refine Ev.call (a := 121) (as := [.int (nI (g 171 who)), .int (nI 3)]) (rest := []) (lv0 := [(0, .int (nI (g 171 who))), (1, .int (nI 3))]) (Q1 := (fun z0 h' => z0 = some (.int (nI (bn (undS (g 171 who) 3)))) ∧ h' = HN (RO g 44 x0 x1 x2 x3) hl (RF rt))) rfl rfl (K_und _ (HN g hl (RF rt)) (RO g 44 x0 x1 x2 x3) _ _ (g 171 who) 3 (by omega) (by omega) ⟨rfl, rfl⟩) (fun r h' hr => ?_)
              obtain ⟨rfl, rfl⟩ := hr
              refine Ev_bn (fun hb227 => ?_) (fun hb227 => ?_)
              · skip
                refine Ev.run 3 (pc' := 234) (lv' := [(9, .int (nI (ldC g x1 x2 who y))), (8, .int (nI (g 174 (4 * who + x1 1 % 4)))), (7, .int (nI (safC g x1 x2 who y))), (6, .int (nI (mayC g x1 x2 who))), (5, .int (nI (ftX g x1 x2 (x1 1)))), (4, .int (nI (x1 1))), (3, .ref (60 + 2 * who)), (0, .ref 12), (1, .ref 44), (2, .int (nI who))]) (st' := [.ref 45]) (h' := HN (RO g 44 x0 x1 x2 x3) hl (RF rt)) rfl ?_
                refine Ev.call (a := 42) (as := [.ref 45]) (rest := []) (lv0 := [(0, .ref 45)]) (Q1 := (fun z0 h' => z0 = some (.int (nI (bn (decide (12 ≤ x1 1))))) ∧ h' = HN (RO g 44 x0 x1 x2 x3) hl (RF rt))) rfl rfl (K_isFull _ (RO g 44 x0 x1 x2 x3) _ _ 45 12 (ln45 rt) (show x1 1 < 2 ^ 31 by omega) ⟨rfl, rfl⟩) (fun r h' hr => ?_)
                obtain ⟨rfl, rfl⟩ := hr
                refine Ev_bn (fun hb237 => ?_) (fun hb237 => ?_)
                · have hhb237 : 12 ≤ x1 1 := of_decide_eq_true hb237
                  refine Ev.run 2 (pc' := 251) (lv' := [(9, .int (nI (ldC g x1 x2 who y))), (8, .int (nI (g 174 (4 * who + x1 1 % 4)))), (7, .int (nI (safC g x1 x2 who y))), (6, .int (nI (mayC g x1 x2 who))), (5, .int (nI (ftX g x1 x2 (x1 1)))), (4, .int (nI (x1 1))), (3, .ref (60 + 2 * who)), (0, .ref 12), (1, .ref 44), (2, .int (nI who))]) (st' := [.int (nI 10)]) (h' := HN (RO g 44 x0 x1 x2 x3) hl (RF rt)) rfl ?_
                  refine Ev.ret (v := some (.int (nI 10))) rfl ?_
                  have e : chC g x0 x1 x2 x3 who y = 10 := by
                    unfold chC
                    rw [if_neg (fun z => hc90 z.1)]
                    rw [if_pos hc143]
                    rw [if_pos hc154]
                    rw [if_neg (fun z => tf z.1 hb195)]
                    rw [if_pos hc210]
                    rw [if_neg (fun z => by have h1 := of_decide_eq_true hb237; have h2 := z.2; omega)]
                  rw [e] at hq
                  exact hq
                · have hhb237 : ¬ (12 ≤ x1 1) := of_decide_eq_false hb237
                  refine Ev.run 2 (pc' := 241) (lv' := [(9, .int (nI (ldC g x1 x2 who y))), (8, .int (nI (g 174 (4 * who + x1 1 % 4)))), (7, .int (nI (safC g x1 x2 who y))), (6, .int (nI (mayC g x1 x2 who))), (5, .int (nI (ftX g x1 x2 (x1 1)))), (4, .int (nI (x1 1))), (3, .ref (60 + 2 * who)), (0, .ref 12), (1, .ref 44), (2, .int (nI who))]) (st' := [.ref (60 + 2 * who)]) (h' := HN (RO g 44 x0 x1 x2 x3) hl (RF rt)) rfl ?_
                  refine Ev_gfI rfl rfl rfl (kcP hwho) ?_
                  refine Ev.topI (congrArg nI ((RO_ne g 44 _ _ _ _ (fun k hk => by omega) 3).trans (hPl.1 who hwho).2)) ?_
                  refine Ev.run 1 (pc' := 245) (lv' := [(9, .int (nI (ldC g x1 x2 who y))), (8, .int (nI (g 174 (4 * who + x1 1 % 4)))), (7, .int (nI (safC g x1 x2 who y))), (6, .int (nI (mayC g x1 x2 who))), (5, .int (nI (ftX g x1 x2 (x1 1)))), (4, .int (nI (x1 1))), (3, .ref (60 + 2 * who)), (0, .ref 12), (1, .ref 44), (2, .int (nI who))]) (st' := [.int (nI 4), .int (nI (g 172 who))]) (h' := HN (RO g 44 x0 x1 x2 x3) hl (RF rt)) rfl ?_
                  refine Ev_irem rfl (by omega) (by omega) (by omega) ?_
                  refine Ev.run 1 (pc' := 251) (lv' := [(9, .int (nI (ldC g x1 x2 who y))), (8, .int (nI (g 174 (4 * who + x1 1 % 4)))), (7, .int (nI (safC g x1 x2 who y))), (6, .int (nI (mayC g x1 x2 who))), (5, .int (nI (ftX g x1 x2 (x1 1)))), (4, .int (nI (x1 1))), (3, .ref (60 + 2 * who)), (0, .ref 12), (1, .ref 44), (2, .int (nI who))]) (st' := [.int (nI ((g 172 who) % 4))]) (h' := HN (RO g 44 x0 x1 x2 x3) hl (RF rt)) rfl ?_
                  refine Ev.ret (v := some (.int (nI ((g 172 who) % 4)))) rfl ?_
                  have e : chC g x0 x1 x2 x3 who y = (g 172 who) % 4 := by
                    unfold chC
                    rw [if_neg (fun z => hc90 z.1)]
                    rw [if_pos hc143]
                    rw [if_pos hc154]
                    rw [if_neg (fun z => tf z.1 hb195)]
                    rw [if_pos hc210]
                    rw [if_pos ⟨hb227, by have := of_decide_eq_false hb237; omega⟩]
                  rw [e] at hq
                  exact hq
              · skip
                refine Ev.run 2 (pc' := 251) (lv' := [(9, .int (nI (ldC g x1 x2 who y))), (8, .int (nI (g 174 (4 * who + x1 1 % 4)))), (7, .int (nI (safC g x1 x2 who y))), (6, .int (nI (mayC g x1 x2 who))), (5, .int (nI (ftX g x1 x2 (x1 1)))), (4, .int (nI (x1 1))), (3, .ref (60 + 2 * who)), (0, .ref 12), (1, .ref 44), (2, .int (nI who))]) (st' := [.int (nI 10)]) (h' := HN (RO g 44 x0 x1 x2 x3) hl (RF rt)) rfl ?_
                refine Ev.ret (v := some (.int (nI 10))) rfl ?_
                have e : chC g x0 x1 x2 x3 who y = 10 := by
                  unfold chC
                  rw [if_neg (fun z => hc90 z.1)]
                  rw [if_pos hc143]
                  rw [if_pos hc154]
                  rw [if_neg (fun z => tf z.1 hb195)]
                  rw [if_pos hc210]
                  rw [if_neg (fun z => tf z.1 hb227)]
                rw [e] at hq
                exact hq
            · have hc210 : ¬ ((mayC g x1 x2 who) = 0) := fun z => hc210 ((nI_eqU0 (by omega)).mpr z)
              refine Ev.run 1 (pc' := 215) (lv' := [(9, .int (nI (ldC g x1 x2 who y))), (8, .int (nI (g 174 (4 * who + x1 1 % 4)))), (7, .int (nI (safC g x1 x2 who y))), (6, .int (nI (mayC g x1 x2 who))), (5, .int (nI (ftX g x1 x2 (x1 1)))), (4, .int (nI (x1 1))), (3, .ref (60 + 2 * who)), (0, .ref 12), (1, .ref 44), (2, .int (nI who))]) (st' := [.int (nI (mayC g x1 x2 who))]) (h' := HN (RO g 44 x0 x1 x2 x3) hl (RF rt)) rfl ?_
              refine Ev.call (a := 123) (as := [.int (nI (mayC g x1 x2 who))]) (rest := []) (lv0 := [(0, .int (nI (mayC g x1 x2 who)))]) (Q1 := (fun z0 h' => z0 = some (.int (nI (frS (mayC g x1 x2 who)))) ∧ h' = HN (RO g 44 x0 x1 x2 x3) hl (RF rt))) rfl rfl (K_first _ _ _ _ (mayC g x1 x2 who) (by omega) ⟨rfl, rfl⟩) (fun r h' hr => ?_)
              obtain ⟨rfl, rfl⟩ := hr
              refine Ev.ret (v := some (.int (nI (frS (mayC g x1 x2 who))))) rfl ?_
              have e : chC g x0 x1 x2 x3 who y = frS (mayC g x1 x2 who) := by
                unfold chC
                rw [if_neg (fun z => hc90 z.1)]
                rw [if_pos hc143]
                rw [if_pos hc154]
                rw [if_neg (fun z => tf z.1 hb195)]
                rw [if_neg hc210]
              rw [e] at hq
              exact hq
        · have hc154 : ¬ ((safC g x1 x2 who y) = 0) := fun z => hc154 ((nI_eqU0 (by omega)).mpr z)
          refine Ev.run 1 (pc' := 158) (lv' := [(9, .int (nI (ldC g x1 x2 who y))), (8, .int (nI (g 174 (4 * who + x1 1 % 4)))), (7, .int (nI (safC g x1 x2 who y))), (6, .int (nI (mayC g x1 x2 who))), (5, .int (nI (ftX g x1 x2 (x1 1)))), (4, .int (nI (x1 1))), (3, .ref (60 + 2 * who)), (0, .ref 12), (1, .ref 44), (2, .int (nI who))]) (st' := [.ref (60 + 2 * who)]) (h' := HN (RO g 44 x0 x1 x2 x3) hl (RF rt)) rfl ?_
          refine Ev_gfI rfl rfl rfl (kcP hwho) ?_
          refine Ev.topI (congrArg nI ((RO_ne g 44 _ _ _ _ (fun k hk => by omega) 2).trans (hPl.1 who hwho).1)) ?_
          refine Ev.run 1 (pc' := 162) (lv' := [(9, .int (nI (ldC g x1 x2 who y))), (8, .int (nI (g 174 (4 * who + x1 1 % 4)))), (7, .int (nI (safC g x1 x2 who y))), (6, .int (nI (mayC g x1 x2 who))), (5, .int (nI (ftX g x1 x2 (x1 1)))), (4, .int (nI (x1 1))), (3, .ref (60 + 2 * who)), (0, .ref 12), (1, .ref 44), (2, .int (nI who))]) (st' := [.int (nI 1), .int (nI (g 171 who))]) (h' := HN (RO g 44 x0 x1 x2 x3) hl (RF rt)) rfl ?_
          refine Ev.call (a := 121) (as := [.int (nI (g 171 who)), .int (nI 1)]) (rest := []) (lv0 := [(0, .int (nI (g 171 who))), (1, .int (nI 1))]) (Q1 := (fun z0 h' => z0 = some (.int (nI (bn (undS (g 171 who) 1)))) ∧ h' = HN (RO g 44 x0 x1 x2 x3) hl (RF rt))) rfl rfl (K_und _ (HN g hl (RF rt)) (RO g 44 x0 x1 x2 x3) _ _ (g 171 who) 1 (by omega) (by omega) ⟨rfl, rfl⟩) (fun r h' hr => ?_)
          obtain ⟨rfl, rfl⟩ := hr
          refine Ev_bn (fun hb165 => ?_) (fun hb165 => ?_)
          · skip
            refine Ev.run 6 (pc' := 175) (lv' := [(9, .int (nI (ldC g x1 x2 who y))), (8, .int (nI (g 174 (4 * who + x1 1 % 4)))), (7, .int (nI (safC g x1 x2 who y))), (6, .int (nI (mayC g x1 x2 who))), (5, .int (nI (ftX g x1 x2 (x1 1)))), (4, .int (nI (x1 1))), (3, .ref (60 + 2 * who)), (0, .ref 12), (1, .ref 44), (2, .int (nI who))]) (st' := [.int (nI (safC g x1 x2 who y)), .int (nI (ftX g x1 x2 (x1 1))), .int (nI who), .ref 44, .ref 12]) (h' := HN (RO g 44 x0 x1 x2 x3) hl (RF rt)) rfl ?_
            refine Ev.call (a := 40) (as := [.ref 12, .ref 44, .int (nI who), .int (nI (ftX g x1 x2 (x1 1))), .int (nI (safC g x1 x2 who y))]) (rest := []) (lv0 := [(0, .ref 12), (1, .ref 44), (2, .int (nI who)), (3, .int (nI (ftX g x1 x2 (x1 1)))), (4, .int (nI (safC g x1 x2 who y)))]) (Q1 := (fun z0 h' => z0 = some (.int (nI (syC g x1 x3 who (ftX g x1 x2 (x1 1)) (safC g x1 x2 who y)))) ∧ h' = HN (RO g 44 x0 x1 x2 x3) hl (RF rt))) rfl rfl (K44_slyest _ g _ _ hI hB hP5 hk59 x0 x1 x2 x3 hx3 (by omega) who (ftX g x1 x2 (x1 1)) (safC g x1 x2 who y) (by omega) (by omega) (by omega) ⟨rfl, rfl⟩) (fun r h' hr => ?_)
            obtain ⟨rfl, rfl⟩ := hr
            refine Ev.run 1 (pc' := 186) (lv' := [(9, .int (nI (ldC g x1 x2 who y))), (8, .int (nI (g 174 (4 * who + x1 1 % 4)))), (7, .int (nI (safC g x1 x2 who y))), (6, .int (nI (mayC g x1 x2 who))), (5, .int (nI (ftX g x1 x2 (x1 1)))), (4, .int (nI (x1 1))), (3, .ref (60 + 2 * who)), (0, .ref 12), (1, .ref 44), (2, .int (nI who))]) (st' := [.int (nI (syC g x1 x3 who (ftX g x1 x2 (x1 1)) (safC g x1 x2 who y)))]) (h' := HN (RO g 44 x0 x1 x2 x3) hl (RF rt)) rfl ?_
            refine Ev.ret (v := some (.int (nI (syC g x1 x3 who (ftX g x1 x2 (x1 1)) (safC g x1 x2 who y))))) rfl ?_
            have e : chC g x0 x1 x2 x3 who y = syC g x1 x3 who (ftX g x1 x2 (x1 1)) (safC g x1 x2 who y) := by
              unfold chC
              rw [if_neg (fun z => hc90 z.1)]
              rw [if_pos hc143]
              rw [if_neg hc154]
              rw [if_pos hb165]
            rw [e] at hq
            exact hq
          · skip
            refine Ev.run 2 (pc' := 183) (lv' := [(9, .int (nI (ldC g x1 x2 who y))), (8, .int (nI (g 174 (4 * who + x1 1 % 4)))), (7, .int (nI (safC g x1 x2 who y))), (6, .int (nI (mayC g x1 x2 who))), (5, .int (nI (ftX g x1 x2 (x1 1)))), (4, .int (nI (x1 1))), (3, .ref (60 + 2 * who)), (0, .ref 12), (1, .ref 44), (2, .int (nI who))]) (st' := [.int (nI (safC g x1 x2 who y))]) (h' := HN (RO g 44 x0 x1 x2 x3) hl (RF rt)) rfl ?_
            refine Ev.call (a := 123) (as := [.int (nI (safC g x1 x2 who y))]) (rest := []) (lv0 := [(0, .int (nI (safC g x1 x2 who y)))]) (Q1 := (fun z0 h' => z0 = some (.int (nI (frS (safC g x1 x2 who y)))) ∧ h' = HN (RO g 44 x0 x1 x2 x3) hl (RF rt))) rfl rfl (K_first _ _ _ _ (safC g x1 x2 who y) (by omega) ⟨rfl, rfl⟩) (fun r h' hr => ?_)
            obtain ⟨rfl, rfl⟩ := hr
            refine Ev.ret (v := some (.int (nI (frS (safC g x1 x2 who y))))) rfl ?_
            have e : chC g x0 x1 x2 x3 who y = frS (safC g x1 x2 who y) := by
              unfold chC
              rw [if_neg (fun z => hc90 z.1)]
              rw [if_pos hc143]
              rw [if_neg hc154]
              rw [if_neg (fun z => tf z hb165)]
            rw [e] at hq
            exact hq
      · have hc143 : ¬ ((ldC g x1 x2 who y) = 0) := fun z => hc143 ((nI_eqU0 (by omega)).mpr z)
        refine Ev.run 1 (pc' := 148) (lv' := [(9, .int (nI (ldC g x1 x2 who y))), (8, .int (nI (g 174 (4 * who + x1 1 % 4)))), (7, .int (nI (safC g x1 x2 who y))), (6, .int (nI (mayC g x1 x2 who))), (5, .int (nI (ftX g x1 x2 (x1 1)))), (4, .int (nI (x1 1))), (3, .ref (60 + 2 * who)), (0, .ref 12), (1, .ref 44), (2, .int (nI who))]) (st' := [.int (nI (ldC g x1 x2 who y))]) (h' := HN (RO g 44 x0 x1 x2 x3) hl (RF rt)) rfl ?_
        refine Ev.call (a := 123) (as := [.int (nI (ldC g x1 x2 who y))]) (rest := []) (lv0 := [(0, .int (nI (ldC g x1 x2 who y)))]) (Q1 := (fun z0 h' => z0 = some (.int (nI (frS (ldC g x1 x2 who y)))) ∧ h' = HN (RO g 44 x0 x1 x2 x3) hl (RF rt))) rfl rfl (K_first _ _ _ _ (ldC g x1 x2 who y) (by omega) ⟨rfl, rfl⟩) (fun r h' hr => ?_)
        obtain ⟨rfl, rfl⟩ := hr
        refine Ev.ret (v := some (.int (nI (frS (ldC g x1 x2 who y))))) rfl ?_
        have e : chC g x0 x1 x2 x3 who y = frS (ldC g x1 x2 who y) := by
          unfold chC
          rw [if_neg (fun z => hc90 z.1)]
          rw [if_neg hc143]
        rw [e] at hq
        exact hq
theorem K128_choose {L : Nat} {xs : Nat → Int32} (d : Nat) (g : Nat → Nat → Nat) (hl : Nat → Nat → Int64) (rt : Nat × Nat × Nat × Nat) (hI : MI g) (hB : CB g) (hP5 : g 12 2 ≤ 5) (y : Nat) (hT : TbC g rt y) (hk59 : ∀ j, j < 5 → g 59 j < 4096) (hlo : ∀ j, j < 7 → g 18 j < 4096) (hPl : CPl g) (x0 x1 x2 x3 : Nat → Nat) (hx3 : ∀ j, j < 5 → x3 j ≤ 99) (hn12 : x1 1 ≤ 12) (hr : ∀ k, k < x1 1 → x2 k ≤ 3) (hx0 : x0 2 ≤ 4) (hx03 : x0 3 ≤ 4 ∨ x0 3 = 4294967295) (who : Nat) (hwho : who < 5) {Q : Po} (hq : Q (some (.int (nI (chC g x0 x1 x2 x3 who y)))) (HN (RO g 128 x0 x1 x2 x3) hl (RF rt))) : Ev L xs (d + 5) 39 0 [(0, .ref 12), (1, .ref 128), (2, .int (nI who))] [] (HN (RO g 128 x0 x1 x2 x3) hl (RF rt)) Q := by
  have hyy := hT.2.1
  have hkd := hI.hkd
  have hvv := hI.hvv
  have hro := hI.hro
  refine Ev.run 3 (pc' := 5) (lv' := [(0, .ref 12), (1, .ref 128), (2, .int (nI who))]) (st' := [.int (nI who), .ref 43]) (h' := HN (RO g 128 x0 x1 x2 x3) hl (RF rt)) rfl ?_
  refine Ev_aald (c := (60 + 2 * who)) rfl (by decide) rfl (show who < 5 by omega) (Nat.le_of_ble_eq_true rfl) (sh_pl rt who hwho).2.2.1 ?_
  have hkdw := hkd who hwho
  have hvvw := hvv who hwho
  have hrow := hro (4 * who + x1 1 % 4) (by omega)
  have hkn := hk59 who hwho
  refine Ev.run 10 (pc' := 26) (lv' := [(4, .int (nI (x1 1))), (3, .ref (60 + 2 * who)), (0, .ref 12), (1, .ref 128), (2, .int (nI who))]) (st' := [.int (nI (x1 1)), .ref 129, .ref 13]) (h' := HN (RO g 128 x0 x1 x2 x3) hl (RF rt)) rfl ?_
  refine Ev.call (a := 13) (as := [.ref 13, .ref 129, .int (nI (x1 1))]) (rest := []) (lv0 := [(0, .ref 13), (1, .ref 129), (2, .int (nI (x1 1)))]) (Q1 := (fun z0 h' => z0 = some (.int (nI (ftX g x1 x2 (x1 1)))) ∧ h' = HN (RO g 128 x0 x1 x2 x3) hl (RF rt))) rfl rfl (K_fitting _ (RO g 128 x0 x1 x2 x3) _ _ (hI.mRO (by decide)) (hB.cRO (by decide)) 129 12 (ln129 rt) (x1 1) (by omega) (show x1 1 ≤ 12 by omega) (fun k => atX_lt hr k) ⟨rfl, rfl⟩) (fun r h' hr => ?_)
  obtain ⟨rfl, rfl⟩ := hr
  have hftx : ftX g x1 x2 (x1 1) < 4096 := bset_12 _ hI.hW
  refine Ev.run 7 (pc' := 42) (lv' := [(5, .int (nI (ftX g x1 x2 (x1 1)))), (4, .int (nI (x1 1))), (3, .ref (60 + 2 * who)), (0, .ref 12), (1, .ref 128), (2, .int (nI who))]) (st' := [.int (nI who), .ref 59, .int (nI (ftX g x1 x2 (x1 1))), .ref 13]) (h' := HN (RO g 128 x0 x1 x2 x3) hl (RF rt)) rfl ?_
  refine Ev_iald rfl rfl (show who < 5 by omega) (Nat.le_of_ble_eq_true rfl) ?_
  have hand := and_le (ftX g x1 x2 (x1 1)) (g 59 who)
  refine Ev.run 1 (pc' := 44) (lv' := [(5, .int (nI (ftX g x1 x2 (x1 1)))), (4, .int (nI (x1 1))), (3, .ref (60 + 2 * who)), (0, .ref 12), (1, .ref 128), (2, .int (nI who))]) (st' := [.int (nI (ftX g x1 x2 (x1 1)) &&& nI (g 59 who)), .ref 13]) (h' := HN (RO g 128 x0 x1 x2 x3) hl (RF rt)) rfl ?_
  refine Ev.topI (nIa _ _) ?_
  refine Ev.run 1 (pc' := 46) (lv' := [(5, .int (nI (ftX g x1 x2 (x1 1)))), (4, .int (nI (x1 1))), (3, .ref (60 + 2 * who)), (0, .ref 12), (1, .ref 128), (2, .int (nI who))]) (st' := [.int (nI (x1 1)), .int (nI ((ftX g x1 x2 (x1 1)) &&& (g 59 who))), .ref 13]) (h' := HN (RO g 128 x0 x1 x2 x3) hl (RF rt)) rfl ?_
  refine Ev.call (a := 16) (as := [.ref 13, .int (nI ((ftX g x1 x2 (x1 1)) &&& (g 59 who))), .int (nI (x1 1))]) (rest := []) (lv0 := [(0, .ref 13), (1, .int (nI ((ftX g x1 x2 (x1 1)) &&& (g 59 who)))), (2, .int (nI (x1 1)))]) (Q1 := (fun z0 h' => z0 = some (.int (nI (mayC g x1 x2 who))) ∧ h' = HN (RO g 128 x0 x1 x2 x3) hl (RF rt))) rfl rfl (K_going _ (RO g 128 x0 x1 x2 x3) _ _ (hI.mRO (by decide)) (hB.cRO (by decide)) ((ftX g x1 x2 (x1 1)) &&& (g 59 who)) (by omega) (x1 1) (by omega) ⟨rfl, rfl⟩) (fun r h' hr => ?_)
  obtain ⟨rfl, rfl⟩ := hr
  have hmay : mayC g x1 x2 who < 16 := bset_lt _ 4
  refine Ev.run 8 (pc' := 65) (lv' := [(6, .int (nI (mayC g x1 x2 who))), (5, .int (nI (ftX g x1 x2 (x1 1)))), (4, .int (nI (x1 1))), (3, .ref (60 + 2 * who)), (0, .ref 12), (1, .ref 128), (2, .int (nI who))]) (st' := [.ref rt.2.2.1, .int (nI (mayC g x1 x2 who)), .int (nI (x1 1)), .int (nI (ftX g x1 x2 (x1 1))), .ref 13]) (h' := HN (RO g 128 x0 x1 x2 x3) hl (RF rt)) rfl ?_
  refine Ev_gfI rfl rfl rfl hT.1 ?_
  refine Ev.topI (congrArg nI ((RO_ne g 128 _ _ _ _ (fun k hk => by have := hT.2.2.2 k hk; omega) 3).trans hT.2.2.1)) ?_
  refine Ev.call (a := 17) (as := [.ref 13, .int (nI (ftX g x1 x2 (x1 1))), .int (nI (x1 1)), .int (nI (mayC g x1 x2 who)), .int (nI y)]) (rest := []) (lv0 := [(0, .ref 13), (1, .int (nI (ftX g x1 x2 (x1 1)))), (2, .int (nI (x1 1))), (3, .int (nI (mayC g x1 x2 who))), (4, .int (nI y))]) (Q1 := (fun z0 h' => z0 = some (.int (nI (safC g x1 x2 who y))) ∧ h' = HN (RO g 128 x0 x1 x2 x3) hl (RF rt))) rfl rfl (K_notEnding _ (RO g 128 x0 x1 x2 x3) _ _ (hI.mRO (by decide)) (hB.cRO (by decide)) (ftX g x1 x2 (x1 1)) (by omega) (x1 1) (by omega) (mayC g x1 x2 who) y (by omega) (by omega) ⟨rfl, rfl⟩) (fun r h' hr => ?_)
  obtain ⟨rfl, rfl⟩ := hr
  have hsaf : safC g x1 x2 who y < 16 := bset_lt _ 4
  refine Ev.run 2 (pc' := 74) (lv' := [(7, .int (nI (safC g x1 x2 who y))), (6, .int (nI (mayC g x1 x2 who))), (5, .int (nI (ftX g x1 x2 (x1 1)))), (4, .int (nI (x1 1))), (3, .ref (60 + 2 * who)), (0, .ref 12), (1, .ref 128), (2, .int (nI who))]) (st' := [.ref (60 + 2 * who)]) (h' := HN (RO g 128 x0 x1 x2 x3) hl (RF rt)) rfl ?_
  refine Ev_gfR rfl rfl rfl (kcP hwho) (sh_pl rt who hwho).2.2.2 ?_
  refine Ev.run 2 (pc' := 80) (lv' := [(7, .int (nI (safC g x1 x2 who y))), (6, .int (nI (mayC g x1 x2 who))), (5, .int (nI (ftX g x1 x2 (x1 1)))), (4, .int (nI (x1 1))), (3, .ref (60 + 2 * who)), (0, .ref 12), (1, .ref 128), (2, .int (nI who))]) (st' := [.int (nI 4), .int (nI (x1 1)), .ref (60 + 2 * who + 1)]) (h' := HN (RO g 128 x0 x1 x2 x3) hl (RF rt)) rfl ?_
  refine Ev_irem rfl (by omega) (by omega) (by omega) ?_
  refine Ev_iald rfl (kcQ hwho).k (show _ < _ by rw [(kcQ hwho).n]; omega) (by rw [(kcQ hwho).n]; omega) ?_
  refine Ev.topI (congrArg nI ((RO_ne g 128 _ _ _ _ (fun k hk => by omega) _).trans (hPl.2.1 who _ hwho (by omega)))) ?_
  refine Ev.run 2 (pc' := 85) (lv' := [(8, .int (nI (g 174 (4 * who + x1 1 % 4)))), (7, .int (nI (safC g x1 x2 who y))), (6, .int (nI (mayC g x1 x2 who))), (5, .int (nI (ftX g x1 x2 (x1 1)))), (4, .int (nI (x1 1))), (3, .ref (60 + 2 * who)), (0, .ref 12), (1, .ref 128), (2, .int (nI who))]) (st' := [.ref (60 + 2 * who)]) (h' := HN (RO g 128 x0 x1 x2 x3) hl (RF rt)) rfl ?_
  refine Ev_gfI rfl rfl rfl (kcP hwho) ?_
  refine Ev.topI (congrArg nI ((RO_ne g 128 _ _ _ _ (fun k hk => by omega) 2).trans (hPl.1 who hwho).1)) ?_
  refine Ev.run 2 (pc' := (if nI (g 171 who) = nI 6 then 93 else 106)) (lv' := [(8, .int (nI (g 174 (4 * who + x1 1 % 4)))), (7, .int (nI (safC g x1 x2 who y))), (6, .int (nI (mayC g x1 x2 who))), (5, .int (nI (ftX g x1 x2 (x1 1)))), (4, .int (nI (x1 1))), (3, .ref (60 + 2 * who)), (0, .ref 12), (1, .ref 128), (2, .int (nI who))]) (st' := []) (h' := HN (RO g 128 x0 x1 x2 x3) hl (RF rt)) rfl ?_
  refine Ev.ite (fun hc90 => ?_) (fun hc90 => ?_)
  · have hc90 : (g 171 who) = 6 := (nI_eqU (by omega) (by omega)).mp hc90
    refine Ev.run 2 (pc' := 97) (lv' := [(8, .int (nI (g 174 (4 * who + x1 1 % 4)))), (7, .int (nI (safC g x1 x2 who y))), (6, .int (nI (mayC g x1 x2 who))), (5, .int (nI (ftX g x1 x2 (x1 1)))), (4, .int (nI (x1 1))), (3, .ref (60 + 2 * who)), (0, .ref 12), (1, .ref 128), (2, .int (nI who))]) (st' := [.int (nI (g 174 (4 * who + x1 1 % 4))), .int (nI (mayC g x1 x2 who))]) (h' := HN (RO g 128 x0 x1 x2 x3) hl (RF rt)) rfl ?_
    refine Ev.call (a := 122) (as := [.int (nI (mayC g x1 x2 who)), .int (nI (g 174 (4 * who + x1 1 % 4)))]) (rest := []) (lv0 := [(0, .int (nI (mayC g x1 x2 who))), (1, .int (nI (g 174 (4 * who + x1 1 % 4))))]) (Q1 := (fun z0 h' => z0 = some (.int (nI (bn (Nat.testBit (mayC g x1 x2 who) (g 174 (4 * who + x1 1 % 4)))))) ∧ h' = HN (RO g 128 x0 x1 x2 x3) hl (RF rt))) rfl rfl (K_isIn _ _ _ _ (mayC g x1 x2 who) (g 174 (4 * who + x1 1 % 4)) (by omega) (by omega) ⟨rfl, rfl⟩) (fun r h' hr => ?_)
    obtain ⟨rfl, rfl⟩ := hr
    refine Ev_bn (fun hb100 => ?_) (fun hb100 => ?_)
    · skip
      refine Ev.run 2 (pc' := 105) (lv' := [(8, .int (nI (g 174 (4 * who + x1 1 % 4)))), (7, .int (nI (safC g x1 x2 who y))), (6, .int (nI (mayC g x1 x2 who))), (5, .int (nI (ftX g x1 x2 (x1 1)))), (4, .int (nI (x1 1))), (3, .ref (60 + 2 * who)), (0, .ref 12), (1, .ref 128), (2, .int (nI who))]) (st' := [.int (nI (g 174 (4 * who + x1 1 % 4)))]) (h' := HN (RO g 128 x0 x1 x2 x3) hl (RF rt)) rfl ?_
      refine Ev.ret (v := some (.int (nI (g 174 (4 * who + x1 1 % 4))))) rfl ?_
      have e : chC g x0 x1 x2 x3 who y = g 174 (4 * who + x1 1 % 4) := by
        unfold chC
        rw [if_pos ⟨hc90, hb100⟩]
      rw [e] at hq
      exact hq
    · skip
      refine Ev.run 2 (pc' := 107) (lv' := [(8, .int (nI (g 174 (4 * who + x1 1 % 4)))), (7, .int (nI (safC g x1 x2 who y))), (6, .int (nI (mayC g x1 x2 who))), (5, .int (nI (ftX g x1 x2 (x1 1)))), (4, .int (nI (x1 1))), (3, .ref (60 + 2 * who)), (0, .ref 12), (1, .ref 128), (2, .int (nI who))]) (st' := [.ref (60 + 2 * who)]) (h' := HN (RO g 128 x0 x1 x2 x3) hl (RF rt)) rfl ?_
      refine Ev_gfI rfl rfl rfl (kcP hwho) ?_
      refine Ev.topI (congrArg nI ((RO_ne g 128 _ _ _ _ (fun k hk => by omega) 2).trans (hPl.1 who hwho).1)) ?_
      refine Ev.run 2 (pc' := (if nI (g 171 who) = nI 4 then 114 else 138)) (lv' := [(8, .int (nI (g 174 (4 * who + x1 1 % 4)))), (7, .int (nI (safC g x1 x2 who y))), (6, .int (nI (mayC g x1 x2 who))), (5, .int (nI (ftX g x1 x2 (x1 1)))), (4, .int (nI (x1 1))), (3, .ref (60 + 2 * who)), (0, .ref 12), (1, .ref 128), (2, .int (nI who))]) (st' := []) (h' := HN (RO g 128 x0 x1 x2 x3) hl (RF rt)) rfl ?_
      refine Ev.ite (fun hc111 => ?_) (fun hc111 => ?_)
      · have hc111 : (g 171 who) = 4 := (nI_eqU (by omega) (by omega)).mp hc111
        refine Ev.run 7 (pc' := 128) (lv' := [(8, .int (nI (g 174 (4 * who + x1 1 % 4)))), (7, .int (nI (safC g x1 x2 who y))), (6, .int (nI (mayC g x1 x2 who))), (5, .int (nI (ftX g x1 x2 (x1 1)))), (4, .int (nI (x1 1))), (3, .ref (60 + 2 * who)), (0, .ref 12), (1, .ref 128), (2, .int (nI who))]) (st' := [.ref rt.2.2.1, .int (nI (x1 1)), .int (nI (ftX g x1 x2 (x1 1))), .ref 13, .int (nI (safC g x1 x2 who y))]) (h' := HN (RO g 128 x0 x1 x2 x3) hl (RF rt)) rfl ?_
        refine Ev_gfI rfl rfl rfl hT.1 ?_
        refine Ev.topI (congrArg nI ((RO_ne g 128 _ _ _ _ (fun k hk => by have := hT.2.2.2 k hk; omega) 3).trans hT.2.2.1)) ?_
        refine Ev.call (a := 19) (as := [.ref 13, .int (nI (ftX g x1 x2 (x1 1))), .int (nI (x1 1)), .int (nI y)]) (rest := [.int (nI (safC g x1 x2 who y))]) (lv0 := [(0, .ref 13), (1, .int (nI (ftX g x1 x2 (x1 1)))), (2, .int (nI (x1 1))), (3, .int (nI y))]) (Q1 := (fun z0 h' => z0 = some (.int (nI (wiF g (ftX g x1 x2 (x1 1)) (x1 1) y (XL g (x1 1))))) ∧ h' = HN (RO g 128 x0 x1 x2 x3) hl (RF rt))) rfl rfl (K_winning _ (RO g 128 x0 x1 x2 x3) _ _ (hI.mRO (by decide)) (hB.cRO (by decide)) (ftX g x1 x2 (x1 1)) (by omega) (x1 1) y (XL g (x1 1)) (by omega) (by omega) (fun h => (if_pos h).symm) (fun h => if_neg (by omega)) (by unfold XL; split <;> first | exact hlo _ (by omega) | decide) ⟨rfl, rfl⟩) (fun r h' hr => ?_)
        obtain ⟨rfl, rfl⟩ := hr
        have hwif : wiF g (ftX g x1 x2 (x1 1)) (x1 1) y (XL g (x1 1)) < 16 := bset_lt _ 4
        have hlan := and_le (safC g x1 x2 who y) (wiF g (ftX g x1 x2 (x1 1)) (x1 1) y (XL g (x1 1)))
        refine Ev.run 1 (pc' := 135) (lv' := [(8, .int (nI (g 174 (4 * who + x1 1 % 4)))), (7, .int (nI (safC g x1 x2 who y))), (6, .int (nI (mayC g x1 x2 who))), (5, .int (nI (ftX g x1 x2 (x1 1)))), (4, .int (nI (x1 1))), (3, .ref (60 + 2 * who)), (0, .ref 12), (1, .ref 128), (2, .int (nI who))]) (st' := [.int (nI (safC g x1 x2 who y) &&& nI (wiF g (ftX g x1 x2 (x1 1)) (x1 1) y (XL g (x1 1))))]) (h' := HN (RO g 128 x0 x1 x2 x3) hl (RF rt)) rfl ?_
        refine Ev.topI (nIa _ _) ?_
        refine Ev.run 1 (pc' := 139) (lv' := [(8, .int (nI (g 174 (4 * who + x1 1 % 4)))), (7, .int (nI (safC g x1 x2 who y))), (6, .int (nI (mayC g x1 x2 who))), (5, .int (nI (ftX g x1 x2 (x1 1)))), (4, .int (nI (x1 1))), (3, .ref (60 + 2 * who)), (0, .ref 12), (1, .ref 128), (2, .int (nI who))]) (st' := [.int (nI ((safC g x1 x2 who y) &&& (wiF g (ftX g x1 x2 (x1 1)) (x1 1) y (XL g (x1 1)))))]) (h' := HN (RO g 128 x0 x1 x2 x3) hl (RF rt)) rfl ?_
        refine Ev.topI (congrArg nI (show (safC g x1 x2 who y) &&& (wiF g (ftX g x1 x2 (x1 1)) (x1 1) y (XL g (x1 1))) = ldC g x1 x2 who y by unfold ldC; first | rw [if_pos hc111] | rw [if_neg hc111])) ?_
        have hldc : ldC g x1 x2 who y < 16 := by unfold ldC; first | (rw [if_pos hc111]; omega) | (rw [if_neg hc111]; decide)
        refine Ev.run 3 (pc' := (if nI (ldC g x1 x2 who y) = 0 then 152 else 146)) (lv' := [(9, .int (nI (ldC g x1 x2 who y))), (8, .int (nI (g 174 (4 * who + x1 1 % 4)))), (7, .int (nI (safC g x1 x2 who y))), (6, .int (nI (mayC g x1 x2 who))), (5, .int (nI (ftX g x1 x2 (x1 1)))), (4, .int (nI (x1 1))), (3, .ref (60 + 2 * who)), (0, .ref 12), (1, .ref 128), (2, .int (nI who))]) (st' := []) (h' := HN (RO g 128 x0 x1 x2 x3) hl (RF rt)) rfl ?_
        refine Ev.ite (fun hc143 => ?_) (fun hc143 => ?_)
        · have hc143 : (ldC g x1 x2 who y) = 0 := (nI_eqU0 (by omega)).mp hc143
          refine Ev.run 2 (pc' := (if nI (safC g x1 x2 who y) = 0 then 187 else 157)) (lv' := [(9, .int (nI (ldC g x1 x2 who y))), (8, .int (nI (g 174 (4 * who + x1 1 % 4)))), (7, .int (nI (safC g x1 x2 who y))), (6, .int (nI (mayC g x1 x2 who))), (5, .int (nI (ftX g x1 x2 (x1 1)))), (4, .int (nI (x1 1))), (3, .ref (60 + 2 * who)), (0, .ref 12), (1, .ref 128), (2, .int (nI who))]) (st' := []) (h' := HN (RO g 128 x0 x1 x2 x3) hl (RF rt)) rfl ?_
          refine Ev.ite (fun hc154 => ?_) (fun hc154 => ?_)
          · have hc154 : (safC g x1 x2 who y) = 0 := (nI_eqU0 (by omega)).mp hc154
            refine Ev.run 1 (pc' := 188) (lv' := [(9, .int (nI (ldC g x1 x2 who y))), (8, .int (nI (g 174 (4 * who + x1 1 % 4)))), (7, .int (nI (safC g x1 x2 who y))), (6, .int (nI (mayC g x1 x2 who))), (5, .int (nI (ftX g x1 x2 (x1 1)))), (4, .int (nI (x1 1))), (3, .ref (60 + 2 * who)), (0, .ref 12), (1, .ref 128), (2, .int (nI who))]) (st' := [.ref (60 + 2 * who)]) (h' := HN (RO g 128 x0 x1 x2 x3) hl (RF rt)) rfl ?_
            refine Ev_gfI rfl rfl rfl (kcP hwho) ?_
            refine Ev.topI (congrArg nI ((RO_ne g 128 _ _ _ _ (fun k hk => by omega) 2).trans (hPl.1 who hwho).1)) ?_
            refine Ev.run 1 (pc' := 192) (lv' := [(9, .int (nI (ldC g x1 x2 who y))), (8, .int (nI (g 174 (4 * who + x1 1 % 4)))), (7, .int (nI (safC g x1 x2 who y))), (6, .int (nI (mayC g x1 x2 who))), (5, .int (nI (ftX g x1 x2 (x1 1)))), (4, .int (nI (x1 1))), (3, .ref (60 + 2 * who)), (0, .ref 12), (1, .ref 128), (2, .int (nI who))]) (st' := [.int (nI 2), .int (nI (g 171 who))]) (h' := HN (RO g 128 x0 x1 x2 x3) hl (RF rt)) rfl ?_
            refine Ev.call (a := 121) (as := [.int (nI (g 171 who)), .int (nI 2)]) (rest := []) (lv0 := [(0, .int (nI (g 171 who))), (1, .int (nI 2))]) (Q1 := (fun z0 h' => z0 = some (.int (nI (bn (undS (g 171 who) 2)))) ∧ h' = HN (RO g 128 x0 x1 x2 x3) hl (RF rt))) rfl rfl (K_und _ (HN g hl (RF rt)) (RO g 128 x0 x1 x2 x3) _ _ (g 171 who) 2 (by omega) (by omega) ⟨rfl, rfl⟩) (fun r h' hr => ?_)
            obtain ⟨rfl, rfl⟩ := hr
            refine Ev_bn (fun hb195 => ?_) (fun hb195 => ?_)
            · skip
              refine Ev.run 4 (pc' := (if nI (x0 3) < 0 then 208 else 205)) (lv' := [(9, .int (nI (ldC g x1 x2 who y))), (8, .int (nI (g 174 (4 * who + x1 1 % 4)))), (7, .int (nI (safC g x1 x2 who y))), (6, .int (nI (mayC g x1 x2 who))), (5, .int (nI (ftX g x1 x2 (x1 1)))), (4, .int (nI (x1 1))), (3, .ref (60 + 2 * who)), (0, .ref 12), (1, .ref 128), (2, .int (nI who))]) (st' := []) (h' := HN (RO g 128 x0 x1 x2 x3) hl (RF rt)) rfl ?_
              refine Ev.ite (fun hc202 => ?_) (fun hc202 => ?_)
              · have hc202 : 2147483648 ≤ (x0 3) := (nI_ltU0 (by omega)).mp hc202
                refine Ev.run 2 (pc' := (if nI (mayC g x1 x2 who) = 0 then 219 else 213)) (lv' := [(9, .int (nI (ldC g x1 x2 who y))), (8, .int (nI (g 174 (4 * who + x1 1 % 4)))), (7, .int (nI (safC g x1 x2 who y))), (6, .int (nI (mayC g x1 x2 who))), (5, .int (nI (ftX g x1 x2 (x1 1)))), (4, .int (nI (x1 1))), (3, .ref (60 + 2 * who)), (0, .ref 12), (1, .ref 128), (2, .int (nI who))]) (st' := []) (h' := HN (RO g 128 x0 x1 x2 x3) hl (RF rt)) rfl ?_
                refine Ev.ite (fun hc210 => ?_) (fun hc210 => ?_)
                · have hc210 : (mayC g x1 x2 who) = 0 := (nI_eqU0 (by omega)).mp hc210
                  refine Ev.run 1 (pc' := 220) (lv' := [(9, .int (nI (ldC g x1 x2 who y))), (8, .int (nI (g 174 (4 * who + x1 1 % 4)))), (7, .int (nI (safC g x1 x2 who y))), (6, .int (nI (mayC g x1 x2 who))), (5, .int (nI (ftX g x1 x2 (x1 1)))), (4, .int (nI (x1 1))), (3, .ref (60 + 2 * who)), (0, .ref 12), (1, .ref 128), (2, .int (nI who))]) (st' := [.ref (60 + 2 * who)]) (h' := HN (RO g 128 x0 x1 x2 x3) hl (RF rt)) rfl ?_
                  refine Ev_gfI rfl rfl rfl (kcP hwho) ?_
                  refine Ev.topI (congrArg nI ((RO_ne g 128 _ _ _ _ (fun k hk => by omega) 2).trans (hPl.1 who hwho).1)) ?_
                  refine Ev.run 1 (pc' := 224) (lv' := [(9, .int (nI (ldC g x1 x2 who y))), (8, .int (nI (g 174 (4 * who + x1 1 % 4)))), (7, .int (nI (safC g x1 x2 who y))), (6, .int (nI (mayC g x1 x2 who))), (5, .int (nI (ftX g x1 x2 (x1 1)))), (4, .int (nI (x1 1))), (3, .ref (60 + 2 * who)), (0, .ref 12), (1, .ref 128), (2, .int (nI who))]) (st' := [.int (nI 3), .int (nI (g 171 who))]) (h' := HN (RO g 128 x0 x1 x2 x3) hl (RF rt)) rfl ?_
                  refine Ev.call (a := 121) (as := [.int (nI (g 171 who)), .int (nI 3)]) (rest := []) (lv0 := [(0, .int (nI (g 171 who))), (1, .int (nI 3))]) (Q1 := (fun z0 h' => z0 = some (.int (nI (bn (undS (g 171 who) 3)))) ∧ h' = HN (RO g 128 x0 x1 x2 x3) hl (RF rt))) rfl rfl (K_und _ (HN g hl (RF rt)) (RO g 128 x0 x1 x2 x3) _ _ (g 171 who) 3 (by omega) (by omega) ⟨rfl, rfl⟩) (fun r h' hr => ?_)
                  obtain ⟨rfl, rfl⟩ := hr
                  refine Ev_bn (fun hb227 => ?_) (fun hb227 => ?_)
                  · skip
                    refine Ev.run 3 (pc' := 234) (lv' := [(9, .int (nI (ldC g x1 x2 who y))), (8, .int (nI (g 174 (4 * who + x1 1 % 4)))), (7, .int (nI (safC g x1 x2 who y))), (6, .int (nI (mayC g x1 x2 who))), (5, .int (nI (ftX g x1 x2 (x1 1)))), (4, .int (nI (x1 1))), (3, .ref (60 + 2 * who)), (0, .ref 12), (1, .ref 128), (2, .int (nI who))]) (st' := [.ref 129]) (h' := HN (RO g 128 x0 x1 x2 x3) hl (RF rt)) rfl ?_
                    refine Ev.call (a := 42) (as := [.ref 129]) (rest := []) (lv0 := [(0, .ref 129)]) (Q1 := (fun z0 h' => z0 = some (.int (nI (bn (decide (12 ≤ x1 1))))) ∧ h' = HN (RO g 128 x0 x1 x2 x3) hl (RF rt))) rfl rfl (K_isFull _ (RO g 128 x0 x1 x2 x3) _ _ 129 12 (ln129 rt) (show x1 1 < 2 ^ 31 by omega) ⟨rfl, rfl⟩) (fun r h' hr => ?_)
                    obtain ⟨rfl, rfl⟩ := hr
                    refine Ev_bn (fun hb237 => ?_) (fun hb237 => ?_)
                    · have hhb237 : 12 ≤ x1 1 := of_decide_eq_true hb237
                      refine Ev.run 2 (pc' := 251) (lv' := [(9, .int (nI (ldC g x1 x2 who y))), (8, .int (nI (g 174 (4 * who + x1 1 % 4)))), (7, .int (nI (safC g x1 x2 who y))), (6, .int (nI (mayC g x1 x2 who))), (5, .int (nI (ftX g x1 x2 (x1 1)))), (4, .int (nI (x1 1))), (3, .ref (60 + 2 * who)), (0, .ref 12), (1, .ref 128), (2, .int (nI who))]) (st' := [.int (nI 10)]) (h' := HN (RO g 128 x0 x1 x2 x3) hl (RF rt)) rfl ?_
                      refine Ev.ret (v := some (.int (nI 10))) rfl ?_
                      have e : chC g x0 x1 x2 x3 who y = 10 := by
                        unfold chC
                        rw [if_neg (fun z => tf z.2 hb100)]
                        rw [if_pos hc143]
                        rw [if_pos hc154]
                        rw [if_neg (fun z => by have := z.2; omega)]
                        rw [if_pos hc210]
                        rw [if_neg (fun z => by have h1 := of_decide_eq_true hb237; have h2 := z.2; omega)]
                      rw [e] at hq
                      exact hq
                    · have hhb237 : ¬ (12 ≤ x1 1) := of_decide_eq_false hb237
                      refine Ev.run 2 (pc' := 241) (lv' := [(9, .int (nI (ldC g x1 x2 who y))), (8, .int (nI (g 174 (4 * who + x1 1 % 4)))), (7, .int (nI (safC g x1 x2 who y))), (6, .int (nI (mayC g x1 x2 who))), (5, .int (nI (ftX g x1 x2 (x1 1)))), (4, .int (nI (x1 1))), (3, .ref (60 + 2 * who)), (0, .ref 12), (1, .ref 128), (2, .int (nI who))]) (st' := [.ref (60 + 2 * who)]) (h' := HN (RO g 128 x0 x1 x2 x3) hl (RF rt)) rfl ?_
                      refine Ev_gfI rfl rfl rfl (kcP hwho) ?_
                      refine Ev.topI (congrArg nI ((RO_ne g 128 _ _ _ _ (fun k hk => by omega) 3).trans (hPl.1 who hwho).2)) ?_
                      refine Ev.run 1 (pc' := 245) (lv' := [(9, .int (nI (ldC g x1 x2 who y))), (8, .int (nI (g 174 (4 * who + x1 1 % 4)))), (7, .int (nI (safC g x1 x2 who y))), (6, .int (nI (mayC g x1 x2 who))), (5, .int (nI (ftX g x1 x2 (x1 1)))), (4, .int (nI (x1 1))), (3, .ref (60 + 2 * who)), (0, .ref 12), (1, .ref 128), (2, .int (nI who))]) (st' := [.int (nI 4), .int (nI (g 172 who))]) (h' := HN (RO g 128 x0 x1 x2 x3) hl (RF rt)) rfl ?_
                      refine Ev_irem rfl (by omega) (by omega) (by omega) ?_
                      refine Ev.run 1 (pc' := 251) (lv' := [(9, .int (nI (ldC g x1 x2 who y))), (8, .int (nI (g 174 (4 * who + x1 1 % 4)))), (7, .int (nI (safC g x1 x2 who y))), (6, .int (nI (mayC g x1 x2 who))), (5, .int (nI (ftX g x1 x2 (x1 1)))), (4, .int (nI (x1 1))), (3, .ref (60 + 2 * who)), (0, .ref 12), (1, .ref 128), (2, .int (nI who))]) (st' := [.int (nI ((g 172 who) % 4))]) (h' := HN (RO g 128 x0 x1 x2 x3) hl (RF rt)) rfl ?_
                      refine Ev.ret (v := some (.int (nI ((g 172 who) % 4)))) rfl ?_
                      have e : chC g x0 x1 x2 x3 who y = (g 172 who) % 4 := by
                        unfold chC
                        rw [if_neg (fun z => tf z.2 hb100)]
                        rw [if_pos hc143]
                        rw [if_pos hc154]
                        rw [if_neg (fun z => by have := z.2; omega)]
                        rw [if_pos hc210]
                        rw [if_pos ⟨hb227, by have := of_decide_eq_false hb237; omega⟩]
                      rw [e] at hq
                      exact hq
                  · skip
                    refine Ev.run 2 (pc' := 251) (lv' := [(9, .int (nI (ldC g x1 x2 who y))), (8, .int (nI (g 174 (4 * who + x1 1 % 4)))), (7, .int (nI (safC g x1 x2 who y))), (6, .int (nI (mayC g x1 x2 who))), (5, .int (nI (ftX g x1 x2 (x1 1)))), (4, .int (nI (x1 1))), (3, .ref (60 + 2 * who)), (0, .ref 12), (1, .ref 128), (2, .int (nI who))]) (st' := [.int (nI 10)]) (h' := HN (RO g 128 x0 x1 x2 x3) hl (RF rt)) rfl ?_
                    refine Ev.ret (v := some (.int (nI 10))) rfl ?_
                    have e : chC g x0 x1 x2 x3 who y = 10 := by
                      unfold chC
                      rw [if_neg (fun z => tf z.2 hb100)]
                      rw [if_pos hc143]
                      rw [if_pos hc154]
                      rw [if_neg (fun z => by have := z.2; omega)]
                      rw [if_pos hc210]
                      rw [if_neg (fun z => tf z.1 hb227)]
                    rw [e] at hq
                    exact hq
                · have hc210 : ¬ ((mayC g x1 x2 who) = 0) := fun z => hc210 ((nI_eqU0 (by omega)).mpr z)
                  refine Ev.run 1 (pc' := 215) (lv' := [(9, .int (nI (ldC g x1 x2 who y))), (8, .int (nI (g 174 (4 * who + x1 1 % 4)))), (7, .int (nI (safC g x1 x2 who y))), (6, .int (nI (mayC g x1 x2 who))), (5, .int (nI (ftX g x1 x2 (x1 1)))), (4, .int (nI (x1 1))), (3, .ref (60 + 2 * who)), (0, .ref 12), (1, .ref 128), (2, .int (nI who))]) (st' := [.int (nI (mayC g x1 x2 who))]) (h' := HN (RO g 128 x0 x1 x2 x3) hl (RF rt)) rfl ?_
                  refine Ev.call (a := 123) (as := [.int (nI (mayC g x1 x2 who))]) (rest := []) (lv0 := [(0, .int (nI (mayC g x1 x2 who)))]) (Q1 := (fun z0 h' => z0 = some (.int (nI (frS (mayC g x1 x2 who)))) ∧ h' = HN (RO g 128 x0 x1 x2 x3) hl (RF rt))) rfl rfl (K_first _ _ _ _ (mayC g x1 x2 who) (by omega) ⟨rfl, rfl⟩) (fun r h' hr => ?_)
                  obtain ⟨rfl, rfl⟩ := hr
                  refine Ev.ret (v := some (.int (nI (frS (mayC g x1 x2 who))))) rfl ?_
                  have e : chC g x0 x1 x2 x3 who y = frS (mayC g x1 x2 who) := by
                    unfold chC
                    rw [if_neg (fun z => tf z.2 hb100)]
                    rw [if_pos hc143]
                    rw [if_pos hc154]
                    rw [if_neg (fun z => by have := z.2; omega)]
                    rw [if_neg hc210]
                  rw [e] at hq
                  exact hq
              · have hc202 : ¬ (2147483648 ≤ (x0 3)) := fun z => hc202 ((nI_ltU0 (by omega)).mpr z)
                refine Ev.run 1 (pc' := 207) (lv' := [(9, .int (nI (ldC g x1 x2 who y))), (8, .int (nI (g 174 (4 * who + x1 1 % 4)))), (7, .int (nI (safC g x1 x2 who y))), (6, .int (nI (mayC g x1 x2 who))), (5, .int (nI (ftX g x1 x2 (x1 1)))), (4, .int (nI (x1 1))), (3, .ref (60 + 2 * who)), (0, .ref 12), (1, .ref 128), (2, .int (nI who))]) (st' := [.int (nI 10)]) (h' := HN (RO g 128 x0 x1 x2 x3) hl (RF rt)) rfl ?_
                refine Ev.ret (v := some (.int (nI 10))) rfl ?_
                have e : chC g x0 x1 x2 x3 who y = 10 := by
                  unfold chC
                  rw [if_neg (fun z => tf z.2 hb100)]
                  rw [if_pos hc143]
                  rw [if_pos hc154]
                  rw [if_pos ⟨hb195, by omega⟩]
                rw [e] at hq
                exact hq
            · skip
              refine Ev.run 3 (pc' := (if nI (mayC g x1 x2 who) = 0 then 219 else 213)) (lv' := [(9, .int (nI (ldC g x1 x2 who y))), (8, .int (nI (g 174 (4 * who + x1 1 % 4)))), (7, .int (nI (safC g x1 x2 who y))), (6, .int (nI (mayC g x1 x2 who))), (5, .int (nI (ftX g x1 x2 (x1 1)))), (4, .int (nI (x1 1))), (3, .ref (60 + 2 * who)), (0, .ref 12), (1, .ref 128), (2, .int (nI who))]) (st' := []) (h' := HN (RO g 128 x0 x1 x2 x3) hl (RF rt)) rfl ?_
              refine Ev.ite (fun hc210 => ?_) (fun hc210 => ?_)
              · have hc210 : (mayC g x1 x2 who) = 0 := (nI_eqU0 (by omega)).mp hc210
                refine Ev.run 1 (pc' := 220) (lv' := [(9, .int (nI (ldC g x1 x2 who y))), (8, .int (nI (g 174 (4 * who + x1 1 % 4)))), (7, .int (nI (safC g x1 x2 who y))), (6, .int (nI (mayC g x1 x2 who))), (5, .int (nI (ftX g x1 x2 (x1 1)))), (4, .int (nI (x1 1))), (3, .ref (60 + 2 * who)), (0, .ref 12), (1, .ref 128), (2, .int (nI who))]) (st' := [.ref (60 + 2 * who)]) (h' := HN (RO g 128 x0 x1 x2 x3) hl (RF rt)) rfl ?_
                refine Ev_gfI rfl rfl rfl (kcP hwho) ?_
                refine Ev.topI (congrArg nI ((RO_ne g 128 _ _ _ _ (fun k hk => by omega) 2).trans (hPl.1 who hwho).1)) ?_
                refine Ev.run 1 (pc' := 224) (lv' := [(9, .int (nI (ldC g x1 x2 who y))), (8, .int (nI (g 174 (4 * who + x1 1 % 4)))), (7, .int (nI (safC g x1 x2 who y))), (6, .int (nI (mayC g x1 x2 who))), (5, .int (nI (ftX g x1 x2 (x1 1)))), (4, .int (nI (x1 1))), (3, .ref (60 + 2 * who)), (0, .ref 12), (1, .ref 128), (2, .int (nI who))]) (st' := [.int (nI 3), .int (nI (g 171 who))]) (h' := HN (RO g 128 x0 x1 x2 x3) hl (RF rt)) rfl ?_
                refine Ev.call (a := 121) (as := [.int (nI (g 171 who)), .int (nI 3)]) (rest := []) (lv0 := [(0, .int (nI (g 171 who))), (1, .int (nI 3))]) (Q1 := (fun z0 h' => z0 = some (.int (nI (bn (undS (g 171 who) 3)))) ∧ h' = HN (RO g 128 x0 x1 x2 x3) hl (RF rt))) rfl rfl (K_und _ (HN g hl (RF rt)) (RO g 128 x0 x1 x2 x3) _ _ (g 171 who) 3 (by omega) (by omega) ⟨rfl, rfl⟩) (fun r h' hr => ?_)
                obtain ⟨rfl, rfl⟩ := hr
                refine Ev_bn (fun hb227 => ?_) (fun hb227 => ?_)
                · skip
                  refine Ev.run 3 (pc' := 234) (lv' := [(9, .int (nI (ldC g x1 x2 who y))), (8, .int (nI (g 174 (4 * who + x1 1 % 4)))), (7, .int (nI (safC g x1 x2 who y))), (6, .int (nI (mayC g x1 x2 who))), (5, .int (nI (ftX g x1 x2 (x1 1)))), (4, .int (nI (x1 1))), (3, .ref (60 + 2 * who)), (0, .ref 12), (1, .ref 128), (2, .int (nI who))]) (st' := [.ref 129]) (h' := HN (RO g 128 x0 x1 x2 x3) hl (RF rt)) rfl ?_
                  refine Ev.call (a := 42) (as := [.ref 129]) (rest := []) (lv0 := [(0, .ref 129)]) (Q1 := (fun z0 h' => z0 = some (.int (nI (bn (decide (12 ≤ x1 1))))) ∧ h' = HN (RO g 128 x0 x1 x2 x3) hl (RF rt))) rfl rfl (K_isFull _ (RO g 128 x0 x1 x2 x3) _ _ 129 12 (ln129 rt) (show x1 1 < 2 ^ 31 by omega) ⟨rfl, rfl⟩) (fun r h' hr => ?_)
                  obtain ⟨rfl, rfl⟩ := hr
                  refine Ev_bn (fun hb237 => ?_) (fun hb237 => ?_)
                  · have hhb237 : 12 ≤ x1 1 := of_decide_eq_true hb237
                    refine Ev.run 2 (pc' := 251) (lv' := [(9, .int (nI (ldC g x1 x2 who y))), (8, .int (nI (g 174 (4 * who + x1 1 % 4)))), (7, .int (nI (safC g x1 x2 who y))), (6, .int (nI (mayC g x1 x2 who))), (5, .int (nI (ftX g x1 x2 (x1 1)))), (4, .int (nI (x1 1))), (3, .ref (60 + 2 * who)), (0, .ref 12), (1, .ref 128), (2, .int (nI who))]) (st' := [.int (nI 10)]) (h' := HN (RO g 128 x0 x1 x2 x3) hl (RF rt)) rfl ?_
                    refine Ev.ret (v := some (.int (nI 10))) rfl ?_
                    have e : chC g x0 x1 x2 x3 who y = 10 := by
                      unfold chC
                      rw [if_neg (fun z => tf z.2 hb100)]
                      rw [if_pos hc143]
                      rw [if_pos hc154]
                      rw [if_neg (fun z => tf z.1 hb195)]
                      rw [if_pos hc210]
                      rw [if_neg (fun z => by have h1 := of_decide_eq_true hb237; have h2 := z.2; omega)]
                    rw [e] at hq
                    exact hq
                  · have hhb237 : ¬ (12 ≤ x1 1) := of_decide_eq_false hb237
                    refine Ev.run 2 (pc' := 241) (lv' := [(9, .int (nI (ldC g x1 x2 who y))), (8, .int (nI (g 174 (4 * who + x1 1 % 4)))), (7, .int (nI (safC g x1 x2 who y))), (6, .int (nI (mayC g x1 x2 who))), (5, .int (nI (ftX g x1 x2 (x1 1)))), (4, .int (nI (x1 1))), (3, .ref (60 + 2 * who)), (0, .ref 12), (1, .ref 128), (2, .int (nI who))]) (st' := [.ref (60 + 2 * who)]) (h' := HN (RO g 128 x0 x1 x2 x3) hl (RF rt)) rfl ?_
                    refine Ev_gfI rfl rfl rfl (kcP hwho) ?_
                    refine Ev.topI (congrArg nI ((RO_ne g 128 _ _ _ _ (fun k hk => by omega) 3).trans (hPl.1 who hwho).2)) ?_
                    refine Ev.run 1 (pc' := 245) (lv' := [(9, .int (nI (ldC g x1 x2 who y))), (8, .int (nI (g 174 (4 * who + x1 1 % 4)))), (7, .int (nI (safC g x1 x2 who y))), (6, .int (nI (mayC g x1 x2 who))), (5, .int (nI (ftX g x1 x2 (x1 1)))), (4, .int (nI (x1 1))), (3, .ref (60 + 2 * who)), (0, .ref 12), (1, .ref 128), (2, .int (nI who))]) (st' := [.int (nI 4), .int (nI (g 172 who))]) (h' := HN (RO g 128 x0 x1 x2 x3) hl (RF rt)) rfl ?_
                    refine Ev_irem rfl (by omega) (by omega) (by omega) ?_
                    refine Ev.run 1 (pc' := 251) (lv' := [(9, .int (nI (ldC g x1 x2 who y))), (8, .int (nI (g 174 (4 * who + x1 1 % 4)))), (7, .int (nI (safC g x1 x2 who y))), (6, .int (nI (mayC g x1 x2 who))), (5, .int (nI (ftX g x1 x2 (x1 1)))), (4, .int (nI (x1 1))), (3, .ref (60 + 2 * who)), (0, .ref 12), (1, .ref 128), (2, .int (nI who))]) (st' := [.int (nI ((g 172 who) % 4))]) (h' := HN (RO g 128 x0 x1 x2 x3) hl (RF rt)) rfl ?_
                    refine Ev.ret (v := some (.int (nI ((g 172 who) % 4)))) rfl ?_
                    have e : chC g x0 x1 x2 x3 who y = (g 172 who) % 4 := by
                      unfold chC
                      rw [if_neg (fun z => tf z.2 hb100)]
                      rw [if_pos hc143]
                      rw [if_pos hc154]
                      rw [if_neg (fun z => tf z.1 hb195)]
                      rw [if_pos hc210]
                      rw [if_pos ⟨hb227, by have := of_decide_eq_false hb237; omega⟩]
                    rw [e] at hq
                    exact hq
                · skip
                  refine Ev.run 2 (pc' := 251) (lv' := [(9, .int (nI (ldC g x1 x2 who y))), (8, .int (nI (g 174 (4 * who + x1 1 % 4)))), (7, .int (nI (safC g x1 x2 who y))), (6, .int (nI (mayC g x1 x2 who))), (5, .int (nI (ftX g x1 x2 (x1 1)))), (4, .int (nI (x1 1))), (3, .ref (60 + 2 * who)), (0, .ref 12), (1, .ref 128), (2, .int (nI who))]) (st' := [.int (nI 10)]) (h' := HN (RO g 128 x0 x1 x2 x3) hl (RF rt)) rfl ?_
                  refine Ev.ret (v := some (.int (nI 10))) rfl ?_
                  have e : chC g x0 x1 x2 x3 who y = 10 := by
                    unfold chC
                    rw [if_neg (fun z => tf z.2 hb100)]
                    rw [if_pos hc143]
                    rw [if_pos hc154]
                    rw [if_neg (fun z => tf z.1 hb195)]
                    rw [if_pos hc210]
                    rw [if_neg (fun z => tf z.1 hb227)]
                  rw [e] at hq
                  exact hq
              · have hc210 : ¬ ((mayC g x1 x2 who) = 0) := fun z => hc210 ((nI_eqU0 (by omega)).mpr z)
                refine Ev.run 1 (pc' := 215) (lv' := [(9, .int (nI (ldC g x1 x2 who y))), (8, .int (nI (g 174 (4 * who + x1 1 % 4)))), (7, .int (nI (safC g x1 x2 who y))), (6, .int (nI (mayC g x1 x2 who))), (5, .int (nI (ftX g x1 x2 (x1 1)))), (4, .int (nI (x1 1))), (3, .ref (60 + 2 * who)), (0, .ref 12), (1, .ref 128), (2, .int (nI who))]) (st' := [.int (nI (mayC g x1 x2 who))]) (h' := HN (RO g 128 x0 x1 x2 x3) hl (RF rt)) rfl ?_
                refine Ev.call (a := 123) (as := [.int (nI (mayC g x1 x2 who))]) (rest := []) (lv0 := [(0, .int (nI (mayC g x1 x2 who)))]) (Q1 := (fun z0 h' => z0 = some (.int (nI (frS (mayC g x1 x2 who)))) ∧ h' = HN (RO g 128 x0 x1 x2 x3) hl (RF rt))) rfl rfl (K_first _ _ _ _ (mayC g x1 x2 who) (by omega) ⟨rfl, rfl⟩) (fun r h' hr => ?_)
                obtain ⟨rfl, rfl⟩ := hr
                refine Ev.ret (v := some (.int (nI (frS (mayC g x1 x2 who))))) rfl ?_
                have e : chC g x0 x1 x2 x3 who y = frS (mayC g x1 x2 who) := by
                  unfold chC
                  rw [if_neg (fun z => tf z.2 hb100)]
                  rw [if_pos hc143]
                  rw [if_pos hc154]
                  rw [if_neg (fun z => tf z.1 hb195)]
                  rw [if_neg hc210]
                rw [e] at hq
                exact hq
          · have hc154 : ¬ ((safC g x1 x2 who y) = 0) := fun z => hc154 ((nI_eqU0 (by omega)).mpr z)
            refine Ev.run 1 (pc' := 158) (lv' := [(9, .int (nI (ldC g x1 x2 who y))), (8, .int (nI (g 174 (4 * who + x1 1 % 4)))), (7, .int (nI (safC g x1 x2 who y))), (6, .int (nI (mayC g x1 x2 who))), (5, .int (nI (ftX g x1 x2 (x1 1)))), (4, .int (nI (x1 1))), (3, .ref (60 + 2 * who)), (0, .ref 12), (1, .ref 128), (2, .int (nI who))]) (st' := [.ref (60 + 2 * who)]) (h' := HN (RO g 128 x0 x1 x2 x3) hl (RF rt)) rfl ?_
            refine Ev_gfI rfl rfl rfl (kcP hwho) ?_
            refine Ev.topI (congrArg nI ((RO_ne g 128 _ _ _ _ (fun k hk => by omega) 2).trans (hPl.1 who hwho).1)) ?_
            refine Ev.run 1 (pc' := 162) (lv' := [(9, .int (nI (ldC g x1 x2 who y))), (8, .int (nI (g 174 (4 * who + x1 1 % 4)))), (7, .int (nI (safC g x1 x2 who y))), (6, .int (nI (mayC g x1 x2 who))), (5, .int (nI (ftX g x1 x2 (x1 1)))), (4, .int (nI (x1 1))), (3, .ref (60 + 2 * who)), (0, .ref 12), (1, .ref 128), (2, .int (nI who))]) (st' := [.int (nI 1), .int (nI (g 171 who))]) (h' := HN (RO g 128 x0 x1 x2 x3) hl (RF rt)) rfl ?_
            refine Ev.call (a := 121) (as := [.int (nI (g 171 who)), .int (nI 1)]) (rest := []) (lv0 := [(0, .int (nI (g 171 who))), (1, .int (nI 1))]) (Q1 := (fun z0 h' => z0 = some (.int (nI (bn (undS (g 171 who) 1)))) ∧ h' = HN (RO g 128 x0 x1 x2 x3) hl (RF rt))) rfl rfl (K_und _ (HN g hl (RF rt)) (RO g 128 x0 x1 x2 x3) _ _ (g 171 who) 1 (by omega) (by omega) ⟨rfl, rfl⟩) (fun r h' hr => ?_)
            obtain ⟨rfl, rfl⟩ := hr
            refine Ev_bn (fun hb165 => ?_) (fun hb165 => ?_)
            · skip
              refine Ev.run 6 (pc' := 175) (lv' := [(9, .int (nI (ldC g x1 x2 who y))), (8, .int (nI (g 174 (4 * who + x1 1 % 4)))), (7, .int (nI (safC g x1 x2 who y))), (6, .int (nI (mayC g x1 x2 who))), (5, .int (nI (ftX g x1 x2 (x1 1)))), (4, .int (nI (x1 1))), (3, .ref (60 + 2 * who)), (0, .ref 12), (1, .ref 128), (2, .int (nI who))]) (st' := [.int (nI (safC g x1 x2 who y)), .int (nI (ftX g x1 x2 (x1 1))), .int (nI who), .ref 128, .ref 12]) (h' := HN (RO g 128 x0 x1 x2 x3) hl (RF rt)) rfl ?_
              refine Ev.call (a := 40) (as := [.ref 12, .ref 128, .int (nI who), .int (nI (ftX g x1 x2 (x1 1))), .int (nI (safC g x1 x2 who y))]) (rest := []) (lv0 := [(0, .ref 12), (1, .ref 128), (2, .int (nI who)), (3, .int (nI (ftX g x1 x2 (x1 1)))), (4, .int (nI (safC g x1 x2 who y)))]) (Q1 := (fun z0 h' => z0 = some (.int (nI (syC g x1 x3 who (ftX g x1 x2 (x1 1)) (safC g x1 x2 who y)))) ∧ h' = HN (RO g 128 x0 x1 x2 x3) hl (RF rt))) rfl rfl (K128_slyest _ g _ _ hI hB hP5 hk59 x0 x1 x2 x3 hx3 (by omega) who (ftX g x1 x2 (x1 1)) (safC g x1 x2 who y) (by omega) (by omega) (by omega) ⟨rfl, rfl⟩) (fun r h' hr => ?_)
              obtain ⟨rfl, rfl⟩ := hr
              refine Ev.run 1 (pc' := 186) (lv' := [(9, .int (nI (ldC g x1 x2 who y))), (8, .int (nI (g 174 (4 * who + x1 1 % 4)))), (7, .int (nI (safC g x1 x2 who y))), (6, .int (nI (mayC g x1 x2 who))), (5, .int (nI (ftX g x1 x2 (x1 1)))), (4, .int (nI (x1 1))), (3, .ref (60 + 2 * who)), (0, .ref 12), (1, .ref 128), (2, .int (nI who))]) (st' := [.int (nI (syC g x1 x3 who (ftX g x1 x2 (x1 1)) (safC g x1 x2 who y)))]) (h' := HN (RO g 128 x0 x1 x2 x3) hl (RF rt)) rfl ?_
              refine Ev.ret (v := some (.int (nI (syC g x1 x3 who (ftX g x1 x2 (x1 1)) (safC g x1 x2 who y))))) rfl ?_
              have e : chC g x0 x1 x2 x3 who y = syC g x1 x3 who (ftX g x1 x2 (x1 1)) (safC g x1 x2 who y) := by
                unfold chC
                rw [if_neg (fun z => tf z.2 hb100)]
                rw [if_pos hc143]
                rw [if_neg hc154]
                rw [if_pos hb165]
              rw [e] at hq
              exact hq
            · skip
              refine Ev.run 2 (pc' := 183) (lv' := [(9, .int (nI (ldC g x1 x2 who y))), (8, .int (nI (g 174 (4 * who + x1 1 % 4)))), (7, .int (nI (safC g x1 x2 who y))), (6, .int (nI (mayC g x1 x2 who))), (5, .int (nI (ftX g x1 x2 (x1 1)))), (4, .int (nI (x1 1))), (3, .ref (60 + 2 * who)), (0, .ref 12), (1, .ref 128), (2, .int (nI who))]) (st' := [.int (nI (safC g x1 x2 who y))]) (h' := HN (RO g 128 x0 x1 x2 x3) hl (RF rt)) rfl ?_
              refine Ev.call (a := 123) (as := [.int (nI (safC g x1 x2 who y))]) (rest := []) (lv0 := [(0, .int (nI (safC g x1 x2 who y)))]) (Q1 := (fun z0 h' => z0 = some (.int (nI (frS (safC g x1 x2 who y)))) ∧ h' = HN (RO g 128 x0 x1 x2 x3) hl (RF rt))) rfl rfl (K_first _ _ _ _ (safC g x1 x2 who y) (by omega) ⟨rfl, rfl⟩) (fun r h' hr => ?_)
              obtain ⟨rfl, rfl⟩ := hr
              refine Ev.ret (v := some (.int (nI (frS (safC g x1 x2 who y))))) rfl ?_
              have e : chC g x0 x1 x2 x3 who y = frS (safC g x1 x2 who y) := by
                unfold chC
                rw [if_neg (fun z => tf z.2 hb100)]
                rw [if_pos hc143]
                rw [if_neg hc154]
                rw [if_neg (fun z => tf z hb165)]
              rw [e] at hq
              exact hq
        · have hc143 : ¬ ((ldC g x1 x2 who y) = 0) := fun z => hc143 ((nI_eqU0 (by omega)).mpr z)
          refine Ev.run 1 (pc' := 148) (lv' := [(9, .int (nI (ldC g x1 x2 who y))), (8, .int (nI (g 174 (4 * who + x1 1 % 4)))), (7, .int (nI (safC g x1 x2 who y))), (6, .int (nI (mayC g x1 x2 who))), (5, .int (nI (ftX g x1 x2 (x1 1)))), (4, .int (nI (x1 1))), (3, .ref (60 + 2 * who)), (0, .ref 12), (1, .ref 128), (2, .int (nI who))]) (st' := [.int (nI (ldC g x1 x2 who y))]) (h' := HN (RO g 128 x0 x1 x2 x3) hl (RF rt)) rfl ?_
          refine Ev.call (a := 123) (as := [.int (nI (ldC g x1 x2 who y))]) (rest := []) (lv0 := [(0, .int (nI (ldC g x1 x2 who y)))]) (Q1 := (fun z0 h' => z0 = some (.int (nI (frS (ldC g x1 x2 who y)))) ∧ h' = HN (RO g 128 x0 x1 x2 x3) hl (RF rt))) rfl rfl (K_first _ _ _ _ (ldC g x1 x2 who y) (by omega) ⟨rfl, rfl⟩) (fun r h' hr => ?_)
          obtain ⟨rfl, rfl⟩ := hr
          refine Ev.ret (v := some (.int (nI (frS (ldC g x1 x2 who y))))) rfl ?_
          have e : chC g x0 x1 x2 x3 who y = frS (ldC g x1 x2 who y) := by
            unfold chC
            rw [if_neg (fun z => tf z.2 hb100)]
            rw [if_neg hc143]
          rw [e] at hq
          exact hq
      · have hc111 : ¬ ((g 171 who) = 4) := fun z => hc111 ((nI_eqU (by omega) (by omega)).mpr z)
        refine Ev.run 1 (pc' := 139) (lv' := [(8, .int (nI (g 174 (4 * who + x1 1 % 4)))), (7, .int (nI (safC g x1 x2 who y))), (6, .int (nI (mayC g x1 x2 who))), (5, .int (nI (ftX g x1 x2 (x1 1)))), (4, .int (nI (x1 1))), (3, .ref (60 + 2 * who)), (0, .ref 12), (1, .ref 128), (2, .int (nI who))]) (st' := [.int (nI 0)]) (h' := HN (RO g 128 x0 x1 x2 x3) hl (RF rt)) rfl ?_
        refine Ev.topI (congrArg nI (show 0 = ldC g x1 x2 who y by unfold ldC; first | rw [if_pos hc111] | rw [if_neg hc111])) ?_
        have hldc : ldC g x1 x2 who y < 16 := by unfold ldC; first | (rw [if_pos hc111]; omega) | (rw [if_neg hc111]; decide)
        refine Ev.run 3 (pc' := (if nI (ldC g x1 x2 who y) = 0 then 152 else 146)) (lv' := [(9, .int (nI (ldC g x1 x2 who y))), (8, .int (nI (g 174 (4 * who + x1 1 % 4)))), (7, .int (nI (safC g x1 x2 who y))), (6, .int (nI (mayC g x1 x2 who))), (5, .int (nI (ftX g x1 x2 (x1 1)))), (4, .int (nI (x1 1))), (3, .ref (60 + 2 * who)), (0, .ref 12), (1, .ref 128), (2, .int (nI who))]) (st' := []) (h' := HN (RO g 128 x0 x1 x2 x3) hl (RF rt)) rfl ?_
        refine Ev.ite (fun hc143 => ?_) (fun hc143 => ?_)
        · have hc143 : (ldC g x1 x2 who y) = 0 := (nI_eqU0 (by omega)).mp hc143
          refine Ev.run 2 (pc' := (if nI (safC g x1 x2 who y) = 0 then 187 else 157)) (lv' := [(9, .int (nI (ldC g x1 x2 who y))), (8, .int (nI (g 174 (4 * who + x1 1 % 4)))), (7, .int (nI (safC g x1 x2 who y))), (6, .int (nI (mayC g x1 x2 who))), (5, .int (nI (ftX g x1 x2 (x1 1)))), (4, .int (nI (x1 1))), (3, .ref (60 + 2 * who)), (0, .ref 12), (1, .ref 128), (2, .int (nI who))]) (st' := []) (h' := HN (RO g 128 x0 x1 x2 x3) hl (RF rt)) rfl ?_
          refine Ev.ite (fun hc154 => ?_) (fun hc154 => ?_)
          · have hc154 : (safC g x1 x2 who y) = 0 := (nI_eqU0 (by omega)).mp hc154
            refine Ev.run 1 (pc' := 188) (lv' := [(9, .int (nI (ldC g x1 x2 who y))), (8, .int (nI (g 174 (4 * who + x1 1 % 4)))), (7, .int (nI (safC g x1 x2 who y))), (6, .int (nI (mayC g x1 x2 who))), (5, .int (nI (ftX g x1 x2 (x1 1)))), (4, .int (nI (x1 1))), (3, .ref (60 + 2 * who)), (0, .ref 12), (1, .ref 128), (2, .int (nI who))]) (st' := [.ref (60 + 2 * who)]) (h' := HN (RO g 128 x0 x1 x2 x3) hl (RF rt)) rfl ?_
            refine Ev_gfI rfl rfl rfl (kcP hwho) ?_
            refine Ev.topI (congrArg nI ((RO_ne g 128 _ _ _ _ (fun k hk => by omega) 2).trans (hPl.1 who hwho).1)) ?_
            refine Ev.run 1 (pc' := 192) (lv' := [(9, .int (nI (ldC g x1 x2 who y))), (8, .int (nI (g 174 (4 * who + x1 1 % 4)))), (7, .int (nI (safC g x1 x2 who y))), (6, .int (nI (mayC g x1 x2 who))), (5, .int (nI (ftX g x1 x2 (x1 1)))), (4, .int (nI (x1 1))), (3, .ref (60 + 2 * who)), (0, .ref 12), (1, .ref 128), (2, .int (nI who))]) (st' := [.int (nI 2), .int (nI (g 171 who))]) (h' := HN (RO g 128 x0 x1 x2 x3) hl (RF rt)) rfl ?_
            refine Ev.call (a := 121) (as := [.int (nI (g 171 who)), .int (nI 2)]) (rest := []) (lv0 := [(0, .int (nI (g 171 who))), (1, .int (nI 2))]) (Q1 := (fun z0 h' => z0 = some (.int (nI (bn (undS (g 171 who) 2)))) ∧ h' = HN (RO g 128 x0 x1 x2 x3) hl (RF rt))) rfl rfl (K_und _ (HN g hl (RF rt)) (RO g 128 x0 x1 x2 x3) _ _ (g 171 who) 2 (by omega) (by omega) ⟨rfl, rfl⟩) (fun r h' hr => ?_)
            obtain ⟨rfl, rfl⟩ := hr
            refine Ev_bn (fun hb195 => ?_) (fun hb195 => ?_)
            · skip
              refine Ev.run 4 (pc' := (if nI (x0 3) < 0 then 208 else 205)) (lv' := [(9, .int (nI (ldC g x1 x2 who y))), (8, .int (nI (g 174 (4 * who + x1 1 % 4)))), (7, .int (nI (safC g x1 x2 who y))), (6, .int (nI (mayC g x1 x2 who))), (5, .int (nI (ftX g x1 x2 (x1 1)))), (4, .int (nI (x1 1))), (3, .ref (60 + 2 * who)), (0, .ref 12), (1, .ref 128), (2, .int (nI who))]) (st' := []) (h' := HN (RO g 128 x0 x1 x2 x3) hl (RF rt)) rfl ?_
              refine Ev.ite (fun hc202 => ?_) (fun hc202 => ?_)
              · have hc202 : 2147483648 ≤ (x0 3) := (nI_ltU0 (by omega)).mp hc202
                refine Ev.run 2 (pc' := (if nI (mayC g x1 x2 who) = 0 then 219 else 213)) (lv' := [(9, .int (nI (ldC g x1 x2 who y))), (8, .int (nI (g 174 (4 * who + x1 1 % 4)))), (7, .int (nI (safC g x1 x2 who y))), (6, .int (nI (mayC g x1 x2 who))), (5, .int (nI (ftX g x1 x2 (x1 1)))), (4, .int (nI (x1 1))), (3, .ref (60 + 2 * who)), (0, .ref 12), (1, .ref 128), (2, .int (nI who))]) (st' := []) (h' := HN (RO g 128 x0 x1 x2 x3) hl (RF rt)) rfl ?_
                refine Ev.ite (fun hc210 => ?_) (fun hc210 => ?_)
                · have hc210 : (mayC g x1 x2 who) = 0 := (nI_eqU0 (by omega)).mp hc210
                  refine Ev.run 1 (pc' := 220) (lv' := [(9, .int (nI (ldC g x1 x2 who y))), (8, .int (nI (g 174 (4 * who + x1 1 % 4)))), (7, .int (nI (safC g x1 x2 who y))), (6, .int (nI (mayC g x1 x2 who))), (5, .int (nI (ftX g x1 x2 (x1 1)))), (4, .int (nI (x1 1))), (3, .ref (60 + 2 * who)), (0, .ref 12), (1, .ref 128), (2, .int (nI who))]) (st' := [.ref (60 + 2 * who)]) (h' := HN (RO g 128 x0 x1 x2 x3) hl (RF rt)) rfl ?_
                  refine Ev_gfI rfl rfl rfl (kcP hwho) ?_
                  refine Ev.topI (congrArg nI ((RO_ne g 128 _ _ _ _ (fun k hk => by omega) 2).trans (hPl.1 who hwho).1)) ?_
                  refine Ev.run 1 (pc' := 224) (lv' := [(9, .int (nI (ldC g x1 x2 who y))), (8, .int (nI (g 174 (4 * who + x1 1 % 4)))), (7, .int (nI (safC g x1 x2 who y))), (6, .int (nI (mayC g x1 x2 who))), (5, .int (nI (ftX g x1 x2 (x1 1)))), (4, .int (nI (x1 1))), (3, .ref (60 + 2 * who)), (0, .ref 12), (1, .ref 128), (2, .int (nI who))]) (st' := [.int (nI 3), .int (nI (g 171 who))]) (h' := HN (RO g 128 x0 x1 x2 x3) hl (RF rt)) rfl ?_
                  refine Ev.call (a := 121) (as := [.int (nI (g 171 who)), .int (nI 3)]) (rest := []) (lv0 := [(0, .int (nI (g 171 who))), (1, .int (nI 3))]) (Q1 := (fun z0 h' => z0 = some (.int (nI (bn (undS (g 171 who) 3)))) ∧ h' = HN (RO g 128 x0 x1 x2 x3) hl (RF rt))) rfl rfl (K_und _ (HN g hl (RF rt)) (RO g 128 x0 x1 x2 x3) _ _ (g 171 who) 3 (by omega) (by omega) ⟨rfl, rfl⟩) (fun r h' hr => ?_)
                  obtain ⟨rfl, rfl⟩ := hr
                  refine Ev_bn (fun hb227 => ?_) (fun hb227 => ?_)
                  · skip
                    refine Ev.run 3 (pc' := 234) (lv' := [(9, .int (nI (ldC g x1 x2 who y))), (8, .int (nI (g 174 (4 * who + x1 1 % 4)))), (7, .int (nI (safC g x1 x2 who y))), (6, .int (nI (mayC g x1 x2 who))), (5, .int (nI (ftX g x1 x2 (x1 1)))), (4, .int (nI (x1 1))), (3, .ref (60 + 2 * who)), (0, .ref 12), (1, .ref 128), (2, .int (nI who))]) (st' := [.ref 129]) (h' := HN (RO g 128 x0 x1 x2 x3) hl (RF rt)) rfl ?_
                    refine Ev.call (a := 42) (as := [.ref 129]) (rest := []) (lv0 := [(0, .ref 129)]) (Q1 := (fun z0 h' => z0 = some (.int (nI (bn (decide (12 ≤ x1 1))))) ∧ h' = HN (RO g 128 x0 x1 x2 x3) hl (RF rt))) rfl rfl (K_isFull _ (RO g 128 x0 x1 x2 x3) _ _ 129 12 (ln129 rt) (show x1 1 < 2 ^ 31 by omega) ⟨rfl, rfl⟩) (fun r h' hr => ?_)
                    obtain ⟨rfl, rfl⟩ := hr
                    refine Ev_bn (fun hb237 => ?_) (fun hb237 => ?_)
                    · have hhb237 : 12 ≤ x1 1 := of_decide_eq_true hb237
                      refine Ev.run 2 (pc' := 251) (lv' := [(9, .int (nI (ldC g x1 x2 who y))), (8, .int (nI (g 174 (4 * who + x1 1 % 4)))), (7, .int (nI (safC g x1 x2 who y))), (6, .int (nI (mayC g x1 x2 who))), (5, .int (nI (ftX g x1 x2 (x1 1)))), (4, .int (nI (x1 1))), (3, .ref (60 + 2 * who)), (0, .ref 12), (1, .ref 128), (2, .int (nI who))]) (st' := [.int (nI 10)]) (h' := HN (RO g 128 x0 x1 x2 x3) hl (RF rt)) rfl ?_
                      refine Ev.ret (v := some (.int (nI 10))) rfl ?_
                      have e : chC g x0 x1 x2 x3 who y = 10 := by
                        unfold chC
                        rw [if_neg (fun z => tf z.2 hb100)]
                        rw [if_pos hc143]
                        rw [if_pos hc154]
                        rw [if_neg (fun z => by have := z.2; omega)]
                        rw [if_pos hc210]
                        rw [if_neg (fun z => by have h1 := of_decide_eq_true hb237; have h2 := z.2; omega)]
                      rw [e] at hq
                      exact hq
                    · have hhb237 : ¬ (12 ≤ x1 1) := of_decide_eq_false hb237
                      refine Ev.run 2 (pc' := 241) (lv' := [(9, .int (nI (ldC g x1 x2 who y))), (8, .int (nI (g 174 (4 * who + x1 1 % 4)))), (7, .int (nI (safC g x1 x2 who y))), (6, .int (nI (mayC g x1 x2 who))), (5, .int (nI (ftX g x1 x2 (x1 1)))), (4, .int (nI (x1 1))), (3, .ref (60 + 2 * who)), (0, .ref 12), (1, .ref 128), (2, .int (nI who))]) (st' := [.ref (60 + 2 * who)]) (h' := HN (RO g 128 x0 x1 x2 x3) hl (RF rt)) rfl ?_
                      refine Ev_gfI rfl rfl rfl (kcP hwho) ?_
                      refine Ev.topI (congrArg nI ((RO_ne g 128 _ _ _ _ (fun k hk => by omega) 3).trans (hPl.1 who hwho).2)) ?_
                      refine Ev.run 1 (pc' := 245) (lv' := [(9, .int (nI (ldC g x1 x2 who y))), (8, .int (nI (g 174 (4 * who + x1 1 % 4)))), (7, .int (nI (safC g x1 x2 who y))), (6, .int (nI (mayC g x1 x2 who))), (5, .int (nI (ftX g x1 x2 (x1 1)))), (4, .int (nI (x1 1))), (3, .ref (60 + 2 * who)), (0, .ref 12), (1, .ref 128), (2, .int (nI who))]) (st' := [.int (nI 4), .int (nI (g 172 who))]) (h' := HN (RO g 128 x0 x1 x2 x3) hl (RF rt)) rfl ?_
                      refine Ev_irem rfl (by omega) (by omega) (by omega) ?_
                      refine Ev.run 1 (pc' := 251) (lv' := [(9, .int (nI (ldC g x1 x2 who y))), (8, .int (nI (g 174 (4 * who + x1 1 % 4)))), (7, .int (nI (safC g x1 x2 who y))), (6, .int (nI (mayC g x1 x2 who))), (5, .int (nI (ftX g x1 x2 (x1 1)))), (4, .int (nI (x1 1))), (3, .ref (60 + 2 * who)), (0, .ref 12), (1, .ref 128), (2, .int (nI who))]) (st' := [.int (nI ((g 172 who) % 4))]) (h' := HN (RO g 128 x0 x1 x2 x3) hl (RF rt)) rfl ?_
                      refine Ev.ret (v := some (.int (nI ((g 172 who) % 4)))) rfl ?_
                      have e : chC g x0 x1 x2 x3 who y = (g 172 who) % 4 := by
                        unfold chC
                        rw [if_neg (fun z => tf z.2 hb100)]
                        rw [if_pos hc143]
                        rw [if_pos hc154]
                        rw [if_neg (fun z => by have := z.2; omega)]
                        rw [if_pos hc210]
                        rw [if_pos ⟨hb227, by have := of_decide_eq_false hb237; omega⟩]
                      rw [e] at hq
                      exact hq
                  · skip
                    refine Ev.run 2 (pc' := 251) (lv' := [(9, .int (nI (ldC g x1 x2 who y))), (8, .int (nI (g 174 (4 * who + x1 1 % 4)))), (7, .int (nI (safC g x1 x2 who y))), (6, .int (nI (mayC g x1 x2 who))), (5, .int (nI (ftX g x1 x2 (x1 1)))), (4, .int (nI (x1 1))), (3, .ref (60 + 2 * who)), (0, .ref 12), (1, .ref 128), (2, .int (nI who))]) (st' := [.int (nI 10)]) (h' := HN (RO g 128 x0 x1 x2 x3) hl (RF rt)) rfl ?_
                    refine Ev.ret (v := some (.int (nI 10))) rfl ?_
                    have e : chC g x0 x1 x2 x3 who y = 10 := by
                      unfold chC
                      rw [if_neg (fun z => tf z.2 hb100)]
                      rw [if_pos hc143]
                      rw [if_pos hc154]
                      rw [if_neg (fun z => by have := z.2; omega)]
                      rw [if_pos hc210]
                      rw [if_neg (fun z => tf z.1 hb227)]
                    rw [e] at hq
                    exact hq
                · have hc210 : ¬ ((mayC g x1 x2 who) = 0) := fun z => hc210 ((nI_eqU0 (by omega)).mpr z)
                  refine Ev.run 1 (pc' := 215) (lv' := [(9, .int (nI (ldC g x1 x2 who y))), (8, .int (nI (g 174 (4 * who + x1 1 % 4)))), (7, .int (nI (safC g x1 x2 who y))), (6, .int (nI (mayC g x1 x2 who))), (5, .int (nI (ftX g x1 x2 (x1 1)))), (4, .int (nI (x1 1))), (3, .ref (60 + 2 * who)), (0, .ref 12), (1, .ref 128), (2, .int (nI who))]) (st' := [.int (nI (mayC g x1 x2 who))]) (h' := HN (RO g 128 x0 x1 x2 x3) hl (RF rt)) rfl ?_
                  refine Ev.call (a := 123) (as := [.int (nI (mayC g x1 x2 who))]) (rest := []) (lv0 := [(0, .int (nI (mayC g x1 x2 who)))]) (Q1 := (fun z0 h' => z0 = some (.int (nI (frS (mayC g x1 x2 who)))) ∧ h' = HN (RO g 128 x0 x1 x2 x3) hl (RF rt))) rfl rfl (K_first _ _ _ _ (mayC g x1 x2 who) (by omega) ⟨rfl, rfl⟩) (fun r h' hr => ?_)
                  obtain ⟨rfl, rfl⟩ := hr
                  refine Ev.ret (v := some (.int (nI (frS (mayC g x1 x2 who))))) rfl ?_
                  have e : chC g x0 x1 x2 x3 who y = frS (mayC g x1 x2 who) := by
                    unfold chC
                    rw [if_neg (fun z => tf z.2 hb100)]
                    rw [if_pos hc143]
                    rw [if_pos hc154]
                    rw [if_neg (fun z => by have := z.2; omega)]
                    rw [if_neg hc210]
                  rw [e] at hq
                  exact hq
              · have hc202 : ¬ (2147483648 ≤ (x0 3)) := fun z => hc202 ((nI_ltU0 (by omega)).mpr z)
                refine Ev.run 1 (pc' := 207) (lv' := [(9, .int (nI (ldC g x1 x2 who y))), (8, .int (nI (g 174 (4 * who + x1 1 % 4)))), (7, .int (nI (safC g x1 x2 who y))), (6, .int (nI (mayC g x1 x2 who))), (5, .int (nI (ftX g x1 x2 (x1 1)))), (4, .int (nI (x1 1))), (3, .ref (60 + 2 * who)), (0, .ref 12), (1, .ref 128), (2, .int (nI who))]) (st' := [.int (nI 10)]) (h' := HN (RO g 128 x0 x1 x2 x3) hl (RF rt)) rfl ?_
                refine Ev.ret (v := some (.int (nI 10))) rfl ?_
                have e : chC g x0 x1 x2 x3 who y = 10 := by
                  unfold chC
                  rw [if_neg (fun z => tf z.2 hb100)]
                  rw [if_pos hc143]
                  rw [if_pos hc154]
                  rw [if_pos ⟨hb195, by omega⟩]
                rw [e] at hq
                exact hq
            · skip
              refine Ev.run 3 (pc' := (if nI (mayC g x1 x2 who) = 0 then 219 else 213)) (lv' := [(9, .int (nI (ldC g x1 x2 who y))), (8, .int (nI (g 174 (4 * who + x1 1 % 4)))), (7, .int (nI (safC g x1 x2 who y))), (6, .int (nI (mayC g x1 x2 who))), (5, .int (nI (ftX g x1 x2 (x1 1)))), (4, .int (nI (x1 1))), (3, .ref (60 + 2 * who)), (0, .ref 12), (1, .ref 128), (2, .int (nI who))]) (st' := []) (h' := HN (RO g 128 x0 x1 x2 x3) hl (RF rt)) rfl ?_
              refine Ev.ite (fun hc210 => ?_) (fun hc210 => ?_)
              · have hc210 : (mayC g x1 x2 who) = 0 := (nI_eqU0 (by omega)).mp hc210
                refine Ev.run 1 (pc' := 220) (lv' := [(9, .int (nI (ldC g x1 x2 who y))), (8, .int (nI (g 174 (4 * who + x1 1 % 4)))), (7, .int (nI (safC g x1 x2 who y))), (6, .int (nI (mayC g x1 x2 who))), (5, .int (nI (ftX g x1 x2 (x1 1)))), (4, .int (nI (x1 1))), (3, .ref (60 + 2 * who)), (0, .ref 12), (1, .ref 128), (2, .int (nI who))]) (st' := [.ref (60 + 2 * who)]) (h' := HN (RO g 128 x0 x1 x2 x3) hl (RF rt)) rfl ?_
                refine Ev_gfI rfl rfl rfl (kcP hwho) ?_
                refine Ev.topI (congrArg nI ((RO_ne g 128 _ _ _ _ (fun k hk => by omega) 2).trans (hPl.1 who hwho).1)) ?_
                refine Ev.run 1 (pc' := 224) (lv' := [(9, .int (nI (ldC g x1 x2 who y))), (8, .int (nI (g 174 (4 * who + x1 1 % 4)))), (7, .int (nI (safC g x1 x2 who y))), (6, .int (nI (mayC g x1 x2 who))), (5, .int (nI (ftX g x1 x2 (x1 1)))), (4, .int (nI (x1 1))), (3, .ref (60 + 2 * who)), (0, .ref 12), (1, .ref 128), (2, .int (nI who))]) (st' := [.int (nI 3), .int (nI (g 171 who))]) (h' := HN (RO g 128 x0 x1 x2 x3) hl (RF rt)) rfl ?_
                refine Ev.call (a := 121) (as := [.int (nI (g 171 who)), .int (nI 3)]) (rest := []) (lv0 := [(0, .int (nI (g 171 who))), (1, .int (nI 3))]) (Q1 := (fun z0 h' => z0 = some (.int (nI (bn (undS (g 171 who) 3)))) ∧ h' = HN (RO g 128 x0 x1 x2 x3) hl (RF rt))) rfl rfl (K_und _ (HN g hl (RF rt)) (RO g 128 x0 x1 x2 x3) _ _ (g 171 who) 3 (by omega) (by omega) ⟨rfl, rfl⟩) (fun r h' hr => ?_)
                obtain ⟨rfl, rfl⟩ := hr
                refine Ev_bn (fun hb227 => ?_) (fun hb227 => ?_)
                · skip
                  refine Ev.run 3 (pc' := 234) (lv' := [(9, .int (nI (ldC g x1 x2 who y))), (8, .int (nI (g 174 (4 * who + x1 1 % 4)))), (7, .int (nI (safC g x1 x2 who y))), (6, .int (nI (mayC g x1 x2 who))), (5, .int (nI (ftX g x1 x2 (x1 1)))), (4, .int (nI (x1 1))), (3, .ref (60 + 2 * who)), (0, .ref 12), (1, .ref 128), (2, .int (nI who))]) (st' := [.ref 129]) (h' := HN (RO g 128 x0 x1 x2 x3) hl (RF rt)) rfl ?_
                  refine Ev.call (a := 42) (as := [.ref 129]) (rest := []) (lv0 := [(0, .ref 129)]) (Q1 := (fun z0 h' => z0 = some (.int (nI (bn (decide (12 ≤ x1 1))))) ∧ h' = HN (RO g 128 x0 x1 x2 x3) hl (RF rt))) rfl rfl (K_isFull _ (RO g 128 x0 x1 x2 x3) _ _ 129 12 (ln129 rt) (show x1 1 < 2 ^ 31 by omega) ⟨rfl, rfl⟩) (fun r h' hr => ?_)
                  obtain ⟨rfl, rfl⟩ := hr
                  refine Ev_bn (fun hb237 => ?_) (fun hb237 => ?_)
                  · have hhb237 : 12 ≤ x1 1 := of_decide_eq_true hb237
                    refine Ev.run 2 (pc' := 251) (lv' := [(9, .int (nI (ldC g x1 x2 who y))), (8, .int (nI (g 174 (4 * who + x1 1 % 4)))), (7, .int (nI (safC g x1 x2 who y))), (6, .int (nI (mayC g x1 x2 who))), (5, .int (nI (ftX g x1 x2 (x1 1)))), (4, .int (nI (x1 1))), (3, .ref (60 + 2 * who)), (0, .ref 12), (1, .ref 128), (2, .int (nI who))]) (st' := [.int (nI 10)]) (h' := HN (RO g 128 x0 x1 x2 x3) hl (RF rt)) rfl ?_
                    refine Ev.ret (v := some (.int (nI 10))) rfl ?_
                    have e : chC g x0 x1 x2 x3 who y = 10 := by
                      unfold chC
                      rw [if_neg (fun z => tf z.2 hb100)]
                      rw [if_pos hc143]
                      rw [if_pos hc154]
                      rw [if_neg (fun z => tf z.1 hb195)]
                      rw [if_pos hc210]
                      rw [if_neg (fun z => by have h1 := of_decide_eq_true hb237; have h2 := z.2; omega)]
                    rw [e] at hq
                    exact hq
                  · have hhb237 : ¬ (12 ≤ x1 1) := of_decide_eq_false hb237
                    refine Ev.run 2 (pc' := 241) (lv' := [(9, .int (nI (ldC g x1 x2 who y))), (8, .int (nI (g 174 (4 * who + x1 1 % 4)))), (7, .int (nI (safC g x1 x2 who y))), (6, .int (nI (mayC g x1 x2 who))), (5, .int (nI (ftX g x1 x2 (x1 1)))), (4, .int (nI (x1 1))), (3, .ref (60 + 2 * who)), (0, .ref 12), (1, .ref 128), (2, .int (nI who))]) (st' := [.ref (60 + 2 * who)]) (h' := HN (RO g 128 x0 x1 x2 x3) hl (RF rt)) rfl ?_
                    refine Ev_gfI rfl rfl rfl (kcP hwho) ?_
                    refine Ev.topI (congrArg nI ((RO_ne g 128 _ _ _ _ (fun k hk => by omega) 3).trans (hPl.1 who hwho).2)) ?_
                    refine Ev.run 1 (pc' := 245) (lv' := [(9, .int (nI (ldC g x1 x2 who y))), (8, .int (nI (g 174 (4 * who + x1 1 % 4)))), (7, .int (nI (safC g x1 x2 who y))), (6, .int (nI (mayC g x1 x2 who))), (5, .int (nI (ftX g x1 x2 (x1 1)))), (4, .int (nI (x1 1))), (3, .ref (60 + 2 * who)), (0, .ref 12), (1, .ref 128), (2, .int (nI who))]) (st' := [.int (nI 4), .int (nI (g 172 who))]) (h' := HN (RO g 128 x0 x1 x2 x3) hl (RF rt)) rfl ?_
                    refine Ev_irem rfl (by omega) (by omega) (by omega) ?_
                    refine Ev.run 1 (pc' := 251) (lv' := [(9, .int (nI (ldC g x1 x2 who y))), (8, .int (nI (g 174 (4 * who + x1 1 % 4)))), (7, .int (nI (safC g x1 x2 who y))), (6, .int (nI (mayC g x1 x2 who))), (5, .int (nI (ftX g x1 x2 (x1 1)))), (4, .int (nI (x1 1))), (3, .ref (60 + 2 * who)), (0, .ref 12), (1, .ref 128), (2, .int (nI who))]) (st' := [.int (nI ((g 172 who) % 4))]) (h' := HN (RO g 128 x0 x1 x2 x3) hl (RF rt)) rfl ?_
                    refine Ev.ret (v := some (.int (nI ((g 172 who) % 4)))) rfl ?_
                    have e : chC g x0 x1 x2 x3 who y = (g 172 who) % 4 := by
                      unfold chC
                      rw [if_neg (fun z => tf z.2 hb100)]
                      rw [if_pos hc143]
                      rw [if_pos hc154]
                      rw [if_neg (fun z => tf z.1 hb195)]
                      rw [if_pos hc210]
                      rw [if_pos ⟨hb227, by have := of_decide_eq_false hb237; omega⟩]
                    rw [e] at hq
                    exact hq
                · skip
                  refine Ev.run 2 (pc' := 251) (lv' := [(9, .int (nI (ldC g x1 x2 who y))), (8, .int (nI (g 174 (4 * who + x1 1 % 4)))), (7, .int (nI (safC g x1 x2 who y))), (6, .int (nI (mayC g x1 x2 who))), (5, .int (nI (ftX g x1 x2 (x1 1)))), (4, .int (nI (x1 1))), (3, .ref (60 + 2 * who)), (0, .ref 12), (1, .ref 128), (2, .int (nI who))]) (st' := [.int (nI 10)]) (h' := HN (RO g 128 x0 x1 x2 x3) hl (RF rt)) rfl ?_
                  refine Ev.ret (v := some (.int (nI 10))) rfl ?_
                  have e : chC g x0 x1 x2 x3 who y = 10 := by
                    unfold chC
                    rw [if_neg (fun z => tf z.2 hb100)]
                    rw [if_pos hc143]
                    rw [if_pos hc154]
                    rw [if_neg (fun z => tf z.1 hb195)]
                    rw [if_pos hc210]
                    rw [if_neg (fun z => tf z.1 hb227)]
                  rw [e] at hq
                  exact hq
              · have hc210 : ¬ ((mayC g x1 x2 who) = 0) := fun z => hc210 ((nI_eqU0 (by omega)).mpr z)
                refine Ev.run 1 (pc' := 215) (lv' := [(9, .int (nI (ldC g x1 x2 who y))), (8, .int (nI (g 174 (4 * who + x1 1 % 4)))), (7, .int (nI (safC g x1 x2 who y))), (6, .int (nI (mayC g x1 x2 who))), (5, .int (nI (ftX g x1 x2 (x1 1)))), (4, .int (nI (x1 1))), (3, .ref (60 + 2 * who)), (0, .ref 12), (1, .ref 128), (2, .int (nI who))]) (st' := [.int (nI (mayC g x1 x2 who))]) (h' := HN (RO g 128 x0 x1 x2 x3) hl (RF rt)) rfl ?_
                refine Ev.call (a := 123) (as := [.int (nI (mayC g x1 x2 who))]) (rest := []) (lv0 := [(0, .int (nI (mayC g x1 x2 who)))]) (Q1 := (fun z0 h' => z0 = some (.int (nI (frS (mayC g x1 x2 who)))) ∧ h' = HN (RO g 128 x0 x1 x2 x3) hl (RF rt))) rfl rfl (K_first _ _ _ _ (mayC g x1 x2 who) (by omega) ⟨rfl, rfl⟩) (fun r h' hr => ?_)
                obtain ⟨rfl, rfl⟩ := hr
                refine Ev.ret (v := some (.int (nI (frS (mayC g x1 x2 who))))) rfl ?_
                have e : chC g x0 x1 x2 x3 who y = frS (mayC g x1 x2 who) := by
                  unfold chC
                  rw [if_neg (fun z => tf z.2 hb100)]
                  rw [if_pos hc143]
                  rw [if_pos hc154]
                  rw [if_neg (fun z => tf z.1 hb195)]
                  rw [if_neg hc210]
                rw [e] at hq
                exact hq
          · have hc154 : ¬ ((safC g x1 x2 who y) = 0) := fun z => hc154 ((nI_eqU0 (by omega)).mpr z)
            refine Ev.run 1 (pc' := 158) (lv' := [(9, .int (nI (ldC g x1 x2 who y))), (8, .int (nI (g 174 (4 * who + x1 1 % 4)))), (7, .int (nI (safC g x1 x2 who y))), (6, .int (nI (mayC g x1 x2 who))), (5, .int (nI (ftX g x1 x2 (x1 1)))), (4, .int (nI (x1 1))), (3, .ref (60 + 2 * who)), (0, .ref 12), (1, .ref 128), (2, .int (nI who))]) (st' := [.ref (60 + 2 * who)]) (h' := HN (RO g 128 x0 x1 x2 x3) hl (RF rt)) rfl ?_
            refine Ev_gfI rfl rfl rfl (kcP hwho) ?_
            refine Ev.topI (congrArg nI ((RO_ne g 128 _ _ _ _ (fun k hk => by omega) 2).trans (hPl.1 who hwho).1)) ?_
            refine Ev.run 1 (pc' := 162) (lv' := [(9, .int (nI (ldC g x1 x2 who y))), (8, .int (nI (g 174 (4 * who + x1 1 % 4)))), (7, .int (nI (safC g x1 x2 who y))), (6, .int (nI (mayC g x1 x2 who))), (5, .int (nI (ftX g x1 x2 (x1 1)))), (4, .int (nI (x1 1))), (3, .ref (60 + 2 * who)), (0, .ref 12), (1, .ref 128), (2, .int (nI who))]) (st' := [.int (nI 1), .int (nI (g 171 who))]) (h' := HN (RO g 128 x0 x1 x2 x3) hl (RF rt)) rfl ?_
            refine Ev.call (a := 121) (as := [.int (nI (g 171 who)), .int (nI 1)]) (rest := []) (lv0 := [(0, .int (nI (g 171 who))), (1, .int (nI 1))]) (Q1 := (fun z0 h' => z0 = some (.int (nI (bn (undS (g 171 who) 1)))) ∧ h' = HN (RO g 128 x0 x1 x2 x3) hl (RF rt))) rfl rfl (K_und _ (HN g hl (RF rt)) (RO g 128 x0 x1 x2 x3) _ _ (g 171 who) 1 (by omega) (by omega) ⟨rfl, rfl⟩) (fun r h' hr => ?_)
            obtain ⟨rfl, rfl⟩ := hr
            refine Ev_bn (fun hb165 => ?_) (fun hb165 => ?_)
            · skip
              refine Ev.run 6 (pc' := 175) (lv' := [(9, .int (nI (ldC g x1 x2 who y))), (8, .int (nI (g 174 (4 * who + x1 1 % 4)))), (7, .int (nI (safC g x1 x2 who y))), (6, .int (nI (mayC g x1 x2 who))), (5, .int (nI (ftX g x1 x2 (x1 1)))), (4, .int (nI (x1 1))), (3, .ref (60 + 2 * who)), (0, .ref 12), (1, .ref 128), (2, .int (nI who))]) (st' := [.int (nI (safC g x1 x2 who y)), .int (nI (ftX g x1 x2 (x1 1))), .int (nI who), .ref 128, .ref 12]) (h' := HN (RO g 128 x0 x1 x2 x3) hl (RF rt)) rfl ?_
              refine Ev.call (a := 40) (as := [.ref 12, .ref 128, .int (nI who), .int (nI (ftX g x1 x2 (x1 1))), .int (nI (safC g x1 x2 who y))]) (rest := []) (lv0 := [(0, .ref 12), (1, .ref 128), (2, .int (nI who)), (3, .int (nI (ftX g x1 x2 (x1 1)))), (4, .int (nI (safC g x1 x2 who y)))]) (Q1 := (fun z0 h' => z0 = some (.int (nI (syC g x1 x3 who (ftX g x1 x2 (x1 1)) (safC g x1 x2 who y)))) ∧ h' = HN (RO g 128 x0 x1 x2 x3) hl (RF rt))) rfl rfl (K128_slyest _ g _ _ hI hB hP5 hk59 x0 x1 x2 x3 hx3 (by omega) who (ftX g x1 x2 (x1 1)) (safC g x1 x2 who y) (by omega) (by omega) (by omega) ⟨rfl, rfl⟩) (fun r h' hr => ?_)
              obtain ⟨rfl, rfl⟩ := hr
              refine Ev.run 1 (pc' := 186) (lv' := [(9, .int (nI (ldC g x1 x2 who y))), (8, .int (nI (g 174 (4 * who + x1 1 % 4)))), (7, .int (nI (safC g x1 x2 who y))), (6, .int (nI (mayC g x1 x2 who))), (5, .int (nI (ftX g x1 x2 (x1 1)))), (4, .int (nI (x1 1))), (3, .ref (60 + 2 * who)), (0, .ref 12), (1, .ref 128), (2, .int (nI who))]) (st' := [.int (nI (syC g x1 x3 who (ftX g x1 x2 (x1 1)) (safC g x1 x2 who y)))]) (h' := HN (RO g 128 x0 x1 x2 x3) hl (RF rt)) rfl ?_
              refine Ev.ret (v := some (.int (nI (syC g x1 x3 who (ftX g x1 x2 (x1 1)) (safC g x1 x2 who y))))) rfl ?_
              have e : chC g x0 x1 x2 x3 who y = syC g x1 x3 who (ftX g x1 x2 (x1 1)) (safC g x1 x2 who y) := by
                unfold chC
                rw [if_neg (fun z => tf z.2 hb100)]
                rw [if_pos hc143]
                rw [if_neg hc154]
                rw [if_pos hb165]
              rw [e] at hq
              exact hq
            · skip
              refine Ev.run 2 (pc' := 183) (lv' := [(9, .int (nI (ldC g x1 x2 who y))), (8, .int (nI (g 174 (4 * who + x1 1 % 4)))), (7, .int (nI (safC g x1 x2 who y))), (6, .int (nI (mayC g x1 x2 who))), (5, .int (nI (ftX g x1 x2 (x1 1)))), (4, .int (nI (x1 1))), (3, .ref (60 + 2 * who)), (0, .ref 12), (1, .ref 128), (2, .int (nI who))]) (st' := [.int (nI (safC g x1 x2 who y))]) (h' := HN (RO g 128 x0 x1 x2 x3) hl (RF rt)) rfl ?_
              refine Ev.call (a := 123) (as := [.int (nI (safC g x1 x2 who y))]) (rest := []) (lv0 := [(0, .int (nI (safC g x1 x2 who y)))]) (Q1 := (fun z0 h' => z0 = some (.int (nI (frS (safC g x1 x2 who y)))) ∧ h' = HN (RO g 128 x0 x1 x2 x3) hl (RF rt))) rfl rfl (K_first _ _ _ _ (safC g x1 x2 who y) (by omega) ⟨rfl, rfl⟩) (fun r h' hr => ?_)
              obtain ⟨rfl, rfl⟩ := hr
              refine Ev.ret (v := some (.int (nI (frS (safC g x1 x2 who y))))) rfl ?_
              have e : chC g x0 x1 x2 x3 who y = frS (safC g x1 x2 who y) := by
                unfold chC
                rw [if_neg (fun z => tf z.2 hb100)]
                rw [if_pos hc143]
                rw [if_neg hc154]
                rw [if_neg (fun z => tf z hb165)]
              rw [e] at hq
              exact hq
        · have hc143 : ¬ ((ldC g x1 x2 who y) = 0) := fun z => hc143 ((nI_eqU0 (by omega)).mpr z)
          refine Ev.run 1 (pc' := 148) (lv' := [(9, .int (nI (ldC g x1 x2 who y))), (8, .int (nI (g 174 (4 * who + x1 1 % 4)))), (7, .int (nI (safC g x1 x2 who y))), (6, .int (nI (mayC g x1 x2 who))), (5, .int (nI (ftX g x1 x2 (x1 1)))), (4, .int (nI (x1 1))), (3, .ref (60 + 2 * who)), (0, .ref 12), (1, .ref 128), (2, .int (nI who))]) (st' := [.int (nI (ldC g x1 x2 who y))]) (h' := HN (RO g 128 x0 x1 x2 x3) hl (RF rt)) rfl ?_
          refine Ev.call (a := 123) (as := [.int (nI (ldC g x1 x2 who y))]) (rest := []) (lv0 := [(0, .int (nI (ldC g x1 x2 who y)))]) (Q1 := (fun z0 h' => z0 = some (.int (nI (frS (ldC g x1 x2 who y)))) ∧ h' = HN (RO g 128 x0 x1 x2 x3) hl (RF rt))) rfl rfl (K_first _ _ _ _ (ldC g x1 x2 who y) (by omega) ⟨rfl, rfl⟩) (fun r h' hr => ?_)
          obtain ⟨rfl, rfl⟩ := hr
          refine Ev.ret (v := some (.int (nI (frS (ldC g x1 x2 who y))))) rfl ?_
          have e : chC g x0 x1 x2 x3 who y = frS (ldC g x1 x2 who y) := by
            unfold chC
            rw [if_neg (fun z => tf z.2 hb100)]
            rw [if_neg hc143]
          rw [e] at hq
          exact hq
  · have hc90 : ¬ ((g 171 who) = 6) := fun z => hc90 ((nI_eqU (by omega) (by omega)).mpr z)
    refine Ev.run 1 (pc' := 107) (lv' := [(8, .int (nI (g 174 (4 * who + x1 1 % 4)))), (7, .int (nI (safC g x1 x2 who y))), (6, .int (nI (mayC g x1 x2 who))), (5, .int (nI (ftX g x1 x2 (x1 1)))), (4, .int (nI (x1 1))), (3, .ref (60 + 2 * who)), (0, .ref 12), (1, .ref 128), (2, .int (nI who))]) (st' := [.ref (60 + 2 * who)]) (h' := HN (RO g 128 x0 x1 x2 x3) hl (RF rt)) rfl ?_
    refine Ev_gfI rfl rfl rfl (kcP hwho) ?_
    refine Ev.topI (congrArg nI ((RO_ne g 128 _ _ _ _ (fun k hk => by omega) 2).trans (hPl.1 who hwho).1)) ?_
    refine Ev.run 2 (pc' := (if nI (g 171 who) = nI 4 then 114 else 138)) (lv' := [(8, .int (nI (g 174 (4 * who + x1 1 % 4)))), (7, .int (nI (safC g x1 x2 who y))), (6, .int (nI (mayC g x1 x2 who))), (5, .int (nI (ftX g x1 x2 (x1 1)))), (4, .int (nI (x1 1))), (3, .ref (60 + 2 * who)), (0, .ref 12), (1, .ref 128), (2, .int (nI who))]) (st' := []) (h' := HN (RO g 128 x0 x1 x2 x3) hl (RF rt)) rfl ?_
    refine Ev.ite (fun hc111 => ?_) (fun hc111 => ?_)
    · have hc111 : (g 171 who) = 4 := (nI_eqU (by omega) (by omega)).mp hc111
      refine Ev.run 7 (pc' := 128) (lv' := [(8, .int (nI (g 174 (4 * who + x1 1 % 4)))), (7, .int (nI (safC g x1 x2 who y))), (6, .int (nI (mayC g x1 x2 who))), (5, .int (nI (ftX g x1 x2 (x1 1)))), (4, .int (nI (x1 1))), (3, .ref (60 + 2 * who)), (0, .ref 12), (1, .ref 128), (2, .int (nI who))]) (st' := [.ref rt.2.2.1, .int (nI (x1 1)), .int (nI (ftX g x1 x2 (x1 1))), .ref 13, .int (nI (safC g x1 x2 who y))]) (h' := HN (RO g 128 x0 x1 x2 x3) hl (RF rt)) rfl ?_
      refine Ev_gfI rfl rfl rfl hT.1 ?_
      refine Ev.topI (congrArg nI ((RO_ne g 128 _ _ _ _ (fun k hk => by have := hT.2.2.2 k hk; omega) 3).trans hT.2.2.1)) ?_
      refine Ev.call (a := 19) (as := [.ref 13, .int (nI (ftX g x1 x2 (x1 1))), .int (nI (x1 1)), .int (nI y)]) (rest := [.int (nI (safC g x1 x2 who y))]) (lv0 := [(0, .ref 13), (1, .int (nI (ftX g x1 x2 (x1 1)))), (2, .int (nI (x1 1))), (3, .int (nI y))]) (Q1 := (fun z0 h' => z0 = some (.int (nI (wiF g (ftX g x1 x2 (x1 1)) (x1 1) y (XL g (x1 1))))) ∧ h' = HN (RO g 128 x0 x1 x2 x3) hl (RF rt))) rfl rfl (K_winning _ (RO g 128 x0 x1 x2 x3) _ _ (hI.mRO (by decide)) (hB.cRO (by decide)) (ftX g x1 x2 (x1 1)) (by omega) (x1 1) y (XL g (x1 1)) (by omega) (by omega) (fun h => (if_pos h).symm) (fun h => if_neg (by omega)) (by unfold XL; split <;> first | exact hlo _ (by omega) | decide) ⟨rfl, rfl⟩) (fun r h' hr => ?_)
      obtain ⟨rfl, rfl⟩ := hr
      have hwif : wiF g (ftX g x1 x2 (x1 1)) (x1 1) y (XL g (x1 1)) < 16 := bset_lt _ 4
      have hlan := and_le (safC g x1 x2 who y) (wiF g (ftX g x1 x2 (x1 1)) (x1 1) y (XL g (x1 1)))
      refine Ev.run 1 (pc' := 135) (lv' := [(8, .int (nI (g 174 (4 * who + x1 1 % 4)))), (7, .int (nI (safC g x1 x2 who y))), (6, .int (nI (mayC g x1 x2 who))), (5, .int (nI (ftX g x1 x2 (x1 1)))), (4, .int (nI (x1 1))), (3, .ref (60 + 2 * who)), (0, .ref 12), (1, .ref 128), (2, .int (nI who))]) (st' := [.int (nI (safC g x1 x2 who y) &&& nI (wiF g (ftX g x1 x2 (x1 1)) (x1 1) y (XL g (x1 1))))]) (h' := HN (RO g 128 x0 x1 x2 x3) hl (RF rt)) rfl ?_
      refine Ev.topI (nIa _ _) ?_
      refine Ev.run 1 (pc' := 139) (lv' := [(8, .int (nI (g 174 (4 * who + x1 1 % 4)))), (7, .int (nI (safC g x1 x2 who y))), (6, .int (nI (mayC g x1 x2 who))), (5, .int (nI (ftX g x1 x2 (x1 1)))), (4, .int (nI (x1 1))), (3, .ref (60 + 2 * who)), (0, .ref 12), (1, .ref 128), (2, .int (nI who))]) (st' := [.int (nI ((safC g x1 x2 who y) &&& (wiF g (ftX g x1 x2 (x1 1)) (x1 1) y (XL g (x1 1)))))]) (h' := HN (RO g 128 x0 x1 x2 x3) hl (RF rt)) rfl ?_
      refine Ev.topI (congrArg nI (show (safC g x1 x2 who y) &&& (wiF g (ftX g x1 x2 (x1 1)) (x1 1) y (XL g (x1 1))) = ldC g x1 x2 who y by unfold ldC; first | rw [if_pos hc111] | rw [if_neg hc111])) ?_
      have hldc : ldC g x1 x2 who y < 16 := by unfold ldC; first | (rw [if_pos hc111]; omega) | (rw [if_neg hc111]; decide)
      refine Ev.run 3 (pc' := (if nI (ldC g x1 x2 who y) = 0 then 152 else 146)) (lv' := [(9, .int (nI (ldC g x1 x2 who y))), (8, .int (nI (g 174 (4 * who + x1 1 % 4)))), (7, .int (nI (safC g x1 x2 who y))), (6, .int (nI (mayC g x1 x2 who))), (5, .int (nI (ftX g x1 x2 (x1 1)))), (4, .int (nI (x1 1))), (3, .ref (60 + 2 * who)), (0, .ref 12), (1, .ref 128), (2, .int (nI who))]) (st' := []) (h' := HN (RO g 128 x0 x1 x2 x3) hl (RF rt)) rfl ?_
      refine Ev.ite (fun hc143 => ?_) (fun hc143 => ?_)
      · have hc143 : (ldC g x1 x2 who y) = 0 := (nI_eqU0 (by omega)).mp hc143
        refine Ev.run 2 (pc' := (if nI (safC g x1 x2 who y) = 0 then 187 else 157)) (lv' := [(9, .int (nI (ldC g x1 x2 who y))), (8, .int (nI (g 174 (4 * who + x1 1 % 4)))), (7, .int (nI (safC g x1 x2 who y))), (6, .int (nI (mayC g x1 x2 who))), (5, .int (nI (ftX g x1 x2 (x1 1)))), (4, .int (nI (x1 1))), (3, .ref (60 + 2 * who)), (0, .ref 12), (1, .ref 128), (2, .int (nI who))]) (st' := []) (h' := HN (RO g 128 x0 x1 x2 x3) hl (RF rt)) rfl ?_
        refine Ev.ite (fun hc154 => ?_) (fun hc154 => ?_)
        · have hc154 : (safC g x1 x2 who y) = 0 := (nI_eqU0 (by omega)).mp hc154
          refine Ev.run 1 (pc' := 188) (lv' := [(9, .int (nI (ldC g x1 x2 who y))), (8, .int (nI (g 174 (4 * who + x1 1 % 4)))), (7, .int (nI (safC g x1 x2 who y))), (6, .int (nI (mayC g x1 x2 who))), (5, .int (nI (ftX g x1 x2 (x1 1)))), (4, .int (nI (x1 1))), (3, .ref (60 + 2 * who)), (0, .ref 12), (1, .ref 128), (2, .int (nI who))]) (st' := [.ref (60 + 2 * who)]) (h' := HN (RO g 128 x0 x1 x2 x3) hl (RF rt)) rfl ?_
          refine Ev_gfI rfl rfl rfl (kcP hwho) ?_
          refine Ev.topI (congrArg nI ((RO_ne g 128 _ _ _ _ (fun k hk => by omega) 2).trans (hPl.1 who hwho).1)) ?_
          refine Ev.run 1 (pc' := 192) (lv' := [(9, .int (nI (ldC g x1 x2 who y))), (8, .int (nI (g 174 (4 * who + x1 1 % 4)))), (7, .int (nI (safC g x1 x2 who y))), (6, .int (nI (mayC g x1 x2 who))), (5, .int (nI (ftX g x1 x2 (x1 1)))), (4, .int (nI (x1 1))), (3, .ref (60 + 2 * who)), (0, .ref 12), (1, .ref 128), (2, .int (nI who))]) (st' := [.int (nI 2), .int (nI (g 171 who))]) (h' := HN (RO g 128 x0 x1 x2 x3) hl (RF rt)) rfl ?_
          refine Ev.call (a := 121) (as := [.int (nI (g 171 who)), .int (nI 2)]) (rest := []) (lv0 := [(0, .int (nI (g 171 who))), (1, .int (nI 2))]) (Q1 := (fun z0 h' => z0 = some (.int (nI (bn (undS (g 171 who) 2)))) ∧ h' = HN (RO g 128 x0 x1 x2 x3) hl (RF rt))) rfl rfl (K_und _ (HN g hl (RF rt)) (RO g 128 x0 x1 x2 x3) _ _ (g 171 who) 2 (by omega) (by omega) ⟨rfl, rfl⟩) (fun r h' hr => ?_)
          obtain ⟨rfl, rfl⟩ := hr
          refine Ev_bn (fun hb195 => ?_) (fun hb195 => ?_)
          · skip
            refine Ev.run 4 (pc' := (if nI (x0 3) < 0 then 208 else 205)) (lv' := [(9, .int (nI (ldC g x1 x2 who y))), (8, .int (nI (g 174 (4 * who + x1 1 % 4)))), (7, .int (nI (safC g x1 x2 who y))), (6, .int (nI (mayC g x1 x2 who))), (5, .int (nI (ftX g x1 x2 (x1 1)))), (4, .int (nI (x1 1))), (3, .ref (60 + 2 * who)), (0, .ref 12), (1, .ref 128), (2, .int (nI who))]) (st' := []) (h' := HN (RO g 128 x0 x1 x2 x3) hl (RF rt)) rfl ?_
            refine Ev.ite (fun hc202 => ?_) (fun hc202 => ?_)
            · have hc202 : 2147483648 ≤ (x0 3) := (nI_ltU0 (by omega)).mp hc202
              refine Ev.run 2 (pc' := (if nI (mayC g x1 x2 who) = 0 then 219 else 213)) (lv' := [(9, .int (nI (ldC g x1 x2 who y))), (8, .int (nI (g 174 (4 * who + x1 1 % 4)))), (7, .int (nI (safC g x1 x2 who y))), (6, .int (nI (mayC g x1 x2 who))), (5, .int (nI (ftX g x1 x2 (x1 1)))), (4, .int (nI (x1 1))), (3, .ref (60 + 2 * who)), (0, .ref 12), (1, .ref 128), (2, .int (nI who))]) (st' := []) (h' := HN (RO g 128 x0 x1 x2 x3) hl (RF rt)) rfl ?_
              refine Ev.ite (fun hc210 => ?_) (fun hc210 => ?_)
              · have hc210 : (mayC g x1 x2 who) = 0 := (nI_eqU0 (by omega)).mp hc210
                refine Ev.run 1 (pc' := 220) (lv' := [(9, .int (nI (ldC g x1 x2 who y))), (8, .int (nI (g 174 (4 * who + x1 1 % 4)))), (7, .int (nI (safC g x1 x2 who y))), (6, .int (nI (mayC g x1 x2 who))), (5, .int (nI (ftX g x1 x2 (x1 1)))), (4, .int (nI (x1 1))), (3, .ref (60 + 2 * who)), (0, .ref 12), (1, .ref 128), (2, .int (nI who))]) (st' := [.ref (60 + 2 * who)]) (h' := HN (RO g 128 x0 x1 x2 x3) hl (RF rt)) rfl ?_
                refine Ev_gfI rfl rfl rfl (kcP hwho) ?_
                refine Ev.topI (congrArg nI ((RO_ne g 128 _ _ _ _ (fun k hk => by omega) 2).trans (hPl.1 who hwho).1)) ?_
                refine Ev.run 1 (pc' := 224) (lv' := [(9, .int (nI (ldC g x1 x2 who y))), (8, .int (nI (g 174 (4 * who + x1 1 % 4)))), (7, .int (nI (safC g x1 x2 who y))), (6, .int (nI (mayC g x1 x2 who))), (5, .int (nI (ftX g x1 x2 (x1 1)))), (4, .int (nI (x1 1))), (3, .ref (60 + 2 * who)), (0, .ref 12), (1, .ref 128), (2, .int (nI who))]) (st' := [.int (nI 3), .int (nI (g 171 who))]) (h' := HN (RO g 128 x0 x1 x2 x3) hl (RF rt)) rfl ?_
                refine Ev.call (a := 121) (as := [.int (nI (g 171 who)), .int (nI 3)]) (rest := []) (lv0 := [(0, .int (nI (g 171 who))), (1, .int (nI 3))]) (Q1 := (fun z0 h' => z0 = some (.int (nI (bn (undS (g 171 who) 3)))) ∧ h' = HN (RO g 128 x0 x1 x2 x3) hl (RF rt))) rfl rfl (K_und _ (HN g hl (RF rt)) (RO g 128 x0 x1 x2 x3) _ _ (g 171 who) 3 (by omega) (by omega) ⟨rfl, rfl⟩) (fun r h' hr => ?_)
                obtain ⟨rfl, rfl⟩ := hr
                refine Ev_bn (fun hb227 => ?_) (fun hb227 => ?_)
                · skip
                  refine Ev.run 3 (pc' := 234) (lv' := [(9, .int (nI (ldC g x1 x2 who y))), (8, .int (nI (g 174 (4 * who + x1 1 % 4)))), (7, .int (nI (safC g x1 x2 who y))), (6, .int (nI (mayC g x1 x2 who))), (5, .int (nI (ftX g x1 x2 (x1 1)))), (4, .int (nI (x1 1))), (3, .ref (60 + 2 * who)), (0, .ref 12), (1, .ref 128), (2, .int (nI who))]) (st' := [.ref 129]) (h' := HN (RO g 128 x0 x1 x2 x3) hl (RF rt)) rfl ?_
                  refine Ev.call (a := 42) (as := [.ref 129]) (rest := []) (lv0 := [(0, .ref 129)]) (Q1 := (fun z0 h' => z0 = some (.int (nI (bn (decide (12 ≤ x1 1))))) ∧ h' = HN (RO g 128 x0 x1 x2 x3) hl (RF rt))) rfl rfl (K_isFull _ (RO g 128 x0 x1 x2 x3) _ _ 129 12 (ln129 rt) (show x1 1 < 2 ^ 31 by omega) ⟨rfl, rfl⟩) (fun r h' hr => ?_)
                  obtain ⟨rfl, rfl⟩ := hr
                  refine Ev_bn (fun hb237 => ?_) (fun hb237 => ?_)
                  · have hhb237 : 12 ≤ x1 1 := of_decide_eq_true hb237
                    refine Ev.run 2 (pc' := 251) (lv' := [(9, .int (nI (ldC g x1 x2 who y))), (8, .int (nI (g 174 (4 * who + x1 1 % 4)))), (7, .int (nI (safC g x1 x2 who y))), (6, .int (nI (mayC g x1 x2 who))), (5, .int (nI (ftX g x1 x2 (x1 1)))), (4, .int (nI (x1 1))), (3, .ref (60 + 2 * who)), (0, .ref 12), (1, .ref 128), (2, .int (nI who))]) (st' := [.int (nI 10)]) (h' := HN (RO g 128 x0 x1 x2 x3) hl (RF rt)) rfl ?_
                    refine Ev.ret (v := some (.int (nI 10))) rfl ?_
                    have e : chC g x0 x1 x2 x3 who y = 10 := by
                      unfold chC
                      rw [if_neg (fun z => hc90 z.1)]
                      rw [if_pos hc143]
                      rw [if_pos hc154]
                      rw [if_neg (fun z => by have := z.2; omega)]
                      rw [if_pos hc210]
                      rw [if_neg (fun z => by have h1 := of_decide_eq_true hb237; have h2 := z.2; omega)]
                    rw [e] at hq
                    exact hq
                  · have hhb237 : ¬ (12 ≤ x1 1) := of_decide_eq_false hb237
                    refine Ev.run 2 (pc' := 241) (lv' := [(9, .int (nI (ldC g x1 x2 who y))), (8, .int (nI (g 174 (4 * who + x1 1 % 4)))), (7, .int (nI (safC g x1 x2 who y))), (6, .int (nI (mayC g x1 x2 who))), (5, .int (nI (ftX g x1 x2 (x1 1)))), (4, .int (nI (x1 1))), (3, .ref (60 + 2 * who)), (0, .ref 12), (1, .ref 128), (2, .int (nI who))]) (st' := [.ref (60 + 2 * who)]) (h' := HN (RO g 128 x0 x1 x2 x3) hl (RF rt)) rfl ?_
                    refine Ev_gfI rfl rfl rfl (kcP hwho) ?_
                    refine Ev.topI (congrArg nI ((RO_ne g 128 _ _ _ _ (fun k hk => by omega) 3).trans (hPl.1 who hwho).2)) ?_
                    refine Ev.run 1 (pc' := 245) (lv' := [(9, .int (nI (ldC g x1 x2 who y))), (8, .int (nI (g 174 (4 * who + x1 1 % 4)))), (7, .int (nI (safC g x1 x2 who y))), (6, .int (nI (mayC g x1 x2 who))), (5, .int (nI (ftX g x1 x2 (x1 1)))), (4, .int (nI (x1 1))), (3, .ref (60 + 2 * who)), (0, .ref 12), (1, .ref 128), (2, .int (nI who))]) (st' := [.int (nI 4), .int (nI (g 172 who))]) (h' := HN (RO g 128 x0 x1 x2 x3) hl (RF rt)) rfl ?_
                    refine Ev_irem rfl (by omega) (by omega) (by omega) ?_
                    refine Ev.run 1 (pc' := 251) (lv' := [(9, .int (nI (ldC g x1 x2 who y))), (8, .int (nI (g 174 (4 * who + x1 1 % 4)))), (7, .int (nI (safC g x1 x2 who y))), (6, .int (nI (mayC g x1 x2 who))), (5, .int (nI (ftX g x1 x2 (x1 1)))), (4, .int (nI (x1 1))), (3, .ref (60 + 2 * who)), (0, .ref 12), (1, .ref 128), (2, .int (nI who))]) (st' := [.int (nI ((g 172 who) % 4))]) (h' := HN (RO g 128 x0 x1 x2 x3) hl (RF rt)) rfl ?_
                    refine Ev.ret (v := some (.int (nI ((g 172 who) % 4)))) rfl ?_
                    have e : chC g x0 x1 x2 x3 who y = (g 172 who) % 4 := by
                      unfold chC
                      rw [if_neg (fun z => hc90 z.1)]
                      rw [if_pos hc143]
                      rw [if_pos hc154]
                      rw [if_neg (fun z => by have := z.2; omega)]
                      rw [if_pos hc210]
                      rw [if_pos ⟨hb227, by have := of_decide_eq_false hb237; omega⟩]
                    rw [e] at hq
                    exact hq
                · skip
                  refine Ev.run 2 (pc' := 251) (lv' := [(9, .int (nI (ldC g x1 x2 who y))), (8, .int (nI (g 174 (4 * who + x1 1 % 4)))), (7, .int (nI (safC g x1 x2 who y))), (6, .int (nI (mayC g x1 x2 who))), (5, .int (nI (ftX g x1 x2 (x1 1)))), (4, .int (nI (x1 1))), (3, .ref (60 + 2 * who)), (0, .ref 12), (1, .ref 128), (2, .int (nI who))]) (st' := [.int (nI 10)]) (h' := HN (RO g 128 x0 x1 x2 x3) hl (RF rt)) rfl ?_
                  refine Ev.ret (v := some (.int (nI 10))) rfl ?_
                  have e : chC g x0 x1 x2 x3 who y = 10 := by
                    unfold chC
                    rw [if_neg (fun z => hc90 z.1)]
                    rw [if_pos hc143]
                    rw [if_pos hc154]
                    rw [if_neg (fun z => by have := z.2; omega)]
                    rw [if_pos hc210]
                    rw [if_neg (fun z => tf z.1 hb227)]
                  rw [e] at hq
                  exact hq
              · have hc210 : ¬ ((mayC g x1 x2 who) = 0) := fun z => hc210 ((nI_eqU0 (by omega)).mpr z)
                refine Ev.run 1 (pc' := 215) (lv' := [(9, .int (nI (ldC g x1 x2 who y))), (8, .int (nI (g 174 (4 * who + x1 1 % 4)))), (7, .int (nI (safC g x1 x2 who y))), (6, .int (nI (mayC g x1 x2 who))), (5, .int (nI (ftX g x1 x2 (x1 1)))), (4, .int (nI (x1 1))), (3, .ref (60 + 2 * who)), (0, .ref 12), (1, .ref 128), (2, .int (nI who))]) (st' := [.int (nI (mayC g x1 x2 who))]) (h' := HN (RO g 128 x0 x1 x2 x3) hl (RF rt)) rfl ?_
                refine Ev.call (a := 123) (as := [.int (nI (mayC g x1 x2 who))]) (rest := []) (lv0 := [(0, .int (nI (mayC g x1 x2 who)))]) (Q1 := (fun z0 h' => z0 = some (.int (nI (frS (mayC g x1 x2 who)))) ∧ h' = HN (RO g 128 x0 x1 x2 x3) hl (RF rt))) rfl rfl (K_first _ _ _ _ (mayC g x1 x2 who) (by omega) ⟨rfl, rfl⟩) (fun r h' hr => ?_)
                obtain ⟨rfl, rfl⟩ := hr
                refine Ev.ret (v := some (.int (nI (frS (mayC g x1 x2 who))))) rfl ?_
                have e : chC g x0 x1 x2 x3 who y = frS (mayC g x1 x2 who) := by
                  unfold chC
                  rw [if_neg (fun z => hc90 z.1)]
                  rw [if_pos hc143]
                  rw [if_pos hc154]
                  rw [if_neg (fun z => by have := z.2; omega)]
                  rw [if_neg hc210]
                rw [e] at hq
                exact hq
            · have hc202 : ¬ (2147483648 ≤ (x0 3)) := fun z => hc202 ((nI_ltU0 (by omega)).mpr z)
              refine Ev.run 1 (pc' := 207) (lv' := [(9, .int (nI (ldC g x1 x2 who y))), (8, .int (nI (g 174 (4 * who + x1 1 % 4)))), (7, .int (nI (safC g x1 x2 who y))), (6, .int (nI (mayC g x1 x2 who))), (5, .int (nI (ftX g x1 x2 (x1 1)))), (4, .int (nI (x1 1))), (3, .ref (60 + 2 * who)), (0, .ref 12), (1, .ref 128), (2, .int (nI who))]) (st' := [.int (nI 10)]) (h' := HN (RO g 128 x0 x1 x2 x3) hl (RF rt)) rfl ?_
              refine Ev.ret (v := some (.int (nI 10))) rfl ?_
              have e : chC g x0 x1 x2 x3 who y = 10 := by
                unfold chC
                rw [if_neg (fun z => hc90 z.1)]
                rw [if_pos hc143]
                rw [if_pos hc154]
                rw [if_pos ⟨hb195, by omega⟩]
              rw [e] at hq
              exact hq
          · skip
            refine Ev.run 3 (pc' := (if nI (mayC g x1 x2 who) = 0 then 219 else 213)) (lv' := [(9, .int (nI (ldC g x1 x2 who y))), (8, .int (nI (g 174 (4 * who + x1 1 % 4)))), (7, .int (nI (safC g x1 x2 who y))), (6, .int (nI (mayC g x1 x2 who))), (5, .int (nI (ftX g x1 x2 (x1 1)))), (4, .int (nI (x1 1))), (3, .ref (60 + 2 * who)), (0, .ref 12), (1, .ref 128), (2, .int (nI who))]) (st' := []) (h' := HN (RO g 128 x0 x1 x2 x3) hl (RF rt)) rfl ?_
            refine Ev.ite (fun hc210 => ?_) (fun hc210 => ?_)
            · have hc210 : (mayC g x1 x2 who) = 0 := (nI_eqU0 (by omega)).mp hc210
              refine Ev.run 1 (pc' := 220) (lv' := [(9, .int (nI (ldC g x1 x2 who y))), (8, .int (nI (g 174 (4 * who + x1 1 % 4)))), (7, .int (nI (safC g x1 x2 who y))), (6, .int (nI (mayC g x1 x2 who))), (5, .int (nI (ftX g x1 x2 (x1 1)))), (4, .int (nI (x1 1))), (3, .ref (60 + 2 * who)), (0, .ref 12), (1, .ref 128), (2, .int (nI who))]) (st' := [.ref (60 + 2 * who)]) (h' := HN (RO g 128 x0 x1 x2 x3) hl (RF rt)) rfl ?_
              refine Ev_gfI rfl rfl rfl (kcP hwho) ?_
              refine Ev.topI (congrArg nI ((RO_ne g 128 _ _ _ _ (fun k hk => by omega) 2).trans (hPl.1 who hwho).1)) ?_
              refine Ev.run 1 (pc' := 224) (lv' := [(9, .int (nI (ldC g x1 x2 who y))), (8, .int (nI (g 174 (4 * who + x1 1 % 4)))), (7, .int (nI (safC g x1 x2 who y))), (6, .int (nI (mayC g x1 x2 who))), (5, .int (nI (ftX g x1 x2 (x1 1)))), (4, .int (nI (x1 1))), (3, .ref (60 + 2 * who)), (0, .ref 12), (1, .ref 128), (2, .int (nI who))]) (st' := [.int (nI 3), .int (nI (g 171 who))]) (h' := HN (RO g 128 x0 x1 x2 x3) hl (RF rt)) rfl ?_
              refine Ev.call (a := 121) (as := [.int (nI (g 171 who)), .int (nI 3)]) (rest := []) (lv0 := [(0, .int (nI (g 171 who))), (1, .int (nI 3))]) (Q1 := (fun z0 h' => z0 = some (.int (nI (bn (undS (g 171 who) 3)))) ∧ h' = HN (RO g 128 x0 x1 x2 x3) hl (RF rt))) rfl rfl (K_und _ (HN g hl (RF rt)) (RO g 128 x0 x1 x2 x3) _ _ (g 171 who) 3 (by omega) (by omega) ⟨rfl, rfl⟩) (fun r h' hr => ?_)
              obtain ⟨rfl, rfl⟩ := hr
              refine Ev_bn (fun hb227 => ?_) (fun hb227 => ?_)
              · skip
                refine Ev.run 3 (pc' := 234) (lv' := [(9, .int (nI (ldC g x1 x2 who y))), (8, .int (nI (g 174 (4 * who + x1 1 % 4)))), (7, .int (nI (safC g x1 x2 who y))), (6, .int (nI (mayC g x1 x2 who))), (5, .int (nI (ftX g x1 x2 (x1 1)))), (4, .int (nI (x1 1))), (3, .ref (60 + 2 * who)), (0, .ref 12), (1, .ref 128), (2, .int (nI who))]) (st' := [.ref 129]) (h' := HN (RO g 128 x0 x1 x2 x3) hl (RF rt)) rfl ?_
                refine Ev.call (a := 42) (as := [.ref 129]) (rest := []) (lv0 := [(0, .ref 129)]) (Q1 := (fun z0 h' => z0 = some (.int (nI (bn (decide (12 ≤ x1 1))))) ∧ h' = HN (RO g 128 x0 x1 x2 x3) hl (RF rt))) rfl rfl (K_isFull _ (RO g 128 x0 x1 x2 x3) _ _ 129 12 (ln129 rt) (show x1 1 < 2 ^ 31 by omega) ⟨rfl, rfl⟩) (fun r h' hr => ?_)
                obtain ⟨rfl, rfl⟩ := hr
                refine Ev_bn (fun hb237 => ?_) (fun hb237 => ?_)
                · have hhb237 : 12 ≤ x1 1 := of_decide_eq_true hb237
                  refine Ev.run 2 (pc' := 251) (lv' := [(9, .int (nI (ldC g x1 x2 who y))), (8, .int (nI (g 174 (4 * who + x1 1 % 4)))), (7, .int (nI (safC g x1 x2 who y))), (6, .int (nI (mayC g x1 x2 who))), (5, .int (nI (ftX g x1 x2 (x1 1)))), (4, .int (nI (x1 1))), (3, .ref (60 + 2 * who)), (0, .ref 12), (1, .ref 128), (2, .int (nI who))]) (st' := [.int (nI 10)]) (h' := HN (RO g 128 x0 x1 x2 x3) hl (RF rt)) rfl ?_
                  refine Ev.ret (v := some (.int (nI 10))) rfl ?_
                  have e : chC g x0 x1 x2 x3 who y = 10 := by
                    unfold chC
                    rw [if_neg (fun z => hc90 z.1)]
                    rw [if_pos hc143]
                    rw [if_pos hc154]
                    rw [if_neg (fun z => tf z.1 hb195)]
                    rw [if_pos hc210]
                    rw [if_neg (fun z => by have h1 := of_decide_eq_true hb237; have h2 := z.2; omega)]
                  rw [e] at hq
                  exact hq
                · have hhb237 : ¬ (12 ≤ x1 1) := of_decide_eq_false hb237
                  refine Ev.run 2 (pc' := 241) (lv' := [(9, .int (nI (ldC g x1 x2 who y))), (8, .int (nI (g 174 (4 * who + x1 1 % 4)))), (7, .int (nI (safC g x1 x2 who y))), (6, .int (nI (mayC g x1 x2 who))), (5, .int (nI (ftX g x1 x2 (x1 1)))), (4, .int (nI (x1 1))), (3, .ref (60 + 2 * who)), (0, .ref 12), (1, .ref 128), (2, .int (nI who))]) (st' := [.ref (60 + 2 * who)]) (h' := HN (RO g 128 x0 x1 x2 x3) hl (RF rt)) rfl ?_
                  refine Ev_gfI rfl rfl rfl (kcP hwho) ?_
                  refine Ev.topI (congrArg nI ((RO_ne g 128 _ _ _ _ (fun k hk => by omega) 3).trans (hPl.1 who hwho).2)) ?_
                  refine Ev.run 1 (pc' := 245) (lv' := [(9, .int (nI (ldC g x1 x2 who y))), (8, .int (nI (g 174 (4 * who + x1 1 % 4)))), (7, .int (nI (safC g x1 x2 who y))), (6, .int (nI (mayC g x1 x2 who))), (5, .int (nI (ftX g x1 x2 (x1 1)))), (4, .int (nI (x1 1))), (3, .ref (60 + 2 * who)), (0, .ref 12), (1, .ref 128), (2, .int (nI who))]) (st' := [.int (nI 4), .int (nI (g 172 who))]) (h' := HN (RO g 128 x0 x1 x2 x3) hl (RF rt)) rfl ?_
                  refine Ev_irem rfl (by omega) (by omega) (by omega) ?_
                  refine Ev.run 1 (pc' := 251) (lv' := [(9, .int (nI (ldC g x1 x2 who y))), (8, .int (nI (g 174 (4 * who + x1 1 % 4)))), (7, .int (nI (safC g x1 x2 who y))), (6, .int (nI (mayC g x1 x2 who))), (5, .int (nI (ftX g x1 x2 (x1 1)))), (4, .int (nI (x1 1))), (3, .ref (60 + 2 * who)), (0, .ref 12), (1, .ref 128), (2, .int (nI who))]) (st' := [.int (nI ((g 172 who) % 4))]) (h' := HN (RO g 128 x0 x1 x2 x3) hl (RF rt)) rfl ?_
                  refine Ev.ret (v := some (.int (nI ((g 172 who) % 4)))) rfl ?_
                  have e : chC g x0 x1 x2 x3 who y = (g 172 who) % 4 := by
                    unfold chC
                    rw [if_neg (fun z => hc90 z.1)]
                    rw [if_pos hc143]
                    rw [if_pos hc154]
                    rw [if_neg (fun z => tf z.1 hb195)]
                    rw [if_pos hc210]
                    rw [if_pos ⟨hb227, by have := of_decide_eq_false hb237; omega⟩]
                  rw [e] at hq
                  exact hq
              · skip
                refine Ev.run 2 (pc' := 251) (lv' := [(9, .int (nI (ldC g x1 x2 who y))), (8, .int (nI (g 174 (4 * who + x1 1 % 4)))), (7, .int (nI (safC g x1 x2 who y))), (6, .int (nI (mayC g x1 x2 who))), (5, .int (nI (ftX g x1 x2 (x1 1)))), (4, .int (nI (x1 1))), (3, .ref (60 + 2 * who)), (0, .ref 12), (1, .ref 128), (2, .int (nI who))]) (st' := [.int (nI 10)]) (h' := HN (RO g 128 x0 x1 x2 x3) hl (RF rt)) rfl ?_
                refine Ev.ret (v := some (.int (nI 10))) rfl ?_
                have e : chC g x0 x1 x2 x3 who y = 10 := by
                  unfold chC
                  rw [if_neg (fun z => hc90 z.1)]
                  rw [if_pos hc143]
                  rw [if_pos hc154]
                  rw [if_neg (fun z => tf z.1 hb195)]
                  rw [if_pos hc210]
                  rw [if_neg (fun z => tf z.1 hb227)]
                rw [e] at hq
                exact hq
            · have hc210 : ¬ ((mayC g x1 x2 who) = 0) := fun z => hc210 ((nI_eqU0 (by omega)).mpr z)
              refine Ev.run 1 (pc' := 215) (lv' := [(9, .int (nI (ldC g x1 x2 who y))), (8, .int (nI (g 174 (4 * who + x1 1 % 4)))), (7, .int (nI (safC g x1 x2 who y))), (6, .int (nI (mayC g x1 x2 who))), (5, .int (nI (ftX g x1 x2 (x1 1)))), (4, .int (nI (x1 1))), (3, .ref (60 + 2 * who)), (0, .ref 12), (1, .ref 128), (2, .int (nI who))]) (st' := [.int (nI (mayC g x1 x2 who))]) (h' := HN (RO g 128 x0 x1 x2 x3) hl (RF rt)) rfl ?_
              refine Ev.call (a := 123) (as := [.int (nI (mayC g x1 x2 who))]) (rest := []) (lv0 := [(0, .int (nI (mayC g x1 x2 who)))]) (Q1 := (fun z0 h' => z0 = some (.int (nI (frS (mayC g x1 x2 who)))) ∧ h' = HN (RO g 128 x0 x1 x2 x3) hl (RF rt))) rfl rfl (K_first _ _ _ _ (mayC g x1 x2 who) (by omega) ⟨rfl, rfl⟩) (fun r h' hr => ?_)
              obtain ⟨rfl, rfl⟩ := hr
              refine Ev.ret (v := some (.int (nI (frS (mayC g x1 x2 who))))) rfl ?_
              have e : chC g x0 x1 x2 x3 who y = frS (mayC g x1 x2 who) := by
                unfold chC
                rw [if_neg (fun z => hc90 z.1)]
                rw [if_pos hc143]
                rw [if_pos hc154]
                rw [if_neg (fun z => tf z.1 hb195)]
                rw [if_neg hc210]
              rw [e] at hq
              exact hq
        · have hc154 : ¬ ((safC g x1 x2 who y) = 0) := fun z => hc154 ((nI_eqU0 (by omega)).mpr z)
          refine Ev.run 1 (pc' := 158) (lv' := [(9, .int (nI (ldC g x1 x2 who y))), (8, .int (nI (g 174 (4 * who + x1 1 % 4)))), (7, .int (nI (safC g x1 x2 who y))), (6, .int (nI (mayC g x1 x2 who))), (5, .int (nI (ftX g x1 x2 (x1 1)))), (4, .int (nI (x1 1))), (3, .ref (60 + 2 * who)), (0, .ref 12), (1, .ref 128), (2, .int (nI who))]) (st' := [.ref (60 + 2 * who)]) (h' := HN (RO g 128 x0 x1 x2 x3) hl (RF rt)) rfl ?_
          refine Ev_gfI rfl rfl rfl (kcP hwho) ?_
          refine Ev.topI (congrArg nI ((RO_ne g 128 _ _ _ _ (fun k hk => by omega) 2).trans (hPl.1 who hwho).1)) ?_
          refine Ev.run 1 (pc' := 162) (lv' := [(9, .int (nI (ldC g x1 x2 who y))), (8, .int (nI (g 174 (4 * who + x1 1 % 4)))), (7, .int (nI (safC g x1 x2 who y))), (6, .int (nI (mayC g x1 x2 who))), (5, .int (nI (ftX g x1 x2 (x1 1)))), (4, .int (nI (x1 1))), (3, .ref (60 + 2 * who)), (0, .ref 12), (1, .ref 128), (2, .int (nI who))]) (st' := [.int (nI 1), .int (nI (g 171 who))]) (h' := HN (RO g 128 x0 x1 x2 x3) hl (RF rt)) rfl ?_
          refine Ev.call (a := 121) (as := [.int (nI (g 171 who)), .int (nI 1)]) (rest := []) (lv0 := [(0, .int (nI (g 171 who))), (1, .int (nI 1))]) (Q1 := (fun z0 h' => z0 = some (.int (nI (bn (undS (g 171 who) 1)))) ∧ h' = HN (RO g 128 x0 x1 x2 x3) hl (RF rt))) rfl rfl (K_und _ (HN g hl (RF rt)) (RO g 128 x0 x1 x2 x3) _ _ (g 171 who) 1 (by omega) (by omega) ⟨rfl, rfl⟩) (fun r h' hr => ?_)
          obtain ⟨rfl, rfl⟩ := hr
          refine Ev_bn (fun hb165 => ?_) (fun hb165 => ?_)
          · skip
            refine Ev.run 6 (pc' := 175) (lv' := [(9, .int (nI (ldC g x1 x2 who y))), (8, .int (nI (g 174 (4 * who + x1 1 % 4)))), (7, .int (nI (safC g x1 x2 who y))), (6, .int (nI (mayC g x1 x2 who))), (5, .int (nI (ftX g x1 x2 (x1 1)))), (4, .int (nI (x1 1))), (3, .ref (60 + 2 * who)), (0, .ref 12), (1, .ref 128), (2, .int (nI who))]) (st' := [.int (nI (safC g x1 x2 who y)), .int (nI (ftX g x1 x2 (x1 1))), .int (nI who), .ref 128, .ref 12]) (h' := HN (RO g 128 x0 x1 x2 x3) hl (RF rt)) rfl ?_
            refine Ev.call (a := 40) (as := [.ref 12, .ref 128, .int (nI who), .int (nI (ftX g x1 x2 (x1 1))), .int (nI (safC g x1 x2 who y))]) (rest := []) (lv0 := [(0, .ref 12), (1, .ref 128), (2, .int (nI who)), (3, .int (nI (ftX g x1 x2 (x1 1)))), (4, .int (nI (safC g x1 x2 who y)))]) (Q1 := (fun z0 h' => z0 = some (.int (nI (syC g x1 x3 who (ftX g x1 x2 (x1 1)) (safC g x1 x2 who y)))) ∧ h' = HN (RO g 128 x0 x1 x2 x3) hl (RF rt))) rfl rfl (K128_slyest _ g _ _ hI hB hP5 hk59 x0 x1 x2 x3 hx3 (by omega) who (ftX g x1 x2 (x1 1)) (safC g x1 x2 who y) (by omega) (by omega) (by omega) ⟨rfl, rfl⟩) (fun r h' hr => ?_)
            obtain ⟨rfl, rfl⟩ := hr
            refine Ev.run 1 (pc' := 186) (lv' := [(9, .int (nI (ldC g x1 x2 who y))), (8, .int (nI (g 174 (4 * who + x1 1 % 4)))), (7, .int (nI (safC g x1 x2 who y))), (6, .int (nI (mayC g x1 x2 who))), (5, .int (nI (ftX g x1 x2 (x1 1)))), (4, .int (nI (x1 1))), (3, .ref (60 + 2 * who)), (0, .ref 12), (1, .ref 128), (2, .int (nI who))]) (st' := [.int (nI (syC g x1 x3 who (ftX g x1 x2 (x1 1)) (safC g x1 x2 who y)))]) (h' := HN (RO g 128 x0 x1 x2 x3) hl (RF rt)) rfl ?_
            refine Ev.ret (v := some (.int (nI (syC g x1 x3 who (ftX g x1 x2 (x1 1)) (safC g x1 x2 who y))))) rfl ?_
            have e : chC g x0 x1 x2 x3 who y = syC g x1 x3 who (ftX g x1 x2 (x1 1)) (safC g x1 x2 who y) := by
              unfold chC
              rw [if_neg (fun z => hc90 z.1)]
              rw [if_pos hc143]
              rw [if_neg hc154]
              rw [if_pos hb165]
            rw [e] at hq
            exact hq
          · skip
            refine Ev.run 2 (pc' := 183) (lv' := [(9, .int (nI (ldC g x1 x2 who y))), (8, .int (nI (g 174 (4 * who + x1 1 % 4)))), (7, .int (nI (safC g x1 x2 who y))), (6, .int (nI (mayC g x1 x2 who))), (5, .int (nI (ftX g x1 x2 (x1 1)))), (4, .int (nI (x1 1))), (3, .ref (60 + 2 * who)), (0, .ref 12), (1, .ref 128), (2, .int (nI who))]) (st' := [.int (nI (safC g x1 x2 who y))]) (h' := HN (RO g 128 x0 x1 x2 x3) hl (RF rt)) rfl ?_
            refine Ev.call (a := 123) (as := [.int (nI (safC g x1 x2 who y))]) (rest := []) (lv0 := [(0, .int (nI (safC g x1 x2 who y)))]) (Q1 := (fun z0 h' => z0 = some (.int (nI (frS (safC g x1 x2 who y)))) ∧ h' = HN (RO g 128 x0 x1 x2 x3) hl (RF rt))) rfl rfl (K_first _ _ _ _ (safC g x1 x2 who y) (by omega) ⟨rfl, rfl⟩) (fun r h' hr => ?_)
            obtain ⟨rfl, rfl⟩ := hr
            refine Ev.ret (v := some (.int (nI (frS (safC g x1 x2 who y))))) rfl ?_
            have e : chC g x0 x1 x2 x3 who y = frS (safC g x1 x2 who y) := by
              unfold chC
              rw [if_neg (fun z => hc90 z.1)]
              rw [if_pos hc143]
              rw [if_neg hc154]
              rw [if_neg (fun z => tf z hb165)]
            rw [e] at hq
            exact hq
      · have hc143 : ¬ ((ldC g x1 x2 who y) = 0) := fun z => hc143 ((nI_eqU0 (by omega)).mpr z)
        refine Ev.run 1 (pc' := 148) (lv' := [(9, .int (nI (ldC g x1 x2 who y))), (8, .int (nI (g 174 (4 * who + x1 1 % 4)))), (7, .int (nI (safC g x1 x2 who y))), (6, .int (nI (mayC g x1 x2 who))), (5, .int (nI (ftX g x1 x2 (x1 1)))), (4, .int (nI (x1 1))), (3, .ref (60 + 2 * who)), (0, .ref 12), (1, .ref 128), (2, .int (nI who))]) (st' := [.int (nI (ldC g x1 x2 who y))]) (h' := HN (RO g 128 x0 x1 x2 x3) hl (RF rt)) rfl ?_
        refine Ev.call (a := 123) (as := [.int (nI (ldC g x1 x2 who y))]) (rest := []) (lv0 := [(0, .int (nI (ldC g x1 x2 who y)))]) (Q1 := (fun z0 h' => z0 = some (.int (nI (frS (ldC g x1 x2 who y)))) ∧ h' = HN (RO g 128 x0 x1 x2 x3) hl (RF rt))) rfl rfl (K_first _ _ _ _ (ldC g x1 x2 who y) (by omega) ⟨rfl, rfl⟩) (fun r h' hr => ?_)
        obtain ⟨rfl, rfl⟩ := hr
        refine Ev.ret (v := some (.int (nI (frS (ldC g x1 x2 who y))))) rfl ?_
        have e : chC g x0 x1 x2 x3 who y = frS (ldC g x1 x2 who y) := by
          unfold chC
          rw [if_neg (fun z => hc90 z.1)]
          rw [if_neg hc143]
        rw [e] at hq
        exact hq
    · have hc111 : ¬ ((g 171 who) = 4) := fun z => hc111 ((nI_eqU (by omega) (by omega)).mpr z)
      refine Ev.run 1 (pc' := 139) (lv' := [(8, .int (nI (g 174 (4 * who + x1 1 % 4)))), (7, .int (nI (safC g x1 x2 who y))), (6, .int (nI (mayC g x1 x2 who))), (5, .int (nI (ftX g x1 x2 (x1 1)))), (4, .int (nI (x1 1))), (3, .ref (60 + 2 * who)), (0, .ref 12), (1, .ref 128), (2, .int (nI who))]) (st' := [.int (nI 0)]) (h' := HN (RO g 128 x0 x1 x2 x3) hl (RF rt)) rfl ?_
      refine Ev.topI (congrArg nI (show 0 = ldC g x1 x2 who y by unfold ldC; first | rw [if_pos hc111] | rw [if_neg hc111])) ?_
      have hldc : ldC g x1 x2 who y < 16 := by unfold ldC; first | (rw [if_pos hc111]; omega) | (rw [if_neg hc111]; decide)
      refine Ev.run 3 (pc' := (if nI (ldC g x1 x2 who y) = 0 then 152 else 146)) (lv' := [(9, .int (nI (ldC g x1 x2 who y))), (8, .int (nI (g 174 (4 * who + x1 1 % 4)))), (7, .int (nI (safC g x1 x2 who y))), (6, .int (nI (mayC g x1 x2 who))), (5, .int (nI (ftX g x1 x2 (x1 1)))), (4, .int (nI (x1 1))), (3, .ref (60 + 2 * who)), (0, .ref 12), (1, .ref 128), (2, .int (nI who))]) (st' := []) (h' := HN (RO g 128 x0 x1 x2 x3) hl (RF rt)) rfl ?_
      refine Ev.ite (fun hc143 => ?_) (fun hc143 => ?_)
      · have hc143 : (ldC g x1 x2 who y) = 0 := (nI_eqU0 (by omega)).mp hc143
        refine Ev.run 2 (pc' := (if nI (safC g x1 x2 who y) = 0 then 187 else 157)) (lv' := [(9, .int (nI (ldC g x1 x2 who y))), (8, .int (nI (g 174 (4 * who + x1 1 % 4)))), (7, .int (nI (safC g x1 x2 who y))), (6, .int (nI (mayC g x1 x2 who))), (5, .int (nI (ftX g x1 x2 (x1 1)))), (4, .int (nI (x1 1))), (3, .ref (60 + 2 * who)), (0, .ref 12), (1, .ref 128), (2, .int (nI who))]) (st' := []) (h' := HN (RO g 128 x0 x1 x2 x3) hl (RF rt)) rfl ?_
        refine Ev.ite (fun hc154 => ?_) (fun hc154 => ?_)
        · have hc154 : (safC g x1 x2 who y) = 0 := (nI_eqU0 (by omega)).mp hc154
          refine Ev.run 1 (pc' := 188) (lv' := [(9, .int (nI (ldC g x1 x2 who y))), (8, .int (nI (g 174 (4 * who + x1 1 % 4)))), (7, .int (nI (safC g x1 x2 who y))), (6, .int (nI (mayC g x1 x2 who))), (5, .int (nI (ftX g x1 x2 (x1 1)))), (4, .int (nI (x1 1))), (3, .ref (60 + 2 * who)), (0, .ref 12), (1, .ref 128), (2, .int (nI who))]) (st' := [.ref (60 + 2 * who)]) (h' := HN (RO g 128 x0 x1 x2 x3) hl (RF rt)) rfl ?_
          refine Ev_gfI rfl rfl rfl (kcP hwho) ?_
          refine Ev.topI (congrArg nI ((RO_ne g 128 _ _ _ _ (fun k hk => by omega) 2).trans (hPl.1 who hwho).1)) ?_
          refine Ev.run 1 (pc' := 192) (lv' := [(9, .int (nI (ldC g x1 x2 who y))), (8, .int (nI (g 174 (4 * who + x1 1 % 4)))), (7, .int (nI (safC g x1 x2 who y))), (6, .int (nI (mayC g x1 x2 who))), (5, .int (nI (ftX g x1 x2 (x1 1)))), (4, .int (nI (x1 1))), (3, .ref (60 + 2 * who)), (0, .ref 12), (1, .ref 128), (2, .int (nI who))]) (st' := [.int (nI 2), .int (nI (g 171 who))]) (h' := HN (RO g 128 x0 x1 x2 x3) hl (RF rt)) rfl ?_
          refine Ev.call (a := 121) (as := [.int (nI (g 171 who)), .int (nI 2)]) (rest := []) (lv0 := [(0, .int (nI (g 171 who))), (1, .int (nI 2))]) (Q1 := (fun z0 h' => z0 = some (.int (nI (bn (undS (g 171 who) 2)))) ∧ h' = HN (RO g 128 x0 x1 x2 x3) hl (RF rt))) rfl rfl (K_und _ (HN g hl (RF rt)) (RO g 128 x0 x1 x2 x3) _ _ (g 171 who) 2 (by omega) (by omega) ⟨rfl, rfl⟩) (fun r h' hr => ?_)
          obtain ⟨rfl, rfl⟩ := hr
          refine Ev_bn (fun hb195 => ?_) (fun hb195 => ?_)
          · skip
            refine Ev.run 4 (pc' := (if nI (x0 3) < 0 then 208 else 205)) (lv' := [(9, .int (nI (ldC g x1 x2 who y))), (8, .int (nI (g 174 (4 * who + x1 1 % 4)))), (7, .int (nI (safC g x1 x2 who y))), (6, .int (nI (mayC g x1 x2 who))), (5, .int (nI (ftX g x1 x2 (x1 1)))), (4, .int (nI (x1 1))), (3, .ref (60 + 2 * who)), (0, .ref 12), (1, .ref 128), (2, .int (nI who))]) (st' := []) (h' := HN (RO g 128 x0 x1 x2 x3) hl (RF rt)) rfl ?_
            refine Ev.ite (fun hc202 => ?_) (fun hc202 => ?_)
            · have hc202 : 2147483648 ≤ (x0 3) := (nI_ltU0 (by omega)).mp hc202
              refine Ev.run 2 (pc' := (if nI (mayC g x1 x2 who) = 0 then 219 else 213)) (lv' := [(9, .int (nI (ldC g x1 x2 who y))), (8, .int (nI (g 174 (4 * who + x1 1 % 4)))), (7, .int (nI (safC g x1 x2 who y))), (6, .int (nI (mayC g x1 x2 who))), (5, .int (nI (ftX g x1 x2 (x1 1)))), (4, .int (nI (x1 1))), (3, .ref (60 + 2 * who)), (0, .ref 12), (1, .ref 128), (2, .int (nI who))]) (st' := []) (h' := HN (RO g 128 x0 x1 x2 x3) hl (RF rt)) rfl ?_
              refine Ev.ite (fun hc210 => ?_) (fun hc210 => ?_)
              · have hc210 : (mayC g x1 x2 who) = 0 := (nI_eqU0 (by omega)).mp hc210
                refine Ev.run 1 (pc' := 220) (lv' := [(9, .int (nI (ldC g x1 x2 who y))), (8, .int (nI (g 174 (4 * who + x1 1 % 4)))), (7, .int (nI (safC g x1 x2 who y))), (6, .int (nI (mayC g x1 x2 who))), (5, .int (nI (ftX g x1 x2 (x1 1)))), (4, .int (nI (x1 1))), (3, .ref (60 + 2 * who)), (0, .ref 12), (1, .ref 128), (2, .int (nI who))]) (st' := [.ref (60 + 2 * who)]) (h' := HN (RO g 128 x0 x1 x2 x3) hl (RF rt)) rfl ?_
                refine Ev_gfI rfl rfl rfl (kcP hwho) ?_
                refine Ev.topI (congrArg nI ((RO_ne g 128 _ _ _ _ (fun k hk => by omega) 2).trans (hPl.1 who hwho).1)) ?_
                refine Ev.run 1 (pc' := 224) (lv' := [(9, .int (nI (ldC g x1 x2 who y))), (8, .int (nI (g 174 (4 * who + x1 1 % 4)))), (7, .int (nI (safC g x1 x2 who y))), (6, .int (nI (mayC g x1 x2 who))), (5, .int (nI (ftX g x1 x2 (x1 1)))), (4, .int (nI (x1 1))), (3, .ref (60 + 2 * who)), (0, .ref 12), (1, .ref 128), (2, .int (nI who))]) (st' := [.int (nI 3), .int (nI (g 171 who))]) (h' := HN (RO g 128 x0 x1 x2 x3) hl (RF rt)) rfl ?_
                refine Ev.call (a := 121) (as := [.int (nI (g 171 who)), .int (nI 3)]) (rest := []) (lv0 := [(0, .int (nI (g 171 who))), (1, .int (nI 3))]) (Q1 := (fun z0 h' => z0 = some (.int (nI (bn (undS (g 171 who) 3)))) ∧ h' = HN (RO g 128 x0 x1 x2 x3) hl (RF rt))) rfl rfl (K_und _ (HN g hl (RF rt)) (RO g 128 x0 x1 x2 x3) _ _ (g 171 who) 3 (by omega) (by omega) ⟨rfl, rfl⟩) (fun r h' hr => ?_)
                obtain ⟨rfl, rfl⟩ := hr
                refine Ev_bn (fun hb227 => ?_) (fun hb227 => ?_)
                · skip
                  refine Ev.run 3 (pc' := 234) (lv' := [(9, .int (nI (ldC g x1 x2 who y))), (8, .int (nI (g 174 (4 * who + x1 1 % 4)))), (7, .int (nI (safC g x1 x2 who y))), (6, .int (nI (mayC g x1 x2 who))), (5, .int (nI (ftX g x1 x2 (x1 1)))), (4, .int (nI (x1 1))), (3, .ref (60 + 2 * who)), (0, .ref 12), (1, .ref 128), (2, .int (nI who))]) (st' := [.ref 129]) (h' := HN (RO g 128 x0 x1 x2 x3) hl (RF rt)) rfl ?_
                  refine Ev.call (a := 42) (as := [.ref 129]) (rest := []) (lv0 := [(0, .ref 129)]) (Q1 := (fun z0 h' => z0 = some (.int (nI (bn (decide (12 ≤ x1 1))))) ∧ h' = HN (RO g 128 x0 x1 x2 x3) hl (RF rt))) rfl rfl (K_isFull _ (RO g 128 x0 x1 x2 x3) _ _ 129 12 (ln129 rt) (show x1 1 < 2 ^ 31 by omega) ⟨rfl, rfl⟩) (fun r h' hr => ?_)
                  obtain ⟨rfl, rfl⟩ := hr
                  refine Ev_bn (fun hb237 => ?_) (fun hb237 => ?_)
                  · have hhb237 : 12 ≤ x1 1 := of_decide_eq_true hb237
                    refine Ev.run 2 (pc' := 251) (lv' := [(9, .int (nI (ldC g x1 x2 who y))), (8, .int (nI (g 174 (4 * who + x1 1 % 4)))), (7, .int (nI (safC g x1 x2 who y))), (6, .int (nI (mayC g x1 x2 who))), (5, .int (nI (ftX g x1 x2 (x1 1)))), (4, .int (nI (x1 1))), (3, .ref (60 + 2 * who)), (0, .ref 12), (1, .ref 128), (2, .int (nI who))]) (st' := [.int (nI 10)]) (h' := HN (RO g 128 x0 x1 x2 x3) hl (RF rt)) rfl ?_
                    refine Ev.ret (v := some (.int (nI 10))) rfl ?_
                    have e : chC g x0 x1 x2 x3 who y = 10 := by
                      unfold chC
                      rw [if_neg (fun z => hc90 z.1)]
                      rw [if_pos hc143]
                      rw [if_pos hc154]
                      rw [if_neg (fun z => by have := z.2; omega)]
                      rw [if_pos hc210]
                      rw [if_neg (fun z => by have h1 := of_decide_eq_true hb237; have h2 := z.2; omega)]
                    rw [e] at hq
                    exact hq
                  · have hhb237 : ¬ (12 ≤ x1 1) := of_decide_eq_false hb237
                    refine Ev.run 2 (pc' := 241) (lv' := [(9, .int (nI (ldC g x1 x2 who y))), (8, .int (nI (g 174 (4 * who + x1 1 % 4)))), (7, .int (nI (safC g x1 x2 who y))), (6, .int (nI (mayC g x1 x2 who))), (5, .int (nI (ftX g x1 x2 (x1 1)))), (4, .int (nI (x1 1))), (3, .ref (60 + 2 * who)), (0, .ref 12), (1, .ref 128), (2, .int (nI who))]) (st' := [.ref (60 + 2 * who)]) (h' := HN (RO g 128 x0 x1 x2 x3) hl (RF rt)) rfl ?_
                    refine Ev_gfI rfl rfl rfl (kcP hwho) ?_
                    refine Ev.topI (congrArg nI ((RO_ne g 128 _ _ _ _ (fun k hk => by omega) 3).trans (hPl.1 who hwho).2)) ?_
                    refine Ev.run 1 (pc' := 245) (lv' := [(9, .int (nI (ldC g x1 x2 who y))), (8, .int (nI (g 174 (4 * who + x1 1 % 4)))), (7, .int (nI (safC g x1 x2 who y))), (6, .int (nI (mayC g x1 x2 who))), (5, .int (nI (ftX g x1 x2 (x1 1)))), (4, .int (nI (x1 1))), (3, .ref (60 + 2 * who)), (0, .ref 12), (1, .ref 128), (2, .int (nI who))]) (st' := [.int (nI 4), .int (nI (g 172 who))]) (h' := HN (RO g 128 x0 x1 x2 x3) hl (RF rt)) rfl ?_
                    refine Ev_irem rfl (by omega) (by omega) (by omega) ?_
                    refine Ev.run 1 (pc' := 251) (lv' := [(9, .int (nI (ldC g x1 x2 who y))), (8, .int (nI (g 174 (4 * who + x1 1 % 4)))), (7, .int (nI (safC g x1 x2 who y))), (6, .int (nI (mayC g x1 x2 who))), (5, .int (nI (ftX g x1 x2 (x1 1)))), (4, .int (nI (x1 1))), (3, .ref (60 + 2 * who)), (0, .ref 12), (1, .ref 128), (2, .int (nI who))]) (st' := [.int (nI ((g 172 who) % 4))]) (h' := HN (RO g 128 x0 x1 x2 x3) hl (RF rt)) rfl ?_
                    refine Ev.ret (v := some (.int (nI ((g 172 who) % 4)))) rfl ?_
                    have e : chC g x0 x1 x2 x3 who y = (g 172 who) % 4 := by
                      unfold chC
                      rw [if_neg (fun z => hc90 z.1)]
                      rw [if_pos hc143]
                      rw [if_pos hc154]
                      rw [if_neg (fun z => by have := z.2; omega)]
                      rw [if_pos hc210]
                      rw [if_pos ⟨hb227, by have := of_decide_eq_false hb237; omega⟩]
                    rw [e] at hq
                    exact hq
                · skip
                  refine Ev.run 2 (pc' := 251) (lv' := [(9, .int (nI (ldC g x1 x2 who y))), (8, .int (nI (g 174 (4 * who + x1 1 % 4)))), (7, .int (nI (safC g x1 x2 who y))), (6, .int (nI (mayC g x1 x2 who))), (5, .int (nI (ftX g x1 x2 (x1 1)))), (4, .int (nI (x1 1))), (3, .ref (60 + 2 * who)), (0, .ref 12), (1, .ref 128), (2, .int (nI who))]) (st' := [.int (nI 10)]) (h' := HN (RO g 128 x0 x1 x2 x3) hl (RF rt)) rfl ?_
                  refine Ev.ret (v := some (.int (nI 10))) rfl ?_
                  have e : chC g x0 x1 x2 x3 who y = 10 := by
                    unfold chC
                    rw [if_neg (fun z => hc90 z.1)]
                    rw [if_pos hc143]
                    rw [if_pos hc154]
                    rw [if_neg (fun z => by have := z.2; omega)]
                    rw [if_pos hc210]
                    rw [if_neg (fun z => tf z.1 hb227)]
                  rw [e] at hq
                  exact hq
              · have hc210 : ¬ ((mayC g x1 x2 who) = 0) := fun z => hc210 ((nI_eqU0 (by omega)).mpr z)
                refine Ev.run 1 (pc' := 215) (lv' := [(9, .int (nI (ldC g x1 x2 who y))), (8, .int (nI (g 174 (4 * who + x1 1 % 4)))), (7, .int (nI (safC g x1 x2 who y))), (6, .int (nI (mayC g x1 x2 who))), (5, .int (nI (ftX g x1 x2 (x1 1)))), (4, .int (nI (x1 1))), (3, .ref (60 + 2 * who)), (0, .ref 12), (1, .ref 128), (2, .int (nI who))]) (st' := [.int (nI (mayC g x1 x2 who))]) (h' := HN (RO g 128 x0 x1 x2 x3) hl (RF rt)) rfl ?_
                refine Ev.call (a := 123) (as := [.int (nI (mayC g x1 x2 who))]) (rest := []) (lv0 := [(0, .int (nI (mayC g x1 x2 who)))]) (Q1 := (fun z0 h' => z0 = some (.int (nI (frS (mayC g x1 x2 who)))) ∧ h' = HN (RO g 128 x0 x1 x2 x3) hl (RF rt))) rfl rfl (K_first _ _ _ _ (mayC g x1 x2 who) (by omega) ⟨rfl, rfl⟩) (fun r h' hr => ?_)
                obtain ⟨rfl, rfl⟩ := hr
                refine Ev.ret (v := some (.int (nI (frS (mayC g x1 x2 who))))) rfl ?_
                have e : chC g x0 x1 x2 x3 who y = frS (mayC g x1 x2 who) := by
                  unfold chC
                  rw [if_neg (fun z => hc90 z.1)]
                  rw [if_pos hc143]
                  rw [if_pos hc154]
                  rw [if_neg (fun z => by have := z.2; omega)]
                  rw [if_neg hc210]
                rw [e] at hq
                exact hq
            · have hc202 : ¬ (2147483648 ≤ (x0 3)) := fun z => hc202 ((nI_ltU0 (by omega)).mpr z)
              refine Ev.run 1 (pc' := 207) (lv' := [(9, .int (nI (ldC g x1 x2 who y))), (8, .int (nI (g 174 (4 * who + x1 1 % 4)))), (7, .int (nI (safC g x1 x2 who y))), (6, .int (nI (mayC g x1 x2 who))), (5, .int (nI (ftX g x1 x2 (x1 1)))), (4, .int (nI (x1 1))), (3, .ref (60 + 2 * who)), (0, .ref 12), (1, .ref 128), (2, .int (nI who))]) (st' := [.int (nI 10)]) (h' := HN (RO g 128 x0 x1 x2 x3) hl (RF rt)) rfl ?_
              refine Ev.ret (v := some (.int (nI 10))) rfl ?_
              have e : chC g x0 x1 x2 x3 who y = 10 := by
                unfold chC
                rw [if_neg (fun z => hc90 z.1)]
                rw [if_pos hc143]
                rw [if_pos hc154]
                rw [if_pos ⟨hb195, by omega⟩]
              rw [e] at hq
              exact hq
          · skip
            refine Ev.run 3 (pc' := (if nI (mayC g x1 x2 who) = 0 then 219 else 213)) (lv' := [(9, .int (nI (ldC g x1 x2 who y))), (8, .int (nI (g 174 (4 * who + x1 1 % 4)))), (7, .int (nI (safC g x1 x2 who y))), (6, .int (nI (mayC g x1 x2 who))), (5, .int (nI (ftX g x1 x2 (x1 1)))), (4, .int (nI (x1 1))), (3, .ref (60 + 2 * who)), (0, .ref 12), (1, .ref 128), (2, .int (nI who))]) (st' := []) (h' := HN (RO g 128 x0 x1 x2 x3) hl (RF rt)) rfl ?_
            refine Ev.ite (fun hc210 => ?_) (fun hc210 => ?_)
            · have hc210 : (mayC g x1 x2 who) = 0 := (nI_eqU0 (by omega)).mp hc210
              refine Ev.run 1 (pc' := 220) (lv' := [(9, .int (nI (ldC g x1 x2 who y))), (8, .int (nI (g 174 (4 * who + x1 1 % 4)))), (7, .int (nI (safC g x1 x2 who y))), (6, .int (nI (mayC g x1 x2 who))), (5, .int (nI (ftX g x1 x2 (x1 1)))), (4, .int (nI (x1 1))), (3, .ref (60 + 2 * who)), (0, .ref 12), (1, .ref 128), (2, .int (nI who))]) (st' := [.ref (60 + 2 * who)]) (h' := HN (RO g 128 x0 x1 x2 x3) hl (RF rt)) rfl ?_
              refine Ev_gfI rfl rfl rfl (kcP hwho) ?_
              refine Ev.topI (congrArg nI ((RO_ne g 128 _ _ _ _ (fun k hk => by omega) 2).trans (hPl.1 who hwho).1)) ?_
              refine Ev.run 1 (pc' := 224) (lv' := [(9, .int (nI (ldC g x1 x2 who y))), (8, .int (nI (g 174 (4 * who + x1 1 % 4)))), (7, .int (nI (safC g x1 x2 who y))), (6, .int (nI (mayC g x1 x2 who))), (5, .int (nI (ftX g x1 x2 (x1 1)))), (4, .int (nI (x1 1))), (3, .ref (60 + 2 * who)), (0, .ref 12), (1, .ref 128), (2, .int (nI who))]) (st' := [.int (nI 3), .int (nI (g 171 who))]) (h' := HN (RO g 128 x0 x1 x2 x3) hl (RF rt)) rfl ?_
              refine Ev.call (a := 121) (as := [.int (nI (g 171 who)), .int (nI 3)]) (rest := []) (lv0 := [(0, .int (nI (g 171 who))), (1, .int (nI 3))]) (Q1 := (fun z0 h' => z0 = some (.int (nI (bn (undS (g 171 who) 3)))) ∧ h' = HN (RO g 128 x0 x1 x2 x3) hl (RF rt))) rfl rfl (K_und _ (HN g hl (RF rt)) (RO g 128 x0 x1 x2 x3) _ _ (g 171 who) 3 (by omega) (by omega) ⟨rfl, rfl⟩) (fun r h' hr => ?_)
              obtain ⟨rfl, rfl⟩ := hr
              refine Ev_bn (fun hb227 => ?_) (fun hb227 => ?_)
              · skip
                refine Ev.run 3 (pc' := 234) (lv' := [(9, .int (nI (ldC g x1 x2 who y))), (8, .int (nI (g 174 (4 * who + x1 1 % 4)))), (7, .int (nI (safC g x1 x2 who y))), (6, .int (nI (mayC g x1 x2 who))), (5, .int (nI (ftX g x1 x2 (x1 1)))), (4, .int (nI (x1 1))), (3, .ref (60 + 2 * who)), (0, .ref 12), (1, .ref 128), (2, .int (nI who))]) (st' := [.ref 129]) (h' := HN (RO g 128 x0 x1 x2 x3) hl (RF rt)) rfl ?_
                refine Ev.call (a := 42) (as := [.ref 129]) (rest := []) (lv0 := [(0, .ref 129)]) (Q1 := (fun z0 h' => z0 = some (.int (nI (bn (decide (12 ≤ x1 1))))) ∧ h' = HN (RO g 128 x0 x1 x2 x3) hl (RF rt))) rfl rfl (K_isFull _ (RO g 128 x0 x1 x2 x3) _ _ 129 12 (ln129 rt) (show x1 1 < 2 ^ 31 by omega) ⟨rfl, rfl⟩) (fun r h' hr => ?_)
                obtain ⟨rfl, rfl⟩ := hr
                refine Ev_bn (fun hb237 => ?_) (fun hb237 => ?_)
                · have hhb237 : 12 ≤ x1 1 := of_decide_eq_true hb237
                  refine Ev.run 2 (pc' := 251) (lv' := [(9, .int (nI (ldC g x1 x2 who y))), (8, .int (nI (g 174 (4 * who + x1 1 % 4)))), (7, .int (nI (safC g x1 x2 who y))), (6, .int (nI (mayC g x1 x2 who))), (5, .int (nI (ftX g x1 x2 (x1 1)))), (4, .int (nI (x1 1))), (3, .ref (60 + 2 * who)), (0, .ref 12), (1, .ref 128), (2, .int (nI who))]) (st' := [.int (nI 10)]) (h' := HN (RO g 128 x0 x1 x2 x3) hl (RF rt)) rfl ?_
                  refine Ev.ret (v := some (.int (nI 10))) rfl ?_
                  have e : chC g x0 x1 x2 x3 who y = 10 := by
                    unfold chC
                    rw [if_neg (fun z => hc90 z.1)]
                    rw [if_pos hc143]
                    rw [if_pos hc154]
                    rw [if_neg (fun z => tf z.1 hb195)]
                    rw [if_pos hc210]
                    rw [if_neg (fun z => by have h1 := of_decide_eq_true hb237; have h2 := z.2; omega)]
                  rw [e] at hq
                  exact hq
                · have hhb237 : ¬ (12 ≤ x1 1) := of_decide_eq_false hb237
                  refine Ev.run 2 (pc' := 241) (lv' := [(9, .int (nI (ldC g x1 x2 who y))), (8, .int (nI (g 174 (4 * who + x1 1 % 4)))), (7, .int (nI (safC g x1 x2 who y))), (6, .int (nI (mayC g x1 x2 who))), (5, .int (nI (ftX g x1 x2 (x1 1)))), (4, .int (nI (x1 1))), (3, .ref (60 + 2 * who)), (0, .ref 12), (1, .ref 128), (2, .int (nI who))]) (st' := [.ref (60 + 2 * who)]) (h' := HN (RO g 128 x0 x1 x2 x3) hl (RF rt)) rfl ?_
                  refine Ev_gfI rfl rfl rfl (kcP hwho) ?_
                  refine Ev.topI (congrArg nI ((RO_ne g 128 _ _ _ _ (fun k hk => by omega) 3).trans (hPl.1 who hwho).2)) ?_
                  refine Ev.run 1 (pc' := 245) (lv' := [(9, .int (nI (ldC g x1 x2 who y))), (8, .int (nI (g 174 (4 * who + x1 1 % 4)))), (7, .int (nI (safC g x1 x2 who y))), (6, .int (nI (mayC g x1 x2 who))), (5, .int (nI (ftX g x1 x2 (x1 1)))), (4, .int (nI (x1 1))), (3, .ref (60 + 2 * who)), (0, .ref 12), (1, .ref 128), (2, .int (nI who))]) (st' := [.int (nI 4), .int (nI (g 172 who))]) (h' := HN (RO g 128 x0 x1 x2 x3) hl (RF rt)) rfl ?_
                  refine Ev_irem rfl (by omega) (by omega) (by omega) ?_
                  refine Ev.run 1 (pc' := 251) (lv' := [(9, .int (nI (ldC g x1 x2 who y))), (8, .int (nI (g 174 (4 * who + x1 1 % 4)))), (7, .int (nI (safC g x1 x2 who y))), (6, .int (nI (mayC g x1 x2 who))), (5, .int (nI (ftX g x1 x2 (x1 1)))), (4, .int (nI (x1 1))), (3, .ref (60 + 2 * who)), (0, .ref 12), (1, .ref 128), (2, .int (nI who))]) (st' := [.int (nI ((g 172 who) % 4))]) (h' := HN (RO g 128 x0 x1 x2 x3) hl (RF rt)) rfl ?_
                  refine Ev.ret (v := some (.int (nI ((g 172 who) % 4)))) rfl ?_
                  have e : chC g x0 x1 x2 x3 who y = (g 172 who) % 4 := by
                    unfold chC
                    rw [if_neg (fun z => hc90 z.1)]
                    rw [if_pos hc143]
                    rw [if_pos hc154]
                    rw [if_neg (fun z => tf z.1 hb195)]
                    rw [if_pos hc210]
                    rw [if_pos ⟨hb227, by have := of_decide_eq_false hb237; omega⟩]
                  rw [e] at hq
                  exact hq
              · skip
                refine Ev.run 2 (pc' := 251) (lv' := [(9, .int (nI (ldC g x1 x2 who y))), (8, .int (nI (g 174 (4 * who + x1 1 % 4)))), (7, .int (nI (safC g x1 x2 who y))), (6, .int (nI (mayC g x1 x2 who))), (5, .int (nI (ftX g x1 x2 (x1 1)))), (4, .int (nI (x1 1))), (3, .ref (60 + 2 * who)), (0, .ref 12), (1, .ref 128), (2, .int (nI who))]) (st' := [.int (nI 10)]) (h' := HN (RO g 128 x0 x1 x2 x3) hl (RF rt)) rfl ?_
                refine Ev.ret (v := some (.int (nI 10))) rfl ?_
                have e : chC g x0 x1 x2 x3 who y = 10 := by
                  unfold chC
                  rw [if_neg (fun z => hc90 z.1)]
                  rw [if_pos hc143]
                  rw [if_pos hc154]
                  rw [if_neg (fun z => tf z.1 hb195)]
                  rw [if_pos hc210]
                  rw [if_neg (fun z => tf z.1 hb227)]
                rw [e] at hq
                exact hq
            · have hc210 : ¬ ((mayC g x1 x2 who) = 0) := fun z => hc210 ((nI_eqU0 (by omega)).mpr z)
              refine Ev.run 1 (pc' := 215) (lv' := [(9, .int (nI (ldC g x1 x2 who y))), (8, .int (nI (g 174 (4 * who + x1 1 % 4)))), (7, .int (nI (safC g x1 x2 who y))), (6, .int (nI (mayC g x1 x2 who))), (5, .int (nI (ftX g x1 x2 (x1 1)))), (4, .int (nI (x1 1))), (3, .ref (60 + 2 * who)), (0, .ref 12), (1, .ref 128), (2, .int (nI who))]) (st' := [.int (nI (mayC g x1 x2 who))]) (h' := HN (RO g 128 x0 x1 x2 x3) hl (RF rt)) rfl ?_
              refine Ev.call (a := 123) (as := [.int (nI (mayC g x1 x2 who))]) (rest := []) (lv0 := [(0, .int (nI (mayC g x1 x2 who)))]) (Q1 := (fun z0 h' => z0 = some (.int (nI (frS (mayC g x1 x2 who)))) ∧ h' = HN (RO g 128 x0 x1 x2 x3) hl (RF rt))) rfl rfl (K_first _ _ _ _ (mayC g x1 x2 who) (by omega) ⟨rfl, rfl⟩) (fun r h' hr => ?_)
              obtain ⟨rfl, rfl⟩ := hr
              refine Ev.ret (v := some (.int (nI (frS (mayC g x1 x2 who))))) rfl ?_
              have e : chC g x0 x1 x2 x3 who y = frS (mayC g x1 x2 who) := by
                unfold chC
                rw [if_neg (fun z => hc90 z.1)]
                rw [if_pos hc143]
                rw [if_pos hc154]
                rw [if_neg (fun z => tf z.1 hb195)]
                rw [if_neg hc210]
              rw [e] at hq
              exact hq
        · have hc154 : ¬ ((safC g x1 x2 who y) = 0) := fun z => hc154 ((nI_eqU0 (by omega)).mpr z)
          refine Ev.run 1 (pc' := 158) (lv' := [(9, .int (nI (ldC g x1 x2 who y))), (8, .int (nI (g 174 (4 * who + x1 1 % 4)))), (7, .int (nI (safC g x1 x2 who y))), (6, .int (nI (mayC g x1 x2 who))), (5, .int (nI (ftX g x1 x2 (x1 1)))), (4, .int (nI (x1 1))), (3, .ref (60 + 2 * who)), (0, .ref 12), (1, .ref 128), (2, .int (nI who))]) (st' := [.ref (60 + 2 * who)]) (h' := HN (RO g 128 x0 x1 x2 x3) hl (RF rt)) rfl ?_
          refine Ev_gfI rfl rfl rfl (kcP hwho) ?_
          refine Ev.topI (congrArg nI ((RO_ne g 128 _ _ _ _ (fun k hk => by omega) 2).trans (hPl.1 who hwho).1)) ?_
          refine Ev.run 1 (pc' := 162) (lv' := [(9, .int (nI (ldC g x1 x2 who y))), (8, .int (nI (g 174 (4 * who + x1 1 % 4)))), (7, .int (nI (safC g x1 x2 who y))), (6, .int (nI (mayC g x1 x2 who))), (5, .int (nI (ftX g x1 x2 (x1 1)))), (4, .int (nI (x1 1))), (3, .ref (60 + 2 * who)), (0, .ref 12), (1, .ref 128), (2, .int (nI who))]) (st' := [.int (nI 1), .int (nI (g 171 who))]) (h' := HN (RO g 128 x0 x1 x2 x3) hl (RF rt)) rfl ?_
          refine Ev.call (a := 121) (as := [.int (nI (g 171 who)), .int (nI 1)]) (rest := []) (lv0 := [(0, .int (nI (g 171 who))), (1, .int (nI 1))]) (Q1 := (fun z0 h' => z0 = some (.int (nI (bn (undS (g 171 who) 1)))) ∧ h' = HN (RO g 128 x0 x1 x2 x3) hl (RF rt))) rfl rfl (K_und _ (HN g hl (RF rt)) (RO g 128 x0 x1 x2 x3) _ _ (g 171 who) 1 (by omega) (by omega) ⟨rfl, rfl⟩) (fun r h' hr => ?_)
          obtain ⟨rfl, rfl⟩ := hr
          refine Ev_bn (fun hb165 => ?_) (fun hb165 => ?_)
          · skip
            refine Ev.run 6 (pc' := 175) (lv' := [(9, .int (nI (ldC g x1 x2 who y))), (8, .int (nI (g 174 (4 * who + x1 1 % 4)))), (7, .int (nI (safC g x1 x2 who y))), (6, .int (nI (mayC g x1 x2 who))), (5, .int (nI (ftX g x1 x2 (x1 1)))), (4, .int (nI (x1 1))), (3, .ref (60 + 2 * who)), (0, .ref 12), (1, .ref 128), (2, .int (nI who))]) (st' := [.int (nI (safC g x1 x2 who y)), .int (nI (ftX g x1 x2 (x1 1))), .int (nI who), .ref 128, .ref 12]) (h' := HN (RO g 128 x0 x1 x2 x3) hl (RF rt)) rfl ?_
            refine Ev.call (a := 40) (as := [.ref 12, .ref 128, .int (nI who), .int (nI (ftX g x1 x2 (x1 1))), .int (nI (safC g x1 x2 who y))]) (rest := []) (lv0 := [(0, .ref 12), (1, .ref 128), (2, .int (nI who)), (3, .int (nI (ftX g x1 x2 (x1 1)))), (4, .int (nI (safC g x1 x2 who y)))]) (Q1 := (fun z0 h' => z0 = some (.int (nI (syC g x1 x3 who (ftX g x1 x2 (x1 1)) (safC g x1 x2 who y)))) ∧ h' = HN (RO g 128 x0 x1 x2 x3) hl (RF rt))) rfl rfl (K128_slyest _ g _ _ hI hB hP5 hk59 x0 x1 x2 x3 hx3 (by omega) who (ftX g x1 x2 (x1 1)) (safC g x1 x2 who y) (by omega) (by omega) (by omega) ⟨rfl, rfl⟩) (fun r h' hr => ?_)
            obtain ⟨rfl, rfl⟩ := hr
            refine Ev.run 1 (pc' := 186) (lv' := [(9, .int (nI (ldC g x1 x2 who y))), (8, .int (nI (g 174 (4 * who + x1 1 % 4)))), (7, .int (nI (safC g x1 x2 who y))), (6, .int (nI (mayC g x1 x2 who))), (5, .int (nI (ftX g x1 x2 (x1 1)))), (4, .int (nI (x1 1))), (3, .ref (60 + 2 * who)), (0, .ref 12), (1, .ref 128), (2, .int (nI who))]) (st' := [.int (nI (syC g x1 x3 who (ftX g x1 x2 (x1 1)) (safC g x1 x2 who y)))]) (h' := HN (RO g 128 x0 x1 x2 x3) hl (RF rt)) rfl ?_
            refine Ev.ret (v := some (.int (nI (syC g x1 x3 who (ftX g x1 x2 (x1 1)) (safC g x1 x2 who y))))) rfl ?_
            have e : chC g x0 x1 x2 x3 who y = syC g x1 x3 who (ftX g x1 x2 (x1 1)) (safC g x1 x2 who y) := by
              unfold chC
              rw [if_neg (fun z => hc90 z.1)]
              rw [if_pos hc143]
              rw [if_neg hc154]
              rw [if_pos hb165]
            rw [e] at hq
            exact hq
          · skip
            refine Ev.run 2 (pc' := 183) (lv' := [(9, .int (nI (ldC g x1 x2 who y))), (8, .int (nI (g 174 (4 * who + x1 1 % 4)))), (7, .int (nI (safC g x1 x2 who y))), (6, .int (nI (mayC g x1 x2 who))), (5, .int (nI (ftX g x1 x2 (x1 1)))), (4, .int (nI (x1 1))), (3, .ref (60 + 2 * who)), (0, .ref 12), (1, .ref 128), (2, .int (nI who))]) (st' := [.int (nI (safC g x1 x2 who y))]) (h' := HN (RO g 128 x0 x1 x2 x3) hl (RF rt)) rfl ?_
            refine Ev.call (a := 123) (as := [.int (nI (safC g x1 x2 who y))]) (rest := []) (lv0 := [(0, .int (nI (safC g x1 x2 who y)))]) (Q1 := (fun z0 h' => z0 = some (.int (nI (frS (safC g x1 x2 who y)))) ∧ h' = HN (RO g 128 x0 x1 x2 x3) hl (RF rt))) rfl rfl (K_first _ _ _ _ (safC g x1 x2 who y) (by omega) ⟨rfl, rfl⟩) (fun r h' hr => ?_)
            obtain ⟨rfl, rfl⟩ := hr
            refine Ev.ret (v := some (.int (nI (frS (safC g x1 x2 who y))))) rfl ?_
            have e : chC g x0 x1 x2 x3 who y = frS (safC g x1 x2 who y) := by
              unfold chC
              rw [if_neg (fun z => hc90 z.1)]
              rw [if_pos hc143]
              rw [if_neg hc154]
              rw [if_neg (fun z => tf z hb165)]
            rw [e] at hq
            exact hq
      · have hc143 : ¬ ((ldC g x1 x2 who y) = 0) := fun z => hc143 ((nI_eqU0 (by omega)).mpr z)
        refine Ev.run 1 (pc' := 148) (lv' := [(9, .int (nI (ldC g x1 x2 who y))), (8, .int (nI (g 174 (4 * who + x1 1 % 4)))), (7, .int (nI (safC g x1 x2 who y))), (6, .int (nI (mayC g x1 x2 who))), (5, .int (nI (ftX g x1 x2 (x1 1)))), (4, .int (nI (x1 1))), (3, .ref (60 + 2 * who)), (0, .ref 12), (1, .ref 128), (2, .int (nI who))]) (st' := [.int (nI (ldC g x1 x2 who y))]) (h' := HN (RO g 128 x0 x1 x2 x3) hl (RF rt)) rfl ?_
        refine Ev.call (a := 123) (as := [.int (nI (ldC g x1 x2 who y))]) (rest := []) (lv0 := [(0, .int (nI (ldC g x1 x2 who y)))]) (Q1 := (fun z0 h' => z0 = some (.int (nI (frS (ldC g x1 x2 who y)))) ∧ h' = HN (RO g 128 x0 x1 x2 x3) hl (RF rt))) rfl rfl (K_first _ _ _ _ (ldC g x1 x2 who y) (by omega) ⟨rfl, rfl⟩) (fun r h' hr => ?_)
        obtain ⟨rfl, rfl⟩ := hr
        refine Ev.ret (v := some (.int (nI (frS (ldC g x1 x2 who y))))) rfl ?_
        have e : chC g x0 x1 x2 x3 who y = frS (ldC g x1 x2 who y) := by
          unfold chC
          rw [if_neg (fun z => hc90 z.1)]
          rw [if_neg hc143]
        rw [e] at hq
        exact hq
