/-! the class: a turn -/
theorem goB_0 {g : Nat → Nat → Nat} (h : MI g) (f : Nat) {n : Nat} (hn : 6 ≤ n) : goB g f n = 0 := by
  unfold goB
  refine bset_0 (fun y _ => ?_)
  rw [bset_0 (p := plB g n y) (fun i hi => plB_0 h (by have := h.hW; omega) (by omega)), Nat.and_zero]
  rfl
theorem mayC_0 {g : Nat → Nat → Nat} (h : MI g) {x1 x2 : Nat → Nat} {who : Nat} (h0 : mayC g x1 x2 who ≠ 0) : x1 1 < 12 := by
  refine Classical.byContradiction fun z => h0 ?_
  exact goB_0 h _ (by omega)
theorem safC_0 {g : Nat → Nat → Nat} {x1 x2 : Nat → Nat} {who y : Nat} (h0 : safC g x1 x2 who y ≠ 0) : mayC g x1 x2 who ≠ 0 := by
  obtain ⟨i, _, b⟩ := tb_ex (N := 4) h0 (bset_lt _ 4)
  unfold safC neB at b
  rw [bset_tb, Bool.and_eq_true, Bool.and_eq_true] at b
  exact nz_tb b.2.1
theorem ldC_0 {g : Nat → Nat → Nat} {x1 x2 : Nat → Nat} {who y : Nat} (h0 : ldC g x1 x2 who y ≠ 0) : safC g x1 x2 who y ≠ 0 ∧ ldC g x1 x2 who y < 16 := by
  unfold ldC at h0 ⊢
  split at h0
  · rename_i e
    rw [if_pos e]
    refine ⟨fun z => h0 (by rw [z, Nat.zero_and]), Nat.lt_of_le_of_lt (and_le _ _) (bset_lt _ 4)⟩
  · exact absurd rfl h0
theorem frS_4 {s : Nat} (h : s ≠ 0) (hs : s < 16) : frS s ≤ 3 := by
  rw [frS_nz h]
  have := least_lt (N := 4) h hs (by decide)
  omega
theorem chC_ok {g : Nat → Nat → Nat} (h : MI g) (x0 x1 x2 x3 : Nat → Nat) {who y : Nat} (hw : who < 5) : chC g x0 x1 x2 x3 who y = 10 ∨ (chC g x0 x1 x2 x3 who y ≤ 3 ∧ x1 1 < 12) := by
  have hm : mayC g x1 x2 who < 16 := bset_lt _ 4
  have hs : safC g x1 x2 who y < 16 := bset_lt _ 4
  unfold chC
  split
  · rename_i e
    exact Or.inr ⟨h.hro _ (by omega), mayC_0 h (nz_tb e.2)⟩
  · split
    · split
      · split
        · exact Or.inl rfl
        · split
          · split
            · rename_i e
              have := Nat.mod_lt (g 172 who) (show 0 < 4 by decide)
              exact Or.inr ⟨by omega, e.2⟩
            · exact Or.inl rfl
          · rename_i e
            exact Or.inr ⟨frS_4 e hm, mayC_0 h e⟩
      · rename_i e
        have e12 := mayC_0 h (safC_0 e)
        split
        · refine Or.inr ⟨?_, e12⟩
          unfold syC
          obtain ⟨i, a, b⟩ := tb_ex (N := 4) e hs
          rw [sl_eq4 (bcG_le _ _ _) e hs]
          have := slL_e (f := bcG g (if fwC x3 (g 12 2) who (g 12 2) 1 < 2147483648 then ftX g x1 x2 (x1 1) &&& g 59 (fwC x3 (g 12 2) who (g 12 2) 1) else 0) (x1 1)) (s := safC g x1 x2 who y) (fun z => by have := bcG_le g (if fwC x3 (g 12 2) who (g 12 2) 1 < 2147483648 then ftX g x1 x2 (x1 1) &&& g 59 (fwC x3 (g 12 2) who (g 12 2) 1) else 0) (x1 1) z; omega) 4 i (by decide) a b
          omega
        · exact Or.inr ⟨frS_4 e hs, e12⟩
    · rename_i e
      have e2 := ldC_0 e
      exact Or.inr ⟨frS_4 e e2.2, mayC_0 h (safC_0 e2.1)⟩
abbrev Rx : Type := Nat × (Nat → Nat) × (Nat → Nat) × (Nat → Nat) × (Nat → Nat)
def plXl (g : Nat → Nat → Nat) (v : Nat) (w0 x1 x2 x3 : Nat → Nat) (p : Nat) : Rx := (v, loX0 w0 x3 (g 12 2) p, up x1 1 0, x2, up x3 p (x3 p - 1))
noncomputable def plXa (g : Nat → Nat → Nat) (y : Nat) (w0 x1 x2 x3 : Nat → Nat) (c : Nat) : Rx := bif enX g x1 x2 c y then (100 + c, loX0 (up w0 3 (w0 2)) x3 (g 12 2) (w0 2), up (up x1 1 (x1 1 + 1)) 1 0, up x2 (x1 1) c, up x3 (w0 2) (x3 (w0 2) - 1)) else (c, up (up w0 3 (w0 2)) 2 (fwC x3 (g 12 2) (w0 2) (g 12 2) 1), up x1 1 (x1 1 + 1), up x2 (x1 1) c, x3)
noncomputable def plX1 (g : Nat → Nat → Nat) (y : Nat) (w0 x1 x2 x3 : Nat → Nat) (who : Nat) : Rx := if chC g w0 x1 x2 x3 who y = 10 then (if w0 3 < 2147483648 then plXl g 110 w0 x1 x2 x3 (if ftX g x1 x2 (x1 1) &&& g 59 (w0 3) = 0 then w0 3 else who) else plXl g 120 w0 x1 x2 x3 who) else plXa g y w0 x1 x2 x3 (chC g w0 x1 x2 x3 who y)
noncomputable def plX (g : Nat → Nat → Nat) (y : Nat) (x0 x1 x2 x3 : Nat → Nat) : Rx := if acC (up x0 4 4294967295) x3 (g 12 2) < 2147483648 then plX1 g y (up (up x0 4 4294967295) 2 (acC (up x0 4 4294967295) x3 (g 12 2))) x1 x2 x3 (acC (up x0 4 4294967295) x3 (g 12 2)) else (4294967293, up x0 4 4294967295, x1, x2, x3)
theorem K44_play {L : Nat} {xs : Nat → Int32} (d : Nat) (g : Nat → Nat → Nat) (hl : Nat → Nat → Int64) (rt : Nat × Nat × Nat × Nat) (hI : MI g) (hB : CB g) (hP5 : g 12 2 ≤ 5) (y : Nat) (hT : TbC g rt y) (hk59 : ∀ j, j < 5 → g 59 j < 4096) (hlo : ∀ j, j < 7 → g 18 j < 4096) (hPl : CPl g) (x0 x1 x2 x3 : Nat → Nat) (hx3 : ∀ j, j < 5 → x3 j ≤ 99) (hn12 : x1 1 ≤ 12) (hr : ∀ k, k < x1 1 → x2 k ≤ 3) (hx0 : x0 2 ≤ 4) (hx03 : x0 3 ≤ 4 ∨ x0 3 = 4294967295) {Q : Po} (hq : Q (some (.int (nI (plX g y x0 x1 x2 x3).1))) (HN (RO g 44 (plX g y x0 x1 x2 x3).2.1 (plX g y x0 x1 x2 x3).2.2.1 (plX g y x0 x1 x2 x3).2.2.2.1 (plX g y x0 x1 x2 x3).2.2.2.2) hl (RF rt))) : Ev L xs (d + 6) 36 0 [(0, .ref 12), (1, .ref 44)] [] (HN (RO g 44 x0 x1 x2 x3) hl (RF rt)) Q := by
  refine Ev.run 3 (pc' := 5) (lv' := [(0, .ref 12), (1, .ref 44)]) (st' := []) (h' := setI (HN (RO g 44 x0 x1 x2 x3) hl (RF rt)) 44 4 (nI 4294967295)) rfl ?_
  refine Ev.hp (HN_set _ _ _ _ _ _) ?_
  refine Ev.hp (congrArg (fun z => HN z hl (RF rt)) (RO_0 _ _ _ _ _ _ _ _)) ?_
  refine Ev.run 2 (pc' := 7) (lv' := [(0, .ref 12), (1, .ref 44)]) (st' := [.ref 44, .ref 12]) (h' := HN (RO g 44 (up x0 4 4294967295) x1 x2 x3) hl (RF rt)) rfl ?_
  refine Ev.call (a := 34) (as := [.ref 12, .ref 44]) (rest := []) (lv0 := [(0, .ref 12), (1, .ref 44)]) (Q1 := (fun z0 h' => z0 = some (.int (nI (acC (up x0 4 4294967295) x3 (g 12 2)))) ∧ h' = HN (RO g 44 (up x0 4 4294967295) x1 x2 x3) hl (RF rt))) rfl rfl (K44_acting _ g _ _ hP5 (up x0 4 4294967295) x1 x2 x3 hx3 hx0 ⟨rfl, rfl⟩) (fun r h' hr => ?_)
  obtain ⟨rfl, rfl⟩ := hr
  have hac := acC_l5 (up x0 4 4294967295) x3 hP5
  obtain ⟨who, hwE⟩ : ∃ who, who = acC (up x0 4 4294967295) x3 (g 12 2) := ⟨_, rfl⟩
  rw [← hwE] at hac ⊢
  refine Ev.run 3 (pc' := (if 0 ≤ nI who then 18 else 15)) (lv' := [(2, .int (nI who)), (0, .ref 12), (1, .ref 44)]) (st' := []) (h' := HN (RO g 44 (up x0 4 4294967295) x1 x2 x3) hl (RF rt)) rfl ?_
  refine Ev.ite (fun hc12 => ?_) (fun hc12 => ?_)
  · have hc12 : who < 2147483648 := (nI_geU0 (by omega)).mp hc12
    refine Ev.run 3 (pc' := 23) (lv' := [(2, .int (nI who)), (0, .ref 12), (1, .ref 44)]) (st' := []) (h' := setI (HN (RO g 44 (up x0 4 4294967295) x1 x2 x3) hl (RF rt)) 44 2 (nI who)) rfl ?_
    refine Ev.hp (HN_set _ _ _ _ _ _) ?_
    refine Ev.hp (congrArg (fun z => HN z hl (RF rt)) (RO_0 _ _ _ _ _ _ _ _)) ?_
    refine Ev.run 3 (pc' := 26) (lv' := [(2, .int (nI who)), (0, .ref 12), (1, .ref 44)]) (st' := [.int (nI who), .ref 44, .ref 12]) (h' := HN (RO g 44 (up (up x0 4 4294967295) 2 who) x1 x2 x3) hl (RF rt)) rfl ?_
    refine Ev.call (a := 39) (as := [.ref 12, .ref 44, .int (nI who)]) (rest := []) (lv0 := [(0, .ref 12), (1, .ref 44), (2, .int (nI who))]) (Q1 := (fun z0 h' => z0 = some (.int (nI (chC g (up (up x0 4 4294967295) 2 who) x1 x2 x3 who y))) ∧ h' = HN (RO g 44 (up (up x0 4 4294967295) 2 who) x1 x2 x3) hl (RF rt))) rfl rfl (K44_choose _ g _ _ hI hB hP5 y hT hk59 hlo hPl (up (up x0 4 4294967295) 2 who) x1 x2 x3 hx3 hn12 hr (show who ≤ 4 by omega) hx03 who (by omega) ⟨rfl, rfl⟩) (fun r h' hr => ?_)
    obtain ⟨rfl, rfl⟩ := hr
    have hch := chC_ok hI (up (up x0 4 4294967295) 2 who) x1 x2 x3 (who := who) (y := y) (by omega)
    refine Ev.run 4 (pc' := (if nI (chC g (up (up x0 4 4294967295) 2 who) x1 x2 x3 who y) = nI 10 then 43 else 36)) (lv' := [(3, .int (nI (chC g (up (up x0 4 4294967295) 2 who) x1 x2 x3 who y))), (2, .int (nI who)), (0, .ref 12), (1, .ref 44)]) (st' := []) (h' := HN (RO g 44 (up (up x0 4 4294967295) 2 who) x1 x2 x3) hl (RF rt)) rfl ?_
    refine Ev.ite (fun hc33 => ?_) (fun hc33 => ?_)
    · have hc33 : (chC g (up (up x0 4 4294967295) 2 who) x1 x2 x3 who y) = 10 := (nI_eqU (by omega) (by omega)).mp hc33
      refine Ev.run 3 (pc' := (if 0 ≤ nI (x0 3) then 59 else 50)) (lv' := [(3, .int (nI (chC g (up (up x0 4 4294967295) 2 who) x1 x2 x3 who y))), (2, .int (nI who)), (0, .ref 12), (1, .ref 44)]) (st' := []) (h' := HN (RO g 44 (up (up x0 4 4294967295) 2 who) x1 x2 x3) hl (RF rt)) rfl ?_
      refine Ev.ite (fun hc47 => ?_) (fun hc47 => ?_)
      · have hc47 : (x0 3) < 2147483648 := (nI_geU0 (by omega)).mp hc47
        refine Ev.run 7 (pc' := 74) (lv' := [(3, .int (nI (chC g (up (up x0 4 4294967295) 2 who) x1 x2 x3 who y))), (2, .int (nI who)), (0, .ref 12), (1, .ref 44)]) (st' := [.int (nI (x1 1)), .ref 45, .ref 13]) (h' := HN (RO g 44 (up (up x0 4 4294967295) 2 who) x1 x2 x3) hl (RF rt)) rfl ?_
        refine Ev.call (a := 13) (as := [.ref 13, .ref 45, .int (nI (x1 1))]) (rest := []) (lv0 := [(0, .ref 13), (1, .ref 45), (2, .int (nI (x1 1)))]) (Q1 := (fun z0 h' => z0 = some (.int (nI (ftX g x1 x2 (x1 1)))) ∧ h' = HN (RO g 44 (up (up x0 4 4294967295) 2 who) x1 x2 x3) hl (RF rt))) rfl rfl (K_fitting _ (RO g 44 (up (up x0 4 4294967295) 2 who) x1 x2 x3) _ _ (hI.mRO (by decide)) (hB.cRO (by decide)) 45 12 (ln45 rt) (x1 1) (by omega) (show x1 1 ≤ 12 by omega) (fun k => atX_lt hr k) ⟨rfl, rfl⟩) (fun r h' hr => ?_)
        obtain ⟨rfl, rfl⟩ := hr
        have hftx : ftX g x1 x2 (x1 1) < 4096 := bset_12 _ hI.hW
        refine Ev.run 4 (pc' := 85) (lv' := [(3, .int (nI (chC g (up (up x0 4 4294967295) 2 who) x1 x2 x3 who y))), (2, .int (nI who)), (0, .ref 12), (1, .ref 44)]) (st' := [.int (nI (x0 3)), .ref 59, .int (nI (ftX g x1 x2 (x1 1)))]) (h' := HN (RO g 44 (up (up x0 4 4294967295) 2 who) x1 x2 x3) hl (RF rt)) rfl ?_
        have hkl := hk59 (x0 3) (by omega)
        refine Ev_iald rfl rfl (show x0 3 < 5 by omega) (Nat.le_of_ble_eq_true rfl) ?_
        have hand := and_le (ftX g x1 x2 (x1 1)) (g 59 (x0 3))
        refine Ev.run 1 (pc' := 87) (lv' := [(3, .int (nI (chC g (up (up x0 4 4294967295) 2 who) x1 x2 x3 who y))), (2, .int (nI who)), (0, .ref 12), (1, .ref 44)]) (st' := [.int (nI (ftX g x1 x2 (x1 1)) &&& nI (g 59 (x0 3)))]) (h' := HN (RO g 44 (up (up x0 4 4294967295) 2 who) x1 x2 x3) hl (RF rt)) rfl ?_
        refine Ev.topI (nIa _ _) ?_
        refine Ev.run 1 (pc' := (if nI ((ftX g x1 x2 (x1 1)) &&& (g 59 (x0 3))) = 0 then 94 else 90)) (lv' := [(3, .int (nI (chC g (up (up x0 4 4294967295) 2 who) x1 x2 x3 who y))), (2, .int (nI who)), (0, .ref 12), (1, .ref 44)]) (st' := []) (h' := HN (RO g 44 (up (up x0 4 4294967295) 2 who) x1 x2 x3) hl (RF rt)) rfl ?_
        refine Ev.ite (fun hc87 => ?_) (fun hc87 => ?_)
        · have hc87 : ((ftX g x1 x2 (x1 1)) &&& (g 59 (x0 3))) = 0 := (nI_eqU0 (by omega)).mp hc87
          refine Ev.run 8 (pc' := 112) (lv' := [(4, .int (nI 0)), (3, .int (nI (chC g (up (up x0 4 4294967295) 2 who) x1 x2 x3 who y))), (2, .int (nI who)), (0, .ref 12), (1, .ref 44)]) (st' := [.int (nI (x0 3)), .ref 44, .ref 12]) (h' := HN (RO g 44 (up (up x0 4 4294967295) 2 who) x1 x2 x3) hl (RF rt)) rfl ?_
          refine Ev.call (a := 38) (as := [.ref 12, .ref 44, .int (nI (x0 3))]) (rest := []) (lv0 := [(0, .ref 12), (1, .ref 44), (2, .int (nI (x0 3)))]) (Q1 := (fun z0 h' => z0 = none ∧ h' = HN (RO g 44 (loX0 (up (up x0 4 4294967295) 2 who) x3 (g 12 2) (x0 3)) (up x1 1 0) x2 (up x3 (x0 3) (x3 (x0 3) - 1))) hl (RF rt))) rfl rfl (K44_lose _ g _ _ hP5 (up (up x0 4 4294967295) 2 who) x1 x2 x3 hx3 (x0 3) (by omega) ⟨rfl, rfl⟩) (fun r h' hr => ?_)
          obtain ⟨rfl, rfl⟩ := hr
          refine Ev.run 1 (pc' := 117) (lv' := [(4, .int (nI 0)), (3, .int (nI (chC g (up (up x0 4 4294967295) 2 who) x1 x2 x3 who y))), (2, .int (nI who)), (0, .ref 12), (1, .ref 44)]) (st' := [.int (nI 110)]) (h' := HN (RO g 44 (loX0 (up (up x0 4 4294967295) 2 who) x3 (g 12 2) (x0 3)) (up x1 1 0) x2 (up x3 (x0 3) (x3 (x0 3) - 1))) hl (RF rt)) rfl ?_
          refine Ev.ret (v := some (.int (nI 110))) rfl ?_
          unfold plX at hq
          rw [← hwE] at hq
          rw [if_pos (by omega)] at hq
          unfold plX1 at hq
          rw [if_pos hc33] at hq
          rw [if_pos (show (up (up x0 4 4294967295) 2 who) 3 < 2147483648 from (by omega : x0 3 < 2147483648))] at hq
          have hq : Q _ (HN (RO g 44 (loX0 (up (up x0 4 4294967295) 2 who) x3 (g 12 2) (if ftX g x1 x2 (x1 1) &&& g 59 (x0 3) = 0 then x0 3 else who)) (up x1 1 0) x2 (up x3 (if ftX g x1 x2 (x1 1) &&& g 59 (x0 3) = 0 then x0 3 else who) (x3 (if ftX g x1 x2 (x1 1) &&& g 59 (x0 3) = 0 then x0 3 else who) - 1))) hl (RF rt)) := hq
          rw [if_pos hc87] at hq
          exact hq
        · have hc87 : ¬ (((ftX g x1 x2 (x1 1)) &&& (g 59 (x0 3))) = 0) := fun z => hc87 ((nI_eqU0 (by omega)).mpr z)
          refine Ev.run 9 (pc' := 112) (lv' := [(4, .int (nI 1)), (3, .int (nI (chC g (up (up x0 4 4294967295) 2 who) x1 x2 x3 who y))), (2, .int (nI who)), (0, .ref 12), (1, .ref 44)]) (st' := [.int (nI who), .ref 44, .ref 12]) (h' := HN (RO g 44 (up (up x0 4 4294967295) 2 who) x1 x2 x3) hl (RF rt)) rfl ?_
          refine Ev.call (a := 38) (as := [.ref 12, .ref 44, .int (nI who)]) (rest := []) (lv0 := [(0, .ref 12), (1, .ref 44), (2, .int (nI who))]) (Q1 := (fun z0 h' => z0 = none ∧ h' = HN (RO g 44 (loX0 (up (up x0 4 4294967295) 2 who) x3 (g 12 2) who) (up x1 1 0) x2 (up x3 who (x3 who - 1))) hl (RF rt))) rfl rfl (K44_lose _ g _ _ hP5 (up (up x0 4 4294967295) 2 who) x1 x2 x3 hx3 who (by omega) ⟨rfl, rfl⟩) (fun r h' hr => ?_)
          obtain ⟨rfl, rfl⟩ := hr
          refine Ev.run 1 (pc' := 117) (lv' := [(4, .int (nI 1)), (3, .int (nI (chC g (up (up x0 4 4294967295) 2 who) x1 x2 x3 who y))), (2, .int (nI who)), (0, .ref 12), (1, .ref 44)]) (st' := [.int (nI 110)]) (h' := HN (RO g 44 (loX0 (up (up x0 4 4294967295) 2 who) x3 (g 12 2) who) (up x1 1 0) x2 (up x3 who (x3 who - 1))) hl (RF rt)) rfl ?_
          refine Ev.ret (v := some (.int (nI 110))) rfl ?_
          unfold plX at hq
          rw [← hwE] at hq
          rw [if_pos (by omega)] at hq
          unfold plX1 at hq
          rw [if_pos hc33] at hq
          rw [if_pos (show (up (up x0 4 4294967295) 2 who) 3 < 2147483648 from (by omega : x0 3 < 2147483648))] at hq
          have hq : Q _ (HN (RO g 44 (loX0 (up (up x0 4 4294967295) 2 who) x3 (g 12 2) (if ftX g x1 x2 (x1 1) &&& g 59 (x0 3) = 0 then x0 3 else who)) (up x1 1 0) x2 (up x3 (if ftX g x1 x2 (x1 1) &&& g 59 (x0 3) = 0 then x0 3 else who) (x3 (if ftX g x1 x2 (x1 1) &&& g 59 (x0 3) = 0 then x0 3 else who) - 1))) hl (RF rt)) := hq
          rw [if_neg hc87] at hq
          exact hq
      · have hc47 : ¬ ((x0 3) < 2147483648) := fun z => hc47 ((nI_geU0 (by omega)).mpr z)
        refine Ev.run 3 (pc' := 53) (lv' := [(3, .int (nI (chC g (up (up x0 4 4294967295) 2 who) x1 x2 x3 who y))), (2, .int (nI who)), (0, .ref 12), (1, .ref 44)]) (st' := [.int (nI who), .ref 44, .ref 12]) (h' := HN (RO g 44 (up (up x0 4 4294967295) 2 who) x1 x2 x3) hl (RF rt)) rfl ?_
        refine Ev.call (a := 38) (as := [.ref 12, .ref 44, .int (nI who)]) (rest := []) (lv0 := [(0, .ref 12), (1, .ref 44), (2, .int (nI who))]) (Q1 := (fun z0 h' => z0 = none ∧ h' = HN (RO g 44 (loX0 (up (up x0 4 4294967295) 2 who) x3 (g 12 2) who) (up x1 1 0) x2 (up x3 who (x3 who - 1))) hl (RF rt))) rfl rfl (K44_lose _ g _ _ hP5 (up (up x0 4 4294967295) 2 who) x1 x2 x3 hx3 who (by omega) ⟨rfl, rfl⟩) (fun r h' hr => ?_)
        obtain ⟨rfl, rfl⟩ := hr
        refine Ev.run 1 (pc' := 58) (lv' := [(3, .int (nI (chC g (up (up x0 4 4294967295) 2 who) x1 x2 x3 who y))), (2, .int (nI who)), (0, .ref 12), (1, .ref 44)]) (st' := [.int (nI 120)]) (h' := HN (RO g 44 (loX0 (up (up x0 4 4294967295) 2 who) x3 (g 12 2) who) (up x1 1 0) x2 (up x3 who (x3 who - 1))) hl (RF rt)) rfl ?_
        refine Ev.ret (v := some (.int (nI 120))) rfl ?_
        unfold plX at hq
        rw [← hwE] at hq
        rw [if_pos (by omega)] at hq
        unfold plX1 at hq
        rw [if_pos hc33] at hq
        rw [if_neg (show ¬ (up (up x0 4 4294967295) 2 who) 3 < 2147483648 from (by omega : ¬ x0 3 < 2147483648))] at hq
        exact hq
    · have hc33 : ¬ ((chC g (up (up x0 4 4294967295) 2 who) x1 x2 x3 who y) = 10) := fun z => hc33 ((nI_eqU (by omega) (by omega)).mpr z)
      refine Ev.run 3 (pc' := 39) (lv' := [(3, .int (nI (chC g (up (up x0 4 4294967295) 2 who) x1 x2 x3 who y))), (2, .int (nI who)), (0, .ref 12), (1, .ref 44)]) (st' := [.int (nI (chC g (up (up x0 4 4294967295) 2 who) x1 x2 x3 who y)), .ref 44, .ref 12]) (h' := HN (RO g 44 (up (up x0 4 4294967295) 2 who) x1 x2 x3) hl (RF rt)) rfl ?_
      refine Ev.call (a := 37) (as := [.ref 12, .ref 44, .int (nI (chC g (up (up x0 4 4294967295) 2 who) x1 x2 x3 who y))]) (rest := []) (lv0 := [(0, .ref 12), (1, .ref 44), (2, .int (nI (chC g (up (up x0 4 4294967295) 2 who) x1 x2 x3 who y)))]) (Q1 := (fun z0 h' => (enX g x1 x2 (chC g (up (up x0 4 4294967295) 2 who) x1 x2 x3 who y) y = true ∧ z0 = some (.int (nI (100 + (chC g (up (up x0 4 4294967295) 2 who) x1 x2 x3 who y)))) ∧ h' = HN (RO g 44 (loX0 (up (up (up x0 4 4294967295) 2 who) 3 ((up (up x0 4 4294967295) 2 who) 2)) x3 (g 12 2) ((up (up x0 4 4294967295) 2 who) 2)) (up (up x1 1 (x1 1 + 1)) 1 0) (up x2 (x1 1) (chC g (up (up x0 4 4294967295) 2 who) x1 x2 x3 who y)) (up x3 ((up (up x0 4 4294967295) 2 who) 2) (x3 ((up (up x0 4 4294967295) 2 who) 2) - 1))) hl (RF rt)) ∨ (enX g x1 x2 (chC g (up (up x0 4 4294967295) 2 who) x1 x2 x3 who y) y = false ∧ z0 = some (.int (nI (chC g (up (up x0 4 4294967295) 2 who) x1 x2 x3 who y))) ∧ h' = HN (RO g 44 (up (up (up (up x0 4 4294967295) 2 who) 3 ((up (up x0 4 4294967295) 2 who) 2)) 2 (fwC x3 (g 12 2) ((up (up x0 4 4294967295) 2 who) 2) (g 12 2) 1)) (up x1 1 (x1 1 + 1)) (up x2 (x1 1) (chC g (up (up x0 4 4294967295) 2 who) x1 x2 x3 who y)) x3) hl (RF rt)))) rfl rfl (K44_add _ g _ _ hI hB hP5 y hT (up (up x0 4 4294967295) 2 who) x1 x2 x3 hx3 hn12 hr (show who ≤ 4 by omega) (chC g (up (up x0 4 4294967295) 2 who) x1 x2 x3 who y) (by omega) (by omega) ⟨fun z => Or.inl ⟨z, rfl, rfl⟩, fun z => Or.inr ⟨z, rfl, rfl⟩⟩) (fun r h' hr => ?_)
      rcases hr with ⟨hen, rfl, rfl⟩ | ⟨hen, rfl, rfl⟩
      · skip
        refine Ev.ret (v := some (.int (nI (100 + (chC g (up (up x0 4 4294967295) 2 who) x1 x2 x3 who y))))) rfl ?_
        unfold plX at hq
        rw [← hwE] at hq
        rw [if_pos (by omega)] at hq
        unfold plX1 at hq
        rw [if_neg hc33] at hq
        unfold plXa at hq
        rw [hen] at hq
        exact hq
      · skip
        refine Ev.ret (v := some (.int (nI (chC g (up (up x0 4 4294967295) 2 who) x1 x2 x3 who y)))) rfl ?_
        unfold plX at hq
        rw [← hwE] at hq
        rw [if_pos (by omega)] at hq
        unfold plX1 at hq
        rw [if_neg hc33] at hq
        unfold plXa at hq
        rw [hen] at hq
        exact hq
  · have hc12 : ¬ (who < 2147483648) := fun z => hc12 ((nI_geU0 (by omega)).mpr z)
    refine Ev.run 1 (pc' := 17) (lv' := [(2, .int (nI who)), (0, .ref 12), (1, .ref 44)]) (st' := [.int (nI 4294967293)]) (h' := HN (RO g 44 (up x0 4 4294967295) x1 x2 x3) hl (RF rt)) rfl ?_
    refine Ev.ret (v := some (.int (nI 4294967293))) rfl ?_
    unfold plX at hq
    rw [← hwE] at hq
    rw [if_neg (by omega)] at hq
    exact hq
theorem K128_play {L : Nat} {xs : Nat → Int32} (d : Nat) (g : Nat → Nat → Nat) (hl : Nat → Nat → Int64) (rt : Nat × Nat × Nat × Nat) (hI : MI g) (hB : CB g) (hP5 : g 12 2 ≤ 5) (y : Nat) (hT : TbC g rt y) (hk59 : ∀ j, j < 5 → g 59 j < 4096) (hlo : ∀ j, j < 7 → g 18 j < 4096) (hPl : CPl g) (x0 x1 x2 x3 : Nat → Nat) (hx3 : ∀ j, j < 5 → x3 j ≤ 99) (hn12 : x1 1 ≤ 12) (hr : ∀ k, k < x1 1 → x2 k ≤ 3) (hx0 : x0 2 ≤ 4) (hx03 : x0 3 ≤ 4 ∨ x0 3 = 4294967295) {Q : Po} (hq : Q (some (.int (nI (plX g y x0 x1 x2 x3).1))) (HN (RO g 128 (plX g y x0 x1 x2 x3).2.1 (plX g y x0 x1 x2 x3).2.2.1 (plX g y x0 x1 x2 x3).2.2.2.1 (plX g y x0 x1 x2 x3).2.2.2.2) hl (RF rt))) : Ev L xs (d + 6) 36 0 [(0, .ref 12), (1, .ref 128)] [] (HN (RO g 128 x0 x1 x2 x3) hl (RF rt)) Q := by
  refine Ev.run 3 (pc' := 5) (lv' := [(0, .ref 12), (1, .ref 128)]) (st' := []) (h' := setI (HN (RO g 128 x0 x1 x2 x3) hl (RF rt)) 128 4 (nI 4294967295)) rfl ?_
  refine Ev.hp (HN_set _ _ _ _ _ _) ?_
  refine Ev.hp (congrArg (fun z => HN z hl (RF rt)) (RO_0 _ _ _ _ _ _ _ _)) ?_
  refine Ev.run 2 (pc' := 7) (lv' := [(0, .ref 12), (1, .ref 128)]) (st' := [.ref 128, .ref 12]) (h' := HN (RO g 128 (up x0 4 4294967295) x1 x2 x3) hl (RF rt)) rfl ?_
  refine Ev.call (a := 34) (as := [.ref 12, .ref 128]) (rest := []) (lv0 := [(0, .ref 12), (1, .ref 128)]) (Q1 := (fun z0 h' => z0 = some (.int (nI (acC (up x0 4 4294967295) x3 (g 12 2)))) ∧ h' = HN (RO g 128 (up x0 4 4294967295) x1 x2 x3) hl (RF rt))) rfl rfl (K128_acting _ g _ _ hP5 (up x0 4 4294967295) x1 x2 x3 hx3 hx0 ⟨rfl, rfl⟩) (fun r h' hr => ?_)
  obtain ⟨rfl, rfl⟩ := hr
  have hac := acC_l5 (up x0 4 4294967295) x3 hP5
  obtain ⟨who, hwE⟩ : ∃ who, who = acC (up x0 4 4294967295) x3 (g 12 2) := ⟨_, rfl⟩
  rw [← hwE] at hac ⊢
  refine Ev.run 3 (pc' := (if 0 ≤ nI who then 18 else 15)) (lv' := [(2, .int (nI who)), (0, .ref 12), (1, .ref 128)]) (st' := []) (h' := HN (RO g 128 (up x0 4 4294967295) x1 x2 x3) hl (RF rt)) rfl ?_
  refine Ev.ite (fun hc12 => ?_) (fun hc12 => ?_)
  · have hc12 : who < 2147483648 := (nI_geU0 (by omega)).mp hc12
    refine Ev.run 3 (pc' := 23) (lv' := [(2, .int (nI who)), (0, .ref 12), (1, .ref 128)]) (st' := []) (h' := setI (HN (RO g 128 (up x0 4 4294967295) x1 x2 x3) hl (RF rt)) 128 2 (nI who)) rfl ?_
    refine Ev.hp (HN_set _ _ _ _ _ _) ?_
    refine Ev.hp (congrArg (fun z => HN z hl (RF rt)) (RO_0 _ _ _ _ _ _ _ _)) ?_
    refine Ev.run 3 (pc' := 26) (lv' := [(2, .int (nI who)), (0, .ref 12), (1, .ref 128)]) (st' := [.int (nI who), .ref 128, .ref 12]) (h' := HN (RO g 128 (up (up x0 4 4294967295) 2 who) x1 x2 x3) hl (RF rt)) rfl ?_
    refine Ev.call (a := 39) (as := [.ref 12, .ref 128, .int (nI who)]) (rest := []) (lv0 := [(0, .ref 12), (1, .ref 128), (2, .int (nI who))]) (Q1 := (fun z0 h' => z0 = some (.int (nI (chC g (up (up x0 4 4294967295) 2 who) x1 x2 x3 who y))) ∧ h' = HN (RO g 128 (up (up x0 4 4294967295) 2 who) x1 x2 x3) hl (RF rt))) rfl rfl (K128_choose _ g _ _ hI hB hP5 y hT hk59 hlo hPl (up (up x0 4 4294967295) 2 who) x1 x2 x3 hx3 hn12 hr (show who ≤ 4 by omega) hx03 who (by omega) ⟨rfl, rfl⟩) (fun r h' hr => ?_)
    obtain ⟨rfl, rfl⟩ := hr
    have hch := chC_ok hI (up (up x0 4 4294967295) 2 who) x1 x2 x3 (who := who) (y := y) (by omega)
    refine Ev.run 4 (pc' := (if nI (chC g (up (up x0 4 4294967295) 2 who) x1 x2 x3 who y) = nI 10 then 43 else 36)) (lv' := [(3, .int (nI (chC g (up (up x0 4 4294967295) 2 who) x1 x2 x3 who y))), (2, .int (nI who)), (0, .ref 12), (1, .ref 128)]) (st' := []) (h' := HN (RO g 128 (up (up x0 4 4294967295) 2 who) x1 x2 x3) hl (RF rt)) rfl ?_
    refine Ev.ite (fun hc33 => ?_) (fun hc33 => ?_)
    · have hc33 : (chC g (up (up x0 4 4294967295) 2 who) x1 x2 x3 who y) = 10 := (nI_eqU (by omega) (by omega)).mp hc33
      refine Ev.run 3 (pc' := (if 0 ≤ nI (x0 3) then 59 else 50)) (lv' := [(3, .int (nI (chC g (up (up x0 4 4294967295) 2 who) x1 x2 x3 who y))), (2, .int (nI who)), (0, .ref 12), (1, .ref 128)]) (st' := []) (h' := HN (RO g 128 (up (up x0 4 4294967295) 2 who) x1 x2 x3) hl (RF rt)) rfl ?_
      refine Ev.ite (fun hc47 => ?_) (fun hc47 => ?_)
      · have hc47 : (x0 3) < 2147483648 := (nI_geU0 (by omega)).mp hc47
        refine Ev.run 7 (pc' := 74) (lv' := [(3, .int (nI (chC g (up (up x0 4 4294967295) 2 who) x1 x2 x3 who y))), (2, .int (nI who)), (0, .ref 12), (1, .ref 128)]) (st' := [.int (nI (x1 1)), .ref 129, .ref 13]) (h' := HN (RO g 128 (up (up x0 4 4294967295) 2 who) x1 x2 x3) hl (RF rt)) rfl ?_
        refine Ev.call (a := 13) (as := [.ref 13, .ref 129, .int (nI (x1 1))]) (rest := []) (lv0 := [(0, .ref 13), (1, .ref 129), (2, .int (nI (x1 1)))]) (Q1 := (fun z0 h' => z0 = some (.int (nI (ftX g x1 x2 (x1 1)))) ∧ h' = HN (RO g 128 (up (up x0 4 4294967295) 2 who) x1 x2 x3) hl (RF rt))) rfl rfl (K_fitting _ (RO g 128 (up (up x0 4 4294967295) 2 who) x1 x2 x3) _ _ (hI.mRO (by decide)) (hB.cRO (by decide)) 129 12 (ln129 rt) (x1 1) (by omega) (show x1 1 ≤ 12 by omega) (fun k => atX_lt hr k) ⟨rfl, rfl⟩) (fun r h' hr => ?_)
        obtain ⟨rfl, rfl⟩ := hr
        have hftx : ftX g x1 x2 (x1 1) < 4096 := bset_12 _ hI.hW
        refine Ev.run 4 (pc' := 85) (lv' := [(3, .int (nI (chC g (up (up x0 4 4294967295) 2 who) x1 x2 x3 who y))), (2, .int (nI who)), (0, .ref 12), (1, .ref 128)]) (st' := [.int (nI (x0 3)), .ref 59, .int (nI (ftX g x1 x2 (x1 1)))]) (h' := HN (RO g 128 (up (up x0 4 4294967295) 2 who) x1 x2 x3) hl (RF rt)) rfl ?_
        have hkl := hk59 (x0 3) (by omega)
        refine Ev_iald rfl rfl (show x0 3 < 5 by omega) (Nat.le_of_ble_eq_true rfl) ?_
        have hand := and_le (ftX g x1 x2 (x1 1)) (g 59 (x0 3))
        refine Ev.run 1 (pc' := 87) (lv' := [(3, .int (nI (chC g (up (up x0 4 4294967295) 2 who) x1 x2 x3 who y))), (2, .int (nI who)), (0, .ref 12), (1, .ref 128)]) (st' := [.int (nI (ftX g x1 x2 (x1 1)) &&& nI (g 59 (x0 3)))]) (h' := HN (RO g 128 (up (up x0 4 4294967295) 2 who) x1 x2 x3) hl (RF rt)) rfl ?_
        refine Ev.topI (nIa _ _) ?_
        refine Ev.run 1 (pc' := (if nI ((ftX g x1 x2 (x1 1)) &&& (g 59 (x0 3))) = 0 then 94 else 90)) (lv' := [(3, .int (nI (chC g (up (up x0 4 4294967295) 2 who) x1 x2 x3 who y))), (2, .int (nI who)), (0, .ref 12), (1, .ref 128)]) (st' := []) (h' := HN (RO g 128 (up (up x0 4 4294967295) 2 who) x1 x2 x3) hl (RF rt)) rfl ?_
        refine Ev.ite (fun hc87 => ?_) (fun hc87 => ?_)
        · have hc87 : ((ftX g x1 x2 (x1 1)) &&& (g 59 (x0 3))) = 0 := (nI_eqU0 (by omega)).mp hc87
          refine Ev.run 8 (pc' := 112) (lv' := [(4, .int (nI 0)), (3, .int (nI (chC g (up (up x0 4 4294967295) 2 who) x1 x2 x3 who y))), (2, .int (nI who)), (0, .ref 12), (1, .ref 128)]) (st' := [.int (nI (x0 3)), .ref 128, .ref 12]) (h' := HN (RO g 128 (up (up x0 4 4294967295) 2 who) x1 x2 x3) hl (RF rt)) rfl ?_
          refine Ev.call (a := 38) (as := [.ref 12, .ref 128, .int (nI (x0 3))]) (rest := []) (lv0 := [(0, .ref 12), (1, .ref 128), (2, .int (nI (x0 3)))]) (Q1 := (fun z0 h' => z0 = none ∧ h' = HN (RO g 128 (loX0 (up (up x0 4 4294967295) 2 who) x3 (g 12 2) (x0 3)) (up x1 1 0) x2 (up x3 (x0 3) (x3 (x0 3) - 1))) hl (RF rt))) rfl rfl (K128_lose _ g _ _ hP5 (up (up x0 4 4294967295) 2 who) x1 x2 x3 hx3 (x0 3) (by omega) ⟨rfl, rfl⟩) (fun r h' hr => ?_)
          obtain ⟨rfl, rfl⟩ := hr
          refine Ev.run 1 (pc' := 117) (lv' := [(4, .int (nI 0)), (3, .int (nI (chC g (up (up x0 4 4294967295) 2 who) x1 x2 x3 who y))), (2, .int (nI who)), (0, .ref 12), (1, .ref 128)]) (st' := [.int (nI 110)]) (h' := HN (RO g 128 (loX0 (up (up x0 4 4294967295) 2 who) x3 (g 12 2) (x0 3)) (up x1 1 0) x2 (up x3 (x0 3) (x3 (x0 3) - 1))) hl (RF rt)) rfl ?_
          refine Ev.ret (v := some (.int (nI 110))) rfl ?_
          unfold plX at hq
          rw [← hwE] at hq
          rw [if_pos (by omega)] at hq
          unfold plX1 at hq
          rw [if_pos hc33] at hq
          rw [if_pos (show (up (up x0 4 4294967295) 2 who) 3 < 2147483648 from (by omega : x0 3 < 2147483648))] at hq
          have hq : Q _ (HN (RO g 128 (loX0 (up (up x0 4 4294967295) 2 who) x3 (g 12 2) (if ftX g x1 x2 (x1 1) &&& g 59 (x0 3) = 0 then x0 3 else who)) (up x1 1 0) x2 (up x3 (if ftX g x1 x2 (x1 1) &&& g 59 (x0 3) = 0 then x0 3 else who) (x3 (if ftX g x1 x2 (x1 1) &&& g 59 (x0 3) = 0 then x0 3 else who) - 1))) hl (RF rt)) := hq
          rw [if_pos hc87] at hq
          exact hq
        · have hc87 : ¬ (((ftX g x1 x2 (x1 1)) &&& (g 59 (x0 3))) = 0) := fun z => hc87 ((nI_eqU0 (by omega)).mpr z)
          refine Ev.run 9 (pc' := 112) (lv' := [(4, .int (nI 1)), (3, .int (nI (chC g (up (up x0 4 4294967295) 2 who) x1 x2 x3 who y))), (2, .int (nI who)), (0, .ref 12), (1, .ref 128)]) (st' := [.int (nI who), .ref 128, .ref 12]) (h' := HN (RO g 128 (up (up x0 4 4294967295) 2 who) x1 x2 x3) hl (RF rt)) rfl ?_
          refine Ev.call (a := 38) (as := [.ref 12, .ref 128, .int (nI who)]) (rest := []) (lv0 := [(0, .ref 12), (1, .ref 128), (2, .int (nI who))]) (Q1 := (fun z0 h' => z0 = none ∧ h' = HN (RO g 128 (loX0 (up (up x0 4 4294967295) 2 who) x3 (g 12 2) who) (up x1 1 0) x2 (up x3 who (x3 who - 1))) hl (RF rt))) rfl rfl (K128_lose _ g _ _ hP5 (up (up x0 4 4294967295) 2 who) x1 x2 x3 hx3 who (by omega) ⟨rfl, rfl⟩) (fun r h' hr => ?_)
          obtain ⟨rfl, rfl⟩ := hr
          refine Ev.run 1 (pc' := 117) (lv' := [(4, .int (nI 1)), (3, .int (nI (chC g (up (up x0 4 4294967295) 2 who) x1 x2 x3 who y))), (2, .int (nI who)), (0, .ref 12), (1, .ref 128)]) (st' := [.int (nI 110)]) (h' := HN (RO g 128 (loX0 (up (up x0 4 4294967295) 2 who) x3 (g 12 2) who) (up x1 1 0) x2 (up x3 who (x3 who - 1))) hl (RF rt)) rfl ?_
          refine Ev.ret (v := some (.int (nI 110))) rfl ?_
          unfold plX at hq
          rw [← hwE] at hq
          rw [if_pos (by omega)] at hq
          unfold plX1 at hq
          rw [if_pos hc33] at hq
          rw [if_pos (show (up (up x0 4 4294967295) 2 who) 3 < 2147483648 from (by omega : x0 3 < 2147483648))] at hq
          have hq : Q _ (HN (RO g 128 (loX0 (up (up x0 4 4294967295) 2 who) x3 (g 12 2) (if ftX g x1 x2 (x1 1) &&& g 59 (x0 3) = 0 then x0 3 else who)) (up x1 1 0) x2 (up x3 (if ftX g x1 x2 (x1 1) &&& g 59 (x0 3) = 0 then x0 3 else who) (x3 (if ftX g x1 x2 (x1 1) &&& g 59 (x0 3) = 0 then x0 3 else who) - 1))) hl (RF rt)) := hq
          rw [if_neg hc87] at hq
          exact hq
      · have hc47 : ¬ ((x0 3) < 2147483648) := fun z => hc47 ((nI_geU0 (by omega)).mpr z)
        refine Ev.run 3 (pc' := 53) (lv' := [(3, .int (nI (chC g (up (up x0 4 4294967295) 2 who) x1 x2 x3 who y))), (2, .int (nI who)), (0, .ref 12), (1, .ref 128)]) (st' := [.int (nI who), .ref 128, .ref 12]) (h' := HN (RO g 128 (up (up x0 4 4294967295) 2 who) x1 x2 x3) hl (RF rt)) rfl ?_
        refine Ev.call (a := 38) (as := [.ref 12, .ref 128, .int (nI who)]) (rest := []) (lv0 := [(0, .ref 12), (1, .ref 128), (2, .int (nI who))]) (Q1 := (fun z0 h' => z0 = none ∧ h' = HN (RO g 128 (loX0 (up (up x0 4 4294967295) 2 who) x3 (g 12 2) who) (up x1 1 0) x2 (up x3 who (x3 who - 1))) hl (RF rt))) rfl rfl (K128_lose _ g _ _ hP5 (up (up x0 4 4294967295) 2 who) x1 x2 x3 hx3 who (by omega) ⟨rfl, rfl⟩) (fun r h' hr => ?_)
        obtain ⟨rfl, rfl⟩ := hr
        refine Ev.run 1 (pc' := 58) (lv' := [(3, .int (nI (chC g (up (up x0 4 4294967295) 2 who) x1 x2 x3 who y))), (2, .int (nI who)), (0, .ref 12), (1, .ref 128)]) (st' := [.int (nI 120)]) (h' := HN (RO g 128 (loX0 (up (up x0 4 4294967295) 2 who) x3 (g 12 2) who) (up x1 1 0) x2 (up x3 who (x3 who - 1))) hl (RF rt)) rfl ?_
        refine Ev.ret (v := some (.int (nI 120))) rfl ?_
        unfold plX at hq
        rw [← hwE] at hq
        rw [if_pos (by omega)] at hq
        unfold plX1 at hq
        rw [if_pos hc33] at hq
        rw [if_neg (show ¬ (up (up x0 4 4294967295) 2 who) 3 < 2147483648 from (by omega : ¬ x0 3 < 2147483648))] at hq
        exact hq
    · have hc33 : ¬ ((chC g (up (up x0 4 4294967295) 2 who) x1 x2 x3 who y) = 10) := fun z => hc33 ((nI_eqU (by omega) (by omega)).mpr z)
      refine Ev.run 3 (pc' := 39) (lv' := [(3, .int (nI (chC g (up (up x0 4 4294967295) 2 who) x1 x2 x3 who y))), (2, .int (nI who)), (0, .ref 12), (1, .ref 128)]) (st' := [.int (nI (chC g (up (up x0 4 4294967295) 2 who) x1 x2 x3 who y)), .ref 128, .ref 12]) (h' := HN (RO g 128 (up (up x0 4 4294967295) 2 who) x1 x2 x3) hl (RF rt)) rfl ?_
      refine Ev.call (a := 37) (as := [.ref 12, .ref 128, .int (nI (chC g (up (up x0 4 4294967295) 2 who) x1 x2 x3 who y))]) (rest := []) (lv0 := [(0, .ref 12), (1, .ref 128), (2, .int (nI (chC g (up (up x0 4 4294967295) 2 who) x1 x2 x3 who y)))]) (Q1 := (fun z0 h' => (enX g x1 x2 (chC g (up (up x0 4 4294967295) 2 who) x1 x2 x3 who y) y = true ∧ z0 = some (.int (nI (100 + (chC g (up (up x0 4 4294967295) 2 who) x1 x2 x3 who y)))) ∧ h' = HN (RO g 128 (loX0 (up (up (up x0 4 4294967295) 2 who) 3 ((up (up x0 4 4294967295) 2 who) 2)) x3 (g 12 2) ((up (up x0 4 4294967295) 2 who) 2)) (up (up x1 1 (x1 1 + 1)) 1 0) (up x2 (x1 1) (chC g (up (up x0 4 4294967295) 2 who) x1 x2 x3 who y)) (up x3 ((up (up x0 4 4294967295) 2 who) 2) (x3 ((up (up x0 4 4294967295) 2 who) 2) - 1))) hl (RF rt)) ∨ (enX g x1 x2 (chC g (up (up x0 4 4294967295) 2 who) x1 x2 x3 who y) y = false ∧ z0 = some (.int (nI (chC g (up (up x0 4 4294967295) 2 who) x1 x2 x3 who y))) ∧ h' = HN (RO g 128 (up (up (up (up x0 4 4294967295) 2 who) 3 ((up (up x0 4 4294967295) 2 who) 2)) 2 (fwC x3 (g 12 2) ((up (up x0 4 4294967295) 2 who) 2) (g 12 2) 1)) (up x1 1 (x1 1 + 1)) (up x2 (x1 1) (chC g (up (up x0 4 4294967295) 2 who) x1 x2 x3 who y)) x3) hl (RF rt)))) rfl rfl (K128_add _ g _ _ hI hB hP5 y hT (up (up x0 4 4294967295) 2 who) x1 x2 x3 hx3 hn12 hr (show who ≤ 4 by omega) (chC g (up (up x0 4 4294967295) 2 who) x1 x2 x3 who y) (by omega) (by omega) ⟨fun z => Or.inl ⟨z, rfl, rfl⟩, fun z => Or.inr ⟨z, rfl, rfl⟩⟩) (fun r h' hr => ?_)
      rcases hr with ⟨hen, rfl, rfl⟩ | ⟨hen, rfl, rfl⟩
      · skip
        refine Ev.ret (v := some (.int (nI (100 + (chC g (up (up x0 4 4294967295) 2 who) x1 x2 x3 who y))))) rfl ?_
        unfold plX at hq
        rw [← hwE] at hq
        rw [if_pos (by omega)] at hq
        unfold plX1 at hq
        rw [if_neg hc33] at hq
        unfold plXa at hq
        rw [hen] at hq
        exact hq
      · skip
        refine Ev.ret (v := some (.int (nI (chC g (up (up x0 4 4294967295) 2 who) x1 x2 x3 who y)))) rfl ?_
        unfold plX at hq
        rw [← hwE] at hq
        rw [if_pos (by omega)] at hq
        unfold plX1 at hq
        rw [if_neg hc33] at hq
        unfold plXa at hq
        rw [hen] at hq
        exact hq
  · have hc12 : ¬ (who < 2147483648) := fun z => hc12 ((nI_geU0 (by omega)).mpr z)
    refine Ev.run 1 (pc' := 17) (lv' := [(2, .int (nI who)), (0, .ref 12), (1, .ref 128)]) (st' := [.int (nI 4294967293)]) (h' := HN (RO g 128 (up x0 4 4294967295) x1 x2 x3) hl (RF rt)) rfl ?_
    refine Ev.ret (v := some (.int (nI 4294967293))) rfl ?_
    unfold plX at hq
    rw [← hwE] at hq
    rw [if_neg (by omega)] at hq
    exact hq
