/-! the class's reader: factors and expressions, the deepest first -/
theorem pk_nx {g : Nat → Nat → Nat} {p c : Nat} (h0 : c ≠ 0) (h1 : c < 4294967295) (h : nxC g p = c) : pkS g p = c := (nx_pk p h0 h1).mp h
theorem nx_lt {g : Nat → Nat → Nat} {p : Nat} (h : nxC g p ≠ 0) : p < g 166 17 := by
  unfold nxC at h
  by_cases z : p < g 166 17
  · exact z
  · rw [if_neg z] at h
    exact absurd rfl h
theorem pk_nn {g : Nat → Nat → Nat} {p c : Nat} (h0 : c ≠ 0) (h1 : c < 4294967295) (h : ¬ nxC g p = c) : ¬ pkS g p = c := fun z => h ((nx_pk p h0 h1).mpr z)
theorem plT_ln (l : List Nat) (s : Nat) : (plT l s).length ≤ l.length + 1 := by
  unfold plT
  split
  · rw [List.length_append]; exact Nat.le_refl _
  · omega
theorem K_endX {L : Nat} {xs : Nat → Int32} (d : Nat) (g : Nat → Nat → Nat) (hl : Nat → Nat → Int64) (T c e : Nat) (hT : TbT T) (hX : TX g) (p le li : Nat) (l : List Nat) (o : Bool) (hl100 : l.length ≤ 100) {Q : Po} (hq : ∀ l', l'.length ≤ 100 → Q none (HN (RT g T p 1 le li l') hl (RF (3, T, c, e)))) : Ev L xs (d + 1) 53 102 [(2, .int (nI (bn o))), (0, .ref 5)] [] (HN (RT g T p 1 le li l) hl (RF (3, T, c, e))) Q := by
  have hN := hX.1
  refine Ev.run 1 (pc' := 103) (lv' := [(2, .int (nI (bn o))), (0, .ref 5)]) (st' := [.int (nI (bn o))]) (h' := HN (RT g T p 1 le li l) hl (RF (3, T, c, e))) rfl ?_
  refine Ev_bn (fun hb103 => ?_) (fun hb103 => ?_)
  · skip
    refine Ev.run 4 (pc' := 112) (lv' := [(2, .int (nI (bn o))), (0, .ref 5)]) (st' := [.int (nI 4294967294), .ref T]) (h' := HN (RT g T p 1 le li l) hl (RF (3, T, c, e))) rfl ?_
    refine Ev_callV (a := 65) (as := [.ref T, .int (nI 4294967294)]) (rest := []) (lv0 := [(0, .ref T), (1, .int (nI 4294967294))]) (Q1 := (fun z0 h' => z0 = none ∧ h' = HN (RT g T p 1 le li (plT l 4294967172)) hl (RF (3, T, c, e)))) rfl rfl rfl rfl rfl hT.1.k rfl rfl rfl (K_tput _ _ _ _ _ _ hT hX p le li l 1 4294967294 4294967172 rfl (by omega) ⟨rfl, rfl⟩) (fun r h' hr => ?_)
    obtain ⟨rfl, rfl⟩ := hr
    refine Ev.ret (v := none) rfl ?_
    first | exact hq _ hl100 | exact hq _ (plT_le _ hl100)
  · skip
    refine Ev.run 1 (pc' := 115) (lv' := [(2, .int (nI (bn o))), (0, .ref 5)]) (st' := []) (h' := HN (RT g T p 1 le li l) hl (RF (3, T, c, e))) rfl ?_
    refine Ev.ret (v := none) rfl ?_
    first | exact hq _ hl100 | exact hq _ (plT_le _ hl100)
theorem K_endO {L : Nat} {xs : Nat → Int32} (d : Nat) (g : Nat → Nat → Nat) (hl : Nat → Nat → Int64) (T c e : Nat) (hT : TbT T) (hX : TX g) (p le li : Nat) (l : List Nat) (o : Bool) (hl100 : l.length + (oL o).length ≤ 100) {Q : Po} (hq : Q none (HN (RT g T p 0 le li (l ++ oL o)) hl (RF (3, T, c, e)))) : Ev L xs (d + 1) 53 102 [(2, .int (nI (bn o))), (0, .ref 5)] [] (HN (RT g T p 0 le li l) hl (RF (3, T, c, e))) Q := by
  have hN := hX.1
  refine Ev.run 1 (pc' := 103) (lv' := [(2, .int (nI (bn o))), (0, .ref 5)]) (st' := [.int (nI (bn o))]) (h' := HN (RT g T p 0 le li l) hl (RF (3, T, c, e))) rfl ?_
  refine Ev_bn (fun hb103 => ?_) (fun hb103 => ?_)
  · skip
    refine Ev.run 4 (pc' := 112) (lv' := [(2, .int (nI (bn o))), (0, .ref 5)]) (st' := [.int (nI 4294967294), .ref T]) (h' := HN (RT g T p 0 le li l) hl (RF (3, T, c, e))) rfl ?_
    refine Ev_callV (a := 65) (as := [.ref T, .int (nI 4294967294)]) (rest := []) (lv0 := [(0, .ref T), (1, .int (nI 4294967294))]) (Q1 := (fun z0 h' => z0 = none ∧ h' = HN (RT g T p 0 le li (plT l 4294967172)) hl (RF (3, T, c, e)))) rfl rfl rfl rfl rfl hT.1.k rfl rfl rfl (K_tput _ _ _ _ _ _ hT hX p le li l 0 4294967294 4294967172 rfl (by omega) ⟨rfl, rfl⟩) (fun r h' hr => ?_)
    obtain ⟨rfl, rfl⟩ := hr
    refine Ev.ret (v := none) rfl ?_
    first
      | (rw [hb103] at hq hl100; have h3 : (oL true).length = 1 := rfl; rw [plT_lt (by omega)]; exact hq)
      | (rw [hb103] at hq; rw [show oL false = [] from rfl, List.append_nil] at hq; exact hq)
  · skip
    refine Ev.run 1 (pc' := 115) (lv' := [(2, .int (nI (bn o))), (0, .ref 5)]) (st' := []) (h' := HN (RT g T p 0 le li l) hl (RF (3, T, c, e))) rfl ?_
    refine Ev.ret (v := none) rfl ?_
    first
      | (rw [hb103] at hq hl100; have h3 : (oL true).length = 1 := rfl; rw [plT_lt (by omega)]; exact hq)
      | (rw [hb103] at hq; rw [show oL false = [] from rfl, List.append_nil] at hq; exact hq)
theorem K_fac4_ {L : Nat} {xs : Nat → Int32} (d : Nat) (g : Nat → Nat → Nat) (hl : Nat → Nat → Int64) (T c e : Nat) (hT : TbT T) (hX : TX g) (p le li : Nat) (l : List Nat) (hp : p ≤ g 166 17) (hlp : l.length ≤ p) {Q : Po} (hq : (∀ q lf, FK g 4 p q lf → Q none (HN (RT g T q 0 le li (l ++ lf)) hl (RF (3, T, c, e)))) ∧ (∀ q l', FX g 4 p q → l'.length ≤ 100 → Q none (HN (RT g T q 1 le li l') hl (RF (3, T, c, e))))) : Ev L xs (d + 7) 54 0 [(0, .ref 5), (1, .int (nI 4))] [] (HN (RT g T p 0 le li l) hl (RF (3, T, c, e))) Q := by
  have hN := hX.1
  have hnx := nx_le hX p
  refine Ev.run 12 (pc' := 99) (lv' := [(2, .int (nI 0)), (0, .ref 5), (1, .int (nI 4))]) (st' := []) (h' := HN (RT g T p 0 le li l) hl (RF (3, T, c, e))) rfl ?_
  refine Ev.wk (Ext.cons rfl rfl (Ext.nil rfl)) (K_facT (d + 0) _ _ _ _ _ hT hX p le li l (by omega) (by omega) ⟨fun cd q hz => ?_, fun q hz l' hl' => ?_⟩)
  · have hF : FK g 4 p q [cd] := FK.t hp hz
    have hF1 := hF.1
    have hF2 := hF.2.1
    rw [plT_lt (by omega)]
    exact hq.1 _ _ hF
  · exact hq.2 _ _ (FX.t hp hz (by decide) (fun h4 => by omega)) hl'
theorem K_turn4 {L : Nat} {xs : Nat → Int32} (d : Nat) (g : Nat → Nat → Nat) (hl : Nat → Nat → Int64) (T c e : Nat) (hT : TbT T) (hX : TX g) (p le li : Nat) (l : List Nat) (k : Nat) (o : Bool) (hk : k < 100) (hp : p ≤ g 166 17) (hlp : l.length + (oL o).length ≤ p) {Q : Po} (hq : (∀ q lf, pkS g p = 38 → FK g 4 (p + 1) q lf → Ev L xs (d + 8) 53 9 [(3, .int (nI (k + 1))), (2, .int (nI (bn o))), (0, .ref 5), (1, .int (nI 4))] [] (HN (RT g T q 0 le li (plT (l ++ lf) 4294967258)) hl (RF (3, T, c, e))) Q) ∧ (∀ q l', pkS g p = 38 → FX g 4 (p + 1) q → l'.length ≤ 100 → Ev L xs (d + 8) 53 102 [(2, .int (nI (bn o))), (0, .ref 5)] [] (HN (RT g T q 1 le li l') hl (RF (3, T, c, e))) Q) ∧ (o = true → ∀ q lf, pkS g p = 124 → FK g 4 (p + 1) q lf → Ev L xs (d + 8) 53 9 [(3, .int (nI (k + 1))), (2, .int (nI 1)), (0, .ref 5), (1, .int (nI 4))] [] (HN (RT g T q 0 le li (plT l 4294967172 ++ lf)) hl (RF (3, T, c, e))) Q) ∧ (o = false → ∀ q lf, pkS g p = 124 → FK g 4 (p + 1) q lf → Ev L xs (d + 8) 53 9 [(3, .int (nI (k + 1))), (2, .int (nI 1)), (0, .ref 5), (1, .int (nI 4))] [] (HN (RT g T q 0 le li (l ++ lf)) hl (RF (3, T, c, e))) Q) ∧ (∀ q l', pkS g p = 124 → FX g 4 (p + 1) q → l'.length ≤ 100 → Ev L xs (d + 8) 53 102 [(2, .int (nI 1)), (0, .ref 5)] [] (HN (RT g T q 1 le li l') hl (RF (3, T, c, e))) Q) ∧ (¬ (pkS g p = 38 ∨ pkS g p = 124) → Ev L xs (d + 8) 53 102 [(2, .int (nI (bn o))), (0, .ref 5)] [] (HN (RT g T p 0 le li l) hl (RF (3, T, c, e))) Q)) : Ev L xs (d + 8) 53 9 [(3, .int (nI k)), (2, .int (nI (bn o))), (0, .ref 5), (1, .int (nI 4))] [] (HN (RT g T p 0 le li l) hl (RF (3, T, c, e))) Q := by
  have hN := hX.1
  have hnx := nx_le hX p
  refine Ev.run 3 (pc' := (if nI 100 ≤ nI k then 102 else 15)) (lv' := [(3, .int (nI k)), (2, .int (nI (bn o))), (0, .ref 5), (1, .int (nI 4))]) (st' := []) (h' := HN (RT g T p 0 le li l) hl (RF (3, T, c, e))) rfl ?_
  refine Ev.ite (fun hc12 => ?_) (fun hc12 => ?_)
  · have hc12 : 100 ≤ k := (nI_leI (by omega) (by omega)).mp hc12
    first
      | exact Ev.wk (Ext.cons rfl rfl (Ext.cons rfl rfl (Ext.nil rfl))) (hq.2.1 _ _ (pk_nx (by decide) (by decide) hc28) hFa (by first | exact hla | exact plT_le _ hla))
      | exact Ev.wk (Ext.cons rfl rfl (Ext.cons rfl rfl (Ext.nil rfl))) (hq.2.2.2.2.1 _ _ (pk_nx (by decide) (by decide) hc63) hFa hla)
      | exact Ev.wk (Ext.cons rfl rfl (Ext.cons rfl rfl (Ext.nil rfl))) (hq.2.2.2.2.2 (fun z => z.elim (pk_nn (by decide) (by decide) hc28) (pk_nn (by decide) (by decide) hc63)))
      | (exfalso; omega)
  · have hc12 : ¬ (100 ≤ k) := fun z => hc12 ((nI_leI (by omega) (by omega)).mpr z)
    refine Ev.run 4 (pc' := 23) (lv' := [(3, .int (nI k)), (2, .int (nI (bn o))), (0, .ref 5), (1, .int (nI 4))]) (st' := [.ref 5]) (h' := HN (RT g T p 0 le li l) hl (RF (3, T, c, e))) rfl ?_
    refine Ev.call (a := 59) (as := [.ref 5]) (rest := []) (lv0 := [(0, .ref 5)]) (Q1 := (fun z0 h' => z0 = some (.int (nI (nxC g p))) ∧ h' = HN (RT g T p 0 le li l) hl (RF (3, T, c, e)))) rfl rfl (K_next _ _ _ _ _ _ hT hX p _ _ l 0 (by omega) ⟨rfl, rfl⟩) (fun r h' hr => ?_)
    obtain ⟨rfl, rfl⟩ := hr
    refine Ev.run 2 (pc' := (if nI (nxC g p) = nI 38 then 31 else 57)) (lv' := [(3, .int (nI k)), (2, .int (nI (bn o))), (0, .ref 5), (1, .int (nI 4))]) (st' := []) (h' := HN (RT g T p 0 le li l) hl (RF (3, T, c, e))) rfl ?_
    refine Ev.ite (fun hc28 => ?_) (fun hc28 => ?_)
    · have hc28 : (nxC g p) = 38 := (nI_eqU (by omega) (by omega)).mp hc28
      refine Ev.run 5 (pc' := 38) (lv' := [(3, .int (nI k)), (2, .int (nI (bn o))), (0, .ref 5), (1, .int (nI 4))]) (st' := [.int (nI p + nI 1), .ref 5]) (h' := HN (RT g T p 0 le li l) hl (RF (3, T, c, e))) rfl ?_
      refine Ev.topI (nI_add _ _) ?_
      refine Ev.run 1 (pc' := 41) (lv' := [(3, .int (nI k)), (2, .int (nI (bn o))), (0, .ref 5), (1, .int (nI 4))]) (st' := []) (h' := setI (HN (RT g T p 0 le li l) hl (RF (3, T, c, e))) 5 2 (nI (p + 1))) rfl ?_
      refine Ev.hp (HN_set _ _ _ _ _ _) ?_
      refine Ev.hp (congrArg (fun z => HN z hl (RF (3, T, c, e))) (RT_52 _ _ _ _ _ _ _)) ?_
      refine Ev.run 2 (pc' := 43) (lv' := [(3, .int (nI k)), (2, .int (nI (bn o))), (0, .ref 5), (1, .int (nI 4))]) (st' := [.int (nI 4), .ref 5]) (h' := HN (RT g T (p + 1) 0 le li l) hl (RF (3, T, c, e))) rfl ?_
      refine Ev.call (a := 54) (as := [.ref 5, .int (nI 4)]) (rest := []) (lv0 := [(0, .ref 5), (1, .int (nI 4))]) (Q1 := (fun z0 h' => (∃ (q : Nat) (lf : List Nat), FK g 4 (p + 1) q lf ∧ z0 = none ∧ h' = HN (RT g T q 0 le li (l ++ lf)) hl (RF (3, T, c, e))) ∨ (∃ (q : Nat) (l' : List Nat), FX g 4 (p + 1) q ∧ l'.length ≤ 100 ∧ z0 = none ∧ h' = HN (RT g T q 1 le li l') hl (RF (3, T, c, e))))) rfl rfl (K_fac4_ _ _ _ _ _ _ hT hX (p + 1) le li l (by first | omega | exact nx_lt (by omega)) (by first | omega | exact Nat.le_trans (plT_ln _ _) (by omega)) ⟨fun q lf hz => Or.inl ⟨q, lf, hz, rfl, rfl⟩, fun q l' hz hz2 => Or.inr ⟨q, l', hz, hz2, rfl, rfl⟩⟩) (fun r h' hr => ?_)
      rcases hr with ⟨qa, lfa, hFa, rfl, rfl⟩ | ⟨qa, la, hFa, hla, rfl, rfl⟩
      · skip
        have hF1a := hFa.1
        have hF2a := hFa.2.1
        have hF3a := hFa.2.2.1
        have hlla : (l ++ lfa).length = (l).length + lfa.length := List.length_append
        refine Ev.run 3 (pc' := 51) (lv' := [(3, .int (nI k)), (2, .int (nI (bn o))), (0, .ref 5), (1, .int (nI 4))]) (st' := [.int (nI 4294967295), .ref T]) (h' := HN (RT g T qa 0 le li (l ++ lfa)) hl (RF (3, T, c, e))) rfl ?_
        refine Ev_callV (a := 65) (as := [.ref T, .int (nI 4294967295)]) (rest := []) (lv0 := [(0, .ref T), (1, .int (nI 4294967295))]) (Q1 := (fun z0 h' => z0 = none ∧ h' = HN (RT g T qa 0 le li (plT (l ++ lfa) 4294967258)) hl (RF (3, T, c, e)))) rfl rfl rfl rfl rfl hT.1.k rfl rfl rfl (K_tput _ _ _ _ _ _ hT hX qa le li (l ++ lfa) 0 4294967295 4294967258 rfl (by first | omega | (rw [List.length_append]; omega)) ⟨rfl, rfl⟩) (fun r h' hr => ?_)
        obtain ⟨rfl, rfl⟩ := hr
        refine Ev.run 2 (pc' := 99) (lv' := [(3, .int (nI k + 1)), (2, .int (nI (bn o))), (0, .ref 5), (1, .int (nI 4))]) (st' := []) (h' := HN (RT g T qa 0 le li (plT (l ++ lfa) 4294967258)) hl (RF (3, T, c, e))) rfl ?_
        refine Ev.lvE (congrArg (fun z => (3, Value.int z) :: [(2, .int (nI (bn o))), (0, .ref 5), (1, .int (nI 4))]) (nI_1 _)) ?_
        refine Ev.run 1 (pc' := 9) (lv' := [(3, .int (nI (k + 1))), (2, .int (nI (bn o))), (0, .ref 5), (1, .int (nI 4))]) (st' := []) (h' := HN (RT g T qa 0 le li (plT (l ++ lfa) 4294967258)) hl (RF (3, T, c, e))) rfl ?_
        first
          | exact Ev.wk (Ext.cons rfl rfl (Ext.cons rfl rfl (Ext.cons rfl rfl (Ext.cons rfl rfl (Ext.nil rfl))))) (hq.1 _ _ (pk_nx (by decide) (by decide) hc28) hFa)
          | exact Ev.wk (Ext.cons rfl rfl (Ext.cons rfl rfl (Ext.cons rfl rfl (Ext.cons rfl rfl (Ext.nil rfl))))) (hq.2.2.1 (by assumption) _ _ (pk_nx (by decide) (by decide) hc63) hFa)
          | exact Ev.wk (Ext.cons rfl rfl (Ext.cons rfl rfl (Ext.cons rfl rfl (Ext.cons rfl rfl (Ext.nil rfl))))) (hq.2.2.2.1 (by assumption) _ _ (pk_nx (by decide) (by decide) hc63) hFa)
          | (exfalso; omega)
      · skip
        have hF2a := hFa.2.1
        refine Ev.run 3 (pc' := 51) (lv' := [(3, .int (nI k)), (2, .int (nI (bn o))), (0, .ref 5), (1, .int (nI 4))]) (st' := [.int (nI 4294967295), .ref T]) (h' := HN (RT g T qa 1 le li la) hl (RF (3, T, c, e))) rfl ?_
        refine Ev_callV (a := 65) (as := [.ref T, .int (nI 4294967295)]) (rest := []) (lv0 := [(0, .ref T), (1, .int (nI 4294967295))]) (Q1 := (fun z0 h' => z0 = none ∧ h' = HN (RT g T qa 1 le li (plT la 4294967258)) hl (RF (3, T, c, e)))) rfl rfl rfl rfl rfl hT.1.k rfl rfl rfl (K_tput _ _ _ _ _ _ hT hX qa le li la 1 4294967295 4294967258 rfl (by first | omega | (rw [List.length_append]; omega)) ⟨rfl, rfl⟩) (fun r h' hr => ?_)
        obtain ⟨rfl, rfl⟩ := hr
        refine Ev.run 2 (pc' := 99) (lv' := [(3, .int (nI k + 1)), (2, .int (nI (bn o))), (0, .ref 5), (1, .int (nI 4))]) (st' := []) (h' := HN (RT g T qa 1 le li (plT la 4294967258)) hl (RF (3, T, c, e))) rfl ?_
        refine Ev.lvE (congrArg (fun z => (3, Value.int z) :: [(2, .int (nI (bn o))), (0, .ref 5), (1, .int (nI 4))]) (nI_1 _)) ?_
        refine Ev.run 1 (pc' := 9) (lv' := [(3, .int (nI (k + 1))), (2, .int (nI (bn o))), (0, .ref 5), (1, .int (nI 4))]) (st' := []) (h' := HN (RT g T qa 1 le li (plT la 4294967258)) hl (RF (3, T, c, e))) rfl ?_
        refine Ev.run 3 (pc' := (if nI 100 ≤ nI (k + 1) then 102 else 15)) (lv' := [(3, .int (nI (k + 1))), (2, .int (nI (bn o))), (0, .ref 5), (1, .int (nI 4))]) (st' := []) (h' := HN (RT g T qa 1 le li (plT la 4294967258)) hl (RF (3, T, c, e))) rfl ?_
        refine Ev.ite (fun hc12 => ?_) (fun hc12 => ?_)
        · have hc12 : 100 ≤ (k + 1) := (nI_leI (by omega) (by omega)).mp hc12
          first
            | exact Ev.wk (Ext.cons rfl rfl (Ext.cons rfl rfl (Ext.nil rfl))) (hq.2.1 _ _ (pk_nx (by decide) (by decide) hc28) hFa (by first | exact hla | exact plT_le _ hla))
            | exact Ev.wk (Ext.cons rfl rfl (Ext.cons rfl rfl (Ext.nil rfl))) (hq.2.2.2.2.1 _ _ (pk_nx (by decide) (by decide) hc63) hFa hla)
            | exact Ev.wk (Ext.cons rfl rfl (Ext.cons rfl rfl (Ext.nil rfl))) (hq.2.2.2.2.2 (fun z => z.elim (pk_nn (by decide) (by decide) hc28) (pk_nn (by decide) (by decide) hc63)))
            | (exfalso; omega)
        · have hc12 : ¬ (100 ≤ (k + 1)) := fun z => hc12 ((nI_leI (by omega) (by omega)).mpr z)
          refine Ev.run 3 (pc' := 102) (lv' := [(3, .int (nI (k + 1))), (2, .int (nI (bn o))), (0, .ref 5), (1, .int (nI 4))]) (st' := []) (h' := HN (RT g T qa 1 le li (plT la 4294967258)) hl (RF (3, T, c, e))) rfl ?_
          first
            | exact Ev.wk (Ext.cons rfl rfl (Ext.cons rfl rfl (Ext.nil rfl))) (hq.2.1 _ _ (pk_nx (by decide) (by decide) hc28) hFa (by first | exact hla | exact plT_le _ hla))
            | exact Ev.wk (Ext.cons rfl rfl (Ext.cons rfl rfl (Ext.nil rfl))) (hq.2.2.2.2.1 _ _ (pk_nx (by decide) (by decide) hc63) hFa hla)
            | exact Ev.wk (Ext.cons rfl rfl (Ext.cons rfl rfl (Ext.nil rfl))) (hq.2.2.2.2.2 (fun z => z.elim (pk_nn (by decide) (by decide) hc28) (pk_nn (by decide) (by decide) hc63)))
            | (exfalso; omega)
    · have hc28 : ¬ ((nxC g p) = 38) := fun z => hc28 ((nI_eqU (by omega) (by omega)).mpr z)
      refine Ev.run 1 (pc' := 58) (lv' := [(3, .int (nI k)), (2, .int (nI (bn o))), (0, .ref 5), (1, .int (nI 4))]) (st' := [.ref 5]) (h' := HN (RT g T p 0 le li l) hl (RF (3, T, c, e))) rfl ?_
      refine Ev.call (a := 59) (as := [.ref 5]) (rest := []) (lv0 := [(0, .ref 5)]) (Q1 := (fun z0 h' => z0 = some (.int (nI (nxC g p))) ∧ h' = HN (RT g T p 0 le li l) hl (RF (3, T, c, e)))) rfl rfl (K_next _ _ _ _ _ _ hT hX p _ _ l 0 (by omega) ⟨rfl, rfl⟩) (fun r h' hr => ?_)
      obtain ⟨rfl, rfl⟩ := hr
      refine Ev.run 2 (pc' := (if nI (nxC g p) = nI 124 then 66 else 102)) (lv' := [(3, .int (nI k)), (2, .int (nI (bn o))), (0, .ref 5), (1, .int (nI 4))]) (st' := []) (h' := HN (RT g T p 0 le li l) hl (RF (3, T, c, e))) rfl ?_
      refine Ev.ite (fun hc63 => ?_) (fun hc63 => ?_)
      · have hc63 : (nxC g p) = 124 := (nI_eqU (by omega) (by omega)).mp hc63
        refine Ev.run 5 (pc' := 73) (lv' := [(3, .int (nI k)), (2, .int (nI (bn o))), (0, .ref 5), (1, .int (nI 4))]) (st' := [.int (nI p + nI 1), .ref 5]) (h' := HN (RT g T p 0 le li l) hl (RF (3, T, c, e))) rfl ?_
        refine Ev.topI (nI_add _ _) ?_
        refine Ev.run 1 (pc' := 76) (lv' := [(3, .int (nI k)), (2, .int (nI (bn o))), (0, .ref 5), (1, .int (nI 4))]) (st' := []) (h' := setI (HN (RT g T p 0 le li l) hl (RF (3, T, c, e))) 5 2 (nI (p + 1))) rfl ?_
        refine Ev.hp (HN_set _ _ _ _ _ _) ?_
        refine Ev.hp (congrArg (fun z => HN z hl (RF (3, T, c, e))) (RT_52 _ _ _ _ _ _ _)) ?_
        refine Ev.run 1 (pc' := 77) (lv' := [(3, .int (nI k)), (2, .int (nI (bn o))), (0, .ref 5), (1, .int (nI 4))]) (st' := [.int (nI (bn o))]) (h' := HN (RT g T (p + 1) 0 le li l) hl (RF (3, T, c, e))) rfl ?_
        refine Ev_bn (fun hb77 => ?_) (fun hb77 => ?_)
        · skip
          refine Ev.run 4 (pc' := 86) (lv' := [(3, .int (nI k)), (2, .int (nI (bn o))), (0, .ref 5), (1, .int (nI 4))]) (st' := [.int (nI 4294967294), .ref T]) (h' := HN (RT g T (p + 1) 0 le li l) hl (RF (3, T, c, e))) rfl ?_
          refine Ev_callV (a := 65) (as := [.ref T, .int (nI 4294967294)]) (rest := []) (lv0 := [(0, .ref T), (1, .int (nI 4294967294))]) (Q1 := (fun z0 h' => z0 = none ∧ h' = HN (RT g T (p + 1) 0 le li (plT l 4294967172)) hl (RF (3, T, c, e)))) rfl rfl rfl rfl rfl hT.1.k rfl rfl rfl (K_tput _ _ _ _ _ _ hT hX (p + 1) le li l 0 4294967294 4294967172 rfl (by first | omega | (rw [List.length_append]; omega)) ⟨rfl, rfl⟩) (fun r h' hr => ?_)
          obtain ⟨rfl, rfl⟩ := hr
          refine Ev.run 4 (pc' := 93) (lv' := [(2, .int (nI 1)), (3, .int (nI k)), (0, .ref 5), (1, .int (nI 4))]) (st' := [.int (nI 4), .ref 5]) (h' := HN (RT g T (p + 1) 0 le li (plT l 4294967172)) hl (RF (3, T, c, e))) rfl ?_
          refine Ev.call (a := 54) (as := [.ref 5, .int (nI 4)]) (rest := []) (lv0 := [(0, .ref 5), (1, .int (nI 4))]) (Q1 := (fun z0 h' => (∃ (q : Nat) (lf : List Nat), FK g 4 (p + 1) q lf ∧ z0 = none ∧ h' = HN (RT g T q 0 le li ((plT l 4294967172) ++ lf)) hl (RF (3, T, c, e))) ∨ (∃ (q : Nat) (l' : List Nat), FX g 4 (p + 1) q ∧ l'.length ≤ 100 ∧ z0 = none ∧ h' = HN (RT g T q 1 le li l') hl (RF (3, T, c, e))))) rfl rfl (K_fac4_ _ _ _ _ _ _ hT hX (p + 1) le li (plT l 4294967172) (by first | omega | exact nx_lt (by omega)) (by first | omega | exact Nat.le_trans (plT_ln _ _) (by omega)) ⟨fun q lf hz => Or.inl ⟨q, lf, hz, rfl, rfl⟩, fun q l' hz hz2 => Or.inr ⟨q, l', hz, hz2, rfl, rfl⟩⟩) (fun r h' hr => ?_)
          rcases hr with ⟨qa, lfa, hFa, rfl, rfl⟩ | ⟨qa, la, hFa, hla, rfl, rfl⟩
          · skip
            have hF1a := hFa.1
            have hF2a := hFa.2.1
            have hF3a := hFa.2.2.1
            have hlla : ((plT l 4294967172) ++ lfa).length = ((plT l 4294967172)).length + lfa.length := List.length_append
            refine Ev.run 1 (pc' := 99) (lv' := [(3, .int (nI k + 1)), (2, .int (nI 1)), (0, .ref 5), (1, .int (nI 4))]) (st' := []) (h' := HN (RT g T qa 0 le li ((plT l 4294967172) ++ lfa)) hl (RF (3, T, c, e))) rfl ?_
            refine Ev.lvE (congrArg (fun z => (3, Value.int z) :: [(2, .int (nI 1)), (0, .ref 5), (1, .int (nI 4))]) (nI_1 _)) ?_
            refine Ev.run 1 (pc' := 9) (lv' := [(3, .int (nI (k + 1))), (2, .int (nI 1)), (0, .ref 5), (1, .int (nI 4))]) (st' := []) (h' := HN (RT g T qa 0 le li ((plT l 4294967172) ++ lfa)) hl (RF (3, T, c, e))) rfl ?_
            first
              | exact Ev.wk (Ext.cons rfl rfl (Ext.cons rfl rfl (Ext.cons rfl rfl (Ext.cons rfl rfl (Ext.nil rfl))))) (hq.1 _ _ (pk_nx (by decide) (by decide) hc28) hFa)
              | exact Ev.wk (Ext.cons rfl rfl (Ext.cons rfl rfl (Ext.cons rfl rfl (Ext.cons rfl rfl (Ext.nil rfl))))) (hq.2.2.1 (by assumption) _ _ (pk_nx (by decide) (by decide) hc63) hFa)
              | exact Ev.wk (Ext.cons rfl rfl (Ext.cons rfl rfl (Ext.cons rfl rfl (Ext.cons rfl rfl (Ext.nil rfl))))) (hq.2.2.2.1 (by assumption) _ _ (pk_nx (by decide) (by decide) hc63) hFa)
              | (exfalso; omega)
          · skip
            have hF2a := hFa.2.1
            refine Ev.run 1 (pc' := 99) (lv' := [(3, .int (nI k + 1)), (2, .int (nI 1)), (0, .ref 5), (1, .int (nI 4))]) (st' := []) (h' := HN (RT g T qa 1 le li la) hl (RF (3, T, c, e))) rfl ?_
            refine Ev.lvE (congrArg (fun z => (3, Value.int z) :: [(2, .int (nI 1)), (0, .ref 5), (1, .int (nI 4))]) (nI_1 _)) ?_
            refine Ev.run 1 (pc' := 9) (lv' := [(3, .int (nI (k + 1))), (2, .int (nI 1)), (0, .ref 5), (1, .int (nI 4))]) (st' := []) (h' := HN (RT g T qa 1 le li la) hl (RF (3, T, c, e))) rfl ?_
            refine Ev.run 3 (pc' := (if nI 100 ≤ nI (k + 1) then 102 else 15)) (lv' := [(3, .int (nI (k + 1))), (2, .int (nI 1)), (0, .ref 5), (1, .int (nI 4))]) (st' := []) (h' := HN (RT g T qa 1 le li la) hl (RF (3, T, c, e))) rfl ?_
            refine Ev.ite (fun hc12 => ?_) (fun hc12 => ?_)
            · have hc12 : 100 ≤ (k + 1) := (nI_leI (by omega) (by omega)).mp hc12
              first
                | exact Ev.wk (Ext.cons rfl rfl (Ext.cons rfl rfl (Ext.nil rfl))) (hq.2.1 _ _ (pk_nx (by decide) (by decide) hc28) hFa (by first | exact hla | exact plT_le _ hla))
                | exact Ev.wk (Ext.cons rfl rfl (Ext.cons rfl rfl (Ext.nil rfl))) (hq.2.2.2.2.1 _ _ (pk_nx (by decide) (by decide) hc63) hFa hla)
                | exact Ev.wk (Ext.cons rfl rfl (Ext.cons rfl rfl (Ext.nil rfl))) (hq.2.2.2.2.2 (fun z => z.elim (pk_nn (by decide) (by decide) hc28) (pk_nn (by decide) (by decide) hc63)))
                | (exfalso; omega)
            · have hc12 : ¬ (100 ≤ (k + 1)) := fun z => hc12 ((nI_leI (by omega) (by omega)).mpr z)
              refine Ev.run 3 (pc' := 102) (lv' := [(3, .int (nI (k + 1))), (2, .int (nI 1)), (0, .ref 5), (1, .int (nI 4))]) (st' := []) (h' := HN (RT g T qa 1 le li la) hl (RF (3, T, c, e))) rfl ?_
              first
                | exact Ev.wk (Ext.cons rfl rfl (Ext.cons rfl rfl (Ext.nil rfl))) (hq.2.1 _ _ (pk_nx (by decide) (by decide) hc28) hFa (by first | exact hla | exact plT_le _ hla))
                | exact Ev.wk (Ext.cons rfl rfl (Ext.cons rfl rfl (Ext.nil rfl))) (hq.2.2.2.2.1 _ _ (pk_nx (by decide) (by decide) hc63) hFa hla)
                | exact Ev.wk (Ext.cons rfl rfl (Ext.cons rfl rfl (Ext.nil rfl))) (hq.2.2.2.2.2 (fun z => z.elim (pk_nn (by decide) (by decide) hc28) (pk_nn (by decide) (by decide) hc63)))
                | (exfalso; omega)
        · skip
          refine Ev.run 5 (pc' := 93) (lv' := [(2, .int (nI 1)), (3, .int (nI k)), (0, .ref 5), (1, .int (nI 4))]) (st' := [.int (nI 4), .ref 5]) (h' := HN (RT g T (p + 1) 0 le li l) hl (RF (3, T, c, e))) rfl ?_
          refine Ev.call (a := 54) (as := [.ref 5, .int (nI 4)]) (rest := []) (lv0 := [(0, .ref 5), (1, .int (nI 4))]) (Q1 := (fun z0 h' => (∃ (q : Nat) (lf : List Nat), FK g 4 (p + 1) q lf ∧ z0 = none ∧ h' = HN (RT g T q 0 le li (l ++ lf)) hl (RF (3, T, c, e))) ∨ (∃ (q : Nat) (l' : List Nat), FX g 4 (p + 1) q ∧ l'.length ≤ 100 ∧ z0 = none ∧ h' = HN (RT g T q 1 le li l') hl (RF (3, T, c, e))))) rfl rfl (K_fac4_ _ _ _ _ _ _ hT hX (p + 1) le li l (by first | omega | exact nx_lt (by omega)) (by first | omega | exact Nat.le_trans (plT_ln _ _) (by omega)) ⟨fun q lf hz => Or.inl ⟨q, lf, hz, rfl, rfl⟩, fun q l' hz hz2 => Or.inr ⟨q, l', hz, hz2, rfl, rfl⟩⟩) (fun r h' hr => ?_)
          rcases hr with ⟨qa, lfa, hFa, rfl, rfl⟩ | ⟨qa, la, hFa, hla, rfl, rfl⟩
          · skip
            have hF1a := hFa.1
            have hF2a := hFa.2.1
            have hF3a := hFa.2.2.1
            have hlla : (l ++ lfa).length = (l).length + lfa.length := List.length_append
            refine Ev.run 1 (pc' := 99) (lv' := [(3, .int (nI k + 1)), (2, .int (nI 1)), (0, .ref 5), (1, .int (nI 4))]) (st' := []) (h' := HN (RT g T qa 0 le li (l ++ lfa)) hl (RF (3, T, c, e))) rfl ?_
            refine Ev.lvE (congrArg (fun z => (3, Value.int z) :: [(2, .int (nI 1)), (0, .ref 5), (1, .int (nI 4))]) (nI_1 _)) ?_
            refine Ev.run 1 (pc' := 9) (lv' := [(3, .int (nI (k + 1))), (2, .int (nI 1)), (0, .ref 5), (1, .int (nI 4))]) (st' := []) (h' := HN (RT g T qa 0 le li (l ++ lfa)) hl (RF (3, T, c, e))) rfl ?_
            first
              | exact Ev.wk (Ext.cons rfl rfl (Ext.cons rfl rfl (Ext.cons rfl rfl (Ext.cons rfl rfl (Ext.nil rfl))))) (hq.1 _ _ (pk_nx (by decide) (by decide) hc28) hFa)
              | exact Ev.wk (Ext.cons rfl rfl (Ext.cons rfl rfl (Ext.cons rfl rfl (Ext.cons rfl rfl (Ext.nil rfl))))) (hq.2.2.1 (by assumption) _ _ (pk_nx (by decide) (by decide) hc63) hFa)
              | exact Ev.wk (Ext.cons rfl rfl (Ext.cons rfl rfl (Ext.cons rfl rfl (Ext.cons rfl rfl (Ext.nil rfl))))) (hq.2.2.2.1 (by assumption) _ _ (pk_nx (by decide) (by decide) hc63) hFa)
              | (exfalso; omega)
          · skip
            have hF2a := hFa.2.1
            refine Ev.run 1 (pc' := 99) (lv' := [(3, .int (nI k + 1)), (2, .int (nI 1)), (0, .ref 5), (1, .int (nI 4))]) (st' := []) (h' := HN (RT g T qa 1 le li la) hl (RF (3, T, c, e))) rfl ?_
            refine Ev.lvE (congrArg (fun z => (3, Value.int z) :: [(2, .int (nI 1)), (0, .ref 5), (1, .int (nI 4))]) (nI_1 _)) ?_
            refine Ev.run 1 (pc' := 9) (lv' := [(3, .int (nI (k + 1))), (2, .int (nI 1)), (0, .ref 5), (1, .int (nI 4))]) (st' := []) (h' := HN (RT g T qa 1 le li la) hl (RF (3, T, c, e))) rfl ?_
            refine Ev.run 3 (pc' := (if nI 100 ≤ nI (k + 1) then 102 else 15)) (lv' := [(3, .int (nI (k + 1))), (2, .int (nI 1)), (0, .ref 5), (1, .int (nI 4))]) (st' := []) (h' := HN (RT g T qa 1 le li la) hl (RF (3, T, c, e))) rfl ?_
            refine Ev.ite (fun hc12 => ?_) (fun hc12 => ?_)
            · have hc12 : 100 ≤ (k + 1) := (nI_leI (by omega) (by omega)).mp hc12
              first
                | exact Ev.wk (Ext.cons rfl rfl (Ext.cons rfl rfl (Ext.nil rfl))) (hq.2.1 _ _ (pk_nx (by decide) (by decide) hc28) hFa (by first | exact hla | exact plT_le _ hla))
                | exact Ev.wk (Ext.cons rfl rfl (Ext.cons rfl rfl (Ext.nil rfl))) (hq.2.2.2.2.1 _ _ (pk_nx (by decide) (by decide) hc63) hFa hla)
                | exact Ev.wk (Ext.cons rfl rfl (Ext.cons rfl rfl (Ext.nil rfl))) (hq.2.2.2.2.2 (fun z => z.elim (pk_nn (by decide) (by decide) hc28) (pk_nn (by decide) (by decide) hc63)))
                | (exfalso; omega)
            · have hc12 : ¬ (100 ≤ (k + 1)) := fun z => hc12 ((nI_leI (by omega) (by omega)).mpr z)
              refine Ev.run 3 (pc' := 102) (lv' := [(3, .int (nI (k + 1))), (2, .int (nI 1)), (0, .ref 5), (1, .int (nI 4))]) (st' := []) (h' := HN (RT g T qa 1 le li la) hl (RF (3, T, c, e))) rfl ?_
              first
                | exact Ev.wk (Ext.cons rfl rfl (Ext.cons rfl rfl (Ext.nil rfl))) (hq.2.1 _ _ (pk_nx (by decide) (by decide) hc28) hFa (by first | exact hla | exact plT_le _ hla))
                | exact Ev.wk (Ext.cons rfl rfl (Ext.cons rfl rfl (Ext.nil rfl))) (hq.2.2.2.2.1 _ _ (pk_nx (by decide) (by decide) hc63) hFa hla)
                | exact Ev.wk (Ext.cons rfl rfl (Ext.cons rfl rfl (Ext.nil rfl))) (hq.2.2.2.2.2 (fun z => z.elim (pk_nn (by decide) (by decide) hc28) (pk_nn (by decide) (by decide) hc63)))
                | (exfalso; omega)
      · have hc63 : ¬ ((nxC g p) = 124) := fun z => hc63 ((nI_eqU (by omega) (by omega)).mpr z)
        first
          | exact Ev.wk (Ext.cons rfl rfl (Ext.cons rfl rfl (Ext.nil rfl))) (hq.2.1 _ _ (pk_nx (by decide) (by decide) hc28) hFa (by first | exact hla | exact plT_le _ hla))
          | exact Ev.wk (Ext.cons rfl rfl (Ext.cons rfl rfl (Ext.nil rfl))) (hq.2.2.2.2.1 _ _ (pk_nx (by decide) (by decide) hc63) hFa hla)
          | exact Ev.wk (Ext.cons rfl rfl (Ext.cons rfl rfl (Ext.nil rfl))) (hq.2.2.2.2.2 (fun z => z.elim (pk_nn (by decide) (by decide) hc28) (pk_nn (by decide) (by decide) hc63)))
          | (exfalso; omega)
theorem K_exp4_ {L : Nat} {xs : Nat → Int32} (d : Nat) (g : Nat → Nat → Nat) (hl : Nat → Nat → Int64) (T c e : Nat) (hT : TbT T) (hX : TX g) (p le li : Nat) (l : List Nat) (hp : p ≤ g 166 17) (hlp : l.length ≤ p) {Q : Po} (hq : (∀ q o lc, EK g 4 p q o lc → ¬ (pkS g q = 38 ∨ pkS g q = 124) → Q none (HN (RT g T q 0 le li (l ++ (lc ++ oL o))) hl (RF (3, T, c, e)))) ∧ (∀ q l', EX g 4 p q → l'.length ≤ 100 → Q none (HN (RT g T q 1 le li l') hl (RF (3, T, c, e))))) : Ev L xs (d + 8) 53 0 [(0, .ref 5), (1, .int (nI 4))] [] (HN (RT g T p 0 le li l) hl (RF (3, T, c, e))) Q := by
  have hN := hX.1
  have loop : ∀ k, k ≤ 100 → ∀ (s : Nat) (o : Bool) (lc : List Nat), EK g 4 p s o lc → p + k + 3 ≤ s → Ev L xs (d + 8) 53 9 [(3, .int (nI k)), (2, .int (nI (bn o))), (0, .ref 5), (1, .int (nI 4))] [] (HN (RT g T s 0 le li (l ++ lc)) hl (RF (3, T, c, e))) Q := by
    refine for_ind 100 _ (fun k hk hnext => ?_)
    intro s o lc hE hks
    have hE1 := hE.1
    have hE2 := hE.2.1
    have hE3 := hE.2.2.1
    have hll : (l ++ lc).length = l.length + lc.length := List.length_append
    refine K_turn4 d g hl T c e hT hX s le li (l ++ lc) k o (by omega) hE2 (by omega) ⟨fun q lf hs hF => ?_, fun q l' hs hF hl' => ?_, fun ho q lf hs hF => ?_, fun ho q lf hs hF => ?_, fun q l' hs hF hl' => ?_, fun hs => ?_⟩
    · have h1 := hF.2.1
      have h2 := hF.2.2.1
      rw [plT_lt (by rw [List.length_append]; omega)]
      have hx := hnext (by omega) q o _ (hE.and hs hF) (by have := hF.1; omega)
      simpa only [List.append_assoc] using hx
    · exact K_endX (d + 7) g hl T c e hT hX q le li l' o hl' (fun l2 h2 => hq.2 _ _ (EX.and hE hs hF) h2)
    · subst ho
      have h1 := hF.2.1
      have h2 := hF.2.2.1
      have h3 : (oL true).length = 1 := rfl
      rw [plT_lt (by omega)]
      have hx := hnext (by omega) q true _ (hE.or hs hF) (by have := hF.1; omega)
      have e1 : l ++ lc ++ [4294967172] ++ lf = l ++ (lc ++ oL true ++ lf) := by
        rw [show oL true = [4294967172] from rfl]
        simp only [List.append_assoc]
      rw [e1]
      exact hx
    · subst ho
      have hx := hnext (by omega) q true _ (hE.or hs hF) (by have := hF.1; omega)
      have e1 : l ++ lc ++ lf = l ++ (lc ++ oL false ++ lf) := by
        show l ++ lc ++ lf = l ++ (lc ++ [] ++ lf)
        rw [List.append_nil, List.append_assoc]
      rw [e1]
      exact hx
    · exact K_endX (d + 7) g hl T c e hT hX q le li l' true hl' (fun l2 h2 => hq.2 _ _ (EX.or hE hs hF) h2)
    · refine K_endO (d + 7) g hl T c e hT hX s le li (l ++ lc) o (by omega) ?_
      rw [List.append_assoc]
      exact hq.1 _ _ _ hE hs
  refine Ev.run 4 (pc' := 4) (lv' := [(2, .int (nI 0)), (0, .ref 5), (1, .int (nI 4))]) (st' := [.int (nI 4), .ref 5]) (h' := HN (RT g T p 0 le li l) hl (RF (3, T, c, e))) rfl ?_
  refine Ev.call (a := 54) (as := [.ref 5, .int (nI 4)]) (rest := []) (lv0 := [(0, .ref 5), (1, .int (nI 4))]) (Q1 := (fun z0 h' => (∃ (q : Nat) (lf : List Nat), FK g 4 p q lf ∧ z0 = none ∧ h' = HN (RT g T q 0 le li (l ++ lf)) hl (RF (3, T, c, e))) ∨ (∃ (q : Nat) (l' : List Nat), FX g 4 p q ∧ l'.length ≤ 100 ∧ z0 = none ∧ h' = HN (RT g T q 1 le li l') hl (RF (3, T, c, e))))) rfl rfl (K_fac4_ _ _ _ _ _ _ hT hX p le li l (by first | omega | exact nx_lt (by omega)) (by omega) ⟨fun q lf hz => Or.inl ⟨q, lf, hz, rfl, rfl⟩, fun q l' hz hz2 => Or.inr ⟨q, l', hz, hz2, rfl, rfl⟩⟩) (fun r h' hr => ?_)
  rcases hr with ⟨qa, lfa, hFa, rfl, rfl⟩ | ⟨qa, la, hFa, hla, rfl, rfl⟩
  · skip
    have hF1a := hFa.1
    have hF2a := hFa.2.1
    have hF3a := hFa.2.2.1
    have hlla : (l ++ lfa).length = (l).length + lfa.length := List.length_append
    refine Ev.run 2 (pc' := 9) (lv' := [(3, .int (nI 0)), (2, .int (nI 0)), (0, .ref 5), (1, .int (nI 4))]) (st' := []) (h' := HN (RT g T qa 0 le li (l ++ lfa)) hl (RF (3, T, c, e))) rfl ?_
    exact Ev.wk (Ext.cons rfl rfl (Ext.cons rfl rfl (Ext.cons rfl rfl (Ext.cons rfl rfl (Ext.nil rfl))))) (loop 0 (Nat.zero_le _) qa false lfa (EK.s hFa) (by have := hFa.1; omega))
  · skip
    have hF2a := hFa.2.1
    refine Ev.run 2 (pc' := 9) (lv' := [(3, .int (nI 0)), (2, .int (nI 0)), (0, .ref 5), (1, .int (nI 4))]) (st' := []) (h' := HN (RT g T qa 1 le li la) hl (RF (3, T, c, e))) rfl ?_
    refine Ev.run 6 (pc' := 102) (lv' := [(3, .int (nI 0)), (2, .int (nI 0)), (0, .ref 5), (1, .int (nI 4))]) (st' := []) (h' := HN (RT g T qa 1 le li la) hl (RF (3, T, c, e))) rfl ?_
    exact Ev.wk (Ext.cons rfl rfl (Ext.cons rfl rfl (Ext.nil rfl))) (K_endX (d + 7) g hl T c e hT hX qa le li la false hla (fun l2 h2 => hq.2 _ _ (EX.s hFa) h2))
theorem K_fac3_ {L : Nat} {xs : Nat → Int32} (d : Nat) (g : Nat → Nat → Nat) (hl : Nat → Nat → Int64) (T c e : Nat) (hT : TbT T) (hX : TX g) (p le li : Nat) (l : List Nat) (hp : p ≤ g 166 17) (hlp : l.length ≤ p) {Q : Po} (hq : (∀ q lf, FK g 3 p q lf → Q none (HN (RT g T q 0 le li (l ++ lf)) hl (RF (3, T, c, e)))) ∧ (∀ q l', FX g 3 p q → l'.length ≤ 100 → Q none (HN (RT g T q 1 le li l') hl (RF (3, T, c, e))))) : Ev L xs (d + 9) 54 0 [(0, .ref 5), (1, .int (nI 3))] [] (HN (RT g T p 0 le li l) hl (RF (3, T, c, e))) Q := by
  have hN := hX.1
  have hnx := nx_le hX p
  refine Ev.run 12 (pc' := 23) (lv' := [(2, .int (nI 1)), (0, .ref 5), (1, .int (nI 3))]) (st' := [.ref 5]) (h' := HN (RT g T p 0 le li l) hl (RF (3, T, c, e))) rfl ?_
  refine Ev.call (a := 59) (as := [.ref 5]) (rest := []) (lv0 := [(0, .ref 5)]) (Q1 := (fun z0 h' => z0 = some (.int (nI (nxC g p))) ∧ h' = HN (RT g T p 0 le li l) hl (RF (3, T, c, e)))) rfl rfl (K_next _ _ _ _ _ _ hT hX p _ _ l 0 (by omega) ⟨rfl, rfl⟩) (fun r h' hr => ?_)
  obtain ⟨rfl, rfl⟩ := hr
  refine Ev.run 2 (pc' := (if nI (nxC g p) = nI 33 then 31 else 60)) (lv' := [(2, .int (nI 1)), (0, .ref 5), (1, .int (nI 3))]) (st' := []) (h' := HN (RT g T p 0 le li l) hl (RF (3, T, c, e))) rfl ?_
  refine Ev.ite (fun hc28 => ?_) (fun hc28 => ?_)
  · have hc28 : (nxC g p) = 33 := (nI_eqU (by omega) (by omega)).mp hc28
    refine Ev.run 5 (pc' := 38) (lv' := [(2, .int (nI 1)), (0, .ref 5), (1, .int (nI 3))]) (st' := [.int (nI p + nI 1), .ref 5]) (h' := HN (RT g T p 0 le li l) hl (RF (3, T, c, e))) rfl ?_
    refine Ev.topI (nI_add _ _) ?_
    refine Ev.run 1 (pc' := 41) (lv' := [(2, .int (nI 1)), (0, .ref 5), (1, .int (nI 3))]) (st' := []) (h' := setI (HN (RT g T p 0 le li l) hl (RF (3, T, c, e))) 5 2 (nI (p + 1))) rfl ?_
    refine Ev.hp (HN_set _ _ _ _ _ _) ?_
    refine Ev.hp (congrArg (fun z => HN z hl (RF (3, T, c, e))) (RT_52 _ _ _ _ _ _ _)) ?_
    refine Ev.run 4 (pc' := 45) (lv' := [(2, .int (nI 1)), (0, .ref 5), (1, .int (nI 3))]) (st' := [.int (nI 4), .ref 5]) (h' := HN (RT g T (p + 1) 0 le li l) hl (RF (3, T, c, e))) rfl ?_
    refine Ev.call (a := 54) (as := [.ref 5, .int (nI 4)]) (rest := []) (lv0 := [(0, .ref 5), (1, .int (nI 4))]) (Q1 := (fun z0 h' => (∃ (q : Nat) (lf : List Nat), FK g 4 (p + 1) q lf ∧ z0 = none ∧ h' = HN (RT g T q 0 le li (l ++ lf)) hl (RF (3, T, c, e))) ∨ (∃ (q : Nat) (l' : List Nat), FX g 4 (p + 1) q ∧ l'.length ≤ 100 ∧ z0 = none ∧ h' = HN (RT g T q 1 le li l') hl (RF (3, T, c, e))))) rfl rfl (K_fac4_ _ _ _ _ _ _ hT hX (p + 1) le li l (by first | omega | exact nx_lt (by omega)) (by omega) ⟨fun q lf hz => Or.inl ⟨q, lf, hz, rfl, rfl⟩, fun q l' hz hz2 => Or.inr ⟨q, l', hz, hz2, rfl, rfl⟩⟩) (fun r h' hr => ?_)
    rcases hr with ⟨qa, lfa, hFa, rfl, rfl⟩ | ⟨qa, la, hFa, hla, rfl, rfl⟩
    · skip
      have hF1a := hFa.1
      have hF2a := hFa.2.1
      have hF3a := hFa.2.2.1
      have hlla : (l ++ lfa).length = (l).length + lfa.length := List.length_append
      refine Ev.run 3 (pc' := 54) (lv' := [(2, .int (nI 1)), (0, .ref 5), (1, .int (nI 3))]) (st' := [.int (nI 4294967293), .ref T]) (h' := HN (RT g T qa 0 le li (l ++ lfa)) hl (RF (3, T, c, e))) rfl ?_
      refine Ev_callV (a := 65) (as := [.ref T, .int (nI 4294967293)]) (rest := []) (lv0 := [(0, .ref T), (1, .int (nI 4294967293))]) (Q1 := (fun z0 h' => z0 = none ∧ h' = HN (RT g T qa 0 le li (plT (l ++ lfa) 4294967263)) hl (RF (3, T, c, e)))) rfl rfl rfl rfl rfl hT.1.k rfl rfl rfl (K_tput _ _ _ _ _ _ hT hX qa le li (l ++ lfa) 0 4294967293 4294967263 rfl (by first | omega | exact plT_le _ (by omega)) ⟨rfl, rfl⟩) (fun r h' hr => ?_)
      obtain ⟨rfl, rfl⟩ := hr
      refine Ev.run 1 (pc' := 128) (lv' := [(2, .int (nI 1)), (0, .ref 5), (1, .int (nI 3))]) (st' := []) (h' := HN (RT g T qa 0 le li (plT (l ++ lfa) 4294967263)) hl (RF (3, T, c, e))) rfl ?_
      refine Ev.ret (v := none) rfl ?_
      first
        | (rw [plT_lt (by omega), List.append_assoc]; exact hq.1 _ _ (FK.n hp (by decide) (pk_nx (by decide) (by decide) hc28) hFa))
        | exact hq.2 _ _ (FX.n hp (by decide) (pk_nx (by decide) (by decide) hc28) hFa) (plT_le _ (by omega))
        | exact hq.1 _ _ (FK.p hp (by decide) (pk_nx (by decide) (by decide) hc70) hFb hGb hxe)
        | exact hq.2 _ _ (FX.p2 hp (by decide) (pk_nx (by decide) (by decide) hc70) hFb hGb hxe) (by rw [List.length_append, List.length_append]; omega)
        | exact hq.2 _ _ (FX.p hp (by decide) (pk_nx (by decide) (by decide) hc70) hFb) (by omega)
    · skip
      have hF2a := hFa.2.1
      refine Ev.run 3 (pc' := 54) (lv' := [(2, .int (nI 1)), (0, .ref 5), (1, .int (nI 3))]) (st' := [.int (nI 4294967293), .ref T]) (h' := HN (RT g T qa 1 le li la) hl (RF (3, T, c, e))) rfl ?_
      refine Ev_callV (a := 65) (as := [.ref T, .int (nI 4294967293)]) (rest := []) (lv0 := [(0, .ref T), (1, .int (nI 4294967293))]) (Q1 := (fun z0 h' => z0 = none ∧ h' = HN (RT g T qa 1 le li (plT la 4294967263)) hl (RF (3, T, c, e)))) rfl rfl rfl rfl rfl hT.1.k rfl rfl rfl (K_tput _ _ _ _ _ _ hT hX qa le li la 1 4294967293 4294967263 rfl (by first | omega | exact plT_le _ (by omega)) ⟨rfl, rfl⟩) (fun r h' hr => ?_)
      obtain ⟨rfl, rfl⟩ := hr
      refine Ev.run 1 (pc' := 128) (lv' := [(2, .int (nI 1)), (0, .ref 5), (1, .int (nI 3))]) (st' := []) (h' := HN (RT g T qa 1 le li (plT la 4294967263)) hl (RF (3, T, c, e))) rfl ?_
      refine Ev.ret (v := none) rfl ?_
      first
        | (rw [plT_lt (by omega), List.append_assoc]; exact hq.1 _ _ (FK.n hp (by decide) (pk_nx (by decide) (by decide) hc28) hFa))
        | exact hq.2 _ _ (FX.n hp (by decide) (pk_nx (by decide) (by decide) hc28) hFa) (plT_le _ (by omega))
        | exact hq.1 _ _ (FK.p hp (by decide) (pk_nx (by decide) (by decide) hc70) hFb hGb hxe)
        | exact hq.2 _ _ (FX.p2 hp (by decide) (pk_nx (by decide) (by decide) hc70) hFb hGb hxe) (by rw [List.length_append, List.length_append]; omega)
        | exact hq.2 _ _ (FX.p hp (by decide) (pk_nx (by decide) (by decide) hc70) hFb) (by omega)
  · have hc28 : ¬ ((nxC g p) = 33) := fun z => hc28 ((nI_eqU (by omega) (by omega)).mpr z)
    refine Ev.run 3 (pc' := 65) (lv' := [(2, .int (nI 1)), (0, .ref 5), (1, .int (nI 3))]) (st' := [.ref 5]) (h' := HN (RT g T p 0 le li l) hl (RF (3, T, c, e))) rfl ?_
    refine Ev.call (a := 59) (as := [.ref 5]) (rest := []) (lv0 := [(0, .ref 5)]) (Q1 := (fun z0 h' => z0 = some (.int (nI (nxC g p))) ∧ h' = HN (RT g T p 0 le li l) hl (RF (3, T, c, e)))) rfl rfl (K_next _ _ _ _ _ _ hT hX p _ _ l 0 (by omega) ⟨rfl, rfl⟩) (fun r h' hr => ?_)
    obtain ⟨rfl, rfl⟩ := hr
    refine Ev.run 2 (pc' := (if nI (nxC g p) = nI 40 then 73 else 99)) (lv' := [(2, .int (nI 1)), (0, .ref 5), (1, .int (nI 3))]) (st' := []) (h' := HN (RT g T p 0 le li l) hl (RF (3, T, c, e))) rfl ?_
    refine Ev.ite (fun hc70 => ?_) (fun hc70 => ?_)
    · have hc70 : (nxC g p) = 40 := (nI_eqU (by omega) (by omega)).mp hc70
      refine Ev.run 5 (pc' := 80) (lv' := [(2, .int (nI 1)), (0, .ref 5), (1, .int (nI 3))]) (st' := [.int (nI p + nI 1), .ref 5]) (h' := HN (RT g T p 0 le li l) hl (RF (3, T, c, e))) rfl ?_
      refine Ev.topI (nI_add _ _) ?_
      refine Ev.run 1 (pc' := 83) (lv' := [(2, .int (nI 1)), (0, .ref 5), (1, .int (nI 3))]) (st' := []) (h' := setI (HN (RT g T p 0 le li l) hl (RF (3, T, c, e))) 5 2 (nI (p + 1))) rfl ?_
      refine Ev.hp (HN_set _ _ _ _ _ _) ?_
      refine Ev.hp (congrArg (fun z => HN z hl (RF (3, T, c, e))) (RT_52 _ _ _ _ _ _ _)) ?_
      refine Ev.run 4 (pc' := 87) (lv' := [(2, .int (nI 1)), (0, .ref 5), (1, .int (nI 3))]) (st' := [.int (nI 4), .ref 5]) (h' := HN (RT g T (p + 1) 0 le li l) hl (RF (3, T, c, e))) rfl ?_
      refine Ev.call (a := 53) (as := [.ref 5, .int (nI 4)]) (rest := []) (lv0 := [(0, .ref 5), (1, .int (nI 4))]) (Q1 := (fun z0 h' => (∃ (q : Nat) (o : Bool) (lc : List Nat), EK g 4 (p + 1) q o lc ∧ ¬ (pkS g q = 38 ∨ pkS g q = 124) ∧ z0 = none ∧ h' = HN (RT g T q 0 le li (l ++ (lc ++ oL o))) hl (RF (3, T, c, e))) ∨ (∃ (q : Nat) (l' : List Nat), EX g 4 (p + 1) q ∧ l'.length ≤ 100 ∧ z0 = none ∧ h' = HN (RT g T q 1 le li l') hl (RF (3, T, c, e))))) rfl rfl (K_exp4_ _ _ _ _ _ _ hT hX (p + 1) le li l (by first | omega | exact nx_lt (by omega)) (by omega) ⟨fun q o lc hz hz3 => Or.inl ⟨q, o, lc, hz, hz3, rfl, rfl⟩, fun q l' hz hz2 => Or.inr ⟨q, l', hz, hz2, rfl, rfl⟩⟩) (fun r h' hr => ?_)
      rcases hr with ⟨qb, ob, lcb, hFb, hGb, rfl, rfl⟩ | ⟨qb, lb, hFb, hlb, rfl, rfl⟩
      · skip
        have hF1b := hFb.1
        have hF2b := hFb.2.1
        have hF3b := hFb.2.2.1
        refine Ev.run 2 (pc' := 93) (lv' := [(2, .int (nI 1)), (0, .ref 5), (1, .int (nI 3))]) (st' := [.int (nI 41), .ref 5]) (h' := HN (RT g T qb 0 le li (l ++ (lcb ++ oL ob))) hl (RF (3, T, c, e))) rfl ?_
        refine Ev.call (a := 58) (as := [.ref 5, .int (nI 41)]) (rest := []) (lv0 := [(0, .ref 5), (1, .int (nI 41))]) (Q1 := (fun z0 h' => (pkS g qb = 41 ∧ z0 = none ∧ h' = HN (RT g T (qb + 1) 0 le li (l ++ (lcb ++ oL ob))) hl (RF (3, T, c, e))) ∨ (¬ pkS g qb = 41 ∧ z0 = none ∧ h' = HN (RT g T qb 1 le li (l ++ (lcb ++ oL ob))) hl (RF (3, T, c, e))))) rfl rfl (K_exp0 _ _ _ _ _ _ hT hX qb le li (l ++ (lcb ++ oL ob)) 41 (by omega) (by decide) (by decide) ⟨fun hz => Or.inl ⟨hz, rfl, rfl⟩, fun hz => Or.inr ⟨hz, rfl, rfl⟩⟩) (fun r h' hr => ?_)
        rcases hr with ⟨hxe, rfl, rfl⟩ | ⟨hxe, rfl, rfl⟩
        · skip
          refine Ev.run 1 (pc' := 128) (lv' := [(2, .int (nI 1)), (0, .ref 5), (1, .int (nI 3))]) (st' := []) (h' := HN (RT g T (qb + 1) 0 le li (l ++ (lcb ++ oL ob))) hl (RF (3, T, c, e))) rfl ?_
          refine Ev.ret (v := none) rfl ?_
          first
            | (rw [plT_lt (by omega), List.append_assoc]; exact hq.1 _ _ (FK.n hp (by decide) (pk_nx (by decide) (by decide) hc28) hFa))
            | exact hq.2 _ _ (FX.n hp (by decide) (pk_nx (by decide) (by decide) hc28) hFa) (plT_le _ (by omega))
            | exact hq.1 _ _ (FK.p hp (by decide) (pk_nx (by decide) (by decide) hc70) hFb hGb hxe)
            | exact hq.2 _ _ (FX.p2 hp (by decide) (pk_nx (by decide) (by decide) hc70) hFb hGb hxe) (by rw [List.length_append, List.length_append]; omega)
            | exact hq.2 _ _ (FX.p hp (by decide) (pk_nx (by decide) (by decide) hc70) hFb) (by omega)
        · skip
          refine Ev.run 1 (pc' := 128) (lv' := [(2, .int (nI 1)), (0, .ref 5), (1, .int (nI 3))]) (st' := []) (h' := HN (RT g T qb 1 le li (l ++ (lcb ++ oL ob))) hl (RF (3, T, c, e))) rfl ?_
          refine Ev.ret (v := none) rfl ?_
          first
            | (rw [plT_lt (by omega), List.append_assoc]; exact hq.1 _ _ (FK.n hp (by decide) (pk_nx (by decide) (by decide) hc28) hFa))
            | exact hq.2 _ _ (FX.n hp (by decide) (pk_nx (by decide) (by decide) hc28) hFa) (plT_le _ (by omega))
            | exact hq.1 _ _ (FK.p hp (by decide) (pk_nx (by decide) (by decide) hc70) hFb hGb hxe)
            | exact hq.2 _ _ (FX.p2 hp (by decide) (pk_nx (by decide) (by decide) hc70) hFb hGb hxe) (by rw [List.length_append, List.length_append]; omega)
            | exact hq.2 _ _ (FX.p hp (by decide) (pk_nx (by decide) (by decide) hc70) hFb) (by omega)
      · skip
        have hF2b := hFb.2.1
        refine Ev.run 2 (pc' := 93) (lv' := [(2, .int (nI 1)), (0, .ref 5), (1, .int (nI 3))]) (st' := [.int (nI 41), .ref 5]) (h' := HN (RT g T qb 1 le li lb) hl (RF (3, T, c, e))) rfl ?_
        refine Ev.call (a := 58) (as := [.ref 5, .int (nI 41)]) (rest := []) (lv0 := [(0, .ref 5), (1, .int (nI 41))]) (Q1 := (fun z0 h' => z0 = none ∧ h' = HN (RT g T qb 1 le li lb) hl (RF (3, T, c, e)))) rfl rfl (K_exp1 _ _ _ _ _ _ hT hX qb le li lb _ ⟨rfl, rfl⟩) (fun r h' hr => ?_)
        obtain ⟨rfl, rfl⟩ := hr
        refine Ev.run 1 (pc' := 128) (lv' := [(2, .int (nI 1)), (0, .ref 5), (1, .int (nI 3))]) (st' := []) (h' := HN (RT g T qb 1 le li lb) hl (RF (3, T, c, e))) rfl ?_
        refine Ev.ret (v := none) rfl ?_
        first
          | (rw [plT_lt (by omega), List.append_assoc]; exact hq.1 _ _ (FK.n hp (by decide) (pk_nx (by decide) (by decide) hc28) hFa))
          | exact hq.2 _ _ (FX.n hp (by decide) (pk_nx (by decide) (by decide) hc28) hFa) (plT_le _ (by omega))
          | exact hq.1 _ _ (FK.p hp (by decide) (pk_nx (by decide) (by decide) hc70) hFb hGb hxe)
          | exact hq.2 _ _ (FX.p2 hp (by decide) (pk_nx (by decide) (by decide) hc70) hFb hGb hxe) (by rw [List.length_append, List.length_append]; omega)
          | exact hq.2 _ _ (FX.p hp (by decide) (pk_nx (by decide) (by decide) hc70) hFb) (by omega)
    · have hc70 : ¬ ((nxC g p) = 40) := fun z => hc70 ((nI_eqU (by omega) (by omega)).mpr z)
      refine Ev.wk (Ext.cons rfl rfl (Ext.nil rfl)) (K_facT (d + 2) _ _ _ _ _ hT hX p le li l (by omega) (by omega) ⟨fun cd q hz => ?_, fun q hz l' hl' => ?_⟩)
      · have hF : FK g 3 p q [cd] := FK.t hp hz
        have hF1 := hF.1
        have hF2 := hF.2.1
        rw [plT_lt (by omega)]
        exact hq.1 _ _ hF
      · exact hq.2 _ _ (FX.t hp hz (by decide) (fun _ z => z.elim (pk_nn (by decide) (by decide) hc28) (pk_nn (by decide) (by decide) hc70))) hl'
theorem K_turn3 {L : Nat} {xs : Nat → Int32} (d : Nat) (g : Nat → Nat → Nat) (hl : Nat → Nat → Int64) (T c e : Nat) (hT : TbT T) (hX : TX g) (p le li : Nat) (l : List Nat) (k : Nat) (o : Bool) (hk : k < 100) (hp : p ≤ g 166 17) (hlp : l.length + (oL o).length ≤ p) {Q : Po} (hq : (∀ q lf, pkS g p = 38 → FK g 3 (p + 1) q lf → Ev L xs (d + 10) 53 9 [(3, .int (nI (k + 1))), (2, .int (nI (bn o))), (0, .ref 5), (1, .int (nI 3))] [] (HN (RT g T q 0 le li (plT (l ++ lf) 4294967258)) hl (RF (3, T, c, e))) Q) ∧ (∀ q l', pkS g p = 38 → FX g 3 (p + 1) q → l'.length ≤ 100 → Ev L xs (d + 10) 53 102 [(2, .int (nI (bn o))), (0, .ref 5)] [] (HN (RT g T q 1 le li l') hl (RF (3, T, c, e))) Q) ∧ (o = true → ∀ q lf, pkS g p = 124 → FK g 3 (p + 1) q lf → Ev L xs (d + 10) 53 9 [(3, .int (nI (k + 1))), (2, .int (nI 1)), (0, .ref 5), (1, .int (nI 3))] [] (HN (RT g T q 0 le li (plT l 4294967172 ++ lf)) hl (RF (3, T, c, e))) Q) ∧ (o = false → ∀ q lf, pkS g p = 124 → FK g 3 (p + 1) q lf → Ev L xs (d + 10) 53 9 [(3, .int (nI (k + 1))), (2, .int (nI 1)), (0, .ref 5), (1, .int (nI 3))] [] (HN (RT g T q 0 le li (l ++ lf)) hl (RF (3, T, c, e))) Q) ∧ (∀ q l', pkS g p = 124 → FX g 3 (p + 1) q → l'.length ≤ 100 → Ev L xs (d + 10) 53 102 [(2, .int (nI 1)), (0, .ref 5)] [] (HN (RT g T q 1 le li l') hl (RF (3, T, c, e))) Q) ∧ (¬ (pkS g p = 38 ∨ pkS g p = 124) → Ev L xs (d + 10) 53 102 [(2, .int (nI (bn o))), (0, .ref 5)] [] (HN (RT g T p 0 le li l) hl (RF (3, T, c, e))) Q)) : Ev L xs (d + 10) 53 9 [(3, .int (nI k)), (2, .int (nI (bn o))), (0, .ref 5), (1, .int (nI 3))] [] (HN (RT g T p 0 le li l) hl (RF (3, T, c, e))) Q := by
  have hN := hX.1
  have hnx := nx_le hX p
  refine Ev.run 3 (pc' := (if nI 100 ≤ nI k then 102 else 15)) (lv' := [(3, .int (nI k)), (2, .int (nI (bn o))), (0, .ref 5), (1, .int (nI 3))]) (st' := []) (h' := HN (RT g T p 0 le li l) hl (RF (3, T, c, e))) rfl ?_
  refine Ev.ite (fun hc12 => ?_) (fun hc12 => ?_)
  · have hc12 : 100 ≤ k := (nI_leI (by omega) (by omega)).mp hc12
    first
      | exact Ev.wk (Ext.cons rfl rfl (Ext.cons rfl rfl (Ext.nil rfl))) (hq.2.1 _ _ (pk_nx (by decide) (by decide) hc28) hFa (by first | exact hla | exact plT_le _ hla))
      | exact Ev.wk (Ext.cons rfl rfl (Ext.cons rfl rfl (Ext.nil rfl))) (hq.2.2.2.2.1 _ _ (pk_nx (by decide) (by decide) hc63) hFa hla)
      | exact Ev.wk (Ext.cons rfl rfl (Ext.cons rfl rfl (Ext.nil rfl))) (hq.2.2.2.2.2 (fun z => z.elim (pk_nn (by decide) (by decide) hc28) (pk_nn (by decide) (by decide) hc63)))
      | (exfalso; omega)
  · have hc12 : ¬ (100 ≤ k) := fun z => hc12 ((nI_leI (by omega) (by omega)).mpr z)
    refine Ev.run 4 (pc' := 23) (lv' := [(3, .int (nI k)), (2, .int (nI (bn o))), (0, .ref 5), (1, .int (nI 3))]) (st' := [.ref 5]) (h' := HN (RT g T p 0 le li l) hl (RF (3, T, c, e))) rfl ?_
    refine Ev.call (a := 59) (as := [.ref 5]) (rest := []) (lv0 := [(0, .ref 5)]) (Q1 := (fun z0 h' => z0 = some (.int (nI (nxC g p))) ∧ h' = HN (RT g T p 0 le li l) hl (RF (3, T, c, e)))) rfl rfl (K_next _ _ _ _ _ _ hT hX p _ _ l 0 (by omega) ⟨rfl, rfl⟩) (fun r h' hr => ?_)
    obtain ⟨rfl, rfl⟩ := hr
    refine Ev.run 2 (pc' := (if nI (nxC g p) = nI 38 then 31 else 57)) (lv' := [(3, .int (nI k)), (2, .int (nI (bn o))), (0, .ref 5), (1, .int (nI 3))]) (st' := []) (h' := HN (RT g T p 0 le li l) hl (RF (3, T, c, e))) rfl ?_
    refine Ev.ite (fun hc28 => ?_) (fun hc28 => ?_)
    · have hc28 : (nxC g p) = 38 := (nI_eqU (by omega) (by omega)).mp hc28
      refine Ev.run 5 (pc' := 38) (lv' := [(3, .int (nI k)), (2, .int (nI (bn o))), (0, .ref 5), (1, .int (nI 3))]) (st' := [.int (nI p + nI 1), .ref 5]) (h' := HN (RT g T p 0 le li l) hl (RF (3, T, c, e))) rfl ?_
      refine Ev.topI (nI_add _ _) ?_
      refine Ev.run 1 (pc' := 41) (lv' := [(3, .int (nI k)), (2, .int (nI (bn o))), (0, .ref 5), (1, .int (nI 3))]) (st' := []) (h' := setI (HN (RT g T p 0 le li l) hl (RF (3, T, c, e))) 5 2 (nI (p + 1))) rfl ?_
      refine Ev.hp (HN_set _ _ _ _ _ _) ?_
      refine Ev.hp (congrArg (fun z => HN z hl (RF (3, T, c, e))) (RT_52 _ _ _ _ _ _ _)) ?_
      refine Ev.run 2 (pc' := 43) (lv' := [(3, .int (nI k)), (2, .int (nI (bn o))), (0, .ref 5), (1, .int (nI 3))]) (st' := [.int (nI 3), .ref 5]) (h' := HN (RT g T (p + 1) 0 le li l) hl (RF (3, T, c, e))) rfl ?_
      refine Ev.call (a := 54) (as := [.ref 5, .int (nI 3)]) (rest := []) (lv0 := [(0, .ref 5), (1, .int (nI 3))]) (Q1 := (fun z0 h' => (∃ (q : Nat) (lf : List Nat), FK g 3 (p + 1) q lf ∧ z0 = none ∧ h' = HN (RT g T q 0 le li (l ++ lf)) hl (RF (3, T, c, e))) ∨ (∃ (q : Nat) (l' : List Nat), FX g 3 (p + 1) q ∧ l'.length ≤ 100 ∧ z0 = none ∧ h' = HN (RT g T q 1 le li l') hl (RF (3, T, c, e))))) rfl rfl (K_fac3_ _ _ _ _ _ _ hT hX (p + 1) le li l (by first | omega | exact nx_lt (by omega)) (by first | omega | exact Nat.le_trans (plT_ln _ _) (by omega)) ⟨fun q lf hz => Or.inl ⟨q, lf, hz, rfl, rfl⟩, fun q l' hz hz2 => Or.inr ⟨q, l', hz, hz2, rfl, rfl⟩⟩) (fun r h' hr => ?_)
      rcases hr with ⟨qa, lfa, hFa, rfl, rfl⟩ | ⟨qa, la, hFa, hla, rfl, rfl⟩
      · skip
        have hF1a := hFa.1
        have hF2a := hFa.2.1
        have hF3a := hFa.2.2.1
        have hlla : (l ++ lfa).length = (l).length + lfa.length := List.length_append
        refine Ev.run 3 (pc' := 51) (lv' := [(3, .int (nI k)), (2, .int (nI (bn o))), (0, .ref 5), (1, .int (nI 3))]) (st' := [.int (nI 4294967295), .ref T]) (h' := HN (RT g T qa 0 le li (l ++ lfa)) hl (RF (3, T, c, e))) rfl ?_
        refine Ev_callV (a := 65) (as := [.ref T, .int (nI 4294967295)]) (rest := []) (lv0 := [(0, .ref T), (1, .int (nI 4294967295))]) (Q1 := (fun z0 h' => z0 = none ∧ h' = HN (RT g T qa 0 le li (plT (l ++ lfa) 4294967258)) hl (RF (3, T, c, e)))) rfl rfl rfl rfl rfl hT.1.k rfl rfl rfl (K_tput _ _ _ _ _ _ hT hX qa le li (l ++ lfa) 0 4294967295 4294967258 rfl (by first | omega | (rw [List.length_append]; omega)) ⟨rfl, rfl⟩) (fun r h' hr => ?_)
        obtain ⟨rfl, rfl⟩ := hr
        refine Ev.run 2 (pc' := 99) (lv' := [(3, .int (nI k + 1)), (2, .int (nI (bn o))), (0, .ref 5), (1, .int (nI 3))]) (st' := []) (h' := HN (RT g T qa 0 le li (plT (l ++ lfa) 4294967258)) hl (RF (3, T, c, e))) rfl ?_
        refine Ev.lvE (congrArg (fun z => (3, Value.int z) :: [(2, .int (nI (bn o))), (0, .ref 5), (1, .int (nI 3))]) (nI_1 _)) ?_
        refine Ev.run 1 (pc' := 9) (lv' := [(3, .int (nI (k + 1))), (2, .int (nI (bn o))), (0, .ref 5), (1, .int (nI 3))]) (st' := []) (h' := HN (RT g T qa 0 le li (plT (l ++ lfa) 4294967258)) hl (RF (3, T, c, e))) rfl ?_
        first
          | exact Ev.wk (Ext.cons rfl rfl (Ext.cons rfl rfl (Ext.cons rfl rfl (Ext.cons rfl rfl (Ext.nil rfl))))) (hq.1 _ _ (pk_nx (by decide) (by decide) hc28) hFa)
          | exact Ev.wk (Ext.cons rfl rfl (Ext.cons rfl rfl (Ext.cons rfl rfl (Ext.cons rfl rfl (Ext.nil rfl))))) (hq.2.2.1 (by assumption) _ _ (pk_nx (by decide) (by decide) hc63) hFa)
          | exact Ev.wk (Ext.cons rfl rfl (Ext.cons rfl rfl (Ext.cons rfl rfl (Ext.cons rfl rfl (Ext.nil rfl))))) (hq.2.2.2.1 (by assumption) _ _ (pk_nx (by decide) (by decide) hc63) hFa)
          | (exfalso; omega)
      · skip
        have hF2a := hFa.2.1
        refine Ev.run 3 (pc' := 51) (lv' := [(3, .int (nI k)), (2, .int (nI (bn o))), (0, .ref 5), (1, .int (nI 3))]) (st' := [.int (nI 4294967295), .ref T]) (h' := HN (RT g T qa 1 le li la) hl (RF (3, T, c, e))) rfl ?_
        refine Ev_callV (a := 65) (as := [.ref T, .int (nI 4294967295)]) (rest := []) (lv0 := [(0, .ref T), (1, .int (nI 4294967295))]) (Q1 := (fun z0 h' => z0 = none ∧ h' = HN (RT g T qa 1 le li (plT la 4294967258)) hl (RF (3, T, c, e)))) rfl rfl rfl rfl rfl hT.1.k rfl rfl rfl (K_tput _ _ _ _ _ _ hT hX qa le li la 1 4294967295 4294967258 rfl (by first | omega | (rw [List.length_append]; omega)) ⟨rfl, rfl⟩) (fun r h' hr => ?_)
        obtain ⟨rfl, rfl⟩ := hr
        refine Ev.run 2 (pc' := 99) (lv' := [(3, .int (nI k + 1)), (2, .int (nI (bn o))), (0, .ref 5), (1, .int (nI 3))]) (st' := []) (h' := HN (RT g T qa 1 le li (plT la 4294967258)) hl (RF (3, T, c, e))) rfl ?_
        refine Ev.lvE (congrArg (fun z => (3, Value.int z) :: [(2, .int (nI (bn o))), (0, .ref 5), (1, .int (nI 3))]) (nI_1 _)) ?_
        refine Ev.run 1 (pc' := 9) (lv' := [(3, .int (nI (k + 1))), (2, .int (nI (bn o))), (0, .ref 5), (1, .int (nI 3))]) (st' := []) (h' := HN (RT g T qa 1 le li (plT la 4294967258)) hl (RF (3, T, c, e))) rfl ?_
        refine Ev.run 3 (pc' := (if nI 100 ≤ nI (k + 1) then 102 else 15)) (lv' := [(3, .int (nI (k + 1))), (2, .int (nI (bn o))), (0, .ref 5), (1, .int (nI 3))]) (st' := []) (h' := HN (RT g T qa 1 le li (plT la 4294967258)) hl (RF (3, T, c, e))) rfl ?_
        refine Ev.ite (fun hc12 => ?_) (fun hc12 => ?_)
        · have hc12 : 100 ≤ (k + 1) := (nI_leI (by omega) (by omega)).mp hc12
          first
            | exact Ev.wk (Ext.cons rfl rfl (Ext.cons rfl rfl (Ext.nil rfl))) (hq.2.1 _ _ (pk_nx (by decide) (by decide) hc28) hFa (by first | exact hla | exact plT_le _ hla))
            | exact Ev.wk (Ext.cons rfl rfl (Ext.cons rfl rfl (Ext.nil rfl))) (hq.2.2.2.2.1 _ _ (pk_nx (by decide) (by decide) hc63) hFa hla)
            | exact Ev.wk (Ext.cons rfl rfl (Ext.cons rfl rfl (Ext.nil rfl))) (hq.2.2.2.2.2 (fun z => z.elim (pk_nn (by decide) (by decide) hc28) (pk_nn (by decide) (by decide) hc63)))
            | (exfalso; omega)
        · have hc12 : ¬ (100 ≤ (k + 1)) := fun z => hc12 ((nI_leI (by omega) (by omega)).mpr z)
          refine Ev.run 3 (pc' := 102) (lv' := [(3, .int (nI (k + 1))), (2, .int (nI (bn o))), (0, .ref 5), (1, .int (nI 3))]) (st' := []) (h' := HN (RT g T qa 1 le li (plT la 4294967258)) hl (RF (3, T, c, e))) rfl ?_
          first
            | exact Ev.wk (Ext.cons rfl rfl (Ext.cons rfl rfl (Ext.nil rfl))) (hq.2.1 _ _ (pk_nx (by decide) (by decide) hc28) hFa (by first | exact hla | exact plT_le _ hla))
            | exact Ev.wk (Ext.cons rfl rfl (Ext.cons rfl rfl (Ext.nil rfl))) (hq.2.2.2.2.1 _ _ (pk_nx (by decide) (by decide) hc63) hFa hla)
            | exact Ev.wk (Ext.cons rfl rfl (Ext.cons rfl rfl (Ext.nil rfl))) (hq.2.2.2.2.2 (fun z => z.elim (pk_nn (by decide) (by decide) hc28) (pk_nn (by decide) (by decide) hc63)))
            | (exfalso; omega)
    · have hc28 : ¬ ((nxC g p) = 38) := fun z => hc28 ((nI_eqU (by omega) (by omega)).mpr z)
      refine Ev.run 1 (pc' := 58) (lv' := [(3, .int (nI k)), (2, .int (nI (bn o))), (0, .ref 5), (1, .int (nI 3))]) (st' := [.ref 5]) (h' := HN (RT g T p 0 le li l) hl (RF (3, T, c, e))) rfl ?_
      refine Ev.call (a := 59) (as := [.ref 5]) (rest := []) (lv0 := [(0, .ref 5)]) (Q1 := (fun z0 h' => z0 = some (.int (nI (nxC g p))) ∧ h' = HN (RT g T p 0 le li l) hl (RF (3, T, c, e)))) rfl rfl (K_next _ _ _ _ _ _ hT hX p _ _ l 0 (by omega) ⟨rfl, rfl⟩) (fun r h' hr => ?_)
      obtain ⟨rfl, rfl⟩ := hr
      refine Ev.run 2 (pc' := (if nI (nxC g p) = nI 124 then 66 else 102)) (lv' := [(3, .int (nI k)), (2, .int (nI (bn o))), (0, .ref 5), (1, .int (nI 3))]) (st' := []) (h' := HN (RT g T p 0 le li l) hl (RF (3, T, c, e))) rfl ?_
      refine Ev.ite (fun hc63 => ?_) (fun hc63 => ?_)
      · have hc63 : (nxC g p) = 124 := (nI_eqU (by omega) (by omega)).mp hc63
        refine Ev.run 5 (pc' := 73) (lv' := [(3, .int (nI k)), (2, .int (nI (bn o))), (0, .ref 5), (1, .int (nI 3))]) (st' := [.int (nI p + nI 1), .ref 5]) (h' := HN (RT g T p 0 le li l) hl (RF (3, T, c, e))) rfl ?_
        refine Ev.topI (nI_add _ _) ?_
        refine Ev.run 1 (pc' := 76) (lv' := [(3, .int (nI k)), (2, .int (nI (bn o))), (0, .ref 5), (1, .int (nI 3))]) (st' := []) (h' := setI (HN (RT g T p 0 le li l) hl (RF (3, T, c, e))) 5 2 (nI (p + 1))) rfl ?_
        refine Ev.hp (HN_set _ _ _ _ _ _) ?_
        refine Ev.hp (congrArg (fun z => HN z hl (RF (3, T, c, e))) (RT_52 _ _ _ _ _ _ _)) ?_
        refine Ev.run 1 (pc' := 77) (lv' := [(3, .int (nI k)), (2, .int (nI (bn o))), (0, .ref 5), (1, .int (nI 3))]) (st' := [.int (nI (bn o))]) (h' := HN (RT g T (p + 1) 0 le li l) hl (RF (3, T, c, e))) rfl ?_
        refine Ev_bn (fun hb77 => ?_) (fun hb77 => ?_)
        · skip
          refine Ev.run 4 (pc' := 86) (lv' := [(3, .int (nI k)), (2, .int (nI (bn o))), (0, .ref 5), (1, .int (nI 3))]) (st' := [.int (nI 4294967294), .ref T]) (h' := HN (RT g T (p + 1) 0 le li l) hl (RF (3, T, c, e))) rfl ?_
          refine Ev_callV (a := 65) (as := [.ref T, .int (nI 4294967294)]) (rest := []) (lv0 := [(0, .ref T), (1, .int (nI 4294967294))]) (Q1 := (fun z0 h' => z0 = none ∧ h' = HN (RT g T (p + 1) 0 le li (plT l 4294967172)) hl (RF (3, T, c, e)))) rfl rfl rfl rfl rfl hT.1.k rfl rfl rfl (K_tput _ _ _ _ _ _ hT hX (p + 1) le li l 0 4294967294 4294967172 rfl (by first | omega | (rw [List.length_append]; omega)) ⟨rfl, rfl⟩) (fun r h' hr => ?_)
          obtain ⟨rfl, rfl⟩ := hr
          refine Ev.run 4 (pc' := 93) (lv' := [(2, .int (nI 1)), (3, .int (nI k)), (0, .ref 5), (1, .int (nI 3))]) (st' := [.int (nI 3), .ref 5]) (h' := HN (RT g T (p + 1) 0 le li (plT l 4294967172)) hl (RF (3, T, c, e))) rfl ?_
          refine Ev.call (a := 54) (as := [.ref 5, .int (nI 3)]) (rest := []) (lv0 := [(0, .ref 5), (1, .int (nI 3))]) (Q1 := (fun z0 h' => (∃ (q : Nat) (lf : List Nat), FK g 3 (p + 1) q lf ∧ z0 = none ∧ h' = HN (RT g T q 0 le li ((plT l 4294967172) ++ lf)) hl (RF (3, T, c, e))) ∨ (∃ (q : Nat) (l' : List Nat), FX g 3 (p + 1) q ∧ l'.length ≤ 100 ∧ z0 = none ∧ h' = HN (RT g T q 1 le li l') hl (RF (3, T, c, e))))) rfl rfl (K_fac3_ _ _ _ _ _ _ hT hX (p + 1) le li (plT l 4294967172) (by first | omega | exact nx_lt (by omega)) (by first | omega | exact Nat.le_trans (plT_ln _ _) (by omega)) ⟨fun q lf hz => Or.inl ⟨q, lf, hz, rfl, rfl⟩, fun q l' hz hz2 => Or.inr ⟨q, l', hz, hz2, rfl, rfl⟩⟩) (fun r h' hr => ?_)
          rcases hr with ⟨qa, lfa, hFa, rfl, rfl⟩ | ⟨qa, la, hFa, hla, rfl, rfl⟩
          · skip
            have hF1a := hFa.1
            have hF2a := hFa.2.1
            have hF3a := hFa.2.2.1
            have hlla : ((plT l 4294967172) ++ lfa).length = ((plT l 4294967172)).length + lfa.length := List.length_append
            refine Ev.run 1 (pc' := 99) (lv' := [(3, .int (nI k + 1)), (2, .int (nI 1)), (0, .ref 5), (1, .int (nI 3))]) (st' := []) (h' := HN (RT g T qa 0 le li ((plT l 4294967172) ++ lfa)) hl (RF (3, T, c, e))) rfl ?_
            refine Ev.lvE (congrArg (fun z => (3, Value.int z) :: [(2, .int (nI 1)), (0, .ref 5), (1, .int (nI 3))]) (nI_1 _)) ?_
            refine Ev.run 1 (pc' := 9) (lv' := [(3, .int (nI (k + 1))), (2, .int (nI 1)), (0, .ref 5), (1, .int (nI 3))]) (st' := []) (h' := HN (RT g T qa 0 le li ((plT l 4294967172) ++ lfa)) hl (RF (3, T, c, e))) rfl ?_
            first
              | exact Ev.wk (Ext.cons rfl rfl (Ext.cons rfl rfl (Ext.cons rfl rfl (Ext.cons rfl rfl (Ext.nil rfl))))) (hq.1 _ _ (pk_nx (by decide) (by decide) hc28) hFa)
              | exact Ev.wk (Ext.cons rfl rfl (Ext.cons rfl rfl (Ext.cons rfl rfl (Ext.cons rfl rfl (Ext.nil rfl))))) (hq.2.2.1 (by assumption) _ _ (pk_nx (by decide) (by decide) hc63) hFa)
              | exact Ev.wk (Ext.cons rfl rfl (Ext.cons rfl rfl (Ext.cons rfl rfl (Ext.cons rfl rfl (Ext.nil rfl))))) (hq.2.2.2.1 (by assumption) _ _ (pk_nx (by decide) (by decide) hc63) hFa)
              | (exfalso; omega)
          · skip
            have hF2a := hFa.2.1
            refine Ev.run 1 (pc' := 99) (lv' := [(3, .int (nI k + 1)), (2, .int (nI 1)), (0, .ref 5), (1, .int (nI 3))]) (st' := []) (h' := HN (RT g T qa 1 le li la) hl (RF (3, T, c, e))) rfl ?_
            refine Ev.lvE (congrArg (fun z => (3, Value.int z) :: [(2, .int (nI 1)), (0, .ref 5), (1, .int (nI 3))]) (nI_1 _)) ?_
            refine Ev.run 1 (pc' := 9) (lv' := [(3, .int (nI (k + 1))), (2, .int (nI 1)), (0, .ref 5), (1, .int (nI 3))]) (st' := []) (h' := HN (RT g T qa 1 le li la) hl (RF (3, T, c, e))) rfl ?_
            refine Ev.run 3 (pc' := (if nI 100 ≤ nI (k + 1) then 102 else 15)) (lv' := [(3, .int (nI (k + 1))), (2, .int (nI 1)), (0, .ref 5), (1, .int (nI 3))]) (st' := []) (h' := HN (RT g T qa 1 le li la) hl (RF (3, T, c, e))) rfl ?_
            refine Ev.ite (fun hc12 => ?_) (fun hc12 => ?_)
            · have hc12 : 100 ≤ (k + 1) := (nI_leI (by omega) (by omega)).mp hc12
              first
                | exact Ev.wk (Ext.cons rfl rfl (Ext.cons rfl rfl (Ext.nil rfl))) (hq.2.1 _ _ (pk_nx (by decide) (by decide) hc28) hFa (by first | exact hla | exact plT_le _ hla))
                | exact Ev.wk (Ext.cons rfl rfl (Ext.cons rfl rfl (Ext.nil rfl))) (hq.2.2.2.2.1 _ _ (pk_nx (by decide) (by decide) hc63) hFa hla)
                | exact Ev.wk (Ext.cons rfl rfl (Ext.cons rfl rfl (Ext.nil rfl))) (hq.2.2.2.2.2 (fun z => z.elim (pk_nn (by decide) (by decide) hc28) (pk_nn (by decide) (by decide) hc63)))
                | (exfalso; omega)
            · have hc12 : ¬ (100 ≤ (k + 1)) := fun z => hc12 ((nI_leI (by omega) (by omega)).mpr z)
              refine Ev.run 3 (pc' := 102) (lv' := [(3, .int (nI (k + 1))), (2, .int (nI 1)), (0, .ref 5), (1, .int (nI 3))]) (st' := []) (h' := HN (RT g T qa 1 le li la) hl (RF (3, T, c, e))) rfl ?_
              first
                | exact Ev.wk (Ext.cons rfl rfl (Ext.cons rfl rfl (Ext.nil rfl))) (hq.2.1 _ _ (pk_nx (by decide) (by decide) hc28) hFa (by first | exact hla | exact plT_le _ hla))
                | exact Ev.wk (Ext.cons rfl rfl (Ext.cons rfl rfl (Ext.nil rfl))) (hq.2.2.2.2.1 _ _ (pk_nx (by decide) (by decide) hc63) hFa hla)
                | exact Ev.wk (Ext.cons rfl rfl (Ext.cons rfl rfl (Ext.nil rfl))) (hq.2.2.2.2.2 (fun z => z.elim (pk_nn (by decide) (by decide) hc28) (pk_nn (by decide) (by decide) hc63)))
                | (exfalso; omega)
        · skip
          refine Ev.run 5 (pc' := 93) (lv' := [(2, .int (nI 1)), (3, .int (nI k)), (0, .ref 5), (1, .int (nI 3))]) (st' := [.int (nI 3), .ref 5]) (h' := HN (RT g T (p + 1) 0 le li l) hl (RF (3, T, c, e))) rfl ?_
          refine Ev.call (a := 54) (as := [.ref 5, .int (nI 3)]) (rest := []) (lv0 := [(0, .ref 5), (1, .int (nI 3))]) (Q1 := (fun z0 h' => (∃ (q : Nat) (lf : List Nat), FK g 3 (p + 1) q lf ∧ z0 = none ∧ h' = HN (RT g T q 0 le li (l ++ lf)) hl (RF (3, T, c, e))) ∨ (∃ (q : Nat) (l' : List Nat), FX g 3 (p + 1) q ∧ l'.length ≤ 100 ∧ z0 = none ∧ h' = HN (RT g T q 1 le li l') hl (RF (3, T, c, e))))) rfl rfl (K_fac3_ _ _ _ _ _ _ hT hX (p + 1) le li l (by first | omega | exact nx_lt (by omega)) (by first | omega | exact Nat.le_trans (plT_ln _ _) (by omega)) ⟨fun q lf hz => Or.inl ⟨q, lf, hz, rfl, rfl⟩, fun q l' hz hz2 => Or.inr ⟨q, l', hz, hz2, rfl, rfl⟩⟩) (fun r h' hr => ?_)
          rcases hr with ⟨qa, lfa, hFa, rfl, rfl⟩ | ⟨qa, la, hFa, hla, rfl, rfl⟩
          · skip
            have hF1a := hFa.1
            have hF2a := hFa.2.1
            have hF3a := hFa.2.2.1
            have hlla : (l ++ lfa).length = (l).length + lfa.length := List.length_append
            refine Ev.run 1 (pc' := 99) (lv' := [(3, .int (nI k + 1)), (2, .int (nI 1)), (0, .ref 5), (1, .int (nI 3))]) (st' := []) (h' := HN (RT g T qa 0 le li (l ++ lfa)) hl (RF (3, T, c, e))) rfl ?_
            refine Ev.lvE (congrArg (fun z => (3, Value.int z) :: [(2, .int (nI 1)), (0, .ref 5), (1, .int (nI 3))]) (nI_1 _)) ?_
            refine Ev.run 1 (pc' := 9) (lv' := [(3, .int (nI (k + 1))), (2, .int (nI 1)), (0, .ref 5), (1, .int (nI 3))]) (st' := []) (h' := HN (RT g T qa 0 le li (l ++ lfa)) hl (RF (3, T, c, e))) rfl ?_
            first
              | exact Ev.wk (Ext.cons rfl rfl (Ext.cons rfl rfl (Ext.cons rfl rfl (Ext.cons rfl rfl (Ext.nil rfl))))) (hq.1 _ _ (pk_nx (by decide) (by decide) hc28) hFa)
              | exact Ev.wk (Ext.cons rfl rfl (Ext.cons rfl rfl (Ext.cons rfl rfl (Ext.cons rfl rfl (Ext.nil rfl))))) (hq.2.2.1 (by assumption) _ _ (pk_nx (by decide) (by decide) hc63) hFa)
              | exact Ev.wk (Ext.cons rfl rfl (Ext.cons rfl rfl (Ext.cons rfl rfl (Ext.cons rfl rfl (Ext.nil rfl))))) (hq.2.2.2.1 (by assumption) _ _ (pk_nx (by decide) (by decide) hc63) hFa)
              | (exfalso; omega)
          · skip
            have hF2a := hFa.2.1
            refine Ev.run 1 (pc' := 99) (lv' := [(3, .int (nI k + 1)), (2, .int (nI 1)), (0, .ref 5), (1, .int (nI 3))]) (st' := []) (h' := HN (RT g T qa 1 le li la) hl (RF (3, T, c, e))) rfl ?_
            refine Ev.lvE (congrArg (fun z => (3, Value.int z) :: [(2, .int (nI 1)), (0, .ref 5), (1, .int (nI 3))]) (nI_1 _)) ?_
            refine Ev.run 1 (pc' := 9) (lv' := [(3, .int (nI (k + 1))), (2, .int (nI 1)), (0, .ref 5), (1, .int (nI 3))]) (st' := []) (h' := HN (RT g T qa 1 le li la) hl (RF (3, T, c, e))) rfl ?_
            refine Ev.run 3 (pc' := (if nI 100 ≤ nI (k + 1) then 102 else 15)) (lv' := [(3, .int (nI (k + 1))), (2, .int (nI 1)), (0, .ref 5), (1, .int (nI 3))]) (st' := []) (h' := HN (RT g T qa 1 le li la) hl (RF (3, T, c, e))) rfl ?_
            refine Ev.ite (fun hc12 => ?_) (fun hc12 => ?_)
            · have hc12 : 100 ≤ (k + 1) := (nI_leI (by omega) (by omega)).mp hc12
              first
                | exact Ev.wk (Ext.cons rfl rfl (Ext.cons rfl rfl (Ext.nil rfl))) (hq.2.1 _ _ (pk_nx (by decide) (by decide) hc28) hFa (by first | exact hla | exact plT_le _ hla))
                | exact Ev.wk (Ext.cons rfl rfl (Ext.cons rfl rfl (Ext.nil rfl))) (hq.2.2.2.2.1 _ _ (pk_nx (by decide) (by decide) hc63) hFa hla)
                | exact Ev.wk (Ext.cons rfl rfl (Ext.cons rfl rfl (Ext.nil rfl))) (hq.2.2.2.2.2 (fun z => z.elim (pk_nn (by decide) (by decide) hc28) (pk_nn (by decide) (by decide) hc63)))
                | (exfalso; omega)
            · have hc12 : ¬ (100 ≤ (k + 1)) := fun z => hc12 ((nI_leI (by omega) (by omega)).mpr z)
              refine Ev.run 3 (pc' := 102) (lv' := [(3, .int (nI (k + 1))), (2, .int (nI 1)), (0, .ref 5), (1, .int (nI 3))]) (st' := []) (h' := HN (RT g T qa 1 le li la) hl (RF (3, T, c, e))) rfl ?_
              first
                | exact Ev.wk (Ext.cons rfl rfl (Ext.cons rfl rfl (Ext.nil rfl))) (hq.2.1 _ _ (pk_nx (by decide) (by decide) hc28) hFa (by first | exact hla | exact plT_le _ hla))
                | exact Ev.wk (Ext.cons rfl rfl (Ext.cons rfl rfl (Ext.nil rfl))) (hq.2.2.2.2.1 _ _ (pk_nx (by decide) (by decide) hc63) hFa hla)
                | exact Ev.wk (Ext.cons rfl rfl (Ext.cons rfl rfl (Ext.nil rfl))) (hq.2.2.2.2.2 (fun z => z.elim (pk_nn (by decide) (by decide) hc28) (pk_nn (by decide) (by decide) hc63)))
                | (exfalso; omega)
      · have hc63 : ¬ ((nxC g p) = 124) := fun z => hc63 ((nI_eqU (by omega) (by omega)).mpr z)
        first
          | exact Ev.wk (Ext.cons rfl rfl (Ext.cons rfl rfl (Ext.nil rfl))) (hq.2.1 _ _ (pk_nx (by decide) (by decide) hc28) hFa (by first | exact hla | exact plT_le _ hla))
          | exact Ev.wk (Ext.cons rfl rfl (Ext.cons rfl rfl (Ext.nil rfl))) (hq.2.2.2.2.1 _ _ (pk_nx (by decide) (by decide) hc63) hFa hla)
          | exact Ev.wk (Ext.cons rfl rfl (Ext.cons rfl rfl (Ext.nil rfl))) (hq.2.2.2.2.2 (fun z => z.elim (pk_nn (by decide) (by decide) hc28) (pk_nn (by decide) (by decide) hc63)))
          | (exfalso; omega)
theorem K_exp3_ {L : Nat} {xs : Nat → Int32} (d : Nat) (g : Nat → Nat → Nat) (hl : Nat → Nat → Int64) (T c e : Nat) (hT : TbT T) (hX : TX g) (p le li : Nat) (l : List Nat) (hp : p ≤ g 166 17) (hlp : l.length ≤ p) {Q : Po} (hq : (∀ q o lc, EK g 3 p q o lc → ¬ (pkS g q = 38 ∨ pkS g q = 124) → Q none (HN (RT g T q 0 le li (l ++ (lc ++ oL o))) hl (RF (3, T, c, e)))) ∧ (∀ q l', EX g 3 p q → l'.length ≤ 100 → Q none (HN (RT g T q 1 le li l') hl (RF (3, T, c, e))))) : Ev L xs (d + 10) 53 0 [(0, .ref 5), (1, .int (nI 3))] [] (HN (RT g T p 0 le li l) hl (RF (3, T, c, e))) Q := by
  have hN := hX.1
  have loop : ∀ k, k ≤ 100 → ∀ (s : Nat) (o : Bool) (lc : List Nat), EK g 3 p s o lc → p + k + 3 ≤ s → Ev L xs (d + 10) 53 9 [(3, .int (nI k)), (2, .int (nI (bn o))), (0, .ref 5), (1, .int (nI 3))] [] (HN (RT g T s 0 le li (l ++ lc)) hl (RF (3, T, c, e))) Q := by
    refine for_ind 100 _ (fun k hk hnext => ?_)
    intro s o lc hE hks
    have hE1 := hE.1
    have hE2 := hE.2.1
    have hE3 := hE.2.2.1
    have hll : (l ++ lc).length = l.length + lc.length := List.length_append
    refine K_turn3 d g hl T c e hT hX s le li (l ++ lc) k o (by omega) hE2 (by omega) ⟨fun q lf hs hF => ?_, fun q l' hs hF hl' => ?_, fun ho q lf hs hF => ?_, fun ho q lf hs hF => ?_, fun q l' hs hF hl' => ?_, fun hs => ?_⟩
    · have h1 := hF.2.1
      have h2 := hF.2.2.1
      rw [plT_lt (by rw [List.length_append]; omega)]
      have hx := hnext (by omega) q o _ (hE.and hs hF) (by have := hF.1; omega)
      simpa only [List.append_assoc] using hx
    · exact K_endX (d + 9) g hl T c e hT hX q le li l' o hl' (fun l2 h2 => hq.2 _ _ (EX.and hE hs hF) h2)
    · subst ho
      have h1 := hF.2.1
      have h2 := hF.2.2.1
      have h3 : (oL true).length = 1 := rfl
      rw [plT_lt (by omega)]
      have hx := hnext (by omega) q true _ (hE.or hs hF) (by have := hF.1; omega)
      have e1 : l ++ lc ++ [4294967172] ++ lf = l ++ (lc ++ oL true ++ lf) := by
        rw [show oL true = [4294967172] from rfl]
        simp only [List.append_assoc]
      rw [e1]
      exact hx
    · subst ho
      have hx := hnext (by omega) q true _ (hE.or hs hF) (by have := hF.1; omega)
      have e1 : l ++ lc ++ lf = l ++ (lc ++ oL false ++ lf) := by
        show l ++ lc ++ lf = l ++ (lc ++ [] ++ lf)
        rw [List.append_nil, List.append_assoc]
      rw [e1]
      exact hx
    · exact K_endX (d + 9) g hl T c e hT hX q le li l' true hl' (fun l2 h2 => hq.2 _ _ (EX.or hE hs hF) h2)
    · refine K_endO (d + 9) g hl T c e hT hX s le li (l ++ lc) o (by omega) ?_
      rw [List.append_assoc]
      exact hq.1 _ _ _ hE hs
  refine Ev.run 4 (pc' := 4) (lv' := [(2, .int (nI 0)), (0, .ref 5), (1, .int (nI 3))]) (st' := [.int (nI 3), .ref 5]) (h' := HN (RT g T p 0 le li l) hl (RF (3, T, c, e))) rfl ?_
  refine Ev.call (a := 54) (as := [.ref 5, .int (nI 3)]) (rest := []) (lv0 := [(0, .ref 5), (1, .int (nI 3))]) (Q1 := (fun z0 h' => (∃ (q : Nat) (lf : List Nat), FK g 3 p q lf ∧ z0 = none ∧ h' = HN (RT g T q 0 le li (l ++ lf)) hl (RF (3, T, c, e))) ∨ (∃ (q : Nat) (l' : List Nat), FX g 3 p q ∧ l'.length ≤ 100 ∧ z0 = none ∧ h' = HN (RT g T q 1 le li l') hl (RF (3, T, c, e))))) rfl rfl (K_fac3_ _ _ _ _ _ _ hT hX p le li l (by first | omega | exact nx_lt (by omega)) (by omega) ⟨fun q lf hz => Or.inl ⟨q, lf, hz, rfl, rfl⟩, fun q l' hz hz2 => Or.inr ⟨q, l', hz, hz2, rfl, rfl⟩⟩) (fun r h' hr => ?_)
  rcases hr with ⟨qa, lfa, hFa, rfl, rfl⟩ | ⟨qa, la, hFa, hla, rfl, rfl⟩
  · skip
    have hF1a := hFa.1
    have hF2a := hFa.2.1
    have hF3a := hFa.2.2.1
    have hlla : (l ++ lfa).length = (l).length + lfa.length := List.length_append
    refine Ev.run 2 (pc' := 9) (lv' := [(3, .int (nI 0)), (2, .int (nI 0)), (0, .ref 5), (1, .int (nI 3))]) (st' := []) (h' := HN (RT g T qa 0 le li (l ++ lfa)) hl (RF (3, T, c, e))) rfl ?_
    exact Ev.wk (Ext.cons rfl rfl (Ext.cons rfl rfl (Ext.cons rfl rfl (Ext.cons rfl rfl (Ext.nil rfl))))) (loop 0 (Nat.zero_le _) qa false lfa (EK.s hFa) (by have := hFa.1; omega))
  · skip
    have hF2a := hFa.2.1
    refine Ev.run 2 (pc' := 9) (lv' := [(3, .int (nI 0)), (2, .int (nI 0)), (0, .ref 5), (1, .int (nI 3))]) (st' := []) (h' := HN (RT g T qa 1 le li la) hl (RF (3, T, c, e))) rfl ?_
    refine Ev.run 6 (pc' := 102) (lv' := [(3, .int (nI 0)), (2, .int (nI 0)), (0, .ref 5), (1, .int (nI 3))]) (st' := []) (h' := HN (RT g T qa 1 le li la) hl (RF (3, T, c, e))) rfl ?_
    exact Ev.wk (Ext.cons rfl rfl (Ext.cons rfl rfl (Ext.nil rfl))) (K_endX (d + 9) g hl T c e hT hX qa le li la false hla (fun l2 h2 => hq.2 _ _ (EX.s hFa) h2))
theorem K_fac2_ {L : Nat} {xs : Nat → Int32} (d : Nat) (g : Nat → Nat → Nat) (hl : Nat → Nat → Int64) (T c e : Nat) (hT : TbT T) (hX : TX g) (p le li : Nat) (l : List Nat) (hp : p ≤ g 166 17) (hlp : l.length ≤ p) {Q : Po} (hq : (∀ q lf, FK g 2 p q lf → Q none (HN (RT g T q 0 le li (l ++ lf)) hl (RF (3, T, c, e)))) ∧ (∀ q l', FX g 2 p q → l'.length ≤ 100 → Q none (HN (RT g T q 1 le li l') hl (RF (3, T, c, e))))) : Ev L xs (d + 11) 54 0 [(0, .ref 5), (1, .int (nI 2))] [] (HN (RT g T p 0 le li l) hl (RF (3, T, c, e))) Q := by
  have hN := hX.1
  have hnx := nx_le hX p
  refine Ev.run 12 (pc' := 23) (lv' := [(2, .int (nI 1)), (0, .ref 5), (1, .int (nI 2))]) (st' := [.ref 5]) (h' := HN (RT g T p 0 le li l) hl (RF (3, T, c, e))) rfl ?_
  refine Ev.call (a := 59) (as := [.ref 5]) (rest := []) (lv0 := [(0, .ref 5)]) (Q1 := (fun z0 h' => z0 = some (.int (nI (nxC g p))) ∧ h' = HN (RT g T p 0 le li l) hl (RF (3, T, c, e)))) rfl rfl (K_next _ _ _ _ _ _ hT hX p _ _ l 0 (by omega) ⟨rfl, rfl⟩) (fun r h' hr => ?_)
  obtain ⟨rfl, rfl⟩ := hr
  refine Ev.run 2 (pc' := (if nI (nxC g p) = nI 33 then 31 else 60)) (lv' := [(2, .int (nI 1)), (0, .ref 5), (1, .int (nI 2))]) (st' := []) (h' := HN (RT g T p 0 le li l) hl (RF (3, T, c, e))) rfl ?_
  refine Ev.ite (fun hc28 => ?_) (fun hc28 => ?_)
  · have hc28 : (nxC g p) = 33 := (nI_eqU (by omega) (by omega)).mp hc28
    refine Ev.run 5 (pc' := 38) (lv' := [(2, .int (nI 1)), (0, .ref 5), (1, .int (nI 2))]) (st' := [.int (nI p + nI 1), .ref 5]) (h' := HN (RT g T p 0 le li l) hl (RF (3, T, c, e))) rfl ?_
    refine Ev.topI (nI_add _ _) ?_
    refine Ev.run 1 (pc' := 41) (lv' := [(2, .int (nI 1)), (0, .ref 5), (1, .int (nI 2))]) (st' := []) (h' := setI (HN (RT g T p 0 le li l) hl (RF (3, T, c, e))) 5 2 (nI (p + 1))) rfl ?_
    refine Ev.hp (HN_set _ _ _ _ _ _) ?_
    refine Ev.hp (congrArg (fun z => HN z hl (RF (3, T, c, e))) (RT_52 _ _ _ _ _ _ _)) ?_
    refine Ev.run 4 (pc' := 45) (lv' := [(2, .int (nI 1)), (0, .ref 5), (1, .int (nI 2))]) (st' := [.int (nI 3), .ref 5]) (h' := HN (RT g T (p + 1) 0 le li l) hl (RF (3, T, c, e))) rfl ?_
    refine Ev.call (a := 54) (as := [.ref 5, .int (nI 3)]) (rest := []) (lv0 := [(0, .ref 5), (1, .int (nI 3))]) (Q1 := (fun z0 h' => (∃ (q : Nat) (lf : List Nat), FK g 3 (p + 1) q lf ∧ z0 = none ∧ h' = HN (RT g T q 0 le li (l ++ lf)) hl (RF (3, T, c, e))) ∨ (∃ (q : Nat) (l' : List Nat), FX g 3 (p + 1) q ∧ l'.length ≤ 100 ∧ z0 = none ∧ h' = HN (RT g T q 1 le li l') hl (RF (3, T, c, e))))) rfl rfl (K_fac3_ _ _ _ _ _ _ hT hX (p + 1) le li l (by first | omega | exact nx_lt (by omega)) (by omega) ⟨fun q lf hz => Or.inl ⟨q, lf, hz, rfl, rfl⟩, fun q l' hz hz2 => Or.inr ⟨q, l', hz, hz2, rfl, rfl⟩⟩) (fun r h' hr => ?_)
    rcases hr with ⟨qa, lfa, hFa, rfl, rfl⟩ | ⟨qa, la, hFa, hla, rfl, rfl⟩
    · skip
      have hF1a := hFa.1
      have hF2a := hFa.2.1
      have hF3a := hFa.2.2.1
      have hlla : (l ++ lfa).length = (l).length + lfa.length := List.length_append
      refine Ev.run 3 (pc' := 54) (lv' := [(2, .int (nI 1)), (0, .ref 5), (1, .int (nI 2))]) (st' := [.int (nI 4294967293), .ref T]) (h' := HN (RT g T qa 0 le li (l ++ lfa)) hl (RF (3, T, c, e))) rfl ?_
      refine Ev_callV (a := 65) (as := [.ref T, .int (nI 4294967293)]) (rest := []) (lv0 := [(0, .ref T), (1, .int (nI 4294967293))]) (Q1 := (fun z0 h' => z0 = none ∧ h' = HN (RT g T qa 0 le li (plT (l ++ lfa) 4294967263)) hl (RF (3, T, c, e)))) rfl rfl rfl rfl rfl hT.1.k rfl rfl rfl (K_tput _ _ _ _ _ _ hT hX qa le li (l ++ lfa) 0 4294967293 4294967263 rfl (by first | omega | exact plT_le _ (by omega)) ⟨rfl, rfl⟩) (fun r h' hr => ?_)
      obtain ⟨rfl, rfl⟩ := hr
      refine Ev.run 1 (pc' := 128) (lv' := [(2, .int (nI 1)), (0, .ref 5), (1, .int (nI 2))]) (st' := []) (h' := HN (RT g T qa 0 le li (plT (l ++ lfa) 4294967263)) hl (RF (3, T, c, e))) rfl ?_
      refine Ev.ret (v := none) rfl ?_
      first
        | (rw [plT_lt (by omega), List.append_assoc]; exact hq.1 _ _ (FK.n hp (by decide) (pk_nx (by decide) (by decide) hc28) hFa))
        | exact hq.2 _ _ (FX.n hp (by decide) (pk_nx (by decide) (by decide) hc28) hFa) (plT_le _ (by omega))
        | exact hq.1 _ _ (FK.p hp (by decide) (pk_nx (by decide) (by decide) hc70) hFb hGb hxe)
        | exact hq.2 _ _ (FX.p2 hp (by decide) (pk_nx (by decide) (by decide) hc70) hFb hGb hxe) (by rw [List.length_append, List.length_append]; omega)
        | exact hq.2 _ _ (FX.p hp (by decide) (pk_nx (by decide) (by decide) hc70) hFb) (by omega)
    · skip
      have hF2a := hFa.2.1
      refine Ev.run 3 (pc' := 54) (lv' := [(2, .int (nI 1)), (0, .ref 5), (1, .int (nI 2))]) (st' := [.int (nI 4294967293), .ref T]) (h' := HN (RT g T qa 1 le li la) hl (RF (3, T, c, e))) rfl ?_
      refine Ev_callV (a := 65) (as := [.ref T, .int (nI 4294967293)]) (rest := []) (lv0 := [(0, .ref T), (1, .int (nI 4294967293))]) (Q1 := (fun z0 h' => z0 = none ∧ h' = HN (RT g T qa 1 le li (plT la 4294967263)) hl (RF (3, T, c, e)))) rfl rfl rfl rfl rfl hT.1.k rfl rfl rfl (K_tput _ _ _ _ _ _ hT hX qa le li la 1 4294967293 4294967263 rfl (by first | omega | exact plT_le _ (by omega)) ⟨rfl, rfl⟩) (fun r h' hr => ?_)
      obtain ⟨rfl, rfl⟩ := hr
      refine Ev.run 1 (pc' := 128) (lv' := [(2, .int (nI 1)), (0, .ref 5), (1, .int (nI 2))]) (st' := []) (h' := HN (RT g T qa 1 le li (plT la 4294967263)) hl (RF (3, T, c, e))) rfl ?_
      refine Ev.ret (v := none) rfl ?_
      first
        | (rw [plT_lt (by omega), List.append_assoc]; exact hq.1 _ _ (FK.n hp (by decide) (pk_nx (by decide) (by decide) hc28) hFa))
        | exact hq.2 _ _ (FX.n hp (by decide) (pk_nx (by decide) (by decide) hc28) hFa) (plT_le _ (by omega))
        | exact hq.1 _ _ (FK.p hp (by decide) (pk_nx (by decide) (by decide) hc70) hFb hGb hxe)
        | exact hq.2 _ _ (FX.p2 hp (by decide) (pk_nx (by decide) (by decide) hc70) hFb hGb hxe) (by rw [List.length_append, List.length_append]; omega)
        | exact hq.2 _ _ (FX.p hp (by decide) (pk_nx (by decide) (by decide) hc70) hFb) (by omega)
  · have hc28 : ¬ ((nxC g p) = 33) := fun z => hc28 ((nI_eqU (by omega) (by omega)).mpr z)
    refine Ev.run 3 (pc' := 65) (lv' := [(2, .int (nI 1)), (0, .ref 5), (1, .int (nI 2))]) (st' := [.ref 5]) (h' := HN (RT g T p 0 le li l) hl (RF (3, T, c, e))) rfl ?_
    refine Ev.call (a := 59) (as := [.ref 5]) (rest := []) (lv0 := [(0, .ref 5)]) (Q1 := (fun z0 h' => z0 = some (.int (nI (nxC g p))) ∧ h' = HN (RT g T p 0 le li l) hl (RF (3, T, c, e)))) rfl rfl (K_next _ _ _ _ _ _ hT hX p _ _ l 0 (by omega) ⟨rfl, rfl⟩) (fun r h' hr => ?_)
    obtain ⟨rfl, rfl⟩ := hr
    refine Ev.run 2 (pc' := (if nI (nxC g p) = nI 40 then 73 else 99)) (lv' := [(2, .int (nI 1)), (0, .ref 5), (1, .int (nI 2))]) (st' := []) (h' := HN (RT g T p 0 le li l) hl (RF (3, T, c, e))) rfl ?_
    refine Ev.ite (fun hc70 => ?_) (fun hc70 => ?_)
    · have hc70 : (nxC g p) = 40 := (nI_eqU (by omega) (by omega)).mp hc70
      refine Ev.run 5 (pc' := 80) (lv' := [(2, .int (nI 1)), (0, .ref 5), (1, .int (nI 2))]) (st' := [.int (nI p + nI 1), .ref 5]) (h' := HN (RT g T p 0 le li l) hl (RF (3, T, c, e))) rfl ?_
      refine Ev.topI (nI_add _ _) ?_
      refine Ev.run 1 (pc' := 83) (lv' := [(2, .int (nI 1)), (0, .ref 5), (1, .int (nI 2))]) (st' := []) (h' := setI (HN (RT g T p 0 le li l) hl (RF (3, T, c, e))) 5 2 (nI (p + 1))) rfl ?_
      refine Ev.hp (HN_set _ _ _ _ _ _) ?_
      refine Ev.hp (congrArg (fun z => HN z hl (RF (3, T, c, e))) (RT_52 _ _ _ _ _ _ _)) ?_
      refine Ev.run 4 (pc' := 87) (lv' := [(2, .int (nI 1)), (0, .ref 5), (1, .int (nI 2))]) (st' := [.int (nI 3), .ref 5]) (h' := HN (RT g T (p + 1) 0 le li l) hl (RF (3, T, c, e))) rfl ?_
      refine Ev.call (a := 53) (as := [.ref 5, .int (nI 3)]) (rest := []) (lv0 := [(0, .ref 5), (1, .int (nI 3))]) (Q1 := (fun z0 h' => (∃ (q : Nat) (o : Bool) (lc : List Nat), EK g 3 (p + 1) q o lc ∧ ¬ (pkS g q = 38 ∨ pkS g q = 124) ∧ z0 = none ∧ h' = HN (RT g T q 0 le li (l ++ (lc ++ oL o))) hl (RF (3, T, c, e))) ∨ (∃ (q : Nat) (l' : List Nat), EX g 3 (p + 1) q ∧ l'.length ≤ 100 ∧ z0 = none ∧ h' = HN (RT g T q 1 le li l') hl (RF (3, T, c, e))))) rfl rfl (K_exp3_ _ _ _ _ _ _ hT hX (p + 1) le li l (by first | omega | exact nx_lt (by omega)) (by omega) ⟨fun q o lc hz hz3 => Or.inl ⟨q, o, lc, hz, hz3, rfl, rfl⟩, fun q l' hz hz2 => Or.inr ⟨q, l', hz, hz2, rfl, rfl⟩⟩) (fun r h' hr => ?_)
      rcases hr with ⟨qb, ob, lcb, hFb, hGb, rfl, rfl⟩ | ⟨qb, lb, hFb, hlb, rfl, rfl⟩
      · skip
        have hF1b := hFb.1
        have hF2b := hFb.2.1
        have hF3b := hFb.2.2.1
        refine Ev.run 2 (pc' := 93) (lv' := [(2, .int (nI 1)), (0, .ref 5), (1, .int (nI 2))]) (st' := [.int (nI 41), .ref 5]) (h' := HN (RT g T qb 0 le li (l ++ (lcb ++ oL ob))) hl (RF (3, T, c, e))) rfl ?_
        refine Ev.call (a := 58) (as := [.ref 5, .int (nI 41)]) (rest := []) (lv0 := [(0, .ref 5), (1, .int (nI 41))]) (Q1 := (fun z0 h' => (pkS g qb = 41 ∧ z0 = none ∧ h' = HN (RT g T (qb + 1) 0 le li (l ++ (lcb ++ oL ob))) hl (RF (3, T, c, e))) ∨ (¬ pkS g qb = 41 ∧ z0 = none ∧ h' = HN (RT g T qb 1 le li (l ++ (lcb ++ oL ob))) hl (RF (3, T, c, e))))) rfl rfl (K_exp0 _ _ _ _ _ _ hT hX qb le li (l ++ (lcb ++ oL ob)) 41 (by omega) (by decide) (by decide) ⟨fun hz => Or.inl ⟨hz, rfl, rfl⟩, fun hz => Or.inr ⟨hz, rfl, rfl⟩⟩) (fun r h' hr => ?_)
        rcases hr with ⟨hxe, rfl, rfl⟩ | ⟨hxe, rfl, rfl⟩
        · skip
          refine Ev.run 1 (pc' := 128) (lv' := [(2, .int (nI 1)), (0, .ref 5), (1, .int (nI 2))]) (st' := []) (h' := HN (RT g T (qb + 1) 0 le li (l ++ (lcb ++ oL ob))) hl (RF (3, T, c, e))) rfl ?_
          refine Ev.ret (v := none) rfl ?_
          first
            | (rw [plT_lt (by omega), List.append_assoc]; exact hq.1 _ _ (FK.n hp (by decide) (pk_nx (by decide) (by decide) hc28) hFa))
            | exact hq.2 _ _ (FX.n hp (by decide) (pk_nx (by decide) (by decide) hc28) hFa) (plT_le _ (by omega))
            | exact hq.1 _ _ (FK.p hp (by decide) (pk_nx (by decide) (by decide) hc70) hFb hGb hxe)
            | exact hq.2 _ _ (FX.p2 hp (by decide) (pk_nx (by decide) (by decide) hc70) hFb hGb hxe) (by rw [List.length_append, List.length_append]; omega)
            | exact hq.2 _ _ (FX.p hp (by decide) (pk_nx (by decide) (by decide) hc70) hFb) (by omega)
        · skip
          refine Ev.run 1 (pc' := 128) (lv' := [(2, .int (nI 1)), (0, .ref 5), (1, .int (nI 2))]) (st' := []) (h' := HN (RT g T qb 1 le li (l ++ (lcb ++ oL ob))) hl (RF (3, T, c, e))) rfl ?_
          refine Ev.ret (v := none) rfl ?_
          first
            | (rw [plT_lt (by omega), List.append_assoc]; exact hq.1 _ _ (FK.n hp (by decide) (pk_nx (by decide) (by decide) hc28) hFa))
            | exact hq.2 _ _ (FX.n hp (by decide) (pk_nx (by decide) (by decide) hc28) hFa) (plT_le _ (by omega))
            | exact hq.1 _ _ (FK.p hp (by decide) (pk_nx (by decide) (by decide) hc70) hFb hGb hxe)
            | exact hq.2 _ _ (FX.p2 hp (by decide) (pk_nx (by decide) (by decide) hc70) hFb hGb hxe) (by rw [List.length_append, List.length_append]; omega)
            | exact hq.2 _ _ (FX.p hp (by decide) (pk_nx (by decide) (by decide) hc70) hFb) (by omega)
      · skip
        have hF2b := hFb.2.1
        refine Ev.run 2 (pc' := 93) (lv' := [(2, .int (nI 1)), (0, .ref 5), (1, .int (nI 2))]) (st' := [.int (nI 41), .ref 5]) (h' := HN (RT g T qb 1 le li lb) hl (RF (3, T, c, e))) rfl ?_
        refine Ev.call (a := 58) (as := [.ref 5, .int (nI 41)]) (rest := []) (lv0 := [(0, .ref 5), (1, .int (nI 41))]) (Q1 := (fun z0 h' => z0 = none ∧ h' = HN (RT g T qb 1 le li lb) hl (RF (3, T, c, e)))) rfl rfl (K_exp1 _ _ _ _ _ _ hT hX qb le li lb _ ⟨rfl, rfl⟩) (fun r h' hr => ?_)
        obtain ⟨rfl, rfl⟩ := hr
        refine Ev.run 1 (pc' := 128) (lv' := [(2, .int (nI 1)), (0, .ref 5), (1, .int (nI 2))]) (st' := []) (h' := HN (RT g T qb 1 le li lb) hl (RF (3, T, c, e))) rfl ?_
        refine Ev.ret (v := none) rfl ?_
        first
          | (rw [plT_lt (by omega), List.append_assoc]; exact hq.1 _ _ (FK.n hp (by decide) (pk_nx (by decide) (by decide) hc28) hFa))
          | exact hq.2 _ _ (FX.n hp (by decide) (pk_nx (by decide) (by decide) hc28) hFa) (plT_le _ (by omega))
          | exact hq.1 _ _ (FK.p hp (by decide) (pk_nx (by decide) (by decide) hc70) hFb hGb hxe)
          | exact hq.2 _ _ (FX.p2 hp (by decide) (pk_nx (by decide) (by decide) hc70) hFb hGb hxe) (by rw [List.length_append, List.length_append]; omega)
          | exact hq.2 _ _ (FX.p hp (by decide) (pk_nx (by decide) (by decide) hc70) hFb) (by omega)
    · have hc70 : ¬ ((nxC g p) = 40) := fun z => hc70 ((nI_eqU (by omega) (by omega)).mpr z)
      refine Ev.wk (Ext.cons rfl rfl (Ext.nil rfl)) (K_facT (d + 4) _ _ _ _ _ hT hX p le li l (by omega) (by omega) ⟨fun cd q hz => ?_, fun q hz l' hl' => ?_⟩)
      · have hF : FK g 2 p q [cd] := FK.t hp hz
        have hF1 := hF.1
        have hF2 := hF.2.1
        rw [plT_lt (by omega)]
        exact hq.1 _ _ hF
      · exact hq.2 _ _ (FX.t hp hz (by decide) (fun _ z => z.elim (pk_nn (by decide) (by decide) hc28) (pk_nn (by decide) (by decide) hc70))) hl'
theorem K_turn2 {L : Nat} {xs : Nat → Int32} (d : Nat) (g : Nat → Nat → Nat) (hl : Nat → Nat → Int64) (T c e : Nat) (hT : TbT T) (hX : TX g) (p le li : Nat) (l : List Nat) (k : Nat) (o : Bool) (hk : k < 100) (hp : p ≤ g 166 17) (hlp : l.length + (oL o).length ≤ p) {Q : Po} (hq : (∀ q lf, pkS g p = 38 → FK g 2 (p + 1) q lf → Ev L xs (d + 12) 53 9 [(3, .int (nI (k + 1))), (2, .int (nI (bn o))), (0, .ref 5), (1, .int (nI 2))] [] (HN (RT g T q 0 le li (plT (l ++ lf) 4294967258)) hl (RF (3, T, c, e))) Q) ∧ (∀ q l', pkS g p = 38 → FX g 2 (p + 1) q → l'.length ≤ 100 → Ev L xs (d + 12) 53 102 [(2, .int (nI (bn o))), (0, .ref 5)] [] (HN (RT g T q 1 le li l') hl (RF (3, T, c, e))) Q) ∧ (o = true → ∀ q lf, pkS g p = 124 → FK g 2 (p + 1) q lf → Ev L xs (d + 12) 53 9 [(3, .int (nI (k + 1))), (2, .int (nI 1)), (0, .ref 5), (1, .int (nI 2))] [] (HN (RT g T q 0 le li (plT l 4294967172 ++ lf)) hl (RF (3, T, c, e))) Q) ∧ (o = false → ∀ q lf, pkS g p = 124 → FK g 2 (p + 1) q lf → Ev L xs (d + 12) 53 9 [(3, .int (nI (k + 1))), (2, .int (nI 1)), (0, .ref 5), (1, .int (nI 2))] [] (HN (RT g T q 0 le li (l ++ lf)) hl (RF (3, T, c, e))) Q) ∧ (∀ q l', pkS g p = 124 → FX g 2 (p + 1) q → l'.length ≤ 100 → Ev L xs (d + 12) 53 102 [(2, .int (nI 1)), (0, .ref 5)] [] (HN (RT g T q 1 le li l') hl (RF (3, T, c, e))) Q) ∧ (¬ (pkS g p = 38 ∨ pkS g p = 124) → Ev L xs (d + 12) 53 102 [(2, .int (nI (bn o))), (0, .ref 5)] [] (HN (RT g T p 0 le li l) hl (RF (3, T, c, e))) Q)) : Ev L xs (d + 12) 53 9 [(3, .int (nI k)), (2, .int (nI (bn o))), (0, .ref 5), (1, .int (nI 2))] [] (HN (RT g T p 0 le li l) hl (RF (3, T, c, e))) Q := by
  have hN := hX.1
  have hnx := nx_le hX p
  refine Ev.run 3 (pc' := (if nI 100 ≤ nI k then 102 else 15)) (lv' := [(3, .int (nI k)), (2, .int (nI (bn o))), (0, .ref 5), (1, .int (nI 2))]) (st' := []) (h' := HN (RT g T p 0 le li l) hl (RF (3, T, c, e))) rfl ?_
  refine Ev.ite (fun hc12 => ?_) (fun hc12 => ?_)
  · have hc12 : 100 ≤ k := (nI_leI (by omega) (by omega)).mp hc12
    first
      | exact Ev.wk (Ext.cons rfl rfl (Ext.cons rfl rfl (Ext.nil rfl))) (hq.2.1 _ _ (pk_nx (by decide) (by decide) hc28) hFa (by first | exact hla | exact plT_le _ hla))
      | exact Ev.wk (Ext.cons rfl rfl (Ext.cons rfl rfl (Ext.nil rfl))) (hq.2.2.2.2.1 _ _ (pk_nx (by decide) (by decide) hc63) hFa hla)
      | exact Ev.wk (Ext.cons rfl rfl (Ext.cons rfl rfl (Ext.nil rfl))) (hq.2.2.2.2.2 (fun z => z.elim (pk_nn (by decide) (by decide) hc28) (pk_nn (by decide) (by decide) hc63)))
      | (exfalso; omega)
  · have hc12 : ¬ (100 ≤ k) := fun z => hc12 ((nI_leI (by omega) (by omega)).mpr z)
    refine Ev.run 4 (pc' := 23) (lv' := [(3, .int (nI k)), (2, .int (nI (bn o))), (0, .ref 5), (1, .int (nI 2))]) (st' := [.ref 5]) (h' := HN (RT g T p 0 le li l) hl (RF (3, T, c, e))) rfl ?_
    refine Ev.call (a := 59) (as := [.ref 5]) (rest := []) (lv0 := [(0, .ref 5)]) (Q1 := (fun z0 h' => z0 = some (.int (nI (nxC g p))) ∧ h' = HN (RT g T p 0 le li l) hl (RF (3, T, c, e)))) rfl rfl (K_next _ _ _ _ _ _ hT hX p _ _ l 0 (by omega) ⟨rfl, rfl⟩) (fun r h' hr => ?_)
    obtain ⟨rfl, rfl⟩ := hr
    refine Ev.run 2 (pc' := (if nI (nxC g p) = nI 38 then 31 else 57)) (lv' := [(3, .int (nI k)), (2, .int (nI (bn o))), (0, .ref 5), (1, .int (nI 2))]) (st' := []) (h' := HN (RT g T p 0 le li l) hl (RF (3, T, c, e))) rfl ?_
    refine Ev.ite (fun hc28 => ?_) (fun hc28 => ?_)
    · have hc28 : (nxC g p) = 38 := (nI_eqU (by omega) (by omega)).mp hc28
      refine Ev.run 5 (pc' := 38) (lv' := [(3, .int (nI k)), (2, .int (nI (bn o))), (0, .ref 5), (1, .int (nI 2))]) (st' := [.int (nI p + nI 1), .ref 5]) (h' := HN (RT g T p 0 le li l) hl (RF (3, T, c, e))) rfl ?_
      refine Ev.topI (nI_add _ _) ?_
      refine Ev.run 1 (pc' := 41) (lv' := [(3, .int (nI k)), (2, .int (nI (bn o))), (0, .ref 5), (1, .int (nI 2))]) (st' := []) (h' := setI (HN (RT g T p 0 le li l) hl (RF (3, T, c, e))) 5 2 (nI (p + 1))) rfl ?_
      refine Ev.hp (HN_set _ _ _ _ _ _) ?_
      refine Ev.hp (congrArg (fun z => HN z hl (RF (3, T, c, e))) (RT_52 _ _ _ _ _ _ _)) ?_
      refine Ev.run 2 (pc' := 43) (lv' := [(3, .int (nI k)), (2, .int (nI (bn o))), (0, .ref 5), (1, .int (nI 2))]) (st' := [.int (nI 2), .ref 5]) (h' := HN (RT g T (p + 1) 0 le li l) hl (RF (3, T, c, e))) rfl ?_
      refine Ev.call (a := 54) (as := [.ref 5, .int (nI 2)]) (rest := []) (lv0 := [(0, .ref 5), (1, .int (nI 2))]) (Q1 := (fun z0 h' => (∃ (q : Nat) (lf : List Nat), FK g 2 (p + 1) q lf ∧ z0 = none ∧ h' = HN (RT g T q 0 le li (l ++ lf)) hl (RF (3, T, c, e))) ∨ (∃ (q : Nat) (l' : List Nat), FX g 2 (p + 1) q ∧ l'.length ≤ 100 ∧ z0 = none ∧ h' = HN (RT g T q 1 le li l') hl (RF (3, T, c, e))))) rfl rfl (K_fac2_ _ _ _ _ _ _ hT hX (p + 1) le li l (by first | omega | exact nx_lt (by omega)) (by first | omega | exact Nat.le_trans (plT_ln _ _) (by omega)) ⟨fun q lf hz => Or.inl ⟨q, lf, hz, rfl, rfl⟩, fun q l' hz hz2 => Or.inr ⟨q, l', hz, hz2, rfl, rfl⟩⟩) (fun r h' hr => ?_)
      rcases hr with ⟨qa, lfa, hFa, rfl, rfl⟩ | ⟨qa, la, hFa, hla, rfl, rfl⟩
      · skip
        have hF1a := hFa.1
        have hF2a := hFa.2.1
        have hF3a := hFa.2.2.1
        have hlla : (l ++ lfa).length = (l).length + lfa.length := List.length_append
        refine Ev.run 3 (pc' := 51) (lv' := [(3, .int (nI k)), (2, .int (nI (bn o))), (0, .ref 5), (1, .int (nI 2))]) (st' := [.int (nI 4294967295), .ref T]) (h' := HN (RT g T qa 0 le li (l ++ lfa)) hl (RF (3, T, c, e))) rfl ?_
        refine Ev_callV (a := 65) (as := [.ref T, .int (nI 4294967295)]) (rest := []) (lv0 := [(0, .ref T), (1, .int (nI 4294967295))]) (Q1 := (fun z0 h' => z0 = none ∧ h' = HN (RT g T qa 0 le li (plT (l ++ lfa) 4294967258)) hl (RF (3, T, c, e)))) rfl rfl rfl rfl rfl hT.1.k rfl rfl rfl (K_tput _ _ _ _ _ _ hT hX qa le li (l ++ lfa) 0 4294967295 4294967258 rfl (by first | omega | (rw [List.length_append]; omega)) ⟨rfl, rfl⟩) (fun r h' hr => ?_)
        obtain ⟨rfl, rfl⟩ := hr
        refine Ev.run 2 (pc' := 99) (lv' := [(3, .int (nI k + 1)), (2, .int (nI (bn o))), (0, .ref 5), (1, .int (nI 2))]) (st' := []) (h' := HN (RT g T qa 0 le li (plT (l ++ lfa) 4294967258)) hl (RF (3, T, c, e))) rfl ?_
        refine Ev.lvE (congrArg (fun z => (3, Value.int z) :: [(2, .int (nI (bn o))), (0, .ref 5), (1, .int (nI 2))]) (nI_1 _)) ?_
        refine Ev.run 1 (pc' := 9) (lv' := [(3, .int (nI (k + 1))), (2, .int (nI (bn o))), (0, .ref 5), (1, .int (nI 2))]) (st' := []) (h' := HN (RT g T qa 0 le li (plT (l ++ lfa) 4294967258)) hl (RF (3, T, c, e))) rfl ?_
        first
          | exact Ev.wk (Ext.cons rfl rfl (Ext.cons rfl rfl (Ext.cons rfl rfl (Ext.cons rfl rfl (Ext.nil rfl))))) (hq.1 _ _ (pk_nx (by decide) (by decide) hc28) hFa)
          | exact Ev.wk (Ext.cons rfl rfl (Ext.cons rfl rfl (Ext.cons rfl rfl (Ext.cons rfl rfl (Ext.nil rfl))))) (hq.2.2.1 (by assumption) _ _ (pk_nx (by decide) (by decide) hc63) hFa)
          | exact Ev.wk (Ext.cons rfl rfl (Ext.cons rfl rfl (Ext.cons rfl rfl (Ext.cons rfl rfl (Ext.nil rfl))))) (hq.2.2.2.1 (by assumption) _ _ (pk_nx (by decide) (by decide) hc63) hFa)
          | (exfalso; omega)
      · skip
        have hF2a := hFa.2.1
        refine Ev.run 3 (pc' := 51) (lv' := [(3, .int (nI k)), (2, .int (nI (bn o))), (0, .ref 5), (1, .int (nI 2))]) (st' := [.int (nI 4294967295), .ref T]) (h' := HN (RT g T qa 1 le li la) hl (RF (3, T, c, e))) rfl ?_
        refine Ev_callV (a := 65) (as := [.ref T, .int (nI 4294967295)]) (rest := []) (lv0 := [(0, .ref T), (1, .int (nI 4294967295))]) (Q1 := (fun z0 h' => z0 = none ∧ h' = HN (RT g T qa 1 le li (plT la 4294967258)) hl (RF (3, T, c, e)))) rfl rfl rfl rfl rfl hT.1.k rfl rfl rfl (K_tput _ _ _ _ _ _ hT hX qa le li la 1 4294967295 4294967258 rfl (by first | omega | (rw [List.length_append]; omega)) ⟨rfl, rfl⟩) (fun r h' hr => ?_)
        obtain ⟨rfl, rfl⟩ := hr
        refine Ev.run 2 (pc' := 99) (lv' := [(3, .int (nI k + 1)), (2, .int (nI (bn o))), (0, .ref 5), (1, .int (nI 2))]) (st' := []) (h' := HN (RT g T qa 1 le li (plT la 4294967258)) hl (RF (3, T, c, e))) rfl ?_
        refine Ev.lvE (congrArg (fun z => (3, Value.int z) :: [(2, .int (nI (bn o))), (0, .ref 5), (1, .int (nI 2))]) (nI_1 _)) ?_
        refine Ev.run 1 (pc' := 9) (lv' := [(3, .int (nI (k + 1))), (2, .int (nI (bn o))), (0, .ref 5), (1, .int (nI 2))]) (st' := []) (h' := HN (RT g T qa 1 le li (plT la 4294967258)) hl (RF (3, T, c, e))) rfl ?_
        refine Ev.run 3 (pc' := (if nI 100 ≤ nI (k + 1) then 102 else 15)) (lv' := [(3, .int (nI (k + 1))), (2, .int (nI (bn o))), (0, .ref 5), (1, .int (nI 2))]) (st' := []) (h' := HN (RT g T qa 1 le li (plT la 4294967258)) hl (RF (3, T, c, e))) rfl ?_
        refine Ev.ite (fun hc12 => ?_) (fun hc12 => ?_)
        · have hc12 : 100 ≤ (k + 1) := (nI_leI (by omega) (by omega)).mp hc12
          first
            | exact Ev.wk (Ext.cons rfl rfl (Ext.cons rfl rfl (Ext.nil rfl))) (hq.2.1 _ _ (pk_nx (by decide) (by decide) hc28) hFa (by first | exact hla | exact plT_le _ hla))
            | exact Ev.wk (Ext.cons rfl rfl (Ext.cons rfl rfl (Ext.nil rfl))) (hq.2.2.2.2.1 _ _ (pk_nx (by decide) (by decide) hc63) hFa hla)
            | exact Ev.wk (Ext.cons rfl rfl (Ext.cons rfl rfl (Ext.nil rfl))) (hq.2.2.2.2.2 (fun z => z.elim (pk_nn (by decide) (by decide) hc28) (pk_nn (by decide) (by decide) hc63)))
            | (exfalso; omega)
        · have hc12 : ¬ (100 ≤ (k + 1)) := fun z => hc12 ((nI_leI (by omega) (by omega)).mpr z)
          refine Ev.run 3 (pc' := 102) (lv' := [(3, .int (nI (k + 1))), (2, .int (nI (bn o))), (0, .ref 5), (1, .int (nI 2))]) (st' := []) (h' := HN (RT g T qa 1 le li (plT la 4294967258)) hl (RF (3, T, c, e))) rfl ?_
          first
            | exact Ev.wk (Ext.cons rfl rfl (Ext.cons rfl rfl (Ext.nil rfl))) (hq.2.1 _ _ (pk_nx (by decide) (by decide) hc28) hFa (by first | exact hla | exact plT_le _ hla))
            | exact Ev.wk (Ext.cons rfl rfl (Ext.cons rfl rfl (Ext.nil rfl))) (hq.2.2.2.2.1 _ _ (pk_nx (by decide) (by decide) hc63) hFa hla)
            | exact Ev.wk (Ext.cons rfl rfl (Ext.cons rfl rfl (Ext.nil rfl))) (hq.2.2.2.2.2 (fun z => z.elim (pk_nn (by decide) (by decide) hc28) (pk_nn (by decide) (by decide) hc63)))
            | (exfalso; omega)
    · have hc28 : ¬ ((nxC g p) = 38) := fun z => hc28 ((nI_eqU (by omega) (by omega)).mpr z)
      refine Ev.run 1 (pc' := 58) (lv' := [(3, .int (nI k)), (2, .int (nI (bn o))), (0, .ref 5), (1, .int (nI 2))]) (st' := [.ref 5]) (h' := HN (RT g T p 0 le li l) hl (RF (3, T, c, e))) rfl ?_
      refine Ev.call (a := 59) (as := [.ref 5]) (rest := []) (lv0 := [(0, .ref 5)]) (Q1 := (fun z0 h' => z0 = some (.int (nI (nxC g p))) ∧ h' = HN (RT g T p 0 le li l) hl (RF (3, T, c, e)))) rfl rfl (K_next _ _ _ _ _ _ hT hX p _ _ l 0 (by omega) ⟨rfl, rfl⟩) (fun r h' hr => ?_)
      obtain ⟨rfl, rfl⟩ := hr
      refine Ev.run 2 (pc' := (if nI (nxC g p) = nI 124 then 66 else 102)) (lv' := [(3, .int (nI k)), (2, .int (nI (bn o))), (0, .ref 5), (1, .int (nI 2))]) (st' := []) (h' := HN (RT g T p 0 le li l) hl (RF (3, T, c, e))) rfl ?_
      refine Ev.ite (fun hc63 => ?_) (fun hc63 => ?_)
      · have hc63 : (nxC g p) = 124 := (nI_eqU (by omega) (by omega)).mp hc63
        refine Ev.run 5 (pc' := 73) (lv' := [(3, .int (nI k)), (2, .int (nI (bn o))), (0, .ref 5), (1, .int (nI 2))]) (st' := [.int (nI p + nI 1), .ref 5]) (h' := HN (RT g T p 0 le li l) hl (RF (3, T, c, e))) rfl ?_
        refine Ev.topI (nI_add _ _) ?_
        refine Ev.run 1 (pc' := 76) (lv' := [(3, .int (nI k)), (2, .int (nI (bn o))), (0, .ref 5), (1, .int (nI 2))]) (st' := []) (h' := setI (HN (RT g T p 0 le li l) hl (RF (3, T, c, e))) 5 2 (nI (p + 1))) rfl ?_
        refine Ev.hp (HN_set _ _ _ _ _ _) ?_
        refine Ev.hp (congrArg (fun z => HN z hl (RF (3, T, c, e))) (RT_52 _ _ _ _ _ _ _)) ?_
        refine Ev.run 1 (pc' := 77) (lv' := [(3, .int (nI k)), (2, .int (nI (bn o))), (0, .ref 5), (1, .int (nI 2))]) (st' := [.int (nI (bn o))]) (h' := HN (RT g T (p + 1) 0 le li l) hl (RF (3, T, c, e))) rfl ?_
        refine Ev_bn (fun hb77 => ?_) (fun hb77 => ?_)
        · skip
          refine Ev.run 4 (pc' := 86) (lv' := [(3, .int (nI k)), (2, .int (nI (bn o))), (0, .ref 5), (1, .int (nI 2))]) (st' := [.int (nI 4294967294), .ref T]) (h' := HN (RT g T (p + 1) 0 le li l) hl (RF (3, T, c, e))) rfl ?_
          refine Ev_callV (a := 65) (as := [.ref T, .int (nI 4294967294)]) (rest := []) (lv0 := [(0, .ref T), (1, .int (nI 4294967294))]) (Q1 := (fun z0 h' => z0 = none ∧ h' = HN (RT g T (p + 1) 0 le li (plT l 4294967172)) hl (RF (3, T, c, e)))) rfl rfl rfl rfl rfl hT.1.k rfl rfl rfl (K_tput _ _ _ _ _ _ hT hX (p + 1) le li l 0 4294967294 4294967172 rfl (by first | omega | (rw [List.length_append]; omega)) ⟨rfl, rfl⟩) (fun r h' hr => ?_)
          obtain ⟨rfl, rfl⟩ := hr
          refine Ev.run 4 (pc' := 93) (lv' := [(2, .int (nI 1)), (3, .int (nI k)), (0, .ref 5), (1, .int (nI 2))]) (st' := [.int (nI 2), .ref 5]) (h' := HN (RT g T (p + 1) 0 le li (plT l 4294967172)) hl (RF (3, T, c, e))) rfl ?_
          refine Ev.call (a := 54) (as := [.ref 5, .int (nI 2)]) (rest := []) (lv0 := [(0, .ref 5), (1, .int (nI 2))]) (Q1 := (fun z0 h' => (∃ (q : Nat) (lf : List Nat), FK g 2 (p + 1) q lf ∧ z0 = none ∧ h' = HN (RT g T q 0 le li ((plT l 4294967172) ++ lf)) hl (RF (3, T, c, e))) ∨ (∃ (q : Nat) (l' : List Nat), FX g 2 (p + 1) q ∧ l'.length ≤ 100 ∧ z0 = none ∧ h' = HN (RT g T q 1 le li l') hl (RF (3, T, c, e))))) rfl rfl (K_fac2_ _ _ _ _ _ _ hT hX (p + 1) le li (plT l 4294967172) (by first | omega | exact nx_lt (by omega)) (by first | omega | exact Nat.le_trans (plT_ln _ _) (by omega)) ⟨fun q lf hz => Or.inl ⟨q, lf, hz, rfl, rfl⟩, fun q l' hz hz2 => Or.inr ⟨q, l', hz, hz2, rfl, rfl⟩⟩) (fun r h' hr => ?_)
          rcases hr with ⟨qa, lfa, hFa, rfl, rfl⟩ | ⟨qa, la, hFa, hla, rfl, rfl⟩
          · skip
            have hF1a := hFa.1
            have hF2a := hFa.2.1
            have hF3a := hFa.2.2.1
            have hlla : ((plT l 4294967172) ++ lfa).length = ((plT l 4294967172)).length + lfa.length := List.length_append
            refine Ev.run 1 (pc' := 99) (lv' := [(3, .int (nI k + 1)), (2, .int (nI 1)), (0, .ref 5), (1, .int (nI 2))]) (st' := []) (h' := HN (RT g T qa 0 le li ((plT l 4294967172) ++ lfa)) hl (RF (3, T, c, e))) rfl ?_
            refine Ev.lvE (congrArg (fun z => (3, Value.int z) :: [(2, .int (nI 1)), (0, .ref 5), (1, .int (nI 2))]) (nI_1 _)) ?_
            refine Ev.run 1 (pc' := 9) (lv' := [(3, .int (nI (k + 1))), (2, .int (nI 1)), (0, .ref 5), (1, .int (nI 2))]) (st' := []) (h' := HN (RT g T qa 0 le li ((plT l 4294967172) ++ lfa)) hl (RF (3, T, c, e))) rfl ?_
            first
              | exact Ev.wk (Ext.cons rfl rfl (Ext.cons rfl rfl (Ext.cons rfl rfl (Ext.cons rfl rfl (Ext.nil rfl))))) (hq.1 _ _ (pk_nx (by decide) (by decide) hc28) hFa)
              | exact Ev.wk (Ext.cons rfl rfl (Ext.cons rfl rfl (Ext.cons rfl rfl (Ext.cons rfl rfl (Ext.nil rfl))))) (hq.2.2.1 (by assumption) _ _ (pk_nx (by decide) (by decide) hc63) hFa)
              | exact Ev.wk (Ext.cons rfl rfl (Ext.cons rfl rfl (Ext.cons rfl rfl (Ext.cons rfl rfl (Ext.nil rfl))))) (hq.2.2.2.1 (by assumption) _ _ (pk_nx (by decide) (by decide) hc63) hFa)
              | (exfalso; omega)
          · skip
            have hF2a := hFa.2.1
            refine Ev.run 1 (pc' := 99) (lv' := [(3, .int (nI k + 1)), (2, .int (nI 1)), (0, .ref 5), (1, .int (nI 2))]) (st' := []) (h' := HN (RT g T qa 1 le li la) hl (RF (3, T, c, e))) rfl ?_
            refine Ev.lvE (congrArg (fun z => (3, Value.int z) :: [(2, .int (nI 1)), (0, .ref 5), (1, .int (nI 2))]) (nI_1 _)) ?_
            refine Ev.run 1 (pc' := 9) (lv' := [(3, .int (nI (k + 1))), (2, .int (nI 1)), (0, .ref 5), (1, .int (nI 2))]) (st' := []) (h' := HN (RT g T qa 1 le li la) hl (RF (3, T, c, e))) rfl ?_
            refine Ev.run 3 (pc' := (if nI 100 ≤ nI (k + 1) then 102 else 15)) (lv' := [(3, .int (nI (k + 1))), (2, .int (nI 1)), (0, .ref 5), (1, .int (nI 2))]) (st' := []) (h' := HN (RT g T qa 1 le li la) hl (RF (3, T, c, e))) rfl ?_
            refine Ev.ite (fun hc12 => ?_) (fun hc12 => ?_)
            · have hc12 : 100 ≤ (k + 1) := (nI_leI (by omega) (by omega)).mp hc12
              first
                | exact Ev.wk (Ext.cons rfl rfl (Ext.cons rfl rfl (Ext.nil rfl))) (hq.2.1 _ _ (pk_nx (by decide) (by decide) hc28) hFa (by first | exact hla | exact plT_le _ hla))
                | exact Ev.wk (Ext.cons rfl rfl (Ext.cons rfl rfl (Ext.nil rfl))) (hq.2.2.2.2.1 _ _ (pk_nx (by decide) (by decide) hc63) hFa hla)
                | exact Ev.wk (Ext.cons rfl rfl (Ext.cons rfl rfl (Ext.nil rfl))) (hq.2.2.2.2.2 (fun z => z.elim (pk_nn (by decide) (by decide) hc28) (pk_nn (by decide) (by decide) hc63)))
                | (exfalso; omega)
            · have hc12 : ¬ (100 ≤ (k + 1)) := fun z => hc12 ((nI_leI (by omega) (by omega)).mpr z)
              refine Ev.run 3 (pc' := 102) (lv' := [(3, .int (nI (k + 1))), (2, .int (nI 1)), (0, .ref 5), (1, .int (nI 2))]) (st' := []) (h' := HN (RT g T qa 1 le li la) hl (RF (3, T, c, e))) rfl ?_
              first
                | exact Ev.wk (Ext.cons rfl rfl (Ext.cons rfl rfl (Ext.nil rfl))) (hq.2.1 _ _ (pk_nx (by decide) (by decide) hc28) hFa (by first | exact hla | exact plT_le _ hla))
                | exact Ev.wk (Ext.cons rfl rfl (Ext.cons rfl rfl (Ext.nil rfl))) (hq.2.2.2.2.1 _ _ (pk_nx (by decide) (by decide) hc63) hFa hla)
                | exact Ev.wk (Ext.cons rfl rfl (Ext.cons rfl rfl (Ext.nil rfl))) (hq.2.2.2.2.2 (fun z => z.elim (pk_nn (by decide) (by decide) hc28) (pk_nn (by decide) (by decide) hc63)))
                | (exfalso; omega)
        · skip
          refine Ev.run 5 (pc' := 93) (lv' := [(2, .int (nI 1)), (3, .int (nI k)), (0, .ref 5), (1, .int (nI 2))]) (st' := [.int (nI 2), .ref 5]) (h' := HN (RT g T (p + 1) 0 le li l) hl (RF (3, T, c, e))) rfl ?_
          refine Ev.call (a := 54) (as := [.ref 5, .int (nI 2)]) (rest := []) (lv0 := [(0, .ref 5), (1, .int (nI 2))]) (Q1 := (fun z0 h' => (∃ (q : Nat) (lf : List Nat), FK g 2 (p + 1) q lf ∧ z0 = none ∧ h' = HN (RT g T q 0 le li (l ++ lf)) hl (RF (3, T, c, e))) ∨ (∃ (q : Nat) (l' : List Nat), FX g 2 (p + 1) q ∧ l'.length ≤ 100 ∧ z0 = none ∧ h' = HN (RT g T q 1 le li l') hl (RF (3, T, c, e))))) rfl rfl (K_fac2_ _ _ _ _ _ _ hT hX (p + 1) le li l (by first | omega | exact nx_lt (by omega)) (by first | omega | exact Nat.le_trans (plT_ln _ _) (by omega)) ⟨fun q lf hz => Or.inl ⟨q, lf, hz, rfl, rfl⟩, fun q l' hz hz2 => Or.inr ⟨q, l', hz, hz2, rfl, rfl⟩⟩) (fun r h' hr => ?_)
          rcases hr with ⟨qa, lfa, hFa, rfl, rfl⟩ | ⟨qa, la, hFa, hla, rfl, rfl⟩
          · skip
            have hF1a := hFa.1
            have hF2a := hFa.2.1
            have hF3a := hFa.2.2.1
            have hlla : (l ++ lfa).length = (l).length + lfa.length := List.length_append
            refine Ev.run 1 (pc' := 99) (lv' := [(3, .int (nI k + 1)), (2, .int (nI 1)), (0, .ref 5), (1, .int (nI 2))]) (st' := []) (h' := HN (RT g T qa 0 le li (l ++ lfa)) hl (RF (3, T, c, e))) rfl ?_
            refine Ev.lvE (congrArg (fun z => (3, Value.int z) :: [(2, .int (nI 1)), (0, .ref 5), (1, .int (nI 2))]) (nI_1 _)) ?_
            refine Ev.run 1 (pc' := 9) (lv' := [(3, .int (nI (k + 1))), (2, .int (nI 1)), (0, .ref 5), (1, .int (nI 2))]) (st' := []) (h' := HN (RT g T qa 0 le li (l ++ lfa)) hl (RF (3, T, c, e))) rfl ?_
            first
              | exact Ev.wk (Ext.cons rfl rfl (Ext.cons rfl rfl (Ext.cons rfl rfl (Ext.cons rfl rfl (Ext.nil rfl))))) (hq.1 _ _ (pk_nx (by decide) (by decide) hc28) hFa)
              | exact Ev.wk (Ext.cons rfl rfl (Ext.cons rfl rfl (Ext.cons rfl rfl (Ext.cons rfl rfl (Ext.nil rfl))))) (hq.2.2.1 (by assumption) _ _ (pk_nx (by decide) (by decide) hc63) hFa)
              | exact Ev.wk (Ext.cons rfl rfl (Ext.cons rfl rfl (Ext.cons rfl rfl (Ext.cons rfl rfl (Ext.nil rfl))))) (hq.2.2.2.1 (by assumption) _ _ (pk_nx (by decide) (by decide) hc63) hFa)
              | (exfalso; omega)
          · skip
            have hF2a := hFa.2.1
            refine Ev.run 1 (pc' := 99) (lv' := [(3, .int (nI k + 1)), (2, .int (nI 1)), (0, .ref 5), (1, .int (nI 2))]) (st' := []) (h' := HN (RT g T qa 1 le li la) hl (RF (3, T, c, e))) rfl ?_
            refine Ev.lvE (congrArg (fun z => (3, Value.int z) :: [(2, .int (nI 1)), (0, .ref 5), (1, .int (nI 2))]) (nI_1 _)) ?_
            refine Ev.run 1 (pc' := 9) (lv' := [(3, .int (nI (k + 1))), (2, .int (nI 1)), (0, .ref 5), (1, .int (nI 2))]) (st' := []) (h' := HN (RT g T qa 1 le li la) hl (RF (3, T, c, e))) rfl ?_
            refine Ev.run 3 (pc' := (if nI 100 ≤ nI (k + 1) then 102 else 15)) (lv' := [(3, .int (nI (k + 1))), (2, .int (nI 1)), (0, .ref 5), (1, .int (nI 2))]) (st' := []) (h' := HN (RT g T qa 1 le li la) hl (RF (3, T, c, e))) rfl ?_
            refine Ev.ite (fun hc12 => ?_) (fun hc12 => ?_)
            · have hc12 : 100 ≤ (k + 1) := (nI_leI (by omega) (by omega)).mp hc12
              first
                | exact Ev.wk (Ext.cons rfl rfl (Ext.cons rfl rfl (Ext.nil rfl))) (hq.2.1 _ _ (pk_nx (by decide) (by decide) hc28) hFa (by first | exact hla | exact plT_le _ hla))
                | exact Ev.wk (Ext.cons rfl rfl (Ext.cons rfl rfl (Ext.nil rfl))) (hq.2.2.2.2.1 _ _ (pk_nx (by decide) (by decide) hc63) hFa hla)
                | exact Ev.wk (Ext.cons rfl rfl (Ext.cons rfl rfl (Ext.nil rfl))) (hq.2.2.2.2.2 (fun z => z.elim (pk_nn (by decide) (by decide) hc28) (pk_nn (by decide) (by decide) hc63)))
                | (exfalso; omega)
            · have hc12 : ¬ (100 ≤ (k + 1)) := fun z => hc12 ((nI_leI (by omega) (by omega)).mpr z)
              refine Ev.run 3 (pc' := 102) (lv' := [(3, .int (nI (k + 1))), (2, .int (nI 1)), (0, .ref 5), (1, .int (nI 2))]) (st' := []) (h' := HN (RT g T qa 1 le li la) hl (RF (3, T, c, e))) rfl ?_
              first
                | exact Ev.wk (Ext.cons rfl rfl (Ext.cons rfl rfl (Ext.nil rfl))) (hq.2.1 _ _ (pk_nx (by decide) (by decide) hc28) hFa (by first | exact hla | exact plT_le _ hla))
                | exact Ev.wk (Ext.cons rfl rfl (Ext.cons rfl rfl (Ext.nil rfl))) (hq.2.2.2.2.1 _ _ (pk_nx (by decide) (by decide) hc63) hFa hla)
                | exact Ev.wk (Ext.cons rfl rfl (Ext.cons rfl rfl (Ext.nil rfl))) (hq.2.2.2.2.2 (fun z => z.elim (pk_nn (by decide) (by decide) hc28) (pk_nn (by decide) (by decide) hc63)))
                | (exfalso; omega)
      · have hc63 : ¬ ((nxC g p) = 124) := fun z => hc63 ((nI_eqU (by omega) (by omega)).mpr z)
        first
          | exact Ev.wk (Ext.cons rfl rfl (Ext.cons rfl rfl (Ext.nil rfl))) (hq.2.1 _ _ (pk_nx (by decide) (by decide) hc28) hFa (by first | exact hla | exact plT_le _ hla))
          | exact Ev.wk (Ext.cons rfl rfl (Ext.cons rfl rfl (Ext.nil rfl))) (hq.2.2.2.2.1 _ _ (pk_nx (by decide) (by decide) hc63) hFa hla)
          | exact Ev.wk (Ext.cons rfl rfl (Ext.cons rfl rfl (Ext.nil rfl))) (hq.2.2.2.2.2 (fun z => z.elim (pk_nn (by decide) (by decide) hc28) (pk_nn (by decide) (by decide) hc63)))
          | (exfalso; omega)
theorem K_exp2_ {L : Nat} {xs : Nat → Int32} (d : Nat) (g : Nat → Nat → Nat) (hl : Nat → Nat → Int64) (T c e : Nat) (hT : TbT T) (hX : TX g) (p le li : Nat) (l : List Nat) (hp : p ≤ g 166 17) (hlp : l.length ≤ p) {Q : Po} (hq : (∀ q o lc, EK g 2 p q o lc → ¬ (pkS g q = 38 ∨ pkS g q = 124) → Q none (HN (RT g T q 0 le li (l ++ (lc ++ oL o))) hl (RF (3, T, c, e)))) ∧ (∀ q l', EX g 2 p q → l'.length ≤ 100 → Q none (HN (RT g T q 1 le li l') hl (RF (3, T, c, e))))) : Ev L xs (d + 12) 53 0 [(0, .ref 5), (1, .int (nI 2))] [] (HN (RT g T p 0 le li l) hl (RF (3, T, c, e))) Q := by
  have hN := hX.1
  have loop : ∀ k, k ≤ 100 → ∀ (s : Nat) (o : Bool) (lc : List Nat), EK g 2 p s o lc → p + k + 3 ≤ s → Ev L xs (d + 12) 53 9 [(3, .int (nI k)), (2, .int (nI (bn o))), (0, .ref 5), (1, .int (nI 2))] [] (HN (RT g T s 0 le li (l ++ lc)) hl (RF (3, T, c, e))) Q := by
    refine for_ind 100 _ (fun k hk hnext => ?_)
    intro s o lc hE hks
    have hE1 := hE.1
    have hE2 := hE.2.1
    have hE3 := hE.2.2.1
    have hll : (l ++ lc).length = l.length + lc.length := List.length_append
    refine K_turn2 d g hl T c e hT hX s le li (l ++ lc) k o (by omega) hE2 (by omega) ⟨fun q lf hs hF => ?_, fun q l' hs hF hl' => ?_, fun ho q lf hs hF => ?_, fun ho q lf hs hF => ?_, fun q l' hs hF hl' => ?_, fun hs => ?_⟩
    · have h1 := hF.2.1
      have h2 := hF.2.2.1
      rw [plT_lt (by rw [List.length_append]; omega)]
      have hx := hnext (by omega) q o _ (hE.and hs hF) (by have := hF.1; omega)
      simpa only [List.append_assoc] using hx
    · exact K_endX (d + 11) g hl T c e hT hX q le li l' o hl' (fun l2 h2 => hq.2 _ _ (EX.and hE hs hF) h2)
    · subst ho
      have h1 := hF.2.1
      have h2 := hF.2.2.1
      have h3 : (oL true).length = 1 := rfl
      rw [plT_lt (by omega)]
      have hx := hnext (by omega) q true _ (hE.or hs hF) (by have := hF.1; omega)
      have e1 : l ++ lc ++ [4294967172] ++ lf = l ++ (lc ++ oL true ++ lf) := by
        rw [show oL true = [4294967172] from rfl]
        simp only [List.append_assoc]
      rw [e1]
      exact hx
    · subst ho
      have hx := hnext (by omega) q true _ (hE.or hs hF) (by have := hF.1; omega)
      have e1 : l ++ lc ++ lf = l ++ (lc ++ oL false ++ lf) := by
        show l ++ lc ++ lf = l ++ (lc ++ [] ++ lf)
        rw [List.append_nil, List.append_assoc]
      rw [e1]
      exact hx
    · exact K_endX (d + 11) g hl T c e hT hX q le li l' true hl' (fun l2 h2 => hq.2 _ _ (EX.or hE hs hF) h2)
    · refine K_endO (d + 11) g hl T c e hT hX s le li (l ++ lc) o (by omega) ?_
      rw [List.append_assoc]
      exact hq.1 _ _ _ hE hs
  refine Ev.run 4 (pc' := 4) (lv' := [(2, .int (nI 0)), (0, .ref 5), (1, .int (nI 2))]) (st' := [.int (nI 2), .ref 5]) (h' := HN (RT g T p 0 le li l) hl (RF (3, T, c, e))) rfl ?_
  refine Ev.call (a := 54) (as := [.ref 5, .int (nI 2)]) (rest := []) (lv0 := [(0, .ref 5), (1, .int (nI 2))]) (Q1 := (fun z0 h' => (∃ (q : Nat) (lf : List Nat), FK g 2 p q lf ∧ z0 = none ∧ h' = HN (RT g T q 0 le li (l ++ lf)) hl (RF (3, T, c, e))) ∨ (∃ (q : Nat) (l' : List Nat), FX g 2 p q ∧ l'.length ≤ 100 ∧ z0 = none ∧ h' = HN (RT g T q 1 le li l') hl (RF (3, T, c, e))))) rfl rfl (K_fac2_ _ _ _ _ _ _ hT hX p le li l (by first | omega | exact nx_lt (by omega)) (by omega) ⟨fun q lf hz => Or.inl ⟨q, lf, hz, rfl, rfl⟩, fun q l' hz hz2 => Or.inr ⟨q, l', hz, hz2, rfl, rfl⟩⟩) (fun r h' hr => ?_)
  rcases hr with ⟨qa, lfa, hFa, rfl, rfl⟩ | ⟨qa, la, hFa, hla, rfl, rfl⟩
  · skip
    have hF1a := hFa.1
    have hF2a := hFa.2.1
    have hF3a := hFa.2.2.1
    have hlla : (l ++ lfa).length = (l).length + lfa.length := List.length_append
    refine Ev.run 2 (pc' := 9) (lv' := [(3, .int (nI 0)), (2, .int (nI 0)), (0, .ref 5), (1, .int (nI 2))]) (st' := []) (h' := HN (RT g T qa 0 le li (l ++ lfa)) hl (RF (3, T, c, e))) rfl ?_
    exact Ev.wk (Ext.cons rfl rfl (Ext.cons rfl rfl (Ext.cons rfl rfl (Ext.cons rfl rfl (Ext.nil rfl))))) (loop 0 (Nat.zero_le _) qa false lfa (EK.s hFa) (by have := hFa.1; omega))
  · skip
    have hF2a := hFa.2.1
    refine Ev.run 2 (pc' := 9) (lv' := [(3, .int (nI 0)), (2, .int (nI 0)), (0, .ref 5), (1, .int (nI 2))]) (st' := []) (h' := HN (RT g T qa 1 le li la) hl (RF (3, T, c, e))) rfl ?_
    refine Ev.run 6 (pc' := 102) (lv' := [(3, .int (nI 0)), (2, .int (nI 0)), (0, .ref 5), (1, .int (nI 2))]) (st' := []) (h' := HN (RT g T qa 1 le li la) hl (RF (3, T, c, e))) rfl ?_
    exact Ev.wk (Ext.cons rfl rfl (Ext.cons rfl rfl (Ext.nil rfl))) (K_endX (d + 11) g hl T c e hT hX qa le li la false hla (fun l2 h2 => hq.2 _ _ (EX.s hFa) h2))
theorem K_fac1_ {L : Nat} {xs : Nat → Int32} (d : Nat) (g : Nat → Nat → Nat) (hl : Nat → Nat → Int64) (T c e : Nat) (hT : TbT T) (hX : TX g) (p le li : Nat) (l : List Nat) (hp : p ≤ g 166 17) (hlp : l.length ≤ p) {Q : Po} (hq : (∀ q lf, FK g 1 p q lf → Q none (HN (RT g T q 0 le li (l ++ lf)) hl (RF (3, T, c, e)))) ∧ (∀ q l', FX g 1 p q → l'.length ≤ 100 → Q none (HN (RT g T q 1 le li l') hl (RF (3, T, c, e))))) : Ev L xs (d + 13) 54 0 [(0, .ref 5), (1, .int (nI 1))] [] (HN (RT g T p 0 le li l) hl (RF (3, T, c, e))) Q := by
  have hN := hX.1
  have hnx := nx_le hX p
  refine Ev.run 12 (pc' := 23) (lv' := [(2, .int (nI 1)), (0, .ref 5), (1, .int (nI 1))]) (st' := [.ref 5]) (h' := HN (RT g T p 0 le li l) hl (RF (3, T, c, e))) rfl ?_
  refine Ev.call (a := 59) (as := [.ref 5]) (rest := []) (lv0 := [(0, .ref 5)]) (Q1 := (fun z0 h' => z0 = some (.int (nI (nxC g p))) ∧ h' = HN (RT g T p 0 le li l) hl (RF (3, T, c, e)))) rfl rfl (K_next _ _ _ _ _ _ hT hX p _ _ l 0 (by omega) ⟨rfl, rfl⟩) (fun r h' hr => ?_)
  obtain ⟨rfl, rfl⟩ := hr
  refine Ev.run 2 (pc' := (if nI (nxC g p) = nI 33 then 31 else 60)) (lv' := [(2, .int (nI 1)), (0, .ref 5), (1, .int (nI 1))]) (st' := []) (h' := HN (RT g T p 0 le li l) hl (RF (3, T, c, e))) rfl ?_
  refine Ev.ite (fun hc28 => ?_) (fun hc28 => ?_)
  · have hc28 : (nxC g p) = 33 := (nI_eqU (by omega) (by omega)).mp hc28
    refine Ev.run 5 (pc' := 38) (lv' := [(2, .int (nI 1)), (0, .ref 5), (1, .int (nI 1))]) (st' := [.int (nI p + nI 1), .ref 5]) (h' := HN (RT g T p 0 le li l) hl (RF (3, T, c, e))) rfl ?_
    refine Ev.topI (nI_add _ _) ?_
    refine Ev.run 1 (pc' := 41) (lv' := [(2, .int (nI 1)), (0, .ref 5), (1, .int (nI 1))]) (st' := []) (h' := setI (HN (RT g T p 0 le li l) hl (RF (3, T, c, e))) 5 2 (nI (p + 1))) rfl ?_
    refine Ev.hp (HN_set _ _ _ _ _ _) ?_
    refine Ev.hp (congrArg (fun z => HN z hl (RF (3, T, c, e))) (RT_52 _ _ _ _ _ _ _)) ?_
    refine Ev.run 4 (pc' := 45) (lv' := [(2, .int (nI 1)), (0, .ref 5), (1, .int (nI 1))]) (st' := [.int (nI 2), .ref 5]) (h' := HN (RT g T (p + 1) 0 le li l) hl (RF (3, T, c, e))) rfl ?_
    refine Ev.call (a := 54) (as := [.ref 5, .int (nI 2)]) (rest := []) (lv0 := [(0, .ref 5), (1, .int (nI 2))]) (Q1 := (fun z0 h' => (∃ (q : Nat) (lf : List Nat), FK g 2 (p + 1) q lf ∧ z0 = none ∧ h' = HN (RT g T q 0 le li (l ++ lf)) hl (RF (3, T, c, e))) ∨ (∃ (q : Nat) (l' : List Nat), FX g 2 (p + 1) q ∧ l'.length ≤ 100 ∧ z0 = none ∧ h' = HN (RT g T q 1 le li l') hl (RF (3, T, c, e))))) rfl rfl (K_fac2_ _ _ _ _ _ _ hT hX (p + 1) le li l (by first | omega | exact nx_lt (by omega)) (by omega) ⟨fun q lf hz => Or.inl ⟨q, lf, hz, rfl, rfl⟩, fun q l' hz hz2 => Or.inr ⟨q, l', hz, hz2, rfl, rfl⟩⟩) (fun r h' hr => ?_)
    rcases hr with ⟨qa, lfa, hFa, rfl, rfl⟩ | ⟨qa, la, hFa, hla, rfl, rfl⟩
    · skip
      have hF1a := hFa.1
      have hF2a := hFa.2.1
      have hF3a := hFa.2.2.1
      have hlla : (l ++ lfa).length = (l).length + lfa.length := List.length_append
      refine Ev.run 3 (pc' := 54) (lv' := [(2, .int (nI 1)), (0, .ref 5), (1, .int (nI 1))]) (st' := [.int (nI 4294967293), .ref T]) (h' := HN (RT g T qa 0 le li (l ++ lfa)) hl (RF (3, T, c, e))) rfl ?_
      refine Ev_callV (a := 65) (as := [.ref T, .int (nI 4294967293)]) (rest := []) (lv0 := [(0, .ref T), (1, .int (nI 4294967293))]) (Q1 := (fun z0 h' => z0 = none ∧ h' = HN (RT g T qa 0 le li (plT (l ++ lfa) 4294967263)) hl (RF (3, T, c, e)))) rfl rfl rfl rfl rfl hT.1.k rfl rfl rfl (K_tput _ _ _ _ _ _ hT hX qa le li (l ++ lfa) 0 4294967293 4294967263 rfl (by first | omega | exact plT_le _ (by omega)) ⟨rfl, rfl⟩) (fun r h' hr => ?_)
      obtain ⟨rfl, rfl⟩ := hr
      refine Ev.run 1 (pc' := 128) (lv' := [(2, .int (nI 1)), (0, .ref 5), (1, .int (nI 1))]) (st' := []) (h' := HN (RT g T qa 0 le li (plT (l ++ lfa) 4294967263)) hl (RF (3, T, c, e))) rfl ?_
      refine Ev.ret (v := none) rfl ?_
      first
        | (rw [plT_lt (by omega), List.append_assoc]; exact hq.1 _ _ (FK.n hp (by decide) (pk_nx (by decide) (by decide) hc28) hFa))
        | exact hq.2 _ _ (FX.n hp (by decide) (pk_nx (by decide) (by decide) hc28) hFa) (plT_le _ (by omega))
        | exact hq.1 _ _ (FK.p hp (by decide) (pk_nx (by decide) (by decide) hc70) hFb hGb hxe)
        | exact hq.2 _ _ (FX.p2 hp (by decide) (pk_nx (by decide) (by decide) hc70) hFb hGb hxe) (by rw [List.length_append, List.length_append]; omega)
        | exact hq.2 _ _ (FX.p hp (by decide) (pk_nx (by decide) (by decide) hc70) hFb) (by omega)
    · skip
      have hF2a := hFa.2.1
      refine Ev.run 3 (pc' := 54) (lv' := [(2, .int (nI 1)), (0, .ref 5), (1, .int (nI 1))]) (st' := [.int (nI 4294967293), .ref T]) (h' := HN (RT g T qa 1 le li la) hl (RF (3, T, c, e))) rfl ?_
      refine Ev_callV (a := 65) (as := [.ref T, .int (nI 4294967293)]) (rest := []) (lv0 := [(0, .ref T), (1, .int (nI 4294967293))]) (Q1 := (fun z0 h' => z0 = none ∧ h' = HN (RT g T qa 1 le li (plT la 4294967263)) hl (RF (3, T, c, e)))) rfl rfl rfl rfl rfl hT.1.k rfl rfl rfl (K_tput _ _ _ _ _ _ hT hX qa le li la 1 4294967293 4294967263 rfl (by first | omega | exact plT_le _ (by omega)) ⟨rfl, rfl⟩) (fun r h' hr => ?_)
      obtain ⟨rfl, rfl⟩ := hr
      refine Ev.run 1 (pc' := 128) (lv' := [(2, .int (nI 1)), (0, .ref 5), (1, .int (nI 1))]) (st' := []) (h' := HN (RT g T qa 1 le li (plT la 4294967263)) hl (RF (3, T, c, e))) rfl ?_
      refine Ev.ret (v := none) rfl ?_
      first
        | (rw [plT_lt (by omega), List.append_assoc]; exact hq.1 _ _ (FK.n hp (by decide) (pk_nx (by decide) (by decide) hc28) hFa))
        | exact hq.2 _ _ (FX.n hp (by decide) (pk_nx (by decide) (by decide) hc28) hFa) (plT_le _ (by omega))
        | exact hq.1 _ _ (FK.p hp (by decide) (pk_nx (by decide) (by decide) hc70) hFb hGb hxe)
        | exact hq.2 _ _ (FX.p2 hp (by decide) (pk_nx (by decide) (by decide) hc70) hFb hGb hxe) (by rw [List.length_append, List.length_append]; omega)
        | exact hq.2 _ _ (FX.p hp (by decide) (pk_nx (by decide) (by decide) hc70) hFb) (by omega)
  · have hc28 : ¬ ((nxC g p) = 33) := fun z => hc28 ((nI_eqU (by omega) (by omega)).mpr z)
    refine Ev.run 3 (pc' := 65) (lv' := [(2, .int (nI 1)), (0, .ref 5), (1, .int (nI 1))]) (st' := [.ref 5]) (h' := HN (RT g T p 0 le li l) hl (RF (3, T, c, e))) rfl ?_
    refine Ev.call (a := 59) (as := [.ref 5]) (rest := []) (lv0 := [(0, .ref 5)]) (Q1 := (fun z0 h' => z0 = some (.int (nI (nxC g p))) ∧ h' = HN (RT g T p 0 le li l) hl (RF (3, T, c, e)))) rfl rfl (K_next _ _ _ _ _ _ hT hX p _ _ l 0 (by omega) ⟨rfl, rfl⟩) (fun r h' hr => ?_)
    obtain ⟨rfl, rfl⟩ := hr
    refine Ev.run 2 (pc' := (if nI (nxC g p) = nI 40 then 73 else 99)) (lv' := [(2, .int (nI 1)), (0, .ref 5), (1, .int (nI 1))]) (st' := []) (h' := HN (RT g T p 0 le li l) hl (RF (3, T, c, e))) rfl ?_
    refine Ev.ite (fun hc70 => ?_) (fun hc70 => ?_)
    · have hc70 : (nxC g p) = 40 := (nI_eqU (by omega) (by omega)).mp hc70
      refine Ev.run 5 (pc' := 80) (lv' := [(2, .int (nI 1)), (0, .ref 5), (1, .int (nI 1))]) (st' := [.int (nI p + nI 1), .ref 5]) (h' := HN (RT g T p 0 le li l) hl (RF (3, T, c, e))) rfl ?_
      refine Ev.topI (nI_add _ _) ?_
      refine Ev.run 1 (pc' := 83) (lv' := [(2, .int (nI 1)), (0, .ref 5), (1, .int (nI 1))]) (st' := []) (h' := setI (HN (RT g T p 0 le li l) hl (RF (3, T, c, e))) 5 2 (nI (p + 1))) rfl ?_
      refine Ev.hp (HN_set _ _ _ _ _ _) ?_
      refine Ev.hp (congrArg (fun z => HN z hl (RF (3, T, c, e))) (RT_52 _ _ _ _ _ _ _)) ?_
      refine Ev.run 4 (pc' := 87) (lv' := [(2, .int (nI 1)), (0, .ref 5), (1, .int (nI 1))]) (st' := [.int (nI 2), .ref 5]) (h' := HN (RT g T (p + 1) 0 le li l) hl (RF (3, T, c, e))) rfl ?_
      refine Ev.call (a := 53) (as := [.ref 5, .int (nI 2)]) (rest := []) (lv0 := [(0, .ref 5), (1, .int (nI 2))]) (Q1 := (fun z0 h' => (∃ (q : Nat) (o : Bool) (lc : List Nat), EK g 2 (p + 1) q o lc ∧ ¬ (pkS g q = 38 ∨ pkS g q = 124) ∧ z0 = none ∧ h' = HN (RT g T q 0 le li (l ++ (lc ++ oL o))) hl (RF (3, T, c, e))) ∨ (∃ (q : Nat) (l' : List Nat), EX g 2 (p + 1) q ∧ l'.length ≤ 100 ∧ z0 = none ∧ h' = HN (RT g T q 1 le li l') hl (RF (3, T, c, e))))) rfl rfl (K_exp2_ _ _ _ _ _ _ hT hX (p + 1) le li l (by first | omega | exact nx_lt (by omega)) (by omega) ⟨fun q o lc hz hz3 => Or.inl ⟨q, o, lc, hz, hz3, rfl, rfl⟩, fun q l' hz hz2 => Or.inr ⟨q, l', hz, hz2, rfl, rfl⟩⟩) (fun r h' hr => ?_)
      rcases hr with ⟨qb, ob, lcb, hFb, hGb, rfl, rfl⟩ | ⟨qb, lb, hFb, hlb, rfl, rfl⟩
      · skip
        have hF1b := hFb.1
        have hF2b := hFb.2.1
        have hF3b := hFb.2.2.1
        refine Ev.run 2 (pc' := 93) (lv' := [(2, .int (nI 1)), (0, .ref 5), (1, .int (nI 1))]) (st' := [.int (nI 41), .ref 5]) (h' := HN (RT g T qb 0 le li (l ++ (lcb ++ oL ob))) hl (RF (3, T, c, e))) rfl ?_
        refine Ev.call (a := 58) (as := [.ref 5, .int (nI 41)]) (rest := []) (lv0 := [(0, .ref 5), (1, .int (nI 41))]) (Q1 := (fun z0 h' => (pkS g qb = 41 ∧ z0 = none ∧ h' = HN (RT g T (qb + 1) 0 le li (l ++ (lcb ++ oL ob))) hl (RF (3, T, c, e))) ∨ (¬ pkS g qb = 41 ∧ z0 = none ∧ h' = HN (RT g T qb 1 le li (l ++ (lcb ++ oL ob))) hl (RF (3, T, c, e))))) rfl rfl (K_exp0 _ _ _ _ _ _ hT hX qb le li (l ++ (lcb ++ oL ob)) 41 (by omega) (by decide) (by decide) ⟨fun hz => Or.inl ⟨hz, rfl, rfl⟩, fun hz => Or.inr ⟨hz, rfl, rfl⟩⟩) (fun r h' hr => ?_)
        rcases hr with ⟨hxe, rfl, rfl⟩ | ⟨hxe, rfl, rfl⟩
        · skip
          refine Ev.run 1 (pc' := 128) (lv' := [(2, .int (nI 1)), (0, .ref 5), (1, .int (nI 1))]) (st' := []) (h' := HN (RT g T (qb + 1) 0 le li (l ++ (lcb ++ oL ob))) hl (RF (3, T, c, e))) rfl ?_
          refine Ev.ret (v := none) rfl ?_
          first
            | (rw [plT_lt (by omega), List.append_assoc]; exact hq.1 _ _ (FK.n hp (by decide) (pk_nx (by decide) (by decide) hc28) hFa))
            | exact hq.2 _ _ (FX.n hp (by decide) (pk_nx (by decide) (by decide) hc28) hFa) (plT_le _ (by omega))
            | exact hq.1 _ _ (FK.p hp (by decide) (pk_nx (by decide) (by decide) hc70) hFb hGb hxe)
            | exact hq.2 _ _ (FX.p2 hp (by decide) (pk_nx (by decide) (by decide) hc70) hFb hGb hxe) (by rw [List.length_append, List.length_append]; omega)
            | exact hq.2 _ _ (FX.p hp (by decide) (pk_nx (by decide) (by decide) hc70) hFb) (by omega)
        · skip
          refine Ev.run 1 (pc' := 128) (lv' := [(2, .int (nI 1)), (0, .ref 5), (1, .int (nI 1))]) (st' := []) (h' := HN (RT g T qb 1 le li (l ++ (lcb ++ oL ob))) hl (RF (3, T, c, e))) rfl ?_
          refine Ev.ret (v := none) rfl ?_
          first
            | (rw [plT_lt (by omega), List.append_assoc]; exact hq.1 _ _ (FK.n hp (by decide) (pk_nx (by decide) (by decide) hc28) hFa))
            | exact hq.2 _ _ (FX.n hp (by decide) (pk_nx (by decide) (by decide) hc28) hFa) (plT_le _ (by omega))
            | exact hq.1 _ _ (FK.p hp (by decide) (pk_nx (by decide) (by decide) hc70) hFb hGb hxe)
            | exact hq.2 _ _ (FX.p2 hp (by decide) (pk_nx (by decide) (by decide) hc70) hFb hGb hxe) (by rw [List.length_append, List.length_append]; omega)
            | exact hq.2 _ _ (FX.p hp (by decide) (pk_nx (by decide) (by decide) hc70) hFb) (by omega)
      · skip
        have hF2b := hFb.2.1
        refine Ev.run 2 (pc' := 93) (lv' := [(2, .int (nI 1)), (0, .ref 5), (1, .int (nI 1))]) (st' := [.int (nI 41), .ref 5]) (h' := HN (RT g T qb 1 le li lb) hl (RF (3, T, c, e))) rfl ?_
        refine Ev.call (a := 58) (as := [.ref 5, .int (nI 41)]) (rest := []) (lv0 := [(0, .ref 5), (1, .int (nI 41))]) (Q1 := (fun z0 h' => z0 = none ∧ h' = HN (RT g T qb 1 le li lb) hl (RF (3, T, c, e)))) rfl rfl (K_exp1 _ _ _ _ _ _ hT hX qb le li lb _ ⟨rfl, rfl⟩) (fun r h' hr => ?_)
        obtain ⟨rfl, rfl⟩ := hr
        refine Ev.run 1 (pc' := 128) (lv' := [(2, .int (nI 1)), (0, .ref 5), (1, .int (nI 1))]) (st' := []) (h' := HN (RT g T qb 1 le li lb) hl (RF (3, T, c, e))) rfl ?_
        refine Ev.ret (v := none) rfl ?_
        first
          | (rw [plT_lt (by omega), List.append_assoc]; exact hq.1 _ _ (FK.n hp (by decide) (pk_nx (by decide) (by decide) hc28) hFa))
          | exact hq.2 _ _ (FX.n hp (by decide) (pk_nx (by decide) (by decide) hc28) hFa) (plT_le _ (by omega))
          | exact hq.1 _ _ (FK.p hp (by decide) (pk_nx (by decide) (by decide) hc70) hFb hGb hxe)
          | exact hq.2 _ _ (FX.p2 hp (by decide) (pk_nx (by decide) (by decide) hc70) hFb hGb hxe) (by rw [List.length_append, List.length_append]; omega)
          | exact hq.2 _ _ (FX.p hp (by decide) (pk_nx (by decide) (by decide) hc70) hFb) (by omega)
    · have hc70 : ¬ ((nxC g p) = 40) := fun z => hc70 ((nI_eqU (by omega) (by omega)).mpr z)
      refine Ev.wk (Ext.cons rfl rfl (Ext.nil rfl)) (K_facT (d + 6) _ _ _ _ _ hT hX p le li l (by omega) (by omega) ⟨fun cd q hz => ?_, fun q hz l' hl' => ?_⟩)
      · have hF : FK g 1 p q [cd] := FK.t hp hz
        have hF1 := hF.1
        have hF2 := hF.2.1
        rw [plT_lt (by omega)]
        exact hq.1 _ _ hF
      · exact hq.2 _ _ (FX.t hp hz (by decide) (fun _ z => z.elim (pk_nn (by decide) (by decide) hc28) (pk_nn (by decide) (by decide) hc70))) hl'
theorem K_turn1 {L : Nat} {xs : Nat → Int32} (d : Nat) (g : Nat → Nat → Nat) (hl : Nat → Nat → Int64) (T c e : Nat) (hT : TbT T) (hX : TX g) (p le li : Nat) (l : List Nat) (k : Nat) (o : Bool) (hk : k < 100) (hp : p ≤ g 166 17) (hlp : l.length + (oL o).length ≤ p) {Q : Po} (hq : (∀ q lf, pkS g p = 38 → FK g 1 (p + 1) q lf → Ev L xs (d + 14) 53 9 [(3, .int (nI (k + 1))), (2, .int (nI (bn o))), (0, .ref 5), (1, .int (nI 1))] [] (HN (RT g T q 0 le li (plT (l ++ lf) 4294967258)) hl (RF (3, T, c, e))) Q) ∧ (∀ q l', pkS g p = 38 → FX g 1 (p + 1) q → l'.length ≤ 100 → Ev L xs (d + 14) 53 102 [(2, .int (nI (bn o))), (0, .ref 5)] [] (HN (RT g T q 1 le li l') hl (RF (3, T, c, e))) Q) ∧ (o = true → ∀ q lf, pkS g p = 124 → FK g 1 (p + 1) q lf → Ev L xs (d + 14) 53 9 [(3, .int (nI (k + 1))), (2, .int (nI 1)), (0, .ref 5), (1, .int (nI 1))] [] (HN (RT g T q 0 le li (plT l 4294967172 ++ lf)) hl (RF (3, T, c, e))) Q) ∧ (o = false → ∀ q lf, pkS g p = 124 → FK g 1 (p + 1) q lf → Ev L xs (d + 14) 53 9 [(3, .int (nI (k + 1))), (2, .int (nI 1)), (0, .ref 5), (1, .int (nI 1))] [] (HN (RT g T q 0 le li (l ++ lf)) hl (RF (3, T, c, e))) Q) ∧ (∀ q l', pkS g p = 124 → FX g 1 (p + 1) q → l'.length ≤ 100 → Ev L xs (d + 14) 53 102 [(2, .int (nI 1)), (0, .ref 5)] [] (HN (RT g T q 1 le li l') hl (RF (3, T, c, e))) Q) ∧ (¬ (pkS g p = 38 ∨ pkS g p = 124) → Ev L xs (d + 14) 53 102 [(2, .int (nI (bn o))), (0, .ref 5)] [] (HN (RT g T p 0 le li l) hl (RF (3, T, c, e))) Q)) : Ev L xs (d + 14) 53 9 [(3, .int (nI k)), (2, .int (nI (bn o))), (0, .ref 5), (1, .int (nI 1))] [] (HN (RT g T p 0 le li l) hl (RF (3, T, c, e))) Q := by
  have hN := hX.1
  have hnx := nx_le hX p
  refine Ev.run 3 (pc' := (if nI 100 ≤ nI k then 102 else 15)) (lv' := [(3, .int (nI k)), (2, .int (nI (bn o))), (0, .ref 5), (1, .int (nI 1))]) (st' := []) (h' := HN (RT g T p 0 le li l) hl (RF (3, T, c, e))) rfl ?_
  refine Ev.ite (fun hc12 => ?_) (fun hc12 => ?_)
  · have hc12 : 100 ≤ k := (nI_leI (by omega) (by omega)).mp hc12
    first
      | exact Ev.wk (Ext.cons rfl rfl (Ext.cons rfl rfl (Ext.nil rfl))) (hq.2.1 _ _ (pk_nx (by decide) (by decide) hc28) hFa (by first | exact hla | exact plT_le _ hla))
      | exact Ev.wk (Ext.cons rfl rfl (Ext.cons rfl rfl (Ext.nil rfl))) (hq.2.2.2.2.1 _ _ (pk_nx (by decide) (by decide) hc63) hFa hla)
      | exact Ev.wk (Ext.cons rfl rfl (Ext.cons rfl rfl (Ext.nil rfl))) (hq.2.2.2.2.2 (fun z => z.elim (pk_nn (by decide) (by decide) hc28) (pk_nn (by decide) (by decide) hc63)))
      | (exfalso; omega)
  · have hc12 : ¬ (100 ≤ k) := fun z => hc12 ((nI_leI (by omega) (by omega)).mpr z)
    refine Ev.run 4 (pc' := 23) (lv' := [(3, .int (nI k)), (2, .int (nI (bn o))), (0, .ref 5), (1, .int (nI 1))]) (st' := [.ref 5]) (h' := HN (RT g T p 0 le li l) hl (RF (3, T, c, e))) rfl ?_
    refine Ev.call (a := 59) (as := [.ref 5]) (rest := []) (lv0 := [(0, .ref 5)]) (Q1 := (fun z0 h' => z0 = some (.int (nI (nxC g p))) ∧ h' = HN (RT g T p 0 le li l) hl (RF (3, T, c, e)))) rfl rfl (K_next _ _ _ _ _ _ hT hX p _ _ l 0 (by omega) ⟨rfl, rfl⟩) (fun r h' hr => ?_)
    obtain ⟨rfl, rfl⟩ := hr
    refine Ev.run 2 (pc' := (if nI (nxC g p) = nI 38 then 31 else 57)) (lv' := [(3, .int (nI k)), (2, .int (nI (bn o))), (0, .ref 5), (1, .int (nI 1))]) (st' := []) (h' := HN (RT g T p 0 le li l) hl (RF (3, T, c, e))) rfl ?_
    refine Ev.ite (fun hc28 => ?_) (fun hc28 => ?_)
    · have hc28 : (nxC g p) = 38 := (nI_eqU (by omega) (by omega)).mp hc28
      refine Ev.run 5 (pc' := 38) (lv' := [(3, .int (nI k)), (2, .int (nI (bn o))), (0, .ref 5), (1, .int (nI 1))]) (st' := [.int (nI p + nI 1), .ref 5]) (h' := HN (RT g T p 0 le li l) hl (RF (3, T, c, e))) rfl ?_
      refine Ev.topI (nI_add _ _) ?_
      refine Ev.run 1 (pc' := 41) (lv' := [(3, .int (nI k)), (2, .int (nI (bn o))), (0, .ref 5), (1, .int (nI 1))]) (st' := []) (h' := setI (HN (RT g T p 0 le li l) hl (RF (3, T, c, e))) 5 2 (nI (p + 1))) rfl ?_
      refine Ev.hp (HN_set _ _ _ _ _ _) ?_
      refine Ev.hp (congrArg (fun z => HN z hl (RF (3, T, c, e))) (RT_52 _ _ _ _ _ _ _)) ?_
      refine Ev.run 2 (pc' := 43) (lv' := [(3, .int (nI k)), (2, .int (nI (bn o))), (0, .ref 5), (1, .int (nI 1))]) (st' := [.int (nI 1), .ref 5]) (h' := HN (RT g T (p + 1) 0 le li l) hl (RF (3, T, c, e))) rfl ?_
      refine Ev.call (a := 54) (as := [.ref 5, .int (nI 1)]) (rest := []) (lv0 := [(0, .ref 5), (1, .int (nI 1))]) (Q1 := (fun z0 h' => (∃ (q : Nat) (lf : List Nat), FK g 1 (p + 1) q lf ∧ z0 = none ∧ h' = HN (RT g T q 0 le li (l ++ lf)) hl (RF (3, T, c, e))) ∨ (∃ (q : Nat) (l' : List Nat), FX g 1 (p + 1) q ∧ l'.length ≤ 100 ∧ z0 = none ∧ h' = HN (RT g T q 1 le li l') hl (RF (3, T, c, e))))) rfl rfl (K_fac1_ _ _ _ _ _ _ hT hX (p + 1) le li l (by first | omega | exact nx_lt (by omega)) (by first | omega | exact Nat.le_trans (plT_ln _ _) (by omega)) ⟨fun q lf hz => Or.inl ⟨q, lf, hz, rfl, rfl⟩, fun q l' hz hz2 => Or.inr ⟨q, l', hz, hz2, rfl, rfl⟩⟩) (fun r h' hr => ?_)
      rcases hr with ⟨qa, lfa, hFa, rfl, rfl⟩ | ⟨qa, la, hFa, hla, rfl, rfl⟩
      · skip
        have hF1a := hFa.1
        have hF2a := hFa.2.1
        have hF3a := hFa.2.2.1
        have hlla : (l ++ lfa).length = (l).length + lfa.length := List.length_append
        refine Ev.run 3 (pc' := 51) (lv' := [(3, .int (nI k)), (2, .int (nI (bn o))), (0, .ref 5), (1, .int (nI 1))]) (st' := [.int (nI 4294967295), .ref T]) (h' := HN (RT g T qa 0 le li (l ++ lfa)) hl (RF (3, T, c, e))) rfl ?_
        refine Ev_callV (a := 65) (as := [.ref T, .int (nI 4294967295)]) (rest := []) (lv0 := [(0, .ref T), (1, .int (nI 4294967295))]) (Q1 := (fun z0 h' => z0 = none ∧ h' = HN (RT g T qa 0 le li (plT (l ++ lfa) 4294967258)) hl (RF (3, T, c, e)))) rfl rfl rfl rfl rfl hT.1.k rfl rfl rfl (K_tput _ _ _ _ _ _ hT hX qa le li (l ++ lfa) 0 4294967295 4294967258 rfl (by first | omega | (rw [List.length_append]; omega)) ⟨rfl, rfl⟩) (fun r h' hr => ?_)
        obtain ⟨rfl, rfl⟩ := hr
        refine Ev.run 2 (pc' := 99) (lv' := [(3, .int (nI k + 1)), (2, .int (nI (bn o))), (0, .ref 5), (1, .int (nI 1))]) (st' := []) (h' := HN (RT g T qa 0 le li (plT (l ++ lfa) 4294967258)) hl (RF (3, T, c, e))) rfl ?_
        refine Ev.lvE (congrArg (fun z => (3, Value.int z) :: [(2, .int (nI (bn o))), (0, .ref 5), (1, .int (nI 1))]) (nI_1 _)) ?_
        refine Ev.run 1 (pc' := 9) (lv' := [(3, .int (nI (k + 1))), (2, .int (nI (bn o))), (0, .ref 5), (1, .int (nI 1))]) (st' := []) (h' := HN (RT g T qa 0 le li (plT (l ++ lfa) 4294967258)) hl (RF (3, T, c, e))) rfl ?_
        first
          | exact Ev.wk (Ext.cons rfl rfl (Ext.cons rfl rfl (Ext.cons rfl rfl (Ext.cons rfl rfl (Ext.nil rfl))))) (hq.1 _ _ (pk_nx (by decide) (by decide) hc28) hFa)
          | exact Ev.wk (Ext.cons rfl rfl (Ext.cons rfl rfl (Ext.cons rfl rfl (Ext.cons rfl rfl (Ext.nil rfl))))) (hq.2.2.1 (by assumption) _ _ (pk_nx (by decide) (by decide) hc63) hFa)
          | exact Ev.wk (Ext.cons rfl rfl (Ext.cons rfl rfl (Ext.cons rfl rfl (Ext.cons rfl rfl (Ext.nil rfl))))) (hq.2.2.2.1 (by assumption) _ _ (pk_nx (by decide) (by decide) hc63) hFa)
          | (exfalso; omega)
      · skip
        have hF2a := hFa.2.1
        refine Ev.run 3 (pc' := 51) (lv' := [(3, .int (nI k)), (2, .int (nI (bn o))), (0, .ref 5), (1, .int (nI 1))]) (st' := [.int (nI 4294967295), .ref T]) (h' := HN (RT g T qa 1 le li la) hl (RF (3, T, c, e))) rfl ?_
        refine Ev_callV (a := 65) (as := [.ref T, .int (nI 4294967295)]) (rest := []) (lv0 := [(0, .ref T), (1, .int (nI 4294967295))]) (Q1 := (fun z0 h' => z0 = none ∧ h' = HN (RT g T qa 1 le li (plT la 4294967258)) hl (RF (3, T, c, e)))) rfl rfl rfl rfl rfl hT.1.k rfl rfl rfl (K_tput _ _ _ _ _ _ hT hX qa le li la 1 4294967295 4294967258 rfl (by first | omega | (rw [List.length_append]; omega)) ⟨rfl, rfl⟩) (fun r h' hr => ?_)
        obtain ⟨rfl, rfl⟩ := hr
        refine Ev.run 2 (pc' := 99) (lv' := [(3, .int (nI k + 1)), (2, .int (nI (bn o))), (0, .ref 5), (1, .int (nI 1))]) (st' := []) (h' := HN (RT g T qa 1 le li (plT la 4294967258)) hl (RF (3, T, c, e))) rfl ?_
        refine Ev.lvE (congrArg (fun z => (3, Value.int z) :: [(2, .int (nI (bn o))), (0, .ref 5), (1, .int (nI 1))]) (nI_1 _)) ?_
        refine Ev.run 1 (pc' := 9) (lv' := [(3, .int (nI (k + 1))), (2, .int (nI (bn o))), (0, .ref 5), (1, .int (nI 1))]) (st' := []) (h' := HN (RT g T qa 1 le li (plT la 4294967258)) hl (RF (3, T, c, e))) rfl ?_
        refine Ev.run 3 (pc' := (if nI 100 ≤ nI (k + 1) then 102 else 15)) (lv' := [(3, .int (nI (k + 1))), (2, .int (nI (bn o))), (0, .ref 5), (1, .int (nI 1))]) (st' := []) (h' := HN (RT g T qa 1 le li (plT la 4294967258)) hl (RF (3, T, c, e))) rfl ?_
        refine Ev.ite (fun hc12 => ?_) (fun hc12 => ?_)
        · have hc12 : 100 ≤ (k + 1) := (nI_leI (by omega) (by omega)).mp hc12
          first
            | exact Ev.wk (Ext.cons rfl rfl (Ext.cons rfl rfl (Ext.nil rfl))) (hq.2.1 _ _ (pk_nx (by decide) (by decide) hc28) hFa (by first | exact hla | exact plT_le _ hla))
            | exact Ev.wk (Ext.cons rfl rfl (Ext.cons rfl rfl (Ext.nil rfl))) (hq.2.2.2.2.1 _ _ (pk_nx (by decide) (by decide) hc63) hFa hla)
            | exact Ev.wk (Ext.cons rfl rfl (Ext.cons rfl rfl (Ext.nil rfl))) (hq.2.2.2.2.2 (fun z => z.elim (pk_nn (by decide) (by decide) hc28) (pk_nn (by decide) (by decide) hc63)))
            | (exfalso; omega)
        · have hc12 : ¬ (100 ≤ (k + 1)) := fun z => hc12 ((nI_leI (by omega) (by omega)).mpr z)
          refine Ev.run 3 (pc' := 102) (lv' := [(3, .int (nI (k + 1))), (2, .int (nI (bn o))), (0, .ref 5), (1, .int (nI 1))]) (st' := []) (h' := HN (RT g T qa 1 le li (plT la 4294967258)) hl (RF (3, T, c, e))) rfl ?_
          first
            | exact Ev.wk (Ext.cons rfl rfl (Ext.cons rfl rfl (Ext.nil rfl))) (hq.2.1 _ _ (pk_nx (by decide) (by decide) hc28) hFa (by first | exact hla | exact plT_le _ hla))
            | exact Ev.wk (Ext.cons rfl rfl (Ext.cons rfl rfl (Ext.nil rfl))) (hq.2.2.2.2.1 _ _ (pk_nx (by decide) (by decide) hc63) hFa hla)
            | exact Ev.wk (Ext.cons rfl rfl (Ext.cons rfl rfl (Ext.nil rfl))) (hq.2.2.2.2.2 (fun z => z.elim (pk_nn (by decide) (by decide) hc28) (pk_nn (by decide) (by decide) hc63)))
            | (exfalso; omega)
    · have hc28 : ¬ ((nxC g p) = 38) := fun z => hc28 ((nI_eqU (by omega) (by omega)).mpr z)
      refine Ev.run 1 (pc' := 58) (lv' := [(3, .int (nI k)), (2, .int (nI (bn o))), (0, .ref 5), (1, .int (nI 1))]) (st' := [.ref 5]) (h' := HN (RT g T p 0 le li l) hl (RF (3, T, c, e))) rfl ?_
      refine Ev.call (a := 59) (as := [.ref 5]) (rest := []) (lv0 := [(0, .ref 5)]) (Q1 := (fun z0 h' => z0 = some (.int (nI (nxC g p))) ∧ h' = HN (RT g T p 0 le li l) hl (RF (3, T, c, e)))) rfl rfl (K_next _ _ _ _ _ _ hT hX p _ _ l 0 (by omega) ⟨rfl, rfl⟩) (fun r h' hr => ?_)
      obtain ⟨rfl, rfl⟩ := hr
      refine Ev.run 2 (pc' := (if nI (nxC g p) = nI 124 then 66 else 102)) (lv' := [(3, .int (nI k)), (2, .int (nI (bn o))), (0, .ref 5), (1, .int (nI 1))]) (st' := []) (h' := HN (RT g T p 0 le li l) hl (RF (3, T, c, e))) rfl ?_
      refine Ev.ite (fun hc63 => ?_) (fun hc63 => ?_)
      · have hc63 : (nxC g p) = 124 := (nI_eqU (by omega) (by omega)).mp hc63
        refine Ev.run 5 (pc' := 73) (lv' := [(3, .int (nI k)), (2, .int (nI (bn o))), (0, .ref 5), (1, .int (nI 1))]) (st' := [.int (nI p + nI 1), .ref 5]) (h' := HN (RT g T p 0 le li l) hl (RF (3, T, c, e))) rfl ?_
        refine Ev.topI (nI_add _ _) ?_
        refine Ev.run 1 (pc' := 76) (lv' := [(3, .int (nI k)), (2, .int (nI (bn o))), (0, .ref 5), (1, .int (nI 1))]) (st' := []) (h' := setI (HN (RT g T p 0 le li l) hl (RF (3, T, c, e))) 5 2 (nI (p + 1))) rfl ?_
        refine Ev.hp (HN_set _ _ _ _ _ _) ?_
        refine Ev.hp (congrArg (fun z => HN z hl (RF (3, T, c, e))) (RT_52 _ _ _ _ _ _ _)) ?_
        refine Ev.run 1 (pc' := 77) (lv' := [(3, .int (nI k)), (2, .int (nI (bn o))), (0, .ref 5), (1, .int (nI 1))]) (st' := [.int (nI (bn o))]) (h' := HN (RT g T (p + 1) 0 le li l) hl (RF (3, T, c, e))) rfl ?_
        refine Ev_bn (fun hb77 => ?_) (fun hb77 => ?_)
        · skip
          refine Ev.run 4 (pc' := 86) (lv' := [(3, .int (nI k)), (2, .int (nI (bn o))), (0, .ref 5), (1, .int (nI 1))]) (st' := [.int (nI 4294967294), .ref T]) (h' := HN (RT g T (p + 1) 0 le li l) hl (RF (3, T, c, e))) rfl ?_
          refine Ev_callV (a := 65) (as := [.ref T, .int (nI 4294967294)]) (rest := []) (lv0 := [(0, .ref T), (1, .int (nI 4294967294))]) (Q1 := (fun z0 h' => z0 = none ∧ h' = HN (RT g T (p + 1) 0 le li (plT l 4294967172)) hl (RF (3, T, c, e)))) rfl rfl rfl rfl rfl hT.1.k rfl rfl rfl (K_tput _ _ _ _ _ _ hT hX (p + 1) le li l 0 4294967294 4294967172 rfl (by first | omega | (rw [List.length_append]; omega)) ⟨rfl, rfl⟩) (fun r h' hr => ?_)
          obtain ⟨rfl, rfl⟩ := hr
          refine Ev.run 4 (pc' := 93) (lv' := [(2, .int (nI 1)), (3, .int (nI k)), (0, .ref 5), (1, .int (nI 1))]) (st' := [.int (nI 1), .ref 5]) (h' := HN (RT g T (p + 1) 0 le li (plT l 4294967172)) hl (RF (3, T, c, e))) rfl ?_
          refine Ev.call (a := 54) (as := [.ref 5, .int (nI 1)]) (rest := []) (lv0 := [(0, .ref 5), (1, .int (nI 1))]) (Q1 := (fun z0 h' => (∃ (q : Nat) (lf : List Nat), FK g 1 (p + 1) q lf ∧ z0 = none ∧ h' = HN (RT g T q 0 le li ((plT l 4294967172) ++ lf)) hl (RF (3, T, c, e))) ∨ (∃ (q : Nat) (l' : List Nat), FX g 1 (p + 1) q ∧ l'.length ≤ 100 ∧ z0 = none ∧ h' = HN (RT g T q 1 le li l') hl (RF (3, T, c, e))))) rfl rfl (K_fac1_ _ _ _ _ _ _ hT hX (p + 1) le li (plT l 4294967172) (by first | omega | exact nx_lt (by omega)) (by first | omega | exact Nat.le_trans (plT_ln _ _) (by omega)) ⟨fun q lf hz => Or.inl ⟨q, lf, hz, rfl, rfl⟩, fun q l' hz hz2 => Or.inr ⟨q, l', hz, hz2, rfl, rfl⟩⟩) (fun r h' hr => ?_)
          rcases hr with ⟨qa, lfa, hFa, rfl, rfl⟩ | ⟨qa, la, hFa, hla, rfl, rfl⟩
          · skip
            have hF1a := hFa.1
            have hF2a := hFa.2.1
            have hF3a := hFa.2.2.1
            have hlla : ((plT l 4294967172) ++ lfa).length = ((plT l 4294967172)).length + lfa.length := List.length_append
            refine Ev.run 1 (pc' := 99) (lv' := [(3, .int (nI k + 1)), (2, .int (nI 1)), (0, .ref 5), (1, .int (nI 1))]) (st' := []) (h' := HN (RT g T qa 0 le li ((plT l 4294967172) ++ lfa)) hl (RF (3, T, c, e))) rfl ?_
            refine Ev.lvE (congrArg (fun z => (3, Value.int z) :: [(2, .int (nI 1)), (0, .ref 5), (1, .int (nI 1))]) (nI_1 _)) ?_
            refine Ev.run 1 (pc' := 9) (lv' := [(3, .int (nI (k + 1))), (2, .int (nI 1)), (0, .ref 5), (1, .int (nI 1))]) (st' := []) (h' := HN (RT g T qa 0 le li ((plT l 4294967172) ++ lfa)) hl (RF (3, T, c, e))) rfl ?_
            first
              | exact Ev.wk (Ext.cons rfl rfl (Ext.cons rfl rfl (Ext.cons rfl rfl (Ext.cons rfl rfl (Ext.nil rfl))))) (hq.1 _ _ (pk_nx (by decide) (by decide) hc28) hFa)
              | exact Ev.wk (Ext.cons rfl rfl (Ext.cons rfl rfl (Ext.cons rfl rfl (Ext.cons rfl rfl (Ext.nil rfl))))) (hq.2.2.1 (by assumption) _ _ (pk_nx (by decide) (by decide) hc63) hFa)
              | exact Ev.wk (Ext.cons rfl rfl (Ext.cons rfl rfl (Ext.cons rfl rfl (Ext.cons rfl rfl (Ext.nil rfl))))) (hq.2.2.2.1 (by assumption) _ _ (pk_nx (by decide) (by decide) hc63) hFa)
              | (exfalso; omega)
          · skip
            have hF2a := hFa.2.1
            refine Ev.run 1 (pc' := 99) (lv' := [(3, .int (nI k + 1)), (2, .int (nI 1)), (0, .ref 5), (1, .int (nI 1))]) (st' := []) (h' := HN (RT g T qa 1 le li la) hl (RF (3, T, c, e))) rfl ?_
            refine Ev.lvE (congrArg (fun z => (3, Value.int z) :: [(2, .int (nI 1)), (0, .ref 5), (1, .int (nI 1))]) (nI_1 _)) ?_
            refine Ev.run 1 (pc' := 9) (lv' := [(3, .int (nI (k + 1))), (2, .int (nI 1)), (0, .ref 5), (1, .int (nI 1))]) (st' := []) (h' := HN (RT g T qa 1 le li la) hl (RF (3, T, c, e))) rfl ?_
            refine Ev.run 3 (pc' := (if nI 100 ≤ nI (k + 1) then 102 else 15)) (lv' := [(3, .int (nI (k + 1))), (2, .int (nI 1)), (0, .ref 5), (1, .int (nI 1))]) (st' := []) (h' := HN (RT g T qa 1 le li la) hl (RF (3, T, c, e))) rfl ?_
            refine Ev.ite (fun hc12 => ?_) (fun hc12 => ?_)
            · have hc12 : 100 ≤ (k + 1) := (nI_leI (by omega) (by omega)).mp hc12
              first
                | exact Ev.wk (Ext.cons rfl rfl (Ext.cons rfl rfl (Ext.nil rfl))) (hq.2.1 _ _ (pk_nx (by decide) (by decide) hc28) hFa (by first | exact hla | exact plT_le _ hla))
                | exact Ev.wk (Ext.cons rfl rfl (Ext.cons rfl rfl (Ext.nil rfl))) (hq.2.2.2.2.1 _ _ (pk_nx (by decide) (by decide) hc63) hFa hla)
                | exact Ev.wk (Ext.cons rfl rfl (Ext.cons rfl rfl (Ext.nil rfl))) (hq.2.2.2.2.2 (fun z => z.elim (pk_nn (by decide) (by decide) hc28) (pk_nn (by decide) (by decide) hc63)))
                | (exfalso; omega)
            · have hc12 : ¬ (100 ≤ (k + 1)) := fun z => hc12 ((nI_leI (by omega) (by omega)).mpr z)
              refine Ev.run 3 (pc' := 102) (lv' := [(3, .int (nI (k + 1))), (2, .int (nI 1)), (0, .ref 5), (1, .int (nI 1))]) (st' := []) (h' := HN (RT g T qa 1 le li la) hl (RF (3, T, c, e))) rfl ?_
              first
                | exact Ev.wk (Ext.cons rfl rfl (Ext.cons rfl rfl (Ext.nil rfl))) (hq.2.1 _ _ (pk_nx (by decide) (by decide) hc28) hFa (by first | exact hla | exact plT_le _ hla))
                | exact Ev.wk (Ext.cons rfl rfl (Ext.cons rfl rfl (Ext.nil rfl))) (hq.2.2.2.2.1 _ _ (pk_nx (by decide) (by decide) hc63) hFa hla)
                | exact Ev.wk (Ext.cons rfl rfl (Ext.cons rfl rfl (Ext.nil rfl))) (hq.2.2.2.2.2 (fun z => z.elim (pk_nn (by decide) (by decide) hc28) (pk_nn (by decide) (by decide) hc63)))
                | (exfalso; omega)
        · skip
          refine Ev.run 5 (pc' := 93) (lv' := [(2, .int (nI 1)), (3, .int (nI k)), (0, .ref 5), (1, .int (nI 1))]) (st' := [.int (nI 1), .ref 5]) (h' := HN (RT g T (p + 1) 0 le li l) hl (RF (3, T, c, e))) rfl ?_
          refine Ev.call (a := 54) (as := [.ref 5, .int (nI 1)]) (rest := []) (lv0 := [(0, .ref 5), (1, .int (nI 1))]) (Q1 := (fun z0 h' => (∃ (q : Nat) (lf : List Nat), FK g 1 (p + 1) q lf ∧ z0 = none ∧ h' = HN (RT g T q 0 le li (l ++ lf)) hl (RF (3, T, c, e))) ∨ (∃ (q : Nat) (l' : List Nat), FX g 1 (p + 1) q ∧ l'.length ≤ 100 ∧ z0 = none ∧ h' = HN (RT g T q 1 le li l') hl (RF (3, T, c, e))))) rfl rfl (K_fac1_ _ _ _ _ _ _ hT hX (p + 1) le li l (by first | omega | exact nx_lt (by omega)) (by first | omega | exact Nat.le_trans (plT_ln _ _) (by omega)) ⟨fun q lf hz => Or.inl ⟨q, lf, hz, rfl, rfl⟩, fun q l' hz hz2 => Or.inr ⟨q, l', hz, hz2, rfl, rfl⟩⟩) (fun r h' hr => ?_)
          rcases hr with ⟨qa, lfa, hFa, rfl, rfl⟩ | ⟨qa, la, hFa, hla, rfl, rfl⟩
          · skip
            have hF1a := hFa.1
            have hF2a := hFa.2.1
            have hF3a := hFa.2.2.1
            have hlla : (l ++ lfa).length = (l).length + lfa.length := List.length_append
            refine Ev.run 1 (pc' := 99) (lv' := [(3, .int (nI k + 1)), (2, .int (nI 1)), (0, .ref 5), (1, .int (nI 1))]) (st' := []) (h' := HN (RT g T qa 0 le li (l ++ lfa)) hl (RF (3, T, c, e))) rfl ?_
            refine Ev.lvE (congrArg (fun z => (3, Value.int z) :: [(2, .int (nI 1)), (0, .ref 5), (1, .int (nI 1))]) (nI_1 _)) ?_
            refine Ev.run 1 (pc' := 9) (lv' := [(3, .int (nI (k + 1))), (2, .int (nI 1)), (0, .ref 5), (1, .int (nI 1))]) (st' := []) (h' := HN (RT g T qa 0 le li (l ++ lfa)) hl (RF (3, T, c, e))) rfl ?_
            first
              | exact Ev.wk (Ext.cons rfl rfl (Ext.cons rfl rfl (Ext.cons rfl rfl (Ext.cons rfl rfl (Ext.nil rfl))))) (hq.1 _ _ (pk_nx (by decide) (by decide) hc28) hFa)
              | exact Ev.wk (Ext.cons rfl rfl (Ext.cons rfl rfl (Ext.cons rfl rfl (Ext.cons rfl rfl (Ext.nil rfl))))) (hq.2.2.1 (by assumption) _ _ (pk_nx (by decide) (by decide) hc63) hFa)
              | exact Ev.wk (Ext.cons rfl rfl (Ext.cons rfl rfl (Ext.cons rfl rfl (Ext.cons rfl rfl (Ext.nil rfl))))) (hq.2.2.2.1 (by assumption) _ _ (pk_nx (by decide) (by decide) hc63) hFa)
              | (exfalso; omega)
          · skip
            have hF2a := hFa.2.1
            refine Ev.run 1 (pc' := 99) (lv' := [(3, .int (nI k + 1)), (2, .int (nI 1)), (0, .ref 5), (1, .int (nI 1))]) (st' := []) (h' := HN (RT g T qa 1 le li la) hl (RF (3, T, c, e))) rfl ?_
            refine Ev.lvE (congrArg (fun z => (3, Value.int z) :: [(2, .int (nI 1)), (0, .ref 5), (1, .int (nI 1))]) (nI_1 _)) ?_
            refine Ev.run 1 (pc' := 9) (lv' := [(3, .int (nI (k + 1))), (2, .int (nI 1)), (0, .ref 5), (1, .int (nI 1))]) (st' := []) (h' := HN (RT g T qa 1 le li la) hl (RF (3, T, c, e))) rfl ?_
            refine Ev.run 3 (pc' := (if nI 100 ≤ nI (k + 1) then 102 else 15)) (lv' := [(3, .int (nI (k + 1))), (2, .int (nI 1)), (0, .ref 5), (1, .int (nI 1))]) (st' := []) (h' := HN (RT g T qa 1 le li la) hl (RF (3, T, c, e))) rfl ?_
            refine Ev.ite (fun hc12 => ?_) (fun hc12 => ?_)
            · have hc12 : 100 ≤ (k + 1) := (nI_leI (by omega) (by omega)).mp hc12
              first
                | exact Ev.wk (Ext.cons rfl rfl (Ext.cons rfl rfl (Ext.nil rfl))) (hq.2.1 _ _ (pk_nx (by decide) (by decide) hc28) hFa (by first | exact hla | exact plT_le _ hla))
                | exact Ev.wk (Ext.cons rfl rfl (Ext.cons rfl rfl (Ext.nil rfl))) (hq.2.2.2.2.1 _ _ (pk_nx (by decide) (by decide) hc63) hFa hla)
                | exact Ev.wk (Ext.cons rfl rfl (Ext.cons rfl rfl (Ext.nil rfl))) (hq.2.2.2.2.2 (fun z => z.elim (pk_nn (by decide) (by decide) hc28) (pk_nn (by decide) (by decide) hc63)))
                | (exfalso; omega)
            · have hc12 : ¬ (100 ≤ (k + 1)) := fun z => hc12 ((nI_leI (by omega) (by omega)).mpr z)
              refine Ev.run 3 (pc' := 102) (lv' := [(3, .int (nI (k + 1))), (2, .int (nI 1)), (0, .ref 5), (1, .int (nI 1))]) (st' := []) (h' := HN (RT g T qa 1 le li la) hl (RF (3, T, c, e))) rfl ?_
              first
                | exact Ev.wk (Ext.cons rfl rfl (Ext.cons rfl rfl (Ext.nil rfl))) (hq.2.1 _ _ (pk_nx (by decide) (by decide) hc28) hFa (by first | exact hla | exact plT_le _ hla))
                | exact Ev.wk (Ext.cons rfl rfl (Ext.cons rfl rfl (Ext.nil rfl))) (hq.2.2.2.2.1 _ _ (pk_nx (by decide) (by decide) hc63) hFa hla)
                | exact Ev.wk (Ext.cons rfl rfl (Ext.cons rfl rfl (Ext.nil rfl))) (hq.2.2.2.2.2 (fun z => z.elim (pk_nn (by decide) (by decide) hc28) (pk_nn (by decide) (by decide) hc63)))
                | (exfalso; omega)
      · have hc63 : ¬ ((nxC g p) = 124) := fun z => hc63 ((nI_eqU (by omega) (by omega)).mpr z)
        first
          | exact Ev.wk (Ext.cons rfl rfl (Ext.cons rfl rfl (Ext.nil rfl))) (hq.2.1 _ _ (pk_nx (by decide) (by decide) hc28) hFa (by first | exact hla | exact plT_le _ hla))
          | exact Ev.wk (Ext.cons rfl rfl (Ext.cons rfl rfl (Ext.nil rfl))) (hq.2.2.2.2.1 _ _ (pk_nx (by decide) (by decide) hc63) hFa hla)
          | exact Ev.wk (Ext.cons rfl rfl (Ext.cons rfl rfl (Ext.nil rfl))) (hq.2.2.2.2.2 (fun z => z.elim (pk_nn (by decide) (by decide) hc28) (pk_nn (by decide) (by decide) hc63)))
          | (exfalso; omega)
theorem K_exp1_ {L : Nat} {xs : Nat → Int32} (d : Nat) (g : Nat → Nat → Nat) (hl : Nat → Nat → Int64) (T c e : Nat) (hT : TbT T) (hX : TX g) (p le li : Nat) (l : List Nat) (hp : p ≤ g 166 17) (hlp : l.length ≤ p) {Q : Po} (hq : (∀ q o lc, EK g 1 p q o lc → ¬ (pkS g q = 38 ∨ pkS g q = 124) → Q none (HN (RT g T q 0 le li (l ++ (lc ++ oL o))) hl (RF (3, T, c, e)))) ∧ (∀ q l', EX g 1 p q → l'.length ≤ 100 → Q none (HN (RT g T q 1 le li l') hl (RF (3, T, c, e))))) : Ev L xs (d + 14) 53 0 [(0, .ref 5), (1, .int (nI 1))] [] (HN (RT g T p 0 le li l) hl (RF (3, T, c, e))) Q := by
  have hN := hX.1
  have loop : ∀ k, k ≤ 100 → ∀ (s : Nat) (o : Bool) (lc : List Nat), EK g 1 p s o lc → p + k + 3 ≤ s → Ev L xs (d + 14) 53 9 [(3, .int (nI k)), (2, .int (nI (bn o))), (0, .ref 5), (1, .int (nI 1))] [] (HN (RT g T s 0 le li (l ++ lc)) hl (RF (3, T, c, e))) Q := by
    refine for_ind 100 _ (fun k hk hnext => ?_)
    intro s o lc hE hks
    have hE1 := hE.1
    have hE2 := hE.2.1
    have hE3 := hE.2.2.1
    have hll : (l ++ lc).length = l.length + lc.length := List.length_append
    refine K_turn1 d g hl T c e hT hX s le li (l ++ lc) k o (by omega) hE2 (by omega) ⟨fun q lf hs hF => ?_, fun q l' hs hF hl' => ?_, fun ho q lf hs hF => ?_, fun ho q lf hs hF => ?_, fun q l' hs hF hl' => ?_, fun hs => ?_⟩
    · have h1 := hF.2.1
      have h2 := hF.2.2.1
      rw [plT_lt (by rw [List.length_append]; omega)]
      have hx := hnext (by omega) q o _ (hE.and hs hF) (by have := hF.1; omega)
      simpa only [List.append_assoc] using hx
    · exact K_endX (d + 13) g hl T c e hT hX q le li l' o hl' (fun l2 h2 => hq.2 _ _ (EX.and hE hs hF) h2)
    · subst ho
      have h1 := hF.2.1
      have h2 := hF.2.2.1
      have h3 : (oL true).length = 1 := rfl
      rw [plT_lt (by omega)]
      have hx := hnext (by omega) q true _ (hE.or hs hF) (by have := hF.1; omega)
      have e1 : l ++ lc ++ [4294967172] ++ lf = l ++ (lc ++ oL true ++ lf) := by
        rw [show oL true = [4294967172] from rfl]
        simp only [List.append_assoc]
      rw [e1]
      exact hx
    · subst ho
      have hx := hnext (by omega) q true _ (hE.or hs hF) (by have := hF.1; omega)
      have e1 : l ++ lc ++ lf = l ++ (lc ++ oL false ++ lf) := by
        show l ++ lc ++ lf = l ++ (lc ++ [] ++ lf)
        rw [List.append_nil, List.append_assoc]
      rw [e1]
      exact hx
    · exact K_endX (d + 13) g hl T c e hT hX q le li l' true hl' (fun l2 h2 => hq.2 _ _ (EX.or hE hs hF) h2)
    · refine K_endO (d + 13) g hl T c e hT hX s le li (l ++ lc) o (by omega) ?_
      rw [List.append_assoc]
      exact hq.1 _ _ _ hE hs
  refine Ev.run 4 (pc' := 4) (lv' := [(2, .int (nI 0)), (0, .ref 5), (1, .int (nI 1))]) (st' := [.int (nI 1), .ref 5]) (h' := HN (RT g T p 0 le li l) hl (RF (3, T, c, e))) rfl ?_
  refine Ev.call (a := 54) (as := [.ref 5, .int (nI 1)]) (rest := []) (lv0 := [(0, .ref 5), (1, .int (nI 1))]) (Q1 := (fun z0 h' => (∃ (q : Nat) (lf : List Nat), FK g 1 p q lf ∧ z0 = none ∧ h' = HN (RT g T q 0 le li (l ++ lf)) hl (RF (3, T, c, e))) ∨ (∃ (q : Nat) (l' : List Nat), FX g 1 p q ∧ l'.length ≤ 100 ∧ z0 = none ∧ h' = HN (RT g T q 1 le li l') hl (RF (3, T, c, e))))) rfl rfl (K_fac1_ _ _ _ _ _ _ hT hX p le li l (by first | omega | exact nx_lt (by omega)) (by omega) ⟨fun q lf hz => Or.inl ⟨q, lf, hz, rfl, rfl⟩, fun q l' hz hz2 => Or.inr ⟨q, l', hz, hz2, rfl, rfl⟩⟩) (fun r h' hr => ?_)
  rcases hr with ⟨qa, lfa, hFa, rfl, rfl⟩ | ⟨qa, la, hFa, hla, rfl, rfl⟩
  · skip
    have hF1a := hFa.1
    have hF2a := hFa.2.1
    have hF3a := hFa.2.2.1
    have hlla : (l ++ lfa).length = (l).length + lfa.length := List.length_append
    refine Ev.run 2 (pc' := 9) (lv' := [(3, .int (nI 0)), (2, .int (nI 0)), (0, .ref 5), (1, .int (nI 1))]) (st' := []) (h' := HN (RT g T qa 0 le li (l ++ lfa)) hl (RF (3, T, c, e))) rfl ?_
    exact Ev.wk (Ext.cons rfl rfl (Ext.cons rfl rfl (Ext.cons rfl rfl (Ext.cons rfl rfl (Ext.nil rfl))))) (loop 0 (Nat.zero_le _) qa false lfa (EK.s hFa) (by have := hFa.1; omega))
  · skip
    have hF2a := hFa.2.1
    refine Ev.run 2 (pc' := 9) (lv' := [(3, .int (nI 0)), (2, .int (nI 0)), (0, .ref 5), (1, .int (nI 1))]) (st' := []) (h' := HN (RT g T qa 1 le li la) hl (RF (3, T, c, e))) rfl ?_
    refine Ev.run 6 (pc' := 102) (lv' := [(3, .int (nI 0)), (2, .int (nI 0)), (0, .ref 5), (1, .int (nI 1))]) (st' := []) (h' := HN (RT g T qa 1 le li la) hl (RF (3, T, c, e))) rfl ?_
    exact Ev.wk (Ext.cons rfl rfl (Ext.cons rfl rfl (Ext.nil rfl))) (K_endX (d + 13) g hl T c e hT hX qa le li la false hla (fun l2 h2 => hq.2 _ _ (EX.s hFa) h2))
theorem K_fac0_ {L : Nat} {xs : Nat → Int32} (d : Nat) (g : Nat → Nat → Nat) (hl : Nat → Nat → Int64) (T c e : Nat) (hT : TbT T) (hX : TX g) (p le li : Nat) (l : List Nat) (hp : p ≤ g 166 17) (hlp : l.length ≤ p) {Q : Po} (hq : (∀ q lf, FK g 0 p q lf → Q none (HN (RT g T q 0 le li (l ++ lf)) hl (RF (3, T, c, e)))) ∧ (∀ q l', FX g 0 p q → l'.length ≤ 100 → Q none (HN (RT g T q 1 le li l') hl (RF (3, T, c, e))))) : Ev L xs (d + 15) 54 0 [(0, .ref 5), (1, .int (nI 0))] [] (HN (RT g T p 0 le li l) hl (RF (3, T, c, e))) Q := by
  have hN := hX.1
  have hnx := nx_le hX p
  refine Ev.run 12 (pc' := 23) (lv' := [(2, .int (nI 1)), (0, .ref 5), (1, .int (nI 0))]) (st' := [.ref 5]) (h' := HN (RT g T p 0 le li l) hl (RF (3, T, c, e))) rfl ?_
  refine Ev.call (a := 59) (as := [.ref 5]) (rest := []) (lv0 := [(0, .ref 5)]) (Q1 := (fun z0 h' => z0 = some (.int (nI (nxC g p))) ∧ h' = HN (RT g T p 0 le li l) hl (RF (3, T, c, e)))) rfl rfl (K_next _ _ _ _ _ _ hT hX p _ _ l 0 (by omega) ⟨rfl, rfl⟩) (fun r h' hr => ?_)
  obtain ⟨rfl, rfl⟩ := hr
  refine Ev.run 2 (pc' := (if nI (nxC g p) = nI 33 then 31 else 60)) (lv' := [(2, .int (nI 1)), (0, .ref 5), (1, .int (nI 0))]) (st' := []) (h' := HN (RT g T p 0 le li l) hl (RF (3, T, c, e))) rfl ?_
  refine Ev.ite (fun hc28 => ?_) (fun hc28 => ?_)
  · have hc28 : (nxC g p) = 33 := (nI_eqU (by omega) (by omega)).mp hc28
    refine Ev.run 5 (pc' := 38) (lv' := [(2, .int (nI 1)), (0, .ref 5), (1, .int (nI 0))]) (st' := [.int (nI p + nI 1), .ref 5]) (h' := HN (RT g T p 0 le li l) hl (RF (3, T, c, e))) rfl ?_
    refine Ev.topI (nI_add _ _) ?_
    refine Ev.run 1 (pc' := 41) (lv' := [(2, .int (nI 1)), (0, .ref 5), (1, .int (nI 0))]) (st' := []) (h' := setI (HN (RT g T p 0 le li l) hl (RF (3, T, c, e))) 5 2 (nI (p + 1))) rfl ?_
    refine Ev.hp (HN_set _ _ _ _ _ _) ?_
    refine Ev.hp (congrArg (fun z => HN z hl (RF (3, T, c, e))) (RT_52 _ _ _ _ _ _ _)) ?_
    refine Ev.run 4 (pc' := 45) (lv' := [(2, .int (nI 1)), (0, .ref 5), (1, .int (nI 0))]) (st' := [.int (nI 1), .ref 5]) (h' := HN (RT g T (p + 1) 0 le li l) hl (RF (3, T, c, e))) rfl ?_
    refine Ev.call (a := 54) (as := [.ref 5, .int (nI 1)]) (rest := []) (lv0 := [(0, .ref 5), (1, .int (nI 1))]) (Q1 := (fun z0 h' => (∃ (q : Nat) (lf : List Nat), FK g 1 (p + 1) q lf ∧ z0 = none ∧ h' = HN (RT g T q 0 le li (l ++ lf)) hl (RF (3, T, c, e))) ∨ (∃ (q : Nat) (l' : List Nat), FX g 1 (p + 1) q ∧ l'.length ≤ 100 ∧ z0 = none ∧ h' = HN (RT g T q 1 le li l') hl (RF (3, T, c, e))))) rfl rfl (K_fac1_ _ _ _ _ _ _ hT hX (p + 1) le li l (by first | omega | exact nx_lt (by omega)) (by omega) ⟨fun q lf hz => Or.inl ⟨q, lf, hz, rfl, rfl⟩, fun q l' hz hz2 => Or.inr ⟨q, l', hz, hz2, rfl, rfl⟩⟩) (fun r h' hr => ?_)
    rcases hr with ⟨qa, lfa, hFa, rfl, rfl⟩ | ⟨qa, la, hFa, hla, rfl, rfl⟩
    · skip
      have hF1a := hFa.1
      have hF2a := hFa.2.1
      have hF3a := hFa.2.2.1
      have hlla : (l ++ lfa).length = (l).length + lfa.length := List.length_append
      refine Ev.run 3 (pc' := 54) (lv' := [(2, .int (nI 1)), (0, .ref 5), (1, .int (nI 0))]) (st' := [.int (nI 4294967293), .ref T]) (h' := HN (RT g T qa 0 le li (l ++ lfa)) hl (RF (3, T, c, e))) rfl ?_
      refine Ev_callV (a := 65) (as := [.ref T, .int (nI 4294967293)]) (rest := []) (lv0 := [(0, .ref T), (1, .int (nI 4294967293))]) (Q1 := (fun z0 h' => z0 = none ∧ h' = HN (RT g T qa 0 le li (plT (l ++ lfa) 4294967263)) hl (RF (3, T, c, e)))) rfl rfl rfl rfl rfl hT.1.k rfl rfl rfl (K_tput _ _ _ _ _ _ hT hX qa le li (l ++ lfa) 0 4294967293 4294967263 rfl (by first | omega | exact plT_le _ (by omega)) ⟨rfl, rfl⟩) (fun r h' hr => ?_)
      obtain ⟨rfl, rfl⟩ := hr
      refine Ev.run 1 (pc' := 128) (lv' := [(2, .int (nI 1)), (0, .ref 5), (1, .int (nI 0))]) (st' := []) (h' := HN (RT g T qa 0 le li (plT (l ++ lfa) 4294967263)) hl (RF (3, T, c, e))) rfl ?_
      refine Ev.ret (v := none) rfl ?_
      first
        | (rw [plT_lt (by omega), List.append_assoc]; exact hq.1 _ _ (FK.n hp (by decide) (pk_nx (by decide) (by decide) hc28) hFa))
        | exact hq.2 _ _ (FX.n hp (by decide) (pk_nx (by decide) (by decide) hc28) hFa) (plT_le _ (by omega))
        | exact hq.1 _ _ (FK.p hp (by decide) (pk_nx (by decide) (by decide) hc70) hFb hGb hxe)
        | exact hq.2 _ _ (FX.p2 hp (by decide) (pk_nx (by decide) (by decide) hc70) hFb hGb hxe) (by rw [List.length_append, List.length_append]; omega)
        | exact hq.2 _ _ (FX.p hp (by decide) (pk_nx (by decide) (by decide) hc70) hFb) (by omega)
    · skip
      have hF2a := hFa.2.1
      refine Ev.run 3 (pc' := 54) (lv' := [(2, .int (nI 1)), (0, .ref 5), (1, .int (nI 0))]) (st' := [.int (nI 4294967293), .ref T]) (h' := HN (RT g T qa 1 le li la) hl (RF (3, T, c, e))) rfl ?_
      refine Ev_callV (a := 65) (as := [.ref T, .int (nI 4294967293)]) (rest := []) (lv0 := [(0, .ref T), (1, .int (nI 4294967293))]) (Q1 := (fun z0 h' => z0 = none ∧ h' = HN (RT g T qa 1 le li (plT la 4294967263)) hl (RF (3, T, c, e)))) rfl rfl rfl rfl rfl hT.1.k rfl rfl rfl (K_tput _ _ _ _ _ _ hT hX qa le li la 1 4294967293 4294967263 rfl (by first | omega | exact plT_le _ (by omega)) ⟨rfl, rfl⟩) (fun r h' hr => ?_)
      obtain ⟨rfl, rfl⟩ := hr
      refine Ev.run 1 (pc' := 128) (lv' := [(2, .int (nI 1)), (0, .ref 5), (1, .int (nI 0))]) (st' := []) (h' := HN (RT g T qa 1 le li (plT la 4294967263)) hl (RF (3, T, c, e))) rfl ?_
      refine Ev.ret (v := none) rfl ?_
      first
        | (rw [plT_lt (by omega), List.append_assoc]; exact hq.1 _ _ (FK.n hp (by decide) (pk_nx (by decide) (by decide) hc28) hFa))
        | exact hq.2 _ _ (FX.n hp (by decide) (pk_nx (by decide) (by decide) hc28) hFa) (plT_le _ (by omega))
        | exact hq.1 _ _ (FK.p hp (by decide) (pk_nx (by decide) (by decide) hc70) hFb hGb hxe)
        | exact hq.2 _ _ (FX.p2 hp (by decide) (pk_nx (by decide) (by decide) hc70) hFb hGb hxe) (by rw [List.length_append, List.length_append]; omega)
        | exact hq.2 _ _ (FX.p hp (by decide) (pk_nx (by decide) (by decide) hc70) hFb) (by omega)
  · have hc28 : ¬ ((nxC g p) = 33) := fun z => hc28 ((nI_eqU (by omega) (by omega)).mpr z)
    refine Ev.run 3 (pc' := 65) (lv' := [(2, .int (nI 1)), (0, .ref 5), (1, .int (nI 0))]) (st' := [.ref 5]) (h' := HN (RT g T p 0 le li l) hl (RF (3, T, c, e))) rfl ?_
    refine Ev.call (a := 59) (as := [.ref 5]) (rest := []) (lv0 := [(0, .ref 5)]) (Q1 := (fun z0 h' => z0 = some (.int (nI (nxC g p))) ∧ h' = HN (RT g T p 0 le li l) hl (RF (3, T, c, e)))) rfl rfl (K_next _ _ _ _ _ _ hT hX p _ _ l 0 (by omega) ⟨rfl, rfl⟩) (fun r h' hr => ?_)
    obtain ⟨rfl, rfl⟩ := hr
    refine Ev.run 2 (pc' := (if nI (nxC g p) = nI 40 then 73 else 99)) (lv' := [(2, .int (nI 1)), (0, .ref 5), (1, .int (nI 0))]) (st' := []) (h' := HN (RT g T p 0 le li l) hl (RF (3, T, c, e))) rfl ?_
    refine Ev.ite (fun hc70 => ?_) (fun hc70 => ?_)
    · have hc70 : (nxC g p) = 40 := (nI_eqU (by omega) (by omega)).mp hc70
      refine Ev.run 5 (pc' := 80) (lv' := [(2, .int (nI 1)), (0, .ref 5), (1, .int (nI 0))]) (st' := [.int (nI p + nI 1), .ref 5]) (h' := HN (RT g T p 0 le li l) hl (RF (3, T, c, e))) rfl ?_
      refine Ev.topI (nI_add _ _) ?_
      refine Ev.run 1 (pc' := 83) (lv' := [(2, .int (nI 1)), (0, .ref 5), (1, .int (nI 0))]) (st' := []) (h' := setI (HN (RT g T p 0 le li l) hl (RF (3, T, c, e))) 5 2 (nI (p + 1))) rfl ?_
      refine Ev.hp (HN_set _ _ _ _ _ _) ?_
      refine Ev.hp (congrArg (fun z => HN z hl (RF (3, T, c, e))) (RT_52 _ _ _ _ _ _ _)) ?_
      refine Ev.run 4 (pc' := 87) (lv' := [(2, .int (nI 1)), (0, .ref 5), (1, .int (nI 0))]) (st' := [.int (nI 1), .ref 5]) (h' := HN (RT g T (p + 1) 0 le li l) hl (RF (3, T, c, e))) rfl ?_
      refine Ev.call (a := 53) (as := [.ref 5, .int (nI 1)]) (rest := []) (lv0 := [(0, .ref 5), (1, .int (nI 1))]) (Q1 := (fun z0 h' => (∃ (q : Nat) (o : Bool) (lc : List Nat), EK g 1 (p + 1) q o lc ∧ ¬ (pkS g q = 38 ∨ pkS g q = 124) ∧ z0 = none ∧ h' = HN (RT g T q 0 le li (l ++ (lc ++ oL o))) hl (RF (3, T, c, e))) ∨ (∃ (q : Nat) (l' : List Nat), EX g 1 (p + 1) q ∧ l'.length ≤ 100 ∧ z0 = none ∧ h' = HN (RT g T q 1 le li l') hl (RF (3, T, c, e))))) rfl rfl (K_exp1_ _ _ _ _ _ _ hT hX (p + 1) le li l (by first | omega | exact nx_lt (by omega)) (by omega) ⟨fun q o lc hz hz3 => Or.inl ⟨q, o, lc, hz, hz3, rfl, rfl⟩, fun q l' hz hz2 => Or.inr ⟨q, l', hz, hz2, rfl, rfl⟩⟩) (fun r h' hr => ?_)
      rcases hr with ⟨qb, ob, lcb, hFb, hGb, rfl, rfl⟩ | ⟨qb, lb, hFb, hlb, rfl, rfl⟩
      · skip
        have hF1b := hFb.1
        have hF2b := hFb.2.1
        have hF3b := hFb.2.2.1
        refine Ev.run 2 (pc' := 93) (lv' := [(2, .int (nI 1)), (0, .ref 5), (1, .int (nI 0))]) (st' := [.int (nI 41), .ref 5]) (h' := HN (RT g T qb 0 le li (l ++ (lcb ++ oL ob))) hl (RF (3, T, c, e))) rfl ?_
        refine Ev.call (a := 58) (as := [.ref 5, .int (nI 41)]) (rest := []) (lv0 := [(0, .ref 5), (1, .int (nI 41))]) (Q1 := (fun z0 h' => (pkS g qb = 41 ∧ z0 = none ∧ h' = HN (RT g T (qb + 1) 0 le li (l ++ (lcb ++ oL ob))) hl (RF (3, T, c, e))) ∨ (¬ pkS g qb = 41 ∧ z0 = none ∧ h' = HN (RT g T qb 1 le li (l ++ (lcb ++ oL ob))) hl (RF (3, T, c, e))))) rfl rfl (K_exp0 _ _ _ _ _ _ hT hX qb le li (l ++ (lcb ++ oL ob)) 41 (by omega) (by decide) (by decide) ⟨fun hz => Or.inl ⟨hz, rfl, rfl⟩, fun hz => Or.inr ⟨hz, rfl, rfl⟩⟩) (fun r h' hr => ?_)
        rcases hr with ⟨hxe, rfl, rfl⟩ | ⟨hxe, rfl, rfl⟩
        · skip
          refine Ev.run 1 (pc' := 128) (lv' := [(2, .int (nI 1)), (0, .ref 5), (1, .int (nI 0))]) (st' := []) (h' := HN (RT g T (qb + 1) 0 le li (l ++ (lcb ++ oL ob))) hl (RF (3, T, c, e))) rfl ?_
          refine Ev.ret (v := none) rfl ?_
          first
            | (rw [plT_lt (by omega), List.append_assoc]; exact hq.1 _ _ (FK.n hp (by decide) (pk_nx (by decide) (by decide) hc28) hFa))
            | exact hq.2 _ _ (FX.n hp (by decide) (pk_nx (by decide) (by decide) hc28) hFa) (plT_le _ (by omega))
            | exact hq.1 _ _ (FK.p hp (by decide) (pk_nx (by decide) (by decide) hc70) hFb hGb hxe)
            | exact hq.2 _ _ (FX.p2 hp (by decide) (pk_nx (by decide) (by decide) hc70) hFb hGb hxe) (by rw [List.length_append, List.length_append]; omega)
            | exact hq.2 _ _ (FX.p hp (by decide) (pk_nx (by decide) (by decide) hc70) hFb) (by omega)
        · skip
          refine Ev.run 1 (pc' := 128) (lv' := [(2, .int (nI 1)), (0, .ref 5), (1, .int (nI 0))]) (st' := []) (h' := HN (RT g T qb 1 le li (l ++ (lcb ++ oL ob))) hl (RF (3, T, c, e))) rfl ?_
          refine Ev.ret (v := none) rfl ?_
          first
            | (rw [plT_lt (by omega), List.append_assoc]; exact hq.1 _ _ (FK.n hp (by decide) (pk_nx (by decide) (by decide) hc28) hFa))
            | exact hq.2 _ _ (FX.n hp (by decide) (pk_nx (by decide) (by decide) hc28) hFa) (plT_le _ (by omega))
            | exact hq.1 _ _ (FK.p hp (by decide) (pk_nx (by decide) (by decide) hc70) hFb hGb hxe)
            | exact hq.2 _ _ (FX.p2 hp (by decide) (pk_nx (by decide) (by decide) hc70) hFb hGb hxe) (by rw [List.length_append, List.length_append]; omega)
            | exact hq.2 _ _ (FX.p hp (by decide) (pk_nx (by decide) (by decide) hc70) hFb) (by omega)
      · skip
        have hF2b := hFb.2.1
        refine Ev.run 2 (pc' := 93) (lv' := [(2, .int (nI 1)), (0, .ref 5), (1, .int (nI 0))]) (st' := [.int (nI 41), .ref 5]) (h' := HN (RT g T qb 1 le li lb) hl (RF (3, T, c, e))) rfl ?_
        refine Ev.call (a := 58) (as := [.ref 5, .int (nI 41)]) (rest := []) (lv0 := [(0, .ref 5), (1, .int (nI 41))]) (Q1 := (fun z0 h' => z0 = none ∧ h' = HN (RT g T qb 1 le li lb) hl (RF (3, T, c, e)))) rfl rfl (K_exp1 _ _ _ _ _ _ hT hX qb le li lb _ ⟨rfl, rfl⟩) (fun r h' hr => ?_)
        obtain ⟨rfl, rfl⟩ := hr
        refine Ev.run 1 (pc' := 128) (lv' := [(2, .int (nI 1)), (0, .ref 5), (1, .int (nI 0))]) (st' := []) (h' := HN (RT g T qb 1 le li lb) hl (RF (3, T, c, e))) rfl ?_
        refine Ev.ret (v := none) rfl ?_
        first
          | (rw [plT_lt (by omega), List.append_assoc]; exact hq.1 _ _ (FK.n hp (by decide) (pk_nx (by decide) (by decide) hc28) hFa))
          | exact hq.2 _ _ (FX.n hp (by decide) (pk_nx (by decide) (by decide) hc28) hFa) (plT_le _ (by omega))
          | exact hq.1 _ _ (FK.p hp (by decide) (pk_nx (by decide) (by decide) hc70) hFb hGb hxe)
          | exact hq.2 _ _ (FX.p2 hp (by decide) (pk_nx (by decide) (by decide) hc70) hFb hGb hxe) (by rw [List.length_append, List.length_append]; omega)
          | exact hq.2 _ _ (FX.p hp (by decide) (pk_nx (by decide) (by decide) hc70) hFb) (by omega)
    · have hc70 : ¬ ((nxC g p) = 40) := fun z => hc70 ((nI_eqU (by omega) (by omega)).mpr z)
      refine Ev.wk (Ext.cons rfl rfl (Ext.nil rfl)) (K_facT (d + 8) _ _ _ _ _ hT hX p le li l (by omega) (by omega) ⟨fun cd q hz => ?_, fun q hz l' hl' => ?_⟩)
      · have hF : FK g 0 p q [cd] := FK.t hp hz
        have hF1 := hF.1
        have hF2 := hF.2.1
        rw [plT_lt (by omega)]
        exact hq.1 _ _ hF
      · exact hq.2 _ _ (FX.t hp hz (by decide) (fun _ z => z.elim (pk_nn (by decide) (by decide) hc28) (pk_nn (by decide) (by decide) hc70))) hl'
theorem K_turn0 {L : Nat} {xs : Nat → Int32} (d : Nat) (g : Nat → Nat → Nat) (hl : Nat → Nat → Int64) (T c e : Nat) (hT : TbT T) (hX : TX g) (p le li : Nat) (l : List Nat) (k : Nat) (o : Bool) (hk : k < 100) (hp : p ≤ g 166 17) (hlp : l.length + (oL o).length ≤ p) {Q : Po} (hq : (∀ q lf, pkS g p = 38 → FK g 0 (p + 1) q lf → Ev L xs (d + 16) 53 9 [(3, .int (nI (k + 1))), (2, .int (nI (bn o))), (0, .ref 5), (1, .int (nI 0))] [] (HN (RT g T q 0 le li (plT (l ++ lf) 4294967258)) hl (RF (3, T, c, e))) Q) ∧ (∀ q l', pkS g p = 38 → FX g 0 (p + 1) q → l'.length ≤ 100 → Ev L xs (d + 16) 53 102 [(2, .int (nI (bn o))), (0, .ref 5)] [] (HN (RT g T q 1 le li l') hl (RF (3, T, c, e))) Q) ∧ (o = true → ∀ q lf, pkS g p = 124 → FK g 0 (p + 1) q lf → Ev L xs (d + 16) 53 9 [(3, .int (nI (k + 1))), (2, .int (nI 1)), (0, .ref 5), (1, .int (nI 0))] [] (HN (RT g T q 0 le li (plT l 4294967172 ++ lf)) hl (RF (3, T, c, e))) Q) ∧ (o = false → ∀ q lf, pkS g p = 124 → FK g 0 (p + 1) q lf → Ev L xs (d + 16) 53 9 [(3, .int (nI (k + 1))), (2, .int (nI 1)), (0, .ref 5), (1, .int (nI 0))] [] (HN (RT g T q 0 le li (l ++ lf)) hl (RF (3, T, c, e))) Q) ∧ (∀ q l', pkS g p = 124 → FX g 0 (p + 1) q → l'.length ≤ 100 → Ev L xs (d + 16) 53 102 [(2, .int (nI 1)), (0, .ref 5)] [] (HN (RT g T q 1 le li l') hl (RF (3, T, c, e))) Q) ∧ (¬ (pkS g p = 38 ∨ pkS g p = 124) → Ev L xs (d + 16) 53 102 [(2, .int (nI (bn o))), (0, .ref 5)] [] (HN (RT g T p 0 le li l) hl (RF (3, T, c, e))) Q)) : Ev L xs (d + 16) 53 9 [(3, .int (nI k)), (2, .int (nI (bn o))), (0, .ref 5), (1, .int (nI 0))] [] (HN (RT g T p 0 le li l) hl (RF (3, T, c, e))) Q := by
  have hN := hX.1
  have hnx := nx_le hX p
  refine Ev.run 3 (pc' := (if nI 100 ≤ nI k then 102 else 15)) (lv' := [(3, .int (nI k)), (2, .int (nI (bn o))), (0, .ref 5), (1, .int (nI 0))]) (st' := []) (h' := HN (RT g T p 0 le li l) hl (RF (3, T, c, e))) rfl ?_
  refine Ev.ite (fun hc12 => ?_) (fun hc12 => ?_)
  · have hc12 : 100 ≤ k := (nI_leI (by omega) (by omega)).mp hc12
    first
      | exact Ev.wk (Ext.cons rfl rfl (Ext.cons rfl rfl (Ext.nil rfl))) (hq.2.1 _ _ (pk_nx (by decide) (by decide) hc28) hFa (by first | exact hla | exact plT_le _ hla))
      | exact Ev.wk (Ext.cons rfl rfl (Ext.cons rfl rfl (Ext.nil rfl))) (hq.2.2.2.2.1 _ _ (pk_nx (by decide) (by decide) hc63) hFa hla)
      | exact Ev.wk (Ext.cons rfl rfl (Ext.cons rfl rfl (Ext.nil rfl))) (hq.2.2.2.2.2 (fun z => z.elim (pk_nn (by decide) (by decide) hc28) (pk_nn (by decide) (by decide) hc63)))
      | (exfalso; omega)
  · have hc12 : ¬ (100 ≤ k) := fun z => hc12 ((nI_leI (by omega) (by omega)).mpr z)
    refine Ev.run 4 (pc' := 23) (lv' := [(3, .int (nI k)), (2, .int (nI (bn o))), (0, .ref 5), (1, .int (nI 0))]) (st' := [.ref 5]) (h' := HN (RT g T p 0 le li l) hl (RF (3, T, c, e))) rfl ?_
    refine Ev.call (a := 59) (as := [.ref 5]) (rest := []) (lv0 := [(0, .ref 5)]) (Q1 := (fun z0 h' => z0 = some (.int (nI (nxC g p))) ∧ h' = HN (RT g T p 0 le li l) hl (RF (3, T, c, e)))) rfl rfl (K_next _ _ _ _ _ _ hT hX p _ _ l 0 (by omega) ⟨rfl, rfl⟩) (fun r h' hr => ?_)
    obtain ⟨rfl, rfl⟩ := hr
    refine Ev.run 2 (pc' := (if nI (nxC g p) = nI 38 then 31 else 57)) (lv' := [(3, .int (nI k)), (2, .int (nI (bn o))), (0, .ref 5), (1, .int (nI 0))]) (st' := []) (h' := HN (RT g T p 0 le li l) hl (RF (3, T, c, e))) rfl ?_
    refine Ev.ite (fun hc28 => ?_) (fun hc28 => ?_)
    · have hc28 : (nxC g p) = 38 := (nI_eqU (by omega) (by omega)).mp hc28
      refine Ev.run 5 (pc' := 38) (lv' := [(3, .int (nI k)), (2, .int (nI (bn o))), (0, .ref 5), (1, .int (nI 0))]) (st' := [.int (nI p + nI 1), .ref 5]) (h' := HN (RT g T p 0 le li l) hl (RF (3, T, c, e))) rfl ?_
      refine Ev.topI (nI_add _ _) ?_
      refine Ev.run 1 (pc' := 41) (lv' := [(3, .int (nI k)), (2, .int (nI (bn o))), (0, .ref 5), (1, .int (nI 0))]) (st' := []) (h' := setI (HN (RT g T p 0 le li l) hl (RF (3, T, c, e))) 5 2 (nI (p + 1))) rfl ?_
      refine Ev.hp (HN_set _ _ _ _ _ _) ?_
      refine Ev.hp (congrArg (fun z => HN z hl (RF (3, T, c, e))) (RT_52 _ _ _ _ _ _ _)) ?_
      refine Ev.run 2 (pc' := 43) (lv' := [(3, .int (nI k)), (2, .int (nI (bn o))), (0, .ref 5), (1, .int (nI 0))]) (st' := [.int (nI 0), .ref 5]) (h' := HN (RT g T (p + 1) 0 le li l) hl (RF (3, T, c, e))) rfl ?_
      refine Ev.call (a := 54) (as := [.ref 5, .int (nI 0)]) (rest := []) (lv0 := [(0, .ref 5), (1, .int (nI 0))]) (Q1 := (fun z0 h' => (∃ (q : Nat) (lf : List Nat), FK g 0 (p + 1) q lf ∧ z0 = none ∧ h' = HN (RT g T q 0 le li (l ++ lf)) hl (RF (3, T, c, e))) ∨ (∃ (q : Nat) (l' : List Nat), FX g 0 (p + 1) q ∧ l'.length ≤ 100 ∧ z0 = none ∧ h' = HN (RT g T q 1 le li l') hl (RF (3, T, c, e))))) rfl rfl (K_fac0_ _ _ _ _ _ _ hT hX (p + 1) le li l (by first | omega | exact nx_lt (by omega)) (by first | omega | exact Nat.le_trans (plT_ln _ _) (by omega)) ⟨fun q lf hz => Or.inl ⟨q, lf, hz, rfl, rfl⟩, fun q l' hz hz2 => Or.inr ⟨q, l', hz, hz2, rfl, rfl⟩⟩) (fun r h' hr => ?_)
      rcases hr with ⟨qa, lfa, hFa, rfl, rfl⟩ | ⟨qa, la, hFa, hla, rfl, rfl⟩
      · skip
        have hF1a := hFa.1
        have hF2a := hFa.2.1
        have hF3a := hFa.2.2.1
        have hlla : (l ++ lfa).length = (l).length + lfa.length := List.length_append
        refine Ev.run 3 (pc' := 51) (lv' := [(3, .int (nI k)), (2, .int (nI (bn o))), (0, .ref 5), (1, .int (nI 0))]) (st' := [.int (nI 4294967295), .ref T]) (h' := HN (RT g T qa 0 le li (l ++ lfa)) hl (RF (3, T, c, e))) rfl ?_
        refine Ev_callV (a := 65) (as := [.ref T, .int (nI 4294967295)]) (rest := []) (lv0 := [(0, .ref T), (1, .int (nI 4294967295))]) (Q1 := (fun z0 h' => z0 = none ∧ h' = HN (RT g T qa 0 le li (plT (l ++ lfa) 4294967258)) hl (RF (3, T, c, e)))) rfl rfl rfl rfl rfl hT.1.k rfl rfl rfl (K_tput _ _ _ _ _ _ hT hX qa le li (l ++ lfa) 0 4294967295 4294967258 rfl (by first | omega | (rw [List.length_append]; omega)) ⟨rfl, rfl⟩) (fun r h' hr => ?_)
        obtain ⟨rfl, rfl⟩ := hr
        refine Ev.run 2 (pc' := 99) (lv' := [(3, .int (nI k + 1)), (2, .int (nI (bn o))), (0, .ref 5), (1, .int (nI 0))]) (st' := []) (h' := HN (RT g T qa 0 le li (plT (l ++ lfa) 4294967258)) hl (RF (3, T, c, e))) rfl ?_
        refine Ev.lvE (congrArg (fun z => (3, Value.int z) :: [(2, .int (nI (bn o))), (0, .ref 5), (1, .int (nI 0))]) (nI_1 _)) ?_
        refine Ev.run 1 (pc' := 9) (lv' := [(3, .int (nI (k + 1))), (2, .int (nI (bn o))), (0, .ref 5), (1, .int (nI 0))]) (st' := []) (h' := HN (RT g T qa 0 le li (plT (l ++ lfa) 4294967258)) hl (RF (3, T, c, e))) rfl ?_
        first
          | exact Ev.wk (Ext.cons rfl rfl (Ext.cons rfl rfl (Ext.cons rfl rfl (Ext.cons rfl rfl (Ext.nil rfl))))) (hq.1 _ _ (pk_nx (by decide) (by decide) hc28) hFa)
          | exact Ev.wk (Ext.cons rfl rfl (Ext.cons rfl rfl (Ext.cons rfl rfl (Ext.cons rfl rfl (Ext.nil rfl))))) (hq.2.2.1 (by assumption) _ _ (pk_nx (by decide) (by decide) hc63) hFa)
          | exact Ev.wk (Ext.cons rfl rfl (Ext.cons rfl rfl (Ext.cons rfl rfl (Ext.cons rfl rfl (Ext.nil rfl))))) (hq.2.2.2.1 (by assumption) _ _ (pk_nx (by decide) (by decide) hc63) hFa)
          | (exfalso; omega)
      · skip
        have hF2a := hFa.2.1
        refine Ev.run 3 (pc' := 51) (lv' := [(3, .int (nI k)), (2, .int (nI (bn o))), (0, .ref 5), (1, .int (nI 0))]) (st' := [.int (nI 4294967295), .ref T]) (h' := HN (RT g T qa 1 le li la) hl (RF (3, T, c, e))) rfl ?_
        refine Ev_callV (a := 65) (as := [.ref T, .int (nI 4294967295)]) (rest := []) (lv0 := [(0, .ref T), (1, .int (nI 4294967295))]) (Q1 := (fun z0 h' => z0 = none ∧ h' = HN (RT g T qa 1 le li (plT la 4294967258)) hl (RF (3, T, c, e)))) rfl rfl rfl rfl rfl hT.1.k rfl rfl rfl (K_tput _ _ _ _ _ _ hT hX qa le li la 1 4294967295 4294967258 rfl (by first | omega | (rw [List.length_append]; omega)) ⟨rfl, rfl⟩) (fun r h' hr => ?_)
        obtain ⟨rfl, rfl⟩ := hr
        refine Ev.run 2 (pc' := 99) (lv' := [(3, .int (nI k + 1)), (2, .int (nI (bn o))), (0, .ref 5), (1, .int (nI 0))]) (st' := []) (h' := HN (RT g T qa 1 le li (plT la 4294967258)) hl (RF (3, T, c, e))) rfl ?_
        refine Ev.lvE (congrArg (fun z => (3, Value.int z) :: [(2, .int (nI (bn o))), (0, .ref 5), (1, .int (nI 0))]) (nI_1 _)) ?_
        refine Ev.run 1 (pc' := 9) (lv' := [(3, .int (nI (k + 1))), (2, .int (nI (bn o))), (0, .ref 5), (1, .int (nI 0))]) (st' := []) (h' := HN (RT g T qa 1 le li (plT la 4294967258)) hl (RF (3, T, c, e))) rfl ?_
        refine Ev.run 3 (pc' := (if nI 100 ≤ nI (k + 1) then 102 else 15)) (lv' := [(3, .int (nI (k + 1))), (2, .int (nI (bn o))), (0, .ref 5), (1, .int (nI 0))]) (st' := []) (h' := HN (RT g T qa 1 le li (plT la 4294967258)) hl (RF (3, T, c, e))) rfl ?_
        refine Ev.ite (fun hc12 => ?_) (fun hc12 => ?_)
        · have hc12 : 100 ≤ (k + 1) := (nI_leI (by omega) (by omega)).mp hc12
          first
            | exact Ev.wk (Ext.cons rfl rfl (Ext.cons rfl rfl (Ext.nil rfl))) (hq.2.1 _ _ (pk_nx (by decide) (by decide) hc28) hFa (by first | exact hla | exact plT_le _ hla))
            | exact Ev.wk (Ext.cons rfl rfl (Ext.cons rfl rfl (Ext.nil rfl))) (hq.2.2.2.2.1 _ _ (pk_nx (by decide) (by decide) hc63) hFa hla)
            | exact Ev.wk (Ext.cons rfl rfl (Ext.cons rfl rfl (Ext.nil rfl))) (hq.2.2.2.2.2 (fun z => z.elim (pk_nn (by decide) (by decide) hc28) (pk_nn (by decide) (by decide) hc63)))
            | (exfalso; omega)
        · have hc12 : ¬ (100 ≤ (k + 1)) := fun z => hc12 ((nI_leI (by omega) (by omega)).mpr z)
          refine Ev.run 3 (pc' := 102) (lv' := [(3, .int (nI (k + 1))), (2, .int (nI (bn o))), (0, .ref 5), (1, .int (nI 0))]) (st' := []) (h' := HN (RT g T qa 1 le li (plT la 4294967258)) hl (RF (3, T, c, e))) rfl ?_
          first
            | exact Ev.wk (Ext.cons rfl rfl (Ext.cons rfl rfl (Ext.nil rfl))) (hq.2.1 _ _ (pk_nx (by decide) (by decide) hc28) hFa (by first | exact hla | exact plT_le _ hla))
            | exact Ev.wk (Ext.cons rfl rfl (Ext.cons rfl rfl (Ext.nil rfl))) (hq.2.2.2.2.1 _ _ (pk_nx (by decide) (by decide) hc63) hFa hla)
            | exact Ev.wk (Ext.cons rfl rfl (Ext.cons rfl rfl (Ext.nil rfl))) (hq.2.2.2.2.2 (fun z => z.elim (pk_nn (by decide) (by decide) hc28) (pk_nn (by decide) (by decide) hc63)))
            | (exfalso; omega)
    · have hc28 : ¬ ((nxC g p) = 38) := fun z => hc28 ((nI_eqU (by omega) (by omega)).mpr z)
      refine Ev.run 1 (pc' := 58) (lv' := [(3, .int (nI k)), (2, .int (nI (bn o))), (0, .ref 5), (1, .int (nI 0))]) (st' := [.ref 5]) (h' := HN (RT g T p 0 le li l) hl (RF (3, T, c, e))) rfl ?_
      refine Ev.call (a := 59) (as := [.ref 5]) (rest := []) (lv0 := [(0, .ref 5)]) (Q1 := (fun z0 h' => z0 = some (.int (nI (nxC g p))) ∧ h' = HN (RT g T p 0 le li l) hl (RF (3, T, c, e)))) rfl rfl (K_next _ _ _ _ _ _ hT hX p _ _ l 0 (by omega) ⟨rfl, rfl⟩) (fun r h' hr => ?_)
      obtain ⟨rfl, rfl⟩ := hr
      refine Ev.run 2 (pc' := (if nI (nxC g p) = nI 124 then 66 else 102)) (lv' := [(3, .int (nI k)), (2, .int (nI (bn o))), (0, .ref 5), (1, .int (nI 0))]) (st' := []) (h' := HN (RT g T p 0 le li l) hl (RF (3, T, c, e))) rfl ?_
      refine Ev.ite (fun hc63 => ?_) (fun hc63 => ?_)
      · have hc63 : (nxC g p) = 124 := (nI_eqU (by omega) (by omega)).mp hc63
        refine Ev.run 5 (pc' := 73) (lv' := [(3, .int (nI k)), (2, .int (nI (bn o))), (0, .ref 5), (1, .int (nI 0))]) (st' := [.int (nI p + nI 1), .ref 5]) (h' := HN (RT g T p 0 le li l) hl (RF (3, T, c, e))) rfl ?_
        refine Ev.topI (nI_add _ _) ?_
        refine Ev.run 1 (pc' := 76) (lv' := [(3, .int (nI k)), (2, .int (nI (bn o))), (0, .ref 5), (1, .int (nI 0))]) (st' := []) (h' := setI (HN (RT g T p 0 le li l) hl (RF (3, T, c, e))) 5 2 (nI (p + 1))) rfl ?_
        refine Ev.hp (HN_set _ _ _ _ _ _) ?_
        refine Ev.hp (congrArg (fun z => HN z hl (RF (3, T, c, e))) (RT_52 _ _ _ _ _ _ _)) ?_
        refine Ev.run 1 (pc' := 77) (lv' := [(3, .int (nI k)), (2, .int (nI (bn o))), (0, .ref 5), (1, .int (nI 0))]) (st' := [.int (nI (bn o))]) (h' := HN (RT g T (p + 1) 0 le li l) hl (RF (3, T, c, e))) rfl ?_
        refine Ev_bn (fun hb77 => ?_) (fun hb77 => ?_)
        · skip
          refine Ev.run 4 (pc' := 86) (lv' := [(3, .int (nI k)), (2, .int (nI (bn o))), (0, .ref 5), (1, .int (nI 0))]) (st' := [.int (nI 4294967294), .ref T]) (h' := HN (RT g T (p + 1) 0 le li l) hl (RF (3, T, c, e))) rfl ?_
          refine Ev_callV (a := 65) (as := [.ref T, .int (nI 4294967294)]) (rest := []) (lv0 := [(0, .ref T), (1, .int (nI 4294967294))]) (Q1 := (fun z0 h' => z0 = none ∧ h' = HN (RT g T (p + 1) 0 le li (plT l 4294967172)) hl (RF (3, T, c, e)))) rfl rfl rfl rfl rfl hT.1.k rfl rfl rfl (K_tput _ _ _ _ _ _ hT hX (p + 1) le li l 0 4294967294 4294967172 rfl (by first | omega | (rw [List.length_append]; omega)) ⟨rfl, rfl⟩) (fun r h' hr => ?_)
          obtain ⟨rfl, rfl⟩ := hr
          refine Ev.run 4 (pc' := 93) (lv' := [(2, .int (nI 1)), (3, .int (nI k)), (0, .ref 5), (1, .int (nI 0))]) (st' := [.int (nI 0), .ref 5]) (h' := HN (RT g T (p + 1) 0 le li (plT l 4294967172)) hl (RF (3, T, c, e))) rfl ?_
          refine Ev.call (a := 54) (as := [.ref 5, .int (nI 0)]) (rest := []) (lv0 := [(0, .ref 5), (1, .int (nI 0))]) (Q1 := (fun z0 h' => (∃ (q : Nat) (lf : List Nat), FK g 0 (p + 1) q lf ∧ z0 = none ∧ h' = HN (RT g T q 0 le li ((plT l 4294967172) ++ lf)) hl (RF (3, T, c, e))) ∨ (∃ (q : Nat) (l' : List Nat), FX g 0 (p + 1) q ∧ l'.length ≤ 100 ∧ z0 = none ∧ h' = HN (RT g T q 1 le li l') hl (RF (3, T, c, e))))) rfl rfl (K_fac0_ _ _ _ _ _ _ hT hX (p + 1) le li (plT l 4294967172) (by first | omega | exact nx_lt (by omega)) (by first | omega | exact Nat.le_trans (plT_ln _ _) (by omega)) ⟨fun q lf hz => Or.inl ⟨q, lf, hz, rfl, rfl⟩, fun q l' hz hz2 => Or.inr ⟨q, l', hz, hz2, rfl, rfl⟩⟩) (fun r h' hr => ?_)
          rcases hr with ⟨qa, lfa, hFa, rfl, rfl⟩ | ⟨qa, la, hFa, hla, rfl, rfl⟩
          · skip
            have hF1a := hFa.1
            have hF2a := hFa.2.1
            have hF3a := hFa.2.2.1
            have hlla : ((plT l 4294967172) ++ lfa).length = ((plT l 4294967172)).length + lfa.length := List.length_append
            refine Ev.run 1 (pc' := 99) (lv' := [(3, .int (nI k + 1)), (2, .int (nI 1)), (0, .ref 5), (1, .int (nI 0))]) (st' := []) (h' := HN (RT g T qa 0 le li ((plT l 4294967172) ++ lfa)) hl (RF (3, T, c, e))) rfl ?_
            refine Ev.lvE (congrArg (fun z => (3, Value.int z) :: [(2, .int (nI 1)), (0, .ref 5), (1, .int (nI 0))]) (nI_1 _)) ?_
            refine Ev.run 1 (pc' := 9) (lv' := [(3, .int (nI (k + 1))), (2, .int (nI 1)), (0, .ref 5), (1, .int (nI 0))]) (st' := []) (h' := HN (RT g T qa 0 le li ((plT l 4294967172) ++ lfa)) hl (RF (3, T, c, e))) rfl ?_
            first
              | exact Ev.wk (Ext.cons rfl rfl (Ext.cons rfl rfl (Ext.cons rfl rfl (Ext.cons rfl rfl (Ext.nil rfl))))) (hq.1 _ _ (pk_nx (by decide) (by decide) hc28) hFa)
              | exact Ev.wk (Ext.cons rfl rfl (Ext.cons rfl rfl (Ext.cons rfl rfl (Ext.cons rfl rfl (Ext.nil rfl))))) (hq.2.2.1 (by assumption) _ _ (pk_nx (by decide) (by decide) hc63) hFa)
              | exact Ev.wk (Ext.cons rfl rfl (Ext.cons rfl rfl (Ext.cons rfl rfl (Ext.cons rfl rfl (Ext.nil rfl))))) (hq.2.2.2.1 (by assumption) _ _ (pk_nx (by decide) (by decide) hc63) hFa)
              | (exfalso; omega)
          · skip
            have hF2a := hFa.2.1
            refine Ev.run 1 (pc' := 99) (lv' := [(3, .int (nI k + 1)), (2, .int (nI 1)), (0, .ref 5), (1, .int (nI 0))]) (st' := []) (h' := HN (RT g T qa 1 le li la) hl (RF (3, T, c, e))) rfl ?_
            refine Ev.lvE (congrArg (fun z => (3, Value.int z) :: [(2, .int (nI 1)), (0, .ref 5), (1, .int (nI 0))]) (nI_1 _)) ?_
            refine Ev.run 1 (pc' := 9) (lv' := [(3, .int (nI (k + 1))), (2, .int (nI 1)), (0, .ref 5), (1, .int (nI 0))]) (st' := []) (h' := HN (RT g T qa 1 le li la) hl (RF (3, T, c, e))) rfl ?_
            refine Ev.run 3 (pc' := (if nI 100 ≤ nI (k + 1) then 102 else 15)) (lv' := [(3, .int (nI (k + 1))), (2, .int (nI 1)), (0, .ref 5), (1, .int (nI 0))]) (st' := []) (h' := HN (RT g T qa 1 le li la) hl (RF (3, T, c, e))) rfl ?_
            refine Ev.ite (fun hc12 => ?_) (fun hc12 => ?_)
            · have hc12 : 100 ≤ (k + 1) := (nI_leI (by omega) (by omega)).mp hc12
              first
                | exact Ev.wk (Ext.cons rfl rfl (Ext.cons rfl rfl (Ext.nil rfl))) (hq.2.1 _ _ (pk_nx (by decide) (by decide) hc28) hFa (by first | exact hla | exact plT_le _ hla))
                | exact Ev.wk (Ext.cons rfl rfl (Ext.cons rfl rfl (Ext.nil rfl))) (hq.2.2.2.2.1 _ _ (pk_nx (by decide) (by decide) hc63) hFa hla)
                | exact Ev.wk (Ext.cons rfl rfl (Ext.cons rfl rfl (Ext.nil rfl))) (hq.2.2.2.2.2 (fun z => z.elim (pk_nn (by decide) (by decide) hc28) (pk_nn (by decide) (by decide) hc63)))
                | (exfalso; omega)
            · have hc12 : ¬ (100 ≤ (k + 1)) := fun z => hc12 ((nI_leI (by omega) (by omega)).mpr z)
              refine Ev.run 3 (pc' := 102) (lv' := [(3, .int (nI (k + 1))), (2, .int (nI 1)), (0, .ref 5), (1, .int (nI 0))]) (st' := []) (h' := HN (RT g T qa 1 le li la) hl (RF (3, T, c, e))) rfl ?_
              first
                | exact Ev.wk (Ext.cons rfl rfl (Ext.cons rfl rfl (Ext.nil rfl))) (hq.2.1 _ _ (pk_nx (by decide) (by decide) hc28) hFa (by first | exact hla | exact plT_le _ hla))
                | exact Ev.wk (Ext.cons rfl rfl (Ext.cons rfl rfl (Ext.nil rfl))) (hq.2.2.2.2.1 _ _ (pk_nx (by decide) (by decide) hc63) hFa hla)
                | exact Ev.wk (Ext.cons rfl rfl (Ext.cons rfl rfl (Ext.nil rfl))) (hq.2.2.2.2.2 (fun z => z.elim (pk_nn (by decide) (by decide) hc28) (pk_nn (by decide) (by decide) hc63)))
                | (exfalso; omega)
        · skip
          refine Ev.run 5 (pc' := 93) (lv' := [(2, .int (nI 1)), (3, .int (nI k)), (0, .ref 5), (1, .int (nI 0))]) (st' := [.int (nI 0), .ref 5]) (h' := HN (RT g T (p + 1) 0 le li l) hl (RF (3, T, c, e))) rfl ?_
          refine Ev.call (a := 54) (as := [.ref 5, .int (nI 0)]) (rest := []) (lv0 := [(0, .ref 5), (1, .int (nI 0))]) (Q1 := (fun z0 h' => (∃ (q : Nat) (lf : List Nat), FK g 0 (p + 1) q lf ∧ z0 = none ∧ h' = HN (RT g T q 0 le li (l ++ lf)) hl (RF (3, T, c, e))) ∨ (∃ (q : Nat) (l' : List Nat), FX g 0 (p + 1) q ∧ l'.length ≤ 100 ∧ z0 = none ∧ h' = HN (RT g T q 1 le li l') hl (RF (3, T, c, e))))) rfl rfl (K_fac0_ _ _ _ _ _ _ hT hX (p + 1) le li l (by first | omega | exact nx_lt (by omega)) (by first | omega | exact Nat.le_trans (plT_ln _ _) (by omega)) ⟨fun q lf hz => Or.inl ⟨q, lf, hz, rfl, rfl⟩, fun q l' hz hz2 => Or.inr ⟨q, l', hz, hz2, rfl, rfl⟩⟩) (fun r h' hr => ?_)
          rcases hr with ⟨qa, lfa, hFa, rfl, rfl⟩ | ⟨qa, la, hFa, hla, rfl, rfl⟩
          · skip
            have hF1a := hFa.1
            have hF2a := hFa.2.1
            have hF3a := hFa.2.2.1
            have hlla : (l ++ lfa).length = (l).length + lfa.length := List.length_append
            refine Ev.run 1 (pc' := 99) (lv' := [(3, .int (nI k + 1)), (2, .int (nI 1)), (0, .ref 5), (1, .int (nI 0))]) (st' := []) (h' := HN (RT g T qa 0 le li (l ++ lfa)) hl (RF (3, T, c, e))) rfl ?_
            refine Ev.lvE (congrArg (fun z => (3, Value.int z) :: [(2, .int (nI 1)), (0, .ref 5), (1, .int (nI 0))]) (nI_1 _)) ?_
            refine Ev.run 1 (pc' := 9) (lv' := [(3, .int (nI (k + 1))), (2, .int (nI 1)), (0, .ref 5), (1, .int (nI 0))]) (st' := []) (h' := HN (RT g T qa 0 le li (l ++ lfa)) hl (RF (3, T, c, e))) rfl ?_
            first
              | exact Ev.wk (Ext.cons rfl rfl (Ext.cons rfl rfl (Ext.cons rfl rfl (Ext.cons rfl rfl (Ext.nil rfl))))) (hq.1 _ _ (pk_nx (by decide) (by decide) hc28) hFa)
              | exact Ev.wk (Ext.cons rfl rfl (Ext.cons rfl rfl (Ext.cons rfl rfl (Ext.cons rfl rfl (Ext.nil rfl))))) (hq.2.2.1 (by assumption) _ _ (pk_nx (by decide) (by decide) hc63) hFa)
              | exact Ev.wk (Ext.cons rfl rfl (Ext.cons rfl rfl (Ext.cons rfl rfl (Ext.cons rfl rfl (Ext.nil rfl))))) (hq.2.2.2.1 (by assumption) _ _ (pk_nx (by decide) (by decide) hc63) hFa)
              | (exfalso; omega)
          · skip
            have hF2a := hFa.2.1
            refine Ev.run 1 (pc' := 99) (lv' := [(3, .int (nI k + 1)), (2, .int (nI 1)), (0, .ref 5), (1, .int (nI 0))]) (st' := []) (h' := HN (RT g T qa 1 le li la) hl (RF (3, T, c, e))) rfl ?_
            refine Ev.lvE (congrArg (fun z => (3, Value.int z) :: [(2, .int (nI 1)), (0, .ref 5), (1, .int (nI 0))]) (nI_1 _)) ?_
            refine Ev.run 1 (pc' := 9) (lv' := [(3, .int (nI (k + 1))), (2, .int (nI 1)), (0, .ref 5), (1, .int (nI 0))]) (st' := []) (h' := HN (RT g T qa 1 le li la) hl (RF (3, T, c, e))) rfl ?_
            refine Ev.run 3 (pc' := (if nI 100 ≤ nI (k + 1) then 102 else 15)) (lv' := [(3, .int (nI (k + 1))), (2, .int (nI 1)), (0, .ref 5), (1, .int (nI 0))]) (st' := []) (h' := HN (RT g T qa 1 le li la) hl (RF (3, T, c, e))) rfl ?_
            refine Ev.ite (fun hc12 => ?_) (fun hc12 => ?_)
            · have hc12 : 100 ≤ (k + 1) := (nI_leI (by omega) (by omega)).mp hc12
              first
                | exact Ev.wk (Ext.cons rfl rfl (Ext.cons rfl rfl (Ext.nil rfl))) (hq.2.1 _ _ (pk_nx (by decide) (by decide) hc28) hFa (by first | exact hla | exact plT_le _ hla))
                | exact Ev.wk (Ext.cons rfl rfl (Ext.cons rfl rfl (Ext.nil rfl))) (hq.2.2.2.2.1 _ _ (pk_nx (by decide) (by decide) hc63) hFa hla)
                | exact Ev.wk (Ext.cons rfl rfl (Ext.cons rfl rfl (Ext.nil rfl))) (hq.2.2.2.2.2 (fun z => z.elim (pk_nn (by decide) (by decide) hc28) (pk_nn (by decide) (by decide) hc63)))
                | (exfalso; omega)
            · have hc12 : ¬ (100 ≤ (k + 1)) := fun z => hc12 ((nI_leI (by omega) (by omega)).mpr z)
              refine Ev.run 3 (pc' := 102) (lv' := [(3, .int (nI (k + 1))), (2, .int (nI 1)), (0, .ref 5), (1, .int (nI 0))]) (st' := []) (h' := HN (RT g T qa 1 le li la) hl (RF (3, T, c, e))) rfl ?_
              first
                | exact Ev.wk (Ext.cons rfl rfl (Ext.cons rfl rfl (Ext.nil rfl))) (hq.2.1 _ _ (pk_nx (by decide) (by decide) hc28) hFa (by first | exact hla | exact plT_le _ hla))
                | exact Ev.wk (Ext.cons rfl rfl (Ext.cons rfl rfl (Ext.nil rfl))) (hq.2.2.2.2.1 _ _ (pk_nx (by decide) (by decide) hc63) hFa hla)
                | exact Ev.wk (Ext.cons rfl rfl (Ext.cons rfl rfl (Ext.nil rfl))) (hq.2.2.2.2.2 (fun z => z.elim (pk_nn (by decide) (by decide) hc28) (pk_nn (by decide) (by decide) hc63)))
                | (exfalso; omega)
      · have hc63 : ¬ ((nxC g p) = 124) := fun z => hc63 ((nI_eqU (by omega) (by omega)).mpr z)
        first
          | exact Ev.wk (Ext.cons rfl rfl (Ext.cons rfl rfl (Ext.nil rfl))) (hq.2.1 _ _ (pk_nx (by decide) (by decide) hc28) hFa (by first | exact hla | exact plT_le _ hla))
          | exact Ev.wk (Ext.cons rfl rfl (Ext.cons rfl rfl (Ext.nil rfl))) (hq.2.2.2.2.1 _ _ (pk_nx (by decide) (by decide) hc63) hFa hla)
          | exact Ev.wk (Ext.cons rfl rfl (Ext.cons rfl rfl (Ext.nil rfl))) (hq.2.2.2.2.2 (fun z => z.elim (pk_nn (by decide) (by decide) hc28) (pk_nn (by decide) (by decide) hc63)))
          | (exfalso; omega)
theorem K_exp0_ {L : Nat} {xs : Nat → Int32} (d : Nat) (g : Nat → Nat → Nat) (hl : Nat → Nat → Int64) (T c e : Nat) (hT : TbT T) (hX : TX g) (p le li : Nat) (l : List Nat) (hp : p ≤ g 166 17) (hlp : l.length ≤ p) {Q : Po} (hq : (∀ q o lc, EK g 0 p q o lc → ¬ (pkS g q = 38 ∨ pkS g q = 124) → Q none (HN (RT g T q 0 le li (l ++ (lc ++ oL o))) hl (RF (3, T, c, e)))) ∧ (∀ q l', EX g 0 p q → l'.length ≤ 100 → Q none (HN (RT g T q 1 le li l') hl (RF (3, T, c, e))))) : Ev L xs (d + 16) 53 0 [(0, .ref 5), (1, .int (nI 0))] [] (HN (RT g T p 0 le li l) hl (RF (3, T, c, e))) Q := by
  have hN := hX.1
  have loop : ∀ k, k ≤ 100 → ∀ (s : Nat) (o : Bool) (lc : List Nat), EK g 0 p s o lc → p + k + 3 ≤ s → Ev L xs (d + 16) 53 9 [(3, .int (nI k)), (2, .int (nI (bn o))), (0, .ref 5), (1, .int (nI 0))] [] (HN (RT g T s 0 le li (l ++ lc)) hl (RF (3, T, c, e))) Q := by
    refine for_ind 100 _ (fun k hk hnext => ?_)
    intro s o lc hE hks
    have hE1 := hE.1
    have hE2 := hE.2.1
    have hE3 := hE.2.2.1
    have hll : (l ++ lc).length = l.length + lc.length := List.length_append
    refine K_turn0 d g hl T c e hT hX s le li (l ++ lc) k o (by omega) hE2 (by omega) ⟨fun q lf hs hF => ?_, fun q l' hs hF hl' => ?_, fun ho q lf hs hF => ?_, fun ho q lf hs hF => ?_, fun q l' hs hF hl' => ?_, fun hs => ?_⟩
    · have h1 := hF.2.1
      have h2 := hF.2.2.1
      rw [plT_lt (by rw [List.length_append]; omega)]
      have hx := hnext (by omega) q o _ (hE.and hs hF) (by have := hF.1; omega)
      simpa only [List.append_assoc] using hx
    · exact K_endX (d + 15) g hl T c e hT hX q le li l' o hl' (fun l2 h2 => hq.2 _ _ (EX.and hE hs hF) h2)
    · subst ho
      have h1 := hF.2.1
      have h2 := hF.2.2.1
      have h3 : (oL true).length = 1 := rfl
      rw [plT_lt (by omega)]
      have hx := hnext (by omega) q true _ (hE.or hs hF) (by have := hF.1; omega)
      have e1 : l ++ lc ++ [4294967172] ++ lf = l ++ (lc ++ oL true ++ lf) := by
        rw [show oL true = [4294967172] from rfl]
        simp only [List.append_assoc]
      rw [e1]
      exact hx
    · subst ho
      have hx := hnext (by omega) q true _ (hE.or hs hF) (by have := hF.1; omega)
      have e1 : l ++ lc ++ lf = l ++ (lc ++ oL false ++ lf) := by
        show l ++ lc ++ lf = l ++ (lc ++ [] ++ lf)
        rw [List.append_nil, List.append_assoc]
      rw [e1]
      exact hx
    · exact K_endX (d + 15) g hl T c e hT hX q le li l' true hl' (fun l2 h2 => hq.2 _ _ (EX.or hE hs hF) h2)
    · refine K_endO (d + 15) g hl T c e hT hX s le li (l ++ lc) o (by omega) ?_
      rw [List.append_assoc]
      exact hq.1 _ _ _ hE hs
  refine Ev.run 4 (pc' := 4) (lv' := [(2, .int (nI 0)), (0, .ref 5), (1, .int (nI 0))]) (st' := [.int (nI 0), .ref 5]) (h' := HN (RT g T p 0 le li l) hl (RF (3, T, c, e))) rfl ?_
  refine Ev.call (a := 54) (as := [.ref 5, .int (nI 0)]) (rest := []) (lv0 := [(0, .ref 5), (1, .int (nI 0))]) (Q1 := (fun z0 h' => (∃ (q : Nat) (lf : List Nat), FK g 0 p q lf ∧ z0 = none ∧ h' = HN (RT g T q 0 le li (l ++ lf)) hl (RF (3, T, c, e))) ∨ (∃ (q : Nat) (l' : List Nat), FX g 0 p q ∧ l'.length ≤ 100 ∧ z0 = none ∧ h' = HN (RT g T q 1 le li l') hl (RF (3, T, c, e))))) rfl rfl (K_fac0_ _ _ _ _ _ _ hT hX p le li l (by first | omega | exact nx_lt (by omega)) (by omega) ⟨fun q lf hz => Or.inl ⟨q, lf, hz, rfl, rfl⟩, fun q l' hz hz2 => Or.inr ⟨q, l', hz, hz2, rfl, rfl⟩⟩) (fun r h' hr => ?_)
  rcases hr with ⟨qa, lfa, hFa, rfl, rfl⟩ | ⟨qa, la, hFa, hla, rfl, rfl⟩
  · skip
    have hF1a := hFa.1
    have hF2a := hFa.2.1
    have hF3a := hFa.2.2.1
    have hlla : (l ++ lfa).length = (l).length + lfa.length := List.length_append
    refine Ev.run 2 (pc' := 9) (lv' := [(3, .int (nI 0)), (2, .int (nI 0)), (0, .ref 5), (1, .int (nI 0))]) (st' := []) (h' := HN (RT g T qa 0 le li (l ++ lfa)) hl (RF (3, T, c, e))) rfl ?_
    exact Ev.wk (Ext.cons rfl rfl (Ext.cons rfl rfl (Ext.cons rfl rfl (Ext.cons rfl rfl (Ext.nil rfl))))) (loop 0 (Nat.zero_le _) qa false lfa (EK.s hFa) (by have := hFa.1; omega))
  · skip
    have hF2a := hFa.2.1
    refine Ev.run 2 (pc' := 9) (lv' := [(3, .int (nI 0)), (2, .int (nI 0)), (0, .ref 5), (1, .int (nI 0))]) (st' := []) (h' := HN (RT g T qa 1 le li la) hl (RF (3, T, c, e))) rfl ?_
    refine Ev.run 6 (pc' := 102) (lv' := [(3, .int (nI 0)), (2, .int (nI 0)), (0, .ref 5), (1, .int (nI 0))]) (st' := []) (h' := HN (RT g T qa 1 le li la) hl (RF (3, T, c, e))) rfl ?_
    exact Ev.wk (Ext.cons rfl rfl (Ext.cons rfl rfl (Ext.nil rfl))) (K_endX (d + 15) g hl T c e hT hX qa le li la false hla (fun l2 h2 => hq.2 _ _ (EX.s hFa) h2))
