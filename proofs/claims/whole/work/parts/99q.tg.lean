/-! the class: a table is made of the text -/
theorem RT_clr (g : Nat → Nat → Nat) {T : Nat} (hT : TbT T) : u2 (u2 (u2 (u2 (u2 g T 2 0) T 3 3) T 4 3) 5 2 0) 5 3 0 = RT g T 0 0 3 3 [] := by
  obtain ⟨_, _, _, h5, h6⟩ := hT
  have n1 : ¬ T + 1 = T := by omega
  have n3 : ¬ T + 1 = 5 := by omega
  have n4 : ¬ (5 : Nat) = T := by omega
  have n6 : ¬ T = 5 := by omega
  funext a c
  unfold u2 RT
  by_cases h0 : a = 5
  · rw [h0]
    by_cases c3 : c = 3
    · simp [c3]
    · by_cases c2 : c = 2
      · simp [c2]
      · simp [c3, c2, n4]
  · by_cases h1 : a = T
    · rw [h1]
      by_cases c4 : c = 4
      · simp [c4, n6]
      · by_cases c3 : c = 3
        · simp [c3, n6]
        · by_cases c2 : c = 2
          · simp [c2, n6]
          · simp [c2, c3, c4, n6]
    · by_cases h2 : a = T + 1
      · rw [h2]
        simp [n1, n3]
      · simp [h0, h1, h2]
theorem K_tclr {L : Nat} {xs : Nat → Int32} (d : Nat) (g : Nat → Nat → Nat) (hl : Nat → Nat → Int64) (rt : Nat × Nat × Nat × Nat) (T : Nat) (hT : TbT T) {Q : Po} (hq : Q none (HN (u2 (u2 (u2 g T 2 0) T 3 3) T 4 3) hl (RF rt))) : Ev L xs (d) 64 0 [(0, .ref T)] [] (HN g hl (RF rt)) Q := by
  refine Ev.run 2 (pc' := 2) (lv' := [(0, .ref T)]) (st' := [.int (nI 0), .ref T]) (h' := HN g hl (RF rt)) rfl ?_
  refine Ev_pfI rfl hT.1 ?_
  refine Ev.run 2 (pc' := 7) (lv' := [(0, .ref T)]) (st' := [.int (nI 3), .ref T]) (h' := HN (u2 g T 2 0) hl (RF rt)) rfl ?_
  refine Ev_pfI rfl hT.1 ?_
  refine Ev.run 2 (pc' := 12) (lv' := [(0, .ref T)]) (st' := [.int (nI 3), .ref T]) (h' := HN (u2 (u2 g T 2 0) T 3 3) hl (RF rt)) rfl ?_
  refine Ev_pfI rfl hT.1 ?_
  refine Ev.ret (v := none) rfl ?_
  exact hq
theorem K_parse {L : Nat} {xs : Nat → Int32} (d : Nat) (g : Nat → Nat → Nat) (hl : Nat → Nat → Int64) (rt : Nat × Nat × Nat × Nat) (T : Nat) (hT : TbT T) (hX : TX g) (b : Nat) {Q : Po} (hq : (∀ l0 cs lk le li, goF g b 10 0 [] [] = (true, g 166 17, l0, cs) → CSR b l0 cs lk le li → lk.length ≤ 100 → cs.length ≤ 10 → Q (some (.int (nI 4294967295))) (HN (RT g T (g 166 17) 0 le li lk) hl (RF (3, T, rt.2.2.1, rt.2.2.2)))) ∧ (∀ q l2 cs2 fl' le' li' l', goF g b 10 0 [] [] = (false, q, l2, cs2) → q ≤ g 166 17 → l'.length ≤ 100 → Q (some (.int (nI q))) (HN (RT g T q fl' le' li' l') hl (RF (3, T, rt.2.2.1, rt.2.2.2))))) : Ev L xs (d + 18) 51 0 [(0, .ref 5), (1, .ref 3), (2, .ref T)] [] (HN g hl (RF rt)) Q := by
  refine Ev.run 2 (pc' := 2) (lv' := [(0, .ref 5), (1, .ref 3), (2, .ref T)]) (st' := [.ref 3, .ref 5]) (h' := HN g hl (RF rt)) rfl ?_
  refine Ev_pfR rfl (⟨by decide, rfl⟩ : KC 5 5 4) (HN_set0 _ _ _ _) ?_
  refine Ev.run 2 (pc' := 7) (lv' := [(0, .ref 5), (1, .ref 3), (2, .ref T)]) (st' := [.ref T, .ref 5]) (h' := HN g hl (RF (3, rt.2.1, rt.2.2.1, rt.2.2.2))) rfl ?_
  refine Ev_pfR rfl (⟨by decide, rfl⟩ : KC 5 5 4) (HN_set1 _ _ _ _) ?_
  refine Ev.run 2 (pc' := 14) (lv' := [(0, .ref 5), (1, .ref 3), (2, .ref T)]) (st' := [.ref T]) (h' := HN g hl (RF (3, T, rt.2.2.1, rt.2.2.2))) rfl ?_
  refine Ev_callV (a := 64) (as := [.ref T]) (rest := []) (lv0 := [(0, .ref T)]) (Q1 := (fun z0 h' => z0 = none ∧ h' = HN (u2 (u2 (u2 g T 2 0) T 3 3) T 4 3) hl (RF (3, T, rt.2.2.1, rt.2.2.2)))) rfl rfl rfl rfl rfl hT.1.k rfl rfl rfl (K_tclr _ _ _ _ T hT ⟨rfl, rfl⟩) (fun r h' hr => ?_)
  obtain ⟨rfl, rfl⟩ := hr
  refine Ev.run 3 (pc' := 22) (lv' := [(0, .ref 5), (1, .ref 3), (2, .ref T)]) (st' := []) (h' := setI (HN (u2 (u2 (u2 g T 2 0) T 3 3) T 4 3) hl (RF (3, T, rt.2.2.1, rt.2.2.2))) 5 2 (nI 0)) rfl ?_
  refine Ev.hp (HN_set _ _ _ _ _ _) ?_
  refine Ev.run 3 (pc' := 27) (lv' := [(0, .ref 5), (1, .ref 3), (2, .ref T)]) (st' := []) (h' := setI (HN (u2 (u2 (u2 (u2 g T 2 0) T 3 3) T 4 3) 5 2 0) hl (RF (3, T, rt.2.2.1, rt.2.2.2))) 5 3 (nI 0)) rfl ?_
  refine Ev.hp (HN_set _ _ _ _ _ _) ?_
  refine Ev.hp (congrArg (fun z => HN z hl (RF (3, T, rt.2.2.1, rt.2.2.2))) (RT_clr g hT)) ?_
  exact K_par d g hl T _ _ hT hX b hq
theorem tabRF (rt : Nat × Nat × Nat × Nat) {f : Nat} (h : f < 6) : RF rt 11 f = some (136 + 3 * f) := by
  rcases (show f = 0 ∨ f = 1 ∨ f = 2 ∨ f = 3 ∨ f = 4 ∨ f = 5 by omega) with rfl | rfl | rfl | rfl | rfl | rfl <;> rfl
theorem K_table {L : Nat} {xs : Nat → Int32} (d : Nat) (g : Nat → Nat → Nat) (hl : Nat → Nat → Int64) (rt : Nat × Nat × Nat × Nat) (hV : Inv g hl rt) {Q : Po} (hq : (g 166 15 = 6 → Q (some (.int (nI 4294967292))) (HN g hl (RF rt))) ∧ (∀ T l0 cs lk le li, g 166 15 < 6 → T = 136 + 3 * g 166 15 → goF g (100 * g 166 15) 10 0 [] [] = (true, g 166 17, l0, cs) → CSR (100 * g 166 15) l0 cs lk le li → lk.length ≤ 100 → cs.length ≤ 10 → Q (some (.int (nI (g 166 15)))) (HN (u2 (u2 (RT g T (g 166 17) 0 le li lk) 3 1 0) 0 4 (g 166 15 + 1)) hl (RF (3, T, T, rt.2.2.2)))) ∧ (∀ T q l2 cs2 fl' le' li' l', g 166 15 < 6 → T = 136 + 3 * g 166 15 → goF g (100 * g 166 15) 10 0 [] [] = (false, q, l2, cs2) → q ≤ g 166 17 → Q (some (.int (nI (4294967286 - q)))) (HN (u2 (RT g T q fl' le' li' l') 3 1 0) hl (RF (3, T, rt.2.2.1, rt.2.2.2))))) : Ev L xs (d + 19) 84 0 [(0, .ref 0)] [] (HN g hl (RF rt)) Q := by
  have hI := hV.mi
  have hW := hI.hW
  have hS := hI.hS
  have hPl := hI.hPl
  have hNx := hI.hNx
  have hLa := hI.hLa
  have hLo := hI.hLo
  have hTb := hI.hTb
  have hTh := hI.hTh
  have hFd := hI.hFd
  have hSn := hI.hSn
  have hSh := hI.hSh
  have hRan := hI.hRan
  have hLr := hI.hLr
  have hLt := hI.hLt
  have hgl := hI.hgl
  have hsz := hI.hsz
  have hcm := hI.hcm
  have hsl := hI.hsl
  have hkd := hI.hkd
  have hvv := hI.hvv
  have hli := hI.hli
  have hro := hI.hro
  have hrw := hI.hrw
  have htx := hI.htx
  have hsw := hI.hsw
  have hsx := hI.hsx
  have hsy := hI.hsy
  have hsh := hI.hsh
  have hle := hI.hle
  have hcl := hI.hcl
  have hwd := hI.hwd
  have hnu := hI.hnu
  have hwn := hI.hwn
  have hs1 := hI.hs1
  have hso := hI.hso
  have hB := hV.gm.cb
  have hB0 := hB.1
  have hPs := hV.gm.cs
  have hsp1 := hV.sp.1
  have htx1 := hV.tx.1
  have h451 := hV.gm.rx.1
  have h442 := hV.gm.rx.2.2.2.1
  have h443 := hV.gm.rx.2.2.2.2
  have h481 := hV.gm.l48.1
  have h501 := hV.gm.l50.1
  have h521 := hV.gm.l52.1
  have h541 := hV.gm.l54.1
  have h04 := hV.tb.1
  have hac1 := hV.ac.1
  have hac2 := hV.ac.2.1
  have hPl0 := hV.gm.cp
  have hX : TX g := ⟨hI.hFd, hI.htx, hV.tx.1, hV.tx.2⟩
  have hTb6 := hI.hTb
  refine Ev.run 4 (pc' := (if nI (g 0 4) < nI 6 then 12 else 9)) (lv' := [(0, .ref 0)]) (st' := []) (h' := HN g hl (RF rt)) rfl ?_
  refine Ev.ite (fun hc6 => ?_) (fun hc6 => ?_)
  · have hc6 : (g 0 4) < 6 := (nI_ltI (by omega) (by omega)).mp hc6
    have h15 : g 166 15 < 6 := by omega
    obtain ⟨T, hTe⟩ : ∃ T, T = 136 + 3 * g 0 4 := ⟨_, rfl⟩
    have hT : TbT T := by rw [hTe]; exact TbT.mk (by omega)
    refine Ev.run 8 (pc' := 28) (lv' := [(0, .ref 0)]) (st' := [.int (nI (g 0 4)), .ref 11, .ref 3, .ref 5]) (h' := HN g hl (RF rt)) rfl ?_
    refine Ev_aald (c := T) rfl (by decide) rfl (show g 0 4 < 6 by omega) (Nat.le_of_ble_eq_true rfl) (show RF _ 11 (g 0 4) = some T by rw [hTe]; exact tabRF _ (by omega)) ?_
    refine Ev.call (a := 51) (as := [.ref 5, .ref 3, .ref T]) (rest := []) (lv0 := [(0, .ref 5), (1, .ref 3), (2, .ref T)]) (Q1 := (fun z0 h' => (∃ (l0 : List Nat) (cs : List C4) (lk : List Nat) (le li : Nat), goF g (100 * g 166 15) 10 0 [] [] = (true, g 166 17, l0, cs) ∧ CSR (100 * g 166 15) l0 cs lk le li ∧ lk.length ≤ 100 ∧ cs.length ≤ 10 ∧ z0 = some (.int (nI 4294967295)) ∧ h' = HN (RT g T (g 166 17) 0 le li lk) hl (RF (3, T, rt.2.2.1, rt.2.2.2))) ∨ (∃ (q : Nat) (l2 : List Nat) (cs2 : List C4) (fl' le' li' : Nat) (l' : List Nat), goF g (100 * g 166 15) 10 0 [] [] = (false, q, l2, cs2) ∧ q ≤ g 166 17 ∧ l'.length ≤ 100 ∧ z0 = some (.int (nI q)) ∧ h' = HN (RT g T q fl' le' li' l') hl (RF (3, T, rt.2.2.1, rt.2.2.2))))) rfl rfl (K_parse _ _ _ _ T hT hX (100 * g 166 15) ⟨fun l0 cs lk le li h1 h2 h3 h4 => Or.inl ⟨l0, cs, lk, le, li, h1, h2, h3, h4, rfl, rfl⟩, fun q l2 cs2 fl' le' li' l' h1 h2 h3 => Or.inr ⟨q, l2, cs2, fl', le', li', l', h1, h2, h3, rfl, rfl⟩⟩) (fun r h' hr => ?_)
    rcases hr with ⟨l0, cs, lk, le, li, h1, h2, h3, h4, rfl, rfl⟩ | ⟨q, l2, cs2, fl', le', li', l', h1, h2, h3, rfl, rfl⟩
    · skip
      refine Ev.run 3 (pc' := 37) (lv' := [(1, .int (nI 4294967295)), (0, .ref 0)]) (st' := [.ref 3]) (h' := HN (RT g T (g 166 17) 0 le li lk) hl (RF (3, T, rt.2.2.1, rt.2.2.2))) rfl ?_
      refine Ev.call (a := 45) (as := [.ref 3]) (rest := []) (lv0 := [(0, .ref 3)]) (Q1 := (fun z0 h' => z0 = none ∧ h' = HN (u2 (RT g T (g 166 17) 0 le li lk) 3 1 0) hl (RF (3, T, rt.2.2.1, rt.2.2.2)))) rfl rfl (K_clear _ _ _ _ 3 100 (ln3 _) ⟨rfl, rfl⟩) (fun r h' hr => ?_)
      obtain ⟨rfl, rfl⟩ := hr
      refine Ev.run 8 (pc' := 61) (lv' := [(1, .int (nI 4294967295)), (0, .ref 0)]) (st' := [.int (nI ((RT g T (g 166 17) 0 le li lk) 0 4)), .ref 11, .ref 12]) (h' := HN (u2 (RT g T (g 166 17) 0 le li lk) 3 1 0) hl (RF (3, T, rt.2.2.1, rt.2.2.2))) rfl ?_
      refine Ev.topI (congrArg nI (RT_o _ _ _ _ _ _ hT (show 0 < 136 ∧ 0 ≠ 5 by decide) _)) ?_
      refine Ev_aald (c := T) rfl (by decide) rfl (show g 0 4 < 6 by omega) (Nat.le_of_ble_eq_true rfl) (show RF _ 11 (g 0 4) = some T by rw [hTe]; exact tabRF _ (by omega)) ?_
      refine Ev_pfR rfl (⟨by decide, rfl⟩ : KC 12 2 10) (HN_set2 _ _ _ _) ?_
      refine Ev.run 3 (pc' := 70) (lv' := [(1, .int (nI 4294967295)), (0, .ref 0)]) (st' := [.int (nI ((RT g T (g 166 17) 0 le li lk) 0 4)), .ref 0]) (h' := HN (u2 (RT g T (g 166 17) 0 le li lk) 3 1 0) hl (RF (3, T, T, rt.2.2.2))) rfl ?_
      refine Ev.topI (congrArg nI (RT_o _ _ _ _ _ _ hT (show 0 < 136 ∧ 0 ≠ 5 by decide) _)) ?_
      refine Ev.run 2 (pc' := 72) (lv' := [(1, .int (nI 4294967295)), (0, .ref 0)]) (st' := [.int (nI (g 0 4) + nI 1), .ref 0]) (h' := HN (u2 (RT g T (g 166 17) 0 le li lk) 3 1 0) hl (RF (3, T, T, rt.2.2.2))) rfl ?_
      refine Ev.topI (nI_add _ _) ?_
      refine Ev.run 1 (pc' := 75) (lv' := [(1, .int (nI 4294967295)), (0, .ref 0)]) (st' := []) (h' := setI (HN (u2 (RT g T (g 166 17) 0 le li lk) 3 1 0) hl (RF (3, T, T, rt.2.2.2))) 0 4 (nI ((g 0 4) + 1))) rfl ?_
      refine Ev.hp (HN_set _ _ _ _ _ _) ?_
      refine Ev.run 4 (pc' := 81) (lv' := [(1, .int (nI 4294967295)), (0, .ref 0)]) (st' := [.int (nI ((g 0 4) + 1) - nI 1)]) (h' := HN (u2 (u2 (RT g T (g 166 17) 0 le li lk) 3 1 0) 0 4 ((g 0 4) + 1)) hl (RF (3, T, T, rt.2.2.2))) rfl ?_
      refine Ev.topI (pk_sub (a := ((g 0 4) + 1)) (b := 1) (by omega)) ?_
      refine Ev.ret (v := some (.int (nI (((g 0 4) + 1) - 1)))) rfl ?_
      first
        | exact hq.1 (by omega)
        | exact hq.2.2 T q l2 cs2 fl' le' li' l' h15 (by omega) h1 h2
        | (rw [h04]; exact hq.2.1 T l0 cs lk le li h15 (by omega) h1 h2 h3 h4)
        | (rw [h04, Nat.add_sub_cancel]; exact hq.2.1 T l0 cs lk le li h15 (by omega) h1 h2 h3 h4)
        | (exfalso; omega)
    · skip
      refine Ev.run 3 (pc' := 37) (lv' := [(1, .int (nI q)), (0, .ref 0)]) (st' := [.ref 3]) (h' := HN (RT g T q fl' le' li' l') hl (RF (3, T, rt.2.2.1, rt.2.2.2))) rfl ?_
      refine Ev.call (a := 45) (as := [.ref 3]) (rest := []) (lv0 := [(0, .ref 3)]) (Q1 := (fun z0 h' => z0 = none ∧ h' = HN (u2 (RT g T q fl' le' li' l') 3 1 0) hl (RF (3, T, rt.2.2.1, rt.2.2.2)))) rfl rfl (K_clear _ _ _ _ 3 100 (ln3 _) ⟨rfl, rfl⟩) (fun r h' hr => ?_)
      obtain ⟨rfl, rfl⟩ := hr
      refine Ev.run 2 (pc' := (if nI q < 0 then 49 else 44)) (lv' := [(1, .int (nI q)), (0, .ref 0)]) (st' := []) (h' := HN (u2 (RT g T q fl' le' li' l') 3 1 0) hl (RF (3, T, rt.2.2.1, rt.2.2.2))) rfl ?_
      refine Ev.ite (fun hc41 => ?_) (fun hc41 => ?_)
      · have hc41 : 2147483648 ≤ q := (nI_ltU0 (by omega)).mp hc41
        refine Ev.run 6 (pc' := 61) (lv' := [(1, .int (nI q)), (0, .ref 0)]) (st' := [.int (nI ((RT g T q fl' le' li' l') 0 4)), .ref 11, .ref 12]) (h' := HN (u2 (RT g T q fl' le' li' l') 3 1 0) hl (RF (3, T, rt.2.2.1, rt.2.2.2))) rfl ?_
        refine Ev.topI (congrArg nI (RT_o _ _ _ _ _ _ hT (show 0 < 136 ∧ 0 ≠ 5 by decide) _)) ?_
        refine Ev_aald (c := T) rfl (by decide) rfl (show g 0 4 < 6 by omega) (Nat.le_of_ble_eq_true rfl) (show RF _ 11 (g 0 4) = some T by rw [hTe]; exact tabRF _ (by omega)) ?_
        refine Ev_pfR rfl (⟨by decide, rfl⟩ : KC 12 2 10) (HN_set2 _ _ _ _) ?_
        refine Ev.run 3 (pc' := 70) (lv' := [(1, .int (nI q)), (0, .ref 0)]) (st' := [.int (nI ((RT g T q fl' le' li' l') 0 4)), .ref 0]) (h' := HN (u2 (RT g T q fl' le' li' l') 3 1 0) hl (RF (3, T, T, rt.2.2.2))) rfl ?_
        refine Ev.topI (congrArg nI (RT_o _ _ _ _ _ _ hT (show 0 < 136 ∧ 0 ≠ 5 by decide) _)) ?_
        refine Ev.run 2 (pc' := 72) (lv' := [(1, .int (nI q)), (0, .ref 0)]) (st' := [.int (nI (g 0 4) + nI 1), .ref 0]) (h' := HN (u2 (RT g T q fl' le' li' l') 3 1 0) hl (RF (3, T, T, rt.2.2.2))) rfl ?_
        refine Ev.topI (nI_add _ _) ?_
        refine Ev.run 1 (pc' := 75) (lv' := [(1, .int (nI q)), (0, .ref 0)]) (st' := []) (h' := setI (HN (u2 (RT g T q fl' le' li' l') 3 1 0) hl (RF (3, T, T, rt.2.2.2))) 0 4 (nI ((g 0 4) + 1))) rfl ?_
        refine Ev.hp (HN_set _ _ _ _ _ _) ?_
        refine Ev.run 4 (pc' := 81) (lv' := [(1, .int (nI q)), (0, .ref 0)]) (st' := [.int (nI ((g 0 4) + 1) - nI 1)]) (h' := HN (u2 (u2 (RT g T q fl' le' li' l') 3 1 0) 0 4 ((g 0 4) + 1)) hl (RF (3, T, T, rt.2.2.2))) rfl ?_
        refine Ev.topI (pk_sub (a := ((g 0 4) + 1)) (b := 1) (by omega)) ?_
        refine Ev.ret (v := some (.int (nI (((g 0 4) + 1) - 1)))) rfl ?_
        first
          | exact hq.1 (by omega)
          | exact hq.2.2 T q l2 cs2 fl' le' li' l' h15 (by omega) h1 h2
          | (rw [h04]; exact hq.2.1 T l0 cs lk le li h15 (by omega) h1 h2 h3 h4)
          | (rw [h04, Nat.add_sub_cancel]; exact hq.2.1 T l0 cs lk le li h15 (by omega) h1 h2 h3 h4)
          | (exfalso; omega)
      · have hc41 : ¬ (2147483648 ≤ q) := fun z => hc41 ((nI_ltU0 (by omega)).mpr z)
        refine Ev.run 3 (pc' := 48) (lv' := [(1, .int (nI q)), (0, .ref 0)]) (st' := [.int (nI 4294967286 - nI q)]) (h' := HN (u2 (RT g T q fl' le' li' l') 3 1 0) hl (RF (3, T, rt.2.2.1, rt.2.2.2))) rfl ?_
        refine Ev.topI (pk_sub (a := 4294967286) (b := q) (by omega)) ?_
        refine Ev.ret (v := some (.int (nI (4294967286 - q)))) rfl ?_
        first
          | exact hq.1 (by omega)
          | exact hq.2.2 T q l2 cs2 fl' le' li' l' h15 (by omega) h1 h2
          | (rw [h04]; exact hq.2.1 T l0 cs lk le li h15 (by omega) h1 h2 h3 h4)
          | (rw [h04, Nat.add_sub_cancel]; exact hq.2.1 T l0 cs lk le li h15 (by omega) h1 h2 h3 h4)
          | (exfalso; omega)
  · have hc6 : ¬ ((g 0 4) < 6) := fun z => hc6 ((nI_ltI (by omega) (by omega)).mpr z)
    refine Ev.run 1 (pc' := 11) (lv' := [(0, .ref 0)]) (st' := [.int (nI 4294967292)]) (h' := HN g hl (RF rt)) rfl ?_
    refine Ev.ret (v := some (.int (nI 4294967292))) rfl ?_
    first
      | exact hq.1 (by omega)
      | exact hq.2.2 T q l2 cs2 fl' le' li' l' h15 (by omega) h1 h2
      | (rw [h04]; exact hq.2.1 T l0 cs lk le li h15 (by omega) h1 h2 h3 h4)
      | (rw [h04, Nat.add_sub_cancel]; exact hq.2.1 T l0 cs lk le li h15 (by omega) h1 h2 h3 h4)
      | (exfalso; omega)
