/-! the class: a player joins; kinds -/
def gj (g : Nat → Nat → Nat) (k v : Nat) : Nat → Nat → Nat := u2 (u2 (bcP g (60 + 2 * g 166 6) (g 166 6) k v) 47 (g 166 6) (lwS g 2)) 12 2 (g 166 6 + 1)
def cs_player (g : Nat → Nat → Nat) (k v : Nat) : Nat → Nat → Nat := if k ≤ 6 then (if v ≤ 9 then (if g 166 6 = 5 then g else gj g k v) else g) else g
theorem bcP_ne (g : Nat → Nat → Nat) {c a : Nat} (n k v : Nat) (h1 : a ≠ c) (h2 : a ≠ c + 1) (j : Nat) : bcP g c n k v a j = g a j := by
  unfold bcP flR
  rw [if_neg h2, u2_ne _ (Or.inl h1), u2_ne _ (Or.inl h1), u2_ne _ (Or.inl h1)]
theorem K_join {L : Nat} {xs : Nat → Int32} (d : Nat) (g : Nat → Nat → Nat) (hl : Nat → Nat → Int64) (rt : Nat × Nat × Nat × Nat) (hV : Inv g hl rt) (k v : Nat) (hk : k ≤ 6) (hv : v ≤ 9)  {Q : Po} (hq : Q (some (.int (nI (if g 166 6 = 5 then 4294967292 else g 166 6)))) (HN (if g 166 6 = 5 then g else gj g k v) hl (RF rt))) : Ev L xs (d + 3) 23 0 [(0, .ref 12), (1, .int (nI k)), (2, .int (nI v))] [] (HN g hl (RF rt)) Q := by
  have hI := hV.mi
  have hW := hI.hW
  have hS := hI.hS
  have hPl := hI.hPl
  have hNx := hI.hNx
  have hLa := hI.hLa
  have hLo := hI.hLo
  have hTb := hI.hTb
  have hTh := hI.hTh
  have hFd := hI.hFd
  have hSn := hI.hSn
  have hSh := hI.hSh
  have hRan := hI.hRan
  have hLr := hI.hLr
  have hLt := hI.hLt
  have hgl := hI.hgl
  have hsz := hI.hsz
  have hcm := hI.hcm
  have hsl := hI.hsl
  have hkd := hI.hkd
  have hvv := hI.hvv
  have hli := hI.hli
  have hro := hI.hro
  have hrw := hI.hrw
  have htx := hI.htx
  have hsw := hI.hsw
  have hsx := hI.hsx
  have hsy := hI.hsy
  have hsh := hI.hsh
  have hle := hI.hle
  have hcl := hI.hcl
  have hwd := hI.hwd
  have hnu := hI.hnu
  have hwn := hI.hwn
  have hs1 := hI.hs1
  have hso := hI.hso
  have hB := hV.gm.cb
  have hB0 := hB.1
  have hPs := hV.gm.cs
  have hsp1 := hV.sp.1
  have htx1 := hV.tx.1
  have h451 := hV.gm.rx.1
  have h442 := hV.gm.rx.2.2.2.1
  have h443 := hV.gm.rx.2.2.2.2
  have h481 := hV.gm.l48.1
  have h501 := hV.gm.l50.1
  have h521 := hV.gm.l52.1
  have h541 := hV.gm.l54.1
  have h04 := hV.tb.1
  have hac1 := hV.ac.1
  have hac2 := hV.ac.2.1
  have hPl0 := hV.gm.cp
  have htk := (hV.th.kc hI.hTb).2
  refine Ev.run 4 (pc' := (if nI (g 12 2) < nI 5 then 11 else 8)) (lv' := [(0, .ref 12), (1, .int (nI k)), (2, .int (nI v))]) (st' := []) (h' := HN g hl (RF rt)) rfl ?_
  refine Ev.ite (fun hc5 => ?_) (fun hc5 => ?_)
  · have hc5 : (g 12 2) < 5 := (nI_ltI (by omega) (by omega)).mp hc5
    refine Ev.run 4 (pc' := 19) (lv' := [(0, .ref 12), (1, .int (nI k)), (2, .int (nI v))]) (st' := [.int (nI (g 12 2)), .ref 43]) (h' := HN g hl (RF rt)) rfl ?_
    refine Ev_aald (c := (60 + 2 * (g 12 2))) rfl (by decide) rfl (show g 12 2 < 5 by omega) (Nat.le_of_ble_eq_true rfl) (sh_pl rt (g 12 2) (by omega)).2.2.1 ?_
    refine Ev.run 4 (pc' := 26) (lv' := [(0, .ref 12), (1, .int (nI k)), (2, .int (nI v))]) (st' := [.int (nI v), .int (nI k), .int (nI (g 12 2)), .ref (60 + 2 * (g 12 2))]) (h' := HN g hl (RF rt)) rfl ?_
    refine Ev_callV (a := 48) (as := [.ref (60 + 2 * (g 12 2)), .int (nI (g 12 2)), .int (nI k), .int (nI v)]) (rest := []) (lv0 := [(0, .ref (60 + 2 * (g 12 2))), (1, .int (nI (g 12 2))), (2, .int (nI k)), (3, .int (nI v))]) (Q1 := (fun z0 h' => z0 = none ∧ h' = HN (bcP g (60 + 2 * (g 12 2)) (g 12 2) k v) hl (RF rt))) rfl rfl rfl rfl rfl (kcP (show (g 12 2) < 5 by omega)).k rfl rfl rfl (K_become _ _ _ _ (60 + 2 * (g 12 2)) (g 12 2) k v (kcP (by omega)) (kcQ (by omega)) (sh_pl rt _ (by omega)).2.2.2 ⟨rfl, rfl⟩) (fun r h' hr => ?_)
    obtain ⟨rfl, rfl⟩ := hr
    rw [hPs]
    obtain ⟨B, hBe⟩ : ∃ B, B = (bcP g (60 + 2 * g 166 6) (g 166 6) k v) := ⟨_, rfl⟩
    have eb1 : B 12 2 = g 166 6 := by rw [hBe, bcP_ne _ _ _ _ (by omega) (by omega)]; exact hPs
    have eb2 : B rt.2.2.1 4 = lwS g 2 := by rw [hBe, bcP_ne _ _ _ _ (by omega) (by omega)]; exact (hV.tb.lw hV.th hI).2
    rw [← hBe]
    refine Ev.run 7 (pc' := 44) (lv' := [(0, .ref 12), (1, .int (nI k)), (2, .int (nI v))]) (st' := [.ref rt.2.2.1, .int (nI (B 12 2)), .ref 47]) (h' := HN B hl (RF rt)) rfl ?_
    refine Ev_gfI rfl rfl rfl (hV.th.kc hI.hTb).1 ?_
    refine Ev_iast rfl rfl (show B 12 2 < 5 by omega) (Nat.le_of_ble_eq_true rfl) ?_
    refine Ev.run 5 (pc' := 55) (lv' := [(0, .ref 12), (1, .int (nI k)), (2, .int (nI v))]) (st' := [.int (nI (B 12 2) + nI 1), .ref 12]) (h' := HN (u2 B 47 (B 12 2) (B rt.2.2.1 4)) hl (RF rt)) rfl ?_
    refine Ev.topI (nI_add _ _) ?_
    refine Ev.run 1 (pc' := 58) (lv' := [(0, .ref 12), (1, .int (nI k)), (2, .int (nI v))]) (st' := []) (h' := setI (HN (u2 B 47 (B 12 2) (B rt.2.2.1 4)) hl (RF rt)) 12 2 (nI ((B 12 2) + 1))) rfl ?_
    refine Ev.hp (HN_set _ _ _ _ _ _) ?_
    refine Ev.run 4 (pc' := 64) (lv' := [(0, .ref 12), (1, .int (nI k)), (2, .int (nI v))]) (st' := [.int (nI ((B 12 2) + 1) - nI 1)]) (h' := HN (u2 (u2 B 47 (B 12 2) (B rt.2.2.1 4)) 12 2 ((B 12 2) + 1)) hl (RF rt)) rfl ?_
    refine Ev.topI (pk_sub (a := ((B 12 2) + 1)) (b := 1) (by omega)) ?_
    refine Ev.ret (v := some (.int (nI (((B 12 2) + 1) - 1)))) rfl ?_
    rw [if_neg (by omega), if_neg (by omega)] at hq
    unfold gj at hq
    rw [← hBe] at hq
    rw [eb1, eb2]
    rw [show g 166 6 + 1 - 1 = g 166 6 by omega]
    exact hq
  · have hc5 : ¬ ((g 12 2) < 5) := fun z => hc5 ((nI_ltI (by omega) (by omega)).mpr z)
    refine Ev.run 1 (pc' := 10) (lv' := [(0, .ref 12), (1, .int (nI k)), (2, .int (nI v))]) (st' := [.int (nI 4294967292)]) (h' := HN g hl (RF rt)) rfl ?_
    refine Ev.ret (v := some (.int (nI 4294967292))) rfl ?_
    rw [if_pos (by omega), if_pos (by omega)] at hq
    exact hq
theorem K_player {L : Nat} {xs : Nat → Int32} (d : Nat) (g : Nat → Nat → Nat) (hl : Nat → Nat → Int64) (rt : Nat × Nat × Nat × Nat) (hV : Inv g hl rt) (k : Nat) (v : Nat) (hk : k < 2 ^ 32) (hv : v < 2 ^ 32) {Q : Po} (hq : Q (some (.int (nI (rs_player g k v)))) (HN (cs_player g k v) hl (RF rt))) : Ev L xs (d + 4) 79 0 [(0, .ref 0), (1, .int (nI k)), (2, .int (nI v))] [] (HN g hl (RF rt)) Q := by
  have hI := hV.mi
  have hW := hI.hW
  have hS := hI.hS
  have hPl := hI.hPl
  have hNx := hI.hNx
  have hLa := hI.hLa
  have hLo := hI.hLo
  have hTb := hI.hTb
  have hTh := hI.hTh
  have hFd := hI.hFd
  have hSn := hI.hSn
  have hSh := hI.hSh
  have hRan := hI.hRan
  have hLr := hI.hLr
  have hLt := hI.hLt
  have hgl := hI.hgl
  have hsz := hI.hsz
  have hcm := hI.hcm
  have hsl := hI.hsl
  have hkd := hI.hkd
  have hvv := hI.hvv
  have hli := hI.hli
  have hro := hI.hro
  have hrw := hI.hrw
  have htx := hI.htx
  have hsw := hI.hsw
  have hsx := hI.hsx
  have hsy := hI.hsy
  have hsh := hI.hsh
  have hle := hI.hle
  have hcl := hI.hcl
  have hwd := hI.hwd
  have hnu := hI.hnu
  have hwn := hI.hwn
  have hs1 := hI.hs1
  have hso := hI.hso
  have hB := hV.gm.cb
  have hB0 := hB.1
  have hPs := hV.gm.cs
  have hsp1 := hV.sp.1
  have htx1 := hV.tx.1
  have h451 := hV.gm.rx.1
  have h442 := hV.gm.rx.2.2.2.1
  have h443 := hV.gm.rx.2.2.2.2
  have h481 := hV.gm.l48.1
  have h501 := hV.gm.l50.1
  have h521 := hV.gm.l52.1
  have h541 := hV.gm.l54.1
  have h04 := hV.tb.1
  have hac1 := hV.ac.1
  have hac2 := hV.ac.2.1
  have hPl0 := hV.gm.cp
  refine Ev.run 1 (pc' := 1) (lv' := [(0, .ref 0), (1, .int (nI k)), (2, .int (nI v))]) (st' := [.int (nI k)]) (h' := HN g hl (RF rt)) rfl ?_
  refine Ev.call (a := 120) (as := [.int (nI k)]) (rest := []) (lv0 := [(0, .int (nI k))]) (Q1 := (fun z0 h' => z0 = some (.int (nI (bn (decide (k ≤ 6))))) ∧ h' = HN g hl (RF rt))) rfl rfl (K_isKind _ _ _ _ k (by omega) ⟨rfl, rfl⟩) (fun r h' hr => ?_)
  obtain ⟨rfl, rfl⟩ := hr
  refine Ev_bn (fun hb4 => ?_) (fun hb4 => ?_)
  · have hhb4 : k ≤ 6 := of_decide_eq_true hb4
    refine Ev.run 4 (pc' := 13) (lv' := [(0, .ref 0), (1, .int (nI k)), (2, .int (nI v))]) (st' := [.int (nI 9), .int (nI 0), .int (nI v)]) (h' := HN g hl (RF rt)) rfl ?_
    refine Ev.call (a := 118) (as := [.int (nI v), .int (nI 0), .int (nI 9)]) (rest := []) (lv0 := [(0, .int (nI v)), (1, .int (nI 0)), (2, .int (nI 9))]) (Q1 := (fun z0 h' => z0 = some (.int (nI (bn (decide (v ≤ 9))))) ∧ h' = HN g hl (RF rt))) rfl rfl (K_within _ _ _ _ (nI v) (nI 0) (nI 9) (by rw [in0 (by omega) (by omega)]; exact ⟨rfl, rfl⟩)) (fun r h' hr => ?_)
    obtain ⟨rfl, rfl⟩ := hr
    refine Ev_bn (fun hb16 => ?_) (fun hb16 => ?_)
    · have hhb16 : v ≤ 9 := of_decide_eq_true hb16
      refine Ev.run 5 (pc' := 28) (lv' := [(0, .ref 0), (1, .int (nI k)), (2, .int (nI v))]) (st' := [.int (nI v), .int (nI k), .ref 12]) (h' := HN g hl (RF rt)) rfl ?_
      refine Ev.call (a := 23) (as := [.ref 12, .int (nI k), .int (nI v)]) (rest := []) (lv0 := [(0, .ref 12), (1, .int (nI k)), (2, .int (nI v))]) (Q1 := (fun z0 h' => z0 = some (.int (nI (if g 166 6 = 5 then 4294967292 else g 166 6))) ∧ h' = HN (if g 166 6 = 5 then g else gj g k v) hl (RF rt))) rfl rfl (K_join _ _ _ _ hV k v (by omega) (by omega) ⟨rfl, rfl⟩) (fun r h' hr => ?_)
      obtain ⟨rfl, rfl⟩ := hr
      refine Ev.ret (v := some (.int (nI (if g 166 6 = 5 then 4294967292 else g 166 6)))) rfl ?_
      unfold rs_player cs_player at hq
      first | (rw [if_pos (show k ≤ 6 by omega), if_pos (show v ≤ 9 by omega), if_pos (show k ≤ 6 by omega), if_pos (show v ≤ 9 by omega)] at hq; exact hq) | ((repeat (first | rw [if_pos (by omega)] at hq | rw [if_neg (by omega)] at hq)); exact hq)
    · have hhb16 : ¬ (v ≤ 9) := of_decide_eq_false hb16
      refine Ev.run 2 (pc' := 21) (lv' := [(0, .ref 0), (1, .int (nI k)), (2, .int (nI v))]) (st' := [.int (nI 4294967294)]) (h' := HN g hl (RF rt)) rfl ?_
      refine Ev.ret (v := some (.int (nI 4294967294))) rfl ?_
      unfold rs_player cs_player at hq
      first | (rw [if_pos (show k ≤ 6 by omega), if_pos (show v ≤ 9 by omega), if_pos (show k ≤ 6 by omega), if_pos (show v ≤ 9 by omega)] at hq; exact hq) | ((repeat (first | rw [if_pos (by omega)] at hq | rw [if_neg (by omega)] at hq)); exact hq)
  · have hhb4 : ¬ (k ≤ 6) := of_decide_eq_false hb4
    refine Ev.run 2 (pc' := 8) (lv' := [(0, .ref 0), (1, .int (nI k)), (2, .int (nI v))]) (st' := [.int (nI 4294967295)]) (h' := HN g hl (RF rt)) rfl ?_
    refine Ev.ret (v := some (.int (nI 4294967295))) rfl ?_
    unfold rs_player cs_player at hq
    first | (rw [if_pos (show k ≤ 6 by omega), if_pos (show v ≤ 9 by omega), if_pos (show k ≤ 6 by omega), if_pos (show v ≤ 9 by omega)] at hq; exact hq) | ((repeat (first | rw [if_pos (by omega)] at hq | rw [if_neg (by omega)] at hq)); exact hq)
def und7 (k o : Nat) : Bool := decide (o = 0 ∨ k = o ∨ (o = 1 ∧ k = 4) ∨ (o = 2 ∧ k = 5) ∨ (o = 3 ∧ k = 6))
theorem K_und7 {L : Nat} {xs : Nat → Int32} (d : Nat) (g : Nat → Nat → Nat) (hl : Nat → Nat → Int64) (rt : Nat × Nat × Nat × Nat) (k o : Nat) (hk : k ≤ 6) (ho : o ≤ 6) {Q : Po} (hq : Q (some (.int (nI (bn (und7 k o))))) (HN g hl (RF rt))) : Ev L xs (d + 2) 121 0 [(0, .int (nI k)), (1, .int (nI o))] [] (HN g hl (RF rt)) Q := by
  rcases (show k = 0 ∨ k = 1 ∨ k = 2 ∨ k = 3 ∨ k = 4 ∨ k = 5 ∨ k = 6 by omega) with rfl | rfl | rfl | rfl | rfl | rfl | rfl <;> rcases (show o = 0 ∨ o = 1 ∨ o = 2 ∨ o = 3 ∨ o = 4 ∨ o = 5 ∨ o = 6 by omega) with rfl | rfl | rfl | rfl | rfl | rfl | rfl
  · refine Ev.run 7 (pc' := 9) (lv' := [(3, .int (nI 0)), (2, .int (nI 0)), (0, .int (nI 0)), (1, .int (nI 0))]) (st' := [.int (Int32.ofNat (xLen L 1)), .int (nI 0)]) (h' := HN g hl (RF rt)) rfl ?_
    refine Ev.topI (show Int32.ofNat (xLen L 1) = nI 7 from rfl) ?_
    refine Ev.run 2 (pc' := 13) (lv' := [(3, .int (nI 0)), (2, .int (nI 0)), (0, .int (nI 0)), (1, .int (nI 0))]) (st' := [.int (nI 0)]) (h' := HN g hl (RF rt)) rfl ?_
    refine Ev.call (a := 120) (as := [.int (nI 0)]) (rest := []) (lv0 := [(0, .int (nI 0))]) (Q1 := (fun z0 h' => z0 = some (.int (nI 1)) ∧ h' = HN g hl (RF rt))) rfl rfl (K_isKind _ _ _ _ 0 (by omega) ⟨rfl, rfl⟩) (fun r h' hr => ?_)
    obtain ⟨rfl, rfl⟩ := hr
    refine Ev.run 5 (pc' := 25) (lv' := [(3, .int (nI 0)), (2, .int (nI 0)), (0, .int (nI 0)), (1, .int (nI 0))]) (st' := [.int (nI 1)]) (h' := HN g hl (RF rt)) rfl ?_
    refine Ev.ret (v := some (.int (nI 1))) rfl ?_
    exact hq
  · refine Ev.run 7 (pc' := 9) (lv' := [(3, .int (nI 0)), (2, .int (nI 0)), (0, .int (nI 0)), (1, .int (nI 1))]) (st' := [.int (Int32.ofNat (xLen L 1)), .int (nI 0)]) (h' := HN g hl (RF rt)) rfl ?_
    refine Ev.topI (show Int32.ofNat (xLen L 1) = nI 7 from rfl) ?_
    refine Ev.run 2 (pc' := 13) (lv' := [(3, .int (nI 0)), (2, .int (nI 0)), (0, .int (nI 0)), (1, .int (nI 1))]) (st' := [.int (nI 0)]) (h' := HN g hl (RF rt)) rfl ?_
    refine Ev.call (a := 120) (as := [.int (nI 0)]) (rest := []) (lv0 := [(0, .int (nI 0))]) (Q1 := (fun z0 h' => z0 = some (.int (nI 1)) ∧ h' = HN g hl (RF rt))) rfl rfl (K_isKind _ _ _ _ 0 (by omega) ⟨rfl, rfl⟩) (fun r h' hr => ?_)
    obtain ⟨rfl, rfl⟩ := hr
    refine Ev.run 6 (pc' := 30) (lv' := [(3, .int (nI 0)), (2, .int (nI 0)), (0, .int (nI 0)), (1, .int (nI 1))]) (st' := [.int (nI 0), .retAddr 1]) (h' := HN g hl (RF rt)) rfl ?_
    refine Ev_xald rfl (by decide) (show 0 < 7 by omega) (show 7 < 2 ^ 31 by decide) ?_
    refine Ev.topI (show xVal xs 1 0 = nI 4294967295 from rfl) ?_
    refine Ev.run 6 (pc' := 9) (lv' := [(3, .int (nI 1)), (2, .int (nI 4294967295)), (0, .int (nI 0)), (1, .int (nI 1))]) (st' := [.int (Int32.ofNat (xLen L 1)), .int (nI 1)]) (h' := HN g hl (RF rt)) rfl ?_
    refine Ev.topI (show Int32.ofNat (xLen L 1) = nI 7 from rfl) ?_
    refine Ev.run 2 (pc' := 13) (lv' := [(3, .int (nI 1)), (2, .int (nI 4294967295)), (0, .int (nI 0)), (1, .int (nI 1))]) (st' := [.int (nI 4294967295)]) (h' := HN g hl (RF rt)) rfl ?_
    refine Ev.call (a := 120) (as := [.int (nI 4294967295)]) (rest := []) (lv0 := [(0, .int (nI 4294967295))]) (Q1 := (fun z0 h' => z0 = some (.int (nI 0)) ∧ h' = HN g hl (RF rt))) rfl rfl (K_isKind _ _ _ _ 4294967295 (by omega) ⟨rfl, rfl⟩) (fun r h' hr => ?_)
    obtain ⟨rfl, rfl⟩ := hr
    refine Ev.run 2 (pc' := 39) (lv' := [(3, .int (nI 1)), (2, .int (nI 4294967295)), (0, .int (nI 0)), (1, .int (nI 1))]) (st' := [.int (nI 0)]) (h' := HN g hl (RF rt)) rfl ?_
    refine Ev.ret (v := some (.int (nI 0))) rfl ?_
    exact hq
  · refine Ev.run 7 (pc' := 9) (lv' := [(3, .int (nI 0)), (2, .int (nI 0)), (0, .int (nI 0)), (1, .int (nI 2))]) (st' := [.int (Int32.ofNat (xLen L 1)), .int (nI 0)]) (h' := HN g hl (RF rt)) rfl ?_
    refine Ev.topI (show Int32.ofNat (xLen L 1) = nI 7 from rfl) ?_
    refine Ev.run 2 (pc' := 13) (lv' := [(3, .int (nI 0)), (2, .int (nI 0)), (0, .int (nI 0)), (1, .int (nI 2))]) (st' := [.int (nI 0)]) (h' := HN g hl (RF rt)) rfl ?_
    refine Ev.call (a := 120) (as := [.int (nI 0)]) (rest := []) (lv0 := [(0, .int (nI 0))]) (Q1 := (fun z0 h' => z0 = some (.int (nI 1)) ∧ h' = HN g hl (RF rt))) rfl rfl (K_isKind _ _ _ _ 0 (by omega) ⟨rfl, rfl⟩) (fun r h' hr => ?_)
    obtain ⟨rfl, rfl⟩ := hr
    refine Ev.run 6 (pc' := 30) (lv' := [(3, .int (nI 0)), (2, .int (nI 0)), (0, .int (nI 0)), (1, .int (nI 2))]) (st' := [.int (nI 0), .retAddr 1]) (h' := HN g hl (RF rt)) rfl ?_
    refine Ev_xald rfl (by decide) (show 0 < 7 by omega) (show 7 < 2 ^ 31 by decide) ?_
    refine Ev.topI (show xVal xs 1 0 = nI 4294967295 from rfl) ?_
    refine Ev.run 6 (pc' := 9) (lv' := [(3, .int (nI 1)), (2, .int (nI 4294967295)), (0, .int (nI 0)), (1, .int (nI 2))]) (st' := [.int (Int32.ofNat (xLen L 1)), .int (nI 1)]) (h' := HN g hl (RF rt)) rfl ?_
    refine Ev.topI (show Int32.ofNat (xLen L 1) = nI 7 from rfl) ?_
    refine Ev.run 2 (pc' := 13) (lv' := [(3, .int (nI 1)), (2, .int (nI 4294967295)), (0, .int (nI 0)), (1, .int (nI 2))]) (st' := [.int (nI 4294967295)]) (h' := HN g hl (RF rt)) rfl ?_
    refine Ev.call (a := 120) (as := [.int (nI 4294967295)]) (rest := []) (lv0 := [(0, .int (nI 4294967295))]) (Q1 := (fun z0 h' => z0 = some (.int (nI 0)) ∧ h' = HN g hl (RF rt))) rfl rfl (K_isKind _ _ _ _ 4294967295 (by omega) ⟨rfl, rfl⟩) (fun r h' hr => ?_)
    obtain ⟨rfl, rfl⟩ := hr
    refine Ev.run 2 (pc' := 39) (lv' := [(3, .int (nI 1)), (2, .int (nI 4294967295)), (0, .int (nI 0)), (1, .int (nI 2))]) (st' := [.int (nI 0)]) (h' := HN g hl (RF rt)) rfl ?_
    refine Ev.ret (v := some (.int (nI 0))) rfl ?_
    exact hq
  · refine Ev.run 7 (pc' := 9) (lv' := [(3, .int (nI 0)), (2, .int (nI 0)), (0, .int (nI 0)), (1, .int (nI 3))]) (st' := [.int (Int32.ofNat (xLen L 1)), .int (nI 0)]) (h' := HN g hl (RF rt)) rfl ?_
    refine Ev.topI (show Int32.ofNat (xLen L 1) = nI 7 from rfl) ?_
    refine Ev.run 2 (pc' := 13) (lv' := [(3, .int (nI 0)), (2, .int (nI 0)), (0, .int (nI 0)), (1, .int (nI 3))]) (st' := [.int (nI 0)]) (h' := HN g hl (RF rt)) rfl ?_
    refine Ev.call (a := 120) (as := [.int (nI 0)]) (rest := []) (lv0 := [(0, .int (nI 0))]) (Q1 := (fun z0 h' => z0 = some (.int (nI 1)) ∧ h' = HN g hl (RF rt))) rfl rfl (K_isKind _ _ _ _ 0 (by omega) ⟨rfl, rfl⟩) (fun r h' hr => ?_)
    obtain ⟨rfl, rfl⟩ := hr
    refine Ev.run 6 (pc' := 30) (lv' := [(3, .int (nI 0)), (2, .int (nI 0)), (0, .int (nI 0)), (1, .int (nI 3))]) (st' := [.int (nI 0), .retAddr 1]) (h' := HN g hl (RF rt)) rfl ?_
    refine Ev_xald rfl (by decide) (show 0 < 7 by omega) (show 7 < 2 ^ 31 by decide) ?_
    refine Ev.topI (show xVal xs 1 0 = nI 4294967295 from rfl) ?_
    refine Ev.run 6 (pc' := 9) (lv' := [(3, .int (nI 1)), (2, .int (nI 4294967295)), (0, .int (nI 0)), (1, .int (nI 3))]) (st' := [.int (Int32.ofNat (xLen L 1)), .int (nI 1)]) (h' := HN g hl (RF rt)) rfl ?_
    refine Ev.topI (show Int32.ofNat (xLen L 1) = nI 7 from rfl) ?_
    refine Ev.run 2 (pc' := 13) (lv' := [(3, .int (nI 1)), (2, .int (nI 4294967295)), (0, .int (nI 0)), (1, .int (nI 3))]) (st' := [.int (nI 4294967295)]) (h' := HN g hl (RF rt)) rfl ?_
    refine Ev.call (a := 120) (as := [.int (nI 4294967295)]) (rest := []) (lv0 := [(0, .int (nI 4294967295))]) (Q1 := (fun z0 h' => z0 = some (.int (nI 0)) ∧ h' = HN g hl (RF rt))) rfl rfl (K_isKind _ _ _ _ 4294967295 (by omega) ⟨rfl, rfl⟩) (fun r h' hr => ?_)
    obtain ⟨rfl, rfl⟩ := hr
    refine Ev.run 2 (pc' := 39) (lv' := [(3, .int (nI 1)), (2, .int (nI 4294967295)), (0, .int (nI 0)), (1, .int (nI 3))]) (st' := [.int (nI 0)]) (h' := HN g hl (RF rt)) rfl ?_
    refine Ev.ret (v := some (.int (nI 0))) rfl ?_
    exact hq
  · refine Ev.run 7 (pc' := 9) (lv' := [(3, .int (nI 0)), (2, .int (nI 0)), (0, .int (nI 0)), (1, .int (nI 4))]) (st' := [.int (Int32.ofNat (xLen L 1)), .int (nI 0)]) (h' := HN g hl (RF rt)) rfl ?_
    refine Ev.topI (show Int32.ofNat (xLen L 1) = nI 7 from rfl) ?_
    refine Ev.run 2 (pc' := 13) (lv' := [(3, .int (nI 0)), (2, .int (nI 0)), (0, .int (nI 0)), (1, .int (nI 4))]) (st' := [.int (nI 0)]) (h' := HN g hl (RF rt)) rfl ?_
    refine Ev.call (a := 120) (as := [.int (nI 0)]) (rest := []) (lv0 := [(0, .int (nI 0))]) (Q1 := (fun z0 h' => z0 = some (.int (nI 1)) ∧ h' = HN g hl (RF rt))) rfl rfl (K_isKind _ _ _ _ 0 (by omega) ⟨rfl, rfl⟩) (fun r h' hr => ?_)
    obtain ⟨rfl, rfl⟩ := hr
    refine Ev.run 6 (pc' := 30) (lv' := [(3, .int (nI 0)), (2, .int (nI 0)), (0, .int (nI 0)), (1, .int (nI 4))]) (st' := [.int (nI 0), .retAddr 1]) (h' := HN g hl (RF rt)) rfl ?_
    refine Ev_xald rfl (by decide) (show 0 < 7 by omega) (show 7 < 2 ^ 31 by decide) ?_
    refine Ev.topI (show xVal xs 1 0 = nI 4294967295 from rfl) ?_
    refine Ev.run 6 (pc' := 9) (lv' := [(3, .int (nI 1)), (2, .int (nI 4294967295)), (0, .int (nI 0)), (1, .int (nI 4))]) (st' := [.int (Int32.ofNat (xLen L 1)), .int (nI 1)]) (h' := HN g hl (RF rt)) rfl ?_
    refine Ev.topI (show Int32.ofNat (xLen L 1) = nI 7 from rfl) ?_
    refine Ev.run 2 (pc' := 13) (lv' := [(3, .int (nI 1)), (2, .int (nI 4294967295)), (0, .int (nI 0)), (1, .int (nI 4))]) (st' := [.int (nI 4294967295)]) (h' := HN g hl (RF rt)) rfl ?_
    refine Ev.call (a := 120) (as := [.int (nI 4294967295)]) (rest := []) (lv0 := [(0, .int (nI 4294967295))]) (Q1 := (fun z0 h' => z0 = some (.int (nI 0)) ∧ h' = HN g hl (RF rt))) rfl rfl (K_isKind _ _ _ _ 4294967295 (by omega) ⟨rfl, rfl⟩) (fun r h' hr => ?_)
    obtain ⟨rfl, rfl⟩ := hr
    refine Ev.run 2 (pc' := 39) (lv' := [(3, .int (nI 1)), (2, .int (nI 4294967295)), (0, .int (nI 0)), (1, .int (nI 4))]) (st' := [.int (nI 0)]) (h' := HN g hl (RF rt)) rfl ?_
    refine Ev.ret (v := some (.int (nI 0))) rfl ?_
    exact hq
  · refine Ev.run 7 (pc' := 9) (lv' := [(3, .int (nI 0)), (2, .int (nI 0)), (0, .int (nI 0)), (1, .int (nI 5))]) (st' := [.int (Int32.ofNat (xLen L 1)), .int (nI 0)]) (h' := HN g hl (RF rt)) rfl ?_
    refine Ev.topI (show Int32.ofNat (xLen L 1) = nI 7 from rfl) ?_
    refine Ev.run 2 (pc' := 13) (lv' := [(3, .int (nI 0)), (2, .int (nI 0)), (0, .int (nI 0)), (1, .int (nI 5))]) (st' := [.int (nI 0)]) (h' := HN g hl (RF rt)) rfl ?_
    refine Ev.call (a := 120) (as := [.int (nI 0)]) (rest := []) (lv0 := [(0, .int (nI 0))]) (Q1 := (fun z0 h' => z0 = some (.int (nI 1)) ∧ h' = HN g hl (RF rt))) rfl rfl (K_isKind _ _ _ _ 0 (by omega) ⟨rfl, rfl⟩) (fun r h' hr => ?_)
    obtain ⟨rfl, rfl⟩ := hr
    refine Ev.run 6 (pc' := 30) (lv' := [(3, .int (nI 0)), (2, .int (nI 0)), (0, .int (nI 0)), (1, .int (nI 5))]) (st' := [.int (nI 0), .retAddr 1]) (h' := HN g hl (RF rt)) rfl ?_
    refine Ev_xald rfl (by decide) (show 0 < 7 by omega) (show 7 < 2 ^ 31 by decide) ?_
    refine Ev.topI (show xVal xs 1 0 = nI 4294967295 from rfl) ?_
    refine Ev.run 6 (pc' := 9) (lv' := [(3, .int (nI 1)), (2, .int (nI 4294967295)), (0, .int (nI 0)), (1, .int (nI 5))]) (st' := [.int (Int32.ofNat (xLen L 1)), .int (nI 1)]) (h' := HN g hl (RF rt)) rfl ?_
    refine Ev.topI (show Int32.ofNat (xLen L 1) = nI 7 from rfl) ?_
    refine Ev.run 2 (pc' := 13) (lv' := [(3, .int (nI 1)), (2, .int (nI 4294967295)), (0, .int (nI 0)), (1, .int (nI 5))]) (st' := [.int (nI 4294967295)]) (h' := HN g hl (RF rt)) rfl ?_
    refine Ev.call (a := 120) (as := [.int (nI 4294967295)]) (rest := []) (lv0 := [(0, .int (nI 4294967295))]) (Q1 := (fun z0 h' => z0 = some (.int (nI 0)) ∧ h' = HN g hl (RF rt))) rfl rfl (K_isKind _ _ _ _ 4294967295 (by omega) ⟨rfl, rfl⟩) (fun r h' hr => ?_)
    obtain ⟨rfl, rfl⟩ := hr
    refine Ev.run 2 (pc' := 39) (lv' := [(3, .int (nI 1)), (2, .int (nI 4294967295)), (0, .int (nI 0)), (1, .int (nI 5))]) (st' := [.int (nI 0)]) (h' := HN g hl (RF rt)) rfl ?_
    refine Ev.ret (v := some (.int (nI 0))) rfl ?_
    exact hq
  · refine Ev.run 7 (pc' := 9) (lv' := [(3, .int (nI 0)), (2, .int (nI 0)), (0, .int (nI 0)), (1, .int (nI 6))]) (st' := [.int (Int32.ofNat (xLen L 1)), .int (nI 0)]) (h' := HN g hl (RF rt)) rfl ?_
    refine Ev.topI (show Int32.ofNat (xLen L 1) = nI 7 from rfl) ?_
    refine Ev.run 2 (pc' := 13) (lv' := [(3, .int (nI 0)), (2, .int (nI 0)), (0, .int (nI 0)), (1, .int (nI 6))]) (st' := [.int (nI 0)]) (h' := HN g hl (RF rt)) rfl ?_
    refine Ev.call (a := 120) (as := [.int (nI 0)]) (rest := []) (lv0 := [(0, .int (nI 0))]) (Q1 := (fun z0 h' => z0 = some (.int (nI 1)) ∧ h' = HN g hl (RF rt))) rfl rfl (K_isKind _ _ _ _ 0 (by omega) ⟨rfl, rfl⟩) (fun r h' hr => ?_)
    obtain ⟨rfl, rfl⟩ := hr
    refine Ev.run 6 (pc' := 30) (lv' := [(3, .int (nI 0)), (2, .int (nI 0)), (0, .int (nI 0)), (1, .int (nI 6))]) (st' := [.int (nI 0), .retAddr 1]) (h' := HN g hl (RF rt)) rfl ?_
    refine Ev_xald rfl (by decide) (show 0 < 7 by omega) (show 7 < 2 ^ 31 by decide) ?_
    refine Ev.topI (show xVal xs 1 0 = nI 4294967295 from rfl) ?_
    refine Ev.run 6 (pc' := 9) (lv' := [(3, .int (nI 1)), (2, .int (nI 4294967295)), (0, .int (nI 0)), (1, .int (nI 6))]) (st' := [.int (Int32.ofNat (xLen L 1)), .int (nI 1)]) (h' := HN g hl (RF rt)) rfl ?_
    refine Ev.topI (show Int32.ofNat (xLen L 1) = nI 7 from rfl) ?_
    refine Ev.run 2 (pc' := 13) (lv' := [(3, .int (nI 1)), (2, .int (nI 4294967295)), (0, .int (nI 0)), (1, .int (nI 6))]) (st' := [.int (nI 4294967295)]) (h' := HN g hl (RF rt)) rfl ?_
    refine Ev.call (a := 120) (as := [.int (nI 4294967295)]) (rest := []) (lv0 := [(0, .int (nI 4294967295))]) (Q1 := (fun z0 h' => z0 = some (.int (nI 0)) ∧ h' = HN g hl (RF rt))) rfl rfl (K_isKind _ _ _ _ 4294967295 (by omega) ⟨rfl, rfl⟩) (fun r h' hr => ?_)
    obtain ⟨rfl, rfl⟩ := hr
    refine Ev.run 2 (pc' := 39) (lv' := [(3, .int (nI 1)), (2, .int (nI 4294967295)), (0, .int (nI 0)), (1, .int (nI 6))]) (st' := [.int (nI 0)]) (h' := HN g hl (RF rt)) rfl ?_
    refine Ev.ret (v := some (.int (nI 0))) rfl ?_
    exact hq
  · refine Ev.run 7 (pc' := 9) (lv' := [(3, .int (nI 0)), (2, .int (nI 1)), (0, .int (nI 1)), (1, .int (nI 0))]) (st' := [.int (Int32.ofNat (xLen L 1)), .int (nI 0)]) (h' := HN g hl (RF rt)) rfl ?_
    refine Ev.topI (show Int32.ofNat (xLen L 1) = nI 7 from rfl) ?_
    refine Ev.run 2 (pc' := 13) (lv' := [(3, .int (nI 0)), (2, .int (nI 1)), (0, .int (nI 1)), (1, .int (nI 0))]) (st' := [.int (nI 1)]) (h' := HN g hl (RF rt)) rfl ?_
    refine Ev.call (a := 120) (as := [.int (nI 1)]) (rest := []) (lv0 := [(0, .int (nI 1))]) (Q1 := (fun z0 h' => z0 = some (.int (nI 1)) ∧ h' = HN g hl (RF rt))) rfl rfl (K_isKind _ _ _ _ 1 (by omega) ⟨rfl, rfl⟩) (fun r h' hr => ?_)
    obtain ⟨rfl, rfl⟩ := hr
    refine Ev.run 6 (pc' := 30) (lv' := [(3, .int (nI 0)), (2, .int (nI 1)), (0, .int (nI 1)), (1, .int (nI 0))]) (st' := [.int (nI 1), .retAddr 1]) (h' := HN g hl (RF rt)) rfl ?_
    refine Ev_xald rfl (by decide) (show 1 < 7 by omega) (show 7 < 2 ^ 31 by decide) ?_
    refine Ev.topI (show xVal xs 1 1 = nI 0 from rfl) ?_
    refine Ev.run 6 (pc' := 9) (lv' := [(3, .int (nI 1)), (2, .int (nI 0)), (0, .int (nI 1)), (1, .int (nI 0))]) (st' := [.int (Int32.ofNat (xLen L 1)), .int (nI 1)]) (h' := HN g hl (RF rt)) rfl ?_
    refine Ev.topI (show Int32.ofNat (xLen L 1) = nI 7 from rfl) ?_
    refine Ev.run 2 (pc' := 13) (lv' := [(3, .int (nI 1)), (2, .int (nI 0)), (0, .int (nI 1)), (1, .int (nI 0))]) (st' := [.int (nI 0)]) (h' := HN g hl (RF rt)) rfl ?_
    refine Ev.call (a := 120) (as := [.int (nI 0)]) (rest := []) (lv0 := [(0, .int (nI 0))]) (Q1 := (fun z0 h' => z0 = some (.int (nI 1)) ∧ h' = HN g hl (RF rt))) rfl rfl (K_isKind _ _ _ _ 0 (by omega) ⟨rfl, rfl⟩) (fun r h' hr => ?_)
    obtain ⟨rfl, rfl⟩ := hr
    refine Ev.run 5 (pc' := 25) (lv' := [(3, .int (nI 1)), (2, .int (nI 0)), (0, .int (nI 1)), (1, .int (nI 0))]) (st' := [.int (nI 1)]) (h' := HN g hl (RF rt)) rfl ?_
    refine Ev.ret (v := some (.int (nI 1))) rfl ?_
    exact hq
  · refine Ev.run 7 (pc' := 9) (lv' := [(3, .int (nI 0)), (2, .int (nI 1)), (0, .int (nI 1)), (1, .int (nI 1))]) (st' := [.int (Int32.ofNat (xLen L 1)), .int (nI 0)]) (h' := HN g hl (RF rt)) rfl ?_
    refine Ev.topI (show Int32.ofNat (xLen L 1) = nI 7 from rfl) ?_
    refine Ev.run 2 (pc' := 13) (lv' := [(3, .int (nI 0)), (2, .int (nI 1)), (0, .int (nI 1)), (1, .int (nI 1))]) (st' := [.int (nI 1)]) (h' := HN g hl (RF rt)) rfl ?_
    refine Ev.call (a := 120) (as := [.int (nI 1)]) (rest := []) (lv0 := [(0, .int (nI 1))]) (Q1 := (fun z0 h' => z0 = some (.int (nI 1)) ∧ h' = HN g hl (RF rt))) rfl rfl (K_isKind _ _ _ _ 1 (by omega) ⟨rfl, rfl⟩) (fun r h' hr => ?_)
    obtain ⟨rfl, rfl⟩ := hr
    refine Ev.run 5 (pc' := 25) (lv' := [(3, .int (nI 0)), (2, .int (nI 1)), (0, .int (nI 1)), (1, .int (nI 1))]) (st' := [.int (nI 1)]) (h' := HN g hl (RF rt)) rfl ?_
    refine Ev.ret (v := some (.int (nI 1))) rfl ?_
    exact hq
  · refine Ev.run 7 (pc' := 9) (lv' := [(3, .int (nI 0)), (2, .int (nI 1)), (0, .int (nI 1)), (1, .int (nI 2))]) (st' := [.int (Int32.ofNat (xLen L 1)), .int (nI 0)]) (h' := HN g hl (RF rt)) rfl ?_
    refine Ev.topI (show Int32.ofNat (xLen L 1) = nI 7 from rfl) ?_
    refine Ev.run 2 (pc' := 13) (lv' := [(3, .int (nI 0)), (2, .int (nI 1)), (0, .int (nI 1)), (1, .int (nI 2))]) (st' := [.int (nI 1)]) (h' := HN g hl (RF rt)) rfl ?_
    refine Ev.call (a := 120) (as := [.int (nI 1)]) (rest := []) (lv0 := [(0, .int (nI 1))]) (Q1 := (fun z0 h' => z0 = some (.int (nI 1)) ∧ h' = HN g hl (RF rt))) rfl rfl (K_isKind _ _ _ _ 1 (by omega) ⟨rfl, rfl⟩) (fun r h' hr => ?_)
    obtain ⟨rfl, rfl⟩ := hr
    refine Ev.run 6 (pc' := 30) (lv' := [(3, .int (nI 0)), (2, .int (nI 1)), (0, .int (nI 1)), (1, .int (nI 2))]) (st' := [.int (nI 1), .retAddr 1]) (h' := HN g hl (RF rt)) rfl ?_
    refine Ev_xald rfl (by decide) (show 1 < 7 by omega) (show 7 < 2 ^ 31 by decide) ?_
    refine Ev.topI (show xVal xs 1 1 = nI 0 from rfl) ?_
    refine Ev.run 6 (pc' := 9) (lv' := [(3, .int (nI 1)), (2, .int (nI 0)), (0, .int (nI 1)), (1, .int (nI 2))]) (st' := [.int (Int32.ofNat (xLen L 1)), .int (nI 1)]) (h' := HN g hl (RF rt)) rfl ?_
    refine Ev.topI (show Int32.ofNat (xLen L 1) = nI 7 from rfl) ?_
    refine Ev.run 2 (pc' := 13) (lv' := [(3, .int (nI 1)), (2, .int (nI 0)), (0, .int (nI 1)), (1, .int (nI 2))]) (st' := [.int (nI 0)]) (h' := HN g hl (RF rt)) rfl ?_
    refine Ev.call (a := 120) (as := [.int (nI 0)]) (rest := []) (lv0 := [(0, .int (nI 0))]) (Q1 := (fun z0 h' => z0 = some (.int (nI 1)) ∧ h' = HN g hl (RF rt))) rfl rfl (K_isKind _ _ _ _ 0 (by omega) ⟨rfl, rfl⟩) (fun r h' hr => ?_)
    obtain ⟨rfl, rfl⟩ := hr
    refine Ev.run 6 (pc' := 30) (lv' := [(3, .int (nI 1)), (2, .int (nI 0)), (0, .int (nI 1)), (1, .int (nI 2))]) (st' := [.int (nI 0), .retAddr 1]) (h' := HN g hl (RF rt)) rfl ?_
    refine Ev_xald rfl (by decide) (show 0 < 7 by omega) (show 7 < 2 ^ 31 by decide) ?_
    refine Ev.topI (show xVal xs 1 0 = nI 4294967295 from rfl) ?_
    refine Ev.run 6 (pc' := 9) (lv' := [(3, .int (nI 2)), (2, .int (nI 4294967295)), (0, .int (nI 1)), (1, .int (nI 2))]) (st' := [.int (Int32.ofNat (xLen L 1)), .int (nI 2)]) (h' := HN g hl (RF rt)) rfl ?_
    refine Ev.topI (show Int32.ofNat (xLen L 1) = nI 7 from rfl) ?_
    refine Ev.run 2 (pc' := 13) (lv' := [(3, .int (nI 2)), (2, .int (nI 4294967295)), (0, .int (nI 1)), (1, .int (nI 2))]) (st' := [.int (nI 4294967295)]) (h' := HN g hl (RF rt)) rfl ?_
    refine Ev.call (a := 120) (as := [.int (nI 4294967295)]) (rest := []) (lv0 := [(0, .int (nI 4294967295))]) (Q1 := (fun z0 h' => z0 = some (.int (nI 0)) ∧ h' = HN g hl (RF rt))) rfl rfl (K_isKind _ _ _ _ 4294967295 (by omega) ⟨rfl, rfl⟩) (fun r h' hr => ?_)
    obtain ⟨rfl, rfl⟩ := hr
    refine Ev.run 2 (pc' := 39) (lv' := [(3, .int (nI 2)), (2, .int (nI 4294967295)), (0, .int (nI 1)), (1, .int (nI 2))]) (st' := [.int (nI 0)]) (h' := HN g hl (RF rt)) rfl ?_
    refine Ev.ret (v := some (.int (nI 0))) rfl ?_
    exact hq
  · refine Ev.run 7 (pc' := 9) (lv' := [(3, .int (nI 0)), (2, .int (nI 1)), (0, .int (nI 1)), (1, .int (nI 3))]) (st' := [.int (Int32.ofNat (xLen L 1)), .int (nI 0)]) (h' := HN g hl (RF rt)) rfl ?_
    refine Ev.topI (show Int32.ofNat (xLen L 1) = nI 7 from rfl) ?_
    refine Ev.run 2 (pc' := 13) (lv' := [(3, .int (nI 0)), (2, .int (nI 1)), (0, .int (nI 1)), (1, .int (nI 3))]) (st' := [.int (nI 1)]) (h' := HN g hl (RF rt)) rfl ?_
    refine Ev.call (a := 120) (as := [.int (nI 1)]) (rest := []) (lv0 := [(0, .int (nI 1))]) (Q1 := (fun z0 h' => z0 = some (.int (nI 1)) ∧ h' = HN g hl (RF rt))) rfl rfl (K_isKind _ _ _ _ 1 (by omega) ⟨rfl, rfl⟩) (fun r h' hr => ?_)
    obtain ⟨rfl, rfl⟩ := hr
    refine Ev.run 6 (pc' := 30) (lv' := [(3, .int (nI 0)), (2, .int (nI 1)), (0, .int (nI 1)), (1, .int (nI 3))]) (st' := [.int (nI 1), .retAddr 1]) (h' := HN g hl (RF rt)) rfl ?_
    refine Ev_xald rfl (by decide) (show 1 < 7 by omega) (show 7 < 2 ^ 31 by decide) ?_
    refine Ev.topI (show xVal xs 1 1 = nI 0 from rfl) ?_
    refine Ev.run 6 (pc' := 9) (lv' := [(3, .int (nI 1)), (2, .int (nI 0)), (0, .int (nI 1)), (1, .int (nI 3))]) (st' := [.int (Int32.ofNat (xLen L 1)), .int (nI 1)]) (h' := HN g hl (RF rt)) rfl ?_
    refine Ev.topI (show Int32.ofNat (xLen L 1) = nI 7 from rfl) ?_
    refine Ev.run 2 (pc' := 13) (lv' := [(3, .int (nI 1)), (2, .int (nI 0)), (0, .int (nI 1)), (1, .int (nI 3))]) (st' := [.int (nI 0)]) (h' := HN g hl (RF rt)) rfl ?_
    refine Ev.call (a := 120) (as := [.int (nI 0)]) (rest := []) (lv0 := [(0, .int (nI 0))]) (Q1 := (fun z0 h' => z0 = some (.int (nI 1)) ∧ h' = HN g hl (RF rt))) rfl rfl (K_isKind _ _ _ _ 0 (by omega) ⟨rfl, rfl⟩) (fun r h' hr => ?_)
    obtain ⟨rfl, rfl⟩ := hr
    refine Ev.run 6 (pc' := 30) (lv' := [(3, .int (nI 1)), (2, .int (nI 0)), (0, .int (nI 1)), (1, .int (nI 3))]) (st' := [.int (nI 0), .retAddr 1]) (h' := HN g hl (RF rt)) rfl ?_
    refine Ev_xald rfl (by decide) (show 0 < 7 by omega) (show 7 < 2 ^ 31 by decide) ?_
    refine Ev.topI (show xVal xs 1 0 = nI 4294967295 from rfl) ?_
    refine Ev.run 6 (pc' := 9) (lv' := [(3, .int (nI 2)), (2, .int (nI 4294967295)), (0, .int (nI 1)), (1, .int (nI 3))]) (st' := [.int (Int32.ofNat (xLen L 1)), .int (nI 2)]) (h' := HN g hl (RF rt)) rfl ?_
    refine Ev.topI (show Int32.ofNat (xLen L 1) = nI 7 from rfl) ?_
    refine Ev.run 2 (pc' := 13) (lv' := [(3, .int (nI 2)), (2, .int (nI 4294967295)), (0, .int (nI 1)), (1, .int (nI 3))]) (st' := [.int (nI 4294967295)]) (h' := HN g hl (RF rt)) rfl ?_
    refine Ev.call (a := 120) (as := [.int (nI 4294967295)]) (rest := []) (lv0 := [(0, .int (nI 4294967295))]) (Q1 := (fun z0 h' => z0 = some (.int (nI 0)) ∧ h' = HN g hl (RF rt))) rfl rfl (K_isKind _ _ _ _ 4294967295 (by omega) ⟨rfl, rfl⟩) (fun r h' hr => ?_)
    obtain ⟨rfl, rfl⟩ := hr
    refine Ev.run 2 (pc' := 39) (lv' := [(3, .int (nI 2)), (2, .int (nI 4294967295)), (0, .int (nI 1)), (1, .int (nI 3))]) (st' := [.int (nI 0)]) (h' := HN g hl (RF rt)) rfl ?_
    refine Ev.ret (v := some (.int (nI 0))) rfl ?_
    exact hq
  · refine Ev.run 7 (pc' := 9) (lv' := [(3, .int (nI 0)), (2, .int (nI 1)), (0, .int (nI 1)), (1, .int (nI 4))]) (st' := [.int (Int32.ofNat (xLen L 1)), .int (nI 0)]) (h' := HN g hl (RF rt)) rfl ?_
    refine Ev.topI (show Int32.ofNat (xLen L 1) = nI 7 from rfl) ?_
    refine Ev.run 2 (pc' := 13) (lv' := [(3, .int (nI 0)), (2, .int (nI 1)), (0, .int (nI 1)), (1, .int (nI 4))]) (st' := [.int (nI 1)]) (h' := HN g hl (RF rt)) rfl ?_
    refine Ev.call (a := 120) (as := [.int (nI 1)]) (rest := []) (lv0 := [(0, .int (nI 1))]) (Q1 := (fun z0 h' => z0 = some (.int (nI 1)) ∧ h' = HN g hl (RF rt))) rfl rfl (K_isKind _ _ _ _ 1 (by omega) ⟨rfl, rfl⟩) (fun r h' hr => ?_)
    obtain ⟨rfl, rfl⟩ := hr
    refine Ev.run 6 (pc' := 30) (lv' := [(3, .int (nI 0)), (2, .int (nI 1)), (0, .int (nI 1)), (1, .int (nI 4))]) (st' := [.int (nI 1), .retAddr 1]) (h' := HN g hl (RF rt)) rfl ?_
    refine Ev_xald rfl (by decide) (show 1 < 7 by omega) (show 7 < 2 ^ 31 by decide) ?_
    refine Ev.topI (show xVal xs 1 1 = nI 0 from rfl) ?_
    refine Ev.run 6 (pc' := 9) (lv' := [(3, .int (nI 1)), (2, .int (nI 0)), (0, .int (nI 1)), (1, .int (nI 4))]) (st' := [.int (Int32.ofNat (xLen L 1)), .int (nI 1)]) (h' := HN g hl (RF rt)) rfl ?_
    refine Ev.topI (show Int32.ofNat (xLen L 1) = nI 7 from rfl) ?_
    refine Ev.run 2 (pc' := 13) (lv' := [(3, .int (nI 1)), (2, .int (nI 0)), (0, .int (nI 1)), (1, .int (nI 4))]) (st' := [.int (nI 0)]) (h' := HN g hl (RF rt)) rfl ?_
    refine Ev.call (a := 120) (as := [.int (nI 0)]) (rest := []) (lv0 := [(0, .int (nI 0))]) (Q1 := (fun z0 h' => z0 = some (.int (nI 1)) ∧ h' = HN g hl (RF rt))) rfl rfl (K_isKind _ _ _ _ 0 (by omega) ⟨rfl, rfl⟩) (fun r h' hr => ?_)
    obtain ⟨rfl, rfl⟩ := hr
    refine Ev.run 6 (pc' := 30) (lv' := [(3, .int (nI 1)), (2, .int (nI 0)), (0, .int (nI 1)), (1, .int (nI 4))]) (st' := [.int (nI 0), .retAddr 1]) (h' := HN g hl (RF rt)) rfl ?_
    refine Ev_xald rfl (by decide) (show 0 < 7 by omega) (show 7 < 2 ^ 31 by decide) ?_
    refine Ev.topI (show xVal xs 1 0 = nI 4294967295 from rfl) ?_
    refine Ev.run 6 (pc' := 9) (lv' := [(3, .int (nI 2)), (2, .int (nI 4294967295)), (0, .int (nI 1)), (1, .int (nI 4))]) (st' := [.int (Int32.ofNat (xLen L 1)), .int (nI 2)]) (h' := HN g hl (RF rt)) rfl ?_
    refine Ev.topI (show Int32.ofNat (xLen L 1) = nI 7 from rfl) ?_
    refine Ev.run 2 (pc' := 13) (lv' := [(3, .int (nI 2)), (2, .int (nI 4294967295)), (0, .int (nI 1)), (1, .int (nI 4))]) (st' := [.int (nI 4294967295)]) (h' := HN g hl (RF rt)) rfl ?_
    refine Ev.call (a := 120) (as := [.int (nI 4294967295)]) (rest := []) (lv0 := [(0, .int (nI 4294967295))]) (Q1 := (fun z0 h' => z0 = some (.int (nI 0)) ∧ h' = HN g hl (RF rt))) rfl rfl (K_isKind _ _ _ _ 4294967295 (by omega) ⟨rfl, rfl⟩) (fun r h' hr => ?_)
    obtain ⟨rfl, rfl⟩ := hr
    refine Ev.run 2 (pc' := 39) (lv' := [(3, .int (nI 2)), (2, .int (nI 4294967295)), (0, .int (nI 1)), (1, .int (nI 4))]) (st' := [.int (nI 0)]) (h' := HN g hl (RF rt)) rfl ?_
    refine Ev.ret (v := some (.int (nI 0))) rfl ?_
    exact hq
  · refine Ev.run 7 (pc' := 9) (lv' := [(3, .int (nI 0)), (2, .int (nI 1)), (0, .int (nI 1)), (1, .int (nI 5))]) (st' := [.int (Int32.ofNat (xLen L 1)), .int (nI 0)]) (h' := HN g hl (RF rt)) rfl ?_
    refine Ev.topI (show Int32.ofNat (xLen L 1) = nI 7 from rfl) ?_
    refine Ev.run 2 (pc' := 13) (lv' := [(3, .int (nI 0)), (2, .int (nI 1)), (0, .int (nI 1)), (1, .int (nI 5))]) (st' := [.int (nI 1)]) (h' := HN g hl (RF rt)) rfl ?_
    refine Ev.call (a := 120) (as := [.int (nI 1)]) (rest := []) (lv0 := [(0, .int (nI 1))]) (Q1 := (fun z0 h' => z0 = some (.int (nI 1)) ∧ h' = HN g hl (RF rt))) rfl rfl (K_isKind _ _ _ _ 1 (by omega) ⟨rfl, rfl⟩) (fun r h' hr => ?_)
    obtain ⟨rfl, rfl⟩ := hr
    refine Ev.run 6 (pc' := 30) (lv' := [(3, .int (nI 0)), (2, .int (nI 1)), (0, .int (nI 1)), (1, .int (nI 5))]) (st' := [.int (nI 1), .retAddr 1]) (h' := HN g hl (RF rt)) rfl ?_
    refine Ev_xald rfl (by decide) (show 1 < 7 by omega) (show 7 < 2 ^ 31 by decide) ?_
    refine Ev.topI (show xVal xs 1 1 = nI 0 from rfl) ?_
    refine Ev.run 6 (pc' := 9) (lv' := [(3, .int (nI 1)), (2, .int (nI 0)), (0, .int (nI 1)), (1, .int (nI 5))]) (st' := [.int (Int32.ofNat (xLen L 1)), .int (nI 1)]) (h' := HN g hl (RF rt)) rfl ?_
    refine Ev.topI (show Int32.ofNat (xLen L 1) = nI 7 from rfl) ?_
    refine Ev.run 2 (pc' := 13) (lv' := [(3, .int (nI 1)), (2, .int (nI 0)), (0, .int (nI 1)), (1, .int (nI 5))]) (st' := [.int (nI 0)]) (h' := HN g hl (RF rt)) rfl ?_
    refine Ev.call (a := 120) (as := [.int (nI 0)]) (rest := []) (lv0 := [(0, .int (nI 0))]) (Q1 := (fun z0 h' => z0 = some (.int (nI 1)) ∧ h' = HN g hl (RF rt))) rfl rfl (K_isKind _ _ _ _ 0 (by omega) ⟨rfl, rfl⟩) (fun r h' hr => ?_)
    obtain ⟨rfl, rfl⟩ := hr
    refine Ev.run 6 (pc' := 30) (lv' := [(3, .int (nI 1)), (2, .int (nI 0)), (0, .int (nI 1)), (1, .int (nI 5))]) (st' := [.int (nI 0), .retAddr 1]) (h' := HN g hl (RF rt)) rfl ?_
    refine Ev_xald rfl (by decide) (show 0 < 7 by omega) (show 7 < 2 ^ 31 by decide) ?_
    refine Ev.topI (show xVal xs 1 0 = nI 4294967295 from rfl) ?_
    refine Ev.run 6 (pc' := 9) (lv' := [(3, .int (nI 2)), (2, .int (nI 4294967295)), (0, .int (nI 1)), (1, .int (nI 5))]) (st' := [.int (Int32.ofNat (xLen L 1)), .int (nI 2)]) (h' := HN g hl (RF rt)) rfl ?_
    refine Ev.topI (show Int32.ofNat (xLen L 1) = nI 7 from rfl) ?_
    refine Ev.run 2 (pc' := 13) (lv' := [(3, .int (nI 2)), (2, .int (nI 4294967295)), (0, .int (nI 1)), (1, .int (nI 5))]) (st' := [.int (nI 4294967295)]) (h' := HN g hl (RF rt)) rfl ?_
    refine Ev.call (a := 120) (as := [.int (nI 4294967295)]) (rest := []) (lv0 := [(0, .int (nI 4294967295))]) (Q1 := (fun z0 h' => z0 = some (.int (nI 0)) ∧ h' = HN g hl (RF rt))) rfl rfl (K_isKind _ _ _ _ 4294967295 (by omega) ⟨rfl, rfl⟩) (fun r h' hr => ?_)
    obtain ⟨rfl, rfl⟩ := hr
    refine Ev.run 2 (pc' := 39) (lv' := [(3, .int (nI 2)), (2, .int (nI 4294967295)), (0, .int (nI 1)), (1, .int (nI 5))]) (st' := [.int (nI 0)]) (h' := HN g hl (RF rt)) rfl ?_
    refine Ev.ret (v := some (.int (nI 0))) rfl ?_
    exact hq
  · refine Ev.run 7 (pc' := 9) (lv' := [(3, .int (nI 0)), (2, .int (nI 1)), (0, .int (nI 1)), (1, .int (nI 6))]) (st' := [.int (Int32.ofNat (xLen L 1)), .int (nI 0)]) (h' := HN g hl (RF rt)) rfl ?_
    refine Ev.topI (show Int32.ofNat (xLen L 1) = nI 7 from rfl) ?_
    refine Ev.run 2 (pc' := 13) (lv' := [(3, .int (nI 0)), (2, .int (nI 1)), (0, .int (nI 1)), (1, .int (nI 6))]) (st' := [.int (nI 1)]) (h' := HN g hl (RF rt)) rfl ?_
    refine Ev.call (a := 120) (as := [.int (nI 1)]) (rest := []) (lv0 := [(0, .int (nI 1))]) (Q1 := (fun z0 h' => z0 = some (.int (nI 1)) ∧ h' = HN g hl (RF rt))) rfl rfl (K_isKind _ _ _ _ 1 (by omega) ⟨rfl, rfl⟩) (fun r h' hr => ?_)
    obtain ⟨rfl, rfl⟩ := hr
    refine Ev.run 6 (pc' := 30) (lv' := [(3, .int (nI 0)), (2, .int (nI 1)), (0, .int (nI 1)), (1, .int (nI 6))]) (st' := [.int (nI 1), .retAddr 1]) (h' := HN g hl (RF rt)) rfl ?_
    refine Ev_xald rfl (by decide) (show 1 < 7 by omega) (show 7 < 2 ^ 31 by decide) ?_
    refine Ev.topI (show xVal xs 1 1 = nI 0 from rfl) ?_
    refine Ev.run 6 (pc' := 9) (lv' := [(3, .int (nI 1)), (2, .int (nI 0)), (0, .int (nI 1)), (1, .int (nI 6))]) (st' := [.int (Int32.ofNat (xLen L 1)), .int (nI 1)]) (h' := HN g hl (RF rt)) rfl ?_
    refine Ev.topI (show Int32.ofNat (xLen L 1) = nI 7 from rfl) ?_
    refine Ev.run 2 (pc' := 13) (lv' := [(3, .int (nI 1)), (2, .int (nI 0)), (0, .int (nI 1)), (1, .int (nI 6))]) (st' := [.int (nI 0)]) (h' := HN g hl (RF rt)) rfl ?_
    refine Ev.call (a := 120) (as := [.int (nI 0)]) (rest := []) (lv0 := [(0, .int (nI 0))]) (Q1 := (fun z0 h' => z0 = some (.int (nI 1)) ∧ h' = HN g hl (RF rt))) rfl rfl (K_isKind _ _ _ _ 0 (by omega) ⟨rfl, rfl⟩) (fun r h' hr => ?_)
    obtain ⟨rfl, rfl⟩ := hr
    refine Ev.run 6 (pc' := 30) (lv' := [(3, .int (nI 1)), (2, .int (nI 0)), (0, .int (nI 1)), (1, .int (nI 6))]) (st' := [.int (nI 0), .retAddr 1]) (h' := HN g hl (RF rt)) rfl ?_
    refine Ev_xald rfl (by decide) (show 0 < 7 by omega) (show 7 < 2 ^ 31 by decide) ?_
    refine Ev.topI (show xVal xs 1 0 = nI 4294967295 from rfl) ?_
    refine Ev.run 6 (pc' := 9) (lv' := [(3, .int (nI 2)), (2, .int (nI 4294967295)), (0, .int (nI 1)), (1, .int (nI 6))]) (st' := [.int (Int32.ofNat (xLen L 1)), .int (nI 2)]) (h' := HN g hl (RF rt)) rfl ?_
    refine Ev.topI (show Int32.ofNat (xLen L 1) = nI 7 from rfl) ?_
    refine Ev.run 2 (pc' := 13) (lv' := [(3, .int (nI 2)), (2, .int (nI 4294967295)), (0, .int (nI 1)), (1, .int (nI 6))]) (st' := [.int (nI 4294967295)]) (h' := HN g hl (RF rt)) rfl ?_
    refine Ev.call (a := 120) (as := [.int (nI 4294967295)]) (rest := []) (lv0 := [(0, .int (nI 4294967295))]) (Q1 := (fun z0 h' => z0 = some (.int (nI 0)) ∧ h' = HN g hl (RF rt))) rfl rfl (K_isKind _ _ _ _ 4294967295 (by omega) ⟨rfl, rfl⟩) (fun r h' hr => ?_)
    obtain ⟨rfl, rfl⟩ := hr
    refine Ev.run 2 (pc' := 39) (lv' := [(3, .int (nI 2)), (2, .int (nI 4294967295)), (0, .int (nI 1)), (1, .int (nI 6))]) (st' := [.int (nI 0)]) (h' := HN g hl (RF rt)) rfl ?_
    refine Ev.ret (v := some (.int (nI 0))) rfl ?_
    exact hq
  · refine Ev.run 7 (pc' := 9) (lv' := [(3, .int (nI 0)), (2, .int (nI 2)), (0, .int (nI 2)), (1, .int (nI 0))]) (st' := [.int (Int32.ofNat (xLen L 1)), .int (nI 0)]) (h' := HN g hl (RF rt)) rfl ?_
    refine Ev.topI (show Int32.ofNat (xLen L 1) = nI 7 from rfl) ?_
    refine Ev.run 2 (pc' := 13) (lv' := [(3, .int (nI 0)), (2, .int (nI 2)), (0, .int (nI 2)), (1, .int (nI 0))]) (st' := [.int (nI 2)]) (h' := HN g hl (RF rt)) rfl ?_
    refine Ev.call (a := 120) (as := [.int (nI 2)]) (rest := []) (lv0 := [(0, .int (nI 2))]) (Q1 := (fun z0 h' => z0 = some (.int (nI 1)) ∧ h' = HN g hl (RF rt))) rfl rfl (K_isKind _ _ _ _ 2 (by omega) ⟨rfl, rfl⟩) (fun r h' hr => ?_)
    obtain ⟨rfl, rfl⟩ := hr
    refine Ev.run 6 (pc' := 30) (lv' := [(3, .int (nI 0)), (2, .int (nI 2)), (0, .int (nI 2)), (1, .int (nI 0))]) (st' := [.int (nI 2), .retAddr 1]) (h' := HN g hl (RF rt)) rfl ?_
    refine Ev_xald rfl (by decide) (show 2 < 7 by omega) (show 7 < 2 ^ 31 by decide) ?_
    refine Ev.topI (show xVal xs 1 2 = nI 0 from rfl) ?_
    refine Ev.run 6 (pc' := 9) (lv' := [(3, .int (nI 1)), (2, .int (nI 0)), (0, .int (nI 2)), (1, .int (nI 0))]) (st' := [.int (Int32.ofNat (xLen L 1)), .int (nI 1)]) (h' := HN g hl (RF rt)) rfl ?_
    refine Ev.topI (show Int32.ofNat (xLen L 1) = nI 7 from rfl) ?_
    refine Ev.run 2 (pc' := 13) (lv' := [(3, .int (nI 1)), (2, .int (nI 0)), (0, .int (nI 2)), (1, .int (nI 0))]) (st' := [.int (nI 0)]) (h' := HN g hl (RF rt)) rfl ?_
    refine Ev.call (a := 120) (as := [.int (nI 0)]) (rest := []) (lv0 := [(0, .int (nI 0))]) (Q1 := (fun z0 h' => z0 = some (.int (nI 1)) ∧ h' = HN g hl (RF rt))) rfl rfl (K_isKind _ _ _ _ 0 (by omega) ⟨rfl, rfl⟩) (fun r h' hr => ?_)
    obtain ⟨rfl, rfl⟩ := hr
    refine Ev.run 5 (pc' := 25) (lv' := [(3, .int (nI 1)), (2, .int (nI 0)), (0, .int (nI 2)), (1, .int (nI 0))]) (st' := [.int (nI 1)]) (h' := HN g hl (RF rt)) rfl ?_
    refine Ev.ret (v := some (.int (nI 1))) rfl ?_
    exact hq
  · refine Ev.run 7 (pc' := 9) (lv' := [(3, .int (nI 0)), (2, .int (nI 2)), (0, .int (nI 2)), (1, .int (nI 1))]) (st' := [.int (Int32.ofNat (xLen L 1)), .int (nI 0)]) (h' := HN g hl (RF rt)) rfl ?_
    refine Ev.topI (show Int32.ofNat (xLen L 1) = nI 7 from rfl) ?_
    refine Ev.run 2 (pc' := 13) (lv' := [(3, .int (nI 0)), (2, .int (nI 2)), (0, .int (nI 2)), (1, .int (nI 1))]) (st' := [.int (nI 2)]) (h' := HN g hl (RF rt)) rfl ?_
    refine Ev.call (a := 120) (as := [.int (nI 2)]) (rest := []) (lv0 := [(0, .int (nI 2))]) (Q1 := (fun z0 h' => z0 = some (.int (nI 1)) ∧ h' = HN g hl (RF rt))) rfl rfl (K_isKind _ _ _ _ 2 (by omega) ⟨rfl, rfl⟩) (fun r h' hr => ?_)
    obtain ⟨rfl, rfl⟩ := hr
    refine Ev.run 6 (pc' := 30) (lv' := [(3, .int (nI 0)), (2, .int (nI 2)), (0, .int (nI 2)), (1, .int (nI 1))]) (st' := [.int (nI 2), .retAddr 1]) (h' := HN g hl (RF rt)) rfl ?_
    refine Ev_xald rfl (by decide) (show 2 < 7 by omega) (show 7 < 2 ^ 31 by decide) ?_
    refine Ev.topI (show xVal xs 1 2 = nI 0 from rfl) ?_
    refine Ev.run 6 (pc' := 9) (lv' := [(3, .int (nI 1)), (2, .int (nI 0)), (0, .int (nI 2)), (1, .int (nI 1))]) (st' := [.int (Int32.ofNat (xLen L 1)), .int (nI 1)]) (h' := HN g hl (RF rt)) rfl ?_
    refine Ev.topI (show Int32.ofNat (xLen L 1) = nI 7 from rfl) ?_
    refine Ev.run 2 (pc' := 13) (lv' := [(3, .int (nI 1)), (2, .int (nI 0)), (0, .int (nI 2)), (1, .int (nI 1))]) (st' := [.int (nI 0)]) (h' := HN g hl (RF rt)) rfl ?_
    refine Ev.call (a := 120) (as := [.int (nI 0)]) (rest := []) (lv0 := [(0, .int (nI 0))]) (Q1 := (fun z0 h' => z0 = some (.int (nI 1)) ∧ h' = HN g hl (RF rt))) rfl rfl (K_isKind _ _ _ _ 0 (by omega) ⟨rfl, rfl⟩) (fun r h' hr => ?_)
    obtain ⟨rfl, rfl⟩ := hr
    refine Ev.run 6 (pc' := 30) (lv' := [(3, .int (nI 1)), (2, .int (nI 0)), (0, .int (nI 2)), (1, .int (nI 1))]) (st' := [.int (nI 0), .retAddr 1]) (h' := HN g hl (RF rt)) rfl ?_
    refine Ev_xald rfl (by decide) (show 0 < 7 by omega) (show 7 < 2 ^ 31 by decide) ?_
    refine Ev.topI (show xVal xs 1 0 = nI 4294967295 from rfl) ?_
    refine Ev.run 6 (pc' := 9) (lv' := [(3, .int (nI 2)), (2, .int (nI 4294967295)), (0, .int (nI 2)), (1, .int (nI 1))]) (st' := [.int (Int32.ofNat (xLen L 1)), .int (nI 2)]) (h' := HN g hl (RF rt)) rfl ?_
    refine Ev.topI (show Int32.ofNat (xLen L 1) = nI 7 from rfl) ?_
    refine Ev.run 2 (pc' := 13) (lv' := [(3, .int (nI 2)), (2, .int (nI 4294967295)), (0, .int (nI 2)), (1, .int (nI 1))]) (st' := [.int (nI 4294967295)]) (h' := HN g hl (RF rt)) rfl ?_
    refine Ev.call (a := 120) (as := [.int (nI 4294967295)]) (rest := []) (lv0 := [(0, .int (nI 4294967295))]) (Q1 := (fun z0 h' => z0 = some (.int (nI 0)) ∧ h' = HN g hl (RF rt))) rfl rfl (K_isKind _ _ _ _ 4294967295 (by omega) ⟨rfl, rfl⟩) (fun r h' hr => ?_)
    obtain ⟨rfl, rfl⟩ := hr
    refine Ev.run 2 (pc' := 39) (lv' := [(3, .int (nI 2)), (2, .int (nI 4294967295)), (0, .int (nI 2)), (1, .int (nI 1))]) (st' := [.int (nI 0)]) (h' := HN g hl (RF rt)) rfl ?_
    refine Ev.ret (v := some (.int (nI 0))) rfl ?_
    exact hq
  · refine Ev.run 7 (pc' := 9) (lv' := [(3, .int (nI 0)), (2, .int (nI 2)), (0, .int (nI 2)), (1, .int (nI 2))]) (st' := [.int (Int32.ofNat (xLen L 1)), .int (nI 0)]) (h' := HN g hl (RF rt)) rfl ?_
    refine Ev.topI (show Int32.ofNat (xLen L 1) = nI 7 from rfl) ?_
    refine Ev.run 2 (pc' := 13) (lv' := [(3, .int (nI 0)), (2, .int (nI 2)), (0, .int (nI 2)), (1, .int (nI 2))]) (st' := [.int (nI 2)]) (h' := HN g hl (RF rt)) rfl ?_
    refine Ev.call (a := 120) (as := [.int (nI 2)]) (rest := []) (lv0 := [(0, .int (nI 2))]) (Q1 := (fun z0 h' => z0 = some (.int (nI 1)) ∧ h' = HN g hl (RF rt))) rfl rfl (K_isKind _ _ _ _ 2 (by omega) ⟨rfl, rfl⟩) (fun r h' hr => ?_)
    obtain ⟨rfl, rfl⟩ := hr
    refine Ev.run 5 (pc' := 25) (lv' := [(3, .int (nI 0)), (2, .int (nI 2)), (0, .int (nI 2)), (1, .int (nI 2))]) (st' := [.int (nI 1)]) (h' := HN g hl (RF rt)) rfl ?_
    refine Ev.ret (v := some (.int (nI 1))) rfl ?_
    exact hq
  · refine Ev.run 7 (pc' := 9) (lv' := [(3, .int (nI 0)), (2, .int (nI 2)), (0, .int (nI 2)), (1, .int (nI 3))]) (st' := [.int (Int32.ofNat (xLen L 1)), .int (nI 0)]) (h' := HN g hl (RF rt)) rfl ?_
    refine Ev.topI (show Int32.ofNat (xLen L 1) = nI 7 from rfl) ?_
    refine Ev.run 2 (pc' := 13) (lv' := [(3, .int (nI 0)), (2, .int (nI 2)), (0, .int (nI 2)), (1, .int (nI 3))]) (st' := [.int (nI 2)]) (h' := HN g hl (RF rt)) rfl ?_
    refine Ev.call (a := 120) (as := [.int (nI 2)]) (rest := []) (lv0 := [(0, .int (nI 2))]) (Q1 := (fun z0 h' => z0 = some (.int (nI 1)) ∧ h' = HN g hl (RF rt))) rfl rfl (K_isKind _ _ _ _ 2 (by omega) ⟨rfl, rfl⟩) (fun r h' hr => ?_)
    obtain ⟨rfl, rfl⟩ := hr
    refine Ev.run 6 (pc' := 30) (lv' := [(3, .int (nI 0)), (2, .int (nI 2)), (0, .int (nI 2)), (1, .int (nI 3))]) (st' := [.int (nI 2), .retAddr 1]) (h' := HN g hl (RF rt)) rfl ?_
    refine Ev_xald rfl (by decide) (show 2 < 7 by omega) (show 7 < 2 ^ 31 by decide) ?_
    refine Ev.topI (show xVal xs 1 2 = nI 0 from rfl) ?_
    refine Ev.run 6 (pc' := 9) (lv' := [(3, .int (nI 1)), (2, .int (nI 0)), (0, .int (nI 2)), (1, .int (nI 3))]) (st' := [.int (Int32.ofNat (xLen L 1)), .int (nI 1)]) (h' := HN g hl (RF rt)) rfl ?_
    refine Ev.topI (show Int32.ofNat (xLen L 1) = nI 7 from rfl) ?_
    refine Ev.run 2 (pc' := 13) (lv' := [(3, .int (nI 1)), (2, .int (nI 0)), (0, .int (nI 2)), (1, .int (nI 3))]) (st' := [.int (nI 0)]) (h' := HN g hl (RF rt)) rfl ?_
    refine Ev.call (a := 120) (as := [.int (nI 0)]) (rest := []) (lv0 := [(0, .int (nI 0))]) (Q1 := (fun z0 h' => z0 = some (.int (nI 1)) ∧ h' = HN g hl (RF rt))) rfl rfl (K_isKind _ _ _ _ 0 (by omega) ⟨rfl, rfl⟩) (fun r h' hr => ?_)
    obtain ⟨rfl, rfl⟩ := hr
    refine Ev.run 6 (pc' := 30) (lv' := [(3, .int (nI 1)), (2, .int (nI 0)), (0, .int (nI 2)), (1, .int (nI 3))]) (st' := [.int (nI 0), .retAddr 1]) (h' := HN g hl (RF rt)) rfl ?_
    refine Ev_xald rfl (by decide) (show 0 < 7 by omega) (show 7 < 2 ^ 31 by decide) ?_
    refine Ev.topI (show xVal xs 1 0 = nI 4294967295 from rfl) ?_
    refine Ev.run 6 (pc' := 9) (lv' := [(3, .int (nI 2)), (2, .int (nI 4294967295)), (0, .int (nI 2)), (1, .int (nI 3))]) (st' := [.int (Int32.ofNat (xLen L 1)), .int (nI 2)]) (h' := HN g hl (RF rt)) rfl ?_
    refine Ev.topI (show Int32.ofNat (xLen L 1) = nI 7 from rfl) ?_
    refine Ev.run 2 (pc' := 13) (lv' := [(3, .int (nI 2)), (2, .int (nI 4294967295)), (0, .int (nI 2)), (1, .int (nI 3))]) (st' := [.int (nI 4294967295)]) (h' := HN g hl (RF rt)) rfl ?_
    refine Ev.call (a := 120) (as := [.int (nI 4294967295)]) (rest := []) (lv0 := [(0, .int (nI 4294967295))]) (Q1 := (fun z0 h' => z0 = some (.int (nI 0)) ∧ h' = HN g hl (RF rt))) rfl rfl (K_isKind _ _ _ _ 4294967295 (by omega) ⟨rfl, rfl⟩) (fun r h' hr => ?_)
    obtain ⟨rfl, rfl⟩ := hr
    refine Ev.run 2 (pc' := 39) (lv' := [(3, .int (nI 2)), (2, .int (nI 4294967295)), (0, .int (nI 2)), (1, .int (nI 3))]) (st' := [.int (nI 0)]) (h' := HN g hl (RF rt)) rfl ?_
    refine Ev.ret (v := some (.int (nI 0))) rfl ?_
    exact hq
  · refine Ev.run 7 (pc' := 9) (lv' := [(3, .int (nI 0)), (2, .int (nI 2)), (0, .int (nI 2)), (1, .int (nI 4))]) (st' := [.int (Int32.ofNat (xLen L 1)), .int (nI 0)]) (h' := HN g hl (RF rt)) rfl ?_
    refine Ev.topI (show Int32.ofNat (xLen L 1) = nI 7 from rfl) ?_
    refine Ev.run 2 (pc' := 13) (lv' := [(3, .int (nI 0)), (2, .int (nI 2)), (0, .int (nI 2)), (1, .int (nI 4))]) (st' := [.int (nI 2)]) (h' := HN g hl (RF rt)) rfl ?_
    refine Ev.call (a := 120) (as := [.int (nI 2)]) (rest := []) (lv0 := [(0, .int (nI 2))]) (Q1 := (fun z0 h' => z0 = some (.int (nI 1)) ∧ h' = HN g hl (RF rt))) rfl rfl (K_isKind _ _ _ _ 2 (by omega) ⟨rfl, rfl⟩) (fun r h' hr => ?_)
    obtain ⟨rfl, rfl⟩ := hr
    refine Ev.run 6 (pc' := 30) (lv' := [(3, .int (nI 0)), (2, .int (nI 2)), (0, .int (nI 2)), (1, .int (nI 4))]) (st' := [.int (nI 2), .retAddr 1]) (h' := HN g hl (RF rt)) rfl ?_
    refine Ev_xald rfl (by decide) (show 2 < 7 by omega) (show 7 < 2 ^ 31 by decide) ?_
    refine Ev.topI (show xVal xs 1 2 = nI 0 from rfl) ?_
    refine Ev.run 6 (pc' := 9) (lv' := [(3, .int (nI 1)), (2, .int (nI 0)), (0, .int (nI 2)), (1, .int (nI 4))]) (st' := [.int (Int32.ofNat (xLen L 1)), .int (nI 1)]) (h' := HN g hl (RF rt)) rfl ?_
    refine Ev.topI (show Int32.ofNat (xLen L 1) = nI 7 from rfl) ?_
    refine Ev.run 2 (pc' := 13) (lv' := [(3, .int (nI 1)), (2, .int (nI 0)), (0, .int (nI 2)), (1, .int (nI 4))]) (st' := [.int (nI 0)]) (h' := HN g hl (RF rt)) rfl ?_
    refine Ev.call (a := 120) (as := [.int (nI 0)]) (rest := []) (lv0 := [(0, .int (nI 0))]) (Q1 := (fun z0 h' => z0 = some (.int (nI 1)) ∧ h' = HN g hl (RF rt))) rfl rfl (K_isKind _ _ _ _ 0 (by omega) ⟨rfl, rfl⟩) (fun r h' hr => ?_)
    obtain ⟨rfl, rfl⟩ := hr
    refine Ev.run 6 (pc' := 30) (lv' := [(3, .int (nI 1)), (2, .int (nI 0)), (0, .int (nI 2)), (1, .int (nI 4))]) (st' := [.int (nI 0), .retAddr 1]) (h' := HN g hl (RF rt)) rfl ?_
    refine Ev_xald rfl (by decide) (show 0 < 7 by omega) (show 7 < 2 ^ 31 by decide) ?_
    refine Ev.topI (show xVal xs 1 0 = nI 4294967295 from rfl) ?_
    refine Ev.run 6 (pc' := 9) (lv' := [(3, .int (nI 2)), (2, .int (nI 4294967295)), (0, .int (nI 2)), (1, .int (nI 4))]) (st' := [.int (Int32.ofNat (xLen L 1)), .int (nI 2)]) (h' := HN g hl (RF rt)) rfl ?_
    refine Ev.topI (show Int32.ofNat (xLen L 1) = nI 7 from rfl) ?_
    refine Ev.run 2 (pc' := 13) (lv' := [(3, .int (nI 2)), (2, .int (nI 4294967295)), (0, .int (nI 2)), (1, .int (nI 4))]) (st' := [.int (nI 4294967295)]) (h' := HN g hl (RF rt)) rfl ?_
    refine Ev.call (a := 120) (as := [.int (nI 4294967295)]) (rest := []) (lv0 := [(0, .int (nI 4294967295))]) (Q1 := (fun z0 h' => z0 = some (.int (nI 0)) ∧ h' = HN g hl (RF rt))) rfl rfl (K_isKind _ _ _ _ 4294967295 (by omega) ⟨rfl, rfl⟩) (fun r h' hr => ?_)
    obtain ⟨rfl, rfl⟩ := hr
    refine Ev.run 2 (pc' := 39) (lv' := [(3, .int (nI 2)), (2, .int (nI 4294967295)), (0, .int (nI 2)), (1, .int (nI 4))]) (st' := [.int (nI 0)]) (h' := HN g hl (RF rt)) rfl ?_
    refine Ev.ret (v := some (.int (nI 0))) rfl ?_
    exact hq
  · refine Ev.run 7 (pc' := 9) (lv' := [(3, .int (nI 0)), (2, .int (nI 2)), (0, .int (nI 2)), (1, .int (nI 5))]) (st' := [.int (Int32.ofNat (xLen L 1)), .int (nI 0)]) (h' := HN g hl (RF rt)) rfl ?_
    refine Ev.topI (show Int32.ofNat (xLen L 1) = nI 7 from rfl) ?_
    refine Ev.run 2 (pc' := 13) (lv' := [(3, .int (nI 0)), (2, .int (nI 2)), (0, .int (nI 2)), (1, .int (nI 5))]) (st' := [.int (nI 2)]) (h' := HN g hl (RF rt)) rfl ?_
    refine Ev.call (a := 120) (as := [.int (nI 2)]) (rest := []) (lv0 := [(0, .int (nI 2))]) (Q1 := (fun z0 h' => z0 = some (.int (nI 1)) ∧ h' = HN g hl (RF rt))) rfl rfl (K_isKind _ _ _ _ 2 (by omega) ⟨rfl, rfl⟩) (fun r h' hr => ?_)
    obtain ⟨rfl, rfl⟩ := hr
    refine Ev.run 6 (pc' := 30) (lv' := [(3, .int (nI 0)), (2, .int (nI 2)), (0, .int (nI 2)), (1, .int (nI 5))]) (st' := [.int (nI 2), .retAddr 1]) (h' := HN g hl (RF rt)) rfl ?_
    refine Ev_xald rfl (by decide) (show 2 < 7 by omega) (show 7 < 2 ^ 31 by decide) ?_
    refine Ev.topI (show xVal xs 1 2 = nI 0 from rfl) ?_
    refine Ev.run 6 (pc' := 9) (lv' := [(3, .int (nI 1)), (2, .int (nI 0)), (0, .int (nI 2)), (1, .int (nI 5))]) (st' := [.int (Int32.ofNat (xLen L 1)), .int (nI 1)]) (h' := HN g hl (RF rt)) rfl ?_
    refine Ev.topI (show Int32.ofNat (xLen L 1) = nI 7 from rfl) ?_
    refine Ev.run 2 (pc' := 13) (lv' := [(3, .int (nI 1)), (2, .int (nI 0)), (0, .int (nI 2)), (1, .int (nI 5))]) (st' := [.int (nI 0)]) (h' := HN g hl (RF rt)) rfl ?_
    refine Ev.call (a := 120) (as := [.int (nI 0)]) (rest := []) (lv0 := [(0, .int (nI 0))]) (Q1 := (fun z0 h' => z0 = some (.int (nI 1)) ∧ h' = HN g hl (RF rt))) rfl rfl (K_isKind _ _ _ _ 0 (by omega) ⟨rfl, rfl⟩) (fun r h' hr => ?_)
    obtain ⟨rfl, rfl⟩ := hr
    refine Ev.run 6 (pc' := 30) (lv' := [(3, .int (nI 1)), (2, .int (nI 0)), (0, .int (nI 2)), (1, .int (nI 5))]) (st' := [.int (nI 0), .retAddr 1]) (h' := HN g hl (RF rt)) rfl ?_
    refine Ev_xald rfl (by decide) (show 0 < 7 by omega) (show 7 < 2 ^ 31 by decide) ?_
    refine Ev.topI (show xVal xs 1 0 = nI 4294967295 from rfl) ?_
    refine Ev.run 6 (pc' := 9) (lv' := [(3, .int (nI 2)), (2, .int (nI 4294967295)), (0, .int (nI 2)), (1, .int (nI 5))]) (st' := [.int (Int32.ofNat (xLen L 1)), .int (nI 2)]) (h' := HN g hl (RF rt)) rfl ?_
    refine Ev.topI (show Int32.ofNat (xLen L 1) = nI 7 from rfl) ?_
    refine Ev.run 2 (pc' := 13) (lv' := [(3, .int (nI 2)), (2, .int (nI 4294967295)), (0, .int (nI 2)), (1, .int (nI 5))]) (st' := [.int (nI 4294967295)]) (h' := HN g hl (RF rt)) rfl ?_
    refine Ev.call (a := 120) (as := [.int (nI 4294967295)]) (rest := []) (lv0 := [(0, .int (nI 4294967295))]) (Q1 := (fun z0 h' => z0 = some (.int (nI 0)) ∧ h' = HN g hl (RF rt))) rfl rfl (K_isKind _ _ _ _ 4294967295 (by omega) ⟨rfl, rfl⟩) (fun r h' hr => ?_)
    obtain ⟨rfl, rfl⟩ := hr
    refine Ev.run 2 (pc' := 39) (lv' := [(3, .int (nI 2)), (2, .int (nI 4294967295)), (0, .int (nI 2)), (1, .int (nI 5))]) (st' := [.int (nI 0)]) (h' := HN g hl (RF rt)) rfl ?_
    refine Ev.ret (v := some (.int (nI 0))) rfl ?_
    exact hq
  · refine Ev.run 7 (pc' := 9) (lv' := [(3, .int (nI 0)), (2, .int (nI 2)), (0, .int (nI 2)), (1, .int (nI 6))]) (st' := [.int (Int32.ofNat (xLen L 1)), .int (nI 0)]) (h' := HN g hl (RF rt)) rfl ?_
    refine Ev.topI (show Int32.ofNat (xLen L 1) = nI 7 from rfl) ?_
    refine Ev.run 2 (pc' := 13) (lv' := [(3, .int (nI 0)), (2, .int (nI 2)), (0, .int (nI 2)), (1, .int (nI 6))]) (st' := [.int (nI 2)]) (h' := HN g hl (RF rt)) rfl ?_
    refine Ev.call (a := 120) (as := [.int (nI 2)]) (rest := []) (lv0 := [(0, .int (nI 2))]) (Q1 := (fun z0 h' => z0 = some (.int (nI 1)) ∧ h' = HN g hl (RF rt))) rfl rfl (K_isKind _ _ _ _ 2 (by omega) ⟨rfl, rfl⟩) (fun r h' hr => ?_)
    obtain ⟨rfl, rfl⟩ := hr
    refine Ev.run 6 (pc' := 30) (lv' := [(3, .int (nI 0)), (2, .int (nI 2)), (0, .int (nI 2)), (1, .int (nI 6))]) (st' := [.int (nI 2), .retAddr 1]) (h' := HN g hl (RF rt)) rfl ?_
    refine Ev_xald rfl (by decide) (show 2 < 7 by omega) (show 7 < 2 ^ 31 by decide) ?_
    refine Ev.topI (show xVal xs 1 2 = nI 0 from rfl) ?_
    refine Ev.run 6 (pc' := 9) (lv' := [(3, .int (nI 1)), (2, .int (nI 0)), (0, .int (nI 2)), (1, .int (nI 6))]) (st' := [.int (Int32.ofNat (xLen L 1)), .int (nI 1)]) (h' := HN g hl (RF rt)) rfl ?_
    refine Ev.topI (show Int32.ofNat (xLen L 1) = nI 7 from rfl) ?_
    refine Ev.run 2 (pc' := 13) (lv' := [(3, .int (nI 1)), (2, .int (nI 0)), (0, .int (nI 2)), (1, .int (nI 6))]) (st' := [.int (nI 0)]) (h' := HN g hl (RF rt)) rfl ?_
    refine Ev.call (a := 120) (as := [.int (nI 0)]) (rest := []) (lv0 := [(0, .int (nI 0))]) (Q1 := (fun z0 h' => z0 = some (.int (nI 1)) ∧ h' = HN g hl (RF rt))) rfl rfl (K_isKind _ _ _ _ 0 (by omega) ⟨rfl, rfl⟩) (fun r h' hr => ?_)
    obtain ⟨rfl, rfl⟩ := hr
    refine Ev.run 6 (pc' := 30) (lv' := [(3, .int (nI 1)), (2, .int (nI 0)), (0, .int (nI 2)), (1, .int (nI 6))]) (st' := [.int (nI 0), .retAddr 1]) (h' := HN g hl (RF rt)) rfl ?_
    refine Ev_xald rfl (by decide) (show 0 < 7 by omega) (show 7 < 2 ^ 31 by decide) ?_
    refine Ev.topI (show xVal xs 1 0 = nI 4294967295 from rfl) ?_
    refine Ev.run 6 (pc' := 9) (lv' := [(3, .int (nI 2)), (2, .int (nI 4294967295)), (0, .int (nI 2)), (1, .int (nI 6))]) (st' := [.int (Int32.ofNat (xLen L 1)), .int (nI 2)]) (h' := HN g hl (RF rt)) rfl ?_
    refine Ev.topI (show Int32.ofNat (xLen L 1) = nI 7 from rfl) ?_
    refine Ev.run 2 (pc' := 13) (lv' := [(3, .int (nI 2)), (2, .int (nI 4294967295)), (0, .int (nI 2)), (1, .int (nI 6))]) (st' := [.int (nI 4294967295)]) (h' := HN g hl (RF rt)) rfl ?_
    refine Ev.call (a := 120) (as := [.int (nI 4294967295)]) (rest := []) (lv0 := [(0, .int (nI 4294967295))]) (Q1 := (fun z0 h' => z0 = some (.int (nI 0)) ∧ h' = HN g hl (RF rt))) rfl rfl (K_isKind _ _ _ _ 4294967295 (by omega) ⟨rfl, rfl⟩) (fun r h' hr => ?_)
    obtain ⟨rfl, rfl⟩ := hr
    refine Ev.run 2 (pc' := 39) (lv' := [(3, .int (nI 2)), (2, .int (nI 4294967295)), (0, .int (nI 2)), (1, .int (nI 6))]) (st' := [.int (nI 0)]) (h' := HN g hl (RF rt)) rfl ?_
    refine Ev.ret (v := some (.int (nI 0))) rfl ?_
    exact hq
  · refine Ev.run 7 (pc' := 9) (lv' := [(3, .int (nI 0)), (2, .int (nI 3)), (0, .int (nI 3)), (1, .int (nI 0))]) (st' := [.int (Int32.ofNat (xLen L 1)), .int (nI 0)]) (h' := HN g hl (RF rt)) rfl ?_
    refine Ev.topI (show Int32.ofNat (xLen L 1) = nI 7 from rfl) ?_
    refine Ev.run 2 (pc' := 13) (lv' := [(3, .int (nI 0)), (2, .int (nI 3)), (0, .int (nI 3)), (1, .int (nI 0))]) (st' := [.int (nI 3)]) (h' := HN g hl (RF rt)) rfl ?_
    refine Ev.call (a := 120) (as := [.int (nI 3)]) (rest := []) (lv0 := [(0, .int (nI 3))]) (Q1 := (fun z0 h' => z0 = some (.int (nI 1)) ∧ h' = HN g hl (RF rt))) rfl rfl (K_isKind _ _ _ _ 3 (by omega) ⟨rfl, rfl⟩) (fun r h' hr => ?_)
    obtain ⟨rfl, rfl⟩ := hr
    refine Ev.run 6 (pc' := 30) (lv' := [(3, .int (nI 0)), (2, .int (nI 3)), (0, .int (nI 3)), (1, .int (nI 0))]) (st' := [.int (nI 3), .retAddr 1]) (h' := HN g hl (RF rt)) rfl ?_
    refine Ev_xald rfl (by decide) (show 3 < 7 by omega) (show 7 < 2 ^ 31 by decide) ?_
    refine Ev.topI (show xVal xs 1 3 = nI 0 from rfl) ?_
    refine Ev.run 6 (pc' := 9) (lv' := [(3, .int (nI 1)), (2, .int (nI 0)), (0, .int (nI 3)), (1, .int (nI 0))]) (st' := [.int (Int32.ofNat (xLen L 1)), .int (nI 1)]) (h' := HN g hl (RF rt)) rfl ?_
    refine Ev.topI (show Int32.ofNat (xLen L 1) = nI 7 from rfl) ?_
    refine Ev.run 2 (pc' := 13) (lv' := [(3, .int (nI 1)), (2, .int (nI 0)), (0, .int (nI 3)), (1, .int (nI 0))]) (st' := [.int (nI 0)]) (h' := HN g hl (RF rt)) rfl ?_
    refine Ev.call (a := 120) (as := [.int (nI 0)]) (rest := []) (lv0 := [(0, .int (nI 0))]) (Q1 := (fun z0 h' => z0 = some (.int (nI 1)) ∧ h' = HN g hl (RF rt))) rfl rfl (K_isKind _ _ _ _ 0 (by omega) ⟨rfl, rfl⟩) (fun r h' hr => ?_)
    obtain ⟨rfl, rfl⟩ := hr
    refine Ev.run 5 (pc' := 25) (lv' := [(3, .int (nI 1)), (2, .int (nI 0)), (0, .int (nI 3)), (1, .int (nI 0))]) (st' := [.int (nI 1)]) (h' := HN g hl (RF rt)) rfl ?_
    refine Ev.ret (v := some (.int (nI 1))) rfl ?_
    exact hq
  · refine Ev.run 7 (pc' := 9) (lv' := [(3, .int (nI 0)), (2, .int (nI 3)), (0, .int (nI 3)), (1, .int (nI 1))]) (st' := [.int (Int32.ofNat (xLen L 1)), .int (nI 0)]) (h' := HN g hl (RF rt)) rfl ?_
    refine Ev.topI (show Int32.ofNat (xLen L 1) = nI 7 from rfl) ?_
    refine Ev.run 2 (pc' := 13) (lv' := [(3, .int (nI 0)), (2, .int (nI 3)), (0, .int (nI 3)), (1, .int (nI 1))]) (st' := [.int (nI 3)]) (h' := HN g hl (RF rt)) rfl ?_
    refine Ev.call (a := 120) (as := [.int (nI 3)]) (rest := []) (lv0 := [(0, .int (nI 3))]) (Q1 := (fun z0 h' => z0 = some (.int (nI 1)) ∧ h' = HN g hl (RF rt))) rfl rfl (K_isKind _ _ _ _ 3 (by omega) ⟨rfl, rfl⟩) (fun r h' hr => ?_)
    obtain ⟨rfl, rfl⟩ := hr
    refine Ev.run 6 (pc' := 30) (lv' := [(3, .int (nI 0)), (2, .int (nI 3)), (0, .int (nI 3)), (1, .int (nI 1))]) (st' := [.int (nI 3), .retAddr 1]) (h' := HN g hl (RF rt)) rfl ?_
    refine Ev_xald rfl (by decide) (show 3 < 7 by omega) (show 7 < 2 ^ 31 by decide) ?_
    refine Ev.topI (show xVal xs 1 3 = nI 0 from rfl) ?_
    refine Ev.run 6 (pc' := 9) (lv' := [(3, .int (nI 1)), (2, .int (nI 0)), (0, .int (nI 3)), (1, .int (nI 1))]) (st' := [.int (Int32.ofNat (xLen L 1)), .int (nI 1)]) (h' := HN g hl (RF rt)) rfl ?_
    refine Ev.topI (show Int32.ofNat (xLen L 1) = nI 7 from rfl) ?_
    refine Ev.run 2 (pc' := 13) (lv' := [(3, .int (nI 1)), (2, .int (nI 0)), (0, .int (nI 3)), (1, .int (nI 1))]) (st' := [.int (nI 0)]) (h' := HN g hl (RF rt)) rfl ?_
    refine Ev.call (a := 120) (as := [.int (nI 0)]) (rest := []) (lv0 := [(0, .int (nI 0))]) (Q1 := (fun z0 h' => z0 = some (.int (nI 1)) ∧ h' = HN g hl (RF rt))) rfl rfl (K_isKind _ _ _ _ 0 (by omega) ⟨rfl, rfl⟩) (fun r h' hr => ?_)
    obtain ⟨rfl, rfl⟩ := hr
    refine Ev.run 6 (pc' := 30) (lv' := [(3, .int (nI 1)), (2, .int (nI 0)), (0, .int (nI 3)), (1, .int (nI 1))]) (st' := [.int (nI 0), .retAddr 1]) (h' := HN g hl (RF rt)) rfl ?_
    refine Ev_xald rfl (by decide) (show 0 < 7 by omega) (show 7 < 2 ^ 31 by decide) ?_
    refine Ev.topI (show xVal xs 1 0 = nI 4294967295 from rfl) ?_
    refine Ev.run 6 (pc' := 9) (lv' := [(3, .int (nI 2)), (2, .int (nI 4294967295)), (0, .int (nI 3)), (1, .int (nI 1))]) (st' := [.int (Int32.ofNat (xLen L 1)), .int (nI 2)]) (h' := HN g hl (RF rt)) rfl ?_
    refine Ev.topI (show Int32.ofNat (xLen L 1) = nI 7 from rfl) ?_
    refine Ev.run 2 (pc' := 13) (lv' := [(3, .int (nI 2)), (2, .int (nI 4294967295)), (0, .int (nI 3)), (1, .int (nI 1))]) (st' := [.int (nI 4294967295)]) (h' := HN g hl (RF rt)) rfl ?_
    refine Ev.call (a := 120) (as := [.int (nI 4294967295)]) (rest := []) (lv0 := [(0, .int (nI 4294967295))]) (Q1 := (fun z0 h' => z0 = some (.int (nI 0)) ∧ h' = HN g hl (RF rt))) rfl rfl (K_isKind _ _ _ _ 4294967295 (by omega) ⟨rfl, rfl⟩) (fun r h' hr => ?_)
    obtain ⟨rfl, rfl⟩ := hr
    refine Ev.run 2 (pc' := 39) (lv' := [(3, .int (nI 2)), (2, .int (nI 4294967295)), (0, .int (nI 3)), (1, .int (nI 1))]) (st' := [.int (nI 0)]) (h' := HN g hl (RF rt)) rfl ?_
    refine Ev.ret (v := some (.int (nI 0))) rfl ?_
    exact hq
  · refine Ev.run 7 (pc' := 9) (lv' := [(3, .int (nI 0)), (2, .int (nI 3)), (0, .int (nI 3)), (1, .int (nI 2))]) (st' := [.int (Int32.ofNat (xLen L 1)), .int (nI 0)]) (h' := HN g hl (RF rt)) rfl ?_
    refine Ev.topI (show Int32.ofNat (xLen L 1) = nI 7 from rfl) ?_
    refine Ev.run 2 (pc' := 13) (lv' := [(3, .int (nI 0)), (2, .int (nI 3)), (0, .int (nI 3)), (1, .int (nI 2))]) (st' := [.int (nI 3)]) (h' := HN g hl (RF rt)) rfl ?_
    refine Ev.call (a := 120) (as := [.int (nI 3)]) (rest := []) (lv0 := [(0, .int (nI 3))]) (Q1 := (fun z0 h' => z0 = some (.int (nI 1)) ∧ h' = HN g hl (RF rt))) rfl rfl (K_isKind _ _ _ _ 3 (by omega) ⟨rfl, rfl⟩) (fun r h' hr => ?_)
    obtain ⟨rfl, rfl⟩ := hr
    refine Ev.run 6 (pc' := 30) (lv' := [(3, .int (nI 0)), (2, .int (nI 3)), (0, .int (nI 3)), (1, .int (nI 2))]) (st' := [.int (nI 3), .retAddr 1]) (h' := HN g hl (RF rt)) rfl ?_
    refine Ev_xald rfl (by decide) (show 3 < 7 by omega) (show 7 < 2 ^ 31 by decide) ?_
    refine Ev.topI (show xVal xs 1 3 = nI 0 from rfl) ?_
    refine Ev.run 6 (pc' := 9) (lv' := [(3, .int (nI 1)), (2, .int (nI 0)), (0, .int (nI 3)), (1, .int (nI 2))]) (st' := [.int (Int32.ofNat (xLen L 1)), .int (nI 1)]) (h' := HN g hl (RF rt)) rfl ?_
    refine Ev.topI (show Int32.ofNat (xLen L 1) = nI 7 from rfl) ?_
    refine Ev.run 2 (pc' := 13) (lv' := [(3, .int (nI 1)), (2, .int (nI 0)), (0, .int (nI 3)), (1, .int (nI 2))]) (st' := [.int (nI 0)]) (h' := HN g hl (RF rt)) rfl ?_
    refine Ev.call (a := 120) (as := [.int (nI 0)]) (rest := []) (lv0 := [(0, .int (nI 0))]) (Q1 := (fun z0 h' => z0 = some (.int (nI 1)) ∧ h' = HN g hl (RF rt))) rfl rfl (K_isKind _ _ _ _ 0 (by omega) ⟨rfl, rfl⟩) (fun r h' hr => ?_)
    obtain ⟨rfl, rfl⟩ := hr
    refine Ev.run 6 (pc' := 30) (lv' := [(3, .int (nI 1)), (2, .int (nI 0)), (0, .int (nI 3)), (1, .int (nI 2))]) (st' := [.int (nI 0), .retAddr 1]) (h' := HN g hl (RF rt)) rfl ?_
    refine Ev_xald rfl (by decide) (show 0 < 7 by omega) (show 7 < 2 ^ 31 by decide) ?_
    refine Ev.topI (show xVal xs 1 0 = nI 4294967295 from rfl) ?_
    refine Ev.run 6 (pc' := 9) (lv' := [(3, .int (nI 2)), (2, .int (nI 4294967295)), (0, .int (nI 3)), (1, .int (nI 2))]) (st' := [.int (Int32.ofNat (xLen L 1)), .int (nI 2)]) (h' := HN g hl (RF rt)) rfl ?_
    refine Ev.topI (show Int32.ofNat (xLen L 1) = nI 7 from rfl) ?_
    refine Ev.run 2 (pc' := 13) (lv' := [(3, .int (nI 2)), (2, .int (nI 4294967295)), (0, .int (nI 3)), (1, .int (nI 2))]) (st' := [.int (nI 4294967295)]) (h' := HN g hl (RF rt)) rfl ?_
    refine Ev.call (a := 120) (as := [.int (nI 4294967295)]) (rest := []) (lv0 := [(0, .int (nI 4294967295))]) (Q1 := (fun z0 h' => z0 = some (.int (nI 0)) ∧ h' = HN g hl (RF rt))) rfl rfl (K_isKind _ _ _ _ 4294967295 (by omega) ⟨rfl, rfl⟩) (fun r h' hr => ?_)
    obtain ⟨rfl, rfl⟩ := hr
    refine Ev.run 2 (pc' := 39) (lv' := [(3, .int (nI 2)), (2, .int (nI 4294967295)), (0, .int (nI 3)), (1, .int (nI 2))]) (st' := [.int (nI 0)]) (h' := HN g hl (RF rt)) rfl ?_
    refine Ev.ret (v := some (.int (nI 0))) rfl ?_
    exact hq
  · refine Ev.run 7 (pc' := 9) (lv' := [(3, .int (nI 0)), (2, .int (nI 3)), (0, .int (nI 3)), (1, .int (nI 3))]) (st' := [.int (Int32.ofNat (xLen L 1)), .int (nI 0)]) (h' := HN g hl (RF rt)) rfl ?_
    refine Ev.topI (show Int32.ofNat (xLen L 1) = nI 7 from rfl) ?_
    refine Ev.run 2 (pc' := 13) (lv' := [(3, .int (nI 0)), (2, .int (nI 3)), (0, .int (nI 3)), (1, .int (nI 3))]) (st' := [.int (nI 3)]) (h' := HN g hl (RF rt)) rfl ?_
    refine Ev.call (a := 120) (as := [.int (nI 3)]) (rest := []) (lv0 := [(0, .int (nI 3))]) (Q1 := (fun z0 h' => z0 = some (.int (nI 1)) ∧ h' = HN g hl (RF rt))) rfl rfl (K_isKind _ _ _ _ 3 (by omega) ⟨rfl, rfl⟩) (fun r h' hr => ?_)
    obtain ⟨rfl, rfl⟩ := hr
    refine Ev.run 5 (pc' := 25) (lv' := [(3, .int (nI 0)), (2, .int (nI 3)), (0, .int (nI 3)), (1, .int (nI 3))]) (st' := [.int (nI 1)]) (h' := HN g hl (RF rt)) rfl ?_
    refine Ev.ret (v := some (.int (nI 1))) rfl ?_
    exact hq
  · refine Ev.run 7 (pc' := 9) (lv' := [(3, .int (nI 0)), (2, .int (nI 3)), (0, .int (nI 3)), (1, .int (nI 4))]) (st' := [.int (Int32.ofNat (xLen L 1)), .int (nI 0)]) (h' := HN g hl (RF rt)) rfl ?_
    refine Ev.topI (show Int32.ofNat (xLen L 1) = nI 7 from rfl) ?_
    refine Ev.run 2 (pc' := 13) (lv' := [(3, .int (nI 0)), (2, .int (nI 3)), (0, .int (nI 3)), (1, .int (nI 4))]) (st' := [.int (nI 3)]) (h' := HN g hl (RF rt)) rfl ?_
    refine Ev.call (a := 120) (as := [.int (nI 3)]) (rest := []) (lv0 := [(0, .int (nI 3))]) (Q1 := (fun z0 h' => z0 = some (.int (nI 1)) ∧ h' = HN g hl (RF rt))) rfl rfl (K_isKind _ _ _ _ 3 (by omega) ⟨rfl, rfl⟩) (fun r h' hr => ?_)
    obtain ⟨rfl, rfl⟩ := hr
    refine Ev.run 6 (pc' := 30) (lv' := [(3, .int (nI 0)), (2, .int (nI 3)), (0, .int (nI 3)), (1, .int (nI 4))]) (st' := [.int (nI 3), .retAddr 1]) (h' := HN g hl (RF rt)) rfl ?_
    refine Ev_xald rfl (by decide) (show 3 < 7 by omega) (show 7 < 2 ^ 31 by decide) ?_
    refine Ev.topI (show xVal xs 1 3 = nI 0 from rfl) ?_
    refine Ev.run 6 (pc' := 9) (lv' := [(3, .int (nI 1)), (2, .int (nI 0)), (0, .int (nI 3)), (1, .int (nI 4))]) (st' := [.int (Int32.ofNat (xLen L 1)), .int (nI 1)]) (h' := HN g hl (RF rt)) rfl ?_
    refine Ev.topI (show Int32.ofNat (xLen L 1) = nI 7 from rfl) ?_
    refine Ev.run 2 (pc' := 13) (lv' := [(3, .int (nI 1)), (2, .int (nI 0)), (0, .int (nI 3)), (1, .int (nI 4))]) (st' := [.int (nI 0)]) (h' := HN g hl (RF rt)) rfl ?_
    refine Ev.call (a := 120) (as := [.int (nI 0)]) (rest := []) (lv0 := [(0, .int (nI 0))]) (Q1 := (fun z0 h' => z0 = some (.int (nI 1)) ∧ h' = HN g hl (RF rt))) rfl rfl (K_isKind _ _ _ _ 0 (by omega) ⟨rfl, rfl⟩) (fun r h' hr => ?_)
    obtain ⟨rfl, rfl⟩ := hr
    refine Ev.run 6 (pc' := 30) (lv' := [(3, .int (nI 1)), (2, .int (nI 0)), (0, .int (nI 3)), (1, .int (nI 4))]) (st' := [.int (nI 0), .retAddr 1]) (h' := HN g hl (RF rt)) rfl ?_
    refine Ev_xald rfl (by decide) (show 0 < 7 by omega) (show 7 < 2 ^ 31 by decide) ?_
    refine Ev.topI (show xVal xs 1 0 = nI 4294967295 from rfl) ?_
    refine Ev.run 6 (pc' := 9) (lv' := [(3, .int (nI 2)), (2, .int (nI 4294967295)), (0, .int (nI 3)), (1, .int (nI 4))]) (st' := [.int (Int32.ofNat (xLen L 1)), .int (nI 2)]) (h' := HN g hl (RF rt)) rfl ?_
    refine Ev.topI (show Int32.ofNat (xLen L 1) = nI 7 from rfl) ?_
    refine Ev.run 2 (pc' := 13) (lv' := [(3, .int (nI 2)), (2, .int (nI 4294967295)), (0, .int (nI 3)), (1, .int (nI 4))]) (st' := [.int (nI 4294967295)]) (h' := HN g hl (RF rt)) rfl ?_
    refine Ev.call (a := 120) (as := [.int (nI 4294967295)]) (rest := []) (lv0 := [(0, .int (nI 4294967295))]) (Q1 := (fun z0 h' => z0 = some (.int (nI 0)) ∧ h' = HN g hl (RF rt))) rfl rfl (K_isKind _ _ _ _ 4294967295 (by omega) ⟨rfl, rfl⟩) (fun r h' hr => ?_)
    obtain ⟨rfl, rfl⟩ := hr
    refine Ev.run 2 (pc' := 39) (lv' := [(3, .int (nI 2)), (2, .int (nI 4294967295)), (0, .int (nI 3)), (1, .int (nI 4))]) (st' := [.int (nI 0)]) (h' := HN g hl (RF rt)) rfl ?_
    refine Ev.ret (v := some (.int (nI 0))) rfl ?_
    exact hq
  · refine Ev.run 7 (pc' := 9) (lv' := [(3, .int (nI 0)), (2, .int (nI 3)), (0, .int (nI 3)), (1, .int (nI 5))]) (st' := [.int (Int32.ofNat (xLen L 1)), .int (nI 0)]) (h' := HN g hl (RF rt)) rfl ?_
    refine Ev.topI (show Int32.ofNat (xLen L 1) = nI 7 from rfl) ?_
    refine Ev.run 2 (pc' := 13) (lv' := [(3, .int (nI 0)), (2, .int (nI 3)), (0, .int (nI 3)), (1, .int (nI 5))]) (st' := [.int (nI 3)]) (h' := HN g hl (RF rt)) rfl ?_
    refine Ev.call (a := 120) (as := [.int (nI 3)]) (rest := []) (lv0 := [(0, .int (nI 3))]) (Q1 := (fun z0 h' => z0 = some (.int (nI 1)) ∧ h' = HN g hl (RF rt))) rfl rfl (K_isKind _ _ _ _ 3 (by omega) ⟨rfl, rfl⟩) (fun r h' hr => ?_)
    obtain ⟨rfl, rfl⟩ := hr
    refine Ev.run 6 (pc' := 30) (lv' := [(3, .int (nI 0)), (2, .int (nI 3)), (0, .int (nI 3)), (1, .int (nI 5))]) (st' := [.int (nI 3), .retAddr 1]) (h' := HN g hl (RF rt)) rfl ?_
    refine Ev_xald rfl (by decide) (show 3 < 7 by omega) (show 7 < 2 ^ 31 by decide) ?_
    refine Ev.topI (show xVal xs 1 3 = nI 0 from rfl) ?_
    refine Ev.run 6 (pc' := 9) (lv' := [(3, .int (nI 1)), (2, .int (nI 0)), (0, .int (nI 3)), (1, .int (nI 5))]) (st' := [.int (Int32.ofNat (xLen L 1)), .int (nI 1)]) (h' := HN g hl (RF rt)) rfl ?_
    refine Ev.topI (show Int32.ofNat (xLen L 1) = nI 7 from rfl) ?_
    refine Ev.run 2 (pc' := 13) (lv' := [(3, .int (nI 1)), (2, .int (nI 0)), (0, .int (nI 3)), (1, .int (nI 5))]) (st' := [.int (nI 0)]) (h' := HN g hl (RF rt)) rfl ?_
    refine Ev.call (a := 120) (as := [.int (nI 0)]) (rest := []) (lv0 := [(0, .int (nI 0))]) (Q1 := (fun z0 h' => z0 = some (.int (nI 1)) ∧ h' = HN g hl (RF rt))) rfl rfl (K_isKind _ _ _ _ 0 (by omega) ⟨rfl, rfl⟩) (fun r h' hr => ?_)
    obtain ⟨rfl, rfl⟩ := hr
    refine Ev.run 6 (pc' := 30) (lv' := [(3, .int (nI 1)), (2, .int (nI 0)), (0, .int (nI 3)), (1, .int (nI 5))]) (st' := [.int (nI 0), .retAddr 1]) (h' := HN g hl (RF rt)) rfl ?_
    refine Ev_xald rfl (by decide) (show 0 < 7 by omega) (show 7 < 2 ^ 31 by decide) ?_
    refine Ev.topI (show xVal xs 1 0 = nI 4294967295 from rfl) ?_
    refine Ev.run 6 (pc' := 9) (lv' := [(3, .int (nI 2)), (2, .int (nI 4294967295)), (0, .int (nI 3)), (1, .int (nI 5))]) (st' := [.int (Int32.ofNat (xLen L 1)), .int (nI 2)]) (h' := HN g hl (RF rt)) rfl ?_
    refine Ev.topI (show Int32.ofNat (xLen L 1) = nI 7 from rfl) ?_
    refine Ev.run 2 (pc' := 13) (lv' := [(3, .int (nI 2)), (2, .int (nI 4294967295)), (0, .int (nI 3)), (1, .int (nI 5))]) (st' := [.int (nI 4294967295)]) (h' := HN g hl (RF rt)) rfl ?_
    refine Ev.call (a := 120) (as := [.int (nI 4294967295)]) (rest := []) (lv0 := [(0, .int (nI 4294967295))]) (Q1 := (fun z0 h' => z0 = some (.int (nI 0)) ∧ h' = HN g hl (RF rt))) rfl rfl (K_isKind _ _ _ _ 4294967295 (by omega) ⟨rfl, rfl⟩) (fun r h' hr => ?_)
    obtain ⟨rfl, rfl⟩ := hr
    refine Ev.run 2 (pc' := 39) (lv' := [(3, .int (nI 2)), (2, .int (nI 4294967295)), (0, .int (nI 3)), (1, .int (nI 5))]) (st' := [.int (nI 0)]) (h' := HN g hl (RF rt)) rfl ?_
    refine Ev.ret (v := some (.int (nI 0))) rfl ?_
    exact hq
  · refine Ev.run 7 (pc' := 9) (lv' := [(3, .int (nI 0)), (2, .int (nI 3)), (0, .int (nI 3)), (1, .int (nI 6))]) (st' := [.int (Int32.ofNat (xLen L 1)), .int (nI 0)]) (h' := HN g hl (RF rt)) rfl ?_
    refine Ev.topI (show Int32.ofNat (xLen L 1) = nI 7 from rfl) ?_
    refine Ev.run 2 (pc' := 13) (lv' := [(3, .int (nI 0)), (2, .int (nI 3)), (0, .int (nI 3)), (1, .int (nI 6))]) (st' := [.int (nI 3)]) (h' := HN g hl (RF rt)) rfl ?_
    refine Ev.call (a := 120) (as := [.int (nI 3)]) (rest := []) (lv0 := [(0, .int (nI 3))]) (Q1 := (fun z0 h' => z0 = some (.int (nI 1)) ∧ h' = HN g hl (RF rt))) rfl rfl (K_isKind _ _ _ _ 3 (by omega) ⟨rfl, rfl⟩) (fun r h' hr => ?_)
    obtain ⟨rfl, rfl⟩ := hr
    refine Ev.run 6 (pc' := 30) (lv' := [(3, .int (nI 0)), (2, .int (nI 3)), (0, .int (nI 3)), (1, .int (nI 6))]) (st' := [.int (nI 3), .retAddr 1]) (h' := HN g hl (RF rt)) rfl ?_
    refine Ev_xald rfl (by decide) (show 3 < 7 by omega) (show 7 < 2 ^ 31 by decide) ?_
    refine Ev.topI (show xVal xs 1 3 = nI 0 from rfl) ?_
    refine Ev.run 6 (pc' := 9) (lv' := [(3, .int (nI 1)), (2, .int (nI 0)), (0, .int (nI 3)), (1, .int (nI 6))]) (st' := [.int (Int32.ofNat (xLen L 1)), .int (nI 1)]) (h' := HN g hl (RF rt)) rfl ?_
    refine Ev.topI (show Int32.ofNat (xLen L 1) = nI 7 from rfl) ?_
    refine Ev.run 2 (pc' := 13) (lv' := [(3, .int (nI 1)), (2, .int (nI 0)), (0, .int (nI 3)), (1, .int (nI 6))]) (st' := [.int (nI 0)]) (h' := HN g hl (RF rt)) rfl ?_
    refine Ev.call (a := 120) (as := [.int (nI 0)]) (rest := []) (lv0 := [(0, .int (nI 0))]) (Q1 := (fun z0 h' => z0 = some (.int (nI 1)) ∧ h' = HN g hl (RF rt))) rfl rfl (K_isKind _ _ _ _ 0 (by omega) ⟨rfl, rfl⟩) (fun r h' hr => ?_)
    obtain ⟨rfl, rfl⟩ := hr
    refine Ev.run 6 (pc' := 30) (lv' := [(3, .int (nI 1)), (2, .int (nI 0)), (0, .int (nI 3)), (1, .int (nI 6))]) (st' := [.int (nI 0), .retAddr 1]) (h' := HN g hl (RF rt)) rfl ?_
    refine Ev_xald rfl (by decide) (show 0 < 7 by omega) (show 7 < 2 ^ 31 by decide) ?_
    refine Ev.topI (show xVal xs 1 0 = nI 4294967295 from rfl) ?_
    refine Ev.run 6 (pc' := 9) (lv' := [(3, .int (nI 2)), (2, .int (nI 4294967295)), (0, .int (nI 3)), (1, .int (nI 6))]) (st' := [.int (Int32.ofNat (xLen L 1)), .int (nI 2)]) (h' := HN g hl (RF rt)) rfl ?_
    refine Ev.topI (show Int32.ofNat (xLen L 1) = nI 7 from rfl) ?_
    refine Ev.run 2 (pc' := 13) (lv' := [(3, .int (nI 2)), (2, .int (nI 4294967295)), (0, .int (nI 3)), (1, .int (nI 6))]) (st' := [.int (nI 4294967295)]) (h' := HN g hl (RF rt)) rfl ?_
    refine Ev.call (a := 120) (as := [.int (nI 4294967295)]) (rest := []) (lv0 := [(0, .int (nI 4294967295))]) (Q1 := (fun z0 h' => z0 = some (.int (nI 0)) ∧ h' = HN g hl (RF rt))) rfl rfl (K_isKind _ _ _ _ 4294967295 (by omega) ⟨rfl, rfl⟩) (fun r h' hr => ?_)
    obtain ⟨rfl, rfl⟩ := hr
    refine Ev.run 2 (pc' := 39) (lv' := [(3, .int (nI 2)), (2, .int (nI 4294967295)), (0, .int (nI 3)), (1, .int (nI 6))]) (st' := [.int (nI 0)]) (h' := HN g hl (RF rt)) rfl ?_
    refine Ev.ret (v := some (.int (nI 0))) rfl ?_
    exact hq
  · refine Ev.run 7 (pc' := 9) (lv' := [(3, .int (nI 0)), (2, .int (nI 4)), (0, .int (nI 4)), (1, .int (nI 0))]) (st' := [.int (Int32.ofNat (xLen L 1)), .int (nI 0)]) (h' := HN g hl (RF rt)) rfl ?_
    refine Ev.topI (show Int32.ofNat (xLen L 1) = nI 7 from rfl) ?_
    refine Ev.run 2 (pc' := 13) (lv' := [(3, .int (nI 0)), (2, .int (nI 4)), (0, .int (nI 4)), (1, .int (nI 0))]) (st' := [.int (nI 4)]) (h' := HN g hl (RF rt)) rfl ?_
    refine Ev.call (a := 120) (as := [.int (nI 4)]) (rest := []) (lv0 := [(0, .int (nI 4))]) (Q1 := (fun z0 h' => z0 = some (.int (nI 1)) ∧ h' = HN g hl (RF rt))) rfl rfl (K_isKind _ _ _ _ 4 (by omega) ⟨rfl, rfl⟩) (fun r h' hr => ?_)
    obtain ⟨rfl, rfl⟩ := hr
    refine Ev.run 6 (pc' := 30) (lv' := [(3, .int (nI 0)), (2, .int (nI 4)), (0, .int (nI 4)), (1, .int (nI 0))]) (st' := [.int (nI 4), .retAddr 1]) (h' := HN g hl (RF rt)) rfl ?_
    refine Ev_xald rfl (by decide) (show 4 < 7 by omega) (show 7 < 2 ^ 31 by decide) ?_
    refine Ev.topI (show xVal xs 1 4 = nI 1 from rfl) ?_
    refine Ev.run 6 (pc' := 9) (lv' := [(3, .int (nI 1)), (2, .int (nI 1)), (0, .int (nI 4)), (1, .int (nI 0))]) (st' := [.int (Int32.ofNat (xLen L 1)), .int (nI 1)]) (h' := HN g hl (RF rt)) rfl ?_
    refine Ev.topI (show Int32.ofNat (xLen L 1) = nI 7 from rfl) ?_
    refine Ev.run 2 (pc' := 13) (lv' := [(3, .int (nI 1)), (2, .int (nI 1)), (0, .int (nI 4)), (1, .int (nI 0))]) (st' := [.int (nI 1)]) (h' := HN g hl (RF rt)) rfl ?_
    refine Ev.call (a := 120) (as := [.int (nI 1)]) (rest := []) (lv0 := [(0, .int (nI 1))]) (Q1 := (fun z0 h' => z0 = some (.int (nI 1)) ∧ h' = HN g hl (RF rt))) rfl rfl (K_isKind _ _ _ _ 1 (by omega) ⟨rfl, rfl⟩) (fun r h' hr => ?_)
    obtain ⟨rfl, rfl⟩ := hr
    refine Ev.run 6 (pc' := 30) (lv' := [(3, .int (nI 1)), (2, .int (nI 1)), (0, .int (nI 4)), (1, .int (nI 0))]) (st' := [.int (nI 1), .retAddr 1]) (h' := HN g hl (RF rt)) rfl ?_
    refine Ev_xald rfl (by decide) (show 1 < 7 by omega) (show 7 < 2 ^ 31 by decide) ?_
    refine Ev.topI (show xVal xs 1 1 = nI 0 from rfl) ?_
    refine Ev.run 6 (pc' := 9) (lv' := [(3, .int (nI 2)), (2, .int (nI 0)), (0, .int (nI 4)), (1, .int (nI 0))]) (st' := [.int (Int32.ofNat (xLen L 1)), .int (nI 2)]) (h' := HN g hl (RF rt)) rfl ?_
    refine Ev.topI (show Int32.ofNat (xLen L 1) = nI 7 from rfl) ?_
    refine Ev.run 2 (pc' := 13) (lv' := [(3, .int (nI 2)), (2, .int (nI 0)), (0, .int (nI 4)), (1, .int (nI 0))]) (st' := [.int (nI 0)]) (h' := HN g hl (RF rt)) rfl ?_
    refine Ev.call (a := 120) (as := [.int (nI 0)]) (rest := []) (lv0 := [(0, .int (nI 0))]) (Q1 := (fun z0 h' => z0 = some (.int (nI 1)) ∧ h' = HN g hl (RF rt))) rfl rfl (K_isKind _ _ _ _ 0 (by omega) ⟨rfl, rfl⟩) (fun r h' hr => ?_)
    obtain ⟨rfl, rfl⟩ := hr
    refine Ev.run 5 (pc' := 25) (lv' := [(3, .int (nI 2)), (2, .int (nI 0)), (0, .int (nI 4)), (1, .int (nI 0))]) (st' := [.int (nI 1)]) (h' := HN g hl (RF rt)) rfl ?_
    refine Ev.ret (v := some (.int (nI 1))) rfl ?_
    exact hq
  · refine Ev.run 7 (pc' := 9) (lv' := [(3, .int (nI 0)), (2, .int (nI 4)), (0, .int (nI 4)), (1, .int (nI 1))]) (st' := [.int (Int32.ofNat (xLen L 1)), .int (nI 0)]) (h' := HN g hl (RF rt)) rfl ?_
    refine Ev.topI (show Int32.ofNat (xLen L 1) = nI 7 from rfl) ?_
    refine Ev.run 2 (pc' := 13) (lv' := [(3, .int (nI 0)), (2, .int (nI 4)), (0, .int (nI 4)), (1, .int (nI 1))]) (st' := [.int (nI 4)]) (h' := HN g hl (RF rt)) rfl ?_
    refine Ev.call (a := 120) (as := [.int (nI 4)]) (rest := []) (lv0 := [(0, .int (nI 4))]) (Q1 := (fun z0 h' => z0 = some (.int (nI 1)) ∧ h' = HN g hl (RF rt))) rfl rfl (K_isKind _ _ _ _ 4 (by omega) ⟨rfl, rfl⟩) (fun r h' hr => ?_)
    obtain ⟨rfl, rfl⟩ := hr
    refine Ev.run 6 (pc' := 30) (lv' := [(3, .int (nI 0)), (2, .int (nI 4)), (0, .int (nI 4)), (1, .int (nI 1))]) (st' := [.int (nI 4), .retAddr 1]) (h' := HN g hl (RF rt)) rfl ?_
    refine Ev_xald rfl (by decide) (show 4 < 7 by omega) (show 7 < 2 ^ 31 by decide) ?_
    refine Ev.topI (show xVal xs 1 4 = nI 1 from rfl) ?_
    refine Ev.run 6 (pc' := 9) (lv' := [(3, .int (nI 1)), (2, .int (nI 1)), (0, .int (nI 4)), (1, .int (nI 1))]) (st' := [.int (Int32.ofNat (xLen L 1)), .int (nI 1)]) (h' := HN g hl (RF rt)) rfl ?_
    refine Ev.topI (show Int32.ofNat (xLen L 1) = nI 7 from rfl) ?_
    refine Ev.run 2 (pc' := 13) (lv' := [(3, .int (nI 1)), (2, .int (nI 1)), (0, .int (nI 4)), (1, .int (nI 1))]) (st' := [.int (nI 1)]) (h' := HN g hl (RF rt)) rfl ?_
    refine Ev.call (a := 120) (as := [.int (nI 1)]) (rest := []) (lv0 := [(0, .int (nI 1))]) (Q1 := (fun z0 h' => z0 = some (.int (nI 1)) ∧ h' = HN g hl (RF rt))) rfl rfl (K_isKind _ _ _ _ 1 (by omega) ⟨rfl, rfl⟩) (fun r h' hr => ?_)
    obtain ⟨rfl, rfl⟩ := hr
    refine Ev.run 5 (pc' := 25) (lv' := [(3, .int (nI 1)), (2, .int (nI 1)), (0, .int (nI 4)), (1, .int (nI 1))]) (st' := [.int (nI 1)]) (h' := HN g hl (RF rt)) rfl ?_
    refine Ev.ret (v := some (.int (nI 1))) rfl ?_
    exact hq
  · refine Ev.run 7 (pc' := 9) (lv' := [(3, .int (nI 0)), (2, .int (nI 4)), (0, .int (nI 4)), (1, .int (nI 2))]) (st' := [.int (Int32.ofNat (xLen L 1)), .int (nI 0)]) (h' := HN g hl (RF rt)) rfl ?_
    refine Ev.topI (show Int32.ofNat (xLen L 1) = nI 7 from rfl) ?_
    refine Ev.run 2 (pc' := 13) (lv' := [(3, .int (nI 0)), (2, .int (nI 4)), (0, .int (nI 4)), (1, .int (nI 2))]) (st' := [.int (nI 4)]) (h' := HN g hl (RF rt)) rfl ?_
    refine Ev.call (a := 120) (as := [.int (nI 4)]) (rest := []) (lv0 := [(0, .int (nI 4))]) (Q1 := (fun z0 h' => z0 = some (.int (nI 1)) ∧ h' = HN g hl (RF rt))) rfl rfl (K_isKind _ _ _ _ 4 (by omega) ⟨rfl, rfl⟩) (fun r h' hr => ?_)
    obtain ⟨rfl, rfl⟩ := hr
    refine Ev.run 6 (pc' := 30) (lv' := [(3, .int (nI 0)), (2, .int (nI 4)), (0, .int (nI 4)), (1, .int (nI 2))]) (st' := [.int (nI 4), .retAddr 1]) (h' := HN g hl (RF rt)) rfl ?_
    refine Ev_xald rfl (by decide) (show 4 < 7 by omega) (show 7 < 2 ^ 31 by decide) ?_
    refine Ev.topI (show xVal xs 1 4 = nI 1 from rfl) ?_
    refine Ev.run 6 (pc' := 9) (lv' := [(3, .int (nI 1)), (2, .int (nI 1)), (0, .int (nI 4)), (1, .int (nI 2))]) (st' := [.int (Int32.ofNat (xLen L 1)), .int (nI 1)]) (h' := HN g hl (RF rt)) rfl ?_
    refine Ev.topI (show Int32.ofNat (xLen L 1) = nI 7 from rfl) ?_
    refine Ev.run 2 (pc' := 13) (lv' := [(3, .int (nI 1)), (2, .int (nI 1)), (0, .int (nI 4)), (1, .int (nI 2))]) (st' := [.int (nI 1)]) (h' := HN g hl (RF rt)) rfl ?_
    refine Ev.call (a := 120) (as := [.int (nI 1)]) (rest := []) (lv0 := [(0, .int (nI 1))]) (Q1 := (fun z0 h' => z0 = some (.int (nI 1)) ∧ h' = HN g hl (RF rt))) rfl rfl (K_isKind _ _ _ _ 1 (by omega) ⟨rfl, rfl⟩) (fun r h' hr => ?_)
    obtain ⟨rfl, rfl⟩ := hr
    refine Ev.run 6 (pc' := 30) (lv' := [(3, .int (nI 1)), (2, .int (nI 1)), (0, .int (nI 4)), (1, .int (nI 2))]) (st' := [.int (nI 1), .retAddr 1]) (h' := HN g hl (RF rt)) rfl ?_
    refine Ev_xald rfl (by decide) (show 1 < 7 by omega) (show 7 < 2 ^ 31 by decide) ?_
    refine Ev.topI (show xVal xs 1 1 = nI 0 from rfl) ?_
    refine Ev.run 6 (pc' := 9) (lv' := [(3, .int (nI 2)), (2, .int (nI 0)), (0, .int (nI 4)), (1, .int (nI 2))]) (st' := [.int (Int32.ofNat (xLen L 1)), .int (nI 2)]) (h' := HN g hl (RF rt)) rfl ?_
    refine Ev.topI (show Int32.ofNat (xLen L 1) = nI 7 from rfl) ?_
    refine Ev.run 2 (pc' := 13) (lv' := [(3, .int (nI 2)), (2, .int (nI 0)), (0, .int (nI 4)), (1, .int (nI 2))]) (st' := [.int (nI 0)]) (h' := HN g hl (RF rt)) rfl ?_
    refine Ev.call (a := 120) (as := [.int (nI 0)]) (rest := []) (lv0 := [(0, .int (nI 0))]) (Q1 := (fun z0 h' => z0 = some (.int (nI 1)) ∧ h' = HN g hl (RF rt))) rfl rfl (K_isKind _ _ _ _ 0 (by omega) ⟨rfl, rfl⟩) (fun r h' hr => ?_)
    obtain ⟨rfl, rfl⟩ := hr
    refine Ev.run 6 (pc' := 30) (lv' := [(3, .int (nI 2)), (2, .int (nI 0)), (0, .int (nI 4)), (1, .int (nI 2))]) (st' := [.int (nI 0), .retAddr 1]) (h' := HN g hl (RF rt)) rfl ?_
    refine Ev_xald rfl (by decide) (show 0 < 7 by omega) (show 7 < 2 ^ 31 by decide) ?_
    refine Ev.topI (show xVal xs 1 0 = nI 4294967295 from rfl) ?_
    refine Ev.run 6 (pc' := 9) (lv' := [(3, .int (nI 3)), (2, .int (nI 4294967295)), (0, .int (nI 4)), (1, .int (nI 2))]) (st' := [.int (Int32.ofNat (xLen L 1)), .int (nI 3)]) (h' := HN g hl (RF rt)) rfl ?_
    refine Ev.topI (show Int32.ofNat (xLen L 1) = nI 7 from rfl) ?_
    refine Ev.run 2 (pc' := 13) (lv' := [(3, .int (nI 3)), (2, .int (nI 4294967295)), (0, .int (nI 4)), (1, .int (nI 2))]) (st' := [.int (nI 4294967295)]) (h' := HN g hl (RF rt)) rfl ?_
    refine Ev.call (a := 120) (as := [.int (nI 4294967295)]) (rest := []) (lv0 := [(0, .int (nI 4294967295))]) (Q1 := (fun z0 h' => z0 = some (.int (nI 0)) ∧ h' = HN g hl (RF rt))) rfl rfl (K_isKind _ _ _ _ 4294967295 (by omega) ⟨rfl, rfl⟩) (fun r h' hr => ?_)
    obtain ⟨rfl, rfl⟩ := hr
    refine Ev.run 2 (pc' := 39) (lv' := [(3, .int (nI 3)), (2, .int (nI 4294967295)), (0, .int (nI 4)), (1, .int (nI 2))]) (st' := [.int (nI 0)]) (h' := HN g hl (RF rt)) rfl ?_
    refine Ev.ret (v := some (.int (nI 0))) rfl ?_
    exact hq
  · refine Ev.run 7 (pc' := 9) (lv' := [(3, .int (nI 0)), (2, .int (nI 4)), (0, .int (nI 4)), (1, .int (nI 3))]) (st' := [.int (Int32.ofNat (xLen L 1)), .int (nI 0)]) (h' := HN g hl (RF rt)) rfl ?_
    refine Ev.topI (show Int32.ofNat (xLen L 1) = nI 7 from rfl) ?_
    refine Ev.run 2 (pc' := 13) (lv' := [(3, .int (nI 0)), (2, .int (nI 4)), (0, .int (nI 4)), (1, .int (nI 3))]) (st' := [.int (nI 4)]) (h' := HN g hl (RF rt)) rfl ?_
    refine Ev.call (a := 120) (as := [.int (nI 4)]) (rest := []) (lv0 := [(0, .int (nI 4))]) (Q1 := (fun z0 h' => z0 = some (.int (nI 1)) ∧ h' = HN g hl (RF rt))) rfl rfl (K_isKind _ _ _ _ 4 (by omega) ⟨rfl, rfl⟩) (fun r h' hr => ?_)
    obtain ⟨rfl, rfl⟩ := hr
    refine Ev.run 6 (pc' := 30) (lv' := [(3, .int (nI 0)), (2, .int (nI 4)), (0, .int (nI 4)), (1, .int (nI 3))]) (st' := [.int (nI 4), .retAddr 1]) (h' := HN g hl (RF rt)) rfl ?_
    refine Ev_xald rfl (by decide) (show 4 < 7 by omega) (show 7 < 2 ^ 31 by decide) ?_
    refine Ev.topI (show xVal xs 1 4 = nI 1 from rfl) ?_
    refine Ev.run 6 (pc' := 9) (lv' := [(3, .int (nI 1)), (2, .int (nI 1)), (0, .int (nI 4)), (1, .int (nI 3))]) (st' := [.int (Int32.ofNat (xLen L 1)), .int (nI 1)]) (h' := HN g hl (RF rt)) rfl ?_
    refine Ev.topI (show Int32.ofNat (xLen L 1) = nI 7 from rfl) ?_
    refine Ev.run 2 (pc' := 13) (lv' := [(3, .int (nI 1)), (2, .int (nI 1)), (0, .int (nI 4)), (1, .int (nI 3))]) (st' := [.int (nI 1)]) (h' := HN g hl (RF rt)) rfl ?_
    refine Ev.call (a := 120) (as := [.int (nI 1)]) (rest := []) (lv0 := [(0, .int (nI 1))]) (Q1 := (fun z0 h' => z0 = some (.int (nI 1)) ∧ h' = HN g hl (RF rt))) rfl rfl (K_isKind _ _ _ _ 1 (by omega) ⟨rfl, rfl⟩) (fun r h' hr => ?_)
    obtain ⟨rfl, rfl⟩ := hr
    refine Ev.run 6 (pc' := 30) (lv' := [(3, .int (nI 1)), (2, .int (nI 1)), (0, .int (nI 4)), (1, .int (nI 3))]) (st' := [.int (nI 1), .retAddr 1]) (h' := HN g hl (RF rt)) rfl ?_
    refine Ev_xald rfl (by decide) (show 1 < 7 by omega) (show 7 < 2 ^ 31 by decide) ?_
    refine Ev.topI (show xVal xs 1 1 = nI 0 from rfl) ?_
    refine Ev.run 6 (pc' := 9) (lv' := [(3, .int (nI 2)), (2, .int (nI 0)), (0, .int (nI 4)), (1, .int (nI 3))]) (st' := [.int (Int32.ofNat (xLen L 1)), .int (nI 2)]) (h' := HN g hl (RF rt)) rfl ?_
    refine Ev.topI (show Int32.ofNat (xLen L 1) = nI 7 from rfl) ?_
    refine Ev.run 2 (pc' := 13) (lv' := [(3, .int (nI 2)), (2, .int (nI 0)), (0, .int (nI 4)), (1, .int (nI 3))]) (st' := [.int (nI 0)]) (h' := HN g hl (RF rt)) rfl ?_
    refine Ev.call (a := 120) (as := [.int (nI 0)]) (rest := []) (lv0 := [(0, .int (nI 0))]) (Q1 := (fun z0 h' => z0 = some (.int (nI 1)) ∧ h' = HN g hl (RF rt))) rfl rfl (K_isKind _ _ _ _ 0 (by omega) ⟨rfl, rfl⟩) (fun r h' hr => ?_)
    obtain ⟨rfl, rfl⟩ := hr
    refine Ev.run 6 (pc' := 30) (lv' := [(3, .int (nI 2)), (2, .int (nI 0)), (0, .int (nI 4)), (1, .int (nI 3))]) (st' := [.int (nI 0), .retAddr 1]) (h' := HN g hl (RF rt)) rfl ?_
    refine Ev_xald rfl (by decide) (show 0 < 7 by omega) (show 7 < 2 ^ 31 by decide) ?_
    refine Ev.topI (show xVal xs 1 0 = nI 4294967295 from rfl) ?_
    refine Ev.run 6 (pc' := 9) (lv' := [(3, .int (nI 3)), (2, .int (nI 4294967295)), (0, .int (nI 4)), (1, .int (nI 3))]) (st' := [.int (Int32.ofNat (xLen L 1)), .int (nI 3)]) (h' := HN g hl (RF rt)) rfl ?_
    refine Ev.topI (show Int32.ofNat (xLen L 1) = nI 7 from rfl) ?_
    refine Ev.run 2 (pc' := 13) (lv' := [(3, .int (nI 3)), (2, .int (nI 4294967295)), (0, .int (nI 4)), (1, .int (nI 3))]) (st' := [.int (nI 4294967295)]) (h' := HN g hl (RF rt)) rfl ?_
    refine Ev.call (a := 120) (as := [.int (nI 4294967295)]) (rest := []) (lv0 := [(0, .int (nI 4294967295))]) (Q1 := (fun z0 h' => z0 = some (.int (nI 0)) ∧ h' = HN g hl (RF rt))) rfl rfl (K_isKind _ _ _ _ 4294967295 (by omega) ⟨rfl, rfl⟩) (fun r h' hr => ?_)
    obtain ⟨rfl, rfl⟩ := hr
    refine Ev.run 2 (pc' := 39) (lv' := [(3, .int (nI 3)), (2, .int (nI 4294967295)), (0, .int (nI 4)), (1, .int (nI 3))]) (st' := [.int (nI 0)]) (h' := HN g hl (RF rt)) rfl ?_
    refine Ev.ret (v := some (.int (nI 0))) rfl ?_
    exact hq
  · refine Ev.run 7 (pc' := 9) (lv' := [(3, .int (nI 0)), (2, .int (nI 4)), (0, .int (nI 4)), (1, .int (nI 4))]) (st' := [.int (Int32.ofNat (xLen L 1)), .int (nI 0)]) (h' := HN g hl (RF rt)) rfl ?_
    refine Ev.topI (show Int32.ofNat (xLen L 1) = nI 7 from rfl) ?_
    refine Ev.run 2 (pc' := 13) (lv' := [(3, .int (nI 0)), (2, .int (nI 4)), (0, .int (nI 4)), (1, .int (nI 4))]) (st' := [.int (nI 4)]) (h' := HN g hl (RF rt)) rfl ?_
    refine Ev.call (a := 120) (as := [.int (nI 4)]) (rest := []) (lv0 := [(0, .int (nI 4))]) (Q1 := (fun z0 h' => z0 = some (.int (nI 1)) ∧ h' = HN g hl (RF rt))) rfl rfl (K_isKind _ _ _ _ 4 (by omega) ⟨rfl, rfl⟩) (fun r h' hr => ?_)
    obtain ⟨rfl, rfl⟩ := hr
    refine Ev.run 5 (pc' := 25) (lv' := [(3, .int (nI 0)), (2, .int (nI 4)), (0, .int (nI 4)), (1, .int (nI 4))]) (st' := [.int (nI 1)]) (h' := HN g hl (RF rt)) rfl ?_
    refine Ev.ret (v := some (.int (nI 1))) rfl ?_
    exact hq
  · refine Ev.run 7 (pc' := 9) (lv' := [(3, .int (nI 0)), (2, .int (nI 4)), (0, .int (nI 4)), (1, .int (nI 5))]) (st' := [.int (Int32.ofNat (xLen L 1)), .int (nI 0)]) (h' := HN g hl (RF rt)) rfl ?_
    refine Ev.topI (show Int32.ofNat (xLen L 1) = nI 7 from rfl) ?_
    refine Ev.run 2 (pc' := 13) (lv' := [(3, .int (nI 0)), (2, .int (nI 4)), (0, .int (nI 4)), (1, .int (nI 5))]) (st' := [.int (nI 4)]) (h' := HN g hl (RF rt)) rfl ?_
    refine Ev.call (a := 120) (as := [.int (nI 4)]) (rest := []) (lv0 := [(0, .int (nI 4))]) (Q1 := (fun z0 h' => z0 = some (.int (nI 1)) ∧ h' = HN g hl (RF rt))) rfl rfl (K_isKind _ _ _ _ 4 (by omega) ⟨rfl, rfl⟩) (fun r h' hr => ?_)
    obtain ⟨rfl, rfl⟩ := hr
    refine Ev.run 6 (pc' := 30) (lv' := [(3, .int (nI 0)), (2, .int (nI 4)), (0, .int (nI 4)), (1, .int (nI 5))]) (st' := [.int (nI 4), .retAddr 1]) (h' := HN g hl (RF rt)) rfl ?_
    refine Ev_xald rfl (by decide) (show 4 < 7 by omega) (show 7 < 2 ^ 31 by decide) ?_
    refine Ev.topI (show xVal xs 1 4 = nI 1 from rfl) ?_
    refine Ev.run 6 (pc' := 9) (lv' := [(3, .int (nI 1)), (2, .int (nI 1)), (0, .int (nI 4)), (1, .int (nI 5))]) (st' := [.int (Int32.ofNat (xLen L 1)), .int (nI 1)]) (h' := HN g hl (RF rt)) rfl ?_
    refine Ev.topI (show Int32.ofNat (xLen L 1) = nI 7 from rfl) ?_
    refine Ev.run 2 (pc' := 13) (lv' := [(3, .int (nI 1)), (2, .int (nI 1)), (0, .int (nI 4)), (1, .int (nI 5))]) (st' := [.int (nI 1)]) (h' := HN g hl (RF rt)) rfl ?_
    refine Ev.call (a := 120) (as := [.int (nI 1)]) (rest := []) (lv0 := [(0, .int (nI 1))]) (Q1 := (fun z0 h' => z0 = some (.int (nI 1)) ∧ h' = HN g hl (RF rt))) rfl rfl (K_isKind _ _ _ _ 1 (by omega) ⟨rfl, rfl⟩) (fun r h' hr => ?_)
    obtain ⟨rfl, rfl⟩ := hr
    refine Ev.run 6 (pc' := 30) (lv' := [(3, .int (nI 1)), (2, .int (nI 1)), (0, .int (nI 4)), (1, .int (nI 5))]) (st' := [.int (nI 1), .retAddr 1]) (h' := HN g hl (RF rt)) rfl ?_
    refine Ev_xald rfl (by decide) (show 1 < 7 by omega) (show 7 < 2 ^ 31 by decide) ?_
    refine Ev.topI (show xVal xs 1 1 = nI 0 from rfl) ?_
    refine Ev.run 6 (pc' := 9) (lv' := [(3, .int (nI 2)), (2, .int (nI 0)), (0, .int (nI 4)), (1, .int (nI 5))]) (st' := [.int (Int32.ofNat (xLen L 1)), .int (nI 2)]) (h' := HN g hl (RF rt)) rfl ?_
    refine Ev.topI (show Int32.ofNat (xLen L 1) = nI 7 from rfl) ?_
    refine Ev.run 2 (pc' := 13) (lv' := [(3, .int (nI 2)), (2, .int (nI 0)), (0, .int (nI 4)), (1, .int (nI 5))]) (st' := [.int (nI 0)]) (h' := HN g hl (RF rt)) rfl ?_
    refine Ev.call (a := 120) (as := [.int (nI 0)]) (rest := []) (lv0 := [(0, .int (nI 0))]) (Q1 := (fun z0 h' => z0 = some (.int (nI 1)) ∧ h' = HN g hl (RF rt))) rfl rfl (K_isKind _ _ _ _ 0 (by omega) ⟨rfl, rfl⟩) (fun r h' hr => ?_)
    obtain ⟨rfl, rfl⟩ := hr
    refine Ev.run 6 (pc' := 30) (lv' := [(3, .int (nI 2)), (2, .int (nI 0)), (0, .int (nI 4)), (1, .int (nI 5))]) (st' := [.int (nI 0), .retAddr 1]) (h' := HN g hl (RF rt)) rfl ?_
    refine Ev_xald rfl (by decide) (show 0 < 7 by omega) (show 7 < 2 ^ 31 by decide) ?_
    refine Ev.topI (show xVal xs 1 0 = nI 4294967295 from rfl) ?_
    refine Ev.run 6 (pc' := 9) (lv' := [(3, .int (nI 3)), (2, .int (nI 4294967295)), (0, .int (nI 4)), (1, .int (nI 5))]) (st' := [.int (Int32.ofNat (xLen L 1)), .int (nI 3)]) (h' := HN g hl (RF rt)) rfl ?_
    refine Ev.topI (show Int32.ofNat (xLen L 1) = nI 7 from rfl) ?_
    refine Ev.run 2 (pc' := 13) (lv' := [(3, .int (nI 3)), (2, .int (nI 4294967295)), (0, .int (nI 4)), (1, .int (nI 5))]) (st' := [.int (nI 4294967295)]) (h' := HN g hl (RF rt)) rfl ?_
    refine Ev.call (a := 120) (as := [.int (nI 4294967295)]) (rest := []) (lv0 := [(0, .int (nI 4294967295))]) (Q1 := (fun z0 h' => z0 = some (.int (nI 0)) ∧ h' = HN g hl (RF rt))) rfl rfl (K_isKind _ _ _ _ 4294967295 (by omega) ⟨rfl, rfl⟩) (fun r h' hr => ?_)
    obtain ⟨rfl, rfl⟩ := hr
    refine Ev.run 2 (pc' := 39) (lv' := [(3, .int (nI 3)), (2, .int (nI 4294967295)), (0, .int (nI 4)), (1, .int (nI 5))]) (st' := [.int (nI 0)]) (h' := HN g hl (RF rt)) rfl ?_
    refine Ev.ret (v := some (.int (nI 0))) rfl ?_
    exact hq
  · refine Ev.run 7 (pc' := 9) (lv' := [(3, .int (nI 0)), (2, .int (nI 4)), (0, .int (nI 4)), (1, .int (nI 6))]) (st' := [.int (Int32.ofNat (xLen L 1)), .int (nI 0)]) (h' := HN g hl (RF rt)) rfl ?_
    refine Ev.topI (show Int32.ofNat (xLen L 1) = nI 7 from rfl) ?_
    refine Ev.run 2 (pc' := 13) (lv' := [(3, .int (nI 0)), (2, .int (nI 4)), (0, .int (nI 4)), (1, .int (nI 6))]) (st' := [.int (nI 4)]) (h' := HN g hl (RF rt)) rfl ?_
    refine Ev.call (a := 120) (as := [.int (nI 4)]) (rest := []) (lv0 := [(0, .int (nI 4))]) (Q1 := (fun z0 h' => z0 = some (.int (nI 1)) ∧ h' = HN g hl (RF rt))) rfl rfl (K_isKind _ _ _ _ 4 (by omega) ⟨rfl, rfl⟩) (fun r h' hr => ?_)
    obtain ⟨rfl, rfl⟩ := hr
    refine Ev.run 6 (pc' := 30) (lv' := [(3, .int (nI 0)), (2, .int (nI 4)), (0, .int (nI 4)), (1, .int (nI 6))]) (st' := [.int (nI 4), .retAddr 1]) (h' := HN g hl (RF rt)) rfl ?_
    refine Ev_xald rfl (by decide) (show 4 < 7 by omega) (show 7 < 2 ^ 31 by decide) ?_
    refine Ev.topI (show xVal xs 1 4 = nI 1 from rfl) ?_
    refine Ev.run 6 (pc' := 9) (lv' := [(3, .int (nI 1)), (2, .int (nI 1)), (0, .int (nI 4)), (1, .int (nI 6))]) (st' := [.int (Int32.ofNat (xLen L 1)), .int (nI 1)]) (h' := HN g hl (RF rt)) rfl ?_
    refine Ev.topI (show Int32.ofNat (xLen L 1) = nI 7 from rfl) ?_
    refine Ev.run 2 (pc' := 13) (lv' := [(3, .int (nI 1)), (2, .int (nI 1)), (0, .int (nI 4)), (1, .int (nI 6))]) (st' := [.int (nI 1)]) (h' := HN g hl (RF rt)) rfl ?_
    refine Ev.call (a := 120) (as := [.int (nI 1)]) (rest := []) (lv0 := [(0, .int (nI 1))]) (Q1 := (fun z0 h' => z0 = some (.int (nI 1)) ∧ h' = HN g hl (RF rt))) rfl rfl (K_isKind _ _ _ _ 1 (by omega) ⟨rfl, rfl⟩) (fun r h' hr => ?_)
    obtain ⟨rfl, rfl⟩ := hr
    refine Ev.run 6 (pc' := 30) (lv' := [(3, .int (nI 1)), (2, .int (nI 1)), (0, .int (nI 4)), (1, .int (nI 6))]) (st' := [.int (nI 1), .retAddr 1]) (h' := HN g hl (RF rt)) rfl ?_
    refine Ev_xald rfl (by decide) (show 1 < 7 by omega) (show 7 < 2 ^ 31 by decide) ?_
    refine Ev.topI (show xVal xs 1 1 = nI 0 from rfl) ?_
    refine Ev.run 6 (pc' := 9) (lv' := [(3, .int (nI 2)), (2, .int (nI 0)), (0, .int (nI 4)), (1, .int (nI 6))]) (st' := [.int (Int32.ofNat (xLen L 1)), .int (nI 2)]) (h' := HN g hl (RF rt)) rfl ?_
    refine Ev.topI (show Int32.ofNat (xLen L 1) = nI 7 from rfl) ?_
    refine Ev.run 2 (pc' := 13) (lv' := [(3, .int (nI 2)), (2, .int (nI 0)), (0, .int (nI 4)), (1, .int (nI 6))]) (st' := [.int (nI 0)]) (h' := HN g hl (RF rt)) rfl ?_
    refine Ev.call (a := 120) (as := [.int (nI 0)]) (rest := []) (lv0 := [(0, .int (nI 0))]) (Q1 := (fun z0 h' => z0 = some (.int (nI 1)) ∧ h' = HN g hl (RF rt))) rfl rfl (K_isKind _ _ _ _ 0 (by omega) ⟨rfl, rfl⟩) (fun r h' hr => ?_)
    obtain ⟨rfl, rfl⟩ := hr
    refine Ev.run 6 (pc' := 30) (lv' := [(3, .int (nI 2)), (2, .int (nI 0)), (0, .int (nI 4)), (1, .int (nI 6))]) (st' := [.int (nI 0), .retAddr 1]) (h' := HN g hl (RF rt)) rfl ?_
    refine Ev_xald rfl (by decide) (show 0 < 7 by omega) (show 7 < 2 ^ 31 by decide) ?_
    refine Ev.topI (show xVal xs 1 0 = nI 4294967295 from rfl) ?_
    refine Ev.run 6 (pc' := 9) (lv' := [(3, .int (nI 3)), (2, .int (nI 4294967295)), (0, .int (nI 4)), (1, .int (nI 6))]) (st' := [.int (Int32.ofNat (xLen L 1)), .int (nI 3)]) (h' := HN g hl (RF rt)) rfl ?_
    refine Ev.topI (show Int32.ofNat (xLen L 1) = nI 7 from rfl) ?_
    refine Ev.run 2 (pc' := 13) (lv' := [(3, .int (nI 3)), (2, .int (nI 4294967295)), (0, .int (nI 4)), (1, .int (nI 6))]) (st' := [.int (nI 4294967295)]) (h' := HN g hl (RF rt)) rfl ?_
    refine Ev.call (a := 120) (as := [.int (nI 4294967295)]) (rest := []) (lv0 := [(0, .int (nI 4294967295))]) (Q1 := (fun z0 h' => z0 = some (.int (nI 0)) ∧ h' = HN g hl (RF rt))) rfl rfl (K_isKind _ _ _ _ 4294967295 (by omega) ⟨rfl, rfl⟩) (fun r h' hr => ?_)
    obtain ⟨rfl, rfl⟩ := hr
    refine Ev.run 2 (pc' := 39) (lv' := [(3, .int (nI 3)), (2, .int (nI 4294967295)), (0, .int (nI 4)), (1, .int (nI 6))]) (st' := [.int (nI 0)]) (h' := HN g hl (RF rt)) rfl ?_
    refine Ev.ret (v := some (.int (nI 0))) rfl ?_
    exact hq
  · refine Ev.run 7 (pc' := 9) (lv' := [(3, .int (nI 0)), (2, .int (nI 5)), (0, .int (nI 5)), (1, .int (nI 0))]) (st' := [.int (Int32.ofNat (xLen L 1)), .int (nI 0)]) (h' := HN g hl (RF rt)) rfl ?_
    refine Ev.topI (show Int32.ofNat (xLen L 1) = nI 7 from rfl) ?_
    refine Ev.run 2 (pc' := 13) (lv' := [(3, .int (nI 0)), (2, .int (nI 5)), (0, .int (nI 5)), (1, .int (nI 0))]) (st' := [.int (nI 5)]) (h' := HN g hl (RF rt)) rfl ?_
    refine Ev.call (a := 120) (as := [.int (nI 5)]) (rest := []) (lv0 := [(0, .int (nI 5))]) (Q1 := (fun z0 h' => z0 = some (.int (nI 1)) ∧ h' = HN g hl (RF rt))) rfl rfl (K_isKind _ _ _ _ 5 (by omega) ⟨rfl, rfl⟩) (fun r h' hr => ?_)
    obtain ⟨rfl, rfl⟩ := hr
    refine Ev.run 6 (pc' := 30) (lv' := [(3, .int (nI 0)), (2, .int (nI 5)), (0, .int (nI 5)), (1, .int (nI 0))]) (st' := [.int (nI 5), .retAddr 1]) (h' := HN g hl (RF rt)) rfl ?_
    refine Ev_xald rfl (by decide) (show 5 < 7 by omega) (show 7 < 2 ^ 31 by decide) ?_
    refine Ev.topI (show xVal xs 1 5 = nI 2 from rfl) ?_
    refine Ev.run 6 (pc' := 9) (lv' := [(3, .int (nI 1)), (2, .int (nI 2)), (0, .int (nI 5)), (1, .int (nI 0))]) (st' := [.int (Int32.ofNat (xLen L 1)), .int (nI 1)]) (h' := HN g hl (RF rt)) rfl ?_
    refine Ev.topI (show Int32.ofNat (xLen L 1) = nI 7 from rfl) ?_
    refine Ev.run 2 (pc' := 13) (lv' := [(3, .int (nI 1)), (2, .int (nI 2)), (0, .int (nI 5)), (1, .int (nI 0))]) (st' := [.int (nI 2)]) (h' := HN g hl (RF rt)) rfl ?_
    refine Ev.call (a := 120) (as := [.int (nI 2)]) (rest := []) (lv0 := [(0, .int (nI 2))]) (Q1 := (fun z0 h' => z0 = some (.int (nI 1)) ∧ h' = HN g hl (RF rt))) rfl rfl (K_isKind _ _ _ _ 2 (by omega) ⟨rfl, rfl⟩) (fun r h' hr => ?_)
    obtain ⟨rfl, rfl⟩ := hr
    refine Ev.run 6 (pc' := 30) (lv' := [(3, .int (nI 1)), (2, .int (nI 2)), (0, .int (nI 5)), (1, .int (nI 0))]) (st' := [.int (nI 2), .retAddr 1]) (h' := HN g hl (RF rt)) rfl ?_
    refine Ev_xald rfl (by decide) (show 2 < 7 by omega) (show 7 < 2 ^ 31 by decide) ?_
    refine Ev.topI (show xVal xs 1 2 = nI 0 from rfl) ?_
    refine Ev.run 6 (pc' := 9) (lv' := [(3, .int (nI 2)), (2, .int (nI 0)), (0, .int (nI 5)), (1, .int (nI 0))]) (st' := [.int (Int32.ofNat (xLen L 1)), .int (nI 2)]) (h' := HN g hl (RF rt)) rfl ?_
    refine Ev.topI (show Int32.ofNat (xLen L 1) = nI 7 from rfl) ?_
    refine Ev.run 2 (pc' := 13) (lv' := [(3, .int (nI 2)), (2, .int (nI 0)), (0, .int (nI 5)), (1, .int (nI 0))]) (st' := [.int (nI 0)]) (h' := HN g hl (RF rt)) rfl ?_
    refine Ev.call (a := 120) (as := [.int (nI 0)]) (rest := []) (lv0 := [(0, .int (nI 0))]) (Q1 := (fun z0 h' => z0 = some (.int (nI 1)) ∧ h' = HN g hl (RF rt))) rfl rfl (K_isKind _ _ _ _ 0 (by omega) ⟨rfl, rfl⟩) (fun r h' hr => ?_)
    obtain ⟨rfl, rfl⟩ := hr
    refine Ev.run 5 (pc' := 25) (lv' := [(3, .int (nI 2)), (2, .int (nI 0)), (0, .int (nI 5)), (1, .int (nI 0))]) (st' := [.int (nI 1)]) (h' := HN g hl (RF rt)) rfl ?_
    refine Ev.ret (v := some (.int (nI 1))) rfl ?_
    exact hq
  · refine Ev.run 7 (pc' := 9) (lv' := [(3, .int (nI 0)), (2, .int (nI 5)), (0, .int (nI 5)), (1, .int (nI 1))]) (st' := [.int (Int32.ofNat (xLen L 1)), .int (nI 0)]) (h' := HN g hl (RF rt)) rfl ?_
    refine Ev.topI (show Int32.ofNat (xLen L 1) = nI 7 from rfl) ?_
    refine Ev.run 2 (pc' := 13) (lv' := [(3, .int (nI 0)), (2, .int (nI 5)), (0, .int (nI 5)), (1, .int (nI 1))]) (st' := [.int (nI 5)]) (h' := HN g hl (RF rt)) rfl ?_
    refine Ev.call (a := 120) (as := [.int (nI 5)]) (rest := []) (lv0 := [(0, .int (nI 5))]) (Q1 := (fun z0 h' => z0 = some (.int (nI 1)) ∧ h' = HN g hl (RF rt))) rfl rfl (K_isKind _ _ _ _ 5 (by omega) ⟨rfl, rfl⟩) (fun r h' hr => ?_)
    obtain ⟨rfl, rfl⟩ := hr
    refine Ev.run 6 (pc' := 30) (lv' := [(3, .int (nI 0)), (2, .int (nI 5)), (0, .int (nI 5)), (1, .int (nI 1))]) (st' := [.int (nI 5), .retAddr 1]) (h' := HN g hl (RF rt)) rfl ?_
    refine Ev_xald rfl (by decide) (show 5 < 7 by omega) (show 7 < 2 ^ 31 by decide) ?_
    refine Ev.topI (show xVal xs 1 5 = nI 2 from rfl) ?_
    refine Ev.run 6 (pc' := 9) (lv' := [(3, .int (nI 1)), (2, .int (nI 2)), (0, .int (nI 5)), (1, .int (nI 1))]) (st' := [.int (Int32.ofNat (xLen L 1)), .int (nI 1)]) (h' := HN g hl (RF rt)) rfl ?_
    refine Ev.topI (show Int32.ofNat (xLen L 1) = nI 7 from rfl) ?_
    refine Ev.run 2 (pc' := 13) (lv' := [(3, .int (nI 1)), (2, .int (nI 2)), (0, .int (nI 5)), (1, .int (nI 1))]) (st' := [.int (nI 2)]) (h' := HN g hl (RF rt)) rfl ?_
    refine Ev.call (a := 120) (as := [.int (nI 2)]) (rest := []) (lv0 := [(0, .int (nI 2))]) (Q1 := (fun z0 h' => z0 = some (.int (nI 1)) ∧ h' = HN g hl (RF rt))) rfl rfl (K_isKind _ _ _ _ 2 (by omega) ⟨rfl, rfl⟩) (fun r h' hr => ?_)
    obtain ⟨rfl, rfl⟩ := hr
    refine Ev.run 6 (pc' := 30) (lv' := [(3, .int (nI 1)), (2, .int (nI 2)), (0, .int (nI 5)), (1, .int (nI 1))]) (st' := [.int (nI 2), .retAddr 1]) (h' := HN g hl (RF rt)) rfl ?_
    refine Ev_xald rfl (by decide) (show 2 < 7 by omega) (show 7 < 2 ^ 31 by decide) ?_
    refine Ev.topI (show xVal xs 1 2 = nI 0 from rfl) ?_
    refine Ev.run 6 (pc' := 9) (lv' := [(3, .int (nI 2)), (2, .int (nI 0)), (0, .int (nI 5)), (1, .int (nI 1))]) (st' := [.int (Int32.ofNat (xLen L 1)), .int (nI 2)]) (h' := HN g hl (RF rt)) rfl ?_
    refine Ev.topI (show Int32.ofNat (xLen L 1) = nI 7 from rfl) ?_
    refine Ev.run 2 (pc' := 13) (lv' := [(3, .int (nI 2)), (2, .int (nI 0)), (0, .int (nI 5)), (1, .int (nI 1))]) (st' := [.int (nI 0)]) (h' := HN g hl (RF rt)) rfl ?_
    refine Ev.call (a := 120) (as := [.int (nI 0)]) (rest := []) (lv0 := [(0, .int (nI 0))]) (Q1 := (fun z0 h' => z0 = some (.int (nI 1)) ∧ h' = HN g hl (RF rt))) rfl rfl (K_isKind _ _ _ _ 0 (by omega) ⟨rfl, rfl⟩) (fun r h' hr => ?_)
    obtain ⟨rfl, rfl⟩ := hr
    refine Ev.run 6 (pc' := 30) (lv' := [(3, .int (nI 2)), (2, .int (nI 0)), (0, .int (nI 5)), (1, .int (nI 1))]) (st' := [.int (nI 0), .retAddr 1]) (h' := HN g hl (RF rt)) rfl ?_
    refine Ev_xald rfl (by decide) (show 0 < 7 by omega) (show 7 < 2 ^ 31 by decide) ?_
    refine Ev.topI (show xVal xs 1 0 = nI 4294967295 from rfl) ?_
    refine Ev.run 6 (pc' := 9) (lv' := [(3, .int (nI 3)), (2, .int (nI 4294967295)), (0, .int (nI 5)), (1, .int (nI 1))]) (st' := [.int (Int32.ofNat (xLen L 1)), .int (nI 3)]) (h' := HN g hl (RF rt)) rfl ?_
    refine Ev.topI (show Int32.ofNat (xLen L 1) = nI 7 from rfl) ?_
    refine Ev.run 2 (pc' := 13) (lv' := [(3, .int (nI 3)), (2, .int (nI 4294967295)), (0, .int (nI 5)), (1, .int (nI 1))]) (st' := [.int (nI 4294967295)]) (h' := HN g hl (RF rt)) rfl ?_
    refine Ev.call (a := 120) (as := [.int (nI 4294967295)]) (rest := []) (lv0 := [(0, .int (nI 4294967295))]) (Q1 := (fun z0 h' => z0 = some (.int (nI 0)) ∧ h' = HN g hl (RF rt))) rfl rfl (K_isKind _ _ _ _ 4294967295 (by omega) ⟨rfl, rfl⟩) (fun r h' hr => ?_)
    obtain ⟨rfl, rfl⟩ := hr
    refine Ev.run 2 (pc' := 39) (lv' := [(3, .int (nI 3)), (2, .int (nI 4294967295)), (0, .int (nI 5)), (1, .int (nI 1))]) (st' := [.int (nI 0)]) (h' := HN g hl (RF rt)) rfl ?_
    refine Ev.ret (v := some (.int (nI 0))) rfl ?_
    exact hq
  · refine Ev.run 7 (pc' := 9) (lv' := [(3, .int (nI 0)), (2, .int (nI 5)), (0, .int (nI 5)), (1, .int (nI 2))]) (st' := [.int (Int32.ofNat (xLen L 1)), .int (nI 0)]) (h' := HN g hl (RF rt)) rfl ?_
    refine Ev.topI (show Int32.ofNat (xLen L 1) = nI 7 from rfl) ?_
    refine Ev.run 2 (pc' := 13) (lv' := [(3, .int (nI 0)), (2, .int (nI 5)), (0, .int (nI 5)), (1, .int (nI 2))]) (st' := [.int (nI 5)]) (h' := HN g hl (RF rt)) rfl ?_
    refine Ev.call (a := 120) (as := [.int (nI 5)]) (rest := []) (lv0 := [(0, .int (nI 5))]) (Q1 := (fun z0 h' => z0 = some (.int (nI 1)) ∧ h' = HN g hl (RF rt))) rfl rfl (K_isKind _ _ _ _ 5 (by omega) ⟨rfl, rfl⟩) (fun r h' hr => ?_)
    obtain ⟨rfl, rfl⟩ := hr
    refine Ev.run 6 (pc' := 30) (lv' := [(3, .int (nI 0)), (2, .int (nI 5)), (0, .int (nI 5)), (1, .int (nI 2))]) (st' := [.int (nI 5), .retAddr 1]) (h' := HN g hl (RF rt)) rfl ?_
    refine Ev_xald rfl (by decide) (show 5 < 7 by omega) (show 7 < 2 ^ 31 by decide) ?_
    refine Ev.topI (show xVal xs 1 5 = nI 2 from rfl) ?_
    refine Ev.run 6 (pc' := 9) (lv' := [(3, .int (nI 1)), (2, .int (nI 2)), (0, .int (nI 5)), (1, .int (nI 2))]) (st' := [.int (Int32.ofNat (xLen L 1)), .int (nI 1)]) (h' := HN g hl (RF rt)) rfl ?_
    refine Ev.topI (show Int32.ofNat (xLen L 1) = nI 7 from rfl) ?_
    refine Ev.run 2 (pc' := 13) (lv' := [(3, .int (nI 1)), (2, .int (nI 2)), (0, .int (nI 5)), (1, .int (nI 2))]) (st' := [.int (nI 2)]) (h' := HN g hl (RF rt)) rfl ?_
    refine Ev.call (a := 120) (as := [.int (nI 2)]) (rest := []) (lv0 := [(0, .int (nI 2))]) (Q1 := (fun z0 h' => z0 = some (.int (nI 1)) ∧ h' = HN g hl (RF rt))) rfl rfl (K_isKind _ _ _ _ 2 (by omega) ⟨rfl, rfl⟩) (fun r h' hr => ?_)
    obtain ⟨rfl, rfl⟩ := hr
    refine Ev.run 5 (pc' := 25) (lv' := [(3, .int (nI 1)), (2, .int (nI 2)), (0, .int (nI 5)), (1, .int (nI 2))]) (st' := [.int (nI 1)]) (h' := HN g hl (RF rt)) rfl ?_
    refine Ev.ret (v := some (.int (nI 1))) rfl ?_
    exact hq
  · refine Ev.run 7 (pc' := 9) (lv' := [(3, .int (nI 0)), (2, .int (nI 5)), (0, .int (nI 5)), (1, .int (nI 3))]) (st' := [.int (Int32.ofNat (xLen L 1)), .int (nI 0)]) (h' := HN g hl (RF rt)) rfl ?_
    refine Ev.topI (show Int32.ofNat (xLen L 1) = nI 7 from rfl) ?_
    refine Ev.run 2 (pc' := 13) (lv' := [(3, .int (nI 0)), (2, .int (nI 5)), (0, .int (nI 5)), (1, .int (nI 3))]) (st' := [.int (nI 5)]) (h' := HN g hl (RF rt)) rfl ?_
    refine Ev.call (a := 120) (as := [.int (nI 5)]) (rest := []) (lv0 := [(0, .int (nI 5))]) (Q1 := (fun z0 h' => z0 = some (.int (nI 1)) ∧ h' = HN g hl (RF rt))) rfl rfl (K_isKind _ _ _ _ 5 (by omega) ⟨rfl, rfl⟩) (fun r h' hr => ?_)
    obtain ⟨rfl, rfl⟩ := hr
    refine Ev.run 6 (pc' := 30) (lv' := [(3, .int (nI 0)), (2, .int (nI 5)), (0, .int (nI 5)), (1, .int (nI 3))]) (st' := [.int (nI 5), .retAddr 1]) (h' := HN g hl (RF rt)) rfl ?_
    refine Ev_xald rfl (by decide) (show 5 < 7 by omega) (show 7 < 2 ^ 31 by decide) ?_
    refine Ev.topI (show xVal xs 1 5 = nI 2 from rfl) ?_
    refine Ev.run 6 (pc' := 9) (lv' := [(3, .int (nI 1)), (2, .int (nI 2)), (0, .int (nI 5)), (1, .int (nI 3))]) (st' := [.int (Int32.ofNat (xLen L 1)), .int (nI 1)]) (h' := HN g hl (RF rt)) rfl ?_
    refine Ev.topI (show Int32.ofNat (xLen L 1) = nI 7 from rfl) ?_
    refine Ev.run 2 (pc' := 13) (lv' := [(3, .int (nI 1)), (2, .int (nI 2)), (0, .int (nI 5)), (1, .int (nI 3))]) (st' := [.int (nI 2)]) (h' := HN g hl (RF rt)) rfl ?_
    refine Ev.call (a := 120) (as := [.int (nI 2)]) (rest := []) (lv0 := [(0, .int (nI 2))]) (Q1 := (fun z0 h' => z0 = some (.int (nI 1)) ∧ h' = HN g hl (RF rt))) rfl rfl (K_isKind _ _ _ _ 2 (by omega) ⟨rfl, rfl⟩) (fun r h' hr => ?_)
    obtain ⟨rfl, rfl⟩ := hr
    refine Ev.run 6 (pc' := 30) (lv' := [(3, .int (nI 1)), (2, .int (nI 2)), (0, .int (nI 5)), (1, .int (nI 3))]) (st' := [.int (nI 2), .retAddr 1]) (h' := HN g hl (RF rt)) rfl ?_
    refine Ev_xald rfl (by decide) (show 2 < 7 by omega) (show 7 < 2 ^ 31 by decide) ?_
    refine Ev.topI (show xVal xs 1 2 = nI 0 from rfl) ?_
    refine Ev.run 6 (pc' := 9) (lv' := [(3, .int (nI 2)), (2, .int (nI 0)), (0, .int (nI 5)), (1, .int (nI 3))]) (st' := [.int (Int32.ofNat (xLen L 1)), .int (nI 2)]) (h' := HN g hl (RF rt)) rfl ?_
    refine Ev.topI (show Int32.ofNat (xLen L 1) = nI 7 from rfl) ?_
    refine Ev.run 2 (pc' := 13) (lv' := [(3, .int (nI 2)), (2, .int (nI 0)), (0, .int (nI 5)), (1, .int (nI 3))]) (st' := [.int (nI 0)]) (h' := HN g hl (RF rt)) rfl ?_
    refine Ev.call (a := 120) (as := [.int (nI 0)]) (rest := []) (lv0 := [(0, .int (nI 0))]) (Q1 := (fun z0 h' => z0 = some (.int (nI 1)) ∧ h' = HN g hl (RF rt))) rfl rfl (K_isKind _ _ _ _ 0 (by omega) ⟨rfl, rfl⟩) (fun r h' hr => ?_)
    obtain ⟨rfl, rfl⟩ := hr
    refine Ev.run 6 (pc' := 30) (lv' := [(3, .int (nI 2)), (2, .int (nI 0)), (0, .int (nI 5)), (1, .int (nI 3))]) (st' := [.int (nI 0), .retAddr 1]) (h' := HN g hl (RF rt)) rfl ?_
    refine Ev_xald rfl (by decide) (show 0 < 7 by omega) (show 7 < 2 ^ 31 by decide) ?_
    refine Ev.topI (show xVal xs 1 0 = nI 4294967295 from rfl) ?_
    refine Ev.run 6 (pc' := 9) (lv' := [(3, .int (nI 3)), (2, .int (nI 4294967295)), (0, .int (nI 5)), (1, .int (nI 3))]) (st' := [.int (Int32.ofNat (xLen L 1)), .int (nI 3)]) (h' := HN g hl (RF rt)) rfl ?_
    refine Ev.topI (show Int32.ofNat (xLen L 1) = nI 7 from rfl) ?_
    refine Ev.run 2 (pc' := 13) (lv' := [(3, .int (nI 3)), (2, .int (nI 4294967295)), (0, .int (nI 5)), (1, .int (nI 3))]) (st' := [.int (nI 4294967295)]) (h' := HN g hl (RF rt)) rfl ?_
    refine Ev.call (a := 120) (as := [.int (nI 4294967295)]) (rest := []) (lv0 := [(0, .int (nI 4294967295))]) (Q1 := (fun z0 h' => z0 = some (.int (nI 0)) ∧ h' = HN g hl (RF rt))) rfl rfl (K_isKind _ _ _ _ 4294967295 (by omega) ⟨rfl, rfl⟩) (fun r h' hr => ?_)
    obtain ⟨rfl, rfl⟩ := hr
    refine Ev.run 2 (pc' := 39) (lv' := [(3, .int (nI 3)), (2, .int (nI 4294967295)), (0, .int (nI 5)), (1, .int (nI 3))]) (st' := [.int (nI 0)]) (h' := HN g hl (RF rt)) rfl ?_
    refine Ev.ret (v := some (.int (nI 0))) rfl ?_
    exact hq
  · refine Ev.run 7 (pc' := 9) (lv' := [(3, .int (nI 0)), (2, .int (nI 5)), (0, .int (nI 5)), (1, .int (nI 4))]) (st' := [.int (Int32.ofNat (xLen L 1)), .int (nI 0)]) (h' := HN g hl (RF rt)) rfl ?_
    refine Ev.topI (show Int32.ofNat (xLen L 1) = nI 7 from rfl) ?_
    refine Ev.run 2 (pc' := 13) (lv' := [(3, .int (nI 0)), (2, .int (nI 5)), (0, .int (nI 5)), (1, .int (nI 4))]) (st' := [.int (nI 5)]) (h' := HN g hl (RF rt)) rfl ?_
    refine Ev.call (a := 120) (as := [.int (nI 5)]) (rest := []) (lv0 := [(0, .int (nI 5))]) (Q1 := (fun z0 h' => z0 = some (.int (nI 1)) ∧ h' = HN g hl (RF rt))) rfl rfl (K_isKind _ _ _ _ 5 (by omega) ⟨rfl, rfl⟩) (fun r h' hr => ?_)
    obtain ⟨rfl, rfl⟩ := hr
    refine Ev.run 6 (pc' := 30) (lv' := [(3, .int (nI 0)), (2, .int (nI 5)), (0, .int (nI 5)), (1, .int (nI 4))]) (st' := [.int (nI 5), .retAddr 1]) (h' := HN g hl (RF rt)) rfl ?_
    refine Ev_xald rfl (by decide) (show 5 < 7 by omega) (show 7 < 2 ^ 31 by decide) ?_
    refine Ev.topI (show xVal xs 1 5 = nI 2 from rfl) ?_
    refine Ev.run 6 (pc' := 9) (lv' := [(3, .int (nI 1)), (2, .int (nI 2)), (0, .int (nI 5)), (1, .int (nI 4))]) (st' := [.int (Int32.ofNat (xLen L 1)), .int (nI 1)]) (h' := HN g hl (RF rt)) rfl ?_
    refine Ev.topI (show Int32.ofNat (xLen L 1) = nI 7 from rfl) ?_
    refine Ev.run 2 (pc' := 13) (lv' := [(3, .int (nI 1)), (2, .int (nI 2)), (0, .int (nI 5)), (1, .int (nI 4))]) (st' := [.int (nI 2)]) (h' := HN g hl (RF rt)) rfl ?_
    refine Ev.call (a := 120) (as := [.int (nI 2)]) (rest := []) (lv0 := [(0, .int (nI 2))]) (Q1 := (fun z0 h' => z0 = some (.int (nI 1)) ∧ h' = HN g hl (RF rt))) rfl rfl (K_isKind _ _ _ _ 2 (by omega) ⟨rfl, rfl⟩) (fun r h' hr => ?_)
    obtain ⟨rfl, rfl⟩ := hr
    refine Ev.run 6 (pc' := 30) (lv' := [(3, .int (nI 1)), (2, .int (nI 2)), (0, .int (nI 5)), (1, .int (nI 4))]) (st' := [.int (nI 2), .retAddr 1]) (h' := HN g hl (RF rt)) rfl ?_
    refine Ev_xald rfl (by decide) (show 2 < 7 by omega) (show 7 < 2 ^ 31 by decide) ?_
    refine Ev.topI (show xVal xs 1 2 = nI 0 from rfl) ?_
    refine Ev.run 6 (pc' := 9) (lv' := [(3, .int (nI 2)), (2, .int (nI 0)), (0, .int (nI 5)), (1, .int (nI 4))]) (st' := [.int (Int32.ofNat (xLen L 1)), .int (nI 2)]) (h' := HN g hl (RF rt)) rfl ?_
    refine Ev.topI (show Int32.ofNat (xLen L 1) = nI 7 from rfl) ?_
    refine Ev.run 2 (pc' := 13) (lv' := [(3, .int (nI 2)), (2, .int (nI 0)), (0, .int (nI 5)), (1, .int (nI 4))]) (st' := [.int (nI 0)]) (h' := HN g hl (RF rt)) rfl ?_
    refine Ev.call (a := 120) (as := [.int (nI 0)]) (rest := []) (lv0 := [(0, .int (nI 0))]) (Q1 := (fun z0 h' => z0 = some (.int (nI 1)) ∧ h' = HN g hl (RF rt))) rfl rfl (K_isKind _ _ _ _ 0 (by omega) ⟨rfl, rfl⟩) (fun r h' hr => ?_)
    obtain ⟨rfl, rfl⟩ := hr
    refine Ev.run 6 (pc' := 30) (lv' := [(3, .int (nI 2)), (2, .int (nI 0)), (0, .int (nI 5)), (1, .int (nI 4))]) (st' := [.int (nI 0), .retAddr 1]) (h' := HN g hl (RF rt)) rfl ?_
    refine Ev_xald rfl (by decide) (show 0 < 7 by omega) (show 7 < 2 ^ 31 by decide) ?_
    refine Ev.topI (show xVal xs 1 0 = nI 4294967295 from rfl) ?_
    refine Ev.run 6 (pc' := 9) (lv' := [(3, .int (nI 3)), (2, .int (nI 4294967295)), (0, .int (nI 5)), (1, .int (nI 4))]) (st' := [.int (Int32.ofNat (xLen L 1)), .int (nI 3)]) (h' := HN g hl (RF rt)) rfl ?_
    refine Ev.topI (show Int32.ofNat (xLen L 1) = nI 7 from rfl) ?_
    refine Ev.run 2 (pc' := 13) (lv' := [(3, .int (nI 3)), (2, .int (nI 4294967295)), (0, .int (nI 5)), (1, .int (nI 4))]) (st' := [.int (nI 4294967295)]) (h' := HN g hl (RF rt)) rfl ?_
    refine Ev.call (a := 120) (as := [.int (nI 4294967295)]) (rest := []) (lv0 := [(0, .int (nI 4294967295))]) (Q1 := (fun z0 h' => z0 = some (.int (nI 0)) ∧ h' = HN g hl (RF rt))) rfl rfl (K_isKind _ _ _ _ 4294967295 (by omega) ⟨rfl, rfl⟩) (fun r h' hr => ?_)
    obtain ⟨rfl, rfl⟩ := hr
    refine Ev.run 2 (pc' := 39) (lv' := [(3, .int (nI 3)), (2, .int (nI 4294967295)), (0, .int (nI 5)), (1, .int (nI 4))]) (st' := [.int (nI 0)]) (h' := HN g hl (RF rt)) rfl ?_
    refine Ev.ret (v := some (.int (nI 0))) rfl ?_
    exact hq
  · refine Ev.run 7 (pc' := 9) (lv' := [(3, .int (nI 0)), (2, .int (nI 5)), (0, .int (nI 5)), (1, .int (nI 5))]) (st' := [.int (Int32.ofNat (xLen L 1)), .int (nI 0)]) (h' := HN g hl (RF rt)) rfl ?_
    refine Ev.topI (show Int32.ofNat (xLen L 1) = nI 7 from rfl) ?_
    refine Ev.run 2 (pc' := 13) (lv' := [(3, .int (nI 0)), (2, .int (nI 5)), (0, .int (nI 5)), (1, .int (nI 5))]) (st' := [.int (nI 5)]) (h' := HN g hl (RF rt)) rfl ?_
    refine Ev.call (a := 120) (as := [.int (nI 5)]) (rest := []) (lv0 := [(0, .int (nI 5))]) (Q1 := (fun z0 h' => z0 = some (.int (nI 1)) ∧ h' = HN g hl (RF rt))) rfl rfl (K_isKind _ _ _ _ 5 (by omega) ⟨rfl, rfl⟩) (fun r h' hr => ?_)
    obtain ⟨rfl, rfl⟩ := hr
    refine Ev.run 5 (pc' := 25) (lv' := [(3, .int (nI 0)), (2, .int (nI 5)), (0, .int (nI 5)), (1, .int (nI 5))]) (st' := [.int (nI 1)]) (h' := HN g hl (RF rt)) rfl ?_
    refine Ev.ret (v := some (.int (nI 1))) rfl ?_
    exact hq
  · refine Ev.run 7 (pc' := 9) (lv' := [(3, .int (nI 0)), (2, .int (nI 5)), (0, .int (nI 5)), (1, .int (nI 6))]) (st' := [.int (Int32.ofNat (xLen L 1)), .int (nI 0)]) (h' := HN g hl (RF rt)) rfl ?_
    refine Ev.topI (show Int32.ofNat (xLen L 1) = nI 7 from rfl) ?_
    refine Ev.run 2 (pc' := 13) (lv' := [(3, .int (nI 0)), (2, .int (nI 5)), (0, .int (nI 5)), (1, .int (nI 6))]) (st' := [.int (nI 5)]) (h' := HN g hl (RF rt)) rfl ?_
    refine Ev.call (a := 120) (as := [.int (nI 5)]) (rest := []) (lv0 := [(0, .int (nI 5))]) (Q1 := (fun z0 h' => z0 = some (.int (nI 1)) ∧ h' = HN g hl (RF rt))) rfl rfl (K_isKind _ _ _ _ 5 (by omega) ⟨rfl, rfl⟩) (fun r h' hr => ?_)
    obtain ⟨rfl, rfl⟩ := hr
    refine Ev.run 6 (pc' := 30) (lv' := [(3, .int (nI 0)), (2, .int (nI 5)), (0, .int (nI 5)), (1, .int (nI 6))]) (st' := [.int (nI 5), .retAddr 1]) (h' := HN g hl (RF rt)) rfl ?_
    refine Ev_xald rfl (by decide) (show 5 < 7 by omega) (show 7 < 2 ^ 31 by decide) ?_
    refine Ev.topI (show xVal xs 1 5 = nI 2 from rfl) ?_
    refine Ev.run 6 (pc' := 9) (lv' := [(3, .int (nI 1)), (2, .int (nI 2)), (0, .int (nI 5)), (1, .int (nI 6))]) (st' := [.int (Int32.ofNat (xLen L 1)), .int (nI 1)]) (h' := HN g hl (RF rt)) rfl ?_
    refine Ev.topI (show Int32.ofNat (xLen L 1) = nI 7 from rfl) ?_
    refine Ev.run 2 (pc' := 13) (lv' := [(3, .int (nI 1)), (2, .int (nI 2)), (0, .int (nI 5)), (1, .int (nI 6))]) (st' := [.int (nI 2)]) (h' := HN g hl (RF rt)) rfl ?_
    refine Ev.call (a := 120) (as := [.int (nI 2)]) (rest := []) (lv0 := [(0, .int (nI 2))]) (Q1 := (fun z0 h' => z0 = some (.int (nI 1)) ∧ h' = HN g hl (RF rt))) rfl rfl (K_isKind _ _ _ _ 2 (by omega) ⟨rfl, rfl⟩) (fun r h' hr => ?_)
    obtain ⟨rfl, rfl⟩ := hr
    refine Ev.run 6 (pc' := 30) (lv' := [(3, .int (nI 1)), (2, .int (nI 2)), (0, .int (nI 5)), (1, .int (nI 6))]) (st' := [.int (nI 2), .retAddr 1]) (h' := HN g hl (RF rt)) rfl ?_
    refine Ev_xald rfl (by decide) (show 2 < 7 by omega) (show 7 < 2 ^ 31 by decide) ?_
    refine Ev.topI (show xVal xs 1 2 = nI 0 from rfl) ?_
    refine Ev.run 6 (pc' := 9) (lv' := [(3, .int (nI 2)), (2, .int (nI 0)), (0, .int (nI 5)), (1, .int (nI 6))]) (st' := [.int (Int32.ofNat (xLen L 1)), .int (nI 2)]) (h' := HN g hl (RF rt)) rfl ?_
    refine Ev.topI (show Int32.ofNat (xLen L 1) = nI 7 from rfl) ?_
    refine Ev.run 2 (pc' := 13) (lv' := [(3, .int (nI 2)), (2, .int (nI 0)), (0, .int (nI 5)), (1, .int (nI 6))]) (st' := [.int (nI 0)]) (h' := HN g hl (RF rt)) rfl ?_
    refine Ev.call (a := 120) (as := [.int (nI 0)]) (rest := []) (lv0 := [(0, .int (nI 0))]) (Q1 := (fun z0 h' => z0 = some (.int (nI 1)) ∧ h' = HN g hl (RF rt))) rfl rfl (K_isKind _ _ _ _ 0 (by omega) ⟨rfl, rfl⟩) (fun r h' hr => ?_)
    obtain ⟨rfl, rfl⟩ := hr
    refine Ev.run 6 (pc' := 30) (lv' := [(3, .int (nI 2)), (2, .int (nI 0)), (0, .int (nI 5)), (1, .int (nI 6))]) (st' := [.int (nI 0), .retAddr 1]) (h' := HN g hl (RF rt)) rfl ?_
    refine Ev_xald rfl (by decide) (show 0 < 7 by omega) (show 7 < 2 ^ 31 by decide) ?_
    refine Ev.topI (show xVal xs 1 0 = nI 4294967295 from rfl) ?_
    refine Ev.run 6 (pc' := 9) (lv' := [(3, .int (nI 3)), (2, .int (nI 4294967295)), (0, .int (nI 5)), (1, .int (nI 6))]) (st' := [.int (Int32.ofNat (xLen L 1)), .int (nI 3)]) (h' := HN g hl (RF rt)) rfl ?_
    refine Ev.topI (show Int32.ofNat (xLen L 1) = nI 7 from rfl) ?_
    refine Ev.run 2 (pc' := 13) (lv' := [(3, .int (nI 3)), (2, .int (nI 4294967295)), (0, .int (nI 5)), (1, .int (nI 6))]) (st' := [.int (nI 4294967295)]) (h' := HN g hl (RF rt)) rfl ?_
    refine Ev.call (a := 120) (as := [.int (nI 4294967295)]) (rest := []) (lv0 := [(0, .int (nI 4294967295))]) (Q1 := (fun z0 h' => z0 = some (.int (nI 0)) ∧ h' = HN g hl (RF rt))) rfl rfl (K_isKind _ _ _ _ 4294967295 (by omega) ⟨rfl, rfl⟩) (fun r h' hr => ?_)
    obtain ⟨rfl, rfl⟩ := hr
    refine Ev.run 2 (pc' := 39) (lv' := [(3, .int (nI 3)), (2, .int (nI 4294967295)), (0, .int (nI 5)), (1, .int (nI 6))]) (st' := [.int (nI 0)]) (h' := HN g hl (RF rt)) rfl ?_
    refine Ev.ret (v := some (.int (nI 0))) rfl ?_
    exact hq
  · refine Ev.run 7 (pc' := 9) (lv' := [(3, .int (nI 0)), (2, .int (nI 6)), (0, .int (nI 6)), (1, .int (nI 0))]) (st' := [.int (Int32.ofNat (xLen L 1)), .int (nI 0)]) (h' := HN g hl (RF rt)) rfl ?_
    refine Ev.topI (show Int32.ofNat (xLen L 1) = nI 7 from rfl) ?_
    refine Ev.run 2 (pc' := 13) (lv' := [(3, .int (nI 0)), (2, .int (nI 6)), (0, .int (nI 6)), (1, .int (nI 0))]) (st' := [.int (nI 6)]) (h' := HN g hl (RF rt)) rfl ?_
    refine Ev.call (a := 120) (as := [.int (nI 6)]) (rest := []) (lv0 := [(0, .int (nI 6))]) (Q1 := (fun z0 h' => z0 = some (.int (nI 1)) ∧ h' = HN g hl (RF rt))) rfl rfl (K_isKind _ _ _ _ 6 (by omega) ⟨rfl, rfl⟩) (fun r h' hr => ?_)
    obtain ⟨rfl, rfl⟩ := hr
    refine Ev.run 6 (pc' := 30) (lv' := [(3, .int (nI 0)), (2, .int (nI 6)), (0, .int (nI 6)), (1, .int (nI 0))]) (st' := [.int (nI 6), .retAddr 1]) (h' := HN g hl (RF rt)) rfl ?_
    refine Ev_xald rfl (by decide) (show 6 < 7 by omega) (show 7 < 2 ^ 31 by decide) ?_
    refine Ev.topI (show xVal xs 1 6 = nI 3 from rfl) ?_
    refine Ev.run 6 (pc' := 9) (lv' := [(3, .int (nI 1)), (2, .int (nI 3)), (0, .int (nI 6)), (1, .int (nI 0))]) (st' := [.int (Int32.ofNat (xLen L 1)), .int (nI 1)]) (h' := HN g hl (RF rt)) rfl ?_
    refine Ev.topI (show Int32.ofNat (xLen L 1) = nI 7 from rfl) ?_
    refine Ev.run 2 (pc' := 13) (lv' := [(3, .int (nI 1)), (2, .int (nI 3)), (0, .int (nI 6)), (1, .int (nI 0))]) (st' := [.int (nI 3)]) (h' := HN g hl (RF rt)) rfl ?_
    refine Ev.call (a := 120) (as := [.int (nI 3)]) (rest := []) (lv0 := [(0, .int (nI 3))]) (Q1 := (fun z0 h' => z0 = some (.int (nI 1)) ∧ h' = HN g hl (RF rt))) rfl rfl (K_isKind _ _ _ _ 3 (by omega) ⟨rfl, rfl⟩) (fun r h' hr => ?_)
    obtain ⟨rfl, rfl⟩ := hr
    refine Ev.run 6 (pc' := 30) (lv' := [(3, .int (nI 1)), (2, .int (nI 3)), (0, .int (nI 6)), (1, .int (nI 0))]) (st' := [.int (nI 3), .retAddr 1]) (h' := HN g hl (RF rt)) rfl ?_
    refine Ev_xald rfl (by decide) (show 3 < 7 by omega) (show 7 < 2 ^ 31 by decide) ?_
    refine Ev.topI (show xVal xs 1 3 = nI 0 from rfl) ?_
    refine Ev.run 6 (pc' := 9) (lv' := [(3, .int (nI 2)), (2, .int (nI 0)), (0, .int (nI 6)), (1, .int (nI 0))]) (st' := [.int (Int32.ofNat (xLen L 1)), .int (nI 2)]) (h' := HN g hl (RF rt)) rfl ?_
    refine Ev.topI (show Int32.ofNat (xLen L 1) = nI 7 from rfl) ?_
    refine Ev.run 2 (pc' := 13) (lv' := [(3, .int (nI 2)), (2, .int (nI 0)), (0, .int (nI 6)), (1, .int (nI 0))]) (st' := [.int (nI 0)]) (h' := HN g hl (RF rt)) rfl ?_
    refine Ev.call (a := 120) (as := [.int (nI 0)]) (rest := []) (lv0 := [(0, .int (nI 0))]) (Q1 := (fun z0 h' => z0 = some (.int (nI 1)) ∧ h' = HN g hl (RF rt))) rfl rfl (K_isKind _ _ _ _ 0 (by omega) ⟨rfl, rfl⟩) (fun r h' hr => ?_)
    obtain ⟨rfl, rfl⟩ := hr
    refine Ev.run 5 (pc' := 25) (lv' := [(3, .int (nI 2)), (2, .int (nI 0)), (0, .int (nI 6)), (1, .int (nI 0))]) (st' := [.int (nI 1)]) (h' := HN g hl (RF rt)) rfl ?_
    refine Ev.ret (v := some (.int (nI 1))) rfl ?_
    exact hq
  · refine Ev.run 7 (pc' := 9) (lv' := [(3, .int (nI 0)), (2, .int (nI 6)), (0, .int (nI 6)), (1, .int (nI 1))]) (st' := [.int (Int32.ofNat (xLen L 1)), .int (nI 0)]) (h' := HN g hl (RF rt)) rfl ?_
    refine Ev.topI (show Int32.ofNat (xLen L 1) = nI 7 from rfl) ?_
    refine Ev.run 2 (pc' := 13) (lv' := [(3, .int (nI 0)), (2, .int (nI 6)), (0, .int (nI 6)), (1, .int (nI 1))]) (st' := [.int (nI 6)]) (h' := HN g hl (RF rt)) rfl ?_
    refine Ev.call (a := 120) (as := [.int (nI 6)]) (rest := []) (lv0 := [(0, .int (nI 6))]) (Q1 := (fun z0 h' => z0 = some (.int (nI 1)) ∧ h' = HN g hl (RF rt))) rfl rfl (K_isKind _ _ _ _ 6 (by omega) ⟨rfl, rfl⟩) (fun r h' hr => ?_)
    obtain ⟨rfl, rfl⟩ := hr
    refine Ev.run 6 (pc' := 30) (lv' := [(3, .int (nI 0)), (2, .int (nI 6)), (0, .int (nI 6)), (1, .int (nI 1))]) (st' := [.int (nI 6), .retAddr 1]) (h' := HN g hl (RF rt)) rfl ?_
    refine Ev_xald rfl (by decide) (show 6 < 7 by omega) (show 7 < 2 ^ 31 by decide) ?_
    refine Ev.topI (show xVal xs 1 6 = nI 3 from rfl) ?_
    refine Ev.run 6 (pc' := 9) (lv' := [(3, .int (nI 1)), (2, .int (nI 3)), (0, .int (nI 6)), (1, .int (nI 1))]) (st' := [.int (Int32.ofNat (xLen L 1)), .int (nI 1)]) (h' := HN g hl (RF rt)) rfl ?_
    refine Ev.topI (show Int32.ofNat (xLen L 1) = nI 7 from rfl) ?_
    refine Ev.run 2 (pc' := 13) (lv' := [(3, .int (nI 1)), (2, .int (nI 3)), (0, .int (nI 6)), (1, .int (nI 1))]) (st' := [.int (nI 3)]) (h' := HN g hl (RF rt)) rfl ?_
    refine Ev.call (a := 120) (as := [.int (nI 3)]) (rest := []) (lv0 := [(0, .int (nI 3))]) (Q1 := (fun z0 h' => z0 = some (.int (nI 1)) ∧ h' = HN g hl (RF rt))) rfl rfl (K_isKind _ _ _ _ 3 (by omega) ⟨rfl, rfl⟩) (fun r h' hr => ?_)
    obtain ⟨rfl, rfl⟩ := hr
    refine Ev.run 6 (pc' := 30) (lv' := [(3, .int (nI 1)), (2, .int (nI 3)), (0, .int (nI 6)), (1, .int (nI 1))]) (st' := [.int (nI 3), .retAddr 1]) (h' := HN g hl (RF rt)) rfl ?_
    refine Ev_xald rfl (by decide) (show 3 < 7 by omega) (show 7 < 2 ^ 31 by decide) ?_
    refine Ev.topI (show xVal xs 1 3 = nI 0 from rfl) ?_
    refine Ev.run 6 (pc' := 9) (lv' := [(3, .int (nI 2)), (2, .int (nI 0)), (0, .int (nI 6)), (1, .int (nI 1))]) (st' := [.int (Int32.ofNat (xLen L 1)), .int (nI 2)]) (h' := HN g hl (RF rt)) rfl ?_
    refine Ev.topI (show Int32.ofNat (xLen L 1) = nI 7 from rfl) ?_
    refine Ev.run 2 (pc' := 13) (lv' := [(3, .int (nI 2)), (2, .int (nI 0)), (0, .int (nI 6)), (1, .int (nI 1))]) (st' := [.int (nI 0)]) (h' := HN g hl (RF rt)) rfl ?_
    refine Ev.call (a := 120) (as := [.int (nI 0)]) (rest := []) (lv0 := [(0, .int (nI 0))]) (Q1 := (fun z0 h' => z0 = some (.int (nI 1)) ∧ h' = HN g hl (RF rt))) rfl rfl (K_isKind _ _ _ _ 0 (by omega) ⟨rfl, rfl⟩) (fun r h' hr => ?_)
    obtain ⟨rfl, rfl⟩ := hr
    refine Ev.run 6 (pc' := 30) (lv' := [(3, .int (nI 2)), (2, .int (nI 0)), (0, .int (nI 6)), (1, .int (nI 1))]) (st' := [.int (nI 0), .retAddr 1]) (h' := HN g hl (RF rt)) rfl ?_
    refine Ev_xald rfl (by decide) (show 0 < 7 by omega) (show 7 < 2 ^ 31 by decide) ?_
    refine Ev.topI (show xVal xs 1 0 = nI 4294967295 from rfl) ?_
    refine Ev.run 6 (pc' := 9) (lv' := [(3, .int (nI 3)), (2, .int (nI 4294967295)), (0, .int (nI 6)), (1, .int (nI 1))]) (st' := [.int (Int32.ofNat (xLen L 1)), .int (nI 3)]) (h' := HN g hl (RF rt)) rfl ?_
    refine Ev.topI (show Int32.ofNat (xLen L 1) = nI 7 from rfl) ?_
    refine Ev.run 2 (pc' := 13) (lv' := [(3, .int (nI 3)), (2, .int (nI 4294967295)), (0, .int (nI 6)), (1, .int (nI 1))]) (st' := [.int (nI 4294967295)]) (h' := HN g hl (RF rt)) rfl ?_
    refine Ev.call (a := 120) (as := [.int (nI 4294967295)]) (rest := []) (lv0 := [(0, .int (nI 4294967295))]) (Q1 := (fun z0 h' => z0 = some (.int (nI 0)) ∧ h' = HN g hl (RF rt))) rfl rfl (K_isKind _ _ _ _ 4294967295 (by omega) ⟨rfl, rfl⟩) (fun r h' hr => ?_)
    obtain ⟨rfl, rfl⟩ := hr
    refine Ev.run 2 (pc' := 39) (lv' := [(3, .int (nI 3)), (2, .int (nI 4294967295)), (0, .int (nI 6)), (1, .int (nI 1))]) (st' := [.int (nI 0)]) (h' := HN g hl (RF rt)) rfl ?_
    refine Ev.ret (v := some (.int (nI 0))) rfl ?_
    exact hq
  · refine Ev.run 7 (pc' := 9) (lv' := [(3, .int (nI 0)), (2, .int (nI 6)), (0, .int (nI 6)), (1, .int (nI 2))]) (st' := [.int (Int32.ofNat (xLen L 1)), .int (nI 0)]) (h' := HN g hl (RF rt)) rfl ?_
    refine Ev.topI (show Int32.ofNat (xLen L 1) = nI 7 from rfl) ?_
    refine Ev.run 2 (pc' := 13) (lv' := [(3, .int (nI 0)), (2, .int (nI 6)), (0, .int (nI 6)), (1, .int (nI 2))]) (st' := [.int (nI 6)]) (h' := HN g hl (RF rt)) rfl ?_
    refine Ev.call (a := 120) (as := [.int (nI 6)]) (rest := []) (lv0 := [(0, .int (nI 6))]) (Q1 := (fun z0 h' => z0 = some (.int (nI 1)) ∧ h' = HN g hl (RF rt))) rfl rfl (K_isKind _ _ _ _ 6 (by omega) ⟨rfl, rfl⟩) (fun r h' hr => ?_)
    obtain ⟨rfl, rfl⟩ := hr
    refine Ev.run 6 (pc' := 30) (lv' := [(3, .int (nI 0)), (2, .int (nI 6)), (0, .int (nI 6)), (1, .int (nI 2))]) (st' := [.int (nI 6), .retAddr 1]) (h' := HN g hl (RF rt)) rfl ?_
    refine Ev_xald rfl (by decide) (show 6 < 7 by omega) (show 7 < 2 ^ 31 by decide) ?_
    refine Ev.topI (show xVal xs 1 6 = nI 3 from rfl) ?_
    refine Ev.run 6 (pc' := 9) (lv' := [(3, .int (nI 1)), (2, .int (nI 3)), (0, .int (nI 6)), (1, .int (nI 2))]) (st' := [.int (Int32.ofNat (xLen L 1)), .int (nI 1)]) (h' := HN g hl (RF rt)) rfl ?_
    refine Ev.topI (show Int32.ofNat (xLen L 1) = nI 7 from rfl) ?_
    refine Ev.run 2 (pc' := 13) (lv' := [(3, .int (nI 1)), (2, .int (nI 3)), (0, .int (nI 6)), (1, .int (nI 2))]) (st' := [.int (nI 3)]) (h' := HN g hl (RF rt)) rfl ?_
    refine Ev.call (a := 120) (as := [.int (nI 3)]) (rest := []) (lv0 := [(0, .int (nI 3))]) (Q1 := (fun z0 h' => z0 = some (.int (nI 1)) ∧ h' = HN g hl (RF rt))) rfl rfl (K_isKind _ _ _ _ 3 (by omega) ⟨rfl, rfl⟩) (fun r h' hr => ?_)
    obtain ⟨rfl, rfl⟩ := hr
    refine Ev.run 6 (pc' := 30) (lv' := [(3, .int (nI 1)), (2, .int (nI 3)), (0, .int (nI 6)), (1, .int (nI 2))]) (st' := [.int (nI 3), .retAddr 1]) (h' := HN g hl (RF rt)) rfl ?_
    refine Ev_xald rfl (by decide) (show 3 < 7 by omega) (show 7 < 2 ^ 31 by decide) ?_
    refine Ev.topI (show xVal xs 1 3 = nI 0 from rfl) ?_
    refine Ev.run 6 (pc' := 9) (lv' := [(3, .int (nI 2)), (2, .int (nI 0)), (0, .int (nI 6)), (1, .int (nI 2))]) (st' := [.int (Int32.ofNat (xLen L 1)), .int (nI 2)]) (h' := HN g hl (RF rt)) rfl ?_
    refine Ev.topI (show Int32.ofNat (xLen L 1) = nI 7 from rfl) ?_
    refine Ev.run 2 (pc' := 13) (lv' := [(3, .int (nI 2)), (2, .int (nI 0)), (0, .int (nI 6)), (1, .int (nI 2))]) (st' := [.int (nI 0)]) (h' := HN g hl (RF rt)) rfl ?_
    refine Ev.call (a := 120) (as := [.int (nI 0)]) (rest := []) (lv0 := [(0, .int (nI 0))]) (Q1 := (fun z0 h' => z0 = some (.int (nI 1)) ∧ h' = HN g hl (RF rt))) rfl rfl (K_isKind _ _ _ _ 0 (by omega) ⟨rfl, rfl⟩) (fun r h' hr => ?_)
    obtain ⟨rfl, rfl⟩ := hr
    refine Ev.run 6 (pc' := 30) (lv' := [(3, .int (nI 2)), (2, .int (nI 0)), (0, .int (nI 6)), (1, .int (nI 2))]) (st' := [.int (nI 0), .retAddr 1]) (h' := HN g hl (RF rt)) rfl ?_
    refine Ev_xald rfl (by decide) (show 0 < 7 by omega) (show 7 < 2 ^ 31 by decide) ?_
    refine Ev.topI (show xVal xs 1 0 = nI 4294967295 from rfl) ?_
    refine Ev.run 6 (pc' := 9) (lv' := [(3, .int (nI 3)), (2, .int (nI 4294967295)), (0, .int (nI 6)), (1, .int (nI 2))]) (st' := [.int (Int32.ofNat (xLen L 1)), .int (nI 3)]) (h' := HN g hl (RF rt)) rfl ?_
    refine Ev.topI (show Int32.ofNat (xLen L 1) = nI 7 from rfl) ?_
    refine Ev.run 2 (pc' := 13) (lv' := [(3, .int (nI 3)), (2, .int (nI 4294967295)), (0, .int (nI 6)), (1, .int (nI 2))]) (st' := [.int (nI 4294967295)]) (h' := HN g hl (RF rt)) rfl ?_
    refine Ev.call (a := 120) (as := [.int (nI 4294967295)]) (rest := []) (lv0 := [(0, .int (nI 4294967295))]) (Q1 := (fun z0 h' => z0 = some (.int (nI 0)) ∧ h' = HN g hl (RF rt))) rfl rfl (K_isKind _ _ _ _ 4294967295 (by omega) ⟨rfl, rfl⟩) (fun r h' hr => ?_)
    obtain ⟨rfl, rfl⟩ := hr
    refine Ev.run 2 (pc' := 39) (lv' := [(3, .int (nI 3)), (2, .int (nI 4294967295)), (0, .int (nI 6)), (1, .int (nI 2))]) (st' := [.int (nI 0)]) (h' := HN g hl (RF rt)) rfl ?_
    refine Ev.ret (v := some (.int (nI 0))) rfl ?_
    exact hq
  · refine Ev.run 7 (pc' := 9) (lv' := [(3, .int (nI 0)), (2, .int (nI 6)), (0, .int (nI 6)), (1, .int (nI 3))]) (st' := [.int (Int32.ofNat (xLen L 1)), .int (nI 0)]) (h' := HN g hl (RF rt)) rfl ?_
    refine Ev.topI (show Int32.ofNat (xLen L 1) = nI 7 from rfl) ?_
    refine Ev.run 2 (pc' := 13) (lv' := [(3, .int (nI 0)), (2, .int (nI 6)), (0, .int (nI 6)), (1, .int (nI 3))]) (st' := [.int (nI 6)]) (h' := HN g hl (RF rt)) rfl ?_
    refine Ev.call (a := 120) (as := [.int (nI 6)]) (rest := []) (lv0 := [(0, .int (nI 6))]) (Q1 := (fun z0 h' => z0 = some (.int (nI 1)) ∧ h' = HN g hl (RF rt))) rfl rfl (K_isKind _ _ _ _ 6 (by omega) ⟨rfl, rfl⟩) (fun r h' hr => ?_)
    obtain ⟨rfl, rfl⟩ := hr
    refine Ev.run 6 (pc' := 30) (lv' := [(3, .int (nI 0)), (2, .int (nI 6)), (0, .int (nI 6)), (1, .int (nI 3))]) (st' := [.int (nI 6), .retAddr 1]) (h' := HN g hl (RF rt)) rfl ?_
    refine Ev_xald rfl (by decide) (show 6 < 7 by omega) (show 7 < 2 ^ 31 by decide) ?_
    refine Ev.topI (show xVal xs 1 6 = nI 3 from rfl) ?_
    refine Ev.run 6 (pc' := 9) (lv' := [(3, .int (nI 1)), (2, .int (nI 3)), (0, .int (nI 6)), (1, .int (nI 3))]) (st' := [.int (Int32.ofNat (xLen L 1)), .int (nI 1)]) (h' := HN g hl (RF rt)) rfl ?_
    refine Ev.topI (show Int32.ofNat (xLen L 1) = nI 7 from rfl) ?_
    refine Ev.run 2 (pc' := 13) (lv' := [(3, .int (nI 1)), (2, .int (nI 3)), (0, .int (nI 6)), (1, .int (nI 3))]) (st' := [.int (nI 3)]) (h' := HN g hl (RF rt)) rfl ?_
    refine Ev.call (a := 120) (as := [.int (nI 3)]) (rest := []) (lv0 := [(0, .int (nI 3))]) (Q1 := (fun z0 h' => z0 = some (.int (nI 1)) ∧ h' = HN g hl (RF rt))) rfl rfl (K_isKind _ _ _ _ 3 (by omega) ⟨rfl, rfl⟩) (fun r h' hr => ?_)
    obtain ⟨rfl, rfl⟩ := hr
    refine Ev.run 5 (pc' := 25) (lv' := [(3, .int (nI 1)), (2, .int (nI 3)), (0, .int (nI 6)), (1, .int (nI 3))]) (st' := [.int (nI 1)]) (h' := HN g hl (RF rt)) rfl ?_
    refine Ev.ret (v := some (.int (nI 1))) rfl ?_
    exact hq
  · refine Ev.run 7 (pc' := 9) (lv' := [(3, .int (nI 0)), (2, .int (nI 6)), (0, .int (nI 6)), (1, .int (nI 4))]) (st' := [.int (Int32.ofNat (xLen L 1)), .int (nI 0)]) (h' := HN g hl (RF rt)) rfl ?_
    refine Ev.topI (show Int32.ofNat (xLen L 1) = nI 7 from rfl) ?_
    refine Ev.run 2 (pc' := 13) (lv' := [(3, .int (nI 0)), (2, .int (nI 6)), (0, .int (nI 6)), (1, .int (nI 4))]) (st' := [.int (nI 6)]) (h' := HN g hl (RF rt)) rfl ?_
    refine Ev.call (a := 120) (as := [.int (nI 6)]) (rest := []) (lv0 := [(0, .int (nI 6))]) (Q1 := (fun z0 h' => z0 = some (.int (nI 1)) ∧ h' = HN g hl (RF rt))) rfl rfl (K_isKind _ _ _ _ 6 (by omega) ⟨rfl, rfl⟩) (fun r h' hr => ?_)
    obtain ⟨rfl, rfl⟩ := hr
    refine Ev.run 6 (pc' := 30) (lv' := [(3, .int (nI 0)), (2, .int (nI 6)), (0, .int (nI 6)), (1, .int (nI 4))]) (st' := [.int (nI 6), .retAddr 1]) (h' := HN g hl (RF rt)) rfl ?_
    refine Ev_xald rfl (by decide) (show 6 < 7 by omega) (show 7 < 2 ^ 31 by decide) ?_
    refine Ev.topI (show xVal xs 1 6 = nI 3 from rfl) ?_
    refine Ev.run 6 (pc' := 9) (lv' := [(3, .int (nI 1)), (2, .int (nI 3)), (0, .int (nI 6)), (1, .int (nI 4))]) (st' := [.int (Int32.ofNat (xLen L 1)), .int (nI 1)]) (h' := HN g hl (RF rt)) rfl ?_
    refine Ev.topI (show Int32.ofNat (xLen L 1) = nI 7 from rfl) ?_
    refine Ev.run 2 (pc' := 13) (lv' := [(3, .int (nI 1)), (2, .int (nI 3)), (0, .int (nI 6)), (1, .int (nI 4))]) (st' := [.int (nI 3)]) (h' := HN g hl (RF rt)) rfl ?_
    refine Ev.call (a := 120) (as := [.int (nI 3)]) (rest := []) (lv0 := [(0, .int (nI 3))]) (Q1 := (fun z0 h' => z0 = some (.int (nI 1)) ∧ h' = HN g hl (RF rt))) rfl rfl (K_isKind _ _ _ _ 3 (by omega) ⟨rfl, rfl⟩) (fun r h' hr => ?_)
    obtain ⟨rfl, rfl⟩ := hr
    refine Ev.run 6 (pc' := 30) (lv' := [(3, .int (nI 1)), (2, .int (nI 3)), (0, .int (nI 6)), (1, .int (nI 4))]) (st' := [.int (nI 3), .retAddr 1]) (h' := HN g hl (RF rt)) rfl ?_
    refine Ev_xald rfl (by decide) (show 3 < 7 by omega) (show 7 < 2 ^ 31 by decide) ?_
    refine Ev.topI (show xVal xs 1 3 = nI 0 from rfl) ?_
    refine Ev.run 6 (pc' := 9) (lv' := [(3, .int (nI 2)), (2, .int (nI 0)), (0, .int (nI 6)), (1, .int (nI 4))]) (st' := [.int (Int32.ofNat (xLen L 1)), .int (nI 2)]) (h' := HN g hl (RF rt)) rfl ?_
    refine Ev.topI (show Int32.ofNat (xLen L 1) = nI 7 from rfl) ?_
    refine Ev.run 2 (pc' := 13) (lv' := [(3, .int (nI 2)), (2, .int (nI 0)), (0, .int (nI 6)), (1, .int (nI 4))]) (st' := [.int (nI 0)]) (h' := HN g hl (RF rt)) rfl ?_
    refine Ev.call (a := 120) (as := [.int (nI 0)]) (rest := []) (lv0 := [(0, .int (nI 0))]) (Q1 := (fun z0 h' => z0 = some (.int (nI 1)) ∧ h' = HN g hl (RF rt))) rfl rfl (K_isKind _ _ _ _ 0 (by omega) ⟨rfl, rfl⟩) (fun r h' hr => ?_)
    obtain ⟨rfl, rfl⟩ := hr
    refine Ev.run 6 (pc' := 30) (lv' := [(3, .int (nI 2)), (2, .int (nI 0)), (0, .int (nI 6)), (1, .int (nI 4))]) (st' := [.int (nI 0), .retAddr 1]) (h' := HN g hl (RF rt)) rfl ?_
    refine Ev_xald rfl (by decide) (show 0 < 7 by omega) (show 7 < 2 ^ 31 by decide) ?_
    refine Ev.topI (show xVal xs 1 0 = nI 4294967295 from rfl) ?_
    refine Ev.run 6 (pc' := 9) (lv' := [(3, .int (nI 3)), (2, .int (nI 4294967295)), (0, .int (nI 6)), (1, .int (nI 4))]) (st' := [.int (Int32.ofNat (xLen L 1)), .int (nI 3)]) (h' := HN g hl (RF rt)) rfl ?_
    refine Ev.topI (show Int32.ofNat (xLen L 1) = nI 7 from rfl) ?_
    refine Ev.run 2 (pc' := 13) (lv' := [(3, .int (nI 3)), (2, .int (nI 4294967295)), (0, .int (nI 6)), (1, .int (nI 4))]) (st' := [.int (nI 4294967295)]) (h' := HN g hl (RF rt)) rfl ?_
    refine Ev.call (a := 120) (as := [.int (nI 4294967295)]) (rest := []) (lv0 := [(0, .int (nI 4294967295))]) (Q1 := (fun z0 h' => z0 = some (.int (nI 0)) ∧ h' = HN g hl (RF rt))) rfl rfl (K_isKind _ _ _ _ 4294967295 (by omega) ⟨rfl, rfl⟩) (fun r h' hr => ?_)
    obtain ⟨rfl, rfl⟩ := hr
    refine Ev.run 2 (pc' := 39) (lv' := [(3, .int (nI 3)), (2, .int (nI 4294967295)), (0, .int (nI 6)), (1, .int (nI 4))]) (st' := [.int (nI 0)]) (h' := HN g hl (RF rt)) rfl ?_
    refine Ev.ret (v := some (.int (nI 0))) rfl ?_
    exact hq
  · refine Ev.run 7 (pc' := 9) (lv' := [(3, .int (nI 0)), (2, .int (nI 6)), (0, .int (nI 6)), (1, .int (nI 5))]) (st' := [.int (Int32.ofNat (xLen L 1)), .int (nI 0)]) (h' := HN g hl (RF rt)) rfl ?_
    refine Ev.topI (show Int32.ofNat (xLen L 1) = nI 7 from rfl) ?_
    refine Ev.run 2 (pc' := 13) (lv' := [(3, .int (nI 0)), (2, .int (nI 6)), (0, .int (nI 6)), (1, .int (nI 5))]) (st' := [.int (nI 6)]) (h' := HN g hl (RF rt)) rfl ?_
    refine Ev.call (a := 120) (as := [.int (nI 6)]) (rest := []) (lv0 := [(0, .int (nI 6))]) (Q1 := (fun z0 h' => z0 = some (.int (nI 1)) ∧ h' = HN g hl (RF rt))) rfl rfl (K_isKind _ _ _ _ 6 (by omega) ⟨rfl, rfl⟩) (fun r h' hr => ?_)
    obtain ⟨rfl, rfl⟩ := hr
    refine Ev.run 6 (pc' := 30) (lv' := [(3, .int (nI 0)), (2, .int (nI 6)), (0, .int (nI 6)), (1, .int (nI 5))]) (st' := [.int (nI 6), .retAddr 1]) (h' := HN g hl (RF rt)) rfl ?_
    refine Ev_xald rfl (by decide) (show 6 < 7 by omega) (show 7 < 2 ^ 31 by decide) ?_
    refine Ev.topI (show xVal xs 1 6 = nI 3 from rfl) ?_
    refine Ev.run 6 (pc' := 9) (lv' := [(3, .int (nI 1)), (2, .int (nI 3)), (0, .int (nI 6)), (1, .int (nI 5))]) (st' := [.int (Int32.ofNat (xLen L 1)), .int (nI 1)]) (h' := HN g hl (RF rt)) rfl ?_
    refine Ev.topI (show Int32.ofNat (xLen L 1) = nI 7 from rfl) ?_
    refine Ev.run 2 (pc' := 13) (lv' := [(3, .int (nI 1)), (2, .int (nI 3)), (0, .int (nI 6)), (1, .int (nI 5))]) (st' := [.int (nI 3)]) (h' := HN g hl (RF rt)) rfl ?_
    refine Ev.call (a := 120) (as := [.int (nI 3)]) (rest := []) (lv0 := [(0, .int (nI 3))]) (Q1 := (fun z0 h' => z0 = some (.int (nI 1)) ∧ h' = HN g hl (RF rt))) rfl rfl (K_isKind _ _ _ _ 3 (by omega) ⟨rfl, rfl⟩) (fun r h' hr => ?_)
    obtain ⟨rfl, rfl⟩ := hr
    refine Ev.run 6 (pc' := 30) (lv' := [(3, .int (nI 1)), (2, .int (nI 3)), (0, .int (nI 6)), (1, .int (nI 5))]) (st' := [.int (nI 3), .retAddr 1]) (h' := HN g hl (RF rt)) rfl ?_
    refine Ev_xald rfl (by decide) (show 3 < 7 by omega) (show 7 < 2 ^ 31 by decide) ?_
    refine Ev.topI (show xVal xs 1 3 = nI 0 from rfl) ?_
    refine Ev.run 6 (pc' := 9) (lv' := [(3, .int (nI 2)), (2, .int (nI 0)), (0, .int (nI 6)), (1, .int (nI 5))]) (st' := [.int (Int32.ofNat (xLen L 1)), .int (nI 2)]) (h' := HN g hl (RF rt)) rfl ?_
    refine Ev.topI (show Int32.ofNat (xLen L 1) = nI 7 from rfl) ?_
    refine Ev.run 2 (pc' := 13) (lv' := [(3, .int (nI 2)), (2, .int (nI 0)), (0, .int (nI 6)), (1, .int (nI 5))]) (st' := [.int (nI 0)]) (h' := HN g hl (RF rt)) rfl ?_
    refine Ev.call (a := 120) (as := [.int (nI 0)]) (rest := []) (lv0 := [(0, .int (nI 0))]) (Q1 := (fun z0 h' => z0 = some (.int (nI 1)) ∧ h' = HN g hl (RF rt))) rfl rfl (K_isKind _ _ _ _ 0 (by omega) ⟨rfl, rfl⟩) (fun r h' hr => ?_)
    obtain ⟨rfl, rfl⟩ := hr
    refine Ev.run 6 (pc' := 30) (lv' := [(3, .int (nI 2)), (2, .int (nI 0)), (0, .int (nI 6)), (1, .int (nI 5))]) (st' := [.int (nI 0), .retAddr 1]) (h' := HN g hl (RF rt)) rfl ?_
    refine Ev_xald rfl (by decide) (show 0 < 7 by omega) (show 7 < 2 ^ 31 by decide) ?_
    refine Ev.topI (show xVal xs 1 0 = nI 4294967295 from rfl) ?_
    refine Ev.run 6 (pc' := 9) (lv' := [(3, .int (nI 3)), (2, .int (nI 4294967295)), (0, .int (nI 6)), (1, .int (nI 5))]) (st' := [.int (Int32.ofNat (xLen L 1)), .int (nI 3)]) (h' := HN g hl (RF rt)) rfl ?_
    refine Ev.topI (show Int32.ofNat (xLen L 1) = nI 7 from rfl) ?_
    refine Ev.run 2 (pc' := 13) (lv' := [(3, .int (nI 3)), (2, .int (nI 4294967295)), (0, .int (nI 6)), (1, .int (nI 5))]) (st' := [.int (nI 4294967295)]) (h' := HN g hl (RF rt)) rfl ?_
    refine Ev.call (a := 120) (as := [.int (nI 4294967295)]) (rest := []) (lv0 := [(0, .int (nI 4294967295))]) (Q1 := (fun z0 h' => z0 = some (.int (nI 0)) ∧ h' = HN g hl (RF rt))) rfl rfl (K_isKind _ _ _ _ 4294967295 (by omega) ⟨rfl, rfl⟩) (fun r h' hr => ?_)
    obtain ⟨rfl, rfl⟩ := hr
    refine Ev.run 2 (pc' := 39) (lv' := [(3, .int (nI 3)), (2, .int (nI 4294967295)), (0, .int (nI 6)), (1, .int (nI 5))]) (st' := [.int (nI 0)]) (h' := HN g hl (RF rt)) rfl ?_
    refine Ev.ret (v := some (.int (nI 0))) rfl ?_
    exact hq
  · refine Ev.run 7 (pc' := 9) (lv' := [(3, .int (nI 0)), (2, .int (nI 6)), (0, .int (nI 6)), (1, .int (nI 6))]) (st' := [.int (Int32.ofNat (xLen L 1)), .int (nI 0)]) (h' := HN g hl (RF rt)) rfl ?_
    refine Ev.topI (show Int32.ofNat (xLen L 1) = nI 7 from rfl) ?_
    refine Ev.run 2 (pc' := 13) (lv' := [(3, .int (nI 0)), (2, .int (nI 6)), (0, .int (nI 6)), (1, .int (nI 6))]) (st' := [.int (nI 6)]) (h' := HN g hl (RF rt)) rfl ?_
    refine Ev.call (a := 120) (as := [.int (nI 6)]) (rest := []) (lv0 := [(0, .int (nI 6))]) (Q1 := (fun z0 h' => z0 = some (.int (nI 1)) ∧ h' = HN g hl (RF rt))) rfl rfl (K_isKind _ _ _ _ 6 (by omega) ⟨rfl, rfl⟩) (fun r h' hr => ?_)
    obtain ⟨rfl, rfl⟩ := hr
    refine Ev.run 5 (pc' := 25) (lv' := [(3, .int (nI 0)), (2, .int (nI 6)), (0, .int (nI 6)), (1, .int (nI 6))]) (st' := [.int (nI 1)]) (h' := HN g hl (RF rt)) rfl ?_
    refine Ev.ret (v := some (.int (nI 1))) rfl ?_
    exact hq
theorem K_taken {L : Nat} {xs : Nat → Int32} (d : Nat) (g : Nat → Nat → Nat) (hl : Nat → Nat → Int64) (rt : Nat × Nat × Nat × Nat) (hV : Inv g hl rt) (p : Nat) (k : Nat) (hp : p < 2 ^ 32) (hk : k < 2 ^ 32) {Q : Po} (hq : Q (some (.int (nI (rs_taken g p k)))) (HN (g) hl (RF rt))) : Ev L xs (d + 3) 109 0 [(0, .ref 0), (1, .int (nI p)), (2, .int (nI k))] [] (HN g hl (RF rt)) Q := by
  have hI := hV.mi
  have hW := hI.hW
  have hS := hI.hS
  have hPl := hI.hPl
  have hNx := hI.hNx
  have hLa := hI.hLa
  have hLo := hI.hLo
  have hTb := hI.hTb
  have hTh := hI.hTh
  have hFd := hI.hFd
  have hSn := hI.hSn
  have hSh := hI.hSh
  have hRan := hI.hRan
  have hLr := hI.hLr
  have hLt := hI.hLt
  have hgl := hI.hgl
  have hsz := hI.hsz
  have hcm := hI.hcm
  have hsl := hI.hsl
  have hkd := hI.hkd
  have hvv := hI.hvv
  have hli := hI.hli
  have hro := hI.hro
  have hrw := hI.hrw
  have htx := hI.htx
  have hsw := hI.hsw
  have hsx := hI.hsx
  have hsy := hI.hsy
  have hsh := hI.hsh
  have hle := hI.hle
  have hcl := hI.hcl
  have hwd := hI.hwd
  have hnu := hI.hnu
  have hwn := hI.hwn
  have hs1 := hI.hs1
  have hso := hI.hso
  have hB := hV.gm.cb
  have hB0 := hB.1
  have hPs := hV.gm.cs
  have hsp1 := hV.sp.1
  have htx1 := hV.tx.1
  have h451 := hV.gm.rx.1
  have h442 := hV.gm.rx.2.2.2.1
  have h443 := hV.gm.rx.2.2.2.2
  have h481 := hV.gm.l48.1
  have h501 := hV.gm.l50.1
  have h521 := hV.gm.l52.1
  have h541 := hV.gm.l54.1
  have h04 := hV.tb.1
  have hac1 := hV.ac.1
  have hac2 := hV.ac.2.1
  have hPl0 := hV.gm.cp
  refine Ev.run 1 (pc' := 1) (lv' := [(0, .ref 0), (1, .int (nI p)), (2, .int (nI k))]) (st' := [.int (nI k)]) (h' := HN g hl (RF rt)) rfl ?_
  refine Ev.call (a := 120) (as := [.int (nI k)]) (rest := []) (lv0 := [(0, .int (nI k))]) (Q1 := (fun z0 h' => z0 = some (.int (nI (bn (decide (k ≤ 6))))) ∧ h' = HN g hl (RF rt))) rfl rfl (K_isKind _ _ _ _ k (by omega) ⟨rfl, rfl⟩) (fun r h' hr => ?_)
  obtain ⟨rfl, rfl⟩ := hr
  refine Ev_bn (fun hb4 => ?_) (fun hb4 => ?_)
  · have hhb4 : k ≤ 6 := of_decide_eq_true hb4
    refine Ev.run 4 (pc' := 15) (lv' := [(0, .ref 0), (1, .int (nI p)), (2, .int (nI k))]) (st' := [.int (nI p), .ref 12]) (h' := HN g hl (RF rt)) rfl ?_
    refine Ev.call (a := 22) (as := [.ref 12, .int (nI p)]) (rest := []) (lv0 := [(0, .ref 12), (1, .int (nI p))]) (Q1 := (fun z0 h' => z0 = some (.int (nI (bn (decide (p < g 12 2))))) ∧ h' = HN g hl (RF rt))) rfl rfl (K_hasPlayer2 _ _ _ _ (by omega) p (by omega) ⟨rfl, rfl⟩) (fun r h' hr => ?_)
    obtain ⟨rfl, rfl⟩ := hr
    refine Ev_bn (fun hb18 => ?_) (fun hb18 => ?_)
    · have hhb18 : p < g 12 2 := of_decide_eq_true hb18
      refine Ev.run 5 (pc' := 32) (lv' := [(0, .ref 0), (1, .int (nI p)), (2, .int (nI k))]) (st' := [.int (nI p), .ref 43]) (h' := HN g hl (RF rt)) rfl ?_
      refine Ev_aald (c := (60 + 2 * p)) rfl (by decide) rfl (show p < 5 by omega) (Nat.le_of_ble_eq_true rfl) (sh_pl rt p (by omega)).2.2.1 ?_
      refine Ev_gfI rfl rfl rfl (kcP (show p < 5 by omega)) ?_
      refine Ev.topI (congrArg nI ((hPl0.1 p (by omega)).1)) ?_
      have hkdp := hkd p (by omega)
      refine Ev.run 3 (pc' := 39) (lv' := [(3, .int (nI (g 171 p))), (0, .ref 0), (1, .int (nI p)), (2, .int (nI k))]) (st' := [.int (nI k), .int (nI (g 171 p))]) (h' := HN g hl (RF rt)) rfl ?_
      refine Ev.call (a := 121) (as := [.int (nI (g 171 p)), .int (nI k)]) (rest := []) (lv0 := [(0, .int (nI (g 171 p))), (1, .int (nI k))]) (Q1 := (fun z0 h' => z0 = some (.int (nI (bn (und7 (g 171 p) k)))) ∧ h' = HN g hl (RF rt))) rfl rfl (K_und7 _ _ _ _ (g 171 p) k (by omega) (by omega) ⟨rfl, rfl⟩) (fun r h' hr => ?_)
      obtain ⟨rfl, rfl⟩ := hr
      refine Ev_bn (fun hb42 => ?_) (fun hb42 => ?_)
      · skip
        refine Ev.run 3 (pc' := 51) (lv' := [(3, .int (nI (g 171 p))), (0, .ref 0), (1, .int (nI p)), (2, .int (nI k))]) (st' := [.int (nI (g 171 p))]) (h' := HN g hl (RF rt)) rfl ?_
        refine Ev.ret (v := some (.int (nI (g 171 p)))) rfl ?_
        unfold rs_taken at hq
        rw [if_pos (by omega), if_pos (by omega)] at hq
        unfold und7 at hb42
        rw [if_pos (of_decide_eq_true hb42)] at hq
        exact hq
      · skip
        refine Ev.run 2 (pc' := 51) (lv' := [(3, .int (nI (g 171 p))), (0, .ref 0), (1, .int (nI p)), (2, .int (nI k))]) (st' := [.int (nI 4294967284)]) (h' := HN g hl (RF rt)) rfl ?_
        refine Ev.ret (v := some (.int (nI 4294967284))) rfl ?_
        unfold rs_taken at hq
        rw [if_pos (by omega), if_pos (by omega)] at hq
        unfold und7 at hb42
        rw [if_neg (of_decide_eq_false hb42)] at hq
        exact hq
    · have hhb18 : ¬ (p < g 12 2) := of_decide_eq_false hb18
      refine Ev.run 2 (pc' := 23) (lv' := [(0, .ref 0), (1, .int (nI p)), (2, .int (nI k))]) (st' := [.int (nI 4294967285)]) (h' := HN g hl (RF rt)) rfl ?_
      refine Ev.ret (v := some (.int (nI 4294967285))) rfl ?_
      unfold rs_taken at hq
      (repeat (first | rw [if_pos (by omega)] at hq | rw [if_neg (by omega)] at hq))
      exact hq
  · have hhb4 : ¬ (k ≤ 6) := of_decide_eq_false hb4
    refine Ev.run 2 (pc' := 9) (lv' := [(0, .ref 0), (1, .int (nI p)), (2, .int (nI k))]) (st' := [.int (nI 4294967294)]) (h' := HN g hl (RF rt)) rfl ?_
    refine Ev.ret (v := some (.int (nI 4294967294))) rfl ?_
    unfold rs_taken at hq
    (repeat (first | rw [if_pos (by omega)] at hq | rw [if_neg (by omega)] at hq))
    exact hq
