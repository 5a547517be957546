/-! the reference: a table asked for, a player -/
theorem nI_subU {a q : Nat} (h : q ≤ a) : nI a - nI q = nI (a - q) := by
  refine nI_ext ?_
  rw [Int32.toBitVec_sub, BitVec.toNat_sub, nI_toN, nI_toN]
  omega
theorem C_table {L : Nat} {xs : Nat → Int32} (d : Nat) (g : Nat → Nat → Nat) (hl : Nat → Nat → Int64) (rt : Nat × Nat × Nat × Nat) (hI : MI g) (hLG : HLt g) {Q : Po} (hq : (g 166 15 = 6 → Q (some (.int (nI 4294967292))) (HN g hl (RF rt))) ∧ (∀ (G : Nat → Nat → Nat) (q : Nat) (l2 : List Nat) (cs : List (Nat × Nat × Nat × Nat)) (dd : Nat) (w2 : Nat → Nat) (n2 op2 : Nat), g 166 15 < 6 → goF g (100 * g 166 15) 10 0 [] [] = (true, q, l2, cs) → GR g G (g 166 15) cs → G 177 (g 166 15) = cs.length → l2.length ≤ q → q ≤ g 166 17 → Q (some (.int (nI (g 166 15)))) (HN (PT (u2 (u2 (u2 G 166 17 0) 166 16 (g 166 15)) 166 15 (g 166 15 + 1)) q dd (100 * g 166 15) l2 w2 n2 op2) hl (RF rt))) ∧ (∀ (G : Nat → Nat → Nat) (q : Nat) (l2 : List Nat) (cs : List (Nat × Nat × Nat × Nat)) (dd : Nat) (w2 : Nat → Nat) (n2 op2 : Nat), g 166 15 < 6 → goF g (100 * g 166 15) 10 0 [] [] = (false, q, l2, cs) → GR g G (g 166 15) cs → l2.length ≤ q → q ≤ g 166 17 → Q (some (.int (nI (4294967286 - q)))) (HN (PT (u2 G 166 17 0) q dd (100 * g 166 15) l2 w2 n2 op2) hl (RF rt)))) : Ev L xs (d + 7) 155 0 [(0, .ref 166)] [] (HN g hl (RF rt)) Q := by
  have hW := hI.hW
  have hS := hI.hS
  have hPl := hI.hPl
  have hNx := hI.hNx
  have hLa := hI.hLa
  have hLo := hI.hLo
  have hTb := hI.hTb
  have hTh := hI.hTh
  have hFd := hI.hFd
  have hSn := hI.hSn
  have hSh := hI.hSh
  have hRan := hI.hRan
  have hLr := hI.hLr
  have hLt := hI.hLt
  have hgl := hI.hgl
  have hsz := hI.hsz
  have hcm := hI.hcm
  have hsl := hI.hsl
  have hkd := hI.hkd
  have hvv := hI.hvv
  have hli := hI.hli
  have hro := hI.hro
  have hrw := hI.hrw
  have htx := hI.htx
  have hsw := hI.hsw
  have hsx := hI.hsx
  have hsy := hI.hsy
  have hsh := hI.hsh
  have hle := hI.hle
  have hcl := hI.hcl
  have hwd := hI.hwd
  have hnu := hI.hnu
  have hwn := hI.hwn
  have hs1 := hI.hs1
  have hso := hI.hso
  have hF := hFd
  have htx2 : ∀ j, j < 100 → g 176 j ≤ 127 := htx
  refine Ev.run 4 (pc' := (if nI (g 166 15) = nI 6 then 9 else 12)) (lv' := [(0, .ref 166)]) (st' := []) (h' := HN g hl (RF rt)) rfl ?_
  refine Ev.ite (fun hc6 => ?_) (fun hc6 => ?_)
  · have hc6 : (g 166 15) = 6 := (nI_eqU (by omega) (by omega)).mp hc6
    refine Ev.run 1 (pc' := 11) (lv' := [(0, .ref 166)]) (st' := [.int (nI 4294967292)]) (h' := HN g hl (RF rt)) rfl ?_
    refine Ev.ret (v := some (.int (nI 4294967292))) rfl ?_
    exact hq.1 hc6
  · have hc6 : ¬ ((g 166 15) = 6) := fun z => hc6 ((nI_eqU (by omega) (by omega)).mpr z)
    refine Ev.run 3 (pc' := 17) (lv' := [(0, .ref 166)]) (st' := [.int (nI (g 166 15)), .ref 166]) (h' := HN g hl (RF rt)) rfl ?_
    refine Ev.call (a := 154) (as := [.ref 166, .int (nI (g 166 15))]) (rest := []) (lv0 := [(0, .ref 166), (1, .int (nI (g 166 15)))]) (Q1 := (fun z0 h' => (∃ (G : Nat → Nat → Nat) (q : Nat) (l2 : List Nat) (cs : List (Nat × Nat × Nat × Nat)) (dd : Nat) (w2 : Nat → Nat) (n2 op2 : Nat), goF g (100 * (g 166 15)) 10 0 [] [] = (true, q, l2, cs) ∧ GR g G (g 166 15) cs ∧ G 177 (g 166 15) = cs.length ∧ l2.length ≤ q ∧ q ≤ g 166 17 ∧ z0 = some (.int (nI 1)) ∧ h' = HN (PT G q dd (100 * (g 166 15)) l2 w2 n2 op2) hl (RF rt)) ∨ (∃ (G : Nat → Nat → Nat) (q : Nat) (l2 : List Nat) (cs : List (Nat × Nat × Nat × Nat)) (dd : Nat) (w2 : Nat → Nat) (n2 op2 : Nat), goF g (100 * (g 166 15)) 10 0 [] [] = (false, q, l2, cs) ∧ GR g G (g 166 15) cs ∧ l2.length ≤ q ∧ q ≤ g 166 17 ∧ z0 = some (.int (nI 0)) ∧ h' = HN (PT G q dd (100 * (g 166 15)) l2 w2 n2 op2) hl (RF rt)))) rfl rfl (C_goesText _ _ _ _ hF htx2 hLG hwd hnu (g 166 15) (by omega) (hcl _ (by omega)) ⟨fun G q l2 cs dd w2 n2 op2 z h1 h2 h3 h4 => Or.inl ⟨G, q, l2, cs, dd, w2, n2, op2, z, h1, h2, h3, h4, rfl, rfl⟩, fun G q l2 cs dd w2 n2 op2 z h1 h2 h3 => Or.inr ⟨G, q, l2, cs, dd, w2, n2, op2, z, h1, h2, h3, rfl, rfl⟩⟩) (fun r h' hr => ?_)
    rcases hr with ⟨G132, q132, l132, cs132, dd132, w132, n132, op132, hgo, hgr, hg7, hl1, hl2, rfl, rfl⟩ | ⟨G132, q132, l132, cs132, dd132, w132, n132, op132, hgo, hgr, hl1, hl2, rfl, rfl⟩
    · skip
      have e15 : G132 166 15 = g 166 15 := congrFun (hgr.1 166 (by decide) (by decide) (by decide) (by decide) (by decide)) 15
      refine Ev.run 4 (pc' := 26) (lv' := [(1, .int (nI 1)), (0, .ref 166)]) (st' := []) (h' := setI (HN (PT G132 q132 dd132 (100 * (g 166 15)) l132 w132 n132 op132) hl (RF rt)) 166 17 (nI 0)) rfl ?_
      refine Ev.hp (HN_set _ _ _ _ _ _) ?_
      refine Ev.hp (congrArg (fun z => HN z hl (RF rt)) (PT_f _ _ _ _ _ _ _ _ 17 _ (by decide))) ?_
      refine Ev.run 5 (pc' := 43) (lv' := [(1, .int (nI 1)), (0, .ref 166)]) (st' := [.int (nI ((u2 G132 166 17 0) 166 15)), .ref 166]) (h' := HN (PT (u2 G132 166 17 0) q132 dd132 (100 * (g 166 15)) l132 w132 n132 op132) hl (RF rt)) rfl ?_
      refine Ev.topI (congrArg nI (show (u2 G132 166 17 0) 166 15 = g 166 15 from e15)) ?_
      refine Ev.run 1 (pc' := 46) (lv' := [(1, .int (nI 1)), (0, .ref 166)]) (st' := []) (h' := setI (HN (PT (u2 G132 166 17 0) q132 dd132 (100 * (g 166 15)) l132 w132 n132 op132) hl (RF rt)) 166 16 (nI (g 166 15))) rfl ?_
      refine Ev.hp (HN_set _ _ _ _ _ _) ?_
      refine Ev.hp (congrArg (fun z => HN z hl (RF rt)) (PT_f _ _ _ _ _ _ _ _ 16 _ (by decide))) ?_
      refine Ev.run 3 (pc' := 51) (lv' := [(1, .int (nI 1)), (0, .ref 166)]) (st' := [.int (nI ((u2 (u2 G132 166 17 0) 166 16 (g 166 15)) 166 15)), .ref 166]) (h' := HN (PT (u2 (u2 G132 166 17 0) 166 16 (g 166 15)) q132 dd132 (100 * (g 166 15)) l132 w132 n132 op132) hl (RF rt)) rfl ?_
      refine Ev.topI (congrArg nI (show (u2 (u2 G132 166 17 0) 166 16 (g 166 15)) 166 15 = g 166 15 from e15)) ?_
      refine Ev.run 2 (pc' := 53) (lv' := [(1, .int (nI 1)), (0, .ref 166)]) (st' := [.int (nI (g 166 15) + nI 1), .ref 166]) (h' := HN (PT (u2 (u2 G132 166 17 0) 166 16 (g 166 15)) q132 dd132 (100 * (g 166 15)) l132 w132 n132 op132) hl (RF rt)) rfl ?_
      refine Ev.topI (nI_add _ _) ?_
      refine Ev.run 1 (pc' := 56) (lv' := [(1, .int (nI 1)), (0, .ref 166)]) (st' := []) (h' := setI (HN (PT (u2 (u2 G132 166 17 0) 166 16 (g 166 15)) q132 dd132 (100 * (g 166 15)) l132 w132 n132 op132) hl (RF rt)) 166 15 (nI ((g 166 15) + 1))) rfl ?_
      refine Ev.hp (HN_set _ _ _ _ _ _) ?_
      refine Ev.hp (congrArg (fun z => HN z hl (RF rt)) (PT_f _ _ _ _ _ _ _ _ 15 _ (by decide))) ?_
      refine Ev.run 2 (pc' := 60) (lv' := [(1, .int (nI 1)), (0, .ref 166)]) (st' := [.int (nI ((u2 (u2 (u2 G132 166 17 0) 166 16 (g 166 15)) 166 15 ((g 166 15) + 1)) 166 16))]) (h' := HN (PT (u2 (u2 (u2 G132 166 17 0) 166 16 (g 166 15)) 166 15 ((g 166 15) + 1)) q132 dd132 (100 * (g 166 15)) l132 w132 n132 op132) hl (RF rt)) rfl ?_
      refine Ev.ret (v := some (.int (nI ((u2 (u2 (u2 G132 166 17 0) 166 16 (g 166 15)) 166 15 ((g 166 15) + 1)) 166 16)))) rfl ?_
      exact hq.2.1 _ _ _ _ _ _ _ _ (by omega) hgo hgr hg7 hl1 hl2
    · skip
      refine Ev.run 4 (pc' := 26) (lv' := [(1, .int (nI 0)), (0, .ref 166)]) (st' := []) (h' := setI (HN (PT G132 q132 dd132 (100 * (g 166 15)) l132 w132 n132 op132) hl (RF rt)) 166 17 (nI 0)) rfl ?_
      refine Ev.hp (HN_set _ _ _ _ _ _) ?_
      refine Ev.hp (congrArg (fun z => HN z hl (RF rt)) (PT_f _ _ _ _ _ _ _ _ 17 _ (by decide))) ?_
      refine Ev.run 6 (pc' := 37) (lv' := [(1, .int (nI 0)), (0, .ref 166)]) (st' := [.int (nI 4294967286 - nI q132)]) (h' := HN (PT (u2 G132 166 17 0) q132 dd132 (100 * (g 166 15)) l132 w132 n132 op132) hl (RF rt)) rfl ?_
      refine Ev.topI (nI_subU (by omega)) ?_
      refine Ev.ret (v := some (.int (nI (4294967286 - q132)))) rfl ?_
      exact hq.2.2 _ _ _ _ _ _ _ _ (by omega) hgo hgr hl1 hl2
theorem C_player {L : Nat} {xs : Nat → Int32} (d : Nat) (g : Nat → Nat → Nat) (hl : Nat → Nat → Int64) (rt : Nat × Nat × Nat × Nat) (hI : MI g) (k : Nat) (v : Nat) (hk : k < 2 ^ 32) (hv : v < 2 ^ 32) {Q : Po} (hq : Q (some (.int (nI (rs_player g k v)))) (HN (gs_player g k v) hl (RF rt))) : Ev L xs (d + 2) 136 0 [(0, .ref 166), (1, .int (nI k)), (2, .int (nI v))] [] (HN g hl (RF rt)) Q := by
  have hW := hI.hW
  have hS := hI.hS
  have hPl := hI.hPl
  have hNx := hI.hNx
  have hLa := hI.hLa
  have hLo := hI.hLo
  have hTb := hI.hTb
  have hTh := hI.hTh
  have hFd := hI.hFd
  have hSn := hI.hSn
  have hSh := hI.hSh
  have hRan := hI.hRan
  have hLr := hI.hLr
  have hLt := hI.hLt
  have hgl := hI.hgl
  have hsz := hI.hsz
  have hcm := hI.hcm
  have hsl := hI.hsl
  have hkd := hI.hkd
  have hvv := hI.hvv
  have hli := hI.hli
  have hro := hI.hro
  have hrw := hI.hrw
  have htx := hI.htx
  have hsw := hI.hsw
  have hsx := hI.hsx
  have hsy := hI.hsy
  have hsh := hI.hsh
  have hle := hI.hle
  have hcl := hI.hcl
  have hwd := hI.hwd
  have hnu := hI.hnu
  have hwn := hI.hwn
  have hs1 := hI.hs1
  have hso := hI.hso
  refine Ev.run 4 (pc' := 5) (lv' := [(0, .ref 166), (1, .int (nI k)), (2, .int (nI v))]) (st' := [.int (nI 6), .int (nI 0), .int (nI k), .ref 166]) (h' := HN g hl (RF rt)) rfl ?_
  refine Ev.call (a := 126) (as := [.ref 166, .int (nI k), .int (nI 0), .int (nI 6)]) (rest := []) (lv0 := [(0, .ref 166), (1, .int (nI k)), (2, .int (nI 0)), (3, .int (nI 6))]) (Q1 := (fun z0 h' => z0 = some (.int (nI (bn (decide (k ≤ 6))))) ∧ h' = HN g hl (RF rt))) rfl rfl (C_in _ _ _ _ (nI k) (nI 0) (nI 6) (by rw [in0 (by omega) (by omega)]; exact ⟨rfl, rfl⟩)) (fun r h' hr => ?_)
  obtain ⟨rfl, rfl⟩ := hr
  refine Ev_bn (fun hb8 => ?_) (fun hb8 => ?_)
  · have hhb8 : k ≤ 6 := of_decide_eq_true hb8
    refine Ev.run 5 (pc' := 18) (lv' := [(0, .ref 166), (1, .int (nI k)), (2, .int (nI v))]) (st' := [.int (nI 9), .int (nI 0), .int (nI v), .ref 166]) (h' := HN g hl (RF rt)) rfl ?_
    refine Ev.call (a := 126) (as := [.ref 166, .int (nI v), .int (nI 0), .int (nI 9)]) (rest := []) (lv0 := [(0, .ref 166), (1, .int (nI v)), (2, .int (nI 0)), (3, .int (nI 9))]) (Q1 := (fun z0 h' => z0 = some (.int (nI (bn (decide (v ≤ 9))))) ∧ h' = HN g hl (RF rt))) rfl rfl (C_in _ _ _ _ (nI v) (nI 0) (nI 9) (by rw [in0 (by omega) (by omega)]; exact ⟨rfl, rfl⟩)) (fun r h' hr => ?_)
    obtain ⟨rfl, rfl⟩ := hr
    refine Ev_bn (fun hb21 => ?_) (fun hb21 => ?_)
    · have hhb21 : v ≤ 9 := of_decide_eq_true hb21
      refine Ev.run 5 (pc' := (if nI (g 166 6) = nI 5 then 35 else 38)) (lv' := [(0, .ref 166), (1, .int (nI k)), (2, .int (nI v))]) (st' := []) (h' := HN g hl (RF rt)) rfl ?_
      refine Ev.ite (fun hc32 => ?_) (fun hc32 => ?_)
      · have hc32 : (g 166 6) = 5 := (nI_eqU (by omega) (by omega)).mp hc32
        refine Ev.run 1 (pc' := 37) (lv' := [(0, .ref 166), (1, .int (nI k)), (2, .int (nI v))]) (st' := [.int (nI 4294967292)]) (h' := HN g hl (RF rt)) rfl ?_
        refine Ev.ret (v := some (.int (nI 4294967292))) rfl ?_
        unfold rs_player gs_player at hq
        rw [if_pos (by omega), if_pos (by omega), if_pos (by omega), if_pos (by omega), if_pos (by omega), if_pos (by omega)] at hq
        exact hq
      · have hc32 : ¬ ((g 166 6) = 5) := fun z => hc32 ((nI_eqU (by omega) (by omega)).mpr z)
        refine Ev.run 5 (pc' := 47) (lv' := [(0, .ref 166), (1, .int (nI k)), (2, .int (nI v))]) (st' := [.int (nI k), .int (nI (g 166 6)), .ref 171]) (h' := HN g hl (RF rt)) rfl ?_
        refine Ev_iast rfl rfl (show g 166 6 < 5 by omega) (Nat.le_of_ble_eq_true rfl) ?_
        refine Ev.run 5 (pc' := 57) (lv' := [(0, .ref 166), (1, .int (nI k)), (2, .int (nI v))]) (st' := [.int (nI v), .int (nI (g 166 6)), .ref 172]) (h' := HN (u2 g 171 (g 166 6) k) hl (RF rt)) rfl ?_
        refine Ev_iast rfl rfl (show g 166 6 < 5 by omega) (Nat.le_of_ble_eq_true rfl) ?_
        refine Ev.run 6 (pc' := 68) (lv' := [(0, .ref 166), (1, .int (nI k)), (2, .int (nI v))]) (st' := [.int (nI 2), .ref 166, .int (nI (g 166 6)), .ref 173]) (h' := HN (u2 (u2 g 171 (g 166 6) k) 172 (g 166 6) v) hl (RF rt)) rfl ?_
        refine Ev.call (a := 158) (as := [.ref 166, .int (nI 2)]) (rest := [.int (nI (g 166 6)), .ref 173]) (lv0 := [(0, .ref 166), (1, .int (nI 2))]) (Q1 := (fun z0 h' => z0 = some (.int (nI (lwS g 2))) ∧ h' = HN (u2 (u2 g 171 (g 166 6) k) 172 (g 166 6) v) hl (RF rt))) rfl rfl (C_lastOf _ _ _ _ ((hI.a171 (by omega)).a172 (by omega)) 2 (by omega) ⟨congrArg (fun z => some (Value.int (nI z))) (lwS_u g _ _ _ _), rfl⟩) (fun r h' hr => ?_)
        obtain ⟨rfl, rfl⟩ := hr
        have hlw := lwS_le hI 2
        refine Ev_iast rfl rfl (show g 166 6 < 5 by omega) (Nat.le_of_ble_eq_true rfl) ?_
        refine Ev.run 2 (pc' := 74) (lv' := [(3, .int (nI 0)), (0, .ref 166), (1, .int (nI k)), (2, .int (nI v))]) (st' := []) (h' := HN (u2 (u2 (u2 g 171 (g 166 6) k) 172 (g 166 6) v) 173 (g 166 6) (lwS g 2)) hl (RF rt)) rfl ?_
        refine Ev.hp (congrArg (fun z => HN z hl (RF rt)) (cpR_0 (u2 (u2 (u2 g 171 (g 166 6) k) 172 (g 166 6) v) 173 (g 166 6) (lwS g 2)) 174 (4 * g 166 6) (fun _ => 0)).symm) ?_
        refine for_ind 4 (fun n => Ev L xs (d + 2) 136 74 [(3, .int (nI n)), (0, .ref 166), (1, .int (nI k)), (2, .int (nI v))] [] (HN (cpR (u2 (u2 (u2 g 171 (g 166 6) k) 172 (g 166 6) v) 173 (g 166 6) (lwS g 2)) 174 (4 * g 166 6) n (fun _ => 0)) hl (RF rt)) Q) (fun n hn hnext => ?_) 0 (Nat.zero_le _)
        refine Ev.run 3 (pc' := (if nI 4 ≤ nI n then 99 else 79)) (lv' := [(3, .int (nI n)), (0, .ref 166), (1, .int (nI k)), (2, .int (nI v))]) (st' := []) (h' := HN (cpR (u2 (u2 (u2 g 171 (g 166 6) k) 172 (g 166 6) v) 173 (g 166 6) (lwS g 2)) 174 (4 * g 166 6) n (fun _ => 0)) hl (RF rt)) rfl ?_
        refine Ev.ite (fun hc76 => ?_) (fun hc76 => ?_)
        · have hc76 : 4 ≤ n := (nI_leI (by omega) (by omega)).mp hc76
          refine Ev.run 5 (pc' := 106) (lv' := [(3, .int (nI n)), (0, .ref 166), (1, .int (nI k)), (2, .int (nI v))]) (st' := [.int (nI (g 166 6) + nI 1), .ref 166]) (h' := HN (cpR (u2 (u2 (u2 g 171 (g 166 6) k) 172 (g 166 6) v) 173 (g 166 6) (lwS g 2)) 174 (4 * g 166 6) n (fun _ => 0)) hl (RF rt)) rfl ?_
          refine Ev.topI (nI_add _ _) ?_
          refine Ev.run 1 (pc' := 109) (lv' := [(3, .int (nI n)), (0, .ref 166), (1, .int (nI k)), (2, .int (nI v))]) (st' := []) (h' := setI (HN (cpR (u2 (u2 (u2 g 171 (g 166 6) k) 172 (g 166 6) v) 173 (g 166 6) (lwS g 2)) 174 (4 * g 166 6) n (fun _ => 0)) hl (RF rt)) 166 6 (nI ((g 166 6) + 1))) rfl ?_
          refine Ev.hp (HN_set _ _ _ _ _ _) ?_
          refine Ev.run 4 (pc' := 115) (lv' := [(3, .int (nI n)), (0, .ref 166), (1, .int (nI k)), (2, .int (nI v))]) (st' := [.int (nI ((g 166 6) + 1) - nI 1)]) (h' := HN (u2 (cpR (u2 (u2 (u2 g 171 (g 166 6) k) 172 (g 166 6) v) 173 (g 166 6) (lwS g 2)) 174 (4 * g 166 6) n (fun _ => 0)) 166 6 ((g 166 6) + 1)) hl (RF rt)) rfl ?_
          refine Ev.topI ((pk_sub (a := g 166 6 + 1) (b := 1) (by omega)).trans (congrArg nI (show g 166 6 + 1 - 1 = g 166 6 by omega))) ?_
          refine Ev.ret (v := some (.int (nI (g 166 6)))) rfl ?_
          unfold rs_player gs_player at hq
          rw [if_pos (by omega), if_pos (by omega), if_neg (by omega), if_pos (by omega), if_pos (by omega), if_neg (by omega)] at hq
          obtain rfl : n = 4 := by omega
          exact hq
        · have hc76 : ¬ (4 ≤ n) := fun z => hc76 ((nI_leI (by omega) (by omega)).mpr z)
          refine Ev.run 6 (pc' := 89) (lv' := [(3, .int (nI n)), (0, .ref 166), (1, .int (nI k)), (2, .int (nI v))]) (st' := [.int (nI 4 * nI (g 166 6)), .ref 174]) (h' := HN (cpR (u2 (u2 (u2 g 171 (g 166 6) k) 172 (g 166 6) v) 173 (g 166 6) (lwS g 2)) 174 (4 * g 166 6) n (fun _ => 0)) hl (RF rt)) rfl ?_
          refine Ev.topI (pk_mul _ _) ?_
          refine Ev.run 2 (pc' := 91) (lv' := [(3, .int (nI n)), (0, .ref 166), (1, .int (nI k)), (2, .int (nI v))]) (st' := [.int (nI (4 * (g 166 6)) + nI n), .ref 174]) (h' := HN (cpR (u2 (u2 (u2 g 171 (g 166 6) k) 172 (g 166 6) v) 173 (g 166 6) (lwS g 2)) 174 (4 * g 166 6) n (fun _ => 0)) hl (RF rt)) rfl ?_
          refine Ev.topI (nI_add _ _) ?_
          refine Ev.run 1 (pc' := 92) (lv' := [(3, .int (nI n)), (0, .ref 166), (1, .int (nI k)), (2, .int (nI v))]) (st' := [.int (nI 0), .int (nI ((4 * (g 166 6)) + n)), .ref 174]) (h' := HN (cpR (u2 (u2 (u2 g 171 (g 166 6) k) 172 (g 166 6) v) 173 (g 166 6) (lwS g 2)) 174 (4 * g 166 6) n (fun _ => 0)) hl (RF rt)) rfl ?_
          refine Ev_iast rfl rfl (show (4 * (g 166 6)) + n < 20 by omega) (Nat.le_of_ble_eq_true rfl) ?_
          refine Ev.run 1 (pc' := 96) (lv' := [(3, .int (nI n + 1)), (0, .ref 166), (1, .int (nI k)), (2, .int (nI v))]) (st' := []) (h' := HN (u2 (cpR (u2 (u2 (u2 g 171 (g 166 6) k) 172 (g 166 6) v) 173 (g 166 6) (lwS g 2)) 174 (4 * g 166 6) n (fun _ => 0)) 174 ((4 * (g 166 6)) + n) 0) hl (RF rt)) rfl ?_
          refine Ev.lvE (congrArg (fun z => (3, Value.int z) :: [(0, .ref 166), (1, .int (nI k)), (2, .int (nI v))]) (nI_1 _)) ?_
          refine Ev.run 1 (pc' := 74) (lv' := [(3, .int (nI (n + 1))), (0, .ref 166), (1, .int (nI k)), (2, .int (nI v))]) (st' := []) (h' := HN (u2 (cpR (u2 (u2 (u2 g 171 (g 166 6) k) 172 (g 166 6) v) 173 (g 166 6) (lwS g 2)) 174 (4 * g 166 6) n (fun _ => 0)) 174 ((4 * (g 166 6)) + n) 0) hl (RF rt)) rfl ?_
          have hx := hnext (by omega)
          rw [← cpR_s] at hx
          exact hx
    · have hhb21 : ¬ (v ≤ 9) := of_decide_eq_false hb21
      refine Ev.run 2 (pc' := 26) (lv' := [(0, .ref 166), (1, .int (nI k)), (2, .int (nI v))]) (st' := [.int (nI 4294967294)]) (h' := HN g hl (RF rt)) rfl ?_
      refine Ev.ret (v := some (.int (nI 4294967294))) rfl ?_
      unfold rs_player gs_player at hq
      rw [if_pos (by omega), if_neg (by omega), if_pos (by omega), if_neg (by omega)] at hq
      exact hq
  · have hhb8 : ¬ (k ≤ 6) := of_decide_eq_false hb8
    refine Ev.run 2 (pc' := 12) (lv' := [(0, .ref 166), (1, .int (nI k)), (2, .int (nI v))]) (st' := [.int (nI 4294967295)]) (h' := HN g hl (RF rt)) rfl ?_
    refine Ev.ret (v := some (.int (nI 4294967295))) rfl ?_
    unfold rs_player gs_player at hq
    rw [if_neg (by omega), if_neg (by omega)] at hq
    exact hq
