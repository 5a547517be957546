/-! the class: small changes -/
def cs_spell (g : Nat → Nat → Nat) (x : Nat) : Nat → Nat → Nat := if x = 4294967295 then u2 g 1 1 0 else if x ≤ 3 then (if g 166 1 = 6 then g else u2 (u2 g 2 (g 166 1) x) 1 1 (g 166 1 + 1)) else g
def cs_feed (g : Nat → Nat → Nat) (x : Nat) : Nat → Nat → Nat := if x ≤ 127 then (if g 166 17 = 100 then g else u2 (u2 g 4 (g 166 17) x) 3 1 (g 166 17 + 1)) else g
def cs_live (g : Nat → Nat → Nat) (p n : Nat) : Nat → Nat → Nat := if p < g 166 6 then (if n ≤ 99 then u2 g 47 p n else g) else g
def cs_row (g : Nat → Nat → Nat) (p a n : Nat) : Nat → Nat → Nat := if p < g 166 6 then (if a ≤ 3 then (if n ≤ 3 then (if g 171 p = 6 then u2 g (60 + 2 * p + 1) a n else g) else g) else g) else g
def cs_begin (g : Nat → Nat → Nat) (p : Nat) : Nat → Nat → Nat := if p < g 166 6 then (if g 173 p = 0 then g else u2 (u2 (u2 g 45 1 0) 44 3 4294967295) 44 2 p) else g
def cs_see (g : Nat → Nat → Nat) (p i n : Nat) : Nat → Nat → Nat := if p = 4294967295 then u2 (u2 (u2 g 48 1 0) 50 1 0) 52 1 0 else if p < g 166 6 then (if i < g 166 0 then (if 1 ≤ n ∧ n ≤ g 168 i then (if g 166 44 = 6 then g else u2 (u2 (u2 (u2 (u2 (u2 g 49 (g 166 44) p) 48 1 (g 166 44 + 1)) 51 (g 166 44) i) 50 1 (g 166 44 + 1)) 53 (g 166 44) n) 52 1 (g 166 44 + 1)) else g) else g) else g
def cs_sheet (g : Nat → Nat → Nat) (p : Nat) : Nat → Nat → Nat := if p = 4294967295 then u2 g 54 1 0 else if p < g 166 6 then (if g 166 48 = 8 then g else u2 (u2 g 55 (g 166 48) p) 54 1 (g 166 48 + 1)) else g
theorem K_spell {L : Nat} {xs : Nat → Int32} (d : Nat) (g : Nat → Nat → Nat) (hl : Nat → Nat → Int64) (rt : Nat × Nat × Nat × Nat) (hV : Inv g hl rt) (x : Nat) (hx : x < 2 ^ 32) {Q : Po} (hq : Q (some (.int (nI (rs_spell g x)))) (HN (cs_spell g x) hl (RF rt))) : Ev L xs (d + 1) 76 0 [(0, .ref 0), (1, .int (nI x))] [] (HN g hl (RF rt)) Q := by
  have hI := hV.mi
  have hW := hI.hW
  have hS := hI.hS
  have hPl := hI.hPl
  have hNx := hI.hNx
  have hLa := hI.hLa
  have hLo := hI.hLo
  have hTb := hI.hTb
  have hTh := hI.hTh
  have hFd := hI.hFd
  have hSn := hI.hSn
  have hSh := hI.hSh
  have hRan := hI.hRan
  have hLr := hI.hLr
  have hLt := hI.hLt
  have hgl := hI.hgl
  have hsz := hI.hsz
  have hcm := hI.hcm
  have hsl := hI.hsl
  have hkd := hI.hkd
  have hvv := hI.hvv
  have hli := hI.hli
  have hro := hI.hro
  have hrw := hI.hrw
  have htx := hI.htx
  have hsw := hI.hsw
  have hsx := hI.hsx
  have hsy := hI.hsy
  have hsh := hI.hsh
  have hle := hI.hle
  have hcl := hI.hcl
  have hwd := hI.hwd
  have hnu := hI.hnu
  have hwn := hI.hwn
  have hs1 := hI.hs1
  have hso := hI.hso
  have hB := hV.gm.cb
  have hB0 := hB.1
  have hPs := hV.gm.cs
  have hsp1 := hV.sp.1
  have htx1 := hV.tx.1
  have h451 := hV.gm.rx.1
  have h442 := hV.gm.rx.2.2.2.1
  have h443 := hV.gm.rx.2.2.2.2
  have h481 := hV.gm.l48.1
  have h501 := hV.gm.l50.1
  have h521 := hV.gm.l52.1
  have h541 := hV.gm.l54.1
  have h04 := hV.tb.1
  have hac1 := hV.ac.1
  have hac2 := hV.ac.2.1
  have hPl0 := hV.gm.cp
  refine Ev.run 3 (pc' := (if nI x = nI 4294967295 then 5 else 14)) (lv' := [(0, .ref 0), (1, .int (nI x))]) (st' := []) (h' := HN g hl (RF rt)) rfl ?_
  refine Ev.ite (fun hc2 => ?_) (fun hc2 => ?_)
  · have hc2 : x = 4294967295 := (nI_eqU (by omega) (by omega)).mp hc2
    refine Ev.run 2 (pc' := 9) (lv' := [(0, .ref 0), (1, .int (nI x))]) (st' := [.ref 1]) (h' := HN g hl (RF rt)) rfl ?_
    refine Ev.call (a := 45) (as := [.ref 1]) (rest := []) (lv0 := [(0, .ref 1)]) (Q1 := (fun z0 h' => z0 = none ∧ h' = HN (u2 g 1 1 0) hl (RF rt))) rfl rfl (K_clear _ _ _ _ 1 6 (ln1 rt) ⟨rfl, rfl⟩) (fun r h' hr => ?_)
    obtain ⟨rfl, rfl⟩ := hr
    refine Ev.run 1 (pc' := 13) (lv' := [(0, .ref 0), (1, .int (nI x))]) (st' := [.int (nI 0)]) (h' := HN (u2 g 1 1 0) hl (RF rt)) rfl ?_
    refine Ev.ret (v := some (.int (nI 0))) rfl ?_
    unfold rs_spell cs_spell at hq
    repeat (first | rw [if_pos (by omega)] at hq | rw [if_neg (by omega)] at hq)
    first | exact hq | (rw [hsp1]; exact hq)
  · have hc2 : ¬ (x = 4294967295) := fun z => hc2 ((nI_eqU (by omega) (by omega)).mpr z)
    refine Ev.run 3 (pc' := 17) (lv' := [(0, .ref 0), (1, .int (nI x))]) (st' := [.int (nI 3), .int (nI 0), .int (nI x)]) (h' := HN g hl (RF rt)) rfl ?_
    refine Ev.call (a := 118) (as := [.int (nI x), .int (nI 0), .int (nI 3)]) (rest := []) (lv0 := [(0, .int (nI x)), (1, .int (nI 0)), (2, .int (nI 3))]) (Q1 := (fun z0 h' => z0 = some (.int (nI (bn (decide (x ≤ 3))))) ∧ h' = HN g hl (RF rt))) rfl rfl (K_within _ _ _ _ (nI x) (nI 0) (nI 3) (by rw [in0 (by omega) (by omega)]; exact ⟨rfl, rfl⟩)) (fun r h' hr => ?_)
    obtain ⟨rfl, rfl⟩ := hr
    refine Ev_bn (fun hb20 => ?_) (fun hb20 => ?_)
    · have hhb20 : x ≤ 3 := of_decide_eq_true hb20
      refine Ev.run 3 (pc' := 29) (lv' := [(0, .ref 0), (1, .int (nI x))]) (st' := [.ref 1]) (h' := HN g hl (RF rt)) rfl ?_
      refine Ev.call (a := 42) (as := [.ref 1]) (rest := []) (lv0 := [(0, .ref 1)]) (Q1 := (fun z0 h' => z0 = some (.int (nI (bn (decide (6 ≤ g 1 1))))) ∧ h' = HN g hl (RF rt))) rfl rfl (K_isFull _ _ _ _ 1 6 (ln1 rt) (by omega) ⟨rfl, rfl⟩) (fun r h' hr => ?_)
      obtain ⟨rfl, rfl⟩ := hr
      refine Ev_bn (fun hb32 => ?_) (fun hb32 => ?_)
      · have hhb32 : 6 ≤ g 1 1 := of_decide_eq_true hb32
        refine Ev.run 2 (pc' := 37) (lv' := [(0, .ref 0), (1, .int (nI x))]) (st' := [.int (nI 4294967292)]) (h' := HN g hl (RF rt)) rfl ?_
        refine Ev.ret (v := some (.int (nI 4294967292))) rfl ?_
        unfold rs_spell cs_spell at hq
        repeat (first | rw [if_pos (by omega)] at hq | rw [if_neg (by omega)] at hq)
        first | exact hq | (rw [hsp1]; exact hq)
      · have hhb32 : ¬ (6 ≤ g 1 1) := of_decide_eq_false hb32
        refine Ev.run 4 (pc' := 43) (lv' := [(0, .ref 0), (1, .int (nI x))]) (st' := [.int (nI x), .ref 1]) (h' := HN g hl (RF rt)) rfl ?_
        refine Ev.call (a := 43) (as := [.ref 1, .int (nI x)]) (rest := []) (lv0 := [(0, .ref 1), (1, .int (nI x))]) (Q1 := (fun z0 h' => z0 = none ∧ h' = HN (u2 (u2 g 2 (g 1 1) x) 1 1 (g 1 1 + 1)) hl (RF rt))) rfl rfl (K_put _ _ _ _ 1 6 (ln1 rt) x (by omega) ⟨rfl, congrArg (fun z => HN z hl (RF rt)) (if_pos (show g 1 1 < 6 by omega))⟩) (fun r h' hr => ?_)
        obtain ⟨rfl, rfl⟩ := hr
        refine Ev.run 3 (pc' := 53) (lv' := [(0, .ref 0), (1, .int (nI x))]) (st' := [.int (nI (g 1 1 + 1))]) (h' := HN (u2 (u2 g 2 (g 1 1) x) 1 1 (g 1 1 + 1)) hl (RF rt)) rfl ?_
        refine Ev.ret (v := some (.int (nI (g 1 1 + 1)))) rfl ?_
        unfold rs_spell cs_spell at hq
        repeat (first | rw [if_pos (by omega)] at hq | rw [if_neg (by omega)] at hq)
        first | exact hq | (rw [hsp1]; exact hq)
    · have hhb20 : ¬ (x ≤ 3) := of_decide_eq_false hb20
      refine Ev.run 2 (pc' := 24) (lv' := [(0, .ref 0), (1, .int (nI x))]) (st' := [.int (nI 4294967295)]) (h' := HN g hl (RF rt)) rfl ?_
      refine Ev.ret (v := some (.int (nI 4294967295))) rfl ?_
      unfold rs_spell cs_spell at hq
      repeat (first | rw [if_pos (by omega)] at hq | rw [if_neg (by omega)] at hq)
      first | exact hq | (rw [hsp1]; exact hq)
theorem K_feed {L : Nat} {xs : Nat → Int32} (d : Nat) (g : Nat → Nat → Nat) (hl : Nat → Nat → Int64) (rt : Nat × Nat × Nat × Nat) (hV : Inv g hl rt) (x : Nat) (hx : x < 2 ^ 32) {Q : Po} (hq : Q (some (.int (nI (rs_feed g x)))) (HN (cs_feed g x) hl (RF rt))) : Ev L xs (d + 1) 83 0 [(0, .ref 0), (1, .int (nI x))] [] (HN g hl (RF rt)) Q := by
  have hI := hV.mi
  have hW := hI.hW
  have hS := hI.hS
  have hPl := hI.hPl
  have hNx := hI.hNx
  have hLa := hI.hLa
  have hLo := hI.hLo
  have hTb := hI.hTb
  have hTh := hI.hTh
  have hFd := hI.hFd
  have hSn := hI.hSn
  have hSh := hI.hSh
  have hRan := hI.hRan
  have hLr := hI.hLr
  have hLt := hI.hLt
  have hgl := hI.hgl
  have hsz := hI.hsz
  have hcm := hI.hcm
  have hsl := hI.hsl
  have hkd := hI.hkd
  have hvv := hI.hvv
  have hli := hI.hli
  have hro := hI.hro
  have hrw := hI.hrw
  have htx := hI.htx
  have hsw := hI.hsw
  have hsx := hI.hsx
  have hsy := hI.hsy
  have hsh := hI.hsh
  have hle := hI.hle
  have hcl := hI.hcl
  have hwd := hI.hwd
  have hnu := hI.hnu
  have hwn := hI.hwn
  have hs1 := hI.hs1
  have hso := hI.hso
  have hB := hV.gm.cb
  have hB0 := hB.1
  have hPs := hV.gm.cs
  have hsp1 := hV.sp.1
  have htx1 := hV.tx.1
  have h451 := hV.gm.rx.1
  have h442 := hV.gm.rx.2.2.2.1
  have h443 := hV.gm.rx.2.2.2.2
  have h481 := hV.gm.l48.1
  have h501 := hV.gm.l50.1
  have h521 := hV.gm.l52.1
  have h541 := hV.gm.l54.1
  have h04 := hV.tb.1
  have hac1 := hV.ac.1
  have hac2 := hV.ac.2.1
  have hPl0 := hV.gm.cp
  refine Ev.run 3 (pc' := 4) (lv' := [(0, .ref 0), (1, .int (nI x))]) (st' := [.int (nI 127), .int (nI 0), .int (nI x)]) (h' := HN g hl (RF rt)) rfl ?_
  refine Ev.call (a := 118) (as := [.int (nI x), .int (nI 0), .int (nI 127)]) (rest := []) (lv0 := [(0, .int (nI x)), (1, .int (nI 0)), (2, .int (nI 127))]) (Q1 := (fun z0 h' => z0 = some (.int (nI (bn (decide (x ≤ 127))))) ∧ h' = HN g hl (RF rt))) rfl rfl (K_within _ _ _ _ (nI x) (nI 0) (nI 127) (by rw [in0 (by omega) (by omega)]; exact ⟨rfl, rfl⟩)) (fun r h' hr => ?_)
  obtain ⟨rfl, rfl⟩ := hr
  refine Ev_bn (fun hb7 => ?_) (fun hb7 => ?_)
  · have hhb7 : x ≤ 127 := of_decide_eq_true hb7
    refine Ev.run 3 (pc' := 17) (lv' := [(0, .ref 0), (1, .int (nI x))]) (st' := [.ref 3]) (h' := HN g hl (RF rt)) rfl ?_
    refine Ev.call (a := 42) (as := [.ref 3]) (rest := []) (lv0 := [(0, .ref 3)]) (Q1 := (fun z0 h' => z0 = some (.int (nI (bn (decide (100 ≤ g 3 1))))) ∧ h' = HN g hl (RF rt))) rfl rfl (K_isFull _ _ _ _ 3 100 (ln3 rt) (by omega) ⟨rfl, rfl⟩) (fun r h' hr => ?_)
    obtain ⟨rfl, rfl⟩ := hr
    refine Ev_bn (fun hb20 => ?_) (fun hb20 => ?_)
    · have hhb20 : 100 ≤ g 3 1 := of_decide_eq_true hb20
      refine Ev.run 2 (pc' := 25) (lv' := [(0, .ref 0), (1, .int (nI x))]) (st' := [.int (nI 4294967292)]) (h' := HN g hl (RF rt)) rfl ?_
      refine Ev.ret (v := some (.int (nI 4294967292))) rfl ?_
      unfold rs_feed cs_feed at hq
      repeat (first | rw [if_pos (by omega)] at hq | rw [if_neg (by omega)] at hq)
      first | exact hq | (rw [htx1]; exact hq)
    · have hhb20 : ¬ (100 ≤ g 3 1) := of_decide_eq_false hb20
      refine Ev.run 4 (pc' := 31) (lv' := [(0, .ref 0), (1, .int (nI x))]) (st' := [.int (nI x), .ref 3]) (h' := HN g hl (RF rt)) rfl ?_
      refine Ev.call (a := 43) (as := [.ref 3, .int (nI x)]) (rest := []) (lv0 := [(0, .ref 3), (1, .int (nI x))]) (Q1 := (fun z0 h' => z0 = none ∧ h' = HN (u2 (u2 g 4 (g 3 1) x) 3 1 (g 3 1 + 1)) hl (RF rt))) rfl rfl (K_put _ _ _ _ 3 100 (ln3 rt) x (by omega) ⟨rfl, congrArg (fun z => HN z hl (RF rt)) (if_pos (show g 3 1 < 100 by omega))⟩) (fun r h' hr => ?_)
      obtain ⟨rfl, rfl⟩ := hr
      refine Ev.run 3 (pc' := 41) (lv' := [(0, .ref 0), (1, .int (nI x))]) (st' := [.int (nI (g 3 1 + 1))]) (h' := HN (u2 (u2 g 4 (g 3 1) x) 3 1 (g 3 1 + 1)) hl (RF rt)) rfl ?_
      refine Ev.ret (v := some (.int (nI (g 3 1 + 1)))) rfl ?_
      unfold rs_feed cs_feed at hq
      repeat (first | rw [if_pos (by omega)] at hq | rw [if_neg (by omega)] at hq)
      first | exact hq | (rw [htx1]; exact hq)
  · have hhb7 : ¬ (x ≤ 127) := of_decide_eq_false hb7
    refine Ev.run 2 (pc' := 12) (lv' := [(0, .ref 0), (1, .int (nI x))]) (st' := [.int (nI 4294967294)]) (h' := HN g hl (RF rt)) rfl ?_
    refine Ev.ret (v := some (.int (nI 4294967294))) rfl ?_
    unfold rs_feed cs_feed at hq
    repeat (first | rw [if_pos (by omega)] at hq | rw [if_neg (by omega)] at hq)
    first | exact hq | (rw [htx1]; exact hq)
theorem K_live {L : Nat} {xs : Nat → Int32} (d : Nat) (g : Nat → Nat → Nat) (hl : Nat → Nat → Int64) (rt : Nat × Nat × Nat × Nat) (hV : Inv g hl rt) (p : Nat) (n : Nat) (hp : p < 2 ^ 32) (hn : n < 2 ^ 32) {Q : Po} (hq : Q (some (.int (nI (rs_live g p n)))) (HN (cs_live g p n) hl (RF rt))) : Ev L xs (d + 2) 81 0 [(0, .ref 0), (1, .int (nI p)), (2, .int (nI n))] [] (HN g hl (RF rt)) Q := by
  have hI := hV.mi
  have hW := hI.hW
  have hS := hI.hS
  have hPl := hI.hPl
  have hNx := hI.hNx
  have hLa := hI.hLa
  have hLo := hI.hLo
  have hTb := hI.hTb
  have hTh := hI.hTh
  have hFd := hI.hFd
  have hSn := hI.hSn
  have hSh := hI.hSh
  have hRan := hI.hRan
  have hLr := hI.hLr
  have hLt := hI.hLt
  have hgl := hI.hgl
  have hsz := hI.hsz
  have hcm := hI.hcm
  have hsl := hI.hsl
  have hkd := hI.hkd
  have hvv := hI.hvv
  have hli := hI.hli
  have hro := hI.hro
  have hrw := hI.hrw
  have htx := hI.htx
  have hsw := hI.hsw
  have hsx := hI.hsx
  have hsy := hI.hsy
  have hsh := hI.hsh
  have hle := hI.hle
  have hcl := hI.hcl
  have hwd := hI.hwd
  have hnu := hI.hnu
  have hwn := hI.hwn
  have hs1 := hI.hs1
  have hso := hI.hso
  have hB := hV.gm.cb
  have hB0 := hB.1
  have hPs := hV.gm.cs
  have hsp1 := hV.sp.1
  have htx1 := hV.tx.1
  have h451 := hV.gm.rx.1
  have h442 := hV.gm.rx.2.2.2.1
  have h443 := hV.gm.rx.2.2.2.2
  have h481 := hV.gm.l48.1
  have h501 := hV.gm.l50.1
  have h521 := hV.gm.l52.1
  have h541 := hV.gm.l54.1
  have h04 := hV.tb.1
  have hac1 := hV.ac.1
  have hac2 := hV.ac.2.1
  have hPl0 := hV.gm.cp
  refine Ev.run 3 (pc' := 5) (lv' := [(0, .ref 0), (1, .int (nI p)), (2, .int (nI n))]) (st' := [.int (nI p), .ref 12]) (h' := HN g hl (RF rt)) rfl ?_
  refine Ev.call (a := 22) (as := [.ref 12, .int (nI p)]) (rest := []) (lv0 := [(0, .ref 12), (1, .int (nI p))]) (Q1 := (fun z0 h' => z0 = some (.int (nI (bn (decide (p < g 12 2))))) ∧ h' = HN g hl (RF rt))) rfl rfl (K_hasPlayer2 _ _ _ _ (by omega) p (by omega) ⟨rfl, rfl⟩) (fun r h' hr => ?_)
  obtain ⟨rfl, rfl⟩ := hr
  refine Ev_bn (fun hb8 => ?_) (fun hb8 => ?_)
  · have hhb8 : p < g 12 2 := of_decide_eq_true hb8
    refine Ev.run 4 (pc' := 17) (lv' := [(0, .ref 0), (1, .int (nI p)), (2, .int (nI n))]) (st' := [.int (nI 99), .int (nI 0), .int (nI n)]) (h' := HN g hl (RF rt)) rfl ?_
    refine Ev.call (a := 118) (as := [.int (nI n), .int (nI 0), .int (nI 99)]) (rest := []) (lv0 := [(0, .int (nI n)), (1, .int (nI 0)), (2, .int (nI 99))]) (Q1 := (fun z0 h' => z0 = some (.int (nI (bn (decide (n ≤ 99))))) ∧ h' = HN g hl (RF rt))) rfl rfl (K_within _ _ _ _ (nI n) (nI 0) (nI 99) (by rw [in0 (by omega) (by omega)]; exact ⟨rfl, rfl⟩)) (fun r h' hr => ?_)
    obtain ⟨rfl, rfl⟩ := hr
    refine Ev_bn (fun hb20 => ?_) (fun hb20 => ?_)
    · have hhb20 : n ≤ 99 := of_decide_eq_true hb20
      refine Ev.run 6 (pc' := 37) (lv' := [(0, .ref 0), (1, .int (nI p)), (2, .int (nI n))]) (st' := [.int (nI p), .ref 47]) (h' := HN g hl (RF rt)) rfl ?_
      refine Ev_iald rfl rfl (show p < 5 by omega) (Nat.le_of_ble_eq_true rfl) ?_
      refine Ev.run 7 (pc' := 51) (lv' := [(3, .int (nI (g 47 p))), (0, .ref 0), (1, .int (nI p)), (2, .int (nI n))]) (st' := [.int (nI n), .int (nI p), .ref 47]) (h' := HN g hl (RF rt)) rfl ?_
      refine Ev_iast rfl rfl (show p < 5 by omega) (Nat.le_of_ble_eq_true rfl) ?_
      refine Ev.run 1 (pc' := 53) (lv' := [(3, .int (nI (g 47 p))), (0, .ref 0), (1, .int (nI p)), (2, .int (nI n))]) (st' := [.int (nI (g 47 p))]) (h' := HN (u2 g 47 p n) hl (RF rt)) rfl ?_
      refine Ev.ret (v := some (.int (nI (g 47 p)))) rfl ?_
      unfold rs_live cs_live at hq
      repeat (first | rw [if_pos (by omega)] at hq | rw [if_neg (by omega)] at hq)
      first | exact hq | (rw [hV.gm.rx.2.2.1 p (by omega)]; exact hq)
    · have hhb20 : ¬ (n ≤ 99) := of_decide_eq_false hb20
      refine Ev.run 2 (pc' := 25) (lv' := [(0, .ref 0), (1, .int (nI p)), (2, .int (nI n))]) (st' := [.int (nI 4294967294)]) (h' := HN g hl (RF rt)) rfl ?_
      refine Ev.ret (v := some (.int (nI 4294967294))) rfl ?_
      unfold rs_live cs_live at hq
      repeat (first | rw [if_pos (by omega)] at hq | rw [if_neg (by omega)] at hq)
      first | exact hq | (rw [hV.gm.rx.2.2.1 p (by omega)]; exact hq)
  · have hhb8 : ¬ (p < g 12 2) := of_decide_eq_false hb8
    refine Ev.run 2 (pc' := 12) (lv' := [(0, .ref 0), (1, .int (nI p)), (2, .int (nI n))]) (st' := [.int (nI 4294967295)]) (h' := HN g hl (RF rt)) rfl ?_
    refine Ev.ret (v := some (.int (nI 4294967295))) rfl ?_
    unfold rs_live cs_live at hq
    repeat (first | rw [if_pos (by omega)] at hq | rw [if_neg (by omega)] at hq)
    first | exact hq | (rw [hV.gm.rx.2.2.1 p (by omega)]; exact hq)
theorem K_row {L : Nat} {xs : Nat → Int32} (d : Nat) (g : Nat → Nat → Nat) (hl : Nat → Nat → Int64) (rt : Nat × Nat × Nat × Nat) (hV : Inv g hl rt) (p : Nat) (a : Nat) (n : Nat) (hp : p < 2 ^ 32) (ha : a < 2 ^ 32) (hn : n < 2 ^ 32) {Q : Po} (hq : Q (some (.int (nI (rs_row g p a n)))) (HN (cs_row g p a n) hl (RF rt))) : Ev L xs (d + 2) 82 0 [(0, .ref 0), (1, .int (nI p)), (2, .int (nI a)), (3, .int (nI n))] [] (HN g hl (RF rt)) Q := by
  have hI := hV.mi
  have hW := hI.hW
  have hS := hI.hS
  have hPl := hI.hPl
  have hNx := hI.hNx
  have hLa := hI.hLa
  have hLo := hI.hLo
  have hTb := hI.hTb
  have hTh := hI.hTh
  have hFd := hI.hFd
  have hSn := hI.hSn
  have hSh := hI.hSh
  have hRan := hI.hRan
  have hLr := hI.hLr
  have hLt := hI.hLt
  have hgl := hI.hgl
  have hsz := hI.hsz
  have hcm := hI.hcm
  have hsl := hI.hsl
  have hkd := hI.hkd
  have hvv := hI.hvv
  have hli := hI.hli
  have hro := hI.hro
  have hrw := hI.hrw
  have htx := hI.htx
  have hsw := hI.hsw
  have hsx := hI.hsx
  have hsy := hI.hsy
  have hsh := hI.hsh
  have hle := hI.hle
  have hcl := hI.hcl
  have hwd := hI.hwd
  have hnu := hI.hnu
  have hwn := hI.hwn
  have hs1 := hI.hs1
  have hso := hI.hso
  have hB := hV.gm.cb
  have hB0 := hB.1
  have hPs := hV.gm.cs
  have hsp1 := hV.sp.1
  have htx1 := hV.tx.1
  have h451 := hV.gm.rx.1
  have h442 := hV.gm.rx.2.2.2.1
  have h443 := hV.gm.rx.2.2.2.2
  have h481 := hV.gm.l48.1
  have h501 := hV.gm.l50.1
  have h521 := hV.gm.l52.1
  have h541 := hV.gm.l54.1
  have h04 := hV.tb.1
  have hac1 := hV.ac.1
  have hac2 := hV.ac.2.1
  have hPl0 := hV.gm.cp
  refine Ev.run 3 (pc' := 5) (lv' := [(0, .ref 0), (1, .int (nI p)), (2, .int (nI a)), (3, .int (nI n))]) (st' := [.int (nI p), .ref 12]) (h' := HN g hl (RF rt)) rfl ?_
  refine Ev.call (a := 22) (as := [.ref 12, .int (nI p)]) (rest := []) (lv0 := [(0, .ref 12), (1, .int (nI p))]) (Q1 := (fun z0 h' => z0 = some (.int (nI (bn (decide (p < g 12 2))))) ∧ h' = HN g hl (RF rt))) rfl rfl (K_hasPlayer2 _ _ _ _ (by omega) p (by omega) ⟨rfl, rfl⟩) (fun r h' hr => ?_)
  obtain ⟨rfl, rfl⟩ := hr
  refine Ev_bn (fun hb8 => ?_) (fun hb8 => ?_)
  · have hhb8 : p < g 12 2 := of_decide_eq_true hb8
    refine Ev.run 4 (pc' := 14) (lv' := [(0, .ref 0), (1, .int (nI p)), (2, .int (nI a)), (3, .int (nI n))]) (st' := [.int (nI 3), .int (nI 0), .int (nI a)]) (h' := HN g hl (RF rt)) rfl ?_
    refine Ev.call (a := 118) (as := [.int (nI a), .int (nI 0), .int (nI 3)]) (rest := []) (lv0 := [(0, .int (nI a)), (1, .int (nI 0)), (2, .int (nI 3))]) (Q1 := (fun z0 h' => z0 = some (.int (nI (bn (decide (a ≤ 3))))) ∧ h' = HN g hl (RF rt))) rfl rfl (K_within _ _ _ _ (nI a) (nI 0) (nI 3) (by rw [in0 (by omega) (by omega)]; exact ⟨rfl, rfl⟩)) (fun r h' hr => ?_)
    obtain ⟨rfl, rfl⟩ := hr
    refine Ev_bn (fun hb17 => ?_) (fun hb17 => ?_)
    · have hhb17 : a ≤ 3 := of_decide_eq_true hb17
      refine Ev.run 4 (pc' := 25) (lv' := [(0, .ref 0), (1, .int (nI p)), (2, .int (nI a)), (3, .int (nI n))]) (st' := [.int (nI 3), .int (nI 0), .int (nI n)]) (h' := HN g hl (RF rt)) rfl ?_
      refine Ev.call (a := 118) (as := [.int (nI n), .int (nI 0), .int (nI 3)]) (rest := []) (lv0 := [(0, .int (nI n)), (1, .int (nI 0)), (2, .int (nI 3))]) (Q1 := (fun z0 h' => z0 = some (.int (nI (bn (decide (n ≤ 3))))) ∧ h' = HN g hl (RF rt))) rfl rfl (K_within _ _ _ _ (nI n) (nI 0) (nI 3) (by rw [in0 (by omega) (by omega)]; exact ⟨rfl, rfl⟩)) (fun r h' hr => ?_)
      obtain ⟨rfl, rfl⟩ := hr
      refine Ev_bn (fun hb28 => ?_) (fun hb28 => ?_)
      · have hhb28 : n ≤ 3 := of_decide_eq_true hb28
        refine Ev.run 5 (pc' := 42) (lv' := [(0, .ref 0), (1, .int (nI p)), (2, .int (nI a)), (3, .int (nI n))]) (st' := [.int (nI p), .ref 43]) (h' := HN g hl (RF rt)) rfl ?_
        refine Ev_aald (c := (60 + 2 * p)) rfl (by decide) rfl (show p < 5 by omega) (Nat.le_of_ble_eq_true rfl) (sh_pl rt p (by omega)).2.2.1 ?_
        refine Ev_gfI rfl rfl rfl (kcP (show p < 5 by omega)) ?_
        refine Ev.topI (congrArg nI ((hPl0.1 p (by omega)).1)) ?_
        refine Ev.run 1 (pc' := 48) (lv' := [(0, .ref 0), (1, .int (nI p)), (2, .int (nI a)), (3, .int (nI n))]) (st' := [.int (nI 6), .int (nI (g 171 p))]) (h' := HN g hl (RF rt)) rfl ?_
        have hkdp := hkd p (by omega)
        refine Ev.run 1 (pc' := (if nI (g 171 p) = nI 6 then 54 else 51)) (lv' := [(0, .ref 0), (1, .int (nI p)), (2, .int (nI a)), (3, .int (nI n))]) (st' := []) (h' := HN g hl (RF rt)) rfl ?_
        refine Ev.ite (fun hc48 => ?_) (fun hc48 => ?_)
        · have hc48 : (g 171 p) = 6 := (nI_eqU (by omega) (by omega)).mp hc48
          refine Ev.run 4 (pc' := 62) (lv' := [(0, .ref 0), (1, .int (nI p)), (2, .int (nI a)), (3, .int (nI n))]) (st' := [.int (nI p), .ref 43]) (h' := HN g hl (RF rt)) rfl ?_
          refine Ev_aald (c := (60 + 2 * p)) rfl (by decide) rfl (show p < 5 by omega) (Nat.le_of_ble_eq_true rfl) (sh_pl rt p (by omega)).2.2.1 ?_
          refine Ev_gfR rfl rfl rfl (kcP (show p < 5 by omega)) (sh_pl rt p (by omega)).2.2.2 ?_
          refine Ev.run 1 (pc' := 67) (lv' := [(0, .ref 0), (1, .int (nI p)), (2, .int (nI a)), (3, .int (nI n))]) (st' := [.int (nI a), .ref (60 + 2 * p + 1)]) (h' := HN g hl (RF rt)) rfl ?_
          refine Ev_iald rfl (kcQ (show p < 5 by omega)).k (show _ < _ by rw [(kcQ (show p < 5 by omega)).n]; omega) (by rw [(kcQ (show p < 5 by omega)).n]; omega) ?_
          refine Ev.topI (congrArg nI (hPl0.2.1 p a (by omega) (by omega))) ?_
          refine Ev.run 5 (pc' := 78) (lv' := [(4, .int (nI (g 174 (4 * p + a)))), (0, .ref 0), (1, .int (nI p)), (2, .int (nI a)), (3, .int (nI n))]) (st' := [.int (nI p), .ref 43]) (h' := HN g hl (RF rt)) rfl ?_
          refine Ev_aald (c := (60 + 2 * p)) rfl (by decide) rfl (show p < 5 by omega) (Nat.le_of_ble_eq_true rfl) (sh_pl rt p (by omega)).2.2.1 ?_
          refine Ev_gfR rfl rfl rfl (kcP (show p < 5 by omega)) (sh_pl rt p (by omega)).2.2.2 ?_
          refine Ev.run 2 (pc' := 84) (lv' := [(4, .int (nI (g 174 (4 * p + a)))), (0, .ref 0), (1, .int (nI p)), (2, .int (nI a)), (3, .int (nI n))]) (st' := [.int (nI n), .int (nI a), .ref (60 + 2 * p + 1)]) (h' := HN g hl (RF rt)) rfl ?_
          refine Ev_iast rfl (kcQ (show p < 5 by omega)).k (show _ < _ by rw [(kcQ (show p < 5 by omega)).n]; omega) (by rw [(kcQ (show p < 5 by omega)).n]; omega) ?_
          refine Ev.run 1 (pc' := 87) (lv' := [(4, .int (nI (g 174 (4 * p + a)))), (0, .ref 0), (1, .int (nI p)), (2, .int (nI a)), (3, .int (nI n))]) (st' := [.int (nI (g 174 (4 * p + a)))]) (h' := HN (u2 g (60 + 2 * p + 1) a n) hl (RF rt)) rfl ?_
          refine Ev.ret (v := some (.int (nI (g 174 (4 * p + a))))) rfl ?_
          unfold rs_row cs_row at hq
          repeat (first | rw [if_pos (by omega)] at hq | rw [if_neg (by omega)] at hq)
          first | exact hq
        · have hc48 : ¬ ((g 171 p) = 6) := fun z => hc48 ((nI_eqU (by omega) (by omega)).mpr z)
          refine Ev.run 1 (pc' := 53) (lv' := [(0, .ref 0), (1, .int (nI p)), (2, .int (nI a)), (3, .int (nI n))]) (st' := [.int (nI 4294967293)]) (h' := HN g hl (RF rt)) rfl ?_
          refine Ev.ret (v := some (.int (nI 4294967293))) rfl ?_
          unfold rs_row cs_row at hq
          repeat (first | rw [if_pos (by omega)] at hq | rw [if_neg (by omega)] at hq)
          first | exact hq
      · have hhb28 : ¬ (n ≤ 3) := of_decide_eq_false hb28
        refine Ev.run 2 (pc' := 33) (lv' := [(0, .ref 0), (1, .int (nI p)), (2, .int (nI a)), (3, .int (nI n))]) (st' := [.int (nI 4294967294)]) (h' := HN g hl (RF rt)) rfl ?_
        refine Ev.ret (v := some (.int (nI 4294967294))) rfl ?_
        unfold rs_row cs_row at hq
        repeat (first | rw [if_pos (by omega)] at hq | rw [if_neg (by omega)] at hq)
        first | exact hq
    · have hhb17 : ¬ (a ≤ 3) := of_decide_eq_false hb17
      refine Ev.run 2 (pc' := 21) (lv' := [(0, .ref 0), (1, .int (nI p)), (2, .int (nI a)), (3, .int (nI n))]) (st' := [.int (nI 4294967295)]) (h' := HN g hl (RF rt)) rfl ?_
      refine Ev.ret (v := some (.int (nI 4294967295))) rfl ?_
      unfold rs_row cs_row at hq
      repeat (first | rw [if_pos (by omega)] at hq | rw [if_neg (by omega)] at hq)
      first | exact hq
  · have hhb8 : ¬ (p < g 12 2) := of_decide_eq_false hb8
    refine Ev.run 2 (pc' := 21) (lv' := [(0, .ref 0), (1, .int (nI p)), (2, .int (nI a)), (3, .int (nI n))]) (st' := [.int (nI 4294967295)]) (h' := HN g hl (RF rt)) rfl ?_
    refine Ev.ret (v := some (.int (nI 4294967295))) rfl ?_
    unfold rs_row cs_row at hq
    repeat (first | rw [if_pos (by omega)] at hq | rw [if_neg (by omega)] at hq)
    first | exact hq
theorem K_rst {L : Nat} {xs : Nat → Int32} (d : Nat) (g : Nat → Nat → Nat) (hl : Nat → Nat → Int64) (rt : Nat × Nat × Nat × Nat) (p : Nat) {Q : Po} (hq : Q none (HN (u2 (u2 (u2 g 45 1 0) 44 3 4294967295) 44 2 p) hl (RF rt))) : Ev L xs (d + 1) 61 0 [(0, .ref 44), (1, .int (nI p))] [] (HN g hl (RF rt)) Q := by
  refine Ev.run 2 (pc' := 4) (lv' := [(0, .ref 44), (1, .int (nI p))]) (st' := [.ref 45]) (h' := HN g hl (RF rt)) rfl ?_
  refine Ev.call (a := 45) (as := [.ref 45]) (rest := []) (lv0 := [(0, .ref 45)]) (Q1 := (fun z0 h' => z0 = none ∧ h' = HN (u2 g 45 1 0) hl (RF rt))) rfl rfl (K_clear _ _ _ _ 45 12 (ln45 rt) ⟨rfl, rfl⟩) (fun r h' hr => ?_)
  obtain ⟨rfl, rfl⟩ := hr
  refine Ev.run 3 (pc' := 12) (lv' := [(0, .ref 44), (1, .int (nI p))]) (st' := []) (h' := setI (HN (u2 g 45 1 0) hl (RF rt)) 44 3 (nI 4294967295)) rfl ?_
  refine Ev.hp (HN_set _ _ _ _ _ _) ?_
  refine Ev.run 3 (pc' := 17) (lv' := [(0, .ref 44), (1, .int (nI p))]) (st' := []) (h' := setI (HN (u2 (u2 g 45 1 0) 44 3 4294967295) hl (RF rt)) 44 2 (nI p)) rfl ?_
  refine Ev.hp (HN_set _ _ _ _ _ _) ?_
  refine Ev.ret (v := none) rfl ?_
  exact hq
theorem K_begin {L : Nat} {xs : Nat → Int32} (d : Nat) (g : Nat → Nat → Nat) (hl : Nat → Nat → Int64) (rt : Nat × Nat × Nat × Nat) (hV : Inv g hl rt) (p : Nat) (hp : p < 2 ^ 32) {Q : Po} (hq : Q (some (.int (nI (rs_begin g p)))) (HN (cs_begin g p) hl (RF rt))) : Ev L xs (d + 2) 87 0 [(0, .ref 0), (1, .int (nI p))] [] (HN g hl (RF rt)) Q := by
  have hI := hV.mi
  have hW := hI.hW
  have hS := hI.hS
  have hPl := hI.hPl
  have hNx := hI.hNx
  have hLa := hI.hLa
  have hLo := hI.hLo
  have hTb := hI.hTb
  have hTh := hI.hTh
  have hFd := hI.hFd
  have hSn := hI.hSn
  have hSh := hI.hSh
  have hRan := hI.hRan
  have hLr := hI.hLr
  have hLt := hI.hLt
  have hgl := hI.hgl
  have hsz := hI.hsz
  have hcm := hI.hcm
  have hsl := hI.hsl
  have hkd := hI.hkd
  have hvv := hI.hvv
  have hli := hI.hli
  have hro := hI.hro
  have hrw := hI.hrw
  have htx := hI.htx
  have hsw := hI.hsw
  have hsx := hI.hsx
  have hsy := hI.hsy
  have hsh := hI.hsh
  have hle := hI.hle
  have hcl := hI.hcl
  have hwd := hI.hwd
  have hnu := hI.hnu
  have hwn := hI.hwn
  have hs1 := hI.hs1
  have hso := hI.hso
  have hB := hV.gm.cb
  have hB0 := hB.1
  have hPs := hV.gm.cs
  have hsp1 := hV.sp.1
  have htx1 := hV.tx.1
  have h451 := hV.gm.rx.1
  have h442 := hV.gm.rx.2.2.2.1
  have h443 := hV.gm.rx.2.2.2.2
  have h481 := hV.gm.l48.1
  have h501 := hV.gm.l50.1
  have h521 := hV.gm.l52.1
  have h541 := hV.gm.l54.1
  have h04 := hV.tb.1
  have hac1 := hV.ac.1
  have hac2 := hV.ac.2.1
  have hPl0 := hV.gm.cp
  refine Ev.run 3 (pc' := 5) (lv' := [(0, .ref 0), (1, .int (nI p))]) (st' := [.int (nI p), .ref 12]) (h' := HN g hl (RF rt)) rfl ?_
  refine Ev.call (a := 22) (as := [.ref 12, .int (nI p)]) (rest := []) (lv0 := [(0, .ref 12), (1, .int (nI p))]) (Q1 := (fun z0 h' => z0 = some (.int (nI (bn (decide (p < g 12 2))))) ∧ h' = HN g hl (RF rt))) rfl rfl (K_hasPlayer2 _ _ _ _ (by omega) p (by omega) ⟨rfl, rfl⟩) (fun r h' hr => ?_)
  obtain ⟨rfl, rfl⟩ := hr
  refine Ev_bn (fun hb8 => ?_) (fun hb8 => ?_)
  · have hhb8 : p < g 12 2 := of_decide_eq_true hb8
    refine Ev.run 6 (pc' := 24) (lv' := [(0, .ref 0), (1, .int (nI p))]) (st' := [.int (nI p), .ref 47]) (h' := HN g hl (RF rt)) rfl ?_
    refine Ev_iald rfl rfl (show p < 5 by omega) (Nat.le_of_ble_eq_true rfl) ?_
    have h47 := hV.gm.rx.2.2.1 p (by omega)
    have hlp := hli p (by omega)
    refine Ev.run 1 (pc' := (if nI (g 47 p) = 0 then 28 else 31)) (lv' := [(0, .ref 0), (1, .int (nI p))]) (st' := []) (h' := HN g hl (RF rt)) rfl ?_
    refine Ev.ite (fun hc25 => ?_) (fun hc25 => ?_)
    · have hc25 : (g 47 p) = 0 := (nI_eqU0 (by omega)).mp hc25
      refine Ev.run 1 (pc' := 30) (lv' := [(0, .ref 0), (1, .int (nI p))]) (st' := [.int (nI 4294967293)]) (h' := HN g hl (RF rt)) rfl ?_
      refine Ev.ret (v := some (.int (nI 4294967293))) rfl ?_
      unfold rs_begin cs_begin at hq
      repeat (first | rw [if_pos (by omega)] at hq | rw [if_neg (by omega)] at hq)
      first | exact hq | (rw [h442]; exact hq)
    · have hc25 : ¬ ((g 47 p) = 0) := fun z => hc25 ((nI_eqU0 (by omega)).mpr z)
      refine Ev.run 9 (pc' := 50) (lv' := [(2, .int (nI (g 44 2))), (0, .ref 0), (1, .int (nI p))]) (st' := [.int (nI p), .ref 44]) (h' := HN g hl (RF rt)) rfl ?_
      refine Ev.call (a := 61) (as := [.ref 44, .int (nI p)]) (rest := []) (lv0 := [(0, .ref 44), (1, .int (nI p))]) (Q1 := (fun z0 h' => z0 = none ∧ h' = HN (u2 (u2 (u2 g 45 1 0) 44 3 4294967295) 44 2 p) hl (RF rt))) rfl rfl (K_rst _ _ _ _ p ⟨rfl, rfl⟩) (fun r h' hr => ?_)
      obtain ⟨rfl, rfl⟩ := hr
      refine Ev.run 1 (pc' := 54) (lv' := [(2, .int (nI (g 44 2))), (0, .ref 0), (1, .int (nI p))]) (st' := [.int (nI (g 44 2))]) (h' := HN (u2 (u2 (u2 g 45 1 0) 44 3 4294967295) 44 2 p) hl (RF rt)) rfl ?_
      refine Ev.ret (v := some (.int (nI (g 44 2)))) rfl ?_
      unfold rs_begin cs_begin at hq
      repeat (first | rw [if_pos (by omega)] at hq | rw [if_neg (by omega)] at hq)
      first | exact hq | (rw [h442]; exact hq)
  · have hhb8 : ¬ (p < g 12 2) := of_decide_eq_false hb8
    refine Ev.run 2 (pc' := 12) (lv' := [(0, .ref 0), (1, .int (nI p))]) (st' := [.int (nI 4294967295)]) (h' := HN g hl (RF rt)) rfl ?_
    refine Ev.ret (v := some (.int (nI 4294967295))) rfl ?_
    unfold rs_begin cs_begin at hq
    repeat (first | rw [if_pos (by omega)] at hq | rw [if_neg (by omega)] at hq)
    first | exact hq | (rw [h442]; exact hq)
theorem K_clearSeen {L : Nat} {xs : Nat → Int32} (d : Nat) (g : Nat → Nat → Nat) (hl : Nat → Nat → Int64) (rt : Nat × Nat × Nat × Nat)  {Q : Po} (hq : Q none (HN (u2 (u2 (u2 g 48 1 0) 50 1 0) 52 1 0) hl (RF rt))) : Ev L xs (d + 1) 24 0 [(0, .ref 12)] [] (HN g hl (RF rt)) Q := by
  refine Ev.run 2 (pc' := 4) (lv' := [(0, .ref 12)]) (st' := [.ref 48]) (h' := HN g hl (RF rt)) rfl ?_
  refine Ev.call (a := 45) (as := [.ref 48]) (rest := []) (lv0 := [(0, .ref 48)]) (Q1 := (fun z0 h' => z0 = none ∧ h' = HN (u2 g 48 1 0) hl (RF rt))) rfl rfl (K_clear _ _ _ _ 48 6 (ln48 rt) ⟨rfl, rfl⟩) (fun r h' hr => ?_)
  obtain ⟨rfl, rfl⟩ := hr
  refine Ev.run 2 (pc' := 11) (lv' := [(0, .ref 12)]) (st' := [.ref 50]) (h' := HN (u2 g 48 1 0) hl (RF rt)) rfl ?_
  refine Ev.call (a := 45) (as := [.ref 50]) (rest := []) (lv0 := [(0, .ref 50)]) (Q1 := (fun z0 h' => z0 = none ∧ h' = HN (u2 (u2 g 48 1 0) 50 1 0) hl (RF rt))) rfl rfl (K_clear _ _ _ _ 50 6 (ln50 rt) ⟨rfl, rfl⟩) (fun r h' hr => ?_)
  obtain ⟨rfl, rfl⟩ := hr
  refine Ev.run 2 (pc' := 18) (lv' := [(0, .ref 12)]) (st' := [.ref 52]) (h' := HN (u2 (u2 g 48 1 0) 50 1 0) hl (RF rt)) rfl ?_
  refine Ev.call (a := 45) (as := [.ref 52]) (rest := []) (lv0 := [(0, .ref 52)]) (Q1 := (fun z0 h' => z0 = none ∧ h' = HN (u2 (u2 (u2 g 48 1 0) 50 1 0) 52 1 0) hl (RF rt))) rfl rfl (K_clear _ _ _ _ 52 6 (ln52 rt) ⟨rfl, rfl⟩) (fun r h' hr => ?_)
  obtain ⟨rfl, rfl⟩ := hr
  refine Ev.ret (v := none) rfl ?_
  exact hq
theorem K_putSeen {L : Nat} {xs : Nat → Int32} (d : Nat) (g : Nat → Nat → Nat) (hl : Nat → Nat → Int64) (rt : Nat × Nat × Nat × Nat) (p i n : Nat) (h1 : g 48 1 < 6) (h2 : g 50 1 < 6) (h3 : g 52 1 < 6) {Q : Po} (hq : Q none (HN (u2 (u2 (u2 (u2 (u2 (u2 g 49 (g 48 1) p) 48 1 (g 48 1 + 1)) 51 (g 50 1) i) 50 1 (g 50 1 + 1)) 53 (g 52 1) n) 52 1 (g 52 1 + 1)) hl (RF rt))) : Ev L xs (d + 1) 25 0 [(0, .ref 12), (1, .int (nI p)), (2, .int (nI i)), (3, .int (nI n))] [] (HN g hl (RF rt)) Q := by
  refine Ev.run 3 (pc' := 5) (lv' := [(0, .ref 12), (1, .int (nI p)), (2, .int (nI i)), (3, .int (nI n))]) (st' := [.int (nI p), .ref 48]) (h' := HN g hl (RF rt)) rfl ?_
  refine Ev.call (a := 43) (as := [.ref 48, .int (nI p)]) (rest := []) (lv0 := [(0, .ref 48), (1, .int (nI p))]) (Q1 := (fun z0 h' => z0 = none ∧ h' = HN (u2 (u2 g 49 (g 48 1) p) 48 1 (g 48 1 + 1)) hl (RF rt))) rfl rfl (K_put _ (g) _ _ 48 6 (ln48 rt) p (show g 48 1 ≤ 6 by omega) ⟨rfl, congrArg (fun z => HN z hl (RF rt)) (if_pos (show g 48 1 < 6 by omega))⟩) (fun r h' hr => ?_)
  obtain ⟨rfl, rfl⟩ := hr
  refine Ev.run 3 (pc' := 13) (lv' := [(0, .ref 12), (1, .int (nI p)), (2, .int (nI i)), (3, .int (nI n))]) (st' := [.int (nI i), .ref 50]) (h' := HN (u2 (u2 g 49 (g 48 1) p) 48 1 (g 48 1 + 1)) hl (RF rt)) rfl ?_
  refine Ev.call (a := 43) (as := [.ref 50, .int (nI i)]) (rest := []) (lv0 := [(0, .ref 50), (1, .int (nI i))]) (Q1 := (fun z0 h' => z0 = none ∧ h' = HN (u2 (u2 (u2 (u2 g 49 (g 48 1) p) 48 1 (g 48 1 + 1)) 51 (g 50 1) i) 50 1 (g 50 1 + 1)) hl (RF rt))) rfl rfl (K_put _ (u2 (u2 g 49 (g 48 1) p) 48 1 (g 48 1 + 1)) _ _ 50 6 (ln50 rt) i (show g 50 1 ≤ 6 by omega) ⟨rfl, congrArg (fun z => HN z hl (RF rt)) (if_pos (show g 50 1 < 6 by omega))⟩) (fun r h' hr => ?_)
  obtain ⟨rfl, rfl⟩ := hr
  refine Ev.run 3 (pc' := 21) (lv' := [(0, .ref 12), (1, .int (nI p)), (2, .int (nI i)), (3, .int (nI n))]) (st' := [.int (nI n), .ref 52]) (h' := HN (u2 (u2 (u2 (u2 g 49 (g 48 1) p) 48 1 (g 48 1 + 1)) 51 (g 50 1) i) 50 1 (g 50 1 + 1)) hl (RF rt)) rfl ?_
  refine Ev.call (a := 43) (as := [.ref 52, .int (nI n)]) (rest := []) (lv0 := [(0, .ref 52), (1, .int (nI n))]) (Q1 := (fun z0 h' => z0 = none ∧ h' = HN (u2 (u2 (u2 (u2 (u2 (u2 g 49 (g 48 1) p) 48 1 (g 48 1 + 1)) 51 (g 50 1) i) 50 1 (g 50 1 + 1)) 53 (g 52 1) n) 52 1 (g 52 1 + 1)) hl (RF rt))) rfl rfl (K_put _ (u2 (u2 (u2 (u2 g 49 (g 48 1) p) 48 1 (g 48 1 + 1)) 51 (g 50 1) i) 50 1 (g 50 1 + 1)) _ _ 52 6 (ln52 rt) n (show g 52 1 ≤ 6 by omega) ⟨rfl, congrArg (fun z => HN z hl (RF rt)) (if_pos (show g 52 1 < 6 by omega))⟩) (fun r h' hr => ?_)
  obtain ⟨rfl, rfl⟩ := hr
  refine Ev.ret (v := none) rfl ?_
  exact hq
theorem K_see {L : Nat} {xs : Nat → Int32} (d : Nat) (g : Nat → Nat → Nat) (hl : Nat → Nat → Int64) (rt : Nat × Nat × Nat × Nat) (hV : Inv g hl rt) (p : Nat) (i : Nat) (n : Nat) (hp : p < 2 ^ 32) (hi : i < 2 ^ 32) (hn : n < 2 ^ 32) {Q : Po} (hq : Q (some (.int (nI (rs_see g p i n)))) (HN (cs_see g p i n) hl (RF rt))) : Ev L xs (d + 2) 96 0 [(0, .ref 0), (1, .int (nI p)), (2, .int (nI i)), (3, .int (nI n))] [] (HN g hl (RF rt)) Q := by
  have hI := hV.mi
  have hW := hI.hW
  have hS := hI.hS
  have hPl := hI.hPl
  have hNx := hI.hNx
  have hLa := hI.hLa
  have hLo := hI.hLo
  have hTb := hI.hTb
  have hTh := hI.hTh
  have hFd := hI.hFd
  have hSn := hI.hSn
  have hSh := hI.hSh
  have hRan := hI.hRan
  have hLr := hI.hLr
  have hLt := hI.hLt
  have hgl := hI.hgl
  have hsz := hI.hsz
  have hcm := hI.hcm
  have hsl := hI.hsl
  have hkd := hI.hkd
  have hvv := hI.hvv
  have hli := hI.hli
  have hro := hI.hro
  have hrw := hI.hrw
  have htx := hI.htx
  have hsw := hI.hsw
  have hsx := hI.hsx
  have hsy := hI.hsy
  have hsh := hI.hsh
  have hle := hI.hle
  have hcl := hI.hcl
  have hwd := hI.hwd
  have hnu := hI.hnu
  have hwn := hI.hwn
  have hs1 := hI.hs1
  have hso := hI.hso
  have hB := hV.gm.cb
  have hB0 := hB.1
  have hPs := hV.gm.cs
  have hsp1 := hV.sp.1
  have htx1 := hV.tx.1
  have h451 := hV.gm.rx.1
  have h442 := hV.gm.rx.2.2.2.1
  have h443 := hV.gm.rx.2.2.2.2
  have h481 := hV.gm.l48.1
  have h501 := hV.gm.l50.1
  have h521 := hV.gm.l52.1
  have h541 := hV.gm.l54.1
  have h04 := hV.tb.1
  have hac1 := hV.ac.1
  have hac2 := hV.ac.2.1
  have hPl0 := hV.gm.cp
  refine Ev.run 3 (pc' := (if nI p = nI 4294967295 then 5 else 14)) (lv' := [(0, .ref 0), (1, .int (nI p)), (2, .int (nI i)), (3, .int (nI n))]) (st' := []) (h' := HN g hl (RF rt)) rfl ?_
  refine Ev.ite (fun hc2 => ?_) (fun hc2 => ?_)
  · have hc2 : p = 4294967295 := (nI_eqU (by omega) (by omega)).mp hc2
    refine Ev.run 2 (pc' := 9) (lv' := [(0, .ref 0), (1, .int (nI p)), (2, .int (nI i)), (3, .int (nI n))]) (st' := [.ref 12]) (h' := HN g hl (RF rt)) rfl ?_
    refine Ev.call (a := 24) (as := [.ref 12]) (rest := []) (lv0 := [(0, .ref 12)]) (Q1 := (fun z0 h' => z0 = none ∧ h' = HN (u2 (u2 (u2 g 48 1 0) 50 1 0) 52 1 0) hl (RF rt))) rfl rfl (K_clearSeen _ _ _ _ ⟨rfl, rfl⟩) (fun r h' hr => ?_)
    obtain ⟨rfl, rfl⟩ := hr
    refine Ev.run 1 (pc' := 13) (lv' := [(0, .ref 0), (1, .int (nI p)), (2, .int (nI i)), (3, .int (nI n))]) (st' := [.int (nI 0)]) (h' := HN (u2 (u2 (u2 g 48 1 0) 50 1 0) 52 1 0) hl (RF rt)) rfl ?_
    refine Ev.ret (v := some (.int (nI 0))) rfl ?_
    unfold rs_see cs_see at hq
    repeat (first | rw [if_pos (by omega)] at hq | rw [if_neg (by omega)] at hq)
    first | exact hq | (rw [h481, h501, h521]; exact hq)
  · have hc2 : ¬ (p = 4294967295) := fun z => hc2 ((nI_eqU (by omega) (by omega)).mpr z)
    refine Ev.run 3 (pc' := 19) (lv' := [(0, .ref 0), (1, .int (nI p)), (2, .int (nI i)), (3, .int (nI n))]) (st' := [.int (nI p), .ref 12]) (h' := HN g hl (RF rt)) rfl ?_
    refine Ev.call (a := 22) (as := [.ref 12, .int (nI p)]) (rest := []) (lv0 := [(0, .ref 12), (1, .int (nI p))]) (Q1 := (fun z0 h' => z0 = some (.int (nI (bn (decide (p < g 12 2))))) ∧ h' = HN g hl (RF rt))) rfl rfl (K_hasPlayer2 _ _ _ _ (by omega) p (by omega) ⟨rfl, rfl⟩) (fun r h' hr => ?_)
    obtain ⟨rfl, rfl⟩ := hr
    refine Ev_bn (fun hb22 => ?_) (fun hb22 => ?_)
    · have hhb22 : p < g 12 2 := of_decide_eq_true hb22
      refine Ev.run 9 (pc' := 39) (lv' := [(0, .ref 0), (1, .int (nI p)), (2, .int (nI i)), (3, .int (nI n))]) (st' := [.int (nI (g 13 5) - nI 1), .int (nI 0), .int (nI i)]) (h' := HN g hl (RF rt)) rfl ?_
      refine Ev.call (a := 118) (as := [.int (nI i), .int (nI 0), .int (nI (g 13 5) - nI 1)]) (rest := []) (lv0 := [(0, .int (nI i)), (1, .int (nI 0)), (2, .int (nI (g 13 5) - nI 1))]) (Q1 := (fun z0 h' => z0 = some (.int (nI (bn (decide (i < g 13 5))))) ∧ h' = HN g hl (RF rt))) rfl rfl (K_within _ _ _ _ (nI i) (nI 0) (nI (g 13 5) - nI 1) (by rw [in1 (by omega) (by omega)]; exact ⟨rfl, rfl⟩)) (fun r h' hr => ?_)
      obtain ⟨rfl, rfl⟩ := hr
      refine Ev_bn (fun hb42 => ?_) (fun hb42 => ?_)
      · have hhb42 : i < g 13 5 := of_decide_eq_true hb42
        refine Ev.run 1 (pc' := 47) (lv' := [(0, .ref 0), (1, .int (nI p)), (2, .int (nI i)), (3, .int (nI n))]) (st' := []) (h' := HN g hl (RF rt)) rfl ?_
        have hszi := hsz i (by omega)
        refine Ev.run 7 (pc' := 60) (lv' := [(0, .ref 0), (1, .int (nI p)), (2, .int (nI i)), (3, .int (nI n))]) (st' := [.int (nI i), .ref 14, .int (nI 1), .int (nI n)]) (h' := HN g hl (RF rt)) rfl ?_
        refine Ev_aald (c := (19 + 2 * i)) rfl (by decide) rfl (show i < 12 by omega) (Nat.le_of_ble_eq_true rfl) (rf_line rt i (by omega)).2 ?_
        refine Ev_gfI rfl rfl rfl (LnW rt (show i < 12 by omega)).1 ?_
        refine Ev.topI (congrArg nI (hB.2.1 i (by omega))) ?_
        refine Ev.call (a := 118) (as := [.int (nI n), .int (nI 1), .int (nI (g 168 i))]) (rest := []) (lv0 := [(0, .int (nI n)), (1, .int (nI 1)), (2, .int (nI (g 168 i)))]) (Q1 := (fun z0 h' => z0 = some (.int (nI (bn (decide (1 ≤ n ∧ n ≤ g 168 i))))) ∧ h' = HN g hl (RF rt))) rfl rfl (K_within _ _ _ _ (nI n) (nI 1) (nI (g 168 i)) (by rw [in1b (by omega) (by omega)]; exact ⟨rfl, rfl⟩)) (fun r h' hr => ?_)
        obtain ⟨rfl, rfl⟩ := hr
        refine Ev_bn (fun hb67 => ?_) (fun hb67 => ?_)
        · have hhb67 : 1 ≤ n ∧ n ≤ g 168 i := of_decide_eq_true hb67
          refine Ev.run 4 (pc' := 80) (lv' := [(0, .ref 0), (1, .int (nI p)), (2, .int (nI i)), (3, .int (nI n))]) (st' := [.ref 48]) (h' := HN g hl (RF rt)) rfl ?_
          refine Ev.call (a := 42) (as := [.ref 48]) (rest := []) (lv0 := [(0, .ref 48)]) (Q1 := (fun z0 h' => z0 = some (.int (nI (bn (decide (6 ≤ g 48 1))))) ∧ h' = HN g hl (RF rt))) rfl rfl (K_isFull _ _ _ _ 48 6 (ln48 rt) (by omega) ⟨rfl, rfl⟩) (fun r h' hr => ?_)
          obtain ⟨rfl, rfl⟩ := hr
          refine Ev_bn (fun hb83 => ?_) (fun hb83 => ?_)
          · have hhb83 : 6 ≤ g 48 1 := of_decide_eq_true hb83
            refine Ev.run 2 (pc' := 88) (lv' := [(0, .ref 0), (1, .int (nI p)), (2, .int (nI i)), (3, .int (nI n))]) (st' := [.int (nI 4294967292)]) (h' := HN g hl (RF rt)) rfl ?_
            refine Ev.ret (v := some (.int (nI 4294967292))) rfl ?_
            unfold rs_see cs_see at hq
            repeat (first | rw [if_pos (by omega)] at hq | rw [if_neg (by omega)] at hq)
            first | exact hq | (rw [h481, h501, h521]; exact hq)
          · have hhb83 : ¬ (6 ≤ g 48 1) := of_decide_eq_false hb83
            refine Ev.run 6 (pc' := 96) (lv' := [(0, .ref 0), (1, .int (nI p)), (2, .int (nI i)), (3, .int (nI n))]) (st' := [.int (nI n), .int (nI i), .int (nI p), .ref 12]) (h' := HN g hl (RF rt)) rfl ?_
            refine Ev.call (a := 25) (as := [.ref 12, .int (nI p), .int (nI i), .int (nI n)]) (rest := []) (lv0 := [(0, .ref 12), (1, .int (nI p)), (2, .int (nI i)), (3, .int (nI n))]) (Q1 := (fun z0 h' => z0 = none ∧ h' = HN (u2 (u2 (u2 (u2 (u2 (u2 g 49 (g 48 1) p) 48 1 (g 48 1 + 1)) 51 (g 50 1) i) 50 1 (g 50 1 + 1)) 53 (g 52 1) n) 52 1 (g 52 1 + 1)) hl (RF rt))) rfl rfl (K_putSeen _ _ _ _ p i n (by omega) (by omega) (by omega) ⟨rfl, rfl⟩) (fun r h' hr => ?_)
            obtain ⟨rfl, rfl⟩ := hr
            refine Ev.run 4 (pc' := 109) (lv' := [(0, .ref 0), (1, .int (nI p)), (2, .int (nI i)), (3, .int (nI n))]) (st' := [.int (nI (g 48 1 + 1))]) (h' := HN (u2 (u2 (u2 (u2 (u2 (u2 g 49 (g 48 1) p) 48 1 (g 48 1 + 1)) 51 (g 50 1) i) 50 1 (g 50 1 + 1)) 53 (g 52 1) n) 52 1 (g 52 1 + 1)) hl (RF rt)) rfl ?_
            refine Ev.ret (v := some (.int (nI (g 48 1 + 1)))) rfl ?_
            unfold rs_see cs_see at hq
            repeat (first | rw [if_pos (by omega)] at hq | rw [if_neg (by omega)] at hq)
            first | exact hq | (rw [h481, h501, h521]; exact hq)
        · have hhb67 : ¬ (1 ≤ n ∧ n ≤ g 168 i) := of_decide_eq_false hb67
          refine Ev.run 2 (pc' := 72) (lv' := [(0, .ref 0), (1, .int (nI p)), (2, .int (nI i)), (3, .int (nI n))]) (st' := [.int (nI 4294967294)]) (h' := HN g hl (RF rt)) rfl ?_
          refine Ev.ret (v := some (.int (nI 4294967294))) rfl ?_
          unfold rs_see cs_see at hq
          repeat (first | rw [if_pos (by omega)] at hq | rw [if_neg (by omega)] at hq)
          first | exact hq | (rw [h481, h501, h521]; exact hq)
      · have hhb42 : ¬ (i < g 13 5) := of_decide_eq_false hb42
        refine Ev.run 2 (pc' := 46) (lv' := [(0, .ref 0), (1, .int (nI p)), (2, .int (nI i)), (3, .int (nI n))]) (st' := [.int (nI 4294967295)]) (h' := HN g hl (RF rt)) rfl ?_
        refine Ev.ret (v := some (.int (nI 4294967295))) rfl ?_
        unfold rs_see cs_see at hq
        repeat (first | rw [if_pos (by omega)] at hq | rw [if_neg (by omega)] at hq)
        first | exact hq | (rw [h481, h501, h521]; exact hq)
    · have hhb22 : ¬ (p < g 12 2) := of_decide_eq_false hb22
      refine Ev.run 2 (pc' := 46) (lv' := [(0, .ref 0), (1, .int (nI p)), (2, .int (nI i)), (3, .int (nI n))]) (st' := [.int (nI 4294967295)]) (h' := HN g hl (RF rt)) rfl ?_
      refine Ev.ret (v := some (.int (nI 4294967295))) rfl ?_
      unfold rs_see cs_see at hq
      repeat (first | rw [if_pos (by omega)] at hq | rw [if_neg (by omega)] at hq)
      first | exact hq | (rw [h481, h501, h521]; exact hq)
theorem K_sheet {L : Nat} {xs : Nat → Int32} (d : Nat) (g : Nat → Nat → Nat) (hl : Nat → Nat → Int64) (rt : Nat × Nat × Nat × Nat) (hV : Inv g hl rt) (p : Nat) (hp : p < 2 ^ 32) {Q : Po} (hq : Q (some (.int (nI (rs_sheet g p)))) (HN (cs_sheet g p) hl (RF rt))) : Ev L xs (d + 2) 102 0 [(0, .ref 0), (1, .int (nI p))] [] (HN g hl (RF rt)) Q := by
  have hI := hV.mi
  have hW := hI.hW
  have hS := hI.hS
  have hPl := hI.hPl
  have hNx := hI.hNx
  have hLa := hI.hLa
  have hLo := hI.hLo
  have hTb := hI.hTb
  have hTh := hI.hTh
  have hFd := hI.hFd
  have hSn := hI.hSn
  have hSh := hI.hSh
  have hRan := hI.hRan
  have hLr := hI.hLr
  have hLt := hI.hLt
  have hgl := hI.hgl
  have hsz := hI.hsz
  have hcm := hI.hcm
  have hsl := hI.hsl
  have hkd := hI.hkd
  have hvv := hI.hvv
  have hli := hI.hli
  have hro := hI.hro
  have hrw := hI.hrw
  have htx := hI.htx
  have hsw := hI.hsw
  have hsx := hI.hsx
  have hsy := hI.hsy
  have hsh := hI.hsh
  have hle := hI.hle
  have hcl := hI.hcl
  have hwd := hI.hwd
  have hnu := hI.hnu
  have hwn := hI.hwn
  have hs1 := hI.hs1
  have hso := hI.hso
  have hB := hV.gm.cb
  have hB0 := hB.1
  have hPs := hV.gm.cs
  have hsp1 := hV.sp.1
  have htx1 := hV.tx.1
  have h451 := hV.gm.rx.1
  have h442 := hV.gm.rx.2.2.2.1
  have h443 := hV.gm.rx.2.2.2.2
  have h481 := hV.gm.l48.1
  have h501 := hV.gm.l50.1
  have h521 := hV.gm.l52.1
  have h541 := hV.gm.l54.1
  have h04 := hV.tb.1
  have hac1 := hV.ac.1
  have hac2 := hV.ac.2.1
  have hPl0 := hV.gm.cp
  refine Ev.run 3 (pc' := (if nI p = nI 4294967295 then 5 else 17)) (lv' := [(0, .ref 0), (1, .int (nI p))]) (st' := []) (h' := HN g hl (RF rt)) rfl ?_
  refine Ev.ite (fun hc2 => ?_) (fun hc2 => ?_)
  · have hc2 : p = 4294967295 := (nI_eqU (by omega) (by omega)).mp hc2
    refine Ev.run 3 (pc' := 12) (lv' := [(0, .ref 0), (1, .int (nI p))]) (st' := [.ref 54]) (h' := HN g hl (RF rt)) rfl ?_
    refine Ev.call (a := 45) (as := [.ref 54]) (rest := []) (lv0 := [(0, .ref 54)]) (Q1 := (fun z0 h' => z0 = none ∧ h' = HN (u2 g 54 1 0) hl (RF rt))) rfl rfl (K_clear _ _ _ _ 54 8 (ln54 rt) ⟨rfl, rfl⟩) (fun r h' hr => ?_)
    obtain ⟨rfl, rfl⟩ := hr
    refine Ev.run 1 (pc' := 16) (lv' := [(0, .ref 0), (1, .int (nI p))]) (st' := [.int (nI 0)]) (h' := HN (u2 g 54 1 0) hl (RF rt)) rfl ?_
    refine Ev.ret (v := some (.int (nI 0))) rfl ?_
    unfold rs_sheet cs_sheet at hq
    repeat (first | rw [if_pos (by omega)] at hq | rw [if_neg (by omega)] at hq)
    first | exact hq | (rw [h541]; exact hq)
  · have hc2 : ¬ (p = 4294967295) := fun z => hc2 ((nI_eqU (by omega) (by omega)).mpr z)
    refine Ev.run 3 (pc' := 22) (lv' := [(0, .ref 0), (1, .int (nI p))]) (st' := [.int (nI p), .ref 12]) (h' := HN g hl (RF rt)) rfl ?_
    refine Ev.call (a := 22) (as := [.ref 12, .int (nI p)]) (rest := []) (lv0 := [(0, .ref 12), (1, .int (nI p))]) (Q1 := (fun z0 h' => z0 = some (.int (nI (bn (decide (p < g 12 2))))) ∧ h' = HN g hl (RF rt))) rfl rfl (K_hasPlayer2 _ _ _ _ (by omega) p (by omega) ⟨rfl, rfl⟩) (fun r h' hr => ?_)
    obtain ⟨rfl, rfl⟩ := hr
    refine Ev_bn (fun hb25 => ?_) (fun hb25 => ?_)
    · have hhb25 : p < g 12 2 := of_decide_eq_true hb25
      refine Ev.run 4 (pc' := 37) (lv' := [(0, .ref 0), (1, .int (nI p))]) (st' := [.ref 54]) (h' := HN g hl (RF rt)) rfl ?_
      refine Ev.call (a := 42) (as := [.ref 54]) (rest := []) (lv0 := [(0, .ref 54)]) (Q1 := (fun z0 h' => z0 = some (.int (nI (bn (decide (8 ≤ g 54 1))))) ∧ h' = HN g hl (RF rt))) rfl rfl (K_isFull _ _ _ _ 54 8 (ln54 rt) (by omega) ⟨rfl, rfl⟩) (fun r h' hr => ?_)
      obtain ⟨rfl, rfl⟩ := hr
      refine Ev_bn (fun hb40 => ?_) (fun hb40 => ?_)
      · have hhb40 : 8 ≤ g 54 1 := of_decide_eq_true hb40
        refine Ev.run 2 (pc' := 45) (lv' := [(0, .ref 0), (1, .int (nI p))]) (st' := [.int (nI 4294967292)]) (h' := HN g hl (RF rt)) rfl ?_
        refine Ev.ret (v := some (.int (nI 4294967292))) rfl ?_
        unfold rs_sheet cs_sheet at hq
        repeat (first | rw [if_pos (by omega)] at hq | rw [if_neg (by omega)] at hq)
        first | exact hq | (rw [h541]; exact hq)
      · have hhb40 : ¬ (8 ≤ g 54 1) := of_decide_eq_false hb40
        refine Ev.run 5 (pc' := 54) (lv' := [(0, .ref 0), (1, .int (nI p))]) (st' := [.int (nI p), .ref 54]) (h' := HN g hl (RF rt)) rfl ?_
        refine Ev.call (a := 43) (as := [.ref 54, .int (nI p)]) (rest := []) (lv0 := [(0, .ref 54), (1, .int (nI p))]) (Q1 := (fun z0 h' => z0 = none ∧ h' = HN (u2 (u2 g 55 (g 54 1) p) 54 1 (g 54 1 + 1)) hl (RF rt))) rfl rfl (K_put _ _ _ _ 54 8 (ln54 rt) p (by omega) ⟨rfl, congrArg (fun z => HN z hl (RF rt)) (if_pos (show g 54 1 < 8 by omega))⟩) (fun r h' hr => ?_)
        obtain ⟨rfl, rfl⟩ := hr
        refine Ev.run 4 (pc' := 67) (lv' := [(0, .ref 0), (1, .int (nI p))]) (st' := [.int (nI (g 54 1 + 1))]) (h' := HN (u2 (u2 g 55 (g 54 1) p) 54 1 (g 54 1 + 1)) hl (RF rt)) rfl ?_
        refine Ev.ret (v := some (.int (nI (g 54 1 + 1)))) rfl ?_
        unfold rs_sheet cs_sheet at hq
        repeat (first | rw [if_pos (by omega)] at hq | rw [if_neg (by omega)] at hq)
        first | exact hq | (rw [h541]; exact hq)
    · have hhb25 : ¬ (p < g 12 2) := of_decide_eq_false hb25
      refine Ev.run 2 (pc' := 29) (lv' := [(0, .ref 0), (1, .int (nI p))]) (st' := [.int (nI 4294967295)]) (h' := HN g hl (RF rt)) rfl ?_
      refine Ev.ret (v := some (.int (nI 4294967295))) rfl ?_
      unfold rs_sheet cs_sheet at hq
      repeat (first | rw [if_pos (by omega)] at hq | rw [if_neg (by omega)] at hq)
      first | exact hq | (rw [h541]; exact hq)
