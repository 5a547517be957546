/-! the reference: who has, could, can -/
noncomputable def ksS (g : Nat → Nat → Nat) (p i n : Nat) : Bool := dc (∃ o, o < g 166 0 ∧ al g i o n = true ∧ kwS g p o = true)
theorem C_knowsSome {L : Nat} {xs : Nat → Int32} (d : Nat) (g : Nat → Nat → Nat) (hl : Nat → Nat → Int64) (rt : Nat × Nat × Nat × Nat) (hI : MI g) (hK : KW g) (p i n : Nat) (hp : p < 5) (hi : i < 12) (hn : n < 2 ^ 31) (r w v : Nat → Nat) (hs : SmH g r v)  {Q : Po} (hq : ∀ r' w' v' : Nat → Nat, SmH g r' v' → Q (some (.int (nI (bn (ksS g p i n))))) (HN (U g r' w' v') hl (RF rt))) : Ev L xs (d + 3) 211 0 [(0, .ref 166), (1, .int (nI p)), (2, .int (nI i)), (3, .int (nI n))] [] (HN (U g r w v) hl (RF rt)) Q := by
  have hW := hI.hW
  have hS := hI.hS
  have hPl := hI.hPl
  have hNx := hI.hNx
  have hLa := hI.hLa
  have hLo := hI.hLo
  have hTb := hI.hTb
  have hTh := hI.hTh
  have hFd := hI.hFd
  have hSn := hI.hSn
  have hSh := hI.hSh
  have hRan := hI.hRan
  have hLr := hI.hLr
  have hLt := hI.hLt
  have hgl := hI.hgl
  have hsz := hI.hsz
  have hcm := hI.hcm
  have hsl := hI.hsl
  have hkd := hI.hkd
  have hvv := hI.hvv
  have hli := hI.hli
  have hro := hI.hro
  have hrw := hI.hrw
  have htx := hI.htx
  have hsw := hI.hsw
  have hsx := hI.hsx
  have hsy := hI.hsy
  have hsh := hI.hsh
  have hle := hI.hle
  have hcl := hI.hcl
  have hwd := hI.hwd
  have hnu := hI.hnu
  have hwn := hI.hwn
  have hs1 := hI.hs1
  have hso := hI.hso
  refine Ev.run 2 (pc' := 3) (lv' := [(4, .int (nI 0)), (0, .ref 166), (1, .int (nI p)), (2, .int (nI i)), (3, .int (nI n))]) (st' := []) (h' := HN (U g r w v) hl (RF rt)) rfl ?_
  refine for_ind (g 166 0) (fun m => ∀ (r w v : Nat → Nat), SmH g r v → (∀ o, o < m → ¬ (al g i o n = true ∧ kwS g p o = true)) → Ev L xs (d + 3) 211 3 [(4, .int (nI m)), (0, .ref 166), (1, .int (nI p)), (2, .int (nI i)), (3, .int (nI n))] [] (HN (U g r w v) hl (RF rt)) Q) (fun m hm hnext => ?_) 0 (Nat.zero_le _) r w v hs (fun k hk => absurd hk (Nat.not_lt_zero _))
  intro r w v hs ha
  refine Ev.run 4 (pc' := (if nI (g 166 0) ≤ nI m then 41 else 12)) (lv' := [(4, .int (nI m)), (0, .ref 166), (1, .int (nI p)), (2, .int (nI i)), (3, .int (nI n))]) (st' := []) (h' := HN (U g r w v) hl (RF rt)) rfl ?_
  refine Ev.ite (fun hc9 => ?_) (fun hc9 => ?_)
  · have hc9 : (g 166 0) ≤ m := (nI_leI (by omega) (by omega)).mp hc9
    refine Ev.run 1 (pc' := 42) (lv' := [(4, .int (nI m)), (0, .ref 166), (1, .int (nI p)), (2, .int (nI i)), (3, .int (nI n))]) (st' := [.int (nI 0)]) (h' := HN (U g r w v) hl (RF rt)) rfl ?_
    refine Ev.ret (v := some (.int (nI 0))) rfl ?_
    rw [show ksS g p i n = false from dc_f (fun ⟨o, h1, h2, h3⟩ => ha o (by omega) ⟨h2, h3⟩)] at hq
    exact hq r w v hs
  · have hc9 : ¬ ((g 166 0) ≤ m) := fun z => hc9 ((nI_leI (by omega) (by omega)).mpr z)
    refine Ev.run 4 (pc' := 17) (lv' := [(4, .int (nI m)), (0, .ref 166), (1, .int (nI p)), (2, .int (nI i)), (3, .int (nI n))]) (st' := [.int (nI n), .int (nI m), .int (nI i), .ref 166]) (h' := HN (U g r w v) hl (RF rt)) rfl ?_
    refine Ev.call (a := 170) (as := [.ref 166, .int (nI i), .int (nI m), .int (nI n)]) (rest := []) (lv0 := [(0, .ref 166), (1, .int (nI i)), (2, .int (nI m)), (3, .int (nI n))]) (Q1 := (fun z0 h' => z0 = some (.int (nI (bn (al g i m n)))) ∧ h' = HN (U g r w v) hl (RF rt))) rfl rfl (C_areAlike _ _ _ _ (hI.mU hs) i m n (by omega) (by omega) (by omega) ⟨congrArg (fun z => some (Value.int (nI (bn z)))) (congrFun (congrFun (congrFun (Cx.cU g r w v).xal _) _) _), rfl⟩) (fun r h' hr => ?_)
    obtain ⟨rfl, rfl⟩ := hr
    refine Ev_bn (fun hb20 => ?_) (fun hb20 => ?_)
    · skip
      refine Ev.run 4 (pc' := 27) (lv' := [(4, .int (nI m)), (0, .ref 166), (1, .int (nI p)), (2, .int (nI i)), (3, .int (nI n))]) (st' := [.int (nI m), .int (nI p), .ref 166]) (h' := HN (U g r w v) hl (RF rt)) rfl ?_
      refine Ev.call (a := 161) (as := [.ref 166, .int (nI p), .int (nI m)]) (rest := []) (lv0 := [(0, .ref 166), (1, .int (nI p)), (2, .int (nI m))]) (Q1 := (fun r h' => ∃ r1 w1 v1, SmH g r1 v1 ∧ r = some (.int (nI (bn (kwS g p m)))) ∧ h' = HN (U g r1 w1 v1) hl (RF rt))) rfl rfl (C_knows _ _ _ _ hI hK p m (by omega) (by omega) r w v hs (fun r w v h => ⟨r, w, v, h, rfl, rfl⟩)) (fun r h' hr => ?_)
      obtain ⟨r112, w112, v112, hs112, rfl, rfl⟩ := hr
      refine Ev_bn (fun hb30 => ?_) (fun hb30 => ?_)
      · skip
        refine Ev.run 2 (pc' := 34) (lv' := [(4, .int (nI m)), (0, .ref 166), (1, .int (nI p)), (2, .int (nI i)), (3, .int (nI n))]) (st' := [.int (nI 1)]) (h' := HN (U g r112 w112 v112) hl (RF rt)) rfl ?_
        refine Ev.ret (v := some (.int (nI 1))) rfl ?_
        rw [show ksS g p i n = true from dc_t ⟨m, by omega, hb20, hb30⟩] at hq
        exact hq r112 w112 v112 hs112
      · skip
        refine Ev.run 2 (pc' := 38) (lv' := [(4, .int (nI m + 1)), (0, .ref 166), (1, .int (nI p)), (2, .int (nI i)), (3, .int (nI n))]) (st' := []) (h' := HN (U g r112 w112 v112) hl (RF rt)) rfl ?_
        refine Ev.lvE (congrArg (fun z => (4, Value.int z) :: [(0, .ref 166), (1, .int (nI p)), (2, .int (nI i)), (3, .int (nI n))]) (nI_1 _)) ?_
        refine Ev.run 1 (pc' := 3) (lv' := [(4, .int (nI (m + 1))), (0, .ref 166), (1, .int (nI p)), (2, .int (nI i)), (3, .int (nI n))]) (st' := []) (h' := HN (U g r112 w112 v112) hl (RF rt)) rfl ?_
        exact hnext (by omega) r112 w112 v112 hs112 (all_s (p := fun o => ¬ (al g i o n = true ∧ kwS g p o = true)) ha (fun z => by first | exact tf z.1 hb20 | exact tf z.2 hb30))
    · skip
      refine Ev.run 2 (pc' := 38) (lv' := [(4, .int (nI m + 1)), (0, .ref 166), (1, .int (nI p)), (2, .int (nI i)), (3, .int (nI n))]) (st' := []) (h' := HN (U g r w v) hl (RF rt)) rfl ?_
      refine Ev.lvE (congrArg (fun z => (4, Value.int z) :: [(0, .ref 166), (1, .int (nI p)), (2, .int (nI i)), (3, .int (nI n))]) (nI_1 _)) ?_
      refine Ev.run 1 (pc' := 3) (lv' := [(4, .int (nI (m + 1))), (0, .ref 166), (1, .int (nI p)), (2, .int (nI i)), (3, .int (nI n))]) (st' := []) (h' := HN (U g r w v) hl (RF rt)) rfl ?_
      exact hnext (by omega) r w v hs (all_s (p := fun o => ¬ (al g i o n = true ∧ kwS g p o = true)) ha (fun z => by first | exact tf z.1 hb20 | exact tf z.2 hb30))
noncomputable def coB (g : Nat → Nat → Nat) (p : Nat) : Bool := dc (∀ k, k < g 166 44 → g 189 k = p → ksS g p (g 190 k) (g 191 k) = true)
noncomputable def rs_could (g : Nat → Nat → Nat) (p : Nat) : Nat := if p < g 166 6 then bn (coB g p) else 4294967295
noncomputable def rs_can (g : Nat → Nat → Nat) (i n : Nat) : Nat := if i < g 166 0 then (if 1 ≤ n ∧ n ≤ g 168 i then bset (fun p => ksS g p i n) (g 166 6) else 4294967294) else 4294967295
noncomputable def rs_has (g : Nat → Nat → Nat) (p x : Nat) : Nat := if p < g 166 6 then (if x ≤ 1 then (if x = 0 then ones12 (fitA g (g 175) (g 166 9) (knS g p)) else if fitA g (g 175) (g 166 9) (knS g p) = 0 then 4294967291 else least (fitA g (g 175) (g 166 9) (knS g p))) else 4294967295) else 4294967295
noncomputable def rs_of (g : Nat → Nat → Nat) (p x : Nat) : Nat := if p < g 166 6 then (if x = 0 then g 171 p else if x = 1 then g 172 p else if x = 2 then g 173 p else if x = 3 then maS g p else if x = 4 then saS g (maS g p) else if x = 5 then knS g p else 4294967295) else 4294967295
theorem C_could {L : Nat} {xs : Nat → Int32} (d : Nat) (g : Nat → Nat → Nat) (hl : Nat → Nat → Int64) (rt : Nat × Nat × Nat × Nat) (hI : MI g) (hK : KW g) (p : Nat) (hp : p < 2 ^ 32) (r w v : Nat → Nat) (hs : SmH g r v)  {Q : Po} (hq : ∀ r' w' v' : Nat → Nat, SmH g r' v' → Q (some (.int (nI (rs_could g p)))) (HN (U g r' w' v') hl (RF rt))) : Ev L xs (d + 4) 212 0 [(0, .ref 166), (1, .int (nI p))] [] (HN (U g r w v) hl (RF rt)) Q := by
  have hW := hI.hW
  have hS := hI.hS
  have hPl := hI.hPl
  have hNx := hI.hNx
  have hLa := hI.hLa
  have hLo := hI.hLo
  have hTb := hI.hTb
  have hTh := hI.hTh
  have hFd := hI.hFd
  have hSn := hI.hSn
  have hSh := hI.hSh
  have hRan := hI.hRan
  have hLr := hI.hLr
  have hLt := hI.hLt
  have hgl := hI.hgl
  have hsz := hI.hsz
  have hcm := hI.hcm
  have hsl := hI.hsl
  have hkd := hI.hkd
  have hvv := hI.hvv
  have hli := hI.hli
  have hro := hI.hro
  have hrw := hI.hrw
  have htx := hI.htx
  have hsw := hI.hsw
  have hsx := hI.hsx
  have hsy := hI.hsy
  have hsh := hI.hsh
  have hle := hI.hle
  have hcl := hI.hcl
  have hwd := hI.hwd
  have hnu := hI.hnu
  have hwn := hI.hwn
  have hs1 := hI.hs1
  have hso := hI.hso
  refine Ev.run 2 (pc' := 2) (lv' := [(0, .ref 166), (1, .int (nI p))]) (st' := [.int (nI p), .ref 166]) (h' := HN (U g r w v) hl (RF rt)) rfl ?_
  refine Ev.call (a := 135) (as := [.ref 166, .int (nI p)]) (rest := []) (lv0 := [(0, .ref 166), (1, .int (nI p))]) (Q1 := (fun z0 h' => z0 = some (.int (nI (bn (decide (p < g 166 6))))) ∧ h' = HN (U g r w v) hl (RF rt))) rfl rfl (C_isPlayer _ (U g r w v) _ _ p (by omega) hPl ⟨rfl, rfl⟩) (fun r h' hr => ?_)
  obtain ⟨rfl, rfl⟩ := hr
  refine Ev_bn (fun hb5 => ?_) (fun hb5 => ?_)
  · have hhb5 : p < g 166 6 := of_decide_eq_true hb5
    refine Ev.run 3 (pc' := 12) (lv' := [(2, .int (nI 0)), (0, .ref 166), (1, .int (nI p))]) (st' := []) (h' := HN (U g r w v) hl (RF rt)) rfl ?_
    refine for_ind (g 166 44) (fun m => ∀ (r w v : Nat → Nat), SmH g r v → (∀ k, k < m → g 189 k = p → ksS g p (g 190 k) (g 191 k) = true) → Ev L xs (d + 4) 212 12 [(2, .int (nI m)), (0, .ref 166), (1, .int (nI p))] [] (HN (U g r w v) hl (RF rt)) Q) (fun m hm hnext => ?_) 0 (Nat.zero_le _) r w v hs (fun k hk => absurd hk (Nat.not_lt_zero _))
    intro r w v hs ha
    refine Ev.run 4 (pc' := (if nI (g 166 44) ≤ nI m then 58 else 20)) (lv' := [(2, .int (nI m)), (0, .ref 166), (1, .int (nI p))]) (st' := []) (h' := HN (U g r w v) hl (RF rt)) rfl ?_
    refine Ev.ite (fun hc17 => ?_) (fun hc17 => ?_)
    · have hc17 : (g 166 44) ≤ m := (nI_leI (by omega) (by omega)).mp hc17
      refine Ev.run 1 (pc' := 59) (lv' := [(2, .int (nI m)), (0, .ref 166), (1, .int (nI p))]) (st' := [.int (nI 1)]) (h' := HN (U g r w v) hl (RF rt)) rfl ?_
      refine Ev.ret (v := some (.int (nI 1))) rfl ?_
      have hx := hq r w v hs
      unfold rs_could at hx
      rw [if_pos (by omega), show coB g p = true from dc_t (fun k hk => ha k (by omega))] at hx
      exact hx
    · have hc17 : ¬ ((g 166 44) ≤ m) := fun z => hc17 ((nI_leI (by omega) (by omega)).mpr z)
      refine Ev.run 3 (pc' := 25) (lv' := [(2, .int (nI m)), (0, .ref 166), (1, .int (nI p))]) (st' := [.int (nI m), .ref 189]) (h' := HN (U g r w v) hl (RF rt)) rfl ?_
      refine Ev_iald rfl rfl (show m < 6 by omega) (Nat.le_of_ble_eq_true rfl) ?_
      have hr0 := hsw m (by omega)
      refine Ev.run 2 (pc' := (if nI (g 189 m) = nI p then 30 else 52)) (lv' := [(2, .int (nI m)), (0, .ref 166), (1, .int (nI p))]) (st' := []) (h' := HN (U g r w v) hl (RF rt)) rfl ?_
      refine Ev.ite (fun hc27 => ?_) (fun hc27 => ?_)
      · have hc27 : (g 189 m) = p := (nI_eqU (by omega) (by omega)).mp hc27
        refine Ev.run 5 (pc' := 37) (lv' := [(2, .int (nI m)), (0, .ref 166), (1, .int (nI p))]) (st' := [.int (nI m), .ref 190, .int (nI p), .ref 166]) (h' := HN (U g r w v) hl (RF rt)) rfl ?_
        refine Ev_iald rfl rfl (show m < 6 by omega) (Nat.le_of_ble_eq_true rfl) ?_
        have hr1 := hsx m (by omega)
        refine Ev.run 3 (pc' := 43) (lv' := [(2, .int (nI m)), (0, .ref 166), (1, .int (nI p))]) (st' := [.int (nI m), .ref 191, .int (nI (g 190 m)), .int (nI p), .ref 166]) (h' := HN (U g r w v) hl (RF rt)) rfl ?_
        refine Ev_iald rfl rfl (show m < 6 by omega) (Nat.le_of_ble_eq_true rfl) ?_
        have hr2 := hsy m (by omega)
        refine Ev.call (a := 211) (as := [.ref 166, .int (nI p), .int (nI (g 190 m)), .int (nI (g 191 m))]) (rest := []) (lv0 := [(0, .ref 166), (1, .int (nI p)), (2, .int (nI (g 190 m))), (3, .int (nI (g 191 m)))]) (Q1 := (fun r h' => ∃ r1 w1 v1, SmH g r1 v1 ∧ r = some (.int (nI (bn (ksS g p (g 190 m) (g 191 m))))) ∧ h' = HN (U g r1 w1 v1) hl (RF rt))) rfl rfl (C_knowsSome _ _ _ _ hI hK p (g 190 m) (g 191 m) (by omega) (by omega) (by omega) r w v hs (fun r w v h => ⟨r, w, v, h, rfl, rfl⟩)) (fun r h' hr => ?_)
        obtain ⟨r113, w113, v113, hs113, rfl, rfl⟩ := hr
        refine Ev_bn (fun hb47 => ?_) (fun hb47 => ?_)
        · skip
          refine Ev.run 2 (pc' := 55) (lv' := [(2, .int (nI m + 1)), (0, .ref 166), (1, .int (nI p))]) (st' := []) (h' := HN (U g r113 w113 v113) hl (RF rt)) rfl ?_
          refine Ev.lvE (congrArg (fun z => (2, Value.int z) :: [(0, .ref 166), (1, .int (nI p))]) (nI_1 _)) ?_
          refine Ev.run 1 (pc' := 12) (lv' := [(2, .int (nI (m + 1))), (0, .ref 166), (1, .int (nI p))]) (st' := []) (h' := HN (U g r113 w113 v113) hl (RF rt)) rfl ?_
          exact hnext (by omega) r113 w113 v113 hs113 (all_s (p := fun k => g 189 k = p → ksS g p (g 190 k) (g 191 k) = true) ha (fun z => by first | exact absurd z hc27 | exact hb47))
        · skip
          refine Ev.run 2 (pc' := 51) (lv' := [(2, .int (nI m)), (0, .ref 166), (1, .int (nI p))]) (st' := [.int (nI 0)]) (h' := HN (U g r113 w113 v113) hl (RF rt)) rfl ?_
          refine Ev.ret (v := some (.int (nI 0))) rfl ?_
          have hx := hq r113 w113 v113 hs113
          unfold rs_could at hx
          rw [if_pos (by omega), show coB g p = false from dc_f (fun z => tf (z m (by omega) hc27) hb47)] at hx
          exact hx
      · have hc27 : ¬ ((g 189 m) = p) := fun z => hc27 ((nI_eqU (by omega) (by omega)).mpr z)
        refine Ev.run 1 (pc' := 55) (lv' := [(2, .int (nI m + 1)), (0, .ref 166), (1, .int (nI p))]) (st' := []) (h' := HN (U g r w v) hl (RF rt)) rfl ?_
        refine Ev.lvE (congrArg (fun z => (2, Value.int z) :: [(0, .ref 166), (1, .int (nI p))]) (nI_1 _)) ?_
        refine Ev.run 1 (pc' := 12) (lv' := [(2, .int (nI (m + 1))), (0, .ref 166), (1, .int (nI p))]) (st' := []) (h' := HN (U g r w v) hl (RF rt)) rfl ?_
        exact hnext (by omega) r w v hs (all_s (p := fun k => g 189 k = p → ksS g p (g 190 k) (g 191 k) = true) ha (fun z => by first | exact absurd z hc27 | exact hb47))
  · have hhb5 : ¬ (p < g 166 6) := of_decide_eq_false hb5
    refine Ev.run 2 (pc' := 9) (lv' := [(0, .ref 166), (1, .int (nI p))]) (st' := [.int (nI 4294967295)]) (h' := HN (U g r w v) hl (RF rt)) rfl ?_
    refine Ev.ret (v := some (.int (nI 4294967295))) rfl ?_
    have hx := hq r w v hs
    unfold rs_could at hx
    rw [if_neg (by omega)] at hx
    exact hx
theorem C_can {L : Nat} {xs : Nat → Int32} (d : Nat) (g : Nat → Nat → Nat) (hl : Nat → Nat → Int64) (rt : Nat × Nat × Nat × Nat) (hI : MI g) (hK : KW g) (i : Nat) (n : Nat) (hi : i < 2 ^ 32) (hn : n < 2 ^ 32) (r w v : Nat → Nat) (hs : SmH g r v)  {Q : Po} (hq : ∀ r' w' v' : Nat → Nat, SmH g r' v' → Q (some (.int (nI (rs_can g i n)))) (HN (U g r' w' v') hl (RF rt))) : Ev L xs (d + 4) 213 0 [(0, .ref 166), (1, .int (nI i)), (2, .int (nI n))] [] (HN (U g r w v) hl (RF rt)) Q := by
  have hW := hI.hW
  have hS := hI.hS
  have hPl := hI.hPl
  have hNx := hI.hNx
  have hLa := hI.hLa
  have hLo := hI.hLo
  have hTb := hI.hTb
  have hTh := hI.hTh
  have hFd := hI.hFd
  have hSn := hI.hSn
  have hSh := hI.hSh
  have hRan := hI.hRan
  have hLr := hI.hLr
  have hLt := hI.hLt
  have hgl := hI.hgl
  have hsz := hI.hsz
  have hcm := hI.hcm
  have hsl := hI.hsl
  have hkd := hI.hkd
  have hvv := hI.hvv
  have hli := hI.hli
  have hro := hI.hro
  have hrw := hI.hrw
  have htx := hI.htx
  have hsw := hI.hsw
  have hsx := hI.hsx
  have hsy := hI.hsy
  have hsh := hI.hsh
  have hle := hI.hle
  have hcl := hI.hcl
  have hwd := hI.hwd
  have hnu := hI.hnu
  have hwn := hI.hwn
  have hs1 := hI.hs1
  have hso := hI.hso
  refine Ev.run 2 (pc' := 2) (lv' := [(0, .ref 166), (1, .int (nI i)), (2, .int (nI n))]) (st' := [.int (nI i), .ref 166]) (h' := HN (U g r w v) hl (RF rt)) rfl ?_
  refine Ev.call (a := 130) (as := [.ref 166, .int (nI i)]) (rest := []) (lv0 := [(0, .ref 166), (1, .int (nI i))]) (Q1 := (fun z0 h' => z0 = some (.int (nI (bn (decide (i < g 166 0))))) ∧ h' = HN (U g r w v) hl (RF rt))) rfl rfl (C_isWord _ (U g r w v) _ _ i (by omega) hW ⟨rfl, rfl⟩) (fun r h' hr => ?_)
  obtain ⟨rfl, rfl⟩ := hr
  refine Ev_bn (fun hb5 => ?_) (fun hb5 => ?_)
  · have hhb5 : i < g 166 0 := of_decide_eq_true hb5
    refine Ev.run 7 (pc' := 18) (lv' := [(0, .ref 166), (1, .int (nI i)), (2, .int (nI n))]) (st' := [.int (nI i), .ref 168, .int (nI 1), .int (nI n), .ref 166]) (h' := HN (U g r w v) hl (RF rt)) rfl ?_
    refine Ev_iald rfl rfl (show i < 12 by omega) (Nat.le_of_ble_eq_true rfl) ?_
    have hr0 := hsz i (by omega)
    refine Ev.call (a := 126) (as := [.ref 166, .int (nI n), .int (nI 1), .int (nI (g 168 i))]) (rest := []) (lv0 := [(0, .ref 166), (1, .int (nI n)), (2, .int (nI 1)), (3, .int (nI (g 168 i)))]) (Q1 := (fun z0 h' => z0 = some (.int (nI (bn (decide (1 ≤ n ∧ n ≤ g 168 i))))) ∧ h' = HN (U g r w v) hl (RF rt))) rfl rfl (C_in _ _ _ _ (nI n) (nI 1) (nI (g 168 i)) (by rw [in1b (by omega) (by omega)]; exact ⟨rfl, rfl⟩)) (fun r h' hr => ?_)
    obtain ⟨rfl, rfl⟩ := hr
    refine Ev_bn (fun hb22 => ?_) (fun hb22 => ?_)
    · have hhb22 : 1 ≤ n ∧ n ≤ g 168 i := of_decide_eq_true hb22
      refine Ev.run 1 (pc' := 28) (lv' := [(0, .ref 166), (1, .int (nI i)), (2, .int (nI n))]) (st' := []) (h' := HN (U g r w v) hl (RF rt)) rfl ?_
      have hsz0 := hsz i (by omega)
      refine Ev.run 4 (pc' := 33) (lv' := [(4, .int (nI 0)), (3, .int (nI 0)), (0, .ref 166), (1, .int (nI i)), (2, .int (nI n))]) (st' := []) (h' := HN (U g r w v) hl (RF rt)) rfl ?_
      refine for_ind (g 166 6) (fun m => ∀ (r w v : Nat → Nat), SmH g r v → Ev L xs (d + 4) 213 33 [(4, .int (nI m)), (3, .int (nI (bset (fun p => ksS g p i n) m))), (0, .ref 166), (1, .int (nI i)), (2, .int (nI n))] [] (HN (U g r w v) hl (RF rt)) Q) (fun m hm hnext => ?_) 0 (Nat.zero_le _) r w v hs
      intro r w v hs
      refine Ev.run 4 (pc' := (if nI (g 166 6) ≤ nI m then 70 else 42)) (lv' := [(4, .int (nI m)), (3, .int (nI (bset (fun p => ksS g p i n) m))), (0, .ref 166), (1, .int (nI i)), (2, .int (nI n))]) (st' := []) (h' := HN (U g r w v) hl (RF rt)) rfl ?_
      refine Ev.ite (fun hc39 => ?_) (fun hc39 => ?_)
      · have hc39 : (g 166 6) ≤ m := (nI_leI (by omega) (by omega)).mp hc39
        refine Ev.run 1 (pc' := 71) (lv' := [(4, .int (nI m)), (3, .int (nI (bset (fun p => ksS g p i n) m))), (0, .ref 166), (1, .int (nI i)), (2, .int (nI n))]) (st' := [.int (nI (bset (fun p => ksS g p i n) m))]) (h' := HN (U g r w v) hl (RF rt)) rfl ?_
        refine Ev.ret (v := some (.int (nI (bset (fun p => ksS g p i n) m)))) rfl ?_
        have hx := hq r w v hs
        unfold rs_can at hx
        rw [if_pos (by omega), if_pos (by omega)] at hx
        obtain rfl : m = g 166 6 := by omega
        exact hx
      · have hc39 : ¬ ((g 166 6) ≤ m) := fun z => hc39 ((nI_leI (by omega) (by omega)).mpr z)
        refine Ev.run 5 (pc' := 48) (lv' := [(4, .int (nI m)), (3, .int (nI (bset (fun p => ksS g p i n) m))), (0, .ref 166), (1, .int (nI i)), (2, .int (nI n))]) (st' := [.int (nI n), .int (nI i), .int (nI m), .ref 166, .int (nI (bset (fun p => ksS g p i n) m))]) (h' := HN (U g r w v) hl (RF rt)) rfl ?_
        refine Ev.call (a := 211) (as := [.ref 166, .int (nI m), .int (nI i), .int (nI n)]) (rest := [.int (nI (bset (fun p => ksS g p i n) m))]) (lv0 := [(0, .ref 166), (1, .int (nI m)), (2, .int (nI i)), (3, .int (nI n))]) (Q1 := (fun r h' => ∃ r1 w1 v1, SmH g r1 v1 ∧ r = some (.int (nI (bn (ksS g m i n)))) ∧ h' = HN (U g r1 w1 v1) hl (RF rt))) rfl rfl (C_knowsSome _ _ _ _ hI hK m i n (by omega) (by omega) (by omega) r w v hs (fun r w v h => ⟨r, w, v, h, rfl, rfl⟩)) (fun r h' hr => ?_)
        obtain ⟨r114, w114, v114, hs114, rfl, rfl⟩ := hr
        refine Ev_bn (fun hb51 => ?_) (fun hb51 => ?_)
        · skip
          refine Ev.run 4 (pc' := 58) (lv' := [(4, .int (nI m)), (3, .int (nI (bset (fun p => ksS g p i n) m))), (0, .ref 166), (1, .int (nI i)), (2, .int (nI n))]) (st' := [.int (nI 1 <<< (nI m &&& 31)), .int (nI (bset (fun p => ksS g p i n) m))]) (h' := HN (U g r114 w114 v114) hl (RF rt)) rfl ?_
          refine Ev.topI (nI_shl (by omega)) ?_
          refine Ev.run 2 (pc' := 63) (lv' := [(4, .int (nI m)), (3, .int (nI (bset (fun p => ksS g p i n) m))), (0, .ref 166), (1, .int (nI i)), (2, .int (nI n))]) (st' := [.int (nI (bset (fun p => ksS g p i n) m) ||| nI (nSh 1 m))]) (h' := HN (U g r114 w114 v114) hl (RF rt)) rfl ?_
          refine Ev.topI (nIo _ _) ?_
          refine Ev.run 2 (pc' := 67) (lv' := [(4, .int (nI m + 1)), (3, .int (nI ((bset (fun p => ksS g p i n) m) ||| (nSh 1 m)))), (0, .ref 166), (1, .int (nI i)), (2, .int (nI n))]) (st' := []) (h' := HN (U g r114 w114 v114) hl (RF rt)) rfl ?_
          refine Ev.lvE (congrArg (fun z => (4, Value.int z) :: [(3, .int (nI ((bset (fun p => ksS g p i n) m) ||| (nSh 1 m)))), (0, .ref 166), (1, .int (nI i)), (2, .int (nI n))]) (nI_1 _)) ?_
          refine Ev.run 1 (pc' := 33) (lv' := [(4, .int (nI (m + 1))), (3, .int (nI ((bset (fun p => ksS g p i n) m) ||| (nSh 1 m)))), (0, .ref 166), (1, .int (nI i)), (2, .int (nI n))]) (st' := []) (h' := HN (U g r114 w114 v114) hl (RF rt)) rfl ?_
          have hx := hnext (by omega) r114 w114 v114 hs114
          rw [bset_s1 (p := fun p => ksS g p i n) (by simp only [hhb5, hhb22, hc39, hb51, Bool.and_true, Bool.and_false, Bool.true_and, Bool.false_and, decide_true, decide_false, Bool.not_true, Bool.not_false])] at hx
          exact hx
        · skip
          refine Ev.run 3 (pc' := 63) (lv' := [(4, .int (nI m)), (3, .int (nI (bset (fun p => ksS g p i n) m))), (0, .ref 166), (1, .int (nI i)), (2, .int (nI n))]) (st' := [.int (nI (bset (fun p => ksS g p i n) m) ||| nI 0)]) (h' := HN (U g r114 w114 v114) hl (RF rt)) rfl ?_
          refine Ev.topI (nIo _ _) ?_
          refine Ev.run 2 (pc' := 67) (lv' := [(4, .int (nI m + 1)), (3, .int (nI ((bset (fun p => ksS g p i n) m) ||| 0))), (0, .ref 166), (1, .int (nI i)), (2, .int (nI n))]) (st' := []) (h' := HN (U g r114 w114 v114) hl (RF rt)) rfl ?_
          refine Ev.lvE (congrArg (fun z => (4, Value.int z) :: [(3, .int (nI ((bset (fun p => ksS g p i n) m) ||| 0))), (0, .ref 166), (1, .int (nI i)), (2, .int (nI n))]) (nI_1 _)) ?_
          refine Ev.run 1 (pc' := 33) (lv' := [(4, .int (nI (m + 1))), (3, .int (nI ((bset (fun p => ksS g p i n) m) ||| 0))), (0, .ref 166), (1, .int (nI i)), (2, .int (nI n))]) (st' := []) (h' := HN (U g r114 w114 v114) hl (RF rt)) rfl ?_
          have hx := hnext (by omega) r114 w114 v114 hs114
          rw [bset_s0 (p := fun p => ksS g p i n) (by simp only [hhb5, hhb22, hc39, hb51, Bool.and_true, Bool.and_false, Bool.true_and, Bool.false_and, decide_true, decide_false, Bool.not_true, Bool.not_false])] at hx
          exact hx
    · have hhb22 : ¬ (1 ≤ n ∧ n ≤ g 168 i) := of_decide_eq_false hb22
      refine Ev.run 2 (pc' := 27) (lv' := [(0, .ref 166), (1, .int (nI i)), (2, .int (nI n))]) (st' := [.int (nI 4294967294)]) (h' := HN (U g r w v) hl (RF rt)) rfl ?_
      refine Ev.ret (v := some (.int (nI 4294967294))) rfl ?_
      have hx := hq r w v hs
      unfold rs_can at hx
      rw [if_pos (by omega), if_neg (by omega)] at hx
      exact hx
  · have hhb5 : ¬ (i < g 166 0) := of_decide_eq_false hb5
    refine Ev.run 2 (pc' := 9) (lv' := [(0, .ref 166), (1, .int (nI i)), (2, .int (nI n))]) (st' := [.int (nI 4294967295)]) (h' := HN (U g r w v) hl (RF rt)) rfl ?_
    refine Ev.ret (v := some (.int (nI 4294967295))) rfl ?_
    have hx := hq r w v hs
    unfold rs_can at hx
    rw [if_neg (by omega)] at hx
    exact hx
theorem C_has {L : Nat} {xs : Nat → Int32} (d : Nat) (g : Nat → Nat → Nat) (hl : Nat → Nat → Int64) (rt : Nat × Nat × Nat × Nat) (hI : MI g) (hK : KW g) (p : Nat) (x : Nat) (hp : p < 2 ^ 32) (hx : x < 2 ^ 32) (r w v : Nat → Nat) (hs : SmH g r v)  {Q : Po} (hq : ∀ r' w' v' : Nat → Nat, SmH g r' v' → Q (some (.int (nI (rs_has g p x)))) (HN (U g r' w' v') hl (RF rt))) : Ev L xs (d + 4) 204 0 [(0, .ref 166), (1, .int (nI p)), (2, .int (nI x))] [] (HN (U g r w v) hl (RF rt)) Q := by
  have hW := hI.hW
  have hS := hI.hS
  have hPl := hI.hPl
  have hNx := hI.hNx
  have hLa := hI.hLa
  have hLo := hI.hLo
  have hTb := hI.hTb
  have hTh := hI.hTh
  have hFd := hI.hFd
  have hSn := hI.hSn
  have hSh := hI.hSh
  have hRan := hI.hRan
  have hLr := hI.hLr
  have hLt := hI.hLt
  have hgl := hI.hgl
  have hsz := hI.hsz
  have hcm := hI.hcm
  have hsl := hI.hsl
  have hkd := hI.hkd
  have hvv := hI.hvv
  have hli := hI.hli
  have hro := hI.hro
  have hrw := hI.hrw
  have htx := hI.htx
  have hsw := hI.hsw
  have hsx := hI.hsx
  have hsy := hI.hsy
  have hsh := hI.hsh
  have hle := hI.hle
  have hcl := hI.hcl
  have hwd := hI.hwd
  have hnu := hI.hnu
  have hwn := hI.hwn
  have hs1 := hI.hs1
  have hso := hI.hso
  refine Ev.run 2 (pc' := 2) (lv' := [(0, .ref 166), (1, .int (nI p)), (2, .int (nI x))]) (st' := [.int (nI p), .ref 166]) (h' := HN (U g r w v) hl (RF rt)) rfl ?_
  refine Ev.call (a := 135) (as := [.ref 166, .int (nI p)]) (rest := []) (lv0 := [(0, .ref 166), (1, .int (nI p))]) (Q1 := (fun z0 h' => z0 = some (.int (nI (bn (decide (p < g 166 6))))) ∧ h' = HN (U g r w v) hl (RF rt))) rfl rfl (C_isPlayer _ (U g r w v) _ _ p (by omega) hPl ⟨rfl, rfl⟩) (fun r h' hr => ?_)
  obtain ⟨rfl, rfl⟩ := hr
  refine Ev_bn (fun hb5 => ?_) (fun hb5 => ?_)
  · have hhb5 : p < g 166 6 := of_decide_eq_true hb5
    refine Ev.run 5 (pc' := 12) (lv' := [(0, .ref 166), (1, .int (nI p)), (2, .int (nI x))]) (st' := [.int (nI 1), .int (nI 0), .int (nI x), .ref 166]) (h' := HN (U g r w v) hl (RF rt)) rfl ?_
    refine Ev.call (a := 126) (as := [.ref 166, .int (nI x), .int (nI 0), .int (nI 1)]) (rest := []) (lv0 := [(0, .ref 166), (1, .int (nI x)), (2, .int (nI 0)), (3, .int (nI 1))]) (Q1 := (fun z0 h' => z0 = some (.int (nI (bn (decide (x ≤ 1))))) ∧ h' = HN (U g r w v) hl (RF rt))) rfl rfl (C_in _ _ _ _ (nI x) (nI 0) (nI 1) (by rw [in0 (by omega) (by omega)]; exact ⟨rfl, rfl⟩)) (fun r h' hr => ?_)
    obtain ⟨rfl, rfl⟩ := hr
    refine Ev_bn (fun hb15 => ?_) (fun hb15 => ?_)
    · have hhb15 : x ≤ 1 := of_decide_eq_true hb15
      refine Ev.run 4 (pc' := 23) (lv' := [(0, .ref 166), (1, .int (nI p)), (2, .int (nI x))]) (st' := [.int (nI p), .ref 166, .ref 166]) (h' := HN (U g r w v) hl (RF rt)) rfl ?_
      refine Ev.call (a := 162) (as := [.ref 166, .int (nI p)]) (rest := [.ref 166]) (lv0 := [(0, .ref 166), (1, .int (nI p))]) (Q1 := (fun r h' => ∃ r1 w1 v1, SmH g r1 v1 ∧ r = some (.int (nI (knS g p))) ∧ h' = HN (U g r1 w1 v1) hl (RF rt))) rfl rfl (C_knownOf _ _ _ _ hI hK p (by omega) r w v hs (fun r w v h => ⟨r, w, v, h, rfl, rfl⟩)) (fun r h' hr => ?_)
      obtain ⟨r115, w115, v115, hs115, rfl, rfl⟩ := hr
      have hkn := knS_lt hI p
      refine Ev.call (a := 164) (as := [.ref 166, .int (nI (knS g p))]) (rest := []) (lv0 := [(0, .ref 166), (1, .int (nI (knS g p)))]) (Q1 := (fun z0 h' => z0 = some (.int (nI (fitA g (g 175) (g 166 9) (knS g p)))) ∧ h' = HN (U g r115 w115 v115) hl (RF rt))) rfl rfl (C_fitting _ _ _ _ (hI.mU hs115) (knS g p) (by omega) ⟨congrArg (fun z => some (Value.int (nI z))) (UfitA hs115 _), rfl⟩) (fun r h' hr => ?_)
      obtain ⟨rfl, rfl⟩ := hr
      have hfa := fitA_lt hI (g 175) (g 166 9) (knS g p)
      refine Ev.run 3 (pc' := (if nI x = 0 then 34 else 42)) (lv' := [(3, .int (nI (fitA g (g 175) (g 166 9) (knS g p)))), (0, .ref 166), (1, .int (nI p)), (2, .int (nI x))]) (st' := []) (h' := HN (U g r115 w115 v115) hl (RF rt)) rfl ?_
      refine Ev.ite (fun hc31 => ?_) (fun hc31 => ?_)
      · have hc31 : x = 0 := (nI_eqU0 (by omega)).mp hc31
        refine Ev.run 2 (pc' := 36) (lv' := [(3, .int (nI (fitA g (g 175) (g 166 9) (knS g p)))), (0, .ref 166), (1, .int (nI p)), (2, .int (nI x))]) (st' := [.int (nI (fitA g (g 175) (g 166 9) (knS g p))), .ref 166]) (h' := HN (U g r115 w115 v115) hl (RF rt)) rfl ?_
        refine Ev.call (a := 128) (as := [.ref 166, .int (nI (fitA g (g 175) (g 166 9) (knS g p)))]) (rest := []) (lv0 := [(0, .ref 166), (1, .int (nI (fitA g (g 175) (g 166 9) (knS g p))))]) (Q1 := (fun z0 h' => z0 = some (.int (nI (ones12 (fitA g (g 175) (g 166 9) (knS g p))))) ∧ h' = HN (U g r115 w115 v115) hl (RF rt))) rfl rfl (C_ones _ _ _ _ (fitA g (g 175) (g 166 9) (knS g p)) (by omega) ⟨rfl, rfl⟩) (fun r h' hr => ?_)
        obtain ⟨rfl, rfl⟩ := hr
        refine Ev.run 1 (pc' := 56) (lv' := [(3, .int (nI (fitA g (g 175) (g 166 9) (knS g p)))), (0, .ref 166), (1, .int (nI p)), (2, .int (nI x))]) (st' := [.int (nI (ones12 (fitA g (g 175) (g 166 9) (knS g p))))]) (h' := HN (U g r115 w115 v115) hl (RF rt)) rfl ?_
        refine Ev.ret (v := some (.int (nI (ones12 (fitA g (g 175) (g 166 9) (knS g p)))))) rfl ?_
        have hx := hq r115 w115 v115 hs115
        unfold rs_has at hx
        rw [if_pos (by omega), if_pos (by omega), if_pos hc31] at hx
        exact hx
      · have hc31 : ¬ (x = 0) := fun z => hc31 ((nI_eqU0 (by omega)).mpr z)
        refine Ev.run 2 (pc' := (if nI (fitA g (g 175) (g 166 9) (knS g p)) = 0 then 46 else 51)) (lv' := [(3, .int (nI (fitA g (g 175) (g 166 9) (knS g p)))), (0, .ref 166), (1, .int (nI p)), (2, .int (nI x))]) (st' := []) (h' := HN (U g r115 w115 v115) hl (RF rt)) rfl ?_
        refine Ev.ite (fun hc43 => ?_) (fun hc43 => ?_)
        · have hc43 : (fitA g (g 175) (g 166 9) (knS g p)) = 0 := (nI_eqU0 (by omega)).mp hc43
          refine Ev.run 2 (pc' := 56) (lv' := [(3, .int (nI (fitA g (g 175) (g 166 9) (knS g p)))), (0, .ref 166), (1, .int (nI p)), (2, .int (nI x))]) (st' := [.int (nI 4294967291)]) (h' := HN (U g r115 w115 v115) hl (RF rt)) rfl ?_
          refine Ev.ret (v := some (.int (nI 4294967291))) rfl ?_
          have hx := hq r115 w115 v115 hs115
          unfold rs_has at hx
          rw [if_pos (by omega), if_pos (by omega), if_neg hc31, if_pos hc43] at hx
          exact hx
        · have hc43 : ¬ ((fitA g (g 175) (g 166 9) (knS g p)) = 0) := fun z => hc43 ((nI_eqU0 (by omega)).mpr z)
          refine Ev.run 2 (pc' := 53) (lv' := [(3, .int (nI (fitA g (g 175) (g 166 9) (knS g p)))), (0, .ref 166), (1, .int (nI p)), (2, .int (nI x))]) (st' := [.int (nI (fitA g (g 175) (g 166 9) (knS g p))), .ref 166]) (h' := HN (U g r115 w115 v115) hl (RF rt)) rfl ?_
          refine Ev.call (a := 129) (as := [.ref 166, .int (nI (fitA g (g 175) (g 166 9) (knS g p)))]) (rest := []) (lv0 := [(0, .ref 166), (1, .int (nI (fitA g (g 175) (g 166 9) (knS g p))))]) (Q1 := (fun z0 h' => z0 = some (.int (nI (least (fitA g (g 175) (g 166 9) (knS g p))))) ∧ h' = HN (U g r115 w115 v115) hl (RF rt))) rfl rfl (C_leastOf _ _ _ _ (fitA g (g 175) (g 166 9) (knS g p)) (by assumption) (by omega) ⟨rfl, rfl⟩) (fun r h' hr => ?_)
          obtain ⟨rfl, rfl⟩ := hr
          refine Ev.ret (v := some (.int (nI (least (fitA g (g 175) (g 166 9) (knS g p)))))) rfl ?_
          have hx := hq r115 w115 v115 hs115
          unfold rs_has at hx
          rw [if_pos (by omega), if_pos (by omega), if_neg hc31, if_neg hc43] at hx
          exact hx
    · have hhb15 : ¬ (x ≤ 1) := of_decide_eq_false hb15
      refine Ev.run 2 (pc' := 19) (lv' := [(0, .ref 166), (1, .int (nI p)), (2, .int (nI x))]) (st' := [.int (nI 4294967295)]) (h' := HN (U g r w v) hl (RF rt)) rfl ?_
      refine Ev.ret (v := some (.int (nI 4294967295))) rfl ?_
      have hx := hq r w v hs
      unfold rs_has at hx
      first | (rw [if_neg (by omega)] at hx; exact hx) | (rw [if_pos (by omega), if_neg (by omega)] at hx; exact hx)
  · have hhb5 : ¬ (p < g 166 6) := of_decide_eq_false hb5
    refine Ev.run 2 (pc' := 19) (lv' := [(0, .ref 166), (1, .int (nI p)), (2, .int (nI x))]) (st' := [.int (nI 4294967295)]) (h' := HN (U g r w v) hl (RF rt)) rfl ?_
    refine Ev.ret (v := some (.int (nI 4294967295))) rfl ?_
    have hx := hq r w v hs
    unfold rs_has at hx
    first | (rw [if_neg (by omega)] at hx; exact hx) | (rw [if_pos (by omega), if_neg (by omega)] at hx; exact hx)
theorem C_of {L : Nat} {xs : Nat → Int32} (d : Nat) (g : Nat → Nat → Nat) (hl : Nat → Nat → Int64) (rt : Nat × Nat × Nat × Nat) (hI : MI g) (hK : KW g) (p : Nat) (x : Nat) (hp : p < 2 ^ 32) (hx : x < 2 ^ 32) (r w v : Nat → Nat) (hs : SmH g r v)  {Q : Po} (hq : ∀ r' w' v' : Nat → Nat, SmH g r' v' → Q (some (.int (nI (rs_of g p x)))) (HN (U g r' w' v') hl (RF rt))) : Ev L xs (d + 5) 195 0 [(0, .ref 166), (1, .int (nI p)), (2, .int (nI x))] [] (HN (U g r w v) hl (RF rt)) Q := by
  have hW := hI.hW
  have hS := hI.hS
  have hPl := hI.hPl
  have hNx := hI.hNx
  have hLa := hI.hLa
  have hLo := hI.hLo
  have hTb := hI.hTb
  have hTh := hI.hTh
  have hFd := hI.hFd
  have hSn := hI.hSn
  have hSh := hI.hSh
  have hRan := hI.hRan
  have hLr := hI.hLr
  have hLt := hI.hLt
  have hgl := hI.hgl
  have hsz := hI.hsz
  have hcm := hI.hcm
  have hsl := hI.hsl
  have hkd := hI.hkd
  have hvv := hI.hvv
  have hli := hI.hli
  have hro := hI.hro
  have hrw := hI.hrw
  have htx := hI.htx
  have hsw := hI.hsw
  have hsx := hI.hsx
  have hsy := hI.hsy
  have hsh := hI.hsh
  have hle := hI.hle
  have hcl := hI.hcl
  have hwd := hI.hwd
  have hnu := hI.hnu
  have hwn := hI.hwn
  have hs1 := hI.hs1
  have hso := hI.hso
  refine Ev.run 2 (pc' := 2) (lv' := [(0, .ref 166), (1, .int (nI p)), (2, .int (nI x))]) (st' := [.int (nI p), .ref 166]) (h' := HN (U g r w v) hl (RF rt)) rfl ?_
  refine Ev.call (a := 135) (as := [.ref 166, .int (nI p)]) (rest := []) (lv0 := [(0, .ref 166), (1, .int (nI p))]) (Q1 := (fun z0 h' => z0 = some (.int (nI (bn (decide (p < g 166 6))))) ∧ h' = HN (U g r w v) hl (RF rt))) rfl rfl (C_isPlayer _ (U g r w v) _ _ p (by omega) hPl ⟨rfl, rfl⟩) (fun r h' hr => ?_)
  obtain ⟨rfl, rfl⟩ := hr
  refine Ev_bn (fun hb5 => ?_) (fun hb5 => ?_)
  · have hhb5 : p < g 166 6 := of_decide_eq_true hb5
    refine Ev.run 2 (pc' := 11) (lv' := [(0, .ref 166), (1, .int (nI p)), (2, .int (nI x))]) (st' := [.int (nI x)]) (h' := HN (U g r w v) hl (RF rt)) rfl ?_
    by_cases hs11_0 : x = 0
    · refine Ev.topI (congrArg nI hs11_0) ?_
      refine Ev.run 4 (pc' := 53) (lv' := [(0, .ref 166), (1, .int (nI p)), (2, .int (nI x))]) (st' := [.int (nI p), .ref 171]) (h' := HN (U g r w v) hl (RF rt)) rfl ?_
      refine Ev_iald rfl rfl (show p < 5 by omega) (Nat.le_of_ble_eq_true rfl) ?_
      have hr0 := hkd p (by omega)
      refine Ev.ret (v := some (.int (nI (g 171 p)))) rfl ?_
      have hx := hq r w v hs
      unfold rs_of at hx
      rw [if_pos (by omega), if_pos hs11_0] at hx
      exact hx
    by_cases hs11_1 : x = 1
    · refine Ev.topI (congrArg nI hs11_1) ?_
      refine Ev.run 4 (pc' := 60) (lv' := [(0, .ref 166), (1, .int (nI p)), (2, .int (nI x))]) (st' := [.int (nI p), .ref 172]) (h' := HN (U g r w v) hl (RF rt)) rfl ?_
      refine Ev_iald rfl rfl (show p < 5 by omega) (Nat.le_of_ble_eq_true rfl) ?_
      have hr1 := hvv p (by omega)
      refine Ev.ret (v := some (.int (nI (g 172 p)))) rfl ?_
      have hx := hq r w v hs
      unfold rs_of at hx
      rw [if_pos (by omega), if_neg hs11_0, if_pos hs11_1] at hx
      exact hx
    by_cases hs11_2 : x = 2
    · refine Ev.topI (congrArg nI hs11_2) ?_
      refine Ev.run 4 (pc' := 67) (lv' := [(0, .ref 166), (1, .int (nI p)), (2, .int (nI x))]) (st' := [.int (nI p), .ref 173]) (h' := HN (U g r w v) hl (RF rt)) rfl ?_
      refine Ev_iald rfl rfl (show p < 5 by omega) (Nat.le_of_ble_eq_true rfl) ?_
      have hr2 := hli p (by omega)
      refine Ev.ret (v := some (.int (nI (g 173 p)))) rfl ?_
      have hx := hq r w v hs
      unfold rs_of at hx
      rw [if_pos (by omega), if_neg hs11_0, if_neg hs11_1, if_pos hs11_2] at hx
      exact hx
    by_cases hs11_3 : x = 3
    · refine Ev.topI (congrArg nI hs11_3) ?_
      refine Ev.run 3 (pc' := 71) (lv' := [(0, .ref 166), (1, .int (nI p)), (2, .int (nI x))]) (st' := [.int (nI p), .ref 166]) (h' := HN (U g r w v) hl (RF rt)) rfl ?_
      refine Ev.call (a := 180) (as := [.ref 166, .int (nI p)]) (rest := []) (lv0 := [(0, .ref 166), (1, .int (nI p))]) (Q1 := (fun r h' => ∃ r1 w1 v1, SmH g r1 v1 ∧ r = some (.int (nI (maS g p))) ∧ h' = HN (U g r1 w1 v1) hl (RF rt))) rfl rfl (C_mayOf _ _ _ _ hI hK p (by omega) r w v hs (fun r w v h => ⟨r, w, v, h, rfl, rfl⟩)) (fun r h' hr => ?_)
      obtain ⟨r116, w116, v116, hs116, rfl, rfl⟩ := hr
      have hma := maS_lt hI p
      refine Ev.ret (v := some (.int (nI (maS g p)))) rfl ?_
      have hx := hq r116 w116 v116 hs116
      unfold rs_of at hx
      rw [if_pos (by omega), if_neg hs11_0, if_neg hs11_1, if_neg hs11_2, if_pos hs11_3] at hx
      exact hx
    by_cases hs11_4 : x = 4
    · refine Ev.topI (congrArg nI hs11_4) ?_
      refine Ev.run 4 (pc' := 78) (lv' := [(0, .ref 166), (1, .int (nI p)), (2, .int (nI x))]) (st' := [.int (nI p), .ref 166, .ref 166]) (h' := HN (U g r w v) hl (RF rt)) rfl ?_
      refine Ev.call (a := 180) (as := [.ref 166, .int (nI p)]) (rest := [.ref 166]) (lv0 := [(0, .ref 166), (1, .int (nI p))]) (Q1 := (fun r h' => ∃ r1 w1 v1, SmH g r1 v1 ∧ r = some (.int (nI (maS g p))) ∧ h' = HN (U g r1 w1 v1) hl (RF rt))) rfl rfl (C_mayOf _ _ _ _ hI hK p (by omega) r w v hs (fun r w v h => ⟨r, w, v, h, rfl, rfl⟩)) (fun r h' hr => ?_)
      obtain ⟨r117, w117, v117, hs117, rfl, rfl⟩ := hr
      have hma := maS_lt hI p
      have h12 : maS g p ≠ 0 → g 166 9 < 12 := fun z => by have := maS_0 hI z; omega
      refine Ev.call (a := 169) (as := [.ref 166, .int (nI (maS g p))]) (rest := []) (lv0 := [(0, .ref 166), (1, .int (nI (maS g p)))]) (Q1 := (fun r h' => ∃ r1 w1 v1, SmH g r1 v1 ∧ r = some (.int (nI (saS g (maS g p)))) ∧ h' = HN (U g r1 w1 v1) hl (RF rt))) rfl rfl (C_safeOf _ _ _ _ hI (maS g p) (by omega) h12 r117 w117 v117 hs117 (fun r w v h => ⟨r, w, v, h, rfl, rfl⟩)) (fun r h' hr => ?_)
      obtain ⟨r118, w118, v118, hs118, rfl, rfl⟩ := hr
      have hsa := saS_lt g (maS g p)
      refine Ev.ret (v := some (.int (nI (saS g (maS g p))))) rfl ?_
      have hx := hq r118 w118 v118 hs118
      unfold rs_of at hx
      rw [if_pos (by omega), if_neg hs11_0, if_neg hs11_1, if_neg hs11_2, if_neg hs11_3, if_pos hs11_4] at hx
      exact hx
    by_cases hs11_5 : x = 5
    · refine Ev.topI (congrArg nI hs11_5) ?_
      refine Ev.run 3 (pc' := 87) (lv' := [(0, .ref 166), (1, .int (nI p)), (2, .int (nI x))]) (st' := [.int (nI p), .ref 166]) (h' := HN (U g r w v) hl (RF rt)) rfl ?_
      refine Ev.call (a := 162) (as := [.ref 166, .int (nI p)]) (rest := []) (lv0 := [(0, .ref 166), (1, .int (nI p))]) (Q1 := (fun r h' => ∃ r1 w1 v1, SmH g r1 v1 ∧ r = some (.int (nI (knS g p))) ∧ h' = HN (U g r1 w1 v1) hl (RF rt))) rfl rfl (C_knownOf _ _ _ _ hI hK p (by omega) r w v hs (fun r w v h => ⟨r, w, v, h, rfl, rfl⟩)) (fun r h' hr => ?_)
      obtain ⟨r119, w119, v119, hs119, rfl, rfl⟩ := hr
      have hkn := knS_lt hI p
      refine Ev.ret (v := some (.int (nI (knS g p)))) rfl ?_
      have hx := hq r119 w119 v119 hs119
      unfold rs_of at hx
      rw [if_pos (by omega), if_neg hs11_0, if_neg hs11_1, if_neg hs11_2, if_neg hs11_3, if_neg hs11_4, if_pos hs11_5] at hx
      exact hx
    refine Ev_tsOut (tgt := 91) rfl (sw_out (x := x) (hi := 5) (by omega) (by omega) (by omega)) rfl ?_
    refine Ev.run 1 (pc' := 92) (lv' := [(0, .ref 166), (1, .int (nI p)), (2, .int (nI x))]) (st' := [.int (nI 4294967295)]) (h' := HN (U g r w v) hl (RF rt)) rfl ?_
    refine Ev.ret (v := some (.int (nI 4294967295))) rfl ?_
    have hx := hq r w v hs
    unfold rs_of at hx
    rw [if_pos (by omega), if_neg hs11_0, if_neg hs11_1, if_neg hs11_2, if_neg hs11_3, if_neg hs11_4, if_neg hs11_5] at hx
    exact hx
  · have hhb5 : ¬ (p < g 166 6) := of_decide_eq_false hb5
    refine Ev.run 2 (pc' := 9) (lv' := [(0, .ref 166), (1, .int (nI p)), (2, .int (nI x))]) (st' := [.int (nI 4294967295)]) (h' := HN (U g r w v) hl (RF rt)) rfl ?_
    refine Ev.ret (v := some (.int (nI 4294967295))) rfl ?_
    have hx := hq r w v hs
    unfold rs_of at hx
    rw [if_neg (by omega)] at hx
    exact hx
