/-! the class: tapes -/
theorem sh_tp : ∀ t, t < 6 → SH (154 + 2 * t) = (8, 3) ∧ SH (154 + 2 * t + 1) = (12, 60) := by
  intro t ht
  rcases (show t = 0 ∨ t = 1 ∨ t = 2 ∨ t = 3 ∨ t = 4 ∨ t = 5 by omega) with rfl | rfl | rfl | rfl | rfl | rfl <;> exact ⟨rfl, rfl⟩
theorem kcT {t : Nat} (h : t < 6) : KC (154 + 2 * t) 8 3 := ⟨by omega, (sh_tp t h).1⟩
theorem kcU {t : Nat} (h : t < 6) : KC (154 + 2 * t + 1) 12 60 := ⟨by omega, (sh_tp t h).2⟩
theorem rf_tp (rt : Nat × Nat × Nat × Nat) {t : Nat} (ht : t < 6) : RF rt (154 + 2 * t) 0 = some (154 + 2 * t + 1) ∧ RF rt 135 t = some (154 + 2 * t) := by
  rcases (show t = 0 ∨ t = 1 ∨ t = 2 ∨ t = 3 ∨ t = 4 ∨ t = 5 by omega) with rfl | rfl | rfl | rfl | rfl | rfl <;> exact ⟨rfl, rfl⟩
theorem KC.no {c cls n k : Nat} (h : KC c cls n) (hk : cls ≠ k) (h' : Hp) : isK h' c k = false := by
  unfold isK
  rw [h.2]
  show (Nat.blt c h'.1 && Nat.beq cls k) = false
  rw [beq_f hk, Bool.and_false]
set_option maxRecDepth 100000 in
theorem Ev_acpL {L : Nat} {xs : Nat → Int32} {d q pc : Nat} {lv : Lv} {st : List Value} {Q : Option Value → Hp → Prop} {g : Nat → Nat → Nat} {hl : Nat → Nat → Int64} {rf : Nat → Nat → Option Nat} {i : Nat} {n b t p c0 c1 N0 N1 m sp dp : Nat} (he : fetch_ q pc = some (.invokestatic i, n, 1000, b, t, p)) (hd : Nat.ble 2 d = true) (hcat : Nat.ble (catS st) 8 = true) (h0 : KC c0 12 N0) (h1 : KC c1 12 N1) (hm0 : sp + m ≤ N0) (hm1 : dp + m ≤ N1) (hm : sp < 2 ^ 31 ∧ dp < 2 ^ 31 ∧ m < 2 ^ 31) (kk : Ev L xs d q (pc + n) lv st (HN g (cpL hl c1 dp m (fun q => hl c0 (sp + q))) rf) Q) : Ev L xs d q pc lv (.int (nI m) :: .int (nI dp) :: .ref c1 :: .int (nI sp) :: .ref c0 :: st) (HN g hl rf) Q := by
  refine Ev.one he rfl (c := (pc + n, lv, st, HN g (cpL hl c1 dp m (fun q => hl c0 (sp + q))) rf)) ?_ kk
  show (match (bif Nat.ble 2 d then acpy (.int (nI m) :: .int (nI dp) :: .ref c1 :: .int (nI sp) :: .ref c0 :: st) (HN g hl rf) else none) with | some c => some (pc + n, lv, c.1, c.2) | none => none) = _
  rw [hd]
  unfold acpy
  dsimp only
  have es : decide (nI sp < 0) = false := decide_eq_false (fun z => by rw [nI_ltI0 hm.1] at z; omega)
  have ed : decide (nI dp < 0) = false := decide_eq_false (fun z => by rw [nI_ltI0 hm.2.1] at z; omega)
  have em : decide (nI m < 0) = false := decide_eq_false (fun z => by rw [nI_ltI0 hm.2.2] at z; omega)
  have ecs : (nI sp).toNatClampNeg = sp := cl_nI hm.1
  have ecd : (nI dp).toNatClampNeg = dp := cl_nI hm.2.1
  have ecm : (nI m).toNatClampNeg = m := cl_nI hm.2.2
  rw [es, ed, em, ecs, ecd, ecm, h0.n, h1.n, hcat, h0.k, h1.k, h0.no (by decide), Bool.false_and]
  have l0 : Nat.ble (sp + m) N0 = true := Nat.ble_eq_true_of_le hm0
  have l1 : Nat.ble (dp + m) N1 = true := Nat.ble_eq_true_of_le hm1
  rw [l0, l1]
  show some (pc + n, lv, st, ((210 : Nat), (fun k j => nI (g k j)), ur hl c1 (va_cpy (hl c0) (hl c1) sp dp m), rf)) = _
  unfold HN
  refine congrArg (fun z => some (pc + n, lv, st, ((210 : Nat), (fun k j => nI (g k j)), z, rf))) (funext fun a => funext fun j => ?_)
  unfold ur va_cpy cpL
  by_cases e : a = c1
  · rw [if_pos e]
  · rw [if_neg e]
theorem K_filL {L : Nat} {xs : Nat → Int32} (d : Nat) (g : Nat → Nat → Nat) (hl : Nat → Nat → Int64) (rt : Nat × Nat × Nat × Nat) (c N : Nat) (hc : KC c 12 N) (hN : N ≤ 100) {Q : Po} (hq : Q none (HN g (cpL hl c 0 N (fun _ => Int64.ofNat 0)) (RF rt))) : ∀ m k, k + m = N → Ev L xs d 254 6 [(3, .int (nI k)), (4, .int (nI N)), (0, .ref c), (1, .long (Int64.ofNat 0))] [] (HN g (cpL hl c 0 k (fun _ => Int64.ofNat 0)) (RF rt)) Q := by
  intro m
  induction m with
  | zero =>
    intro k hk
    refine Ev.run 3 (pc' := (if nI N ≤ nI k then 22 else 12)) (lv' := [(3, .int (nI k)), (4, .int (nI N)), (0, .ref c), (1, .long (Int64.ofNat 0))]) (st' := []) (h' := HN g (cpL hl c 0 k (fun _ => Int64.ofNat 0)) (RF rt)) rfl ?_
    rw [if_pos ((nI_leI (by omega) (by omega)).mpr (by omega)), show k = N by omega]
    exact Ev.ret (v := none) rfl hq
  | succ m ih =>
    intro k hk
    refine Ev.run 3 (pc' := (if nI N ≤ nI k then 22 else 12)) (lv' := [(3, .int (nI k)), (4, .int (nI N)), (0, .ref c), (1, .long (Int64.ofNat 0))]) (st' := []) (h' := HN g (cpL hl c 0 k (fun _ => Int64.ofNat 0)) (RF rt)) rfl ?_
    rw [if_neg (fun z => absurd ((nI_leI (by omega) (by omega)).mp z) (by omega))]
    refine Ev.run 3 (pc' := 15) (lv' := [(3, .int (nI k)), (4, .int (nI N)), (0, .ref c), (1, .long (Int64.ofNat 0))]) (st' := [.long (Int64.ofNat 0), .int (nI k), .ref c]) (h' := HN g (cpL hl c 0 k (fun _ => Int64.ofNat 0)) (RF rt)) rfl ?_
    refine Ev_last rfl hc.k (show _ < _ by rw [hc.n]; omega) (by rw [hc.n]; omega) ?_
    have e := cpL_s hl c 0 k (fun _ => Int64.ofNat 0)
    rw [Nat.zero_add] at e
    rw [e]
    refine Ev.run 1 (pc' := 19) (lv' := [(3, .int (nI k + 1)), (4, .int (nI N)), (0, .ref c), (1, .long (Int64.ofNat 0))]) (st' := []) (h' := HN g (cpL hl c 0 (k + 1) (fun _ => Int64.ofNat 0)) (RF rt)) rfl ?_
    refine Ev.lvE (congrArg (fun z => (3, Value.int z) :: [(4, .int (nI N)), (0, .ref c), (1, .long (Int64.ofNat 0))]) (nI_1 _)) ?_
    refine Ev.run 1 (pc' := 6) (lv' := [(3, .int (nI (k + 1))), (4, .int (nI N)), (0, .ref c), (1, .long (Int64.ofNat 0))]) (st' := []) (h' := HN g (cpL hl c 0 (k + 1) (fun _ => Int64.ofNat 0)) (RF rt)) rfl ?_
    exact ih (k + 1) (by omega)
theorem K_fillL {L : Nat} {xs : Nat → Int32} (d : Nat) (g : Nat → Nat → Nat) (hl : Nat → Nat → Int64) (rt : Nat × Nat × Nat × Nat) (c N : Nat) (hc : KC c 12 N) (hN : N ≤ 100) {Q : Po} (hq : Q none (HN g (cpL hl c 0 N (fun _ => Int64.ofNat 0)) (RF rt))) : Ev L xs d 254 0 [(0, .ref c), (1, .long (Int64.ofNat 0))] [] (HN g hl (RF rt)) Q := by
  refine Ev.run 3 (pc' := 3) (lv' := [(3, .int (nI 0)), (0, .ref c), (1, .long (Int64.ofNat 0))]) (st' := [.ref c]) (h' := HN g hl (RF rt)) rfl ?_
  refine Ev_alen rfl hc rfl ?_
  refine Ev.run 1 (pc' := 6) (lv' := [(4, .int (nI N)), (3, .int (nI 0)), (0, .ref c), (1, .long (Int64.ofNat 0))]) (st' := []) (h' := HN g hl (RF rt)) rfl ?_
  have hx := K_filL (L := L) (xs := xs) d g hl rt c N hc hN hq N 0 (by omega)
  have e : cpL hl c 0 0 (fun _ => Int64.ofNat 0) = hl := by
    funext a b
    unfold cpL
    by_cases e : a = c
    · rw [if_pos e, if_neg (by omega), e]
    · rw [if_neg e]
  rw [e] at hx
  exact Ev.wk (Ext.cons rfl rfl (Ext.cons rfl rfl (Ext.cons rfl rfl (Ext.cons rfl rfl (Ext.nil rfl))))) hx
theorem nI_leN {x c : Nat} (hx : x < 2 ^ 32) (hc : c < 2 ^ 31) : nI x ≤ nI c ↔ x ≤ c ∨ 2147483648 ≤ x := by
  rw [Int32.le_iff_toInt_le, nI_tI hx, nI_tI (show c < 2 ^ 32 by omega), if_pos hc]
  split <;> omega
theorem K_holds {L : Nat} {xs : Nat → Int32} (d : Nat) (g : Nat → Nat → Nat) (hl : Nat → Nat → Int64) (rt : Nat × Nat × Nat × Nat) (hV : Inv g hl rt) (t : Nat) (ht : t < 6)  {Q : Po} (hq : Q (some (.int (nI (bn (decide (g 206 t < 2147483648)))))) (HN g hl (RF rt))) : Ev L xs d 71 0 [(0, .ref (154 + 2 * t))] [] (HN g hl (RF rt)) Q := by
  have hI := hV.mi
  have hW := hI.hW
  have hS := hI.hS
  have hPl := hI.hPl
  have hNx := hI.hNx
  have hLa := hI.hLa
  have hLo := hI.hLo
  have hTb := hI.hTb
  have hTh := hI.hTh
  have hFd := hI.hFd
  have hSn := hI.hSn
  have hSh := hI.hSh
  have hRan := hI.hRan
  have hLr := hI.hLr
  have hLt := hI.hLt
  have hgl := hI.hgl
  have hsz := hI.hsz
  have hcm := hI.hcm
  have hsl := hI.hsl
  have hkd := hI.hkd
  have hvv := hI.hvv
  have hli := hI.hli
  have hro := hI.hro
  have hrw := hI.hrw
  have htx := hI.htx
  have hsw := hI.hsw
  have hsx := hI.hsx
  have hsy := hI.hsy
  have hsh := hI.hsh
  have hle := hI.hle
  have hcl := hI.hcl
  have hwd := hI.hwd
  have hnu := hI.hnu
  have hwn := hI.hwn
  have hs1 := hI.hs1
  have hso := hI.hso
  have hB := hV.gm.cb
  have hB0 := hB.1
  have hPs := hV.gm.cs
  have hsp1 := hV.sp.1
  have htx1 := hV.tx.1
  have h451 := hV.gm.rx.1
  have h442 := hV.gm.rx.2.2.2.1
  have h443 := hV.gm.rx.2.2.2.2
  have h481 := hV.gm.l48.1
  have h501 := hV.gm.l50.1
  have h521 := hV.gm.l52.1
  have h541 := hV.gm.l54.1
  have h04 := hV.tb.1
  have hac1 := hV.ac.1
  have hac2 := hV.ac.2.1
  have hPl0 := hV.gm.cp
  have hle2 := hle
  have hso2 := hso
  have hsot := hso t ht
  refine Ev.run 1 (pc' := 1) (lv' := [(0, .ref (154 + 2 * t))]) (st' := [.ref (154 + 2 * t)]) (h' := HN g hl (RF rt)) rfl ?_
  refine Ev_gfI rfl rfl rfl (kcT (show t < 6 by omega)) ?_
  refine Ev.topI (congrArg nI ((hV.tp t (by omega)).1)) ?_
  refine Ev.run 2 (pc' := (if nI (g 206 t) = nI 4294967295 then 12 else 8)) (lv' := [(0, .ref (154 + 2 * t))]) (st' := []) (h' := HN g hl (RF rt)) rfl ?_
  refine Ev.ite (fun hc5 => ?_) (fun hc5 => ?_)
  · have hc5 : (g 206 t) = 4294967295 := (nI_eqU (by omega) (by omega)).mp hc5
    refine Ev.run 1 (pc' := 13) (lv' := [(0, .ref (154 + 2 * t))]) (st' := [.int (nI 0)]) (h' := HN g hl (RF rt)) rfl ?_
    refine Ev.ret (v := some (.int (nI 0))) rfl ?_
    rw [decide_eq_false (by omega)] at hq
    exact hq
  · have hc5 : ¬ ((g 206 t) = 4294967295) := fun z => hc5 ((nI_eqU (by omega) (by omega)).mpr z)
    refine Ev.run 2 (pc' := 13) (lv' := [(0, .ref (154 + 2 * t))]) (st' := [.int (nI 1)]) (h' := HN g hl (RF rt)) rfl ?_
    refine Ev.ret (v := some (.int (nI 1))) rfl ?_
    rw [decide_eq_true (by omega)] at hq
    exact hq
theorem K_tbecome {L : Nat} {xs : Nat → Int32} (d : Nat) (g : Nat → Nat → Nat) (hl : Nat → Nat → Int64) (rt : Nat × Nat × Nat × Nat) (hV : Inv g hl rt) (t s n : Nat) (ht : t < 6)  {Q : Po} (hq : Q none (HN (u2 (u2 g (154 + 2 * t) 1 s) (154 + 2 * t) 2 n) (cpL hl (154 + 2 * t + 1) 0 60 (fun _ => Int64.ofNat 0)) (RF rt))) : Ev L xs (d + 1) 72 0 [(0, .ref (154 + 2 * t)), (1, .int (nI s)), (2, .int (nI n))] [] (HN g hl (RF rt)) Q := by
  have hI := hV.mi
  have hW := hI.hW
  have hS := hI.hS
  have hPl := hI.hPl
  have hNx := hI.hNx
  have hLa := hI.hLa
  have hLo := hI.hLo
  have hTb := hI.hTb
  have hTh := hI.hTh
  have hFd := hI.hFd
  have hSn := hI.hSn
  have hSh := hI.hSh
  have hRan := hI.hRan
  have hLr := hI.hLr
  have hLt := hI.hLt
  have hgl := hI.hgl
  have hsz := hI.hsz
  have hcm := hI.hcm
  have hsl := hI.hsl
  have hkd := hI.hkd
  have hvv := hI.hvv
  have hli := hI.hli
  have hro := hI.hro
  have hrw := hI.hrw
  have htx := hI.htx
  have hsw := hI.hsw
  have hsx := hI.hsx
  have hsy := hI.hsy
  have hsh := hI.hsh
  have hle := hI.hle
  have hcl := hI.hcl
  have hwd := hI.hwd
  have hnu := hI.hnu
  have hwn := hI.hwn
  have hs1 := hI.hs1
  have hso := hI.hso
  have hB := hV.gm.cb
  have hB0 := hB.1
  have hPs := hV.gm.cs
  have hsp1 := hV.sp.1
  have htx1 := hV.tx.1
  have h451 := hV.gm.rx.1
  have h442 := hV.gm.rx.2.2.2.1
  have h443 := hV.gm.rx.2.2.2.2
  have h481 := hV.gm.l48.1
  have h501 := hV.gm.l50.1
  have h521 := hV.gm.l52.1
  have h541 := hV.gm.l54.1
  have h04 := hV.tb.1
  have hac1 := hV.ac.1
  have hac2 := hV.ac.2.1
  have hPl0 := hV.gm.cp
  have hle2 := hle
  have hso2 := hso
  refine Ev.run 2 (pc' := 2) (lv' := [(0, .ref (154 + 2 * t)), (1, .int (nI s)), (2, .int (nI n))]) (st' := [.int (nI s), .ref (154 + 2 * t)]) (h' := HN g hl (RF rt)) rfl ?_
  refine Ev_pfI rfl (kcT (show t < 6 by omega)) ?_
  refine Ev.run 2 (pc' := 7) (lv' := [(0, .ref (154 + 2 * t)), (1, .int (nI s)), (2, .int (nI n))]) (st' := [.int (nI n), .ref (154 + 2 * t)]) (h' := HN (u2 g (154 + 2 * t) 1 s) hl (RF rt)) rfl ?_
  refine Ev_pfI rfl (kcT (show t < 6 by omega)) ?_
  refine Ev.run 1 (pc' := 11) (lv' := [(0, .ref (154 + 2 * t)), (1, .int (nI s)), (2, .int (nI n))]) (st' := [.ref (154 + 2 * t)]) (h' := HN (u2 (u2 g (154 + 2 * t) 1 s) (154 + 2 * t) 2 n) hl (RF rt)) rfl ?_
  refine Ev_gfR rfl rfl rfl (kcT (show t < 6 by omega)) (rf_tp rt (show t < 6 by omega)).1 ?_
  refine Ev.run 1 (pc' := 15) (lv' := [(0, .ref (154 + 2 * t)), (1, .int (nI s)), (2, .int (nI n))]) (st' := [.long (0), .ref (154 + 2 * t + 1)]) (h' := HN (u2 (u2 g (154 + 2 * t) 1 s) (154 + 2 * t) 2 n) hl (RF rt)) rfl ?_
  refine Ev.call (a := 254) (as := [.ref (154 + 2 * t + 1), .long (0)]) (rest := []) (lv0 := [(0, .ref (154 + 2 * t + 1)), (1, .long (0))]) (Q1 := (fun z0 h' => z0 = none ∧ h' = HN (u2 (u2 g (154 + 2 * t) 1 s) (154 + 2 * t) 2 n) (cpL hl (154 + 2 * t + 1) 0 60 (fun _ => Int64.ofNat 0)) (RF rt))) rfl rfl (K_fillL _ (u2 (u2 g (154 + 2 * t) 1 s) (154 + 2 * t) 2 n) _ _ (154 + 2 * t + 1) 60 (kcU (by omega)) (by omega) ⟨rfl, rfl⟩) (fun r h' hr => ?_)
  obtain ⟨rfl, rfl⟩ := hr
  refine Ev.ret (v := none) rfl ?_
  exact hq
noncomputable def cg_tape (g : Nat → Nat → Nat) (t s n : Nat) : Nat → Nat → Nat := if dc (okTp t s n) = true then u2 (u2 g (154 + 2 * t) 1 s) (154 + 2 * t) 2 (if 2147483648 ≤ s then 0 else n) else g
noncomputable def ch_tape (hl : Nat → Nat → Int64) (t s n : Nat) : Nat → Nat → Int64 := if dc (okTp t s n) = true then (cpL hl (154 + 2 * t + 1) 0 60 (fun _ => Int64.ofNat 0)) else hl
theorem K_tape {L : Nat} {xs : Nat → Int32} (d : Nat) (g : Nat → Nat → Nat) (hl : Nat → Nat → Int64) (rt : Nat × Nat × Nat × Nat) (hV : Inv g hl rt) (t : Nat) (s : Nat) (n : Nat) (ht : t < 2 ^ 32) (hs : s < 2 ^ 32) (hn : n < 2 ^ 32) {Q : Po} (hq : Q (some (.int (nI (rs_tape t s n)))) (HN (cg_tape g t s n) (ch_tape hl t s n) (RF rt))) : Ev L xs (d + 2) 111 0 [(0, .ref 0), (1, .int (nI t)), (2, .int (nI s)), (3, .int (nI n))] [] (HN g hl (RF rt)) Q := by
  have hI := hV.mi
  have hW := hI.hW
  have hS := hI.hS
  have hPl := hI.hPl
  have hNx := hI.hNx
  have hLa := hI.hLa
  have hLo := hI.hLo
  have hTb := hI.hTb
  have hTh := hI.hTh
  have hFd := hI.hFd
  have hSn := hI.hSn
  have hSh := hI.hSh
  have hRan := hI.hRan
  have hLr := hI.hLr
  have hLt := hI.hLt
  have hgl := hI.hgl
  have hsz := hI.hsz
  have hcm := hI.hcm
  have hsl := hI.hsl
  have hkd := hI.hkd
  have hvv := hI.hvv
  have hli := hI.hli
  have hro := hI.hro
  have hrw := hI.hrw
  have htx := hI.htx
  have hsw := hI.hsw
  have hsx := hI.hsx
  have hsy := hI.hsy
  have hsh := hI.hsh
  have hle := hI.hle
  have hcl := hI.hcl
  have hwd := hI.hwd
  have hnu := hI.hnu
  have hwn := hI.hwn
  have hs1 := hI.hs1
  have hso := hI.hso
  have hB := hV.gm.cb
  have hB0 := hB.1
  have hPs := hV.gm.cs
  have hsp1 := hV.sp.1
  have htx1 := hV.tx.1
  have h451 := hV.gm.rx.1
  have h442 := hV.gm.rx.2.2.2.1
  have h443 := hV.gm.rx.2.2.2.2
  have h481 := hV.gm.l48.1
  have h501 := hV.gm.l50.1
  have h521 := hV.gm.l52.1
  have h541 := hV.gm.l54.1
  have h04 := hV.tb.1
  have hac1 := hV.ac.1
  have hac2 := hV.ac.2.1
  have hPl0 := hV.gm.cp
  have hle2 := hle
  have hso2 := hso
  refine Ev.run 1 (pc' := 1) (lv' := [(0, .ref 0), (1, .int (nI t)), (2, .int (nI s)), (3, .int (nI n))]) (st' := [.int (nI t)]) (h' := HN g hl (RF rt)) rfl ?_
  refine Ev.call (a := 119) (as := [.int (nI t)]) (rest := []) (lv0 := [(0, .int (nI t))]) (Q1 := (fun z0 h' => z0 = some (.int (nI (bn (decide (t ≤ 5))))) ∧ h' = HN g hl (RF rt))) rfl rfl (K_isTape _ _ _ _ t (by omega) ⟨rfl, rfl⟩) (fun r h' hr => ?_)
  obtain ⟨rfl, rfl⟩ := hr
  refine Ev_bn (fun hb4 => ?_) (fun hb4 => ?_)
  · have hhb4 : t ≤ 5 := of_decide_eq_true hb4
    refine Ev.run 4 (pc' := 12) (lv' := [(0, .ref 0), (1, .int (nI t)), (2, .int (nI s)), (3, .int (nI n))]) (st' := [.int (nI 4), .int (nI 4294967295), .int (nI s)]) (h' := HN g hl (RF rt)) rfl ?_
    refine Ev.call (a := 118) (as := [.int (nI s), .int (nI 4294967295), .int (nI 4)]) (rest := []) (lv0 := [(0, .int (nI s)), (1, .int (nI 4294967295)), (2, .int (nI 4))]) (Q1 := (fun z0 h' => z0 = some (.int (nI (bn (decide (s ≤ 4 ∨ s = 4294967295))))) ∧ h' = HN g hl (RF rt))) rfl rfl (K_within _ _ _ _ (nI s) (nI 4294967295) (nI 4) (by rw [inN (by omega)]; exact ⟨rfl, rfl⟩)) (fun r h' hr => ?_)
    obtain ⟨rfl, rfl⟩ := hr
    refine Ev_bn (fun hb15 => ?_) (fun hb15 => ?_)
    · have hhb15 : s ≤ 4 ∨ s = 4294967295 := of_decide_eq_true hb15
      refine Ev.run 4 (pc' := (if nI s = nI 4294967295 then 26 else 39)) (lv' := [(0, .ref 0), (1, .int (nI t)), (2, .int (nI s)), (3, .int (nI n))]) (st' := []) (h' := HN g hl (RF rt)) rfl ?_
      refine Ev.ite (fun hc23 => ?_) (fun hc23 => ?_)
      · have hc23 : s = 4294967295 := (nI_eqU (by omega) (by omega)).mp hc23
        refine Ev.run 3 (pc' := 31) (lv' := [(0, .ref 0), (1, .int (nI t)), (2, .int (nI s)), (3, .int (nI n))]) (st' := [.int (nI t), .ref 135]) (h' := HN g hl (RF rt)) rfl ?_
        refine Ev_aald (c := (154 + 2 * t)) rfl (by decide) rfl (show t < 6 by omega) (Nat.le_of_ble_eq_true rfl) (rf_tp rt (show t < 6 by omega)).2 ?_
        refine Ev.run 2 (pc' := 34) (lv' := [(0, .ref 0), (1, .int (nI t)), (2, .int (nI s)), (3, .int (nI n))]) (st' := [.int (nI 0), .int (nI 4294967295), .ref (154 + 2 * t)]) (h' := HN g hl (RF rt)) rfl ?_
        refine Ev_callV (a := 72) (as := [.ref (154 + 2 * t), .int (nI 4294967295), .int (nI 0)]) (rest := []) (lv0 := [(0, .ref (154 + 2 * t)), (1, .int (nI 4294967295)), (2, .int (nI 0))]) (Q1 := (fun z0 h' => z0 = none ∧ h' = HN (u2 (u2 g (154 + 2 * t) 1 4294967295) (154 + 2 * t) 2 0) (cpL hl (154 + 2 * t + 1) 0 60 (fun _ => Int64.ofNat 0)) (RF rt))) rfl rfl rfl rfl rfl (kcT (show t < 6 by omega)).k rfl rfl rfl (K_tbecome _ _ _ _ hV t 4294967295 0 (by omega) ⟨rfl, rfl⟩) (fun r h' hr => ?_)
        obtain ⟨rfl, rfl⟩ := hr
        refine Ev.run 1 (pc' := 38) (lv' := [(0, .ref 0), (1, .int (nI t)), (2, .int (nI s)), (3, .int (nI n))]) (st' := [.int (nI 1)]) (h' := HN (u2 (u2 g (154 + 2 * t) 1 4294967295) (154 + 2 * t) 2 0) (cpL hl (154 + 2 * t + 1) 0 60 (fun _ => Int64.ofNat 0)) (RF rt)) rfl ?_
        refine Ev.ret (v := some (.int (nI 1))) rfl ?_
        unfold rs_tape cg_tape ch_tape at hq
        have hk : dc (okTp t s n) = true := by exact dc_t ⟨by omega, by omega⟩
        rw [if_pos hk, if_pos hk] at hq
        (repeat (first | rw [if_pos (by omega)] at hq | rw [if_neg (by omega)] at hq))
        rw [hc23] at hq
        exact hq
      · have hc23 : ¬ (s = 4294967295) := fun z => hc23 ((nI_eqU (by omega) (by omega)).mpr z)
        refine Ev.run 3 (pc' := (if nI n ≤ nI 60 then 48 else 45)) (lv' := [(0, .ref 0), (1, .int (nI t)), (2, .int (nI s)), (3, .int (nI n))]) (st' := []) (h' := HN g hl (RF rt)) rfl ?_
        refine Ev.ite (fun hc42 => ?_) (fun hc42 => ?_)
        · have hc42 : n ≤ 60 ∨ 2147483648 ≤ n := (nI_leN (by omega) (by decide)).mp hc42
          refine Ev.run 2 (pc' := (if 0 ≤ nI n then 55 else 52)) (lv' := [(0, .ref 0), (1, .int (nI t)), (2, .int (nI s)), (3, .int (nI n))]) (st' := []) (h' := HN g hl (RF rt)) rfl ?_
          refine Ev.ite (fun hc49 => ?_) (fun hc49 => ?_)
          · have hc49 : n < 2147483648 := (nI_geU0 (by omega)).mp hc49
            refine Ev.run 3 (pc' := 60) (lv' := [(0, .ref 0), (1, .int (nI t)), (2, .int (nI s)), (3, .int (nI n))]) (st' := [.int (nI t), .ref 135]) (h' := HN g hl (RF rt)) rfl ?_
            refine Ev_aald (c := (154 + 2 * t)) rfl (by decide) rfl (show t < 6 by omega) (Nat.le_of_ble_eq_true rfl) (rf_tp rt (show t < 6 by omega)).2 ?_
            refine Ev.run 2 (pc' := 63) (lv' := [(0, .ref 0), (1, .int (nI t)), (2, .int (nI s)), (3, .int (nI n))]) (st' := [.int (nI n), .int (nI s), .ref (154 + 2 * t)]) (h' := HN g hl (RF rt)) rfl ?_
            refine Ev_callV (a := 72) (as := [.ref (154 + 2 * t), .int (nI s), .int (nI n)]) (rest := []) (lv0 := [(0, .ref (154 + 2 * t)), (1, .int (nI s)), (2, .int (nI n))]) (Q1 := (fun z0 h' => z0 = none ∧ h' = HN (u2 (u2 g (154 + 2 * t) 1 s) (154 + 2 * t) 2 n) (cpL hl (154 + 2 * t + 1) 0 60 (fun _ => Int64.ofNat 0)) (RF rt))) rfl rfl rfl rfl rfl (kcT (show t < 6 by omega)).k rfl rfl rfl (K_tbecome _ _ _ _ hV t s n (by omega) ⟨rfl, rfl⟩) (fun r h' hr => ?_)
            obtain ⟨rfl, rfl⟩ := hr
            refine Ev.run 1 (pc' := 67) (lv' := [(0, .ref 0), (1, .int (nI t)), (2, .int (nI s)), (3, .int (nI n))]) (st' := [.int (nI 1)]) (h' := HN (u2 (u2 g (154 + 2 * t) 1 s) (154 + 2 * t) 2 n) (cpL hl (154 + 2 * t + 1) 0 60 (fun _ => Int64.ofNat 0)) (RF rt)) rfl ?_
            refine Ev.ret (v := some (.int (nI 1))) rfl ?_
            unfold rs_tape cg_tape ch_tape at hq
            have hk : dc (okTp t s n) = true := by exact dc_t ⟨by omega, by omega⟩
            rw [if_pos hk, if_pos hk] at hq
            (repeat (first | rw [if_pos (by omega)] at hq | rw [if_neg (by omega)] at hq))
            exact hq
          · have hc49 : ¬ (n < 2147483648) := fun z => hc49 ((nI_geU0 (by omega)).mpr z)
            refine Ev.run 1 (pc' := 54) (lv' := [(0, .ref 0), (1, .int (nI t)), (2, .int (nI s)), (3, .int (nI n))]) (st' := [.int (nI 4294967282)]) (h' := HN g hl (RF rt)) rfl ?_
            refine Ev.ret (v := some (.int (nI 4294967282))) rfl ?_
            unfold rs_tape cg_tape ch_tape at hq
            have hk : dc (okTp t s n) = false := by exact dc_f (fun z => by unfold okTp at z; omega)
            have hk2 : ¬ dc (okTp t s n) = true := by rw [hk]; decide
            rw [if_neg hk2, if_neg hk2] at hq
            (repeat (first | rw [if_pos (by omega)] at hq | rw [if_neg (by omega)] at hq))
            exact hq
        · have hc42 : ¬ (n ≤ 60 ∨ 2147483648 ≤ n) := fun z => hc42 ((nI_leN (by omega) (by decide)).mpr z)
          refine Ev.run 1 (pc' := 47) (lv' := [(0, .ref 0), (1, .int (nI t)), (2, .int (nI s)), (3, .int (nI n))]) (st' := [.int (nI 4294967294)]) (h' := HN g hl (RF rt)) rfl ?_
          refine Ev.ret (v := some (.int (nI 4294967294))) rfl ?_
          unfold rs_tape cg_tape ch_tape at hq
          have hk : dc (okTp t s n) = false := by exact dc_f (fun z => by unfold okTp at z; omega)
          have hk2 : ¬ dc (okTp t s n) = true := by rw [hk]; decide
          rw [if_neg hk2, if_neg hk2] at hq
          (repeat (first | rw [if_pos (by omega)] at hq | rw [if_neg (by omega)] at hq))
          exact hq
    · have hhb15 : ¬ (s ≤ 4 ∨ s = 4294967295) := of_decide_eq_false hb15
      refine Ev.run 2 (pc' := 20) (lv' := [(0, .ref 0), (1, .int (nI t)), (2, .int (nI s)), (3, .int (nI n))]) (st' := [.int (nI 4294967294)]) (h' := HN g hl (RF rt)) rfl ?_
      refine Ev.ret (v := some (.int (nI 4294967294))) rfl ?_
      unfold rs_tape cg_tape ch_tape at hq
      have hk : dc (okTp t s n) = false := by exact dc_f (fun z => by unfold okTp at z; omega)
      have hk2 : ¬ dc (okTp t s n) = true := by rw [hk]; decide
      rw [if_neg hk2, if_neg hk2] at hq
      (repeat (first | rw [if_pos (by omega)] at hq | rw [if_neg (by omega)] at hq))
      exact hq
  · have hhb4 : ¬ (t ≤ 5) := of_decide_eq_false hb4
    refine Ev.run 2 (pc' := 8) (lv' := [(0, .ref 0), (1, .int (nI t)), (2, .int (nI s)), (3, .int (nI n))]) (st' := [.int (nI 4294967295)]) (h' := HN g hl (RF rt)) rfl ?_
    refine Ev.ret (v := some (.int (nI 4294967295))) rfl ?_
    unfold rs_tape cg_tape ch_tape at hq
    have hk : dc (okTp t s n) = false := by exact dc_f (fun z => by unfold okTp at z; omega)
    have hk2 : ¬ dc (okTp t s n) = true := by rw [hk]; decide
    rw [if_neg hk2, if_neg hk2] at hq
    (repeat (first | rw [if_pos (by omega)] at hq | rw [if_neg (by omega)] at hq))
    exact hq
theorem K_narrow {L : Nat} {xs : Nat → Int32} (d : Nat) (g : Nat → Nat → Nat) (hl : Nat → Nat → Int64) (rt : Nat × Nat × Nat × Nat) (hV : Inv g hl rt) (t : Nat) (ht : t < 6) (z : Int64)  {Q : Po} (hq : Q (some (.long (nrL (g 206 t) z))) (HN g hl (RF rt))) : Ev L xs d 74 0 [(0, .ref (154 + 2 * t)), (1, .long (z))] [] (HN g hl (RF rt)) Q := by
  have hI := hV.mi
  have hW := hI.hW
  have hS := hI.hS
  have hPl := hI.hPl
  have hNx := hI.hNx
  have hLa := hI.hLa
  have hLo := hI.hLo
  have hTb := hI.hTb
  have hTh := hI.hTh
  have hFd := hI.hFd
  have hSn := hI.hSn
  have hSh := hI.hSh
  have hRan := hI.hRan
  have hLr := hI.hLr
  have hLt := hI.hLt
  have hgl := hI.hgl
  have hsz := hI.hsz
  have hcm := hI.hcm
  have hsl := hI.hsl
  have hkd := hI.hkd
  have hvv := hI.hvv
  have hli := hI.hli
  have hro := hI.hro
  have hrw := hI.hrw
  have htx := hI.htx
  have hsw := hI.hsw
  have hsx := hI.hsx
  have hsy := hI.hsy
  have hsh := hI.hsh
  have hle := hI.hle
  have hcl := hI.hcl
  have hwd := hI.hwd
  have hnu := hI.hnu
  have hwn := hI.hwn
  have hs1 := hI.hs1
  have hso := hI.hso
  have hB := hV.gm.cb
  have hB0 := hB.1
  have hPs := hV.gm.cs
  have hsp1 := hV.sp.1
  have htx1 := hV.tx.1
  have h451 := hV.gm.rx.1
  have h442 := hV.gm.rx.2.2.2.1
  have h443 := hV.gm.rx.2.2.2.2
  have h481 := hV.gm.l48.1
  have h501 := hV.gm.l50.1
  have h521 := hV.gm.l52.1
  have h541 := hV.gm.l54.1
  have h04 := hV.tb.1
  have hac1 := hV.ac.1
  have hac2 := hV.ac.2.1
  have hPl0 := hV.gm.cp
  have hle2 := hle
  have hso2 := hso
  have hsot := hso t ht
  refine Ev.run 1 (pc' := 1) (lv' := [(0, .ref (154 + 2 * t)), (1, .long (z))]) (st' := [.ref (154 + 2 * t)]) (h' := HN g hl (RF rt)) rfl ?_
  refine Ev_gfI rfl rfl rfl (kcT (show t < 6 by omega)) ?_
  refine Ev.topI (congrArg nI ((hV.tp t (by omega)).1)) ?_
  by_cases hs4_0 : g 206 t = 0
  · refine Ev.topI (congrArg nI hs4_0) ?_
    refine Ev.run 5 (pc' := 44) (lv' := [(0, .ref (154 + 2 * t)), (1, .long (z))]) (st' := [.long (z.toInt32.toInt8.toInt32.toInt64)]) (h' := HN g hl (RF rt)) rfl ?_
    refine Ev.ret (v := some (.long (z.toInt32.toInt8.toInt32.toInt64))) rfl ?_
    unfold nrL at hq
    (repeat (first | rw [if_pos (by omega)] at hq | rw [if_neg (by omega)] at hq))
    exact hq
  by_cases hs4_1 : g 206 t = 1
  · refine Ev.topI (congrArg nI hs4_1) ?_
    refine Ev.run 5 (pc' := 49) (lv' := [(0, .ref (154 + 2 * t)), (1, .long (z))]) (st' := [.long (z.toInt32.toInt16.toInt32.toInt64)]) (h' := HN g hl (RF rt)) rfl ?_
    refine Ev.ret (v := some (.long (z.toInt32.toInt16.toInt32.toInt64))) rfl ?_
    unfold nrL at hq
    (repeat (first | rw [if_pos (by omega)] at hq | rw [if_neg (by omega)] at hq))
    exact hq
  by_cases hs4_2 : g 206 t = 2
  · refine Ev.topI (congrArg nI hs4_2) ?_
    refine Ev.run 4 (pc' := 53) (lv' := [(0, .ref (154 + 2 * t)), (1, .long (z))]) (st' := [.long (z.toInt32.toInt64)]) (h' := HN g hl (RF rt)) rfl ?_
    refine Ev.ret (v := some (.long (z.toInt32.toInt64))) rfl ?_
    unfold nrL at hq
    (repeat (first | rw [if_pos (by omega)] at hq | rw [if_neg (by omega)] at hq))
    exact hq
  by_cases hs4_3 : g 206 t = 3
  · refine Ev.topI (congrArg nI hs4_3) ?_
    refine Ev.run 2 (pc' := 67) (lv' := [(0, .ref (154 + 2 * t)), (1, .long (z))]) (st' := [.long (z)]) (h' := HN g hl (RF rt)) rfl ?_
    refine Ev.ret (v := some (.long (z))) rfl ?_
    unfold nrL at hq
    (repeat (first | rw [if_pos (by omega)] at hq | rw [if_neg (by omega)] at hq))
    exact hq
  by_cases hs4_4 : g 206 t = 4
  · refine Ev.topI (congrArg nI hs4_4) ?_
    refine Ev.run 5 (pc' := (if (lg_cmp z 0) = 0 then 64 else 60)) (lv' := [(0, .ref (154 + 2 * t)), (1, .long (z))]) (st' := []) (h' := HN g hl (RF rt)) rfl ?_
    refine Ev.ite (fun hc57 => ?_) (fun hc57 => ?_)
    · have hc57 : z = Int64.ofNat 0 := (lg_cmp_eq _ _).mp hc57
      refine Ev.run 1 (pc' := 65) (lv' := [(0, .ref (154 + 2 * t)), (1, .long (z))]) (st' := [.long (0)]) (h' := HN g hl (RF rt)) rfl ?_
      refine Ev.ret (v := some (.long (0))) rfl ?_
      unfold nrL at hq
      (repeat (first | rw [if_pos (by omega)] at hq | rw [if_neg (by omega)] at hq))
      exact hq
    · have hc57 : ¬ (z = Int64.ofNat 0) := fun z => hc57 ((lg_cmp_eq _ _).mpr z)
      refine Ev.run 2 (pc' := 65) (lv' := [(0, .ref (154 + 2 * t)), (1, .long (z))]) (st' := [.long (1)]) (h' := HN g hl (RF rt)) rfl ?_
      refine Ev.ret (v := some (.long (1))) rfl ?_
      unfold nrL at hq
      (repeat (first | rw [if_pos (by omega)] at hq | rw [if_neg (by omega)] at hq))
      exact hq
  refine Ev_tsOut (tgt := 66) rfl (sw_out (x := (g 206 t)) (hi := 4) (by omega) (by omega) (by omega)) rfl ?_
  refine Ev.run 1 (pc' := 67) (lv' := [(0, .ref (154 + 2 * t)), (1, .long (z))]) (st' := [.long (z)]) (h' := HN g hl (RF rt)) rfl ?_
  refine Ev.ret (v := some (.long (z))) rfl ?_
  unfold nrL at hq
  (repeat (first | rw [if_pos (by omega)] at hq | rw [if_neg (by omega)] at hq))
  exact hq
noncomputable def ch_item (g : Nat → Nat → Nat) (hl : Nat → Nat → Int64) (t i : Nat) (z : Int64) : Nat → Nat → Int64 := if dc (t ≤ 5 ∧ g 206 t < 2147483648 ∧ i < g 207 t) = true then u2 hl (154 + 2 * t + 1) i (nrL (g 206 t) z) else hl
theorem K_item {L : Nat} {xs : Nat → Int32} (d : Nat) (g : Nat → Nat → Nat) (hl : Nat → Nat → Int64) (rt : Nat × Nat × Nat × Nat) (hV : Inv g hl rt) (t : Nat) (i : Nat) (ht : t < 2 ^ 32) (hi : i < 2 ^ 32)(z : Int64)  {Q : Po} (hq : Q (some (.int (nI (rs_item g t i)))) (HN g (ch_item g hl t i z) (RF rt))) : Ev L xs (d + 2) 112 0 [(0, .ref 0), (1, .int (nI t)), (2, .int (nI i)), (3, .long (z))] [] (HN g hl (RF rt)) Q := by
  have hI := hV.mi
  have hW := hI.hW
  have hS := hI.hS
  have hPl := hI.hPl
  have hNx := hI.hNx
  have hLa := hI.hLa
  have hLo := hI.hLo
  have hTb := hI.hTb
  have hTh := hI.hTh
  have hFd := hI.hFd
  have hSn := hI.hSn
  have hSh := hI.hSh
  have hRan := hI.hRan
  have hLr := hI.hLr
  have hLt := hI.hLt
  have hgl := hI.hgl
  have hsz := hI.hsz
  have hcm := hI.hcm
  have hsl := hI.hsl
  have hkd := hI.hkd
  have hvv := hI.hvv
  have hli := hI.hli
  have hro := hI.hro
  have hrw := hI.hrw
  have htx := hI.htx
  have hsw := hI.hsw
  have hsx := hI.hsx
  have hsy := hI.hsy
  have hsh := hI.hsh
  have hle := hI.hle
  have hcl := hI.hcl
  have hwd := hI.hwd
  have hnu := hI.hnu
  have hwn := hI.hwn
  have hs1 := hI.hs1
  have hso := hI.hso
  have hB := hV.gm.cb
  have hB0 := hB.1
  have hPs := hV.gm.cs
  have hsp1 := hV.sp.1
  have htx1 := hV.tx.1
  have h451 := hV.gm.rx.1
  have h442 := hV.gm.rx.2.2.2.1
  have h443 := hV.gm.rx.2.2.2.2
  have h481 := hV.gm.l48.1
  have h501 := hV.gm.l50.1
  have h521 := hV.gm.l52.1
  have h541 := hV.gm.l54.1
  have h04 := hV.tb.1
  have hac1 := hV.ac.1
  have hac2 := hV.ac.2.1
  have hPl0 := hV.gm.cp
  have hle2 := hle
  have hso2 := hso
  have hlet := hle t
  refine Ev.run 1 (pc' := 1) (lv' := [(0, .ref 0), (1, .int (nI t)), (2, .int (nI i)), (3, .long (z))]) (st' := [.int (nI t)]) (h' := HN g hl (RF rt)) rfl ?_
  refine Ev.call (a := 119) (as := [.int (nI t)]) (rest := []) (lv0 := [(0, .int (nI t))]) (Q1 := (fun z0 h' => z0 = some (.int (nI (bn (decide (t ≤ 5))))) ∧ h' = HN g hl (RF rt))) rfl rfl (K_isTape _ _ _ _ t (by omega) ⟨rfl, rfl⟩) (fun r h' hr => ?_)
  obtain ⟨rfl, rfl⟩ := hr
  refine Ev_bn (fun hb4 => ?_) (fun hb4 => ?_)
  · have hhb4 : t ≤ 5 := of_decide_eq_true hb4
    refine Ev.run 4 (pc' := 14) (lv' := [(0, .ref 0), (1, .int (nI t)), (2, .int (nI i)), (3, .long (z))]) (st' := [.int (nI t), .ref 135]) (h' := HN g hl (RF rt)) rfl ?_
    refine Ev_aald (c := (154 + 2 * t)) rfl (by decide) rfl (show t < 6 by omega) (Nat.le_of_ble_eq_true rfl) (rf_tp rt (show t < 6 by omega)).2 ?_
    refine Ev_callV (a := 71) (as := [.ref (154 + 2 * t)]) (rest := []) (lv0 := [(0, .ref (154 + 2 * t))]) (Q1 := (fun z0 h' => z0 = some (.int (nI (bn (decide (g 206 t < 2147483648))))) ∧ h' = HN g hl (RF rt))) rfl rfl rfl rfl rfl (kcT (show t < 6 by omega)).k rfl rfl rfl (K_holds _ _ _ _ hV t (by omega) ⟨rfl, rfl⟩) (fun r h' hr => ?_)
    obtain ⟨rfl, rfl⟩ := hr
    refine Ev_bn (fun hb18 => ?_) (fun hb18 => ?_)
    · have hhb18 : g 206 t < 2147483648 := of_decide_eq_true hb18
      refine Ev.run 6 (pc' := 31) (lv' := [(0, .ref 0), (1, .int (nI t)), (2, .int (nI i)), (3, .long (z))]) (st' := [.int (nI t), .ref 135, .int (nI 0), .int (nI i)]) (h' := HN g hl (RF rt)) rfl ?_
      refine Ev_aald (c := (154 + 2 * t)) rfl (by decide) rfl (show t < 6 by omega) (Nat.le_of_ble_eq_true rfl) (rf_tp rt (show t < 6 by omega)).2 ?_
      refine Ev_gfI rfl rfl rfl (kcT (show t < 6 by omega)) ?_
      refine Ev.topI (congrArg nI ((hV.tp t (by omega)).2.1)) ?_
      refine Ev.run 2 (pc' := 37) (lv' := [(0, .ref 0), (1, .int (nI t)), (2, .int (nI i)), (3, .long (z))]) (st' := [.int (nI (g 207 t) - nI 1), .int (nI 0), .int (nI i)]) (h' := HN g hl (RF rt)) rfl ?_
      refine Ev.call (a := 118) (as := [.int (nI i), .int (nI 0), .int (nI (g 207 t) - nI 1)]) (rest := []) (lv0 := [(0, .int (nI i)), (1, .int (nI 0)), (2, .int (nI (g 207 t) - nI 1))]) (Q1 := (fun z0 h' => z0 = some (.int (nI (bn (decide (i < g 207 t))))) ∧ h' = HN g hl (RF rt))) rfl rfl (K_within _ _ _ _ (nI i) (nI 0) (nI (g 207 t) - nI 1) (by rw [in1 (by omega) (by omega)]; exact ⟨rfl, rfl⟩)) (fun r h' hr => ?_)
      obtain ⟨rfl, rfl⟩ := hr
      refine Ev_bn (fun hb40 => ?_) (fun hb40 => ?_)
      · have hhb40 : i < g 207 t := of_decide_eq_true hb40
        refine Ev.run 4 (pc' := 51) (lv' := [(0, .ref 0), (1, .int (nI t)), (2, .int (nI i)), (3, .long (z))]) (st' := [.int (nI t), .ref 135]) (h' := HN g hl (RF rt)) rfl ?_
        refine Ev_aald (c := (154 + 2 * t)) rfl (by decide) rfl (show t < 6 by omega) (Nat.le_of_ble_eq_true rfl) (rf_tp rt (show t < 6 by omega)).2 ?_
        refine Ev_gfR rfl rfl rfl (kcT (show t < 6 by omega)) (rf_tp rt (show t < 6 by omega)).1 ?_
        refine Ev.run 4 (pc' := 61) (lv' := [(0, .ref 0), (1, .int (nI t)), (2, .int (nI i)), (3, .long (z))]) (st' := [.int (nI t), .ref 135, .int (nI i), .ref (154 + 2 * t + 1)]) (h' := HN g hl (RF rt)) rfl ?_
        refine Ev_aald (c := (154 + 2 * t)) rfl (by decide) rfl (show t < 6 by omega) (Nat.le_of_ble_eq_true rfl) (rf_tp rt (show t < 6 by omega)).2 ?_
        refine Ev.run 1 (pc' := 63) (lv' := [(0, .ref 0), (1, .int (nI t)), (2, .int (nI i)), (3, .long (z))]) (st' := [.long (z), .ref (154 + 2 * t), .int (nI i), .ref (154 + 2 * t + 1)]) (h' := HN g hl (RF rt)) rfl ?_
        refine Ev_callV (a := 74) (as := [.ref (154 + 2 * t), .long (z)]) (rest := [.int (nI i), .ref (154 + 2 * t + 1)]) (lv0 := [(0, .ref (154 + 2 * t)), (1, .long (z))]) (Q1 := (fun z0 h' => z0 = some (.long (nrL (g 206 t) z)) ∧ h' = HN g hl (RF rt))) rfl rfl rfl rfl rfl (kcT (show t < 6 by omega)).k rfl rfl rfl (K_narrow _ _ _ _ hV t (by omega) z ⟨rfl, rfl⟩) (fun r h' hr => ?_)
        obtain ⟨rfl, rfl⟩ := hr
        refine Ev_last rfl (kcU (show t < 6 by omega)).k (show _ < _ by rw [(kcU (show t < 6 by omega)).n]; omega) (by rw [(kcU (show t < 6 by omega)).n]; omega) ?_
        refine Ev.run 1 (pc' := 68) (lv' := [(0, .ref 0), (1, .int (nI t)), (2, .int (nI i)), (3, .long (z))]) (st' := [.int (nI 1)]) (h' := HN g (u2 hl (154 + 2 * t + 1) i (nrL (g 206 t) z)) (RF rt)) rfl ?_
        refine Ev.ret (v := some (.int (nI 1))) rfl ?_
        unfold rs_item ch_item at hq
        have hk : dc (t ≤ 5 ∧ g 206 t < 2147483648 ∧ i < g 207 t) = true := by exact dc_t ⟨by omega, by omega, by omega⟩
        rw [hk] at hq
        (repeat (first | rw [if_pos (by omega)] at hq | rw [if_neg (by omega)] at hq))
        exact hq
      · have hhb40 : ¬ (i < g 207 t) := of_decide_eq_false hb40
        refine Ev.run 2 (pc' := 45) (lv' := [(0, .ref 0), (1, .int (nI t)), (2, .int (nI i)), (3, .long (z))]) (st' := [.int (nI 4294967283)]) (h' := HN g hl (RF rt)) rfl ?_
        refine Ev.ret (v := some (.int (nI 4294967283))) rfl ?_
        unfold rs_item ch_item at hq
        have hk : dc (t ≤ 5 ∧ g 206 t < 2147483648 ∧ i < g 207 t) = false := by exact dc_f (fun z => by omega)
        rw [hk] at hq
        (repeat (first | rw [if_pos (by omega)] at hq | rw [if_neg (by omega)] at hq))
        exact hq
    · have hhb18 : ¬ (g 206 t < 2147483648) := of_decide_eq_false hb18
      refine Ev.run 2 (pc' := 23) (lv' := [(0, .ref 0), (1, .int (nI t)), (2, .int (nI i)), (3, .long (z))]) (st' := [.int (nI 4294967285)]) (h' := HN g hl (RF rt)) rfl ?_
      refine Ev.ret (v := some (.int (nI 4294967285))) rfl ?_
      unfold rs_item ch_item at hq
      have hk : dc (t ≤ 5 ∧ g 206 t < 2147483648 ∧ i < g 207 t) = false := by exact dc_f (fun z => by omega)
      rw [hk] at hq
      (repeat (first | rw [if_pos (by omega)] at hq | rw [if_neg (by omega)] at hq))
      exact hq
  · have hhb4 : ¬ (t ≤ 5) := of_decide_eq_false hb4
    refine Ev.run 2 (pc' := 8) (lv' := [(0, .ref 0), (1, .int (nI t)), (2, .int (nI i)), (3, .long (z))]) (st' := [.int (nI 4294967295)]) (h' := HN g hl (RF rt)) rfl ?_
    refine Ev.ret (v := some (.int (nI 4294967295))) rfl ?_
    unfold rs_item ch_item at hq
    have hk : dc (t ≤ 5 ∧ g 206 t < 2147483648 ∧ i < g 207 t) = false := by exact dc_f (fun z => by omega)
    rw [hk] at hq
    (repeat (first | rw [if_pos (by omega)] at hq | rw [if_neg (by omega)] at hq))
    exact hq
theorem K_read {L : Nat} {xs : Nat → Int32} (d : Nat) (g : Nat → Nat → Nat) (hl : Nat → Nat → Int64) (rt : Nat × Nat × Nat × Nat) (hV : Inv g hl rt) (t : Nat) (i : Nat) (ht : t < 2 ^ 32) (hi : i < 2 ^ 32) {Q : Po} (hq : Q (some (.long (rs_read g hl t i))) (HN g hl (RF rt))) : Ev L xs (d + 2) 113 0 [(0, .ref 0), (1, .int (nI t)), (2, .int (nI i))] [] (HN g hl (RF rt)) Q := by
  have hI := hV.mi
  have hW := hI.hW
  have hS := hI.hS
  have hPl := hI.hPl
  have hNx := hI.hNx
  have hLa := hI.hLa
  have hLo := hI.hLo
  have hTb := hI.hTb
  have hTh := hI.hTh
  have hFd := hI.hFd
  have hSn := hI.hSn
  have hSh := hI.hSh
  have hRan := hI.hRan
  have hLr := hI.hLr
  have hLt := hI.hLt
  have hgl := hI.hgl
  have hsz := hI.hsz
  have hcm := hI.hcm
  have hsl := hI.hsl
  have hkd := hI.hkd
  have hvv := hI.hvv
  have hli := hI.hli
  have hro := hI.hro
  have hrw := hI.hrw
  have htx := hI.htx
  have hsw := hI.hsw
  have hsx := hI.hsx
  have hsy := hI.hsy
  have hsh := hI.hsh
  have hle := hI.hle
  have hcl := hI.hcl
  have hwd := hI.hwd
  have hnu := hI.hnu
  have hwn := hI.hwn
  have hs1 := hI.hs1
  have hso := hI.hso
  have hB := hV.gm.cb
  have hB0 := hB.1
  have hPs := hV.gm.cs
  have hsp1 := hV.sp.1
  have htx1 := hV.tx.1
  have h451 := hV.gm.rx.1
  have h442 := hV.gm.rx.2.2.2.1
  have h443 := hV.gm.rx.2.2.2.2
  have h481 := hV.gm.l48.1
  have h501 := hV.gm.l50.1
  have h521 := hV.gm.l52.1
  have h541 := hV.gm.l54.1
  have h04 := hV.tb.1
  have hac1 := hV.ac.1
  have hac2 := hV.ac.2.1
  have hPl0 := hV.gm.cp
  have hle2 := hle
  have hso2 := hso
  have hlet := hle t
  have hsot := hso t
  refine Ev.run 1 (pc' := 1) (lv' := [(0, .ref 0), (1, .int (nI t)), (2, .int (nI i))]) (st' := [.int (nI t)]) (h' := HN g hl (RF rt)) rfl ?_
  refine Ev.call (a := 119) (as := [.int (nI t)]) (rest := []) (lv0 := [(0, .int (nI t))]) (Q1 := (fun z0 h' => z0 = some (.int (nI (bn (decide (t ≤ 5))))) ∧ h' = HN g hl (RF rt))) rfl rfl (K_isTape _ _ _ _ t (by omega) ⟨rfl, rfl⟩) (fun r h' hr => ?_)
  obtain ⟨rfl, rfl⟩ := hr
  refine Ev_bn (fun hb4 => ?_) (fun hb4 => ?_)
  · have hhb4 : t ≤ 5 := of_decide_eq_true hb4
    refine Ev.run 6 (pc' := 14) (lv' := [(0, .ref 0), (1, .int (nI t)), (2, .int (nI i))]) (st' := [.int (nI t), .ref 135, .int (nI 0), .int (nI i)]) (h' := HN g hl (RF rt)) rfl ?_
    refine Ev_aald (c := (154 + 2 * t)) rfl (by decide) rfl (show t < 6 by omega) (Nat.le_of_ble_eq_true rfl) (rf_tp rt (show t < 6 by omega)).2 ?_
    refine Ev_gfI rfl rfl rfl (kcT (show t < 6 by omega)) ?_
    refine Ev.topI (congrArg nI ((hV.tp t (by omega)).2.1)) ?_
    refine Ev.run 2 (pc' := 20) (lv' := [(0, .ref 0), (1, .int (nI t)), (2, .int (nI i))]) (st' := [.int (nI (g 207 t) - nI 1), .int (nI 0), .int (nI i)]) (h' := HN g hl (RF rt)) rfl ?_
    refine Ev.call (a := 118) (as := [.int (nI i), .int (nI 0), .int (nI (g 207 t) - nI 1)]) (rest := []) (lv0 := [(0, .int (nI i)), (1, .int (nI 0)), (2, .int (nI (g 207 t) - nI 1))]) (Q1 := (fun z0 h' => z0 = some (.int (nI (bn (decide (i < g 207 t))))) ∧ h' = HN g hl (RF rt))) rfl rfl (K_within _ _ _ _ (nI i) (nI 0) (nI (g 207 t) - nI 1) (by rw [in1 (by omega) (by omega)]; exact ⟨rfl, rfl⟩)) (fun r h' hr => ?_)
    obtain ⟨rfl, rfl⟩ := hr
    refine Ev_bn (fun hb23 => ?_) (fun hb23 => ?_)
    · have hhb23 : i < g 207 t := of_decide_eq_true hb23
      refine Ev.run 4 (pc' := 35) (lv' := [(0, .ref 0), (1, .int (nI t)), (2, .int (nI i))]) (st' := [.int (nI t), .ref 135]) (h' := HN g hl (RF rt)) rfl ?_
      refine Ev_aald (c := (154 + 2 * t)) rfl (by decide) rfl (show t < 6 by omega) (Nat.le_of_ble_eq_true rfl) (rf_tp rt (show t < 6 by omega)).2 ?_
      refine Ev_gfR rfl rfl rfl (kcT (show t < 6 by omega)) (rf_tp rt (show t < 6 by omega)).1 ?_
      refine Ev.run 1 (pc' := 40) (lv' := [(0, .ref 0), (1, .int (nI t)), (2, .int (nI i))]) (st' := [.int (nI i), .ref (154 + 2 * t + 1)]) (h' := HN g hl (RF rt)) rfl ?_
      refine Ev_lald rfl (kcU (show t < 6 by omega)).k (show _ < _ by rw [(kcU (show t < 6 by omega)).n]; omega) (by rw [(kcU (show t < 6 by omega)).n]; omega) ?_
      refine Ev.ret (v := some (.long (hl (154 + 2 * t + 1) i))) rfl ?_
      have e := (hV.tp t (by omega)).2.2.2 i (by omega)
      rw [e]
      unfold rs_read at hq
      rw [if_pos (by omega), if_pos (by have := (hV.tp t (by omega)).2.2.1; omega), if_pos (by omega)] at hq
      exact hq
    · have hhb23 : ¬ (i < g 207 t) := of_decide_eq_false hb23
      refine Ev.run 2 (pc' := 29) (lv' := [(0, .ref 0), (1, .int (nI t)), (2, .int (nI i))]) (st' := [.long (Int64.ofNat 9223372036854775808)]) (h' := HN g hl (RF rt)) rfl ?_
      refine Ev.ret (v := some (.long (Int64.ofNat 9223372036854775808))) rfl ?_
      unfold rs_read at hq
      by_cases h1 : t ≤ 5
      · rw [if_pos h1] at hq
        by_cases h2 : g 206 t < 2147483648
        · rw [if_pos h2, if_neg (by omega)] at hq; exact hq
        · rw [if_neg h2] at hq; exact hq
      · rw [if_neg h1] at hq; exact hq
  · have hhb4 : ¬ (t ≤ 5) := of_decide_eq_false hb4
    refine Ev.run 2 (pc' := 29) (lv' := [(0, .ref 0), (1, .int (nI t)), (2, .int (nI i))]) (st' := [.long (Int64.ofNat 9223372036854775808)]) (h' := HN g hl (RF rt)) rfl ?_
    refine Ev.ret (v := some (.long (Int64.ofNat 9223372036854775808))) rfl ?_
    unfold rs_read at hq
    by_cases h1 : t ≤ 5
    · rw [if_pos h1] at hq
      by_cases h2 : g 206 t < 2147483648
      · rw [if_pos h2, if_neg (by omega)] at hq; exact hq
      · rw [if_neg h2] at hq; exact hq
    · rw [if_neg h1] at hq; exact hq
theorem K_hasPart {L : Nat} {xs : Nat → Int32} (d : Nat) (g : Nat → Nat → Nat) (hl : Nat → Nat → Int64) (rt : Nat × Nat × Nat × Nat) (hV : Inv g hl rt) (t a n : Nat) (ht : t < 6) (ha : a < 2 ^ 32) (hn : n < 2 ^ 32)  {Q : Po} (hq : Q (some (.int (nI (bn (decide (n < 2147483648 ∧ a < 2147483648 ∧ a + n ≤ g 207 t)))))) (HN g hl (RF rt))) : Ev L xs d 73 0 [(0, .ref (154 + 2 * t)), (1, .int (nI a)), (2, .int (nI n))] [] (HN g hl (RF rt)) Q := by
  have hI := hV.mi
  have hW := hI.hW
  have hS := hI.hS
  have hPl := hI.hPl
  have hNx := hI.hNx
  have hLa := hI.hLa
  have hLo := hI.hLo
  have hTb := hI.hTb
  have hTh := hI.hTh
  have hFd := hI.hFd
  have hSn := hI.hSn
  have hSh := hI.hSh
  have hRan := hI.hRan
  have hLr := hI.hLr
  have hLt := hI.hLt
  have hgl := hI.hgl
  have hsz := hI.hsz
  have hcm := hI.hcm
  have hsl := hI.hsl
  have hkd := hI.hkd
  have hvv := hI.hvv
  have hli := hI.hli
  have hro := hI.hro
  have hrw := hI.hrw
  have htx := hI.htx
  have hsw := hI.hsw
  have hsx := hI.hsx
  have hsy := hI.hsy
  have hsh := hI.hsh
  have hle := hI.hle
  have hcl := hI.hcl
  have hwd := hI.hwd
  have hnu := hI.hnu
  have hwn := hI.hwn
  have hs1 := hI.hs1
  have hso := hI.hso
  have hB := hV.gm.cb
  have hB0 := hB.1
  have hPs := hV.gm.cs
  have hsp1 := hV.sp.1
  have htx1 := hV.tx.1
  have h451 := hV.gm.rx.1
  have h442 := hV.gm.rx.2.2.2.1
  have h443 := hV.gm.rx.2.2.2.2
  have h481 := hV.gm.l48.1
  have h501 := hV.gm.l50.1
  have h521 := hV.gm.l52.1
  have h541 := hV.gm.l54.1
  have h04 := hV.tb.1
  have hac1 := hV.ac.1
  have hac2 := hV.ac.2.1
  have hPl0 := hV.gm.cp
  have hle2 := hle
  have hso2 := hso
  have hlet := hle t ht
  refine Ev.run 2 (pc' := (if nI n < 0 then 30 else 4)) (lv' := [(0, .ref (154 + 2 * t)), (1, .int (nI a)), (2, .int (nI n))]) (st' := []) (h' := HN g hl (RF rt)) rfl ?_
  refine Ev.ite (fun hc1 => ?_) (fun hc1 => ?_)
  · have hc1 : 2147483648 ≤ n := (nI_ltU0 (by omega)).mp hc1
    refine Ev.run 1 (pc' := 31) (lv' := [(0, .ref (154 + 2 * t)), (1, .int (nI a)), (2, .int (nI n))]) (st' := [.int (nI 0)]) (h' := HN g hl (RF rt)) rfl ?_
    refine Ev.ret (v := some (.int (nI 0))) rfl ?_
    rw [decide_eq_false (by omega)] at hq
    exact hq
  · have hc1 : ¬ (2147483648 ≤ n) := fun z => hc1 ((nI_ltU0 (by omega)).mpr z)
    refine Ev.run 2 (pc' := (if nI a < 0 then 30 else 8)) (lv' := [(0, .ref (154 + 2 * t)), (1, .int (nI a)), (2, .int (nI n))]) (st' := []) (h' := HN g hl (RF rt)) rfl ?_
    refine Ev.ite (fun hc5 => ?_) (fun hc5 => ?_)
    · have hc5 : 2147483648 ≤ a := (nI_ltU0 (by omega)).mp hc5
      refine Ev.run 1 (pc' := 31) (lv' := [(0, .ref (154 + 2 * t)), (1, .int (nI a)), (2, .int (nI n))]) (st' := [.int (nI 0)]) (h' := HN g hl (RF rt)) rfl ?_
      refine Ev.ret (v := some (.int (nI 0))) rfl ?_
      rw [decide_eq_false (by omega)] at hq
      exact hq
    · have hc5 : ¬ (2147483648 ≤ a) := fun z => hc5 ((nI_ltU0 (by omega)).mpr z)
      refine Ev.run 2 (pc' := 10) (lv' := [(0, .ref (154 + 2 * t)), (1, .int (nI a)), (2, .int (nI n))]) (st' := [.ref (154 + 2 * t), .int (nI a)]) (h' := HN g hl (RF rt)) rfl ?_
      refine Ev_gfI rfl rfl rfl (kcT (show t < 6 by omega)) ?_
      refine Ev.topI (congrArg nI ((hV.tp t (by omega)).2.1)) ?_
      refine Ev.run 1 (pc' := (if nI (g 207 t) < nI a then 30 else 16)) (lv' := [(0, .ref (154 + 2 * t)), (1, .int (nI a)), (2, .int (nI n))]) (st' := []) (h' := HN g hl (RF rt)) rfl ?_
      refine Ev.ite (fun hc13 => ?_) (fun hc13 => ?_)
      · have hc13 : (g 207 t) < a := (nI_ltI (by omega) (by omega)).mp hc13
        refine Ev.run 1 (pc' := 31) (lv' := [(0, .ref (154 + 2 * t)), (1, .int (nI a)), (2, .int (nI n))]) (st' := [.int (nI 0)]) (h' := HN g hl (RF rt)) rfl ?_
        refine Ev.ret (v := some (.int (nI 0))) rfl ?_
        rw [decide_eq_false (by omega)] at hq
        exact hq
      · have hc13 : ¬ ((g 207 t) < a) := fun z => hc13 ((nI_ltI (by omega) (by omega)).mpr z)
        refine Ev.run 2 (pc' := 18) (lv' := [(0, .ref (154 + 2 * t)), (1, .int (nI a)), (2, .int (nI n))]) (st' := [.ref (154 + 2 * t), .int (nI n)]) (h' := HN g hl (RF rt)) rfl ?_
        refine Ev_gfI rfl rfl rfl (kcT (show t < 6 by omega)) ?_
        refine Ev.topI (congrArg nI ((hV.tp t (by omega)).2.1)) ?_
        refine Ev.run 2 (pc' := 23) (lv' := [(0, .ref (154 + 2 * t)), (1, .int (nI a)), (2, .int (nI n))]) (st' := [.int (nI (g 207 t) - nI a), .int (nI n)]) (h' := HN g hl (RF rt)) rfl ?_
        refine Ev.topI (pk_sub (a := (g 207 t)) (b := a) (by omega)) ?_
        refine Ev.run 1 (pc' := (if nI ((g 207 t) - a) < nI n then 30 else 26)) (lv' := [(0, .ref (154 + 2 * t)), (1, .int (nI a)), (2, .int (nI n))]) (st' := []) (h' := HN g hl (RF rt)) rfl ?_
        refine Ev.ite (fun hc23 => ?_) (fun hc23 => ?_)
        · have hc23 : ((g 207 t) - a) < n := (nI_ltI (by omega) (by omega)).mp hc23
          refine Ev.run 1 (pc' := 31) (lv' := [(0, .ref (154 + 2 * t)), (1, .int (nI a)), (2, .int (nI n))]) (st' := [.int (nI 0)]) (h' := HN g hl (RF rt)) rfl ?_
          refine Ev.ret (v := some (.int (nI 0))) rfl ?_
          rw [decide_eq_false (by omega)] at hq
          exact hq
        · have hc23 : ¬ (((g 207 t) - a) < n) := fun z => hc23 ((nI_ltI (by omega) (by omega)).mpr z)
          refine Ev.run 2 (pc' := 31) (lv' := [(0, .ref (154 + 2 * t)), (1, .int (nI a)), (2, .int (nI n))]) (st' := [.int (nI 1)]) (h' := HN g hl (RF rt)) rfl ?_
          refine Ev.ret (v := some (.int (nI 1))) rfl ?_
          rw [decide_eq_true (by omega)] at hq
          exact hq
noncomputable def ch_shift (g : Nat → Nat → Nat) (hl : Nat → Nat → Int64) (t i o j n : Nat) : Nat → Nat → Int64 := if dc (okSh g t i o j n) = true then cpL hl (154 + 2 * o + 1) j n (fun q => hl (154 + 2 * t + 1) (i + q)) else hl
theorem K_shift {L : Nat} {xs : Nat → Int32} (d : Nat) (g : Nat → Nat → Nat) (hl : Nat → Nat → Int64) (rt : Nat × Nat × Nat × Nat) (hV : Inv g hl rt) (t : Nat) (i : Nat) (o : Nat) (j : Nat) (n : Nat) (ht : t < 2 ^ 32) (hi : i < 2 ^ 32) (ho : o < 2 ^ 32) (hj : j < 2 ^ 32) (hn : n < 2 ^ 32) {Q : Po} (hq : Q (some (.int (nI (rs_shift g t i o j n)))) (HN g (ch_shift g hl t i o j n) (RF rt))) : Ev L xs (d + 2) 114 0 [(0, .ref 0), (1, .int (nI t)), (2, .int (nI i)), (3, .int (nI o)), (4, .int (nI j)), (5, .int (nI n))] [] (HN g hl (RF rt)) Q := by
  have hI := hV.mi
  have hW := hI.hW
  have hS := hI.hS
  have hPl := hI.hPl
  have hNx := hI.hNx
  have hLa := hI.hLa
  have hLo := hI.hLo
  have hTb := hI.hTb
  have hTh := hI.hTh
  have hFd := hI.hFd
  have hSn := hI.hSn
  have hSh := hI.hSh
  have hRan := hI.hRan
  have hLr := hI.hLr
  have hLt := hI.hLt
  have hgl := hI.hgl
  have hsz := hI.hsz
  have hcm := hI.hcm
  have hsl := hI.hsl
  have hkd := hI.hkd
  have hvv := hI.hvv
  have hli := hI.hli
  have hro := hI.hro
  have hrw := hI.hrw
  have htx := hI.htx
  have hsw := hI.hsw
  have hsx := hI.hsx
  have hsy := hI.hsy
  have hsh := hI.hsh
  have hle := hI.hle
  have hcl := hI.hcl
  have hwd := hI.hwd
  have hnu := hI.hnu
  have hwn := hI.hwn
  have hs1 := hI.hs1
  have hso := hI.hso
  have hB := hV.gm.cb
  have hB0 := hB.1
  have hPs := hV.gm.cs
  have hsp1 := hV.sp.1
  have htx1 := hV.tx.1
  have h451 := hV.gm.rx.1
  have h442 := hV.gm.rx.2.2.2.1
  have h443 := hV.gm.rx.2.2.2.2
  have h481 := hV.gm.l48.1
  have h501 := hV.gm.l50.1
  have h521 := hV.gm.l52.1
  have h541 := hV.gm.l54.1
  have h04 := hV.tb.1
  have hac1 := hV.ac.1
  have hac2 := hV.ac.2.1
  have hPl0 := hV.gm.cp
  have hle2 := hle
  have hso2 := hso
  have hlet := hle t
  have hleo := hle o
  have hsot := hso t
  have hsoo := hso o
  refine Ev.run 1 (pc' := 1) (lv' := [(0, .ref 0), (1, .int (nI t)), (2, .int (nI i)), (3, .int (nI o)), (4, .int (nI j)), (5, .int (nI n))]) (st' := [.int (nI t)]) (h' := HN g hl (RF rt)) rfl ?_
  refine Ev.call (a := 119) (as := [.int (nI t)]) (rest := []) (lv0 := [(0, .int (nI t))]) (Q1 := (fun z0 h' => z0 = some (.int (nI (bn (decide (t ≤ 5))))) ∧ h' = HN g hl (RF rt))) rfl rfl (K_isTape _ _ _ _ t (by omega) ⟨rfl, rfl⟩) (fun r h' hr => ?_)
  obtain ⟨rfl, rfl⟩ := hr
  refine Ev_bn (fun hb4 => ?_) (fun hb4 => ?_)
  · have hhb4 : t ≤ 5 := of_decide_eq_true hb4
    refine Ev.run 2 (pc' := 8) (lv' := [(0, .ref 0), (1, .int (nI t)), (2, .int (nI i)), (3, .int (nI o)), (4, .int (nI j)), (5, .int (nI n))]) (st' := [.int (nI o)]) (h' := HN g hl (RF rt)) rfl ?_
    refine Ev.call (a := 119) (as := [.int (nI o)]) (rest := []) (lv0 := [(0, .int (nI o))]) (Q1 := (fun z0 h' => z0 = some (.int (nI (bn (decide (o ≤ 5))))) ∧ h' = HN g hl (RF rt))) rfl rfl (K_isTape _ _ _ _ o (by omega) ⟨rfl, rfl⟩) (fun r h' hr => ?_)
    obtain ⟨rfl, rfl⟩ := hr
    refine Ev_bn (fun hb11 => ?_) (fun hb11 => ?_)
    · have hhb11 : o ≤ 5 := of_decide_eq_true hb11
      refine Ev.run 4 (pc' := 21) (lv' := [(0, .ref 0), (1, .int (nI t)), (2, .int (nI i)), (3, .int (nI o)), (4, .int (nI j)), (5, .int (nI n))]) (st' := [.int (nI t), .ref 135]) (h' := HN g hl (RF rt)) rfl ?_
      refine Ev_aald (c := (154 + 2 * t)) rfl (by decide) rfl (show t < 6 by omega) (Nat.le_of_ble_eq_true rfl) (rf_tp rt (show t < 6 by omega)).2 ?_
      refine Ev.run 4 (pc' := 29) (lv' := [(6, .ref (154 + 2 * t)), (0, .ref 0), (1, .int (nI t)), (2, .int (nI i)), (3, .int (nI o)), (4, .int (nI j)), (5, .int (nI n))]) (st' := [.int (nI o), .ref 135]) (h' := HN g hl (RF rt)) rfl ?_
      refine Ev_aald (c := (154 + 2 * o)) rfl (by decide) rfl (show o < 6 by omega) (Nat.le_of_ble_eq_true rfl) (rf_tp rt (show o < 6 by omega)).2 ?_
      refine Ev.run 2 (pc' := 34) (lv' := [(7, .ref (154 + 2 * o)), (6, .ref (154 + 2 * t)), (0, .ref 0), (1, .int (nI t)), (2, .int (nI i)), (3, .int (nI o)), (4, .int (nI j)), (5, .int (nI n))]) (st' := [.ref (154 + 2 * t)]) (h' := HN g hl (RF rt)) rfl ?_
      refine Ev_callV (a := 71) (as := [.ref (154 + 2 * t)]) (rest := []) (lv0 := [(0, .ref (154 + 2 * t))]) (Q1 := (fun z0 h' => z0 = some (.int (nI (bn (decide (g 206 t < 2147483648))))) ∧ h' = HN g hl (RF rt))) rfl rfl rfl rfl rfl (kcT (show t < 6 by omega)).k rfl rfl rfl (K_holds _ _ _ _ hV t (by omega) ⟨rfl, rfl⟩) (fun r h' hr => ?_)
      obtain ⟨rfl, rfl⟩ := hr
      refine Ev_bn (fun hb37 => ?_) (fun hb37 => ?_)
      · have hhb37 : g 206 t < 2147483648 := of_decide_eq_true hb37
        refine Ev.run 2 (pc' := 42) (lv' := [(7, .ref (154 + 2 * o)), (6, .ref (154 + 2 * t)), (0, .ref 0), (1, .int (nI t)), (2, .int (nI i)), (3, .int (nI o)), (4, .int (nI j)), (5, .int (nI n))]) (st' := [.ref (154 + 2 * o)]) (h' := HN g hl (RF rt)) rfl ?_
        refine Ev_callV (a := 71) (as := [.ref (154 + 2 * o)]) (rest := []) (lv0 := [(0, .ref (154 + 2 * o))]) (Q1 := (fun z0 h' => z0 = some (.int (nI (bn (decide (g 206 o < 2147483648))))) ∧ h' = HN g hl (RF rt))) rfl rfl rfl rfl rfl (kcT (show o < 6 by omega)).k rfl rfl rfl (K_holds _ _ _ _ hV o (by omega) ⟨rfl, rfl⟩) (fun r h' hr => ?_)
        obtain ⟨rfl, rfl⟩ := hr
        refine Ev_bn (fun hb45 => ?_) (fun hb45 => ?_)
        · have hhb45 : g 206 o < 2147483648 := of_decide_eq_true hb45
          refine Ev.run 2 (pc' := 53) (lv' := [(7, .ref (154 + 2 * o)), (6, .ref (154 + 2 * t)), (0, .ref 0), (1, .int (nI t)), (2, .int (nI i)), (3, .int (nI o)), (4, .int (nI j)), (5, .int (nI n))]) (st' := [.ref (154 + 2 * t)]) (h' := HN g hl (RF rt)) rfl ?_
          refine Ev_gfI rfl rfl rfl (kcT (show t < 6 by omega)) ?_
          refine Ev.topI (congrArg nI ((hV.tp t (by omega)).1)) ?_
          refine Ev.run 1 (pc' := 58) (lv' := [(7, .ref (154 + 2 * o)), (6, .ref (154 + 2 * t)), (0, .ref 0), (1, .int (nI t)), (2, .int (nI i)), (3, .int (nI o)), (4, .int (nI j)), (5, .int (nI n))]) (st' := [.ref (154 + 2 * o), .int (nI (g 206 t))]) (h' := HN g hl (RF rt)) rfl ?_
          refine Ev_gfI rfl rfl rfl (kcT (show o < 6 by omega)) ?_
          refine Ev.topI (congrArg nI ((hV.tp o (by omega)).1)) ?_
          refine Ev.run 1 (pc' := (if nI (g 206 t) = nI (g 206 o) then 67 else 64)) (lv' := [(7, .ref (154 + 2 * o)), (6, .ref (154 + 2 * t)), (0, .ref 0), (1, .int (nI t)), (2, .int (nI i)), (3, .int (nI o)), (4, .int (nI j)), (5, .int (nI n))]) (st' := []) (h' := HN g hl (RF rt)) rfl ?_
          refine Ev.ite (fun hc61 => ?_) (fun hc61 => ?_)
          · have hc61 : (g 206 t) = (g 206 o) := (nI_eqU (by omega) (by omega)).mp hc61
            refine Ev.run 3 (pc' := 72) (lv' := [(7, .ref (154 + 2 * o)), (6, .ref (154 + 2 * t)), (0, .ref 0), (1, .int (nI t)), (2, .int (nI i)), (3, .int (nI o)), (4, .int (nI j)), (5, .int (nI n))]) (st' := [.int (nI n), .int (nI i), .ref (154 + 2 * t)]) (h' := HN g hl (RF rt)) rfl ?_
            refine Ev_callV (a := 73) (as := [.ref (154 + 2 * t), .int (nI i), .int (nI n)]) (rest := []) (lv0 := [(0, .ref (154 + 2 * t)), (1, .int (nI i)), (2, .int (nI n))]) (Q1 := (fun z0 h' => z0 = some (.int (nI (bn (decide (n < 2147483648 ∧ i < 2147483648 ∧ i + n ≤ g 207 t))))) ∧ h' = HN g hl (RF rt))) rfl rfl rfl rfl rfl (kcT (show t < 6 by omega)).k rfl rfl rfl (K_hasPart _ _ _ _ hV t i n (by omega) (by omega) (by omega) ⟨rfl, rfl⟩) (fun r h' hr => ?_)
            obtain ⟨rfl, rfl⟩ := hr
            refine Ev_bn (fun hb75 => ?_) (fun hb75 => ?_)
            · have hhb75 : n < 2147483648 ∧ i < 2147483648 ∧ i + n ≤ g 207 t := of_decide_eq_true hb75
              refine Ev.run 4 (pc' := 84) (lv' := [(7, .ref (154 + 2 * o)), (6, .ref (154 + 2 * t)), (0, .ref 0), (1, .int (nI t)), (2, .int (nI i)), (3, .int (nI o)), (4, .int (nI j)), (5, .int (nI n))]) (st' := [.int (nI n), .int (nI j), .ref (154 + 2 * o)]) (h' := HN g hl (RF rt)) rfl ?_
              refine Ev_callV (a := 73) (as := [.ref (154 + 2 * o), .int (nI j), .int (nI n)]) (rest := []) (lv0 := [(0, .ref (154 + 2 * o)), (1, .int (nI j)), (2, .int (nI n))]) (Q1 := (fun z0 h' => z0 = some (.int (nI (bn (decide (n < 2147483648 ∧ j < 2147483648 ∧ j + n ≤ g 207 o))))) ∧ h' = HN g hl (RF rt))) rfl rfl rfl rfl rfl (kcT (show o < 6 by omega)).k rfl rfl rfl (K_hasPart _ _ _ _ hV o j n (by omega) (by omega) (by omega) ⟨rfl, rfl⟩) (fun r h' hr => ?_)
              obtain ⟨rfl, rfl⟩ := hr
              refine Ev_bn (fun hb87 => ?_) (fun hb87 => ?_)
              · have hhb87 : n < 2147483648 ∧ j < 2147483648 ∧ j + n ≤ g 207 o := of_decide_eq_true hb87
                refine Ev.run 2 (pc' := 95) (lv' := [(7, .ref (154 + 2 * o)), (6, .ref (154 + 2 * t)), (0, .ref 0), (1, .int (nI t)), (2, .int (nI i)), (3, .int (nI o)), (4, .int (nI j)), (5, .int (nI n))]) (st' := [.ref (154 + 2 * t)]) (h' := HN g hl (RF rt)) rfl ?_
                refine Ev_gfR rfl rfl rfl (kcT (show t < 6 by omega)) (rf_tp rt (show t < 6 by omega)).1 ?_
                refine Ev.run 2 (pc' := 101) (lv' := [(7, .ref (154 + 2 * o)), (6, .ref (154 + 2 * t)), (0, .ref 0), (1, .int (nI t)), (2, .int (nI i)), (3, .int (nI o)), (4, .int (nI j)), (5, .int (nI n))]) (st' := [.ref (154 + 2 * o), .int (nI i), .ref (154 + 2 * t + 1)]) (h' := HN g hl (RF rt)) rfl ?_
                refine Ev_gfR rfl rfl rfl (kcT (show o < 6 by omega)) (rf_tp rt (show o < 6 by omega)).1 ?_
                refine Ev.run 2 (pc' := 108) (lv' := [(7, .ref (154 + 2 * o)), (6, .ref (154 + 2 * t)), (0, .ref 0), (1, .int (nI t)), (2, .int (nI i)), (3, .int (nI o)), (4, .int (nI j)), (5, .int (nI n))]) (st' := [.int (nI n), .int (nI j), .ref (154 + 2 * o + 1), .int (nI i), .ref (154 + 2 * t + 1)]) (h' := HN g hl (RF rt)) rfl ?_
                refine Ev_acpL rfl rfl rfl (kcU (show t < 6 by omega)) (kcU (show o < 6 by omega)) (by omega) (by omega) (by omega) ?_
                refine Ev.run 1 (pc' := 113) (lv' := [(7, .ref (154 + 2 * o)), (6, .ref (154 + 2 * t)), (0, .ref 0), (1, .int (nI t)), (2, .int (nI i)), (3, .int (nI o)), (4, .int (nI j)), (5, .int (nI n))]) (st' := [.int (nI n)]) (h' := HN g (cpL hl (154 + 2 * o + 1) j n (fun q => hl (154 + 2 * t + 1) (i + q))) (RF rt)) rfl ?_
                refine Ev.ret (v := some (.int (nI n))) rfl ?_
                have hk : dc (okSh g t i o j n) = true := by
                  exact dc_t ⟨by omega, by omega, by omega, by omega, by omega, by omega, by omega, by omega, by omega, by omega⟩
                unfold rs_shift ch_shift at hq
                rw [hk] at hq
                exact hq
              · have hhb87 : ¬ (n < 2147483648 ∧ j < 2147483648 ∧ j + n ≤ g 207 o) := of_decide_eq_false hb87
                refine Ev.run 2 (pc' := 92) (lv' := [(7, .ref (154 + 2 * o)), (6, .ref (154 + 2 * t)), (0, .ref 0), (1, .int (nI t)), (2, .int (nI i)), (3, .int (nI o)), (4, .int (nI j)), (5, .int (nI n))]) (st' := [.int (nI 4294967283)]) (h' := HN g hl (RF rt)) rfl ?_
                refine Ev.ret (v := some (.int (nI 4294967283))) rfl ?_
                have hk : dc (okSh g t i o j n) = false := by
                  exact dc_f (fun z => by unfold okSh at z; omega)
                unfold rs_shift ch_shift at hq
                rw [hk, if_neg (by decide)] at hq
                (repeat (first | rw [if_pos (by omega)] at hq | rw [if_neg (by omega)] at hq))
                exact hq
            · have hhb75 : ¬ (n < 2147483648 ∧ i < 2147483648 ∧ i + n ≤ g 207 t) := of_decide_eq_false hb75
              refine Ev.run 2 (pc' := 92) (lv' := [(7, .ref (154 + 2 * o)), (6, .ref (154 + 2 * t)), (0, .ref 0), (1, .int (nI t)), (2, .int (nI i)), (3, .int (nI o)), (4, .int (nI j)), (5, .int (nI n))]) (st' := [.int (nI 4294967283)]) (h' := HN g hl (RF rt)) rfl ?_
              refine Ev.ret (v := some (.int (nI 4294967283))) rfl ?_
              have hk : dc (okSh g t i o j n) = false := by
                exact dc_f (fun z => by unfold okSh at z; omega)
              unfold rs_shift ch_shift at hq
              rw [hk, if_neg (by decide)] at hq
              (repeat (first | rw [if_pos (by omega)] at hq | rw [if_neg (by omega)] at hq))
              exact hq
          · have hc61 : ¬ ((g 206 t) = (g 206 o)) := fun z => hc61 ((nI_eqU (by omega) (by omega)).mpr z)
            refine Ev.run 1 (pc' := 66) (lv' := [(7, .ref (154 + 2 * o)), (6, .ref (154 + 2 * t)), (0, .ref 0), (1, .int (nI t)), (2, .int (nI i)), (3, .int (nI o)), (4, .int (nI j)), (5, .int (nI n))]) (st' := [.int (nI 4294967284)]) (h' := HN g hl (RF rt)) rfl ?_
            refine Ev.ret (v := some (.int (nI 4294967284))) rfl ?_
            have hk : dc (okSh g t i o j n) = false := by
              exact dc_f (fun z => by unfold okSh at z; omega)
            unfold rs_shift ch_shift at hq
            rw [hk, if_neg (by decide)] at hq
            (repeat (first | rw [if_pos (by omega)] at hq | rw [if_neg (by omega)] at hq))
            exact hq
        · have hhb45 : ¬ (g 206 o < 2147483648) := of_decide_eq_false hb45
          refine Ev.run 2 (pc' := 50) (lv' := [(7, .ref (154 + 2 * o)), (6, .ref (154 + 2 * t)), (0, .ref 0), (1, .int (nI t)), (2, .int (nI i)), (3, .int (nI o)), (4, .int (nI j)), (5, .int (nI n))]) (st' := [.int (nI 4294967285)]) (h' := HN g hl (RF rt)) rfl ?_
          refine Ev.ret (v := some (.int (nI 4294967285))) rfl ?_
          have hk : dc (okSh g t i o j n) = false := by
            exact dc_f (fun z => by unfold okSh at z; omega)
          unfold rs_shift ch_shift at hq
          rw [hk, if_neg (by decide)] at hq
          (repeat (first | rw [if_pos (by omega)] at hq | rw [if_neg (by omega)] at hq))
          exact hq
      · have hhb37 : ¬ (g 206 t < 2147483648) := of_decide_eq_false hb37
        refine Ev.run 2 (pc' := 50) (lv' := [(7, .ref (154 + 2 * o)), (6, .ref (154 + 2 * t)), (0, .ref 0), (1, .int (nI t)), (2, .int (nI i)), (3, .int (nI o)), (4, .int (nI j)), (5, .int (nI n))]) (st' := [.int (nI 4294967285)]) (h' := HN g hl (RF rt)) rfl ?_
        refine Ev.ret (v := some (.int (nI 4294967285))) rfl ?_
        have hk : dc (okSh g t i o j n) = false := by
          exact dc_f (fun z => by unfold okSh at z; omega)
        unfold rs_shift ch_shift at hq
        rw [hk, if_neg (by decide)] at hq
        (repeat (first | rw [if_pos (by omega)] at hq | rw [if_neg (by omega)] at hq))
        exact hq
    · have hhb11 : ¬ (o ≤ 5) := of_decide_eq_false hb11
      refine Ev.run 2 (pc' := 15) (lv' := [(0, .ref 0), (1, .int (nI t)), (2, .int (nI i)), (3, .int (nI o)), (4, .int (nI j)), (5, .int (nI n))]) (st' := [.int (nI 4294967295)]) (h' := HN g hl (RF rt)) rfl ?_
      refine Ev.ret (v := some (.int (nI 4294967295))) rfl ?_
      have hk : dc (okSh g t i o j n) = false := by
        exact dc_f (fun z => by unfold okSh at z; omega)
      unfold rs_shift ch_shift at hq
      rw [hk, if_neg (by decide)] at hq
      (repeat (first | rw [if_pos (by omega)] at hq | rw [if_neg (by omega)] at hq))
      exact hq
  · have hhb4 : ¬ (t ≤ 5) := of_decide_eq_false hb4
    refine Ev.run 2 (pc' := 15) (lv' := [(0, .ref 0), (1, .int (nI t)), (2, .int (nI i)), (3, .int (nI o)), (4, .int (nI j)), (5, .int (nI n))]) (st' := [.int (nI 4294967295)]) (h' := HN g hl (RF rt)) rfl ?_
    refine Ev.ret (v := some (.int (nI 4294967295))) rfl ?_
    have hk : dc (okSh g t i o j n) = false := by
      exact dc_f (fun z => by unfold okSh at z; omega)
    unfold rs_shift ch_shift at hq
    rw [hk, if_neg (by decide)] at hq
    (repeat (first | rw [if_pos (by omega)] at hq | rw [if_neg (by omega)] at hq))
    exact hq
theorem nI_sizeS {k s i : Nat} (hk : k ≤ 12) (hs : s ≤ 60) (hi : i < 2147483648) : nI k < nI s - nI i ↔ i + k < s := by
  have e1 : (nI s - nI i).toInt = (s : Int) - i := by
    rw [Int32.toInt_sub, nI_tI (show s < 2 ^ 32 by omega), nI_tI (show i < 2 ^ 32 by omega), if_pos (by omega), if_pos (by omega), Int.bmod_eq_of_le (by omega) (by omega)]
  rw [Int32.lt_iff_toInt_lt, e1, nI_tI (show k < 2 ^ 32 by omega), if_pos (by omega)]
  omega
theorem K_judge {L : Nat} {xs : Nat → Int32} (d : Nat) (g : Nat → Nat → Nat) (hl : Nat → Nat → Int64) (rt : Nat × Nat × Nat × Nat) (hV : Inv g hl rt) (t : Nat) (i : Nat) (ht : t < 2 ^ 32) (hi : i < 2 ^ 32) {Q : Po} (hq : Q (some (.int (nI (rs_judge g hl t i)))) (HN g hl (RF rt))) : Ev L xs (d + 2) 104 0 [(0, .ref 0), (1, .int (nI t)), (2, .int (nI i))] [] (HN g hl (RF rt)) Q := by
  have hI := hV.mi
  have hW := hI.hW
  have hS := hI.hS
  have hPl := hI.hPl
  have hNx := hI.hNx
  have hLa := hI.hLa
  have hLo := hI.hLo
  have hTb := hI.hTb
  have hTh := hI.hTh
  have hFd := hI.hFd
  have hSn := hI.hSn
  have hSh := hI.hSh
  have hRan := hI.hRan
  have hLr := hI.hLr
  have hLt := hI.hLt
  have hgl := hI.hgl
  have hsz := hI.hsz
  have hcm := hI.hcm
  have hsl := hI.hsl
  have hkd := hI.hkd
  have hvv := hI.hvv
  have hli := hI.hli
  have hro := hI.hro
  have hrw := hI.hrw
  have htx := hI.htx
  have hsw := hI.hsw
  have hsx := hI.hsx
  have hsy := hI.hsy
  have hsh := hI.hsh
  have hle := hI.hle
  have hcl := hI.hcl
  have hwd := hI.hwd
  have hnu := hI.hnu
  have hwn := hI.hwn
  have hs1 := hI.hs1
  have hso := hI.hso
  have hB := hV.gm.cb
  have hB0 := hB.1
  have hPs := hV.gm.cs
  have hsp1 := hV.sp.1
  have htx1 := hV.tx.1
  have h451 := hV.gm.rx.1
  have h442 := hV.gm.rx.2.2.2.1
  have h443 := hV.gm.rx.2.2.2.2
  have h481 := hV.gm.l48.1
  have h501 := hV.gm.l50.1
  have h521 := hV.gm.l52.1
  have h541 := hV.gm.l54.1
  have h04 := hV.tb.1
  have hac1 := hV.ac.1
  have hac2 := hV.ac.2.1
  have hPl0 := hV.gm.cp
  have hle2 := hle
  have hso2 := hso
  have hlet := hle t
  have hsot := hso t
  refine Ev.run 1 (pc' := 1) (lv' := [(0, .ref 0), (1, .int (nI t)), (2, .int (nI i))]) (st' := [.int (nI t)]) (h' := HN g hl (RF rt)) rfl ?_
  refine Ev.call (a := 119) (as := [.int (nI t)]) (rest := []) (lv0 := [(0, .int (nI t))]) (Q1 := (fun z0 h' => z0 = some (.int (nI (bn (decide (t ≤ 5))))) ∧ h' = HN g hl (RF rt))) rfl rfl (K_isTape _ _ _ _ t (by omega) ⟨rfl, rfl⟩) (fun r h' hr => ?_)
  obtain ⟨rfl, rfl⟩ := hr
  refine Ev_bn (fun hb4 => ?_) (fun hb4 => ?_)
  · have hhb4 : t ≤ 5 := of_decide_eq_true hb4
    refine Ev.run 4 (pc' := 14) (lv' := [(0, .ref 0), (1, .int (nI t)), (2, .int (nI i))]) (st' := [.int (nI t), .ref 135]) (h' := HN g hl (RF rt)) rfl ?_
    refine Ev_aald (c := (154 + 2 * t)) rfl (by decide) rfl (show t < 6 by omega) (Nat.le_of_ble_eq_true rfl) (rf_tp rt (show t < 6 by omega)).2 ?_
    refine Ev.run 2 (pc' := 17) (lv' := [(3, .ref (154 + 2 * t)), (0, .ref 0), (1, .int (nI t)), (2, .int (nI i))]) (st' := [.ref (154 + 2 * t)]) (h' := HN g hl (RF rt)) rfl ?_
    refine Ev_callV (a := 71) (as := [.ref (154 + 2 * t)]) (rest := []) (lv0 := [(0, .ref (154 + 2 * t))]) (Q1 := (fun z0 h' => z0 = some (.int (nI (bn (decide (g 206 t < 2147483648))))) ∧ h' = HN g hl (RF rt))) rfl rfl rfl rfl rfl (kcT (show t < 6 by omega)).k rfl rfl rfl (K_holds _ _ _ _ hV t (by omega) ⟨rfl, rfl⟩) (fun r h' hr => ?_)
    obtain ⟨rfl, rfl⟩ := hr
    refine Ev_bn (fun hb20 => ?_) (fun hb20 => ?_)
    · have hhb20 : g 206 t < 2147483648 := of_decide_eq_true hb20
      refine Ev.run 2 (pc' := 24) (lv' := [(3, .ref (154 + 2 * t)), (0, .ref 0), (1, .int (nI t)), (2, .int (nI i))]) (st' := [.ref (154 + 2 * t)]) (h' := HN g hl (RF rt)) rfl ?_
      refine Ev_gfI rfl rfl rfl (kcT (show t < 6 by omega)) ?_
      refine Ev.topI (congrArg nI ((hV.tp t (by omega)).1)) ?_
      refine Ev.run 1 (pc' := (if nI (g 206 t) = 0 then 33 else 30)) (lv' := [(3, .ref (154 + 2 * t)), (0, .ref 0), (1, .int (nI t)), (2, .int (nI i))]) (st' := []) (h' := HN g hl (RF rt)) rfl ?_
      refine Ev.ite (fun hc27 => ?_) (fun hc27 => ?_)
      · have hc27 : (g 206 t) = 0 := (nI_eqU0 (by omega)).mp hc27
        refine Ev.run 7 (pc' := 48) (lv' := [(5, .int (nI 0)), (4, .ref 45), (3, .ref (154 + 2 * t)), (0, .ref 0), (1, .int (nI t)), (2, .int (nI i))]) (st' := []) (h' := HN g hl (RF rt)) rfl ?_
        have hj : Q (some (.int (nI (jgF g hl t i (g 166 9 - 0) 0)))) (HN g hl (RF rt)) := by
          unfold rs_judge at hq
          rw [if_pos (by omega), if_neg (by omega)] at hq
          exact hq
        clear hq
        revert hj
        refine for_ind (g 166 9) (fun k => Q (some (.int (nI (jgF g hl t i (g 166 9 - k) k)))) (HN g hl (RF rt)) → Ev L xs (d + 2) 104 48 [(5, .int (nI k)), (4, .ref 45), (3, .ref (154 + 2 * t)), (0, .ref 0), (1, .int (nI t)), (2, .int (nI i))] [] (HN g hl (RF rt)) Q) (fun k hk hnext => ?_) 0 (Nat.zero_le _)
        intro hj
        have hrwk := hrw k
        refine Ev.run 4 (pc' := (if nI (g 45 1) ≤ nI k then 109 else 58)) (lv' := [(5, .int (nI k)), (4, .ref 45), (3, .ref (154 + 2 * t)), (0, .ref 0), (1, .int (nI t)), (2, .int (nI i))]) (st' := []) (h' := HN g hl (RF rt)) rfl ?_
        refine Ev.ite (fun hc55 => ?_) (fun hc55 => ?_)
        · have hc55 : (g 45 1) ≤ k := (nI_leI (by omega) (by omega)).mp hc55
          refine Ev.run 1 (pc' := 111) (lv' := [(5, .int (nI k)), (4, .ref 45), (3, .ref (154 + 2 * t)), (0, .ref 0), (1, .int (nI t)), (2, .int (nI i))]) (st' := [.int (nI 4294967291)]) (h' := HN g hl (RF rt)) rfl ?_
          refine Ev.ret (v := some (.int (nI 4294967291))) rfl ?_
          rw [show g 166 9 - k = 0 by omega] at hj
          exact hj
        · have hc55 : ¬ ((g 45 1) ≤ k) := fun z => hc55 ((nI_leI (by omega) (by omega)).mpr z)
          refine Ev.run 2 (pc' := (if nI i < 0 then 73 else 62)) (lv' := [(5, .int (nI k)), (4, .ref 45), (3, .ref (154 + 2 * t)), (0, .ref 0), (1, .int (nI t)), (2, .int (nI i))]) (st' := []) (h' := HN g hl (RF rt)) rfl ?_
          refine Ev.ite (fun hc59 => ?_) (fun hc59 => ?_)
          · have hc59 : 2147483648 ≤ i := (nI_ltU0 (by omega)).mp hc59
            refine Ev.run 3 (pc' := 78) (lv' := [(5, .int (nI k)), (4, .ref 45), (3, .ref (154 + 2 * t)), (0, .ref 0), (1, .int (nI t)), (2, .int (nI i))]) (st' := [.int (nI 100 + nI k)]) (h' := HN g hl (RF rt)) rfl ?_
            refine Ev.topI (nI_add _ _) ?_
            refine Ev.ret (v := some (.int (nI (100 + k)))) rfl ?_
            rw [show g 166 9 - k = (g 166 9 - (k + 1)) + 1 by omega] at hj
            unfold jgF at hj
            rw [if_neg (by omega)] at hj
            exact hj
          · have hc59 : ¬ (2147483648 ≤ i) := fun z => hc59 ((nI_ltU0 (by omega)).mpr z)
            refine Ev.run 2 (pc' := 65) (lv' := [(5, .int (nI k)), (4, .ref 45), (3, .ref (154 + 2 * t)), (0, .ref 0), (1, .int (nI t)), (2, .int (nI i))]) (st' := [.ref (154 + 2 * t), .int (nI k)]) (h' := HN g hl (RF rt)) rfl ?_
            refine Ev_gfI rfl rfl rfl (kcT (show t < 6 by omega)) ?_
            refine Ev.topI (congrArg nI ((hV.tp t (by omega)).2.1)) ?_
            refine Ev.run 3 (pc' := (if nI k < (nI (g 207 t) - nI i) then 79 else 73)) (lv' := [(5, .int (nI k)), (4, .ref 45), (3, .ref (154 + 2 * t)), (0, .ref 0), (1, .int (nI t)), (2, .int (nI i))]) (st' := []) (h' := HN g hl (RF rt)) rfl ?_
            refine Ev.ite (fun hc70 => ?_) (fun hc70 => ?_)
            · have hc70 : i + k < g 207 t := (nI_sizeS (by omega) (by omega) (by omega)).mp hc70
              have hit : hl (154 + 2 * t + 1) (i + k) = hl 208 (60 * t + i + k) := by
                rw [(hV.tp t (by omega)).2.2.2 (i + k) (by omega), Nat.add_assoc]
              refine Ev.run 1 (pc' := 80) (lv' := [(5, .int (nI k)), (4, .ref 45), (3, .ref (154 + 2 * t)), (0, .ref 0), (1, .int (nI t)), (2, .int (nI i))]) (st' := [.ref (154 + 2 * t)]) (h' := HN g hl (RF rt)) rfl ?_
              refine Ev_gfR rfl rfl rfl (kcT (show t < 6 by omega)) (rf_tp rt (show t < 6 by omega)).1 ?_
              refine Ev.run 3 (pc' := 87) (lv' := [(5, .int (nI k)), (4, .ref 45), (3, .ref (154 + 2 * t)), (0, .ref 0), (1, .int (nI t)), (2, .int (nI i))]) (st' := [.int (nI i + nI k), .ref (154 + 2 * t + 1)]) (h' := HN g hl (RF rt)) rfl ?_
              refine Ev.topI (nI_add _ _) ?_
              refine Ev_lald rfl (kcU (show t < 6 by omega)).k (show _ < _ by rw [(kcU (show t < 6 by omega)).n]; omega) (by rw [(kcU (show t < 6 by omega)).n]; omega) ?_
              refine Ev.run 2 (pc' := 92) (lv' := [(5, .int (nI k)), (4, .ref 45), (3, .ref (154 + 2 * t)), (0, .ref 0), (1, .int (nI t)), (2, .int (nI i))]) (st' := [.int (nI k), .ref 45, .long (hl (154 + 2 * t + 1) (i + k))]) (h' := HN g hl (RF rt)) rfl ?_
              refine Ev.call (a := 44) (as := [.ref 45, .int (nI k)]) (rest := [.long (hl (154 + 2 * t + 1) (i + k))]) (lv0 := [(0, .ref 45), (1, .int (nI k))]) (Q1 := (fun z0 h' => z0 = some (.int (nI (g 175 k))) ∧ h' = HN g hl (RF rt))) rfl rfl (K_at _ _ _ _ 45 12 (ln45 rt) k (by omega) (by omega) ⟨congrArg (fun z => some (Value.int (nI z))) (show atLn g 45 k = g 175 k by rw [atE ⟨hV.gm.rx.1, hV.gm.rx.2.1⟩, if_pos (by omega)]), rfl⟩) (fun r h' hr => ?_)
              obtain ⟨rfl, rfl⟩ := hr
              refine Ev.run 3 (pc' := (if (lg_cmp (hl (154 + 2 * t + 1) (i + k)) ((nI (g 175 k)).toInt64)) = 0 then 103 else 100)) (lv' := [(5, .int (nI k)), (4, .ref 45), (3, .ref (154 + 2 * t)), (0, .ref 0), (1, .int (nI t)), (2, .int (nI i))]) (st' := []) (h' := HN g hl (RF rt)) rfl ?_
              refine Ev.ite (fun hc97 => ?_) (fun hc97 => ?_)
              · have hc97 : hl (154 + 2 * t + 1) (i + k) = (nI (g 175 k)).toInt64 := (lg_cmp_eq _ _).mp hc97
                refine Ev.run 1 (pc' := 106) (lv' := [(5, .int (nI k + 1)), (4, .ref 45), (3, .ref (154 + 2 * t)), (0, .ref 0), (1, .int (nI t)), (2, .int (nI i))]) (st' := []) (h' := HN g hl (RF rt)) rfl ?_
                refine Ev.lvE (congrArg (fun z => (5, Value.int z) :: [(4, .ref 45), (3, .ref (154 + 2 * t)), (0, .ref 0), (1, .int (nI t)), (2, .int (nI i))]) (nI_1 _)) ?_
                refine Ev.run 1 (pc' := 48) (lv' := [(5, .int (nI (k + 1))), (4, .ref 45), (3, .ref (154 + 2 * t)), (0, .ref 0), (1, .int (nI t)), (2, .int (nI i))]) (st' := []) (h' := HN g hl (RF rt)) rfl ?_
                have hx := hnext (by omega)
                rw [jgF_s (by omega) ⟨by have := (hV.tp t (by omega)).2.2.1; omega, by omega, by omega⟩ (by rw [← hit]; exact hc97)] at hj
                exact Ev.wk (Ext.cons rfl rfl (Ext.cons rfl rfl (Ext.cons rfl rfl (Ext.cons rfl rfl (Ext.cons rfl rfl (Ext.cons rfl rfl (Ext.nil rfl))))))) (hx hj)
              · have hc97 : ¬ (hl (154 + 2 * t + 1) (i + k) = (nI (g 175 k)).toInt64) := fun z => hc97 ((lg_cmp_eq _ _).mpr z)
                refine Ev.run 1 (pc' := 102) (lv' := [(5, .int (nI k)), (4, .ref 45), (3, .ref (154 + 2 * t)), (0, .ref 0), (1, .int (nI t)), (2, .int (nI i))]) (st' := [.int (nI k)]) (h' := HN g hl (RF rt)) rfl ?_
                refine Ev.ret (v := some (.int (nI k))) rfl ?_
                rw [show g 166 9 - k = (g 166 9 - (k + 1)) + 1 by omega] at hj
                unfold jgF at hj
                rw [if_pos ⟨by have := (hV.tp t (by omega)).2.2.1; omega, by omega, by omega⟩, if_neg (by rw [← hit]; exact hc97)] at hj
                exact hj
            · have hc70 : ¬ (i + k < g 207 t) := fun z => hc70 ((nI_sizeS (by omega) (by omega) (by omega)).mpr z)
              refine Ev.run 3 (pc' := 78) (lv' := [(5, .int (nI k)), (4, .ref 45), (3, .ref (154 + 2 * t)), (0, .ref 0), (1, .int (nI t)), (2, .int (nI i))]) (st' := [.int (nI 100 + nI k)]) (h' := HN g hl (RF rt)) rfl ?_
              refine Ev.topI (nI_add _ _) ?_
              refine Ev.ret (v := some (.int (nI (100 + k)))) rfl ?_
              rw [show g 166 9 - k = (g 166 9 - (k + 1)) + 1 by omega] at hj
              unfold jgF at hj
              rw [if_neg (by omega)] at hj
              exact hj
      · have hc27 : ¬ ((g 206 t) = 0) := fun z => hc27 ((nI_eqU0 (by omega)).mpr z)
        refine Ev.run 1 (pc' := 32) (lv' := [(3, .ref (154 + 2 * t)), (0, .ref 0), (1, .int (nI t)), (2, .int (nI i))]) (st' := [.int (nI 4294967284)]) (h' := HN g hl (RF rt)) rfl ?_
        refine Ev.ret (v := some (.int (nI 4294967284))) rfl ?_
        unfold rs_judge at hq
        (repeat (first | rw [if_pos (by omega)] at hq | rw [if_neg (by omega)] at hq))
        exact hq
    · have hhb20 : ¬ (g 206 t < 2147483648) := of_decide_eq_false hb20
      refine Ev.run 8 (pc' := 48) (lv' := [(5, .int (nI 0)), (4, .ref 45), (3, .ref (154 + 2 * t)), (0, .ref 0), (1, .int (nI t)), (2, .int (nI i))]) (st' := []) (h' := HN g hl (RF rt)) rfl ?_
      have hj : Q (some (.int (nI (jgF g hl t i (g 166 9 - 0) 0)))) (HN g hl (RF rt)) := by
        unfold rs_judge at hq
        rw [if_pos (by omega), if_neg (by omega)] at hq
        exact hq
      clear hq
      revert hj
      refine for_ind (g 166 9) (fun k => Q (some (.int (nI (jgF g hl t i (g 166 9 - k) k)))) (HN g hl (RF rt)) → Ev L xs (d + 2) 104 48 [(5, .int (nI k)), (4, .ref 45), (3, .ref (154 + 2 * t)), (0, .ref 0), (1, .int (nI t)), (2, .int (nI i))] [] (HN g hl (RF rt)) Q) (fun k hk hnext => ?_) 0 (Nat.zero_le _)
      intro hj
      have hrwk := hrw k
      refine Ev.run 4 (pc' := (if nI (g 45 1) ≤ nI k then 109 else 58)) (lv' := [(5, .int (nI k)), (4, .ref 45), (3, .ref (154 + 2 * t)), (0, .ref 0), (1, .int (nI t)), (2, .int (nI i))]) (st' := []) (h' := HN g hl (RF rt)) rfl ?_
      refine Ev.ite (fun hc55 => ?_) (fun hc55 => ?_)
      · have hc55 : (g 45 1) ≤ k := (nI_leI (by omega) (by omega)).mp hc55
        refine Ev.run 1 (pc' := 111) (lv' := [(5, .int (nI k)), (4, .ref 45), (3, .ref (154 + 2 * t)), (0, .ref 0), (1, .int (nI t)), (2, .int (nI i))]) (st' := [.int (nI 4294967291)]) (h' := HN g hl (RF rt)) rfl ?_
        refine Ev.ret (v := some (.int (nI 4294967291))) rfl ?_
        rw [show g 166 9 - k = 0 by omega] at hj
        exact hj
      · have hc55 : ¬ ((g 45 1) ≤ k) := fun z => hc55 ((nI_leI (by omega) (by omega)).mpr z)
        refine Ev.run 2 (pc' := (if nI i < 0 then 73 else 62)) (lv' := [(5, .int (nI k)), (4, .ref 45), (3, .ref (154 + 2 * t)), (0, .ref 0), (1, .int (nI t)), (2, .int (nI i))]) (st' := []) (h' := HN g hl (RF rt)) rfl ?_
        refine Ev.ite (fun hc59 => ?_) (fun hc59 => ?_)
        · have hc59 : 2147483648 ≤ i := (nI_ltU0 (by omega)).mp hc59
          refine Ev.run 3 (pc' := 78) (lv' := [(5, .int (nI k)), (4, .ref 45), (3, .ref (154 + 2 * t)), (0, .ref 0), (1, .int (nI t)), (2, .int (nI i))]) (st' := [.int (nI 100 + nI k)]) (h' := HN g hl (RF rt)) rfl ?_
          refine Ev.topI (nI_add _ _) ?_
          refine Ev.ret (v := some (.int (nI (100 + k)))) rfl ?_
          rw [show g 166 9 - k = (g 166 9 - (k + 1)) + 1 by omega] at hj
          unfold jgF at hj
          rw [if_neg (by omega)] at hj
          exact hj
        · have hc59 : ¬ (2147483648 ≤ i) := fun z => hc59 ((nI_ltU0 (by omega)).mpr z)
          refine Ev.run 2 (pc' := 65) (lv' := [(5, .int (nI k)), (4, .ref 45), (3, .ref (154 + 2 * t)), (0, .ref 0), (1, .int (nI t)), (2, .int (nI i))]) (st' := [.ref (154 + 2 * t), .int (nI k)]) (h' := HN g hl (RF rt)) rfl ?_
          refine Ev_gfI rfl rfl rfl (kcT (show t < 6 by omega)) ?_
          refine Ev.topI (congrArg nI ((hV.tp t (by omega)).2.1)) ?_
          refine Ev.run 3 (pc' := (if nI k < (nI (g 207 t) - nI i) then 79 else 73)) (lv' := [(5, .int (nI k)), (4, .ref 45), (3, .ref (154 + 2 * t)), (0, .ref 0), (1, .int (nI t)), (2, .int (nI i))]) (st' := []) (h' := HN g hl (RF rt)) rfl ?_
          refine Ev.ite (fun hc70 => ?_) (fun hc70 => ?_)
          · have hc70 : i + k < g 207 t := (nI_sizeS (by omega) (by omega) (by omega)).mp hc70
            have hit : hl (154 + 2 * t + 1) (i + k) = hl 208 (60 * t + i + k) := by
              rw [(hV.tp t (by omega)).2.2.2 (i + k) (by omega), Nat.add_assoc]
            refine Ev.run 1 (pc' := 80) (lv' := [(5, .int (nI k)), (4, .ref 45), (3, .ref (154 + 2 * t)), (0, .ref 0), (1, .int (nI t)), (2, .int (nI i))]) (st' := [.ref (154 + 2 * t)]) (h' := HN g hl (RF rt)) rfl ?_
            refine Ev_gfR rfl rfl rfl (kcT (show t < 6 by omega)) (rf_tp rt (show t < 6 by omega)).1 ?_
            refine Ev.run 3 (pc' := 87) (lv' := [(5, .int (nI k)), (4, .ref 45), (3, .ref (154 + 2 * t)), (0, .ref 0), (1, .int (nI t)), (2, .int (nI i))]) (st' := [.int (nI i + nI k), .ref (154 + 2 * t + 1)]) (h' := HN g hl (RF rt)) rfl ?_
            refine Ev.topI (nI_add _ _) ?_
            refine Ev_lald rfl (kcU (show t < 6 by omega)).k (show _ < _ by rw [(kcU (show t < 6 by omega)).n]; omega) (by rw [(kcU (show t < 6 by omega)).n]; omega) ?_
            refine Ev.run 2 (pc' := 92) (lv' := [(5, .int (nI k)), (4, .ref 45), (3, .ref (154 + 2 * t)), (0, .ref 0), (1, .int (nI t)), (2, .int (nI i))]) (st' := [.int (nI k), .ref 45, .long (hl (154 + 2 * t + 1) (i + k))]) (h' := HN g hl (RF rt)) rfl ?_
            refine Ev.call (a := 44) (as := [.ref 45, .int (nI k)]) (rest := [.long (hl (154 + 2 * t + 1) (i + k))]) (lv0 := [(0, .ref 45), (1, .int (nI k))]) (Q1 := (fun z0 h' => z0 = some (.int (nI (g 175 k))) ∧ h' = HN g hl (RF rt))) rfl rfl (K_at _ _ _ _ 45 12 (ln45 rt) k (by omega) (by omega) ⟨congrArg (fun z => some (Value.int (nI z))) (show atLn g 45 k = g 175 k by rw [atE ⟨hV.gm.rx.1, hV.gm.rx.2.1⟩, if_pos (by omega)]), rfl⟩) (fun r h' hr => ?_)
            obtain ⟨rfl, rfl⟩ := hr
            refine Ev.run 3 (pc' := (if (lg_cmp (hl (154 + 2 * t + 1) (i + k)) ((nI (g 175 k)).toInt64)) = 0 then 103 else 100)) (lv' := [(5, .int (nI k)), (4, .ref 45), (3, .ref (154 + 2 * t)), (0, .ref 0), (1, .int (nI t)), (2, .int (nI i))]) (st' := []) (h' := HN g hl (RF rt)) rfl ?_
            refine Ev.ite (fun hc97 => ?_) (fun hc97 => ?_)
            · have hc97 : hl (154 + 2 * t + 1) (i + k) = (nI (g 175 k)).toInt64 := (lg_cmp_eq _ _).mp hc97
              refine Ev.run 1 (pc' := 106) (lv' := [(5, .int (nI k + 1)), (4, .ref 45), (3, .ref (154 + 2 * t)), (0, .ref 0), (1, .int (nI t)), (2, .int (nI i))]) (st' := []) (h' := HN g hl (RF rt)) rfl ?_
              refine Ev.lvE (congrArg (fun z => (5, Value.int z) :: [(4, .ref 45), (3, .ref (154 + 2 * t)), (0, .ref 0), (1, .int (nI t)), (2, .int (nI i))]) (nI_1 _)) ?_
              refine Ev.run 1 (pc' := 48) (lv' := [(5, .int (nI (k + 1))), (4, .ref 45), (3, .ref (154 + 2 * t)), (0, .ref 0), (1, .int (nI t)), (2, .int (nI i))]) (st' := []) (h' := HN g hl (RF rt)) rfl ?_
              have hx := hnext (by omega)
              rw [jgF_s (by omega) ⟨by have := (hV.tp t (by omega)).2.2.1; omega, by omega, by omega⟩ (by rw [← hit]; exact hc97)] at hj
              exact Ev.wk (Ext.cons rfl rfl (Ext.cons rfl rfl (Ext.cons rfl rfl (Ext.cons rfl rfl (Ext.cons rfl rfl (Ext.cons rfl rfl (Ext.nil rfl))))))) (hx hj)
            · have hc97 : ¬ (hl (154 + 2 * t + 1) (i + k) = (nI (g 175 k)).toInt64) := fun z => hc97 ((lg_cmp_eq _ _).mpr z)
              refine Ev.run 1 (pc' := 102) (lv' := [(5, .int (nI k)), (4, .ref 45), (3, .ref (154 + 2 * t)), (0, .ref 0), (1, .int (nI t)), (2, .int (nI i))]) (st' := [.int (nI k)]) (h' := HN g hl (RF rt)) rfl ?_
              refine Ev.ret (v := some (.int (nI k))) rfl ?_
              rw [show g 166 9 - k = (g 166 9 - (k + 1)) + 1 by omega] at hj
              unfold jgF at hj
              rw [if_pos ⟨by have := (hV.tp t (by omega)).2.2.1; omega, by omega, by omega⟩, if_neg (by rw [← hit]; exact hc97)] at hj
              exact hj
          · have hc70 : ¬ (i + k < g 207 t) := fun z => hc70 ((nI_sizeS (by omega) (by omega) (by omega)).mpr z)
            refine Ev.run 3 (pc' := 78) (lv' := [(5, .int (nI k)), (4, .ref 45), (3, .ref (154 + 2 * t)), (0, .ref 0), (1, .int (nI t)), (2, .int (nI i))]) (st' := [.int (nI 100 + nI k)]) (h' := HN g hl (RF rt)) rfl ?_
            refine Ev.topI (nI_add _ _) ?_
            refine Ev.ret (v := some (.int (nI (100 + k)))) rfl ?_
            rw [show g 166 9 - k = (g 166 9 - (k + 1)) + 1 by omega] at hj
            unfold jgF at hj
            rw [if_neg (by omega)] at hj
            exact hj
  · have hhb4 : ¬ (t ≤ 5) := of_decide_eq_false hb4
    refine Ev.run 2 (pc' := 8) (lv' := [(0, .ref 0), (1, .int (nI t)), (2, .int (nI i))]) (st' := [.int (nI 4294967295)]) (h' := HN g hl (RF rt)) rfl ?_
    refine Ev.ret (v := some (.int (nI 4294967295))) rfl ?_
    unfold rs_judge at hq
    (repeat (first | rw [if_pos (by omega)] at hq | rw [if_neg (by omega)] at hq))
    exact hq
