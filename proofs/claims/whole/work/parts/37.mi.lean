/-! the reference: fractions, what is looked at, who is out -/
theorem gcd_ok {a b : Nat} (hb : 0 < b) : 0 < Nat.gcd a b ∧ Nat.gcd a b ≤ b := ⟨Nat.gcd_pos_of_pos_right a hb, Nat.gcd_le_right a hb⟩
theorem C_lowest {L : Nat} {xs : Nat → Int32} (d : Nat) (g : Nat → Nat → Nat) (hl : Nat → Nat → Int64) (rt : Nat × Nat × Nat × Nat) (a b part : Nat) (ha : a < 2 ^ 31) (hb0 : 0 < b) (hb : b < 2 ^ 31) (hp : part < 2 ^ 32) {Q : Po} (hq : Q (some (.long (Int64.ofNat (lwS1 a b part)))) (HN g hl (RF rt))) : Ev L xs (d + 1) 215 0 [(0, .ref 166), (1, .int (nI a)), (2, .int (nI b)), (3, .int (nI part))] [] (HN g hl (RF rt)) Q := by
  refine Ev.run 3 (pc' := 3) (lv' := [(0, .ref 166), (1, .int (nI a)), (2, .int (nI b)), (3, .int (nI part))]) (st' := [.int (nI b), .int (nI a), .ref 166]) (h' := HN g hl (RF rt)) rfl ?_
  refine Ev.call (a := 214) (as := [.ref 166, .int (nI a), .int (nI b)]) (rest := []) (lv0 := [(0, .ref 166), (1, .int (nI a)), (2, .int (nI b))]) (Q1 := (fun z0 h' => z0 = some (.int (nI (Nat.gcd a b))) ∧ h' = HN g hl (RF rt))) rfl rfl (C_divisor _ _ _ _ a b (by omega) (by omega) ⟨rfl, rfl⟩) (fun r h' hr => ?_)
  obtain ⟨rfl, rfl⟩ := hr
  have hgo := gcd_ok (a := a) hb0
  have hda := Nat.div_le_self a (Nat.gcd a b)
  have hdb := Nat.div_le_self b (Nat.gcd a b)
  refine Ev.run 3 (pc' := (if nI part = 0 then 12 else 20)) (lv' := [(4, .int (nI (Nat.gcd a b))), (0, .ref 166), (1, .int (nI a)), (2, .int (nI b)), (3, .int (nI part))]) (st' := []) (h' := HN g hl (RF rt)) rfl ?_
  refine Ev.ite (fun hc9 => ?_) (fun hc9 => ?_)
  · have hc9 : part = 0 := (nI_eqU0 (by omega)).mp hc9
    refine Ev.run 2 (pc' := 15) (lv' := [(4, .int (nI (Nat.gcd a b))), (0, .ref 166), (1, .int (nI a)), (2, .int (nI b)), (3, .int (nI part))]) (st' := [.int (nI (Nat.gcd a b)), .int (nI a)]) (h' := HN g hl (RF rt)) rfl ?_
    refine Ev_idiv rfl (by omega) (by omega) (by omega) ?_
    refine Ev.run 1 (pc' := 17) (lv' := [(4, .int (nI (Nat.gcd a b))), (0, .ref 166), (1, .int (nI a)), (2, .int (nI b)), (3, .int (nI part))]) (st' := [.long ((nI (a / (Nat.gcd a b))).toInt64)]) (h' := HN g hl (RF rt)) rfl ?_
    refine Ev.topL (nI_i2l (by omega)) ?_
    refine Ev.run 1 (pc' := 25) (lv' := [(4, .int (nI (Nat.gcd a b))), (0, .ref 166), (1, .int (nI a)), (2, .int (nI b)), (3, .int (nI part))]) (st' := [.long (Int64.ofNat (a / (Nat.gcd a b)))]) (h' := HN g hl (RF rt)) rfl ?_
    refine Ev.ret (v := some (.long (Int64.ofNat (a / (Nat.gcd a b))))) rfl ?_
    simp only [lwS1, if_pos hc9] at hq
    exact hq
  · have hc9 : ¬ (part = 0) := fun z => hc9 ((nI_eqU0 (by omega)).mpr z)
    refine Ev.run 2 (pc' := 23) (lv' := [(4, .int (nI (Nat.gcd a b))), (0, .ref 166), (1, .int (nI a)), (2, .int (nI b)), (3, .int (nI part))]) (st' := [.int (nI (Nat.gcd a b)), .int (nI b)]) (h' := HN g hl (RF rt)) rfl ?_
    refine Ev_idiv rfl (by omega) (by omega) (by omega) ?_
    refine Ev.run 1 (pc' := 25) (lv' := [(4, .int (nI (Nat.gcd a b))), (0, .ref 166), (1, .int (nI a)), (2, .int (nI b)), (3, .int (nI part))]) (st' := [.long ((nI (b / (Nat.gcd a b))).toInt64)]) (h' := HN g hl (RF rt)) rfl ?_
    refine Ev.topL (nI_i2l (by omega)) ?_
    refine Ev.ret (v := some (.long (Int64.ofNat (b / (Nat.gcd a b))))) rfl ?_
    simp only [lwS1, if_neg hc9] at hq
    exact hq
noncomputable def smF (K : Nat → Nat → Nat) : Nat → Nat
  | 0 => 0
  | n + 1 => smF K n + itG (n + 1) K 166 9
theorem itG_c {g : Nat → Nat → Nat} : ∀ (n : Nat), itG 1 (itG n g) = itG (n + 1) g := by
  intro n
  induction n generalizing g with
  | zero => rfl
  | succ n ih =>
    show itG 1 (if alS g = 0 then g else itG n (plG g 4294967295)) = (if alS g = 0 then g else itG (n + 1) (plG g 4294967295))
    by_cases h : alS g = 0
    · rw [if_pos h, if_pos h, itG_0 h]
    · rw [if_neg h, if_neg h]; exact ih
theorem smF_le {K : Nat → Nat → Nat} (h : MI K) : ∀ n, smF K n ≤ 12 * n := by
  intro n
  induction n with
  | zero => exact Nat.le_refl _
  | succ n ih =>
    have := (MI.mitG (n + 1) h).hLo
    show smF K n + itG (n + 1) K 166 9 ≤ 12 * (n + 1)
    omega
noncomputable def rs_mean (g K : Nat → Nat → Nat) (n part : Nat) : Nat := if 1 ≤ n ∧ n ≤ 60 then (if part ≤ 1 then lwS1 (smF K n) n part else 9223372036854775808) else 9223372036854775808
theorem C_mean {L : Nat} {xs : Nat → Int32} (d : Nat) (g : Nat → Nat → Nat) (hl : Nat → Nat → Int64) (rt : Nat × Nat × Nat × Nat) (hI : MI g) (hK : KW g) (n : Nat) (part : Nat) (hn : n < 2 ^ 32) (hpart : part < 2 ^ 32) (r w v : Nat → Nat) (hs : SmH g r v)  {Q : Po} (hq : ∀ (g1 : Nat → Nat → Nat) (r' w' v' : Nat → Nat), Cy g g1 → SmH g r' v' → Q (some (.long (Int64.ofNat (rs_mean g (kpU g r) n part)))) (HN (U g1 r' w' v') hl (RF rt))) : Ev L xs (d + 12) 217 0 [(0, .ref 166), (1, .int (nI n)), (2, .int (nI part))] [] (HN (U g r w v) hl (RF rt)) Q := by
  have hW := hI.hW
  have hS := hI.hS
  have hPl := hI.hPl
  have hNx := hI.hNx
  have hLa := hI.hLa
  have hLo := hI.hLo
  have hTb := hI.hTb
  have hTh := hI.hTh
  have hFd := hI.hFd
  have hSn := hI.hSn
  have hSh := hI.hSh
  have hRan := hI.hRan
  have hLr := hI.hLr
  have hLt := hI.hLt
  have hgl := hI.hgl
  have hsz := hI.hsz
  have hcm := hI.hcm
  have hsl := hI.hsl
  have hkd := hI.hkd
  have hvv := hI.hvv
  have hli := hI.hli
  have hro := hI.hro
  have hrw := hI.hrw
  have htx := hI.htx
  have hsw := hI.hsw
  have hsx := hI.hsx
  have hsy := hI.hsy
  have hsh := hI.hsh
  have hle := hI.hle
  have hcl := hI.hcl
  have hwd := hI.hwd
  have hnu := hI.hnu
  have hwn := hI.hwn
  have hs1 := hI.hs1
  have hso := hI.hso
  refine Ev.run 4 (pc' := 5) (lv' := [(0, .ref 166), (1, .int (nI n)), (2, .int (nI part))]) (st' := [.int (nI 60), .int (nI 1), .int (nI n), .ref 166]) (h' := HN (U g r w v) hl (RF rt)) rfl ?_
  refine Ev.call (a := 126) (as := [.ref 166, .int (nI n), .int (nI 1), .int (nI 60)]) (rest := []) (lv0 := [(0, .ref 166), (1, .int (nI n)), (2, .int (nI 1)), (3, .int (nI 60))]) (Q1 := (fun z0 h' => z0 = some (.int (nI (bn (decide (1 ≤ n ∧ n ≤ 60))))) ∧ h' = HN (U g r w v) hl (RF rt))) rfl rfl (C_in _ _ _ _ (nI n) (nI 1) (nI 60) (by rw [in1b (by omega) (by omega)]; exact ⟨rfl, rfl⟩)) (fun r h' hr => ?_)
  obtain ⟨rfl, rfl⟩ := hr
  refine Ev_bn (fun hb8 => ?_) (fun hb8 => ?_)
  · have hhb8 : 1 ≤ n ∧ n ≤ 60 := of_decide_eq_true hb8
    refine Ev.run 5 (pc' := 15) (lv' := [(0, .ref 166), (1, .int (nI n)), (2, .int (nI part))]) (st' := [.int (nI 1), .int (nI 0), .int (nI part), .ref 166]) (h' := HN (U g r w v) hl (RF rt)) rfl ?_
    refine Ev.call (a := 126) (as := [.ref 166, .int (nI part), .int (nI 0), .int (nI 1)]) (rest := []) (lv0 := [(0, .ref 166), (1, .int (nI part)), (2, .int (nI 0)), (3, .int (nI 1))]) (Q1 := (fun z0 h' => z0 = some (.int (nI (bn (decide (part ≤ 1))))) ∧ h' = HN (U g r w v) hl (RF rt))) rfl rfl (C_in _ _ _ _ (nI part) (nI 0) (nI 1) (by rw [in0 (by omega) (by omega)]; exact ⟨rfl, rfl⟩)) (fun r h' hr => ?_)
    obtain ⟨rfl, rfl⟩ := hr
    refine Ev_bn (fun hb18 => ?_) (fun hb18 => ?_)
    · have hhb18 : part ≤ 1 := of_decide_eq_true hb18
      refine Ev.run 2 (pc' := 26) (lv' := [(0, .ref 166), (1, .int (nI n)), (2, .int (nI part))]) (st' := [.ref 166]) (h' := HN (U g r w v) hl (RF rt)) rfl ?_
      refine Ev.call (a := 197) (as := [.ref 166]) (rest := []) (lv0 := [(0, .ref 166)]) (Q1 := (fun z0 h' => z0 = none ∧ h' = HN (U (kpU g r) r w v) hl (RF rt))) rfl rfl (C_keep _ _ _ _ (hI.mU hs) ⟨rfl, congrArg (fun z => HN z hl (RF rt)) (U_kp g r w v)⟩) (fun r h' hr => ?_)
      obtain ⟨rfl, rfl⟩ := hr
      have hIk := hI.mkpU r
      have hKk := hK.cx (Cx.ckp g r)
      have hsk := hs.skp r
      have hct := Cq.refl (kpU g r)
      refine Ev.run 4 (pc' := 34) (lv' := [(4, .int (nI 0)), (3, .int (nI 0)), (0, .ref 166), (1, .int (nI n)), (2, .int (nI part))]) (st' := []) (h' := HN (U (kpU g r) r w v) hl (RF rt)) rfl ?_
      refine for_ind n (fun k => ∀ (rG wG vG : Nat → Nat), SmH (itG k (kpU g r)) rG vG → True → Ev L xs (d + 12) 217 34 [(4, .int (nI k)), (3, .int (nI (smF (kpU g r) k))), (0, .ref 166), (1, .int (nI n)), (2, .int (nI part))] [] (HN (U (itG k (kpU g r)) rG wG vG) hl (RF rt)) Q) (fun k hk hnext => ?_) 0 (Nat.zero_le _) r w v hsk trivial
      intro rG wG vG hsG _
      have hKG := hKk.cx (Ct.titG k (kpU g r)).cx
      have hctG := (Ct.titG k (kpU g r)).cq
      have hsm := smF_le hIk k
      have hlk := (MI.mitG 1 (MI.mitG k hIk)).hLo
      refine Ev.run 3 (pc' := (if nI n ≤ nI k then 58 else 40)) (lv' := [(4, .int (nI k)), (3, .int (nI (smF (kpU g r) k))), (0, .ref 166), (1, .int (nI n)), (2, .int (nI part))]) (st' := []) (h' := HN (U (itG k (kpU g r)) rG wG vG) hl (RF rt)) rfl ?_
      refine Ev.ite (fun hc37 => ?_) (fun hc37 => ?_)
      · have hc37 : n ≤ k := (nI_leI (by omega) (by omega)).mp hc37
        refine Ev.run 1 (pc' := 59) (lv' := [(4, .int (nI k)), (3, .int (nI (smF (kpU g r) k))), (0, .ref 166), (1, .int (nI n)), (2, .int (nI part))]) (st' := [.ref 166]) (h' := HN (U (itG k (kpU g r)) rG wG vG) hl (RF rt)) rfl ?_
        refine Ev.call (a := 198) (as := [.ref 166]) (rest := []) (lv0 := [(0, .ref 166)]) (Q1 := (fun z0 h' => z0 = none ∧ h' = HN (U (pbB g (itG k (kpU g r))) (pbR r rG) wG vG) hl (RF rt))) rfl rfl (C_putBack _ _ _ _ ((MI.mitG k hIk).mU hsG) ⟨rfl, congrArg (fun z => HN z hl (RF rt)) (pb_U hctG rG wG vG)⟩) (fun r h' hr => ?_)
        obtain ⟨rfl, rfl⟩ := hr
        have hcy := Cy.pb hctG
        have hsb := hs.spb hsG hLo
        refine Ev.run 4 (pc' := 66) (lv' := [(4, .int (nI k)), (3, .int (nI (smF (kpU g r) k))), (0, .ref 166), (1, .int (nI n)), (2, .int (nI part))]) (st' := [.int (nI part), .int (nI n), .int (nI (smF (kpU g r) k)), .ref 166]) (h' := HN (U (pbB g (itG k (kpU g r))) (pbR r rG) wG vG) hl (RF rt)) rfl ?_
        refine Ev.call (a := 215) (as := [.ref 166, .int (nI (smF (kpU g r) k)), .int (nI n), .int (nI part)]) (rest := []) (lv0 := [(0, .ref 166), (1, .int (nI (smF (kpU g r) k))), (2, .int (nI n)), (3, .int (nI part))]) (Q1 := (fun z0 h' => z0 = some (.long (Int64.ofNat (lwS1 (smF (kpU g r) k) n part))) ∧ h' = HN (U (pbB g (itG k (kpU g r))) (pbR r rG) wG vG) hl (RF rt))) rfl rfl (C_lowest _ _ _ _ (smF (kpU g r) k) n part (by omega) (by omega) (by omega) (by omega) ⟨rfl, rfl⟩) (fun r h' hr => ?_)
        obtain ⟨rfl, rfl⟩ := hr
        refine Ev.ret (v := some (.long (Int64.ofNat (lwS1 (smF (kpU g r) k) n part)))) rfl ?_
        have hx := hq (pbB g (itG k (kpU g r))) (pbR r rG) wG vG hcy hsb
        unfold rs_mean at hx
        rw [if_pos (by omega), if_pos (by omega)] at hx
        have hkn : k = n := by omega
        rw [show smF (kpU g r) n = smF (kpU g r) k by rw [hkn]] at hx
        exact hx
      · have hc37 : ¬ (n ≤ k) := fun z => hc37 ((nI_leI (by omega) (by omega)).mpr z)
        refine Ev.run 2 (pc' := 42) (lv' := [(4, .int (nI k)), (3, .int (nI (smF (kpU g r) k))), (0, .ref 166), (1, .int (nI n)), (2, .int (nI part))]) (st' := [.int (nI 1), .ref 166]) (h' := HN (U (itG k (kpU g r)) rG wG vG) hl (RF rt)) rfl ?_
        refine Ev.call (a := 199) (as := [.ref 166, .int (nI 1)]) (rest := []) (lv0 := [(0, .ref 166), (1, .int (nI 1))]) (Q1 := (fun z0 h' => ∃ r1 w1 v1, SmH (itG 1 (itG k (kpU g r))) r1 v1 ∧ z0 = none ∧ h' = HN (U (itG 1 (itG k (kpU g r))) r1 w1 v1) hl (RF rt))) rfl rfl (C_goTurns _ _ _ _ (MI.mitG k hIk) hKG 1 (by omega)  rG wG vG hsG (fun r w v h => ⟨r, w, v, h, rfl, rfl⟩)) (fun r h' hr => ?_)
        obtain ⟨r88, w88, v88, hs88, rfl, rfl⟩ := hr
        have hI89 : MI (itG 1 (itG k (kpU g r))) := MI.mitG 1 (MI.mitG k hIk)
        have hK90 : KW (itG 1 (itG k (kpU g r))) := hKG.cx (Ct.titG _ _).cx
        have hct91 := hctG.trans (Ct.titG 1 (itG k (kpU g r))).cq
        have hP6 : (itG 1 (itG k (kpU g r))) 166 6 = g 166 6 := hct91.2 6 (by decide) (by decide) (by decide) (by decide) (by decide) (by decide)
        refine Ev.run 4 (pc' := 51) (lv' := [(4, .int (nI k)), (3, .int (nI (smF (kpU g r) k))), (0, .ref 166), (1, .int (nI n)), (2, .int (nI part))]) (st' := [.int (nI (smF (kpU g r) k) + nI ((itG 1 (itG k (kpU g r))) 166 9))]) (h' := HN (U (itG 1 (itG k (kpU g r))) r88 w88 v88) hl (RF rt)) rfl ?_
        refine Ev.topI (nI_add _ _) ?_
        refine Ev.run 2 (pc' := 55) (lv' := [(4, .int (nI k + 1)), (3, .int (nI ((smF (kpU g r) k) + ((itG 1 (itG k (kpU g r))) 166 9)))), (0, .ref 166), (1, .int (nI n)), (2, .int (nI part))]) (st' := []) (h' := HN (U (itG 1 (itG k (kpU g r))) r88 w88 v88) hl (RF rt)) rfl ?_
        refine Ev.lvE (congrArg (fun z => (4, Value.int z) :: [(3, .int (nI ((smF (kpU g r) k) + ((itG 1 (itG k (kpU g r))) 166 9)))), (0, .ref 166), (1, .int (nI n)), (2, .int (nI part))]) (nI_1 _)) ?_
        refine Ev.run 1 (pc' := 34) (lv' := [(4, .int (nI (k + 1))), (3, .int (nI ((smF (kpU g r) k) + ((itG 1 (itG k (kpU g r))) 166 9)))), (0, .ref 166), (1, .int (nI n)), (2, .int (nI part))]) (st' := []) (h' := HN (U (itG 1 (itG k (kpU g r))) r88 w88 v88) hl (RF rt)) rfl ?_
        rw [itG_c]
        have hx := hnext (by omega) r88 w88 v88 (by rw [← itG_c]; exact hs88) trivial
        exact Ev.wk (Ext.cons rfl rfl (Ext.cons rfl rfl (Ext.cons rfl rfl (Ext.cons rfl rfl (Ext.cons rfl rfl (Ext.nil rfl)))))) hx
    · have hhb18 : ¬ (part ≤ 1) := of_decide_eq_false hb18
      refine Ev.run 2 (pc' := 24) (lv' := [(0, .ref 166), (1, .int (nI n)), (2, .int (nI part))]) (st' := [.long (Int64.ofNat 9223372036854775808)]) (h' := HN (U g r w v) hl (RF rt)) rfl ?_
      refine Ev.ret (v := some (.long (Int64.ofNat 9223372036854775808))) rfl ?_
      have hx := hq g r w v (Cy.refl g) hs
      unfold rs_mean at hx
      first | (rw [if_neg (by omega)] at hx; exact hx) | (rw [if_pos (by omega), if_neg (by omega)] at hx; exact hx)
  · have hhb8 : ¬ (1 ≤ n ∧ n ≤ 60) := of_decide_eq_false hb8
    refine Ev.run 2 (pc' := 24) (lv' := [(0, .ref 166), (1, .int (nI n)), (2, .int (nI part))]) (st' := [.long (Int64.ofNat 9223372036854775808)]) (h' := HN (U g r w v) hl (RF rt)) rfl ?_
    refine Ev.ret (v := some (.long (Int64.ofNat 9223372036854775808))) rfl ?_
    have hx := hq g r w v (Cy.refl g) hs
    unfold rs_mean at hx
    first | (rw [if_neg (by omega)] at hx; exact hx) | (rw [if_pos (by omega), if_neg (by omega)] at hx; exact hx)
noncomputable def ouF (K : Nat → Nat → Nat) (P : Nat) : Nat → Nat → Nat
  | 0, k => k
  | f + 1, k => if foS (itG k K 173) 4294967291 P < 2147483648 then k else if P = 0 then k else ouF K P f (k + 1)
noncomputable def rs_out (g K : Nat → Nat → Nat) (x : Nat) : Nat := if x ≤ 1 then (if foS (itG (ouF K (g 166 6) 60 0) K 173) 4294967291 (g 166 6) < 2147483648 then (if x = 0 then foS (itG (ouF K (g 166 6) 60 0) K 173) 4294967291 (g 166 6) else ouF K (g 166 6) 60 0) else foS (itG (ouF K (g 166 6) 60 0) K 173) 4294967291 (g 166 6)) else 4294967295
theorem ouF_s {K : Nat → Nat → Nat} {P k : Nat} (hk : k < 60) (h1 : ¬ foS (itG k K 173) 4294967291 P < 2147483648) (h2 : ¬ P = 0) : ouF K P (60 - k) k = ouF K P (60 - (k + 1)) (k + 1) := by
  rw [show 60 - k = (60 - (k + 1)) + 1 by omega]
  show (if _ then _ else _) = _
  rw [if_neg h1, if_neg h2]
theorem ouF_e {K : Nat → Nat → Nat} {P k : Nat} (hk : k ≤ 60) (h1 : k = 60 ∨ foS (itG k K 173) 4294967291 P < 2147483648 ∨ P = 0) : ouF K P (60 - k) k = k := by
  by_cases e : k = 60
  · rw [e]; rfl
  · rw [show 60 - k = (60 - (k + 1)) + 1 by omega]
    show (if _ then _ else _) = _
    by_cases h : foS (itG k K 173) 4294967291 P < 2147483648
    · rw [if_pos h]
    · rw [if_neg h, if_pos (by rcases h1 with z | z | z <;> first | exact z | (exfalso; omega))]
theorem foF_le (lv : Nat → Nat) (e P : Nat) : ∀ f k, k + f ≤ P → foF lv e f k < P ∨ foF lv e f k = e := by
  intro f
  induction f with
  | zero => intro k _; exact Or.inr rfl
  | succ f ih =>
    intro k h
    unfold foF
    split
    · exact Or.inl (by omega)
    · exact ih (k + 1) (by omega)
theorem foS_le (lv : Nat → Nat) (e P : Nat) : foS lv e P < P ∨ foS lv e P = e := foF_le lv e P P 0 (by omega)
theorem C_out {L : Nat} {xs : Nat → Int32} (d : Nat) (g : Nat → Nat → Nat) (hl : Nat → Nat → Int64) (rt : Nat × Nat × Nat × Nat) (hI : MI g) (hK : KW g) (x : Nat) (hx : x < 2 ^ 32) (r w v : Nat → Nat) (hs : SmH g r v)  {Q : Po} (hq : ∀ (g1 : Nat → Nat → Nat) (r' w' v' : Nat → Nat), Cy g g1 → SmH g r' v' → Q (some (.int (nI (rs_out g (kpU g r) x)))) (HN (U g1 r' w' v') hl (RF rt))) : Ev L xs (d + 12) 208 0 [(0, .ref 166), (1, .int (nI x))] [] (HN (U g r w v) hl (RF rt)) Q := by
  have hW := hI.hW
  have hS := hI.hS
  have hPl := hI.hPl
  have hNx := hI.hNx
  have hLa := hI.hLa
  have hLo := hI.hLo
  have hTb := hI.hTb
  have hTh := hI.hTh
  have hFd := hI.hFd
  have hSn := hI.hSn
  have hSh := hI.hSh
  have hRan := hI.hRan
  have hLr := hI.hLr
  have hLt := hI.hLt
  have hgl := hI.hgl
  have hsz := hI.hsz
  have hcm := hI.hcm
  have hsl := hI.hsl
  have hkd := hI.hkd
  have hvv := hI.hvv
  have hli := hI.hli
  have hro := hI.hro
  have hrw := hI.hrw
  have htx := hI.htx
  have hsw := hI.hsw
  have hsx := hI.hsx
  have hsy := hI.hsy
  have hsh := hI.hsh
  have hle := hI.hle
  have hcl := hI.hcl
  have hwd := hI.hwd
  have hnu := hI.hnu
  have hwn := hI.hwn
  have hs1 := hI.hs1
  have hso := hI.hso
  refine Ev.run 4 (pc' := 4) (lv' := [(0, .ref 166), (1, .int (nI x))]) (st' := [.int (nI 1), .int (nI 0), .int (nI x), .ref 166]) (h' := HN (U g r w v) hl (RF rt)) rfl ?_
  refine Ev.call (a := 126) (as := [.ref 166, .int (nI x), .int (nI 0), .int (nI 1)]) (rest := []) (lv0 := [(0, .ref 166), (1, .int (nI x)), (2, .int (nI 0)), (3, .int (nI 1))]) (Q1 := (fun z0 h' => z0 = some (.int (nI (bn (decide (x ≤ 1))))) ∧ h' = HN (U g r w v) hl (RF rt))) rfl rfl (C_in _ _ _ _ (nI x) (nI 0) (nI 1) (by rw [in0 (by omega) (by omega)]; exact ⟨rfl, rfl⟩)) (fun r h' hr => ?_)
  obtain ⟨rfl, rfl⟩ := hr
  refine Ev_bn (fun hb7 => ?_) (fun hb7 => ?_)
  · have hhb7 : x ≤ 1 := of_decide_eq_true hb7
    refine Ev.run 2 (pc' := 13) (lv' := [(0, .ref 166), (1, .int (nI x))]) (st' := [.ref 166]) (h' := HN (U g r w v) hl (RF rt)) rfl ?_
    refine Ev.call (a := 197) (as := [.ref 166]) (rest := []) (lv0 := [(0, .ref 166)]) (Q1 := (fun z0 h' => z0 = none ∧ h' = HN (U (kpU g r) r w v) hl (RF rt))) rfl rfl (C_keep _ _ _ _ (hI.mU hs) ⟨rfl, congrArg (fun z => HN z hl (RF rt)) (U_kp g r w v)⟩) (fun r h' hr => ?_)
    obtain ⟨rfl, rfl⟩ := hr
    have hIk := hI.mkpU r
    have hKk := hK.cx (Cx.ckp g r)
    have hsk := hs.skp r
    have hct := Cq.refl (kpU g r)
    refine Ev.run 2 (pc' := 18) (lv' := [(2, .int (nI 0)), (0, .ref 166), (1, .int (nI x))]) (st' := []) (h' := HN (U (kpU g r) r w v) hl (RF rt)) rfl ?_
    refine for_ind 60 (fun k => ∀ (rG wG vG : Nat → Nat), SmH (itG k (kpU g r)) rG vG → ouF (kpU g r) (g 166 6) (60 - k) k = ouF (kpU g r) (g 166 6) 60 0 → Ev L xs (d + 12) 208 18 [(2, .int (nI k)), (0, .ref 166), (1, .int (nI x))] [] (HN (U (itG k (kpU g r)) rG wG vG) hl (RF rt)) Q) (fun k hk hnext => ?_) 0 (Nat.zero_le _) r w v hsk rfl
    intro rG wG vG hsG ha
    have hKG := hKk.cx (Ct.titG k (kpU g r)).cx
    have hctG := (Ct.titG k (kpU g r)).cq
    have hP6 : itG k (kpU g r) 166 6 = g 166 6 := (Ct.titG k (kpU g r)).2 6 (by decide) (by decide) (by decide) (by decide)
    have hfo := foS_le (itG k (kpU g r) 173) 4294967291 (g 166 6)
    refine Ev.run 3 (pc' := (if nI 60 ≤ nI k then 49 else 24)) (lv' := [(2, .int (nI k)), (0, .ref 166), (1, .int (nI x))]) (st' := []) (h' := HN (U (itG k (kpU g r)) rG wG vG) hl (RF rt)) rfl ?_
    refine Ev.ite (fun hc21 => ?_) (fun hc21 => ?_)
    · have hc21 : 60 ≤ k := (nI_leI (by omega) (by omega)).mp hc21
      refine Ev.run 1 (pc' := 50) (lv' := [(2, .int (nI k)), (0, .ref 166), (1, .int (nI x))]) (st' := [.ref 166]) (h' := HN (U (itG k (kpU g r)) rG wG vG) hl (RF rt)) rfl ?_
      refine Ev.call (a := 207) (as := [.ref 166]) (rest := []) (lv0 := [(0, .ref 166)]) (Q1 := (fun z0 h' => z0 = some (.int (nI (foS (itG k (kpU g r) 173) 4294967291 (g 166 6)))) ∧ h' = HN (U (itG k (kpU g r)) rG wG vG) hl (RF rt))) rfl rfl (C_firstOut _ _ _ _ ((MI.mitG k hIk).mU hsG) ⟨congrArg (fun z => some (Value.int (nI (foS (itG k (kpU g r) 173) 4294967291 z)))) hP6, rfl⟩) (fun r h' hr => ?_)
      obtain ⟨rfl, rfl⟩ := hr
      refine Ev.run 2 (pc' := 55) (lv' := [(3, .int (nI (foS (itG k (kpU g r) 173) 4294967291 (g 166 6)))), (2, .int (nI k)), (0, .ref 166), (1, .int (nI x))]) (st' := [.ref 166]) (h' := HN (U (itG k (kpU g r)) rG wG vG) hl (RF rt)) rfl ?_
      refine Ev.call (a := 198) (as := [.ref 166]) (rest := []) (lv0 := [(0, .ref 166)]) (Q1 := (fun z0 h' => z0 = none ∧ h' = HN (U (pbB g (itG k (kpU g r))) (pbR r rG) wG vG) hl (RF rt))) rfl rfl (C_putBack _ _ _ _ ((MI.mitG k hIk).mU hsG) ⟨rfl, congrArg (fun z => HN z hl (RF rt)) (pb_U hctG rG wG vG)⟩) (fun r h' hr => ?_)
      obtain ⟨rfl, rfl⟩ := hr
      have hcy := Cy.pb hctG
      have hsb := hs.spb hsG hLo
      refine Ev.run 2 (pc' := (if nI (foS (itG k (kpU g r) 173) 4294967291 (g 166 6)) < 0 then 66 else 62)) (lv' := [(3, .int (nI (foS (itG k (kpU g r) 173) 4294967291 (g 166 6)))), (2, .int (nI k)), (0, .ref 166), (1, .int (nI x))]) (st' := []) (h' := HN (U (pbB g (itG k (kpU g r))) (pbR r rG) wG vG) hl (RF rt)) rfl ?_
      refine Ev.ite (fun hc59 => ?_) (fun hc59 => ?_)
      · have hc59 : 2147483648 ≤ (foS (itG k (kpU g r) 173) 4294967291 (g 166 6)) := (nI_ltU0 (by omega)).mp hc59
        refine Ev.run 2 (pc' := 71) (lv' := [(3, .int (nI (foS (itG k (kpU g r) 173) 4294967291 (g 166 6)))), (2, .int (nI k)), (0, .ref 166), (1, .int (nI x))]) (st' := [.int (nI (foS (itG k (kpU g r) 173) 4294967291 (g 166 6)))]) (h' := HN (U (pbB g (itG k (kpU g r))) (pbR r rG) wG vG) hl (RF rt)) rfl ?_
        refine Ev.ret (v := some (.int (nI (foS (itG k (kpU g r) 173) 4294967291 (g 166 6))))) rfl ?_
        have hx := hq (pbB g (itG k (kpU g r))) (pbR r rG) wG vG hcy hsb
        unfold rs_out at hx
        rw [if_pos (by omega), ← ha, ouF_e (K := kpU g r) (P := g 166 6) hk (by omega)] at hx
        rw [if_neg (by omega)] at hx
        exact hx
      · have hc59 : ¬ (2147483648 ≤ (foS (itG k (kpU g r) 173) 4294967291 (g 166 6))) := fun z => hc59 ((nI_ltU0 (by omega)).mpr z)
        refine Ev.run 2 (pc' := (if nI x = 0 then 66 else 70)) (lv' := [(3, .int (nI (foS (itG k (kpU g r) 173) 4294967291 (g 166 6)))), (2, .int (nI k)), (0, .ref 166), (1, .int (nI x))]) (st' := []) (h' := HN (U (pbB g (itG k (kpU g r))) (pbR r rG) wG vG) hl (RF rt)) rfl ?_
        refine Ev.ite (fun hc63 => ?_) (fun hc63 => ?_)
        · have hc63 : x = 0 := (nI_eqU0 (by omega)).mp hc63
          refine Ev.run 2 (pc' := 71) (lv' := [(3, .int (nI (foS (itG k (kpU g r) 173) 4294967291 (g 166 6)))), (2, .int (nI k)), (0, .ref 166), (1, .int (nI x))]) (st' := [.int (nI (foS (itG k (kpU g r) 173) 4294967291 (g 166 6)))]) (h' := HN (U (pbB g (itG k (kpU g r))) (pbR r rG) wG vG) hl (RF rt)) rfl ?_
          refine Ev.ret (v := some (.int (nI (foS (itG k (kpU g r) 173) 4294967291 (g 166 6))))) rfl ?_
          have hx := hq (pbB g (itG k (kpU g r))) (pbR r rG) wG vG hcy hsb
          unfold rs_out at hx
          rw [if_pos (by omega), ← ha, ouF_e (K := kpU g r) (P := g 166 6) hk (by omega)] at hx
          rw [if_pos (by omega), if_pos hc63] at hx
          exact hx
        · have hc63 : ¬ (x = 0) := fun z => hc63 ((nI_eqU0 (by omega)).mpr z)
          refine Ev.run 1 (pc' := 71) (lv' := [(3, .int (nI (foS (itG k (kpU g r) 173) 4294967291 (g 166 6)))), (2, .int (nI k)), (0, .ref 166), (1, .int (nI x))]) (st' := [.int (nI k)]) (h' := HN (U (pbB g (itG k (kpU g r))) (pbR r rG) wG vG) hl (RF rt)) rfl ?_
          refine Ev.ret (v := some (.int (nI k))) rfl ?_
          have hx := hq (pbB g (itG k (kpU g r))) (pbR r rG) wG vG hcy hsb
          unfold rs_out at hx
          rw [if_pos (by omega), ← ha, ouF_e (K := kpU g r) (P := g 166 6) hk (by omega)] at hx
          rw [if_pos (by omega), if_neg hc63] at hx
          exact hx
    · have hc21 : ¬ (60 ≤ k) := fun z => hc21 ((nI_leI (by omega) (by omega)).mpr z)
      refine Ev.run 1 (pc' := 25) (lv' := [(2, .int (nI k)), (0, .ref 166), (1, .int (nI x))]) (st' := [.ref 166]) (h' := HN (U (itG k (kpU g r)) rG wG vG) hl (RF rt)) rfl ?_
      refine Ev.call (a := 207) (as := [.ref 166]) (rest := []) (lv0 := [(0, .ref 166)]) (Q1 := (fun z0 h' => z0 = some (.int (nI (foS (itG k (kpU g r) 173) 4294967291 (g 166 6)))) ∧ h' = HN (U (itG k (kpU g r)) rG wG vG) hl (RF rt))) rfl rfl (C_firstOut _ _ _ _ ((MI.mitG k hIk).mU hsG) ⟨congrArg (fun z => some (Value.int (nI (foS (itG k (kpU g r) 173) 4294967291 z)))) hP6, rfl⟩) (fun r h' hr => ?_)
      obtain ⟨rfl, rfl⟩ := hr
      refine Ev.run 1 (pc' := (if 0 ≤ nI (foS (itG k (kpU g r) 173) 4294967291 (g 166 6)) then 49 else 31)) (lv' := [(2, .int (nI k)), (0, .ref 166), (1, .int (nI x))]) (st' := []) (h' := HN (U (itG k (kpU g r)) rG wG vG) hl (RF rt)) rfl ?_
      refine Ev.ite (fun hc28 => ?_) (fun hc28 => ?_)
      · have hc28 : (foS (itG k (kpU g r) 173) 4294967291 (g 166 6)) < 2147483648 := (nI_geU0 (by omega)).mp hc28
        refine Ev.run 1 (pc' := 50) (lv' := [(2, .int (nI k)), (0, .ref 166), (1, .int (nI x))]) (st' := [.ref 166]) (h' := HN (U (itG k (kpU g r)) rG wG vG) hl (RF rt)) rfl ?_
        refine Ev.call (a := 207) (as := [.ref 166]) (rest := []) (lv0 := [(0, .ref 166)]) (Q1 := (fun z0 h' => z0 = some (.int (nI (foS (itG k (kpU g r) 173) 4294967291 (g 166 6)))) ∧ h' = HN (U (itG k (kpU g r)) rG wG vG) hl (RF rt))) rfl rfl (C_firstOut _ _ _ _ ((MI.mitG k hIk).mU hsG) ⟨congrArg (fun z => some (Value.int (nI (foS (itG k (kpU g r) 173) 4294967291 z)))) hP6, rfl⟩) (fun r h' hr => ?_)
        obtain ⟨rfl, rfl⟩ := hr
        refine Ev.run 2 (pc' := 55) (lv' := [(3, .int (nI (foS (itG k (kpU g r) 173) 4294967291 (g 166 6)))), (2, .int (nI k)), (0, .ref 166), (1, .int (nI x))]) (st' := [.ref 166]) (h' := HN (U (itG k (kpU g r)) rG wG vG) hl (RF rt)) rfl ?_
        refine Ev.call (a := 198) (as := [.ref 166]) (rest := []) (lv0 := [(0, .ref 166)]) (Q1 := (fun z0 h' => z0 = none ∧ h' = HN (U (pbB g (itG k (kpU g r))) (pbR r rG) wG vG) hl (RF rt))) rfl rfl (C_putBack _ _ _ _ ((MI.mitG k hIk).mU hsG) ⟨rfl, congrArg (fun z => HN z hl (RF rt)) (pb_U hctG rG wG vG)⟩) (fun r h' hr => ?_)
        obtain ⟨rfl, rfl⟩ := hr
        have hcy := Cy.pb hctG
        have hsb := hs.spb hsG hLo
        refine Ev.run 2 (pc' := (if nI (foS (itG k (kpU g r) 173) 4294967291 (g 166 6)) < 0 then 66 else 62)) (lv' := [(3, .int (nI (foS (itG k (kpU g r) 173) 4294967291 (g 166 6)))), (2, .int (nI k)), (0, .ref 166), (1, .int (nI x))]) (st' := []) (h' := HN (U (pbB g (itG k (kpU g r))) (pbR r rG) wG vG) hl (RF rt)) rfl ?_
        refine Ev.ite (fun hc59 => ?_) (fun hc59 => ?_)
        · have hc59 : 2147483648 ≤ (foS (itG k (kpU g r) 173) 4294967291 (g 166 6)) := (nI_ltU0 (by omega)).mp hc59
          refine Ev.run 2 (pc' := 71) (lv' := [(3, .int (nI (foS (itG k (kpU g r) 173) 4294967291 (g 166 6)))), (2, .int (nI k)), (0, .ref 166), (1, .int (nI x))]) (st' := [.int (nI (foS (itG k (kpU g r) 173) 4294967291 (g 166 6)))]) (h' := HN (U (pbB g (itG k (kpU g r))) (pbR r rG) wG vG) hl (RF rt)) rfl ?_
          refine Ev.ret (v := some (.int (nI (foS (itG k (kpU g r) 173) 4294967291 (g 166 6))))) rfl ?_
          have hx := hq (pbB g (itG k (kpU g r))) (pbR r rG) wG vG hcy hsb
          unfold rs_out at hx
          rw [if_pos (by omega), ← ha, ouF_e (K := kpU g r) (P := g 166 6) hk (by omega)] at hx
          rw [if_neg (by omega)] at hx
          exact hx
        · have hc59 : ¬ (2147483648 ≤ (foS (itG k (kpU g r) 173) 4294967291 (g 166 6))) := fun z => hc59 ((nI_ltU0 (by omega)).mpr z)
          refine Ev.run 2 (pc' := (if nI x = 0 then 66 else 70)) (lv' := [(3, .int (nI (foS (itG k (kpU g r) 173) 4294967291 (g 166 6)))), (2, .int (nI k)), (0, .ref 166), (1, .int (nI x))]) (st' := []) (h' := HN (U (pbB g (itG k (kpU g r))) (pbR r rG) wG vG) hl (RF rt)) rfl ?_
          refine Ev.ite (fun hc63 => ?_) (fun hc63 => ?_)
          · have hc63 : x = 0 := (nI_eqU0 (by omega)).mp hc63
            refine Ev.run 2 (pc' := 71) (lv' := [(3, .int (nI (foS (itG k (kpU g r) 173) 4294967291 (g 166 6)))), (2, .int (nI k)), (0, .ref 166), (1, .int (nI x))]) (st' := [.int (nI (foS (itG k (kpU g r) 173) 4294967291 (g 166 6)))]) (h' := HN (U (pbB g (itG k (kpU g r))) (pbR r rG) wG vG) hl (RF rt)) rfl ?_
            refine Ev.ret (v := some (.int (nI (foS (itG k (kpU g r) 173) 4294967291 (g 166 6))))) rfl ?_
            have hx := hq (pbB g (itG k (kpU g r))) (pbR r rG) wG vG hcy hsb
            unfold rs_out at hx
            rw [if_pos (by omega), ← ha, ouF_e (K := kpU g r) (P := g 166 6) hk (by omega)] at hx
            rw [if_pos (by omega), if_pos hc63] at hx
            exact hx
          · have hc63 : ¬ (x = 0) := fun z => hc63 ((nI_eqU0 (by omega)).mpr z)
            refine Ev.run 1 (pc' := 71) (lv' := [(3, .int (nI (foS (itG k (kpU g r) 173) 4294967291 (g 166 6)))), (2, .int (nI k)), (0, .ref 166), (1, .int (nI x))]) (st' := [.int (nI k)]) (h' := HN (U (pbB g (itG k (kpU g r))) (pbR r rG) wG vG) hl (RF rt)) rfl ?_
            refine Ev.ret (v := some (.int (nI k))) rfl ?_
            have hx := hq (pbB g (itG k (kpU g r))) (pbR r rG) wG vG hcy hsb
            unfold rs_out at hx
            rw [if_pos (by omega), ← ha, ouF_e (K := kpU g r) (P := g 166 6) hk (by omega)] at hx
            rw [if_pos (by omega), if_neg hc63] at hx
            exact hx
      · have hc28 : ¬ ((foS (itG k (kpU g r) 173) 4294967291 (g 166 6)) < 2147483648) := fun z => hc28 ((nI_geU0 (by omega)).mpr z)
        refine Ev.run 3 (pc' := (if nI ((itG k (kpU g r)) 166 6) ≤ 0 then 49 else 38)) (lv' := [(2, .int (nI k)), (0, .ref 166), (1, .int (nI x))]) (st' := []) (h' := HN (U (itG k (kpU g r)) rG wG vG) hl (RF rt)) rfl ?_
        refine Ev.ite (fun hc35 => ?_) (fun hc35 => ?_)
        · have hc35 : ((itG k (kpU g r)) 166 6) ≤ 0 := (nI_leI0 (by omega)).mp hc35
          refine Ev.run 1 (pc' := 50) (lv' := [(2, .int (nI k)), (0, .ref 166), (1, .int (nI x))]) (st' := [.ref 166]) (h' := HN (U (itG k (kpU g r)) rG wG vG) hl (RF rt)) rfl ?_
          refine Ev.call (a := 207) (as := [.ref 166]) (rest := []) (lv0 := [(0, .ref 166)]) (Q1 := (fun z0 h' => z0 = some (.int (nI (foS (itG k (kpU g r) 173) 4294967291 (g 166 6)))) ∧ h' = HN (U (itG k (kpU g r)) rG wG vG) hl (RF rt))) rfl rfl (C_firstOut _ _ _ _ ((MI.mitG k hIk).mU hsG) ⟨congrArg (fun z => some (Value.int (nI (foS (itG k (kpU g r) 173) 4294967291 z)))) hP6, rfl⟩) (fun r h' hr => ?_)
          obtain ⟨rfl, rfl⟩ := hr
          refine Ev.run 2 (pc' := 55) (lv' := [(3, .int (nI (foS (itG k (kpU g r) 173) 4294967291 (g 166 6)))), (2, .int (nI k)), (0, .ref 166), (1, .int (nI x))]) (st' := [.ref 166]) (h' := HN (U (itG k (kpU g r)) rG wG vG) hl (RF rt)) rfl ?_
          refine Ev.call (a := 198) (as := [.ref 166]) (rest := []) (lv0 := [(0, .ref 166)]) (Q1 := (fun z0 h' => z0 = none ∧ h' = HN (U (pbB g (itG k (kpU g r))) (pbR r rG) wG vG) hl (RF rt))) rfl rfl (C_putBack _ _ _ _ ((MI.mitG k hIk).mU hsG) ⟨rfl, congrArg (fun z => HN z hl (RF rt)) (pb_U hctG rG wG vG)⟩) (fun r h' hr => ?_)
          obtain ⟨rfl, rfl⟩ := hr
          have hcy := Cy.pb hctG
          have hsb := hs.spb hsG hLo
          refine Ev.run 2 (pc' := (if nI (foS (itG k (kpU g r) 173) 4294967291 (g 166 6)) < 0 then 66 else 62)) (lv' := [(3, .int (nI (foS (itG k (kpU g r) 173) 4294967291 (g 166 6)))), (2, .int (nI k)), (0, .ref 166), (1, .int (nI x))]) (st' := []) (h' := HN (U (pbB g (itG k (kpU g r))) (pbR r rG) wG vG) hl (RF rt)) rfl ?_
          refine Ev.ite (fun hc59 => ?_) (fun hc59 => ?_)
          · have hc59 : 2147483648 ≤ (foS (itG k (kpU g r) 173) 4294967291 (g 166 6)) := (nI_ltU0 (by omega)).mp hc59
            refine Ev.run 2 (pc' := 71) (lv' := [(3, .int (nI (foS (itG k (kpU g r) 173) 4294967291 (g 166 6)))), (2, .int (nI k)), (0, .ref 166), (1, .int (nI x))]) (st' := [.int (nI (foS (itG k (kpU g r) 173) 4294967291 (g 166 6)))]) (h' := HN (U (pbB g (itG k (kpU g r))) (pbR r rG) wG vG) hl (RF rt)) rfl ?_
            refine Ev.ret (v := some (.int (nI (foS (itG k (kpU g r) 173) 4294967291 (g 166 6))))) rfl ?_
            have hx := hq (pbB g (itG k (kpU g r))) (pbR r rG) wG vG hcy hsb
            unfold rs_out at hx
            rw [if_pos (by omega), ← ha, ouF_e (K := kpU g r) (P := g 166 6) hk (by omega)] at hx
            rw [if_neg (by omega)] at hx
            exact hx
          · have hc59 : ¬ (2147483648 ≤ (foS (itG k (kpU g r) 173) 4294967291 (g 166 6))) := fun z => hc59 ((nI_ltU0 (by omega)).mpr z)
            refine Ev.run 2 (pc' := (if nI x = 0 then 66 else 70)) (lv' := [(3, .int (nI (foS (itG k (kpU g r) 173) 4294967291 (g 166 6)))), (2, .int (nI k)), (0, .ref 166), (1, .int (nI x))]) (st' := []) (h' := HN (U (pbB g (itG k (kpU g r))) (pbR r rG) wG vG) hl (RF rt)) rfl ?_
            refine Ev.ite (fun hc63 => ?_) (fun hc63 => ?_)
            · have hc63 : x = 0 := (nI_eqU0 (by omega)).mp hc63
              refine Ev.run 2 (pc' := 71) (lv' := [(3, .int (nI (foS (itG k (kpU g r) 173) 4294967291 (g 166 6)))), (2, .int (nI k)), (0, .ref 166), (1, .int (nI x))]) (st' := [.int (nI (foS (itG k (kpU g r) 173) 4294967291 (g 166 6)))]) (h' := HN (U (pbB g (itG k (kpU g r))) (pbR r rG) wG vG) hl (RF rt)) rfl ?_
              refine Ev.ret (v := some (.int (nI (foS (itG k (kpU g r) 173) 4294967291 (g 166 6))))) rfl ?_
              have hx := hq (pbB g (itG k (kpU g r))) (pbR r rG) wG vG hcy hsb
              unfold rs_out at hx
              rw [if_pos (by omega), ← ha, ouF_e (K := kpU g r) (P := g 166 6) hk (by omega)] at hx
              rw [if_pos (by omega), if_pos hc63] at hx
              exact hx
            · have hc63 : ¬ (x = 0) := fun z => hc63 ((nI_eqU0 (by omega)).mpr z)
              refine Ev.run 1 (pc' := 71) (lv' := [(3, .int (nI (foS (itG k (kpU g r) 173) 4294967291 (g 166 6)))), (2, .int (nI k)), (0, .ref 166), (1, .int (nI x))]) (st' := [.int (nI k)]) (h' := HN (U (pbB g (itG k (kpU g r))) (pbR r rG) wG vG) hl (RF rt)) rfl ?_
              refine Ev.ret (v := some (.int (nI k))) rfl ?_
              have hx := hq (pbB g (itG k (kpU g r))) (pbR r rG) wG vG hcy hsb
              unfold rs_out at hx
              rw [if_pos (by omega), ← ha, ouF_e (K := kpU g r) (P := g 166 6) hk (by omega)] at hx
              rw [if_pos (by omega), if_neg hc63] at hx
              exact hx
        · have hc35 : ¬ (((itG k (kpU g r)) 166 6) ≤ 0) := fun z => hc35 ((nI_leI0 (by omega)).mpr z)
          refine Ev.run 2 (pc' := 40) (lv' := [(2, .int (nI k)), (0, .ref 166), (1, .int (nI x))]) (st' := [.int (nI 1), .ref 166]) (h' := HN (U (itG k (kpU g r)) rG wG vG) hl (RF rt)) rfl ?_
          refine Ev.call (a := 199) (as := [.ref 166, .int (nI 1)]) (rest := []) (lv0 := [(0, .ref 166), (1, .int (nI 1))]) (Q1 := (fun z0 h' => ∃ r1 w1 v1, SmH (itG 1 (itG k (kpU g r))) r1 v1 ∧ z0 = none ∧ h' = HN (U (itG 1 (itG k (kpU g r))) r1 w1 v1) hl (RF rt))) rfl rfl (C_goTurns _ _ _ _ (MI.mitG k hIk) hKG 1 (by omega)  rG wG vG hsG (fun r w v h => ⟨r, w, v, h, rfl, rfl⟩)) (fun r h' hr => ?_)
          obtain ⟨r92, w92, v92, hs92, rfl, rfl⟩ := hr
          have hI93 : MI (itG 1 (itG k (kpU g r))) := MI.mitG 1 (MI.mitG k hIk)
          have hK94 : KW (itG 1 (itG k (kpU g r))) := hKG.cx (Ct.titG _ _).cx
          have hct95 := hctG.trans (Ct.titG 1 (itG k (kpU g r))).cq
          have hP6 : (itG 1 (itG k (kpU g r))) 166 6 = g 166 6 := hct95.2 6 (by decide) (by decide) (by decide) (by decide) (by decide) (by decide)
          refine Ev.run 1 (pc' := 46) (lv' := [(2, .int (nI k + 1)), (0, .ref 166), (1, .int (nI x))]) (st' := []) (h' := HN (U (itG 1 (itG k (kpU g r))) r92 w92 v92) hl (RF rt)) rfl ?_
          refine Ev.lvE (congrArg (fun z => (2, Value.int z) :: [(0, .ref 166), (1, .int (nI x))]) (nI_1 _)) ?_
          refine Ev.run 1 (pc' := 18) (lv' := [(2, .int (nI (k + 1))), (0, .ref 166), (1, .int (nI x))]) (st' := []) (h' := HN (U (itG 1 (itG k (kpU g r))) r92 w92 v92) hl (RF rt)) rfl ?_
          rw [itG_c]
          have hx := hnext (by omega) r92 w92 v92 (by rw [← itG_c]; exact hs92) (by rw [← ouF_s (by omega) (by omega) (by omega)]; exact ha)
          exact Ev.wk (Ext.cons rfl rfl (Ext.cons rfl rfl (Ext.cons rfl rfl (Ext.nil rfl)))) hx
  · have hhb7 : ¬ (x ≤ 1) := of_decide_eq_false hb7
    refine Ev.run 2 (pc' := 11) (lv' := [(0, .ref 166), (1, .int (nI x))]) (st' := [.int (nI 4294967295)]) (h' := HN (U g r w v) hl (RF rt)) rfl ?_
    refine Ev.ret (v := some (.int (nI 4294967295))) rfl ?_
    have hx := hq g r w v (Cy.refl g) hs
    unfold rs_out at hx
    rw [if_neg (by omega)] at hx
    exact hx
noncomputable def lkF (S P : Nat) (sh : Nat → Nat) : Nat → Nat → (Nat → Nat → Nat) → Nat
  | 0, k, _ => k
  | f + 1, k, G => if S ≤ k then k else if alS G = 0 then k else if plG G 4294967295 166 36 < 2147483648 then (if plG G 4294967295 166 36 = sh k then lkF S P sh f (k + 1) (plG G 4294967295) else k) else lkF S P sh f k (plG G 4294967295)
noncomputable def rs_looked (g K : Nat → Nat → Nat) : Nat := if g 166 48 ≤ lkF (g 166 48) 0 (g 192) 60 0 K then 4294967291 else lkF (g 166 48) 0 (g 192) 60 0 K
theorem lkF_e {S P : Nat} {sh : Nat → Nat} {f k : Nat} {G : Nat → Nat → Nat} (h : f = 0 ∨ S ≤ k ∨ alS G = 0) : lkF S P sh f k G = k := by
  cases f with
  | zero => rfl
  | succ f =>
    unfold lkF
    by_cases h1 : S ≤ k
    · rw [if_pos h1]
    · rw [if_neg h1, if_pos (by rcases h with z | z | z <;> first | exact z | (exfalso; omega))]
theorem lkF_0 {S P : Nat} {sh : Nat → Nat} {t k : Nat} {G : Nat → Nat → Nat} (ht : t < 60) (h1 : ¬ S ≤ k) (h2 : ¬ alS G = 0) (h3 : ¬ plG G 4294967295 166 36 < 2147483648) : lkF S P sh (60 - t) k G = lkF S P sh (60 - (t + 1)) k (plG G 4294967295) := by
  rw [show 60 - t = (60 - (t + 1)) + 1 by omega]
  show (if _ then _ else _) = _
  rw [if_neg h1, if_neg h2, if_neg h3]
theorem lkF_1 {S P : Nat} {sh : Nat → Nat} {t k : Nat} {G : Nat → Nat → Nat} (ht : t < 60) (h1 : ¬ S ≤ k) (h2 : ¬ alS G = 0) (h3 : plG G 4294967295 166 36 < 2147483648) (h4 : plG G 4294967295 166 36 = sh k) : lkF S P sh (60 - t) k G = lkF S P sh (60 - (t + 1)) (k + 1) (plG G 4294967295) := by
  rw [show 60 - t = (60 - (t + 1)) + 1 by omega]
  show (if _ then _ else _) = _
  rw [if_neg h1, if_neg h2, if_pos h3, if_pos h4]
theorem lkF_2 {S P : Nat} {sh : Nat → Nat} {t k : Nat} {G : Nat → Nat → Nat} (ht : t < 60) (h1 : ¬ S ≤ k) (h2 : ¬ alS G = 0) (h3 : plG G 4294967295 166 36 < 2147483648) (h4 : ¬ plG G 4294967295 166 36 = sh k) : lkF S P sh (60 - t) k G = k := by
  rw [show 60 - t = (60 - (t + 1)) + 1 by omega]
  show (if _ then _ else _) = _
  rw [if_neg h1, if_neg h2, if_pos h3, if_neg h4]
theorem C_looked {L : Nat} {xs : Nat → Int32} (d : Nat) (g : Nat → Nat → Nat) (hl : Nat → Nat → Int64) (rt : Nat × Nat × Nat × Nat) (hI : MI g) (hK : KW g)  (r w v : Nat → Nat) (hs : SmH g r v)  {Q : Po} (hq : ∀ (g1 : Nat → Nat → Nat) (r' w' v' : Nat → Nat), Cy g g1 → SmH g r' v' → Q (some (.int (nI (rs_looked g (kpU g r))))) (HN (U g1 r' w' v') hl (RF rt))) : Ev L xs (d + 11) 219 0 [(0, .ref 166)] [] (HN (U g r w v) hl (RF rt)) Q := by
  have hW := hI.hW
  have hS := hI.hS
  have hPl := hI.hPl
  have hNx := hI.hNx
  have hLa := hI.hLa
  have hLo := hI.hLo
  have hTb := hI.hTb
  have hTh := hI.hTh
  have hFd := hI.hFd
  have hSn := hI.hSn
  have hSh := hI.hSh
  have hRan := hI.hRan
  have hLr := hI.hLr
  have hLt := hI.hLt
  have hgl := hI.hgl
  have hsz := hI.hsz
  have hcm := hI.hcm
  have hsl := hI.hsl
  have hkd := hI.hkd
  have hvv := hI.hvv
  have hli := hI.hli
  have hro := hI.hro
  have hrw := hI.hrw
  have htx := hI.htx
  have hsw := hI.hsw
  have hsx := hI.hsx
  have hsy := hI.hsy
  have hsh := hI.hsh
  have hle := hI.hle
  have hcl := hI.hcl
  have hwd := hI.hwd
  have hnu := hI.hnu
  have hwn := hI.hwn
  have hs1 := hI.hs1
  have hso := hI.hso
  refine Ev.run 1 (pc' := 1) (lv' := [(0, .ref 166)]) (st' := [.ref 166]) (h' := HN (U g r w v) hl (RF rt)) rfl ?_
  refine Ev.call (a := 197) (as := [.ref 166]) (rest := []) (lv0 := [(0, .ref 166)]) (Q1 := (fun z0 h' => z0 = none ∧ h' = HN (U (kpU g r) r w v) hl (RF rt))) rfl rfl (C_keep _ _ _ _ (hI.mU hs) ⟨rfl, congrArg (fun z => HN z hl (RF rt)) (U_kp g r w v)⟩) (fun r h' hr => ?_)
  obtain ⟨rfl, rfl⟩ := hr
  have hIk := hI.mkpU r
  have hKk := hK.cx (Cx.ckp g r)
  have hsk := hs.skp r
  have hct := Cq.refl (kpU g r)
  refine Ev.run 6 (pc' := 10) (lv' := [(3, .int (nI 0)), (2, .int (nI 1)), (1, .int (nI 0)), (0, .ref 166)]) (st' := []) (h' := HN (U (kpU g r) r w v) hl (RF rt)) rfl ?_
  generalize hF : lkF (g 166 48) 0 (g 192) 60 0 (kpU g r) = F
  refine for_ind 60 (fun t => ∀ (k : Nat) (G : Nat → Nat → Nat) (rG wG vG : Nat → Nat), MI G → KW G → SmH G rG vG → Cq (kpU g r) G → k ≤ t → F = lkF (g 166 48) 0 (g 192) (60 - t) k G → Ev L xs (d + 11) 219 10 [(3, .int (nI t)), (2, .int (nI 1)), (1, .int (nI k)), (0, .ref 166)] [] (HN (U G rG wG vG) hl (RF rt)) Q) (fun t ht hnext => ?_) 0 (Nat.zero_le _) 0 (kpU g r) r w v hIk hKk hsk hct (Nat.le_refl _) hF.symm
  intro k G rG wG vG hIG hKG hsG hctG hkt ha
  have h48 : G 166 48 = g 166 48 := hctG.2 48 (by decide) (by decide) (by decide) (by decide) (by decide) (by decide)
  have hsh48 : G 192 = g 192 := hctG.1 192 (by decide) (by decide) (by decide) (by decide) (by decide)
  refine Ev.run 3 (pc' := (if nI 60 ≤ nI t then 89 else 16)) (lv' := [(3, .int (nI t)), (2, .int (nI 1)), (1, .int (nI k)), (0, .ref 166)]) (st' := []) (h' := HN (U G rG wG vG) hl (RF rt)) rfl ?_
  refine Ev.ite (fun hc13 => ?_) (fun hc13 => ?_)
  · have hc13 : 60 ≤ t := (nI_leI (by omega) (by omega)).mp hc13
    refine Ev.run 1 (pc' := 90) (lv' := [(3, .int (nI t)), (2, .int (nI 1)), (1, .int (nI k)), (0, .ref 166)]) (st' := [.ref 166]) (h' := HN (U G rG wG vG) hl (RF rt)) rfl ?_
    refine Ev.call (a := 198) (as := [.ref 166]) (rest := []) (lv0 := [(0, .ref 166)]) (Q1 := (fun z0 h' => z0 = none ∧ h' = HN (U (pbB g G) (pbR r rG) wG vG) hl (RF rt))) rfl rfl (C_putBack _ _ _ _ (hIG.mU hsG) ⟨rfl, congrArg (fun z => HN z hl (RF rt)) (pb_U hctG rG wG vG)⟩) (fun r h' hr => ?_)
    obtain ⟨rfl, rfl⟩ := hr
    have hcy := Cy.pb hctG
    have hsb := hs.spb hsG hLo
    have hp48 : (pbB g G) 166 48 = g 166 48 := hcy.2.1 48 (by decide) (by decide) (by decide) (by decide) (by decide) (by decide)
    refine Ev.run 4 (pc' := (if nI ((pbB g G) 166 48) ≤ nI k then 105 else 101)) (lv' := [(3, .int (nI t)), (2, .int (nI 1)), (1, .int (nI k)), (0, .ref 166)]) (st' := []) (h' := HN (U (pbB g G) (pbR r rG) wG vG) hl (RF rt)) rfl ?_
    refine Ev.ite (fun hc98 => ?_) (fun hc98 => ?_)
    · have hc98 : ((pbB g G) 166 48) ≤ k := (nI_leI (by omega) (by omega)).mp hc98
      refine Ev.run 1 (pc' := 107) (lv' := [(3, .int (nI t)), (2, .int (nI 1)), (1, .int (nI k)), (0, .ref 166)]) (st' := [.int (nI 4294967291)]) (h' := HN (U (pbB g G) (pbR r rG) wG vG) hl (RF rt)) rfl ?_
      refine Ev.ret (v := some (.int (nI 4294967291))) rfl ?_
      have hx := hq (pbB g G) (pbR r rG) wG vG hcy hsb
      unfold rs_looked at hx
      rw [hF] at hx
      have hFe : F = k := by rw [ha]; exact lkF_e (by omega)
      rw [hFe] at hx
      rw [if_pos (by omega)] at hx
      exact hx
    · have hc98 : ¬ (((pbB g G) 166 48) ≤ k) := fun z => hc98 ((nI_leI (by omega) (by omega)).mpr z)
      refine Ev.run 2 (pc' := 107) (lv' := [(3, .int (nI t)), (2, .int (nI 1)), (1, .int (nI k)), (0, .ref 166)]) (st' := [.int (nI k)]) (h' := HN (U (pbB g G) (pbR r rG) wG vG) hl (RF rt)) rfl ?_
      refine Ev.ret (v := some (.int (nI k))) rfl ?_
      have hx := hq (pbB g G) (pbR r rG) wG vG hcy hsb
      unfold rs_looked at hx
      rw [hF] at hx
      have hFe : F = k := by rw [ha]; exact lkF_e (by omega)
      rw [hFe] at hx
      rw [if_neg (by omega)] at hx
      exact hx
  · have hc13 : ¬ (60 ≤ t) := fun z => hc13 ((nI_leI (by omega) (by omega)).mpr z)
    refine Ev.run 6 (pc' := (if nI (G 166 48) ≤ nI k then 89 else 28)) (lv' := [(3, .int (nI t)), (2, .int (nI 1)), (1, .int (nI k)), (0, .ref 166)]) (st' := []) (h' := HN (U G rG wG vG) hl (RF rt)) rfl ?_
    refine Ev.ite (fun hc25 => ?_) (fun hc25 => ?_)
    · have hc25 : (G 166 48) ≤ k := (nI_leI (by omega) (by omega)).mp hc25
      refine Ev.run 1 (pc' := 90) (lv' := [(3, .int (nI t)), (2, .int (nI 1)), (1, .int (nI k)), (0, .ref 166)]) (st' := [.ref 166]) (h' := HN (U G rG wG vG) hl (RF rt)) rfl ?_
      refine Ev.call (a := 198) (as := [.ref 166]) (rest := []) (lv0 := [(0, .ref 166)]) (Q1 := (fun z0 h' => z0 = none ∧ h' = HN (U (pbB g G) (pbR r rG) wG vG) hl (RF rt))) rfl rfl (C_putBack _ _ _ _ (hIG.mU hsG) ⟨rfl, congrArg (fun z => HN z hl (RF rt)) (pb_U hctG rG wG vG)⟩) (fun r h' hr => ?_)
      obtain ⟨rfl, rfl⟩ := hr
      have hcy := Cy.pb hctG
      have hsb := hs.spb hsG hLo
      have hp48 : (pbB g G) 166 48 = g 166 48 := hcy.2.1 48 (by decide) (by decide) (by decide) (by decide) (by decide) (by decide)
      refine Ev.run 4 (pc' := (if nI ((pbB g G) 166 48) ≤ nI k then 105 else 101)) (lv' := [(3, .int (nI t)), (2, .int (nI 1)), (1, .int (nI k)), (0, .ref 166)]) (st' := []) (h' := HN (U (pbB g G) (pbR r rG) wG vG) hl (RF rt)) rfl ?_
      refine Ev.ite (fun hc98 => ?_) (fun hc98 => ?_)
      · have hc98 : ((pbB g G) 166 48) ≤ k := (nI_leI (by omega) (by omega)).mp hc98
        refine Ev.run 1 (pc' := 107) (lv' := [(3, .int (nI t)), (2, .int (nI 1)), (1, .int (nI k)), (0, .ref 166)]) (st' := [.int (nI 4294967291)]) (h' := HN (U (pbB g G) (pbR r rG) wG vG) hl (RF rt)) rfl ?_
        refine Ev.ret (v := some (.int (nI 4294967291))) rfl ?_
        have hx := hq (pbB g G) (pbR r rG) wG vG hcy hsb
        unfold rs_looked at hx
        rw [hF] at hx
        have hFe : F = k := by rw [ha]; exact lkF_e (by omega)
        rw [hFe] at hx
        rw [if_pos (by omega)] at hx
        exact hx
      · have hc98 : ¬ (((pbB g G) 166 48) ≤ k) := fun z => hc98 ((nI_leI (by omega) (by omega)).mpr z)
        refine Ev.run 2 (pc' := 107) (lv' := [(3, .int (nI t)), (2, .int (nI 1)), (1, .int (nI k)), (0, .ref 166)]) (st' := [.int (nI k)]) (h' := HN (U (pbB g G) (pbR r rG) wG vG) hl (RF rt)) rfl ?_
        refine Ev.ret (v := some (.int (nI k))) rfl ?_
        have hx := hq (pbB g G) (pbR r rG) wG vG hcy hsb
        unfold rs_looked at hx
        rw [hF] at hx
        have hFe : F = k := by rw [ha]; exact lkF_e (by omega)
        rw [hFe] at hx
        rw [if_neg (by omega)] at hx
        exact hx
    · have hc25 : ¬ ((G 166 48) ≤ k) := fun z => hc25 ((nI_leI (by omega) (by omega)).mpr z)
      refine Ev.run 1 (pc' := 29) (lv' := [(3, .int (nI t)), (2, .int (nI 1)), (1, .int (nI k)), (0, .ref 166)]) (st' := [.ref 166]) (h' := HN (U G rG wG vG) hl (RF rt)) rfl ?_
      refine Ev.call (a := 178) (as := [.ref 166]) (rest := []) (lv0 := [(0, .ref 166)]) (Q1 := (fun z0 h' => z0 = some (.int (nI (alS G))) ∧ h' = HN (U G rG wG vG) hl (RF rt))) rfl rfl (C_aliveSet _ _ _ _ (hIG.mU hsG) ⟨rfl, rfl⟩) (fun r h' hr => ?_)
      obtain ⟨rfl, rfl⟩ := hr
      have has := alS_lt hIG
      refine Ev.run 1 (pc' := (if nI (alS G) = 0 then 89 else 35)) (lv' := [(3, .int (nI t)), (2, .int (nI 1)), (1, .int (nI k)), (0, .ref 166)]) (st' := []) (h' := HN (U G rG wG vG) hl (RF rt)) rfl ?_
      refine Ev.ite (fun hc32 => ?_) (fun hc32 => ?_)
      · have hc32 : (alS G) = 0 := (nI_eqU0 (by omega)).mp hc32
        refine Ev.run 1 (pc' := 90) (lv' := [(3, .int (nI t)), (2, .int (nI 1)), (1, .int (nI k)), (0, .ref 166)]) (st' := [.ref 166]) (h' := HN (U G rG wG vG) hl (RF rt)) rfl ?_
        refine Ev.call (a := 198) (as := [.ref 166]) (rest := []) (lv0 := [(0, .ref 166)]) (Q1 := (fun z0 h' => z0 = none ∧ h' = HN (U (pbB g G) (pbR r rG) wG vG) hl (RF rt))) rfl rfl (C_putBack _ _ _ _ (hIG.mU hsG) ⟨rfl, congrArg (fun z => HN z hl (RF rt)) (pb_U hctG rG wG vG)⟩) (fun r h' hr => ?_)
        obtain ⟨rfl, rfl⟩ := hr
        have hcy := Cy.pb hctG
        have hsb := hs.spb hsG hLo
        have hp48 : (pbB g G) 166 48 = g 166 48 := hcy.2.1 48 (by decide) (by decide) (by decide) (by decide) (by decide) (by decide)
        refine Ev.run 4 (pc' := (if nI ((pbB g G) 166 48) ≤ nI k then 105 else 101)) (lv' := [(3, .int (nI t)), (2, .int (nI 1)), (1, .int (nI k)), (0, .ref 166)]) (st' := []) (h' := HN (U (pbB g G) (pbR r rG) wG vG) hl (RF rt)) rfl ?_
        refine Ev.ite (fun hc98 => ?_) (fun hc98 => ?_)
        · have hc98 : ((pbB g G) 166 48) ≤ k := (nI_leI (by omega) (by omega)).mp hc98
          refine Ev.run 1 (pc' := 107) (lv' := [(3, .int (nI t)), (2, .int (nI 1)), (1, .int (nI k)), (0, .ref 166)]) (st' := [.int (nI 4294967291)]) (h' := HN (U (pbB g G) (pbR r rG) wG vG) hl (RF rt)) rfl ?_
          refine Ev.ret (v := some (.int (nI 4294967291))) rfl ?_
          have hx := hq (pbB g G) (pbR r rG) wG vG hcy hsb
          unfold rs_looked at hx
          rw [hF] at hx
          have hFe : F = k := by rw [ha]; exact lkF_e (by omega)
          rw [hFe] at hx
          rw [if_pos (by omega)] at hx
          exact hx
        · have hc98 : ¬ (((pbB g G) 166 48) ≤ k) := fun z => hc98 ((nI_leI (by omega) (by omega)).mpr z)
          refine Ev.run 2 (pc' := 107) (lv' := [(3, .int (nI t)), (2, .int (nI 1)), (1, .int (nI k)), (0, .ref 166)]) (st' := [.int (nI k)]) (h' := HN (U (pbB g G) (pbR r rG) wG vG) hl (RF rt)) rfl ?_
          refine Ev.ret (v := some (.int (nI k))) rfl ?_
          have hx := hq (pbB g G) (pbR r rG) wG vG hcy hsb
          unfold rs_looked at hx
          rw [hF] at hx
          have hFe : F = k := by rw [ha]; exact lkF_e (by omega)
          rw [hFe] at hx
          rw [if_neg (by omega)] at hx
          exact hx
      · have hc32 : ¬ ((alS G) = 0) := fun z => hc32 ((nI_eqU0 (by omega)).mpr z)
        refine Ev.run 2 (pc' := 37) (lv' := [(3, .int (nI t)), (2, .int (nI 1)), (1, .int (nI k)), (0, .ref 166)]) (st' := [.int (nI 4294967295), .ref 166]) (h' := HN (U G rG wG vG) hl (RF rt)) rfl ?_
        refine Ev.call (a := 192) (as := [.ref 166, .int (nI 4294967295)]) (rest := []) (lv0 := [(0, .ref 166), (1, .int (nI 4294967295))]) (Q1 := (fun z0 h' => ∃ r1 w1 v1, SmH (plG G 4294967295) r1 v1 ∧ z0 = some (.int (nI (plV G 4294967295))) ∧ h' = HN (U (plG G 4294967295) r1 w1 v1) hl (RF rt))) rfl rfl (C_goTurn _ _ _ _ hIG hKG 4294967295 (tOK_n _)  rG wG vG hsG (fun r w v h => ⟨r, w, v, h, rfl, rfl⟩)) (fun r h' hr => ?_)
        obtain ⟨r96, w96, v96, hs96, rfl, rfl⟩ := hr
        have hI97 : MI (plG G 4294967295) := hIG.mplG (tOK_n _)
        have hK98 : KW (plG G 4294967295) := hKG.cx (Ct.tplG _ _).cx
        refine Ev.run 1 (pc' := 42) (lv' := [(4, .int (nI (plV G 4294967295))), (3, .int (nI t)), (2, .int (nI 1)), (1, .int (nI k)), (0, .ref 166)]) (st' := []) (h' := HN (U (plG G 4294967295) r96 w96 v96) hl (RF rt)) rfl ?_
        have h36 := plG_36 hIG 4294967295
        have hctp := hctG.trans (Ct.tplG G 4294967295).cq
        have h48p : plG G 4294967295 166 48 = g 166 48 := hctp.2 48 (by decide) (by decide) (by decide) (by decide) (by decide) (by decide)
        have h192p : plG G 4294967295 192 = g 192 := hctp.1 192 (by decide) (by decide) (by decide) (by decide) (by decide)
        refine Ev.run 3 (pc' := (if 0 ≤ nI ((plG G 4294967295) 166 36) then 52 else 49)) (lv' := [(4, .int (nI (plV G 4294967295))), (3, .int (nI t)), (2, .int (nI 1)), (1, .int (nI k)), (0, .ref 166)]) (st' := []) (h' := HN (U (plG G 4294967295) r96 w96 v96) hl (RF rt)) rfl ?_
        refine Ev.ite (fun hc46 => ?_) (fun hc46 => ?_)
        · have hc46 : ((plG G 4294967295) 166 36) < 2147483648 := (nI_geU0 (by omega)).mp hc46
          refine Ev.run 5 (pc' := 61) (lv' := [(4, .int (nI (plV G 4294967295))), (3, .int (nI t)), (2, .int (nI 1)), (1, .int (nI k)), (0, .ref 166)]) (st' := [.int (nI k), .ref 192, .int (nI ((plG G 4294967295) 166 36))]) (h' := HN (U (plG G 4294967295) r96 w96 v96) hl (RF rt)) rfl ?_
          refine Ev_iald rfl rfl (show k < 8 by omega) (Nat.le_of_ble_eq_true rfl) ?_
          have hr0 := MI.hsh hI97 k (by omega)
          refine Ev.run 1 (pc' := (if nI ((plG G 4294967295) 166 36) = nI ((plG G 4294967295) 192 k) then 65 else 69)) (lv' := [(4, .int (nI (plV G 4294967295))), (3, .int (nI t)), (2, .int (nI 1)), (1, .int (nI k)), (0, .ref 166)]) (st' := []) (h' := HN (U (plG G 4294967295) r96 w96 v96) hl (RF rt)) rfl ?_
          refine Ev.ite (fun hc62 => ?_) (fun hc62 => ?_)
          · have hc62 : ((plG G 4294967295) 166 36) = ((plG G 4294967295) 192 k) := (nI_eqU (by omega) (by omega)).mp hc62
            refine Ev.run 9 (pc' := 82) (lv' := [(2, .int (nI 1)), (4, .int (nI (plV G 4294967295))), (3, .int (nI t)), (1, .int (nI k)), (0, .ref 166)]) (st' := [.int (nI k + nI 1)]) (h' := HN (U (plG G 4294967295) r96 w96 v96) hl (RF rt)) rfl ?_
            refine Ev.topI (nI_add _ _) ?_
            refine Ev.run 2 (pc' := 86) (lv' := [(3, .int (nI t + 1)), (1, .int (nI (k + 1))), (2, .int (nI 1)), (4, .int (nI (plV G 4294967295))), (0, .ref 166)]) (st' := []) (h' := HN (U (plG G 4294967295) r96 w96 v96) hl (RF rt)) rfl ?_
            refine Ev.lvE (congrArg (fun z => (3, Value.int z) :: [(1, .int (nI (k + 1))), (2, .int (nI 1)), (4, .int (nI (plV G 4294967295))), (0, .ref 166)]) (nI_1 _)) ?_
            refine Ev.run 1 (pc' := 10) (lv' := [(3, .int (nI (t + 1))), (1, .int (nI (k + 1))), (2, .int (nI 1)), (4, .int (nI (plV G 4294967295))), (0, .ref 166)]) (st' := []) (h' := HN (U (plG G 4294967295) r96 w96 v96) hl (RF rt)) rfl ?_
            have hx := hnext (by omega) (k + 1) (plG G 4294967295) r96 w96 v96 hI97 hK98 hs96 hctp (by omega) (by rw [ha]; exact lkF_1 (by omega) (by omega) hc32 (by omega) (by rw [hc62, h192p]))
            exact Ev.wk (Ext.cons rfl rfl (Ext.cons rfl rfl (Ext.cons rfl rfl (Ext.cons rfl rfl (Ext.nil rfl))))) hx
          · have hc62 : ¬ (((plG G 4294967295) 166 36) = ((plG G 4294967295) 192 k)) := fun z => hc62 ((nI_eqU (by omega) (by omega)).mpr z)
            refine Ev.run 7 (pc' := 82) (lv' := [(2, .int (nI 0)), (4, .int (nI (plV G 4294967295))), (3, .int (nI t)), (1, .int (nI k)), (0, .ref 166)]) (st' := [.int (nI k + nI 0)]) (h' := HN (U (plG G 4294967295) r96 w96 v96) hl (RF rt)) rfl ?_
            refine Ev.topI (nI_add _ _) ?_
            refine Ev.run 2 (pc' := 86) (lv' := [(3, .int (nI t + 1)), (1, .int (nI (k + 0))), (2, .int (nI 0)), (4, .int (nI (plV G 4294967295))), (0, .ref 166)]) (st' := []) (h' := HN (U (plG G 4294967295) r96 w96 v96) hl (RF rt)) rfl ?_
            refine Ev.lvE (congrArg (fun z => (3, Value.int z) :: [(1, .int (nI (k + 0))), (2, .int (nI 0)), (4, .int (nI (plV G 4294967295))), (0, .ref 166)]) (nI_1 _)) ?_
            refine Ev.run 1 (pc' := 10) (lv' := [(3, .int (nI (t + 1))), (1, .int (nI (k + 0))), (2, .int (nI 0)), (4, .int (nI (plV G 4294967295))), (0, .ref 166)]) (st' := []) (h' := HN (U (plG G 4294967295) r96 w96 v96) hl (RF rt)) rfl ?_
            refine Ev.run 3 (pc' := (if nI 60 ≤ nI (t + 1) then 89 else 16)) (lv' := [(3, .int (nI (t + 1))), (1, .int (nI (k + 0))), (2, .int (nI 0)), (4, .int (nI (plV G 4294967295))), (0, .ref 166)]) (st' := []) (h' := HN (U (plG G 4294967295) r96 w96 v96) hl (RF rt)) rfl ?_
            refine Ev.ite (fun hc13 => ?_) (fun hc13 => ?_)
            · have hc13 : 60 ≤ (t + 1) := (nI_leI (by omega) (by omega)).mp hc13
              refine Ev.run 1 (pc' := 90) (lv' := [(3, .int (nI (t + 1))), (1, .int (nI (k + 0))), (2, .int (nI 0)), (4, .int (nI (plV G 4294967295))), (0, .ref 166)]) (st' := [.ref 166]) (h' := HN (U (plG G 4294967295) r96 w96 v96) hl (RF rt)) rfl ?_
              refine Ev.call (a := 198) (as := [.ref 166]) (rest := []) (lv0 := [(0, .ref 166)]) (Q1 := (fun z0 h' => z0 = none ∧ h' = HN (U (pbB g (plG G 4294967295)) (pbR r r96) w96 v96) hl (RF rt))) rfl rfl (C_putBack _ _ _ _ (hI97.mU hs96) ⟨rfl, congrArg (fun z => HN z hl (RF rt)) (pb_U hctp r96 w96 v96)⟩) (fun r h' hr => ?_)
              obtain ⟨rfl, rfl⟩ := hr
              have hcy := Cy.pb hctp
              have hsb := hs.spb hs96 hLo
              have hp48 : (pbB g (plG G 4294967295)) 166 48 = g 166 48 := hcy.2.1 48 (by decide) (by decide) (by decide) (by decide) (by decide) (by decide)
              refine Ev.run 4 (pc' := (if nI ((pbB g (plG G 4294967295)) 166 48) ≤ nI (k + 0) then 105 else 101)) (lv' := [(3, .int (nI (t + 1))), (1, .int (nI (k + 0))), (2, .int (nI 0)), (4, .int (nI (plV G 4294967295))), (0, .ref 166)]) (st' := []) (h' := HN (U (pbB g (plG G 4294967295)) (pbR r r96) w96 v96) hl (RF rt)) rfl ?_
              refine Ev.ite (fun hc98 => ?_) (fun hc98 => ?_)
              · have hc98 : ((pbB g (plG G 4294967295)) 166 48) ≤ (k + 0) := (nI_leI (by omega) (by omega)).mp hc98
                refine Ev.run 1 (pc' := 107) (lv' := [(3, .int (nI (t + 1))), (1, .int (nI (k + 0))), (2, .int (nI 0)), (4, .int (nI (plV G 4294967295))), (0, .ref 166)]) (st' := [.int (nI 4294967291)]) (h' := HN (U (pbB g (plG G 4294967295)) (pbR r r96) w96 v96) hl (RF rt)) rfl ?_
                refine Ev.ret (v := some (.int (nI 4294967291))) rfl ?_
                have hx := hq (pbB g (plG G 4294967295)) (pbR r r96) w96 v96 hcy hsb
                unfold rs_looked at hx
                rw [hF] at hx
                have hFe : F = k := by rw [ha]; exact lkF_2 (by omega) (by omega) hc32 (by omega) (by rw [← h192p]; exact hc62)
                rw [hFe] at hx
                rw [if_pos (by omega)] at hx
                exact hx
              · have hc98 : ¬ (((pbB g (plG G 4294967295)) 166 48) ≤ (k + 0)) := fun z => hc98 ((nI_leI (by omega) (by omega)).mpr z)
                refine Ev.run 2 (pc' := 107) (lv' := [(3, .int (nI (t + 1))), (1, .int (nI (k + 0))), (2, .int (nI 0)), (4, .int (nI (plV G 4294967295))), (0, .ref 166)]) (st' := [.int (nI (k + 0))]) (h' := HN (U (pbB g (plG G 4294967295)) (pbR r r96) w96 v96) hl (RF rt)) rfl ?_
                refine Ev.ret (v := some (.int (nI (k + 0)))) rfl ?_
                have hx := hq (pbB g (plG G 4294967295)) (pbR r r96) w96 v96 hcy hsb
                unfold rs_looked at hx
                rw [hF] at hx
                have hFe : F = k := by rw [ha]; exact lkF_2 (by omega) (by omega) hc32 (by omega) (by rw [← h192p]; exact hc62)
                rw [hFe] at hx
                rw [if_neg (by omega)] at hx
                exact hx
            · have hc13 : ¬ (60 ≤ (t + 1)) := fun z => hc13 ((nI_leI (by omega) (by omega)).mpr z)
              refine Ev.run 3 (pc' := 90) (lv' := [(3, .int (nI (t + 1))), (1, .int (nI (k + 0))), (2, .int (nI 0)), (4, .int (nI (plV G 4294967295))), (0, .ref 166)]) (st' := [.ref 166]) (h' := HN (U (plG G 4294967295) r96 w96 v96) hl (RF rt)) rfl ?_
              refine Ev.call (a := 198) (as := [.ref 166]) (rest := []) (lv0 := [(0, .ref 166)]) (Q1 := (fun z0 h' => z0 = none ∧ h' = HN (U (pbB g (plG G 4294967295)) (pbR r r96) w96 v96) hl (RF rt))) rfl rfl (C_putBack _ _ _ _ (hI97.mU hs96) ⟨rfl, congrArg (fun z => HN z hl (RF rt)) (pb_U hctp r96 w96 v96)⟩) (fun r h' hr => ?_)
              obtain ⟨rfl, rfl⟩ := hr
              have hcy := Cy.pb hctp
              have hsb := hs.spb hs96 hLo
              have hp48 : (pbB g (plG G 4294967295)) 166 48 = g 166 48 := hcy.2.1 48 (by decide) (by decide) (by decide) (by decide) (by decide) (by decide)
              refine Ev.run 4 (pc' := (if nI ((pbB g (plG G 4294967295)) 166 48) ≤ nI (k + 0) then 105 else 101)) (lv' := [(3, .int (nI (t + 1))), (1, .int (nI (k + 0))), (2, .int (nI 0)), (4, .int (nI (plV G 4294967295))), (0, .ref 166)]) (st' := []) (h' := HN (U (pbB g (plG G 4294967295)) (pbR r r96) w96 v96) hl (RF rt)) rfl ?_
              refine Ev.ite (fun hc98 => ?_) (fun hc98 => ?_)
              · have hc98 : ((pbB g (plG G 4294967295)) 166 48) ≤ (k + 0) := (nI_leI (by omega) (by omega)).mp hc98
                refine Ev.run 1 (pc' := 107) (lv' := [(3, .int (nI (t + 1))), (1, .int (nI (k + 0))), (2, .int (nI 0)), (4, .int (nI (plV G 4294967295))), (0, .ref 166)]) (st' := [.int (nI 4294967291)]) (h' := HN (U (pbB g (plG G 4294967295)) (pbR r r96) w96 v96) hl (RF rt)) rfl ?_
                refine Ev.ret (v := some (.int (nI 4294967291))) rfl ?_
                have hx := hq (pbB g (plG G 4294967295)) (pbR r r96) w96 v96 hcy hsb
                unfold rs_looked at hx
                rw [hF] at hx
                have hFe : F = k := by rw [ha]; exact lkF_2 (by omega) (by omega) hc32 (by omega) (by rw [← h192p]; exact hc62)
                rw [hFe] at hx
                rw [if_pos (by omega)] at hx
                exact hx
              · have hc98 : ¬ (((pbB g (plG G 4294967295)) 166 48) ≤ (k + 0)) := fun z => hc98 ((nI_leI (by omega) (by omega)).mpr z)
                refine Ev.run 2 (pc' := 107) (lv' := [(3, .int (nI (t + 1))), (1, .int (nI (k + 0))), (2, .int (nI 0)), (4, .int (nI (plV G 4294967295))), (0, .ref 166)]) (st' := [.int (nI (k + 0))]) (h' := HN (U (pbB g (plG G 4294967295)) (pbR r r96) w96 v96) hl (RF rt)) rfl ?_
                refine Ev.ret (v := some (.int (nI (k + 0)))) rfl ?_
                have hx := hq (pbB g (plG G 4294967295)) (pbR r r96) w96 v96 hcy hsb
                unfold rs_looked at hx
                rw [hF] at hx
                have hFe : F = k := by rw [ha]; exact lkF_2 (by omega) (by omega) hc32 (by omega) (by rw [← h192p]; exact hc62)
                rw [hFe] at hx
                rw [if_neg (by omega)] at hx
                exact hx
        · have hc46 : ¬ (((plG G 4294967295) 166 36) < 2147483648) := fun z => hc46 ((nI_geU0 (by omega)).mpr z)
          refine Ev.run 2 (pc' := 86) (lv' := [(3, .int (nI t + 1)), (4, .int (nI (plV G 4294967295))), (2, .int (nI 1)), (1, .int (nI k)), (0, .ref 166)]) (st' := []) (h' := HN (U (plG G 4294967295) r96 w96 v96) hl (RF rt)) rfl ?_
          refine Ev.lvE (congrArg (fun z => (3, Value.int z) :: [(4, .int (nI (plV G 4294967295))), (2, .int (nI 1)), (1, .int (nI k)), (0, .ref 166)]) (nI_1 _)) ?_
          refine Ev.run 1 (pc' := 10) (lv' := [(3, .int (nI (t + 1))), (4, .int (nI (plV G 4294967295))), (2, .int (nI 1)), (1, .int (nI k)), (0, .ref 166)]) (st' := []) (h' := HN (U (plG G 4294967295) r96 w96 v96) hl (RF rt)) rfl ?_
          have hx := hnext (by omega) k (plG G 4294967295) r96 w96 v96 hI97 hK98 hs96 hctp (by omega) (by rw [ha]; exact lkF_0 (by omega) (by omega) hc32 (by omega))
          exact Ev.wk (Ext.cons rfl rfl (Ext.cons rfl rfl (Ext.cons rfl rfl (Ext.cons rfl rfl (Ext.nil rfl))))) hx
