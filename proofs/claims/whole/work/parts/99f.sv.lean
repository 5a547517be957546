/-! act on both sides -/
theorem K_rfA {L : Nat} {xs : Nat → Int32} (d : Nat) (g : Nat → Nat → Nat) (hl : Nat → Nat → Int64) (rt : Nat × Nat × Nat × Nat) (x : Int32) (i v k a : Nat) (hi : i < 5) (hv : v < 2 ^ 31) (hk6 : k ≤ 6) (ha2 : a ≤ 2) (h133 : g 133 1 ≤ 20) (hN : g (60 + 2 * i) 1 = i) (hK : g (60 + 2 * i) 2 = k) (hv3 : g (60 + 2 * i) 3 = v) {Q : Po} (hq : Q (some (.int (if a = 0 then adX k i v x else if a = 1 then akX k i v x else teX k i v x))) (HN (bdC g (if a = 0 then adL k else if a = 1 then akL k else teL k)) hl (RF rt))) : Ev L xs (d + 8) 4 0 [(0, .ref 132), (1, .int (nI k)), (2, .ref (60 + 2 * i)), (3, .int (nI a)), (4, .int x), (5, .int (nI 0))] [] (HN g hl (RF rt)) Q := by
  rcases (show a = 0 ∨ a = 1 ∨ a = 2 by omega) with rfl | rfl | rfl <;> rcases (show k = 0 ∨ k = 1 ∨ k = 2 ∨ k = 3 ∨ k = 4 ∨ k = 5 ∨ k = 6 by omega) with rfl | rfl | rfl | rfl | rfl | rfl | rfl
  · exact K_rf0_0_0 (d + 5) g hl rt x i v 0 hi hv h133 hN hK hv3 (by omega) hq
  · exact K_rf1_1_0 (d + 5) g hl rt x i v 0 hi hv h133 hN hK hv3 (by omega) hq
  · exact K_rf2_2_0 (d + 4) g hl rt x i v 0 hi hv h133 hN hK hv3 (by omega) hq
  · exact K_rf3_3_0 (d + 5) g hl rt x i v 0 hi hv h133 hN hK hv3 (by omega) hq
  · exact K_rf4_4_0 (d + 4) g hl rt x i v 0 hi hv h133 hN hK hv3 (by omega) hq
  · exact K_rf5_5_0 (d + 4) g hl rt x i v 0 hi hv h133 hN hK hv3 (by omega) hq
  · exact K_rf6_6_0 (d + 4) g hl rt x i v 0 hi hv h133 hN hK hv3 (by omega) hq
  · exact K_rf0_0_1 (d + 4) g hl rt x i v 0 hi hv h133 hN hK hv3 (by omega) hq
  · exact K_rf1_1_1 (d + 3) g hl rt x i v 0 hi hv h133 hN hK hv3 (by omega) hq
  · exact K_rf2_2_1 (d + 3) g hl rt x i v 0 hi hv h133 hN hK hv3 (by omega) hq
  · exact K_rf3_3_1 (d + 4) g hl rt x i v 0 hi hv h133 hN hK hv3 (by omega) hq
  · exact K_rf4_4_1 (d + 1) g hl rt x i v 0 hi hv h133 hN hK hv3 (by omega) hq
  · exact K_rf5_5_1 (d + 3) g hl rt x i v 0 hi hv h133 hN hK hv3 (by omega) hq
  · exact K_rf6_6_1 (d + 2) g hl rt x i v 0 hi hv h133 hN hK hv3 (by omega) hq
  · exact K_rf0_0_2 (d + 3) g hl rt x i v 0 hi hv h133 hN hK hv3 (by omega) hq
  · exact K_rf1_1_2 (d + 2) g hl rt x i v 0 hi hv h133 hN hK hv3 (by omega) hq
  · exact K_rf2_2_2 (d + 2) g hl rt x i v 0 hi hv h133 hN hK hv3 (by omega) hq
  · exact K_rf3_3_2 (d + 2) g hl rt x i v 0 hi hv h133 hN hK hv3 (by omega) hq
  · exact K_rf4_4_2 (d + 0) g hl rt x i v 0 hi hv h133 hN hK hv3 (by omega) hq
  · exact K_rf5_5_2 (d + 1) g hl rt x i v 0 hi hv h133 hN hK hv3 (by omega) hq
  · exact K_rf6_6_2 (d + 0) g hl rt x i v 0 hi hv h133 hN hK hv3 (by omega) hq
theorem K_aclear {L : Nat} {xs : Nat → Int32} (d : Nat) (g : Nat → Nat → Nat) (hl : Nat → Nat → Int64) (rt : Nat × Nat × Nat × Nat)  {Q : Po} (hq : Q none (HN (u2 (u2 g 133 1 0) 132 1 0) hl (RF rt))) : Ev L xs (d + 1) 2 0 [(0, .ref 132)] [] (HN g hl (RF rt)) Q := by
  refine Ev.run 2 (pc' := 4) (lv' := [(0, .ref 132)]) (st' := [.ref 133]) (h' := HN g hl (RF rt)) rfl ?_
  refine Ev.call (a := 45) (as := [.ref 133]) (rest := []) (lv0 := [(0, .ref 133)]) (Q1 := (fun z0 h' => z0 = none ∧ h' = HN (u2 g 133 1 0) hl (RF rt))) rfl rfl (K_clear _ _ _ _ 133 20 (ln133 rt) ⟨rfl, rfl⟩) (fun r h' hr => ?_)
  obtain ⟨rfl, rfl⟩ := hr
  refine Ev.run 3 (pc' := 12) (lv' := [(0, .ref 132)]) (st' := []) (h' := setI (HN (u2 g 133 1 0) hl (RF rt)) 132 1 (nI 0)) rfl ?_
  refine Ev.hp (HN_set _ _ _ _ _ _) ?_
  refine Ev.ret (v := none) rfl ?_
  exact hq
def ca_act (g : Nat → Nat → Nat) (i a : Nat) : Nat → Nat → Nat := bdC (u2 (u2 g 133 1 0) 132 1 0) (actL g i a)
theorem K_run {L : Nat} {xs : Nat → Int32} (d : Nat) (g : Nat → Nat → Nat) (hl : Nat → Nat → Int64) (rt : Nat × Nat × Nat × Nat) (x : Int32) (i v k a : Nat) (hi : i < 5) (hv : v < 2 ^ 31) (hk6 : k ≤ 6) (ha2 : a ≤ 2) (h133 : g 133 1 ≤ 20) (hN : g (60 + 2 * i) 1 = i) (hK : g (60 + 2 * i) 2 = k) (hv3 : g (60 + 2 * i) 3 = v) {Q : Po} (hq : Q (some (.int (if a = 0 then adX k i v x else if a = 1 then akX k i v x else teX k i v x))) (HN (bdC g (if a = 0 then adL k else if a = 1 then akL k else teL k)) hl (RF rt))) : Ev L xs (d + 9) 3 0 [(0, .ref 132), (1, .ref (60 + 2 * i)), (2, .int (nI a)), (3, .int x)] [] (HN g hl (RF rt)) Q := by
  refine Ev.run 2 (pc' := 2) (lv' := [(0, .ref 132), (1, .ref (60 + 2 * i)), (2, .int (nI a)), (3, .int x)]) (st' := [.ref (60 + 2 * i), .ref 132]) (h' := HN g hl (RF rt)) rfl ?_
  refine Ev_gfI rfl rfl rfl (kcP hi) ?_
  refine Ev.topI (congrArg nI hK) ?_
  refine Ev.run 4 (pc' := 9) (lv' := [(0, .ref 132), (1, .ref (60 + 2 * i)), (2, .int (nI a)), (3, .int x)]) (st' := [.int (nI 0), .int x, .int (nI a), .ref (60 + 2 * i), .int (nI k), .ref 132]) (h' := HN g hl (RF rt)) rfl ?_
  refine Ev.call (a := 4) (as := [.ref 132, .int (nI k), .ref (60 + 2 * i), .int (nI a), .int x, .int (nI 0)]) (rest := []) (lv0 := [(0, .ref 132), (1, .int (nI k)), (2, .ref (60 + 2 * i)), (3, .int (nI a)), (4, .int x), (5, .int (nI 0))]) (Q1 := (fun z0 h' => z0 = some (.int (if a = 0 then adX k i v x else if a = 1 then akX k i v x else teX k i v x)) ∧ h' = HN (bdC g (if a = 0 then adL k else if a = 1 then akL k else teL k)) hl (RF rt))) rfl rfl (K_rfA _ g hl rt x i v k a hi hv hk6 ha2 h133 hN hK hv3 ⟨rfl, rfl⟩) (fun r h' hr => ?_)
  obtain ⟨rfl, rfl⟩ := hr
  exact Ev.ret (v := some (.int (if a = 0 then adX k i v x else if a = 1 then akX k i v x else teX k i v x))) rfl hq
theorem u2_ne2 (g : Nat → Nat → Nat) {a j : Nat} (h : a < 132) : u2 (u2 g 133 1 0) 132 1 0 a j = g a j := by rw [u2_ne _ (Or.inl (by omega)), u2_ne _ (Or.inl (by omega))]
theorem bdC_nil {g : Nat → Nat → Nat} (h : g 133 1 ≤ 20) : bdC g [] = g := by
  funext a c
  by_cases h0 : a < 132 ∨ 134 < a
  · rw [bdC_ne _ _ h0]
  · rcases (show a = 132 ∨ a = 133 ∨ a = 134 by omega) with rfl | rfl | rfl
    · show (if c = 1 then g 132 1 + 0 else g 132 c) = _
      split
      · rename_i e; rw [e]; rfl
      · rfl
    · show (if c = 1 then (if g 133 1 + 0 ≤ 20 then g 133 1 + 0 else 20) else g 133 c) = _
      split
      · rename_i e; rw [e, if_pos (by omega)]; rfl
      · rfl
    · show (if g 133 1 ≤ c ∧ c < g 133 1 + 0 ∧ c < 20 then _ else g 134 c) = _
      rw [if_neg (by omega)]
theorem K_act {L : Nat} {xs : Nat → Int32} (d : Nat) (g : Nat → Nat → Nat) (hl : Nat → Nat → Int64) (rt : Nat × Nat × Nat × Nat) (hV : Inv g hl rt) (i : Nat) (a : Nat) (hi : i < 2 ^ 32) (ha : a < 2 ^ 32)(x : Int32)  {Q : Po} (hq : Q (some (.int (rs_act g i a x))) (HN (ca_act g i a) hl (RF rt))) : Ev L xs (d + 10) 107 0 [(0, .ref 0), (1, .int (nI i)), (2, .int (nI a)), (3, .int (x))] [] (HN g hl (RF rt)) Q := by
  have hI := hV.mi
  have hW := hI.hW
  have hS := hI.hS
  have hPl := hI.hPl
  have hNx := hI.hNx
  have hLa := hI.hLa
  have hLo := hI.hLo
  have hTb := hI.hTb
  have hTh := hI.hTh
  have hFd := hI.hFd
  have hSn := hI.hSn
  have hSh := hI.hSh
  have hRan := hI.hRan
  have hLr := hI.hLr
  have hLt := hI.hLt
  have hgl := hI.hgl
  have hsz := hI.hsz
  have hcm := hI.hcm
  have hsl := hI.hsl
  have hkd := hI.hkd
  have hvv := hI.hvv
  have hli := hI.hli
  have hro := hI.hro
  have hrw := hI.hrw
  have htx := hI.htx
  have hsw := hI.hsw
  have hsx := hI.hsx
  have hsy := hI.hsy
  have hsh := hI.hsh
  have hle := hI.hle
  have hcl := hI.hcl
  have hwd := hI.hwd
  have hnu := hI.hnu
  have hwn := hI.hwn
  have hs1 := hI.hs1
  have hso := hI.hso
  have hB := hV.gm.cb
  have hB0 := hB.1
  have hPs := hV.gm.cs
  have hsp1 := hV.sp.1
  have htx1 := hV.tx.1
  have h451 := hV.gm.rx.1
  have h442 := hV.gm.rx.2.2.2.1
  have h443 := hV.gm.rx.2.2.2.2
  have h481 := hV.gm.l48.1
  have h501 := hV.gm.l50.1
  have h521 := hV.gm.l52.1
  have h541 := hV.gm.l54.1
  have h04 := hV.tb.1
  have hac1 := hV.ac.1
  have hac2 := hV.ac.2.1
  have hPl0 := hV.gm.cp
  refine Ev.run 2 (pc' := 4) (lv' := [(0, .ref 0), (1, .int (nI i)), (2, .int (nI a)), (3, .int (x))]) (st' := [.ref 132]) (h' := HN g hl (RF rt)) rfl ?_
  refine Ev.call (a := 2) (as := [.ref 132]) (rest := []) (lv0 := [(0, .ref 132)]) (Q1 := (fun z0 h' => z0 = none ∧ h' = HN (u2 (u2 g 133 1 0) 132 1 0) hl (RF rt))) rfl rfl (K_aclear _ _ _ _ ⟨rfl, rfl⟩) (fun r h' hr => ?_)
  obtain ⟨rfl, rfl⟩ := hr
  refine Ev.run 3 (pc' := 12) (lv' := [(0, .ref 0), (1, .int (nI i)), (2, .int (nI a)), (3, .int (x))]) (st' := [.int (nI i), .ref 12]) (h' := HN (u2 (u2 g 133 1 0) 132 1 0) hl (RF rt)) rfl ?_
  refine Ev.call (a := 22) (as := [.ref 12, .int (nI i)]) (rest := []) (lv0 := [(0, .ref 12), (1, .int (nI i))]) (Q1 := (fun z0 h' => z0 = some (.int (nI (bn (decide (i < g 12 2))))) ∧ h' = HN (u2 (u2 g 133 1 0) 132 1 0) hl (RF rt))) rfl rfl (K_hasPlayer2 _ (u2 (u2 g 133 1 0) 132 1 0) _ _ (show g 12 2 ≤ 5 by omega) i (by omega) ⟨rfl, rfl⟩) (fun r h' hr => ?_)
  obtain ⟨rfl, rfl⟩ := hr
  refine Ev_bn (fun hb15 => ?_) (fun hb15 => ?_)
  · have hhb15 : i < g 12 2 := of_decide_eq_true hb15
    refine Ev.run 4 (pc' := 21) (lv' := [(0, .ref 0), (1, .int (nI i)), (2, .int (nI a)), (3, .int (x))]) (st' := [.int (nI 2), .int (nI 0), .int (nI a)]) (h' := HN (u2 (u2 g 133 1 0) 132 1 0) hl (RF rt)) rfl ?_
    refine Ev.call (a := 118) (as := [.int (nI a), .int (nI 0), .int (nI 2)]) (rest := []) (lv0 := [(0, .int (nI a)), (1, .int (nI 0)), (2, .int (nI 2))]) (Q1 := (fun z0 h' => z0 = some (.int (nI (bn (decide (a ≤ 2))))) ∧ h' = HN (u2 (u2 g 133 1 0) 132 1 0) hl (RF rt))) rfl rfl (K_within _ _ _ _ (nI a) (nI 0) (nI 2) (by rw [in0 (by omega) (by omega)]; exact ⟨rfl, rfl⟩)) (fun r h' hr => ?_)
    obtain ⟨rfl, rfl⟩ := hr
    refine Ev_bn (fun hb24 => ?_) (fun hb24 => ?_)
    · have hhb24 : a ≤ 2 := of_decide_eq_true hb24
      refine Ev.run 7 (pc' := 41) (lv' := [(0, .ref 0), (1, .int (nI i)), (2, .int (nI a)), (3, .int (x))]) (st' := [.int (nI i), .ref 43, .ref 132]) (h' := HN (u2 (u2 g 133 1 0) 132 1 0) hl (RF rt)) rfl ?_
      refine Ev_aald (c := (60 + 2 * i)) rfl (by decide) rfl (show i < 5 by omega) (Nat.le_of_ble_eq_true rfl) (sh_pl rt i (by omega)).2.2.1 ?_
      refine Ev.run 2 (pc' := 44) (lv' := [(0, .ref 0), (1, .int (nI i)), (2, .int (nI a)), (3, .int (x))]) (st' := [.int (x), .int (nI a), .ref (60 + 2 * i), .ref 132]) (h' := HN (u2 (u2 g 133 1 0) 132 1 0) hl (RF rt)) rfl ?_
      refine Ev.call (a := 3) (as := [.ref 132, .ref (60 + 2 * i), .int (nI a), .int (x)]) (rest := []) (lv0 := [(0, .ref 132), (1, .ref (60 + 2 * i)), (2, .int (nI a)), (3, .int (x))]) (Q1 := (fun z0 h' => z0 = some (.int (if a = 0 then adX (g 171 i) i (g 172 i) x else if a = 1 then akX (g 171 i) i (g 172 i) x else teX (g 171 i) i (g 172 i) x)) ∧ h' = HN (bdC (u2 (u2 g 133 1 0) 132 1 0) (if a = 0 then adL (g 171 i) else if a = 1 then akL (g 171 i) else teL (g 171 i))) hl (RF rt))) rfl rfl (K_run _ (u2 (u2 g 133 1 0) 132 1 0) _ _ x i (g 172 i) (g 171 i) a (by omega) (by have := hvv i (by omega); omega) (hkd i (by omega)) (by omega) (show 0 ≤ 20 by decide) ((u2_ne2 _ (by omega)).trans (hPl0.2.2 i (by omega))) ((u2_ne2 _ (by omega)).trans (hPl0.1 i (by omega)).1) ((u2_ne2 _ (by omega)).trans (hPl0.1 i (by omega)).2) ⟨rfl, rfl⟩) (fun r h' hr => ?_)
      obtain ⟨rfl, rfl⟩ := hr
      refine Ev.ret (v := some (.int (if a = 0 then adX (g 171 i) i (g 172 i) x else if a = 1 then akX (g 171 i) i (g 172 i) x else teX (g 171 i) i (g 172 i) x))) rfl ?_
      have hip : i < g 166 6 := by omega
      have e1 : rs_act g i a x = (if a = 0 then adX (g 171 i) i (g 172 i) x else if a = 1 then akX (g 171 i) i (g 172 i) x else teX (g 171 i) i (g 172 i) x) := by unfold rs_act; rw [if_pos hip]; split; rfl; split; rfl; rw [if_pos (by omega)]
      have e2 : actL g i a = (if a = 0 then adL (g 171 i) else if a = 1 then akL (g 171 i) else teL (g 171 i)) := by unfold actL; rw [if_pos hip]; split; rfl; split; rfl; rw [if_pos (by omega)]
      unfold ca_act at hq
      rw [e1, e2] at hq
      exact hq
    · have hhb24 : ¬ (a ≤ 2) := of_decide_eq_false hb24
      refine Ev.run 2 (pc' := 28) (lv' := [(0, .ref 0), (1, .int (nI i)), (2, .int (nI a)), (3, .int (x))]) (st' := [.int (nI 0)]) (h' := HN (u2 (u2 g 133 1 0) 132 1 0) hl (RF rt)) rfl ?_
      refine Ev.ret (v := some (.int (nI 0))) rfl ?_
      have e : rs_act g i a x = nI 0 ∧ actL g i a = [] := by
        unfold rs_act actL
        by_cases hip : i < g 166 6
        · rw [if_pos hip, if_pos hip, if_neg (by omega), if_neg (by omega), if_neg (by omega), if_neg (by omega), if_neg (by omega), if_neg (by omega)]; exact ⟨rfl, rfl⟩
        · rw [if_neg hip, if_neg hip]; exact ⟨rfl, rfl⟩
      unfold ca_act at hq
      rw [e.1, e.2, bdC_nil (show 0 ≤ 20 by decide)] at hq
      exact hq
  · have hhb15 : ¬ (i < g 12 2) := of_decide_eq_false hb15
    refine Ev.run 2 (pc' := 28) (lv' := [(0, .ref 0), (1, .int (nI i)), (2, .int (nI a)), (3, .int (x))]) (st' := [.int (nI 0)]) (h' := HN (u2 (u2 g 133 1 0) 132 1 0) hl (RF rt)) rfl ?_
    refine Ev.ret (v := some (.int (nI 0))) rfl ?_
    have e : rs_act g i a x = nI 0 ∧ actL g i a = [] := by
      unfold rs_act actL
      by_cases hip : i < g 166 6
      · rw [if_pos hip, if_pos hip, if_neg (by omega), if_neg (by omega), if_neg (by omega), if_neg (by omega), if_neg (by omega), if_neg (by omega)]; exact ⟨rfl, rfl⟩
      · rw [if_neg hip, if_neg hip]; exact ⟨rfl, rfl⟩
    unfold ca_act at hq
    rw [e.1, e.2, bdC_nil (show 0 ≤ 20 by decide)] at hq
    exact hq
section ST
variable {L : Nat} {xs : Nat → Int32} {g g1 : Nat → Nat → Nat} {hl : Nat → Nat → Int64} {rt : Nat × Nat × Nat × Nat}
theorem em_act (i a : Nat) : Em g (ca_act g i a) := fun c hc => by
  funext j
  unfold ca_act
  rw [bdC_ne _ _ (by omega), u2_ne _ (Or.inl (by omega)), u2_ne _ (Or.inl (by omega))]
theorem Em.xactL (h : Em g g1) : actL g1 = actL g := by
  funext i a
  unfold actL
  rw [h.f6, h.r171]
theorem Em.zact (h : Em g g1) : rs_act g1 = rs_act g := by
  funext i a x
  unfold rs_act
  rw [h.f6, h.r171, h.r172]
theorem inv_act (hV : Inv g hl rt) (i a : Nat) : Inv (gs_act (ca_act g i a) i a) hl rt := by
  have em := em_act (g := g) i a
  have hlen := actL_len g i a
  obtain ⟨W, hW⟩ : ∃ W, W = gs_act (ca_act g i a) i a := ⟨_, rfl⟩
  rw [← hW]
  have e5 : ∀ c, W 205 c = if 0 ≤ c ∧ c < 0 + (actL g i a).length ∧ c < 20 then (actL g i a).getD (c - 0) 0 else g 205 c := fun c => by
    rw [hW]
    unfold gs_act
    rw [em.xactL]
    show (if 0 ≤ c ∧ c < 0 + (actL g i a).length ∧ c < 20 then (actL g i a).getD (c - 0) 0 else ca_act g i a 205 c) = _
    rw [em.r205]
  have e71 : W 166 71 = (actL g i a).length := by
    rw [hW]
    unfold gs_act
    rw [em.xactL]
    show 0 + (actL g i a).length = _
    omega
  have e3 : ∀ c, c = 132 ∨ c = 133 ∨ c = 134 → W c = ca_act g i a c := fun c hc => by
    rw [hW]
    unfold gs_act
    funext j
    rcases hc with rfl | rfl | rfl <;> rfl
  have k : Ag (fun c => c = 132 ∨ c = 133 ∨ c = 134 ∨ c = 205) (fun j => j = 71) g W := by
    rw [hW]
    refine ⟨fun c h1 hc => ?_, fun j hj => ?_⟩
    · funext b
      unfold gs_act bdsG
      rw [if_neg (by omega), if_neg h1, u2_ne _ (Or.inl h1)]
      unfold ca_act
      rw [bdC_ne _ _ (by omega), u2_ne _ (Or.inl (by omega)), u2_ne _ (Or.inl (by omega))]
    · show (if j = 71 then _ else u2 (ca_act g i a) 166 71 0 166 j) = _
      rw [if_neg hj, u2_ne _ (Or.inr hj), em.f]
  have m : MI W := by
    have hm := hV.mi
    have w : ∀ c, c ≠ 166 → c ≠ 205 → 166 ≤ c → W c = g c := fun c h1 h2 h3 => k.1 c h1 (by omega)
    have f : ∀ j, j ≠ 71 → W 166 j = g 166 j := fun j hj => k.2 j hj
    have e : MI (u2 g 166 71 (actL g i a).length) := hm.f71 (by omega)
    unfold MI at e ⊢
    rw [w 167 (by decide) (by decide) (by decide), w 168 (by decide) (by decide) (by decide), w 169 (by decide) (by decide) (by decide), w 170 (by decide) (by decide) (by decide), w 171 (by decide) (by decide) (by decide), w 172 (by decide) (by decide) (by decide), w 173 (by decide) (by decide) (by decide), w 174 (by decide) (by decide) (by decide), w 175 (by decide) (by decide) (by decide), w 176 (by decide) (by decide) (by decide), w 189 (by decide) (by decide) (by decide), w 190 (by decide) (by decide) (by decide), w 191 (by decide) (by decide) (by decide), w 192 (by decide) (by decide) (by decide), w 207 (by decide) (by decide) (by decide), w 177 (by decide) (by decide) (by decide), w 178 (by decide) (by decide) (by decide), w 179 (by decide) (by decide) (by decide), w 186 (by decide) (by decide) (by decide), w 206 (by decide) (by decide) (by decide), show W 166 = u2 g 166 71 (actL g i a).length 166 from funext (fun j => by
      unfold u2
      rw [if_pos rfl]
      by_cases z : j = 71
      · rw [if_pos z, z]; exact e71
      · rw [if_neg z]; exact f j z)]
    exact e
  have ac : AcE W := by
    unfold AcE
    rw [e3 132 (by omega), e3 133 (by omega), e3 134 (by omega), e71]
    refine ⟨?_, ?_, fun q h1 h2 => ?_⟩
    · show 0 + (actL g i a).length = _
      omega
    · show (if 0 + (actL g i a).length ≤ 20 then 0 + (actL g i a).length else 20) = _
      rw [Nat.zero_add]
    · rw [e5]
      show (if 0 ≤ q ∧ q < 0 + (actL g i a).length ∧ q < 20 then (actL g i a).getD (q - 0) 0 else g 134 q) = _
      rw [if_pos (by omega), if_pos (by omega)]
  exact Ag.inv k hV m (by omega) ⟨by omega, by omega, by omega, by omega, fun f hf => by omega⟩ (by omega) ⟨fun c hc => by unfold imC at hc; omega, fun j hj => by omega⟩ (k.ln hV.sp (by omega) (by omega)) (k.ln hV.tx (by omega) (by omega)) (k.gm hV.mi hV.gm (fun c hc => by unfold gmC at hc; omega) (fun j hj => by unfold gmJ at hj; omega)) ac (k.tp hV.tp ⟨fun t ht => by omega, by omega, by omega⟩) (by rw [k.1 59 (by omega) (by omega)]; exact hV.k59) (by rw [k.1 18 (by omega) (by omega)]; exact hV.k18)
theorem S_act (d : Nat) (i a : Nat) (x : Int32) (hi : i < 2 ^ 32) (ha : a < 2 ^ 32) : StepC L xs (d + 20) 107 231 [(1, .int (nI i)), (2, .int (nI a)), (3, .int x)] := by
  intro g hl rt hV
  refine K_act (d + 10) g hl rt hV i a hi ha x ?_
  refine ⟨_, _, _, _, rfl, rfl, ?_⟩
  have em := em_act (g := g) i a
  refine Ev.hp (congrArg (fun z => HN z hl (RF rt)) (U_self (ca_act g i a)).symm) ?_
  refine C_act (d + 12) (ca_act g i a) hl rt (em.mI hV.mi) (em.kW hV.kw) i a hi ha x _ _ _ (SmH.self (em.mI hV.mi)) ?_
  have hV2 := inv_act hV i a
  refine ⟨by rw [em.zact], _, _, _, rfl, hV2.u ?_⟩
  have h1 : gs_act (ca_act g i a) i a 175 = ca_act g i a 175 := rfl
  have h2 : gs_act (ca_act g i a) i a 186 = ca_act g i a 186 := rfl
  rw [← h1, ← h2]
  exact SmH.self hV2.mi
end ST
