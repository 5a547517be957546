/-! the class: a fraction in lowest terms, means, sheets -/
theorem KLO_step {L : Nat} {xs : Nat → Int32} (d : Nat) (g : Nat → Nat → Nat) (hl : Nat → Nat → Int64) (rt : Nat × Nat × Nat × Nat) (a b part k q p : Nat) (ha : a < 2 ^ 31) (hb : b < 2 ^ 31) (hpa : part < 2 ^ 32) (hk : k < 100) (hp0 : 0 < p) (hp : p < 2 ^ 31) (hqq : q < 2 ^ 31) {Q : Po} (hq : q = 0 → Q (some (.long (Int64.ofNat (if part = 0 then a / p else b / p)))) (HN g hl (RF rt))) (kk : ¬ q = 0 → Ev L xs d 124 8 [(5, .int (nI (k + 1))), (4, .int (nI (p % q))), (3, .int (nI q)), (0, .int (nI a)), (1, .int (nI b)), (2, .int (nI part))] [] (HN g hl (RF rt)) Q) : Ev L xs (d) 124 8 [(5, .int (nI k)), (4, .int (nI q)), (3, .int (nI p)), (0, .int (nI a)), (1, .int (nI b)), (2, .int (nI part))] [] (HN g hl (RF rt)) Q := by
  have hd1 := Nat.div_le_self a p
  have hd2 := Nat.div_le_self b p
  refine Ev.run 3 (pc' := (if nI 100 ≤ nI k then 39 else 15)) (lv' := [(5, .int (nI k)), (4, .int (nI q)), (3, .int (nI p)), (0, .int (nI a)), (1, .int (nI b)), (2, .int (nI part))]) (st' := []) (h' := HN g hl (RF rt)) rfl ?_
  refine Ev.ite (fun hc12 => ?_) (fun hc12 => ?_)
  · have hc12 : 100 ≤ k := (nI_leI (by omega) (by omega)).mp hc12
    refine Ev.run 2 (pc' := (if nI part = 0 then 43 else 47)) (lv' := [(5, .int (nI k)), (4, .int (nI q)), (3, .int (nI p)), (0, .int (nI a)), (1, .int (nI b)), (2, .int (nI part))]) (st' := []) (h' := HN g hl (RF rt)) rfl ?_
    refine Ev.ite (fun hc40 => ?_) (fun hc40 => ?_)
    · have hc40 : part = 0 := (nI_eqU0 (by omega)).mp hc40
      refine Ev.run 5 (pc' := (if nI p = 0 then 54 else 60)) (lv' := [(5, .int (nI a)), (4, .int (nI q)), (3, .int (nI p)), (0, .int (nI a)), (1, .int (nI b)), (2, .int (nI part))]) (st' := []) (h' := HN g hl (RF rt)) rfl ?_
      refine Ev.ite (fun hc51 => ?_) (fun hc51 => ?_)
      · have hc51 : p = 0 := (nI_eqU0 (by omega)).mp hc51
        refine Ev.run 2 (pc' := 57) (lv' := [(5, .int (nI a)), (4, .int (nI q)), (3, .int (nI p)), (0, .int (nI a)), (1, .int (nI b)), (2, .int (nI part))]) (st' := [.long ((nI a).toInt64)]) (h' := HN g hl (RF rt)) rfl ?_
        refine Ev.topL (nI_i2l (by omega)) ?_
        refine Ev.run 1 (pc' := 65) (lv' := [(5, .int (nI a)), (4, .int (nI q)), (3, .int (nI p)), (0, .int (nI a)), (1, .int (nI b)), (2, .int (nI part))]) (st' := [.long (Int64.ofNat a)]) (h' := HN g hl (RF rt)) rfl ?_
        refine Ev.ret (v := some (.long (Int64.ofNat a))) rfl ?_
        have hq := hq (by omega)
        (repeat (first | rw [if_pos (by omega)] at hq | rw [if_neg (by omega)] at hq))
        first | exact hq | (exfalso; omega)
      · have hc51 : ¬ (p = 0) := fun z => hc51 ((nI_eqU0 (by omega)).mpr z)
        refine Ev.run 2 (pc' := 63) (lv' := [(5, .int (nI a)), (4, .int (nI q)), (3, .int (nI p)), (0, .int (nI a)), (1, .int (nI b)), (2, .int (nI part))]) (st' := [.int (nI p), .int (nI a)]) (h' := HN g hl (RF rt)) rfl ?_
        refine Ev_idiv rfl (by omega) (by omega) (by omega) ?_
        refine Ev.run 1 (pc' := 65) (lv' := [(5, .int (nI a)), (4, .int (nI q)), (3, .int (nI p)), (0, .int (nI a)), (1, .int (nI b)), (2, .int (nI part))]) (st' := [.long ((nI (a / p)).toInt64)]) (h' := HN g hl (RF rt)) rfl ?_
        refine Ev.topL (nI_i2l (by omega)) ?_
        refine Ev.ret (v := some (.long (Int64.ofNat (a / p)))) rfl ?_
        have hq := hq (by omega)
        (repeat (first | rw [if_pos (by omega)] at hq | rw [if_neg (by omega)] at hq))
        first | exact hq | (exfalso; omega)
    · have hc40 : ¬ (part = 0) := fun z => hc40 ((nI_eqU0 (by omega)).mpr z)
      refine Ev.run 4 (pc' := (if nI p = 0 then 54 else 60)) (lv' := [(5, .int (nI b)), (4, .int (nI q)), (3, .int (nI p)), (0, .int (nI a)), (1, .int (nI b)), (2, .int (nI part))]) (st' := []) (h' := HN g hl (RF rt)) rfl ?_
      refine Ev.ite (fun hc51 => ?_) (fun hc51 => ?_)
      · have hc51 : p = 0 := (nI_eqU0 (by omega)).mp hc51
        refine Ev.run 2 (pc' := 57) (lv' := [(5, .int (nI b)), (4, .int (nI q)), (3, .int (nI p)), (0, .int (nI a)), (1, .int (nI b)), (2, .int (nI part))]) (st' := [.long ((nI b).toInt64)]) (h' := HN g hl (RF rt)) rfl ?_
        refine Ev.topL (nI_i2l (by omega)) ?_
        refine Ev.run 1 (pc' := 65) (lv' := [(5, .int (nI b)), (4, .int (nI q)), (3, .int (nI p)), (0, .int (nI a)), (1, .int (nI b)), (2, .int (nI part))]) (st' := [.long (Int64.ofNat b)]) (h' := HN g hl (RF rt)) rfl ?_
        refine Ev.ret (v := some (.long (Int64.ofNat b))) rfl ?_
        have hq := hq (by omega)
        (repeat (first | rw [if_pos (by omega)] at hq | rw [if_neg (by omega)] at hq))
        first | exact hq | (exfalso; omega)
      · have hc51 : ¬ (p = 0) := fun z => hc51 ((nI_eqU0 (by omega)).mpr z)
        refine Ev.run 2 (pc' := 63) (lv' := [(5, .int (nI b)), (4, .int (nI q)), (3, .int (nI p)), (0, .int (nI a)), (1, .int (nI b)), (2, .int (nI part))]) (st' := [.int (nI p), .int (nI b)]) (h' := HN g hl (RF rt)) rfl ?_
        refine Ev_idiv rfl (by omega) (by omega) (by omega) ?_
        refine Ev.run 1 (pc' := 65) (lv' := [(5, .int (nI b)), (4, .int (nI q)), (3, .int (nI p)), (0, .int (nI a)), (1, .int (nI b)), (2, .int (nI part))]) (st' := [.long ((nI (b / p)).toInt64)]) (h' := HN g hl (RF rt)) rfl ?_
        refine Ev.topL (nI_i2l (by omega)) ?_
        refine Ev.ret (v := some (.long (Int64.ofNat (b / p)))) rfl ?_
        have hq := hq (by omega)
        (repeat (first | rw [if_pos (by omega)] at hq | rw [if_neg (by omega)] at hq))
        first | exact hq | (exfalso; omega)
  · have hc12 : ¬ (100 ≤ k) := fun z => hc12 ((nI_leI (by omega) (by omega)).mpr z)
    refine Ev.run 2 (pc' := (if nI q = 0 then 39 else 20)) (lv' := [(5, .int (nI k)), (4, .int (nI q)), (3, .int (nI p)), (0, .int (nI a)), (1, .int (nI b)), (2, .int (nI part))]) (st' := []) (h' := HN g hl (RF rt)) rfl ?_
    refine Ev.ite (fun hc17 => ?_) (fun hc17 => ?_)
    · have hc17 : q = 0 := (nI_eqU0 (by omega)).mp hc17
      refine Ev.run 2 (pc' := (if nI part = 0 then 43 else 47)) (lv' := [(5, .int (nI k)), (4, .int (nI q)), (3, .int (nI p)), (0, .int (nI a)), (1, .int (nI b)), (2, .int (nI part))]) (st' := []) (h' := HN g hl (RF rt)) rfl ?_
      refine Ev.ite (fun hc40 => ?_) (fun hc40 => ?_)
      · have hc40 : part = 0 := (nI_eqU0 (by omega)).mp hc40
        refine Ev.run 5 (pc' := (if nI p = 0 then 54 else 60)) (lv' := [(5, .int (nI a)), (4, .int (nI q)), (3, .int (nI p)), (0, .int (nI a)), (1, .int (nI b)), (2, .int (nI part))]) (st' := []) (h' := HN g hl (RF rt)) rfl ?_
        refine Ev.ite (fun hc51 => ?_) (fun hc51 => ?_)
        · have hc51 : p = 0 := (nI_eqU0 (by omega)).mp hc51
          refine Ev.run 2 (pc' := 57) (lv' := [(5, .int (nI a)), (4, .int (nI q)), (3, .int (nI p)), (0, .int (nI a)), (1, .int (nI b)), (2, .int (nI part))]) (st' := [.long ((nI a).toInt64)]) (h' := HN g hl (RF rt)) rfl ?_
          refine Ev.topL (nI_i2l (by omega)) ?_
          refine Ev.run 1 (pc' := 65) (lv' := [(5, .int (nI a)), (4, .int (nI q)), (3, .int (nI p)), (0, .int (nI a)), (1, .int (nI b)), (2, .int (nI part))]) (st' := [.long (Int64.ofNat a)]) (h' := HN g hl (RF rt)) rfl ?_
          refine Ev.ret (v := some (.long (Int64.ofNat a))) rfl ?_
          have hq := hq (by omega)
          (repeat (first | rw [if_pos (by omega)] at hq | rw [if_neg (by omega)] at hq))
          first | exact hq | (exfalso; omega)
        · have hc51 : ¬ (p = 0) := fun z => hc51 ((nI_eqU0 (by omega)).mpr z)
          refine Ev.run 2 (pc' := 63) (lv' := [(5, .int (nI a)), (4, .int (nI q)), (3, .int (nI p)), (0, .int (nI a)), (1, .int (nI b)), (2, .int (nI part))]) (st' := [.int (nI p), .int (nI a)]) (h' := HN g hl (RF rt)) rfl ?_
          refine Ev_idiv rfl (by omega) (by omega) (by omega) ?_
          refine Ev.run 1 (pc' := 65) (lv' := [(5, .int (nI a)), (4, .int (nI q)), (3, .int (nI p)), (0, .int (nI a)), (1, .int (nI b)), (2, .int (nI part))]) (st' := [.long ((nI (a / p)).toInt64)]) (h' := HN g hl (RF rt)) rfl ?_
          refine Ev.topL (nI_i2l (by omega)) ?_
          refine Ev.ret (v := some (.long (Int64.ofNat (a / p)))) rfl ?_
          have hq := hq (by omega)
          (repeat (first | rw [if_pos (by omega)] at hq | rw [if_neg (by omega)] at hq))
          first | exact hq | (exfalso; omega)
      · have hc40 : ¬ (part = 0) := fun z => hc40 ((nI_eqU0 (by omega)).mpr z)
        refine Ev.run 4 (pc' := (if nI p = 0 then 54 else 60)) (lv' := [(5, .int (nI b)), (4, .int (nI q)), (3, .int (nI p)), (0, .int (nI a)), (1, .int (nI b)), (2, .int (nI part))]) (st' := []) (h' := HN g hl (RF rt)) rfl ?_
        refine Ev.ite (fun hc51 => ?_) (fun hc51 => ?_)
        · have hc51 : p = 0 := (nI_eqU0 (by omega)).mp hc51
          refine Ev.run 2 (pc' := 57) (lv' := [(5, .int (nI b)), (4, .int (nI q)), (3, .int (nI p)), (0, .int (nI a)), (1, .int (nI b)), (2, .int (nI part))]) (st' := [.long ((nI b).toInt64)]) (h' := HN g hl (RF rt)) rfl ?_
          refine Ev.topL (nI_i2l (by omega)) ?_
          refine Ev.run 1 (pc' := 65) (lv' := [(5, .int (nI b)), (4, .int (nI q)), (3, .int (nI p)), (0, .int (nI a)), (1, .int (nI b)), (2, .int (nI part))]) (st' := [.long (Int64.ofNat b)]) (h' := HN g hl (RF rt)) rfl ?_
          refine Ev.ret (v := some (.long (Int64.ofNat b))) rfl ?_
          have hq := hq (by omega)
          (repeat (first | rw [if_pos (by omega)] at hq | rw [if_neg (by omega)] at hq))
          first | exact hq | (exfalso; omega)
        · have hc51 : ¬ (p = 0) := fun z => hc51 ((nI_eqU0 (by omega)).mpr z)
          refine Ev.run 2 (pc' := 63) (lv' := [(5, .int (nI b)), (4, .int (nI q)), (3, .int (nI p)), (0, .int (nI a)), (1, .int (nI b)), (2, .int (nI part))]) (st' := [.int (nI p), .int (nI b)]) (h' := HN g hl (RF rt)) rfl ?_
          refine Ev_idiv rfl (by omega) (by omega) (by omega) ?_
          refine Ev.run 1 (pc' := 65) (lv' := [(5, .int (nI b)), (4, .int (nI q)), (3, .int (nI p)), (0, .int (nI a)), (1, .int (nI b)), (2, .int (nI part))]) (st' := [.long ((nI (b / p)).toInt64)]) (h' := HN g hl (RF rt)) rfl ?_
          refine Ev.topL (nI_i2l (by omega)) ?_
          refine Ev.ret (v := some (.long (Int64.ofNat (b / p)))) rfl ?_
          have hq := hq (by omega)
          (repeat (first | rw [if_pos (by omega)] at hq | rw [if_neg (by omega)] at hq))
          first | exact hq | (exfalso; omega)
    · have hc17 : ¬ (q = 0) := fun z => hc17 ((nI_eqU0 (by omega)).mpr z)
      refine Ev.run 2 (pc' := 23) (lv' := [(5, .int (nI k)), (4, .int (nI q)), (3, .int (nI p)), (0, .int (nI a)), (1, .int (nI b)), (2, .int (nI part))]) (st' := [.int (nI q), .int (nI p)]) (h' := HN g hl (RF rt)) rfl ?_
      refine Ev_irem rfl (by omega) (by omega) (by omega) ?_
      have hmd23 := Nat.mod_lt (p) (show 0 < q by omega)
      refine Ev.run 6 (pc' := 36) (lv' := [(5, .int (nI k + 1)), (4, .int (nI (p % q))), (3, .int (nI q)), (6, .int (nI (p % q))), (0, .int (nI a)), (1, .int (nI b)), (2, .int (nI part))]) (st' := []) (h' := HN g hl (RF rt)) rfl ?_
      refine Ev.lvE (congrArg (fun z => (5, Value.int z) :: [(4, .int (nI (p % q))), (3, .int (nI q)), (6, .int (nI (p % q))), (0, .int (nI a)), (1, .int (nI b)), (2, .int (nI part))]) (nI_1 _)) ?_
      refine Ev.run 1 (pc' := 8) (lv' := [(5, .int (nI (k + 1))), (4, .int (nI (p % q))), (3, .int (nI q)), (6, .int (nI (p % q))), (0, .int (nI a)), (1, .int (nI b)), (2, .int (nI part))]) (st' := []) (h' := HN g hl (RF rt)) rfl ?_
      exact Ev.wk (Ext.cons rfl rfl (Ext.cons rfl rfl (Ext.cons rfl rfl (Ext.cons rfl rfl (Ext.cons rfl rfl (Ext.cons rfl rfl (Ext.nil rfl))))))) (kk (by omega))
theorem K_lowestC {L : Nat} {xs : Nat → Int32} (d : Nat) (g : Nat → Nat → Nat) (hl : Nat → Nat → Int64) (rt : Nat × Nat × Nat × Nat) (a b part : Nat) (ha : a < 2 ^ 31) (hb0 : 0 < b) (hb : b ≤ 60) (hp : part < 2 ^ 32) {Q : Po} (hq : Q (some (.long (Int64.ofNat (lwS1 a b part)))) (HN g hl (RF rt))) : Ev L xs d 124 0 [(0, .int (nI a)), (1, .int (nI b)), (2, .int (nI part))] [] (HN g hl (RF rt)) Q := by
  have key : ∀ (f k p q : Nat), q < f → 0 < p → p < 2 ^ 31 → q < 2 ^ 31 → ((k = 0 ∧ p = b) ∨ q + k ≤ 61) → Nat.gcd p q = Nat.gcd a b → Ev L xs d 124 8 [(5, .int (nI k)), (4, .int (nI q)), (3, .int (nI p)), (0, .int (nI a)), (1, .int (nI b)), (2, .int (nI part))] [] (HN g hl (RF rt)) Q := by
    intro f
    induction f with
    | zero => intro k p q h1; omega
    | succ f ih =>
      intro k p q h1 h2 h3 h4 h5 hg
      refine KLO_step d g hl rt a b part k q p ha (by omega) hp (by omega) h2 h3 h4 (fun h6 => ?_) (fun h6 => ?_)
      · rw [h6, Nat.gcd_zero_right] at hg
        unfold lwS1 at hq
        rw [← hg] at hq
        exact hq
      · have hm := Nat.mod_lt p (show 0 < q by omega)
        have hm2 := Nat.mod_le p q
        refine ih (k + 1) q (p % q) (by omega) (by omega) h4 (by omega) (Or.inr (by omega)) ?_
        rw [← hg, Nat.gcd_comm p q, Nat.gcd_rec q p, Nat.gcd_comm]
  refine Ev.run 6 (pc' := 8) (lv' := [(5, .int (nI 0)), (4, .int (nI a)), (3, .int (nI b)), (0, .int (nI a)), (1, .int (nI b)), (2, .int (nI part))]) (st' := []) (h' := HN g hl (RF rt)) rfl ?_
  exact key (a + 1) 0 b a (Nat.lt_succ_self _) hb0 (by omega) ha (Or.inl ⟨rfl, rfl⟩) (Nat.gcd_comm b a)
theorem KM_step {L : Nat} {xs : Nat → Int32} (d : Nat) (g : Nat → Nat → Nat) (hl : Nat → Nat → Int64) (rt : Nat × Nat × Nat × Nat) (hV : Inv g hl rt) (T T' : Sx) (v : Nat) (hT : plXs g (lwS g 1) T = (v, T')) (hB2 : SxB T) (hB3 : SxB T') (hv : v < 4294967296) (hT4 : T'.1 4 ≤ 4 ∨ T'.1 4 = 4294967295) (n part k sm : Nat) (hn : n ≤ 60) (hk : k ≤ n) (hz : sm ≤ 720) {Q : Po} (kk : Ev L xs (d + 7) 101 34 [(5, .int (nI (k + 1))), (4, .int (nI (sm + T'.2.1 1))), (3, .ref 128), (0, .ref 0), (1, .int (nI n)), (2, .int (nI part))] [] (HN (ROs g 128 T') hl (RF rt)) Q) : Ev L xs (d + 7) 101 34 [(5, .int (nI k)), (4, .int (nI sm)), (3, .ref 128), (0, .ref 0), (1, .int (nI n)), (2, .int (nI part))] [] (HN (ROs g 128 T) hl (RF rt)) Q := by
  have hI := hV.mi
  have hW := hI.hW
  have hS := hI.hS
  have hPl := hI.hPl
  have hNx := hI.hNx
  have hLa := hI.hLa
  have hLo := hI.hLo
  have hTb := hI.hTb
  have hTh := hI.hTh
  have hFd := hI.hFd
  have hSn := hI.hSn
  have hSh := hI.hSh
  have hRan := hI.hRan
  have hLr := hI.hLr
  have hLt := hI.hLt
  have hgl := hI.hgl
  have hsz := hI.hsz
  have hcm := hI.hcm
  have hsl := hI.hsl
  have hkd := hI.hkd
  have hvv := hI.hvv
  have hli := hI.hli
  have hro := hI.hro
  have hrw := hI.hrw
  have htx := hI.htx
  have hsw := hI.hsw
  have hsx := hI.hsx
  have hsy := hI.hsy
  have hsh := hI.hsh
  have hle := hI.hle
  have hcl := hI.hcl
  have hwd := hI.hwd
  have hnu := hI.hnu
  have hwn := hI.hwn
  have hs1 := hI.hs1
  have hso := hI.hso
  have hB := hV.gm.cb
  have hB0 := hB.1
  have hPs := hV.gm.cs
  have hsp1 := hV.sp.1
  have htx1 := hV.tx.1
  have h451 := hV.gm.rx.1
  have h442 := hV.gm.rx.2.2.2.1
  have h443 := hV.gm.rx.2.2.2.2
  have h481 := hV.gm.l48.1
  have h501 := hV.gm.l50.1
  have h521 := hV.gm.l52.1
  have h541 := hV.gm.l54.1
  have h04 := hV.tb.1
  have hac1 := hV.ac.1
  have hac2 := hV.ac.2.1
  have hPl0 := hV.gm.cp
  have hx4 := hB3.2.2.2.2
  have hx2 := hB3.2.2.2.1
  have hx1 := hB3.2.1
  have hxl := hB3.1
  refine Ev.run 3 (pc' := (if nI n < nI k then 67 else 40)) (lv' := [(5, .int (nI k)), (4, .int (nI sm)), (3, .ref 128), (0, .ref 0), (1, .int (nI n)), (2, .int (nI part))]) (st' := []) (h' := HN (RO g 128 T.1 T.2.1 T.2.2.1 T.2.2.2) hl (RF rt)) rfl ?_
  refine Ev.ite (fun hc37 => ?_) (fun hc37 => ?_)
  · have hc37 : n < k := (nI_ltI (by omega) (by omega)).mp hc37
    exfalso
    omega
  · have hc37 : ¬ (n < k) := fun z => hc37 ((nI_ltI (by omega) (by omega)).mpr z)
    refine Ev.run 3 (pc' := 45) (lv' := [(5, .int (nI k)), (4, .int (nI sm)), (3, .ref 128), (0, .ref 0), (1, .int (nI n)), (2, .int (nI part))]) (st' := [.ref 128, .ref 12]) (h' := HN (RO g 128 T.1 T.2.1 T.2.2.1 T.2.2.2) hl (RF rt)) rfl ?_
    refine Ev.call (a := 36) (as := [.ref 12, .ref 128]) (rest := []) (lv0 := [(0, .ref 12), (1, .ref 128)]) (Q1 := (fun z0 h' => z0 = some (.int (nI v)) ∧ h' = HN (RO g 128 T'.1 T'.2.1 T'.2.2.1 T'.2.2.2) hl (RF rt))) rfl rfl (K128_playS _ _ _ hV.gok hB2 ⟨congrArg (fun z => some (Value.int (nI z.1))) hT, congrArg (fun z => HN (ROs g 128 z.2) hl (RF rt)) hT⟩) (fun r h' hr => ?_)
    obtain ⟨rfl, rfl⟩ := hr
    refine Ev.run 6 (pc' := 59) (lv' := [(5, .int (nI k)), (4, .int (nI sm)), (3, .ref 128), (0, .ref 0), (1, .int (nI n)), (2, .int (nI part))]) (st' := [.int (nI sm + nI (T'.2.1 1))]) (h' := HN (RO g 128 T'.1 T'.2.1 T'.2.2.1 T'.2.2.2) hl (RF rt)) rfl ?_
    refine Ev.topI (nI_add _ _) ?_
    refine Ev.run 2 (pc' := 64) (lv' := [(5, .int (nI k + 1)), (4, .int (nI (sm + (T'.2.1 1)))), (3, .ref 128), (0, .ref 0), (1, .int (nI n)), (2, .int (nI part))]) (st' := []) (h' := HN (RO g 128 T'.1 T'.2.1 T'.2.2.1 T'.2.2.2) hl (RF rt)) rfl ?_
    refine Ev.lvE (congrArg (fun z => (5, Value.int z) :: [(4, .int (nI (sm + (T'.2.1 1)))), (3, .ref 128), (0, .ref 0), (1, .int (nI n)), (2, .int (nI part))]) (nI_1 _)) ?_
    refine Ev.run 1 (pc' := 34) (lv' := [(5, .int (nI (k + 1))), (4, .int (nI (sm + (T'.2.1 1)))), (3, .ref 128), (0, .ref 0), (1, .int (nI n)), (2, .int (nI part))]) (st' := []) (h' := HN (RO g 128 T'.1 T'.2.1 T'.2.2.1 T'.2.2.2) hl (RF rt)) rfl ?_
    exact Ev.wk (Ext.cons rfl rfl (Ext.cons rfl rfl (Ext.cons rfl rfl (Ext.cons rfl rfl (Ext.cons rfl rfl (Ext.cons rfl rfl (Ext.nil rfl))))))) kk
theorem KM_end {L : Nat} {xs : Nat → Int32} (d : Nat) (g : Nat → Nat → Nat) (hl : Nat → Nat → Int64) (rt : Nat × Nat × Nat × Nat) (hV : Inv g hl rt) (T : Sx) (n part sm : Nat) (hn : n ≤ 60) (hn1 : 1 ≤ n) (hz : sm ≤ 720) (hpa : part < 2 ^ 32) {Q : Po} (hq : Q (some (.long (Int64.ofNat (lwS1 sm n part)))) (HN (ROs g 128 T) hl (RF rt))) : Ev L xs (d + 7) 101 34 [(5, .int (nI (n + 1))), (4, .int (nI sm)), (3, .ref 128), (0, .ref 0), (1, .int (nI n)), (2, .int (nI part))] [] (HN (ROs g 128 T) hl (RF rt)) Q := by
  have hI := hV.mi
  have hW := hI.hW
  have hS := hI.hS
  have hPl := hI.hPl
  have hNx := hI.hNx
  have hLa := hI.hLa
  have hLo := hI.hLo
  have hTb := hI.hTb
  have hTh := hI.hTh
  have hFd := hI.hFd
  have hSn := hI.hSn
  have hSh := hI.hSh
  have hRan := hI.hRan
  have hLr := hI.hLr
  have hLt := hI.hLt
  have hgl := hI.hgl
  have hsz := hI.hsz
  have hcm := hI.hcm
  have hsl := hI.hsl
  have hkd := hI.hkd
  have hvv := hI.hvv
  have hli := hI.hli
  have hro := hI.hro
  have hrw := hI.hrw
  have htx := hI.htx
  have hsw := hI.hsw
  have hsx := hI.hsx
  have hsy := hI.hsy
  have hsh := hI.hsh
  have hle := hI.hle
  have hcl := hI.hcl
  have hwd := hI.hwd
  have hnu := hI.hnu
  have hwn := hI.hwn
  have hs1 := hI.hs1
  have hso := hI.hso
  have hB := hV.gm.cb
  have hB0 := hB.1
  have hPs := hV.gm.cs
  have hsp1 := hV.sp.1
  have htx1 := hV.tx.1
  have h451 := hV.gm.rx.1
  have h442 := hV.gm.rx.2.2.2.1
  have h443 := hV.gm.rx.2.2.2.2
  have h481 := hV.gm.l48.1
  have h501 := hV.gm.l50.1
  have h521 := hV.gm.l52.1
  have h541 := hV.gm.l54.1
  have h04 := hV.tb.1
  have hac1 := hV.ac.1
  have hac2 := hV.ac.2.1
  have hPl0 := hV.gm.cp
  refine Ev.run 3 (pc' := (if nI n < nI (n + 1) then 67 else 40)) (lv' := [(5, .int (nI (n + 1))), (4, .int (nI sm)), (3, .ref 128), (0, .ref 0), (1, .int (nI n)), (2, .int (nI part))]) (st' := []) (h' := HN (RO g 128 T.1 T.2.1 T.2.2.1 T.2.2.2) hl (RF rt)) rfl ?_
  refine Ev.ite (fun hc37 => ?_) (fun hc37 => ?_)
  · have hc37 : n < (n + 1) := (nI_ltI (by omega) (by omega)).mp hc37
    refine Ev.run 3 (pc' := 71) (lv' := [(5, .int (nI (n + 1))), (4, .int (nI sm)), (3, .ref 128), (0, .ref 0), (1, .int (nI n)), (2, .int (nI part))]) (st' := [.int (nI part), .int (nI n), .int (nI sm)]) (h' := HN (RO g 128 T.1 T.2.1 T.2.2.1 T.2.2.2) hl (RF rt)) rfl ?_
    refine Ev.call (a := 124) (as := [.int (nI sm), .int (nI n), .int (nI part)]) (rest := []) (lv0 := [(0, .int (nI sm)), (1, .int (nI n)), (2, .int (nI part))]) (Q1 := (fun z0 h' => z0 = some (.long (Int64.ofNat (lwS1 sm n part))) ∧ h' = HN (RO g 128 T.1 T.2.1 T.2.2.1 T.2.2.2) hl (RF rt))) rfl rfl (K_lowestC _ (ROs g 128 T) _ _ sm n part (by omega) (by omega) (by omega) (by omega) ⟨rfl, rfl⟩) (fun r h' hr => ?_)
    obtain ⟨rfl, rfl⟩ := hr
    refine Ev.ret (v := some (.long (Int64.ofNat (lwS1 sm n part)))) rfl ?_
    exact hq
  · have hc37 : ¬ (n < (n + 1)) := fun z => hc37 ((nI_ltI (by omega) (by omega)).mpr z)
    exfalso
    omega
theorem K_meanl {L : Nat} {xs : Nat → Int32} (d : Nat) (g : Nat → Nat → Nat) (hl : Nat → Nat → Int64) (rt : Nat × Nat × Nat × Nat) (hV : Inv g hl rt) (K : Nat → Nat → Nat) (hK : GX g K (lwS g 1)) (n part : Nat) (hn : n ≤ 60) (hn1 : 1 ≤ n) (hpa : part < 2 ^ 32) {Q : Po} : ∀ (f j : Nat) (T : Sx), f + j = n → RXs T (itG j K) → RY (itG j K) → smF K j ≤ 12 * j → (∀ T', Q (some (.long (Int64.ofNat (lwS1 (smF K n) n part)))) (HN (ROs g 128 T') hl (RF rt))) → Ev L xs (d + 7) 101 34 [(5, .int (nI (j + 1))), (4, .int (nI (smF K j))), (3, .ref 128), (0, .ref 0), (1, .int (nI n)), (2, .int (nI part))] [] (HN (ROs g 128 T) hl (RF rt)) Q := by
  intro f
  induction f with
  | zero =>
    intro j T hf hx hz hs hq
    rw [show j = n by omega]
    rw [show j = n by omega] at hs
    exact KM_end d g hl rt hV T n part _ hn hn1 (by omega) hpa (hq T)
  | succ f ih =>
    intro j T hf hx hz hs hq
    have hg := GX.it hK j
    obtain ⟨v, T', h1, h2, h3, h4, h5, h6⟩ := pl_both hg hx hz
    have hst := st_eq hg hx hz
    have eT : stX g (lwS g 1) T = T' := congrArg Prod.snd h1
    rw [eT, itG_n] at hst
    refine KM_step d g hl rt hV T T' v h1 h2 h3 h4 h6 n part (j + 1) (smF K j) hn (by omega) (by omega) ?_
    have e9 : T'.2.1 1 = itG (j + 1) K 166 9 := hst.1.1
    have hb := h3.2.1
    have es : smF K j + T'.2.1 1 = smF K (j + 1) := by rw [e9]; rfl
    rw [es]
    exact ih (j + 1) T' (by omega) hst.1 hst.2 (by rw [← es]; omega) hq
theorem K_mean {L : Nat} {xs : Nat → Int32} (d : Nat) (g : Nat → Nat → Nat) (hl : Nat → Nat → Int64) (rt : Nat × Nat × Nat × Nat) (hV : Inv g hl rt) (n : Nat) (part : Nat) (hn : n < 2 ^ 32) (hpart : part < 2 ^ 32) {Q : Po} (hq : ∀ g2, Inv g2 hl rt → Q (some (.long (Int64.ofNat (rs_mean g2 (kpU g2 (g2 175)) n part)))) (HN g2 hl (RF rt))) : Ev L xs (d + 8) 101 0 [(0, .ref 0), (1, .int (nI n)), (2, .int (nI part))] [] (HN g hl (RF rt)) Q := by
  have hI := hV.mi
  have hW := hI.hW
  have hS := hI.hS
  have hPl := hI.hPl
  have hNx := hI.hNx
  have hLa := hI.hLa
  have hLo := hI.hLo
  have hTb := hI.hTb
  have hTh := hI.hTh
  have hFd := hI.hFd
  have hSn := hI.hSn
  have hSh := hI.hSh
  have hRan := hI.hRan
  have hLr := hI.hLr
  have hLt := hI.hLt
  have hgl := hI.hgl
  have hsz := hI.hsz
  have hcm := hI.hcm
  have hsl := hI.hsl
  have hkd := hI.hkd
  have hvv := hI.hvv
  have hli := hI.hli
  have hro := hI.hro
  have hrw := hI.hrw
  have htx := hI.htx
  have hsw := hI.hsw
  have hsx := hI.hsx
  have hsy := hI.hsy
  have hsh := hI.hsh
  have hle := hI.hle
  have hcl := hI.hcl
  have hwd := hI.hwd
  have hnu := hI.hnu
  have hwn := hI.hwn
  have hs1 := hI.hs1
  have hso := hI.hso
  have hB := hV.gm.cb
  have hB0 := hB.1
  have hPs := hV.gm.cs
  have hsp1 := hV.sp.1
  have htx1 := hV.tx.1
  have h451 := hV.gm.rx.1
  have h442 := hV.gm.rx.2.2.2.1
  have h443 := hV.gm.rx.2.2.2.2
  have h481 := hV.gm.l48.1
  have h501 := hV.gm.l50.1
  have h521 := hV.gm.l52.1
  have h541 := hV.gm.l54.1
  have h04 := hV.tb.1
  have hac1 := hV.ac.1
  have hac2 := hV.ac.2.1
  have hPl0 := hV.gm.cp
  refine Ev.run 3 (pc' := 4) (lv' := [(0, .ref 0), (1, .int (nI n)), (2, .int (nI part))]) (st' := [.int (nI 60), .int (nI 1), .int (nI n)]) (h' := HN g hl (RF rt)) rfl ?_
  refine Ev.call (a := 118) (as := [.int (nI n), .int (nI 1), .int (nI 60)]) (rest := []) (lv0 := [(0, .int (nI n)), (1, .int (nI 1)), (2, .int (nI 60))]) (Q1 := (fun z0 h' => z0 = some (.int (nI (bn (decide (1 ≤ n ∧ n ≤ 60))))) ∧ h' = HN g hl (RF rt))) rfl rfl (K_within _ _ _ _ (nI n) (nI 1) (nI 60) (by rw [in1b (by omega) (by omega)]; exact ⟨rfl, rfl⟩)) (fun r h' hr => ?_)
  obtain ⟨rfl, rfl⟩ := hr
  refine Ev_bn (fun hb7 => ?_) (fun hb7 => ?_)
  · have hhb7 : 1 ≤ n ∧ n ≤ 60 := of_decide_eq_true hb7
    refine Ev.run 4 (pc' := 13) (lv' := [(0, .ref 0), (1, .int (nI n)), (2, .int (nI part))]) (st' := [.int (nI 1), .int (nI 0), .int (nI part)]) (h' := HN g hl (RF rt)) rfl ?_
    refine Ev.call (a := 118) (as := [.int (nI part), .int (nI 0), .int (nI 1)]) (rest := []) (lv0 := [(0, .int (nI part)), (1, .int (nI 0)), (2, .int (nI 1))]) (Q1 := (fun z0 h' => z0 = some (.int (nI (bn (decide (part ≤ 1))))) ∧ h' = HN g hl (RF rt))) rfl rfl (K_within _ _ _ _ (nI part) (nI 0) (nI 1) (by rw [in0 (by omega) (by omega)]; exact ⟨rfl, rfl⟩)) (fun r h' hr => ?_)
    obtain ⟨rfl, rfl⟩ := hr
    refine Ev_bn (fun hb16 => ?_) (fun hb16 => ?_)
    · have hhb16 : part ≤ 1 := of_decide_eq_true hb16
      refine Ev.run 2 (pc' := 24) (lv' := [(0, .ref 0), (1, .int (nI n)), (2, .int (nI part))]) (st' := [.ref 0]) (h' := HN g hl (RF rt)) rfl ?_
      refine Ev.call (a := 115) (as := [.ref 0]) (rest := []) (lv0 := [(0, .ref 0)]) (Q1 := (fun z0 h' => z0 = some (.ref 128) ∧ ∃ (g1 : Nat → Nat → Nat) (s : Sx), h' = HN (ROs g1 128 s) hl (RF rt) ∧ Inv g1 hl rt ∧ RDY g1 ∧ Em g g1 ∧ RXs s g1 ∧ s.1 4 = 4294967295)) rfl rfl (K_look _ g hl rt hV (fun g1 h1 h2 h3 s h4 h5 => ⟨rfl, g1, s, rfl, h1, h2, h3, h4, h5⟩)) (fun r h' hr => ?_)
      obtain ⟨rfl, g1, s, rfl, hV1, hrd, hem, hrx, hlo⟩ := hr
      refine Ev.run 5 (pc' := 34) (lv' := [(5, .int (nI 1)), (4, .int (nI 0)), (3, .ref 128), (0, .ref 0), (1, .int (nI n)), (2, .int (nI part))]) (st' := []) (h' := HN (ROs g1 128 s) hl (RF rt)) rfl ?_
      refine K_meanl _ g1 hl rt hV1 (kpU g1 (g1 175)) (GX.kp hV1 hrd _) n part (by omega) (by omega) hpart n 0 s (by omega) (hrx.kp _) (hV1.gm.ry.kp _) (Nat.zero_le _) (fun T => ?_)
      have e := hq (ROs g1 128 T) (hV1.ro T)
      rw [kp175, (Em.ro g1 T).zmean (g1 175) n part] at e
      unfold rs_mean at e
      rw [if_pos (by omega), if_pos (by omega)] at e
      exact e
    · have hhb16 : ¬ (part ≤ 1) := of_decide_eq_false hb16
      refine Ev.run 2 (pc' := 22) (lv' := [(0, .ref 0), (1, .int (nI n)), (2, .int (nI part))]) (st' := [.long (Int64.ofNat 9223372036854775808)]) (h' := HN g hl (RF rt)) rfl ?_
      refine Ev.ret (v := some (.long (Int64.ofNat 9223372036854775808))) rfl ?_
      have e := hq g hV
      unfold rs_mean at e
      (repeat (first | rw [if_pos (by omega)] at e | rw [if_neg (by omega)] at e))
      exact e
  · have hhb7 : ¬ (1 ≤ n ∧ n ≤ 60) := of_decide_eq_false hb7
    refine Ev.run 2 (pc' := 22) (lv' := [(0, .ref 0), (1, .int (nI n)), (2, .int (nI part))]) (st' := [.long (Int64.ofNat 9223372036854775808)]) (h' := HN g hl (RF rt)) rfl ?_
    refine Ev.ret (v := some (.long (Int64.ofNat 9223372036854775808))) rfl ?_
    have e := hq g hV
    unfold rs_mean at e
    (repeat (first | rw [if_pos (by omega)] at e | rw [if_neg (by omega)] at e))
    exact e
theorem KLk_step {L : Nat} {xs : Nat → Int32} (d : Nat) (g : Nat → Nat → Nat) (hl : Nat → Nat → Int64) (rt : Nat × Nat × Nat × Nat) (hV : Inv g hl rt) (T T' : Sx) (v : Nat) (hT : plXs g (lwS g 1) T = (v, T')) (hB2 : SxB T) (hB3 : SxB T') (hv : v < 4294967296) (hT4 : T'.1 4 ≤ 4 ∨ T'.1 4 = 4294967295) (t k : Nat) (ht : t ≤ 60) (hk : k < g 166 48) {Q : Po} (hq : T'.1 4 < 2147483648 → ¬ T'.1 4 = g 192 k → Q (some (.int (nI k))) (HN (ROs g 128 T') hl (RF rt))) (k1 : ¬ T'.1 4 < 2147483648 → Ev L xs (d + 7) 103 9 [(3, .int (nI (t + 1))), (2, .int (nI k)), (1, .ref 128), (0, .ref 0)] [] (HN (ROs g 128 T') hl (RF rt)) Q) (k2 : T'.1 4 < 2147483648 → T'.1 4 = g 192 k → Ev L xs (d + 7) 103 9 [(3, .int (nI (t + 1))), (2, .int (nI (k + 1))), (1, .ref 128), (0, .ref 0)] [] (HN (ROs g 128 T') hl (RF rt)) Q) : Ev L xs (d + 7) 103 9 [(3, .int (nI t)), (2, .int (nI k)), (1, .ref 128), (0, .ref 0)] [] (HN (ROs g 128 T) hl (RF rt)) Q := by
  have hI := hV.mi
  have hW := hI.hW
  have hS := hI.hS
  have hPl := hI.hPl
  have hNx := hI.hNx
  have hLa := hI.hLa
  have hLo := hI.hLo
  have hTb := hI.hTb
  have hTh := hI.hTh
  have hFd := hI.hFd
  have hSn := hI.hSn
  have hSh := hI.hSh
  have hRan := hI.hRan
  have hLr := hI.hLr
  have hLt := hI.hLt
  have hgl := hI.hgl
  have hsz := hI.hsz
  have hcm := hI.hcm
  have hsl := hI.hsl
  have hkd := hI.hkd
  have hvv := hI.hvv
  have hli := hI.hli
  have hro := hI.hro
  have hrw := hI.hrw
  have htx := hI.htx
  have hsw := hI.hsw
  have hsx := hI.hsx
  have hsy := hI.hsy
  have hsh := hI.hsh
  have hle := hI.hle
  have hcl := hI.hcl
  have hwd := hI.hwd
  have hnu := hI.hnu
  have hwn := hI.hwn
  have hs1 := hI.hs1
  have hso := hI.hso
  have hB := hV.gm.cb
  have hB0 := hB.1
  have hPs := hV.gm.cs
  have hsp1 := hV.sp.1
  have htx1 := hV.tx.1
  have h451 := hV.gm.rx.1
  have h442 := hV.gm.rx.2.2.2.1
  have h443 := hV.gm.rx.2.2.2.2
  have h481 := hV.gm.l48.1
  have h501 := hV.gm.l50.1
  have h521 := hV.gm.l52.1
  have h541 := hV.gm.l54.1
  have h04 := hV.tb.1
  have hac1 := hV.ac.1
  have hac2 := hV.ac.2.1
  have hPl0 := hV.gm.cp
  have hx4 := hB3.2.2.2.2
  have hx2 := hB3.2.2.2.1
  have hx1 := hB3.2.1
  have hxl := hB3.1
  refine Ev.run 3 (pc' := (if nI 60 < nI t then 74 else 15)) (lv' := [(3, .int (nI t)), (2, .int (nI k)), (1, .ref 128), (0, .ref 0)]) (st' := []) (h' := HN (RO g 128 T.1 T.2.1 T.2.2.1 T.2.2.2) hl (RF rt)) rfl ?_
  refine Ev.ite (fun hc12 => ?_) (fun hc12 => ?_)
  · have hc12 : 60 < t := (nI_ltI (by omega) (by omega)).mp hc12
    exfalso
    omega
  · have hc12 : ¬ (60 < t) := fun z => hc12 ((nI_ltI (by omega) (by omega)).mpr z)
    refine Ev.run 6 (pc' := (if nI (g 54 1) ≤ nI k then 74 else 29)) (lv' := [(3, .int (nI t)), (2, .int (nI k)), (1, .ref 128), (0, .ref 0)]) (st' := []) (h' := HN (RO g 128 T.1 T.2.1 T.2.2.1 T.2.2.2) hl (RF rt)) rfl ?_
    refine Ev.ite (fun hc26 => ?_) (fun hc26 => ?_)
    · have hc26 : (g 54 1) ≤ k := (nI_leI (by omega) (by omega)).mp hc26
      exfalso
      omega
    · have hc26 : ¬ ((g 54 1) ≤ k) := fun z => hc26 ((nI_leI (by omega) (by omega)).mpr z)
      refine Ev.run 3 (pc' := 34) (lv' := [(3, .int (nI t)), (2, .int (nI k)), (1, .ref 128), (0, .ref 0)]) (st' := [.ref 128, .ref 12]) (h' := HN (RO g 128 T.1 T.2.1 T.2.2.1 T.2.2.2) hl (RF rt)) rfl ?_
      refine Ev.call (a := 36) (as := [.ref 12, .ref 128]) (rest := []) (lv0 := [(0, .ref 12), (1, .ref 128)]) (Q1 := (fun z0 h' => z0 = some (.int (nI v)) ∧ h' = HN (RO g 128 T'.1 T'.2.1 T'.2.2.1 T'.2.2.2) hl (RF rt))) rfl rfl (K128_playS _ _ _ hV.gok hB2 ⟨congrArg (fun z => some (Value.int (nI z.1))) hT, congrArg (fun z => HN (ROs g 128 z.2) hl (RF rt)) hT⟩) (fun r h' hr => ?_)
      obtain ⟨rfl, rfl⟩ := hr
      refine Ev.run 4 (pc' := (if nI (T'.1 4) < 0 then 68 else 45)) (lv' := [(3, .int (nI t)), (2, .int (nI k)), (1, .ref 128), (0, .ref 0)]) (st' := []) (h' := HN (RO g 128 T'.1 T'.2.1 T'.2.2.1 T'.2.2.2) hl (RF rt)) rfl ?_
      refine Ev.ite (fun hc42 => ?_) (fun hc42 => ?_)
      · have hc42 : 2147483648 ≤ (T'.1 4) := (nI_ltU0 (by omega)).mp hc42
        refine Ev.run 1 (pc' := 71) (lv' := [(3, .int (nI t + 1)), (2, .int (nI k)), (1, .ref 128), (0, .ref 0)]) (st' := []) (h' := HN (RO g 128 T'.1 T'.2.1 T'.2.2.1 T'.2.2.2) hl (RF rt)) rfl ?_
        refine Ev.lvE (congrArg (fun z => (3, Value.int z) :: [(2, .int (nI k)), (1, .ref 128), (0, .ref 0)]) (nI_1 _)) ?_
        refine Ev.run 1 (pc' := 9) (lv' := [(3, .int (nI (t + 1))), (2, .int (nI k)), (1, .ref 128), (0, .ref 0)]) (st' := []) (h' := HN (RO g 128 T'.1 T'.2.1 T'.2.2.1 T'.2.2.2) hl (RF rt)) rfl ?_
        exact Ev.wk (Ext.cons rfl rfl (Ext.cons rfl rfl (Ext.cons rfl rfl (Ext.cons rfl rfl (Ext.nil rfl))))) (k1 (by omega))
      · have hc42 : ¬ (2147483648 ≤ (T'.1 4)) := fun z => hc42 ((nI_ltU0 (by omega)).mpr z)
        refine Ev.run 6 (pc' := 57) (lv' := [(3, .int (nI t)), (2, .int (nI k)), (1, .ref 128), (0, .ref 0)]) (st' := [.int (nI k), .ref 54, .int (nI (T'.1 4))]) (h' := HN (RO g 128 T'.1 T'.2.1 T'.2.2.1 T'.2.2.2) hl (RF rt)) rfl ?_
        refine Ev.call (a := 44) (as := [.ref 54, .int (nI k)]) (rest := [.int (nI (T'.1 4))]) (lv0 := [(0, .ref 54), (1, .int (nI k))]) (Q1 := (fun z0 h' => z0 = some (.int (nI (g 192 k))) ∧ h' = HN (RO g 128 T'.1 T'.2.1 T'.2.2.1 T'.2.2.2) hl (RF rt))) rfl rfl (K_at _ (ROs g 128 T') _ _ 54 8 (ln54 rt) k (by omega) (show g 54 1 ≤ 8 by omega) ⟨congrArg (fun z => some (Value.int (nI z))) (show atLn g 54 k = g 192 k by rw [atE hV.gm.l54, if_pos (by omega)]), rfl⟩) (fun r h' hr => ?_)
        obtain ⟨rfl, rfl⟩ := hr
        have hb192 := hsh k (by omega)
        refine Ev.run 1 (pc' := (if nI (T'.1 4) = nI (g 192 k) then 65 else 63)) (lv' := [(3, .int (nI t)), (2, .int (nI k)), (1, .ref 128), (0, .ref 0)]) (st' := []) (h' := HN (RO g 128 T'.1 T'.2.1 T'.2.2.1 T'.2.2.2) hl (RF rt)) rfl ?_
        refine Ev.ite (fun hc60 => ?_) (fun hc60 => ?_)
        · have hc60 : (T'.1 4) = (g 192 k) := (nI_eqU (by omega) (by omega)).mp hc60
          refine Ev.run 1 (pc' := 68) (lv' := [(2, .int (nI k + 1)), (3, .int (nI t)), (1, .ref 128), (0, .ref 0)]) (st' := []) (h' := HN (RO g 128 T'.1 T'.2.1 T'.2.2.1 T'.2.2.2) hl (RF rt)) rfl ?_
          refine Ev.lvE (congrArg (fun z => (2, Value.int z) :: [(3, .int (nI t)), (1, .ref 128), (0, .ref 0)]) (nI_1 _)) ?_
          refine Ev.run 1 (pc' := 71) (lv' := [(3, .int (nI t + 1)), (2, .int (nI (k + 1))), (1, .ref 128), (0, .ref 0)]) (st' := []) (h' := HN (RO g 128 T'.1 T'.2.1 T'.2.2.1 T'.2.2.2) hl (RF rt)) rfl ?_
          refine Ev.lvE (congrArg (fun z => (3, Value.int z) :: [(2, .int (nI (k + 1))), (1, .ref 128), (0, .ref 0)]) (nI_1 _)) ?_
          refine Ev.run 1 (pc' := 9) (lv' := [(3, .int (nI (t + 1))), (2, .int (nI (k + 1))), (1, .ref 128), (0, .ref 0)]) (st' := []) (h' := HN (RO g 128 T'.1 T'.2.1 T'.2.2.1 T'.2.2.2) hl (RF rt)) rfl ?_
          exact Ev.wk (Ext.cons rfl rfl (Ext.cons rfl rfl (Ext.cons rfl rfl (Ext.cons rfl rfl (Ext.nil rfl))))) (k2 (by omega) (by omega))
        · have hc60 : ¬ ((T'.1 4) = (g 192 k)) := fun z => hc60 ((nI_eqU (by omega) (by omega)).mpr z)
          refine Ev.run 1 (pc' := 64) (lv' := [(3, .int (nI t)), (2, .int (nI k)), (1, .ref 128), (0, .ref 0)]) (st' := [.int (nI k)]) (h' := HN (RO g 128 T'.1 T'.2.1 T'.2.2.1 T'.2.2.2) hl (RF rt)) rfl ?_
          refine Ev.ret (v := some (.int (nI k))) rfl ?_
          exact hq (by omega) (by omega)
theorem KLk_end {L : Nat} {xs : Nat → Int32} (d : Nat) (g : Nat → Nat → Nat) (hl : Nat → Nat → Int64) (rt : Nat × Nat × Nat × Nat) (hV : Inv g hl rt) (T : Sx) (t k : Nat) (ht : t ≤ 61) (hk : k ≤ 100) (he : t = 61 ∨ g 166 48 ≤ k) {Q : Po} (hq : Q (some (.int (nI (if g 166 48 ≤ k then 4294967291 else k)))) (HN (ROs g 128 T) hl (RF rt))) : Ev L xs (d + 7) 103 9 [(3, .int (nI t)), (2, .int (nI k)), (1, .ref 128), (0, .ref 0)] [] (HN (ROs g 128 T) hl (RF rt)) Q := by
  have hI := hV.mi
  have hW := hI.hW
  have hS := hI.hS
  have hPl := hI.hPl
  have hNx := hI.hNx
  have hLa := hI.hLa
  have hLo := hI.hLo
  have hTb := hI.hTb
  have hTh := hI.hTh
  have hFd := hI.hFd
  have hSn := hI.hSn
  have hSh := hI.hSh
  have hRan := hI.hRan
  have hLr := hI.hLr
  have hLt := hI.hLt
  have hgl := hI.hgl
  have hsz := hI.hsz
  have hcm := hI.hcm
  have hsl := hI.hsl
  have hkd := hI.hkd
  have hvv := hI.hvv
  have hli := hI.hli
  have hro := hI.hro
  have hrw := hI.hrw
  have htx := hI.htx
  have hsw := hI.hsw
  have hsx := hI.hsx
  have hsy := hI.hsy
  have hsh := hI.hsh
  have hle := hI.hle
  have hcl := hI.hcl
  have hwd := hI.hwd
  have hnu := hI.hnu
  have hwn := hI.hwn
  have hs1 := hI.hs1
  have hso := hI.hso
  have hB := hV.gm.cb
  have hB0 := hB.1
  have hPs := hV.gm.cs
  have hsp1 := hV.sp.1
  have htx1 := hV.tx.1
  have h451 := hV.gm.rx.1
  have h442 := hV.gm.rx.2.2.2.1
  have h443 := hV.gm.rx.2.2.2.2
  have h481 := hV.gm.l48.1
  have h501 := hV.gm.l50.1
  have h521 := hV.gm.l52.1
  have h541 := hV.gm.l54.1
  have h04 := hV.tb.1
  have hac1 := hV.ac.1
  have hac2 := hV.ac.2.1
  have hPl0 := hV.gm.cp
  refine Ev.run 3 (pc' := (if nI 60 < nI t then 74 else 15)) (lv' := [(3, .int (nI t)), (2, .int (nI k)), (1, .ref 128), (0, .ref 0)]) (st' := []) (h' := HN (RO g 128 T.1 T.2.1 T.2.2.1 T.2.2.2) hl (RF rt)) rfl ?_
  refine Ev.ite (fun hc12 => ?_) (fun hc12 => ?_)
  · have hc12 : 60 < t := (nI_ltI (by omega) (by omega)).mp hc12
    refine Ev.run 6 (pc' := (if nI (g 54 1) ≤ nI k then 92 else 88)) (lv' := [(3, .int (nI t)), (2, .int (nI k)), (1, .ref 128), (0, .ref 0)]) (st' := []) (h' := HN (RO g 128 T.1 T.2.1 T.2.2.1 T.2.2.2) hl (RF rt)) rfl ?_
    refine Ev.ite (fun hc85 => ?_) (fun hc85 => ?_)
    · have hc85 : (g 54 1) ≤ k := (nI_leI (by omega) (by omega)).mp hc85
      refine Ev.run 1 (pc' := 94) (lv' := [(3, .int (nI t)), (2, .int (nI k)), (1, .ref 128), (0, .ref 0)]) (st' := [.int (nI 4294967291)]) (h' := HN (RO g 128 T.1 T.2.1 T.2.2.1 T.2.2.2) hl (RF rt)) rfl ?_
      refine Ev.ret (v := some (.int (nI 4294967291))) rfl ?_
      (repeat (first | rw [if_pos (by omega)] at hq | rw [if_neg (by omega)] at hq))
      first | exact hq | (exfalso; omega)
    · have hc85 : ¬ ((g 54 1) ≤ k) := fun z => hc85 ((nI_leI (by omega) (by omega)).mpr z)
      refine Ev.run 2 (pc' := 94) (lv' := [(3, .int (nI t)), (2, .int (nI k)), (1, .ref 128), (0, .ref 0)]) (st' := [.int (nI k)]) (h' := HN (RO g 128 T.1 T.2.1 T.2.2.1 T.2.2.2) hl (RF rt)) rfl ?_
      refine Ev.ret (v := some (.int (nI k))) rfl ?_
      (repeat (first | rw [if_pos (by omega)] at hq | rw [if_neg (by omega)] at hq))
      first | exact hq | (exfalso; omega)
  · have hc12 : ¬ (60 < t) := fun z => hc12 ((nI_ltI (by omega) (by omega)).mpr z)
    refine Ev.run 6 (pc' := (if nI (g 54 1) ≤ nI k then 74 else 29)) (lv' := [(3, .int (nI t)), (2, .int (nI k)), (1, .ref 128), (0, .ref 0)]) (st' := []) (h' := HN (RO g 128 T.1 T.2.1 T.2.2.1 T.2.2.2) hl (RF rt)) rfl ?_
    refine Ev.ite (fun hc26 => ?_) (fun hc26 => ?_)
    · have hc26 : (g 54 1) ≤ k := (nI_leI (by omega) (by omega)).mp hc26
      refine Ev.run 6 (pc' := (if nI (g 54 1) ≤ nI k then 92 else 88)) (lv' := [(3, .int (nI t)), (2, .int (nI k)), (1, .ref 128), (0, .ref 0)]) (st' := []) (h' := HN (RO g 128 T.1 T.2.1 T.2.2.1 T.2.2.2) hl (RF rt)) rfl ?_
      refine Ev.ite (fun hc85 => ?_) (fun hc85 => ?_)
      · have hc85 : (g 54 1) ≤ k := (nI_leI (by omega) (by omega)).mp hc85
        refine Ev.run 1 (pc' := 94) (lv' := [(3, .int (nI t)), (2, .int (nI k)), (1, .ref 128), (0, .ref 0)]) (st' := [.int (nI 4294967291)]) (h' := HN (RO g 128 T.1 T.2.1 T.2.2.1 T.2.2.2) hl (RF rt)) rfl ?_
        refine Ev.ret (v := some (.int (nI 4294967291))) rfl ?_
        (repeat (first | rw [if_pos (by omega)] at hq | rw [if_neg (by omega)] at hq))
        first | exact hq | (exfalso; omega)
      · have hc85 : ¬ ((g 54 1) ≤ k) := fun z => hc85 ((nI_leI (by omega) (by omega)).mpr z)
        refine Ev.run 2 (pc' := 94) (lv' := [(3, .int (nI t)), (2, .int (nI k)), (1, .ref 128), (0, .ref 0)]) (st' := [.int (nI k)]) (h' := HN (RO g 128 T.1 T.2.1 T.2.2.1 T.2.2.2) hl (RF rt)) rfl ?_
        refine Ev.ret (v := some (.int (nI k))) rfl ?_
        (repeat (first | rw [if_pos (by omega)] at hq | rw [if_neg (by omega)] at hq))
        first | exact hq | (exfalso; omega)
    · have hc26 : ¬ ((g 54 1) ≤ k) := fun z => hc26 ((nI_leI (by omega) (by omega)).mpr z)
      exfalso
      omega
theorem K_lookl {L : Nat} {xs : Nat → Int32} (d : Nat) (g : Nat → Nat → Nat) (hl : Nat → Nat → Int64) (rt : Nat × Nat × Nat × Nat) (hV : Inv g hl rt) {Q : Po} (P : Nat) : ∀ (f j k : Nat) (T : Sx) (G : Nat → Nat → Nat), f + j = 60 → k ≤ j → GX g G (lwS g 1) → RXs T G → RY G → (∀ T', Q (some (.int (nI (if g 166 48 ≤ lkF (g 166 48) P (g 192) f k G then 4294967291 else lkF (g 166 48) P (g 192) f k G)))) (HN (ROs g 128 T') hl (RF rt))) → Ev L xs (d + 7) 103 9 [(3, .int (nI (j + 1))), (2, .int (nI k)), (1, .ref 128), (0, .ref 0)] [] (HN (ROs g 128 T) hl (RF rt)) Q := by
  intro f
  induction f with
  | zero =>
    intro j k T G hf hk hg hx hz hq
    refine KLk_end d g hl rt hV T (j + 1) k (by omega) (by omega) (Or.inl (by omega)) ?_
    exact hq T
  | succ f ih =>
    intro j k T G hf hk hg hx hz hq
    by_cases hS : g 166 48 ≤ k
    · refine KLk_end d g hl rt hV T (j + 1) k (by omega) (by omega) (Or.inr hS) ?_
      have e := hq T
      rw [lkF_e (Or.inr (Or.inl hS))] at e
      exact e
    · obtain ⟨v, T', h1, h2, h3, h4, h5, h6⟩ := pl_both hg hx hz
      refine KLk_step d g hl rt hV T T' v h1 h2 h3 h4 h6 (j + 1) k (by omega) (by omega) (fun h7 h8 => ?_) (fun h7 => ?_) (fun h7 h8 => ?_)
      · rcases h5 with ⟨a1, a2, a3, a4⟩ | ⟨a1, a2, a3, a4, a5, a6⟩
        · omega
        · have e := hq T'
          unfold lkF at e
          rw [if_neg hS, if_neg a1, ← a4, if_pos h7, if_neg h8, if_neg hS] at e
          exact e
      · rcases h5 with ⟨a1, a2, a3, a4⟩ | ⟨a1, a2, a3, a4, a5, a6⟩
        · refine ih (j + 1) k T' G (by omega) (by omega) hg a3 hz (fun T2 => ?_)
          have e := hq T2
          rw [lkF_e (Or.inr (Or.inr a1))] at e
          rw [lkF_e (Or.inr (Or.inr a1))]
          exact e
        · refine ih (j + 1) k T' _ (by omega) (by omega) a6 a3 a5 (fun T2 => ?_)
          have e := hq T2
          unfold lkF at e
          rw [if_neg hS, if_neg a1, ← a4, if_neg h7] at e
          exact e
      · rcases h5 with ⟨a1, a2, a3, a4⟩ | ⟨a1, a2, a3, a4, a5, a6⟩
        · omega
        · refine ih (j + 1) (k + 1) T' _ (by omega) (by omega) a6 a3 a5 (fun T2 => ?_)
          have e := hq T2
          unfold lkF at e
          rw [if_neg hS, if_neg a1, ← a4, if_pos h7, if_pos h8] at e
          exact e
theorem K_looked {L : Nat} {xs : Nat → Int32} (d : Nat) (g : Nat → Nat → Nat) (hl : Nat → Nat → Int64) (rt : Nat × Nat × Nat × Nat) (hV : Inv g hl rt)  {Q : Po} (hq : ∀ g2, Inv g2 hl rt → Q (some (.int (nI (rs_looked g2 (kpU g2 (g2 175)))))) (HN g2 hl (RF rt))) : Ev L xs (d + 8) 103 0 [(0, .ref 0)] [] (HN g hl (RF rt)) Q := by
  have hI := hV.mi
  have hW := hI.hW
  have hS := hI.hS
  have hPl := hI.hPl
  have hNx := hI.hNx
  have hLa := hI.hLa
  have hLo := hI.hLo
  have hTb := hI.hTb
  have hTh := hI.hTh
  have hFd := hI.hFd
  have hSn := hI.hSn
  have hSh := hI.hSh
  have hRan := hI.hRan
  have hLr := hI.hLr
  have hLt := hI.hLt
  have hgl := hI.hgl
  have hsz := hI.hsz
  have hcm := hI.hcm
  have hsl := hI.hsl
  have hkd := hI.hkd
  have hvv := hI.hvv
  have hli := hI.hli
  have hro := hI.hro
  have hrw := hI.hrw
  have htx := hI.htx
  have hsw := hI.hsw
  have hsx := hI.hsx
  have hsy := hI.hsy
  have hsh := hI.hsh
  have hle := hI.hle
  have hcl := hI.hcl
  have hwd := hI.hwd
  have hnu := hI.hnu
  have hwn := hI.hwn
  have hs1 := hI.hs1
  have hso := hI.hso
  have hB := hV.gm.cb
  have hB0 := hB.1
  have hPs := hV.gm.cs
  have hsp1 := hV.sp.1
  have htx1 := hV.tx.1
  have h451 := hV.gm.rx.1
  have h442 := hV.gm.rx.2.2.2.1
  have h443 := hV.gm.rx.2.2.2.2
  have h481 := hV.gm.l48.1
  have h501 := hV.gm.l50.1
  have h521 := hV.gm.l52.1
  have h541 := hV.gm.l54.1
  have h04 := hV.tb.1
  have hac1 := hV.ac.1
  have hac2 := hV.ac.2.1
  have hPl0 := hV.gm.cp
  refine Ev.run 1 (pc' := 1) (lv' := [(0, .ref 0)]) (st' := [.ref 0]) (h' := HN g hl (RF rt)) rfl ?_
  refine Ev.call (a := 115) (as := [.ref 0]) (rest := []) (lv0 := [(0, .ref 0)]) (Q1 := (fun z0 h' => z0 = some (.ref 128) ∧ ∃ (g1 : Nat → Nat → Nat) (s : Sx), h' = HN (ROs g1 128 s) hl (RF rt) ∧ Inv g1 hl rt ∧ RDY g1 ∧ Em g g1 ∧ RXs s g1 ∧ s.1 4 = 4294967295)) rfl rfl (K_look _ g hl rt hV (fun g1 h1 h2 h3 s h4 h5 => ⟨rfl, g1, s, rfl, h1, h2, h3, h4, h5⟩)) (fun r h' hr => ?_)
  obtain ⟨rfl, g1, s, rfl, hV1, hrd, hem, hrx, hlo⟩ := hr
  refine Ev.run 5 (pc' := 9) (lv' := [(3, .int (nI 1)), (2, .int (nI 0)), (1, .ref 128), (0, .ref 0)]) (st' := []) (h' := HN (ROs g1 128 s) hl (RF rt)) rfl ?_
  refine K_lookl _ g1 hl rt hV1 0 60 0 0 s (kpU g1 (g1 175)) (by omega) (by omega) (GX.kp hV1 hrd _) (hrx.kp _) (hV1.gm.ry.kp _) (fun T => ?_)
  have e := hq (ROs g1 128 T) (hV1.ro T)
  rw [kp175, (Em.ro g1 T).zlooked (g1 175)] at e
  exact e
