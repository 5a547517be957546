/-! the reference: who loses first, asked for; sums -/
noncomputable def rs_ends (g : Nat → Nat → Nat) (r : Nat → Nat) (x : Nat) : Nat := if x ≤ 2 then (if x = 0 then (flS g r 4294967295).1 else if x = 1 then (flS g r 4294967295).2.1 else (flS g r 4294967295).2.2) else 4294967295
noncomputable def rs_by (g : Nat → Nat → Nat) (r : Nat → Nat) (x : Nat) : Nat := if x ≤ 3 then (if alS g = 0 then 4294967293 else if g 166 9 = 12 then 4294967293 else (flS g r x).1) else 4294967295
theorem C_endsQ {L : Nat} {xs : Nat → Int32} (d : Nat) (g : Nat → Nat → Nat) (hl : Nat → Nat → Int64) (rt : Nat × Nat × Nat × Nat) (hI : MI g) (hK : KW g) (x : Nat) (hx : x < 2 ^ 32) (r w v : Nat → Nat) (hs : SmH g r v)  {Q : Po} (hq : ∀ (g1 : Nat → Nat → Nat) (r' w' v' : Nat → Nat), Cy g g1 → SmH g r' v' → Q (some (.int (nI (rs_ends g r x)))) (HN (U g1 r' w' v') hl (RF rt))) : Ev L xs (d + 12) 202 0 [(0, .ref 166), (1, .int (nI x))] [] (HN (U g r w v) hl (RF rt)) Q := by
  have hW := hI.hW
  have hS := hI.hS
  have hPl := hI.hPl
  have hNx := hI.hNx
  have hLa := hI.hLa
  have hLo := hI.hLo
  have hTb := hI.hTb
  have hTh := hI.hTh
  have hFd := hI.hFd
  have hSn := hI.hSn
  have hSh := hI.hSh
  have hRan := hI.hRan
  have hLr := hI.hLr
  have hLt := hI.hLt
  have hgl := hI.hgl
  have hsz := hI.hsz
  have hcm := hI.hcm
  have hsl := hI.hsl
  have hkd := hI.hkd
  have hvv := hI.hvv
  have hli := hI.hli
  have hro := hI.hro
  have hrw := hI.hrw
  have htx := hI.htx
  have hsw := hI.hsw
  have hsx := hI.hsx
  have hsy := hI.hsy
  have hsh := hI.hsh
  have hle := hI.hle
  have hcl := hI.hcl
  have hwd := hI.hwd
  have hnu := hI.hnu
  have hwn := hI.hwn
  have hs1 := hI.hs1
  have hso := hI.hso
  refine Ev.run 4 (pc' := 4) (lv' := [(0, .ref 166), (1, .int (nI x))]) (st' := [.int (nI 2), .int (nI 0), .int (nI x), .ref 166]) (h' := HN (U g r w v) hl (RF rt)) rfl ?_
  refine Ev.call (a := 126) (as := [.ref 166, .int (nI x), .int (nI 0), .int (nI 2)]) (rest := []) (lv0 := [(0, .ref 166), (1, .int (nI x)), (2, .int (nI 0)), (3, .int (nI 2))]) (Q1 := (fun z0 h' => z0 = some (.int (nI (bn (decide (x ≤ 2))))) ∧ h' = HN (U g r w v) hl (RF rt))) rfl rfl (C_in _ _ _ _ (nI x) (nI 0) (nI 2) (by rw [in0 (by omega) (by omega)]; exact ⟨rfl, rfl⟩)) (fun r h' hr => ?_)
  obtain ⟨rfl, rfl⟩ := hr
  refine Ev_bn (fun hb7 => ?_) (fun hb7 => ?_)
  · have hhb7 : x ≤ 2 := of_decide_eq_true hb7
    refine Ev.run 3 (pc' := 14) (lv' := [(0, .ref 166), (1, .int (nI x))]) (st' := [.int (nI 4294967295), .ref 166]) (h' := HN (U g r w v) hl (RF rt)) rfl ?_
    refine Ev.call (a := 201) (as := [.ref 166, .int (nI 4294967295)]) (rest := []) (lv0 := [(0, .ref 166), (1, .int (nI 4294967295))]) (Q1 := (fun z0 h' => ∃ g1 r1 w1 v1, Cy g g1 ∧ SmH g r1 v1 ∧ g1 166 42 = (flS g r 4294967295).2.1 ∧ g1 166 43 = (flS g r 4294967295).2.2 ∧ z0 = some (.int (nI (flS g r 4294967295).1)) ∧ h' = HN (U g1 r1 w1 v1) hl (RF rt))) rfl rfl (C_firstLoser _ _ _ _ hI hK 4294967295 (tOK_n g) (by omega) r w v hs (fun g1 r w v h1 h2 h3 h4 => ⟨g1, r, w, v, h1, h2, h3, h4, rfl, rfl⟩)) (fun r h' hr => ?_)
    obtain ⟨G86, r86, w86, v86, hcy86, hsm86, he86, hf86, rfl, rfl⟩ := hr
    have hI86 := hI.mcy hcy86
    have hs86 := hsm86.scy hcy86
    have hK86 := hK.cx hcy86.cx
    refine Ev.run 3 (pc' := (if nI x = 0 then 22 else 26)) (lv' := [(2, .int (nI ((flS g r 4294967295).1))), (0, .ref 166), (1, .int (nI x))]) (st' := []) (h' := HN (U G86 r86 w86 v86) hl (RF rt)) rfl ?_
    refine Ev.ite (fun hc19 => ?_) (fun hc19 => ?_)
    · have hc19 : x = 0 := (nI_eqU0 (by omega)).mp hc19
      refine Ev.run 2 (pc' := 42) (lv' := [(2, .int (nI ((flS g r 4294967295).1))), (0, .ref 166), (1, .int (nI x))]) (st' := [.int (nI ((flS g r 4294967295).1))]) (h' := HN (U G86 r86 w86 v86) hl (RF rt)) rfl ?_
      refine Ev.ret (v := some (.int (nI ((flS g r 4294967295).1)))) rfl ?_
      have hx := hq G86 r86 w86 v86 hcy86 hsm86
      unfold rs_ends at hx
      rw [if_pos (by omega), if_pos hc19] at hx
      exact hx
    · have hc19 : ¬ (x = 0) := fun z => hc19 ((nI_eqU0 (by omega)).mpr z)
      refine Ev.run 3 (pc' := (if nI x = nI 1 then 31 else 38)) (lv' := [(2, .int (nI ((flS g r 4294967295).1))), (0, .ref 166), (1, .int (nI x))]) (st' := []) (h' := HN (U G86 r86 w86 v86) hl (RF rt)) rfl ?_
      refine Ev.ite (fun hc28 => ?_) (fun hc28 => ?_)
      · have hc28 : x = 1 := (nI_eqU (by omega) (by omega)).mp hc28
        refine Ev.run 3 (pc' := 42) (lv' := [(2, .int (nI ((flS g r 4294967295).1))), (0, .ref 166), (1, .int (nI x))]) (st' := [.int (nI (G86 166 42))]) (h' := HN (U G86 r86 w86 v86) hl (RF rt)) rfl ?_
        refine Ev.ret (v := some (.int (nI (G86 166 42)))) rfl ?_
        have hx := hq G86 r86 w86 v86 hcy86 hsm86
        unfold rs_ends at hx
        rw [if_pos (by omega), if_neg hc19, if_pos hc28] at hx
        rw [← he86] at hx
        exact hx
      · have hc28 : ¬ (x = 1) := fun z => hc28 ((nI_eqU (by omega) (by omega)).mpr z)
        refine Ev.run 2 (pc' := 42) (lv' := [(2, .int (nI ((flS g r 4294967295).1))), (0, .ref 166), (1, .int (nI x))]) (st' := [.int (nI (G86 166 43))]) (h' := HN (U G86 r86 w86 v86) hl (RF rt)) rfl ?_
        refine Ev.ret (v := some (.int (nI (G86 166 43)))) rfl ?_
        have hx := hq G86 r86 w86 v86 hcy86 hsm86
        unfold rs_ends at hx
        rw [if_pos (by omega), if_neg hc19, if_neg hc28] at hx
        rw [← hf86] at hx
        exact hx
  · have hhb7 : ¬ (x ≤ 2) := of_decide_eq_false hb7
    refine Ev.run 2 (pc' := 11) (lv' := [(0, .ref 166), (1, .int (nI x))]) (st' := [.int (nI 4294967295)]) (h' := HN (U g r w v) hl (RF rt)) rfl ?_
    refine Ev.ret (v := some (.int (nI 4294967295))) rfl ?_
    have hx := hq g r w v (Cy.refl g) hs
    unfold rs_ends at hx
    rw [if_neg (by omega)] at hx
    exact hx
theorem C_by {L : Nat} {xs : Nat → Int32} (d : Nat) (g : Nat → Nat → Nat) (hl : Nat → Nat → Int64) (rt : Nat × Nat × Nat × Nat) (hI : MI g) (hK : KW g) (x : Nat) (hx : x < 2 ^ 32) (r w v : Nat → Nat) (hs : SmH g r v)  {Q : Po} (hq : ∀ (g1 : Nat → Nat → Nat) (r' w' v' : Nat → Nat), Cy g g1 → SmH g r' v' → Q (some (.int (nI (rs_by g r x)))) (HN (U g1 r' w' v') hl (RF rt))) : Ev L xs (d + 12) 203 0 [(0, .ref 166), (1, .int (nI x))] [] (HN (U g r w v) hl (RF rt)) Q := by
  have hW := hI.hW
  have hS := hI.hS
  have hPl := hI.hPl
  have hNx := hI.hNx
  have hLa := hI.hLa
  have hLo := hI.hLo
  have hTb := hI.hTb
  have hTh := hI.hTh
  have hFd := hI.hFd
  have hSn := hI.hSn
  have hSh := hI.hSh
  have hRan := hI.hRan
  have hLr := hI.hLr
  have hLt := hI.hLt
  have hgl := hI.hgl
  have hsz := hI.hsz
  have hcm := hI.hcm
  have hsl := hI.hsl
  have hkd := hI.hkd
  have hvv := hI.hvv
  have hli := hI.hli
  have hro := hI.hro
  have hrw := hI.hrw
  have htx := hI.htx
  have hsw := hI.hsw
  have hsx := hI.hsx
  have hsy := hI.hsy
  have hsh := hI.hsh
  have hle := hI.hle
  have hcl := hI.hcl
  have hwd := hI.hwd
  have hnu := hI.hnu
  have hwn := hI.hwn
  have hs1 := hI.hs1
  have hso := hI.hso
  refine Ev.run 4 (pc' := 4) (lv' := [(0, .ref 166), (1, .int (nI x))]) (st' := [.int (nI 3), .int (nI 0), .int (nI x), .ref 166]) (h' := HN (U g r w v) hl (RF rt)) rfl ?_
  refine Ev.call (a := 126) (as := [.ref 166, .int (nI x), .int (nI 0), .int (nI 3)]) (rest := []) (lv0 := [(0, .ref 166), (1, .int (nI x)), (2, .int (nI 0)), (3, .int (nI 3))]) (Q1 := (fun z0 h' => z0 = some (.int (nI (bn (decide (x ≤ 3))))) ∧ h' = HN (U g r w v) hl (RF rt))) rfl rfl (C_in _ _ _ _ (nI x) (nI 0) (nI 3) (by rw [in0 (by omega) (by omega)]; exact ⟨rfl, rfl⟩)) (fun r h' hr => ?_)
  obtain ⟨rfl, rfl⟩ := hr
  refine Ev_bn (fun hb7 => ?_) (fun hb7 => ?_)
  · have hhb7 : x ≤ 3 := of_decide_eq_true hb7
    refine Ev.run 2 (pc' := 13) (lv' := [(0, .ref 166), (1, .int (nI x))]) (st' := [.ref 166]) (h' := HN (U g r w v) hl (RF rt)) rfl ?_
    refine Ev.call (a := 178) (as := [.ref 166]) (rest := []) (lv0 := [(0, .ref 166)]) (Q1 := (fun z0 h' => z0 = some (.int (nI (alS g))) ∧ h' = HN (U g r w v) hl (RF rt))) rfl rfl (C_aliveSet _ _ _ _ (hI.mU hs) ⟨rfl, rfl⟩) (fun r h' hr => ?_)
    obtain ⟨rfl, rfl⟩ := hr
    have has := alS_lt hI
    refine Ev.run 1 (pc' := (if nI (alS g) = 0 then 28 else 19)) (lv' := [(0, .ref 166), (1, .int (nI x))]) (st' := []) (h' := HN (U g r w v) hl (RF rt)) rfl ?_
    refine Ev.ite (fun hc16 => ?_) (fun hc16 => ?_)
    · have hc16 : (alS g) = 0 := (nI_eqU0 (by omega)).mp hc16
      refine Ev.run 2 (pc' := 38) (lv' := [(0, .ref 166), (1, .int (nI x))]) (st' := [.int (nI 4294967293)]) (h' := HN (U g r w v) hl (RF rt)) rfl ?_
      refine Ev.ret (v := some (.int (nI 4294967293))) rfl ?_
      have hx := hq g r w v (Cy.refl g) hs
      unfold rs_by at hx
      rw [if_pos (by omega), if_pos hc16] at hx
      exact hx
    · have hc16 : ¬ ((alS g) = 0) := fun z => hc16 ((nI_eqU0 (by omega)).mpr z)
      refine Ev.run 4 (pc' := (if nI (g 166 9) = nI 12 then 28 else 33)) (lv' := [(0, .ref 166), (1, .int (nI x))]) (st' := []) (h' := HN (U g r w v) hl (RF rt)) rfl ?_
      refine Ev.ite (fun hc25 => ?_) (fun hc25 => ?_)
      · have hc25 : (g 166 9) = 12 := (nI_eqU (by omega) (by omega)).mp hc25
        refine Ev.run 2 (pc' := 38) (lv' := [(0, .ref 166), (1, .int (nI x))]) (st' := [.int (nI 4294967293)]) (h' := HN (U g r w v) hl (RF rt)) rfl ?_
        refine Ev.ret (v := some (.int (nI 4294967293))) rfl ?_
        have hx := hq g r w v (Cy.refl g) hs
        unfold rs_by at hx
        rw [if_pos (by omega), if_neg hc16, if_pos hc25] at hx
        exact hx
      · have hc25 : ¬ ((g 166 9) = 12) := fun z => hc25 ((nI_eqU (by omega) (by omega)).mpr z)
        refine Ev.run 2 (pc' := 35) (lv' := [(0, .ref 166), (1, .int (nI x))]) (st' := [.int (nI x), .ref 166]) (h' := HN (U g r w v) hl (RF rt)) rfl ?_
        refine Ev.call (a := 201) (as := [.ref 166, .int (nI x)]) (rest := []) (lv0 := [(0, .ref 166), (1, .int (nI x))]) (Q1 := (fun z0 h' => ∃ g1 r1 w1 v1, Cy g g1 ∧ SmH g r1 v1 ∧ g1 166 42 = (flS g r x).2.1 ∧ g1 166 43 = (flS g r x).2.2 ∧ z0 = some (.int (nI (flS g r x).1)) ∧ h' = HN (U g1 r1 w1 v1) hl (RF rt))) rfl rfl (C_firstLoser _ _ _ _ hI hK x (Or.inr ⟨by omega, by omega⟩) (by omega) r w v hs (fun g1 r w v h1 h2 h3 h4 => ⟨g1, r, w, v, h1, h2, h3, h4, rfl, rfl⟩)) (fun r h' hr => ?_)
        obtain ⟨G87, r87, w87, v87, hcy87, hsm87, he87, hf87, rfl, rfl⟩ := hr
        have hI87 := hI.mcy hcy87
        have hs87 := hsm87.scy hcy87
        have hK87 := hK.cx hcy87.cx
        refine Ev.ret (v := some (.int (nI ((flS g r x).1)))) rfl ?_
        have hx := hq G87 r87 w87 v87 hcy87 hsm87
        unfold rs_by at hx
        rw [if_pos (by omega), if_neg hc16, if_neg hc25] at hx
        exact hx
  · have hhb7 : ¬ (x ≤ 3) := of_decide_eq_false hb7
    refine Ev.run 2 (pc' := 11) (lv' := [(0, .ref 166), (1, .int (nI x))]) (st' := [.int (nI 4294967295)]) (h' := HN (U g r w v) hl (RF rt)) rfl ?_
    refine Ev.ret (v := some (.int (nI 4294967295))) rfl ?_
    have hx := hq g r w v (Cy.refl g) hs
    unfold rs_by at hx
    rw [if_neg (by omega)] at hx
    exact hx
theorem nI_i2l {a : Nat} (h : a < 2 ^ 31) : (nI a).toInt64 = Int64.ofNat a := by
  refine Int64.toInt_inj.mp ?_
  rw [Int32.toInt_toInt64, Int64.toInt_ofNat_of_lt (by omega), nI_toInt h]
def lwS1 (a b part : Nat) : Nat := if part = 0 then a / Nat.gcd a b else b / Nat.gcd a b
theorem C_divisor {L : Nat} {xs : Nat → Int32} (d : Nat) (g : Nat → Nat → Nat) (hl : Nat → Nat → Int64) (rt : Nat × Nat × Nat × Nat) (a b : Nat) (ha : a < 2 ^ 31) (hb : b < 2 ^ 31) {Q : Po} (hq : Q (some (.int (nI (Nat.gcd a b)))) (HN g hl (RF rt))) : Ev L xs d 214 0 [(0, .ref 166), (1, .int (nI a)), (2, .int (nI b))] [] (HN g hl (RF rt)) Q := by
  refine Ev.run 4 (pc' := 5) (lv' := [(4, .int (nI b)), (3, .int (nI a)), (0, .ref 166), (1, .int (nI a)), (2, .int (nI b))]) (st' := []) (h' := HN g hl (RF rt)) rfl ?_
  have key : ∀ (f p q : Nat), q < f → p < 2 ^ 31 → q < 2 ^ 31 → Nat.gcd p q = Nat.gcd a b → Ev L xs d 214 5 [(4, .int (nI q)), (3, .int (nI p)), (0, .ref 166), (1, .int (nI a)), (2, .int (nI b))] [] (HN g hl (RF rt)) Q := by
    intro f
    induction f with
    | zero => intro p q h1; omega
    | succ f ih =>
      intro p q h1 h2 h3 hg
      refine Ev.run 2 (pc' := (if nI q = 0 then 26 else 10)) (lv' := [(4, .int (nI q)), (3, .int (nI p)), (0, .ref 166), (1, .int (nI a)), (2, .int (nI b))]) (st' := []) (h' := HN g hl (RF rt)) rfl ?_
      refine Ev.ite (fun hc7 => ?_) (fun hc7 => ?_)
      · have hc7 : q = 0 := (nI_eqU0 (by omega)).mp hc7
        refine Ev.run 1 (pc' := 27) (lv' := [(4, .int (nI q)), (3, .int (nI p)), (0, .ref 166), (1, .int (nI a)), (2, .int (nI b))]) (st' := [.int (nI p)]) (h' := HN g hl (RF rt)) rfl ?_
        refine Ev.ret (v := some (.int (nI p))) rfl ?_
        rw [hc7, Nat.gcd_zero_right] at hg
        rw [← hg] at hq
        exact hq
      · have hc7 : ¬ (q = 0) := fun z => hc7 ((nI_eqU0 (by omega)).mpr z)
        refine Ev.run 2 (pc' := 13) (lv' := [(4, .int (nI q)), (3, .int (nI p)), (0, .ref 166), (1, .int (nI a)), (2, .int (nI b))]) (st' := [.int (nI q), .int (nI p)]) (h' := HN g hl (RF rt)) rfl ?_
        refine Ev_irem rfl (by omega) (by omega) (by omega) ?_
        have hmd13 := Nat.mod_lt (p) (show 0 < q by omega)
        refine Ev.run 6 (pc' := 5) (lv' := [(4, .int (nI (p % q))), (3, .int (nI q)), (5, .int (nI (p % q))), (0, .ref 166), (1, .int (nI a)), (2, .int (nI b))]) (st' := []) (h' := HN g hl (RF rt)) rfl ?_
        exact Ev.wk (Ext.cons rfl rfl (Ext.cons rfl rfl (Ext.cons rfl rfl (Ext.cons rfl rfl (Ext.cons rfl rfl (Ext.nil rfl)))))) (ih q (p % q) (by have := Nat.mod_lt p (show 0 < q by omega); omega) (by omega) (by have := Nat.mod_lt p (show 0 < q by omega); omega) (by rw [← hg, Nat.gcd_comm p q, Nat.gcd_rec q p, Nat.gcd_comm]))
  exact key (b + 1) a b (Nat.lt_succ_self _) ha hb rfl
