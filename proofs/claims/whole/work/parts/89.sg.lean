/-! the class: all is made ready for turns and questions -/
theorem Fr.k59 (g : Nat → Nat → Nat) (v : Nat → Nat) : Fr g (ur g 59 v) := by
  have hx : ∀ a, a ≠ 59 → ur g 59 v a = g a := fun a ha => by
    unfold ur
    funext b
    rw [if_neg ha]
  exact ⟨fun a ha => hx a (by unfold okC at ha; omega), fun j _ _ _ _ _ _ _ => by rw [hx 166 (by decide)], fun b _ => by rw [hx 173 (by decide)], fun k _ => by rw [hx 175 (by decide)]⟩
theorem Fr.k18 (g : Nat → Nat → Nat) (v : Nat → Nat) : Fr g (ur g 18 v) := by
  have hx : ∀ a, a ≠ 18 → ur g 18 v a = g a := fun a ha => by
    unfold ur
    funext b
    rw [if_neg ha]
  exact ⟨fun a ha => hx a (by unfold okC at ha; omega), fun j _ _ _ _ _ _ _ => by rw [hx 166 (by decide)], fun b _ => by rw [hx 173 (by decide)], fun k _ => by rw [hx 175 (by decide)]⟩
theorem Inv.w59 {g : Nat → Nat → Nat} {hl : Nat → Nat → Int64} {rt : Nat × Nat × Nat × Nat} (h : Inv g hl rt) {v : Nat → Nat} (hv : ∀ j, j < 5 → v j < 4096) : Inv (ur g 59 v) hl rt :=
  h.fr (Fr.k59 g v) ((Em.ownr g (by decide) v).mI h.mi) hv h.k18
theorem Inv.w18 {g : Nat → Nat → Nat} {hl : Nat → Nat → Int64} {rt : Nat × Nat × Nat × Nat} (h : Inv g hl rt) {v : Nat → Nat} (hv : ∀ j, j < 7 → v j < 4096) : Inv (ur g 18 v) hl rt :=
  h.fr (Fr.k18 g v) ((Em.ownr g (by decide) v).mI h.mi) h.k59 hv
theorem ur_cm (g : Nat → Nat → Nat) {a b : Nat} (h : a ≠ b) (w v w2 : Nat → Nat) : ur (ur (ur g a w) b v) a w2 = ur (ur g a w2) b v := by
  funext x y
  unfold ur
  by_cases h1 : x = a
  · rw [if_pos h1, if_neg (by omega), if_pos h1]
  · rw [if_neg h1]
    by_cases h2 : x = b
    · rw [if_pos h2, if_pos h2]
    · rw [if_neg h2, if_neg h2, if_neg h1, if_neg h1]

theorem K_recall {L : Nat} {xs : Nat → Int32} (d : Nat) (g : Nat → Nat → Nat) (hl : Nat → Nat → Int64) (rt : Nat × Nat × Nat × Nat) (hV : Inv g hl rt)  {Q : Po} (hq : ∀ w v : Nat → Nat, (∀ i, i < g 166 6 → v i = knS g i) → (∀ j, j < 5 → v j < 4096) → Q none (HN (ur (ur g (rt.2.2.1 + 2) w) 59 v) hl (RF rt))) : Ev L xs (d + 4) 27 0 [(0, .ref 12)] [] (HN g hl (RF rt)) Q := by
  have hI := hV.mi
  have hW := hI.hW
  have hS := hI.hS
  have hPl := hI.hPl
  have hNx := hI.hNx
  have hLa := hI.hLa
  have hLo := hI.hLo
  have hTb := hI.hTb
  have hTh := hI.hTh
  have hFd := hI.hFd
  have hSn := hI.hSn
  have hSh := hI.hSh
  have hRan := hI.hRan
  have hLr := hI.hLr
  have hLt := hI.hLt
  have hgl := hI.hgl
  have hsz := hI.hsz
  have hcm := hI.hcm
  have hsl := hI.hsl
  have hkd := hI.hkd
  have hvv := hI.hvv
  have hli := hI.hli
  have hro := hI.hro
  have hrw := hI.hrw
  have htx := hI.htx
  have hsw := hI.hsw
  have hsx := hI.hsx
  have hsy := hI.hsy
  have hsh := hI.hsh
  have hle := hI.hle
  have hcl := hI.hcl
  have hwd := hI.hwd
  have hnu := hI.hnu
  have hwn := hI.hwn
  have hs1 := hI.hs1
  have hso := hI.hso
  have hB := hV.gm.cb
  have hB0 := hB.1
  have hPs := hV.gm.cs
  have hsp1 := hV.sp.1
  have htx1 := hV.tx.1
  have h451 := hV.gm.rx.1
  have h442 := hV.gm.rx.2.2.2.1
  have h443 := hV.gm.rx.2.2.2.2
  have h481 := hV.gm.l48.1
  have h501 := hV.gm.l50.1
  have h521 := hV.gm.l52.1
  have h541 := hV.gm.l54.1
  have h04 := hV.tb.1
  have hac1 := hV.ac.1
  have hac2 := hV.ac.2.1
  have hPl0 := hV.gm.cp
  have hcc := (hV.th.kc hI.hTb).2
  refine Ev.run 2 (pc' := 2) (lv' := [(1, .int (nI 0)), (0, .ref 12)]) (st' := []) (h' := HN g hl (RF rt)) rfl ?_
  refine Ev.hp (congrArg (fun z => HN z hl (RF rt)) (show g = ur (ur g (rt.2.2.1 + 2) (g (rt.2.2.1 + 2))) 59 (g 59) by rw [ur_self]; exact (ur_self g 59).symm)) ?_
  refine for_ind (g 166 6) (fun k => ∀ w v : Nat → Nat, (∀ i, i < k → v i = knS g i) → (∀ j, j < 5 → v j < 4096) → Ev L xs (d + 4) 27 2 [(1, .int (nI k)), (0, .ref 12)] [] (HN (ur (ur g (rt.2.2.1 + 2) w) 59 v) hl (RF rt)) Q) (fun k hk hnext => ?_) 0 (Nat.zero_le _) _ _ (fun i hi => absurd hi (Nat.not_lt_zero _)) hV.k59
  intro w v hv1 hv2
  have hVu := (hV.opw w).w59 hv2
  have hem : Em g (ur (ur g (rt.2.2.1 + 2) w) 59 v) := ((Em.ownr g (c := rt.2.2.1 + 2) (by omega) w).trans (Em.ownr _ (c := 59) (by decide) v))
  have hP12 : (ur (ur g (rt.2.2.1 + 2) w) 59 v) 12 2 = g 166 6 := by rw [hVu.gm.cs, hem.f6]
  refine Ev.run 4 (pc' := (if nI ((ur (ur g (rt.2.2.1 + 2) w) 59 v) 12 2) ≤ nI k then 39 else 10)) (lv' := [(1, .int (nI k)), (0, .ref 12)]) (st' := []) (h' := HN (ur (ur g (rt.2.2.1 + 2) w) 59 v) hl (RF rt)) rfl ?_
  refine Ev.ite (fun hc7 => ?_) (fun hc7 => ?_)
  · have hc7 : ((ur (ur g (rt.2.2.1 + 2) w) 59 v) 12 2) ≤ k := (nI_leI (by omega) (by omega)).mp hc7
    refine Ev.ret (v := none) rfl ?_
    have hkn : k = g 166 6 := by omega
    rw [hkn] at hv1
    exact hq w v hv1 hv2
  · have hc7 : ¬ (((ur (ur g (rt.2.2.1 + 2) w) 59 v) 12 2) ≤ k) := fun z => hc7 ((nI_leI (by omega) (by omega)).mpr z)
    refine Ev.run 8 (pc' := 24) (lv' := [(1, .int (nI k)), (0, .ref 12)]) (st' := [.int (nI k), .ref 43, .ref rt.2.2.1, .int (nI k), .ref 59]) (h' := HN (ur (ur g (rt.2.2.1 + 2) w) 59 v) hl (RF rt)) rfl ?_
    refine Ev_aald (c := (60 + 2 * k)) rfl (by decide) rfl (show k < 5 by omega) (Nat.le_of_ble_eq_true rfl) (sh_pl rt k (by omega)).2.2.1 ?_
    refine Ev.run 2 (pc' := 29) (lv' := [(1, .int (nI k)), (0, .ref 12)]) (st' := [.ref 13, .ref (60 + 2 * k), .ref rt.2.2.1, .int (nI k), .ref 59]) (h' := HN (ur (ur g (rt.2.2.1 + 2) w) 59 v) hl (RF rt)) rfl ?_
    refine Ev_callV (a := 67) (as := [.ref rt.2.2.1, .ref (60 + 2 * k), .ref 13]) (rest := [.int (nI k), .ref 59]) (lv0 := [(0, .ref rt.2.2.1), (1, .ref (60 + 2 * k)), (2, .ref 13)]) (Q1 := (fun z0 h' => z0 = some (.int (nI (knS g k))) ∧ ∃ w2, h' = HN (ur (ur g (rt.2.2.1 + 2) w2) 59 v) hl (RF rt))) rfl rfl rfl rfl rfl (hV.th.kc hI.hTb).1.k rfl rfl rfl (K_known _ (ur (ur g (rt.2.2.1 + 2) w) 59 v) _ _ hVu k (by rw [hem.f6]; omega) (fun w2 => ⟨congrArg (fun z => some (Value.int (nI z))) (congrFun hem.xknS k), w2, congrArg (fun z => HN z hl (RF rt)) (ur_cm g (by omega) w v w2)⟩)) (fun r h' hr => ?_)
    obtain ⟨rfl, w2, rfl⟩ := hr
    refine Ev_iast rfl rfl (show k < 5 by omega) (Nat.le_of_ble_eq_true rfl) ?_
    refine Ev.run 1 (pc' := 36) (lv' := [(1, .int (nI k + 1)), (0, .ref 12)]) (st' := []) (h' := HN (u2 (ur (ur g (rt.2.2.1 + 2) w2) 59 v) 59 k (knS g k)) hl (RF rt)) rfl ?_
    refine Ev.lvE (congrArg (fun z => (1, Value.int z) :: [(0, .ref 12)]) (nI_1 _)) ?_
    refine Ev.run 1 (pc' := 2) (lv' := [(1, .int (nI (k + 1))), (0, .ref 12)]) (st' := []) (h' := HN (u2 (ur (ur g (rt.2.2.1 + 2) w2) 59 v) 59 k (knS g k)) hl (RF rt)) rfl ?_
    rw [ur_up]
    have hx := hnext (by omega) w2 (up v k (knS g k)) (fun i hi => ?_) (fun j hj => ?_)
    · exact Ev.wk (Ext.cons rfl rfl (Ext.cons rfl rfl (Ext.nil rfl))) hx
    · unfold up
      split
      · rename_i e; rw [e]
      · exact hv1 i (by omega)
    · unfold up
      split
      · exact knS_lt hI k
      · exact hv2 j hj
def LK0 (g : Nat → Nat → Nat) (s y z : Nat) (w : Nat → Nat) (f : Nat) : Prop := LOK g s y w f ∧ w 0 = z
theorem LK0.lup {g : Nat → Nat → Nat} {s y z : Nat} {w : Nat → Nat} {f x : Nat} (h : LK0 g s y z w f) (hf : f < 6) : LK0 g s y z (up w (6 - f) x) f := ⟨h.1.lup hf, (show up w (6 - f) x 0 = w 0 from if_neg (by omega)).trans h.2⟩
theorem LK0.s {g : Nat → Nat → Nat} {s y z : Nat} {w : Nat → Nat} {f : Nat} (h : LK0 g s y z w f) (he : w (6 - f) = lsW g s y (f + 1)) : LK0 g s y z w (f + 1) := ⟨h.1.s he, h.2⟩
theorem K_weigh0 {L : Nat} {xs : Nat → Int32} (d : Nat) (g : Nat → Nat → Nat) (hl : Nat → Nat → Int64) (rt : Nat × Nat × Nat × Nat) (hI : MI g) (hB : CB g) (s y : Nat) (hs : s < 4096) (hy : y ≤ 900) {Q : Po} (hq : ∀ w : Nat → Nat, LOK g s y w 6 → w 0 = g 18 0 → Q none (HN (ur g 18 w) hl (RF rt))) : Ev L xs (d + 4) 18 0 [(0, .ref 13), (1, .int (nI s)), (2, .int (nI y))] [] (HN g hl (RF rt)) Q := by
  have hW := hI.hW
  have hS := hI.hS
  have hPl := hI.hPl
  have hNx := hI.hNx
  have hLa := hI.hLa
  have hLo := hI.hLo
  have hTb := hI.hTb
  have hTh := hI.hTh
  have hFd := hI.hFd
  have hSn := hI.hSn
  have hSh := hI.hSh
  have hRan := hI.hRan
  have hLr := hI.hLr
  have hLt := hI.hLt
  have hgl := hI.hgl
  have hsz := hI.hsz
  have hcm := hI.hcm
  have hsl := hI.hsl
  have hkd := hI.hkd
  have hvv := hI.hvv
  have hli := hI.hli
  have hro := hI.hro
  have hrw := hI.hrw
  have htx := hI.htx
  have hsw := hI.hsw
  have hsx := hI.hsx
  have hsy := hI.hsy
  have hsh := hI.hsh
  have hle := hI.hle
  have hcl := hI.hcl
  have hwd := hI.hwd
  have hnu := hI.hnu
  have hwn := hI.hwn
  have hs1 := hI.hs1
  have hso := hI.hso
  have hB0 := hB.1
  refine Ev.run 2 (pc' := 3) (lv' := [(3, .int (nI 6)), (0, .ref 13), (1, .int (nI s)), (2, .int (nI y))]) (st' := []) (h' := HN g hl (RF rt)) rfl ?_
  refine Ev.hp (congrArg (fun z => HN z hl (RF rt)) (ur_self g 18).symm) ?_
  refine for_ind 6 (fun f => ∀ w, LK0 g s y (g 18 0) w f → Ev L xs (d + 4) 18 3 [(3, .int (nI (6 - f))), (0, .ref 13), (1, .int (nI s)), (2, .int (nI y))] [] (HN (ur g 18 w) hl (RF rt)) Q) (fun f hf hnextO => ?_) 0 (Nat.zero_le _) (g 18) ⟨fun j hj => absurd hj (Nat.not_lt_zero _), rfl⟩
  intro w hw
  refine Ev.run 3 (pc' := (if nI (6 - f) < nI 1 then 89 else 8)) (lv' := [(3, .int (nI (6 - f))), (0, .ref 13), (1, .int (nI s)), (2, .int (nI y))]) (st' := []) (h' := HN (ur g 18 w) hl (RF rt)) rfl ?_
  refine Ev.ite (fun hc5 => ?_) (fun hc5 => ?_)
  · have hc5 : (6 - f) < 1 := (nI_ltI (by omega) (by omega)).mp hc5
    refine Ev.ret (v := none) rfl ?_
    exact hq w (fun j hj => hw.1 j (by omega)) hw.2
  · have hc5 : ¬ ((6 - f) < 1) := fun z => hc5 ((nI_ltI (by omega) (by omega)).mpr z)
    refine Ev.run 4 (pc' := 14) (lv' := [(3, .int (nI (6 - f))), (0, .ref 13), (1, .int (nI s)), (2, .int (nI y))]) (st' := [.int (nI 0), .int (nI (6 - f)), .ref 18]) (h' := HN (ur g 18 w) hl (RF rt)) rfl ?_
    refine Ev_iast rfl rfl (show 6 - f < 7 by omega) (Nat.le_of_ble_eq_true rfl) ?_
    refine Ev.run 2 (pc' := 18) (lv' := [(4, .int (nI 0)), (3, .int (nI (6 - f))), (0, .ref 13), (1, .int (nI s)), (2, .int (nI y))]) (st' := []) (h' := HN (u2 (ur g 18 w) 18 (6 - f) 0) hl (RF rt)) rfl ?_
    rw [ur_up]
    refine for_ind (g 166 0) (fun k => ∀ w, LK0 g s y (g 18 0) w f → w (6 - f) = bset (fun o => (s &&& ftL g o (6 - f)).testBit o && decide (wiF g (s &&& ftL g o (6 - f)) (6 - f) y (lsW g s y f) = 0)) k → Ev L xs (d + 4) 18 18 [(4, .int (nI k)), (3, .int (nI (6 - f))), (0, .ref 13), (1, .int (nI s)), (2, .int (nI y))] [] (HN (ur g 18 w) hl (RF rt)) Q) (fun k hk hnext => ?_) 0 (Nat.zero_le _) (up w (6 - f) 0) (hw.lup (by omega)) (by show (if _ then _ else _) = _; rw [if_pos rfl]; rfl)
    clear hw
    intro w hw hk0
    have hIu := hI.u18 (w := w)
    have hBu := hB.u18 (w := w)
    refine Ev.run 4 (pc' := (if nI (g 13 5) ≤ nI k then 83 else 27)) (lv' := [(4, .int (nI k)), (3, .int (nI (6 - f))), (0, .ref 13), (1, .int (nI s)), (2, .int (nI y))]) (st' := []) (h' := HN (ur g 18 w) hl (RF rt)) rfl ?_
    refine Ev.ite (fun hc24 => ?_) (fun hc24 => ?_)
    · have hc24 : (g 13 5) ≤ k := (nI_leI (by omega) (by omega)).mp hc24
      refine Ev.run 1 (pc' := 86) (lv' := [(3, .int (nI (6 - f) + nI 4294967295)), (4, .int (nI k)), (0, .ref 13), (1, .int (nI s)), (2, .int (nI y))]) (st' := []) (h' := HN (ur g 18 w) hl (RF rt)) rfl ?_
      refine Ev.lvE (congrArg (fun z => (3, Value.int z) :: [(4, .int (nI k)), (0, .ref 13), (1, .int (nI s)), (2, .int (nI y))]) (nI_dec (n := (6 - f)) 1 (by omega))) ?_
      refine Ev.run 1 (pc' := 3) (lv' := [(3, .int (nI (6 - f - 1))), (4, .int (nI k)), (0, .ref 13), (1, .int (nI s)), (2, .int (nI y))]) (st' := []) (h' := HN (ur g 18 w) hl (RF rt)) rfl ?_
      have hkW : k = g 166 0 := by omega
      have hx := hnextO (by omega) w (hw.s (by rw [hk0, hkW]; rfl))
      exact Ev.wk (Ext.cons rfl rfl (Ext.cons rfl rfl (Ext.cons rfl rfl (Ext.cons rfl rfl (Ext.nil rfl))))) hx
    · have hc24 : ¬ ((g 13 5) ≤ k) := fun z => hc24 ((nI_leI (by omega) (by omega)).mpr z)
      refine Ev.run 5 (pc' := 35) (lv' := [(4, .int (nI k)), (3, .int (nI (6 - f))), (0, .ref 13), (1, .int (nI s)), (2, .int (nI y))]) (st' := [.int (nI k), .ref 14, .ref 13, .int (nI s)]) (h' := HN (ur g 18 w) hl (RF rt)) rfl ?_
      refine Ev_aald (c := (19 + 2 * k)) rfl (by decide) rfl (show k < 12 by omega) (Nat.le_of_ble_eq_true rfl) (rf_line rt k (by omega)).2 ?_
      refine Ev.run 1 (pc' := 37) (lv' := [(4, .int (nI k)), (3, .int (nI (6 - f))), (0, .ref 13), (1, .int (nI s)), (2, .int (nI y))]) (st' := [.int (nI (6 - f)), .ref (19 + 2 * k), .ref 13, .int (nI s)]) (h' := HN (ur g 18 w) hl (RF rt)) rfl ?_
      refine Ev.call (a := 13) (as := [.ref 13, .ref (19 + 2 * k), .int (nI (6 - f))]) (rest := [.int (nI s)]) (lv0 := [(0, .ref 13), (1, .ref (19 + 2 * k)), (2, .int (nI (6 - f)))]) (Q1 := (fun z0 h' => z0 = some (.int (nI (ftL g k (6 - f)))) ∧ h' = HN (ur g 18 w) hl (RF rt))) rfl rfl (K_fitting _ (ur g 18 w) _ _ hIu hBu (19 + 2 * k) 6 (LnW rt (by omega)) (6 - f) (by omega) (by show ur g 18 w (19 + 2 * k) 1 ≤ 6; rw [hBu.2.1 k (by omega)]; exact hsz k (by omega)) (fun j => atW hIu hBu (by omega) j) ⟨congrArg (fun z => some (Value.int (nI z))) (ftB_u18 _ (by omega) (by omega)), rfl⟩) (fun r h' hr => ?_)
      obtain ⟨rfl, rfl⟩ := hr
      have hfl : ftL g k (6 - f) < 4096 := bset_12 _ hW
      have hand : s &&& ftL g k (6 - f) ≤ ftL g k (6 - f) := Nat.and_le_right
      refine Ev.run 1 (pc' := 41) (lv' := [(4, .int (nI k)), (3, .int (nI (6 - f))), (0, .ref 13), (1, .int (nI s)), (2, .int (nI y))]) (st' := [.int (nI s &&& nI (ftL g k (6 - f)))]) (h' := HN (ur g 18 w) hl (RF rt)) rfl ?_
      refine Ev.topI (nIa _ _) ?_
      refine Ev.run 3 (pc' := 47) (lv' := [(5, .int (nI (s &&& (ftL g k (6 - f))))), (4, .int (nI k)), (3, .int (nI (6 - f))), (0, .ref 13), (1, .int (nI s)), (2, .int (nI y))]) (st' := [.int (nI k), .int (nI (s &&& (ftL g k (6 - f))))]) (h' := HN (ur g 18 w) hl (RF rt)) rfl ?_
      refine Ev.call (a := 122) (as := [.int (nI (s &&& (ftL g k (6 - f)))), .int (nI k)]) (rest := []) (lv0 := [(0, .int (nI (s &&& (ftL g k (6 - f))))), (1, .int (nI k))]) (Q1 := (fun z0 h' => z0 = some (.int (nI (bn (Nat.testBit (s &&& (ftL g k (6 - f))) k)))) ∧ h' = HN (ur g 18 w) hl (RF rt))) rfl rfl (K_isIn _ _ _ _ (s &&& (ftL g k (6 - f))) k (by omega) (by omega) ⟨rfl, rfl⟩) (fun r h' hr => ?_)
      obtain ⟨rfl, rfl⟩ := hr
      refine Ev_bn (fun hb50 => ?_) (fun hb50 => ?_)
      · skip
        refine Ev.run 5 (pc' := 58) (lv' := [(5, .int (nI (s &&& (ftL g k (6 - f))))), (4, .int (nI k)), (3, .int (nI (6 - f))), (0, .ref 13), (1, .int (nI s)), (2, .int (nI y))]) (st' := [.int (nI y), .int (nI (6 - f)), .int (nI (s &&& (ftL g k (6 - f)))), .ref 13]) (h' := HN (ur g 18 w) hl (RF rt)) rfl ?_
        refine Ev.call (a := 19) (as := [.ref 13, .int (nI (s &&& (ftL g k (6 - f)))), .int (nI (6 - f)), .int (nI y)]) (rest := []) (lv0 := [(0, .ref 13), (1, .int (nI (s &&& (ftL g k (6 - f))))), (2, .int (nI (6 - f))), (3, .int (nI y))]) (Q1 := (fun z0 h' => z0 = some (.int (nI (wiF g (s &&& ftL g k (6 - f)) (6 - f) y (lsW g s y f)))) ∧ h' = HN (ur g 18 w) hl (RF rt))) rfl rfl (K_winning _ (ur g 18 w) _ _ hIu hBu (s &&& ftL g k (6 - f)) (by omega) (6 - f) y (lsW g s y f) (by omega) (by omega) (fun h => by show w (6 - f + 1) = _; rw [show 6 - f + 1 = 6 - (f - 1) by omega, hw.1 (f - 1) (by omega), show f - 1 + 1 = f by omega]) (fun h => by rw [show f = 0 by omega]; rfl) (lsW_lt hI _ _ _) ⟨rfl, rfl⟩) (fun r h' hr => ?_)
        obtain ⟨rfl, rfl⟩ := hr
        have hwif : wiF g (s &&& ftL g k (6 - f)) (6 - f) y (lsW g s y f) < 16 := bset_lt _ 4
        refine Ev.run 1 (pc' := (if nI (wiF g (s &&& ftL g k (6 - f)) (6 - f) y (lsW g s y f)) = 0 then 64 else 77)) (lv' := [(5, .int (nI (s &&& (ftL g k (6 - f))))), (4, .int (nI k)), (3, .int (nI (6 - f))), (0, .ref 13), (1, .int (nI s)), (2, .int (nI y))]) (st' := []) (h' := HN (ur g 18 w) hl (RF rt)) rfl ?_
        refine Ev.ite (fun hc61 => ?_) (fun hc61 => ?_)
        · have hc61 : (wiF g (s &&& ftL g k (6 - f)) (6 - f) y (lsW g s y f)) = 0 := (nI_eqU0 (by omega)).mp hc61
          refine Ev.run 4 (pc' := 70) (lv' := [(5, .int (nI (s &&& (ftL g k (6 - f))))), (4, .int (nI k)), (3, .int (nI (6 - f))), (0, .ref 13), (1, .int (nI s)), (2, .int (nI y))]) (st' := [.int (nI (6 - f)), .ref 18, .int (nI (6 - f)), .ref 18]) (h' := HN (ur g 18 w) hl (RF rt)) rfl ?_
          refine Ev_iald rfl rfl (show 6 - f < 7 by omega) (Nat.le_of_ble_eq_true rfl) ?_
          refine Ev.run 3 (pc' := 75) (lv' := [(5, .int (nI (s &&& (ftL g k (6 - f))))), (4, .int (nI k)), (3, .int (nI (6 - f))), (0, .ref 13), (1, .int (nI s)), (2, .int (nI y))]) (st' := [.int (nI 1 <<< (nI k &&& 31)), .int (nI (w (6 - f))), .int (nI (6 - f)), .ref 18]) (h' := HN (ur g 18 w) hl (RF rt)) rfl ?_
          refine Ev.topI (nI_shl (by omega)) ?_
          refine Ev.run 1 (pc' := 76) (lv' := [(5, .int (nI (s &&& (ftL g k (6 - f))))), (4, .int (nI k)), (3, .int (nI (6 - f))), (0, .ref 13), (1, .int (nI s)), (2, .int (nI y))]) (st' := [.int (nI (w (6 - f)) ||| nI (nSh 1 k)), .int (nI (6 - f)), .ref 18]) (h' := HN (ur g 18 w) hl (RF rt)) rfl ?_
          refine Ev.topI (nIo _ _) ?_
          refine Ev_iast rfl rfl (show 6 - f < 7 by omega) (Nat.le_of_ble_eq_true rfl) ?_
          refine Ev.run 1 (pc' := 80) (lv' := [(4, .int (nI k + 1)), (5, .int (nI (s &&& (ftL g k (6 - f))))), (3, .int (nI (6 - f))), (0, .ref 13), (1, .int (nI s)), (2, .int (nI y))]) (st' := []) (h' := HN (u2 (ur g 18 w) 18 (6 - f) ((w (6 - f)) ||| (nSh 1 k))) hl (RF rt)) rfl ?_
          refine Ev.lvE (congrArg (fun z => (4, Value.int z) :: [(5, .int (nI (s &&& (ftL g k (6 - f))))), (3, .int (nI (6 - f))), (0, .ref 13), (1, .int (nI s)), (2, .int (nI y))]) (nI_1 _)) ?_
          refine Ev.run 1 (pc' := 18) (lv' := [(4, .int (nI (k + 1))), (5, .int (nI (s &&& (ftL g k (6 - f))))), (3, .int (nI (6 - f))), (0, .ref 13), (1, .int (nI s)), (2, .int (nI y))]) (st' := []) (h' := HN (u2 (ur g 18 w) 18 (6 - f) ((w (6 - f)) ||| (nSh 1 k))) hl (RF rt)) rfl ?_
          rw [ur_up]
          have hx := hnext (by omega) (up w (6 - f) ((w (6 - f)) ||| (nSh 1 k))) (hw.lup (by omega)) (by show (if _ then _ else _) = _; rw [if_pos rfl, hk0, bset_s1 (p := fun o => (s &&& ftL g o (6 - f)).testBit o && decide (wiF g (s &&& ftL g o (6 - f)) (6 - f) y (lsW g s y f) = 0)) (by simp only [hb50, decide_eq_true hc61, Bool.true_and])])
          exact Ev.wk (Ext.cons rfl rfl (Ext.cons rfl rfl (Ext.cons rfl rfl (Ext.cons rfl rfl (Ext.cons rfl rfl (Ext.nil rfl)))))) hx
        · have hc61 : ¬ ((wiF g (s &&& ftL g k (6 - f)) (6 - f) y (lsW g s y f)) = 0) := fun z => hc61 ((nI_eqU0 (by omega)).mpr z)
          refine Ev.run 1 (pc' := 80) (lv' := [(4, .int (nI k + 1)), (5, .int (nI (s &&& (ftL g k (6 - f))))), (3, .int (nI (6 - f))), (0, .ref 13), (1, .int (nI s)), (2, .int (nI y))]) (st' := []) (h' := HN (ur g 18 w) hl (RF rt)) rfl ?_
          refine Ev.lvE (congrArg (fun z => (4, Value.int z) :: [(5, .int (nI (s &&& (ftL g k (6 - f))))), (3, .int (nI (6 - f))), (0, .ref 13), (1, .int (nI s)), (2, .int (nI y))]) (nI_1 _)) ?_
          refine Ev.run 1 (pc' := 18) (lv' := [(4, .int (nI (k + 1))), (5, .int (nI (s &&& (ftL g k (6 - f))))), (3, .int (nI (6 - f))), (0, .ref 13), (1, .int (nI s)), (2, .int (nI y))]) (st' := []) (h' := HN (ur g 18 w) hl (RF rt)) rfl ?_
          have hx := hnext (by omega) w hw (by rw [hk0, bset_se (p := fun o => (s &&& ftL g o (6 - f)).testBit o && decide (wiF g (s &&& ftL g o (6 - f)) (6 - f) y (lsW g s y f) = 0)) (by simp only [hb50, decide_eq_false hc61, Bool.true_and])])
          exact Ev.wk (Ext.cons rfl rfl (Ext.cons rfl rfl (Ext.cons rfl rfl (Ext.cons rfl rfl (Ext.cons rfl rfl (Ext.nil rfl)))))) hx
      · skip
        refine Ev.run 2 (pc' := 80) (lv' := [(4, .int (nI k + 1)), (5, .int (nI (s &&& (ftL g k (6 - f))))), (3, .int (nI (6 - f))), (0, .ref 13), (1, .int (nI s)), (2, .int (nI y))]) (st' := []) (h' := HN (ur g 18 w) hl (RF rt)) rfl ?_
        refine Ev.lvE (congrArg (fun z => (4, Value.int z) :: [(5, .int (nI (s &&& (ftL g k (6 - f))))), (3, .int (nI (6 - f))), (0, .ref 13), (1, .int (nI s)), (2, .int (nI y))]) (nI_1 _)) ?_
        refine Ev.run 1 (pc' := 18) (lv' := [(4, .int (nI (k + 1))), (5, .int (nI (s &&& (ftL g k (6 - f))))), (3, .int (nI (6 - f))), (0, .ref 13), (1, .int (nI s)), (2, .int (nI y))]) (st' := []) (h' := HN (ur g 18 w) hl (RF rt)) rfl ?_
        have hx := hnext (by omega) w hw (by rw [hk0, bset_se (p := fun o => (s &&& ftL g o (6 - f)).testBit o && decide (wiF g (s &&& ftL g o (6 - f)) (6 - f) y (lsW g s y f) = 0)) (by simp only [hb50, Bool.false_and])])
        exact Ev.wk (Ext.cons rfl rfl (Ext.cons rfl rfl (Ext.cons rfl rfl (Ext.cons rfl rfl (Ext.cons rfl rfl (Ext.nil rfl)))))) hx
/-- who knows what stands at 59 -/
def KNW (g : Nat → Nat → Nat) : Prop := ∀ p, p < g 166 6 → g 59 p = knS g p
theorem K_recallE {L : Nat} {xs : Nat → Int32} (d : Nat) (g : Nat → Nat → Nat) (hl : Nat → Nat → Int64) (rt : Nat × Nat × Nat × Nat) (hV : Inv g hl rt) {Q : Po} (hq : ∀ g1, Inv g1 hl rt → Em g g1 → Fr g g1 → KNW g1 → Q none (HN g1 hl (RF rt))) : Ev L xs (d + 4) 27 0 [(0, .ref 12)] [] (HN g hl (RF rt)) Q := by
  have hcc := (hV.th.kc hV.mi.hTb).2
  refine K_recall d g hl rt hV (fun w v h1 h2 => ?_)
  have hem : Em g (ur (ur g (rt.2.2.1 + 2) w) 59 v) := (Em.ownr g (c := rt.2.2.1 + 2) (by omega) w).trans (Em.ownr _ (c := 59) (by decide) v)
  refine hq _ ((hV.opw w).w59 h2) hem ((Fr.opw g hV.th hV.mi.hTb w).trans (Fr.k59 _ v)) (fun p hp => ?_)
  rw [hem.xknS]
  rw [hem.f6] at hp
  have e : ur (ur g (rt.2.2.1 + 2) w) 59 v 59 p = v p := by
    unfold ur
    rw [if_pos rfl]
  rw [e]
  exact h1 p hp
theorem lsW_u18 (g : Nat → Nat → Nat) (u : Nat → Nat) (s y : Nat) : ∀ f, lsW (ur g 18 u) s y f = lsW g s y f := by
  intro f
  induction f with
  | zero => rfl
  | succ f ih =>
    unfold lsW
    rw [ih]
    refine bset_cg (fun o _ => ?_)
    have e : ftL (ur g 18 u) o (6 - f) = ftL g o (6 - f) := by
      unfold ftL
      exact ftB_u18 _ (by omega) (by omega)
    rw [e]
    rfl
/-- ready for turns -/
def RDY (g : Nat → Nat → Nat) : Prop := KNW g ∧ LOK g (allS g) (lwS g 1) (g 18) 6
theorem K_prepare {L : Nat} {xs : Nat → Int32} (d : Nat) (g : Nat → Nat → Nat) (hl : Nat → Nat → Int64) (rt : Nat × Nat × Nat × Nat) (hV : Inv g hl rt) {Q : Po} (hq : ∀ g1, Inv g1 hl rt → Em g g1 → Fr g g1 → RDY g1 → Q none (HN g1 hl (RF rt))) : Ev L xs (d + 5) 28 0 [(0, .ref 12)] [] (HN g hl (RF rt)) Q := by
  refine Ev.run 1 (pc' := 1) (lv' := [(0, .ref 12)]) (st' := [.ref 12]) (h' := HN g hl (RF rt)) rfl ?_
  refine Ev.call (a := 27) (as := [.ref 12]) (rest := []) (lv0 := [(0, .ref 12)]) (Q1 := (fun z0 h' => z0 = none ∧ ∃ g1, h' = HN g1 hl (RF rt) ∧ Inv g1 hl rt ∧ Em g g1 ∧ Fr g g1 ∧ KNW g1)) rfl rfl (K_recallE _ g hl rt hV (fun g1 h1 h2 h3 h4 => ⟨rfl, g1, rfl, h1, h2, h3, h4⟩)) (fun r h' hr => ?_)
  obtain ⟨rfl, g1, rfl, hV1, hem, hfr, hkn⟩ := hr
  have hI1 := hV1.mi
  have hB1 := hV1.gm.cb
  have hkc := (hV1.th.kc hI1.hTb).1
  have hlw := (hV1.tb.lw hV1.th hI1).1
  have hly := lwS_le hI1 1
  refine Ev.run 4 (pc' := 12) (lv' := [(0, .ref 12)]) (st' := [.ref 13, .ref 13]) (h' := HN g1 hl (RF rt)) rfl ?_
  refine Ev.call (a := 10) (as := [.ref 13]) (rest := [.ref 13]) (lv0 := [(0, .ref 13)]) (Q1 := (fun z0 h' => z0 = some (.int (nI (allS g1))) ∧ h' = HN g1 hl (RF rt))) rfl rfl (K_all _ _ _ _ hI1 hB1 ⟨rfl, rfl⟩) (fun r h' hr => ?_)
  obtain ⟨rfl, rfl⟩ := hr
  refine Ev.run 2 (pc' := 19) (lv' := [(0, .ref 12)]) (st' := [.ref rt.2.2.1, .int (nI (allS g1)), .ref 13]) (h' := HN g1 hl (RF rt)) rfl ?_
  refine Ev_gfI rfl rfl rfl hkc ?_
  refine Ev.topI (congrArg nI hlw) ?_
  refine Ev.call (a := 18) (as := [.ref 13, .int (nI (allS g1)), .int (nI (lwS g1 1))]) (rest := []) (lv0 := [(0, .ref 13), (1, .int (nI (allS g1))), (2, .int (nI (lwS g1 1)))]) (Q1 := (fun z0 h' => z0 = none ∧ ∃ u, LOK g1 (allS g1) (lwS g1 1) u 6 ∧ u 0 = g1 18 0 ∧ h' = HN (ur g1 18 u) hl (RF rt))) rfl rfl (K_weigh0 _ g1 hl rt hI1 hB1 (allS g1) (lwS g1 1) (allS_lt hI1) (by omega) (fun u hu hu0 => ⟨rfl, u, hu, hu0, rfl⟩)) (fun r h' hr => ?_)
  obtain ⟨rfl, u, hu, hu0, rfl⟩ := hr
  refine Ev.ret (v := none) rfl ?_
  have hk18 := hV1.k18
  have hem2 : Em g1 (ur g1 18 u) := Em.ownr g1 (by decide) u
  refine hq _ (hV1.w18 (fun j hj => ?_)) (hem.trans hem2) (hfr.trans (Fr.k18 g1 u)) ⟨fun p hp => ?_, fun j hj => ?_⟩
  · by_cases e : j = 0
    · rw [e, hu0]; exact hk18 0 (by decide)
    · have := hu (6 - j) (by omega)
      rw [show 6 - (6 - j) = j by omega] at this
      rw [this]
      exact lsW_lt hI1 _ _ _
  · rw [hem2.xknS]
    rw [hem2.f6] at hp
    exact hkn p hp
  · rw [hem2.xallS, hem2.xlwS, lsW_u18]
    exact (ur_at g1 18 u _).trans (hu j hj)
