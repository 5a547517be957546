/-! the reference: what a player may add, and does -/
noncomputable def kwS (g : Nat → Nat → Nat) (p i : Nat) : Bool := dc (g 171 p = 5 ∨ (p = g 166 33 ∧ i = g 166 34) ∨ (∃ j, j < nC g ∧ g 178 (fC g + j) = 0 ∧ hldS g (fC g + j) p i = true) ∨ ∀ j, j < nC g → g 178 (fC g + j) ≠ 0)
noncomputable def knS (g : Nat → Nat → Nat) (p : Nat) : Nat := bset (kwS g p) (g 166 0)
theorem knS_lt {g : Nat → Nat → Nat} (h : MI g) (p : Nat) : knS g p < 4096 := bset_12 _ h.hW
noncomputable def maS (g : Nat → Nat → Nat) (p : Nat) : Nat := goG g (g 175) (g 166 9) (knS g p)
noncomputable def sfS (g : Nat → Nat → Nat) (l : Nat) : Bool := !endS g (lwS g 1) (up (g 175) (g 166 9) l) (g 166 9 + 1)
noncomputable def saS (g : Nat → Nat → Nat) (may : Nat) : Nat := bset (fun l => may.testBit l && sfS g l) 4
noncomputable def mtS (g : Nat → Nat → Nat) (p l : Nat) : Nat := ones12 (goG g (up (g 175) (g 166 9) l) (g 166 9 + 1) (knS g p))
theorem maS_lt {g : Nat → Nat → Nat} (h : MI g) (p : Nat) : maS g p < 16 := goG_lt h _ _ _
theorem saS_lt (g : Nat → Nat → Nat) (may : Nat) : saS g may < 16 := bset_lt _ 4
section CG
variable {g : Nat → Nat → Nat} {r r' : Nat → Nat} {n : Nat}
theorem ft_cg (h : ∀ k, k < n → r k = r' k) : ft g r n = ft g r' n := funext fun i => dc_c ⟨fun z => ⟨z.1, fun k hk => (z.2 k hk).trans (h k hk)⟩, fun z => ⟨z.1, fun k hk => (z.2 k hk).trans (h k hk).symm⟩⟩
theorem fitA_cg (h : ∀ k, k < n → r k = r' k) (s : Nat) : fitA g r n s = fitA g r' n s := by unfold fitA; rw [ft_cg h]
theorem goG_cg (h : ∀ k, k < n → r k = r' k) (s : Nat) : goG g r n s = goG g r' n s := by unfold goG; rw [ft_cg h]
theorem endS_cg (h : ∀ k, k < n → r k = r' k) (l : Nat) : endS g l r n = endS g l r' n := by unfold endS; rw [ft_cg h]
theorem wrS_cg (h : ∀ k, k < n → r k = r' k) (s : Nat) : wrS g r n s = wrS g r' n s := by unfold wrS; rw [fitA_cg h]
theorem up_cg (h : ∀ k, k < n → r k = r' k) (x : Nat) : ∀ k, k < n + 1 → up r n x k = up r' n x k := fun k hk => by
  unfold up
  split
  · rfl
  · exact h k (by omega)
end CG
section UU
variable {g : Nat → Nat → Nat} {r w v : Nat → Nat}
theorem UfitA (hs : SmH g r v) (s : Nat) : fitA (U g r w v) (U g r w v 175) (U g r w v 166 9) s = fitA g (g 175) (g 166 9) s := by
  rw [(Cx.cU g r w v).xfitA]; exact fitA_cg hs.2.1 s
theorem UgoG (hs : SmH g r v) (s : Nat) : goG (U g r w v) (U g r w v 175) (U g r w v 166 9) s = goG g (g 175) (g 166 9) s := by
  rw [(Cx.cU g r w v).xgoG]; exact goG_cg hs.2.1 s
theorem UwrS (hs : SmH g r v) (s : Nat) : wrS (U g r w v) (U g r w v 175) (U g r w v 166 9) s = wrS g (g 175) (g 166 9) s := by
  rw [(Cx.cU g r w v).xwrS]; exact wrS_cg hs.2.1 s
/-- one letter more -/
def R1 (g : Nat → Nat → Nat) (l : Nat) : Nat → Nat → Nat := u2 (u2 g 175 (g 166 9) l) 166 9 (g 166 9 + 1)
theorem MI.mR1 (h : MI g) {l : Nat} (hl : l ≤ 3) (hn : g 166 9 < 12) : MI (R1 g l) := (h.a175 hl).f9 (by omega)
theorem Cx.cR1 (g : Nat → Nat → Nat) (l : Nat) : Cx g (R1 g l) := Cx.row g _ _ _
theorem R1_175 (g : Nat → Nat → Nat) (l : Nat) : R1 g l 175 = up (g 175) (g 166 9) l := u2_up g 175 _ _
theorem U_R1 (g : Nat → Nat → Nat) (r w v : Nat → Nat) (l : Nat) : u2 (u2 (U g r w v) 175 (g 166 9) l) 166 9 (g 166 9 + 1) = U (R1 g l) (up r (g 166 9) l) w v := by
  rw [U_175, U_u9]
  funext a b; unfold U R1 ur u2
  by_cases e : a = 175
  · subst e; simp
  · simp [e]
theorem R1_back (g : Nat → Nat → Nat) (r w v : Nat → Nat) (l y : Nat) (h : y = g 166 9) : u2 (U (R1 g l) r w v) 166 9 y = U g r w v := by
  rw [U_u9]
  unfold R1
  have e : u2 (u2 (u2 g 175 (g 166 9) l) 166 9 (g 166 9 + 1)) 166 9 y = u2 g 175 (g 166 9) l := bk9 g _ _ _ _ h
  rw [e]
  funext a b; unfold U ur u2
  by_cases e : a = 175
  · subst e; simp
  · simp [e]
theorem SmH.sR1 (hs : SmH g r v) {l : Nat} (hl : l ≤ 3) : SmH (R1 g l) (up r (g 166 9) l) v := ⟨up_le hs.1 hl, fun k hk => by
  have e : R1 g l 166 9 = g 166 9 + 1 := rfl
  rw [e] at hk
  rw [R1_175]
  exact up_cg hs.2.1 l k hk, hs.2.2⟩
theorem SmH.back {l : Nat} (hs : SmH (R1 g l) r v) : SmH g r v := ⟨hs.1, fun k hk => by
  have e : R1 g l 166 9 = g 166 9 + 1 := rfl
  rw [hs.2.1 k (by rw [e]; omega), R1_175]
  unfold up; rw [if_neg (by omega)], hs.2.2⟩
theorem UendS (hs : SmH g r v) (l : Nat) : endS (U (R1 g l) r w v) (lwS (U (R1 g l) r w v) 1) (U (R1 g l) r w v 175) (U (R1 g l) r w v 166 9) = endS g (lwS g 1) r (g 166 9 + 1) := by
  rw [(Cx.cU (R1 g l) r w v).xendS, (Cx.cU (R1 g l) r w v).xlwS, (Cx.cR1 g l).xendS, (Cx.cR1 g l).xlwS]; rfl
theorem KW.cx {g g' : Nat → Nat → Nat} (h : Cx g g') (k : KW g) : KW g' := by
  unfold KW WFc
  rw [h.xfC, h.xnC, h.r178, h.r180, h.r181, h.r182]
  exact k
theorem Cx.xevF {g g' : Nat → Nat → Nat} (h : Cx g g') : evF g' = evF g := by
  funext p i lo k
  induction k with
  | zero => rfl
  | succ k ih =>
    unfold evF
    rw [ih, h.r182]
    congr 1
    funext st
    unfold evT factS
    rw [h.r171, h.r172, h.r169, h.r168, h.r167]
theorem Cx.xkwS {g g' : Nat → Nat → Nat} (h : Cx g g') : kwS g' = kwS g := by
  funext p i
  unfold kwS hldS
  rw [h.r171, h.f33, h.f34, h.xfC, h.xnC, h.r178, h.r180, h.r181, h.xevF]
theorem Cx.xknS {g g' : Nat → Nat → Nat} (h : Cx g g') : knS g' = knS g := by
  funext p; unfold knS; rw [h.xkwS, h.f0]
theorem UmtS (p l : Nat) : ones12 (maS (R1 g l) p) = mtS g p l := by
  unfold maS mtS
  rw [(Cx.cR1 g l).xgoG, (Cx.cR1 g l).xknS, R1_175]
  rfl
end UU
theorem C_knows {L : Nat} {xs : Nat → Int32} (d : Nat) (g : Nat → Nat → Nat) (hl : Nat → Nat → Int64) (rt : Nat × Nat × Nat × Nat) (hI : MI g) (hK : KW g) (p i : Nat) (hp : p < 5) (hi : i < 12) (r w v : Nat → Nat) (hs : SmH g r v)  {Q : Po} (hq : ∀ r' w' v' : Nat → Nat, SmH g r' v' → Q (some (.int (nI (bn (kwS g p i))))) (HN (U g r' w' v') hl (RF rt))) : Ev L xs (d + 2) 161 0 [(0, .ref 166), (1, .int (nI p)), (2, .int (nI i))] [] (HN (U g r w v) hl (RF rt)) Q := by
  have hW := hI.hW
  have hS := hI.hS
  have hPl := hI.hPl
  have hNx := hI.hNx
  have hLa := hI.hLa
  have hLo := hI.hLo
  have hTb := hI.hTb
  have hTh := hI.hTh
  have hFd := hI.hFd
  have hSn := hI.hSn
  have hSh := hI.hSh
  have hRan := hI.hRan
  have hLr := hI.hLr
  have hLt := hI.hLt
  have hgl := hI.hgl
  have hsz := hI.hsz
  have hcm := hI.hcm
  have hsl := hI.hsl
  have hkd := hI.hkd
  have hvv := hI.hvv
  have hli := hI.hli
  have hro := hI.hro
  have hrw := hI.hrw
  have htx := hI.htx
  have hsw := hI.hsw
  have hsx := hI.hsx
  have hsy := hI.hsy
  have hsh := hI.hsh
  have hle := hI.hle
  have hcl := hI.hcl
  have hwd := hI.hwd
  have hnu := hI.hnu
  have hwn := hI.hwn
  have hs1 := hI.hs1
  have hso := hI.hso
  have hfc := fC_le hI
  refine Ev.run 3 (pc' := 5) (lv' := [(0, .ref 166), (1, .int (nI p)), (2, .int (nI i))]) (st' := [.int (nI p), .ref 171]) (h' := HN (U g r w v) hl (RF rt)) rfl ?_
  refine Ev_iald rfl rfl (show p < 5 by omega) (Nat.le_of_ble_eq_true rfl) ?_
  have hr0 := hkd p (by omega)
  refine Ev.run 2 (pc' := (if nI (g 171 p) = nI 5 then 26 else 10)) (lv' := [(0, .ref 166), (1, .int (nI p)), (2, .int (nI i))]) (st' := []) (h' := HN (U g r w v) hl (RF rt)) rfl ?_
  refine Ev.ite (fun hc7 => ?_) (fun hc7 => ?_)
  · have hc7 : (g 171 p) = 5 := (nI_eqU (by omega) (by omega)).mp hc7
    refine Ev.run 1 (pc' := 27) (lv' := [(0, .ref 166), (1, .int (nI p)), (2, .int (nI i))]) (st' := [.int (nI 1)]) (h' := HN (U g r w v) hl (RF rt)) rfl ?_
    refine Ev.ret (v := some (.int (nI 1))) rfl ?_
    have e : kwS g p i = true := by
      refine dc_t ?_
      first
        | exact Or.inl hc7
        | exact Or.inr (Or.inl ⟨hc15, hc23⟩)
        | exact Or.inr (Or.inr (Or.inl ⟨n, by omega, hc52, hb68⟩))
        | exact Or.inr (Or.inr (Or.inr (fun j hj => by
            rcases hi1 with ⟨_, e2⟩ | ⟨e1, _⟩
            · exact e2 j (by omega)
            · omega)))
    have hx := hq r w v hs
    rw [e] at hx
    exact hx
  · have hc7 : ¬ ((g 171 p) = 5) := fun z => hc7 ((nI_eqU (by omega) (by omega)).mpr z)
    refine Ev.run 4 (pc' := (if nI p = nI (g 166 33) then 18 else 28)) (lv' := [(0, .ref 166), (1, .int (nI p)), (2, .int (nI i))]) (st' := []) (h' := HN (U g r w v) hl (RF rt)) rfl ?_
    refine Ev.ite (fun hc15 => ?_) (fun hc15 => ?_)
    · have hc15 : p = (g 166 33) := (nI_eqU (by omega) (by omega)).mp hc15
      refine Ev.run 4 (pc' := (if nI i = nI (g 166 34) then 26 else 28)) (lv' := [(0, .ref 166), (1, .int (nI p)), (2, .int (nI i))]) (st' := []) (h' := HN (U g r w v) hl (RF rt)) rfl ?_
      refine Ev.ite (fun hc23 => ?_) (fun hc23 => ?_)
      · have hc23 : i = (g 166 34) := (nI_eqU (by omega) (by omega)).mp hc23
        refine Ev.run 1 (pc' := 27) (lv' := [(0, .ref 166), (1, .int (nI p)), (2, .int (nI i))]) (st' := [.int (nI 1)]) (h' := HN (U g r w v) hl (RF rt)) rfl ?_
        refine Ev.ret (v := some (.int (nI 1))) rfl ?_
        have e : kwS g p i = true := by
          refine dc_t ?_
          first
            | exact Or.inl hc7
            | exact Or.inr (Or.inl ⟨hc15, hc23⟩)
            | exact Or.inr (Or.inr (Or.inl ⟨n, by omega, hc52, hb68⟩))
            | exact Or.inr (Or.inr (Or.inr (fun j hj => by
                rcases hi1 with ⟨_, e2⟩ | ⟨e1, _⟩
                · exact e2 j (by omega)
                · omega)))
        have hx := hq r w v hs
        rw [e] at hx
        exact hx
      · have hc23 : ¬ (i = (g 166 34)) := fun z => hc23 ((nI_eqU (by omega) (by omega)).mpr z)
        refine Ev.run 3 (pc' := 31) (lv' := [(3, .int (nI 0)), (0, .ref 166), (1, .int (nI p)), (2, .int (nI i))]) (st' := [.ref 166]) (h' := HN (U g r w v) hl (RF rt)) rfl ?_
        refine Ev.call (a := 156) (as := [.ref 166]) (rest := []) (lv0 := [(0, .ref 166)]) (Q1 := (fun z0 h' => z0 = some (.int (nI (fC g))) ∧ h' = HN (U g r w v) hl (RF rt))) rfl rfl (C_fC _ _ _ _ (hI.mU hs) ⟨rfl, rfl⟩) (fun r h' hr => ?_)
        obtain ⟨rfl, rfl⟩ := hr
        refine Ev.run 1 (pc' := 36) (lv' := [(4, .int (nI (fC g))), (3, .int (nI 0)), (0, .ref 166), (1, .int (nI p)), (2, .int (nI i))]) (st' := []) (h' := HN (U g r w v) hl (RF rt)) rfl ?_
        refine for_ind (nC g) (fun n => ∀ (x : Nat) (r w v : Nat → Nat), SmH g r v → ((x = 0 ∧ ∀ j, j < n → g 178 (fC g + j) ≠ 0) ∨ (x = 1 ∧ ∃ j, j < n ∧ g 178 (fC g + j) = 0)) → (∀ j, j < n → g 178 (fC g + j) = 0 → hldS g (fC g + j) p i = false) → Ev L xs (d + 2) 161 36 [(4, .int (nI (fC g + n))), (3, .int (nI x)), (0, .ref 166), (1, .int (nI p)), (2, .int (nI i))] [] (HN (U g r w v) hl (RF rt)) Q) (fun n hn hnext => ?_) 0 (Nat.zero_le _) 0 r w v hs (Or.inl ⟨rfl, fun j hj => absurd hj (Nat.not_lt_zero _)⟩) (fun j hj => absurd hj (Nat.not_lt_zero _))
        intro x r w v hs hi1 hi2
        refine Ev.run 2 (pc' := 39) (lv' := [(4, .int (nI (fC g + n))), (3, .int (nI x)), (0, .ref 166), (1, .int (nI p)), (2, .int (nI i))]) (st' := [.ref 166, .int (nI (fC g + n))]) (h' := HN (U g r w v) hl (RF rt)) rfl ?_
        refine Ev.call (a := 157) (as := [.ref 166]) (rest := [.int (nI (fC g + n))]) (lv0 := [(0, .ref 166)]) (Q1 := (fun z0 h' => z0 = some (.int (nI (fC g + nC g))) ∧ h' = HN (U g r w v) hl (RF rt))) rfl rfl (C_nC _ _ _ _ (hI.mU hs) ⟨rfl, rfl⟩) (fun r h' hr => ?_)
        obtain ⟨rfl, rfl⟩ := hr
        refine Ev.run 1 (pc' := (if nI (fC g + nC g) ≤ nI (fC g + n) then 79 else 45)) (lv' := [(4, .int (nI (fC g + n))), (3, .int (nI x)), (0, .ref 166), (1, .int (nI p)), (2, .int (nI i))]) (st' := []) (h' := HN (U g r w v) hl (RF rt)) rfl ?_
        refine Ev.ite (fun hc42 => ?_) (fun hc42 => ?_)
        · have hc42 : (fC g + nC g) ≤ (fC g + n) := (nI_leI (by omega) (by omega)).mp hc42
          have hx01 : x < 2 := by rcases hi1 with ⟨e, _⟩ | ⟨e, _⟩ <;> omega
          refine Ev.run 2 (pc' := (if nI x = 0 then 83 else 87)) (lv' := [(4, .int (nI (fC g + n))), (3, .int (nI x)), (0, .ref 166), (1, .int (nI p)), (2, .int (nI i))]) (st' := []) (h' := HN (U g r w v) hl (RF rt)) rfl ?_
          refine Ev.ite (fun hc80 => ?_) (fun hc80 => ?_)
          · have hc80 : x = 0 := (nI_eqU0 (by omega)).mp hc80
            refine Ev.run 2 (pc' := 88) (lv' := [(4, .int (nI (fC g + n))), (3, .int (nI x)), (0, .ref 166), (1, .int (nI p)), (2, .int (nI i))]) (st' := [.int (nI 1)]) (h' := HN (U g r w v) hl (RF rt)) rfl ?_
            refine Ev.ret (v := some (.int (nI 1))) rfl ?_
            have e : kwS g p i = true := by
              refine dc_t ?_
              first
                | exact Or.inl hc7
                | exact Or.inr (Or.inl ⟨hc15, hc23⟩)
                | exact Or.inr (Or.inr (Or.inl ⟨n, by omega, hc52, hb68⟩))
                | exact Or.inr (Or.inr (Or.inr (fun j hj => by
                    rcases hi1 with ⟨_, e2⟩ | ⟨e1, _⟩
                    · exact e2 j (by omega)
                    · omega)))
            have hx := hq r w v hs
            rw [e] at hx
            exact hx
          · have hc80 : ¬ (x = 0) := fun z => hc80 ((nI_eqU0 (by omega)).mpr z)
            refine Ev.run 1 (pc' := 88) (lv' := [(4, .int (nI (fC g + n))), (3, .int (nI x)), (0, .ref 166), (1, .int (nI p)), (2, .int (nI i))]) (st' := [.int (nI 0)]) (h' := HN (U g r w v) hl (RF rt)) rfl ?_
            refine Ev.ret (v := some (.int (nI 0))) rfl ?_
            have hn0 : n = nC g := by omega
            have e : kwS g p i = false := by
              refine dc_f (fun z => ?_)
              rcases z with z | z | ⟨j, z1, z2, z3⟩ | z
              · exact hc7 z
              · first | exact hc15 z.1 | exact hc23 z.2
              · exact tf z3 (hi2 j (by omega) z2)
              · rcases hi1 with ⟨e1, _⟩ | ⟨_, j, e2, e3⟩
                · omega
                · exact z j (by omega) e3
            have hx := hq r w v hs
            rw [e] at hx
            exact hx
        · have hc42 : ¬ ((fC g + nC g) ≤ (fC g + n)) := fun z => hc42 ((nI_leI (by omega) (by omega)).mpr z)
          refine Ev.run 3 (pc' := 51) (lv' := [(4, .int (nI (fC g + n))), (3, .int (nI x)), (0, .ref 166), (1, .int (nI p)), (2, .int (nI i))]) (st' := [.int (nI (fC g + n)), .ref 178]) (h' := HN (U g r w v) hl (RF rt)) rfl ?_
          refine Ev_iald rfl rfl (show fC g + n < 60 by omega) (Nat.le_of_ble_eq_true rfl) ?_
          have hr1 := hwd (fC g + n) (by omega)
          refine Ev.run 1 (pc' := (if nI (g 178 (fC g + n)) = 0 then 58 else 55)) (lv' := [(4, .int (nI (fC g + n))), (3, .int (nI x)), (0, .ref 166), (1, .int (nI p)), (2, .int (nI i))]) (st' := []) (h' := HN (U g r w v) hl (RF rt)) rfl ?_
          refine Ev.ite (fun hc52 => ?_) (fun hc52 => ?_)
          · have hc52 : (g 178 (fC g + n)) = 0 := (nI_eqU0 (by omega)).mp hc52
            have hx01 : x < 2 := by rcases hi1 with ⟨e, _⟩ | ⟨e, _⟩ <;> omega
            have hWF : WFc g (fC g + n) := hK n (by omega) hc52
            refine Ev.run 6 (pc' := 65) (lv' := [(3, .int (nI 1)), (4, .int (nI (fC g + n))), (0, .ref 166), (1, .int (nI p)), (2, .int (nI i))]) (st' := [.int (nI i), .int (nI p), .int (nI (fC g + n)), .ref 166]) (h' := HN (U g r w v) hl (RF rt)) rfl ?_
            refine Ev.call (a := 160) (as := [.ref 166, .int (nI (fC g + n)), .int (nI p), .int (nI i)]) (rest := []) (lv0 := [(0, .ref 166), (1, .int (nI (fC g + n))), (2, .int (nI p)), (3, .int (nI i))]) (Q1 := (fun r h' => ∃ r1 w1 v1, SmH g r1 v1 ∧ r = some (.int (nI (bn (hldS g (fC g + n) p i)))) ∧ h' = HN (U g r1 w1 v1) hl (RF rt))) rfl rfl (C_holds _ _ _ _ hI (fC g + n) p i (by omega) (by omega) (by omega) hWF r w v hs (fun r w v h => ⟨r, w, v, h, rfl, rfl⟩)) (fun r h' hr => ?_)
            obtain ⟨r7, w7, v7, hs7, rfl, rfl⟩ := hr
            refine Ev_bn (fun hb68 => ?_) (fun hb68 => ?_)
            · skip
              refine Ev.run 2 (pc' := 72) (lv' := [(3, .int (nI 1)), (4, .int (nI (fC g + n))), (0, .ref 166), (1, .int (nI p)), (2, .int (nI i))]) (st' := [.int (nI 1)]) (h' := HN (U g r7 w7 v7) hl (RF rt)) rfl ?_
              refine Ev.ret (v := some (.int (nI 1))) rfl ?_
              have e : kwS g p i = true := by
                refine dc_t ?_
                first
                  | exact Or.inl hc7
                  | exact Or.inr (Or.inl ⟨hc15, hc23⟩)
                  | exact Or.inr (Or.inr (Or.inl ⟨n, by omega, hc52, hb68⟩))
                  | exact Or.inr (Or.inr (Or.inr (fun j hj => by
                      rcases hi1 with ⟨_, e2⟩ | ⟨e1, _⟩
                      · exact e2 j (by omega)
                      · omega)))
              have hx := hq r7 w7 v7 hs7
              rw [e] at hx
              exact hx
            · skip
              refine Ev.run 2 (pc' := 76) (lv' := [(4, .int (nI (fC g + n) + 1)), (3, .int (nI 1)), (0, .ref 166), (1, .int (nI p)), (2, .int (nI i))]) (st' := []) (h' := HN (U g r7 w7 v7) hl (RF rt)) rfl ?_
              refine Ev.lvE (congrArg (fun z => (4, Value.int z) :: [(3, .int (nI 1)), (0, .ref 166), (1, .int (nI p)), (2, .int (nI i))]) (nI_1 _)) ?_
              refine Ev.run 1 (pc' := 36) (lv' := [(4, .int (nI (fC g + n + 1))), (3, .int (nI 1)), (0, .ref 166), (1, .int (nI p)), (2, .int (nI i))]) (st' := []) (h' := HN (U g r7 w7 v7) hl (RF rt)) rfl ?_
              have hy1 : (1 = 0 ∧ ∀ j, j < n + 1 → g 178 (fC g + j) ≠ 0) ∨ (1 = 1 ∧ ∃ j, j < n + 1 ∧ g 178 (fC g + j) = 0) := Or.inr ⟨rfl, n, by omega, hc52⟩
              have hy2 : ∀ j, j < n + 1 → g 178 (fC g + j) = 0 → hldS g (fC g + j) p i = false := (by
                intro j hj hz
                by_cases e : j = n
                · rw [e]; exact hb68
                · exact hi2 j (by omega) hz)
              have hx := hnext (by omega) 1 r7 w7 v7 hs7 hy1 hy2
              exact Ev.wk (Ext.cons rfl rfl (Ext.cons rfl rfl (Ext.cons rfl rfl (Ext.cons rfl rfl (Ext.cons rfl rfl (Ext.nil rfl)))))) hx
          · have hc52 : ¬ ((g 178 (fC g + n)) = 0) := fun z => hc52 ((nI_eqU0 (by omega)).mpr z)
            refine Ev.run 2 (pc' := 76) (lv' := [(4, .int (nI (fC g + n) + 1)), (3, .int (nI x)), (0, .ref 166), (1, .int (nI p)), (2, .int (nI i))]) (st' := []) (h' := HN (U g r w v) hl (RF rt)) rfl ?_
            refine Ev.lvE (congrArg (fun z => (4, Value.int z) :: [(3, .int (nI x)), (0, .ref 166), (1, .int (nI p)), (2, .int (nI i))]) (nI_1 _)) ?_
            refine Ev.run 1 (pc' := 36) (lv' := [(4, .int (nI (fC g + n + 1))), (3, .int (nI x)), (0, .ref 166), (1, .int (nI p)), (2, .int (nI i))]) (st' := []) (h' := HN (U g r w v) hl (RF rt)) rfl ?_
            have hy1 : (x = 0 ∧ ∀ j, j < n + 1 → g 178 (fC g + j) ≠ 0) ∨ (x = 1 ∧ ∃ j, j < n + 1 ∧ g 178 (fC g + j) = 0) := (by
              rcases hi1 with ⟨e1, e2⟩ | ⟨e1, j, e2, e3⟩
              · refine Or.inl ⟨e1, fun j hj => ?_⟩
                by_cases e : j = n
                · rw [e]; exact hc52
                · exact e2 j (by omega)
              · exact Or.inr ⟨e1, j, by omega, e3⟩)
            have hy2 : ∀ j, j < n + 1 → g 178 (fC g + j) = 0 → hldS g (fC g + j) p i = false := (by
              intro j hj hz
              by_cases e : j = n
              · rw [e] at hz; exact absurd hz hc52
              · exact hi2 j (by omega) hz)
            have hx := hnext (by omega) x r w v hs hy1 hy2
            exact Ev.wk (Ext.cons rfl rfl (Ext.cons rfl rfl (Ext.cons rfl rfl (Ext.cons rfl rfl (Ext.cons rfl rfl (Ext.nil rfl)))))) hx
    · have hc15 : ¬ (p = (g 166 33)) := fun z => hc15 ((nI_eqU (by omega) (by omega)).mpr z)
      refine Ev.run 3 (pc' := 31) (lv' := [(3, .int (nI 0)), (0, .ref 166), (1, .int (nI p)), (2, .int (nI i))]) (st' := [.ref 166]) (h' := HN (U g r w v) hl (RF rt)) rfl ?_
      refine Ev.call (a := 156) (as := [.ref 166]) (rest := []) (lv0 := [(0, .ref 166)]) (Q1 := (fun z0 h' => z0 = some (.int (nI (fC g))) ∧ h' = HN (U g r w v) hl (RF rt))) rfl rfl (C_fC _ _ _ _ (hI.mU hs) ⟨rfl, rfl⟩) (fun r h' hr => ?_)
      obtain ⟨rfl, rfl⟩ := hr
      refine Ev.run 1 (pc' := 36) (lv' := [(4, .int (nI (fC g))), (3, .int (nI 0)), (0, .ref 166), (1, .int (nI p)), (2, .int (nI i))]) (st' := []) (h' := HN (U g r w v) hl (RF rt)) rfl ?_
      refine for_ind (nC g) (fun n => ∀ (x : Nat) (r w v : Nat → Nat), SmH g r v → ((x = 0 ∧ ∀ j, j < n → g 178 (fC g + j) ≠ 0) ∨ (x = 1 ∧ ∃ j, j < n ∧ g 178 (fC g + j) = 0)) → (∀ j, j < n → g 178 (fC g + j) = 0 → hldS g (fC g + j) p i = false) → Ev L xs (d + 2) 161 36 [(4, .int (nI (fC g + n))), (3, .int (nI x)), (0, .ref 166), (1, .int (nI p)), (2, .int (nI i))] [] (HN (U g r w v) hl (RF rt)) Q) (fun n hn hnext => ?_) 0 (Nat.zero_le _) 0 r w v hs (Or.inl ⟨rfl, fun j hj => absurd hj (Nat.not_lt_zero _)⟩) (fun j hj => absurd hj (Nat.not_lt_zero _))
      intro x r w v hs hi1 hi2
      refine Ev.run 2 (pc' := 39) (lv' := [(4, .int (nI (fC g + n))), (3, .int (nI x)), (0, .ref 166), (1, .int (nI p)), (2, .int (nI i))]) (st' := [.ref 166, .int (nI (fC g + n))]) (h' := HN (U g r w v) hl (RF rt)) rfl ?_
      refine Ev.call (a := 157) (as := [.ref 166]) (rest := [.int (nI (fC g + n))]) (lv0 := [(0, .ref 166)]) (Q1 := (fun z0 h' => z0 = some (.int (nI (fC g + nC g))) ∧ h' = HN (U g r w v) hl (RF rt))) rfl rfl (C_nC _ _ _ _ (hI.mU hs) ⟨rfl, rfl⟩) (fun r h' hr => ?_)
      obtain ⟨rfl, rfl⟩ := hr
      refine Ev.run 1 (pc' := (if nI (fC g + nC g) ≤ nI (fC g + n) then 79 else 45)) (lv' := [(4, .int (nI (fC g + n))), (3, .int (nI x)), (0, .ref 166), (1, .int (nI p)), (2, .int (nI i))]) (st' := []) (h' := HN (U g r w v) hl (RF rt)) rfl ?_
      refine Ev.ite (fun hc42 => ?_) (fun hc42 => ?_)
      · have hc42 : (fC g + nC g) ≤ (fC g + n) := (nI_leI (by omega) (by omega)).mp hc42
        have hx01 : x < 2 := by rcases hi1 with ⟨e, _⟩ | ⟨e, _⟩ <;> omega
        refine Ev.run 2 (pc' := (if nI x = 0 then 83 else 87)) (lv' := [(4, .int (nI (fC g + n))), (3, .int (nI x)), (0, .ref 166), (1, .int (nI p)), (2, .int (nI i))]) (st' := []) (h' := HN (U g r w v) hl (RF rt)) rfl ?_
        refine Ev.ite (fun hc80 => ?_) (fun hc80 => ?_)
        · have hc80 : x = 0 := (nI_eqU0 (by omega)).mp hc80
          refine Ev.run 2 (pc' := 88) (lv' := [(4, .int (nI (fC g + n))), (3, .int (nI x)), (0, .ref 166), (1, .int (nI p)), (2, .int (nI i))]) (st' := [.int (nI 1)]) (h' := HN (U g r w v) hl (RF rt)) rfl ?_
          refine Ev.ret (v := some (.int (nI 1))) rfl ?_
          have e : kwS g p i = true := by
            refine dc_t ?_
            first
              | exact Or.inl hc7
              | exact Or.inr (Or.inl ⟨hc15, hc23⟩)
              | exact Or.inr (Or.inr (Or.inl ⟨n, by omega, hc52, hb68⟩))
              | exact Or.inr (Or.inr (Or.inr (fun j hj => by
                  rcases hi1 with ⟨_, e2⟩ | ⟨e1, _⟩
                  · exact e2 j (by omega)
                  · omega)))
          have hx := hq r w v hs
          rw [e] at hx
          exact hx
        · have hc80 : ¬ (x = 0) := fun z => hc80 ((nI_eqU0 (by omega)).mpr z)
          refine Ev.run 1 (pc' := 88) (lv' := [(4, .int (nI (fC g + n))), (3, .int (nI x)), (0, .ref 166), (1, .int (nI p)), (2, .int (nI i))]) (st' := [.int (nI 0)]) (h' := HN (U g r w v) hl (RF rt)) rfl ?_
          refine Ev.ret (v := some (.int (nI 0))) rfl ?_
          have hn0 : n = nC g := by omega
          have e : kwS g p i = false := by
            refine dc_f (fun z => ?_)
            rcases z with z | z | ⟨j, z1, z2, z3⟩ | z
            · exact hc7 z
            · first | exact hc15 z.1 | exact hc23 z.2
            · exact tf z3 (hi2 j (by omega) z2)
            · rcases hi1 with ⟨e1, _⟩ | ⟨_, j, e2, e3⟩
              · omega
              · exact z j (by omega) e3
          have hx := hq r w v hs
          rw [e] at hx
          exact hx
      · have hc42 : ¬ ((fC g + nC g) ≤ (fC g + n)) := fun z => hc42 ((nI_leI (by omega) (by omega)).mpr z)
        refine Ev.run 3 (pc' := 51) (lv' := [(4, .int (nI (fC g + n))), (3, .int (nI x)), (0, .ref 166), (1, .int (nI p)), (2, .int (nI i))]) (st' := [.int (nI (fC g + n)), .ref 178]) (h' := HN (U g r w v) hl (RF rt)) rfl ?_
        refine Ev_iald rfl rfl (show fC g + n < 60 by omega) (Nat.le_of_ble_eq_true rfl) ?_
        have hr2 := hwd (fC g + n) (by omega)
        refine Ev.run 1 (pc' := (if nI (g 178 (fC g + n)) = 0 then 58 else 55)) (lv' := [(4, .int (nI (fC g + n))), (3, .int (nI x)), (0, .ref 166), (1, .int (nI p)), (2, .int (nI i))]) (st' := []) (h' := HN (U g r w v) hl (RF rt)) rfl ?_
        refine Ev.ite (fun hc52 => ?_) (fun hc52 => ?_)
        · have hc52 : (g 178 (fC g + n)) = 0 := (nI_eqU0 (by omega)).mp hc52
          have hx01 : x < 2 := by rcases hi1 with ⟨e, _⟩ | ⟨e, _⟩ <;> omega
          have hWF : WFc g (fC g + n) := hK n (by omega) hc52
          refine Ev.run 6 (pc' := 65) (lv' := [(3, .int (nI 1)), (4, .int (nI (fC g + n))), (0, .ref 166), (1, .int (nI p)), (2, .int (nI i))]) (st' := [.int (nI i), .int (nI p), .int (nI (fC g + n)), .ref 166]) (h' := HN (U g r w v) hl (RF rt)) rfl ?_
          refine Ev.call (a := 160) (as := [.ref 166, .int (nI (fC g + n)), .int (nI p), .int (nI i)]) (rest := []) (lv0 := [(0, .ref 166), (1, .int (nI (fC g + n))), (2, .int (nI p)), (3, .int (nI i))]) (Q1 := (fun r h' => ∃ r1 w1 v1, SmH g r1 v1 ∧ r = some (.int (nI (bn (hldS g (fC g + n) p i)))) ∧ h' = HN (U g r1 w1 v1) hl (RF rt))) rfl rfl (C_holds _ _ _ _ hI (fC g + n) p i (by omega) (by omega) (by omega) hWF r w v hs (fun r w v h => ⟨r, w, v, h, rfl, rfl⟩)) (fun r h' hr => ?_)
          obtain ⟨r8, w8, v8, hs8, rfl, rfl⟩ := hr
          refine Ev_bn (fun hb68 => ?_) (fun hb68 => ?_)
          · skip
            refine Ev.run 2 (pc' := 72) (lv' := [(3, .int (nI 1)), (4, .int (nI (fC g + n))), (0, .ref 166), (1, .int (nI p)), (2, .int (nI i))]) (st' := [.int (nI 1)]) (h' := HN (U g r8 w8 v8) hl (RF rt)) rfl ?_
            refine Ev.ret (v := some (.int (nI 1))) rfl ?_
            have e : kwS g p i = true := by
              refine dc_t ?_
              first
                | exact Or.inl hc7
                | exact Or.inr (Or.inl ⟨hc15, hc23⟩)
                | exact Or.inr (Or.inr (Or.inl ⟨n, by omega, hc52, hb68⟩))
                | exact Or.inr (Or.inr (Or.inr (fun j hj => by
                    rcases hi1 with ⟨_, e2⟩ | ⟨e1, _⟩
                    · exact e2 j (by omega)
                    · omega)))
            have hx := hq r8 w8 v8 hs8
            rw [e] at hx
            exact hx
          · skip
            refine Ev.run 2 (pc' := 76) (lv' := [(4, .int (nI (fC g + n) + 1)), (3, .int (nI 1)), (0, .ref 166), (1, .int (nI p)), (2, .int (nI i))]) (st' := []) (h' := HN (U g r8 w8 v8) hl (RF rt)) rfl ?_
            refine Ev.lvE (congrArg (fun z => (4, Value.int z) :: [(3, .int (nI 1)), (0, .ref 166), (1, .int (nI p)), (2, .int (nI i))]) (nI_1 _)) ?_
            refine Ev.run 1 (pc' := 36) (lv' := [(4, .int (nI (fC g + n + 1))), (3, .int (nI 1)), (0, .ref 166), (1, .int (nI p)), (2, .int (nI i))]) (st' := []) (h' := HN (U g r8 w8 v8) hl (RF rt)) rfl ?_
            have hy1 : (1 = 0 ∧ ∀ j, j < n + 1 → g 178 (fC g + j) ≠ 0) ∨ (1 = 1 ∧ ∃ j, j < n + 1 ∧ g 178 (fC g + j) = 0) := Or.inr ⟨rfl, n, by omega, hc52⟩
            have hy2 : ∀ j, j < n + 1 → g 178 (fC g + j) = 0 → hldS g (fC g + j) p i = false := (by
              intro j hj hz
              by_cases e : j = n
              · rw [e]; exact hb68
              · exact hi2 j (by omega) hz)
            have hx := hnext (by omega) 1 r8 w8 v8 hs8 hy1 hy2
            exact Ev.wk (Ext.cons rfl rfl (Ext.cons rfl rfl (Ext.cons rfl rfl (Ext.cons rfl rfl (Ext.cons rfl rfl (Ext.nil rfl)))))) hx
        · have hc52 : ¬ ((g 178 (fC g + n)) = 0) := fun z => hc52 ((nI_eqU0 (by omega)).mpr z)
          refine Ev.run 2 (pc' := 76) (lv' := [(4, .int (nI (fC g + n) + 1)), (3, .int (nI x)), (0, .ref 166), (1, .int (nI p)), (2, .int (nI i))]) (st' := []) (h' := HN (U g r w v) hl (RF rt)) rfl ?_
          refine Ev.lvE (congrArg (fun z => (4, Value.int z) :: [(3, .int (nI x)), (0, .ref 166), (1, .int (nI p)), (2, .int (nI i))]) (nI_1 _)) ?_
          refine Ev.run 1 (pc' := 36) (lv' := [(4, .int (nI (fC g + n + 1))), (3, .int (nI x)), (0, .ref 166), (1, .int (nI p)), (2, .int (nI i))]) (st' := []) (h' := HN (U g r w v) hl (RF rt)) rfl ?_
          have hy1 : (x = 0 ∧ ∀ j, j < n + 1 → g 178 (fC g + j) ≠ 0) ∨ (x = 1 ∧ ∃ j, j < n + 1 ∧ g 178 (fC g + j) = 0) := (by
            rcases hi1 with ⟨e1, e2⟩ | ⟨e1, j, e2, e3⟩
            · refine Or.inl ⟨e1, fun j hj => ?_⟩
              by_cases e : j = n
              · rw [e]; exact hc52
              · exact e2 j (by omega)
            · exact Or.inr ⟨e1, j, by omega, e3⟩)
          have hy2 : ∀ j, j < n + 1 → g 178 (fC g + j) = 0 → hldS g (fC g + j) p i = false := (by
            intro j hj hz
            by_cases e : j = n
            · rw [e] at hz; exact absurd hz hc52
            · exact hi2 j (by omega) hz)
          have hx := hnext (by omega) x r w v hs hy1 hy2
          exact Ev.wk (Ext.cons rfl rfl (Ext.cons rfl rfl (Ext.cons rfl rfl (Ext.cons rfl rfl (Ext.cons rfl rfl (Ext.nil rfl)))))) hx
theorem C_knownOf {L : Nat} {xs : Nat → Int32} (d : Nat) (g : Nat → Nat → Nat) (hl : Nat → Nat → Int64) (rt : Nat × Nat × Nat × Nat) (hI : MI g) (hK : KW g) (p : Nat) (hp : p < 5) (r w v : Nat → Nat) (hs : SmH g r v)  {Q : Po} (hq : ∀ r' w' v' : Nat → Nat, SmH g r' v' → Q (some (.int (nI (knS g p)))) (HN (U g r' w' v') hl (RF rt))) : Ev L xs (d + 3) 162 0 [(0, .ref 166), (1, .int (nI p))] [] (HN (U g r w v) hl (RF rt)) Q := by
  have hW := hI.hW
  have hS := hI.hS
  have hPl := hI.hPl
  have hNx := hI.hNx
  have hLa := hI.hLa
  have hLo := hI.hLo
  have hTb := hI.hTb
  have hTh := hI.hTh
  have hFd := hI.hFd
  have hSn := hI.hSn
  have hSh := hI.hSh
  have hRan := hI.hRan
  have hLr := hI.hLr
  have hLt := hI.hLt
  have hgl := hI.hgl
  have hsz := hI.hsz
  have hcm := hI.hcm
  have hsl := hI.hsl
  have hkd := hI.hkd
  have hvv := hI.hvv
  have hli := hI.hli
  have hro := hI.hro
  have hrw := hI.hrw
  have htx := hI.htx
  have hsw := hI.hsw
  have hsx := hI.hsx
  have hsy := hI.hsy
  have hsh := hI.hsh
  have hle := hI.hle
  have hcl := hI.hcl
  have hwd := hI.hwd
  have hnu := hI.hnu
  have hwn := hI.hwn
  have hs1 := hI.hs1
  have hso := hI.hso
  refine Ev.run 4 (pc' := 4) (lv' := [(3, .int (nI 0)), (2, .int (nI 0)), (0, .ref 166), (1, .int (nI p))]) (st' := []) (h' := HN (U g r w v) hl (RF rt)) rfl ?_
  refine for_ind (g 166 0) (fun n => ∀ (r w v : Nat → Nat), SmH g r v → Ev L xs (d + 3) 162 4 [(3, .int (nI n)), (2, .int (nI (bset (kwS g p) n))), (0, .ref 166), (1, .int (nI p))] [] (HN (U g r w v) hl (RF rt)) Q) (fun n hn hnext => ?_) 0 (Nat.zero_le _) r w v hs
  intro r w v hs
  refine Ev.run 4 (pc' := (if nI (g 166 0) ≤ nI n then 37 else 12)) (lv' := [(3, .int (nI n)), (2, .int (nI (bset (kwS g p) n))), (0, .ref 166), (1, .int (nI p))]) (st' := []) (h' := HN (U g r w v) hl (RF rt)) rfl ?_
  refine Ev.ite (fun hc9 => ?_) (fun hc9 => ?_)
  · have hc9 : (g 166 0) ≤ n := (nI_leI (by omega) (by omega)).mp hc9
    refine Ev.run 1 (pc' := 38) (lv' := [(3, .int (nI n)), (2, .int (nI (bset (kwS g p) n))), (0, .ref 166), (1, .int (nI p))]) (st' := [.int (nI (bset (kwS g p) n))]) (h' := HN (U g r w v) hl (RF rt)) rfl ?_
    refine Ev.ret (v := some (.int (nI (bset (kwS g p) n)))) rfl ?_
    obtain rfl : n = g 166 0 := by omega
    exact hq r w v hs
  · have hc9 : ¬ ((g 166 0) ≤ n) := fun z => hc9 ((nI_leI (by omega) (by omega)).mpr z)
    refine Ev.run 4 (pc' := 16) (lv' := [(3, .int (nI n)), (2, .int (nI (bset (kwS g p) n))), (0, .ref 166), (1, .int (nI p))]) (st' := [.int (nI n), .int (nI p), .ref 166, .int (nI (bset (kwS g p) n))]) (h' := HN (U g r w v) hl (RF rt)) rfl ?_
    refine Ev.call (a := 161) (as := [.ref 166, .int (nI p), .int (nI n)]) (rest := [.int (nI (bset (kwS g p) n))]) (lv0 := [(0, .ref 166), (1, .int (nI p)), (2, .int (nI n))]) (Q1 := (fun r h' => ∃ r1 w1 v1, SmH g r1 v1 ∧ r = some (.int (nI (bn (kwS g p n)))) ∧ h' = HN (U g r1 w1 v1) hl (RF rt))) rfl rfl (C_knows _ _ _ _ hI hK p n (by omega) (by omega) r w v hs (fun r w v h => ⟨r, w, v, h, rfl, rfl⟩)) (fun r h' hr => ?_)
    obtain ⟨r9, w9, v9, hs9, rfl, rfl⟩ := hr
    refine Ev_bn (fun hb19 => ?_) (fun hb19 => ?_)
    · skip
      refine Ev.run 4 (pc' := 25) (lv' := [(3, .int (nI n)), (2, .int (nI (bset (kwS g p) n))), (0, .ref 166), (1, .int (nI p))]) (st' := [.int (nI 1 <<< (nI n &&& 31)), .int (nI (bset (kwS g p) n))]) (h' := HN (U g r9 w9 v9) hl (RF rt)) rfl ?_
      refine Ev.topI (nI_shl (by omega)) ?_
      refine Ev.run 2 (pc' := 30) (lv' := [(3, .int (nI n)), (2, .int (nI (bset (kwS g p) n))), (0, .ref 166), (1, .int (nI p))]) (st' := [.int (nI (bset (kwS g p) n) ||| nI (nSh 1 n))]) (h' := HN (U g r9 w9 v9) hl (RF rt)) rfl ?_
      refine Ev.topI (nIo _ _) ?_
      refine Ev.run 2 (pc' := 34) (lv' := [(3, .int (nI n + 1)), (2, .int (nI ((bset (kwS g p) n) ||| (nSh 1 n)))), (0, .ref 166), (1, .int (nI p))]) (st' := []) (h' := HN (U g r9 w9 v9) hl (RF rt)) rfl ?_
      refine Ev.lvE (congrArg (fun z => (3, Value.int z) :: [(2, .int (nI ((bset (kwS g p) n) ||| (nSh 1 n)))), (0, .ref 166), (1, .int (nI p))]) (nI_1 _)) ?_
      refine Ev.run 1 (pc' := 4) (lv' := [(3, .int (nI (n + 1))), (2, .int (nI ((bset (kwS g p) n) ||| (nSh 1 n)))), (0, .ref 166), (1, .int (nI p))]) (st' := []) (h' := HN (U g r9 w9 v9) hl (RF rt)) rfl ?_
      have hx := hnext (by omega) r9 w9 v9 hs9
      rw [bset_s1 (p := kwS g p) (by simp only [hc9, hb19, Bool.and_true, Bool.and_false, Bool.true_and, Bool.false_and, decide_true, decide_false, Bool.not_true, Bool.not_false])] at hx
      exact hx
    · skip
      refine Ev.run 3 (pc' := 30) (lv' := [(3, .int (nI n)), (2, .int (nI (bset (kwS g p) n))), (0, .ref 166), (1, .int (nI p))]) (st' := [.int (nI (bset (kwS g p) n) ||| nI 0)]) (h' := HN (U g r9 w9 v9) hl (RF rt)) rfl ?_
      refine Ev.topI (nIo _ _) ?_
      refine Ev.run 2 (pc' := 34) (lv' := [(3, .int (nI n + 1)), (2, .int (nI ((bset (kwS g p) n) ||| 0))), (0, .ref 166), (1, .int (nI p))]) (st' := []) (h' := HN (U g r9 w9 v9) hl (RF rt)) rfl ?_
      refine Ev.lvE (congrArg (fun z => (3, Value.int z) :: [(2, .int (nI ((bset (kwS g p) n) ||| 0))), (0, .ref 166), (1, .int (nI p))]) (nI_1 _)) ?_
      refine Ev.run 1 (pc' := 4) (lv' := [(3, .int (nI (n + 1))), (2, .int (nI ((bset (kwS g p) n) ||| 0))), (0, .ref 166), (1, .int (nI p))]) (st' := []) (h' := HN (U g r9 w9 v9) hl (RF rt)) rfl ?_
      have hx := hnext (by omega) r9 w9 v9 hs9
      rw [bset_s0 (p := kwS g p) (by simp only [hc9, hb19, Bool.and_true, Bool.and_false, Bool.true_and, Bool.false_and, decide_true, decide_false, Bool.not_true, Bool.not_false])] at hx
      exact hx
theorem C_mayOf {L : Nat} {xs : Nat → Int32} (d : Nat) (g : Nat → Nat → Nat) (hl : Nat → Nat → Int64) (rt : Nat × Nat × Nat × Nat) (hI : MI g) (hK : KW g) (p : Nat) (hp : p < 5) (r w v : Nat → Nat) (hs : SmH g r v)  {Q : Po} (hq : ∀ r' w' v' : Nat → Nat, SmH g r' v' → Q (some (.int (nI (maS g p)))) (HN (U g r' w' v') hl (RF rt))) : Ev L xs (d + 4) 180 0 [(0, .ref 166), (1, .int (nI p))] [] (HN (U g r w v) hl (RF rt)) Q := by
  have hW := hI.hW
  have hS := hI.hS
  have hPl := hI.hPl
  have hNx := hI.hNx
  have hLa := hI.hLa
  have hLo := hI.hLo
  have hTb := hI.hTb
  have hTh := hI.hTh
  have hFd := hI.hFd
  have hSn := hI.hSn
  have hSh := hI.hSh
  have hRan := hI.hRan
  have hLr := hI.hLr
  have hLt := hI.hLt
  have hgl := hI.hgl
  have hsz := hI.hsz
  have hcm := hI.hcm
  have hsl := hI.hsl
  have hkd := hI.hkd
  have hvv := hI.hvv
  have hli := hI.hli
  have hro := hI.hro
  have hrw := hI.hrw
  have htx := hI.htx
  have hsw := hI.hsw
  have hsx := hI.hsx
  have hsy := hI.hsy
  have hsh := hI.hsh
  have hle := hI.hle
  have hcl := hI.hcl
  have hwd := hI.hwd
  have hnu := hI.hnu
  have hwn := hI.hwn
  have hs1 := hI.hs1
  have hso := hI.hso
  refine Ev.run 3 (pc' := 3) (lv' := [(0, .ref 166), (1, .int (nI p))]) (st' := [.int (nI p), .ref 166, .ref 166]) (h' := HN (U g r w v) hl (RF rt)) rfl ?_
  refine Ev.call (a := 162) (as := [.ref 166, .int (nI p)]) (rest := [.ref 166]) (lv0 := [(0, .ref 166), (1, .int (nI p))]) (Q1 := (fun r h' => ∃ r1 w1 v1, SmH g r1 v1 ∧ r = some (.int (nI (knS g p))) ∧ h' = HN (U g r1 w1 v1) hl (RF rt))) rfl rfl (C_knownOf _ _ _ _ hI hK p (by omega) r w v hs (fun r w v h => ⟨r, w, v, h, rfl, rfl⟩)) (fun r h' hr => ?_)
  obtain ⟨r10, w10, v10, hs10, rfl, rfl⟩ := hr
  have hkn := knS_lt hI p
  refine Ev.call (a := 168) (as := [.ref 166, .int (nI (knS g p))]) (rest := []) (lv0 := [(0, .ref 166), (1, .int (nI (knS g p)))]) (Q1 := (fun z0 h' => z0 = some (.int (nI (goG g (g 175) (g 166 9) (knS g p)))) ∧ h' = HN (U g r10 w10 v10) hl (RF rt))) rfl rfl (C_going _ _ _ _ (hI.mU hs10) (knS g p) (by omega) ⟨congrArg (fun z => some (Value.int (nI z))) (UgoG hs10 _), rfl⟩) (fun r h' hr => ?_)
  obtain ⟨rfl, rfl⟩ := hr
  have hgo := goG_lt hI (g 175) (g 166 9) (knS g p)
  refine Ev.ret (v := some (.int (nI (goG g (g 175) (g 166 9) (knS g p))))) rfl ?_
  exact hq r10 w10 v10 hs10
theorem C_isSafe {L : Nat} {xs : Nat → Int32} (d : Nat) (g : Nat → Nat → Nat) (hl : Nat → Nat → Int64) (rt : Nat × Nat × Nat × Nat) (hI : MI g) (l : Nat) (hl3 : l ≤ 3) (hn12 : g 166 9 < 12) (r w v : Nat → Nat) (hs : SmH g r v)  {Q : Po} (hq : ∀ r' w' v' : Nat → Nat, SmH g r' v' → Q (some (.int (nI (bn (sfS g l))))) (HN (U g r' w' v') hl (RF rt))) : Ev L xs (d + 3) 167 0 [(0, .ref 166), (1, .int (nI l))] [] (HN (U g r w v) hl (RF rt)) Q := by
  have hW := hI.hW
  have hS := hI.hS
  have hPl := hI.hPl
  have hNx := hI.hNx
  have hLa := hI.hLa
  have hLo := hI.hLo
  have hTb := hI.hTb
  have hTh := hI.hTh
  have hFd := hI.hFd
  have hSn := hI.hSn
  have hSh := hI.hSh
  have hRan := hI.hRan
  have hLr := hI.hLr
  have hLt := hI.hLt
  have hgl := hI.hgl
  have hsz := hI.hsz
  have hcm := hI.hcm
  have hsl := hI.hsl
  have hkd := hI.hkd
  have hvv := hI.hvv
  have hli := hI.hli
  have hro := hI.hro
  have hrw := hI.hrw
  have htx := hI.htx
  have hsw := hI.hsw
  have hsx := hI.hsx
  have hsy := hI.hsy
  have hsh := hI.hsh
  have hle := hI.hle
  have hcl := hI.hcl
  have hwd := hI.hwd
  have hnu := hI.hnu
  have hwn := hI.hwn
  have hs1 := hI.hs1
  have hso := hI.hso
  refine Ev.run 5 (pc' := 9) (lv' := [(0, .ref 166), (1, .int (nI l))]) (st' := [.int (nI l), .int (nI (g 166 9)), .ref 175]) (h' := HN (U g r w v) hl (RF rt)) rfl ?_
  refine Ev_iast rfl rfl (show g 166 9 < 12 by omega) (Nat.le_of_ble_eq_true rfl) ?_
  refine Ev.run 5 (pc' := 17) (lv' := [(0, .ref 166), (1, .int (nI l))]) (st' := [.int (nI (g 166 9) + nI 1), .ref 166]) (h' := HN (u2 (U g r w v) 175 (g 166 9) l) hl (RF rt)) rfl ?_
  refine Ev.topI (nI_add _ _) ?_
  refine Ev.run 1 (pc' := 20) (lv' := [(0, .ref 166), (1, .int (nI l))]) (st' := []) (h' := setI (HN (u2 (U g r w v) 175 (g 166 9) l) hl (RF rt)) 166 9 (nI ((g 166 9) + 1))) rfl ?_
  refine Ev.hp (HN_set _ _ _ _ _ _) ?_
  refine Ev.hp (congrArg (fun z => HN z hl (RF rt)) (U_R1 g r w v l)) ?_
  have hI2 := hI.mR1 hl3 hn12
  have hs2 := hs.sR1 hl3
  have hR9 : R1 g l 166 9 = g 166 9 + 1 := rfl
  have e1 : endS (U (R1 g l) (up r (g 166 9) l) w v) (lwS (U (R1 g l) (up r (g 166 9) l) w v) 1) (U (R1 g l) (up r (g 166 9) l) w v 175) (U (R1 g l) (up r (g 166 9) l) w v 166 9) = endS g (lwS g 1) (up r (g 166 9) l) (g 166 9 + 1) := UendS hs2.back l
  have e2 : endS g (lwS g 1) (up r (g 166 9) l) (g 166 9 + 1) = endS g (lwS g 1) (up (g 175) (g 166 9) l) (g 166 9 + 1) := endS_cg (up_cg hs.2.1 l) _
  refine Ev.run 1 (pc' := 21) (lv' := [(0, .ref 166), (1, .int (nI l))]) (st' := [.ref 166]) (h' := HN (U (R1 g l) (up r (g 166 9) l) w v) hl (RF rt)) rfl ?_
  refine Ev.call (a := 166) (as := [.ref 166]) (rest := []) (lv0 := [(0, .ref 166)]) (Q1 := (fun z0 h' => z0 = some (.int (nI (bn (endS g (lwS g 1) (up (g 175) (g 166 9) l) (g 166 9 + 1))))) ∧ h' = HN (U (R1 g l) (up r (g 166 9) l) w v) hl (RF rt))) rfl rfl (C_ends _ _ _ _ (hI2.mU hs2) ⟨congrArg (fun z => some (Value.int (nI (bn z)))) (e1.trans e2), rfl⟩) (fun r h' hr => ?_)
  obtain ⟨rfl, rfl⟩ := hr
  refine Ev_bn (fun hb24 => ?_) (fun hb24 => ?_)
  · skip
    refine Ev.run 8 (pc' := 40) (lv' := [(2, .int (nI 0)), (0, .ref 166), (1, .int (nI l))]) (st' := [.int (nI ((R1 g l) 166 9) - nI 1), .ref 166]) (h' := HN (U (R1 g l) (up r (g 166 9) l) w v) hl (RF rt)) rfl ?_
    refine Ev.topI (pk_sub (a := ((R1 g l) 166 9)) (b := 1) (by omega)) ?_
    refine Ev.run 1 (pc' := 43) (lv' := [(2, .int (nI 0)), (0, .ref 166), (1, .int (nI l))]) (st' := []) (h' := setI (HN (U (R1 g l) (up r (g 166 9) l) w v) hl (RF rt)) 166 9 (nI (((R1 g l) 166 9) - 1))) rfl ?_
    refine Ev.hp (HN_set _ _ _ _ _ _) ?_
    refine Ev.run 1 (pc' := 44) (lv' := [(2, .int (nI 0)), (0, .ref 166), (1, .int (nI l))]) (st' := [.int (nI 0)]) (h' := HN (u2 (U (R1 g l) (up r (g 166 9) l) w v) 166 9 (((R1 g l) 166 9) - 1)) hl (RF rt)) rfl ?_
    refine Ev.ret (v := some (.int (nI 0))) rfl ?_
    have e : sfS g l = false := by unfold sfS; rw [hb24]; rfl
    have hx := hq (up r (g 166 9) l) w v hs2.back
    rw [e] at hx
    rw [← R1_back g (up r (g 166 9) l) w v l (R1 g l 166 9 - 1) (by show g 166 9 + 1 - 1 = _; omega)] at hx
    exact hx
  · skip
    refine Ev.run 9 (pc' := 40) (lv' := [(2, .int (nI 1)), (0, .ref 166), (1, .int (nI l))]) (st' := [.int (nI ((R1 g l) 166 9) - nI 1), .ref 166]) (h' := HN (U (R1 g l) (up r (g 166 9) l) w v) hl (RF rt)) rfl ?_
    refine Ev.topI (pk_sub (a := ((R1 g l) 166 9)) (b := 1) (by omega)) ?_
    refine Ev.run 1 (pc' := 43) (lv' := [(2, .int (nI 1)), (0, .ref 166), (1, .int (nI l))]) (st' := []) (h' := setI (HN (U (R1 g l) (up r (g 166 9) l) w v) hl (RF rt)) 166 9 (nI (((R1 g l) 166 9) - 1))) rfl ?_
    refine Ev.hp (HN_set _ _ _ _ _ _) ?_
    refine Ev.run 1 (pc' := 44) (lv' := [(2, .int (nI 1)), (0, .ref 166), (1, .int (nI l))]) (st' := [.int (nI 1)]) (h' := HN (u2 (U (R1 g l) (up r (g 166 9) l) w v) 166 9 (((R1 g l) 166 9) - 1)) hl (RF rt)) rfl ?_
    refine Ev.ret (v := some (.int (nI 1))) rfl ?_
    have e : sfS g l = true := by unfold sfS; rw [hb24]; rfl
    have hx := hq (up r (g 166 9) l) w v hs2.back
    rw [e] at hx
    rw [← R1_back g (up r (g 166 9) l) w v l (R1 g l 166 9 - 1) (by show g 166 9 + 1 - 1 = _; omega)] at hx
    exact hx
theorem C_safeOf {L : Nat} {xs : Nat → Int32} (d : Nat) (g : Nat → Nat → Nat) (hl : Nat → Nat → Int64) (rt : Nat × Nat × Nat × Nat) (hI : MI g) (may : Nat) (hmay : may < 16) (h12 : may ≠ 0 → g 166 9 < 12) (r w v : Nat → Nat) (hs : SmH g r v)  {Q : Po} (hq : ∀ r' w' v' : Nat → Nat, SmH g r' v' → Q (some (.int (nI (saS g may)))) (HN (U g r' w' v') hl (RF rt))) : Ev L xs (d + 4) 169 0 [(0, .ref 166), (1, .int (nI may))] [] (HN (U g r w v) hl (RF rt)) Q := by
  have hW := hI.hW
  have hS := hI.hS
  have hPl := hI.hPl
  have hNx := hI.hNx
  have hLa := hI.hLa
  have hLo := hI.hLo
  have hTb := hI.hTb
  have hTh := hI.hTh
  have hFd := hI.hFd
  have hSn := hI.hSn
  have hSh := hI.hSh
  have hRan := hI.hRan
  have hLr := hI.hLr
  have hLt := hI.hLt
  have hgl := hI.hgl
  have hsz := hI.hsz
  have hcm := hI.hcm
  have hsl := hI.hsl
  have hkd := hI.hkd
  have hvv := hI.hvv
  have hli := hI.hli
  have hro := hI.hro
  have hrw := hI.hrw
  have htx := hI.htx
  have hsw := hI.hsw
  have hsx := hI.hsx
  have hsy := hI.hsy
  have hsh := hI.hsh
  have hle := hI.hle
  have hcl := hI.hcl
  have hwd := hI.hwd
  have hnu := hI.hnu
  have hwn := hI.hwn
  have hs1 := hI.hs1
  have hso := hI.hso
  refine Ev.run 4 (pc' := 4) (lv' := [(3, .int (nI 0)), (2, .int (nI 0)), (0, .ref 166), (1, .int (nI may))]) (st' := []) (h' := HN (U g r w v) hl (RF rt)) rfl ?_
  refine for_ind 4 (fun n => ∀ (r w v : Nat → Nat), SmH g r v → Ev L xs (d + 4) 169 4 [(3, .int (nI n)), (2, .int (nI (bset (fun l => may.testBit l && sfS g l) n))), (0, .ref 166), (1, .int (nI may))] [] (HN (U g r w v) hl (RF rt)) Q) (fun n hn hnext => ?_) 0 (Nat.zero_le _) r w v hs
  intro r w v hs
  refine Ev.run 3 (pc' := (if nI 4 ≤ nI n then 42 else 9)) (lv' := [(3, .int (nI n)), (2, .int (nI (bset (fun l => may.testBit l && sfS g l) n))), (0, .ref 166), (1, .int (nI may))]) (st' := []) (h' := HN (U g r w v) hl (RF rt)) rfl ?_
  refine Ev.ite (fun hc6 => ?_) (fun hc6 => ?_)
  · have hc6 : 4 ≤ n := (nI_leI (by omega) (by omega)).mp hc6
    refine Ev.run 1 (pc' := 43) (lv' := [(3, .int (nI n)), (2, .int (nI (bset (fun l => may.testBit l && sfS g l) n))), (0, .ref 166), (1, .int (nI may))]) (st' := [.int (nI (bset (fun l => may.testBit l && sfS g l) n))]) (h' := HN (U g r w v) hl (RF rt)) rfl ?_
    refine Ev.ret (v := some (.int (nI (bset (fun l => may.testBit l && sfS g l) n)))) rfl ?_
    obtain rfl : n = 4 := by omega
    exact hq r w v hs
  · have hc6 : ¬ (4 ≤ n) := fun z => hc6 ((nI_leI (by omega) (by omega)).mpr z)
    refine Ev.run 4 (pc' := 13) (lv' := [(3, .int (nI n)), (2, .int (nI (bset (fun l => may.testBit l && sfS g l) n))), (0, .ref 166), (1, .int (nI may))]) (st' := [.int (nI n), .int (nI may), .ref 166, .int (nI (bset (fun l => may.testBit l && sfS g l) n))]) (h' := HN (U g r w v) hl (RF rt)) rfl ?_
    refine Ev.call (a := 127) (as := [.ref 166, .int (nI may), .int (nI n)]) (rest := [.int (nI (bset (fun l => may.testBit l && sfS g l) n))]) (lv0 := [(0, .ref 166), (1, .int (nI may)), (2, .int (nI n))]) (Q1 := (fun z0 h' => z0 = some (.int (nI (bn (Nat.testBit may n)))) ∧ h' = HN (U g r w v) hl (RF rt))) rfl rfl (C_isIn _ _ _ _ may n (by omega) (by omega) ⟨rfl, rfl⟩) (fun r h' hr => ?_)
    obtain ⟨rfl, rfl⟩ := hr
    refine Ev_bn (fun hb16 => ?_) (fun hb16 => ?_)
    · skip
      refine Ev.run 1 (pc' := 19) (lv' := [(3, .int (nI n)), (2, .int (nI (bset (fun l => may.testBit l && sfS g l) n))), (0, .ref 166), (1, .int (nI may))]) (st' := [.int (nI (bset (fun l => may.testBit l && sfS g l) n))]) (h' := HN (U g r w v) hl (RF rt)) rfl ?_
      have hn12 : g 166 9 < 12 := h12 (fun z => by rw [z, Nat.zero_testBit] at hb16; cases hb16)
      refine Ev.run 2 (pc' := 21) (lv' := [(3, .int (nI n)), (2, .int (nI (bset (fun l => may.testBit l && sfS g l) n))), (0, .ref 166), (1, .int (nI may))]) (st' := [.int (nI n), .ref 166, .int (nI (bset (fun l => may.testBit l && sfS g l) n))]) (h' := HN (U g r w v) hl (RF rt)) rfl ?_
      refine Ev.call (a := 167) (as := [.ref 166, .int (nI n)]) (rest := [.int (nI (bset (fun l => may.testBit l && sfS g l) n))]) (lv0 := [(0, .ref 166), (1, .int (nI n))]) (Q1 := (fun r h' => ∃ r1 w1 v1, SmH g r1 v1 ∧ r = some (.int (nI (bn (sfS g n)))) ∧ h' = HN (U g r1 w1 v1) hl (RF rt))) rfl rfl (C_isSafe _ _ _ _ hI n (by omega) (by omega) r w v hs (fun r w v h => ⟨r, w, v, h, rfl, rfl⟩)) (fun r h' hr => ?_)
      obtain ⟨r11, w11, v11, hs11, rfl, rfl⟩ := hr
      refine Ev_bn (fun hb24 => ?_) (fun hb24 => ?_)
      · skip
        refine Ev.run 4 (pc' := 30) (lv' := [(3, .int (nI n)), (2, .int (nI (bset (fun l => may.testBit l && sfS g l) n))), (0, .ref 166), (1, .int (nI may))]) (st' := [.int (nI 1 <<< (nI n &&& 31)), .int (nI (bset (fun l => may.testBit l && sfS g l) n))]) (h' := HN (U g r11 w11 v11) hl (RF rt)) rfl ?_
        refine Ev.topI (nI_shl (by omega)) ?_
        refine Ev.run 2 (pc' := 35) (lv' := [(3, .int (nI n)), (2, .int (nI (bset (fun l => may.testBit l && sfS g l) n))), (0, .ref 166), (1, .int (nI may))]) (st' := [.int (nI (bset (fun l => may.testBit l && sfS g l) n) ||| nI (nSh 1 n))]) (h' := HN (U g r11 w11 v11) hl (RF rt)) rfl ?_
        refine Ev.topI (nIo _ _) ?_
        refine Ev.run 2 (pc' := 39) (lv' := [(3, .int (nI n + 1)), (2, .int (nI ((bset (fun l => may.testBit l && sfS g l) n) ||| (nSh 1 n)))), (0, .ref 166), (1, .int (nI may))]) (st' := []) (h' := HN (U g r11 w11 v11) hl (RF rt)) rfl ?_
        refine Ev.lvE (congrArg (fun z => (3, Value.int z) :: [(2, .int (nI ((bset (fun l => may.testBit l && sfS g l) n) ||| (nSh 1 n)))), (0, .ref 166), (1, .int (nI may))]) (nI_1 _)) ?_
        refine Ev.run 1 (pc' := 4) (lv' := [(3, .int (nI (n + 1))), (2, .int (nI ((bset (fun l => may.testBit l && sfS g l) n) ||| (nSh 1 n)))), (0, .ref 166), (1, .int (nI may))]) (st' := []) (h' := HN (U g r11 w11 v11) hl (RF rt)) rfl ?_
        have hx := hnext (by omega) r11 w11 v11 hs11
        rw [bset_s1 (p := fun l => may.testBit l && sfS g l) (by simp only [hc6, hb16, hb24, Bool.and_true, Bool.and_false, Bool.true_and, Bool.false_and, decide_true, decide_false, Bool.not_true, Bool.not_false])] at hx
        exact hx
      · skip
        refine Ev.run 3 (pc' := 35) (lv' := [(3, .int (nI n)), (2, .int (nI (bset (fun l => may.testBit l && sfS g l) n))), (0, .ref 166), (1, .int (nI may))]) (st' := [.int (nI (bset (fun l => may.testBit l && sfS g l) n) ||| nI 0)]) (h' := HN (U g r11 w11 v11) hl (RF rt)) rfl ?_
        refine Ev.topI (nIo _ _) ?_
        refine Ev.run 2 (pc' := 39) (lv' := [(3, .int (nI n + 1)), (2, .int (nI ((bset (fun l => may.testBit l && sfS g l) n) ||| 0))), (0, .ref 166), (1, .int (nI may))]) (st' := []) (h' := HN (U g r11 w11 v11) hl (RF rt)) rfl ?_
        refine Ev.lvE (congrArg (fun z => (3, Value.int z) :: [(2, .int (nI ((bset (fun l => may.testBit l && sfS g l) n) ||| 0))), (0, .ref 166), (1, .int (nI may))]) (nI_1 _)) ?_
        refine Ev.run 1 (pc' := 4) (lv' := [(3, .int (nI (n + 1))), (2, .int (nI ((bset (fun l => may.testBit l && sfS g l) n) ||| 0))), (0, .ref 166), (1, .int (nI may))]) (st' := []) (h' := HN (U g r11 w11 v11) hl (RF rt)) rfl ?_
        have hx := hnext (by omega) r11 w11 v11 hs11
        rw [bset_s0 (p := fun l => may.testBit l && sfS g l) (by simp only [hc6, hb16, hb24, Bool.and_true, Bool.and_false, Bool.true_and, Bool.false_and, decide_true, decide_false, Bool.not_true, Bool.not_false])] at hx
        exact hx
    · skip
      refine Ev.run 3 (pc' := 35) (lv' := [(3, .int (nI n)), (2, .int (nI (bset (fun l => may.testBit l && sfS g l) n))), (0, .ref 166), (1, .int (nI may))]) (st' := [.int (nI (bset (fun l => may.testBit l && sfS g l) n) ||| nI 0)]) (h' := HN (U g r w v) hl (RF rt)) rfl ?_
      refine Ev.topI (nIo _ _) ?_
      refine Ev.run 2 (pc' := 39) (lv' := [(3, .int (nI n + 1)), (2, .int (nI ((bset (fun l => may.testBit l && sfS g l) n) ||| 0))), (0, .ref 166), (1, .int (nI may))]) (st' := []) (h' := HN (U g r w v) hl (RF rt)) rfl ?_
      refine Ev.lvE (congrArg (fun z => (3, Value.int z) :: [(2, .int (nI ((bset (fun l => may.testBit l && sfS g l) n) ||| 0))), (0, .ref 166), (1, .int (nI may))]) (nI_1 _)) ?_
      refine Ev.run 1 (pc' := 4) (lv' := [(3, .int (nI (n + 1))), (2, .int (nI ((bset (fun l => may.testBit l && sfS g l) n) ||| 0))), (0, .ref 166), (1, .int (nI may))]) (st' := []) (h' := HN (U g r w v) hl (RF rt)) rfl ?_
      have hx := hnext (by omega) r w v hs
      rw [bset_s0 (p := fun l => may.testBit l && sfS g l) (by simp only [hc6, hb16, Bool.and_true, Bool.and_false, Bool.true_and, Bool.false_and, decide_true, decide_false, Bool.not_true, Bool.not_false])] at hx
      exact hx
