/-! the reference: a turn -/
theorem U_u166 (g : Nat → Nat → Nat) (r w v : Nat → Nat) (j x : Nat) : u2 (U g r w v) 166 j x = U (u2 g 166 j x) r w v := by
  funext a b; unfold u2 U ur
  by_cases e : a = 166
  · subst e; simp
  · simp [e]
theorem U_u173 (g : Nat → Nat → Nat) (r w v : Nat → Nat) (j x : Nat) : u2 (U g r w v) 173 j x = U (u2 g 173 j x) r w v := by
  funext a b; unfold u2 U ur
  by_cases e : a = 173
  · subst e; simp
  · simp [e]
/-- what a turn leaves as it is -/
def Ct (g g' : Nat → Nat → Nat) : Prop := (∀ c, c ≠ 166 → c ≠ 173 → c ≠ 175 → c ≠ 185 → c ≠ 186 → g' c = g c) ∧ (∀ j, j ≠ 7 → j ≠ 8 → j ≠ 9 → j ≠ 36 → g' 166 j = g 166 j)
theorem Ct.refl (g : Nat → Nat → Nat) : Ct g g := ⟨fun _ _ _ _ _ _ => rfl, fun _ _ _ _ _ => rfl⟩
theorem Ct.trans {a b c : Nat → Nat → Nat} (h : Ct a b) (k : Ct b c) : Ct a c := ⟨fun x h1 h2 h3 h4 h5 => (k.1 x h1 h2 h3 h4 h5).trans (h.1 x h1 h2 h3 h4 h5), fun j h1 h2 h3 h4 => (k.2 j h1 h2 h3 h4).trans (h.2 j h1 h2 h3 h4)⟩
theorem Ct.cx {a b : Nat → Nat → Nat} (h : Ct a b) : Cx a b := ⟨fun c h1 h2 h3 h4 h5 _ _ => h.1 c h1 h2 h3 h4 h5, fun j h1 h2 h3 h4 _ _ _ _ _ => h.2 j h1 h2 h3 h4⟩
theorem Ct.f {g : Nat → Nat → Nat} {j x : Nat} (hj : j = 7 ∨ j = 8 ∨ j = 9 ∨ j = 36) : Ct g (u2 g 166 j x) := ⟨fun c h _ _ _ _ => by funext b; unfold u2; rw [if_neg h], fun i _ _ _ _ => by
  unfold u2
  rw [if_pos rfl]
  by_cases e : i = j
  · omega
  · rw [if_neg e]⟩
theorem Ct.a {g : Nat → Nat → Nat} {c p x : Nat} (hc : c = 173 ∨ c = 175) : Ct g (u2 g c p x) := ⟨fun b h h2 h3 _ _ => by funext i; unfold u2; rw [if_neg (by omega)], fun i _ _ _ _ => by
  unfold u2; rw [if_neg (by omega)]⟩
theorem Ct.tU (g : Nat → Nat → Nat) (r w v : Nat → Nat) : Ct g (U g r w v) := ⟨fun c _ _ h3 h4 h5 => by funext b; unfold U ur; rw [if_neg h5, if_neg h4, if_neg h3], fun _ _ _ _ _ => rfl⟩
theorem Ct.tR1 (g : Nat → Nat → Nat) (l : Nat) : Ct g (R1 g l) := (Ct.a (Or.inr rfl)).trans (Ct.f (by omega))
-- who loses
def loS (g : Nat → Nat → Nat) (p : Nat) : Nat → Nat → Nat := u2 (u2 (u2 (u2 g 173 p (g 173 p - 1)) 166 9 0) 166 8 4294967295) 166 7 (if 0 < g 173 p - 1 then p else nxS (up (g 173) p (g 173 p - 1)) (g 166 6) p)
theorem Ct.tloS (g : Nat → Nat → Nat) (p : Nat) : Ct g (loS g p) := (((Ct.a (Or.inl rfl)).trans (Ct.f (by omega))).trans (Ct.f (by omega))).trans (Ct.f (by omega))
theorem MI.mloS {g : Nat → Nat → Nat} (h : MI g) {p : Nat} (hp : p < 5) : MI (loS g p) := (((h.a173 (by have := h.hli p hp; omega)).f9 (by omega)).f8 (Or.inr rfl)).f7 (by
  split
  · omega
  · have := nxS_lt (up (g 173) p (g 173 p - 1)) (g 166 6) p hp h.hPl; omega)
theorem U_loS (g : Nat → Nat → Nat) (r w v : Nat → Nat) (p : Nat) : loS (U g r w v) p = U (loS g p) r w v := by
  unfold loS
  rw [U_u173, U_u166, U_u166, U_u166]
  rfl
theorem SmH.sloS {g : Nat → Nat → Nat} {r v : Nat → Nat} (h1 : ∀ j, j < 12 → r j ≤ 3) (h2 : ∀ j, j < 84 → v j ≤ 1) (p : Nat) : SmH (loS g p) r v := ⟨h1, fun k hk => by
  have e : loS g p 166 9 = 0 := rfl
  omega, h2⟩
theorem C_loses {L : Nat} {xs : Nat → Int32} (d : Nat) (g : Nat → Nat → Nat) (hl : Nat → Nat → Int64) (rt : Nat × Nat × Nat × Nat) (hI : MI g) (p : Nat) (hp : p < 5) {Q : Po} (hq : Q none (HN (loS g p) hl (RF rt))) : Ev L xs (d + 1) 188 0 [(0, .ref 166), (1, .int (nI p))] [] (HN g hl (RF rt)) Q := by
  have hW := hI.hW
  have hS := hI.hS
  have hPl := hI.hPl
  have hNx := hI.hNx
  have hLa := hI.hLa
  have hLo := hI.hLo
  have hTb := hI.hTb
  have hTh := hI.hTh
  have hFd := hI.hFd
  have hSn := hI.hSn
  have hSh := hI.hSh
  have hRan := hI.hRan
  have hLr := hI.hLr
  have hLt := hI.hLt
  have hgl := hI.hgl
  have hsz := hI.hsz
  have hcm := hI.hcm
  have hsl := hI.hsl
  have hkd := hI.hkd
  have hvv := hI.hvv
  have hli := hI.hli
  have hro := hI.hro
  have hrw := hI.hrw
  have htx := hI.htx
  have hsw := hI.hsw
  have hsx := hI.hsx
  have hsy := hI.hsy
  have hsh := hI.hsh
  have hle := hI.hle
  have hcl := hI.hcl
  have hwd := hI.hwd
  have hnu := hI.hnu
  have hwn := hI.hwn
  have hs1 := hI.hs1
  have hso := hI.hso
  refine Ev.run 6 (pc' := 10) (lv' := [(0, .ref 166), (1, .int (nI p))]) (st' := [.int (nI p), .ref 173, .int (nI p), .ref 173]) (h' := HN g hl (RF rt)) rfl ?_
  refine Ev_iald rfl rfl (show p < 5 by omega) (Nat.le_of_ble_eq_true rfl) ?_
  have hr0 := hli p (by omega)
  refine Ev.run 1 (pc' := (if nI (g 173 p) ≤ 0 then 25 else 14)) (lv' := [(0, .ref 166), (1, .int (nI p))]) (st' := [.int (nI p), .ref 173]) (h' := HN g hl (RF rt)) rfl ?_
  refine Ev.ite (fun hc11 => ?_) (fun hc11 => ?_)
  · have hc11 : (g 173 p) ≤ 0 := (nI_leI0 (by omega)).mp hc11
    refine Ev.run 1 (pc' := 26) (lv' := [(0, .ref 166), (1, .int (nI p))]) (st' := [.int (nI 0), .int (nI p), .ref 173]) (h' := HN g hl (RF rt)) rfl ?_
    refine Ev_iast rfl rfl (show p < 5 by omega) (Nat.le_of_ble_eq_true rfl) ?_
    refine Ev.run 3 (pc' := 32) (lv' := [(0, .ref 166), (1, .int (nI p))]) (st' := []) (h' := setI (HN (u2 g 173 p 0) hl (RF rt)) 166 9 (nI 0)) rfl ?_
    refine Ev.hp (HN_set _ _ _ _ _ _) ?_
    refine Ev.run 3 (pc' := 37) (lv' := [(0, .ref 166), (1, .int (nI p))]) (st' := []) (h' := setI (HN (u2 (u2 g 173 p 0) 166 9 0) hl (RF rt)) 166 8 (nI 4294967295)) rfl ?_
    refine Ev.hp (HN_set _ _ _ _ _ _) ?_
    refine Ev.run 4 (pc' := 43) (lv' := [(0, .ref 166), (1, .int (nI p))]) (st' := [.int (nI p), .ref 173, .ref 166]) (h' := HN (u2 (u2 (u2 g 173 p 0) 166 9 0) 166 8 4294967295) hl (RF rt)) rfl ?_
    refine Ev_iald rfl rfl (show p < 5 by omega) (Nat.le_of_ble_eq_true rfl) ?_
    refine Ev.topI (congrArg nI (show (u2 (u2 (u2 g 173 p 0) 166 9 0) 166 8 4294967295) 173 p = 0 from by unfold u2; simp)) ?_
    refine Ev.run 3 (pc' := 53) (lv' := [(0, .ref 166), (1, .int (nI p))]) (st' := [.int (nI p), .ref 166, .ref 166]) (h' := HN (u2 (u2 (u2 g 173 p 0) 166 9 0) 166 8 4294967295) hl (RF rt)) rfl ?_
    refine Ev.call (a := 179) (as := [.ref 166, .int (nI p)]) (rest := [.ref 166]) (lv0 := [(0, .ref 166), (1, .int (nI p))]) (Q1 := (fun z0 h' => z0 = some (.int (nI (nxS ((u2 (u2 (u2 g 173 p 0) 166 9 0) 166 8 4294967295) 173) (g 166 6) p))) ∧ h' = HN (u2 (u2 (u2 g 173 p 0) 166 9 0) 166 8 4294967295) hl (RF rt))) rfl rfl (C_nextOf _ _ _ _ (((hI.a173 (by omega)).f9 (by omega)).f8 (by omega)) p (by omega) ⟨rfl, rfl⟩) (fun r h' hr => ?_)
    obtain ⟨rfl, rfl⟩ := hr
    refine Ev.run 1 (pc' := 59) (lv' := [(0, .ref 166), (1, .int (nI p))]) (st' := []) (h' := setI (HN (u2 (u2 (u2 g 173 p 0) 166 9 0) 166 8 4294967295) hl (RF rt)) 166 7 (nI (nxS ((u2 (u2 (u2 g 173 p 0) 166 9 0) 166 8 4294967295) 173) (g 166 6) p))) rfl ?_
    refine Ev.hp (HN_set _ _ _ _ _ _) ?_
    refine Ev.ret (v := none) rfl ?_
    have e0 : g 173 p - 1 = 0 := by omega
    unfold loS at hq
    rw [e0] at hq
    rw [if_neg (Nat.lt_irrefl 0)] at hq
    exact hq
  · have hc11 : ¬ ((g 173 p) ≤ 0) := fun z => hc11 ((nI_leI0 (by omega)).mpr z)
    refine Ev.run 3 (pc' := 19) (lv' := [(0, .ref 166), (1, .int (nI p))]) (st' := [.int (nI p), .ref 173, .int (nI p), .ref 173]) (h' := HN g hl (RF rt)) rfl ?_
    refine Ev_iald rfl rfl (show p < 5 by omega) (Nat.le_of_ble_eq_true rfl) ?_
    have hr1 := hli p (by omega)
    refine Ev.run 2 (pc' := 22) (lv' := [(0, .ref 166), (1, .int (nI p))]) (st' := [.int (nI (g 173 p) - nI 1), .int (nI p), .ref 173]) (h' := HN g hl (RF rt)) rfl ?_
    refine Ev.topI (pk_sub (a := (g 173 p)) (b := 1) (by omega)) ?_
    refine Ev.run 1 (pc' := 26) (lv' := [(0, .ref 166), (1, .int (nI p))]) (st' := [.int (nI ((g 173 p) - 1)), .int (nI p), .ref 173]) (h' := HN g hl (RF rt)) rfl ?_
    refine Ev_iast rfl rfl (show p < 5 by omega) (Nat.le_of_ble_eq_true rfl) ?_
    refine Ev.run 3 (pc' := 32) (lv' := [(0, .ref 166), (1, .int (nI p))]) (st' := []) (h' := setI (HN (u2 g 173 p ((g 173 p) - 1)) hl (RF rt)) 166 9 (nI 0)) rfl ?_
    refine Ev.hp (HN_set _ _ _ _ _ _) ?_
    refine Ev.run 3 (pc' := 37) (lv' := [(0, .ref 166), (1, .int (nI p))]) (st' := []) (h' := setI (HN (u2 (u2 g 173 p ((g 173 p) - 1)) 166 9 0) hl (RF rt)) 166 8 (nI 4294967295)) rfl ?_
    refine Ev.hp (HN_set _ _ _ _ _ _) ?_
    refine Ev.run 4 (pc' := 43) (lv' := [(0, .ref 166), (1, .int (nI p))]) (st' := [.int (nI p), .ref 173, .ref 166]) (h' := HN (u2 (u2 (u2 g 173 p ((g 173 p) - 1)) 166 9 0) 166 8 4294967295) hl (RF rt)) rfl ?_
    refine Ev_iald rfl rfl (show p < 5 by omega) (Nat.le_of_ble_eq_true rfl) ?_
    refine Ev.topI (congrArg nI (show (u2 (u2 (u2 g 173 p ((g 173 p) - 1)) 166 9 0) 166 8 4294967295) 173 p = (g 173 p) - 1 from by unfold u2; simp)) ?_
    refine Ev.run 1 (pc' := (if nI ((g 173 p) - 1) ≤ 0 then 51 else 47)) (lv' := [(0, .ref 166), (1, .int (nI p))]) (st' := [.ref 166]) (h' := HN (u2 (u2 (u2 g 173 p ((g 173 p) - 1)) 166 9 0) 166 8 4294967295) hl (RF rt)) rfl ?_
    refine Ev.ite (fun hc44 => ?_) (fun hc44 => ?_)
    · have hc44 : ((g 173 p) - 1) ≤ 0 := (nI_leI0 (by omega)).mp hc44
      refine Ev.run 2 (pc' := 53) (lv' := [(0, .ref 166), (1, .int (nI p))]) (st' := [.int (nI p), .ref 166, .ref 166]) (h' := HN (u2 (u2 (u2 g 173 p ((g 173 p) - 1)) 166 9 0) 166 8 4294967295) hl (RF rt)) rfl ?_
      refine Ev.call (a := 179) (as := [.ref 166, .int (nI p)]) (rest := [.ref 166]) (lv0 := [(0, .ref 166), (1, .int (nI p))]) (Q1 := (fun z0 h' => z0 = some (.int (nI (nxS ((u2 (u2 (u2 g 173 p ((g 173 p) - 1)) 166 9 0) 166 8 4294967295) 173) (g 166 6) p))) ∧ h' = HN (u2 (u2 (u2 g 173 p ((g 173 p) - 1)) 166 9 0) 166 8 4294967295) hl (RF rt))) rfl rfl (C_nextOf _ _ _ _ (((hI.a173 (by omega)).f9 (by omega)).f8 (by omega)) p (by omega) ⟨rfl, rfl⟩) (fun r h' hr => ?_)
      obtain ⟨rfl, rfl⟩ := hr
      refine Ev.run 1 (pc' := 59) (lv' := [(0, .ref 166), (1, .int (nI p))]) (st' := []) (h' := setI (HN (u2 (u2 (u2 g 173 p ((g 173 p) - 1)) 166 9 0) 166 8 4294967295) hl (RF rt)) 166 7 (nI (nxS ((u2 (u2 (u2 g 173 p ((g 173 p) - 1)) 166 9 0) 166 8 4294967295) 173) (g 166 6) p))) rfl ?_
      refine Ev.hp (HN_set _ _ _ _ _ _) ?_
      refine Ev.ret (v := none) rfl ?_
      unfold loS at hq
      rw [if_neg (by omega)] at hq
      exact hq
    · have hc44 : ¬ (((g 173 p) - 1) ≤ 0) := fun z => hc44 ((nI_leI0 (by omega)).mpr z)
      refine Ev.run 3 (pc' := 59) (lv' := [(0, .ref 166), (1, .int (nI p))]) (st' := []) (h' := setI (HN (u2 (u2 (u2 g 173 p ((g 173 p) - 1)) 166 9 0) 166 8 4294967295) hl (RF rt)) 166 7 (nI p)) rfl ?_
      refine Ev.hp (HN_set _ _ _ _ _ _) ?_
      refine Ev.ret (v := none) rfl ?_
      unfold loS at hq
      rw [if_pos (by omega)] at hq
      exact hq
-- a letter is added
def A1 (g : Nat → Nat → Nat) (p l : Nat) : Nat → Nat → Nat := u2 (R1 g l) 166 8 p
noncomputable def adG (g : Nat → Nat → Nat) (p l : Nat) : Nat → Nat → Nat := bif sfS g l then u2 (A1 g p l) 166 7 (nxS (g 173) (g 166 6) p) else loS (u2 (A1 g p l) 166 36 p) p
noncomputable def adV (g : Nat → Nat → Nat) (l : Nat) : Nat := bif sfS g l then l else l + 100
theorem Ct.tA1 (g : Nat → Nat → Nat) (p l : Nat) : Ct g (A1 g p l) := (Ct.tR1 g l).trans (Ct.f (by omega))
theorem MI.mA1 {g : Nat → Nat → Nat} (h : MI g) {p l : Nat} (hp : p < 5) (hl : l ≤ 3) (hn : g 166 9 < 12) : MI (A1 g p l) := (h.mR1 hl hn).f8 (by omega)
theorem Ct.tadG (g : Nat → Nat → Nat) (p l : Nat) : Ct g (adG g p l) := by
  unfold adG
  cases sfS g l with
  | true => exact (Ct.tA1 g p l).trans (Ct.f (by omega))
  | false => exact ((Ct.tA1 g p l).trans (Ct.f (by omega))).trans (Ct.tloS _ p)
theorem MI.madG {g : Nat → Nat → Nat} (h : MI g) {p l : Nat} (hp : p < 5) (hl : l ≤ 3) (hn : g 166 9 < 12) : MI (adG g p l) := by
  unfold adG
  cases sfS g l with
  | true => exact (h.mA1 hp hl hn).f7 (by have := nxS_lt (g 173) (g 166 6) p hp h.hPl; omega)
  | false => exact MI.mloS (MI.f36 (h.mA1 hp hl hn)) hp
theorem SmH.sA1 {g : Nat → Nat → Nat} {r v : Nat → Nat} (hs : SmH g r v) {p l : Nat} (hl : l ≤ 3) : SmH (A1 g p l) (up r (g 166 9) l) v := hs.sR1 hl
theorem U_A1 (g : Nat → Nat → Nat) (r w v : Nat → Nat) (p l : Nat) : u2 (u2 (u2 (U g r w v) 175 (g 166 9) l) 166 9 (g 166 9 + 1)) 166 8 p = U (A1 g p l) (up r (g 166 9) l) w v := by
  rw [U_R1, U_u166]; rfl
theorem AendS {g : Nat → Nat → Nat} {r w v : Nat → Nat} (hs : SmH g r v) (p l : Nat) : endS (U (A1 g p l) (up r (g 166 9) l) w v) (lwS (U (A1 g p l) (up r (g 166 9) l) w v) 1) (U (A1 g p l) (up r (g 166 9) l) w v 175) (U (A1 g p l) (up r (g 166 9) l) w v 166 9) = !sfS g l := by
  have hx := ((Ct.tA1 g p l).trans (Ct.tU (A1 g p l) (up r (g 166 9) l) w v)).cx
  rw [hx.xendS, hx.xlwS]
  unfold sfS
  rw [Bool.not_not]
  exact endS_cg (up_cg hs.2.1 l) _
theorem C_adds {L : Nat} {xs : Nat → Int32} (d : Nat) (g : Nat → Nat → Nat) (hl : Nat → Nat → Int64) (rt : Nat × Nat × Nat × Nat) (hI : MI g) (p l : Nat) (hp : p < 5) (hl3 : l ≤ 3) (hn12 : g 166 9 < 12) (r w v : Nat → Nat) (hs : SmH g r v)  {Q : Po} (hq : ∀ r' w' v' : Nat → Nat, SmH (adG g p l) r' v' → Q (some (.int (nI (adV g l)))) (HN (U (adG g p l) r' w' v') hl (RF rt))) : Ev L xs (d + 3) 189 0 [(0, .ref 166), (1, .int (nI p)), (2, .int (nI l))] [] (HN (U g r w v) hl (RF rt)) Q := by
  have hW := hI.hW
  have hS := hI.hS
  have hPl := hI.hPl
  have hNx := hI.hNx
  have hLa := hI.hLa
  have hLo := hI.hLo
  have hTb := hI.hTb
  have hTh := hI.hTh
  have hFd := hI.hFd
  have hSn := hI.hSn
  have hSh := hI.hSh
  have hRan := hI.hRan
  have hLr := hI.hLr
  have hLt := hI.hLt
  have hgl := hI.hgl
  have hsz := hI.hsz
  have hcm := hI.hcm
  have hsl := hI.hsl
  have hkd := hI.hkd
  have hvv := hI.hvv
  have hli := hI.hli
  have hro := hI.hro
  have hrw := hI.hrw
  have htx := hI.htx
  have hsw := hI.hsw
  have hsx := hI.hsx
  have hsy := hI.hsy
  have hsh := hI.hsh
  have hle := hI.hle
  have hcl := hI.hcl
  have hwd := hI.hwd
  have hnu := hI.hnu
  have hwn := hI.hwn
  have hs1 := hI.hs1
  have hso := hI.hso
  refine Ev.run 5 (pc' := 9) (lv' := [(0, .ref 166), (1, .int (nI p)), (2, .int (nI l))]) (st' := [.int (nI l), .int (nI (g 166 9)), .ref 175]) (h' := HN (U g r w v) hl (RF rt)) rfl ?_
  refine Ev_iast rfl rfl (show g 166 9 < 12 by omega) (Nat.le_of_ble_eq_true rfl) ?_
  refine Ev.run 5 (pc' := 17) (lv' := [(0, .ref 166), (1, .int (nI p)), (2, .int (nI l))]) (st' := [.int (nI (g 166 9) + nI 1), .ref 166]) (h' := HN (u2 (U g r w v) 175 (g 166 9) l) hl (RF rt)) rfl ?_
  refine Ev.topI (nI_add _ _) ?_
  refine Ev.run 1 (pc' := 20) (lv' := [(0, .ref 166), (1, .int (nI p)), (2, .int (nI l))]) (st' := []) (h' := setI (HN (u2 (U g r w v) 175 (g 166 9) l) hl (RF rt)) 166 9 (nI ((g 166 9) + 1))) rfl ?_
  refine Ev.hp (HN_set _ _ _ _ _ _) ?_
  refine Ev.run 3 (pc' := 25) (lv' := [(0, .ref 166), (1, .int (nI p)), (2, .int (nI l))]) (st' := []) (h' := setI (HN (u2 (u2 (U g r w v) 175 (g 166 9) l) 166 9 ((g 166 9) + 1)) hl (RF rt)) 166 8 (nI p)) rfl ?_
  refine Ev.hp (HN_set _ _ _ _ _ _) ?_
  refine Ev.hp (congrArg (fun z => HN z hl (RF rt)) (U_A1 g r w v p l)) ?_
  have hI2 := hI.mA1 hp hl3 hn12
  have hs2 := hs.sA1 (p := p) hl3
  refine Ev.run 1 (pc' := 26) (lv' := [(0, .ref 166), (1, .int (nI p)), (2, .int (nI l))]) (st' := [.ref 166]) (h' := HN (U (A1 g p l) (up r (g 166 9) l) w v) hl (RF rt)) rfl ?_
  refine Ev.call (a := 166) (as := [.ref 166]) (rest := []) (lv0 := [(0, .ref 166)]) (Q1 := (fun z0 h' => z0 = some (.int (nI (bn (!sfS g l)))) ∧ h' = HN (U (A1 g p l) (up r (g 166 9) l) w v) hl (RF rt))) rfl rfl (C_ends _ _ _ _ (hI2.mU hs2) ⟨congrArg (fun z => some (Value.int (nI (bn z)))) (AendS hs p l), rfl⟩) (fun r h' hr => ?_)
  obtain ⟨rfl, rfl⟩ := hr
  refine Ev_bn (fun hb29 => ?_) (fun hb29 => ?_)
  · skip
    refine Ev.run 1 (pc' := 32) (lv' := [(0, .ref 166), (1, .int (nI p)), (2, .int (nI l))]) (st' := []) (h' := HN (U (A1 g p l) (up r (g 166 9) l) w v) hl (RF rt)) rfl ?_
    refine Ev.run 3 (pc' := 37) (lv' := [(0, .ref 166), (1, .int (nI p)), (2, .int (nI l))]) (st' := []) (h' := setI (HN (U (A1 g p l) (up r (g 166 9) l) w v) hl (RF rt)) 166 36 (nI p)) rfl ?_
    refine Ev.hp (HN_set _ _ _ _ _ _) ?_
    refine Ev.hp (congrArg (fun z => HN z hl (RF rt)) (U_u166 (A1 g p l) (up r (g 166 9) l) w v 36 p)) ?_
    have hI3 := MI.f36 (x := p) hI2
    refine Ev.run 2 (pc' := 39) (lv' := [(0, .ref 166), (1, .int (nI p)), (2, .int (nI l))]) (st' := [.int (nI p), .ref 166]) (h' := HN (U (u2 (A1 g p l) 166 36 p) (up r (g 166 9) l) w v) hl (RF rt)) rfl ?_
    refine Ev.call (a := 188) (as := [.ref 166, .int (nI p)]) (rest := []) (lv0 := [(0, .ref 166), (1, .int (nI p))]) (Q1 := (fun z0 h' => z0 = none ∧ h' = HN (U (loS (u2 (A1 g p l) 166 36 p) p) (up r (g 166 9) l) w v) hl (RF rt))) rfl rfl (C_loses _ _ _ _ (hI3.mU hs2) p (by omega) ⟨rfl, congrArg (fun z => HN z hl (RF rt)) (U_loS _ _ _ _ _)⟩) (fun r h' hr => ?_)
    obtain ⟨rfl, rfl⟩ := hr
    refine Ev.run 3 (pc' := 46) (lv' := [(0, .ref 166), (1, .int (nI p)), (2, .int (nI l))]) (st' := [.int (nI l + nI 100)]) (h' := HN (U (loS (u2 (A1 g p l) 166 36 p) p) (up r (g 166 9) l) w v) hl (RF rt)) rfl ?_
    refine Ev.topI (nI_add _ _) ?_
    refine Ev.ret (v := some (.int (nI (l + 100)))) rfl ?_
    have hsf : sfS g l = false := by revert hb29; cases sfS g l <;> intro z <;> first | rfl | cases z
    have hx := hq (up r (g 166 9) l) w v
    unfold adG adV at hx
    rw [hsf] at hx
    exact hx (SmH.sloS hs2.1 hs.2.2 p)
  · skip
    refine Ev.run 1 (pc' := 47) (lv' := [(0, .ref 166), (1, .int (nI p)), (2, .int (nI l))]) (st' := []) (h' := HN (U (A1 g p l) (up r (g 166 9) l) w v) hl (RF rt)) rfl ?_
    refine Ev.run 3 (pc' := 50) (lv' := [(0, .ref 166), (1, .int (nI p)), (2, .int (nI l))]) (st' := [.int (nI p), .ref 166, .ref 166]) (h' := HN (U (A1 g p l) (up r (g 166 9) l) w v) hl (RF rt)) rfl ?_
    refine Ev.call (a := 179) (as := [.ref 166, .int (nI p)]) (rest := [.ref 166]) (lv0 := [(0, .ref 166), (1, .int (nI p))]) (Q1 := (fun z0 h' => z0 = some (.int (nI (nxS (g 173) (g 166 6) p))) ∧ h' = HN (U (A1 g p l) (up r (g 166 9) l) w v) hl (RF rt))) rfl rfl (C_nextOf _ _ _ _ (hI2.mU hs2) p (by omega) ⟨rfl, rfl⟩) (fun r h' hr => ?_)
    obtain ⟨rfl, rfl⟩ := hr
    refine Ev.run 1 (pc' := 56) (lv' := [(0, .ref 166), (1, .int (nI p)), (2, .int (nI l))]) (st' := []) (h' := setI (HN (U (A1 g p l) (up r (g 166 9) l) w v) hl (RF rt)) 166 7 (nI (nxS (g 173) (g 166 6) p))) rfl ?_
    refine Ev.hp (HN_set _ _ _ _ _ _) ?_
    refine Ev.run 1 (pc' := 57) (lv' := [(0, .ref 166), (1, .int (nI p)), (2, .int (nI l))]) (st' := [.int (nI l)]) (h' := HN (u2 (U (A1 g p l) (up r (g 166 9) l) w v) 166 7 (nxS (g 173) (g 166 6) p)) hl (RF rt)) rfl ?_
    refine Ev.ret (v := some (.int (nI l))) rfl ?_
    have hsf : sfS g l = true := by revert hb29; cases sfS g l <;> intro z <;> first | rfl | cases z
    have hx := hq (up r (g 166 9) l) w v
    unfold adG adV at hx
    rw [hsf] at hx
    rw [U_u166]
    exact hx hs2
-- the last one is asked
noncomputable def asL (g : Nat → Nat → Nat) (p : Nat) : Nat := if g 166 8 < 2147483648 then (if fitA g (g 175) (g 166 9) (knS g (g 166 8)) = 0 then g 166 8 else p) else p
noncomputable def asG (g : Nat → Nat → Nat) (p : Nat) : Nat → Nat → Nat := loS (u2 g 166 36 (asL g p)) (asL g p)
def asV (g : Nat → Nat → Nat) : Nat := if g 166 8 < 2147483648 then 110 else 120
theorem asL_lt {g : Nat → Nat → Nat} (h : MI g) {p : Nat} (hp : p < 5) : asL g p < 5 := by
  have := h.hLa
  unfold asL
  repeat' split
  all_goals omega
theorem Ct.tasG (g : Nat → Nat → Nat) (p : Nat) : Ct g (asG g p) := (Ct.f (by omega)).trans (Ct.tloS _ _)
theorem MI.masG {g : Nat → Nat → Nat} (h : MI g) {p : Nat} (hp : p < 5) : MI (asG g p) := (MI.f36 h).mloS (asL_lt h hp)
theorem C_asks {L : Nat} {xs : Nat → Int32} (d : Nat) (g : Nat → Nat → Nat) (hl : Nat → Nat → Int64) (rt : Nat × Nat × Nat × Nat) (hI : MI g) (hK : KW g) (p : Nat) (hp : p < 5) (r w v : Nat → Nat) (hs : SmH g r v)  {Q : Po} (hq : ∀ r' w' v' : Nat → Nat, SmH (asG g p) r' v' → Q (some (.int (nI (asV g)))) (HN (U (asG g p) r' w' v') hl (RF rt))) : Ev L xs (d + 4) 190 0 [(0, .ref 166), (1, .int (nI p))] [] (HN (U g r w v) hl (RF rt)) Q := by
  have hW := hI.hW
  have hS := hI.hS
  have hPl := hI.hPl
  have hNx := hI.hNx
  have hLa := hI.hLa
  have hLo := hI.hLo
  have hTb := hI.hTb
  have hTh := hI.hTh
  have hFd := hI.hFd
  have hSn := hI.hSn
  have hSh := hI.hSh
  have hRan := hI.hRan
  have hLr := hI.hLr
  have hLt := hI.hLt
  have hgl := hI.hgl
  have hsz := hI.hsz
  have hcm := hI.hcm
  have hsl := hI.hsl
  have hkd := hI.hkd
  have hvv := hI.hvv
  have hli := hI.hli
  have hro := hI.hro
  have hrw := hI.hrw
  have htx := hI.htx
  have hsw := hI.hsw
  have hsx := hI.hsx
  have hsy := hI.hsy
  have hsh := hI.hsh
  have hle := hI.hle
  have hcl := hI.hcl
  have hwd := hI.hwd
  have hnu := hI.hnu
  have hwn := hI.hwn
  have hs1 := hI.hs1
  have hso := hI.hso
  refine Ev.run 3 (pc' := (if 0 ≤ nI (g 166 8) then 11 else 7)) (lv' := [(0, .ref 166), (1, .int (nI p))]) (st' := []) (h' := HN (U g r w v) hl (RF rt)) rfl ?_
  refine Ev.ite (fun hc4 => ?_) (fun hc4 => ?_)
  · have hc4 : (g 166 8) < 2147483648 := (nI_geU0 (by omega)).mp hc4
    refine Ev.run 9 (pc' := 24) (lv' := [(2, .int (nI 0)), (0, .ref 166), (1, .int (nI p))]) (st' := [.int (nI (g 166 8)), .ref 166, .ref 166, .ref 166]) (h' := HN (U g r w v) hl (RF rt)) rfl ?_
    refine Ev.call (a := 162) (as := [.ref 166, .int (nI (g 166 8))]) (rest := [.ref 166, .ref 166]) (lv0 := [(0, .ref 166), (1, .int (nI (g 166 8)))]) (Q1 := (fun r h' => ∃ r1 w1 v1, SmH g r1 v1 ∧ r = some (.int (nI (knS g (g 166 8)))) ∧ h' = HN (U g r1 w1 v1) hl (RF rt))) rfl rfl (C_knownOf _ _ _ _ hI hK (g 166 8) (by omega) r w v hs (fun r w v h => ⟨r, w, v, h, rfl, rfl⟩)) (fun r h' hr => ?_)
    obtain ⟨r20, w20, v20, hs20, rfl, rfl⟩ := hr
    have hkn := knS_lt hI (g 166 8)
    refine Ev.call (a := 164) (as := [.ref 166, .int (nI (knS g (g 166 8)))]) (rest := [.ref 166]) (lv0 := [(0, .ref 166), (1, .int (nI (knS g (g 166 8))))]) (Q1 := (fun z0 h' => z0 = some (.int (nI (fitA g (g 175) (g 166 9) (knS g (g 166 8))))) ∧ h' = HN (U g r20 w20 v20) hl (RF rt))) rfl rfl (C_fitting _ _ _ _ (hI.mU hs20) (knS g (g 166 8)) (by omega) ⟨congrArg (fun z => some (Value.int (nI z))) (UfitA hs20 _), rfl⟩) (fun r h' hr => ?_)
    obtain ⟨rfl, rfl⟩ := hr
    have hfa := fitA_lt hI (g 175) (g 166 9) (knS g (g 166 8))
    refine Ev.run 1 (pc' := (if nI (fitA g (g 175) (g 166 9) (knS g (g 166 8))) = 0 then 37 else 33)) (lv' := [(2, .int (nI 0)), (0, .ref 166), (1, .int (nI p))]) (st' := [.ref 166]) (h' := HN (U g r20 w20 v20) hl (RF rt)) rfl ?_
    refine Ev.ite (fun hc30 => ?_) (fun hc30 => ?_)
    · have hc30 : (fitA g (g 175) (g 166 9) (knS g (g 166 8))) = 0 := (nI_eqU0 (by omega)).mp hc30
      refine Ev.run 3 (pc' := 44) (lv' := [(2, .int (nI 0)), (0, .ref 166), (1, .int (nI p))]) (st' := []) (h' := setI (HN (U g r20 w20 v20) hl (RF rt)) 166 36 (nI (g 166 8))) rfl ?_
      refine Ev.hp (HN_set _ _ _ _ _ _) ?_
      refine Ev.hp (congrArg (fun z => HN z hl (RF rt)) (U_u166 g r20 w20 v20 36 (g 166 8))) ?_
      have hI3 := MI.f36 (x := g 166 8) hI
      refine Ev.run 3 (pc' := 49) (lv' := [(2, .int (nI 0)), (0, .ref 166), (1, .int (nI p))]) (st' := [.int (nI ((u2 g 166 36 (g 166 8)) 166 36)), .ref 166]) (h' := HN (U (u2 g 166 36 (g 166 8)) r20 w20 v20) hl (RF rt)) rfl ?_
      refine Ev.call (a := 188) (as := [.ref 166, .int (nI (g 166 8))]) (rest := []) (lv0 := [(0, .ref 166), (1, .int (nI (g 166 8)))]) (Q1 := (fun z0 h' => z0 = none ∧ h' = HN (U (loS (u2 g 166 36 (g 166 8)) (g 166 8)) r20 w20 v20) hl (RF rt))) rfl rfl (C_loses _ _ _ _ (hI3.mU hs20) (g 166 8) (by omega) ⟨rfl, congrArg (fun z => HN z hl (RF rt)) (U_loS _ _ _ _ _)⟩) (fun r h' hr => ?_)
      obtain ⟨rfl, rfl⟩ := hr
      refine Ev.run 5 (pc' := 66) (lv' := [(2, .int (nI 0)), (0, .ref 166), (1, .int (nI p))]) (st' := [.int (nI 110)]) (h' := HN (U (loS (u2 g 166 36 (g 166 8)) (g 166 8)) r20 w20 v20) hl (RF rt)) rfl ?_
      refine Ev.ret (v := some (.int (nI 110))) rfl ?_
      have hL : asL g p = g 166 8 := by unfold asL; rw [if_pos hc4, if_pos hc30]
      have hV : asV g = 110 := by unfold asV; rw [if_pos hc4]
      have hx := hq r20 w20 v20
      unfold asG at hx
      rw [hL, hV] at hx
      exact hx (SmH.sloS hs20.1 hs20.2.2 _)
    · have hc30 : ¬ ((fitA g (g 175) (g 166 9) (knS g (g 166 8))) = 0) := fun z => hc30 ((nI_eqU0 (by omega)).mpr z)
      refine Ev.run 3 (pc' := 44) (lv' := [(2, .int (nI 0)), (0, .ref 166), (1, .int (nI p))]) (st' := []) (h' := setI (HN (U g r20 w20 v20) hl (RF rt)) 166 36 (nI p)) rfl ?_
      refine Ev.hp (HN_set _ _ _ _ _ _) ?_
      refine Ev.hp (congrArg (fun z => HN z hl (RF rt)) (U_u166 g r20 w20 v20 36 p)) ?_
      have hI3 := MI.f36 (x := p) hI
      refine Ev.run 3 (pc' := 49) (lv' := [(2, .int (nI 0)), (0, .ref 166), (1, .int (nI p))]) (st' := [.int (nI ((u2 g 166 36 p) 166 36)), .ref 166]) (h' := HN (U (u2 g 166 36 p) r20 w20 v20) hl (RF rt)) rfl ?_
      refine Ev.call (a := 188) (as := [.ref 166, .int (nI p)]) (rest := []) (lv0 := [(0, .ref 166), (1, .int (nI p))]) (Q1 := (fun z0 h' => z0 = none ∧ h' = HN (U (loS (u2 g 166 36 p) p) r20 w20 v20) hl (RF rt))) rfl rfl (C_loses _ _ _ _ (hI3.mU hs20) p (by omega) ⟨rfl, congrArg (fun z => HN z hl (RF rt)) (U_loS _ _ _ _ _)⟩) (fun r h' hr => ?_)
      obtain ⟨rfl, rfl⟩ := hr
      refine Ev.run 5 (pc' := 66) (lv' := [(2, .int (nI 0)), (0, .ref 166), (1, .int (nI p))]) (st' := [.int (nI 110)]) (h' := HN (U (loS (u2 g 166 36 p) p) r20 w20 v20) hl (RF rt)) rfl ?_
      refine Ev.ret (v := some (.int (nI 110))) rfl ?_
      have hL : asL g p = p := by unfold asL; rw [if_pos hc4, if_neg hc30]
      have hV : asV g = 110 := by unfold asV; rw [if_pos hc4]
      have hx := hq r20 w20 v20
      unfold asG at hx
      rw [hL, hV] at hx
      exact hx (SmH.sloS hs20.1 hs20.2.2 _)
  · have hc4 : ¬ ((g 166 8) < 2147483648) := fun z => hc4 ((nI_geU0 (by omega)).mpr z)
    refine Ev.run 9 (pc' := 44) (lv' := [(2, .int (nI 1)), (0, .ref 166), (1, .int (nI p))]) (st' := []) (h' := setI (HN (U g r w v) hl (RF rt)) 166 36 (nI p)) rfl ?_
    refine Ev.hp (HN_set _ _ _ _ _ _) ?_
    refine Ev.hp (congrArg (fun z => HN z hl (RF rt)) (U_u166 g r w v 36 p)) ?_
    have hI3 := MI.f36 (x := p) hI
    refine Ev.run 3 (pc' := 49) (lv' := [(2, .int (nI 1)), (0, .ref 166), (1, .int (nI p))]) (st' := [.int (nI ((u2 g 166 36 p) 166 36)), .ref 166]) (h' := HN (U (u2 g 166 36 p) r w v) hl (RF rt)) rfl ?_
    refine Ev.call (a := 188) (as := [.ref 166, .int (nI p)]) (rest := []) (lv0 := [(0, .ref 166), (1, .int (nI p))]) (Q1 := (fun z0 h' => z0 = none ∧ h' = HN (U (loS (u2 g 166 36 p) p) r w v) hl (RF rt))) rfl rfl (C_loses _ _ _ _ (hI3.mU hs) p (by omega) ⟨rfl, congrArg (fun z => HN z hl (RF rt)) (U_loS _ _ _ _ _)⟩) (fun r h' hr => ?_)
    obtain ⟨rfl, rfl⟩ := hr
    refine Ev.run 6 (pc' := 66) (lv' := [(2, .int (nI 1)), (0, .ref 166), (1, .int (nI p))]) (st' := [.int (nI 120)]) (h' := HN (U (loS (u2 g 166 36 p) p) r w v) hl (RF rt)) rfl ?_
    refine Ev.ret (v := some (.int (nI 120))) rfl ?_
    have hL : asL g p = p := by unfold asL; rw [if_neg hc4]
    have hV : asV g = 120 := by unfold asV; rw [if_neg hc4]
    have hx := hq r w v
    unfold asG at hx
    rw [hL, hV] at hx
    exact hx (SmH.sloS hs.1 hs.2.2 _)
