/-! the reference: turns one by one -/
noncomputable def tuD (g : Nat → Nat → Nat) (t : Nat) : Nat := if t < 2147483648 then t else doS g (tnS g)
noncomputable def plG0 (g : Nat → Nat → Nat) (t : Nat) : Nat → Nat → Nat := if tuD g t = 10 then asG g (tnS g) else adG g (tnS g) (tuD g t)
noncomputable def plV0 (g : Nat → Nat → Nat) (t : Nat) : Nat := if tuD g t = 10 then asV g else adV g (tuD g t)
def cl36 (g : Nat → Nat → Nat) : Nat → Nat → Nat := u2 g 166 36 4294967295
noncomputable def plG (g : Nat → Nat → Nat) (t : Nat) : Nat → Nat → Nat := plG0 (cl36 g) t
noncomputable def plV (g : Nat → Nat → Nat) (t : Nat) : Nat := plV0 (cl36 g) t
def tOK (g : Nat → Nat → Nat) (t : Nat) : Prop := t = 4294967295 ∨ (t ≤ 3 ∧ g 166 9 < 12)
theorem tuD_ok {g : Nat → Nat → Nat} (h : MI g) {t : Nat} (ht : tOK g t) : tuD g t = 10 ∨ (tuD g t ≤ 3 ∧ g 166 9 < 12) := by
  unfold tuD
  split
  · unfold tOK at ht
    omega
  · exact doS_ok h (tnS_lt h)
theorem Ct.tplG0 (g : Nat → Nat → Nat) (t : Nat) : Ct g (plG0 g t) := by
  unfold plG0
  split
  · exact Ct.tasG _ _
  · exact Ct.tadG _ _ _
theorem MI.mplG0 {g : Nat → Nat → Nat} (h : MI g) {t : Nat} (ht : tOK g t) : MI (plG0 g t) := by
  unfold plG0
  split
  · exact h.masG (tnS_lt h)
  · rename_i z
    have := tuD_ok h ht
    exact h.madG (tnS_lt h) (by omega) (by omega)
theorem Ct.tplG (g : Nat → Nat → Nat) (t : Nat) : Ct g (plG g t) := (Ct.f (x := 4294967295) (by omega : (36 : Nat) = 7 ∨ 36 = 8 ∨ 36 = 9 ∨ 36 = 36)).trans (Ct.tplG0 (cl36 g) t)
theorem MI.mplG {g : Nat → Nat → Nat} (h : MI g) {t : Nat} (ht : tOK g t) : MI (plG g t) := MI.mplG0 (MI.f36 h) ht
theorem tOK_n (g : Nat → Nat → Nat) : tOK g 4294967295 := Or.inl rfl
noncomputable def itG : Nat → (Nat → Nat → Nat) → Nat → Nat → Nat
  | 0, g => g
  | k + 1, g => if alS g = 0 then g else itG k (plG g 4294967295)
theorem itG_0 {g : Nat → Nat → Nat} (h : alS g = 0) (n : Nat) : itG n g = g := by
  cases n with
  | zero => rfl
  | succ n => unfold itG; rw [if_pos h]
theorem itG_s {g : Nat → Nat → Nat} (h : ¬ alS g = 0) {n k : Nat} (hk : k < n) : itG (n - k) g = itG (n - (k + 1)) (plG g 4294967295) := by
  rw [show n - k = (n - (k + 1)) + 1 by omega]
  show (if _ then _ else _) = _
  rw [if_neg h]
theorem Ct.titG : ∀ (n : Nat) (g : Nat → Nat → Nat), Ct g (itG n g) := by
  intro n
  induction n with
  | zero => intro g; exact Ct.refl g
  | succ n ih =>
    intro g
    unfold itG
    split
    · exact Ct.refl g
    · exact (Ct.tplG g _).trans (ih _)
theorem MI.mitG : ∀ (n : Nat) {g : Nat → Nat → Nat}, MI g → MI (itG n g) := by
  intro n
  induction n with
  | zero => intro g h; exact h
  | succ n ih =>
    intro g h
    unfold itG
    split
    · exact h
    · exact ih (h.mplG (tOK_n g))

theorem C_goTurn5 {L : Nat} {xs : Nat → Int32} (d : Nat) (g : Nat → Nat → Nat) (hl : Nat → Nat → Int64) (rt : Nat × Nat × Nat × Nat) (hI : MI g) (hK : KW g) (t : Nat) (ht : tOK g t) (r w v : Nat → Nat) (hs : SmH g r v)  {Q : Po} (hq : ∀ r' w' v' : Nat → Nat, SmH (plG0 g t) r' v' → Q (some (.int (nI (plV0 g t)))) (HN (U (plG0 g t) r' w' v') hl (RF rt))) : Ev L xs (d + 9) 192 5 [(0, .ref 166), (1, .int (nI t))] [] (HN (U g r w v) hl (RF rt)) Q := by
  have hW := hI.hW
  have hS := hI.hS
  have hPl := hI.hPl
  have hNx := hI.hNx
  have hLa := hI.hLa
  have hLo := hI.hLo
  have hTb := hI.hTb
  have hTh := hI.hTh
  have hFd := hI.hFd
  have hSn := hI.hSn
  have hSh := hI.hSh
  have hRan := hI.hRan
  have hLr := hI.hLr
  have hLt := hI.hLt
  have hgl := hI.hgl
  have hsz := hI.hsz
  have hcm := hI.hcm
  have hsl := hI.hsl
  have hkd := hI.hkd
  have hvv := hI.hvv
  have hli := hI.hli
  have hro := hI.hro
  have hrw := hI.hrw
  have htx := hI.htx
  have hsw := hI.hsw
  have hsx := hI.hsx
  have hsy := hI.hsy
  have hsh := hI.hsh
  have hle := hI.hle
  have hcl := hI.hcl
  have hwd := hI.hwd
  have hnu := hI.hnu
  have hwn := hI.hwn
  have hs1 := hI.hs1
  have hso := hI.hso
  unfold tOK at ht
  refine Ev.run 1 (pc' := 6) (lv' := [(0, .ref 166), (1, .int (nI t))]) (st' := [.ref 166]) (h' := HN (U g r w v) hl (RF rt)) rfl ?_
  refine Ev.call (a := 191) (as := [.ref 166]) (rest := []) (lv0 := [(0, .ref 166)]) (Q1 := (fun z0 h' => z0 = some (.int (nI (tnS g))) ∧ h' = HN (U g r w v) hl (RF rt))) rfl rfl (C_turner _ _ _ _ (hI.mU hs) ⟨rfl, rfl⟩) (fun r h' hr => ?_)
  obtain ⟨rfl, rfl⟩ := hr
  have htn := tnS_lt hI
  refine Ev.run 3 (pc' := (if 0 ≤ nI t then 22 else 14)) (lv' := [(2, .int (nI (tnS g))), (0, .ref 166), (1, .int (nI t))]) (st' := []) (h' := HN (U g r w v) hl (RF rt)) rfl ?_
  refine Ev.ite (fun hc11 => ?_) (fun hc11 => ?_)
  · have hc11 : t < 2147483648 := (nI_geU0 (by omega)).mp hc11
    refine Ev.run 5 (pc' := (if nI t = nI 10 then 30 else 38)) (lv' := [(3, .int (nI t)), (2, .int (nI (tnS g))), (0, .ref 166), (1, .int (nI t))]) (st' := []) (h' := HN (U g r w v) hl (RF rt)) rfl ?_
    refine Ev.ite (fun hc27 => ?_) (fun hc27 => ?_)
    · have hc27 : t = 10 := (nI_eqU (by omega) (by omega)).mp hc27
      refine Ev.run 2 (pc' := 32) (lv' := [(3, .int (nI t)), (2, .int (nI (tnS g))), (0, .ref 166), (1, .int (nI t))]) (st' := [.int (nI (tnS g)), .ref 166]) (h' := HN (U g r w v) hl (RF rt)) rfl ?_
      refine Ev.call (a := 190) (as := [.ref 166, .int (nI (tnS g))]) (rest := []) (lv0 := [(0, .ref 166), (1, .int (nI (tnS g)))]) (Q1 := (fun z0 h' => ∃ r1 w1 v1, SmH (asG g (tnS g)) r1 v1 ∧ z0 = some (.int (nI (asV g))) ∧ h' = HN (U (asG g (tnS g)) r1 w1 v1) hl (RF rt))) rfl rfl (C_asks _ _ _ _ hI hK (tnS g) (by omega)  r w v hs (fun r w v h => ⟨r, w, v, h, rfl, rfl⟩)) (fun r h' hr => ?_)
      obtain ⟨r21, w21, v21, hs21, rfl, rfl⟩ := hr
      have hI22 : MI (asG g (tnS g)) := hI.masG (by omega)
      have hK23 : KW (asG g (tnS g)) := hK.cx (Ct.tasG _ _).cx
      refine Ev.run 1 (pc' := 44) (lv' := [(3, .int (nI t)), (2, .int (nI (tnS g))), (0, .ref 166), (1, .int (nI t))]) (st' := [.int (nI (asV g))]) (h' := HN (U (asG g (tnS g)) r21 w21 v21) hl (RF rt)) rfl ?_
      refine Ev.ret (v := some (.int (nI (asV g)))) rfl ?_
      unfold plG0 plV0 tuD at hq
      simp only [if_pos hc11, if_pos hc27] at hq
      exact hq r21 w21 v21 hs21
    · have hc27 : ¬ (t = 10) := fun z => hc27 ((nI_eqU (by omega) (by omega)).mpr z)
      refine Ev.run 3 (pc' := 41) (lv' := [(3, .int (nI t)), (2, .int (nI (tnS g))), (0, .ref 166), (1, .int (nI t))]) (st' := [.int (nI t), .int (nI (tnS g)), .ref 166]) (h' := HN (U g r w v) hl (RF rt)) rfl ?_
      refine Ev.call (a := 189) (as := [.ref 166, .int (nI (tnS g)), .int (nI t)]) (rest := []) (lv0 := [(0, .ref 166), (1, .int (nI (tnS g))), (2, .int (nI t))]) (Q1 := (fun z0 h' => ∃ r1 w1 v1, SmH (adG g (tnS g) t) r1 v1 ∧ z0 = some (.int (nI (adV g t))) ∧ h' = HN (U (adG g (tnS g) t) r1 w1 v1) hl (RF rt))) rfl rfl (C_adds _ _ _ _ hI (tnS g) t (by omega) (by omega) (by omega)  r w v hs (fun r w v h => ⟨r, w, v, h, rfl, rfl⟩)) (fun r h' hr => ?_)
      obtain ⟨r24, w24, v24, hs24, rfl, rfl⟩ := hr
      have hI25 : MI (adG g (tnS g) t) := hI.madG (by omega) (by omega) (by omega)
      have hK26 : KW (adG g (tnS g) t) := hK.cx (Ct.tadG _ _ _).cx
      refine Ev.ret (v := some (.int (nI (adV g t)))) rfl ?_
      unfold plG0 plV0 tuD at hq
      simp only [if_pos hc11, if_neg hc27] at hq
      exact hq r24 w24 v24 hs24
  · have hc11 : ¬ (t < 2147483648) := fun z => hc11 ((nI_geU0 (by omega)).mpr z)
    refine Ev.run 2 (pc' := 16) (lv' := [(2, .int (nI (tnS g))), (0, .ref 166), (1, .int (nI t))]) (st' := [.int (nI (tnS g)), .ref 166]) (h' := HN (U g r w v) hl (RF rt)) rfl ?_
    refine Ev.call (a := 187) (as := [.ref 166, .int (nI (tnS g))]) (rest := []) (lv0 := [(0, .ref 166), (1, .int (nI (tnS g)))]) (Q1 := (fun r h' => ∃ r1 w1 v1, SmH g r1 v1 ∧ r = some (.int (nI (doS g (tnS g)))) ∧ h' = HN (U g r1 w1 v1) hl (RF rt))) rfl rfl (C_does _ _ _ _ hI hK (tnS g) (by omega) r w v hs (fun r w v h => ⟨r, w, v, h, rfl, rfl⟩)) (fun r h' hr => ?_)
    obtain ⟨r27, w27, v27, hs27, rfl, rfl⟩ := hr
    have hdo := doS_ok hI (p := (tnS g)) (by omega)
    refine Ev.run 5 (pc' := (if nI (doS g (tnS g)) = nI 10 then 30 else 38)) (lv' := [(3, .int (nI (doS g (tnS g)))), (2, .int (nI (tnS g))), (0, .ref 166), (1, .int (nI t))]) (st' := []) (h' := HN (U g r27 w27 v27) hl (RF rt)) rfl ?_
    refine Ev.ite (fun hc27 => ?_) (fun hc27 => ?_)
    · have hc27 : (doS g (tnS g)) = 10 := (nI_eqU (by omega) (by omega)).mp hc27
      refine Ev.run 2 (pc' := 32) (lv' := [(3, .int (nI (doS g (tnS g)))), (2, .int (nI (tnS g))), (0, .ref 166), (1, .int (nI t))]) (st' := [.int (nI (tnS g)), .ref 166]) (h' := HN (U g r27 w27 v27) hl (RF rt)) rfl ?_
      refine Ev.call (a := 190) (as := [.ref 166, .int (nI (tnS g))]) (rest := []) (lv0 := [(0, .ref 166), (1, .int (nI (tnS g)))]) (Q1 := (fun z0 h' => ∃ r1 w1 v1, SmH (asG g (tnS g)) r1 v1 ∧ z0 = some (.int (nI (asV g))) ∧ h' = HN (U (asG g (tnS g)) r1 w1 v1) hl (RF rt))) rfl rfl (C_asks _ _ _ _ hI hK (tnS g) (by omega)  r27 w27 v27 hs27 (fun r w v h => ⟨r, w, v, h, rfl, rfl⟩)) (fun r h' hr => ?_)
      obtain ⟨r28, w28, v28, hs28, rfl, rfl⟩ := hr
      have hI29 : MI (asG g (tnS g)) := hI.masG (by omega)
      have hK30 : KW (asG g (tnS g)) := hK.cx (Ct.tasG _ _).cx
      refine Ev.run 1 (pc' := 44) (lv' := [(3, .int (nI (doS g (tnS g)))), (2, .int (nI (tnS g))), (0, .ref 166), (1, .int (nI t))]) (st' := [.int (nI (asV g))]) (h' := HN (U (asG g (tnS g)) r28 w28 v28) hl (RF rt)) rfl ?_
      refine Ev.ret (v := some (.int (nI (asV g)))) rfl ?_
      unfold plG0 plV0 tuD at hq
      simp only [if_neg hc11, if_pos hc27] at hq
      exact hq r28 w28 v28 hs28
    · have hc27 : ¬ ((doS g (tnS g)) = 10) := fun z => hc27 ((nI_eqU (by omega) (by omega)).mpr z)
      refine Ev.run 3 (pc' := 41) (lv' := [(3, .int (nI (doS g (tnS g)))), (2, .int (nI (tnS g))), (0, .ref 166), (1, .int (nI t))]) (st' := [.int (nI (doS g (tnS g))), .int (nI (tnS g)), .ref 166]) (h' := HN (U g r27 w27 v27) hl (RF rt)) rfl ?_
      refine Ev.call (a := 189) (as := [.ref 166, .int (nI (tnS g)), .int (nI (doS g (tnS g)))]) (rest := []) (lv0 := [(0, .ref 166), (1, .int (nI (tnS g))), (2, .int (nI (doS g (tnS g))))]) (Q1 := (fun z0 h' => ∃ r1 w1 v1, SmH (adG g (tnS g) (doS g (tnS g))) r1 v1 ∧ z0 = some (.int (nI (adV g (doS g (tnS g))))) ∧ h' = HN (U (adG g (tnS g) (doS g (tnS g))) r1 w1 v1) hl (RF rt))) rfl rfl (C_adds _ _ _ _ hI (tnS g) (doS g (tnS g)) (by omega) (by omega) (by omega)  r27 w27 v27 hs27 (fun r w v h => ⟨r, w, v, h, rfl, rfl⟩)) (fun r h' hr => ?_)
      obtain ⟨r31, w31, v31, hs31, rfl, rfl⟩ := hr
      have hI32 : MI (adG g (tnS g) (doS g (tnS g))) := hI.madG (by omega) (by omega) (by omega)
      have hK33 : KW (adG g (tnS g) (doS g (tnS g))) := hK.cx (Ct.tadG _ _ _).cx
      refine Ev.ret (v := some (.int (nI (adV g (doS g (tnS g)))))) rfl ?_
      unfold plG0 plV0 tuD at hq
      simp only [if_neg hc11, if_neg hc27] at hq
      exact hq r31 w31 v31 hs31
theorem C_goTurn {L : Nat} {xs : Nat → Int32} (d : Nat) (g : Nat → Nat → Nat) (hl : Nat → Nat → Int64) (rt : Nat × Nat × Nat × Nat) (hI : MI g) (hK : KW g) (t : Nat) (ht : tOK g t) (r w v : Nat → Nat) (hs : SmH g r v)  {Q : Po} (hq : ∀ r' w' v' : Nat → Nat, SmH (plG g t) r' v' → Q (some (.int (nI (plV g t)))) (HN (U (plG g t) r' w' v') hl (RF rt))) : Ev L xs (d + 9) 192 0 [(0, .ref 166), (1, .int (nI t))] [] (HN (U g r w v) hl (RF rt)) Q := by
  have hW := hI.hW
  have hS := hI.hS
  have hPl := hI.hPl
  have hNx := hI.hNx
  have hLa := hI.hLa
  have hLo := hI.hLo
  have hTb := hI.hTb
  have hTh := hI.hTh
  have hFd := hI.hFd
  have hSn := hI.hSn
  have hSh := hI.hSh
  have hRan := hI.hRan
  have hLr := hI.hLr
  have hLt := hI.hLt
  have hgl := hI.hgl
  have hsz := hI.hsz
  have hcm := hI.hcm
  have hsl := hI.hsl
  have hkd := hI.hkd
  have hvv := hI.hvv
  have hli := hI.hli
  have hro := hI.hro
  have hrw := hI.hrw
  have htx := hI.htx
  have hsw := hI.hsw
  have hsx := hI.hsx
  have hsy := hI.hsy
  have hsh := hI.hsh
  have hle := hI.hle
  have hcl := hI.hcl
  have hwd := hI.hwd
  have hnu := hI.hnu
  have hwn := hI.hwn
  have hs1 := hI.hs1
  have hso := hI.hso
  refine Ev.run 3 (pc' := 5) (lv' := [(0, .ref 166), (1, .int (nI t))]) (st' := []) (h' := setI (HN (U g r w v) hl (RF rt)) 166 36 (nI 4294967295)) rfl ?_
  refine Ev.hp (HN_set _ _ _ _ _ _) ?_
  refine Ev.hp (congrArg (fun z => HN z hl (RF rt)) (U_u166 g r w v 36 4294967295)) ?_
  exact C_goTurn5 d (cl36 g) hl rt (MI.f36 hI) (hK.cx (Ct.f (x := 4294967295) (by omega : (36 : Nat) = 7 ∨ 36 = 8 ∨ 36 = 9 ∨ 36 = 36)).cx) t ht r w v hs hq
theorem C_goTurns {L : Nat} {xs : Nat → Int32} (d : Nat) (g : Nat → Nat → Nat) (hl : Nat → Nat → Int64) (rt : Nat × Nat × Nat × Nat) (hI : MI g) (hK : KW g) (n : Nat) (hn : n < 2 ^ 31) (r w v : Nat → Nat) (hs : SmH g r v)  {Q : Po} (hq : ∀ r' w' v' : Nat → Nat, SmH (itG n g) r' v' → Q none (HN (U (itG n g) r' w' v') hl (RF rt))) : Ev L xs (d + 10) 199 0 [(0, .ref 166), (1, .int (nI n))] [] (HN (U g r w v) hl (RF rt)) Q := by
  have hW := hI.hW
  have hS := hI.hS
  have hPl := hI.hPl
  have hNx := hI.hNx
  have hLa := hI.hLa
  have hLo := hI.hLo
  have hTb := hI.hTb
  have hTh := hI.hTh
  have hFd := hI.hFd
  have hSn := hI.hSn
  have hSh := hI.hSh
  have hRan := hI.hRan
  have hLr := hI.hLr
  have hLt := hI.hLt
  have hgl := hI.hgl
  have hsz := hI.hsz
  have hcm := hI.hcm
  have hsl := hI.hsl
  have hkd := hI.hkd
  have hvv := hI.hvv
  have hli := hI.hli
  have hro := hI.hro
  have hrw := hI.hrw
  have htx := hI.htx
  have hsw := hI.hsw
  have hsx := hI.hsx
  have hsy := hI.hsy
  have hsh := hI.hsh
  have hle := hI.hle
  have hcl := hI.hcl
  have hwd := hI.hwd
  have hnu := hI.hnu
  have hwn := hI.hwn
  have hs1 := hI.hs1
  have hso := hI.hso
  refine Ev.run 2 (pc' := 2) (lv' := [(2, .int (nI 0)), (0, .ref 166), (1, .int (nI n))]) (st' := []) (h' := HN (U g r w v) hl (RF rt)) rfl ?_
  generalize hG : itG n g = G0 at hq
  refine for_ind n (fun k => ∀ (g : Nat → Nat → Nat) (r w v : Nat → Nat), MI g → KW g → SmH g r v → itG (n - k) g = G0 → Ev L xs (d + 10) 199 2 [(2, .int (nI k)), (0, .ref 166), (1, .int (nI n))] [] (HN (U g r w v) hl (RF rt)) Q) (fun k hk hnext => ?_) 0 (Nat.zero_le _) g r w v hI hK hs hG
  intro g r w v hI hK hs ha
  have hW := hI.hW
  have hS := hI.hS
  have hPl := hI.hPl
  have hNx := hI.hNx
  have hLa := hI.hLa
  have hLo := hI.hLo
  have hTb := hI.hTb
  have hTh := hI.hTh
  have hFd := hI.hFd
  have hSn := hI.hSn
  have hSh := hI.hSh
  have hRan := hI.hRan
  have hLr := hI.hLr
  have hLt := hI.hLt
  have hgl := hI.hgl
  have hsz := hI.hsz
  have hcm := hI.hcm
  have hsl := hI.hsl
  have hkd := hI.hkd
  have hvv := hI.hvv
  have hli := hI.hli
  have hro := hI.hro
  have hrw := hI.hrw
  have htx := hI.htx
  have hsw := hI.hsw
  have hsx := hI.hsx
  have hsy := hI.hsy
  have hsh := hI.hsh
  have hle := hI.hle
  have hcl := hI.hcl
  have hwd := hI.hwd
  have hnu := hI.hnu
  have hwn := hI.hwn
  have hs1 := hI.hs1
  have hso := hI.hso
  refine Ev.run 3 (pc' := (if nI n ≤ nI k then 26 else 7)) (lv' := [(2, .int (nI k)), (0, .ref 166), (1, .int (nI n))]) (st' := []) (h' := HN (U g r w v) hl (RF rt)) rfl ?_
  refine Ev.ite (fun hc4 => ?_) (fun hc4 => ?_)
  · have hc4 : n ≤ k := (nI_leI (by omega) (by omega)).mp hc4
    refine Ev.ret (v := none) rfl ?_
    rw [show n - k = 0 by omega] at ha
    have ha2 : g = G0 := ha
    subst ha2
    exact hq r w v hs
  · have hc4 : ¬ (n ≤ k) := fun z => hc4 ((nI_leI (by omega) (by omega)).mpr z)
    refine Ev.run 1 (pc' := 8) (lv' := [(2, .int (nI k)), (0, .ref 166), (1, .int (nI n))]) (st' := [.ref 166]) (h' := HN (U g r w v) hl (RF rt)) rfl ?_
    refine Ev.call (a := 178) (as := [.ref 166]) (rest := []) (lv0 := [(0, .ref 166)]) (Q1 := (fun z0 h' => z0 = some (.int (nI (alS g))) ∧ h' = HN (U g r w v) hl (RF rt))) rfl rfl (C_aliveSet _ _ _ _ (hI.mU hs) ⟨rfl, rfl⟩) (fun r h' hr => ?_)
    obtain ⟨rfl, rfl⟩ := hr
    have has := alS_lt hI
    refine Ev.run 1 (pc' := (if nI (alS g) = 0 then 26 else 14)) (lv' := [(2, .int (nI k)), (0, .ref 166), (1, .int (nI n))]) (st' := []) (h' := HN (U g r w v) hl (RF rt)) rfl ?_
    refine Ev.ite (fun hc11 => ?_) (fun hc11 => ?_)
    · have hc11 : (alS g) = 0 := (nI_eqU0 (by omega)).mp hc11
      refine Ev.ret (v := none) rfl ?_
      rw [itG_0 hc11] at ha
      have ha2 : g = G0 := ha
      subst ha2
      exact hq r w v hs
    · have hc11 : ¬ ((alS g) = 0) := fun z => hc11 ((nI_eqU0 (by omega)).mpr z)
      refine Ev.run 2 (pc' := 16) (lv' := [(2, .int (nI k)), (0, .ref 166), (1, .int (nI n))]) (st' := [.int (nI 4294967295), .ref 166]) (h' := HN (U g r w v) hl (RF rt)) rfl ?_
      refine Ev.call (a := 192) (as := [.ref 166, .int (nI 4294967295)]) (rest := []) (lv0 := [(0, .ref 166), (1, .int (nI 4294967295))]) (Q1 := (fun z0 h' => ∃ r1 w1 v1, SmH (plG g 4294967295) r1 v1 ∧ z0 = some (.int (nI (plV g 4294967295))) ∧ h' = HN (U (plG g 4294967295) r1 w1 v1) hl (RF rt))) rfl rfl (C_goTurn _ _ _ _ hI hK 4294967295 (tOK_n _)  r w v hs (fun r w v h => ⟨r, w, v, h, rfl, rfl⟩)) (fun r h' hr => ?_)
      obtain ⟨r34, w34, v34, hs34, rfl, rfl⟩ := hr
      have hI35 : MI (plG g 4294967295) := hI.mplG (tOK_n _)
      have hK36 : KW (plG g 4294967295) := hK.cx (Ct.tplG _ _).cx
      refine Ev.run 2 (pc' := 23) (lv' := [(2, .int (nI k + 1)), (3, .int (nI (plV g 4294967295))), (0, .ref 166), (1, .int (nI n))]) (st' := []) (h' := HN (U (plG g 4294967295) r34 w34 v34) hl (RF rt)) rfl ?_
      refine Ev.lvE (congrArg (fun z => (2, Value.int z) :: [(3, .int (nI (plV g 4294967295))), (0, .ref 166), (1, .int (nI n))]) (nI_1 _)) ?_
      refine Ev.run 1 (pc' := 2) (lv' := [(2, .int (nI (k + 1))), (3, .int (nI (plV g 4294967295))), (0, .ref 166), (1, .int (nI n))]) (st' := []) (h' := HN (U (plG g 4294967295) r34 w34 v34) hl (RF rt)) rfl ?_
      have hx := hnext (by omega) (plG g 4294967295) r34 w34 v34 hI35 hK36 hs34 (by rw [← itG_s hc11 (by omega)]; exact ha)
      exact Ev.wk (Ext.cons rfl rfl (Ext.cons rfl rfl (Ext.cons rfl rfl (Ext.nil rfl)))) hx
noncomputable def rs_turn (g : Nat → Nat → Nat) : Nat := if alS g = 0 then 4294967293 else plV g 4294967295
noncomputable def gs_turn (g : Nat → Nat → Nat) : Nat → Nat → Nat := if alS g = 0 then g else plG g 4294967295
theorem C_turn {L : Nat} {xs : Nat → Int32} (d : Nat) (g : Nat → Nat → Nat) (hl : Nat → Nat → Int64) (rt : Nat × Nat × Nat × Nat) (hI : MI g) (hK : KW g)  (r w v : Nat → Nat) (hs : SmH g r v)  {Q : Po} (hq : ∀ r' w' v' : Nat → Nat, SmH (gs_turn g) r' v' → Q (some (.int (nI (rs_turn g)))) (HN (U (gs_turn g) r' w' v') hl (RF rt))) : Ev L xs (d + 10) 193 0 [(0, .ref 166)] [] (HN (U g r w v) hl (RF rt)) Q := by
  have hW := hI.hW
  have hS := hI.hS
  have hPl := hI.hPl
  have hNx := hI.hNx
  have hLa := hI.hLa
  have hLo := hI.hLo
  have hTb := hI.hTb
  have hTh := hI.hTh
  have hFd := hI.hFd
  have hSn := hI.hSn
  have hSh := hI.hSh
  have hRan := hI.hRan
  have hLr := hI.hLr
  have hLt := hI.hLt
  have hgl := hI.hgl
  have hsz := hI.hsz
  have hcm := hI.hcm
  have hsl := hI.hsl
  have hkd := hI.hkd
  have hvv := hI.hvv
  have hli := hI.hli
  have hro := hI.hro
  have hrw := hI.hrw
  have htx := hI.htx
  have hsw := hI.hsw
  have hsx := hI.hsx
  have hsy := hI.hsy
  have hsh := hI.hsh
  have hle := hI.hle
  have hcl := hI.hcl
  have hwd := hI.hwd
  have hnu := hI.hnu
  have hwn := hI.hwn
  have hs1 := hI.hs1
  have hso := hI.hso
  refine Ev.run 1 (pc' := 1) (lv' := [(0, .ref 166)]) (st' := [.ref 166]) (h' := HN (U g r w v) hl (RF rt)) rfl ?_
  refine Ev.call (a := 178) (as := [.ref 166]) (rest := []) (lv0 := [(0, .ref 166)]) (Q1 := (fun z0 h' => z0 = some (.int (nI (alS g))) ∧ h' = HN (U g r w v) hl (RF rt))) rfl rfl (C_aliveSet _ _ _ _ (hI.mU hs) ⟨rfl, rfl⟩) (fun r h' hr => ?_)
  obtain ⟨rfl, rfl⟩ := hr
  have has := alS_lt hI
  refine Ev.run 1 (pc' := (if nI (alS g) = 0 then 7 else 12)) (lv' := [(0, .ref 166)]) (st' := []) (h' := HN (U g r w v) hl (RF rt)) rfl ?_
  refine Ev.ite (fun hc4 => ?_) (fun hc4 => ?_)
  · have hc4 : (alS g) = 0 := (nI_eqU0 (by omega)).mp hc4
    refine Ev.run 2 (pc' := 17) (lv' := [(0, .ref 166)]) (st' := [.int (nI 4294967293)]) (h' := HN (U g r w v) hl (RF rt)) rfl ?_
    refine Ev.ret (v := some (.int (nI 4294967293))) rfl ?_
    unfold rs_turn gs_turn at hq
    simp only [if_pos hc4] at hq
    exact hq r w v hs
  · have hc4 : ¬ ((alS g) = 0) := fun z => hc4 ((nI_eqU0 (by omega)).mpr z)
    refine Ev.run 2 (pc' := 14) (lv' := [(0, .ref 166)]) (st' := [.int (nI 4294967295), .ref 166]) (h' := HN (U g r w v) hl (RF rt)) rfl ?_
    refine Ev.call (a := 192) (as := [.ref 166, .int (nI 4294967295)]) (rest := []) (lv0 := [(0, .ref 166), (1, .int (nI 4294967295))]) (Q1 := (fun z0 h' => ∃ r1 w1 v1, SmH (plG g 4294967295) r1 v1 ∧ z0 = some (.int (nI (plV g 4294967295))) ∧ h' = HN (U (plG g 4294967295) r1 w1 v1) hl (RF rt))) rfl rfl (C_goTurn _ _ _ _ hI hK 4294967295 (tOK_n _)  r w v hs (fun r w v h => ⟨r, w, v, h, rfl, rfl⟩)) (fun r h' hr => ?_)
    obtain ⟨r37, w37, v37, hs37, rfl, rfl⟩ := hr
    have hI38 : MI (plG g 4294967295) := hI.mplG (tOK_n _)
    have hK39 : KW (plG g 4294967295) := hK.cx (Ct.tplG _ _).cx
    refine Ev.ret (v := some (.int (nI (plV g 4294967295)))) rfl ?_
    unfold rs_turn gs_turn at hq
    simp only [if_neg hc4] at hq
    exact hq r37 w37 v37 hs37
