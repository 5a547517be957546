/-! the reference: looking ahead -/
theorem Cx.w {g : Nat → Nat → Nat} {j x : Nat} (hj : j = 7 ∨ j = 8 ∨ j = 9 ∨ j = 36 ∨ j = 37 ∨ j = 38 ∨ j = 39 ∨ j = 42 ∨ j = 43) : Cx g (u2 g 166 j x) := ⟨fun c h _ _ _ _ _ _ => by funext b; unfold u2; rw [if_neg h], fun i _ _ _ _ _ _ _ _ _ => by
  unfold u2
  rw [if_pos rfl]
  by_cases e : i = j
  · omega
  · rw [if_neg e]⟩
/-- what looking ahead leaves as it is, in all -/
def Cq (g g' : Nat → Nat → Nat) : Prop := (∀ c, c ≠ 166 → c ≠ 173 → c ≠ 175 → c ≠ 185 → c ≠ 186 → g' c = g c) ∧ (∀ j, j ≠ 7 → j ≠ 8 → j ≠ 9 → j ≠ 36 → j ≠ 42 → j ≠ 43 → g' 166 j = g 166 j)
theorem Ct.cq {a b : Nat → Nat → Nat} (h : Ct a b) : Cq a b := ⟨h.1, fun j h1 h2 h3 h4 _ _ => h.2 j h1 h2 h3 h4⟩
theorem Cq.refl (g : Nat → Nat → Nat) : Cq g g := (Ct.refl g).cq
theorem Cq.trans {a b c : Nat → Nat → Nat} (h : Cq a b) (k : Cq b c) : Cq a c := ⟨fun x h1 h2 h3 h4 h5 => (k.1 x h1 h2 h3 h4 h5).trans (h.1 x h1 h2 h3 h4 h5), fun j h1 h2 h3 h4 h5 h6 => (k.2 j h1 h2 h3 h4 h5 h6).trans (h.2 j h1 h2 h3 h4 h5 h6)⟩
theorem Cq.w {g : Nat → Nat → Nat} {j x : Nat} (hj : j = 42 ∨ j = 43) : Cq g (u2 g 166 j x) := ⟨fun c h _ _ _ _ => by funext b; unfold u2; rw [if_neg h], fun i _ _ _ _ _ _ => by
  unfold u2
  rw [if_pos rfl]
  by_cases e : i = j
  · omega
  · rw [if_neg e]⟩
def Cy (g g' : Nat → Nat → Nat) : Prop := (∀ c, c ≠ 166 → c ≠ 173 → c ≠ 187 → c ≠ 188 → g' c = g c) ∧ (∀ j, j ≠ 36 → j ≠ 37 → j ≠ 38 → j ≠ 39 → j ≠ 42 → j ≠ 43 → g' 166 j = g 166 j) ∧ ∀ b, b < 5 → g' 173 b = g 173 b
theorem Cy.refl (g : Nat → Nat → Nat) : Cy g g := ⟨fun _ _ _ _ _ => rfl, fun _ _ _ _ _ _ _ => rfl, fun _ _ => rfl⟩
theorem Cy.trans {a b c : Nat → Nat → Nat} (h : Cy a b) (k : Cy b c) : Cy a c := ⟨fun x h1 h2 h3 h4 => (k.1 x h1 h2 h3 h4).trans (h.1 x h1 h2 h3 h4), fun j h1 h2 h3 h4 h5 h6 => (k.2.1 j h1 h2 h3 h4 h5 h6).trans (h.2.1 j h1 h2 h3 h4 h5 h6), fun x hx => (k.2.2 x hx).trans (h.2.2 x hx)⟩
theorem Cy.cx {a b : Nat → Nat → Nat} (h : Cy a b) : Cx a b := ⟨fun c h1 h2 h3 h4 h5 h6 h7 => h.1 c h1 h2 h6 h7, fun j h1 h2 h3 h4 h5 h6 h7 h8 h9 => h.2.1 j h4 h5 h6 h7 h8 h9⟩
theorem MI.mcy {a b : Nat → Nat → Nat} (h : MI a) (k : Cy a b) : MI b := by
  have e173 : ∀ j, j < 5 → b 173 j ≤ 99 := fun j hj => by rw [k.2.2 j hj]; exact h.hli j hj
  exact ⟨by rw [k.2.1 0 (by decide) (by decide) (by decide) (by decide) (by decide) (by decide)]; exact h.hW, by rw [k.2.1 1 (by decide) (by decide) (by decide) (by decide) (by decide) (by decide)]; exact h.hS, by rw [k.2.1 6 (by decide) (by decide) (by decide) (by decide) (by decide) (by decide)]; exact h.hPl, by rw [k.2.1 7 (by decide) (by decide) (by decide) (by decide) (by decide) (by decide)]; exact h.hNx, by rw [k.2.1 8 (by decide) (by decide) (by decide) (by decide) (by decide) (by decide)]; exact h.hLa, by rw [k.2.1 9 (by decide) (by decide) (by decide) (by decide) (by decide) (by decide)]; exact h.hLo, by rw [k.2.1 15 (by decide) (by decide) (by decide) (by decide) (by decide) (by decide)]; exact h.hTb, by rw [k.2.1 16 (by decide) (by decide) (by decide) (by decide) (by decide) (by decide)]; exact h.hTh, by rw [k.2.1 17 (by decide) (by decide) (by decide) (by decide) (by decide) (by decide)]; exact h.hFd, by rw [k.2.1 44 (by decide) (by decide) (by decide) (by decide) (by decide) (by decide)]; exact h.hSn, by rw [k.2.1 48 (by decide) (by decide) (by decide) (by decide) (by decide) (by decide)]; exact h.hSh, by rw [k.2.1 71 (by decide) (by decide) (by decide) (by decide) (by decide) (by decide)]; exact h.hRan, by rw [k.2.1 33 (by decide) (by decide) (by decide) (by decide) (by decide) (by decide)]; exact h.hLr, by rw [k.2.1 34 (by decide) (by decide) (by decide) (by decide) (by decide) (by decide)]; exact h.hLt, by rw [k.1 167 (by decide) (by decide) (by decide) (by decide)]; exact h.hgl, by rw [k.1 168 (by decide) (by decide) (by decide) (by decide)]; exact h.hsz, by rw [k.1 169 (by decide) (by decide) (by decide) (by decide)]; exact h.hcm, by rw [k.1 170 (by decide) (by decide) (by decide) (by decide)]; exact h.hsl, by rw [k.1 171 (by decide) (by decide) (by decide) (by decide)]; exact h.hkd, by rw [k.1 172 (by decide) (by decide) (by decide) (by decide)]; exact h.hvv, e173, by rw [k.1 174 (by decide) (by decide) (by decide) (by decide)]; exact h.hro, by rw [k.1 175 (by decide) (by decide) (by decide) (by decide)]; exact h.hrw, by rw [k.1 176 (by decide) (by decide) (by decide) (by decide)]; exact h.htx, by rw [k.1 189 (by decide) (by decide) (by decide) (by decide)]; exact h.hsw, by rw [k.1 190 (by decide) (by decide) (by decide) (by decide)]; exact h.hsx, by rw [k.1 191 (by decide) (by decide) (by decide) (by decide)]; exact h.hsy, by rw [k.1 192 (by decide) (by decide) (by decide) (by decide)]; exact h.hsh, by rw [k.1 207 (by decide) (by decide) (by decide) (by decide)]; exact h.hle, by rw [k.1 177 (by decide) (by decide) (by decide) (by decide)]; exact h.hcl, by rw [k.1 178 (by decide) (by decide) (by decide) (by decide)]; exact h.hwd, by rw [k.1 179 (by decide) (by decide) (by decide) (by decide)]; exact h.hnu, by rw [k.1 186 (by decide) (by decide) (by decide) (by decide)]; exact h.hwn, by rw [k.2.1 0 (by decide) (by decide) (by decide) (by decide) (by decide) (by decide), k.1 168 (by decide) (by decide) (by decide) (by decide)]; exact h.hs1, by rw [k.1 206 (by decide) (by decide) (by decide) (by decide)]; exact h.hso⟩
theorem SmH.scy {a b : Nat → Nat → Nat} {r v : Nat → Nat} (h : SmH a r v) (k : Cy a b) : SmH b r v := ⟨h.1, fun j hj => by
  rw [k.2.1 9 (by decide) (by decide) (by decide) (by decide) (by decide) (by decide)] at hj
  rw [k.1 175 (by decide) (by decide) (by decide) (by decide)]
  exact h.2.1 j hj, h.2.2⟩
-- kept, and put back
def kpU (g : Nat → Nat → Nat) (r : Nat → Nat) : Nat → Nat → Nat := cpR (cpR (u2 (u2 (u2 g 166 37 (g 166 7)) 166 38 (g 166 8)) 166 39 (g 166 9)) 187 0 12 r) 188 0 5 (g 173)
def pbG (g : Nat → Nat → Nat) : Nat → Nat → Nat := cpR (cpR (u2 (u2 (u2 g 166 7 (g 166 37)) 166 8 (g 166 38)) 166 9 (g 166 39)) 175 0 12 (g 187)) 173 0 5 (g 188)
def pbB (g B : Nat → Nat → Nat) : Nat → Nat → Nat := fun a b => if a = 166 then (if b = 7 ∨ b = 8 ∨ b = 9 then g 166 b else B 166 b) else if a = 173 then (if b < 5 then g 173 b else B 173 b) else if a = 175 ∨ a = 185 ∨ a = 186 then g a b else B a b
def pbR (r r1 : Nat → Nat) : Nat → Nat := fun b => if b < 12 then r b else r1 b
theorem U_kp (g : Nat → Nat → Nat) (r w v : Nat → Nat) : kpU (U g r w v) (U g r w v 175) = U (kpU g r) r w v := by
  funext a b; unfold kpU cpR u2 U ur
  by_cases e : a = 188
  · subst e; simp
  · by_cases e2 : a = 187
    · subst e2; simp
    · by_cases e3 : a = 166
      · subst e3; simp
      · simp [e, e2, e3]
theorem MI.mkpU {g : Nat → Nat → Nat} (h : MI g) (r : Nat → Nat) : MI (kpU g r) := MI.c188 (MI.c187 (MI.f39 (MI.f38 (MI.f37 h))))
theorem Cx.ckp (g : Nat → Nat → Nat) (r : Nat → Nat) : Cx g (kpU g r) := ⟨fun c h1 _ _ _ _ h6 h7 => by funext b; unfold kpU cpR u2; simp [h1, h6, h7], fun j _ _ _ _ h5 h6 h7 _ _ => by unfold kpU cpR u2; simp [h5, h6, h7]⟩
theorem SmH.skp {g : Nat → Nat → Nat} {r v : Nat → Nat} (h : SmH g r v) (r2 : Nat → Nat) : SmH (kpU g r2) r v := h
theorem pb_U {g B : Nat → Nat → Nat} {r : Nat → Nat} (h : Cq (kpU g r) B) (r1 w v : Nat → Nat) : pbG (U B r1 w v) = U (pbB g B) (pbR r r1) w v := by
  have e7 : B 166 37 = g 166 7 := h.2 37 (by decide) (by decide) (by decide) (by decide) (by decide) (by decide)
  have e8 : B 166 38 = g 166 8 := h.2 38 (by decide) (by decide) (by decide) (by decide) (by decide) (by decide)
  have e9 : B 166 39 = g 166 9 := h.2 39 (by decide) (by decide) (by decide) (by decide) (by decide) (by decide)
  have er : ∀ b, b < 12 → B 187 b = r b := fun b hb => by
    rw [h.1 187 (by decide) (by decide) (by decide) (by decide) (by decide)]
    unfold kpU cpR; simp [hb]
  have el : ∀ b, b < 5 → B 188 b = g 173 b := fun b hb => by
    rw [h.1 188 (by decide) (by decide) (by decide) (by decide) (by decide)]
    unfold kpU cpR; simp [hb]
  funext a b
  unfold pbG pbB pbR cpR u2 U ur
  by_cases a1 : a = 173
  · subst a1
    by_cases hb : b < 5
    · simp [hb, el b hb]
    · simp [hb]
  · by_cases a2 : a = 175
    · subst a2
      by_cases hb : b < 12
      · simp [hb, er b hb]
      · simp [hb]
    · by_cases a3 : a = 166
      · subst a3
        by_cases b9 : b = 9
        · subst b9; simp [e9]
        · by_cases b8 : b = 8
          · subst b8; simp [e8]
          · by_cases b7 : b = 7
            · subst b7; simp [e7]
            · simp [b7, b8, b9]
      · by_cases a4 : a = 186
        · subst a4; simp
        · by_cases a5 : a = 185
          · subst a5; simp
          · simp [a1, a2, a3, a4, a5]
theorem Cy.pb {g B : Nat → Nat → Nat} {r : Nat → Nat} (h : Cq (kpU g r) B) : Cy g (pbB g B) := ⟨fun c h1 h2 h3 h4 => by
  funext b; unfold pbB
  rw [if_neg h1, if_neg h2]
  by_cases e : c = 175 ∨ c = 185 ∨ c = 186
  · rw [if_pos e]
  · rw [if_neg e, h.1 c h1 h2 (by omega) (by omega) (by omega)]
    unfold kpU cpR u2; simp [h1, h3, h4], fun j h1 h2 h3 h4 h5 h6 => by
  unfold pbB
  rw [if_pos rfl]
  by_cases e : j = 7 ∨ j = 8 ∨ j = 9
  · rw [if_pos e]
  · rw [if_neg e, h.2 j (by omega) (by omega) (by omega) h1 h5 h6]
    unfold kpU cpR u2; simp [h2, h3, h4], fun b hb => by
  unfold pbB
  simp [hb]⟩
theorem SmH.spb {g B : Nat → Nat → Nat} {r r1 v v1 : Nat → Nat} (h : SmH g r v) (k : SmH B r1 v1) (hn : g 166 9 ≤ 12) : SmH g (pbR r r1) v1 := ⟨fun j hj => by unfold pbR; rw [if_pos hj]; exact h.1 j hj, fun j hj => by unfold pbR; rw [if_pos (by omega)]; exact h.2.1 j hj, k.2.2⟩
theorem adG_36 {g : Nat → Nat → Nat} {p l : Nat} (hp : p < 5) (h : g 166 36 ≤ 4 ∨ g 166 36 = 4294967295) : adG g p l 166 36 ≤ 4 ∨ adG g p l 166 36 = 4294967295 := by
  unfold adG
  cases sfS g l with
  | true => exact h
  | false => exact Or.inl (show p ≤ 4 by omega)
theorem plG_36 {g : Nat → Nat → Nat} (h : MI g) (t : Nat) : plG g t 166 36 ≤ 4 ∨ plG g t 166 36 = 4294967295 := by
  unfold plG plG0
  have h2 : MI (cl36 g) := MI.f36 h
  split
  · have := asL_lt h2 (tnS_lt h2)
    exact Or.inl (show asL (cl36 g) (tnS (cl36 g)) ≤ 4 by omega)
  · exact adG_36 (tnS_lt h2) (Or.inr rfl)
theorem plV_lt {g : Nat → Nat → Nat} (h : MI g) {t : Nat} (ht : tOK g t) : plV g t ≤ 120 := by
  unfold plV plV0
  have h2 : MI (cl36 g) := MI.f36 h
  split
  · unfold asV; split <;> omega
  · have h3 := tuD_ok h2 (t := t) ht
    unfold adV
    cases sfS (cl36 g) (tuD (cl36 g) t) with
    | true => show tuD _ _ ≤ _; omega
    | false => show tuD _ _ + 100 ≤ _; omega
theorem C_keep {L : Nat} {xs : Nat → Int32} (d : Nat) (g : Nat → Nat → Nat) (hl : Nat → Nat → Int64) (rt : Nat × Nat × Nat × Nat) (hI : MI g)  {Q : Po} (hq : Q none (HN (kpU g (g 175)) hl (RF rt))) : Ev L xs d 197 0 [(0, .ref 166)] [] (HN g hl (RF rt)) Q := by
  have hW := hI.hW
  have hS := hI.hS
  have hPl := hI.hPl
  have hNx := hI.hNx
  have hLa := hI.hLa
  have hLo := hI.hLo
  have hTb := hI.hTb
  have hTh := hI.hTh
  have hFd := hI.hFd
  have hSn := hI.hSn
  have hSh := hI.hSh
  have hRan := hI.hRan
  have hLr := hI.hLr
  have hLt := hI.hLt
  have hgl := hI.hgl
  have hsz := hI.hsz
  have hcm := hI.hcm
  have hsl := hI.hsl
  have hkd := hI.hkd
  have hvv := hI.hvv
  have hli := hI.hli
  have hro := hI.hro
  have hrw := hI.hrw
  have htx := hI.htx
  have hsw := hI.hsw
  have hsx := hI.hsx
  have hsy := hI.hsy
  have hsh := hI.hsh
  have hle := hI.hle
  have hcl := hI.hcl
  have hwd := hI.hwd
  have hnu := hI.hnu
  have hwn := hI.hwn
  have hs1 := hI.hs1
  have hso := hI.hso
  refine Ev.run 4 (pc' := 8) (lv' := [(0, .ref 166)]) (st' := []) (h' := setI (HN g hl (RF rt)) 166 37 (nI (g 166 7))) rfl ?_
  refine Ev.hp (HN_set _ _ _ _ _ _) ?_
  refine Ev.run 4 (pc' := 16) (lv' := [(0, .ref 166)]) (st' := []) (h' := setI (HN (u2 g 166 37 (g 166 7)) hl (RF rt)) 166 38 (nI (g 166 8))) rfl ?_
  refine Ev.hp (HN_set _ _ _ _ _ _) ?_
  refine Ev.run 4 (pc' := 24) (lv' := [(0, .ref 166)]) (st' := []) (h' := setI (HN (u2 (u2 g 166 37 (g 166 7)) 166 38 (g 166 8)) hl (RF rt)) 166 39 (nI (g 166 9))) rfl ?_
  refine Ev.hp (HN_set _ _ _ _ _ _) ?_
  refine Ev.run 2 (pc' := 26) (lv' := [(1, .int (nI 0)), (0, .ref 166)]) (st' := []) (h' := HN (u2 (u2 (u2 g 166 37 (g 166 7)) 166 38 (g 166 8)) 166 39 (g 166 9)) hl (RF rt)) rfl ?_
  refine Ev.hp (congrArg (fun z => HN z hl (RF rt)) (cpR_0 (u2 (u2 (u2 g 166 37 (g 166 7)) 166 38 (g 166 8)) 166 39 (g 166 9)) 187 0 (g 175)).symm) ?_
  refine for_ind 12 (fun n => Ev L xs d 197 26 [(1, .int (nI n)), (0, .ref 166)] [] (HN (cpR (u2 (u2 (u2 g 166 37 (g 166 7)) 166 38 (g 166 8)) 166 39 (g 166 9)) 187 0 n (g 175)) hl (RF rt)) Q) (fun n hn hnext => ?_) 0 (Nat.zero_le _)
  refine Ev.run 3 (pc' := (if nI 12 ≤ nI n then 50 else 32)) (lv' := [(1, .int (nI n)), (0, .ref 166)]) (st' := []) (h' := HN (cpR (u2 (u2 (u2 g 166 37 (g 166 7)) 166 38 (g 166 8)) 166 39 (g 166 9)) 187 0 n (g 175)) hl (RF rt)) rfl ?_
  refine Ev.ite (fun hc29 => ?_) (fun hc29 => ?_)
  · have hc29 : 12 ≤ n := (nI_leI (by omega) (by omega)).mp hc29
    refine Ev.run 2 (pc' := 52) (lv' := [(1, .int (nI 0)), (0, .ref 166)]) (st' := []) (h' := HN (cpR (u2 (u2 (u2 g 166 37 (g 166 7)) 166 38 (g 166 8)) 166 39 (g 166 9)) 187 0 n (g 175)) hl (RF rt)) rfl ?_
    obtain rfl : n = 12 := by omega
    refine Ev.hp (congrArg (fun z => HN z hl (RF rt)) (cpR_0 (cpR (u2 (u2 (u2 g 166 37 (g 166 7)) 166 38 (g 166 8)) 166 39 (g 166 9)) 187 0 12 (g 175)) 188 0 (g 173)).symm) ?_
    refine for_ind 5 (fun n => Ev L xs d 197 52 [(1, .int (nI n)), (0, .ref 166)] [] (HN (cpR (cpR (u2 (u2 (u2 g 166 37 (g 166 7)) 166 38 (g 166 8)) 166 39 (g 166 9)) 187 0 12 (g 175)) 188 0 n (g 173)) hl (RF rt)) Q) (fun n hn hnext => ?_) 0 (Nat.zero_le _)
    refine Ev.run 3 (pc' := (if nI 5 ≤ nI n then 75 else 57)) (lv' := [(1, .int (nI n)), (0, .ref 166)]) (st' := []) (h' := HN (cpR (cpR (u2 (u2 (u2 g 166 37 (g 166 7)) 166 38 (g 166 8)) 166 39 (g 166 9)) 187 0 12 (g 175)) 188 0 n (g 173)) hl (RF rt)) rfl ?_
    refine Ev.ite (fun hc54 => ?_) (fun hc54 => ?_)
    · have hc54 : 5 ≤ n := (nI_leI (by omega) (by omega)).mp hc54
      refine Ev.ret (v := none) rfl ?_
      obtain rfl : n = 5 := by omega
      exact hq
    · have hc54 : ¬ (5 ≤ n) := fun z => hc54 ((nI_leI (by omega) (by omega)).mpr z)
      refine Ev.run 6 (pc' := 67) (lv' := [(1, .int (nI n)), (0, .ref 166)]) (st' := [.int (nI n), .ref 173, .int (nI n), .ref 188]) (h' := HN (cpR (cpR (u2 (u2 (u2 g 166 37 (g 166 7)) 166 38 (g 166 8)) 166 39 (g 166 9)) 187 0 12 (g 175)) 188 0 n (g 173)) hl (RF rt)) rfl ?_
      refine Ev_iald rfl rfl (show n < 5 by omega) (Nat.le_of_ble_eq_true rfl) ?_
      have hr0 := hli n (by omega)
      refine Ev_iast rfl rfl (show n < 5 by omega) (Nat.le_of_ble_eq_true rfl) ?_
      refine Ev.run 1 (pc' := 72) (lv' := [(1, .int (nI n + 1)), (0, .ref 166)]) (st' := []) (h' := HN (u2 (cpR (cpR (u2 (u2 (u2 g 166 37 (g 166 7)) 166 38 (g 166 8)) 166 39 (g 166 9)) 187 0 12 (g 175)) 188 0 n (g 173)) 188 n (g 173 n)) hl (RF rt)) rfl ?_
      refine Ev.lvE (congrArg (fun z => (1, Value.int z) :: [(0, .ref 166)]) (nI_1 _)) ?_
      refine Ev.run 1 (pc' := 52) (lv' := [(1, .int (nI (n + 1))), (0, .ref 166)]) (st' := []) (h' := HN (u2 (cpR (cpR (u2 (u2 (u2 g 166 37 (g 166 7)) 166 38 (g 166 8)) 166 39 (g 166 9)) 187 0 12 (g 175)) 188 0 n (g 173)) 188 n (g 173 n)) hl (RF rt)) rfl ?_
      have hx := hnext (by omega)
      rw [← cpR_s, Nat.zero_add] at hx
      exact hx
  · have hc29 : ¬ (12 ≤ n) := fun z => hc29 ((nI_leI (by omega) (by omega)).mpr z)
    refine Ev.run 6 (pc' := 42) (lv' := [(1, .int (nI n)), (0, .ref 166)]) (st' := [.int (nI n), .ref 175, .int (nI n), .ref 187]) (h' := HN (cpR (u2 (u2 (u2 g 166 37 (g 166 7)) 166 38 (g 166 8)) 166 39 (g 166 9)) 187 0 n (g 175)) hl (RF rt)) rfl ?_
    refine Ev_iald rfl rfl (show n < 12 by omega) (Nat.le_of_ble_eq_true rfl) ?_
    have hr1 := hrw n (by omega)
    refine Ev_iast rfl rfl (show n < 12 by omega) (Nat.le_of_ble_eq_true rfl) ?_
    refine Ev.run 1 (pc' := 47) (lv' := [(1, .int (nI n + 1)), (0, .ref 166)]) (st' := []) (h' := HN (u2 (cpR (u2 (u2 (u2 g 166 37 (g 166 7)) 166 38 (g 166 8)) 166 39 (g 166 9)) 187 0 n (g 175)) 187 n (g 175 n)) hl (RF rt)) rfl ?_
    refine Ev.lvE (congrArg (fun z => (1, Value.int z) :: [(0, .ref 166)]) (nI_1 _)) ?_
    refine Ev.run 1 (pc' := 26) (lv' := [(1, .int (nI (n + 1))), (0, .ref 166)]) (st' := []) (h' := HN (u2 (cpR (u2 (u2 (u2 g 166 37 (g 166 7)) 166 38 (g 166 8)) 166 39 (g 166 9)) 187 0 n (g 175)) 187 n (g 175 n)) hl (RF rt)) rfl ?_
    have hx := hnext (by omega)
    rw [← cpR_s, Nat.zero_add] at hx
    exact hx
theorem C_putBack {L : Nat} {xs : Nat → Int32} (d : Nat) (g : Nat → Nat → Nat) (hl : Nat → Nat → Int64) (rt : Nat × Nat × Nat × Nat) (hI : MI g)  {Q : Po} (hq : Q none (HN (pbG g) hl (RF rt))) : Ev L xs d 198 0 [(0, .ref 166)] [] (HN g hl (RF rt)) Q := by
  have hW := hI.hW
  have hS := hI.hS
  have hPl := hI.hPl
  have hNx := hI.hNx
  have hLa := hI.hLa
  have hLo := hI.hLo
  have hTb := hI.hTb
  have hTh := hI.hTh
  have hFd := hI.hFd
  have hSn := hI.hSn
  have hSh := hI.hSh
  have hRan := hI.hRan
  have hLr := hI.hLr
  have hLt := hI.hLt
  have hgl := hI.hgl
  have hsz := hI.hsz
  have hcm := hI.hcm
  have hsl := hI.hsl
  have hkd := hI.hkd
  have hvv := hI.hvv
  have hli := hI.hli
  have hro := hI.hro
  have hrw := hI.hrw
  have htx := hI.htx
  have hsw := hI.hsw
  have hsx := hI.hsx
  have hsy := hI.hsy
  have hsh := hI.hsh
  have hle := hI.hle
  have hcl := hI.hcl
  have hwd := hI.hwd
  have hnu := hI.hnu
  have hwn := hI.hwn
  have hs1 := hI.hs1
  have hso := hI.hso
  refine Ev.run 4 (pc' := 8) (lv' := [(0, .ref 166)]) (st' := []) (h' := setI (HN g hl (RF rt)) 166 7 (nI (g 166 37))) rfl ?_
  refine Ev.hp (HN_set _ _ _ _ _ _) ?_
  refine Ev.run 4 (pc' := 16) (lv' := [(0, .ref 166)]) (st' := []) (h' := setI (HN (u2 g 166 7 (g 166 37)) hl (RF rt)) 166 8 (nI (g 166 38))) rfl ?_
  refine Ev.hp (HN_set _ _ _ _ _ _) ?_
  refine Ev.run 4 (pc' := 24) (lv' := [(0, .ref 166)]) (st' := []) (h' := setI (HN (u2 (u2 g 166 7 (g 166 37)) 166 8 (g 166 38)) hl (RF rt)) 166 9 (nI (g 166 39))) rfl ?_
  refine Ev.hp (HN_set _ _ _ _ _ _) ?_
  refine Ev.run 2 (pc' := 26) (lv' := [(1, .int (nI 0)), (0, .ref 166)]) (st' := []) (h' := HN (u2 (u2 (u2 g 166 7 (g 166 37)) 166 8 (g 166 38)) 166 9 (g 166 39)) hl (RF rt)) rfl ?_
  refine Ev.hp (congrArg (fun z => HN z hl (RF rt)) (cpR_0 (u2 (u2 (u2 g 166 7 (g 166 37)) 166 8 (g 166 38)) 166 9 (g 166 39)) 175 0 (g 187)).symm) ?_
  refine for_ind 12 (fun n => Ev L xs d 198 26 [(1, .int (nI n)), (0, .ref 166)] [] (HN (cpR (u2 (u2 (u2 g 166 7 (g 166 37)) 166 8 (g 166 38)) 166 9 (g 166 39)) 175 0 n (g 187)) hl (RF rt)) Q) (fun n hn hnext => ?_) 0 (Nat.zero_le _)
  refine Ev.run 3 (pc' := (if nI 12 ≤ nI n then 50 else 32)) (lv' := [(1, .int (nI n)), (0, .ref 166)]) (st' := []) (h' := HN (cpR (u2 (u2 (u2 g 166 7 (g 166 37)) 166 8 (g 166 38)) 166 9 (g 166 39)) 175 0 n (g 187)) hl (RF rt)) rfl ?_
  refine Ev.ite (fun hc29 => ?_) (fun hc29 => ?_)
  · have hc29 : 12 ≤ n := (nI_leI (by omega) (by omega)).mp hc29
    refine Ev.run 2 (pc' := 52) (lv' := [(1, .int (nI 0)), (0, .ref 166)]) (st' := []) (h' := HN (cpR (u2 (u2 (u2 g 166 7 (g 166 37)) 166 8 (g 166 38)) 166 9 (g 166 39)) 175 0 n (g 187)) hl (RF rt)) rfl ?_
    obtain rfl : n = 12 := by omega
    refine Ev.hp (congrArg (fun z => HN z hl (RF rt)) (cpR_0 (cpR (u2 (u2 (u2 g 166 7 (g 166 37)) 166 8 (g 166 38)) 166 9 (g 166 39)) 175 0 12 (g 187)) 173 0 (g 188)).symm) ?_
    refine for_ind 5 (fun n => Ev L xs d 198 52 [(1, .int (nI n)), (0, .ref 166)] [] (HN (cpR (cpR (u2 (u2 (u2 g 166 7 (g 166 37)) 166 8 (g 166 38)) 166 9 (g 166 39)) 175 0 12 (g 187)) 173 0 n (g 188)) hl (RF rt)) Q) (fun n hn hnext => ?_) 0 (Nat.zero_le _)
    refine Ev.run 3 (pc' := (if nI 5 ≤ nI n then 75 else 57)) (lv' := [(1, .int (nI n)), (0, .ref 166)]) (st' := []) (h' := HN (cpR (cpR (u2 (u2 (u2 g 166 7 (g 166 37)) 166 8 (g 166 38)) 166 9 (g 166 39)) 175 0 12 (g 187)) 173 0 n (g 188)) hl (RF rt)) rfl ?_
    refine Ev.ite (fun hc54 => ?_) (fun hc54 => ?_)
    · have hc54 : 5 ≤ n := (nI_leI (by omega) (by omega)).mp hc54
      refine Ev.ret (v := none) rfl ?_
      obtain rfl : n = 5 := by omega
      exact hq
    · have hc54 : ¬ (5 ≤ n) := fun z => hc54 ((nI_leI (by omega) (by omega)).mpr z)
      refine Ev.run 6 (pc' := 67) (lv' := [(1, .int (nI n)), (0, .ref 166)]) (st' := [.int (nI n), .ref 188, .int (nI n), .ref 173]) (h' := HN (cpR (cpR (u2 (u2 (u2 g 166 7 (g 166 37)) 166 8 (g 166 38)) 166 9 (g 166 39)) 175 0 12 (g 187)) 173 0 n (g 188)) hl (RF rt)) rfl ?_
      refine Ev_iald rfl rfl (show n < 5 by omega) (Nat.le_of_ble_eq_true rfl) ?_
      refine Ev_iast rfl rfl (show n < 5 by omega) (Nat.le_of_ble_eq_true rfl) ?_
      refine Ev.run 1 (pc' := 72) (lv' := [(1, .int (nI n + 1)), (0, .ref 166)]) (st' := []) (h' := HN (u2 (cpR (cpR (u2 (u2 (u2 g 166 7 (g 166 37)) 166 8 (g 166 38)) 166 9 (g 166 39)) 175 0 12 (g 187)) 173 0 n (g 188)) 173 n (g 188 n)) hl (RF rt)) rfl ?_
      refine Ev.lvE (congrArg (fun z => (1, Value.int z) :: [(0, .ref 166)]) (nI_1 _)) ?_
      refine Ev.run 1 (pc' := 52) (lv' := [(1, .int (nI (n + 1))), (0, .ref 166)]) (st' := []) (h' := HN (u2 (cpR (cpR (u2 (u2 (u2 g 166 7 (g 166 37)) 166 8 (g 166 38)) 166 9 (g 166 39)) 175 0 12 (g 187)) 173 0 n (g 188)) 173 n (g 188 n)) hl (RF rt)) rfl ?_
      have hx := hnext (by omega)
      rw [← cpR_s, Nat.zero_add] at hx
      exact hx
  · have hc29 : ¬ (12 ≤ n) := fun z => hc29 ((nI_leI (by omega) (by omega)).mpr z)
    refine Ev.run 6 (pc' := 42) (lv' := [(1, .int (nI n)), (0, .ref 166)]) (st' := [.int (nI n), .ref 187, .int (nI n), .ref 175]) (h' := HN (cpR (u2 (u2 (u2 g 166 7 (g 166 37)) 166 8 (g 166 38)) 166 9 (g 166 39)) 175 0 n (g 187)) hl (RF rt)) rfl ?_
    refine Ev_iald rfl rfl (show n < 12 by omega) (Nat.le_of_ble_eq_true rfl) ?_
    refine Ev_iast rfl rfl (show n < 12 by omega) (Nat.le_of_ble_eq_true rfl) ?_
    refine Ev.run 1 (pc' := 47) (lv' := [(1, .int (nI n + 1)), (0, .ref 166)]) (st' := []) (h' := HN (u2 (cpR (u2 (u2 (u2 g 166 7 (g 166 37)) 166 8 (g 166 38)) 166 9 (g 166 39)) 175 0 n (g 187)) 175 n (g 187 n)) hl (RF rt)) rfl ?_
    refine Ev.lvE (congrArg (fun z => (1, Value.int z) :: [(0, .ref 166)]) (nI_1 _)) ?_
    refine Ev.run 1 (pc' := 26) (lv' := [(1, .int (nI (n + 1))), (0, .ref 166)]) (st' := []) (h' := HN (u2 (cpR (u2 (u2 (u2 g 166 7 (g 166 37)) 166 8 (g 166 38)) 166 9 (g 166 39)) 175 0 n (g 187)) 175 n (g 187 n)) hl (RF rt)) rfl ?_
    have hx := hnext (by omega)
    rw [← cpR_s, Nat.zero_add] at hx
    exact hx
