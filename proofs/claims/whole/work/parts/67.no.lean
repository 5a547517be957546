/-! both sides: the choice of one -/
def Cw (g G : Nat → Nat → Nat) : Prop := (∀ c, c ≠ 166 → c ≠ 173 → c ≠ 175 → c ≠ 185 → c ≠ 186 → c ≠ 187 → c ≠ 188 → G c = g c) ∧ (∀ j, j ≠ 7 → j ≠ 8 → j ≠ 9 → j ≠ 33 → j ≠ 34 → j ≠ 36 → j ≠ 37 → j ≠ 38 → j ≠ 39 → j ≠ 42 → j ≠ 43 → G 166 j = g 166 j)
section CW
variable {g G : Nat → Nat → Nat}
def bwS (g G : Nat → Nat → Nat) : Nat → Nat → Nat := u2 (u2 g 166 33 (G 166 33)) 166 34 (G 166 34)
theorem Cw.cx (h : Cw g G) : Cx (bwS g G) G := ⟨fun c h1 h2 h3 h4 h5 h6 h7 => by
  rw [h.1 c h1 h2 h3 h4 h5 h6 h7]
  funext j
  unfold bwS
  rw [u2_ne _ (Or.inl h1), u2_ne _ (Or.inl h1)], fun j h1 h2 h3 h4 h5 h6 h7 h8 h9 => by
  unfold bwS
  by_cases e : j = 34
  · subst e; rw [u2_at]
  · by_cases e2 : j = 33
    · subst e2; rw [u2_ne _ (Or.inr (by decide)), u2_at]
    · rw [u2_ne _ (Or.inr e), u2_ne _ (Or.inr e2)]
      exact h.2 j h1 h2 h3 e2 e h4 h5 h6 h7 h8 h9⟩
theorem Cw.yft (h : Cw g G) : ft G = ft g := h.cx.xft
theorem Cw.yfitA (h : Cw g G) : fitA G = fitA g := h.cx.xfitA
theorem Cw.ygoG (h : Cw g G) : goG G = goG g := h.cx.xgoG
theorem Cw.yendS (h : Cw g G) : endS G = endS g := h.cx.xendS
theorem Cw.ylwS (h : Cw g G) : lwS G = lwS g := by
  rw [h.cx.xlwS]
  funext w
  have e : ∀ o n, lwF (bwS g G) o w n = lwF g o w n := by
    intro o n
    induction n with
    | zero => rfl
    | succ n ih => unfold lwF; rw [ih]; rfl
  exact e _ _
theorem Cw.yallS (h : Cw g G) : allS G = allS g := h.cx.xallS
theorem bw_eW : eW (bwS g G) = eW g := by
  funext s i n
  have e : lwS (bwS g G) 1 = lwS g 1 := by
    have e2 : ∀ o n, lwF (bwS g G) o 1 n = lwF g o 1 n := by
      intro o n
      induction n with
      | zero => rfl
      | succ n ih => unfold lwF; rw [ih]; rfl
    exact e2 _ _
  unfold eW
  rw [e]
  rfl
theorem bw_winF : winF (bwS g G) = winF g := by
  funext s wb i n
  unfold winF
  rw [bw_eW]
  rfl
theorem Cw.ywrS (h : Cw g G) : wrS G = wrS g := by
  rw [h.cx.xwrS]
  have e : wB (bwS g G) = wB g := by
    funext s f
    induction f with
    | zero => funext i; rfl
    | succ f ih => funext i; unfold wB; rw [ih, bw_winF]; rfl
  funext r n s
  unfold wrS
  rw [bw_winF, e]
  rfl
theorem Cw.z0 (h : Cw g G) : G 166 0 = g 166 0 := h.2 0 (by decide) (by decide) (by decide) (by decide) (by decide) (by decide) (by decide) (by decide) (by decide) (by decide) (by decide)
theorem Cw.z6 (h : Cw g G) : G 166 6 = g 166 6 := h.2 6 (by decide) (by decide) (by decide) (by decide) (by decide) (by decide) (by decide) (by decide) (by decide) (by decide) (by decide)
theorem Cw.zc (h : Cw g G) {c : Nat} (hc : c = 171 ∨ c = 172 ∨ c = 174) : G c = g c := h.1 c (by omega) (by omega) (by omega) (by omega) (by omega) (by omega) (by omega)
end CW
/-- a round of the class goes with the reference's -/
def RX (x0 x1 x2 x3 : Nat → Nat) (G : Nat → Nat → Nat) : Prop := x1 1 = G 166 9 ∧ (∀ k, k < G 166 9 → x2 k = G 175 k) ∧ (∀ j, j < 5 → x3 j = G 173 j) ∧ x0 2 = G 166 7 ∧ x0 3 = G 166 8
/-- the class's game goes with the reference's -/
def GX (g G : Nat → Nat → Nat) (y : Nat) : Prop := MI g ∧ MI G ∧ CB g ∧ Cw g G ∧ y = lwS g 1 ∧ g 12 2 = g 166 6 ∧ (∀ p, p < g 166 6 → g 59 p = knS G p) ∧ LOK g (allS g) (lwS g 1) (g 18) 6
section BOTH
variable {g G : Nat → Nat → Nat} {y : Nat} {x0 x1 x2 x3 : Nat → Nat}
theorem ftX_eq (h : RX x0 x1 x2 x3 G) : ftX g x1 x2 (x1 1) = bset (ft g (G 175) (G 166 9)) (g 166 0) := by
  unfold ftX
  rw [h.1, ft_cg (r := atX x1 x2) (r' := G 175) (fun k hk => by
    unfold atX
    rw [h.1, if_pos hk]
    exact h.2.1 k hk)]
theorem may_eq (hg : GX g G y) (h : RX x0 x1 x2 x3 G) {who : Nat} (hw : who < g 166 6) : mayC g x1 x2 who = maS G who := by
  obtain ⟨hI, hJ, hB, hC, hy, hP, hk, hl⟩ := hg
  unfold mayC maS
  rw [ftX_eq h, hk who hw, fit_and, h.1, goG_eq hI, hC.ygoG]
theorem saf_eq (hg : GX g G y) (h : RX x0 x1 x2 x3 G) {who : Nat} (hw : who < g 166 6) : safC g x1 x2 who y = saS G (maS G who) := by
  have hm := may_eq hg h hw
  obtain ⟨hI, hJ, hB, hC, hy, hP, hk, hl⟩ := hg
  unfold safC saS sfS
  rw [hm, ftX_eq h, h.1, neS_eq, hy, hC.yendS, hC.ylwS]
theorem wr_eqX (hg : GX g G y) (h : RX x0 x1 x2 x3 G) : wiF g (ftX g x1 x2 (x1 1)) (x1 1) y (XL g (x1 1)) = wrS G (G 175) (G 166 9) (allS G) := by
  obtain ⟨hI, hJ, hB, hC, hy, hP, hk, hl⟩ := hg
  rw [ftX_eq h, h.1, hy, ← fit_all, hC.ywrS, hC.yallS]
  refine wr_eq hI hB _ _ _ _ (fun hn => ?_) (fun hn => if_neg (by omega))
  unfold XL
  rw [if_pos (by omega), show G 166 9 + 1 = 6 - (5 - G 166 9) by omega, hl (5 - G 166 9) (by omega), show 5 - G 166 9 + 1 = 6 - G 166 9 by omega]
theorem saf_tb (hg : GX g G y) (h : RX x0 x1 x2 x3 G) {who : Nat} {l : Nat} (hs : (saS G (maS G who)).testBit l = true) : (goG G (G 175) (G 166 9) (allS G)).testBit l = true ∧ endS G (lwS G 1) (up (G 175) (G 166 9) l) (G 166 9 + 1) = false := by
  unfold saS at hs
  rw [bset_tb, Bool.and_eq_true, Bool.and_eq_true] at hs
  refine ⟨?_, ?_⟩
  · have h1 := hs.2.1
    unfold maS goG at h1
    rw [gset_tb] at h1
    obtain ⟨i, i1, i2, i3⟩ := h1
    unfold goG
    rw [gset_tb]
    rw [Bool.and_eq_true] at i2
    exact ⟨i, i1, by rw [allS_tb, decide_eq_true i1, Bool.true_and]; exact i2.2, i3⟩
  · have h2 := hs.2.2
    unfold sfS at h2
    rwa [Bool.not_eq_true'] at h2
theorem CB.cw (hB : CB g) (hC : Cw g G) (hI : MI g) : ∀ (r : Nat → Nat) {n l : Nat}, (goG G r n (allS G)).testBit l = true → endS G (lwS G 1) (up r n l) (n + 1) = false → (wrS G r n (allS G)).testBit l = decide (wrS G (up r n l) (n + 1) (allS G) = 0) := by
  intro r n l h1 h2
  rw [hC.ygoG, hC.yallS] at h1
  rw [hC.yendS, hC.ylwS] at h2
  rw [hC.ywrS, hC.yallS]
  exact wrS_tb hI hB r h1 h2
theorem led_eq (hg : GX g G y) (h : RX x0 x1 x2 x3 G) {who : Nat} (hw : who < g 166 6) (hk4 : G 171 who = 4) (e : Nat) : fstF (fun l => (saS G (maS G who)).testBit l && ldB G l) e 4 0 = if ldC g x1 x2 who y = 0 then e else least (ldC g x1 x2 who y) := by
  have hs := saf_eq hg h hw
  have hr := wr_eqX hg h
  have hL : ldC g x1 x2 who y = saS G (maS G who) &&& wrS G (G 175) (G 166 9) (allS G) := by
    unfold ldC
    rw [if_pos (by rw [← hg.2.2.2.1.zc (c := 171) (by omega)]; exact hk4), hs, hr]
  rw [hL]
  refine fst_least (Nat.lt_of_le_of_lt (and_le _ _) (saS_lt G _)) (fun l _ => ?_)
  rw [Nat.testBit_and]
  cases e1 : (saS G (maS G who)).testBit l with
  | false => rfl
  | true =>
    have e2 := saf_tb hg h e1
    rw [hg.2.2.1.cw hg.2.2.2.1 hg.1 _ e2.1 e2.2]
    rfl
theorem sly_eq (hg : GX g G y) (h : RX x0 x1 x2 x3 G) {who : Nat} (hw : who < g 166 6) (hal : 0 < G 173 who) {s : Nat} (hs : s ≠ 0) (hs16 : s < 16) : syC g x1 x3 who (ftX g x1 x2 (x1 1)) s = (slL (mtS G (nxS (G 173) (G 166 6) who)) s 4).1 := by
  have hf := ftX_eq (g := g) h
  obtain ⟨hI, hJ, hB, hC, hy, hP, hk, hl⟩ := hg
  have hP5 := hI.hPl
  have hlv : ∀ j, j < 5 → x3 j = G 173 j := h.2.2.1
  have hfw : fwC x3 (g 12 2) who (g 12 2) 1 = fwC (G 173) (g 166 6) who (g 166 6) 1 := by
    rw [hP]
    have e : ∀ f k, fwC x3 (g 166 6) who f k = fwC (G 173) (g 166 6) who f k := by
      intro f
      induction f with
      | zero => intro k; rfl
      | succ f ih =>
        intro k
        unfold fwC
        rw [ih, hlv _ (by have := Nat.mod_lt (who + k) (show 0 < g 166 6 by omega); omega)]
    exact e _ _
  rcases fw_al (lv := G 173) hw with ⟨a1, a2, a3, a4⟩ | ⟨a1, _, _⟩
  · unfold syC
    rw [hfw, a2, hC.z6, if_pos (by omega), hf, hk _ a3, sl_eq4 (bcG_le _ _ _) hs hs16]
    have e : bcG g (bset (ft g (G 175) (G 166 9)) (g 166 0) &&& knS G (nxS (G 173) (g 166 6) who)) (x1 1) = mtS G (nxS (G 173) (g 166 6) who) := by
      funext l
      unfold bcG mtS
      rw [h.1, Nat.and_comm (bset (ft g (G 175) (G 166 9)) (g 166 0)), Nat.and_assoc, fit_pl, Nat.and_comm, fit_and, goG_eq hI, hC.ygoG]
    rw [e]
  · exact absurd ⟨who, hw, hal⟩ a1
theorem ch_eq (hg : GX g G y) (h : RX x0 x1 x2 x3 G) {who : Nat} (hw : who < g 166 6) (hal : 0 < G 173 who) : chC g x0 x1 x2 x3 who y = doS G who := by
  have hm := may_eq hg h hw
  have hs := saf_eq hg h hw
  have hm16 : maS G who < 16 := maS_lt hg.2.1 who
  have hs16 : saS G (maS G who) < 16 := saS_lt G _
  have h171 : g 171 = G 171 := (hg.2.2.2.1.zc (by omega)).symm
  have h172 : g 172 = G 172 := (hg.2.2.2.1.zc (by omega)).symm
  have h174 : g 174 = G 174 := (hg.2.2.2.1.zc (by omega)).symm
  have h8 := h.2.2.2.2
  have h9 := h.1
  have hPl := hg.1.hPl
  have hk6 := hg.2.1.hkd who (by omega)
  have hsl : saS G (maS G who) ≠ 0 → syC g x1 x3 who (ftX g x1 x2 (x1 1)) (saS G (maS G who)) = (slL (mtS G (nxS (G 173) (G 166 6) who)) (saS G (maS G who)) 4).1 := fun z => sly_eq hg h hw hal z hs16
  have hfs : saS G (maS G who) ≠ 0 → frS (saS G (maS G who)) = least (saS G (maS G who)) := fun z => frS_nz z
  have hfm : maS G who ≠ 0 → frS (maS G who) = least (maS G who) := fun z => frS_nz z
  have hld0 : G 171 who ≠ 4 → ldC g x1 x2 who y = 0 := fun z => by unfold ldC; rw [h171, if_neg z]
  unfold chC doS
  rw [hm, hs, h171, h172, h174, h8, h9]
  have hS0 : saS G (maS G who) ≠ 0 → maS G who ≠ 0 := saS_0
  have hle := fun k => led_eq hg h hw k (slS G who (maS G who) (saS G (maS G who)))
  rw [h9] at hsl
  clear hm hs
  generalize saS G (maS G who) = S at *
  generalize maS G who = M at *
  rcases (show G 171 who = 0 ∨ G 171 who = 1 ∨ G 171 who = 2 ∨ G 171 who = 3 ∨ G 171 who = 4 ∨ G 171 who = 5 ∨ G 171 who = 6 by omega) with k | k | k | k | k | k | k
  · rw [hld0 (by omega), k]
    simp only [undS, plS]
    by_cases e1 : S = 0
    · by_cases e2 : M = 0
      · simp [e1, e2]
      · simp [e1, e2, hfm e2]
    · simp [e1, hfs e1]
  · rw [hld0 (by omega), k]
    simp only [undS, slS, plS]
    by_cases e1 : S = 0
    · by_cases e2 : M = 0
      · simp [e1, e2]
      · simp [e1, e2, hfm e2]
    · simp [e1, hsl e1]
  · rw [hld0 (by omega), k]
    simp only [undS, waS, plS]
    by_cases e1 : S = 0
    · by_cases e3 : 2147483648 ≤ G 166 8
      · by_cases e2 : M = 0
        · simp [e1, e2, e3, show ¬ G 166 8 < 2147483648 by omega]
        · simp [e1, e2, e3, show ¬ G 166 8 < 2147483648 by omega, hfm e2]
      · simp [e1, e3, show G 166 8 < 2147483648 by omega]
    · simp [e1, hfs e1]
  · rw [hld0 (by omega), k]
    simp only [undS, boS, plS]
    by_cases e2 : M = 0
    · have e1 : S = 0 := Classical.byContradiction fun z => hS0 z e2
      by_cases e3 : 12 ≤ G 166 9
      · simp [e1, e2, e3, show ¬ G 166 9 < 12 by omega]
      · simp [e1, e2, e3, show G 166 9 < 12 by omega]
    · by_cases e1 : S = 0
      · simp [e1, e2, hfm e2]
      · simp [e1, e2, hfs e1]
  · have hle := hle k
    rw [k]
    unfold leS
    rw [hle]
    simp only [undS, slS, plS]
    by_cases e0 : ldC g x1 x2 who y = 0
    · by_cases e1 : S = 0
      · by_cases e2 : M = 0
        · simp [e0, e1, e2]
        · simp [e0, e1, e2, hfm e2]
      · simp [e0, e1, hsl e1]
    · simp [e0, frS_nz e0]
  · rw [hld0 (by omega), k]
    simp only [undS, waS, plS]
    by_cases e1 : S = 0
    · by_cases e3 : 2147483648 ≤ G 166 8
      · by_cases e2 : M = 0
        · simp [e1, e2, e3, show ¬ G 166 8 < 2147483648 by omega]
        · simp [e1, e2, e3, show ¬ G 166 8 < 2147483648 by omega, hfm e2]
      · simp [e1, e3, show G 166 8 < 2147483648 by omega]
    · simp [e1, hfs e1]
  · rw [hld0 (by omega), k]
    simp only [undS, boS, plS]
    cases e4 : (M).testBit (G 174 (4 * who + G 166 9 % 4)) with
    | true => simp
    | false =>
      by_cases e2 : M = 0
      · have e1 : S = 0 := Classical.byContradiction fun z => hS0 z e2
        by_cases e3 : 12 ≤ G 166 9
        · simp [e1, e2, e3, show ¬ G 166 9 < 12 by omega]
        · simp [e1, e2, e3, show G 166 9 < 12 by omega]
      · by_cases e1 : S = 0
        · simp [e1, e2, hfm e2]
        · simp [e1, e2, hfs e1]
end BOTH
