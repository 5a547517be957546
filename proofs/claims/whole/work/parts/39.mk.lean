/-! the reference: what to learn -/
def Cz (g g' : Nat → Nat → Nat) : Prop := (∀ c, c ≠ 166 → c ≠ 173 → c ≠ 187 → c ≠ 188 → g' c = g c) ∧ (∀ j, j ≠ 34 → j ≠ 36 → j ≠ 37 → j ≠ 38 → j ≠ 39 → j ≠ 42 → j ≠ 43 → g' 166 j = g 166 j) ∧ ∀ b, b < 5 → g' 173 b = g 173 b
theorem Cy.cz {a b : Nat → Nat → Nat} (h : Cy a b) : Cz a b := ⟨h.1, fun j _ h1 h2 h3 h4 h5 h6 => h.2.1 j h1 h2 h3 h4 h5 h6, h.2.2⟩
theorem Cz.s {g a b : Nat → Nat → Nat} {p i : Nat} (h : Cz g a) (k : Cy (u2 (u2 a 166 33 p) 166 34 i) b) (h33 : g 166 33 = 4294967295) : Cz g (u2 b 166 33 4294967295) := ⟨fun c h1 h2 h3 h4 => by
  have e : u2 b 166 33 4294967295 c = b c := by funext x; unfold u2; rw [if_neg h1]
  rw [e, k.1 c h1 h2 h3 h4]
  have e2 : u2 (u2 a 166 33 p) 166 34 i c = a c := by funext x; unfold u2; rw [if_neg h1, if_neg h1]
  rw [e2]; exact h.1 c h1 h2 h3 h4, fun j h1 h2 h3 h4 h5 h6 h7 => by
  by_cases e : j = 33
  · subst e; unfold u2; simp [h33]
  · have e1 : u2 b 166 33 4294967295 166 j = b 166 j := by unfold u2; simp [e]
    rw [e1, k.2.1 j h2 h3 h4 h5 h6 h7]
    have e2 : u2 (u2 a 166 33 p) 166 34 i 166 j = a 166 j := by unfold u2; simp [e, h1]
    rw [e2]; exact h.2.1 j h1 h2 h3 h4 h5 h6 h7, fun x hx => by
  show b 173 x = g 173 x
  rw [k.2.2 x hx]
  exact h.2.2 x hx⟩
theorem SmH.scz {g G : Nat → Nat → Nat} {r v : Nat → Nat} (h : SmH G r v) (k : Cz g G) : SmH g r v := ⟨h.1, fun j hj => by
  rw [h.2.1 j (by rw [k.2.1 9 (by decide) (by decide) (by decide) (by decide) (by decide) (by decide) (by decide)]; exact hj), k.1 175 (by decide) (by decide) (by decide) (by decide)], h.2.2⟩
def lrF (K m : Nat) (f : Nat → Nat) : Nat → Nat × Nat
  | 0 => (4294967291, m)
  | i + 1 => if K.testBit i = true then lrF K m f i else if f i ≤ (lrF K m f i).2 then lrF K m f i else (i, f i)
theorem lrF_le {K m : Nat} {f : Nat → Nat} : ∀ n, (lrF K m f n).1 < n ∨ (lrF K m f n).1 = 4294967291 := by
  intro n
  induction n with
  | zero => exact Or.inr rfl
  | succ n ih =>
    unfold lrF
    split
    · omega
    · split
      · omega
      · exact Or.inl (Nat.lt_succ_self _)
theorem lrF_le2 {K m : Nat} {f : Nat → Nat} (hm : m ≤ 99) : ∀ n, (∀ i, i < n → K.testBit i = false → f i ≤ 99) → (lrF K m f n).2 ≤ 99 := by
  intro n
  induction n with
  | zero => intro _; exact hm
  | succ n ih =>
    intro h
    have h1 := ih (fun i hi => h i (by omega))
    unfold lrF
    cases e : K.testBit n with
    | true => rw [if_pos rfl]; exact h1
    | false =>
      rw [if_neg (by decide)]
      split
      · exact h1
      · exact h n (Nat.lt_succ_self _) e
theorem lrF_cg {K m : Nat} {f f' : Nat → Nat} : ∀ n, (∀ k, k < n → K.testBit k = false → f k = f' k) → lrF K m f n = lrF K m f' n := by
  intro n
  induction n with
  | zero => intro _; rfl
  | succ n ih =>
    intro h
    unfold lrF
    rw [ih (fun k hk => h k (by omega))]
    cases e : K.testBit n with
    | true => rfl
    | false => rw [h n (Nat.lt_succ_self _) e]
theorem lrF_k {K m : Nat} {f : Nat → Nat} {n : Nat} (h : K.testBit n = true) : lrF K m f (n + 1) = lrF K m f n := by
  rw [lrF, if_pos h]
theorem lrF_u (K m : Nat) (f : Nat → Nat) (n x : Nat) : lrF K m (up f n x) n = lrF K m f n := lrF_cg n (fun k hk _ => by unfold up; rw [if_neg (by omega)])
theorem lrF_a {K m : Nat} {f : Nat → Nat} {n x : Nat} (h : K.testBit n = false) (h2 : x ≤ (lrF K m f n).2) : lrF K m (up f n x) (n + 1) = lrF K m f n := by
  have e : up f n x n = x := by unfold up; rw [if_pos rfl]
  rw [lrF, if_neg (by rw [h]; decide), lrF_u, e, if_pos h2]
theorem lrF_b {K m : Nat} {f : Nat → Nat} {n x : Nat} (h : K.testBit n = false) (h2 : ¬ x ≤ (lrF K m f n).2) : lrF K m (up f n x) (n + 1) = (n, x) := by
  have e : up f n x n = x := by unfold up; rw [if_pos rfl]
  rw [lrF, if_neg (by rw [h]; decide), lrF_u, e, if_neg h2]
/-- f tells what lives one has then, with a word learned, each found from a world like g -/
def lrOK (g : Nat → Nat → Nat) (p n : Nat) (f : Nat → Nat) (m : Nat) : Prop := ∀ i, i < m → (knS g p).testBit i = false → ∃ (G : Nat → Nat → Nat) (r v : Nat → Nat), Cz g G ∧ MI G ∧ SmH G r v ∧ f i = itG n (kpU (u2 (u2 G 166 33 p) 166 34 i) r) 173 p
theorem lrOK_k {g : Nat → Nat → Nat} {p n m : Nat} {f : Nat → Nat} (h : lrOK g p n f m) (hk : (knS g p).testBit m = true) : lrOK g p n f (m + 1) := fun i hi hz => by
  by_cases e : i = m
  · subst e; rw [hk] at hz; cases hz
  · exact h i (by omega) hz
theorem lrOK_s {g : Nat → Nat → Nat} {p n m : Nat} {f : Nat → Nat} (h : lrOK g p n f m) {G : Nat → Nat → Nat} {r v : Nat → Nat} (h1 : Cz g G) (h2 : MI G) (h3 : SmH G r v) : lrOK g p n (up f m (itG n (kpU (u2 (u2 G 166 33 p) 166 34 m) r) 173 p)) (m + 1) := fun i hi hz => by
  by_cases e : i = m
  · subst e
    refine ⟨G, r, v, h1, h2, h3, ?_⟩
    unfold up; rw [if_pos rfl]
  · obtain ⟨G2, r2, v2, a, b, c, dd⟩ := h i (by omega) hz
    refine ⟨G2, r2, v2, a, b, c, ?_⟩
    unfold up; rw [if_neg e]; exact dd
theorem lrOK_b {g : Nat → Nat → Nat} {p n m : Nat} {f : Nat → Nat} (h : lrOK g p n f m) (hp : p < 5) (hm : m ≤ 12) : ∀ i, i < m → (knS g p).testBit i = false → f i ≤ 99 := fun i hi hz => by
  obtain ⟨G, r, v, a, b, c, e⟩ := h i hi hz
  rw [e]
  exact (MI.mitG n ((MI.f34 (MI.f33 b (by omega)) (by omega)).mkpU r)).hli p hp
noncomputable def rs_learn (g : Nat → Nat → Nat) (r : Nat → Nat) (f : Nat → Nat) (p n : Nat) : Nat := if p < g 166 6 then (if n ≤ 60 then (lrF (knS g p) (itG n (kpU g r) 173 p) f (g 166 0)).1 else 4294967294) else 4294967295
theorem C_learn {L : Nat} {xs : Nat → Int32} (d : Nat) (g : Nat → Nat → Nat) (hl : Nat → Nat → Int64) (rt : Nat × Nat × Nat × Nat) (hI : MI g) (hK : KW g) (h33 : g 166 33 = 4294967295) (p : Nat) (n : Nat) (hp : p < 2 ^ 32) (hn : n < 2 ^ 32) (r w v : Nat → Nat) (hs : SmH g r v)  {Q : Po} (hq : ∀ (f : Nat → Nat) (g1 : Nat → Nat → Nat) (r' w' v' : Nat → Nat), Cz g g1 → MI g1 → SmH g r' v' → (p < g 166 6 → n ≤ 60 → lrOK g p n f (g 166 0)) → Q (some (.int (nI (rs_learn g r f p n)))) (HN (U g1 r' w' v') hl (RF rt))) : Ev L xs (d + 12) 206 0 [(0, .ref 166), (1, .int (nI p)), (2, .int (nI n))] [] (HN (U g r w v) hl (RF rt)) Q := by
  have hW := hI.hW
  have hS := hI.hS
  have hPl := hI.hPl
  have hNx := hI.hNx
  have hLa := hI.hLa
  have hLo := hI.hLo
  have hTb := hI.hTb
  have hTh := hI.hTh
  have hFd := hI.hFd
  have hSn := hI.hSn
  have hSh := hI.hSh
  have hRan := hI.hRan
  have hLr := hI.hLr
  have hLt := hI.hLt
  have hgl := hI.hgl
  have hsz := hI.hsz
  have hcm := hI.hcm
  have hsl := hI.hsl
  have hkd := hI.hkd
  have hvv := hI.hvv
  have hli := hI.hli
  have hro := hI.hro
  have hrw := hI.hrw
  have htx := hI.htx
  have hsw := hI.hsw
  have hsx := hI.hsx
  have hsy := hI.hsy
  have hsh := hI.hsh
  have hle := hI.hle
  have hcl := hI.hcl
  have hwd := hI.hwd
  have hnu := hI.hnu
  have hwn := hI.hwn
  have hs1 := hI.hs1
  have hso := hI.hso
  refine Ev.run 2 (pc' := 2) (lv' := [(0, .ref 166), (1, .int (nI p)), (2, .int (nI n))]) (st' := [.int (nI p), .ref 166]) (h' := HN (U g r w v) hl (RF rt)) rfl ?_
  refine Ev.call (a := 135) (as := [.ref 166, .int (nI p)]) (rest := []) (lv0 := [(0, .ref 166), (1, .int (nI p))]) (Q1 := (fun z0 h' => z0 = some (.int (nI (bn (decide (p < g 166 6))))) ∧ h' = HN (U g r w v) hl (RF rt))) rfl rfl (C_isPlayer _ (U g r w v) _ _ p (by omega) hPl ⟨rfl, rfl⟩) (fun r h' hr => ?_)
  obtain ⟨rfl, rfl⟩ := hr
  refine Ev_bn (fun hb5 => ?_) (fun hb5 => ?_)
  · have hhb5 : p < g 166 6 := of_decide_eq_true hb5
    refine Ev.run 5 (pc' := 15) (lv' := [(0, .ref 166), (1, .int (nI p)), (2, .int (nI n))]) (st' := [.int (nI 60), .int (nI 0), .int (nI n), .ref 166]) (h' := HN (U g r w v) hl (RF rt)) rfl ?_
    refine Ev.call (a := 126) (as := [.ref 166, .int (nI n), .int (nI 0), .int (nI 60)]) (rest := []) (lv0 := [(0, .ref 166), (1, .int (nI n)), (2, .int (nI 0)), (3, .int (nI 60))]) (Q1 := (fun z0 h' => z0 = some (.int (nI (bn (decide (n ≤ 60))))) ∧ h' = HN (U g r w v) hl (RF rt))) rfl rfl (C_in _ _ _ _ (nI n) (nI 0) (nI 60) (by rw [in0 (by omega) (by omega)]; exact ⟨rfl, rfl⟩)) (fun r h' hr => ?_)
    obtain ⟨rfl, rfl⟩ := hr
    refine Ev_bn (fun hb18 => ?_) (fun hb18 => ?_)
    · have hhb18 : n ≤ 60 := of_decide_eq_true hb18
      refine Ev.run 4 (pc' := 27) (lv' := [(0, .ref 166), (1, .int (nI p)), (2, .int (nI n))]) (st' := [.int (nI n), .int (nI p), .ref 166]) (h' := HN (U g r w v) hl (RF rt)) rfl ?_
      refine Ev.call (a := 205) (as := [.ref 166, .int (nI p), .int (nI n)]) (rest := []) (lv0 := [(0, .ref 166), (1, .int (nI p)), (2, .int (nI n))]) (Q1 := (fun z0 h' => ∃ g1 r1 w1 v1, Cy g g1 ∧ SmH g r1 v1 ∧ z0 = some (.int (nI (itG n (kpU g r) 173 p))) ∧ h' = HN (U g1 r1 w1 v1) hl (RF rt))) rfl rfl (C_livesThen _ _ _ _ hI hK p n (by omega) (by omega) r w v hs (fun g1 r w v h1 h2 => ⟨g1, r, w, v, h1, h2, rfl, rfl⟩)) (fun r h' hr => ?_)
      obtain ⟨G100, r100, w100, v100, hcy100, hsm100, rfl, rfl⟩ := hr
      have hI100 := MI.mcy hI hcy100
      have hs100 := hsm100.scy hcy100
      have hK100 := KW.cx hcy100.cx hK
      have hlv100 := (MI.mitG n (MI.mkpU hI r)).hli p (by omega)
      refine Ev.run 3 (pc' := 33) (lv' := [(3, .int (nI (itG n (kpU g r) 173 p))), (0, .ref 166), (1, .int (nI p)), (2, .int (nI n))]) (st' := [.int (nI p), .ref 166]) (h' := HN (U G100 r100 w100 v100) hl (RF rt)) rfl ?_
      refine Ev.call (a := 162) (as := [.ref 166, .int (nI p)]) (rest := []) (lv0 := [(0, .ref 166), (1, .int (nI p))]) (Q1 := (fun z0 h' => ∃ r1 w1 v1, SmH G100 r1 v1 ∧ z0 = some (.int (nI (knS G100 p))) ∧ h' = HN (U G100 r1 w1 v1) hl (RF rt))) rfl rfl (C_knownOf _ _ _ _ hI100 hK100 p (by omega)  r100 w100 v100 hs100 (fun r w v h => ⟨r, w, v, h, rfl, rfl⟩)) (fun r h' hr => ?_)
      obtain ⟨r101, w101, v101, hs101, rfl, rfl⟩ := hr
      rw [hcy100.cx.xknS]
      have hkn := knS_lt hI p
      refine Ev.run 5 (pc' := 45) (lv' := [(6, .int (nI 0)), (5, .int (nI 4294967291)), (4, .int (nI (knS g p))), (3, .int (nI (itG n (kpU g r) 173 p))), (0, .ref 166), (1, .int (nI p)), (2, .int (nI n))]) (st' := []) (h' := HN (U G100 r101 w101 v101) hl (RF rt)) rfl ?_
      refine for_ind (g 166 0) (fun i => ∀ (f : Nat → Nat) (G : Nat → Nat → Nat) (rG wG vG : Nat → Nat), MI G → KW G → SmH G rG vG → Cz g G → lrOK g p n f i → Ev L xs (d + 12) 206 45 [(6, .int (nI i)), (5, .int (nI ((lrF (knS g p) (itG n (kpU g r) 173 p) f i).1))), (4, .int (nI (knS g p))), (3, .int (nI ((lrF (knS g p) (itG n (kpU g r) 173 p) f i).2))), (0, .ref 166), (1, .int (nI p)), (2, .int (nI n))] [] (HN (U G rG wG vG) hl (RF rt)) Q) (fun i hi hnext => ?_) 0 (Nat.zero_le _) (fun _ => 0) G100 r101 w101 v101 hI100 hK100 hs101 hcy100.cz (fun l hl => absurd hl (Nat.not_lt_zero _))
      intro f G rG wG vG hIG hKG hsG hczG hf
      have hl1 := lrF_le (K := knS g p) (m := (itG n (kpU g r) 173 p)) (f := f) i
      have hl2 := lrF_le2 (K := knS g p) (m := (itG n (kpU g r) 173 p)) (f := f) ((MI.mitG n (hI.mkpU r)).hli p (by omega)) i (lrOK_b hf (by omega) (by omega))
      have h0G : G 166 0 = g 166 0 := hczG.2.1 0 (by decide) (by decide) (by decide) (by decide) (by decide) (by decide) (by decide)
      have h33G : G 166 33 = 4294967295 := by rw [hczG.2.1 33 (by decide) (by decide) (by decide) (by decide) (by decide) (by decide) (by decide)]; exact h33
      refine Ev.run 4 (pc' := (if nI (G 166 0) ≤ nI i then 114 else 54)) (lv' := [(6, .int (nI i)), (5, .int (nI ((lrF (knS g p) (itG n (kpU g r) 173 p) f i).1))), (4, .int (nI (knS g p))), (3, .int (nI ((lrF (knS g p) (itG n (kpU g r) 173 p) f i).2))), (0, .ref 166), (1, .int (nI p)), (2, .int (nI n))]) (st' := []) (h' := HN (U G rG wG vG) hl (RF rt)) rfl ?_
      refine Ev.ite (fun hc51 => ?_) (fun hc51 => ?_)
      · have hc51 : (G 166 0) ≤ i := (nI_leI (by omega) (by omega)).mp hc51
        refine Ev.run 1 (pc' := 116) (lv' := [(6, .int (nI i)), (5, .int (nI ((lrF (knS g p) (itG n (kpU g r) 173 p) f i).1))), (4, .int (nI (knS g p))), (3, .int (nI ((lrF (knS g p) (itG n (kpU g r) 173 p) f i).2))), (0, .ref 166), (1, .int (nI p)), (2, .int (nI n))]) (st' := [.int (nI ((lrF (knS g p) (itG n (kpU g r) 173 p) f i).1))]) (h' := HN (U G rG wG vG) hl (RF rt)) rfl ?_
        refine Ev.ret (v := some (.int (nI ((lrF (knS g p) (itG n (kpU g r) 173 p) f i).1)))) rfl ?_
        have hi0 : i = g 166 0 := by omega
        have hx := hq f G rG wG vG hczG hIG (hsG.scz hczG) (fun _ _ => by rw [← hi0]; exact hf)
        unfold rs_learn at hx
        rw [if_pos (by omega), if_pos (by omega), ← hi0] at hx
        exact hx
      · have hc51 : ¬ ((G 166 0) ≤ i) := fun z => hc51 ((nI_leI (by omega) (by omega)).mpr z)
        refine Ev.run 3 (pc' := 59) (lv' := [(6, .int (nI i)), (5, .int (nI ((lrF (knS g p) (itG n (kpU g r) 173 p) f i).1))), (4, .int (nI (knS g p))), (3, .int (nI ((lrF (knS g p) (itG n (kpU g r) 173 p) f i).2))), (0, .ref 166), (1, .int (nI p)), (2, .int (nI n))]) (st' := [.int (nI i), .int (nI (knS g p)), .ref 166]) (h' := HN (U G rG wG vG) hl (RF rt)) rfl ?_
        refine Ev.call (a := 127) (as := [.ref 166, .int (nI (knS g p)), .int (nI i)]) (rest := []) (lv0 := [(0, .ref 166), (1, .int (nI (knS g p))), (2, .int (nI i))]) (Q1 := (fun z0 h' => z0 = some (.int (nI (bn (Nat.testBit (knS g p) i)))) ∧ h' = HN (U G rG wG vG) hl (RF rt))) rfl rfl (C_isIn _ _ _ _ (knS g p) i (by omega) (by omega) ⟨rfl, rfl⟩) (fun r h' hr => ?_)
        obtain ⟨rfl, rfl⟩ := hr
        refine Ev_bn (fun hb62 => ?_) (fun hb62 => ?_)
        · skip
          refine Ev.run 3 (pc' := 111) (lv' := [(6, .int (nI i + 1)), (5, .int (nI ((lrF (knS g p) (itG n (kpU g r) 173 p) f i).1))), (4, .int (nI (knS g p))), (3, .int (nI ((lrF (knS g p) (itG n (kpU g r) 173 p) f i).2))), (0, .ref 166), (1, .int (nI p)), (2, .int (nI n))]) (st' := []) (h' := HN (U G rG wG vG) hl (RF rt)) rfl ?_
          refine Ev.lvE (congrArg (fun z => (6, Value.int z) :: [(5, .int (nI ((lrF (knS g p) (itG n (kpU g r) 173 p) f i).1))), (4, .int (nI (knS g p))), (3, .int (nI ((lrF (knS g p) (itG n (kpU g r) 173 p) f i).2))), (0, .ref 166), (1, .int (nI p)), (2, .int (nI n))]) (nI_1 _)) ?_
          refine Ev.run 1 (pc' := 45) (lv' := [(6, .int (nI (i + 1))), (5, .int (nI ((lrF (knS g p) (itG n (kpU g r) 173 p) f i).1))), (4, .int (nI (knS g p))), (3, .int (nI ((lrF (knS g p) (itG n (kpU g r) 173 p) f i).2))), (0, .ref 166), (1, .int (nI p)), (2, .int (nI n))]) (st' := []) (h' := HN (U G rG wG vG) hl (RF rt)) rfl ?_
          have hx := hnext (by omega) f G rG wG vG hIG hKG hsG hczG (lrOK_k hf hb62)
          rw [lrF_k hb62] at hx
          exact Ev.wk (Ext.cons rfl rfl (Ext.cons rfl rfl (Ext.cons rfl rfl (Ext.cons rfl rfl (Ext.cons rfl rfl (Ext.cons rfl rfl (Ext.cons rfl rfl (Ext.nil rfl)))))))) hx
        · skip
          refine Ev.run 4 (pc' := 73) (lv' := [(6, .int (nI i)), (5, .int (nI ((lrF (knS g p) (itG n (kpU g r) 173 p) f i).1))), (4, .int (nI (knS g p))), (3, .int (nI ((lrF (knS g p) (itG n (kpU g r) 173 p) f i).2))), (0, .ref 166), (1, .int (nI p)), (2, .int (nI n))]) (st' := []) (h' := setI (HN (U G rG wG vG) hl (RF rt)) 166 33 (nI p)) rfl ?_
          refine Ev.hp (HN_set _ _ _ _ _ _) ?_
          refine Ev.hp (congrArg (fun z => HN z hl (RF rt)) (U_u166 _ _ _ _ _ _)) ?_
          have hI102 := MI.f33 (x := p) hIG (by omega)
          have hK103 : KW (u2 G 166 33 p) := hKG
          have hs104 : SmH (u2 G 166 33 p) rG vG := hsG
          refine Ev.run 3 (pc' := 79) (lv' := [(6, .int (nI i)), (5, .int (nI ((lrF (knS g p) (itG n (kpU g r) 173 p) f i).1))), (4, .int (nI (knS g p))), (3, .int (nI ((lrF (knS g p) (itG n (kpU g r) 173 p) f i).2))), (0, .ref 166), (1, .int (nI p)), (2, .int (nI n))]) (st' := []) (h' := setI (HN (U (u2 G 166 33 p) rG wG vG) hl (RF rt)) 166 34 (nI i)) rfl ?_
          refine Ev.hp (HN_set _ _ _ _ _ _) ?_
          refine Ev.hp (congrArg (fun z => HN z hl (RF rt)) (U_u166 _ _ _ _ _ _)) ?_
          have hI105 := MI.f34 (x := i) hI102 (by omega)
          have hK106 : KW (u2 (u2 G 166 33 p) 166 34 i) := hK103
          have hs107 : SmH (u2 (u2 G 166 33 p) 166 34 i) rG vG := hs104
          refine Ev.run 3 (pc' := 82) (lv' := [(6, .int (nI i)), (5, .int (nI ((lrF (knS g p) (itG n (kpU g r) 173 p) f i).1))), (4, .int (nI (knS g p))), (3, .int (nI ((lrF (knS g p) (itG n (kpU g r) 173 p) f i).2))), (0, .ref 166), (1, .int (nI p)), (2, .int (nI n))]) (st' := [.int (nI n), .int (nI p), .ref 166]) (h' := HN (U (u2 (u2 G 166 33 p) 166 34 i) rG wG vG) hl (RF rt)) rfl ?_
          refine Ev.call (a := 205) (as := [.ref 166, .int (nI p), .int (nI n)]) (rest := []) (lv0 := [(0, .ref 166), (1, .int (nI p)), (2, .int (nI n))]) (Q1 := (fun z0 h' => ∃ g1 r1 w1 v1, Cy (u2 (u2 G 166 33 p) 166 34 i) g1 ∧ SmH (u2 (u2 G 166 33 p) 166 34 i) r1 v1 ∧ z0 = some (.int (nI (itG n (kpU (u2 (u2 G 166 33 p) 166 34 i) rG) 173 p))) ∧ h' = HN (U g1 r1 w1 v1) hl (RF rt))) rfl rfl (C_livesThen _ _ _ _ hI105 hK106 p n (by omega) (by omega) rG wG vG hs107 (fun g1 r w v h1 h2 => ⟨g1, r, w, v, h1, h2, rfl, rfl⟩)) (fun r h' hr => ?_)
          obtain ⟨G108, r108, w108, v108, hcy108, hsm108, rfl, rfl⟩ := hr
          have hI108 := MI.mcy hI105 hcy108
          have hs108 := hsm108.scy hcy108
          have hK108 := KW.cx hcy108.cx hK106
          have hlv108 := (MI.mitG n (MI.mkpU hI105 rG)).hli p (by omega)
          refine Ev.run 4 (pc' := 92) (lv' := [(7, .int (nI (itG n (kpU (u2 (u2 G 166 33 p) 166 34 i) rG) 173 p))), (6, .int (nI i)), (5, .int (nI ((lrF (knS g p) (itG n (kpU g r) 173 p) f i).1))), (4, .int (nI (knS g p))), (3, .int (nI ((lrF (knS g p) (itG n (kpU g r) 173 p) f i).2))), (0, .ref 166), (1, .int (nI p)), (2, .int (nI n))]) (st' := []) (h' := setI (HN (U G108 r108 w108 v108) hl (RF rt)) 166 33 (nI 4294967295)) rfl ?_
          refine Ev.hp (HN_set _ _ _ _ _ _) ?_
          refine Ev.hp (congrArg (fun z => HN z hl (RF rt)) (U_u166 _ _ _ _ _ _)) ?_
          have hI109 := MI.f33 (x := 4294967295) hI108 (by omega)
          have hK110 : KW (u2 G108 166 33 4294967295) := hK108
          have hs111 : SmH (u2 G108 166 33 4294967295) r108 v108 := hs108
          refine Ev.run 3 (pc' := (if nI ((lrF (knS g p) (itG n (kpU g r) 173 p) f i).2) < nI (itG n (kpU (u2 (u2 G 166 33 p) 166 34 i) rG) 173 p) then 101 else 98)) (lv' := [(7, .int (nI (itG n (kpU (u2 (u2 G 166 33 p) 166 34 i) rG) 173 p))), (6, .int (nI i)), (5, .int (nI ((lrF (knS g p) (itG n (kpU g r) 173 p) f i).1))), (4, .int (nI (knS g p))), (3, .int (nI ((lrF (knS g p) (itG n (kpU g r) 173 p) f i).2))), (0, .ref 166), (1, .int (nI p)), (2, .int (nI n))]) (st' := []) (h' := HN (U (u2 G108 166 33 4294967295) r108 w108 v108) hl (RF rt)) rfl ?_
          refine Ev.ite (fun hc95 => ?_) (fun hc95 => ?_)
          · have hc95 : ((lrF (knS g p) (itG n (kpU g r) 173 p) f i).2) < (itG n (kpU (u2 (u2 G 166 33 p) 166 34 i) rG) 173 p) := (nI_ltI (by omega) (by omega)).mp hc95
            refine Ev.run 5 (pc' := 111) (lv' := [(6, .int (nI i + 1)), (3, .int (nI (itG n (kpU (u2 (u2 G 166 33 p) 166 34 i) rG) 173 p))), (5, .int (nI i)), (7, .int (nI (itG n (kpU (u2 (u2 G 166 33 p) 166 34 i) rG) 173 p))), (4, .int (nI (knS g p))), (0, .ref 166), (1, .int (nI p)), (2, .int (nI n))]) (st' := []) (h' := HN (U (u2 G108 166 33 4294967295) r108 w108 v108) hl (RF rt)) rfl ?_
            refine Ev.lvE (congrArg (fun z => (6, Value.int z) :: [(3, .int (nI (itG n (kpU (u2 (u2 G 166 33 p) 166 34 i) rG) 173 p))), (5, .int (nI i)), (7, .int (nI (itG n (kpU (u2 (u2 G 166 33 p) 166 34 i) rG) 173 p))), (4, .int (nI (knS g p))), (0, .ref 166), (1, .int (nI p)), (2, .int (nI n))]) (nI_1 _)) ?_
            refine Ev.run 1 (pc' := 45) (lv' := [(6, .int (nI (i + 1))), (3, .int (nI (itG n (kpU (u2 (u2 G 166 33 p) 166 34 i) rG) 173 p))), (5, .int (nI i)), (7, .int (nI (itG n (kpU (u2 (u2 G 166 33 p) 166 34 i) rG) 173 p))), (4, .int (nI (knS g p))), (0, .ref 166), (1, .int (nI p)), (2, .int (nI n))]) (st' := []) (h' := HN (U (u2 G108 166 33 4294967295) r108 w108 v108) hl (RF rt)) rfl ?_
            have hx := hnext (by omega) (up f i (itG n (kpU (u2 (u2 G 166 33 p) 166 34 i) rG) 173 p)) (u2 G108 166 33 4294967295) r108 w108 v108 hI109 hK110 hs111 (hczG.s hcy108 h33) (lrOK_s hf hczG hIG hsG)
            rw [lrF_b hb62 (by omega)] at hx
            exact Ev.wk (Ext.cons rfl rfl (Ext.cons rfl rfl (Ext.cons rfl rfl (Ext.cons rfl rfl (Ext.cons rfl rfl (Ext.cons rfl rfl (Ext.cons rfl rfl (Ext.nil rfl)))))))) hx
          · have hc95 : ¬ (((lrF (knS g p) (itG n (kpU g r) 173 p) f i).2) < (itG n (kpU (u2 (u2 G 166 33 p) 166 34 i) rG) 173 p)) := fun z => hc95 ((nI_ltI (by omega) (by omega)).mpr z)
            refine Ev.run 2 (pc' := 111) (lv' := [(6, .int (nI i + 1)), (7, .int (nI (itG n (kpU (u2 (u2 G 166 33 p) 166 34 i) rG) 173 p))), (5, .int (nI ((lrF (knS g p) (itG n (kpU g r) 173 p) f i).1))), (4, .int (nI (knS g p))), (3, .int (nI ((lrF (knS g p) (itG n (kpU g r) 173 p) f i).2))), (0, .ref 166), (1, .int (nI p)), (2, .int (nI n))]) (st' := []) (h' := HN (U (u2 G108 166 33 4294967295) r108 w108 v108) hl (RF rt)) rfl ?_
            refine Ev.lvE (congrArg (fun z => (6, Value.int z) :: [(7, .int (nI (itG n (kpU (u2 (u2 G 166 33 p) 166 34 i) rG) 173 p))), (5, .int (nI ((lrF (knS g p) (itG n (kpU g r) 173 p) f i).1))), (4, .int (nI (knS g p))), (3, .int (nI ((lrF (knS g p) (itG n (kpU g r) 173 p) f i).2))), (0, .ref 166), (1, .int (nI p)), (2, .int (nI n))]) (nI_1 _)) ?_
            refine Ev.run 1 (pc' := 45) (lv' := [(6, .int (nI (i + 1))), (7, .int (nI (itG n (kpU (u2 (u2 G 166 33 p) 166 34 i) rG) 173 p))), (5, .int (nI ((lrF (knS g p) (itG n (kpU g r) 173 p) f i).1))), (4, .int (nI (knS g p))), (3, .int (nI ((lrF (knS g p) (itG n (kpU g r) 173 p) f i).2))), (0, .ref 166), (1, .int (nI p)), (2, .int (nI n))]) (st' := []) (h' := HN (U (u2 G108 166 33 4294967295) r108 w108 v108) hl (RF rt)) rfl ?_
            have hx := hnext (by omega) (up f i (itG n (kpU (u2 (u2 G 166 33 p) 166 34 i) rG) 173 p)) (u2 G108 166 33 4294967295) r108 w108 v108 hI109 hK110 hs111 (hczG.s hcy108 h33) (lrOK_s hf hczG hIG hsG)
            rw [lrF_a hb62 (by omega)] at hx
            exact Ev.wk (Ext.cons rfl rfl (Ext.cons rfl rfl (Ext.cons rfl rfl (Ext.cons rfl rfl (Ext.cons rfl rfl (Ext.cons rfl rfl (Ext.cons rfl rfl (Ext.nil rfl)))))))) hx
    · have hhb18 : ¬ (n ≤ 60) := of_decide_eq_false hb18
      refine Ev.run 2 (pc' := 23) (lv' := [(0, .ref 166), (1, .int (nI p)), (2, .int (nI n))]) (st' := [.int (nI 4294967294)]) (h' := HN (U g r w v) hl (RF rt)) rfl ?_
      refine Ev.ret (v := some (.int (nI 4294967294))) rfl ?_
      have hv : rs_learn g r (fun _ => 0) p n = 4294967294 := by unfold rs_learn; rw [if_pos (by omega), if_neg (by omega)]
      have hx := hq (fun _ => 0) g r w v (Cy.refl g).cz hI hs (fun z1 z2 => by exfalso; omega)
      rw [hv] at hx
      exact hx
  · have hhb5 : ¬ (p < g 166 6) := of_decide_eq_false hb5
    refine Ev.run 2 (pc' := 9) (lv' := [(0, .ref 166), (1, .int (nI p)), (2, .int (nI n))]) (st' := [.int (nI 4294967295)]) (h' := HN (U g r w v) hl (RF rt)) rfl ?_
    refine Ev.ret (v := some (.int (nI 4294967295))) rfl ?_
    have hv : rs_learn g r (fun _ => 0) p n = 4294967295 := by unfold rs_learn; rw [if_neg (by omega)]
    have hx := hq (fun _ => 0) g r w v (Cy.refl g).cz hI hs (fun z1 z2 => by exfalso; omega)
    rw [hv] at hx
    exact hx
