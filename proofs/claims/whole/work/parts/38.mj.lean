/-! the reference: odds, what to learn, who has what -/
/-- the chances, told letter by letter out of what they were found from -/
def odC (f : Nat → Nat) (p : Nat) : Nat → Nat
  | 0 => 0
  | n + 1 => odC f p n + (if f n = p then 1 else 0)
theorem odC_le (f : Nat → Nat) (p : Nat) : ∀ n, odC f p n ≤ n := by
  intro n
  induction n with
  | zero => exact Nat.le_refl _
  | succ n ih =>
    show odC f p n + (if f n = p then 1 else 0) ≤ n + 1
    split <;> omega
theorem odC_cg {f f' : Nat → Nat} (p : Nat) : ∀ n, (∀ k, k < n → f k = f' k) → odC f p n = odC f' p n := by
  intro n
  induction n with
  | zero => intro _; rfl
  | succ n ih =>
    intro h
    show odC f p n + (if f n = p then 1 else 0) = odC f' p n + (if f' n = p then 1 else 0)
    rw [ih (fun k hk => h k (by omega)), h n (Nat.lt_succ_self _)]
/-- f tells who loses first by a letter, each found from a world like g -/
def odF (g : Nat → Nat → Nat) (f : Nat → Nat) (n : Nat) : Prop := ∀ l, l < n → ∃ (G : Nat → Nat → Nat) (r v : Nat → Nat), Cy g G ∧ MI G ∧ SmH G r v ∧ f l = (flS G r l).1
theorem odF_s {g : Nat → Nat → Nat} {f : Nat → Nat} {n : Nat} (h : odF g f n) {G : Nat → Nat → Nat} {r v : Nat → Nat} (h1 : Cy g G) (h2 : MI G) (h3 : SmH G r v) : odF g (up f n (flS G r n).1) (n + 1) := fun l hl => by
  by_cases e : l = n
  · subst e
    refine ⟨G, r, v, h1, h2, h3, ?_⟩
    unfold up; rw [if_pos rfl]
  · obtain ⟨G2, r2, v2, a, b, c, dd⟩ := h l (by omega)
    refine ⟨G2, r2, v2, a, b, c, ?_⟩
    unfold up; rw [if_neg e]; exact dd
theorem odC_up (f : Nat → Nat) (p n x : Nat) : odC (up f n x) p n = odC f p n := odC_cg p n (fun k hk => by unfold up; rw [if_neg (by omega)])
theorem odC_s (f : Nat → Nat) (p n x : Nat) : odC (up f n x) p (n + 1) = odC f p n + (if x = p then 1 else 0) := by
  show odC (up f n x) p n + (if up f n x n = p then 1 else 0) = _
  rw [odC_up]
  unfold up; rw [if_pos rfl]
noncomputable def rs_odds (g : Nat → Nat → Nat) (f : Nat → Nat) (p part : Nat) : Nat := if p < g 166 6 then (if part ≤ 1 then (if alS g = 0 then 9223372036854775808 else if g 166 9 = 12 then 9223372036854775808 else lwS1 (odC f p 4) 4 part) else 9223372036854775808) else 9223372036854775808
theorem flF_le {t : Nat} : ∀ f j G, MI G → tOK G (tj t j) → t = 4294967295 ∨ t ≤ 3 → (flF t f j G).1 ≤ 4 ∨ (flF t f j G).1 = 4294967291 := by
  intro f
  induction f with
  | zero => intro j G _ _ _; exact Or.inr rfl
  | succ f ih =>
    intro j G h ht h3
    unfold flF
    split
    · exact Or.inr rfl
    · split
      · rename_i z
        have := plG_36 h (tj t j)
        exact Or.inl (show plG G (tj t j) 166 36 ≤ 4 by omega)
      · exact ih (j + 1) _ (h.mplG ht) (by unfold tj; rw [if_neg (Nat.succ_ne_zero j)]; exact tOK_n _) h3
theorem C_odds {L : Nat} {xs : Nat → Int32} (d : Nat) (g : Nat → Nat → Nat) (hl : Nat → Nat → Int64) (rt : Nat × Nat × Nat × Nat) (hI : MI g) (hK : KW g) (p : Nat) (part : Nat) (hp : p < 2 ^ 32) (hpart : part < 2 ^ 32) (r w v : Nat → Nat) (hs : SmH g r v)  {Q : Po} (hq : ∀ (f : Nat → Nat) (g1 : Nat → Nat → Nat) (r' w' v' : Nat → Nat), Cy g g1 → SmH g r' v' → (p < g 166 6 → part ≤ 1 → ¬ alS g = 0 → ¬ g 166 9 = 12 → odF g f 4) → Q (some (.long (Int64.ofNat (rs_odds g f p part)))) (HN (U g1 r' w' v') hl (RF rt))) : Ev L xs (d + 12) 216 0 [(0, .ref 166), (1, .int (nI p)), (2, .int (nI part))] [] (HN (U g r w v) hl (RF rt)) Q := by
  have hW := hI.hW
  have hS := hI.hS
  have hPl := hI.hPl
  have hNx := hI.hNx
  have hLa := hI.hLa
  have hLo := hI.hLo
  have hTb := hI.hTb
  have hTh := hI.hTh
  have hFd := hI.hFd
  have hSn := hI.hSn
  have hSh := hI.hSh
  have hRan := hI.hRan
  have hLr := hI.hLr
  have hLt := hI.hLt
  have hgl := hI.hgl
  have hsz := hI.hsz
  have hcm := hI.hcm
  have hsl := hI.hsl
  have hkd := hI.hkd
  have hvv := hI.hvv
  have hli := hI.hli
  have hro := hI.hro
  have hrw := hI.hrw
  have htx := hI.htx
  have hsw := hI.hsw
  have hsx := hI.hsx
  have hsy := hI.hsy
  have hsh := hI.hsh
  have hle := hI.hle
  have hcl := hI.hcl
  have hwd := hI.hwd
  have hnu := hI.hnu
  have hwn := hI.hwn
  have hs1 := hI.hs1
  have hso := hI.hso
  refine Ev.run 2 (pc' := 2) (lv' := [(0, .ref 166), (1, .int (nI p)), (2, .int (nI part))]) (st' := [.int (nI p), .ref 166]) (h' := HN (U g r w v) hl (RF rt)) rfl ?_
  refine Ev.call (a := 135) (as := [.ref 166, .int (nI p)]) (rest := []) (lv0 := [(0, .ref 166), (1, .int (nI p))]) (Q1 := (fun z0 h' => z0 = some (.int (nI (bn (decide (p < g 166 6))))) ∧ h' = HN (U g r w v) hl (RF rt))) rfl rfl (C_isPlayer _ (U g r w v) _ _ p (by omega) hPl ⟨rfl, rfl⟩) (fun r h' hr => ?_)
  obtain ⟨rfl, rfl⟩ := hr
  refine Ev_bn (fun hb5 => ?_) (fun hb5 => ?_)
  · have hhb5 : p < g 166 6 := of_decide_eq_true hb5
    refine Ev.run 5 (pc' := 12) (lv' := [(0, .ref 166), (1, .int (nI p)), (2, .int (nI part))]) (st' := [.int (nI 1), .int (nI 0), .int (nI part), .ref 166]) (h' := HN (U g r w v) hl (RF rt)) rfl ?_
    refine Ev.call (a := 126) (as := [.ref 166, .int (nI part), .int (nI 0), .int (nI 1)]) (rest := []) (lv0 := [(0, .ref 166), (1, .int (nI part)), (2, .int (nI 0)), (3, .int (nI 1))]) (Q1 := (fun z0 h' => z0 = some (.int (nI (bn (decide (part ≤ 1))))) ∧ h' = HN (U g r w v) hl (RF rt))) rfl rfl (C_in _ _ _ _ (nI part) (nI 0) (nI 1) (by rw [in0 (by omega) (by omega)]; exact ⟨rfl, rfl⟩)) (fun r h' hr => ?_)
    obtain ⟨rfl, rfl⟩ := hr
    refine Ev_bn (fun hb15 => ?_) (fun hb15 => ?_)
    · have hhb15 : part ≤ 1 := of_decide_eq_true hb15
      refine Ev.run 2 (pc' := 19) (lv' := [(0, .ref 166), (1, .int (nI p)), (2, .int (nI part))]) (st' := [.ref 166]) (h' := HN (U g r w v) hl (RF rt)) rfl ?_
      refine Ev.call (a := 178) (as := [.ref 166]) (rest := []) (lv0 := [(0, .ref 166)]) (Q1 := (fun z0 h' => z0 = some (.int (nI (alS g))) ∧ h' = HN (U g r w v) hl (RF rt))) rfl rfl (C_aliveSet _ _ _ _ (hI.mU hs) ⟨rfl, rfl⟩) (fun r h' hr => ?_)
      obtain ⟨rfl, rfl⟩ := hr
      have has := alS_lt hI
      refine Ev.run 1 (pc' := (if nI (alS g) = 0 then 34 else 25)) (lv' := [(0, .ref 166), (1, .int (nI p)), (2, .int (nI part))]) (st' := []) (h' := HN (U g r w v) hl (RF rt)) rfl ?_
      refine Ev.ite (fun hc22 => ?_) (fun hc22 => ?_)
      · have hc22 : (alS g) = 0 := (nI_eqU0 (by omega)).mp hc22
        refine Ev.run 1 (pc' := 37) (lv' := [(0, .ref 166), (1, .int (nI p)), (2, .int (nI part))]) (st' := [.long (Int64.ofNat 9223372036854775808)]) (h' := HN (U g r w v) hl (RF rt)) rfl ?_
        refine Ev.ret (v := some (.long (Int64.ofNat 9223372036854775808))) rfl ?_
        have hv : rs_odds g (fun _ => 0) p part = 9223372036854775808 := by
          unfold rs_odds
          first
            | rw [if_neg (by omega)]
            | rw [if_pos (by omega), if_neg (by omega)]
            | rw [if_pos (by omega), if_pos (by omega), if_pos (by omega)]
            | rw [if_pos (by omega), if_pos (by omega), if_neg (by omega), if_pos (by omega)]
        have hx := hq (fun _ => 0) g r w v (Cy.refl g) hs (fun z1 z2 z3 z4 => by exfalso; omega)
        rw [hv] at hx
        exact hx
      · have hc22 : ¬ ((alS g) = 0) := fun z => hc22 ((nI_eqU0 (by omega)).mpr z)
        refine Ev.run 4 (pc' := (if nI (g 166 9) = nI 12 then 34 else 38)) (lv' := [(0, .ref 166), (1, .int (nI p)), (2, .int (nI part))]) (st' := []) (h' := HN (U g r w v) hl (RF rt)) rfl ?_
        refine Ev.ite (fun hc31 => ?_) (fun hc31 => ?_)
        · have hc31 : (g 166 9) = 12 := (nI_eqU (by omega) (by omega)).mp hc31
          refine Ev.run 1 (pc' := 37) (lv' := [(0, .ref 166), (1, .int (nI p)), (2, .int (nI part))]) (st' := [.long (Int64.ofNat 9223372036854775808)]) (h' := HN (U g r w v) hl (RF rt)) rfl ?_
          refine Ev.ret (v := some (.long (Int64.ofNat 9223372036854775808))) rfl ?_
          have hv : rs_odds g (fun _ => 0) p part = 9223372036854775808 := by
            unfold rs_odds
            first
              | rw [if_neg (by omega)]
              | rw [if_pos (by omega), if_neg (by omega)]
              | rw [if_pos (by omega), if_pos (by omega), if_pos (by omega)]
              | rw [if_pos (by omega), if_pos (by omega), if_neg (by omega), if_pos (by omega)]
          have hx := hq (fun _ => 0) g r w v (Cy.refl g) hs (fun z1 z2 z3 z4 => by exfalso; omega)
          rw [hv] at hx
          exact hx
        · have hc31 : ¬ ((g 166 9) = 12) := fun z => hc31 ((nI_eqU (by omega) (by omega)).mpr z)
          refine Ev.run 4 (pc' := 43) (lv' := [(4, .int (nI 0)), (3, .int (nI 0)), (0, .ref 166), (1, .int (nI p)), (2, .int (nI part))]) (st' := []) (h' := HN (U g r w v) hl (RF rt)) rfl ?_
          refine for_ind 4 (fun k => ∀ (f : Nat → Nat) (G : Nat → Nat → Nat) (rG wG vG : Nat → Nat), MI G → KW G → SmH G rG vG → Cy g G → odF g f k → Ev L xs (d + 12) 216 43 [(4, .int (nI k)), (3, .int (nI (odC f p k))), (0, .ref 166), (1, .int (nI p)), (2, .int (nI part))] [] (HN (U G rG wG vG) hl (RF rt)) Q) (fun k hk hnext => ?_) 0 (Nat.zero_le _) (fun _ => 0) g r w v hI hK hs (Cy.refl g) (fun l hl => absurd hl (Nat.not_lt_zero _))
          intro f G rG wG vG hIG hKG hsG hcyG hf
          have hoc := odC_le f p k
          have h9G : G 166 9 = g 166 9 := hcyG.2.1 9 (by decide) (by decide) (by decide) (by decide) (by decide) (by decide)
          have hLoG := hIG.hLo
          have hflk : k ≤ 3 → (flS G rG k).1 ≤ 4 ∨ (flS G rG k).1 = 4294967291 := fun z => flF_le 60 0 _ (MI.f43 (MI.f42 (hIG.mkpU rG))) (Or.inr ⟨z, by show G 166 9 < 12; omega⟩) (Or.inr z)
          refine Ev.run 3 (pc' := (if nI 4 ≤ nI k then 73 else 49)) (lv' := [(4, .int (nI k)), (3, .int (nI (odC f p k))), (0, .ref 166), (1, .int (nI p)), (2, .int (nI part))]) (st' := []) (h' := HN (U G rG wG vG) hl (RF rt)) rfl ?_
          refine Ev.ite (fun hc46 => ?_) (fun hc46 => ?_)
          · have hc46 : 4 ≤ k := (nI_leI (by omega) (by omega)).mp hc46
            refine Ev.run 4 (pc' := 77) (lv' := [(4, .int (nI k)), (3, .int (nI (odC f p k))), (0, .ref 166), (1, .int (nI p)), (2, .int (nI part))]) (st' := [.int (nI part), .int (nI 4), .int (nI (odC f p k)), .ref 166]) (h' := HN (U G rG wG vG) hl (RF rt)) rfl ?_
            refine Ev.call (a := 215) (as := [.ref 166, .int (nI (odC f p k)), .int (nI 4), .int (nI part)]) (rest := []) (lv0 := [(0, .ref 166), (1, .int (nI (odC f p k))), (2, .int (nI 4)), (3, .int (nI part))]) (Q1 := (fun z0 h' => z0 = some (.long (Int64.ofNat (lwS1 (odC f p k) 4 part))) ∧ h' = HN (U G rG wG vG) hl (RF rt))) rfl rfl (C_lowest _ _ _ _ (odC f p k) 4 part (by omega) (by omega) (by omega) (by omega) ⟨rfl, rfl⟩) (fun r h' hr => ?_)
            obtain ⟨rfl, rfl⟩ := hr
            refine Ev.ret (v := some (.long (Int64.ofNat (lwS1 (odC f p k) 4 part)))) rfl ?_
            have hk4 : k = 4 := by omega
            have hx := hq f G rG wG vG hcyG (by exact ⟨hsG.1, fun j hj => by rw [← hcyG.1 175 (by decide) (by decide) (by decide) (by decide)]; exact hsG.2.1 j (by omega), hsG.2.2⟩) (fun _ _ _ _ => by rw [← hk4]; exact hf)
            unfold rs_odds at hx
            rw [if_pos (by omega), if_pos (by omega), if_neg (by omega), if_neg (by omega)] at hx
            rw [show odC f p 4 = odC f p k by rw [hk4]] at hx
            exact hx
          · have hc46 : ¬ (4 ≤ k) := fun z => hc46 ((nI_leI (by omega) (by omega)).mpr z)
            refine Ev.run 3 (pc' := 53) (lv' := [(4, .int (nI k)), (3, .int (nI (odC f p k))), (0, .ref 166), (1, .int (nI p)), (2, .int (nI part))]) (st' := [.int (nI k), .ref 166, .int (nI (odC f p k))]) (h' := HN (U G rG wG vG) hl (RF rt)) rfl ?_
            refine Ev.call (a := 201) (as := [.ref 166, .int (nI k)]) (rest := [.int (nI (odC f p k))]) (lv0 := [(0, .ref 166), (1, .int (nI k))]) (Q1 := (fun z0 h' => ∃ g1 r1 w1 v1, Cy G g1 ∧ SmH G r1 v1 ∧ g1 166 42 = (flS G rG k).2.1 ∧ g1 166 43 = (flS G rG k).2.2 ∧ z0 = some (.int (nI (flS G rG k).1)) ∧ h' = HN (U g1 r1 w1 v1) hl (RF rt))) rfl rfl (C_firstLoser _ _ _ _ hIG hKG k (Or.inr ⟨by omega, by omega⟩) (by omega) rG wG vG hsG (fun g1 r w v h1 h2 h3 h4 => ⟨g1, r, w, v, h1, h2, h3, h4, rfl, rfl⟩)) (fun r h' hr => ?_)
            obtain ⟨G99, r99, w99, v99, hcy99, hsm99, he99, hf99, rfl, rfl⟩ := hr
            have hI99 := hIG.mcy hcy99
            have hs99 := hsm99.scy hcy99
            have hK99 := hKG.cx hcy99.cx
            refine Ev.run 2 (pc' := (if nI ((flS G rG k).1) = nI p then 60 else 64)) (lv' := [(4, .int (nI k)), (3, .int (nI (odC f p k))), (0, .ref 166), (1, .int (nI p)), (2, .int (nI part))]) (st' := [.int (nI (odC f p k))]) (h' := HN (U G99 r99 w99 v99) hl (RF rt)) rfl ?_
            refine Ev.ite (fun hc57 => ?_) (fun hc57 => ?_)
            · have hc57 : ((flS G rG k).1) = p := (nI_eqU (by omega) (by omega)).mp hc57
              refine Ev.run 3 (pc' := 66) (lv' := [(4, .int (nI k)), (3, .int (nI (odC f p k))), (0, .ref 166), (1, .int (nI p)), (2, .int (nI part))]) (st' := [.int (nI (odC f p k) + nI 1)]) (h' := HN (U G99 r99 w99 v99) hl (RF rt)) rfl ?_
              refine Ev.topI (nI_add _ _) ?_
              refine Ev.run 2 (pc' := 70) (lv' := [(4, .int (nI k + 1)), (3, .int (nI ((odC f p k) + 1))), (0, .ref 166), (1, .int (nI p)), (2, .int (nI part))]) (st' := []) (h' := HN (U G99 r99 w99 v99) hl (RF rt)) rfl ?_
              refine Ev.lvE (congrArg (fun z => (4, Value.int z) :: [(3, .int (nI ((odC f p k) + 1))), (0, .ref 166), (1, .int (nI p)), (2, .int (nI part))]) (nI_1 _)) ?_
              refine Ev.run 1 (pc' := 43) (lv' := [(4, .int (nI (k + 1))), (3, .int (nI ((odC f p k) + 1))), (0, .ref 166), (1, .int (nI p)), (2, .int (nI part))]) (st' := []) (h' := HN (U G99 r99 w99 v99) hl (RF rt)) rfl ?_
              have hx := hnext (by omega) (up f k (flS G rG k).1) G99 r99 w99 v99 hI99 hK99 hs99 (hcyG.trans hcy99) (odF_s hf hcyG hIG hsG)
              rw [odC_s, if_pos hc57] at hx
              exact Ev.wk (Ext.cons rfl rfl (Ext.cons rfl rfl (Ext.cons rfl rfl (Ext.cons rfl rfl (Ext.cons rfl rfl (Ext.nil rfl)))))) hx
            · have hc57 : ¬ (((flS G rG k).1) = p) := fun z => hc57 ((nI_eqU (by omega) (by omega)).mpr z)
              refine Ev.run 2 (pc' := 66) (lv' := [(4, .int (nI k)), (3, .int (nI (odC f p k))), (0, .ref 166), (1, .int (nI p)), (2, .int (nI part))]) (st' := [.int (nI (odC f p k) + nI 0)]) (h' := HN (U G99 r99 w99 v99) hl (RF rt)) rfl ?_
              refine Ev.topI (nI_add _ _) ?_
              refine Ev.run 2 (pc' := 70) (lv' := [(4, .int (nI k + 1)), (3, .int (nI ((odC f p k) + 0))), (0, .ref 166), (1, .int (nI p)), (2, .int (nI part))]) (st' := []) (h' := HN (U G99 r99 w99 v99) hl (RF rt)) rfl ?_
              refine Ev.lvE (congrArg (fun z => (4, Value.int z) :: [(3, .int (nI ((odC f p k) + 0))), (0, .ref 166), (1, .int (nI p)), (2, .int (nI part))]) (nI_1 _)) ?_
              refine Ev.run 1 (pc' := 43) (lv' := [(4, .int (nI (k + 1))), (3, .int (nI ((odC f p k) + 0))), (0, .ref 166), (1, .int (nI p)), (2, .int (nI part))]) (st' := []) (h' := HN (U G99 r99 w99 v99) hl (RF rt)) rfl ?_
              have hx := hnext (by omega) (up f k (flS G rG k).1) G99 r99 w99 v99 hI99 hK99 hs99 (hcyG.trans hcy99) (odF_s hf hcyG hIG hsG)
              rw [odC_s, if_neg hc57] at hx
              exact Ev.wk (Ext.cons rfl rfl (Ext.cons rfl rfl (Ext.cons rfl rfl (Ext.cons rfl rfl (Ext.cons rfl rfl (Ext.nil rfl)))))) hx
    · have hhb15 : ¬ (part ≤ 1) := of_decide_eq_false hb15
      refine Ev.run 2 (pc' := 37) (lv' := [(0, .ref 166), (1, .int (nI p)), (2, .int (nI part))]) (st' := [.long (Int64.ofNat 9223372036854775808)]) (h' := HN (U g r w v) hl (RF rt)) rfl ?_
      refine Ev.ret (v := some (.long (Int64.ofNat 9223372036854775808))) rfl ?_
      have hv : rs_odds g (fun _ => 0) p part = 9223372036854775808 := by
        unfold rs_odds
        first
          | rw [if_neg (by omega)]
          | rw [if_pos (by omega), if_neg (by omega)]
          | rw [if_pos (by omega), if_pos (by omega), if_pos (by omega)]
          | rw [if_pos (by omega), if_pos (by omega), if_neg (by omega), if_pos (by omega)]
      have hx := hq (fun _ => 0) g r w v (Cy.refl g) hs (fun z1 z2 z3 z4 => by exfalso; omega)
      rw [hv] at hx
      exact hx
  · have hhb5 : ¬ (p < g 166 6) := of_decide_eq_false hb5
    refine Ev.run 2 (pc' := 37) (lv' := [(0, .ref 166), (1, .int (nI p)), (2, .int (nI part))]) (st' := [.long (Int64.ofNat 9223372036854775808)]) (h' := HN (U g r w v) hl (RF rt)) rfl ?_
    refine Ev.ret (v := some (.long (Int64.ofNat 9223372036854775808))) rfl ?_
    have hv : rs_odds g (fun _ => 0) p part = 9223372036854775808 := by
      unfold rs_odds
      first
        | rw [if_neg (by omega)]
        | rw [if_pos (by omega), if_neg (by omega)]
        | rw [if_pos (by omega), if_pos (by omega), if_pos (by omega)]
        | rw [if_pos (by omega), if_pos (by omega), if_neg (by omega), if_pos (by omega)]
    have hx := hq (fun _ => 0) g r w v (Cy.refl g) hs (fun z1 z2 z3 z4 => by exfalso; omega)
    rw [hv] at hx
    exact hx
