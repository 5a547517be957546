/-! the class: a letter is added; the sly one -/
def atX (x1 x2 : Nat → Nat) (k : Nat) : Nat := if k < x1 1 then x2 k else 4294967295
/-- the words that fit n letters of a round's row -/
noncomputable def ftX (g : Nat → Nat → Nat) (x1 x2 : Nat → Nat) (n : Nat) : Nat := bset (ft g (atX x1 x2) n) (g 166 0)
/-- the table that holds: a cell of its own, least in its place 3 -/
def TbC (g : Nat → Nat → Nat) (rt : Nat × Nat × Nat × Nat) (y : Nat) : Prop := KC rt.2.2.1 7 5 ∧ y ≤ 99 ∧ g rt.2.2.1 3 = y ∧ ∀ c, c < 4 → rt.2.2.1 ≠ 44 + c ∧ rt.2.2.1 ≠ 128 + c
theorem RO_ne (g : Nat → Nat → Nat) (c : Nat) (x0 x1 x2 x3 : Nat → Nat) {a : Nat} (h : ∀ k, k < 4 → a ≠ c + k) (j : Nat) : RO g c x0 x1 x2 x3 a j = g a j := by
  unfold RO ur
  have h0 := h 0 (by decide)
  have h1 := h 1 (by decide)
  have h2 := h 2 (by decide)
  have h3 := h 3 (by decide)
  rw [if_neg h3, if_neg h2, if_neg h1, if_neg (by omega)]
section RC
variable {g : Nat → Nat → Nat} {c : Nat} {x0 x1 x2 x3 : Nat → Nat}
theorem MI.mRO (h : MI g) (hc : c = 44 ∨ c = 128) : MI (RO g c x0 x1 x2 x3) := by
  rcases hc with rfl | rfl <;> exact h
theorem CB.cRO (h : CB g) (hc : c = 44 ∨ c = 128) : CB (RO g c x0 x1 x2 x3) := by
  obtain ⟨h1, h2, h3, h4, h5, h6⟩ := h
  have e : ∀ a j, a < 44 → RO g c x0 x1 x2 x3 a j = g a j := fun a j ha => RO_ne g c x0 x1 x2 x3 (fun k hk => by omega) j
  have e2 : ∀ j, RO g c x0 x1 x2 x3 166 j = g 166 j := fun j => RO_ne g c x0 x1 x2 x3 (fun k hk => by omega) j
  have e3 : ∀ j, RO g c x0 x1 x2 x3 168 j = g 168 j := fun j => RO_ne g c x0 x1 x2 x3 (fun k hk => by omega) j
  have e4 : ∀ j, RO g c x0 x1 x2 x3 167 j = g 167 j := fun j => RO_ne g c x0 x1 x2 x3 (fun k hk => by omega) j
  have e5 : ∀ j, RO g c x0 x1 x2 x3 169 j = g 169 j := fun j => RO_ne g c x0 x1 x2 x3 (fun k hk => by omega) j
  refine ⟨by rw [e 13 5 (by decide), e2]; exact h1, fun i hi => by rw [e _ _ (by omega), e3]; exact h2 i hi, fun i k hi hk => ?_, fun i hi => by rw [e _ _ (by decide), e5]; exact h4 i hi, fun p y hp hy => ?_, fun n hn => ?_⟩
  · rw [e3] at hk
    rw [e _ _ (by omega), e4]
    exact h3 i k hi hk
  · rw [e _ _ (by decide), h5 p y hp hy, e2]
    refine bset_cg (fun i _ => ?_)
    unfold plB
    rw [e3, e4]
  · rw [e _ _ (by decide), h6 n hn, e2]
    refine bset_cg (fun i _ => ?_)
    unfold lnB
    rw [e3]
end RC
/-- what add leaves -/
noncomputable def enX (g : Nat → Nat → Nat) (x1 x2 : Nat → Nat) (p y : Nat) : Bool := enB g (ftX g (up x1 1 (x1 1 + 1)) (up x2 (x1 1) p) (x1 1 + 1)) (x1 1 + 1) y
theorem RO_1r (g : Nat → Nat → Nat) (c : Nat) (x0 x1 x2 x3 : Nat → Nat) (j : Nat) : RO g c x0 x1 x2 x3 (c + 1) j = x1 j := by
  unfold RO ur
  rw [if_neg (by omega), if_neg (by omega), if_pos rfl]
theorem ptRO (g : Nat → Nat → Nat) (c : Nat) (x0 x1 x2 x3 : Nat → Nat) (y : Nat) (h : x1 1 < 12) : ptLn (RO g c x0 x1 x2 x3) (c + 1) 12 y = RO g c x0 (up x1 1 (x1 1 + 1)) (up x2 (x1 1) y) x3 := by
  unfold ptLn
  rw [RO_1r, if_pos h]
  exact (congrArg (fun z => u2 z (c + 1) 1 (x1 1 + 1)) (RO_2 g c x0 x1 x2 x3 (x1 1) y)).trans (RO_1 g c x0 x1 (up x2 (x1 1) y) x3 1 (x1 1 + 1))
theorem atX_lt {x1 x2 : Nat → Nat} (h : ∀ k, k < x1 1 → x2 k ≤ 3) (k : Nat) : atX x1 x2 k < 4294967296 := by
  unfold atX
  split
  · rename_i e; have := h k e; omega
  · decide
theorem rows_s {x1 x2 : Nat → Nat} (h : ∀ k, k < x1 1 → x2 k ≤ 3) {y : Nat} (hy : y ≤ 3) : ∀ k, k < up x1 1 (x1 1 + 1) 1 → up x2 (x1 1) y k ≤ 3 := fun k hk => by
  have hk : k < x1 1 + 1 := hk
  unfold up
  split
  · exact hy
  · exact h k (by omega)
theorem K44_add {L : Nat} {xs : Nat → Int32} (d : Nat) (g : Nat → Nat → Nat) (hl : Nat → Nat → Int64) (rt : Nat × Nat × Nat × Nat) (hI : MI g) (hB : CB g) (hP5 : g 12 2 ≤ 5) (y : Nat) (hT : TbC g rt y) (x0 x1 x2 x3 : Nat → Nat) (hx3 : ∀ j, j < 5 → x3 j ≤ 99) (hn12 : x1 1 ≤ 12) (hr : ∀ k, k < x1 1 → x2 k ≤ 3) (hx0 : x0 2 ≤ 4) (p : Nat) (hp3 : p ≤ 3) (hlt : x1 1 < 12) {Q : Po} (hq : (enX g x1 x2 p y = true → Q (some (.int (nI (100 + p)))) (HN (RO g 44 (loX0 (up x0 3 (x0 2)) x3 (g 12 2) (x0 2)) (up (up x1 1 (x1 1 + 1)) 1 0) (up x2 (x1 1) p) (up x3 (x0 2) (x3 (x0 2) - 1))) hl (RF rt))) ∧ (enX g x1 x2 p y = false → Q (some (.int (nI p))) (HN (RO g 44 (up (up x0 3 (x0 2)) 2 (fwC x3 (g 12 2) (x0 2) (g 12 2) 1)) (up x1 1 (x1 1 + 1)) (up x2 (x1 1) p) x3) hl (RF rt)))) : Ev L xs (d + 4) 37 0 [(0, .ref 12), (1, .ref 44), (2, .int (nI p))] [] (HN (RO g 44 x0 x1 x2 x3) hl (RF rt)) Q := by
  have hW := hI.hW
  have hS := hI.hS
  have hPl := hI.hPl
  have hNx := hI.hNx
  have hLa := hI.hLa
  have hLo := hI.hLo
  have hTb := hI.hTb
  have hTh := hI.hTh
  have hFd := hI.hFd
  have hSn := hI.hSn
  have hSh := hI.hSh
  have hRan := hI.hRan
  have hLr := hI.hLr
  have hLt := hI.hLt
  have hgl := hI.hgl
  have hsz := hI.hsz
  have hcm := hI.hcm
  have hsl := hI.hsl
  have hkd := hI.hkd
  have hvv := hI.hvv
  have hli := hI.hli
  have hro := hI.hro
  have hrw := hI.hrw
  have htx := hI.htx
  have hsw := hI.hsw
  have hsx := hI.hsx
  have hsy := hI.hsy
  have hsh := hI.hsh
  have hle := hI.hle
  have hcl := hI.hcl
  have hwd := hI.hwd
  have hnu := hI.hnu
  have hwn := hI.hwn
  have hs1 := hI.hs1
  have hso := hI.hso
  have hyy := hT.2.1
  refine Ev.run 3 (pc' := 5) (lv' := [(0, .ref 12), (1, .ref 44), (2, .int (nI p))]) (st' := [.int (nI p), .ref 45]) (h' := HN (RO g 44 x0 x1 x2 x3) hl (RF rt)) rfl ?_
  refine Ev.call (a := 43) (as := [.ref 45, .int (nI p)]) (rest := []) (lv0 := [(0, .ref 45), (1, .int (nI p))]) (Q1 := (fun z0 h' => z0 = none ∧ h' = HN (RO g 44 x0 (up x1 1 (x1 1 + 1)) (up x2 (x1 1) p) x3) hl (RF rt))) rfl rfl (K_put _ (RO g 44 x0 x1 x2 x3) _ _ 45 12 (ln45 rt) p (show x1 1 ≤ 12 by omega) ⟨rfl, congrArg (fun z => HN z hl (RF rt)) (ptRO g 44 _ _ _ _ _ hlt)⟩) (fun r h' hr => ?_)
  obtain ⟨rfl, rfl⟩ := hr
  refine Ev.run 4 (pc' := 16) (lv' := [(0, .ref 12), (1, .ref 44), (2, .int (nI p))]) (st' := []) (h' := setI (HN (RO g 44 x0 (up x1 1 (x1 1 + 1)) (up x2 (x1 1) p) x3) hl (RF rt)) 44 3 (nI (x0 2))) rfl ?_
  refine Ev.hp (HN_set _ _ _ _ _ _) ?_
  refine Ev.hp (congrArg (fun z => HN z hl (RF rt)) (RO_0 _ _ _ _ _ _ _ _)) ?_
  refine Ev.run 9 (pc' := 35) (lv' := [(0, .ref 12), (1, .ref 44), (2, .int (nI p))]) (st' := [.int (nI (x1 1 + 1)), .ref 45, .ref 13, .ref 13]) (h' := HN (RO g 44 (up x0 3 (x0 2)) (up x1 1 (x1 1 + 1)) (up x2 (x1 1) p) x3) hl (RF rt)) rfl ?_
  refine Ev.call (a := 13) (as := [.ref 13, .ref 45, .int (nI (x1 1 + 1))]) (rest := [.ref 13]) (lv0 := [(0, .ref 13), (1, .ref 45), (2, .int (nI (x1 1 + 1)))]) (Q1 := (fun z0 h' => z0 = some (.int (nI (ftX g (up x1 1 (x1 1 + 1)) (up x2 (x1 1) p) (x1 1 + 1)))) ∧ h' = HN (RO g 44 (up x0 3 (x0 2)) (up x1 1 (x1 1 + 1)) (up x2 (x1 1) p) x3) hl (RF rt))) rfl rfl (K_fitting _ (RO g 44 (up x0 3 (x0 2)) (up x1 1 (x1 1 + 1)) (up x2 (x1 1) p) x3) _ _ (hI.mRO (by decide)) (hB.cRO (by decide)) 45 12 (ln45 rt) (x1 1 + 1) (by omega) (show x1 1 + 1 ≤ 12 by omega) (fun k => atX_lt (rows_s hr hp3) k) ⟨rfl, rfl⟩) (fun r h' hr => ?_)
  obtain ⟨rfl, rfl⟩ := hr
  have hftx : ftX g (up x1 1 (x1 1 + 1)) (up x2 (x1 1) p) (x1 1 + 1) < 4096 := bset_12 _ hI.hW
  refine Ev.run 5 (pc' := 49) (lv' := [(0, .ref 12), (1, .ref 44), (2, .int (nI p))]) (st' := [.ref rt.2.2.1, .int (nI (x1 1 + 1)), .int (nI (ftX g (up x1 1 (x1 1 + 1)) (up x2 (x1 1) p) (x1 1 + 1))), .ref 13]) (h' := HN (RO g 44 (up x0 3 (x0 2)) (up x1 1 (x1 1 + 1)) (up x2 (x1 1) p) x3) hl (RF rt)) rfl ?_
  refine Ev_gfI rfl rfl rfl hT.1 ?_
  refine Ev.topI (congrArg nI ((RO_ne g 44 _ _ _ _ (fun k hk => by have := hT.2.2.2 k hk; omega) 3).trans hT.2.2.1)) ?_
  refine Ev.call (a := 15) (as := [.ref 13, .int (nI (ftX g (up x1 1 (x1 1 + 1)) (up x2 (x1 1) p) (x1 1 + 1))), .int (nI (x1 1 + 1)), .int (nI y)]) (rest := []) (lv0 := [(0, .ref 13), (1, .int (nI (ftX g (up x1 1 (x1 1 + 1)) (up x2 (x1 1) p) (x1 1 + 1)))), (2, .int (nI (x1 1 + 1))), (3, .int (nI y))]) (Q1 := (fun z0 h' => z0 = some (.int (nI (bn (enB g (ftX g (up x1 1 (x1 1 + 1)) (up x2 (x1 1) p) (x1 1 + 1)) (x1 1 + 1) y)))) ∧ h' = HN (RO g 44 (up x0 3 (x0 2)) (up x1 1 (x1 1 + 1)) (up x2 (x1 1) p) x3) hl (RF rt))) rfl rfl (K_isEnd _ (RO g 44 (up x0 3 (x0 2)) (up x1 1 (x1 1 + 1)) (up x2 (x1 1) p) x3) _ _ (hI.mRO (by decide)) (hB.cRO (by decide)) (ftX g (up x1 1 (x1 1 + 1)) (up x2 (x1 1) p) (x1 1 + 1)) (by omega) (x1 1 + 1) y (by omega) (by omega) ⟨rfl, rfl⟩) (fun r h' hr => ?_)
  obtain ⟨rfl, rfl⟩ := hr
  refine Ev_bn (fun hb55 => ?_) (fun hb55 => ?_)
  · skip
    refine Ev.run 5 (pc' := 64) (lv' := [(0, .ref 12), (1, .ref 44), (2, .int (nI p))]) (st' := [.int (nI (x0 2)), .ref 44, .ref 12]) (h' := HN (RO g 44 (up x0 3 (x0 2)) (up x1 1 (x1 1 + 1)) (up x2 (x1 1) p) x3) hl (RF rt)) rfl ?_
    refine Ev.call (a := 38) (as := [.ref 12, .ref 44, .int (nI (x0 2))]) (rest := []) (lv0 := [(0, .ref 12), (1, .ref 44), (2, .int (nI (x0 2)))]) (Q1 := (fun z0 h' => z0 = none ∧ h' = HN (RO g 44 (loX0 (up x0 3 (x0 2)) x3 (g 12 2) (x0 2)) (up (up x1 1 (x1 1 + 1)) 1 0) (up x2 (x1 1) p) (up x3 (x0 2) (x3 (x0 2) - 1))) hl (RF rt))) rfl rfl (K44_lose _ g _ _ hP5 (up x0 3 (x0 2)) (up x1 1 (x1 1 + 1)) (up x2 (x1 1) p) x3 hx3 (x0 2) (by omega) ⟨rfl, rfl⟩) (fun r h' hr => ?_)
    obtain ⟨rfl, rfl⟩ := hr
    refine Ev.run 3 (pc' := 71) (lv' := [(0, .ref 12), (1, .ref 44), (2, .int (nI p))]) (st' := [.int (nI 100 + nI p)]) (h' := HN (RO g 44 (loX0 (up x0 3 (x0 2)) x3 (g 12 2) (x0 2)) (up (up x1 1 (x1 1 + 1)) 1 0) (up x2 (x1 1) p) (up x3 (x0 2) (x3 (x0 2) - 1))) hl (RF rt)) rfl ?_
    refine Ev.topI (nI_add _ _) ?_
    refine Ev.ret (v := some (.int (nI (100 + p)))) rfl ?_
    exact hq.1 hb55
  · skip
    refine Ev.run 6 (pc' := 79) (lv' := [(0, .ref 12), (1, .ref 44), (2, .int (nI p))]) (st' := [.int (nI (x0 2)), .ref 44, .ref 12, .ref 44]) (h' := HN (RO g 44 (up x0 3 (x0 2)) (up x1 1 (x1 1 + 1)) (up x2 (x1 1) p) x3) hl (RF rt)) rfl ?_
    refine Ev.call (a := 33) (as := [.ref 12, .ref 44, .int (nI (x0 2))]) (rest := [.ref 44]) (lv0 := [(0, .ref 12), (1, .ref 44), (2, .int (nI (x0 2)))]) (Q1 := (fun z0 h' => z0 = some (.int (nI (fwC x3 (g 12 2) (x0 2) (g 12 2) 1))) ∧ h' = HN (RO g 44 (up x0 3 (x0 2)) (up x1 1 (x1 1 + 1)) (up x2 (x1 1) p) x3) hl (RF rt))) rfl rfl (K44_following _ g _ _ hP5 (up x0 3 (x0 2)) (up x1 1 (x1 1 + 1)) (up x2 (x1 1) p) x3 hx3 (x0 2) (by omega) ⟨rfl, rfl⟩) (fun r h' hr => ?_)
    obtain ⟨rfl, rfl⟩ := hr
    have hfw := fwC_l5 x3 (x0 2) hP5
    refine Ev.run 1 (pc' := 85) (lv' := [(0, .ref 12), (1, .ref 44), (2, .int (nI p))]) (st' := []) (h' := setI (HN (RO g 44 (up x0 3 (x0 2)) (up x1 1 (x1 1 + 1)) (up x2 (x1 1) p) x3) hl (RF rt)) 44 2 (nI (fwC x3 (g 12 2) (x0 2) (g 12 2) 1))) rfl ?_
    refine Ev.hp (HN_set _ _ _ _ _ _) ?_
    refine Ev.hp (congrArg (fun z => HN z hl (RF rt)) (RO_0 _ _ _ _ _ _ _ _)) ?_
    refine Ev.run 1 (pc' := 86) (lv' := [(0, .ref 12), (1, .ref 44), (2, .int (nI p))]) (st' := [.int (nI p)]) (h' := HN (RO g 44 (up (up x0 3 (x0 2)) 2 (fwC x3 (g 12 2) (x0 2) (g 12 2) 1)) (up x1 1 (x1 1 + 1)) (up x2 (x1 1) p) x3) hl (RF rt)) rfl ?_
    refine Ev.ret (v := some (.int (nI p))) rfl ?_
    exact hq.2 hb55
theorem K128_add {L : Nat} {xs : Nat → Int32} (d : Nat) (g : Nat → Nat → Nat) (hl : Nat → Nat → Int64) (rt : Nat × Nat × Nat × Nat) (hI : MI g) (hB : CB g) (hP5 : g 12 2 ≤ 5) (y : Nat) (hT : TbC g rt y) (x0 x1 x2 x3 : Nat → Nat) (hx3 : ∀ j, j < 5 → x3 j ≤ 99) (hn12 : x1 1 ≤ 12) (hr : ∀ k, k < x1 1 → x2 k ≤ 3) (hx0 : x0 2 ≤ 4) (p : Nat) (hp3 : p ≤ 3) (hlt : x1 1 < 12) {Q : Po} (hq : (enX g x1 x2 p y = true → Q (some (.int (nI (100 + p)))) (HN (RO g 128 (loX0 (up x0 3 (x0 2)) x3 (g 12 2) (x0 2)) (up (up x1 1 (x1 1 + 1)) 1 0) (up x2 (x1 1) p) (up x3 (x0 2) (x3 (x0 2) - 1))) hl (RF rt))) ∧ (enX g x1 x2 p y = false → Q (some (.int (nI p))) (HN (RO g 128 (up (up x0 3 (x0 2)) 2 (fwC x3 (g 12 2) (x0 2) (g 12 2) 1)) (up x1 1 (x1 1 + 1)) (up x2 (x1 1) p) x3) hl (RF rt)))) : Ev L xs (d + 4) 37 0 [(0, .ref 12), (1, .ref 128), (2, .int (nI p))] [] (HN (RO g 128 x0 x1 x2 x3) hl (RF rt)) Q := by
  have hW := hI.hW
  have hS := hI.hS
  have hPl := hI.hPl
  have hNx := hI.hNx
  have hLa := hI.hLa
  have hLo := hI.hLo
  have hTb := hI.hTb
  have hTh := hI.hTh
  have hFd := hI.hFd
  have hSn := hI.hSn
  have hSh := hI.hSh
  have hRan := hI.hRan
  have hLr := hI.hLr
  have hLt := hI.hLt
  have hgl := hI.hgl
  have hsz := hI.hsz
  have hcm := hI.hcm
  have hsl := hI.hsl
  have hkd := hI.hkd
  have hvv := hI.hvv
  have hli := hI.hli
  have hro := hI.hro
  have hrw := hI.hrw
  have htx := hI.htx
  have hsw := hI.hsw
  have hsx := hI.hsx
  have hsy := hI.hsy
  have hsh := hI.hsh
  have hle := hI.hle
  have hcl := hI.hcl
  have hwd := hI.hwd
  have hnu := hI.hnu
  have hwn := hI.hwn
  have hs1 := hI.hs1
  have hso := hI.hso
  have hyy := hT.2.1
  refine Ev.run 3 (pc' := 5) (lv' := [(0, .ref 12), (1, .ref 128), (2, .int (nI p))]) (st' := [.int (nI p), .ref 129]) (h' := HN (RO g 128 x0 x1 x2 x3) hl (RF rt)) rfl ?_
  refine Ev.call (a := 43) (as := [.ref 129, .int (nI p)]) (rest := []) (lv0 := [(0, .ref 129), (1, .int (nI p))]) (Q1 := (fun z0 h' => z0 = none ∧ h' = HN (RO g 128 x0 (up x1 1 (x1 1 + 1)) (up x2 (x1 1) p) x3) hl (RF rt))) rfl rfl (K_put _ (RO g 128 x0 x1 x2 x3) _ _ 129 12 (ln129 rt) p (show x1 1 ≤ 12 by omega) ⟨rfl, congrArg (fun z => HN z hl (RF rt)) (ptRO g 128 _ _ _ _ _ hlt)⟩) (fun r h' hr => ?_)
  obtain ⟨rfl, rfl⟩ := hr
  refine Ev.run 4 (pc' := 16) (lv' := [(0, .ref 12), (1, .ref 128), (2, .int (nI p))]) (st' := []) (h' := setI (HN (RO g 128 x0 (up x1 1 (x1 1 + 1)) (up x2 (x1 1) p) x3) hl (RF rt)) 128 3 (nI (x0 2))) rfl ?_
  refine Ev.hp (HN_set _ _ _ _ _ _) ?_
  refine Ev.hp (congrArg (fun z => HN z hl (RF rt)) (RO_0 _ _ _ _ _ _ _ _)) ?_
  refine Ev.run 9 (pc' := 35) (lv' := [(0, .ref 12), (1, .ref 128), (2, .int (nI p))]) (st' := [.int (nI (x1 1 + 1)), .ref 129, .ref 13, .ref 13]) (h' := HN (RO g 128 (up x0 3 (x0 2)) (up x1 1 (x1 1 + 1)) (up x2 (x1 1) p) x3) hl (RF rt)) rfl ?_
  refine Ev.call (a := 13) (as := [.ref 13, .ref 129, .int (nI (x1 1 + 1))]) (rest := [.ref 13]) (lv0 := [(0, .ref 13), (1, .ref 129), (2, .int (nI (x1 1 + 1)))]) (Q1 := (fun z0 h' => z0 = some (.int (nI (ftX g (up x1 1 (x1 1 + 1)) (up x2 (x1 1) p) (x1 1 + 1)))) ∧ h' = HN (RO g 128 (up x0 3 (x0 2)) (up x1 1 (x1 1 + 1)) (up x2 (x1 1) p) x3) hl (RF rt))) rfl rfl (K_fitting _ (RO g 128 (up x0 3 (x0 2)) (up x1 1 (x1 1 + 1)) (up x2 (x1 1) p) x3) _ _ (hI.mRO (by decide)) (hB.cRO (by decide)) 129 12 (ln129 rt) (x1 1 + 1) (by omega) (show x1 1 + 1 ≤ 12 by omega) (fun k => atX_lt (rows_s hr hp3) k) ⟨rfl, rfl⟩) (fun r h' hr => ?_)
  obtain ⟨rfl, rfl⟩ := hr
  have hftx : ftX g (up x1 1 (x1 1 + 1)) (up x2 (x1 1) p) (x1 1 + 1) < 4096 := bset_12 _ hI.hW
  refine Ev.run 5 (pc' := 49) (lv' := [(0, .ref 12), (1, .ref 128), (2, .int (nI p))]) (st' := [.ref rt.2.2.1, .int (nI (x1 1 + 1)), .int (nI (ftX g (up x1 1 (x1 1 + 1)) (up x2 (x1 1) p) (x1 1 + 1))), .ref 13]) (h' := HN (RO g 128 (up x0 3 (x0 2)) (up x1 1 (x1 1 + 1)) (up x2 (x1 1) p) x3) hl (RF rt)) rfl ?_
  refine Ev_gfI rfl rfl rfl hT.1 ?_
  refine Ev.topI (congrArg nI ((RO_ne g 128 _ _ _ _ (fun k hk => by have := hT.2.2.2 k hk; omega) 3).trans hT.2.2.1)) ?_
  refine Ev.call (a := 15) (as := [.ref 13, .int (nI (ftX g (up x1 1 (x1 1 + 1)) (up x2 (x1 1) p) (x1 1 + 1))), .int (nI (x1 1 + 1)), .int (nI y)]) (rest := []) (lv0 := [(0, .ref 13), (1, .int (nI (ftX g (up x1 1 (x1 1 + 1)) (up x2 (x1 1) p) (x1 1 + 1)))), (2, .int (nI (x1 1 + 1))), (3, .int (nI y))]) (Q1 := (fun z0 h' => z0 = some (.int (nI (bn (enB g (ftX g (up x1 1 (x1 1 + 1)) (up x2 (x1 1) p) (x1 1 + 1)) (x1 1 + 1) y)))) ∧ h' = HN (RO g 128 (up x0 3 (x0 2)) (up x1 1 (x1 1 + 1)) (up x2 (x1 1) p) x3) hl (RF rt))) rfl rfl (K_isEnd _ (RO g 128 (up x0 3 (x0 2)) (up x1 1 (x1 1 + 1)) (up x2 (x1 1) p) x3) _ _ (hI.mRO (by decide)) (hB.cRO (by decide)) (ftX g (up x1 1 (x1 1 + 1)) (up x2 (x1 1) p) (x1 1 + 1)) (by omega) (x1 1 + 1) y (by omega) (by omega) ⟨rfl, rfl⟩) (fun r h' hr => ?_)
  obtain ⟨rfl, rfl⟩ := hr
  refine Ev_bn (fun hb55 => ?_) (fun hb55 => ?_)
  · skip
    refine Ev.run 5 (pc' := 64) (lv' := [(0, .ref 12), (1, .ref 128), (2, .int (nI p))]) (st' := [.int (nI (x0 2)), .ref 128, .ref 12]) (h' := HN (RO g 128 (up x0 3 (x0 2)) (up x1 1 (x1 1 + 1)) (up x2 (x1 1) p) x3) hl (RF rt)) rfl ?_
    refine Ev.call (a := 38) (as := [.ref 12, .ref 128, .int (nI (x0 2))]) (rest := []) (lv0 := [(0, .ref 12), (1, .ref 128), (2, .int (nI (x0 2)))]) (Q1 := (fun z0 h' => z0 = none ∧ h' = HN (RO g 128 (loX0 (up x0 3 (x0 2)) x3 (g 12 2) (x0 2)) (up (up x1 1 (x1 1 + 1)) 1 0) (up x2 (x1 1) p) (up x3 (x0 2) (x3 (x0 2) - 1))) hl (RF rt))) rfl rfl (K128_lose _ g _ _ hP5 (up x0 3 (x0 2)) (up x1 1 (x1 1 + 1)) (up x2 (x1 1) p) x3 hx3 (x0 2) (by omega) ⟨rfl, rfl⟩) (fun r h' hr => ?_)
    obtain ⟨rfl, rfl⟩ := hr
    refine Ev.run 3 (pc' := 71) (lv' := [(0, .ref 12), (1, .ref 128), (2, .int (nI p))]) (st' := [.int (nI 100 + nI p)]) (h' := HN (RO g 128 (loX0 (up x0 3 (x0 2)) x3 (g 12 2) (x0 2)) (up (up x1 1 (x1 1 + 1)) 1 0) (up x2 (x1 1) p) (up x3 (x0 2) (x3 (x0 2) - 1))) hl (RF rt)) rfl ?_
    refine Ev.topI (nI_add _ _) ?_
    refine Ev.ret (v := some (.int (nI (100 + p)))) rfl ?_
    exact hq.1 hb55
  · skip
    refine Ev.run 6 (pc' := 79) (lv' := [(0, .ref 12), (1, .ref 128), (2, .int (nI p))]) (st' := [.int (nI (x0 2)), .ref 128, .ref 12, .ref 128]) (h' := HN (RO g 128 (up x0 3 (x0 2)) (up x1 1 (x1 1 + 1)) (up x2 (x1 1) p) x3) hl (RF rt)) rfl ?_
    refine Ev.call (a := 33) (as := [.ref 12, .ref 128, .int (nI (x0 2))]) (rest := [.ref 128]) (lv0 := [(0, .ref 12), (1, .ref 128), (2, .int (nI (x0 2)))]) (Q1 := (fun z0 h' => z0 = some (.int (nI (fwC x3 (g 12 2) (x0 2) (g 12 2) 1))) ∧ h' = HN (RO g 128 (up x0 3 (x0 2)) (up x1 1 (x1 1 + 1)) (up x2 (x1 1) p) x3) hl (RF rt))) rfl rfl (K128_following _ g _ _ hP5 (up x0 3 (x0 2)) (up x1 1 (x1 1 + 1)) (up x2 (x1 1) p) x3 hx3 (x0 2) (by omega) ⟨rfl, rfl⟩) (fun r h' hr => ?_)
    obtain ⟨rfl, rfl⟩ := hr
    have hfw := fwC_l5 x3 (x0 2) hP5
    refine Ev.run 1 (pc' := 85) (lv' := [(0, .ref 12), (1, .ref 128), (2, .int (nI p))]) (st' := []) (h' := setI (HN (RO g 128 (up x0 3 (x0 2)) (up x1 1 (x1 1 + 1)) (up x2 (x1 1) p) x3) hl (RF rt)) 128 2 (nI (fwC x3 (g 12 2) (x0 2) (g 12 2) 1))) rfl ?_
    refine Ev.hp (HN_set _ _ _ _ _ _) ?_
    refine Ev.hp (congrArg (fun z => HN z hl (RF rt)) (RO_0 _ _ _ _ _ _ _ _)) ?_
    refine Ev.run 1 (pc' := 86) (lv' := [(0, .ref 12), (1, .ref 128), (2, .int (nI p))]) (st' := [.int (nI p)]) (h' := HN (RO g 128 (up (up x0 3 (x0 2)) 2 (fwC x3 (g 12 2) (x0 2) (g 12 2) 1)) (up x1 1 (x1 1 + 1)) (up x2 (x1 1) p) x3) hl (RF rt)) rfl ?_
    refine Ev.ret (v := some (.int (nI p))) rfl ?_
    exact hq.2 hb55
