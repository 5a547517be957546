/-! the reference: an act asked for, tapes -/
theorem bds_nil (g : Nat → Nat → Nat) : bdsG g [] = g := by
  funext a c
  unfold bdsG
  by_cases h : a = 205
  · subst h
    rw [if_pos rfl, if_neg (by intro z; have := z.2.1; have e : ([] : List Nat).length = 0 := rfl; omega)]
  · by_cases h2 : a = 166
    · subst h2
      rw [if_neg h, if_pos rfl]
      by_cases h3 : c = 71
      · subst h3; rfl
      · rw [if_neg h3]
    · rw [if_neg h, if_neg h2]
theorem U_bds (g : Nat → Nat → Nat) (r w v : Nat → Nat) (l : List Nat) : bdsG (U g r w v) l = U (bdsG g l) r w v := by
  funext a c
  unfold bdsG U ur
  by_cases h : a = 205
  · subst h; simp
  · by_cases h2 : a = 166
    · subst h2; simp
    · simp [h, h2]
def actL (g : Nat → Nat → Nat) (i a : Nat) : List Nat := if i < g 166 6 then (if a = 0 then adL (g 171 i) else if a = 1 then akL (g 171 i) else if a = 2 then teL (g 171 i) else []) else []
def rs_act (g : Nat → Nat → Nat) (i a : Nat) (x : Int32) : Int32 := if i < g 166 6 then (if a = 0 then adX (g 171 i) i (g 172 i) x else if a = 1 then akX (g 171 i) i (g 172 i) x else if a = 2 then teX (g 171 i) i (g 172 i) x else nI 0) else nI 0
def gs_act (g : Nat → Nat → Nat) (i a : Nat) : Nat → Nat → Nat := bdsG (u2 g 166 71 0) (actL g i a)
theorem actL_len (g : Nat → Nat → Nat) (i a : Nat) : (actL g i a).length ≤ 13 := by
  have h1 := adL_len (g 171 i)
  have h2 := akL_len (g 171 i)
  have h3 := ptL_len (g 171 i)
  unfold actL
  repeat' split
  · omega
  · omega
  · unfold teL
    repeat' split
    all_goals first | omega | (simp only [List.length_append, List.length_cons, List.length_nil]; omega)
  · exact Nat.zero_le _
  · exact Nat.zero_le _
theorem C_act {L : Nat} {xs : Nat → Int32} (d : Nat) (g : Nat → Nat → Nat) (hl : Nat → Nat → Int64) (rt : Nat × Nat × Nat × Nat) (hI : MI g) (hK : KW g) (i : Nat) (a : Nat) (hi : i < 2 ^ 32) (ha : a < 2 ^ 32) (x : Int32) (r w v : Nat → Nat) (hs : SmH g r v)  {Q : Po} (hq : Q (some (.int (rs_act g i a x))) (HN (U (gs_act g i a) r w v) hl (RF rt))) : Ev L xs (d + 8) 231 0 [(0, .ref 166), (1, .int (nI i)), (2, .int (nI a)), (3, .int (x))] [] (HN (U g r w v) hl (RF rt)) Q := by
  have hW := hI.hW
  have hS := hI.hS
  have hPl := hI.hPl
  have hNx := hI.hNx
  have hLa := hI.hLa
  have hLo := hI.hLo
  have hTb := hI.hTb
  have hTh := hI.hTh
  have hFd := hI.hFd
  have hSn := hI.hSn
  have hSh := hI.hSh
  have hRan := hI.hRan
  have hLr := hI.hLr
  have hLt := hI.hLt
  have hgl := hI.hgl
  have hsz := hI.hsz
  have hcm := hI.hcm
  have hsl := hI.hsl
  have hkd := hI.hkd
  have hvv := hI.hvv
  have hli := hI.hli
  have hro := hI.hro
  have hrw := hI.hrw
  have htx := hI.htx
  have hsw := hI.hsw
  have hsx := hI.hsx
  have hsy := hI.hsy
  have hsh := hI.hsh
  have hle := hI.hle
  have hcl := hI.hcl
  have hwd := hI.hwd
  have hnu := hI.hnu
  have hwn := hI.hwn
  have hs1 := hI.hs1
  have hso := hI.hso
  refine Ev.run 3 (pc' := 5) (lv' := [(0, .ref 166), (1, .int (nI i)), (2, .int (nI a)), (3, .int (x))]) (st' := []) (h' := setI (HN (U g r w v) hl (RF rt)) 166 71 (nI 0)) rfl ?_
  refine Ev.hp (HN_set _ _ _ _ _ _) ?_
  refine Ev.hp (congrArg (fun z => HN z hl (RF rt)) (U_u166 _ _ _ _ _ _)) ?_
  have hI120 := MI.f71 (x := 0) hI (by omega)
  have hK121 : KW (u2 g 166 71 0) := hK
  have hs122 : SmH (u2 g 166 71 0) r v := hs
  refine Ev.run 2 (pc' := 7) (lv' := [(0, .ref 166), (1, .int (nI i)), (2, .int (nI a)), (3, .int (x))]) (st' := [.int (nI i), .ref 166]) (h' := HN (U (u2 g 166 71 0) r w v) hl (RF rt)) rfl ?_
  refine Ev.call (a := 135) (as := [.ref 166, .int (nI i)]) (rest := []) (lv0 := [(0, .ref 166), (1, .int (nI i))]) (Q1 := (fun z0 h' => z0 = some (.int (nI (bn (decide (i < g 166 6))))) ∧ h' = HN (U (u2 g 166 71 0) r w v) hl (RF rt))) rfl rfl (C_isPlayer _ (U (u2 g 166 71 0) r w v) _ _ i (by omega) hPl ⟨rfl, rfl⟩) (fun r h' hr => ?_)
  obtain ⟨rfl, rfl⟩ := hr
  refine Ev_bn (fun hb10 => ?_) (fun hb10 => ?_)
  · have hhb10 : i < g 166 6 := of_decide_eq_true hb10
    refine Ev.run 5 (pc' := 17) (lv' := [(0, .ref 166), (1, .int (nI i)), (2, .int (nI a)), (3, .int (x))]) (st' := [.int (nI 2), .int (nI 0), .int (nI a), .ref 166]) (h' := HN (U (u2 g 166 71 0) r w v) hl (RF rt)) rfl ?_
    refine Ev.call (a := 126) (as := [.ref 166, .int (nI a), .int (nI 0), .int (nI 2)]) (rest := []) (lv0 := [(0, .ref 166), (1, .int (nI a)), (2, .int (nI 0)), (3, .int (nI 2))]) (Q1 := (fun z0 h' => z0 = some (.int (nI (bn (decide (a ≤ 2))))) ∧ h' = HN (U (u2 g 166 71 0) r w v) hl (RF rt))) rfl rfl (C_in _ _ _ _ (nI a) (nI 0) (nI 2) (by rw [in0 (by omega) (by omega)]; exact ⟨rfl, rfl⟩)) (fun r h' hr => ?_)
    obtain ⟨rfl, rfl⟩ := hr
    refine Ev_bn (fun hb20 => ?_) (fun hb20 => ?_)
    · have hhb20 : a ≤ 2 := of_decide_eq_true hb20
      refine Ev.run 3 (pc' := (if nI a = 0 then 29 else 38)) (lv' := [(0, .ref 166), (1, .int (nI i)), (2, .int (nI a)), (3, .int (x))]) (st' := []) (h' := HN (U (u2 g 166 71 0) r w v) hl (RF rt)) rfl ?_
      refine Ev.ite (fun hc26 => ?_) (fun hc26 => ?_)
      · have hc26 : a = 0 := (nI_eqU0 (by omega)).mp hc26
        refine Ev.run 3 (pc' := 32) (lv' := [(0, .ref 166), (1, .int (nI i)), (2, .int (nI a)), (3, .int (x))]) (st' := [.int (x), .int (nI i), .ref 166]) (h' := HN (U (u2 g 166 71 0) r w v) hl (RF rt)) rfl ?_
        refine Ev.call (a := 225) (as := [.ref 166, .int (nI i), .int (x)]) (rest := []) (lv0 := [(0, .ref 166), (1, .int (nI i)), (2, .int (x))]) (Q1 := (fun z0 h' => z0 = some (.int (adX (g 171 i) i (g 172 i) x)) ∧ h' = HN (U (bdsG (u2 g 166 71 0) (adL (g 171 i))) r w v) hl (RF rt))) rfl rfl (C_addsAct _ (U (u2 g 166 71 0) r w v) _ _ i (by omega) x (show g 171 i ≤ 6 from hkd i (by omega)) (show g 172 i ≤ 9 from hvv i (by omega)) (show 0 + 2 ≤ 60 by omega) ⟨rfl, congrArg (fun z => HN z hl (RF rt)) (U_bds _ _ _ _ _)⟩) (fun r h' hr => ?_)
        obtain ⟨rfl, rfl⟩ := hr
        refine Ev.run 1 (pc' := 58) (lv' := [(0, .ref 166), (1, .int (nI i)), (2, .int (nI a)), (3, .int (x))]) (st' := [.int (adX (g 171 i) i (g 172 i) x)]) (h' := HN (U (bdsG (u2 g 166 71 0) (adL (g 171 i))) r w v) hl (RF rt)) rfl ?_
        refine Ev.ret (v := some (.int (adX (g 171 i) i (g 172 i) x))) rfl ?_
        unfold rs_act gs_act actL at hq
        rw [if_pos (by omega), if_pos hc26, if_pos (by omega), if_pos hc26] at hq
        exact hq
      · have hc26 : ¬ (a = 0) := fun z => hc26 ((nI_eqU0 (by omega)).mpr z)
        refine Ev.run 3 (pc' := (if nI a = nI 1 then 43 else 52)) (lv' := [(0, .ref 166), (1, .int (nI i)), (2, .int (nI a)), (3, .int (x))]) (st' := []) (h' := HN (U (u2 g 166 71 0) r w v) hl (RF rt)) rfl ?_
        refine Ev.ite (fun hc40 => ?_) (fun hc40 => ?_)
        · have hc40 : a = 1 := (nI_eqU (by omega) (by omega)).mp hc40
          refine Ev.run 3 (pc' := 46) (lv' := [(0, .ref 166), (1, .int (nI i)), (2, .int (nI a)), (3, .int (x))]) (st' := [.int (x), .int (nI i), .ref 166]) (h' := HN (U (u2 g 166 71 0) r w v) hl (RF rt)) rfl ?_
          refine Ev.call (a := 228) (as := [.ref 166, .int (nI i), .int (x)]) (rest := []) (lv0 := [(0, .ref 166), (1, .int (nI i)), (2, .int (x))]) (Q1 := (fun z0 h' => z0 = some (.int (akX (g 171 i) i (g 172 i) x)) ∧ h' = HN (U (bdsG (u2 g 166 71 0) (akL (g 171 i))) r w v) hl (RF rt))) rfl rfl (C_asksAct _ (U (u2 g 166 71 0) r w v) _ _ i (by omega) x (show g 171 i ≤ 6 from hkd i (by omega)) (show g 172 i ≤ 9 from hvv i (by omega)) (show 0 + 5 ≤ 60 by omega) ⟨rfl, congrArg (fun z => HN z hl (RF rt)) (U_bds _ _ _ _ _)⟩) (fun r h' hr => ?_)
          obtain ⟨rfl, rfl⟩ := hr
          refine Ev.run 1 (pc' := 58) (lv' := [(0, .ref 166), (1, .int (nI i)), (2, .int (nI a)), (3, .int (x))]) (st' := [.int (akX (g 171 i) i (g 172 i) x)]) (h' := HN (U (bdsG (u2 g 166 71 0) (akL (g 171 i))) r w v) hl (RF rt)) rfl ?_
          refine Ev.ret (v := some (.int (akX (g 171 i) i (g 172 i) x))) rfl ?_
          unfold rs_act gs_act actL at hq
          rw [if_pos (by omega), if_neg hc26, if_pos hc40, if_pos (by omega), if_neg hc26, if_pos hc40] at hq
          exact hq
        · have hc40 : ¬ (a = 1) := fun z => hc40 ((nI_eqU (by omega) (by omega)).mpr z)
          refine Ev.run 3 (pc' := 55) (lv' := [(0, .ref 166), (1, .int (nI i)), (2, .int (nI a)), (3, .int (x))]) (st' := [.int (x), .int (nI i), .ref 166]) (h' := HN (U (u2 g 166 71 0) r w v) hl (RF rt)) rfl ?_
          refine Ev.call (a := 230) (as := [.ref 166, .int (nI i), .int (x)]) (rest := []) (lv0 := [(0, .ref 166), (1, .int (nI i)), (2, .int (x))]) (Q1 := (fun z0 h' => z0 = some (.int (teX (g 171 i) i (g 172 i) x)) ∧ h' = HN (U (bdsG (u2 g 166 71 0) (teL (g 171 i))) r w v) hl (RF rt))) rfl rfl (C_tellsAct _ (U (u2 g 166 71 0) r w v) _ _ i (by omega) x (show g 171 i ≤ 6 from hkd i (by omega)) (show g 172 i ≤ 9 from hvv i (by omega)) (show 0 + 13 ≤ 60 by omega) ⟨rfl, congrArg (fun z => HN z hl (RF rt)) (U_bds _ _ _ _ _)⟩) (fun r h' hr => ?_)
          obtain ⟨rfl, rfl⟩ := hr
          refine Ev.ret (v := some (.int (teX (g 171 i) i (g 172 i) x))) rfl ?_
          unfold rs_act gs_act actL at hq
          rw [if_pos (by omega), if_neg hc26, if_neg hc40, if_pos (by omega), if_pos (by omega), if_neg hc26, if_neg hc40, if_pos (by omega)] at hq
          exact hq
    · have hhb20 : ¬ (a ≤ 2) := of_decide_eq_false hb20
      refine Ev.run 2 (pc' := 24) (lv' := [(0, .ref 166), (1, .int (nI i)), (2, .int (nI a)), (3, .int (x))]) (st' := [.int (nI 0)]) (h' := HN (U (u2 g 166 71 0) r w v) hl (RF rt)) rfl ?_
      refine Ev.ret (v := some (.int (nI 0))) rfl ?_
      unfold rs_act gs_act actL at hq
      first | (rw [if_neg (by omega), if_neg (by omega)] at hq) | (rw [if_pos (by omega), if_neg (by omega), if_neg (by omega), if_neg (by omega), if_pos (by omega), if_neg (by omega), if_neg (by omega), if_neg (by omega)] at hq)
      rw [bds_nil] at hq
      exact hq
  · have hhb10 : ¬ (i < g 166 6) := of_decide_eq_false hb10
    refine Ev.run 2 (pc' := 24) (lv' := [(0, .ref 166), (1, .int (nI i)), (2, .int (nI a)), (3, .int (x))]) (st' := [.int (nI 0)]) (h' := HN (U (u2 g 166 71 0) r w v) hl (RF rt)) rfl ?_
    refine Ev.ret (v := some (.int (nI 0))) rfl ?_
    unfold rs_act gs_act actL at hq
    first | (rw [if_neg (by omega), if_neg (by omega)] at hq) | (rw [if_pos (by omega), if_neg (by omega), if_neg (by omega), if_neg (by omega), if_pos (by omega), if_neg (by omega), if_neg (by omega), if_neg (by omega)] at hq)
    rw [bds_nil] at hq
    exact hq
/-- n places of a cell of longs -/
def cpL (g : Nat → Nat → Int64) (c lo n : Nat) (src : Nat → Int64) : Nat → Nat → Int64 := fun a b => if a = c then (if lo ≤ b ∧ b < lo + n then src (b - lo) else g c b) else g a b
theorem cpL_s (g : Nat → Nat → Int64) (c lo n : Nat) (src : Nat → Int64) : u2 (cpL g c lo n src) c (lo + n) (src n) = cpL g c lo (n + 1) src := by
  funext a b
  unfold u2 cpL
  by_cases ha : a = c
  · subst ha
    simp only [if_true]
    by_cases hb : b = lo + n
    · subst hb
      rw [if_pos rfl, if_pos (by omega), Nat.add_sub_cancel_left]
    · rw [if_neg hb]
      by_cases h1 : lo ≤ b ∧ b < lo + n
      · rw [if_pos h1, if_pos (by omega)]
      · rw [if_neg h1, if_neg (by omega)]
  · simp only [if_neg ha]
theorem cpL_0 (g : Nat → Nat → Int64) (c lo : Nat) (src : Nat → Int64) : cpL g c lo 0 src = g := by
  funext a b
  unfold cpL
  by_cases ha : a = c
  · subst ha
    rw [if_pos rfl, if_neg (by omega)]
  · rw [if_neg ha]
theorem nI_leS {a b : Nat} (ha : a < 2 ^ 32) (hb : b < 2 ^ 31) : nI a ≤ nI b ↔ (a ≤ b ∨ 2147483648 ≤ a) := by
  rw [Int32.le_iff_toInt_le, nI_tI ha, nI_toInt hb]
  split <;> omega
theorem inN {v : Nat} (hv : v < 2 ^ 32) : (decide (nI 4294967295 ≤ nI v) && decide (nI v ≤ nI 4)) = decide (v ≤ 4 ∨ v = 4294967295) := by
  rw [decide_eq_decide.mpr Int32.le_iff_toInt_le, decide_eq_decide.mpr Int32.le_iff_toInt_le, ← Bool.decide_and, nI_tI hv, nI_toInt (by decide : 4 < 2 ^ 31), nI_tI (by decide : 4294967295 < 2 ^ 32)]
  refine decide_eq_decide.mpr ?_
  rw [if_neg (by decide)]
  split <;> omega
def rs_tape (t s n : Nat) : Nat := if t ≤ 5 then (if s ≤ 4 ∨ s = 4294967295 then (if s = 4294967295 then 1 else if 2147483648 ≤ n then 4294967282 else if 60 < n then 4294967294 else 1) else 4294967294) else 4294967295
def okTp (t s n : Nat) : Prop := t ≤ 5 ∧ (s = 4294967295 ∨ (s ≤ 4 ∧ n ≤ 60))
noncomputable def gs_tape (g : Nat → Nat → Nat) (t s n : Nat) : Nat → Nat → Nat := if dc (okTp t s n) = true then u2 (u2 g 206 t s) 207 t (if 2147483648 ≤ s then 0 else n) else g
noncomputable def hs_tape (hl : Nat → Nat → Int64) (t s n : Nat) : Nat → Nat → Int64 := if dc (okTp t s n) = true then cpL hl 208 (60 * t) 60 (fun _ => Int64.ofNat 0) else hl
theorem U_u (g : Nat → Nat → Nat) (r w v : Nat → Nat) (c j x : Nat) (h1 : c ≠ 175) (h2 : c ≠ 185) (h3 : c ≠ 186) : u2 (U g r w v) c j x = U (u2 g c j x) r w v := by
  funext a b; unfold u2 U ur
  by_cases e : a = c
  · subst e; simp [h1, h2, h3]
  · simp [e]
theorem C_tape {L : Nat} {xs : Nat → Int32} (d : Nat) (g : Nat → Nat → Nat) (hl : Nat → Nat → Int64) (rt : Nat × Nat × Nat × Nat) (hI : MI g) (t : Nat) (s : Nat) (n : Nat) (ht : t < 2 ^ 32) (hs : s < 2 ^ 32) (hn : n < 2 ^ 32) (r w v : Nat → Nat) (hs : SmH g r v)  {Q : Po} (hq : Q (some (.int (nI (rs_tape t s n)))) (HN (U (gs_tape g t s n) r w v) (hs_tape hl t s n) (RF rt))) : Ev L xs (d + 2) 236 0 [(0, .ref 166), (1, .int (nI t)), (2, .int (nI s)), (3, .int (nI n))] [] (HN (U g r w v) hl (RF rt)) Q := by
  have hW := hI.hW
  have hS := hI.hS
  have hPl := hI.hPl
  have hNx := hI.hNx
  have hLa := hI.hLa
  have hLo := hI.hLo
  have hTb := hI.hTb
  have hTh := hI.hTh
  have hFd := hI.hFd
  have hSn := hI.hSn
  have hSh := hI.hSh
  have hRan := hI.hRan
  have hLr := hI.hLr
  have hLt := hI.hLt
  have hgl := hI.hgl
  have hsz := hI.hsz
  have hcm := hI.hcm
  have hsl := hI.hsl
  have hkd := hI.hkd
  have hvv := hI.hvv
  have hli := hI.hli
  have hro := hI.hro
  have hrw := hI.hrw
  have htx := hI.htx
  have hsw := hI.hsw
  have hsx := hI.hsx
  have hsy := hI.hsy
  have hsh := hI.hsh
  have hle := hI.hle
  have hcl := hI.hcl
  have hwd := hI.hwd
  have hnu := hI.hnu
  have hwn := hI.hwn
  have hs1 := hI.hs1
  have hso := hI.hso
  refine Ev.run 2 (pc' := 2) (lv' := [(0, .ref 166), (1, .int (nI t)), (2, .int (nI s)), (3, .int (nI n))]) (st' := [.int (nI t), .ref 166]) (h' := HN (U g r w v) hl (RF rt)) rfl ?_
  refine Ev.call (a := 235) (as := [.ref 166, .int (nI t)]) (rest := []) (lv0 := [(0, .ref 166), (1, .int (nI t))]) (Q1 := (fun z0 h' => z0 = some (.int (nI (bn (decide (t ≤ 5))))) ∧ h' = HN (U g r w v) hl (RF rt))) rfl rfl (C_isTape _ _ _ _ t (by omega) ⟨rfl, rfl⟩) (fun r h' hr => ?_)
  obtain ⟨rfl, rfl⟩ := hr
  refine Ev_bn (fun hb5 => ?_) (fun hb5 => ?_)
  · have hhb5 : t ≤ 5 := of_decide_eq_true hb5
    refine Ev.run 5 (pc' := 14) (lv' := [(0, .ref 166), (1, .int (nI t)), (2, .int (nI s)), (3, .int (nI n))]) (st' := [.int (nI 4), .int (nI 4294967295), .int (nI s), .ref 166]) (h' := HN (U g r w v) hl (RF rt)) rfl ?_
    refine Ev.call (a := 126) (as := [.ref 166, .int (nI s), .int (nI 4294967295), .int (nI 4)]) (rest := []) (lv0 := [(0, .ref 166), (1, .int (nI s)), (2, .int (nI 4294967295)), (3, .int (nI 4))]) (Q1 := (fun z0 h' => z0 = some (.int (nI (bn (decide (s ≤ 4 ∨ s = 4294967295))))) ∧ h' = HN (U g r w v) hl (RF rt))) rfl rfl (C_in _ _ _ _ (nI s) (nI 4294967295) (nI 4) (by rw [inN (by omega)]; exact ⟨rfl, rfl⟩)) (fun r h' hr => ?_)
    obtain ⟨rfl, rfl⟩ := hr
    refine Ev_bn (fun hb17 => ?_) (fun hb17 => ?_)
    · have hhb17 : s ≤ 4 ∨ s = 4294967295 := of_decide_eq_true hb17
      refine Ev.run 3 (pc' := (if nI s < 0 then 33 else 24)) (lv' := [(0, .ref 166), (1, .int (nI t)), (2, .int (nI s)), (3, .int (nI n))]) (st' := []) (h' := HN (U g r w v) hl (RF rt)) rfl ?_
      refine Ev.ite (fun hc21 => ?_) (fun hc21 => ?_)
      · have hc21 : 2147483648 ≤ s := (nI_ltU0 (by omega)).mp hc21
        refine Ev.run 2 (pc' := (if nI s < 0 then 44 else 37)) (lv' := [(0, .ref 166), (1, .int (nI t)), (2, .int (nI s)), (3, .int (nI n))]) (st' := []) (h' := HN (U g r w v) hl (RF rt)) rfl ?_
        refine Ev.ite (fun hc34 => ?_) (fun hc34 => ?_)
        · have hc34 : 2147483648 ≤ s := (nI_ltU0 (by omega)).mp hc34
          refine Ev.run 4 (pc' := 50) (lv' := [(0, .ref 166), (1, .int (nI t)), (2, .int (nI s)), (3, .int (nI n))]) (st' := [.int (nI s), .int (nI t), .ref 206]) (h' := HN (U g r w v) hl (RF rt)) rfl ?_
          refine Ev_iast rfl rfl (show t < 6 by omega) (Nat.le_of_ble_eq_true rfl) ?_
          refine Ev.run 5 (pc' := (if 0 ≤ nI s then 64 else 60)) (lv' := [(0, .ref 166), (1, .int (nI t)), (2, .int (nI s)), (3, .int (nI n))]) (st' := [.int (nI t), .ref 207]) (h' := HN (u2 (U g r w v) 206 t s) hl (RF rt)) rfl ?_
          refine Ev.ite (fun hc57 => ?_) (fun hc57 => ?_)
          · have hc57 : s < 2147483648 := (nI_geU0 (by omega)).mp hc57
            refine Ev.run 1 (pc' := 65) (lv' := [(0, .ref 166), (1, .int (nI t)), (2, .int (nI s)), (3, .int (nI n))]) (st' := [.int (nI n), .int (nI t), .ref 207]) (h' := HN (u2 (U g r w v) 206 t s) hl (RF rt)) rfl ?_
            refine Ev_iast rfl rfl (show t < 6 by omega) (Nat.le_of_ble_eq_true rfl) ?_
            refine Ev.run 2 (pc' := 69) (lv' := [(4, .int (nI 0)), (0, .ref 166), (1, .int (nI t)), (2, .int (nI s)), (3, .int (nI n))]) (st' := []) (h' := HN (u2 (u2 (U g r w v) 206 t s) 207 t n) hl (RF rt)) rfl ?_
            refine Ev.hp (congrArg (fun z => HN (u2 (u2 (U g r w v) 206 t s) 207 t n) z (RF rt)) (cpL_0 hl 208 (60 * t) (fun _ => Int64.ofNat 0)).symm) ?_
            refine for_ind 60 (fun m => Ev L xs (d + 2) 236 69 [(4, .int (nI m)), (0, .ref 166), (1, .int (nI t)), (2, .int (nI s)), (3, .int (nI n))] [] (HN (u2 (u2 (U g r w v) 206 t s) 207 t n) (cpL hl 208 (60 * t) m (fun _ => Int64.ofNat 0)) (RF rt)) Q) (fun m hm hnext => ?_) 0 (Nat.zero_le _)
            refine Ev.run 3 (pc' := (if nI 60 ≤ nI m then 95 else 76)) (lv' := [(4, .int (nI m)), (0, .ref 166), (1, .int (nI t)), (2, .int (nI s)), (3, .int (nI n))]) (st' := []) (h' := HN (u2 (u2 (U g r w v) 206 t s) 207 t n) (cpL hl 208 (60 * t) m (fun _ => Int64.ofNat 0)) (RF rt)) rfl ?_
            refine Ev.ite (fun hc73 => ?_) (fun hc73 => ?_)
            · have hc73 : 60 ≤ m := (nI_leI (by omega) (by omega)).mp hc73
              refine Ev.run 1 (pc' := 96) (lv' := [(4, .int (nI m)), (0, .ref 166), (1, .int (nI t)), (2, .int (nI s)), (3, .int (nI n))]) (st' := [.int (nI 1)]) (h' := HN (u2 (u2 (U g r w v) 206 t s) 207 t n) (cpL hl 208 (60 * t) m (fun _ => Int64.ofNat 0)) (RF rt)) rfl ?_
              refine Ev.ret (v := some (.int (nI 1))) rfl ?_
              obtain rfl : m = 60 := by omega
              have hok : dc (okTp t s n) = true := dc_t ⟨by omega, by omega⟩
              unfold gs_tape hs_tape at hq
              rw [if_pos hok, if_pos hok, if_neg (by omega)] at hq
              rw [show rs_tape t s n = 1 by unfold rs_tape; rw [if_pos (by omega), if_pos (by omega)]; by_cases hsn : s = 4294967295 <;> first | rw [if_pos hsn] | rw [if_neg hsn, if_neg (by omega), if_neg (by omega)]] at hq
              rw [U_u _ _ _ _ 206 _ _ (by decide) (by decide) (by decide), U_u _ _ _ _ 207 _ _ (by decide) (by decide) (by decide)]
              exact hq
            · have hc73 : ¬ (60 ≤ m) := fun z => hc73 ((nI_leI (by omega) (by omega)).mpr z)
              refine Ev.run 5 (pc' := 84) (lv' := [(4, .int (nI m)), (0, .ref 166), (1, .int (nI t)), (2, .int (nI s)), (3, .int (nI n))]) (st' := [.int (nI 60 * nI t), .ref 208]) (h' := HN (u2 (u2 (U g r w v) 206 t s) 207 t n) (cpL hl 208 (60 * t) m (fun _ => Int64.ofNat 0)) (RF rt)) rfl ?_
              refine Ev.topI (pk_mul _ _) ?_
              refine Ev.run 2 (pc' := 87) (lv' := [(4, .int (nI m)), (0, .ref 166), (1, .int (nI t)), (2, .int (nI s)), (3, .int (nI n))]) (st' := [.int (nI (60 * t) + nI m), .ref 208]) (h' := HN (u2 (u2 (U g r w v) 206 t s) 207 t n) (cpL hl 208 (60 * t) m (fun _ => Int64.ofNat 0)) (RF rt)) rfl ?_
              refine Ev.topI (nI_add _ _) ?_
              refine Ev.run 1 (pc' := 88) (lv' := [(4, .int (nI m)), (0, .ref 166), (1, .int (nI t)), (2, .int (nI s)), (3, .int (nI n))]) (st' := [.long (0), .int (nI ((60 * t) + m)), .ref 208]) (h' := HN (u2 (u2 (U g r w v) 206 t s) 207 t n) (cpL hl 208 (60 * t) m (fun _ => Int64.ofNat 0)) (RF rt)) rfl ?_
              refine Ev_last rfl rfl (show (60 * t) + m < 360 by omega) (Nat.le_of_ble_eq_true rfl) ?_
              refine Ev.run 1 (pc' := 92) (lv' := [(4, .int (nI m + 1)), (0, .ref 166), (1, .int (nI t)), (2, .int (nI s)), (3, .int (nI n))]) (st' := []) (h' := HN (u2 (u2 (U g r w v) 206 t s) 207 t n) (u2 (cpL hl 208 (60 * t) m (fun _ => Int64.ofNat 0)) 208 ((60 * t) + m) 0) (RF rt)) rfl ?_
              refine Ev.lvE (congrArg (fun z => (4, Value.int z) :: [(0, .ref 166), (1, .int (nI t)), (2, .int (nI s)), (3, .int (nI n))]) (nI_1 _)) ?_
              refine Ev.run 1 (pc' := 69) (lv' := [(4, .int (nI (m + 1))), (0, .ref 166), (1, .int (nI t)), (2, .int (nI s)), (3, .int (nI n))]) (st' := []) (h' := HN (u2 (u2 (U g r w v) 206 t s) 207 t n) (u2 (cpL hl 208 (60 * t) m (fun _ => Int64.ofNat 0)) 208 ((60 * t) + m) 0) (RF rt)) rfl ?_
              have hx := hnext (by omega)
              rw [← cpL_s] at hx
              exact hx
          · have hc57 : ¬ (s < 2147483648) := fun z => hc57 ((nI_geU0 (by omega)).mpr z)
            refine Ev.run 2 (pc' := 65) (lv' := [(0, .ref 166), (1, .int (nI t)), (2, .int (nI s)), (3, .int (nI n))]) (st' := [.int (nI 0), .int (nI t), .ref 207]) (h' := HN (u2 (U g r w v) 206 t s) hl (RF rt)) rfl ?_
            refine Ev_iast rfl rfl (show t < 6 by omega) (Nat.le_of_ble_eq_true rfl) ?_
            refine Ev.run 2 (pc' := 69) (lv' := [(4, .int (nI 0)), (0, .ref 166), (1, .int (nI t)), (2, .int (nI s)), (3, .int (nI n))]) (st' := []) (h' := HN (u2 (u2 (U g r w v) 206 t s) 207 t 0) hl (RF rt)) rfl ?_
            refine Ev.hp (congrArg (fun z => HN (u2 (u2 (U g r w v) 206 t s) 207 t 0) z (RF rt)) (cpL_0 hl 208 (60 * t) (fun _ => Int64.ofNat 0)).symm) ?_
            refine for_ind 60 (fun m => Ev L xs (d + 2) 236 69 [(4, .int (nI m)), (0, .ref 166), (1, .int (nI t)), (2, .int (nI s)), (3, .int (nI n))] [] (HN (u2 (u2 (U g r w v) 206 t s) 207 t 0) (cpL hl 208 (60 * t) m (fun _ => Int64.ofNat 0)) (RF rt)) Q) (fun m hm hnext => ?_) 0 (Nat.zero_le _)
            refine Ev.run 3 (pc' := (if nI 60 ≤ nI m then 95 else 76)) (lv' := [(4, .int (nI m)), (0, .ref 166), (1, .int (nI t)), (2, .int (nI s)), (3, .int (nI n))]) (st' := []) (h' := HN (u2 (u2 (U g r w v) 206 t s) 207 t 0) (cpL hl 208 (60 * t) m (fun _ => Int64.ofNat 0)) (RF rt)) rfl ?_
            refine Ev.ite (fun hc73 => ?_) (fun hc73 => ?_)
            · have hc73 : 60 ≤ m := (nI_leI (by omega) (by omega)).mp hc73
              refine Ev.run 1 (pc' := 96) (lv' := [(4, .int (nI m)), (0, .ref 166), (1, .int (nI t)), (2, .int (nI s)), (3, .int (nI n))]) (st' := [.int (nI 1)]) (h' := HN (u2 (u2 (U g r w v) 206 t s) 207 t 0) (cpL hl 208 (60 * t) m (fun _ => Int64.ofNat 0)) (RF rt)) rfl ?_
              refine Ev.ret (v := some (.int (nI 1))) rfl ?_
              obtain rfl : m = 60 := by omega
              have hok : dc (okTp t s n) = true := dc_t ⟨by omega, by omega⟩
              unfold gs_tape hs_tape at hq
              rw [if_pos hok, if_pos hok, if_pos (by omega)] at hq
              rw [show rs_tape t s n = 1 by unfold rs_tape; rw [if_pos (by omega), if_pos (by omega)]; by_cases hsn : s = 4294967295 <;> first | rw [if_pos hsn] | rw [if_neg hsn, if_neg (by omega), if_neg (by omega)]] at hq
              rw [U_u _ _ _ _ 206 _ _ (by decide) (by decide) (by decide), U_u _ _ _ _ 207 _ _ (by decide) (by decide) (by decide)]
              exact hq
            · have hc73 : ¬ (60 ≤ m) := fun z => hc73 ((nI_leI (by omega) (by omega)).mpr z)
              refine Ev.run 5 (pc' := 84) (lv' := [(4, .int (nI m)), (0, .ref 166), (1, .int (nI t)), (2, .int (nI s)), (3, .int (nI n))]) (st' := [.int (nI 60 * nI t), .ref 208]) (h' := HN (u2 (u2 (U g r w v) 206 t s) 207 t 0) (cpL hl 208 (60 * t) m (fun _ => Int64.ofNat 0)) (RF rt)) rfl ?_
              refine Ev.topI (pk_mul _ _) ?_
              refine Ev.run 2 (pc' := 87) (lv' := [(4, .int (nI m)), (0, .ref 166), (1, .int (nI t)), (2, .int (nI s)), (3, .int (nI n))]) (st' := [.int (nI (60 * t) + nI m), .ref 208]) (h' := HN (u2 (u2 (U g r w v) 206 t s) 207 t 0) (cpL hl 208 (60 * t) m (fun _ => Int64.ofNat 0)) (RF rt)) rfl ?_
              refine Ev.topI (nI_add _ _) ?_
              refine Ev.run 1 (pc' := 88) (lv' := [(4, .int (nI m)), (0, .ref 166), (1, .int (nI t)), (2, .int (nI s)), (3, .int (nI n))]) (st' := [.long (0), .int (nI ((60 * t) + m)), .ref 208]) (h' := HN (u2 (u2 (U g r w v) 206 t s) 207 t 0) (cpL hl 208 (60 * t) m (fun _ => Int64.ofNat 0)) (RF rt)) rfl ?_
              refine Ev_last rfl rfl (show (60 * t) + m < 360 by omega) (Nat.le_of_ble_eq_true rfl) ?_
              refine Ev.run 1 (pc' := 92) (lv' := [(4, .int (nI m + 1)), (0, .ref 166), (1, .int (nI t)), (2, .int (nI s)), (3, .int (nI n))]) (st' := []) (h' := HN (u2 (u2 (U g r w v) 206 t s) 207 t 0) (u2 (cpL hl 208 (60 * t) m (fun _ => Int64.ofNat 0)) 208 ((60 * t) + m) 0) (RF rt)) rfl ?_
              refine Ev.lvE (congrArg (fun z => (4, Value.int z) :: [(0, .ref 166), (1, .int (nI t)), (2, .int (nI s)), (3, .int (nI n))]) (nI_1 _)) ?_
              refine Ev.run 1 (pc' := 69) (lv' := [(4, .int (nI (m + 1))), (0, .ref 166), (1, .int (nI t)), (2, .int (nI s)), (3, .int (nI n))]) (st' := []) (h' := HN (u2 (u2 (U g r w v) 206 t s) 207 t 0) (u2 (cpL hl 208 (60 * t) m (fun _ => Int64.ofNat 0)) 208 ((60 * t) + m) 0) (RF rt)) rfl ?_
              have hx := hnext (by omega)
              rw [← cpL_s] at hx
              exact hx
        · have hc34 : ¬ (2147483648 ≤ s) := fun z => hc34 ((nI_ltU0 (by omega)).mpr z)
          refine Ev.run 2 (pc' := (if 0 ≤ nI n then 44 else 41)) (lv' := [(0, .ref 166), (1, .int (nI t)), (2, .int (nI s)), (3, .int (nI n))]) (st' := []) (h' := HN (U g r w v) hl (RF rt)) rfl ?_
          refine Ev.ite (fun hc38 => ?_) (fun hc38 => ?_)
          · have hc38 : n < 2147483648 := (nI_geU0 (by omega)).mp hc38
            refine Ev.run 4 (pc' := 50) (lv' := [(0, .ref 166), (1, .int (nI t)), (2, .int (nI s)), (3, .int (nI n))]) (st' := [.int (nI s), .int (nI t), .ref 206]) (h' := HN (U g r w v) hl (RF rt)) rfl ?_
            refine Ev_iast rfl rfl (show t < 6 by omega) (Nat.le_of_ble_eq_true rfl) ?_
            refine Ev.run 5 (pc' := (if 0 ≤ nI s then 64 else 60)) (lv' := [(0, .ref 166), (1, .int (nI t)), (2, .int (nI s)), (3, .int (nI n))]) (st' := [.int (nI t), .ref 207]) (h' := HN (u2 (U g r w v) 206 t s) hl (RF rt)) rfl ?_
            refine Ev.ite (fun hc57 => ?_) (fun hc57 => ?_)
            · have hc57 : s < 2147483648 := (nI_geU0 (by omega)).mp hc57
              refine Ev.run 1 (pc' := 65) (lv' := [(0, .ref 166), (1, .int (nI t)), (2, .int (nI s)), (3, .int (nI n))]) (st' := [.int (nI n), .int (nI t), .ref 207]) (h' := HN (u2 (U g r w v) 206 t s) hl (RF rt)) rfl ?_
              refine Ev_iast rfl rfl (show t < 6 by omega) (Nat.le_of_ble_eq_true rfl) ?_
              refine Ev.run 2 (pc' := 69) (lv' := [(4, .int (nI 0)), (0, .ref 166), (1, .int (nI t)), (2, .int (nI s)), (3, .int (nI n))]) (st' := []) (h' := HN (u2 (u2 (U g r w v) 206 t s) 207 t n) hl (RF rt)) rfl ?_
              refine Ev.hp (congrArg (fun z => HN (u2 (u2 (U g r w v) 206 t s) 207 t n) z (RF rt)) (cpL_0 hl 208 (60 * t) (fun _ => Int64.ofNat 0)).symm) ?_
              refine for_ind 60 (fun m => Ev L xs (d + 2) 236 69 [(4, .int (nI m)), (0, .ref 166), (1, .int (nI t)), (2, .int (nI s)), (3, .int (nI n))] [] (HN (u2 (u2 (U g r w v) 206 t s) 207 t n) (cpL hl 208 (60 * t) m (fun _ => Int64.ofNat 0)) (RF rt)) Q) (fun m hm hnext => ?_) 0 (Nat.zero_le _)
              refine Ev.run 3 (pc' := (if nI 60 ≤ nI m then 95 else 76)) (lv' := [(4, .int (nI m)), (0, .ref 166), (1, .int (nI t)), (2, .int (nI s)), (3, .int (nI n))]) (st' := []) (h' := HN (u2 (u2 (U g r w v) 206 t s) 207 t n) (cpL hl 208 (60 * t) m (fun _ => Int64.ofNat 0)) (RF rt)) rfl ?_
              refine Ev.ite (fun hc73 => ?_) (fun hc73 => ?_)
              · have hc73 : 60 ≤ m := (nI_leI (by omega) (by omega)).mp hc73
                refine Ev.run 1 (pc' := 96) (lv' := [(4, .int (nI m)), (0, .ref 166), (1, .int (nI t)), (2, .int (nI s)), (3, .int (nI n))]) (st' := [.int (nI 1)]) (h' := HN (u2 (u2 (U g r w v) 206 t s) 207 t n) (cpL hl 208 (60 * t) m (fun _ => Int64.ofNat 0)) (RF rt)) rfl ?_
                refine Ev.ret (v := some (.int (nI 1))) rfl ?_
                obtain rfl : m = 60 := by omega
                have hok : dc (okTp t s n) = true := dc_t ⟨by omega, by omega⟩
                unfold gs_tape hs_tape at hq
                rw [if_pos hok, if_pos hok, if_neg (by omega)] at hq
                rw [show rs_tape t s n = 1 by unfold rs_tape; rw [if_pos (by omega), if_pos (by omega)]; by_cases hsn : s = 4294967295 <;> first | rw [if_pos hsn] | rw [if_neg hsn, if_neg (by omega), if_neg (by omega)]] at hq
                rw [U_u _ _ _ _ 206 _ _ (by decide) (by decide) (by decide), U_u _ _ _ _ 207 _ _ (by decide) (by decide) (by decide)]
                exact hq
              · have hc73 : ¬ (60 ≤ m) := fun z => hc73 ((nI_leI (by omega) (by omega)).mpr z)
                refine Ev.run 5 (pc' := 84) (lv' := [(4, .int (nI m)), (0, .ref 166), (1, .int (nI t)), (2, .int (nI s)), (3, .int (nI n))]) (st' := [.int (nI 60 * nI t), .ref 208]) (h' := HN (u2 (u2 (U g r w v) 206 t s) 207 t n) (cpL hl 208 (60 * t) m (fun _ => Int64.ofNat 0)) (RF rt)) rfl ?_
                refine Ev.topI (pk_mul _ _) ?_
                refine Ev.run 2 (pc' := 87) (lv' := [(4, .int (nI m)), (0, .ref 166), (1, .int (nI t)), (2, .int (nI s)), (3, .int (nI n))]) (st' := [.int (nI (60 * t) + nI m), .ref 208]) (h' := HN (u2 (u2 (U g r w v) 206 t s) 207 t n) (cpL hl 208 (60 * t) m (fun _ => Int64.ofNat 0)) (RF rt)) rfl ?_
                refine Ev.topI (nI_add _ _) ?_
                refine Ev.run 1 (pc' := 88) (lv' := [(4, .int (nI m)), (0, .ref 166), (1, .int (nI t)), (2, .int (nI s)), (3, .int (nI n))]) (st' := [.long (0), .int (nI ((60 * t) + m)), .ref 208]) (h' := HN (u2 (u2 (U g r w v) 206 t s) 207 t n) (cpL hl 208 (60 * t) m (fun _ => Int64.ofNat 0)) (RF rt)) rfl ?_
                refine Ev_last rfl rfl (show (60 * t) + m < 360 by omega) (Nat.le_of_ble_eq_true rfl) ?_
                refine Ev.run 1 (pc' := 92) (lv' := [(4, .int (nI m + 1)), (0, .ref 166), (1, .int (nI t)), (2, .int (nI s)), (3, .int (nI n))]) (st' := []) (h' := HN (u2 (u2 (U g r w v) 206 t s) 207 t n) (u2 (cpL hl 208 (60 * t) m (fun _ => Int64.ofNat 0)) 208 ((60 * t) + m) 0) (RF rt)) rfl ?_
                refine Ev.lvE (congrArg (fun z => (4, Value.int z) :: [(0, .ref 166), (1, .int (nI t)), (2, .int (nI s)), (3, .int (nI n))]) (nI_1 _)) ?_
                refine Ev.run 1 (pc' := 69) (lv' := [(4, .int (nI (m + 1))), (0, .ref 166), (1, .int (nI t)), (2, .int (nI s)), (3, .int (nI n))]) (st' := []) (h' := HN (u2 (u2 (U g r w v) 206 t s) 207 t n) (u2 (cpL hl 208 (60 * t) m (fun _ => Int64.ofNat 0)) 208 ((60 * t) + m) 0) (RF rt)) rfl ?_
                have hx := hnext (by omega)
                rw [← cpL_s] at hx
                exact hx
            · have hc57 : ¬ (s < 2147483648) := fun z => hc57 ((nI_geU0 (by omega)).mpr z)
              refine Ev.run 2 (pc' := 65) (lv' := [(0, .ref 166), (1, .int (nI t)), (2, .int (nI s)), (3, .int (nI n))]) (st' := [.int (nI 0), .int (nI t), .ref 207]) (h' := HN (u2 (U g r w v) 206 t s) hl (RF rt)) rfl ?_
              refine Ev_iast rfl rfl (show t < 6 by omega) (Nat.le_of_ble_eq_true rfl) ?_
              refine Ev.run 2 (pc' := 69) (lv' := [(4, .int (nI 0)), (0, .ref 166), (1, .int (nI t)), (2, .int (nI s)), (3, .int (nI n))]) (st' := []) (h' := HN (u2 (u2 (U g r w v) 206 t s) 207 t 0) hl (RF rt)) rfl ?_
              refine Ev.hp (congrArg (fun z => HN (u2 (u2 (U g r w v) 206 t s) 207 t 0) z (RF rt)) (cpL_0 hl 208 (60 * t) (fun _ => Int64.ofNat 0)).symm) ?_
              refine for_ind 60 (fun m => Ev L xs (d + 2) 236 69 [(4, .int (nI m)), (0, .ref 166), (1, .int (nI t)), (2, .int (nI s)), (3, .int (nI n))] [] (HN (u2 (u2 (U g r w v) 206 t s) 207 t 0) (cpL hl 208 (60 * t) m (fun _ => Int64.ofNat 0)) (RF rt)) Q) (fun m hm hnext => ?_) 0 (Nat.zero_le _)
              refine Ev.run 3 (pc' := (if nI 60 ≤ nI m then 95 else 76)) (lv' := [(4, .int (nI m)), (0, .ref 166), (1, .int (nI t)), (2, .int (nI s)), (3, .int (nI n))]) (st' := []) (h' := HN (u2 (u2 (U g r w v) 206 t s) 207 t 0) (cpL hl 208 (60 * t) m (fun _ => Int64.ofNat 0)) (RF rt)) rfl ?_
              refine Ev.ite (fun hc73 => ?_) (fun hc73 => ?_)
              · have hc73 : 60 ≤ m := (nI_leI (by omega) (by omega)).mp hc73
                refine Ev.run 1 (pc' := 96) (lv' := [(4, .int (nI m)), (0, .ref 166), (1, .int (nI t)), (2, .int (nI s)), (3, .int (nI n))]) (st' := [.int (nI 1)]) (h' := HN (u2 (u2 (U g r w v) 206 t s) 207 t 0) (cpL hl 208 (60 * t) m (fun _ => Int64.ofNat 0)) (RF rt)) rfl ?_
                refine Ev.ret (v := some (.int (nI 1))) rfl ?_
                obtain rfl : m = 60 := by omega
                have hok : dc (okTp t s n) = true := dc_t ⟨by omega, by omega⟩
                unfold gs_tape hs_tape at hq
                rw [if_pos hok, if_pos hok, if_pos (by omega)] at hq
                rw [show rs_tape t s n = 1 by unfold rs_tape; rw [if_pos (by omega), if_pos (by omega)]; by_cases hsn : s = 4294967295 <;> first | rw [if_pos hsn] | rw [if_neg hsn, if_neg (by omega), if_neg (by omega)]] at hq
                rw [U_u _ _ _ _ 206 _ _ (by decide) (by decide) (by decide), U_u _ _ _ _ 207 _ _ (by decide) (by decide) (by decide)]
                exact hq
              · have hc73 : ¬ (60 ≤ m) := fun z => hc73 ((nI_leI (by omega) (by omega)).mpr z)
                refine Ev.run 5 (pc' := 84) (lv' := [(4, .int (nI m)), (0, .ref 166), (1, .int (nI t)), (2, .int (nI s)), (3, .int (nI n))]) (st' := [.int (nI 60 * nI t), .ref 208]) (h' := HN (u2 (u2 (U g r w v) 206 t s) 207 t 0) (cpL hl 208 (60 * t) m (fun _ => Int64.ofNat 0)) (RF rt)) rfl ?_
                refine Ev.topI (pk_mul _ _) ?_
                refine Ev.run 2 (pc' := 87) (lv' := [(4, .int (nI m)), (0, .ref 166), (1, .int (nI t)), (2, .int (nI s)), (3, .int (nI n))]) (st' := [.int (nI (60 * t) + nI m), .ref 208]) (h' := HN (u2 (u2 (U g r w v) 206 t s) 207 t 0) (cpL hl 208 (60 * t) m (fun _ => Int64.ofNat 0)) (RF rt)) rfl ?_
                refine Ev.topI (nI_add _ _) ?_
                refine Ev.run 1 (pc' := 88) (lv' := [(4, .int (nI m)), (0, .ref 166), (1, .int (nI t)), (2, .int (nI s)), (3, .int (nI n))]) (st' := [.long (0), .int (nI ((60 * t) + m)), .ref 208]) (h' := HN (u2 (u2 (U g r w v) 206 t s) 207 t 0) (cpL hl 208 (60 * t) m (fun _ => Int64.ofNat 0)) (RF rt)) rfl ?_
                refine Ev_last rfl rfl (show (60 * t) + m < 360 by omega) (Nat.le_of_ble_eq_true rfl) ?_
                refine Ev.run 1 (pc' := 92) (lv' := [(4, .int (nI m + 1)), (0, .ref 166), (1, .int (nI t)), (2, .int (nI s)), (3, .int (nI n))]) (st' := []) (h' := HN (u2 (u2 (U g r w v) 206 t s) 207 t 0) (u2 (cpL hl 208 (60 * t) m (fun _ => Int64.ofNat 0)) 208 ((60 * t) + m) 0) (RF rt)) rfl ?_
                refine Ev.lvE (congrArg (fun z => (4, Value.int z) :: [(0, .ref 166), (1, .int (nI t)), (2, .int (nI s)), (3, .int (nI n))]) (nI_1 _)) ?_
                refine Ev.run 1 (pc' := 69) (lv' := [(4, .int (nI (m + 1))), (0, .ref 166), (1, .int (nI t)), (2, .int (nI s)), (3, .int (nI n))]) (st' := []) (h' := HN (u2 (u2 (U g r w v) 206 t s) 207 t 0) (u2 (cpL hl 208 (60 * t) m (fun _ => Int64.ofNat 0)) 208 ((60 * t) + m) 0) (RF rt)) rfl ?_
                have hx := hnext (by omega)
                rw [← cpL_s] at hx
                exact hx
          · have hc38 : ¬ (n < 2147483648) := fun z => hc38 ((nI_geU0 (by omega)).mpr z)
            refine Ev.run 1 (pc' := 43) (lv' := [(0, .ref 166), (1, .int (nI t)), (2, .int (nI s)), (3, .int (nI n))]) (st' := [.int (nI 4294967282)]) (h' := HN (U g r w v) hl (RF rt)) rfl ?_
            refine Ev.ret (v := some (.int (nI 4294967282))) rfl ?_
            have hok : ¬ dc (okTp t s n) = true := fun z => by
              have z2 := dc_p z
              unfold okTp at z2
              omega
            unfold gs_tape hs_tape at hq
            rw [if_neg hok, if_neg hok] at hq
            rw [show rs_tape t s n = 4294967282 by unfold rs_tape; rw [if_pos (by omega), if_pos (by omega), if_neg (by omega), if_pos (by omega)]] at hq
            exact hq
      · have hc21 : ¬ (2147483648 ≤ s) := fun z => hc21 ((nI_ltU0 (by omega)).mpr z)
        refine Ev.run 3 (pc' := (if nI n ≤ nI 60 then 33 else 30)) (lv' := [(0, .ref 166), (1, .int (nI t)), (2, .int (nI s)), (3, .int (nI n))]) (st' := []) (h' := HN (U g r w v) hl (RF rt)) rfl ?_
        refine Ev.ite (fun hc27 => ?_) (fun hc27 => ?_)
        · have hc27 : n ≤ 60 ∨ 2147483648 ≤ n := (nI_leS (by omega) (by omega)).mp hc27
          refine Ev.run 2 (pc' := (if nI s < 0 then 44 else 37)) (lv' := [(0, .ref 166), (1, .int (nI t)), (2, .int (nI s)), (3, .int (nI n))]) (st' := []) (h' := HN (U g r w v) hl (RF rt)) rfl ?_
          refine Ev.ite (fun hc34 => ?_) (fun hc34 => ?_)
          · have hc34 : 2147483648 ≤ s := (nI_ltU0 (by omega)).mp hc34
            refine Ev.run 4 (pc' := 50) (lv' := [(0, .ref 166), (1, .int (nI t)), (2, .int (nI s)), (3, .int (nI n))]) (st' := [.int (nI s), .int (nI t), .ref 206]) (h' := HN (U g r w v) hl (RF rt)) rfl ?_
            refine Ev_iast rfl rfl (show t < 6 by omega) (Nat.le_of_ble_eq_true rfl) ?_
            refine Ev.run 5 (pc' := (if 0 ≤ nI s then 64 else 60)) (lv' := [(0, .ref 166), (1, .int (nI t)), (2, .int (nI s)), (3, .int (nI n))]) (st' := [.int (nI t), .ref 207]) (h' := HN (u2 (U g r w v) 206 t s) hl (RF rt)) rfl ?_
            refine Ev.ite (fun hc57 => ?_) (fun hc57 => ?_)
            · have hc57 : s < 2147483648 := (nI_geU0 (by omega)).mp hc57
              refine Ev.run 1 (pc' := 65) (lv' := [(0, .ref 166), (1, .int (nI t)), (2, .int (nI s)), (3, .int (nI n))]) (st' := [.int (nI n), .int (nI t), .ref 207]) (h' := HN (u2 (U g r w v) 206 t s) hl (RF rt)) rfl ?_
              refine Ev_iast rfl rfl (show t < 6 by omega) (Nat.le_of_ble_eq_true rfl) ?_
              refine Ev.run 2 (pc' := 69) (lv' := [(4, .int (nI 0)), (0, .ref 166), (1, .int (nI t)), (2, .int (nI s)), (3, .int (nI n))]) (st' := []) (h' := HN (u2 (u2 (U g r w v) 206 t s) 207 t n) hl (RF rt)) rfl ?_
              refine Ev.hp (congrArg (fun z => HN (u2 (u2 (U g r w v) 206 t s) 207 t n) z (RF rt)) (cpL_0 hl 208 (60 * t) (fun _ => Int64.ofNat 0)).symm) ?_
              refine for_ind 60 (fun m => Ev L xs (d + 2) 236 69 [(4, .int (nI m)), (0, .ref 166), (1, .int (nI t)), (2, .int (nI s)), (3, .int (nI n))] [] (HN (u2 (u2 (U g r w v) 206 t s) 207 t n) (cpL hl 208 (60 * t) m (fun _ => Int64.ofNat 0)) (RF rt)) Q) (fun m hm hnext => ?_) 0 (Nat.zero_le _)
              refine Ev.run 3 (pc' := (if nI 60 ≤ nI m then 95 else 76)) (lv' := [(4, .int (nI m)), (0, .ref 166), (1, .int (nI t)), (2, .int (nI s)), (3, .int (nI n))]) (st' := []) (h' := HN (u2 (u2 (U g r w v) 206 t s) 207 t n) (cpL hl 208 (60 * t) m (fun _ => Int64.ofNat 0)) (RF rt)) rfl ?_
              refine Ev.ite (fun hc73 => ?_) (fun hc73 => ?_)
              · have hc73 : 60 ≤ m := (nI_leI (by omega) (by omega)).mp hc73
                refine Ev.run 1 (pc' := 96) (lv' := [(4, .int (nI m)), (0, .ref 166), (1, .int (nI t)), (2, .int (nI s)), (3, .int (nI n))]) (st' := [.int (nI 1)]) (h' := HN (u2 (u2 (U g r w v) 206 t s) 207 t n) (cpL hl 208 (60 * t) m (fun _ => Int64.ofNat 0)) (RF rt)) rfl ?_
                refine Ev.ret (v := some (.int (nI 1))) rfl ?_
                obtain rfl : m = 60 := by omega
                have hok : dc (okTp t s n) = true := dc_t ⟨by omega, by omega⟩
                unfold gs_tape hs_tape at hq
                rw [if_pos hok, if_pos hok, if_neg (by omega)] at hq
                rw [show rs_tape t s n = 1 by unfold rs_tape; rw [if_pos (by omega), if_pos (by omega)]; by_cases hsn : s = 4294967295 <;> first | rw [if_pos hsn] | rw [if_neg hsn, if_neg (by omega), if_neg (by omega)]] at hq
                rw [U_u _ _ _ _ 206 _ _ (by decide) (by decide) (by decide), U_u _ _ _ _ 207 _ _ (by decide) (by decide) (by decide)]
                exact hq
              · have hc73 : ¬ (60 ≤ m) := fun z => hc73 ((nI_leI (by omega) (by omega)).mpr z)
                refine Ev.run 5 (pc' := 84) (lv' := [(4, .int (nI m)), (0, .ref 166), (1, .int (nI t)), (2, .int (nI s)), (3, .int (nI n))]) (st' := [.int (nI 60 * nI t), .ref 208]) (h' := HN (u2 (u2 (U g r w v) 206 t s) 207 t n) (cpL hl 208 (60 * t) m (fun _ => Int64.ofNat 0)) (RF rt)) rfl ?_
                refine Ev.topI (pk_mul _ _) ?_
                refine Ev.run 2 (pc' := 87) (lv' := [(4, .int (nI m)), (0, .ref 166), (1, .int (nI t)), (2, .int (nI s)), (3, .int (nI n))]) (st' := [.int (nI (60 * t) + nI m), .ref 208]) (h' := HN (u2 (u2 (U g r w v) 206 t s) 207 t n) (cpL hl 208 (60 * t) m (fun _ => Int64.ofNat 0)) (RF rt)) rfl ?_
                refine Ev.topI (nI_add _ _) ?_
                refine Ev.run 1 (pc' := 88) (lv' := [(4, .int (nI m)), (0, .ref 166), (1, .int (nI t)), (2, .int (nI s)), (3, .int (nI n))]) (st' := [.long (0), .int (nI ((60 * t) + m)), .ref 208]) (h' := HN (u2 (u2 (U g r w v) 206 t s) 207 t n) (cpL hl 208 (60 * t) m (fun _ => Int64.ofNat 0)) (RF rt)) rfl ?_
                refine Ev_last rfl rfl (show (60 * t) + m < 360 by omega) (Nat.le_of_ble_eq_true rfl) ?_
                refine Ev.run 1 (pc' := 92) (lv' := [(4, .int (nI m + 1)), (0, .ref 166), (1, .int (nI t)), (2, .int (nI s)), (3, .int (nI n))]) (st' := []) (h' := HN (u2 (u2 (U g r w v) 206 t s) 207 t n) (u2 (cpL hl 208 (60 * t) m (fun _ => Int64.ofNat 0)) 208 ((60 * t) + m) 0) (RF rt)) rfl ?_
                refine Ev.lvE (congrArg (fun z => (4, Value.int z) :: [(0, .ref 166), (1, .int (nI t)), (2, .int (nI s)), (3, .int (nI n))]) (nI_1 _)) ?_
                refine Ev.run 1 (pc' := 69) (lv' := [(4, .int (nI (m + 1))), (0, .ref 166), (1, .int (nI t)), (2, .int (nI s)), (3, .int (nI n))]) (st' := []) (h' := HN (u2 (u2 (U g r w v) 206 t s) 207 t n) (u2 (cpL hl 208 (60 * t) m (fun _ => Int64.ofNat 0)) 208 ((60 * t) + m) 0) (RF rt)) rfl ?_
                have hx := hnext (by omega)
                rw [← cpL_s] at hx
                exact hx
            · have hc57 : ¬ (s < 2147483648) := fun z => hc57 ((nI_geU0 (by omega)).mpr z)
              refine Ev.run 2 (pc' := 65) (lv' := [(0, .ref 166), (1, .int (nI t)), (2, .int (nI s)), (3, .int (nI n))]) (st' := [.int (nI 0), .int (nI t), .ref 207]) (h' := HN (u2 (U g r w v) 206 t s) hl (RF rt)) rfl ?_
              refine Ev_iast rfl rfl (show t < 6 by omega) (Nat.le_of_ble_eq_true rfl) ?_
              refine Ev.run 2 (pc' := 69) (lv' := [(4, .int (nI 0)), (0, .ref 166), (1, .int (nI t)), (2, .int (nI s)), (3, .int (nI n))]) (st' := []) (h' := HN (u2 (u2 (U g r w v) 206 t s) 207 t 0) hl (RF rt)) rfl ?_
              refine Ev.hp (congrArg (fun z => HN (u2 (u2 (U g r w v) 206 t s) 207 t 0) z (RF rt)) (cpL_0 hl 208 (60 * t) (fun _ => Int64.ofNat 0)).symm) ?_
              refine for_ind 60 (fun m => Ev L xs (d + 2) 236 69 [(4, .int (nI m)), (0, .ref 166), (1, .int (nI t)), (2, .int (nI s)), (3, .int (nI n))] [] (HN (u2 (u2 (U g r w v) 206 t s) 207 t 0) (cpL hl 208 (60 * t) m (fun _ => Int64.ofNat 0)) (RF rt)) Q) (fun m hm hnext => ?_) 0 (Nat.zero_le _)
              refine Ev.run 3 (pc' := (if nI 60 ≤ nI m then 95 else 76)) (lv' := [(4, .int (nI m)), (0, .ref 166), (1, .int (nI t)), (2, .int (nI s)), (3, .int (nI n))]) (st' := []) (h' := HN (u2 (u2 (U g r w v) 206 t s) 207 t 0) (cpL hl 208 (60 * t) m (fun _ => Int64.ofNat 0)) (RF rt)) rfl ?_
              refine Ev.ite (fun hc73 => ?_) (fun hc73 => ?_)
              · have hc73 : 60 ≤ m := (nI_leI (by omega) (by omega)).mp hc73
                refine Ev.run 1 (pc' := 96) (lv' := [(4, .int (nI m)), (0, .ref 166), (1, .int (nI t)), (2, .int (nI s)), (3, .int (nI n))]) (st' := [.int (nI 1)]) (h' := HN (u2 (u2 (U g r w v) 206 t s) 207 t 0) (cpL hl 208 (60 * t) m (fun _ => Int64.ofNat 0)) (RF rt)) rfl ?_
                refine Ev.ret (v := some (.int (nI 1))) rfl ?_
                obtain rfl : m = 60 := by omega
                have hok : dc (okTp t s n) = true := dc_t ⟨by omega, by omega⟩
                unfold gs_tape hs_tape at hq
                rw [if_pos hok, if_pos hok, if_pos (by omega)] at hq
                rw [show rs_tape t s n = 1 by unfold rs_tape; rw [if_pos (by omega), if_pos (by omega)]; by_cases hsn : s = 4294967295 <;> first | rw [if_pos hsn] | rw [if_neg hsn, if_neg (by omega), if_neg (by omega)]] at hq
                rw [U_u _ _ _ _ 206 _ _ (by decide) (by decide) (by decide), U_u _ _ _ _ 207 _ _ (by decide) (by decide) (by decide)]
                exact hq
              · have hc73 : ¬ (60 ≤ m) := fun z => hc73 ((nI_leI (by omega) (by omega)).mpr z)
                refine Ev.run 5 (pc' := 84) (lv' := [(4, .int (nI m)), (0, .ref 166), (1, .int (nI t)), (2, .int (nI s)), (3, .int (nI n))]) (st' := [.int (nI 60 * nI t), .ref 208]) (h' := HN (u2 (u2 (U g r w v) 206 t s) 207 t 0) (cpL hl 208 (60 * t) m (fun _ => Int64.ofNat 0)) (RF rt)) rfl ?_
                refine Ev.topI (pk_mul _ _) ?_
                refine Ev.run 2 (pc' := 87) (lv' := [(4, .int (nI m)), (0, .ref 166), (1, .int (nI t)), (2, .int (nI s)), (3, .int (nI n))]) (st' := [.int (nI (60 * t) + nI m), .ref 208]) (h' := HN (u2 (u2 (U g r w v) 206 t s) 207 t 0) (cpL hl 208 (60 * t) m (fun _ => Int64.ofNat 0)) (RF rt)) rfl ?_
                refine Ev.topI (nI_add _ _) ?_
                refine Ev.run 1 (pc' := 88) (lv' := [(4, .int (nI m)), (0, .ref 166), (1, .int (nI t)), (2, .int (nI s)), (3, .int (nI n))]) (st' := [.long (0), .int (nI ((60 * t) + m)), .ref 208]) (h' := HN (u2 (u2 (U g r w v) 206 t s) 207 t 0) (cpL hl 208 (60 * t) m (fun _ => Int64.ofNat 0)) (RF rt)) rfl ?_
                refine Ev_last rfl rfl (show (60 * t) + m < 360 by omega) (Nat.le_of_ble_eq_true rfl) ?_
                refine Ev.run 1 (pc' := 92) (lv' := [(4, .int (nI m + 1)), (0, .ref 166), (1, .int (nI t)), (2, .int (nI s)), (3, .int (nI n))]) (st' := []) (h' := HN (u2 (u2 (U g r w v) 206 t s) 207 t 0) (u2 (cpL hl 208 (60 * t) m (fun _ => Int64.ofNat 0)) 208 ((60 * t) + m) 0) (RF rt)) rfl ?_
                refine Ev.lvE (congrArg (fun z => (4, Value.int z) :: [(0, .ref 166), (1, .int (nI t)), (2, .int (nI s)), (3, .int (nI n))]) (nI_1 _)) ?_
                refine Ev.run 1 (pc' := 69) (lv' := [(4, .int (nI (m + 1))), (0, .ref 166), (1, .int (nI t)), (2, .int (nI s)), (3, .int (nI n))]) (st' := []) (h' := HN (u2 (u2 (U g r w v) 206 t s) 207 t 0) (u2 (cpL hl 208 (60 * t) m (fun _ => Int64.ofNat 0)) 208 ((60 * t) + m) 0) (RF rt)) rfl ?_
                have hx := hnext (by omega)
                rw [← cpL_s] at hx
                exact hx
          · have hc34 : ¬ (2147483648 ≤ s) := fun z => hc34 ((nI_ltU0 (by omega)).mpr z)
            refine Ev.run 2 (pc' := (if 0 ≤ nI n then 44 else 41)) (lv' := [(0, .ref 166), (1, .int (nI t)), (2, .int (nI s)), (3, .int (nI n))]) (st' := []) (h' := HN (U g r w v) hl (RF rt)) rfl ?_
            refine Ev.ite (fun hc38 => ?_) (fun hc38 => ?_)
            · have hc38 : n < 2147483648 := (nI_geU0 (by omega)).mp hc38
              refine Ev.run 4 (pc' := 50) (lv' := [(0, .ref 166), (1, .int (nI t)), (2, .int (nI s)), (3, .int (nI n))]) (st' := [.int (nI s), .int (nI t), .ref 206]) (h' := HN (U g r w v) hl (RF rt)) rfl ?_
              refine Ev_iast rfl rfl (show t < 6 by omega) (Nat.le_of_ble_eq_true rfl) ?_
              refine Ev.run 5 (pc' := (if 0 ≤ nI s then 64 else 60)) (lv' := [(0, .ref 166), (1, .int (nI t)), (2, .int (nI s)), (3, .int (nI n))]) (st' := [.int (nI t), .ref 207]) (h' := HN (u2 (U g r w v) 206 t s) hl (RF rt)) rfl ?_
              refine Ev.ite (fun hc57 => ?_) (fun hc57 => ?_)
              · have hc57 : s < 2147483648 := (nI_geU0 (by omega)).mp hc57
                refine Ev.run 1 (pc' := 65) (lv' := [(0, .ref 166), (1, .int (nI t)), (2, .int (nI s)), (3, .int (nI n))]) (st' := [.int (nI n), .int (nI t), .ref 207]) (h' := HN (u2 (U g r w v) 206 t s) hl (RF rt)) rfl ?_
                refine Ev_iast rfl rfl (show t < 6 by omega) (Nat.le_of_ble_eq_true rfl) ?_
                refine Ev.run 2 (pc' := 69) (lv' := [(4, .int (nI 0)), (0, .ref 166), (1, .int (nI t)), (2, .int (nI s)), (3, .int (nI n))]) (st' := []) (h' := HN (u2 (u2 (U g r w v) 206 t s) 207 t n) hl (RF rt)) rfl ?_
                refine Ev.hp (congrArg (fun z => HN (u2 (u2 (U g r w v) 206 t s) 207 t n) z (RF rt)) (cpL_0 hl 208 (60 * t) (fun _ => Int64.ofNat 0)).symm) ?_
                refine for_ind 60 (fun m => Ev L xs (d + 2) 236 69 [(4, .int (nI m)), (0, .ref 166), (1, .int (nI t)), (2, .int (nI s)), (3, .int (nI n))] [] (HN (u2 (u2 (U g r w v) 206 t s) 207 t n) (cpL hl 208 (60 * t) m (fun _ => Int64.ofNat 0)) (RF rt)) Q) (fun m hm hnext => ?_) 0 (Nat.zero_le _)
                refine Ev.run 3 (pc' := (if nI 60 ≤ nI m then 95 else 76)) (lv' := [(4, .int (nI m)), (0, .ref 166), (1, .int (nI t)), (2, .int (nI s)), (3, .int (nI n))]) (st' := []) (h' := HN (u2 (u2 (U g r w v) 206 t s) 207 t n) (cpL hl 208 (60 * t) m (fun _ => Int64.ofNat 0)) (RF rt)) rfl ?_
                refine Ev.ite (fun hc73 => ?_) (fun hc73 => ?_)
                · have hc73 : 60 ≤ m := (nI_leI (by omega) (by omega)).mp hc73
                  refine Ev.run 1 (pc' := 96) (lv' := [(4, .int (nI m)), (0, .ref 166), (1, .int (nI t)), (2, .int (nI s)), (3, .int (nI n))]) (st' := [.int (nI 1)]) (h' := HN (u2 (u2 (U g r w v) 206 t s) 207 t n) (cpL hl 208 (60 * t) m (fun _ => Int64.ofNat 0)) (RF rt)) rfl ?_
                  refine Ev.ret (v := some (.int (nI 1))) rfl ?_
                  obtain rfl : m = 60 := by omega
                  have hok : dc (okTp t s n) = true := dc_t ⟨by omega, by omega⟩
                  unfold gs_tape hs_tape at hq
                  rw [if_pos hok, if_pos hok, if_neg (by omega)] at hq
                  rw [show rs_tape t s n = 1 by unfold rs_tape; rw [if_pos (by omega), if_pos (by omega)]; by_cases hsn : s = 4294967295 <;> first | rw [if_pos hsn] | rw [if_neg hsn, if_neg (by omega), if_neg (by omega)]] at hq
                  rw [U_u _ _ _ _ 206 _ _ (by decide) (by decide) (by decide), U_u _ _ _ _ 207 _ _ (by decide) (by decide) (by decide)]
                  exact hq
                · have hc73 : ¬ (60 ≤ m) := fun z => hc73 ((nI_leI (by omega) (by omega)).mpr z)
                  refine Ev.run 5 (pc' := 84) (lv' := [(4, .int (nI m)), (0, .ref 166), (1, .int (nI t)), (2, .int (nI s)), (3, .int (nI n))]) (st' := [.int (nI 60 * nI t), .ref 208]) (h' := HN (u2 (u2 (U g r w v) 206 t s) 207 t n) (cpL hl 208 (60 * t) m (fun _ => Int64.ofNat 0)) (RF rt)) rfl ?_
                  refine Ev.topI (pk_mul _ _) ?_
                  refine Ev.run 2 (pc' := 87) (lv' := [(4, .int (nI m)), (0, .ref 166), (1, .int (nI t)), (2, .int (nI s)), (3, .int (nI n))]) (st' := [.int (nI (60 * t) + nI m), .ref 208]) (h' := HN (u2 (u2 (U g r w v) 206 t s) 207 t n) (cpL hl 208 (60 * t) m (fun _ => Int64.ofNat 0)) (RF rt)) rfl ?_
                  refine Ev.topI (nI_add _ _) ?_
                  refine Ev.run 1 (pc' := 88) (lv' := [(4, .int (nI m)), (0, .ref 166), (1, .int (nI t)), (2, .int (nI s)), (3, .int (nI n))]) (st' := [.long (0), .int (nI ((60 * t) + m)), .ref 208]) (h' := HN (u2 (u2 (U g r w v) 206 t s) 207 t n) (cpL hl 208 (60 * t) m (fun _ => Int64.ofNat 0)) (RF rt)) rfl ?_
                  refine Ev_last rfl rfl (show (60 * t) + m < 360 by omega) (Nat.le_of_ble_eq_true rfl) ?_
                  refine Ev.run 1 (pc' := 92) (lv' := [(4, .int (nI m + 1)), (0, .ref 166), (1, .int (nI t)), (2, .int (nI s)), (3, .int (nI n))]) (st' := []) (h' := HN (u2 (u2 (U g r w v) 206 t s) 207 t n) (u2 (cpL hl 208 (60 * t) m (fun _ => Int64.ofNat 0)) 208 ((60 * t) + m) 0) (RF rt)) rfl ?_
                  refine Ev.lvE (congrArg (fun z => (4, Value.int z) :: [(0, .ref 166), (1, .int (nI t)), (2, .int (nI s)), (3, .int (nI n))]) (nI_1 _)) ?_
                  refine Ev.run 1 (pc' := 69) (lv' := [(4, .int (nI (m + 1))), (0, .ref 166), (1, .int (nI t)), (2, .int (nI s)), (3, .int (nI n))]) (st' := []) (h' := HN (u2 (u2 (U g r w v) 206 t s) 207 t n) (u2 (cpL hl 208 (60 * t) m (fun _ => Int64.ofNat 0)) 208 ((60 * t) + m) 0) (RF rt)) rfl ?_
                  have hx := hnext (by omega)
                  rw [← cpL_s] at hx
                  exact hx
              · have hc57 : ¬ (s < 2147483648) := fun z => hc57 ((nI_geU0 (by omega)).mpr z)
                refine Ev.run 2 (pc' := 65) (lv' := [(0, .ref 166), (1, .int (nI t)), (2, .int (nI s)), (3, .int (nI n))]) (st' := [.int (nI 0), .int (nI t), .ref 207]) (h' := HN (u2 (U g r w v) 206 t s) hl (RF rt)) rfl ?_
                refine Ev_iast rfl rfl (show t < 6 by omega) (Nat.le_of_ble_eq_true rfl) ?_
                refine Ev.run 2 (pc' := 69) (lv' := [(4, .int (nI 0)), (0, .ref 166), (1, .int (nI t)), (2, .int (nI s)), (3, .int (nI n))]) (st' := []) (h' := HN (u2 (u2 (U g r w v) 206 t s) 207 t 0) hl (RF rt)) rfl ?_
                refine Ev.hp (congrArg (fun z => HN (u2 (u2 (U g r w v) 206 t s) 207 t 0) z (RF rt)) (cpL_0 hl 208 (60 * t) (fun _ => Int64.ofNat 0)).symm) ?_
                refine for_ind 60 (fun m => Ev L xs (d + 2) 236 69 [(4, .int (nI m)), (0, .ref 166), (1, .int (nI t)), (2, .int (nI s)), (3, .int (nI n))] [] (HN (u2 (u2 (U g r w v) 206 t s) 207 t 0) (cpL hl 208 (60 * t) m (fun _ => Int64.ofNat 0)) (RF rt)) Q) (fun m hm hnext => ?_) 0 (Nat.zero_le _)
                refine Ev.run 3 (pc' := (if nI 60 ≤ nI m then 95 else 76)) (lv' := [(4, .int (nI m)), (0, .ref 166), (1, .int (nI t)), (2, .int (nI s)), (3, .int (nI n))]) (st' := []) (h' := HN (u2 (u2 (U g r w v) 206 t s) 207 t 0) (cpL hl 208 (60 * t) m (fun _ => Int64.ofNat 0)) (RF rt)) rfl ?_
                refine Ev.ite (fun hc73 => ?_) (fun hc73 => ?_)
                · have hc73 : 60 ≤ m := (nI_leI (by omega) (by omega)).mp hc73
                  refine Ev.run 1 (pc' := 96) (lv' := [(4, .int (nI m)), (0, .ref 166), (1, .int (nI t)), (2, .int (nI s)), (3, .int (nI n))]) (st' := [.int (nI 1)]) (h' := HN (u2 (u2 (U g r w v) 206 t s) 207 t 0) (cpL hl 208 (60 * t) m (fun _ => Int64.ofNat 0)) (RF rt)) rfl ?_
                  refine Ev.ret (v := some (.int (nI 1))) rfl ?_
                  obtain rfl : m = 60 := by omega
                  have hok : dc (okTp t s n) = true := dc_t ⟨by omega, by omega⟩
                  unfold gs_tape hs_tape at hq
                  rw [if_pos hok, if_pos hok, if_pos (by omega)] at hq
                  rw [show rs_tape t s n = 1 by unfold rs_tape; rw [if_pos (by omega), if_pos (by omega)]; by_cases hsn : s = 4294967295 <;> first | rw [if_pos hsn] | rw [if_neg hsn, if_neg (by omega), if_neg (by omega)]] at hq
                  rw [U_u _ _ _ _ 206 _ _ (by decide) (by decide) (by decide), U_u _ _ _ _ 207 _ _ (by decide) (by decide) (by decide)]
                  exact hq
                · have hc73 : ¬ (60 ≤ m) := fun z => hc73 ((nI_leI (by omega) (by omega)).mpr z)
                  refine Ev.run 5 (pc' := 84) (lv' := [(4, .int (nI m)), (0, .ref 166), (1, .int (nI t)), (2, .int (nI s)), (3, .int (nI n))]) (st' := [.int (nI 60 * nI t), .ref 208]) (h' := HN (u2 (u2 (U g r w v) 206 t s) 207 t 0) (cpL hl 208 (60 * t) m (fun _ => Int64.ofNat 0)) (RF rt)) rfl ?_
                  refine Ev.topI (pk_mul _ _) ?_
                  refine Ev.run 2 (pc' := 87) (lv' := [(4, .int (nI m)), (0, .ref 166), (1, .int (nI t)), (2, .int (nI s)), (3, .int (nI n))]) (st' := [.int (nI (60 * t) + nI m), .ref 208]) (h' := HN (u2 (u2 (U g r w v) 206 t s) 207 t 0) (cpL hl 208 (60 * t) m (fun _ => Int64.ofNat 0)) (RF rt)) rfl ?_
                  refine Ev.topI (nI_add _ _) ?_
                  refine Ev.run 1 (pc' := 88) (lv' := [(4, .int (nI m)), (0, .ref 166), (1, .int (nI t)), (2, .int (nI s)), (3, .int (nI n))]) (st' := [.long (0), .int (nI ((60 * t) + m)), .ref 208]) (h' := HN (u2 (u2 (U g r w v) 206 t s) 207 t 0) (cpL hl 208 (60 * t) m (fun _ => Int64.ofNat 0)) (RF rt)) rfl ?_
                  refine Ev_last rfl rfl (show (60 * t) + m < 360 by omega) (Nat.le_of_ble_eq_true rfl) ?_
                  refine Ev.run 1 (pc' := 92) (lv' := [(4, .int (nI m + 1)), (0, .ref 166), (1, .int (nI t)), (2, .int (nI s)), (3, .int (nI n))]) (st' := []) (h' := HN (u2 (u2 (U g r w v) 206 t s) 207 t 0) (u2 (cpL hl 208 (60 * t) m (fun _ => Int64.ofNat 0)) 208 ((60 * t) + m) 0) (RF rt)) rfl ?_
                  refine Ev.lvE (congrArg (fun z => (4, Value.int z) :: [(0, .ref 166), (1, .int (nI t)), (2, .int (nI s)), (3, .int (nI n))]) (nI_1 _)) ?_
                  refine Ev.run 1 (pc' := 69) (lv' := [(4, .int (nI (m + 1))), (0, .ref 166), (1, .int (nI t)), (2, .int (nI s)), (3, .int (nI n))]) (st' := []) (h' := HN (u2 (u2 (U g r w v) 206 t s) 207 t 0) (u2 (cpL hl 208 (60 * t) m (fun _ => Int64.ofNat 0)) 208 ((60 * t) + m) 0) (RF rt)) rfl ?_
                  have hx := hnext (by omega)
                  rw [← cpL_s] at hx
                  exact hx
            · have hc38 : ¬ (n < 2147483648) := fun z => hc38 ((nI_geU0 (by omega)).mpr z)
              refine Ev.run 1 (pc' := 43) (lv' := [(0, .ref 166), (1, .int (nI t)), (2, .int (nI s)), (3, .int (nI n))]) (st' := [.int (nI 4294967282)]) (h' := HN (U g r w v) hl (RF rt)) rfl ?_
              refine Ev.ret (v := some (.int (nI 4294967282))) rfl ?_
              have hok : ¬ dc (okTp t s n) = true := fun z => by
                have z2 := dc_p z
                unfold okTp at z2
                omega
              unfold gs_tape hs_tape at hq
              rw [if_neg hok, if_neg hok] at hq
              rw [show rs_tape t s n = 4294967282 by unfold rs_tape; rw [if_pos (by omega), if_pos (by omega), if_neg (by omega), if_pos (by omega)]] at hq
              exact hq
        · have hc27 : ¬ (n ≤ 60 ∨ 2147483648 ≤ n) := fun z => hc27 ((nI_leS (by omega) (by omega)).mpr z)
          refine Ev.run 1 (pc' := 32) (lv' := [(0, .ref 166), (1, .int (nI t)), (2, .int (nI s)), (3, .int (nI n))]) (st' := [.int (nI 4294967294)]) (h' := HN (U g r w v) hl (RF rt)) rfl ?_
          refine Ev.ret (v := some (.int (nI 4294967294))) rfl ?_
          have hok : ¬ dc (okTp t s n) = true := fun z => by
            have z2 := dc_p z
            unfold okTp at z2
            omega
          unfold gs_tape hs_tape at hq
          rw [if_neg hok, if_neg hok] at hq
          rw [show rs_tape t s n = 4294967294 by unfold rs_tape; first | rw [if_pos (by omega), if_neg (by omega)] | rw [if_pos (by omega), if_pos (by omega), if_neg (by omega), if_neg (by omega), if_pos (by omega)]] at hq
          exact hq
    · have hhb17 : ¬ (s ≤ 4 ∨ s = 4294967295) := of_decide_eq_false hb17
      refine Ev.run 2 (pc' := 32) (lv' := [(0, .ref 166), (1, .int (nI t)), (2, .int (nI s)), (3, .int (nI n))]) (st' := [.int (nI 4294967294)]) (h' := HN (U g r w v) hl (RF rt)) rfl ?_
      refine Ev.ret (v := some (.int (nI 4294967294))) rfl ?_
      have hok : ¬ dc (okTp t s n) = true := fun z => by
        have z2 := dc_p z
        unfold okTp at z2
        omega
      unfold gs_tape hs_tape at hq
      rw [if_neg hok, if_neg hok] at hq
      rw [show rs_tape t s n = 4294967294 by unfold rs_tape; first | rw [if_pos (by omega), if_neg (by omega)] | rw [if_pos (by omega), if_pos (by omega), if_neg (by omega), if_neg (by omega), if_pos (by omega)]] at hq
      exact hq
  · have hhb5 : ¬ (t ≤ 5) := of_decide_eq_false hb5
    refine Ev.run 2 (pc' := 9) (lv' := [(0, .ref 166), (1, .int (nI t)), (2, .int (nI s)), (3, .int (nI n))]) (st' := [.int (nI 4294967295)]) (h' := HN (U g r w v) hl (RF rt)) rfl ?_
    refine Ev.ret (v := some (.int (nI 4294967295))) rfl ?_
    have hok : ¬ dc (okTp t s n) = true := fun z => by
      have z2 := dc_p z
      unfold okTp at z2
      omega
    unfold gs_tape hs_tape at hq
    rw [if_neg hok, if_neg hok] at hq
    rw [show rs_tape t s n = 4294967295 by unfold rs_tape; rw [if_neg (by omega)]] at hq
    exact hq
