/-! the reference: rows that are won -/
/-- what the parts of a turn leave as it is -/
def Cx (g g' : Nat → Nat → Nat) : Prop := (∀ c, c ≠ 166 → c ≠ 173 → c ≠ 175 → c ≠ 185 → c ≠ 186 → c ≠ 187 → c ≠ 188 → g' c = g c) ∧ (∀ j, j ≠ 7 → j ≠ 8 → j ≠ 9 → j ≠ 36 → j ≠ 37 → j ≠ 38 → j ≠ 39 → j ≠ 42 → j ≠ 43 → g' 166 j = g 166 j)
theorem Cx.refl (g : Nat → Nat → Nat) : Cx g g := ⟨fun _ _ _ _ _ _ _ _ => rfl, fun _ _ _ _ _ _ _ _ _ _ => rfl⟩
theorem Cx.trans {a b c : Nat → Nat → Nat} (h : Cx a b) (k : Cx b c) : Cx a c := ⟨fun x h1 h2 h3 h4 h5 h6 h7 => (k.1 x h1 h2 h3 h4 h5 h6 h7).trans (h.1 x h1 h2 h3 h4 h5 h6 h7), fun j h1 h2 h3 h4 h5 h6 h7 h8 h9 => (k.2 j h1 h2 h3 h4 h5 h6 h7 h8 h9).trans (h.2 j h1 h2 h3 h4 h5 h6 h7 h8 h9)⟩
theorem Cx.symm {a b : Nat → Nat → Nat} (h : Cx a b) : Cx b a := ⟨fun x h1 h2 h3 h4 h5 h6 h7 => (h.1 x h1 h2 h3 h4 h5 h6 h7).symm, fun j h1 h2 h3 h4 h5 h6 h7 h8 h9 => (h.2 j h1 h2 h3 h4 h5 h6 h7 h8 h9).symm⟩
section CX
variable {g g' : Nat → Nat → Nat}
theorem Cx.f0 (h : Cx g g') : g' 166 0 = g 166 0 := h.2 0 (by decide) (by decide) (by decide) (by decide) (by decide) (by decide) (by decide) (by decide) (by decide)
theorem Cx.f6 (h : Cx g g') : g' 166 6 = g 166 6 := h.2 6 (by decide) (by decide) (by decide) (by decide) (by decide) (by decide) (by decide) (by decide) (by decide)
theorem Cx.f16 (h : Cx g g') : g' 166 16 = g 166 16 := h.2 16 (by decide) (by decide) (by decide) (by decide) (by decide) (by decide) (by decide) (by decide) (by decide)
theorem Cx.f33 (h : Cx g g') : g' 166 33 = g 166 33 := h.2 33 (by decide) (by decide) (by decide) (by decide) (by decide) (by decide) (by decide) (by decide) (by decide)
theorem Cx.f34 (h : Cx g g') : g' 166 34 = g 166 34 := h.2 34 (by decide) (by decide) (by decide) (by decide) (by decide) (by decide) (by decide) (by decide) (by decide)
theorem Cx.r167 (h : Cx g g') : g' 167 = g 167 := h.1 167 (by decide) (by decide) (by decide) (by decide) (by decide) (by decide) (by decide)
theorem Cx.r168 (h : Cx g g') : g' 168 = g 168 := h.1 168 (by decide) (by decide) (by decide) (by decide) (by decide) (by decide) (by decide)
theorem Cx.r169 (h : Cx g g') : g' 169 = g 169 := h.1 169 (by decide) (by decide) (by decide) (by decide) (by decide) (by decide) (by decide)
theorem Cx.r171 (h : Cx g g') : g' 171 = g 171 := h.1 171 (by decide) (by decide) (by decide) (by decide) (by decide) (by decide) (by decide)
theorem Cx.r172 (h : Cx g g') : g' 172 = g 172 := h.1 172 (by decide) (by decide) (by decide) (by decide) (by decide) (by decide) (by decide)
theorem Cx.r174 (h : Cx g g') : g' 174 = g 174 := h.1 174 (by decide) (by decide) (by decide) (by decide) (by decide) (by decide) (by decide)
theorem Cx.r177 (h : Cx g g') : g' 177 = g 177 := h.1 177 (by decide) (by decide) (by decide) (by decide) (by decide) (by decide) (by decide)
theorem Cx.r178 (h : Cx g g') : g' 178 = g 178 := h.1 178 (by decide) (by decide) (by decide) (by decide) (by decide) (by decide) (by decide)
theorem Cx.r179 (h : Cx g g') : g' 179 = g 179 := h.1 179 (by decide) (by decide) (by decide) (by decide) (by decide) (by decide) (by decide)
theorem Cx.r180 (h : Cx g g') : g' 180 = g 180 := h.1 180 (by decide) (by decide) (by decide) (by decide) (by decide) (by decide) (by decide)
theorem Cx.r181 (h : Cx g g') : g' 181 = g 181 := h.1 181 (by decide) (by decide) (by decide) (by decide) (by decide) (by decide) (by decide)
theorem Cx.r182 (h : Cx g g') : g' 182 = g 182 := h.1 182 (by decide) (by decide) (by decide) (by decide) (by decide) (by decide) (by decide)
theorem Cx.r184 (h : Cx g g') : g' 184 = g 184 := h.1 184 (by decide) (by decide) (by decide) (by decide) (by decide) (by decide) (by decide)
theorem Cx.xft (h : Cx g g') : ft g' = ft g := by
  funext r n i; unfold ft; rw [h.r167, h.r168]
theorem Cx.xal (h : Cx g g') : al g' = al g := by
  funext i o n; unfold al; rw [h.r167, h.r168]
theorem Cx.xfC (h : Cx g g') : fC g' = fC g := by unfold fC; rw [h.f16]
theorem Cx.xnC (h : Cx g g') : nC g' = nC g := by unfold nC; rw [h.f16, h.r177]
theorem Cx.xlwF (h : Cx g g') : lwF g' = lwF g := by
  funext o w n
  induction n with
  | zero => rfl
  | succ n ih => unfold lwF; rw [ih, h.r178, h.r179]
theorem Cx.xlwS (h : Cx g g') : lwS g' = lwS g := by
  funext w; unfold lwS; rw [h.xfC, h.xnC, h.xlwF]
theorem Cx.xfitA (h : Cx g g') : fitA g' = fitA g := by
  funext r n s; unfold fitA; rw [h.xft, h.f0]
theorem Cx.xgoG (h : Cx g g') : goG g' = goG g := by
  funext r n s; unfold goG; rw [h.xft, h.f0, h.r167, h.r168]
theorem Cx.xendS (h : Cx g g') : endS g' = endS g := by
  funext l r n; unfold endS; rw [h.xft, h.f0, h.r168]
theorem Cx.xallS (h : Cx g g') : allS g' = allS g := by unfold allS; rw [h.f0]
theorem Cx.xeW (h : Cx g g') : eW g' = eW g := by
  funext s i n; unfold eW; rw [h.xlwS, h.xal, h.f0, h.r168]
theorem Cx.xwinF (h : Cx g g') : winF g' = winF g := by
  funext s wb i n; unfold winF; rw [h.xeW, h.xal, h.f0, h.r167, h.r168]
/-- won or not, six less f letters of word i -/
noncomputable def wB (g : Nat → Nat → Nat) (s : Nat) : Nat → Nat → Bool
  | 0, _ => false
  | f + 1, i => s.testBit i && (!decide (g 168 i < 6 - (f + 1)) && !decide (winF g s (wB g s f) i (6 - (f + 1)) = 0))
theorem Cx.xwB (h : Cx g g') : wB g' = wB g := by
  funext s f
  induction f with
  | zero => funext i; rfl
  | succ f ih => funext i; unfold wB; rw [ih, h.xwinF, h.r168]
noncomputable def wrS (g : Nat → Nat → Nat) (r : Nat → Nat) (n s : Nat) : Nat := if fitA g r n s = 0 then 0 else if 6 ≤ n then 0 else winF g s (wB g s (6 - (n + 1))) (least (fitA g r n s)) n
theorem Cx.xwrS (h : Cx g g') : wrS g' = wrS g := by
  funext r n s; unfold wrS; rw [h.xfitA, h.xwinF, h.xwB]
theorem ur_self (g : Nat → Nat → Nat) (k : Nat) : ur g k (g k) = g := by
  funext a b; unfold ur; split
  · rename_i e; rw [e]
  · rfl
def up (w : Nat → Nat) (j x : Nat) : Nat → Nat := fun b => if b = j then x else w b
theorem ur_up (g : Nat → Nat → Nat) (k : Nat) (w : Nat → Nat) (j x : Nat) : u2 (ur g k w) k j x = ur g k (up w j x) := by
  funext a b; unfold u2 ur up
  by_cases e : a = k
  · rw [if_pos e, if_pos e]; split
    · rfl
    · rfl
  · rw [if_neg e, if_neg e, if_neg e]
theorem up_le {w : Nat → Nat} {N b j x : Nat} (h : ∀ j, j < N → w j ≤ b) (hx : x ≤ b) : ∀ i, i < N → up w j x i ≤ b := fun i hi => by
  unfold up; split
  · exact hx
  · exact h i hi
theorem Cx.ur186 (g : Nat → Nat → Nat) (w : Nat → Nat) : Cx g (ur g 186 w) := ⟨fun c _ _ _ _ h _ _ => by funext b; unfold ur; rw [if_neg h], fun _ _ _ _ _ _ _ _ _ _ => rfl⟩
end CX
theorem MI.ur186 {g : Nat → Nat → Nat} (h : MI g) {w : Nat → Nat} (hw : ∀ j, j < 84 → w j ≤ 1) : MI (ur g 186 w) := ⟨h.hW, h.hS, h.hPl, h.hNx, h.hLa, h.hLo, h.hTb, h.hTh, h.hFd, h.hSn, h.hSh, h.hRan, h.hLr, h.hLt, h.hgl, h.hsz, h.hcm, h.hsl, h.hkd, h.hvv, h.hli, h.hro, h.hrw, h.htx, h.hsw, h.hsx, h.hsy, h.hsh, h.hle, h.hcl, h.hwd, h.hnu, hw, h.hs1, h.hso⟩
def WB (g : Nat → Nat → Nat) (s : Nat) (w : Nat → Nat) (f : Nat) : Prop := (∀ j, j < 84 → w j ≤ 1) ∧ ∀ m, 6 - f < m → m ≤ 6 → ∀ o, o < g 166 0 → w (7 * o + m) = bn (wB g s (6 - m) o)
theorem WB_0 {g : Nat → Nat → Nat} (h : MI g) (s : Nat) : WB g s (g 186) 0 := ⟨h.hwn, fun m h1 h2 => by omega⟩
theorem WB_s {g : Nat → Nat → Nat} {s : Nat} {w : Nat → Nat} {f : Nat} (h : WB g s w f) (hf : f ≤ 6) (hd : ∀ o, o < g 166 0 → w (7 * o + (6 - f)) = bn (wB g s f o)) : WB g s w (f + 1) := ⟨h.1, fun m h1 h2 o ho => by
  by_cases e : m = 6 - f
  · subst e
    rw [hd o ho, show 6 - (6 - f) = f by omega]
  · exact h.2 m (by omega) h2 o ho⟩
theorem WB_up {g : Nat → Nat → Nat} {s : Nat} {w : Nat → Nat} {f i x : Nat} (h : WB g s w f) (hx : x ≤ 1) (hd : ∀ o, o < i → w (7 * o + (6 - f)) = bn (wB g s f o)) (hv : x = bn (wB g s f i)) : WB g s (up w (7 * i + (6 - f)) x) f ∧ ∀ o, o < i + 1 → up w (7 * i + (6 - f)) x (7 * o + (6 - f)) = bn (wB g s f o) := by
  refine ⟨⟨up_le h.1 hx, fun m h1 h2 o ho => ?_⟩, fun o ho => ?_⟩
  · unfold up
    rw [if_neg (by omega)]
    exact h.2 m h1 h2 o ho
  · unfold up
    by_cases e : o = i
    · subst e
      rw [if_pos rfl]; exact hv
    · rw [if_neg (by omega)]
      exact hd o (by omega)
theorem wB_p {g : Nat → Nat → Nat} {s f i : Nat} (h : f ≠ 0) : wB g s f i = (s.testBit i && (!decide (g 168 i < 6 - f) && !decide (winF g s (wB g s (f - 1)) i (6 - f) = 0))) := by
  cases f with
  | zero => exact absurd rfl h
  | succ f => rfl
theorem C_layWon {L : Nat} {xs : Nat → Int32} (d : Nat) (g : Nat → Nat → Nat) (hl : Nat → Nat → Int64) (rt : Nat × Nat × Nat × Nat) (hI : MI g) (s : Nat) (hs : s < 2 ^ 31) {Q : Po} (hq : ∀ w : Nat → Nat, WB g s w 7 → Q none (HN (ur g 186 w) hl (RF rt))) : Ev L xs (d + 4) 173 0 [(0, .ref 166), (1, .int (nI s))] [] (HN g hl (RF rt)) Q := by
  have hW := hI.hW
  have hS := hI.hS
  have hPl := hI.hPl
  have hNx := hI.hNx
  have hLa := hI.hLa
  have hLo := hI.hLo
  have hTb := hI.hTb
  have hTh := hI.hTh
  have hFd := hI.hFd
  have hSn := hI.hSn
  have hSh := hI.hSh
  have hRan := hI.hRan
  have hLr := hI.hLr
  have hLt := hI.hLt
  have hgl := hI.hgl
  have hsz := hI.hsz
  have hcm := hI.hcm
  have hsl := hI.hsl
  have hkd := hI.hkd
  have hvv := hI.hvv
  have hli := hI.hli
  have hro := hI.hro
  have hrw := hI.hrw
  have htx := hI.htx
  have hsw := hI.hsw
  have hsx := hI.hsx
  have hsy := hI.hsy
  have hsh := hI.hsh
  have hle := hI.hle
  have hcl := hI.hcl
  have hwd := hI.hwd
  have hnu := hI.hnu
  have hwn := hI.hwn
  have hs1 := hI.hs1
  have hso := hI.hso
  refine Ev.run 2 (pc' := 3) (lv' := [(2, .int (nI 6)), (0, .ref 166), (1, .int (nI s))]) (st' := []) (h' := HN g hl (RF rt)) rfl ?_
  refine Ev.hp (congrArg (fun z => HN z hl (RF rt)) (ur_self g 186).symm) ?_
  refine for_ind 6 (fun f => ∀ w, WB g s w f → Ev L xs (d + 4) 173 3 [(2, .int (nI (6 - f))), (0, .ref 166), (1, .int (nI s))] [] (HN (ur g 186 w) hl (RF rt)) Q) (fun f hf hnextO => ?_) 0 (Nat.zero_le _) (g 186) (WB_0 hI s)
  intro w hwb
  refine Ev.run 2 (pc' := (if nI (6 - f) < 0 then 80 else 7)) (lv' := [(2, .int (nI (6 - f))), (0, .ref 166), (1, .int (nI s))]) (st' := []) (h' := HN (ur g 186 w) hl (RF rt)) rfl ?_
  refine Ev.ite (fun hc4 => ?_) (fun hc4 => ?_)
  · have hc4 : 2147483648 ≤ (6 - f) := (nI_ltU0 (by omega)).mp hc4
    refine Ev.ret (v := none) rfl ?_
    first
      | (exfalso; omega)
      | exact hq w (WB_s hwb (by omega) (fun o ho => hdn o (by omega)))
  · have hc4 : ¬ (2147483648 ≤ (6 - f)) := fun z => hc4 ((nI_ltU0 (by omega)).mpr z)
    refine Ev.run 2 (pc' := 9) (lv' := [(3, .int (nI 0)), (2, .int (nI (6 - f))), (0, .ref 166), (1, .int (nI s))]) (st' := []) (h' := HN (ur g 186 w) hl (RF rt)) rfl ?_
    refine for_ind (g 166 0) (fun n => ∀ w, WB g s w f → (∀ o, o < n → w (7 * o + (6 - f)) = bn (wB g s f o)) → Ev L xs (d + 4) 173 9 [(3, .int (nI n)), (2, .int (nI (6 - f))), (0, .ref 166), (1, .int (nI s))] [] (HN (ur g 186 w) hl (RF rt)) Q) (fun n hn hnext => ?_) 0 (Nat.zero_le _) w hwb (fun k hk => absurd hk (Nat.not_lt_zero _))
    intro w hwb hdn
    refine Ev.run 4 (pc' := (if nI (g 166 0) ≤ nI n then 74 else 17)) (lv' := [(3, .int (nI n)), (2, .int (nI (6 - f))), (0, .ref 166), (1, .int (nI s))]) (st' := []) (h' := HN (ur g 186 w) hl (RF rt)) rfl ?_
    refine Ev.ite (fun hc14 => ?_) (fun hc14 => ?_)
    · have hc14 : (g 166 0) ≤ n := (nI_leI (by omega) (by omega)).mp hc14
      have hnW : n = g 166 0 := by omega
      by_cases hf6 : f = 6
      · subst hf6
        refine Ev.run 2 (pc' := 3) (lv' := [(2, .int (nI 4294967295)), (3, .int (nI n)), (0, .ref 166), (1, .int (nI s))]) (st' := []) (h' := HN (ur g 186 w) hl (RF rt)) rfl ?_
        refine Ev.run 2 (pc' := 80) (lv' := [(2, .int (nI 4294967295)), (3, .int (nI n)), (0, .ref 166), (1, .int (nI s))]) (st' := []) (h' := HN (ur g 186 w) hl (RF rt)) rfl ?_
        refine Ev.ret (v := none) rfl ?_
        first
          | (exfalso; omega)
          | exact hq w (WB_s hwb (by omega) (fun o ho => hdn o (by omega)))
      · skip
        refine Ev.run 1 (pc' := 77) (lv' := [(2, .int (nI (6 - f) + nI 4294967295)), (3, .int (nI n)), (0, .ref 166), (1, .int (nI s))]) (st' := []) (h' := HN (ur g 186 w) hl (RF rt)) rfl ?_
        refine Ev.lvE (congrArg (fun z => (2, Value.int z) :: [(3, .int (nI n)), (0, .ref 166), (1, .int (nI s))]) (nI_dec (n := (6 - f)) 1 (by omega))) ?_
        refine Ev.run 1 (pc' := 3) (lv' := [(2, .int (nI (6 - f - 1))), (3, .int (nI n)), (0, .ref 166), (1, .int (nI s))]) (st' := []) (h' := HN (ur g 186 w) hl (RF rt)) rfl ?_
        exact Ev.wk (Ext.cons rfl rfl (Ext.cons rfl rfl (Ext.cons rfl rfl (Ext.nil rfl)))) (hnextO (by omega) w (WB_s hwb (by omega) (fun o ho => hdn o (by omega))))
    · have hc14 : ¬ ((g 166 0) ≤ n) := fun z => hc14 ((nI_leI (by omega) (by omega)).mpr z)
      refine Ev.run 5 (pc' := 25) (lv' := [(3, .int (nI n)), (2, .int (nI (6 - f))), (0, .ref 166), (1, .int (nI s))]) (st' := [.int (nI 7 * nI n), .ref 186]) (h' := HN (ur g 186 w) hl (RF rt)) rfl ?_
      refine Ev.topI (pk_mul _ _) ?_
      refine Ev.run 2 (pc' := 27) (lv' := [(3, .int (nI n)), (2, .int (nI (6 - f))), (0, .ref 166), (1, .int (nI s))]) (st' := [.int (nI (7 * n) + nI (6 - f)), .ref 186]) (h' := HN (ur g 186 w) hl (RF rt)) rfl ?_
      refine Ev.topI (nI_add _ _) ?_
      refine Ev.run 3 (pc' := 30) (lv' := [(3, .int (nI n)), (2, .int (nI (6 - f))), (0, .ref 166), (1, .int (nI s))]) (st' := [.int (nI n), .int (nI s), .ref 166, .int (nI ((7 * n) + (6 - f))), .ref 186]) (h' := HN (ur g 186 w) hl (RF rt)) rfl ?_
      refine Ev.call (a := 127) (as := [.ref 166, .int (nI s), .int (nI n)]) (rest := [.int (nI ((7 * n) + (6 - f))), .ref 186]) (lv0 := [(0, .ref 166), (1, .int (nI s)), (2, .int (nI n))]) (Q1 := (fun z0 h' => z0 = some (.int (nI (bn (Nat.testBit s n)))) ∧ h' = HN (ur g 186 w) hl (RF rt))) rfl rfl (C_isIn _ _ _ _ s n (by omega) (by omega) ⟨rfl, rfl⟩) (fun r h' hr => ?_)
      obtain ⟨rfl, rfl⟩ := hr
      refine Ev_bn (fun hb33 => ?_) (fun hb33 => ?_)
      · skip
        refine Ev.run 4 (pc' := 41) (lv' := [(3, .int (nI n)), (2, .int (nI (6 - f))), (0, .ref 166), (1, .int (nI s))]) (st' := [.int (nI n), .ref 168, .int (nI ((7 * n) + (6 - f))), .ref 186]) (h' := HN (ur g 186 w) hl (RF rt)) rfl ?_
        refine Ev_iald rfl rfl (show n < 12 by omega) (Nat.le_of_ble_eq_true rfl) ?_
        have hr0 := hsz n (by omega)
        refine Ev.run 2 (pc' := (if nI (g 168 n) < nI (6 - f) then 66 else 46)) (lv' := [(3, .int (nI n)), (2, .int (nI (6 - f))), (0, .ref 166), (1, .int (nI s))]) (st' := [.int (nI ((7 * n) + (6 - f))), .ref 186]) (h' := HN (ur g 186 w) hl (RF rt)) rfl ?_
        refine Ev.ite (fun hc43 => ?_) (fun hc43 => ?_)
        · have hc43 : (g 168 n) < (6 - f) := (nI_ltI (by omega) (by omega)).mp hc43
          refine Ev.run 1 (pc' := 67) (lv' := [(3, .int (nI n)), (2, .int (nI (6 - f))), (0, .ref 166), (1, .int (nI s))]) (st' := [.int (nI 0), .int (nI ((7 * n) + (6 - f))), .ref 186]) (h' := HN (ur g 186 w) hl (RF rt)) rfl ?_
          refine Ev_bast rfl rfl (show (7 * n) + (6 - f) < 84 by omega) (Nat.le_of_ble_eq_true rfl) (by omega) ?_
          refine Ev.run 1 (pc' := 71) (lv' := [(3, .int (nI n + 1)), (2, .int (nI (6 - f))), (0, .ref 166), (1, .int (nI s))]) (st' := []) (h' := HN (u2 (ur g 186 w) 186 ((7 * n) + (6 - f)) 0) hl (RF rt)) rfl ?_
          refine Ev.lvE (congrArg (fun z => (3, Value.int z) :: [(2, .int (nI (6 - f))), (0, .ref 166), (1, .int (nI s))]) (nI_1 _)) ?_
          refine Ev.run 1 (pc' := 9) (lv' := [(3, .int (nI (n + 1))), (2, .int (nI (6 - f))), (0, .ref 166), (1, .int (nI s))]) (st' := []) (h' := HN (u2 (ur g 186 w) 186 ((7 * n) + (6 - f)) 0) hl (RF rt)) rfl ?_
          have hwu := WB_up (i := n) (x := 0) hwb (by omega) hdn (by (by_cases h0 : f = 0) <;> first | (subst h0; rfl) | (exfalso; omega) | (rw [wB_p h0]; simp only [hc14, hb33, hc43, Bool.and_true, Bool.and_false, Bool.true_and, Bool.false_and, decide_true, decide_false, Bool.not_true, Bool.not_false]; rfl))
          have hx := hnext (by omega) (up w (7 * n + (6 - f)) 0) hwu.1 hwu.2
          rw [← ur_up] at hx
          exact hx
        · have hc43 : ¬ ((g 168 n) < (6 - f)) := fun z => hc43 ((nI_ltI (by omega) (by omega)).mpr z)
          refine Ev.run 3 (pc' := (if nI 6 ≤ nI (6 - f) then 66 else 52)) (lv' := [(3, .int (nI n)), (2, .int (nI (6 - f))), (0, .ref 166), (1, .int (nI s))]) (st' := [.int (nI ((7 * n) + (6 - f))), .ref 186]) (h' := HN (ur g 186 w) hl (RF rt)) rfl ?_
          refine Ev.ite (fun hc49 => ?_) (fun hc49 => ?_)
          · have hc49 : 6 ≤ (6 - f) := (nI_leI (by omega) (by omega)).mp hc49
            refine Ev.run 1 (pc' := 67) (lv' := [(3, .int (nI n)), (2, .int (nI (6 - f))), (0, .ref 166), (1, .int (nI s))]) (st' := [.int (nI 0), .int (nI ((7 * n) + (6 - f))), .ref 186]) (h' := HN (ur g 186 w) hl (RF rt)) rfl ?_
            refine Ev_bast rfl rfl (show (7 * n) + (6 - f) < 84 by omega) (Nat.le_of_ble_eq_true rfl) (by omega) ?_
            refine Ev.run 1 (pc' := 71) (lv' := [(3, .int (nI n + 1)), (2, .int (nI (6 - f))), (0, .ref 166), (1, .int (nI s))]) (st' := []) (h' := HN (u2 (ur g 186 w) 186 ((7 * n) + (6 - f)) 0) hl (RF rt)) rfl ?_
            refine Ev.lvE (congrArg (fun z => (3, Value.int z) :: [(2, .int (nI (6 - f))), (0, .ref 166), (1, .int (nI s))]) (nI_1 _)) ?_
            refine Ev.run 1 (pc' := 9) (lv' := [(3, .int (nI (n + 1))), (2, .int (nI (6 - f))), (0, .ref 166), (1, .int (nI s))]) (st' := []) (h' := HN (u2 (ur g 186 w) 186 ((7 * n) + (6 - f)) 0) hl (RF rt)) rfl ?_
            have hwu := WB_up (i := n) (x := 0) hwb (by omega) hdn (by (by_cases h0 : f = 0) <;> first | (subst h0; rfl) | (exfalso; omega) | (rw [wB_p h0]; simp only [hc14, hb33, hc43, hc49, Bool.and_true, Bool.and_false, Bool.true_and, Bool.false_and, decide_true, decide_false, Bool.not_true, Bool.not_false]; rfl))
            have hx := hnext (by omega) (up w (7 * n + (6 - f)) 0) hwu.1 hwu.2
            rw [← ur_up] at hx
            exact hx
          · have hc49 : ¬ (6 ≤ (6 - f)) := fun z => hc49 ((nI_leI (by omega) (by omega)).mpr z)
            refine Ev.run 4 (pc' := 56) (lv' := [(3, .int (nI n)), (2, .int (nI (6 - f))), (0, .ref 166), (1, .int (nI s))]) (st' := [.int (nI (6 - f)), .int (nI n), .int (nI s), .ref 166, .int (nI ((7 * n) + (6 - f))), .ref 186]) (h' := HN (ur g 186 w) hl (RF rt)) rfl ?_
            refine Ev.call (a := 172) (as := [.ref 166, .int (nI s), .int (nI n), .int (nI (6 - f))]) (rest := [.int (nI ((7 * n) + (6 - f))), .ref 186]) (lv0 := [(0, .ref 166), (1, .int (nI s)), (2, .int (nI n)), (3, .int (nI (6 - f)))]) (Q1 := (fun z0 h' => z0 = some (.int (nI (winF (ur g 186 w) s (wB g s (f - 1)) n (6 - f)))) ∧ h' = HN (ur g 186 w) hl (RF rt))) rfl rfl (C_winning _ _ _ _ (hI.ur186 hwb.1) s n (6 - f) (wB g s (f - 1)) (by omega) (by omega) (by omega) (fun o h1 h2 _ => by have hz := hwb.2 (6 - f + 1) (by omega) (by omega) o h1; rw [show 6 - (6 - f + 1) = f - 1 by omega] at hz; exact hz) ⟨rfl, rfl⟩) (fun r h' hr => ?_)
            obtain ⟨rfl, rfl⟩ := hr
            have hwl := winF_lt (hI.ur186 hwb.1) s (wB g s (f - 1)) n (6 - f)
            rw [(Cx.ur186 g w).xwinF] at hwl ⊢
            refine Ev.run 1 (pc' := (if nI (winF g s (wB g s (f - 1)) n (6 - f)) = 0 then 66 else 62)) (lv' := [(3, .int (nI n)), (2, .int (nI (6 - f))), (0, .ref 166), (1, .int (nI s))]) (st' := [.int (nI ((7 * n) + (6 - f))), .ref 186]) (h' := HN (ur g 186 w) hl (RF rt)) rfl ?_
            refine Ev.ite (fun hc59 => ?_) (fun hc59 => ?_)
            · have hc59 : (winF g s (wB g s (f - 1)) n (6 - f)) = 0 := (nI_eqU0 (by omega)).mp hc59
              refine Ev.run 1 (pc' := 67) (lv' := [(3, .int (nI n)), (2, .int (nI (6 - f))), (0, .ref 166), (1, .int (nI s))]) (st' := [.int (nI 0), .int (nI ((7 * n) + (6 - f))), .ref 186]) (h' := HN (ur g 186 w) hl (RF rt)) rfl ?_
              refine Ev_bast rfl rfl (show (7 * n) + (6 - f) < 84 by omega) (Nat.le_of_ble_eq_true rfl) (by omega) ?_
              refine Ev.run 1 (pc' := 71) (lv' := [(3, .int (nI n + 1)), (2, .int (nI (6 - f))), (0, .ref 166), (1, .int (nI s))]) (st' := []) (h' := HN (u2 (ur g 186 w) 186 ((7 * n) + (6 - f)) 0) hl (RF rt)) rfl ?_
              refine Ev.lvE (congrArg (fun z => (3, Value.int z) :: [(2, .int (nI (6 - f))), (0, .ref 166), (1, .int (nI s))]) (nI_1 _)) ?_
              refine Ev.run 1 (pc' := 9) (lv' := [(3, .int (nI (n + 1))), (2, .int (nI (6 - f))), (0, .ref 166), (1, .int (nI s))]) (st' := []) (h' := HN (u2 (ur g 186 w) 186 ((7 * n) + (6 - f)) 0) hl (RF rt)) rfl ?_
              have hwu := WB_up (i := n) (x := 0) hwb (by omega) hdn (by (by_cases h0 : f = 0) <;> first | (subst h0; rfl) | (exfalso; omega) | (rw [wB_p h0]; simp only [hc14, hb33, hc43, hc49, hc59, Bool.and_true, Bool.and_false, Bool.true_and, Bool.false_and, decide_true, decide_false, Bool.not_true, Bool.not_false]; rfl))
              have hx := hnext (by omega) (up w (7 * n + (6 - f)) 0) hwu.1 hwu.2
              rw [← ur_up] at hx
              exact hx
            · have hc59 : ¬ ((winF g s (wB g s (f - 1)) n (6 - f)) = 0) := fun z => hc59 ((nI_eqU0 (by omega)).mpr z)
              refine Ev.run 2 (pc' := 67) (lv' := [(3, .int (nI n)), (2, .int (nI (6 - f))), (0, .ref 166), (1, .int (nI s))]) (st' := [.int (nI 1), .int (nI ((7 * n) + (6 - f))), .ref 186]) (h' := HN (ur g 186 w) hl (RF rt)) rfl ?_
              refine Ev_bast rfl rfl (show (7 * n) + (6 - f) < 84 by omega) (Nat.le_of_ble_eq_true rfl) (by omega) ?_
              refine Ev.run 1 (pc' := 71) (lv' := [(3, .int (nI n + 1)), (2, .int (nI (6 - f))), (0, .ref 166), (1, .int (nI s))]) (st' := []) (h' := HN (u2 (ur g 186 w) 186 ((7 * n) + (6 - f)) 1) hl (RF rt)) rfl ?_
              refine Ev.lvE (congrArg (fun z => (3, Value.int z) :: [(2, .int (nI (6 - f))), (0, .ref 166), (1, .int (nI s))]) (nI_1 _)) ?_
              refine Ev.run 1 (pc' := 9) (lv' := [(3, .int (nI (n + 1))), (2, .int (nI (6 - f))), (0, .ref 166), (1, .int (nI s))]) (st' := []) (h' := HN (u2 (ur g 186 w) 186 ((7 * n) + (6 - f)) 1) hl (RF rt)) rfl ?_
              have hwu := WB_up (i := n) (x := 1) hwb (by omega) hdn (by rw [wB_p (by omega)]; simp only [hc14, hb33, hc43, hc49, hc59, Bool.and_true, Bool.and_false, Bool.true_and, Bool.false_and, decide_true, decide_false, Bool.not_true, Bool.not_false]; try rfl)
              have hx := hnext (by omega) (up w (7 * n + (6 - f)) 1) hwu.1 hwu.2
              rw [← ur_up] at hx
              exact hx
      · skip
        refine Ev.run 2 (pc' := 67) (lv' := [(3, .int (nI n)), (2, .int (nI (6 - f))), (0, .ref 166), (1, .int (nI s))]) (st' := [.int (nI 0), .int (nI ((7 * n) + (6 - f))), .ref 186]) (h' := HN (ur g 186 w) hl (RF rt)) rfl ?_
        refine Ev_bast rfl rfl (show (7 * n) + (6 - f) < 84 by omega) (Nat.le_of_ble_eq_true rfl) (by omega) ?_
        refine Ev.run 1 (pc' := 71) (lv' := [(3, .int (nI n + 1)), (2, .int (nI (6 - f))), (0, .ref 166), (1, .int (nI s))]) (st' := []) (h' := HN (u2 (ur g 186 w) 186 ((7 * n) + (6 - f)) 0) hl (RF rt)) rfl ?_
        refine Ev.lvE (congrArg (fun z => (3, Value.int z) :: [(2, .int (nI (6 - f))), (0, .ref 166), (1, .int (nI s))]) (nI_1 _)) ?_
        refine Ev.run 1 (pc' := 9) (lv' := [(3, .int (nI (n + 1))), (2, .int (nI (6 - f))), (0, .ref 166), (1, .int (nI s))]) (st' := []) (h' := HN (u2 (ur g 186 w) 186 ((7 * n) + (6 - f)) 0) hl (RF rt)) rfl ?_
        have hwu := WB_up (i := n) (x := 0) hwb (by omega) hdn (by (by_cases h0 : f = 0) <;> first | (subst h0; rfl) | (exfalso; omega) | (rw [wB_p h0]; simp only [hc14, hb33, Bool.and_true, Bool.and_false, Bool.true_and, Bool.false_and, decide_true, decide_false, Bool.not_true, Bool.not_false]; rfl))
        have hx := hnext (by omega) (up w (7 * n + (6 - f)) 0) hwu.1 hwu.2
        rw [← ur_up] at hx
        exact hx
theorem fitA_lt {g : Nat → Nat → Nat} (h : MI g) (r : Nat → Nat) (n s : Nat) : fitA g r n s < 4096 := bset_12 _ h.hW
theorem fitA_least {g : Nat → Nat → Nat} (h : MI g) {r : Nat → Nat} {n s : Nat} (h0 : fitA g r n s ≠ 0) : least (fitA g r n s) < g 166 0 ∧ s.testBit (least (fitA g r n s)) = true ∧ ft g r n (least (fitA g r n s)) = true := by
  obtain ⟨j, h1, h2, h3⟩ := least_ex h0 (bset_lt _ _)
  have h4 := least_eq (s := fitA g r n s) (j := j) (by have := h.hW; omega) h2 h3
  rw [h4]
  have h5 := h2
  unfold fitA at h5
  rw [bset_tb, Bool.and_eq_true, Bool.and_eq_true] at h5
  exact ⟨h1, h5.2.1, h5.2.2⟩
theorem C_winningRow {L : Nat} {xs : Nat → Int32} (d : Nat) (g : Nat → Nat → Nat) (hl : Nat → Nat → Int64) (rt : Nat × Nat × Nat × Nat) (hI : MI g) (s : Nat) (hs : s < 2 ^ 31) {Q : Po} (hq : ∀ w : Nat → Nat, (∀ j, j < 84 → w j ≤ 1) → Q (some (.int (nI (wrS g (g 175) (g 166 9) s)))) (HN (ur g 186 w) hl (RF rt))) : Ev L xs (d + 5) 174 0 [(0, .ref 166), (1, .int (nI s))] [] (HN g hl (RF rt)) Q := by
  have hW := hI.hW
  have hS := hI.hS
  have hPl := hI.hPl
  have hNx := hI.hNx
  have hLa := hI.hLa
  have hLo := hI.hLo
  have hTb := hI.hTb
  have hTh := hI.hTh
  have hFd := hI.hFd
  have hSn := hI.hSn
  have hSh := hI.hSh
  have hRan := hI.hRan
  have hLr := hI.hLr
  have hLt := hI.hLt
  have hgl := hI.hgl
  have hsz := hI.hsz
  have hcm := hI.hcm
  have hsl := hI.hsl
  have hkd := hI.hkd
  have hvv := hI.hvv
  have hli := hI.hli
  have hro := hI.hro
  have hrw := hI.hrw
  have htx := hI.htx
  have hsw := hI.hsw
  have hsx := hI.hsx
  have hsy := hI.hsy
  have hsh := hI.hsh
  have hle := hI.hle
  have hcl := hI.hcl
  have hwd := hI.hwd
  have hnu := hI.hnu
  have hwn := hI.hwn
  have hs1 := hI.hs1
  have hso := hI.hso
  have hfa := fitA_lt hI (g 175) (g 166 9) s
  refine Ev.run 2 (pc' := 2) (lv' := [(0, .ref 166), (1, .int (nI s))]) (st' := [.int (nI s), .ref 166]) (h' := HN g hl (RF rt)) rfl ?_
  refine Ev.call (a := 164) (as := [.ref 166, .int (nI s)]) (rest := []) (lv0 := [(0, .ref 166), (1, .int (nI s))]) (Q1 := (fun z0 h' => z0 = some (.int (nI (fitA g (g 175) (g 166 9) s))) ∧ h' = HN g hl (RF rt))) rfl rfl (C_fitting _ _ _ _ hI s (by omega) ⟨rfl, rfl⟩) (fun r h' hr => ?_)
  obtain ⟨rfl, rfl⟩ := hr
  refine Ev.run 3 (pc' := (if nI (fitA g (g 175) (g 166 9) s) = 0 then 19 else 10)) (lv' := [(2, .int (nI (fitA g (g 175) (g 166 9) s))), (0, .ref 166), (1, .int (nI s))]) (st' := []) (h' := HN g hl (RF rt)) rfl ?_
  refine Ev.ite (fun hc7 => ?_) (fun hc7 => ?_)
  · have hc7 : (fitA g (g 175) (g 166 9) s) = 0 := (nI_eqU0 (by omega)).mp hc7
    refine Ev.run 1 (pc' := 20) (lv' := [(2, .int (nI (fitA g (g 175) (g 166 9) s))), (0, .ref 166), (1, .int (nI s))]) (st' := [.int (nI 0)]) (h' := HN g hl (RF rt)) rfl ?_
    refine Ev.ret (v := some (.int (nI 0))) rfl ?_
    simp only [wrS, if_pos hc7] at hq
    have hx := hq (g 186) hI.hwn
    rw [ur_self] at hx
    first | exact hx | (rw [if_pos (by omega)] at hx; exact hx) | (rw [if_neg (by omega)] at hx; exact hx) | (split at hx <;> first | exact hx | omega)
  · have hc7 : ¬ ((fitA g (g 175) (g 166 9) s) = 0) := fun z => hc7 ((nI_eqU0 (by omega)).mpr z)
    refine Ev.run 4 (pc' := (if nI (g 166 9) ≤ nI 6 then 21 else 19)) (lv' := [(2, .int (nI (fitA g (g 175) (g 166 9) s))), (0, .ref 166), (1, .int (nI s))]) (st' := []) (h' := HN g hl (RF rt)) rfl ?_
    refine Ev.ite (fun hc16 => ?_) (fun hc16 => ?_)
    · have hc16 : (g 166 9) ≤ 6 := (nI_leI (by omega) (by omega)).mp hc16
      have hfl := fitA_least hI hc7
      refine Ev.run 2 (pc' := 23) (lv' := [(2, .int (nI (fitA g (g 175) (g 166 9) s))), (0, .ref 166), (1, .int (nI s))]) (st' := [.int (nI s), .ref 166]) (h' := HN g hl (RF rt)) rfl ?_
      refine Ev.call (a := 173) (as := [.ref 166, .int (nI s)]) (rest := []) (lv0 := [(0, .ref 166), (1, .int (nI s))]) (Q1 := (fun r h' => ∃ w, WB g s w 7 ∧ r = none ∧ h' = HN (ur g 186 w) hl (RF rt))) rfl rfl (C_layWon _ _ _ _ hI s (by omega) (fun w hw => ⟨w, hw, rfl, rfl⟩)) (fun r h' hr => ?_)
      obtain ⟨w, hwb, rfl, rfl⟩ := hr
      refine Ev.run 2 (pc' := 28) (lv' := [(2, .int (nI (fitA g (g 175) (g 166 9) s))), (0, .ref 166), (1, .int (nI s))]) (st' := [.int (nI (fitA g (g 175) (g 166 9) s)), .ref 166]) (h' := HN (ur g 186 w) hl (RF rt)) rfl ?_
      refine Ev.call (a := 129) (as := [.ref 166, .int (nI (fitA g (g 175) (g 166 9) s))]) (rest := []) (lv0 := [(0, .ref 166), (1, .int (nI (fitA g (g 175) (g 166 9) s)))]) (Q1 := (fun z0 h' => z0 = some (.int (nI (least (fitA g (g 175) (g 166 9) s)))) ∧ h' = HN (ur g 186 w) hl (RF rt))) rfl rfl (C_leastOf _ _ _ _ (fitA g (g 175) (g 166 9) s) (by assumption) (by omega) ⟨rfl, rfl⟩) (fun r h' hr => ?_)
      obtain ⟨rfl, rfl⟩ := hr
      refine Ev.run 5 (pc' := (if nI (g 166 9) = nI 6 then 41 else 45)) (lv' := [(3, .int (nI (least (fitA g (g 175) (g 166 9) s)))), (2, .int (nI (fitA g (g 175) (g 166 9) s))), (0, .ref 166), (1, .int (nI s))]) (st' := []) (h' := HN (ur g 186 w) hl (RF rt)) rfl ?_
      refine Ev.ite (fun hc38 => ?_) (fun hc38 => ?_)
      · have hc38 : (g 166 9) = 6 := (nI_eqU (by omega) (by omega)).mp hc38
        refine Ev.run 2 (pc' := 55) (lv' := [(3, .int (nI (least (fitA g (g 175) (g 166 9) s)))), (2, .int (nI (fitA g (g 175) (g 166 9) s))), (0, .ref 166), (1, .int (nI s))]) (st' := [.int (nI 0)]) (h' := HN (ur g 186 w) hl (RF rt)) rfl ?_
        refine Ev.ret (v := some (.int (nI 0))) rfl ?_
        simp only [wrS, if_neg hc7, if_pos hc16, if_pos hc38] at hq
        have hx := hq w hwb.1
        first | exact hx | (rw [if_pos (by omega)] at hx; exact hx) | (rw [if_neg (by omega)] at hx; exact hx) | (split at hx <;> first | exact hx | omega)
      · have hc38 : ¬ ((g 166 9) = 6) := fun z => hc38 ((nI_eqU (by omega) (by omega)).mpr z)
        refine Ev.run 5 (pc' := 52) (lv' := [(3, .int (nI (least (fitA g (g 175) (g 166 9) s)))), (2, .int (nI (fitA g (g 175) (g 166 9) s))), (0, .ref 166), (1, .int (nI s))]) (st' := [.int (nI (g 166 9)), .int (nI (least (fitA g (g 175) (g 166 9) s))), .int (nI s), .ref 166]) (h' := HN (ur g 186 w) hl (RF rt)) rfl ?_
        refine Ev.call (a := 172) (as := [.ref 166, .int (nI s), .int (nI (least (fitA g (g 175) (g 166 9) s))), .int (nI (g 166 9))]) (rest := []) (lv0 := [(0, .ref 166), (1, .int (nI s)), (2, .int (nI (least (fitA g (g 175) (g 166 9) s)))), (3, .int (nI (g 166 9)))]) (Q1 := (fun z0 h' => z0 = some (.int (nI (winF (ur g 186 w) s (wB g s (6 - (g 166 9 + 1))) (least (fitA g (g 175) (g 166 9) s)) (g 166 9)))) ∧ h' = HN (ur g 186 w) hl (RF rt))) rfl rfl (C_winning _ _ _ _ (MI.ur186 hI hwb.1) s (least (fitA g (g 175) (g 166 9) s)) (g 166 9) (wB g s (6 - (g 166 9 + 1))) (by omega) (by omega) (by omega) (fun o h1 h2 _ => by have hz := hwb.2 (g 166 9 + 1) (by omega) (by omega) o h1; exact hz) ⟨rfl, rfl⟩) (fun r h' hr => ?_)
        obtain ⟨rfl, rfl⟩ := hr
        rw [(Cx.ur186 g w).xwinF]
        refine Ev.ret (v := some (.int (nI (winF g s (wB g s (6 - (g 166 9 + 1))) (least (fitA g (g 175) (g 166 9) s)) (g 166 9))))) rfl ?_
        simp only [wrS, if_neg hc7, if_pos hc16, if_neg hc38] at hq
        have hx := hq w hwb.1
        first | exact hx | (rw [if_pos (by omega)] at hx; exact hx) | (rw [if_neg (by omega)] at hx; exact hx) | (split at hx <;> first | exact hx | omega)
    · have hc16 : ¬ ((g 166 9) ≤ 6) := fun z => hc16 ((nI_leI (by omega) (by omega)).mpr z)
      refine Ev.run 1 (pc' := 20) (lv' := [(2, .int (nI (fitA g (g 175) (g 166 9) s))), (0, .ref 166), (1, .int (nI s))]) (st' := [.int (nI 0)]) (h' := HN g hl (RF rt)) rfl ?_
      refine Ev.ret (v := some (.int (nI 0))) rfl ?_
      simp only [wrS, if_neg hc7, if_neg hc16] at hq
      have hx := hq (g 186) hI.hwn
      rw [ur_self] at hx
      first | exact hx | (rw [if_pos (by omega)] at hx; exact hx) | (rw [if_neg (by omega)] at hx; exact hx) | (split at hx <;> first | exact hx | omega)
