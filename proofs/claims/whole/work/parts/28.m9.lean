/-! the reference: who knows what -/
def factS (g : Nat → Nat → Nat) (f p i : Nat) : Nat := if f = 0 then p else if f = 1 then g 171 p else if f = 2 then g 172 p else if f = 3 then g 169 i else if f = 4 then g 168 i else g 167 (6 * i)
theorem factS_le {g : Nat → Nat → Nat} (h : MI g) {f p i : Nat} (hp : p < 5) (hi : i < 12) : factS g f p i ≤ 9 := by
  have := h.hkd p hp
  have := h.hvv p hp
  have := h.hcm i hi
  have := h.hsz i hi
  have := h.hgl (6 * i) (by omega)
  unfold factS
  repeat' split
  all_goals omega
def tstS (x t : Nat) : Bool := if t / 100 % 10 = 0 then !decide (t % 100 ≤ x) else if t / 100 % 10 = 1 then decide (x = t % 100) else !decide (x ≤ t % 100)
def evT (g : Nat → Nat → Nat) (p i t : Nat) (st : List Bool) : Option (List Bool) :=
  if t = 4294967263 then (match st with
    | b :: r => some ((!b) :: r)
    | [] => none)
  else if t < 2147483648 then some (tstS (factS g (t / 1000) p i) t :: st)
  else match st with
    | b :: a :: r => some ((if t = 4294967258 then a && b else a || b) :: r)
    | _ => none
def evF (g : Nat → Nat → Nat) (p i lo : Nat) : Nat → Option (List Bool)
  | 0 => some []
  | k + 1 => (evF g p i lo k).bind (evT g p i (g 182 (lo + k)))
/-- how high the pile is behind a sign -/
def htT (t h : Nat) : Option Nat := if t = 4294967263 then (if 1 ≤ h then some h else none) else if t = 4294967258 ∨ t = 4294967172 then (if 2 ≤ h then some (h - 1) else none) else if t < 6000 then some (h + 1) else none
def htF (s : Nat → Nat) (lo : Nat) : Nat → Option Nat
  | 0 => some 0
  | k + 1 => (htF s lo k).bind (htT (s (lo + k)))
theorem htF_pre {s : Nat → Nat} {lo : Nat} : ∀ {k h : Nat}, htF s lo (k + 1) = some h → ∃ h', htF s lo k = some h' ∧ htT (s (lo + k)) h' = some h := by
  intro k h e
  unfold htF at e
  cases e2 : htF s lo k with
  | none => rw [e2] at e; cases e
  | some h' => rw [e2] at e; exact ⟨h', rfl, e⟩
theorem htF_le {s : Nat → Nat} {lo : Nat} : ∀ {k h : Nat}, htF s lo k = some h → h ≤ k := by
  intro k
  induction k with
  | zero => intro h e; cases e; exact Nat.le_refl _
  | succ k ih =>
    intro h e
    obtain ⟨h', e1, e2⟩ := htF_pre e
    have := ih e1
    unfold htT at e2
    split at e2
    · split at e2
      · cases e2; omega
      · cases e2
    · split at e2
      · split at e2
        · cases e2; omega
        · cases e2
      · split at e2
        · cases e2; omega
        · cases e2
theorem htF_to {s : Nat → Nat} {lo : Nat} {n h : Nat} (e : htF s lo n = some h) : ∀ {k : Nat}, k ≤ n → ∃ h', htF s lo k = some h' := by
  intro k hk
  obtain ⟨d, rfl⟩ := Nat.exists_eq_add_of_le hk
  clear hk
  induction d generalizing h with
  | zero => exact ⟨h, e⟩
  | succ d ih =>
    obtain ⟨h', e1, _⟩ := htF_pre (k := k + d) e
    exact ih e1
theorem evT_ht {g : Nat → Nat → Nat} {p i t : Nat} {st : List Bool} {h : Nat} (e : htT t st.length = some h) : ∃ st', evT g p i t st = some st' ∧ st'.length = h := by
  unfold htT at e
  unfold evT
  by_cases h1 : t = 4294967263
  · rw [if_pos h1] at e ⊢
    cases st with
    | nil => cases e
    | cons b r =>
      rw [if_pos (by show 1 ≤ r.length + 1; omega)] at e
      cases e
      exact ⟨_, rfl, rfl⟩
  · rw [if_neg h1] at e ⊢
    by_cases h2 : t = 4294967258 ∨ t = 4294967172
    · rw [if_pos h2] at e
      rw [if_neg (by omega)]
      cases st with
      | nil => cases e
      | cons b r =>
        cases r with
        | nil => cases e
        | cons a r =>
          rw [if_pos (by show 2 ≤ r.length + 1 + 1; omega)] at e
          cases e
          exact ⟨_, rfl, rfl⟩
    · rw [if_neg h2] at e
      by_cases h3 : t < 6000
      · rw [if_pos h3] at e
        rw [if_pos (by omega)]
        cases e
        exact ⟨_, rfl, rfl⟩
      · rw [if_neg h3] at e; cases e
theorem evF_ht {g : Nat → Nat → Nat} {p i lo : Nat} : ∀ {k h : Nat}, htF (g 182) lo k = some h → ∃ st, evF g p i lo k = some st ∧ st.length = h := by
  intro k
  induction k with
  | zero => intro h e; cases e; exact ⟨[], rfl, rfl⟩
  | succ k ih =>
    intro h e
    obtain ⟨h', e1, e2⟩ := htF_pre e
    obtain ⟨st, h1, h2⟩ := ih e1
    rw [← h2] at e2
    obtain ⟨st', h3, h4⟩ := evT_ht (g := g) (p := p) (i := i) e2
    refine ⟨st', ?_, h4⟩
    unfold evF
    rw [h1]
    exact h3
/-- the signs of clause c are whole -/
def WFc (g : Nat → Nat → Nat) (c : Nat) : Prop := g 180 c ≤ g 181 c ∧ g 181 c ≤ 600 ∧ g 181 c ≤ g 180 c + 100 ∧ htF (g 182) (g 180 c) (g 181 c - g 180 c) = some 1 ∧ ∀ k h, k ≤ g 181 c - g 180 c → htF (g 182) (g 180 c) k = some h → h ≤ 18
def KW (g : Nat → Nat → Nat) : Prop := ∀ j, j < nC g → g 178 (fC g + j) = 0 → WFc g (fC g + j)
def hldS (g : Nat → Nat → Nat) (c p i : Nat) : Bool := ((evF g p i (g 180 c) (g 181 c - g 180 c)).getD []).headD false
def plO (w : Nat → Nat) (st : List Bool) : Prop := ∀ j, j < st.length → w j = bn (st.getD (st.length - 1 - j) false)
theorem plO_push {w : Nat → Nat} {st : List Bool} (h : plO w st) (b : Bool) {x : Nat} (hx : x = bn b) : plO (up w st.length x) (b :: st) := fun j hj => by
  have hj : j < st.length + 1 := hj
  show up w st.length x j = bn ((b :: st).getD (st.length + 1 - 1 - j) false)
  unfold up
  by_cases e : j = st.length
  · rw [if_pos e, e, show st.length + 1 - 1 - st.length = 0 by omega]; exact hx
  · rw [if_neg e, h j (by omega), show st.length + 1 - 1 - j = (st.length - 1 - j) + 1 by omega]
    rfl
theorem plO_tail {w : Nat → Nat} {b : Bool} {st : List Bool} (h : plO w (b :: st)) : plO w st := fun j hj => by
  have h1 := h j (by show j < st.length + 1; omega)
  rw [h1, show (b :: st).length - 1 - j = (st.length - 1 - j) + 1 by show st.length + 1 - 1 - j = _; omega]
  rfl
theorem plO_top {w : Nat → Nat} {b : Bool} {st : List Bool} (h : plO w (b :: st)) : w st.length = bn b := by
  have h1 := h st.length (Nat.lt_succ_self _)
  rw [h1, show (b :: st).length - 1 - st.length = 0 by show st.length + 1 - 1 - st.length = 0; omega]
  rfl
theorem nIbn0 (b : Bool) : nI (bn b) = 0 ↔ b = false := by cases b <;> decide +kernel
theorem tb {b : Bool} (h : ¬ b = false) : b = true := by cases b with
  | false => exact absurd rfl h
  | true => rfl
/-- what asking leaves otherwise: the row behind its letters, the pile, what is won -/
def U (g : Nat → Nat → Nat) (r w v : Nat → Nat) : Nat → Nat → Nat := ur (ur (ur g 175 r) 185 w) 186 v
def SmH (g : Nat → Nat → Nat) (r v : Nat → Nat) : Prop := (∀ j, j < 12 → r j ≤ 3) ∧ (∀ k, k < g 166 9 → r k = g 175 k) ∧ ∀ j, j < 84 → v j ≤ 1
theorem U_self (g : Nat → Nat → Nat) : U g (g 175) (g 185) (g 186) = g := by
  unfold U
  rw [ur_self g 175, ur_self g 185, ur_self g 186]
theorem SmH.self {g : Nat → Nat → Nat} (h : MI g) : SmH g (g 175) (g 186) := ⟨h.hrw, fun _ _ => rfl, h.hwn⟩
theorem U_175 (g : Nat → Nat → Nat) (r w v : Nat → Nat) (n x : Nat) : u2 (U g r w v) 175 n x = U g (up r n x) w v := by
  funext a b; unfold u2 U ur up
  by_cases e : a = 175
  · subst e; simp
  · simp [e]
theorem U_185 (g : Nat → Nat → Nat) (r w v : Nat → Nat) (n x : Nat) : u2 (U g r w v) 185 n x = U g r (up w n x) v := by
  funext a b; unfold u2 U ur up
  by_cases e : a = 185
  · subst e; simp
  · simp [e]
theorem U_ur (g : Nat → Nat → Nat) (r w v v' : Nat → Nat) : ur (U g r w v) 186 v' = U g r w v' := by
  funext a b; unfold U ur
  by_cases e : a = 186
  · subst e; simp
  · simp [e]
theorem U_u9 (g : Nat → Nat → Nat) (r w v : Nat → Nat) (x : Nat) : u2 (U g r w v) 166 9 x = U (u2 g 166 9 x) r w v := by
  funext a b; unfold u2 U ur
  by_cases e : a = 166
  · subst e; simp
  · simp [e]
theorem u2_9 (g : Nat → Nat → Nat) (x y : Nat) (h : y = g 166 9) : u2 (u2 g 166 9 x) 166 9 y = g := by
  funext a b; unfold u2
  by_cases e : a = 166
  · subst e
    by_cases e2 : b = 9
    · subst e2; simp [h]
    · simp [e2]
  · simp [e]
theorem MI.mU {g : Nat → Nat → Nat} (h : MI g) {r v : Nat → Nat} (hs : SmH g r v) {w : Nat → Nat} : MI (U g r w v) := ⟨h.hW, h.hS, h.hPl, h.hNx, h.hLa, h.hLo, h.hTb, h.hTh, h.hFd, h.hSn, h.hSh, h.hRan, h.hLr, h.hLt, h.hgl, h.hsz, h.hcm, h.hsl, h.hkd, h.hvv, h.hli, h.hro, hs.1, h.htx, h.hsw, h.hsx, h.hsy, h.hsh, h.hle, h.hcl, h.hwd, h.hnu, hs.2.2, h.hs1, h.hso⟩
theorem Cx.cU (g : Nat → Nat → Nat) (r w v : Nat → Nat) : Cx g (U g r w v) := ⟨fun c _ _ h3 h4 h5 _ _ => by funext b; unfold U ur; rw [if_neg h5, if_neg h4, if_neg h3], fun _ _ _ _ _ _ _ _ _ _ => rfl⟩
theorem SmH.sup {g : Nat → Nat → Nat} {r v : Nat → Nat} (h : SmH g r v) {x : Nat} (hx : x ≤ 3) : SmH g (up r (g 166 9) x) v := ⟨up_le h.1 hx, fun k hk => by
  unfold up; rw [if_neg (by omega)]; exact h.2.1 k hk, h.2.2⟩
theorem SmH.sv {g : Nat → Nat → Nat} {r v v' : Nat → Nat} (h : SmH g r v) (hv : ∀ j, j < 84 → v' j ≤ 1) : SmH g r v' := ⟨h.1, h.2.1, hv⟩
theorem C_factOf {L : Nat} {xs : Nat → Int32} (d : Nat) (g : Nat → Nat → Nat) (hl : Nat → Nat → Int64) (rt : Nat × Nat × Nat × Nat) (hI : MI g) (f p i : Nat) (hf : f < 2 ^ 31) (hp : p < 5) (hi : i < 12) {Q : Po} (hq : Q (some (.int (nI (factS g f p i)))) (HN g hl (RF rt))) : Ev L xs d 159 0 [(0, .ref 166), (1, .int (nI f)), (2, .int (nI p)), (3, .int (nI i))] [] (HN g hl (RF rt)) Q := by
  have hW := hI.hW
  have hS := hI.hS
  have hPl := hI.hPl
  have hNx := hI.hNx
  have hLa := hI.hLa
  have hLo := hI.hLo
  have hTb := hI.hTb
  have hTh := hI.hTh
  have hFd := hI.hFd
  have hSn := hI.hSn
  have hSh := hI.hSh
  have hRan := hI.hRan
  have hLr := hI.hLr
  have hLt := hI.hLt
  have hgl := hI.hgl
  have hsz := hI.hsz
  have hcm := hI.hcm
  have hsl := hI.hsl
  have hkd := hI.hkd
  have hvv := hI.hvv
  have hli := hI.hli
  have hro := hI.hro
  have hrw := hI.hrw
  have htx := hI.htx
  have hsw := hI.hsw
  have hsx := hI.hsx
  have hsy := hI.hsy
  have hsh := hI.hsh
  have hle := hI.hle
  have hcl := hI.hcl
  have hwd := hI.hwd
  have hnu := hI.hnu
  have hwn := hI.hwn
  have hs1 := hI.hs1
  have hso := hI.hso
  refine Ev.run 1 (pc' := 1) (lv' := [(0, .ref 166), (1, .int (nI f)), (2, .int (nI p)), (3, .int (nI i))]) (st' := [.int (nI f)]) (h' := HN g hl (RF rt)) rfl ?_
  by_cases hs1_0 : f = 0
  · refine Ev.topI (congrArg nI hs1_0) ?_
    refine Ev.run 2 (pc' := 37) (lv' := [(0, .ref 166), (1, .int (nI f)), (2, .int (nI p)), (3, .int (nI i))]) (st' := [.int (nI p)]) (h' := HN g hl (RF rt)) rfl ?_
    refine Ev.ret (v := some (.int (nI p))) rfl ?_
    first
      | (simp only [factS, if_pos hs1_0] at hq; exact hq)
      | (simp only [factS] at hq; rw [if_neg hs1_0, if_neg hs1_1, if_neg hs1_2, if_neg hs1_3, if_neg hs1_4] at hq; exact hq)
  by_cases hs1_1 : f = 1
  · refine Ev.topI (congrArg nI hs1_1) ?_
    refine Ev.run 4 (pc' := 43) (lv' := [(0, .ref 166), (1, .int (nI f)), (2, .int (nI p)), (3, .int (nI i))]) (st' := [.int (nI p), .ref 171]) (h' := HN g hl (RF rt)) rfl ?_
    refine Ev_iald rfl rfl (show p < 5 by omega) (Nat.le_of_ble_eq_true rfl) ?_
    have hr0 := hkd p (by omega)
    refine Ev.ret (v := some (.int (nI (g 171 p)))) rfl ?_
    first
      | (simp only [factS, if_neg hs1_0, if_pos hs1_1] at hq; exact hq)
      | (simp only [factS] at hq; rw [if_neg hs1_0, if_neg hs1_1, if_neg hs1_2, if_neg hs1_3, if_neg hs1_4] at hq; exact hq)
  by_cases hs1_2 : f = 2
  · refine Ev.topI (congrArg nI hs1_2) ?_
    refine Ev.run 4 (pc' := 50) (lv' := [(0, .ref 166), (1, .int (nI f)), (2, .int (nI p)), (3, .int (nI i))]) (st' := [.int (nI p), .ref 172]) (h' := HN g hl (RF rt)) rfl ?_
    refine Ev_iald rfl rfl (show p < 5 by omega) (Nat.le_of_ble_eq_true rfl) ?_
    have hr1 := hvv p (by omega)
    refine Ev.ret (v := some (.int (nI (g 172 p)))) rfl ?_
    first
      | (simp only [factS, if_neg hs1_0, if_neg hs1_1, if_pos hs1_2] at hq; exact hq)
      | (simp only [factS] at hq; rw [if_neg hs1_0, if_neg hs1_1, if_neg hs1_2, if_neg hs1_3, if_neg hs1_4] at hq; exact hq)
  by_cases hs1_3 : f = 3
  · refine Ev.topI (congrArg nI hs1_3) ?_
    refine Ev.run 4 (pc' := 57) (lv' := [(0, .ref 166), (1, .int (nI f)), (2, .int (nI p)), (3, .int (nI i))]) (st' := [.int (nI i), .ref 169]) (h' := HN g hl (RF rt)) rfl ?_
    refine Ev_iald rfl rfl (show i < 12 by omega) (Nat.le_of_ble_eq_true rfl) ?_
    have hr2 := hcm i (by omega)
    refine Ev.ret (v := some (.int (nI (g 169 i)))) rfl ?_
    first
      | (simp only [factS, if_neg hs1_0, if_neg hs1_1, if_neg hs1_2, if_pos hs1_3] at hq; exact hq)
      | (simp only [factS] at hq; rw [if_neg hs1_0, if_neg hs1_1, if_neg hs1_2, if_neg hs1_3, if_neg hs1_4] at hq; exact hq)
  by_cases hs1_4 : f = 4
  · refine Ev.topI (congrArg nI hs1_4) ?_
    refine Ev.run 4 (pc' := 64) (lv' := [(0, .ref 166), (1, .int (nI f)), (2, .int (nI p)), (3, .int (nI i))]) (st' := [.int (nI i), .ref 168]) (h' := HN g hl (RF rt)) rfl ?_
    refine Ev_iald rfl rfl (show i < 12 by omega) (Nat.le_of_ble_eq_true rfl) ?_
    have hr3 := hsz i (by omega)
    refine Ev.ret (v := some (.int (nI (g 168 i)))) rfl ?_
    first
      | (simp only [factS, if_neg hs1_0, if_neg hs1_1, if_neg hs1_2, if_neg hs1_3, if_pos hs1_4] at hq; exact hq)
      | (simp only [factS] at hq; rw [if_neg hs1_0, if_neg hs1_1, if_neg hs1_2, if_neg hs1_3, if_neg hs1_4] at hq; exact hq)
  refine Ev_tsOut (tgt := 66) rfl (sw_out (x := f) (hi := 4) (by omega) (by omega) (by omega)) rfl ?_
  refine Ev.run 5 (pc' := 74) (lv' := [(0, .ref 166), (1, .int (nI f)), (2, .int (nI p)), (3, .int (nI i))]) (st' := [.int (nI 6 * nI i), .ref 167]) (h' := HN g hl (RF rt)) rfl ?_
  refine Ev.topI (pk_mul _ _) ?_
  refine Ev_iald rfl rfl (show 6 * i < 72 by omega) (Nat.le_of_ble_eq_true rfl) ?_
  have hr4 := hgl (6 * i) (by omega)
  refine Ev.ret (v := some (.int (nI (g 167 (6 * i))))) rfl ?_
  first
    | (simp only [factS, if_neg hs1_0, if_neg hs1_1, if_neg hs1_2, if_neg hs1_3, if_neg hs1_4] at hq; exact hq)
    | (simp only [factS] at hq; rw [if_neg hs1_0, if_neg hs1_1, if_neg hs1_2, if_neg hs1_3, if_neg hs1_4] at hq; exact hq)
theorem C_holds {L : Nat} {xs : Nat → Int32} (d : Nat) (g : Nat → Nat → Nat) (hl : Nat → Nat → Int64) (rt : Nat × Nat × Nat × Nat) (hI : MI g) (c p i : Nat) (hc : c < 60) (hp : p < 5) (hi : i < 12) (hWF : WFc g c) (r w v : Nat → Nat) (hs : SmH g r v)  {Q : Po} (hq : ∀ r' w' v' : Nat → Nat, SmH g r' v' → Q (some (.int (nI (bn (hldS g c p i))))) (HN (U g r' w' v') hl (RF rt))) : Ev L xs (d + 1) 160 0 [(0, .ref 166), (1, .int (nI c)), (2, .int (nI p)), (3, .int (nI i))] [] (HN (U g r w v) hl (RF rt)) Q := by
  have hW := hI.hW
  have hS := hI.hS
  have hPl := hI.hPl
  have hNx := hI.hNx
  have hLa := hI.hLa
  have hLo := hI.hLo
  have hTb := hI.hTb
  have hTh := hI.hTh
  have hFd := hI.hFd
  have hSn := hI.hSn
  have hSh := hI.hSh
  have hRan := hI.hRan
  have hLr := hI.hLr
  have hLt := hI.hLt
  have hgl := hI.hgl
  have hsz := hI.hsz
  have hcm := hI.hcm
  have hsl := hI.hsl
  have hkd := hI.hkd
  have hvv := hI.hvv
  have hli := hI.hli
  have hro := hI.hro
  have hrw := hI.hrw
  have htx := hI.htx
  have hsw := hI.hsw
  have hsx := hI.hsx
  have hsy := hI.hsy
  have hsh := hI.hsh
  have hle := hI.hle
  have hcl := hI.hcl
  have hwd := hI.hwd
  have hnu := hI.hnu
  have hwn := hI.hwn
  have hs1 := hI.hs1
  have hso := hI.hso
  refine Ev.run 5 (pc' := 8) (lv' := [(4, .int (nI 0)), (0, .ref 166), (1, .int (nI c)), (2, .int (nI p)), (3, .int (nI i))]) (st' := [.int (nI c), .ref 180]) (h' := HN (U g r w v) hl (RF rt)) rfl ?_
  refine Ev_iald rfl rfl (show c < 60 by omega) (Nat.le_of_ble_eq_true rfl) ?_
  refine Ev.run 1 (pc' := 11) (lv' := [(5, .int (nI (g 180 c))), (4, .int (nI 0)), (0, .ref 166), (1, .int (nI c)), (2, .int (nI p)), (3, .int (nI i))]) (st' := []) (h' := HN (U g r w v) hl (RF rt)) rfl ?_
  obtain ⟨hw1, hw2, hw3, hw4, hw5⟩ := hWF
  refine for_ind (g 181 c - g 180 c) (fun n => ∀ w stk, evF g p i (g 180 c) n = some stk → plO w stk → Ev L xs (d + 1) 160 11 [(5, .int (nI (g 180 c + n))), (4, .int (nI stk.length)), (0, .ref 166), (1, .int (nI c)), (2, .int (nI p)), (3, .int (nI i))] [] (HN (U g r w v) hl (RF rt)) Q) (fun n hn hnext => ?_) 0 (Nat.zero_le _) w [] rfl (fun j hj => absurd hj (Nat.not_lt_zero _))
  intro w stk hev hpl
  obtain ⟨h0, hh0⟩ := htF_to hw4 hn
  have hsl : stk.length = h0 := by
    obtain ⟨st2, e1, e2⟩ := evF_ht (g := g) (p := p) (i := i) hh0
    rw [hev] at e1
    cases e1
    exact e2
  have hh1 := hw5 n h0 hn hh0
  refine Ev.run 4 (pc' := 18) (lv' := [(5, .int (nI (g 180 c + n))), (4, .int (nI stk.length)), (0, .ref 166), (1, .int (nI c)), (2, .int (nI p)), (3, .int (nI i))]) (st' := [.int (nI c), .ref 181, .int (nI (g 180 c + n))]) (h' := HN (U g r w v) hl (RF rt)) rfl ?_
  refine Ev_iald rfl rfl (show c < 60 by omega) (Nat.le_of_ble_eq_true rfl) ?_
  refine Ev.run 1 (pc' := (if nI (g 181 c) ≤ nI (g 180 c + n) then 253 else 22)) (lv' := [(5, .int (nI (g 180 c + n))), (4, .int (nI stk.length)), (0, .ref 166), (1, .int (nI c)), (2, .int (nI p)), (3, .int (nI i))]) (st' := []) (h' := HN (U g r w v) hl (RF rt)) rfl ?_
  refine Ev.ite (fun hc19 => ?_) (fun hc19 => ?_)
  · have hc19 : (g 181 c) ≤ (g 180 c + n) := (nI_leI (by omega) (by omega)).mp hc19
    refine Ev.run 3 (pc' := 258) (lv' := [(5, .int (nI (g 180 c + n))), (4, .int (nI stk.length)), (0, .ref 166), (1, .int (nI c)), (2, .int (nI p)), (3, .int (nI i))]) (st' := [.int (nI 0), .ref 185]) (h' := HN (U g r w v) hl (RF rt)) rfl ?_
    refine Ev_bald rfl rfl (show 0 < 100 by omega) (Nat.le_of_ble_eq_true rfl) ?_
    have hnn : n = g 181 c - g 180 c := by omega
    subst hnn
    obtain ⟨b, rfl⟩ : ∃ b, stk = [b] := by
      have e1 : stk.length = 1 := by rw [hsl]; rw [hw4] at hh0; cases hh0; rfl
      cases stk with
      | nil => cases e1
      | cons b tl => cases tl with
        | nil => exact ⟨b, rfl⟩
        | cons a tl => cases e1
    have e : w 0 = bn (hldS g c p i) := by
      unfold hldS; rw [hev]; exact hpl 0 (Nat.lt_succ_self _)
    refine Ev.topI (congrArg nI e) ?_
    refine Ev_bn (fun hb259 => ?_) (fun hb259 => ?_)
    · skip
      refine Ev.ret (v := some (.int (nI 1))) rfl ?_
      have hx := hq r w v hs
      rw [hb259] at hx
      exact hx
    · skip
      refine Ev.ret (v := some (.int (nI 0))) rfl ?_
      have hx := hq r w v hs
      rw [hb259] at hx
      exact hx
  · have hc19 : ¬ ((g 181 c) ≤ (g 180 c + n)) := fun z => hc19 ((nI_leI (by omega) (by omega)).mpr z)
    refine Ev.run 3 (pc' := 28) (lv' := [(5, .int (nI (g 180 c + n))), (4, .int (nI stk.length)), (0, .ref 166), (1, .int (nI c)), (2, .int (nI p)), (3, .int (nI i))]) (st' := [.int (nI (g 180 c + n)), .ref 182]) (h' := HN (U g r w v) hl (RF rt)) rfl ?_
    refine Ev_iald rfl rfl (show g 180 c + n < 600 by omega) (Nat.le_of_ble_eq_true rfl) ?_
    refine Ev.run 1 (pc' := 31) (lv' := [(6, .int (nI (g 182 (g 180 c + n)))), (5, .int (nI (g 180 c + n))), (4, .int (nI stk.length)), (0, .ref 166), (1, .int (nI c)), (2, .int (nI p)), (3, .int (nI i))]) (st' := []) (h' := HN (U g r w v) hl (RF rt)) rfl ?_
    have ht32 : g 182 (g 180 c + n) < 4294967296 := by
      obtain ⟨h1, hh2⟩ := htF_to hw4 (show n + 1 ≤ g 181 c - g 180 c by omega)
      obtain ⟨h3, hh3, hh4⟩ := htF_pre hh2
      unfold htT at hh4
      split at hh4
      · omega
      · split at hh4
        · omega
        · split at hh4
          · omega
          · cases hh4
    refine Ev.run 3 (pc' := (if nI (g 182 (g 180 c + n)) = nI 4294967263 then 38 else 67)) (lv' := [(6, .int (nI (g 182 (g 180 c + n)))), (5, .int (nI (g 180 c + n))), (4, .int (nI stk.length)), (0, .ref 166), (1, .int (nI c)), (2, .int (nI p)), (3, .int (nI i))]) (st' := []) (h' := HN (U g r w v) hl (RF rt)) rfl ?_
    refine Ev.ite (fun hc35 => ?_) (fun hc35 => ?_)
    · have hc35 : (g 182 (g 180 c + n)) = 4294967263 := (nI_eqU (by omega) (by omega)).mp hc35
      obtain ⟨h1, hh2⟩ := htF_to hw4 (show n + 1 ≤ g 181 c - g 180 c by omega)
      obtain ⟨h3, hh3, hh4⟩ := htF_pre hh2
      obtain rfl : h3 = h0 := by rw [hh0] at hh3; cases hh3; rfl
      rw [← hsl] at hh4
      unfold htT at hh4
      rw [if_pos hc35] at hh4
      obtain ⟨b, tl, rfl⟩ : ∃ b tl, stk = b :: tl := by
        cases stk with
        | nil => cases hh4
        | cons b tl => exact ⟨b, tl, rfl⟩
      have hpb : w tl.length = bn b := plO_top hpl
      have hsl : tl.length + 1 = h3 := hsl
      refine Ev.run 5 (pc' := 46) (lv' := [(6, .int (nI (g 182 (g 180 c + n)))), (5, .int (nI (g 180 c + n))), (4, .int (nI (tl.length + 1))), (0, .ref 166), (1, .int (nI c)), (2, .int (nI p)), (3, .int (nI i))]) (st' := [.int (nI (tl.length + 1) - nI 1), .ref 185]) (h' := HN (U g r w v) hl (RF rt)) rfl ?_
      refine Ev.topI (pk_sub (a := (tl.length + 1)) (b := 1) (by omega)) ?_
      refine Ev.run 5 (pc' := 54) (lv' := [(6, .int (nI (g 182 (g 180 c + n)))), (5, .int (nI (g 180 c + n))), (4, .int (nI (tl.length + 1))), (0, .ref 166), (1, .int (nI c)), (2, .int (nI p)), (3, .int (nI i))]) (st' := [.int (nI (tl.length + 1) - nI 1), .ref 185, .int (nI tl.length), .ref 185]) (h' := HN (U g r w v) hl (RF rt)) rfl ?_
      refine Ev.topI (pk_sub (a := (tl.length + 1)) (b := 1) (by omega)) ?_
      refine Ev_bald rfl rfl (show tl.length < 100 by omega) (Nat.le_of_ble_eq_true rfl) ?_
      refine Ev.run 1 (pc' := (if nI (w tl.length) = 0 then 58 else 62)) (lv' := [(6, .int (nI (g 182 (g 180 c + n)))), (5, .int (nI (g 180 c + n))), (4, .int (nI (tl.length + 1))), (0, .ref 166), (1, .int (nI c)), (2, .int (nI p)), (3, .int (nI i))]) (st' := [.int (nI tl.length), .ref 185]) (h' := HN (U g r w v) hl (RF rt)) rfl ?_
      refine Ev.ite (fun hc55 => ?_) (fun hc55 => ?_)
      · have hc55 : b = false := ((show (nI (w (tl.length)) = 0) ↔ (b = false) from by rw [hpb]; exact nIbn0 b)).mp hc55
        refine Ev.run 2 (pc' := 63) (lv' := [(6, .int (nI (g 182 (g 180 c + n)))), (5, .int (nI (g 180 c + n))), (4, .int (nI (tl.length + 1))), (0, .ref 166), (1, .int (nI c)), (2, .int (nI p)), (3, .int (nI i))]) (st' := [.int (nI 1), .int (nI tl.length), .ref 185]) (h' := HN (U g r w v) hl (RF rt)) rfl ?_
        refine Ev_bast rfl rfl (show tl.length < 100 by omega) (Nat.le_of_ble_eq_true rfl) (by omega) ?_
        refine Ev.run 2 (pc' := 250) (lv' := [(5, .int (nI (g 180 c + n) + 1)), (6, .int (nI (g 182 (g 180 c + n)))), (4, .int (nI (tl.length + 1))), (0, .ref 166), (1, .int (nI c)), (2, .int (nI p)), (3, .int (nI i))]) (st' := []) (h' := HN (u2 (U g r w v) 185 tl.length 1) hl (RF rt)) rfl ?_
        refine Ev.lvE (congrArg (fun z => (5, Value.int z) :: [(6, .int (nI (g 182 (g 180 c + n)))), (4, .int (nI (tl.length + 1))), (0, .ref 166), (1, .int (nI c)), (2, .int (nI p)), (3, .int (nI i))]) (nI_1 _)) ?_
        refine Ev.run 1 (pc' := 11) (lv' := [(5, .int (nI (g 180 c + n + 1))), (6, .int (nI (g 182 (g 180 c + n)))), (4, .int (nI (tl.length + 1))), (0, .ref 166), (1, .int (nI c)), (2, .int (nI p)), (3, .int (nI i))]) (st' := []) (h' := HN (u2 (U g r w v) 185 tl.length 1) hl (RF rt)) rfl ?_
        have hx := hnext (by omega) (up w tl.length 1) ((!b) :: tl) (by unfold evF; rw [hev]; show evT g p i (g 182 (g 180 c + n)) _ = _; unfold evT; rw [if_pos hc35]) (plO_push (plO_tail hpl) (!b) (by rw [hc55]; rfl))
        rw [← U_185] at hx
        exact Ev.wk (Ext.cons rfl rfl (Ext.cons rfl rfl (Ext.cons rfl rfl (Ext.cons rfl rfl (Ext.cons rfl rfl (Ext.cons rfl rfl (Ext.nil rfl))))))) hx
      · have hc55 : ¬ (b = false) := fun z => hc55 (((show (nI (w (tl.length)) = 0) ↔ (b = false) from by rw [hpb]; exact nIbn0 b)).mpr z)
        refine Ev.run 1 (pc' := 63) (lv' := [(6, .int (nI (g 182 (g 180 c + n)))), (5, .int (nI (g 180 c + n))), (4, .int (nI (tl.length + 1))), (0, .ref 166), (1, .int (nI c)), (2, .int (nI p)), (3, .int (nI i))]) (st' := [.int (nI 0), .int (nI tl.length), .ref 185]) (h' := HN (U g r w v) hl (RF rt)) rfl ?_
        refine Ev_bast rfl rfl (show tl.length < 100 by omega) (Nat.le_of_ble_eq_true rfl) (by omega) ?_
        refine Ev.run 2 (pc' := 250) (lv' := [(5, .int (nI (g 180 c + n) + 1)), (6, .int (nI (g 182 (g 180 c + n)))), (4, .int (nI (tl.length + 1))), (0, .ref 166), (1, .int (nI c)), (2, .int (nI p)), (3, .int (nI i))]) (st' := []) (h' := HN (u2 (U g r w v) 185 tl.length 0) hl (RF rt)) rfl ?_
        refine Ev.lvE (congrArg (fun z => (5, Value.int z) :: [(6, .int (nI (g 182 (g 180 c + n)))), (4, .int (nI (tl.length + 1))), (0, .ref 166), (1, .int (nI c)), (2, .int (nI p)), (3, .int (nI i))]) (nI_1 _)) ?_
        refine Ev.run 1 (pc' := 11) (lv' := [(5, .int (nI (g 180 c + n + 1))), (6, .int (nI (g 182 (g 180 c + n)))), (4, .int (nI (tl.length + 1))), (0, .ref 166), (1, .int (nI c)), (2, .int (nI p)), (3, .int (nI i))]) (st' := []) (h' := HN (u2 (U g r w v) 185 tl.length 0) hl (RF rt)) rfl ?_
        have hx := hnext (by omega) (up w tl.length 0) ((!b) :: tl) (by unfold evF; rw [hev]; show evT g p i (g 182 (g 180 c + n)) _ = _; unfold evT; rw [if_pos hc35]) (plO_push (plO_tail hpl) (!b) (by rw [tb hc55]; rfl))
        rw [← U_185] at hx
        exact Ev.wk (Ext.cons rfl rfl (Ext.cons rfl rfl (Ext.cons rfl rfl (Ext.cons rfl rfl (Ext.cons rfl rfl (Ext.cons rfl rfl (Ext.nil rfl))))))) hx
    · have hc35 : ¬ ((g 182 (g 180 c + n)) = 4294967263) := fun z => hc35 ((nI_eqU (by omega) (by omega)).mpr z)
      refine Ev.run 2 (pc' := (if 0 ≤ nI (g 182 (g 180 c + n)) then 151 else 72)) (lv' := [(6, .int (nI (g 182 (g 180 c + n)))), (5, .int (nI (g 180 c + n))), (4, .int (nI stk.length)), (0, .ref 166), (1, .int (nI c)), (2, .int (nI p)), (3, .int (nI i))]) (st' := []) (h' := HN (U g r w v) hl (RF rt)) rfl ?_
      refine Ev.ite (fun hc69 => ?_) (fun hc69 => ?_)
      · have hc69 : (g 182 (g 180 c + n)) < 2147483648 := (nI_geU0 (by omega)).mp hc69
        obtain ⟨h1, hh2⟩ := htF_to hw4 (show n + 1 ≤ g 181 c - g 180 c by omega)
        obtain ⟨h3, hh3, hh4⟩ := htF_pre hh2
        obtain rfl : h3 = h0 := by rw [hh0] at hh3; cases hh3; rfl
        rw [← hsl] at hh4
        unfold htT at hh4
        rw [if_neg hc35, if_neg (by omega)] at hh4
        have ht6 : g 182 (g 180 c + n) < 6000 := by
          refine Classical.byContradiction fun z => ?_
          rw [if_neg z] at hh4
          cases hh4
        have hfs := factS_le hI (f := g 182 (g 180 c + n) / 1000) hp hi
        refine Ev.run 3 (pc' := 157) (lv' := [(6, .int (nI (g 182 (g 180 c + n)))), (5, .int (nI (g 180 c + n))), (4, .int (nI stk.length)), (0, .ref 166), (1, .int (nI c)), (2, .int (nI p)), (3, .int (nI i))]) (st' := [.int (nI 1000), .int (nI (g 182 (g 180 c + n))), .ref 166]) (h' := HN (U g r w v) hl (RF rt)) rfl ?_
        refine Ev_idiv rfl (by omega) (by omega) (by omega) ?_
        refine Ev.run 2 (pc' := 160) (lv' := [(6, .int (nI (g 182 (g 180 c + n)))), (5, .int (nI (g 180 c + n))), (4, .int (nI stk.length)), (0, .ref 166), (1, .int (nI c)), (2, .int (nI p)), (3, .int (nI i))]) (st' := [.int (nI i), .int (nI p), .int (nI ((g 182 (g 180 c + n)) / 1000)), .ref 166]) (h' := HN (U g r w v) hl (RF rt)) rfl ?_
        refine Ev.call (a := 159) (as := [.ref 166, .int (nI ((g 182 (g 180 c + n)) / 1000)), .int (nI p), .int (nI i)]) (rest := []) (lv0 := [(0, .ref 166), (1, .int (nI ((g 182 (g 180 c + n)) / 1000))), (2, .int (nI p)), (3, .int (nI i))]) (Q1 := (fun z0 h' => z0 = some (.int (nI (factS g ((g 182 (g 180 c + n)) / 1000) p i))) ∧ h' = HN (U g r w v) hl (RF rt))) rfl rfl (C_factOf _ _ _ _ (hI.mU hs) ((g 182 (g 180 c + n)) / 1000) p i (by omega) (by omega) (by omega) ⟨rfl, rfl⟩) (fun r h' hr => ?_)
        obtain ⟨rfl, rfl⟩ := hr
        refine Ev.run 3 (pc' := 169) (lv' := [(7, .int (nI (factS g ((g 182 (g 180 c + n)) / 1000) p i))), (6, .int (nI (g 182 (g 180 c + n)))), (5, .int (nI (g 180 c + n))), (4, .int (nI stk.length)), (0, .ref 166), (1, .int (nI c)), (2, .int (nI p)), (3, .int (nI i))]) (st' := [.int (nI 100), .int (nI (g 182 (g 180 c + n)))]) (h' := HN (U g r w v) hl (RF rt)) rfl ?_
        refine Ev_idiv rfl (by omega) (by omega) (by omega) ?_
        refine Ev.run 1 (pc' := 172) (lv' := [(7, .int (nI (factS g ((g 182 (g 180 c + n)) / 1000) p i))), (6, .int (nI (g 182 (g 180 c + n)))), (5, .int (nI (g 180 c + n))), (4, .int (nI stk.length)), (0, .ref 166), (1, .int (nI c)), (2, .int (nI p)), (3, .int (nI i))]) (st' := [.int (nI 10), .int (nI ((g 182 (g 180 c + n)) / 100))]) (h' := HN (U g r w v) hl (RF rt)) rfl ?_
        refine Ev_irem rfl (by omega) (by omega) (by omega) ?_
        refine Ev.run 6 (pc' := (if nI (((g 182 (g 180 c + n)) / 100) % 10) = 0 then 186 else 204)) (lv' := [(8, .int (nI (((g 182 (g 180 c + n)) / 100) % 10))), (7, .int (nI (factS g ((g 182 (g 180 c + n)) / 1000) p i))), (6, .int (nI (g 182 (g 180 c + n)))), (5, .int (nI (g 180 c + n))), (4, .int (nI stk.length)), (0, .ref 166), (1, .int (nI c)), (2, .int (nI p)), (3, .int (nI i))]) (st' := [.int (nI stk.length), .ref 185]) (h' := HN (U g r w v) hl (RF rt)) rfl ?_
        refine Ev.ite (fun hc183 => ?_) (fun hc183 => ?_)
        · have hc183 : (((g 182 (g 180 c + n)) / 100) % 10) = 0 := (nI_eqU0 (by omega)).mp hc183
          refine Ev.run 3 (pc' := 192) (lv' := [(8, .int (nI (((g 182 (g 180 c + n)) / 100) % 10))), (7, .int (nI (factS g ((g 182 (g 180 c + n)) / 1000) p i))), (6, .int (nI (g 182 (g 180 c + n)))), (5, .int (nI (g 180 c + n))), (4, .int (nI stk.length)), (0, .ref 166), (1, .int (nI c)), (2, .int (nI p)), (3, .int (nI i))]) (st' := [.int (nI 100), .int (nI (g 182 (g 180 c + n))), .int (nI (factS g ((g 182 (g 180 c + n)) / 1000) p i)), .int (nI stk.length), .ref 185]) (h' := HN (U g r w v) hl (RF rt)) rfl ?_
          refine Ev_irem rfl (by omega) (by omega) (by omega) ?_
          refine Ev.run 1 (pc' := (if nI ((g 182 (g 180 c + n)) % 100) ≤ nI (factS g ((g 182 (g 180 c + n)) / 1000) p i) then 200 else 196)) (lv' := [(8, .int (nI (((g 182 (g 180 c + n)) / 100) % 10))), (7, .int (nI (factS g ((g 182 (g 180 c + n)) / 1000) p i))), (6, .int (nI (g 182 (g 180 c + n)))), (5, .int (nI (g 180 c + n))), (4, .int (nI stk.length)), (0, .ref 166), (1, .int (nI c)), (2, .int (nI p)), (3, .int (nI i))]) (st' := [.int (nI stk.length), .ref 185]) (h' := HN (U g r w v) hl (RF rt)) rfl ?_
          refine Ev.ite (fun hc193 => ?_) (fun hc193 => ?_)
          · have hc193 : ((g 182 (g 180 c + n)) % 100) ≤ (factS g ((g 182 (g 180 c + n)) / 1000) p i) := (nI_leI (by omega) (by omega)).mp hc193
            refine Ev.run 2 (pc' := 243) (lv' := [(8, .int (nI (((g 182 (g 180 c + n)) / 100) % 10))), (7, .int (nI (factS g ((g 182 (g 180 c + n)) / 1000) p i))), (6, .int (nI (g 182 (g 180 c + n)))), (5, .int (nI (g 180 c + n))), (4, .int (nI stk.length)), (0, .ref 166), (1, .int (nI c)), (2, .int (nI p)), (3, .int (nI i))]) (st' := [.int (nI 0), .int (nI stk.length), .ref 185]) (h' := HN (U g r w v) hl (RF rt)) rfl ?_
            refine Ev_bast rfl rfl (show stk.length < 100 by omega) (Nat.le_of_ble_eq_true rfl) (by omega) ?_
            refine Ev.run 1 (pc' := 247) (lv' := [(4, .int (nI stk.length + 1)), (8, .int (nI (((g 182 (g 180 c + n)) / 100) % 10))), (7, .int (nI (factS g ((g 182 (g 180 c + n)) / 1000) p i))), (6, .int (nI (g 182 (g 180 c + n)))), (5, .int (nI (g 180 c + n))), (0, .ref 166), (1, .int (nI c)), (2, .int (nI p)), (3, .int (nI i))]) (st' := []) (h' := HN (u2 (U g r w v) 185 stk.length 0) hl (RF rt)) rfl ?_
            refine Ev.lvE (congrArg (fun z => (4, Value.int z) :: [(8, .int (nI (((g 182 (g 180 c + n)) / 100) % 10))), (7, .int (nI (factS g ((g 182 (g 180 c + n)) / 1000) p i))), (6, .int (nI (g 182 (g 180 c + n)))), (5, .int (nI (g 180 c + n))), (0, .ref 166), (1, .int (nI c)), (2, .int (nI p)), (3, .int (nI i))]) (nI_1 _)) ?_
            refine Ev.run 1 (pc' := 250) (lv' := [(5, .int (nI (g 180 c + n) + 1)), (4, .int (nI (stk.length + 1))), (8, .int (nI (((g 182 (g 180 c + n)) / 100) % 10))), (7, .int (nI (factS g ((g 182 (g 180 c + n)) / 1000) p i))), (6, .int (nI (g 182 (g 180 c + n)))), (0, .ref 166), (1, .int (nI c)), (2, .int (nI p)), (3, .int (nI i))]) (st' := []) (h' := HN (u2 (U g r w v) 185 stk.length 0) hl (RF rt)) rfl ?_
            refine Ev.lvE (congrArg (fun z => (5, Value.int z) :: [(4, .int (nI (stk.length + 1))), (8, .int (nI (((g 182 (g 180 c + n)) / 100) % 10))), (7, .int (nI (factS g ((g 182 (g 180 c + n)) / 1000) p i))), (6, .int (nI (g 182 (g 180 c + n)))), (0, .ref 166), (1, .int (nI c)), (2, .int (nI p)), (3, .int (nI i))]) (nI_1 _)) ?_
            refine Ev.run 1 (pc' := 11) (lv' := [(5, .int (nI (g 180 c + n + 1))), (4, .int (nI (stk.length + 1))), (8, .int (nI (((g 182 (g 180 c + n)) / 100) % 10))), (7, .int (nI (factS g ((g 182 (g 180 c + n)) / 1000) p i))), (6, .int (nI (g 182 (g 180 c + n)))), (0, .ref 166), (1, .int (nI c)), (2, .int (nI p)), (3, .int (nI i))]) (st' := []) (h' := HN (u2 (U g r w v) 185 stk.length 0) hl (RF rt)) rfl ?_
            have hx := hnext (by omega) (up w stk.length 0) (tstS (factS g (g 182 (g 180 c + n) / 1000) p i) (g 182 (g 180 c + n)) :: stk) (by unfold evF; rw [hev]; show evT g p i (g 182 (g 180 c + n)) _ = _; unfold evT; rw [if_neg hc35, if_pos hc69]) (plO_push hpl _ (by unfold tstS; rw [if_pos hc183, decide_eq_true hc193]; rfl))
            rw [← U_185] at hx
            exact Ev.wk (Ext.cons rfl rfl (Ext.cons rfl rfl (Ext.cons rfl rfl (Ext.cons rfl rfl (Ext.cons rfl rfl (Ext.cons rfl rfl (Ext.nil rfl))))))) hx
          · have hc193 : ¬ (((g 182 (g 180 c + n)) % 100) ≤ (factS g ((g 182 (g 180 c + n)) / 1000) p i)) := fun z => hc193 ((nI_leI (by omega) (by omega)).mpr z)
            refine Ev.run 2 (pc' := 243) (lv' := [(8, .int (nI (((g 182 (g 180 c + n)) / 100) % 10))), (7, .int (nI (factS g ((g 182 (g 180 c + n)) / 1000) p i))), (6, .int (nI (g 182 (g 180 c + n)))), (5, .int (nI (g 180 c + n))), (4, .int (nI stk.length)), (0, .ref 166), (1, .int (nI c)), (2, .int (nI p)), (3, .int (nI i))]) (st' := [.int (nI 1), .int (nI stk.length), .ref 185]) (h' := HN (U g r w v) hl (RF rt)) rfl ?_
            refine Ev_bast rfl rfl (show stk.length < 100 by omega) (Nat.le_of_ble_eq_true rfl) (by omega) ?_
            refine Ev.run 1 (pc' := 247) (lv' := [(4, .int (nI stk.length + 1)), (8, .int (nI (((g 182 (g 180 c + n)) / 100) % 10))), (7, .int (nI (factS g ((g 182 (g 180 c + n)) / 1000) p i))), (6, .int (nI (g 182 (g 180 c + n)))), (5, .int (nI (g 180 c + n))), (0, .ref 166), (1, .int (nI c)), (2, .int (nI p)), (3, .int (nI i))]) (st' := []) (h' := HN (u2 (U g r w v) 185 stk.length 1) hl (RF rt)) rfl ?_
            refine Ev.lvE (congrArg (fun z => (4, Value.int z) :: [(8, .int (nI (((g 182 (g 180 c + n)) / 100) % 10))), (7, .int (nI (factS g ((g 182 (g 180 c + n)) / 1000) p i))), (6, .int (nI (g 182 (g 180 c + n)))), (5, .int (nI (g 180 c + n))), (0, .ref 166), (1, .int (nI c)), (2, .int (nI p)), (3, .int (nI i))]) (nI_1 _)) ?_
            refine Ev.run 1 (pc' := 250) (lv' := [(5, .int (nI (g 180 c + n) + 1)), (4, .int (nI (stk.length + 1))), (8, .int (nI (((g 182 (g 180 c + n)) / 100) % 10))), (7, .int (nI (factS g ((g 182 (g 180 c + n)) / 1000) p i))), (6, .int (nI (g 182 (g 180 c + n)))), (0, .ref 166), (1, .int (nI c)), (2, .int (nI p)), (3, .int (nI i))]) (st' := []) (h' := HN (u2 (U g r w v) 185 stk.length 1) hl (RF rt)) rfl ?_
            refine Ev.lvE (congrArg (fun z => (5, Value.int z) :: [(4, .int (nI (stk.length + 1))), (8, .int (nI (((g 182 (g 180 c + n)) / 100) % 10))), (7, .int (nI (factS g ((g 182 (g 180 c + n)) / 1000) p i))), (6, .int (nI (g 182 (g 180 c + n)))), (0, .ref 166), (1, .int (nI c)), (2, .int (nI p)), (3, .int (nI i))]) (nI_1 _)) ?_
            refine Ev.run 1 (pc' := 11) (lv' := [(5, .int (nI (g 180 c + n + 1))), (4, .int (nI (stk.length + 1))), (8, .int (nI (((g 182 (g 180 c + n)) / 100) % 10))), (7, .int (nI (factS g ((g 182 (g 180 c + n)) / 1000) p i))), (6, .int (nI (g 182 (g 180 c + n)))), (0, .ref 166), (1, .int (nI c)), (2, .int (nI p)), (3, .int (nI i))]) (st' := []) (h' := HN (u2 (U g r w v) 185 stk.length 1) hl (RF rt)) rfl ?_
            have hx := hnext (by omega) (up w stk.length 1) (tstS (factS g (g 182 (g 180 c + n) / 1000) p i) (g 182 (g 180 c + n)) :: stk) (by unfold evF; rw [hev]; show evT g p i (g 182 (g 180 c + n)) _ = _; unfold evT; rw [if_neg hc35, if_pos hc69]) (plO_push hpl _ (by unfold tstS; rw [if_pos hc183, decide_eq_false hc193]; rfl))
            rw [← U_185] at hx
            exact Ev.wk (Ext.cons rfl rfl (Ext.cons rfl rfl (Ext.cons rfl rfl (Ext.cons rfl rfl (Ext.cons rfl rfl (Ext.cons rfl rfl (Ext.nil rfl))))))) hx
        · have hc183 : ¬ ((((g 182 (g 180 c + n)) / 100) % 10) = 0) := fun z => hc183 ((nI_eqU0 (by omega)).mpr z)
          refine Ev.run 3 (pc' := (if nI (((g 182 (g 180 c + n)) / 100) % 10) = nI 1 then 210 else 228)) (lv' := [(8, .int (nI (((g 182 (g 180 c + n)) / 100) % 10))), (7, .int (nI (factS g ((g 182 (g 180 c + n)) / 1000) p i))), (6, .int (nI (g 182 (g 180 c + n)))), (5, .int (nI (g 180 c + n))), (4, .int (nI stk.length)), (0, .ref 166), (1, .int (nI c)), (2, .int (nI p)), (3, .int (nI i))]) (st' := [.int (nI stk.length), .ref 185]) (h' := HN (U g r w v) hl (RF rt)) rfl ?_
          refine Ev.ite (fun hc207 => ?_) (fun hc207 => ?_)
          · have hc207 : (((g 182 (g 180 c + n)) / 100) % 10) = 1 := (nI_eqU (by omega) (by omega)).mp hc207
            refine Ev.run 3 (pc' := 216) (lv' := [(8, .int (nI (((g 182 (g 180 c + n)) / 100) % 10))), (7, .int (nI (factS g ((g 182 (g 180 c + n)) / 1000) p i))), (6, .int (nI (g 182 (g 180 c + n)))), (5, .int (nI (g 180 c + n))), (4, .int (nI stk.length)), (0, .ref 166), (1, .int (nI c)), (2, .int (nI p)), (3, .int (nI i))]) (st' := [.int (nI 100), .int (nI (g 182 (g 180 c + n))), .int (nI (factS g ((g 182 (g 180 c + n)) / 1000) p i)), .int (nI stk.length), .ref 185]) (h' := HN (U g r w v) hl (RF rt)) rfl ?_
            refine Ev_irem rfl (by omega) (by omega) (by omega) ?_
            refine Ev.run 1 (pc' := (if nI (factS g ((g 182 (g 180 c + n)) / 1000) p i) = nI ((g 182 (g 180 c + n)) % 100) then 220 else 224)) (lv' := [(8, .int (nI (((g 182 (g 180 c + n)) / 100) % 10))), (7, .int (nI (factS g ((g 182 (g 180 c + n)) / 1000) p i))), (6, .int (nI (g 182 (g 180 c + n)))), (5, .int (nI (g 180 c + n))), (4, .int (nI stk.length)), (0, .ref 166), (1, .int (nI c)), (2, .int (nI p)), (3, .int (nI i))]) (st' := [.int (nI stk.length), .ref 185]) (h' := HN (U g r w v) hl (RF rt)) rfl ?_
            refine Ev.ite (fun hc217 => ?_) (fun hc217 => ?_)
            · have hc217 : (factS g ((g 182 (g 180 c + n)) / 1000) p i) = ((g 182 (g 180 c + n)) % 100) := (nI_eqU (by omega) (by omega)).mp hc217
              refine Ev.run 2 (pc' := 243) (lv' := [(8, .int (nI (((g 182 (g 180 c + n)) / 100) % 10))), (7, .int (nI (factS g ((g 182 (g 180 c + n)) / 1000) p i))), (6, .int (nI (g 182 (g 180 c + n)))), (5, .int (nI (g 180 c + n))), (4, .int (nI stk.length)), (0, .ref 166), (1, .int (nI c)), (2, .int (nI p)), (3, .int (nI i))]) (st' := [.int (nI 1), .int (nI stk.length), .ref 185]) (h' := HN (U g r w v) hl (RF rt)) rfl ?_
              refine Ev_bast rfl rfl (show stk.length < 100 by omega) (Nat.le_of_ble_eq_true rfl) (by omega) ?_
              refine Ev.run 1 (pc' := 247) (lv' := [(4, .int (nI stk.length + 1)), (8, .int (nI (((g 182 (g 180 c + n)) / 100) % 10))), (7, .int (nI (factS g ((g 182 (g 180 c + n)) / 1000) p i))), (6, .int (nI (g 182 (g 180 c + n)))), (5, .int (nI (g 180 c + n))), (0, .ref 166), (1, .int (nI c)), (2, .int (nI p)), (3, .int (nI i))]) (st' := []) (h' := HN (u2 (U g r w v) 185 stk.length 1) hl (RF rt)) rfl ?_
              refine Ev.lvE (congrArg (fun z => (4, Value.int z) :: [(8, .int (nI (((g 182 (g 180 c + n)) / 100) % 10))), (7, .int (nI (factS g ((g 182 (g 180 c + n)) / 1000) p i))), (6, .int (nI (g 182 (g 180 c + n)))), (5, .int (nI (g 180 c + n))), (0, .ref 166), (1, .int (nI c)), (2, .int (nI p)), (3, .int (nI i))]) (nI_1 _)) ?_
              refine Ev.run 1 (pc' := 250) (lv' := [(5, .int (nI (g 180 c + n) + 1)), (4, .int (nI (stk.length + 1))), (8, .int (nI (((g 182 (g 180 c + n)) / 100) % 10))), (7, .int (nI (factS g ((g 182 (g 180 c + n)) / 1000) p i))), (6, .int (nI (g 182 (g 180 c + n)))), (0, .ref 166), (1, .int (nI c)), (2, .int (nI p)), (3, .int (nI i))]) (st' := []) (h' := HN (u2 (U g r w v) 185 stk.length 1) hl (RF rt)) rfl ?_
              refine Ev.lvE (congrArg (fun z => (5, Value.int z) :: [(4, .int (nI (stk.length + 1))), (8, .int (nI (((g 182 (g 180 c + n)) / 100) % 10))), (7, .int (nI (factS g ((g 182 (g 180 c + n)) / 1000) p i))), (6, .int (nI (g 182 (g 180 c + n)))), (0, .ref 166), (1, .int (nI c)), (2, .int (nI p)), (3, .int (nI i))]) (nI_1 _)) ?_
              refine Ev.run 1 (pc' := 11) (lv' := [(5, .int (nI (g 180 c + n + 1))), (4, .int (nI (stk.length + 1))), (8, .int (nI (((g 182 (g 180 c + n)) / 100) % 10))), (7, .int (nI (factS g ((g 182 (g 180 c + n)) / 1000) p i))), (6, .int (nI (g 182 (g 180 c + n)))), (0, .ref 166), (1, .int (nI c)), (2, .int (nI p)), (3, .int (nI i))]) (st' := []) (h' := HN (u2 (U g r w v) 185 stk.length 1) hl (RF rt)) rfl ?_
              have hx := hnext (by omega) (up w stk.length 1) (tstS (factS g (g 182 (g 180 c + n) / 1000) p i) (g 182 (g 180 c + n)) :: stk) (by unfold evF; rw [hev]; show evT g p i (g 182 (g 180 c + n)) _ = _; unfold evT; rw [if_neg hc35, if_pos hc69]) (plO_push hpl _ (by unfold tstS; rw [if_neg hc183, if_pos hc207, decide_eq_true hc217]; rfl))
              rw [← U_185] at hx
              exact Ev.wk (Ext.cons rfl rfl (Ext.cons rfl rfl (Ext.cons rfl rfl (Ext.cons rfl rfl (Ext.cons rfl rfl (Ext.cons rfl rfl (Ext.nil rfl))))))) hx
            · have hc217 : ¬ ((factS g ((g 182 (g 180 c + n)) / 1000) p i) = ((g 182 (g 180 c + n)) % 100)) := fun z => hc217 ((nI_eqU (by omega) (by omega)).mpr z)
              refine Ev.run 2 (pc' := 243) (lv' := [(8, .int (nI (((g 182 (g 180 c + n)) / 100) % 10))), (7, .int (nI (factS g ((g 182 (g 180 c + n)) / 1000) p i))), (6, .int (nI (g 182 (g 180 c + n)))), (5, .int (nI (g 180 c + n))), (4, .int (nI stk.length)), (0, .ref 166), (1, .int (nI c)), (2, .int (nI p)), (3, .int (nI i))]) (st' := [.int (nI 0), .int (nI stk.length), .ref 185]) (h' := HN (U g r w v) hl (RF rt)) rfl ?_
              refine Ev_bast rfl rfl (show stk.length < 100 by omega) (Nat.le_of_ble_eq_true rfl) (by omega) ?_
              refine Ev.run 1 (pc' := 247) (lv' := [(4, .int (nI stk.length + 1)), (8, .int (nI (((g 182 (g 180 c + n)) / 100) % 10))), (7, .int (nI (factS g ((g 182 (g 180 c + n)) / 1000) p i))), (6, .int (nI (g 182 (g 180 c + n)))), (5, .int (nI (g 180 c + n))), (0, .ref 166), (1, .int (nI c)), (2, .int (nI p)), (3, .int (nI i))]) (st' := []) (h' := HN (u2 (U g r w v) 185 stk.length 0) hl (RF rt)) rfl ?_
              refine Ev.lvE (congrArg (fun z => (4, Value.int z) :: [(8, .int (nI (((g 182 (g 180 c + n)) / 100) % 10))), (7, .int (nI (factS g ((g 182 (g 180 c + n)) / 1000) p i))), (6, .int (nI (g 182 (g 180 c + n)))), (5, .int (nI (g 180 c + n))), (0, .ref 166), (1, .int (nI c)), (2, .int (nI p)), (3, .int (nI i))]) (nI_1 _)) ?_
              refine Ev.run 1 (pc' := 250) (lv' := [(5, .int (nI (g 180 c + n) + 1)), (4, .int (nI (stk.length + 1))), (8, .int (nI (((g 182 (g 180 c + n)) / 100) % 10))), (7, .int (nI (factS g ((g 182 (g 180 c + n)) / 1000) p i))), (6, .int (nI (g 182 (g 180 c + n)))), (0, .ref 166), (1, .int (nI c)), (2, .int (nI p)), (3, .int (nI i))]) (st' := []) (h' := HN (u2 (U g r w v) 185 stk.length 0) hl (RF rt)) rfl ?_
              refine Ev.lvE (congrArg (fun z => (5, Value.int z) :: [(4, .int (nI (stk.length + 1))), (8, .int (nI (((g 182 (g 180 c + n)) / 100) % 10))), (7, .int (nI (factS g ((g 182 (g 180 c + n)) / 1000) p i))), (6, .int (nI (g 182 (g 180 c + n)))), (0, .ref 166), (1, .int (nI c)), (2, .int (nI p)), (3, .int (nI i))]) (nI_1 _)) ?_
              refine Ev.run 1 (pc' := 11) (lv' := [(5, .int (nI (g 180 c + n + 1))), (4, .int (nI (stk.length + 1))), (8, .int (nI (((g 182 (g 180 c + n)) / 100) % 10))), (7, .int (nI (factS g ((g 182 (g 180 c + n)) / 1000) p i))), (6, .int (nI (g 182 (g 180 c + n)))), (0, .ref 166), (1, .int (nI c)), (2, .int (nI p)), (3, .int (nI i))]) (st' := []) (h' := HN (u2 (U g r w v) 185 stk.length 0) hl (RF rt)) rfl ?_
              have hx := hnext (by omega) (up w stk.length 0) (tstS (factS g (g 182 (g 180 c + n) / 1000) p i) (g 182 (g 180 c + n)) :: stk) (by unfold evF; rw [hev]; show evT g p i (g 182 (g 180 c + n)) _ = _; unfold evT; rw [if_neg hc35, if_pos hc69]) (plO_push hpl _ (by unfold tstS; rw [if_neg hc183, if_pos hc207, decide_eq_false hc217]; rfl))
              rw [← U_185] at hx
              exact Ev.wk (Ext.cons rfl rfl (Ext.cons rfl rfl (Ext.cons rfl rfl (Ext.cons rfl rfl (Ext.cons rfl rfl (Ext.cons rfl rfl (Ext.nil rfl))))))) hx
          · have hc207 : ¬ ((((g 182 (g 180 c + n)) / 100) % 10) = 1) := fun z => hc207 ((nI_eqU (by omega) (by omega)).mpr z)
            refine Ev.run 3 (pc' := 234) (lv' := [(8, .int (nI (((g 182 (g 180 c + n)) / 100) % 10))), (7, .int (nI (factS g ((g 182 (g 180 c + n)) / 1000) p i))), (6, .int (nI (g 182 (g 180 c + n)))), (5, .int (nI (g 180 c + n))), (4, .int (nI stk.length)), (0, .ref 166), (1, .int (nI c)), (2, .int (nI p)), (3, .int (nI i))]) (st' := [.int (nI 100), .int (nI (g 182 (g 180 c + n))), .int (nI (factS g ((g 182 (g 180 c + n)) / 1000) p i)), .int (nI stk.length), .ref 185]) (h' := HN (U g r w v) hl (RF rt)) rfl ?_
            refine Ev_irem rfl (by omega) (by omega) (by omega) ?_
            refine Ev.run 1 (pc' := (if nI (factS g ((g 182 (g 180 c + n)) / 1000) p i) ≤ nI ((g 182 (g 180 c + n)) % 100) then 242 else 238)) (lv' := [(8, .int (nI (((g 182 (g 180 c + n)) / 100) % 10))), (7, .int (nI (factS g ((g 182 (g 180 c + n)) / 1000) p i))), (6, .int (nI (g 182 (g 180 c + n)))), (5, .int (nI (g 180 c + n))), (4, .int (nI stk.length)), (0, .ref 166), (1, .int (nI c)), (2, .int (nI p)), (3, .int (nI i))]) (st' := [.int (nI stk.length), .ref 185]) (h' := HN (U g r w v) hl (RF rt)) rfl ?_
            refine Ev.ite (fun hc235 => ?_) (fun hc235 => ?_)
            · have hc235 : (factS g ((g 182 (g 180 c + n)) / 1000) p i) ≤ ((g 182 (g 180 c + n)) % 100) := (nI_leI (by omega) (by omega)).mp hc235
              refine Ev.run 1 (pc' := 243) (lv' := [(8, .int (nI (((g 182 (g 180 c + n)) / 100) % 10))), (7, .int (nI (factS g ((g 182 (g 180 c + n)) / 1000) p i))), (6, .int (nI (g 182 (g 180 c + n)))), (5, .int (nI (g 180 c + n))), (4, .int (nI stk.length)), (0, .ref 166), (1, .int (nI c)), (2, .int (nI p)), (3, .int (nI i))]) (st' := [.int (nI 0), .int (nI stk.length), .ref 185]) (h' := HN (U g r w v) hl (RF rt)) rfl ?_
              refine Ev_bast rfl rfl (show stk.length < 100 by omega) (Nat.le_of_ble_eq_true rfl) (by omega) ?_
              refine Ev.run 1 (pc' := 247) (lv' := [(4, .int (nI stk.length + 1)), (8, .int (nI (((g 182 (g 180 c + n)) / 100) % 10))), (7, .int (nI (factS g ((g 182 (g 180 c + n)) / 1000) p i))), (6, .int (nI (g 182 (g 180 c + n)))), (5, .int (nI (g 180 c + n))), (0, .ref 166), (1, .int (nI c)), (2, .int (nI p)), (3, .int (nI i))]) (st' := []) (h' := HN (u2 (U g r w v) 185 stk.length 0) hl (RF rt)) rfl ?_
              refine Ev.lvE (congrArg (fun z => (4, Value.int z) :: [(8, .int (nI (((g 182 (g 180 c + n)) / 100) % 10))), (7, .int (nI (factS g ((g 182 (g 180 c + n)) / 1000) p i))), (6, .int (nI (g 182 (g 180 c + n)))), (5, .int (nI (g 180 c + n))), (0, .ref 166), (1, .int (nI c)), (2, .int (nI p)), (3, .int (nI i))]) (nI_1 _)) ?_
              refine Ev.run 1 (pc' := 250) (lv' := [(5, .int (nI (g 180 c + n) + 1)), (4, .int (nI (stk.length + 1))), (8, .int (nI (((g 182 (g 180 c + n)) / 100) % 10))), (7, .int (nI (factS g ((g 182 (g 180 c + n)) / 1000) p i))), (6, .int (nI (g 182 (g 180 c + n)))), (0, .ref 166), (1, .int (nI c)), (2, .int (nI p)), (3, .int (nI i))]) (st' := []) (h' := HN (u2 (U g r w v) 185 stk.length 0) hl (RF rt)) rfl ?_
              refine Ev.lvE (congrArg (fun z => (5, Value.int z) :: [(4, .int (nI (stk.length + 1))), (8, .int (nI (((g 182 (g 180 c + n)) / 100) % 10))), (7, .int (nI (factS g ((g 182 (g 180 c + n)) / 1000) p i))), (6, .int (nI (g 182 (g 180 c + n)))), (0, .ref 166), (1, .int (nI c)), (2, .int (nI p)), (3, .int (nI i))]) (nI_1 _)) ?_
              refine Ev.run 1 (pc' := 11) (lv' := [(5, .int (nI (g 180 c + n + 1))), (4, .int (nI (stk.length + 1))), (8, .int (nI (((g 182 (g 180 c + n)) / 100) % 10))), (7, .int (nI (factS g ((g 182 (g 180 c + n)) / 1000) p i))), (6, .int (nI (g 182 (g 180 c + n)))), (0, .ref 166), (1, .int (nI c)), (2, .int (nI p)), (3, .int (nI i))]) (st' := []) (h' := HN (u2 (U g r w v) 185 stk.length 0) hl (RF rt)) rfl ?_
              have hx := hnext (by omega) (up w stk.length 0) (tstS (factS g (g 182 (g 180 c + n) / 1000) p i) (g 182 (g 180 c + n)) :: stk) (by unfold evF; rw [hev]; show evT g p i (g 182 (g 180 c + n)) _ = _; unfold evT; rw [if_neg hc35, if_pos hc69]) (plO_push hpl _ (by unfold tstS; rw [if_neg hc183, if_neg hc207, decide_eq_true hc235]; rfl))
              rw [← U_185] at hx
              exact Ev.wk (Ext.cons rfl rfl (Ext.cons rfl rfl (Ext.cons rfl rfl (Ext.cons rfl rfl (Ext.cons rfl rfl (Ext.cons rfl rfl (Ext.nil rfl))))))) hx
            · have hc235 : ¬ ((factS g ((g 182 (g 180 c + n)) / 1000) p i) ≤ ((g 182 (g 180 c + n)) % 100)) := fun z => hc235 ((nI_leI (by omega) (by omega)).mpr z)
              refine Ev.run 2 (pc' := 243) (lv' := [(8, .int (nI (((g 182 (g 180 c + n)) / 100) % 10))), (7, .int (nI (factS g ((g 182 (g 180 c + n)) / 1000) p i))), (6, .int (nI (g 182 (g 180 c + n)))), (5, .int (nI (g 180 c + n))), (4, .int (nI stk.length)), (0, .ref 166), (1, .int (nI c)), (2, .int (nI p)), (3, .int (nI i))]) (st' := [.int (nI 1), .int (nI stk.length), .ref 185]) (h' := HN (U g r w v) hl (RF rt)) rfl ?_
              refine Ev_bast rfl rfl (show stk.length < 100 by omega) (Nat.le_of_ble_eq_true rfl) (by omega) ?_
              refine Ev.run 1 (pc' := 247) (lv' := [(4, .int (nI stk.length + 1)), (8, .int (nI (((g 182 (g 180 c + n)) / 100) % 10))), (7, .int (nI (factS g ((g 182 (g 180 c + n)) / 1000) p i))), (6, .int (nI (g 182 (g 180 c + n)))), (5, .int (nI (g 180 c + n))), (0, .ref 166), (1, .int (nI c)), (2, .int (nI p)), (3, .int (nI i))]) (st' := []) (h' := HN (u2 (U g r w v) 185 stk.length 1) hl (RF rt)) rfl ?_
              refine Ev.lvE (congrArg (fun z => (4, Value.int z) :: [(8, .int (nI (((g 182 (g 180 c + n)) / 100) % 10))), (7, .int (nI (factS g ((g 182 (g 180 c + n)) / 1000) p i))), (6, .int (nI (g 182 (g 180 c + n)))), (5, .int (nI (g 180 c + n))), (0, .ref 166), (1, .int (nI c)), (2, .int (nI p)), (3, .int (nI i))]) (nI_1 _)) ?_
              refine Ev.run 1 (pc' := 250) (lv' := [(5, .int (nI (g 180 c + n) + 1)), (4, .int (nI (stk.length + 1))), (8, .int (nI (((g 182 (g 180 c + n)) / 100) % 10))), (7, .int (nI (factS g ((g 182 (g 180 c + n)) / 1000) p i))), (6, .int (nI (g 182 (g 180 c + n)))), (0, .ref 166), (1, .int (nI c)), (2, .int (nI p)), (3, .int (nI i))]) (st' := []) (h' := HN (u2 (U g r w v) 185 stk.length 1) hl (RF rt)) rfl ?_
              refine Ev.lvE (congrArg (fun z => (5, Value.int z) :: [(4, .int (nI (stk.length + 1))), (8, .int (nI (((g 182 (g 180 c + n)) / 100) % 10))), (7, .int (nI (factS g ((g 182 (g 180 c + n)) / 1000) p i))), (6, .int (nI (g 182 (g 180 c + n)))), (0, .ref 166), (1, .int (nI c)), (2, .int (nI p)), (3, .int (nI i))]) (nI_1 _)) ?_
              refine Ev.run 1 (pc' := 11) (lv' := [(5, .int (nI (g 180 c + n + 1))), (4, .int (nI (stk.length + 1))), (8, .int (nI (((g 182 (g 180 c + n)) / 100) % 10))), (7, .int (nI (factS g ((g 182 (g 180 c + n)) / 1000) p i))), (6, .int (nI (g 182 (g 180 c + n)))), (0, .ref 166), (1, .int (nI c)), (2, .int (nI p)), (3, .int (nI i))]) (st' := []) (h' := HN (u2 (U g r w v) 185 stk.length 1) hl (RF rt)) rfl ?_
              have hx := hnext (by omega) (up w stk.length 1) (tstS (factS g (g 182 (g 180 c + n) / 1000) p i) (g 182 (g 180 c + n)) :: stk) (by unfold evF; rw [hev]; show evT g p i (g 182 (g 180 c + n)) _ = _; unfold evT; rw [if_neg hc35, if_pos hc69]) (plO_push hpl _ (by unfold tstS; rw [if_neg hc183, if_neg hc207, decide_eq_false hc235]; rfl))
              rw [← U_185] at hx
              exact Ev.wk (Ext.cons rfl rfl (Ext.cons rfl rfl (Ext.cons rfl rfl (Ext.cons rfl rfl (Ext.cons rfl rfl (Ext.cons rfl rfl (Ext.nil rfl))))))) hx
      · have hc69 : ¬ ((g 182 (g 180 c + n)) < 2147483648) := fun z => hc69 ((nI_geU0 (by omega)).mpr z)
        obtain ⟨h1, hh2⟩ := htF_to hw4 (show n + 1 ≤ g 181 c - g 180 c by omega)
        obtain ⟨h3, hh3, hh4⟩ := htF_pre hh2
        obtain rfl : h3 = h0 := by rw [hh0] at hh3; cases hh3; rfl
        rw [← hsl] at hh4
        unfold htT at hh4
        rw [if_neg hc35] at hh4
        have hc69x : 2147483648 ≤ g 182 (g 180 c + n) := by omega
        obtain ⟨b, a, tl, rfl⟩ : ∃ b a tl, stk = b :: a :: tl := by
          cases stk with
          | nil => split at hh4 <;> first | cases hh4 | (rw [if_neg (by omega)] at hh4; cases hh4)
          | cons b tl => cases tl with
            | nil => split at hh4 <;> first | cases hh4 | (rw [if_neg (by omega)] at hh4; cases hh4)
            | cons a tl => exact ⟨b, a, tl, rfl⟩
        have hpb : w (tl.length + 1) = bn b := plO_top hpl
        have hpa : w tl.length = bn a := plO_top (plO_tail hpl)
        have hsl : tl.length + 1 + 1 = h3 := hsl
        refine Ev.run 1 (pc' := 75) (lv' := [(4, .int (nI (tl.length + 2) + nI 4294967295)), (6, .int (nI (g 182 (g 180 c + n)))), (5, .int (nI (g 180 c + n))), (0, .ref 166), (1, .int (nI c)), (2, .int (nI p)), (3, .int (nI i))]) (st' := []) (h' := HN (U g r w v) hl (RF rt)) rfl ?_
        refine Ev.lvE (congrArg (fun z => (4, Value.int z) :: [(6, .int (nI (g 182 (g 180 c + n)))), (5, .int (nI (g 180 c + n))), (0, .ref 166), (1, .int (nI c)), (2, .int (nI p)), (3, .int (nI i))]) (nI_dec (n := (tl.length + 2)) 1 (by omega))) ?_
        refine Ev.run 5 (pc' := 83) (lv' := [(4, .int (nI (tl.length + 2 - 1))), (6, .int (nI (g 182 (g 180 c + n)))), (5, .int (nI (g 180 c + n))), (0, .ref 166), (1, .int (nI c)), (2, .int (nI p)), (3, .int (nI i))]) (st' := [.int (nI (tl.length + 2 - 1) - nI 1), .ref 185]) (h' := HN (U g r w v) hl (RF rt)) rfl ?_
        refine Ev.topI (pk_sub (a := (tl.length + 2 - 1)) (b := 1) (by omega)) ?_
        refine Ev.run 3 (pc' := (if nI (g 182 (g 180 c + n)) = nI 4294967258 then 90 else 120)) (lv' := [(4, .int (nI (tl.length + 2 - 1))), (6, .int (nI (g 182 (g 180 c + n)))), (5, .int (nI (g 180 c + n))), (0, .ref 166), (1, .int (nI c)), (2, .int (nI p)), (3, .int (nI i))]) (st' := [.int (nI tl.length), .ref 185]) (h' := HN (U g r w v) hl (RF rt)) rfl ?_
        refine Ev.ite (fun hc87 => ?_) (fun hc87 => ?_)
        · have hc87 : (g 182 (g 180 c + n)) = 4294967258 := (nI_eqU (by omega) (by omega)).mp hc87
          refine Ev.run 5 (pc' := 98) (lv' := [(4, .int (nI (tl.length + 2 - 1))), (6, .int (nI (g 182 (g 180 c + n)))), (5, .int (nI (g 180 c + n))), (0, .ref 166), (1, .int (nI c)), (2, .int (nI p)), (3, .int (nI i))]) (st' := [.int (nI (tl.length + 2 - 1) - nI 1), .ref 185, .int (nI tl.length), .ref 185]) (h' := HN (U g r w v) hl (RF rt)) rfl ?_
          refine Ev.topI (pk_sub (a := (tl.length + 2 - 1)) (b := 1) (by omega)) ?_
          refine Ev_bald rfl rfl (show tl.length < 100 by omega) (Nat.le_of_ble_eq_true rfl) ?_
          refine Ev.run 1 (pc' := (if nI (w tl.length) = 0 then 116 else 102)) (lv' := [(4, .int (nI (tl.length + 2 - 1))), (6, .int (nI (g 182 (g 180 c + n)))), (5, .int (nI (g 180 c + n))), (0, .ref 166), (1, .int (nI c)), (2, .int (nI p)), (3, .int (nI i))]) (st' := [.int (nI tl.length), .ref 185]) (h' := HN (U g r w v) hl (RF rt)) rfl ?_
          refine Ev.ite (fun hc99 => ?_) (fun hc99 => ?_)
          · have hc99 : a = false := ((show (nI (w (tl.length)) = 0) ↔ (a = false) from by rw [hpa]; exact nIbn0 a)).mp hc99
            refine Ev.run 2 (pc' := 147) (lv' := [(4, .int (nI (tl.length + 2 - 1))), (6, .int (nI (g 182 (g 180 c + n)))), (5, .int (nI (g 180 c + n))), (0, .ref 166), (1, .int (nI c)), (2, .int (nI p)), (3, .int (nI i))]) (st' := [.int (nI 0), .int (nI tl.length), .ref 185]) (h' := HN (U g r w v) hl (RF rt)) rfl ?_
            refine Ev_bast rfl rfl (show tl.length < 100 by omega) (Nat.le_of_ble_eq_true rfl) (by omega) ?_
            refine Ev.run 2 (pc' := 250) (lv' := [(5, .int (nI (g 180 c + n) + 1)), (4, .int (nI (tl.length + 2 - 1))), (6, .int (nI (g 182 (g 180 c + n)))), (0, .ref 166), (1, .int (nI c)), (2, .int (nI p)), (3, .int (nI i))]) (st' := []) (h' := HN (u2 (U g r w v) 185 tl.length 0) hl (RF rt)) rfl ?_
            refine Ev.lvE (congrArg (fun z => (5, Value.int z) :: [(4, .int (nI (tl.length + 2 - 1))), (6, .int (nI (g 182 (g 180 c + n)))), (0, .ref 166), (1, .int (nI c)), (2, .int (nI p)), (3, .int (nI i))]) (nI_1 _)) ?_
            refine Ev.run 1 (pc' := 11) (lv' := [(5, .int (nI (g 180 c + n + 1))), (4, .int (nI (tl.length + 2 - 1))), (6, .int (nI (g 182 (g 180 c + n)))), (0, .ref 166), (1, .int (nI c)), (2, .int (nI p)), (3, .int (nI i))]) (st' := []) (h' := HN (u2 (U g r w v) 185 tl.length 0) hl (RF rt)) rfl ?_
            have hx := hnext (by omega) (up w tl.length 0) ((if g 182 (g 180 c + n) = 4294967258 then a && b else a || b) :: tl) (by unfold evF; rw [hev]; show evT g p i (g 182 (g 180 c + n)) _ = _; unfold evT; rw [if_neg hc35, if_neg (Nat.not_lt.mpr hc69x)]) (plO_push (plO_tail (plO_tail hpl)) _ (by rw [if_pos hc87, hc99]; rfl))
            rw [← U_185] at hx
            exact Ev.wk (Ext.cons rfl rfl (Ext.cons rfl rfl (Ext.cons rfl rfl (Ext.cons rfl rfl (Ext.cons rfl rfl (Ext.cons rfl rfl (Ext.nil rfl))))))) hx
          · have hc99 : ¬ (a = false) := fun z => hc99 (((show (nI (w (tl.length)) = 0) ↔ (a = false) from by rw [hpa]; exact nIbn0 a)).mpr z)
            refine Ev.run 3 (pc' := 108) (lv' := [(4, .int (nI (tl.length + 2 - 1))), (6, .int (nI (g 182 (g 180 c + n)))), (5, .int (nI (g 180 c + n))), (0, .ref 166), (1, .int (nI c)), (2, .int (nI p)), (3, .int (nI i))]) (st' := [.int (nI (tl.length + 2 - 1)), .ref 185, .int (nI tl.length), .ref 185]) (h' := HN (U g r w v) hl (RF rt)) rfl ?_
            refine Ev_bald rfl rfl (show tl.length + 2 - 1 < 100 by omega) (Nat.le_of_ble_eq_true rfl) ?_
            refine Ev.run 1 (pc' := (if nI (w (tl.length + 2 - 1)) = 0 then 116 else 112)) (lv' := [(4, .int (nI (tl.length + 2 - 1))), (6, .int (nI (g 182 (g 180 c + n)))), (5, .int (nI (g 180 c + n))), (0, .ref 166), (1, .int (nI c)), (2, .int (nI p)), (3, .int (nI i))]) (st' := [.int (nI tl.length), .ref 185]) (h' := HN (U g r w v) hl (RF rt)) rfl ?_
            refine Ev.ite (fun hc109 => ?_) (fun hc109 => ?_)
            · have hc109 : b = false := ((show (nI (w (tl.length + 1)) = 0) ↔ (b = false) from by rw [hpb]; exact nIbn0 b)).mp hc109
              refine Ev.run 2 (pc' := 147) (lv' := [(4, .int (nI (tl.length + 2 - 1))), (6, .int (nI (g 182 (g 180 c + n)))), (5, .int (nI (g 180 c + n))), (0, .ref 166), (1, .int (nI c)), (2, .int (nI p)), (3, .int (nI i))]) (st' := [.int (nI 0), .int (nI tl.length), .ref 185]) (h' := HN (U g r w v) hl (RF rt)) rfl ?_
              refine Ev_bast rfl rfl (show tl.length < 100 by omega) (Nat.le_of_ble_eq_true rfl) (by omega) ?_
              refine Ev.run 2 (pc' := 250) (lv' := [(5, .int (nI (g 180 c + n) + 1)), (4, .int (nI (tl.length + 2 - 1))), (6, .int (nI (g 182 (g 180 c + n)))), (0, .ref 166), (1, .int (nI c)), (2, .int (nI p)), (3, .int (nI i))]) (st' := []) (h' := HN (u2 (U g r w v) 185 tl.length 0) hl (RF rt)) rfl ?_
              refine Ev.lvE (congrArg (fun z => (5, Value.int z) :: [(4, .int (nI (tl.length + 2 - 1))), (6, .int (nI (g 182 (g 180 c + n)))), (0, .ref 166), (1, .int (nI c)), (2, .int (nI p)), (3, .int (nI i))]) (nI_1 _)) ?_
              refine Ev.run 1 (pc' := 11) (lv' := [(5, .int (nI (g 180 c + n + 1))), (4, .int (nI (tl.length + 2 - 1))), (6, .int (nI (g 182 (g 180 c + n)))), (0, .ref 166), (1, .int (nI c)), (2, .int (nI p)), (3, .int (nI i))]) (st' := []) (h' := HN (u2 (U g r w v) 185 tl.length 0) hl (RF rt)) rfl ?_
              have hx := hnext (by omega) (up w tl.length 0) ((if g 182 (g 180 c + n) = 4294967258 then a && b else a || b) :: tl) (by unfold evF; rw [hev]; show evT g p i (g 182 (g 180 c + n)) _ = _; unfold evT; rw [if_neg hc35, if_neg (Nat.not_lt.mpr hc69x)]) (plO_push (plO_tail (plO_tail hpl)) _ (by rw [if_pos hc87, tb hc99, hc109]; rfl))
              rw [← U_185] at hx
              exact Ev.wk (Ext.cons rfl rfl (Ext.cons rfl rfl (Ext.cons rfl rfl (Ext.cons rfl rfl (Ext.cons rfl rfl (Ext.cons rfl rfl (Ext.nil rfl))))))) hx
            · have hc109 : ¬ (b = false) := fun z => hc109 (((show (nI (w (tl.length + 1)) = 0) ↔ (b = false) from by rw [hpb]; exact nIbn0 b)).mpr z)
              refine Ev.run 2 (pc' := 147) (lv' := [(4, .int (nI (tl.length + 2 - 1))), (6, .int (nI (g 182 (g 180 c + n)))), (5, .int (nI (g 180 c + n))), (0, .ref 166), (1, .int (nI c)), (2, .int (nI p)), (3, .int (nI i))]) (st' := [.int (nI 1), .int (nI tl.length), .ref 185]) (h' := HN (U g r w v) hl (RF rt)) rfl ?_
              refine Ev_bast rfl rfl (show tl.length < 100 by omega) (Nat.le_of_ble_eq_true rfl) (by omega) ?_
              refine Ev.run 2 (pc' := 250) (lv' := [(5, .int (nI (g 180 c + n) + 1)), (4, .int (nI (tl.length + 2 - 1))), (6, .int (nI (g 182 (g 180 c + n)))), (0, .ref 166), (1, .int (nI c)), (2, .int (nI p)), (3, .int (nI i))]) (st' := []) (h' := HN (u2 (U g r w v) 185 tl.length 1) hl (RF rt)) rfl ?_
              refine Ev.lvE (congrArg (fun z => (5, Value.int z) :: [(4, .int (nI (tl.length + 2 - 1))), (6, .int (nI (g 182 (g 180 c + n)))), (0, .ref 166), (1, .int (nI c)), (2, .int (nI p)), (3, .int (nI i))]) (nI_1 _)) ?_
              refine Ev.run 1 (pc' := 11) (lv' := [(5, .int (nI (g 180 c + n + 1))), (4, .int (nI (tl.length + 2 - 1))), (6, .int (nI (g 182 (g 180 c + n)))), (0, .ref 166), (1, .int (nI c)), (2, .int (nI p)), (3, .int (nI i))]) (st' := []) (h' := HN (u2 (U g r w v) 185 tl.length 1) hl (RF rt)) rfl ?_
              have hx := hnext (by omega) (up w tl.length 1) ((if g 182 (g 180 c + n) = 4294967258 then a && b else a || b) :: tl) (by unfold evF; rw [hev]; show evT g p i (g 182 (g 180 c + n)) _ = _; unfold evT; rw [if_neg hc35, if_neg (Nat.not_lt.mpr hc69x)]) (plO_push (plO_tail (plO_tail hpl)) _ (by rw [if_pos hc87, tb hc99, tb hc109]; rfl))
              rw [← U_185] at hx
              exact Ev.wk (Ext.cons rfl rfl (Ext.cons rfl rfl (Ext.cons rfl rfl (Ext.cons rfl rfl (Ext.cons rfl rfl (Ext.cons rfl rfl (Ext.nil rfl))))))) hx
        · have hc87 : ¬ ((g 182 (g 180 c + n)) = 4294967258) := fun z => hc87 ((nI_eqU (by omega) (by omega)).mpr z)
          refine Ev.run 5 (pc' := 128) (lv' := [(4, .int (nI (tl.length + 2 - 1))), (6, .int (nI (g 182 (g 180 c + n)))), (5, .int (nI (g 180 c + n))), (0, .ref 166), (1, .int (nI c)), (2, .int (nI p)), (3, .int (nI i))]) (st' := [.int (nI (tl.length + 2 - 1) - nI 1), .ref 185, .int (nI tl.length), .ref 185]) (h' := HN (U g r w v) hl (RF rt)) rfl ?_
          refine Ev.topI (pk_sub (a := (tl.length + 2 - 1)) (b := 1) (by omega)) ?_
          refine Ev_bald rfl rfl (show tl.length < 100 by omega) (Nat.le_of_ble_eq_true rfl) ?_
          refine Ev.run 1 (pc' := (if nI (w tl.length) = 0 then 132 else 142)) (lv' := [(4, .int (nI (tl.length + 2 - 1))), (6, .int (nI (g 182 (g 180 c + n)))), (5, .int (nI (g 180 c + n))), (0, .ref 166), (1, .int (nI c)), (2, .int (nI p)), (3, .int (nI i))]) (st' := [.int (nI tl.length), .ref 185]) (h' := HN (U g r w v) hl (RF rt)) rfl ?_
          refine Ev.ite (fun hc129 => ?_) (fun hc129 => ?_)
          · have hc129 : a = false := ((show (nI (w (tl.length)) = 0) ↔ (a = false) from by rw [hpa]; exact nIbn0 a)).mp hc129
            refine Ev.run 3 (pc' := 138) (lv' := [(4, .int (nI (tl.length + 2 - 1))), (6, .int (nI (g 182 (g 180 c + n)))), (5, .int (nI (g 180 c + n))), (0, .ref 166), (1, .int (nI c)), (2, .int (nI p)), (3, .int (nI i))]) (st' := [.int (nI (tl.length + 2 - 1)), .ref 185, .int (nI tl.length), .ref 185]) (h' := HN (U g r w v) hl (RF rt)) rfl ?_
            refine Ev_bald rfl rfl (show tl.length + 2 - 1 < 100 by omega) (Nat.le_of_ble_eq_true rfl) ?_
            refine Ev.run 1 (pc' := (if nI (w (tl.length + 2 - 1)) = 0 then 146 else 142)) (lv' := [(4, .int (nI (tl.length + 2 - 1))), (6, .int (nI (g 182 (g 180 c + n)))), (5, .int (nI (g 180 c + n))), (0, .ref 166), (1, .int (nI c)), (2, .int (nI p)), (3, .int (nI i))]) (st' := [.int (nI tl.length), .ref 185]) (h' := HN (U g r w v) hl (RF rt)) rfl ?_
            refine Ev.ite (fun hc139 => ?_) (fun hc139 => ?_)
            · have hc139 : b = false := ((show (nI (w (tl.length + 1)) = 0) ↔ (b = false) from by rw [hpb]; exact nIbn0 b)).mp hc139
              refine Ev.run 1 (pc' := 147) (lv' := [(4, .int (nI (tl.length + 2 - 1))), (6, .int (nI (g 182 (g 180 c + n)))), (5, .int (nI (g 180 c + n))), (0, .ref 166), (1, .int (nI c)), (2, .int (nI p)), (3, .int (nI i))]) (st' := [.int (nI 0), .int (nI tl.length), .ref 185]) (h' := HN (U g r w v) hl (RF rt)) rfl ?_
              refine Ev_bast rfl rfl (show tl.length < 100 by omega) (Nat.le_of_ble_eq_true rfl) (by omega) ?_
              refine Ev.run 2 (pc' := 250) (lv' := [(5, .int (nI (g 180 c + n) + 1)), (4, .int (nI (tl.length + 2 - 1))), (6, .int (nI (g 182 (g 180 c + n)))), (0, .ref 166), (1, .int (nI c)), (2, .int (nI p)), (3, .int (nI i))]) (st' := []) (h' := HN (u2 (U g r w v) 185 tl.length 0) hl (RF rt)) rfl ?_
              refine Ev.lvE (congrArg (fun z => (5, Value.int z) :: [(4, .int (nI (tl.length + 2 - 1))), (6, .int (nI (g 182 (g 180 c + n)))), (0, .ref 166), (1, .int (nI c)), (2, .int (nI p)), (3, .int (nI i))]) (nI_1 _)) ?_
              refine Ev.run 1 (pc' := 11) (lv' := [(5, .int (nI (g 180 c + n + 1))), (4, .int (nI (tl.length + 2 - 1))), (6, .int (nI (g 182 (g 180 c + n)))), (0, .ref 166), (1, .int (nI c)), (2, .int (nI p)), (3, .int (nI i))]) (st' := []) (h' := HN (u2 (U g r w v) 185 tl.length 0) hl (RF rt)) rfl ?_
              have hx := hnext (by omega) (up w tl.length 0) ((if g 182 (g 180 c + n) = 4294967258 then a && b else a || b) :: tl) (by unfold evF; rw [hev]; show evT g p i (g 182 (g 180 c + n)) _ = _; unfold evT; rw [if_neg hc35, if_neg (Nat.not_lt.mpr hc69x)]) (plO_push (plO_tail (plO_tail hpl)) _ (by rw [if_neg hc87, hc129, hc139]; rfl))
              rw [← U_185] at hx
              exact Ev.wk (Ext.cons rfl rfl (Ext.cons rfl rfl (Ext.cons rfl rfl (Ext.cons rfl rfl (Ext.cons rfl rfl (Ext.cons rfl rfl (Ext.nil rfl))))))) hx
            · have hc139 : ¬ (b = false) := fun z => hc139 (((show (nI (w (tl.length + 1)) = 0) ↔ (b = false) from by rw [hpb]; exact nIbn0 b)).mpr z)
              refine Ev.run 2 (pc' := 147) (lv' := [(4, .int (nI (tl.length + 2 - 1))), (6, .int (nI (g 182 (g 180 c + n)))), (5, .int (nI (g 180 c + n))), (0, .ref 166), (1, .int (nI c)), (2, .int (nI p)), (3, .int (nI i))]) (st' := [.int (nI 1), .int (nI tl.length), .ref 185]) (h' := HN (U g r w v) hl (RF rt)) rfl ?_
              refine Ev_bast rfl rfl (show tl.length < 100 by omega) (Nat.le_of_ble_eq_true rfl) (by omega) ?_
              refine Ev.run 2 (pc' := 250) (lv' := [(5, .int (nI (g 180 c + n) + 1)), (4, .int (nI (tl.length + 2 - 1))), (6, .int (nI (g 182 (g 180 c + n)))), (0, .ref 166), (1, .int (nI c)), (2, .int (nI p)), (3, .int (nI i))]) (st' := []) (h' := HN (u2 (U g r w v) 185 tl.length 1) hl (RF rt)) rfl ?_
              refine Ev.lvE (congrArg (fun z => (5, Value.int z) :: [(4, .int (nI (tl.length + 2 - 1))), (6, .int (nI (g 182 (g 180 c + n)))), (0, .ref 166), (1, .int (nI c)), (2, .int (nI p)), (3, .int (nI i))]) (nI_1 _)) ?_
              refine Ev.run 1 (pc' := 11) (lv' := [(5, .int (nI (g 180 c + n + 1))), (4, .int (nI (tl.length + 2 - 1))), (6, .int (nI (g 182 (g 180 c + n)))), (0, .ref 166), (1, .int (nI c)), (2, .int (nI p)), (3, .int (nI i))]) (st' := []) (h' := HN (u2 (U g r w v) 185 tl.length 1) hl (RF rt)) rfl ?_
              have hx := hnext (by omega) (up w tl.length 1) ((if g 182 (g 180 c + n) = 4294967258 then a && b else a || b) :: tl) (by unfold evF; rw [hev]; show evT g p i (g 182 (g 180 c + n)) _ = _; unfold evT; rw [if_neg hc35, if_neg (Nat.not_lt.mpr hc69x)]) (plO_push (plO_tail (plO_tail hpl)) _ (by rw [if_neg hc87, hc129, tb hc139]; rfl))
              rw [← U_185] at hx
              exact Ev.wk (Ext.cons rfl rfl (Ext.cons rfl rfl (Ext.cons rfl rfl (Ext.cons rfl rfl (Ext.cons rfl rfl (Ext.cons rfl rfl (Ext.nil rfl))))))) hx
          · have hc129 : ¬ (a = false) := fun z => hc129 (((show (nI (w (tl.length)) = 0) ↔ (a = false) from by rw [hpa]; exact nIbn0 a)).mpr z)
            refine Ev.run 2 (pc' := 147) (lv' := [(4, .int (nI (tl.length + 2 - 1))), (6, .int (nI (g 182 (g 180 c + n)))), (5, .int (nI (g 180 c + n))), (0, .ref 166), (1, .int (nI c)), (2, .int (nI p)), (3, .int (nI i))]) (st' := [.int (nI 1), .int (nI tl.length), .ref 185]) (h' := HN (U g r w v) hl (RF rt)) rfl ?_
            refine Ev_bast rfl rfl (show tl.length < 100 by omega) (Nat.le_of_ble_eq_true rfl) (by omega) ?_
            refine Ev.run 2 (pc' := 250) (lv' := [(5, .int (nI (g 180 c + n) + 1)), (4, .int (nI (tl.length + 2 - 1))), (6, .int (nI (g 182 (g 180 c + n)))), (0, .ref 166), (1, .int (nI c)), (2, .int (nI p)), (3, .int (nI i))]) (st' := []) (h' := HN (u2 (U g r w v) 185 tl.length 1) hl (RF rt)) rfl ?_
            refine Ev.lvE (congrArg (fun z => (5, Value.int z) :: [(4, .int (nI (tl.length + 2 - 1))), (6, .int (nI (g 182 (g 180 c + n)))), (0, .ref 166), (1, .int (nI c)), (2, .int (nI p)), (3, .int (nI i))]) (nI_1 _)) ?_
            refine Ev.run 1 (pc' := 11) (lv' := [(5, .int (nI (g 180 c + n + 1))), (4, .int (nI (tl.length + 2 - 1))), (6, .int (nI (g 182 (g 180 c + n)))), (0, .ref 166), (1, .int (nI c)), (2, .int (nI p)), (3, .int (nI i))]) (st' := []) (h' := HN (u2 (U g r w v) 185 tl.length 1) hl (RF rt)) rfl ?_
            have hx := hnext (by omega) (up w tl.length 1) ((if g 182 (g 180 c + n) = 4294967258 then a && b else a || b) :: tl) (by unfold evF; rw [hev]; show evT g p i (g 182 (g 180 c + n)) _ = _; unfold evT; rw [if_neg hc35, if_neg (Nat.not_lt.mpr hc69x)]) (plO_push (plO_tail (plO_tail hpl)) _ (by rw [if_neg hc87, tb hc129]; rfl))
            rw [← U_185] at hx
            exact Ev.wk (Ext.cons rfl rfl (Ext.cons rfl rfl (Ext.cons rfl rfl (Ext.cons rfl rfl (Ext.cons rfl rfl (Ext.cons rfl rfl (Ext.nil rfl))))))) hx
