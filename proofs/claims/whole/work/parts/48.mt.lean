/-! the reference: an E of a table -/
def eF (g : Nat → Nat → Nat) : Nat → Nat → List Nat → List Nat → Bool → Bool × Nat × List Nat
  | 0, p, l, _, _ => (false, p, l)
  | f + 1, p, l, W, true => if pkS g p = 33 ∨ pkS g p = 40 then (if opn W = 4 then (false, p, l) else eF g f (p + 1) l (pkS g p :: W) true) else if (teS g p).1 = true then eF g f (teS g p).2.2 (l ++ ([(teS g p).2.1] ++ whL W)) (whW W) false else (false, (teS g p).2.2, l)
  | f + 1, p, l, W, false => if pkS g p = 38 ∨ pkS g p = 124 then eF g f (p + 1) (l ++ stL (pkS g p) W) (pkS g p :: stW (pkS g p) W) true else match stW 124 W with
    | [] => (true, p, l ++ stL 124 W)
    | _ :: t => if pkS g p = 41 then eF g f (p + 1) ((l ++ stL 124 W) ++ whL t) (whW t) false else (false, p, l ++ stL 124 W)
def WV (W : List Nat) : Prop := ∀ x ∈ W, x = 33 ∨ x = 40 ∨ x = 38 ∨ x = 124
theorem WV.wh : ∀ {W : List Nat}, WV W → WV (whW W) := by
  intro W
  induction W with
  | nil => intro h; exact h
  | cons x t ih =>
    intro h
    unfold whW
    split
    · exact ih (fun y hy => h y (List.mem_cons_of_mem _ hy))
    · exact h
theorem WV.st {s : Nat} : ∀ {W : List Nat}, WV W → WV (stW s W) := by
  intro W
  induction W with
  | nil => intro h; exact h
  | cons x t ih =>
    intro h
    unfold stW
    split
    · exact ih (fun y hy => h y (List.mem_cons_of_mem _ hy))
    · exact h
theorem WV.push {W : List Nat} {x : Nat} (h : WV W) (hx : x = 33 ∨ x = 40 ∨ x = 38 ∨ x = 124) : WV (x :: W) := fun y hy => by
  rw [List.mem_cons] at hy
  rcases hy with hy | hy
  · rw [hy]; exact hx
  · exact h y hy
theorem st_top {x : Nat} {t : List Nat} : ∀ {W : List Nat}, stW 124 W = x :: t → ¬ (x = 38 ∨ x = 124) := by
  intro W
  induction W with
  | nil => intro h; cases h
  | cons y u ih =>
    intro h
    unfold stW at h
    split at h
    · exact ih h
    · rename_i z
      cases h
      omega
theorem opn_o {x : Nat} (t : List Nat) (h : x = 33 ∨ x = 40) : opn (x :: t) = opn t + 1 := by
  show (if _ then _ else _) + opn t = _
  rw [if_pos h]; omega
theorem u2_u2 (g : Nat → Nat → Nat) (c j x y : Nat) : u2 (u2 g c j x) c j y = u2 g c j y := by
  funext a e; unfold u2
  by_cases h : a = c
  · by_cases h2 : e = j
    · simp [h, h2]
    · simp [h, h2]
  · simp [h]
theorem u2_sm (g : Nat → Nat → Nat) (c j : Nat) : u2 g c j (g c j) = g := by
  funext a e; unfold u2
  by_cases h : a = c
  · subst h
    by_cases h2 : e = j
    · subst h2; simp
    · simp [h2]
  · simp [h]
theorem teS_le {g : Nat → Nat → Nat} {p c q : Nat} (h : teS g p = (true, c, q)) : p + 1 < q ∧ q ≤ g 166 17 := by
  unfold teS at h
  split at h
  · cases h
  · split at h
    · split at h
      · rename_i h3
        cases h
        have h4 := nuS_le (g := g) (p := p + 2) (d := (nuS g (p + 2)).2.1) (q := (nuS g (p + 2)).2.2) (by rw [← h3])
        omega
      · cases h
    · cases h
theorem teS_le0 {g : Nat → Nat → Nat} {p c q : Nat} (h : teS g p = (false, c, q)) (hp : p ≤ g 166 17) : p ≤ q ∧ q ≤ g 166 17 := by
  unfold teS at h
  split at h
  · cases h; omega
  · rename_i h1
    have h5 := plcS_le (pkS g p)
    have h6 : p < g 166 17 := pkS_lt (by omega)
    split at h
    · rename_i h2
      have h7 : p + 1 < g 166 17 := pkS_lt (by omega)
      split at h
      · cases h
      · cases h; omega
    · cases h; omega
theorem C_takesE {L : Nat} {xs : Nat → Int32} (d : Nat) (g : Nat → Nat → Nat) (hl : Nat → Nat → Int64) (rt : Nat × Nat × Nat × Nat) (hF : g 166 17 ≤ 100) (ht : ∀ j, j < 100 → g 176 j ≤ 127) (p dg b : Nat) (l0 : List Nat) (w : Nat → Nat) (n op c : Nat) (hc : c < 60) (hb : b ≤ 500) (hlp : l0.length ≤ p) (hp : p ≤ g 166 17) {Q : Po} (hq : (∀ q l2 dd w2 n2 op2, eF g 101 p l0 [] true = (true, q, l2) → l2.length ≤ q → q ≤ g 166 17 → Q (some (.int (nI 1))) (HN (PT (u2 (u2 g 180 c (b + l0.length)) 181 c (b + l2.length)) q dd b l2 w2 n2 op2) hl (RF rt))) ∧ (∀ q l2 dd w2 n2 op2 tv, eF g 101 p l0 [] true = (false, q, l2) → l2.length ≤ q → q ≤ g 166 17 → Q (some (.int (nI 0))) (HN (PT (u2 (u2 g 180 c (b + l0.length)) 181 c tv) q dd b l2 w2 n2 op2) hl (RF rt)))) : Ev L xs (d + 4) 151 0 [(0, .ref 166), (1, .int (nI c))] [] (HN (PT g p dg b l0 w n op) hl (RF rt)) Q := by
  refine Ev.run 3 (pc' := 5) (lv' := [(0, .ref 166), (1, .int (nI c))]) (st' := []) (h' := setI (HN (PT g p dg b l0 w n op) hl (RF rt)) 166 29 (nI 0)) rfl ?_
  refine Ev.hp (HN_set _ _ _ _ _ _) ?_
  refine Ev.hp (congrArg (fun z => HN z hl (RF rt)) (PT_29 _ _ _ _ _ _ _ _ _)) ?_
  refine Ev.run 3 (pc' := 10) (lv' := [(0, .ref 166), (1, .int (nI c))]) (st' := []) (h' := setI (HN (PT g p dg b l0 w 0 op) hl (RF rt)) 166 30 (nI 0)) rfl ?_
  refine Ev.hp (HN_set _ _ _ _ _ _) ?_
  refine Ev.hp (congrArg (fun z => HN z hl (RF rt)) (PT_30 _ _ _ _ _ _ _ _ _)) ?_
  refine Ev.run 5 (pc' := 19) (lv' := [(0, .ref 166), (1, .int (nI c))]) (st' := [.int (nI (b + l0.length)), .int (nI c), .ref 180]) (h' := HN (PT g p dg b l0 w 0 0) hl (RF rt)) rfl ?_
  refine Ev_iast rfl rfl (show c < 60 by omega) (Nat.le_of_ble_eq_true rfl) ?_
  refine Ev.hp (congrArg (fun z => HN z hl (RF rt)) (PT_o _ _ _ _ _ _ _ _ 180 _ _ (by decide) (by decide) (by decide))) ?_
  refine Ev.run 2 (pc' := 22) (lv' := [(2, .int (nI 1)), (0, .ref 166), (1, .int (nI c))]) (st' := []) (h' := HN (PT (u2 g 180 c (b + l0.length)) p dg b l0 w 0 0) hl (RF rt)) rfl ?_
  generalize hR : eF g 101 p l0 [] true = R at hq
  have key : ∀ (f p : Nat) (l W : List Nat) (w : Nat → Nat) (wt : Bool) (dg tv : Nat), g 166 17 - p < f → p ≤ g 166 17 → l.length + W.length ≤ p → WR w W → WV W → eF g f p l W wt = R → Ev L xs (d + 4) 151 22 [(2, .int (nI (bn wt))), (0, .ref 166), (1, .int (nI c))] [] (HN (PT (u2 (u2 g 180 c (b + l0.length)) 181 c tv) p dg b l w W.length (opn W)) hl (RF rt)) Q := by
    intro f
    induction f with
    | zero => intro p l W w wt dg tv h1; omega
    | succ f ih =>
      intro p l W w wt dg tv h1 h2 h3 hW hV hE
      have hon := opn_le W
      have hpF : p < g 166 17 ∨ 4294967295 ≤ pkS g p := (Nat.lt_or_ge (pkS g p) 4294967295).elim (fun z => Or.inl (pkS_lt z)) Or.inr
      cases wt with
      | true =>
        show Ev L xs (d + 4) 151 22 [(2, .int (nI 1)), (0, .ref 166), (1, .int (nI c))] [] _ Q
        refine Ev.run 1 (pc' := 23) (lv' := [(2, .int (nI 1)), (0, .ref 166), (1, .int (nI c))]) (st' := [.ref 166]) (h' := HN (PT (u2 (u2 g 180 c (b + l0.length)) 181 c tv) p dg b l w W.length (opn W)) hl (RF rt)) rfl ?_
        refine Ev.call (a := 140) (as := [.ref 166]) (rest := []) (lv0 := [(0, .ref 166)]) (Q1 := (fun z0 h' => z0 = some (.int (nI (pkS g p))) ∧ h' = HN (PT (u2 (u2 g 180 c (b + l0.length)) 181 c tv) p dg b l w W.length (opn W)) hl (RF rt))) rfl rfl (C_peek _ (u2 (u2 g 180 c (b + l0.length)) 181 c tv) _ _ hF ht p dg b l w W.length (opn W) (by omega) ⟨rfl, rfl⟩) (fun r h' hr => ?_)
        obtain ⟨rfl, rfl⟩ := hr
        have hpk26 := pkS_le hF ht p
        refine Ev.run 6 (pc' := (if nI (pkS g p) = nI 33 then 43 else 37)) (lv' := [(3, .int (nI (pkS g p))), (2, .int (nI 1)), (0, .ref 166), (1, .int (nI c))]) (st' := []) (h' := HN (PT (u2 (u2 g 180 c (b + l0.length)) 181 c tv) p dg b l w W.length (opn W)) hl (RF rt)) rfl ?_
        refine Ev.ite (fun hc34 => ?_) (fun hc34 => ?_)
        · have hc34 : (pkS g p) = 33 := (nI_eqU (by omega) (by omega)).mp hc34
          refine Ev.run 4 (pc' := (if nI (opn W) = nI 4 then 51 else 53)) (lv' := [(3, .int (nI (pkS g p))), (2, .int (nI 1)), (0, .ref 166), (1, .int (nI c))]) (st' := []) (h' := HN (PT (u2 (u2 g 180 c (b + l0.length)) 181 c tv) p dg b l w W.length (opn W)) hl (RF rt)) rfl ?_
          refine Ev.ite (fun hc48 => ?_) (fun hc48 => ?_)
          · have hc48 : (opn W) = 4 := (nI_eqU (by omega) (by omega)).mp hc48
            refine Ev.run 1 (pc' := 52) (lv' := [(3, .int (nI (pkS g p))), (2, .int (nI 1)), (0, .ref 166), (1, .int (nI c))]) (st' := [.int (nI 0)]) (h' := HN (PT (u2 (u2 g 180 c (b + l0.length)) 181 c tv) p dg b l w W.length (opn W)) hl (RF rt)) rfl ?_
            refine Ev.ret (v := some (.int (nI 0))) rfl ?_
            rw [eF, if_pos (by omega), if_pos hc48] at hE
            exact hq.2 _ _ _ _ _ _ _ hE.symm (by omega) (by omega)
          · have hc48 : ¬ ((opn W) = 4) := fun z => hc48 ((nI_eqU (by omega) (by omega)).mpr z)
            refine Ev.run 5 (pc' := 60) (lv' := [(3, .int (nI (pkS g p))), (2, .int (nI 1)), (0, .ref 166), (1, .int (nI c))]) (st' := [.int (nI (opn W) + nI 1), .ref 166]) (h' := HN (PT (u2 (u2 g 180 c (b + l0.length)) 181 c tv) p dg b l w W.length (opn W)) hl (RF rt)) rfl ?_
            refine Ev.topI (nI_add _ _) ?_
            refine Ev.run 1 (pc' := 63) (lv' := [(3, .int (nI (pkS g p))), (2, .int (nI 1)), (0, .ref 166), (1, .int (nI c))]) (st' := []) (h' := setI (HN (PT (u2 (u2 g 180 c (b + l0.length)) 181 c tv) p dg b l w W.length (opn W)) hl (RF rt)) 166 30 (nI ((opn W) + 1))) rfl ?_
            refine Ev.hp (HN_set _ _ _ _ _ _) ?_
            refine Ev.hp (congrArg (fun z => HN z hl (RF rt)) (PT_30 _ _ _ _ _ _ _ _ _)) ?_
            refine Ev.run 5 (pc' := 72) (lv' := [(3, .int (nI (pkS g p))), (2, .int (nI 1)), (0, .ref 166), (1, .int (nI c))]) (st' := [.int (nI (pkS g p)), .int (nI W.length), .ref 183]) (h' := HN (PT (u2 (u2 g 180 c (b + l0.length)) 181 c tv) p dg b l w W.length ((opn W) + 1)) hl (RF rt)) rfl ?_
            refine Ev_iast rfl rfl (show W.length < 101 by omega) (Nat.le_of_ble_eq_true rfl) ?_
            refine Ev.hp (congrArg (fun z => HN z hl (RF rt)) (PT_183 _ _ _ _ _ _ _ _ _ _)) ?_
            refine Ev.run 5 (pc' := 80) (lv' := [(3, .int (nI (pkS g p))), (2, .int (nI 1)), (0, .ref 166), (1, .int (nI c))]) (st' := [.int (nI W.length + nI 1), .ref 166]) (h' := HN (PT (u2 (u2 g 180 c (b + l0.length)) 181 c tv) p dg b l (up w W.length (pkS g p)) W.length ((opn W) + 1)) hl (RF rt)) rfl ?_
            refine Ev.topI (nI_add _ _) ?_
            refine Ev.run 1 (pc' := 83) (lv' := [(3, .int (nI (pkS g p))), (2, .int (nI 1)), (0, .ref 166), (1, .int (nI c))]) (st' := []) (h' := setI (HN (PT (u2 (u2 g 180 c (b + l0.length)) 181 c tv) p dg b l (up w W.length (pkS g p)) W.length ((opn W) + 1)) hl (RF rt)) 166 29 (nI (W.length + 1))) rfl ?_
            refine Ev.hp (HN_set _ _ _ _ _ _) ?_
            refine Ev.hp (congrArg (fun z => HN z hl (RF rt)) (PT_29 _ _ _ _ _ _ _ _ _)) ?_
            refine Ev.run 5 (pc' := 90) (lv' := [(3, .int (nI (pkS g p))), (2, .int (nI 1)), (0, .ref 166), (1, .int (nI c))]) (st' := [.int (nI p + nI 1), .ref 166]) (h' := HN (PT (u2 (u2 g 180 c (b + l0.length)) 181 c tv) p dg b l (up w W.length (pkS g p)) (W.length + 1) ((opn W) + 1)) hl (RF rt)) rfl ?_
            refine Ev.topI (nI_add _ _) ?_
            refine Ev.run 1 (pc' := 93) (lv' := [(3, .int (nI (pkS g p))), (2, .int (nI 1)), (0, .ref 166), (1, .int (nI c))]) (st' := []) (h' := setI (HN (PT (u2 (u2 g 180 c (b + l0.length)) 181 c tv) p dg b l (up w W.length (pkS g p)) (W.length + 1) ((opn W) + 1)) hl (RF rt)) 166 18 (nI (p + 1))) rfl ?_
            refine Ev.hp (HN_set _ _ _ _ _ _) ?_
            refine Ev.hp (congrArg (fun z => HN z hl (RF rt)) (PT_18 _ _ _ _ _ _ _ _ _)) ?_
            refine Ev.run 1 (pc' := 22) (lv' := [(3, .int (nI (pkS g p))), (2, .int (nI 1)), (0, .ref 166), (1, .int (nI c))]) (st' := []) (h' := HN (PT (u2 (u2 g 180 c (b + l0.length)) 181 c tv) (p + 1) dg b l (up w W.length (pkS g p)) (W.length + 1) ((opn W) + 1)) hl (RF rt)) rfl ?_
            rw [show opn W + 1 = opn (pkS g p :: W) from (opn_o W (by omega)).symm]
            rw [eF, if_pos (by omega), if_neg hc48] at hE
            exact Ev.wk (Ext.cons rfl rfl (Ext.cons rfl rfl (Ext.cons rfl rfl (Ext.nil rfl)))) (ih (p + 1) l (pkS g p :: W) (up w W.length (pkS g p)) true dg tv (by omega) (by omega) (by show l.length + (W.length + 1) ≤ p + 1; omega) (hW.push (by omega)) (hV.push (by omega)) hE)
        · have hc34 : ¬ ((pkS g p) = 33) := fun z => hc34 ((nI_eqU (by omega) (by omega)).mpr z)
          refine Ev.run 3 (pc' := (if nI (pkS g p) = nI 40 then 43 else 96)) (lv' := [(3, .int (nI (pkS g p))), (2, .int (nI 1)), (0, .ref 166), (1, .int (nI c))]) (st' := []) (h' := HN (PT (u2 (u2 g 180 c (b + l0.length)) 181 c tv) p dg b l w W.length (opn W)) hl (RF rt)) rfl ?_
          refine Ev.ite (fun hc40 => ?_) (fun hc40 => ?_)
          · have hc40 : (pkS g p) = 40 := (nI_eqU (by omega) (by omega)).mp hc40
            refine Ev.run 4 (pc' := (if nI (opn W) = nI 4 then 51 else 53)) (lv' := [(3, .int (nI (pkS g p))), (2, .int (nI 1)), (0, .ref 166), (1, .int (nI c))]) (st' := []) (h' := HN (PT (u2 (u2 g 180 c (b + l0.length)) 181 c tv) p dg b l w W.length (opn W)) hl (RF rt)) rfl ?_
            refine Ev.ite (fun hc48 => ?_) (fun hc48 => ?_)
            · have hc48 : (opn W) = 4 := (nI_eqU (by omega) (by omega)).mp hc48
              refine Ev.run 1 (pc' := 52) (lv' := [(3, .int (nI (pkS g p))), (2, .int (nI 1)), (0, .ref 166), (1, .int (nI c))]) (st' := [.int (nI 0)]) (h' := HN (PT (u2 (u2 g 180 c (b + l0.length)) 181 c tv) p dg b l w W.length (opn W)) hl (RF rt)) rfl ?_
              refine Ev.ret (v := some (.int (nI 0))) rfl ?_
              rw [eF, if_pos (by omega), if_pos hc48] at hE
              exact hq.2 _ _ _ _ _ _ _ hE.symm (by omega) (by omega)
            · have hc48 : ¬ ((opn W) = 4) := fun z => hc48 ((nI_eqU (by omega) (by omega)).mpr z)
              refine Ev.run 5 (pc' := 60) (lv' := [(3, .int (nI (pkS g p))), (2, .int (nI 1)), (0, .ref 166), (1, .int (nI c))]) (st' := [.int (nI (opn W) + nI 1), .ref 166]) (h' := HN (PT (u2 (u2 g 180 c (b + l0.length)) 181 c tv) p dg b l w W.length (opn W)) hl (RF rt)) rfl ?_
              refine Ev.topI (nI_add _ _) ?_
              refine Ev.run 1 (pc' := 63) (lv' := [(3, .int (nI (pkS g p))), (2, .int (nI 1)), (0, .ref 166), (1, .int (nI c))]) (st' := []) (h' := setI (HN (PT (u2 (u2 g 180 c (b + l0.length)) 181 c tv) p dg b l w W.length (opn W)) hl (RF rt)) 166 30 (nI ((opn W) + 1))) rfl ?_
              refine Ev.hp (HN_set _ _ _ _ _ _) ?_
              refine Ev.hp (congrArg (fun z => HN z hl (RF rt)) (PT_30 _ _ _ _ _ _ _ _ _)) ?_
              refine Ev.run 5 (pc' := 72) (lv' := [(3, .int (nI (pkS g p))), (2, .int (nI 1)), (0, .ref 166), (1, .int (nI c))]) (st' := [.int (nI (pkS g p)), .int (nI W.length), .ref 183]) (h' := HN (PT (u2 (u2 g 180 c (b + l0.length)) 181 c tv) p dg b l w W.length ((opn W) + 1)) hl (RF rt)) rfl ?_
              refine Ev_iast rfl rfl (show W.length < 101 by omega) (Nat.le_of_ble_eq_true rfl) ?_
              refine Ev.hp (congrArg (fun z => HN z hl (RF rt)) (PT_183 _ _ _ _ _ _ _ _ _ _)) ?_
              refine Ev.run 5 (pc' := 80) (lv' := [(3, .int (nI (pkS g p))), (2, .int (nI 1)), (0, .ref 166), (1, .int (nI c))]) (st' := [.int (nI W.length + nI 1), .ref 166]) (h' := HN (PT (u2 (u2 g 180 c (b + l0.length)) 181 c tv) p dg b l (up w W.length (pkS g p)) W.length ((opn W) + 1)) hl (RF rt)) rfl ?_
              refine Ev.topI (nI_add _ _) ?_
              refine Ev.run 1 (pc' := 83) (lv' := [(3, .int (nI (pkS g p))), (2, .int (nI 1)), (0, .ref 166), (1, .int (nI c))]) (st' := []) (h' := setI (HN (PT (u2 (u2 g 180 c (b + l0.length)) 181 c tv) p dg b l (up w W.length (pkS g p)) W.length ((opn W) + 1)) hl (RF rt)) 166 29 (nI (W.length + 1))) rfl ?_
              refine Ev.hp (HN_set _ _ _ _ _ _) ?_
              refine Ev.hp (congrArg (fun z => HN z hl (RF rt)) (PT_29 _ _ _ _ _ _ _ _ _)) ?_
              refine Ev.run 5 (pc' := 90) (lv' := [(3, .int (nI (pkS g p))), (2, .int (nI 1)), (0, .ref 166), (1, .int (nI c))]) (st' := [.int (nI p + nI 1), .ref 166]) (h' := HN (PT (u2 (u2 g 180 c (b + l0.length)) 181 c tv) p dg b l (up w W.length (pkS g p)) (W.length + 1) ((opn W) + 1)) hl (RF rt)) rfl ?_
              refine Ev.topI (nI_add _ _) ?_
              refine Ev.run 1 (pc' := 93) (lv' := [(3, .int (nI (pkS g p))), (2, .int (nI 1)), (0, .ref 166), (1, .int (nI c))]) (st' := []) (h' := setI (HN (PT (u2 (u2 g 180 c (b + l0.length)) 181 c tv) p dg b l (up w W.length (pkS g p)) (W.length + 1) ((opn W) + 1)) hl (RF rt)) 166 18 (nI (p + 1))) rfl ?_
              refine Ev.hp (HN_set _ _ _ _ _ _) ?_
              refine Ev.hp (congrArg (fun z => HN z hl (RF rt)) (PT_18 _ _ _ _ _ _ _ _ _)) ?_
              refine Ev.run 1 (pc' := 22) (lv' := [(3, .int (nI (pkS g p))), (2, .int (nI 1)), (0, .ref 166), (1, .int (nI c))]) (st' := []) (h' := HN (PT (u2 (u2 g 180 c (b + l0.length)) 181 c tv) (p + 1) dg b l (up w W.length (pkS g p)) (W.length + 1) ((opn W) + 1)) hl (RF rt)) rfl ?_
              rw [show opn W + 1 = opn (pkS g p :: W) from (opn_o W (by omega)).symm]
              rw [eF, if_pos (by omega), if_neg hc48] at hE
              exact Ev.wk (Ext.cons rfl rfl (Ext.cons rfl rfl (Ext.cons rfl rfl (Ext.nil rfl)))) (ih (p + 1) l (pkS g p :: W) (up w W.length (pkS g p)) true dg tv (by omega) (by omega) (by show l.length + (W.length + 1) ≤ p + 1; omega) (hW.push (by omega)) (hV.push (by omega)) hE)
          · have hc40 : ¬ ((pkS g p) = 40) := fun z => hc40 ((nI_eqU (by omega) (by omega)).mpr z)
            refine Ev.run 1 (pc' := 97) (lv' := [(3, .int (nI (pkS g p))), (2, .int (nI 1)), (0, .ref 166), (1, .int (nI c))]) (st' := [.ref 166]) (h' := HN (PT (u2 (u2 g 180 c (b + l0.length)) 181 c tv) p dg b l w W.length (opn W)) hl (RF rt)) rfl ?_
            refine Ev.call (a := 150) (as := [.ref 166]) (rest := []) (lv0 := [(0, .ref 166)]) (Q1 := (fun z0 h' => (∃ cd q dd, teS g p = (true, cd, q) ∧ z0 = some (.int (nI 1)) ∧ h' = HN (PT (u2 (u2 g 180 c (b + l0.length)) 181 c tv) q dd b (l ++ ([cd] ++ whL W)) w ((whW W).length) (opn (whW W))) hl (RF rt)) ∨ (∃ q, teS g p = (false, 0, q) ∧ z0 = some (.int (nI 0)) ∧ h' = HN (PT (u2 (u2 g 180 c (b + l0.length)) 181 c tv) q dg b l w W.length (opn W)) hl (RF rt)))) rfl rfl (C_takesTest _ (u2 (u2 g 180 c (b + l0.length)) 181 c tv) _ _ hF ht p dg b l w W hW (by omega) (by omega) (by omega) ⟨fun cd q dd z => Or.inl ⟨cd, q, dd, z, rfl, rfl⟩, fun q z => Or.inr ⟨q, z, rfl, rfl⟩⟩) (fun r h' hr => ?_)
            rcases hr with ⟨cd124, q124, dd124, hte, rfl, rfl⟩ | ⟨q124, hte, rfl, rfl⟩
            · skip
              have htl := teS_le hte
              refine Ev.run 1 (pc' := 103) (lv' := [(3, .int (nI (pkS g p))), (2, .int (nI 1)), (0, .ref 166), (1, .int (nI c))]) (st' := []) (h' := HN (PT (u2 (u2 g 180 c (b + l0.length)) 181 c tv) q124 dd124 b (l ++ ([cd124] ++ whL W)) w ((whW W).length) (opn (whW W))) hl (RF rt)) rfl ?_
              refine Ev.run 3 (pc' := 22) (lv' := [(2, .int (nI 0)), (3, .int (nI (pkS g p))), (0, .ref 166), (1, .int (nI c))]) (st' := []) (h' := HN (PT (u2 (u2 g 180 c (b + l0.length)) 181 c tv) q124 dd124 b (l ++ ([cd124] ++ whL W)) w ((whW W).length) (opn (whW W))) hl (RF rt)) rfl ?_
              rw [eF, if_neg (by omega), hte, if_pos rfl] at hE
              have hwl := wh_len W
              exact Ev.wk (Ext.cons rfl rfl (Ext.cons rfl rfl (Ext.cons rfl rfl (Ext.nil rfl)))) (ih q124 (l ++ ([cd124] ++ whL W)) (whW W) w false dd124 tv (by omega) (by omega) (by simp only [List.length_append, List.length_cons, List.length_nil]; omega) hW.wh hV.wh hE)
            · skip
              have htl := teS_le0 hte (by omega)
              refine Ev.run 2 (pc' := 109) (lv' := [(3, .int (nI (pkS g p))), (2, .int (nI 1)), (0, .ref 166), (1, .int (nI c))]) (st' := [.int (nI 0)]) (h' := HN (PT (u2 (u2 g 180 c (b + l0.length)) 181 c tv) q124 dg b l w W.length (opn W)) hl (RF rt)) rfl ?_
              refine Ev.ret (v := some (.int (nI 0))) rfl ?_
              rw [eF, if_neg (by omega), hte, if_neg Bool.false_ne_true] at hE
              exact hq.2 _ _ _ _ _ _ _ hE.symm (by omega) (by omega)
      | false =>
        show Ev L xs (d + 4) 151 22 [(2, .int (nI 0)), (0, .ref 166), (1, .int (nI c))] [] _ Q
        refine Ev.run 1 (pc' := 23) (lv' := [(2, .int (nI 0)), (0, .ref 166), (1, .int (nI c))]) (st' := [.ref 166]) (h' := HN (PT (u2 (u2 g 180 c (b + l0.length)) 181 c tv) p dg b l w W.length (opn W)) hl (RF rt)) rfl ?_
        refine Ev.call (a := 140) (as := [.ref 166]) (rest := []) (lv0 := [(0, .ref 166)]) (Q1 := (fun z0 h' => z0 = some (.int (nI (pkS g p))) ∧ h' = HN (PT (u2 (u2 g 180 c (b + l0.length)) 181 c tv) p dg b l w W.length (opn W)) hl (RF rt))) rfl rfl (C_peek _ (u2 (u2 g 180 c (b + l0.length)) 181 c tv) _ _ hF ht p dg b l w W.length (opn W) (by omega) ⟨rfl, rfl⟩) (fun r h' hr => ?_)
        obtain ⟨rfl, rfl⟩ := hr
        have hpk26 := pkS_le hF ht p
        refine Ev.run 6 (pc' := (if nI (pkS g p) = nI 38 then 122 else 116)) (lv' := [(3, .int (nI (pkS g p))), (2, .int (nI 0)), (0, .ref 166), (1, .int (nI c))]) (st' := []) (h' := HN (PT (u2 (u2 g 180 c (b + l0.length)) 181 c tv) p dg b l w W.length (opn W)) hl (RF rt)) rfl ?_
        refine Ev.ite (fun hc113 => ?_) (fun hc113 => ?_)
        · have hc113 : (pkS g p) = 38 := (nI_eqU (by omega) (by omega)).mp hc113
          refine Ev.run 2 (pc' := 124) (lv' := [(3, .int (nI (pkS g p))), (2, .int (nI 0)), (0, .ref 166), (1, .int (nI c))]) (st' := [.int (nI (pkS g p)), .ref 166]) (h' := HN (PT (u2 (u2 g 180 c (b + l0.length)) 181 c tv) p dg b l w W.length (opn W)) hl (RF rt)) rfl ?_
          refine Ev.call (a := 148) (as := [.ref 166, .int (nI (pkS g p))]) (rest := []) (lv0 := [(0, .ref 166), (1, .int (nI (pkS g p)))]) (Q1 := (fun z0 h' => z0 = none ∧ h' = HN (PT (u2 (u2 g 180 c (b + l0.length)) 181 c tv) p dg b (l ++ stL (pkS g p) W) w ((stW (pkS g p) W).length) (opn (stW (pkS g p) W))) hl (RF rt))) rfl rfl (C_settle _ (u2 (u2 g 180 c (b + l0.length)) 181 c tv) _ _ p dg b w (pkS g p) (by omega) W l hW (by omega) (by omega) ⟨rfl, rfl⟩) (fun r h' hr => ?_)
          obtain ⟨rfl, rfl⟩ := hr
          have hst124 := st_len (pkS g p) W
          refine Ev.run 5 (pc' := 136) (lv' := [(3, .int (nI (pkS g p))), (2, .int (nI 0)), (0, .ref 166), (1, .int (nI c))]) (st' := [.int (nI (pkS g p)), .int (nI ((stW (pkS g p) W).length)), .ref 183]) (h' := HN (PT (u2 (u2 g 180 c (b + l0.length)) 181 c tv) p dg b (l ++ stL (pkS g p) W) w ((stW (pkS g p) W).length) (opn (stW (pkS g p) W))) hl (RF rt)) rfl ?_
          refine Ev_iast rfl rfl (show (stW (pkS g p) W).length < 101 by omega) (Nat.le_of_ble_eq_true rfl) ?_
          refine Ev.hp (congrArg (fun z => HN z hl (RF rt)) (PT_183 _ _ _ _ _ _ _ _ _ _)) ?_
          refine Ev.run 5 (pc' := 144) (lv' := [(3, .int (nI (pkS g p))), (2, .int (nI 0)), (0, .ref 166), (1, .int (nI c))]) (st' := [.int (nI ((stW (pkS g p) W).length) + nI 1), .ref 166]) (h' := HN (PT (u2 (u2 g 180 c (b + l0.length)) 181 c tv) p dg b (l ++ stL (pkS g p) W) (up w ((stW (pkS g p) W).length) (pkS g p)) ((stW (pkS g p) W).length) (opn (stW (pkS g p) W))) hl (RF rt)) rfl ?_
          refine Ev.topI (nI_add _ _) ?_
          refine Ev.run 1 (pc' := 147) (lv' := [(3, .int (nI (pkS g p))), (2, .int (nI 0)), (0, .ref 166), (1, .int (nI c))]) (st' := []) (h' := setI (HN (PT (u2 (u2 g 180 c (b + l0.length)) 181 c tv) p dg b (l ++ stL (pkS g p) W) (up w ((stW (pkS g p) W).length) (pkS g p)) ((stW (pkS g p) W).length) (opn (stW (pkS g p) W))) hl (RF rt)) 166 29 (nI (((stW (pkS g p) W).length) + 1))) rfl ?_
          refine Ev.hp (HN_set _ _ _ _ _ _) ?_
          refine Ev.hp (congrArg (fun z => HN z hl (RF rt)) (PT_29 _ _ _ _ _ _ _ _ _)) ?_
          refine Ev.run 7 (pc' := 156) (lv' := [(2, .int (nI 1)), (3, .int (nI (pkS g p))), (0, .ref 166), (1, .int (nI c))]) (st' := [.int (nI p + nI 1), .ref 166]) (h' := HN (PT (u2 (u2 g 180 c (b + l0.length)) 181 c tv) p dg b (l ++ stL (pkS g p) W) (up w ((stW (pkS g p) W).length) (pkS g p)) (((stW (pkS g p) W).length) + 1) (opn (stW (pkS g p) W))) hl (RF rt)) rfl ?_
          refine Ev.topI (nI_add _ _) ?_
          refine Ev.run 1 (pc' := 159) (lv' := [(2, .int (nI 1)), (3, .int (nI (pkS g p))), (0, .ref 166), (1, .int (nI c))]) (st' := []) (h' := setI (HN (PT (u2 (u2 g 180 c (b + l0.length)) 181 c tv) p dg b (l ++ stL (pkS g p) W) (up w ((stW (pkS g p) W).length) (pkS g p)) (((stW (pkS g p) W).length) + 1) (opn (stW (pkS g p) W))) hl (RF rt)) 166 18 (nI (p + 1))) rfl ?_
          refine Ev.hp (HN_set _ _ _ _ _ _) ?_
          refine Ev.hp (congrArg (fun z => HN z hl (RF rt)) (PT_18 _ _ _ _ _ _ _ _ _)) ?_
          refine Ev.run 1 (pc' := 22) (lv' := [(2, .int (nI 1)), (3, .int (nI (pkS g p))), (0, .ref 166), (1, .int (nI c))]) (st' := []) (h' := HN (PT (u2 (u2 g 180 c (b + l0.length)) 181 c tv) (p + 1) dg b (l ++ stL (pkS g p) W) (up w ((stW (pkS g p) W).length) (pkS g p)) (((stW (pkS g p) W).length) + 1) (opn (stW (pkS g p) W))) hl (RF rt)) rfl ?_
          rw [show opn (stW (pkS g p) W) = opn (pkS g p :: stW (pkS g p) W) from (opn_op _ (by omega)).symm]
          rw [eF, if_pos (by omega)] at hE
          exact Ev.wk (Ext.cons rfl rfl (Ext.cons rfl rfl (Ext.cons rfl rfl (Ext.nil rfl)))) (ih (p + 1) (l ++ stL (pkS g p) W) (pkS g p :: stW (pkS g p) W) (up w (stW (pkS g p) W).length (pkS g p)) true dg tv (by omega) (by omega) (by show (l ++ stL (pkS g p) W).length + ((stW (pkS g p) W).length + 1) ≤ p + 1; rw [List.length_append]; omega) (hW.st.push (by omega)) (hV.st.push (by omega)) hE)
        · have hc113 : ¬ ((pkS g p) = 38) := fun z => hc113 ((nI_eqU (by omega) (by omega)).mpr z)
          refine Ev.run 3 (pc' := (if nI (pkS g p) = nI 124 then 122 else 162)) (lv' := [(3, .int (nI (pkS g p))), (2, .int (nI 0)), (0, .ref 166), (1, .int (nI c))]) (st' := []) (h' := HN (PT (u2 (u2 g 180 c (b + l0.length)) 181 c tv) p dg b l w W.length (opn W)) hl (RF rt)) rfl ?_
          refine Ev.ite (fun hc119 => ?_) (fun hc119 => ?_)
          · have hc119 : (pkS g p) = 124 := (nI_eqU (by omega) (by omega)).mp hc119
            refine Ev.run 2 (pc' := 124) (lv' := [(3, .int (nI (pkS g p))), (2, .int (nI 0)), (0, .ref 166), (1, .int (nI c))]) (st' := [.int (nI (pkS g p)), .ref 166]) (h' := HN (PT (u2 (u2 g 180 c (b + l0.length)) 181 c tv) p dg b l w W.length (opn W)) hl (RF rt)) rfl ?_
            refine Ev.call (a := 148) (as := [.ref 166, .int (nI (pkS g p))]) (rest := []) (lv0 := [(0, .ref 166), (1, .int (nI (pkS g p)))]) (Q1 := (fun z0 h' => z0 = none ∧ h' = HN (PT (u2 (u2 g 180 c (b + l0.length)) 181 c tv) p dg b (l ++ stL (pkS g p) W) w ((stW (pkS g p) W).length) (opn (stW (pkS g p) W))) hl (RF rt))) rfl rfl (C_settle _ (u2 (u2 g 180 c (b + l0.length)) 181 c tv) _ _ p dg b w (pkS g p) (by omega) W l hW (by omega) (by omega) ⟨rfl, rfl⟩) (fun r h' hr => ?_)
            obtain ⟨rfl, rfl⟩ := hr
            have hst124 := st_len (pkS g p) W
            refine Ev.run 5 (pc' := 136) (lv' := [(3, .int (nI (pkS g p))), (2, .int (nI 0)), (0, .ref 166), (1, .int (nI c))]) (st' := [.int (nI (pkS g p)), .int (nI ((stW (pkS g p) W).length)), .ref 183]) (h' := HN (PT (u2 (u2 g 180 c (b + l0.length)) 181 c tv) p dg b (l ++ stL (pkS g p) W) w ((stW (pkS g p) W).length) (opn (stW (pkS g p) W))) hl (RF rt)) rfl ?_
            refine Ev_iast rfl rfl (show (stW (pkS g p) W).length < 101 by omega) (Nat.le_of_ble_eq_true rfl) ?_
            refine Ev.hp (congrArg (fun z => HN z hl (RF rt)) (PT_183 _ _ _ _ _ _ _ _ _ _)) ?_
            refine Ev.run 5 (pc' := 144) (lv' := [(3, .int (nI (pkS g p))), (2, .int (nI 0)), (0, .ref 166), (1, .int (nI c))]) (st' := [.int (nI ((stW (pkS g p) W).length) + nI 1), .ref 166]) (h' := HN (PT (u2 (u2 g 180 c (b + l0.length)) 181 c tv) p dg b (l ++ stL (pkS g p) W) (up w ((stW (pkS g p) W).length) (pkS g p)) ((stW (pkS g p) W).length) (opn (stW (pkS g p) W))) hl (RF rt)) rfl ?_
            refine Ev.topI (nI_add _ _) ?_
            refine Ev.run 1 (pc' := 147) (lv' := [(3, .int (nI (pkS g p))), (2, .int (nI 0)), (0, .ref 166), (1, .int (nI c))]) (st' := []) (h' := setI (HN (PT (u2 (u2 g 180 c (b + l0.length)) 181 c tv) p dg b (l ++ stL (pkS g p) W) (up w ((stW (pkS g p) W).length) (pkS g p)) ((stW (pkS g p) W).length) (opn (stW (pkS g p) W))) hl (RF rt)) 166 29 (nI (((stW (pkS g p) W).length) + 1))) rfl ?_
            refine Ev.hp (HN_set _ _ _ _ _ _) ?_
            refine Ev.hp (congrArg (fun z => HN z hl (RF rt)) (PT_29 _ _ _ _ _ _ _ _ _)) ?_
            refine Ev.run 7 (pc' := 156) (lv' := [(2, .int (nI 1)), (3, .int (nI (pkS g p))), (0, .ref 166), (1, .int (nI c))]) (st' := [.int (nI p + nI 1), .ref 166]) (h' := HN (PT (u2 (u2 g 180 c (b + l0.length)) 181 c tv) p dg b (l ++ stL (pkS g p) W) (up w ((stW (pkS g p) W).length) (pkS g p)) (((stW (pkS g p) W).length) + 1) (opn (stW (pkS g p) W))) hl (RF rt)) rfl ?_
            refine Ev.topI (nI_add _ _) ?_
            refine Ev.run 1 (pc' := 159) (lv' := [(2, .int (nI 1)), (3, .int (nI (pkS g p))), (0, .ref 166), (1, .int (nI c))]) (st' := []) (h' := setI (HN (PT (u2 (u2 g 180 c (b + l0.length)) 181 c tv) p dg b (l ++ stL (pkS g p) W) (up w ((stW (pkS g p) W).length) (pkS g p)) (((stW (pkS g p) W).length) + 1) (opn (stW (pkS g p) W))) hl (RF rt)) 166 18 (nI (p + 1))) rfl ?_
            refine Ev.hp (HN_set _ _ _ _ _ _) ?_
            refine Ev.hp (congrArg (fun z => HN z hl (RF rt)) (PT_18 _ _ _ _ _ _ _ _ _)) ?_
            refine Ev.run 1 (pc' := 22) (lv' := [(2, .int (nI 1)), (3, .int (nI (pkS g p))), (0, .ref 166), (1, .int (nI c))]) (st' := []) (h' := HN (PT (u2 (u2 g 180 c (b + l0.length)) 181 c tv) (p + 1) dg b (l ++ stL (pkS g p) W) (up w ((stW (pkS g p) W).length) (pkS g p)) (((stW (pkS g p) W).length) + 1) (opn (stW (pkS g p) W))) hl (RF rt)) rfl ?_
            rw [show opn (stW (pkS g p) W) = opn (pkS g p :: stW (pkS g p) W) from (opn_op _ (by omega)).symm]
            rw [eF, if_pos (by omega)] at hE
            exact Ev.wk (Ext.cons rfl rfl (Ext.cons rfl rfl (Ext.cons rfl rfl (Ext.nil rfl)))) (ih (p + 1) (l ++ stL (pkS g p) W) (pkS g p :: stW (pkS g p) W) (up w (stW (pkS g p) W).length (pkS g p)) true dg tv (by omega) (by omega) (by show (l ++ stL (pkS g p) W).length + ((stW (pkS g p) W).length + 1) ≤ p + 1; rw [List.length_append]; omega) (hW.st.push (by omega)) (hV.st.push (by omega)) hE)
          · have hc119 : ¬ ((pkS g p) = 124) := fun z => hc119 ((nI_eqU (by omega) (by omega)).mpr z)
            refine Ev.run 2 (pc' := 165) (lv' := [(3, .int (nI (pkS g p))), (2, .int (nI 0)), (0, .ref 166), (1, .int (nI c))]) (st' := [.int (nI 124), .ref 166]) (h' := HN (PT (u2 (u2 g 180 c (b + l0.length)) 181 c tv) p dg b l w W.length (opn W)) hl (RF rt)) rfl ?_
            refine Ev.call (a := 148) (as := [.ref 166, .int (nI 124)]) (rest := []) (lv0 := [(0, .ref 166), (1, .int (nI 124))]) (Q1 := (fun z0 h' => z0 = none ∧ h' = HN (PT (u2 (u2 g 180 c (b + l0.length)) 181 c tv) p dg b (l ++ stL 124 W) w ((stW 124 W).length) (opn (stW 124 W))) hl (RF rt))) rfl rfl (C_settle _ (u2 (u2 g 180 c (b + l0.length)) 181 c tv) _ _ p dg b w 124 (by omega) W l hW (by omega) (by omega) ⟨rfl, rfl⟩) (fun r h' hr => ?_)
            obtain ⟨rfl, rfl⟩ := hr
            have hst165 := st_len 124 W
            refine Ev.run 5 (pc' := 177) (lv' := [(3, .int (nI (pkS g p))), (2, .int (nI 0)), (0, .ref 166), (1, .int (nI c))]) (st' := [.int (nI (b + (l ++ stL 124 W).length)), .int (nI c), .ref 181]) (h' := HN (PT (u2 (u2 g 180 c (b + l0.length)) 181 c tv) p dg b (l ++ stL 124 W) w ((stW 124 W).length) (opn (stW 124 W))) hl (RF rt)) rfl ?_
            refine Ev_iast rfl rfl (show c < 60 by omega) (Nat.le_of_ble_eq_true rfl) ?_
            refine Ev.hp (congrArg (fun z => HN z hl (RF rt)) (PT_o _ _ _ _ _ _ _ _ 181 _ _ (by decide) (by decide) (by decide))) ?_
            refine Ev.run 3 (pc' := (if nI ((stW 124 W).length) = 0 then 185 else 187)) (lv' := [(3, .int (nI (pkS g p))), (2, .int (nI 0)), (0, .ref 166), (1, .int (nI c))]) (st' := []) (h' := HN (PT (u2 (u2 (u2 g 180 c (b + l0.length)) 181 c tv) 181 c (b + (l ++ stL 124 W).length)) p dg b (l ++ stL 124 W) w ((stW 124 W).length) (opn (stW 124 W))) hl (RF rt)) rfl ?_
            refine Ev.ite (fun hc182 => ?_) (fun hc182 => ?_)
            · have hc182 : ((stW 124 W).length) = 0 := (nI_eqU0 (by omega)).mp hc182
              refine Ev.run 1 (pc' := 186) (lv' := [(3, .int (nI (pkS g p))), (2, .int (nI 0)), (0, .ref 166), (1, .int (nI c))]) (st' := [.int (nI 1)]) (h' := HN (PT (u2 (u2 (u2 g 180 c (b + l0.length)) 181 c tv) 181 c (b + (l ++ stL 124 W).length)) p dg b (l ++ stL 124 W) w ((stW 124 W).length) (opn (stW 124 W))) hl (RF rt)) rfl ?_
              refine Ev.ret (v := some (.int (nI 1))) rfl ?_
              have hn0 : stW 124 W = [] := List.eq_nil_of_length_eq_zero hc182
              rw [eF, if_neg (by omega), hn0] at hE
              rw [u2_u2]
              exact hq.1 _ _ _ _ _ _ hE.symm (by rw [List.length_append]; omega) (by omega)
            · have hc182 : ¬ (((stW 124 W).length) = 0) := fun z => hc182 ((nI_eqU0 (by omega)).mpr z)
              refine Ev.run 3 (pc' := (if nI (pkS g p) = nI 41 then 195 else 193)) (lv' := [(3, .int (nI (pkS g p))), (2, .int (nI 0)), (0, .ref 166), (1, .int (nI c))]) (st' := []) (h' := HN (PT (u2 (u2 (u2 g 180 c (b + l0.length)) 181 c tv) 181 c (b + (l ++ stL 124 W).length)) p dg b (l ++ stL 124 W) w ((stW 124 W).length) (opn (stW 124 W))) hl (RF rt)) rfl ?_
              refine Ev.ite (fun hc190 => ?_) (fun hc190 => ?_)
              · have hc190 : (pkS g p) = 41 := (nI_eqU (by omega) (by omega)).mp hc190
                obtain ⟨x, t, hxt⟩ : ∃ x t, stW 124 W = x :: t := by
                  cases e : stW 124 W with
                  | nil => rw [e] at hc182; exact absurd rfl hc182
                  | cons x t => exact ⟨x, t, rfl⟩
                have hWx : WR w (x :: t) := by rw [← hxt]; exact hW.st
                have hxo : x = 33 ∨ x = 40 := by
                  have h8 := st_top hxt
                  have h9 := hV.st x (by rw [hxt]; exact List.mem_cons_self)
                  omega
                have hlx : (x :: t).length = t.length + 1 := rfl
                have hlx2 : (stW 124 W).length = t.length + 1 := by rw [hxt]; rfl
                have hox := opn_o t hxo
                rw [hxt]
                refine Ev.run 5 (pc' := 202) (lv' := [(3, .int (nI (pkS g p))), (2, .int (nI 0)), (0, .ref 166), (1, .int (nI c))]) (st' := [.int (nI ((x :: t).length) - nI 1), .ref 166]) (h' := HN (PT (u2 (u2 (u2 g 180 c (b + l0.length)) 181 c tv) 181 c (b + (l ++ stL 124 W).length)) p dg b (l ++ stL 124 W) w ((x :: t).length) (opn (x :: t))) hl (RF rt)) rfl ?_
                refine Ev.topI (pk_sub (a := ((x :: t).length)) (b := 1) (by omega)) ?_
                refine Ev.run 1 (pc' := 205) (lv' := [(3, .int (nI (pkS g p))), (2, .int (nI 0)), (0, .ref 166), (1, .int (nI c))]) (st' := []) (h' := setI (HN (PT (u2 (u2 (u2 g 180 c (b + l0.length)) 181 c tv) 181 c (b + (l ++ stL 124 W).length)) p dg b (l ++ stL 124 W) w ((x :: t).length) (opn (x :: t))) hl (RF rt)) 166 29 (nI t.length)) rfl ?_
                refine Ev.hp (HN_set _ _ _ _ _ _) ?_
                refine Ev.hp (congrArg (fun z => HN z hl (RF rt)) (PT_29 _ _ _ _ _ _ _ _ _)) ?_
                refine Ev.run 5 (pc' := 212) (lv' := [(3, .int (nI (pkS g p))), (2, .int (nI 0)), (0, .ref 166), (1, .int (nI c))]) (st' := [.int (nI (opn (x :: t)) - nI 1), .ref 166]) (h' := HN (PT (u2 (u2 (u2 g 180 c (b + l0.length)) 181 c tv) 181 c (b + (l ++ stL 124 W).length)) p dg b (l ++ stL 124 W) w t.length (opn (x :: t))) hl (RF rt)) rfl ?_
                refine Ev.topI ((pk_sub (a := opn (x :: t)) (b := 1) (by omega)).trans (congrArg nI (show opn (x :: t) - 1 = opn t by omega))) ?_
                refine Ev.run 1 (pc' := 215) (lv' := [(3, .int (nI (pkS g p))), (2, .int (nI 0)), (0, .ref 166), (1, .int (nI c))]) (st' := []) (h' := setI (HN (PT (u2 (u2 (u2 g 180 c (b + l0.length)) 181 c tv) 181 c (b + (l ++ stL 124 W).length)) p dg b (l ++ stL 124 W) w t.length (opn (x :: t))) hl (RF rt)) 166 30 (nI (opn t))) rfl ?_
                refine Ev.hp (HN_set _ _ _ _ _ _) ?_
                refine Ev.hp (congrArg (fun z => HN z hl (RF rt)) (PT_30 _ _ _ _ _ _ _ _ _)) ?_
                refine Ev.run 5 (pc' := 222) (lv' := [(3, .int (nI (pkS g p))), (2, .int (nI 0)), (0, .ref 166), (1, .int (nI c))]) (st' := [.int (nI p + nI 1), .ref 166]) (h' := HN (PT (u2 (u2 (u2 g 180 c (b + l0.length)) 181 c tv) 181 c (b + (l ++ stL 124 W).length)) p dg b (l ++ stL 124 W) w t.length (opn t)) hl (RF rt)) rfl ?_
                refine Ev.topI (nI_add _ _) ?_
                refine Ev.run 1 (pc' := 225) (lv' := [(3, .int (nI (pkS g p))), (2, .int (nI 0)), (0, .ref 166), (1, .int (nI c))]) (st' := []) (h' := setI (HN (PT (u2 (u2 (u2 g 180 c (b + l0.length)) 181 c tv) 181 c (b + (l ++ stL 124 W).length)) p dg b (l ++ stL 124 W) w t.length (opn t)) hl (RF rt)) 166 18 (nI (p + 1))) rfl ?_
                refine Ev.hp (HN_set _ _ _ _ _ _) ?_
                refine Ev.hp (congrArg (fun z => HN z hl (RF rt)) (PT_18 _ _ _ _ _ _ _ _ _)) ?_
                refine Ev.run 1 (pc' := 226) (lv' := [(3, .int (nI (pkS g p))), (2, .int (nI 0)), (0, .ref 166), (1, .int (nI c))]) (st' := [.ref 166]) (h' := HN (PT (u2 (u2 (u2 g 180 c (b + l0.length)) 181 c tv) 181 c (b + (l ++ stL 124 W).length)) (p + 1) dg b (l ++ stL 124 W) w t.length (opn t)) hl (RF rt)) rfl ?_
                refine Ev.call (a := 147) (as := [.ref 166]) (rest := []) (lv0 := [(0, .ref 166)]) (Q1 := (fun z0 h' => z0 = none ∧ h' = HN (PT (u2 (u2 (u2 g 180 c (b + l0.length)) 181 c tv) 181 c (b + (l ++ stL 124 W).length)) (p + 1) dg b ((l ++ stL 124 W) ++ whL t) w ((whW t).length) (opn (whW t))) hl (RF rt))) rfl rfl (C_whole _ (u2 (u2 (u2 g 180 c (b + l0.length)) 181 c tv) 181 c (b + (l ++ stL 124 W).length)) _ _ (p + 1) dg b w t (l ++ stL 124 W) hWx.tl (by first | omega | (simp only [List.length_append, List.length_cons, List.length_nil]; omega)) (by omega) ⟨rfl, rfl⟩) (fun r h' hr => ?_)
                obtain ⟨rfl, rfl⟩ := hr
                refine Ev.run 1 (pc' := 22) (lv' := [(3, .int (nI (pkS g p))), (2, .int (nI 0)), (0, .ref 166), (1, .int (nI c))]) (st' := []) (h' := HN (PT (u2 (u2 (u2 g 180 c (b + l0.length)) 181 c tv) 181 c (b + (l ++ stL 124 W).length)) (p + 1) dg b ((l ++ stL 124 W) ++ whL t) w ((whW t).length) (opn (whW t))) hl (RF rt)) rfl ?_
                rw [eF, if_neg (by omega), hxt] at hE
                have hE2 : eF g f (p + 1) ((l ++ stL 124 W) ++ whL t) (whW t) false = R := by rw [← hE]; exact (if_pos hc190).symm
                have hwl := wh_len t
                rw [u2_u2]
                exact Ev.wk (Ext.cons rfl rfl (Ext.cons rfl rfl (Ext.cons rfl rfl (Ext.nil rfl)))) (ih (p + 1) ((l ++ stL 124 W) ++ whL t) (whW t) w false dg _ (by omega) (by omega) (by rw [List.length_append, List.length_append]; omega) hWx.tl.wh (WV.wh (fun y hy => hV.st y (by rw [hxt]; exact List.mem_cons_of_mem _ hy))) hE2)
              · have hc190 : ¬ ((pkS g p) = 41) := fun z => hc190 ((nI_eqU (by omega) (by omega)).mpr z)
                refine Ev.run 1 (pc' := 194) (lv' := [(3, .int (nI (pkS g p))), (2, .int (nI 0)), (0, .ref 166), (1, .int (nI c))]) (st' := [.int (nI 0)]) (h' := HN (PT (u2 (u2 (u2 g 180 c (b + l0.length)) 181 c tv) 181 c (b + (l ++ stL 124 W).length)) p dg b (l ++ stL 124 W) w ((stW 124 W).length) (opn (stW 124 W))) hl (RF rt)) rfl ?_
                refine Ev.ret (v := some (.int (nI 0))) rfl ?_
                obtain ⟨x, t, hxt⟩ : ∃ x t, stW 124 W = x :: t := by
                  cases e : stW 124 W with
                  | nil => rw [e] at hc182; exact absurd rfl hc182
                  | cons x t => exact ⟨x, t, rfl⟩
                rw [eF, if_neg (by omega), hxt] at hE
                have hE2 : (false, p, l ++ stL 124 W) = R := by rw [← hE]; exact (if_neg hc190).symm
                rw [u2_u2]
                exact hq.2 _ _ _ _ _ _ _ hE2.symm (by rw [List.length_append]; omega) (by omega)
  refine Ev.hp (congrArg (fun z => HN (PT z p dg b l0 w 0 0) hl (RF rt)) (u2_sm (u2 g 180 c (b + l0.length)) 181 c).symm) ?_
  exact key 101 p l0 [] w true dg _ (by omega) hp (by show l0.length + 0 ≤ p; omega) ⟨fun k hk => absurd hk (Nat.not_lt_zero _), fun x hx => by cases hx⟩ (fun x hx => by cases hx) hR
