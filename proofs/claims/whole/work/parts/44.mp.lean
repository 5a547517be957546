/-! the reference: the image, items that come elsewhere -/
theorem u2_cpR {A : Nat → Nat → Nat} {c c2 lo n j x : Nat} {f : Nat → Nat} (h : c2 ≠ c) : u2 (cpR A c lo n f) c2 j x = cpR (u2 A c2 j x) c lo n f := by
  funext a b
  unfold u2 cpR
  by_cases e : a = c2
  · subst e; simp [h]
  · by_cases e2 : a = c
    · subst e2; simp [e]
    · simp [e, e2]
theorem cpR_s0 (A : Nat → Nat → Nat) (a n : Nat) (f : Nat → Nat) : u2 (cpR A a 0 n f) a n (f n) = cpR A a 0 (n + 1) f := by
  have h := cpR_s A a 0 n f
  rw [Nat.zero_add] at h
  exact h
theorem im3 (A : Nat → Nat → Nat) (a b c n : Nat) (f k l : Nat → Nat) (h1 : a ≠ b) (h2 : a ≠ c) (h3 : b ≠ c) : u2 (u2 (u2 (cpR (cpR (cpR A a 0 n f) b 0 n k) c 0 n l) a n (f n)) b n (k n)) c n (l n) = cpR (cpR (cpR A a 0 (n + 1) f) b 0 (n + 1) k) c 0 (n + 1) l := by
  rw [u2_cpR h2, u2_cpR h1, cpR_s0, u2_cpR h3, cpR_s0, cpR_s0]
def imG (g : Nat → Nat → Nat) : Nat → Nat → Nat := cpR (cpR (cpR (cpR (cpR (cpR (cpR (cpR (cpR (cpR (cpR (cpR (u2 (u2 (u2 (u2 (u2 (u2 (u2 (u2 (u2 g 166 50 1) 166 51 (g 166 16)) 166 52 (g 166 0)) 166 53 (g 166 6)) 166 54 (g 166 7)) 166 55 (g 166 8)) 166 56 (g 166 9)) 166 57 (g 166 44)) 166 58 (g 166 48)) 193 0 72 (g 167)) 194 0 12 (g 168)) 195 0 12 (g 169)) 200 0 12 (g 175)) 196 0 5 (g 171)) 197 0 5 (g 172)) 198 0 5 (g 173)) 199 0 20 (g 174)) 201 0 6 (g 189)) 202 0 6 (g 190)) 203 0 6 (g 191)) 204 0 8 (g 192)
def unG (g : Nat → Nat → Nat) : Nat → Nat → Nat := cpR (cpR (cpR (cpR (cpR (cpR (cpR (cpR (cpR (cpR (cpR (cpR (u2 (u2 (u2 (u2 (u2 (u2 (u2 (u2 g 166 16 (g 166 51)) 166 0 (g 166 52)) 166 6 (g 166 53)) 166 7 (g 166 54)) 166 8 (g 166 55)) 166 9 (g 166 56)) 166 44 (g 166 57)) 166 48 (g 166 58)) 167 0 72 (g 193)) 168 0 12 (g 194)) 169 0 12 (g 195)) 175 0 12 (g 200)) 171 0 5 (g 196)) 172 0 5 (g 197)) 173 0 5 (g 198)) 174 0 20 (g 199)) 189 0 6 (g 201)) 190 0 6 (g 202)) 191 0 6 (g 203)) 192 0 8 (g 204)
theorem C_image {L : Nat} {xs : Nat → Int32} (d : Nat) (g : Nat → Nat → Nat) (hl : Nat → Nat → Int64) (rt : Nat × Nat × Nat × Nat) (hI : MI g)  {Q : Po} (hq : Q (some (.int (nI (g 166 6)))) (HN (imG g) hl (RF rt))) : Ev L xs d 221 0 [(0, .ref 166)] [] (HN g hl (RF rt)) Q := by
  have hW := hI.hW
  have hS := hI.hS
  have hPl := hI.hPl
  have hNx := hI.hNx
  have hLa := hI.hLa
  have hLo := hI.hLo
  have hTb := hI.hTb
  have hTh := hI.hTh
  have hFd := hI.hFd
  have hSn := hI.hSn
  have hSh := hI.hSh
  have hRan := hI.hRan
  have hLr := hI.hLr
  have hLt := hI.hLt
  have hgl := hI.hgl
  have hsz := hI.hsz
  have hcm := hI.hcm
  have hsl := hI.hsl
  have hkd := hI.hkd
  have hvv := hI.hvv
  have hli := hI.hli
  have hro := hI.hro
  have hrw := hI.hrw
  have htx := hI.htx
  have hsw := hI.hsw
  have hsx := hI.hsx
  have hsy := hI.hsy
  have hsh := hI.hsh
  have hle := hI.hle
  have hcl := hI.hcl
  have hwd := hI.hwd
  have hnu := hI.hnu
  have hwn := hI.hwn
  have hs1 := hI.hs1
  have hso := hI.hso
  refine Ev.run 3 (pc' := 5) (lv' := [(0, .ref 166)]) (st' := []) (h' := setI (HN g hl (RF rt)) 166 50 (nI 1)) rfl ?_
  refine Ev.hp (HN_set _ _ _ _ _ _) ?_
  refine Ev.run 4 (pc' := 13) (lv' := [(0, .ref 166)]) (st' := []) (h' := setI (HN (u2 g 166 50 1) hl (RF rt)) 166 51 (nI (g 166 16))) rfl ?_
  refine Ev.hp (HN_set _ _ _ _ _ _) ?_
  refine Ev.run 4 (pc' := 21) (lv' := [(0, .ref 166)]) (st' := []) (h' := setI (HN (u2 (u2 g 166 50 1) 166 51 (g 166 16)) hl (RF rt)) 166 52 (nI (g 166 0))) rfl ?_
  refine Ev.hp (HN_set _ _ _ _ _ _) ?_
  refine Ev.run 4 (pc' := 29) (lv' := [(0, .ref 166)]) (st' := []) (h' := setI (HN (u2 (u2 (u2 g 166 50 1) 166 51 (g 166 16)) 166 52 (g 166 0)) hl (RF rt)) 166 53 (nI (g 166 6))) rfl ?_
  refine Ev.hp (HN_set _ _ _ _ _ _) ?_
  refine Ev.run 4 (pc' := 37) (lv' := [(0, .ref 166)]) (st' := []) (h' := setI (HN (u2 (u2 (u2 (u2 g 166 50 1) 166 51 (g 166 16)) 166 52 (g 166 0)) 166 53 (g 166 6)) hl (RF rt)) 166 54 (nI (g 166 7))) rfl ?_
  refine Ev.hp (HN_set _ _ _ _ _ _) ?_
  refine Ev.run 4 (pc' := 45) (lv' := [(0, .ref 166)]) (st' := []) (h' := setI (HN (u2 (u2 (u2 (u2 (u2 g 166 50 1) 166 51 (g 166 16)) 166 52 (g 166 0)) 166 53 (g 166 6)) 166 54 (g 166 7)) hl (RF rt)) 166 55 (nI (g 166 8))) rfl ?_
  refine Ev.hp (HN_set _ _ _ _ _ _) ?_
  refine Ev.run 4 (pc' := 53) (lv' := [(0, .ref 166)]) (st' := []) (h' := setI (HN (u2 (u2 (u2 (u2 (u2 (u2 g 166 50 1) 166 51 (g 166 16)) 166 52 (g 166 0)) 166 53 (g 166 6)) 166 54 (g 166 7)) 166 55 (g 166 8)) hl (RF rt)) 166 56 (nI (g 166 9))) rfl ?_
  refine Ev.hp (HN_set _ _ _ _ _ _) ?_
  refine Ev.run 4 (pc' := 61) (lv' := [(0, .ref 166)]) (st' := []) (h' := setI (HN (u2 (u2 (u2 (u2 (u2 (u2 (u2 g 166 50 1) 166 51 (g 166 16)) 166 52 (g 166 0)) 166 53 (g 166 6)) 166 54 (g 166 7)) 166 55 (g 166 8)) 166 56 (g 166 9)) hl (RF rt)) 166 57 (nI (g 166 44))) rfl ?_
  refine Ev.hp (HN_set _ _ _ _ _ _) ?_
  refine Ev.run 4 (pc' := 69) (lv' := [(0, .ref 166)]) (st' := []) (h' := setI (HN (u2 (u2 (u2 (u2 (u2 (u2 (u2 (u2 g 166 50 1) 166 51 (g 166 16)) 166 52 (g 166 0)) 166 53 (g 166 6)) 166 54 (g 166 7)) 166 55 (g 166 8)) 166 56 (g 166 9)) 166 57 (g 166 44)) hl (RF rt)) 166 58 (nI (g 166 48))) rfl ?_
  refine Ev.hp (HN_set _ _ _ _ _ _) ?_
  refine Ev.run 2 (pc' := 71) (lv' := [(1, .int (nI 0)), (0, .ref 166)]) (st' := []) (h' := HN (u2 (u2 (u2 (u2 (u2 (u2 (u2 (u2 (u2 g 166 50 1) 166 51 (g 166 16)) 166 52 (g 166 0)) 166 53 (g 166 6)) 166 54 (g 166 7)) 166 55 (g 166 8)) 166 56 (g 166 9)) 166 57 (g 166 44)) 166 58 (g 166 48)) hl (RF rt)) rfl ?_
  refine Ev.hp (congrArg (fun z => HN z hl (RF rt)) (cpR_0 (u2 (u2 (u2 (u2 (u2 (u2 (u2 (u2 (u2 g 166 50 1) 166 51 (g 166 16)) 166 52 (g 166 0)) 166 53 (g 166 6)) 166 54 (g 166 7)) 166 55 (g 166 8)) 166 56 (g 166 9)) 166 57 (g 166 44)) 166 58 (g 166 48)) 193 0 (g 167)).symm) ?_
  refine for_ind 72 (fun n => Ev L xs d 221 71 [(1, .int (nI n)), (0, .ref 166)] [] (HN (cpR (u2 (u2 (u2 (u2 (u2 (u2 (u2 (u2 (u2 g 166 50 1) 166 51 (g 166 16)) 166 52 (g 166 0)) 166 53 (g 166 6)) 166 54 (g 166 7)) 166 55 (g 166 8)) 166 56 (g 166 9)) 166 57 (g 166 44)) 166 58 (g 166 48)) 193 0 n (g 167)) hl (RF rt)) Q) (fun n hn hnext => ?_) 0 (Nat.zero_le _)
  refine Ev.run 3 (pc' := (if nI 72 ≤ nI n then 95 else 77)) (lv' := [(1, .int (nI n)), (0, .ref 166)]) (st' := []) (h' := HN (cpR (u2 (u2 (u2 (u2 (u2 (u2 (u2 (u2 (u2 g 166 50 1) 166 51 (g 166 16)) 166 52 (g 166 0)) 166 53 (g 166 6)) 166 54 (g 166 7)) 166 55 (g 166 8)) 166 56 (g 166 9)) 166 57 (g 166 44)) 166 58 (g 166 48)) 193 0 n (g 167)) hl (RF rt)) rfl ?_
  refine Ev.ite (fun hc74 => ?_) (fun hc74 => ?_)
  · have hc74 : 72 ≤ n := (nI_leI (by omega) (by omega)).mp hc74
    refine Ev.run 2 (pc' := 97) (lv' := [(1, .int (nI 0)), (0, .ref 166)]) (st' := []) (h' := HN (cpR (u2 (u2 (u2 (u2 (u2 (u2 (u2 (u2 (u2 g 166 50 1) 166 51 (g 166 16)) 166 52 (g 166 0)) 166 53 (g 166 6)) 166 54 (g 166 7)) 166 55 (g 166 8)) 166 56 (g 166 9)) 166 57 (g 166 44)) 166 58 (g 166 48)) 193 0 n (g 167)) hl (RF rt)) rfl ?_
    obtain rfl : n = 72 := by omega
    refine Ev.hp (congrArg (fun z => HN z hl (RF rt)) (cpR_0 (cpR (u2 (u2 (u2 (u2 (u2 (u2 (u2 (u2 (u2 g 166 50 1) 166 51 (g 166 16)) 166 52 (g 166 0)) 166 53 (g 166 6)) 166 54 (g 166 7)) 166 55 (g 166 8)) 166 56 (g 166 9)) 166 57 (g 166 44)) 166 58 (g 166 48)) 193 0 72 (g 167)) 194 0 (g 168)).symm) ?_
    refine Ev.hp (congrArg (fun z => HN z hl (RF rt)) (cpR_0 (cpR (cpR (u2 (u2 (u2 (u2 (u2 (u2 (u2 (u2 (u2 g 166 50 1) 166 51 (g 166 16)) 166 52 (g 166 0)) 166 53 (g 166 6)) 166 54 (g 166 7)) 166 55 (g 166 8)) 166 56 (g 166 9)) 166 57 (g 166 44)) 166 58 (g 166 48)) 193 0 72 (g 167)) 194 0 0 (g 168)) 195 0 (g 169)).symm) ?_
    refine Ev.hp (congrArg (fun z => HN z hl (RF rt)) (cpR_0 (cpR (cpR (cpR (u2 (u2 (u2 (u2 (u2 (u2 (u2 (u2 (u2 g 166 50 1) 166 51 (g 166 16)) 166 52 (g 166 0)) 166 53 (g 166 6)) 166 54 (g 166 7)) 166 55 (g 166 8)) 166 56 (g 166 9)) 166 57 (g 166 44)) 166 58 (g 166 48)) 193 0 72 (g 167)) 194 0 0 (g 168)) 195 0 0 (g 169)) 200 0 (g 175)).symm) ?_
    refine for_ind 12 (fun n => Ev L xs d 221 97 [(1, .int (nI n)), (0, .ref 166)] [] (HN (cpR (cpR (cpR (cpR (u2 (u2 (u2 (u2 (u2 (u2 (u2 (u2 (u2 g 166 50 1) 166 51 (g 166 16)) 166 52 (g 166 0)) 166 53 (g 166 6)) 166 54 (g 166 7)) 166 55 (g 166 8)) 166 56 (g 166 9)) 166 57 (g 166 44)) 166 58 (g 166 48)) 193 0 72 (g 167)) 194 0 n (g 168)) 195 0 n (g 169)) 200 0 n (g 175)) hl (RF rt)) Q) (fun n hn hnext => ?_) 0 (Nat.zero_le _)
    refine Ev.run 3 (pc' := (if nI 12 ≤ nI n then 145 else 103)) (lv' := [(1, .int (nI n)), (0, .ref 166)]) (st' := []) (h' := HN (cpR (cpR (cpR (cpR (u2 (u2 (u2 (u2 (u2 (u2 (u2 (u2 (u2 g 166 50 1) 166 51 (g 166 16)) 166 52 (g 166 0)) 166 53 (g 166 6)) 166 54 (g 166 7)) 166 55 (g 166 8)) 166 56 (g 166 9)) 166 57 (g 166 44)) 166 58 (g 166 48)) 193 0 72 (g 167)) 194 0 n (g 168)) 195 0 n (g 169)) 200 0 n (g 175)) hl (RF rt)) rfl ?_
    refine Ev.ite (fun hc100 => ?_) (fun hc100 => ?_)
    · have hc100 : 12 ≤ n := (nI_leI (by omega) (by omega)).mp hc100
      refine Ev.run 2 (pc' := 147) (lv' := [(1, .int (nI 0)), (0, .ref 166)]) (st' := []) (h' := HN (cpR (cpR (cpR (cpR (u2 (u2 (u2 (u2 (u2 (u2 (u2 (u2 (u2 g 166 50 1) 166 51 (g 166 16)) 166 52 (g 166 0)) 166 53 (g 166 6)) 166 54 (g 166 7)) 166 55 (g 166 8)) 166 56 (g 166 9)) 166 57 (g 166 44)) 166 58 (g 166 48)) 193 0 72 (g 167)) 194 0 n (g 168)) 195 0 n (g 169)) 200 0 n (g 175)) hl (RF rt)) rfl ?_
      obtain rfl : n = 12 := by omega
      refine Ev.hp (congrArg (fun z => HN z hl (RF rt)) (cpR_0 (cpR (cpR (cpR (cpR (u2 (u2 (u2 (u2 (u2 (u2 (u2 (u2 (u2 g 166 50 1) 166 51 (g 166 16)) 166 52 (g 166 0)) 166 53 (g 166 6)) 166 54 (g 166 7)) 166 55 (g 166 8)) 166 56 (g 166 9)) 166 57 (g 166 44)) 166 58 (g 166 48)) 193 0 72 (g 167)) 194 0 12 (g 168)) 195 0 12 (g 169)) 200 0 12 (g 175)) 196 0 (g 171)).symm) ?_
      refine Ev.hp (congrArg (fun z => HN z hl (RF rt)) (cpR_0 (cpR (cpR (cpR (cpR (cpR (u2 (u2 (u2 (u2 (u2 (u2 (u2 (u2 (u2 g 166 50 1) 166 51 (g 166 16)) 166 52 (g 166 0)) 166 53 (g 166 6)) 166 54 (g 166 7)) 166 55 (g 166 8)) 166 56 (g 166 9)) 166 57 (g 166 44)) 166 58 (g 166 48)) 193 0 72 (g 167)) 194 0 12 (g 168)) 195 0 12 (g 169)) 200 0 12 (g 175)) 196 0 0 (g 171)) 197 0 (g 172)).symm) ?_
      refine Ev.hp (congrArg (fun z => HN z hl (RF rt)) (cpR_0 (cpR (cpR (cpR (cpR (cpR (cpR (u2 (u2 (u2 (u2 (u2 (u2 (u2 (u2 (u2 g 166 50 1) 166 51 (g 166 16)) 166 52 (g 166 0)) 166 53 (g 166 6)) 166 54 (g 166 7)) 166 55 (g 166 8)) 166 56 (g 166 9)) 166 57 (g 166 44)) 166 58 (g 166 48)) 193 0 72 (g 167)) 194 0 12 (g 168)) 195 0 12 (g 169)) 200 0 12 (g 175)) 196 0 0 (g 171)) 197 0 0 (g 172)) 198 0 (g 173)).symm) ?_
      refine for_ind 5 (fun n => Ev L xs d 221 147 [(1, .int (nI n)), (0, .ref 166)] [] (HN (cpR (cpR (cpR (cpR (cpR (cpR (cpR (u2 (u2 (u2 (u2 (u2 (u2 (u2 (u2 (u2 g 166 50 1) 166 51 (g 166 16)) 166 52 (g 166 0)) 166 53 (g 166 6)) 166 54 (g 166 7)) 166 55 (g 166 8)) 166 56 (g 166 9)) 166 57 (g 166 44)) 166 58 (g 166 48)) 193 0 72 (g 167)) 194 0 12 (g 168)) 195 0 12 (g 169)) 200 0 12 (g 175)) 196 0 n (g 171)) 197 0 n (g 172)) 198 0 n (g 173)) hl (RF rt)) Q) (fun n hn hnext => ?_) 0 (Nat.zero_le _)
      refine Ev.run 3 (pc' := (if nI 5 ≤ nI n then 194 else 152)) (lv' := [(1, .int (nI n)), (0, .ref 166)]) (st' := []) (h' := HN (cpR (cpR (cpR (cpR (cpR (cpR (cpR (u2 (u2 (u2 (u2 (u2 (u2 (u2 (u2 (u2 g 166 50 1) 166 51 (g 166 16)) 166 52 (g 166 0)) 166 53 (g 166 6)) 166 54 (g 166 7)) 166 55 (g 166 8)) 166 56 (g 166 9)) 166 57 (g 166 44)) 166 58 (g 166 48)) 193 0 72 (g 167)) 194 0 12 (g 168)) 195 0 12 (g 169)) 200 0 12 (g 175)) 196 0 n (g 171)) 197 0 n (g 172)) 198 0 n (g 173)) hl (RF rt)) rfl ?_
      refine Ev.ite (fun hc149 => ?_) (fun hc149 => ?_)
      · have hc149 : 5 ≤ n := (nI_leI (by omega) (by omega)).mp hc149
        refine Ev.run 2 (pc' := 196) (lv' := [(1, .int (nI 0)), (0, .ref 166)]) (st' := []) (h' := HN (cpR (cpR (cpR (cpR (cpR (cpR (cpR (u2 (u2 (u2 (u2 (u2 (u2 (u2 (u2 (u2 g 166 50 1) 166 51 (g 166 16)) 166 52 (g 166 0)) 166 53 (g 166 6)) 166 54 (g 166 7)) 166 55 (g 166 8)) 166 56 (g 166 9)) 166 57 (g 166 44)) 166 58 (g 166 48)) 193 0 72 (g 167)) 194 0 12 (g 168)) 195 0 12 (g 169)) 200 0 12 (g 175)) 196 0 n (g 171)) 197 0 n (g 172)) 198 0 n (g 173)) hl (RF rt)) rfl ?_
        obtain rfl : n = 5 := by omega
        refine Ev.hp (congrArg (fun z => HN z hl (RF rt)) (cpR_0 (cpR (cpR (cpR (cpR (cpR (cpR (cpR (u2 (u2 (u2 (u2 (u2 (u2 (u2 (u2 (u2 g 166 50 1) 166 51 (g 166 16)) 166 52 (g 166 0)) 166 53 (g 166 6)) 166 54 (g 166 7)) 166 55 (g 166 8)) 166 56 (g 166 9)) 166 57 (g 166 44)) 166 58 (g 166 48)) 193 0 72 (g 167)) 194 0 12 (g 168)) 195 0 12 (g 169)) 200 0 12 (g 175)) 196 0 5 (g 171)) 197 0 5 (g 172)) 198 0 5 (g 173)) 199 0 (g 174)).symm) ?_
        refine for_ind 20 (fun n => Ev L xs d 221 196 [(1, .int (nI n)), (0, .ref 166)] [] (HN (cpR (cpR (cpR (cpR (cpR (cpR (cpR (cpR (u2 (u2 (u2 (u2 (u2 (u2 (u2 (u2 (u2 g 166 50 1) 166 51 (g 166 16)) 166 52 (g 166 0)) 166 53 (g 166 6)) 166 54 (g 166 7)) 166 55 (g 166 8)) 166 56 (g 166 9)) 166 57 (g 166 44)) 166 58 (g 166 48)) 193 0 72 (g 167)) 194 0 12 (g 168)) 195 0 12 (g 169)) 200 0 12 (g 175)) 196 0 5 (g 171)) 197 0 5 (g 172)) 198 0 5 (g 173)) 199 0 n (g 174)) hl (RF rt)) Q) (fun n hn hnext => ?_) 0 (Nat.zero_le _)
        refine Ev.run 3 (pc' := (if nI 20 ≤ nI n then 220 else 202)) (lv' := [(1, .int (nI n)), (0, .ref 166)]) (st' := []) (h' := HN (cpR (cpR (cpR (cpR (cpR (cpR (cpR (cpR (u2 (u2 (u2 (u2 (u2 (u2 (u2 (u2 (u2 g 166 50 1) 166 51 (g 166 16)) 166 52 (g 166 0)) 166 53 (g 166 6)) 166 54 (g 166 7)) 166 55 (g 166 8)) 166 56 (g 166 9)) 166 57 (g 166 44)) 166 58 (g 166 48)) 193 0 72 (g 167)) 194 0 12 (g 168)) 195 0 12 (g 169)) 200 0 12 (g 175)) 196 0 5 (g 171)) 197 0 5 (g 172)) 198 0 5 (g 173)) 199 0 n (g 174)) hl (RF rt)) rfl ?_
        refine Ev.ite (fun hc199 => ?_) (fun hc199 => ?_)
        · have hc199 : 20 ≤ n := (nI_leI (by omega) (by omega)).mp hc199
          refine Ev.run 2 (pc' := 222) (lv' := [(1, .int (nI 0)), (0, .ref 166)]) (st' := []) (h' := HN (cpR (cpR (cpR (cpR (cpR (cpR (cpR (cpR (u2 (u2 (u2 (u2 (u2 (u2 (u2 (u2 (u2 g 166 50 1) 166 51 (g 166 16)) 166 52 (g 166 0)) 166 53 (g 166 6)) 166 54 (g 166 7)) 166 55 (g 166 8)) 166 56 (g 166 9)) 166 57 (g 166 44)) 166 58 (g 166 48)) 193 0 72 (g 167)) 194 0 12 (g 168)) 195 0 12 (g 169)) 200 0 12 (g 175)) 196 0 5 (g 171)) 197 0 5 (g 172)) 198 0 5 (g 173)) 199 0 n (g 174)) hl (RF rt)) rfl ?_
          obtain rfl : n = 20 := by omega
          refine Ev.hp (congrArg (fun z => HN z hl (RF rt)) (cpR_0 (cpR (cpR (cpR (cpR (cpR (cpR (cpR (cpR (u2 (u2 (u2 (u2 (u2 (u2 (u2 (u2 (u2 g 166 50 1) 166 51 (g 166 16)) 166 52 (g 166 0)) 166 53 (g 166 6)) 166 54 (g 166 7)) 166 55 (g 166 8)) 166 56 (g 166 9)) 166 57 (g 166 44)) 166 58 (g 166 48)) 193 0 72 (g 167)) 194 0 12 (g 168)) 195 0 12 (g 169)) 200 0 12 (g 175)) 196 0 5 (g 171)) 197 0 5 (g 172)) 198 0 5 (g 173)) 199 0 20 (g 174)) 201 0 (g 189)).symm) ?_
          refine Ev.hp (congrArg (fun z => HN z hl (RF rt)) (cpR_0 (cpR (cpR (cpR (cpR (cpR (cpR (cpR (cpR (cpR (u2 (u2 (u2 (u2 (u2 (u2 (u2 (u2 (u2 g 166 50 1) 166 51 (g 166 16)) 166 52 (g 166 0)) 166 53 (g 166 6)) 166 54 (g 166 7)) 166 55 (g 166 8)) 166 56 (g 166 9)) 166 57 (g 166 44)) 166 58 (g 166 48)) 193 0 72 (g 167)) 194 0 12 (g 168)) 195 0 12 (g 169)) 200 0 12 (g 175)) 196 0 5 (g 171)) 197 0 5 (g 172)) 198 0 5 (g 173)) 199 0 20 (g 174)) 201 0 0 (g 189)) 202 0 (g 190)).symm) ?_
          refine Ev.hp (congrArg (fun z => HN z hl (RF rt)) (cpR_0 (cpR (cpR (cpR (cpR (cpR (cpR (cpR (cpR (cpR (cpR (u2 (u2 (u2 (u2 (u2 (u2 (u2 (u2 (u2 g 166 50 1) 166 51 (g 166 16)) 166 52 (g 166 0)) 166 53 (g 166 6)) 166 54 (g 166 7)) 166 55 (g 166 8)) 166 56 (g 166 9)) 166 57 (g 166 44)) 166 58 (g 166 48)) 193 0 72 (g 167)) 194 0 12 (g 168)) 195 0 12 (g 169)) 200 0 12 (g 175)) 196 0 5 (g 171)) 197 0 5 (g 172)) 198 0 5 (g 173)) 199 0 20 (g 174)) 201 0 0 (g 189)) 202 0 0 (g 190)) 203 0 (g 191)).symm) ?_
          refine for_ind 6 (fun n => Ev L xs d 221 222 [(1, .int (nI n)), (0, .ref 166)] [] (HN (cpR (cpR (cpR (cpR (cpR (cpR (cpR (cpR (cpR (cpR (cpR (u2 (u2 (u2 (u2 (u2 (u2 (u2 (u2 (u2 g 166 50 1) 166 51 (g 166 16)) 166 52 (g 166 0)) 166 53 (g 166 6)) 166 54 (g 166 7)) 166 55 (g 166 8)) 166 56 (g 166 9)) 166 57 (g 166 44)) 166 58 (g 166 48)) 193 0 72 (g 167)) 194 0 12 (g 168)) 195 0 12 (g 169)) 200 0 12 (g 175)) 196 0 5 (g 171)) 197 0 5 (g 172)) 198 0 5 (g 173)) 199 0 20 (g 174)) 201 0 n (g 189)) 202 0 n (g 190)) 203 0 n (g 191)) hl (RF rt)) Q) (fun n hn hnext => ?_) 0 (Nat.zero_le _)
          refine Ev.run 3 (pc' := (if nI 6 ≤ nI n then 270 else 228)) (lv' := [(1, .int (nI n)), (0, .ref 166)]) (st' := []) (h' := HN (cpR (cpR (cpR (cpR (cpR (cpR (cpR (cpR (cpR (cpR (cpR (u2 (u2 (u2 (u2 (u2 (u2 (u2 (u2 (u2 g 166 50 1) 166 51 (g 166 16)) 166 52 (g 166 0)) 166 53 (g 166 6)) 166 54 (g 166 7)) 166 55 (g 166 8)) 166 56 (g 166 9)) 166 57 (g 166 44)) 166 58 (g 166 48)) 193 0 72 (g 167)) 194 0 12 (g 168)) 195 0 12 (g 169)) 200 0 12 (g 175)) 196 0 5 (g 171)) 197 0 5 (g 172)) 198 0 5 (g 173)) 199 0 20 (g 174)) 201 0 n (g 189)) 202 0 n (g 190)) 203 0 n (g 191)) hl (RF rt)) rfl ?_
          refine Ev.ite (fun hc225 => ?_) (fun hc225 => ?_)
          · have hc225 : 6 ≤ n := (nI_leI (by omega) (by omega)).mp hc225
            refine Ev.run 2 (pc' := 272) (lv' := [(1, .int (nI 0)), (0, .ref 166)]) (st' := []) (h' := HN (cpR (cpR (cpR (cpR (cpR (cpR (cpR (cpR (cpR (cpR (cpR (u2 (u2 (u2 (u2 (u2 (u2 (u2 (u2 (u2 g 166 50 1) 166 51 (g 166 16)) 166 52 (g 166 0)) 166 53 (g 166 6)) 166 54 (g 166 7)) 166 55 (g 166 8)) 166 56 (g 166 9)) 166 57 (g 166 44)) 166 58 (g 166 48)) 193 0 72 (g 167)) 194 0 12 (g 168)) 195 0 12 (g 169)) 200 0 12 (g 175)) 196 0 5 (g 171)) 197 0 5 (g 172)) 198 0 5 (g 173)) 199 0 20 (g 174)) 201 0 n (g 189)) 202 0 n (g 190)) 203 0 n (g 191)) hl (RF rt)) rfl ?_
            obtain rfl : n = 6 := by omega
            refine Ev.hp (congrArg (fun z => HN z hl (RF rt)) (cpR_0 (cpR (cpR (cpR (cpR (cpR (cpR (cpR (cpR (cpR (cpR (cpR (u2 (u2 (u2 (u2 (u2 (u2 (u2 (u2 (u2 g 166 50 1) 166 51 (g 166 16)) 166 52 (g 166 0)) 166 53 (g 166 6)) 166 54 (g 166 7)) 166 55 (g 166 8)) 166 56 (g 166 9)) 166 57 (g 166 44)) 166 58 (g 166 48)) 193 0 72 (g 167)) 194 0 12 (g 168)) 195 0 12 (g 169)) 200 0 12 (g 175)) 196 0 5 (g 171)) 197 0 5 (g 172)) 198 0 5 (g 173)) 199 0 20 (g 174)) 201 0 6 (g 189)) 202 0 6 (g 190)) 203 0 6 (g 191)) 204 0 (g 192)).symm) ?_
            refine for_ind 8 (fun n => Ev L xs d 221 272 [(1, .int (nI n)), (0, .ref 166)] [] (HN (cpR (cpR (cpR (cpR (cpR (cpR (cpR (cpR (cpR (cpR (cpR (cpR (u2 (u2 (u2 (u2 (u2 (u2 (u2 (u2 (u2 g 166 50 1) 166 51 (g 166 16)) 166 52 (g 166 0)) 166 53 (g 166 6)) 166 54 (g 166 7)) 166 55 (g 166 8)) 166 56 (g 166 9)) 166 57 (g 166 44)) 166 58 (g 166 48)) 193 0 72 (g 167)) 194 0 12 (g 168)) 195 0 12 (g 169)) 200 0 12 (g 175)) 196 0 5 (g 171)) 197 0 5 (g 172)) 198 0 5 (g 173)) 199 0 20 (g 174)) 201 0 6 (g 189)) 202 0 6 (g 190)) 203 0 6 (g 191)) 204 0 n (g 192)) hl (RF rt)) Q) (fun n hn hnext => ?_) 0 (Nat.zero_le _)
            refine Ev.run 3 (pc' := (if nI 8 ≤ nI n then 296 else 278)) (lv' := [(1, .int (nI n)), (0, .ref 166)]) (st' := []) (h' := HN (cpR (cpR (cpR (cpR (cpR (cpR (cpR (cpR (cpR (cpR (cpR (cpR (u2 (u2 (u2 (u2 (u2 (u2 (u2 (u2 (u2 g 166 50 1) 166 51 (g 166 16)) 166 52 (g 166 0)) 166 53 (g 166 6)) 166 54 (g 166 7)) 166 55 (g 166 8)) 166 56 (g 166 9)) 166 57 (g 166 44)) 166 58 (g 166 48)) 193 0 72 (g 167)) 194 0 12 (g 168)) 195 0 12 (g 169)) 200 0 12 (g 175)) 196 0 5 (g 171)) 197 0 5 (g 172)) 198 0 5 (g 173)) 199 0 20 (g 174)) 201 0 6 (g 189)) 202 0 6 (g 190)) 203 0 6 (g 191)) 204 0 n (g 192)) hl (RF rt)) rfl ?_
            refine Ev.ite (fun hc275 => ?_) (fun hc275 => ?_)
            · have hc275 : 8 ≤ n := (nI_leI (by omega) (by omega)).mp hc275
              refine Ev.run 2 (pc' := 300) (lv' := [(1, .int (nI n)), (0, .ref 166)]) (st' := [.int (nI (g 166 6))]) (h' := HN (cpR (cpR (cpR (cpR (cpR (cpR (cpR (cpR (cpR (cpR (cpR (cpR (u2 (u2 (u2 (u2 (u2 (u2 (u2 (u2 (u2 g 166 50 1) 166 51 (g 166 16)) 166 52 (g 166 0)) 166 53 (g 166 6)) 166 54 (g 166 7)) 166 55 (g 166 8)) 166 56 (g 166 9)) 166 57 (g 166 44)) 166 58 (g 166 48)) 193 0 72 (g 167)) 194 0 12 (g 168)) 195 0 12 (g 169)) 200 0 12 (g 175)) 196 0 5 (g 171)) 197 0 5 (g 172)) 198 0 5 (g 173)) 199 0 20 (g 174)) 201 0 6 (g 189)) 202 0 6 (g 190)) 203 0 6 (g 191)) 204 0 n (g 192)) hl (RF rt)) rfl ?_
              refine Ev.ret (v := some (.int (nI (g 166 6)))) rfl ?_
              obtain rfl : n = 8 := by omega
              exact hq
            · have hc275 : ¬ (8 ≤ n) := fun z => hc275 ((nI_leI (by omega) (by omega)).mpr z)
              refine Ev.run 6 (pc' := 288) (lv' := [(1, .int (nI n)), (0, .ref 166)]) (st' := [.int (nI n), .ref 192, .int (nI n), .ref 204]) (h' := HN (cpR (cpR (cpR (cpR (cpR (cpR (cpR (cpR (cpR (cpR (cpR (cpR (u2 (u2 (u2 (u2 (u2 (u2 (u2 (u2 (u2 g 166 50 1) 166 51 (g 166 16)) 166 52 (g 166 0)) 166 53 (g 166 6)) 166 54 (g 166 7)) 166 55 (g 166 8)) 166 56 (g 166 9)) 166 57 (g 166 44)) 166 58 (g 166 48)) 193 0 72 (g 167)) 194 0 12 (g 168)) 195 0 12 (g 169)) 200 0 12 (g 175)) 196 0 5 (g 171)) 197 0 5 (g 172)) 198 0 5 (g 173)) 199 0 20 (g 174)) 201 0 6 (g 189)) 202 0 6 (g 190)) 203 0 6 (g 191)) 204 0 n (g 192)) hl (RF rt)) rfl ?_
              refine Ev_iald rfl rfl (show n < 8 by omega) (Nat.le_of_ble_eq_true rfl) ?_
              have hr0 := hsh n (by omega)
              refine Ev_iast rfl rfl (show n < 8 by omega) (Nat.le_of_ble_eq_true rfl) ?_
              refine Ev.run 1 (pc' := 293) (lv' := [(1, .int (nI n + 1)), (0, .ref 166)]) (st' := []) (h' := HN (u2 (cpR (cpR (cpR (cpR (cpR (cpR (cpR (cpR (cpR (cpR (cpR (cpR (u2 (u2 (u2 (u2 (u2 (u2 (u2 (u2 (u2 g 166 50 1) 166 51 (g 166 16)) 166 52 (g 166 0)) 166 53 (g 166 6)) 166 54 (g 166 7)) 166 55 (g 166 8)) 166 56 (g 166 9)) 166 57 (g 166 44)) 166 58 (g 166 48)) 193 0 72 (g 167)) 194 0 12 (g 168)) 195 0 12 (g 169)) 200 0 12 (g 175)) 196 0 5 (g 171)) 197 0 5 (g 172)) 198 0 5 (g 173)) 199 0 20 (g 174)) 201 0 6 (g 189)) 202 0 6 (g 190)) 203 0 6 (g 191)) 204 0 n (g 192)) 204 n (g 192 n)) hl (RF rt)) rfl ?_
              refine Ev.lvE (congrArg (fun z => (1, Value.int z) :: [(0, .ref 166)]) (nI_1 _)) ?_
              refine Ev.run 1 (pc' := 272) (lv' := [(1, .int (nI (n + 1))), (0, .ref 166)]) (st' := []) (h' := HN (u2 (cpR (cpR (cpR (cpR (cpR (cpR (cpR (cpR (cpR (cpR (cpR (cpR (u2 (u2 (u2 (u2 (u2 (u2 (u2 (u2 (u2 g 166 50 1) 166 51 (g 166 16)) 166 52 (g 166 0)) 166 53 (g 166 6)) 166 54 (g 166 7)) 166 55 (g 166 8)) 166 56 (g 166 9)) 166 57 (g 166 44)) 166 58 (g 166 48)) 193 0 72 (g 167)) 194 0 12 (g 168)) 195 0 12 (g 169)) 200 0 12 (g 175)) 196 0 5 (g 171)) 197 0 5 (g 172)) 198 0 5 (g 173)) 199 0 20 (g 174)) 201 0 6 (g 189)) 202 0 6 (g 190)) 203 0 6 (g 191)) 204 0 n (g 192)) 204 n (g 192 n)) hl (RF rt)) rfl ?_
              have hx := hnext (by omega)
              rw [← cpR_s0] at hx
              exact hx
          · have hc225 : ¬ (6 ≤ n) := fun z => hc225 ((nI_leI (by omega) (by omega)).mpr z)
            refine Ev.run 6 (pc' := 238) (lv' := [(1, .int (nI n)), (0, .ref 166)]) (st' := [.int (nI n), .ref 189, .int (nI n), .ref 201]) (h' := HN (cpR (cpR (cpR (cpR (cpR (cpR (cpR (cpR (cpR (cpR (cpR (u2 (u2 (u2 (u2 (u2 (u2 (u2 (u2 (u2 g 166 50 1) 166 51 (g 166 16)) 166 52 (g 166 0)) 166 53 (g 166 6)) 166 54 (g 166 7)) 166 55 (g 166 8)) 166 56 (g 166 9)) 166 57 (g 166 44)) 166 58 (g 166 48)) 193 0 72 (g 167)) 194 0 12 (g 168)) 195 0 12 (g 169)) 200 0 12 (g 175)) 196 0 5 (g 171)) 197 0 5 (g 172)) 198 0 5 (g 173)) 199 0 20 (g 174)) 201 0 n (g 189)) 202 0 n (g 190)) 203 0 n (g 191)) hl (RF rt)) rfl ?_
            refine Ev_iald rfl rfl (show n < 6 by omega) (Nat.le_of_ble_eq_true rfl) ?_
            have hr1 := hsw n (by omega)
            refine Ev_iast rfl rfl (show n < 6 by omega) (Nat.le_of_ble_eq_true rfl) ?_
            refine Ev.run 6 (pc' := 250) (lv' := [(1, .int (nI n)), (0, .ref 166)]) (st' := [.int (nI n), .ref 190, .int (nI n), .ref 202]) (h' := HN (u2 (cpR (cpR (cpR (cpR (cpR (cpR (cpR (cpR (cpR (cpR (cpR (u2 (u2 (u2 (u2 (u2 (u2 (u2 (u2 (u2 g 166 50 1) 166 51 (g 166 16)) 166 52 (g 166 0)) 166 53 (g 166 6)) 166 54 (g 166 7)) 166 55 (g 166 8)) 166 56 (g 166 9)) 166 57 (g 166 44)) 166 58 (g 166 48)) 193 0 72 (g 167)) 194 0 12 (g 168)) 195 0 12 (g 169)) 200 0 12 (g 175)) 196 0 5 (g 171)) 197 0 5 (g 172)) 198 0 5 (g 173)) 199 0 20 (g 174)) 201 0 n (g 189)) 202 0 n (g 190)) 203 0 n (g 191)) 201 n (g 189 n)) hl (RF rt)) rfl ?_
            refine Ev_iald rfl rfl (show n < 6 by omega) (Nat.le_of_ble_eq_true rfl) ?_
            have hr2 := hsx n (by omega)
            refine Ev_iast rfl rfl (show n < 6 by omega) (Nat.le_of_ble_eq_true rfl) ?_
            refine Ev.run 6 (pc' := 262) (lv' := [(1, .int (nI n)), (0, .ref 166)]) (st' := [.int (nI n), .ref 191, .int (nI n), .ref 203]) (h' := HN (u2 (u2 (cpR (cpR (cpR (cpR (cpR (cpR (cpR (cpR (cpR (cpR (cpR (u2 (u2 (u2 (u2 (u2 (u2 (u2 (u2 (u2 g 166 50 1) 166 51 (g 166 16)) 166 52 (g 166 0)) 166 53 (g 166 6)) 166 54 (g 166 7)) 166 55 (g 166 8)) 166 56 (g 166 9)) 166 57 (g 166 44)) 166 58 (g 166 48)) 193 0 72 (g 167)) 194 0 12 (g 168)) 195 0 12 (g 169)) 200 0 12 (g 175)) 196 0 5 (g 171)) 197 0 5 (g 172)) 198 0 5 (g 173)) 199 0 20 (g 174)) 201 0 n (g 189)) 202 0 n (g 190)) 203 0 n (g 191)) 201 n (g 189 n)) 202 n (g 190 n)) hl (RF rt)) rfl ?_
            refine Ev_iald rfl rfl (show n < 6 by omega) (Nat.le_of_ble_eq_true rfl) ?_
            have hr3 := hsy n (by omega)
            refine Ev_iast rfl rfl (show n < 6 by omega) (Nat.le_of_ble_eq_true rfl) ?_
            refine Ev.run 1 (pc' := 267) (lv' := [(1, .int (nI n + 1)), (0, .ref 166)]) (st' := []) (h' := HN (u2 (u2 (u2 (cpR (cpR (cpR (cpR (cpR (cpR (cpR (cpR (cpR (cpR (cpR (u2 (u2 (u2 (u2 (u2 (u2 (u2 (u2 (u2 g 166 50 1) 166 51 (g 166 16)) 166 52 (g 166 0)) 166 53 (g 166 6)) 166 54 (g 166 7)) 166 55 (g 166 8)) 166 56 (g 166 9)) 166 57 (g 166 44)) 166 58 (g 166 48)) 193 0 72 (g 167)) 194 0 12 (g 168)) 195 0 12 (g 169)) 200 0 12 (g 175)) 196 0 5 (g 171)) 197 0 5 (g 172)) 198 0 5 (g 173)) 199 0 20 (g 174)) 201 0 n (g 189)) 202 0 n (g 190)) 203 0 n (g 191)) 201 n (g 189 n)) 202 n (g 190 n)) 203 n (g 191 n)) hl (RF rt)) rfl ?_
            refine Ev.lvE (congrArg (fun z => (1, Value.int z) :: [(0, .ref 166)]) (nI_1 _)) ?_
            refine Ev.run 1 (pc' := 222) (lv' := [(1, .int (nI (n + 1))), (0, .ref 166)]) (st' := []) (h' := HN (u2 (u2 (u2 (cpR (cpR (cpR (cpR (cpR (cpR (cpR (cpR (cpR (cpR (cpR (u2 (u2 (u2 (u2 (u2 (u2 (u2 (u2 (u2 g 166 50 1) 166 51 (g 166 16)) 166 52 (g 166 0)) 166 53 (g 166 6)) 166 54 (g 166 7)) 166 55 (g 166 8)) 166 56 (g 166 9)) 166 57 (g 166 44)) 166 58 (g 166 48)) 193 0 72 (g 167)) 194 0 12 (g 168)) 195 0 12 (g 169)) 200 0 12 (g 175)) 196 0 5 (g 171)) 197 0 5 (g 172)) 198 0 5 (g 173)) 199 0 20 (g 174)) 201 0 n (g 189)) 202 0 n (g 190)) 203 0 n (g 191)) 201 n (g 189 n)) 202 n (g 190 n)) 203 n (g 191 n)) hl (RF rt)) rfl ?_
            have hx := hnext (by omega)
            rw [← im3 _ 201 202 203 n (g 189) (g 190) (g 191) (by decide) (by decide) (by decide)] at hx
            exact hx
        · have hc199 : ¬ (20 ≤ n) := fun z => hc199 ((nI_leI (by omega) (by omega)).mpr z)
          refine Ev.run 6 (pc' := 212) (lv' := [(1, .int (nI n)), (0, .ref 166)]) (st' := [.int (nI n), .ref 174, .int (nI n), .ref 199]) (h' := HN (cpR (cpR (cpR (cpR (cpR (cpR (cpR (cpR (u2 (u2 (u2 (u2 (u2 (u2 (u2 (u2 (u2 g 166 50 1) 166 51 (g 166 16)) 166 52 (g 166 0)) 166 53 (g 166 6)) 166 54 (g 166 7)) 166 55 (g 166 8)) 166 56 (g 166 9)) 166 57 (g 166 44)) 166 58 (g 166 48)) 193 0 72 (g 167)) 194 0 12 (g 168)) 195 0 12 (g 169)) 200 0 12 (g 175)) 196 0 5 (g 171)) 197 0 5 (g 172)) 198 0 5 (g 173)) 199 0 n (g 174)) hl (RF rt)) rfl ?_
          refine Ev_iald rfl rfl (show n < 20 by omega) (Nat.le_of_ble_eq_true rfl) ?_
          have hr4 := hro n (by omega)
          refine Ev_iast rfl rfl (show n < 20 by omega) (Nat.le_of_ble_eq_true rfl) ?_
          refine Ev.run 1 (pc' := 217) (lv' := [(1, .int (nI n + 1)), (0, .ref 166)]) (st' := []) (h' := HN (u2 (cpR (cpR (cpR (cpR (cpR (cpR (cpR (cpR (u2 (u2 (u2 (u2 (u2 (u2 (u2 (u2 (u2 g 166 50 1) 166 51 (g 166 16)) 166 52 (g 166 0)) 166 53 (g 166 6)) 166 54 (g 166 7)) 166 55 (g 166 8)) 166 56 (g 166 9)) 166 57 (g 166 44)) 166 58 (g 166 48)) 193 0 72 (g 167)) 194 0 12 (g 168)) 195 0 12 (g 169)) 200 0 12 (g 175)) 196 0 5 (g 171)) 197 0 5 (g 172)) 198 0 5 (g 173)) 199 0 n (g 174)) 199 n (g 174 n)) hl (RF rt)) rfl ?_
          refine Ev.lvE (congrArg (fun z => (1, Value.int z) :: [(0, .ref 166)]) (nI_1 _)) ?_
          refine Ev.run 1 (pc' := 196) (lv' := [(1, .int (nI (n + 1))), (0, .ref 166)]) (st' := []) (h' := HN (u2 (cpR (cpR (cpR (cpR (cpR (cpR (cpR (cpR (u2 (u2 (u2 (u2 (u2 (u2 (u2 (u2 (u2 g 166 50 1) 166 51 (g 166 16)) 166 52 (g 166 0)) 166 53 (g 166 6)) 166 54 (g 166 7)) 166 55 (g 166 8)) 166 56 (g 166 9)) 166 57 (g 166 44)) 166 58 (g 166 48)) 193 0 72 (g 167)) 194 0 12 (g 168)) 195 0 12 (g 169)) 200 0 12 (g 175)) 196 0 5 (g 171)) 197 0 5 (g 172)) 198 0 5 (g 173)) 199 0 n (g 174)) 199 n (g 174 n)) hl (RF rt)) rfl ?_
          have hx := hnext (by omega)
          rw [← cpR_s0] at hx
          exact hx
      · have hc149 : ¬ (5 ≤ n) := fun z => hc149 ((nI_leI (by omega) (by omega)).mpr z)
        refine Ev.run 6 (pc' := 162) (lv' := [(1, .int (nI n)), (0, .ref 166)]) (st' := [.int (nI n), .ref 171, .int (nI n), .ref 196]) (h' := HN (cpR (cpR (cpR (cpR (cpR (cpR (cpR (u2 (u2 (u2 (u2 (u2 (u2 (u2 (u2 (u2 g 166 50 1) 166 51 (g 166 16)) 166 52 (g 166 0)) 166 53 (g 166 6)) 166 54 (g 166 7)) 166 55 (g 166 8)) 166 56 (g 166 9)) 166 57 (g 166 44)) 166 58 (g 166 48)) 193 0 72 (g 167)) 194 0 12 (g 168)) 195 0 12 (g 169)) 200 0 12 (g 175)) 196 0 n (g 171)) 197 0 n (g 172)) 198 0 n (g 173)) hl (RF rt)) rfl ?_
        refine Ev_iald rfl rfl (show n < 5 by omega) (Nat.le_of_ble_eq_true rfl) ?_
        have hr5 := hkd n (by omega)
        refine Ev_iast rfl rfl (show n < 5 by omega) (Nat.le_of_ble_eq_true rfl) ?_
        refine Ev.run 6 (pc' := 174) (lv' := [(1, .int (nI n)), (0, .ref 166)]) (st' := [.int (nI n), .ref 172, .int (nI n), .ref 197]) (h' := HN (u2 (cpR (cpR (cpR (cpR (cpR (cpR (cpR (u2 (u2 (u2 (u2 (u2 (u2 (u2 (u2 (u2 g 166 50 1) 166 51 (g 166 16)) 166 52 (g 166 0)) 166 53 (g 166 6)) 166 54 (g 166 7)) 166 55 (g 166 8)) 166 56 (g 166 9)) 166 57 (g 166 44)) 166 58 (g 166 48)) 193 0 72 (g 167)) 194 0 12 (g 168)) 195 0 12 (g 169)) 200 0 12 (g 175)) 196 0 n (g 171)) 197 0 n (g 172)) 198 0 n (g 173)) 196 n (g 171 n)) hl (RF rt)) rfl ?_
        refine Ev_iald rfl rfl (show n < 5 by omega) (Nat.le_of_ble_eq_true rfl) ?_
        have hr6 := hvv n (by omega)
        refine Ev_iast rfl rfl (show n < 5 by omega) (Nat.le_of_ble_eq_true rfl) ?_
        refine Ev.run 6 (pc' := 186) (lv' := [(1, .int (nI n)), (0, .ref 166)]) (st' := [.int (nI n), .ref 173, .int (nI n), .ref 198]) (h' := HN (u2 (u2 (cpR (cpR (cpR (cpR (cpR (cpR (cpR (u2 (u2 (u2 (u2 (u2 (u2 (u2 (u2 (u2 g 166 50 1) 166 51 (g 166 16)) 166 52 (g 166 0)) 166 53 (g 166 6)) 166 54 (g 166 7)) 166 55 (g 166 8)) 166 56 (g 166 9)) 166 57 (g 166 44)) 166 58 (g 166 48)) 193 0 72 (g 167)) 194 0 12 (g 168)) 195 0 12 (g 169)) 200 0 12 (g 175)) 196 0 n (g 171)) 197 0 n (g 172)) 198 0 n (g 173)) 196 n (g 171 n)) 197 n (g 172 n)) hl (RF rt)) rfl ?_
        refine Ev_iald rfl rfl (show n < 5 by omega) (Nat.le_of_ble_eq_true rfl) ?_
        have hr7 := hli n (by omega)
        refine Ev_iast rfl rfl (show n < 5 by omega) (Nat.le_of_ble_eq_true rfl) ?_
        refine Ev.run 1 (pc' := 191) (lv' := [(1, .int (nI n + 1)), (0, .ref 166)]) (st' := []) (h' := HN (u2 (u2 (u2 (cpR (cpR (cpR (cpR (cpR (cpR (cpR (u2 (u2 (u2 (u2 (u2 (u2 (u2 (u2 (u2 g 166 50 1) 166 51 (g 166 16)) 166 52 (g 166 0)) 166 53 (g 166 6)) 166 54 (g 166 7)) 166 55 (g 166 8)) 166 56 (g 166 9)) 166 57 (g 166 44)) 166 58 (g 166 48)) 193 0 72 (g 167)) 194 0 12 (g 168)) 195 0 12 (g 169)) 200 0 12 (g 175)) 196 0 n (g 171)) 197 0 n (g 172)) 198 0 n (g 173)) 196 n (g 171 n)) 197 n (g 172 n)) 198 n (g 173 n)) hl (RF rt)) rfl ?_
        refine Ev.lvE (congrArg (fun z => (1, Value.int z) :: [(0, .ref 166)]) (nI_1 _)) ?_
        refine Ev.run 1 (pc' := 147) (lv' := [(1, .int (nI (n + 1))), (0, .ref 166)]) (st' := []) (h' := HN (u2 (u2 (u2 (cpR (cpR (cpR (cpR (cpR (cpR (cpR (u2 (u2 (u2 (u2 (u2 (u2 (u2 (u2 (u2 g 166 50 1) 166 51 (g 166 16)) 166 52 (g 166 0)) 166 53 (g 166 6)) 166 54 (g 166 7)) 166 55 (g 166 8)) 166 56 (g 166 9)) 166 57 (g 166 44)) 166 58 (g 166 48)) 193 0 72 (g 167)) 194 0 12 (g 168)) 195 0 12 (g 169)) 200 0 12 (g 175)) 196 0 n (g 171)) 197 0 n (g 172)) 198 0 n (g 173)) 196 n (g 171 n)) 197 n (g 172 n)) 198 n (g 173 n)) hl (RF rt)) rfl ?_
        have hx := hnext (by omega)
        rw [← im3 _ 196 197 198 n (g 171) (g 172) (g 173) (by decide) (by decide) (by decide)] at hx
        exact hx
    · have hc100 : ¬ (12 ≤ n) := fun z => hc100 ((nI_leI (by omega) (by omega)).mpr z)
      refine Ev.run 6 (pc' := 113) (lv' := [(1, .int (nI n)), (0, .ref 166)]) (st' := [.int (nI n), .ref 168, .int (nI n), .ref 194]) (h' := HN (cpR (cpR (cpR (cpR (u2 (u2 (u2 (u2 (u2 (u2 (u2 (u2 (u2 g 166 50 1) 166 51 (g 166 16)) 166 52 (g 166 0)) 166 53 (g 166 6)) 166 54 (g 166 7)) 166 55 (g 166 8)) 166 56 (g 166 9)) 166 57 (g 166 44)) 166 58 (g 166 48)) 193 0 72 (g 167)) 194 0 n (g 168)) 195 0 n (g 169)) 200 0 n (g 175)) hl (RF rt)) rfl ?_
      refine Ev_iald rfl rfl (show n < 12 by omega) (Nat.le_of_ble_eq_true rfl) ?_
      have hr8 := hsz n (by omega)
      refine Ev_iast rfl rfl (show n < 12 by omega) (Nat.le_of_ble_eq_true rfl) ?_
      refine Ev.run 6 (pc' := 125) (lv' := [(1, .int (nI n)), (0, .ref 166)]) (st' := [.int (nI n), .ref 169, .int (nI n), .ref 195]) (h' := HN (u2 (cpR (cpR (cpR (cpR (u2 (u2 (u2 (u2 (u2 (u2 (u2 (u2 (u2 g 166 50 1) 166 51 (g 166 16)) 166 52 (g 166 0)) 166 53 (g 166 6)) 166 54 (g 166 7)) 166 55 (g 166 8)) 166 56 (g 166 9)) 166 57 (g 166 44)) 166 58 (g 166 48)) 193 0 72 (g 167)) 194 0 n (g 168)) 195 0 n (g 169)) 200 0 n (g 175)) 194 n (g 168 n)) hl (RF rt)) rfl ?_
      refine Ev_iald rfl rfl (show n < 12 by omega) (Nat.le_of_ble_eq_true rfl) ?_
      have hr9 := hcm n (by omega)
      refine Ev_iast rfl rfl (show n < 12 by omega) (Nat.le_of_ble_eq_true rfl) ?_
      refine Ev.run 6 (pc' := 137) (lv' := [(1, .int (nI n)), (0, .ref 166)]) (st' := [.int (nI n), .ref 175, .int (nI n), .ref 200]) (h' := HN (u2 (u2 (cpR (cpR (cpR (cpR (u2 (u2 (u2 (u2 (u2 (u2 (u2 (u2 (u2 g 166 50 1) 166 51 (g 166 16)) 166 52 (g 166 0)) 166 53 (g 166 6)) 166 54 (g 166 7)) 166 55 (g 166 8)) 166 56 (g 166 9)) 166 57 (g 166 44)) 166 58 (g 166 48)) 193 0 72 (g 167)) 194 0 n (g 168)) 195 0 n (g 169)) 200 0 n (g 175)) 194 n (g 168 n)) 195 n (g 169 n)) hl (RF rt)) rfl ?_
      refine Ev_iald rfl rfl (show n < 12 by omega) (Nat.le_of_ble_eq_true rfl) ?_
      have hr10 := hrw n (by omega)
      refine Ev_iast rfl rfl (show n < 12 by omega) (Nat.le_of_ble_eq_true rfl) ?_
      refine Ev.run 1 (pc' := 142) (lv' := [(1, .int (nI n + 1)), (0, .ref 166)]) (st' := []) (h' := HN (u2 (u2 (u2 (cpR (cpR (cpR (cpR (u2 (u2 (u2 (u2 (u2 (u2 (u2 (u2 (u2 g 166 50 1) 166 51 (g 166 16)) 166 52 (g 166 0)) 166 53 (g 166 6)) 166 54 (g 166 7)) 166 55 (g 166 8)) 166 56 (g 166 9)) 166 57 (g 166 44)) 166 58 (g 166 48)) 193 0 72 (g 167)) 194 0 n (g 168)) 195 0 n (g 169)) 200 0 n (g 175)) 194 n (g 168 n)) 195 n (g 169 n)) 200 n (g 175 n)) hl (RF rt)) rfl ?_
      refine Ev.lvE (congrArg (fun z => (1, Value.int z) :: [(0, .ref 166)]) (nI_1 _)) ?_
      refine Ev.run 1 (pc' := 97) (lv' := [(1, .int (nI (n + 1))), (0, .ref 166)]) (st' := []) (h' := HN (u2 (u2 (u2 (cpR (cpR (cpR (cpR (u2 (u2 (u2 (u2 (u2 (u2 (u2 (u2 (u2 g 166 50 1) 166 51 (g 166 16)) 166 52 (g 166 0)) 166 53 (g 166 6)) 166 54 (g 166 7)) 166 55 (g 166 8)) 166 56 (g 166 9)) 166 57 (g 166 44)) 166 58 (g 166 48)) 193 0 72 (g 167)) 194 0 n (g 168)) 195 0 n (g 169)) 200 0 n (g 175)) 194 n (g 168 n)) 195 n (g 169 n)) 200 n (g 175 n)) hl (RF rt)) rfl ?_
      have hx := hnext (by omega)
      rw [← im3 _ 194 195 200 n (g 168) (g 169) (g 175) (by decide) (by decide) (by decide)] at hx
      exact hx
  · have hc74 : ¬ (72 ≤ n) := fun z => hc74 ((nI_leI (by omega) (by omega)).mpr z)
    refine Ev.run 6 (pc' := 87) (lv' := [(1, .int (nI n)), (0, .ref 166)]) (st' := [.int (nI n), .ref 167, .int (nI n), .ref 193]) (h' := HN (cpR (u2 (u2 (u2 (u2 (u2 (u2 (u2 (u2 (u2 g 166 50 1) 166 51 (g 166 16)) 166 52 (g 166 0)) 166 53 (g 166 6)) 166 54 (g 166 7)) 166 55 (g 166 8)) 166 56 (g 166 9)) 166 57 (g 166 44)) 166 58 (g 166 48)) 193 0 n (g 167)) hl (RF rt)) rfl ?_
    refine Ev_iald rfl rfl (show n < 72 by omega) (Nat.le_of_ble_eq_true rfl) ?_
    have hr11 := hgl n (by omega)
    refine Ev_iast rfl rfl (show n < 72 by omega) (Nat.le_of_ble_eq_true rfl) ?_
    refine Ev.run 1 (pc' := 92) (lv' := [(1, .int (nI n + 1)), (0, .ref 166)]) (st' := []) (h' := HN (u2 (cpR (u2 (u2 (u2 (u2 (u2 (u2 (u2 (u2 (u2 g 166 50 1) 166 51 (g 166 16)) 166 52 (g 166 0)) 166 53 (g 166 6)) 166 54 (g 166 7)) 166 55 (g 166 8)) 166 56 (g 166 9)) 166 57 (g 166 44)) 166 58 (g 166 48)) 193 0 n (g 167)) 193 n (g 167 n)) hl (RF rt)) rfl ?_
    refine Ev.lvE (congrArg (fun z => (1, Value.int z) :: [(0, .ref 166)]) (nI_1 _)) ?_
    refine Ev.run 1 (pc' := 71) (lv' := [(1, .int (nI (n + 1))), (0, .ref 166)]) (st' := []) (h' := HN (u2 (cpR (u2 (u2 (u2 (u2 (u2 (u2 (u2 (u2 (u2 g 166 50 1) 166 51 (g 166 16)) 166 52 (g 166 0)) 166 53 (g 166 6)) 166 54 (g 166 7)) 166 55 (g 166 8)) 166 56 (g 166 9)) 166 57 (g 166 44)) 166 58 (g 166 48)) 193 0 n (g 167)) 193 n (g 167 n)) hl (RF rt)) rfl ?_
    have hx := hnext (by omega)
    rw [← cpR_s0] at hx
    exact hx
theorem C_undo {L : Nat} {xs : Nat → Int32} (d : Nat) (g : Nat → Nat → Nat) (hl : Nat → Nat → Int64) (rt : Nat × Nat × Nat × Nat) (hI : MI g) (h50 : g 166 50 ≤ 1) {Q : Po} (hq : Q (some (.int (nI (if g 166 50 = 0 then 4294967293 else g 166 53)))) (HN (if g 166 50 = 0 then g else unG g) hl (RF rt))) : Ev L xs d 222 0 [(0, .ref 166)] [] (HN g hl (RF rt)) Q := by
  have hW := hI.hW
  have hS := hI.hS
  have hPl := hI.hPl
  have hNx := hI.hNx
  have hLa := hI.hLa
  have hLo := hI.hLo
  have hTb := hI.hTb
  have hTh := hI.hTh
  have hFd := hI.hFd
  have hSn := hI.hSn
  have hSh := hI.hSh
  have hRan := hI.hRan
  have hLr := hI.hLr
  have hLt := hI.hLt
  have hgl := hI.hgl
  have hsz := hI.hsz
  have hcm := hI.hcm
  have hsl := hI.hsl
  have hkd := hI.hkd
  have hvv := hI.hvv
  have hli := hI.hli
  have hro := hI.hro
  have hrw := hI.hrw
  have htx := hI.htx
  have hsw := hI.hsw
  have hsx := hI.hsx
  have hsy := hI.hsy
  have hsh := hI.hsh
  have hle := hI.hle
  have hcl := hI.hcl
  have hwd := hI.hwd
  have hnu := hI.hnu
  have hwn := hI.hwn
  have hs1 := hI.hs1
  have hso := hI.hso
  refine Ev.run 3 (pc' := (if nI (g 166 50) = 0 then 7 else 10)) (lv' := [(0, .ref 166)]) (st' := []) (h' := HN g hl (RF rt)) rfl ?_
  refine Ev.ite (fun hc4 => ?_) (fun hc4 => ?_)
  · have hc4 : (g 166 50) = 0 := (nI_eqU0 (by omega)).mp hc4
    refine Ev.run 1 (pc' := 9) (lv' := [(0, .ref 166)]) (st' := [.int (nI 4294967293)]) (h' := HN g hl (RF rt)) rfl ?_
    refine Ev.ret (v := some (.int (nI 4294967293))) rfl ?_
    rw [if_pos hc4, if_pos hc4] at hq
    exact hq
  · have hc4 : ¬ ((g 166 50) = 0) := fun z => hc4 ((nI_eqU0 (by omega)).mpr z)
    refine Ev.run 4 (pc' := 18) (lv' := [(0, .ref 166)]) (st' := []) (h' := setI (HN g hl (RF rt)) 166 16 (nI (g 166 51))) rfl ?_
    refine Ev.hp (HN_set _ _ _ _ _ _) ?_
    refine Ev.run 4 (pc' := 26) (lv' := [(0, .ref 166)]) (st' := []) (h' := setI (HN (u2 g 166 16 (g 166 51)) hl (RF rt)) 166 0 (nI (g 166 52))) rfl ?_
    refine Ev.hp (HN_set _ _ _ _ _ _) ?_
    refine Ev.run 4 (pc' := 34) (lv' := [(0, .ref 166)]) (st' := []) (h' := setI (HN (u2 (u2 g 166 16 (g 166 51)) 166 0 (g 166 52)) hl (RF rt)) 166 6 (nI (g 166 53))) rfl ?_
    refine Ev.hp (HN_set _ _ _ _ _ _) ?_
    refine Ev.run 4 (pc' := 42) (lv' := [(0, .ref 166)]) (st' := []) (h' := setI (HN (u2 (u2 (u2 g 166 16 (g 166 51)) 166 0 (g 166 52)) 166 6 (g 166 53)) hl (RF rt)) 166 7 (nI (g 166 54))) rfl ?_
    refine Ev.hp (HN_set _ _ _ _ _ _) ?_
    refine Ev.run 4 (pc' := 50) (lv' := [(0, .ref 166)]) (st' := []) (h' := setI (HN (u2 (u2 (u2 (u2 g 166 16 (g 166 51)) 166 0 (g 166 52)) 166 6 (g 166 53)) 166 7 (g 166 54)) hl (RF rt)) 166 8 (nI (g 166 55))) rfl ?_
    refine Ev.hp (HN_set _ _ _ _ _ _) ?_
    refine Ev.run 4 (pc' := 58) (lv' := [(0, .ref 166)]) (st' := []) (h' := setI (HN (u2 (u2 (u2 (u2 (u2 g 166 16 (g 166 51)) 166 0 (g 166 52)) 166 6 (g 166 53)) 166 7 (g 166 54)) 166 8 (g 166 55)) hl (RF rt)) 166 9 (nI (g 166 56))) rfl ?_
    refine Ev.hp (HN_set _ _ _ _ _ _) ?_
    refine Ev.run 4 (pc' := 66) (lv' := [(0, .ref 166)]) (st' := []) (h' := setI (HN (u2 (u2 (u2 (u2 (u2 (u2 g 166 16 (g 166 51)) 166 0 (g 166 52)) 166 6 (g 166 53)) 166 7 (g 166 54)) 166 8 (g 166 55)) 166 9 (g 166 56)) hl (RF rt)) 166 44 (nI (g 166 57))) rfl ?_
    refine Ev.hp (HN_set _ _ _ _ _ _) ?_
    refine Ev.run 4 (pc' := 74) (lv' := [(0, .ref 166)]) (st' := []) (h' := setI (HN (u2 (u2 (u2 (u2 (u2 (u2 (u2 g 166 16 (g 166 51)) 166 0 (g 166 52)) 166 6 (g 166 53)) 166 7 (g 166 54)) 166 8 (g 166 55)) 166 9 (g 166 56)) 166 44 (g 166 57)) hl (RF rt)) 166 48 (nI (g 166 58))) rfl ?_
    refine Ev.hp (HN_set _ _ _ _ _ _) ?_
    refine Ev.run 2 (pc' := 76) (lv' := [(1, .int (nI 0)), (0, .ref 166)]) (st' := []) (h' := HN (u2 (u2 (u2 (u2 (u2 (u2 (u2 (u2 g 166 16 (g 166 51)) 166 0 (g 166 52)) 166 6 (g 166 53)) 166 7 (g 166 54)) 166 8 (g 166 55)) 166 9 (g 166 56)) 166 44 (g 166 57)) 166 48 (g 166 58)) hl (RF rt)) rfl ?_
    refine Ev.hp (congrArg (fun z => HN z hl (RF rt)) (cpR_0 (u2 (u2 (u2 (u2 (u2 (u2 (u2 (u2 g 166 16 (g 166 51)) 166 0 (g 166 52)) 166 6 (g 166 53)) 166 7 (g 166 54)) 166 8 (g 166 55)) 166 9 (g 166 56)) 166 44 (g 166 57)) 166 48 (g 166 58)) 167 0 (g 193)).symm) ?_
    refine for_ind 72 (fun n => Ev L xs d 222 76 [(1, .int (nI n)), (0, .ref 166)] [] (HN (cpR (u2 (u2 (u2 (u2 (u2 (u2 (u2 (u2 g 166 16 (g 166 51)) 166 0 (g 166 52)) 166 6 (g 166 53)) 166 7 (g 166 54)) 166 8 (g 166 55)) 166 9 (g 166 56)) 166 44 (g 166 57)) 166 48 (g 166 58)) 167 0 n (g 193)) hl (RF rt)) Q) (fun n hn hnext => ?_) 0 (Nat.zero_le _)
    refine Ev.run 3 (pc' := (if nI 72 ≤ nI n then 100 else 82)) (lv' := [(1, .int (nI n)), (0, .ref 166)]) (st' := []) (h' := HN (cpR (u2 (u2 (u2 (u2 (u2 (u2 (u2 (u2 g 166 16 (g 166 51)) 166 0 (g 166 52)) 166 6 (g 166 53)) 166 7 (g 166 54)) 166 8 (g 166 55)) 166 9 (g 166 56)) 166 44 (g 166 57)) 166 48 (g 166 58)) 167 0 n (g 193)) hl (RF rt)) rfl ?_
    refine Ev.ite (fun hc79 => ?_) (fun hc79 => ?_)
    · have hc79 : 72 ≤ n := (nI_leI (by omega) (by omega)).mp hc79
      refine Ev.run 2 (pc' := 102) (lv' := [(1, .int (nI 0)), (0, .ref 166)]) (st' := []) (h' := HN (cpR (u2 (u2 (u2 (u2 (u2 (u2 (u2 (u2 g 166 16 (g 166 51)) 166 0 (g 166 52)) 166 6 (g 166 53)) 166 7 (g 166 54)) 166 8 (g 166 55)) 166 9 (g 166 56)) 166 44 (g 166 57)) 166 48 (g 166 58)) 167 0 n (g 193)) hl (RF rt)) rfl ?_
      obtain rfl : n = 72 := by omega
      refine Ev.hp (congrArg (fun z => HN z hl (RF rt)) (cpR_0 (cpR (u2 (u2 (u2 (u2 (u2 (u2 (u2 (u2 g 166 16 (g 166 51)) 166 0 (g 166 52)) 166 6 (g 166 53)) 166 7 (g 166 54)) 166 8 (g 166 55)) 166 9 (g 166 56)) 166 44 (g 166 57)) 166 48 (g 166 58)) 167 0 72 (g 193)) 168 0 (g 194)).symm) ?_
      refine Ev.hp (congrArg (fun z => HN z hl (RF rt)) (cpR_0 (cpR (cpR (u2 (u2 (u2 (u2 (u2 (u2 (u2 (u2 g 166 16 (g 166 51)) 166 0 (g 166 52)) 166 6 (g 166 53)) 166 7 (g 166 54)) 166 8 (g 166 55)) 166 9 (g 166 56)) 166 44 (g 166 57)) 166 48 (g 166 58)) 167 0 72 (g 193)) 168 0 0 (g 194)) 169 0 (g 195)).symm) ?_
      refine Ev.hp (congrArg (fun z => HN z hl (RF rt)) (cpR_0 (cpR (cpR (cpR (u2 (u2 (u2 (u2 (u2 (u2 (u2 (u2 g 166 16 (g 166 51)) 166 0 (g 166 52)) 166 6 (g 166 53)) 166 7 (g 166 54)) 166 8 (g 166 55)) 166 9 (g 166 56)) 166 44 (g 166 57)) 166 48 (g 166 58)) 167 0 72 (g 193)) 168 0 0 (g 194)) 169 0 0 (g 195)) 175 0 (g 200)).symm) ?_
      refine for_ind 12 (fun n => Ev L xs d 222 102 [(1, .int (nI n)), (0, .ref 166)] [] (HN (cpR (cpR (cpR (cpR (u2 (u2 (u2 (u2 (u2 (u2 (u2 (u2 g 166 16 (g 166 51)) 166 0 (g 166 52)) 166 6 (g 166 53)) 166 7 (g 166 54)) 166 8 (g 166 55)) 166 9 (g 166 56)) 166 44 (g 166 57)) 166 48 (g 166 58)) 167 0 72 (g 193)) 168 0 n (g 194)) 169 0 n (g 195)) 175 0 n (g 200)) hl (RF rt)) Q) (fun n hn hnext => ?_) 0 (Nat.zero_le _)
      refine Ev.run 3 (pc' := (if nI 12 ≤ nI n then 150 else 108)) (lv' := [(1, .int (nI n)), (0, .ref 166)]) (st' := []) (h' := HN (cpR (cpR (cpR (cpR (u2 (u2 (u2 (u2 (u2 (u2 (u2 (u2 g 166 16 (g 166 51)) 166 0 (g 166 52)) 166 6 (g 166 53)) 166 7 (g 166 54)) 166 8 (g 166 55)) 166 9 (g 166 56)) 166 44 (g 166 57)) 166 48 (g 166 58)) 167 0 72 (g 193)) 168 0 n (g 194)) 169 0 n (g 195)) 175 0 n (g 200)) hl (RF rt)) rfl ?_
      refine Ev.ite (fun hc105 => ?_) (fun hc105 => ?_)
      · have hc105 : 12 ≤ n := (nI_leI (by omega) (by omega)).mp hc105
        refine Ev.run 2 (pc' := 152) (lv' := [(1, .int (nI 0)), (0, .ref 166)]) (st' := []) (h' := HN (cpR (cpR (cpR (cpR (u2 (u2 (u2 (u2 (u2 (u2 (u2 (u2 g 166 16 (g 166 51)) 166 0 (g 166 52)) 166 6 (g 166 53)) 166 7 (g 166 54)) 166 8 (g 166 55)) 166 9 (g 166 56)) 166 44 (g 166 57)) 166 48 (g 166 58)) 167 0 72 (g 193)) 168 0 n (g 194)) 169 0 n (g 195)) 175 0 n (g 200)) hl (RF rt)) rfl ?_
        obtain rfl : n = 12 := by omega
        refine Ev.hp (congrArg (fun z => HN z hl (RF rt)) (cpR_0 (cpR (cpR (cpR (cpR (u2 (u2 (u2 (u2 (u2 (u2 (u2 (u2 g 166 16 (g 166 51)) 166 0 (g 166 52)) 166 6 (g 166 53)) 166 7 (g 166 54)) 166 8 (g 166 55)) 166 9 (g 166 56)) 166 44 (g 166 57)) 166 48 (g 166 58)) 167 0 72 (g 193)) 168 0 12 (g 194)) 169 0 12 (g 195)) 175 0 12 (g 200)) 171 0 (g 196)).symm) ?_
        refine Ev.hp (congrArg (fun z => HN z hl (RF rt)) (cpR_0 (cpR (cpR (cpR (cpR (cpR (u2 (u2 (u2 (u2 (u2 (u2 (u2 (u2 g 166 16 (g 166 51)) 166 0 (g 166 52)) 166 6 (g 166 53)) 166 7 (g 166 54)) 166 8 (g 166 55)) 166 9 (g 166 56)) 166 44 (g 166 57)) 166 48 (g 166 58)) 167 0 72 (g 193)) 168 0 12 (g 194)) 169 0 12 (g 195)) 175 0 12 (g 200)) 171 0 0 (g 196)) 172 0 (g 197)).symm) ?_
        refine Ev.hp (congrArg (fun z => HN z hl (RF rt)) (cpR_0 (cpR (cpR (cpR (cpR (cpR (cpR (u2 (u2 (u2 (u2 (u2 (u2 (u2 (u2 g 166 16 (g 166 51)) 166 0 (g 166 52)) 166 6 (g 166 53)) 166 7 (g 166 54)) 166 8 (g 166 55)) 166 9 (g 166 56)) 166 44 (g 166 57)) 166 48 (g 166 58)) 167 0 72 (g 193)) 168 0 12 (g 194)) 169 0 12 (g 195)) 175 0 12 (g 200)) 171 0 0 (g 196)) 172 0 0 (g 197)) 173 0 (g 198)).symm) ?_
        refine for_ind 5 (fun n => Ev L xs d 222 152 [(1, .int (nI n)), (0, .ref 166)] [] (HN (cpR (cpR (cpR (cpR (cpR (cpR (cpR (u2 (u2 (u2 (u2 (u2 (u2 (u2 (u2 g 166 16 (g 166 51)) 166 0 (g 166 52)) 166 6 (g 166 53)) 166 7 (g 166 54)) 166 8 (g 166 55)) 166 9 (g 166 56)) 166 44 (g 166 57)) 166 48 (g 166 58)) 167 0 72 (g 193)) 168 0 12 (g 194)) 169 0 12 (g 195)) 175 0 12 (g 200)) 171 0 n (g 196)) 172 0 n (g 197)) 173 0 n (g 198)) hl (RF rt)) Q) (fun n hn hnext => ?_) 0 (Nat.zero_le _)
        refine Ev.run 3 (pc' := (if nI 5 ≤ nI n then 199 else 157)) (lv' := [(1, .int (nI n)), (0, .ref 166)]) (st' := []) (h' := HN (cpR (cpR (cpR (cpR (cpR (cpR (cpR (u2 (u2 (u2 (u2 (u2 (u2 (u2 (u2 g 166 16 (g 166 51)) 166 0 (g 166 52)) 166 6 (g 166 53)) 166 7 (g 166 54)) 166 8 (g 166 55)) 166 9 (g 166 56)) 166 44 (g 166 57)) 166 48 (g 166 58)) 167 0 72 (g 193)) 168 0 12 (g 194)) 169 0 12 (g 195)) 175 0 12 (g 200)) 171 0 n (g 196)) 172 0 n (g 197)) 173 0 n (g 198)) hl (RF rt)) rfl ?_
        refine Ev.ite (fun hc154 => ?_) (fun hc154 => ?_)
        · have hc154 : 5 ≤ n := (nI_leI (by omega) (by omega)).mp hc154
          refine Ev.run 2 (pc' := 201) (lv' := [(1, .int (nI 0)), (0, .ref 166)]) (st' := []) (h' := HN (cpR (cpR (cpR (cpR (cpR (cpR (cpR (u2 (u2 (u2 (u2 (u2 (u2 (u2 (u2 g 166 16 (g 166 51)) 166 0 (g 166 52)) 166 6 (g 166 53)) 166 7 (g 166 54)) 166 8 (g 166 55)) 166 9 (g 166 56)) 166 44 (g 166 57)) 166 48 (g 166 58)) 167 0 72 (g 193)) 168 0 12 (g 194)) 169 0 12 (g 195)) 175 0 12 (g 200)) 171 0 n (g 196)) 172 0 n (g 197)) 173 0 n (g 198)) hl (RF rt)) rfl ?_
          obtain rfl : n = 5 := by omega
          refine Ev.hp (congrArg (fun z => HN z hl (RF rt)) (cpR_0 (cpR (cpR (cpR (cpR (cpR (cpR (cpR (u2 (u2 (u2 (u2 (u2 (u2 (u2 (u2 g 166 16 (g 166 51)) 166 0 (g 166 52)) 166 6 (g 166 53)) 166 7 (g 166 54)) 166 8 (g 166 55)) 166 9 (g 166 56)) 166 44 (g 166 57)) 166 48 (g 166 58)) 167 0 72 (g 193)) 168 0 12 (g 194)) 169 0 12 (g 195)) 175 0 12 (g 200)) 171 0 5 (g 196)) 172 0 5 (g 197)) 173 0 5 (g 198)) 174 0 (g 199)).symm) ?_
          refine for_ind 20 (fun n => Ev L xs d 222 201 [(1, .int (nI n)), (0, .ref 166)] [] (HN (cpR (cpR (cpR (cpR (cpR (cpR (cpR (cpR (u2 (u2 (u2 (u2 (u2 (u2 (u2 (u2 g 166 16 (g 166 51)) 166 0 (g 166 52)) 166 6 (g 166 53)) 166 7 (g 166 54)) 166 8 (g 166 55)) 166 9 (g 166 56)) 166 44 (g 166 57)) 166 48 (g 166 58)) 167 0 72 (g 193)) 168 0 12 (g 194)) 169 0 12 (g 195)) 175 0 12 (g 200)) 171 0 5 (g 196)) 172 0 5 (g 197)) 173 0 5 (g 198)) 174 0 n (g 199)) hl (RF rt)) Q) (fun n hn hnext => ?_) 0 (Nat.zero_le _)
          refine Ev.run 3 (pc' := (if nI 20 ≤ nI n then 225 else 207)) (lv' := [(1, .int (nI n)), (0, .ref 166)]) (st' := []) (h' := HN (cpR (cpR (cpR (cpR (cpR (cpR (cpR (cpR (u2 (u2 (u2 (u2 (u2 (u2 (u2 (u2 g 166 16 (g 166 51)) 166 0 (g 166 52)) 166 6 (g 166 53)) 166 7 (g 166 54)) 166 8 (g 166 55)) 166 9 (g 166 56)) 166 44 (g 166 57)) 166 48 (g 166 58)) 167 0 72 (g 193)) 168 0 12 (g 194)) 169 0 12 (g 195)) 175 0 12 (g 200)) 171 0 5 (g 196)) 172 0 5 (g 197)) 173 0 5 (g 198)) 174 0 n (g 199)) hl (RF rt)) rfl ?_
          refine Ev.ite (fun hc204 => ?_) (fun hc204 => ?_)
          · have hc204 : 20 ≤ n := (nI_leI (by omega) (by omega)).mp hc204
            refine Ev.run 2 (pc' := 227) (lv' := [(1, .int (nI 0)), (0, .ref 166)]) (st' := []) (h' := HN (cpR (cpR (cpR (cpR (cpR (cpR (cpR (cpR (u2 (u2 (u2 (u2 (u2 (u2 (u2 (u2 g 166 16 (g 166 51)) 166 0 (g 166 52)) 166 6 (g 166 53)) 166 7 (g 166 54)) 166 8 (g 166 55)) 166 9 (g 166 56)) 166 44 (g 166 57)) 166 48 (g 166 58)) 167 0 72 (g 193)) 168 0 12 (g 194)) 169 0 12 (g 195)) 175 0 12 (g 200)) 171 0 5 (g 196)) 172 0 5 (g 197)) 173 0 5 (g 198)) 174 0 n (g 199)) hl (RF rt)) rfl ?_
            obtain rfl : n = 20 := by omega
            refine Ev.hp (congrArg (fun z => HN z hl (RF rt)) (cpR_0 (cpR (cpR (cpR (cpR (cpR (cpR (cpR (cpR (u2 (u2 (u2 (u2 (u2 (u2 (u2 (u2 g 166 16 (g 166 51)) 166 0 (g 166 52)) 166 6 (g 166 53)) 166 7 (g 166 54)) 166 8 (g 166 55)) 166 9 (g 166 56)) 166 44 (g 166 57)) 166 48 (g 166 58)) 167 0 72 (g 193)) 168 0 12 (g 194)) 169 0 12 (g 195)) 175 0 12 (g 200)) 171 0 5 (g 196)) 172 0 5 (g 197)) 173 0 5 (g 198)) 174 0 20 (g 199)) 189 0 (g 201)).symm) ?_
            refine Ev.hp (congrArg (fun z => HN z hl (RF rt)) (cpR_0 (cpR (cpR (cpR (cpR (cpR (cpR (cpR (cpR (cpR (u2 (u2 (u2 (u2 (u2 (u2 (u2 (u2 g 166 16 (g 166 51)) 166 0 (g 166 52)) 166 6 (g 166 53)) 166 7 (g 166 54)) 166 8 (g 166 55)) 166 9 (g 166 56)) 166 44 (g 166 57)) 166 48 (g 166 58)) 167 0 72 (g 193)) 168 0 12 (g 194)) 169 0 12 (g 195)) 175 0 12 (g 200)) 171 0 5 (g 196)) 172 0 5 (g 197)) 173 0 5 (g 198)) 174 0 20 (g 199)) 189 0 0 (g 201)) 190 0 (g 202)).symm) ?_
            refine Ev.hp (congrArg (fun z => HN z hl (RF rt)) (cpR_0 (cpR (cpR (cpR (cpR (cpR (cpR (cpR (cpR (cpR (cpR (u2 (u2 (u2 (u2 (u2 (u2 (u2 (u2 g 166 16 (g 166 51)) 166 0 (g 166 52)) 166 6 (g 166 53)) 166 7 (g 166 54)) 166 8 (g 166 55)) 166 9 (g 166 56)) 166 44 (g 166 57)) 166 48 (g 166 58)) 167 0 72 (g 193)) 168 0 12 (g 194)) 169 0 12 (g 195)) 175 0 12 (g 200)) 171 0 5 (g 196)) 172 0 5 (g 197)) 173 0 5 (g 198)) 174 0 20 (g 199)) 189 0 0 (g 201)) 190 0 0 (g 202)) 191 0 (g 203)).symm) ?_
            refine for_ind 6 (fun n => Ev L xs d 222 227 [(1, .int (nI n)), (0, .ref 166)] [] (HN (cpR (cpR (cpR (cpR (cpR (cpR (cpR (cpR (cpR (cpR (cpR (u2 (u2 (u2 (u2 (u2 (u2 (u2 (u2 g 166 16 (g 166 51)) 166 0 (g 166 52)) 166 6 (g 166 53)) 166 7 (g 166 54)) 166 8 (g 166 55)) 166 9 (g 166 56)) 166 44 (g 166 57)) 166 48 (g 166 58)) 167 0 72 (g 193)) 168 0 12 (g 194)) 169 0 12 (g 195)) 175 0 12 (g 200)) 171 0 5 (g 196)) 172 0 5 (g 197)) 173 0 5 (g 198)) 174 0 20 (g 199)) 189 0 n (g 201)) 190 0 n (g 202)) 191 0 n (g 203)) hl (RF rt)) Q) (fun n hn hnext => ?_) 0 (Nat.zero_le _)
            refine Ev.run 3 (pc' := (if nI 6 ≤ nI n then 275 else 233)) (lv' := [(1, .int (nI n)), (0, .ref 166)]) (st' := []) (h' := HN (cpR (cpR (cpR (cpR (cpR (cpR (cpR (cpR (cpR (cpR (cpR (u2 (u2 (u2 (u2 (u2 (u2 (u2 (u2 g 166 16 (g 166 51)) 166 0 (g 166 52)) 166 6 (g 166 53)) 166 7 (g 166 54)) 166 8 (g 166 55)) 166 9 (g 166 56)) 166 44 (g 166 57)) 166 48 (g 166 58)) 167 0 72 (g 193)) 168 0 12 (g 194)) 169 0 12 (g 195)) 175 0 12 (g 200)) 171 0 5 (g 196)) 172 0 5 (g 197)) 173 0 5 (g 198)) 174 0 20 (g 199)) 189 0 n (g 201)) 190 0 n (g 202)) 191 0 n (g 203)) hl (RF rt)) rfl ?_
            refine Ev.ite (fun hc230 => ?_) (fun hc230 => ?_)
            · have hc230 : 6 ≤ n := (nI_leI (by omega) (by omega)).mp hc230
              refine Ev.run 2 (pc' := 277) (lv' := [(1, .int (nI 0)), (0, .ref 166)]) (st' := []) (h' := HN (cpR (cpR (cpR (cpR (cpR (cpR (cpR (cpR (cpR (cpR (cpR (u2 (u2 (u2 (u2 (u2 (u2 (u2 (u2 g 166 16 (g 166 51)) 166 0 (g 166 52)) 166 6 (g 166 53)) 166 7 (g 166 54)) 166 8 (g 166 55)) 166 9 (g 166 56)) 166 44 (g 166 57)) 166 48 (g 166 58)) 167 0 72 (g 193)) 168 0 12 (g 194)) 169 0 12 (g 195)) 175 0 12 (g 200)) 171 0 5 (g 196)) 172 0 5 (g 197)) 173 0 5 (g 198)) 174 0 20 (g 199)) 189 0 n (g 201)) 190 0 n (g 202)) 191 0 n (g 203)) hl (RF rt)) rfl ?_
              obtain rfl : n = 6 := by omega
              refine Ev.hp (congrArg (fun z => HN z hl (RF rt)) (cpR_0 (cpR (cpR (cpR (cpR (cpR (cpR (cpR (cpR (cpR (cpR (cpR (u2 (u2 (u2 (u2 (u2 (u2 (u2 (u2 g 166 16 (g 166 51)) 166 0 (g 166 52)) 166 6 (g 166 53)) 166 7 (g 166 54)) 166 8 (g 166 55)) 166 9 (g 166 56)) 166 44 (g 166 57)) 166 48 (g 166 58)) 167 0 72 (g 193)) 168 0 12 (g 194)) 169 0 12 (g 195)) 175 0 12 (g 200)) 171 0 5 (g 196)) 172 0 5 (g 197)) 173 0 5 (g 198)) 174 0 20 (g 199)) 189 0 6 (g 201)) 190 0 6 (g 202)) 191 0 6 (g 203)) 192 0 (g 204)).symm) ?_
              refine for_ind 8 (fun n => Ev L xs d 222 277 [(1, .int (nI n)), (0, .ref 166)] [] (HN (cpR (cpR (cpR (cpR (cpR (cpR (cpR (cpR (cpR (cpR (cpR (cpR (u2 (u2 (u2 (u2 (u2 (u2 (u2 (u2 g 166 16 (g 166 51)) 166 0 (g 166 52)) 166 6 (g 166 53)) 166 7 (g 166 54)) 166 8 (g 166 55)) 166 9 (g 166 56)) 166 44 (g 166 57)) 166 48 (g 166 58)) 167 0 72 (g 193)) 168 0 12 (g 194)) 169 0 12 (g 195)) 175 0 12 (g 200)) 171 0 5 (g 196)) 172 0 5 (g 197)) 173 0 5 (g 198)) 174 0 20 (g 199)) 189 0 6 (g 201)) 190 0 6 (g 202)) 191 0 6 (g 203)) 192 0 n (g 204)) hl (RF rt)) Q) (fun n hn hnext => ?_) 0 (Nat.zero_le _)
              refine Ev.run 3 (pc' := (if nI 8 ≤ nI n then 301 else 283)) (lv' := [(1, .int (nI n)), (0, .ref 166)]) (st' := []) (h' := HN (cpR (cpR (cpR (cpR (cpR (cpR (cpR (cpR (cpR (cpR (cpR (cpR (u2 (u2 (u2 (u2 (u2 (u2 (u2 (u2 g 166 16 (g 166 51)) 166 0 (g 166 52)) 166 6 (g 166 53)) 166 7 (g 166 54)) 166 8 (g 166 55)) 166 9 (g 166 56)) 166 44 (g 166 57)) 166 48 (g 166 58)) 167 0 72 (g 193)) 168 0 12 (g 194)) 169 0 12 (g 195)) 175 0 12 (g 200)) 171 0 5 (g 196)) 172 0 5 (g 197)) 173 0 5 (g 198)) 174 0 20 (g 199)) 189 0 6 (g 201)) 190 0 6 (g 202)) 191 0 6 (g 203)) 192 0 n (g 204)) hl (RF rt)) rfl ?_
              refine Ev.ite (fun hc280 => ?_) (fun hc280 => ?_)
              · have hc280 : 8 ≤ n := (nI_leI (by omega) (by omega)).mp hc280
                refine Ev.run 2 (pc' := 305) (lv' := [(1, .int (nI n)), (0, .ref 166)]) (st' := [.int (nI (g 166 53))]) (h' := HN (cpR (cpR (cpR (cpR (cpR (cpR (cpR (cpR (cpR (cpR (cpR (cpR (u2 (u2 (u2 (u2 (u2 (u2 (u2 (u2 g 166 16 (g 166 51)) 166 0 (g 166 52)) 166 6 (g 166 53)) 166 7 (g 166 54)) 166 8 (g 166 55)) 166 9 (g 166 56)) 166 44 (g 166 57)) 166 48 (g 166 58)) 167 0 72 (g 193)) 168 0 12 (g 194)) 169 0 12 (g 195)) 175 0 12 (g 200)) 171 0 5 (g 196)) 172 0 5 (g 197)) 173 0 5 (g 198)) 174 0 20 (g 199)) 189 0 6 (g 201)) 190 0 6 (g 202)) 191 0 6 (g 203)) 192 0 n (g 204)) hl (RF rt)) rfl ?_
                refine Ev.ret (v := some (.int (nI (g 166 53)))) rfl ?_
                obtain rfl : n = 8 := by omega
                rw [if_neg hc4, if_neg hc4] at hq
                exact hq
              · have hc280 : ¬ (8 ≤ n) := fun z => hc280 ((nI_leI (by omega) (by omega)).mpr z)
                refine Ev.run 6 (pc' := 293) (lv' := [(1, .int (nI n)), (0, .ref 166)]) (st' := [.int (nI n), .ref 204, .int (nI n), .ref 192]) (h' := HN (cpR (cpR (cpR (cpR (cpR (cpR (cpR (cpR (cpR (cpR (cpR (cpR (u2 (u2 (u2 (u2 (u2 (u2 (u2 (u2 g 166 16 (g 166 51)) 166 0 (g 166 52)) 166 6 (g 166 53)) 166 7 (g 166 54)) 166 8 (g 166 55)) 166 9 (g 166 56)) 166 44 (g 166 57)) 166 48 (g 166 58)) 167 0 72 (g 193)) 168 0 12 (g 194)) 169 0 12 (g 195)) 175 0 12 (g 200)) 171 0 5 (g 196)) 172 0 5 (g 197)) 173 0 5 (g 198)) 174 0 20 (g 199)) 189 0 6 (g 201)) 190 0 6 (g 202)) 191 0 6 (g 203)) 192 0 n (g 204)) hl (RF rt)) rfl ?_
                refine Ev_iald rfl rfl (show n < 8 by omega) (Nat.le_of_ble_eq_true rfl) ?_
                refine Ev_iast rfl rfl (show n < 8 by omega) (Nat.le_of_ble_eq_true rfl) ?_
                refine Ev.run 1 (pc' := 298) (lv' := [(1, .int (nI n + 1)), (0, .ref 166)]) (st' := []) (h' := HN (u2 (cpR (cpR (cpR (cpR (cpR (cpR (cpR (cpR (cpR (cpR (cpR (cpR (u2 (u2 (u2 (u2 (u2 (u2 (u2 (u2 g 166 16 (g 166 51)) 166 0 (g 166 52)) 166 6 (g 166 53)) 166 7 (g 166 54)) 166 8 (g 166 55)) 166 9 (g 166 56)) 166 44 (g 166 57)) 166 48 (g 166 58)) 167 0 72 (g 193)) 168 0 12 (g 194)) 169 0 12 (g 195)) 175 0 12 (g 200)) 171 0 5 (g 196)) 172 0 5 (g 197)) 173 0 5 (g 198)) 174 0 20 (g 199)) 189 0 6 (g 201)) 190 0 6 (g 202)) 191 0 6 (g 203)) 192 0 n (g 204)) 192 n (g 204 n)) hl (RF rt)) rfl ?_
                refine Ev.lvE (congrArg (fun z => (1, Value.int z) :: [(0, .ref 166)]) (nI_1 _)) ?_
                refine Ev.run 1 (pc' := 277) (lv' := [(1, .int (nI (n + 1))), (0, .ref 166)]) (st' := []) (h' := HN (u2 (cpR (cpR (cpR (cpR (cpR (cpR (cpR (cpR (cpR (cpR (cpR (cpR (u2 (u2 (u2 (u2 (u2 (u2 (u2 (u2 g 166 16 (g 166 51)) 166 0 (g 166 52)) 166 6 (g 166 53)) 166 7 (g 166 54)) 166 8 (g 166 55)) 166 9 (g 166 56)) 166 44 (g 166 57)) 166 48 (g 166 58)) 167 0 72 (g 193)) 168 0 12 (g 194)) 169 0 12 (g 195)) 175 0 12 (g 200)) 171 0 5 (g 196)) 172 0 5 (g 197)) 173 0 5 (g 198)) 174 0 20 (g 199)) 189 0 6 (g 201)) 190 0 6 (g 202)) 191 0 6 (g 203)) 192 0 n (g 204)) 192 n (g 204 n)) hl (RF rt)) rfl ?_
                have hx := hnext (by omega)
                rw [← cpR_s0] at hx
                exact hx
            · have hc230 : ¬ (6 ≤ n) := fun z => hc230 ((nI_leI (by omega) (by omega)).mpr z)
              refine Ev.run 6 (pc' := 243) (lv' := [(1, .int (nI n)), (0, .ref 166)]) (st' := [.int (nI n), .ref 201, .int (nI n), .ref 189]) (h' := HN (cpR (cpR (cpR (cpR (cpR (cpR (cpR (cpR (cpR (cpR (cpR (u2 (u2 (u2 (u2 (u2 (u2 (u2 (u2 g 166 16 (g 166 51)) 166 0 (g 166 52)) 166 6 (g 166 53)) 166 7 (g 166 54)) 166 8 (g 166 55)) 166 9 (g 166 56)) 166 44 (g 166 57)) 166 48 (g 166 58)) 167 0 72 (g 193)) 168 0 12 (g 194)) 169 0 12 (g 195)) 175 0 12 (g 200)) 171 0 5 (g 196)) 172 0 5 (g 197)) 173 0 5 (g 198)) 174 0 20 (g 199)) 189 0 n (g 201)) 190 0 n (g 202)) 191 0 n (g 203)) hl (RF rt)) rfl ?_
              refine Ev_iald rfl rfl (show n < 6 by omega) (Nat.le_of_ble_eq_true rfl) ?_
              refine Ev_iast rfl rfl (show n < 6 by omega) (Nat.le_of_ble_eq_true rfl) ?_
              refine Ev.run 6 (pc' := 255) (lv' := [(1, .int (nI n)), (0, .ref 166)]) (st' := [.int (nI n), .ref 202, .int (nI n), .ref 190]) (h' := HN (u2 (cpR (cpR (cpR (cpR (cpR (cpR (cpR (cpR (cpR (cpR (cpR (u2 (u2 (u2 (u2 (u2 (u2 (u2 (u2 g 166 16 (g 166 51)) 166 0 (g 166 52)) 166 6 (g 166 53)) 166 7 (g 166 54)) 166 8 (g 166 55)) 166 9 (g 166 56)) 166 44 (g 166 57)) 166 48 (g 166 58)) 167 0 72 (g 193)) 168 0 12 (g 194)) 169 0 12 (g 195)) 175 0 12 (g 200)) 171 0 5 (g 196)) 172 0 5 (g 197)) 173 0 5 (g 198)) 174 0 20 (g 199)) 189 0 n (g 201)) 190 0 n (g 202)) 191 0 n (g 203)) 189 n (g 201 n)) hl (RF rt)) rfl ?_
              refine Ev_iald rfl rfl (show n < 6 by omega) (Nat.le_of_ble_eq_true rfl) ?_
              refine Ev_iast rfl rfl (show n < 6 by omega) (Nat.le_of_ble_eq_true rfl) ?_
              refine Ev.run 6 (pc' := 267) (lv' := [(1, .int (nI n)), (0, .ref 166)]) (st' := [.int (nI n), .ref 203, .int (nI n), .ref 191]) (h' := HN (u2 (u2 (cpR (cpR (cpR (cpR (cpR (cpR (cpR (cpR (cpR (cpR (cpR (u2 (u2 (u2 (u2 (u2 (u2 (u2 (u2 g 166 16 (g 166 51)) 166 0 (g 166 52)) 166 6 (g 166 53)) 166 7 (g 166 54)) 166 8 (g 166 55)) 166 9 (g 166 56)) 166 44 (g 166 57)) 166 48 (g 166 58)) 167 0 72 (g 193)) 168 0 12 (g 194)) 169 0 12 (g 195)) 175 0 12 (g 200)) 171 0 5 (g 196)) 172 0 5 (g 197)) 173 0 5 (g 198)) 174 0 20 (g 199)) 189 0 n (g 201)) 190 0 n (g 202)) 191 0 n (g 203)) 189 n (g 201 n)) 190 n (g 202 n)) hl (RF rt)) rfl ?_
              refine Ev_iald rfl rfl (show n < 6 by omega) (Nat.le_of_ble_eq_true rfl) ?_
              refine Ev_iast rfl rfl (show n < 6 by omega) (Nat.le_of_ble_eq_true rfl) ?_
              refine Ev.run 1 (pc' := 272) (lv' := [(1, .int (nI n + 1)), (0, .ref 166)]) (st' := []) (h' := HN (u2 (u2 (u2 (cpR (cpR (cpR (cpR (cpR (cpR (cpR (cpR (cpR (cpR (cpR (u2 (u2 (u2 (u2 (u2 (u2 (u2 (u2 g 166 16 (g 166 51)) 166 0 (g 166 52)) 166 6 (g 166 53)) 166 7 (g 166 54)) 166 8 (g 166 55)) 166 9 (g 166 56)) 166 44 (g 166 57)) 166 48 (g 166 58)) 167 0 72 (g 193)) 168 0 12 (g 194)) 169 0 12 (g 195)) 175 0 12 (g 200)) 171 0 5 (g 196)) 172 0 5 (g 197)) 173 0 5 (g 198)) 174 0 20 (g 199)) 189 0 n (g 201)) 190 0 n (g 202)) 191 0 n (g 203)) 189 n (g 201 n)) 190 n (g 202 n)) 191 n (g 203 n)) hl (RF rt)) rfl ?_
              refine Ev.lvE (congrArg (fun z => (1, Value.int z) :: [(0, .ref 166)]) (nI_1 _)) ?_
              refine Ev.run 1 (pc' := 227) (lv' := [(1, .int (nI (n + 1))), (0, .ref 166)]) (st' := []) (h' := HN (u2 (u2 (u2 (cpR (cpR (cpR (cpR (cpR (cpR (cpR (cpR (cpR (cpR (cpR (u2 (u2 (u2 (u2 (u2 (u2 (u2 (u2 g 166 16 (g 166 51)) 166 0 (g 166 52)) 166 6 (g 166 53)) 166 7 (g 166 54)) 166 8 (g 166 55)) 166 9 (g 166 56)) 166 44 (g 166 57)) 166 48 (g 166 58)) 167 0 72 (g 193)) 168 0 12 (g 194)) 169 0 12 (g 195)) 175 0 12 (g 200)) 171 0 5 (g 196)) 172 0 5 (g 197)) 173 0 5 (g 198)) 174 0 20 (g 199)) 189 0 n (g 201)) 190 0 n (g 202)) 191 0 n (g 203)) 189 n (g 201 n)) 190 n (g 202 n)) 191 n (g 203 n)) hl (RF rt)) rfl ?_
              have hx := hnext (by omega)
              rw [← im3 _ 189 190 191 n (g 201) (g 202) (g 203) (by decide) (by decide) (by decide)] at hx
              exact hx
          · have hc204 : ¬ (20 ≤ n) := fun z => hc204 ((nI_leI (by omega) (by omega)).mpr z)
            refine Ev.run 6 (pc' := 217) (lv' := [(1, .int (nI n)), (0, .ref 166)]) (st' := [.int (nI n), .ref 199, .int (nI n), .ref 174]) (h' := HN (cpR (cpR (cpR (cpR (cpR (cpR (cpR (cpR (u2 (u2 (u2 (u2 (u2 (u2 (u2 (u2 g 166 16 (g 166 51)) 166 0 (g 166 52)) 166 6 (g 166 53)) 166 7 (g 166 54)) 166 8 (g 166 55)) 166 9 (g 166 56)) 166 44 (g 166 57)) 166 48 (g 166 58)) 167 0 72 (g 193)) 168 0 12 (g 194)) 169 0 12 (g 195)) 175 0 12 (g 200)) 171 0 5 (g 196)) 172 0 5 (g 197)) 173 0 5 (g 198)) 174 0 n (g 199)) hl (RF rt)) rfl ?_
            refine Ev_iald rfl rfl (show n < 20 by omega) (Nat.le_of_ble_eq_true rfl) ?_
            refine Ev_iast rfl rfl (show n < 20 by omega) (Nat.le_of_ble_eq_true rfl) ?_
            refine Ev.run 1 (pc' := 222) (lv' := [(1, .int (nI n + 1)), (0, .ref 166)]) (st' := []) (h' := HN (u2 (cpR (cpR (cpR (cpR (cpR (cpR (cpR (cpR (u2 (u2 (u2 (u2 (u2 (u2 (u2 (u2 g 166 16 (g 166 51)) 166 0 (g 166 52)) 166 6 (g 166 53)) 166 7 (g 166 54)) 166 8 (g 166 55)) 166 9 (g 166 56)) 166 44 (g 166 57)) 166 48 (g 166 58)) 167 0 72 (g 193)) 168 0 12 (g 194)) 169 0 12 (g 195)) 175 0 12 (g 200)) 171 0 5 (g 196)) 172 0 5 (g 197)) 173 0 5 (g 198)) 174 0 n (g 199)) 174 n (g 199 n)) hl (RF rt)) rfl ?_
            refine Ev.lvE (congrArg (fun z => (1, Value.int z) :: [(0, .ref 166)]) (nI_1 _)) ?_
            refine Ev.run 1 (pc' := 201) (lv' := [(1, .int (nI (n + 1))), (0, .ref 166)]) (st' := []) (h' := HN (u2 (cpR (cpR (cpR (cpR (cpR (cpR (cpR (cpR (u2 (u2 (u2 (u2 (u2 (u2 (u2 (u2 g 166 16 (g 166 51)) 166 0 (g 166 52)) 166 6 (g 166 53)) 166 7 (g 166 54)) 166 8 (g 166 55)) 166 9 (g 166 56)) 166 44 (g 166 57)) 166 48 (g 166 58)) 167 0 72 (g 193)) 168 0 12 (g 194)) 169 0 12 (g 195)) 175 0 12 (g 200)) 171 0 5 (g 196)) 172 0 5 (g 197)) 173 0 5 (g 198)) 174 0 n (g 199)) 174 n (g 199 n)) hl (RF rt)) rfl ?_
            have hx := hnext (by omega)
            rw [← cpR_s0] at hx
            exact hx
        · have hc154 : ¬ (5 ≤ n) := fun z => hc154 ((nI_leI (by omega) (by omega)).mpr z)
          refine Ev.run 6 (pc' := 167) (lv' := [(1, .int (nI n)), (0, .ref 166)]) (st' := [.int (nI n), .ref 196, .int (nI n), .ref 171]) (h' := HN (cpR (cpR (cpR (cpR (cpR (cpR (cpR (u2 (u2 (u2 (u2 (u2 (u2 (u2 (u2 g 166 16 (g 166 51)) 166 0 (g 166 52)) 166 6 (g 166 53)) 166 7 (g 166 54)) 166 8 (g 166 55)) 166 9 (g 166 56)) 166 44 (g 166 57)) 166 48 (g 166 58)) 167 0 72 (g 193)) 168 0 12 (g 194)) 169 0 12 (g 195)) 175 0 12 (g 200)) 171 0 n (g 196)) 172 0 n (g 197)) 173 0 n (g 198)) hl (RF rt)) rfl ?_
          refine Ev_iald rfl rfl (show n < 5 by omega) (Nat.le_of_ble_eq_true rfl) ?_
          refine Ev_iast rfl rfl (show n < 5 by omega) (Nat.le_of_ble_eq_true rfl) ?_
          refine Ev.run 6 (pc' := 179) (lv' := [(1, .int (nI n)), (0, .ref 166)]) (st' := [.int (nI n), .ref 197, .int (nI n), .ref 172]) (h' := HN (u2 (cpR (cpR (cpR (cpR (cpR (cpR (cpR (u2 (u2 (u2 (u2 (u2 (u2 (u2 (u2 g 166 16 (g 166 51)) 166 0 (g 166 52)) 166 6 (g 166 53)) 166 7 (g 166 54)) 166 8 (g 166 55)) 166 9 (g 166 56)) 166 44 (g 166 57)) 166 48 (g 166 58)) 167 0 72 (g 193)) 168 0 12 (g 194)) 169 0 12 (g 195)) 175 0 12 (g 200)) 171 0 n (g 196)) 172 0 n (g 197)) 173 0 n (g 198)) 171 n (g 196 n)) hl (RF rt)) rfl ?_
          refine Ev_iald rfl rfl (show n < 5 by omega) (Nat.le_of_ble_eq_true rfl) ?_
          refine Ev_iast rfl rfl (show n < 5 by omega) (Nat.le_of_ble_eq_true rfl) ?_
          refine Ev.run 6 (pc' := 191) (lv' := [(1, .int (nI n)), (0, .ref 166)]) (st' := [.int (nI n), .ref 198, .int (nI n), .ref 173]) (h' := HN (u2 (u2 (cpR (cpR (cpR (cpR (cpR (cpR (cpR (u2 (u2 (u2 (u2 (u2 (u2 (u2 (u2 g 166 16 (g 166 51)) 166 0 (g 166 52)) 166 6 (g 166 53)) 166 7 (g 166 54)) 166 8 (g 166 55)) 166 9 (g 166 56)) 166 44 (g 166 57)) 166 48 (g 166 58)) 167 0 72 (g 193)) 168 0 12 (g 194)) 169 0 12 (g 195)) 175 0 12 (g 200)) 171 0 n (g 196)) 172 0 n (g 197)) 173 0 n (g 198)) 171 n (g 196 n)) 172 n (g 197 n)) hl (RF rt)) rfl ?_
          refine Ev_iald rfl rfl (show n < 5 by omega) (Nat.le_of_ble_eq_true rfl) ?_
          refine Ev_iast rfl rfl (show n < 5 by omega) (Nat.le_of_ble_eq_true rfl) ?_
          refine Ev.run 1 (pc' := 196) (lv' := [(1, .int (nI n + 1)), (0, .ref 166)]) (st' := []) (h' := HN (u2 (u2 (u2 (cpR (cpR (cpR (cpR (cpR (cpR (cpR (u2 (u2 (u2 (u2 (u2 (u2 (u2 (u2 g 166 16 (g 166 51)) 166 0 (g 166 52)) 166 6 (g 166 53)) 166 7 (g 166 54)) 166 8 (g 166 55)) 166 9 (g 166 56)) 166 44 (g 166 57)) 166 48 (g 166 58)) 167 0 72 (g 193)) 168 0 12 (g 194)) 169 0 12 (g 195)) 175 0 12 (g 200)) 171 0 n (g 196)) 172 0 n (g 197)) 173 0 n (g 198)) 171 n (g 196 n)) 172 n (g 197 n)) 173 n (g 198 n)) hl (RF rt)) rfl ?_
          refine Ev.lvE (congrArg (fun z => (1, Value.int z) :: [(0, .ref 166)]) (nI_1 _)) ?_
          refine Ev.run 1 (pc' := 152) (lv' := [(1, .int (nI (n + 1))), (0, .ref 166)]) (st' := []) (h' := HN (u2 (u2 (u2 (cpR (cpR (cpR (cpR (cpR (cpR (cpR (u2 (u2 (u2 (u2 (u2 (u2 (u2 (u2 g 166 16 (g 166 51)) 166 0 (g 166 52)) 166 6 (g 166 53)) 166 7 (g 166 54)) 166 8 (g 166 55)) 166 9 (g 166 56)) 166 44 (g 166 57)) 166 48 (g 166 58)) 167 0 72 (g 193)) 168 0 12 (g 194)) 169 0 12 (g 195)) 175 0 12 (g 200)) 171 0 n (g 196)) 172 0 n (g 197)) 173 0 n (g 198)) 171 n (g 196 n)) 172 n (g 197 n)) 173 n (g 198 n)) hl (RF rt)) rfl ?_
          have hx := hnext (by omega)
          rw [← im3 _ 171 172 173 n (g 196) (g 197) (g 198) (by decide) (by decide) (by decide)] at hx
          exact hx
      · have hc105 : ¬ (12 ≤ n) := fun z => hc105 ((nI_leI (by omega) (by omega)).mpr z)
        refine Ev.run 6 (pc' := 118) (lv' := [(1, .int (nI n)), (0, .ref 166)]) (st' := [.int (nI n), .ref 194, .int (nI n), .ref 168]) (h' := HN (cpR (cpR (cpR (cpR (u2 (u2 (u2 (u2 (u2 (u2 (u2 (u2 g 166 16 (g 166 51)) 166 0 (g 166 52)) 166 6 (g 166 53)) 166 7 (g 166 54)) 166 8 (g 166 55)) 166 9 (g 166 56)) 166 44 (g 166 57)) 166 48 (g 166 58)) 167 0 72 (g 193)) 168 0 n (g 194)) 169 0 n (g 195)) 175 0 n (g 200)) hl (RF rt)) rfl ?_
        refine Ev_iald rfl rfl (show n < 12 by omega) (Nat.le_of_ble_eq_true rfl) ?_
        refine Ev_iast rfl rfl (show n < 12 by omega) (Nat.le_of_ble_eq_true rfl) ?_
        refine Ev.run 6 (pc' := 130) (lv' := [(1, .int (nI n)), (0, .ref 166)]) (st' := [.int (nI n), .ref 195, .int (nI n), .ref 169]) (h' := HN (u2 (cpR (cpR (cpR (cpR (u2 (u2 (u2 (u2 (u2 (u2 (u2 (u2 g 166 16 (g 166 51)) 166 0 (g 166 52)) 166 6 (g 166 53)) 166 7 (g 166 54)) 166 8 (g 166 55)) 166 9 (g 166 56)) 166 44 (g 166 57)) 166 48 (g 166 58)) 167 0 72 (g 193)) 168 0 n (g 194)) 169 0 n (g 195)) 175 0 n (g 200)) 168 n (g 194 n)) hl (RF rt)) rfl ?_
        refine Ev_iald rfl rfl (show n < 12 by omega) (Nat.le_of_ble_eq_true rfl) ?_
        refine Ev_iast rfl rfl (show n < 12 by omega) (Nat.le_of_ble_eq_true rfl) ?_
        refine Ev.run 6 (pc' := 142) (lv' := [(1, .int (nI n)), (0, .ref 166)]) (st' := [.int (nI n), .ref 200, .int (nI n), .ref 175]) (h' := HN (u2 (u2 (cpR (cpR (cpR (cpR (u2 (u2 (u2 (u2 (u2 (u2 (u2 (u2 g 166 16 (g 166 51)) 166 0 (g 166 52)) 166 6 (g 166 53)) 166 7 (g 166 54)) 166 8 (g 166 55)) 166 9 (g 166 56)) 166 44 (g 166 57)) 166 48 (g 166 58)) 167 0 72 (g 193)) 168 0 n (g 194)) 169 0 n (g 195)) 175 0 n (g 200)) 168 n (g 194 n)) 169 n (g 195 n)) hl (RF rt)) rfl ?_
        refine Ev_iald rfl rfl (show n < 12 by omega) (Nat.le_of_ble_eq_true rfl) ?_
        refine Ev_iast rfl rfl (show n < 12 by omega) (Nat.le_of_ble_eq_true rfl) ?_
        refine Ev.run 1 (pc' := 147) (lv' := [(1, .int (nI n + 1)), (0, .ref 166)]) (st' := []) (h' := HN (u2 (u2 (u2 (cpR (cpR (cpR (cpR (u2 (u2 (u2 (u2 (u2 (u2 (u2 (u2 g 166 16 (g 166 51)) 166 0 (g 166 52)) 166 6 (g 166 53)) 166 7 (g 166 54)) 166 8 (g 166 55)) 166 9 (g 166 56)) 166 44 (g 166 57)) 166 48 (g 166 58)) 167 0 72 (g 193)) 168 0 n (g 194)) 169 0 n (g 195)) 175 0 n (g 200)) 168 n (g 194 n)) 169 n (g 195 n)) 175 n (g 200 n)) hl (RF rt)) rfl ?_
        refine Ev.lvE (congrArg (fun z => (1, Value.int z) :: [(0, .ref 166)]) (nI_1 _)) ?_
        refine Ev.run 1 (pc' := 102) (lv' := [(1, .int (nI (n + 1))), (0, .ref 166)]) (st' := []) (h' := HN (u2 (u2 (u2 (cpR (cpR (cpR (cpR (u2 (u2 (u2 (u2 (u2 (u2 (u2 (u2 g 166 16 (g 166 51)) 166 0 (g 166 52)) 166 6 (g 166 53)) 166 7 (g 166 54)) 166 8 (g 166 55)) 166 9 (g 166 56)) 166 44 (g 166 57)) 166 48 (g 166 58)) 167 0 72 (g 193)) 168 0 n (g 194)) 169 0 n (g 195)) 175 0 n (g 200)) 168 n (g 194 n)) 169 n (g 195 n)) 175 n (g 200 n)) hl (RF rt)) rfl ?_
        have hx := hnext (by omega)
        rw [← im3 _ 168 169 175 n (g 194) (g 195) (g 200) (by decide) (by decide) (by decide)] at hx
        exact hx
    · have hc79 : ¬ (72 ≤ n) := fun z => hc79 ((nI_leI (by omega) (by omega)).mpr z)
      refine Ev.run 6 (pc' := 92) (lv' := [(1, .int (nI n)), (0, .ref 166)]) (st' := [.int (nI n), .ref 193, .int (nI n), .ref 167]) (h' := HN (cpR (u2 (u2 (u2 (u2 (u2 (u2 (u2 (u2 g 166 16 (g 166 51)) 166 0 (g 166 52)) 166 6 (g 166 53)) 166 7 (g 166 54)) 166 8 (g 166 55)) 166 9 (g 166 56)) 166 44 (g 166 57)) 166 48 (g 166 58)) 167 0 n (g 193)) hl (RF rt)) rfl ?_
      refine Ev_iald rfl rfl (show n < 72 by omega) (Nat.le_of_ble_eq_true rfl) ?_
      refine Ev_iast rfl rfl (show n < 72 by omega) (Nat.le_of_ble_eq_true rfl) ?_
      refine Ev.run 1 (pc' := 97) (lv' := [(1, .int (nI n + 1)), (0, .ref 166)]) (st' := []) (h' := HN (u2 (cpR (u2 (u2 (u2 (u2 (u2 (u2 (u2 (u2 g 166 16 (g 166 51)) 166 0 (g 166 52)) 166 6 (g 166 53)) 166 7 (g 166 54)) 166 8 (g 166 55)) 166 9 (g 166 56)) 166 44 (g 166 57)) 166 48 (g 166 58)) 167 0 n (g 193)) 167 n (g 193 n)) hl (RF rt)) rfl ?_
      refine Ev.lvE (congrArg (fun z => (1, Value.int z) :: [(0, .ref 166)]) (nI_1 _)) ?_
      refine Ev.run 1 (pc' := 76) (lv' := [(1, .int (nI (n + 1))), (0, .ref 166)]) (st' := []) (h' := HN (u2 (cpR (u2 (u2 (u2 (u2 (u2 (u2 (u2 (u2 g 166 16 (g 166 51)) 166 0 (g 166 52)) 166 6 (g 166 53)) 166 7 (g 166 54)) 166 8 (g 166 55)) 166 9 (g 166 56)) 166 44 (g 166 57)) 166 48 (g 166 58)) 167 0 n (g 193)) 167 n (g 193 n)) hl (RF rt)) rfl ?_
      have hx := hnext (by omega)
      rw [← cpR_s0] at hx
      exact hx
def okSh (g : Nat → Nat → Nat) (t i o j n : Nat) : Prop := t ≤ 5 ∧ o ≤ 5 ∧ g 206 t < 2147483648 ∧ g 206 o < 2147483648 ∧ g 206 t = g 206 o ∧ n < 2147483648 ∧ i < 2147483648 ∧ j < 2147483648 ∧ i + n ≤ g 207 t ∧ j + n ≤ g 207 o
noncomputable def rs_shift (g : Nat → Nat → Nat) (t i o j n : Nat) : Nat := if dc (okSh g t i o j n) = true then n else if ¬ (t ≤ 5 ∧ o ≤ 5) then 4294967295 else if ¬ (g 206 t < 2147483648 ∧ g 206 o < 2147483648) then 4294967285 else if ¬ g 206 t = g 206 o then 4294967284 else 4294967283
noncomputable def hs_shift (g : Nat → Nat → Nat) (hl : Nat → Nat → Int64) (t i o j n : Nat) : Nat → Nat → Int64 := if dc (okSh g t i o j n) = true then cpL (cpL hl 209 0 n (fun k => hl 208 (60 * t + i + k))) 208 (60 * o + j) n (fun k => hl 208 (60 * t + i + k)) else hl
theorem C_shift {L : Nat} {xs : Nat → Int32} (d : Nat) (g : Nat → Nat → Nat) (hl : Nat → Nat → Int64) (rt : Nat × Nat × Nat × Nat) (hI : MI g) (t : Nat) (i : Nat) (o : Nat) (j : Nat) (n : Nat) (ht : t < 2 ^ 32) (hi : i < 2 ^ 32) (ho : o < 2 ^ 32) (hj : j < 2 ^ 32) (hn : n < 2 ^ 32) (r w v : Nat → Nat) (hs : SmH g r v)  {Q : Po} (hq : Q (some (.int (nI (rs_shift g t i o j n)))) (HN (U g r w v) (hs_shift g hl t i o j n) (RF rt))) : Ev L xs (d + 2) 240 0 [(0, .ref 166), (1, .int (nI t)), (2, .int (nI i)), (3, .int (nI o)), (4, .int (nI j)), (5, .int (nI n))] [] (HN (U g r w v) hl (RF rt)) Q := by
  have hW := hI.hW
  have hS := hI.hS
  have hPl := hI.hPl
  have hNx := hI.hNx
  have hLa := hI.hLa
  have hLo := hI.hLo
  have hTb := hI.hTb
  have hTh := hI.hTh
  have hFd := hI.hFd
  have hSn := hI.hSn
  have hSh := hI.hSh
  have hRan := hI.hRan
  have hLr := hI.hLr
  have hLt := hI.hLt
  have hgl := hI.hgl
  have hsz := hI.hsz
  have hcm := hI.hcm
  have hsl := hI.hsl
  have hkd := hI.hkd
  have hvv := hI.hvv
  have hli := hI.hli
  have hro := hI.hro
  have hrw := hI.hrw
  have htx := hI.htx
  have hsw := hI.hsw
  have hsx := hI.hsx
  have hsy := hI.hsy
  have hsh := hI.hsh
  have hle := hI.hle
  have hcl := hI.hcl
  have hwd := hI.hwd
  have hnu := hI.hnu
  have hwn := hI.hwn
  have hs1 := hI.hs1
  have hso := hI.hso
  refine Ev.run 2 (pc' := 2) (lv' := [(0, .ref 166), (1, .int (nI t)), (2, .int (nI i)), (3, .int (nI o)), (4, .int (nI j)), (5, .int (nI n))]) (st' := [.int (nI t), .ref 166]) (h' := HN (U g r w v) hl (RF rt)) rfl ?_
  refine Ev.call (a := 235) (as := [.ref 166, .int (nI t)]) (rest := []) (lv0 := [(0, .ref 166), (1, .int (nI t))]) (Q1 := (fun z0 h' => z0 = some (.int (nI (bn (decide (t ≤ 5))))) ∧ h' = HN (U g r w v) hl (RF rt))) rfl rfl (C_isTape _ _ _ _ t (by omega) ⟨rfl, rfl⟩) (fun r h' hr => ?_)
  obtain ⟨rfl, rfl⟩ := hr
  refine Ev_bn (fun hb5 => ?_) (fun hb5 => ?_)
  · have hhb5 : t ≤ 5 := of_decide_eq_true hb5
    refine Ev.run 3 (pc' := 10) (lv' := [(0, .ref 166), (1, .int (nI t)), (2, .int (nI i)), (3, .int (nI o)), (4, .int (nI j)), (5, .int (nI n))]) (st' := [.int (nI o), .ref 166]) (h' := HN (U g r w v) hl (RF rt)) rfl ?_
    refine Ev.call (a := 235) (as := [.ref 166, .int (nI o)]) (rest := []) (lv0 := [(0, .ref 166), (1, .int (nI o))]) (Q1 := (fun z0 h' => z0 = some (.int (nI (bn (decide (o ≤ 5))))) ∧ h' = HN (U g r w v) hl (RF rt))) rfl rfl (C_isTape _ _ _ _ o (by omega) ⟨rfl, rfl⟩) (fun r h' hr => ?_)
    obtain ⟨rfl, rfl⟩ := hr
    refine Ev_bn (fun hb13 => ?_) (fun hb13 => ?_)
    · have hhb13 : o ≤ 5 := of_decide_eq_true hb13
      refine Ev.run 1 (pc' := 18) (lv' := [(0, .ref 166), (1, .int (nI t)), (2, .int (nI i)), (3, .int (nI o)), (4, .int (nI j)), (5, .int (nI n))]) (st' := []) (h' := HN (U g r w v) hl (RF rt)) rfl ?_
      have hsot := hso t (by omega)
      have hlet := hle t (by omega)
      have hsoo := hso o (by omega)
      have hleo := hle o (by omega)
      refine Ev.run 3 (pc' := 23) (lv' := [(0, .ref 166), (1, .int (nI t)), (2, .int (nI i)), (3, .int (nI o)), (4, .int (nI j)), (5, .int (nI n))]) (st' := [.int (nI t), .ref 206]) (h' := HN (U g r w v) hl (RF rt)) rfl ?_
      refine Ev_iald rfl rfl (show t < 6 by omega) (Nat.le_of_ble_eq_true rfl) ?_
      refine Ev.run 1 (pc' := (if nI (g 206 t) < 0 then 36 else 27)) (lv' := [(0, .ref 166), (1, .int (nI t)), (2, .int (nI i)), (3, .int (nI o)), (4, .int (nI j)), (5, .int (nI n))]) (st' := []) (h' := HN (U g r w v) hl (RF rt)) rfl ?_
      refine Ev.ite (fun hc24 => ?_) (fun hc24 => ?_)
      · have hc24 : 2147483648 ≤ (g 206 t) := (nI_ltU0 (by omega)).mp hc24
        refine Ev.run 1 (pc' := 38) (lv' := [(0, .ref 166), (1, .int (nI t)), (2, .int (nI i)), (3, .int (nI o)), (4, .int (nI j)), (5, .int (nI n))]) (st' := [.int (nI 4294967285)]) (h' := HN (U g r w v) hl (RF rt)) rfl ?_
        refine Ev.ret (v := some (.int (nI 4294967285))) rfl ?_
        have hok : ¬ dc (okSh g t i o j n) = true := fun z1 => by
          have z2 := dc_p z1
          unfold okSh at z2
          omega
        unfold rs_shift hs_shift at hq
        rw [if_neg hok, if_neg hok, if_neg (by omega), if_pos (by omega)] at hq
        exact hq
      · have hc24 : ¬ (2147483648 ≤ (g 206 t)) := fun z => hc24 ((nI_ltU0 (by omega)).mpr z)
        refine Ev.run 3 (pc' := 32) (lv' := [(0, .ref 166), (1, .int (nI t)), (2, .int (nI i)), (3, .int (nI o)), (4, .int (nI j)), (5, .int (nI n))]) (st' := [.int (nI o), .ref 206]) (h' := HN (U g r w v) hl (RF rt)) rfl ?_
        refine Ev_iald rfl rfl (show o < 6 by omega) (Nat.le_of_ble_eq_true rfl) ?_
        refine Ev.run 1 (pc' := (if 0 ≤ nI (g 206 o) then 39 else 36)) (lv' := [(0, .ref 166), (1, .int (nI t)), (2, .int (nI i)), (3, .int (nI o)), (4, .int (nI j)), (5, .int (nI n))]) (st' := []) (h' := HN (U g r w v) hl (RF rt)) rfl ?_
        refine Ev.ite (fun hc33 => ?_) (fun hc33 => ?_)
        · have hc33 : (g 206 o) < 2147483648 := (nI_geU0 (by omega)).mp hc33
          refine Ev.run 3 (pc' := 44) (lv' := [(0, .ref 166), (1, .int (nI t)), (2, .int (nI i)), (3, .int (nI o)), (4, .int (nI j)), (5, .int (nI n))]) (st' := [.int (nI t), .ref 206]) (h' := HN (U g r w v) hl (RF rt)) rfl ?_
          refine Ev_iald rfl rfl (show t < 6 by omega) (Nat.le_of_ble_eq_true rfl) ?_
          refine Ev.run 3 (pc' := 50) (lv' := [(0, .ref 166), (1, .int (nI t)), (2, .int (nI i)), (3, .int (nI o)), (4, .int (nI j)), (5, .int (nI n))]) (st' := [.int (nI o), .ref 206, .int (nI (g 206 t))]) (h' := HN (U g r w v) hl (RF rt)) rfl ?_
          refine Ev_iald rfl rfl (show o < 6 by omega) (Nat.le_of_ble_eq_true rfl) ?_
          refine Ev.run 1 (pc' := (if nI (g 206 t) = nI (g 206 o) then 57 else 54)) (lv' := [(0, .ref 166), (1, .int (nI t)), (2, .int (nI i)), (3, .int (nI o)), (4, .int (nI j)), (5, .int (nI n))]) (st' := []) (h' := HN (U g r w v) hl (RF rt)) rfl ?_
          refine Ev.ite (fun hc51 => ?_) (fun hc51 => ?_)
          · have hc51 : (g 206 t) = (g 206 o) := (nI_eqU (by omega) (by omega)).mp hc51
            refine Ev.run 2 (pc' := (if nI n < 0 then 98 else 62)) (lv' := [(0, .ref 166), (1, .int (nI t)), (2, .int (nI i)), (3, .int (nI o)), (4, .int (nI j)), (5, .int (nI n))]) (st' := []) (h' := HN (U g r w v) hl (RF rt)) rfl ?_
            refine Ev.ite (fun hc59 => ?_) (fun hc59 => ?_)
            · have hc59 : 2147483648 ≤ n := (nI_ltU0 (by omega)).mp hc59
              refine Ev.run 1 (pc' := 100) (lv' := [(0, .ref 166), (1, .int (nI t)), (2, .int (nI i)), (3, .int (nI o)), (4, .int (nI j)), (5, .int (nI n))]) (st' := [.int (nI 4294967283)]) (h' := HN (U g r w v) hl (RF rt)) rfl ?_
              refine Ev.ret (v := some (.int (nI 4294967283))) rfl ?_
              have hok : ¬ dc (okSh g t i o j n) = true := fun z1 => by
                have z2 := dc_p z1
                unfold okSh at z2
                omega
              unfold rs_shift hs_shift at hq
              rw [if_neg hok, if_neg hok, if_neg (by omega), if_neg (by omega), if_neg (by omega)] at hq
              exact hq
            · have hc59 : ¬ (2147483648 ≤ n) := fun z => hc59 ((nI_ltU0 (by omega)).mpr z)
              refine Ev.run 2 (pc' := (if nI i < 0 then 98 else 66)) (lv' := [(0, .ref 166), (1, .int (nI t)), (2, .int (nI i)), (3, .int (nI o)), (4, .int (nI j)), (5, .int (nI n))]) (st' := []) (h' := HN (U g r w v) hl (RF rt)) rfl ?_
              refine Ev.ite (fun hc63 => ?_) (fun hc63 => ?_)
              · have hc63 : 2147483648 ≤ i := (nI_ltU0 (by omega)).mp hc63
                refine Ev.run 1 (pc' := 100) (lv' := [(0, .ref 166), (1, .int (nI t)), (2, .int (nI i)), (3, .int (nI o)), (4, .int (nI j)), (5, .int (nI n))]) (st' := [.int (nI 4294967283)]) (h' := HN (U g r w v) hl (RF rt)) rfl ?_
                refine Ev.ret (v := some (.int (nI 4294967283))) rfl ?_
                have hok : ¬ dc (okSh g t i o j n) = true := fun z1 => by
                  have z2 := dc_p z1
                  unfold okSh at z2
                  omega
                unfold rs_shift hs_shift at hq
                rw [if_neg hok, if_neg hok, if_neg (by omega), if_neg (by omega), if_neg (by omega)] at hq
                exact hq
              · have hc63 : ¬ (2147483648 ≤ i) := fun z => hc63 ((nI_ltU0 (by omega)).mpr z)
                refine Ev.run 2 (pc' := (if nI j < 0 then 98 else 71)) (lv' := [(0, .ref 166), (1, .int (nI t)), (2, .int (nI i)), (3, .int (nI o)), (4, .int (nI j)), (5, .int (nI n))]) (st' := []) (h' := HN (U g r w v) hl (RF rt)) rfl ?_
                refine Ev.ite (fun hc68 => ?_) (fun hc68 => ?_)
                · have hc68 : 2147483648 ≤ j := (nI_ltU0 (by omega)).mp hc68
                  refine Ev.run 1 (pc' := 100) (lv' := [(0, .ref 166), (1, .int (nI t)), (2, .int (nI i)), (3, .int (nI o)), (4, .int (nI j)), (5, .int (nI n))]) (st' := [.int (nI 4294967283)]) (h' := HN (U g r w v) hl (RF rt)) rfl ?_
                  refine Ev.ret (v := some (.int (nI 4294967283))) rfl ?_
                  have hok : ¬ dc (okSh g t i o j n) = true := fun z1 => by
                    have z2 := dc_p z1
                    unfold okSh at z2
                    omega
                  unfold rs_shift hs_shift at hq
                  rw [if_neg hok, if_neg hok, if_neg (by omega), if_neg (by omega), if_neg (by omega)] at hq
                  exact hq
                · have hc68 : ¬ (2147483648 ≤ j) := fun z => hc68 ((nI_ltU0 (by omega)).mpr z)
                  refine Ev.run 4 (pc' := 77) (lv' := [(0, .ref 166), (1, .int (nI t)), (2, .int (nI i)), (3, .int (nI o)), (4, .int (nI j)), (5, .int (nI n))]) (st' := [.int (nI t), .ref 207, .int (nI i)]) (h' := HN (U g r w v) hl (RF rt)) rfl ?_
                  refine Ev_iald rfl rfl (show t < 6 by omega) (Nat.le_of_ble_eq_true rfl) ?_
                  have hr0 := hle t (by omega)
                  refine Ev.run 3 (pc' := (if (nI (g 207 t) - nI n) < nI i then 98 else 84)) (lv' := [(0, .ref 166), (1, .int (nI t)), (2, .int (nI i)), (3, .int (nI o)), (4, .int (nI j)), (5, .int (nI n))]) (st' := []) (h' := HN (U g r w v) hl (RF rt)) rfl ?_
                  refine Ev.ite (fun hc81 => ?_) (fun hc81 => ?_)
                  · have hc81 : g 207 t < i + n := (nI_gtS (by omega) (by omega) (by omega)).mp hc81
                    refine Ev.run 1 (pc' := 100) (lv' := [(0, .ref 166), (1, .int (nI t)), (2, .int (nI i)), (3, .int (nI o)), (4, .int (nI j)), (5, .int (nI n))]) (st' := [.int (nI 4294967283)]) (h' := HN (U g r w v) hl (RF rt)) rfl ?_
                    refine Ev.ret (v := some (.int (nI 4294967283))) rfl ?_
                    have hok : ¬ dc (okSh g t i o j n) = true := fun z1 => by
                      have z2 := dc_p z1
                      unfold okSh at z2
                      omega
                    unfold rs_shift hs_shift at hq
                    rw [if_neg hok, if_neg hok, if_neg (by omega), if_neg (by omega), if_neg (by omega)] at hq
                    exact hq
                  · have hc81 : ¬ (g 207 t < i + n) := fun z => hc81 ((nI_gtS (by omega) (by omega) (by omega)).mpr z)
                    refine Ev.run 4 (pc' := 91) (lv' := [(0, .ref 166), (1, .int (nI t)), (2, .int (nI i)), (3, .int (nI o)), (4, .int (nI j)), (5, .int (nI n))]) (st' := [.int (nI o), .ref 207, .int (nI j)]) (h' := HN (U g r w v) hl (RF rt)) rfl ?_
                    refine Ev_iald rfl rfl (show o < 6 by omega) (Nat.le_of_ble_eq_true rfl) ?_
                    have hr1 := hle o (by omega)
                    refine Ev.run 3 (pc' := (if nI j ≤ (nI (g 207 o) - nI n) then 101 else 98)) (lv' := [(0, .ref 166), (1, .int (nI t)), (2, .int (nI i)), (3, .int (nI o)), (4, .int (nI j)), (5, .int (nI n))]) (st' := []) (h' := HN (U g r w v) hl (RF rt)) rfl ?_
                    refine Ev.ite (fun hc95 => ?_) (fun hc95 => ?_)
                    · have hc95 : j + n ≤ g 207 o := (nI_geS (by omega) (by omega) (by omega)).mp hc95
                      refine Ev.run 2 (pc' := 104) (lv' := [(6, .int (nI 0)), (0, .ref 166), (1, .int (nI t)), (2, .int (nI i)), (3, .int (nI o)), (4, .int (nI j)), (5, .int (nI n))]) (st' := []) (h' := HN (U g r w v) hl (RF rt)) rfl ?_
                      refine Ev.hp (congrArg (fun z => HN (U g r w v) z (RF rt)) (cpL_0 hl 209 0 (fun k => hl 208 (60 * t + i + k))).symm) ?_
                      refine for_ind n (fun m => Ev L xs (d + 2) 240 104 [(6, .int (nI m)), (0, .ref 166), (1, .int (nI t)), (2, .int (nI i)), (3, .int (nI o)), (4, .int (nI j)), (5, .int (nI n))] [] (HN (U g r w v) (cpL hl 209 0 m (fun k => hl 208 (60 * t + i + k))) (RF rt)) Q) (fun m hm hnext => ?_) 0 (Nat.zero_le _)
                      refine Ev.run 3 (pc' := (if nI n ≤ nI m then 138 else 111)) (lv' := [(6, .int (nI m)), (0, .ref 166), (1, .int (nI t)), (2, .int (nI i)), (3, .int (nI o)), (4, .int (nI j)), (5, .int (nI n))]) (st' := []) (h' := HN (U g r w v) (cpL hl 209 0 m (fun k => hl 208 (60 * t + i + k))) (RF rt)) rfl ?_
                      refine Ev.ite (fun hc108 => ?_) (fun hc108 => ?_)
                      · have hc108 : n ≤ m := (nI_leI (by omega) (by omega)).mp hc108
                        refine Ev.run 2 (pc' := 141) (lv' := [(6, .int (nI 0)), (0, .ref 166), (1, .int (nI t)), (2, .int (nI i)), (3, .int (nI o)), (4, .int (nI j)), (5, .int (nI n))]) (st' := []) (h' := HN (U g r w v) (cpL hl 209 0 m (fun k => hl 208 (60 * t + i + k))) (RF rt)) rfl ?_
                        rw [show m = n by omega]
                        refine Ev.hp (congrArg (fun z => HN (U g r w v) z (RF rt)) (cpL_0 (cpL hl 209 0 n (fun k => hl 208 (60 * t + i + k))) 208 (60 * o + j) (fun k => hl 208 (60 * t + i + k))).symm) ?_
                        refine for_ind n (fun m => Ev L xs (d + 2) 240 141 [(6, .int (nI m)), (0, .ref 166), (1, .int (nI t)), (2, .int (nI i)), (3, .int (nI o)), (4, .int (nI j)), (5, .int (nI n))] [] (HN (U g r w v) (cpL (cpL hl 209 0 n (fun k => hl 208 (60 * t + i + k))) 208 (60 * o + j) m (fun k => hl 208 (60 * t + i + k))) (RF rt)) Q) (fun m hm hnext => ?_) 0 (Nat.zero_le _)
                        refine Ev.run 3 (pc' := (if nI n ≤ nI m then 176 else 148)) (lv' := [(6, .int (nI m)), (0, .ref 166), (1, .int (nI t)), (2, .int (nI i)), (3, .int (nI o)), (4, .int (nI j)), (5, .int (nI n))]) (st' := []) (h' := HN (U g r w v) (cpL (cpL hl 209 0 n (fun k => hl 208 (60 * t + i + k))) 208 (60 * o + j) m (fun k => hl 208 (60 * t + i + k))) (RF rt)) rfl ?_
                        refine Ev.ite (fun hc145 => ?_) (fun hc145 => ?_)
                        · have hc145 : n ≤ m := (nI_leI (by omega) (by omega)).mp hc145
                          refine Ev.run 1 (pc' := 178) (lv' := [(6, .int (nI m)), (0, .ref 166), (1, .int (nI t)), (2, .int (nI i)), (3, .int (nI o)), (4, .int (nI j)), (5, .int (nI n))]) (st' := [.int (nI n)]) (h' := HN (U g r w v) (cpL (cpL hl 209 0 n (fun k => hl 208 (60 * t + i + k))) 208 (60 * o + j) m (fun k => hl 208 (60 * t + i + k))) (RF rt)) rfl ?_
                          refine Ev.ret (v := some (.int (nI n))) rfl ?_
                          have hok : dc (okSh g t i o j n) = true := dc_t ⟨by omega, by omega, by omega, by omega, by omega, by omega, by omega, by omega, by omega, by omega⟩
                          unfold rs_shift hs_shift at hq
                          rw [if_pos hok, if_pos hok] at hq
                          rw [show m = n by omega]
                          exact hq
                        · have hc145 : ¬ (n ≤ m) := fun z => hc145 ((nI_leI (by omega) (by omega)).mpr z)
                          refine Ev.run 5 (pc' := 156) (lv' := [(6, .int (nI m)), (0, .ref 166), (1, .int (nI t)), (2, .int (nI i)), (3, .int (nI o)), (4, .int (nI j)), (5, .int (nI n))]) (st' := [.int (nI 60 * nI o), .ref 208]) (h' := HN (U g r w v) (cpL (cpL hl 209 0 n (fun k => hl 208 (60 * t + i + k))) 208 (60 * o + j) m (fun k => hl 208 (60 * t + i + k))) (RF rt)) rfl ?_
                          refine Ev.topI (pk_mul _ _) ?_
                          refine Ev.run 2 (pc' := 159) (lv' := [(6, .int (nI m)), (0, .ref 166), (1, .int (nI t)), (2, .int (nI i)), (3, .int (nI o)), (4, .int (nI j)), (5, .int (nI n))]) (st' := [.int (nI (60 * o) + nI j), .ref 208]) (h' := HN (U g r w v) (cpL (cpL hl 209 0 n (fun k => hl 208 (60 * t + i + k))) 208 (60 * o + j) m (fun k => hl 208 (60 * t + i + k))) (RF rt)) rfl ?_
                          refine Ev.topI (nI_add _ _) ?_
                          refine Ev.run 2 (pc' := 162) (lv' := [(6, .int (nI m)), (0, .ref 166), (1, .int (nI t)), (2, .int (nI i)), (3, .int (nI o)), (4, .int (nI j)), (5, .int (nI n))]) (st' := [.int (nI ((60 * o) + j) + nI m), .ref 208]) (h' := HN (U g r w v) (cpL (cpL hl 209 0 n (fun k => hl 208 (60 * t + i + k))) 208 (60 * o + j) m (fun k => hl 208 (60 * t + i + k))) (RF rt)) rfl ?_
                          refine Ev.topI (nI_add _ _) ?_
                          refine Ev.run 3 (pc' := 168) (lv' := [(6, .int (nI m)), (0, .ref 166), (1, .int (nI t)), (2, .int (nI i)), (3, .int (nI o)), (4, .int (nI j)), (5, .int (nI n))]) (st' := [.int (nI m), .ref 209, .int (nI (((60 * o) + j) + m)), .ref 208]) (h' := HN (U g r w v) (cpL (cpL hl 209 0 n (fun k => hl 208 (60 * t + i + k))) 208 (60 * o + j) m (fun k => hl 208 (60 * t + i + k))) (RF rt)) rfl ?_
                          refine Ev_lald rfl rfl (show m < 60 by omega) (Nat.le_of_ble_eq_true rfl) ?_
                          refine Ev.topL (show (cpL (cpL hl 209 0 n (fun k => hl 208 (60 * t + i + k))) 208 (60 * o + j) m (fun k => hl 208 (60 * t + i + k))) 209 m = hl 208 (60 * t + i + m) from (by show (cpL hl 209 0 n (fun k => hl 208 (60 * t + i + k))) 209 m = _; unfold cpL; rw [if_pos rfl, if_pos (by omega)]; rfl)) ?_
                          refine Ev_last rfl rfl (show ((60 * o) + j) + m < 360 by omega) (Nat.le_of_ble_eq_true rfl) ?_
                          refine Ev.run 1 (pc' := 173) (lv' := [(6, .int (nI m + 1)), (0, .ref 166), (1, .int (nI t)), (2, .int (nI i)), (3, .int (nI o)), (4, .int (nI j)), (5, .int (nI n))]) (st' := []) (h' := HN (U g r w v) (u2 (cpL (cpL hl 209 0 n (fun k => hl 208 (60 * t + i + k))) 208 (60 * o + j) m (fun k => hl 208 (60 * t + i + k))) 208 (((60 * o) + j) + m) (hl 208 (60 * t + i + m))) (RF rt)) rfl ?_
                          refine Ev.lvE (congrArg (fun z => (6, Value.int z) :: [(0, .ref 166), (1, .int (nI t)), (2, .int (nI i)), (3, .int (nI o)), (4, .int (nI j)), (5, .int (nI n))]) (nI_1 _)) ?_
                          refine Ev.run 1 (pc' := 141) (lv' := [(6, .int (nI (m + 1))), (0, .ref 166), (1, .int (nI t)), (2, .int (nI i)), (3, .int (nI o)), (4, .int (nI j)), (5, .int (nI n))]) (st' := []) (h' := HN (U g r w v) (u2 (cpL (cpL hl 209 0 n (fun k => hl 208 (60 * t + i + k))) 208 (60 * o + j) m (fun k => hl 208 (60 * t + i + k))) 208 (((60 * o) + j) + m) (hl 208 (60 * t + i + m))) (RF rt)) rfl ?_
                          have hx := hnext (by omega)
                          rw [← cpL_s] at hx
                          exact hx
                      · have hc108 : ¬ (n ≤ m) := fun z => hc108 ((nI_leI (by omega) (by omega)).mpr z)
                        refine Ev.run 8 (pc' := 125) (lv' := [(6, .int (nI m)), (0, .ref 166), (1, .int (nI t)), (2, .int (nI i)), (3, .int (nI o)), (4, .int (nI j)), (5, .int (nI n))]) (st' := [.int (nI 60 * nI t), .ref 208, .int (nI m), .ref 209]) (h' := HN (U g r w v) (cpL hl 209 0 m (fun k => hl 208 (60 * t + i + k))) (RF rt)) rfl ?_
                        refine Ev.topI (pk_mul _ _) ?_
                        refine Ev.run 2 (pc' := 127) (lv' := [(6, .int (nI m)), (0, .ref 166), (1, .int (nI t)), (2, .int (nI i)), (3, .int (nI o)), (4, .int (nI j)), (5, .int (nI n))]) (st' := [.int (nI (60 * t) + nI i), .ref 208, .int (nI m), .ref 209]) (h' := HN (U g r w v) (cpL hl 209 0 m (fun k => hl 208 (60 * t + i + k))) (RF rt)) rfl ?_
                        refine Ev.topI (nI_add _ _) ?_
                        refine Ev.run 2 (pc' := 130) (lv' := [(6, .int (nI m)), (0, .ref 166), (1, .int (nI t)), (2, .int (nI i)), (3, .int (nI o)), (4, .int (nI j)), (5, .int (nI n))]) (st' := [.int (nI ((60 * t) + i) + nI m), .ref 208, .int (nI m), .ref 209]) (h' := HN (U g r w v) (cpL hl 209 0 m (fun k => hl 208 (60 * t + i + k))) (RF rt)) rfl ?_
                        refine Ev.topI (nI_add _ _) ?_
                        refine Ev_lald rfl rfl (show ((60 * t) + i) + m < 360 by omega) (Nat.le_of_ble_eq_true rfl) ?_
                        refine Ev_last rfl rfl (show m < 60 by omega) (Nat.le_of_ble_eq_true rfl) ?_
                        refine Ev.run 1 (pc' := 135) (lv' := [(6, .int (nI m + 1)), (0, .ref 166), (1, .int (nI t)), (2, .int (nI i)), (3, .int (nI o)), (4, .int (nI j)), (5, .int (nI n))]) (st' := []) (h' := HN (U g r w v) (u2 (cpL hl 209 0 m (fun k => hl 208 (60 * t + i + k))) 209 m ((cpL hl 209 0 m (fun k => hl 208 (60 * t + i + k))) 208 (((60 * t) + i) + m))) (RF rt)) rfl ?_
                        refine Ev.lvE (congrArg (fun z => (6, Value.int z) :: [(0, .ref 166), (1, .int (nI t)), (2, .int (nI i)), (3, .int (nI o)), (4, .int (nI j)), (5, .int (nI n))]) (nI_1 _)) ?_
                        refine Ev.run 1 (pc' := 104) (lv' := [(6, .int (nI (m + 1))), (0, .ref 166), (1, .int (nI t)), (2, .int (nI i)), (3, .int (nI o)), (4, .int (nI j)), (5, .int (nI n))]) (st' := []) (h' := HN (U g r w v) (u2 (cpL hl 209 0 m (fun k => hl 208 (60 * t + i + k))) 209 m ((cpL hl 209 0 m (fun k => hl 208 (60 * t + i + k))) 208 (((60 * t) + i) + m))) (RF rt)) rfl ?_
                        have hx := hnext (by omega)
                        rw [← cpL_s, Nat.zero_add] at hx
                        exact hx
                    · have hc95 : ¬ (j + n ≤ g 207 o) := fun z => hc95 ((nI_geS (by omega) (by omega) (by omega)).mpr z)
                      refine Ev.run 1 (pc' := 100) (lv' := [(0, .ref 166), (1, .int (nI t)), (2, .int (nI i)), (3, .int (nI o)), (4, .int (nI j)), (5, .int (nI n))]) (st' := [.int (nI 4294967283)]) (h' := HN (U g r w v) hl (RF rt)) rfl ?_
                      refine Ev.ret (v := some (.int (nI 4294967283))) rfl ?_
                      have hok : ¬ dc (okSh g t i o j n) = true := fun z1 => by
                        have z2 := dc_p z1
                        unfold okSh at z2
                        omega
                      unfold rs_shift hs_shift at hq
                      rw [if_neg hok, if_neg hok, if_neg (by omega), if_neg (by omega), if_neg (by omega)] at hq
                      exact hq
          · have hc51 : ¬ ((g 206 t) = (g 206 o)) := fun z => hc51 ((nI_eqU (by omega) (by omega)).mpr z)
            refine Ev.run 1 (pc' := 56) (lv' := [(0, .ref 166), (1, .int (nI t)), (2, .int (nI i)), (3, .int (nI o)), (4, .int (nI j)), (5, .int (nI n))]) (st' := [.int (nI 4294967284)]) (h' := HN (U g r w v) hl (RF rt)) rfl ?_
            refine Ev.ret (v := some (.int (nI 4294967284))) rfl ?_
            have hok : ¬ dc (okSh g t i o j n) = true := fun z1 => by
              have z2 := dc_p z1
              unfold okSh at z2
              omega
            unfold rs_shift hs_shift at hq
            rw [if_neg hok, if_neg hok, if_neg (by omega), if_neg (by omega), if_pos (by omega)] at hq
            exact hq
        · have hc33 : ¬ ((g 206 o) < 2147483648) := fun z => hc33 ((nI_geU0 (by omega)).mpr z)
          refine Ev.run 1 (pc' := 38) (lv' := [(0, .ref 166), (1, .int (nI t)), (2, .int (nI i)), (3, .int (nI o)), (4, .int (nI j)), (5, .int (nI n))]) (st' := [.int (nI 4294967285)]) (h' := HN (U g r w v) hl (RF rt)) rfl ?_
          refine Ev.ret (v := some (.int (nI 4294967285))) rfl ?_
          have hok : ¬ dc (okSh g t i o j n) = true := fun z1 => by
            have z2 := dc_p z1
            unfold okSh at z2
            omega
          unfold rs_shift hs_shift at hq
          rw [if_neg hok, if_neg hok, if_neg (by omega), if_pos (by omega)] at hq
          exact hq
    · have hhb13 : ¬ (o ≤ 5) := of_decide_eq_false hb13
      refine Ev.run 2 (pc' := 17) (lv' := [(0, .ref 166), (1, .int (nI t)), (2, .int (nI i)), (3, .int (nI o)), (4, .int (nI j)), (5, .int (nI n))]) (st' := [.int (nI 4294967295)]) (h' := HN (U g r w v) hl (RF rt)) rfl ?_
      refine Ev.ret (v := some (.int (nI 4294967295))) rfl ?_
      have hok : ¬ dc (okSh g t i o j n) = true := fun z1 => by
        have z2 := dc_p z1
        unfold okSh at z2
        omega
      unfold rs_shift hs_shift at hq
      rw [if_neg hok, if_neg hok, if_pos (by omega)] at hq
      exact hq
  · have hhb5 : ¬ (t ≤ 5) := of_decide_eq_false hb5
    refine Ev.run 2 (pc' := 17) (lv' := [(0, .ref 166), (1, .int (nI t)), (2, .int (nI i)), (3, .int (nI o)), (4, .int (nI j)), (5, .int (nI n))]) (st' := [.int (nI 4294967295)]) (h' := HN (U g r w v) hl (RF rt)) rfl ?_
    refine Ev.ret (v := some (.int (nI 4294967295))) rfl ?_
    have hok : ¬ dc (okSh g t i o j n) = true := fun z1 => by
      have z2 := dc_p z1
      unfold okSh at z2
      omega
    unfold rs_shift hs_shift at hq
    rw [if_neg hok, if_neg hok, if_pos (by omega)] at hq
    exact hq
