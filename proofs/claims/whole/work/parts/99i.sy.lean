/-! the image on both sides -/
theorem imG_o (g : Nat → Nat → Nat) {c : Nat} (h : c < 166 ∨ (167 ≤ c ∧ c ≤ 192) ∨ 204 < c) : imG g c = g c := by
  unfold imG
  rw [(cpR_f _ 204 8 _).1 c (by omega), (cpR_f _ 203 6 _).1 c (by omega), (cpR_f _ 202 6 _).1 c (by omega), (cpR_f _ 201 6 _).1 c (by omega), (cpR_f _ 199 20 _).1 c (by omega), (cpR_f _ 198 5 _).1 c (by omega), (cpR_f _ 197 5 _).1 c (by omega), (cpR_f _ 196 5 _).1 c (by omega), (cpR_f _ 200 12 _).1 c (by omega), (cpR_f _ 195 12 _).1 c (by omega), (cpR_f _ 194 12 _).1 c (by omega), (cpR_f _ 193 72 _).1 c (by omega), (u2_f _ 166 58 _).1 c (by omega), (u2_f _ 166 57 _).1 c (by omega), (u2_f _ 166 56 _).1 c (by omega), (u2_f _ 166 55 _).1 c (by omega), (u2_f _ 166 54 _).1 c (by omega), (u2_f _ 166 53 _).1 c (by omega), (u2_f _ 166 52 _).1 c (by omega), (u2_f _ 166 51 _).1 c (by omega), (u2_f _ 166 50 _).1 c (by omega)]
theorem imG_f (g : Nat → Nat → Nat) {j : Nat} (h : j < 50 ∨ 58 < j) : imG g 166 j = g 166 j := by
  unfold imG
  rw [(cpR_f _ 204 8 _).1 166 (by decide), (cpR_f _ 203 6 _).1 166 (by decide), (cpR_f _ 202 6 _).1 166 (by decide), (cpR_f _ 201 6 _).1 166 (by decide), (cpR_f _ 199 20 _).1 166 (by decide), (cpR_f _ 198 5 _).1 166 (by decide), (cpR_f _ 197 5 _).1 166 (by decide), (cpR_f _ 196 5 _).1 166 (by decide), (cpR_f _ 200 12 _).1 166 (by decide), (cpR_f _ 195 12 _).1 166 (by decide), (cpR_f _ 194 12 _).1 166 (by decide), (cpR_f _ 193 72 _).1 166 (by decide), (u2_f _ 166 58 _).2.2 j (by omega), (u2_f _ 166 57 _).2.2 j (by omega), (u2_f _ 166 56 _).2.2 j (by omega), (u2_f _ 166 55 _).2.2 j (by omega), (u2_f _ 166 54 _).2.2 j (by omega), (u2_f _ 166 53 _).2.2 j (by omega), (u2_f _ 166 52 _).2.2 j (by omega), (u2_f _ 166 51 _).2.2 j (by omega), (u2_f _ 166 50 _).2.2 j (by omega)]
theorem unG_o (g : Nat → Nat → Nat) {c : Nat} (h : c < 166 ∨ c = 170 ∨ (176 ≤ c ∧ c ≤ 188) ∨ 192 < c) : unG g c = g c := by
  unfold unG
  rw [(cpR_f _ 192 8 _).1 c (by omega), (cpR_f _ 191 6 _).1 c (by omega), (cpR_f _ 190 6 _).1 c (by omega), (cpR_f _ 189 6 _).1 c (by omega), (cpR_f _ 174 20 _).1 c (by omega), (cpR_f _ 173 5 _).1 c (by omega), (cpR_f _ 172 5 _).1 c (by omega), (cpR_f _ 171 5 _).1 c (by omega), (cpR_f _ 175 12 _).1 c (by omega), (cpR_f _ 169 12 _).1 c (by omega), (cpR_f _ 168 12 _).1 c (by omega), (cpR_f _ 167 72 _).1 c (by omega), (u2_f _ 166 48 _).1 c (by omega), (u2_f _ 166 44 _).1 c (by omega), (u2_f _ 166 9 _).1 c (by omega), (u2_f _ 166 8 _).1 c (by omega), (u2_f _ 166 7 _).1 c (by omega), (u2_f _ 166 6 _).1 c (by omega), (u2_f _ 166 0 _).1 c (by omega), (u2_f _ 166 16 _).1 c (by omega)]
theorem unG_f (g : Nat → Nat → Nat) {j : Nat} (h : j ≠ 0 ∧ j ≠ 6 ∧ j ≠ 7 ∧ j ≠ 8 ∧ j ≠ 9 ∧ j ≠ 16 ∧ j ≠ 44 ∧ j ≠ 48) : unG g 166 j = g 166 j := by
  unfold unG
  rw [(cpR_f _ 192 8 _).1 166 (by decide), (cpR_f _ 191 6 _).1 166 (by decide), (cpR_f _ 190 6 _).1 166 (by decide), (cpR_f _ 189 6 _).1 166 (by decide), (cpR_f _ 174 20 _).1 166 (by decide), (cpR_f _ 173 5 _).1 166 (by decide), (cpR_f _ 172 5 _).1 166 (by decide), (cpR_f _ 171 5 _).1 166 (by decide), (cpR_f _ 175 12 _).1 166 (by decide), (cpR_f _ 169 12 _).1 166 (by decide), (cpR_f _ 168 12 _).1 166 (by decide), (cpR_f _ 167 72 _).1 166 (by decide), (u2_f _ 166 48 _).2.2 j (by omega), (u2_f _ 166 44 _).2.2 j (by omega), (u2_f _ 166 9 _).2.2 j (by omega), (u2_f _ 166 8 _).2.2 j (by omega), (u2_f _ 166 7 _).2.2 j (by omega), (u2_f _ 166 6 _).2.2 j (by omega), (u2_f _ 166 0 _).2.2 j (by omega), (u2_f _ 166 16 _).2.2 j (by omega)]
theorem imG_193 (g : Nat → Nat → Nat) {j : Nat} (h : j < 72) : imG g 193 j = g 167 j := by
  unfold imG
  rw [(cpR_f _ 204 8 _).1 193 (by decide), (cpR_f _ 203 6 _).1 193 (by decide), (cpR_f _ 202 6 _).1 193 (by decide), (cpR_f _ 201 6 _).1 193 (by decide), (cpR_f _ 199 20 _).1 193 (by decide), (cpR_f _ 198 5 _).1 193 (by decide), (cpR_f _ 197 5 _).1 193 (by decide), (cpR_f _ 196 5 _).1 193 (by decide), (cpR_f _ 200 12 _).1 193 (by decide), (cpR_f _ 195 12 _).1 193 (by decide), (cpR_f _ 194 12 _).1 193 (by decide), (cpR_f _ 193 72 _).2 j h]
theorem unG_193 (g : Nat → Nat → Nat) {j : Nat} (h : j < 72) : unG g 167 j = g 193 j := by
  unfold unG
  rw [(cpR_f _ 192 8 _).1 167 (by decide), (cpR_f _ 191 6 _).1 167 (by decide), (cpR_f _ 190 6 _).1 167 (by decide), (cpR_f _ 189 6 _).1 167 (by decide), (cpR_f _ 174 20 _).1 167 (by decide), (cpR_f _ 173 5 _).1 167 (by decide), (cpR_f _ 172 5 _).1 167 (by decide), (cpR_f _ 171 5 _).1 167 (by decide), (cpR_f _ 175 12 _).1 167 (by decide), (cpR_f _ 169 12 _).1 167 (by decide), (cpR_f _ 168 12 _).1 167 (by decide), (cpR_f _ 167 72 _).2 j h]
theorem imG_194 (g : Nat → Nat → Nat) {j : Nat} (h : j < 12) : imG g 194 j = g 168 j := by
  unfold imG
  rw [(cpR_f _ 204 8 _).1 194 (by decide), (cpR_f _ 203 6 _).1 194 (by decide), (cpR_f _ 202 6 _).1 194 (by decide), (cpR_f _ 201 6 _).1 194 (by decide), (cpR_f _ 199 20 _).1 194 (by decide), (cpR_f _ 198 5 _).1 194 (by decide), (cpR_f _ 197 5 _).1 194 (by decide), (cpR_f _ 196 5 _).1 194 (by decide), (cpR_f _ 200 12 _).1 194 (by decide), (cpR_f _ 195 12 _).1 194 (by decide), (cpR_f _ 194 12 _).2 j h]
theorem unG_194 (g : Nat → Nat → Nat) {j : Nat} (h : j < 12) : unG g 168 j = g 194 j := by
  unfold unG
  rw [(cpR_f _ 192 8 _).1 168 (by decide), (cpR_f _ 191 6 _).1 168 (by decide), (cpR_f _ 190 6 _).1 168 (by decide), (cpR_f _ 189 6 _).1 168 (by decide), (cpR_f _ 174 20 _).1 168 (by decide), (cpR_f _ 173 5 _).1 168 (by decide), (cpR_f _ 172 5 _).1 168 (by decide), (cpR_f _ 171 5 _).1 168 (by decide), (cpR_f _ 175 12 _).1 168 (by decide), (cpR_f _ 169 12 _).1 168 (by decide), (cpR_f _ 168 12 _).2 j h]
theorem imG_195 (g : Nat → Nat → Nat) {j : Nat} (h : j < 12) : imG g 195 j = g 169 j := by
  unfold imG
  rw [(cpR_f _ 204 8 _).1 195 (by decide), (cpR_f _ 203 6 _).1 195 (by decide), (cpR_f _ 202 6 _).1 195 (by decide), (cpR_f _ 201 6 _).1 195 (by decide), (cpR_f _ 199 20 _).1 195 (by decide), (cpR_f _ 198 5 _).1 195 (by decide), (cpR_f _ 197 5 _).1 195 (by decide), (cpR_f _ 196 5 _).1 195 (by decide), (cpR_f _ 200 12 _).1 195 (by decide), (cpR_f _ 195 12 _).2 j h]
theorem unG_195 (g : Nat → Nat → Nat) {j : Nat} (h : j < 12) : unG g 169 j = g 195 j := by
  unfold unG
  rw [(cpR_f _ 192 8 _).1 169 (by decide), (cpR_f _ 191 6 _).1 169 (by decide), (cpR_f _ 190 6 _).1 169 (by decide), (cpR_f _ 189 6 _).1 169 (by decide), (cpR_f _ 174 20 _).1 169 (by decide), (cpR_f _ 173 5 _).1 169 (by decide), (cpR_f _ 172 5 _).1 169 (by decide), (cpR_f _ 171 5 _).1 169 (by decide), (cpR_f _ 175 12 _).1 169 (by decide), (cpR_f _ 169 12 _).2 j h]
theorem imG_200 (g : Nat → Nat → Nat) {j : Nat} (h : j < 12) : imG g 200 j = g 175 j := by
  unfold imG
  rw [(cpR_f _ 204 8 _).1 200 (by decide), (cpR_f _ 203 6 _).1 200 (by decide), (cpR_f _ 202 6 _).1 200 (by decide), (cpR_f _ 201 6 _).1 200 (by decide), (cpR_f _ 199 20 _).1 200 (by decide), (cpR_f _ 198 5 _).1 200 (by decide), (cpR_f _ 197 5 _).1 200 (by decide), (cpR_f _ 196 5 _).1 200 (by decide), (cpR_f _ 200 12 _).2 j h]
theorem unG_200 (g : Nat → Nat → Nat) {j : Nat} (h : j < 12) : unG g 175 j = g 200 j := by
  unfold unG
  rw [(cpR_f _ 192 8 _).1 175 (by decide), (cpR_f _ 191 6 _).1 175 (by decide), (cpR_f _ 190 6 _).1 175 (by decide), (cpR_f _ 189 6 _).1 175 (by decide), (cpR_f _ 174 20 _).1 175 (by decide), (cpR_f _ 173 5 _).1 175 (by decide), (cpR_f _ 172 5 _).1 175 (by decide), (cpR_f _ 171 5 _).1 175 (by decide), (cpR_f _ 175 12 _).2 j h]
theorem imG_196 (g : Nat → Nat → Nat) {j : Nat} (h : j < 5) : imG g 196 j = g 171 j := by
  unfold imG
  rw [(cpR_f _ 204 8 _).1 196 (by decide), (cpR_f _ 203 6 _).1 196 (by decide), (cpR_f _ 202 6 _).1 196 (by decide), (cpR_f _ 201 6 _).1 196 (by decide), (cpR_f _ 199 20 _).1 196 (by decide), (cpR_f _ 198 5 _).1 196 (by decide), (cpR_f _ 197 5 _).1 196 (by decide), (cpR_f _ 196 5 _).2 j h]
theorem unG_196 (g : Nat → Nat → Nat) {j : Nat} (h : j < 5) : unG g 171 j = g 196 j := by
  unfold unG
  rw [(cpR_f _ 192 8 _).1 171 (by decide), (cpR_f _ 191 6 _).1 171 (by decide), (cpR_f _ 190 6 _).1 171 (by decide), (cpR_f _ 189 6 _).1 171 (by decide), (cpR_f _ 174 20 _).1 171 (by decide), (cpR_f _ 173 5 _).1 171 (by decide), (cpR_f _ 172 5 _).1 171 (by decide), (cpR_f _ 171 5 _).2 j h]
theorem imG_197 (g : Nat → Nat → Nat) {j : Nat} (h : j < 5) : imG g 197 j = g 172 j := by
  unfold imG
  rw [(cpR_f _ 204 8 _).1 197 (by decide), (cpR_f _ 203 6 _).1 197 (by decide), (cpR_f _ 202 6 _).1 197 (by decide), (cpR_f _ 201 6 _).1 197 (by decide), (cpR_f _ 199 20 _).1 197 (by decide), (cpR_f _ 198 5 _).1 197 (by decide), (cpR_f _ 197 5 _).2 j h]
theorem unG_197 (g : Nat → Nat → Nat) {j : Nat} (h : j < 5) : unG g 172 j = g 197 j := by
  unfold unG
  rw [(cpR_f _ 192 8 _).1 172 (by decide), (cpR_f _ 191 6 _).1 172 (by decide), (cpR_f _ 190 6 _).1 172 (by decide), (cpR_f _ 189 6 _).1 172 (by decide), (cpR_f _ 174 20 _).1 172 (by decide), (cpR_f _ 173 5 _).1 172 (by decide), (cpR_f _ 172 5 _).2 j h]
theorem imG_198 (g : Nat → Nat → Nat) {j : Nat} (h : j < 5) : imG g 198 j = g 173 j := by
  unfold imG
  rw [(cpR_f _ 204 8 _).1 198 (by decide), (cpR_f _ 203 6 _).1 198 (by decide), (cpR_f _ 202 6 _).1 198 (by decide), (cpR_f _ 201 6 _).1 198 (by decide), (cpR_f _ 199 20 _).1 198 (by decide), (cpR_f _ 198 5 _).2 j h]
theorem unG_198 (g : Nat → Nat → Nat) {j : Nat} (h : j < 5) : unG g 173 j = g 198 j := by
  unfold unG
  rw [(cpR_f _ 192 8 _).1 173 (by decide), (cpR_f _ 191 6 _).1 173 (by decide), (cpR_f _ 190 6 _).1 173 (by decide), (cpR_f _ 189 6 _).1 173 (by decide), (cpR_f _ 174 20 _).1 173 (by decide), (cpR_f _ 173 5 _).2 j h]
theorem imG_199 (g : Nat → Nat → Nat) {j : Nat} (h : j < 20) : imG g 199 j = g 174 j := by
  unfold imG
  rw [(cpR_f _ 204 8 _).1 199 (by decide), (cpR_f _ 203 6 _).1 199 (by decide), (cpR_f _ 202 6 _).1 199 (by decide), (cpR_f _ 201 6 _).1 199 (by decide), (cpR_f _ 199 20 _).2 j h]
theorem unG_199 (g : Nat → Nat → Nat) {j : Nat} (h : j < 20) : unG g 174 j = g 199 j := by
  unfold unG
  rw [(cpR_f _ 192 8 _).1 174 (by decide), (cpR_f _ 191 6 _).1 174 (by decide), (cpR_f _ 190 6 _).1 174 (by decide), (cpR_f _ 189 6 _).1 174 (by decide), (cpR_f _ 174 20 _).2 j h]
theorem imG_201 (g : Nat → Nat → Nat) {j : Nat} (h : j < 6) : imG g 201 j = g 189 j := by
  unfold imG
  rw [(cpR_f _ 204 8 _).1 201 (by decide), (cpR_f _ 203 6 _).1 201 (by decide), (cpR_f _ 202 6 _).1 201 (by decide), (cpR_f _ 201 6 _).2 j h]
theorem unG_201 (g : Nat → Nat → Nat) {j : Nat} (h : j < 6) : unG g 189 j = g 201 j := by
  unfold unG
  rw [(cpR_f _ 192 8 _).1 189 (by decide), (cpR_f _ 191 6 _).1 189 (by decide), (cpR_f _ 190 6 _).1 189 (by decide), (cpR_f _ 189 6 _).2 j h]
theorem imG_202 (g : Nat → Nat → Nat) {j : Nat} (h : j < 6) : imG g 202 j = g 190 j := by
  unfold imG
  rw [(cpR_f _ 204 8 _).1 202 (by decide), (cpR_f _ 203 6 _).1 202 (by decide), (cpR_f _ 202 6 _).2 j h]
theorem unG_202 (g : Nat → Nat → Nat) {j : Nat} (h : j < 6) : unG g 190 j = g 202 j := by
  unfold unG
  rw [(cpR_f _ 192 8 _).1 190 (by decide), (cpR_f _ 191 6 _).1 190 (by decide), (cpR_f _ 190 6 _).2 j h]
theorem imG_203 (g : Nat → Nat → Nat) {j : Nat} (h : j < 6) : imG g 203 j = g 191 j := by
  unfold imG
  rw [(cpR_f _ 204 8 _).1 203 (by decide), (cpR_f _ 203 6 _).2 j h]
theorem unG_203 (g : Nat → Nat → Nat) {j : Nat} (h : j < 6) : unG g 191 j = g 203 j := by
  unfold unG
  rw [(cpR_f _ 192 8 _).1 191 (by decide), (cpR_f _ 191 6 _).2 j h]
theorem imG_204 (g : Nat → Nat → Nat) {j : Nat} (h : j < 8) : imG g 204 j = g 192 j := by
  unfold imG
  rw [(cpR_f _ 204 8 _).2 j h]
theorem unG_204 (g : Nat → Nat → Nat) {j : Nat} (h : j < 8) : unG g 192 j = g 204 j := by
  unfold unG
  rw [(cpR_f _ 192 8 _).2 j h]
theorem imG_f51 (g : Nat → Nat → Nat) : imG g 166 51 = g 166 16 := rfl
theorem unG_f51 (g : Nat → Nat → Nat) : unG g 166 16 = g 166 51 := rfl
theorem imG_f52 (g : Nat → Nat → Nat) : imG g 166 52 = g 166 0 := rfl
theorem unG_f52 (g : Nat → Nat → Nat) : unG g 166 0 = g 166 52 := rfl
theorem imG_f53 (g : Nat → Nat → Nat) : imG g 166 53 = g 166 6 := rfl
theorem unG_f53 (g : Nat → Nat → Nat) : unG g 166 6 = g 166 53 := rfl
theorem imG_f54 (g : Nat → Nat → Nat) : imG g 166 54 = g 166 7 := rfl
theorem unG_f54 (g : Nat → Nat → Nat) : unG g 166 7 = g 166 54 := rfl
theorem imG_f55 (g : Nat → Nat → Nat) : imG g 166 55 = g 166 8 := rfl
theorem unG_f55 (g : Nat → Nat → Nat) : unG g 166 8 = g 166 55 := rfl
theorem imG_f56 (g : Nat → Nat → Nat) : imG g 166 56 = g 166 9 := rfl
theorem unG_f56 (g : Nat → Nat → Nat) : unG g 166 9 = g 166 56 := rfl
theorem imG_f57 (g : Nat → Nat → Nat) : imG g 166 57 = g 166 44 := rfl
theorem unG_f57 (g : Nat → Nat → Nat) : unG g 166 44 = g 166 57 := rfl
theorem imG_f58 (g : Nat → Nat → Nat) : imG g 166 58 = g 166 48 := rfl
theorem unG_f58 (g : Nat → Nat → Nat) : unG g 166 48 = g 166 58 := rfl
section AT
variable {X J : Nat → Prop} {g g1 : Nat → Nat → Nat} {hl : Nat → Nat → Int64} {rt : Nat × Nat × Nat × Nat}
theorem Ag.tb0 (k : Ag X J g g1) (h : TbE g) (h6 : g 166 15 ≤ 6) (h0 : g1 0 4 = g 0 4) (h1 : ¬ X 56 ∧ (∀ f, f < 6 → ¬ X (136 + 3 * f) ∧ ¬ X (136 + 3 * f + 1)) ∧ (¬ X 177 ∧ ¬ X 178 ∧ ¬ X 179 ∧ ¬ X 180 ∧ ¬ X 181 ∧ ¬ X 182) ∧ ¬ J 15) : TbE g1 := by
  obtain ⟨b, c, ⟨d1, d2, d3, d4, d5, d6⟩, e⟩ := h1
  have e178 := k.1 178 (by decide) d2
  have e179 := k.1 179 (by decide) d3
  have e180 := k.1 180 (by decide) d4
  have e181 := k.1 181 (by decide) d5
  have e182 := k.1 182 (by decide) d6
  have e177 := k.1 177 (by decide) d1
  refine ⟨by rw [h0, k.2 15 e]; exact h.1, by rw [k.1 56 (by decide) b]; exact h.2.1, fun f hf => ?_⟩
  rw [k.2 15 e] at hf
  unfold TbK
  rw [e177, kcL_cg e178 e180 e181 e182, lwF_cg e178 e179, lwF_cg e178 e179, k.1 (136 + 3 * f) (by omega) (c f (by omega)).1, k.1 (136 + 3 * f + 1) (by omega) (c f (by omega)).2]
  exact h.2.2 f hf
theorem Ag.mI (k : Ag X J g g1) (h : MI g) (hx : ∀ c, (167 ≤ c ∧ c ≤ 192) ∨ c = 206 ∨ c = 207 → ¬ X c) (hj : ∀ j, j ≤ 48 ∨ j = 71 → ¬ J j) : MI g1 := by
  unfold MI
  rw [k.2 0 (hj 0 (by omega)), k.2 1 (hj 1 (by omega)), k.2 6 (hj 6 (by omega)), k.2 7 (hj 7 (by omega)), k.2 8 (hj 8 (by omega)), k.2 9 (hj 9 (by omega)), k.2 15 (hj 15 (by omega)), k.2 16 (hj 16 (by omega)), k.2 17 (hj 17 (by omega)), k.2 44 (hj 44 (by omega)), k.2 48 (hj 48 (by omega)), k.2 71 (hj 71 (by omega)), k.2 33 (hj 33 (by omega)), k.2 34 (hj 34 (by omega)), k.1 167 (by decide) (hx 167 (by omega)), k.1 168 (by decide) (hx 168 (by omega)), k.1 169 (by decide) (hx 169 (by omega)), k.1 170 (by decide) (hx 170 (by omega)), k.1 171 (by decide) (hx 171 (by omega)), k.1 172 (by decide) (hx 172 (by omega)), k.1 173 (by decide) (hx 173 (by omega)), k.1 174 (by decide) (hx 174 (by omega)), k.1 175 (by decide) (hx 175 (by omega)), k.1 176 (by decide) (hx 176 (by omega)), k.1 189 (by decide) (hx 189 (by omega)), k.1 190 (by decide) (hx 190 (by omega)), k.1 191 (by decide) (hx 191 (by omega)), k.1 192 (by decide) (hx 192 (by omega)), k.1 207 (by decide) (hx 207 (by omega)), k.1 177 (by decide) (hx 177 (by omega)), k.1 178 (by decide) (hx 178 (by omega)), k.1 179 (by decide) (hx 179 (by omega)), k.1 186 (by decide) (hx 186 (by omega)), k.1 206 (by decide) (hx 206 (by omega))]
  exact h
end AT
theorem im_bk {g : Nat → Nat → Nat} (ma : MG (imV g)) (mb : GMC (imV g)) {i : Nat} (hi : i < 12) : g (77 + 2 * i) 1 ≤ 6 := by
  have z := mb.cb.2.1 i hi
  rw [imV_c _ (by omega)] at z
  rw [show 77 + 2 * i = 19 + 2 * i + 58 by omega, z]
  exact ma.b168 i hi
theorem K_image {L : Nat} {xs : Nat → Int32} (d : Nat) (g : Nat → Nat → Nat) (hl : Nat → Nat → Int64) (rt : Nat × Nat × Nat × Nat) (hV : Inv g hl rt)  {Q : Po} (hq : ∀ V, CpG70 g V → Q (some (.int (nI (g 166 6)))) (HN (u2 V 0 7 1) hl (RF (rt.1, rt.2.1, rt.2.2.1, rt.2.2.1)))) : Ev L xs (d + 5) 105 0 [(0, .ref 0)] [] (HN g hl (RF rt)) Q := by
  have hI := hV.mi
  have hW := hI.hW
  have hS := hI.hS
  have hPl := hI.hPl
  have hNx := hI.hNx
  have hLa := hI.hLa
  have hLo := hI.hLo
  have hTb := hI.hTb
  have hTh := hI.hTh
  have hFd := hI.hFd
  have hSn := hI.hSn
  have hSh := hI.hSh
  have hRan := hI.hRan
  have hLr := hI.hLr
  have hLt := hI.hLt
  have hgl := hI.hgl
  have hsz := hI.hsz
  have hcm := hI.hcm
  have hsl := hI.hsl
  have hkd := hI.hkd
  have hvv := hI.hvv
  have hli := hI.hli
  have hro := hI.hro
  have hrw := hI.hrw
  have htx := hI.htx
  have hsw := hI.hsw
  have hsx := hI.hsx
  have hsy := hI.hsy
  have hsh := hI.hsh
  have hle := hI.hle
  have hcl := hI.hcl
  have hwd := hI.hwd
  have hnu := hI.hnu
  have hwn := hI.hwn
  have hs1 := hI.hs1
  have hso := hI.hso
  have hB := hV.gm.cb
  have hB0 := hB.1
  have hPs := hV.gm.cs
  have hsp1 := hV.sp.1
  have htx1 := hV.tx.1
  have h451 := hV.gm.rx.1
  have h442 := hV.gm.rx.2.2.2.1
  have h443 := hV.gm.rx.2.2.2.2
  have h481 := hV.gm.l48.1
  have h501 := hV.gm.l50.1
  have h521 := hV.gm.l52.1
  have h541 := hV.gm.l54.1
  have h04 := hV.tb.1
  have hac1 := hV.ac.1
  have hac2 := hV.ac.2.1
  have hPl0 := hV.gm.cp
  refine Ev.run 4 (pc' := 8) (lv' := [(0, .ref 0)]) (st' := [.ref 12, .ref 70]) (h' := HN g hl (RF rt)) rfl ?_
  refine Ev.call (a := 26) (as := [.ref 70, .ref 12]) (rest := []) (lv0 := [(0, .ref 70), (1, .ref 12)]) (Q1 := (fun z0 h' => z0 = none ∧ ∃ V, CpG70 g V ∧ h' = HN V hl (RF (rt.1, rt.2.1, rt.2.2.1, rt.2.2.1)))) rfl rfl (K_gc70 _ _ _ _ (fun i hi => by rw [hB.2.1 i hi]; exact hsz i hi) (by omega) (by omega) (by omega) (by omega) (by omega) (fun V hVV => ⟨rfl, V, hVV, rfl⟩)) (fun r h' hr => ?_)
  obtain ⟨rfl, V, hVV, rfl⟩ := hr
  refine Ev.run 3 (pc' := 16) (lv' := [(0, .ref 0)]) (st' := []) (h' := setI (HN V hl (RF (rt.1, rt.2.1, rt.2.2.1, rt.2.2.1))) 0 7 (nI 1)) rfl ?_
  refine Ev.hp (HN_set _ _ _ _ _ _) ?_
  refine Ev.run 3 (pc' := 23) (lv' := [(0, .ref 0)]) (st' := [.int (nI (V 12 2))]) (h' := HN (u2 V 0 7 1) hl (RF (rt.1, rt.2.1, rt.2.2.1, rt.2.2.1))) rfl ?_
  refine Ev.ret (v := some (.int (nI (V 12 2)))) rfl ?_
  have e : V 12 2 = g 166 6 := (congrFun (hVV.1 12 (by omega)) 2).trans hPs
  rw [e]
  exact hq V hVV
theorem K_undo {L : Nat} {xs : Nat → Int32} (d : Nat) (g : Nat → Nat → Nat) (hl : Nat → Nat → Int64) (rt : Nat × Nat × Nat × Nat) (hV : Inv g hl rt)  {Q : Po} (hq : (g 166 50 = 0 → Q (some (.int (nI 4294967293))) (HN g hl (RF rt))) ∧ (g 166 50 = 1 → ∀ V, CpG12 g V → Q (some (.int (nI (g 166 53)))) (HN V hl (RF (rt.1, rt.2.1, rt.2.2.2, rt.2.2.2))))) : Ev L xs (d + 5) 106 0 [(0, .ref 0)] [] (HN g hl (RF rt)) Q := by
  have hI := hV.mi
  have hW := hI.hW
  have hS := hI.hS
  have hPl := hI.hPl
  have hNx := hI.hNx
  have hLa := hI.hLa
  have hLo := hI.hLo
  have hTb := hI.hTb
  have hTh := hI.hTh
  have hFd := hI.hFd
  have hSn := hI.hSn
  have hSh := hI.hSh
  have hRan := hI.hRan
  have hLr := hI.hLr
  have hLt := hI.hLt
  have hgl := hI.hgl
  have hsz := hI.hsz
  have hcm := hI.hcm
  have hsl := hI.hsl
  have hkd := hI.hkd
  have hvv := hI.hvv
  have hli := hI.hli
  have hro := hI.hro
  have hrw := hI.hrw
  have htx := hI.htx
  have hsw := hI.hsw
  have hsx := hI.hsx
  have hsy := hI.hsy
  have hsh := hI.hsh
  have hle := hI.hle
  have hcl := hI.hcl
  have hwd := hI.hwd
  have hnu := hI.hnu
  have hwn := hI.hwn
  have hs1 := hI.hs1
  have hso := hI.hso
  have hB := hV.gm.cb
  have hB0 := hB.1
  have hPs := hV.gm.cs
  have hsp1 := hV.sp.1
  have htx1 := hV.tx.1
  have h451 := hV.gm.rx.1
  have h442 := hV.gm.rx.2.2.2.1
  have h443 := hV.gm.rx.2.2.2.2
  have h481 := hV.gm.l48.1
  have h501 := hV.gm.l50.1
  have h521 := hV.gm.l52.1
  have h541 := hV.gm.l54.1
  have h04 := hV.tb.1
  have hac1 := hV.ac.1
  have hac2 := hV.ac.2.1
  have hPl0 := hV.gm.cp
  have hi1 := hV.i1
  have hi2 := hV.i2
  refine Ev.run 3 (pc' := (if nI (g 0 7) = 0 then 7 else 10)) (lv' := [(0, .ref 0)]) (st' := []) (h' := HN g hl (RF rt)) rfl ?_
  refine Ev.ite (fun hc4 => ?_) (fun hc4 => ?_)
  · have hc4 : (g 0 7) = 0 := (nI_eqU0 (by omega)).mp hc4
    refine Ev.run 1 (pc' := 9) (lv' := [(0, .ref 0)]) (st' := [.int (nI 4294967293)]) (h' := HN g hl (RF rt)) rfl ?_
    refine Ev.ret (v := some (.int (nI 4294967293))) rfl ?_
    exact hq.1 (by omega)
  · have hc4 : ¬ ((g 0 7) = 0) := fun z => hc4 ((nI_eqU0 (by omega)).mpr z)
    have h501 : g 166 50 = 1 := by omega
    obtain ⟨ma, mb, mc⟩ := hV.im h501
    have hw : ∀ i, i < 12 → g (77 + 2 * i) 1 ≤ 6 := fun i hi => im_bk ma mb hi
    have h1 : g 103 1 ≤ 12 := Nat.le_trans (Nat.le_of_eq (show g 103 1 = imV g 166 9 from mb.rx.1)) ma.g9
    have h2 : g 106 1 ≤ 6 := Nat.le_trans (Nat.le_of_eq (show g 106 1 = imV g 166 44 from mb.l48.1)) ma.g44
    have h3 : g 108 1 ≤ 6 := Nat.le_trans (Nat.le_of_eq (show g 108 1 = imV g 166 44 from mb.l50.1)) ma.g44
    have h4 : g 110 1 ≤ 6 := Nat.le_trans (Nat.le_of_eq (show g 110 1 = imV g 166 44 from mb.l52.1)) ma.g44
    have h5 : g 112 1 ≤ 8 := Nat.le_trans (Nat.le_of_eq (show g 112 1 = imV g 166 48 from mb.l54.1)) ma.g48
    refine Ev.run 4 (pc' := 18) (lv' := [(0, .ref 0)]) (st' := [.ref 70, .ref 12]) (h' := HN g hl (RF rt)) rfl ?_
    refine Ev.call (a := 26) (as := [.ref 12, .ref 70]) (rest := []) (lv0 := [(0, .ref 12), (1, .ref 70)]) (Q1 := (fun z0 h' => z0 = none ∧ ∃ V, CpG12 g V ∧ h' = HN V hl (RF (rt.1, rt.2.1, rt.2.2.2, rt.2.2.2)))) rfl rfl (K_gc12 _ _ _ _ (fun i hi => hw i hi) h1 h2 h3 h4 h5 (fun V hVV => ⟨rfl, V, hVV, rfl⟩)) (fun r h' hr => ?_)
    obtain ⟨rfl, V, hVV, rfl⟩ := hr
    refine Ev.run 3 (pc' := 28) (lv' := [(0, .ref 0)]) (st' := [.int (nI (V 12 2))]) (h' := HN V hl (RF (rt.1, rt.2.1, rt.2.2.2, rt.2.2.2))) rfl ?_
    refine Ev.ret (v := some (.int (nI (V 12 2)))) rfl ?_
    have e : V 12 2 = g 166 53 := hVV.2.2.2.2.2.2.2.2.2.1.trans (show g 70 2 = imV g 166 6 from mb.cs)
    rw [e]
    exact hq.2 h501 V hVV
section SI
variable {L : Nat} {xs : Nat → Int32} {g V : Nat → Nat → Nat} {hl : Nat → Nat → Int64} {rt : Nat × Nat × Nat × Nat}
theorem im_v (V : Nat → Nat → Nat) {c : Nat} (h : 70 ≤ c ∧ c ≤ 127) (j : Nat) : imG (u2 V 0 7 1) c j = V c j := (congrFun (imG_o _ (by omega)) j).trans (u2_ne V (Or.inl (by omega)))
theorem im_r (V : Nat → Nat → Nat) {c : Nat} (h : 166 ≤ c) (j : Nat) : u2 V 0 7 1 c j = V c j := u2_ne V (Or.inl (by omega))
theorem ga_im (hc : CpG70 g V) (m : MG g) : GA g (imV (imG (u2 V 0 7 1))) := by
  have h9 := m.g9
  exact ⟨(im_v V (by decide) 5).trans hc.2.1,
   fun i hi => (imV_c _ (by omega) _).trans ((im_v V (by omega) 1).trans (by rw [show 19 + 2 * i + 58 = 77 + 2 * i by omega]; exact hc.2.2.1 i hi)),
   fun i q hi hq => (imV_c _ (by omega) _).trans ((im_v V (by omega) q).trans (by rw [show 19 + 2 * i + 1 + 58 = 77 + 2 * i + 1 by omega]; exact hc.2.2.2.1 i q hi hq)),
   fun i hi => (im_v V (by decide) i).trans (hc.2.2.2.2.1 i hi),
   fun i hi => (im_v V (by decide) i).trans (hc.2.2.2.2.2.1 i hi),
   fun i hi => (im_v V (by decide) i).trans (hc.2.2.2.2.2.2.1 i hi),
   fun i j hi h1 h2 => (imV_c _ (by omega) _).trans ((im_v V (by omega) j).trans (by rw [show 60 + 2 * i + 58 = 118 + 2 * i by omega]; exact hc.2.2.2.2.2.2.2.1 i j hi h1 h2)),
   fun i q hi hq => (imV_c _ (by omega) _).trans ((im_v V (by omega) q).trans (by rw [show 60 + 2 * i + 1 + 58 = 118 + 2 * i + 1 by omega]; exact hc.2.2.2.2.2.2.2.2.1 i q hi hq)),
   (im_v V (c := 70) (by decide) 2).trans hc.2.2.2.2.2.2.2.2.2.1,
   (im_v V (c := 102) (by decide) 2).trans hc.2.2.2.2.2.2.2.2.2.2.1,
   (im_v V (c := 102) (by decide) 3).trans hc.2.2.2.2.2.2.2.2.2.2.2.1,
   (im_v V (c := 103) (by decide) 1).trans hc.2.2.2.2.2.2.2.2.2.2.2.2.1,
   fun q hq => (im_v V (c := 104) (by decide) q).trans (hc.2.2.2.2.2.2.2.2.2.2.2.2.2.1 q hq),
   fun j hj => (im_v V (c := 105) (by decide) j).trans (hc.2.2.2.2.2.2.2.2.2.2.2.2.2.2.1 j hj),
   (im_v V (c := 106) (by decide) 1).trans (hc.2.2.2.2.2.2.2.2.2.2.2.2.2.2.2 36 (by decide)).1,
   fun q hq => (im_v V (c := 107) (by decide) q).trans ((hc.2.2.2.2.2.2.2.2.2.2.2.2.2.2.2 36 (by decide)).2 q hq),
   (im_v V (c := 108) (by decide) 1).trans (hc.2.2.2.2.2.2.2.2.2.2.2.2.2.2.2 38 (by decide)).1,
   fun q hq => (im_v V (c := 109) (by decide) q).trans ((hc.2.2.2.2.2.2.2.2.2.2.2.2.2.2.2 38 (by decide)).2 q hq),
   (im_v V (c := 110) (by decide) 1).trans (hc.2.2.2.2.2.2.2.2.2.2.2.2.2.2.2 40 (by decide)).1,
   fun q hq => (im_v V (c := 111) (by decide) q).trans ((hc.2.2.2.2.2.2.2.2.2.2.2.2.2.2.2 40 (by decide)).2 q hq),
   (im_v V (c := 112) (by decide) 1).trans (hc.2.2.2.2.2.2.2.2.2.2.2.2.2.2.2 42 (by decide)).1,
   fun q hq => (im_v V (c := 113) (by decide) q).trans ((hc.2.2.2.2.2.2.2.2.2.2.2.2.2.2.2 42 (by decide)).2 q hq),
   congrFun (hc.1 166 (by omega)) 0,
   congrFun (hc.1 166 (by omega)) 6,
   congrFun (hc.1 166 (by omega)) 7,
   congrFun (hc.1 166 (by omega)) 8,
   congrFun (hc.1 166 (by omega)) 9,
   congrFun (hc.1 166 (by omega)) 44,
   congrFun (hc.1 166 (by omega)) 48,
   fun j hj => (imG_193 (u2 V 0 7 1) hj).trans (congrFun (hc.1 167 (by omega)) j),
   fun j hj => (imG_194 (u2 V 0 7 1) hj).trans (congrFun (hc.1 168 (by omega)) j),
   fun j hj => (imG_195 (u2 V 0 7 1) hj).trans (congrFun (hc.1 169 (by omega)) j),
   fun j hj => (imG_196 (u2 V 0 7 1) hj).trans (congrFun (hc.1 171 (by omega)) j),
   fun j hj => (imG_197 (u2 V 0 7 1) hj).trans (congrFun (hc.1 172 (by omega)) j),
   fun j hj => (imG_198 (u2 V 0 7 1) hj).trans (congrFun (hc.1 173 (by omega)) j),
   fun j hj => (imG_199 (u2 V 0 7 1) hj).trans (congrFun (hc.1 174 (by omega)) j),
   fun j hj => (imG_201 (u2 V 0 7 1) hj).trans (congrFun (hc.1 189 (by omega)) j),
   fun j hj => (imG_202 (u2 V 0 7 1) hj).trans (congrFun (hc.1 190 (by omega)) j),
   fun j hj => (imG_203 (u2 V 0 7 1) hj).trans (congrFun (hc.1 191 (by omega)) j),
   fun j hj => (imG_204 (u2 V 0 7 1) hj).trans (congrFun (hc.1 192 (by omega)) j),
   fun j hj => (imG_200 (u2 V 0 7 1) (by omega)).trans (congrFun (hc.1 175 (by omega)) j),
   fun j hj => Nat.le_trans (Nat.le_of_eq ((imG_200 (u2 V 0 7 1) hj).trans (congrFun (hc.1 175 (by omega)) j))) (m.b175 j hj)⟩
theorem ga_un (hc : CpG12 g V) (m : MG (imV g)) : GA (imV g) (unG V) := 
  ⟨(congrFun (unG_o V (c := 13) (by omega)) 5).trans hc.2.1,
   fun i hi => (congrFun (unG_o V (c := 19 + 2 * i) (by omega)) 1).trans ((hc.2.2.1 i hi).trans (by rw [imV_c _ (by omega), show 19 + 2 * i + 58 = 77 + 2 * i by omega])),
   fun i q hi hq => (congrFun (unG_o V (c := 19 + 2 * i + 1) (by omega)) q).trans ((hc.2.2.2.1 i q hi (by rw [imV_c _ (by omega), show 19 + 2 * i + 58 = 77 + 2 * i by omega] at hq; exact hq)).trans (by rw [imV_c _ (by omega), show 19 + 2 * i + 1 + 58 = 77 + 2 * i + 1 by omega])),
   fun i hi => (congrFun (unG_o V (c := 15) (by omega)) i).trans (hc.2.2.2.2.1 i hi),
   fun i hi => (congrFun (unG_o V (c := 16) (by omega)) i).trans (hc.2.2.2.2.2.1 i hi),
   fun i hi => (congrFun (unG_o V (c := 17) (by omega)) i).trans (hc.2.2.2.2.2.2.1 i hi),
   fun i j hi h1 h2 => (congrFun (unG_o V (c := 60 + 2 * i) (by omega)) j).trans ((hc.2.2.2.2.2.2.2.1 i j hi h1 h2).trans (by rw [imV_c _ (by omega), show 60 + 2 * i + 58 = 118 + 2 * i by omega])),
   fun i q hi hq => (congrFun (unG_o V (c := 60 + 2 * i + 1) (by omega)) q).trans ((hc.2.2.2.2.2.2.2.2.1 i q hi hq).trans (by rw [imV_c _ (by omega), show 60 + 2 * i + 1 + 58 = 118 + 2 * i + 1 by omega])),
   (congrFun (unG_o V (c := 12) (by omega)) 2).trans hc.2.2.2.2.2.2.2.2.2.1,
   (congrFun (unG_o V (c := 44) (by omega)) 2).trans hc.2.2.2.2.2.2.2.2.2.2.1,
   (congrFun (unG_o V (c := 44) (by omega)) 3).trans hc.2.2.2.2.2.2.2.2.2.2.2.1,
   (congrFun (unG_o V (c := 45) (by omega)) 1).trans hc.2.2.2.2.2.2.2.2.2.2.2.2.1,
   fun q hq => (congrFun (unG_o V (c := 46) (by omega)) q).trans (hc.2.2.2.2.2.2.2.2.2.2.2.2.2.1 q hq),
   fun j hj => (congrFun (unG_o V (c := 47) (by omega)) j).trans (hc.2.2.2.2.2.2.2.2.2.2.2.2.2.2.1 j hj),
   (congrFun (unG_o V (c := 48) (by omega)) 1).trans (hc.2.2.2.2.2.2.2.2.2.2.2.2.2.2.2 36 (by decide)).1,
   fun q hq => (congrFun (unG_o V (c := 49) (by omega)) q).trans ((hc.2.2.2.2.2.2.2.2.2.2.2.2.2.2.2 36 (by decide)).2 q hq),
   (congrFun (unG_o V (c := 50) (by omega)) 1).trans (hc.2.2.2.2.2.2.2.2.2.2.2.2.2.2.2 38 (by decide)).1,
   fun q hq => (congrFun (unG_o V (c := 51) (by omega)) q).trans ((hc.2.2.2.2.2.2.2.2.2.2.2.2.2.2.2 38 (by decide)).2 q hq),
   (congrFun (unG_o V (c := 52) (by omega)) 1).trans (hc.2.2.2.2.2.2.2.2.2.2.2.2.2.2.2 40 (by decide)).1,
   fun q hq => (congrFun (unG_o V (c := 53) (by omega)) q).trans ((hc.2.2.2.2.2.2.2.2.2.2.2.2.2.2.2 40 (by decide)).2 q hq),
   (congrFun (unG_o V (c := 54) (by omega)) 1).trans (hc.2.2.2.2.2.2.2.2.2.2.2.2.2.2.2 42 (by decide)).1,
   fun q hq => (congrFun (unG_o V (c := 55) (by omega)) q).trans ((hc.2.2.2.2.2.2.2.2.2.2.2.2.2.2.2 42 (by decide)).2 q hq),
   congrFun (hc.1 166 (by omega)) 52,
   congrFun (hc.1 166 (by omega)) 53,
   congrFun (hc.1 166 (by omega)) 54,
   congrFun (hc.1 166 (by omega)) 55,
   congrFun (hc.1 166 (by omega)) 56,
   congrFun (hc.1 166 (by omega)) 57,
   congrFun (hc.1 166 (by omega)) 58,
   fun j hj => (unG_193 V hj).trans (congrFun (hc.1 193 (by omega)) j),
   fun j hj => (unG_194 V hj).trans (congrFun (hc.1 194 (by omega)) j),
   fun j hj => (unG_195 V hj).trans (congrFun (hc.1 195 (by omega)) j),
   fun j hj => (unG_196 V hj).trans (congrFun (hc.1 196 (by omega)) j),
   fun j hj => (unG_197 V hj).trans (congrFun (hc.1 197 (by omega)) j),
   fun j hj => (unG_198 V hj).trans (congrFun (hc.1 198 (by omega)) j),
   fun j hj => (unG_199 V hj).trans (congrFun (hc.1 199 (by omega)) j),
   fun j hj => (unG_201 V hj).trans (congrFun (hc.1 201 (by omega)) j),
   fun j hj => (unG_202 V hj).trans (congrFun (hc.1 202 (by omega)) j),
   fun j hj => (unG_203 V hj).trans (congrFun (hc.1 203 (by omega)) j),
   fun j hj => (unG_204 V hj).trans (congrFun (hc.1 204 (by omega)) j),
   fun j hj => (unG_200 V (Nat.lt_of_lt_of_le hj m.g9)).trans (congrFun (hc.1 200 (by omega)) j),
   fun j hj => Nat.le_trans (Nat.le_of_eq ((unG_200 V hj).trans (congrFun (hc.1 200 (by omega)) j))) (m.b175 j hj)⟩
theorem inv_image (hV : Inv g hl rt) (hc : CpG70 g V) : Inv (imG (u2 V 0 7 1)) hl (rt.1, rt.2.1, rt.2.2.1, rt.2.2.1) := by
  have e := ga_im hc hV.mi.mg
  have k : Ag (fun c => c = 0 ∨ (70 ≤ c ∧ c ≤ 127) ∨ (193 ≤ c ∧ c ≤ 204)) (fun j => 50 ≤ j ∧ j ≤ 58) g (imG (u2 V 0 7 1)) := by
    refine ⟨fun c h1 h2 => ?_, fun j hj => ?_⟩
    · have h2 : ¬ (c = 0 ∨ (70 ≤ c ∧ c ≤ 127) ∨ (193 ≤ c ∧ c ≤ 204)) := h2
      rw [imG_o _ (by omega), (u2_f V 0 7 1).1 c (by omega)]
      exact hc.1 c (by omega)
    · have hj : ¬ (50 ≤ j ∧ j ≤ 58) := hj
      rw [imG_f _ (by omega), (u2_f V 0 7 1).1 166 (by decide), hc.1 166 (by omega)]
  have e4 : imG (u2 V 0 7 1) 0 4 = g 0 4 := congrFun (hc.1 0 (by omega)) 4
  have e51 : imG (u2 V 0 7 1) 166 51 = g 166 16 := congrFun (hc.1 166 (by omega)) 16
  exact ⟨k.mI hV.mi (fun c hc => by omega) (fun j hj => by omega), k.lt hV.lt (by omega), (k.2 33 (by omega)).trans hV.lr, k.ka hV.ka (by omega), by rw [k.2 15 (by omega), k.2 16 (by omega)]; exact hV.th, (k.ln hV.sp (by omega) (by omega)), (k.ln hV.tx (by omega) (by omega)), k.gm hV.mi hV.gm (fun c hc => by unfold gmC at hc; omega) (fun j hj => by unfold gmJ at hj; omega), k.ac hV.ac (by omega), k.tp hV.tp ⟨fun t ht => by omega, by omega, by omega⟩, k.tb0 hV.tb hV.mi.hTb e4 ⟨by omega, fun f hf => by omega, by omega, by omega⟩, Nat.le_refl 1, rfl, fun _ => ⟨hV.mi.mg.cg e, GMC.cg hV.mi.mg hV.gm e, by rw [k.2 15 (by omega), e51]; exact hV.th⟩, (by rw [k.1 59 (by omega) (by omega)]; exact hV.k59), (by rw [k.1 18 (by omega) (by omega)]; exact hV.k18)⟩
theorem inv_undo (hV : Inv g hl rt) (h1 : g 166 50 = 1) (hc : CpG12 g V) : Inv (unG V) hl (rt.1, rt.2.1, rt.2.2.2, rt.2.2.2) := by
  obtain ⟨ma, mb, mc⟩ := hV.im h1
  have e := ga_un hc ma
  have mg := ma.cg e
  have hI := hV.mi
  have k : Ag (fun c => (12 ≤ c ∧ c ≤ 69 ∧ c ≠ 14 ∧ c ≠ 18 ∧ c ≠ 43 ∧ ¬ (56 ≤ c ∧ c ≤ 59)) ∨ (167 ≤ c ∧ c ≤ 175 ∧ c ≠ 170) ∨ (189 ≤ c ∧ c ≤ 192)) (fun j => j = 0 ∨ j = 6 ∨ j = 7 ∨ j = 8 ∨ j = 9 ∨ j = 16 ∨ j = 44 ∨ j = 48) g (unG V) := by
    refine ⟨fun c h1 h2 => ?_, fun j hj => ?_⟩
    · have h2 : ¬ ((12 ≤ c ∧ c ≤ 69 ∧ c ≠ 14 ∧ c ≠ 18 ∧ c ≠ 43 ∧ ¬ (56 ≤ c ∧ c ≤ 59)) ∨ (167 ≤ c ∧ c ≤ 175 ∧ c ≠ 170) ∨ (189 ≤ c ∧ c ≤ 192)) := h2
      rw [unG_o _ (by omega)]
      exact hc.1 c (by omega)
    · have hj : ¬ (j = 0 ∨ j = 6 ∨ j = 7 ∨ j = 8 ∨ j = 9 ∨ j = 16 ∨ j = 44 ∨ j = 48) := hj
      rw [unG_f _ (by omega), hc.1 166 (by omega)]
  have e16 : unG V 166 16 = g 166 51 := congrFun (hc.1 166 (by omega)) 51
  have e15 : unG V 166 15 = g 166 15 := k.2 15 (by omega)
  have mi : MI (unG V) := ⟨mg.g0, (by rw [k.2 1 (by omega)]; exact hI.hS), mg.g6, mg.g7, mg.g8, mg.g9, (by rw [e15]; exact hI.hTb), (by
    rw [e16]
    have := hI.hTb
    rcases mc with c | c
    · exact Or.inr c.1
    · exact Or.inl (by omega)), (by rw [k.2 17 (by omega)]; exact hI.hFd), mg.g44, mg.g48, (by rw [k.2 71 (by omega)]; exact hI.hRan), (by rw [k.2 33 (by omega)]; exact hI.hLr), (by rw [k.2 34 (by omega)]; exact hI.hLt), mg.b167, mg.b168, mg.b169, (by rw [k.1 170 (by omega) (by omega)]; exact hI.hsl), mg.b171, mg.b172, mg.b173, mg.b174, mg.b175, (by rw [k.1 176 (by omega) (by omega)]; exact hI.htx), mg.b189, mg.b190, mg.b191, mg.b192, (by rw [k.1 207 (by omega) (by omega)]; exact hI.hle), (by rw [k.1 177 (by omega) (by omega)]; exact hI.hcl), (by rw [k.1 178 (by omega) (by omega)]; exact hI.hwd), (by rw [k.1 179 (by omega) (by omega)]; exact hI.hnu), (by rw [k.1 186 (by omega) (by omega)]; exact hI.hwn), mg.s1, (by rw [k.1 206 (by omega) (by omega)]; exact hI.hso)⟩
  have him := k.im hV (fun c hc => by unfold imC at hc; omega) (fun j hj => by omega) (Nat.le_of_eq e15.symm)
  exact ⟨mi, k.lt hV.lt (by omega), (k.2 33 (by omega)).trans hV.lr, k.ka hV.ka (by omega), by rw [e15, e16]; exact mc, (k.ln hV.sp (by omega) (by omega)), (k.ln hV.tx (by omega) (by omega)), GMC.cg ma mb e, k.ac hV.ac (by omega), k.tp hV.tp ⟨fun t ht => by omega, by omega, by omega⟩, k.tb hV.tb hV.mi.hTb ⟨by omega, by omega, fun f hf => by omega, by omega, by omega⟩, (by rw [k.2 50 (by omega)]; exact hV.i1), (by rw [k.1 0 (by omega) (by omega), k.2 50 (by omega)]; exact hV.i2), him, (by rw [k.1 59 (by omega) (by omega)]; exact hV.k59), (by rw [k.1 18 (by omega) (by omega)]; exact hV.k18)⟩
theorem S_image (d : Nat) : StepC L xs (d + 20) 105 221 [] := by
  intro g hl rt hV
  refine K_image (d + 15) g hl rt hV (fun V hc => ?_)
  refine ⟨_, _, _, _, rfl, rfl, ?_⟩
  have em : Em g (u2 V 0 7 1) := fun c h => ((u2_f V 0 7 1).1 c (by omega)).trans (hc.1 c (by omega))
  refine C_image (d + 20) (u2 V 0 7 1) hl _ (em.mI hV.mi) ?_
  exact ⟨by rw [em.f6], _, _, _, rfl, inv_image hV hc⟩
theorem S_undo (d : Nat) : StepC L xs (d + 20) 106 222 [] := by
  intro g hl rt hV
  refine K_undo (d + 15) g hl rt hV ⟨fun h0 => ?_, fun h1 V hc => ?_⟩
  · refine ⟨_, _, _, _, rfl, rfl, ?_⟩
    refine C_undo (d + 20) g hl rt hV.mi hV.i1 ?_
    rw [if_pos h0, if_pos h0]
    exact ⟨rfl, _, _, _, rfl, hV⟩
  · refine ⟨_, _, _, _, rfl, rfl, ?_⟩
    have em : Em g V := fun c h => hc.1 c (by omega)
    have e50 : V 166 50 = 1 := (congrFun (em 166 (by decide)) 50).trans h1
    refine C_undo (d + 20) V hl _ (em.mI hV.mi) (by omega) ?_
    rw [if_neg (by omega), if_neg (by omega)]
    exact ⟨by rw [show V 166 53 = g 166 53 from congrFun (em 166 (by decide)) 53], _, _, _, rfl, inv_undo hV h1 hc⟩
end SI
