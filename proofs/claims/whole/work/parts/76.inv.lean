/-! what holds between two calls -/
def LnE (g : Nat → Nat → Nat) (c n : Nat) (f : Nat → Nat) : Prop := g c 1 = n ∧ ∀ k, k < n → g (c + 1) k = f k
/-- bounds of the game in the reference -/
def MG (g : Nat → Nat → Nat) : Prop := (g 166 0 ≤ 12) ∧ (g 166 6 ≤ 5) ∧ (g 166 7 ≤ 4) ∧ (g 166 8 ≤ 4 ∨ g 166 8 = 4294967295) ∧ (g 166 9 ≤ 12) ∧ (g 166 44 ≤ 6) ∧ (g 166 48 ≤ 8) ∧ (∀ j, j < 72 → g 167 j ≤ 3) ∧ (∀ j, j < 12 → g 168 j ≤ 6) ∧ (∀ j, j < 12 → g 169 j ≤ 9) ∧ (∀ j, j < 5 → g 171 j ≤ 6) ∧ (∀ j, j < 5 → g 172 j ≤ 9) ∧ (∀ j, j < 5 → g 173 j ≤ 99) ∧ (∀ j, j < 20 → g 174 j ≤ 3) ∧ (∀ j, j < 12 → g 175 j ≤ 3) ∧ (∀ j, j < 6 → g 189 j ≤ 4) ∧ (∀ j, j < 6 → g 190 j ≤ 11) ∧ (∀ j, j < 6 → g 191 j ≤ 6) ∧ (∀ j, j < 8 → g 192 j ≤ 4) ∧ (∀ i, i < g 166 0 → 1 ≤ g 168 i)
theorem MG.g0 {g : Nat → Nat → Nat} (h : MG g) : g 166 0 ≤ 12 := h.1
theorem MG.g6 {g : Nat → Nat → Nat} (h : MG g) : g 166 6 ≤ 5 := h.2.1
theorem MG.g7 {g : Nat → Nat → Nat} (h : MG g) : g 166 7 ≤ 4 := h.2.2.1
theorem MG.g8 {g : Nat → Nat → Nat} (h : MG g) : g 166 8 ≤ 4 ∨ g 166 8 = 4294967295 := h.2.2.2.1
theorem MG.g9 {g : Nat → Nat → Nat} (h : MG g) : g 166 9 ≤ 12 := h.2.2.2.2.1
theorem MG.g44 {g : Nat → Nat → Nat} (h : MG g) : g 166 44 ≤ 6 := h.2.2.2.2.2.1
theorem MG.g48 {g : Nat → Nat → Nat} (h : MG g) : g 166 48 ≤ 8 := h.2.2.2.2.2.2.1
theorem MG.b167 {g : Nat → Nat → Nat} (h : MG g) : ∀ j, j < 72 → g 167 j ≤ 3 := h.2.2.2.2.2.2.2.1
theorem MG.b168 {g : Nat → Nat → Nat} (h : MG g) : ∀ j, j < 12 → g 168 j ≤ 6 := h.2.2.2.2.2.2.2.2.1
theorem MG.b169 {g : Nat → Nat → Nat} (h : MG g) : ∀ j, j < 12 → g 169 j ≤ 9 := h.2.2.2.2.2.2.2.2.2.1
theorem MG.b171 {g : Nat → Nat → Nat} (h : MG g) : ∀ j, j < 5 → g 171 j ≤ 6 := h.2.2.2.2.2.2.2.2.2.2.1
theorem MG.b172 {g : Nat → Nat → Nat} (h : MG g) : ∀ j, j < 5 → g 172 j ≤ 9 := h.2.2.2.2.2.2.2.2.2.2.2.1
theorem MG.b173 {g : Nat → Nat → Nat} (h : MG g) : ∀ j, j < 5 → g 173 j ≤ 99 := h.2.2.2.2.2.2.2.2.2.2.2.2.1
theorem MG.b174 {g : Nat → Nat → Nat} (h : MG g) : ∀ j, j < 20 → g 174 j ≤ 3 := h.2.2.2.2.2.2.2.2.2.2.2.2.2.1
theorem MG.b175 {g : Nat → Nat → Nat} (h : MG g) : ∀ j, j < 12 → g 175 j ≤ 3 := h.2.2.2.2.2.2.2.2.2.2.2.2.2.2.1
theorem MG.b189 {g : Nat → Nat → Nat} (h : MG g) : ∀ j, j < 6 → g 189 j ≤ 4 := h.2.2.2.2.2.2.2.2.2.2.2.2.2.2.2.1
theorem MG.b190 {g : Nat → Nat → Nat} (h : MG g) : ∀ j, j < 6 → g 190 j ≤ 11 := h.2.2.2.2.2.2.2.2.2.2.2.2.2.2.2.2.1
theorem MG.b191 {g : Nat → Nat → Nat} (h : MG g) : ∀ j, j < 6 → g 191 j ≤ 6 := h.2.2.2.2.2.2.2.2.2.2.2.2.2.2.2.2.2.1
theorem MG.b192 {g : Nat → Nat → Nat} (h : MG g) : ∀ j, j < 8 → g 192 j ≤ 4 := h.2.2.2.2.2.2.2.2.2.2.2.2.2.2.2.2.2.2.1
theorem MG.s1 {g : Nat → Nat → Nat} (h : MG g) : ∀ i, i < g 166 0 → 1 ≤ g 168 i := h.2.2.2.2.2.2.2.2.2.2.2.2.2.2.2.2.2.2.2
theorem MI.mg {g : Nat → Nat → Nat} (h : MI g) : MG g := ⟨h.hW, h.hPl, h.hNx, h.hLa, h.hLo, h.hSn, h.hSh, h.hgl, h.hsz, h.hcm, h.hkd, h.hvv, h.hli, h.hro, h.hrw, h.hsw, h.hsx, h.hsy, h.hsh, h.hs1⟩
/-- the class's game is the reference's -/
def GMC (g : Nat → Nat → Nat) : Prop := (CB g) ∧ (CPl g) ∧ (g 12 2 = g 166 6) ∧ (RX (g 44) (g 45) (g 46) (g 47) g) ∧ (RY g) ∧ (LnE g 48 (g 166 44) (g 189)) ∧ (LnE g 50 (g 166 44) (g 190)) ∧ (LnE g 52 (g 166 44) (g 191)) ∧ (∀ k, k < g 166 44 → g 190 k < g 166 0) ∧ (LnE g 54 (g 166 48) (g 192))
theorem GMC.cb {g : Nat → Nat → Nat} (h : GMC g) : CB g := h.1
theorem GMC.cp {g : Nat → Nat → Nat} (h : GMC g) : CPl g := h.2.1
theorem GMC.cs {g : Nat → Nat → Nat} (h : GMC g) : g 12 2 = g 166 6 := h.2.2.1
theorem GMC.rx {g : Nat → Nat → Nat} (h : GMC g) : RX (g 44) (g 45) (g 46) (g 47) g := h.2.2.2.1
theorem GMC.ry {g : Nat → Nat → Nat} (h : GMC g) : RY g := h.2.2.2.2.1
theorem GMC.l48 {g : Nat → Nat → Nat} (h : GMC g) : LnE g 48 (g 166 44) (g 189) := h.2.2.2.2.2.1
theorem GMC.l50 {g : Nat → Nat → Nat} (h : GMC g) : LnE g 50 (g 166 44) (g 190) := h.2.2.2.2.2.2.1
theorem GMC.l52 {g : Nat → Nat → Nat} (h : GMC g) : LnE g 52 (g 166 44) (g 191) := h.2.2.2.2.2.2.2.1
theorem GMC.sw {g : Nat → Nat → Nat} (h : GMC g) : ∀ k, k < g 166 44 → g 190 k < g 166 0 := h.2.2.2.2.2.2.2.2.1
theorem GMC.l54 {g : Nat → Nat → Nat} (h : GMC g) : LnE g 54 (g 166 48) (g 192) := h.2.2.2.2.2.2.2.2.2
/-- h has the game that g has -/
def GA (g h : Nat → Nat → Nat) : Prop := (h 13 5 = g 13 5) ∧ (∀ i, i < 12 → h (19 + 2 * i) 1 = g (19 + 2 * i) 1) ∧ (∀ i k, i < 12 → k < g (19 + 2 * i) 1 → h (19 + 2 * i + 1) k = g (19 + 2 * i + 1) k) ∧ (∀ i, i < 12 → h 15 i = g 15 i) ∧ (∀ j, j < 24 → h 16 j = g 16 j) ∧ (∀ j, j < 7 → h 17 j = g 17 j) ∧ (∀ i j, i < 5 → 1 ≤ j → j ≤ 3 → h (60 + 2 * i) j = g (60 + 2 * i) j) ∧ (∀ i k, i < 5 → k < 4 → h (60 + 2 * i + 1) k = g (60 + 2 * i + 1) k) ∧ (h 12 2 = g 12 2) ∧ (h 44 2 = g 44 2) ∧ (h 44 3 = g 44 3) ∧ (h 45 1 = g 45 1) ∧ (∀ k, k < g 45 1 → h 46 k = g 46 k) ∧ (∀ j, j < 5 → h 47 j = g 47 j) ∧ (h 48 1 = g 48 1) ∧ (∀ k, k < g 48 1 → h 49 k = g 49 k) ∧ (h 50 1 = g 50 1) ∧ (∀ k, k < g 50 1 → h 51 k = g 51 k) ∧ (h 52 1 = g 52 1) ∧ (∀ k, k < g 52 1 → h 53 k = g 53 k) ∧ (h 54 1 = g 54 1) ∧ (∀ k, k < g 54 1 → h 55 k = g 55 k) ∧ (h 166 0 = g 166 0) ∧ (h 166 6 = g 166 6) ∧ (h 166 7 = g 166 7) ∧ (h 166 8 = g 166 8) ∧ (h 166 9 = g 166 9) ∧ (h 166 44 = g 166 44) ∧ (h 166 48 = g 166 48) ∧ (∀ j, j < 72 → h 167 j = g 167 j) ∧ (∀ j, j < 12 → h 168 j = g 168 j) ∧ (∀ j, j < 12 → h 169 j = g 169 j) ∧ (∀ j, j < 5 → h 171 j = g 171 j) ∧ (∀ j, j < 5 → h 172 j = g 172 j) ∧ (∀ j, j < 5 → h 173 j = g 173 j) ∧ (∀ j, j < 20 → h 174 j = g 174 j) ∧ (∀ j, j < 6 → h 189 j = g 189 j) ∧ (∀ j, j < 6 → h 190 j = g 190 j) ∧ (∀ j, j < 6 → h 191 j = g 191 j) ∧ (∀ j, j < 8 → h 192 j = g 192 j) ∧ (∀ j, j < g 166 9 → h 175 j = g 175 j) ∧ (∀ j, j < 12 → h 175 j ≤ 3)
theorem GA.a1 {g h : Nat → Nat → Nat} (e : GA g h) : h 13 5 = g 13 5 := e.1
theorem GA.a2 {g h : Nat → Nat → Nat} (e : GA g h) : ∀ i, i < 12 → h (19 + 2 * i) 1 = g (19 + 2 * i) 1 := e.2.1
theorem GA.a3 {g h : Nat → Nat → Nat} (e : GA g h) : ∀ i k, i < 12 → k < g (19 + 2 * i) 1 → h (19 + 2 * i + 1) k = g (19 + 2 * i + 1) k := e.2.2.1
theorem GA.a4 {g h : Nat → Nat → Nat} (e : GA g h) : ∀ i, i < 12 → h 15 i = g 15 i := e.2.2.2.1
theorem GA.a5 {g h : Nat → Nat → Nat} (e : GA g h) : ∀ j, j < 24 → h 16 j = g 16 j := e.2.2.2.2.1
theorem GA.a6 {g h : Nat → Nat → Nat} (e : GA g h) : ∀ j, j < 7 → h 17 j = g 17 j := e.2.2.2.2.2.1
theorem GA.p1 {g h : Nat → Nat → Nat} (e : GA g h) : ∀ i j, i < 5 → 1 ≤ j → j ≤ 3 → h (60 + 2 * i) j = g (60 + 2 * i) j := e.2.2.2.2.2.2.1
theorem GA.p2 {g h : Nat → Nat → Nat} (e : GA g h) : ∀ i k, i < 5 → k < 4 → h (60 + 2 * i + 1) k = g (60 + 2 * i + 1) k := e.2.2.2.2.2.2.2.1
theorem GA.s {g h : Nat → Nat → Nat} (e : GA g h) : h 12 2 = g 12 2 := e.2.2.2.2.2.2.2.2.1
theorem GA.r2 {g h : Nat → Nat → Nat} (e : GA g h) : h 44 2 = g 44 2 := e.2.2.2.2.2.2.2.2.2.1
theorem GA.r3 {g h : Nat → Nat → Nat} (e : GA g h) : h 44 3 = g 44 3 := e.2.2.2.2.2.2.2.2.2.2.1
theorem GA.r1 {g h : Nat → Nat → Nat} (e : GA g h) : h 45 1 = g 45 1 := e.2.2.2.2.2.2.2.2.2.2.2.1
theorem GA.rr {g h : Nat → Nat → Nat} (e : GA g h) : ∀ k, k < g 45 1 → h 46 k = g 46 k := e.2.2.2.2.2.2.2.2.2.2.2.2.1
theorem GA.rl {g h : Nat → Nat → Nat} (e : GA g h) : ∀ j, j < 5 → h 47 j = g 47 j := e.2.2.2.2.2.2.2.2.2.2.2.2.2.1
theorem GA.n48 {g h : Nat → Nat → Nat} (e : GA g h) : h 48 1 = g 48 1 := e.2.2.2.2.2.2.2.2.2.2.2.2.2.2.1
theorem GA.i48 {g h : Nat → Nat → Nat} (e : GA g h) : ∀ k, k < g 48 1 → h 49 k = g 49 k := e.2.2.2.2.2.2.2.2.2.2.2.2.2.2.2.1
theorem GA.n50 {g h : Nat → Nat → Nat} (e : GA g h) : h 50 1 = g 50 1 := e.2.2.2.2.2.2.2.2.2.2.2.2.2.2.2.2.1
theorem GA.i50 {g h : Nat → Nat → Nat} (e : GA g h) : ∀ k, k < g 50 1 → h 51 k = g 51 k := e.2.2.2.2.2.2.2.2.2.2.2.2.2.2.2.2.2.1
theorem GA.n52 {g h : Nat → Nat → Nat} (e : GA g h) : h 52 1 = g 52 1 := e.2.2.2.2.2.2.2.2.2.2.2.2.2.2.2.2.2.2.1
theorem GA.i52 {g h : Nat → Nat → Nat} (e : GA g h) : ∀ k, k < g 52 1 → h 53 k = g 53 k := e.2.2.2.2.2.2.2.2.2.2.2.2.2.2.2.2.2.2.2.1
theorem GA.n54 {g h : Nat → Nat → Nat} (e : GA g h) : h 54 1 = g 54 1 := e.2.2.2.2.2.2.2.2.2.2.2.2.2.2.2.2.2.2.2.2.1
theorem GA.i54 {g h : Nat → Nat → Nat} (e : GA g h) : ∀ k, k < g 54 1 → h 55 k = g 55 k := e.2.2.2.2.2.2.2.2.2.2.2.2.2.2.2.2.2.2.2.2.2.1
theorem GA.f0 {g h : Nat → Nat → Nat} (e : GA g h) : h 166 0 = g 166 0 := e.2.2.2.2.2.2.2.2.2.2.2.2.2.2.2.2.2.2.2.2.2.2.1
theorem GA.f6 {g h : Nat → Nat → Nat} (e : GA g h) : h 166 6 = g 166 6 := e.2.2.2.2.2.2.2.2.2.2.2.2.2.2.2.2.2.2.2.2.2.2.2.1
theorem GA.f7 {g h : Nat → Nat → Nat} (e : GA g h) : h 166 7 = g 166 7 := e.2.2.2.2.2.2.2.2.2.2.2.2.2.2.2.2.2.2.2.2.2.2.2.2.1
theorem GA.f8 {g h : Nat → Nat → Nat} (e : GA g h) : h 166 8 = g 166 8 := e.2.2.2.2.2.2.2.2.2.2.2.2.2.2.2.2.2.2.2.2.2.2.2.2.2.1
theorem GA.f9 {g h : Nat → Nat → Nat} (e : GA g h) : h 166 9 = g 166 9 := e.2.2.2.2.2.2.2.2.2.2.2.2.2.2.2.2.2.2.2.2.2.2.2.2.2.2.1
theorem GA.f44 {g h : Nat → Nat → Nat} (e : GA g h) : h 166 44 = g 166 44 := e.2.2.2.2.2.2.2.2.2.2.2.2.2.2.2.2.2.2.2.2.2.2.2.2.2.2.2.1
theorem GA.f48 {g h : Nat → Nat → Nat} (e : GA g h) : h 166 48 = g 166 48 := e.2.2.2.2.2.2.2.2.2.2.2.2.2.2.2.2.2.2.2.2.2.2.2.2.2.2.2.2.1
theorem GA.w167 {g h : Nat → Nat → Nat} (e : GA g h) : ∀ j, j < 72 → h 167 j = g 167 j := e.2.2.2.2.2.2.2.2.2.2.2.2.2.2.2.2.2.2.2.2.2.2.2.2.2.2.2.2.2.1
theorem GA.w168 {g h : Nat → Nat → Nat} (e : GA g h) : ∀ j, j < 12 → h 168 j = g 168 j := e.2.2.2.2.2.2.2.2.2.2.2.2.2.2.2.2.2.2.2.2.2.2.2.2.2.2.2.2.2.2.1
theorem GA.w169 {g h : Nat → Nat → Nat} (e : GA g h) : ∀ j, j < 12 → h 169 j = g 169 j := e.2.2.2.2.2.2.2.2.2.2.2.2.2.2.2.2.2.2.2.2.2.2.2.2.2.2.2.2.2.2.2.1
theorem GA.w171 {g h : Nat → Nat → Nat} (e : GA g h) : ∀ j, j < 5 → h 171 j = g 171 j := e.2.2.2.2.2.2.2.2.2.2.2.2.2.2.2.2.2.2.2.2.2.2.2.2.2.2.2.2.2.2.2.2.1
theorem GA.w172 {g h : Nat → Nat → Nat} (e : GA g h) : ∀ j, j < 5 → h 172 j = g 172 j := e.2.2.2.2.2.2.2.2.2.2.2.2.2.2.2.2.2.2.2.2.2.2.2.2.2.2.2.2.2.2.2.2.2.1
theorem GA.w173 {g h : Nat → Nat → Nat} (e : GA g h) : ∀ j, j < 5 → h 173 j = g 173 j := e.2.2.2.2.2.2.2.2.2.2.2.2.2.2.2.2.2.2.2.2.2.2.2.2.2.2.2.2.2.2.2.2.2.2.1
theorem GA.w174 {g h : Nat → Nat → Nat} (e : GA g h) : ∀ j, j < 20 → h 174 j = g 174 j := e.2.2.2.2.2.2.2.2.2.2.2.2.2.2.2.2.2.2.2.2.2.2.2.2.2.2.2.2.2.2.2.2.2.2.2.1
theorem GA.w189 {g h : Nat → Nat → Nat} (e : GA g h) : ∀ j, j < 6 → h 189 j = g 189 j := e.2.2.2.2.2.2.2.2.2.2.2.2.2.2.2.2.2.2.2.2.2.2.2.2.2.2.2.2.2.2.2.2.2.2.2.2.1
theorem GA.w190 {g h : Nat → Nat → Nat} (e : GA g h) : ∀ j, j < 6 → h 190 j = g 190 j := e.2.2.2.2.2.2.2.2.2.2.2.2.2.2.2.2.2.2.2.2.2.2.2.2.2.2.2.2.2.2.2.2.2.2.2.2.2.1
theorem GA.w191 {g h : Nat → Nat → Nat} (e : GA g h) : ∀ j, j < 6 → h 191 j = g 191 j := e.2.2.2.2.2.2.2.2.2.2.2.2.2.2.2.2.2.2.2.2.2.2.2.2.2.2.2.2.2.2.2.2.2.2.2.2.2.2.1
theorem GA.w192 {g h : Nat → Nat → Nat} (e : GA g h) : ∀ j, j < 8 → h 192 j = g 192 j := e.2.2.2.2.2.2.2.2.2.2.2.2.2.2.2.2.2.2.2.2.2.2.2.2.2.2.2.2.2.2.2.2.2.2.2.2.2.2.2.1
theorem GA.w175 {g h : Nat → Nat → Nat} (e : GA g h) : ∀ j, j < g 166 9 → h 175 j = g 175 j := e.2.2.2.2.2.2.2.2.2.2.2.2.2.2.2.2.2.2.2.2.2.2.2.2.2.2.2.2.2.2.2.2.2.2.2.2.2.2.2.2.1
theorem GA.w175b {g h : Nat → Nat → Nat} (e : GA g h) : ∀ j, j < 12 → h 175 j ≤ 3 := e.2.2.2.2.2.2.2.2.2.2.2.2.2.2.2.2.2.2.2.2.2.2.2.2.2.2.2.2.2.2.2.2.2.2.2.2.2.2.2.2.2
theorem RY.cg {g h : Nat → Nat → Nat} (k : RY g) (e6 : h 166 6 = g 166 6) (e7 : h 166 7 = g 166 7) (e8 : h 166 8 = g 166 8) : RY h := by
  unfold RY RZ at *
  rw [e6, e7, e8]
  exact k
theorem LnE.cg {g h : Nat → Nat → Nat} {c n m : Nat} {f f' : Nat → Nat} (k : LnE g c n f) (hn : m = n) (e1 : h c 1 = g c 1) (e2 : ∀ i, i < g c 1 → h (c + 1) i = g (c + 1) i) (ef : ∀ i, i < n → f' i = f i) : LnE h c m f' := by
  subst hn
  exact ⟨e1.trans k.1, fun i hi => by rw [e2 i (by rw [k.1]; exact hi), ef i hi]; exact k.2 i hi⟩
theorem MG.cg {g h : Nat → Nat → Nat} (m : MG g) (e : GA g h) : MG h := by
  refine ⟨by rw [e.f0]; exact m.g0, by rw [e.f6]; exact m.g6, by rw [e.f7]; exact m.g7, by rw [e.f8]; exact m.g8, by rw [e.f9]; exact m.g9, by rw [e.f44]; exact m.g44, by rw [e.f48]; exact m.g48, fun j hj => by rw [e.w167 j hj]; exact m.b167 j hj, fun j hj => by rw [e.w168 j hj]; exact m.b168 j hj, fun j hj => by rw [e.w169 j hj]; exact m.b169 j hj, fun j hj => by rw [e.w171 j hj]; exact m.b171 j hj, fun j hj => by rw [e.w172 j hj]; exact m.b172 j hj, fun j hj => by rw [e.w173 j hj]; exact m.b173 j hj, fun j hj => by rw [e.w174 j hj]; exact m.b174 j hj, e.w175b, fun j hj => by rw [e.w189 j hj]; exact m.b189 j hj, fun j hj => by rw [e.w190 j hj]; exact m.b190 j hj, fun j hj => by rw [e.w191 j hj]; exact m.b191 j hj, fun j hj => by rw [e.w192 j hj]; exact m.b192 j hj, fun i hi => by rw [e.f0] at hi; have h0 := m.g0; rw [e.w168 i (by omega)]; exact m.s1 i hi⟩
theorem GMC.cg {g h : Nat → Nat → Nat} (m : MG g) (k : GMC g) (e : GA g h) : GMC h := by
  have hB := k.cb
  have h0 := m.g0
  have h44 := m.g44
  have h48 := m.g48
  have epl : ∀ p l i, i < g 166 0 → plB h p l i = plB g p l i := fun p l i hi => by
    unfold plB
    rw [e.w168 i (by omega)]
    by_cases z : p < g 168 i
    · have := m.b168 i (by omega)
      rw [e.w167 (6 * i + p) (by omega)]
    · rw [decide_eq_false z]; rfl
  have eln : ∀ n i, i < g 166 0 → lnB h n i = lnB g n i := fun n i hi => by
    unfold lnB
    rw [e.w168 i (by omega)]
  refine ⟨⟨by rw [e.a1, e.f0]; exact hB.1, fun i hi => by rw [e.a2 i hi, e.w168 i hi]; exact hB.2.1 i hi, fun i q hi hq => ?_, fun i hi => by rw [e.a4 i hi, e.w169 i hi]; exact hB.2.2.2.1 i hi, fun p l hp hl => ?_, fun n hn => ?_⟩, ⟨fun i hi => ?_, fun i q hi hq => ?_, fun i hi => ?_⟩, by rw [e.s, e.f6]; exact k.cs, ?_, k.ry.cg e.f6 e.f7 e.f8, ?_, ?_, ?_, fun i hi => ?_, ?_⟩
  · rw [e.w168 i hi] at hq
    have := m.b168 i hi
    rw [e.a3 i q hi (by rw [hB.2.1 i hi]; exact hq), e.w167 _ (by omega)]
    exact hB.2.2.1 i q hi hq
  · rw [e.a5 _ (by omega), e.f0, hB.2.2.2.2.1 p l hp hl]
    exact bset_cg (fun i hi => (epl p l i hi).symm)
  · rw [e.a6 _ hn, e.f0, hB.2.2.2.2.2 n hn]
    exact bset_cg (fun i hi => (eln n i hi).symm)
  · rw [e.p1 i 2 hi (by decide) (by decide), e.p1 i 3 hi (by decide) (by decide), e.w171 i hi, e.w172 i hi]
    exact k.cp.1 i hi
  · rw [e.p2 i q hi hq, e.w174 _ (by omega)]
    exact k.cp.2.1 i q hi hq
  · rw [e.f6] at hi
    have h6 := m.g6
    rw [e.p1 i 1 (by omega) (by decide) (by decide)]
    exact k.cp.2.2 i hi
  · obtain ⟨x1, x2, x3, x4, x5⟩ := k.rx
    refine ⟨by rw [e.r1, e.f9]; exact x1, fun q hq => ?_, fun j hj => by rw [e.rl j hj, e.w173 j hj]; exact x3 j hj, by rw [e.r2, e.f7]; exact x4, by rw [e.r3, e.f8]; exact x5⟩
    rw [e.f9] at hq
    rw [e.rr q (by rw [x1]; exact hq), e.w175 q hq]
    exact x2 q hq
  · exact k.l48.cg e.f44 e.n48 e.i48 (fun i hi => e.w189 i (by omega))
  · exact k.l50.cg e.f44 e.n50 e.i50 (fun i hi => e.w190 i (by omega))
  · exact k.l52.cg e.f44 e.n52 e.i52 (fun i hi => e.w191 i (by omega))
  · rw [e.f44] at hi
    rw [e.w190 i (by omega), e.f0]
    exact k.sw i hi
  · exact k.l54.cg e.f48 e.n54 e.i54 (fun i hi => e.w192 i (by omega))
/-- the game as the image holds it -/
def imV (g : Nat → Nat → Nat) : Nat → Nat → Nat := fun a b => if a < 70 then g (a + 58) b else if a = 166 then (if b = 0 then g 166 52 else (if b = 6 then g 166 53 else (if b = 7 then g 166 54 else (if b = 8 then g 166 55 else (if b = 9 then g 166 56 else (if b = 16 then g 166 51 else (if b = 44 then g 166 57 else (if b = 48 then g 166 58 else g 166 b)))))))) else (if a = 167 then g 193 b else (if a = 168 then g 194 b else (if a = 169 then g 195 b else (if a = 171 then g 196 b else (if a = 172 then g 197 b else (if a = 173 then g 198 b else (if a = 174 then g 199 b else (if a = 175 then g 200 b else (if a = 189 then g 201 b else (if a = 190 then g 202 b else (if a = 191 then g 203 b else (if a = 192 then g 204 b else g a b))))))))))))
/-- signs of a clause -/
def sgL (g : Nat → Nat → Nat) (c : Nat) : List Nat := (List.range (g 181 c - g 180 c)).map (fun k => g 182 (g 180 c + k))
/-- all know clauses of n clauses from o on, behind one another, with the signs that join them -/
def kcL (g : Nat → Nat → Nat) (o : Nat) : Nat → List Nat
  | 0 => []
  | n + 1 => if g 178 (o + n) = 0 then (if (kcL g o n).isEmpty = true then sgL g (o + n) else kcL g o n ++ (sgL g (o + n) ++ [4294967172])) else kcL g o n
/-- a step of the class for a sign of the reference -/
def trS (t : Nat) : Nat := if t < 2147483648 then (t / 1000 * 3 + t / 100 % 10) * 100 + t % 100 else if t = 4294967263 then 4294967293 else if t = 4294967258 then 4294967295 else 4294967294
def TbK (g : Nat → Nat → Nat) (f : Nat) : Prop := g (136 + 3 * f) 3 = lwF g (10 * f) 1 (g 177 f) ∧ g (136 + 3 * f) 4 = lwF g (10 * f) 2 (g 177 f) ∧ g (136 + 3 * f) 2 = (kcL g (10 * f) (g 177 f)).length ∧ (kcL g (10 * f) (g 177 f)).length ≤ 100 ∧ (∀ k, k < (kcL g (10 * f) (g 177 f)).length → g (136 + 3 * f + 1) k = trS ((kcL g (10 * f) (g 177 f)).getD k 0)) ∧ ∀ t ∈ kcL g (10 * f) (g 177 f), t < 6000 → t / 100 % 10 ≤ 2
def TbE (g : Nat → Nat → Nat) : Prop := g 0 4 = g 166 15 ∧ (g 56 2 = 0 ∧ g 56 3 = 3 ∧ g 56 4 = 3) ∧ ∀ f, f < g 166 15 → TbK g f
def KA (g : Nat → Nat → Nat) : Prop := ∀ f, f < g 166 15 → ∀ j, j < g 177 f → g 178 (10 * f + j) = 0 → WFc g (10 * f + j) ∧ 100 * f ≤ g 180 (10 * f + j) ∧ g 181 (10 * f + j) ≤ 100 * f + 100
/-- which table holds -/
def THo (n t c : Nat) : Prop := (t = 4294967295 ∧ c = 56) ∨ (t < n ∧ c = 136 + 3 * t)
def AcE (g : Nat → Nat → Nat) : Prop := g 132 1 = g 166 71 ∧ g 133 1 = (if g 166 71 ≤ 20 then g 166 71 else 20) ∧ ∀ k, k < g 166 71 → k < 20 → g 134 k = g 205 k
def TpE (g : Nat → Nat → Nat) (hl : Nat → Nat → Int64) : Prop := ∀ t, t < 6 → g (154 + 2 * t) 1 = g 206 t ∧ g (154 + 2 * t) 2 = g 207 t ∧ (g 206 t = 4294967295 → g 207 t = 0) ∧ ∀ k, k < 60 → hl (154 + 2 * t + 1) k = hl 208 (60 * t + k)
/-- what holds between two calls -/
def Inv (g : Nat → Nat → Nat) (hl : Nat → Nat → Int64) (rt : Nat × Nat × Nat × Nat) : Prop := (MI g) ∧ (HLt g) ∧ (g 166 33 = 4294967295) ∧ (KA g) ∧ (THo (g 166 15) (g 166 16) rt.2.2.1) ∧ (LnE g 1 (g 166 1) (g 170)) ∧ (LnE g 3 (g 166 17) (g 176)) ∧ (GMC g) ∧ (AcE g) ∧ (TpE g hl) ∧ (TbE g) ∧ (g 166 50 ≤ 1) ∧ (g 0 7 = g 166 50) ∧ (g 166 50 = 1 → MG (imV g) ∧ GMC (imV g) ∧ THo (g 166 15) (g 166 51) rt.2.2.2) ∧ (∀ j, j < 5 → g 59 j < 4096) ∧ (∀ j, j < 7 → g 18 j < 4096)
theorem Inv.mi {g : Nat → Nat → Nat} {hl : Nat → Nat → Int64} {rt : Nat × Nat × Nat × Nat} (h : Inv g hl rt) : MI g := h.1
theorem Inv.lt {g : Nat → Nat → Nat} {hl : Nat → Nat → Int64} {rt : Nat × Nat × Nat × Nat} (h : Inv g hl rt) : HLt g := h.2.1
theorem Inv.lr {g : Nat → Nat → Nat} {hl : Nat → Nat → Int64} {rt : Nat × Nat × Nat × Nat} (h : Inv g hl rt) : g 166 33 = 4294967295 := h.2.2.1
theorem Inv.ka {g : Nat → Nat → Nat} {hl : Nat → Nat → Int64} {rt : Nat × Nat × Nat × Nat} (h : Inv g hl rt) : KA g := h.2.2.2.1
theorem Inv.th {g : Nat → Nat → Nat} {hl : Nat → Nat → Int64} {rt : Nat × Nat × Nat × Nat} (h : Inv g hl rt) : THo (g 166 15) (g 166 16) rt.2.2.1 := h.2.2.2.2.1
theorem Inv.sp {g : Nat → Nat → Nat} {hl : Nat → Nat → Int64} {rt : Nat × Nat × Nat × Nat} (h : Inv g hl rt) : LnE g 1 (g 166 1) (g 170) := h.2.2.2.2.2.1
theorem Inv.tx {g : Nat → Nat → Nat} {hl : Nat → Nat → Int64} {rt : Nat × Nat × Nat × Nat} (h : Inv g hl rt) : LnE g 3 (g 166 17) (g 176) := h.2.2.2.2.2.2.1
theorem Inv.gm {g : Nat → Nat → Nat} {hl : Nat → Nat → Int64} {rt : Nat × Nat × Nat × Nat} (h : Inv g hl rt) : GMC g := h.2.2.2.2.2.2.2.1
theorem Inv.ac {g : Nat → Nat → Nat} {hl : Nat → Nat → Int64} {rt : Nat × Nat × Nat × Nat} (h : Inv g hl rt) : AcE g := h.2.2.2.2.2.2.2.2.1
theorem Inv.tp {g : Nat → Nat → Nat} {hl : Nat → Nat → Int64} {rt : Nat × Nat × Nat × Nat} (h : Inv g hl rt) : TpE g hl := h.2.2.2.2.2.2.2.2.2.1
theorem Inv.tb {g : Nat → Nat → Nat} {hl : Nat → Nat → Int64} {rt : Nat × Nat × Nat × Nat} (h : Inv g hl rt) : TbE g := h.2.2.2.2.2.2.2.2.2.2.1
theorem Inv.i1 {g : Nat → Nat → Nat} {hl : Nat → Nat → Int64} {rt : Nat × Nat × Nat × Nat} (h : Inv g hl rt) : g 166 50 ≤ 1 := h.2.2.2.2.2.2.2.2.2.2.2.1
theorem Inv.i2 {g : Nat → Nat → Nat} {hl : Nat → Nat → Int64} {rt : Nat × Nat × Nat × Nat} (h : Inv g hl rt) : g 0 7 = g 166 50 := h.2.2.2.2.2.2.2.2.2.2.2.2.1
theorem Inv.im {g : Nat → Nat → Nat} {hl : Nat → Nat → Int64} {rt : Nat × Nat × Nat × Nat} (h : Inv g hl rt) : g 166 50 = 1 → MG (imV g) ∧ GMC (imV g) ∧ THo (g 166 15) (g 166 51) rt.2.2.2 := h.2.2.2.2.2.2.2.2.2.2.2.2.2.1
theorem Inv.k59 {g : Nat → Nat → Nat} {hl : Nat → Nat → Int64} {rt : Nat × Nat × Nat × Nat} (h : Inv g hl rt) : ∀ j, j < 5 → g 59 j < 4096 := h.2.2.2.2.2.2.2.2.2.2.2.2.2.2.1
theorem Inv.k18 {g : Nat → Nat → Nat} {hl : Nat → Nat → Int64} {rt : Nat × Nat × Nat × Nat} (h : Inv g hl rt) : ∀ j, j < 7 → g 18 j < 4096 := h.2.2.2.2.2.2.2.2.2.2.2.2.2.2.2
theorem THo.kc {n t c : Nat} (h : THo n t c) (hn : n ≤ 6) : KC c 7 5 ∧ (c = 56 ∨ (136 ≤ c ∧ c ≤ 151)) := by
  rcases h with ⟨_, rfl⟩ | ⟨h1, rfl⟩
  · exact ⟨⟨by decide, rfl⟩, Or.inl rfl⟩
  · refine ⟨?_, Or.inr ⟨by omega, by omega⟩⟩
    rcases (show t = 0 ∨ t = 1 ∨ t = 2 ∨ t = 3 ∨ t = 4 ∨ t = 5 by omega) with rfl | rfl | rfl | rfl | rfl | rfl <;> exact ⟨by decide, rfl⟩
theorem KA.kw {g : Nat → Nat → Nat} (h : KA g) {c : Nat} (ht : THo (g 166 15) (g 166 16) c) (hm : MI g) : KW g := by
  intro j hj h0
  have h15 := hm.hTb
  unfold fC nC at *
  rcases ht with ⟨a, _⟩ | ⟨a, _⟩
  · rw [if_neg (by omega)] at hj
    exact absurd hj (Nat.not_lt_zero _)
  · rw [if_pos (by omega)] at hj h0 ⊢
    exact (h _ a j hj h0).1
theorem Inv.kw {g : Nat → Nat → Nat} {hl : Nat → Nat → Int64} {rt : Nat × Nat × Nat × Nat} (h : Inv g hl rt) : KW g := h.ka.kw h.th h.mi
theorem TbE.lw {g : Nat → Nat → Nat} (h : TbE g) {c : Nat} (ht : THo (g 166 15) (g 166 16) c) (hm : MI g) : g c 3 = lwS g 1 ∧ g c 4 = lwS g 2 := by
  have h15 := hm.hTb
  unfold lwS fC nC
  rcases ht with ⟨a, rfl⟩ | ⟨a, rfl⟩
  · rw [if_neg (by omega), if_neg (by omega)]
    exact ⟨h.2.1.2.1, h.2.1.2.2⟩
  · rw [if_pos (by omega), if_pos (by omega)]
    exact ⟨(h.2.2 _ a).1, (h.2.2 _ a).2.1⟩
theorem Inv.gok {g : Nat → Nat → Nat} {hl : Nat → Nat → Int64} {rt : Nat × Nat × Nat × Nat} (h : Inv g hl rt) : GOK g rt (lwS g 1) := by
  have hk := h.th.kc h.mi.hTb
  have hc := hk.2
  exact ⟨h.mi, h.gm.cb, h.gm.cs, ⟨hk.1, lwS_le h.mi 1, (h.tb.lw h.th h.mi).1, fun c hc' => ⟨by omega, by omega⟩⟩, h.k59, h.k18, h.gm.cp⟩
