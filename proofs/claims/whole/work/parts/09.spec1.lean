/-! what the calls do, for both sides: the settings and the reads -/
theorem wi_1 {x lo hi : Int32} (h1 : ¬ x < lo) (h2 : ¬ hi < x) : (1 : Int32) = if lo ≤ x ∧ x ≤ hi then 1 else 0 := (if_pos ⟨Int32.not_lt.mp h1, Int32.not_lt.mp h2⟩).symm
theorem wi_a {x lo hi : Int32} (h1 : x < lo) : (0 : Int32) = if lo ≤ x ∧ x ≤ hi then 1 else 0 := (if_neg (fun h => Int32.not_lt.mpr h.1 h1)).symm
theorem wi_b {x lo hi : Int32} (h1 : hi < x) : (0 : Int32) = if lo ≤ x ∧ x ≤ hi then 1 else 0 := (if_neg (fun h => Int32.not_lt.mpr h.2 h1)).symm
/-- a number between 0 and a small one is a natural number -/
theorem nat_of {x : Int32} {n : Nat} (hn : n < 2 ^ 31) (h0 : 0 ≤ x) (h1 : x ≤ nI n) : ∃ j : Nat, j ≤ n ∧ x = nI j := nI_of2 (M := nI n) (nI_toInt hn) (Int32.not_lt.mpr h0) h1
theorem nat_lt {x : Int32} {a : Nat} (ha : a < 2 ^ 30) (h0 : 0 ≤ x) (h1 : x ≤ nI a - 1) : ∃ j : Nat, j < a ∧ x = nI j := by
  obtain ⟨j, hj, rfl⟩ := nI_of (Int32.not_lt.mpr h0)
  cases a with
  | zero =>
    rw [nI_0] at h1
    exact absurd (Int32.le_trans h0 h1) (by decide)
  | succ a =>
    rw [nI_pred] at h1
    exact ⟨j, Nat.lt_succ_of_le ((nI_leI hj (by omega)).mp h1), rfl⟩
def zr (n : Nat) (f : Nat → Int32) : Nat → Int32 := fun k => if k < n then 0 else f k
def zrE (n : Nat) (f : Nat → Int64) : Nat → Int64 := fun k => if k < n then 0 else f k
theorem zr_0 (f : Nat → Int32) : zr 0 f = f := by funext k; simp [zr]
theorem zrE_0 (f : Nat → Int64) : zrE 0 f = f := by funext k; simp [zrE]
theorem zr_s (n : Nat) (f : Nat → Int32) : upd (zr n f) n 0 = zr (n + 1) f := by
  funext k
  by_cases h : k = n
  · subst h; simp [upd, zr]
  · by_cases h2 : k < n
    · simp [upd, zr, h, h2, Nat.lt_succ_of_lt h2]
    · simp [upd, zr, h, h2, show ¬ k < n + 1 by omega]
theorem zrE_s (n : Nat) (f : Nat → Int64) : vp_updL (zrE n f) n 0 = zrE (n + 1) f := by
  funext k
  by_cases h : k = n
  · subst h; simp [vp_updL, zrE]
  · by_cases h2 : k < n
    · simp [vp_updL, zrE, h, h2, Nat.lt_succ_of_lt h2]
    · simp [vp_updL, zrE, h, h2, show ¬ k < n + 1 by omega]
def rsG (k : Nat) (g : Sg) : Sg := (g.1, g.2.1, (fun j => if j < 4 then zr k (gR g j) else gR g j), zrE k (gE g), g.2.2.2.2)
theorem rsG_0 (g : Sg) : rsG 0 g = g := by
  obtain ⟨N, I, R, E, V⟩ := g
  simp only [rsG, gR, gE, zr_0, zrE_0, ite_self]
theorem rsG_s (k : Nat) (g : Sg) : sR (sR (sE (sR (sR (rsG k g) 0 (upd (gR (rsG k g) 0) k 0)) 1 (upd (gR (rsG k g) 1) k 0)) (vp_updL (gE (rsG k g)) k 0)) 2 (upd (gR (rsG k g) 2) k 0)) 3 (upd (gR (rsG k g) 3) k 0) = rsG (k + 1) g := by
  have e : ∀ j, j < 4 → gR (rsG k g) j = zr k (gR g j) := fun j hj => if_pos hj
  have e2 : gE (rsG k g) = zrE k (gE g) := rfl
  rw [e 0 (by decide), e 1 (by decide), e 2 (by decide), e 3 (by decide), e2]
  simp only [zr_s, zrE_s]
  refine Prod.ext rfl (Prod.ext rfl (Prod.ext ?_ rfl))
  funext j
  show vf_upd (vf_upd (vf_upd (vf_upd (fun j => if j < 4 then zr k (gR g j) else gR g j) 0 (zr (k + 1) (gR g 0))) 1 (zr (k + 1) (gR g 1))) 2 (zr (k + 1) (gR g 2))) 3 (zr (k + 1) (gR g 3)) j = if j < 4 then zr (k + 1) (gR g j) else gR g j
  by_cases h : j < 4
  · rcases (show j = 0 ∨ j = 1 ∨ j = 2 ∨ j = 3 by omega) with rfl | rfl | rfl | rfl <;> simp [vf_upd]
  · simp [vf_upd, h, show j ≠ 0 by omega, show j ≠ 1 by omega, show j ≠ 2 by omega, show j ≠ 3 by omega]
def sp_reset (g : Sg) : Sg := sI (sV (sN (rsG 8 g) 1 0) []) 5 0
abbrev okc (u d hi lo : Int32) : Prop := (1 ≤ u ∧ u ≤ 9) ∧ (1 ≤ d ∧ d ≤ 9) ∧ (1 ≤ hi ∧ hi ≤ 60) ∧ ((-60) ≤ lo ∧ lo ≤ (-1))
def sp_configure (u d hi lo : Int32) (g : Sg) : Int32 × Sg := if okc u d hi lo then (nI (gN g 0), sp_reset (sI (sI (sI (sI g 0 u) 1 d) 2 hi) 3 lo)) else (-104, g)
def sp_setCells (k : Int32) (g : Sg) : Int32 × Sg := if 1 ≤ k ∧ k ≤ 8 then (nI (gN g 0), sp_reset (sN g 0 k.toNatClampNeg)) else (-104, g)
def sp_setTimeout (k : Int32) (g : Sg) : Int32 × Sg := if 1 ≤ k ∧ k ≤ 20 then (gI g 4, sI g 4 k) else (-104, g)
def sp_cellOf (s : Int32) (g : Sg) : Int32 := if 0 ≤ s ∧ s ≤ 7 then nI (s.toNatClampNeg % gN g 0) else (-105)
/-- a read of a row at a cell -/
def sp_at (k : Nat) (i : Int32) (g : Sg) : Int32 := if 0 ≤ i ∧ i ≤ nI (gN g 0) - 1 then gR g k i.toNatClampNeg else (-107)
def sp_isB (i : Int32) (g : Sg) : Int32 := if 0 ≤ i ∧ i ≤ nI (gN g 0) - 1 then (if gR g 1 i.toNatClampNeg = 0 then 0 else 1) else (-107)
def sp_seen (i : Int32) (g : Sg) : Int64 := if 0 ≤ i ∧ i ≤ nI (gN g 0) - 1 then gE g i.toNatClampNeg else (-107)
def desA (k : Nat) (g : Sg) : Int32 := 1000 * (gR g 6 k - gI g 5) + 100 * gR g 4 k + gR g 5 k
def sp_desA (i : Int32) (g : Sg) : Int32 := if 0 ≤ i ∧ i ≤ nI (gN g 1) - 1 then desA i.toNatClampNeg g else (-108)
def sp_desV (b : Int32) (g : Sg) : Int32 := if (0 ≤ b ∧ b ≤ 15) ∧ b < nI (gV g).length then (gV g).getD b.toNatClampNeg 0 else (-109)
def sp_append (k : Int32) (g : Sg) : Int32 × Sg := if 32 ≤ k ∧ k ≤ 126 then (if gN g 2 = 59 then (-102, g) else (nI (gN g 2 + 1), sN (sR g 7 (upd (gR g 7) (gN g 2) k)) 2 (gN g 2 + 1))) else (-101, g)
def sp_clear (g : Sg) : Int32 × Sg := (nI (gN g 2), sN g 2 0)
/-- what holds of every state -/
def Inv (g : Sg) : Prop := (1 ≤ gN g 0 ∧ gN g 0 ≤ 8) ∧ gN g 1 ≤ 12 ∧ gN g 2 ≤ 59 ∧ (1 ≤ gI g 0 ∧ gI g 0 ≤ 9) ∧ (1 ≤ gI g 1 ∧ gI g 1 ≤ 9) ∧ (1 ≤ gI g 2 ∧ gI g 2 ≤ 60) ∧ ((-60) ≤ gI g 3 ∧ gI g 3 ≤ (-1)) ∧ (∀ k, k < gN g 1 → ∃ s, s < 8 ∧ gR g 4 k = nI s) ∧ (gV g).length < 2 ^ 30
def RgM (V : List Int32) (L : Nat → Int32) : Prop := ∀ b, b < 16 → b < V.length → L b = V.getD b 0
