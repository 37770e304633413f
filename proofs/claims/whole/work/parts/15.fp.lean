/-! doubles: numbers that aren't negative, in units of the least one; sums and products stay between bounds -/
theorem qm64 : FP.Core.b64.qmin = -1074 := by decide +kernel
theorem qx64 : FP.Core.b64.qmax = 971 := by decide +kernel
def Fn (x : UInt64) (v : Nat) : Prop := ∃ (c : Nat) (q : Int), FP.Core.val64 x = .fin false c q ∧ v = FP.Core.inUnits c q FP.Core.b64.qmin
theorem Fn.n64 {x : UInt64} {v : Nat} (h : Fn x v) : vf_n64 x := by
  obtain ⟨c, q, h, -⟩ := h
  have h1 := (FP.Core.fin_bits x).mp ⟨false, c, q, h⟩
  show x &&& 0x7fffffffffffffff ≤ 0x7ff0000000000000
  rw [UInt64.le_iff_toNat_le, FP.Core.mask_toNat]
  show x.toNat % 2 ^ 63 ≤ 9218868437227405312
  omega
theorem rep {k t : Nat} (hk : k < 2 ^ 53) (ht : t ≤ 2045) : ∃ V, FP.Core.fits FP.Core.b64 V ∧ V ≠ .nan ∧ FP.Core.zmag FP.Core.b64 V = k * 2 ^ t := by
  obtain ⟨c, q, h, e⟩ := FP.Core.round_exact FP.Core.good_b64 false (c := k) (q := (t : Int) - 1074) hk (by rw [qm64]; omega) (by rw [qx64]; omega)
  refine ⟨FP.Core.round FP.Core.b64 (.fin false k ((t : Int) - 1074)), FP.Core.round_fits FP.Core.good_b64 _, by rw [h]; exact FP.Core.Datum.noConfusion, ?_⟩
  rw [h]
  show FP.Core.inUnits c q FP.Core.b64.qmin = _
  rw [e]
  unfold FP.Core.inUnits
  rw [qm64, show ((t : Int) - 1074 - -1074).toNat = t by omega]
theorem big_lt {k t : Nat} (hk : k < 2 ^ 53) (ht : t ≤ 2045) : k * 2 ^ t < 2 ^ 2098 := by
  have h1 : k * 2 ^ t < 2 ^ 53 * 2 ^ t := Nat.mul_lt_mul_of_pos_right hk (Nat.two_pow_pos t)
  rw [← Nat.pow_add] at h1
  exact Nat.lt_of_lt_of_le h1 (Nat.pow_le_pow_right (by decide) (by omega))
theorem rr {A : Nat} {e : Int} {L k t : Nat} (he : -2148 ≤ e) (hlo : 2 ^ L * 2 ^ 1074 ≤ FP.Core.inUnits A e (-2148)) (hL : L ≤ 2045) (hhi : FP.Core.inUnits A e (-2148) ≤ k * 2 ^ t * 2 ^ 1074) (hk : k < 2 ^ 53) (ht : t ≤ 2045) :
    ∃ (c : Nat) (q : Int), FP.Core.roundRatio FP.Core.b64 false A 1 e = .fin false c q ∧ 2 ^ L ≤ FP.Core.inUnits c q FP.Core.b64.qmin ∧ FP.Core.inUnits c q FP.Core.b64.qmin ≤ k * 2 ^ t := by
  obtain ⟨V1, f1, n1, z1⟩ := rep (k := 1) (t := L) (by decide) hL
  obtain ⟨V2, f2, n2, z2⟩ := rep hk ht
  rw [Nat.one_mul] at z1
  have hq : (FP.Core.b64.qmin - (-2148)).toNat = 1074 := by rw [qm64]; decide
  have a1 := FP.Core.zmag_roundRatio_ge (s := false) (A := A) (B := 1) (e := e) (e0 := -2148) FP.Core.good_b64 (by decide) f1 (by rw [qm64]; decide) he (by rw [z1, hq, Nat.mul_one]; exact hlo)
  have a2 := FP.Core.zmag_roundRatio_le (s := false) (A := A) (B := 1) (e := e) (e0 := -2148) FP.Core.good_b64 (by decide) f2 n2 (by rw [qm64]; decide) he (by rw [z2, hq, Nat.mul_one]; exact hhi)
  rw [z1] at a1
  rw [z2] at a2
  rcases FP.Core.roundRatio_cases FP.Core.b64 false A 1 e with ⟨c, q, h⟩ | h
  · rw [h] at a1 a2
    exact ⟨c, q, h, a1, a2⟩
  · rw [h] at a2
    have h3 : FP.Core.zmag FP.Core.b64 (.inf false) = 2 ^ 2098 := by decide +kernel
    rw [h3] at a2
    exact absurd a2 (Nat.not_le.mpr (big_lt hk ht))
theorem iu_move (c : Nat) {q r e : Int} (h1 : e ≤ r) (h2 : r ≤ q) : FP.Core.inUnits (FP.Core.inUnits c q r) r e = FP.Core.inUnits c q e := by
  rw [FP.Core.inUnits_move c h1 h2]
  rfl
theorem iu_add (a b : Nat) (q e : Int) : FP.Core.inUnits (a + b) q e = FP.Core.inUnits a q e + FP.Core.inUnits b q e := Nat.add_mul _ _ _
theorem Fn_zero {x : UInt64} (h : FP.Core.val64 x = .fin false 0 FP.Core.b64.qmin) : Fn x 0 := ⟨0, _, h, by unfold FP.Core.inUnits; rw [Nat.zero_mul]⟩
theorem Fn_add {x y : UInt64} {a b : Nat} (hx : Fn x a) (hy : Fn y b) {L k t : Nat} (hlo : a + b = 0 ∨ 2 ^ L ≤ a + b) (hL : L ≤ 2045) (hhi : a + b ≤ k * 2 ^ t) (hk : k < 2 ^ 53) (ht : t ≤ 2045) : ∃ v, Fn (FP.dadd x y) v ∧ (v = 0 ∨ 2 ^ L ≤ v) ∧ v ≤ k * 2 ^ t := by
  obtain ⟨c, q, hc, rfl⟩ := hx
  obtain ⟨d, r, hd, rfl⟩ := hy
  have fc := FP.Core.val64_fits x
  have fd := FP.Core.val64_fits y
  rw [hc] at fc
  rw [hd] at fd
  have q1 : FP.Core.b64.qmin ≤ q := fc.2.1
  have r1 : FP.Core.b64.qmin ≤ r := fd.2.1
  have hv := FP.Core.val64_dadd x y
  rw [hc, hd] at hv
  have hS : FP.Core.sumUnits false c q false d r (min q r) = ((FP.Core.inUnits c q (min q r) + FP.Core.inUnits d r (min q r) : Nat) : Int) := by
    unfold FP.Core.sumUnits FP.Core.signed
    simp
  have hE : FP.Core.exactSum (.fin false c q) (.fin false d r) = .fin false (FP.Core.inUnits c q (min q r) + FP.Core.inUnits d r (min q r)) (min q r) := by
    show FP.Core.Datum.fin _ _ _ = _
    rw [hS]
    have h0 : FP.Core.sumSign false false ((FP.Core.inUnits c q (min q r) + FP.Core.inUnits d r (min q r) : Nat) : Int) = false := by
      unfold FP.Core.sumSign
      split
      · rfl
      · exact decide_eq_false (by omega)
    rw [h0, Int.natAbs_natCast]
  rw [hE] at hv
  generalize hA : FP.Core.inUnits c q (min q r) + FP.Core.inUnits d r (min q r) = A at hv
  have hm1 : FP.Core.b64.qmin ≤ min q r := by omega
  have hab : FP.Core.inUnits A (min q r) FP.Core.b64.qmin = FP.Core.inUnits c q FP.Core.b64.qmin + FP.Core.inUnits d r FP.Core.b64.qmin := by
    rw [← hA, iu_add, iu_move c hm1 (by omega), iu_move d hm1 (by omega)]
  rw [← hab] at hlo hhi
  have h48 : FP.Core.inUnits A (min q r) (-2148) = FP.Core.inUnits A (min q r) FP.Core.b64.qmin * 2 ^ 1074 := by
    rw [FP.Core.inUnits_move A (r := FP.Core.b64.qmin) (by rw [qm64]; decide) hm1, show (FP.Core.b64.qmin - (-2148)).toNat = 1074 by rw [qm64]; decide]
  rcases hlo with hlo | hlo
  · have hA0 : A = 0 := by
      unfold FP.Core.inUnits at hlo
      rcases Nat.mul_eq_zero.mp hlo with h | h
      · exact h
      · exact absurd h (Nat.ne_of_gt (Nat.two_pow_pos _))
    rw [hA0] at hv
    exact ⟨0, Fn_zero hv, Or.inl rfl, Nat.zero_le _⟩
  · obtain ⟨c2, q2, e1, e2, e3⟩ := rr (A := A) (e := min q r) (L := L) (k := k) (t := t) (by rw [qm64] at hm1; omega) (by rw [h48]; exact Nat.mul_le_mul_right _ hlo) hL (by rw [h48]; exact Nat.mul_le_mul_right _ hhi) hk ht
    exact ⟨_, ⟨c2, q2, hv.trans e1, rfl⟩, Or.inr e2, e3⟩
theorem Fn_mul {x y : UInt64} {a b : Nat} (hx : Fn x a) (hy : Fn y b) {L k t : Nat} (hlo : a * b = 0 ∨ 2 ^ L * 2 ^ 1074 ≤ a * b) (hL : L ≤ 2045) (hhi : a * b ≤ k * 2 ^ t * 2 ^ 1074) (hk : k < 2 ^ 53) (ht : t ≤ 2045) : ∃ v, Fn (FP.dmul x y) v ∧ (v = 0 ∨ 2 ^ L ≤ v) ∧ v ≤ k * 2 ^ t := by
  obtain ⟨c, q, hc, rfl⟩ := hx
  obtain ⟨d, r, hd, rfl⟩ := hy
  have fc := FP.Core.val64_fits x
  have fd := FP.Core.val64_fits y
  rw [hc] at fc
  rw [hd] at fd
  have q1 : FP.Core.b64.qmin ≤ q := fc.2.1
  have r1 : FP.Core.b64.qmin ≤ r := fd.2.1
  rw [qm64] at q1 r1
  have hv := FP.Core.val64_dmul x y
  rw [hc, hd, show FP.Core.exactProduct (.fin false c q) (.fin false d r) = .fin false (c * d) (q + r) from rfl] at hv
  have hab : FP.Core.inUnits (c * d) (q + r) (-2148) = FP.Core.inUnits c q FP.Core.b64.qmin * FP.Core.inUnits d r FP.Core.b64.qmin := by
    unfold FP.Core.inUnits
    rw [qm64, show (q + r - -2148).toNat = (q - -1074).toNat + (r - -1074).toNat by omega, Nat.pow_add]
    ac_rfl
  rw [← hab] at hlo hhi
  rcases hlo with hlo | hlo
  · have hA0 : c * d = 0 := by
      unfold FP.Core.inUnits at hlo
      rcases Nat.mul_eq_zero.mp hlo with h | h
      · exact h
      · exact absurd h (Nat.ne_of_gt (Nat.two_pow_pos _))
    rw [hA0] at hv
    exact ⟨0, Fn_zero hv, Or.inl rfl, Nat.zero_le _⟩
  · obtain ⟨c2, q2, e1, e2, e3⟩ := rr (A := c * d) (e := q + r) (L := L) (k := k) (t := t) (by omega) hlo hL hhi hk ht
    exact ⟨_, ⟨c2, q2, hv.trans e1, rfl⟩, Or.inr e2, e3⟩
/-- a number that isn't negative: 0, or at least 2^L; at most k * 2^t -/
def Ok (L k t : Nat) (x : UInt64) : Prop := ∃ v, Fn x v ∧ (v = 0 ∨ 2 ^ L ≤ v) ∧ v ≤ k * 2 ^ t
theorem Ok.n64 {L k t : Nat} {x : UInt64} (h : Ok L k t x) : vf_n64 x := by
  obtain ⟨v, h, -⟩ := h
  exact h.n64
theorem Ok.weak {L k t L2 k2 t2 : Nat} {x : UInt64} (h : Ok L k t x) (hL : L2 ≤ L) (hk : k * 2 ^ t ≤ k2 * 2 ^ t2) : Ok L2 k2 t2 x := by
  obtain ⟨v, h1, h2, h3⟩ := h
  refine ⟨v, h1, ?_, Nat.le_trans h3 hk⟩
  rcases h2 with h2 | h2
  · exact Or.inl h2
  · exact Or.inr (Nat.le_trans (Nat.pow_le_pow_right (by decide) hL) h2)
theorem Ok.add {L k k2 t : Nat} {x y : UInt64} (hx : Ok L k t x) (hy : Ok L k2 t y) (hL : L ≤ 2045) (hk : k + k2 < 2 ^ 53) (ht : t ≤ 2045) : Ok L (k + k2) t (FP.dadd x y) := by
  obtain ⟨a, a1, a2, a3⟩ := hx
  obtain ⟨b, b1, b2, b3⟩ := hy
  have := Nat.two_pow_pos L
  exact Fn_add a1 b1 (by omega) hL (by rw [Nat.add_mul]; omega) hk ht
/-- a factor: 0, or from 2^-7 to 1 -/
def Fac (y : UInt64) : Prop := Ok 1067 1 1074 y
theorem Ok.mul {L k t : Nat} {x y : UInt64} (hx : Ok (L + 7) k t x) (hy : Fac y) (hL : L ≤ 2045) (hk : k < 2 ^ 53) (ht : t ≤ 2045) : Ok L k t (FP.dmul x y) := by
  obtain ⟨a, a1, a2, a3⟩ := hx
  obtain ⟨b, b1, b2, b3⟩ := hy
  rw [Nat.one_mul] at b3
  refine Fn_mul a1 b1 ?_ hL (Nat.mul_le_mul a3 b3) hk ht
  rcases a2 with rfl | a2
  · exact Or.inl (Nat.zero_mul _)
  · rcases b2 with rfl | b2
    · exact Or.inl (Nat.mul_zero _)
    · refine Or.inr (Nat.le_trans (Nat.le_of_eq ?_) (Nat.mul_le_mul a2 b2))
      rw [← Nat.pow_add, ← Nat.pow_add]
theorem ok_0 (L k t : Nat) : Ok L k t FP.dconst0 := ⟨0, Fn_zero (by decide +kernel), Or.inl rfl, Nat.zero_le _⟩
theorem ok_1 : Ok 1074 1 1074 FP.dconst1 := ⟨2 ^ 1074, ⟨2 ^ 52, -52, FP.Core.val64_dconst1, by rw [qm64]; decide +kernel⟩, Or.inr (Nat.le_refl _), by rw [Nat.one_mul]; exact Nat.le_refl _⟩
def pOf (j : Nat) : UInt64 := FP.ddiv (FP.i2d (nI j)) 4636737291354636288
def qOf (j : Nat) : UInt64 := FP.dsub FP.dconst1 (pOf j)
def facB (x : UInt64) : Bool := match FP.Core.val64 x with
  | .fin false c q => (decide (FP.Core.inUnits c q FP.Core.b64.qmin = 0) || decide (2 ^ 1067 ≤ FP.Core.inUnits c q FP.Core.b64.qmin)) && decide (FP.Core.inUnits c q FP.Core.b64.qmin ≤ 1 * 2 ^ 1074)
  | _ => false
theorem fac_of {x : UInt64} (h : facB x = true) : Fac x := by
  unfold facB at h
  split at h
  · rename_i c q hv
    simp only [Bool.and_eq_true, Bool.or_eq_true, decide_eq_true_eq] at h
    exact ⟨_, ⟨c, q, hv, rfl⟩, h.1, h.2⟩
  · cases h
set_option maxRecDepth 100000 in
theorem pq_all : ∀ j, j < 101 → facB (pOf j) = true ∧ facB (qOf j) = true := by decide +kernel
theorem pOf_ok {j : Nat} (h : j ≤ 100) : Fac (pOf j) := fac_of (pq_all j (by omega)).1
theorem qOf_ok {j : Nat} (h : j ≤ 100) : Fac (qOf j) := fac_of (pq_all j (by omega)).2
