/-! a double's bits by its exponent and its fraction -/
def nb (E m : Nat) : UInt64 := UInt64.ofNat (E * 2 ^ 52 + m)
def NbOk (E m : Nat) : Prop := 1 ≤ E ∧ E ≤ 2046 ∧ m < 2 ^ 52
theorem nb_nat {E m : Nat} (h : NbOk E m) : (nb E m).toNat = E * 2 ^ 52 + m := by
  obtain ⟨h1, h2, h3⟩ := h
  unfold nb
  rw [UInt64.toNat_ofNat_of_lt']
  show E * 2 ^ 52 + m < 2 ^ 64
  omega
theorem tl64 : FP.Core.b64.tails = 4503599627370496 := by decide +kernel
theorem ex64 : FP.Core.b64.exps = 2048 := by decide +kernel
theorem dec64 (n : Nat) : FP.Core.decode FP.Core.b64 n = if n / 4503599627370496 % 2048 = 2047 then (if n % 4503599627370496 = 0 then .inf (n / 4503599627370496 / 2048 % 2 == 1) else .nan) else if n / 4503599627370496 % 2048 = 0 then .fin (n / 4503599627370496 / 2048 % 2 == 1) (n % 4503599627370496) (-1074) else .fin (n / 4503599627370496 / 2048 % 2 == 1) (4503599627370496 + n % 4503599627370496) (-1074 + (((n / 4503599627370496 % 2048 : Nat) : Int) - 1)) := by
  unfold FP.Core.decode FP.Core.fieldE FP.Core.fieldT FP.Core.fieldS
  rw [tl64, ex64, qm64]
theorem nb_val {E m : Nat} (h : NbOk E m) : FP.Core.val64 (nb E m) = .fin false (2 ^ 52 + m) ((E : Int) - 1075) := by
  unfold FP.Core.val64
  rw [nb_nat h, dec64]
  obtain ⟨h1, h2, h3⟩ := h
  have e1 : (E * 2 ^ 52 + m) / 4503599627370496 = E := by omega
  have e2 : (E * 2 ^ 52 + m) % 4503599627370496 = m := by omega
  rw [e1, e2, if_neg (by omega), if_neg (by omega), show E / 2048 = 0 by omega, show E % 2048 = E by omega, show (-1074 + ((E : Int) - 1)) = (E : Int) - 1075 by omega]
  rfl
theorem nb_nn {E m : Nat} (h : NbOk E m) : FP.Core.val64 (nb E m) ≠ .nan := by rw [nb_val h]; exact FP.Core.Datum.noConfusion
theorem nb_n64 {E m : Nat} (h : NbOk E m) : vf_n64 (nb E m) := (show Fn (nb E m) _ from ⟨_, _, nb_val h, rfl⟩).n64
theorem of_ok {L k t : Nat} {x : UInt64} (hL : 52 ≤ L) (h : Ok L k t x) : x = FP.dconst0 ∨ ∃ E m, NbOk E m ∧ x = nb E m := by
  obtain ⟨v, ⟨c, q, hc, hv⟩, h2, -⟩ := h
  have hf := FP.Core.val64_fits x
  rw [hc] at hf
  obtain ⟨f1, f2, f3, f4⟩ := hf
  by_cases hv0 : v = 0
  · left
    have hc0 : c = 0 := by
      rw [hv0] at hv
      unfold FP.Core.inUnits at hv
      rcases Nat.mul_eq_zero.mp hv.symm with h | h
      · exact h
      · exact absurd h (Nat.ne_of_gt (Nat.two_pow_pos _))
    have hq : q = FP.Core.b64.qmin := by
      rcases f4 with h | h
      · exact h
      · rw [tl64, hc0] at h; omega
    refine FP.Core.val64_inj (by rw [hc]; exact FP.Core.Datum.noConfusion) ?_
    rw [hc, hc0, hq]
    exact FP.Core.val64_dconst0.symm
  · right
    have hb := (FP.Core.fin_bits x).mp ⟨false, c, q, hc⟩
    have hlt := x.toNat_lt
    have hd : FP.Core.decode FP.Core.b64 x.toNat = .fin false c q := hc
    rw [dec64] at hd
    have hs : (x.toNat / 4503599627370496 / 2048 % 2 == 1) = false := by
      split at hd
      · split at hd <;> cases hd
      · split at hd
        · injection hd
        · injection hd
    have hs2 : x.toNat / 4503599627370496 / 2048 % 2 ≠ 1 := by simpa using hs
    have hE : x.toNat / 4503599627370496 % 2048 ≠ 0 := by
      intro h0
      rw [if_neg (by omega), if_pos h0] at hd
      injection hd with a1 a2 a3
      rcases h2 with h | h
      · exact hv0 h
      · have : v = c := by
          rw [hv, ← a3]
          unfold FP.Core.inUnits
          rw [qm64]
          show c * 1 = c
          exact Nat.mul_one _
        have h3 : 2 ^ 52 ≤ 2 ^ L := Nat.pow_le_pow_right (by decide) hL
        have h4 : c < 4503599627370496 := by rw [← a2]; exact Nat.mod_lt _ (by decide)
        omega
    have ok : NbOk (x.toNat / 4503599627370496) (x.toNat % 4503599627370496) := ⟨by omega, by omega, Nat.mod_lt _ (by decide)⟩
    refine ⟨_, _, ok, ?_⟩
    apply UInt64.toNat_inj.mp
    rw [nb_nat ok]
    omega
theorem nb_mul {E K m : Nat} (h : NbOk E m) (hK : 1 ≤ K ∧ K ≤ 2046) {F : Nat} (hF : F + 1023 = E + K) (h2 : NbOk F m) : FP.dmul (nb E m) (nb K 0) = nb F m := by
  have hk : NbOk K 0 := ⟨hK.1, hK.2, by decide⟩
  have hv := FP.Core.val64_dmul (nb E m) (nb K 0)
  rw [nb_val h, nb_val hk] at hv
  have h3 : FP.Core.roundRatio FP.Core.b64 false ((2 ^ 52 + m) * (2 ^ 52 + 0)) 1 ((E : Int) - 1075 + ((K : Int) - 1075)) = .fin false (2 ^ 52 + m) ((F : Int) - 1075) := by
    refine FP.Core.roundRatio_exact FP.Core.good_b64 (by decide) ?_ ?_
    · have := FP.Core.val64_fits (nb F m)
      rw [nb_val h2] at this
      exact this
    · rw [show ((E : Int) - 1075 + ((K : Int) - 1075) - ((F : Int) - 1075)).toNat = 0 by omega, show ((F : Int) - 1075 - ((E : Int) - 1075 + ((K : Int) - 1075))).toNat = 52 by omega, Nat.add_zero, Nat.pow_zero, Nat.mul_one, Nat.mul_one]
  have h4 : FP.Core.val64 (FP.dmul (nb E m) (nb K 0)) = FP.Core.val64 (nb F m) := by rw [nb_val h2]; exact hv.trans h3
  exact (FP.Core.val64_inj (nb_nn h2) h4.symm).symm
theorem nb_half {E m : Nat} (h : NbOk E m) (h2 : 2 ≤ E) : FP.dmul (nb E m) 4602678819172646912 = nb (E - 1) m := by
  obtain ⟨a, b, c⟩ := h
  exact nb_mul (K := 1022) ⟨a, b, c⟩ (by decide) (by omega) ⟨by omega, by omega, c⟩
theorem nb_dbl {E m : Nat} (h : NbOk E m) (h2 : E ≤ 2045) : FP.dmul (nb E m) 4611686018427387904 = nb (E + 1) m := by
  obtain ⟨a, b, c⟩ := h
  exact nb_mul (K := 1024) ⟨a, b, c⟩ (by decide) (by omega) ⟨by omega, by omega, c⟩
theorem nb_key {E m : Nat} (h : NbOk E m) : FP.Core.dkey (nb E m) = ((E * 2 ^ 52 + m : Nat) : Int) := by
  unfold FP.Core.dkey
  rw [nb_nat h]
  obtain ⟨a, b, c⟩ := h
  rw [if_neg (by omega)]
theorem cmp_sm {o : Ordering} {k : CmpOp} : Op.cmpValue (some o) k < 0 ↔ o = .lt := by cases o <;> cases k <;> decide
theorem cmp_ge {o : Ordering} {k : CmpOp} : 0 ≤ Op.cmpValue (some o) k ↔ o ≠ .lt := by cases o <;> cases k <;> decide
theorem nb_lt {E m K : Nat} (h : NbOk E m) (hK : 1 ≤ K ∧ K ≤ 2046) : FP.dcmp (nb E m) (nb K 0) = some (compare ((E * 2 ^ 52 + m : Nat) : Int) ((K * 2 ^ 52 + 0 : Nat) : Int)) := by
  have hk : NbOk K 0 := ⟨hK.1, hK.2, by decide⟩
  rw [← nb_key h, ← nb_key hk]
  exact FP.Core.dcmp_key (nb_nn h) (nb_nn hk)
theorem nb_lt2 {E m : Nat} (h : NbOk E m) : Op.cmpValue (FP.dcmp (nb E m) 4611686018427387904) CmpOp.l < 0 ↔ E < 1024 := by
  rw [show (4611686018427387904 : UInt64) = nb 1024 0 from rfl, nb_lt h (by decide), cmp_sm, FP.Core.compare_lt_iff]
  obtain ⟨a, b, c⟩ := h
  omega
theorem nb_ge1 {E m : Nat} (h : NbOk E m) : 0 ≤ Op.cmpValue (FP.dcmp (nb E m) FP.dconst1) CmpOp.g ↔ 1023 ≤ E := by
  rw [show FP.dconst1 = nb 1023 0 from rfl, nb_lt h (by decide), cmp_ge, Ne, FP.Core.compare_lt_iff]
  obtain ⟨a, b, c⟩ := h
  omega
theorem nb_gt0 {E m : Nat} (h : NbOk E m) : Op.cmpValue (FP.dcmp (nb E m) FP.dconst0) CmpOp.l = 1 := by
  have h1 : FP.dcmp (nb E m) FP.dconst0 = some .gt := by
    refine (FP.Core.dcmp_gt_key (nb_nn h) (by decide +kernel)).mpr ?_
    rw [nb_key h, show FP.Core.dkey FP.dconst0 = 0 by decide +kernel]
    obtain ⟨a, b, c⟩ := h
    omega
  rw [h1]; rfl
def fr1 (m : Nat) : UInt64 := FP.dsub (nb 1023 m) FP.dconst1
theorem fr1_val {m : Nat} (hm : m < 2 ^ 52) : ∃ c q, FP.Core.val64 (fr1 m) = .fin false c q ∧ FP.Core.inUnits c q (-1074) = m * 2 ^ 1022 := by
  have h : NbOk 1023 m := ⟨by decide, by decide, hm⟩
  have hv := FP.Core.val64_dsub (nb 1023 m) FP.dconst1
  rw [nb_val h, show FP.Core.val64 FP.dconst1 = .fin false (2 ^ 52) (-52) from FP.Core.val64_dconst1] at hv
  have hE : FP.Core.exactSum (.fin false (2 ^ 52 + m) (((1023 : Nat) : Int) - 1075)) (FP.Core.negate (.fin false (2 ^ 52) (-52))) = .fin false m (-52) := by
    show FP.Core.Datum.fin (FP.Core.sumSign false true (FP.Core.sumUnits false (2 ^ 52 + m) (-52) true (2 ^ 52) (-52) (-52))) (FP.Core.sumUnits false (2 ^ 52 + m) (-52) true (2 ^ 52) (-52) (-52)).natAbs (-52) = _
    have hS : FP.Core.sumUnits false (2 ^ 52 + m) (-52) true (2 ^ 52) (-52) (-52) = (m : Int) := by
      show (((2 ^ 52 + m) * 1 : Nat) : Int) + -(((2 ^ 52) * 1 : Nat) : Int) = m
      omega
    rw [hS, Int.natAbs_natCast]
    have h0 : FP.Core.sumSign false true (m : Int) = false := by
      unfold FP.Core.sumSign
      split
      · rfl
      · exact decide_eq_false (by omega)
    rw [h0]
  rw [hE] at hv
  obtain ⟨c, q, h1, h2⟩ := FP.Core.round_exact FP.Core.good_b64 false (c := m) (q := -52) (Nat.lt_trans hm (by decide +kernel)) (by rw [qm64]; decide) (by rw [qx64]; decide)
  refine ⟨c, q, hv.trans h1, ?_⟩
  rw [qm64] at h2
  exact h2
theorem fr1_int {m : Nat} (hm : m < 2 ^ 52) : vf_n64 (fr1 m) ∧ vf_n64 (FP.dmul (fr1 m) 4841369599423283200) ∧ FP.d2l (FP.dmul (fr1 m) 4841369599423283200) = Int64.ofNat m := by
  obtain ⟨c, q, h1, h2⟩ := fr1_val hm
  have hq := FP.Core.val64_fits (fr1 m)
  rw [h1] at hq
  have hq1 : -1074 ≤ q := by have := hq.2.1; rw [qm64] at this; exact this
  have hi : (Int64.ofNat m).toInt = (m : Int) := Int64.toInt_ofNat_of_lt (by omega)
  have hv := FP.Core.val64_dmul (fr1 m) (nb 1075 0)
  rw [h1, nb_val ⟨by decide, by decide, by decide⟩] at hv
  have hl := FP.Core.val64_l2d (Int64.ofNat m)
  rw [hi] at hl
  have e : FP.Core.val64 (FP.dmul (fr1 m) (nb 1075 0)) = FP.Core.val64 (FP.l2d (Int64.ofNat m)) := by
    rw [show FP.dmul = FP.Core.dmul from rfl, show FP.l2d = FP.Core.l2d from rfl, hv, hl]
    show FP.Core.roundRatio FP.Core.b64 false (c * (2 ^ 52 + 0)) 1 (q + (((1075 : Nat) : Int) - 1075)) = FP.Core.roundRatio FP.Core.b64 (decide ((m : Int) < 0)) (m : Int).natAbs 1 0
    rw [decide_eq_false (show ¬ (m : Int) < 0 by omega), Int.natAbs_natCast]
    refine FP.Core.roundRatio_congr (by decide) (by decide) ?_
    rw [Nat.mul_one, Nat.mul_one, Nat.add_zero, show q + (((1075 : Nat) : Int) - 1075) - 0 = q by omega, show 0 - (q + (((1075 : Nat) : Int) - 1075)) = -q by omega]
    unfold FP.Core.inUnits at h2
    rcases Int.le_total q 0 with hs | hs
    · rw [show q.toNat = 0 by omega, Nat.pow_zero, Nat.mul_one]
      refine Nat.eq_of_mul_eq_mul_right (Nat.two_pow_pos (q - -1074).toNat) ?_
      rw [Nat.mul_assoc m, ← Nat.pow_add, show (-q).toNat + (q - -1074).toNat = 1022 + 52 by omega, Nat.pow_add, ← Nat.mul_assoc m, ← h2]
      ac_rfl
    · rw [show (-q).toNat = 0 by omega, Nat.pow_zero, Nat.mul_one]
      refine Nat.eq_of_mul_eq_mul_right (Nat.two_pow_pos 1022) ?_
      rw [← h2, Nat.mul_assoc c, ← Nat.pow_add, Nat.mul_assoc c, ← Nat.pow_add]
      congr 2
      omega
  have hd : FP.Core.DInt (m : Int) (FP.l2d (Int64.ofNat m)) := by
    have := FP.Core.l2d_int (a := Int64.ofNat m) (by rw [hi]; omega)
    rw [hi] at this
    exact this
  have hd2 : FP.Core.DInt (Int64.ofNat m).toInt (FP.dmul (fr1 m) 4841369599423283200) := by
    rw [hi]
    show FP.Core.Whole _ (FP.Core.val64 (FP.dmul (fr1 m) (nb 1075 0)))
    rw [e]
    exact hd
  refine ⟨(show Fn (fr1 m) _ from ⟨_, _, h1, rfl⟩).n64, ?_, FP.Core.d2l_int hd2⟩
  have h5 : ∃ s c q, FP.Core.val64 (FP.dmul (fr1 m) 4841369599423283200) = .fin s c q := by
    have : FP.Core.Whole (Int64.ofNat m).toInt (FP.Core.val64 (FP.dmul (fr1 m) 4841369599423283200)) := hd2
    cases hx : FP.Core.val64 (FP.dmul (fr1 m) 4841369599423283200) with
    | nan => rw [hx] at this; exact this.elim
    | inf s => rw [hx] at this; exact this.elim
    | fin s c q => exact ⟨s, c, q, rfl⟩
  have h6 := (FP.Core.fin_bits _).mp h5
  show FP.dmul (fr1 m) 4841369599423283200 &&& 0x7fffffffffffffff ≤ 0x7ff0000000000000
  rw [UInt64.le_iff_toNat_le, FP.Core.mask_toNat]
  exact Nat.le_of_lt h6
set_option maxRecDepth 100000 in
theorem sh52 : ∀ E, E < 2047 → Int64.ofNat E <<< ((52 : Int32).toInt64 &&& 63) = Int64.ofNat (E * 2 ^ 52) := by decide +kernel
theorem nb_end {E m : Nat} (h : NbOk E m) : Int64.ofNat E <<< ((52 : Int32).toInt64 &&& 63) + Int64.ofNat m = (nb E m).toInt64 := by
  obtain ⟨a, b, c⟩ := h
  rw [sh52 E (by omega), ← Int64.ofNat_add]
  rfl
theorem i64_s {n : Nat} : Int64.ofNat n + 1 = Int64.ofNat (n + 1) := (Int64.ofNat_add n 1).symm
theorem i64_p {n : Nat} : Int64.ofNat (n + 1) - 1 = Int64.ofNat n := by rw [← i64_s, Int64.add_sub_cancel]
