/-! the analysis of a walk: rows by scores, for both sides. Index i stands for the score lower + 1 + i; w scores lie between the thresholds -/
theorem fb_bmod {z : Int} (h1 : -2147483648 ≤ z) (h2 : z < 2147483648) : z.bmod (2 ^ 32) = z := by
  rw [Int.bmod_eq_of_le (by omega) (by omega)]
theorem fb_addI {x y : Int32} (h1 : -2147483648 ≤ x.toInt + y.toInt) (h2 : x.toInt + y.toInt < 2147483648) : (x + y).toInt = x.toInt + y.toInt := by
  rw [Int32.toInt_add, fb_bmod h1 h2]
theorem fb_subI {x y : Int32} (h1 : -2147483648 ≤ x.toInt - y.toInt) (h2 : x.toInt - y.toInt < 2147483648) : (x - y).toInt = x.toInt - y.toInt := by
  rw [Int32.toInt_sub, fb_bmod h1 h2]
def Par (g : Sg) (u d U B : Nat) : Prop := gI g 0 = nI u ∧ gI g 1 = nI d ∧ gI g 2 = nI U ∧ gI g 3 = nI B - 60 ∧ (1 ≤ u ∧ u ≤ 9) ∧ (1 ≤ d ∧ d ≤ 9) ∧ (1 ≤ U ∧ U ≤ 60) ∧ B ≤ 59
theorem low_of {x : Int32} (h1 : (-60) ≤ x) (h2 : x ≤ (-1)) : ∃ B, B ≤ 59 ∧ x = nI B - 60 := by
  have a1 : (-60 : Int) ≤ x.toInt := Int32.le_iff_toInt_le.mp h1
  have a2 : x.toInt ≤ (-1 : Int) := Int32.le_iff_toInt_le.mp h2
  have e60 : (60 : Int32).toInt = 60 := rfl
  have e : (x + 60).toInt = x.toInt + 60 := by rw [fb_addI (by rw [e60]; omega) (by rw [e60]; omega), e60]
  obtain ⟨B, hB, h⟩ := nat_of (x := x + 60) (n := 59) (by decide) (Int32.le_iff_toInt_le.mpr (by rw [e]; show (0 : Int) ≤ _; omega)) (Int32.le_iff_toInt_le.mpr (by rw [e]; show _ ≤ (59 : Int); omega))
  exact ⟨B, hB, by rw [← h, Int32.add_sub_cancel]⟩
theorem pos_of {x : Int32} {n : Nat} (hn : n < 2 ^ 31) (h1 : 1 ≤ x) (h2 : x ≤ nI n) : ∃ k, (1 ≤ k ∧ k ≤ n) ∧ x = nI k := by
  obtain ⟨k, hk, rfl⟩ := nat_of hn (Int32.le_trans (by decide) h1) h2
  exact ⟨k, ⟨(nI_leI (by decide) (by omega)).mp h1, hk⟩, rfl⟩
theorem par_of {g : Sg} (h : Inv g) : ∃ u d U B, Par g u d U B := by
  obtain ⟨-, -, -, hu, hd, hU, hB, -, -⟩ := h
  obtain ⟨u, a1, a2⟩ := pos_of (n := 9) (by decide) hu.1 hu.2
  obtain ⟨d, b1, b2⟩ := pos_of (n := 9) (by decide) hd.1 hd.2
  obtain ⟨U, c1, c2⟩ := pos_of (n := 60) (by decide) hU.1 hU.2
  obtain ⟨B, d1, d2⟩ := low_of hB.1 hB.2
  exact ⟨u, d, U, B, a2, b2, c2, d2, a1, b1, c1, d1⟩
theorem e60 (x : Int32) : 60 + (x - 60) = x := by rw [Int32.add_comm, Int32.sub_add_cancel]
theorem s60 (m : Nat) : nI m - 60 + 1 = nI (m + 1) - 60 := by
  rw [← nI_1, Int32.sub_eq_add_neg, Int32.sub_eq_add_neg, Int32.add_assoc, Int32.add_assoc, Int32.add_comm (-60) 1]
theorem t60 {m : Nat} (h : m < 2 ^ 20) : (nI m - 60).toInt = (m : Int) - 60 := pk_sub_toInt (a := m) (b := 60) (by omega) (by decide)
theorem t60u {m u : Nat} (h : m < 2 ^ 20) (hu : u < 2 ^ 20) : (nI m - 60 + nI u).toInt = (m : Int) - 60 + u := by
  have a := t60 h
  have b : (nI u).toInt = (u : Int) := nI_toInt (by omega)
  rw [fb_addI (by rw [a, b]; omega) (by rw [a, b]; omega), a, b]
theorem t60d {m d : Nat} (h : m < 2 ^ 20) (hd : d < 2 ^ 20) : (nI m - 60 - nI d).toInt = (m : Int) - 60 - d := by
  have a := t60 h
  have b : (nI d).toInt = (d : Int) := nI_toInt (by omega)
  rw [fb_subI (by rw [a, b]; omega) (by rw [a, b]; omega), a, b]
theorem qA {m U : Nat} (h : m < 2 ^ 20) (hU : U < 2 ^ 20) : nI U ≤ nI m - 60 ↔ 60 + U ≤ m := by
  rw [Int32.le_iff_toInt_le, t60 h, nI_toInt (by omega)]; omega
theorem qB {m U u : Nat} (h : m < 2 ^ 20) (hU : U < 2 ^ 20) (hu : u < 2 ^ 20) : nI m - 60 + nI u < nI U ↔ m + u < 60 + U := by
  rw [Int32.lt_iff_toInt_lt, t60u h hu, nI_toInt (by omega)]; omega
theorem qC {m B d : Nat} (h : m < 2 ^ 20) (hB : B < 2 ^ 20) (hd : d < 2 ^ 20) : nI B - 60 < nI m - 60 - nI d ↔ B + d < m := by
  rw [Int32.lt_iff_toInt_lt, t60d h hd, t60 hB]; omega
theorem qD {m B d : Nat} (h : m < 2 ^ 20) (hB : B < 2 ^ 20) (hd : d < 2 ^ 20) : nI m - 60 - nI d ≤ nI B - 60 ↔ m ≤ B + d := by
  rw [Int32.le_iff_toInt_le, t60d h hd, t60 hB]; omega
section SC
variable {α : Type}
def sUp (add : α → α → α) (pu : Nat → α) (u w i : Nat) (t : Nat → α) : Nat → α := if i + u < w then vf_upd t (i + u) (add (t (i + u)) (pu i)) else t
def sDn (add : α → α → α) (pd : Nat → α) (d i : Nat) (t : Nat → α) : Nat → α := if d ≤ i then vf_upd t (i - d) (add (t (i - d)) (pd i)) else t
def scat (add : α → α → α) (z0 : α) (pu pd : Nat → α) (u d w : Nat) : Nat → (Nat → α)
  | 0 => fun _ => z0
  | i + 1 => sDn add pd d i (sUp add pu u w i (scat add z0 pu pd u d w i))
def acc (add : α → α → α) (c : Nat → Bool) (v : Nat → α) (x0 : α) : Nat → α
  | 0 => x0
  | i + 1 => if c i = true then add (acc add c v x0 i) (v i) else acc add c v x0 i
/-- a row of the reference holds a, from the place B + 1 on -/
def MR (B w : Nat) (f a : Nat → α) : Prop := ∀ i, i < w → f (B + 1 + i) = a i
theorem MR_up {B w i u : Nat} {add : α → α → α} {pu t f : Nat → α} (h : MR B w f t) (hi : i + u < w) : MR B w (vf_upd f (B + 1 + i + u) (add (f (B + 1 + i + u)) (pu i))) (sUp add pu u w i t) := by
  intro j hj
  have e := h (i + u) hi
  rw [show B + 1 + (i + u) = B + 1 + i + u by omega] at e
  unfold sUp
  rw [if_pos hi, e]
  by_cases hq : j = i + u
  · subst hq
    rw [show B + 1 + (i + u) = B + 1 + i + u by omega, up_s, up_s]
  · rw [up_n _ _ (by omega), up_n _ _ hq]
    exact h j hj
theorem MR_up0 {B w i u : Nat} {add : α → α → α} {pu t f : Nat → α} (h : MR B w f t) (hi : ¬ i + u < w) : MR B w f (sUp add pu u w i t) := by
  unfold sUp; rw [if_neg hi]; exact h
theorem MR_dn {B w i d : Nat} {add : α → α → α} {pd t f : Nat → α} (h : MR B w f t) (hd : d ≤ i) (hi : i < w) : MR B w (vf_upd f (B + 1 + i - d) (add (f (B + 1 + i - d)) (pd i))) (sDn add pd d i t) := by
  intro j hj
  have e := h (i - d) (by omega)
  rw [show B + 1 + (i - d) = B + 1 + i - d by omega] at e
  unfold sDn
  rw [if_pos hd, e]
  by_cases hq : j = i - d
  · subst hq
    rw [show B + 1 + (i - d) = B + 1 + i - d by omega, up_s, up_s]
  · rw [up_n _ _ (by omega), up_n _ _ hq]
    exact h j hj
theorem MR_dn0 {B w i d : Nat} {add : α → α → α} {pd t f : Nat → α} (h : MR B w f t) (hd : ¬ d ≤ i) : MR B w f (sDn add pd d i t) := by
  unfold sDn; rw [if_neg hd]; exact h
theorem up_lt {f h : Nat → α} {k : Nat} {x : α} (hf : ∀ j, j < k → f j = h j) (hx : x = h k) : ∀ j, j < k + 1 → vf_upd f k x j = h j := by
  intro j hj
  by_cases hq : j = k
  · subst hq; rw [up_s]; exact hx
  · rw [up_n _ _ hq]; exact hf j (by omega)
end SC
theorem upd_vf (f : Nat → Int32) (k : Nat) (x : Int32) : upd f k x = vf_upd f k x := rfl
def tWa (z : Zm) (W : Nat → Nat → Int32) : Zm := (z.1, W, z.2.2)
/-- the walks after n contacts, and how many sequences are decided -/
def csN (u d w z : Nat) : Nat → (Nat → Int32) × Int32 × Int32
  | 0 => ((fun i => if i = z then 1 else 0), 0, 0)
  | n + 1 => (scat (· + ·) 0 (csN u d w z n).1 (csN u d w z n).1 u d w w, acc (· + ·) (fun i => decide (w ≤ i + u)) (csN u d w z n).1 ((csN u d w z n).2.1 * 2) w, acc (· + ·) (fun i => decide (i < d)) (csN u d w z n).1 ((csN u d w z n).2.2 * 2) w)
def seqR (u d U B n : Nat) (v : Int32) : Int32 := if v = 1 then (csN u d (59 + U - B) (59 - B) n).2.1 else if v = 2 then (csN u d (59 + U - B) (59 - B) n).2.2 else 1 <<< (nI n &&& 31) - (csN u d (59 + U - B) (59 - B) n).2.1 - (csN u d (59 + U - B) (59 - B) n).2.2
theorem acc_t {α : Type} {add : α → α → α} {c : Nat → Bool} {v : Nat → α} {x0 : α} {i : Nat} (h : c i = true) : acc add c v x0 (i + 1) = add (acc add c v x0 i) (v i) := if_pos h
theorem acc_f {α : Type} {add : α → α → α} {c : Nat → Bool} {v : Nat → α} {x0 : α} {i : Nat} (h : c i = false) : acc add c v x0 (i + 1) = acc add c v x0 i := if_neg (by rw [h]; decide)
