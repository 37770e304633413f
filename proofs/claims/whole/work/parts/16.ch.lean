/-- the chances after n contacts, the chance of the verdict SCANNER, the contacts awaited -/
def chN (p q : UInt64) (u d w z : Nat) : Nat → (Nat → UInt64) × UInt64 × UInt64
  | 0 => ((fun i => if i = z then FP.dconst1 else FP.dconst0), FP.dconst0, FP.dconst0)
  | n + 1 => (scat FP.dadd FP.dconst0 (fun i => FP.dmul ((chN p q u d w z n).1 i) q) (fun i => FP.dmul ((chN p q u d w z n).1 i) p) u d w w, acc FP.dadd (fun i => decide (w ≤ i + u)) (fun i => FP.dmul ((chN p q u d w z n).1 i) q) (chN p q u d w z n).2.1 w, FP.dadd (chN p q u d w z n).2.2 (acc FP.dadd (fun _ => true) (chN p q u d w z n).1 FP.dconst0 w))
theorem ok_scat {L t : Nat} {pu pd : Nat → UInt64} {u d w : Nat} (hL : L ≤ 2045) (ht : t ≤ 2045) (hu : ∀ i, Ok L 1 t (pu i)) (hd : ∀ i, Ok L 1 t (pd i)) : ∀ i, i ≤ 200 → ∀ j, Ok L (2 * i) t (scat FP.dadd FP.dconst0 pu pd u d w i j)
  | 0, _, j => ok_0 _ _ _
  | i + 1, hi, j => by
    have ih := ok_scat (u := u) (d := d) (w := w) hL ht hu hd i (by omega)
    have h1 : ∀ j, Ok L (2 * i + 1) t (sUp FP.dadd pu u w i (scat FP.dadd FP.dconst0 pu pd u d w i) j) := by
      intro j
      unfold sUp
      split
      · by_cases hj : j = i + u
        · subst hj
          rw [up_s]
          exact (ih _).add (hu i) hL (by omega) ht
        · rw [up_n _ _ hj]
          exact (ih j).weak (Nat.le_refl _) (Nat.mul_le_mul_right _ (by omega))
      · exact (ih j).weak (Nat.le_refl _) (Nat.mul_le_mul_right _ (by omega))
    show Ok L (2 * (i + 1)) t (sDn FP.dadd pd d i (sUp FP.dadd pu u w i (scat FP.dadd FP.dconst0 pu pd u d w i)) j)
    unfold sDn
    split
    · by_cases hj : j = i - d
      · subst hj
        rw [up_s]
        exact ((h1 _).add (hd i) hL (by omega) ht).weak (Nat.le_refl _) (Nat.mul_le_mul_right _ (by omega))
      · rw [up_n _ _ hj]
        exact (h1 j).weak (Nat.le_refl _) (Nat.mul_le_mul_right _ (by omega))
    · exact (h1 j).weak (Nat.le_refl _) (Nat.mul_le_mul_right _ (by omega))
theorem ok_acc {L t k : Nat} {c : Nat → Bool} {v : Nat → UInt64} {x0 : UInt64} (hL : L ≤ 2045) (ht : t ≤ 2045) (hk : k ≤ 2 ^ 40) (h0 : Ok L k t x0) (hv : ∀ i, Ok L 1 t (v i)) : ∀ i, i ≤ 200 → Ok L (k + i) t (acc FP.dadd c v x0 i)
  | 0, _ => h0
  | i + 1, hi => by
    have ih := ok_acc (c := c) hL ht hk h0 hv i (by omega)
    unfold acc
    split
    · exact ih.add (hv i) hL (by omega) ht
    · exact ih.weak (Nat.le_refl _) (Nat.mul_le_mul_right _ (by omega))
theorem up_pow {k t t2 : Nat} (h : t ≤ t2) : k * 2 ^ t ≤ k * 2 ^ t2 := Nat.mul_le_mul_left _ (Nat.pow_le_pow_right (by decide) h)
theorem ok_chN {p q : UInt64} {u d w z : Nat} (hp : Fac p) (hq : Fac q) (hw : w ≤ 119) : ∀ n, n ≤ 60 → (∀ i, Ok (654 + 7 * (60 - n)) 1 (1074 + 8 * n) ((chN p q u d w z n).1 i)) ∧ Ok 654 (119 * n) 1554 (chN p q u d w z n).2.1 ∧ Ok 654 (119 * n) 1554 (chN p q u d w z n).2.2
  | 0, _ => by
    refine ⟨fun i => ?_, ok_0 _ _ _, ok_0 _ _ _⟩
    show Ok _ _ _ (if i = z then FP.dconst1 else FP.dconst0)
    split
    · exact ok_1
    · exact ok_0 _ _ _
  | n + 1, hn => by
    obtain ⟨h1, h2, h3⟩ := ok_chN (u := u) (d := d) (w := w) (z := z) hp hq hw n (by omega)
    have e : 654 + 7 * (60 - n) = 654 + 7 * (60 - (n + 1)) + 7 := by omega
    rw [e] at h1
    have mq : ∀ i, Ok (654 + 7 * (60 - (n + 1))) 1 (1074 + 8 * n) (FP.dmul ((chN p q u d w z n).1 i) q) := fun i => (h1 i).mul hq (by omega) (by decide) (by omega)
    have mp : ∀ i, Ok (654 + 7 * (60 - (n + 1))) 1 (1074 + 8 * n) (FP.dmul ((chN p q u d w z n).1 i) p) := fun i => (h1 i).mul hp (by omega) (by decide) (by omega)
    have mq2 : ∀ i, Ok 654 1 1554 (FP.dmul ((chN p q u d w z n).1 i) q) := fun i => (mq i).weak (by omega) (up_pow (by omega))
    have a2 : ∀ i, Ok 654 1 1554 ((chN p q u d w z n).1 i) := fun i => (h1 i).weak (by omega) (up_pow (by omega))
    refine ⟨fun i => ?_, ?_, ?_⟩
    · have h4 := ok_scat (u := u) (d := d) (w := w) (by omega) (by omega) mq mp w (by omega) i
      refine h4.weak (Nat.le_refl _) ?_
      rw [Nat.one_mul, show 1074 + 8 * (n + 1) = 8 + (1074 + 8 * n) by omega, Nat.pow_add 2 8 (1074 + 8 * n)]
      generalize 2 ^ (1074 + 8 * n) = T
      exact Nat.mul_le_mul_right T (show 2 * w ≤ 2 ^ 8 by omega)
    · exact (ok_acc (by decide) (by decide) (by omega) h2 mq2 w (by omega)).weak (Nat.le_refl _) (Nat.mul_le_mul_right _ (by omega))
    · have h5 := ok_acc (c := fun _ => true) (k := 0) (by decide) (by decide) (by decide) (ok_0 654 0 1554) a2 w (by omega)
      rw [Nat.zero_add] at h5
      exact (h3.add h5 (by decide) (by omega) (by decide)).weak (Nat.le_refl _) (Nat.mul_le_mul_right _ (by omega))
/-- what holds of every number that a contact meets, in one place -/
theorem ok_step {p q : UInt64} {u d w z n : Nat} (hp : Fac p) (hq : Fac q) (hw : w ≤ 119) (hn : n < 60) :
    (∀ i, Ok 654 1 1554 ((chN p q u d w z n).1 i)) ∧ (∀ i, Ok 654 1 1554 (FP.dmul ((chN p q u d w z n).1 i) q)) ∧ (∀ i, Ok 654 1 1554 (FP.dmul ((chN p q u d w z n).1 i) p)) ∧
    (∀ i, i ≤ 200 → ∀ j, Ok 654 (2 * i) 1554 (scat FP.dadd FP.dconst0 (fun i => FP.dmul ((chN p q u d w z n).1 i) q) (fun i => FP.dmul ((chN p q u d w z n).1 i) p) u d w i j)) ∧
    (∀ i, i ≤ 200 → Ok 654 (119 * n + i) 1554 (acc FP.dadd (fun i => decide (w ≤ i + u)) (fun i => FP.dmul ((chN p q u d w z n).1 i) q) (chN p q u d w z n).2.1 i)) ∧
    (∀ i, i ≤ 200 → Ok 654 i 1554 (acc FP.dadd (fun _ => true) (chN p q u d w z n).1 FP.dconst0 i)) ∧ Ok 654 (119 * n) 1554 (chN p q u d w z n).2.1 ∧ Ok 654 (119 * n) 1554 (chN p q u d w z n).2.2 := by
  obtain ⟨h1, h2, h3⟩ := ok_chN (u := u) (d := d) (w := w) (z := z) hp hq hw n (by omega)
  have e : 654 + 7 * (60 - n) = 654 + 7 * (60 - (n + 1)) + 7 := by omega
  have a2 : ∀ i, Ok 654 1 1554 ((chN p q u d w z n).1 i) := fun i => (h1 i).weak (by omega) (up_pow (by omega))
  rw [e] at h1
  have mq2 : ∀ i, Ok 654 1 1554 (FP.dmul ((chN p q u d w z n).1 i) q) := fun i => ((h1 i).mul hq (by omega) (by decide) (by omega)).weak (by omega) (up_pow (by omega))
  have mp2 : ∀ i, Ok 654 1 1554 (FP.dmul ((chN p q u d w z n).1 i) p) := fun i => ((h1 i).mul hp (by omega) (by decide) (by omega)).weak (by omega) (up_pow (by omega))
  refine ⟨a2, mq2, mp2, fun i hi j => ok_scat (by decide) (by decide) mq2 mp2 i hi j, fun i hi => ok_acc (by decide) (by decide) (by omega) h2 mq2 i hi, fun i hi => ?_, h2, h3⟩
  have h5 := ok_acc (c := fun _ => true) (k := 0) (by decide) (by decide) (by decide) (ok_0 654 0 1554) a2 i hi
  rw [Nat.zero_add] at h5
  exact h5
theorem ok_up {L k t : Nat} {pu T : Nat → UInt64} {u w i : Nat} (hL : L ≤ 2045) (ht : t ≤ 2045) (hk : k < 2 ^ 40) (hT : ∀ j, Ok L k t (T j)) (hu : Ok L 1 t (pu i)) : ∀ j, Ok L (k + 1) t (sUp FP.dadd pu u w i T j) := by
  intro j
  unfold sUp
  split
  · by_cases hj : j = i + u
    · subst hj
      rw [up_s]
      exact (hT _).add hu hL (by omega) ht
    · rw [up_n _ _ hj]
      exact (hT j).weak (Nat.le_refl _) (Nat.mul_le_mul_right _ (by omega))
  · exact (hT j).weak (Nat.le_refl _) (Nat.mul_le_mul_right _ (by omega))
/-- the scratch of doubles of the reference set -/
def tCF (z : Zm) (C : Nat → Nat → UInt64) (F : Nat → UInt64) : Zm := (z.1, z.2.1, C, F, z.2.2.2.2)
theorem MR_upx {α : Type} {B w i u : Nat} {add : α → α → α} {pu t f : Nat → α} {x : α} (h : MR B w f t) (hi : i + u < w) (hx : x = add (t (i + u)) (pu i)) : MR B w (vf_upd f (B + 1 + i + u) x) (sUp add pu u w i t) := by
  have e := h (i + u) hi
  rw [show B + 1 + (i + u) = B + 1 + i + u by omega] at e
  rw [hx, ← e]
  exact MR_up h hi
theorem MR_dnx {α : Type} {B w i d : Nat} {add : α → α → α} {pd t f : Nat → α} {x : α} (h : MR B w f t) (hd : d ≤ i) (hi : i < w) (hx : x = add (t (i - d)) (pd i)) : MR B w (vf_upd f (B + 1 + i - d) x) (sDn add pd d i t) := by
  have e := h (i - d) (by omega)
  rw [show B + 1 + (i - d) = B + 1 + i - d by omega] at e
  rw [hx, ← e]
  exact MR_dn h hd hi
theorem self_eq {x : UInt64} {L k t : Nat} (h : Ok L k t x) : FP.dcmp x x = some .eq := by
  obtain ⟨v, ⟨c, q, hc, -⟩, -⟩ := h
  exact FP.Core.dcmp_self (by rw [hc]; exact FP.Core.Datum.noConfusion)
/-- no NaN comes up in a contact; r0: what has been reached before it -/
theorem nan_step {p q r0 : UInt64} {u d w z n K : Nat} (hp : Fac p) (hq : Fac q) (hw : w ≤ 119) (hn : n < 60) (hr : Ok 654 K 1554 r0) (hK : K ≤ 2 ^ 40) :
    (∀ i, i ≤ 119 → vf_n64 (FP.dadd (acc FP.dadd (fun _ => true) (chN p q u d w z n).1 FP.dconst0 i) ((chN p q u d w z n).1 i))) ∧ (∀ i, vf_n64 (FP.dmul ((chN p q u d w z n).1 i) q)) ∧ (∀ i, vf_n64 (FP.dmul ((chN p q u d w z n).1 i) p)) ∧
    (∀ i, i ≤ 119 → vf_n64 (FP.dadd (acc FP.dadd (fun i => decide (w ≤ i + u)) (fun i => FP.dmul ((chN p q u d w z n).1 i) q) r0 i) (FP.dmul ((chN p q u d w z n).1 i) q))) ∧
    (∀ i, i ≤ 119 → ∀ j, vf_n64 (FP.dadd (scat FP.dadd FP.dconst0 (fun i => FP.dmul ((chN p q u d w z n).1 i) q) (fun i => FP.dmul ((chN p q u d w z n).1 i) p) u d w i j) (FP.dmul ((chN p q u d w z n).1 i) q))) ∧
    (∀ i, i ≤ 119 → ∀ j, vf_n64 (FP.dadd (sUp FP.dadd (fun i => FP.dmul ((chN p q u d w z n).1 i) q) u w i (scat FP.dadd FP.dconst0 (fun i => FP.dmul ((chN p q u d w z n).1 i) q) (fun i => FP.dmul ((chN p q u d w z n).1 i) p) u d w i) j) (FP.dmul ((chN p q u d w z n).1 i) p))) ∧
    vf_n64 (FP.dadd (chN p q u d w z n).2.2 (acc FP.dadd (fun _ => true) (chN p q u d w z n).1 FP.dconst0 w)) := by
  obtain ⟨oa, oq, op, osc, oac, osm, or_, oe⟩ := ok_step (u := u) (d := d) (w := w) (z := z) (n := n) hp hq hw hn
  refine ⟨fun i hi => ?_, fun i => (oq i).n64, fun i => (op i).n64, fun i hi => ?_, fun i hi j => ?_, fun i hi j => ?_, ?_⟩
  · exact ((osm i (by omega)).add (oa i) (by decide) (by omega) (by decide)).n64
  · have h1 := ok_acc (c := fun i => decide (w ≤ i + u)) (by decide) (by decide) hK hr oq i (by omega)
    exact (h1.add (oq i) (by decide) (by omega) (by decide)).n64
  · exact ((osc i (by omega) j).add (oq i) (by decide) (by omega) (by decide)).n64
  · have h1 := ok_up (pu := fun i => FP.dmul ((chN p q u d w z n).1 i) q) (u := u) (w := w) (i := i) (by decide) (by decide) (by omega) (osc i (by omega)) (oq i) j
    exact (h1.add (op i) (by decide) (by omega) (by decide)).n64
  · exact (oe.add (osm w (by omega)) (by decide) (by omega) (by decide)).n64
/-- the parameters of a state as natural numbers -/
def pU_ (g : Sg) : Nat := (gI g 2).toNatClampNeg
def pB_ (g : Sg) : Nat := (gI g 3 + 60).toNatClampNeg
theorem par_u {g : Sg} {u d U B : Nat} (h : Par g u d U B) : u = (gI g 0).toNatClampNeg ∧ d = (gI g 1).toNatClampNeg ∧ U = pU_ g ∧ B = pB_ g := by
  obtain ⟨h1, h2, h3, h4, h5, h6, h7, h8⟩ := h
  unfold pU_ pB_
  rw [h1, h2, h3, h4, Int32.sub_add_cancel, nI_clamp (by omega), nI_clamp (by omega), nI_clamp (by omega), nI_clamp (by omega)]
  exact ⟨rfl, rfl, rfl, rfl⟩
def chG (j n : Nat) (g : Sg) : (Nat → UInt64) × UInt64 × UInt64 := chN (pOf j) (qOf j) (gI g 0).toNatClampNeg (gI g 1).toNatClampNeg (59 + pU_ g - pB_ g) (59 - pB_ g) n
def prB (k j n : Nat) (g : Sg) : Int64 := if k = 0 then (chG j n g).2.1.toInt64 else (chG j n g).2.2.toInt64
theorem chG_eq {g : Sg} {u d U B : Nat} (h : Par g u d U B) (j n : Nat) : chG j n g = chN (pOf j) (qOf j) u d (59 + U - B) (59 - B) n := by
  obtain ⟨e1, e2, e3, e4⟩ := par_u h
  unfold chG
  rw [← e1, ← e2, ← e3, ← e4]
theorem prB_eq {g : Sg} {u d U B : Nat} (h : Par g u d U B) {k j n : Nat} : prB k j n g = if k = 0 then (chN (pOf j) (qOf j) u d (59 + U - B) (59 - B) n).2.1.toInt64 else (chN (pOf j) (qOf j) u d (59 + U - B) (59 - B) n).2.2.toInt64 := by
  unfold prB
  rw [chG_eq h]
def sp_prob (k : Nat) (p c : Int32) (g : Sg) : Int64 := if (0 ≤ p ∧ p ≤ 100) ∧ (0 ≤ c ∧ c ≤ 60) then prB k p.toNatClampNeg c.toNatClampNeg g else (-104)
def seB (n : Nat) (v : Int32) (g : Sg) : Int32 := seqR (gI g 0).toNatClampNeg (gI g 1).toNatClampNeg (pU_ g) (pB_ g) n v
theorem seB_eq {g : Sg} {u d U B : Nat} (h : Par g u d U B) {n : Nat} {v : Int32} : seB n v g = seqR u d U B n v := by
  obtain ⟨e1, e2, e3, e4⟩ := par_u h
  unfold seB
  rw [← e1, ← e2, ← e3, ← e4]
def sp_cseq (c v : Int32) (g : Sg) : Int32 := if (0 ≤ c ∧ c ≤ 20) ∧ (0 ≤ v ∧ v ≤ 2) then seB c.toNatClampNeg v g else (-104)
