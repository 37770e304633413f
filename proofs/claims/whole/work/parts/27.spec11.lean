/-! the class's cells in one world: head, walk, attempts, verdicts, input, pool -/
abbrev Ys : Type := (Nat → Nat) × (Nat → Int32) × (Nat → Nat → Int32) × (Nat → Nat → UInt64)
def yA (y : Ys) : Nat → Nat := y.1
def yL (y : Ys) : Nat → Int32 := y.2.1
def yF (y : Ys) : Nat → Nat → Int32 := y.2.2.1
def yD (y : Ys) : Nat → Nat → UInt64 := y.2.2.2
def tYL (y : Ys) (L : Nat → Int32) : Ys := (y.1, L, y.2.2)
def tYF (y : Ys) (b1 b2 : Nat) (f0 f1 : Nat → Int32) : Ys := ((fun k => if k = 1 then b1 else if k = 2 then b2 else y.1 k), y.2.1, (fun k => if k = 0 then f0 else f1), y.2.2.2)
def tYD (y : Ys) (b1 b2 : Nat) (f0 f1 : Nat → UInt64) : Ys := ((fun k => if k = 3 then b1 else if k = 4 then b2 else y.1 k), y.2.1, y.2.2.1, (fun k => if k = 0 then f0 else f1))
def xH (ad : Nat → Nat) (kA : Nat → ClassId) (g : Sg) : va_W := [(ad 0, .inr (5, [.ref (ad 1), .ref (ad 2), .ref (ad 3), .ref (ad 7), .ref (ad 9), .int (nI (gN g 0)), .int (gI g 4), .int (gI g 5)])), (ad 1, .inl (kA 4, 8, .inr (.inr (.inr (.inr (fun i => some (ad (15 + i))))))))]
def xK (ad : Nat → Nat) (kA : Nat → ClassId) (g : Sg) (y : Ys) : va_W := wkW (ad 2) (yA y 1) (yA y 2) (yA y 3) (yA y 4) kA (gI g 0) (gI g 1) (gI g 2) (gI g 3) (gI g 2 - gI g 3 - 1) (yF y 0) (yF y 1) (yD y 0) (yD y 1)
def xD (ad : Nat → Nat) (kA : Nat → ClassId) (g : Sg) : va_W := pdW (ad 3) (ad 4) (ad 5) (ad 6) kA (gN g 1) (gR g 4) (gR g 5) (gR g 6)
def xV (ad : Nat → Nat) (kA : Nat → ClassId) (g : Sg) (y : Ys) : va_W := vdW (ad 7) (ad 8) kA (gV g).length (yL y)
def xI (ad : Nat → Nat) (kA : Nat → ClassId) (g : Sg) : va_W := inW (ad 9) (ad 10) kA (gN g 2) (gR g 7)
def cE (g : Sg) (i : Nat) : va_E := .inr (0, [.int (gR g 0 i), .int (gR g 1 i), .long (gE g i), .int (gR g 2 i), .int (gR g 3 i)])
def xP (ad : Nat → Nat) (g : Sg) : va_W := [(ad (15 + 0), cE g 0), (ad (15 + 1), cE g 1), (ad (15 + 2), cE g 2), (ad (15 + 3), cE g 3), (ad (15 + 4), cE g 4), (ad (15 + 5), cE g 5), (ad (15 + 6), cE g 6), (ad (15 + 7), cE g 7)]
def xW (ad : Nat → Nat) (kA : Nat → ClassId) (g : Sg) (y : Ys) : va_W := xH ad kA g ++ (xK ad kA g y ++ (xD ad kA g ++ (xV ad kA g y ++ (xI ad kA g ++ xP ad g))))
def xQ (ad : Nat → Nat) (kA : Nat → ClassId) (g : Sg) (y : Ys) (u : va_W) : Prop := ∃ L, RgX (gV g) L ∧ u = xW ad kA g (tYL y L)
theorem sg_P {D : va_G} {cl : List vw_C} {l1 wc l2 : va_W} {H : Heap} (hP : va_P D cl (l1 ++ (wc ++ l2)) H) : va_P D cl wc H := P_iff.mpr fun q hq => P_iff.mp hP q (List.mem_append_right _ (List.mem_append_left _ hq))
theorem sg_D {A : Nat → Prop} {l1 wc l2 : va_W} (hD : va_D A (l1 ++ (wc ++ l2))) : va_D A wc := by
  obtain ⟨h1, h2⟩ := D_iff.mp hD
  rw [List.map_append, List.map_append] at h1
  exact D_iff.mpr ⟨(List.nodup_append.mp (List.nodup_append.mp h1).2.1).1, fun q hq => h2 q (List.mem_append_right _ (List.mem_append_left _ hq))⟩
section XC
variable {ad : Nat → Nat} {kA : Nat → ClassId} {g : Sg} {y : Ys} {i : Nat}
theorem lt8 (h : i < 8) : i = 0 ∨ i = 1 ∨ i = 2 ∨ i = 3 ∨ i = 4 ∨ i = 5 ∨ i = 6 ∨ i = 7 := by omega
theorem xW_c (hi : i < 8) : (xW ad kA g y)[15 + i]? = some (ad (15 + i), .inr (0, [.int (gR g 0 i), .int (gR g 1 i), .long (gE g i), .int (gR g 2 i), .int (gR g 3 i)])) := by
  rcases lt8 hi with rfl | rfl | rfl | rfl | rfl | rfl | rfl | rfl <;> rfl
theorem xc_n (hi : i < 8) : (xW ad kA g y).set (15 + i) (ad (15 + i), .inr (0, [.int (gR g 0 i), .int (gR g 1 i), .long (gE g i), .int (gR g 2 i), .int (gR g 3 i)])) = xW ad kA g y := by
  rcases lt8 hi with rfl | rfl | rfl | rfl | rfl | rfl | rfl | rfl <;> rfl
theorem xc_0 (hi : i < 8) {x : Int32} : (xW ad kA g y).set (15 + i) (ad (15 + i), .inr (0, [.int x, .int (gR g 1 i), .long (gE g i), .int (gR g 2 i), .int (gR g 3 i)])) = xW ad kA (sR g 0 (upd (gR g 0) i x)) y := by
  rcases lt8 hi with rfl | rfl | rfl | rfl | rfl | rfl | rfl | rfl <;> rfl
theorem xc_1 (hi : i < 8) {x : Int32} : (xW ad kA g y).set (15 + i) (ad (15 + i), .inr (0, [.int (gR g 0 i), .int x, .long (gE g i), .int (gR g 2 i), .int (gR g 3 i)])) = xW ad kA (sR g 1 (upd (gR g 1) i x)) y := by
  rcases lt8 hi with rfl | rfl | rfl | rfl | rfl | rfl | rfl | rfl <;> rfl
theorem xc_2 (hi : i < 8) {x : Int64} : (xW ad kA g y).set (15 + i) (ad (15 + i), .inr (0, [.int (gR g 0 i), .int (gR g 1 i), .long x, .int (gR g 2 i), .int (gR g 3 i)])) = xW ad kA (sE g (vp_updL (gE g) i x)) y := by
  rcases lt8 hi with rfl | rfl | rfl | rfl | rfl | rfl | rfl | rfl <;> rfl
theorem xc_3 (hi : i < 8) {x : Int32} : (xW ad kA g y).set (15 + i) (ad (15 + i), .inr (0, [.int (gR g 0 i), .int (gR g 1 i), .long (gE g i), .int x, .int (gR g 3 i)])) = xW ad kA (sR g 2 (upd (gR g 2) i x)) y := by
  rcases lt8 hi with rfl | rfl | rfl | rfl | rfl | rfl | rfl | rfl <;> rfl
theorem xc_02 (hi : i < 8) {x : Int32} {z : Int64} : (xW ad kA g y).set (15 + i) (ad (15 + i), .inr (0, [.int x, .int (gR g 1 i), .long z, .int (gR g 2 i), .int (gR g 3 i)])) = xW ad kA (sE (sR g 0 (upd (gR g 0) i x)) (vp_updL (gE g) i z)) y := by
  rcases lt8 hi with rfl | rfl | rfl | rfl | rfl | rfl | rfl | rfl <;> rfl
theorem xc_34 (hi : i < 8) {x z : Int32} : (xW ad kA g y).set (15 + i) (ad (15 + i), .inr (0, [.int (gR g 0 i), .int (gR g 1 i), .long (gE g i), .int x, .int z])) = xW ad kA (sR (sR g 2 (upd (gR g 2) i x)) 3 (upd (gR g 3) i z)) y := by
  rcases lt8 hi with rfl | rfl | rfl | rfl | rfl | rfl | rfl | rfl <;> rfl
theorem xc_a (hi : i < 8) {a b c d : Int32} {z : Int64} : (xW ad kA g y).set (15 + i) (ad (15 + i), .inr (0, [.int a, .int b, .long z, .int c, .int d])) = xW ad kA (sR (sR (sE (sR (sR g 0 (upd (gR g 0) i a)) 1 (upd (gR g 1) i b)) (vp_updL (gE g) i z)) 2 (upd (gR g 2) i c)) 3 (upd (gR g 3) i d)) y := by
  rcases lt8 hi with rfl | rfl | rfl | rfl | rfl | rfl | rfl | rfl <;> rfl
end XC
theorem rgx_dAll {c n : Nat} {g : Sg} {L : Nat → Int32} (hn : n ≤ gN g 1) (h : RgX (gV g) L) : RgX (gV (dAll c n g)) L := by
  rw [(kp_dAll c n g hn).2]; exact h
def remI (x y : Int32) : Int32 := x - x / y * y
theorem rem_nat {s n : Nat} (hs : s < 2 ^ 31) (h0 : 0 < n) (hn : n < 2 ^ 31) : nI s - nI s / nI n * nI n = nI (s % n) := by
  rw [pk_div hs h0 hn, pk_mul, pk_sub (Nat.div_mul_le_self s n)]
  congr 1
  have := Nat.div_add_mod s n
  rw [Nat.mul_comm] at this
  omega
theorem optI_eq {o : Option Nat} (hb : ∀ k, o = some k → k < 2 ^ 31) (h : optI o = -1) : o = none := optI_none hb (by rw [h]; decide)
theorem optI_ne {o : Option Nat} (h : ¬ optI o = -1) : ∃ k, o = some k := by
  cases o with
  | none => exact absurd rfl h
  | some k => exact ⟨k, rfl⟩
theorem out_at {f : Nat → Int32} {n : Nat} (h0 : 0 < n) (hc : ∀ j, j < n → chk f j) : (f (n - 1) = 43 ∨ f (n - 1) = 45) ↔ n % 6 = 5 := by
  have c := hc (n - 1) (by omega)
  have big : ∀ {x : Int32}, 48 ≤ x → ¬ (x = 43 ∨ x = 45) := by
    intro x hx h
    rcases h with rfl | rfl <;> exact absurd hx (by decide)
  constructor
  · intro h
    unfold chk at c
    rcases (show (n - 1) % 6 = 0 ∨ (n - 1) % 6 = 1 ∨ (n - 1) % 6 = 2 ∨ (n - 1) % 6 = 3 ∨ (n - 1) % 6 = 4 ∨ (n - 1) % 6 = 5 by omega) with h6 | h6 | h6 | h6 | h6 | h6
    · rw [if_pos h6] at c; exact absurd h (big c.1)
    · rw [if_neg (by omega), if_pos h6] at c; rw [c] at h; exact absurd h (by decide)
    · rw [if_neg (by omega), if_neg (by omega), if_pos h6] at c; exact absurd h (big c.1)
    · rw [if_neg (by omega), if_neg (by omega), if_neg (by omega), if_pos h6] at c; exact absurd h (big c.1)
    · omega
    · rw [if_neg (by omega), if_neg (by omega), if_neg (by omega), if_neg (by omega), if_neg (by omega)] at c; rw [c] at h; exact absurd h (by decide)
  · intro h
    unfold chk at c
    rw [if_neg (by omega), if_neg (by omega), if_neg (by omega), if_neg (by omega), if_pos (by omega)] at c
    exact c
theorem set_012 (c : Nat) (b : Int32) (g : Sg) : (sp_settle c b g).1 = 0 ∨ (sp_settle c b g).1 = 1 ∨ (sp_settle c b g).1 = 2 := (kp_settle c b g).2.2
theorem cn_34 (s d : Nat) (b : Int32) (g : Sg) : (sp_connectNow s d b g).1 < 3 ↔ ¬ (sp_connectNow s d b g).1 = 3 ∧ ¬ (sp_connectNow s d b g).1 = 4 := by
  unfold sp_connectNow
  split
  · split
    · show (4 : Int32) < 3 ↔ ¬ (4 : Int32) = 3 ∧ ¬ (4 : Int32) = 4
      decide
    · rcases set_012 (s % gN g 0) b (seeG (s % gN g 0) d g) with h | h | h <;> rw [h] <;> decide
  · show (3 : Int32) < 3 ↔ _
    exact ⟨fun h => absurd h (by decide), fun h => absurd rfl h.1⟩
theorem xyL (y : Ys) : tYL y (yL y) = y := rfl
theorem P_cast {D : va_G} {cl : List vw_C} {ws vs : va_W} {H : Heap} (e : ws = vs) (h : va_P D cl ws H) : va_P D cl vs H := e ▸ h
theorem D_cast {A : Nat → Prop} {ws vs : va_W} (e : ws = vs) (h : va_D A ws) : va_D A vs := e ▸ h
theorem in07 {s n : Nat} (h : s ≤ n) (hn : n < 2 ^ 31) : 0 ≤ nI s ∧ nI s ≤ nI n := ⟨(nI_leI (a := 0) (by decide) (by omega)).mpr (by omega), (nI_leI (by omega) hn).mpr h⟩
