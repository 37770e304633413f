/-! contacts, attempts, time, input: what the calls do, for both sides -/
def shf (f : Nat → Int32) (k n : Nat) : Nat → Int32 := fun j => if k ≤ j ∧ j < n then f (j + 1) else f j
theorem shf_0 (f : Nat → Int32) (k : Nat) : shf f k k = f := by
  funext j
  simp only [shf]
  rw [if_neg (by omega)]
theorem shf_s (f : Nat → Int32) {k i : Nat} (h : k ≤ i) : upd (shf f k i) i (shf f k i (i + 1)) = shf f k (i + 1) := by
  funext j
  by_cases hj : j = i
  · subst hj
    simp only [upd, shf, if_true]
    rw [if_neg (by omega), if_pos (by omega)]
  · simp only [upd, shf, if_neg hj]
    by_cases h2 : k ≤ j ∧ j < i
    · rw [if_pos h2, if_pos (by omega)]
    · rw [if_neg h2, if_neg (by omega)]
theorem sR3 (g : Sg) (a b c a' b' c' : Nat → Int32) : sR (sR (sR (sR (sR (sR g 4 a) 5 b) 6 c) 4 a') 5 b') 6 c' = sR (sR (sR g 4 a') 5 b') 6 c' := by
  refine Prod.ext rfl (Prod.ext rfl (Prod.ext ?_ rfl))
  funext j
  simp only [sR, vf_upd]
  by_cases h6 : j = 6
  · simp [h6]
  · by_cases h5 : j = 5
    · simp [h5]
    · by_cases h4 : j = 4
      · simp [h4]
      · simp [h4, h5, h6]
def drG (k i : Nat) (g : Sg) : Sg := sR (sR (sR g 4 (shf (gR g 4) k i)) 5 (shf (gR g 5) k i)) 6 (shf (gR g 6) k i)
theorem sR_same (g : Sg) (k : Nat) : sR g k (gR g k) = g := by
  refine Prod.ext rfl (Prod.ext rfl (Prod.ext ?_ rfl))
  funext j
  simp only [sR, vf_upd, gR]
  by_cases h : j = k
  · simp [h]
  · simp [h]
theorem drG_0 (k : Nat) (g : Sg) : drG k k g = g := by
  simp only [drG, shf_0]
  rw [show gR g 5 = gR (sR g 4 (gR g 4)) 5 from rfl, show gR g 6 = gR (sR (sR g 4 (gR g 4)) 5 (gR (sR g 4 (gR g 4)) 5)) 6 from rfl, sR_same, sR_same, sR_same]
theorem drG_s (g : Sg) {k i : Nat} (h : k ≤ i) : sR (sR (sR (drG k i g) 4 (upd (gR (drG k i g) 4) i (gR (drG k i g) 4 (i + 1)))) 5 (upd (gR (drG k i g) 5) i (gR (drG k i g) 5 (i + 1)))) 6 (upd (gR (drG k i g) 6) i (gR (drG k i g) 6 (i + 1))) = drG k (i + 1) g := by
  have e4 : gR (drG k i g) 4 = shf (gR g 4) k i := rfl
  have e5 : gR (drG k i g) 5 = shf (gR g 5) k i := rfl
  have e6 : gR (drG k i g) 6 = shf (gR g 6) k i := rfl
  rw [e4, e5, e6, shf_s _ h, shf_s _ h, shf_s _ h]
  exact sR3 _ _ _ _ _ _ _
def sp_drop (k : Nat) (g : Sg) : Sg := drG k (gN g 1 - 1) (sN g 1 (gN g 1 - 1))
def dAll (c : Nat) : Nat → Sg → Sg
  | 0, g => g
  | n + 1, g => dAll c n (if gR g 4 n - gR g 4 n / nI (gN g 0) * nI (gN g 0) = nI c then sp_drop n g else g)
theorem m1_lt {n : Nat} (hn : n < 2 ^ 31) : nI n - 1 < 0 ↔ n = 0 := by
  constructor
  · intro h
    cases n with
    | zero => rfl
    | succ n => rw [nI_pred] at h; exact absurd h (nI_pos (by omega))
  · rintro rfl
    decide
/-- what a run of drops, a verdict and the like keep -/
def Mn (g : Sg) : Prop := (1 ≤ gN g 0 ∧ gN g 0 ≤ 8) ∧ gN g 1 ≤ 12
def SoOK (g : Sg) : Prop := ∀ k, k < gN g 1 → ∃ s, s < 8 ∧ gR g 4 k = nI s
def Kp (g h : Sg) : Prop := gN h 0 = gN g 0 ∧ gN h 2 = gN g 2 ∧ gN h 1 ≤ gN g 1 ∧ gI h = gI g ∧ gR h 7 = gR g 7 ∧ (SoOK g → SoOK h)
theorem Kp.rfl {g : Sg} : Kp g g := ⟨Eq.refl _, Eq.refl _, Nat.le_refl _, Eq.refl _, Eq.refl _, id⟩
theorem Kp.trans {g h i : Sg} (a : Kp g h) (b : Kp h i) : Kp g i := ⟨b.1.trans a.1, b.2.1.trans a.2.1, Nat.le_trans b.2.2.1 a.2.2.1, b.2.2.2.1.trans a.2.2.2.1, b.2.2.2.2.1.trans a.2.2.2.2.1, fun x => b.2.2.2.2.2 (a.2.2.2.2.2 x)⟩
theorem Kp.mn {g h : Sg} (a : Kp g h) (m : Mn g) : Mn h := ⟨⟨by rw [a.1]; exact m.1.1, by rw [a.1]; exact m.1.2⟩, Nat.le_trans a.2.2.1 m.2⟩
theorem kp_drop {k : Nat} {g : Sg} (hk : k < gN g 1) : Kp g (sp_drop k g) := by
  refine ⟨rfl, rfl, Nat.sub_le _ _, rfl, rfl, fun h j hj => ?_⟩
  have hj : j < gN g 1 - 1 := hj
  show ∃ s, s < 8 ∧ shf (gR g 4) k (gN g 1 - 1) j = nI s
  unfold shf
  split
  · exact h (j + 1) (by omega)
  · exact h j (by omega)
theorem gN_drop (k : Nat) (g : Sg) : gN (sp_drop k g) 1 = gN g 1 - 1 := rfl
theorem gV_drop (k : Nat) (g : Sg) : gV (sp_drop k g) = gV g := rfl
theorem kp_dAll (c : Nat) : ∀ (n : Nat) (g : Sg), n ≤ gN g 1 → Kp g (dAll c n g) ∧ gV (dAll c n g) = gV g
  | 0, g, _ => ⟨Kp.rfl, rfl⟩
  | n + 1, g, h => by
    unfold dAll
    by_cases hc : gR g 4 n - gR g 4 n / nI (gN g 0) * nI (gN g 0) = nI c
    · rw [if_pos hc]
      obtain ⟨a, b⟩ := kp_dAll c n (sp_drop n g) (by rw [gN_drop]; omega)
      exact ⟨(kp_drop (by omega)).trans a, b.trans (gV_drop n g)⟩
    · rw [if_neg hc]
      exact kp_dAll c n g (by omega)
theorem rg_dAll {c n : Nat} {g : Sg} {L : Nat → Int32} (hn : n ≤ gN g 1) (h : RgM (gV g) L) : RgM (gV (dAll c n g)) L := by
  rw [(kp_dAll c n g hn).2]; exact h
def sc1 (c : Nat) (b : Int32) (g : Sg) : Int32 := if b = 0 then gR g 0 c + gI g 0 else gR g 0 c + -gI g 1
def st1 (c : Nat) (b : Int32) (g : Sg) : Sg := sR g 0 (upd (gR g 0) c (sc1 c b g))
def st2 (c : Nat) (g : Sg) : Sg := sV (sE (sR g 0 (upd (gR g 0) c 0)) (vp_updL (gE g) c 0)) ((nI (10 * c) + 2) :: gV g)
def st3 (c : Nat) (g : Sg) : Sg := sV (dAll c (gN g 1) (sR g 1 (upd (gR g 1) c 1))) ((nI (10 * c) + 1) :: gV (dAll c (gN g 1) (sR g 1 (upd (gR g 1) c 1))))
def sp_settle (c : Nat) (b : Int32) (g : Sg) : Int32 × Sg := if sc1 c b g < gI g 2 then (if gI g 3 < sc1 c b g then (0, st1 c b g) else (2, st2 c (st1 c b g))) else (1, st3 c (st1 c b g))
theorem kp_settle (c : Nat) (b : Int32) (g : Sg) : Kp g (sp_settle c b g).2 ∧ (gV (sp_settle c b g).2).length ≤ (gV g).length + 1 ∧ ((sp_settle c b g).1 = 0 ∨ (sp_settle c b g).1 = 1 ∨ (sp_settle c b g).1 = 2) := by
  unfold sp_settle
  split
  · split
    · exact ⟨⟨rfl, rfl, Nat.le_refl _, rfl, rfl, fun h => h⟩, Nat.le_succ _, Or.inl rfl⟩
    · exact ⟨⟨rfl, rfl, Nat.le_refl _, rfl, rfl, fun h => h⟩, Nat.le_refl _, Or.inr (Or.inr rfl)⟩
  · obtain ⟨a, e⟩ := kp_dAll c (gN (st1 c b g) 1) (sR (st1 c b g) 1 (upd (gR (st1 c b g) 1) c 1)) (Nat.le_refl _)
    refine ⟨⟨a.1, a.2.1, a.2.2.1, a.2.2.2.1, a.2.2.2.2.1, fun h => a.2.2.2.2.2 h⟩, ?_, Or.inr (Or.inl rfl)⟩
    show (gV (dAll c (gN (st1 c b g) 1) (sR (st1 c b g) 1 (upd (gR (st1 c b g) 1) c 1)))).length + 1 ≤ _
    rw [e]
    exact Nat.le_refl _
def bitq (x : Int64) (d : Nat) : Int64 := (x >>> ((nI d).toInt64 &&& 63)) &&& 1
theorem bitq_or (x : Int64) (d : Nat) : bitq x d = 0 ∨ bitq x d = 1 := by
  unfold bitq
  generalize x >>> ((nI d).toInt64 &&& 63) = y
  rcases Nat.mod_two_eq_zero_or_one y.toBitVec.toNat with h | h
  · left
    apply Int64.toBitVec_inj.mp
    apply BitVec.eq_of_toNat_eq
    show (y.toBitVec &&& 1#64).toNat = 0
    rw [BitVec.toNat_and]
    show y.toBitVec.toNat &&& 1 = 0
    rw [Nat.and_one_is_mod]; exact h
  · right
    apply Int64.toBitVec_inj.mp
    apply BitVec.eq_of_toNat_eq
    show (y.toBitVec &&& 1#64).toNat = 1
    rw [BitVec.toNat_and]
    show y.toBitVec.toNat &&& 1 = 1
    rw [Nat.and_one_is_mod]; exact h
def seeG (c d : Nat) (g : Sg) : Sg := sE g (vp_updL (gE g) c (gE g c ||| (1 <<< ((nI d).toInt64 &&& 63))))
def blkG (c : Nat) (b : Int32) (g : Sg) : Sg := sR (sR g 2 (upd (gR g 2) c (gR g 2 c + 1))) 3 (upd (gR g 3) c (gR g 3 c + if b = 0 then 0 else 1))
def sp_connectNow (s d : Nat) (b : Int32) (g : Sg) : Int32 × Sg := if gR g 1 (s % gN g 0) = 0 then (if bitq (gE g (s % gN g 0)) d = 1 then (4, g) else sp_settle (s % gN g 0) b (seeG (s % gN g 0) d g)) else (3, blkG (s % gN g 0) b g)
def sp_connect (s d b : Int32) (g : Sg) : Int32 × Sg := if 0 ≤ s ∧ s ≤ 7 then (if 0 ≤ d ∧ d ≤ 31 then sp_connectNow s.toNatClampNeg d.toNatClampNeg b g else (-106, g)) else (-105, g)
theorem kp_connectNow (s d : Nat) (b : Int32) (g : Sg) : Kp g (sp_connectNow s d b g).2 ∧ (gV (sp_connectNow s d b g).2).length ≤ (gV g).length + 1 := by
  unfold sp_connectNow
  split
  · split
    · exact ⟨Kp.rfl, Nat.le_succ _⟩
    · obtain ⟨a, e, -⟩ := kp_settle (s % gN g 0) b (seeG (s % gN g 0) d g)
      exact ⟨⟨a.1, a.2.1, a.2.2.1, a.2.2.2.1, a.2.2.2.2.1, a.2.2.2.2.2⟩, e⟩
  · exact ⟨⟨rfl, rfl, Nat.le_refl _, rfl, rfl, fun h => h⟩, Nat.le_succ _⟩
def addG (s d : Nat) (g : Sg) : Sg := sN (sR (sR (sR (seeG (s % gN g 0) d g) 4 (upd (gR g 4) (gN g 1) (nI s))) 5 (upd (gR g 5) (gN g 1) (nI d))) 6 (upd (gR g 6) (gN g 1) (gI g 5 + gI g 4))) 1 (gN g 1 + 1)
def sp_attemptNow (s d : Nat) (g : Sg) : Int32 × Sg := if gR g 1 (s % gN g 0) = 0 then (if bitq (gE g (s % gN g 0)) d = 1 then (4, g) else if gN g 1 = 12 then (-110, g) else (0, addG s d g)) else (3, sR g 2 (upd (gR g 2) (s % gN g 0) (gR g 2 (s % gN g 0) + 1)))
def sp_attempt (s d : Int32) (g : Sg) : Int32 × Sg := if 0 ≤ s ∧ s ≤ 7 then (if 0 ≤ d ∧ d ≤ 31 then sp_attemptNow s.toNatClampNeg d.toNatClampNeg g else (-106, g)) else (-105, g)
def fi (p : Nat → Bool) (a : Nat) : Option Nat := (List.range a).find? p
theorem fi_some {p : Nat → Bool} {a k : Nat} (hk : k < a) (hp : p k = true) (hn : ∀ j, j < k → p j = false) : fi p a = some k := List.find?_range_eq_some.mpr ⟨hp, List.mem_range.mpr hk, fun j hj => by rw [hn j hj]; rfl⟩
theorem fi_none {p : Nat → Bool} {a : Nat} (hn : ∀ j, j < a → p j = false) : fi p a = none := List.find?_range_eq_none.mpr fun j hj => by rw [hn j hj]; rfl
theorem fi_lt {p : Nat → Bool} {a k : Nat} (h : fi p a = some k) : k < a ∧ p k = true := by
  obtain ⟨h1, h2, -⟩ := List.find?_range_eq_some.mp h
  exact ⟨List.mem_range.mp h2, h1⟩
def fiA (s d : Int32) (g : Sg) : Option Nat := fi (fun k => decide (gR g 4 k = s ∧ gR g 5 k = d)) (gN g 1)
def fiD (g : Sg) : Option Nat := fi (fun k => decide (gR g 6 k = gI g 5)) (gN g 1)
def optI : Option Nat → Int32
  | none => (-1)
  | some k => nI k
theorem optI_none {o : Option Nat} (hb : ∀ k, o = some k → k < 2 ^ 31) (h : optI o < 0) : o = none := by
  cases o with
  | none => rfl
  | some k => exact absurd h (nI_pos (hb k rfl))
theorem optI_some {o : Option Nat} (h : ¬ optI o < 0) : ∃ k, o = some k := by
  cases o with
  | none => exact absurd (by decide) h
  | some k => exact ⟨k, rfl⟩
def sp_answer (s d : Int32) (g : Sg) : Int32 × Sg := match fiA s d g with
  | none => (-108, g)
  | some k => sp_settle (s.toNatClampNeg % gN g 0) 1 (sp_drop k g)
def tkS (k : Nat) (g : Sg) : Sg := (sp_settle ((gR g 4 k).toNatClampNeg % gN g 0) 0 (sp_drop k g)).2
def tkL : Nat → Nat → Sg → Nat × Sg
  | 0, f, g => (f, g)
  | n + 1, f, g => match fiD g with
    | none => (f, g)
    | some k => tkL n (f + 1) (tkS k g)
def sp_tick (g : Sg) : Nat × Sg := tkL 12 0 (sI g 5 (gI g 5 + 1))
theorem kp_tkS {k : Nat} {g : Sg} (hk : k < gN g 1) : Kp g (tkS k g) ∧ gN (tkS k g) 1 ≤ gN g 1 - 1 ∧ (gV (tkS k g)).length ≤ (gV g).length + 1 := by
  obtain ⟨a, e, -⟩ := kp_settle ((gR g 4 k).toNatClampNeg % gN g 0) 0 (sp_drop k g)
  exact ⟨(kp_drop hk).trans a, a.2.2.1, e⟩
theorem fiD_lt {g : Sg} {k : Nat} (h : fiD g = some k) : k < gN g 1 := (fi_lt h).1
theorem kp_tkL : ∀ (n f : Nat) (g : Sg), Kp g (tkL n f g).2 ∧ (gV (tkL n f g).2).length + gN (tkL n f g).2 1 ≤ (gV g).length + gN g 1
  | 0, _, _ => ⟨Kp.rfl, Nat.le_refl _⟩
  | n + 1, f, g => by
    unfold tkL
    cases h : fiD g with
    | none => exact ⟨Kp.rfl, Nat.le_refl _⟩
    | some k =>
      have hk := fiD_lt h
      obtain ⟨a, b, c⟩ := kp_tkS hk
      obtain ⟨d, e⟩ := kp_tkL n (f + 1) (tkS k g)
      refine ⟨a.trans d, Nat.le_trans e ?_⟩
      omega
theorem kp_tick (g : Sg) : Kp (sI g 5 (gI g 5 + 1)) (sp_tick g).2 ∧ (gV (sp_tick g).2).length + gN (sp_tick g).2 1 ≤ (gV g).length + gN g 1 := kp_tkL 12 0 _
def adL : Nat → Nat → Sg → Nat × Sg
  | 0, f, g => (f, g)
  | n + 1, f, g => adL n (f + (sp_tick g).1) (sp_tick g).2
def sp_advance (t : Int32) (g : Sg) : Int32 × Sg := if 1 ≤ t ∧ t ≤ 50 then (nI (adL t.toNatClampNeg 0 g).1, (adL t.toNatClampNeg 0 g).2) else (-104, g)
def sp_unblock (i : Int32) (g : Sg) : Int32 × Sg := if 0 ≤ i ∧ i ≤ nI (gN g 0) - 1 then (if gR g 1 i.toNatClampNeg = 0 then (-111, g) else (gR g 0 i.toNatClampNeg, sR (sE (sR g 0 (upd (gR g 0) i.toNatClampNeg 0)) (vp_updL (gE g) i.toNatClampNeg 0)) 1 (upd (gR g 1) i.toNatClampNeg 0))) else (-107, g)
/-- does the sign at i fit -/
abbrev chk (f : Nat → Int32) (i : Nat) : Prop := if i % 6 = 0 then (48 ≤ f i ∧ f i ≤ 55) else if i % 6 = 1 then f i = 62 else if i % 6 = 2 then (48 ≤ f i ∧ f i ≤ 51) else if i % 6 = 3 then (48 ≤ f i ∧ f i ≤ (if f (i - 1) = 51 then 49 else 57)) else if i % 6 = 4 then (f i = 43 ∨ f i = 45) else f i = 44
def fe (f : Nat → Int32) (n : Nat) : Nat :=
  match fi (fun i => decide (¬ chk f i)) n with
    | none => n
    | some i => i
theorem fe_at {f : Nat → Int32} {n k : Nat} (hk : k ≤ n) (hb : ∀ j, j < k → chk f j) (he : k = n ∨ ¬ chk f k) : fe f n = k := by
  unfold fe
  by_cases hc : k < n
  · have h2 : ¬ chk f k := by
      rcases he with h | h
      · omega
      · exact h
    rw [fi_some (p := fun i => decide (¬ chk f i)) (k := k) hc (decide_eq_true h2) (fun j hj => decide_eq_false (fun q => q (hb j hj)))]
  · have : k = n := by omega
    subst this
    rw [fi_none (p := fun i => decide (¬ chk f i)) (fun j hj => decide_eq_false (fun q => q (hb j hj)))]
theorem fe_le (f : Nat → Int32) (n : Nat) : fe f n ≤ n := by
  unfold fe
  split
  · exact Nat.le_refl _
  · rename_i i h; exact Nat.le_of_lt (fi_lt h).1
theorem fe_all {f : Nat → Int32} {n : Nat} (h : fe f n = n) : ∀ j, j < n → chk f j := by
  intro j hj
  unfold fe at h
  split at h
  · rename_i h2
    have h3 := List.find?_range_eq_none.mp h2 j hj
    by_cases hc : chk f j
    · exact hc
    · rw [decide_eq_true hc] at h3
      cases h3
  · rename_i i h2
    have := (fi_lt h2).1
    omega
def srcN (f : Nat → Int32) (i : Nat) : Nat := (f i - 48).toNatClampNeg
def dstN (f : Nat → Int32) (i : Nat) : Nat := (10 * (f (i + 2) - 48) + f (i + 3) - 48).toNatClampNeg
def sucI (f : Nat → Int32) (i : Nat) : Int32 := if f (i + 4) = 43 then 1 else 0
def rnL : Nat → Nat → Nat → Sg → Nat × Sg
  | 0, _, k, g => (k, g)
  | n + 1, i, k, g => rnL n (i + 6) (k + if (sp_connectNow (srcN (gR g 7) i) (dstN (gR g 7) i) (sucI (gR g 7) i) g).1 < 3 then 1 else 0) (sp_connectNow (srcN (gR g 7) i) (dstN (gR g 7) i) (sucI (gR g 7) i) g).2
def sp_run (g : Sg) : Int32 × Sg :=
  if gN g 2 % 6 = 5 ∧ fe (gR g 7) (gN g 2) = gN g 2 then (nI (rnL ((gN g 2 + 1) / 6) 0 0 g).1, sN (rnL ((gN g 2 + 1) / 6) 0 0 g).2 2 0) else (-103, g)
/-- the reference's row of verdicts behind one more -/
def shd (L : Nat → Int32) (k : Nat) : Nat → Int32 := fun j => if k < j ∧ j < 16 then L (j - 1) else L j
theorem shd_0 (L : Nat → Int32) : shd L 15 = L := by
  funext j
  simp only [shd]
  rw [if_neg (by omega)]
theorem shd_s (L : Nat → Int32) {k : Nat} (h0 : 0 < k) (h : k ≤ 15) : upd (shd L k) k (shd L k (k - 1)) = shd L (k - 1) := by
  funext j
  by_cases hj : j = k
  · subst hj
    simp only [upd, shd, if_true]
    rw [if_neg (by omega), if_pos (by omega)]
  · simp only [upd, shd, if_neg hj]
    by_cases h2 : k < j ∧ j < 16
    · rw [if_pos h2, if_pos (by omega)]
    · rw [if_neg h2, if_neg (by omega)]
theorem RgM_s {V : List Int32} {L : Nat → Int32} (h : RgM V L) (x : Int32) : RgM (x :: V) (upd (shd L 0) 0 x) := by
  intro b h1 h2
  cases b with
  | zero => simp [upd]
  | succ b =>
    have h3 : b < V.length := by simpa using h2
    simp only [upd, shd]
    rw [if_neg (by omega), if_pos (by omega)]
    show L b = _
    rw [h b (by omega) h3]
    rfl
def mQ (ad : Nat → Nat) (kA : Nat → ClassId) (g : Sg) (z : Zm) (u : va_W) : Prop := ∃ L, RgM (gV g) L ∧ u = mW ad kA g (tL z L)
theorem dig_ok {x : Int32} {n : Nat} (hn : 48 + n < 2 ^ 31) (h0 : 48 ≤ x) (h1 : x ≤ nI (48 + n)) : ∃ a, a ≤ n ∧ x = nI (48 + a) ∧ x - 48 = nI a := by
  obtain ⟨j, hj, rfl⟩ := nI_of (x := x) (Int32.not_lt.mpr (Int32.le_trans (by decide) h0))
  have h2 : 48 ≤ j := (nI_leI (by omega) hj).mp h0
  have h3 := (nI_leI hj hn).mp h1
  refine ⟨j - 48, by omega, by rw [show 48 + (j - 48) = j by omega], ?_⟩
  exact pk_sub (a := j) (b := 48) h2
theorem run_ok {f : Nat → Int32} {n i : Nat} (h : ∀ j, j < n → chk f j) (hi : i % 6 = 0) (ht : i + 4 < n) : ∃ s d, s < 8 ∧ d < 32 ∧ f i - 48 = nI s ∧ 10 * (f (i + 2) - 48) + f (i + 3) - 48 = nI d := by
  have c0 := h i (by omega)
  have c2 := h (i + 2) (by omega)
  have c3 := h (i + 3) (by omega)
  unfold chk at c0 c2 c3
  rw [if_pos hi] at c0
  rw [if_neg (by omega), if_neg (by omega), if_pos (by omega)] at c2
  rw [if_neg (by omega), if_neg (by omega), if_neg (by omega), if_pos (by omega)] at c3
  obtain ⟨s, hs, -, e0⟩ := dig_ok (n := 7) (by decide) c0.1 c0.2
  obtain ⟨a, ha, e2', e2⟩ := dig_ok (n := 3) (by decide) c2.1 c2.2
  rw [show i + 3 - 1 = i + 2 by omega] at c3
  have key : ∃ b, 10 * a + b < 32 ∧ f (i + 3) = nI (48 + b) := by
    by_cases h3 : f (i + 2) = 51
    · rw [if_pos h3] at c3
      obtain ⟨b, hb, e3, -⟩ := dig_ok (n := 1) (by decide) c3.1 c3.2
      exact ⟨b, by omega, e3⟩
    · rw [if_neg h3] at c3
      obtain ⟨b, hb, e3, -⟩ := dig_ok (n := 9) (by decide) c3.1 c3.2
      have : a ≠ 3 := fun q => h3 (by rw [e2', q]; decide)
      exact ⟨b, by omega, e3⟩
  obtain ⟨b, hb, e3⟩ := key
  refine ⟨s, 10 * a + b, by omega, hb, e0, ?_⟩
  rw [e2, e3, show (10 : Int32) = nI 10 from rfl, pk_mul, nI_add, show (48 : Int32) = nI 48 from rfl, pk_sub (by omega)]
  congr 1
  omega
