/-! the class's walk: rows from place 0 on -/
theorem P_on1 {D : va_G} {cl : List vw_C} {ws : va_W} {H : Heap} {x : Nat × va_E} (k : Nat) (hP : va_P D cl ws H) (h : ws[k]? = some x) : va_P D cl [x] H := P_iff.mpr fun q hq => by
  obtain rfl := List.mem_singleton.mp hq
  exact hP k _ h
theorem D_on1 {A : Nat → Prop} {ws : va_W} {x : Nat × va_E} (k : Nat) (hD : va_D A ws) (h : ws[k]? = some x) : va_D A [x] := D_iff.mpr ⟨List.pairwise_singleton _ _, fun q hq => by
  obtain rfl := List.mem_singleton.mp hq
  exact hD.2 k _ h⟩
theorem P_perm {D : va_G} {cl : List vw_C} {ws vs : va_W} {H : Heap} (hp : ws.Perm vs) (hP : va_P D cl ws H) : va_P D cl vs H := P_iff.mpr fun q hq => P_iff.mp hP q (hp.mem_iff.mpr hq)
theorem D_perm {A : Nat → Prop} {ws vs : va_W} (hp : ws.Perm vs) (hD : va_D A ws) : va_D A vs := by
  obtain ⟨h1, h2⟩ := D_iff.mp hD
  exact D_iff.mpr ⟨(hp.map Prod.fst).nodup_iff.mp h1, fun q hq => h2 q (hp.mem_iff.mpr hq)⟩
theorem pm_12 {x a b c d : Nat × va_E} : [x, a, b, c, d].Perm [x, b, a, c, d] := (List.Perm.swap b a [c, d]).cons x
theorem pm_34 {x a b c d : Nat × va_E} : [x, a, b, c, d].Perm [x, a, b, d, c] := (((List.Perm.swap d c []).cons b).cons a).cons x
theorem wd_eq {U B : Nat} (hU : U ≤ 60) (hB : B ≤ 59) : nI U - (nI B - 60) - 1 = nI (59 + U - B) := by
  apply Int32.toInt_inj.mp
  have a := t60 (m := B) (by omega)
  have b : (nI U).toInt = (U : Int) := nI_toInt (by omega)
  have c : (nI U - (nI B - 60)).toInt = (U : Int) - ((B : Int) - 60) := by rw [fb_subI (by rw [a, b]; omega) (by rw [a, b]; omega), a, b]
  have o : (1 : Int32).toInt = 1 := rfl
  rw [fb_subI (by rw [c, o]; omega) (by rw [c, o]; omega), c, o, nI_toInt (by omega)]
  omega
theorem iz_eq {B : Nat} (hB : B ≤ 59) : -(nI B - 60) - 1 = nI (59 - B) := by
  rw [Int32.neg_sub, show (60 : Int32) = nI 60 from rfl, pk_sub (by omega), show (1 : Int32) = nI 1 from rfl, pk_sub (by omega)]
  congr 1
  omega
theorem minI {a b : Nat} (ha : a < 2 ^ 31) (hb : b < 2 ^ 31) : (if nI b < nI a then nI b else nI a) = nI (min a b) := by
  by_cases h : b < a
  · rw [if_pos (nI_lt h ha), Nat.min_eq_right (by omega)]
  · rw [if_neg (fun q => h ((nI_ltI hb ha).mp q)), Nat.min_eq_left (by omega)]
theorem max0 {x : Nat} : (if nI x < 0 then 0 else nI x) = nI x ∨ 2 ^ 31 ≤ x := by
  by_cases h : x < 2 ^ 31
  · exact Or.inl (if_neg (nI_pos h))
  · exact Or.inr (by omega)
theorem maxZ {x : Nat} (h : x < 2 ^ 31) : (if nI x < 0 then 0 else nI x) = nI x := if_neg (nI_pos h)
theorem maxS {w u : Nat} (hw : w < 2 ^ 20) (hu : u < 2 ^ 20) : (if nI w - nI u < 0 then 0 else nI w - nI u) = nI (w - u) := by
  by_cases h : u ≤ w
  · rw [pk_sub h]
    exact maxZ (by omega)
  · rw [if_pos, show w - u = 0 by omega]
    · rfl
    · have a : (nI w).toInt = (w : Int) := nI_toInt (by omega)
      have b : (nI u).toInt = (u : Int) := nI_toInt (by omega)
      rw [Int32.lt_iff_toInt_lt, fb_subI (by rw [a, b]; omega) (by rw [a, b]; omega), a, b]
      show _ < (0 : Int)
      omega
theorem sbm {a b : Nat} (ha : a < 2 ^ 20) (hb : b < 2 ^ 20) : nI a - nI b < 0 ↔ a < b := by
  have x : (nI a).toInt = (a : Int) := nI_toInt (by omega)
  have y : (nI b).toInt = (b : Int) := nI_toInt (by omega)
  rw [Int32.lt_iff_toInt_lt, fb_subI (by rw [x, y]; omega) (by rw [x, y]; omega), x, y]
  show _ < (0 : Int) ↔ _
  omega
def XR {α : Type} (w : Nat) (f a : Nat → α) : Prop := ∀ i, i < w → f i = a i
theorem XR_up {α : Type} {w i u : Nat} {add : α → α → α} {pu t f : Nat → α} {x : α} (h : XR w f t) (hi : i + u < w) (hx : x = add (t (i + u)) (pu i)) : XR w (vf_upd f (i + u) x) (sUp add pu u w i t) := by
  intro j hj
  unfold sUp
  rw [if_pos hi, hx]
  by_cases hq : j = i + u
  · subst hq
    rw [up_s, up_s]
  · rw [up_n _ _ hq, up_n _ _ hq]
    exact h j hj
theorem XR_up0 {α : Type} {w i u : Nat} {add : α → α → α} {pu t f : Nat → α} (h : XR w f t) (hi : ¬ i + u < w) : XR w f (sUp add pu u w i t) := by
  unfold sUp; rw [if_neg hi]; exact h
theorem XR_dn {α : Type} {w i d : Nat} {add : α → α → α} {pd t f : Nat → α} {x : α} (h : XR w f t) (hd : d ≤ i) (hx : x = add (t (i - d)) (pd i)) : XR w (vf_upd f (i - d) x) (sDn add pd d i t) := by
  intro j hj
  unfold sDn
  rw [if_pos hd, hx]
  by_cases hq : j = i - d
  · subst hq
    rw [up_s, up_s]
  · rw [up_n _ _ hq, up_n _ _ hq]
    exact h j hj
theorem XR_dn0 {α : Type} {w i d : Nat} {add : α → α → α} {pd t f : Nat → α} (h : XR w f t) (hd : ¬ d ≤ i) : XR w f (sDn add pd d i t) := by
  unfold sDn; rw [if_neg hd]; exact h
theorem XR_0 {α : Type} {w zz : Nat} {f : Nat → α} {x y : α} (hw : w ≤ 119) (hf : ∀ j, j < 119 → f j = y) : XR w (vf_upd f zz x) (fun i => if i = zz then x else y) := by
  intro i hi
  show vf_upd f zz x i = if i = zz then x else y
  by_cases h : i = zz
  · subst h; rw [up_s, if_pos rfl]
  · rw [up_n _ _ h, if_neg h]; exact hf i (by omega)
theorem smI_eq {f a : Nat → Int32} {lo w : Nat} (h : XR w f a) : ∀ n, lo + n ≤ w → smI f lo n = smI a lo n
  | 0, _ => rfl
  | n + 1, hn => by
    show smI f lo n + f (lo + n) = smI a lo n + a (lo + n)
    rw [smI_eq h n (by omega), h (lo + n) (by omega)]
theorem acc_hi {a : Nat → Int32} {u w : Nat} {x0 : Int32} : ∀ i, acc (· + ·) (fun i => decide (w ≤ i + u)) a x0 i = x0 + smI a (w - u) (i - (w - u))
  | 0 => by
    rw [Nat.zero_sub]
    exact (Int32.add_zero _).symm
  | i + 1 => by
    by_cases h : w ≤ i + u
    · rw [acc_t (by simpa using h), acc_hi i, show i + 1 - (w - u) = (i - (w - u)) + 1 by omega]
      show x0 + smI a (w - u) (i - (w - u)) + a i = x0 + (smI a (w - u) (i - (w - u)) + a (w - u + (i - (w - u))))
      rw [show w - u + (i - (w - u)) = i by omega, Int32.add_assoc]
    · rw [acc_f (by simpa using h), acc_hi i, show i + 1 - (w - u) = i - (w - u) by omega]
theorem acc_lo {a : Nat → Int32} {d : Nat} {x0 : Int32} : ∀ i, acc (· + ·) (fun i => decide (i < d)) a x0 i = x0 + smI a 0 (min d i)
  | 0 => by
    rw [Nat.min_zero]
    exact (Int32.add_zero _).symm
  | i + 1 => by
    by_cases h : i < d
    · rw [acc_t (by simpa using h), acc_lo i, Nat.min_eq_right (by omega), Nat.min_eq_right (by omega)]
      show x0 + smI a 0 i + a i = x0 + (smI a 0 i + a (0 + i))
      rw [Nat.zero_add, Int32.add_assoc]
    · rw [acc_f (by simpa using h), acc_lo i, Nat.min_eq_left (by omega), Nat.min_eq_left (by omega)]
theorem sm_upd {t : Nat → Int32} {k : Nat} {x : Int32} : ∀ w, smI (vf_upd t k (t k + x)) 0 w = smI t 0 w + if k < w then x else 0
  | 0 => by
    rw [if_neg (Nat.not_lt_zero _)]
    exact (Int32.add_zero _).symm
  | w + 1 => by
    show smI (vf_upd t k (t k + x)) 0 w + vf_upd t k (t k + x) (0 + w) = smI t 0 w + t (0 + w) + _
    rw [sm_upd w, Nat.zero_add]
    by_cases h : w = k
    · subst h
      rw [up_s, if_neg (Nat.lt_irrefl _), if_pos (Nat.lt_succ_self _), Int32.add_zero, Int32.add_assoc]
    · rw [up_n _ _ h]
      by_cases h2 : k < w
      · rw [if_pos h2, if_pos (by omega), Int32.add_assoc, Int32.add_comm x, ← Int32.add_assoc]
      · rw [if_neg h2, if_neg (by omega), Int32.add_zero, Int32.add_zero]
theorem ac3 (a b c x : Int32) : a + x + b + c = a + b + c + x := by
  rw [Int32.add_assoc, Int32.add_assoc, Int32.add_comm x, ← Int32.add_assoc, ← Int32.add_assoc]
theorem cons1 {a : Nat → Int32} {u d w : Nat} {s b : Int32} : ∀ i, i ≤ w → smI (scat (· + ·) 0 a a u d w i) 0 w + acc (· + ·) (fun i => decide (w ≤ i + u)) a s i + acc (· + ·) (fun i => decide (i < d)) a b i = s + b + smI a 0 i + smI a 0 i
  | 0, _ => by
    have h0 : ∀ w, smI (fun _ => 0) 0 w = 0 := fun w => by
      induction w with
      | zero => rfl
      | succ w ih => show smI (fun _ => 0) 0 w + 0 = 0; rw [ih]; rfl
    show smI (fun _ => 0) 0 w + s + b = s + b + 0 + 0
    rw [h0, Int32.zero_add, Int32.add_zero, Int32.add_zero]
  | i + 1, hi => by
    have ih := cons1 (a := a) (u := u) (d := d) (w := w) (s := s) (b := b) i (by omega)
    have e1 : smI (sUp (· + ·) a u w i (scat (· + ·) 0 a a u d w i)) 0 w + acc (· + ·) (fun i => decide (w ≤ i + u)) a s (i + 1) + acc (· + ·) (fun i => decide (i < d)) a b i = s + b + smI a 0 i + smI a 0 i + a i := by
      rw [← ih]
      unfold sUp
      by_cases h : i + u < w
      · rw [if_pos h, sm_upd, if_pos h, acc_f (decide_eq_false (by omega)), ac3]
      · rw [if_neg h, acc_t (decide_eq_true (by omega))]
        show _ + (_ + a i) + _ = _
        rw [← Int32.add_assoc, Int32.add_assoc _ (a i), Int32.add_comm (a i), ← Int32.add_assoc]
    have e2 : smI (sDn (· + ·) a d i (sUp (· + ·) a u w i (scat (· + ·) 0 a a u d w i))) 0 w + acc (· + ·) (fun i => decide (w ≤ i + u)) a s (i + 1) + acc (· + ·) (fun i => decide (i < d)) a b (i + 1) = s + b + smI a 0 i + smI a 0 i + a i + a i := by
      rw [← e1]
      unfold sDn
      by_cases h : d ≤ i
      · rw [if_pos h, sm_upd, if_pos (by omega), acc_f (c := fun i => decide (i < d)) (decide_eq_false (by omega)), ac3]
      · rw [if_neg h, acc_t (c := fun i => decide (i < d)) (decide_eq_true (by omega)), ← Int32.add_assoc]
    show smI (sDn (· + ·) a d i (sUp (· + ·) a u w i (scat (· + ·) 0 a a u d w i))) 0 w + acc (· + ·) (fun i => decide (w ≤ i + u)) a s (i + 1) + acc (· + ·) (fun i => decide (i < d)) a b (i + 1) = s + b + (smI a 0 i + a (0 + i)) + (smI a 0 i + a (0 + i))
    rw [e2, Nat.zero_add]
    generalize smI a 0 i = t
    ac_rfl
theorem sm_one {z : Nat} : ∀ w, smI (fun i => if i = z then 1 else 0) 0 w = if z < w then 1 else 0
  | 0 => (if_neg (Nat.not_lt_zero _)).symm
  | w + 1 => by
    show smI (fun i => if i = z then 1 else 0) 0 w + (if 0 + w = z then 1 else 0) = _
    rw [sm_one w, Nat.zero_add]
    by_cases h : w = z
    · subst h; rw [if_neg (Nat.lt_irrefl _), if_pos rfl, if_pos (Nat.lt_succ_self _)]; rfl
    · by_cases h2 : z < w
      · rw [if_pos h2, if_neg h, if_pos (by omega)]; rfl
      · rw [if_neg h2, if_neg h, if_neg (by omega)]; rfl
theorem pw2 : ∀ n, n < 20 → (1 : Int32) <<< (nI (n + 1) &&& 31) = (2 : Int32) * ((1 : Int32) <<< (nI n &&& 31)) := by decide +kernel
theorem two_mul2 (x : Int32) : 2 * x = x + x := by
  rw [show (2 : Int32) = 1 + 1 from rfl, Int32.add_mul, Int32.one_mul]
theorem cons2 {u d w z : Nat} (hz : z < w) : ∀ n, n ≤ 20 → smI (csN u d w z n).1 0 w + (csN u d w z n).2.1 + (csN u d w z n).2.2 = 1 <<< (nI n &&& 31)
  | 0, _ => by
    show smI (fun i => if i = z then 1 else 0) 0 w + 0 + 0 = _
    rw [sm_one, if_pos hz]; decide +kernel
  | n + 1, hn => by
    have ih := cons2 (u := u) (d := d) hz n (by omega)
    show smI (scat (· + ·) 0 (csN u d w z n).1 (csN u d w z n).1 u d w w) 0 w + acc (· + ·) (fun i => decide (w ≤ i + u)) (csN u d w z n).1 ((csN u d w z n).2.1 * 2) w + acc (· + ·) (fun i => decide (i < d)) (csN u d w z n).1 ((csN u d w z n).2.2 * 2) w = _
    rw [cons1 w (Nat.le_refl _), pw2 n (by omega), ← ih, Int32.mul_comm (csN u d w z n).2.1 2, Int32.mul_comm (csN u d w z n).2.2 2, two_mul2, two_mul2, two_mul2]
    generalize smI (csN u d w z n).1 0 w = t
    generalize (csN u d w z n).2.1 = s
    generalize (csN u d w z n).2.2 = b
    ac_rfl
theorem sub3 {t s b x : Int32} (h : t + s + b = x) : t = x - s - b := by
  subst h
  rw [Int32.add_assoc, Int32.add_comm s b, ← Int32.add_assoc, Int32.add_sub_cancel, Int32.add_sub_cancel]
theorem seq_fin {u d U B n : Nat} {v : Int32} {f : Nat → Int32} (h : XR (59 + U - B) f (csN u d (59 + U - B) (59 - B) n).1) (hU : 1 ≤ U) (hB : B ≤ 59) (hn : n ≤ 20) (h1 : ¬ v = 1) (h2 : ¬ v = 2) : smI f 0 (59 + U - B) = seqR u d U B n v := by
  unfold seqR
  rw [if_neg h1, if_neg h2, smI_eq h _ (by omega)]
  exact sub3 (cons2 (by omega) n hn)
