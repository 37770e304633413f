/-! the digest, for both sides -/
def mx (h x : Int64) : Int64 := 31 * h + x
def dgS (g : Sg) : Int64 := mx (mx (mx (mx (mx (mx (mx 1777 (nI (gN g 0)).toInt64) (gI g 0).toInt64) (gI g 1).toInt64) (gI g 2).toInt64) (gI g 3).toInt64) (gI g 4).toInt64) (gI g 5).toInt64
def dgC (g : Sg) (h : Int64) : Nat → Int64
  | 0 => h
  | i + 1 => mx (mx (mx (mx (mx (dgC g h i) (gR g 0 i).toInt64) (if gR g 1 i = 0 then 0 else 1)) (gE g i)) (gR g 2 i).toInt64) (gR g 3 i).toInt64
def dgA (g : Sg) (h : Int64) : Nat → Int64
  | 0 => h
  | i + 1 => mx (dgA g h i) (desA i g).toInt64
def dgV (g : Sg) (h : Int64) : Nat → Int64
  | 0 => h
  | i + 1 => mx (dgV g h i) ((gV g).getD i 0).toInt64
def dgB (g : Sg) (h : Int64) : Nat → Int64
  | 0 => h
  | i + 1 => mx (dgB g h i) (gR g 7 i).toInt64
def dg1 (g : Sg) : Int64 := mx (dgC g (dgS g) (gN g 0)) (nI (gN g 1)).toInt64
def dg2 (g : Sg) : Int64 := mx (dgA g (dg1 g) (gN g 1)) (nI (gV g).length).toInt64
def dg3 (g : Sg) : Int64 := dgV g (dg2 g) (min (gV g).length 16)
def dg4 (g : Sg) : Int64 := mx (mx (mx (mx (dg3 g) (seB 10 1 g).toInt64) (seB 10 2 g).toInt64) (prB 0 20 12 g)) (prB 1 20 12 g)
def sp_digest (g : Sg) : Int64 := dgB g (mx (dg4 g) (nI (gN g 2)).toInt64) (gN g 2)
theorem dg4_eq {g : Sg} {u d U B : Nat} (h : Par g u d U B) : dg4 g = mx (mx (mx (mx (dg3 g) (seqR u d U B 10 1).toInt64) (seqR u d U B 10 2).toInt64) (chN (pOf 20) (qOf 20) u d (59 + U - B) (59 - B) 12).2.1.toInt64) (chN (pOf 20) (qOf 20) u d (59 + U - B) (59 - B) 12).2.2.toInt64 := by
  unfold dg4
  rw [seB_eq h, seB_eq h, prB_eq h, prB_eq h]
  rfl
section NEW
variable {p : Program} {l : Launch} {e : Env} {R : Room} {s : State} {m : MethodId} {args : Array Value} {below : List Frame} {meth : Method} {c : Code} {H H0 : Heap} {locs : List Loc} {cells slots : Nat} {Q : State → Prop} {cc : ByteArray} {pc nL : Nat} {ls : Array Slot} {rest : List Value} {D : va_G} {kA : Nat → ClassId} {A : Nat → Prop} {ws : va_W} {own : String} {n : Nat}
theorem n_int (F : CallFix p m c cc nL s args wsG own) (hK : KK D kA s) (hw : Cond.arrayClass .int ∈ wsG) (hP : va_P D vwCl ws H) (hD : va_D A ws) (hS : va_S A H0 H locs) (hA : ∀ q, H0.size ≤ q → A q) (hn : n < 2 ^ 20) (hc : cells + 1 ≤ R.cells) (hs : slots + n ≤ R.slots) (hdg : decode cc pc = .ok (.newarray .int, 2))
    (kk : ∀ (q : Nat) (H1 : Heap), va_P D vwCl (ws ++ [(q, .inl (kA 0, n, .inl (fun _ => 0)))]) H1 → va_D A (ws ++ [(q, .inl (kA 0, n, .inl (fun _ => 0)))]) → va_S A H0 H1 locs → W p l e R s m args below meth c H1 locs (cells + 1) (slots + n) Q (F0 m (pc + 2) ls (.ref q :: rest))) : W p l e R s m args below meth c H locs cells slots Q (F0 m pc ls (.int (nI n) :: rest)) := by
  refine va_newa (atype := .int) (ty := .int) (N' := n) (a0 := (n, .inl (fun _ => 0))) F.1 F.2.1 (F.2.2.2.2 _ hw) rfl hK.1 hP hD hS hA (fun _ => rfl) (nI_pos (by omega)) (nI_clamp (by omega)) (by show n * 4 ≤ _; omega) hc hs hdg (fun q cA H1 hK1 hP1 hD1 hS1 => ?_)
  have e1 := (hK1.2 5 (cA, .int) rfl).2
  have e2 := (hK.1.2 0 (kA 0, .int) rfl).2
  obtain rfl : kA 0 = cA := Option.some.inj (e2.symm.trans e1)
  exact kk q H1 hP1 hD1 hS1
theorem n_bool (F : CallFix p m c cc nL s args wsG own) (hK : KK D kA s) (hw : Cond.arrayClass .boolean ∈ wsG) (hP : va_P D vwCl ws H) (hD : va_D A ws) (hS : va_S A H0 H locs) (hA : ∀ q, H0.size ≤ q → A q) (hn : n < 2 ^ 20) (hc : cells + 1 ≤ R.cells) (hs : slots + n ≤ R.slots) (hdg : decode cc pc = .ok (.newarray .boolean, 2))
    (kk : ∀ (q : Nat) (H1 : Heap), va_P D vwCl (ws ++ [(q, .inl (kA 1, n, .inl (fun _ => 0)))]) H1 → va_D A (ws ++ [(q, .inl (kA 1, n, .inl (fun _ => 0)))]) → va_S A H0 H1 locs → W p l e R s m args below meth c H1 locs (cells + 1) (slots + n) Q (F0 m (pc + 2) ls (.ref q :: rest))) : W p l e R s m args below meth c H locs cells slots Q (F0 m pc ls (.int (nI n) :: rest)) := by
  refine va_newa (atype := .boolean) (ty := .boolean) (N' := n) (a0 := (n, .inl (fun _ => 0))) F.1 F.2.1 (F.2.2.2.2 _ hw) rfl hK.1 hP hD hS hA (fun _ => rfl) (nI_pos (by omega)) (nI_clamp (by omega)) (by show n * 1 ≤ _; omega) hc hs hdg (fun q cA H1 hK1 hP1 hD1 hS1 => ?_)
  have e1 := (hK1.2 5 (cA, .boolean) rfl).2
  have e2 := (hK.1.2 1 (kA 1, .boolean) rfl).2
  obtain rfl : kA 1 = cA := Option.some.inj (e2.symm.trans e1)
  exact kk q H1 hP1 hD1 hS1
theorem n_long (F : CallFix p m c cc nL s args wsG own) (hK : KK D kA s) (hw : Cond.arrayClass .long ∈ wsG) (hP : va_P D vwCl ws H) (hD : va_D A ws) (hS : va_S A H0 H locs) (hA : ∀ q, H0.size ≤ q → A q) (hn : n < 2 ^ 20) (hc : cells + 1 ≤ R.cells) (hs : slots + n ≤ R.slots) (hdg : decode cc pc = .ok (.newarray .long, 2))
    (kk : ∀ (q : Nat) (H1 : Heap), va_P D vwCl (ws ++ [(q, .inl (kA 2, n, .inr (.inl (fun _ => 0))))]) H1 → va_D A (ws ++ [(q, .inl (kA 2, n, .inr (.inl (fun _ => 0))))]) → va_S A H0 H1 locs → W p l e R s m args below meth c H1 locs (cells + 1) (slots + n) Q (F0 m (pc + 2) ls (.ref q :: rest))) : W p l e R s m args below meth c H locs cells slots Q (F0 m pc ls (.int (nI n) :: rest)) := by
  refine va_newa (atype := .long) (ty := .long) (N' := n) (a0 := (n, .inr (.inl (fun _ => 0)))) F.1 F.2.1 (F.2.2.2.2 _ hw) rfl hK.1 hP hD hS hA (fun _ => rfl) (nI_pos (by omega)) (nI_clamp (by omega)) (by show n * 8 ≤ _; omega) hc hs hdg (fun q cA H1 hK1 hP1 hD1 hS1 => ?_)
  have e1 := (hK1.2 5 (cA, .long) rfl).2
  have e2 := (hK.1.2 2 (kA 2, .long) rfl).2
  obtain rfl : kA 2 = cA := Option.some.inj (e2.symm.trans e1)
  exact kk q H1 hP1 hD1 hS1
theorem n_double (F : CallFix p m c cc nL s args wsG own) (hK : KK D kA s) (hw : Cond.arrayClass .double ∈ wsG) (hP : va_P D vwCl ws H) (hD : va_D A ws) (hS : va_S A H0 H locs) (hA : ∀ q, H0.size ≤ q → A q) (hn : n < 2 ^ 20) (hc : cells + 1 ≤ R.cells) (hs : slots + n ≤ R.slots) (hdg : decode cc pc = .ok (.newarray .double, 2))
    (kk : ∀ (q : Nat) (H1 : Heap), va_P D vwCl (ws ++ [(q, .inl (kA 3, n, .inr (.inr (.inr (.inl (fun _ => 0))))))]) H1 → va_D A (ws ++ [(q, .inl (kA 3, n, .inr (.inr (.inr (.inl (fun _ => 0))))))]) → va_S A H0 H1 locs → W p l e R s m args below meth c H1 locs (cells + 1) (slots + n) Q (F0 m (pc + 2) ls (.ref q :: rest))) : W p l e R s m args below meth c H locs cells slots Q (F0 m pc ls (.int (nI n) :: rest)) := by
  refine va_newa (atype := .double) (ty := .double) (N' := n) (a0 := (n, .inr (.inr (.inr (.inl (fun _ => 0)))))) F.1 F.2.1 (F.2.2.2.2 _ hw) rfl hK.1 hP hD hS hA (fun _ => rfl) (nI_pos (by omega)) (nI_clamp (by omega)) (by show n * 8 ≤ _; omega) hc hs hdg (fun q cA H1 hK1 hP1 hD1 hS1 => ?_)
  have e1 := (hK1.2 5 (cA, .double) rfl).2
  have e2 := (hK.1.2 3 (kA 3, .double) rfl).2
  obtain rfl : kA 3 = cA := Option.some.inj (e2.symm.trans e1)
  exact kk q H1 hP1 hD1 hS1
end NEW
/-- the state of a new object -/
def gN0 : Sg := ((fun k => if k = 0 then 8 else 0), (fun k => if k = 0 then 3 else if k = 1 then 2 else if k = 2 then 12 else if k = 3 then (-8) else if k = 4 then 3 else 0), (fun _ _ => 0), (fun _ => 0), [])
def zN0 : Zm := ((fun _ => 0), (fun _ _ => 0), (fun _ _ => 0), (fun _ => 0), 0)
