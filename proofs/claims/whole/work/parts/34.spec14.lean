theorem KK_start {s : State} {args : Array Value} (hts : ∀ w ∈ lw_tbl, w.before args s = true) : ∃ (D : va_G) (kA : Nat → ClassId), KK D kA s := by
  have hw : ∀ w ∈ wsG, w.before args s = true := fun w h => hts w (List.mem_filter.mp h).1
  obtain ⟨c0, i0, k0⟩ := u_known (C := RX0) (T := TX0) (N := 5) (n := 5) hw inX0 (hw _ gw_86)
  obtain ⟨c1, i1, k1⟩ := u_known (C := RX1) (T := TX1) (N := 2) (n := 2) hw inX1 (hw _ gw_194)
  obtain ⟨c2, i2, k2⟩ := u_known (C := RX2) (T := TX2) (N := 4) (n := 4) hw inX2 (hw _ gw_157)
  obtain ⟨c3, i3, k3⟩ := u_known (C := RX3) (T := TX3) (N := 2) (n := 2) hw inX3 (hw _ gw_180)
  obtain ⟨c4, i4, k4⟩ := u_known (C := RX4) (T := TX4) (N := 9) (n := 9) hw inX4 (hw _ gw_113)
  obtain ⟨c5, i5, k5⟩ := u_known (C := RX5) (T := TX5) (N := 8) (n := 8) hw inX5 (hw _ gw_77)
  obtain ⟨c6, i6, k6⟩ := u_known (C := RX6) (T := TX6) (N := 27) (n := 27) hw inX6 (hw _ gw_571)
  obtain ⟨a0, q0, m0, f0, g0, h0⟩ := Cond.arrayClass_spec (hw _ gw_154)
  obtain ⟨a1, q1, m1, f1, g1, h1⟩ := Cond.arrayClass_spec (hw _ gw_658)
  obtain ⟨a2, q2, m2, f2, g2, h2⟩ := Cond.arrayClass_spec (hw _ gw_659)
  obtain ⟨a3, q3, m3, f3, g3, h3⟩ := Cond.arrayClass_spec (hw _ gw_155)
  have hao := hts _ ow_85
  obtain ⟨m4, a4, q4, e4, -, g4, h4, f4⟩ := Cond.arrayOver_spec hao
  refine ⟨(fun k => if k = 0 then c0 else if k = 1 then c1 else if k = 2 then c2 else if k = 3 then c3 else if k = 4 then c4 else if k = 5 then c5 else c6, fun k => if k = 0 then i0 else if k = 1 then i1 else if k = 2 then i2 else if k = 3 then i3 else if k = 4 then i4 else if k = 5 then i5 else i6), fun k => if k = 0 then a0 else if k = 1 then a1 else if k = 2 then a2 else if k = 3 then a3 else a4, ⟨?_, ?_⟩, ?_, ?_⟩
  · intro k q hq
    match k, hq with
    | 0, hq => cases hq; exact k0
    | 1, hq => cases hq; exact k1
    | 2, hq => cases hq; exact k2
    | 3, hq => cases hq; exact k3
    | 4, hq => cases hq; exact k4
    | 5, hq => cases hq; exact k5
    | 6, hq => cases hq; exact k6
    | k + 7, hq => simp [vwCl] at hq
  · intro k q hq
    match k, hq with
    | 0, hq => cases hq; exact ⟨fun n z => ⟨fun k h => (by cases h), q0, g0, m0, h0⟩, f0⟩
    | 1, hq => cases hq; exact ⟨fun n z => ⟨fun k h => (by cases h), q1, g1, m1, h1⟩, f1⟩
    | 2, hq => cases hq; exact ⟨fun n z => ⟨fun k h => (by cases h), q2, g2, m2, h2⟩, f2⟩
    | 3, hq => cases hq; exact ⟨fun n z => ⟨fun k h => (by cases h), q3, g3, m3, h3⟩, f3⟩
    | 4, hq => cases hq; exact ⟨fun n z => ⟨fun k h => (by cases h), q4, g4, m4, h4⟩, q4, m4, g4, h4, e4, f4⟩
    | k + 5, hq => simp [dTy] at hq
  · intro w h
    exact va_Nw.of (nw_onT (List.mem_filter.mp h).2) (hts w (List.mem_filter.mp h).1)
  · exact va_AO.of hao
def Nx (g h : Sg) : Prop := Inv h ∧ (gV h).length + gN h 1 ≤ (gV g).length + gN g 1 + 10
theorem Nx.rf {g : Sg} (h : Inv g) : Nx g g := ⟨h, by omega⟩
theorem inv_kp {g h : Sg} (hI : Inv g) (k : Kp g h) (hv : (gV h).length < 2 ^ 30) : Inv h := by
  obtain ⟨a, b, c, d, e, f, i, j, -⟩ := hI
  obtain ⟨k1, k2, k3, k4, -, k6⟩ := k
  refine ⟨by rw [k1]; exact a, by omega, by rw [k2]; exact c, by rw [k4]; exact d, by rw [k4]; exact e, by rw [k4]; exact f, by rw [k4]; exact i, k6 j, hv⟩
theorem nx_kp {g h : Sg} (hI : Inv g) (hb : (gV g).length + gN g 1 < 2 ^ 29) (k : Kp g h) (hl : (gV h).length + gN h 1 ≤ (gV g).length + gN g 1 + 10) : Nx g h := ⟨inv_kp hI k (by omega), hl⟩
theorem nx_conf {g : Sg} (hI : Inv g) (a b c d : Int32) : Nx g (sp_configure a b c d g).2 := by
  unfold sp_configure
  split
  · rename_i h
    obtain ⟨x1, x2, x3, x4, x5, x6, x7, x8, x9⟩ := hI
    refine ⟨⟨x1, by show 0 ≤ 12; omega, x3, h.1, h.2.1, h.2.2.1, h.2.2.2, fun k hk => absurd hk (Nat.not_lt_zero _), by show 0 < 2 ^ 30; omega⟩, ?_⟩
    show 0 + 0 ≤ _
    omega
  · exact Nx.rf hI
theorem nx_setc {g : Sg} (hI : Inv g) (a : Int32) : Nx g (sp_setCells a g).2 := by
  unfold sp_setCells
  split
  · rename_i h
    obtain ⟨j, hj, rfl⟩ := nat_of (n := 8) (by decide) (Int32.le_trans (by decide) h.1) h.2
    have hj1 := (nI_leI (a := 1) (by decide) (by omega)).mp h.1
    obtain ⟨x1, x2, x3, x4, x5, x6, x7, x8, x9⟩ := hI
    refine ⟨⟨?_, by show 0 ≤ 12; omega, x3, x4, x5, x6, x7, fun k hk => absurd hk (Nat.not_lt_zero _), by show 0 < 2 ^ 30; omega⟩, ?_⟩
    · show 1 ≤ (nI j).toNatClampNeg ∧ (nI j).toNatClampNeg ≤ 8
      rw [nI_clamp (by omega)]
      exact ⟨hj1, hj⟩
    · show 0 + 0 ≤ _
      omega
  · exact Nx.rf hI
theorem nx_sett {g : Sg} (hI : Inv g) (a : Int32) : Nx g (sp_setTimeout a g).2 := by
  unfold sp_setTimeout
  split
  · exact ⟨hI, by show (gV g).length + gN g 1 ≤ _; omega⟩
  · exact Nx.rf hI
theorem nx_conN {g : Sg} (hI : Inv g) (hb : (gV g).length + gN g 1 < 2 ^ 29) (s d : Nat) (b : Int32) : Nx g (sp_connectNow s d b g).2 := by
  obtain ⟨k, h⟩ := kp_connectNow s d b g
  exact nx_kp hI hb k (by have := k.2.2.1; omega)
theorem nx_con {g : Sg} (hI : Inv g) (hb : (gV g).length + gN g 1 < 2 ^ 29) (s d b : Int32) : Nx g (sp_connect s d b g).2 := by
  unfold sp_connect
  split
  · split
    · exact nx_conN hI hb _ _ _
    · exact Nx.rf hI
  · exact Nx.rf hI
theorem nx_att {g : Sg} (hI : Inv g) (hb : (gV g).length + gN g 1 < 2 ^ 29) (s d : Int32) : Nx g (sp_attempt s d g).2 := by
  unfold sp_attempt
  split
  · rename_i hs
    split
    · unfold sp_attemptNow
      split
      · split
        · exact Nx.rf hI
        · split
          · exact Nx.rf hI
          · rename_i h12
            obtain ⟨j, hj, rfl⟩ := nat_of (n := 7) (by decide) hs.1 hs.2
            obtain ⟨x1, x2, x3, x4, x5, x6, x7, x8, x9⟩ := hI
            refine ⟨⟨x1, by show gN g 1 + 1 ≤ 12; omega, x3, x4, x5, x6, x7, ?_, x9⟩, by show (gV g).length + (gN g 1 + 1) ≤ _; omega⟩
            intro k hk
            have hk2 : k < gN g 1 + 1 := hk
            show ∃ s, s < 8 ∧ upd (gR g 4) (gN g 1) (nI (nI j).toNatClampNeg) k = nI s
            by_cases hq : k = gN g 1
            · subst hq
              exact ⟨j, by omega, by rw [pk_us, nI_clamp (by omega)]⟩
            · rw [pk_un hq]
              exact x8 k (by omega)
      · exact ⟨hI, by show (gV g).length + gN g 1 ≤ _; omega⟩
    · exact Nx.rf hI
  · exact Nx.rf hI
theorem nx_ans {g : Sg} (hI : Inv g) (hb : (gV g).length + gN g 1 < 2 ^ 29) (s d : Int32) : Nx g (sp_answer s d g).2 := by
  unfold sp_answer
  split
  · exact Nx.rf hI
  · rename_i k h
    have hk : k < gN g 1 := (fi_lt h).1
    obtain ⟨a, e, -⟩ := kp_settle (s.toNatClampNeg % gN g 0) 1 (sp_drop k g)
    have h3 : gN (sp_settle (s.toNatClampNeg % gN g 0) 1 (sp_drop k g)).2 1 ≤ gN g 1 - 1 := a.2.2.1
    have h4 : (gV (sp_settle (s.toNatClampNeg % gN g 0) 1 (sp_drop k g)).2).length ≤ (gV g).length + 1 := e
    exact nx_kp hI hb ((kp_drop hk).trans a) (by omega)
theorem inv_adL : ∀ (n f : Nat) (g : Sg), Inv g → (gV g).length + gN g 1 < 2 ^ 29 → Inv (adL n f g).2 ∧ (gV (adL n f g).2).length + gN (adL n f g).2 1 ≤ (gV g).length + gN g 1
  | 0, _, g, hI, _ => ⟨hI, Nat.le_refl _⟩
  | n + 1, f, g, hI, hb => by
    obtain ⟨k, h⟩ := kp_tick g
    have hI2 : Inv (sp_tick g).2 := inv_kp (g := sI g 5 (gI g 5 + 1)) hI k (by omega)
    obtain ⟨a, b⟩ := inv_adL n (f + (sp_tick g).1) (sp_tick g).2 hI2 (by omega)
    exact ⟨a, Nat.le_trans b h⟩
theorem nx_adv {g : Sg} (hI : Inv g) (hb : (gV g).length + gN g 1 < 2 ^ 29) (t : Int32) : Nx g (sp_advance t g).2 := by
  unfold sp_advance
  split
  · obtain ⟨a, b⟩ := inv_adL t.toNatClampNeg 0 g hI hb
    exact ⟨a, Nat.le_trans b (Nat.le_add_right _ _)⟩
  · exact Nx.rf hI
theorem nx_unb {g : Sg} (hI : Inv g) (t : Int32) : Nx g (sp_unblock t g).2 := by
  unfold sp_unblock
  split
  · split
    · exact Nx.rf hI
    · exact ⟨hI, by show (gV g).length + gN g 1 ≤ _; omega⟩
  · exact Nx.rf hI
theorem nx_app {g : Sg} (hI : Inv g) (t : Int32) : Nx g (sp_append t g).2 := by
  unfold sp_append
  split
  · split
    · exact Nx.rf hI
    · rename_i h
      obtain ⟨x1, x2, x3, x4⟩ := hI
      exact ⟨⟨x1, x2, by show gN g 2 + 1 ≤ 59; omega, x4⟩, by show (gV g).length + gN g 1 ≤ _; omega⟩
  · exact Nx.rf hI
theorem nx_clr {g : Sg} (hI : Inv g) : Nx g (sp_clear g).2 := by
  obtain ⟨x1, x2, x3, x4⟩ := hI
  exact ⟨⟨x1, x2, by show 0 ≤ 59; omega, x4⟩, by show (gV g).length + gN g 1 ≤ _; omega⟩
theorem inv_rnL : ∀ (n i k : Nat) (g : Sg), Inv g → (gV g).length + gN g 1 + n < 2 ^ 29 → Inv (rnL n i k g).2 ∧ (gV (rnL n i k g).2).length + gN (rnL n i k g).2 1 ≤ (gV g).length + gN g 1 + n
  | 0, _, _, g, hI, _ => ⟨hI, by show _ ≤ (gV g).length + gN g 1 + 0; exact Nat.le_refl _⟩
  | n + 1, i, k, g, hI, hb => by
    obtain ⟨kp, h⟩ := kp_connectNow (srcN (gR g 7) i) (dstN (gR g 7) i) (sucI (gR g 7) i) g
    have h9 := kp.2.2.1
    have hI2 := inv_kp hI kp (by omega)
    obtain ⟨a, b⟩ := inv_rnL n (i + 6) (k + if (sp_connectNow (srcN (gR g 7) i) (dstN (gR g 7) i) (sucI (gR g 7) i) g).1 < 3 then 1 else 0) (sp_connectNow (srcN (gR g 7) i) (dstN (gR g 7) i) (sucI (gR g 7) i) g).2 hI2 (by omega)
    exact ⟨a, Nat.le_trans b (by omega)⟩
theorem nx_run {g : Sg} (hI : Inv g) (hb : (gV g).length + gN g 1 < 2 ^ 28) : Nx g (sp_run g).2 := by
  unfold sp_run
  split
  · have hn : (gN g 2 + 1) / 6 ≤ 10 := by
      have := hI.2.2.1
      omega
    obtain ⟨a, b⟩ := inv_rnL ((gN g 2 + 1) / 6) 0 0 g hI (by omega)
    obtain ⟨x1, x2, x3, x4⟩ := a
    exact ⟨⟨x1, x2, by show 0 ≤ 59; omega, x4⟩, by show (gV (rnL ((gN g 2 + 1) / 6) 0 0 g).2).length + gN (rnL ((gN g 2 + 1) / 6) 0 0 g).2 1 ≤ _; omega⟩
  · exact Nx.rf hI
theorem sw_all (x : Int32) : x = 0 ∨ x = 1 ∨ x = 2 ∨ x = 3 ∨ x = 4 ∨ x = 5 ∨ x = 6 ∨ x = 7 ∨ x = 8 ∨ x = 9 ∨ x = 10 ∨ x = 11 ∨ x = 12 ∨ x = 13 ∨ x = 14 ∨ x = 15 ∨ x = 16 ∨ x = 17 ∨ x = 18 ∨ x = 19 ∨ x = 20 ∨ x = 21 ∨ x = 22 ∨ x = 23 ∨ x = 24 ∨ x = 25 ∨ x = 26 ∨ (x.toInt < 0 ∨ 26 < x.toInt) := by
  have key : ∀ n : Nat, x.toInt = (n : Int) → n < 27 → x = nI n := fun n h hn => Int32.toInt_inj.mp (by rw [h, nI_toInt (by omega)])
  by_cases h : x.toInt < 0 ∨ 26 < x.toInt
  · simp only [h, or_true]
  · obtain ⟨n, hn⟩ : ∃ n : Nat, x.toInt = (n : Int) := ⟨x.toInt.toNat, by omega⟩
    have hx := key n hn (by omega)
    have : n < 27 := by omega
    subst hx
    revert this
    clear h hn key
    revert n
    decide +kernel
theorem lcond {i L : Nat} (hi : i < 2 ^ 20) (hL : L < 2 ^ 20) : nI L - 5 < nI i ↔ L < i + 5 := by
  have a : (nI L).toInt = (L : Int) := nI_toInt (by omega)
  have b : (5 : Int32).toInt = 5 := rfl
  rw [Int32.lt_iff_toInt_lt, fb_subI (by rw [a, b]; omega) (by rw [a, b]; omega), a, b, nI_toInt (by omega)]
  omega
theorem dfX6 : ∀ j, j < 27 → defaultValue (tyX6 j) = vp_V [.int 0, .int 0, .int 0, .int 0, .int 0, .int 0, .int 0, .null, .null, .null, .null, .null, .int 0, .null, .null, .null, .int 0, .null, .int 0, .null, .null, .null, .null, .null, .double 0, .double 0, .long 0] j := by
  intro j hj
  rcases (show j = 0 ∨ j = 1 ∨ j = 2 ∨ j = 3 ∨ j = 4 ∨ j = 5 ∨ j = 6 ∨ j = 7 ∨ j = 8 ∨ j = 9 ∨ j = 10 ∨ j = 11 ∨ j = 12 ∨ j = 13 ∨ j = 14 ∨ j = 15 ∨ j = 16 ∨ j = 17 ∨ j = 18 ∨ j = 19 ∨ j = 20 ∨ j = 21 ∨ j = 22 ∨ j = 23 ∨ j = 24 ∨ j = 25 ∨ j = 26 by omega) with rfl | rfl | rfl | rfl | rfl | rfl | rfl | rfl | rfl | rfl | rfl | rfl | rfl | rfl | rfl | rfl | rfl | rfl | rfl | rfl | rfl | rfl | rfl | rfl | rfl | rfl | rfl <;> rfl
theorem s_ld {p : Program} {l : Launch} {e : Env} {R : Room} {s : State} {m : MethodId} {args : Array Value} {below : List Frame} {meth : Method} {c : Code} {H : Heap} {locs : List Loc} {cells slots : Nat} {Q : State → Prop} {cc : ByteArray} {pc : Nat} {ls : Array Slot} {rest : List Value} {A : Nat → Prop} (hexec : p.tables.exec = Jvm.exec) (hb : c.code = cc) {b L : Nat} {xs : Nat → Int32} (hX : va_X b L xs s s.heap) (hbl : b < s.heap.size) (hbA : ¬ A b) (hS : va_S A s.heap H locs) {j : Nat} (hj : j < L) (hL : L ≤ 2560) (hdg : decode cc pc = .ok (.iaload, 1))
    (kk : W p l e R s m args below meth c H locs cells slots Q (F0 m (pc + 1) ls (.int (xs j) :: rest))) : W p l e R s m args below meth c H locs cells slots Q (F0 m pc ls (.int (nI j) :: .ref b :: rest)) :=
  va_sld hexec hb hX hbl hbA hS (vp_in_nI hj (by omega)) hdg (by rw [nI_clamp (by omega)]; exact kk)
def SV (g h : Sg) : Prop := gV h = gV g ∨ gV h = []
theorem rgx_sv {g h : Sg} {L : Nat → Int32} (hr : RgX (gV g) L) (hs : SV g h) : RgX (gV h) L := by
  rcases hs with e | e
  · rw [e]; exact hr
  · rw [e]; exact fun b h1 h2 => absurd h2 (Nat.not_lt_zero _)
theorem rgm_sv {g h : Sg} {L : Nat → Int32} (hr : RgM (gV g) L) (hs : SV g h) : RgM (gV h) L := by
  rcases hs with e | e
  · rw [e]; exact hr
  · rw [e]; exact fun b h1 h2 => absurd h2 (Nat.not_lt_zero _)
theorem sv_conf (g : Sg) (a b c d : Int32) : SV g (sp_configure a b c d g).2 := by
  unfold sp_configure; split
  · exact Or.inr rfl
  · exact Or.inl rfl
theorem sv_setc (g : Sg) (a : Int32) : SV g (sp_setCells a g).2 := by
  unfold sp_setCells; split
  · exact Or.inr rfl
  · exact Or.inl rfl
theorem sv_sett (g : Sg) (a : Int32) : SV g (sp_setTimeout a g).2 := by
  unfold sp_setTimeout; split <;> exact Or.inl rfl
theorem sv_att (g : Sg) (a b : Int32) : SV g (sp_attempt a b g).2 := by
  unfold sp_attempt sp_attemptNow
  split
  · split
    · split
      · split
        · exact Or.inl rfl
        · split <;> exact Or.inl rfl
      · exact Or.inl rfl
    · exact Or.inl rfl
  · exact Or.inl rfl
theorem sv_unb (g : Sg) (a : Int32) : SV g (sp_unblock a g).2 := by
  unfold sp_unblock
  split
  · split <;> exact Or.inl rfl
  · exact Or.inl rfl
theorem sv_app (g : Sg) (a : Int32) : SV g (sp_append a g).2 := by
  unfold sp_append
  split
  · split <;> exact Or.inl rfl
  · exact Or.inl rfl
theorem sv_clr (g : Sg) : SV g (sp_clear g).2 := Or.inl rfl
