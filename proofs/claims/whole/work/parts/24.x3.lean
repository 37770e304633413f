set_option maxRecDepth 100000 in
set_option maxHeartbeats 4000000 in
theorem kX4_startChances (l : Launch) (D : va_G) (kA : Nat → ClassId) (sz : Nat) (a0 a1 a2 a3 a4 : Nat) (xu xd hi lo xw : Int32) (f0 f1 : Nat → Int32) (d0 d1 : Nat → UInt64) (B w : Nat) (hlo : lo = nI B - 60) (hB : B ≤ 59) (hwb : w ≤ 119) : CtV l yX4_startChances cX4_startChances 1 1 0 0 D kA sz (wkW a0 a1 a2 a3 a4 kA xu xd hi lo xw f0 f1 d0 d1) [.ref a0] (fun uu => ∃ e0, XR w e0 (fun i => if i = 59 - B then FP.dconst1 else FP.dconst0) ∧ uu = wkW a0 a1 a2 a3 a4 kA xu xd hi lo xw f0 f1 e0 d1) := by
  subst hlo
  refine ct_v (own := RX4) (by decide) rfl (Nat.le_of_ble_eq_true rfl) ?_
  intro p_ e_ s_ m_ ar_ bw_ me_ co_ A ls Q F hnm hK hA hP hD hS hl hsz rt
  have hx := F.1
  have hb := F.2.1
  have hl : lv_has ls 1 [(0, .ref a0)] := hl
  have hP : va_P D vwCl (wkW a0 a1 a2 a3 a4 kA xu xd hi (nI B - 60) xw f0 f1 d0 d1) s_.heap := hP
  refine lv_aload_n hx hb dX4_startChances_0 rfl (lv_at hl 0 rfl) ?_
  refine g_get F hK hP inX4 0 rfl rfl 7 (by decide) gw_133 rfl (v := .ref a3) rfl dX4_startChances_1 ?_
  refine lv_dconst0 hx hb dX4_startChances_4 ?_
  refine cl_S_v (wc := (arD a3 kA 119 d0)) (As := [.ref a3, .double FP.dconst0]) (rest := []) F hK (P_on1 3 hP rfl) (D_on1 3 hD rfl) hS hA (kJ7_fill_7f8df l D kA _ a3 119 d0 FP.dconst0 (by decide)) gw_503 gw_73 gw_501 gw_502 hdJ7_fill_7f8df ⟨Nat.le_of_ble_eq_true rfl, Nat.le_of_ble_eq_true rfl⟩ hl.1 rfl (Nat.le_of_ble_eq_true rfl) dX4_startChances_5 ⟨Nat.le_of_ble_eq_true rfl, Nat.le_of_ble_eq_true rfl⟩ (fun u_5 H locs hw hP1 hD1 hk1 hFc hS => ?_)
  obtain ⟨g9, hg9, rfl⟩ := hw
  have hPD := hp_set (e1 := .inl (kA 3, 119, .inr (.inr (.inr (.inl g9))))) 3 hP hD rfl hk1 hP1
  have hP : va_P D vwCl (wkW a0 a1 a2 a3 a4 kA xu xd hi (nI B - 60) xw f0 f1 g9 d1) H := hPD.1
  have hD : va_D A (wkW a0 a1 a2 a3 a4 kA xu xd hi (nI B - 60) xw f0 f1 g9 d1) := hPD.2
  refine lv_aload_n hx hb dX4_startChances_8 rfl (lv_at hl 0 rfl) ?_
  refine g_get F hK hP inX4 0 rfl rfl 7 (by decide) gw_133 rfl (v := .ref a3) rfl dX4_startChances_9 ?_
  refine lv_aload_n hx hb dX4_startChances_12 rfl (lv_at hl 0 rfl) ?_
  refine cl_V_i (wc := (wkW a0 a1 a2 a3 a4 kA xu xd hi (nI B - 60) xw f0 f1 g9 d1)) (As := []) (rest := [.ref a3]) (b := a0) (C := RX4) F hK hP hD hS hA (kX4_indexOfZero l D kA _ a0 a1 a2 a3 a4 xu xd hi (nI B - 60) xw f0 f1 g9 d1 B rfl hB) gw_472 gw_67 gw_469 gw_471 gw_30 (va_recv hK.1 hP (ci := 4) (q0 := 0) rfl rfl) hdX4_indexOfZero ⟨Nat.le_of_ble_eq_true rfl, Nat.le_of_ble_eq_true rfl⟩ hl.1 rfl (Nat.le_of_ble_eq_true rfl) dX4_startChances_13 ⟨Nat.le_of_ble_eq_true rfl, Nat.le_of_ble_eq_true rfl⟩ (fun r_13 u_13 H locs hw hP1 hD1 hk1 hFc hS => ?_)
  obtain ⟨rfl, rfl⟩ := hw
  have hP : va_P D vwCl (wkW a0 a1 a2 a3 a4 kA xu xd hi (nI B - 60) xw f0 f1 g9 d1) H := hP1
  have hD : va_D A (wkW a0 a1 a2 a3 a4 kA xu xd hi (nI B - 60) xw f0 f1 g9 d1) := hD1.weaken (fun _ _ _ h => hFc _ h)
  refine lv_dconst1 hx hb dX4_startChances_16 ?_
  refine a_dst F hK hP hD hS 3 (f := g9) rfl (j := 59 - B) (by omega) (by decide) dX4_startChances_17 (fun H locs hP hD hS => ?_)
  have hP : va_P D vwCl (wkW a0 a1 a2 a3 a4 kA xu xd hi (nI B - 60) xw f0 f1 (vf_upd g9 (59 - B) FP.dconst1) d1) H := hP
  have hD : va_D A (wkW a0 a1 a2 a3 a4 kA xu xd hi (nI B - 60) xw f0 f1 (vf_upd g9 (59 - B) FP.dconst1) d1) := hD
  exact rt (wkW a0 a1 a2 a3 a4 kA xu xd hi (nI B - 60) xw f0 f1 (vf_upd g9 (59 - B) FP.dconst1) d1) _ _ _ _ hP hD hS dX4_startChances_18 (⟨vf_upd g9 (59 - B) FP.dconst1, XR_0 hwb hg9, rfl⟩)

set_option maxRecDepth 100000 in
set_option maxHeartbeats 4000000 in
theorem kX4_sumOfChances (l : Launch) (D : va_G) (kA : Nat → ClassId) (sz : Nat) (a0 a1 a2 a3 a4 : Nat) (xu xd hi lo xw : Int32) (f0 f1 : Nat → Int32) (d0 d1 : Nat → UInt64) (jp u d w zz n : Nat) (hu : xu = nI u) (hd0 : xd = nI d) (hw0 : xw = nI w) (hj : jp ≤ 100) (hwb : w ≤ 119) (hn : n < 60) (hA0 : XR w d0 (chN (pOf jp) (qOf jp) u d w zz n).1) : CtD l yX4_sumOfChances cX4_sumOfChances 4 .double 0 D kA sz (wkW a0 a1 a2 a3 a4 kA xu xd hi lo xw f0 f1 d0 d1) [.ref a0] (fun r uu => r = acc FP.dadd (fun _ => true) (chN (pOf jp) (qOf jp) u d w zz n).1 FP.dconst0 w ∧ uu = wkW a0 a1 a2 a3 a4 kA xu xd hi lo xw f0 f1 d0 d1) := by
  subst hu
  subst hd0
  subst hw0
  refine ct_d (own := RX4) (by decide) rfl (Nat.le_of_ble_eq_true rfl) ?_
  intro p_ e_ s_ m_ ar_ bw_ me_ co_ A ls Q F hnm hK hA hP hD hS hl hsz rt
  have hx := F.1
  have hb := F.2.1
  have hl : lv_has ls 4 [(0, .ref a0)] := hl
  have hP : va_P D vwCl (wkW a0 a1 a2 a3 a4 kA (nI u) (nI d) hi lo (nI w) f0 f1 d0 d1) s_.heap := hP
  obtain ⟨nS, nQ, nP, nR, nU, nD, nE⟩ := nan_step (r0 := FP.dconst0) (u := u) (d := d) (w := w) (z := zz) (n := n) (K := 0) (pOf_ok hj) (qOf_ok hj) hwb hn (ok_0 _ _ _) (by decide)
  refine lv_dconst0 hx hb dX4_sumOfChances_0 ?_
  refine lv_dstore_n (lv' := [(1, .double FP.dconst0), (0, .ref a0)]) hx hb dX4_sumOfChances_1 rfl hl (by decide) rfl (fun ls hl => ?_)
  refine lv_iconst (v := 0) hx hb dX4_sumOfChances_2 (by decide) ?_
  refine lv_istore_n (lv' := [(3, .int 0), (1, .double FP.dconst0), (0, .ref a0)]) hx hb dX4_sumOfChances_3 rfl hl (by decide) rfl (fun ls hl => ?_)
  have lp_4 : ∀ (n_4 : Nat) (i : Nat), (i ≤ w) → (w - i) < n_4 → ∀ (H : Heap) (locs : List Loc) (ls : Array Slot), va_P D vwCl (wkW a0 a1 a2 a3 a4 kA (nI u) (nI d) hi lo (nI w) f0 f1 d0 d1) H → va_D A (wkW a0 a1 a2 a3 a4 kA (nI u) (nI d) hi lo (nI w) f0 f1 d0 d1) → va_S A s_.heap H locs → lv_has ls 4 [(0, .ref a0), (1, .double (acc FP.dadd (fun _ => true) (chN (pOf jp) (qOf jp) u d w zz n).1 FP.dconst0 i)), (3, .int (nI i))] → W p_ l e_ (rmC 0 0 0) s_ m_ ar_ bw_ me_ co_ H locs 0 0 Q (F0 m_ 4 ls []) := by
    intro n_4
    induction n_4 with
    | zero =>
      intro i hi9 hm_4
      exact absurd hm_4 (Nat.not_lt_zero _)
    | succ n_4 ih_4 =>
      intro i hi9 hm_4 H locs ls hP hD hS hl
      refine lv_iload_n hx hb dX4_sumOfChances_4 rfl (lv_at hl 2 rfl) ?_
      refine lv_aload_n hx hb dX4_sumOfChances_5 rfl (lv_at hl 0 rfl) ?_
      refine g_get F hK hP inX4 0 rfl rfl 4 (by decide) gw_130 rfl (v := .int (nI w)) rfl dX4_sumOfChances_6 ?_
      refine b_ge F (a := i) (b := w) (tgt := 27) dX4_sumOfChances_9 (by decide) (by omega) (by omega) (fun c_9 => ?_) (fun c_9 => ?_)
      · refine lv_dload_n hx hb dX4_sumOfChances_27 rfl (lv_at hl 1 rfl) ?_
        exact rt _ (wkW a0 a1 a2 a3 a4 kA (nI u) (nI d) hi lo (nI w) f0 f1 d0 d1) _ _ _ _ hP hD hS dX4_sumOfChances_28 (⟨by rw [show w = i by omega], rfl⟩)
      · refine lv_dload_n hx hb dX4_sumOfChances_12 rfl (lv_at hl 1 rfl) ?_
        refine lv_aload_n hx hb dX4_sumOfChances_13 rfl (lv_at hl 0 rfl) ?_
        refine g_get F hK hP inX4 0 rfl rfl 7 (by decide) gw_133 rfl (v := .ref a3) rfl dX4_sumOfChances_14 ?_
        refine lv_iload_n hx hb dX4_sumOfChances_17 rfl (lv_at hl 2 rfl) ?_
        refine a_dld F hK hP 3 (f := d0) rfl (j := i) (by omega) (by decide) dX4_sumOfChances_18 ?_
        rw [show (d0 i) = ((chN (pOf jp) (qOf jp) u d w zz n).1 i) from (hA0 i (by omega))]
        refine lv_dadd hx hb dX4_sumOfChances_19 (nS i (by omega)) ?_
        rw [show FP.dadd (acc FP.dadd (fun _ => true) (chN (pOf jp) (qOf jp) u d w zz n).1 FP.dconst0 i) ((chN (pOf jp) (qOf jp) u d w zz n).1 i) = acc FP.dadd (fun _ => true) (chN (pOf jp) (qOf jp) u d w zz n).1 FP.dconst0 (i + 1) from rfl]
        refine lv_dstore_n (lv' := [(1, .double (acc FP.dadd (fun _ => true) (chN (pOf jp) (qOf jp) u d w zz n).1 FP.dconst0 (i + 1))), (0, .ref a0), (3, .int (nI i))]) hx hb dX4_sumOfChances_20 rfl hl (by decide) rfl (fun ls hl => ?_)
        refine lv_iinc (v := nI (i + 1)) (lv' := [(3, .int (nI (i + 1))), (1, .double (acc FP.dadd (fun _ => true) (chN (pOf jp) (qOf jp) u d w zz n).1 FP.dconst0 (i + 1))), (0, .ref a0)]) hx hb dX4_sumOfChances_21 hl (k := 2) rfl (nI_add i 1) (by decide) rfl (fun ls hl => ?_)
        refine lv_goto (tgt := 4) hx hb dX4_sumOfChances_24 (by decide) ?_
        exact ih_4  (i + 1) (by omega) (by omega) _ _ _ hP hD hS (lv_sub hl [2, 1, 0] rfl)
  exact lp_4 _ 0 (Nat.zero_le _) (Nat.lt_succ_self _) _ _ _ hP hD hS (lv_sub hl [2, 1, 0] rfl)

set_option maxRecDepth 100000 in
set_option maxHeartbeats 4000000 in
theorem kX4_stepChances (l : Launch) (D : va_G) (kA : Nat → ClassId) (sz : Nat) (a0 a1 a2 a3 a4 : Nat) (xu xd hi lo xw : Int32) (f0 f1 : Nat → Int32) (d0 d1 : Nat → UInt64) (jp u d w zz n : Nat) (r0 : UInt64) (K : Nat) (hu : xu = nI u) (hd0 : xd = nI d) (hw0 : xw = nI w) (hj : jp ≤ 100) (hwb : w ≤ 119) (hub : u ≤ 9) (hdb : d ≤ 9) (hn : n < 60) (hr0 : Ok 654 K 1554 r0) (hK0 : K ≤ 2 ^ 40) (hA0 : XR w d0 (chN (pOf jp) (qOf jp) u d w zz n).1) : CtD l yX4_stepChances cX4_stepChances 11 .double 1 D kA sz (wkW a0 a1 a2 a3 a4 kA xu xd hi lo xw f0 f1 d0 d1) [.ref a0, .double (pOf jp), .double r0] (fun r uu => r = acc FP.dadd (fun q9 => decide (w ≤ q9 + u)) (fun q9 => FP.dmul ((chN (pOf jp) (qOf jp) u d w zz n).1 q9) (qOf jp)) r0 w ∧ ∃ b1 b2 e0 e1, XR w e0 (chN (pOf jp) (qOf jp) u d w zz (n + 1)).1 ∧ uu = wkW a0 a1 a2 b1 b2 kA xu xd hi lo xw f0 f1 e0 e1) := by
  subst hu
  subst hd0
  subst hw0
  refine ct_d (own := RX4) (by decide) rfl (Nat.le_of_ble_eq_true rfl) ?_
  intro p_ e_ s_ m_ ar_ bw_ me_ co_ A ls Q F hnm hK hA hP hD hS hl hsz rt
  have hx := F.1
  have hb := F.2.1
  have hl : lv_has ls 11 [(0, .ref a0), (1, .double (pOf jp)), (3, .double r0)] := hl
  have hP : va_P D vwCl (wkW a0 a1 a2 a3 a4 kA (nI u) (nI d) hi lo (nI w) f0 f1 d0 d1) s_.heap := hP
  obtain ⟨nS, nQ, nP, nR, nU, nD, nE⟩ := nan_step (r0 := r0) (u := u) (d := d) (w := w) (z := zz) (n := n) (K := K) (pOf_ok hj) (qOf_ok hj) hwb hn hr0 hK0
  refine lv_dconst1 hx hb dX4_stepChances_0 ?_
  refine lv_dload_n hx hb dX4_stepChances_1 rfl (lv_at hl 1 rfl) ?_
  refine lv_dsub hx hb dX4_stepChances_2 (qOf_ok hj).n64 ?_
  rw [show FP.dsub FP.dconst1 (pOf jp) = qOf jp from rfl]
  refine lv_dstore (lv' := [(5, .double (qOf jp)), (0, .ref a0), (1, .double (pOf jp)), (3, .double r0)]) hx hb dX4_stepChances_3 hl (by decide) rfl (fun ls hl => ?_)
  refine lv_dload_n hx hb dX4_stepChances_5 rfl (lv_at hl 3 rfl) ?_
  refine lv_dstore (lv' := [(7, .double r0), (5, .double (qOf jp)), (0, .ref a0), (1, .double (pOf jp)), (3, .double r0)]) hx hb dX4_stepChances_6 hl (by decide) rfl (fun ls hl => ?_)
  refine lv_aload_n hx hb dX4_stepChances_8 rfl (lv_at hl 2 rfl) ?_
  refine g_get F hK hP inX4 0 rfl rfl 8 (by decide) gw_134 rfl (v := .ref a4) rfl dX4_stepChances_9 ?_
  refine lv_astore (lv' := [(9, .ref a4), (7, .double r0), (5, .double (qOf jp)), (0, .ref a0), (1, .double (pOf jp)), (3, .double r0)]) hx hb dX4_stepChances_12 hl (by decide) rfl (fun ls hl => ?_)
  refine lv_aload hx hb dX4_stepChances_14 (lv_at hl 0 rfl) ?_
  refine lv_dconst0 hx hb dX4_stepChances_16 ?_
  refine cl_S_v (wc := (arD a4 kA 119 d1)) (As := [.ref a4, .double FP.dconst0]) (rest := []) F hK (P_on1 4 hP rfl) (D_on1 4 hD rfl) hS hA (kJ7_fill_7f8df l D kA _ a4 119 d1 FP.dconst0 (by decide)) gw_503 gw_73 gw_501 gw_502 hdJ7_fill_7f8df ⟨Nat.le_of_ble_eq_true rfl, Nat.le_of_ble_eq_true rfl⟩ hl.1 rfl (Nat.le_of_ble_eq_true rfl) dX4_stepChances_17 ⟨Nat.le_of_ble_eq_true rfl, Nat.le_of_ble_eq_true rfl⟩ (fun u_17 H locs hw hP1 hD1 hk1 hFc hS => ?_)
  obtain ⟨g9, hg9, rfl⟩ := hw
  have hPD := hp_set (e1 := .inl (kA 3, 119, .inr (.inr (.inr (.inl g9))))) 4 hP hD rfl hk1 hP1
  have hP : va_P D vwCl (wkW a0 a1 a2 a3 a4 kA (nI u) (nI d) hi lo (nI w) f0 f1 d0 g9) H := hPD.1
  have hD : va_D A (wkW a0 a1 a2 a3 a4 kA (nI u) (nI d) hi lo (nI w) f0 f1 d0 g9) := hPD.2
  refine lv_iconst (v := 0) hx hb dX4_stepChances_20 (by decide) ?_
  refine lv_istore (lv' := [(10, .int 0), (9, .ref a4), (7, .double r0), (5, .double (qOf jp)), (0, .ref a0), (1, .double (pOf jp)), (3, .double r0)]) hx hb dX4_stepChances_21 hl (by decide) rfl (fun ls hl => ?_)
  have lp_23 : ∀ (n_23 : Nat) (i : Nat) (g1 : Nat → UInt64), (i ≤ w) → (XR w g1 (scat FP.dadd FP.dconst0 (fun q9 => FP.dmul ((chN (pOf jp) (qOf jp) u d w zz n).1 q9) (qOf jp)) (fun q9 => FP.dmul ((chN (pOf jp) (qOf jp) u d w zz n).1 q9) (pOf jp)) u d w i)) → (w - i) < n_23 → ∀ (H : Heap) (locs : List Loc) (ls : Array Slot), va_P D vwCl (wkW a0 a1 a2 a3 a4 kA (nI u) (nI d) hi lo (nI w) f0 f1 d0 g1) H → va_D A (wkW a0 a1 a2 a3 a4 kA (nI u) (nI d) hi lo (nI w) f0 f1 d0 g1) → va_S A s_.heap H locs → lv_has ls 11 [(0, .ref a0), (1, .double (pOf jp)), (5, .double (qOf jp)), (7, .double (acc FP.dadd (fun q9 => decide (w ≤ q9 + u)) (fun q9 => FP.dmul ((chN (pOf jp) (qOf jp) u d w zz n).1 q9) (qOf jp)) r0 i)), (9, .ref a4), (10, .int (nI i))] → W p_ l e_ (rmC 1 0 0) s_ m_ ar_ bw_ me_ co_ H locs 0 0 Q (F0 m_ 23 ls []) := by
    intro n_23
    induction n_23 with
    | zero =>
      intro i g1 hi9 hR hm_23
      exact absurd hm_23 (Nat.not_lt_zero _)
    | succ n_23 ih_23 =>
      intro i g1 hi9 hR hm_23 H locs ls hP hD hS hl
      refine lv_iload hx hb dX4_stepChances_23 (lv_at hl 5 rfl) ?_
      refine lv_aload_n hx hb dX4_stepChances_25 rfl (lv_at hl 0 rfl) ?_
      refine g_get F hK hP inX4 0 rfl rfl 4 (by decide) gw_130 rfl (v := .int (nI w)) rfl dX4_stepChances_26 ?_
      refine b_ge F (a := i) (b := w) (tgt := 125) dX4_stepChances_29 (by decide) (by omega) (by omega) (fun c_29 => ?_) (fun c_29 => ?_)
      · obtain rfl : w = i := by omega
        have hP : va_P D vwCl ([(a0, .inr (4, [.int (nI u), .int (nI d), .int hi, .int lo, .int (nI w), .ref a1, .ref a2, .ref a3, .ref a4])), (a1, .inl (kA 0, 119, .inl f0)), (a2, .inl (kA 0, 119, .inl f1)), (a3, .inl (kA 3, 119, .inr (.inr (.inr (.inl d0))))), (a4, .inl (kA 3, 119, .inr (.inr (.inr (.inl g1)))))]) H := hP
        have hD : va_D A ([(a0, .inr (4, [.int (nI u), .int (nI d), .int hi, .int lo, .int (nI w), .ref a1, .ref a2, .ref a3, .ref a4])), (a1, .inl (kA 0, 119, .inl f0)), (a2, .inl (kA 0, 119, .inl f1)), (a3, .inl (kA 3, 119, .inr (.inr (.inr (.inl d0))))), (a4, .inl (kA 3, 119, .inr (.inr (.inr (.inl g1)))))]) := hD
        refine lv_aload_n hx hb dX4_stepChances_125 rfl (lv_at hl 0 rfl) ?_
        refine lv_aload_n hx hb dX4_stepChances_126 rfl (lv_at hl 0 rfl) ?_
        refine g_get F hK hP inX4 0 rfl rfl 7 (by decide) gw_133 rfl (v := .ref a3) rfl dX4_stepChances_127 ?_
        refine g_put F hK hP hD hS inX4 tyX4_ok nmX4 0 rfl rfl 8 (by decide) gw_134 rfl rfl rfl rfl (Nat.le_of_ble_eq_true rfl) dX4_stepChances_130 (fun H locs hP hD hS => ?_)
        have hP : va_P D vwCl ([(a0, .inr (4, [.int (nI u), .int (nI d), .int hi, .int lo, .int (nI w), .ref a1, .ref a2, .ref a3, .ref a3])), (a1, .inl (kA 0, 119, .inl f0)), (a2, .inl (kA 0, 119, .inl f1)), (a3, .inl (kA 3, 119, .inr (.inr (.inr (.inl d0))))), (a4, .inl (kA 3, 119, .inr (.inr (.inr (.inl g1)))))]) H := hP
        have hD : va_D A ([(a0, .inr (4, [.int (nI u), .int (nI d), .int hi, .int lo, .int (nI w), .ref a1, .ref a2, .ref a3, .ref a3])), (a1, .inl (kA 0, 119, .inl f0)), (a2, .inl (kA 0, 119, .inl f1)), (a3, .inl (kA 3, 119, .inr (.inr (.inr (.inl d0))))), (a4, .inl (kA 3, 119, .inr (.inr (.inr (.inl g1)))))]) := hD
        refine lv_aload_n hx hb dX4_stepChances_133 rfl (lv_at hl 0 rfl) ?_
        refine lv_aload hx hb dX4_stepChances_134 (lv_at hl 4 rfl) ?_
        refine g_put F hK hP hD hS inX4 tyX4_ok nmX4 0 rfl rfl 7 (by decide) gw_133 rfl rfl rfl rfl (Nat.le_of_ble_eq_true rfl) dX4_stepChances_136 (fun H locs hP hD hS => ?_)
        have hP : va_P D vwCl ([(a0, .inr (4, [.int (nI u), .int (nI d), .int hi, .int lo, .int (nI w), .ref a1, .ref a2, .ref a4, .ref a3])), (a1, .inl (kA 0, 119, .inl f0)), (a2, .inl (kA 0, 119, .inl f1)), (a3, .inl (kA 3, 119, .inr (.inr (.inr (.inl d0))))), (a4, .inl (kA 3, 119, .inr (.inr (.inr (.inl g1)))))]) H := hP
        have hD : va_D A ([(a0, .inr (4, [.int (nI u), .int (nI d), .int hi, .int lo, .int (nI w), .ref a1, .ref a2, .ref a4, .ref a3])), (a1, .inl (kA 0, 119, .inl f0)), (a2, .inl (kA 0, 119, .inl f1)), (a3, .inl (kA 3, 119, .inr (.inr (.inr (.inl d0))))), (a4, .inl (kA 3, 119, .inr (.inr (.inr (.inl g1)))))]) := hD
        have hP := P_perm pm_34 hP
        have hD := D_perm pm_34 hD
        have hP : va_P D vwCl (wkW a0 a1 a2 a4 a3 kA (nI u) (nI d) hi lo (nI w) f0 f1 g1 d0) H := hP
        have hD : va_D A (wkW a0 a1 a2 a4 a3 kA (nI u) (nI d) hi lo (nI w) f0 f1 g1 d0) := hD
        refine lv_dload hx hb dX4_stepChances_139 (lv_at hl 3 rfl) ?_
        exact rt _ (wkW a0 a1 a2 a4 a3 kA (nI u) (nI d) hi lo (nI w) f0 f1 g1 d0) _ _ _ _ hP hD hS dX4_stepChances_141 (⟨rfl, a4, a3, g1, d0, hR, rfl⟩)
      · refine lv_iload hx hb dX4_stepChances_32 (lv_at hl 5 rfl) ?_
        refine lv_aload_n hx hb dX4_stepChances_34 rfl (lv_at hl 0 rfl) ?_
        refine g_get F hK hP inX4 0 rfl rfl 0 (by decide) gw_122 rfl (v := .int (nI u)) rfl dX4_stepChances_35 ?_
        refine n_add F (a := i) (b := u) dX4_stepChances_38 ?_
        refine lv_aload_n hx hb dX4_stepChances_39 rfl (lv_at hl 0 rfl) ?_
        refine g_get F hK hP inX4 0 rfl rfl 4 (by decide) gw_130 rfl (v := .int (nI w)) rfl dX4_stepChances_40 ?_
        refine b_lt F (a := i + u) (b := w) (tgt := 64) dX4_stepChances_43 (by decide) (by omega) (by omega) (fun c_43 => ?_) (fun c_43 => ?_)
        · refine lv_aload hx hb dX4_stepChances_64 (lv_at hl 4 rfl) ?_
          refine lv_iload hx hb dX4_stepChances_66 (lv_at hl 5 rfl) ?_
          refine lv_aload_n hx hb dX4_stepChances_68 rfl (lv_at hl 0 rfl) ?_
          refine g_get F hK hP inX4 0 rfl rfl 0 (by decide) gw_122 rfl (v := .int (nI u)) rfl dX4_stepChances_69 ?_
          refine n_add F (a := i) (b := u) dX4_stepChances_72 ?_
          refine lv_dup2_11 hx hb dX4_stepChances_73 rfl rfl ?_
          refine a_dld F hK hP 4 (f := g1) rfl (j := i + u) (by omega) (by decide) dX4_stepChances_74 ?_
          rw [show (g1 (i + u)) = (scat FP.dadd FP.dconst0 (fun q9 => FP.dmul ((chN (pOf jp) (qOf jp) u d w zz n).1 q9) (qOf jp)) (fun q9 => FP.dmul ((chN (pOf jp) (qOf jp) u d w zz n).1 q9) (pOf jp)) u d w i (i + u)) from (hR (i + u) (by omega))]
          refine lv_aload_n hx hb dX4_stepChances_75 rfl (lv_at hl 0 rfl) ?_
          refine g_get F hK hP inX4 0 rfl rfl 7 (by decide) gw_133 rfl (v := .ref a3) rfl dX4_stepChances_76 ?_
          refine lv_iload hx hb dX4_stepChances_79 (lv_at hl 5 rfl) ?_
          refine a_dld F hK hP 3 (f := d0) rfl (j := i) (by omega) (by decide) dX4_stepChances_81 ?_
          rw [show (d0 i) = ((chN (pOf jp) (qOf jp) u d w zz n).1 i) from (hA0 i (by omega))]
          refine lv_dload hx hb dX4_stepChances_82 (lv_at hl 2 rfl) ?_
          refine lv_dmul hx hb dX4_stepChances_84 (nQ i) ?_
          refine lv_dadd hx hb dX4_stepChances_85 (nU i (by omega) (i + u)) ?_
          refine a_dst F hK hP hD hS 4 (f := g1) rfl (j := i + u) (by omega) (by decide) dX4_stepChances_86 (fun H locs hP hD hS => ?_)
          have hP : va_P D vwCl (wkW a0 a1 a2 a3 a4 kA (nI u) (nI d) hi lo (nI w) f0 f1 d0 (vf_upd g1 (i + u) (FP.dadd (scat FP.dadd FP.dconst0 (fun q9 => FP.dmul ((chN (pOf jp) (qOf jp) u d w zz n).1 q9) (qOf jp)) (fun q9 => FP.dmul ((chN (pOf jp) (qOf jp) u d w zz n).1 q9) (pOf jp)) u d w i (i + u)) (FP.dmul ((chN (pOf jp) (qOf jp) u d w zz n).1 i) (qOf jp))))) H := hP
          have hD : va_D A (wkW a0 a1 a2 a3 a4 kA (nI u) (nI d) hi lo (nI w) f0 f1 d0 (vf_upd g1 (i + u) (FP.dadd (scat FP.dadd FP.dconst0 (fun q9 => FP.dmul ((chN (pOf jp) (qOf jp) u d w zz n).1 q9) (qOf jp)) (fun q9 => FP.dmul ((chN (pOf jp) (qOf jp) u d w zz n).1 q9) (pOf jp)) u d w i (i + u)) (FP.dmul ((chN (pOf jp) (qOf jp) u d w zz n).1 i) (qOf jp))))) := hD
          have hM1 : XR w (vf_upd g1 (i + u) (FP.dadd (scat FP.dadd FP.dconst0 (fun q9 => FP.dmul ((chN (pOf jp) (qOf jp) u d w zz n).1 q9) (qOf jp)) (fun q9 => FP.dmul ((chN (pOf jp) (qOf jp) u d w zz n).1 q9) (pOf jp)) u d w i (i + u)) (FP.dmul ((chN (pOf jp) (qOf jp) u d w zz n).1 i) (qOf jp)))) (sUp FP.dadd (fun q9 => FP.dmul ((chN (pOf jp) (qOf jp) u d w zz n).1 q9) (qOf jp)) u w i (scat FP.dadd FP.dconst0 (fun q9 => FP.dmul ((chN (pOf jp) (qOf jp) u d w zz n).1 q9) (qOf jp)) (fun q9 => FP.dmul ((chN (pOf jp) (qOf jp) u d w zz n).1 q9) (pOf jp)) u d w i)) := XR_up hR (by omega) rfl
          have eR : acc FP.dadd (fun q9 => decide (w ≤ q9 + u)) (fun q9 => FP.dmul ((chN (pOf jp) (qOf jp) u d w zz n).1 q9) (qOf jp)) r0 i = acc FP.dadd (fun q9 => decide (w ≤ q9 + u)) (fun q9 => FP.dmul ((chN (pOf jp) (qOf jp) u d w zz n).1 q9) (qOf jp)) r0 (i + 1) := (acc_f (c := fun q9 => decide (w ≤ q9 + u)) (decide_eq_false (by omega))).symm
          rw [eR] at hl
          refine lv_iload hx hb dX4_stepChances_87 (lv_at hl 5 rfl) ?_
          refine lv_aload_n hx hb dX4_stepChances_89 rfl (lv_at hl 0 rfl) ?_
          refine g_get F hK hP inX4 0 rfl rfl 1 (by decide) gw_124 rfl (v := .int (nI d)) rfl dX4_stepChances_90 ?_
          refine lv_isub hx hb dX4_stepChances_93 ?_
          refine lv_if_lt (tgt := 119) hx hb dX4_stepChances_94 (by decide) (fun c_94 => ?_) (fun c_94 => ?_)
          · have h94 := (sbm (by omega) (by omega)).mp c_94
            refine lv_iinc (v := nI (i + 1)) (lv' := [(10, .int (nI (i + 1))), (0, .ref a0), (1, .double (pOf jp)), (5, .double (qOf jp)), (7, .double (acc FP.dadd (fun q9 => decide (w ≤ q9 + u)) (fun q9 => FP.dmul ((chN (pOf jp) (qOf jp) u d w zz n).1 q9) (qOf jp)) r0 (i + 1))), (9, .ref a4)]) hx hb dX4_stepChances_119 hl (k := 5) rfl (nI_add i 1) (by decide) rfl (fun ls hl => ?_)
            refine lv_goto (tgt := 23) hx hb dX4_stepChances_122 (by decide) ?_
            have hM2 : XR w (vf_upd g1 (i + u) (FP.dadd (scat FP.dadd FP.dconst0 (fun q9 => FP.dmul ((chN (pOf jp) (qOf jp) u d w zz n).1 q9) (qOf jp)) (fun q9 => FP.dmul ((chN (pOf jp) (qOf jp) u d w zz n).1 q9) (pOf jp)) u d w i (i + u)) (FP.dmul ((chN (pOf jp) (qOf jp) u d w zz n).1 i) (qOf jp)))) (scat FP.dadd FP.dconst0 (fun q9 => FP.dmul ((chN (pOf jp) (qOf jp) u d w zz n).1 q9) (qOf jp)) (fun q9 => FP.dmul ((chN (pOf jp) (qOf jp) u d w zz n).1 q9) (pOf jp)) u d w (i + 1)) := XR_dn0 hM1 (by omega)
            exact ih_23  (i + 1) (vf_upd g1 (i + u) (FP.dadd (scat FP.dadd FP.dconst0 (fun q9 => FP.dmul ((chN (pOf jp) (qOf jp) u d w zz n).1 q9) (qOf jp)) (fun q9 => FP.dmul ((chN (pOf jp) (qOf jp) u d w zz n).1 q9) (pOf jp)) u d w i (i + u)) (FP.dmul ((chN (pOf jp) (qOf jp) u d w zz n).1 i) (qOf jp)))) (by omega) hM2 (by omega) _ _ _ hP hD hS (lv_sub hl [1, 2, 3, 4, 5, 0] rfl)
          · have h94 : ¬ i < d := fun h => c_94 ((sbm (by omega) (by omega)).mpr h)
            refine lv_aload hx hb dX4_stepChances_97 (lv_at hl 4 rfl) ?_
            refine lv_iload hx hb dX4_stepChances_99 (lv_at hl 5 rfl) ?_
            refine lv_aload_n hx hb dX4_stepChances_101 rfl (lv_at hl 0 rfl) ?_
            refine g_get F hK hP inX4 0 rfl rfl 1 (by decide) gw_124 rfl (v := .int (nI d)) rfl dX4_stepChances_102 ?_
            refine n_sub F (a := i) (b := d) dX4_stepChances_105 (by omega) ?_
            refine lv_dup2_11 hx hb dX4_stepChances_106 rfl rfl ?_
            refine a_dld F hK hP 4 (f := vf_upd g1 (i + u) (FP.dadd (scat FP.dadd FP.dconst0 (fun q9 => FP.dmul ((chN (pOf jp) (qOf jp) u d w zz n).1 q9) (qOf jp)) (fun q9 => FP.dmul ((chN (pOf jp) (qOf jp) u d w zz n).1 q9) (pOf jp)) u d w i (i + u)) (FP.dmul ((chN (pOf jp) (qOf jp) u d w zz n).1 i) (qOf jp)))) rfl (j := i - d) (by omega) (by decide) dX4_stepChances_107 ?_
            rw [show ((vf_upd g1 (i + u) (FP.dadd (scat FP.dadd FP.dconst0 (fun q9 => FP.dmul ((chN (pOf jp) (qOf jp) u d w zz n).1 q9) (qOf jp)) (fun q9 => FP.dmul ((chN (pOf jp) (qOf jp) u d w zz n).1 q9) (pOf jp)) u d w i (i + u)) (FP.dmul ((chN (pOf jp) (qOf jp) u d w zz n).1 i) (qOf jp)))) (i - d)) = (sUp FP.dadd (fun q9 => FP.dmul ((chN (pOf jp) (qOf jp) u d w zz n).1 q9) (qOf jp)) u w i (scat FP.dadd FP.dconst0 (fun q9 => FP.dmul ((chN (pOf jp) (qOf jp) u d w zz n).1 q9) (qOf jp)) (fun q9 => FP.dmul ((chN (pOf jp) (qOf jp) u d w zz n).1 q9) (pOf jp)) u d w i) (i - d)) from (hM1 (i - d) (by omega))]
            refine lv_aload_n hx hb dX4_stepChances_108 rfl (lv_at hl 0 rfl) ?_
            refine g_get F hK hP inX4 0 rfl rfl 7 (by decide) gw_133 rfl (v := .ref a3) rfl dX4_stepChances_109 ?_
            refine lv_iload hx hb dX4_stepChances_112 (lv_at hl 5 rfl) ?_
            refine a_dld F hK hP 3 (f := d0) rfl (j := i) (by omega) (by decide) dX4_stepChances_114 ?_
            rw [show (d0 i) = ((chN (pOf jp) (qOf jp) u d w zz n).1 i) from (hA0 i (by omega))]
            refine lv_dload_n hx hb dX4_stepChances_115 rfl (lv_at hl 1 rfl) ?_
            refine lv_dmul hx hb dX4_stepChances_116 (nP i) ?_
            refine lv_dadd hx hb dX4_stepChances_117 (nD i (by omega) (i - d)) ?_
            refine a_dst F hK hP hD hS 4 (f := vf_upd g1 (i + u) (FP.dadd (scat FP.dadd FP.dconst0 (fun q9 => FP.dmul ((chN (pOf jp) (qOf jp) u d w zz n).1 q9) (qOf jp)) (fun q9 => FP.dmul ((chN (pOf jp) (qOf jp) u d w zz n).1 q9) (pOf jp)) u d w i (i + u)) (FP.dmul ((chN (pOf jp) (qOf jp) u d w zz n).1 i) (qOf jp)))) rfl (j := i - d) (by omega) (by decide) dX4_stepChances_118 (fun H locs hP hD hS => ?_)
            have hP : va_P D vwCl (wkW a0 a1 a2 a3 a4 kA (nI u) (nI d) hi lo (nI w) f0 f1 d0 (vf_upd (vf_upd g1 (i + u) (FP.dadd (scat FP.dadd FP.dconst0 (fun q9 => FP.dmul ((chN (pOf jp) (qOf jp) u d w zz n).1 q9) (qOf jp)) (fun q9 => FP.dmul ((chN (pOf jp) (qOf jp) u d w zz n).1 q9) (pOf jp)) u d w i (i + u)) (FP.dmul ((chN (pOf jp) (qOf jp) u d w zz n).1 i) (qOf jp)))) (i - d) (FP.dadd (sUp FP.dadd (fun q9 => FP.dmul ((chN (pOf jp) (qOf jp) u d w zz n).1 q9) (qOf jp)) u w i (scat FP.dadd FP.dconst0 (fun q9 => FP.dmul ((chN (pOf jp) (qOf jp) u d w zz n).1 q9) (qOf jp)) (fun q9 => FP.dmul ((chN (pOf jp) (qOf jp) u d w zz n).1 q9) (pOf jp)) u d w i) (i - d)) (FP.dmul ((chN (pOf jp) (qOf jp) u d w zz n).1 i) (pOf jp))))) H := hP
            have hD : va_D A (wkW a0 a1 a2 a3 a4 kA (nI u) (nI d) hi lo (nI w) f0 f1 d0 (vf_upd (vf_upd g1 (i + u) (FP.dadd (scat FP.dadd FP.dconst0 (fun q9 => FP.dmul ((chN (pOf jp) (qOf jp) u d w zz n).1 q9) (qOf jp)) (fun q9 => FP.dmul ((chN (pOf jp) (qOf jp) u d w zz n).1 q9) (pOf jp)) u d w i (i + u)) (FP.dmul ((chN (pOf jp) (qOf jp) u d w zz n).1 i) (qOf jp)))) (i - d) (FP.dadd (sUp FP.dadd (fun q9 => FP.dmul ((chN (pOf jp) (qOf jp) u d w zz n).1 q9) (qOf jp)) u w i (scat FP.dadd FP.dconst0 (fun q9 => FP.dmul ((chN (pOf jp) (qOf jp) u d w zz n).1 q9) (qOf jp)) (fun q9 => FP.dmul ((chN (pOf jp) (qOf jp) u d w zz n).1 q9) (pOf jp)) u d w i) (i - d)) (FP.dmul ((chN (pOf jp) (qOf jp) u d w zz n).1 i) (pOf jp))))) := hD
            refine lv_iinc (v := nI (i + 1)) (lv' := [(10, .int (nI (i + 1))), (0, .ref a0), (1, .double (pOf jp)), (5, .double (qOf jp)), (7, .double (acc FP.dadd (fun q9 => decide (w ≤ q9 + u)) (fun q9 => FP.dmul ((chN (pOf jp) (qOf jp) u d w zz n).1 q9) (qOf jp)) r0 (i + 1))), (9, .ref a4)]) hx hb dX4_stepChances_119 hl (k := 5) rfl (nI_add i 1) (by decide) rfl (fun ls hl => ?_)
            refine lv_goto (tgt := 23) hx hb dX4_stepChances_122 (by decide) ?_
            have hM2 : XR w (vf_upd (vf_upd g1 (i + u) (FP.dadd (scat FP.dadd FP.dconst0 (fun q9 => FP.dmul ((chN (pOf jp) (qOf jp) u d w zz n).1 q9) (qOf jp)) (fun q9 => FP.dmul ((chN (pOf jp) (qOf jp) u d w zz n).1 q9) (pOf jp)) u d w i (i + u)) (FP.dmul ((chN (pOf jp) (qOf jp) u d w zz n).1 i) (qOf jp)))) (i - d) (FP.dadd (sUp FP.dadd (fun q9 => FP.dmul ((chN (pOf jp) (qOf jp) u d w zz n).1 q9) (qOf jp)) u w i (scat FP.dadd FP.dconst0 (fun q9 => FP.dmul ((chN (pOf jp) (qOf jp) u d w zz n).1 q9) (qOf jp)) (fun q9 => FP.dmul ((chN (pOf jp) (qOf jp) u d w zz n).1 q9) (pOf jp)) u d w i) (i - d)) (FP.dmul ((chN (pOf jp) (qOf jp) u d w zz n).1 i) (pOf jp)))) (scat FP.dadd FP.dconst0 (fun q9 => FP.dmul ((chN (pOf jp) (qOf jp) u d w zz n).1 q9) (qOf jp)) (fun q9 => FP.dmul ((chN (pOf jp) (qOf jp) u d w zz n).1 q9) (pOf jp)) u d w (i + 1)) := XR_dn hM1 (by omega) rfl
            exact ih_23  (i + 1) (vf_upd (vf_upd g1 (i + u) (FP.dadd (scat FP.dadd FP.dconst0 (fun q9 => FP.dmul ((chN (pOf jp) (qOf jp) u d w zz n).1 q9) (qOf jp)) (fun q9 => FP.dmul ((chN (pOf jp) (qOf jp) u d w zz n).1 q9) (pOf jp)) u d w i (i + u)) (FP.dmul ((chN (pOf jp) (qOf jp) u d w zz n).1 i) (qOf jp)))) (i - d) (FP.dadd (sUp FP.dadd (fun q9 => FP.dmul ((chN (pOf jp) (qOf jp) u d w zz n).1 q9) (qOf jp)) u w i (scat FP.dadd FP.dconst0 (fun q9 => FP.dmul ((chN (pOf jp) (qOf jp) u d w zz n).1 q9) (qOf jp)) (fun q9 => FP.dmul ((chN (pOf jp) (qOf jp) u d w zz n).1 q9) (pOf jp)) u d w i) (i - d)) (FP.dmul ((chN (pOf jp) (qOf jp) u d w zz n).1 i) (pOf jp)))) (by omega) hM2 (by omega) _ _ _ hP hD hS (lv_sub hl [1, 2, 3, 4, 5, 0] rfl)
        · refine lv_dload hx hb dX4_stepChances_46 (lv_at hl 3 rfl) ?_
          refine lv_aload_n hx hb dX4_stepChances_48 rfl (lv_at hl 0 rfl) ?_
          refine g_get F hK hP inX4 0 rfl rfl 7 (by decide) gw_133 rfl (v := .ref a3) rfl dX4_stepChances_49 ?_
          refine lv_iload hx hb dX4_stepChances_52 (lv_at hl 5 rfl) ?_
          refine a_dld F hK hP 3 (f := d0) rfl (j := i) (by omega) (by decide) dX4_stepChances_54 ?_
          rw [show (d0 i) = ((chN (pOf jp) (qOf jp) u d w zz n).1 i) from (hA0 i (by omega))]
          refine lv_dload hx hb dX4_stepChances_55 (lv_at hl 2 rfl) ?_
          refine lv_dmul hx hb dX4_stepChances_57 (nQ i) ?_
          refine lv_dadd hx hb dX4_stepChances_58 (nR i (by omega)) ?_
          refine lv_dstore (lv' := [(7, .double (FP.dadd (acc FP.dadd (fun q9 => decide (w ≤ q9 + u)) (fun q9 => FP.dmul ((chN (pOf jp) (qOf jp) u d w zz n).1 q9) (qOf jp)) r0 i) (FP.dmul ((chN (pOf jp) (qOf jp) u d w zz n).1 i) (qOf jp)))), (0, .ref a0), (1, .double (pOf jp)), (5, .double (qOf jp)), (9, .ref a4), (10, .int (nI i))]) hx hb dX4_stepChances_59 hl (by decide) rfl (fun ls hl => ?_)
          refine lv_goto (tgt := 87) hx hb dX4_stepChances_61 (by decide) ?_
          have hM1 : XR w g1 (sUp FP.dadd (fun q9 => FP.dmul ((chN (pOf jp) (qOf jp) u d w zz n).1 q9) (qOf jp)) u w i (scat FP.dadd FP.dconst0 (fun q9 => FP.dmul ((chN (pOf jp) (qOf jp) u d w zz n).1 q9) (qOf jp)) (fun q9 => FP.dmul ((chN (pOf jp) (qOf jp) u d w zz n).1 q9) (pOf jp)) u d w i)) := XR_up0 hR (by omega)
          have eR : FP.dadd (acc FP.dadd (fun q9 => decide (w ≤ q9 + u)) (fun q9 => FP.dmul ((chN (pOf jp) (qOf jp) u d w zz n).1 q9) (qOf jp)) r0 i) (FP.dmul ((chN (pOf jp) (qOf jp) u d w zz n).1 i) (qOf jp)) = acc FP.dadd (fun q9 => decide (w ≤ q9 + u)) (fun q9 => FP.dmul ((chN (pOf jp) (qOf jp) u d w zz n).1 q9) (qOf jp)) r0 (i + 1) := (acc_t (add := FP.dadd) (v := (fun q9 => FP.dmul ((chN (pOf jp) (qOf jp) u d w zz n).1 q9) (qOf jp))) (x0 := r0) (c := fun q9 => decide (w ≤ q9 + u)) (i := i) (decide_eq_true (by omega))).symm
          rw [eR] at hl
          refine lv_iload hx hb dX4_stepChances_87 (lv_at hl 5 rfl) ?_
          refine lv_aload_n hx hb dX4_stepChances_89 rfl (lv_at hl 1 rfl) ?_
          refine g_get F hK hP inX4 0 rfl rfl 1 (by decide) gw_124 rfl (v := .int (nI d)) rfl dX4_stepChances_90 ?_
          refine lv_isub hx hb dX4_stepChances_93 ?_
          refine lv_if_lt (tgt := 119) hx hb dX4_stepChances_94 (by decide) (fun c_94 => ?_) (fun c_94 => ?_)
          · have h94 := (sbm (by omega) (by omega)).mp c_94
            refine lv_iinc (v := nI (i + 1)) (lv' := [(10, .int (nI (i + 1))), (7, .double (acc FP.dadd (fun q9 => decide (w ≤ q9 + u)) (fun q9 => FP.dmul ((chN (pOf jp) (qOf jp) u d w zz n).1 q9) (qOf jp)) r0 (i + 1))), (0, .ref a0), (1, .double (pOf jp)), (5, .double (qOf jp)), (9, .ref a4)]) hx hb dX4_stepChances_119 hl (k := 5) rfl (nI_add i 1) (by decide) rfl (fun ls hl => ?_)
            refine lv_goto (tgt := 23) hx hb dX4_stepChances_122 (by decide) ?_
            have hM2 : XR w (g1) (scat FP.dadd FP.dconst0 (fun q9 => FP.dmul ((chN (pOf jp) (qOf jp) u d w zz n).1 q9) (qOf jp)) (fun q9 => FP.dmul ((chN (pOf jp) (qOf jp) u d w zz n).1 q9) (pOf jp)) u d w (i + 1)) := XR_dn0 hM1 (by omega)
            exact ih_23  (i + 1) g1 (by omega) hM2 (by omega) _ _ _ hP hD hS (lv_sub hl [2, 3, 4, 1, 5, 0] rfl)
          · have h94 : ¬ i < d := fun h => c_94 ((sbm (by omega) (by omega)).mpr h)
            refine lv_aload hx hb dX4_stepChances_97 (lv_at hl 4 rfl) ?_
            refine lv_iload hx hb dX4_stepChances_99 (lv_at hl 5 rfl) ?_
            refine lv_aload_n hx hb dX4_stepChances_101 rfl (lv_at hl 1 rfl) ?_
            refine g_get F hK hP inX4 0 rfl rfl 1 (by decide) gw_124 rfl (v := .int (nI d)) rfl dX4_stepChances_102 ?_
            refine n_sub F (a := i) (b := d) dX4_stepChances_105 (by omega) ?_
            refine lv_dup2_11 hx hb dX4_stepChances_106 rfl rfl ?_
            refine a_dld F hK hP 4 (f := g1) rfl (j := i - d) (by omega) (by decide) dX4_stepChances_107 ?_
            rw [show (g1 (i - d)) = (sUp FP.dadd (fun q9 => FP.dmul ((chN (pOf jp) (qOf jp) u d w zz n).1 q9) (qOf jp)) u w i (scat FP.dadd FP.dconst0 (fun q9 => FP.dmul ((chN (pOf jp) (qOf jp) u d w zz n).1 q9) (qOf jp)) (fun q9 => FP.dmul ((chN (pOf jp) (qOf jp) u d w zz n).1 q9) (pOf jp)) u d w i) (i - d)) from (hM1 (i - d) (by omega))]
            refine lv_aload_n hx hb dX4_stepChances_108 rfl (lv_at hl 1 rfl) ?_
            refine g_get F hK hP inX4 0 rfl rfl 7 (by decide) gw_133 rfl (v := .ref a3) rfl dX4_stepChances_109 ?_
            refine lv_iload hx hb dX4_stepChances_112 (lv_at hl 5 rfl) ?_
            refine a_dld F hK hP 3 (f := d0) rfl (j := i) (by omega) (by decide) dX4_stepChances_114 ?_
            rw [show (d0 i) = ((chN (pOf jp) (qOf jp) u d w zz n).1 i) from (hA0 i (by omega))]
            refine lv_dload_n hx hb dX4_stepChances_115 rfl (lv_at hl 2 rfl) ?_
            refine lv_dmul hx hb dX4_stepChances_116 (nP i) ?_
            refine lv_dadd hx hb dX4_stepChances_117 (nD i (by omega) (i - d)) ?_
            refine a_dst F hK hP hD hS 4 (f := g1) rfl (j := i - d) (by omega) (by decide) dX4_stepChances_118 (fun H locs hP hD hS => ?_)
            have hP : va_P D vwCl (wkW a0 a1 a2 a3 a4 kA (nI u) (nI d) hi lo (nI w) f0 f1 d0 (vf_upd g1 (i - d) (FP.dadd (sUp FP.dadd (fun q9 => FP.dmul ((chN (pOf jp) (qOf jp) u d w zz n).1 q9) (qOf jp)) u w i (scat FP.dadd FP.dconst0 (fun q9 => FP.dmul ((chN (pOf jp) (qOf jp) u d w zz n).1 q9) (qOf jp)) (fun q9 => FP.dmul ((chN (pOf jp) (qOf jp) u d w zz n).1 q9) (pOf jp)) u d w i) (i - d)) (FP.dmul ((chN (pOf jp) (qOf jp) u d w zz n).1 i) (pOf jp))))) H := hP
            have hD : va_D A (wkW a0 a1 a2 a3 a4 kA (nI u) (nI d) hi lo (nI w) f0 f1 d0 (vf_upd g1 (i - d) (FP.dadd (sUp FP.dadd (fun q9 => FP.dmul ((chN (pOf jp) (qOf jp) u d w zz n).1 q9) (qOf jp)) u w i (scat FP.dadd FP.dconst0 (fun q9 => FP.dmul ((chN (pOf jp) (qOf jp) u d w zz n).1 q9) (qOf jp)) (fun q9 => FP.dmul ((chN (pOf jp) (qOf jp) u d w zz n).1 q9) (pOf jp)) u d w i) (i - d)) (FP.dmul ((chN (pOf jp) (qOf jp) u d w zz n).1 i) (pOf jp))))) := hD
            refine lv_iinc (v := nI (i + 1)) (lv' := [(10, .int (nI (i + 1))), (7, .double (acc FP.dadd (fun q9 => decide (w ≤ q9 + u)) (fun q9 => FP.dmul ((chN (pOf jp) (qOf jp) u d w zz n).1 q9) (qOf jp)) r0 (i + 1))), (0, .ref a0), (1, .double (pOf jp)), (5, .double (qOf jp)), (9, .ref a4)]) hx hb dX4_stepChances_119 hl (k := 5) rfl (nI_add i 1) (by decide) rfl (fun ls hl => ?_)
            refine lv_goto (tgt := 23) hx hb dX4_stepChances_122 (by decide) ?_
            have hM2 : XR w (vf_upd (g1) (i - d) (FP.dadd (sUp FP.dadd (fun q9 => FP.dmul ((chN (pOf jp) (qOf jp) u d w zz n).1 q9) (qOf jp)) u w i (scat FP.dadd FP.dconst0 (fun q9 => FP.dmul ((chN (pOf jp) (qOf jp) u d w zz n).1 q9) (qOf jp)) (fun q9 => FP.dmul ((chN (pOf jp) (qOf jp) u d w zz n).1 q9) (pOf jp)) u d w i) (i - d)) (FP.dmul ((chN (pOf jp) (qOf jp) u d w zz n).1 i) (pOf jp)))) (scat FP.dadd FP.dconst0 (fun q9 => FP.dmul ((chN (pOf jp) (qOf jp) u d w zz n).1 q9) (qOf jp)) (fun q9 => FP.dmul ((chN (pOf jp) (qOf jp) u d w zz n).1 q9) (pOf jp)) u d w (i + 1)) := XR_dn hM1 (by omega) rfl
            exact ih_23  (i + 1) (vf_upd (g1) (i - d) (FP.dadd (sUp FP.dadd (fun q9 => FP.dmul ((chN (pOf jp) (qOf jp) u d w zz n).1 q9) (qOf jp)) u w i (scat FP.dadd FP.dconst0 (fun q9 => FP.dmul ((chN (pOf jp) (qOf jp) u d w zz n).1 q9) (qOf jp)) (fun q9 => FP.dmul ((chN (pOf jp) (qOf jp) u d w zz n).1 q9) (pOf jp)) u d w i) (i - d)) (FP.dmul ((chN (pOf jp) (qOf jp) u d w zz n).1 i) (pOf jp)))) (by omega) hM2 (by omega) _ _ _ hP hD hS (lv_sub hl [2, 3, 4, 1, 5, 0] rfl)
  exact lp_23 _ 0 g9 (Nat.zero_le _) (fun i hi => hg9 i (by omega)) (Nat.lt_succ_self _) _ _ _ hP hD hS (lv_sub hl [4, 5, 3, 2, 1, 0] rfl)

set_option maxRecDepth 100000 in
set_option maxHeartbeats 4000000 in
theorem kX4_chanceOfScanner (l : Launch) (D : va_G) (kA : Nat → ClassId) (sz : Nat) (a0 a1 a2 a3 a4 : Nat) (xu xd hi lo xw : Int32) (f0 f1 : Nat → Int32) (d0 d1 : Nat → UInt64) (jp u d w zz B n : Nat) (hu : xu = nI u) (hd0 : xd = nI d) (hw0 : xw = nI w) (hlo : lo = nI B - 60) (hww : w ≤ 119) (hzz : zz = 59 - B) (hub : u ≤ 9) (hdb : d ≤ 9) (hB : B ≤ 59) (hj : jp ≤ 100) (hn : n ≤ 60) : CtD l yX4_chanceOfScanner cX4_chanceOfScanner 7 .double 2 D kA sz (wkW a0 a1 a2 a3 a4 kA xu xd hi lo xw f0 f1 d0 d1) [.ref a0, .double (pOf jp), .int (nI n)] (fun r uu => r = (chN (pOf jp) (qOf jp) u d w zz n).2.1 ∧ ∃ b1 b2 e0 e1, uu = wkW a0 a1 a2 b1 b2 kA xu xd hi lo xw f0 f1 e0 e1) := by
  subst hu
  subst hd0
  subst hw0
  subst hlo
  refine ct_d (own := RX4) (by decide) rfl (Nat.le_of_ble_eq_true rfl) ?_
  intro p_ e_ s_ m_ ar_ bw_ me_ co_ A ls Q F hnm hK hA hP hD hS hl hsz rt
  have hx := F.1
  have hb := F.2.1
  have hl : lv_has ls 7 [(0, .ref a0), (1, .double (pOf jp)), (3, .int (nI n))] := hl
  have hP : va_P D vwCl (wkW a0 a1 a2 a3 a4 kA (nI u) (nI d) hi (nI B - 60) (nI w) f0 f1 d0 d1) s_.heap := hP
  have hwb := hww
  refine lv_aload_n hx hb dX4_chanceOfScanner_0 rfl (lv_at hl 0 rfl) ?_
  refine cl_V_v (wc := (wkW a0 a1 a2 a3 a4 kA (nI u) (nI d) hi (nI B - 60) (nI w) f0 f1 d0 d1)) (As := []) (rest := []) (b := a0) (C := RX4) F hK hP hD hS hA (kX4_startChances l D kA _ a0 a1 a2 a3 a4 (nI u) (nI d) hi (nI B - 60) (nI w) f0 f1 d0 d1 B w rfl hB hwb) gw_500 gw_67 gw_497 gw_499 gw_34 (va_recv hK.1 hP (ci := 4) (q0 := 0) rfl rfl) hdX4_startChances ⟨Nat.le_of_ble_eq_true rfl, Nat.le_of_ble_eq_true rfl⟩ hl.1 rfl (Nat.le_of_ble_eq_true rfl) dX4_chanceOfScanner_1 ⟨Nat.le_of_ble_eq_true rfl, Nat.le_of_ble_eq_true rfl⟩ (fun u_1 H locs hw hP1 hD1 hk1 hFc hS => ?_)
  obtain ⟨e9, he9, rfl⟩ := hw
  have hP : va_P D vwCl (wkW a0 a1 a2 a3 a4 kA (nI u) (nI d) hi (nI B - 60) (nI w) f0 f1 e9 d1) H := hP1
  have hD : va_D A (wkW a0 a1 a2 a3 a4 kA (nI u) (nI d) hi (nI B - 60) (nI w) f0 f1 e9 d1) := hD1.weaken (fun _ _ _ h => hFc _ h)
  refine lv_dconst0 hx hb dX4_chanceOfScanner_4 ?_
  refine lv_dstore (lv' := [(4, .double FP.dconst0), (0, .ref a0), (1, .double (pOf jp)), (3, .int (nI n))]) hx hb dX4_chanceOfScanner_5 hl (by decide) rfl (fun ls hl => ?_)
  refine lv_iconst (v := 0) hx hb dX4_chanceOfScanner_7 (by decide) ?_
  refine lv_istore (lv' := [(6, .int 0), (4, .double FP.dconst0), (0, .ref a0), (1, .double (pOf jp)), (3, .int (nI n))]) hx hb dX4_chanceOfScanner_8 hl (by decide) rfl (fun ls hl => ?_)
  have lp_10 : ∀ (n_10 : Nat) (n1 : Nat) (b1 : Nat) (b2 : Nat) (g0 : Nat → UInt64) (g1 : Nat → UInt64), (n1 ≤ n) → (XR w g0 (chN (pOf jp) (qOf jp) u d w zz n1).1) → (n - n1) < n_10 → ∀ (H : Heap) (locs : List Loc) (ls : Array Slot), va_P D vwCl (wkW a0 a1 a2 b1 b2 kA (nI u) (nI d) hi (nI B - 60) (nI w) f0 f1 g0 g1) H → va_D A (wkW a0 a1 a2 b1 b2 kA (nI u) (nI d) hi (nI B - 60) (nI w) f0 f1 g0 g1) → va_S A s_.heap H locs → lv_has ls 7 [(0, .ref a0), (1, .double (pOf jp)), (3, .int (nI n)), (4, .double ((chN (pOf jp) (qOf jp) u d w zz n1).2.1)), (6, .int (nI n1))] → W p_ l e_ (rmC 2 0 0) s_ m_ ar_ bw_ me_ co_ H locs 0 0 Q (F0 m_ 10 ls []) := by
    intro n_10
    induction n_10 with
    | zero =>
      intro n1 b1 b2 g0 g1 hn1 hR hm_10
      exact absurd hm_10 (Nat.not_lt_zero _)
    | succ n_10 ih_10 =>
      intro n1 b1 b2 g0 g1 hn1 hR hm_10 H locs ls hP hD hS hl
      refine lv_iload hx hb dX4_chanceOfScanner_10 (lv_at hl 4 rfl) ?_
      refine lv_iload_n hx hb dX4_chanceOfScanner_12 rfl (lv_at hl 2 rfl) ?_
      refine b_ge F (a := n1) (b := n) (tgt := 31) dX4_chanceOfScanner_13 (by decide) (by omega) (by omega) (fun c_13 => ?_) (fun c_13 => ?_)
      · refine lv_dload hx hb dX4_chanceOfScanner_31 (lv_at hl 3 rfl) ?_
        exact rt _ (wkW a0 a1 a2 b1 b2 kA (nI u) (nI d) hi (nI B - 60) (nI w) f0 f1 g0 g1) _ _ _ _ hP hD hS dX4_chanceOfScanner_33 (⟨by rw [show n = n1 by omega], b1, b2, g0, g1, rfl⟩)
      · refine lv_aload_n hx hb dX4_chanceOfScanner_16 rfl (lv_at hl 0 rfl) ?_
        refine lv_dload_n hx hb dX4_chanceOfScanner_17 rfl (lv_at hl 1 rfl) ?_
        refine lv_dload hx hb dX4_chanceOfScanner_18 (lv_at hl 3 rfl) ?_
        refine cl_V_d (wc := (wkW a0 a1 a2 b1 b2 kA (nI u) (nI d) hi (nI B - 60) (nI w) f0 f1 g0 g1)) (As := [.double (pOf jp), .double ((chN (pOf jp) (qOf jp) u d w zz n1).2.1)]) (rest := []) (b := a0) (C := RX4) F hK hP hD hS hA (kX4_stepChances l D kA _ a0 a1 a2 b1 b2 (nI u) (nI d) hi (nI B - 60) (nI w) f0 f1 g0 g1 jp u d w zz n1 ((chN (pOf jp) (qOf jp) u d w zz n1).2.1) (119 * n1) rfl rfl rfl hj hwb hub hdb (by omega) (ok_chN (u := u) (d := d) (w := w) (z := zz) (pOf_ok hj) (qOf_ok hj) hwb n1 (by omega)).2.1 (by omega) hR) gw_507 gw_67 gw_504 gw_506 gw_35 (va_recv hK.1 hP (ci := 4) (q0 := 0) rfl rfl) hdX4_stepChances ⟨Nat.le_of_ble_eq_true rfl, Nat.le_of_ble_eq_true rfl⟩ hl.1 rfl (Nat.le_of_ble_eq_true rfl) dX4_chanceOfScanner_20 ⟨Nat.le_of_ble_eq_true rfl, Nat.le_of_ble_eq_true rfl⟩ (fun r_20 u_20 H locs hw hP1 hD1 hk1 hFc hS => ?_)
        obtain ⟨rfl, b3_, b4_, e0, e1, hE, rfl⟩ := hw
        have hP : va_P D vwCl (wkW a0 a1 a2 b3_ b4_ kA (nI u) (nI d) hi (nI B - 60) (nI w) f0 f1 e0 e1) H := hP1
        have hD : va_D A (wkW a0 a1 a2 b3_ b4_ kA (nI u) (nI d) hi (nI B - 60) (nI w) f0 f1 e0 e1) := hD1.weaken (fun _ _ _ h => hFc _ h)
        rw [show acc FP.dadd (fun q9 => decide (w ≤ q9 + u)) (fun q9 => FP.dmul ((chN (pOf jp) (qOf jp) u d w zz n1).1 q9) (qOf jp)) (chN (pOf jp) (qOf jp) u d w zz n1).2.1 w = (chN (pOf jp) (qOf jp) u d w zz (n1 + 1)).2.1 from rfl]
        refine lv_dstore (lv' := [(4, .double ((chN (pOf jp) (qOf jp) u d w zz (n1 + 1)).2.1)), (0, .ref a0), (1, .double (pOf jp)), (3, .int (nI n)), (6, .int (nI n1))]) hx hb dX4_chanceOfScanner_23 hl (by decide) rfl (fun ls hl => ?_)
        refine lv_iinc (v := nI (n1 + 1)) (lv' := [(6, .int (nI (n1 + 1))), (4, .double ((chN (pOf jp) (qOf jp) u d w zz (n1 + 1)).2.1)), (0, .ref a0), (1, .double (pOf jp)), (3, .int (nI n))]) hx hb dX4_chanceOfScanner_25 hl (k := 4) rfl (nI_add n1 1) (by decide) rfl (fun ls hl => ?_)
        refine lv_goto (tgt := 10) hx hb dX4_chanceOfScanner_28 (by decide) ?_
        exact ih_10  (n1 + 1) b3_ b4_ e0 e1 (by omega) hE (by omega) _ _ _ hP hD hS (lv_sub hl [2, 3, 4, 1, 0] rfl)
  exact lp_10 _ 0 a3 a4 e9 d1 (Nat.zero_le _) (by rw [hzz]; exact he9) (Nat.lt_succ_self _) _ _ _ hP hD hS (lv_sub hl [2, 3, 4, 1, 0] rfl)

set_option maxRecDepth 100000 in
set_option maxHeartbeats 4000000 in
theorem kX4_meanContacts (l : Launch) (D : va_G) (kA : Nat → ClassId) (sz : Nat) (a0 a1 a2 a3 a4 : Nat) (xu xd hi lo xw : Int32) (f0 f1 : Nat → Int32) (d0 d1 : Nat → UInt64) (jp u d w zz B n : Nat) (hu : xu = nI u) (hd0 : xd = nI d) (hw0 : xw = nI w) (hlo : lo = nI B - 60) (hww : w ≤ 119) (hzz : zz = 59 - B) (hub : u ≤ 9) (hdb : d ≤ 9) (hB : B ≤ 59) (hj : jp ≤ 100) (hn : n ≤ 60) : CtD l yX4_meanContacts cX4_meanContacts 7 .double 2 D kA sz (wkW a0 a1 a2 a3 a4 kA xu xd hi lo xw f0 f1 d0 d1) [.ref a0, .double (pOf jp), .int (nI n)] (fun r uu => r = (chN (pOf jp) (qOf jp) u d w zz n).2.2 ∧ ∃ b1 b2 e0 e1, uu = wkW a0 a1 a2 b1 b2 kA xu xd hi lo xw f0 f1 e0 e1) := by
  subst hu
  subst hd0
  subst hw0
  subst hlo
  refine ct_d (own := RX4) (by decide) rfl (Nat.le_of_ble_eq_true rfl) ?_
  intro p_ e_ s_ m_ ar_ bw_ me_ co_ A ls Q F hnm hK hA hP hD hS hl hsz rt
  have hx := F.1
  have hb := F.2.1
  have hl : lv_has ls 7 [(0, .ref a0), (1, .double (pOf jp)), (3, .int (nI n))] := hl
  have hP : va_P D vwCl (wkW a0 a1 a2 a3 a4 kA (nI u) (nI d) hi (nI B - 60) (nI w) f0 f1 d0 d1) s_.heap := hP
  have hwb := hww
  refine lv_aload_n hx hb dX4_meanContacts_0 rfl (lv_at hl 0 rfl) ?_
  refine cl_V_v (wc := (wkW a0 a1 a2 a3 a4 kA (nI u) (nI d) hi (nI B - 60) (nI w) f0 f1 d0 d1)) (As := []) (rest := []) (b := a0) (C := RX4) F hK hP hD hS hA (kX4_startChances l D kA _ a0 a1 a2 a3 a4 (nI u) (nI d) hi (nI B - 60) (nI w) f0 f1 d0 d1 B w rfl hB hwb) gw_500 gw_67 gw_497 gw_499 gw_34 (va_recv hK.1 hP (ci := 4) (q0 := 0) rfl rfl) hdX4_startChances ⟨Nat.le_of_ble_eq_true rfl, Nat.le_of_ble_eq_true rfl⟩ hl.1 rfl (Nat.le_of_ble_eq_true rfl) dX4_meanContacts_1 ⟨Nat.le_of_ble_eq_true rfl, Nat.le_of_ble_eq_true rfl⟩ (fun u_1 H locs hw hP1 hD1 hk1 hFc hS => ?_)
  obtain ⟨e9, he9, rfl⟩ := hw
  have hP : va_P D vwCl (wkW a0 a1 a2 a3 a4 kA (nI u) (nI d) hi (nI B - 60) (nI w) f0 f1 e9 d1) H := hP1
  have hD : va_D A (wkW a0 a1 a2 a3 a4 kA (nI u) (nI d) hi (nI B - 60) (nI w) f0 f1 e9 d1) := hD1.weaken (fun _ _ _ h => hFc _ h)
  refine lv_dconst0 hx hb dX4_meanContacts_4 ?_
  refine lv_dstore (lv' := [(4, .double FP.dconst0), (0, .ref a0), (1, .double (pOf jp)), (3, .int (nI n))]) hx hb dX4_meanContacts_5 hl (by decide) rfl (fun ls hl => ?_)
  refine lv_iconst (v := 0) hx hb dX4_meanContacts_7 (by decide) ?_
  refine lv_istore (lv' := [(6, .int 0), (4, .double FP.dconst0), (0, .ref a0), (1, .double (pOf jp)), (3, .int (nI n))]) hx hb dX4_meanContacts_8 hl (by decide) rfl (fun ls hl => ?_)
  have lp_10 : ∀ (n_10 : Nat) (n1 : Nat) (b1 : Nat) (b2 : Nat) (g0 : Nat → UInt64) (g1 : Nat → UInt64), (n1 ≤ n) → (XR w g0 (chN (pOf jp) (qOf jp) u d w zz n1).1) → (n - n1) < n_10 → ∀ (H : Heap) (locs : List Loc) (ls : Array Slot), va_P D vwCl (wkW a0 a1 a2 b1 b2 kA (nI u) (nI d) hi (nI B - 60) (nI w) f0 f1 g0 g1) H → va_D A (wkW a0 a1 a2 b1 b2 kA (nI u) (nI d) hi (nI B - 60) (nI w) f0 f1 g0 g1) → va_S A s_.heap H locs → lv_has ls 7 [(0, .ref a0), (1, .double (pOf jp)), (3, .int (nI n)), (4, .double ((chN (pOf jp) (qOf jp) u d w zz n1).2.2)), (6, .int (nI n1))] → W p_ l e_ (rmC 2 0 0) s_ m_ ar_ bw_ me_ co_ H locs 0 0 Q (F0 m_ 10 ls []) := by
    intro n_10
    induction n_10 with
    | zero =>
      intro n1 b1 b2 g0 g1 hn1 hR hm_10
      exact absurd hm_10 (Nat.not_lt_zero _)
    | succ n_10 ih_10 =>
      intro n1 b1 b2 g0 g1 hn1 hR hm_10 H locs ls hP hD hS hl
      refine lv_iload hx hb dX4_meanContacts_10 (lv_at hl 4 rfl) ?_
      refine lv_iload_n hx hb dX4_meanContacts_12 rfl (lv_at hl 2 rfl) ?_
      refine b_ge F (a := n1) (b := n) (tgt := 38) dX4_meanContacts_13 (by decide) (by omega) (by omega) (fun c_13 => ?_) (fun c_13 => ?_)
      · refine lv_dload hx hb dX4_meanContacts_38 (lv_at hl 3 rfl) ?_
        exact rt _ (wkW a0 a1 a2 b1 b2 kA (nI u) (nI d) hi (nI B - 60) (nI w) f0 f1 g0 g1) _ _ _ _ hP hD hS dX4_meanContacts_40 (⟨by rw [show n = n1 by omega], b1, b2, g0, g1, rfl⟩)
      · refine lv_dload hx hb dX4_meanContacts_16 (lv_at hl 3 rfl) ?_
        refine lv_aload_n hx hb dX4_meanContacts_18 rfl (lv_at hl 0 rfl) ?_
        refine cl_V_d (wc := (wkW a0 a1 a2 b1 b2 kA (nI u) (nI d) hi (nI B - 60) (nI w) f0 f1 g0 g1)) (As := []) (rest := [.double ((chN (pOf jp) (qOf jp) u d w zz n1).2.2)]) (b := a0) (C := RX4) F hK hP hD hS hA (kX4_sumOfChances l D kA _ a0 a1 a2 b1 b2 (nI u) (nI d) hi (nI B - 60) (nI w) f0 f1 g0 g1 jp u d w zz n1 rfl rfl rfl hj hwb (by omega) hR) gw_526 gw_67 gw_523 gw_525 gw_37 (va_recv hK.1 hP (ci := 4) (q0 := 0) rfl rfl) hdX4_sumOfChances ⟨Nat.le_of_ble_eq_true rfl, Nat.le_of_ble_eq_true rfl⟩ hl.1 rfl (Nat.le_of_ble_eq_true rfl) dX4_meanContacts_19 ⟨Nat.le_of_ble_eq_true rfl, Nat.le_of_ble_eq_true rfl⟩ (fun r_19 u_19 H locs hw hP1 hD1 hk1 hFc hS => ?_)
        obtain ⟨rfl, rfl⟩ := hw
        have hP : va_P D vwCl (wkW a0 a1 a2 b1 b2 kA (nI u) (nI d) hi (nI B - 60) (nI w) f0 f1 g0 g1) H := hP1
        have hD : va_D A (wkW a0 a1 a2 b1 b2 kA (nI u) (nI d) hi (nI B - 60) (nI w) f0 f1 g0 g1) := hD1.weaken (fun _ _ _ h => hFc _ h)
        have nE := (nan_step (r0 := FP.dconst0) (u := u) (d := d) (w := w) (z := zz) (n := n1) (K := 0) (pOf_ok hj) (qOf_ok hj) hwb (by omega) (ok_0 _ _ _) (by decide)).2.2.2.2.2.2
        refine lv_dadd hx hb dX4_meanContacts_22 nE ?_
        rw [show FP.dadd (chN (pOf jp) (qOf jp) u d w zz n1).2.2 (acc FP.dadd (fun _ => true) (chN (pOf jp) (qOf jp) u d w zz n1).1 FP.dconst0 w) = (chN (pOf jp) (qOf jp) u d w zz (n1 + 1)).2.2 from rfl]
        refine lv_dstore (lv' := [(4, .double ((chN (pOf jp) (qOf jp) u d w zz (n1 + 1)).2.2)), (0, .ref a0), (1, .double (pOf jp)), (3, .int (nI n)), (6, .int (nI n1))]) hx hb dX4_meanContacts_23 hl (by decide) rfl (fun ls hl => ?_)
        refine lv_aload_n hx hb dX4_meanContacts_25 rfl (lv_at hl 1 rfl) ?_
        refine lv_dload_n hx hb dX4_meanContacts_26 rfl (lv_at hl 2 rfl) ?_
        refine lv_dconst0 hx hb dX4_meanContacts_27 ?_
        refine cl_V_d (wc := (wkW a0 a1 a2 b1 b2 kA (nI u) (nI d) hi (nI B - 60) (nI w) f0 f1 g0 g1)) (As := [.double (pOf jp), .double FP.dconst0]) (rest := []) (b := a0) (C := RX4) F hK hP hD hS hA (kX4_stepChances l D kA _ a0 a1 a2 b1 b2 (nI u) (nI d) hi (nI B - 60) (nI w) f0 f1 g0 g1 jp u d w zz n1 FP.dconst0 0 rfl rfl rfl hj hwb hub hdb (by omega) (ok_0 _ _ _) (by omega) hR) gw_507 gw_67 gw_504 gw_506 gw_35 (va_recv hK.1 hP (ci := 4) (q0 := 0) rfl rfl) hdX4_stepChances ⟨Nat.le_of_ble_eq_true rfl, Nat.le_of_ble_eq_true rfl⟩ hl.1 rfl (Nat.le_of_ble_eq_true rfl) dX4_meanContacts_28 ⟨Nat.le_of_ble_eq_true rfl, Nat.le_of_ble_eq_true rfl⟩ (fun r_28 u_28 H locs hw hP1 hD1 hk1 hFc hS => ?_)
        obtain ⟨rfl, b3_, b4_, e0, e1, hE, rfl⟩ := hw
        have hP : va_P D vwCl (wkW a0 a1 a2 b3_ b4_ kA (nI u) (nI d) hi (nI B - 60) (nI w) f0 f1 e0 e1) H := hP1
        have hD : va_D A (wkW a0 a1 a2 b3_ b4_ kA (nI u) (nI d) hi (nI B - 60) (nI w) f0 f1 e0 e1) := hD1.weaken (fun _ _ _ h => hFc _ h)
        refine lv_pop2_2 hx hb dX4_meanContacts_31 rfl ?_
        refine lv_iinc (v := nI (n1 + 1)) (lv' := [(6, .int (nI (n1 + 1))), (4, .double ((chN (pOf jp) (qOf jp) u d w zz (n1 + 1)).2.2)), (0, .ref a0), (1, .double (pOf jp)), (3, .int (nI n))]) hx hb dX4_meanContacts_32 hl (k := 4) rfl (nI_add n1 1) (by decide) rfl (fun ls hl => ?_)
        refine lv_goto (tgt := 10) hx hb dX4_meanContacts_35 (by decide) ?_
        exact ih_10  (n1 + 1) b3_ b4_ e0 e1 (by omega) hE (by omega) _ _ _ hP hD hS (lv_sub hl [2, 3, 4, 1, 0] rfl)
  exact lp_10 _ 0 a3 a4 e9 d1 (Nat.zero_le _) (by rw [hzz]; exact he9) (Nat.lt_succ_self _) _ _ _ hP hD hS (lv_sub hl [2, 3, 4, 1, 0] rfl)

set_option maxRecDepth 100000 in
set_option maxHeartbeats 4000000 in
theorem kX1_init (l : Launch) (D : va_G) (kA : Nat → ClassId) (sz : Nat) (h0 : Nat)  : CtV l yX1_init cX1_init 1 1 1 59 D kA sz ([(h0, .inr (1, [.null, .int 0]))]) [.ref h0] (fun uu => ∃ q1, uu = inW h0 q1 kA 0 (fun _ => 0)) := by
  refine ct_v (own := RX1) (by decide) rfl (Nat.le_of_ble_eq_true rfl) ?_
  intro p_ e_ s_ m_ ar_ bw_ me_ co_ A ls Q F hnm hK hA hP hD hS hl hsz rt
  have hx := F.1
  have hb := F.2.1
  have hl : lv_has ls 1 [(0, .ref h0)] := hl
  have hP : va_P D vwCl ([(h0, .inr (1, [.null, .int 0]))]) s_.heap := hP
  refine lv_aload_n hx hb dX1_init_0 rfl (lv_at hl 0 rfl) ?_
  refine W.objInit hx hb F.2.2.2.1 (F.2.2.2.2 _ gw_198) (F.2.2.2.2 _ gw_82) (F.2.2.2.2 _ gw_83) rfl (by rw [F.2.2.1]; exact hl.1) rfl dX1_init_1 (Nat.le_of_ble_eq_true rfl) (Nat.le_of_ble_eq_true rfl) ?_
  refine W.eq (g2 := F0 m_ 4 ls []) rfl ?_
  refine lv_aload_n hx hb dX1_init_4 rfl (lv_at hl 0 rfl) ?_
  refine lv_bipush (v := 59) hx hb dX1_init_5 (by decide) ?_
  refine n_int F hK gw_154 hP hD hS hA (n := 59) (by decide) (Nat.le_of_ble_eq_true rfl) (Nat.le_of_ble_eq_true rfl) dX1_init_7 (fun q_7 H hP hD hS => ?_)
  have hP : va_P D vwCl ([(h0, .inr (1, [.null, .int 0])), (q_7, .inl (kA 0, 59, .inl (fun _ => 0)))]) H := hP
  have hD : va_D A ([(h0, .inr (1, [.null, .int 0])), (q_7, .inl (kA 0, 59, .inl (fun _ => 0)))]) := hD
  refine g_putF F hK hP hD hS inX1 tyX1_ok nmX1 0 rfl rfl 0 (by decide) gw_199 rfl rfl hnm rfl rfl rfl (Nat.le_of_ble_eq_true rfl) dX1_init_9 (fun H locs hP hD hS => ?_)
  have hP : va_P D vwCl ([(h0, .inr (1, [.ref q_7, .int 0])), (q_7, .inl (kA 0, 59, .inl (fun _ => 0)))]) H := hP
  have hD : va_D A ([(h0, .inr (1, [.ref q_7, .int 0])), (q_7, .inl (kA 0, 59, .inl (fun _ => 0)))]) := hD
  refine lv_aload_n hx hb dX1_init_12 rfl (lv_at hl 0 rfl) ?_
  refine lv_iconst (v := 0) hx hb dX1_init_13 (by decide) ?_
  refine g_put F hK hP hD hS inX1 tyX1_ok nmX1 0 rfl rfl 1 (by decide) gw_201 rfl rfl rfl rfl (Nat.le_of_ble_eq_true rfl) dX1_init_14 (fun H locs hP hD hS => ?_)
  have hP : va_P D vwCl ([(h0, .inr (1, [.ref q_7, .int 0])), (q_7, .inl (kA 0, 59, .inl (fun _ => 0)))]) H := hP
  have hD : va_D A ([(h0, .inr (1, [.ref q_7, .int 0])), (q_7, .inl (kA 0, 59, .inl (fun _ => 0)))]) := hD
  refine W.cs (cells' := 1) (slots' := 59) rfl rfl ?_
  exact rt ([(h0, .inr (1, [.ref q_7, .int 0])), (q_7, .inl (kA 0, 59, .inl (fun _ => 0)))]) _ _ _ _ hP hD hS dX1_init_17 (⟨q_7, rfl⟩)

set_option maxRecDepth 100000 in
set_option maxHeartbeats 4000000 in
theorem kX2_init (l : Launch) (D : va_G) (kA : Nat → ClassId) (sz : Nat) (h0 : Nat)  : CtV l yX2_init cX2_init 1 1 3 36 D kA sz ([(h0, .inr (2, [.null, .null, .null, .int 0]))]) [.ref h0] (fun uu => ∃ q1 q2 q3, uu = pdW h0 q1 q2 q3 kA 0 (fun _ => 0) (fun _ => 0) (fun _ => 0)) := by
  refine ct_v (own := RX2) (by decide) rfl (Nat.le_of_ble_eq_true rfl) ?_
  intro p_ e_ s_ m_ ar_ bw_ me_ co_ A ls Q F hnm hK hA hP hD hS hl hsz rt
  have hx := F.1
  have hb := F.2.1
  have hl : lv_has ls 1 [(0, .ref h0)] := hl
  have hP : va_P D vwCl ([(h0, .inr (2, [.null, .null, .null, .int 0]))]) s_.heap := hP
  refine lv_aload_n hx hb dX2_init_0 rfl (lv_at hl 0 rfl) ?_
  refine W.objInit hx hb F.2.2.2.1 (F.2.2.2.2 _ gw_161) (F.2.2.2.2 _ gw_82) (F.2.2.2.2 _ gw_83) rfl (by rw [F.2.2.1]; exact hl.1) rfl dX2_init_1 (Nat.le_of_ble_eq_true rfl) (Nat.le_of_ble_eq_true rfl) ?_
  refine W.eq (g2 := F0 m_ 4 ls []) rfl ?_
  refine lv_aload_n hx hb dX2_init_4 rfl (lv_at hl 0 rfl) ?_
  refine lv_bipush (v := 12) hx hb dX2_init_5 (by decide) ?_
  refine n_int F hK gw_154 hP hD hS hA (n := 12) (by decide) (Nat.le_of_ble_eq_true rfl) (Nat.le_of_ble_eq_true rfl) dX2_init_7 (fun q_7 H hP hD hS => ?_)
  have hP : va_P D vwCl ([(h0, .inr (2, [.null, .null, .null, .int 0])), (q_7, .inl (kA 0, 12, .inl (fun _ => 0)))]) H := hP
  have hD : va_D A ([(h0, .inr (2, [.null, .null, .null, .int 0])), (q_7, .inl (kA 0, 12, .inl (fun _ => 0)))]) := hD
  refine g_putF F hK hP hD hS inX2 tyX2_ok nmX2 0 rfl rfl 0 (by decide) gw_162 rfl rfl hnm rfl rfl rfl (Nat.le_of_ble_eq_true rfl) dX2_init_9 (fun H locs hP hD hS => ?_)
  have hP : va_P D vwCl ([(h0, .inr (2, [.ref q_7, .null, .null, .int 0])), (q_7, .inl (kA 0, 12, .inl (fun _ => 0)))]) H := hP
  have hD : va_D A ([(h0, .inr (2, [.ref q_7, .null, .null, .int 0])), (q_7, .inl (kA 0, 12, .inl (fun _ => 0)))]) := hD
  refine lv_aload_n hx hb dX2_init_12 rfl (lv_at hl 0 rfl) ?_
  refine lv_bipush (v := 12) hx hb dX2_init_13 (by decide) ?_
  refine n_int F hK gw_154 hP hD hS hA (n := 12) (by decide) (Nat.le_of_ble_eq_true rfl) (Nat.le_of_ble_eq_true rfl) dX2_init_15 (fun q_15 H hP hD hS => ?_)
  have hP : va_P D vwCl ([(h0, .inr (2, [.ref q_7, .null, .null, .int 0])), (q_7, .inl (kA 0, 12, .inl (fun _ => 0))), (q_15, .inl (kA 0, 12, .inl (fun _ => 0)))]) H := hP
  have hD : va_D A ([(h0, .inr (2, [.ref q_7, .null, .null, .int 0])), (q_7, .inl (kA 0, 12, .inl (fun _ => 0))), (q_15, .inl (kA 0, 12, .inl (fun _ => 0)))]) := hD
  refine g_putF F hK hP hD hS inX2 tyX2_ok nmX2 0 rfl rfl 1 (by decide) gw_164 rfl rfl hnm rfl rfl rfl (Nat.le_of_ble_eq_true rfl) dX2_init_17 (fun H locs hP hD hS => ?_)
  have hP : va_P D vwCl ([(h0, .inr (2, [.ref q_7, .ref q_15, .null, .int 0])), (q_7, .inl (kA 0, 12, .inl (fun _ => 0))), (q_15, .inl (kA 0, 12, .inl (fun _ => 0)))]) H := hP
  have hD : va_D A ([(h0, .inr (2, [.ref q_7, .ref q_15, .null, .int 0])), (q_7, .inl (kA 0, 12, .inl (fun _ => 0))), (q_15, .inl (kA 0, 12, .inl (fun _ => 0)))]) := hD
  refine lv_aload_n hx hb dX2_init_20 rfl (lv_at hl 0 rfl) ?_
  refine lv_bipush (v := 12) hx hb dX2_init_21 (by decide) ?_
  refine n_int F hK gw_154 hP hD hS hA (n := 12) (by decide) (Nat.le_of_ble_eq_true rfl) (Nat.le_of_ble_eq_true rfl) dX2_init_23 (fun q_23 H hP hD hS => ?_)
  have hP : va_P D vwCl ([(h0, .inr (2, [.ref q_7, .ref q_15, .null, .int 0])), (q_7, .inl (kA 0, 12, .inl (fun _ => 0))), (q_15, .inl (kA 0, 12, .inl (fun _ => 0))), (q_23, .inl (kA 0, 12, .inl (fun _ => 0)))]) H := hP
  have hD : va_D A ([(h0, .inr (2, [.ref q_7, .ref q_15, .null, .int 0])), (q_7, .inl (kA 0, 12, .inl (fun _ => 0))), (q_15, .inl (kA 0, 12, .inl (fun _ => 0))), (q_23, .inl (kA 0, 12, .inl (fun _ => 0)))]) := hD
  refine g_putF F hK hP hD hS inX2 tyX2_ok nmX2 0 rfl rfl 2 (by decide) gw_166 rfl rfl hnm rfl rfl rfl (Nat.le_of_ble_eq_true rfl) dX2_init_25 (fun H locs hP hD hS => ?_)
  have hP : va_P D vwCl ([(h0, .inr (2, [.ref q_7, .ref q_15, .ref q_23, .int 0])), (q_7, .inl (kA 0, 12, .inl (fun _ => 0))), (q_15, .inl (kA 0, 12, .inl (fun _ => 0))), (q_23, .inl (kA 0, 12, .inl (fun _ => 0)))]) H := hP
  have hD : va_D A ([(h0, .inr (2, [.ref q_7, .ref q_15, .ref q_23, .int 0])), (q_7, .inl (kA 0, 12, .inl (fun _ => 0))), (q_15, .inl (kA 0, 12, .inl (fun _ => 0))), (q_23, .inl (kA 0, 12, .inl (fun _ => 0)))]) := hD
  refine lv_aload_n hx hb dX2_init_28 rfl (lv_at hl 0 rfl) ?_
  refine lv_iconst (v := 0) hx hb dX2_init_29 (by decide) ?_
  refine g_put F hK hP hD hS inX2 tyX2_ok nmX2 0 rfl rfl 3 (by decide) gw_168 rfl rfl rfl rfl (Nat.le_of_ble_eq_true rfl) dX2_init_30 (fun H locs hP hD hS => ?_)
  have hP : va_P D vwCl ([(h0, .inr (2, [.ref q_7, .ref q_15, .ref q_23, .int 0])), (q_7, .inl (kA 0, 12, .inl (fun _ => 0))), (q_15, .inl (kA 0, 12, .inl (fun _ => 0))), (q_23, .inl (kA 0, 12, .inl (fun _ => 0)))]) H := hP
  have hD : va_D A ([(h0, .inr (2, [.ref q_7, .ref q_15, .ref q_23, .int 0])), (q_7, .inl (kA 0, 12, .inl (fun _ => 0))), (q_15, .inl (kA 0, 12, .inl (fun _ => 0))), (q_23, .inl (kA 0, 12, .inl (fun _ => 0)))]) := hD
  refine W.cs (cells' := 3) (slots' := 36) rfl rfl ?_
  exact rt ([(h0, .inr (2, [.ref q_7, .ref q_15, .ref q_23, .int 0])), (q_7, .inl (kA 0, 12, .inl (fun _ => 0))), (q_15, .inl (kA 0, 12, .inl (fun _ => 0))), (q_23, .inl (kA 0, 12, .inl (fun _ => 0)))]) _ _ _ _ hP hD hS dX2_init_33 (⟨q_7, q_15, q_23, rfl⟩)

set_option maxRecDepth 100000 in
set_option maxHeartbeats 4000000 in
theorem kX3_init (l : Launch) (D : va_G) (kA : Nat → ClassId) (sz : Nat) (h0 : Nat)  : CtV l yX3_init cX3_init 1 1 1 16 D kA sz ([(h0, .inr (3, [.null, .int 0]))]) [.ref h0] (fun uu => ∃ q1, uu = vdW h0 q1 kA 0 (fun _ => 0)) := by
  refine ct_v (own := RX3) (by decide) rfl (Nat.le_of_ble_eq_true rfl) ?_
  intro p_ e_ s_ m_ ar_ bw_ me_ co_ A ls Q F hnm hK hA hP hD hS hl hsz rt
  have hx := F.1
  have hb := F.2.1
  have hl : lv_has ls 1 [(0, .ref h0)] := hl
  have hP : va_P D vwCl ([(h0, .inr (3, [.null, .int 0]))]) s_.heap := hP
  refine lv_aload_n hx hb dX3_init_0 rfl (lv_at hl 0 rfl) ?_
  refine W.objInit hx hb F.2.2.2.1 (F.2.2.2.2 _ gw_184) (F.2.2.2.2 _ gw_82) (F.2.2.2.2 _ gw_83) rfl (by rw [F.2.2.1]; exact hl.1) rfl dX3_init_1 (Nat.le_of_ble_eq_true rfl) (Nat.le_of_ble_eq_true rfl) ?_
  refine W.eq (g2 := F0 m_ 4 ls []) rfl ?_
  refine lv_aload_n hx hb dX3_init_4 rfl (lv_at hl 0 rfl) ?_
  refine lv_bipush (v := 16) hx hb dX3_init_5 (by decide) ?_
  refine n_int F hK gw_154 hP hD hS hA (n := 16) (by decide) (Nat.le_of_ble_eq_true rfl) (Nat.le_of_ble_eq_true rfl) dX3_init_7 (fun q_7 H hP hD hS => ?_)
  have hP : va_P D vwCl ([(h0, .inr (3, [.null, .int 0])), (q_7, .inl (kA 0, 16, .inl (fun _ => 0)))]) H := hP
  have hD : va_D A ([(h0, .inr (3, [.null, .int 0])), (q_7, .inl (kA 0, 16, .inl (fun _ => 0)))]) := hD
  refine g_putF F hK hP hD hS inX3 tyX3_ok nmX3 0 rfl rfl 0 (by decide) gw_185 rfl rfl hnm rfl rfl rfl (Nat.le_of_ble_eq_true rfl) dX3_init_9 (fun H locs hP hD hS => ?_)
  have hP : va_P D vwCl ([(h0, .inr (3, [.ref q_7, .int 0])), (q_7, .inl (kA 0, 16, .inl (fun _ => 0)))]) H := hP
  have hD : va_D A ([(h0, .inr (3, [.ref q_7, .int 0])), (q_7, .inl (kA 0, 16, .inl (fun _ => 0)))]) := hD
  refine lv_aload_n hx hb dX3_init_12 rfl (lv_at hl 0 rfl) ?_
  refine lv_iconst (v := 0) hx hb dX3_init_13 (by decide) ?_
  refine g_put F hK hP hD hS inX3 tyX3_ok nmX3 0 rfl rfl 1 (by decide) gw_186 rfl rfl rfl rfl (Nat.le_of_ble_eq_true rfl) dX3_init_14 (fun H locs hP hD hS => ?_)
  have hP : va_P D vwCl ([(h0, .inr (3, [.ref q_7, .int 0])), (q_7, .inl (kA 0, 16, .inl (fun _ => 0)))]) H := hP
  have hD : va_D A ([(h0, .inr (3, [.ref q_7, .int 0])), (q_7, .inl (kA 0, 16, .inl (fun _ => 0)))]) := hD
  refine W.cs (cells' := 1) (slots' := 16) rfl rfl ?_
  exact rt ([(h0, .inr (3, [.ref q_7, .int 0])), (q_7, .inl (kA 0, 16, .inl (fun _ => 0)))]) _ _ _ _ hP hD hS dX3_init_17 (⟨q_7, rfl⟩)

set_option maxRecDepth 100000 in
set_option maxHeartbeats 4000000 in
theorem kX4_init (l : Launch) (D : va_G) (kA : Nat → ClassId) (sz : Nat) (h0 : Nat)  : CtV l yX4_init cX4_init 1 1 4 476 D kA sz ([(h0, .inr (4, [.int 0, .int 0, .int 0, .int 0, .int 0, .null, .null, .null, .null]))]) [.ref h0] (fun uu => ∃ q1 q2 q3 q4, uu = wkW h0 q1 q2 q3 q4 kA 3 2 12 (-8) (12 - (-8) - 1) (fun _ => 0) (fun _ => 0) (fun _ => 0) (fun _ => 0)) := by
  refine ct_v (own := RX4) (by decide) rfl (Nat.le_of_ble_eq_true rfl) ?_
  intro p_ e_ s_ m_ ar_ bw_ me_ co_ A ls Q F hnm hK hA hP hD hS hl hsz rt
  have hx := F.1
  have hb := F.2.1
  have hl : lv_has ls 1 [(0, .ref h0)] := hl
  have hP : va_P D vwCl ([(h0, .inr (4, [.int 0, .int 0, .int 0, .int 0, .int 0, .null, .null, .null, .null]))]) s_.heap := hP
  refine lv_aload_n hx hb dX4_init_0 rfl (lv_at hl 0 rfl) ?_
  refine W.objInit hx hb F.2.2.2.1 (F.2.2.2.2 _ gw_117) (F.2.2.2.2 _ gw_82) (F.2.2.2.2 _ gw_83) rfl (by rw [F.2.2.1]; exact hl.1) rfl dX4_init_1 (Nat.le_of_ble_eq_true rfl) (Nat.le_of_ble_eq_true rfl) ?_
  refine W.eq (g2 := F0 m_ 4 ls []) rfl ?_
  refine lv_aload_n hx hb dX4_init_4 rfl (lv_at hl 0 rfl) ?_
  refine lv_bipush (v := 119) hx hb dX4_init_5 (by decide) ?_
  refine n_int F hK gw_154 hP hD hS hA (n := 119) (by decide) (Nat.le_of_ble_eq_true rfl) (Nat.le_of_ble_eq_true rfl) dX4_init_7 (fun q_7 H hP hD hS => ?_)
  have hP : va_P D vwCl ([(h0, .inr (4, [.int 0, .int 0, .int 0, .int 0, .int 0, .null, .null, .null, .null])), (q_7, .inl (kA 0, 119, .inl (fun _ => 0)))]) H := hP
  have hD : va_D A ([(h0, .inr (4, [.int 0, .int 0, .int 0, .int 0, .int 0, .null, .null, .null, .null])), (q_7, .inl (kA 0, 119, .inl (fun _ => 0)))]) := hD
  refine g_put F hK hP hD hS inX4 tyX4_ok nmX4 0 rfl rfl 5 (by decide) gw_131 rfl rfl rfl rfl (Nat.le_of_ble_eq_true rfl) dX4_init_9 (fun H locs hP hD hS => ?_)
  have hP : va_P D vwCl ([(h0, .inr (4, [.int 0, .int 0, .int 0, .int 0, .int 0, .ref q_7, .null, .null, .null])), (q_7, .inl (kA 0, 119, .inl (fun _ => 0)))]) H := hP
  have hD : va_D A ([(h0, .inr (4, [.int 0, .int 0, .int 0, .int 0, .int 0, .ref q_7, .null, .null, .null])), (q_7, .inl (kA 0, 119, .inl (fun _ => 0)))]) := hD
  refine lv_aload_n hx hb dX4_init_12 rfl (lv_at hl 0 rfl) ?_
  refine lv_bipush (v := 119) hx hb dX4_init_13 (by decide) ?_
  refine n_int F hK gw_154 hP hD hS hA (n := 119) (by decide) (Nat.le_of_ble_eq_true rfl) (Nat.le_of_ble_eq_true rfl) dX4_init_15 (fun q_15 H hP hD hS => ?_)
  have hP : va_P D vwCl ([(h0, .inr (4, [.int 0, .int 0, .int 0, .int 0, .int 0, .ref q_7, .null, .null, .null])), (q_7, .inl (kA 0, 119, .inl (fun _ => 0))), (q_15, .inl (kA 0, 119, .inl (fun _ => 0)))]) H := hP
  have hD : va_D A ([(h0, .inr (4, [.int 0, .int 0, .int 0, .int 0, .int 0, .ref q_7, .null, .null, .null])), (q_7, .inl (kA 0, 119, .inl (fun _ => 0))), (q_15, .inl (kA 0, 119, .inl (fun _ => 0)))]) := hD
  refine g_put F hK hP hD hS inX4 tyX4_ok nmX4 0 rfl rfl 6 (by decide) gw_132 rfl rfl rfl rfl (Nat.le_of_ble_eq_true rfl) dX4_init_17 (fun H locs hP hD hS => ?_)
  have hP : va_P D vwCl ([(h0, .inr (4, [.int 0, .int 0, .int 0, .int 0, .int 0, .ref q_7, .ref q_15, .null, .null])), (q_7, .inl (kA 0, 119, .inl (fun _ => 0))), (q_15, .inl (kA 0, 119, .inl (fun _ => 0)))]) H := hP
  have hD : va_D A ([(h0, .inr (4, [.int 0, .int 0, .int 0, .int 0, .int 0, .ref q_7, .ref q_15, .null, .null])), (q_7, .inl (kA 0, 119, .inl (fun _ => 0))), (q_15, .inl (kA 0, 119, .inl (fun _ => 0)))]) := hD
  refine lv_aload_n hx hb dX4_init_20 rfl (lv_at hl 0 rfl) ?_
  refine lv_bipush (v := 119) hx hb dX4_init_21 (by decide) ?_
  refine n_double F hK gw_155 hP hD hS hA (n := 119) (by decide) (Nat.le_of_ble_eq_true rfl) (Nat.le_of_ble_eq_true rfl) dX4_init_23 (fun q_23 H hP hD hS => ?_)
  have hP : va_P D vwCl ([(h0, .inr (4, [.int 0, .int 0, .int 0, .int 0, .int 0, .ref q_7, .ref q_15, .null, .null])), (q_7, .inl (kA 0, 119, .inl (fun _ => 0))), (q_15, .inl (kA 0, 119, .inl (fun _ => 0))), (q_23, .inl (kA 3, 119, .inr (.inr (.inr (.inl (fun _ => 0))))))]) H := hP
  have hD : va_D A ([(h0, .inr (4, [.int 0, .int 0, .int 0, .int 0, .int 0, .ref q_7, .ref q_15, .null, .null])), (q_7, .inl (kA 0, 119, .inl (fun _ => 0))), (q_15, .inl (kA 0, 119, .inl (fun _ => 0))), (q_23, .inl (kA 3, 119, .inr (.inr (.inr (.inl (fun _ => 0))))))]) := hD
  refine g_put F hK hP hD hS inX4 tyX4_ok nmX4 0 rfl rfl 7 (by decide) gw_133 rfl rfl rfl rfl (Nat.le_of_ble_eq_true rfl) dX4_init_25 (fun H locs hP hD hS => ?_)
  have hP : va_P D vwCl ([(h0, .inr (4, [.int 0, .int 0, .int 0, .int 0, .int 0, .ref q_7, .ref q_15, .ref q_23, .null])), (q_7, .inl (kA 0, 119, .inl (fun _ => 0))), (q_15, .inl (kA 0, 119, .inl (fun _ => 0))), (q_23, .inl (kA 3, 119, .inr (.inr (.inr (.inl (fun _ => 0))))))]) H := hP
  have hD : va_D A ([(h0, .inr (4, [.int 0, .int 0, .int 0, .int 0, .int 0, .ref q_7, .ref q_15, .ref q_23, .null])), (q_7, .inl (kA 0, 119, .inl (fun _ => 0))), (q_15, .inl (kA 0, 119, .inl (fun _ => 0))), (q_23, .inl (kA 3, 119, .inr (.inr (.inr (.inl (fun _ => 0))))))]) := hD
  refine lv_aload_n hx hb dX4_init_28 rfl (lv_at hl 0 rfl) ?_
  refine lv_bipush (v := 119) hx hb dX4_init_29 (by decide) ?_
  refine n_double F hK gw_155 hP hD hS hA (n := 119) (by decide) (Nat.le_of_ble_eq_true rfl) (Nat.le_of_ble_eq_true rfl) dX4_init_31 (fun q_31 H hP hD hS => ?_)
  have hP : va_P D vwCl ([(h0, .inr (4, [.int 0, .int 0, .int 0, .int 0, .int 0, .ref q_7, .ref q_15, .ref q_23, .null])), (q_7, .inl (kA 0, 119, .inl (fun _ => 0))), (q_15, .inl (kA 0, 119, .inl (fun _ => 0))), (q_23, .inl (kA 3, 119, .inr (.inr (.inr (.inl (fun _ => 0)))))), (q_31, .inl (kA 3, 119, .inr (.inr (.inr (.inl (fun _ => 0))))))]) H := hP
  have hD : va_D A ([(h0, .inr (4, [.int 0, .int 0, .int 0, .int 0, .int 0, .ref q_7, .ref q_15, .ref q_23, .null])), (q_7, .inl (kA 0, 119, .inl (fun _ => 0))), (q_15, .inl (kA 0, 119, .inl (fun _ => 0))), (q_23, .inl (kA 3, 119, .inr (.inr (.inr (.inl (fun _ => 0)))))), (q_31, .inl (kA 3, 119, .inr (.inr (.inr (.inl (fun _ => 0))))))]) := hD
  refine g_put F hK hP hD hS inX4 tyX4_ok nmX4 0 rfl rfl 8 (by decide) gw_134 rfl rfl rfl rfl (Nat.le_of_ble_eq_true rfl) dX4_init_33 (fun H locs hP hD hS => ?_)
  have hP : va_P D vwCl ([(h0, .inr (4, [.int 0, .int 0, .int 0, .int 0, .int 0, .ref q_7, .ref q_15, .ref q_23, .ref q_31])), (q_7, .inl (kA 0, 119, .inl (fun _ => 0))), (q_15, .inl (kA 0, 119, .inl (fun _ => 0))), (q_23, .inl (kA 3, 119, .inr (.inr (.inr (.inl (fun _ => 0)))))), (q_31, .inl (kA 3, 119, .inr (.inr (.inr (.inl (fun _ => 0))))))]) H := hP
  have hD : va_D A ([(h0, .inr (4, [.int 0, .int 0, .int 0, .int 0, .int 0, .ref q_7, .ref q_15, .ref q_23, .ref q_31])), (q_7, .inl (kA 0, 119, .inl (fun _ => 0))), (q_15, .inl (kA 0, 119, .inl (fun _ => 0))), (q_23, .inl (kA 3, 119, .inr (.inr (.inr (.inl (fun _ => 0)))))), (q_31, .inl (kA 3, 119, .inr (.inr (.inr (.inl (fun _ => 0))))))]) := hD
  refine lv_aload_n hx hb dX4_init_36 rfl (lv_at hl 0 rfl) ?_
  refine lv_iconst (v := 3) hx hb dX4_init_37 (by decide) ?_
  refine lv_iconst (v := 2) hx hb dX4_init_38 (by decide) ?_
  refine lv_bipush (v := 12) hx hb dX4_init_39 (by decide) ?_
  refine lv_bipush (v := (-8)) hx hb dX4_init_41 (by decide) ?_
  have hP : va_P D vwCl (wkW h0 q_7 q_15 q_23 q_31 kA 0 0 0 0 0 (fun _ => 0) (fun _ => 0) (fun _ => 0) (fun _ => 0)) H := hP
  have hD : va_D A (wkW h0 q_7 q_15 q_23 q_31 kA 0 0 0 0 0 (fun _ => 0) (fun _ => 0) (fun _ => 0) (fun _ => 0)) := hD
  refine cl_V_v (wc := (wkW h0 q_7 q_15 q_23 q_31 kA 0 0 0 0 0 (fun _ => 0) (fun _ => 0) (fun _ => 0) (fun _ => 0))) (As := [.int 3, .int 2, .int 12, .int (-8)]) (rest := []) (b := h0) (C := RX4) F hK hP hD hS hA (kX4_setParameters l D kA _ h0 q_7 q_15 q_23 q_31 0 0 0 0 0 (fun _ => 0) (fun _ => 0) (fun _ => 0) (fun _ => 0) 3 2 12 (-8)) gw_121 gw_67 gw_118 gw_120 gw_0 (va_recv hK.1 hP (ci := 4) (q0 := 0) rfl rfl) hdX4_setParameters ⟨Nat.le_of_ble_eq_true rfl, Nat.le_of_ble_eq_true rfl⟩ hl.1 rfl (Nat.le_of_ble_eq_true rfl) dX4_init_43 ⟨Nat.le_of_ble_eq_true rfl, Nat.le_of_ble_eq_true rfl⟩ (fun u_43 H locs hw hP1 hD1 hk1 hFc hS => ?_)
  obtain rfl := hw
  have hP : va_P D vwCl (wkW h0 q_7 q_15 q_23 q_31 kA 3 2 12 (-8) (12 - (-8) - 1) (fun _ => 0) (fun _ => 0) (fun _ => 0) (fun _ => 0)) H := hP1
  have hD : va_D A (wkW h0 q_7 q_15 q_23 q_31 kA 3 2 12 (-8) (12 - (-8) - 1) (fun _ => 0) (fun _ => 0) (fun _ => 0) (fun _ => 0)) := hD1.weaken (fun _ _ _ h => hFc _ h)
  refine W.cs (cells' := 4) (slots' := 476) rfl rfl ?_
  exact rt (wkW h0 q_7 q_15 q_23 q_31 kA 3 2 12 (-8) (12 - (-8) - 1) (fun _ => 0) (fun _ => 0) (fun _ => 0) (fun _ => 0)) _ _ _ _ hP hD hS dX4_init_46 (⟨q_7, q_15, q_23, q_31, rfl⟩)
