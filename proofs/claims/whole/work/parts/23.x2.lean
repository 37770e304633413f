set_option maxRecDepth 100000 in
set_option maxHeartbeats 4000000 in
theorem kX4_setParameters (l : Launch) (D : va_G) (kA : Nat → ClassId) (sz : Nat) (a0 a1 a2 a3 a4 : Nat) (xu xd hi lo xw : Int32) (f0 f1 : Nat → Int32) (d0 d1 : Nat → UInt64) (u1 d1_ h1 l1 : Int32)  : CtV l yX4_setParameters cX4_setParameters 5 0 0 0 D kA sz (wkW a0 a1 a2 a3 a4 kA xu xd hi lo xw f0 f1 d0 d1) [.ref a0, .int u1, .int d1_, .int h1, .int l1] (fun uu => uu = wkW a0 a1 a2 a3 a4 kA u1 d1_ h1 l1 (h1 - l1 - 1) f0 f1 d0 d1) := by
  refine ct_v (own := RX4) (by decide) rfl (Nat.le_of_ble_eq_true rfl) ?_
  intro p_ e_ s_ m_ ar_ bw_ me_ co_ A ls Q F hnm hK hA hP hD hS hl hsz rt
  have hx := F.1
  have hb := F.2.1
  have hl : lv_has ls 5 [(0, .ref a0), (1, .int u1), (2, .int d1_), (3, .int h1), (4, .int l1)] := hl
  have hP : va_P D vwCl (wkW a0 a1 a2 a3 a4 kA xu xd hi lo xw f0 f1 d0 d1) s_.heap := hP
  refine lv_aload_n hx hb dX4_setParameters_0 rfl (lv_at hl 0 rfl) ?_
  refine lv_iload_n hx hb dX4_setParameters_1 rfl (lv_at hl 1 rfl) ?_
  refine g_put F hK hP hD hS inX4 tyX4_ok nmX4 0 rfl rfl 0 (by decide) gw_122 rfl rfl rfl rfl (Nat.le_of_ble_eq_true rfl) dX4_setParameters_2 (fun H locs hP hD hS => ?_)
  have hP : va_P D vwCl (wkW a0 a1 a2 a3 a4 kA u1 xd hi lo xw f0 f1 d0 d1) H := hP
  have hD : va_D A (wkW a0 a1 a2 a3 a4 kA u1 xd hi lo xw f0 f1 d0 d1) := hD
  refine lv_aload_n hx hb dX4_setParameters_5 rfl (lv_at hl 0 rfl) ?_
  refine lv_iload_n hx hb dX4_setParameters_6 rfl (lv_at hl 2 rfl) ?_
  refine g_put F hK hP hD hS inX4 tyX4_ok nmX4 0 rfl rfl 1 (by decide) gw_124 rfl rfl rfl rfl (Nat.le_of_ble_eq_true rfl) dX4_setParameters_7 (fun H locs hP hD hS => ?_)
  have hP : va_P D vwCl (wkW a0 a1 a2 a3 a4 kA u1 d1_ hi lo xw f0 f1 d0 d1) H := hP
  have hD : va_D A (wkW a0 a1 a2 a3 a4 kA u1 d1_ hi lo xw f0 f1 d0 d1) := hD
  refine lv_aload_n hx hb dX4_setParameters_10 rfl (lv_at hl 0 rfl) ?_
  refine lv_iload_n hx hb dX4_setParameters_11 rfl (lv_at hl 3 rfl) ?_
  refine g_put F hK hP hD hS inX4 tyX4_ok nmX4 0 rfl rfl 2 (by decide) gw_126 rfl rfl rfl rfl (Nat.le_of_ble_eq_true rfl) dX4_setParameters_12 (fun H locs hP hD hS => ?_)
  have hP : va_P D vwCl (wkW a0 a1 a2 a3 a4 kA u1 d1_ h1 lo xw f0 f1 d0 d1) H := hP
  have hD : va_D A (wkW a0 a1 a2 a3 a4 kA u1 d1_ h1 lo xw f0 f1 d0 d1) := hD
  refine lv_aload_n hx hb dX4_setParameters_15 rfl (lv_at hl 0 rfl) ?_
  refine lv_iload hx hb dX4_setParameters_16 (lv_at hl 4 rfl) ?_
  refine g_put F hK hP hD hS inX4 tyX4_ok nmX4 0 rfl rfl 3 (by decide) gw_128 rfl rfl rfl rfl (Nat.le_of_ble_eq_true rfl) dX4_setParameters_18 (fun H locs hP hD hS => ?_)
  have hP : va_P D vwCl (wkW a0 a1 a2 a3 a4 kA u1 d1_ h1 l1 xw f0 f1 d0 d1) H := hP
  have hD : va_D A (wkW a0 a1 a2 a3 a4 kA u1 d1_ h1 l1 xw f0 f1 d0 d1) := hD
  refine lv_aload_n hx hb dX4_setParameters_21 rfl (lv_at hl 0 rfl) ?_
  refine lv_iload_n hx hb dX4_setParameters_22 rfl (lv_at hl 3 rfl) ?_
  refine lv_iload hx hb dX4_setParameters_23 (lv_at hl 4 rfl) ?_
  refine lv_isub hx hb dX4_setParameters_25 ?_
  refine lv_iconst (v := 1) hx hb dX4_setParameters_26 (by decide) ?_
  refine lv_isub hx hb dX4_setParameters_27 ?_
  refine g_put F hK hP hD hS inX4 tyX4_ok nmX4 0 rfl rfl 4 (by decide) gw_130 rfl rfl rfl rfl (Nat.le_of_ble_eq_true rfl) dX4_setParameters_28 (fun H locs hP hD hS => ?_)
  have hP : va_P D vwCl (wkW a0 a1 a2 a3 a4 kA u1 d1_ h1 l1 ((h1 - l1) - 1) f0 f1 d0 d1) H := hP
  have hD : va_D A (wkW a0 a1 a2 a3 a4 kA u1 d1_ h1 l1 ((h1 - l1) - 1) f0 f1 d0 d1) := hD
  exact rt (wkW a0 a1 a2 a3 a4 kA u1 d1_ h1 l1 ((h1 - l1) - 1) f0 f1 d0 d1) _ _ _ _ hP hD hS dX4_setParameters_31 (rfl)

set_option maxRecDepth 100000 in
set_option maxHeartbeats 4000000 in
theorem kX4_after (l : Launch) (D : va_G) (kA : Nat → ClassId) (sz : Nat) (a0 a1 a2 a3 a4 : Nat) (xu xd hi lo xw : Int32) (f0 f1 : Nat → Int32) (d0 d1 : Nat → UInt64) (x b : Int32)  : CtI l yX4_after cX4_after 3 .int 0 D kA sz (wkW a0 a1 a2 a3 a4 kA xu xd hi lo xw f0 f1 d0 d1) [.ref a0, .int x, .int b] (fun r uu => (r = if b = 0 then x + xu else x + -xd) ∧ uu = wkW a0 a1 a2 a3 a4 kA xu xd hi lo xw f0 f1 d0 d1) := by
  refine ct_i (own := RX4) (by decide) rfl (Nat.le_of_ble_eq_true rfl) ?_
  intro p_ e_ s_ m_ ar_ bw_ me_ co_ A ls Q F hnm hK hA hP hD hS hl hsz rt
  have hx := F.1
  have hb := F.2.1
  have hl : lv_has ls 3 [(0, .ref a0), (1, .int x), (2, .int b)] := hl
  have hP : va_P D vwCl (wkW a0 a1 a2 a3 a4 kA xu xd hi lo xw f0 f1 d0 d1) s_.heap := hP
  refine lv_iload_n hx hb dX4_after_0 rfl (lv_at hl 2 rfl) ?_
  refine lv_if_eq (tgt := 13) hx hb dX4_after_1 (by decide) (fun c_1 => ?_) (fun c_1 => ?_)
  · refine lv_iload_n hx hb dX4_after_13 rfl (lv_at hl 1 rfl) ?_
    refine lv_aload_n hx hb dX4_after_14 rfl (lv_at hl 0 rfl) ?_
    refine g_get F hK hP inX4 0 rfl rfl 0 (by decide) gw_122 rfl (v := .int xu) rfl dX4_after_15 ?_
    refine lv_iadd hx hb dX4_after_18 ?_
    exact rt _ (wkW a0 a1 a2 a3 a4 kA xu xd hi lo xw f0 f1 d0 d1) _ _ _ _ hP hD hS dX4_after_19 (⟨(if_pos c_1).symm, rfl⟩)
  · refine lv_iload_n hx hb dX4_after_4 rfl (lv_at hl 1 rfl) ?_
    refine lv_aload_n hx hb dX4_after_5 rfl (lv_at hl 0 rfl) ?_
    refine g_get F hK hP inX4 0 rfl rfl 1 (by decide) gw_124 rfl (v := .int xd) rfl dX4_after_6 ?_
    refine lv_isub hx hb dX4_after_9 ?_
    refine lv_goto (tgt := 19) hx hb dX4_after_10 (by decide) ?_
    exact rt _ (wkW a0 a1 a2 a3 a4 kA xu xd hi lo xw f0 f1 d0 d1) _ _ _ _ hP hD hS dX4_after_19 (⟨by rw [if_neg c_1, ← Int32.sub_eq_add_neg], rfl⟩)

set_option maxRecDepth 100000 in
set_option maxHeartbeats 4000000 in
theorem kX4_verdictAt (l : Launch) (D : va_G) (kA : Nat → ClassId) (sz : Nat) (a0 a1 a2 a3 a4 : Nat) (xu xd hi lo xw : Int32) (f0 f1 : Nat → Int32) (d0 d1 : Nat → UInt64) (x : Int32)  : CtI l yX4_verdictAt cX4_verdictAt 2 .int 0 D kA sz (wkW a0 a1 a2 a3 a4 kA xu xd hi lo xw f0 f1 d0 d1) [.ref a0, .int x] (fun r uu => (r = if x < hi then (if lo < x then 0 else 2) else 1) ∧ uu = wkW a0 a1 a2 a3 a4 kA xu xd hi lo xw f0 f1 d0 d1) := by
  refine ct_i (own := RX4) (by decide) rfl (Nat.le_of_ble_eq_true rfl) ?_
  intro p_ e_ s_ m_ ar_ bw_ me_ co_ A ls Q F hnm hK hA hP hD hS hl hsz rt
  have hx := F.1
  have hb := F.2.1
  have hl : lv_has ls 2 [(0, .ref a0), (1, .int x)] := hl
  have hP : va_P D vwCl (wkW a0 a1 a2 a3 a4 kA xu xd hi lo xw f0 f1 d0 d1) s_.heap := hP
  refine lv_iload_n hx hb dX4_verdictAt_0 rfl (lv_at hl 1 rfl) ?_
  refine lv_aload_n hx hb dX4_verdictAt_1 rfl (lv_at hl 0 rfl) ?_
  refine g_get F hK hP inX4 0 rfl rfl 2 (by decide) gw_126 rfl (v := .int hi) rfl dX4_verdictAt_2 ?_
  refine lv_icmp_lt (tgt := 10) hx hb dX4_verdictAt_5 (by decide) (fun c_5 => ?_) (fun c_5 => ?_)
  · refine lv_iload_n hx hb dX4_verdictAt_10 rfl (lv_at hl 1 rfl) ?_
    refine lv_aload_n hx hb dX4_verdictAt_11 rfl (lv_at hl 0 rfl) ?_
    refine g_get F hK hP inX4 0 rfl rfl 3 (by decide) gw_128 rfl (v := .int lo) rfl dX4_verdictAt_12 ?_
    refine lv_icmp_gt (tgt := 22) hx hb dX4_verdictAt_15 (by decide) (fun c_15 => ?_) (fun c_15 => ?_)
    · refine lv_iconst (v := 0) hx hb dX4_verdictAt_22 (by decide) ?_
      exact rt _ (wkW a0 a1 a2 a3 a4 kA xu xd hi lo xw f0 f1 d0 d1) _ _ _ _ hP hD hS dX4_verdictAt_23 (⟨by rw [if_pos c_5, if_pos c_15], rfl⟩)
    · refine lv_iconst (v := 2) hx hb dX4_verdictAt_18 (by decide) ?_
      refine lv_goto (tgt := 23) hx hb dX4_verdictAt_19 (by decide) ?_
      exact rt _ (wkW a0 a1 a2 a3 a4 kA xu xd hi lo xw f0 f1 d0 d1) _ _ _ _ hP hD hS dX4_verdictAt_23 (⟨by rw [if_pos c_5, if_neg c_15], rfl⟩)
  · refine lv_iconst (v := 1) hx hb dX4_verdictAt_8 (by decide) ?_
    exact rt _ (wkW a0 a1 a2 a3 a4 kA xu xd hi lo xw f0 f1 d0 d1) _ _ _ _ hP hD hS dX4_verdictAt_9 (⟨(if_neg c_5).symm, rfl⟩)

set_option maxRecDepth 100000 in
set_option maxHeartbeats 4000000 in
theorem kX4_indexOfZero (l : Launch) (D : va_G) (kA : Nat → ClassId) (sz : Nat) (a0 a1 a2 a3 a4 : Nat) (xu xd hi lo xw : Int32) (f0 f1 : Nat → Int32) (d0 d1 : Nat → UInt64) (B : Nat) (hlo : lo = nI B - 60) (hB : B ≤ 59) : CtI l yX4_indexOfZero cX4_indexOfZero 1 .int 0 D kA sz (wkW a0 a1 a2 a3 a4 kA xu xd hi lo xw f0 f1 d0 d1) [.ref a0] (fun r uu => r = nI (59 - B) ∧ uu = wkW a0 a1 a2 a3 a4 kA xu xd hi lo xw f0 f1 d0 d1) := by
  subst hlo
  refine ct_i (own := RX4) (by decide) rfl (Nat.le_of_ble_eq_true rfl) ?_
  intro p_ e_ s_ m_ ar_ bw_ me_ co_ A ls Q F hnm hK hA hP hD hS hl hsz rt
  have hx := F.1
  have hb := F.2.1
  have hl : lv_has ls 1 [(0, .ref a0)] := hl
  have hP : va_P D vwCl (wkW a0 a1 a2 a3 a4 kA xu xd hi (nI B - 60) xw f0 f1 d0 d1) s_.heap := hP
  refine lv_aload_n hx hb dX4_indexOfZero_0 rfl (lv_at hl 0 rfl) ?_
  refine g_get F hK hP inX4 0 rfl rfl 3 (by decide) gw_128 rfl (v := .int (nI B - 60)) rfl dX4_indexOfZero_1 ?_
  refine lv_ineg hx hb dX4_indexOfZero_4 ?_
  refine lv_iconst (v := 1) hx hb dX4_indexOfZero_5 (by decide) ?_
  refine lv_isub hx hb dX4_indexOfZero_6 ?_
  exact rt _ (wkW a0 a1 a2 a3 a4 kA xu xd hi (nI B - 60) xw f0 f1 d0 d1) _ _ _ _ hP hD hS dX4_indexOfZero_7 (⟨iz_eq hB, rfl⟩)

set_option maxRecDepth 100000 in
set_option maxHeartbeats 4000000 in
theorem kX4_sumOfCounts (l : Launch) (D : va_G) (kA : Nat → ClassId) (sz : Nat) (a0 a1 a2 a3 a4 : Nat) (xu xd hi lo xw : Int32) (f0 f1 : Nat → Int32) (d0 d1 : Nat → UInt64) (u d w lo9 hi9 : Nat) (x : Int32) (hu : xu = nI u) (hd0 : xd = nI d) (hw0 : xw = nI w) (hwb : w ≤ 119) (hx9 : (if x < 0 then 0 else x) = nI lo9) (hl9 : lo9 < 2 ^ 20) (hh9 : hi9 < 2 ^ 20) : CtI l yX4_sumOfCounts cX4_sumOfCounts 5 .int 1 D kA sz (wkW a0 a1 a2 a3 a4 kA xu xd hi lo xw f0 f1 d0 d1) [.ref a0, .int x, .int (nI hi9)] (fun r uu => r = smI f0 lo9 (min hi9 w - lo9) ∧ uu = wkW a0 a1 a2 a3 a4 kA xu xd hi lo xw f0 f1 d0 d1) := by
  subst hu
  subst hd0
  subst hw0
  refine ct_i (own := RX4) (by decide) rfl (Nat.le_of_ble_eq_true rfl) ?_
  intro p_ e_ s_ m_ ar_ bw_ me_ co_ A ls Q F hnm hK hA hP hD hS hl hsz rt
  have hx := F.1
  have hb := F.2.1
  have hl : lv_has ls 5 [(0, .ref a0), (1, .int x), (2, .int (nI hi9))] := hl
  have hP : va_P D vwCl (wkW a0 a1 a2 a3 a4 kA (nI u) (nI d) hi lo (nI w) f0 f1 d0 d1) s_.heap := hP
  refine lv_iconst (v := 0) hx hb dX4_sumOfCounts_0 (by decide) ?_
  refine lv_istore_n (lv' := [(3, .int 0), (0, .ref a0), (1, .int x), (2, .int (nI hi9))]) hx hb dX4_sumOfCounts_1 rfl hl (by decide) rfl (fun ls hl => ?_)
  refine lv_iload_n hx hb dX4_sumOfCounts_2 rfl (lv_at hl 2 rfl) ?_
  refine lv_iconst (v := 0) hx hb dX4_sumOfCounts_3 (by decide) ?_
  refine cl_S_i (wc := []) (As := [.int x, .int 0]) (rest := []) F hK P_nil D_nil hS hA (kJ9_max_7cf53 l D kA _ x 0 ) gw_479 gw_72 gw_477 gw_478 hdJ9_max_7cf53 ⟨Nat.le_of_ble_eq_true rfl, Nat.le_of_ble_eq_true rfl⟩ hl.1 rfl (Nat.le_of_ble_eq_true rfl) dX4_sumOfCounts_4 ⟨Nat.le_of_ble_eq_true rfl, Nat.le_of_ble_eq_true rfl⟩ (fun r_4 u_4 H locs hw hP1 hD1 hk1 hFc hS => ?_)
  obtain ⟨rfl, rfl⟩ := hw
  have hP := hp_non hP hk1
  rw [hx9]
  refine lv_istore (lv' := [(4, .int (nI lo9)), (3, .int 0), (0, .ref a0), (1, .int x), (2, .int (nI hi9))]) hx hb dX4_sumOfCounts_7 hl (by decide) rfl (fun ls hl => ?_)
  have lp_9 : ∀ (n_9 : Nat) (k : Nat), (k = 0 ∨ lo9 + k ≤ min hi9 w) → (w - k) < n_9 → ∀ (H : Heap) (locs : List Loc) (ls : Array Slot), va_P D vwCl (wkW a0 a1 a2 a3 a4 kA (nI u) (nI d) hi lo (nI w) f0 f1 d0 d1) H → va_D A (wkW a0 a1 a2 a3 a4 kA (nI u) (nI d) hi lo (nI w) f0 f1 d0 d1) → va_S A s_.heap H locs → lv_has ls 5 [(0, .ref a0), (1, .int x), (2, .int (nI hi9)), (3, .int (smI f0 lo9 k)), (4, .int (nI (lo9 + k)))] → W p_ l e_ (rmC 1 0 0) s_ m_ ar_ bw_ me_ co_ H locs 0 0 Q (F0 m_ 9 ls []) := by
    intro n_9
    induction n_9 with
    | zero =>
      intro k hk hm_9
      exact absurd hm_9 (Nat.not_lt_zero _)
    | succ n_9 ih_9 =>
      intro k hk hm_9 H locs ls hP hD hS hl
      refine lv_iload hx hb dX4_sumOfCounts_9 (lv_at hl 4 rfl) ?_
      refine lv_iload_n hx hb dX4_sumOfCounts_11 rfl (lv_at hl 2 rfl) ?_
      refine lv_aload_n hx hb dX4_sumOfCounts_12 rfl (lv_at hl 0 rfl) ?_
      refine g_get F hK hP inX4 0 rfl rfl 4 (by decide) gw_130 rfl (v := .int (nI w)) rfl dX4_sumOfCounts_13 ?_
      refine cl_S_i (wc := []) (As := [.int (nI hi9), .int (nI w)]) (rest := [.int (nI (lo9 + k))]) F hK P_nil D_nil hS hA (kJ9_min_7cf53 l D kA _ (nI hi9) (nI w) ) gw_482 gw_72 gw_480 gw_481 hdJ9_min_7cf53 ⟨Nat.le_of_ble_eq_true rfl, Nat.le_of_ble_eq_true rfl⟩ hl.1 rfl (Nat.le_of_ble_eq_true rfl) dX4_sumOfCounts_16 ⟨Nat.le_of_ble_eq_true rfl, Nat.le_of_ble_eq_true rfl⟩ (fun r_16 u_16 H locs hw hP1 hD1 hk1 hFc hS => ?_)
      obtain ⟨rfl, rfl⟩ := hw
      have hP := hp_non hP hk1
      rw [minI (by omega) (by omega)]
      refine b_ge F (a := lo9 + k) (b := min hi9 w) (tgt := 38) dX4_sumOfCounts_19 (by decide) (by omega) (by omega) (fun c_19 => ?_) (fun c_19 => ?_)
      · refine lv_iload_n hx hb dX4_sumOfCounts_38 rfl (lv_at hl 3 rfl) ?_
        exact rt _ (wkW a0 a1 a2 a3 a4 kA (nI u) (nI d) hi lo (nI w) f0 f1 d0 d1) _ _ _ _ hP hD hS dX4_sumOfCounts_39 (⟨by rw [show min hi9 w - lo9 = k by omega], rfl⟩)
      · refine lv_iload_n hx hb dX4_sumOfCounts_22 rfl (lv_at hl 3 rfl) ?_
        refine lv_aload_n hx hb dX4_sumOfCounts_23 rfl (lv_at hl 0 rfl) ?_
        refine g_get F hK hP inX4 0 rfl rfl 5 (by decide) gw_131 rfl (v := .ref a1) rfl dX4_sumOfCounts_24 ?_
        refine lv_iload hx hb dX4_sumOfCounts_27 (lv_at hl 4 rfl) ?_
        refine a_ild F hK hP 1 (f := f0) rfl (j := lo9 + k) (by omega) (by decide) dX4_sumOfCounts_29 ?_
        refine lv_iadd hx hb dX4_sumOfCounts_30 ?_
        refine lv_istore_n (lv' := [(3, .int (smI f0 lo9 (k + 1))), (0, .ref a0), (1, .int x), (2, .int (nI hi9)), (4, .int (nI (lo9 + k)))]) hx hb dX4_sumOfCounts_31 rfl hl (by decide) rfl (fun ls hl => ?_)
        refine lv_iinc (v := nI (lo9 + k + 1)) (lv' := [(4, .int (nI (lo9 + k + 1))), (3, .int (smI f0 lo9 (k + 1))), (0, .ref a0), (1, .int x), (2, .int (nI hi9))]) hx hb dX4_sumOfCounts_32 hl (k := 4) rfl (nI_add (lo9 + k) 1) (by decide) rfl (fun ls hl => ?_)
        refine lv_goto (tgt := 9) hx hb dX4_sumOfCounts_35 (by decide) ?_
        exact ih_9  (k + 1) (Or.inr (by omega)) (by omega) _ _ _ hP hD hS (lv_sub hl [2, 3, 4, 1, 0] rfl)
  exact lp_9 _ 0 (Or.inl rfl) (Nat.lt_succ_self _) _ _ _ hP hD hS (lv_sub hl [2, 3, 4, 1, 0] rfl)

set_option maxRecDepth 100000 in
set_option maxHeartbeats 4000000 in
theorem kX4_stepCounts (l : Launch) (D : va_G) (kA : Nat → ClassId) (sz : Nat) (a0 a1 a2 a3 a4 : Nat) (xu xd hi lo xw : Int32) (f0 f1 : Nat → Int32) (d0 d1 : Nat → UInt64) (u d w : Nat) (a : Nat → Int32) (hu : xu = nI u) (hd0 : xd = nI d) (hw0 : xw = nI w) (hwb : w ≤ 119) (hub : u ≤ 9) (hdb : d ≤ 9) (hA0 : XR w f0 a) : CtV l yX4_stepCounts cX4_stepCounts 3 1 0 0 D kA sz (wkW a0 a1 a2 a3 a4 kA xu xd hi lo xw f0 f1 d0 d1) [.ref a0] (fun uu => ∃ b1 b2 e0 e1, XR w e0 (scat (· + ·) 0 a a u d w w) ∧ uu = wkW a0 b1 b2 a3 a4 kA xu xd hi lo xw e0 e1 d0 d1) := by
  subst hu
  subst hd0
  subst hw0
  refine ct_v (own := RX4) (by decide) rfl (Nat.le_of_ble_eq_true rfl) ?_
  intro p_ e_ s_ m_ ar_ bw_ me_ co_ A ls Q F hnm hK hA hP hD hS hl hsz rt
  have hx := F.1
  have hb := F.2.1
  have hl : lv_has ls 3 [(0, .ref a0)] := hl
  have hP : va_P D vwCl (wkW a0 a1 a2 a3 a4 kA (nI u) (nI d) hi lo (nI w) f0 f1 d0 d1) s_.heap := hP
  refine lv_aload_n hx hb dX4_stepCounts_0 rfl (lv_at hl 0 rfl) ?_
  refine g_get F hK hP inX4 0 rfl rfl 6 (by decide) gw_132 rfl (v := .ref a2) rfl dX4_stepCounts_1 ?_
  refine lv_astore_n (lv' := [(1, .ref a2), (0, .ref a0)]) hx hb dX4_stepCounts_4 rfl hl (by decide) rfl (fun ls hl => ?_)
  refine lv_aload_n hx hb dX4_stepCounts_5 rfl (lv_at hl 0 rfl) ?_
  refine lv_iconst (v := 0) hx hb dX4_stepCounts_6 (by decide) ?_
  refine cl_S_v (wc := (arI a2 kA 119 f1)) (As := [.ref a2, .int 0]) (rest := []) F hK (P_on1 2 hP rfl) (D_on1 2 hD rfl) hS hA (kJ7_fill_53178 l D kA _ a2 119 f1 0 (by decide)) gw_468 gw_73 gw_466 gw_467 hdJ7_fill_53178 ⟨Nat.le_of_ble_eq_true rfl, Nat.le_of_ble_eq_true rfl⟩ hl.1 rfl (Nat.le_of_ble_eq_true rfl) dX4_stepCounts_7 ⟨Nat.le_of_ble_eq_true rfl, Nat.le_of_ble_eq_true rfl⟩ (fun u_7 H locs hw hP1 hD1 hk1 hFc hS => ?_)
  obtain ⟨g0, hg0, rfl⟩ := hw
  have hPD := hp_set (e1 := .inl (kA 0, 119, .inl g0)) 2 hP hD rfl hk1 hP1
  have hP : va_P D vwCl (wkW a0 a1 a2 a3 a4 kA (nI u) (nI d) hi lo (nI w) f0 g0 d0 d1) H := hPD.1
  have hD : va_D A (wkW a0 a1 a2 a3 a4 kA (nI u) (nI d) hi lo (nI w) f0 g0 d0 d1) := hPD.2
  refine lv_iconst (v := 0) hx hb dX4_stepCounts_10 (by decide) ?_
  refine lv_istore_n (lv' := [(2, .int 0), (1, .ref a2), (0, .ref a0)]) hx hb dX4_stepCounts_11 rfl hl (by decide) rfl (fun ls hl => ?_)
  have lp_12 : ∀ (n_12 : Nat) (i : Nat) (g1 : Nat → Int32), (i ≤ w) → (XR w g1 (scat (· + ·) 0 a a u d w i)) → (w - i) < n_12 → ∀ (H : Heap) (locs : List Loc) (ls : Array Slot), va_P D vwCl (wkW a0 a1 a2 a3 a4 kA (nI u) (nI d) hi lo (nI w) f0 g1 d0 d1) H → va_D A (wkW a0 a1 a2 a3 a4 kA (nI u) (nI d) hi lo (nI w) f0 g1 d0 d1) → va_S A s_.heap H locs → lv_has ls 3 [(0, .ref a0), (1, .ref a2), (2, .int (nI i))] → W p_ l e_ (rmC 1 0 0) s_ m_ ar_ bw_ me_ co_ H locs 0 0 Q (F0 m_ 12 ls []) := by
    intro n_12
    induction n_12 with
    | zero =>
      intro i g1 hi9 hR hm_12
      exact absurd hm_12 (Nat.not_lt_zero _)
    | succ n_12 ih_12 =>
      intro i g1 hi9 hR hm_12 H locs ls hP hD hS hl
      refine lv_iload_n hx hb dX4_stepCounts_12 rfl (lv_at hl 2 rfl) ?_
      refine lv_aload_n hx hb dX4_stepCounts_13 rfl (lv_at hl 0 rfl) ?_
      refine g_get F hK hP inX4 0 rfl rfl 4 (by decide) gw_130 rfl (v := .int (nI w)) rfl dX4_stepCounts_14 ?_
      refine b_ge F (a := i) (b := w) (tgt := 82) dX4_stepCounts_17 (by decide) (by omega) (by omega) (fun c_17 => ?_) (fun c_17 => ?_)
      · obtain rfl : w = i := by omega
        have hP : va_P D vwCl ([(a0, .inr (4, [.int (nI u), .int (nI d), .int hi, .int lo, .int (nI w), .ref a1, .ref a2, .ref a3, .ref a4])), (a1, .inl (kA 0, 119, .inl f0)), (a2, .inl (kA 0, 119, .inl g1)), (a3, .inl (kA 3, 119, .inr (.inr (.inr (.inl d0))))), (a4, .inl (kA 3, 119, .inr (.inr (.inr (.inl d1)))))]) H := hP
        have hD : va_D A ([(a0, .inr (4, [.int (nI u), .int (nI d), .int hi, .int lo, .int (nI w), .ref a1, .ref a2, .ref a3, .ref a4])), (a1, .inl (kA 0, 119, .inl f0)), (a2, .inl (kA 0, 119, .inl g1)), (a3, .inl (kA 3, 119, .inr (.inr (.inr (.inl d0))))), (a4, .inl (kA 3, 119, .inr (.inr (.inr (.inl d1)))))]) := hD
        refine lv_aload_n hx hb dX4_stepCounts_82 rfl (lv_at hl 0 rfl) ?_
        refine lv_aload_n hx hb dX4_stepCounts_83 rfl (lv_at hl 0 rfl) ?_
        refine g_get F hK hP inX4 0 rfl rfl 5 (by decide) gw_131 rfl (v := .ref a1) rfl dX4_stepCounts_84 ?_
        refine g_put F hK hP hD hS inX4 tyX4_ok nmX4 0 rfl rfl 6 (by decide) gw_132 rfl rfl rfl rfl (Nat.le_of_ble_eq_true rfl) dX4_stepCounts_87 (fun H locs hP hD hS => ?_)
        have hP : va_P D vwCl ([(a0, .inr (4, [.int (nI u), .int (nI d), .int hi, .int lo, .int (nI w), .ref a1, .ref a1, .ref a3, .ref a4])), (a1, .inl (kA 0, 119, .inl f0)), (a2, .inl (kA 0, 119, .inl g1)), (a3, .inl (kA 3, 119, .inr (.inr (.inr (.inl d0))))), (a4, .inl (kA 3, 119, .inr (.inr (.inr (.inl d1)))))]) H := hP
        have hD : va_D A ([(a0, .inr (4, [.int (nI u), .int (nI d), .int hi, .int lo, .int (nI w), .ref a1, .ref a1, .ref a3, .ref a4])), (a1, .inl (kA 0, 119, .inl f0)), (a2, .inl (kA 0, 119, .inl g1)), (a3, .inl (kA 3, 119, .inr (.inr (.inr (.inl d0))))), (a4, .inl (kA 3, 119, .inr (.inr (.inr (.inl d1)))))]) := hD
        refine lv_aload_n hx hb dX4_stepCounts_90 rfl (lv_at hl 0 rfl) ?_
        refine lv_aload_n hx hb dX4_stepCounts_91 rfl (lv_at hl 1 rfl) ?_
        refine g_put F hK hP hD hS inX4 tyX4_ok nmX4 0 rfl rfl 5 (by decide) gw_131 rfl rfl rfl rfl (Nat.le_of_ble_eq_true rfl) dX4_stepCounts_92 (fun H locs hP hD hS => ?_)
        have hP : va_P D vwCl ([(a0, .inr (4, [.int (nI u), .int (nI d), .int hi, .int lo, .int (nI w), .ref a2, .ref a1, .ref a3, .ref a4])), (a1, .inl (kA 0, 119, .inl f0)), (a2, .inl (kA 0, 119, .inl g1)), (a3, .inl (kA 3, 119, .inr (.inr (.inr (.inl d0))))), (a4, .inl (kA 3, 119, .inr (.inr (.inr (.inl d1)))))]) H := hP
        have hD : va_D A ([(a0, .inr (4, [.int (nI u), .int (nI d), .int hi, .int lo, .int (nI w), .ref a2, .ref a1, .ref a3, .ref a4])), (a1, .inl (kA 0, 119, .inl f0)), (a2, .inl (kA 0, 119, .inl g1)), (a3, .inl (kA 3, 119, .inr (.inr (.inr (.inl d0))))), (a4, .inl (kA 3, 119, .inr (.inr (.inr (.inl d1)))))]) := hD
        have hP := P_perm pm_12 hP
        have hD := D_perm pm_12 hD
        have hP : va_P D vwCl (wkW a0 a2 a1 a3 a4 kA (nI u) (nI d) hi lo (nI w) g1 f0 d0 d1) H := hP
        have hD : va_D A (wkW a0 a2 a1 a3 a4 kA (nI u) (nI d) hi lo (nI w) g1 f0 d0 d1) := hD
        exact rt (wkW a0 a2 a1 a3 a4 kA (nI u) (nI d) hi lo (nI w) g1 f0 d0 d1) _ _ _ _ hP hD hS dX4_stepCounts_95 (⟨a2, a1, g1, f0, hR, rfl⟩)
      · refine lv_iload_n hx hb dX4_stepCounts_20 rfl (lv_at hl 2 rfl) ?_
        refine lv_aload_n hx hb dX4_stepCounts_21 rfl (lv_at hl 0 rfl) ?_
        refine g_get F hK hP inX4 0 rfl rfl 0 (by decide) gw_122 rfl (v := .int (nI u)) rfl dX4_stepCounts_22 ?_
        refine n_add F (a := i) (b := u) dX4_stepCounts_25 ?_
        refine lv_aload_n hx hb dX4_stepCounts_26 rfl (lv_at hl 0 rfl) ?_
        refine g_get F hK hP inX4 0 rfl rfl 4 (by decide) gw_130 rfl (v := .int (nI w)) rfl dX4_stepCounts_27 ?_
        refine b_ge F (a := i + u) (b := w) (tgt := 50) dX4_stepCounts_30 (by decide) (by omega) (by omega) (fun c_30 => ?_) (fun c_30 => ?_)
        · have hM1 : XR w g1 (sUp (· + ·) a u w i (scat (· + ·) 0 a a u d w i)) := XR_up0 hR (by omega)
          refine lv_iload_n hx hb dX4_stepCounts_50 rfl (lv_at hl 2 rfl) ?_
          refine lv_aload_n hx hb dX4_stepCounts_51 rfl (lv_at hl 0 rfl) ?_
          refine g_get F hK hP inX4 0 rfl rfl 1 (by decide) gw_124 rfl (v := .int (nI d)) rfl dX4_stepCounts_52 ?_
          refine lv_isub hx hb dX4_stepCounts_55 ?_
          refine lv_if_lt (tgt := 76) hx hb dX4_stepCounts_56 (by decide) (fun c_56 => ?_) (fun c_56 => ?_)
          · have h56 := (sbm (by omega) (by omega)).mp c_56
            refine lv_iinc (v := nI (i + 1)) (lv' := [(2, .int (nI (i + 1))), (0, .ref a0), (1, .ref a2)]) hx hb dX4_stepCounts_76 hl (k := 2) rfl (nI_add i 1) (by decide) rfl (fun ls hl => ?_)
            refine lv_goto (tgt := 12) hx hb dX4_stepCounts_79 (by decide) ?_
            have hM2 : XR w (g1) (scat (· + ·) 0 a a u d w (i + 1)) := XR_dn0 hM1 (by omega)
            exact ih_12  (i + 1) g1 (by omega) hM2 (by omega) _ _ _ hP hD hS (lv_sub hl [1, 2, 0] rfl)
          · have h56 : ¬ i < d := fun h => c_56 ((sbm (by omega) (by omega)).mpr h)
            refine lv_aload_n hx hb dX4_stepCounts_59 rfl (lv_at hl 1 rfl) ?_
            refine lv_iload_n hx hb dX4_stepCounts_60 rfl (lv_at hl 2 rfl) ?_
            refine lv_aload_n hx hb dX4_stepCounts_61 rfl (lv_at hl 0 rfl) ?_
            refine g_get F hK hP inX4 0 rfl rfl 1 (by decide) gw_124 rfl (v := .int (nI d)) rfl dX4_stepCounts_62 ?_
            refine n_sub F (a := i) (b := d) dX4_stepCounts_65 (by omega) ?_
            refine lv_dup2_11 hx hb dX4_stepCounts_66 rfl rfl ?_
            refine a_ild F hK hP 2 (f := g1) rfl (j := i - d) (by omega) (by decide) dX4_stepCounts_67 ?_
            rw [show (g1 (i - d)) = (sUp (· + ·) a u w i (scat (· + ·) 0 a a u d w i) (i - d)) from (hM1 (i - d) (by omega))]
            refine lv_aload_n hx hb dX4_stepCounts_68 rfl (lv_at hl 0 rfl) ?_
            refine g_get F hK hP inX4 0 rfl rfl 5 (by decide) gw_131 rfl (v := .ref a1) rfl dX4_stepCounts_69 ?_
            refine lv_iload_n hx hb dX4_stepCounts_72 rfl (lv_at hl 2 rfl) ?_
            refine a_ild F hK hP 1 (f := f0) rfl (j := i) (by omega) (by decide) dX4_stepCounts_73 ?_
            rw [show (f0 i) = (a i) from (hA0 i (by omega))]
            refine lv_iadd hx hb dX4_stepCounts_74 ?_
            refine a_ist F hK hP hD hS 2 (f := g1) rfl (j := i - d) (by omega) (by decide) dX4_stepCounts_75 (fun H locs hP hD hS => ?_)
            have hP : va_P D vwCl (wkW a0 a1 a2 a3 a4 kA (nI u) (nI d) hi lo (nI w) f0 (upd g1 (i - d) ((sUp (· + ·) a u w i (scat (· + ·) 0 a a u d w i) (i - d)) + (a i))) d0 d1) H := hP
            have hD : va_D A (wkW a0 a1 a2 a3 a4 kA (nI u) (nI d) hi lo (nI w) f0 (upd g1 (i - d) ((sUp (· + ·) a u w i (scat (· + ·) 0 a a u d w i) (i - d)) + (a i))) d0 d1) := hD
            refine lv_iinc (v := nI (i + 1)) (lv' := [(2, .int (nI (i + 1))), (0, .ref a0), (1, .ref a2)]) hx hb dX4_stepCounts_76 hl (k := 2) rfl (nI_add i 1) (by decide) rfl (fun ls hl => ?_)
            refine lv_goto (tgt := 12) hx hb dX4_stepCounts_79 (by decide) ?_
            have hM2 : XR w (vf_upd (g1) (i - d) (sUp (· + ·) a u w i (scat (· + ·) 0 a a u d w i) (i - d) + a i)) (scat (· + ·) 0 a a u d w (i + 1)) := XR_dn hM1 (by omega) rfl
            exact ih_12  (i + 1) (vf_upd (g1) (i - d) (sUp (· + ·) a u w i (scat (· + ·) 0 a a u d w i) (i - d) + a i)) (by omega) hM2 (by omega) _ _ _ hP hD hS (lv_sub hl [1, 2, 0] rfl)
        · refine lv_aload_n hx hb dX4_stepCounts_33 rfl (lv_at hl 1 rfl) ?_
          refine lv_iload_n hx hb dX4_stepCounts_34 rfl (lv_at hl 2 rfl) ?_
          refine lv_aload_n hx hb dX4_stepCounts_35 rfl (lv_at hl 0 rfl) ?_
          refine g_get F hK hP inX4 0 rfl rfl 0 (by decide) gw_122 rfl (v := .int (nI u)) rfl dX4_stepCounts_36 ?_
          refine n_add F (a := i) (b := u) dX4_stepCounts_39 ?_
          refine lv_dup2_11 hx hb dX4_stepCounts_40 rfl rfl ?_
          refine a_ild F hK hP 2 (f := g1) rfl (j := i + u) (by omega) (by decide) dX4_stepCounts_41 ?_
          rw [show (g1 (i + u)) = (scat (· + ·) 0 a a u d w i (i + u)) from (hR (i + u) (by omega))]
          refine lv_aload_n hx hb dX4_stepCounts_42 rfl (lv_at hl 0 rfl) ?_
          refine g_get F hK hP inX4 0 rfl rfl 5 (by decide) gw_131 rfl (v := .ref a1) rfl dX4_stepCounts_43 ?_
          refine lv_iload_n hx hb dX4_stepCounts_46 rfl (lv_at hl 2 rfl) ?_
          refine a_ild F hK hP 1 (f := f0) rfl (j := i) (by omega) (by decide) dX4_stepCounts_47 ?_
          rw [show (f0 i) = (a i) from (hA0 i (by omega))]
          refine lv_iadd hx hb dX4_stepCounts_48 ?_
          refine a_ist F hK hP hD hS 2 (f := g1) rfl (j := i + u) (by omega) (by decide) dX4_stepCounts_49 (fun H locs hP hD hS => ?_)
          have hP : va_P D vwCl (wkW a0 a1 a2 a3 a4 kA (nI u) (nI d) hi lo (nI w) f0 (upd g1 (i + u) ((scat (· + ·) 0 a a u d w i (i + u)) + (a i))) d0 d1) H := hP
          have hD : va_D A (wkW a0 a1 a2 a3 a4 kA (nI u) (nI d) hi lo (nI w) f0 (upd g1 (i + u) ((scat (· + ·) 0 a a u d w i (i + u)) + (a i))) d0 d1) := hD
          have hM1 : XR w (vf_upd g1 (i + u) (scat (· + ·) 0 a a u d w i (i + u) + a i)) (sUp (· + ·) a u w i (scat (· + ·) 0 a a u d w i)) := XR_up hR (by omega) rfl
          refine lv_iload_n hx hb dX4_stepCounts_50 rfl (lv_at hl 2 rfl) ?_
          refine lv_aload_n hx hb dX4_stepCounts_51 rfl (lv_at hl 0 rfl) ?_
          refine g_get F hK hP inX4 0 rfl rfl 1 (by decide) gw_124 rfl (v := .int (nI d)) rfl dX4_stepCounts_52 ?_
          refine lv_isub hx hb dX4_stepCounts_55 ?_
          refine lv_if_lt (tgt := 76) hx hb dX4_stepCounts_56 (by decide) (fun c_56 => ?_) (fun c_56 => ?_)
          · have h56 := (sbm (by omega) (by omega)).mp c_56
            refine lv_iinc (v := nI (i + 1)) (lv' := [(2, .int (nI (i + 1))), (0, .ref a0), (1, .ref a2)]) hx hb dX4_stepCounts_76 hl (k := 2) rfl (nI_add i 1) (by decide) rfl (fun ls hl => ?_)
            refine lv_goto (tgt := 12) hx hb dX4_stepCounts_79 (by decide) ?_
            have hM2 : XR w (vf_upd g1 (i + u) (scat (· + ·) 0 a a u d w i (i + u) + a i)) (scat (· + ·) 0 a a u d w (i + 1)) := XR_dn0 hM1 (by omega)
            exact ih_12  (i + 1) (vf_upd g1 (i + u) (scat (· + ·) 0 a a u d w i (i + u) + a i)) (by omega) hM2 (by omega) _ _ _ hP hD hS (lv_sub hl [1, 2, 0] rfl)
          · have h56 : ¬ i < d := fun h => c_56 ((sbm (by omega) (by omega)).mpr h)
            refine lv_aload_n hx hb dX4_stepCounts_59 rfl (lv_at hl 1 rfl) ?_
            refine lv_iload_n hx hb dX4_stepCounts_60 rfl (lv_at hl 2 rfl) ?_
            refine lv_aload_n hx hb dX4_stepCounts_61 rfl (lv_at hl 0 rfl) ?_
            refine g_get F hK hP inX4 0 rfl rfl 1 (by decide) gw_124 rfl (v := .int (nI d)) rfl dX4_stepCounts_62 ?_
            refine n_sub F (a := i) (b := d) dX4_stepCounts_65 (by omega) ?_
            refine lv_dup2_11 hx hb dX4_stepCounts_66 rfl rfl ?_
            refine a_ild F hK hP 2 (f := upd g1 (i + u) ((scat (· + ·) 0 a a u d w i (i + u)) + (a i))) rfl (j := i - d) (by omega) (by decide) dX4_stepCounts_67 ?_
            rw [show ((upd g1 (i + u) ((scat (· + ·) 0 a a u d w i (i + u)) + (a i))) (i - d)) = (sUp (· + ·) a u w i (scat (· + ·) 0 a a u d w i) (i - d)) from (hM1 (i - d) (by omega))]
            refine lv_aload_n hx hb dX4_stepCounts_68 rfl (lv_at hl 0 rfl) ?_
            refine g_get F hK hP inX4 0 rfl rfl 5 (by decide) gw_131 rfl (v := .ref a1) rfl dX4_stepCounts_69 ?_
            refine lv_iload_n hx hb dX4_stepCounts_72 rfl (lv_at hl 2 rfl) ?_
            refine a_ild F hK hP 1 (f := f0) rfl (j := i) (by omega) (by decide) dX4_stepCounts_73 ?_
            rw [show (f0 i) = (a i) from (hA0 i (by omega))]
            refine lv_iadd hx hb dX4_stepCounts_74 ?_
            refine a_ist F hK hP hD hS 2 (f := upd g1 (i + u) ((scat (· + ·) 0 a a u d w i (i + u)) + (a i))) rfl (j := i - d) (by omega) (by decide) dX4_stepCounts_75 (fun H locs hP hD hS => ?_)
            have hP : va_P D vwCl (wkW a0 a1 a2 a3 a4 kA (nI u) (nI d) hi lo (nI w) f0 (upd (upd g1 (i + u) ((scat (· + ·) 0 a a u d w i (i + u)) + (a i))) (i - d) ((sUp (· + ·) a u w i (scat (· + ·) 0 a a u d w i) (i - d)) + (a i))) d0 d1) H := hP
            have hD : va_D A (wkW a0 a1 a2 a3 a4 kA (nI u) (nI d) hi lo (nI w) f0 (upd (upd g1 (i + u) ((scat (· + ·) 0 a a u d w i (i + u)) + (a i))) (i - d) ((sUp (· + ·) a u w i (scat (· + ·) 0 a a u d w i) (i - d)) + (a i))) d0 d1) := hD
            refine lv_iinc (v := nI (i + 1)) (lv' := [(2, .int (nI (i + 1))), (0, .ref a0), (1, .ref a2)]) hx hb dX4_stepCounts_76 hl (k := 2) rfl (nI_add i 1) (by decide) rfl (fun ls hl => ?_)
            refine lv_goto (tgt := 12) hx hb dX4_stepCounts_79 (by decide) ?_
            have hM2 : XR w (vf_upd (vf_upd g1 (i + u) (scat (· + ·) 0 a a u d w i (i + u) + a i)) (i - d) (sUp (· + ·) a u w i (scat (· + ·) 0 a a u d w i) (i - d) + a i)) (scat (· + ·) 0 a a u d w (i + 1)) := XR_dn hM1 (by omega) rfl
            exact ih_12  (i + 1) (vf_upd (vf_upd g1 (i + u) (scat (· + ·) 0 a a u d w i (i + u) + a i)) (i - d) (sUp (· + ·) a u w i (scat (· + ·) 0 a a u d w i) (i - d) + a i)) (by omega) hM2 (by omega) _ _ _ hP hD hS (lv_sub hl [1, 2, 0] rfl)
  exact lp_12 _ 0 g0 (Nat.zero_le _) (fun i hi => hg0 i (by omega)) (Nat.lt_succ_self _) _ _ _ hP hD hS (lv_sub hl [2, 1, 0] rfl)

set_option maxRecDepth 100000 in
set_option maxHeartbeats 4000000 in
theorem kX4_sequencesWith (l : Launch) (D : va_G) (kA : Nat → ClassId) (sz : Nat) (a0 a1 a2 a3 a4 : Nat) (xu xd hi lo xw : Int32) (f0 f1 : Nat → Int32) (d0 d1 : Nat → UInt64) (u d w U B zz n : Nat) (v : Int32) (hu : xu = nI u) (hd0 : xd = nI d) (hw0 : xw = nI w) (hlo : lo = nI B - 60) (hww : w = 59 + U - B) (hzz : zz = 59 - B) (hub : u ≤ 9) (hdb : d ≤ 9) (hU1 : 1 ≤ U) (hU2 : U ≤ 60) (hB : B ≤ 59) (hn : n ≤ 20) : CtI l yX4_sequencesWith cX4_sequencesWith 6 .int 2 D kA sz (wkW a0 a1 a2 a3 a4 kA xu xd hi lo xw f0 f1 d0 d1) [.ref a0, .int (nI n), .int v] (fun r uu => r = seqR u d U B n v ∧ ∃ b1 b2 e0 e1, uu = wkW a0 b1 b2 a3 a4 kA xu xd hi lo xw e0 e1 d0 d1) := by
  subst hu
  subst hd0
  subst hw0
  subst hlo
  refine ct_i (own := RX4) (by decide) rfl (Nat.le_of_ble_eq_true rfl) ?_
  intro p_ e_ s_ m_ ar_ bw_ me_ co_ A ls Q F hnm hK hA hP hD hS hl hsz rt
  have hx := F.1
  have hb := F.2.1
  have hl : lv_has ls 6 [(0, .ref a0), (1, .int (nI n)), (2, .int v)] := hl
  have hP : va_P D vwCl (wkW a0 a1 a2 a3 a4 kA (nI u) (nI d) hi (nI B - 60) (nI w) f0 f1 d0 d1) s_.heap := hP
  have hwb : w ≤ 119 := by omega
  refine lv_aload_n hx hb dX4_sequencesWith_0 rfl (lv_at hl 0 rfl) ?_
  refine g_get F hK hP inX4 0 rfl rfl 5 (by decide) gw_131 rfl (v := .ref a1) rfl dX4_sequencesWith_1 ?_
  refine lv_iconst (v := 0) hx hb dX4_sequencesWith_4 (by decide) ?_
  refine cl_S_v (wc := (arI a1 kA 119 f0)) (As := [.ref a1, .int 0]) (rest := []) F hK (P_on1 1 hP rfl) (D_on1 1 hD rfl) hS hA (kJ7_fill_53178 l D kA _ a1 119 f0 0 (by decide)) gw_468 gw_73 gw_466 gw_467 hdJ7_fill_53178 ⟨Nat.le_of_ble_eq_true rfl, Nat.le_of_ble_eq_true rfl⟩ hl.1 rfl (Nat.le_of_ble_eq_true rfl) dX4_sequencesWith_5 ⟨Nat.le_of_ble_eq_true rfl, Nat.le_of_ble_eq_true rfl⟩ (fun u_5 H locs hw hP1 hD1 hk1 hFc hS => ?_)
  obtain ⟨g9, hg9, rfl⟩ := hw
  have hPD := hp_set (e1 := .inl (kA 0, 119, .inl g9)) 1 hP hD rfl hk1 hP1
  have hP : va_P D vwCl (wkW a0 a1 a2 a3 a4 kA (nI u) (nI d) hi (nI B - 60) (nI w) g9 f1 d0 d1) H := hPD.1
  have hD : va_D A (wkW a0 a1 a2 a3 a4 kA (nI u) (nI d) hi (nI B - 60) (nI w) g9 f1 d0 d1) := hPD.2
  refine lv_aload_n hx hb dX4_sequencesWith_8 rfl (lv_at hl 0 rfl) ?_
  refine g_get F hK hP inX4 0 rfl rfl 5 (by decide) gw_131 rfl (v := .ref a1) rfl dX4_sequencesWith_9 ?_
  refine lv_aload_n hx hb dX4_sequencesWith_12 rfl (lv_at hl 0 rfl) ?_
  refine cl_V_i (wc := (wkW a0 a1 a2 a3 a4 kA (nI u) (nI d) hi (nI B - 60) (nI w) g9 f1 d0 d1)) (As := []) (rest := [.ref a1]) (b := a0) (C := RX4) F hK hP hD hS hA (kX4_indexOfZero l D kA _ a0 a1 a2 a3 a4 (nI u) (nI d) hi (nI B - 60) (nI w) g9 f1 d0 d1 B rfl hB) gw_472 gw_67 gw_469 gw_471 gw_30 (va_recv hK.1 hP (ci := 4) (q0 := 0) rfl rfl) hdX4_indexOfZero ⟨Nat.le_of_ble_eq_true rfl, Nat.le_of_ble_eq_true rfl⟩ hl.1 rfl (Nat.le_of_ble_eq_true rfl) dX4_sequencesWith_13 ⟨Nat.le_of_ble_eq_true rfl, Nat.le_of_ble_eq_true rfl⟩ (fun r_13 u_13 H locs hw hP1 hD1 hk1 hFc hS => ?_)
  obtain ⟨rfl, rfl⟩ := hw
  have hP : va_P D vwCl (wkW a0 a1 a2 a3 a4 kA (nI u) (nI d) hi (nI B - 60) (nI w) g9 f1 d0 d1) H := hP1
  have hD : va_D A (wkW a0 a1 a2 a3 a4 kA (nI u) (nI d) hi (nI B - 60) (nI w) g9 f1 d0 d1) := hD1.weaken (fun _ _ _ h => hFc _ h)
  rw [← hzz]
  refine lv_iconst (v := 1) hx hb dX4_sequencesWith_16 (by decide) ?_
  refine a_ist F hK hP hD hS 1 (f := g9) rfl (j := zz) (by omega) (by decide) dX4_sequencesWith_17 (fun H locs hP hD hS => ?_)
  have hP : va_P D vwCl (wkW a0 a1 a2 a3 a4 kA (nI u) (nI d) hi (nI B - 60) (nI w) (upd g9 zz 1) f1 d0 d1) H := hP
  have hD : va_D A (wkW a0 a1 a2 a3 a4 kA (nI u) (nI d) hi (nI B - 60) (nI w) (upd g9 zz 1) f1 d0 d1) := hD
  refine lv_iconst (v := 0) hx hb dX4_sequencesWith_18 (by decide) ?_
  refine lv_istore_n (lv' := [(3, .int 0), (0, .ref a0), (1, .int (nI n)), (2, .int v)]) hx hb dX4_sequencesWith_19 rfl hl (by decide) rfl (fun ls hl => ?_)
  refine lv_iconst (v := 0) hx hb dX4_sequencesWith_20 (by decide) ?_
  refine lv_istore (lv' := [(4, .int 0), (3, .int 0), (0, .ref a0), (1, .int (nI n)), (2, .int v)]) hx hb dX4_sequencesWith_21 hl (by decide) rfl (fun ls hl => ?_)
  refine lv_iconst (v := 0) hx hb dX4_sequencesWith_23 (by decide) ?_
  refine lv_istore (lv' := [(5, .int 0), (4, .int 0), (3, .int 0), (0, .ref a0), (1, .int (nI n)), (2, .int v)]) hx hb dX4_sequencesWith_24 hl (by decide) rfl (fun ls hl => ?_)
  have lp_26 : ∀ (n_26 : Nat) (n1 : Nat) (b1 : Nat) (b2 : Nat) (g0 : Nat → Int32) (g1 : Nat → Int32), (n1 ≤ n) → (XR w g0 (csN u d w zz n1).1) → (n - n1) < n_26 → ∀ (H : Heap) (locs : List Loc) (ls : Array Slot), va_P D vwCl (wkW a0 b1 b2 a3 a4 kA (nI u) (nI d) hi (nI B - 60) (nI w) g0 g1 d0 d1) H → va_D A (wkW a0 b1 b2 a3 a4 kA (nI u) (nI d) hi (nI B - 60) (nI w) g0 g1 d0 d1) → va_S A s_.heap H locs → lv_has ls 6 [(0, .ref a0), (1, .int (nI n)), (2, .int v), (3, .int ((csN u d w zz n1).2.1)), (4, .int ((csN u d w zz n1).2.2)), (5, .int (nI n1))] → W p_ l e_ (rmC 2 0 0) s_ m_ ar_ bw_ me_ co_ H locs 0 0 Q (F0 m_ 26 ls []) := by
    intro n_26
    induction n_26 with
    | zero =>
      intro n1 b1 b2 g0 g1 hn1 hR hm_26
      exact absurd hm_26 (Nat.not_lt_zero _)
    | succ n_26 ih_26 =>
      intro n1 b1 b2 g0 g1 hn1 hR hm_26 H locs ls hP hD hS hl
      refine lv_iload hx hb dX4_sequencesWith_26 (lv_at hl 5 rfl) ?_
      refine lv_iload_n hx hb dX4_sequencesWith_28 rfl (lv_at hl 1 rfl) ?_
      refine b_ge F (a := n1) (b := n) (tgt := 80) dX4_sequencesWith_29 (by decide) (by omega) (by omega) (fun c_29 => ?_) (fun c_29 => ?_)
      · obtain rfl : n = n1 := by omega
        refine lv_iload_n hx hb dX4_sequencesWith_80 rfl (lv_at hl 2 rfl) ?_
        refine lv_iconst (v := 1) hx hb dX4_sequencesWith_81 (by decide) ?_
        refine lv_icmp_ne (tgt := 87) hx hb dX4_sequencesWith_82 (by decide) (fun c_82 => ?_) (fun c_82 => ?_)
        · refine lv_iload_n hx hb dX4_sequencesWith_87 rfl (lv_at hl 2 rfl) ?_
          refine lv_iconst (v := 2) hx hb dX4_sequencesWith_88 (by decide) ?_
          refine lv_icmp_ne (tgt := 97) hx hb dX4_sequencesWith_89 (by decide) (fun c_89 => ?_) (fun c_89 => ?_)
          · refine lv_aload_n hx hb dX4_sequencesWith_97 rfl (lv_at hl 0 rfl) ?_
            refine lv_iconst (v := 0) hx hb dX4_sequencesWith_98 (by decide) ?_
            refine lv_aload_n hx hb dX4_sequencesWith_99 rfl (lv_at hl 0 rfl) ?_
            refine g_get F hK hP inX4 0 rfl rfl 4 (by decide) gw_130 rfl (v := .int (nI w)) rfl dX4_sequencesWith_100 ?_
            refine cl_V_i (wc := (wkW a0 b1 b2 a3 a4 kA (nI u) (nI d) hi (nI B - 60) (nI w) g0 g1 d0 d1)) (As := [.int 0, .int (nI w)]) (rest := []) (b := a0) (C := RX4) F hK hP hD hS hA (kX4_sumOfCounts l D kA _ a0 b1 b2 a3 a4 (nI u) (nI d) hi (nI B - 60) (nI w) g0 g1 d0 d1 u d w 0 w 0 rfl rfl rfl hwb rfl (by omega) (by omega)) gw_476 gw_67 gw_473 gw_475 gw_31 (va_recv hK.1 hP (ci := 4) (q0 := 0) rfl rfl) hdX4_sumOfCounts ⟨Nat.le_of_ble_eq_true rfl, Nat.le_of_ble_eq_true rfl⟩ hl.1 rfl (Nat.le_of_ble_eq_true rfl) dX4_sequencesWith_103 ⟨Nat.le_of_ble_eq_true rfl, Nat.le_of_ble_eq_true rfl⟩ (fun r_103 u_103 H locs hw hP1 hD1 hk1 hFc hS => ?_)
            obtain ⟨rfl, rfl⟩ := hw
            have hP : va_P D vwCl (wkW a0 b1 b2 a3 a4 kA (nI u) (nI d) hi (nI B - 60) (nI w) g0 g1 d0 d1) H := hP1
            have hD : va_D A (wkW a0 b1 b2 a3 a4 kA (nI u) (nI d) hi (nI B - 60) (nI w) g0 g1 d0 d1) := hD1.weaken (fun _ _ _ h => hFc _ h)
            exact rt _ (wkW a0 b1 b2 a3 a4 kA (nI u) (nI d) hi (nI B - 60) (nI w) g0 g1 d0 d1) _ _ _ _ hP hD hS dX4_sequencesWith_106 (⟨by rw [Nat.min_self, Nat.sub_zero]; subst hww; subst hzz; exact seq_fin hR hU1 hB hn c_82 c_89, b1, b2, g0, g1, rfl⟩)
          · refine lv_iload hx hb dX4_sequencesWith_92 (lv_at hl 4 rfl) ?_
            refine lv_goto (tgt := 106) hx hb dX4_sequencesWith_94 (by decide) ?_
            exact rt _ (wkW a0 b1 b2 a3 a4 kA (nI u) (nI d) hi (nI B - 60) (nI w) g0 g1 d0 d1) _ _ _ _ hP hD hS dX4_sequencesWith_106 (⟨by rw [seqR, ← hww, ← hzz, if_neg c_82, if_pos c_89], b1, b2, g0, g1, rfl⟩)
        · refine lv_iload_n hx hb dX4_sequencesWith_85 rfl (lv_at hl 3 rfl) ?_
          exact rt _ (wkW a0 b1 b2 a3 a4 kA (nI u) (nI d) hi (nI B - 60) (nI w) g0 g1 d0 d1) _ _ _ _ hP hD hS dX4_sequencesWith_86 (⟨by rw [seqR, ← hww, ← hzz, if_pos c_82], b1, b2, g0, g1, rfl⟩)
      · refine lv_iconst (v := 2) hx hb dX4_sequencesWith_32 (by decide) ?_
        refine lv_iload_n hx hb dX4_sequencesWith_33 rfl (lv_at hl 3 rfl) ?_
        refine lv_imul hx hb dX4_sequencesWith_34 ?_
        refine lv_aload_n hx hb dX4_sequencesWith_35 rfl (lv_at hl 0 rfl) ?_
        refine lv_aload_n hx hb dX4_sequencesWith_36 rfl (lv_at hl 0 rfl) ?_
        refine g_get F hK hP inX4 0 rfl rfl 4 (by decide) gw_130 rfl (v := .int (nI w)) rfl dX4_sequencesWith_37 ?_
        refine lv_aload_n hx hb dX4_sequencesWith_40 rfl (lv_at hl 0 rfl) ?_
        refine g_get F hK hP inX4 0 rfl rfl 0 (by decide) gw_122 rfl (v := .int (nI u)) rfl dX4_sequencesWith_41 ?_
        refine lv_isub hx hb dX4_sequencesWith_44 ?_
        refine lv_aload_n hx hb dX4_sequencesWith_45 rfl (lv_at hl 0 rfl) ?_
        refine g_get F hK hP inX4 0 rfl rfl 4 (by decide) gw_130 rfl (v := .int (nI w)) rfl dX4_sequencesWith_46 ?_
        refine cl_V_i (wc := (wkW a0 b1 b2 a3 a4 kA (nI u) (nI d) hi (nI B - 60) (nI w) g0 g1 d0 d1)) (As := [.int ((nI w) - (nI u)), .int (nI w)]) (rest := [.int (2 * ((csN u d w zz n1).2.1))]) (b := a0) (C := RX4) F hK hP hD hS hA (kX4_sumOfCounts l D kA _ a0 b1 b2 a3 a4 (nI u) (nI d) hi (nI B - 60) (nI w) g0 g1 d0 d1 u d w (w - u) w ((nI w) - (nI u)) rfl rfl rfl hwb (maxS (by omega) (by omega)) (by omega) (by omega)) gw_476 gw_67 gw_473 gw_475 gw_31 (va_recv hK.1 hP (ci := 4) (q0 := 0) rfl rfl) hdX4_sumOfCounts ⟨Nat.le_of_ble_eq_true rfl, Nat.le_of_ble_eq_true rfl⟩ hl.1 rfl (Nat.le_of_ble_eq_true rfl) dX4_sequencesWith_49 ⟨Nat.le_of_ble_eq_true rfl, Nat.le_of_ble_eq_true rfl⟩ (fun r_49 u_49 H locs hw hP1 hD1 hk1 hFc hS => ?_)
        obtain ⟨rfl, rfl⟩ := hw
        have hP : va_P D vwCl (wkW a0 b1 b2 a3 a4 kA (nI u) (nI d) hi (nI B - 60) (nI w) g0 g1 d0 d1) H := hP1
        have hD : va_D A (wkW a0 b1 b2 a3 a4 kA (nI u) (nI d) hi (nI B - 60) (nI w) g0 g1 d0 d1) := hD1.weaken (fun _ _ _ h => hFc _ h)
        refine lv_iadd hx hb dX4_sequencesWith_52 ?_
        have eS : 2 * (csN u d w zz n1).2.1 + smI g0 (w - u) (min w w - (w - u)) = (csN u d w zz (n1 + 1)).2.1 := by show _ = acc _ _ _ _ w; rw [acc_hi, Nat.min_self, smI_eq hR _ (by omega), Int32.mul_comm]
        rw [eS]
        refine lv_istore_n (lv' := [(3, .int ((csN u d w zz (n1 + 1)).2.1)), (0, .ref a0), (1, .int (nI n)), (2, .int v), (4, .int ((csN u d w zz n1).2.2)), (5, .int (nI n1))]) hx hb dX4_sequencesWith_53 rfl hl (by decide) rfl (fun ls hl => ?_)
        refine lv_iconst (v := 2) hx hb dX4_sequencesWith_54 (by decide) ?_
        refine lv_iload hx hb dX4_sequencesWith_55 (lv_at hl 4 rfl) ?_
        refine lv_imul hx hb dX4_sequencesWith_57 ?_
        refine lv_aload_n hx hb dX4_sequencesWith_58 rfl (lv_at hl 1 rfl) ?_
        refine lv_iconst (v := 0) hx hb dX4_sequencesWith_59 (by decide) ?_
        refine lv_aload_n hx hb dX4_sequencesWith_60 rfl (lv_at hl 1 rfl) ?_
        refine g_get F hK hP inX4 0 rfl rfl 1 (by decide) gw_124 rfl (v := .int (nI d)) rfl dX4_sequencesWith_61 ?_
        refine cl_V_i (wc := (wkW a0 b1 b2 a3 a4 kA (nI u) (nI d) hi (nI B - 60) (nI w) g0 g1 d0 d1)) (As := [.int 0, .int (nI d)]) (rest := [.int (2 * ((csN u d w zz n1).2.2))]) (b := a0) (C := RX4) F hK hP hD hS hA (kX4_sumOfCounts l D kA _ a0 b1 b2 a3 a4 (nI u) (nI d) hi (nI B - 60) (nI w) g0 g1 d0 d1 u d w 0 d 0 rfl rfl rfl hwb rfl (by omega) (by omega)) gw_476 gw_67 gw_473 gw_475 gw_31 (va_recv hK.1 hP (ci := 4) (q0 := 0) rfl rfl) hdX4_sumOfCounts ⟨Nat.le_of_ble_eq_true rfl, Nat.le_of_ble_eq_true rfl⟩ hl.1 rfl (Nat.le_of_ble_eq_true rfl) dX4_sequencesWith_64 ⟨Nat.le_of_ble_eq_true rfl, Nat.le_of_ble_eq_true rfl⟩ (fun r_64 u_64 H locs hw hP1 hD1 hk1 hFc hS => ?_)
        obtain ⟨rfl, rfl⟩ := hw
        have hP : va_P D vwCl (wkW a0 b1 b2 a3 a4 kA (nI u) (nI d) hi (nI B - 60) (nI w) g0 g1 d0 d1) H := hP1
        have hD : va_D A (wkW a0 b1 b2 a3 a4 kA (nI u) (nI d) hi (nI B - 60) (nI w) g0 g1 d0 d1) := hD1.weaken (fun _ _ _ h => hFc _ h)
        refine lv_iadd hx hb dX4_sequencesWith_67 ?_
        have eB : 2 * (csN u d w zz n1).2.2 + smI g0 0 (min d w - 0) = (csN u d w zz (n1 + 1)).2.2 := by show _ = acc _ _ _ _ w; rw [acc_lo, Nat.sub_zero, smI_eq hR _ (by omega), Int32.mul_comm]
        rw [eB]
        refine lv_istore (lv' := [(4, .int ((csN u d w zz (n1 + 1)).2.2)), (3, .int ((csN u d w zz (n1 + 1)).2.1)), (0, .ref a0), (1, .int (nI n)), (2, .int v), (5, .int (nI n1))]) hx hb dX4_sequencesWith_68 hl (by decide) rfl (fun ls hl => ?_)
        refine lv_aload_n hx hb dX4_sequencesWith_70 rfl (lv_at hl 2 rfl) ?_
        refine cl_V_v (wc := (wkW a0 b1 b2 a3 a4 kA (nI u) (nI d) hi (nI B - 60) (nI w) g0 g1 d0 d1)) (As := []) (rest := []) (b := a0) (C := RX4) F hK hP hD hS hA (kX4_stepCounts l D kA _ a0 b1 b2 a3 a4 (nI u) (nI d) hi (nI B - 60) (nI w) g0 g1 d0 d1 u d w (csN u d w zz n1).1 rfl rfl rfl hwb hub hdb hR) gw_486 gw_67 gw_483 gw_485 gw_32 (va_recv hK.1 hP (ci := 4) (q0 := 0) rfl rfl) hdX4_stepCounts ⟨Nat.le_of_ble_eq_true rfl, Nat.le_of_ble_eq_true rfl⟩ hl.1 rfl (Nat.le_of_ble_eq_true rfl) dX4_sequencesWith_71 ⟨Nat.le_of_ble_eq_true rfl, Nat.le_of_ble_eq_true rfl⟩ (fun u_71 H locs hw hP1 hD1 hk1 hFc hS => ?_)
        obtain ⟨b3_, b4_, e0, e1, hE, rfl⟩ := hw
        have hP : va_P D vwCl (wkW a0 b3_ b4_ a3 a4 kA (nI u) (nI d) hi (nI B - 60) (nI w) e0 e1 d0 d1) H := hP1
        have hD : va_D A (wkW a0 b3_ b4_ a3 a4 kA (nI u) (nI d) hi (nI B - 60) (nI w) e0 e1 d0 d1) := hD1.weaken (fun _ _ _ h => hFc _ h)
        refine lv_iinc (v := nI (n1 + 1)) (lv' := [(5, .int (nI (n1 + 1))), (4, .int ((csN u d w zz (n1 + 1)).2.2)), (3, .int ((csN u d w zz (n1 + 1)).2.1)), (0, .ref a0), (1, .int (nI n)), (2, .int v)]) hx hb dX4_sequencesWith_74 hl (k := 5) rfl (nI_add n1 1) (by decide) rfl (fun ls hl => ?_)
        refine lv_goto (tgt := 26) hx hb dX4_sequencesWith_77 (by decide) ?_
        exact ih_26  (n1 + 1) b3_ b4_ e0 e1 (by omega) hE (by omega) _ _ _ hP hD hS (lv_sub hl [3, 4, 5, 2, 1, 0] rfl)
  exact lp_26 _ 0 a1 a2 (upd g9 zz 1) f1 (Nat.zero_le _) (XR_0 hwb hg9) (Nat.lt_succ_self _) _ _ _ hP hD hS (lv_sub hl [3, 4, 5, 2, 1, 0] rfl)
