set_option maxRecDepth 100000 in
set_option maxHeartbeats 4000000 in
theorem kX6_drop (l : Launch) (D : va_G) (kA : Nat → ClassId) (sz : Nat) (ad : Nat → Nat) (g : Sg) (z : Zm) (k : Nat) (hk : k < gN g 1) (ha : gN g 1 ≤ 12) : CtV l yX6_drop cX6_drop 3 0 0 0 D kA sz (mW ad kA g z) [.ref (ad 0), .int (nI k)] (fun u => u = mW ad kA (sp_drop k g) z) := by
  refine ct_v (own := RX6) (by decide) rfl (Nat.le_of_ble_eq_true rfl) ?_
  intro p_ e_ s_ m_ ar_ bw_ me_ co_ A ls Q F hnm hK hA hP hD hS hl hsz rt
  have hx := F.1
  have hb := F.2.1
  have hl : lv_has ls 3 [(0, .ref (ad 0)), (1, .int (nI k))] := hl
  have hP : va_P D vwCl (mW ad kA g z) s_.heap := hP
  refine lv_aload_n hx hb dX6_drop_0 rfl (lv_at hl 0 rfl) ?_
  refine lv_dup hx hb dX6_drop_1 rfl ?_
  refine g_get F hK hP inX6 0 rfl rfl 12 (by decide) gw_588 rfl (v := .int (nI (gN g 1))) rfl dX6_drop_2 ?_
  refine lv_iconst (v := 1) hx hb dX6_drop_5 (by decide) ?_
  refine n_sub F (a := gN g 1) (b := 1) dX6_drop_6 (by omega) ?_
  refine g_put F hK hP hD hS inX6 tyX6_ok nmX6 0 rfl rfl 12 (by decide) gw_588 rfl rfl rfl rfl (Nat.le_of_ble_eq_true rfl) dX6_drop_7 (fun H locs hP hD hS => ?_)
  have hP : va_P D vwCl (mW ad kA (sN g 1 ((gN g 1) - 1)) z) H := hP
  have hD : va_D A (mW ad kA (sN g 1 ((gN g 1) - 1)) z) := hD
  refine lv_iload_n hx hb dX6_drop_10 rfl (lv_at hl 1 rfl) ?_
  refine lv_istore_n (lv' := [(2, .int (nI k)), (0, .ref (ad 0)), (1, .int (nI k))]) hx hb dX6_drop_11 rfl hl (by decide) rfl (fun ls hl => ?_)
  have lp_12 : ∀ (n_12 : Nat) (i : Nat) (g1 : Sg), (k ≤ i) → (i ≤ gN g 1 - 1) → (g1 = drG k i (sN g 1 (gN g 1 - 1))) → (12 - i) < n_12 → ∀ (H : Heap) (locs : List Loc) (ls : Array Slot), va_P D vwCl (mW ad kA g1 z) H → va_D A (mW ad kA g1 z) → va_S A s_.heap H locs → lv_has ls 3 [(0, .ref (ad 0)), (1, .int (nI k)), (2, .int (nI i))] → W p_ l e_ (rmC 0 0 0) s_ m_ ar_ bw_ me_ co_ H locs 0 0 Q (F0 m_ 12 ls []) := by
    intro n_12
    induction n_12 with
    | zero =>
      intro i g1 hi1 hi2 hg hm_12
      exact absurd hm_12 (Nat.not_lt_zero _)
    | succ n_12 ih_12 =>
      intro i g1 hi1 hi2 hg hm_12 H locs ls hP hD hS hl
      have hN : gN g1 1 = gN g 1 - 1 := by rw [hg]; rfl
      refine lv_iload_n hx hb dX6_drop_12 rfl (lv_at hl 2 rfl) ?_
      refine lv_aload_n hx hb dX6_drop_13 rfl (lv_at hl 0 rfl) ?_
      refine g_get F hK hP inX6 0 rfl rfl 12 (by decide) gw_588 rfl (v := .int (nI (gN g1 1))) rfl dX6_drop_14 ?_
      refine b_ge F (a := i) (b := gN g1 1) (tgt := 68) dX6_drop_17 (by decide) (by omega) (by omega) (fun c_17 => ?_) (fun c_17 => ?_)
      · exact rt (mW ad kA g1 z) _ _ _ _ hP hD hS dX6_drop_68 ((by rw [hg, show i = gN g 1 - 1 by omega]; rfl))
      · refine lv_aload_n hx hb dX6_drop_20 rfl (lv_at hl 0 rfl) ?_
        refine g_get F hK hP inX6 0 rfl rfl 13 (by decide) gw_589 rfl (v := .ref (ad 6)) rfl dX6_drop_21 ?_
        refine lv_iload_n hx hb dX6_drop_24 rfl (lv_at hl 2 rfl) ?_
        refine lv_aload_n hx hb dX6_drop_25 rfl (lv_at hl 0 rfl) ?_
        refine g_get F hK hP inX6 0 rfl rfl 13 (by decide) gw_589 rfl (v := .ref (ad 6)) rfl dX6_drop_26 ?_
        refine lv_iload_n hx hb dX6_drop_29 rfl (lv_at hl 2 rfl) ?_
        refine lv_iconst (v := 1) hx hb dX6_drop_30 (by decide) ?_
        refine n_add F (a := i) (b := 1) dX6_drop_31 ?_
        refine a_ild F hK hP 6 (f := gR g1 4) rfl (j := i + 1) (by omega) (by decide) dX6_drop_32 ?_
        refine a_ist F hK hP hD hS 6 (f := gR g1 4) rfl (j := i) (by omega) (by decide) dX6_drop_33 (fun H locs hP hD hS => ?_)
        have hP : va_P D vwCl (mW ad kA (sR g1 4 (upd (gR g1 4) i (gR g1 4 (i + 1)))) z) H := hP
        have hD : va_D A (mW ad kA (sR g1 4 (upd (gR g1 4) i (gR g1 4 (i + 1)))) z) := hD
        refine lv_aload_n hx hb dX6_drop_34 rfl (lv_at hl 0 rfl) ?_
        refine g_get F hK hP inX6 0 rfl rfl 14 (by decide) gw_590 rfl (v := .ref (ad 7)) rfl dX6_drop_35 ?_
        refine lv_iload_n hx hb dX6_drop_38 rfl (lv_at hl 2 rfl) ?_
        refine lv_aload_n hx hb dX6_drop_39 rfl (lv_at hl 0 rfl) ?_
        refine g_get F hK hP inX6 0 rfl rfl 14 (by decide) gw_590 rfl (v := .ref (ad 7)) rfl dX6_drop_40 ?_
        refine lv_iload_n hx hb dX6_drop_43 rfl (lv_at hl 2 rfl) ?_
        refine lv_iconst (v := 1) hx hb dX6_drop_44 (by decide) ?_
        refine n_add F (a := i) (b := 1) dX6_drop_45 ?_
        refine a_ild F hK hP 7 (f := gR g1 5) rfl (j := i + 1) (by omega) (by decide) dX6_drop_46 ?_
        refine a_ist F hK hP hD hS 7 (f := gR g1 5) rfl (j := i) (by omega) (by decide) dX6_drop_47 (fun H locs hP hD hS => ?_)
        have hP : va_P D vwCl (mW ad kA (sR (sR g1 4 (upd (gR g1 4) i (gR g1 4 (i + 1)))) 5 (upd (gR g1 5) i (gR g1 5 (i + 1)))) z) H := hP
        have hD : va_D A (mW ad kA (sR (sR g1 4 (upd (gR g1 4) i (gR g1 4 (i + 1)))) 5 (upd (gR g1 5) i (gR g1 5 (i + 1)))) z) := hD
        refine lv_aload_n hx hb dX6_drop_48 rfl (lv_at hl 0 rfl) ?_
        refine g_get F hK hP inX6 0 rfl rfl 15 (by decide) gw_591 rfl (v := .ref (ad 8)) rfl dX6_drop_49 ?_
        refine lv_iload_n hx hb dX6_drop_52 rfl (lv_at hl 2 rfl) ?_
        refine lv_aload_n hx hb dX6_drop_53 rfl (lv_at hl 0 rfl) ?_
        refine g_get F hK hP inX6 0 rfl rfl 15 (by decide) gw_591 rfl (v := .ref (ad 8)) rfl dX6_drop_54 ?_
        refine lv_iload_n hx hb dX6_drop_57 rfl (lv_at hl 2 rfl) ?_
        refine lv_iconst (v := 1) hx hb dX6_drop_58 (by decide) ?_
        refine n_add F (a := i) (b := 1) dX6_drop_59 ?_
        refine a_ild F hK hP 8 (f := gR g1 6) rfl (j := i + 1) (by omega) (by decide) dX6_drop_60 ?_
        refine a_ist F hK hP hD hS 8 (f := gR g1 6) rfl (j := i) (by omega) (by decide) dX6_drop_61 (fun H locs hP hD hS => ?_)
        have hP : va_P D vwCl (mW ad kA (sR (sR (sR g1 4 (upd (gR g1 4) i (gR g1 4 (i + 1)))) 5 (upd (gR g1 5) i (gR g1 5 (i + 1)))) 6 (upd (gR g1 6) i (gR g1 6 (i + 1)))) z) H := hP
        have hD : va_D A (mW ad kA (sR (sR (sR g1 4 (upd (gR g1 4) i (gR g1 4 (i + 1)))) 5 (upd (gR g1 5) i (gR g1 5 (i + 1)))) 6 (upd (gR g1 6) i (gR g1 6 (i + 1)))) z) := hD
        refine lv_iinc (v := nI (i + 1)) (lv' := [(2, .int (nI (i + 1))), (0, .ref (ad 0)), (1, .int (nI k))]) hx hb dX6_drop_62 hl (k := 2) rfl (nI_add i 1) (by decide) rfl (fun ls hl => ?_)
        refine lv_goto (tgt := 12) hx hb dX6_drop_65 (by decide) ?_
        exact ih_12  (i + 1) (sR (sR (sR g1 4 (upd (gR g1 4) i (gR g1 4 (i + 1)))) 5 (upd (gR g1 5) i (gR g1 5 (i + 1)))) 6 (upd (gR g1 6) i (gR g1 6 (i + 1)))) (by omega) (by omega) (by rw [hg]; exact drG_s _ hi1) (by omega) _ _ _ hP hD hS (lv_sub hl [1, 2, 0] rfl)
  exact lp_12 _ k (sN g 1 ((gN g 1) - 1)) (Nat.le_refl _) (by omega) (drG_0 _ _).symm (Nat.lt_succ_self _) _ _ _ hP hD hS (lv_sub hl [1, 2, 0] rfl)

set_option maxRecDepth 100000 in
set_option maxHeartbeats 4000000 in
theorem kX6_dropAllOf (l : Launch) (D : va_G) (kA : Nat → ClassId) (sz : Nat) (ad : Nat → Nat) (g : Sg) (z : Zm) (c : Nat) (hM : Mn g) : CtV l yX6_dropAllOf cX6_dropAllOf 3 1 0 0 D kA sz (mW ad kA g z) [.ref (ad 0), .int (nI c)] (fun u => u = mW ad kA (dAll c (gN g 1) g) z) := by
  refine ct_v (own := RX6) (by decide) rfl (Nat.le_of_ble_eq_true rfl) ?_
  intro p_ e_ s_ m_ ar_ bw_ me_ co_ A ls Q F hnm hK hA hP hD hS hl hsz rt
  have hx := F.1
  have hb := F.2.1
  have hl : lv_has ls 3 [(0, .ref (ad 0)), (1, .int (nI c))] := hl
  have hP : va_P D vwCl (mW ad kA g z) s_.heap := hP
  refine lv_aload_n hx hb dX6_dropAllOf_0 rfl (lv_at hl 0 rfl) ?_
  refine g_get F hK hP inX6 0 rfl rfl 12 (by decide) gw_588 rfl (v := .int (nI (gN g 1))) rfl dX6_dropAllOf_1 ?_
  refine lv_iconst (v := 1) hx hb dX6_dropAllOf_4 (by decide) ?_
  refine lv_isub hx hb dX6_dropAllOf_5 ?_
  refine lv_istore_n (lv' := [(2, .int ((nI (gN g 1)) - 1)), (0, .ref (ad 0)), (1, .int (nI c))]) hx hb dX6_dropAllOf_6 rfl hl (by decide) rfl (fun ls hl => ?_)
  have lp_7 : ∀ (n_7 : Nat) (q : Nat) (g1 : Sg), (q ≤ gN g1 1) → (Mn g1) → (dAll c q g1 = dAll c (gN g 1) g) → q < n_7 → ∀ (H : Heap) (locs : List Loc) (ls : Array Slot), va_P D vwCl (mW ad kA g1 z) H → va_D A (mW ad kA g1 z) → va_S A s_.heap H locs → lv_has ls 3 [(0, .ref (ad 0)), (1, .int (nI c)), (2, .int (nI q - 1))] → W p_ l e_ (rmC 1 0 0) s_ m_ ar_ bw_ me_ co_ H locs 0 0 Q (F0 m_ 7 ls []) := by
    intro n_7
    induction n_7 with
    | zero =>
      intro q g1 hq hM1 hg hm_7
      exact absurd hm_7 (Nat.not_lt_zero _)
    | succ n_7 ih_7 =>
      intro q g1 hq hM1 hg hm_7 H locs ls hP hD hS hl
      obtain ⟨⟨hm1, hm2⟩, hm3⟩ := id hM1
      refine lv_iload_n hx hb dX6_dropAllOf_7 rfl (lv_at hl 2 rfl) ?_
      refine lv_if_lt (tgt := 37) hx hb dX6_dropAllOf_8 (by decide) (fun c_8 => ?_) (fun c_8 => ?_)
      · obtain rfl : q = 0 := (m1_lt (by omega)).mp c_8
        exact rt (mW ad kA g1 z) _ _ _ _ hP hD hS dX6_dropAllOf_37 ((by rw [← hg]; rfl))
      · obtain ⟨q, rfl⟩ : ∃ q2, q = q2 + 1 := ⟨q - 1, by have h9 : ¬ q = 0 := fun h => c_8 ((m1_lt (by omega)).mpr h); omega⟩
        rw [nI_pred] at hl
        refine lv_aload_n hx hb dX6_dropAllOf_11 rfl (lv_at hl 0 rfl) ?_
        refine g_get F hK hP inX6 0 rfl rfl 13 (by decide) gw_589 rfl (v := .ref (ad 6)) rfl dX6_dropAllOf_12 ?_
        refine lv_iload_n hx hb dX6_dropAllOf_15 rfl (lv_at hl 2 rfl) ?_
        refine a_ild F hK hP 6 (f := gR g1 4) rfl (j := q) (by omega) (by decide) dX6_dropAllOf_16 ?_
        refine lv_aload_n hx hb dX6_dropAllOf_17 rfl (lv_at hl 0 rfl) ?_
        refine g_get F hK hP inX6 0 rfl rfl 0 (by decide) gw_576 rfl (v := .int (nI (gN g1 0))) rfl dX6_dropAllOf_18 ?_
        refine lv_irem hx hb dX6_dropAllOf_21 (nI_ne0 (by omega) (by omega)) ?_
        refine lv_iload_n hx hb dX6_dropAllOf_22 rfl (lv_at hl 1 rfl) ?_
        refine lv_icmp_ne (tgt := 31) hx hb dX6_dropAllOf_23 (by decide) (fun c_23 => ?_) (fun c_23 => ?_)
        · refine lv_iinc (v := nI q - 1) (lv' := [(2, .int (nI q - 1)), (0, .ref (ad 0)), (1, .int (nI c))]) hx hb dX6_dropAllOf_31 hl (k := 2) rfl (by rw [Int32.sub_eq_add_neg]; rfl) (by decide) rfl (fun ls hl => ?_)
          refine lv_goto (tgt := 7) hx hb dX6_dropAllOf_34 (by decide) ?_
          exact ih_7  q g1 (by omega) hM1 (by rw [← hg, dAll, if_neg c_23]) (by omega) _ _ _ hP hD hS (lv_sub hl [1, 2, 0] rfl)
        · refine lv_aload_n hx hb dX6_dropAllOf_26 rfl (lv_at hl 0 rfl) ?_
          refine lv_iload_n hx hb dX6_dropAllOf_27 rfl (lv_at hl 2 rfl) ?_
          refine cl_V_v (wc := (mW ad kA g1 z)) (As := [.int (nI q)]) (rest := []) (b := (ad 0)) (C := RX6) F hK hP hD hS hA (kX6_drop l D kA _ ad g1 z q (by omega) hm3) gw_708 gw_71 gw_705 gw_707 gw_49 (va_recv hK.1 hP (ci := 6) (q0 := 0) rfl rfl) hdX6_drop ⟨Nat.le_of_ble_eq_true rfl, Nat.le_of_ble_eq_true rfl⟩ hl.1 rfl (Nat.le_of_ble_eq_true rfl) dX6_dropAllOf_28 ⟨Nat.le_of_ble_eq_true rfl, Nat.le_of_ble_eq_true rfl⟩ (fun u_28 H locs hw hP1 hD1 hk1 hFc hS => ?_)
          obtain rfl := hw
          have hP : va_P D vwCl (mW ad kA (sp_drop q g1) z) H := hP1
          have hD : va_D A (mW ad kA (sp_drop q g1) z) := hD1.weaken (fun _ _ _ h => hFc _ h)
          refine lv_iinc (v := nI q - 1) (lv' := [(2, .int (nI q - 1)), (0, .ref (ad 0)), (1, .int (nI c))]) hx hb dX6_dropAllOf_31 hl (k := 2) rfl (by rw [Int32.sub_eq_add_neg]; rfl) (by decide) rfl (fun ls hl => ?_)
          refine lv_goto (tgt := 7) hx hb dX6_dropAllOf_34 (by decide) ?_
          exact ih_7  q (sp_drop q g1) (by rw [gN_drop]; omega) ((kp_drop (by omega)).mn hM1) (by rw [← hg, dAll, if_pos c_23]) (by omega) _ _ _ hP hD hS (lv_sub hl [1, 2, 0] rfl)
  exact lp_7 _ (gN g 1) g (Nat.le_refl _) hM rfl (Nat.lt_succ_self _) _ _ _ hP hD hS (lv_sub hl [1, 2, 0] rfl)

set_option maxRecDepth 100000 in
set_option maxHeartbeats 4000000 in
theorem kX6_decide (l : Launch) (D : va_G) (kA : Nat → ClassId) (sz : Nat) (ad : Nat → Nat) (g : Sg) (z : Zm) (c : Nat) (v : Int32) (hL : RgM (gV g) (zL z)) : CtI l yX6_decide cX6_decide 4 .int 0 D kA sz (mW ad kA g z) [.ref (ad 0), .int (nI c), .int v] (fun r u => r = v ∧ mQ ad kA (sV g ((nI (10 * c) + v) :: gV g)) z u) := by
  refine ct_i (own := RX6) (by decide) rfl (Nat.le_of_ble_eq_true rfl) ?_
  intro p_ e_ s_ m_ ar_ bw_ me_ co_ A ls Q F hnm hK hA hP hD hS hl hsz rt
  have hx := F.1
  have hb := F.2.1
  have hl : lv_has ls 4 [(0, .ref (ad 0)), (1, .int (nI c)), (2, .int v)] := hl
  have hP : va_P D vwCl (mW ad kA g z) s_.heap := hP
  refine lv_bipush (v := 15) hx hb dX6_decide_0 (by decide) ?_
  refine lv_istore_n (lv' := [(3, .int 15), (0, .ref (ad 0)), (1, .int (nI c)), (2, .int v)]) hx hb dX6_decide_2 rfl hl (by decide) rfl (fun ls hl => ?_)
  have lp_3 : ∀ (n_3 : Nat) (k : Nat) (z1 : Zm), (k ≤ 15) → (z1 = tL z (shd (zL z) k)) → k < n_3 → ∀ (H : Heap) (locs : List Loc) (ls : Array Slot), va_P D vwCl (mW ad kA g z1) H → va_D A (mW ad kA g z1) → va_S A s_.heap H locs → lv_has ls 4 [(0, .ref (ad 0)), (1, .int (nI c)), (2, .int v), (3, .int (nI k))] → W p_ l e_ (rmC 0 0 0) s_ m_ ar_ bw_ me_ co_ H locs 0 0 Q (F0 m_ 3 ls []) := by
    intro n_3
    induction n_3 with
    | zero =>
      intro k z1 hk hz hm_3
      exact absurd hm_3 (Nat.not_lt_zero _)
    | succ n_3 ih_3 =>
      intro k z1 hk hz hm_3 H locs ls hP hD hS hl
      refine lv_iload_n hx hb dX6_decide_3 rfl (lv_at hl 3 rfl) ?_
      refine b_le0 F (a := k) (tgt := 27) dX6_decide_4 (by decide) (by omega) (fun c_4 => ?_) (fun c_4 => ?_)
      · refine lv_aload_n hx hb dX6_decide_27 rfl (lv_at hl 0 rfl) ?_
        refine g_get F hK hP inX6 0 rfl rfl 17 (by decide) gw_593 rfl (v := .ref (ad 9)) rfl dX6_decide_28 ?_
        refine lv_iconst (v := 0) hx hb dX6_decide_31 (by decide) ?_
        refine lv_bipush (v := 10) hx hb dX6_decide_32 (by decide) ?_
        refine lv_iload_n hx hb dX6_decide_34 rfl (lv_at hl 1 rfl) ?_
        refine n_mul F (a := 10) (b := c) dX6_decide_35 ?_
        refine lv_iload_n hx hb dX6_decide_36 rfl (lv_at hl 2 rfl) ?_
        refine lv_iadd hx hb dX6_decide_37 ?_
        refine a_ist F hK hP hD hS 9 (f := zL z1) rfl (j := 0) (by omega) (by decide) dX6_decide_38 (fun H locs hP hD hS => ?_)
        have hP : va_P D vwCl (mW ad kA g (tL z1 (upd (zL z1) 0 ((nI (10 * c)) + v)))) H := hP
        have hD : va_D A (mW ad kA g (tL z1 (upd (zL z1) 0 ((nI (10 * c)) + v)))) := hD
        refine lv_aload_n hx hb dX6_decide_39 rfl (lv_at hl 0 rfl) ?_
        refine lv_dup hx hb dX6_decide_40 rfl ?_
        refine g_get F hK hP inX6 0 rfl rfl 16 (by decide) gw_592 rfl (v := .int (nI ((gV g).length))) rfl dX6_decide_41 ?_
        refine lv_iconst (v := 1) hx hb dX6_decide_44 (by decide) ?_
        refine n_add F (a := (gV g).length) (b := 1) dX6_decide_45 ?_
        refine g_put F hK hP hD hS inX6 tyX6_ok nmX6 0 rfl rfl 16 (by decide) gw_592 rfl rfl rfl rfl (Nat.le_of_ble_eq_true rfl) dX6_decide_46 (fun H locs hP hD hS => ?_)
        have hP : va_P D vwCl (mW ad kA (sV g ((nI (10 * c) + v) :: gV g)) (tL z1 (upd (zL z1) 0 ((nI (10 * c)) + v)))) H := hP
        have hD : va_D A (mW ad kA (sV g ((nI (10 * c) + v) :: gV g)) (tL z1 (upd (zL z1) 0 ((nI (10 * c)) + v)))) := hD
        refine lv_iload_n hx hb dX6_decide_49 rfl (lv_at hl 2 rfl) ?_
        exact rt _ (mW ad kA (sV g ((nI (10 * c) + v) :: gV g)) (tL z1 (upd (zL z1) 0 ((nI (10 * c)) + v)))) _ _ _ _ hP hD hS dX6_decide_50 (⟨rfl, _, RgM_s hL _, by rw [hz, show k = 0 from c_4]; rfl⟩)
      · refine lv_aload_n hx hb dX6_decide_7 rfl (lv_at hl 0 rfl) ?_
        refine g_get F hK hP inX6 0 rfl rfl 17 (by decide) gw_593 rfl (v := .ref (ad 9)) rfl dX6_decide_8 ?_
        refine lv_iload_n hx hb dX6_decide_11 rfl (lv_at hl 3 rfl) ?_
        refine lv_aload_n hx hb dX6_decide_12 rfl (lv_at hl 0 rfl) ?_
        refine g_get F hK hP inX6 0 rfl rfl 17 (by decide) gw_593 rfl (v := .ref (ad 9)) rfl dX6_decide_13 ?_
        refine lv_iload_n hx hb dX6_decide_16 rfl (lv_at hl 3 rfl) ?_
        refine lv_iconst (v := 1) hx hb dX6_decide_17 (by decide) ?_
        refine n_sub F (a := k) (b := 1) dX6_decide_18 (by omega) ?_
        refine a_ild F hK hP 9 (f := zL z1) rfl (j := k - 1) (by omega) (by decide) dX6_decide_19 ?_
        refine a_ist F hK hP hD hS 9 (f := zL z1) rfl (j := k) (by omega) (by decide) dX6_decide_20 (fun H locs hP hD hS => ?_)
        have hP : va_P D vwCl (mW ad kA g (tL z1 (upd (zL z1) k (zL z1 (k - 1))))) H := hP
        have hD : va_D A (mW ad kA g (tL z1 (upd (zL z1) k (zL z1 (k - 1))))) := hD
        refine lv_iinc (v := nI (k - 1)) (lv' := [(3, .int (nI (k - 1))), (0, .ref (ad 0)), (1, .int (nI c)), (2, .int v)]) hx hb dX6_decide_21 hl (k := 3) rfl (sb_m1 (by omega)) (by decide) rfl (fun ls hl => ?_)
        refine lv_goto (tgt := 3) hx hb dX6_decide_24 (by decide) ?_
        exact ih_3  (k - 1) (tL z1 (upd (zL z1) k (zL z1 (k - 1)))) (by omega) (by rw [hz]; exact congrArg (tL z) (shd_s _ (by omega) hk)) (by omega) _ _ _ hP hD hS (lv_sub hl [1, 2, 3, 0] rfl)
  exact lp_3 _ 15 z (Nat.le_refl _) (by rw [shd_0]; rfl) (Nat.lt_succ_self _) _ _ _ hP hD hS (lv_sub hl [1, 2, 3, 0] rfl)

set_option maxRecDepth 100000 in
set_option maxHeartbeats 4000000 in
theorem kX6_count (l : Launch) (D : va_G) (kA : Nat → ClassId) (sz : Nat) (ad : Nat → Nat) (g : Sg) (z : Zm) (c : Nat) (b : Int32) (hc : c < 8) (hM : Mn g) (hL : RgM (gV g) (zL z)) : CtI l yX6_count cX6_count 3 .int 2 D kA sz (mW ad kA g z) [.ref (ad 0), .int (nI c), .int b] (fun r u => r = (sp_settle c b g).1 ∧ mQ ad kA (sp_settle c b g).2 z u) := by
  refine ct_i (own := RX6) (by decide) rfl (Nat.le_of_ble_eq_true rfl) ?_
  intro p_ e_ s_ m_ ar_ bw_ me_ co_ A ls Q F hnm hK hA hP hD hS hl hsz rt
  have hx := F.1
  have hb := F.2.1
  have hl : lv_has ls 3 [(0, .ref (ad 0)), (1, .int (nI c)), (2, .int b)] := hl
  have hP : va_P D vwCl (mW ad kA g z) s_.heap := hP
  refine lv_aload_n hx hb dX6_count_0 rfl (lv_at hl 0 rfl) ?_
  refine g_get F hK hP inX6 0 rfl rfl 7 (by decide) gw_583 rfl (v := .ref (ad 1)) rfl dX6_count_1 ?_
  refine lv_iload_n hx hb dX6_count_4 rfl (lv_at hl 1 rfl) ?_
  refine lv_dup2_11 hx hb dX6_count_5 rfl rfl ?_
  refine a_ild F hK hP 1 (f := gR g 0) rfl (j := c) (by omega) (by decide) dX6_count_6 ?_
  refine lv_iload_n hx hb dX6_count_7 rfl (lv_at hl 2 rfl) ?_
  refine lv_if_eq (tgt := 19) hx hb dX6_count_8 (by decide) (fun c_8 => ?_) (fun c_8 => ?_)
  · have hs1 : sc1 c b g = gR g 0 c + gI g 0 := if_pos c_8
    refine lv_aload_n hx hb dX6_count_19 rfl (lv_at hl 0 rfl) ?_
    refine g_get F hK hP inX6 0 rfl rfl 1 (by decide) gw_577 rfl (v := .int (gI g 0)) rfl dX6_count_20 ?_
    refine lv_iadd hx hb dX6_count_23 ?_
    rw [← hs1]
    refine a_ist F hK hP hD hS 1 (f := gR g 0) rfl (j := c) (by omega) (by decide) dX6_count_24 (fun H locs hP hD hS => ?_)
    have hP : va_P D vwCl (mW ad kA (sR g 0 (upd (gR g 0) c (sc1 c b g))) z) H := hP
    have hD : va_D A (mW ad kA (sR g 0 (upd (gR g 0) c (sc1 c b g))) z) := hD
    refine lv_aload_n hx hb dX6_count_25 rfl (lv_at hl 0 rfl) ?_
    refine g_get F hK hP inX6 0 rfl rfl 7 (by decide) gw_583 rfl (v := .ref (ad 1)) rfl dX6_count_26 ?_
    refine lv_iload_n hx hb dX6_count_29 rfl (lv_at hl 1 rfl) ?_
    refine a_ild F hK hP 1 (f := upd (gR g 0) c (sc1 c b g)) rfl (j := c) (by omega) (by decide) dX6_count_30 ?_
    rw [show ((upd (gR g 0) c (sc1 c b g)) c) = (sc1 c b g) from pk_us]
    refine lv_aload_n hx hb dX6_count_31 rfl (lv_at hl 0 rfl) ?_
    refine g_get F hK hP inX6 0 rfl rfl 3 (by decide) gw_579 rfl (v := .int (gI g 2)) rfl dX6_count_32 ?_
    refine lv_icmp_lt (tgt := 57) hx hb dX6_count_35 (by decide) (fun c_35 => ?_) (fun c_35 => ?_)
    · refine lv_aload_n hx hb dX6_count_57 rfl (lv_at hl 0 rfl) ?_
      refine g_get F hK hP inX6 0 rfl rfl 7 (by decide) gw_583 rfl (v := .ref (ad 1)) rfl dX6_count_58 ?_
      refine lv_iload_n hx hb dX6_count_61 rfl (lv_at hl 1 rfl) ?_
      refine a_ild F hK hP 1 (f := upd (gR g 0) c (sc1 c b g)) rfl (j := c) (by omega) (by decide) dX6_count_62 ?_
      rw [show ((upd (gR g 0) c (sc1 c b g)) c) = (sc1 c b g) from pk_us]
      refine lv_aload_n hx hb dX6_count_63 rfl (lv_at hl 0 rfl) ?_
      refine g_get F hK hP inX6 0 rfl rfl 4 (by decide) gw_580 rfl (v := .int (gI g 3)) rfl dX6_count_64 ?_
      refine lv_icmp_gt (tgt := 91) hx hb dX6_count_67 (by decide) (fun c_67 => ?_) (fun c_67 => ?_)
      · refine lv_iconst (v := 0) hx hb dX6_count_91 (by decide) ?_
        have hq : sp_settle c b g = (0, st1 c b g) := by rw [sp_settle, if_pos c_35, if_pos c_67]
        exact rt _ (mW ad kA (sR g 0 (upd (gR g 0) c (sc1 c b g))) z) _ _ _ _ hP hD hS dX6_count_92 (by show _ ∧ _; rw [hq]; exact ⟨rfl, zL z, hL, rfl⟩)
      · refine lv_aload_n hx hb dX6_count_70 rfl (lv_at hl 0 rfl) ?_
        refine g_get F hK hP inX6 0 rfl rfl 7 (by decide) gw_583 rfl (v := .ref (ad 1)) rfl dX6_count_71 ?_
        refine lv_iload_n hx hb dX6_count_74 rfl (lv_at hl 1 rfl) ?_
        refine lv_iconst (v := 0) hx hb dX6_count_75 (by decide) ?_
        refine a_ist F hK hP hD hS 1 (f := upd (gR g 0) c (sc1 c b g)) rfl (j := c) (by omega) (by decide) dX6_count_76 (fun H locs hP hD hS => ?_)
        have hP : va_P D vwCl (mW ad kA (sR (sR g 0 (upd (gR g 0) c (sc1 c b g))) 0 (upd (upd (gR g 0) c (sc1 c b g)) c 0)) z) H := hP
        have hD : va_D A (mW ad kA (sR (sR g 0 (upd (gR g 0) c (sc1 c b g))) 0 (upd (upd (gR g 0) c (sc1 c b g)) c 0)) z) := hD
        refine lv_aload_n hx hb dX6_count_77 rfl (lv_at hl 0 rfl) ?_
        refine g_get F hK hP inX6 0 rfl rfl 9 (by decide) gw_585 rfl (v := .ref (ad 3)) rfl dX6_count_78 ?_
        refine lv_iload_n hx hb dX6_count_81 rfl (lv_at hl 1 rfl) ?_
        refine lv_lconst (v := 0) hx hb dX6_count_82 (by decide) ?_
        refine a_lst F hK hP hD hS 3 (f := gE g) rfl (j := c) (by omega) (by decide) dX6_count_83 (fun H locs hP hD hS => ?_)
        have hP : va_P D vwCl (mW ad kA (sE (sR (sR g 0 (upd (gR g 0) c (sc1 c b g))) 0 (upd (upd (gR g 0) c (sc1 c b g)) c 0)) (vp_updL (gE g) c 0)) z) H := hP
        have hD : va_D A (mW ad kA (sE (sR (sR g 0 (upd (gR g 0) c (sc1 c b g))) 0 (upd (upd (gR g 0) c (sc1 c b g)) c 0)) (vp_updL (gE g) c 0)) z) := hD
        refine lv_aload_n hx hb dX6_count_84 rfl (lv_at hl 0 rfl) ?_
        refine lv_iload_n hx hb dX6_count_85 rfl (lv_at hl 1 rfl) ?_
        refine lv_iconst (v := 2) hx hb dX6_count_86 (by decide) ?_
        refine cl_V_i (wc := (mW ad kA (sE (sR (sR g 0 (upd (gR g 0) c (sc1 c b g))) 0 (upd (upd (gR g 0) c (sc1 c b g)) c 0)) (vp_updL (gE g) c 0)) z)) (As := [.int (nI c), .int 2]) (rest := []) (b := (ad 0)) (C := RX6) F hK hP hD hS hA (kX6_decide l D kA _ ad (sE (sR (sR g 0 (upd (gR g 0) c (sc1 c b g))) 0 (upd (upd (gR g 0) c (sc1 c b g)) c 0)) (vp_updL (gE g) c 0)) z c 2 hL) gw_712 gw_71 gw_709 gw_711 gw_50 (va_recv hK.1 hP (ci := 6) (q0 := 0) rfl rfl) hdX6_decide ⟨Nat.le_of_ble_eq_true rfl, Nat.le_of_ble_eq_true rfl⟩ hl.1 rfl (Nat.le_of_ble_eq_true rfl) dX6_count_87 ⟨Nat.le_of_ble_eq_true rfl, Nat.le_of_ble_eq_true rfl⟩ (fun r_87 u_87 H locs hw hP1 hD1 hk1 hFc hS => ?_)
        obtain ⟨rfl, L_87, hL_87, rfl⟩ := hw
        have hP : va_P D vwCl (mW ad kA (sV (sE (sR (sR g 0 (upd (gR g 0) c (sc1 c b g))) 0 (upd (upd (gR g 0) c (sc1 c b g)) c 0)) (vp_updL (gE g) c 0)) ((nI (10 * c) + 2) :: gV (sE (sR (sR g 0 (upd (gR g 0) c (sc1 c b g))) 0 (upd (upd (gR g 0) c (sc1 c b g)) c 0)) (vp_updL (gE g) c 0)))) (tL z L_87)) H := hP1
        have hD : va_D A (mW ad kA (sV (sE (sR (sR g 0 (upd (gR g 0) c (sc1 c b g))) 0 (upd (upd (gR g 0) c (sc1 c b g)) c 0)) (vp_updL (gE g) c 0)) ((nI (10 * c) + 2) :: gV (sE (sR (sR g 0 (upd (gR g 0) c (sc1 c b g))) 0 (upd (upd (gR g 0) c (sc1 c b g)) c 0)) (vp_updL (gE g) c 0)))) (tL z L_87)) := hD1.weaken (fun _ _ _ h => hFc _ h)
        have hq : sp_settle c b g = (2, st2 c (st1 c b g)) := by rw [sp_settle, if_pos c_35, if_neg c_67]
        exact rt _ (mW ad kA (sV (sE (sR (sR g 0 (upd (gR g 0) c (sc1 c b g))) 0 (upd (upd (gR g 0) c (sc1 c b g)) c 0)) (vp_updL (gE g) c 0)) ((nI (10 * c) + 2) :: gV (sE (sR (sR g 0 (upd (gR g 0) c (sc1 c b g))) 0 (upd (upd (gR g 0) c (sc1 c b g)) c 0)) (vp_updL (gE g) c 0)))) (tL z L_87)) _ _ _ _ hP hD hS dX6_count_90 (by show _ ∧ _; rw [hq]; exact ⟨rfl, L_87, hL_87, rfl⟩)
    · refine lv_aload_n hx hb dX6_count_38 rfl (lv_at hl 0 rfl) ?_
      refine g_get F hK hP inX6 0 rfl rfl 8 (by decide) gw_584 rfl (v := .ref (ad 2)) rfl dX6_count_39 ?_
      refine lv_iload_n hx hb dX6_count_42 rfl (lv_at hl 1 rfl) ?_
      refine lv_iconst (v := 1) hx hb dX6_count_43 (by decide) ?_
      refine a_zst F hK hP hD hS 2 (f := gR g 1) rfl (j := c) (by omega) (by decide) dX6_count_44 (fun H locs hP hD hS => ?_)
      have hP : va_P D vwCl (mW ad kA (sR (sR g 0 (upd (gR g 0) c (sc1 c b g))) 1 (upd (gR g 1) c 1)) z) H := hP
      have hD : va_D A (mW ad kA (sR (sR g 0 (upd (gR g 0) c (sc1 c b g))) 1 (upd (gR g 1) c 1)) z) := hD
      refine lv_aload_n hx hb dX6_count_45 rfl (lv_at hl 0 rfl) ?_
      refine lv_iload_n hx hb dX6_count_46 rfl (lv_at hl 1 rfl) ?_
      refine cl_V_v (wc := (mW ad kA (sR (sR g 0 (upd (gR g 0) c (sc1 c b g))) 1 (upd (gR g 1) c 1)) z)) (As := [.int (nI c)]) (rest := []) (b := (ad 0)) (C := RX6) F hK hP hD hS hA (kX6_dropAllOf l D kA _ ad (sR (sR g 0 (upd (gR g 0) c (sc1 c b g))) 1 (upd (gR g 1) c 1)) z c hM) gw_704 gw_71 gw_701 gw_703 gw_48 (va_recv hK.1 hP (ci := 6) (q0 := 0) rfl rfl) hdX6_dropAllOf ⟨Nat.le_of_ble_eq_true rfl, Nat.le_of_ble_eq_true rfl⟩ hl.1 rfl (Nat.le_of_ble_eq_true rfl) dX6_count_47 ⟨Nat.le_of_ble_eq_true rfl, Nat.le_of_ble_eq_true rfl⟩ (fun u_47 H locs hw hP1 hD1 hk1 hFc hS => ?_)
      obtain rfl := hw
      have hP : va_P D vwCl (mW ad kA (dAll c (gN g 1) (sR (sR g 0 (upd (gR g 0) c (sc1 c b g))) 1 (upd (gR g 1) c 1))) z) H := hP1
      have hD : va_D A (mW ad kA (dAll c (gN g 1) (sR (sR g 0 (upd (gR g 0) c (sc1 c b g))) 1 (upd (gR g 1) c 1))) z) := hD1.weaken (fun _ _ _ h => hFc _ h)
      refine lv_aload_n hx hb dX6_count_50 rfl (lv_at hl 0 rfl) ?_
      refine lv_iload_n hx hb dX6_count_51 rfl (lv_at hl 1 rfl) ?_
      refine lv_iconst (v := 1) hx hb dX6_count_52 (by decide) ?_
      refine cl_V_i (wc := (mW ad kA (dAll c (gN g 1) (sR (sR g 0 (upd (gR g 0) c (sc1 c b g))) 1 (upd (gR g 1) c 1))) z)) (As := [.int (nI c), .int 1]) (rest := []) (b := (ad 0)) (C := RX6) F hK hP hD hS hA (kX6_decide l D kA _ ad (dAll c (gN g 1) (sR (sR g 0 (upd (gR g 0) c (sc1 c b g))) 1 (upd (gR g 1) c 1))) z c 1 (rg_dAll (Nat.le_refl (gN g 1)) hL)) gw_712 gw_71 gw_709 gw_711 gw_50 (va_recv hK.1 hP (ci := 6) (q0 := 0) rfl rfl) hdX6_decide ⟨Nat.le_of_ble_eq_true rfl, Nat.le_of_ble_eq_true rfl⟩ hl.1 rfl (Nat.le_of_ble_eq_true rfl) dX6_count_53 ⟨Nat.le_of_ble_eq_true rfl, Nat.le_of_ble_eq_true rfl⟩ (fun r_53 u_53 H locs hw hP1 hD1 hk1 hFc hS => ?_)
      obtain ⟨rfl, L_53, hL_53, rfl⟩ := hw
      have hP : va_P D vwCl (mW ad kA (sV (dAll c (gN g 1) (sR (sR g 0 (upd (gR g 0) c (sc1 c b g))) 1 (upd (gR g 1) c 1))) ((nI (10 * c) + 1) :: gV (dAll c (gN g 1) (sR (sR g 0 (upd (gR g 0) c (sc1 c b g))) 1 (upd (gR g 1) c 1))))) (tL z L_53)) H := hP1
      have hD : va_D A (mW ad kA (sV (dAll c (gN g 1) (sR (sR g 0 (upd (gR g 0) c (sc1 c b g))) 1 (upd (gR g 1) c 1))) ((nI (10 * c) + 1) :: gV (dAll c (gN g 1) (sR (sR g 0 (upd (gR g 0) c (sc1 c b g))) 1 (upd (gR g 1) c 1))))) (tL z L_53)) := hD1.weaken (fun _ _ _ h => hFc _ h)
      have hq : sp_settle c b g = (1, st3 c (st1 c b g)) := by rw [sp_settle, if_neg c_35]
      exact rt _ (mW ad kA (sV (dAll c (gN g 1) (sR (sR g 0 (upd (gR g 0) c (sc1 c b g))) 1 (upd (gR g 1) c 1))) ((nI (10 * c) + 1) :: gV (dAll c (gN g 1) (sR (sR g 0 (upd (gR g 0) c (sc1 c b g))) 1 (upd (gR g 1) c 1))))) (tL z L_53)) _ _ _ _ hP hD hS dX6_count_56 (by show _ ∧ _; rw [hq]; exact ⟨rfl, L_53, hL_53, rfl⟩)
  · have hs1 : sc1 c b g = gR g 0 c + -gI g 1 := if_neg c_8
    refine lv_aload_n hx hb dX6_count_11 rfl (lv_at hl 0 rfl) ?_
    refine g_get F hK hP inX6 0 rfl rfl 2 (by decide) gw_578 rfl (v := .int (gI g 1)) rfl dX6_count_12 ?_
    refine lv_ineg hx hb dX6_count_15 ?_
    refine lv_goto (tgt := 23) hx hb dX6_count_16 (by decide) ?_
    refine lv_iadd hx hb dX6_count_23 ?_
    rw [← hs1]
    refine a_ist F hK hP hD hS 1 (f := gR g 0) rfl (j := c) (by omega) (by decide) dX6_count_24 (fun H locs hP hD hS => ?_)
    have hP : va_P D vwCl (mW ad kA (sR g 0 (upd (gR g 0) c (sc1 c b g))) z) H := hP
    have hD : va_D A (mW ad kA (sR g 0 (upd (gR g 0) c (sc1 c b g))) z) := hD
    refine lv_aload_n hx hb dX6_count_25 rfl (lv_at hl 0 rfl) ?_
    refine g_get F hK hP inX6 0 rfl rfl 7 (by decide) gw_583 rfl (v := .ref (ad 1)) rfl dX6_count_26 ?_
    refine lv_iload_n hx hb dX6_count_29 rfl (lv_at hl 1 rfl) ?_
    refine a_ild F hK hP 1 (f := upd (gR g 0) c (sc1 c b g)) rfl (j := c) (by omega) (by decide) dX6_count_30 ?_
    rw [show ((upd (gR g 0) c (sc1 c b g)) c) = (sc1 c b g) from pk_us]
    refine lv_aload_n hx hb dX6_count_31 rfl (lv_at hl 0 rfl) ?_
    refine g_get F hK hP inX6 0 rfl rfl 3 (by decide) gw_579 rfl (v := .int (gI g 2)) rfl dX6_count_32 ?_
    refine lv_icmp_lt (tgt := 57) hx hb dX6_count_35 (by decide) (fun c_35 => ?_) (fun c_35 => ?_)
    · refine lv_aload_n hx hb dX6_count_57 rfl (lv_at hl 0 rfl) ?_
      refine g_get F hK hP inX6 0 rfl rfl 7 (by decide) gw_583 rfl (v := .ref (ad 1)) rfl dX6_count_58 ?_
      refine lv_iload_n hx hb dX6_count_61 rfl (lv_at hl 1 rfl) ?_
      refine a_ild F hK hP 1 (f := upd (gR g 0) c (sc1 c b g)) rfl (j := c) (by omega) (by decide) dX6_count_62 ?_
      rw [show ((upd (gR g 0) c (sc1 c b g)) c) = (sc1 c b g) from pk_us]
      refine lv_aload_n hx hb dX6_count_63 rfl (lv_at hl 0 rfl) ?_
      refine g_get F hK hP inX6 0 rfl rfl 4 (by decide) gw_580 rfl (v := .int (gI g 3)) rfl dX6_count_64 ?_
      refine lv_icmp_gt (tgt := 91) hx hb dX6_count_67 (by decide) (fun c_67 => ?_) (fun c_67 => ?_)
      · refine lv_iconst (v := 0) hx hb dX6_count_91 (by decide) ?_
        have hq : sp_settle c b g = (0, st1 c b g) := by rw [sp_settle, if_pos c_35, if_pos c_67]
        exact rt _ (mW ad kA (sR g 0 (upd (gR g 0) c (sc1 c b g))) z) _ _ _ _ hP hD hS dX6_count_92 (by show _ ∧ _; rw [hq]; exact ⟨rfl, zL z, hL, rfl⟩)
      · refine lv_aload_n hx hb dX6_count_70 rfl (lv_at hl 0 rfl) ?_
        refine g_get F hK hP inX6 0 rfl rfl 7 (by decide) gw_583 rfl (v := .ref (ad 1)) rfl dX6_count_71 ?_
        refine lv_iload_n hx hb dX6_count_74 rfl (lv_at hl 1 rfl) ?_
        refine lv_iconst (v := 0) hx hb dX6_count_75 (by decide) ?_
        refine a_ist F hK hP hD hS 1 (f := upd (gR g 0) c (sc1 c b g)) rfl (j := c) (by omega) (by decide) dX6_count_76 (fun H locs hP hD hS => ?_)
        have hP : va_P D vwCl (mW ad kA (sR (sR g 0 (upd (gR g 0) c (sc1 c b g))) 0 (upd (upd (gR g 0) c (sc1 c b g)) c 0)) z) H := hP
        have hD : va_D A (mW ad kA (sR (sR g 0 (upd (gR g 0) c (sc1 c b g))) 0 (upd (upd (gR g 0) c (sc1 c b g)) c 0)) z) := hD
        refine lv_aload_n hx hb dX6_count_77 rfl (lv_at hl 0 rfl) ?_
        refine g_get F hK hP inX6 0 rfl rfl 9 (by decide) gw_585 rfl (v := .ref (ad 3)) rfl dX6_count_78 ?_
        refine lv_iload_n hx hb dX6_count_81 rfl (lv_at hl 1 rfl) ?_
        refine lv_lconst (v := 0) hx hb dX6_count_82 (by decide) ?_
        refine a_lst F hK hP hD hS 3 (f := gE g) rfl (j := c) (by omega) (by decide) dX6_count_83 (fun H locs hP hD hS => ?_)
        have hP : va_P D vwCl (mW ad kA (sE (sR (sR g 0 (upd (gR g 0) c (sc1 c b g))) 0 (upd (upd (gR g 0) c (sc1 c b g)) c 0)) (vp_updL (gE g) c 0)) z) H := hP
        have hD : va_D A (mW ad kA (sE (sR (sR g 0 (upd (gR g 0) c (sc1 c b g))) 0 (upd (upd (gR g 0) c (sc1 c b g)) c 0)) (vp_updL (gE g) c 0)) z) := hD
        refine lv_aload_n hx hb dX6_count_84 rfl (lv_at hl 0 rfl) ?_
        refine lv_iload_n hx hb dX6_count_85 rfl (lv_at hl 1 rfl) ?_
        refine lv_iconst (v := 2) hx hb dX6_count_86 (by decide) ?_
        refine cl_V_i (wc := (mW ad kA (sE (sR (sR g 0 (upd (gR g 0) c (sc1 c b g))) 0 (upd (upd (gR g 0) c (sc1 c b g)) c 0)) (vp_updL (gE g) c 0)) z)) (As := [.int (nI c), .int 2]) (rest := []) (b := (ad 0)) (C := RX6) F hK hP hD hS hA (kX6_decide l D kA _ ad (sE (sR (sR g 0 (upd (gR g 0) c (sc1 c b g))) 0 (upd (upd (gR g 0) c (sc1 c b g)) c 0)) (vp_updL (gE g) c 0)) z c 2 hL) gw_712 gw_71 gw_709 gw_711 gw_50 (va_recv hK.1 hP (ci := 6) (q0 := 0) rfl rfl) hdX6_decide ⟨Nat.le_of_ble_eq_true rfl, Nat.le_of_ble_eq_true rfl⟩ hl.1 rfl (Nat.le_of_ble_eq_true rfl) dX6_count_87 ⟨Nat.le_of_ble_eq_true rfl, Nat.le_of_ble_eq_true rfl⟩ (fun r_87 u_87 H locs hw hP1 hD1 hk1 hFc hS => ?_)
        obtain ⟨rfl, L_87, hL_87, rfl⟩ := hw
        have hP : va_P D vwCl (mW ad kA (sV (sE (sR (sR g 0 (upd (gR g 0) c (sc1 c b g))) 0 (upd (upd (gR g 0) c (sc1 c b g)) c 0)) (vp_updL (gE g) c 0)) ((nI (10 * c) + 2) :: gV (sE (sR (sR g 0 (upd (gR g 0) c (sc1 c b g))) 0 (upd (upd (gR g 0) c (sc1 c b g)) c 0)) (vp_updL (gE g) c 0)))) (tL z L_87)) H := hP1
        have hD : va_D A (mW ad kA (sV (sE (sR (sR g 0 (upd (gR g 0) c (sc1 c b g))) 0 (upd (upd (gR g 0) c (sc1 c b g)) c 0)) (vp_updL (gE g) c 0)) ((nI (10 * c) + 2) :: gV (sE (sR (sR g 0 (upd (gR g 0) c (sc1 c b g))) 0 (upd (upd (gR g 0) c (sc1 c b g)) c 0)) (vp_updL (gE g) c 0)))) (tL z L_87)) := hD1.weaken (fun _ _ _ h => hFc _ h)
        have hq : sp_settle c b g = (2, st2 c (st1 c b g)) := by rw [sp_settle, if_pos c_35, if_neg c_67]
        exact rt _ (mW ad kA (sV (sE (sR (sR g 0 (upd (gR g 0) c (sc1 c b g))) 0 (upd (upd (gR g 0) c (sc1 c b g)) c 0)) (vp_updL (gE g) c 0)) ((nI (10 * c) + 2) :: gV (sE (sR (sR g 0 (upd (gR g 0) c (sc1 c b g))) 0 (upd (upd (gR g 0) c (sc1 c b g)) c 0)) (vp_updL (gE g) c 0)))) (tL z L_87)) _ _ _ _ hP hD hS dX6_count_90 (by show _ ∧ _; rw [hq]; exact ⟨rfl, L_87, hL_87, rfl⟩)
    · refine lv_aload_n hx hb dX6_count_38 rfl (lv_at hl 0 rfl) ?_
      refine g_get F hK hP inX6 0 rfl rfl 8 (by decide) gw_584 rfl (v := .ref (ad 2)) rfl dX6_count_39 ?_
      refine lv_iload_n hx hb dX6_count_42 rfl (lv_at hl 1 rfl) ?_
      refine lv_iconst (v := 1) hx hb dX6_count_43 (by decide) ?_
      refine a_zst F hK hP hD hS 2 (f := gR g 1) rfl (j := c) (by omega) (by decide) dX6_count_44 (fun H locs hP hD hS => ?_)
      have hP : va_P D vwCl (mW ad kA (sR (sR g 0 (upd (gR g 0) c (sc1 c b g))) 1 (upd (gR g 1) c 1)) z) H := hP
      have hD : va_D A (mW ad kA (sR (sR g 0 (upd (gR g 0) c (sc1 c b g))) 1 (upd (gR g 1) c 1)) z) := hD
      refine lv_aload_n hx hb dX6_count_45 rfl (lv_at hl 0 rfl) ?_
      refine lv_iload_n hx hb dX6_count_46 rfl (lv_at hl 1 rfl) ?_
      refine cl_V_v (wc := (mW ad kA (sR (sR g 0 (upd (gR g 0) c (sc1 c b g))) 1 (upd (gR g 1) c 1)) z)) (As := [.int (nI c)]) (rest := []) (b := (ad 0)) (C := RX6) F hK hP hD hS hA (kX6_dropAllOf l D kA _ ad (sR (sR g 0 (upd (gR g 0) c (sc1 c b g))) 1 (upd (gR g 1) c 1)) z c hM) gw_704 gw_71 gw_701 gw_703 gw_48 (va_recv hK.1 hP (ci := 6) (q0 := 0) rfl rfl) hdX6_dropAllOf ⟨Nat.le_of_ble_eq_true rfl, Nat.le_of_ble_eq_true rfl⟩ hl.1 rfl (Nat.le_of_ble_eq_true rfl) dX6_count_47 ⟨Nat.le_of_ble_eq_true rfl, Nat.le_of_ble_eq_true rfl⟩ (fun u_47 H locs hw hP1 hD1 hk1 hFc hS => ?_)
      obtain rfl := hw
      have hP : va_P D vwCl (mW ad kA (dAll c (gN g 1) (sR (sR g 0 (upd (gR g 0) c (sc1 c b g))) 1 (upd (gR g 1) c 1))) z) H := hP1
      have hD : va_D A (mW ad kA (dAll c (gN g 1) (sR (sR g 0 (upd (gR g 0) c (sc1 c b g))) 1 (upd (gR g 1) c 1))) z) := hD1.weaken (fun _ _ _ h => hFc _ h)
      refine lv_aload_n hx hb dX6_count_50 rfl (lv_at hl 0 rfl) ?_
      refine lv_iload_n hx hb dX6_count_51 rfl (lv_at hl 1 rfl) ?_
      refine lv_iconst (v := 1) hx hb dX6_count_52 (by decide) ?_
      refine cl_V_i (wc := (mW ad kA (dAll c (gN g 1) (sR (sR g 0 (upd (gR g 0) c (sc1 c b g))) 1 (upd (gR g 1) c 1))) z)) (As := [.int (nI c), .int 1]) (rest := []) (b := (ad 0)) (C := RX6) F hK hP hD hS hA (kX6_decide l D kA _ ad (dAll c (gN g 1) (sR (sR g 0 (upd (gR g 0) c (sc1 c b g))) 1 (upd (gR g 1) c 1))) z c 1 (rg_dAll (Nat.le_refl (gN g 1)) hL)) gw_712 gw_71 gw_709 gw_711 gw_50 (va_recv hK.1 hP (ci := 6) (q0 := 0) rfl rfl) hdX6_decide ⟨Nat.le_of_ble_eq_true rfl, Nat.le_of_ble_eq_true rfl⟩ hl.1 rfl (Nat.le_of_ble_eq_true rfl) dX6_count_53 ⟨Nat.le_of_ble_eq_true rfl, Nat.le_of_ble_eq_true rfl⟩ (fun r_53 u_53 H locs hw hP1 hD1 hk1 hFc hS => ?_)
      obtain ⟨rfl, L_53, hL_53, rfl⟩ := hw
      have hP : va_P D vwCl (mW ad kA (sV (dAll c (gN g 1) (sR (sR g 0 (upd (gR g 0) c (sc1 c b g))) 1 (upd (gR g 1) c 1))) ((nI (10 * c) + 1) :: gV (dAll c (gN g 1) (sR (sR g 0 (upd (gR g 0) c (sc1 c b g))) 1 (upd (gR g 1) c 1))))) (tL z L_53)) H := hP1
      have hD : va_D A (mW ad kA (sV (dAll c (gN g 1) (sR (sR g 0 (upd (gR g 0) c (sc1 c b g))) 1 (upd (gR g 1) c 1))) ((nI (10 * c) + 1) :: gV (dAll c (gN g 1) (sR (sR g 0 (upd (gR g 0) c (sc1 c b g))) 1 (upd (gR g 1) c 1))))) (tL z L_53)) := hD1.weaken (fun _ _ _ h => hFc _ h)
      have hq : sp_settle c b g = (1, st3 c (st1 c b g)) := by rw [sp_settle, if_neg c_35]
      exact rt _ (mW ad kA (sV (dAll c (gN g 1) (sR (sR g 0 (upd (gR g 0) c (sc1 c b g))) 1 (upd (gR g 1) c 1))) ((nI (10 * c) + 1) :: gV (dAll c (gN g 1) (sR (sR g 0 (upd (gR g 0) c (sc1 c b g))) 1 (upd (gR g 1) c 1))))) (tL z L_53)) _ _ _ _ hP hD hS dX6_count_56 (by show _ ∧ _; rw [hq]; exact ⟨rfl, L_53, hL_53, rfl⟩)

set_option maxRecDepth 100000 in
set_option maxHeartbeats 4000000 in
theorem kX6_isSeen (l : Launch) (D : va_G) (kA : Nat → ClassId) (sz : Nat) (ad : Nat → Nat) (g : Sg) (z : Zm) (c d : Nat) (hc : c < 8) : CtI l yX6_isSeen cX6_isSeen 3 .boolean 0 D kA sz (mW ad kA g z) [.ref (ad 0), .int (nI c), .int (nI d)] (fun r u => (r = if bitq (gE g c) d = 1 then 1 else 0) ∧ u = mW ad kA g z) := by
  refine ct_z (own := RX6) (by decide) rfl (Nat.le_of_ble_eq_true rfl) ?_
  intro p_ e_ s_ m_ ar_ bw_ me_ co_ A ls Q F hnm hK hA hP hD hS hl hsz rt
  have hx := F.1
  have hb := F.2.1
  have hl : lv_has ls 3 [(0, .ref (ad 0)), (1, .int (nI c)), (2, .int (nI d))] := hl
  have hP : va_P D vwCl (mW ad kA g z) s_.heap := hP
  refine lv_aload_n hx hb dX6_isSeen_0 rfl (lv_at hl 0 rfl) ?_
  refine g_get F hK hP inX6 0 rfl rfl 9 (by decide) gw_585 rfl (v := .ref (ad 3)) rfl dX6_isSeen_1 ?_
  refine lv_iload_n hx hb dX6_isSeen_4 rfl (lv_at hl 1 rfl) ?_
  refine a_lld F hK hP 3 (f := gE g) rfl (j := c) (by omega) (by decide) dX6_isSeen_5 ?_
  refine lv_iload_n hx hb dX6_isSeen_6 rfl (lv_at hl 2 rfl) ?_
  refine lv_lshr (v := (gE g c) >>> ((nI d).toInt64 &&& 63)) hx hb dX6_isSeen_7 rfl ?_
  refine lv_lconst (v := 1) hx hb dX6_isSeen_8 (by decide) ?_
  refine lv_land hx hb dX6_isSeen_9 ?_
  refine lv_lconst (v := 1) hx hb dX6_isSeen_10 (by decide) ?_
  refine W.lcmp hx hb dX6_isSeen_11 ?_
  refine b_lcne F (tgt := 19) dX6_isSeen_12 (by decide) (fun c_12 => ?_) (fun c_12 => ?_)
  · refine lv_iconst (v := 0) hx hb dX6_isSeen_19 (by decide) ?_
    exact rt _ (mW ad kA g z) _ _ _ _ hP hD hS dX6_isSeen_20 rfl (⟨(if_neg c_12).symm, rfl⟩)
  · refine lv_iconst (v := 1) hx hb dX6_isSeen_15 (by decide) ?_
    refine lv_goto (tgt := 20) hx hb dX6_isSeen_16 (by decide) ?_
    exact rt _ (mW ad kA g z) _ _ _ _ hP hD hS dX6_isSeen_20 rfl (⟨(if_pos c_12).symm, rfl⟩)

set_option maxRecDepth 100000 in
set_option maxHeartbeats 4000000 in
theorem kX6_connectNow (l : Launch) (D : va_G) (kA : Nat → ClassId) (sz : Nat) (ad : Nat → Nat) (g : Sg) (z : Zm) (s d : Nat) (b : Int32) (hs : s < 8) (hd : d < 32) (hM : Mn g) (hL : RgM (gV g) (zL z)) : CtI l yX6_connectNow cX6_connectNow 5 .int 3 D kA sz (mW ad kA g z) [.ref (ad 0), .int (nI s), .int (nI d), .int b] (fun r u => r = (sp_connectNow s d b g).1 ∧ mQ ad kA (sp_connectNow s d b g).2 z u) := by
  refine ct_i (own := RX6) (by decide) rfl (Nat.le_of_ble_eq_true rfl) ?_
  intro p_ e_ s_ m_ ar_ bw_ me_ co_ A ls Q F hnm hK hA hP hD hS hl hsz rt
  have hx := F.1
  have hb := F.2.1
  have hl : lv_has ls 5 [(0, .ref (ad 0)), (1, .int (nI s)), (2, .int (nI d)), (3, .int b)] := hl
  have hP : va_P D vwCl (mW ad kA g z) s_.heap := hP
  obtain ⟨⟨hm1, hm2⟩, hm3⟩ := id hM
  have hc : s % gN g 0 < 8 := Nat.lt_of_lt_of_le (Nat.mod_lt _ hm1) hm2
  refine lv_iload_n hx hb dX6_connectNow_0 rfl (lv_at hl 1 rfl) ?_
  refine lv_aload_n hx hb dX6_connectNow_1 rfl (lv_at hl 0 rfl) ?_
  refine g_get F hK hP inX6 0 rfl rfl 0 (by decide) gw_576 rfl (v := .int (nI (gN g 0))) rfl dX6_connectNow_2 ?_
  refine n_rem F (a := s) (b := gN g 0) dX6_connectNow_5 (by omega) (by omega) (by omega) ?_
  refine lv_istore (lv' := [(4, .int (nI (s % (gN g 0)))), (0, .ref (ad 0)), (1, .int (nI s)), (2, .int (nI d)), (3, .int b)]) hx hb dX6_connectNow_6 hl (by decide) rfl (fun ls hl => ?_)
  refine lv_aload_n hx hb dX6_connectNow_8 rfl (lv_at hl 1 rfl) ?_
  refine g_get F hK hP inX6 0 rfl rfl 8 (by decide) gw_584 rfl (v := .ref (ad 2)) rfl dX6_connectNow_9 ?_
  refine lv_iload hx hb dX6_connectNow_12 (lv_at hl 0 rfl) ?_
  refine a_zld F hK hP 2 (f := gR g 1) rfl (j := s % (gN g 0)) hc (by decide) dX6_connectNow_14 ?_
  refine lv_if_eq (tgt := 50) hx hb dX6_connectNow_15 (by decide) (fun c_15 => ?_) (fun c_15 => ?_)
  · refine lv_aload_n hx hb dX6_connectNow_50 rfl (lv_at hl 1 rfl) ?_
    refine lv_iload hx hb dX6_connectNow_51 (lv_at hl 0 rfl) ?_
    refine lv_iload_n hx hb dX6_connectNow_53 rfl (lv_at hl 3 rfl) ?_
    refine cl_V_i (wc := (mW ad kA g z)) (As := [.int (nI (s % (gN g 0))), .int (nI d)]) (rest := []) (b := (ad 0)) (C := RX6) F hK hP hD hS hA (kX6_isSeen l D kA _ ad g z (s % (gN g 0)) d hc) gw_696 gw_71 gw_693 gw_695 gw_46 (va_recv hK.1 hP (ci := 6) (q0 := 0) rfl rfl) hdX6_isSeen ⟨Nat.le_of_ble_eq_true rfl, Nat.le_of_ble_eq_true rfl⟩ hl.1 rfl (Nat.le_of_ble_eq_true rfl) dX6_connectNow_54 ⟨Nat.le_of_ble_eq_true rfl, Nat.le_of_ble_eq_true rfl⟩ (fun r_54 u_54 H locs hw hP1 hD1 hk1 hFc hS => ?_)
    obtain ⟨rfl, rfl⟩ := hw
    have hP : va_P D vwCl (mW ad kA g z) H := hP1
    have hD : va_D A (mW ad kA g z) := hD1.weaken (fun _ _ _ h => hFc _ h)
    refine b_beq F (P := bitq (gE g (s % (gN g 0))) d = 1) (tgt := 62) dX6_connectNow_57 (by decide) (fun c_57 => ?_) (fun c_57 => ?_)
    · refine lv_aload_n hx hb dX6_connectNow_62 rfl (lv_at hl 1 rfl) ?_
      refine g_get F hK hP inX6 0 rfl rfl 9 (by decide) gw_585 rfl (v := .ref (ad 3)) rfl dX6_connectNow_63 ?_
      refine lv_iload hx hb dX6_connectNow_66 (lv_at hl 0 rfl) ?_
      refine lv_dup2_11 hx hb dX6_connectNow_68 rfl rfl ?_
      refine a_lld F hK hP 3 (f := gE g) rfl (j := s % (gN g 0)) hc (by decide) dX6_connectNow_69 ?_
      refine lv_lconst (v := 1) hx hb dX6_connectNow_70 (by decide) ?_
      refine lv_iload_n hx hb dX6_connectNow_71 rfl (lv_at hl 3 rfl) ?_
      refine lv_lshl (v := 1 <<< ((nI d).toInt64 &&& 63)) hx hb dX6_connectNow_72 rfl ?_
      refine lv_lor hx hb dX6_connectNow_73 ?_
      refine a_lst F hK hP hD hS 3 (f := gE g) rfl (j := s % (gN g 0)) hc (by decide) dX6_connectNow_74 (fun H locs hP hD hS => ?_)
      have hP : va_P D vwCl (mW ad kA (sE g (vp_updL (gE g) (s % (gN g 0)) ((gE g (s % (gN g 0))) ||| (1 <<< ((nI d).toInt64 &&& 63))))) z) H := hP
      have hD : va_D A (mW ad kA (sE g (vp_updL (gE g) (s % (gN g 0)) ((gE g (s % (gN g 0))) ||| (1 <<< ((nI d).toInt64 &&& 63))))) z) := hD
      refine lv_aload_n hx hb dX6_connectNow_75 rfl (lv_at hl 1 rfl) ?_
      refine lv_iload hx hb dX6_connectNow_76 (lv_at hl 0 rfl) ?_
      refine lv_iload_n hx hb dX6_connectNow_78 rfl (lv_at hl 4 rfl) ?_
      refine cl_V_i (wc := (mW ad kA (sE g (vp_updL (gE g) (s % (gN g 0)) ((gE g (s % (gN g 0))) ||| (1 <<< ((nI d).toInt64 &&& 63))))) z)) (As := [.int (nI (s % (gN g 0))), .int b]) (rest := []) (b := (ad 0)) (C := RX6) F hK hP hD hS hA (kX6_count l D kA _ ad (sE g (vp_updL (gE g) (s % (gN g 0)) ((gE g (s % (gN g 0))) ||| (1 <<< ((nI d).toInt64 &&& 63))))) z (s % (gN g 0)) b hc hM hL) gw_700 gw_71 gw_697 gw_699 gw_47 (va_recv hK.1 hP (ci := 6) (q0 := 0) rfl rfl) hdX6_count ⟨Nat.le_of_ble_eq_true rfl, Nat.le_of_ble_eq_true rfl⟩ hl.1 rfl (Nat.le_of_ble_eq_true rfl) dX6_connectNow_79 ⟨Nat.le_of_ble_eq_true rfl, Nat.le_of_ble_eq_true rfl⟩ (fun r_79 u_79 H locs hw hP1 hD1 hk1 hFc hS => ?_)
      obtain ⟨rfl, L_79, hL_79, rfl⟩ := hw
      have hP : va_P D vwCl (mW ad kA ((sp_settle (s % (gN g 0)) b (sE g (vp_updL (gE g) (s % (gN g 0)) ((gE g (s % (gN g 0))) ||| (1 <<< ((nI d).toInt64 &&& 63)))))).2) (tL z L_79)) H := hP1
      have hD : va_D A (mW ad kA ((sp_settle (s % (gN g 0)) b (sE g (vp_updL (gE g) (s % (gN g 0)) ((gE g (s % (gN g 0))) ||| (1 <<< ((nI d).toInt64 &&& 63)))))).2) (tL z L_79)) := hD1.weaken (fun _ _ _ h => hFc _ h)
      have hq : sp_connectNow s d b g = sp_settle (s % gN g 0) b (seeG (s % gN g 0) d g) := by rw [sp_connectNow, if_pos c_15, if_neg c_57]
      exact rt _ (mW ad kA ((sp_settle (s % (gN g 0)) b (sE g (vp_updL (gE g) (s % (gN g 0)) ((gE g (s % (gN g 0))) ||| (1 <<< ((nI d).toInt64 &&& 63)))))).2) (tL z L_79)) _ _ _ _ hP hD hS dX6_connectNow_82 (by show _ ∧ _; rw [hq]; exact ⟨rfl, L_79, hL_79, rfl⟩)
    · refine lv_iconst (v := 4) hx hb dX6_connectNow_60 (by decide) ?_
      have hq : sp_connectNow s d b g = (4, g) := by rw [sp_connectNow, if_pos c_15, if_pos c_57]
      exact rt _ (mW ad kA g z) _ _ _ _ hP hD hS dX6_connectNow_61 (by show _ ∧ _; rw [hq]; exact ⟨rfl, zL z, hL, rfl⟩)
  · refine lv_aload_n hx hb dX6_connectNow_18 rfl (lv_at hl 1 rfl) ?_
    refine g_get F hK hP inX6 0 rfl rfl 10 (by decide) gw_586 rfl (v := .ref (ad 4)) rfl dX6_connectNow_19 ?_
    refine lv_iload hx hb dX6_connectNow_22 (lv_at hl 0 rfl) ?_
    refine lv_dup2_11 hx hb dX6_connectNow_24 rfl rfl ?_
    refine a_ild F hK hP 4 (f := gR g 2) rfl (j := s % (gN g 0)) hc (by decide) dX6_connectNow_25 ?_
    refine lv_iconst (v := 1) hx hb dX6_connectNow_26 (by decide) ?_
    refine lv_iadd hx hb dX6_connectNow_27 ?_
    refine a_ist F hK hP hD hS 4 (f := gR g 2) rfl (j := s % (gN g 0)) hc (by decide) dX6_connectNow_28 (fun H locs hP hD hS => ?_)
    have hP : va_P D vwCl (mW ad kA (sR g 2 (upd (gR g 2) (s % (gN g 0)) ((gR g 2 (s % (gN g 0))) + 1))) z) H := hP
    have hD : va_D A (mW ad kA (sR g 2 (upd (gR g 2) (s % (gN g 0)) ((gR g 2 (s % (gN g 0))) + 1))) z) := hD
    refine lv_aload_n hx hb dX6_connectNow_29 rfl (lv_at hl 1 rfl) ?_
    refine g_get F hK hP inX6 0 rfl rfl 11 (by decide) gw_587 rfl (v := .ref (ad 5)) rfl dX6_connectNow_30 ?_
    refine lv_iload hx hb dX6_connectNow_33 (lv_at hl 0 rfl) ?_
    refine lv_dup2_11 hx hb dX6_connectNow_35 rfl rfl ?_
    refine a_ild F hK hP 5 (f := gR g 3) rfl (j := s % (gN g 0)) hc (by decide) dX6_connectNow_36 ?_
    refine lv_iload_n hx hb dX6_connectNow_37 rfl (lv_at hl 4 rfl) ?_
    refine lv_if_eq (tgt := 45) hx hb dX6_connectNow_38 (by decide) (fun c_38 => ?_) (fun c_38 => ?_)
    · refine lv_iconst (v := 0) hx hb dX6_connectNow_45 (by decide) ?_
      refine lv_iadd hx hb dX6_connectNow_46 ?_
      refine a_ist F hK hP hD hS 5 (f := gR g 3) rfl (j := s % (gN g 0)) hc (by decide) dX6_connectNow_47 (fun H locs hP hD hS => ?_)
      have hP : va_P D vwCl (mW ad kA (sR (sR g 2 (upd (gR g 2) (s % (gN g 0)) ((gR g 2 (s % (gN g 0))) + 1))) 3 (upd (gR g 3) (s % (gN g 0)) ((gR g 3 (s % (gN g 0))) + 0))) z) H := hP
      have hD : va_D A (mW ad kA (sR (sR g 2 (upd (gR g 2) (s % (gN g 0)) ((gR g 2 (s % (gN g 0))) + 1))) 3 (upd (gR g 3) (s % (gN g 0)) ((gR g 3 (s % (gN g 0))) + 0))) z) := hD
      refine lv_iconst (v := 3) hx hb dX6_connectNow_48 (by decide) ?_
      have hq : sp_connectNow s d b g = (3, sR (sR g 2 (upd (gR g 2) (s % (gN g 0)) ((gR g 2 (s % (gN g 0))) + 1))) 3 (upd (gR g 3) (s % (gN g 0)) ((gR g 3 (s % (gN g 0))) + 0))) := by rw [sp_connectNow, if_neg c_15, blkG, if_pos c_38]
      exact rt _ (mW ad kA (sR (sR g 2 (upd (gR g 2) (s % (gN g 0)) ((gR g 2 (s % (gN g 0))) + 1))) 3 (upd (gR g 3) (s % (gN g 0)) ((gR g 3 (s % (gN g 0))) + 0))) z) _ _ _ _ hP hD hS dX6_connectNow_49 (by show _ ∧ _; rw [hq]; exact ⟨rfl, zL z, hL, rfl⟩)
    · refine lv_iconst (v := 1) hx hb dX6_connectNow_41 (by decide) ?_
      refine lv_goto (tgt := 46) hx hb dX6_connectNow_42 (by decide) ?_
      refine lv_iadd hx hb dX6_connectNow_46 ?_
      refine a_ist F hK hP hD hS 5 (f := gR g 3) rfl (j := s % (gN g 0)) hc (by decide) dX6_connectNow_47 (fun H locs hP hD hS => ?_)
      have hP : va_P D vwCl (mW ad kA (sR (sR g 2 (upd (gR g 2) (s % (gN g 0)) ((gR g 2 (s % (gN g 0))) + 1))) 3 (upd (gR g 3) (s % (gN g 0)) ((gR g 3 (s % (gN g 0))) + 1))) z) H := hP
      have hD : va_D A (mW ad kA (sR (sR g 2 (upd (gR g 2) (s % (gN g 0)) ((gR g 2 (s % (gN g 0))) + 1))) 3 (upd (gR g 3) (s % (gN g 0)) ((gR g 3 (s % (gN g 0))) + 1))) z) := hD
      refine lv_iconst (v := 3) hx hb dX6_connectNow_48 (by decide) ?_
      have hq : sp_connectNow s d b g = (3, sR (sR g 2 (upd (gR g 2) (s % (gN g 0)) ((gR g 2 (s % (gN g 0))) + 1))) 3 (upd (gR g 3) (s % (gN g 0)) ((gR g 3 (s % (gN g 0))) + 1))) := by rw [sp_connectNow, if_neg c_15, blkG, if_neg c_38]
      exact rt _ (mW ad kA (sR (sR g 2 (upd (gR g 2) (s % (gN g 0)) ((gR g 2 (s % (gN g 0))) + 1))) 3 (upd (gR g 3) (s % (gN g 0)) ((gR g 3 (s % (gN g 0))) + 1))) z) _ _ _ _ hP hD hS dX6_connectNow_49 (by show _ ∧ _; rw [hq]; exact ⟨rfl, zL z, hL, rfl⟩)

set_option maxRecDepth 100000 in
set_option maxHeartbeats 4000000 in
theorem kX6_connect (l : Launch) (D : va_G) (kA : Nat → ClassId) (sz : Nat) (ad : Nat → Nat) (g : Sg) (z : Zm) (p1 p2 b : Int32) (hI : Inv g) (hL : RgM (gV g) (zL z)) : CtI l yX6_connect cX6_connect 4 .int 4 D kA sz (mW ad kA g z) [.ref (ad 0), .int p1, .int p2, .int b] (fun r u => r = (sp_connect p1 p2 b g).1 ∧ mQ ad kA (sp_connect p1 p2 b g).2 z u) := by
  refine ct_i (own := RX6) (by decide) rfl (Nat.le_of_ble_eq_true rfl) ?_
  intro p_ e_ s_ m_ ar_ bw_ me_ co_ A ls Q F hnm hK hA hP hD hS hl hsz rt
  have hx := F.1
  have hb := F.2.1
  have hl : lv_has ls 4 [(0, .ref (ad 0)), (1, .int p1), (2, .int p2), (3, .int b)] := hl
  have hP : va_P D vwCl (mW ad kA g z) s_.heap := hP
  obtain ⟨⟨hc1, hc2⟩, ha, hn, hu, hd, hup, hlo, hso, hv⟩ := id hI
  refine lv_iload_n hx hb dX6_connect_0 rfl (lv_at hl 1 rfl) ?_
  refine cl_S_i (wc := []) (As := [.int p1]) (rest := []) F hK P_nil D_nil hS hA (kX6_isSource l D kA _ p1 ) gw_685 gw_71 gw_683 gw_684 hdX6_isSource ⟨Nat.le_of_ble_eq_true rfl, Nat.le_of_ble_eq_true rfl⟩ hl.1 rfl (Nat.le_of_ble_eq_true rfl) dX6_connect_1 ⟨Nat.le_of_ble_eq_true rfl, Nat.le_of_ble_eq_true rfl⟩ (fun r_1 u_1 H locs hw hP1 hD1 hk1 hFc hS => ?_)
  obtain ⟨rfl, rfl⟩ := hw
  have hP := hp_non hP hk1
  refine b_bne F (P := 0 ≤ p1 ∧ p1 ≤ 7) (tgt := 10) dX6_connect_4 (by decide) (fun c_4 => ?_) (fun c_4 => ?_)
  · obtain ⟨s, hs, rfl⟩ := nat_of (n := 7) (by decide) c_4.1 c_4.2
    refine lv_iload_n hx hb dX6_connect_10 rfl (lv_at hl 2 rfl) ?_
    refine cl_S_i (wc := []) (As := [.int p2]) (rest := []) F hK P_nil D_nil hS hA (kX6_isDestination l D kA _ p2 ) gw_688 gw_71 gw_686 gw_687 hdX6_isDestination ⟨Nat.le_of_ble_eq_true rfl, Nat.le_of_ble_eq_true rfl⟩ hl.1 rfl (Nat.le_of_ble_eq_true rfl) dX6_connect_11 ⟨Nat.le_of_ble_eq_true rfl, Nat.le_of_ble_eq_true rfl⟩ (fun r_11 u_11 H locs hw hP1 hD1 hk1 hFc hS => ?_)
    obtain ⟨rfl, rfl⟩ := hw
    have hP := hp_non hP hk1
    refine b_beq F (P := 0 ≤ p2 ∧ p2 ≤ 31) (tgt := 27) dX6_connect_14 (by decide) (fun c_14 => ?_) (fun c_14 => ?_)
    · refine lv_bipush (v := (-106)) hx hb dX6_connect_27 (by decide) ?_
      have hq : sp_connect (nI s) p2 b g = (-106, g) := by rw [sp_connect, if_pos c_4, if_neg c_14]
      exact rt _ (mW ad kA g z) _ _ _ _ hP hD hS dX6_connect_29 (by show _ ∧ _; rw [hq]; exact ⟨rfl, zL z, hL, rfl⟩)
    · obtain ⟨d, hd, rfl⟩ := nat_of (n := 31) (by decide) c_14.1 c_14.2
      refine lv_aload_n hx hb dX6_connect_17 rfl (lv_at hl 0 rfl) ?_
      refine lv_iload_n hx hb dX6_connect_18 rfl (lv_at hl 1 rfl) ?_
      refine lv_iload_n hx hb dX6_connect_19 rfl (lv_at hl 2 rfl) ?_
      refine lv_iload_n hx hb dX6_connect_20 rfl (lv_at hl 3 rfl) ?_
      refine cl_V_i (wc := (mW ad kA g z)) (As := [.int (nI s), .int (nI d), .int b]) (rest := []) (b := (ad 0)) (C := RX6) F hK hP hD hS hA (kX6_connectNow l D kA _ ad g z s d b (by omega) (by omega) ⟨⟨hc1, hc2⟩, ha⟩ hL) gw_692 gw_71 gw_689 gw_691 gw_45 (va_recv hK.1 hP (ci := 6) (q0 := 0) rfl rfl) hdX6_connectNow ⟨Nat.le_of_ble_eq_true rfl, Nat.le_of_ble_eq_true rfl⟩ hl.1 rfl (Nat.le_of_ble_eq_true rfl) dX6_connect_21 ⟨Nat.le_of_ble_eq_true rfl, Nat.le_of_ble_eq_true rfl⟩ (fun r_21 u_21 H locs hw hP1 hD1 hk1 hFc hS => ?_)
      obtain ⟨rfl, L_21, hL_21, rfl⟩ := hw
      have hP : va_P D vwCl (mW ad kA ((sp_connectNow s d b g).2) (tL z L_21)) H := hP1
      have hD : va_D A (mW ad kA ((sp_connectNow s d b g).2) (tL z L_21)) := hD1.weaken (fun _ _ _ h => hFc _ h)
      refine lv_goto (tgt := 29) hx hb dX6_connect_24 (by decide) ?_
      have hq : sp_connect (nI s) (nI d) b g = sp_connectNow s d b g := by rw [sp_connect, if_pos c_4, if_pos c_14, nI_clamp (by omega), nI_clamp (by omega)]
      exact rt _ (mW ad kA ((sp_connectNow s d b g).2) (tL z L_21)) _ _ _ _ hP hD hS dX6_connect_29 (by show _ ∧ _; rw [hq]; exact ⟨rfl, L_21, hL_21, rfl⟩)
  · refine lv_bipush (v := (-105)) hx hb dX6_connect_7 (by decide) ?_
    have hq : sp_connect p1 p2 b g = (-105, g) := by rw [sp_connect, if_neg c_4]
    exact rt _ (mW ad kA g z) _ _ _ _ hP hD hS dX6_connect_9 (by show _ ∧ _; rw [hq]; exact ⟨rfl, zL z, hL, rfl⟩)

set_option maxRecDepth 100000 in
set_option maxHeartbeats 4000000 in
theorem kX6_attemptNow (l : Launch) (D : va_G) (kA : Nat → ClassId) (sz : Nat) (ad : Nat → Nat) (g : Sg) (z : Zm) (s d : Nat) (hs : s < 8) (hd : d < 32) (hM : Mn g) : CtI l yX6_attemptNow cX6_attemptNow 4 .int 1 D kA sz (mW ad kA g z) [.ref (ad 0), .int (nI s), .int (nI d)] (fun r u => r = (sp_attemptNow s d g).1 ∧ u = mW ad kA (sp_attemptNow s d g).2 z) := by
  refine ct_i (own := RX6) (by decide) rfl (Nat.le_of_ble_eq_true rfl) ?_
  intro p_ e_ s_ m_ ar_ bw_ me_ co_ A ls Q F hnm hK hA hP hD hS hl hsz rt
  have hx := F.1
  have hb := F.2.1
  have hl : lv_has ls 4 [(0, .ref (ad 0)), (1, .int (nI s)), (2, .int (nI d))] := hl
  have hP : va_P D vwCl (mW ad kA g z) s_.heap := hP
  obtain ⟨⟨hm1, hm2⟩, hm3⟩ := id hM
  have hc : s % gN g 0 < 8 := Nat.lt_of_lt_of_le (Nat.mod_lt _ hm1) hm2
  refine lv_iload_n hx hb dX6_attemptNow_0 rfl (lv_at hl 1 rfl) ?_
  refine lv_aload_n hx hb dX6_attemptNow_1 rfl (lv_at hl 0 rfl) ?_
  refine g_get F hK hP inX6 0 rfl rfl 0 (by decide) gw_576 rfl (v := .int (nI (gN g 0))) rfl dX6_attemptNow_2 ?_
  refine n_rem F (a := s) (b := gN g 0) dX6_attemptNow_5 (by omega) (by omega) (by omega) ?_
  refine lv_istore_n (lv' := [(3, .int (nI (s % (gN g 0)))), (0, .ref (ad 0)), (1, .int (nI s)), (2, .int (nI d))]) hx hb dX6_attemptNow_6 rfl hl (by decide) rfl (fun ls hl => ?_)
  refine lv_aload_n hx hb dX6_attemptNow_7 rfl (lv_at hl 1 rfl) ?_
  refine g_get F hK hP inX6 0 rfl rfl 8 (by decide) gw_584 rfl (v := .ref (ad 2)) rfl dX6_attemptNow_8 ?_
  refine lv_iload_n hx hb dX6_attemptNow_11 rfl (lv_at hl 0 rfl) ?_
  refine a_zld F hK hP 2 (f := gR g 1) rfl (j := s % (gN g 0)) hc (by decide) dX6_attemptNow_12 ?_
  refine lv_if_eq (tgt := 28) hx hb dX6_attemptNow_13 (by decide) (fun c_13 => ?_) (fun c_13 => ?_)
  · refine lv_aload_n hx hb dX6_attemptNow_28 rfl (lv_at hl 1 rfl) ?_
    refine lv_iload_n hx hb dX6_attemptNow_29 rfl (lv_at hl 0 rfl) ?_
    refine lv_iload_n hx hb dX6_attemptNow_30 rfl (lv_at hl 3 rfl) ?_
    refine cl_V_i (wc := (mW ad kA g z)) (As := [.int (nI (s % (gN g 0))), .int (nI d)]) (rest := []) (b := (ad 0)) (C := RX6) F hK hP hD hS hA (kX6_isSeen l D kA _ ad g z (s % (gN g 0)) d hc) gw_696 gw_71 gw_693 gw_695 gw_46 (va_recv hK.1 hP (ci := 6) (q0 := 0) rfl rfl) hdX6_isSeen ⟨Nat.le_of_ble_eq_true rfl, Nat.le_of_ble_eq_true rfl⟩ hl.1 rfl (Nat.le_of_ble_eq_true rfl) dX6_attemptNow_31 ⟨Nat.le_of_ble_eq_true rfl, Nat.le_of_ble_eq_true rfl⟩ (fun r_31 u_31 H locs hw hP1 hD1 hk1 hFc hS => ?_)
    obtain ⟨rfl, rfl⟩ := hw
    have hP : va_P D vwCl (mW ad kA g z) H := hP1
    have hD : va_D A (mW ad kA g z) := hD1.weaken (fun _ _ _ h => hFc _ h)
    refine b_beq F (P := bitq (gE g (s % (gN g 0))) d = 1) (tgt := 39) dX6_attemptNow_34 (by decide) (fun c_34 => ?_) (fun c_34 => ?_)
    · refine lv_aload_n hx hb dX6_attemptNow_39 rfl (lv_at hl 1 rfl) ?_
      refine g_get F hK hP inX6 0 rfl rfl 12 (by decide) gw_588 rfl (v := .int (nI (gN g 1))) rfl dX6_attemptNow_40 ?_
      refine lv_bipush (v := 12) hx hb dX6_attemptNow_43 (by decide) ?_
      refine b_ne F (a := gN g 1) (b := 12) (tgt := 51) dX6_attemptNow_45 (by decide) (by omega) (by omega) (fun c_45 => ?_) (fun c_45 => ?_)
      · refine lv_aload_n hx hb dX6_attemptNow_51 rfl (lv_at hl 1 rfl) ?_
        refine g_get F hK hP inX6 0 rfl rfl 9 (by decide) gw_585 rfl (v := .ref (ad 3)) rfl dX6_attemptNow_52 ?_
        refine lv_iload_n hx hb dX6_attemptNow_55 rfl (lv_at hl 0 rfl) ?_
        refine lv_dup2_11 hx hb dX6_attemptNow_56 rfl rfl ?_
        refine a_lld F hK hP 3 (f := gE g) rfl (j := s % (gN g 0)) hc (by decide) dX6_attemptNow_57 ?_
        refine lv_lconst (v := 1) hx hb dX6_attemptNow_58 (by decide) ?_
        refine lv_iload_n hx hb dX6_attemptNow_59 rfl (lv_at hl 3 rfl) ?_
        refine lv_lshl (v := 1 <<< ((nI d).toInt64 &&& 63)) hx hb dX6_attemptNow_60 rfl ?_
        refine lv_lor hx hb dX6_attemptNow_61 ?_
        refine a_lst F hK hP hD hS 3 (f := gE g) rfl (j := s % (gN g 0)) hc (by decide) dX6_attemptNow_62 (fun H locs hP hD hS => ?_)
        have hP : va_P D vwCl (mW ad kA (sE g (vp_updL (gE g) (s % (gN g 0)) ((gE g (s % (gN g 0))) ||| (1 <<< ((nI d).toInt64 &&& 63))))) z) H := hP
        have hD : va_D A (mW ad kA (sE g (vp_updL (gE g) (s % (gN g 0)) ((gE g (s % (gN g 0))) ||| (1 <<< ((nI d).toInt64 &&& 63))))) z) := hD
        refine lv_aload_n hx hb dX6_attemptNow_63 rfl (lv_at hl 1 rfl) ?_
        refine g_get F hK hP inX6 0 rfl rfl 13 (by decide) gw_589 rfl (v := .ref (ad 6)) rfl dX6_attemptNow_64 ?_
        refine lv_aload_n hx hb dX6_attemptNow_67 rfl (lv_at hl 1 rfl) ?_
        refine g_get F hK hP inX6 0 rfl rfl 12 (by decide) gw_588 rfl (v := .int (nI (gN g 1))) rfl dX6_attemptNow_68 ?_
        refine lv_iload_n hx hb dX6_attemptNow_71 rfl (lv_at hl 2 rfl) ?_
        refine a_ist F hK hP hD hS 6 (f := gR g 4) rfl (j := gN g 1) (by omega) (by decide) dX6_attemptNow_72 (fun H locs hP hD hS => ?_)
        have hP : va_P D vwCl (mW ad kA (sR (sE g (vp_updL (gE g) (s % (gN g 0)) ((gE g (s % (gN g 0))) ||| (1 <<< ((nI d).toInt64 &&& 63))))) 4 (upd (gR g 4) (gN g 1) (nI s))) z) H := hP
        have hD : va_D A (mW ad kA (sR (sE g (vp_updL (gE g) (s % (gN g 0)) ((gE g (s % (gN g 0))) ||| (1 <<< ((nI d).toInt64 &&& 63))))) 4 (upd (gR g 4) (gN g 1) (nI s))) z) := hD
        refine lv_aload_n hx hb dX6_attemptNow_73 rfl (lv_at hl 1 rfl) ?_
        refine g_get F hK hP inX6 0 rfl rfl 14 (by decide) gw_590 rfl (v := .ref (ad 7)) rfl dX6_attemptNow_74 ?_
        refine lv_aload_n hx hb dX6_attemptNow_77 rfl (lv_at hl 1 rfl) ?_
        refine g_get F hK hP inX6 0 rfl rfl 12 (by decide) gw_588 rfl (v := .int (nI (gN g 1))) rfl dX6_attemptNow_78 ?_
        refine lv_iload_n hx hb dX6_attemptNow_81 rfl (lv_at hl 3 rfl) ?_
        refine a_ist F hK hP hD hS 7 (f := gR g 5) rfl (j := gN g 1) (by omega) (by decide) dX6_attemptNow_82 (fun H locs hP hD hS => ?_)
        have hP : va_P D vwCl (mW ad kA (sR (sR (sE g (vp_updL (gE g) (s % (gN g 0)) ((gE g (s % (gN g 0))) ||| (1 <<< ((nI d).toInt64 &&& 63))))) 4 (upd (gR g 4) (gN g 1) (nI s))) 5 (upd (gR g 5) (gN g 1) (nI d))) z) H := hP
        have hD : va_D A (mW ad kA (sR (sR (sE g (vp_updL (gE g) (s % (gN g 0)) ((gE g (s % (gN g 0))) ||| (1 <<< ((nI d).toInt64 &&& 63))))) 4 (upd (gR g 4) (gN g 1) (nI s))) 5 (upd (gR g 5) (gN g 1) (nI d))) z) := hD
        refine lv_aload_n hx hb dX6_attemptNow_83 rfl (lv_at hl 1 rfl) ?_
        refine g_get F hK hP inX6 0 rfl rfl 15 (by decide) gw_591 rfl (v := .ref (ad 8)) rfl dX6_attemptNow_84 ?_
        refine lv_aload_n hx hb dX6_attemptNow_87 rfl (lv_at hl 1 rfl) ?_
        refine g_get F hK hP inX6 0 rfl rfl 12 (by decide) gw_588 rfl (v := .int (nI (gN g 1))) rfl dX6_attemptNow_88 ?_
        refine lv_aload_n hx hb dX6_attemptNow_91 rfl (lv_at hl 1 rfl) ?_
        refine g_get F hK hP inX6 0 rfl rfl 6 (by decide) gw_582 rfl (v := .int (gI g 5)) rfl dX6_attemptNow_92 ?_
        refine lv_aload_n hx hb dX6_attemptNow_95 rfl (lv_at hl 1 rfl) ?_
        refine g_get F hK hP inX6 0 rfl rfl 5 (by decide) gw_581 rfl (v := .int (gI g 4)) rfl dX6_attemptNow_96 ?_
        refine lv_iadd hx hb dX6_attemptNow_99 ?_
        refine a_ist F hK hP hD hS 8 (f := gR g 6) rfl (j := gN g 1) (by omega) (by decide) dX6_attemptNow_100 (fun H locs hP hD hS => ?_)
        have hP : va_P D vwCl (mW ad kA (sR (sR (sR (sE g (vp_updL (gE g) (s % (gN g 0)) ((gE g (s % (gN g 0))) ||| (1 <<< ((nI d).toInt64 &&& 63))))) 4 (upd (gR g 4) (gN g 1) (nI s))) 5 (upd (gR g 5) (gN g 1) (nI d))) 6 (upd (gR g 6) (gN g 1) ((gI g 5) + (gI g 4)))) z) H := hP
        have hD : va_D A (mW ad kA (sR (sR (sR (sE g (vp_updL (gE g) (s % (gN g 0)) ((gE g (s % (gN g 0))) ||| (1 <<< ((nI d).toInt64 &&& 63))))) 4 (upd (gR g 4) (gN g 1) (nI s))) 5 (upd (gR g 5) (gN g 1) (nI d))) 6 (upd (gR g 6) (gN g 1) ((gI g 5) + (gI g 4)))) z) := hD
        refine lv_aload_n hx hb dX6_attemptNow_101 rfl (lv_at hl 1 rfl) ?_
        refine lv_dup hx hb dX6_attemptNow_102 rfl ?_
        refine g_get F hK hP inX6 0 rfl rfl 12 (by decide) gw_588 rfl (v := .int (nI (gN g 1))) rfl dX6_attemptNow_103 ?_
        refine lv_iconst (v := 1) hx hb dX6_attemptNow_106 (by decide) ?_
        refine n_add F (a := gN g 1) (b := 1) dX6_attemptNow_107 ?_
        refine g_put F hK hP hD hS inX6 tyX6_ok nmX6 0 rfl rfl 12 (by decide) gw_588 rfl rfl rfl rfl (Nat.le_of_ble_eq_true rfl) dX6_attemptNow_108 (fun H locs hP hD hS => ?_)
        have hP : va_P D vwCl (mW ad kA (sN (sR (sR (sR (sE g (vp_updL (gE g) (s % (gN g 0)) ((gE g (s % (gN g 0))) ||| (1 <<< ((nI d).toInt64 &&& 63))))) 4 (upd (gR g 4) (gN g 1) (nI s))) 5 (upd (gR g 5) (gN g 1) (nI d))) 6 (upd (gR g 6) (gN g 1) ((gI g 5) + (gI g 4)))) 1 (gN g 1 + 1)) z) H := hP
        have hD : va_D A (mW ad kA (sN (sR (sR (sR (sE g (vp_updL (gE g) (s % (gN g 0)) ((gE g (s % (gN g 0))) ||| (1 <<< ((nI d).toInt64 &&& 63))))) 4 (upd (gR g 4) (gN g 1) (nI s))) 5 (upd (gR g 5) (gN g 1) (nI d))) 6 (upd (gR g 6) (gN g 1) ((gI g 5) + (gI g 4)))) 1 (gN g 1 + 1)) z) := hD
        refine lv_iconst (v := 0) hx hb dX6_attemptNow_111 (by decide) ?_
        have hq : sp_attemptNow s d g = (0, addG s d g) := by rw [sp_attemptNow, if_pos c_13, if_neg c_34, if_neg c_45]
        exact rt _ (mW ad kA (sN (sR (sR (sR (sE g (vp_updL (gE g) (s % (gN g 0)) ((gE g (s % (gN g 0))) ||| (1 <<< ((nI d).toInt64 &&& 63))))) 4 (upd (gR g 4) (gN g 1) (nI s))) 5 (upd (gR g 5) (gN g 1) (nI d))) 6 (upd (gR g 6) (gN g 1) ((gI g 5) + (gI g 4)))) 1 (gN g 1 + 1)) z) _ _ _ _ hP hD hS dX6_attemptNow_112 (by show _ ∧ _; rw [hq]; exact ⟨rfl, rfl⟩)
      · refine lv_bipush (v := (-110)) hx hb dX6_attemptNow_48 (by decide) ?_
        have hq : sp_attemptNow s d g = (-110, g) := by rw [sp_attemptNow, if_pos c_13, if_neg c_34, if_pos c_45]
        exact rt _ (mW ad kA g z) _ _ _ _ hP hD hS dX6_attemptNow_50 (by show _ ∧ _; rw [hq]; exact ⟨rfl, rfl⟩)
    · refine lv_iconst (v := 4) hx hb dX6_attemptNow_37 (by decide) ?_
      have hq : sp_attemptNow s d g = (4, g) := by rw [sp_attemptNow, if_pos c_13, if_pos c_34]
      exact rt _ (mW ad kA g z) _ _ _ _ hP hD hS dX6_attemptNow_38 (by show _ ∧ _; rw [hq]; exact ⟨rfl, rfl⟩)
  · refine lv_aload_n hx hb dX6_attemptNow_16 rfl (lv_at hl 1 rfl) ?_
    refine g_get F hK hP inX6 0 rfl rfl 10 (by decide) gw_586 rfl (v := .ref (ad 4)) rfl dX6_attemptNow_17 ?_
    refine lv_iload_n hx hb dX6_attemptNow_20 rfl (lv_at hl 0 rfl) ?_
    refine lv_dup2_11 hx hb dX6_attemptNow_21 rfl rfl ?_
    refine a_ild F hK hP 4 (f := gR g 2) rfl (j := s % (gN g 0)) hc (by decide) dX6_attemptNow_22 ?_
    refine lv_iconst (v := 1) hx hb dX6_attemptNow_23 (by decide) ?_
    refine lv_iadd hx hb dX6_attemptNow_24 ?_
    refine a_ist F hK hP hD hS 4 (f := gR g 2) rfl (j := s % (gN g 0)) hc (by decide) dX6_attemptNow_25 (fun H locs hP hD hS => ?_)
    have hP : va_P D vwCl (mW ad kA (sR g 2 (upd (gR g 2) (s % (gN g 0)) ((gR g 2 (s % (gN g 0))) + 1))) z) H := hP
    have hD : va_D A (mW ad kA (sR g 2 (upd (gR g 2) (s % (gN g 0)) ((gR g 2 (s % (gN g 0))) + 1))) z) := hD
    refine lv_iconst (v := 3) hx hb dX6_attemptNow_26 (by decide) ?_
    have hq : sp_attemptNow s d g = (3, sR g 2 (upd (gR g 2) (s % (gN g 0)) ((gR g 2 (s % (gN g 0))) + 1))) := by rw [sp_attemptNow, if_neg c_13]
    exact rt _ (mW ad kA (sR g 2 (upd (gR g 2) (s % (gN g 0)) ((gR g 2 (s % (gN g 0))) + 1))) z) _ _ _ _ hP hD hS dX6_attemptNow_27 (by show _ ∧ _; rw [hq]; exact ⟨rfl, rfl⟩)

set_option maxRecDepth 100000 in
set_option maxHeartbeats 4000000 in
theorem kX6_attempt (l : Launch) (D : va_G) (kA : Nat → ClassId) (sz : Nat) (ad : Nat → Nat) (g : Sg) (z : Zm) (p1 p2 : Int32) (hI : Inv g) : CtI l yX6_attempt cX6_attempt 3 .int 2 D kA sz (mW ad kA g z) [.ref (ad 0), .int p1, .int p2] (fun r u => r = (sp_attempt p1 p2 g).1 ∧ u = mW ad kA (sp_attempt p1 p2 g).2 z) := by
  refine ct_i (own := RX6) (by decide) rfl (Nat.le_of_ble_eq_true rfl) ?_
  intro p_ e_ s_ m_ ar_ bw_ me_ co_ A ls Q F hnm hK hA hP hD hS hl hsz rt
  have hx := F.1
  have hb := F.2.1
  have hl : lv_has ls 3 [(0, .ref (ad 0)), (1, .int p1), (2, .int p2)] := hl
  have hP : va_P D vwCl (mW ad kA g z) s_.heap := hP
  obtain ⟨⟨hc1, hc2⟩, ha, hn, hu, hd, hup, hlo, hso, hv⟩ := id hI
  refine lv_iload_n hx hb dX6_attempt_0 rfl (lv_at hl 1 rfl) ?_
  refine cl_S_i (wc := []) (As := [.int p1]) (rest := []) F hK P_nil D_nil hS hA (kX6_isSource l D kA _ p1 ) gw_685 gw_71 gw_683 gw_684 hdX6_isSource ⟨Nat.le_of_ble_eq_true rfl, Nat.le_of_ble_eq_true rfl⟩ hl.1 rfl (Nat.le_of_ble_eq_true rfl) dX6_attempt_1 ⟨Nat.le_of_ble_eq_true rfl, Nat.le_of_ble_eq_true rfl⟩ (fun r_1 u_1 H locs hw hP1 hD1 hk1 hFc hS => ?_)
  obtain ⟨rfl, rfl⟩ := hw
  have hP := hp_non hP hk1
  refine b_bne F (P := 0 ≤ p1 ∧ p1 ≤ 7) (tgt := 10) dX6_attempt_4 (by decide) (fun c_4 => ?_) (fun c_4 => ?_)
  · obtain ⟨s, hs, rfl⟩ := nat_of (n := 7) (by decide) c_4.1 c_4.2
    refine lv_iload_n hx hb dX6_attempt_10 rfl (lv_at hl 2 rfl) ?_
    refine cl_S_i (wc := []) (As := [.int p2]) (rest := []) F hK P_nil D_nil hS hA (kX6_isDestination l D kA _ p2 ) gw_688 gw_71 gw_686 gw_687 hdX6_isDestination ⟨Nat.le_of_ble_eq_true rfl, Nat.le_of_ble_eq_true rfl⟩ hl.1 rfl (Nat.le_of_ble_eq_true rfl) dX6_attempt_11 ⟨Nat.le_of_ble_eq_true rfl, Nat.le_of_ble_eq_true rfl⟩ (fun r_11 u_11 H locs hw hP1 hD1 hk1 hFc hS => ?_)
    obtain ⟨rfl, rfl⟩ := hw
    have hP := hp_non hP hk1
    refine b_beq F (P := 0 ≤ p2 ∧ p2 ≤ 31) (tgt := 26) dX6_attempt_14 (by decide) (fun c_14 => ?_) (fun c_14 => ?_)
    · refine lv_bipush (v := (-106)) hx hb dX6_attempt_26 (by decide) ?_
      have hq : sp_attempt (nI s) p2 g = (-106, g) := by rw [sp_attempt, if_pos c_4, if_neg c_14]
      exact rt _ (mW ad kA g z) _ _ _ _ hP hD hS dX6_attempt_28 (by show _ ∧ _; rw [hq]; exact ⟨rfl, rfl⟩)
    · obtain ⟨d, hd, rfl⟩ := nat_of (n := 31) (by decide) c_14.1 c_14.2
      refine lv_aload_n hx hb dX6_attempt_17 rfl (lv_at hl 0 rfl) ?_
      refine lv_iload_n hx hb dX6_attempt_18 rfl (lv_at hl 1 rfl) ?_
      refine lv_iload_n hx hb dX6_attempt_19 rfl (lv_at hl 2 rfl) ?_
      refine cl_V_i (wc := (mW ad kA g z)) (As := [.int (nI s), .int (nI d)]) (rest := []) (b := (ad 0)) (C := RX6) F hK hP hD hS hA (kX6_attemptNow l D kA _ ad g z s d (by omega) (by omega) ⟨⟨hc1, hc2⟩, ha⟩) gw_720 gw_71 gw_717 gw_719 gw_51 (va_recv hK.1 hP (ci := 6) (q0 := 0) rfl rfl) hdX6_attemptNow ⟨Nat.le_of_ble_eq_true rfl, Nat.le_of_ble_eq_true rfl⟩ hl.1 rfl (Nat.le_of_ble_eq_true rfl) dX6_attempt_20 ⟨Nat.le_of_ble_eq_true rfl, Nat.le_of_ble_eq_true rfl⟩ (fun r_20 u_20 H locs hw hP1 hD1 hk1 hFc hS => ?_)
      obtain ⟨rfl, rfl⟩ := hw
      have hP : va_P D vwCl (mW ad kA ((sp_attemptNow s d g).2) z) H := hP1
      have hD : va_D A (mW ad kA ((sp_attemptNow s d g).2) z) := hD1.weaken (fun _ _ _ h => hFc _ h)
      refine lv_goto (tgt := 28) hx hb dX6_attempt_23 (by decide) ?_
      have hq : sp_attempt (nI s) (nI d) g = sp_attemptNow s d g := by rw [sp_attempt, if_pos c_4, if_pos c_14, nI_clamp (by omega), nI_clamp (by omega)]
      exact rt _ (mW ad kA ((sp_attemptNow s d g).2) z) _ _ _ _ hP hD hS dX6_attempt_28 (by show _ ∧ _; rw [hq]; exact ⟨rfl, rfl⟩)
  · refine lv_bipush (v := (-105)) hx hb dX6_attempt_7 (by decide) ?_
    have hq : sp_attempt p1 p2 g = (-105, g) := by rw [sp_attempt, if_neg c_4]
    exact rt _ (mW ad kA g z) _ _ _ _ hP hD hS dX6_attempt_9 (by show _ ∧ _; rw [hq]; exact ⟨rfl, rfl⟩)

set_option maxRecDepth 100000 in
set_option maxHeartbeats 4000000 in
theorem kX6_answer (l : Launch) (D : va_G) (kA : Nat → ClassId) (sz : Nat) (ad : Nat → Nat) (g : Sg) (z : Zm) (p1 p2 : Int32) (hI : Inv g) (hL : RgM (gV g) (zL z)) : CtI l yX6_answer cX6_answer 4 .int 3 D kA sz (mW ad kA g z) [.ref (ad 0), .int p1, .int p2] (fun r u => r = (sp_answer p1 p2 g).1 ∧ mQ ad kA (sp_answer p1 p2 g).2 z u) := by
  refine ct_i (own := RX6) (by decide) rfl (Nat.le_of_ble_eq_true rfl) ?_
  intro p_ e_ s_ m_ ar_ bw_ me_ co_ A ls Q F hnm hK hA hP hD hS hl hsz rt
  have hx := F.1
  have hb := F.2.1
  have hl : lv_has ls 4 [(0, .ref (ad 0)), (1, .int p1), (2, .int p2)] := hl
  have hP : va_P D vwCl (mW ad kA g z) s_.heap := hP
  obtain ⟨⟨hc1, hc2⟩, ha, hn, hu, hd, hup, hlo, hso, hv⟩ := id hI
  refine lv_iconst (v := 0) hx hb dX6_answer_0 (by decide) ?_
  refine lv_istore_n (lv' := [(3, .int 0), (0, .ref (ad 0)), (1, .int p1), (2, .int p2)]) hx hb dX6_answer_1 rfl hl (by decide) rfl (fun ls hl => ?_)
  have lp_2 : ∀ (n_2 : Nat) (k : Nat), (k ≤ gN g 1) → (∀ j, j < k → decide (gR g 4 j = p1 ∧ gR g 5 j = p2) = false) → (12 - k) < n_2 → ∀ (H : Heap) (locs : List Loc) (ls : Array Slot), va_P D vwCl (mW ad kA g z) H → va_D A (mW ad kA g z) → va_S A s_.heap H locs → lv_has ls 4 [(0, .ref (ad 0)), (1, .int p1), (2, .int p2), (3, .int (nI k))] → W p_ l e_ (rmC 3 0 0) s_ m_ ar_ bw_ me_ co_ H locs 0 0 Q (F0 m_ 2 ls []) := by
    intro n_2
    induction n_2 with
    | zero =>
      intro k hk hnf hm_2
      exact absurd hm_2 (Nat.not_lt_zero _)
    | succ n_2 ih_2 =>
      intro k hk hnf hm_2 H locs ls hP hD hS hl
      refine lv_iload_n hx hb dX6_answer_2 rfl (lv_at hl 3 rfl) ?_
      refine lv_aload_n hx hb dX6_answer_3 rfl (lv_at hl 0 rfl) ?_
      refine g_get F hK hP inX6 0 rfl rfl 12 (by decide) gw_588 rfl (v := .int (nI (gN g 1))) rfl dX6_answer_4 ?_
      refine b_ge F (a := k) (b := gN g 1) (tgt := 53) dX6_answer_7 (by decide) (by omega) (by omega) (fun c_7 => ?_) (fun c_7 => ?_)
      · refine lv_bipush (v := (-108)) hx hb dX6_answer_53 (by decide) ?_
        have hq : sp_answer p1 p2 g = (-108, g) := by rw [sp_answer, show fiA p1 p2 g = none from fi_none (fun j hj => hnf j (by omega))]
        exact rt _ (mW ad kA g z) _ _ _ _ hP hD hS dX6_answer_55 (by show _ ∧ _; rw [hq]; exact ⟨rfl, zL z, hL, rfl⟩)
      · refine lv_aload_n hx hb dX6_answer_10 rfl (lv_at hl 0 rfl) ?_
        refine g_get F hK hP inX6 0 rfl rfl 13 (by decide) gw_589 rfl (v := .ref (ad 6)) rfl dX6_answer_11 ?_
        refine lv_iload_n hx hb dX6_answer_14 rfl (lv_at hl 3 rfl) ?_
        refine a_ild F hK hP 6 (f := gR g 4) rfl (j := k) (by omega) (by decide) dX6_answer_15 ?_
        refine lv_iload_n hx hb dX6_answer_16 rfl (lv_at hl 1 rfl) ?_
        refine lv_icmp_ne (tgt := 47) hx hb dX6_answer_17 (by decide) (fun c_17 => ?_) (fun c_17 => ?_)
        · refine lv_iinc (v := nI (k + 1)) (lv' := [(3, .int (nI (k + 1))), (0, .ref (ad 0)), (1, .int p1), (2, .int p2)]) hx hb dX6_answer_47 hl (k := 3) rfl (nI_add k 1) (by decide) rfl (fun ls hl => ?_)
          refine lv_goto (tgt := 2) hx hb dX6_answer_50 (by decide) ?_
          exact ih_2  (k + 1) (by omega) (lt_s hnf (by simp [c_17])) (by omega) _ _ _ hP hD hS (lv_sub hl [1, 2, 3, 0] rfl)
        · refine lv_aload_n hx hb dX6_answer_20 rfl (lv_at hl 0 rfl) ?_
          refine g_get F hK hP inX6 0 rfl rfl 14 (by decide) gw_590 rfl (v := .ref (ad 7)) rfl dX6_answer_21 ?_
          refine lv_iload_n hx hb dX6_answer_24 rfl (lv_at hl 3 rfl) ?_
          refine a_ild F hK hP 7 (f := gR g 5) rfl (j := k) (by omega) (by decide) dX6_answer_25 ?_
          refine lv_iload_n hx hb dX6_answer_26 rfl (lv_at hl 2 rfl) ?_
          refine lv_icmp_ne (tgt := 47) hx hb dX6_answer_27 (by decide) (fun c_27 => ?_) (fun c_27 => ?_)
          · refine lv_iinc (v := nI (k + 1)) (lv' := [(3, .int (nI (k + 1))), (0, .ref (ad 0)), (1, .int p1), (2, .int p2)]) hx hb dX6_answer_47 hl (k := 3) rfl (nI_add k 1) (by decide) rfl (fun ls hl => ?_)
            refine lv_goto (tgt := 2) hx hb dX6_answer_50 (by decide) ?_
            exact ih_2  (k + 1) (by omega) (lt_s hnf (by simp [c_27])) (by omega) _ _ _ hP hD hS (lv_sub hl [1, 2, 3, 0] rfl)
          · obtain ⟨sx, hsx, he⟩ := hso k (by omega)
            obtain rfl : p1 = nI sx := c_17.symm.trans he
            refine lv_aload_n hx hb dX6_answer_30 rfl (lv_at hl 0 rfl) ?_
            refine lv_iload_n hx hb dX6_answer_31 rfl (lv_at hl 3 rfl) ?_
            refine cl_V_v (wc := (mW ad kA g z)) (As := [.int (nI k)]) (rest := []) (b := (ad 0)) (C := RX6) F hK hP hD hS hA (kX6_drop l D kA _ ad g z k (by omega) ha) gw_708 gw_71 gw_705 gw_707 gw_49 (va_recv hK.1 hP (ci := 6) (q0 := 0) rfl rfl) hdX6_drop ⟨Nat.le_of_ble_eq_true rfl, Nat.le_of_ble_eq_true rfl⟩ hl.1 rfl (Nat.le_of_ble_eq_true rfl) dX6_answer_32 ⟨Nat.le_of_ble_eq_true rfl, Nat.le_of_ble_eq_true rfl⟩ (fun u_32 H locs hw hP1 hD1 hk1 hFc hS => ?_)
            obtain rfl := hw
            have hP : va_P D vwCl (mW ad kA (sp_drop k g) z) H := hP1
            have hD : va_D A (mW ad kA (sp_drop k g) z) := hD1.weaken (fun _ _ _ h => hFc _ h)
            refine lv_aload_n hx hb dX6_answer_35 rfl (lv_at hl 0 rfl) ?_
            refine lv_iload_n hx hb dX6_answer_36 rfl (lv_at hl 1 rfl) ?_
            refine lv_aload_n hx hb dX6_answer_37 rfl (lv_at hl 0 rfl) ?_
            refine g_get F hK hP inX6 0 rfl rfl 0 (by decide) gw_576 rfl (v := .int (nI (gN g 0))) rfl dX6_answer_38 ?_
            refine n_rem F (a := sx) (b := gN g 0) dX6_answer_41 (by omega) (by omega) (by omega) ?_
            refine lv_iconst (v := 1) hx hb dX6_answer_42 (by decide) ?_
            refine cl_V_i (wc := (mW ad kA (sp_drop k g) z)) (As := [.int (nI (sx % (gN g 0))), .int 1]) (rest := []) (b := (ad 0)) (C := RX6) F hK hP hD hS hA (kX6_count l D kA _ ad (sp_drop k g) z (sx % (gN g 0)) 1 (Nat.lt_of_lt_of_le (Nat.mod_lt _ hc1) hc2) ((kp_drop (by omega)).mn ⟨⟨hc1, hc2⟩, ha⟩) hL) gw_700 gw_71 gw_697 gw_699 gw_47 (va_recv hK.1 hP (ci := 6) (q0 := 0) rfl rfl) hdX6_count ⟨Nat.le_of_ble_eq_true rfl, Nat.le_of_ble_eq_true rfl⟩ hl.1 rfl (Nat.le_of_ble_eq_true rfl) dX6_answer_43 ⟨Nat.le_of_ble_eq_true rfl, Nat.le_of_ble_eq_true rfl⟩ (fun r_43 u_43 H locs hw hP1 hD1 hk1 hFc hS => ?_)
            obtain ⟨rfl, L_43, hL_43, rfl⟩ := hw
            have hP : va_P D vwCl (mW ad kA ((sp_settle (sx % (gN g 0)) 1 (sp_drop k g)).2) (tL z L_43)) H := hP1
            have hD : va_D A (mW ad kA ((sp_settle (sx % (gN g 0)) 1 (sp_drop k g)).2) (tL z L_43)) := hD1.weaken (fun _ _ _ h => hFc _ h)
            have hq : sp_answer (nI sx) p2 g = sp_settle (sx % gN g 0) 1 (sp_drop k g) := by rw [sp_answer, show fiA (nI sx) p2 g = some k from fi_some c_7 (by simp [c_17, c_27]) hnf, nI_clamp (by omega)]
            exact rt _ (mW ad kA ((sp_settle (sx % (gN g 0)) 1 (sp_drop k g)).2) (tL z L_43)) _ _ _ _ hP hD hS dX6_answer_46 (by show _ ∧ _; rw [hq]; exact ⟨rfl, L_43, hL_43, rfl⟩)
  exact lp_2 _ 0 (Nat.zero_le _) (fun j hj => absurd hj (Nat.not_lt_zero _)) (Nat.lt_succ_self _) _ _ _ hP hD hS (lv_sub hl [1, 2, 3, 0] rfl)

set_option maxRecDepth 100000 in
set_option maxHeartbeats 4000000 in
theorem kX6_due (l : Launch) (D : va_G) (kA : Nat → ClassId) (sz : Nat) (ad : Nat → Nat) (g : Sg) (z : Zm) (ha : gN g 1 ≤ 12) : CtI l yX6_due cX6_due 2 .int 0 D kA sz (mW ad kA g z) [.ref (ad 0)] (fun r u => r = optI (fiD g) ∧ u = mW ad kA g z) := by
  refine ct_i (own := RX6) (by decide) rfl (Nat.le_of_ble_eq_true rfl) ?_
  intro p_ e_ s_ m_ ar_ bw_ me_ co_ A ls Q F hnm hK hA hP hD hS hl hsz rt
  have hx := F.1
  have hb := F.2.1
  have hl : lv_has ls 2 [(0, .ref (ad 0))] := hl
  have hP : va_P D vwCl (mW ad kA g z) s_.heap := hP
  refine lv_iconst (v := 0) hx hb dX6_due_0 (by decide) ?_
  refine lv_istore_n (lv' := [(1, .int 0), (0, .ref (ad 0))]) hx hb dX6_due_1 rfl hl (by decide) rfl (fun ls hl => ?_)
  have lp_2 : ∀ (n_2 : Nat) (k : Nat), (k ≤ gN g 1) → (∀ j, j < k → decide (gR g 6 j = gI g 5) = false) → (12 - k) < n_2 → ∀ (H : Heap) (locs : List Loc) (ls : Array Slot), va_P D vwCl (mW ad kA g z) H → va_D A (mW ad kA g z) → va_S A s_.heap H locs → lv_has ls 2 [(0, .ref (ad 0)), (1, .int (nI k))] → W p_ l e_ (rmC 0 0 0) s_ m_ ar_ bw_ me_ co_ H locs 0 0 Q (F0 m_ 2 ls []) := by
    intro n_2
    induction n_2 with
    | zero =>
      intro k hk hnf hm_2
      exact absurd hm_2 (Nat.not_lt_zero _)
    | succ n_2 ih_2 =>
      intro k hk hnf hm_2 H locs ls hP hD hS hl
      refine lv_iload_n hx hb dX6_due_2 rfl (lv_at hl 1 rfl) ?_
      refine lv_aload_n hx hb dX6_due_3 rfl (lv_at hl 0 rfl) ?_
      refine g_get F hK hP inX6 0 rfl rfl 12 (by decide) gw_588 rfl (v := .int (nI (gN g 1))) rfl dX6_due_4 ?_
      refine b_ge F (a := k) (b := gN g 1) (tgt := 31) dX6_due_7 (by decide) (by omega) (by omega) (fun c_7 => ?_) (fun c_7 => ?_)
      · refine lv_iconst (v := (-1)) hx hb dX6_due_31 (by decide) ?_
        exact rt _ (mW ad kA g z) _ _ _ _ hP hD hS dX6_due_32 (⟨by rw [show fiD g = none from fi_none (fun j hj => hnf j (by omega))]; rfl, rfl⟩)
      · refine lv_aload_n hx hb dX6_due_10 rfl (lv_at hl 0 rfl) ?_
        refine g_get F hK hP inX6 0 rfl rfl 15 (by decide) gw_591 rfl (v := .ref (ad 8)) rfl dX6_due_11 ?_
        refine lv_iload_n hx hb dX6_due_14 rfl (lv_at hl 1 rfl) ?_
        refine a_ild F hK hP 8 (f := gR g 6) rfl (j := k) (by omega) (by decide) dX6_due_15 ?_
        refine lv_aload_n hx hb dX6_due_16 rfl (lv_at hl 0 rfl) ?_
        refine g_get F hK hP inX6 0 rfl rfl 6 (by decide) gw_582 rfl (v := .int (gI g 5)) rfl dX6_due_17 ?_
        refine lv_icmp_ne (tgt := 25) hx hb dX6_due_20 (by decide) (fun c_20 => ?_) (fun c_20 => ?_)
        · refine lv_iinc (v := nI (k + 1)) (lv' := [(1, .int (nI (k + 1))), (0, .ref (ad 0))]) hx hb dX6_due_25 hl (k := 1) rfl (nI_add k 1) (by decide) rfl (fun ls hl => ?_)
          refine lv_goto (tgt := 2) hx hb dX6_due_28 (by decide) ?_
          exact ih_2  (k + 1) (by omega) (lt_s hnf (by simp [c_20])) (by omega) _ _ _ hP hD hS (lv_sub hl [1, 0] rfl)
        · refine lv_iload_n hx hb dX6_due_23 rfl (lv_at hl 1 rfl) ?_
          exact rt _ (mW ad kA g z) _ _ _ _ hP hD hS dX6_due_24 (⟨by rw [show fiD g = some k from fi_some c_7 (by simp [c_20]) hnf]; rfl, rfl⟩)
  exact lp_2 _ 0 (Nat.zero_le _) (fun j hj => absurd hj (Nat.not_lt_zero _)) (Nat.lt_succ_self _) _ _ _ hP hD hS (lv_sub hl [1, 0] rfl)

set_option maxRecDepth 100000 in
set_option maxHeartbeats 4000000 in
theorem kX6_tick (l : Launch) (D : va_G) (kA : Nat → ClassId) (sz : Nat) (ad : Nat → Nat) (g : Sg) (z : Zm) (hM : Mn g) (hSo : SoOK g) (hL : RgM (gV g) (zL z)) : CtI l yX6_tick cX6_tick 4 .int 3 D kA sz (mW ad kA g z) [.ref (ad 0)] (fun r u => r = nI (sp_tick g).1 ∧ mQ ad kA (sp_tick g).2 z u) := by
  refine ct_i (own := RX6) (by decide) rfl (Nat.le_of_ble_eq_true rfl) ?_
  intro p_ e_ s_ m_ ar_ bw_ me_ co_ A ls Q F hnm hK hA hP hD hS hl hsz rt
  have hx := F.1
  have hb := F.2.1
  have hl : lv_has ls 4 [(0, .ref (ad 0))] := hl
  have hP : va_P D vwCl (mW ad kA g z) s_.heap := hP
  refine lv_aload_n hx hb dX6_tick_0 rfl (lv_at hl 0 rfl) ?_
  refine lv_dup hx hb dX6_tick_1 rfl ?_
  refine g_get F hK hP inX6 0 rfl rfl 6 (by decide) gw_582 rfl (v := .int (gI g 5)) rfl dX6_tick_2 ?_
  refine lv_iconst (v := 1) hx hb dX6_tick_5 (by decide) ?_
  refine lv_iadd hx hb dX6_tick_6 ?_
  refine g_put F hK hP hD hS inX6 tyX6_ok nmX6 0 rfl rfl 6 (by decide) gw_582 rfl rfl rfl rfl (Nat.le_of_ble_eq_true rfl) dX6_tick_7 (fun H locs hP hD hS => ?_)
  have hP : va_P D vwCl (mW ad kA (sI g 5 ((gI g 5) + 1)) z) H := hP
  have hD : va_D A (mW ad kA (sI g 5 ((gI g 5) + 1)) z) := hD
  refine lv_iconst (v := 0) hx hb dX6_tick_10 (by decide) ?_
  refine lv_istore_n (lv' := [(1, .int 0), (0, .ref (ad 0))]) hx hb dX6_tick_11 rfl hl (by decide) rfl (fun ls hl => ?_)
  refine lv_aload_n hx hb dX6_tick_12 rfl (lv_at hl 1 rfl) ?_
  refine cl_V_i (wc := (mW ad kA (sI g 5 ((gI g 5) + 1)) z)) (As := []) (rest := []) (b := (ad 0)) (C := RX6) F hK hP hD hS hA (kX6_due l D kA _ ad (sI g 5 ((gI g 5) + 1)) z  hM.2) gw_736 gw_71 gw_733 gw_735 gw_53 (va_recv hK.1 hP (ci := 6) (q0 := 0) rfl rfl) hdX6_due ⟨Nat.le_of_ble_eq_true rfl, Nat.le_of_ble_eq_true rfl⟩ hl.1 rfl (Nat.le_of_ble_eq_true rfl) dX6_tick_13 ⟨Nat.le_of_ble_eq_true rfl, Nat.le_of_ble_eq_true rfl⟩ (fun r_13 u_13 H locs hw hP1 hD1 hk1 hFc hS => ?_)
  obtain ⟨rfl, rfl⟩ := hw
  have hP : va_P D vwCl (mW ad kA (sI g 5 ((gI g 5) + 1)) z) H := hP1
  have hD : va_D A (mW ad kA (sI g 5 ((gI g 5) + 1)) z) := hD1.weaken (fun _ _ _ h => hFc _ h)
  refine lv_istore_n (lv' := [(2, .int (optI (fiD (sI g 5 ((gI g 5) + 1))))), (1, .int 0), (0, .ref (ad 0))]) hx hb dX6_tick_16 rfl hl (by decide) rfl (fun ls hl => ?_)
  have lp_17 : ∀ (n_17 : Nat) (q : Nat) (f : Nat) (g1 : Sg) (L1 : Nat → Int32), (Mn g1) → (SoOK g1) → (gN g1 1 ≤ q) → (RgM (gV g1) L1) → (tkL q f g1 = tkL 12 0 (sI g 5 (gI g 5 + 1))) → q < n_17 → ∀ (H : Heap) (locs : List Loc) (ls : Array Slot), va_P D vwCl (mW ad kA g1 (tL z L1)) H → va_D A (mW ad kA g1 (tL z L1)) → va_S A s_.heap H locs → lv_has ls 4 [(0, .ref (ad 0)), (1, .int (nI f)), (2, .int (optI (fiD g1)))] → W p_ l e_ (rmC 3 0 0) s_ m_ ar_ bw_ me_ co_ H locs 0 0 Q (F0 m_ 17 ls []) := by
    intro n_17
    induction n_17 with
    | zero =>
      intro q f g1 L1 hM1 hS1 hq hL1 hg hm_17
      exact absurd hm_17 (Nat.not_lt_zero _)
    | succ n_17 ih_17 =>
      intro q f g1 L1 hM1 hS1 hq hL1 hg hm_17 H locs ls hP hD hS hl
      obtain ⟨⟨hm1, hm2⟩, hm3⟩ := id hM1
      refine lv_iload_n hx hb dX6_tick_17 rfl (lv_at hl 2 rfl) ?_
      refine lv_if_lt (tgt := 56) hx hb dX6_tick_18 (by decide) (fun c_18 => ?_) (fun c_18 => ?_)
      · have hd0 : fiD g1 = none := optI_none (fun k h => by have := fiD_lt h; omega) c_18
        have hqf : tkL q f g1 = (f, g1) := by cases q with | zero => rfl | succ q => rw [tkL, hd0]
        refine lv_iload_n hx hb dX6_tick_56 rfl (lv_at hl 1 rfl) ?_
        exact rt _ (mW ad kA g1 (tL z L1)) _ _ _ _ hP hD hS dX6_tick_57 (by show _ ∧ _; rw [sp_tick, ← hg, hqf]; exact ⟨rfl, L1, hL1, rfl⟩)
      · obtain ⟨k, hd0⟩ := optI_some c_18
        have hk := fiD_lt hd0
        obtain ⟨q, rfl⟩ : ∃ q2, q = q2 + 1 := ⟨q - 1, by omega⟩
        have hkt := kp_tkS hk
        have hl : lv_has ls 4 [(0, .ref (ad 0)), (1, .int (nI f)), (2, .int (nI k))] := by rw [hd0] at hl; exact hl
        refine lv_aload_n hx hb dX6_tick_21 rfl (lv_at hl 0 rfl) ?_
        refine g_get F hK hP inX6 0 rfl rfl 13 (by decide) gw_589 rfl (v := .ref (ad 6)) rfl dX6_tick_22 ?_
        refine lv_iload_n hx hb dX6_tick_25 rfl (lv_at hl 2 rfl) ?_
        obtain ⟨sx, hsx, hsx2⟩ := hS1 k hk
        refine a_ild F hK hP 6 (f := gR g1 4) rfl (j := k) (by omega) (by decide) dX6_tick_26 ?_
        rw [show (gR g1 4 k) = (nI sx) from hsx2]
        refine lv_aload_n hx hb dX6_tick_27 rfl (lv_at hl 0 rfl) ?_
        refine g_get F hK hP inX6 0 rfl rfl 0 (by decide) gw_576 rfl (v := .int (nI (gN g1 0))) rfl dX6_tick_28 ?_
        refine n_rem F (a := sx) (b := gN g1 0) dX6_tick_31 (by omega) (by omega) (by omega) ?_
        refine lv_istore_n (lv' := [(3, .int (nI (sx % (gN g1 0)))), (0, .ref (ad 0)), (1, .int (nI f)), (2, .int (nI k))]) hx hb dX6_tick_32 rfl hl (by decide) rfl (fun ls hl => ?_)
        refine lv_aload_n hx hb dX6_tick_33 rfl (lv_at hl 1 rfl) ?_
        refine lv_iload_n hx hb dX6_tick_34 rfl (lv_at hl 3 rfl) ?_
        refine cl_V_v (wc := (mW ad kA g1 (tL z L1))) (As := [.int (nI k)]) (rest := []) (b := (ad 0)) (C := RX6) F hK hP hD hS hA (kX6_drop l D kA _ ad g1 (tL z L1) k hk hm3) gw_708 gw_71 gw_705 gw_707 gw_49 (va_recv hK.1 hP (ci := 6) (q0 := 0) rfl rfl) hdX6_drop ⟨Nat.le_of_ble_eq_true rfl, Nat.le_of_ble_eq_true rfl⟩ hl.1 rfl (Nat.le_of_ble_eq_true rfl) dX6_tick_35 ⟨Nat.le_of_ble_eq_true rfl, Nat.le_of_ble_eq_true rfl⟩ (fun u_35 H locs hw hP1 hD1 hk1 hFc hS => ?_)
        obtain rfl := hw
        have hP : va_P D vwCl (mW ad kA (sp_drop k g1) (tL z L1)) H := hP1
        have hD : va_D A (mW ad kA (sp_drop k g1) (tL z L1)) := hD1.weaken (fun _ _ _ h => hFc _ h)
        refine lv_aload_n hx hb dX6_tick_38 rfl (lv_at hl 1 rfl) ?_
        refine lv_iload_n hx hb dX6_tick_39 rfl (lv_at hl 0 rfl) ?_
        refine lv_iconst (v := 0) hx hb dX6_tick_40 (by decide) ?_
        have hcx : sx % gN g1 0 = (gR g1 4 k).toNatClampNeg % gN g1 0 := by rw [hsx2, nI_clamp (by omega)]
        refine cl_V_i (wc := (mW ad kA (sp_drop k g1) (tL z L1))) (As := [.int (nI (sx % (gN g1 0))), .int 0]) (rest := []) (b := (ad 0)) (C := RX6) F hK hP hD hS hA (kX6_count l D kA _ ad (sp_drop k g1) (tL z L1) (sx % (gN g1 0)) 0 (Nat.lt_of_lt_of_le (Nat.mod_lt _ hm1) hm2) ((kp_drop hk).mn hM1) hL1) gw_700 gw_71 gw_697 gw_699 gw_47 (va_recv hK.1 hP (ci := 6) (q0 := 0) rfl rfl) hdX6_count ⟨Nat.le_of_ble_eq_true rfl, Nat.le_of_ble_eq_true rfl⟩ hl.1 rfl (Nat.le_of_ble_eq_true rfl) dX6_tick_41 ⟨Nat.le_of_ble_eq_true rfl, Nat.le_of_ble_eq_true rfl⟩ (fun r_41 u_41 H locs hw hP1 hD1 hk1 hFc hS => ?_)
        obtain ⟨rfl, L_41, hL_41, rfl⟩ := hw
        have hP : va_P D vwCl (mW ad kA ((sp_settle (sx % (gN g1 0)) 0 (sp_drop k g1)).2) (tL (tL z L1) L_41)) H := hP1
        have hD : va_D A (mW ad kA ((sp_settle (sx % (gN g1 0)) 0 (sp_drop k g1)).2) (tL (tL z L1) L_41)) := hD1.weaken (fun _ _ _ h => hFc _ h)
        rw [hcx] at hP hD hL_41 ⊢
        refine lv_pop hx hb dX6_tick_44 rfl ?_
        have hP : va_P D vwCl (mW ad kA (tkS k g1) (tL (tL z L1) L_41)) H := hP
        have hD : va_D A (mW ad kA (tkS k g1) (tL (tL z L1) L_41)) := hD
        refine lv_iinc (v := nI (f + 1)) (lv' := [(1, .int (nI (f + 1))), (3, .int (nI (sx % (gN g1 0)))), (0, .ref (ad 0)), (2, .int (nI k))]) hx hb dX6_tick_45 hl (k := 2) rfl (nI_add f 1) (by decide) rfl (fun ls hl => ?_)
        refine lv_aload_n hx hb dX6_tick_48 rfl (lv_at hl 2 rfl) ?_
        refine cl_V_i (wc := (mW ad kA (tkS k g1) (tL (tL z L1) L_41))) (As := []) (rest := []) (b := (ad 0)) (C := RX6) F hK hP hD hS hA (kX6_due l D kA _ ad (tkS k g1) (tL (tL z L1) L_41)  (hkt.1.mn hM1).2) gw_736 gw_71 gw_733 gw_735 gw_53 (va_recv hK.1 hP (ci := 6) (q0 := 0) rfl rfl) hdX6_due ⟨Nat.le_of_ble_eq_true rfl, Nat.le_of_ble_eq_true rfl⟩ hl.1 rfl (Nat.le_of_ble_eq_true rfl) dX6_tick_49 ⟨Nat.le_of_ble_eq_true rfl, Nat.le_of_ble_eq_true rfl⟩ (fun r_49 u_49 H locs hw hP1 hD1 hk1 hFc hS => ?_)
        obtain ⟨rfl, rfl⟩ := hw
        have hP : va_P D vwCl (mW ad kA (tkS k g1) (tL (tL z L1) L_41)) H := hP1
        have hD : va_D A (mW ad kA (tkS k g1) (tL (tL z L1) L_41)) := hD1.weaken (fun _ _ _ h => hFc _ h)
        refine lv_istore_n (lv' := [(2, .int (optI (fiD (tkS k g1)))), (1, .int (nI (f + 1))), (3, .int (nI (sx % (gN g1 0)))), (0, .ref (ad 0))]) hx hb dX6_tick_52 rfl hl (by decide) rfl (fun ls hl => ?_)
        refine lv_goto (tgt := 17) hx hb dX6_tick_53 (by decide) ?_
        exact ih_17  q (f + 1) (tkS k g1) L_41 (hkt.1.mn hM1) (hkt.1.2.2.2.2.2 hS1) (by have := hkt.2.1; omega) hL_41 (by rw [← hg, tkL, hd0]) (by omega) _ _ _ hP hD hS (lv_sub hl [3, 1, 0] rfl)
  exact lp_17 _ 12 0 (sI g 5 (gI g 5 + 1)) (zL z) hM hSo hM.2 hL rfl (Nat.lt_succ_self _) _ _ _ hP hD hS (lv_sub hl [2, 1, 0] rfl)

set_option maxRecDepth 100000 in
set_option maxHeartbeats 4000000 in
theorem kX6_advance (l : Launch) (D : va_G) (kA : Nat → ClassId) (sz : Nat) (ad : Nat → Nat) (g : Sg) (z : Zm) (p1 : Int32) (hI : Inv g) (hL : RgM (gV g) (zL z)) : CtI l yX6_advance cX6_advance 4 .int 4 D kA sz (mW ad kA g z) [.ref (ad 0), .int p1] (fun r u => r = (sp_advance p1 g).1 ∧ mQ ad kA (sp_advance p1 g).2 z u) := by
  refine ct_i (own := RX6) (by decide) rfl (Nat.le_of_ble_eq_true rfl) ?_
  intro p_ e_ s_ m_ ar_ bw_ me_ co_ A ls Q F hnm hK hA hP hD hS hl hsz rt
  have hx := F.1
  have hb := F.2.1
  have hl : lv_has ls 4 [(0, .ref (ad 0)), (1, .int p1)] := hl
  have hP : va_P D vwCl (mW ad kA g z) s_.heap := hP
  obtain ⟨⟨hc1, hc2⟩, ha, hn, hu, hd, hup, hlo, hso, hv⟩ := id hI
  refine lv_iload_n hx hb dX6_advance_0 rfl (lv_at hl 1 rfl) ?_
  refine lv_iconst (v := 1) hx hb dX6_advance_1 (by decide) ?_
  refine lv_bipush (v := 50) hx hb dX6_advance_2 (by decide) ?_
  refine cl_S_i (wc := []) (As := [.int p1, .int 1, .int 50]) (rest := []) F hK P_nil D_nil hS hA (kX6_within l D kA _ p1 1 50 ) gw_666 gw_71 gw_664 gw_665 hdX6_within ⟨Nat.le_of_ble_eq_true rfl, Nat.le_of_ble_eq_true rfl⟩ hl.1 rfl (Nat.le_of_ble_eq_true rfl) dX6_advance_4 ⟨Nat.le_of_ble_eq_true rfl, Nat.le_of_ble_eq_true rfl⟩ (fun r_4 u_4 H locs hw hP1 hD1 hk1 hFc hS => ?_)
  obtain ⟨rfl, rfl⟩ := hw
  have hP := hp_non hP hk1
  refine b_bne F (P := 1 ≤ p1 ∧ p1 ≤ 50) (tgt := 13) dX6_advance_7 (by decide) (fun c_7 => ?_) (fun c_7 => ?_)
  · obtain ⟨j, hj, rfl⟩ := nat_of (n := 50) (by decide) (Int32.le_trans (by decide) c_7.1) c_7.2
    refine lv_iconst (v := 0) hx hb dX6_advance_13 (by decide) ?_
    refine lv_istore_n (lv' := [(2, .int 0), (0, .ref (ad 0)), (1, .int (nI j))]) hx hb dX6_advance_14 rfl hl (by decide) rfl (fun ls hl => ?_)
    refine lv_iconst (v := 0) hx hb dX6_advance_15 (by decide) ?_
    refine lv_istore_n (lv' := [(3, .int 0), (2, .int 0), (0, .ref (ad 0)), (1, .int (nI j))]) hx hb dX6_advance_16 rfl hl (by decide) rfl (fun ls hl => ?_)
    have lp_17 : ∀ (n_17 : Nat) (i : Nat) (f : Nat) (g1 : Sg) (L1 : Nat → Int32), (i ≤ j) → (Mn g1) → (SoOK g1) → (RgM (gV g1) L1) → (adL (j - i) f g1 = adL j 0 g) → (j - i) < n_17 → ∀ (H : Heap) (locs : List Loc) (ls : Array Slot), va_P D vwCl (mW ad kA g1 (tL z L1)) H → va_D A (mW ad kA g1 (tL z L1)) → va_S A s_.heap H locs → lv_has ls 4 [(0, .ref (ad 0)), (1, .int (nI j)), (2, .int (nI f)), (3, .int (nI i))] → W p_ l e_ (rmC 4 0 0) s_ m_ ar_ bw_ me_ co_ H locs 0 0 Q (F0 m_ 17 ls []) := by
      intro n_17
      induction n_17 with
      | zero =>
        intro i f g1 L1 hi hM1 hS1 hL1 hg hm_17
        exact absurd hm_17 (Nat.not_lt_zero _)
      | succ n_17 ih_17 =>
        intro i f g1 L1 hi hM1 hS1 hL1 hg hm_17 H locs ls hP hD hS hl
        have hkt := (kp_tick g1).1
        refine lv_iload_n hx hb dX6_advance_17 rfl (lv_at hl 3 rfl) ?_
        refine lv_iload_n hx hb dX6_advance_18 rfl (lv_at hl 1 rfl) ?_
        refine b_ge F (a := i) (b := j) (tgt := 35) dX6_advance_19 (by decide) (by omega) (by omega) (fun c_19 => ?_) (fun c_19 => ?_)
        · refine lv_iload_n hx hb dX6_advance_35 rfl (lv_at hl 2 rfl) ?_
          have hq : sp_advance (nI j) g = (nI f, g1) := by rw [sp_advance, if_pos c_7, nI_clamp (by omega), ← hg, show j - i = 0 by omega]; rfl
          exact rt _ (mW ad kA g1 (tL z L1)) _ _ _ _ hP hD hS dX6_advance_36 (by show _ ∧ _; rw [hq]; exact ⟨rfl, L1, hL1, rfl⟩)
        · refine lv_iload_n hx hb dX6_advance_22 rfl (lv_at hl 2 rfl) ?_
          refine lv_aload_n hx hb dX6_advance_23 rfl (lv_at hl 0 rfl) ?_
          refine cl_V_i (wc := (mW ad kA g1 (tL z L1))) (As := []) (rest := [.int (nI f)]) (b := (ad 0)) (C := RX6) F hK hP hD hS hA (kX6_tick l D kA _ ad g1 (tL z L1)  hM1 hS1 hL1) gw_732 gw_71 gw_729 gw_731 gw_52 (va_recv hK.1 hP (ci := 6) (q0 := 0) rfl rfl) hdX6_tick ⟨Nat.le_of_ble_eq_true rfl, Nat.le_of_ble_eq_true rfl⟩ hl.1 rfl (Nat.le_of_ble_eq_true rfl) dX6_advance_24 ⟨Nat.le_of_ble_eq_true rfl, Nat.le_of_ble_eq_true rfl⟩ (fun r_24 u_24 H locs hw hP1 hD1 hk1 hFc hS => ?_)
          obtain ⟨rfl, L_24, hL_24, rfl⟩ := hw
          have hP : va_P D vwCl (mW ad kA ((sp_tick g1).2) (tL (tL z L1) L_24)) H := hP1
          have hD : va_D A (mW ad kA ((sp_tick g1).2) (tL (tL z L1) L_24)) := hD1.weaken (fun _ _ _ h => hFc _ h)
          refine n_add F (a := f) (b := (sp_tick g1).1) dX6_advance_27 ?_
          refine lv_istore_n (lv' := [(2, .int (nI (f + ((sp_tick g1).1)))), (0, .ref (ad 0)), (1, .int (nI j)), (3, .int (nI i))]) hx hb dX6_advance_28 rfl hl (by decide) rfl (fun ls hl => ?_)
          refine lv_iinc (v := nI (i + 1)) (lv' := [(3, .int (nI (i + 1))), (2, .int (nI (f + ((sp_tick g1).1)))), (0, .ref (ad 0)), (1, .int (nI j))]) hx hb dX6_advance_29 hl (k := 3) rfl (nI_add i 1) (by decide) rfl (fun ls hl => ?_)
          refine lv_goto (tgt := 17) hx hb dX6_advance_32 (by decide) ?_
          exact ih_17  (i + 1) (f + (sp_tick g1).1) ((sp_tick g1).2) L_24 (by omega) (hkt.mn (g := sI g1 5 (gI g1 5 + 1)) hM1) (hkt.2.2.2.2.2 hS1) hL_24 (by rw [← hg, show j - i = (j - (i + 1)) + 1 by omega, adL]) (by omega) _ _ _ hP hD hS (lv_sub hl [2, 3, 1, 0] rfl)
    exact lp_17 _ 0 0 g (zL z) (Nat.zero_le _) ⟨⟨hc1, hc2⟩, ha⟩ hso hL rfl (Nat.lt_succ_self _) _ _ _ hP hD hS (lv_sub hl [2, 3, 1, 0] rfl)
  · refine lv_bipush (v := (-104)) hx hb dX6_advance_10 (by decide) ?_
    have hq : sp_advance p1 g = (-104, g) := by rw [sp_advance, if_neg c_7]
    exact rt _ (mW ad kA g z) _ _ _ _ hP hD hS dX6_advance_12 (by show _ ∧ _; rw [hq]; exact ⟨rfl, zL z, hL, rfl⟩)

set_option maxRecDepth 100000 in
set_option maxHeartbeats 4000000 in
theorem kX6_unblock (l : Launch) (D : va_G) (kA : Nat → ClassId) (sz : Nat) (ad : Nat → Nat) (g : Sg) (z : Zm) (p1 : Int32) (hI : Inv g) : CtI l yX6_unblock cX6_unblock 3 .int 2 D kA sz (mW ad kA g z) [.ref (ad 0), .int p1] (fun r u => r = (sp_unblock p1 g).1 ∧ u = mW ad kA (sp_unblock p1 g).2 z) := by
  refine ct_i (own := RX6) (by decide) rfl (Nat.le_of_ble_eq_true rfl) ?_
  intro p_ e_ s_ m_ ar_ bw_ me_ co_ A ls Q F hnm hK hA hP hD hS hl hsz rt
  have hx := F.1
  have hb := F.2.1
  have hl : lv_has ls 3 [(0, .ref (ad 0)), (1, .int p1)] := hl
  have hP : va_P D vwCl (mW ad kA g z) s_.heap := hP
  obtain ⟨⟨hc1, hc2⟩, ha, hn, hu, hd, hup, hlo, hso, hv⟩ := id hI
  refine lv_aload_n hx hb dX6_unblock_0 rfl (lv_at hl 0 rfl) ?_
  refine lv_iload_n hx hb dX6_unblock_1 rfl (lv_at hl 1 rfl) ?_
  refine cl_V_i (wc := (mW ad kA g z)) (As := [.int p1]) (rest := []) (b := (ad 0)) (C := RX6) F hK hP hD hS hA (kX6_isCell l D kA _ ad g z p1 ) gw_744 gw_71 gw_741 gw_743 gw_54 (va_recv hK.1 hP (ci := 6) (q0 := 0) rfl rfl) hdX6_isCell ⟨Nat.le_of_ble_eq_true rfl, Nat.le_of_ble_eq_true rfl⟩ hl.1 rfl (Nat.le_of_ble_eq_true rfl) dX6_unblock_2 ⟨Nat.le_of_ble_eq_true rfl, Nat.le_of_ble_eq_true rfl⟩ (fun r_2 u_2 H locs hw hP1 hD1 hk1 hFc hS => ?_)
  obtain ⟨rfl, rfl⟩ := hw
  have hP : va_P D vwCl (mW ad kA g z) H := hP1
  have hD : va_D A (mW ad kA g z) := hD1.weaken (fun _ _ _ h => hFc _ h)
  refine b_bne F (P := 0 ≤ p1 ∧ p1 ≤ nI (gN g 0) - 1) (tgt := 11) dX6_unblock_5 (by decide) (fun c_5 => ?_) (fun c_5 => ?_)
  · obtain ⟨j, hj, rfl⟩ := nat_lt (by omega) c_5.1 c_5.2
    refine lv_aload_n hx hb dX6_unblock_11 rfl (lv_at hl 0 rfl) ?_
    refine g_get F hK hP inX6 0 rfl rfl 8 (by decide) gw_584 rfl (v := .ref (ad 2)) rfl dX6_unblock_12 ?_
    refine lv_iload_n hx hb dX6_unblock_15 rfl (lv_at hl 1 rfl) ?_
    refine a_zld F hK hP 2 (f := gR g 1) rfl (j := j) (by omega) (by decide) dX6_unblock_16 ?_
    refine lv_if_ne (tgt := 23) hx hb dX6_unblock_17 (by decide) (fun c_17 => ?_) (fun c_17 => ?_)
    · refine lv_aload_n hx hb dX6_unblock_23 rfl (lv_at hl 0 rfl) ?_
      refine g_get F hK hP inX6 0 rfl rfl 7 (by decide) gw_583 rfl (v := .ref (ad 1)) rfl dX6_unblock_24 ?_
      refine lv_iload_n hx hb dX6_unblock_27 rfl (lv_at hl 1 rfl) ?_
      refine a_ild F hK hP 1 (f := gR g 0) rfl (j := j) (by omega) (by decide) dX6_unblock_28 ?_
      refine lv_istore_n (lv' := [(2, .int (gR g 0 j)), (0, .ref (ad 0)), (1, .int (nI j))]) hx hb dX6_unblock_29 rfl hl (by decide) rfl (fun ls hl => ?_)
      refine lv_aload_n hx hb dX6_unblock_30 rfl (lv_at hl 1 rfl) ?_
      refine g_get F hK hP inX6 0 rfl rfl 7 (by decide) gw_583 rfl (v := .ref (ad 1)) rfl dX6_unblock_31 ?_
      refine lv_iload_n hx hb dX6_unblock_34 rfl (lv_at hl 2 rfl) ?_
      refine lv_iconst (v := 0) hx hb dX6_unblock_35 (by decide) ?_
      refine a_ist F hK hP hD hS 1 (f := gR g 0) rfl (j := j) (by omega) (by decide) dX6_unblock_36 (fun H locs hP hD hS => ?_)
      have hP : va_P D vwCl (mW ad kA (sR g 0 (upd (gR g 0) j 0)) z) H := hP
      have hD : va_D A (mW ad kA (sR g 0 (upd (gR g 0) j 0)) z) := hD
      refine lv_aload_n hx hb dX6_unblock_37 rfl (lv_at hl 1 rfl) ?_
      refine g_get F hK hP inX6 0 rfl rfl 9 (by decide) gw_585 rfl (v := .ref (ad 3)) rfl dX6_unblock_38 ?_
      refine lv_iload_n hx hb dX6_unblock_41 rfl (lv_at hl 2 rfl) ?_
      refine lv_lconst (v := 0) hx hb dX6_unblock_42 (by decide) ?_
      refine a_lst F hK hP hD hS 3 (f := gE g) rfl (j := j) (by omega) (by decide) dX6_unblock_43 (fun H locs hP hD hS => ?_)
      have hP : va_P D vwCl (mW ad kA (sE (sR g 0 (upd (gR g 0) j 0)) (vp_updL (gE g) j 0)) z) H := hP
      have hD : va_D A (mW ad kA (sE (sR g 0 (upd (gR g 0) j 0)) (vp_updL (gE g) j 0)) z) := hD
      refine lv_aload_n hx hb dX6_unblock_44 rfl (lv_at hl 1 rfl) ?_
      refine g_get F hK hP inX6 0 rfl rfl 8 (by decide) gw_584 rfl (v := .ref (ad 2)) rfl dX6_unblock_45 ?_
      refine lv_iload_n hx hb dX6_unblock_48 rfl (lv_at hl 2 rfl) ?_
      refine lv_iconst (v := 0) hx hb dX6_unblock_49 (by decide) ?_
      refine a_zst F hK hP hD hS 2 (f := gR g 1) rfl (j := j) (by omega) (by decide) dX6_unblock_50 (fun H locs hP hD hS => ?_)
      have hP : va_P D vwCl (mW ad kA (sR (sE (sR g 0 (upd (gR g 0) j 0)) (vp_updL (gE g) j 0)) 1 (upd (gR g 1) j 0)) z) H := hP
      have hD : va_D A (mW ad kA (sR (sE (sR g 0 (upd (gR g 0) j 0)) (vp_updL (gE g) j 0)) 1 (upd (gR g 1) j 0)) z) := hD
      refine lv_iload_n hx hb dX6_unblock_51 rfl (lv_at hl 0 rfl) ?_
      have hq : sp_unblock (nI j) g = (gR g 0 j, sR (sE (sR g 0 (upd (gR g 0) j 0)) (vp_updL (gE g) j 0)) 1 (upd (gR g 1) j 0)) := by rw [sp_unblock, if_pos c_5, nI_clamp (by omega), if_neg c_17]
      exact rt _ (mW ad kA (sR (sE (sR g 0 (upd (gR g 0) j 0)) (vp_updL (gE g) j 0)) 1 (upd (gR g 1) j 0)) z) _ _ _ _ hP hD hS dX6_unblock_52 (by show _ ∧ _; rw [hq]; exact ⟨rfl, rfl⟩)
    · refine lv_bipush (v := (-111)) hx hb dX6_unblock_20 (by decide) ?_
      have hq : sp_unblock (nI j) g = (-111, g) := by rw [sp_unblock, if_pos c_5, nI_clamp (by omega), if_pos c_17]
      exact rt _ (mW ad kA g z) _ _ _ _ hP hD hS dX6_unblock_22 (by show _ ∧ _; rw [hq]; exact ⟨rfl, rfl⟩)
  · refine lv_bipush (v := (-107)) hx hb dX6_unblock_8 (by decide) ?_
    have hq : sp_unblock p1 g = (-107, g) := by rw [sp_unblock, if_neg c_5]
    exact rt _ (mW ad kA g z) _ _ _ _ hP hD hS dX6_unblock_10 (by show _ ∧ _; rw [hq]; exact ⟨rfl, rfl⟩)

set_option maxRecDepth 100000 in
set_option maxHeartbeats 4000000 in
theorem kX6_isRight (l : Launch) (D : va_G) (kA : Nat → ClassId) (sz : Nat) (ad : Nat → Nat) (g : Sg) (z : Zm) (i : Nat) (hi : i < 59) : CtI l yX6_isRight cX6_isRight 3 .boolean 1 D kA sz (mW ad kA g z) [.ref (ad 0), .int (nI i)] (fun r u => (r = if chk (gR g 7) i then 1 else 0) ∧ u = mW ad kA g z) := by
  refine ct_z (own := RX6) (by decide) rfl (Nat.le_of_ble_eq_true rfl) ?_
  intro p_ e_ s_ m_ ar_ bw_ me_ co_ A ls Q F hnm hK hA hP hD hS hl hsz rt
  have hx := F.1
  have hb := F.2.1
  have hl : lv_has ls 3 [(0, .ref (ad 0)), (1, .int (nI i))] := hl
  have hP : va_P D vwCl (mW ad kA g z) s_.heap := hP
  refine lv_aload_n hx hb dX6_isRight_0 rfl (lv_at hl 0 rfl) ?_
  refine g_get F hK hP inX6 0 rfl rfl 19 (by decide) gw_595 rfl (v := .ref (ad 10)) rfl dX6_isRight_1 ?_
  refine lv_iload_n hx hb dX6_isRight_4 rfl (lv_at hl 1 rfl) ?_
  refine a_ild F hK hP 10 (f := gR g 7) rfl (j := i) (by omega) (by decide) dX6_isRight_5 ?_
  refine lv_istore_n (lv' := [(2, .int (gR g 7 i)), (0, .ref (ad 0)), (1, .int (nI i))]) hx hb dX6_isRight_6 rfl hl (by decide) rfl (fun ls hl => ?_)
  refine lv_iload_n hx hb dX6_isRight_7 rfl (lv_at hl 2 rfl) ?_
  refine lv_bipush (v := 6) hx hb dX6_isRight_8 (by decide) ?_
  refine n_rem F (a := i) (b := 6) dX6_isRight_10 (by omega) (by omega) (by omega) ?_
  rcases (show i % 6 = 0 ∨ i % 6 = 1 ∨ i % 6 = 2 ∨ i % 6 = 3 ∨ i % 6 = 4 ∨ i % 6 = 5 by omega) with h6 | h6 | h6 | h6 | h6 | h6
  · rw [h6]
    refine lv_tableIn (tgt := 44) hx hb dX6_isRight_11 (by decide) (by decide) rfl (by decide) ?_
    refine lv_iload_n hx hb dX6_isRight_44 rfl (lv_at hl 0 rfl) ?_
    refine lv_bipush (v := 48) hx hb dX6_isRight_45 (by decide) ?_
    refine lv_bipush (v := 55) hx hb dX6_isRight_47 (by decide) ?_
    refine cl_S_i (wc := []) (As := [.int (gR g 7 i), .int 48, .int 55]) (rest := []) F hK P_nil D_nil hS hA (kX6_within l D kA _ (gR g 7 i) 48 55 ) gw_666 gw_71 gw_664 gw_665 hdX6_within ⟨Nat.le_of_ble_eq_true rfl, Nat.le_of_ble_eq_true rfl⟩ hl.1 rfl (Nat.le_of_ble_eq_true rfl) dX6_isRight_49 ⟨Nat.le_of_ble_eq_true rfl, Nat.le_of_ble_eq_true rfl⟩ (fun r_49 u_49 H locs hw hP1 hD1 hk1 hFc hS => ?_)
    obtain ⟨rfl, rfl⟩ := hw
    have hP := hp_non hP hk1
    have hq : chk (gR g 7) i = (48 ≤ gR g 7 i ∧ gR g 7 i ≤ 55) := by unfold chk; rw [if_pos h6]
    exact rt _ (mW ad kA g z) _ _ _ _ hP hD hS dX6_isRight_52 (nar_if _) (⟨by simp only [hq], rfl⟩)
  · rw [h6]
    refine lv_tableIn (tgt := 53) hx hb dX6_isRight_11 (by decide) (by decide) rfl (by decide) ?_
    refine lv_iload_n hx hb dX6_isRight_53 rfl (lv_at hl 0 rfl) ?_
    refine lv_bipush (v := 62) hx hb dX6_isRight_54 (by decide) ?_
    refine lv_icmp_ne (tgt := 63) hx hb dX6_isRight_56 (by decide) (fun c_56 => ?_) (fun c_56 => ?_)
    · refine lv_iconst (v := 0) hx hb dX6_isRight_63 (by decide) ?_
      have hq : chk (gR g 7) i = (gR g 7 i = 62) := by unfold chk; rw [if_neg (show ¬ i % 6 = 0 by omega), if_pos h6]
      exact rt _ (mW ad kA g z) _ _ _ _ hP hD hS dX6_isRight_64 rfl (⟨by simp only [hq, c_56, if_true, if_false], rfl⟩)
    · refine lv_iconst (v := 1) hx hb dX6_isRight_59 (by decide) ?_
      refine lv_goto (tgt := 64) hx hb dX6_isRight_60 (by decide) ?_
      have hq : chk (gR g 7) i = (gR g 7 i = 62) := by unfold chk; rw [if_neg (show ¬ i % 6 = 0 by omega), if_pos h6]
      exact rt _ (mW ad kA g z) _ _ _ _ hP hD hS dX6_isRight_64 rfl (⟨by simp only [hq, c_56, if_true, if_false], rfl⟩)
  · rw [h6]
    refine lv_tableIn (tgt := 65) hx hb dX6_isRight_11 (by decide) (by decide) rfl (by decide) ?_
    refine lv_iload_n hx hb dX6_isRight_65 rfl (lv_at hl 0 rfl) ?_
    refine lv_bipush (v := 48) hx hb dX6_isRight_66 (by decide) ?_
    refine lv_bipush (v := 51) hx hb dX6_isRight_68 (by decide) ?_
    refine cl_S_i (wc := []) (As := [.int (gR g 7 i), .int 48, .int 51]) (rest := []) F hK P_nil D_nil hS hA (kX6_within l D kA _ (gR g 7 i) 48 51 ) gw_666 gw_71 gw_664 gw_665 hdX6_within ⟨Nat.le_of_ble_eq_true rfl, Nat.le_of_ble_eq_true rfl⟩ hl.1 rfl (Nat.le_of_ble_eq_true rfl) dX6_isRight_70 ⟨Nat.le_of_ble_eq_true rfl, Nat.le_of_ble_eq_true rfl⟩ (fun r_70 u_70 H locs hw hP1 hD1 hk1 hFc hS => ?_)
    obtain ⟨rfl, rfl⟩ := hw
    have hP := hp_non hP hk1
    have hq : chk (gR g 7) i = (48 ≤ gR g 7 i ∧ gR g 7 i ≤ 51) := by unfold chk; rw [if_neg (show ¬ i % 6 = 0 by omega), if_neg (show ¬ i % 6 = 1 by omega), if_pos h6]
    exact rt _ (mW ad kA g z) _ _ _ _ hP hD hS dX6_isRight_73 (nar_if _) (⟨by simp only [hq], rfl⟩)
  · rw [h6]
    refine lv_tableIn (tgt := 74) hx hb dX6_isRight_11 (by decide) (by decide) rfl (by decide) ?_
    refine lv_iload_n hx hb dX6_isRight_74 rfl (lv_at hl 0 rfl) ?_
    refine lv_bipush (v := 48) hx hb dX6_isRight_75 (by decide) ?_
    refine lv_aload_n hx hb dX6_isRight_77 rfl (lv_at hl 1 rfl) ?_
    refine g_get F hK hP inX6 0 rfl rfl 19 (by decide) gw_595 rfl (v := .ref (ad 10)) rfl dX6_isRight_78 ?_
    refine lv_iload_n hx hb dX6_isRight_81 rfl (lv_at hl 2 rfl) ?_
    refine lv_iconst (v := 1) hx hb dX6_isRight_82 (by decide) ?_
    refine n_sub F (a := i) (b := 1) dX6_isRight_83 (by omega) ?_
    refine a_ild F hK hP 10 (f := gR g 7) rfl (j := i - 1) (by omega) (by decide) dX6_isRight_84 ?_
    refine lv_bipush (v := 51) hx hb dX6_isRight_85 (by decide) ?_
    refine lv_icmp_ne (tgt := 95) hx hb dX6_isRight_87 (by decide) (fun c_87 => ?_) (fun c_87 => ?_)
    · refine lv_bipush (v := 57) hx hb dX6_isRight_95 (by decide) ?_
      refine cl_S_i (wc := []) (As := [.int (gR g 7 i), .int 48, .int 57]) (rest := []) F hK P_nil D_nil hS hA (kX6_within l D kA _ (gR g 7 i) 48 57 ) gw_666 gw_71 gw_664 gw_665 hdX6_within ⟨Nat.le_of_ble_eq_true rfl, Nat.le_of_ble_eq_true rfl⟩ hl.1 rfl (Nat.le_of_ble_eq_true rfl) dX6_isRight_97 ⟨Nat.le_of_ble_eq_true rfl, Nat.le_of_ble_eq_true rfl⟩ (fun r_97 u_97 H locs hw hP1 hD1 hk1 hFc hS => ?_)
      obtain ⟨rfl, rfl⟩ := hw
      have hP := hp_non hP hk1
      have hq : chk (gR g 7) i = (48 ≤ gR g 7 i ∧ gR g 7 i ≤ (if gR g 7 (i - 1) = 51 then 49 else 57)) := by unfold chk; rw [if_neg (show ¬ i % 6 = 0 by omega), if_neg (show ¬ i % 6 = 1 by omega), if_neg (show ¬ i % 6 = 2 by omega), if_pos h6]
      exact rt _ (mW ad kA g z) _ _ _ _ hP hD hS dX6_isRight_100 (nar_if _) (⟨by simp only [hq, c_87, if_true, if_false], rfl⟩)
    · refine lv_bipush (v := 49) hx hb dX6_isRight_90 (by decide) ?_
      refine lv_goto (tgt := 97) hx hb dX6_isRight_92 (by decide) ?_
      refine cl_S_i (wc := []) (As := [.int (gR g 7 i), .int 48, .int 49]) (rest := []) F hK P_nil D_nil hS hA (kX6_within l D kA _ (gR g 7 i) 48 49 ) gw_666 gw_71 gw_664 gw_665 hdX6_within ⟨Nat.le_of_ble_eq_true rfl, Nat.le_of_ble_eq_true rfl⟩ hl.1 rfl (Nat.le_of_ble_eq_true rfl) dX6_isRight_97 ⟨Nat.le_of_ble_eq_true rfl, Nat.le_of_ble_eq_true rfl⟩ (fun r_97 u_97 H locs hw hP1 hD1 hk1 hFc hS => ?_)
      obtain ⟨rfl, rfl⟩ := hw
      have hP := hp_non hP hk1
      have hq : chk (gR g 7) i = (48 ≤ gR g 7 i ∧ gR g 7 i ≤ (if gR g 7 (i - 1) = 51 then 49 else 57)) := by unfold chk; rw [if_neg (show ¬ i % 6 = 0 by omega), if_neg (show ¬ i % 6 = 1 by omega), if_neg (show ¬ i % 6 = 2 by omega), if_pos h6]
      exact rt _ (mW ad kA g z) _ _ _ _ hP hD hS dX6_isRight_100 (nar_if _) (⟨by simp only [hq, c_87, if_true, if_false], rfl⟩)
  · rw [h6]
    refine lv_tableIn (tgt := 101) hx hb dX6_isRight_11 (by decide) (by decide) rfl (by decide) ?_
    refine lv_iload_n hx hb dX6_isRight_101 rfl (lv_at hl 0 rfl) ?_
    refine lv_bipush (v := 43) hx hb dX6_isRight_102 (by decide) ?_
    refine lv_icmp_eq (tgt := 113) hx hb dX6_isRight_104 (by decide) (fun c_104 => ?_) (fun c_104 => ?_)
    · refine lv_iconst (v := 1) hx hb dX6_isRight_113 (by decide) ?_
      refine lv_goto (tgt := 118) hx hb dX6_isRight_114 (by decide) ?_
      have hq : chk (gR g 7) i = (gR g 7 i = 43 ∨ gR g 7 i = 45) := by unfold chk; rw [if_neg (show ¬ i % 6 = 0 by omega), if_neg (show ¬ i % 6 = 1 by omega), if_neg (show ¬ i % 6 = 2 by omega), if_neg (show ¬ i % 6 = 3 by omega), if_pos h6]
      exact rt _ (mW ad kA g z) _ _ _ _ hP hD hS dX6_isRight_118 rfl (⟨by simp only [hq, c_104, true_or, if_true], rfl⟩)
    · refine lv_iload_n hx hb dX6_isRight_107 rfl (lv_at hl 0 rfl) ?_
      refine lv_bipush (v := 45) hx hb dX6_isRight_108 (by decide) ?_
      refine lv_icmp_ne (tgt := 117) hx hb dX6_isRight_110 (by decide) (fun c_110 => ?_) (fun c_110 => ?_)
      · refine lv_iconst (v := 0) hx hb dX6_isRight_117 (by decide) ?_
        have hq : chk (gR g 7) i = (gR g 7 i = 43 ∨ gR g 7 i = 45) := by unfold chk; rw [if_neg (show ¬ i % 6 = 0 by omega), if_neg (show ¬ i % 6 = 1 by omega), if_neg (show ¬ i % 6 = 2 by omega), if_neg (show ¬ i % 6 = 3 by omega), if_pos h6]
        exact rt _ (mW ad kA g z) _ _ _ _ hP hD hS dX6_isRight_118 rfl (⟨by simp only [hq, c_104, c_110, or_true, or_false, false_or, if_true, if_false], rfl⟩)
      · refine lv_iconst (v := 1) hx hb dX6_isRight_113 (by decide) ?_
        refine lv_goto (tgt := 118) hx hb dX6_isRight_114 (by decide) ?_
        have hq : chk (gR g 7) i = (gR g 7 i = 43 ∨ gR g 7 i = 45) := by unfold chk; rw [if_neg (show ¬ i % 6 = 0 by omega), if_neg (show ¬ i % 6 = 1 by omega), if_neg (show ¬ i % 6 = 2 by omega), if_neg (show ¬ i % 6 = 3 by omega), if_pos h6]
        exact rt _ (mW ad kA g z) _ _ _ _ hP hD hS dX6_isRight_118 rfl (⟨by simp only [hq, c_104, c_110, or_true, or_false, false_or, if_true, if_false], rfl⟩)
  · rw [h6]
    refine lv_tableOut (tgt := 119) hx hb dX6_isRight_11 (by decide) (by decide) ?_
    refine lv_iload_n hx hb dX6_isRight_119 rfl (lv_at hl 0 rfl) ?_
    refine lv_bipush (v := 44) hx hb dX6_isRight_120 (by decide) ?_
    refine lv_icmp_ne (tgt := 129) hx hb dX6_isRight_122 (by decide) (fun c_122 => ?_) (fun c_122 => ?_)
    · refine lv_iconst (v := 0) hx hb dX6_isRight_129 (by decide) ?_
      have hq : chk (gR g 7) i = (gR g 7 i = 44) := by unfold chk; rw [if_neg (show ¬ i % 6 = 0 by omega), if_neg (show ¬ i % 6 = 1 by omega), if_neg (show ¬ i % 6 = 2 by omega), if_neg (show ¬ i % 6 = 3 by omega), if_neg (show ¬ i % 6 = 4 by omega)]
      exact rt _ (mW ad kA g z) _ _ _ _ hP hD hS dX6_isRight_130 rfl (⟨by simp only [hq, c_122, if_true, if_false], rfl⟩)
    · refine lv_iconst (v := 1) hx hb dX6_isRight_125 (by decide) ?_
      refine lv_goto (tgt := 130) hx hb dX6_isRight_126 (by decide) ?_
      have hq : chk (gR g 7) i = (gR g 7 i = 44) := by unfold chk; rw [if_neg (show ¬ i % 6 = 0 by omega), if_neg (show ¬ i % 6 = 1 by omega), if_neg (show ¬ i % 6 = 2 by omega), if_neg (show ¬ i % 6 = 3 by omega), if_neg (show ¬ i % 6 = 4 by omega)]
      exact rt _ (mW ad kA g z) _ _ _ _ hP hD hS dX6_isRight_130 rfl (⟨by simp only [hq, c_122, if_true, if_false], rfl⟩)

set_option maxRecDepth 100000 in
set_option maxHeartbeats 4000000 in
theorem kX6_rightLength (l : Launch) (D : va_G) (kA : Nat → ClassId) (sz : Nat) (ad : Nat → Nat) (g : Sg) (z : Zm) (hn : gN g 2 ≤ 59) : CtI l yX6_rightLength cX6_rightLength 2 .int 2 D kA sz (mW ad kA g z) [.ref (ad 0)] (fun r u => r = nI (fe (gR g 7) (gN g 2)) ∧ u = mW ad kA g z) := by
  refine ct_i (own := RX6) (by decide) rfl (Nat.le_of_ble_eq_true rfl) ?_
  intro p_ e_ s_ m_ ar_ bw_ me_ co_ A ls Q F hnm hK hA hP hD hS hl hsz rt
  have hx := F.1
  have hb := F.2.1
  have hl : lv_has ls 2 [(0, .ref (ad 0))] := hl
  have hP : va_P D vwCl (mW ad kA g z) s_.heap := hP
  refine lv_iconst (v := 0) hx hb dX6_rightLength_0 (by decide) ?_
  refine lv_istore_n (lv' := [(1, .int 0), (0, .ref (ad 0))]) hx hb dX6_rightLength_1 rfl hl (by decide) rfl (fun ls hl => ?_)
  have lp_2 : ∀ (n_2 : Nat) (i : Nat), (i ≤ gN g 2) → (∀ j, j < i → chk (gR g 7) j) → (59 - i) < n_2 → ∀ (H : Heap) (locs : List Loc) (ls : Array Slot), va_P D vwCl (mW ad kA g z) H → va_D A (mW ad kA g z) → va_S A s_.heap H locs → lv_has ls 2 [(0, .ref (ad 0)), (1, .int (nI i))] → W p_ l e_ (rmC 2 0 0) s_ m_ ar_ bw_ me_ co_ H locs 0 0 Q (F0 m_ 2 ls []) := by
    intro n_2
    induction n_2 with
    | zero =>
      intro i hi hok hm_2
      exact absurd hm_2 (Nat.not_lt_zero _)
    | succ n_2 ih_2 =>
      intro i hi hok hm_2 H locs ls hP hD hS hl
      refine lv_iload_n hx hb dX6_rightLength_2 rfl (lv_at hl 1 rfl) ?_
      refine lv_aload_n hx hb dX6_rightLength_3 rfl (lv_at hl 0 rfl) ?_
      refine g_get F hK hP inX6 0 rfl rfl 18 (by decide) gw_594 rfl (v := .int (nI (gN g 2))) rfl dX6_rightLength_4 ?_
      refine b_ge F (a := i) (b := gN g 2) (tgt := 24) dX6_rightLength_7 (by decide) (by omega) (by omega) (fun c_7 => ?_) (fun c_7 => ?_)
      · refine lv_iload_n hx hb dX6_rightLength_24 rfl (lv_at hl 1 rfl) ?_
        exact rt _ (mW ad kA g z) _ _ _ _ hP hD hS dX6_rightLength_25 (⟨by rw [fe_at hi hok (Or.inl (by omega))], rfl⟩)
      · refine lv_aload_n hx hb dX6_rightLength_10 rfl (lv_at hl 0 rfl) ?_
        refine lv_iload_n hx hb dX6_rightLength_11 rfl (lv_at hl 1 rfl) ?_
        refine cl_V_i (wc := (mW ad kA g z)) (As := [.int (nI i)]) (rest := []) (b := (ad 0)) (C := RX6) F hK hP hD hS hA (kX6_isRight l D kA _ ad g z i (by omega)) gw_764 gw_71 gw_761 gw_763 gw_56 (va_recv hK.1 hP (ci := 6) (q0 := 0) rfl rfl) hdX6_isRight ⟨Nat.le_of_ble_eq_true rfl, Nat.le_of_ble_eq_true rfl⟩ hl.1 rfl (Nat.le_of_ble_eq_true rfl) dX6_rightLength_12 ⟨Nat.le_of_ble_eq_true rfl, Nat.le_of_ble_eq_true rfl⟩ (fun r_12 u_12 H locs hw hP1 hD1 hk1 hFc hS => ?_)
        obtain ⟨rfl, rfl⟩ := hw
        have hP : va_P D vwCl (mW ad kA g z) H := hP1
        have hD : va_D A (mW ad kA g z) := hD1.weaken (fun _ _ _ h => hFc _ h)
        refine b_beq F (P := chk (gR g 7) i) (tgt := 24) dX6_rightLength_15 (by decide) (fun c_15 => ?_) (fun c_15 => ?_)
        · refine lv_iload_n hx hb dX6_rightLength_24 rfl (lv_at hl 1 rfl) ?_
          exact rt _ (mW ad kA g z) _ _ _ _ hP hD hS dX6_rightLength_25 (⟨by rw [fe_at hi hok (Or.inr c_15)], rfl⟩)
        · refine lv_iinc (v := nI (i + 1)) (lv' := [(1, .int (nI (i + 1))), (0, .ref (ad 0))]) hx hb dX6_rightLength_18 hl (k := 1) rfl (nI_add i 1) (by decide) rfl (fun ls hl => ?_)
          refine lv_goto (tgt := 2) hx hb dX6_rightLength_21 (by decide) ?_
          exact ih_2  (i + 1) (by omega) (lt_s hok c_15) (by omega) _ _ _ hP hD hS (lv_sub hl [1, 0] rfl)
  exact lp_2 _ 0 (Nat.zero_le _) (fun j hj => absurd hj (Nat.not_lt_zero _)) (Nat.lt_succ_self _) _ _ _ hP hD hS (lv_sub hl [1, 0] rfl)

set_option maxRecDepth 100000 in
set_option maxHeartbeats 4000000 in
theorem kX6_firstError (l : Launch) (D : va_G) (kA : Nat → ClassId) (sz : Nat) (ad : Nat → Nat) (g : Sg) (z : Zm) (hI : Inv g) : CtI l yX6_firstError cX6_firstError 1 .int 3 D kA sz (mW ad kA g z) [.ref (ad 0)] (fun r u => r = nI (fe (gR g 7) (gN g 2)) ∧ u = mW ad kA g z) := by
  refine ct_i (own := RX6) (by decide) rfl (Nat.le_of_ble_eq_true rfl) ?_
  intro p_ e_ s_ m_ ar_ bw_ me_ co_ A ls Q F hnm hK hA hP hD hS hl hsz rt
  have hx := F.1
  have hb := F.2.1
  have hl : lv_has ls 1 [(0, .ref (ad 0))] := hl
  have hP : va_P D vwCl (mW ad kA g z) s_.heap := hP
  obtain ⟨⟨hc1, hc2⟩, ha, hn, hu, hd, hup, hlo, hso, hv⟩ := id hI
  refine lv_aload_n hx hb dX6_firstError_0 rfl (lv_at hl 0 rfl) ?_
  refine cl_V_i (wc := (mW ad kA g z)) (As := []) (rest := []) (b := (ad 0)) (C := RX6) F hK hP hD hS hA (kX6_rightLength l D kA _ ad g z  hn) gw_760 gw_71 gw_757 gw_759 gw_55 (va_recv hK.1 hP (ci := 6) (q0 := 0) rfl rfl) hdX6_rightLength ⟨Nat.le_of_ble_eq_true rfl, Nat.le_of_ble_eq_true rfl⟩ hl.1 rfl (Nat.le_of_ble_eq_true rfl) dX6_firstError_1 ⟨Nat.le_of_ble_eq_true rfl, Nat.le_of_ble_eq_true rfl⟩ (fun r_1 u_1 H locs hw hP1 hD1 hk1 hFc hS => ?_)
  obtain ⟨rfl, rfl⟩ := hw
  have hP : va_P D vwCl (mW ad kA g z) H := hP1
  have hD : va_D A (mW ad kA g z) := hD1.weaken (fun _ _ _ h => hFc _ h)
  exact rt _ (mW ad kA g z) _ _ _ _ hP hD hS dX6_firstError_4 (⟨rfl, rfl⟩)

set_option maxRecDepth 100000 in
set_option maxHeartbeats 4000000 in
theorem kX6_runInput (l : Launch) (D : va_G) (kA : Nat → ClassId) (sz : Nat) (ad : Nat → Nat) (g : Sg) (z : Zm) (hI : Inv g) (hL : RgM (gV g) (zL z)) : CtI l yX6_runInput cX6_runInput 5 .int 4 D kA sz (mW ad kA g z) [.ref (ad 0)] (fun r u => r = (sp_run g).1 ∧ mQ ad kA (sp_run g).2 z u) := by
  refine ct_i (own := RX6) (by decide) rfl (Nat.le_of_ble_eq_true rfl) ?_
  intro p_ e_ s_ m_ ar_ bw_ me_ co_ A ls Q F hnm hK hA hP hD hS hl hsz rt
  have hx := F.1
  have hb := F.2.1
  have hl : lv_has ls 5 [(0, .ref (ad 0))] := hl
  have hP : va_P D vwCl (mW ad kA g z) s_.heap := hP
  obtain ⟨⟨hc1, hc2⟩, ha, hn, hu, hd, hup, hlo, hso, hv⟩ := id hI
  refine lv_aload_n hx hb dX6_runInput_0 rfl (lv_at hl 0 rfl) ?_
  refine g_get F hK hP inX6 0 rfl rfl 18 (by decide) gw_594 rfl (v := .int (nI (gN g 2))) rfl dX6_runInput_1 ?_
  refine lv_bipush (v := 6) hx hb dX6_runInput_4 (by decide) ?_
  refine n_rem F (a := gN g 2) (b := 6) dX6_runInput_6 (by omega) (by omega) (by omega) ?_
  refine lv_iconst (v := 5) hx hb dX6_runInput_7 (by decide) ?_
  refine b_ne F (a := (gN g 2) % 6) (b := 5) (tgt := 22) dX6_runInput_8 (by decide) (by omega) (by omega) (fun c_8 => ?_) (fun c_8 => ?_)
  · refine lv_bipush (v := (-103)) hx hb dX6_runInput_22 (by decide) ?_
    have hq : sp_run g = (-103, g) := by rw [sp_run, if_neg (fun h => c_8 h.1)]
    exact rt _ (mW ad kA g z) _ _ _ _ hP hD hS dX6_runInput_24 (by show _ ∧ _; rw [hq]; exact ⟨rfl, zL z, hL, rfl⟩)
  · refine lv_aload_n hx hb dX6_runInput_11 rfl (lv_at hl 0 rfl) ?_
    refine cl_V_i (wc := (mW ad kA g z)) (As := []) (rest := []) (b := (ad 0)) (C := RX6) F hK hP hD hS hA (kX6_rightLength l D kA _ ad g z  hn) gw_760 gw_71 gw_757 gw_759 gw_55 (va_recv hK.1 hP (ci := 6) (q0 := 0) rfl rfl) hdX6_rightLength ⟨Nat.le_of_ble_eq_true rfl, Nat.le_of_ble_eq_true rfl⟩ hl.1 rfl (Nat.le_of_ble_eq_true rfl) dX6_runInput_12 ⟨Nat.le_of_ble_eq_true rfl, Nat.le_of_ble_eq_true rfl⟩ (fun r_12 u_12 H locs hw hP1 hD1 hk1 hFc hS => ?_)
    obtain ⟨rfl, rfl⟩ := hw
    have hP : va_P D vwCl (mW ad kA g z) H := hP1
    have hD : va_D A (mW ad kA g z) := hD1.weaken (fun _ _ _ h => hFc _ h)
    refine lv_aload_n hx hb dX6_runInput_15 rfl (lv_at hl 0 rfl) ?_
    refine g_get F hK hP inX6 0 rfl rfl 18 (by decide) gw_594 rfl (v := .int (nI (gN g 2))) rfl dX6_runInput_16 ?_
    refine b_ge F (a := fe (gR g 7) (gN g 2)) (b := gN g 2) (tgt := 25) dX6_runInput_19 (by decide) (by have := fe_le (gR g 7) (gN g 2); omega) (by omega) (fun c_19 => ?_) (fun c_19 => ?_)
    · have hall := fe_all (f := gR g 7) (n := gN g 2) (by have := fe_le (gR g 7) (gN g 2); omega)
      refine lv_iconst (v := 0) hx hb dX6_runInput_25 (by decide) ?_
      refine lv_istore_n (lv' := [(1, .int 0), (0, .ref (ad 0))]) hx hb dX6_runInput_26 rfl hl (by decide) rfl (fun ls hl => ?_)
      refine lv_iconst (v := 0) hx hb dX6_runInput_27 (by decide) ?_
      refine lv_istore_n (lv' := [(2, .int 0), (1, .int 0), (0, .ref (ad 0))]) hx hb dX6_runInput_28 rfl hl (by decide) rfl (fun ls hl => ?_)
      have lp_29 : ∀ (n_29 : Nat) (t : Nat) (i : Nat) (k : Nat) (g1 : Sg) (L1 : Nat → Int32), (i = 6 * t) → (t ≤ ((gN g 2 + 1) / 6)) → (Mn g1) → (gR g1 7 = gR g 7) → (gN g1 2 = gN g 2) → (RgM (gV g1) L1) → (rnL (((gN g 2 + 1) / 6) - t) i k g1 = rnL ((gN g 2 + 1) / 6) 0 0 g) → (((gN g 2 + 1) / 6) - t) < n_29 → ∀ (H : Heap) (locs : List Loc) (ls : Array Slot), va_P D vwCl (mW ad kA g1 (tL z L1)) H → va_D A (mW ad kA g1 (tL z L1)) → va_S A s_.heap H locs → lv_has ls 5 [(0, .ref (ad 0)), (1, .int (nI k)), (2, .int (nI i))] → W p_ l e_ (rmC 4 0 0) s_ m_ ar_ bw_ me_ co_ H locs 0 0 Q (F0 m_ 29 ls []) := by
        intro n_29
        induction n_29 with
        | zero =>
          intro t i k g1 L1 hi ht hM1 h7 h2 hL1 hg hm_29
          exact absurd hm_29 (Nat.not_lt_zero _)
        | succ n_29 ih_29 =>
          intro t i k g1 L1 hi ht hM1 h7 h2 hL1 hg hm_29 H locs ls hP hD hS hl
          refine lv_iload_n hx hb dX6_runInput_29 rfl (lv_at hl 2 rfl) ?_
          refine lv_aload_n hx hb dX6_runInput_30 rfl (lv_at hl 0 rfl) ?_
          refine g_get F hK hP inX6 0 rfl rfl 18 (by decide) gw_594 rfl (v := .int (nI (gN g1 2))) rfl dX6_runInput_31 ?_
          refine b_ge F (a := i) (b := gN g1 2) (tgt := 118) dX6_runInput_34 (by decide) (by omega) (by omega) (fun c_34 => ?_) (fun c_34 => ?_)
          · refine lv_aload_n hx hb dX6_runInput_118 rfl (lv_at hl 0 rfl) ?_
            refine lv_iconst (v := 0) hx hb dX6_runInput_119 (by decide) ?_
            refine g_put F hK hP hD hS inX6 tyX6_ok nmX6 0 rfl rfl 18 (by decide) gw_594 rfl rfl rfl rfl (Nat.le_of_ble_eq_true rfl) dX6_runInput_120 (fun H locs hP hD hS => ?_)
            have hP : va_P D vwCl (mW ad kA (sN g1 2 0) (tL z L1)) H := hP
            have hD : va_D A (mW ad kA (sN g1 2 0) (tL z L1)) := hD
            refine lv_iload_n hx hb dX6_runInput_123 rfl (lv_at hl 1 rfl) ?_
            have hq : sp_run g = (nI k, sN g1 2 0) := by rw [sp_run, if_pos ⟨c_8, by have := fe_le (gR g 7) (gN g 2); omega⟩, ← hg, show ((gN g 2 + 1) / 6) - t = 0 by omega]; rfl
            exact rt _ (mW ad kA (sN g1 2 0) (tL z L1)) _ _ _ _ hP hD hS dX6_runInput_124 (by show _ ∧ _; rw [hq]; exact ⟨rfl, L1, hL1, rfl⟩)
          · obtain ⟨sx, dx, hs8, hd32, hsx, hdx⟩ := run_ok hall (i := i) (by omega) (by omega)
            rw [← h7] at hsx hdx
            refine lv_bipush (v := 10) hx hb dX6_runInput_37 (by decide) ?_
            refine lv_aload_n hx hb dX6_runInput_39 rfl (lv_at hl 0 rfl) ?_
            refine g_get F hK hP inX6 0 rfl rfl 19 (by decide) gw_595 rfl (v := .ref (ad 10)) rfl dX6_runInput_40 ?_
            refine lv_iload_n hx hb dX6_runInput_43 rfl (lv_at hl 2 rfl) ?_
            refine lv_iconst (v := 2) hx hb dX6_runInput_44 (by decide) ?_
            refine n_add F (a := i) (b := 2) dX6_runInput_45 ?_
            refine a_ild F hK hP 10 (f := gR g1 7) rfl (j := i + 2) (by omega) (by decide) dX6_runInput_46 ?_
            refine lv_bipush (v := 48) hx hb dX6_runInput_47 (by decide) ?_
            refine lv_isub hx hb dX6_runInput_49 ?_
            refine lv_imul hx hb dX6_runInput_50 ?_
            refine lv_aload_n hx hb dX6_runInput_51 rfl (lv_at hl 0 rfl) ?_
            refine g_get F hK hP inX6 0 rfl rfl 19 (by decide) gw_595 rfl (v := .ref (ad 10)) rfl dX6_runInput_52 ?_
            refine lv_iload_n hx hb dX6_runInput_55 rfl (lv_at hl 2 rfl) ?_
            refine lv_iconst (v := 3) hx hb dX6_runInput_56 (by decide) ?_
            refine n_add F (a := i) (b := 3) dX6_runInput_57 ?_
            refine a_ild F hK hP 10 (f := gR g1 7) rfl (j := i + 3) (by omega) (by decide) dX6_runInput_58 ?_
            refine lv_iadd hx hb dX6_runInput_59 ?_
            refine lv_bipush (v := 48) hx hb dX6_runInput_60 (by decide) ?_
            refine lv_isub hx hb dX6_runInput_62 ?_
            rw [hdx]
            refine lv_istore_n (lv' := [(3, .int (nI dx)), (0, .ref (ad 0)), (1, .int (nI k)), (2, .int (nI i))]) hx hb dX6_runInput_63 rfl hl (by decide) rfl (fun ls hl => ?_)
            refine lv_aload_n hx hb dX6_runInput_64 rfl (lv_at hl 1 rfl) ?_
            refine lv_aload_n hx hb dX6_runInput_65 rfl (lv_at hl 1 rfl) ?_
            refine g_get F hK hP inX6 0 rfl rfl 19 (by decide) gw_595 rfl (v := .ref (ad 10)) rfl dX6_runInput_66 ?_
            refine lv_iload_n hx hb dX6_runInput_69 rfl (lv_at hl 3 rfl) ?_
            refine a_ild F hK hP 10 (f := gR g1 7) rfl (j := i) (by omega) (by decide) dX6_runInput_70 ?_
            refine lv_bipush (v := 48) hx hb dX6_runInput_71 (by decide) ?_
            refine lv_isub hx hb dX6_runInput_73 ?_
            rw [hsx]
            refine lv_iload_n hx hb dX6_runInput_74 rfl (lv_at hl 0 rfl) ?_
            refine lv_aload_n hx hb dX6_runInput_75 rfl (lv_at hl 1 rfl) ?_
            refine g_get F hK hP inX6 0 rfl rfl 19 (by decide) gw_595 rfl (v := .ref (ad 10)) rfl dX6_runInput_76 ?_
            refine lv_iload_n hx hb dX6_runInput_79 rfl (lv_at hl 3 rfl) ?_
            refine lv_iconst (v := 4) hx hb dX6_runInput_80 (by decide) ?_
            refine n_add F (a := i) (b := 4) dX6_runInput_81 ?_
            refine a_ild F hK hP 10 (f := gR g1 7) rfl (j := i + 4) (by omega) (by decide) dX6_runInput_82 ?_
            refine lv_bipush (v := 43) hx hb dX6_runInput_83 (by decide) ?_
            refine lv_icmp_ne (tgt := 92) hx hb dX6_runInput_85 (by decide) (fun c_85 => ?_) (fun c_85 => ?_)
            · have hcn : sp_connectNow (srcN (gR g1 7) i) (dstN (gR g1 7) i) (sucI (gR g1 7) i) g1 = sp_connectNow sx dx 0 g1 := by rw [srcN, dstN, sucI, hsx, hdx, nI_clamp (by omega), nI_clamp (by omega), if_neg c_85]
              have hkc := (kp_connectNow sx dx 0 g1).1
              refine lv_iconst (v := 0) hx hb dX6_runInput_92 (by decide) ?_
              refine cl_V_i (wc := (mW ad kA g1 (tL z L1))) (As := [.int (nI sx), .int (nI dx), .int 0]) (rest := []) (b := (ad 0)) (C := RX6) F hK hP hD hS hA (kX6_connectNow l D kA _ ad g1 (tL z L1) sx dx 0 hs8 hd32 hM1 hL1) gw_692 gw_71 gw_689 gw_691 gw_45 (va_recv hK.1 hP (ci := 6) (q0 := 0) rfl rfl) hdX6_connectNow ⟨Nat.le_of_ble_eq_true rfl, Nat.le_of_ble_eq_true rfl⟩ hl.1 rfl (Nat.le_of_ble_eq_true rfl) dX6_runInput_93 ⟨Nat.le_of_ble_eq_true rfl, Nat.le_of_ble_eq_true rfl⟩ (fun r_93 u_93 H locs hw hP1 hD1 hk1 hFc hS => ?_)
              obtain ⟨rfl, L_93, hL_93, rfl⟩ := hw
              have hP : va_P D vwCl (mW ad kA ((sp_connectNow sx dx 0 g1).2) (tL (tL z L1) L_93)) H := hP1
              have hD : va_D A (mW ad kA ((sp_connectNow sx dx 0 g1).2) (tL (tL z L1) L_93)) := hD1.weaken (fun _ _ _ h => hFc _ h)
              refine lv_istore (lv' := [(4, .int ((sp_connectNow sx dx 0 g1).1)), (3, .int (nI dx)), (0, .ref (ad 0)), (1, .int (nI k)), (2, .int (nI i))]) hx hb dX6_runInput_96 hl (by decide) rfl (fun ls hl => ?_)
              refine lv_iload_n hx hb dX6_runInput_98 rfl (lv_at hl 3 rfl) ?_
              refine lv_iload hx hb dX6_runInput_99 (lv_at hl 0 rfl) ?_
              refine lv_iconst (v := 3) hx hb dX6_runInput_101 (by decide) ?_
              refine lv_icmp_ge (tgt := 109) hx hb dX6_runInput_102 (by decide) (fun c_102 => ?_) (fun c_102 => ?_)
              · refine lv_iconst (v := 0) hx hb dX6_runInput_109 (by decide) ?_
                refine n_add F (a := k) (b := 0) dX6_runInput_110 ?_
                refine lv_istore_n (lv' := [(1, .int (nI (k + 0))), (4, .int ((sp_connectNow sx dx 0 g1).1)), (3, .int (nI dx)), (0, .ref (ad 0)), (2, .int (nI i))]) hx hb dX6_runInput_111 rfl hl (by decide) rfl (fun ls hl => ?_)
                refine lv_iinc (v := nI (i + 6)) (lv' := [(2, .int (nI (i + 6))), (1, .int (nI (k + 0))), (4, .int ((sp_connectNow sx dx 0 g1).1)), (3, .int (nI dx)), (0, .ref (ad 0))]) hx hb dX6_runInput_112 hl (k := 4) rfl (nI_add i 6) (by decide) rfl (fun ls hl => ?_)
                refine lv_goto (tgt := 29) hx hb dX6_runInput_115 (by decide) ?_
                exact ih_29  (t + 1) (i + 6) (k + 0) ((sp_connectNow sx dx 0 g1).2) L_93 (by omega) (by omega) (hkc.mn hM1) (hkc.2.2.2.2.1.trans h7) (hkc.2.1.trans h2) hL_93 (by rw [← hg, show ((gN g 2 + 1) / 6) - t = (((gN g 2 + 1) / 6) - (t + 1)) + 1 by omega, rnL, hcn, if_neg (Int32.not_lt.mpr c_102)]) (by omega) _ _ _ hP hD hS (lv_sub hl [4, 1, 0] rfl)
              · refine lv_iconst (v := 1) hx hb dX6_runInput_105 (by decide) ?_
                refine lv_goto (tgt := 110) hx hb dX6_runInput_106 (by decide) ?_
                refine n_add F (a := k) (b := 1) dX6_runInput_110 ?_
                refine lv_istore_n (lv' := [(1, .int (nI (k + 1))), (4, .int ((sp_connectNow sx dx 0 g1).1)), (3, .int (nI dx)), (0, .ref (ad 0)), (2, .int (nI i))]) hx hb dX6_runInput_111 rfl hl (by decide) rfl (fun ls hl => ?_)
                refine lv_iinc (v := nI (i + 6)) (lv' := [(2, .int (nI (i + 6))), (1, .int (nI (k + 1))), (4, .int ((sp_connectNow sx dx 0 g1).1)), (3, .int (nI dx)), (0, .ref (ad 0))]) hx hb dX6_runInput_112 hl (k := 4) rfl (nI_add i 6) (by decide) rfl (fun ls hl => ?_)
                refine lv_goto (tgt := 29) hx hb dX6_runInput_115 (by decide) ?_
                exact ih_29  (t + 1) (i + 6) (k + 1) ((sp_connectNow sx dx 0 g1).2) L_93 (by omega) (by omega) (hkc.mn hM1) (hkc.2.2.2.2.1.trans h7) (hkc.2.1.trans h2) hL_93 (by rw [← hg, show ((gN g 2 + 1) / 6) - t = (((gN g 2 + 1) / 6) - (t + 1)) + 1 by omega, rnL, hcn, if_pos (Int32.not_le.mp c_102)]) (by omega) _ _ _ hP hD hS (lv_sub hl [4, 1, 0] rfl)
            · have hcn : sp_connectNow (srcN (gR g1 7) i) (dstN (gR g1 7) i) (sucI (gR g1 7) i) g1 = sp_connectNow sx dx 1 g1 := by rw [srcN, dstN, sucI, hsx, hdx, nI_clamp (by omega), nI_clamp (by omega), if_pos c_85]
              have hkc := (kp_connectNow sx dx 1 g1).1
              refine lv_iconst (v := 1) hx hb dX6_runInput_88 (by decide) ?_
              refine lv_goto (tgt := 93) hx hb dX6_runInput_89 (by decide) ?_
              refine cl_V_i (wc := (mW ad kA g1 (tL z L1))) (As := [.int (nI sx), .int (nI dx), .int 1]) (rest := []) (b := (ad 0)) (C := RX6) F hK hP hD hS hA (kX6_connectNow l D kA _ ad g1 (tL z L1) sx dx 1 hs8 hd32 hM1 hL1) gw_692 gw_71 gw_689 gw_691 gw_45 (va_recv hK.1 hP (ci := 6) (q0 := 0) rfl rfl) hdX6_connectNow ⟨Nat.le_of_ble_eq_true rfl, Nat.le_of_ble_eq_true rfl⟩ hl.1 rfl (Nat.le_of_ble_eq_true rfl) dX6_runInput_93 ⟨Nat.le_of_ble_eq_true rfl, Nat.le_of_ble_eq_true rfl⟩ (fun r_93 u_93 H locs hw hP1 hD1 hk1 hFc hS => ?_)
              obtain ⟨rfl, L_93, hL_93, rfl⟩ := hw
              have hP : va_P D vwCl (mW ad kA ((sp_connectNow sx dx 1 g1).2) (tL (tL z L1) L_93)) H := hP1
              have hD : va_D A (mW ad kA ((sp_connectNow sx dx 1 g1).2) (tL (tL z L1) L_93)) := hD1.weaken (fun _ _ _ h => hFc _ h)
              refine lv_istore (lv' := [(4, .int ((sp_connectNow sx dx 1 g1).1)), (3, .int (nI dx)), (0, .ref (ad 0)), (1, .int (nI k)), (2, .int (nI i))]) hx hb dX6_runInput_96 hl (by decide) rfl (fun ls hl => ?_)
              refine lv_iload_n hx hb dX6_runInput_98 rfl (lv_at hl 3 rfl) ?_
              refine lv_iload hx hb dX6_runInput_99 (lv_at hl 0 rfl) ?_
              refine lv_iconst (v := 3) hx hb dX6_runInput_101 (by decide) ?_
              refine lv_icmp_ge (tgt := 109) hx hb dX6_runInput_102 (by decide) (fun c_102 => ?_) (fun c_102 => ?_)
              · refine lv_iconst (v := 0) hx hb dX6_runInput_109 (by decide) ?_
                refine n_add F (a := k) (b := 0) dX6_runInput_110 ?_
                refine lv_istore_n (lv' := [(1, .int (nI (k + 0))), (4, .int ((sp_connectNow sx dx 1 g1).1)), (3, .int (nI dx)), (0, .ref (ad 0)), (2, .int (nI i))]) hx hb dX6_runInput_111 rfl hl (by decide) rfl (fun ls hl => ?_)
                refine lv_iinc (v := nI (i + 6)) (lv' := [(2, .int (nI (i + 6))), (1, .int (nI (k + 0))), (4, .int ((sp_connectNow sx dx 1 g1).1)), (3, .int (nI dx)), (0, .ref (ad 0))]) hx hb dX6_runInput_112 hl (k := 4) rfl (nI_add i 6) (by decide) rfl (fun ls hl => ?_)
                refine lv_goto (tgt := 29) hx hb dX6_runInput_115 (by decide) ?_
                exact ih_29  (t + 1) (i + 6) (k + 0) ((sp_connectNow sx dx 1 g1).2) L_93 (by omega) (by omega) (hkc.mn hM1) (hkc.2.2.2.2.1.trans h7) (hkc.2.1.trans h2) hL_93 (by rw [← hg, show ((gN g 2 + 1) / 6) - t = (((gN g 2 + 1) / 6) - (t + 1)) + 1 by omega, rnL, hcn, if_neg (Int32.not_lt.mpr c_102)]) (by omega) _ _ _ hP hD hS (lv_sub hl [4, 1, 0] rfl)
              · refine lv_iconst (v := 1) hx hb dX6_runInput_105 (by decide) ?_
                refine lv_goto (tgt := 110) hx hb dX6_runInput_106 (by decide) ?_
                refine n_add F (a := k) (b := 1) dX6_runInput_110 ?_
                refine lv_istore_n (lv' := [(1, .int (nI (k + 1))), (4, .int ((sp_connectNow sx dx 1 g1).1)), (3, .int (nI dx)), (0, .ref (ad 0)), (2, .int (nI i))]) hx hb dX6_runInput_111 rfl hl (by decide) rfl (fun ls hl => ?_)
                refine lv_iinc (v := nI (i + 6)) (lv' := [(2, .int (nI (i + 6))), (1, .int (nI (k + 1))), (4, .int ((sp_connectNow sx dx 1 g1).1)), (3, .int (nI dx)), (0, .ref (ad 0))]) hx hb dX6_runInput_112 hl (k := 4) rfl (nI_add i 6) (by decide) rfl (fun ls hl => ?_)
                refine lv_goto (tgt := 29) hx hb dX6_runInput_115 (by decide) ?_
                exact ih_29  (t + 1) (i + 6) (k + 1) ((sp_connectNow sx dx 1 g1).2) L_93 (by omega) (by omega) (hkc.mn hM1) (hkc.2.2.2.2.1.trans h7) (hkc.2.1.trans h2) hL_93 (by rw [← hg, show ((gN g 2 + 1) / 6) - t = (((gN g 2 + 1) / 6) - (t + 1)) + 1 by omega, rnL, hcn, if_pos (Int32.not_le.mp c_102)]) (by omega) _ _ _ hP hD hS (lv_sub hl [4, 1, 0] rfl)
      exact lp_29 _ 0 0 0 g (zL z) rfl (Nat.zero_le _) ⟨⟨hc1, hc2⟩, ha⟩ rfl rfl hL rfl (Nat.lt_succ_self _) _ _ _ hP hD hS (lv_sub hl [2, 1, 0] rfl)
    · refine lv_bipush (v := (-103)) hx hb dX6_runInput_22 (by decide) ?_
      have hq : sp_run g = (-103, g) := by rw [sp_run, if_neg (fun h => by omega)]
      exact rt _ (mW ad kA g z) _ _ _ _ hP hD hS dX6_runInput_24 (by show _ ∧ _; rw [hq]; exact ⟨rfl, zL z, hL, rfl⟩)
