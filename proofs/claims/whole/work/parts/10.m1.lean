set_option maxRecDepth 100000 in
set_option maxHeartbeats 4000000 in
theorem kX6_within (l : Launch) (D : va_G) (kA : Nat → ClassId) (sz : Nat) (x lo hi : Int32)  : CtI l yX6_within cX6_within 3 .boolean 0 D kA sz ([]) [.int x, .int lo, .int hi] (fun r u => (r = if lo ≤ x ∧ x ≤ hi then 1 else 0) ∧ u = []) := by
  refine ct_z (own := RX6) (by decide) rfl (Nat.le_of_ble_eq_true rfl) ?_
  intro p_ e_ s_ m_ ar_ bw_ me_ co_ A ls Q F hnm hK hA hP hD hS hl hsz rt
  have hx := F.1
  have hb := F.2.1
  have hl : lv_has ls 3 [(0, .int x), (1, .int lo), (2, .int hi)] := hl
  have hP : va_P D vwCl ([]) s_.heap := hP
  refine lv_iload_n hx hb dX6_within_0 rfl (lv_at hl 0 rfl) ?_
  refine lv_iload_n hx hb dX6_within_1 rfl (lv_at hl 1 rfl) ?_
  refine lv_icmp_lt (tgt := 14) hx hb dX6_within_2 (by decide) (fun c_2 => ?_) (fun c_2 => ?_)
  · refine lv_iconst (v := 0) hx hb dX6_within_14 (by decide) ?_
    exact rt _ ([]) _ _ _ _ hP hD hS dX6_within_15 rfl (⟨wi_a c_2, rfl⟩)
  · refine lv_iload_n hx hb dX6_within_5 rfl (lv_at hl 0 rfl) ?_
    refine lv_iload_n hx hb dX6_within_6 rfl (lv_at hl 2 rfl) ?_
    refine lv_icmp_gt (tgt := 14) hx hb dX6_within_7 (by decide) (fun c_7 => ?_) (fun c_7 => ?_)
    · refine lv_iconst (v := 0) hx hb dX6_within_14 (by decide) ?_
      exact rt _ ([]) _ _ _ _ hP hD hS dX6_within_15 rfl (⟨wi_b c_7, rfl⟩)
    · refine lv_iconst (v := 1) hx hb dX6_within_10 (by decide) ?_
      refine lv_goto (tgt := 15) hx hb dX6_within_11 (by decide) ?_
      exact rt _ ([]) _ _ _ _ hP hD hS dX6_within_15 rfl (⟨wi_1 c_2 c_7, rfl⟩)

set_option maxRecDepth 100000 in
set_option maxHeartbeats 4000000 in
theorem kX6_reset (l : Launch) (D : va_G) (kA : Nat → ClassId) (sz : Nat) (ad : Nat → Nat) (g : Sg) (z : Zm)  : CtV l yX6_reset cX6_reset 2 1 0 0 D kA sz (mW ad kA g z) [.ref (ad 0)] (fun u => u = mW ad kA (sp_reset g) z) := by
  refine ct_v (own := RX6) (by decide) rfl (Nat.le_of_ble_eq_true rfl) ?_
  intro p_ e_ s_ m_ ar_ bw_ me_ co_ A ls Q F hnm hK hA hP hD hS hl hsz rt
  have hx := F.1
  have hb := F.2.1
  have hl : lv_has ls 2 [(0, .ref (ad 0))] := hl
  have hP : va_P D vwCl (mW ad kA g z) s_.heap := hP
  refine lv_iconst (v := 0) hx hb dX6_reset_0 (by decide) ?_
  refine lv_istore_n (lv' := [(1, .int 0), (0, .ref (ad 0))]) hx hb dX6_reset_1 rfl hl (by decide) rfl (fun ls hl => ?_)
  have lp_2 : ∀ (n_2 : Nat) (k : Nat) (g1 : Sg), (k ≤ 8) → (g1 = rsG k g) → (8 - k) < n_2 → ∀ (H : Heap) (locs : List Loc) (ls : Array Slot), va_P D vwCl (mW ad kA g1 z) H → va_D A (mW ad kA g1 z) → va_S A s_.heap H locs → lv_has ls 2 [(0, .ref (ad 0)), (1, .int (nI k))] → W p_ l e_ (rmC 1 0 0) s_ m_ ar_ bw_ me_ co_ H locs 0 0 Q (F0 m_ 2 ls []) := by
    intro n_2
    induction n_2 with
    | zero =>
      intro k g1 hk hg hm_2
      exact absurd hm_2 (Nat.not_lt_zero _)
    | succ n_2 ih_2 =>
      intro k g1 hk hg hm_2 H locs ls hP hD hS hl
      refine lv_iload_n hx hb dX6_reset_2 rfl (lv_at hl 1 rfl) ?_
      refine lv_bipush (v := 8) hx hb dX6_reset_3 (by decide) ?_
      refine b_ge F (a := k) (b := 8) (tgt := 49) dX6_reset_5 (by decide) (by omega) (by omega) (fun c_5 => ?_) (fun c_5 => ?_)
      · refine lv_aload_n hx hb dX6_reset_49 rfl (lv_at hl 0 rfl) ?_
        refine lv_iconst (v := 0) hx hb dX6_reset_50 (by decide) ?_
        refine g_put F hK hP hD hS inX6 tyX6_ok nmX6 0 rfl rfl 12 (by decide) gw_588 rfl rfl rfl rfl (Nat.le_of_ble_eq_true rfl) dX6_reset_51 (fun H locs hP hD hS => ?_)
        have hP : va_P D vwCl (mW ad kA (sN g1 1 0) z) H := hP
        have hD : va_D A (mW ad kA (sN g1 1 0) z) := hD
        refine lv_aload_n hx hb dX6_reset_54 rfl (lv_at hl 0 rfl) ?_
        refine lv_iconst (v := 0) hx hb dX6_reset_55 (by decide) ?_
        refine g_put F hK hP hD hS inX6 tyX6_ok nmX6 0 rfl rfl 16 (by decide) gw_592 rfl rfl rfl rfl (Nat.le_of_ble_eq_true rfl) dX6_reset_56 (fun H locs hP hD hS => ?_)
        have hP : va_P D vwCl (mW ad kA (sV (sN g1 1 0) ([])) z) H := hP
        have hD : va_D A (mW ad kA (sV (sN g1 1 0) ([])) z) := hD
        refine lv_aload_n hx hb dX6_reset_59 rfl (lv_at hl 0 rfl) ?_
        refine lv_iconst (v := 0) hx hb dX6_reset_60 (by decide) ?_
        refine g_put F hK hP hD hS inX6 tyX6_ok nmX6 0 rfl rfl 6 (by decide) gw_582 rfl rfl rfl rfl (Nat.le_of_ble_eq_true rfl) dX6_reset_61 (fun H locs hP hD hS => ?_)
        have hP : va_P D vwCl (mW ad kA (sI (sV (sN g1 1 0) ([])) 5 0) z) H := hP
        have hD : va_D A (mW ad kA (sI (sV (sN g1 1 0) ([])) 5 0) z) := hD
        exact rt (mW ad kA (sI (sV (sN g1 1 0) ([])) 5 0) z) _ _ _ _ hP hD hS dX6_reset_64 ((by rw [hg, show k = 8 by omega]; rfl))
      · refine lv_aload_n hx hb dX6_reset_8 rfl (lv_at hl 0 rfl) ?_
        refine g_get F hK hP inX6 0 rfl rfl 7 (by decide) gw_583 rfl (v := .ref (ad 1)) rfl dX6_reset_9 ?_
        refine lv_iload_n hx hb dX6_reset_12 rfl (lv_at hl 1 rfl) ?_
        refine lv_iconst (v := 0) hx hb dX6_reset_13 (by decide) ?_
        refine a_ist F hK hP hD hS 1 (f := gR g1 0) rfl (j := k) (by omega) (by decide) dX6_reset_14 (fun H locs hP hD hS => ?_)
        have hP : va_P D vwCl (mW ad kA (sR g1 0 (upd (gR g1 0) k 0)) z) H := hP
        have hD : va_D A (mW ad kA (sR g1 0 (upd (gR g1 0) k 0)) z) := hD
        refine lv_aload_n hx hb dX6_reset_15 rfl (lv_at hl 0 rfl) ?_
        refine g_get F hK hP inX6 0 rfl rfl 8 (by decide) gw_584 rfl (v := .ref (ad 2)) rfl dX6_reset_16 ?_
        refine lv_iload_n hx hb dX6_reset_19 rfl (lv_at hl 1 rfl) ?_
        refine lv_iconst (v := 0) hx hb dX6_reset_20 (by decide) ?_
        refine a_zst F hK hP hD hS 2 (f := gR g1 1) rfl (j := k) (by omega) (by decide) dX6_reset_21 (fun H locs hP hD hS => ?_)
        have hP : va_P D vwCl (mW ad kA (sR (sR g1 0 (upd (gR g1 0) k 0)) 1 (upd (gR g1 1) k 0)) z) H := hP
        have hD : va_D A (mW ad kA (sR (sR g1 0 (upd (gR g1 0) k 0)) 1 (upd (gR g1 1) k 0)) z) := hD
        refine lv_aload_n hx hb dX6_reset_22 rfl (lv_at hl 0 rfl) ?_
        refine g_get F hK hP inX6 0 rfl rfl 9 (by decide) gw_585 rfl (v := .ref (ad 3)) rfl dX6_reset_23 ?_
        refine lv_iload_n hx hb dX6_reset_26 rfl (lv_at hl 1 rfl) ?_
        refine lv_lconst (v := 0) hx hb dX6_reset_27 (by decide) ?_
        refine a_lst F hK hP hD hS 3 (f := gE g1) rfl (j := k) (by omega) (by decide) dX6_reset_28 (fun H locs hP hD hS => ?_)
        have hP : va_P D vwCl (mW ad kA (sE (sR (sR g1 0 (upd (gR g1 0) k 0)) 1 (upd (gR g1 1) k 0)) (vp_updL (gE g1) k 0)) z) H := hP
        have hD : va_D A (mW ad kA (sE (sR (sR g1 0 (upd (gR g1 0) k 0)) 1 (upd (gR g1 1) k 0)) (vp_updL (gE g1) k 0)) z) := hD
        refine lv_aload_n hx hb dX6_reset_29 rfl (lv_at hl 0 rfl) ?_
        refine g_get F hK hP inX6 0 rfl rfl 10 (by decide) gw_586 rfl (v := .ref (ad 4)) rfl dX6_reset_30 ?_
        refine lv_iload_n hx hb dX6_reset_33 rfl (lv_at hl 1 rfl) ?_
        refine lv_iconst (v := 0) hx hb dX6_reset_34 (by decide) ?_
        refine a_ist F hK hP hD hS 4 (f := gR g1 2) rfl (j := k) (by omega) (by decide) dX6_reset_35 (fun H locs hP hD hS => ?_)
        have hP : va_P D vwCl (mW ad kA (sR (sE (sR (sR g1 0 (upd (gR g1 0) k 0)) 1 (upd (gR g1 1) k 0)) (vp_updL (gE g1) k 0)) 2 (upd (gR g1 2) k 0)) z) H := hP
        have hD : va_D A (mW ad kA (sR (sE (sR (sR g1 0 (upd (gR g1 0) k 0)) 1 (upd (gR g1 1) k 0)) (vp_updL (gE g1) k 0)) 2 (upd (gR g1 2) k 0)) z) := hD
        refine lv_aload_n hx hb dX6_reset_36 rfl (lv_at hl 0 rfl) ?_
        refine g_get F hK hP inX6 0 rfl rfl 11 (by decide) gw_587 rfl (v := .ref (ad 5)) rfl dX6_reset_37 ?_
        refine lv_iload_n hx hb dX6_reset_40 rfl (lv_at hl 1 rfl) ?_
        refine lv_iconst (v := 0) hx hb dX6_reset_41 (by decide) ?_
        refine a_ist F hK hP hD hS 5 (f := gR g1 3) rfl (j := k) (by omega) (by decide) dX6_reset_42 (fun H locs hP hD hS => ?_)
        have hP : va_P D vwCl (mW ad kA (sR (sR (sE (sR (sR g1 0 (upd (gR g1 0) k 0)) 1 (upd (gR g1 1) k 0)) (vp_updL (gE g1) k 0)) 2 (upd (gR g1 2) k 0)) 3 (upd (gR g1 3) k 0)) z) H := hP
        have hD : va_D A (mW ad kA (sR (sR (sE (sR (sR g1 0 (upd (gR g1 0) k 0)) 1 (upd (gR g1 1) k 0)) (vp_updL (gE g1) k 0)) 2 (upd (gR g1 2) k 0)) 3 (upd (gR g1 3) k 0)) z) := hD
        refine lv_iinc (v := nI (k + 1)) (lv' := [(1, .int (nI (k + 1))), (0, .ref (ad 0))]) hx hb dX6_reset_43 hl (k := 1) rfl (nI_add k 1) (by decide) rfl (fun ls hl => ?_)
        refine lv_goto (tgt := 2) hx hb dX6_reset_46 (by decide) ?_
        exact ih_2  (k + 1) (sR (sR (sE (sR (sR g1 0 (upd (gR g1 0) k 0)) 1 (upd (gR g1 1) k 0)) (vp_updL (gE g1) k 0)) 2 (upd (gR g1 2) k 0)) 3 (upd (gR g1 3) k 0)) (by omega) (by rw [hg]; exact rsG_s k g) (by omega) _ _ _ hP hD hS (lv_sub hl [1, 0] rfl)
  exact lp_2 _ 0 g (by decide) (rsG_0 g).symm (Nat.lt_succ_self _) _ _ _ hP hD hS (lv_sub hl [1, 0] rfl)

set_option maxRecDepth 100000 in
set_option maxHeartbeats 4000000 in
theorem kX6_configure (l : Launch) (D : va_G) (kA : Nat → ClassId) (sz : Nat) (ad : Nat → Nat) (g : Sg) (z : Zm) (p1 p2 p3 p4 : Int32)  : CtI l yX6_configure cX6_configure 5 .int 2 D kA sz (mW ad kA g z) [.ref (ad 0), .int p1, .int p2, .int p3, .int p4] (fun r u => r = (sp_configure p1 p2 p3 p4 g).1 ∧ u = mW ad kA (sp_configure p1 p2 p3 p4 g).2 z) := by
  refine ct_i (own := RX6) (by decide) rfl (Nat.le_of_ble_eq_true rfl) ?_
  intro p_ e_ s_ m_ ar_ bw_ me_ co_ A ls Q F hnm hK hA hP hD hS hl hsz rt
  have hx := F.1
  have hb := F.2.1
  have hl : lv_has ls 5 [(0, .ref (ad 0)), (1, .int p1), (2, .int p2), (3, .int p3), (4, .int p4)] := hl
  have hP : va_P D vwCl (mW ad kA g z) s_.heap := hP
  refine lv_iload_n hx hb dX6_configure_0 rfl (lv_at hl 1 rfl) ?_
  refine lv_iconst (v := 1) hx hb dX6_configure_1 (by decide) ?_
  refine lv_bipush (v := 9) hx hb dX6_configure_2 (by decide) ?_
  refine cl_S_i (wc := []) (As := [.int p1, .int 1, .int 9]) (rest := []) F hK P_nil D_nil hS hA (kX6_within l D kA _ p1 1 9 ) gw_666 gw_71 gw_664 gw_665 hdX6_within ⟨Nat.le_of_ble_eq_true rfl, Nat.le_of_ble_eq_true rfl⟩ hl.1 rfl (Nat.le_of_ble_eq_true rfl) dX6_configure_4 ⟨Nat.le_of_ble_eq_true rfl, Nat.le_of_ble_eq_true rfl⟩ (fun r_4 u_4 H locs hw hP1 hD1 hk1 hFc hS => ?_)
  obtain ⟨rfl, rfl⟩ := hw
  have hP := hp_non hP hk1
  refine b_beq F (P := 1 ≤ p1 ∧ p1 ≤ 9) (tgt := 41) dX6_configure_7 (by decide) (fun c_7 => ?_) (fun c_7 => ?_)
  · refine lv_bipush (v := (-104)) hx hb dX6_configure_41 (by decide) ?_
    exact rt _ (mW ad kA g z) _ _ _ _ hP hD hS dX6_configure_43 (⟨by rw [sp_configure, if_neg (fun h => c_7 h.1)], by rw [sp_configure, if_neg (fun h => c_7 h.1)]⟩)
  · refine lv_iload_n hx hb dX6_configure_10 rfl (lv_at hl 2 rfl) ?_
    refine lv_iconst (v := 1) hx hb dX6_configure_11 (by decide) ?_
    refine lv_bipush (v := 9) hx hb dX6_configure_12 (by decide) ?_
    refine cl_S_i (wc := []) (As := [.int p2, .int 1, .int 9]) (rest := []) F hK P_nil D_nil hS hA (kX6_within l D kA _ p2 1 9 ) gw_666 gw_71 gw_664 gw_665 hdX6_within ⟨Nat.le_of_ble_eq_true rfl, Nat.le_of_ble_eq_true rfl⟩ hl.1 rfl (Nat.le_of_ble_eq_true rfl) dX6_configure_14 ⟨Nat.le_of_ble_eq_true rfl, Nat.le_of_ble_eq_true rfl⟩ (fun r_14 u_14 H locs hw hP1 hD1 hk1 hFc hS => ?_)
    obtain ⟨rfl, rfl⟩ := hw
    have hP := hp_non hP hk1
    refine b_beq F (P := 1 ≤ p2 ∧ p2 ≤ 9) (tgt := 41) dX6_configure_17 (by decide) (fun c_17 => ?_) (fun c_17 => ?_)
    · refine lv_bipush (v := (-104)) hx hb dX6_configure_41 (by decide) ?_
      exact rt _ (mW ad kA g z) _ _ _ _ hP hD hS dX6_configure_43 (⟨by rw [sp_configure, if_neg (fun h => c_17 h.2.1)], by rw [sp_configure, if_neg (fun h => c_17 h.2.1)]⟩)
    · refine lv_iload_n hx hb dX6_configure_20 rfl (lv_at hl 3 rfl) ?_
      refine lv_iconst (v := 1) hx hb dX6_configure_21 (by decide) ?_
      refine lv_bipush (v := 60) hx hb dX6_configure_22 (by decide) ?_
      refine cl_S_i (wc := []) (As := [.int p3, .int 1, .int 60]) (rest := []) F hK P_nil D_nil hS hA (kX6_within l D kA _ p3 1 60 ) gw_666 gw_71 gw_664 gw_665 hdX6_within ⟨Nat.le_of_ble_eq_true rfl, Nat.le_of_ble_eq_true rfl⟩ hl.1 rfl (Nat.le_of_ble_eq_true rfl) dX6_configure_24 ⟨Nat.le_of_ble_eq_true rfl, Nat.le_of_ble_eq_true rfl⟩ (fun r_24 u_24 H locs hw hP1 hD1 hk1 hFc hS => ?_)
      obtain ⟨rfl, rfl⟩ := hw
      have hP := hp_non hP hk1
      refine b_beq F (P := 1 ≤ p3 ∧ p3 ≤ 60) (tgt := 41) dX6_configure_27 (by decide) (fun c_27 => ?_) (fun c_27 => ?_)
      · refine lv_bipush (v := (-104)) hx hb dX6_configure_41 (by decide) ?_
        exact rt _ (mW ad kA g z) _ _ _ _ hP hD hS dX6_configure_43 (⟨by rw [sp_configure, if_neg (fun h => c_27 h.2.2.1)], by rw [sp_configure, if_neg (fun h => c_27 h.2.2.1)]⟩)
      · refine lv_iload hx hb dX6_configure_30 (lv_at hl 4 rfl) ?_
        refine lv_bipush (v := (-60)) hx hb dX6_configure_32 (by decide) ?_
        refine lv_iconst (v := (-1)) hx hb dX6_configure_34 (by decide) ?_
        refine cl_S_i (wc := []) (As := [.int p4, .int (-60), .int (-1)]) (rest := []) F hK P_nil D_nil hS hA (kX6_within l D kA _ p4 (-60) (-1) ) gw_666 gw_71 gw_664 gw_665 hdX6_within ⟨Nat.le_of_ble_eq_true rfl, Nat.le_of_ble_eq_true rfl⟩ hl.1 rfl (Nat.le_of_ble_eq_true rfl) dX6_configure_35 ⟨Nat.le_of_ble_eq_true rfl, Nat.le_of_ble_eq_true rfl⟩ (fun r_35 u_35 H locs hw hP1 hD1 hk1 hFc hS => ?_)
        obtain ⟨rfl, rfl⟩ := hw
        have hP := hp_non hP hk1
        refine b_bne F (P := (-60) ≤ p4 ∧ p4 ≤ (-1)) (tgt := 44) dX6_configure_38 (by decide) (fun c_38 => ?_) (fun c_38 => ?_)
        · refine lv_aload_n hx hb dX6_configure_44 rfl (lv_at hl 0 rfl) ?_
          refine lv_iload_n hx hb dX6_configure_45 rfl (lv_at hl 1 rfl) ?_
          refine g_put F hK hP hD hS inX6 tyX6_ok nmX6 0 rfl rfl 1 (by decide) gw_577 rfl rfl rfl rfl (Nat.le_of_ble_eq_true rfl) dX6_configure_46 (fun H locs hP hD hS => ?_)
          have hP : va_P D vwCl (mW ad kA (sI g 0 p1) z) H := hP
          have hD : va_D A (mW ad kA (sI g 0 p1) z) := hD
          refine lv_aload_n hx hb dX6_configure_49 rfl (lv_at hl 0 rfl) ?_
          refine lv_iload_n hx hb dX6_configure_50 rfl (lv_at hl 2 rfl) ?_
          refine g_put F hK hP hD hS inX6 tyX6_ok nmX6 0 rfl rfl 2 (by decide) gw_578 rfl rfl rfl rfl (Nat.le_of_ble_eq_true rfl) dX6_configure_51 (fun H locs hP hD hS => ?_)
          have hP : va_P D vwCl (mW ad kA (sI (sI g 0 p1) 1 p2) z) H := hP
          have hD : va_D A (mW ad kA (sI (sI g 0 p1) 1 p2) z) := hD
          refine lv_aload_n hx hb dX6_configure_54 rfl (lv_at hl 0 rfl) ?_
          refine lv_iload_n hx hb dX6_configure_55 rfl (lv_at hl 3 rfl) ?_
          refine g_put F hK hP hD hS inX6 tyX6_ok nmX6 0 rfl rfl 3 (by decide) gw_579 rfl rfl rfl rfl (Nat.le_of_ble_eq_true rfl) dX6_configure_56 (fun H locs hP hD hS => ?_)
          have hP : va_P D vwCl (mW ad kA (sI (sI (sI g 0 p1) 1 p2) 2 p3) z) H := hP
          have hD : va_D A (mW ad kA (sI (sI (sI g 0 p1) 1 p2) 2 p3) z) := hD
          refine lv_aload_n hx hb dX6_configure_59 rfl (lv_at hl 0 rfl) ?_
          refine lv_iload hx hb dX6_configure_60 (lv_at hl 4 rfl) ?_
          refine g_put F hK hP hD hS inX6 tyX6_ok nmX6 0 rfl rfl 4 (by decide) gw_580 rfl rfl rfl rfl (Nat.le_of_ble_eq_true rfl) dX6_configure_62 (fun H locs hP hD hS => ?_)
          have hP : va_P D vwCl (mW ad kA (sI (sI (sI (sI g 0 p1) 1 p2) 2 p3) 3 p4) z) H := hP
          have hD : va_D A (mW ad kA (sI (sI (sI (sI g 0 p1) 1 p2) 2 p3) 3 p4) z) := hD
          refine lv_aload_n hx hb dX6_configure_65 rfl (lv_at hl 0 rfl) ?_
          refine cl_V_v (wc := (mW ad kA (sI (sI (sI (sI g 0 p1) 1 p2) 2 p3) 3 p4) z)) (As := []) (rest := []) (b := (ad 0)) (C := RX6) F hK hP hD hS hA (kX6_reset l D kA _ ad (sI (sI (sI (sI g 0 p1) 1 p2) 2 p3) 3 p4) z  ) gw_670 gw_71 gw_667 gw_669 gw_44 (va_recv hK.1 hP (ci := 6) (q0 := 0) rfl rfl) hdX6_reset ⟨Nat.le_of_ble_eq_true rfl, Nat.le_of_ble_eq_true rfl⟩ hl.1 rfl (Nat.le_of_ble_eq_true rfl) dX6_configure_66 ⟨Nat.le_of_ble_eq_true rfl, Nat.le_of_ble_eq_true rfl⟩ (fun u_66 H locs hw hP1 hD1 hk1 hFc hS => ?_)
          obtain rfl := hw
          have hP : va_P D vwCl (mW ad kA (sp_reset (sI (sI (sI (sI g 0 p1) 1 p2) 2 p3) 3 p4)) z) H := hP1
          have hD : va_D A (mW ad kA (sp_reset (sI (sI (sI (sI g 0 p1) 1 p2) 2 p3) 3 p4)) z) := hD1.weaken (fun _ _ _ h => hFc _ h)
          refine lv_aload_n hx hb dX6_configure_69 rfl (lv_at hl 0 rfl) ?_
          refine g_get F hK hP inX6 0 rfl rfl 0 (by decide) gw_576 rfl (v := .int (nI (gN (sp_reset (sI (sI (sI (sI g 0 p1) 1 p2) 2 p3) 3 p4)) 0))) rfl dX6_configure_70 ?_
          exact rt _ (mW ad kA (sp_reset (sI (sI (sI (sI g 0 p1) 1 p2) 2 p3) 3 p4)) z) _ _ _ _ hP hD hS dX6_configure_73 (⟨by rw [sp_configure, if_pos ⟨c_7, c_17, c_27, c_38⟩]; rfl, by rw [sp_configure, if_pos ⟨c_7, c_17, c_27, c_38⟩]⟩)
        · refine lv_bipush (v := (-104)) hx hb dX6_configure_41 (by decide) ?_
          exact rt _ (mW ad kA g z) _ _ _ _ hP hD hS dX6_configure_43 (⟨by rw [sp_configure, if_neg (fun h => c_38 h.2.2.2)], by rw [sp_configure, if_neg (fun h => c_38 h.2.2.2)]⟩)

set_option maxRecDepth 100000 in
set_option maxHeartbeats 4000000 in
theorem kX6_setCells (l : Launch) (D : va_G) (kA : Nat → ClassId) (sz : Nat) (ad : Nat → Nat) (g : Sg) (z : Zm) (p1 : Int32)  : CtI l yX6_setCells cX6_setCells 3 .int 2 D kA sz (mW ad kA g z) [.ref (ad 0), .int p1] (fun r u => r = (sp_setCells p1 g).1 ∧ u = mW ad kA (sp_setCells p1 g).2 z) := by
  refine ct_i (own := RX6) (by decide) rfl (Nat.le_of_ble_eq_true rfl) ?_
  intro p_ e_ s_ m_ ar_ bw_ me_ co_ A ls Q F hnm hK hA hP hD hS hl hsz rt
  have hx := F.1
  have hb := F.2.1
  have hl : lv_has ls 3 [(0, .ref (ad 0)), (1, .int p1)] := hl
  have hP : va_P D vwCl (mW ad kA g z) s_.heap := hP
  refine lv_iload_n hx hb dX6_setCells_0 rfl (lv_at hl 1 rfl) ?_
  refine lv_iconst (v := 1) hx hb dX6_setCells_1 (by decide) ?_
  refine lv_bipush (v := 8) hx hb dX6_setCells_2 (by decide) ?_
  refine cl_S_i (wc := []) (As := [.int p1, .int 1, .int 8]) (rest := []) F hK P_nil D_nil hS hA (kX6_within l D kA _ p1 1 8 ) gw_666 gw_71 gw_664 gw_665 hdX6_within ⟨Nat.le_of_ble_eq_true rfl, Nat.le_of_ble_eq_true rfl⟩ hl.1 rfl (Nat.le_of_ble_eq_true rfl) dX6_setCells_4 ⟨Nat.le_of_ble_eq_true rfl, Nat.le_of_ble_eq_true rfl⟩ (fun r_4 u_4 H locs hw hP1 hD1 hk1 hFc hS => ?_)
  obtain ⟨rfl, rfl⟩ := hw
  have hP := hp_non hP hk1
  refine b_bne F (P := 1 ≤ p1 ∧ p1 ≤ 8) (tgt := 13) dX6_setCells_7 (by decide) (fun c_7 => ?_) (fun c_7 => ?_)
  · obtain ⟨j, hj, rfl⟩ := nat_of (n := 8) (by decide) (Int32.le_trans (by decide) c_7.1) c_7.2
    refine lv_aload_n hx hb dX6_setCells_13 rfl (lv_at hl 0 rfl) ?_
    refine g_get F hK hP inX6 0 rfl rfl 0 (by decide) gw_576 rfl (v := .int (nI (gN g 0))) rfl dX6_setCells_14 ?_
    refine lv_istore_n (lv' := [(2, .int (nI (gN g 0))), (0, .ref (ad 0)), (1, .int (nI j))]) hx hb dX6_setCells_17 rfl hl (by decide) rfl (fun ls hl => ?_)
    refine lv_aload_n hx hb dX6_setCells_18 rfl (lv_at hl 1 rfl) ?_
    refine lv_iload_n hx hb dX6_setCells_19 rfl (lv_at hl 2 rfl) ?_
    refine g_put F hK hP hD hS inX6 tyX6_ok nmX6 0 rfl rfl 0 (by decide) gw_576 rfl rfl rfl rfl (Nat.le_of_ble_eq_true rfl) dX6_setCells_20 (fun H locs hP hD hS => ?_)
    have hP : va_P D vwCl (mW ad kA (sN g 0 j) z) H := hP
    have hD : va_D A (mW ad kA (sN g 0 j) z) := hD
    refine lv_aload_n hx hb dX6_setCells_23 rfl (lv_at hl 1 rfl) ?_
    refine cl_V_v (wc := (mW ad kA (sN g 0 j) z)) (As := []) (rest := []) (b := (ad 0)) (C := RX6) F hK hP hD hS hA (kX6_reset l D kA _ ad (sN g 0 j) z  ) gw_670 gw_71 gw_667 gw_669 gw_44 (va_recv hK.1 hP (ci := 6) (q0 := 0) rfl rfl) hdX6_reset ⟨Nat.le_of_ble_eq_true rfl, Nat.le_of_ble_eq_true rfl⟩ hl.1 rfl (Nat.le_of_ble_eq_true rfl) dX6_setCells_24 ⟨Nat.le_of_ble_eq_true rfl, Nat.le_of_ble_eq_true rfl⟩ (fun u_24 H locs hw hP1 hD1 hk1 hFc hS => ?_)
    obtain rfl := hw
    have hP : va_P D vwCl (mW ad kA (sp_reset (sN g 0 j)) z) H := hP1
    have hD : va_D A (mW ad kA (sp_reset (sN g 0 j)) z) := hD1.weaken (fun _ _ _ h => hFc _ h)
    refine lv_iload_n hx hb dX6_setCells_27 rfl (lv_at hl 0 rfl) ?_
    exact rt _ (mW ad kA (sp_reset (sN g 0 j)) z) _ _ _ _ hP hD hS dX6_setCells_28 (⟨by rw [sp_setCells, if_pos c_7], by rw [sp_setCells, if_pos c_7, nI_clamp (by omega)]⟩)
  · refine lv_bipush (v := (-104)) hx hb dX6_setCells_10 (by decide) ?_
    exact rt _ (mW ad kA g z) _ _ _ _ hP hD hS dX6_setCells_12 (⟨by rw [sp_setCells, if_neg c_7], by rw [sp_setCells, if_neg c_7]⟩)

set_option maxRecDepth 100000 in
set_option maxHeartbeats 4000000 in
theorem kX6_setTimeout (l : Launch) (D : va_G) (kA : Nat → ClassId) (sz : Nat) (ad : Nat → Nat) (g : Sg) (z : Zm) (p1 : Int32)  : CtI l yX6_setTimeout cX6_setTimeout 3 .int 1 D kA sz (mW ad kA g z) [.ref (ad 0), .int p1] (fun r u => r = (sp_setTimeout p1 g).1 ∧ u = mW ad kA (sp_setTimeout p1 g).2 z) := by
  refine ct_i (own := RX6) (by decide) rfl (Nat.le_of_ble_eq_true rfl) ?_
  intro p_ e_ s_ m_ ar_ bw_ me_ co_ A ls Q F hnm hK hA hP hD hS hl hsz rt
  have hx := F.1
  have hb := F.2.1
  have hl : lv_has ls 3 [(0, .ref (ad 0)), (1, .int p1)] := hl
  have hP : va_P D vwCl (mW ad kA g z) s_.heap := hP
  refine lv_iload_n hx hb dX6_setTimeout_0 rfl (lv_at hl 1 rfl) ?_
  refine lv_iconst (v := 1) hx hb dX6_setTimeout_1 (by decide) ?_
  refine lv_bipush (v := 20) hx hb dX6_setTimeout_2 (by decide) ?_
  refine cl_S_i (wc := []) (As := [.int p1, .int 1, .int 20]) (rest := []) F hK P_nil D_nil hS hA (kX6_within l D kA _ p1 1 20 ) gw_666 gw_71 gw_664 gw_665 hdX6_within ⟨Nat.le_of_ble_eq_true rfl, Nat.le_of_ble_eq_true rfl⟩ hl.1 rfl (Nat.le_of_ble_eq_true rfl) dX6_setTimeout_4 ⟨Nat.le_of_ble_eq_true rfl, Nat.le_of_ble_eq_true rfl⟩ (fun r_4 u_4 H locs hw hP1 hD1 hk1 hFc hS => ?_)
  obtain ⟨rfl, rfl⟩ := hw
  have hP := hp_non hP hk1
  refine b_bne F (P := 1 ≤ p1 ∧ p1 ≤ 20) (tgt := 13) dX6_setTimeout_7 (by decide) (fun c_7 => ?_) (fun c_7 => ?_)
  · refine lv_aload_n hx hb dX6_setTimeout_13 rfl (lv_at hl 0 rfl) ?_
    refine g_get F hK hP inX6 0 rfl rfl 5 (by decide) gw_581 rfl (v := .int (gI g 4)) rfl dX6_setTimeout_14 ?_
    refine lv_istore_n (lv' := [(2, .int (gI g 4)), (0, .ref (ad 0)), (1, .int p1)]) hx hb dX6_setTimeout_17 rfl hl (by decide) rfl (fun ls hl => ?_)
    refine lv_aload_n hx hb dX6_setTimeout_18 rfl (lv_at hl 1 rfl) ?_
    refine lv_iload_n hx hb dX6_setTimeout_19 rfl (lv_at hl 2 rfl) ?_
    refine g_put F hK hP hD hS inX6 tyX6_ok nmX6 0 rfl rfl 5 (by decide) gw_581 rfl rfl rfl rfl (Nat.le_of_ble_eq_true rfl) dX6_setTimeout_20 (fun H locs hP hD hS => ?_)
    have hP : va_P D vwCl (mW ad kA (sI g 4 p1) z) H := hP
    have hD : va_D A (mW ad kA (sI g 4 p1) z) := hD
    refine lv_iload_n hx hb dX6_setTimeout_23 rfl (lv_at hl 0 rfl) ?_
    exact rt _ (mW ad kA (sI g 4 p1) z) _ _ _ _ hP hD hS dX6_setTimeout_24 (⟨by rw [sp_setTimeout, if_pos c_7], by rw [sp_setTimeout, if_pos c_7]⟩)
  · refine lv_bipush (v := (-104)) hx hb dX6_setTimeout_10 (by decide) ?_
    exact rt _ (mW ad kA g z) _ _ _ _ hP hD hS dX6_setTimeout_12 (⟨by rw [sp_setTimeout, if_neg c_7], by rw [sp_setTimeout, if_neg c_7]⟩)

set_option maxRecDepth 100000 in
set_option maxHeartbeats 4000000 in
theorem kX6_isSource (l : Launch) (D : va_G) (kA : Nat → ClassId) (sz : Nat) (x : Int32)  : CtI l yX6_isSource cX6_isSource 1 .boolean 1 D kA sz ([]) [.int x] (fun r u => (r = if 0 ≤ x ∧ x ≤ 7 then 1 else 0) ∧ u = []) := by
  refine ct_z (own := RX6) (by decide) rfl (Nat.le_of_ble_eq_true rfl) ?_
  intro p_ e_ s_ m_ ar_ bw_ me_ co_ A ls Q F hnm hK hA hP hD hS hl hsz rt
  have hx := F.1
  have hb := F.2.1
  have hl : lv_has ls 1 [(0, .int x)] := hl
  have hP : va_P D vwCl ([]) s_.heap := hP
  refine lv_iload_n hx hb dX6_isSource_0 rfl (lv_at hl 0 rfl) ?_
  refine lv_iconst (v := 0) hx hb dX6_isSource_1 (by decide) ?_
  refine lv_bipush (v := 7) hx hb dX6_isSource_2 (by decide) ?_
  refine cl_S_i (wc := []) (As := [.int x, .int 0, .int 7]) (rest := []) F hK P_nil D_nil hS hA (kX6_within l D kA _ x 0 7 ) gw_666 gw_71 gw_664 gw_665 hdX6_within ⟨Nat.le_of_ble_eq_true rfl, Nat.le_of_ble_eq_true rfl⟩ hl.1 rfl (Nat.le_of_ble_eq_true rfl) dX6_isSource_4 ⟨Nat.le_of_ble_eq_true rfl, Nat.le_of_ble_eq_true rfl⟩ (fun r_4 u_4 H locs hw hP1 hD1 hk1 hFc hS => ?_)
  obtain ⟨rfl, rfl⟩ := hw
  have hP := hp_non hP hk1
  exact rt _ ([]) _ _ _ _ hP hD hS dX6_isSource_7 (nar_if _) (⟨rfl, rfl⟩)

set_option maxRecDepth 100000 in
set_option maxHeartbeats 4000000 in
theorem kX6_isDestination (l : Launch) (D : va_G) (kA : Nat → ClassId) (sz : Nat) (x : Int32)  : CtI l yX6_isDestination cX6_isDestination 1 .boolean 1 D kA sz ([]) [.int x] (fun r u => (r = if 0 ≤ x ∧ x ≤ 31 then 1 else 0) ∧ u = []) := by
  refine ct_z (own := RX6) (by decide) rfl (Nat.le_of_ble_eq_true rfl) ?_
  intro p_ e_ s_ m_ ar_ bw_ me_ co_ A ls Q F hnm hK hA hP hD hS hl hsz rt
  have hx := F.1
  have hb := F.2.1
  have hl : lv_has ls 1 [(0, .int x)] := hl
  have hP : va_P D vwCl ([]) s_.heap := hP
  refine lv_iload_n hx hb dX6_isDestination_0 rfl (lv_at hl 0 rfl) ?_
  refine lv_iconst (v := 0) hx hb dX6_isDestination_1 (by decide) ?_
  refine lv_bipush (v := 31) hx hb dX6_isDestination_2 (by decide) ?_
  refine cl_S_i (wc := []) (As := [.int x, .int 0, .int 31]) (rest := []) F hK P_nil D_nil hS hA (kX6_within l D kA _ x 0 31 ) gw_666 gw_71 gw_664 gw_665 hdX6_within ⟨Nat.le_of_ble_eq_true rfl, Nat.le_of_ble_eq_true rfl⟩ hl.1 rfl (Nat.le_of_ble_eq_true rfl) dX6_isDestination_4 ⟨Nat.le_of_ble_eq_true rfl, Nat.le_of_ble_eq_true rfl⟩ (fun r_4 u_4 H locs hw hP1 hD1 hk1 hFc hS => ?_)
  obtain ⟨rfl, rfl⟩ := hw
  have hP := hp_non hP hk1
  exact rt _ ([]) _ _ _ _ hP hD hS dX6_isDestination_7 (nar_if _) (⟨rfl, rfl⟩)

set_option maxRecDepth 100000 in
set_option maxHeartbeats 4000000 in
theorem kX6_isCell (l : Launch) (D : va_G) (kA : Nat → ClassId) (sz : Nat) (ad : Nat → Nat) (g : Sg) (z : Zm) (x : Int32)  : CtI l yX6_isCell cX6_isCell 2 .boolean 1 D kA sz (mW ad kA g z) [.ref (ad 0), .int x] (fun r u => (r = if 0 ≤ x ∧ x ≤ nI (gN g 0) - 1 then 1 else 0) ∧ u = mW ad kA g z) := by
  refine ct_z (own := RX6) (by decide) rfl (Nat.le_of_ble_eq_true rfl) ?_
  intro p_ e_ s_ m_ ar_ bw_ me_ co_ A ls Q F hnm hK hA hP hD hS hl hsz rt
  have hx := F.1
  have hb := F.2.1
  have hl : lv_has ls 2 [(0, .ref (ad 0)), (1, .int x)] := hl
  have hP : va_P D vwCl (mW ad kA g z) s_.heap := hP
  refine lv_iload_n hx hb dX6_isCell_0 rfl (lv_at hl 1 rfl) ?_
  refine lv_iconst (v := 0) hx hb dX6_isCell_1 (by decide) ?_
  refine lv_aload_n hx hb dX6_isCell_2 rfl (lv_at hl 0 rfl) ?_
  refine g_get F hK hP inX6 0 rfl rfl 0 (by decide) gw_576 rfl (v := .int (nI (gN g 0))) rfl dX6_isCell_3 ?_
  refine lv_iconst (v := 1) hx hb dX6_isCell_6 (by decide) ?_
  refine lv_isub hx hb dX6_isCell_7 ?_
  refine cl_S_i (wc := []) (As := [.int x, .int 0, .int ((nI (gN g 0)) - 1)]) (rest := []) F hK P_nil D_nil hS hA (kX6_within l D kA _ x 0 ((nI (gN g 0)) - 1) ) gw_666 gw_71 gw_664 gw_665 hdX6_within ⟨Nat.le_of_ble_eq_true rfl, Nat.le_of_ble_eq_true rfl⟩ hl.1 rfl (Nat.le_of_ble_eq_true rfl) dX6_isCell_8 ⟨Nat.le_of_ble_eq_true rfl, Nat.le_of_ble_eq_true rfl⟩ (fun r_8 u_8 H locs hw hP1 hD1 hk1 hFc hS => ?_)
  obtain ⟨rfl, rfl⟩ := hw
  have hP := hp_non hP hk1
  exact rt _ (mW ad kA g z) _ _ _ _ hP hD hS dX6_isCell_11 (nar_if _) (⟨rfl, rfl⟩)

set_option maxRecDepth 100000 in
set_option maxHeartbeats 4000000 in
theorem kX6_areRight (l : Launch) (D : va_G) (kA : Nat → ClassId) (sz : Nat) (x y : Int32)  : CtI l yX6_areRight cX6_areRight 2 .boolean 1 D kA sz ([]) [.int x, .int y] (fun r u => (r = if (0 ≤ x ∧ x ≤ 100) ∧ (0 ≤ y ∧ y ≤ 60) then 1 else 0) ∧ u = []) := by
  refine ct_z (own := RX6) (by decide) rfl (Nat.le_of_ble_eq_true rfl) ?_
  intro p_ e_ s_ m_ ar_ bw_ me_ co_ A ls Q F hnm hK hA hP hD hS hl hsz rt
  have hx := F.1
  have hb := F.2.1
  have hl : lv_has ls 2 [(0, .int x), (1, .int y)] := hl
  have hP : va_P D vwCl ([]) s_.heap := hP
  refine lv_iload_n hx hb dX6_areRight_0 rfl (lv_at hl 0 rfl) ?_
  refine lv_iconst (v := 0) hx hb dX6_areRight_1 (by decide) ?_
  refine lv_bipush (v := 100) hx hb dX6_areRight_2 (by decide) ?_
  refine cl_S_i (wc := []) (As := [.int x, .int 0, .int 100]) (rest := []) F hK P_nil D_nil hS hA (kX6_within l D kA _ x 0 100 ) gw_666 gw_71 gw_664 gw_665 hdX6_within ⟨Nat.le_of_ble_eq_true rfl, Nat.le_of_ble_eq_true rfl⟩ hl.1 rfl (Nat.le_of_ble_eq_true rfl) dX6_areRight_4 ⟨Nat.le_of_ble_eq_true rfl, Nat.le_of_ble_eq_true rfl⟩ (fun r_4 u_4 H locs hw hP1 hD1 hk1 hFc hS => ?_)
  obtain ⟨rfl, rfl⟩ := hw
  have hP := hp_non hP hk1
  refine b_beq F (P := 0 ≤ x ∧ x ≤ 100) (tgt := 24) dX6_areRight_7 (by decide) (fun c_7 => ?_) (fun c_7 => ?_)
  · refine lv_iconst (v := 0) hx hb dX6_areRight_24 (by decide) ?_
    exact rt _ ([]) _ _ _ _ hP hD hS dX6_areRight_25 rfl (⟨(if_neg (fun h => c_7 h.1)).symm, rfl⟩)
  · refine lv_iload_n hx hb dX6_areRight_10 rfl (lv_at hl 1 rfl) ?_
    refine lv_iconst (v := 0) hx hb dX6_areRight_11 (by decide) ?_
    refine lv_bipush (v := 60) hx hb dX6_areRight_12 (by decide) ?_
    refine cl_S_i (wc := []) (As := [.int y, .int 0, .int 60]) (rest := []) F hK P_nil D_nil hS hA (kX6_within l D kA _ y 0 60 ) gw_666 gw_71 gw_664 gw_665 hdX6_within ⟨Nat.le_of_ble_eq_true rfl, Nat.le_of_ble_eq_true rfl⟩ hl.1 rfl (Nat.le_of_ble_eq_true rfl) dX6_areRight_14 ⟨Nat.le_of_ble_eq_true rfl, Nat.le_of_ble_eq_true rfl⟩ (fun r_14 u_14 H locs hw hP1 hD1 hk1 hFc hS => ?_)
    obtain ⟨rfl, rfl⟩ := hw
    have hP := hp_non hP hk1
    refine b_beq F (P := 0 ≤ y ∧ y ≤ 60) (tgt := 24) dX6_areRight_17 (by decide) (fun c_17 => ?_) (fun c_17 => ?_)
    · refine lv_iconst (v := 0) hx hb dX6_areRight_24 (by decide) ?_
      exact rt _ ([]) _ _ _ _ hP hD hS dX6_areRight_25 rfl (⟨(if_neg (fun h => c_17 h.2)).symm, rfl⟩)
    · refine lv_iconst (v := 1) hx hb dX6_areRight_20 (by decide) ?_
      refine lv_goto (tgt := 25) hx hb dX6_areRight_21 (by decide) ?_
      exact rt _ ([]) _ _ _ _ hP hD hS dX6_areRight_25 rfl (⟨(if_pos ⟨c_7, c_17⟩).symm, rfl⟩)

set_option maxRecDepth 100000 in
set_option maxHeartbeats 4000000 in
theorem kX6_cellOf (l : Launch) (D : va_G) (kA : Nat → ClassId) (sz : Nat) (ad : Nat → Nat) (g : Sg) (z : Zm) (p1 : Int32) (hI : Inv g) : CtI l yX6_cellOf cX6_cellOf 2 .int 2 D kA sz (mW ad kA g z) [.ref (ad 0), .int p1] (fun r u => r = sp_cellOf p1 g ∧ u = mW ad kA g z) := by
  refine ct_i (own := RX6) (by decide) rfl (Nat.le_of_ble_eq_true rfl) ?_
  intro p_ e_ s_ m_ ar_ bw_ me_ co_ A ls Q F hnm hK hA hP hD hS hl hsz rt
  have hx := F.1
  have hb := F.2.1
  have hl : lv_has ls 2 [(0, .ref (ad 0)), (1, .int p1)] := hl
  have hP : va_P D vwCl (mW ad kA g z) s_.heap := hP
  obtain ⟨⟨hc1, hc2⟩, ha, hn, hu, hd, hup, hlo, hso, hv⟩ := id hI
  refine lv_iload_n hx hb dX6_cellOf_0 rfl (lv_at hl 1 rfl) ?_
  refine cl_S_i (wc := []) (As := [.int p1]) (rest := []) F hK P_nil D_nil hS hA (kX6_isSource l D kA _ p1 ) gw_685 gw_71 gw_683 gw_684 hdX6_isSource ⟨Nat.le_of_ble_eq_true rfl, Nat.le_of_ble_eq_true rfl⟩ hl.1 rfl (Nat.le_of_ble_eq_true rfl) dX6_cellOf_1 ⟨Nat.le_of_ble_eq_true rfl, Nat.le_of_ble_eq_true rfl⟩ (fun r_1 u_1 H locs hw hP1 hD1 hk1 hFc hS => ?_)
  obtain ⟨rfl, rfl⟩ := hw
  have hP := hp_non hP hk1
  refine b_beq F (P := 0 ≤ p1 ∧ p1 ≤ 7) (tgt := 16) dX6_cellOf_4 (by decide) (fun c_4 => ?_) (fun c_4 => ?_)
  · refine lv_bipush (v := (-105)) hx hb dX6_cellOf_16 (by decide) ?_
    exact rt _ (mW ad kA g z) _ _ _ _ hP hD hS dX6_cellOf_18 (⟨by rw [sp_cellOf, if_neg c_4], rfl⟩)
  · obtain ⟨j, hj, rfl⟩ := nat_of (n := 7) (by decide) c_4.1 c_4.2
    refine lv_iload_n hx hb dX6_cellOf_7 rfl (lv_at hl 1 rfl) ?_
    refine lv_aload_n hx hb dX6_cellOf_8 rfl (lv_at hl 0 rfl) ?_
    refine g_get F hK hP inX6 0 rfl rfl 0 (by decide) gw_576 rfl (v := .int (nI (gN g 0))) rfl dX6_cellOf_9 ?_
    refine n_rem F (a := j) (b := gN g 0) dX6_cellOf_12 (by omega) (by omega) (by omega) ?_
    refine lv_goto (tgt := 18) hx hb dX6_cellOf_13 (by decide) ?_
    exact rt _ (mW ad kA g z) _ _ _ _ hP hD hS dX6_cellOf_18 (⟨by rw [sp_cellOf, if_pos c_4, nI_clamp (by omega)], rfl⟩)

set_option maxRecDepth 100000 in
set_option maxHeartbeats 4000000 in
theorem kX6_score (l : Launch) (D : va_G) (kA : Nat → ClassId) (sz : Nat) (ad : Nat → Nat) (g : Sg) (z : Zm) (p1 : Int32) (hI : Inv g) : CtI l yX6_score cX6_score 2 .int 2 D kA sz (mW ad kA g z) [.ref (ad 0), .int p1] (fun r u => r = sp_at 0 p1 g ∧ u = mW ad kA g z) := by
  refine ct_i (own := RX6) (by decide) rfl (Nat.le_of_ble_eq_true rfl) ?_
  intro p_ e_ s_ m_ ar_ bw_ me_ co_ A ls Q F hnm hK hA hP hD hS hl hsz rt
  have hx := F.1
  have hb := F.2.1
  have hl : lv_has ls 2 [(0, .ref (ad 0)), (1, .int p1)] := hl
  have hP : va_P D vwCl (mW ad kA g z) s_.heap := hP
  obtain ⟨⟨hc1, hc2⟩, ha, hn, hu, hd, hup, hlo, hso, hv⟩ := id hI
  refine lv_aload_n hx hb dX6_score_0 rfl (lv_at hl 0 rfl) ?_
  refine lv_iload_n hx hb dX6_score_1 rfl (lv_at hl 1 rfl) ?_
  refine cl_V_i (wc := (mW ad kA g z)) (As := [.int p1]) (rest := []) (b := (ad 0)) (C := RX6) F hK hP hD hS hA (kX6_isCell l D kA _ ad g z p1 ) gw_744 gw_71 gw_741 gw_743 gw_54 (va_recv hK.1 hP (ci := 6) (q0 := 0) rfl rfl) hdX6_isCell ⟨Nat.le_of_ble_eq_true rfl, Nat.le_of_ble_eq_true rfl⟩ hl.1 rfl (Nat.le_of_ble_eq_true rfl) dX6_score_2 ⟨Nat.le_of_ble_eq_true rfl, Nat.le_of_ble_eq_true rfl⟩ (fun r_2 u_2 H locs hw hP1 hD1 hk1 hFc hS => ?_)
  obtain ⟨rfl, rfl⟩ := hw
  have hP : va_P D vwCl (mW ad kA g z) H := hP1
  have hD : va_D A (mW ad kA g z) := hD1.weaken (fun _ _ _ h => hFc _ h)
  refine b_beq F (P := 0 ≤ p1 ∧ p1 ≤ nI (gN g 0) - 1) (tgt := 17) dX6_score_5 (by decide) (fun c_5 => ?_) (fun c_5 => ?_)
  · refine lv_bipush (v := (-107)) hx hb dX6_score_17 (by decide) ?_
    exact rt _ (mW ad kA g z) _ _ _ _ hP hD hS dX6_score_19 (⟨by rw [sp_at, if_neg c_5], rfl⟩)
  · obtain ⟨j, hj, rfl⟩ := nat_lt (by omega) c_5.1 c_5.2
    refine lv_aload_n hx hb dX6_score_8 rfl (lv_at hl 0 rfl) ?_
    refine g_get F hK hP inX6 0 rfl rfl 7 (by decide) gw_583 rfl (v := .ref (ad 1)) rfl dX6_score_9 ?_
    refine lv_iload_n hx hb dX6_score_12 rfl (lv_at hl 1 rfl) ?_
    refine a_ild F hK hP 1 (f := gR g 0) rfl (j := j) (by omega) (by decide) dX6_score_13 ?_
    refine lv_goto (tgt := 19) hx hb dX6_score_14 (by decide) ?_
    exact rt _ (mW ad kA g z) _ _ _ _ hP hD hS dX6_score_19 (⟨by rw [sp_at, if_pos c_5, nI_clamp (by omega)], rfl⟩)

set_option maxRecDepth 100000 in
set_option maxHeartbeats 4000000 in
theorem kX6_blockedContacts (l : Launch) (D : va_G) (kA : Nat → ClassId) (sz : Nat) (ad : Nat → Nat) (g : Sg) (z : Zm) (p1 : Int32) (hI : Inv g) : CtI l yX6_blockedContacts cX6_blockedContacts 2 .int 2 D kA sz (mW ad kA g z) [.ref (ad 0), .int p1] (fun r u => r = sp_at 2 p1 g ∧ u = mW ad kA g z) := by
  refine ct_i (own := RX6) (by decide) rfl (Nat.le_of_ble_eq_true rfl) ?_
  intro p_ e_ s_ m_ ar_ bw_ me_ co_ A ls Q F hnm hK hA hP hD hS hl hsz rt
  have hx := F.1
  have hb := F.2.1
  have hl : lv_has ls 2 [(0, .ref (ad 0)), (1, .int p1)] := hl
  have hP : va_P D vwCl (mW ad kA g z) s_.heap := hP
  obtain ⟨⟨hc1, hc2⟩, ha, hn, hu, hd, hup, hlo, hso, hv⟩ := id hI
  refine lv_aload_n hx hb dX6_blockedContacts_0 rfl (lv_at hl 0 rfl) ?_
  refine lv_iload_n hx hb dX6_blockedContacts_1 rfl (lv_at hl 1 rfl) ?_
  refine cl_V_i (wc := (mW ad kA g z)) (As := [.int p1]) (rest := []) (b := (ad 0)) (C := RX6) F hK hP hD hS hA (kX6_isCell l D kA _ ad g z p1 ) gw_744 gw_71 gw_741 gw_743 gw_54 (va_recv hK.1 hP (ci := 6) (q0 := 0) rfl rfl) hdX6_isCell ⟨Nat.le_of_ble_eq_true rfl, Nat.le_of_ble_eq_true rfl⟩ hl.1 rfl (Nat.le_of_ble_eq_true rfl) dX6_blockedContacts_2 ⟨Nat.le_of_ble_eq_true rfl, Nat.le_of_ble_eq_true rfl⟩ (fun r_2 u_2 H locs hw hP1 hD1 hk1 hFc hS => ?_)
  obtain ⟨rfl, rfl⟩ := hw
  have hP : va_P D vwCl (mW ad kA g z) H := hP1
  have hD : va_D A (mW ad kA g z) := hD1.weaken (fun _ _ _ h => hFc _ h)
  refine b_beq F (P := 0 ≤ p1 ∧ p1 ≤ nI (gN g 0) - 1) (tgt := 17) dX6_blockedContacts_5 (by decide) (fun c_5 => ?_) (fun c_5 => ?_)
  · refine lv_bipush (v := (-107)) hx hb dX6_blockedContacts_17 (by decide) ?_
    exact rt _ (mW ad kA g z) _ _ _ _ hP hD hS dX6_blockedContacts_19 (⟨by rw [sp_at, if_neg c_5], rfl⟩)
  · obtain ⟨j, hj, rfl⟩ := nat_lt (by omega) c_5.1 c_5.2
    refine lv_aload_n hx hb dX6_blockedContacts_8 rfl (lv_at hl 0 rfl) ?_
    refine g_get F hK hP inX6 0 rfl rfl 10 (by decide) gw_586 rfl (v := .ref (ad 4)) rfl dX6_blockedContacts_9 ?_
    refine lv_iload_n hx hb dX6_blockedContacts_12 rfl (lv_at hl 1 rfl) ?_
    refine a_ild F hK hP 4 (f := gR g 2) rfl (j := j) (by omega) (by decide) dX6_blockedContacts_13 ?_
    refine lv_goto (tgt := 19) hx hb dX6_blockedContacts_14 (by decide) ?_
    exact rt _ (mW ad kA g z) _ _ _ _ hP hD hS dX6_blockedContacts_19 (⟨by rw [sp_at, if_pos c_5, nI_clamp (by omega)], rfl⟩)

set_option maxRecDepth 100000 in
set_option maxHeartbeats 4000000 in
theorem kX6_wronglyBlocked (l : Launch) (D : va_G) (kA : Nat → ClassId) (sz : Nat) (ad : Nat → Nat) (g : Sg) (z : Zm) (p1 : Int32) (hI : Inv g) : CtI l yX6_wronglyBlocked cX6_wronglyBlocked 2 .int 2 D kA sz (mW ad kA g z) [.ref (ad 0), .int p1] (fun r u => r = sp_at 3 p1 g ∧ u = mW ad kA g z) := by
  refine ct_i (own := RX6) (by decide) rfl (Nat.le_of_ble_eq_true rfl) ?_
  intro p_ e_ s_ m_ ar_ bw_ me_ co_ A ls Q F hnm hK hA hP hD hS hl hsz rt
  have hx := F.1
  have hb := F.2.1
  have hl : lv_has ls 2 [(0, .ref (ad 0)), (1, .int p1)] := hl
  have hP : va_P D vwCl (mW ad kA g z) s_.heap := hP
  obtain ⟨⟨hc1, hc2⟩, ha, hn, hu, hd, hup, hlo, hso, hv⟩ := id hI
  refine lv_aload_n hx hb dX6_wronglyBlocked_0 rfl (lv_at hl 0 rfl) ?_
  refine lv_iload_n hx hb dX6_wronglyBlocked_1 rfl (lv_at hl 1 rfl) ?_
  refine cl_V_i (wc := (mW ad kA g z)) (As := [.int p1]) (rest := []) (b := (ad 0)) (C := RX6) F hK hP hD hS hA (kX6_isCell l D kA _ ad g z p1 ) gw_744 gw_71 gw_741 gw_743 gw_54 (va_recv hK.1 hP (ci := 6) (q0 := 0) rfl rfl) hdX6_isCell ⟨Nat.le_of_ble_eq_true rfl, Nat.le_of_ble_eq_true rfl⟩ hl.1 rfl (Nat.le_of_ble_eq_true rfl) dX6_wronglyBlocked_2 ⟨Nat.le_of_ble_eq_true rfl, Nat.le_of_ble_eq_true rfl⟩ (fun r_2 u_2 H locs hw hP1 hD1 hk1 hFc hS => ?_)
  obtain ⟨rfl, rfl⟩ := hw
  have hP : va_P D vwCl (mW ad kA g z) H := hP1
  have hD : va_D A (mW ad kA g z) := hD1.weaken (fun _ _ _ h => hFc _ h)
  refine b_beq F (P := 0 ≤ p1 ∧ p1 ≤ nI (gN g 0) - 1) (tgt := 17) dX6_wronglyBlocked_5 (by decide) (fun c_5 => ?_) (fun c_5 => ?_)
  · refine lv_bipush (v := (-107)) hx hb dX6_wronglyBlocked_17 (by decide) ?_
    exact rt _ (mW ad kA g z) _ _ _ _ hP hD hS dX6_wronglyBlocked_19 (⟨by rw [sp_at, if_neg c_5], rfl⟩)
  · obtain ⟨j, hj, rfl⟩ := nat_lt (by omega) c_5.1 c_5.2
    refine lv_aload_n hx hb dX6_wronglyBlocked_8 rfl (lv_at hl 0 rfl) ?_
    refine g_get F hK hP inX6 0 rfl rfl 11 (by decide) gw_587 rfl (v := .ref (ad 5)) rfl dX6_wronglyBlocked_9 ?_
    refine lv_iload_n hx hb dX6_wronglyBlocked_12 rfl (lv_at hl 1 rfl) ?_
    refine a_ild F hK hP 5 (f := gR g 3) rfl (j := j) (by omega) (by decide) dX6_wronglyBlocked_13 ?_
    refine lv_goto (tgt := 19) hx hb dX6_wronglyBlocked_14 (by decide) ?_
    exact rt _ (mW ad kA g z) _ _ _ _ hP hD hS dX6_wronglyBlocked_19 (⟨by rw [sp_at, if_pos c_5, nI_clamp (by omega)], rfl⟩)

set_option maxRecDepth 100000 in
set_option maxHeartbeats 4000000 in
theorem kX6_seenDestinations (l : Launch) (D : va_G) (kA : Nat → ClassId) (sz : Nat) (ad : Nat → Nat) (g : Sg) (z : Zm) (p1 : Int32) (hI : Inv g) : CtL l yX6_seenDestinations cX6_seenDestinations 2 .long 2 D kA sz (mW ad kA g z) [.ref (ad 0), .int p1] (fun r u => r = sp_seen p1 g ∧ u = mW ad kA g z) := by
  refine ct_l (own := RX6) (by decide) rfl (Nat.le_of_ble_eq_true rfl) ?_
  intro p_ e_ s_ m_ ar_ bw_ me_ co_ A ls Q F hnm hK hA hP hD hS hl hsz rt
  have hx := F.1
  have hb := F.2.1
  have hl : lv_has ls 2 [(0, .ref (ad 0)), (1, .int p1)] := hl
  have hP : va_P D vwCl (mW ad kA g z) s_.heap := hP
  obtain ⟨⟨hc1, hc2⟩, ha, hn, hu, hd, hup, hlo, hso, hv⟩ := id hI
  refine lv_aload_n hx hb dX6_seenDestinations_0 rfl (lv_at hl 0 rfl) ?_
  refine lv_iload_n hx hb dX6_seenDestinations_1 rfl (lv_at hl 1 rfl) ?_
  refine cl_V_i (wc := (mW ad kA g z)) (As := [.int p1]) (rest := []) (b := (ad 0)) (C := RX6) F hK hP hD hS hA (kX6_isCell l D kA _ ad g z p1 ) gw_744 gw_71 gw_741 gw_743 gw_54 (va_recv hK.1 hP (ci := 6) (q0 := 0) rfl rfl) hdX6_isCell ⟨Nat.le_of_ble_eq_true rfl, Nat.le_of_ble_eq_true rfl⟩ hl.1 rfl (Nat.le_of_ble_eq_true rfl) dX6_seenDestinations_2 ⟨Nat.le_of_ble_eq_true rfl, Nat.le_of_ble_eq_true rfl⟩ (fun r_2 u_2 H locs hw hP1 hD1 hk1 hFc hS => ?_)
  obtain ⟨rfl, rfl⟩ := hw
  have hP : va_P D vwCl (mW ad kA g z) H := hP1
  have hD : va_D A (mW ad kA g z) := hD1.weaken (fun _ _ _ h => hFc _ h)
  refine b_beq F (P := 0 ≤ p1 ∧ p1 ≤ nI (gN g 0) - 1) (tgt := 17) dX6_seenDestinations_5 (by decide) (fun c_5 => ?_) (fun c_5 => ?_)
  · refine lv_ldc2 (v := (-107)) hx hb F.2.2.2.1 (F.2.2.2.2 _ gw_785) dX6_seenDestinations_17 ?_
    exact rt _ (mW ad kA g z) _ _ _ _ hP hD hS dX6_seenDestinations_20 (⟨by rw [sp_seen, if_neg c_5], rfl⟩)
  · obtain ⟨j, hj, rfl⟩ := nat_lt (by omega) c_5.1 c_5.2
    refine lv_aload_n hx hb dX6_seenDestinations_8 rfl (lv_at hl 0 rfl) ?_
    refine g_get F hK hP inX6 0 rfl rfl 9 (by decide) gw_585 rfl (v := .ref (ad 3)) rfl dX6_seenDestinations_9 ?_
    refine lv_iload_n hx hb dX6_seenDestinations_12 rfl (lv_at hl 1 rfl) ?_
    refine a_lld F hK hP 3 (f := gE g) rfl (j := j) (by omega) (by decide) dX6_seenDestinations_13 ?_
    refine lv_goto (tgt := 20) hx hb dX6_seenDestinations_14 (by decide) ?_
    exact rt _ (mW ad kA g z) _ _ _ _ hP hD hS dX6_seenDestinations_20 (⟨by rw [sp_seen, if_pos c_5, nI_clamp (by omega)], rfl⟩)

set_option maxRecDepth 100000 in
set_option maxHeartbeats 4000000 in
theorem kX6_isBlocked (l : Launch) (D : va_G) (kA : Nat → ClassId) (sz : Nat) (ad : Nat → Nat) (g : Sg) (z : Zm) (p1 : Int32) (hI : Inv g) : CtI l yX6_isBlocked cX6_isBlocked 2 .int 2 D kA sz (mW ad kA g z) [.ref (ad 0), .int p1] (fun r u => r = sp_isB p1 g ∧ u = mW ad kA g z) := by
  refine ct_i (own := RX6) (by decide) rfl (Nat.le_of_ble_eq_true rfl) ?_
  intro p_ e_ s_ m_ ar_ bw_ me_ co_ A ls Q F hnm hK hA hP hD hS hl hsz rt
  have hx := F.1
  have hb := F.2.1
  have hl : lv_has ls 2 [(0, .ref (ad 0)), (1, .int p1)] := hl
  have hP : va_P D vwCl (mW ad kA g z) s_.heap := hP
  obtain ⟨⟨hc1, hc2⟩, ha, hn, hu, hd, hup, hlo, hso, hv⟩ := id hI
  refine lv_aload_n hx hb dX6_isBlocked_0 rfl (lv_at hl 0 rfl) ?_
  refine lv_iload_n hx hb dX6_isBlocked_1 rfl (lv_at hl 1 rfl) ?_
  refine cl_V_i (wc := (mW ad kA g z)) (As := [.int p1]) (rest := []) (b := (ad 0)) (C := RX6) F hK hP hD hS hA (kX6_isCell l D kA _ ad g z p1 ) gw_744 gw_71 gw_741 gw_743 gw_54 (va_recv hK.1 hP (ci := 6) (q0 := 0) rfl rfl) hdX6_isCell ⟨Nat.le_of_ble_eq_true rfl, Nat.le_of_ble_eq_true rfl⟩ hl.1 rfl (Nat.le_of_ble_eq_true rfl) dX6_isBlocked_2 ⟨Nat.le_of_ble_eq_true rfl, Nat.le_of_ble_eq_true rfl⟩ (fun r_2 u_2 H locs hw hP1 hD1 hk1 hFc hS => ?_)
  obtain ⟨rfl, rfl⟩ := hw
  have hP : va_P D vwCl (mW ad kA g z) H := hP1
  have hD : va_D A (mW ad kA g z) := hD1.weaken (fun _ _ _ h => hFc _ h)
  refine b_bne F (P := 0 ≤ p1 ∧ p1 ≤ nI (gN g 0) - 1) (tgt := 13) dX6_isBlocked_5 (by decide) (fun c_5 => ?_) (fun c_5 => ?_)
  · obtain ⟨j, hj, rfl⟩ := nat_lt (by omega) c_5.1 c_5.2
    refine lv_aload_n hx hb dX6_isBlocked_13 rfl (lv_at hl 0 rfl) ?_
    refine g_get F hK hP inX6 0 rfl rfl 8 (by decide) gw_584 rfl (v := .ref (ad 2)) rfl dX6_isBlocked_14 ?_
    refine lv_iload_n hx hb dX6_isBlocked_17 rfl (lv_at hl 1 rfl) ?_
    refine a_zld F hK hP 2 (f := gR g 1) rfl (j := j) (by omega) (by decide) dX6_isBlocked_18 ?_
    refine lv_if_eq (tgt := 26) hx hb dX6_isBlocked_19 (by decide) (fun c_19 => ?_) (fun c_19 => ?_)
    · refine lv_iconst (v := 0) hx hb dX6_isBlocked_26 (by decide) ?_
      exact rt _ (mW ad kA g z) _ _ _ _ hP hD hS dX6_isBlocked_27 (⟨by rw [sp_isB, if_pos c_5, nI_clamp (by omega), if_pos c_19], rfl⟩)
    · refine lv_iconst (v := 1) hx hb dX6_isBlocked_22 (by decide) ?_
      refine lv_goto (tgt := 27) hx hb dX6_isBlocked_23 (by decide) ?_
      exact rt _ (mW ad kA g z) _ _ _ _ hP hD hS dX6_isBlocked_27 (⟨by rw [sp_isB, if_pos c_5, nI_clamp (by omega), if_neg c_19], rfl⟩)
  · refine lv_bipush (v := (-107)) hx hb dX6_isBlocked_8 (by decide) ?_
    refine lv_goto (tgt := 27) hx hb dX6_isBlocked_10 (by decide) ?_
    exact rt _ (mW ad kA g z) _ _ _ _ hP hD hS dX6_isBlocked_27 (⟨by rw [sp_isB, if_neg c_5], rfl⟩)

set_option maxRecDepth 100000 in
set_option maxHeartbeats 4000000 in
theorem kX6_attemptCount (l : Launch) (D : va_G) (kA : Nat → ClassId) (sz : Nat) (ad : Nat → Nat) (g : Sg) (z : Zm)  : CtI l yX6_attemptCount cX6_attemptCount 1 .int 0 D kA sz (mW ad kA g z) [.ref (ad 0)] (fun r u => r = nI (gN g 1) ∧ u = mW ad kA g z) := by
  refine ct_i (own := RX6) (by decide) rfl (Nat.le_of_ble_eq_true rfl) ?_
  intro p_ e_ s_ m_ ar_ bw_ me_ co_ A ls Q F hnm hK hA hP hD hS hl hsz rt
  have hx := F.1
  have hb := F.2.1
  have hl : lv_has ls 1 [(0, .ref (ad 0))] := hl
  have hP : va_P D vwCl (mW ad kA g z) s_.heap := hP
  refine lv_aload_n hx hb dX6_attemptCount_0 rfl (lv_at hl 0 rfl) ?_
  refine g_get F hK hP inX6 0 rfl rfl 12 (by decide) gw_588 rfl (v := .int (nI (gN g 1))) rfl dX6_attemptCount_1 ?_
  exact rt _ (mW ad kA g z) _ _ _ _ hP hD hS dX6_attemptCount_4 (⟨rfl, rfl⟩)

set_option maxRecDepth 100000 in
set_option maxHeartbeats 4000000 in
theorem kX6_clock (l : Launch) (D : va_G) (kA : Nat → ClassId) (sz : Nat) (ad : Nat → Nat) (g : Sg) (z : Zm)  : CtI l yX6_clock cX6_clock 1 .int 0 D kA sz (mW ad kA g z) [.ref (ad 0)] (fun r u => r = gI g 5 ∧ u = mW ad kA g z) := by
  refine ct_i (own := RX6) (by decide) rfl (Nat.le_of_ble_eq_true rfl) ?_
  intro p_ e_ s_ m_ ar_ bw_ me_ co_ A ls Q F hnm hK hA hP hD hS hl hsz rt
  have hx := F.1
  have hb := F.2.1
  have hl : lv_has ls 1 [(0, .ref (ad 0))] := hl
  have hP : va_P D vwCl (mW ad kA g z) s_.heap := hP
  refine lv_aload_n hx hb dX6_clock_0 rfl (lv_at hl 0 rfl) ?_
  refine g_get F hK hP inX6 0 rfl rfl 6 (by decide) gw_582 rfl (v := .int (gI g 5)) rfl dX6_clock_1 ?_
  exact rt _ (mW ad kA g z) _ _ _ _ hP hD hS dX6_clock_4 (⟨rfl, rfl⟩)

set_option maxRecDepth 100000 in
set_option maxHeartbeats 4000000 in
theorem kX6_verdictCount (l : Launch) (D : va_G) (kA : Nat → ClassId) (sz : Nat) (ad : Nat → Nat) (g : Sg) (z : Zm)  : CtI l yX6_verdictCount cX6_verdictCount 1 .int 0 D kA sz (mW ad kA g z) [.ref (ad 0)] (fun r u => r = nI (gV g).length ∧ u = mW ad kA g z) := by
  refine ct_i (own := RX6) (by decide) rfl (Nat.le_of_ble_eq_true rfl) ?_
  intro p_ e_ s_ m_ ar_ bw_ me_ co_ A ls Q F hnm hK hA hP hD hS hl hsz rt
  have hx := F.1
  have hb := F.2.1
  have hl : lv_has ls 1 [(0, .ref (ad 0))] := hl
  have hP : va_P D vwCl (mW ad kA g z) s_.heap := hP
  refine lv_aload_n hx hb dX6_verdictCount_0 rfl (lv_at hl 0 rfl) ?_
  refine g_get F hK hP inX6 0 rfl rfl 16 (by decide) gw_592 rfl (v := .int (nI ((gV g).length))) rfl dX6_verdictCount_1 ?_
  exact rt _ (mW ad kA g z) _ _ _ _ hP hD hS dX6_verdictCount_4 (⟨rfl, rfl⟩)

set_option maxRecDepth 100000 in
set_option maxHeartbeats 4000000 in
theorem kX6_described (l : Launch) (D : va_G) (kA : Nat → ClassId) (sz : Nat) (ad : Nat → Nat) (g : Sg) (z : Zm) (j : Nat) (hj : j < 12) : CtI l yX6_described cX6_described 2 .int 0 D kA sz (mW ad kA g z) [.ref (ad 0), .int (nI j)] (fun r u => r = desA j g ∧ u = mW ad kA g z) := by
  refine ct_i (own := RX6) (by decide) rfl (Nat.le_of_ble_eq_true rfl) ?_
  intro p_ e_ s_ m_ ar_ bw_ me_ co_ A ls Q F hnm hK hA hP hD hS hl hsz rt
  have hx := F.1
  have hb := F.2.1
  have hl : lv_has ls 2 [(0, .ref (ad 0)), (1, .int (nI j))] := hl
  have hP : va_P D vwCl (mW ad kA g z) s_.heap := hP
  refine lv_sipush (v := 1000) hx hb dX6_described_0 (by decide) ?_
  refine lv_aload_n hx hb dX6_described_3 rfl (lv_at hl 0 rfl) ?_
  refine g_get F hK hP inX6 0 rfl rfl 15 (by decide) gw_591 rfl (v := .ref (ad 8)) rfl dX6_described_4 ?_
  refine lv_iload_n hx hb dX6_described_7 rfl (lv_at hl 1 rfl) ?_
  refine a_ild F hK hP 8 (f := gR g 6) rfl (j := j) (by omega) (by decide) dX6_described_8 ?_
  refine lv_aload_n hx hb dX6_described_9 rfl (lv_at hl 0 rfl) ?_
  refine g_get F hK hP inX6 0 rfl rfl 6 (by decide) gw_582 rfl (v := .int (gI g 5)) rfl dX6_described_10 ?_
  refine lv_isub hx hb dX6_described_13 ?_
  refine lv_imul hx hb dX6_described_14 ?_
  refine lv_bipush (v := 100) hx hb dX6_described_15 (by decide) ?_
  refine lv_aload_n hx hb dX6_described_17 rfl (lv_at hl 0 rfl) ?_
  refine g_get F hK hP inX6 0 rfl rfl 13 (by decide) gw_589 rfl (v := .ref (ad 6)) rfl dX6_described_18 ?_
  refine lv_iload_n hx hb dX6_described_21 rfl (lv_at hl 1 rfl) ?_
  refine a_ild F hK hP 6 (f := gR g 4) rfl (j := j) (by omega) (by decide) dX6_described_22 ?_
  refine lv_imul hx hb dX6_described_23 ?_
  refine lv_iadd hx hb dX6_described_24 ?_
  refine lv_aload_n hx hb dX6_described_25 rfl (lv_at hl 0 rfl) ?_
  refine g_get F hK hP inX6 0 rfl rfl 14 (by decide) gw_590 rfl (v := .ref (ad 7)) rfl dX6_described_26 ?_
  refine lv_iload_n hx hb dX6_described_29 rfl (lv_at hl 1 rfl) ?_
  refine a_ild F hK hP 7 (f := gR g 5) rfl (j := j) (by omega) (by decide) dX6_described_30 ?_
  refine lv_iadd hx hb dX6_described_31 ?_
  exact rt _ (mW ad kA g z) _ _ _ _ hP hD hS dX6_described_32 (⟨rfl, rfl⟩)

set_option maxRecDepth 100000 in
set_option maxHeartbeats 4000000 in
theorem kX6_describeAttempt (l : Launch) (D : va_G) (kA : Nat → ClassId) (sz : Nat) (ad : Nat → Nat) (g : Sg) (z : Zm) (p1 : Int32) (hI : Inv g) : CtI l yX6_describeAttempt cX6_describeAttempt 2 .int 1 D kA sz (mW ad kA g z) [.ref (ad 0), .int p1] (fun r u => r = sp_desA p1 g ∧ u = mW ad kA g z) := by
  refine ct_i (own := RX6) (by decide) rfl (Nat.le_of_ble_eq_true rfl) ?_
  intro p_ e_ s_ m_ ar_ bw_ me_ co_ A ls Q F hnm hK hA hP hD hS hl hsz rt
  have hx := F.1
  have hb := F.2.1
  have hl : lv_has ls 2 [(0, .ref (ad 0)), (1, .int p1)] := hl
  have hP : va_P D vwCl (mW ad kA g z) s_.heap := hP
  obtain ⟨⟨hc1, hc2⟩, ha, hn, hu, hd, hup, hlo, hso, hv⟩ := id hI
  refine lv_iload_n hx hb dX6_describeAttempt_0 rfl (lv_at hl 1 rfl) ?_
  refine lv_iconst (v := 0) hx hb dX6_describeAttempt_1 (by decide) ?_
  refine lv_aload_n hx hb dX6_describeAttempt_2 rfl (lv_at hl 0 rfl) ?_
  refine g_get F hK hP inX6 0 rfl rfl 12 (by decide) gw_588 rfl (v := .int (nI (gN g 1))) rfl dX6_describeAttempt_3 ?_
  refine lv_iconst (v := 1) hx hb dX6_describeAttempt_6 (by decide) ?_
  refine lv_isub hx hb dX6_describeAttempt_7 ?_
  refine cl_S_i (wc := []) (As := [.int p1, .int 0, .int ((nI (gN g 1)) - 1)]) (rest := []) F hK P_nil D_nil hS hA (kX6_within l D kA _ p1 0 ((nI (gN g 1)) - 1) ) gw_666 gw_71 gw_664 gw_665 hdX6_within ⟨Nat.le_of_ble_eq_true rfl, Nat.le_of_ble_eq_true rfl⟩ hl.1 rfl (Nat.le_of_ble_eq_true rfl) dX6_describeAttempt_8 ⟨Nat.le_of_ble_eq_true rfl, Nat.le_of_ble_eq_true rfl⟩ (fun r_8 u_8 H locs hw hP1 hD1 hk1 hFc hS => ?_)
  obtain ⟨rfl, rfl⟩ := hw
  have hP := hp_non hP hk1
  refine b_beq F (P := 0 ≤ p1 ∧ p1 ≤ ((nI (gN g 1)) - 1)) (tgt := 22) dX6_describeAttempt_11 (by decide) (fun c_11 => ?_) (fun c_11 => ?_)
  · refine lv_bipush (v := (-108)) hx hb dX6_describeAttempt_22 (by decide) ?_
    exact rt _ (mW ad kA g z) _ _ _ _ hP hD hS dX6_describeAttempt_24 (⟨by rw [sp_desA, if_neg c_11], rfl⟩)
  · obtain ⟨j, hj, rfl⟩ := nat_lt (by omega) c_11.1 c_11.2
    refine lv_aload_n hx hb dX6_describeAttempt_14 rfl (lv_at hl 0 rfl) ?_
    refine lv_iload_n hx hb dX6_describeAttempt_15 rfl (lv_at hl 1 rfl) ?_
    refine cl_V_i (wc := (mW ad kA g z)) (As := [.int (nI j)]) (rest := []) (b := (ad 0)) (C := RX6) F hK hP hD hS hA (kX6_described l D kA _ ad g z j (by omega)) gw_805 gw_71 gw_802 gw_804 gw_57 (va_recv hK.1 hP (ci := 6) (q0 := 0) rfl rfl) hdX6_described ⟨Nat.le_of_ble_eq_true rfl, Nat.le_of_ble_eq_true rfl⟩ hl.1 rfl (Nat.le_of_ble_eq_true rfl) dX6_describeAttempt_16 ⟨Nat.le_of_ble_eq_true rfl, Nat.le_of_ble_eq_true rfl⟩ (fun r_16 u_16 H locs hw hP1 hD1 hk1 hFc hS => ?_)
    obtain ⟨rfl, rfl⟩ := hw
    have hP : va_P D vwCl (mW ad kA g z) H := hP1
    have hD : va_D A (mW ad kA g z) := hD1.weaken (fun _ _ _ h => hFc _ h)
    refine lv_goto (tgt := 24) hx hb dX6_describeAttempt_19 (by decide) ?_
    exact rt _ (mW ad kA g z) _ _ _ _ hP hD hS dX6_describeAttempt_24 (⟨by rw [sp_desA, if_pos c_11, nI_clamp (by omega)], rfl⟩)

set_option maxRecDepth 100000 in
set_option maxHeartbeats 4000000 in
theorem kX6_describeVerdict (l : Launch) (D : va_G) (kA : Nat → ClassId) (sz : Nat) (ad : Nat → Nat) (g : Sg) (z : Zm) (p1 : Int32) (hI : Inv g) (hL : RgM (gV g) (zL z)) : CtI l yX6_describeVerdict cX6_describeVerdict 2 .int 1 D kA sz (mW ad kA g z) [.ref (ad 0), .int p1] (fun r u => r = sp_desV p1 g ∧ u = mW ad kA g z) := by
  refine ct_i (own := RX6) (by decide) rfl (Nat.le_of_ble_eq_true rfl) ?_
  intro p_ e_ s_ m_ ar_ bw_ me_ co_ A ls Q F hnm hK hA hP hD hS hl hsz rt
  have hx := F.1
  have hb := F.2.1
  have hl : lv_has ls 2 [(0, .ref (ad 0)), (1, .int p1)] := hl
  have hP : va_P D vwCl (mW ad kA g z) s_.heap := hP
  obtain ⟨⟨hc1, hc2⟩, ha, hn, hu, hd, hup, hlo, hso, hv⟩ := id hI
  refine lv_iload_n hx hb dX6_describeVerdict_0 rfl (lv_at hl 1 rfl) ?_
  refine lv_iconst (v := 0) hx hb dX6_describeVerdict_1 (by decide) ?_
  refine lv_bipush (v := 15) hx hb dX6_describeVerdict_2 (by decide) ?_
  refine cl_S_i (wc := []) (As := [.int p1, .int 0, .int 15]) (rest := []) F hK P_nil D_nil hS hA (kX6_within l D kA _ p1 0 15 ) gw_666 gw_71 gw_664 gw_665 hdX6_within ⟨Nat.le_of_ble_eq_true rfl, Nat.le_of_ble_eq_true rfl⟩ hl.1 rfl (Nat.le_of_ble_eq_true rfl) dX6_describeVerdict_4 ⟨Nat.le_of_ble_eq_true rfl, Nat.le_of_ble_eq_true rfl⟩ (fun r_4 u_4 H locs hw hP1 hD1 hk1 hFc hS => ?_)
  obtain ⟨rfl, rfl⟩ := hw
  have hP := hp_non hP hk1
  refine b_beq F (P := 0 ≤ p1 ∧ p1 ≤ 15) (tgt := 27) dX6_describeVerdict_7 (by decide) (fun c_7 => ?_) (fun c_7 => ?_)
  · refine lv_bipush (v := (-109)) hx hb dX6_describeVerdict_27 (by decide) ?_
    exact rt _ (mW ad kA g z) _ _ _ _ hP hD hS dX6_describeVerdict_29 (⟨by rw [sp_desV, if_neg (fun h => c_7 h.1)], rfl⟩)
  · obtain ⟨j, hj, rfl⟩ := nat_of (n := 15) (by decide) c_7.1 c_7.2
    refine lv_iload_n hx hb dX6_describeVerdict_10 rfl (lv_at hl 1 rfl) ?_
    refine lv_aload_n hx hb dX6_describeVerdict_11 rfl (lv_at hl 0 rfl) ?_
    refine g_get F hK hP inX6 0 rfl rfl 16 (by decide) gw_592 rfl (v := .int (nI ((gV g).length))) rfl dX6_describeVerdict_12 ?_
    refine b_ge F (a := j) (b := (gV g).length) (tgt := 27) dX6_describeVerdict_15 (by decide) (by omega) (by omega) (fun c_15 => ?_) (fun c_15 => ?_)
    · refine lv_bipush (v := (-109)) hx hb dX6_describeVerdict_27 (by decide) ?_
      exact rt _ (mW ad kA g z) _ _ _ _ hP hD hS dX6_describeVerdict_29 (⟨by rw [sp_desV, if_neg (fun h => absurd h.2 (Int32.not_lt.mpr (nI_le c_15 (by omega))))], rfl⟩)
    · refine lv_aload_n hx hb dX6_describeVerdict_18 rfl (lv_at hl 0 rfl) ?_
      refine g_get F hK hP inX6 0 rfl rfl 17 (by decide) gw_593 rfl (v := .ref (ad 9)) rfl dX6_describeVerdict_19 ?_
      refine lv_iload_n hx hb dX6_describeVerdict_22 rfl (lv_at hl 1 rfl) ?_
      refine a_ild F hK hP 9 (f := zL z) rfl (j := j) (by omega) (by decide) dX6_describeVerdict_23 ?_
      refine lv_goto (tgt := 29) hx hb dX6_describeVerdict_24 (by decide) ?_
      exact rt _ (mW ad kA g z) _ _ _ _ hP hD hS dX6_describeVerdict_29 (⟨by rw [sp_desV, if_pos ⟨c_7, nI_lt c_15 (by omega)⟩, nI_clamp (by omega)]; exact hL j (by omega) c_15, rfl⟩)

set_option maxRecDepth 100000 in
set_option maxHeartbeats 4000000 in
theorem kX6_append (l : Launch) (D : va_G) (kA : Nat → ClassId) (sz : Nat) (ad : Nat → Nat) (g : Sg) (z : Zm) (p1 : Int32) (hI : Inv g) : CtI l yX6_append cX6_append 2 .int 1 D kA sz (mW ad kA g z) [.ref (ad 0), .int p1] (fun r u => r = (sp_append p1 g).1 ∧ u = mW ad kA (sp_append p1 g).2 z) := by
  refine ct_i (own := RX6) (by decide) rfl (Nat.le_of_ble_eq_true rfl) ?_
  intro p_ e_ s_ m_ ar_ bw_ me_ co_ A ls Q F hnm hK hA hP hD hS hl hsz rt
  have hx := F.1
  have hb := F.2.1
  have hl : lv_has ls 2 [(0, .ref (ad 0)), (1, .int p1)] := hl
  have hP : va_P D vwCl (mW ad kA g z) s_.heap := hP
  obtain ⟨⟨hc1, hc2⟩, ha, hn, hu, hd, hup, hlo, hso, hv⟩ := id hI
  refine lv_iload_n hx hb dX6_append_0 rfl (lv_at hl 1 rfl) ?_
  refine lv_bipush (v := 32) hx hb dX6_append_1 (by decide) ?_
  refine lv_bipush (v := 126) hx hb dX6_append_3 (by decide) ?_
  refine cl_S_i (wc := []) (As := [.int p1, .int 32, .int 126]) (rest := []) F hK P_nil D_nil hS hA (kX6_within l D kA _ p1 32 126 ) gw_666 gw_71 gw_664 gw_665 hdX6_within ⟨Nat.le_of_ble_eq_true rfl, Nat.le_of_ble_eq_true rfl⟩ hl.1 rfl (Nat.le_of_ble_eq_true rfl) dX6_append_5 ⟨Nat.le_of_ble_eq_true rfl, Nat.le_of_ble_eq_true rfl⟩ (fun r_5 u_5 H locs hw hP1 hD1 hk1 hFc hS => ?_)
  obtain ⟨rfl, rfl⟩ := hw
  have hP := hp_non hP hk1
  refine b_bne F (P := 32 ≤ p1 ∧ p1 ≤ 126) (tgt := 14) dX6_append_8 (by decide) (fun c_8 => ?_) (fun c_8 => ?_)
  · refine lv_aload_n hx hb dX6_append_14 rfl (lv_at hl 0 rfl) ?_
    refine g_get F hK hP inX6 0 rfl rfl 18 (by decide) gw_594 rfl (v := .int (nI (gN g 2))) rfl dX6_append_15 ?_
    refine lv_bipush (v := 59) hx hb dX6_append_18 (by decide) ?_
    refine b_ne F (a := gN g 2) (b := 59) (tgt := 26) dX6_append_20 (by decide) (by omega) (by omega) (fun c_20 => ?_) (fun c_20 => ?_)
    · refine lv_aload_n hx hb dX6_append_26 rfl (lv_at hl 0 rfl) ?_
      refine g_get F hK hP inX6 0 rfl rfl 19 (by decide) gw_595 rfl (v := .ref (ad 10)) rfl dX6_append_27 ?_
      refine lv_aload_n hx hb dX6_append_30 rfl (lv_at hl 0 rfl) ?_
      refine g_get F hK hP inX6 0 rfl rfl 18 (by decide) gw_594 rfl (v := .int (nI (gN g 2))) rfl dX6_append_31 ?_
      refine lv_iload_n hx hb dX6_append_34 rfl (lv_at hl 1 rfl) ?_
      refine a_ist F hK hP hD hS 10 (f := gR g 7) rfl (j := gN g 2) (by omega) (by decide) dX6_append_35 (fun H locs hP hD hS => ?_)
      have hP : va_P D vwCl (mW ad kA (sR g 7 (upd (gR g 7) (gN g 2) p1)) z) H := hP
      have hD : va_D A (mW ad kA (sR g 7 (upd (gR g 7) (gN g 2) p1)) z) := hD
      refine lv_aload_n hx hb dX6_append_36 rfl (lv_at hl 0 rfl) ?_
      refine lv_dup hx hb dX6_append_37 rfl ?_
      refine g_get F hK hP inX6 0 rfl rfl 18 (by decide) gw_594 rfl (v := .int (nI (gN g 2))) rfl dX6_append_38 ?_
      refine lv_iconst (v := 1) hx hb dX6_append_41 (by decide) ?_
      refine n_add F (a := gN g 2) (b := 1) dX6_append_42 ?_
      refine g_put F hK hP hD hS inX6 tyX6_ok nmX6 0 rfl rfl 18 (by decide) gw_594 rfl rfl rfl rfl (Nat.le_of_ble_eq_true rfl) dX6_append_43 (fun H locs hP hD hS => ?_)
      have hP : va_P D vwCl (mW ad kA (sN (sR g 7 (upd (gR g 7) (gN g 2) p1)) 2 (gN g 2 + 1)) z) H := hP
      have hD : va_D A (mW ad kA (sN (sR g 7 (upd (gR g 7) (gN g 2) p1)) 2 (gN g 2 + 1)) z) := hD
      refine lv_aload_n hx hb dX6_append_46 rfl (lv_at hl 0 rfl) ?_
      refine g_get F hK hP inX6 0 rfl rfl 18 (by decide) gw_594 rfl (v := .int (nI (gN g 2 + 1))) rfl dX6_append_47 ?_
      exact rt _ (mW ad kA (sN (sR g 7 (upd (gR g 7) (gN g 2) p1)) 2 (gN g 2 + 1)) z) _ _ _ _ hP hD hS dX6_append_50 (⟨by rw [sp_append, if_pos c_8, if_neg c_20], by rw [sp_append, if_pos c_8, if_neg c_20]⟩)
    · refine lv_bipush (v := (-102)) hx hb dX6_append_23 (by decide) ?_
      exact rt _ (mW ad kA g z) _ _ _ _ hP hD hS dX6_append_25 (⟨by rw [sp_append, if_pos c_8, if_pos c_20], by rw [sp_append, if_pos c_8, if_pos c_20]⟩)
  · refine lv_bipush (v := (-101)) hx hb dX6_append_11 (by decide) ?_
    exact rt _ (mW ad kA g z) _ _ _ _ hP hD hS dX6_append_13 (⟨by rw [sp_append, if_neg c_8], by rw [sp_append, if_neg c_8]⟩)

set_option maxRecDepth 100000 in
set_option maxHeartbeats 4000000 in
theorem kX6_clearInput (l : Launch) (D : va_G) (kA : Nat → ClassId) (sz : Nat) (ad : Nat → Nat) (g : Sg) (z : Zm)  : CtI l yX6_clearInput cX6_clearInput 2 .int 0 D kA sz (mW ad kA g z) [.ref (ad 0)] (fun r u => r = (sp_clear g).1 ∧ u = mW ad kA (sp_clear g).2 z) := by
  refine ct_i (own := RX6) (by decide) rfl (Nat.le_of_ble_eq_true rfl) ?_
  intro p_ e_ s_ m_ ar_ bw_ me_ co_ A ls Q F hnm hK hA hP hD hS hl hsz rt
  have hx := F.1
  have hb := F.2.1
  have hl : lv_has ls 2 [(0, .ref (ad 0))] := hl
  have hP : va_P D vwCl (mW ad kA g z) s_.heap := hP
  refine lv_aload_n hx hb dX6_clearInput_0 rfl (lv_at hl 0 rfl) ?_
  refine g_get F hK hP inX6 0 rfl rfl 18 (by decide) gw_594 rfl (v := .int (nI (gN g 2))) rfl dX6_clearInput_1 ?_
  refine lv_istore_n (lv' := [(1, .int (nI (gN g 2))), (0, .ref (ad 0))]) hx hb dX6_clearInput_4 rfl hl (by decide) rfl (fun ls hl => ?_)
  refine lv_aload_n hx hb dX6_clearInput_5 rfl (lv_at hl 1 rfl) ?_
  refine lv_iconst (v := 0) hx hb dX6_clearInput_6 (by decide) ?_
  refine g_put F hK hP hD hS inX6 tyX6_ok nmX6 0 rfl rfl 18 (by decide) gw_594 rfl rfl rfl rfl (Nat.le_of_ble_eq_true rfl) dX6_clearInput_7 (fun H locs hP hD hS => ?_)
  have hP : va_P D vwCl (mW ad kA (sN g 2 0) z) H := hP
  have hD : va_D A (mW ad kA (sN g 2 0) z) := hD
  refine lv_iload_n hx hb dX6_clearInput_10 rfl (lv_at hl 0 rfl) ?_
  exact rt _ (mW ad kA (sN g 2 0) z) _ _ _ _ hP hD hS dX6_clearInput_11 (⟨rfl, rfl⟩)
