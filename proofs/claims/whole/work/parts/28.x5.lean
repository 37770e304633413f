set_option maxRecDepth 100000 in
set_option maxHeartbeats 4000000 in
theorem kX5_sourceExists (l : Launch) (D : va_G) (kA : Nat → ClassId) (sz : Nat) (x : Int32)  : CtI l yX5_sourceExists cX5_sourceExists 1 .boolean 1 D kA sz ([]) [.int x] (fun r u => (r = if 0 ≤ x ∧ x ≤ 7 then 1 else 0) ∧ u = []) := by
  refine ct_z (own := RX5) (by decide) rfl (Nat.le_of_ble_eq_true rfl) ?_
  intro p_ e_ s_ m_ ar_ bw_ me_ co_ A ls Q F hnm hK hA hP hD hS hl hsz rt
  have hx := F.1
  have hb := F.2.1
  have hl : lv_has ls 1 [(0, .int x)] := hl
  have hP : va_P D vwCl ([]) s_.heap := hP
  refine lv_iload_n hx hb dX5_sourceExists_0 rfl (lv_at hl 0 rfl) ?_
  refine lv_iconst (v := 0) hx hb dX5_sourceExists_1 (by decide) ?_
  refine lv_bipush (v := 7) hx hb dX5_sourceExists_2 (by decide) ?_
  refine cl_S_i (wc := []) (As := [.int x, .int 0, .int 7]) (rest := []) F hK P_nil D_nil hS hA (kX5_within l D kA _ x 0 7 ) gw_239 gw_65 gw_237 gw_238 hdX5_within ⟨Nat.le_of_ble_eq_true rfl, Nat.le_of_ble_eq_true rfl⟩ hl.1 rfl (Nat.le_of_ble_eq_true rfl) dX5_sourceExists_4 ⟨Nat.le_of_ble_eq_true rfl, Nat.le_of_ble_eq_true rfl⟩ (fun r_4 u_4 H locs hw hP1 hD1 hk1 hFc hS => ?_)
  obtain ⟨rfl, rfl⟩ := hw
  have hP := hp_non hP hk1
  exact rt _ ([]) _ _ _ _ hP hD hS dX5_sourceExists_7 (nar_if _) (⟨rfl, rfl⟩)

set_option maxRecDepth 100000 in
set_option maxHeartbeats 4000000 in
theorem kX5_destinationExists (l : Launch) (D : va_G) (kA : Nat → ClassId) (sz : Nat) (x : Int32)  : CtI l yX5_destinationExists cX5_destinationExists 1 .boolean 1 D kA sz ([]) [.int x] (fun r u => (r = if 0 ≤ x ∧ x ≤ 31 then 1 else 0) ∧ u = []) := by
  refine ct_z (own := RX5) (by decide) rfl (Nat.le_of_ble_eq_true rfl) ?_
  intro p_ e_ s_ m_ ar_ bw_ me_ co_ A ls Q F hnm hK hA hP hD hS hl hsz rt
  have hx := F.1
  have hb := F.2.1
  have hl : lv_has ls 1 [(0, .int x)] := hl
  have hP : va_P D vwCl ([]) s_.heap := hP
  refine lv_iload_n hx hb dX5_destinationExists_0 rfl (lv_at hl 0 rfl) ?_
  refine lv_iconst (v := 0) hx hb dX5_destinationExists_1 (by decide) ?_
  refine lv_bipush (v := 31) hx hb dX5_destinationExists_2 (by decide) ?_
  refine cl_S_i (wc := []) (As := [.int x, .int 0, .int 31]) (rest := []) F hK P_nil D_nil hS hA (kX5_within l D kA _ x 0 31 ) gw_239 gw_65 gw_237 gw_238 hdX5_within ⟨Nat.le_of_ble_eq_true rfl, Nat.le_of_ble_eq_true rfl⟩ hl.1 rfl (Nat.le_of_ble_eq_true rfl) dX5_destinationExists_4 ⟨Nat.le_of_ble_eq_true rfl, Nat.le_of_ble_eq_true rfl⟩ (fun r_4 u_4 H locs hw hP1 hD1 hk1 hFc hS => ?_)
  obtain ⟨rfl, rfl⟩ := hw
  have hP := hp_non hP hk1
  exact rt _ ([]) _ _ _ _ hP hD hS dX5_destinationExists_7 (nar_if _) (⟨rfl, rfl⟩)

set_option maxRecDepth 100000 in
set_option maxHeartbeats 4000000 in
theorem kX5_cellExists (l : Launch) (D : va_G) (kA : Nat → ClassId) (sz : Nat) (ad : Nat → Nat) (g : Sg) (y : Ys) (x : Int32)  : CtI l yX5_cellExists cX5_cellExists 2 .boolean 1 D kA sz (xW ad kA g y) [.ref (ad 0), .int x] (fun r u => (r = if 0 ≤ x ∧ x ≤ nI (gN g 0) - 1 then 1 else 0) ∧ u = xW ad kA g y) := by
  refine ct_z (own := RX5) (by decide) rfl (Nat.le_of_ble_eq_true rfl) ?_
  intro p_ e_ s_ m_ ar_ bw_ me_ co_ A ls Q F hnm hK hA hP hD hS hl hsz rt
  have hx := F.1
  have hb := F.2.1
  have hl : lv_has ls 2 [(0, .ref (ad 0)), (1, .int x)] := hl
  have hP : va_P D vwCl (xW ad kA g y) s_.heap := hP
  refine lv_iload_n hx hb dX5_cellExists_0 rfl (lv_at hl 1 rfl) ?_
  refine lv_iconst (v := 0) hx hb dX5_cellExists_1 (by decide) ?_
  refine lv_aload_n hx hb dX5_cellExists_2 rfl (lv_at hl 0 rfl) ?_
  refine g_get F hK hP inX5 0 rfl rfl 5 (by decide) gw_213 rfl (v := .int (nI (gN g 0))) rfl dX5_cellExists_3 ?_
  refine lv_iconst (v := 1) hx hb dX5_cellExists_6 (by decide) ?_
  refine lv_isub hx hb dX5_cellExists_7 ?_
  refine cl_S_i (wc := []) (As := [.int x, .int 0, .int ((nI (gN g 0)) - 1)]) (rest := []) F hK P_nil D_nil hS hA (kX5_within l D kA _ x 0 ((nI (gN g 0)) - 1) ) gw_239 gw_65 gw_237 gw_238 hdX5_within ⟨Nat.le_of_ble_eq_true rfl, Nat.le_of_ble_eq_true rfl⟩ hl.1 rfl (Nat.le_of_ble_eq_true rfl) dX5_cellExists_8 ⟨Nat.le_of_ble_eq_true rfl, Nat.le_of_ble_eq_true rfl⟩ (fun r_8 u_8 H locs hw hP1 hD1 hk1 hFc hS => ?_)
  obtain ⟨rfl, rfl⟩ := hw
  have hP := hp_non hP hk1
  exact rt _ (xW ad kA g y) _ _ _ _ hP hD hS dX5_cellExists_11 (nar_if _) (⟨rfl, rfl⟩)

set_option maxRecDepth 100000 in
set_option maxHeartbeats 4000000 in
theorem kX5_cellIndex (l : Launch) (D : va_G) (kA : Nat → ClassId) (sz : Nat) (ad : Nat → Nat) (g : Sg) (y : Ys) (x : Int32) (hc1 : 1 ≤ gN g 0) (hc2 : gN g 0 ≤ 8) : CtI l yX5_cellIndex cX5_cellIndex 2 .int 0 D kA sz (xW ad kA g y) [.ref (ad 0), .int x] (fun r u => r = x - x / nI (gN g 0) * nI (gN g 0) ∧ u = xW ad kA g y) := by
  refine ct_i (own := RX5) (by decide) rfl (Nat.le_of_ble_eq_true rfl) ?_
  intro p_ e_ s_ m_ ar_ bw_ me_ co_ A ls Q F hnm hK hA hP hD hS hl hsz rt
  have hx := F.1
  have hb := F.2.1
  have hl : lv_has ls 2 [(0, .ref (ad 0)), (1, .int x)] := hl
  have hP : va_P D vwCl (xW ad kA g y) s_.heap := hP
  refine lv_aload_n hx hb dX5_cellIndex_0 rfl (lv_at hl 0 rfl) ?_
  refine g_get F hK hP inX5 0 rfl rfl 5 (by decide) gw_213 rfl (v := .int (nI (gN g 0))) rfl dX5_cellIndex_1 ?_
  refine b_le0 F (a := gN g 0) (tgt := 16) dX5_cellIndex_4 (by decide) (by omega) (fun c_4 => ?_) (fun c_4 => ?_)
  · exact absurd c_4 (by omega)
  · refine lv_iload_n hx hb dX5_cellIndex_7 rfl (lv_at hl 1 rfl) ?_
    refine lv_aload_n hx hb dX5_cellIndex_8 rfl (lv_at hl 0 rfl) ?_
    refine g_get F hK hP inX5 0 rfl rfl 5 (by decide) gw_213 rfl (v := .int (nI (gN g 0))) rfl dX5_cellIndex_9 ?_
    refine lv_irem hx hb dX5_cellIndex_12 (nI_ne0 (by omega) (by omega)) ?_
    refine lv_goto (tgt := 17) hx hb dX5_cellIndex_13 (by decide) ?_
    exact rt _ (xW ad kA g y) _ _ _ _ hP hD hS dX5_cellIndex_17 (⟨rfl, rfl⟩)

set_option maxRecDepth 100000 in
set_option maxHeartbeats 4000000 in
theorem kX5_reset (l : Launch) (D : va_G) (kA : Nat → ClassId) (sz : Nat) (ad : Nat → Nat) (g : Sg) (y : Ys)  : CtV l yX5_reset cX5_reset 2 2 0 0 D kA sz (xW ad kA g y) [.ref (ad 0)] (fun u => u = xW ad kA (sp_reset g) y) := by
  refine ct_v (own := RX5) (by decide) rfl (Nat.le_of_ble_eq_true rfl) ?_
  intro p_ e_ s_ m_ ar_ bw_ me_ co_ A ls Q F hnm hK hA hP hD hS hl hsz rt
  have hx := F.1
  have hb := F.2.1
  have hl : lv_has ls 2 [(0, .ref (ad 0))] := hl
  have hP : va_P D vwCl (xW ad kA g y) s_.heap := hP
  refine lv_iconst (v := 0) hx hb dX5_reset_0 (by decide) ?_
  refine lv_istore_n (lv' := [(1, .int 0), (0, .ref (ad 0))]) hx hb dX5_reset_1 rfl hl (by decide) rfl (fun ls hl => ?_)
  have lp_2 : ∀ (n_2 : Nat) (k : Nat) (g1 : Sg), (k ≤ 8) → (g1 = rsG k g) → (8 - k) < n_2 → ∀ (H : Heap) (locs : List Loc) (ls : Array Slot), va_P D vwCl (xW ad kA g1 y) H → va_D A (xW ad kA g1 y) → va_S A s_.heap H locs → lv_has ls 2 [(0, .ref (ad 0)), (1, .int (nI k))] → W p_ l e_ (rmC 2 0 0) s_ m_ ar_ bw_ me_ co_ H locs 0 0 Q (F0 m_ 2 ls []) := by
    intro n_2
    induction n_2 with
    | zero =>
      intro k g1 hk hg hm_2
      exact absurd hm_2 (Nat.not_lt_zero _)
    | succ n_2 ih_2 =>
      intro k g1 hk hg hm_2 H locs ls hP hD hS hl
      refine lv_iload_n hx hb dX5_reset_2 rfl (lv_at hl 1 rfl) ?_
      refine lv_aload_n hx hb dX5_reset_3 rfl (lv_at hl 0 rfl) ?_
      refine g_get F hK hP inX5 0 rfl rfl 0 (by decide) gw_208 rfl (v := .ref (ad 1)) rfl dX5_reset_4 ?_
      refine a_len F hK hP 1 4 rfl rfl dX5_reset_7 ?_
      refine b_ge F (a := k) (b := 8) (tgt := 26) dX5_reset_8 (by decide) (by omega) (by omega) (fun c_8 => ?_) (fun c_8 => ?_)
      · refine lv_aload_n hx hb dX5_reset_26 rfl (lv_at hl 0 rfl) ?_
        refine g_get F hK hP inX5 0 rfl rfl 2 (by decide) gw_210 rfl (v := .ref (ad 3)) rfl dX5_reset_27 ?_
        refine lv_iconst (v := 0) hx hb dX5_reset_30 (by decide) ?_
        refine g_putN F hK hP hD hS inX2 tyX2_ok nmX2 7 rfl rfl 3 (by decide) nw_169 rfl rfl rfl rfl (Nat.le_of_ble_eq_true rfl) dX5_reset_31 (fun H locs hP hD hS => ?_)
        have hP : va_P D vwCl (xW ad kA (sN g1 1 0) y) H := hP
        have hD : va_D A (xW ad kA (sN g1 1 0) y) := hD
        refine lv_aload_n hx hb dX5_reset_34 rfl (lv_at hl 0 rfl) ?_
        refine g_get F hK hP inX5 0 rfl rfl 3 (by decide) gw_211 rfl (v := .ref (ad 7)) rfl dX5_reset_35 ?_
        refine lv_iconst (v := 0) hx hb dX5_reset_38 (by decide) ?_
        refine g_putN F hK hP hD hS inX3 tyX3_ok nmX3 11 rfl rfl 1 (by decide) nw_187 rfl rfl rfl rfl (Nat.le_of_ble_eq_true rfl) dX5_reset_39 (fun H locs hP hD hS => ?_)
        have hP : va_P D vwCl (xW ad kA (sV (sN g1 1 0) ([])) y) H := hP
        have hD : va_D A (xW ad kA (sV (sN g1 1 0) ([])) y) := hD
        refine lv_aload_n hx hb dX5_reset_42 rfl (lv_at hl 0 rfl) ?_
        refine lv_iconst (v := 0) hx hb dX5_reset_43 (by decide) ?_
        refine g_put F hK hP hD hS inX5 tyX5_ok nmX5 0 rfl rfl 7 (by decide) gw_215 rfl rfl rfl rfl (Nat.le_of_ble_eq_true rfl) dX5_reset_44 (fun H locs hP hD hS => ?_)
        have hP : va_P D vwCl (xW ad kA (sI (sV (sN g1 1 0) ([])) 5 0) y) H := hP
        have hD : va_D A (xW ad kA (sI (sV (sN g1 1 0) ([])) 5 0) y) := hD
        exact rt (xW ad kA (sI (sV (sN g1 1 0) ([])) 5 0) y) _ _ _ _ hP hD hS dX5_reset_47 ((by rw [hg, show k = 8 by omega]; rfl))
      · refine lv_aload_n hx hb dX5_reset_11 rfl (lv_at hl 0 rfl) ?_
        refine g_get F hK hP inX5 0 rfl rfl 0 (by decide) gw_208 rfl (v := .ref (ad 1)) rfl dX5_reset_12 ?_
        refine lv_iload_n hx hb dX5_reset_15 rfl (lv_at hl 1 rfl) ?_
        refine a_qld F hK hP 1 (f := fun i => some (ad (15 + i))) rfl (j := k) (by omega) (by decide) (b := ad (15 + k)) rfl dX5_reset_16 ?_
        refine cl_VN_v (wc := (clC (ad (15 + k)) (gR g1 0 k) (gR g1 1 k) (gE g1 k) (gR g1 2 k) (gR g1 3 k))) (As := []) (rest := []) (b := (ad (15 + k))) (C := RX0) F hK (P_on1 (15 + k) hP (xW_c (by omega))) (D_on1 (15 + k) hD (xW_c (by omega))) hS hA (kX0_reset l D kA _ (ad (15 + k)) (gR g1 0 k) (gR g1 1 k) (gE g1 k) (gR g1 2 k) (gR g1 3 k)  ) gw_248 gw_66 nw_245 gw_247 gw_2 (va_recv (q := (RX0, TX0, 5)) (ci := 0) (q0 := 15 + k) hK.1 hP rfl (xW_c (by omega))) hdX0_reset ⟨Nat.le_of_ble_eq_true rfl, Nat.le_of_ble_eq_true rfl⟩ hl.1 rfl (Nat.le_of_ble_eq_true rfl) dX5_reset_17 ⟨Nat.le_of_ble_eq_true rfl, Nat.le_of_ble_eq_true rfl⟩ (fun u_17 H locs hw hP1 hD1 hk1 hFc hS => ?_)
        obtain rfl := hw
        have hPD := hp_set (15 + k) hP hD (xW_c (by omega)) hk1 hP1
        have hP : va_P D vwCl (xW ad kA (sR (sR (sE (sR (sR g1 0 (upd (gR g1 0) k 0)) 1 (upd (gR g1 1) k 0)) (vp_updL (gE g1) k 0)) 2 (upd (gR g1 2) k 0)) 3 (upd (gR g1 3) k 0)) y) H := P_cast (xc_a (g := g1) (y := y) (i := k) (by omega)) hPD.1
        have hD : va_D A (xW ad kA (sR (sR (sE (sR (sR g1 0 (upd (gR g1 0) k 0)) 1 (upd (gR g1 1) k 0)) (vp_updL (gE g1) k 0)) 2 (upd (gR g1 2) k 0)) 3 (upd (gR g1 3) k 0)) y) := D_cast (xc_a (g := g1) (y := y) (i := k) (by omega)) hPD.2
        refine lv_iinc (v := nI (k + 1)) (lv' := [(1, .int (nI (k + 1))), (0, .ref (ad 0))]) hx hb dX5_reset_20 hl (k := 1) rfl (nI_add k 1) (by decide) rfl (fun ls hl => ?_)
        refine lv_goto (tgt := 2) hx hb dX5_reset_23 (by decide) ?_
        exact ih_2  (k + 1) (sR (sR (sE (sR (sR g1 0 (upd (gR g1 0) k 0)) 1 (upd (gR g1 1) k 0)) (vp_updL (gE g1) k 0)) 2 (upd (gR g1 2) k 0)) 3 (upd (gR g1 3) k 0)) (by omega) (by rw [hg]; exact rsG_s k g) (by omega) _ _ _ hP hD hS (lv_sub hl [1, 0] rfl)
  exact lp_2 _ 0 g (by decide) (rsG_0 g).symm (Nat.lt_succ_self _) _ _ _ hP hD hS (lv_sub hl [1, 0] rfl)

set_option maxRecDepth 100000 in
set_option maxHeartbeats 4000000 in
theorem kX5_configure (l : Launch) (D : va_G) (kA : Nat → ClassId) (sz : Nat) (ad : Nat → Nat) (g : Sg) (y : Ys) (p1 p2 p3 p4 : Int32)  : CtI l yX5_configure cX5_configure 5 .int 3 D kA sz (xW ad kA g y) [.ref (ad 0), .int p1, .int p2, .int p3, .int p4] (fun r u => r = (sp_configure p1 p2 p3 p4 g).1 ∧ u = xW ad kA (sp_configure p1 p2 p3 p4 g).2 y) := by
  refine ct_i (own := RX5) (by decide) rfl (Nat.le_of_ble_eq_true rfl) ?_
  intro p_ e_ s_ m_ ar_ bw_ me_ co_ A ls Q F hnm hK hA hP hD hS hl hsz rt
  have hx := F.1
  have hb := F.2.1
  have hl : lv_has ls 5 [(0, .ref (ad 0)), (1, .int p1), (2, .int p2), (3, .int p3), (4, .int p4)] := hl
  have hP : va_P D vwCl (xW ad kA g y) s_.heap := hP
  refine lv_iload_n hx hb dX5_configure_0 rfl (lv_at hl 1 rfl) ?_
  refine lv_iconst (v := 1) hx hb dX5_configure_1 (by decide) ?_
  refine lv_bipush (v := 9) hx hb dX5_configure_2 (by decide) ?_
  refine cl_S_i (wc := []) (As := [.int p1, .int 1, .int 9]) (rest := []) F hK P_nil D_nil hS hA (kX5_within l D kA _ p1 1 9 ) gw_239 gw_65 gw_237 gw_238 hdX5_within ⟨Nat.le_of_ble_eq_true rfl, Nat.le_of_ble_eq_true rfl⟩ hl.1 rfl (Nat.le_of_ble_eq_true rfl) dX5_configure_4 ⟨Nat.le_of_ble_eq_true rfl, Nat.le_of_ble_eq_true rfl⟩ (fun r_4 u_4 H locs hw hP1 hD1 hk1 hFc hS => ?_)
  obtain ⟨rfl, rfl⟩ := hw
  have hP := hp_non hP hk1
  refine b_beq F (P := 1 ≤ p1 ∧ p1 ≤ 9) (tgt := 20) dX5_configure_7 (by decide) (fun c_7 => ?_) (fun c_7 => ?_)
  · refine lv_bipush (v := (-104)) hx hb dX5_configure_20 (by decide) ?_
    exact rt _ (xW ad kA g y) _ _ _ _ hP hD hS dX5_configure_22 (⟨by rw [sp_configure, if_neg (fun h => c_7 h.1)], by rw [sp_configure, if_neg (fun h => c_7 h.1)]⟩)
  · refine lv_iload_n hx hb dX5_configure_10 rfl (lv_at hl 2 rfl) ?_
    refine lv_iconst (v := 1) hx hb dX5_configure_11 (by decide) ?_
    refine lv_bipush (v := 9) hx hb dX5_configure_12 (by decide) ?_
    refine cl_S_i (wc := []) (As := [.int p2, .int 1, .int 9]) (rest := []) F hK P_nil D_nil hS hA (kX5_within l D kA _ p2 1 9 ) gw_239 gw_65 gw_237 gw_238 hdX5_within ⟨Nat.le_of_ble_eq_true rfl, Nat.le_of_ble_eq_true rfl⟩ hl.1 rfl (Nat.le_of_ble_eq_true rfl) dX5_configure_14 ⟨Nat.le_of_ble_eq_true rfl, Nat.le_of_ble_eq_true rfl⟩ (fun r_14 u_14 H locs hw hP1 hD1 hk1 hFc hS => ?_)
    obtain ⟨rfl, rfl⟩ := hw
    have hP := hp_non hP hk1
    refine b_bne F (P := 1 ≤ p2 ∧ p2 ≤ 9) (tgt := 23) dX5_configure_17 (by decide) (fun c_17 => ?_) (fun c_17 => ?_)
    · refine lv_iload_n hx hb dX5_configure_23 rfl (lv_at hl 3 rfl) ?_
      refine lv_iconst (v := 1) hx hb dX5_configure_24 (by decide) ?_
      refine lv_bipush (v := 60) hx hb dX5_configure_25 (by decide) ?_
      refine cl_S_i (wc := []) (As := [.int p3, .int 1, .int 60]) (rest := []) F hK P_nil D_nil hS hA (kX5_within l D kA _ p3 1 60 ) gw_239 gw_65 gw_237 gw_238 hdX5_within ⟨Nat.le_of_ble_eq_true rfl, Nat.le_of_ble_eq_true rfl⟩ hl.1 rfl (Nat.le_of_ble_eq_true rfl) dX5_configure_27 ⟨Nat.le_of_ble_eq_true rfl, Nat.le_of_ble_eq_true rfl⟩ (fun r_27 u_27 H locs hw hP1 hD1 hk1 hFc hS => ?_)
      obtain ⟨rfl, rfl⟩ := hw
      have hP := hp_non hP hk1
      refine b_beq F (P := 1 ≤ p3 ∧ p3 ≤ 60) (tgt := 44) dX5_configure_30 (by decide) (fun c_30 => ?_) (fun c_30 => ?_)
      · refine lv_bipush (v := (-104)) hx hb dX5_configure_44 (by decide) ?_
        exact rt _ (xW ad kA g y) _ _ _ _ hP hD hS dX5_configure_46 (⟨by rw [sp_configure, if_neg (fun h => c_30 h.2.2.1)], by rw [sp_configure, if_neg (fun h => c_30 h.2.2.1)]⟩)
      · refine lv_iload hx hb dX5_configure_33 (lv_at hl 4 rfl) ?_
        refine lv_bipush (v := (-60)) hx hb dX5_configure_35 (by decide) ?_
        refine lv_iconst (v := (-1)) hx hb dX5_configure_37 (by decide) ?_
        refine cl_S_i (wc := []) (As := [.int p4, .int (-60), .int (-1)]) (rest := []) F hK P_nil D_nil hS hA (kX5_within l D kA _ p4 (-60) (-1) ) gw_239 gw_65 gw_237 gw_238 hdX5_within ⟨Nat.le_of_ble_eq_true rfl, Nat.le_of_ble_eq_true rfl⟩ hl.1 rfl (Nat.le_of_ble_eq_true rfl) dX5_configure_38 ⟨Nat.le_of_ble_eq_true rfl, Nat.le_of_ble_eq_true rfl⟩ (fun r_38 u_38 H locs hw hP1 hD1 hk1 hFc hS => ?_)
        obtain ⟨rfl, rfl⟩ := hw
        have hP := hp_non hP hk1
        refine b_bne F (P := (-60) ≤ p4 ∧ p4 ≤ (-1)) (tgt := 47) dX5_configure_41 (by decide) (fun c_41 => ?_) (fun c_41 => ?_)
        · refine lv_aload_n hx hb dX5_configure_47 rfl (lv_at hl 0 rfl) ?_
          refine g_get F hK hP inX5 0 rfl rfl 1 (by decide) gw_209 rfl (v := .ref (ad 2)) rfl dX5_configure_48 ?_
          refine lv_iload_n hx hb dX5_configure_51 rfl (lv_at hl 1 rfl) ?_
          refine lv_iload_n hx hb dX5_configure_52 rfl (lv_at hl 2 rfl) ?_
          refine lv_iload_n hx hb dX5_configure_53 rfl (lv_at hl 3 rfl) ?_
          refine lv_iload hx hb dX5_configure_54 (lv_at hl 4 rfl) ?_
          refine cl_VN_v (wc := (xK ad kA g y)) (As := [.int p1, .int p2, .int p3, .int p4]) (rest := []) (b := (ad 2)) (C := RX4) F hK (sg_P (l1 := (xH ad kA g)) (l2 := (xD ad kA g ++ (xV ad kA g y ++ (xI ad kA g ++ (xP ad g))))) hP) (sg_D (l1 := (xH ad kA g)) (l2 := (xD ad kA g ++ (xV ad kA g y ++ (xI ad kA g ++ (xP ad g))))) hD) hS hA (kX4_setParameters l D kA _ (ad 2) (yA y 1) (yA y 2) (yA y 3) (yA y 4) (gI g 0) (gI g 1) (gI g 2) (gI g 3) ((gI g 2) - (gI g 3) - 1) (yF y 0) (yF y 1) (yD y 0) (yD y 1) p1 p2 p3 p4 ) gw_121 gw_67 nw_240 gw_120 gw_0 (va_recv hK.1 hP (ci := 4) (q0 := 2) rfl rfl) hdX4_setParameters ⟨Nat.le_of_ble_eq_true rfl, Nat.le_of_ble_eq_true rfl⟩ hl.1 rfl (Nat.le_of_ble_eq_true rfl) dX5_configure_56 ⟨Nat.le_of_ble_eq_true rfl, Nat.le_of_ble_eq_true rfl⟩ (fun u_56 H locs hw hP1 hD1 hk1 hFc hS => ?_)
          obtain rfl := hw
          have hPD := hp_seg (l1 := (xH ad kA g)) (wc := xK ad kA g y) (l2 := (xD ad kA g ++ (xV ad kA g y ++ (xI ad kA g ++ (xP ad g))))) hP hD hk1 hFc hP1 hD1
          have hP : va_P D vwCl (xW ad kA (sI (sI (sI (sI g 0 p1) 1 p2) 2 p3) 3 p4) y) H := hPD.1
          have hD : va_D A (xW ad kA (sI (sI (sI (sI g 0 p1) 1 p2) 2 p3) 3 p4) y) := hPD.2
          refine lv_aload_n hx hb dX5_configure_59 rfl (lv_at hl 0 rfl) ?_
          refine cl_V_v (wc := (xW ad kA (sI (sI (sI (sI g 0 p1) 1 p2) 2 p3) 3 p4) y)) (As := []) (rest := []) (b := (ad 0)) (C := RX5) F hK hP hD hS hA (kX5_reset l D kA _ ad (sI (sI (sI (sI g 0 p1) 1 p2) 2 p3) 3 p4) y  ) gw_244 gw_65 gw_241 gw_243 gw_1 (va_recv hK.1 hP (ci := 5) (q0 := 0) rfl rfl) hdX5_reset ⟨Nat.le_of_ble_eq_true rfl, Nat.le_of_ble_eq_true rfl⟩ hl.1 rfl (Nat.le_of_ble_eq_true rfl) dX5_configure_60 ⟨Nat.le_of_ble_eq_true rfl, Nat.le_of_ble_eq_true rfl⟩ (fun u_60 H locs hw hP1 hD1 hk1 hFc hS => ?_)
          obtain rfl := hw
          have hP : va_P D vwCl (xW ad kA (sp_reset (sI (sI (sI (sI g 0 p1) 1 p2) 2 p3) 3 p4)) y) H := hP1
          have hD : va_D A (xW ad kA (sp_reset (sI (sI (sI (sI g 0 p1) 1 p2) 2 p3) 3 p4)) y) := hD1.weaken (fun _ _ _ h => hFc _ h)
          refine lv_aload_n hx hb dX5_configure_63 rfl (lv_at hl 0 rfl) ?_
          refine g_get F hK hP inX5 0 rfl rfl 5 (by decide) gw_213 rfl (v := .int (nI (gN (sp_reset (sI (sI (sI (sI g 0 p1) 1 p2) 2 p3) 3 p4)) 0))) rfl dX5_configure_64 ?_
          exact rt _ (xW ad kA (sp_reset (sI (sI (sI (sI g 0 p1) 1 p2) 2 p3) 3 p4)) y) _ _ _ _ hP hD hS dX5_configure_67 (⟨by rw [sp_configure, if_pos ⟨c_7, c_17, c_30, c_41⟩]; rfl, by rw [sp_configure, if_pos ⟨c_7, c_17, c_30, c_41⟩]⟩)
        · refine lv_bipush (v := (-104)) hx hb dX5_configure_44 (by decide) ?_
          exact rt _ (xW ad kA g y) _ _ _ _ hP hD hS dX5_configure_46 (⟨by rw [sp_configure, if_neg (fun h => c_41 h.2.2.2)], by rw [sp_configure, if_neg (fun h => c_41 h.2.2.2)]⟩)
    · refine lv_bipush (v := (-104)) hx hb dX5_configure_20 (by decide) ?_
      exact rt _ (xW ad kA g y) _ _ _ _ hP hD hS dX5_configure_22 (⟨by rw [sp_configure, if_neg (fun h => c_17 h.2.1)], by rw [sp_configure, if_neg (fun h => c_17 h.2.1)]⟩)

set_option maxRecDepth 100000 in
set_option maxHeartbeats 4000000 in
theorem kX5_setCells (l : Launch) (D : va_G) (kA : Nat → ClassId) (sz : Nat) (ad : Nat → Nat) (g : Sg) (y : Ys) (p1 : Int32)  : CtI l yX5_setCells cX5_setCells 3 .int 3 D kA sz (xW ad kA g y) [.ref (ad 0), .int p1] (fun r u => r = (sp_setCells p1 g).1 ∧ u = xW ad kA (sp_setCells p1 g).2 y) := by
  refine ct_i (own := RX5) (by decide) rfl (Nat.le_of_ble_eq_true rfl) ?_
  intro p_ e_ s_ m_ ar_ bw_ me_ co_ A ls Q F hnm hK hA hP hD hS hl hsz rt
  have hx := F.1
  have hb := F.2.1
  have hl : lv_has ls 3 [(0, .ref (ad 0)), (1, .int p1)] := hl
  have hP : va_P D vwCl (xW ad kA g y) s_.heap := hP
  refine lv_iload_n hx hb dX5_setCells_0 rfl (lv_at hl 1 rfl) ?_
  refine lv_iconst (v := 1) hx hb dX5_setCells_1 (by decide) ?_
  refine lv_bipush (v := 8) hx hb dX5_setCells_2 (by decide) ?_
  refine cl_S_i (wc := []) (As := [.int p1, .int 1, .int 8]) (rest := []) F hK P_nil D_nil hS hA (kX5_within l D kA _ p1 1 8 ) gw_239 gw_65 gw_237 gw_238 hdX5_within ⟨Nat.le_of_ble_eq_true rfl, Nat.le_of_ble_eq_true rfl⟩ hl.1 rfl (Nat.le_of_ble_eq_true rfl) dX5_setCells_4 ⟨Nat.le_of_ble_eq_true rfl, Nat.le_of_ble_eq_true rfl⟩ (fun r_4 u_4 H locs hw hP1 hD1 hk1 hFc hS => ?_)
  obtain ⟨rfl, rfl⟩ := hw
  have hP := hp_non hP hk1
  refine b_bne F (P := 1 ≤ p1 ∧ p1 ≤ 8) (tgt := 13) dX5_setCells_7 (by decide) (fun c_7 => ?_) (fun c_7 => ?_)
  · obtain ⟨j, hj, rfl⟩ := nat_of (n := 8) (by decide) (Int32.le_trans (by decide) c_7.1) c_7.2
    refine lv_aload_n hx hb dX5_setCells_13 rfl (lv_at hl 0 rfl) ?_
    refine g_get F hK hP inX5 0 rfl rfl 5 (by decide) gw_213 rfl (v := .int (nI (gN g 0))) rfl dX5_setCells_14 ?_
    refine lv_istore_n (lv' := [(2, .int (nI (gN g 0))), (0, .ref (ad 0)), (1, .int (nI j))]) hx hb dX5_setCells_17 rfl hl (by decide) rfl (fun ls hl => ?_)
    refine lv_aload_n hx hb dX5_setCells_18 rfl (lv_at hl 1 rfl) ?_
    refine lv_iload_n hx hb dX5_setCells_19 rfl (lv_at hl 2 rfl) ?_
    refine g_put F hK hP hD hS inX5 tyX5_ok nmX5 0 rfl rfl 5 (by decide) gw_213 rfl rfl rfl rfl (Nat.le_of_ble_eq_true rfl) dX5_setCells_20 (fun H locs hP hD hS => ?_)
    have hP : va_P D vwCl (xW ad kA (sN g 0 j) y) H := hP
    have hD : va_D A (xW ad kA (sN g 0 j) y) := hD
    refine lv_aload_n hx hb dX5_setCells_23 rfl (lv_at hl 1 rfl) ?_
    refine cl_V_v (wc := (xW ad kA (sN g 0 j) y)) (As := []) (rest := []) (b := (ad 0)) (C := RX5) F hK hP hD hS hA (kX5_reset l D kA _ ad (sN g 0 j) y  ) gw_244 gw_65 gw_241 gw_243 gw_1 (va_recv hK.1 hP (ci := 5) (q0 := 0) rfl rfl) hdX5_reset ⟨Nat.le_of_ble_eq_true rfl, Nat.le_of_ble_eq_true rfl⟩ hl.1 rfl (Nat.le_of_ble_eq_true rfl) dX5_setCells_24 ⟨Nat.le_of_ble_eq_true rfl, Nat.le_of_ble_eq_true rfl⟩ (fun u_24 H locs hw hP1 hD1 hk1 hFc hS => ?_)
    obtain rfl := hw
    have hP : va_P D vwCl (xW ad kA (sp_reset (sN g 0 j)) y) H := hP1
    have hD : va_D A (xW ad kA (sp_reset (sN g 0 j)) y) := hD1.weaken (fun _ _ _ h => hFc _ h)
    refine lv_iload_n hx hb dX5_setCells_27 rfl (lv_at hl 0 rfl) ?_
    exact rt _ (xW ad kA (sp_reset (sN g 0 j)) y) _ _ _ _ hP hD hS dX5_setCells_28 (⟨by rw [sp_setCells, if_pos c_7], by rw [sp_setCells, if_pos c_7, nI_clamp (by omega)]⟩)
  · refine lv_bipush (v := (-104)) hx hb dX5_setCells_10 (by decide) ?_
    exact rt _ (xW ad kA g y) _ _ _ _ hP hD hS dX5_setCells_12 (⟨by rw [sp_setCells, if_neg c_7], by rw [sp_setCells, if_neg c_7]⟩)

set_option maxRecDepth 100000 in
set_option maxHeartbeats 4000000 in
theorem kX5_setTimeout (l : Launch) (D : va_G) (kA : Nat → ClassId) (sz : Nat) (ad : Nat → Nat) (g : Sg) (y : Ys) (p1 : Int32)  : CtI l yX5_setTimeout cX5_setTimeout 3 .int 1 D kA sz (xW ad kA g y) [.ref (ad 0), .int p1] (fun r u => r = (sp_setTimeout p1 g).1 ∧ u = xW ad kA (sp_setTimeout p1 g).2 y) := by
  refine ct_i (own := RX5) (by decide) rfl (Nat.le_of_ble_eq_true rfl) ?_
  intro p_ e_ s_ m_ ar_ bw_ me_ co_ A ls Q F hnm hK hA hP hD hS hl hsz rt
  have hx := F.1
  have hb := F.2.1
  have hl : lv_has ls 3 [(0, .ref (ad 0)), (1, .int p1)] := hl
  have hP : va_P D vwCl (xW ad kA g y) s_.heap := hP
  refine lv_iload_n hx hb dX5_setTimeout_0 rfl (lv_at hl 1 rfl) ?_
  refine lv_iconst (v := 1) hx hb dX5_setTimeout_1 (by decide) ?_
  refine lv_bipush (v := 20) hx hb dX5_setTimeout_2 (by decide) ?_
  refine cl_S_i (wc := []) (As := [.int p1, .int 1, .int 20]) (rest := []) F hK P_nil D_nil hS hA (kX5_within l D kA _ p1 1 20 ) gw_239 gw_65 gw_237 gw_238 hdX5_within ⟨Nat.le_of_ble_eq_true rfl, Nat.le_of_ble_eq_true rfl⟩ hl.1 rfl (Nat.le_of_ble_eq_true rfl) dX5_setTimeout_4 ⟨Nat.le_of_ble_eq_true rfl, Nat.le_of_ble_eq_true rfl⟩ (fun r_4 u_4 H locs hw hP1 hD1 hk1 hFc hS => ?_)
  obtain ⟨rfl, rfl⟩ := hw
  have hP := hp_non hP hk1
  refine b_bne F (P := 1 ≤ p1 ∧ p1 ≤ 20) (tgt := 13) dX5_setTimeout_7 (by decide) (fun c_7 => ?_) (fun c_7 => ?_)
  · refine lv_aload_n hx hb dX5_setTimeout_13 rfl (lv_at hl 0 rfl) ?_
    refine g_get F hK hP inX5 0 rfl rfl 6 (by decide) gw_214 rfl (v := .int (gI g 4)) rfl dX5_setTimeout_14 ?_
    refine lv_istore_n (lv' := [(2, .int (gI g 4)), (0, .ref (ad 0)), (1, .int p1)]) hx hb dX5_setTimeout_17 rfl hl (by decide) rfl (fun ls hl => ?_)
    refine lv_aload_n hx hb dX5_setTimeout_18 rfl (lv_at hl 1 rfl) ?_
    refine lv_iload_n hx hb dX5_setTimeout_19 rfl (lv_at hl 2 rfl) ?_
    refine g_put F hK hP hD hS inX5 tyX5_ok nmX5 0 rfl rfl 6 (by decide) gw_214 rfl rfl rfl rfl (Nat.le_of_ble_eq_true rfl) dX5_setTimeout_20 (fun H locs hP hD hS => ?_)
    have hP : va_P D vwCl (xW ad kA (sI g 4 p1) y) H := hP
    have hD : va_D A (xW ad kA (sI g 4 p1) y) := hD
    refine lv_iload_n hx hb dX5_setTimeout_23 rfl (lv_at hl 0 rfl) ?_
    exact rt _ (xW ad kA (sI g 4 p1) y) _ _ _ _ hP hD hS dX5_setTimeout_24 (⟨by rw [sp_setTimeout, if_pos c_7], by rw [sp_setTimeout, if_pos c_7]⟩)
  · refine lv_bipush (v := (-104)) hx hb dX5_setTimeout_10 (by decide) ?_
    exact rt _ (xW ad kA g y) _ _ _ _ hP hD hS dX5_setTimeout_12 (⟨by rw [sp_setTimeout, if_neg c_7], by rw [sp_setTimeout, if_neg c_7]⟩)

set_option maxRecDepth 100000 in
set_option maxHeartbeats 4000000 in
theorem kX5_cellOf (l : Launch) (D : va_G) (kA : Nat → ClassId) (sz : Nat) (ad : Nat → Nat) (g : Sg) (y : Ys) (p1 : Int32) (hI : Inv g) : CtI l yX5_cellOf cX5_cellOf 2 .int 2 D kA sz (xW ad kA g y) [.ref (ad 0), .int p1] (fun r u => r = sp_cellOf p1 g ∧ u = xW ad kA g y) := by
  refine ct_i (own := RX5) (by decide) rfl (Nat.le_of_ble_eq_true rfl) ?_
  intro p_ e_ s_ m_ ar_ bw_ me_ co_ A ls Q F hnm hK hA hP hD hS hl hsz rt
  have hx := F.1
  have hb := F.2.1
  have hl : lv_has ls 2 [(0, .ref (ad 0)), (1, .int p1)] := hl
  have hP : va_P D vwCl (xW ad kA g y) s_.heap := hP
  obtain ⟨⟨hc1, hc2⟩, ha, hn, hu, hd, hup, hlo, hso, hv⟩ := id hI
  refine lv_iload_n hx hb dX5_cellOf_0 rfl (lv_at hl 1 rfl) ?_
  refine cl_S_i (wc := []) (As := [.int p1]) (rest := []) F hK P_nil D_nil hS hA (kX5_sourceExists l D kA _ p1 ) gw_267 gw_65 gw_265 gw_266 hdX5_sourceExists ⟨Nat.le_of_ble_eq_true rfl, Nat.le_of_ble_eq_true rfl⟩ hl.1 rfl (Nat.le_of_ble_eq_true rfl) dX5_cellOf_1 ⟨Nat.le_of_ble_eq_true rfl, Nat.le_of_ble_eq_true rfl⟩ (fun r_1 u_1 H locs hw hP1 hD1 hk1 hFc hS => ?_)
  obtain ⟨rfl, rfl⟩ := hw
  have hP := hp_non hP hk1
  refine b_beq F (P := 0 ≤ p1 ∧ p1 ≤ 7) (tgt := 15) dX5_cellOf_4 (by decide) (fun c_4 => ?_) (fun c_4 => ?_)
  · refine lv_bipush (v := (-105)) hx hb dX5_cellOf_15 (by decide) ?_
    exact rt _ (xW ad kA g y) _ _ _ _ hP hD hS dX5_cellOf_17 (⟨by rw [sp_cellOf, if_neg c_4], rfl⟩)
  · obtain ⟨j, hj, rfl⟩ := nat_of (n := 7) (by decide) c_4.1 c_4.2
    refine lv_aload_n hx hb dX5_cellOf_7 rfl (lv_at hl 0 rfl) ?_
    refine lv_iload_n hx hb dX5_cellOf_8 rfl (lv_at hl 1 rfl) ?_
    refine cl_V_i (wc := (xW ad kA g y)) (As := [.int (nI j)]) (rest := []) (b := (ad 0)) (C := RX5) F hK hP hD hS hA (kX5_cellIndex l D kA _ ad g y (nI j) hc1 hc2) gw_274 gw_65 gw_271 gw_273 gw_4 (va_recv hK.1 hP (ci := 5) (q0 := 0) rfl rfl) hdX5_cellIndex ⟨Nat.le_of_ble_eq_true rfl, Nat.le_of_ble_eq_true rfl⟩ hl.1 rfl (Nat.le_of_ble_eq_true rfl) dX5_cellOf_9 ⟨Nat.le_of_ble_eq_true rfl, Nat.le_of_ble_eq_true rfl⟩ (fun r_9 u_9 H locs hw hP1 hD1 hk1 hFc hS => ?_)
    obtain ⟨rfl, rfl⟩ := hw
    have hP : va_P D vwCl (xW ad kA g y) H := hP1
    have hD : va_D A (xW ad kA g y) := hD1.weaken (fun _ _ _ h => hFc _ h)
    rw [rem_nat (s := j) (n := gN g 0) (by omega) (show 0 < gN g 0 from hc1) (Nat.lt_of_le_of_lt (show gN g 0 ≤ 8 from hc2) (by decide))]
    refine lv_goto (tgt := 17) hx hb dX5_cellOf_12 (by decide) ?_
    exact rt _ (xW ad kA g y) _ _ _ _ hP hD hS dX5_cellOf_17 (⟨by rw [sp_cellOf, if_pos c_4, nI_clamp (by omega)], rfl⟩)

set_option maxRecDepth 100000 in
set_option maxHeartbeats 4000000 in
theorem kX5_score (l : Launch) (D : va_G) (kA : Nat → ClassId) (sz : Nat) (ad : Nat → Nat) (g : Sg) (y : Ys) (p1 : Int32) (hI : Inv g) : CtI l yX5_score cX5_score 2 .int 2 D kA sz (xW ad kA g y) [.ref (ad 0), .int p1] (fun r u => r = sp_at 0 p1 g ∧ u = xW ad kA g y) := by
  refine ct_i (own := RX5) (by decide) rfl (Nat.le_of_ble_eq_true rfl) ?_
  intro p_ e_ s_ m_ ar_ bw_ me_ co_ A ls Q F hnm hK hA hP hD hS hl hsz rt
  have hx := F.1
  have hb := F.2.1
  have hl : lv_has ls 2 [(0, .ref (ad 0)), (1, .int p1)] := hl
  have hP : va_P D vwCl (xW ad kA g y) s_.heap := hP
  obtain ⟨⟨hc1, hc2⟩, ha, hn, hu, hd, hup, hlo, hso, hv⟩ := id hI
  refine lv_aload_n hx hb dX5_score_0 rfl (lv_at hl 0 rfl) ?_
  refine lv_iload_n hx hb dX5_score_1 rfl (lv_at hl 1 rfl) ?_
  refine cl_V_i (wc := (xW ad kA g y)) (As := [.int p1]) (rest := []) (b := (ad 0)) (C := RX5) F hK hP hD hS hA (kX5_cellExists l D kA _ ad g y p1 ) gw_354 gw_65 gw_351 gw_353 gw_19 (va_recv hK.1 hP (ci := 5) (q0 := 0) rfl rfl) hdX5_cellExists ⟨Nat.le_of_ble_eq_true rfl, Nat.le_of_ble_eq_true rfl⟩ hl.1 rfl (Nat.le_of_ble_eq_true rfl) dX5_score_2 ⟨Nat.le_of_ble_eq_true rfl, Nat.le_of_ble_eq_true rfl⟩ (fun r_2 u_2 H locs hw hP1 hD1 hk1 hFc hS => ?_)
  obtain ⟨rfl, rfl⟩ := hw
  have hP : va_P D vwCl (xW ad kA g y) H := hP1
  have hD : va_D A (xW ad kA g y) := hD1.weaken (fun _ _ _ h => hFc _ h)
  refine b_beq F (P := 0 ≤ p1 ∧ p1 ≤ nI (gN g 0) - 1) (tgt := 20) dX5_score_5 (by decide) (fun c_5 => ?_) (fun c_5 => ?_)
  · refine lv_bipush (v := (-107)) hx hb dX5_score_20 (by decide) ?_
    exact rt _ (xW ad kA g y) _ _ _ _ hP hD hS dX5_score_22 (⟨by rw [sp_at, if_neg c_5], rfl⟩)
  · obtain ⟨j, hj, rfl⟩ := nat_lt (by omega) c_5.1 c_5.2
    refine lv_aload_n hx hb dX5_score_8 rfl (lv_at hl 0 rfl) ?_
    refine g_get F hK hP inX5 0 rfl rfl 0 (by decide) gw_208 rfl (v := .ref (ad 1)) rfl dX5_score_9 ?_
    refine lv_iload_n hx hb dX5_score_12 rfl (lv_at hl 1 rfl) ?_
    refine a_qld F hK hP 1 (f := fun i => some (ad (15 + i))) rfl (j := j) (by omega) (by decide) (b := ad (15 + j)) rfl dX5_score_13 ?_
    refine g_getN F hK hP inX0 (15 + j) (xW_c (by omega)) rfl 0 (by decide) nw_92 rfl (v := .int (gR g 0 j)) rfl dX5_score_14 ?_
    refine lv_goto (tgt := 22) hx hb dX5_score_17 (by decide) ?_
    exact rt _ (xW ad kA g y) _ _ _ _ hP hD hS dX5_score_22 (⟨by rw [sp_at, if_pos c_5, nI_clamp (by omega)], rfl⟩)

set_option maxRecDepth 100000 in
set_option maxHeartbeats 4000000 in
theorem kX5_blockedContacts (l : Launch) (D : va_G) (kA : Nat → ClassId) (sz : Nat) (ad : Nat → Nat) (g : Sg) (y : Ys) (p1 : Int32) (hI : Inv g) : CtI l yX5_blockedContacts cX5_blockedContacts 2 .int 2 D kA sz (xW ad kA g y) [.ref (ad 0), .int p1] (fun r u => r = sp_at 2 p1 g ∧ u = xW ad kA g y) := by
  refine ct_i (own := RX5) (by decide) rfl (Nat.le_of_ble_eq_true rfl) ?_
  intro p_ e_ s_ m_ ar_ bw_ me_ co_ A ls Q F hnm hK hA hP hD hS hl hsz rt
  have hx := F.1
  have hb := F.2.1
  have hl : lv_has ls 2 [(0, .ref (ad 0)), (1, .int p1)] := hl
  have hP : va_P D vwCl (xW ad kA g y) s_.heap := hP
  obtain ⟨⟨hc1, hc2⟩, ha, hn, hu, hd, hup, hlo, hso, hv⟩ := id hI
  refine lv_aload_n hx hb dX5_blockedContacts_0 rfl (lv_at hl 0 rfl) ?_
  refine lv_iload_n hx hb dX5_blockedContacts_1 rfl (lv_at hl 1 rfl) ?_
  refine cl_V_i (wc := (xW ad kA g y)) (As := [.int p1]) (rest := []) (b := (ad 0)) (C := RX5) F hK hP hD hS hA (kX5_cellExists l D kA _ ad g y p1 ) gw_354 gw_65 gw_351 gw_353 gw_19 (va_recv hK.1 hP (ci := 5) (q0 := 0) rfl rfl) hdX5_cellExists ⟨Nat.le_of_ble_eq_true rfl, Nat.le_of_ble_eq_true rfl⟩ hl.1 rfl (Nat.le_of_ble_eq_true rfl) dX5_blockedContacts_2 ⟨Nat.le_of_ble_eq_true rfl, Nat.le_of_ble_eq_true rfl⟩ (fun r_2 u_2 H locs hw hP1 hD1 hk1 hFc hS => ?_)
  obtain ⟨rfl, rfl⟩ := hw
  have hP : va_P D vwCl (xW ad kA g y) H := hP1
  have hD : va_D A (xW ad kA g y) := hD1.weaken (fun _ _ _ h => hFc _ h)
  refine b_beq F (P := 0 ≤ p1 ∧ p1 ≤ nI (gN g 0) - 1) (tgt := 20) dX5_blockedContacts_5 (by decide) (fun c_5 => ?_) (fun c_5 => ?_)
  · refine lv_bipush (v := (-107)) hx hb dX5_blockedContacts_20 (by decide) ?_
    exact rt _ (xW ad kA g y) _ _ _ _ hP hD hS dX5_blockedContacts_22 (⟨by rw [sp_at, if_neg c_5], rfl⟩)
  · obtain ⟨j, hj, rfl⟩ := nat_lt (by omega) c_5.1 c_5.2
    refine lv_aload_n hx hb dX5_blockedContacts_8 rfl (lv_at hl 0 rfl) ?_
    refine g_get F hK hP inX5 0 rfl rfl 0 (by decide) gw_208 rfl (v := .ref (ad 1)) rfl dX5_blockedContacts_9 ?_
    refine lv_iload_n hx hb dX5_blockedContacts_12 rfl (lv_at hl 1 rfl) ?_
    refine a_qld F hK hP 1 (f := fun i => some (ad (15 + i))) rfl (j := j) (by omega) (by decide) (b := ad (15 + j)) rfl dX5_blockedContacts_13 ?_
    refine g_getN F hK hP inX0 (15 + j) (xW_c (by omega)) rfl 3 (by decide) nw_98 rfl (v := .int (gR g 2 j)) rfl dX5_blockedContacts_14 ?_
    refine lv_goto (tgt := 22) hx hb dX5_blockedContacts_17 (by decide) ?_
    exact rt _ (xW ad kA g y) _ _ _ _ hP hD hS dX5_blockedContacts_22 (⟨by rw [sp_at, if_pos c_5, nI_clamp (by omega)], rfl⟩)

set_option maxRecDepth 100000 in
set_option maxHeartbeats 4000000 in
theorem kX5_wronglyBlocked (l : Launch) (D : va_G) (kA : Nat → ClassId) (sz : Nat) (ad : Nat → Nat) (g : Sg) (y : Ys) (p1 : Int32) (hI : Inv g) : CtI l yX5_wronglyBlocked cX5_wronglyBlocked 2 .int 2 D kA sz (xW ad kA g y) [.ref (ad 0), .int p1] (fun r u => r = sp_at 3 p1 g ∧ u = xW ad kA g y) := by
  refine ct_i (own := RX5) (by decide) rfl (Nat.le_of_ble_eq_true rfl) ?_
  intro p_ e_ s_ m_ ar_ bw_ me_ co_ A ls Q F hnm hK hA hP hD hS hl hsz rt
  have hx := F.1
  have hb := F.2.1
  have hl : lv_has ls 2 [(0, .ref (ad 0)), (1, .int p1)] := hl
  have hP : va_P D vwCl (xW ad kA g y) s_.heap := hP
  obtain ⟨⟨hc1, hc2⟩, ha, hn, hu, hd, hup, hlo, hso, hv⟩ := id hI
  refine lv_aload_n hx hb dX5_wronglyBlocked_0 rfl (lv_at hl 0 rfl) ?_
  refine lv_iload_n hx hb dX5_wronglyBlocked_1 rfl (lv_at hl 1 rfl) ?_
  refine cl_V_i (wc := (xW ad kA g y)) (As := [.int p1]) (rest := []) (b := (ad 0)) (C := RX5) F hK hP hD hS hA (kX5_cellExists l D kA _ ad g y p1 ) gw_354 gw_65 gw_351 gw_353 gw_19 (va_recv hK.1 hP (ci := 5) (q0 := 0) rfl rfl) hdX5_cellExists ⟨Nat.le_of_ble_eq_true rfl, Nat.le_of_ble_eq_true rfl⟩ hl.1 rfl (Nat.le_of_ble_eq_true rfl) dX5_wronglyBlocked_2 ⟨Nat.le_of_ble_eq_true rfl, Nat.le_of_ble_eq_true rfl⟩ (fun r_2 u_2 H locs hw hP1 hD1 hk1 hFc hS => ?_)
  obtain ⟨rfl, rfl⟩ := hw
  have hP : va_P D vwCl (xW ad kA g y) H := hP1
  have hD : va_D A (xW ad kA g y) := hD1.weaken (fun _ _ _ h => hFc _ h)
  refine b_beq F (P := 0 ≤ p1 ∧ p1 ≤ nI (gN g 0) - 1) (tgt := 20) dX5_wronglyBlocked_5 (by decide) (fun c_5 => ?_) (fun c_5 => ?_)
  · refine lv_bipush (v := (-107)) hx hb dX5_wronglyBlocked_20 (by decide) ?_
    exact rt _ (xW ad kA g y) _ _ _ _ hP hD hS dX5_wronglyBlocked_22 (⟨by rw [sp_at, if_neg c_5], rfl⟩)
  · obtain ⟨j, hj, rfl⟩ := nat_lt (by omega) c_5.1 c_5.2
    refine lv_aload_n hx hb dX5_wronglyBlocked_8 rfl (lv_at hl 0 rfl) ?_
    refine g_get F hK hP inX5 0 rfl rfl 0 (by decide) gw_208 rfl (v := .ref (ad 1)) rfl dX5_wronglyBlocked_9 ?_
    refine lv_iload_n hx hb dX5_wronglyBlocked_12 rfl (lv_at hl 1 rfl) ?_
    refine a_qld F hK hP 1 (f := fun i => some (ad (15 + i))) rfl (j := j) (by omega) (by decide) (b := ad (15 + j)) rfl dX5_wronglyBlocked_13 ?_
    refine g_getN F hK hP inX0 (15 + j) (xW_c (by omega)) rfl 4 (by decide) nw_100 rfl (v := .int (gR g 3 j)) rfl dX5_wronglyBlocked_14 ?_
    refine lv_goto (tgt := 22) hx hb dX5_wronglyBlocked_17 (by decide) ?_
    exact rt _ (xW ad kA g y) _ _ _ _ hP hD hS dX5_wronglyBlocked_22 (⟨by rw [sp_at, if_pos c_5, nI_clamp (by omega)], rfl⟩)

set_option maxRecDepth 100000 in
set_option maxHeartbeats 4000000 in
theorem kX5_seenDestinations (l : Launch) (D : va_G) (kA : Nat → ClassId) (sz : Nat) (ad : Nat → Nat) (g : Sg) (y : Ys) (p1 : Int32) (hI : Inv g) : CtL l yX5_seenDestinations cX5_seenDestinations 2 .long 2 D kA sz (xW ad kA g y) [.ref (ad 0), .int p1] (fun r u => r = sp_seen p1 g ∧ u = xW ad kA g y) := by
  refine ct_l (own := RX5) (by decide) rfl (Nat.le_of_ble_eq_true rfl) ?_
  intro p_ e_ s_ m_ ar_ bw_ me_ co_ A ls Q F hnm hK hA hP hD hS hl hsz rt
  have hx := F.1
  have hb := F.2.1
  have hl : lv_has ls 2 [(0, .ref (ad 0)), (1, .int p1)] := hl
  have hP : va_P D vwCl (xW ad kA g y) s_.heap := hP
  obtain ⟨⟨hc1, hc2⟩, ha, hn, hu, hd, hup, hlo, hso, hv⟩ := id hI
  refine lv_aload_n hx hb dX5_seenDestinations_0 rfl (lv_at hl 0 rfl) ?_
  refine lv_iload_n hx hb dX5_seenDestinations_1 rfl (lv_at hl 1 rfl) ?_
  refine cl_V_i (wc := (xW ad kA g y)) (As := [.int p1]) (rest := []) (b := (ad 0)) (C := RX5) F hK hP hD hS hA (kX5_cellExists l D kA _ ad g y p1 ) gw_354 gw_65 gw_351 gw_353 gw_19 (va_recv hK.1 hP (ci := 5) (q0 := 0) rfl rfl) hdX5_cellExists ⟨Nat.le_of_ble_eq_true rfl, Nat.le_of_ble_eq_true rfl⟩ hl.1 rfl (Nat.le_of_ble_eq_true rfl) dX5_seenDestinations_2 ⟨Nat.le_of_ble_eq_true rfl, Nat.le_of_ble_eq_true rfl⟩ (fun r_2 u_2 H locs hw hP1 hD1 hk1 hFc hS => ?_)
  obtain ⟨rfl, rfl⟩ := hw
  have hP : va_P D vwCl (xW ad kA g y) H := hP1
  have hD : va_D A (xW ad kA g y) := hD1.weaken (fun _ _ _ h => hFc _ h)
  refine b_beq F (P := 0 ≤ p1 ∧ p1 ≤ nI (gN g 0) - 1) (tgt := 20) dX5_seenDestinations_5 (by decide) (fun c_5 => ?_) (fun c_5 => ?_)
  · refine lv_ldc2 (v := (-107)) hx hb F.2.2.2.1 (F.2.2.2.2 _ gw_421) dX5_seenDestinations_20 ?_
    exact rt _ (xW ad kA g y) _ _ _ _ hP hD hS dX5_seenDestinations_23 (⟨by rw [sp_seen, if_neg c_5], rfl⟩)
  · obtain ⟨j, hj, rfl⟩ := nat_lt (by omega) c_5.1 c_5.2
    refine lv_aload_n hx hb dX5_seenDestinations_8 rfl (lv_at hl 0 rfl) ?_
    refine g_get F hK hP inX5 0 rfl rfl 0 (by decide) gw_208 rfl (v := .ref (ad 1)) rfl dX5_seenDestinations_9 ?_
    refine lv_iload_n hx hb dX5_seenDestinations_12 rfl (lv_at hl 1 rfl) ?_
    refine a_qld F hK hP 1 (f := fun i => some (ad (15 + i))) rfl (j := j) (by omega) (by decide) (b := ad (15 + j)) rfl dX5_seenDestinations_13 ?_
    refine g_getN F hK hP inX0 (15 + j) (xW_c (by omega)) rfl 2 (by decide) nw_96 rfl (v := .long (gE g j)) rfl dX5_seenDestinations_14 ?_
    refine lv_goto (tgt := 23) hx hb dX5_seenDestinations_17 (by decide) ?_
    exact rt _ (xW ad kA g y) _ _ _ _ hP hD hS dX5_seenDestinations_23 (⟨by rw [sp_seen, if_pos c_5, nI_clamp (by omega)], rfl⟩)

set_option maxRecDepth 100000 in
set_option maxHeartbeats 4000000 in
theorem kX5_isBlocked (l : Launch) (D : va_G) (kA : Nat → ClassId) (sz : Nat) (ad : Nat → Nat) (g : Sg) (y : Ys) (p1 : Int32) (hI : Inv g) : CtI l yX5_isBlocked cX5_isBlocked 2 .int 2 D kA sz (xW ad kA g y) [.ref (ad 0), .int p1] (fun r u => r = sp_isB p1 g ∧ u = xW ad kA g y) := by
  refine ct_i (own := RX5) (by decide) rfl (Nat.le_of_ble_eq_true rfl) ?_
  intro p_ e_ s_ m_ ar_ bw_ me_ co_ A ls Q F hnm hK hA hP hD hS hl hsz rt
  have hx := F.1
  have hb := F.2.1
  have hl : lv_has ls 2 [(0, .ref (ad 0)), (1, .int p1)] := hl
  have hP : va_P D vwCl (xW ad kA g y) s_.heap := hP
  obtain ⟨⟨hc1, hc2⟩, ha, hn, hu, hd, hup, hlo, hso, hv⟩ := id hI
  refine lv_aload_n hx hb dX5_isBlocked_0 rfl (lv_at hl 0 rfl) ?_
  refine lv_iload_n hx hb dX5_isBlocked_1 rfl (lv_at hl 1 rfl) ?_
  refine cl_V_i (wc := (xW ad kA g y)) (As := [.int p1]) (rest := []) (b := (ad 0)) (C := RX5) F hK hP hD hS hA (kX5_cellExists l D kA _ ad g y p1 ) gw_354 gw_65 gw_351 gw_353 gw_19 (va_recv hK.1 hP (ci := 5) (q0 := 0) rfl rfl) hdX5_cellExists ⟨Nat.le_of_ble_eq_true rfl, Nat.le_of_ble_eq_true rfl⟩ hl.1 rfl (Nat.le_of_ble_eq_true rfl) dX5_isBlocked_2 ⟨Nat.le_of_ble_eq_true rfl, Nat.le_of_ble_eq_true rfl⟩ (fun r_2 u_2 H locs hw hP1 hD1 hk1 hFc hS => ?_)
  obtain ⟨rfl, rfl⟩ := hw
  have hP : va_P D vwCl (xW ad kA g y) H := hP1
  have hD : va_D A (xW ad kA g y) := hD1.weaken (fun _ _ _ h => hFc _ h)
  refine b_bne F (P := 0 ≤ p1 ∧ p1 ≤ nI (gN g 0) - 1) (tgt := 11) dX5_isBlocked_5 (by decide) (fun c_5 => ?_) (fun c_5 => ?_)
  · obtain ⟨j, hj, rfl⟩ := nat_lt (by omega) c_5.1 c_5.2
    refine lv_aload_n hx hb dX5_isBlocked_11 rfl (lv_at hl 0 rfl) ?_
    refine g_get F hK hP inX5 0 rfl rfl 0 (by decide) gw_208 rfl (v := .ref (ad 1)) rfl dX5_isBlocked_12 ?_
    refine lv_iload_n hx hb dX5_isBlocked_15 rfl (lv_at hl 1 rfl) ?_
    refine a_qld F hK hP 1 (f := fun i => some (ad (15 + i))) rfl (j := j) (by omega) (by decide) (b := ad (15 + j)) rfl dX5_isBlocked_16 ?_
    refine g_getN F hK hP inX0 (15 + j) (xW_c (by omega)) rfl 1 (by decide) nw_94 rfl (v := .int (gR g 1 j)) rfl dX5_isBlocked_17 ?_
    refine lv_if_eq (tgt := 27) hx hb dX5_isBlocked_20 (by decide) (fun c_20 => ?_) (fun c_20 => ?_)
    · refine lv_iconst (v := 0) hx hb dX5_isBlocked_27 (by decide) ?_
      exact rt _ (xW ad kA g y) _ _ _ _ hP hD hS dX5_isBlocked_28 (⟨by rw [sp_isB, if_pos c_5, nI_clamp (by omega), if_pos c_20], rfl⟩)
    · refine lv_iconst (v := 1) hx hb dX5_isBlocked_23 (by decide) ?_
      refine lv_goto (tgt := 28) hx hb dX5_isBlocked_24 (by decide) ?_
      exact rt _ (xW ad kA g y) _ _ _ _ hP hD hS dX5_isBlocked_28 (⟨by rw [sp_isB, if_pos c_5, nI_clamp (by omega), if_neg c_20], rfl⟩)
  · refine lv_bipush (v := (-107)) hx hb dX5_isBlocked_8 (by decide) ?_
    exact rt _ (xW ad kA g y) _ _ _ _ hP hD hS dX5_isBlocked_10 (⟨by rw [sp_isB, if_neg c_5], rfl⟩)

set_option maxRecDepth 100000 in
set_option maxHeartbeats 4000000 in
theorem kX5_attemptCount (l : Launch) (D : va_G) (kA : Nat → ClassId) (sz : Nat) (ad : Nat → Nat) (g : Sg) (y : Ys)  : CtI l yX5_attemptCount cX5_attemptCount 1 .int 0 D kA sz (xW ad kA g y) [.ref (ad 0)] (fun r u => r = nI (gN g 1) ∧ u = xW ad kA g y) := by
  refine ct_i (own := RX5) (by decide) rfl (Nat.le_of_ble_eq_true rfl) ?_
  intro p_ e_ s_ m_ ar_ bw_ me_ co_ A ls Q F hnm hK hA hP hD hS hl hsz rt
  have hx := F.1
  have hb := F.2.1
  have hl : lv_has ls 1 [(0, .ref (ad 0))] := hl
  have hP : va_P D vwCl (xW ad kA g y) s_.heap := hP
  refine lv_aload_n hx hb dX5_attemptCount_0 rfl (lv_at hl 0 rfl) ?_
  refine g_get F hK hP inX5 0 rfl rfl 2 (by decide) gw_210 rfl (v := .ref (ad 3)) rfl dX5_attemptCount_1 ?_
  refine g_getN F hK hP inX2 7 rfl rfl 3 (by decide) nw_169 rfl (v := .int (nI (gN g 1))) rfl dX5_attemptCount_4 ?_
  exact rt _ (xW ad kA g y) _ _ _ _ hP hD hS dX5_attemptCount_7 (⟨rfl, rfl⟩)

set_option maxRecDepth 100000 in
set_option maxHeartbeats 4000000 in
theorem kX5_clock (l : Launch) (D : va_G) (kA : Nat → ClassId) (sz : Nat) (ad : Nat → Nat) (g : Sg) (y : Ys)  : CtI l yX5_clock cX5_clock 1 .int 0 D kA sz (xW ad kA g y) [.ref (ad 0)] (fun r u => r = gI g 5 ∧ u = xW ad kA g y) := by
  refine ct_i (own := RX5) (by decide) rfl (Nat.le_of_ble_eq_true rfl) ?_
  intro p_ e_ s_ m_ ar_ bw_ me_ co_ A ls Q F hnm hK hA hP hD hS hl hsz rt
  have hx := F.1
  have hb := F.2.1
  have hl : lv_has ls 1 [(0, .ref (ad 0))] := hl
  have hP : va_P D vwCl (xW ad kA g y) s_.heap := hP
  refine lv_aload_n hx hb dX5_clock_0 rfl (lv_at hl 0 rfl) ?_
  refine g_get F hK hP inX5 0 rfl rfl 7 (by decide) gw_215 rfl (v := .int (gI g 5)) rfl dX5_clock_1 ?_
  exact rt _ (xW ad kA g y) _ _ _ _ hP hD hS dX5_clock_4 (⟨rfl, rfl⟩)

set_option maxRecDepth 100000 in
set_option maxHeartbeats 4000000 in
theorem kX5_verdictCount (l : Launch) (D : va_G) (kA : Nat → ClassId) (sz : Nat) (ad : Nat → Nat) (g : Sg) (y : Ys)  : CtI l yX5_verdictCount cX5_verdictCount 1 .int 0 D kA sz (xW ad kA g y) [.ref (ad 0)] (fun r u => r = nI (gV g).length ∧ u = xW ad kA g y) := by
  refine ct_i (own := RX5) (by decide) rfl (Nat.le_of_ble_eq_true rfl) ?_
  intro p_ e_ s_ m_ ar_ bw_ me_ co_ A ls Q F hnm hK hA hP hD hS hl hsz rt
  have hx := F.1
  have hb := F.2.1
  have hl : lv_has ls 1 [(0, .ref (ad 0))] := hl
  have hP : va_P D vwCl (xW ad kA g y) s_.heap := hP
  refine lv_aload_n hx hb dX5_verdictCount_0 rfl (lv_at hl 0 rfl) ?_
  refine g_get F hK hP inX5 0 rfl rfl 3 (by decide) gw_211 rfl (v := .ref (ad 7)) rfl dX5_verdictCount_1 ?_
  refine g_getN F hK hP inX3 11 rfl rfl 1 (by decide) nw_187 rfl (v := .int (nI ((gV g).length))) rfl dX5_verdictCount_4 ?_
  exact rt _ (xW ad kA g y) _ _ _ _ hP hD hS dX5_verdictCount_7 (⟨rfl, rfl⟩)

set_option maxRecDepth 100000 in
set_option maxHeartbeats 4000000 in
theorem kX5_describeAttempt (l : Launch) (D : va_G) (kA : Nat → ClassId) (sz : Nat) (ad : Nat → Nat) (g : Sg) (y : Ys) (p1 : Int32) (hI : Inv g) : CtI l yX5_describeAttempt cX5_describeAttempt 3 .int 1 D kA sz (xW ad kA g y) [.ref (ad 0), .int p1] (fun r u => r = sp_desA p1 g ∧ u = xW ad kA g y) := by
  refine ct_i (own := RX5) (by decide) rfl (Nat.le_of_ble_eq_true rfl) ?_
  intro p_ e_ s_ m_ ar_ bw_ me_ co_ A ls Q F hnm hK hA hP hD hS hl hsz rt
  have hx := F.1
  have hb := F.2.1
  have hl : lv_has ls 3 [(0, .ref (ad 0)), (1, .int p1)] := hl
  have hP : va_P D vwCl (xW ad kA g y) s_.heap := hP
  obtain ⟨⟨hc1, hc2⟩, ha, hn, hu, hd, hup, hlo, hso, hv⟩ := id hI
  refine lv_iload_n hx hb dX5_describeAttempt_0 rfl (lv_at hl 1 rfl) ?_
  refine lv_iconst (v := 0) hx hb dX5_describeAttempt_1 (by decide) ?_
  refine lv_aload_n hx hb dX5_describeAttempt_2 rfl (lv_at hl 0 rfl) ?_
  refine g_get F hK hP inX5 0 rfl rfl 2 (by decide) gw_210 rfl (v := .ref (ad 3)) rfl dX5_describeAttempt_3 ?_
  refine g_getN F hK hP inX2 7 rfl rfl 3 (by decide) nw_169 rfl (v := .int (nI (gN g 1))) rfl dX5_describeAttempt_6 ?_
  refine lv_iconst (v := 1) hx hb dX5_describeAttempt_9 (by decide) ?_
  refine lv_isub hx hb dX5_describeAttempt_10 ?_
  refine cl_S_i (wc := []) (As := [.int p1, .int 0, .int ((nI (gN g 1)) - 1)]) (rest := []) F hK P_nil D_nil hS hA (kX5_within l D kA _ p1 0 ((nI (gN g 1)) - 1) ) gw_239 gw_65 gw_237 gw_238 hdX5_within ⟨Nat.le_of_ble_eq_true rfl, Nat.le_of_ble_eq_true rfl⟩ hl.1 rfl (Nat.le_of_ble_eq_true rfl) dX5_describeAttempt_11 ⟨Nat.le_of_ble_eq_true rfl, Nat.le_of_ble_eq_true rfl⟩ (fun r_11 u_11 H locs hw hP1 hD1 hk1 hFc hS => ?_)
  obtain ⟨rfl, rfl⟩ := hw
  have hP := hp_non hP hk1
  refine b_bne F (P := 0 ≤ p1 ∧ p1 ≤ ((nI (gN g 1)) - 1)) (tgt := 20) dX5_describeAttempt_14 (by decide) (fun c_14 => ?_) (fun c_14 => ?_)
  · obtain ⟨j, hj, rfl⟩ := nat_lt (by omega) c_14.1 c_14.2
    refine lv_aload_n hx hb dX5_describeAttempt_20 rfl (lv_at hl 0 rfl) ?_
    refine g_get F hK hP inX5 0 rfl rfl 2 (by decide) gw_210 rfl (v := .ref (ad 3)) rfl dX5_describeAttempt_21 ?_
    refine g_getN F hK hP inX2 7 rfl rfl 2 (by decide) nw_167 rfl (v := .ref (ad 6)) rfl dX5_describeAttempt_24 ?_
    refine lv_iload_n hx hb dX5_describeAttempt_27 rfl (lv_at hl 1 rfl) ?_
    refine a_ild F hK hP 10 (f := gR g 6) rfl (j := j) (by omega) (by decide) dX5_describeAttempt_28 ?_
    refine lv_aload_n hx hb dX5_describeAttempt_29 rfl (lv_at hl 0 rfl) ?_
    refine g_get F hK hP inX5 0 rfl rfl 7 (by decide) gw_215 rfl (v := .int (gI g 5)) rfl dX5_describeAttempt_30 ?_
    refine lv_isub hx hb dX5_describeAttempt_33 ?_
    refine lv_istore_n (lv' := [(2, .int ((gR g 6 j) - (gI g 5))), (0, .ref (ad 0)), (1, .int (nI j))]) hx hb dX5_describeAttempt_34 rfl hl (by decide) rfl (fun ls hl => ?_)
    refine lv_sipush (v := 1000) hx hb dX5_describeAttempt_35 (by decide) ?_
    refine lv_iload_n hx hb dX5_describeAttempt_38 rfl (lv_at hl 0 rfl) ?_
    refine lv_imul hx hb dX5_describeAttempt_39 ?_
    refine lv_bipush (v := 100) hx hb dX5_describeAttempt_40 (by decide) ?_
    refine lv_aload_n hx hb dX5_describeAttempt_42 rfl (lv_at hl 1 rfl) ?_
    refine g_get F hK hP inX5 0 rfl rfl 2 (by decide) gw_210 rfl (v := .ref (ad 3)) rfl dX5_describeAttempt_43 ?_
    refine g_getN F hK hP inX2 7 rfl rfl 0 (by decide) nw_163 rfl (v := .ref (ad 4)) rfl dX5_describeAttempt_46 ?_
    refine lv_iload_n hx hb dX5_describeAttempt_49 rfl (lv_at hl 2 rfl) ?_
    refine a_ild F hK hP 8 (f := gR g 4) rfl (j := j) (by omega) (by decide) dX5_describeAttempt_50 ?_
    refine lv_imul hx hb dX5_describeAttempt_51 ?_
    refine lv_iadd hx hb dX5_describeAttempt_52 ?_
    refine lv_aload_n hx hb dX5_describeAttempt_53 rfl (lv_at hl 1 rfl) ?_
    refine g_get F hK hP inX5 0 rfl rfl 2 (by decide) gw_210 rfl (v := .ref (ad 3)) rfl dX5_describeAttempt_54 ?_
    refine g_getN F hK hP inX2 7 rfl rfl 1 (by decide) nw_165 rfl (v := .ref (ad 5)) rfl dX5_describeAttempt_57 ?_
    refine lv_iload_n hx hb dX5_describeAttempt_60 rfl (lv_at hl 2 rfl) ?_
    refine a_ild F hK hP 9 (f := gR g 5) rfl (j := j) (by omega) (by decide) dX5_describeAttempt_61 ?_
    refine lv_iadd hx hb dX5_describeAttempt_62 ?_
    exact rt _ (xW ad kA g y) _ _ _ _ hP hD hS dX5_describeAttempt_63 (⟨by rw [sp_desA, if_pos c_14, nI_clamp (by omega)]; rfl, rfl⟩)
  · refine lv_bipush (v := (-108)) hx hb dX5_describeAttempt_17 (by decide) ?_
    exact rt _ (xW ad kA g y) _ _ _ _ hP hD hS dX5_describeAttempt_19 (⟨by rw [sp_desA, if_neg c_14], rfl⟩)

theorem dv_iff {b : Int32} {n : Nat} (hn : n < 2 ^ 30) (h : (0 ≤ b ∧ b ≤ 15) ∧ b < nI n) : 0 ≤ b ∧ b ≤ nI (min n 16) - 1 := by
  obtain ⟨j, hj, rfl⟩ := nat_of (n := 15) (by decide) h.1.1 h.1.2
  have h2 := (nI_ltI (by omega) (by omega)).mp h.2
  refine ⟨h.1.1, ?_⟩
  rw [show min n 16 = (min n 16 - 1) + 1 by omega, nI_pred]
  exact (nI_leI (by omega) (by omega)).mpr (by omega)
theorem dv_of {j n : Nat} (hn : n < 2 ^ 30) (hj : j < min n 16) : (0 ≤ nI j ∧ nI j ≤ 15) ∧ nI j < nI n :=
  ⟨⟨(nI_leI (a := 0) (by decide) (by omega)).mpr (by omega), (nI_leI (b := 15) (by omega) (by decide)).mpr (by omega)⟩, (nI_ltI (by omega) (by omega)).mpr (by omega)⟩

set_option maxRecDepth 100000 in
set_option maxHeartbeats 4000000 in
theorem kX5_describeVerdict (l : Launch) (D : va_G) (kA : Nat → ClassId) (sz : Nat) (ad : Nat → Nat) (g : Sg) (y : Ys) (p1 : Int32) (hI : Inv g) (hL : RgX (gV g) (yL y)) : CtI l yX5_describeVerdict cX5_describeVerdict 2 .int 2 D kA sz (xW ad kA g y) [.ref (ad 0), .int p1] (fun r u => r = sp_desV p1 g ∧ u = xW ad kA g y) := by
  refine ct_i (own := RX5) (by decide) rfl (Nat.le_of_ble_eq_true rfl) ?_
  intro p_ e_ s_ m_ ar_ bw_ me_ co_ A ls Q F hnm hK hA hP hD hS hl hsz rt
  have hx := F.1
  have hb := F.2.1
  have hl : lv_has ls 2 [(0, .ref (ad 0)), (1, .int p1)] := hl
  have hP : va_P D vwCl (xW ad kA g y) s_.heap := hP
  obtain ⟨⟨hc1, hc2⟩, ha, hn, hu, hd, hup, hlo, hso, hv⟩ := id hI
  refine lv_iload_n hx hb dX5_describeVerdict_0 rfl (lv_at hl 1 rfl) ?_
  refine lv_iconst (v := 0) hx hb dX5_describeVerdict_1 (by decide) ?_
  refine lv_aload_n hx hb dX5_describeVerdict_2 rfl (lv_at hl 0 rfl) ?_
  refine g_get F hK hP inX5 0 rfl rfl 3 (by decide) gw_211 rfl (v := .ref (ad 7)) rfl dX5_describeVerdict_3 ?_
  refine cl_VN_i (wc := (xV ad kA g y)) (As := []) (rest := [.int 0, .int p1]) (b := (ad 7)) (C := RX3) F hK (sg_P (l1 := (xH ad kA g ++ (xK ad kA g y ++ (xD ad kA g)))) (l2 := (xI ad kA g ++ (xP ad g))) hP) (sg_D (l1 := (xH ad kA g ++ (xK ad kA g y ++ (xD ad kA g)))) (l2 := (xI ad kA g ++ (xP ad g))) hD) hS hA (kX3_kept l D kA _ (ad 7) (ad 8) (gV g).length (yL y)  hv) gw_453 gw_69 nw_450 gw_452 gw_27 (va_recv hK.1 hP (ci := 3) (q0 := 11) rfl rfl) hdX3_kept ⟨Nat.le_of_ble_eq_true rfl, Nat.le_of_ble_eq_true rfl⟩ hl.1 rfl (Nat.le_of_ble_eq_true rfl) dX5_describeVerdict_6 ⟨Nat.le_of_ble_eq_true rfl, Nat.le_of_ble_eq_true rfl⟩ (fun r_6 u_6 H locs hw hP1 hD1 hk1 hFc hS => ?_)
  obtain ⟨rfl, rfl⟩ := hw
  have hPD := hp_seg (l1 := (xH ad kA g ++ (xK ad kA g y ++ (xD ad kA g)))) (wc := xV ad kA g y) (l2 := (xI ad kA g ++ (xP ad g))) hP hD hk1 hFc hP1 hD1
  have hP : va_P D vwCl (xW ad kA g y) H := hPD.1
  have hD : va_D A (xW ad kA g y) := hPD.2
  refine lv_iconst (v := 1) hx hb dX5_describeVerdict_9 (by decide) ?_
  refine lv_isub hx hb dX5_describeVerdict_10 ?_
  refine cl_S_i (wc := []) (As := [.int p1, .int 0, .int ((nI (min (gV g).length 16)) - 1)]) (rest := []) F hK P_nil D_nil hS hA (kX5_within l D kA _ p1 0 ((nI (min (gV g).length 16)) - 1) ) gw_239 gw_65 gw_237 gw_238 hdX5_within ⟨Nat.le_of_ble_eq_true rfl, Nat.le_of_ble_eq_true rfl⟩ hl.1 rfl (Nat.le_of_ble_eq_true rfl) dX5_describeVerdict_11 ⟨Nat.le_of_ble_eq_true rfl, Nat.le_of_ble_eq_true rfl⟩ (fun r_11 u_11 H locs hw hP1 hD1 hk1 hFc hS => ?_)
  obtain ⟨rfl, rfl⟩ := hw
  have hP := hp_non hP hk1
  refine b_bne F (P := 0 ≤ p1 ∧ p1 ≤ ((nI (min (gV g).length 16)) - 1)) (tgt := 20) dX5_describeVerdict_14 (by decide) (fun c_14 => ?_) (fun c_14 => ?_)
  · obtain ⟨j, hj, rfl⟩ := nat_lt (by omega) c_14.1 c_14.2
    refine lv_aload_n hx hb dX5_describeVerdict_20 rfl (lv_at hl 0 rfl) ?_
    refine g_get F hK hP inX5 0 rfl rfl 3 (by decide) gw_211 rfl (v := .ref (ad 7)) rfl dX5_describeVerdict_21 ?_
    refine lv_iload_n hx hb dX5_describeVerdict_24 rfl (lv_at hl 1 rfl) ?_
    refine cl_VN_i (wc := (xV ad kA g y)) (As := [.int (nI j)]) (rest := []) (b := (ad 7)) (C := RX3) F hK (sg_P (l1 := (xH ad kA g ++ (xK ad kA g y ++ (xD ad kA g)))) (l2 := (xI ad kA g ++ (xP ad g))) hP) (sg_D (l1 := (xH ad kA g ++ (xK ad kA g y ++ (xD ad kA g)))) (l2 := (xI ad kA g ++ (xP ad g))) hD) hS hA (kX3_recall l D kA _ (ad 7) (ad 8) (gV g).length (yL y) j hv (by omega)) gw_457 gw_69 nw_454 gw_456 gw_28 (va_recv hK.1 hP (ci := 3) (q0 := 11) rfl rfl) hdX3_recall ⟨Nat.le_of_ble_eq_true rfl, Nat.le_of_ble_eq_true rfl⟩ hl.1 rfl (Nat.le_of_ble_eq_true rfl) dX5_describeVerdict_25 ⟨Nat.le_of_ble_eq_true rfl, Nat.le_of_ble_eq_true rfl⟩ (fun r_25 u_25 H locs hw hP1 hD1 hk1 hFc hS => ?_)
    obtain ⟨rfl, rfl⟩ := hw
    have hPD := hp_seg (l1 := (xH ad kA g ++ (xK ad kA g y ++ (xD ad kA g)))) (wc := xV ad kA g y) (l2 := (xI ad kA g ++ (xP ad g))) hP hD hk1 hFc hP1 hD1
    have hP : va_P D vwCl (xW ad kA g y) H := hPD.1
    have hD : va_D A (xW ad kA g y) := hPD.2
    exact rt _ (xW ad kA g y) _ _ _ _ hP hD hS dX5_describeVerdict_28 (⟨by rw [sp_desV, if_pos (dv_of hv hj), nI_clamp (by omega)]; exact hL j (by omega) (by omega), rfl⟩)
  · refine lv_bipush (v := (-109)) hx hb dX5_describeVerdict_17 (by decide) ?_
    exact rt _ (xW ad kA g y) _ _ _ _ hP hD hS dX5_describeVerdict_19 (⟨by rw [sp_desV, if_neg (fun h => c_14 (dv_iff hv h))], rfl⟩)

set_option maxRecDepth 100000 in
set_option maxHeartbeats 4000000 in
theorem kX5_append (l : Launch) (D : va_G) (kA : Nat → ClassId) (sz : Nat) (ad : Nat → Nat) (g : Sg) (y : Ys) (p1 : Int32) (hI : Inv g) : CtI l yX5_append cX5_append 2 .int 1 D kA sz (xW ad kA g y) [.ref (ad 0), .int p1] (fun r u => r = (sp_append p1 g).1 ∧ u = xW ad kA (sp_append p1 g).2 y) := by
  refine ct_i (own := RX5) (by decide) rfl (Nat.le_of_ble_eq_true rfl) ?_
  intro p_ e_ s_ m_ ar_ bw_ me_ co_ A ls Q F hnm hK hA hP hD hS hl hsz rt
  have hx := F.1
  have hb := F.2.1
  have hl : lv_has ls 2 [(0, .ref (ad 0)), (1, .int p1)] := hl
  have hP : va_P D vwCl (xW ad kA g y) s_.heap := hP
  obtain ⟨⟨hc1, hc2⟩, ha, hn, hu, hd, hup, hlo, hso, hv⟩ := id hI
  refine lv_iload_n hx hb dX5_append_0 rfl (lv_at hl 1 rfl) ?_
  refine lv_bipush (v := 32) hx hb dX5_append_1 (by decide) ?_
  refine lv_bipush (v := 126) hx hb dX5_append_3 (by decide) ?_
  refine cl_S_i (wc := []) (As := [.int p1, .int 32, .int 126]) (rest := []) F hK P_nil D_nil hS hA (kX5_within l D kA _ p1 32 126 ) gw_239 gw_65 gw_237 gw_238 hdX5_within ⟨Nat.le_of_ble_eq_true rfl, Nat.le_of_ble_eq_true rfl⟩ hl.1 rfl (Nat.le_of_ble_eq_true rfl) dX5_append_5 ⟨Nat.le_of_ble_eq_true rfl, Nat.le_of_ble_eq_true rfl⟩ (fun r_5 u_5 H locs hw hP1 hD1 hk1 hFc hS => ?_)
  obtain ⟨rfl, rfl⟩ := hw
  have hP := hp_non hP hk1
  refine b_bne F (P := 32 ≤ p1 ∧ p1 ≤ 126) (tgt := 14) dX5_append_8 (by decide) (fun c_8 => ?_) (fun c_8 => ?_)
  · refine lv_aload_n hx hb dX5_append_14 rfl (lv_at hl 0 rfl) ?_
    refine g_get F hK hP inX5 0 rfl rfl 4 (by decide) gw_212 rfl (v := .ref (ad 9)) rfl dX5_append_15 ?_
    refine lv_iload_n hx hb dX5_append_18 rfl (lv_at hl 1 rfl) ?_
    refine cl_VN_i (wc := (xI ad kA g)) (As := [.int p1]) (rest := []) (b := (ad 9)) (C := RX1) F hK (sg_P (l1 := (xH ad kA g ++ (xK ad kA g y ++ (xD ad kA g ++ (xV ad kA g y))))) (l2 := (xP ad g)) hP) (sg_D (l1 := (xH ad kA g ++ (xK ad kA g y ++ (xD ad kA g ++ (xV ad kA g y))))) (l2 := (xP ad g)) hD) hS hA (kX1_put l D kA _ (ad 9) (ad 10) (gN g 2) (gR g 7) p1 hn) gw_362 gw_70 nw_359 gw_361 gw_20 (va_recv hK.1 hP (ci := 1) (q0 := 13) rfl rfl) hdX1_put ⟨Nat.le_of_ble_eq_true rfl, Nat.le_of_ble_eq_true rfl⟩ hl.1 rfl (Nat.le_of_ble_eq_true rfl) dX5_append_19 ⟨Nat.le_of_ble_eq_true rfl, Nat.le_of_ble_eq_true rfl⟩ (fun r_19 u_19 H locs hw hP1 hD1 hk1 hFc hS => ?_)
    rcases hw with ⟨h9, rfl, rfl⟩ | ⟨h9, rfl, rfl⟩
    · have hPD := hp_seg (l1 := (xH ad kA g ++ (xK ad kA g y ++ (xD ad kA g ++ (xV ad kA g y))))) (wc := xI ad kA g) (l2 := (xP ad g)) hP hD hk1 hFc hP1 hD1
      have hP : va_P D vwCl (xW ad kA (sN (sR g 7 (upd (gR g 7) (gN g 2) p1)) 2 (gN g 2 + 1)) y) H := hPD.1
      have hD : va_D A (xW ad kA (sN (sR g 7 (upd (gR g 7) (gN g 2) p1)) 2 (gN g 2 + 1)) y) := hPD.2
      refine lv_if_ne (tgt := 28) hx hb dX5_append_22 (by decide) (fun _ => ?_) (fun h => absurd h (by decide))
      refine lv_aload_n hx hb dX5_append_28 rfl (lv_at hl 0 rfl) ?_
      refine g_get F hK hP inX5 0 rfl rfl 4 (by decide) gw_212 rfl (v := .ref (ad 9)) rfl dX5_append_29 ?_
      refine g_getN F hK hP inX1 13 rfl rfl 1 (by decide) nw_202 rfl (v := .int (nI (gN g 2 + 1))) rfl dX5_append_32 ?_
      exact rt _ (xW ad kA (sN (sR g 7 (upd (gR g 7) (gN g 2) p1)) 2 (gN g 2 + 1)) y) _ _ _ _ hP hD hS dX5_append_35 (⟨by rw [sp_append, if_pos c_8, if_neg (by omega)], by rw [sp_append, if_pos c_8, if_neg (by omega)]⟩)
    · have hPD := hp_seg (l1 := (xH ad kA g ++ (xK ad kA g y ++ (xD ad kA g ++ (xV ad kA g y))))) (wc := xI ad kA g) (l2 := (xP ad g)) hP hD hk1 hFc hP1 hD1
      have hP : va_P D vwCl (xW ad kA g y) H := hPD.1
      have hD : va_D A (xW ad kA g y) := hPD.2
      refine lv_if_ne (tgt := 28) hx hb dX5_append_22 (by decide) (fun h => absurd h (by decide)) (fun _ => ?_)
      refine lv_bipush (v := (-102)) hx hb dX5_append_25 (by decide) ?_
      exact rt _ (xW ad kA g y) _ _ _ _ hP hD hS dX5_append_27 (⟨by rw [sp_append, if_pos c_8, if_pos (by omega)], by rw [sp_append, if_pos c_8, if_pos (by omega)]⟩)
  · refine lv_bipush (v := (-101)) hx hb dX5_append_11 (by decide) ?_
    exact rt _ (xW ad kA g y) _ _ _ _ hP hD hS dX5_append_13 (⟨by rw [sp_append, if_neg c_8], by rw [sp_append, if_neg c_8]⟩)

set_option maxRecDepth 100000 in
set_option maxHeartbeats 4000000 in
theorem kX5_clearInput (l : Launch) (D : va_G) (kA : Nat → ClassId) (sz : Nat) (ad : Nat → Nat) (g : Sg) (y : Ys)  : CtI l yX5_clearInput cX5_clearInput 2 .int 0 D kA sz (xW ad kA g y) [.ref (ad 0)] (fun r u => r = (sp_clear g).1 ∧ u = xW ad kA (sp_clear g).2 y) := by
  refine ct_i (own := RX5) (by decide) rfl (Nat.le_of_ble_eq_true rfl) ?_
  intro p_ e_ s_ m_ ar_ bw_ me_ co_ A ls Q F hnm hK hA hP hD hS hl hsz rt
  have hx := F.1
  have hb := F.2.1
  have hl : lv_has ls 2 [(0, .ref (ad 0))] := hl
  have hP : va_P D vwCl (xW ad kA g y) s_.heap := hP
  refine lv_aload_n hx hb dX5_clearInput_0 rfl (lv_at hl 0 rfl) ?_
  refine g_get F hK hP inX5 0 rfl rfl 4 (by decide) gw_212 rfl (v := .ref (ad 9)) rfl dX5_clearInput_1 ?_
  refine g_getN F hK hP inX1 13 rfl rfl 1 (by decide) nw_202 rfl (v := .int (nI (gN g 2))) rfl dX5_clearInput_4 ?_
  refine lv_istore_n (lv' := [(1, .int (nI (gN g 2))), (0, .ref (ad 0))]) hx hb dX5_clearInput_7 rfl hl (by decide) rfl (fun ls hl => ?_)
  refine lv_aload_n hx hb dX5_clearInput_8 rfl (lv_at hl 1 rfl) ?_
  refine g_get F hK hP inX5 0 rfl rfl 4 (by decide) gw_212 rfl (v := .ref (ad 9)) rfl dX5_clearInput_9 ?_
  refine lv_iconst (v := 0) hx hb dX5_clearInput_12 (by decide) ?_
  refine g_putN F hK hP hD hS inX1 tyX1_ok nmX1 13 rfl rfl 1 (by decide) nw_202 rfl rfl rfl rfl (Nat.le_of_ble_eq_true rfl) dX5_clearInput_13 (fun H locs hP hD hS => ?_)
  have hP : va_P D vwCl (xW ad kA (sN g 2 0) y) H := hP
  have hD : va_D A (xW ad kA (sN g 2 0) y) := hD
  refine lv_iload_n hx hb dX5_clearInput_16 rfl (lv_at hl 0 rfl) ?_
  exact rt _ (xW ad kA (sN g 2 0) y) _ _ _ _ hP hD hS dX5_clearInput_17 (⟨rfl, rfl⟩)

set_option maxRecDepth 100000 in
set_option maxHeartbeats 4000000 in
theorem kX5_firstError (l : Launch) (D : va_G) (kA : Nat → ClassId) (sz : Nat) (ad : Nat → Nat) (g : Sg) (y : Ys) (hI : Inv g) : CtI l yX5_firstError cX5_firstError 1 .int 3 D kA sz (xW ad kA g y) [.ref (ad 0)] (fun r u => r = nI (fe (gR g 7) (gN g 2)) ∧ u = xW ad kA g y) := by
  refine ct_i (own := RX5) (by decide) rfl (Nat.le_of_ble_eq_true rfl) ?_
  intro p_ e_ s_ m_ ar_ bw_ me_ co_ A ls Q F hnm hK hA hP hD hS hl hsz rt
  have hx := F.1
  have hb := F.2.1
  have hl : lv_has ls 1 [(0, .ref (ad 0))] := hl
  have hP : va_P D vwCl (xW ad kA g y) s_.heap := hP
  obtain ⟨⟨hc1, hc2⟩, ha, hn, hu, hd, hup, hlo, hso, hv⟩ := id hI
  refine lv_aload_n hx hb dX5_firstError_0 rfl (lv_at hl 0 rfl) ?_
  refine g_get F hK hP inX5 0 rfl rfl 4 (by decide) gw_212 rfl (v := .ref (ad 9)) rfl dX5_firstError_1 ?_
  refine cl_VN_i (wc := (xI ad kA g)) (As := []) (rest := []) (b := (ad 9)) (C := RX1) F hK (sg_P (l1 := (xH ad kA g ++ (xK ad kA g y ++ (xD ad kA g ++ (xV ad kA g y))))) (l2 := (xP ad g)) hP) (sg_D (l1 := (xH ad kA g ++ (xK ad kA g y ++ (xD ad kA g ++ (xV ad kA g y))))) (l2 := (xP ad g)) hD) hS hA (kX1_findError l D kA _ (ad 9) (ad 10) (gN g 2) (gR g 7)  hn) gw_374 gw_70 nw_371 gw_373 gw_21 (va_recv hK.1 hP (ci := 1) (q0 := 13) rfl rfl) hdX1_findError ⟨Nat.le_of_ble_eq_true rfl, Nat.le_of_ble_eq_true rfl⟩ hl.1 rfl (Nat.le_of_ble_eq_true rfl) dX5_firstError_4 ⟨Nat.le_of_ble_eq_true rfl, Nat.le_of_ble_eq_true rfl⟩ (fun r_4 u_4 H locs hw hP1 hD1 hk1 hFc hS => ?_)
  obtain ⟨rfl, rfl⟩ := hw
  have hPD := hp_seg (l1 := (xH ad kA g ++ (xK ad kA g y ++ (xD ad kA g ++ (xV ad kA g y))))) (wc := xI ad kA g) (l2 := (xP ad g)) hP hD hk1 hFc hP1 hD1
  have hP : va_P D vwCl (xW ad kA g y) H := hPD.1
  have hD : va_D A (xW ad kA g y) := hPD.2
  exact rt _ (xW ad kA g y) _ _ _ _ hP hD hS dX5_firstError_7 (⟨rfl, rfl⟩)
