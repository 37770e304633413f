set_option maxRecDepth 100000 in
set_option maxHeartbeats 4000000 in
theorem kX5_countSequences (l : Launch) (D : va_G) (kA : Nat → ClassId) (sz : Nat) (ad : Nat → Nat) (g : Sg) (y : Ys) (p1 p2 : Int32) (hI : Inv g) : CtI l yX5_countSequences cX5_countSequences 3 .int 3 D kA sz (xW ad kA g y) [.ref (ad 0), .int p1, .int p2] (fun r u => r = sp_cseq p1 p2 g ∧ ∃ y2, yL y2 = yL y ∧ u = xW ad kA g y2) := by
  refine ct_i (own := RX5) (by decide) rfl (Nat.le_of_ble_eq_true rfl) ?_
  intro p_ e_ s_ m_ ar_ bw_ me_ co_ A ls Q F hnm hK hA hP hD hS hl hsz rt
  have hx := F.1
  have hb := F.2.1
  have hl : lv_has ls 3 [(0, .ref (ad 0)), (1, .int p1), (2, .int p2)] := hl
  have hP : va_P D vwCl (xW ad kA g y) s_.heap := hP
  obtain ⟨⟨hc1, hc2⟩, ha, hn, hu, hd, hup, hlo, hso, hv⟩ := id hI
  obtain ⟨u, d, U, B, hp⟩ := par_of hI
  obtain ⟨pu, pd, pU, pB, ⟨hu1, hu2⟩, ⟨hd1, hd2⟩, ⟨hU1, hU2⟩, hB⟩ := id hp
  refine lv_iload_n hx hb dX5_countSequences_0 rfl (lv_at hl 1 rfl) ?_
  refine lv_iconst (v := 0) hx hb dX5_countSequences_1 (by decide) ?_
  refine lv_bipush (v := 20) hx hb dX5_countSequences_2 (by decide) ?_
  refine cl_S_i (wc := []) (As := [.int p1, .int 0, .int 20]) (rest := []) F hK P_nil D_nil hS hA (kX5_within l D kA _ p1 0 20 ) gw_239 gw_65 gw_237 gw_238 hdX5_within ⟨Nat.le_of_ble_eq_true rfl, Nat.le_of_ble_eq_true rfl⟩ hl.1 rfl (Nat.le_of_ble_eq_true rfl) dX5_countSequences_4 ⟨Nat.le_of_ble_eq_true rfl, Nat.le_of_ble_eq_true rfl⟩ (fun r_4 u_4 H locs hw hP1 hD1 hk1 hFc hS => ?_)
  obtain ⟨rfl, rfl⟩ := hw
  have hP := hp_non hP hk1
  refine b_beq F (P := 0 ≤ p1 ∧ p1 ≤ 20) (tgt := 19) dX5_countSequences_7 (by decide) (fun c_7 => ?_) (fun c_7 => ?_)
  · refine lv_bipush (v := (-104)) hx hb dX5_countSequences_19 (by decide) ?_
    exact rt _ (xW ad kA g y) _ _ _ _ hP hD hS dX5_countSequences_21 (⟨by rw [sp_cseq, if_neg (fun h => c_7 h.1)], y, rfl, rfl⟩)
  · obtain ⟨n, hj, rfl⟩ := nat_of (n := 20) (by decide) c_7.1 c_7.2
    refine lv_iload_n hx hb dX5_countSequences_10 rfl (lv_at hl 2 rfl) ?_
    refine lv_iconst (v := 0) hx hb dX5_countSequences_11 (by decide) ?_
    refine lv_iconst (v := 2) hx hb dX5_countSequences_12 (by decide) ?_
    refine cl_S_i (wc := []) (As := [.int p2, .int 0, .int 2]) (rest := []) F hK P_nil D_nil hS hA (kX5_within l D kA _ p2 0 2 ) gw_239 gw_65 gw_237 gw_238 hdX5_within ⟨Nat.le_of_ble_eq_true rfl, Nat.le_of_ble_eq_true rfl⟩ hl.1 rfl (Nat.le_of_ble_eq_true rfl) dX5_countSequences_13 ⟨Nat.le_of_ble_eq_true rfl, Nat.le_of_ble_eq_true rfl⟩ (fun r_13 u_13 H locs hw hP1 hD1 hk1 hFc hS => ?_)
    obtain ⟨rfl, rfl⟩ := hw
    have hP := hp_non hP hk1
    refine b_bne F (P := 0 ≤ p2 ∧ p2 ≤ 2) (tgt := 22) dX5_countSequences_16 (by decide) (fun c_16 => ?_) (fun c_16 => ?_)
    · refine lv_aload_n hx hb dX5_countSequences_22 rfl (lv_at hl 0 rfl) ?_
      refine g_get F hK hP inX5 0 rfl rfl 1 (by decide) gw_209 rfl (v := .ref (ad 2)) rfl dX5_countSequences_23 ?_
      refine lv_iload_n hx hb dX5_countSequences_26 rfl (lv_at hl 1 rfl) ?_
      refine lv_iload_n hx hb dX5_countSequences_27 rfl (lv_at hl 2 rfl) ?_
      refine cl_VN_i (wc := (xK ad kA g y)) (As := [.int (nI n), .int p2]) (rest := []) (b := (ad 2)) (C := RX4) F hK (sg_P (l1 := (xH ad kA g)) (l2 := (xD ad kA g ++ (xV ad kA g y ++ (xI ad kA g ++ (xP ad g))))) hP) (sg_D (l1 := (xH ad kA g)) (l2 := (xD ad kA g ++ (xV ad kA g y ++ (xI ad kA g ++ (xP ad g))))) hD) hS hA (kX4_sequencesWith l D kA _ (ad 2) (yA y 1) (yA y 2) (yA y 3) (yA y 4) (gI g 0) (gI g 1) (gI g 2) (gI g 3) ((gI g 2) - (gI g 3) - 1) (yF y 0) (yF y 1) (yD y 0) (yD y 1) u d (59 + U - B) U B (59 - B) n p2 pu pd (wdg hp) pB rfl rfl hu2 hd2 hU1 hU2 hB (by omega)) gw_465 gw_67 nw_462 gw_464 gw_29 (va_recv hK.1 hP (ci := 4) (q0 := 2) rfl rfl) hdX4_sequencesWith ⟨Nat.le_of_ble_eq_true rfl, Nat.le_of_ble_eq_true rfl⟩ hl.1 rfl (Nat.le_of_ble_eq_true rfl) dX5_countSequences_28 ⟨Nat.le_of_ble_eq_true rfl, Nat.le_of_ble_eq_true rfl⟩ (fun r_28 u_28 H locs hw hP1 hD1 hk1 hFc hS => ?_)
      obtain ⟨rfl, b1_28, b2_28, e0_28, e1_28, rfl⟩ := hw
      have hPD := hp_seg (l1 := (xH ad kA g)) (wc := xK ad kA g y) (l2 := (xD ad kA g ++ (xV ad kA g y ++ (xI ad kA g ++ (xP ad g))))) hP hD hk1 hFc hP1 hD1
      have hP : va_P D vwCl (xW ad kA g (tYF y b1_28 b2_28 e0_28 e1_28)) H := hPD.1
      have hD : va_D A (xW ad kA g (tYF y b1_28 b2_28 e0_28 e1_28)) := hPD.2
      exact rt _ (xW ad kA g (tYF y b1_28 b2_28 e0_28 e1_28)) _ _ _ _ hP hD hS dX5_countSequences_31 (⟨by rw [sp_cseq, if_pos ⟨c_7, c_16⟩, nI_clamp (by omega), seB_eq hp], tYF y b1_28 b2_28 e0_28 e1_28, rfl, rfl⟩)
    · refine lv_bipush (v := (-104)) hx hb dX5_countSequences_19 (by decide) ?_
      exact rt _ (xW ad kA g y) _ _ _ _ hP hD hS dX5_countSequences_21 (⟨by rw [sp_cseq, if_neg (fun h => c_16 h.2)], y, rfl, rfl⟩)

set_option maxRecDepth 100000 in
set_option maxHeartbeats 4000000 in
theorem kX5_scannerProbability (l : Launch) (D : va_G) (kA : Nat → ClassId) (sz : Nat) (ad : Nat → Nat) (g : Sg) (y : Ys) (p1 p2 : Int32) (hI : Inv g) : CtL l yX5_scannerProbability cX5_scannerProbability 3 .long 3 D kA sz (xW ad kA g y) [.ref (ad 0), .int p1, .int p2] (fun r u => r = sp_prob 0 p1 p2 g ∧ ∃ y2, yL y2 = yL y ∧ u = xW ad kA g y2) := by
  refine ct_l (own := RX5) (by decide) rfl (Nat.le_of_ble_eq_true rfl) ?_
  intro p_ e_ s_ m_ ar_ bw_ me_ co_ A ls Q F hnm hK hA hP hD hS hl hsz rt
  have hx := F.1
  have hb := F.2.1
  have hl : lv_has ls 3 [(0, .ref (ad 0)), (1, .int p1), (2, .int p2)] := hl
  have hP : va_P D vwCl (xW ad kA g y) s_.heap := hP
  obtain ⟨⟨hc1, hc2⟩, ha, hn, hu, hd, hup, hlo, hso, hv⟩ := id hI
  obtain ⟨u, d, U, B, hp⟩ := par_of hI
  obtain ⟨pu, pd, pU, pB, ⟨hu1, hu2⟩, ⟨hd1, hd2⟩, ⟨hU1, hU2⟩, hB⟩ := id hp
  refine lv_iload_n hx hb dX5_scannerProbability_0 rfl (lv_at hl 1 rfl) ?_
  refine lv_iconst (v := 0) hx hb dX5_scannerProbability_1 (by decide) ?_
  refine lv_bipush (v := 100) hx hb dX5_scannerProbability_2 (by decide) ?_
  refine cl_S_i (wc := []) (As := [.int p1, .int 0, .int 100]) (rest := []) F hK P_nil D_nil hS hA (kX5_within l D kA _ p1 0 100 ) gw_239 gw_65 gw_237 gw_238 hdX5_within ⟨Nat.le_of_ble_eq_true rfl, Nat.le_of_ble_eq_true rfl⟩ hl.1 rfl (Nat.le_of_ble_eq_true rfl) dX5_scannerProbability_4 ⟨Nat.le_of_ble_eq_true rfl, Nat.le_of_ble_eq_true rfl⟩ (fun r_4 u_4 H locs hw hP1 hD1 hk1 hFc hS => ?_)
  obtain ⟨rfl, rfl⟩ := hw
  have hP := hp_non hP hk1
  refine b_beq F (P := 0 ≤ p1 ∧ p1 ≤ 100) (tgt := 20) dX5_scannerProbability_7 (by decide) (fun c_7 => ?_) (fun c_7 => ?_)
  · refine lv_ldc2 (v := (-104)) hx hb F.2.2.2.1 (F.2.2.2.2 _ gw_491) dX5_scannerProbability_20 ?_
    exact rt _ (xW ad kA g y) _ _ _ _ hP hD hS dX5_scannerProbability_23 (⟨by rw [sp_prob, if_neg (fun h => c_7 h.1)], y, rfl, rfl⟩)
  · obtain ⟨jp, hj, rfl⟩ := nat_of (n := 100) (by decide) c_7.1 c_7.2
    refine lv_iload_n hx hb dX5_scannerProbability_10 rfl (lv_at hl 2 rfl) ?_
    refine lv_iconst (v := 0) hx hb dX5_scannerProbability_11 (by decide) ?_
    refine lv_bipush (v := 60) hx hb dX5_scannerProbability_12 (by decide) ?_
    refine cl_S_i (wc := []) (As := [.int p2, .int 0, .int 60]) (rest := []) F hK P_nil D_nil hS hA (kX5_within l D kA _ p2 0 60 ) gw_239 gw_65 gw_237 gw_238 hdX5_within ⟨Nat.le_of_ble_eq_true rfl, Nat.le_of_ble_eq_true rfl⟩ hl.1 rfl (Nat.le_of_ble_eq_true rfl) dX5_scannerProbability_14 ⟨Nat.le_of_ble_eq_true rfl, Nat.le_of_ble_eq_true rfl⟩ (fun r_14 u_14 H locs hw hP1 hD1 hk1 hFc hS => ?_)
    obtain ⟨rfl, rfl⟩ := hw
    have hP := hp_non hP hk1
    refine b_bne F (P := 0 ≤ p2 ∧ p2 ≤ 60) (tgt := 24) dX5_scannerProbability_17 (by decide) (fun c_17 => ?_) (fun c_17 => ?_)
    · obtain ⟨n, hn2, rfl⟩ := nat_of (n := 60) (by decide) c_17.1 c_17.2
      refine lv_aload_n hx hb dX5_scannerProbability_24 rfl (lv_at hl 0 rfl) ?_
      refine g_get F hK hP inX5 0 rfl rfl 1 (by decide) gw_209 rfl (v := .ref (ad 2)) rfl dX5_scannerProbability_25 ?_
      refine lv_iload_n hx hb dX5_scannerProbability_28 rfl (lv_at hl 1 rfl) ?_
      refine lv_i2d hx hb dX5_scannerProbability_29 ?_
      refine lv_ldc2d (v := 4636737291354636288) hx hb F.2.2.2.1 (F.2.2.2.2 _ gw_492) dX5_scannerProbability_30 ?_
      refine lv_ddiv hx hb dX5_scannerProbability_33 (pOf_ok hj).n64 ?_
      rw [show FP.ddiv (FP.i2d (nI jp)) 4636737291354636288 = pOf jp from rfl]
      refine lv_iload_n hx hb dX5_scannerProbability_34 rfl (lv_at hl 2 rfl) ?_
      refine cl_VN_d (wc := (xK ad kA g y)) (As := [.double (pOf jp), .int (nI n)]) (rest := []) (b := (ad 2)) (C := RX4) F hK (sg_P (l1 := (xH ad kA g)) (l2 := (xD ad kA g ++ (xV ad kA g y ++ (xI ad kA g ++ (xP ad g))))) hP) (sg_D (l1 := (xH ad kA g)) (l2 := (xD ad kA g ++ (xV ad kA g y ++ (xI ad kA g ++ (xP ad g))))) hD) hS hA (kX4_chanceOfScanner l D kA _ (ad 2) (yA y 1) (yA y 2) (yA y 3) (yA y 4) (gI g 0) (gI g 1) (gI g 2) (gI g 3) ((gI g 2) - (gI g 3) - 1) (yF y 0) (yF y 1) (yD y 0) (yD y 1) jp u d (59 + U - B) (59 - B) B n pu pd (wdg hp) pB (by omega) rfl hu2 hd2 hB hj hn2) gw_496 gw_67 nw_493 gw_495 gw_33 (va_recv hK.1 hP (ci := 4) (q0 := 2) rfl rfl) hdX4_chanceOfScanner ⟨Nat.le_of_ble_eq_true rfl, Nat.le_of_ble_eq_true rfl⟩ hl.1 rfl (Nat.le_of_ble_eq_true rfl) dX5_scannerProbability_35 ⟨Nat.le_of_ble_eq_true rfl, Nat.le_of_ble_eq_true rfl⟩ (fun r_35 u_35 H locs hw hP1 hD1 hk1 hFc hS => ?_)
      obtain ⟨rfl, b1_35, b2_35, e0_35, e1_35, rfl⟩ := hw
      have hPD := hp_seg (l1 := (xH ad kA g)) (wc := xK ad kA g y) (l2 := (xD ad kA g ++ (xV ad kA g y ++ (xI ad kA g ++ (xP ad g))))) hP hD hk1 hFc hP1 hD1
      have hP : va_P D vwCl (xW ad kA g (tYD y b1_35 b2_35 e0_35 e1_35)) H := hPD.1
      have hD : va_D A (xW ad kA g (tYD y b1_35 b2_35 e0_35 e1_35)) := hPD.2
      refine cl_S_l (wc := []) (As := [.double ((chN (pOf jp) (qOf jp) u d (59 + U - B) (59 - B) n).2.1)]) (rest := []) F hK P_nil D_nil hS hA (kX5_bitsOf l D kA _ ((chN (pOf jp) (qOf jp) u d (59 + U - B) (59 - B) n).2.1) (119 * n) (ok_chN (u := u) (d := d) (w := 59 + U - B) (z := 59 - B) (pOf_ok hj) (qOf_ok hj) (by omega) n hn2).2.1) gw_510 gw_65 gw_508 gw_509 hdX5_bitsOf ⟨Nat.le_of_ble_eq_true rfl, Nat.le_of_ble_eq_true rfl⟩ hl.1 rfl (Nat.le_of_ble_eq_true rfl) dX5_scannerProbability_38 ⟨Nat.le_of_ble_eq_true rfl, Nat.le_of_ble_eq_true rfl⟩ (fun r_38 u_38 H locs hw hP1 hD1 hk1 hFc hS => ?_)
      obtain ⟨rfl, rfl⟩ := hw
      have hP := hp_non hP hk1
      exact rt _ (xW ad kA g (tYD y b1_35 b2_35 e0_35 e1_35)) _ _ _ _ hP hD hS dX5_scannerProbability_41 (⟨by rw [sp_prob, if_pos ⟨c_7, c_17⟩, nI_clamp (by omega), nI_clamp (by omega), prB_eq hp]; rfl, tYD y b1_35 b2_35 e0_35 e1_35, rfl, rfl⟩)
    · refine lv_ldc2 (v := (-104)) hx hb F.2.2.2.1 (F.2.2.2.2 _ gw_491) dX5_scannerProbability_20 ?_
      exact rt _ (xW ad kA g y) _ _ _ _ hP hD hS dX5_scannerProbability_23 (⟨by rw [sp_prob, if_neg (fun h => c_17 h.2)], y, rfl, rfl⟩)

set_option maxRecDepth 100000 in
set_option maxHeartbeats 4000000 in
theorem kX5_expectedContacts (l : Launch) (D : va_G) (kA : Nat → ClassId) (sz : Nat) (ad : Nat → Nat) (g : Sg) (y : Ys) (p1 p2 : Int32) (hI : Inv g) : CtL l yX5_expectedContacts cX5_expectedContacts 3 .long 3 D kA sz (xW ad kA g y) [.ref (ad 0), .int p1, .int p2] (fun r u => r = sp_prob 1 p1 p2 g ∧ ∃ y2, yL y2 = yL y ∧ u = xW ad kA g y2) := by
  refine ct_l (own := RX5) (by decide) rfl (Nat.le_of_ble_eq_true rfl) ?_
  intro p_ e_ s_ m_ ar_ bw_ me_ co_ A ls Q F hnm hK hA hP hD hS hl hsz rt
  have hx := F.1
  have hb := F.2.1
  have hl : lv_has ls 3 [(0, .ref (ad 0)), (1, .int p1), (2, .int p2)] := hl
  have hP : va_P D vwCl (xW ad kA g y) s_.heap := hP
  obtain ⟨⟨hc1, hc2⟩, ha, hn, hu, hd, hup, hlo, hso, hv⟩ := id hI
  obtain ⟨u, d, U, B, hp⟩ := par_of hI
  obtain ⟨pu, pd, pU, pB, ⟨hu1, hu2⟩, ⟨hd1, hd2⟩, ⟨hU1, hU2⟩, hB⟩ := id hp
  refine lv_iload_n hx hb dX5_expectedContacts_0 rfl (lv_at hl 1 rfl) ?_
  refine lv_iconst (v := 0) hx hb dX5_expectedContacts_1 (by decide) ?_
  refine lv_bipush (v := 100) hx hb dX5_expectedContacts_2 (by decide) ?_
  refine cl_S_i (wc := []) (As := [.int p1, .int 0, .int 100]) (rest := []) F hK P_nil D_nil hS hA (kX5_within l D kA _ p1 0 100 ) gw_239 gw_65 gw_237 gw_238 hdX5_within ⟨Nat.le_of_ble_eq_true rfl, Nat.le_of_ble_eq_true rfl⟩ hl.1 rfl (Nat.le_of_ble_eq_true rfl) dX5_expectedContacts_4 ⟨Nat.le_of_ble_eq_true rfl, Nat.le_of_ble_eq_true rfl⟩ (fun r_4 u_4 H locs hw hP1 hD1 hk1 hFc hS => ?_)
  obtain ⟨rfl, rfl⟩ := hw
  have hP := hp_non hP hk1
  refine b_beq F (P := 0 ≤ p1 ∧ p1 ≤ 100) (tgt := 20) dX5_expectedContacts_7 (by decide) (fun c_7 => ?_) (fun c_7 => ?_)
  · refine lv_ldc2 (v := (-104)) hx hb F.2.2.2.1 (F.2.2.2.2 _ gw_491) dX5_expectedContacts_20 ?_
    exact rt _ (xW ad kA g y) _ _ _ _ hP hD hS dX5_expectedContacts_23 (⟨by rw [sp_prob, if_neg (fun h => c_7 h.1)], y, rfl, rfl⟩)
  · obtain ⟨jp, hj, rfl⟩ := nat_of (n := 100) (by decide) c_7.1 c_7.2
    refine lv_iload_n hx hb dX5_expectedContacts_10 rfl (lv_at hl 2 rfl) ?_
    refine lv_iconst (v := 0) hx hb dX5_expectedContacts_11 (by decide) ?_
    refine lv_bipush (v := 60) hx hb dX5_expectedContacts_12 (by decide) ?_
    refine cl_S_i (wc := []) (As := [.int p2, .int 0, .int 60]) (rest := []) F hK P_nil D_nil hS hA (kX5_within l D kA _ p2 0 60 ) gw_239 gw_65 gw_237 gw_238 hdX5_within ⟨Nat.le_of_ble_eq_true rfl, Nat.le_of_ble_eq_true rfl⟩ hl.1 rfl (Nat.le_of_ble_eq_true rfl) dX5_expectedContacts_14 ⟨Nat.le_of_ble_eq_true rfl, Nat.le_of_ble_eq_true rfl⟩ (fun r_14 u_14 H locs hw hP1 hD1 hk1 hFc hS => ?_)
    obtain ⟨rfl, rfl⟩ := hw
    have hP := hp_non hP hk1
    refine b_bne F (P := 0 ≤ p2 ∧ p2 ≤ 60) (tgt := 24) dX5_expectedContacts_17 (by decide) (fun c_17 => ?_) (fun c_17 => ?_)
    · obtain ⟨n, hn2, rfl⟩ := nat_of (n := 60) (by decide) c_17.1 c_17.2
      refine lv_aload_n hx hb dX5_expectedContacts_24 rfl (lv_at hl 0 rfl) ?_
      refine g_get F hK hP inX5 0 rfl rfl 1 (by decide) gw_209 rfl (v := .ref (ad 2)) rfl dX5_expectedContacts_25 ?_
      refine lv_iload_n hx hb dX5_expectedContacts_28 rfl (lv_at hl 1 rfl) ?_
      refine lv_i2d hx hb dX5_expectedContacts_29 ?_
      refine lv_ldc2d (v := 4636737291354636288) hx hb F.2.2.2.1 (F.2.2.2.2 _ gw_492) dX5_expectedContacts_30 ?_
      refine lv_ddiv hx hb dX5_expectedContacts_33 (pOf_ok hj).n64 ?_
      rw [show FP.ddiv (FP.i2d (nI jp)) 4636737291354636288 = pOf jp from rfl]
      refine lv_iload_n hx hb dX5_expectedContacts_34 rfl (lv_at hl 2 rfl) ?_
      refine cl_VN_d (wc := (xK ad kA g y)) (As := [.double (pOf jp), .int (nI n)]) (rest := []) (b := (ad 2)) (C := RX4) F hK (sg_P (l1 := (xH ad kA g)) (l2 := (xD ad kA g ++ (xV ad kA g y ++ (xI ad kA g ++ (xP ad g))))) hP) (sg_D (l1 := (xH ad kA g)) (l2 := (xD ad kA g ++ (xV ad kA g y ++ (xI ad kA g ++ (xP ad g))))) hD) hS hA (kX4_meanContacts l D kA _ (ad 2) (yA y 1) (yA y 2) (yA y 3) (yA y 4) (gI g 0) (gI g 1) (gI g 2) (gI g 3) ((gI g 2) - (gI g 3) - 1) (yF y 0) (yF y 1) (yD y 0) (yD y 1) jp u d (59 + U - B) (59 - B) B n pu pd (wdg hp) pB (by omega) rfl hu2 hd2 hB hj hn2) gw_522 gw_67 nw_519 gw_521 gw_36 (va_recv hK.1 hP (ci := 4) (q0 := 2) rfl rfl) hdX4_meanContacts ⟨Nat.le_of_ble_eq_true rfl, Nat.le_of_ble_eq_true rfl⟩ hl.1 rfl (Nat.le_of_ble_eq_true rfl) dX5_expectedContacts_35 ⟨Nat.le_of_ble_eq_true rfl, Nat.le_of_ble_eq_true rfl⟩ (fun r_35 u_35 H locs hw hP1 hD1 hk1 hFc hS => ?_)
      obtain ⟨rfl, b1_35, b2_35, e0_35, e1_35, rfl⟩ := hw
      have hPD := hp_seg (l1 := (xH ad kA g)) (wc := xK ad kA g y) (l2 := (xD ad kA g ++ (xV ad kA g y ++ (xI ad kA g ++ (xP ad g))))) hP hD hk1 hFc hP1 hD1
      have hP : va_P D vwCl (xW ad kA g (tYD y b1_35 b2_35 e0_35 e1_35)) H := hPD.1
      have hD : va_D A (xW ad kA g (tYD y b1_35 b2_35 e0_35 e1_35)) := hPD.2
      refine cl_S_l (wc := []) (As := [.double ((chN (pOf jp) (qOf jp) u d (59 + U - B) (59 - B) n).2.2)]) (rest := []) F hK P_nil D_nil hS hA (kX5_bitsOf l D kA _ ((chN (pOf jp) (qOf jp) u d (59 + U - B) (59 - B) n).2.2) (119 * n) (ok_chN (u := u) (d := d) (w := 59 + U - B) (z := 59 - B) (pOf_ok hj) (qOf_ok hj) (by omega) n hn2).2.2) gw_510 gw_65 gw_508 gw_509 hdX5_bitsOf ⟨Nat.le_of_ble_eq_true rfl, Nat.le_of_ble_eq_true rfl⟩ hl.1 rfl (Nat.le_of_ble_eq_true rfl) dX5_expectedContacts_38 ⟨Nat.le_of_ble_eq_true rfl, Nat.le_of_ble_eq_true rfl⟩ (fun r_38 u_38 H locs hw hP1 hD1 hk1 hFc hS => ?_)
      obtain ⟨rfl, rfl⟩ := hw
      have hP := hp_non hP hk1
      exact rt _ (xW ad kA g (tYD y b1_35 b2_35 e0_35 e1_35)) _ _ _ _ hP hD hS dX5_expectedContacts_41 (⟨by rw [sp_prob, if_pos ⟨c_7, c_17⟩, nI_clamp (by omega), nI_clamp (by omega), prB_eq hp]; rfl, tYD y b1_35 b2_35 e0_35 e1_35, rfl, rfl⟩)
    · refine lv_ldc2 (v := (-104)) hx hb F.2.2.2.1 (F.2.2.2.2 _ gw_491) dX5_expectedContacts_20 ?_
      exact rt _ (xW ad kA g y) _ _ _ _ hP hD hS dX5_expectedContacts_23 (⟨by rw [sp_prob, if_neg (fun h => c_17 h.2)], y, rfl, rfl⟩)

set_option maxRecDepth 100000 in
set_option maxHeartbeats 4000000 in
theorem kX5_mix (l : Launch) (D : va_G) (kA : Nat → ClassId) (sz : Nat) (h x : Int64)  : CtL l yX5_mix cX5_mix 4 .long 0 D kA sz ([]) [.long h, .long x] (fun r u => r = mx h x ∧ u = []) := by
  refine ct_l (own := RX5) (by decide) rfl (Nat.le_of_ble_eq_true rfl) ?_
  intro p_ e_ s_ m_ ar_ bw_ me_ co_ A ls Q F hnm hK hA hP hD hS hl hsz rt
  have hx := F.1
  have hb := F.2.1
  have hl : lv_has ls 4 [(0, .long h), (2, .long x)] := hl
  have hP : va_P D vwCl ([]) s_.heap := hP
  refine lv_ldc2 (v := 31) hx hb F.2.2.2.1 (F.2.2.2.2 _ gw_539) dX5_mix_0 ?_
  refine lv_lload_n hx hb dX5_mix_3 rfl (lv_at hl 0 rfl) ?_
  refine lv_lmul hx hb dX5_mix_4 ?_
  refine lv_lload_n hx hb dX5_mix_5 rfl (lv_at hl 1 rfl) ?_
  refine lv_ladd hx hb dX5_mix_6 ?_
  exact rt _ ([]) _ _ _ _ hP hD hS dX5_mix_7 (⟨rfl, rfl⟩)

set_option maxRecDepth 100000 in
set_option maxHeartbeats 4000000 in
theorem kX5_hashSettings (l : Launch) (D : va_G) (kA : Nat → ClassId) (sz : Nat) (ad : Nat → Nat) (g : Sg) (y : Ys) (h : Int64)  : CtL l yX5_hashSettings cX5_hashSettings 5 .long 1 D kA sz (xW ad kA g y) [.ref (ad 0), .long h] (fun r u => r = mx (mx (mx (mx (mx (mx (mx h (nI (gN g 0)).toInt64) (gI g 0).toInt64) (gI g 1).toInt64) (gI g 2).toInt64) (gI g 3).toInt64) (gI g 4).toInt64) (gI g 5).toInt64 ∧ u = xW ad kA g y) := by
  refine ct_l (own := RX5) (by decide) rfl (Nat.le_of_ble_eq_true rfl) ?_
  intro p_ e_ s_ m_ ar_ bw_ me_ co_ A ls Q F hnm hK hA hP hD hS hl hsz rt
  have hx := F.1
  have hb := F.2.1
  have hl : lv_has ls 5 [(0, .ref (ad 0)), (1, .long h)] := hl
  have hP : va_P D vwCl (xW ad kA g y) s_.heap := hP
  refine lv_lload_n hx hb dX5_hashSettings_0 rfl (lv_at hl 1 rfl) ?_
  refine lv_aload_n hx hb dX5_hashSettings_1 rfl (lv_at hl 0 rfl) ?_
  refine g_get F hK hP inX5 0 rfl rfl 5 (by decide) gw_213 rfl (v := .int (nI (gN g 0))) rfl dX5_hashSettings_2 ?_
  refine lv_i2l (v := (nI (gN g 0)).toInt64) hx hb dX5_hashSettings_5 rfl ?_
  refine cl_S_l (wc := []) (As := [.long h, .long ((nI (gN g 0)).toInt64)]) (rest := []) F hK P_nil D_nil hS hA (kX5_mix l D kA _ h ((nI (gN g 0)).toInt64) ) gw_538 gw_65 gw_536 gw_537 hdX5_mix ⟨Nat.le_of_ble_eq_true rfl, Nat.le_of_ble_eq_true rfl⟩ hl.1 rfl (Nat.le_of_ble_eq_true rfl) dX5_hashSettings_6 ⟨Nat.le_of_ble_eq_true rfl, Nat.le_of_ble_eq_true rfl⟩ (fun r_6 u_6 H locs hw hP1 hD1 hk1 hFc hS => ?_)
  obtain ⟨rfl, rfl⟩ := hw
  have hP := hp_non hP hk1
  refine lv_lstore_n (lv' := [(3, .long (mx h ((nI (gN g 0)).toInt64))), (0, .ref (ad 0)), (1, .long h)]) hx hb dX5_hashSettings_9 rfl hl (by decide) rfl (fun ls hl => ?_)
  refine lv_lload_n hx hb dX5_hashSettings_10 rfl (lv_at hl 0 rfl) ?_
  refine lv_aload_n hx hb dX5_hashSettings_11 rfl (lv_at hl 1 rfl) ?_
  refine g_get F hK hP inX5 0 rfl rfl 1 (by decide) gw_209 rfl (v := .ref (ad 2)) rfl dX5_hashSettings_12 ?_
  refine g_getN F hK hP inX4 2 rfl rfl 0 (by decide) nw_123 rfl (v := .int (gI g 0)) rfl dX5_hashSettings_15 ?_
  refine lv_i2l (v := (gI g 0).toInt64) hx hb dX5_hashSettings_18 rfl ?_
  refine cl_S_l (wc := []) (As := [.long (mx h ((nI (gN g 0)).toInt64)), .long ((gI g 0).toInt64)]) (rest := []) F hK P_nil D_nil hS hA (kX5_mix l D kA _ (mx h ((nI (gN g 0)).toInt64)) ((gI g 0).toInt64) ) gw_538 gw_65 gw_536 gw_537 hdX5_mix ⟨Nat.le_of_ble_eq_true rfl, Nat.le_of_ble_eq_true rfl⟩ hl.1 rfl (Nat.le_of_ble_eq_true rfl) dX5_hashSettings_19 ⟨Nat.le_of_ble_eq_true rfl, Nat.le_of_ble_eq_true rfl⟩ (fun r_19 u_19 H locs hw hP1 hD1 hk1 hFc hS => ?_)
  obtain ⟨rfl, rfl⟩ := hw
  have hP := hp_non hP hk1
  refine lv_lstore_n (lv' := [(3, .long (mx (mx h ((nI (gN g 0)).toInt64)) ((gI g 0).toInt64))), (0, .ref (ad 0)), (1, .long h)]) hx hb dX5_hashSettings_22 rfl hl (by decide) rfl (fun ls hl => ?_)
  refine lv_lload_n hx hb dX5_hashSettings_23 rfl (lv_at hl 0 rfl) ?_
  refine lv_aload_n hx hb dX5_hashSettings_24 rfl (lv_at hl 1 rfl) ?_
  refine g_get F hK hP inX5 0 rfl rfl 1 (by decide) gw_209 rfl (v := .ref (ad 2)) rfl dX5_hashSettings_25 ?_
  refine g_getN F hK hP inX4 2 rfl rfl 1 (by decide) nw_125 rfl (v := .int (gI g 1)) rfl dX5_hashSettings_28 ?_
  refine lv_i2l (v := (gI g 1).toInt64) hx hb dX5_hashSettings_31 rfl ?_
  refine cl_S_l (wc := []) (As := [.long (mx (mx h ((nI (gN g 0)).toInt64)) ((gI g 0).toInt64)), .long ((gI g 1).toInt64)]) (rest := []) F hK P_nil D_nil hS hA (kX5_mix l D kA _ (mx (mx h ((nI (gN g 0)).toInt64)) ((gI g 0).toInt64)) ((gI g 1).toInt64) ) gw_538 gw_65 gw_536 gw_537 hdX5_mix ⟨Nat.le_of_ble_eq_true rfl, Nat.le_of_ble_eq_true rfl⟩ hl.1 rfl (Nat.le_of_ble_eq_true rfl) dX5_hashSettings_32 ⟨Nat.le_of_ble_eq_true rfl, Nat.le_of_ble_eq_true rfl⟩ (fun r_32 u_32 H locs hw hP1 hD1 hk1 hFc hS => ?_)
  obtain ⟨rfl, rfl⟩ := hw
  have hP := hp_non hP hk1
  refine lv_lstore_n (lv' := [(3, .long (mx (mx (mx h ((nI (gN g 0)).toInt64)) ((gI g 0).toInt64)) ((gI g 1).toInt64))), (0, .ref (ad 0)), (1, .long h)]) hx hb dX5_hashSettings_35 rfl hl (by decide) rfl (fun ls hl => ?_)
  refine lv_lload_n hx hb dX5_hashSettings_36 rfl (lv_at hl 0 rfl) ?_
  refine lv_aload_n hx hb dX5_hashSettings_37 rfl (lv_at hl 1 rfl) ?_
  refine g_get F hK hP inX5 0 rfl rfl 1 (by decide) gw_209 rfl (v := .ref (ad 2)) rfl dX5_hashSettings_38 ?_
  refine g_getN F hK hP inX4 2 rfl rfl 2 (by decide) nw_127 rfl (v := .int (gI g 2)) rfl dX5_hashSettings_41 ?_
  refine lv_i2l (v := (gI g 2).toInt64) hx hb dX5_hashSettings_44 rfl ?_
  refine cl_S_l (wc := []) (As := [.long (mx (mx (mx h ((nI (gN g 0)).toInt64)) ((gI g 0).toInt64)) ((gI g 1).toInt64)), .long ((gI g 2).toInt64)]) (rest := []) F hK P_nil D_nil hS hA (kX5_mix l D kA _ (mx (mx (mx h ((nI (gN g 0)).toInt64)) ((gI g 0).toInt64)) ((gI g 1).toInt64)) ((gI g 2).toInt64) ) gw_538 gw_65 gw_536 gw_537 hdX5_mix ⟨Nat.le_of_ble_eq_true rfl, Nat.le_of_ble_eq_true rfl⟩ hl.1 rfl (Nat.le_of_ble_eq_true rfl) dX5_hashSettings_45 ⟨Nat.le_of_ble_eq_true rfl, Nat.le_of_ble_eq_true rfl⟩ (fun r_45 u_45 H locs hw hP1 hD1 hk1 hFc hS => ?_)
  obtain ⟨rfl, rfl⟩ := hw
  have hP := hp_non hP hk1
  refine lv_lstore_n (lv' := [(3, .long (mx (mx (mx (mx h ((nI (gN g 0)).toInt64)) ((gI g 0).toInt64)) ((gI g 1).toInt64)) ((gI g 2).toInt64))), (0, .ref (ad 0)), (1, .long h)]) hx hb dX5_hashSettings_48 rfl hl (by decide) rfl (fun ls hl => ?_)
  refine lv_lload_n hx hb dX5_hashSettings_49 rfl (lv_at hl 0 rfl) ?_
  refine lv_aload_n hx hb dX5_hashSettings_50 rfl (lv_at hl 1 rfl) ?_
  refine g_get F hK hP inX5 0 rfl rfl 1 (by decide) gw_209 rfl (v := .ref (ad 2)) rfl dX5_hashSettings_51 ?_
  refine g_getN F hK hP inX4 2 rfl rfl 3 (by decide) nw_129 rfl (v := .int (gI g 3)) rfl dX5_hashSettings_54 ?_
  refine lv_i2l (v := (gI g 3).toInt64) hx hb dX5_hashSettings_57 rfl ?_
  refine cl_S_l (wc := []) (As := [.long (mx (mx (mx (mx h ((nI (gN g 0)).toInt64)) ((gI g 0).toInt64)) ((gI g 1).toInt64)) ((gI g 2).toInt64)), .long ((gI g 3).toInt64)]) (rest := []) F hK P_nil D_nil hS hA (kX5_mix l D kA _ (mx (mx (mx (mx h ((nI (gN g 0)).toInt64)) ((gI g 0).toInt64)) ((gI g 1).toInt64)) ((gI g 2).toInt64)) ((gI g 3).toInt64) ) gw_538 gw_65 gw_536 gw_537 hdX5_mix ⟨Nat.le_of_ble_eq_true rfl, Nat.le_of_ble_eq_true rfl⟩ hl.1 rfl (Nat.le_of_ble_eq_true rfl) dX5_hashSettings_58 ⟨Nat.le_of_ble_eq_true rfl, Nat.le_of_ble_eq_true rfl⟩ (fun r_58 u_58 H locs hw hP1 hD1 hk1 hFc hS => ?_)
  obtain ⟨rfl, rfl⟩ := hw
  have hP := hp_non hP hk1
  refine lv_lstore_n (lv' := [(3, .long (mx (mx (mx (mx (mx h ((nI (gN g 0)).toInt64)) ((gI g 0).toInt64)) ((gI g 1).toInt64)) ((gI g 2).toInt64)) ((gI g 3).toInt64))), (0, .ref (ad 0)), (1, .long h)]) hx hb dX5_hashSettings_61 rfl hl (by decide) rfl (fun ls hl => ?_)
  refine lv_lload_n hx hb dX5_hashSettings_62 rfl (lv_at hl 0 rfl) ?_
  refine lv_aload_n hx hb dX5_hashSettings_63 rfl (lv_at hl 1 rfl) ?_
  refine g_get F hK hP inX5 0 rfl rfl 6 (by decide) gw_214 rfl (v := .int (gI g 4)) rfl dX5_hashSettings_64 ?_
  refine lv_i2l (v := (gI g 4).toInt64) hx hb dX5_hashSettings_67 rfl ?_
  refine cl_S_l (wc := []) (As := [.long (mx (mx (mx (mx (mx h ((nI (gN g 0)).toInt64)) ((gI g 0).toInt64)) ((gI g 1).toInt64)) ((gI g 2).toInt64)) ((gI g 3).toInt64)), .long ((gI g 4).toInt64)]) (rest := []) F hK P_nil D_nil hS hA (kX5_mix l D kA _ (mx (mx (mx (mx (mx h ((nI (gN g 0)).toInt64)) ((gI g 0).toInt64)) ((gI g 1).toInt64)) ((gI g 2).toInt64)) ((gI g 3).toInt64)) ((gI g 4).toInt64) ) gw_538 gw_65 gw_536 gw_537 hdX5_mix ⟨Nat.le_of_ble_eq_true rfl, Nat.le_of_ble_eq_true rfl⟩ hl.1 rfl (Nat.le_of_ble_eq_true rfl) dX5_hashSettings_68 ⟨Nat.le_of_ble_eq_true rfl, Nat.le_of_ble_eq_true rfl⟩ (fun r_68 u_68 H locs hw hP1 hD1 hk1 hFc hS => ?_)
  obtain ⟨rfl, rfl⟩ := hw
  have hP := hp_non hP hk1
  refine lv_lstore_n (lv' := [(3, .long (mx (mx (mx (mx (mx (mx h ((nI (gN g 0)).toInt64)) ((gI g 0).toInt64)) ((gI g 1).toInt64)) ((gI g 2).toInt64)) ((gI g 3).toInt64)) ((gI g 4).toInt64))), (0, .ref (ad 0)), (1, .long h)]) hx hb dX5_hashSettings_71 rfl hl (by decide) rfl (fun ls hl => ?_)
  refine lv_lload_n hx hb dX5_hashSettings_72 rfl (lv_at hl 0 rfl) ?_
  refine lv_aload_n hx hb dX5_hashSettings_73 rfl (lv_at hl 1 rfl) ?_
  refine g_get F hK hP inX5 0 rfl rfl 7 (by decide) gw_215 rfl (v := .int (gI g 5)) rfl dX5_hashSettings_74 ?_
  refine lv_i2l (v := (gI g 5).toInt64) hx hb dX5_hashSettings_77 rfl ?_
  refine cl_S_l (wc := []) (As := [.long (mx (mx (mx (mx (mx (mx h ((nI (gN g 0)).toInt64)) ((gI g 0).toInt64)) ((gI g 1).toInt64)) ((gI g 2).toInt64)) ((gI g 3).toInt64)) ((gI g 4).toInt64)), .long ((gI g 5).toInt64)]) (rest := []) F hK P_nil D_nil hS hA (kX5_mix l D kA _ (mx (mx (mx (mx (mx (mx h ((nI (gN g 0)).toInt64)) ((gI g 0).toInt64)) ((gI g 1).toInt64)) ((gI g 2).toInt64)) ((gI g 3).toInt64)) ((gI g 4).toInt64)) ((gI g 5).toInt64) ) gw_538 gw_65 gw_536 gw_537 hdX5_mix ⟨Nat.le_of_ble_eq_true rfl, Nat.le_of_ble_eq_true rfl⟩ hl.1 rfl (Nat.le_of_ble_eq_true rfl) dX5_hashSettings_78 ⟨Nat.le_of_ble_eq_true rfl, Nat.le_of_ble_eq_true rfl⟩ (fun r_78 u_78 H locs hw hP1 hD1 hk1 hFc hS => ?_)
  obtain ⟨rfl, rfl⟩ := hw
  have hP := hp_non hP hk1
  exact rt _ (xW ad kA g y) _ _ _ _ hP hD hS dX5_hashSettings_81 (⟨rfl, rfl⟩)

set_option maxRecDepth 100000 in
set_option maxHeartbeats 4000000 in
theorem kX5_hashCells (l : Launch) (D : va_G) (kA : Nat → ClassId) (sz : Nat) (ad : Nat → Nat) (g : Sg) (y : Ys) (h : Int64) (hI : Inv g) : CtL l yX5_hashCells cX5_hashCells 6 .long 3 D kA sz (xW ad kA g y) [.ref (ad 0), .long h] (fun r u => r = dgC g h (gN g 0) ∧ u = xW ad kA g y) := by
  refine ct_l (own := RX5) (by decide) rfl (Nat.le_of_ble_eq_true rfl) ?_
  intro p_ e_ s_ m_ ar_ bw_ me_ co_ A ls Q F hnm hK hA hP hD hS hl hsz rt
  have hx := F.1
  have hb := F.2.1
  have hl : lv_has ls 6 [(0, .ref (ad 0)), (1, .long h)] := hl
  have hP : va_P D vwCl (xW ad kA g y) s_.heap := hP
  obtain ⟨⟨hc1, hc2⟩, ha, hn, hu, hd, hup, hlo, hso, hv⟩ := id hI
  refine lv_lload_n hx hb dX5_hashCells_0 rfl (lv_at hl 1 rfl) ?_
  refine lv_lstore_n (lv' := [(3, .long h), (0, .ref (ad 0)), (1, .long h)]) hx hb dX5_hashCells_1 rfl hl (by decide) rfl (fun ls hl => ?_)
  refine lv_iconst (v := 0) hx hb dX5_hashCells_2 (by decide) ?_
  refine lv_istore (lv' := [(5, .int 0), (3, .long h), (0, .ref (ad 0)), (1, .long h)]) hx hb dX5_hashCells_3 hl (by decide) rfl (fun ls hl => ?_)
  have lp_5 : ∀ (n_5 : Nat) (i : Nat), (i ≤ gN g 0) → (gN g 0 - i) < n_5 → ∀ (H : Heap) (locs : List Loc) (ls : Array Slot), va_P D vwCl (xW ad kA g y) H → va_D A (xW ad kA g y) → va_S A s_.heap H locs → lv_has ls 6 [(0, .ref (ad 0)), (1, .long h), (3, .long (dgC g h i)), (5, .int (nI i))] → W p_ l e_ (rmC 3 0 0) s_ m_ ar_ bw_ me_ co_ H locs 0 0 Q (F0 m_ 5 ls []) := by
    intro n_5
    induction n_5 with
    | zero =>
      intro i hi hm_5
      exact absurd hm_5 (Nat.not_lt_zero _)
    | succ n_5 ih_5 =>
      intro i hi hm_5 H locs ls hP hD hS hl
      refine lv_iload hx hb dX5_hashCells_5 (lv_at hl 3 rfl) ?_
      refine lv_aload_n hx hb dX5_hashCells_7 rfl (lv_at hl 0 rfl) ?_
      refine g_get F hK hP inX5 0 rfl rfl 5 (by decide) gw_213 rfl (v := .int (nI (gN g 0))) rfl dX5_hashCells_8 ?_
      refine b_ge F (a := i) (b := gN g 0) (tgt := 79) dX5_hashCells_11 (by decide) (by omega) (by omega) (fun c_11 => ?_) (fun c_11 => ?_)
      · refine lv_lload_n hx hb dX5_hashCells_79 rfl (lv_at hl 2 rfl) ?_
        exact rt _ (xW ad kA g y) _ _ _ _ hP hD hS dX5_hashCells_80 (⟨by rw [show gN g 0 = i by omega], rfl⟩)
      · refine lv_lload_n hx hb dX5_hashCells_14 rfl (lv_at hl 2 rfl) ?_
        refine lv_aload_n hx hb dX5_hashCells_15 rfl (lv_at hl 0 rfl) ?_
        refine lv_iload hx hb dX5_hashCells_16 (lv_at hl 3 rfl) ?_
        refine cl_V_i (wc := (xW ad kA g y)) (As := [.int (nI i)]) (rest := [.long (dgC g h i)]) (b := (ad 0)) (C := RX5) F hK hP hD hS hA (kX5_score l D kA _ ad g y (nI i) hI) gw_412 gw_65 gw_544 gw_410 gw_411 (va_recv hK.1 hP (ci := 5) (q0 := 0) rfl rfl) hdX5_score ⟨Nat.le_of_ble_eq_true rfl, Nat.le_of_ble_eq_true rfl⟩ hl.1 rfl (Nat.le_of_ble_eq_true rfl) dX5_hashCells_18 ⟨Nat.le_of_ble_eq_true rfl, Nat.le_of_ble_eq_true rfl⟩ (fun r_18 u_18 H locs hw hP1 hD1 hk1 hFc hS => ?_)
        obtain ⟨rfl, rfl⟩ := hw
        have hP : va_P D vwCl (xW ad kA g y) H := hP1
        have hD : va_D A (xW ad kA g y) := hD1.weaken (fun _ _ _ h => hFc _ h)
        rw [show sp_at 0 (nI i) g = gR g 0 i from at_in (by omega) hc2]
        refine lv_i2l (v := (gR g 0 i).toInt64) hx hb dX5_hashCells_21 rfl ?_
        refine cl_S_l (wc := []) (As := [.long (dgC g h i), .long ((gR g 0 i).toInt64)]) (rest := []) F hK P_nil D_nil hS hA (kX5_mix l D kA _ (dgC g h i) ((gR g 0 i).toInt64) ) gw_538 gw_65 gw_536 gw_537 hdX5_mix ⟨Nat.le_of_ble_eq_true rfl, Nat.le_of_ble_eq_true rfl⟩ hl.1 rfl (Nat.le_of_ble_eq_true rfl) dX5_hashCells_22 ⟨Nat.le_of_ble_eq_true rfl, Nat.le_of_ble_eq_true rfl⟩ (fun r_22 u_22 H locs hw hP1 hD1 hk1 hFc hS => ?_)
        obtain ⟨rfl, rfl⟩ := hw
        have hP := hp_non hP hk1
        refine lv_lstore_n (lv' := [(3, .long (mx (dgC g h i) ((gR g 0 i).toInt64))), (0, .ref (ad 0)), (1, .long h), (5, .int (nI i))]) hx hb dX5_hashCells_25 rfl hl (by decide) rfl (fun ls hl => ?_)
        refine lv_lload_n hx hb dX5_hashCells_26 rfl (lv_at hl 0 rfl) ?_
        refine lv_aload_n hx hb dX5_hashCells_27 rfl (lv_at hl 1 rfl) ?_
        refine lv_iload hx hb dX5_hashCells_28 (lv_at hl 3 rfl) ?_
        refine cl_V_i (wc := (xW ad kA g y)) (As := [.int (nI i)]) (rest := [.long (mx (dgC g h i) ((gR g 0 i).toInt64))]) (b := (ad 0)) (C := RX5) F hK hP hD hS hA (kX5_isBlocked l D kA _ ad g y (nI i) hI) gw_416 gw_65 gw_545 gw_414 gw_415 (va_recv hK.1 hP (ci := 5) (q0 := 0) rfl rfl) hdX5_isBlocked ⟨Nat.le_of_ble_eq_true rfl, Nat.le_of_ble_eq_true rfl⟩ hl.1 rfl (Nat.le_of_ble_eq_true rfl) dX5_hashCells_30 ⟨Nat.le_of_ble_eq_true rfl, Nat.le_of_ble_eq_true rfl⟩ (fun r_30 u_30 H locs hw hP1 hD1 hk1 hFc hS => ?_)
        obtain ⟨rfl, rfl⟩ := hw
        have hP : va_P D vwCl (xW ad kA g y) H := hP1
        have hD : va_D A (xW ad kA g y) := hD1.weaken (fun _ _ _ h => hFc _ h)
        refine lv_i2l (v := (sp_isB (nI i) g).toInt64) hx hb dX5_hashCells_33 rfl ?_
        rw [show (sp_isB (nI i) g).toInt64 = if gR g 1 i = 0 then 0 else 1 from isB_in (by omega) hc2]
        refine cl_S_l (wc := []) (As := [.long (mx (dgC g h i) ((gR g 0 i).toInt64)), .long (if gR g 1 i = 0 then 0 else 1)]) (rest := []) F hK P_nil D_nil hS hA (kX5_mix l D kA _ (mx (dgC g h i) ((gR g 0 i).toInt64)) (if gR g 1 i = 0 then 0 else 1) ) gw_538 gw_65 gw_536 gw_537 hdX5_mix ⟨Nat.le_of_ble_eq_true rfl, Nat.le_of_ble_eq_true rfl⟩ hl.1 rfl (Nat.le_of_ble_eq_true rfl) dX5_hashCells_34 ⟨Nat.le_of_ble_eq_true rfl, Nat.le_of_ble_eq_true rfl⟩ (fun r_34 u_34 H locs hw hP1 hD1 hk1 hFc hS => ?_)
        obtain ⟨rfl, rfl⟩ := hw
        have hP := hp_non hP hk1
        refine lv_lstore_n (lv' := [(3, .long (mx (mx (dgC g h i) ((gR g 0 i).toInt64)) (if gR g 1 i = 0 then 0 else 1))), (0, .ref (ad 0)), (1, .long h), (5, .int (nI i))]) hx hb dX5_hashCells_37 rfl hl (by decide) rfl (fun ls hl => ?_)
        refine lv_lload_n hx hb dX5_hashCells_38 rfl (lv_at hl 0 rfl) ?_
        refine lv_aload_n hx hb dX5_hashCells_39 rfl (lv_at hl 1 rfl) ?_
        refine lv_iload hx hb dX5_hashCells_40 (lv_at hl 3 rfl) ?_
        refine cl_V_l (wc := (xW ad kA g y)) (As := [.int (nI i)]) (rest := [.long (mx (mx (dgC g h i) ((gR g 0 i).toInt64)) (if gR g 1 i = 0 then 0 else 1))]) (b := (ad 0)) (C := RX5) F hK hP hD hS hA (kX5_seenDestinations l D kA _ ad g y (nI i) hI) gw_420 gw_65 gw_546 gw_418 gw_419 (va_recv hK.1 hP (ci := 5) (q0 := 0) rfl rfl) hdX5_seenDestinations ⟨Nat.le_of_ble_eq_true rfl, Nat.le_of_ble_eq_true rfl⟩ hl.1 rfl (Nat.le_of_ble_eq_true rfl) dX5_hashCells_42 ⟨Nat.le_of_ble_eq_true rfl, Nat.le_of_ble_eq_true rfl⟩ (fun r_42 u_42 H locs hw hP1 hD1 hk1 hFc hS => ?_)
        obtain ⟨rfl, rfl⟩ := hw
        have hP : va_P D vwCl (xW ad kA g y) H := hP1
        have hD : va_D A (xW ad kA g y) := hD1.weaken (fun _ _ _ h => hFc _ h)
        rw [show sp_seen (nI i) g = gE g i from seen_in (by omega) hc2]
        refine cl_S_l (wc := []) (As := [.long (mx (mx (dgC g h i) ((gR g 0 i).toInt64)) (if gR g 1 i = 0 then 0 else 1)), .long (gE g i)]) (rest := []) F hK P_nil D_nil hS hA (kX5_mix l D kA _ (mx (mx (dgC g h i) ((gR g 0 i).toInt64)) (if gR g 1 i = 0 then 0 else 1)) (gE g i) ) gw_538 gw_65 gw_536 gw_537 hdX5_mix ⟨Nat.le_of_ble_eq_true rfl, Nat.le_of_ble_eq_true rfl⟩ hl.1 rfl (Nat.le_of_ble_eq_true rfl) dX5_hashCells_45 ⟨Nat.le_of_ble_eq_true rfl, Nat.le_of_ble_eq_true rfl⟩ (fun r_45 u_45 H locs hw hP1 hD1 hk1 hFc hS => ?_)
        obtain ⟨rfl, rfl⟩ := hw
        have hP := hp_non hP hk1
        refine lv_lstore_n (lv' := [(3, .long (mx (mx (mx (dgC g h i) ((gR g 0 i).toInt64)) (if gR g 1 i = 0 then 0 else 1)) (gE g i))), (0, .ref (ad 0)), (1, .long h), (5, .int (nI i))]) hx hb dX5_hashCells_48 rfl hl (by decide) rfl (fun ls hl => ?_)
        refine lv_lload_n hx hb dX5_hashCells_49 rfl (lv_at hl 0 rfl) ?_
        refine lv_aload_n hx hb dX5_hashCells_50 rfl (lv_at hl 1 rfl) ?_
        refine lv_iload hx hb dX5_hashCells_51 (lv_at hl 3 rfl) ?_
        refine cl_V_i (wc := (xW ad kA g y)) (As := [.int (nI i)]) (rest := [.long (mx (mx (mx (dgC g h i) ((gR g 0 i).toInt64)) (if gR g 1 i = 0 then 0 else 1)) (gE g i))]) (b := (ad 0)) (C := RX5) F hK hP hD hS hA (kX5_blockedContacts l D kA _ ad g y (nI i) hI) gw_425 gw_65 gw_547 gw_423 gw_424 (va_recv hK.1 hP (ci := 5) (q0 := 0) rfl rfl) hdX5_blockedContacts ⟨Nat.le_of_ble_eq_true rfl, Nat.le_of_ble_eq_true rfl⟩ hl.1 rfl (Nat.le_of_ble_eq_true rfl) dX5_hashCells_53 ⟨Nat.le_of_ble_eq_true rfl, Nat.le_of_ble_eq_true rfl⟩ (fun r_53 u_53 H locs hw hP1 hD1 hk1 hFc hS => ?_)
        obtain ⟨rfl, rfl⟩ := hw
        have hP : va_P D vwCl (xW ad kA g y) H := hP1
        have hD : va_D A (xW ad kA g y) := hD1.weaken (fun _ _ _ h => hFc _ h)
        rw [show sp_at 2 (nI i) g = gR g 2 i from at_in (by omega) hc2]
        refine lv_i2l (v := (gR g 2 i).toInt64) hx hb dX5_hashCells_56 rfl ?_
        refine cl_S_l (wc := []) (As := [.long (mx (mx (mx (dgC g h i) ((gR g 0 i).toInt64)) (if gR g 1 i = 0 then 0 else 1)) (gE g i)), .long ((gR g 2 i).toInt64)]) (rest := []) F hK P_nil D_nil hS hA (kX5_mix l D kA _ (mx (mx (mx (dgC g h i) ((gR g 0 i).toInt64)) (if gR g 1 i = 0 then 0 else 1)) (gE g i)) ((gR g 2 i).toInt64) ) gw_538 gw_65 gw_536 gw_537 hdX5_mix ⟨Nat.le_of_ble_eq_true rfl, Nat.le_of_ble_eq_true rfl⟩ hl.1 rfl (Nat.le_of_ble_eq_true rfl) dX5_hashCells_57 ⟨Nat.le_of_ble_eq_true rfl, Nat.le_of_ble_eq_true rfl⟩ (fun r_57 u_57 H locs hw hP1 hD1 hk1 hFc hS => ?_)
        obtain ⟨rfl, rfl⟩ := hw
        have hP := hp_non hP hk1
        refine lv_lstore_n (lv' := [(3, .long (mx (mx (mx (mx (dgC g h i) ((gR g 0 i).toInt64)) (if gR g 1 i = 0 then 0 else 1)) (gE g i)) ((gR g 2 i).toInt64))), (0, .ref (ad 0)), (1, .long h), (5, .int (nI i))]) hx hb dX5_hashCells_60 rfl hl (by decide) rfl (fun ls hl => ?_)
        refine lv_lload_n hx hb dX5_hashCells_61 rfl (lv_at hl 0 rfl) ?_
        refine lv_aload_n hx hb dX5_hashCells_62 rfl (lv_at hl 1 rfl) ?_
        refine lv_iload hx hb dX5_hashCells_63 (lv_at hl 3 rfl) ?_
        refine cl_V_i (wc := (xW ad kA g y)) (As := [.int (nI i)]) (rest := [.long (mx (mx (mx (mx (dgC g h i) ((gR g 0 i).toInt64)) (if gR g 1 i = 0 then 0 else 1)) (gE g i)) ((gR g 2 i).toInt64))]) (b := (ad 0)) (C := RX5) F hK hP hD hS hA (kX5_wronglyBlocked l D kA _ ad g y (nI i) hI) gw_429 gw_65 gw_548 gw_427 gw_428 (va_recv hK.1 hP (ci := 5) (q0 := 0) rfl rfl) hdX5_wronglyBlocked ⟨Nat.le_of_ble_eq_true rfl, Nat.le_of_ble_eq_true rfl⟩ hl.1 rfl (Nat.le_of_ble_eq_true rfl) dX5_hashCells_65 ⟨Nat.le_of_ble_eq_true rfl, Nat.le_of_ble_eq_true rfl⟩ (fun r_65 u_65 H locs hw hP1 hD1 hk1 hFc hS => ?_)
        obtain ⟨rfl, rfl⟩ := hw
        have hP : va_P D vwCl (xW ad kA g y) H := hP1
        have hD : va_D A (xW ad kA g y) := hD1.weaken (fun _ _ _ h => hFc _ h)
        rw [show sp_at 3 (nI i) g = gR g 3 i from at_in (by omega) hc2]
        refine lv_i2l (v := (gR g 3 i).toInt64) hx hb dX5_hashCells_68 rfl ?_
        refine cl_S_l (wc := []) (As := [.long (mx (mx (mx (mx (dgC g h i) ((gR g 0 i).toInt64)) (if gR g 1 i = 0 then 0 else 1)) (gE g i)) ((gR g 2 i).toInt64)), .long ((gR g 3 i).toInt64)]) (rest := []) F hK P_nil D_nil hS hA (kX5_mix l D kA _ (mx (mx (mx (mx (dgC g h i) ((gR g 0 i).toInt64)) (if gR g 1 i = 0 then 0 else 1)) (gE g i)) ((gR g 2 i).toInt64)) ((gR g 3 i).toInt64) ) gw_538 gw_65 gw_536 gw_537 hdX5_mix ⟨Nat.le_of_ble_eq_true rfl, Nat.le_of_ble_eq_true rfl⟩ hl.1 rfl (Nat.le_of_ble_eq_true rfl) dX5_hashCells_69 ⟨Nat.le_of_ble_eq_true rfl, Nat.le_of_ble_eq_true rfl⟩ (fun r_69 u_69 H locs hw hP1 hD1 hk1 hFc hS => ?_)
        obtain ⟨rfl, rfl⟩ := hw
        have hP := hp_non hP hk1
        refine lv_lstore_n (lv' := [(3, .long (mx (mx (mx (mx (mx (dgC g h i) ((gR g 0 i).toInt64)) (if gR g 1 i = 0 then 0 else 1)) (gE g i)) ((gR g 2 i).toInt64)) ((gR g 3 i).toInt64))), (0, .ref (ad 0)), (1, .long h), (5, .int (nI i))]) hx hb dX5_hashCells_72 rfl hl (by decide) rfl (fun ls hl => ?_)
        refine lv_iinc (v := nI (i + 1)) (lv' := [(5, .int (nI (i + 1))), (3, .long (mx (mx (mx (mx (mx (dgC g h i) ((gR g 0 i).toInt64)) (if gR g 1 i = 0 then 0 else 1)) (gE g i)) ((gR g 2 i).toInt64)) ((gR g 3 i).toInt64))), (0, .ref (ad 0)), (1, .long h)]) hx hb dX5_hashCells_73 hl (k := 3) rfl (nI_add i 1) (by decide) rfl (fun ls hl => ?_)
        refine lv_goto (tgt := 5) hx hb dX5_hashCells_76 (by decide) ?_
        exact ih_5  (i + 1) (by omega) (by omega) _ _ _ hP hD hS (lv_sub hl [2, 3, 1, 0] rfl)
  exact lp_5 _ 0 (Nat.zero_le _) (Nat.lt_succ_self _) _ _ _ hP hD hS (lv_sub hl [2, 3, 1, 0] rfl)

set_option maxRecDepth 100000 in
set_option maxHeartbeats 4000000 in
theorem kX5_hashAttempts (l : Launch) (D : va_G) (kA : Nat → ClassId) (sz : Nat) (ad : Nat → Nat) (g : Sg) (y : Ys) (h : Int64) (hI : Inv g) : CtL l yX5_hashAttempts cX5_hashAttempts 6 .long 2 D kA sz (xW ad kA g y) [.ref (ad 0), .long h] (fun r u => r = dgA g (mx h (nI (gN g 1)).toInt64) (gN g 1) ∧ u = xW ad kA g y) := by
  refine ct_l (own := RX5) (by decide) rfl (Nat.le_of_ble_eq_true rfl) ?_
  intro p_ e_ s_ m_ ar_ bw_ me_ co_ A ls Q F hnm hK hA hP hD hS hl hsz rt
  have hx := F.1
  have hb := F.2.1
  have hl : lv_has ls 6 [(0, .ref (ad 0)), (1, .long h)] := hl
  have hP : va_P D vwCl (xW ad kA g y) s_.heap := hP
  obtain ⟨⟨hc1, hc2⟩, ha, hn, hu, hd, hup, hlo, hso, hv⟩ := id hI
  refine lv_lload_n hx hb dX5_hashAttempts_0 rfl (lv_at hl 1 rfl) ?_
  refine lv_aload_n hx hb dX5_hashAttempts_1 rfl (lv_at hl 0 rfl) ?_
  refine g_get F hK hP inX5 0 rfl rfl 2 (by decide) gw_210 rfl (v := .ref (ad 3)) rfl dX5_hashAttempts_2 ?_
  refine g_getN F hK hP inX2 7 rfl rfl 3 (by decide) nw_169 rfl (v := .int (nI (gN g 1))) rfl dX5_hashAttempts_5 ?_
  refine lv_i2l (v := (nI (gN g 1)).toInt64) hx hb dX5_hashAttempts_8 rfl ?_
  refine cl_S_l (wc := []) (As := [.long h, .long ((nI (gN g 1)).toInt64)]) (rest := []) F hK P_nil D_nil hS hA (kX5_mix l D kA _ h ((nI (gN g 1)).toInt64) ) gw_538 gw_65 gw_536 gw_537 hdX5_mix ⟨Nat.le_of_ble_eq_true rfl, Nat.le_of_ble_eq_true rfl⟩ hl.1 rfl (Nat.le_of_ble_eq_true rfl) dX5_hashAttempts_9 ⟨Nat.le_of_ble_eq_true rfl, Nat.le_of_ble_eq_true rfl⟩ (fun r_9 u_9 H locs hw hP1 hD1 hk1 hFc hS => ?_)
  obtain ⟨rfl, rfl⟩ := hw
  have hP := hp_non hP hk1
  refine lv_lstore_n (lv' := [(3, .long (mx h ((nI (gN g 1)).toInt64))), (0, .ref (ad 0)), (1, .long h)]) hx hb dX5_hashAttempts_12 rfl hl (by decide) rfl (fun ls hl => ?_)
  refine lv_iconst (v := 0) hx hb dX5_hashAttempts_13 (by decide) ?_
  refine lv_istore (lv' := [(5, .int 0), (3, .long (mx h ((nI (gN g 1)).toInt64))), (0, .ref (ad 0)), (1, .long h)]) hx hb dX5_hashAttempts_14 hl (by decide) rfl (fun ls hl => ?_)
  have lp_16 : ∀ (n_16 : Nat) (k : Nat), (k ≤ gN g 1) → (gN g 1 - k) < n_16 → ∀ (H : Heap) (locs : List Loc) (ls : Array Slot), va_P D vwCl (xW ad kA g y) H → va_D A (xW ad kA g y) → va_S A s_.heap H locs → lv_has ls 6 [(0, .ref (ad 0)), (1, .long h), (3, .long (dgA g (mx h (nI (gN g 1)).toInt64) k)), (5, .int (nI k))] → W p_ l e_ (rmC 2 0 0) s_ m_ ar_ bw_ me_ co_ H locs 0 0 Q (F0 m_ 16 ls []) := by
    intro n_16
    induction n_16 with
    | zero =>
      intro k hk hm_16
      exact absurd hm_16 (Nat.not_lt_zero _)
    | succ n_16 ih_16 =>
      intro k hk hm_16 H locs ls hP hD hS hl
      refine lv_iload hx hb dX5_hashAttempts_16 (lv_at hl 3 rfl) ?_
      refine lv_aload_n hx hb dX5_hashAttempts_18 rfl (lv_at hl 0 rfl) ?_
      refine g_get F hK hP inX5 0 rfl rfl 2 (by decide) gw_210 rfl (v := .ref (ad 3)) rfl dX5_hashAttempts_19 ?_
      refine g_getN F hK hP inX2 7 rfl rfl 3 (by decide) nw_169 rfl (v := .int (nI (gN g 1))) rfl dX5_hashAttempts_22 ?_
      refine b_ge F (a := k) (b := gN g 1) (tgt := 46) dX5_hashAttempts_25 (by decide) (by omega) (by omega) (fun c_25 => ?_) (fun c_25 => ?_)
      · refine lv_lload_n hx hb dX5_hashAttempts_46 rfl (lv_at hl 2 rfl) ?_
        exact rt _ (xW ad kA g y) _ _ _ _ hP hD hS dX5_hashAttempts_47 (⟨by rw [show gN g 1 = k by omega], rfl⟩)
      · refine lv_lload_n hx hb dX5_hashAttempts_28 rfl (lv_at hl 2 rfl) ?_
        refine lv_aload_n hx hb dX5_hashAttempts_29 rfl (lv_at hl 0 rfl) ?_
        refine lv_iload hx hb dX5_hashAttempts_30 (lv_at hl 3 rfl) ?_
        refine cl_V_i (wc := (xW ad kA g y)) (As := [.int (nI k)]) (rest := [.long (dgA g (mx h (nI (gN g 1)).toInt64) k)]) (b := (ad 0)) (C := RX5) F hK hP hD hS hA (kX5_describeAttempt l D kA _ ad g y (nI k) hI) gw_437 gw_65 gw_553 gw_435 gw_436 (va_recv hK.1 hP (ci := 5) (q0 := 0) rfl rfl) hdX5_describeAttempt ⟨Nat.le_of_ble_eq_true rfl, Nat.le_of_ble_eq_true rfl⟩ hl.1 rfl (Nat.le_of_ble_eq_true rfl) dX5_hashAttempts_32 ⟨Nat.le_of_ble_eq_true rfl, Nat.le_of_ble_eq_true rfl⟩ (fun r_32 u_32 H locs hw hP1 hD1 hk1 hFc hS => ?_)
        obtain ⟨rfl, rfl⟩ := hw
        have hP : va_P D vwCl (xW ad kA g y) H := hP1
        have hD : va_D A (xW ad kA g y) := hD1.weaken (fun _ _ _ h => hFc _ h)
        rw [show sp_desA (nI k) g = desA k g from desA_in (by omega) ha]
        refine lv_i2l (v := (desA k g).toInt64) hx hb dX5_hashAttempts_35 rfl ?_
        refine cl_S_l (wc := []) (As := [.long (dgA g (mx h (nI (gN g 1)).toInt64) k), .long ((desA k g).toInt64)]) (rest := []) F hK P_nil D_nil hS hA (kX5_mix l D kA _ (dgA g (mx h (nI (gN g 1)).toInt64) k) ((desA k g).toInt64) ) gw_538 gw_65 gw_536 gw_537 hdX5_mix ⟨Nat.le_of_ble_eq_true rfl, Nat.le_of_ble_eq_true rfl⟩ hl.1 rfl (Nat.le_of_ble_eq_true rfl) dX5_hashAttempts_36 ⟨Nat.le_of_ble_eq_true rfl, Nat.le_of_ble_eq_true rfl⟩ (fun r_36 u_36 H locs hw hP1 hD1 hk1 hFc hS => ?_)
        obtain ⟨rfl, rfl⟩ := hw
        have hP := hp_non hP hk1
        refine lv_lstore_n (lv' := [(3, .long (mx (dgA g (mx h (nI (gN g 1)).toInt64) k) ((desA k g).toInt64))), (0, .ref (ad 0)), (1, .long h), (5, .int (nI k))]) hx hb dX5_hashAttempts_39 rfl hl (by decide) rfl (fun ls hl => ?_)
        refine lv_iinc (v := nI (k + 1)) (lv' := [(5, .int (nI (k + 1))), (3, .long (mx (dgA g (mx h (nI (gN g 1)).toInt64) k) ((desA k g).toInt64))), (0, .ref (ad 0)), (1, .long h)]) hx hb dX5_hashAttempts_40 hl (k := 3) rfl (nI_add k 1) (by decide) rfl (fun ls hl => ?_)
        refine lv_goto (tgt := 16) hx hb dX5_hashAttempts_43 (by decide) ?_
        exact ih_16  (k + 1) (by omega) (by omega) _ _ _ hP hD hS (lv_sub hl [2, 3, 1, 0] rfl)
  exact lp_16 _ 0 (Nat.zero_le _) (Nat.lt_succ_self _) _ _ _ hP hD hS (lv_sub hl [2, 3, 1, 0] rfl)

set_option maxRecDepth 100000 in
set_option maxHeartbeats 4000000 in
theorem kX5_hashVerdicts (l : Launch) (D : va_G) (kA : Nat → ClassId) (sz : Nat) (ad : Nat → Nat) (g : Sg) (y : Ys) (h : Int64) (hI : Inv g) (hL : RgX (gV g) (yL y)) : CtL l yX5_hashVerdicts cX5_hashVerdicts 6 .long 3 D kA sz (xW ad kA g y) [.ref (ad 0), .long h] (fun r u => r = dgV g (mx h (nI (gV g).length).toInt64) (min (gV g).length 16) ∧ u = xW ad kA g y) := by
  refine ct_l (own := RX5) (by decide) rfl (Nat.le_of_ble_eq_true rfl) ?_
  intro p_ e_ s_ m_ ar_ bw_ me_ co_ A ls Q F hnm hK hA hP hD hS hl hsz rt
  have hx := F.1
  have hb := F.2.1
  have hl : lv_has ls 6 [(0, .ref (ad 0)), (1, .long h)] := hl
  have hP : va_P D vwCl (xW ad kA g y) s_.heap := hP
  obtain ⟨⟨hc1, hc2⟩, ha, hn, hu, hd, hup, hlo, hso, hv⟩ := id hI
  refine lv_lload_n hx hb dX5_hashVerdicts_0 rfl (lv_at hl 1 rfl) ?_
  refine lv_aload_n hx hb dX5_hashVerdicts_1 rfl (lv_at hl 0 rfl) ?_
  refine g_get F hK hP inX5 0 rfl rfl 3 (by decide) gw_211 rfl (v := .ref (ad 7)) rfl dX5_hashVerdicts_2 ?_
  refine g_getN F hK hP inX3 11 rfl rfl 1 (by decide) nw_187 rfl (v := .int (nI ((gV g).length))) rfl dX5_hashVerdicts_5 ?_
  refine lv_i2l (v := (nI ((gV g).length)).toInt64) hx hb dX5_hashVerdicts_8 rfl ?_
  refine cl_S_l (wc := []) (As := [.long h, .long ((nI ((gV g).length)).toInt64)]) (rest := []) F hK P_nil D_nil hS hA (kX5_mix l D kA _ h ((nI ((gV g).length)).toInt64) ) gw_538 gw_65 gw_536 gw_537 hdX5_mix ⟨Nat.le_of_ble_eq_true rfl, Nat.le_of_ble_eq_true rfl⟩ hl.1 rfl (Nat.le_of_ble_eq_true rfl) dX5_hashVerdicts_9 ⟨Nat.le_of_ble_eq_true rfl, Nat.le_of_ble_eq_true rfl⟩ (fun r_9 u_9 H locs hw hP1 hD1 hk1 hFc hS => ?_)
  obtain ⟨rfl, rfl⟩ := hw
  have hP := hp_non hP hk1
  refine lv_lstore_n (lv' := [(3, .long (mx h ((nI ((gV g).length)).toInt64))), (0, .ref (ad 0)), (1, .long h)]) hx hb dX5_hashVerdicts_12 rfl hl (by decide) rfl (fun ls hl => ?_)
  refine lv_iconst (v := 0) hx hb dX5_hashVerdicts_13 (by decide) ?_
  refine lv_istore (lv' := [(5, .int 0), (3, .long (mx h ((nI ((gV g).length)).toInt64))), (0, .ref (ad 0)), (1, .long h)]) hx hb dX5_hashVerdicts_14 hl (by decide) rfl (fun ls hl => ?_)
  have lp_16 : ∀ (n_16 : Nat) (v9 : Nat), (v9 ≤ min (gV g).length 16) → (min (gV g).length 16 - v9) < n_16 → ∀ (H : Heap) (locs : List Loc) (ls : Array Slot), va_P D vwCl (xW ad kA g y) H → va_D A (xW ad kA g y) → va_S A s_.heap H locs → lv_has ls 6 [(0, .ref (ad 0)), (1, .long h), (3, .long (dgV g (mx h (nI (gV g).length).toInt64) v9)), (5, .int (nI v9))] → W p_ l e_ (rmC 3 0 0) s_ m_ ar_ bw_ me_ co_ H locs 0 0 Q (F0 m_ 16 ls []) := by
    intro n_16
    induction n_16 with
    | zero =>
      intro v9 hv9 hm_16
      exact absurd hm_16 (Nat.not_lt_zero _)
    | succ n_16 ih_16 =>
      intro v9 hv9 hm_16 H locs ls hP hD hS hl
      refine lv_iload hx hb dX5_hashVerdicts_16 (lv_at hl 3 rfl) ?_
      refine lv_aload_n hx hb dX5_hashVerdicts_18 rfl (lv_at hl 0 rfl) ?_
      refine g_get F hK hP inX5 0 rfl rfl 3 (by decide) gw_211 rfl (v := .ref (ad 7)) rfl dX5_hashVerdicts_19 ?_
      refine cl_VN_i (wc := (xV ad kA g y)) (As := []) (rest := [.int (nI v9)]) (b := (ad 7)) (C := RX3) F hK (sg_P (l1 := (xH ad kA g ++ (xK ad kA g y ++ (xD ad kA g)))) (l2 := (xI ad kA g ++ (xP ad g))) hP) (sg_D (l1 := (xH ad kA g ++ (xK ad kA g y ++ (xD ad kA g)))) (l2 := (xI ad kA g ++ (xP ad g))) hD) hS hA (kX3_kept l D kA _ (ad 7) (ad 8) (gV g).length (yL y)  hv) gw_453 gw_69 nw_450 gw_452 gw_27 (va_recv hK.1 hP (ci := 3) (q0 := 11) rfl rfl) hdX3_kept ⟨Nat.le_of_ble_eq_true rfl, Nat.le_of_ble_eq_true rfl⟩ hl.1 rfl (Nat.le_of_ble_eq_true rfl) dX5_hashVerdicts_22 ⟨Nat.le_of_ble_eq_true rfl, Nat.le_of_ble_eq_true rfl⟩ (fun r_22 u_22 H locs hw hP1 hD1 hk1 hFc hS => ?_)
      obtain ⟨rfl, rfl⟩ := hw
      have hPD := hp_seg (l1 := (xH ad kA g ++ (xK ad kA g y ++ (xD ad kA g)))) (wc := xV ad kA g y) (l2 := (xI ad kA g ++ (xP ad g))) hP hD hk1 hFc hP1 hD1
      have hP : va_P D vwCl (xW ad kA g y) H := hPD.1
      have hD : va_D A (xW ad kA g y) := hPD.2
      refine b_ge F (a := v9) (b := min (gV g).length 16) (tgt := 46) dX5_hashVerdicts_25 (by decide) (by omega) (by omega) (fun c_25 => ?_) (fun c_25 => ?_)
      · refine lv_lload_n hx hb dX5_hashVerdicts_46 rfl (lv_at hl 2 rfl) ?_
        exact rt _ (xW ad kA g y) _ _ _ _ hP hD hS dX5_hashVerdicts_47 (⟨by rw [show min (gV g).length 16 = v9 by omega], rfl⟩)
      · refine lv_lload_n hx hb dX5_hashVerdicts_28 rfl (lv_at hl 2 rfl) ?_
        refine lv_aload_n hx hb dX5_hashVerdicts_29 rfl (lv_at hl 0 rfl) ?_
        refine lv_iload hx hb dX5_hashVerdicts_30 (lv_at hl 3 rfl) ?_
        refine cl_V_i (wc := (xW ad kA g y)) (As := [.int (nI v9)]) (rest := [.long (dgV g (mx h (nI (gV g).length).toInt64) v9)]) (b := (ad 0)) (C := RX5) F hK hP hD hS hA (kX5_describeVerdict l D kA _ ad g y (nI v9) hI hL) gw_449 gw_65 gw_558 gw_447 gw_448 (va_recv hK.1 hP (ci := 5) (q0 := 0) rfl rfl) hdX5_describeVerdict ⟨Nat.le_of_ble_eq_true rfl, Nat.le_of_ble_eq_true rfl⟩ hl.1 rfl (Nat.le_of_ble_eq_true rfl) dX5_hashVerdicts_32 ⟨Nat.le_of_ble_eq_true rfl, Nat.le_of_ble_eq_true rfl⟩ (fun r_32 u_32 H locs hw hP1 hD1 hk1 hFc hS => ?_)
        obtain ⟨rfl, rfl⟩ := hw
        have hP : va_P D vwCl (xW ad kA g y) H := hP1
        have hD : va_D A (xW ad kA g y) := hD1.weaken (fun _ _ _ h => hFc _ h)
        rw [show sp_desV (nI v9) g = (gV g).getD v9 0 from desV_in (by omega) hv]
        refine lv_i2l (v := ((gV g).getD v9 0).toInt64) hx hb dX5_hashVerdicts_35 rfl ?_
        refine cl_S_l (wc := []) (As := [.long (dgV g (mx h (nI (gV g).length).toInt64) v9), .long (((gV g).getD v9 0).toInt64)]) (rest := []) F hK P_nil D_nil hS hA (kX5_mix l D kA _ (dgV g (mx h (nI (gV g).length).toInt64) v9) (((gV g).getD v9 0).toInt64) ) gw_538 gw_65 gw_536 gw_537 hdX5_mix ⟨Nat.le_of_ble_eq_true rfl, Nat.le_of_ble_eq_true rfl⟩ hl.1 rfl (Nat.le_of_ble_eq_true rfl) dX5_hashVerdicts_36 ⟨Nat.le_of_ble_eq_true rfl, Nat.le_of_ble_eq_true rfl⟩ (fun r_36 u_36 H locs hw hP1 hD1 hk1 hFc hS => ?_)
        obtain ⟨rfl, rfl⟩ := hw
        have hP := hp_non hP hk1
        refine lv_lstore_n (lv' := [(3, .long (mx (dgV g (mx h (nI (gV g).length).toInt64) v9) (((gV g).getD v9 0).toInt64))), (0, .ref (ad 0)), (1, .long h), (5, .int (nI v9))]) hx hb dX5_hashVerdicts_39 rfl hl (by decide) rfl (fun ls hl => ?_)
        refine lv_iinc (v := nI (v9 + 1)) (lv' := [(5, .int (nI (v9 + 1))), (3, .long (mx (dgV g (mx h (nI (gV g).length).toInt64) v9) (((gV g).getD v9 0).toInt64))), (0, .ref (ad 0)), (1, .long h)]) hx hb dX5_hashVerdicts_40 hl (k := 3) rfl (nI_add v9 1) (by decide) rfl (fun ls hl => ?_)
        refine lv_goto (tgt := 16) hx hb dX5_hashVerdicts_43 (by decide) ?_
        exact ih_16  (v9 + 1) (by omega) (by omega) _ _ _ hP hD hS (lv_sub hl [2, 3, 1, 0] rfl)
  exact lp_16 _ 0 (Nat.zero_le _) (Nat.lt_succ_self _) _ _ _ hP hD hS (lv_sub hl [2, 3, 1, 0] rfl)

set_option maxRecDepth 100000 in
set_option maxHeartbeats 4000000 in
theorem kX5_hashAnalysis (l : Launch) (D : va_G) (kA : Nat → ClassId) (sz : Nat) (ad : Nat → Nat) (g : Sg) (y : Ys) (h : Int64) (hI : Inv g) : CtL l yX5_hashAnalysis cX5_hashAnalysis 5 .long 4 D kA sz (xW ad kA g y) [.ref (ad 0), .long h] (fun r u => r = mx (mx (mx (mx h (seB 10 1 g).toInt64) (seB 10 2 g).toInt64) (prB 0 20 12 g)) (prB 1 20 12 g) ∧ ∃ y2, yL y2 = yL y ∧ u = xW ad kA g y2) := by
  refine ct_l (own := RX5) (by decide) rfl (Nat.le_of_ble_eq_true rfl) ?_
  intro p_ e_ s_ m_ ar_ bw_ me_ co_ A ls Q F hnm hK hA hP hD hS hl hsz rt
  have hx := F.1
  have hb := F.2.1
  have hl : lv_has ls 5 [(0, .ref (ad 0)), (1, .long h)] := hl
  have hP : va_P D vwCl (xW ad kA g y) s_.heap := hP
  refine lv_lload_n hx hb dX5_hashAnalysis_0 rfl (lv_at hl 1 rfl) ?_
  refine lv_aload_n hx hb dX5_hashAnalysis_1 rfl (lv_at hl 0 rfl) ?_
  refine lv_bipush (v := 10) hx hb dX5_hashAnalysis_2 (by decide) ?_
  refine lv_iconst (v := 1) hx hb dX5_hashAnalysis_4 (by decide) ?_
  refine cl_V_i (wc := (xW ad kA g y)) (As := [.int 10, .int 1]) (rest := [.long h]) (b := (ad 0)) (C := RX5) F hK hP hD hS hA (kX5_countSequences l D kA _ ad g y 10 1 hI) gw_461 gw_65 gw_563 gw_459 gw_460 (va_recv hK.1 hP (ci := 5) (q0 := 0) rfl rfl) hdX5_countSequences ⟨Nat.le_of_ble_eq_true rfl, Nat.le_of_ble_eq_true rfl⟩ hl.1 rfl (Nat.le_of_ble_eq_true rfl) dX5_hashAnalysis_5 ⟨Nat.le_of_ble_eq_true rfl, Nat.le_of_ble_eq_true rfl⟩ (fun r_5 u_5 H locs hw hP1 hD1 hk1 hFc hS => ?_)
  obtain ⟨rfl, y_5, hy_5, rfl⟩ := hw
  have hP : va_P D vwCl (xW ad kA g y_5) H := hP1
  have hD : va_D A (xW ad kA g y_5) := hD1.weaken (fun _ _ _ h => hFc _ h)
  rw [show sp_cseq 10 1 g = seB 10 1 g from by rw [sp_cseq, if_pos (by decide)]; rfl]
  refine lv_i2l (v := (seB 10 1 g).toInt64) hx hb dX5_hashAnalysis_8 rfl ?_
  refine cl_S_l (wc := []) (As := [.long h, .long ((seB 10 1 g).toInt64)]) (rest := []) F hK P_nil D_nil hS hA (kX5_mix l D kA _ h ((seB 10 1 g).toInt64) ) gw_538 gw_65 gw_536 gw_537 hdX5_mix ⟨Nat.le_of_ble_eq_true rfl, Nat.le_of_ble_eq_true rfl⟩ hl.1 rfl (Nat.le_of_ble_eq_true rfl) dX5_hashAnalysis_9 ⟨Nat.le_of_ble_eq_true rfl, Nat.le_of_ble_eq_true rfl⟩ (fun r_9 u_9 H locs hw hP1 hD1 hk1 hFc hS => ?_)
  obtain ⟨rfl, rfl⟩ := hw
  have hP := hp_non hP hk1
  refine lv_lstore_n (lv' := [(3, .long (mx h ((seB 10 1 g).toInt64))), (0, .ref (ad 0)), (1, .long h)]) hx hb dX5_hashAnalysis_12 rfl hl (by decide) rfl (fun ls hl => ?_)
  refine lv_lload_n hx hb dX5_hashAnalysis_13 rfl (lv_at hl 0 rfl) ?_
  refine lv_aload_n hx hb dX5_hashAnalysis_14 rfl (lv_at hl 1 rfl) ?_
  refine lv_bipush (v := 10) hx hb dX5_hashAnalysis_15 (by decide) ?_
  refine lv_iconst (v := 2) hx hb dX5_hashAnalysis_17 (by decide) ?_
  refine cl_V_i (wc := (xW ad kA g y_5)) (As := [.int 10, .int 2]) (rest := [.long (mx h ((seB 10 1 g).toInt64))]) (b := (ad 0)) (C := RX5) F hK hP hD hS hA (kX5_countSequences l D kA _ ad g y_5 10 2 hI) gw_461 gw_65 gw_563 gw_459 gw_460 (va_recv hK.1 hP (ci := 5) (q0 := 0) rfl rfl) hdX5_countSequences ⟨Nat.le_of_ble_eq_true rfl, Nat.le_of_ble_eq_true rfl⟩ hl.1 rfl (Nat.le_of_ble_eq_true rfl) dX5_hashAnalysis_18 ⟨Nat.le_of_ble_eq_true rfl, Nat.le_of_ble_eq_true rfl⟩ (fun r_18 u_18 H locs hw hP1 hD1 hk1 hFc hS => ?_)
  obtain ⟨rfl, y_18, hy_18, rfl⟩ := hw
  have hP : va_P D vwCl (xW ad kA g y_18) H := hP1
  have hD : va_D A (xW ad kA g y_18) := hD1.weaken (fun _ _ _ h => hFc _ h)
  rw [show sp_cseq 10 2 g = seB 10 2 g from by rw [sp_cseq, if_pos (by decide)]; rfl]
  refine lv_i2l (v := (seB 10 2 g).toInt64) hx hb dX5_hashAnalysis_21 rfl ?_
  refine cl_S_l (wc := []) (As := [.long (mx h ((seB 10 1 g).toInt64)), .long ((seB 10 2 g).toInt64)]) (rest := []) F hK P_nil D_nil hS hA (kX5_mix l D kA _ (mx h ((seB 10 1 g).toInt64)) ((seB 10 2 g).toInt64) ) gw_538 gw_65 gw_536 gw_537 hdX5_mix ⟨Nat.le_of_ble_eq_true rfl, Nat.le_of_ble_eq_true rfl⟩ hl.1 rfl (Nat.le_of_ble_eq_true rfl) dX5_hashAnalysis_22 ⟨Nat.le_of_ble_eq_true rfl, Nat.le_of_ble_eq_true rfl⟩ (fun r_22 u_22 H locs hw hP1 hD1 hk1 hFc hS => ?_)
  obtain ⟨rfl, rfl⟩ := hw
  have hP := hp_non hP hk1
  refine lv_lstore_n (lv' := [(3, .long (mx (mx h ((seB 10 1 g).toInt64)) ((seB 10 2 g).toInt64))), (0, .ref (ad 0)), (1, .long h)]) hx hb dX5_hashAnalysis_25 rfl hl (by decide) rfl (fun ls hl => ?_)
  refine lv_lload_n hx hb dX5_hashAnalysis_26 rfl (lv_at hl 0 rfl) ?_
  refine lv_aload_n hx hb dX5_hashAnalysis_27 rfl (lv_at hl 1 rfl) ?_
  refine lv_bipush (v := 20) hx hb dX5_hashAnalysis_28 (by decide) ?_
  refine lv_bipush (v := 12) hx hb dX5_hashAnalysis_30 (by decide) ?_
  refine cl_V_l (wc := (xW ad kA g y_18)) (As := [.int 20, .int 12]) (rest := [.long (mx (mx h ((seB 10 1 g).toInt64)) ((seB 10 2 g).toInt64))]) (b := (ad 0)) (C := RX5) F hK hP hD hS hA (kX5_scannerProbability l D kA _ ad g y_18 20 12 hI) gw_490 gw_65 gw_564 gw_488 gw_489 (va_recv hK.1 hP (ci := 5) (q0 := 0) rfl rfl) hdX5_scannerProbability ⟨Nat.le_of_ble_eq_true rfl, Nat.le_of_ble_eq_true rfl⟩ hl.1 rfl (Nat.le_of_ble_eq_true rfl) dX5_hashAnalysis_32 ⟨Nat.le_of_ble_eq_true rfl, Nat.le_of_ble_eq_true rfl⟩ (fun r_32 u_32 H locs hw hP1 hD1 hk1 hFc hS => ?_)
  obtain ⟨rfl, y_32, hy_32, rfl⟩ := hw
  have hP : va_P D vwCl (xW ad kA g y_32) H := hP1
  have hD : va_D A (xW ad kA g y_32) := hD1.weaken (fun _ _ _ h => hFc _ h)
  rw [show sp_prob 0 20 12 g = prB 0 20 12 g from by rw [sp_prob, if_pos (by decide)]; rfl]
  refine cl_S_l (wc := []) (As := [.long (mx (mx h ((seB 10 1 g).toInt64)) ((seB 10 2 g).toInt64)), .long (prB 0 20 12 g)]) (rest := []) F hK P_nil D_nil hS hA (kX5_mix l D kA _ (mx (mx h ((seB 10 1 g).toInt64)) ((seB 10 2 g).toInt64)) (prB 0 20 12 g) ) gw_538 gw_65 gw_536 gw_537 hdX5_mix ⟨Nat.le_of_ble_eq_true rfl, Nat.le_of_ble_eq_true rfl⟩ hl.1 rfl (Nat.le_of_ble_eq_true rfl) dX5_hashAnalysis_35 ⟨Nat.le_of_ble_eq_true rfl, Nat.le_of_ble_eq_true rfl⟩ (fun r_35 u_35 H locs hw hP1 hD1 hk1 hFc hS => ?_)
  obtain ⟨rfl, rfl⟩ := hw
  have hP := hp_non hP hk1
  refine lv_lstore_n (lv' := [(3, .long (mx (mx (mx h ((seB 10 1 g).toInt64)) ((seB 10 2 g).toInt64)) (prB 0 20 12 g))), (0, .ref (ad 0)), (1, .long h)]) hx hb dX5_hashAnalysis_38 rfl hl (by decide) rfl (fun ls hl => ?_)
  refine lv_lload_n hx hb dX5_hashAnalysis_39 rfl (lv_at hl 0 rfl) ?_
  refine lv_aload_n hx hb dX5_hashAnalysis_40 rfl (lv_at hl 1 rfl) ?_
  refine lv_bipush (v := 20) hx hb dX5_hashAnalysis_41 (by decide) ?_
  refine lv_bipush (v := 12) hx hb dX5_hashAnalysis_43 (by decide) ?_
  refine cl_V_l (wc := (xW ad kA g y_32)) (As := [.int 20, .int 12]) (rest := [.long (mx (mx (mx h ((seB 10 1 g).toInt64)) ((seB 10 2 g).toInt64)) (prB 0 20 12 g))]) (b := (ad 0)) (C := RX5) F hK hP hD hS hA (kX5_expectedContacts l D kA _ ad g y_32 20 12 hI) gw_518 gw_65 gw_565 gw_516 gw_517 (va_recv hK.1 hP (ci := 5) (q0 := 0) rfl rfl) hdX5_expectedContacts ⟨Nat.le_of_ble_eq_true rfl, Nat.le_of_ble_eq_true rfl⟩ hl.1 rfl (Nat.le_of_ble_eq_true rfl) dX5_hashAnalysis_45 ⟨Nat.le_of_ble_eq_true rfl, Nat.le_of_ble_eq_true rfl⟩ (fun r_45 u_45 H locs hw hP1 hD1 hk1 hFc hS => ?_)
  obtain ⟨rfl, y_45, hy_45, rfl⟩ := hw
  have hP : va_P D vwCl (xW ad kA g y_45) H := hP1
  have hD : va_D A (xW ad kA g y_45) := hD1.weaken (fun _ _ _ h => hFc _ h)
  rw [show sp_prob 1 20 12 g = prB 1 20 12 g from by rw [sp_prob, if_pos (by decide)]; rfl]
  refine cl_S_l (wc := []) (As := [.long (mx (mx (mx h ((seB 10 1 g).toInt64)) ((seB 10 2 g).toInt64)) (prB 0 20 12 g)), .long (prB 1 20 12 g)]) (rest := []) F hK P_nil D_nil hS hA (kX5_mix l D kA _ (mx (mx (mx h ((seB 10 1 g).toInt64)) ((seB 10 2 g).toInt64)) (prB 0 20 12 g)) (prB 1 20 12 g) ) gw_538 gw_65 gw_536 gw_537 hdX5_mix ⟨Nat.le_of_ble_eq_true rfl, Nat.le_of_ble_eq_true rfl⟩ hl.1 rfl (Nat.le_of_ble_eq_true rfl) dX5_hashAnalysis_48 ⟨Nat.le_of_ble_eq_true rfl, Nat.le_of_ble_eq_true rfl⟩ (fun r_48 u_48 H locs hw hP1 hD1 hk1 hFc hS => ?_)
  obtain ⟨rfl, rfl⟩ := hw
  have hP := hp_non hP hk1
  exact rt _ (xW ad kA g y_45) _ _ _ _ hP hD hS dX5_hashAnalysis_51 (⟨rfl, y_45, by rw [hy_45, hy_32, hy_18, hy_5], rfl⟩)

set_option maxRecDepth 100000 in
set_option maxHeartbeats 4000000 in
theorem kX5_hashInput (l : Launch) (D : va_G) (kA : Nat → ClassId) (sz : Nat) (ad : Nat → Nat) (g : Sg) (y : Ys) (h : Int64) (hI : Inv g) : CtL l yX5_hashInput cX5_hashInput 6 .long 1 D kA sz (xW ad kA g y) [.ref (ad 0), .long h] (fun r u => r = dgB g (mx h (nI (gN g 2)).toInt64) (gN g 2) ∧ u = xW ad kA g y) := by
  refine ct_l (own := RX5) (by decide) rfl (Nat.le_of_ble_eq_true rfl) ?_
  intro p_ e_ s_ m_ ar_ bw_ me_ co_ A ls Q F hnm hK hA hP hD hS hl hsz rt
  have hx := F.1
  have hb := F.2.1
  have hl : lv_has ls 6 [(0, .ref (ad 0)), (1, .long h)] := hl
  have hP : va_P D vwCl (xW ad kA g y) s_.heap := hP
  obtain ⟨⟨hc1, hc2⟩, ha, hn, hu, hd, hup, hlo, hso, hv⟩ := id hI
  refine lv_lload_n hx hb dX5_hashInput_0 rfl (lv_at hl 1 rfl) ?_
  refine lv_aload_n hx hb dX5_hashInput_1 rfl (lv_at hl 0 rfl) ?_
  refine g_get F hK hP inX5 0 rfl rfl 4 (by decide) gw_212 rfl (v := .ref (ad 9)) rfl dX5_hashInput_2 ?_
  refine g_getN F hK hP inX1 13 rfl rfl 1 (by decide) nw_202 rfl (v := .int (nI (gN g 2))) rfl dX5_hashInput_5 ?_
  refine lv_i2l (v := (nI (gN g 2)).toInt64) hx hb dX5_hashInput_8 rfl ?_
  refine cl_S_l (wc := []) (As := [.long h, .long ((nI (gN g 2)).toInt64)]) (rest := []) F hK P_nil D_nil hS hA (kX5_mix l D kA _ h ((nI (gN g 2)).toInt64) ) gw_538 gw_65 gw_536 gw_537 hdX5_mix ⟨Nat.le_of_ble_eq_true rfl, Nat.le_of_ble_eq_true rfl⟩ hl.1 rfl (Nat.le_of_ble_eq_true rfl) dX5_hashInput_9 ⟨Nat.le_of_ble_eq_true rfl, Nat.le_of_ble_eq_true rfl⟩ (fun r_9 u_9 H locs hw hP1 hD1 hk1 hFc hS => ?_)
  obtain ⟨rfl, rfl⟩ := hw
  have hP := hp_non hP hk1
  refine lv_lstore_n (lv' := [(3, .long (mx h ((nI (gN g 2)).toInt64))), (0, .ref (ad 0)), (1, .long h)]) hx hb dX5_hashInput_12 rfl hl (by decide) rfl (fun ls hl => ?_)
  refine lv_iconst (v := 0) hx hb dX5_hashInput_13 (by decide) ?_
  refine lv_istore (lv' := [(5, .int 0), (3, .long (mx h ((nI (gN g 2)).toInt64))), (0, .ref (ad 0)), (1, .long h)]) hx hb dX5_hashInput_14 hl (by decide) rfl (fun ls hl => ?_)
  have lp_16 : ∀ (n_16 : Nat) (b9 : Nat), (b9 ≤ gN g 2) → (gN g 2 - b9) < n_16 → ∀ (H : Heap) (locs : List Loc) (ls : Array Slot), va_P D vwCl (xW ad kA g y) H → va_D A (xW ad kA g y) → va_S A s_.heap H locs → lv_has ls 6 [(0, .ref (ad 0)), (1, .long h), (3, .long (dgB g (mx h (nI (gN g 2)).toInt64) b9)), (5, .int (nI b9))] → W p_ l e_ (rmC 1 0 0) s_ m_ ar_ bw_ me_ co_ H locs 0 0 Q (F0 m_ 16 ls []) := by
    intro n_16
    induction n_16 with
    | zero =>
      intro b9 hb9 hm_16
      exact absurd hm_16 (Nat.not_lt_zero _)
    | succ n_16 ih_16 =>
      intro b9 hb9 hm_16 H locs ls hP hD hS hl
      refine lv_iload hx hb dX5_hashInput_16 (lv_at hl 3 rfl) ?_
      refine lv_aload_n hx hb dX5_hashInput_18 rfl (lv_at hl 0 rfl) ?_
      refine g_get F hK hP inX5 0 rfl rfl 4 (by decide) gw_212 rfl (v := .ref (ad 9)) rfl dX5_hashInput_19 ?_
      refine g_getN F hK hP inX1 13 rfl rfl 1 (by decide) nw_202 rfl (v := .int (nI (gN g 2))) rfl dX5_hashInput_22 ?_
      refine b_ge F (a := b9) (b := gN g 2) (tgt := 50) dX5_hashInput_25 (by decide) (by omega) (by omega) (fun c_25 => ?_) (fun c_25 => ?_)
      · refine lv_lload_n hx hb dX5_hashInput_50 rfl (lv_at hl 2 rfl) ?_
        exact rt _ (xW ad kA g y) _ _ _ _ hP hD hS dX5_hashInput_51 (⟨by rw [show gN g 2 = b9 by omega], rfl⟩)
      · refine lv_lload_n hx hb dX5_hashInput_28 rfl (lv_at hl 2 rfl) ?_
        refine lv_aload_n hx hb dX5_hashInput_29 rfl (lv_at hl 0 rfl) ?_
        refine g_get F hK hP inX5 0 rfl rfl 4 (by decide) gw_212 rfl (v := .ref (ad 9)) rfl dX5_hashInput_30 ?_
        refine g_getN F hK hP inX1 13 rfl rfl 0 (by decide) nw_200 rfl (v := .ref (ad 10)) rfl dX5_hashInput_33 ?_
        refine lv_iload hx hb dX5_hashInput_36 (lv_at hl 3 rfl) ?_
        refine a_ild F hK hP 14 (f := gR g 7) rfl (j := b9) (by omega) (by decide) dX5_hashInput_38 ?_
        refine lv_i2l (v := (gR g 7 b9).toInt64) hx hb dX5_hashInput_39 rfl ?_
        refine cl_S_l (wc := []) (As := [.long (dgB g (mx h (nI (gN g 2)).toInt64) b9), .long ((gR g 7 b9).toInt64)]) (rest := []) F hK P_nil D_nil hS hA (kX5_mix l D kA _ (dgB g (mx h (nI (gN g 2)).toInt64) b9) ((gR g 7 b9).toInt64) ) gw_538 gw_65 gw_536 gw_537 hdX5_mix ⟨Nat.le_of_ble_eq_true rfl, Nat.le_of_ble_eq_true rfl⟩ hl.1 rfl (Nat.le_of_ble_eq_true rfl) dX5_hashInput_40 ⟨Nat.le_of_ble_eq_true rfl, Nat.le_of_ble_eq_true rfl⟩ (fun r_40 u_40 H locs hw hP1 hD1 hk1 hFc hS => ?_)
        obtain ⟨rfl, rfl⟩ := hw
        have hP := hp_non hP hk1
        refine lv_lstore_n (lv' := [(3, .long (mx (dgB g (mx h (nI (gN g 2)).toInt64) b9) ((gR g 7 b9).toInt64))), (0, .ref (ad 0)), (1, .long h), (5, .int (nI b9))]) hx hb dX5_hashInput_43 rfl hl (by decide) rfl (fun ls hl => ?_)
        refine lv_iinc (v := nI (b9 + 1)) (lv' := [(5, .int (nI (b9 + 1))), (3, .long (mx (dgB g (mx h (nI (gN g 2)).toInt64) b9) ((gR g 7 b9).toInt64))), (0, .ref (ad 0)), (1, .long h)]) hx hb dX5_hashInput_44 hl (k := 3) rfl (nI_add b9 1) (by decide) rfl (fun ls hl => ?_)
        refine lv_goto (tgt := 16) hx hb dX5_hashInput_47 (by decide) ?_
        exact ih_16  (b9 + 1) (by omega) (by omega) _ _ _ hP hD hS (lv_sub hl [2, 3, 1, 0] rfl)
  exact lp_16 _ 0 (Nat.zero_le _) (Nat.lt_succ_self _) _ _ _ hP hD hS (lv_sub hl [2, 3, 1, 0] rfl)

set_option maxRecDepth 100000 in
set_option maxHeartbeats 4000000 in
theorem kX5_digest (l : Launch) (D : va_G) (kA : Nat → ClassId) (sz : Nat) (ad : Nat → Nat) (g : Sg) (y : Ys) (hI : Inv g) (hL : RgX (gV g) (yL y)) : CtL l yX5_digest cX5_digest 3 .long 5 D kA sz (xW ad kA g y) [.ref (ad 0)] (fun r u => r = sp_digest g ∧ ∃ y2, yL y2 = yL y ∧ u = xW ad kA g y2) := by
  refine ct_l (own := RX5) (by decide) rfl (Nat.le_of_ble_eq_true rfl) ?_
  intro p_ e_ s_ m_ ar_ bw_ me_ co_ A ls Q F hnm hK hA hP hD hS hl hsz rt
  have hx := F.1
  have hb := F.2.1
  have hl : lv_has ls 3 [(0, .ref (ad 0))] := hl
  have hP : va_P D vwCl (xW ad kA g y) s_.heap := hP
  refine lv_ldc2 (v := 1777) hx hb F.2.2.2.1 (F.2.2.2.2 _ gw_531) dX5_digest_0 ?_
  refine lv_lstore_n (lv' := [(1, .long 1777), (0, .ref (ad 0))]) hx hb dX5_digest_3 rfl hl (by decide) rfl (fun ls hl => ?_)
  refine lv_aload_n hx hb dX5_digest_4 rfl (lv_at hl 1 rfl) ?_
  refine lv_lload_n hx hb dX5_digest_5 rfl (lv_at hl 0 rfl) ?_
  refine cl_V_l (wc := (xW ad kA g y)) (As := [.long 1777]) (rest := []) (b := (ad 0)) (C := RX5) F hK hP hD hS hA (kX5_hashSettings l D kA _ ad g y 1777 ) gw_535 gw_65 gw_532 gw_534 gw_38 (va_recv hK.1 hP (ci := 5) (q0 := 0) rfl rfl) hdX5_hashSettings ⟨Nat.le_of_ble_eq_true rfl, Nat.le_of_ble_eq_true rfl⟩ hl.1 rfl (Nat.le_of_ble_eq_true rfl) dX5_digest_6 ⟨Nat.le_of_ble_eq_true rfl, Nat.le_of_ble_eq_true rfl⟩ (fun r_6 u_6 H locs hw hP1 hD1 hk1 hFc hS => ?_)
  obtain ⟨rfl, rfl⟩ := hw
  have hP : va_P D vwCl (xW ad kA g y) H := hP1
  have hD : va_D A (xW ad kA g y) := hD1.weaken (fun _ _ _ h => hFc _ h)
  refine lv_lstore_n (lv' := [(1, .long (mx (mx (mx (mx (mx (mx (mx 1777 (nI (gN g 0)).toInt64) (gI g 0).toInt64) (gI g 1).toInt64) (gI g 2).toInt64) (gI g 3).toInt64) (gI g 4).toInt64) (gI g 5).toInt64)), (0, .ref (ad 0))]) hx hb dX5_digest_9 rfl hl (by decide) rfl (fun ls hl => ?_)
  refine lv_aload_n hx hb dX5_digest_10 rfl (lv_at hl 1 rfl) ?_
  refine lv_lload_n hx hb dX5_digest_11 rfl (lv_at hl 0 rfl) ?_
  refine cl_V_l (wc := (xW ad kA g y)) (As := [.long (mx (mx (mx (mx (mx (mx (mx 1777 (nI (gN g 0)).toInt64) (gI g 0).toInt64) (gI g 1).toInt64) (gI g 2).toInt64) (gI g 3).toInt64) (gI g 4).toInt64) (gI g 5).toInt64)]) (rest := []) (b := (ad 0)) (C := RX5) F hK hP hD hS hA (kX5_hashCells l D kA _ ad g y (mx (mx (mx (mx (mx (mx (mx 1777 (nI (gN g 0)).toInt64) (gI g 0).toInt64) (gI g 1).toInt64) (gI g 2).toInt64) (gI g 3).toInt64) (gI g 4).toInt64) (gI g 5).toInt64) hI) gw_543 gw_65 gw_540 gw_542 gw_39 (va_recv hK.1 hP (ci := 5) (q0 := 0) rfl rfl) hdX5_hashCells ⟨Nat.le_of_ble_eq_true rfl, Nat.le_of_ble_eq_true rfl⟩ hl.1 rfl (Nat.le_of_ble_eq_true rfl) dX5_digest_12 ⟨Nat.le_of_ble_eq_true rfl, Nat.le_of_ble_eq_true rfl⟩ (fun r_12 u_12 H locs hw hP1 hD1 hk1 hFc hS => ?_)
  obtain ⟨rfl, rfl⟩ := hw
  have hP : va_P D vwCl (xW ad kA g y) H := hP1
  have hD : va_D A (xW ad kA g y) := hD1.weaken (fun _ _ _ h => hFc _ h)
  refine lv_lstore_n (lv' := [(1, .long (dgC g (mx (mx (mx (mx (mx (mx (mx 1777 (nI (gN g 0)).toInt64) (gI g 0).toInt64) (gI g 1).toInt64) (gI g 2).toInt64) (gI g 3).toInt64) (gI g 4).toInt64) (gI g 5).toInt64) (gN g 0))), (0, .ref (ad 0))]) hx hb dX5_digest_15 rfl hl (by decide) rfl (fun ls hl => ?_)
  refine lv_aload_n hx hb dX5_digest_16 rfl (lv_at hl 1 rfl) ?_
  refine lv_lload_n hx hb dX5_digest_17 rfl (lv_at hl 0 rfl) ?_
  refine cl_V_l (wc := (xW ad kA g y)) (As := [.long (dgC g (mx (mx (mx (mx (mx (mx (mx 1777 (nI (gN g 0)).toInt64) (gI g 0).toInt64) (gI g 1).toInt64) (gI g 2).toInt64) (gI g 3).toInt64) (gI g 4).toInt64) (gI g 5).toInt64) (gN g 0))]) (rest := []) (b := (ad 0)) (C := RX5) F hK hP hD hS hA (kX5_hashAttempts l D kA _ ad g y (dgC g (mx (mx (mx (mx (mx (mx (mx 1777 (nI (gN g 0)).toInt64) (gI g 0).toInt64) (gI g 1).toInt64) (gI g 2).toInt64) (gI g 3).toInt64) (gI g 4).toInt64) (gI g 5).toInt64) (gN g 0)) hI) gw_552 gw_65 gw_549 gw_551 gw_40 (va_recv hK.1 hP (ci := 5) (q0 := 0) rfl rfl) hdX5_hashAttempts ⟨Nat.le_of_ble_eq_true rfl, Nat.le_of_ble_eq_true rfl⟩ hl.1 rfl (Nat.le_of_ble_eq_true rfl) dX5_digest_18 ⟨Nat.le_of_ble_eq_true rfl, Nat.le_of_ble_eq_true rfl⟩ (fun r_18 u_18 H locs hw hP1 hD1 hk1 hFc hS => ?_)
  obtain ⟨rfl, rfl⟩ := hw
  have hP : va_P D vwCl (xW ad kA g y) H := hP1
  have hD : va_D A (xW ad kA g y) := hD1.weaken (fun _ _ _ h => hFc _ h)
  refine lv_lstore_n (lv' := [(1, .long (dgA g (mx (dgC g (mx (mx (mx (mx (mx (mx (mx 1777 (nI (gN g 0)).toInt64) (gI g 0).toInt64) (gI g 1).toInt64) (gI g 2).toInt64) (gI g 3).toInt64) (gI g 4).toInt64) (gI g 5).toInt64) (gN g 0)) (nI (gN g 1)).toInt64) (gN g 1))), (0, .ref (ad 0))]) hx hb dX5_digest_21 rfl hl (by decide) rfl (fun ls hl => ?_)
  refine lv_aload_n hx hb dX5_digest_22 rfl (lv_at hl 1 rfl) ?_
  refine lv_lload_n hx hb dX5_digest_23 rfl (lv_at hl 0 rfl) ?_
  refine cl_V_l (wc := (xW ad kA g y)) (As := [.long (dgA g (mx (dgC g (mx (mx (mx (mx (mx (mx (mx 1777 (nI (gN g 0)).toInt64) (gI g 0).toInt64) (gI g 1).toInt64) (gI g 2).toInt64) (gI g 3).toInt64) (gI g 4).toInt64) (gI g 5).toInt64) (gN g 0)) (nI (gN g 1)).toInt64) (gN g 1))]) (rest := []) (b := (ad 0)) (C := RX5) F hK hP hD hS hA (kX5_hashVerdicts l D kA _ ad g y (dgA g (mx (dgC g (mx (mx (mx (mx (mx (mx (mx 1777 (nI (gN g 0)).toInt64) (gI g 0).toInt64) (gI g 1).toInt64) (gI g 2).toInt64) (gI g 3).toInt64) (gI g 4).toInt64) (gI g 5).toInt64) (gN g 0)) (nI (gN g 1)).toInt64) (gN g 1)) hI hL) gw_557 gw_65 gw_554 gw_556 gw_41 (va_recv hK.1 hP (ci := 5) (q0 := 0) rfl rfl) hdX5_hashVerdicts ⟨Nat.le_of_ble_eq_true rfl, Nat.le_of_ble_eq_true rfl⟩ hl.1 rfl (Nat.le_of_ble_eq_true rfl) dX5_digest_24 ⟨Nat.le_of_ble_eq_true rfl, Nat.le_of_ble_eq_true rfl⟩ (fun r_24 u_24 H locs hw hP1 hD1 hk1 hFc hS => ?_)
  obtain ⟨rfl, rfl⟩ := hw
  have hP : va_P D vwCl (xW ad kA g y) H := hP1
  have hD : va_D A (xW ad kA g y) := hD1.weaken (fun _ _ _ h => hFc _ h)
  refine lv_lstore_n (lv' := [(1, .long (dgV g (mx (dgA g (mx (dgC g (mx (mx (mx (mx (mx (mx (mx 1777 (nI (gN g 0)).toInt64) (gI g 0).toInt64) (gI g 1).toInt64) (gI g 2).toInt64) (gI g 3).toInt64) (gI g 4).toInt64) (gI g 5).toInt64) (gN g 0)) (nI (gN g 1)).toInt64) (gN g 1)) (nI (gV g).length).toInt64) (min (gV g).length 16))), (0, .ref (ad 0))]) hx hb dX5_digest_27 rfl hl (by decide) rfl (fun ls hl => ?_)
  refine lv_aload_n hx hb dX5_digest_28 rfl (lv_at hl 1 rfl) ?_
  refine lv_lload_n hx hb dX5_digest_29 rfl (lv_at hl 0 rfl) ?_
  refine cl_V_l (wc := (xW ad kA g y)) (As := [.long (dgV g (mx (dgA g (mx (dgC g (mx (mx (mx (mx (mx (mx (mx 1777 (nI (gN g 0)).toInt64) (gI g 0).toInt64) (gI g 1).toInt64) (gI g 2).toInt64) (gI g 3).toInt64) (gI g 4).toInt64) (gI g 5).toInt64) (gN g 0)) (nI (gN g 1)).toInt64) (gN g 1)) (nI (gV g).length).toInt64) (min (gV g).length 16))]) (rest := []) (b := (ad 0)) (C := RX5) F hK hP hD hS hA (kX5_hashAnalysis l D kA _ ad g y (dgV g (mx (dgA g (mx (dgC g (mx (mx (mx (mx (mx (mx (mx 1777 (nI (gN g 0)).toInt64) (gI g 0).toInt64) (gI g 1).toInt64) (gI g 2).toInt64) (gI g 3).toInt64) (gI g 4).toInt64) (gI g 5).toInt64) (gN g 0)) (nI (gN g 1)).toInt64) (gN g 1)) (nI (gV g).length).toInt64) (min (gV g).length 16)) hI) gw_562 gw_65 gw_559 gw_561 gw_42 (va_recv hK.1 hP (ci := 5) (q0 := 0) rfl rfl) hdX5_hashAnalysis ⟨Nat.le_of_ble_eq_true rfl, Nat.le_of_ble_eq_true rfl⟩ hl.1 rfl (Nat.le_of_ble_eq_true rfl) dX5_digest_30 ⟨Nat.le_of_ble_eq_true rfl, Nat.le_of_ble_eq_true rfl⟩ (fun r_30 u_30 H locs hw hP1 hD1 hk1 hFc hS => ?_)
  obtain ⟨rfl, y_30, hy_30, rfl⟩ := hw
  have hP : va_P D vwCl (xW ad kA g y_30) H := hP1
  have hD : va_D A (xW ad kA g y_30) := hD1.weaken (fun _ _ _ h => hFc _ h)
  refine lv_lstore_n (lv' := [(1, .long (mx (mx (mx (mx (dgV g (mx (dgA g (mx (dgC g (mx (mx (mx (mx (mx (mx (mx 1777 (nI (gN g 0)).toInt64) (gI g 0).toInt64) (gI g 1).toInt64) (gI g 2).toInt64) (gI g 3).toInt64) (gI g 4).toInt64) (gI g 5).toInt64) (gN g 0)) (nI (gN g 1)).toInt64) (gN g 1)) (nI (gV g).length).toInt64) (min (gV g).length 16)) (seB 10 1 g).toInt64) (seB 10 2 g).toInt64) (prB 0 20 12 g)) (prB 1 20 12 g))), (0, .ref (ad 0))]) hx hb dX5_digest_33 rfl hl (by decide) rfl (fun ls hl => ?_)
  refine lv_aload_n hx hb dX5_digest_34 rfl (lv_at hl 1 rfl) ?_
  refine lv_lload_n hx hb dX5_digest_35 rfl (lv_at hl 0 rfl) ?_
  refine cl_V_l (wc := (xW ad kA g y_30)) (As := [.long (mx (mx (mx (mx (dgV g (mx (dgA g (mx (dgC g (mx (mx (mx (mx (mx (mx (mx 1777 (nI (gN g 0)).toInt64) (gI g 0).toInt64) (gI g 1).toInt64) (gI g 2).toInt64) (gI g 3).toInt64) (gI g 4).toInt64) (gI g 5).toInt64) (gN g 0)) (nI (gN g 1)).toInt64) (gN g 1)) (nI (gV g).length).toInt64) (min (gV g).length 16)) (seB 10 1 g).toInt64) (seB 10 2 g).toInt64) (prB 0 20 12 g)) (prB 1 20 12 g))]) (rest := []) (b := (ad 0)) (C := RX5) F hK hP hD hS hA (kX5_hashInput l D kA _ ad g y_30 (mx (mx (mx (mx (dgV g (mx (dgA g (mx (dgC g (mx (mx (mx (mx (mx (mx (mx 1777 (nI (gN g 0)).toInt64) (gI g 0).toInt64) (gI g 1).toInt64) (gI g 2).toInt64) (gI g 3).toInt64) (gI g 4).toInt64) (gI g 5).toInt64) (gN g 0)) (nI (gN g 1)).toInt64) (gN g 1)) (nI (gV g).length).toInt64) (min (gV g).length 16)) (seB 10 1 g).toInt64) (seB 10 2 g).toInt64) (prB 0 20 12 g)) (prB 1 20 12 g)) hI) gw_569 gw_65 gw_566 gw_568 gw_43 (va_recv hK.1 hP (ci := 5) (q0 := 0) rfl rfl) hdX5_hashInput ⟨Nat.le_of_ble_eq_true rfl, Nat.le_of_ble_eq_true rfl⟩ hl.1 rfl (Nat.le_of_ble_eq_true rfl) dX5_digest_36 ⟨Nat.le_of_ble_eq_true rfl, Nat.le_of_ble_eq_true rfl⟩ (fun r_36 u_36 H locs hw hP1 hD1 hk1 hFc hS => ?_)
  obtain ⟨rfl, rfl⟩ := hw
  have hP : va_P D vwCl (xW ad kA g y_30) H := hP1
  have hD : va_D A (xW ad kA g y_30) := hD1.weaken (fun _ _ _ h => hFc _ h)
  exact rt _ (xW ad kA g y_30) _ _ _ _ hP hD hS dX5_digest_39 (⟨rfl, y_30, hy_30, rfl⟩)
