set_option maxRecDepth 100000 in
set_option maxHeartbeats 4000000 in
theorem kX5_discardAttempts (l : Launch) (D : va_G) (kA : Nat → ClassId) (sz : Nat) (ad : Nat → Nat) (g : Sg) (y : Ys) (c : Nat) (hM : Mn g) : CtV l yX5_discardAttempts cX5_discardAttempts 3 1 0 0 D kA sz (xW ad kA g y) [.ref (ad 0), .int (nI c)] (fun u => u = xW ad kA (dAll c (gN g 1) g) y) := by
  refine ct_v (own := RX5) (by decide) rfl (Nat.le_of_ble_eq_true rfl) ?_
  intro p_ e_ s_ m_ ar_ bw_ me_ co_ A ls Q F hnm hK hA hP hD hS hl hsz rt
  have hx := F.1
  have hb := F.2.1
  have hl : lv_has ls 3 [(0, .ref (ad 0)), (1, .int (nI c))] := hl
  have hP : va_P D vwCl (xW ad kA g y) s_.heap := hP
  refine lv_aload_n hx hb dX5_discardAttempts_0 rfl (lv_at hl 0 rfl) ?_
  refine g_get F hK hP inX5 0 rfl rfl 2 (by decide) gw_210 rfl (v := .ref (ad 3)) rfl dX5_discardAttempts_1 ?_
  refine g_getN F hK hP inX2 7 rfl rfl 3 (by decide) nw_169 rfl (v := .int (nI (gN g 1))) rfl dX5_discardAttempts_4 ?_
  refine lv_iconst (v := 1) hx hb dX5_discardAttempts_7 (by decide) ?_
  refine lv_isub hx hb dX5_discardAttempts_8 ?_
  refine lv_istore_n (lv' := [(2, .int ((nI (gN g 1)) - 1)), (0, .ref (ad 0)), (1, .int (nI c))]) hx hb dX5_discardAttempts_9 rfl hl (by decide) rfl (fun ls hl => ?_)
  have lp_10 : ∀ (n_10 : Nat) (q : Nat) (g1 : Sg), (q ≤ gN g1 1) → (Mn g1) → (dAll c q g1 = dAll c (gN g 1) g) → q < n_10 → ∀ (H : Heap) (locs : List Loc) (ls : Array Slot), va_P D vwCl (xW ad kA g1 y) H → va_D A (xW ad kA g1 y) → va_S A s_.heap H locs → lv_has ls 3 [(0, .ref (ad 0)), (1, .int (nI c)), (2, .int (nI q - 1))] → W p_ l e_ (rmC 1 0 0) s_ m_ ar_ bw_ me_ co_ H locs 0 0 Q (F0 m_ 10 ls []) := by
    intro n_10
    induction n_10 with
    | zero =>
      intro q g1 hq hM1 hg hm_10
      exact absurd hm_10 (Nat.not_lt_zero _)
    | succ n_10 ih_10 =>
      intro q g1 hq hM1 hg hm_10 H locs ls hP hD hS hl
      obtain ⟨⟨hm1, hm2⟩, hm3⟩ := id hM1
      refine lv_iload_n hx hb dX5_discardAttempts_10 rfl (lv_at hl 2 rfl) ?_
      refine lv_if_lt (tgt := 45) hx hb dX5_discardAttempts_11 (by decide) (fun c_11 => ?_) (fun c_11 => ?_)
      · obtain rfl : q = 0 := (m1_lt (by omega)).mp c_11
        exact rt (xW ad kA g1 y) _ _ _ _ hP hD hS dX5_discardAttempts_45 ((by rw [← hg]; rfl))
      · obtain ⟨q, rfl⟩ : ∃ q2, q = q2 + 1 := ⟨q - 1, by have h9 : ¬ q = 0 := fun h => c_11 ((m1_lt (by omega)).mpr h); omega⟩
        rw [nI_pred] at hl
        refine lv_aload_n hx hb dX5_discardAttempts_14 rfl (lv_at hl 0 rfl) ?_
        refine lv_aload_n hx hb dX5_discardAttempts_15 rfl (lv_at hl 0 rfl) ?_
        refine g_get F hK hP inX5 0 rfl rfl 2 (by decide) gw_210 rfl (v := .ref (ad 3)) rfl dX5_discardAttempts_16 ?_
        refine g_getN F hK hP inX2 7 rfl rfl 0 (by decide) nw_163 rfl (v := .ref (ad 4)) rfl dX5_discardAttempts_19 ?_
        refine lv_iload_n hx hb dX5_discardAttempts_22 rfl (lv_at hl 2 rfl) ?_
        refine a_ild F hK hP 8 (f := gR g1 4) rfl (j := q) (by omega) (by decide) dX5_discardAttempts_23 ?_
        refine cl_V_i (wc := (xW ad kA g1 y)) (As := [.int (gR g1 4 q)]) (rest := []) (b := (ad 0)) (C := RX5) F hK hP hD hS hA (kX5_cellIndex l D kA _ ad g1 y (gR g1 4 q) hm1 hm2) gw_274 gw_65 gw_271 gw_273 gw_4 (va_recv hK.1 hP (ci := 5) (q0 := 0) rfl rfl) hdX5_cellIndex ⟨Nat.le_of_ble_eq_true rfl, Nat.le_of_ble_eq_true rfl⟩ hl.1 rfl (Nat.le_of_ble_eq_true rfl) dX5_discardAttempts_24 ⟨Nat.le_of_ble_eq_true rfl, Nat.le_of_ble_eq_true rfl⟩ (fun r_24 u_24 H locs hw hP1 hD1 hk1 hFc hS => ?_)
        obtain ⟨rfl, rfl⟩ := hw
        have hP : va_P D vwCl (xW ad kA g1 y) H := hP1
        have hD : va_D A (xW ad kA g1 y) := hD1.weaken (fun _ _ _ h => hFc _ h)
        refine lv_iload_n hx hb dX5_discardAttempts_27 rfl (lv_at hl 1 rfl) ?_
        refine lv_icmp_ne (tgt := 39) hx hb dX5_discardAttempts_28 (by decide) (fun c_28 => ?_) (fun c_28 => ?_)
        · refine lv_iinc (v := nI q - 1) (lv' := [(2, .int (nI q - 1)), (0, .ref (ad 0)), (1, .int (nI c))]) hx hb dX5_discardAttempts_39 hl (k := 2) rfl (by rw [Int32.sub_eq_add_neg]; rfl) (by decide) rfl (fun ls hl => ?_)
          refine lv_goto (tgt := 10) hx hb dX5_discardAttempts_42 (by decide) ?_
          exact ih_10  q g1 (by omega) hM1 (by rw [← hg, dAll, if_neg c_28]) (by omega) _ _ _ hP hD hS (lv_sub hl [1, 2, 0] rfl)
        · refine lv_aload_n hx hb dX5_discardAttempts_31 rfl (lv_at hl 0 rfl) ?_
          refine g_get F hK hP inX5 0 rfl rfl 2 (by decide) gw_210 rfl (v := .ref (ad 3)) rfl dX5_discardAttempts_32 ?_
          refine lv_iload_n hx hb dX5_discardAttempts_35 rfl (lv_at hl 2 rfl) ?_
          refine cl_VN_v (wc := (xD ad kA g1)) (As := [.int (nI q)]) (rest := []) (b := (ad 3)) (C := RX2) F hK (sg_P (l1 := (xH ad kA g1 ++ (xK ad kA g1 y))) (l2 := (xV ad kA g1 y ++ (xI ad kA g1 ++ (xP ad g1)))) hP) (sg_D (l1 := (xH ad kA g1 ++ (xK ad kA g1 y))) (l2 := (xV ad kA g1 y ++ (xI ad kA g1 ++ (xP ad g1)))) hD) hS hA (kX2_drop l D kA _ (ad 3) (ad 4) (ad 5) (ad 6) (gN g1 1) (gR g1 4) (gR g1 5) (gR g1 6) q (by omega) hm3) gw_306 gw_68 nw_303 gw_305 gw_12 (va_recv hK.1 hP (ci := 2) (q0 := 7) rfl rfl) hdX2_drop ⟨Nat.le_of_ble_eq_true rfl, Nat.le_of_ble_eq_true rfl⟩ hl.1 rfl (Nat.le_of_ble_eq_true rfl) dX5_discardAttempts_36 ⟨Nat.le_of_ble_eq_true rfl, Nat.le_of_ble_eq_true rfl⟩ (fun u_36 H locs hw hP1 hD1 hk1 hFc hS => ?_)
          obtain rfl := hw
          have hPD := hp_seg (l1 := (xH ad kA g1 ++ (xK ad kA g1 y))) (wc := xD ad kA g1) (l2 := (xV ad kA g1 y ++ (xI ad kA g1 ++ (xP ad g1)))) hP hD hk1 hFc hP1 hD1
          have hP : va_P D vwCl (xW ad kA (sp_drop q g1) y) H := hPD.1
          have hD : va_D A (xW ad kA (sp_drop q g1) y) := hPD.2
          refine lv_iinc (v := nI q - 1) (lv' := [(2, .int (nI q - 1)), (0, .ref (ad 0)), (1, .int (nI c))]) hx hb dX5_discardAttempts_39 hl (k := 2) rfl (by rw [Int32.sub_eq_add_neg]; rfl) (by decide) rfl (fun ls hl => ?_)
          refine lv_goto (tgt := 10) hx hb dX5_discardAttempts_42 (by decide) ?_
          exact ih_10  q (sp_drop q g1) (by rw [gN_drop]; omega) ((kp_drop (by omega)).mn hM1) (by rw [← hg, dAll, if_pos c_28]) (by omega) _ _ _ hP hD hS (lv_sub hl [1, 2, 0] rfl)
  exact lp_10 _ (gN g 1) g (Nat.le_refl _) hM rfl (Nat.lt_succ_self _) _ _ _ hP hD hS (lv_sub hl [1, 2, 0] rfl)

set_option maxRecDepth 100000 in
set_option maxHeartbeats 4000000 in
theorem kX5_settle (l : Launch) (D : va_G) (kA : Nat → ClassId) (sz : Nat) (ad : Nat → Nat) (g : Sg) (y : Ys) (c : Nat) (b : Int32) (hc : c < 8) (hM : Mn g) (hV : (gV g).length < 2 ^ 30) (hL : RgX (gV g) (yL y)) : CtI l yX5_settle cX5_settle 5 .int 2 D kA sz (xW ad kA g y) [.ref (ad 0), .int (nI c), .int b] (fun r u => r = (sp_settle c b g).1 ∧ xQ ad kA (sp_settle c b g).2 y u) := by
  refine ct_i (own := RX5) (by decide) rfl (Nat.le_of_ble_eq_true rfl) ?_
  intro p_ e_ s_ m_ ar_ bw_ me_ co_ A ls Q F hnm hK hA hP hD hS hl hsz rt
  have hx := F.1
  have hb := F.2.1
  have hl : lv_has ls 5 [(0, .ref (ad 0)), (1, .int (nI c)), (2, .int b)] := hl
  have hP : va_P D vwCl (xW ad kA g y) s_.heap := hP
  refine lv_aload_n hx hb dX5_settle_0 rfl (lv_at hl 0 rfl) ?_
  refine g_get F hK hP inX5 0 rfl rfl 0 (by decide) gw_208 rfl (v := .ref (ad 1)) rfl dX5_settle_1 ?_
  refine lv_iload_n hx hb dX5_settle_4 rfl (lv_at hl 1 rfl) ?_
  refine a_qld F hK hP 1 (f := fun i => some (ad (15 + i))) rfl (j := c) (by omega) (by decide) (b := ad (15 + c)) rfl dX5_settle_5 ?_
  refine lv_astore_n (lv' := [(3, .ref (ad (15 + c))), (0, .ref (ad 0)), (1, .int (nI c)), (2, .int b)]) hx hb dX5_settle_6 rfl hl (by decide) rfl (fun ls hl => ?_)
  refine lv_aload_n hx hb dX5_settle_7 rfl (lv_at hl 0 rfl) ?_
  refine lv_aload_n hx hb dX5_settle_8 rfl (lv_at hl 1 rfl) ?_
  refine g_get F hK hP inX5 0 rfl rfl 1 (by decide) gw_209 rfl (v := .ref (ad 2)) rfl dX5_settle_9 ?_
  refine lv_aload_n hx hb dX5_settle_12 rfl (lv_at hl 0 rfl) ?_
  refine g_getN F hK hP inX0 (15 + c) (xW_c (by omega)) rfl 0 (by decide) nw_92 rfl (v := .int (gR g 0 c)) rfl dX5_settle_13 ?_
  refine lv_iload_n hx hb dX5_settle_16 rfl (lv_at hl 3 rfl) ?_
  refine cl_VN_i (wc := (xK ad kA g y)) (As := [.int (gR g 0 c), .int b]) (rest := [.ref (ad (15 + c))]) (b := (ad 2)) (C := RX4) F hK (sg_P (l1 := (xH ad kA g)) (l2 := (xD ad kA g ++ (xV ad kA g y ++ (xI ad kA g ++ (xP ad g))))) hP) (sg_D (l1 := (xH ad kA g)) (l2 := (xD ad kA g ++ (xV ad kA g y ++ (xI ad kA g ++ (xP ad g))))) hD) hS hA (kX4_after l D kA _ (ad 2) (yA y 1) (yA y 2) (yA y 3) (yA y 4) (gI g 0) (gI g 1) (gI g 2) (gI g 3) ((gI g 2) - (gI g 3) - 1) (yF y 0) (yF y 1) (yD y 0) (yD y 1) (gR g 0 c) b ) gw_294 gw_67 nw_291 gw_293 gw_9 (va_recv hK.1 hP (ci := 4) (q0 := 2) rfl rfl) hdX4_after ⟨Nat.le_of_ble_eq_true rfl, Nat.le_of_ble_eq_true rfl⟩ hl.1 rfl (Nat.le_of_ble_eq_true rfl) dX5_settle_17 ⟨Nat.le_of_ble_eq_true rfl, Nat.le_of_ble_eq_true rfl⟩ (fun r_17 u_17 H locs hw hP1 hD1 hk1 hFc hS => ?_)
  obtain ⟨rfl, rfl⟩ := hw
  have hPD := hp_seg (l1 := (xH ad kA g)) (wc := xK ad kA g y) (l2 := (xD ad kA g ++ (xV ad kA g y ++ (xI ad kA g ++ (xP ad g))))) hP hD hk1 hFc hP1 hD1
  have hP : va_P D vwCl (xW ad kA g y) H := hPD.1
  have hD : va_D A (xW ad kA g y) := hPD.2
  rw [show (if b = 0 then gR g 0 c + gI g 0 else gR g 0 c + -gI g 1 : Int32) = sc1 c b g from rfl]
  refine g_putN F hK hP hD hS inX0 tyX0_ok nmX0 (15 + c) (xW_c (by omega)) rfl 0 (by decide) nw_92 rfl rfl rfl rfl (Nat.le_of_ble_eq_true rfl) dX5_settle_20 (fun H locs hP hD hS => ?_)
  have hP : va_P D vwCl (xW ad kA (sR g 0 (upd (gR g 0) c (sc1 c b g))) y) H := P_cast (xc_0 (g := g) (y := y) (i := c) (by omega)) hP
  have hD : va_D A (xW ad kA (sR g 0 (upd (gR g 0) c (sc1 c b g))) y) := D_cast (xc_0 (g := g) (y := y) (i := c) (by omega)) hD
  refine lv_aload_n hx hb dX5_settle_23 rfl (lv_at hl 1 rfl) ?_
  refine g_get F hK hP inX5 0 rfl rfl 1 (by decide) gw_209 rfl (v := .ref (ad 2)) rfl dX5_settle_24 ?_
  refine lv_aload_n hx hb dX5_settle_27 rfl (lv_at hl 0 rfl) ?_
  refine g_getN F hK hP inX0 (15 + c) (xW_c (by omega)) rfl 0 (by decide) nw_92 rfl (v := .int ((upd (gR g 0) c (sc1 c b g)) c)) rfl dX5_settle_28 ?_
  rw [show ((upd (gR g 0) c (sc1 c b g)) c : Int32) = sc1 c b g from pk_us]
  refine cl_VN_i (wc := (xK ad kA (sR g 0 (upd (gR g 0) c (sc1 c b g))) y)) (As := [.int (sc1 c b g)]) (rest := []) (b := (ad 2)) (C := RX4) F hK (sg_P (l1 := (xH ad kA (sR g 0 (upd (gR g 0) c (sc1 c b g))))) (l2 := (xD ad kA (sR g 0 (upd (gR g 0) c (sc1 c b g))) ++ (xV ad kA (sR g 0 (upd (gR g 0) c (sc1 c b g))) y ++ (xI ad kA (sR g 0 (upd (gR g 0) c (sc1 c b g))) ++ (xP ad (sR g 0 (upd (gR g 0) c (sc1 c b g)))))))) hP) (sg_D (l1 := (xH ad kA (sR g 0 (upd (gR g 0) c (sc1 c b g))))) (l2 := (xD ad kA (sR g 0 (upd (gR g 0) c (sc1 c b g))) ++ (xV ad kA (sR g 0 (upd (gR g 0) c (sc1 c b g))) y ++ (xI ad kA (sR g 0 (upd (gR g 0) c (sc1 c b g))) ++ (xP ad (sR g 0 (upd (gR g 0) c (sc1 c b g)))))))) hD) hS hA (kX4_verdictAt l D kA _ (ad 2) (yA y 1) (yA y 2) (yA y 3) (yA y 4) (gI g 0) (gI g 1) (gI g 2) (gI g 3) ((gI g 2) - (gI g 3) - 1) (yF y 0) (yF y 1) (yD y 0) (yD y 1) (sc1 c b g) ) gw_298 gw_67 nw_295 gw_297 gw_10 (va_recv hK.1 hP (ci := 4) (q0 := 2) rfl rfl) hdX4_verdictAt ⟨Nat.le_of_ble_eq_true rfl, Nat.le_of_ble_eq_true rfl⟩ hl.1 rfl (Nat.le_of_ble_eq_true rfl) dX5_settle_31 ⟨Nat.le_of_ble_eq_true rfl, Nat.le_of_ble_eq_true rfl⟩ (fun r_31 u_31 H locs hw hP1 hD1 hk1 hFc hS => ?_)
  obtain ⟨rfl, rfl⟩ := hw
  have hPD := hp_seg (l1 := (xH ad kA (sR g 0 (upd (gR g 0) c (sc1 c b g))))) (wc := xK ad kA (sR g 0 (upd (gR g 0) c (sc1 c b g))) y) (l2 := (xD ad kA (sR g 0 (upd (gR g 0) c (sc1 c b g))) ++ (xV ad kA (sR g 0 (upd (gR g 0) c (sc1 c b g))) y ++ (xI ad kA (sR g 0 (upd (gR g 0) c (sc1 c b g))) ++ (xP ad (sR g 0 (upd (gR g 0) c (sc1 c b g)))))))) hP hD hk1 hFc hP1 hD1
  have hP : va_P D vwCl (xW ad kA (sR g 0 (upd (gR g 0) c (sc1 c b g))) y) H := hPD.1
  have hD : va_D A (xW ad kA (sR g 0 (upd (gR g 0) c (sc1 c b g))) y) := hPD.2
  by_cases k1 : sc1 c b g < gI g 2
  · rw [if_pos k1]
    by_cases k2 : gI g 3 < sc1 c b g
    · rw [if_pos k2]
      refine lv_istore (lv' := [(4, .int 0), (3, .ref (ad (15 + c))), (0, .ref (ad 0)), (1, .int (nI c)), (2, .int b)]) hx hb dX5_settle_34 hl (by decide) rfl (fun ls hl => ?_)
      refine lv_iload hx hb dX5_settle_36 (lv_at hl 0 rfl) ?_
      refine lv_if_ne (tgt := 44) hx hb dX5_settle_38 (by decide) (fun h => absurd h (by decide)) (fun _ => ?_)
      refine lv_iload hx hb dX5_settle_41 (lv_at hl 0 rfl) ?_
      have hq : sp_settle c b g = (0, st1 c b g) := by rw [sp_settle, if_pos k1, if_pos k2]
      exact rt _ (xW ad kA (sR g 0 (upd (gR g 0) c (sc1 c b g))) y) _ _ _ _ hP hD hS dX5_settle_43 (by show _ ∧ _; rw [hq]; exact ⟨rfl, yL y, hL, rfl⟩)
    · rw [if_neg k2]
      refine lv_istore (lv' := [(4, .int 2), (3, .ref (ad (15 + c))), (0, .ref (ad 0)), (1, .int (nI c)), (2, .int b)]) hx hb dX5_settle_34 hl (by decide) rfl (fun ls hl => ?_)
      refine lv_iload hx hb dX5_settle_36 (lv_at hl 0 rfl) ?_
      refine lv_if_ne (tgt := 44) hx hb dX5_settle_38 (by decide) (fun _ => ?_) (fun h => absurd h (by decide))
      refine lv_iload hx hb dX5_settle_44 (lv_at hl 0 rfl) ?_
      refine lv_iconst (v := 1) hx hb dX5_settle_46 (by decide) ?_
      refine lv_icmp_ne (x := 2) (y := 1) (tgt := 63) hx hb dX5_settle_47 (by decide) (fun _ => ?_) (fun h => absurd h (by decide))
      refine lv_aload_n hx hb dX5_settle_63 rfl (lv_at hl 1 rfl) ?_
      refine cl_VN_v (wc := (clC (ad (15 + c)) ((upd (gR g 0) c (sc1 c b g)) c) (gR g 1 c) (gE g c) (gR g 2 c) (gR g 3 c))) (As := []) (rest := []) (b := (ad (15 + c))) (C := RX0) F hK (P_on1 (15 + c) hP (xW_c (by omega))) (D_on1 (15 + c) hD (xW_c (by omega))) hS hA (kX0_forget l D kA _ (ad (15 + c)) ((upd (gR g 0) c (sc1 c b g)) c) (gR g 1 c) (gE g c) (gR g 2 c) (gR g 3 c)  ) gw_252 gw_66 nw_307 gw_251 gw_3 (va_recv (q := (RX0, TX0, 5)) (ci := 0) (q0 := 15 + c) hK.1 hP rfl (xW_c (by omega))) hdX0_forget ⟨Nat.le_of_ble_eq_true rfl, Nat.le_of_ble_eq_true rfl⟩ hl.1 rfl (Nat.le_of_ble_eq_true rfl) dX5_settle_64 ⟨Nat.le_of_ble_eq_true rfl, Nat.le_of_ble_eq_true rfl⟩ (fun u_64 H locs hw hP1 hD1 hk1 hFc hS => ?_)
      obtain rfl := hw
      have hPD := hp_set (15 + c) hP hD (xW_c (by omega)) hk1 hP1
      have hP : va_P D vwCl (xW ad kA (sE (sR (sR g 0 (upd (gR g 0) c (sc1 c b g))) 0 (upd (upd (gR g 0) c (sc1 c b g)) c 0)) (vp_updL (gE g) c 0)) y) H := P_cast (xc_02 (g := (sR g 0 (upd (gR g 0) c (sc1 c b g)))) (y := y) (i := c) (by omega)) hPD.1
      have hD : va_D A (xW ad kA (sE (sR (sR g 0 (upd (gR g 0) c (sc1 c b g))) 0 (upd (upd (gR g 0) c (sc1 c b g)) c 0)) (vp_updL (gE g) c 0)) y) := D_cast (xc_02 (g := (sR g 0 (upd (gR g 0) c (sc1 c b g)))) (y := y) (i := c) (by omega)) hPD.2
      refine lv_aload_n hx hb dX5_settle_67 rfl (lv_at hl 2 rfl) ?_
      refine g_get F hK hP inX5 0 rfl rfl 3 (by decide) gw_211 rfl (v := .ref (ad 7)) rfl dX5_settle_68 ?_
      refine lv_bipush (v := 10) hx hb dX5_settle_71 (by decide) ?_
      refine lv_iload_n hx hb dX5_settle_73 rfl (lv_at hl 3 rfl) ?_
      refine n_mul F (a := 10) (b := c) dX5_settle_74 ?_
      refine lv_iload hx hb dX5_settle_75 (lv_at hl 0 rfl) ?_
      refine lv_iadd hx hb dX5_settle_77 ?_
      refine cl_VN_v (wc := (xV ad kA (sE (sR (sR g 0 (upd (gR g 0) c (sc1 c b g))) 0 (upd (upd (gR g 0) c (sc1 c b g)) c 0)) (vp_updL (gE g) c 0)) y)) (As := [.int ((nI (10 * c)) + 2)]) (rest := []) (b := (ad 7)) (C := RX3) F hK (sg_P (l1 := (xH ad kA (sE (sR (sR g 0 (upd (gR g 0) c (sc1 c b g))) 0 (upd (upd (gR g 0) c (sc1 c b g)) c 0)) (vp_updL (gE g) c 0)) ++ (xK ad kA (sE (sR (sR g 0 (upd (gR g 0) c (sc1 c b g))) 0 (upd (upd (gR g 0) c (sc1 c b g)) c 0)) (vp_updL (gE g) c 0)) y ++ (xD ad kA (sE (sR (sR g 0 (upd (gR g 0) c (sc1 c b g))) 0 (upd (upd (gR g 0) c (sc1 c b g)) c 0)) (vp_updL (gE g) c 0)))))) (l2 := (xI ad kA (sE (sR (sR g 0 (upd (gR g 0) c (sc1 c b g))) 0 (upd (upd (gR g 0) c (sc1 c b g)) c 0)) (vp_updL (gE g) c 0)) ++ (xP ad (sE (sR (sR g 0 (upd (gR g 0) c (sc1 c b g))) 0 (upd (upd (gR g 0) c (sc1 c b g)) c 0)) (vp_updL (gE g) c 0))))) hP) (sg_D (l1 := (xH ad kA (sE (sR (sR g 0 (upd (gR g 0) c (sc1 c b g))) 0 (upd (upd (gR g 0) c (sc1 c b g)) c 0)) (vp_updL (gE g) c 0)) ++ (xK ad kA (sE (sR (sR g 0 (upd (gR g 0) c (sc1 c b g))) 0 (upd (upd (gR g 0) c (sc1 c b g)) c 0)) (vp_updL (gE g) c 0)) y ++ (xD ad kA (sE (sR (sR g 0 (upd (gR g 0) c (sc1 c b g))) 0 (upd (upd (gR g 0) c (sc1 c b g)) c 0)) (vp_updL (gE g) c 0)))))) (l2 := (xI ad kA (sE (sR (sR g 0 (upd (gR g 0) c (sc1 c b g))) 0 (upd (upd (gR g 0) c (sc1 c b g)) c 0)) (vp_updL (gE g) c 0)) ++ (xP ad (sE (sR (sR g 0 (upd (gR g 0) c (sc1 c b g))) 0 (upd (upd (gR g 0) c (sc1 c b g)) c 0)) (vp_updL (gE g) c 0))))) hD) hS hA (kX3_note l D kA _ (ad 7) (ad 8) (gV g).length (yL y) ((nI (10 * c)) + 2) hV) gw_311 gw_69 nw_308 gw_310 gw_13 (va_recv hK.1 hP (ci := 3) (q0 := 11) rfl rfl) hdX3_note ⟨Nat.le_of_ble_eq_true rfl, Nat.le_of_ble_eq_true rfl⟩ hl.1 rfl (Nat.le_of_ble_eq_true rfl) dX5_settle_78 ⟨Nat.le_of_ble_eq_true rfl, Nat.le_of_ble_eq_true rfl⟩ (fun u_78 H locs hw hP1 hD1 hk1 hFc hS => ?_)
      obtain rfl := hw
      have hPD := hp_seg (l1 := (xH ad kA (sE (sR (sR g 0 (upd (gR g 0) c (sc1 c b g))) 0 (upd (upd (gR g 0) c (sc1 c b g)) c 0)) (vp_updL (gE g) c 0)) ++ (xK ad kA (sE (sR (sR g 0 (upd (gR g 0) c (sc1 c b g))) 0 (upd (upd (gR g 0) c (sc1 c b g)) c 0)) (vp_updL (gE g) c 0)) y ++ (xD ad kA (sE (sR (sR g 0 (upd (gR g 0) c (sc1 c b g))) 0 (upd (upd (gR g 0) c (sc1 c b g)) c 0)) (vp_updL (gE g) c 0)))))) (wc := xV ad kA (sE (sR (sR g 0 (upd (gR g 0) c (sc1 c b g))) 0 (upd (upd (gR g 0) c (sc1 c b g)) c 0)) (vp_updL (gE g) c 0)) y) (l2 := (xI ad kA (sE (sR (sR g 0 (upd (gR g 0) c (sc1 c b g))) 0 (upd (upd (gR g 0) c (sc1 c b g)) c 0)) (vp_updL (gE g) c 0)) ++ (xP ad (sE (sR (sR g 0 (upd (gR g 0) c (sc1 c b g))) 0 (upd (upd (gR g 0) c (sc1 c b g)) c 0)) (vp_updL (gE g) c 0))))) hP hD hk1 hFc hP1 hD1
      have hP : va_P D vwCl (xW ad kA (sV (sE (sR (sR g 0 (upd (gR g 0) c (sc1 c b g))) 0 (upd (upd (gR g 0) c (sc1 c b g)) c 0)) (vp_updL (gE g) c 0)) (((nI (10 * c)) + 2) :: gV g)) (tYL y (upd (yL y) ((gV g).length % 16) ((nI (10 * c)) + 2)))) H := hPD.1
      have hD : va_D A (xW ad kA (sV (sE (sR (sR g 0 (upd (gR g 0) c (sc1 c b g))) 0 (upd (upd (gR g 0) c (sc1 c b g)) c 0)) (vp_updL (gE g) c 0)) (((nI (10 * c)) + 2) :: gV g)) (tYL y (upd (yL y) ((gV g).length % 16) ((nI (10 * c)) + 2)))) := hPD.2
      refine lv_iload hx hb dX5_settle_81 (lv_at hl 0 rfl) ?_
      have hq : sp_settle c b g = (2, st2 c (st1 c b g)) := by rw [sp_settle, if_pos k1, if_neg k2]
      exact rt _ (xW ad kA (sV (sE (sR (sR g 0 (upd (gR g 0) c (sc1 c b g))) 0 (upd (upd (gR g 0) c (sc1 c b g)) c 0)) (vp_updL (gE g) c 0)) (((nI (10 * c)) + 2) :: gV g)) (tYL y (upd (yL y) ((gV g).length % 16) ((nI (10 * c)) + 2)))) _ _ _ _ hP hD hS dX5_settle_83 (by show _ ∧ _; rw [hq]; exact ⟨rfl, _, RgX_s hL _, rfl⟩)
  · rw [if_neg k1]
    refine lv_istore (lv' := [(4, .int 1), (3, .ref (ad (15 + c))), (0, .ref (ad 0)), (1, .int (nI c)), (2, .int b)]) hx hb dX5_settle_34 hl (by decide) rfl (fun ls hl => ?_)
    refine lv_iload hx hb dX5_settle_36 (lv_at hl 0 rfl) ?_
    refine lv_if_ne (tgt := 44) hx hb dX5_settle_38 (by decide) (fun _ => ?_) (fun h => absurd h (by decide))
    refine lv_iload hx hb dX5_settle_44 (lv_at hl 0 rfl) ?_
    refine lv_iconst (v := 1) hx hb dX5_settle_46 (by decide) ?_
    refine lv_icmp_ne (x := 1) (y := 1) (tgt := 63) hx hb dX5_settle_47 (by decide) (fun h => absurd h (by decide)) (fun _ => ?_)
    refine lv_aload_n hx hb dX5_settle_50 rfl (lv_at hl 1 rfl) ?_
    refine lv_iconst (v := 1) hx hb dX5_settle_51 (by decide) ?_
    refine g_putN F hK hP hD hS inX0 tyX0_ok nmX0 (15 + c) (xW_c (by omega)) rfl 1 (by decide) nw_94 rfl rfl rfl rfl (Nat.le_of_ble_eq_true rfl) dX5_settle_52 (fun H locs hP hD hS => ?_)
    have hP : va_P D vwCl (xW ad kA (sR (sR g 0 (upd (gR g 0) c (sc1 c b g))) 1 (upd (gR g 1) c 1)) y) H := P_cast (xc_1 (g := (sR g 0 (upd (gR g 0) c (sc1 c b g)))) (y := y) (i := c) (by omega)) hP
    have hD : va_D A (xW ad kA (sR (sR g 0 (upd (gR g 0) c (sc1 c b g))) 1 (upd (gR g 1) c 1)) y) := D_cast (xc_1 (g := (sR g 0 (upd (gR g 0) c (sc1 c b g)))) (y := y) (i := c) (by omega)) hD
    refine lv_aload_n hx hb dX5_settle_55 rfl (lv_at hl 2 rfl) ?_
    refine lv_iload_n hx hb dX5_settle_56 rfl (lv_at hl 3 rfl) ?_
    refine cl_V_v (wc := (xW ad kA (sR (sR g 0 (upd (gR g 0) c (sc1 c b g))) 1 (upd (gR g 1) c 1)) y)) (As := [.int (nI c)]) (rest := []) (b := (ad 0)) (C := RX5) F hK hP hD hS hA (kX5_discardAttempts l D kA _ ad (sR (sR g 0 (upd (gR g 0) c (sc1 c b g))) 1 (upd (gR g 1) c 1)) y c hM) gw_302 gw_65 gw_299 gw_301 gw_11 (va_recv hK.1 hP (ci := 5) (q0 := 0) rfl rfl) hdX5_discardAttempts ⟨Nat.le_of_ble_eq_true rfl, Nat.le_of_ble_eq_true rfl⟩ hl.1 rfl (Nat.le_of_ble_eq_true rfl) dX5_settle_57 ⟨Nat.le_of_ble_eq_true rfl, Nat.le_of_ble_eq_true rfl⟩ (fun u_57 H locs hw hP1 hD1 hk1 hFc hS => ?_)
    obtain rfl := hw
    have hP : va_P D vwCl (xW ad kA (dAll c (gN g 1) (sR (sR g 0 (upd (gR g 0) c (sc1 c b g))) 1 (upd (gR g 1) c 1))) y) H := hP1
    have hD : va_D A (xW ad kA (dAll c (gN g 1) (sR (sR g 0 (upd (gR g 0) c (sc1 c b g))) 1 (upd (gR g 1) c 1))) y) := hD1.weaken (fun _ _ _ h => hFc _ h)
    refine lv_goto (tgt := 67) hx hb dX5_settle_60 (by decide) ?_
    refine lv_aload_n hx hb dX5_settle_67 rfl (lv_at hl 2 rfl) ?_
    refine g_get F hK hP inX5 0 rfl rfl 3 (by decide) gw_211 rfl (v := .ref (ad 7)) rfl dX5_settle_68 ?_
    refine lv_bipush (v := 10) hx hb dX5_settle_71 (by decide) ?_
    refine lv_iload_n hx hb dX5_settle_73 rfl (lv_at hl 3 rfl) ?_
    refine n_mul F (a := 10) (b := c) dX5_settle_74 ?_
    refine lv_iload hx hb dX5_settle_75 (lv_at hl 0 rfl) ?_
    refine lv_iadd hx hb dX5_settle_77 ?_
    refine cl_VN_v (wc := (xV ad kA (dAll c (gN g 1) (sR (sR g 0 (upd (gR g 0) c (sc1 c b g))) 1 (upd (gR g 1) c 1))) y)) (As := [.int ((nI (10 * c)) + 1)]) (rest := []) (b := (ad 7)) (C := RX3) F hK (sg_P (l1 := (xH ad kA (dAll c (gN g 1) (sR (sR g 0 (upd (gR g 0) c (sc1 c b g))) 1 (upd (gR g 1) c 1))) ++ (xK ad kA (dAll c (gN g 1) (sR (sR g 0 (upd (gR g 0) c (sc1 c b g))) 1 (upd (gR g 1) c 1))) y ++ (xD ad kA (dAll c (gN g 1) (sR (sR g 0 (upd (gR g 0) c (sc1 c b g))) 1 (upd (gR g 1) c 1))))))) (l2 := (xI ad kA (dAll c (gN g 1) (sR (sR g 0 (upd (gR g 0) c (sc1 c b g))) 1 (upd (gR g 1) c 1))) ++ (xP ad (dAll c (gN g 1) (sR (sR g 0 (upd (gR g 0) c (sc1 c b g))) 1 (upd (gR g 1) c 1)))))) hP) (sg_D (l1 := (xH ad kA (dAll c (gN g 1) (sR (sR g 0 (upd (gR g 0) c (sc1 c b g))) 1 (upd (gR g 1) c 1))) ++ (xK ad kA (dAll c (gN g 1) (sR (sR g 0 (upd (gR g 0) c (sc1 c b g))) 1 (upd (gR g 1) c 1))) y ++ (xD ad kA (dAll c (gN g 1) (sR (sR g 0 (upd (gR g 0) c (sc1 c b g))) 1 (upd (gR g 1) c 1))))))) (l2 := (xI ad kA (dAll c (gN g 1) (sR (sR g 0 (upd (gR g 0) c (sc1 c b g))) 1 (upd (gR g 1) c 1))) ++ (xP ad (dAll c (gN g 1) (sR (sR g 0 (upd (gR g 0) c (sc1 c b g))) 1 (upd (gR g 1) c 1)))))) hD) hS hA (kX3_note l D kA _ (ad 7) (ad 8) (gV (dAll c (gN g 1) (sR (sR g 0 (upd (gR g 0) c (sc1 c b g))) 1 (upd (gR g 1) c 1)))).length (yL y) ((nI (10 * c)) + 1) (by rw [(kp_dAll c (gN g 1) (sR (sR g 0 (upd (gR g 0) c (sc1 c b g))) 1 (upd (gR g 1) c 1)) (Nat.le_refl _)).2]; exact hV)) gw_311 gw_69 nw_308 gw_310 gw_13 (va_recv hK.1 hP (ci := 3) (q0 := 11) rfl rfl) hdX3_note ⟨Nat.le_of_ble_eq_true rfl, Nat.le_of_ble_eq_true rfl⟩ hl.1 rfl (Nat.le_of_ble_eq_true rfl) dX5_settle_78 ⟨Nat.le_of_ble_eq_true rfl, Nat.le_of_ble_eq_true rfl⟩ (fun u_78 H locs hw hP1 hD1 hk1 hFc hS => ?_)
    obtain rfl := hw
    have hPD := hp_seg (l1 := (xH ad kA (dAll c (gN g 1) (sR (sR g 0 (upd (gR g 0) c (sc1 c b g))) 1 (upd (gR g 1) c 1))) ++ (xK ad kA (dAll c (gN g 1) (sR (sR g 0 (upd (gR g 0) c (sc1 c b g))) 1 (upd (gR g 1) c 1))) y ++ (xD ad kA (dAll c (gN g 1) (sR (sR g 0 (upd (gR g 0) c (sc1 c b g))) 1 (upd (gR g 1) c 1))))))) (wc := xV ad kA (dAll c (gN g 1) (sR (sR g 0 (upd (gR g 0) c (sc1 c b g))) 1 (upd (gR g 1) c 1))) y) (l2 := (xI ad kA (dAll c (gN g 1) (sR (sR g 0 (upd (gR g 0) c (sc1 c b g))) 1 (upd (gR g 1) c 1))) ++ (xP ad (dAll c (gN g 1) (sR (sR g 0 (upd (gR g 0) c (sc1 c b g))) 1 (upd (gR g 1) c 1)))))) hP hD hk1 hFc hP1 hD1
    have hP : va_P D vwCl (xW ad kA (sV (dAll c (gN g 1) (sR (sR g 0 (upd (gR g 0) c (sc1 c b g))) 1 (upd (gR g 1) c 1))) (((nI (10 * c)) + 1) :: gV (dAll c (gN g 1) (sR (sR g 0 (upd (gR g 0) c (sc1 c b g))) 1 (upd (gR g 1) c 1))))) (tYL y (upd (yL y) ((gV (dAll c (gN g 1) (sR (sR g 0 (upd (gR g 0) c (sc1 c b g))) 1 (upd (gR g 1) c 1)))).length % 16) ((nI (10 * c)) + 1)))) H := hPD.1
    have hD : va_D A (xW ad kA (sV (dAll c (gN g 1) (sR (sR g 0 (upd (gR g 0) c (sc1 c b g))) 1 (upd (gR g 1) c 1))) (((nI (10 * c)) + 1) :: gV (dAll c (gN g 1) (sR (sR g 0 (upd (gR g 0) c (sc1 c b g))) 1 (upd (gR g 1) c 1))))) (tYL y (upd (yL y) ((gV (dAll c (gN g 1) (sR (sR g 0 (upd (gR g 0) c (sc1 c b g))) 1 (upd (gR g 1) c 1)))).length % 16) ((nI (10 * c)) + 1)))) := hPD.2
    refine lv_iload hx hb dX5_settle_81 (lv_at hl 0 rfl) ?_
    have hq : sp_settle c b g = (1, st3 c (st1 c b g)) := by rw [sp_settle, if_neg k1]
    have hLn := RgX_s (rgx_dAll (c := c) (n := gN g 1) (g := sR (sR g 0 (upd (gR g 0) c (sc1 c b g))) 1 (upd (gR g 1) c 1)) (Nat.le_refl _) hL) (nI (10 * c) + 1)
    exact rt _ (xW ad kA (sV (dAll c (gN g 1) (sR (sR g 0 (upd (gR g 0) c (sc1 c b g))) 1 (upd (gR g 1) c 1))) (((nI (10 * c)) + 1) :: gV (dAll c (gN g 1) (sR (sR g 0 (upd (gR g 0) c (sc1 c b g))) 1 (upd (gR g 1) c 1))))) (tYL y (upd (yL y) ((gV (dAll c (gN g 1) (sR (sR g 0 (upd (gR g 0) c (sc1 c b g))) 1 (upd (gR g 1) c 1)))).length % 16) ((nI (10 * c)) + 1)))) _ _ _ _ hP hD hS dX5_settle_83 (by show _ ∧ _; rw [hq]; exact ⟨rfl, _, hLn, rfl⟩)

set_option maxRecDepth 100000 in
set_option maxHeartbeats 4000000 in
theorem kX5_connect (l : Launch) (D : va_G) (kA : Nat → ClassId) (sz : Nat) (ad : Nat → Nat) (g : Sg) (y : Ys) (p1 p2 b : Int32) (hM : Mn g) (hV : (gV g).length < 2 ^ 30) (hL : RgX (gV g) (yL y)) : CtI l yX5_connect cX5_connect 6 .int 3 D kA sz (xW ad kA g y) [.ref (ad 0), .int p1, .int p2, .int b] (fun r u => r = (sp_connect p1 p2 b g).1 ∧ xQ ad kA (sp_connect p1 p2 b g).2 y u) := by
  refine ct_i (own := RX5) (by decide) rfl (Nat.le_of_ble_eq_true rfl) ?_
  intro p_ e_ s_ m_ ar_ bw_ me_ co_ A ls Q F hnm hK hA hP hD hS hl hsz rt
  have hx := F.1
  have hb := F.2.1
  have hl : lv_has ls 6 [(0, .ref (ad 0)), (1, .int p1), (2, .int p2), (3, .int b)] := hl
  have hP : va_P D vwCl (xW ad kA g y) s_.heap := hP
  obtain ⟨⟨hc1, hc2⟩, hm3⟩ := id hM
  refine lv_iload_n hx hb dX5_connect_0 rfl (lv_at hl 1 rfl) ?_
  refine cl_S_i (wc := []) (As := [.int p1]) (rest := []) F hK P_nil D_nil hS hA (kX5_sourceExists l D kA _ p1 ) gw_267 gw_65 gw_265 gw_266 hdX5_sourceExists ⟨Nat.le_of_ble_eq_true rfl, Nat.le_of_ble_eq_true rfl⟩ hl.1 rfl (Nat.le_of_ble_eq_true rfl) dX5_connect_1 ⟨Nat.le_of_ble_eq_true rfl, Nat.le_of_ble_eq_true rfl⟩ (fun r_1 u_1 H locs hw hP1 hD1 hk1 hFc hS => ?_)
  obtain ⟨rfl, rfl⟩ := hw
  have hP := hp_non hP hk1
  refine b_bne F (P := 0 ≤ p1 ∧ p1 ≤ 7) (tgt := 10) dX5_connect_4 (by decide) (fun c_4 => ?_) (fun c_4 => ?_)
  · obtain ⟨s, hs, rfl⟩ := nat_of (n := 7) (by decide) c_4.1 c_4.2
    refine lv_iload_n hx hb dX5_connect_10 rfl (lv_at hl 2 rfl) ?_
    refine cl_S_i (wc := []) (As := [.int p2]) (rest := []) F hK P_nil D_nil hS hA (kX5_destinationExists l D kA _ p2 ) gw_270 gw_65 gw_268 gw_269 hdX5_destinationExists ⟨Nat.le_of_ble_eq_true rfl, Nat.le_of_ble_eq_true rfl⟩ hl.1 rfl (Nat.le_of_ble_eq_true rfl) dX5_connect_11 ⟨Nat.le_of_ble_eq_true rfl, Nat.le_of_ble_eq_true rfl⟩ (fun r_11 u_11 H locs hw hP1 hD1 hk1 hFc hS => ?_)
    obtain ⟨rfl, rfl⟩ := hw
    have hP := hp_non hP hk1
    refine b_bne F (P := 0 ≤ p2 ∧ p2 ≤ 31) (tgt := 20) dX5_connect_14 (by decide) (fun c_14 => ?_) (fun c_14 => ?_)
    · obtain ⟨d, hd, rfl⟩ := nat_of (n := 31) (by decide) c_14.1 c_14.2
      have hc : s % gN g 0 < 8 := Nat.lt_of_lt_of_le (Nat.mod_lt _ hc1) hc2
      refine lv_aload_n hx hb dX5_connect_20 rfl (lv_at hl 0 rfl) ?_
      refine lv_iload_n hx hb dX5_connect_21 rfl (lv_at hl 1 rfl) ?_
      refine cl_V_i (wc := (xW ad kA g y)) (As := [.int (nI s)]) (rest := []) (b := (ad 0)) (C := RX5) F hK hP hD hS hA (kX5_cellIndex l D kA _ ad g y (nI s) hc1 hc2) gw_274 gw_65 gw_271 gw_273 gw_4 (va_recv hK.1 hP (ci := 5) (q0 := 0) rfl rfl) hdX5_cellIndex ⟨Nat.le_of_ble_eq_true rfl, Nat.le_of_ble_eq_true rfl⟩ hl.1 rfl (Nat.le_of_ble_eq_true rfl) dX5_connect_22 ⟨Nat.le_of_ble_eq_true rfl, Nat.le_of_ble_eq_true rfl⟩ (fun r_22 u_22 H locs hw hP1 hD1 hk1 hFc hS => ?_)
      obtain ⟨rfl, rfl⟩ := hw
      have hP : va_P D vwCl (xW ad kA g y) H := hP1
      have hD : va_D A (xW ad kA g y) := hD1.weaken (fun _ _ _ h => hFc _ h)
      rw [rem_nat (s := s) (n := gN g 0) (by omega) (show 0 < gN g 0 from hc1) (Nat.lt_of_le_of_lt (show gN g 0 ≤ 8 from hc2) (by decide))]
      refine lv_istore (lv' := [(4, .int (nI (s % (gN g 0)))), (0, .ref (ad 0)), (1, .int (nI s)), (2, .int (nI d)), (3, .int b)]) hx hb dX5_connect_25 hl (by decide) rfl (fun ls hl => ?_)
      refine lv_aload_n hx hb dX5_connect_27 rfl (lv_at hl 1 rfl) ?_
      refine g_get F hK hP inX5 0 rfl rfl 0 (by decide) gw_208 rfl (v := .ref (ad 1)) rfl dX5_connect_28 ?_
      refine lv_iload hx hb dX5_connect_31 (lv_at hl 0 rfl) ?_
      refine a_qld F hK hP 1 (f := fun i => some (ad (15 + i))) rfl (j := s % (gN g 0)) hc (by decide) (b := ad (15 + s % (gN g 0))) rfl dX5_connect_33 ?_
      refine lv_astore (lv' := [(5, .ref (ad (15 + s % (gN g 0)))), (4, .int (nI (s % (gN g 0)))), (0, .ref (ad 0)), (1, .int (nI s)), (2, .int (nI d)), (3, .int b)]) hx hb dX5_connect_34 hl (by decide) rfl (fun ls hl => ?_)
      refine lv_aload hx hb dX5_connect_36 (lv_at hl 0 rfl) ?_
      refine g_getN F hK hP inX0 (15 + s % (gN g 0)) (xW_c hc) rfl 1 (by decide) nw_94 rfl (v := .int (gR g 1 (s % (gN g 0)))) rfl dX5_connect_38 ?_
      refine lv_if_eq (tgt := 52) hx hb dX5_connect_41 (by decide) (fun c_41 => ?_) (fun c_41 => ?_)
      · refine lv_aload hx hb dX5_connect_52 (lv_at hl 0 rfl) ?_
        refine lv_iload_n hx hb dX5_connect_54 rfl (lv_at hl 4 rfl) ?_
        refine cl_VN_i (wc := (clC (ad (15 + s % (gN g 0))) (gR g 0 (s % (gN g 0))) (gR g 1 (s % (gN g 0))) (gE g (s % (gN g 0))) (gR g 2 (s % (gN g 0))) (gR g 3 (s % (gN g 0))))) (As := [.int (nI d)]) (rest := []) (b := (ad (15 + s % (gN g 0)))) (C := RX0) F hK (P_on1 (15 + s % (gN g 0)) hP (xW_c hc)) (D_on1 (15 + s % (gN g 0)) hD (xW_c hc)) hS hA (kX0_hasSeen l D kA _ (ad (15 + s % (gN g 0))) (gR g 0 (s % (gN g 0))) (gR g 1 (s % (gN g 0))) (gE g (s % (gN g 0))) (gR g 2 (s % (gN g 0))) (gR g 3 (s % (gN g 0))) d ) gw_282 gw_66 nw_279 gw_281 gw_6 (va_recv (q := (RX0, TX0, 5)) (ci := 0) (q0 := 15 + s % (gN g 0)) hK.1 hP rfl (xW_c hc)) hdX0_hasSeen ⟨Nat.le_of_ble_eq_true rfl, Nat.le_of_ble_eq_true rfl⟩ hl.1 rfl (Nat.le_of_ble_eq_true rfl) dX5_connect_55 ⟨Nat.le_of_ble_eq_true rfl, Nat.le_of_ble_eq_true rfl⟩ (fun r_55 u_55 H locs hw hP1 hD1 hk1 hFc hS => ?_)
        obtain ⟨rfl, rfl⟩ := hw
        have hPD := hp_set (15 + s % (gN g 0)) hP hD (xW_c hc) hk1 hP1
        have hP : va_P D vwCl (xW ad kA g y) H := P_cast (xc_n (g := g) (y := y) (i := s % (gN g 0)) hc) hPD.1
        have hD : va_D A (xW ad kA g y) := D_cast (xc_n (g := g) (y := y) (i := s % (gN g 0)) hc) hPD.2
        refine b_beq F (P := bitq (gE g (s % (gN g 0))) d = 1) (tgt := 63) dX5_connect_58 (by decide) (fun c_58 => ?_) (fun c_58 => ?_)
        · refine lv_aload hx hb dX5_connect_63 (lv_at hl 0 rfl) ?_
          refine lv_iload_n hx hb dX5_connect_65 rfl (lv_at hl 4 rfl) ?_
          refine cl_VN_v (wc := (clC (ad (15 + s % (gN g 0))) (gR g 0 (s % (gN g 0))) (gR g 1 (s % (gN g 0))) (gE g (s % (gN g 0))) (gR g 2 (s % (gN g 0))) (gR g 3 (s % (gN g 0))))) (As := [.int (nI d)]) (rest := []) (b := (ad (15 + s % (gN g 0)))) (C := RX0) F hK (P_on1 (15 + s % (gN g 0)) hP (xW_c hc)) (D_on1 (15 + s % (gN g 0)) hD (xW_c hc)) hS hA (kX0_see l D kA _ (ad (15 + s % (gN g 0))) (gR g 0 (s % (gN g 0))) (gR g 1 (s % (gN g 0))) (gE g (s % (gN g 0))) (gR g 2 (s % (gN g 0))) (gR g 3 (s % (gN g 0))) d ) gw_286 gw_66 nw_283 gw_285 gw_7 (va_recv (q := (RX0, TX0, 5)) (ci := 0) (q0 := 15 + s % (gN g 0)) hK.1 hP rfl (xW_c hc)) hdX0_see ⟨Nat.le_of_ble_eq_true rfl, Nat.le_of_ble_eq_true rfl⟩ hl.1 rfl (Nat.le_of_ble_eq_true rfl) dX5_connect_66 ⟨Nat.le_of_ble_eq_true rfl, Nat.le_of_ble_eq_true rfl⟩ (fun u_66 H locs hw hP1 hD1 hk1 hFc hS => ?_)
          obtain rfl := hw
          have hPD := hp_set (15 + s % (gN g 0)) hP hD (xW_c hc) hk1 hP1
          have hP : va_P D vwCl (xW ad kA (sE g (vp_updL (gE g) (s % (gN g 0)) (gE g (s % (gN g 0)) ||| (1 <<< ((nI d).toInt64 &&& 63))))) y) H := P_cast (xc_2 (g := g) (y := y) (i := s % (gN g 0)) hc) hPD.1
          have hD : va_D A (xW ad kA (sE g (vp_updL (gE g) (s % (gN g 0)) (gE g (s % (gN g 0)) ||| (1 <<< ((nI d).toInt64 &&& 63))))) y) := D_cast (xc_2 (g := g) (y := y) (i := s % (gN g 0)) hc) hPD.2
          refine lv_aload_n hx hb dX5_connect_69 rfl (lv_at hl 2 rfl) ?_
          refine lv_iload hx hb dX5_connect_70 (lv_at hl 1 rfl) ?_
          refine lv_iload_n hx hb dX5_connect_72 rfl (lv_at hl 5 rfl) ?_
          refine cl_V_i (wc := (xW ad kA (sE g (vp_updL (gE g) (s % (gN g 0)) (gE g (s % (gN g 0)) ||| (1 <<< ((nI d).toInt64 &&& 63))))) y)) (As := [.int (nI (s % (gN g 0))), .int b]) (rest := []) (b := (ad 0)) (C := RX5) F hK hP hD hS hA (kX5_settle l D kA _ ad (sE g (vp_updL (gE g) (s % (gN g 0)) (gE g (s % (gN g 0)) ||| (1 <<< ((nI d).toInt64 &&& 63))))) y (s % (gN g 0)) b hc hM hV hL) gw_290 gw_65 gw_287 gw_289 gw_8 (va_recv hK.1 hP (ci := 5) (q0 := 0) rfl rfl) hdX5_settle ⟨Nat.le_of_ble_eq_true rfl, Nat.le_of_ble_eq_true rfl⟩ hl.1 rfl (Nat.le_of_ble_eq_true rfl) dX5_connect_73 ⟨Nat.le_of_ble_eq_true rfl, Nat.le_of_ble_eq_true rfl⟩ (fun r_73 u_73 H locs hw hP1 hD1 hk1 hFc hS => ?_)
          obtain ⟨rfl, L_73, hL_73, rfl⟩ := hw
          have hP : va_P D vwCl (xW ad kA ((sp_settle (s % (gN g 0)) b (sE g (vp_updL (gE g) (s % (gN g 0)) (gE g (s % (gN g 0)) ||| (1 <<< ((nI d).toInt64 &&& 63)))))).2) (tYL y L_73)) H := hP1
          have hD : va_D A (xW ad kA ((sp_settle (s % (gN g 0)) b (sE g (vp_updL (gE g) (s % (gN g 0)) (gE g (s % (gN g 0)) ||| (1 <<< ((nI d).toInt64 &&& 63)))))).2) (tYL y L_73)) := hD1.weaken (fun _ _ _ h => hFc _ h)
          have hq : sp_connect (nI s) (nI d) b g = sp_settle (s % gN g 0) b (seeG (s % gN g 0) d g) := by rw [sp_connect, if_pos c_4, if_pos c_14, nI_clamp (by omega), nI_clamp (by omega), sp_connectNow,  if_pos c_41, if_neg c_58]
          exact rt _ (xW ad kA ((sp_settle (s % (gN g 0)) b (sE g (vp_updL (gE g) (s % (gN g 0)) (gE g (s % (gN g 0)) ||| (1 <<< ((nI d).toInt64 &&& 63)))))).2) (tYL y L_73)) _ _ _ _ hP hD hS dX5_connect_76 (by show _ ∧ _; rw [hq]; exact ⟨rfl, L_73, hL_73, rfl⟩)
        · refine lv_iconst (v := 4) hx hb dX5_connect_61 (by decide) ?_
          have hq : sp_connect (nI s) (nI d) b g = (4, g) := by rw [sp_connect, if_pos c_4, if_pos c_14, nI_clamp (by omega), nI_clamp (by omega), sp_connectNow,  if_pos c_41, if_pos c_58]
          exact rt _ (xW ad kA g y) _ _ _ _ hP hD hS dX5_connect_62 (by show _ ∧ _; rw [hq]; exact ⟨rfl, yL y, hL, rfl⟩)
      · refine lv_aload hx hb dX5_connect_44 (lv_at hl 0 rfl) ?_
        refine lv_iload_n hx hb dX5_connect_46 rfl (lv_at hl 5 rfl) ?_
        refine cl_VN_v (wc := (clC (ad (15 + s % (gN g 0))) (gR g 0 (s % (gN g 0))) (gR g 1 (s % (gN g 0))) (gE g (s % (gN g 0))) (gR g 2 (s % (gN g 0))) (gR g 3 (s % (gN g 0))))) (As := [.int b]) (rest := []) (b := (ad (15 + s % (gN g 0)))) (C := RX0) F hK (P_on1 (15 + s % (gN g 0)) hP (xW_c hc)) (D_on1 (15 + s % (gN g 0)) hD (xW_c hc)) hS hA (kX0_stopConnect l D kA _ (ad (15 + s % (gN g 0))) (gR g 0 (s % (gN g 0))) (gR g 1 (s % (gN g 0))) (gE g (s % (gN g 0))) (gR g 2 (s % (gN g 0))) (gR g 3 (s % (gN g 0))) b ) gw_278 gw_66 nw_275 gw_277 gw_5 (va_recv (q := (RX0, TX0, 5)) (ci := 0) (q0 := 15 + s % (gN g 0)) hK.1 hP rfl (xW_c hc)) hdX0_stopConnect ⟨Nat.le_of_ble_eq_true rfl, Nat.le_of_ble_eq_true rfl⟩ hl.1 rfl (Nat.le_of_ble_eq_true rfl) dX5_connect_47 ⟨Nat.le_of_ble_eq_true rfl, Nat.le_of_ble_eq_true rfl⟩ (fun u_47 H locs hw hP1 hD1 hk1 hFc hS => ?_)
        obtain rfl := hw
        have hPD := hp_set (15 + s % (gN g 0)) hP hD (xW_c hc) hk1 hP1
        have hP : va_P D vwCl (xW ad kA (sR (sR g 2 (upd (gR g 2) (s % (gN g 0)) (gR g 2 (s % (gN g 0)) + 1))) 3 (upd (gR g 3) (s % (gN g 0)) (gR g 3 (s % (gN g 0)) + if b = 0 then 0 else 1))) y) H := P_cast (xc_34 (g := g) (y := y) (i := s % (gN g 0)) hc) hPD.1
        have hD : va_D A (xW ad kA (sR (sR g 2 (upd (gR g 2) (s % (gN g 0)) (gR g 2 (s % (gN g 0)) + 1))) 3 (upd (gR g 3) (s % (gN g 0)) (gR g 3 (s % (gN g 0)) + if b = 0 then 0 else 1))) y) := D_cast (xc_34 (g := g) (y := y) (i := s % (gN g 0)) hc) hPD.2
        refine lv_iconst (v := 3) hx hb dX5_connect_50 (by decide) ?_
        have hq : sp_connect (nI s) (nI d) b g = (3, blkG (s % gN g 0) b g) := by rw [sp_connect, if_pos c_4, if_pos c_14, nI_clamp (by omega), nI_clamp (by omega), sp_connectNow,  if_neg c_41]
        exact rt _ (xW ad kA (sR (sR g 2 (upd (gR g 2) (s % (gN g 0)) (gR g 2 (s % (gN g 0)) + 1))) 3 (upd (gR g 3) (s % (gN g 0)) (gR g 3 (s % (gN g 0)) + if b = 0 then 0 else 1))) y) _ _ _ _ hP hD hS dX5_connect_51 (by show _ ∧ _; rw [hq]; exact ⟨rfl, yL y, hL, rfl⟩)
    · refine lv_bipush (v := (-106)) hx hb dX5_connect_17 (by decide) ?_
      have hq : sp_connect (nI s) p2 b g = (-106, g) := by rw [sp_connect, if_pos c_4, if_neg c_14]
      exact rt _ (xW ad kA g y) _ _ _ _ hP hD hS dX5_connect_19 (by show _ ∧ _; rw [hq]; exact ⟨rfl, yL y, hL, rfl⟩)
  · refine lv_bipush (v := (-105)) hx hb dX5_connect_7 (by decide) ?_
    have hq : sp_connect p1 p2 b g = (-105, g) := by rw [sp_connect, if_neg c_4]
    exact rt _ (xW ad kA g y) _ _ _ _ hP hD hS dX5_connect_9 (by show _ ∧ _; rw [hq]; exact ⟨rfl, yL y, hL, rfl⟩)

set_option maxRecDepth 100000 in
set_option maxHeartbeats 4000000 in
theorem kX5_attempt (l : Launch) (D : va_G) (kA : Nat → ClassId) (sz : Nat) (ad : Nat → Nat) (g : Sg) (y : Ys) (p1 p2 : Int32) (hM : Mn g) : CtI l yX5_attempt cX5_attempt 4 .int 2 D kA sz (xW ad kA g y) [.ref (ad 0), .int p1, .int p2] (fun r u => r = (sp_attempt p1 p2 g).1 ∧ u = xW ad kA (sp_attempt p1 p2 g).2 y) := by
  refine ct_i (own := RX5) (by decide) rfl (Nat.le_of_ble_eq_true rfl) ?_
  intro p_ e_ s_ m_ ar_ bw_ me_ co_ A ls Q F hnm hK hA hP hD hS hl hsz rt
  have hx := F.1
  have hb := F.2.1
  have hl : lv_has ls 4 [(0, .ref (ad 0)), (1, .int p1), (2, .int p2)] := hl
  have hP : va_P D vwCl (xW ad kA g y) s_.heap := hP
  obtain ⟨⟨hc1, hc2⟩, hm3⟩ := id hM
  refine lv_iload_n hx hb dX5_attempt_0 rfl (lv_at hl 1 rfl) ?_
  refine cl_S_i (wc := []) (As := [.int p1]) (rest := []) F hK P_nil D_nil hS hA (kX5_sourceExists l D kA _ p1 ) gw_267 gw_65 gw_265 gw_266 hdX5_sourceExists ⟨Nat.le_of_ble_eq_true rfl, Nat.le_of_ble_eq_true rfl⟩ hl.1 rfl (Nat.le_of_ble_eq_true rfl) dX5_attempt_1 ⟨Nat.le_of_ble_eq_true rfl, Nat.le_of_ble_eq_true rfl⟩ (fun r_1 u_1 H locs hw hP1 hD1 hk1 hFc hS => ?_)
  obtain ⟨rfl, rfl⟩ := hw
  have hP := hp_non hP hk1
  refine b_bne F (P := 0 ≤ p1 ∧ p1 ≤ 7) (tgt := 10) dX5_attempt_4 (by decide) (fun c_4 => ?_) (fun c_4 => ?_)
  · obtain ⟨s, hs, rfl⟩ := nat_of (n := 7) (by decide) c_4.1 c_4.2
    refine lv_iload_n hx hb dX5_attempt_10 rfl (lv_at hl 2 rfl) ?_
    refine cl_S_i (wc := []) (As := [.int p2]) (rest := []) F hK P_nil D_nil hS hA (kX5_destinationExists l D kA _ p2 ) gw_270 gw_65 gw_268 gw_269 hdX5_destinationExists ⟨Nat.le_of_ble_eq_true rfl, Nat.le_of_ble_eq_true rfl⟩ hl.1 rfl (Nat.le_of_ble_eq_true rfl) dX5_attempt_11 ⟨Nat.le_of_ble_eq_true rfl, Nat.le_of_ble_eq_true rfl⟩ (fun r_11 u_11 H locs hw hP1 hD1 hk1 hFc hS => ?_)
    obtain ⟨rfl, rfl⟩ := hw
    have hP := hp_non hP hk1
    refine b_bne F (P := 0 ≤ p2 ∧ p2 ≤ 31) (tgt := 20) dX5_attempt_14 (by decide) (fun c_14 => ?_) (fun c_14 => ?_)
    · obtain ⟨d, hd, rfl⟩ := nat_of (n := 31) (by decide) c_14.1 c_14.2
      have hc : s % gN g 0 < 8 := Nat.lt_of_lt_of_le (Nat.mod_lt _ hc1) hc2
      refine lv_aload_n hx hb dX5_attempt_20 rfl (lv_at hl 0 rfl) ?_
      refine g_get F hK hP inX5 0 rfl rfl 0 (by decide) gw_208 rfl (v := .ref (ad 1)) rfl dX5_attempt_21 ?_
      refine lv_aload_n hx hb dX5_attempt_24 rfl (lv_at hl 0 rfl) ?_
      refine lv_iload_n hx hb dX5_attempt_25 rfl (lv_at hl 1 rfl) ?_
      refine cl_V_i (wc := (xW ad kA g y)) (As := [.int (nI s)]) (rest := [.ref (ad 1)]) (b := (ad 0)) (C := RX5) F hK hP hD hS hA (kX5_cellIndex l D kA _ ad g y (nI s) hc1 hc2) gw_274 gw_65 gw_271 gw_273 gw_4 (va_recv hK.1 hP (ci := 5) (q0 := 0) rfl rfl) hdX5_cellIndex ⟨Nat.le_of_ble_eq_true rfl, Nat.le_of_ble_eq_true rfl⟩ hl.1 rfl (Nat.le_of_ble_eq_true rfl) dX5_attempt_26 ⟨Nat.le_of_ble_eq_true rfl, Nat.le_of_ble_eq_true rfl⟩ (fun r_26 u_26 H locs hw hP1 hD1 hk1 hFc hS => ?_)
      obtain ⟨rfl, rfl⟩ := hw
      have hP : va_P D vwCl (xW ad kA g y) H := hP1
      have hD : va_D A (xW ad kA g y) := hD1.weaken (fun _ _ _ h => hFc _ h)
      rw [rem_nat (s := s) (n := gN g 0) (by omega) (show 0 < gN g 0 from hc1) (Nat.lt_of_le_of_lt (show gN g 0 ≤ 8 from hc2) (by decide))]
      refine a_qld F hK hP 1 (f := fun i => some (ad (15 + i))) rfl (j := s % (gN g 0)) hc (by decide) (b := ad (15 + s % (gN g 0))) rfl dX5_attempt_29 ?_
      refine lv_astore_n (lv' := [(3, .ref (ad (15 + s % (gN g 0)))), (0, .ref (ad 0)), (1, .int (nI s)), (2, .int (nI d))]) hx hb dX5_attempt_30 rfl hl (by decide) rfl (fun ls hl => ?_)
      refine lv_aload_n hx hb dX5_attempt_31 rfl (lv_at hl 0 rfl) ?_
      refine g_getN F hK hP inX0 (15 + s % (gN g 0)) (xW_c hc) rfl 1 (by decide) nw_94 rfl (v := .int (gR g 1 (s % (gN g 0)))) rfl dX5_attempt_32 ?_
      refine lv_if_eq (tgt := 44) hx hb dX5_attempt_35 (by decide) (fun c_35 => ?_) (fun c_35 => ?_)
      · refine lv_aload_n hx hb dX5_attempt_44 rfl (lv_at hl 0 rfl) ?_
        refine lv_iload_n hx hb dX5_attempt_45 rfl (lv_at hl 3 rfl) ?_
        refine cl_VN_i (wc := (clC (ad (15 + s % (gN g 0))) (gR g 0 (s % (gN g 0))) (gR g 1 (s % (gN g 0))) (gE g (s % (gN g 0))) (gR g 2 (s % (gN g 0))) (gR g 3 (s % (gN g 0))))) (As := [.int (nI d)]) (rest := []) (b := (ad (15 + s % (gN g 0)))) (C := RX0) F hK (P_on1 (15 + s % (gN g 0)) hP (xW_c hc)) (D_on1 (15 + s % (gN g 0)) hD (xW_c hc)) hS hA (kX0_hasSeen l D kA _ (ad (15 + s % (gN g 0))) (gR g 0 (s % (gN g 0))) (gR g 1 (s % (gN g 0))) (gE g (s % (gN g 0))) (gR g 2 (s % (gN g 0))) (gR g 3 (s % (gN g 0))) d ) gw_282 gw_66 nw_279 gw_281 gw_6 (va_recv (q := (RX0, TX0, 5)) (ci := 0) (q0 := 15 + s % (gN g 0)) hK.1 hP rfl (xW_c hc)) hdX0_hasSeen ⟨Nat.le_of_ble_eq_true rfl, Nat.le_of_ble_eq_true rfl⟩ hl.1 rfl (Nat.le_of_ble_eq_true rfl) dX5_attempt_46 ⟨Nat.le_of_ble_eq_true rfl, Nat.le_of_ble_eq_true rfl⟩ (fun r_46 u_46 H locs hw hP1 hD1 hk1 hFc hS => ?_)
        obtain ⟨rfl, rfl⟩ := hw
        have hPD := hp_set (15 + s % (gN g 0)) hP hD (xW_c hc) hk1 hP1
        have hP : va_P D vwCl (xW ad kA g y) H := P_cast (xc_n (g := g) (y := y) (i := s % (gN g 0)) hc) hPD.1
        have hD : va_D A (xW ad kA g y) := D_cast (xc_n (g := g) (y := y) (i := s % (gN g 0)) hc) hPD.2
        refine b_beq F (P := bitq (gE g (s % (gN g 0))) d = 1) (tgt := 54) dX5_attempt_49 (by decide) (fun c_49 => ?_) (fun c_49 => ?_)
        · refine lv_aload_n hx hb dX5_attempt_54 rfl (lv_at hl 1 rfl) ?_
          refine g_get F hK hP inX5 0 rfl rfl 2 (by decide) gw_210 rfl (v := .ref (ad 3)) rfl dX5_attempt_55 ?_
          refine lv_iload_n hx hb dX5_attempt_58 rfl (lv_at hl 2 rfl) ?_
          refine lv_iload_n hx hb dX5_attempt_59 rfl (lv_at hl 3 rfl) ?_
          refine lv_aload_n hx hb dX5_attempt_60 rfl (lv_at hl 1 rfl) ?_
          refine g_get F hK hP inX5 0 rfl rfl 7 (by decide) gw_215 rfl (v := .int (gI g 5)) rfl dX5_attempt_61 ?_
          refine lv_aload_n hx hb dX5_attempt_64 rfl (lv_at hl 1 rfl) ?_
          refine g_get F hK hP inX5 0 rfl rfl 6 (by decide) gw_214 rfl (v := .int (gI g 4)) rfl dX5_attempt_65 ?_
          refine lv_iadd hx hb dX5_attempt_68 ?_
          refine cl_VN_i (wc := (xD ad kA g)) (As := [.int (nI s), .int (nI d), .int ((gI g 5) + (gI g 4))]) (rest := []) (b := (ad 3)) (C := RX2) F hK (sg_P (l1 := (xH ad kA g ++ (xK ad kA g y))) (l2 := (xV ad kA g y ++ (xI ad kA g ++ (xP ad g)))) hP) (sg_D (l1 := (xH ad kA g ++ (xK ad kA g y))) (l2 := (xV ad kA g y ++ (xI ad kA g ++ (xP ad g)))) hD) hS hA (kX2_put l D kA _ (ad 3) (ad 4) (ad 5) (ad 6) (gN g 1) (gR g 4) (gR g 5) (gR g 6) (nI s) (nI d) ((gI g 5) + (gI g 4)) hm3) gw_326 gw_68 nw_323 gw_325 gw_15 (va_recv hK.1 hP (ci := 2) (q0 := 7) rfl rfl) hdX2_put ⟨Nat.le_of_ble_eq_true rfl, Nat.le_of_ble_eq_true rfl⟩ hl.1 rfl (Nat.le_of_ble_eq_true rfl) dX5_attempt_69 ⟨Nat.le_of_ble_eq_true rfl, Nat.le_of_ble_eq_true rfl⟩ (fun r_69 u_69 H locs hw hP1 hD1 hk1 hFc hS => ?_)
          rcases hw with ⟨h9, rfl, rfl⟩ | ⟨h9, rfl, rfl⟩
          · have hPD := hp_seg (l1 := (xH ad kA g ++ (xK ad kA g y))) (wc := xD ad kA g) (l2 := (xV ad kA g y ++ (xI ad kA g ++ (xP ad g)))) hP hD hk1 hFc hP1 hD1
            have hP : va_P D vwCl (xW ad kA (sN (sR (sR (sR g 4 (upd (gR g 4) (gN g 1) (nI s))) 5 (upd (gR g 5) (gN g 1) (nI d))) 6 (upd (gR g 6) (gN g 1) ((gI g 5) + (gI g 4)))) 1 (gN g 1 + 1)) y) H := hPD.1
            have hD : va_D A (xW ad kA (sN (sR (sR (sR g 4 (upd (gR g 4) (gN g 1) (nI s))) 5 (upd (gR g 5) (gN g 1) (nI d))) 6 (upd (gR g 6) (gN g 1) ((gI g 5) + (gI g 4)))) 1 (gN g 1 + 1)) y) := hPD.2
            refine lv_if_ne (tgt := 78) hx hb dX5_attempt_72 (by decide) (fun _ => ?_) (fun h => absurd h (by decide))
            refine lv_aload_n hx hb dX5_attempt_78 rfl (lv_at hl 0 rfl) ?_
            refine lv_iload_n hx hb dX5_attempt_79 rfl (lv_at hl 3 rfl) ?_
            refine cl_VN_v (wc := (clC (ad (15 + s % (gN g 0))) (gR g 0 (s % (gN g 0))) (gR g 1 (s % (gN g 0))) (gE g (s % (gN g 0))) (gR g 2 (s % (gN g 0))) (gR g 3 (s % (gN g 0))))) (As := [.int (nI d)]) (rest := []) (b := (ad (15 + s % (gN g 0)))) (C := RX0) F hK (P_on1 (15 + s % (gN g 0)) hP (xW_c hc)) (D_on1 (15 + s % (gN g 0)) hD (xW_c hc)) hS hA (kX0_see l D kA _ (ad (15 + s % (gN g 0))) (gR g 0 (s % (gN g 0))) (gR g 1 (s % (gN g 0))) (gE g (s % (gN g 0))) (gR g 2 (s % (gN g 0))) (gR g 3 (s % (gN g 0))) d ) gw_286 gw_66 nw_283 gw_285 gw_7 (va_recv (q := (RX0, TX0, 5)) (ci := 0) (q0 := 15 + s % (gN g 0)) hK.1 hP rfl (xW_c hc)) hdX0_see ⟨Nat.le_of_ble_eq_true rfl, Nat.le_of_ble_eq_true rfl⟩ hl.1 rfl (Nat.le_of_ble_eq_true rfl) dX5_attempt_80 ⟨Nat.le_of_ble_eq_true rfl, Nat.le_of_ble_eq_true rfl⟩ (fun u_80 H locs hw hP1 hD1 hk1 hFc hS => ?_)
            obtain rfl := hw
            have hPD := hp_set (15 + s % (gN g 0)) hP hD (xW_c hc) hk1 hP1
            have hP : va_P D vwCl (xW ad kA (sE (sN (sR (sR (sR g 4 (upd (gR g 4) (gN g 1) (nI s))) 5 (upd (gR g 5) (gN g 1) (nI d))) 6 (upd (gR g 6) (gN g 1) ((gI g 5) + (gI g 4)))) 1 (gN g 1 + 1)) (vp_updL (gE g) (s % (gN g 0)) (gE g (s % (gN g 0)) ||| (1 <<< ((nI d).toInt64 &&& 63))))) y) H := P_cast (xc_2 (g := (sN (sR (sR (sR g 4 (upd (gR g 4) (gN g 1) (nI s))) 5 (upd (gR g 5) (gN g 1) (nI d))) 6 (upd (gR g 6) (gN g 1) ((gI g 5) + (gI g 4)))) 1 (gN g 1 + 1))) (y := y) (i := s % (gN g 0)) hc) hPD.1
            have hD : va_D A (xW ad kA (sE (sN (sR (sR (sR g 4 (upd (gR g 4) (gN g 1) (nI s))) 5 (upd (gR g 5) (gN g 1) (nI d))) 6 (upd (gR g 6) (gN g 1) ((gI g 5) + (gI g 4)))) 1 (gN g 1 + 1)) (vp_updL (gE g) (s % (gN g 0)) (gE g (s % (gN g 0)) ||| (1 <<< ((nI d).toInt64 &&& 63))))) y) := D_cast (xc_2 (g := (sN (sR (sR (sR g 4 (upd (gR g 4) (gN g 1) (nI s))) 5 (upd (gR g 5) (gN g 1) (nI d))) 6 (upd (gR g 6) (gN g 1) ((gI g 5) + (gI g 4)))) 1 (gN g 1 + 1))) (y := y) (i := s % (gN g 0)) hc) hPD.2
            refine lv_iconst (v := 0) hx hb dX5_attempt_83 (by decide) ?_
            have hq : sp_attempt (nI s) (nI d) g = (0, addG s d g) := by rw [sp_attempt, if_pos c_4, if_pos c_14, nI_clamp (by omega), nI_clamp (by omega), sp_attemptNow,  if_pos c_35, if_neg c_49, if_neg (by omega)]
            exact rt _ (xW ad kA (sE (sN (sR (sR (sR g 4 (upd (gR g 4) (gN g 1) (nI s))) 5 (upd (gR g 5) (gN g 1) (nI d))) 6 (upd (gR g 6) (gN g 1) ((gI g 5) + (gI g 4)))) 1 (gN g 1 + 1)) (vp_updL (gE g) (s % (gN g 0)) (gE g (s % (gN g 0)) ||| (1 <<< ((nI d).toInt64 &&& 63))))) y) _ _ _ _ hP hD hS dX5_attempt_84 (by show _ ∧ _; rw [hq]; exact ⟨rfl, rfl⟩)
          · have hPD := hp_seg (l1 := (xH ad kA g ++ (xK ad kA g y))) (wc := xD ad kA g) (l2 := (xV ad kA g y ++ (xI ad kA g ++ (xP ad g)))) hP hD hk1 hFc hP1 hD1
            have hP : va_P D vwCl (xW ad kA g y) H := hPD.1
            have hD : va_D A (xW ad kA g y) := hPD.2
            refine lv_if_ne (tgt := 78) hx hb dX5_attempt_72 (by decide) (fun h => absurd h (by decide)) (fun _ => ?_)
            refine lv_bipush (v := (-110)) hx hb dX5_attempt_75 (by decide) ?_
            have hq : sp_attempt (nI s) (nI d) g = (-110, g) := by rw [sp_attempt, if_pos c_4, if_pos c_14, nI_clamp (by omega), nI_clamp (by omega), sp_attemptNow,  if_pos c_35, if_neg c_49, if_pos (by omega)]
            exact rt _ (xW ad kA g y) _ _ _ _ hP hD hS dX5_attempt_77 (by show _ ∧ _; rw [hq]; exact ⟨rfl, rfl⟩)
        · refine lv_iconst (v := 4) hx hb dX5_attempt_52 (by decide) ?_
          have hq : sp_attempt (nI s) (nI d) g = (4, g) := by rw [sp_attempt, if_pos c_4, if_pos c_14, nI_clamp (by omega), nI_clamp (by omega), sp_attemptNow,  if_pos c_35, if_pos c_49]
          exact rt _ (xW ad kA g y) _ _ _ _ hP hD hS dX5_attempt_53 (by show _ ∧ _; rw [hq]; exact ⟨rfl, rfl⟩)
      · refine lv_aload_n hx hb dX5_attempt_38 rfl (lv_at hl 0 rfl) ?_
        refine cl_VN_v (wc := (clC (ad (15 + s % (gN g 0))) (gR g 0 (s % (gN g 0))) (gR g 1 (s % (gN g 0))) (gE g (s % (gN g 0))) (gR g 2 (s % (gN g 0))) (gR g 3 (s % (gN g 0))))) (As := []) (rest := []) (b := (ad (15 + s % (gN g 0)))) (C := RX0) F hK (P_on1 (15 + s % (gN g 0)) hP (xW_c hc)) (D_on1 (15 + s % (gN g 0)) hD (xW_c hc)) hS hA (kX0_stopAttempt l D kA _ (ad (15 + s % (gN g 0))) (gR g 0 (s % (gN g 0))) (gR g 1 (s % (gN g 0))) (gE g (s % (gN g 0))) (gR g 2 (s % (gN g 0))) (gR g 3 (s % (gN g 0)))  ) gw_322 gw_66 nw_319 gw_321 gw_14 (va_recv (q := (RX0, TX0, 5)) (ci := 0) (q0 := 15 + s % (gN g 0)) hK.1 hP rfl (xW_c hc)) hdX0_stopAttempt ⟨Nat.le_of_ble_eq_true rfl, Nat.le_of_ble_eq_true rfl⟩ hl.1 rfl (Nat.le_of_ble_eq_true rfl) dX5_attempt_39 ⟨Nat.le_of_ble_eq_true rfl, Nat.le_of_ble_eq_true rfl⟩ (fun u_39 H locs hw hP1 hD1 hk1 hFc hS => ?_)
        obtain rfl := hw
        have hPD := hp_set (15 + s % (gN g 0)) hP hD (xW_c hc) hk1 hP1
        have hP : va_P D vwCl (xW ad kA (sR g 2 (upd (gR g 2) (s % (gN g 0)) (gR g 2 (s % (gN g 0)) + 1))) y) H := P_cast (xc_3 (g := g) (y := y) (i := s % (gN g 0)) hc) hPD.1
        have hD : va_D A (xW ad kA (sR g 2 (upd (gR g 2) (s % (gN g 0)) (gR g 2 (s % (gN g 0)) + 1))) y) := D_cast (xc_3 (g := g) (y := y) (i := s % (gN g 0)) hc) hPD.2
        refine lv_iconst (v := 3) hx hb dX5_attempt_42 (by decide) ?_
        have hq : sp_attempt (nI s) (nI d) g = (3, sR g 2 (upd (gR g 2) (s % (gN g 0)) (gR g 2 (s % (gN g 0)) + 1))) := by rw [sp_attempt, if_pos c_4, if_pos c_14, nI_clamp (by omega), nI_clamp (by omega), sp_attemptNow,  if_neg c_35]
        exact rt _ (xW ad kA (sR g 2 (upd (gR g 2) (s % (gN g 0)) (gR g 2 (s % (gN g 0)) + 1))) y) _ _ _ _ hP hD hS dX5_attempt_43 (by show _ ∧ _; rw [hq]; exact ⟨rfl, rfl⟩)
    · refine lv_bipush (v := (-106)) hx hb dX5_attempt_17 (by decide) ?_
      have hq : sp_attempt (nI s) p2 g = (-106, g) := by rw [sp_attempt, if_pos c_4, if_neg c_14]
      exact rt _ (xW ad kA g y) _ _ _ _ hP hD hS dX5_attempt_19 (by show _ ∧ _; rw [hq]; exact ⟨rfl, rfl⟩)
  · refine lv_bipush (v := (-105)) hx hb dX5_attempt_7 (by decide) ?_
    have hq : sp_attempt p1 p2 g = (-105, g) := by rw [sp_attempt, if_neg c_4]
    exact rt _ (xW ad kA g y) _ _ _ _ hP hD hS dX5_attempt_9 (by show _ ∧ _; rw [hq]; exact ⟨rfl, rfl⟩)

set_option maxRecDepth 100000 in
set_option maxHeartbeats 4000000 in
theorem kX5_answer (l : Launch) (D : va_G) (kA : Nat → ClassId) (sz : Nat) (ad : Nat → Nat) (g : Sg) (y : Ys) (p1 p2 : Int32) (hI : Inv g) (hL : RgX (gV g) (yL y)) : CtI l yX5_answer cX5_answer 4 .int 3 D kA sz (xW ad kA g y) [.ref (ad 0), .int p1, .int p2] (fun r u => r = (sp_answer p1 p2 g).1 ∧ xQ ad kA (sp_answer p1 p2 g).2 y u) := by
  refine ct_i (own := RX5) (by decide) rfl (Nat.le_of_ble_eq_true rfl) ?_
  intro p_ e_ s_ m_ ar_ bw_ me_ co_ A ls Q F hnm hK hA hP hD hS hl hsz rt
  have hx := F.1
  have hb := F.2.1
  have hl : lv_has ls 4 [(0, .ref (ad 0)), (1, .int p1), (2, .int p2)] := hl
  have hP : va_P D vwCl (xW ad kA g y) s_.heap := hP
  obtain ⟨⟨hc1, hc2⟩, ha, hn, hu, hd, hup, hlo, hso, hv⟩ := id hI
  refine lv_aload_n hx hb dX5_answer_0 rfl (lv_at hl 0 rfl) ?_
  refine g_get F hK hP inX5 0 rfl rfl 2 (by decide) gw_210 rfl (v := .ref (ad 3)) rfl dX5_answer_1 ?_
  refine lv_iload_n hx hb dX5_answer_4 rfl (lv_at hl 1 rfl) ?_
  refine lv_iload_n hx hb dX5_answer_5 rfl (lv_at hl 2 rfl) ?_
  refine cl_VN_i (wc := (xD ad kA g)) (As := [.int p1, .int p2]) (rest := []) (b := (ad 3)) (C := RX2) F hK (sg_P (l1 := (xH ad kA g ++ (xK ad kA g y))) (l2 := (xV ad kA g y ++ (xI ad kA g ++ (xP ad g)))) hP) (sg_D (l1 := (xH ad kA g ++ (xK ad kA g y))) (l2 := (xV ad kA g y ++ (xI ad kA g ++ (xP ad g)))) hD) hS hA (kX2_find l D kA _ (ad 3) (ad 4) (ad 5) (ad 6) (gN g 1) (gR g 4) (gR g 5) (gR g 6) p1 p2 ha) gw_334 gw_68 nw_331 gw_333 gw_16 (va_recv hK.1 hP (ci := 2) (q0 := 7) rfl rfl) hdX2_find ⟨Nat.le_of_ble_eq_true rfl, Nat.le_of_ble_eq_true rfl⟩ hl.1 rfl (Nat.le_of_ble_eq_true rfl) dX5_answer_6 ⟨Nat.le_of_ble_eq_true rfl, Nat.le_of_ble_eq_true rfl⟩ (fun r_6 u_6 H locs hw hP1 hD1 hk1 hFc hS => ?_)
  obtain ⟨rfl, rfl⟩ := hw
  have hPD := hp_seg (l1 := (xH ad kA g ++ (xK ad kA g y))) (wc := xD ad kA g) (l2 := (xV ad kA g y ++ (xI ad kA g ++ (xP ad g)))) hP hD hk1 hFc hP1 hD1
  have hP : va_P D vwCl (xW ad kA g y) H := hPD.1
  have hD : va_D A (xW ad kA g y) := hPD.2
  refine lv_istore_n (lv' := [(3, .int (optI (fiA p1 p2 g))), (0, .ref (ad 0)), (1, .int p1), (2, .int p2)]) hx hb dX5_answer_9 rfl hl (by decide) rfl (fun ls hl => ?_)
  refine lv_iload_n hx hb dX5_answer_10 rfl (lv_at hl 0 rfl) ?_
  refine lv_iconst (v := (-1)) hx hb dX5_answer_11 (by decide) ?_
  refine lv_icmp_ne (tgt := 18) hx hb dX5_answer_12 (by decide) (fun c_12 => ?_) (fun c_12 => ?_)
  · obtain ⟨k, hk0⟩ := optI_ne c_12
    have hkk := (fi_lt hk0).1
    have hpk := of_decide_eq_true (fi_lt hk0).2
    obtain ⟨sx, hsx, he⟩ := hso k hkk
    obtain rfl : p1 = nI sx := hpk.1.symm.trans he
    have hl : lv_has ls 4 [(3, .int (nI k)), (0, .ref (ad 0)), (1, .int (nI sx)), (2, .int p2)] := by rw [hk0] at hl; exact hl
    refine lv_aload_n hx hb dX5_answer_18 rfl (lv_at hl 1 rfl) ?_
    refine g_get F hK hP inX5 0 rfl rfl 2 (by decide) gw_210 rfl (v := .ref (ad 3)) rfl dX5_answer_19 ?_
    refine lv_iload_n hx hb dX5_answer_22 rfl (lv_at hl 0 rfl) ?_
    refine cl_VN_v (wc := (xD ad kA g)) (As := [.int (nI k)]) (rest := []) (b := (ad 3)) (C := RX2) F hK (sg_P (l1 := (xH ad kA g ++ (xK ad kA g y))) (l2 := (xV ad kA g y ++ (xI ad kA g ++ (xP ad g)))) hP) (sg_D (l1 := (xH ad kA g ++ (xK ad kA g y))) (l2 := (xV ad kA g y ++ (xI ad kA g ++ (xP ad g)))) hD) hS hA (kX2_drop l D kA _ (ad 3) (ad 4) (ad 5) (ad 6) (gN g 1) (gR g 4) (gR g 5) (gR g 6) k hkk ha) gw_306 gw_68 nw_303 gw_305 gw_12 (va_recv hK.1 hP (ci := 2) (q0 := 7) rfl rfl) hdX2_drop ⟨Nat.le_of_ble_eq_true rfl, Nat.le_of_ble_eq_true rfl⟩ hl.1 rfl (Nat.le_of_ble_eq_true rfl) dX5_answer_23 ⟨Nat.le_of_ble_eq_true rfl, Nat.le_of_ble_eq_true rfl⟩ (fun u_23 H locs hw hP1 hD1 hk1 hFc hS => ?_)
    obtain rfl := hw
    have hPD := hp_seg (l1 := (xH ad kA g ++ (xK ad kA g y))) (wc := xD ad kA g) (l2 := (xV ad kA g y ++ (xI ad kA g ++ (xP ad g)))) hP hD hk1 hFc hP1 hD1
    have hP : va_P D vwCl (xW ad kA (sp_drop k g) y) H := hPD.1
    have hD : va_D A (xW ad kA (sp_drop k g) y) := hPD.2
    refine lv_aload_n hx hb dX5_answer_26 rfl (lv_at hl 1 rfl) ?_
    refine lv_aload_n hx hb dX5_answer_27 rfl (lv_at hl 1 rfl) ?_
    refine lv_iload_n hx hb dX5_answer_28 rfl (lv_at hl 2 rfl) ?_
    refine cl_V_i (wc := (xW ad kA (sp_drop k g) y)) (As := [.int (nI sx)]) (rest := [.ref (ad 0)]) (b := (ad 0)) (C := RX5) F hK hP hD hS hA (kX5_cellIndex l D kA _ ad (sp_drop k g) y (nI sx) hc1 hc2) gw_274 gw_65 gw_271 gw_273 gw_4 (va_recv hK.1 hP (ci := 5) (q0 := 0) rfl rfl) hdX5_cellIndex ⟨Nat.le_of_ble_eq_true rfl, Nat.le_of_ble_eq_true rfl⟩ hl.1 rfl (Nat.le_of_ble_eq_true rfl) dX5_answer_29 ⟨Nat.le_of_ble_eq_true rfl, Nat.le_of_ble_eq_true rfl⟩ (fun r_29 u_29 H locs hw hP1 hD1 hk1 hFc hS => ?_)
    obtain ⟨rfl, rfl⟩ := hw
    have hP : va_P D vwCl (xW ad kA (sp_drop k g) y) H := hP1
    have hD : va_D A (xW ad kA (sp_drop k g) y) := hD1.weaken (fun _ _ _ h => hFc _ h)
    rw [rem_nat (s := sx) (n := gN (sp_drop k g) 0) (by omega) (show 0 < gN (sp_drop k g) 0 from hc1) (Nat.lt_of_le_of_lt (show gN (sp_drop k g) 0 ≤ 8 from hc2) (by decide))]
    refine lv_iconst (v := 1) hx hb dX5_answer_32 (by decide) ?_
    refine cl_V_i (wc := (xW ad kA (sp_drop k g) y)) (As := [.int (nI (sx % (gN g 0))), .int 1]) (rest := []) (b := (ad 0)) (C := RX5) F hK hP hD hS hA (kX5_settle l D kA _ ad (sp_drop k g) y (sx % (gN g 0)) 1 (Nat.lt_of_lt_of_le (Nat.mod_lt _ hc1) hc2) ((kp_drop hkk).mn ⟨⟨hc1, hc2⟩, ha⟩) hv hL) gw_290 gw_65 gw_287 gw_289 gw_8 (va_recv hK.1 hP (ci := 5) (q0 := 0) rfl rfl) hdX5_settle ⟨Nat.le_of_ble_eq_true rfl, Nat.le_of_ble_eq_true rfl⟩ hl.1 rfl (Nat.le_of_ble_eq_true rfl) dX5_answer_33 ⟨Nat.le_of_ble_eq_true rfl, Nat.le_of_ble_eq_true rfl⟩ (fun r_33 u_33 H locs hw hP1 hD1 hk1 hFc hS => ?_)
    obtain ⟨rfl, L_33, hL_33, rfl⟩ := hw
    have hP : va_P D vwCl (xW ad kA ((sp_settle (sx % (gN g 0)) 1 (sp_drop k g)).2) (tYL y L_33)) H := hP1
    have hD : va_D A (xW ad kA ((sp_settle (sx % (gN g 0)) 1 (sp_drop k g)).2) (tYL y L_33)) := hD1.weaken (fun _ _ _ h => hFc _ h)
    have hq : sp_answer (nI sx) p2 g = sp_settle (sx % gN g 0) 1 (sp_drop k g) := by rw [sp_answer, hk0, nI_clamp (by omega)]
    exact rt _ (xW ad kA ((sp_settle (sx % (gN g 0)) 1 (sp_drop k g)).2) (tYL y L_33)) _ _ _ _ hP hD hS dX5_answer_36 (by show _ ∧ _; rw [hq]; exact ⟨rfl, L_33, hL_33, rfl⟩)
  · refine lv_bipush (v := (-108)) hx hb dX5_answer_15 (by decide) ?_
    have hq : sp_answer p1 p2 g = (-108, g) := by rw [sp_answer, optI_eq (fun k h => by have := (fi_lt h).1; omega) c_12]
    exact rt _ (xW ad kA g y) _ _ _ _ hP hD hS dX5_answer_17 (by show _ ∧ _; rw [hq]; exact ⟨rfl, yL y, hL, rfl⟩)

set_option maxRecDepth 100000 in
set_option maxHeartbeats 4000000 in
theorem kX5_failDueAttempts (l : Launch) (D : va_G) (kA : Nat → ClassId) (sz : Nat) (ad : Nat → Nat) (g : Sg) (y : Ys) (hM : Mn g) (hSo : SoOK g) (hV : (gV g).length + gN g 1 < 2 ^ 30) (hL : RgX (gV g) (yL y)) : CtI l yX5_failDueAttempts cX5_failDueAttempts 5 .int 3 D kA sz (xW ad kA g y) [.ref (ad 0)] (fun r u => r = nI (tkL 12 0 g).1 ∧ xQ ad kA (tkL 12 0 g).2 y u) := by
  refine ct_i (own := RX5) (by decide) rfl (Nat.le_of_ble_eq_true rfl) ?_
  intro p_ e_ s_ m_ ar_ bw_ me_ co_ A ls Q F hnm hK hA hP hD hS hl hsz rt
  have hx := F.1
  have hb := F.2.1
  have hl : lv_has ls 5 [(0, .ref (ad 0))] := hl
  have hP : va_P D vwCl (xW ad kA g y) s_.heap := hP
  refine lv_iconst (v := 0) hx hb dX5_failDueAttempts_0 (by decide) ?_
  refine lv_istore_n (lv' := [(1, .int 0), (0, .ref (ad 0))]) hx hb dX5_failDueAttempts_1 rfl hl (by decide) rfl (fun ls hl => ?_)
  refine lv_iconst (v := 0) hx hb dX5_failDueAttempts_2 (by decide) ?_
  refine lv_istore_n (lv' := [(2, .int 0), (1, .int 0), (0, .ref (ad 0))]) hx hb dX5_failDueAttempts_3 rfl hl (by decide) rfl (fun ls hl => ?_)
  have lp_4 : ∀ (n_4 : Nat) (i : Nat) (f : Nat) (g1 : Sg) (L1 : Nat → Int32), (i ≤ 12) → (Mn g1) → (SoOK g1) → ((gV g1).length + gN g1 1 < 2 ^ 30) → (RgX (gV g1) L1) → (tkL (12 - i) f g1 = tkL 12 0 g) → (12 - i) < n_4 → ∀ (H : Heap) (locs : List Loc) (ls : Array Slot), va_P D vwCl (xW ad kA g1 (tYL y L1)) H → va_D A (xW ad kA g1 (tYL y L1)) → va_S A s_.heap H locs → lv_has ls 5 [(0, .ref (ad 0)), (1, .int (nI f)), (2, .int (nI i))] → W p_ l e_ (rmC 3 0 0) s_ m_ ar_ bw_ me_ co_ H locs 0 0 Q (F0 m_ 4 ls []) := by
    intro n_4
    induction n_4 with
    | zero =>
      intro i f g1 L1 hi hM1 hS1 hV1 hL1 hg hm_4
      exact absurd hm_4 (Nat.not_lt_zero _)
    | succ n_4 ih_4 =>
      intro i f g1 L1 hi hM1 hS1 hV1 hL1 hg hm_4 H locs ls hP hD hS hl
      obtain ⟨⟨hm1, hm2⟩, hm3⟩ := id hM1
      refine lv_iload_n hx hb dX5_failDueAttempts_4 rfl (lv_at hl 2 rfl) ?_
      refine lv_bipush (v := 12) hx hb dX5_failDueAttempts_5 (by decide) ?_
      refine b_ge F (a := i) (b := 12) (tgt := 70) dX5_failDueAttempts_7 (by decide) (by omega) (by omega) (fun c_7 => ?_) (fun c_7 => ?_)
      · refine lv_iload_n hx hb dX5_failDueAttempts_70 rfl (lv_at hl 1 rfl) ?_
        have hq : tkL 12 0 g = (f, g1) := by rw [← hg, show 12 - i = 0 by omega]; rfl
        exact rt _ (xW ad kA g1 (tYL y L1)) _ _ _ _ hP hD hS dX5_failDueAttempts_71 (by show _ ∧ _; rw [hq]; exact ⟨rfl, L1, hL1, rfl⟩)
      · refine lv_aload_n hx hb dX5_failDueAttempts_10 rfl (lv_at hl 0 rfl) ?_
        refine g_get F hK hP inX5 0 rfl rfl 2 (by decide) gw_210 rfl (v := .ref (ad 3)) rfl dX5_failDueAttempts_11 ?_
        refine lv_aload_n hx hb dX5_failDueAttempts_14 rfl (lv_at hl 0 rfl) ?_
        refine g_get F hK hP inX5 0 rfl rfl 7 (by decide) gw_215 rfl (v := .int (gI g1 5)) rfl dX5_failDueAttempts_15 ?_
        refine cl_VN_i (wc := (xD ad kA g1)) (As := [.int (gI g1 5)]) (rest := []) (b := (ad 3)) (C := RX2) F hK (sg_P (l1 := (xH ad kA g1 ++ (xK ad kA g1 (tYL y L1)))) (l2 := (xV ad kA g1 (tYL y L1) ++ (xI ad kA g1 ++ (xP ad g1)))) hP) (sg_D (l1 := (xH ad kA g1 ++ (xK ad kA g1 (tYL y L1)))) (l2 := (xV ad kA g1 (tYL y L1) ++ (xI ad kA g1 ++ (xP ad g1)))) hD) hS hA (kX2_firstDue l D kA _ (ad 3) (ad 4) (ad 5) (ad 6) (gN g1 1) (gR g1 4) (gR g1 5) (gR g1 6) (gI g1 5) hm3) gw_346 gw_68 nw_343 gw_345 gw_18 (va_recv hK.1 hP (ci := 2) (q0 := 7) rfl rfl) hdX2_firstDue ⟨Nat.le_of_ble_eq_true rfl, Nat.le_of_ble_eq_true rfl⟩ hl.1 rfl (Nat.le_of_ble_eq_true rfl) dX5_failDueAttempts_18 ⟨Nat.le_of_ble_eq_true rfl, Nat.le_of_ble_eq_true rfl⟩ (fun r_18 u_18 H locs hw hP1 hD1 hk1 hFc hS => ?_)
        obtain ⟨rfl, rfl⟩ := hw
        have hPD := hp_seg (l1 := (xH ad kA g1 ++ (xK ad kA g1 (tYL y L1)))) (wc := xD ad kA g1) (l2 := (xV ad kA g1 (tYL y L1) ++ (xI ad kA g1 ++ (xP ad g1)))) hP hD hk1 hFc hP1 hD1
        have hP : va_P D vwCl (xW ad kA g1 (tYL y L1)) H := hPD.1
        have hD : va_D A (xW ad kA g1 (tYL y L1)) := hPD.2
        refine lv_istore_n (lv' := [(3, .int (optI (fiD g1))), (0, .ref (ad 0)), (1, .int (nI f)), (2, .int (nI i))]) hx hb dX5_failDueAttempts_21 rfl hl (by decide) rfl (fun ls hl => ?_)
        refine lv_iload_n hx hb dX5_failDueAttempts_22 rfl (lv_at hl 0 rfl) ?_
        refine lv_iconst (v := (-1)) hx hb dX5_failDueAttempts_23 (by decide) ?_
        refine lv_icmp_ne (tgt := 30) hx hb dX5_failDueAttempts_24 (by decide) (fun c_24 => ?_) (fun c_24 => ?_)
        · obtain ⟨k, hk0⟩ := optI_ne c_24
          have hkk := fiD_lt hk0
          obtain ⟨sx, hsx8, hsx⟩ := hS1 k hkk
          have hkt := kp_tkS hkk
          have htk : tkS k g1 = (sp_settle (sx % gN g1 0) 0 (sp_drop k g1)).2 := by rw [tkS, hsx, nI_clamp (by omega)]
          have hl : lv_has ls 5 [(3, .int (nI k)), (0, .ref (ad 0)), (1, .int (nI f)), (2, .int (nI i))] := by rw [hk0] at hl; exact hl
          refine lv_aload_n hx hb dX5_failDueAttempts_30 rfl (lv_at hl 1 rfl) ?_
          refine g_get F hK hP inX5 0 rfl rfl 2 (by decide) gw_210 rfl (v := .ref (ad 3)) rfl dX5_failDueAttempts_31 ?_
          refine g_getN F hK hP inX2 7 rfl rfl 0 (by decide) nw_163 rfl (v := .ref (ad 4)) rfl dX5_failDueAttempts_34 ?_
          refine lv_iload_n hx hb dX5_failDueAttempts_37 rfl (lv_at hl 0 rfl) ?_
          refine a_ild F hK hP 8 (f := gR g1 4) rfl (j := k) (by omega) (by decide) dX5_failDueAttempts_38 ?_
          rw [show (gR g1 4 k) = (nI sx) from hsx]
          refine lv_istore (lv' := [(4, .int (nI sx)), (3, .int (nI k)), (0, .ref (ad 0)), (1, .int (nI f)), (2, .int (nI i))]) hx hb dX5_failDueAttempts_39 hl (by decide) rfl (fun ls hl => ?_)
          refine lv_aload_n hx hb dX5_failDueAttempts_41 rfl (lv_at hl 2 rfl) ?_
          refine g_get F hK hP inX5 0 rfl rfl 2 (by decide) gw_210 rfl (v := .ref (ad 3)) rfl dX5_failDueAttempts_42 ?_
          refine lv_iload_n hx hb dX5_failDueAttempts_45 rfl (lv_at hl 1 rfl) ?_
          refine cl_VN_v (wc := (xD ad kA g1)) (As := [.int (nI k)]) (rest := []) (b := (ad 3)) (C := RX2) F hK (sg_P (l1 := (xH ad kA g1 ++ (xK ad kA g1 (tYL y L1)))) (l2 := (xV ad kA g1 (tYL y L1) ++ (xI ad kA g1 ++ (xP ad g1)))) hP) (sg_D (l1 := (xH ad kA g1 ++ (xK ad kA g1 (tYL y L1)))) (l2 := (xV ad kA g1 (tYL y L1) ++ (xI ad kA g1 ++ (xP ad g1)))) hD) hS hA (kX2_drop l D kA _ (ad 3) (ad 4) (ad 5) (ad 6) (gN g1 1) (gR g1 4) (gR g1 5) (gR g1 6) k hkk hm3) gw_306 gw_68 nw_303 gw_305 gw_12 (va_recv hK.1 hP (ci := 2) (q0 := 7) rfl rfl) hdX2_drop ⟨Nat.le_of_ble_eq_true rfl, Nat.le_of_ble_eq_true rfl⟩ hl.1 rfl (Nat.le_of_ble_eq_true rfl) dX5_failDueAttempts_46 ⟨Nat.le_of_ble_eq_true rfl, Nat.le_of_ble_eq_true rfl⟩ (fun u_46 H locs hw hP1 hD1 hk1 hFc hS => ?_)
          obtain rfl := hw
          have hPD := hp_seg (l1 := (xH ad kA g1 ++ (xK ad kA g1 (tYL y L1)))) (wc := xD ad kA g1) (l2 := (xV ad kA g1 (tYL y L1) ++ (xI ad kA g1 ++ (xP ad g1)))) hP hD hk1 hFc hP1 hD1
          have hP : va_P D vwCl (xW ad kA (sp_drop k g1) (tYL y L1)) H := hPD.1
          have hD : va_D A (xW ad kA (sp_drop k g1) (tYL y L1)) := hPD.2
          refine lv_aload_n hx hb dX5_failDueAttempts_49 rfl (lv_at hl 2 rfl) ?_
          refine lv_aload_n hx hb dX5_failDueAttempts_50 rfl (lv_at hl 2 rfl) ?_
          refine lv_iload hx hb dX5_failDueAttempts_51 (lv_at hl 0 rfl) ?_
          refine cl_V_i (wc := (xW ad kA (sp_drop k g1) (tYL y L1))) (As := [.int (nI sx)]) (rest := [.ref (ad 0)]) (b := (ad 0)) (C := RX5) F hK hP hD hS hA (kX5_cellIndex l D kA _ ad (sp_drop k g1) (tYL y L1) (nI sx) hm1 hm2) gw_274 gw_65 gw_271 gw_273 gw_4 (va_recv hK.1 hP (ci := 5) (q0 := 0) rfl rfl) hdX5_cellIndex ⟨Nat.le_of_ble_eq_true rfl, Nat.le_of_ble_eq_true rfl⟩ hl.1 rfl (Nat.le_of_ble_eq_true rfl) dX5_failDueAttempts_53 ⟨Nat.le_of_ble_eq_true rfl, Nat.le_of_ble_eq_true rfl⟩ (fun r_53 u_53 H locs hw hP1 hD1 hk1 hFc hS => ?_)
          obtain ⟨rfl, rfl⟩ := hw
          have hP : va_P D vwCl (xW ad kA (sp_drop k g1) (tYL y L1)) H := hP1
          have hD : va_D A (xW ad kA (sp_drop k g1) (tYL y L1)) := hD1.weaken (fun _ _ _ h => hFc _ h)
          rw [rem_nat (s := sx) (n := gN (sp_drop k g1) 0) (by omega) (show 0 < gN (sp_drop k g1) 0 from hm1) (Nat.lt_of_le_of_lt (show gN (sp_drop k g1) 0 ≤ 8 from hm2) (by decide))]
          refine lv_iconst (v := 0) hx hb dX5_failDueAttempts_56 (by decide) ?_
          refine cl_V_i (wc := (xW ad kA (sp_drop k g1) (tYL y L1))) (As := [.int (nI (sx % (gN g1 0))), .int 0]) (rest := []) (b := (ad 0)) (C := RX5) F hK hP hD hS hA (kX5_settle l D kA _ ad (sp_drop k g1) (tYL y L1) (sx % (gN g1 0)) 0 (Nat.lt_of_lt_of_le (Nat.mod_lt _ hm1) hm2) ((kp_drop hkk).mn hM1) (show (gV g1).length < 2 ^ 30 from by omega) hL1) gw_290 gw_65 gw_287 gw_289 gw_8 (va_recv hK.1 hP (ci := 5) (q0 := 0) rfl rfl) hdX5_settle ⟨Nat.le_of_ble_eq_true rfl, Nat.le_of_ble_eq_true rfl⟩ hl.1 rfl (Nat.le_of_ble_eq_true rfl) dX5_failDueAttempts_57 ⟨Nat.le_of_ble_eq_true rfl, Nat.le_of_ble_eq_true rfl⟩ (fun r_57 u_57 H locs hw hP1 hD1 hk1 hFc hS => ?_)
          obtain ⟨rfl, L_57, hL_57, rfl⟩ := hw
          have hP : va_P D vwCl (xW ad kA ((sp_settle (sx % (gN g1 0)) 0 (sp_drop k g1)).2) (tYL y L_57)) H := hP1
          have hD : va_D A (xW ad kA ((sp_settle (sx % (gN g1 0)) 0 (sp_drop k g1)).2) (tYL y L_57)) := hD1.weaken (fun _ _ _ h => hFc _ h)
          refine lv_pop hx hb dX5_failDueAttempts_60 rfl ?_
          refine lv_iinc (v := nI (f + 1)) (lv' := [(1, .int (nI (f + 1))), (4, .int (nI sx)), (3, .int (nI k)), (0, .ref (ad 0)), (2, .int (nI i))]) hx hb dX5_failDueAttempts_61 hl (k := 3) rfl (nI_add f 1) (by decide) rfl (fun ls hl => ?_)
          refine lv_iinc (v := nI (i + 1)) (lv' := [(2, .int (nI (i + 1))), (1, .int (nI (f + 1))), (4, .int (nI sx)), (3, .int (nI k)), (0, .ref (ad 0))]) hx hb dX5_failDueAttempts_64 hl (k := 4) rfl (nI_add i 1) (by decide) rfl (fun ls hl => ?_)
          refine lv_goto (tgt := 4) hx hb dX5_failDueAttempts_67 (by decide) ?_
          exact ih_4  (i + 1) (f + 1) ((sp_settle (sx % gN g1 0) 0 (sp_drop k g1)).2) L_57 (by omega) (by rw [← htk]; exact hkt.1.mn hM1) (by rw [← htk]; exact hkt.1.2.2.2.2.2 hS1) (by rw [← htk]; have := hkt.2.1; have := hkt.2.2; omega) hL_57 (by rw [← hg, show 12 - i = (12 - (i + 1)) + 1 by omega, tkL, hk0, ← htk]) (by omega) _ _ _ hP hD hS (lv_sub hl [4, 1, 0] rfl)
        · refine lv_goto (tgt := 70) hx hb dX5_failDueAttempts_27 (by decide) ?_
          refine lv_iload_n hx hb dX5_failDueAttempts_70 rfl (lv_at hl 2 rfl) ?_
          have hq : tkL 12 0 g = (f, g1) := by rw [← hg, show 12 - i = (12 - (i + 1)) + 1 by omega, tkL, optI_eq (fun k h => by have := (fi_lt h).1; omega) c_24]
          exact rt _ (xW ad kA g1 (tYL y L1)) _ _ _ _ hP hD hS dX5_failDueAttempts_71 (by show _ ∧ _; rw [hq]; exact ⟨rfl, L1, hL1, rfl⟩)
  exact lp_4 _ 0 0 g (yL y) (by decide) hM hSo hV hL rfl (Nat.lt_succ_self _) _ _ _ hP hD hS (lv_sub hl [2, 1, 0] rfl)

set_option maxRecDepth 100000 in
set_option maxHeartbeats 4000000 in
theorem kX5_advance (l : Launch) (D : va_G) (kA : Nat → ClassId) (sz : Nat) (ad : Nat → Nat) (g : Sg) (y : Ys) (p1 : Int32) (hI : Inv g) (hL : RgX (gV g) (yL y)) (hV : (gV g).length + gN g 1 < 2 ^ 30) : CtI l yX5_advance cX5_advance 4 .int 4 D kA sz (xW ad kA g y) [.ref (ad 0), .int p1] (fun r u => r = (sp_advance p1 g).1 ∧ xQ ad kA (sp_advance p1 g).2 y u) := by
  refine ct_i (own := RX5) (by decide) rfl (Nat.le_of_ble_eq_true rfl) ?_
  intro p_ e_ s_ m_ ar_ bw_ me_ co_ A ls Q F hnm hK hA hP hD hS hl hsz rt
  have hx := F.1
  have hb := F.2.1
  have hl : lv_has ls 4 [(0, .ref (ad 0)), (1, .int p1)] := hl
  have hP : va_P D vwCl (xW ad kA g y) s_.heap := hP
  obtain ⟨⟨hc1, hc2⟩, ha, hn, hu, hd, hup, hlo, hso, hv⟩ := id hI
  refine lv_iload_n hx hb dX5_advance_0 rfl (lv_at hl 1 rfl) ?_
  refine lv_iconst (v := 1) hx hb dX5_advance_1 (by decide) ?_
  refine lv_bipush (v := 50) hx hb dX5_advance_2 (by decide) ?_
  refine cl_S_i (wc := []) (As := [.int p1, .int 1, .int 50]) (rest := []) F hK P_nil D_nil hS hA (kX5_within l D kA _ p1 1 50 ) gw_239 gw_65 gw_237 gw_238 hdX5_within ⟨Nat.le_of_ble_eq_true rfl, Nat.le_of_ble_eq_true rfl⟩ hl.1 rfl (Nat.le_of_ble_eq_true rfl) dX5_advance_4 ⟨Nat.le_of_ble_eq_true rfl, Nat.le_of_ble_eq_true rfl⟩ (fun r_4 u_4 H locs hw hP1 hD1 hk1 hFc hS => ?_)
  obtain ⟨rfl, rfl⟩ := hw
  have hP := hp_non hP hk1
  refine b_bne F (P := 1 ≤ p1 ∧ p1 ≤ 50) (tgt := 13) dX5_advance_7 (by decide) (fun c_7 => ?_) (fun c_7 => ?_)
  · obtain ⟨j, hj, rfl⟩ := nat_of (n := 50) (by decide) (Int32.le_trans (by decide) c_7.1) c_7.2
    refine lv_iconst (v := 0) hx hb dX5_advance_13 (by decide) ?_
    refine lv_istore_n (lv' := [(2, .int 0), (0, .ref (ad 0)), (1, .int (nI j))]) hx hb dX5_advance_14 rfl hl (by decide) rfl (fun ls hl => ?_)
    refine lv_iconst (v := 0) hx hb dX5_advance_15 (by decide) ?_
    refine lv_istore_n (lv' := [(3, .int 0), (2, .int 0), (0, .ref (ad 0)), (1, .int (nI j))]) hx hb dX5_advance_16 rfl hl (by decide) rfl (fun ls hl => ?_)
    have lp_17 : ∀ (n_17 : Nat) (i : Nat) (f : Nat) (g1 : Sg) (L1 : Nat → Int32), (i ≤ j) → (Mn g1) → (SoOK g1) → ((gV g1).length + gN g1 1 < 2 ^ 30) → (RgX (gV g1) L1) → (adL (j - i) f g1 = adL j 0 g) → (j - i) < n_17 → ∀ (H : Heap) (locs : List Loc) (ls : Array Slot), va_P D vwCl (xW ad kA g1 (tYL y L1)) H → va_D A (xW ad kA g1 (tYL y L1)) → va_S A s_.heap H locs → lv_has ls 4 [(0, .ref (ad 0)), (1, .int (nI j)), (2, .int (nI f)), (3, .int (nI i))] → W p_ l e_ (rmC 4 0 0) s_ m_ ar_ bw_ me_ co_ H locs 0 0 Q (F0 m_ 17 ls []) := by
      intro n_17
      induction n_17 with
      | zero =>
        intro i f g1 L1 hi hM1 hS1 hV1 hL1 hg hm_17
        exact absurd hm_17 (Nat.not_lt_zero _)
      | succ n_17 ih_17 =>
        intro i f g1 L1 hi hM1 hS1 hV1 hL1 hg hm_17 H locs ls hP hD hS hl
        have hkt := kp_tick g1
        refine lv_iload_n hx hb dX5_advance_17 rfl (lv_at hl 3 rfl) ?_
        refine lv_iload_n hx hb dX5_advance_18 rfl (lv_at hl 1 rfl) ?_
        refine b_ge F (a := i) (b := j) (tgt := 45) dX5_advance_19 (by decide) (by omega) (by omega) (fun c_19 => ?_) (fun c_19 => ?_)
        · refine lv_iload_n hx hb dX5_advance_45 rfl (lv_at hl 2 rfl) ?_
          have hq : sp_advance (nI j) g = (nI f, g1) := by rw [sp_advance, if_pos c_7, nI_clamp (by omega), ← hg, show j - i = 0 by omega]; rfl
          exact rt _ (xW ad kA g1 (tYL y L1)) _ _ _ _ hP hD hS dX5_advance_46 (by show _ ∧ _; rw [hq]; exact ⟨rfl, L1, hL1, rfl⟩)
        · refine lv_aload_n hx hb dX5_advance_22 rfl (lv_at hl 0 rfl) ?_
          refine lv_dup hx hb dX5_advance_23 rfl ?_
          refine g_get F hK hP inX5 0 rfl rfl 7 (by decide) gw_215 rfl (v := .int (gI g1 5)) rfl dX5_advance_24 ?_
          refine lv_iconst (v := 1) hx hb dX5_advance_27 (by decide) ?_
          refine lv_iadd hx hb dX5_advance_28 ?_
          refine g_put F hK hP hD hS inX5 tyX5_ok nmX5 0 rfl rfl 7 (by decide) gw_215 rfl rfl rfl rfl (Nat.le_of_ble_eq_true rfl) dX5_advance_29 (fun H locs hP hD hS => ?_)
          have hP : va_P D vwCl (xW ad kA (sI g1 5 ((gI g1 5) + 1)) (tYL y L1)) H := hP
          have hD : va_D A (xW ad kA (sI g1 5 ((gI g1 5) + 1)) (tYL y L1)) := hD
          refine lv_iload_n hx hb dX5_advance_32 rfl (lv_at hl 2 rfl) ?_
          refine lv_aload_n hx hb dX5_advance_33 rfl (lv_at hl 0 rfl) ?_
          refine cl_V_i (wc := (xW ad kA (sI g1 5 ((gI g1 5) + 1)) (tYL y L1))) (As := []) (rest := [.int (nI f)]) (b := (ad 0)) (C := RX5) F hK hP hD hS hA (kX5_failDueAttempts l D kA _ ad (sI g1 5 ((gI g1 5) + 1)) (tYL y L1)  hM1 hS1 hV1 hL1) gw_342 gw_65 gw_339 gw_341 gw_17 (va_recv hK.1 hP (ci := 5) (q0 := 0) rfl rfl) hdX5_failDueAttempts ⟨Nat.le_of_ble_eq_true rfl, Nat.le_of_ble_eq_true rfl⟩ hl.1 rfl (Nat.le_of_ble_eq_true rfl) dX5_advance_34 ⟨Nat.le_of_ble_eq_true rfl, Nat.le_of_ble_eq_true rfl⟩ (fun r_34 u_34 H locs hw hP1 hD1 hk1 hFc hS => ?_)
          obtain ⟨rfl, L_34, hL_34, rfl⟩ := hw
          have hP : va_P D vwCl (xW ad kA ((sp_tick g1).2) (tYL y L_34)) H := hP1
          have hD : va_D A (xW ad kA ((sp_tick g1).2) (tYL y L_34)) := hD1.weaken (fun _ _ _ h => hFc _ h)
          refine n_add F (a := f) (b := (sp_tick g1).1) dX5_advance_37 ?_
          refine lv_istore_n (lv' := [(2, .int (nI (f + ((sp_tick g1).1)))), (0, .ref (ad 0)), (1, .int (nI j)), (3, .int (nI i))]) hx hb dX5_advance_38 rfl hl (by decide) rfl (fun ls hl => ?_)
          refine lv_iinc (v := nI (i + 1)) (lv' := [(3, .int (nI (i + 1))), (2, .int (nI (f + ((sp_tick g1).1)))), (0, .ref (ad 0)), (1, .int (nI j))]) hx hb dX5_advance_39 hl (k := 3) rfl (nI_add i 1) (by decide) rfl (fun ls hl => ?_)
          refine lv_goto (tgt := 17) hx hb dX5_advance_42 (by decide) ?_
          exact ih_17  (i + 1) (f + (sp_tick g1).1) ((sp_tick g1).2) L_34 (by omega) (hkt.1.mn (g := sI g1 5 (gI g1 5 + 1)) hM1) (hkt.1.2.2.2.2.2 hS1) (Nat.lt_of_le_of_lt hkt.2 hV1) hL_34 (by rw [← hg, show j - i = (j - (i + 1)) + 1 by omega, adL]) (by omega) _ _ _ hP hD hS (lv_sub hl [2, 3, 1, 0] rfl)
    exact lp_17 _ 0 0 g (yL y) (Nat.zero_le _) ⟨⟨hc1, hc2⟩, ha⟩ hso hV hL rfl (Nat.lt_succ_self _) _ _ _ hP hD hS (lv_sub hl [2, 3, 1, 0] rfl)
  · refine lv_bipush (v := (-104)) hx hb dX5_advance_10 (by decide) ?_
    have hq : sp_advance p1 g = (-104, g) := by rw [sp_advance, if_neg c_7]
    exact rt _ (xW ad kA g y) _ _ _ _ hP hD hS dX5_advance_12 (by show _ ∧ _; rw [hq]; exact ⟨rfl, yL y, hL, rfl⟩)

set_option maxRecDepth 100000 in
set_option maxHeartbeats 4000000 in
theorem kX5_unblock (l : Launch) (D : va_G) (kA : Nat → ClassId) (sz : Nat) (ad : Nat → Nat) (g : Sg) (y : Ys) (p1 : Int32) (hI : Inv g) : CtI l yX5_unblock cX5_unblock 4 .int 2 D kA sz (xW ad kA g y) [.ref (ad 0), .int p1] (fun r u => r = (sp_unblock p1 g).1 ∧ u = xW ad kA (sp_unblock p1 g).2 y) := by
  refine ct_i (own := RX5) (by decide) rfl (Nat.le_of_ble_eq_true rfl) ?_
  intro p_ e_ s_ m_ ar_ bw_ me_ co_ A ls Q F hnm hK hA hP hD hS hl hsz rt
  have hx := F.1
  have hb := F.2.1
  have hl : lv_has ls 4 [(0, .ref (ad 0)), (1, .int p1)] := hl
  have hP : va_P D vwCl (xW ad kA g y) s_.heap := hP
  obtain ⟨⟨hc1, hc2⟩, ha, hn, hu, hd, hup, hlo, hso, hv⟩ := id hI
  refine lv_aload_n hx hb dX5_unblock_0 rfl (lv_at hl 0 rfl) ?_
  refine lv_iload_n hx hb dX5_unblock_1 rfl (lv_at hl 1 rfl) ?_
  refine cl_V_i (wc := (xW ad kA g y)) (As := [.int p1]) (rest := []) (b := (ad 0)) (C := RX5) F hK hP hD hS hA (kX5_cellExists l D kA _ ad g y p1 ) gw_354 gw_65 gw_351 gw_353 gw_19 (va_recv hK.1 hP (ci := 5) (q0 := 0) rfl rfl) hdX5_cellExists ⟨Nat.le_of_ble_eq_true rfl, Nat.le_of_ble_eq_true rfl⟩ hl.1 rfl (Nat.le_of_ble_eq_true rfl) dX5_unblock_2 ⟨Nat.le_of_ble_eq_true rfl, Nat.le_of_ble_eq_true rfl⟩ (fun r_2 u_2 H locs hw hP1 hD1 hk1 hFc hS => ?_)
  obtain ⟨rfl, rfl⟩ := hw
  have hP : va_P D vwCl (xW ad kA g y) H := hP1
  have hD : va_D A (xW ad kA g y) := hD1.weaken (fun _ _ _ h => hFc _ h)
  refine b_bne F (P := 0 ≤ p1 ∧ p1 ≤ nI (gN g 0) - 1) (tgt := 11) dX5_unblock_5 (by decide) (fun c_5 => ?_) (fun c_5 => ?_)
  · obtain ⟨j, hj, rfl⟩ := nat_lt (by omega) c_5.1 c_5.2
    refine lv_aload_n hx hb dX5_unblock_11 rfl (lv_at hl 0 rfl) ?_
    refine g_get F hK hP inX5 0 rfl rfl 0 (by decide) gw_208 rfl (v := .ref (ad 1)) rfl dX5_unblock_12 ?_
    refine lv_iload_n hx hb dX5_unblock_15 rfl (lv_at hl 1 rfl) ?_
    refine a_qld F hK hP 1 (f := fun i => some (ad (15 + i))) rfl (j := j) (by omega) (by decide) (b := ad (15 + j)) rfl dX5_unblock_16 ?_
    refine lv_astore_n (lv' := [(2, .ref (ad (15 + j))), (0, .ref (ad 0)), (1, .int (nI j))]) hx hb dX5_unblock_17 rfl hl (by decide) rfl (fun ls hl => ?_)
    refine lv_aload_n hx hb dX5_unblock_18 rfl (lv_at hl 0 rfl) ?_
    refine g_getN F hK hP inX0 (15 + j) (xW_c (by omega)) rfl 1 (by decide) nw_94 rfl (v := .int (gR g 1 j)) rfl dX5_unblock_19 ?_
    refine lv_if_ne (tgt := 28) hx hb dX5_unblock_22 (by decide) (fun c_22 => ?_) (fun c_22 => ?_)
    · refine lv_aload_n hx hb dX5_unblock_28 rfl (lv_at hl 0 rfl) ?_
      refine g_getN F hK hP inX0 (15 + j) (xW_c (by omega)) rfl 0 (by decide) nw_92 rfl (v := .int (gR g 0 j)) rfl dX5_unblock_29 ?_
      refine lv_istore_n (lv' := [(3, .int (gR g 0 j)), (2, .ref (ad (15 + j))), (0, .ref (ad 0)), (1, .int (nI j))]) hx hb dX5_unblock_32 rfl hl (by decide) rfl (fun ls hl => ?_)
      refine lv_aload_n hx hb dX5_unblock_33 rfl (lv_at hl 1 rfl) ?_
      refine lv_iconst (v := 0) hx hb dX5_unblock_34 (by decide) ?_
      refine g_putN F hK hP hD hS inX0 tyX0_ok nmX0 (15 + j) (xW_c (by omega)) rfl 1 (by decide) nw_94 rfl rfl rfl rfl (Nat.le_of_ble_eq_true rfl) dX5_unblock_35 (fun H locs hP hD hS => ?_)
      have hP : va_P D vwCl (xW ad kA (sR g 1 (upd (gR g 1) j 0)) y) H := P_cast (xc_1 (g := g) (y := y) (i := j) (by omega)) hP
      have hD : va_D A (xW ad kA (sR g 1 (upd (gR g 1) j 0)) y) := D_cast (xc_1 (g := g) (y := y) (i := j) (by omega)) hD
      refine lv_aload_n hx hb dX5_unblock_38 rfl (lv_at hl 1 rfl) ?_
      refine cl_VN_v (wc := (clC (ad (15 + j)) (gR g 0 j) ((upd (gR g 1) j 0) j) (gE g j) (gR g 2 j) (gR g 3 j))) (As := []) (rest := []) (b := (ad (15 + j))) (C := RX0) F hK (P_on1 (15 + j) hP (xW_c (by omega))) (D_on1 (15 + j) hD (xW_c (by omega))) hS hA (kX0_forget l D kA _ (ad (15 + j)) (gR g 0 j) ((upd (gR g 1) j 0) j) (gE g j) (gR g 2 j) (gR g 3 j)  ) gw_252 gw_66 nw_307 gw_251 gw_3 (va_recv (q := (RX0, TX0, 5)) (ci := 0) (q0 := 15 + j) hK.1 hP rfl (xW_c (by omega))) hdX0_forget ⟨Nat.le_of_ble_eq_true rfl, Nat.le_of_ble_eq_true rfl⟩ hl.1 rfl (Nat.le_of_ble_eq_true rfl) dX5_unblock_39 ⟨Nat.le_of_ble_eq_true rfl, Nat.le_of_ble_eq_true rfl⟩ (fun u_39 H locs hw hP1 hD1 hk1 hFc hS => ?_)
      obtain rfl := hw
      have hPD := hp_set (15 + j) hP hD (xW_c (by omega)) hk1 hP1
      have hP : va_P D vwCl (xW ad kA (sE (sR (sR g 1 (upd (gR g 1) j 0)) 0 (upd (gR g 0) j 0)) (vp_updL (gE g) j 0)) y) H := P_cast (xc_02 (g := (sR g 1 (upd (gR g 1) j 0))) (y := y) (i := j) (by omega)) hPD.1
      have hD : va_D A (xW ad kA (sE (sR (sR g 1 (upd (gR g 1) j 0)) 0 (upd (gR g 0) j 0)) (vp_updL (gE g) j 0)) y) := D_cast (xc_02 (g := (sR g 1 (upd (gR g 1) j 0))) (y := y) (i := j) (by omega)) hPD.2
      have hP : va_P D vwCl (xW ad kA (sR (sE (sR g 0 (upd (gR g 0) j 0)) (vp_updL (gE g) j 0)) 1 (upd (gR g 1) j 0)) y) H := hP
      have hD : va_D A (xW ad kA (sR (sE (sR g 0 (upd (gR g 0) j 0)) (vp_updL (gE g) j 0)) 1 (upd (gR g 1) j 0)) y) := hD
      refine lv_iload_n hx hb dX5_unblock_42 rfl (lv_at hl 0 rfl) ?_
      have hq : sp_unblock (nI j) g = (gR g 0 j, sR (sE (sR g 0 (upd (gR g 0) j 0)) (vp_updL (gE g) j 0)) 1 (upd (gR g 1) j 0)) := by rw [sp_unblock, if_pos c_5, nI_clamp (by omega), if_neg c_22]
      exact rt _ (xW ad kA (sR (sE (sR g 0 (upd (gR g 0) j 0)) (vp_updL (gE g) j 0)) 1 (upd (gR g 1) j 0)) y) _ _ _ _ hP hD hS dX5_unblock_43 (by show _ ∧ _; rw [hq]; exact ⟨rfl, rfl⟩)
    · refine lv_bipush (v := (-111)) hx hb dX5_unblock_25 (by decide) ?_
      have hq : sp_unblock (nI j) g = (-111, g) := by rw [sp_unblock, if_pos c_5, nI_clamp (by omega), if_pos c_22]
      exact rt _ (xW ad kA g y) _ _ _ _ hP hD hS dX5_unblock_27 (by show _ ∧ _; rw [hq]; exact ⟨rfl, rfl⟩)
  · refine lv_bipush (v := (-107)) hx hb dX5_unblock_8 (by decide) ?_
    have hq : sp_unblock p1 g = (-107, g) := by rw [sp_unblock, if_neg c_5]
    exact rt _ (xW ad kA g y) _ _ _ _ hP hD hS dX5_unblock_10 (by show _ ∧ _; rw [hq]; exact ⟨rfl, rfl⟩)

set_option maxRecDepth 100000 in
set_option maxHeartbeats 4000000 in
theorem kX5_runInput (l : Launch) (D : va_G) (kA : Nat → ClassId) (sz : Nat) (ad : Nat → Nat) (g : Sg) (y : Ys) (hI : Inv g) (hL : RgX (gV g) (yL y)) (hV : (gV g).length < 2 ^ 29) : CtI l yX5_runInput cX5_runInput 4 .int 4 D kA sz (xW ad kA g y) [.ref (ad 0)] (fun r u => r = (sp_run g).1 ∧ xQ ad kA (sp_run g).2 y u) := by
  refine ct_i (own := RX5) (by decide) rfl (Nat.le_of_ble_eq_true rfl) ?_
  intro p_ e_ s_ m_ ar_ bw_ me_ co_ A ls Q F hnm hK hA hP hD hS hl hsz rt
  have hx := F.1
  have hb := F.2.1
  have hl : lv_has ls 4 [(0, .ref (ad 0))] := hl
  have hP : va_P D vwCl (xW ad kA g y) s_.heap := hP
  obtain ⟨⟨hc1, hc2⟩, ha, hn, hu, hd, hup, hlo, hso, hv⟩ := id hI
  refine lv_aload_n hx hb dX5_runInput_0 rfl (lv_at hl 0 rfl) ?_
  refine g_get F hK hP inX5 0 rfl rfl 4 (by decide) gw_212 rfl (v := .ref (ad 9)) rfl dX5_runInput_1 ?_
  refine cl_VN_i (wc := (xI ad kA g)) (As := []) (rest := []) (b := (ad 9)) (C := RX1) F hK (sg_P (l1 := (xH ad kA g ++ (xK ad kA g y ++ (xD ad kA g ++ (xV ad kA g y))))) (l2 := (xP ad g)) hP) (sg_D (l1 := (xH ad kA g ++ (xK ad kA g y ++ (xD ad kA g ++ (xV ad kA g y))))) (l2 := (xP ad g)) hD) hS hA (kX1_isComplete l D kA _ (ad 9) (ad 10) (gN g 2) (gR g 7)  hn) gw_390 gw_70 nw_387 gw_389 gw_23 (va_recv hK.1 hP (ci := 1) (q0 := 13) rfl rfl) hdX1_isComplete ⟨Nat.le_of_ble_eq_true rfl, Nat.le_of_ble_eq_true rfl⟩ hl.1 rfl (Nat.le_of_ble_eq_true rfl) dX5_runInput_4 ⟨Nat.le_of_ble_eq_true rfl, Nat.le_of_ble_eq_true rfl⟩ (fun r_4 u_4 H locs hw hP1 hD1 hk1 hFc hS => ?_)
  obtain ⟨rfl, rfl⟩ := hw
  have hPD := hp_seg (l1 := (xH ad kA g ++ (xK ad kA g y ++ (xD ad kA g ++ (xV ad kA g y))))) (wc := xI ad kA g) (l2 := (xP ad g)) hP hD hk1 hFc hP1 hD1
  have hP : va_P D vwCl (xW ad kA g y) H := hPD.1
  have hD : va_D A (xW ad kA g y) := hPD.2
  refine b_bne F (P := 0 < gN g 2 ∧ (gR g 7 (gN g 2 - 1) = 43 ∨ gR g 7 (gN g 2 - 1) = 45) ∧ fe (gR g 7) (gN g 2) = gN g 2) (tgt := 13) dX5_runInput_7 (by decide) (fun c_7 => ?_) (fun c_7 => ?_)
  · have hall := fe_all c_7.2.2
    have h5 : gN g 2 % 6 = 5 := (out_at c_7.1 hall).mp c_7.2.1
    refine lv_iconst (v := 0) hx hb dX5_runInput_13 (by decide) ?_
    refine lv_istore_n (lv' := [(1, .int 0), (0, .ref (ad 0))]) hx hb dX5_runInput_14 rfl hl (by decide) rfl (fun ls hl => ?_)
    refine lv_iconst (v := 0) hx hb dX5_runInput_15 (by decide) ?_
    refine lv_istore_n (lv' := [(2, .int 0), (1, .int 0), (0, .ref (ad 0))]) hx hb dX5_runInput_16 rfl hl (by decide) rfl (fun ls hl => ?_)
    have lp_17 : ∀ (n_17 : Nat) (t : Nat) (i : Nat) (k : Nat) (g1 : Sg) (L1 : Nat → Int32), (i = 6 * t) → (t ≤ ((gN g 2 + 1) / 6)) → (Mn g1) → (gR g1 7 = gR g 7) → (gN g1 2 = gN g 2) → ((gV g1).length ≤ (gV g).length + t) → (RgX (gV g1) L1) → (rnL (((gN g 2 + 1) / 6) - t) i k g1 = rnL ((gN g 2 + 1) / 6) 0 0 g) → (((gN g 2 + 1) / 6) - t) < n_17 → ∀ (H : Heap) (locs : List Loc) (ls : Array Slot), va_P D vwCl (xW ad kA g1 (tYL y L1)) H → va_D A (xW ad kA g1 (tYL y L1)) → va_S A s_.heap H locs → lv_has ls 4 [(0, .ref (ad 0)), (1, .int (nI k)), (2, .int (nI i))] → W p_ l e_ (rmC 4 0 0) s_ m_ ar_ bw_ me_ co_ H locs 0 0 Q (F0 m_ 17 ls []) := by
      intro n_17
      induction n_17 with
      | zero =>
        intro t i k g1 L1 hi ht hM1 h7 h2 hV1 hL1 hg hm_17
        exact absurd hm_17 (Nat.not_lt_zero _)
      | succ n_17 ih_17 =>
        intro t i k g1 L1 hi ht hM1 h7 h2 hV1 hL1 hg hm_17 H locs ls hP hD hS hl
        refine lv_iload_n hx hb dX5_runInput_17 rfl (lv_at hl 2 rfl) ?_
        refine lv_bipush (v := 6) hx hb dX5_runInput_18 (by decide) ?_
        refine n_add F (a := i) (b := 6) dX5_runInput_20 ?_
        refine lv_iconst (v := 1) hx hb dX5_runInput_21 (by decide) ?_
        refine n_sub F (a := i + 6) (b := 1) dX5_runInput_22 (by omega) ?_
        refine lv_aload_n hx hb dX5_runInput_23 rfl (lv_at hl 0 rfl) ?_
        refine g_get F hK hP inX5 0 rfl rfl 4 (by decide) gw_212 rfl (v := .ref (ad 9)) rfl dX5_runInput_24 ?_
        refine g_getN F hK hP inX1 13 rfl rfl 1 (by decide) nw_202 rfl (v := .int (nI (gN g1 2))) rfl dX5_runInput_27 ?_
        refine b_gt F (a := (i + 6) - 1) (b := gN g1 2) (tgt := 81) dX5_runInput_30 (by decide) (by omega) (by omega) (fun c_30 => ?_) (fun c_30 => ?_)
        · refine lv_aload_n hx hb dX5_runInput_81 rfl (lv_at hl 0 rfl) ?_
          refine g_get F hK hP inX5 0 rfl rfl 4 (by decide) gw_212 rfl (v := .ref (ad 9)) rfl dX5_runInput_82 ?_
          refine lv_iconst (v := 0) hx hb dX5_runInput_85 (by decide) ?_
          refine g_putN F hK hP hD hS inX1 tyX1_ok nmX1 13 rfl rfl 1 (by decide) nw_202 rfl rfl rfl rfl (Nat.le_of_ble_eq_true rfl) dX5_runInput_86 (fun H locs hP hD hS => ?_)
          have hP : va_P D vwCl (xW ad kA (sN g1 2 0) (tYL y L1)) H := hP
          have hD : va_D A (xW ad kA (sN g1 2 0) (tYL y L1)) := hD
          refine lv_iload_n hx hb dX5_runInput_89 rfl (lv_at hl 1 rfl) ?_
          have hq : sp_run g = (nI k, sN g1 2 0) := by rw [sp_run, if_pos ⟨h5, c_7.2.2⟩, ← hg, show ((gN g 2 + 1) / 6) - t = 0 by omega]; rfl
          exact rt _ (xW ad kA (sN g1 2 0) (tYL y L1)) _ _ _ _ hP hD hS dX5_runInput_90 (by show _ ∧ _; rw [hq]; exact ⟨rfl, L1, hL1, rfl⟩)
        · obtain ⟨sx, dx, hs8, hd32, hsx, hdx⟩ := run_ok hall (i := i) (by omega) (by omega)
          rw [← h7] at hsx hdx
          refine lv_aload_n hx hb dX5_runInput_33 rfl (lv_at hl 0 rfl) ?_
          refine lv_aload_n hx hb dX5_runInput_34 rfl (lv_at hl 0 rfl) ?_
          refine g_get F hK hP inX5 0 rfl rfl 4 (by decide) gw_212 rfl (v := .ref (ad 9)) rfl dX5_runInput_35 ?_
          refine lv_iload_n hx hb dX5_runInput_38 rfl (lv_at hl 2 rfl) ?_
          refine cl_VN_i (wc := (xI ad kA g1)) (As := [.int (nI i)]) (rest := [.ref (ad 0)]) (b := (ad 9)) (C := RX1) F hK (sg_P (l1 := (xH ad kA g1 ++ (xK ad kA g1 (tYL y L1) ++ (xD ad kA g1 ++ (xV ad kA g1 (tYL y L1)))))) (l2 := (xP ad g1)) hP) (sg_D (l1 := (xH ad kA g1 ++ (xK ad kA g1 (tYL y L1) ++ (xD ad kA g1 ++ (xV ad kA g1 (tYL y L1)))))) (l2 := (xP ad g1)) hD) hS hA (kX1_sourceAt l D kA _ (ad 9) (ad 10) (gN g1 2) (gR g1 7) i (by omega)) gw_395 gw_70 nw_392 gw_394 gw_24 (va_recv hK.1 hP (ci := 1) (q0 := 13) rfl rfl) hdX1_sourceAt ⟨Nat.le_of_ble_eq_true rfl, Nat.le_of_ble_eq_true rfl⟩ hl.1 rfl (Nat.le_of_ble_eq_true rfl) dX5_runInput_39 ⟨Nat.le_of_ble_eq_true rfl, Nat.le_of_ble_eq_true rfl⟩ (fun r_39 u_39 H locs hw hP1 hD1 hk1 hFc hS => ?_)
          obtain ⟨rfl, rfl⟩ := hw
          have hPD := hp_seg (l1 := (xH ad kA g1 ++ (xK ad kA g1 (tYL y L1) ++ (xD ad kA g1 ++ (xV ad kA g1 (tYL y L1)))))) (wc := xI ad kA g1) (l2 := (xP ad g1)) hP hD hk1 hFc hP1 hD1
          have hP : va_P D vwCl (xW ad kA g1 (tYL y L1)) H := hPD.1
          have hD : va_D A (xW ad kA g1 (tYL y L1)) := hPD.2
          rw [hsx]
          refine lv_aload_n hx hb dX5_runInput_42 rfl (lv_at hl 0 rfl) ?_
          refine g_get F hK hP inX5 0 rfl rfl 4 (by decide) gw_212 rfl (v := .ref (ad 9)) rfl dX5_runInput_43 ?_
          refine lv_iload_n hx hb dX5_runInput_46 rfl (lv_at hl 2 rfl) ?_
          refine cl_VN_i (wc := (xI ad kA g1)) (As := [.int (nI i)]) (rest := [.int (nI sx), .ref (ad 0)]) (b := (ad 9)) (C := RX1) F hK (sg_P (l1 := (xH ad kA g1 ++ (xK ad kA g1 (tYL y L1) ++ (xD ad kA g1 ++ (xV ad kA g1 (tYL y L1)))))) (l2 := (xP ad g1)) hP) (sg_D (l1 := (xH ad kA g1 ++ (xK ad kA g1 (tYL y L1) ++ (xD ad kA g1 ++ (xV ad kA g1 (tYL y L1)))))) (l2 := (xP ad g1)) hD) hS hA (kX1_destinationAt l D kA _ (ad 9) (ad 10) (gN g1 2) (gR g1 7) i (by omega)) gw_399 gw_70 nw_396 gw_398 gw_25 (va_recv hK.1 hP (ci := 1) (q0 := 13) rfl rfl) hdX1_destinationAt ⟨Nat.le_of_ble_eq_true rfl, Nat.le_of_ble_eq_true rfl⟩ hl.1 rfl (Nat.le_of_ble_eq_true rfl) dX5_runInput_47 ⟨Nat.le_of_ble_eq_true rfl, Nat.le_of_ble_eq_true rfl⟩ (fun r_47 u_47 H locs hw hP1 hD1 hk1 hFc hS => ?_)
          obtain ⟨rfl, rfl⟩ := hw
          have hPD := hp_seg (l1 := (xH ad kA g1 ++ (xK ad kA g1 (tYL y L1) ++ (xD ad kA g1 ++ (xV ad kA g1 (tYL y L1)))))) (wc := xI ad kA g1) (l2 := (xP ad g1)) hP hD hk1 hFc hP1 hD1
          have hP : va_P D vwCl (xW ad kA g1 (tYL y L1)) H := hPD.1
          have hD : va_D A (xW ad kA g1 (tYL y L1)) := hPD.2
          rw [hdx]
          refine lv_aload_n hx hb dX5_runInput_50 rfl (lv_at hl 0 rfl) ?_
          refine g_get F hK hP inX5 0 rfl rfl 4 (by decide) gw_212 rfl (v := .ref (ad 9)) rfl dX5_runInput_51 ?_
          refine lv_iload_n hx hb dX5_runInput_54 rfl (lv_at hl 2 rfl) ?_
          refine cl_VN_i (wc := (xI ad kA g1)) (As := [.int (nI i)]) (rest := [.int (nI dx), .int (nI sx), .ref (ad 0)]) (b := (ad 9)) (C := RX1) F hK (sg_P (l1 := (xH ad kA g1 ++ (xK ad kA g1 (tYL y L1) ++ (xD ad kA g1 ++ (xV ad kA g1 (tYL y L1)))))) (l2 := (xP ad g1)) hP) (sg_D (l1 := (xH ad kA g1 ++ (xK ad kA g1 (tYL y L1) ++ (xD ad kA g1 ++ (xV ad kA g1 (tYL y L1)))))) (l2 := (xP ad g1)) hD) hS hA (kX1_successAt l D kA _ (ad 9) (ad 10) (gN g1 2) (gR g1 7) i (by omega)) gw_403 gw_70 nw_400 gw_402 gw_26 (va_recv hK.1 hP (ci := 1) (q0 := 13) rfl rfl) hdX1_successAt ⟨Nat.le_of_ble_eq_true rfl, Nat.le_of_ble_eq_true rfl⟩ hl.1 rfl (Nat.le_of_ble_eq_true rfl) dX5_runInput_55 ⟨Nat.le_of_ble_eq_true rfl, Nat.le_of_ble_eq_true rfl⟩ (fun r_55 u_55 H locs hw hP1 hD1 hk1 hFc hS => ?_)
          obtain ⟨rfl, rfl⟩ := hw
          have hPD := hp_seg (l1 := (xH ad kA g1 ++ (xK ad kA g1 (tYL y L1) ++ (xD ad kA g1 ++ (xV ad kA g1 (tYL y L1)))))) (wc := xI ad kA g1) (l2 := (xP ad g1)) hP hD hk1 hFc hP1 hD1
          have hP : va_P D vwCl (xW ad kA g1 (tYL y L1)) H := hPD.1
          have hD : va_D A (xW ad kA g1 (tYL y L1)) := hPD.2
          refine cl_V_i (wc := (xW ad kA g1 (tYL y L1))) (As := [.int (nI sx), .int (nI dx), .int (sucI (gR g1 7) i)]) (rest := []) (b := (ad 0)) (C := RX5) F hK hP hD hS hA (kX5_connect l D kA _ ad g1 (tYL y L1) (nI sx) (nI dx) (sucI (gR g1 7) i) hM1 (show (gV g1).length < 2 ^ 30 from by omega) hL1) gw_264 gw_65 gw_404 gw_262 gw_263 (va_recv hK.1 hP (ci := 5) (q0 := 0) rfl rfl) hdX5_connect ⟨Nat.le_of_ble_eq_true rfl, Nat.le_of_ble_eq_true rfl⟩ hl.1 rfl (Nat.le_of_ble_eq_true rfl) dX5_runInput_58 ⟨Nat.le_of_ble_eq_true rfl, Nat.le_of_ble_eq_true rfl⟩ (fun r_58 u_58 H locs hw hP1 hD1 hk1 hFc hS => ?_)
          obtain ⟨rfl, L_58, hL_58, rfl⟩ := hw
          have hP : va_P D vwCl (xW ad kA ((sp_connect (nI sx) (nI dx) (sucI (gR g1 7) i) g1).2) (tYL y L_58)) H := hP1
          have hD : va_D A (xW ad kA ((sp_connect (nI sx) (nI dx) (sucI (gR g1 7) i) g1).2) (tYL y L_58)) := hD1.weaken (fun _ _ _ h => hFc _ h)
          have hcc : (sp_connect (nI sx) (nI dx) (sucI (gR g1 7) i) g1) = (sp_connectNow (srcN (gR g1 7) i) (dstN (gR g1 7) i) (sucI (gR g1 7) i) g1) := by rw [sp_connect, if_pos (show 0 ≤ nI sx ∧ nI sx ≤ 7 from in07 (n := 7) (by omega) (by decide)), if_pos (show 0 ≤ nI dx ∧ nI dx ≤ 31 from in07 (n := 31) (by omega) (by decide)), srcN, dstN, hsx, hdx]
          have hP : va_P D vwCl (xW ad kA ((sp_connectNow (srcN (gR g1 7) i) (dstN (gR g1 7) i) (sucI (gR g1 7) i) g1).2) (tYL y L_58)) H := by rw [← hcc]; exact hP
          have hD : va_D A (xW ad kA ((sp_connectNow (srcN (gR g1 7) i) (dstN (gR g1 7) i) (sucI (gR g1 7) i) g1).2) (tYL y L_58)) := by rw [← hcc]; exact hD
          rw [hcc] at hL_58 ⊢
          have hkc := kp_connectNow (srcN (gR g1 7) i) (dstN (gR g1 7) i) (sucI (gR g1 7) i) g1
          refine lv_istore_n (lv' := [(3, .int ((sp_connectNow (srcN (gR g1 7) i) (dstN (gR g1 7) i) (sucI (gR g1 7) i) g1).1)), (0, .ref (ad 0)), (1, .int (nI k)), (2, .int (nI i))]) hx hb dX5_runInput_61 rfl hl (by decide) rfl (fun ls hl => ?_)
          refine lv_iload_n hx hb dX5_runInput_62 rfl (lv_at hl 0 rfl) ?_
          refine lv_iconst (v := 3) hx hb dX5_runInput_63 (by decide) ?_
          refine lv_icmp_eq (tgt := 75) hx hb dX5_runInput_64 (by decide) (fun c_64 => ?_) (fun c_64 => ?_)
          · refine lv_iinc (v := nI (i + 6)) (lv' := [(2, .int (nI (i + 6))), (3, .int ((sp_connectNow (srcN (gR g1 7) i) (dstN (gR g1 7) i) (sucI (gR g1 7) i) g1).1)), (0, .ref (ad 0)), (1, .int (nI k))]) hx hb dX5_runInput_75 hl (k := 3) rfl (nI_add i 6) (by decide) rfl (fun ls hl => ?_)
            refine lv_goto (tgt := 17) hx hb dX5_runInput_78 (by decide) ?_
            exact ih_17  (t + 1) (i + 6) (k + 0) ((sp_connectNow (srcN (gR g1 7) i) (dstN (gR g1 7) i) (sucI (gR g1 7) i) g1).2) L_58 (by omega) (by omega) (hkc.1.mn hM1) (hkc.1.2.2.2.2.1.trans h7) (hkc.1.2.1.trans h2) (by have := hkc.2; omega) hL_58 (by rw [← hg, show ((gN g 2 + 1) / 6) - t = (((gN g 2 + 1) / 6) - (t + 1)) + 1 by omega, rnL, if_neg (fun h => ((cn_34 _ _ _ _).mp h).1 c_64)]) (by omega) _ _ _ hP hD hS (lv_sub hl [2, 3, 0] rfl)
          · refine lv_iload_n hx hb dX5_runInput_67 rfl (lv_at hl 0 rfl) ?_
            refine lv_iconst (v := 4) hx hb dX5_runInput_68 (by decide) ?_
            refine lv_icmp_eq (tgt := 75) hx hb dX5_runInput_69 (by decide) (fun c_69 => ?_) (fun c_69 => ?_)
            · refine lv_iinc (v := nI (i + 6)) (lv' := [(2, .int (nI (i + 6))), (3, .int ((sp_connectNow (srcN (gR g1 7) i) (dstN (gR g1 7) i) (sucI (gR g1 7) i) g1).1)), (0, .ref (ad 0)), (1, .int (nI k))]) hx hb dX5_runInput_75 hl (k := 3) rfl (nI_add i 6) (by decide) rfl (fun ls hl => ?_)
              refine lv_goto (tgt := 17) hx hb dX5_runInput_78 (by decide) ?_
              exact ih_17  (t + 1) (i + 6) (k + 0) ((sp_connectNow (srcN (gR g1 7) i) (dstN (gR g1 7) i) (sucI (gR g1 7) i) g1).2) L_58 (by omega) (by omega) (hkc.1.mn hM1) (hkc.1.2.2.2.2.1.trans h7) (hkc.1.2.1.trans h2) (by have := hkc.2; omega) hL_58 (by rw [← hg, show ((gN g 2 + 1) / 6) - t = (((gN g 2 + 1) / 6) - (t + 1)) + 1 by omega, rnL, if_neg (fun h => ((cn_34 _ _ _ _).mp h).2 c_69)]) (by omega) _ _ _ hP hD hS (lv_sub hl [2, 3, 0] rfl)
            · refine lv_iinc (v := nI (k + 1)) (lv' := [(1, .int (nI (k + 1))), (3, .int ((sp_connectNow (srcN (gR g1 7) i) (dstN (gR g1 7) i) (sucI (gR g1 7) i) g1).1)), (0, .ref (ad 0)), (2, .int (nI i))]) hx hb dX5_runInput_72 hl (k := 2) rfl (nI_add k 1) (by decide) rfl (fun ls hl => ?_)
              refine lv_iinc (v := nI (i + 6)) (lv' := [(2, .int (nI (i + 6))), (1, .int (nI (k + 1))), (3, .int ((sp_connectNow (srcN (gR g1 7) i) (dstN (gR g1 7) i) (sucI (gR g1 7) i) g1).1)), (0, .ref (ad 0))]) hx hb dX5_runInput_75 hl (k := 3) rfl (nI_add i 6) (by decide) rfl (fun ls hl => ?_)
              refine lv_goto (tgt := 17) hx hb dX5_runInput_78 (by decide) ?_
              exact ih_17  (t + 1) (i + 6) (k + 1) ((sp_connectNow (srcN (gR g1 7) i) (dstN (gR g1 7) i) (sucI (gR g1 7) i) g1).2) L_58 (by omega) (by omega) (hkc.1.mn hM1) (hkc.1.2.2.2.2.1.trans h7) (hkc.1.2.1.trans h2) (by have := hkc.2; omega) hL_58 (by rw [← hg, show ((gN g 2 + 1) / 6) - t = (((gN g 2 + 1) / 6) - (t + 1)) + 1 by omega, rnL, if_pos ((cn_34 _ _ _ _).mpr ⟨c_64, c_69⟩)]) (by omega) _ _ _ hP hD hS (lv_sub hl [3, 1, 0] rfl)
    exact lp_17 _ 0 0 0 g (yL y) rfl (Nat.zero_le _) ⟨⟨hc1, hc2⟩, ha⟩ rfl rfl (Nat.le_refl _) hL rfl (Nat.lt_succ_self _) _ _ _ hP hD hS (lv_sub hl [2, 1, 0] rfl)
  · refine lv_bipush (v := (-103)) hx hb dX5_runInput_10 (by decide) ?_
    have hq : sp_run g = (-103, g) := by rw [sp_run, if_neg (fun h => c_7 ⟨by omega, (out_at (by omega) (fe_all h.2)).mpr h.1, h.2⟩)]
    exact rt _ (xW ad kA g y) _ _ _ _ hP hD hS dX5_runInput_12 (by show _ ∧ _; rw [hq]; exact ⟨rfl, yL y, hL, rfl⟩)
