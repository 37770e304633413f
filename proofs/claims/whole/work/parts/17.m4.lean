set_option maxRecDepth 100000 in
set_option maxHeartbeats 4000000 in
theorem kJxe99ae_isNaN_b9ae7 (l : Launch) (D : va_G) (kA : Nat → ClassId) (sz : Nat) (x : UInt64) (L k t : Nat) (hx0 : Ok L k t x) : CtI l yJxe99ae_isNaN_b9ae7 cJxe99ae_isNaN_b9ae7 2 .boolean 0 D kA sz ([]) [.double x] (fun r uu => r = 0 ∧ uu = []) := by
  refine ct_z (own := RJxe99ae) (by decide) rfl (Nat.le_of_ble_eq_true rfl) ?_
  intro p_ e_ s_ m_ ar_ bw_ me_ co_ A ls Q F hnm hK hA hP hD hS hl hsz rt
  have hx := F.1
  have hb := F.2.1
  have hl : lv_has ls 2 [(0, .double x)] := hl
  have hP : va_P D vwCl ([]) s_.heap := hP
  refine lv_dload_n hx hb dJxe99ae_isNaN_b9ae7_0 rfl (lv_at hl 0 rfl) ?_
  refine lv_dload_n hx hb dJxe99ae_isNaN_b9ae7_1 rfl (lv_at hl 0 rfl) ?_
  refine lv_dcmp hx hb dJxe99ae_isNaN_b9ae7_2 ?_
  rw [show Op.cmpValue (FP.dcmp x x) CmpOp.l = 0 from by rw [self_eq hx0]; rfl]
  refine lv_if_eq (tgt := 10) hx hb dJxe99ae_isNaN_b9ae7_3 (by decide) (fun _ => ?_) (fun h => absurd (by decide) h)
  refine lv_iconst (v := 0) hx hb dJxe99ae_isNaN_b9ae7_10 (by decide) ?_
  exact rt _ ([]) _ _ _ _ hP hD hS dJxe99ae_isNaN_b9ae7_11 rfl (⟨rfl, rfl⟩)

set_option maxRecDepth 100000 in
set_option maxHeartbeats 4000000 in
theorem kJxe99ae_doubleToLongBits_ccdee (l : Launch) (D : va_G) (kA : Nat → ClassId) (sz : Nat) (x : UInt64) (L k t : Nat) (hx0 : Ok L k t x) : CtL l yJxe99ae_doubleToLongBits_ccdee cJxe99ae_doubleToLongBits_ccdee 2 .long 1 D kA sz ([]) [.double x] (fun r uu => r = x.toInt64 ∧ uu = []) := by
  refine ct_l (own := RJxe99ae) (by decide) rfl (Nat.le_of_ble_eq_true rfl) ?_
  intro p_ e_ s_ m_ ar_ bw_ me_ co_ A ls Q F hnm hK hA hP hD hS hl hsz rt
  have hx := F.1
  have hb := F.2.1
  have hl : lv_has ls 2 [(0, .double x)] := hl
  have hP : va_P D vwCl ([]) s_.heap := hP
  refine lv_dload_n hx hb dJxe99ae_doubleToLongBits_ccdee_0 rfl (lv_at hl 0 rfl) ?_
  refine cl_S_i (wc := []) (As := [.double x]) (rest := []) F hK P_nil D_nil hS hA (kJxe99ae_isNaN_b9ae7 l D kA _ x L k t hx0) gw_851 gw_75 gw_849 gw_850 hdJxe99ae_isNaN_b9ae7 ⟨Nat.le_of_ble_eq_true rfl, Nat.le_of_ble_eq_true rfl⟩ hl.1 rfl (Nat.le_of_ble_eq_true rfl) dJxe99ae_doubleToLongBits_ccdee_1 ⟨Nat.le_of_ble_eq_true rfl, Nat.le_of_ble_eq_true rfl⟩ (fun r_1 u_1 H locs hw hP1 hD1 hk1 hFc hS => ?_)
  obtain ⟨rfl, rfl⟩ := hw
  have hP := hp_non hP hk1
  refine lv_if_ne (tgt := 12) hx hb dJxe99ae_doubleToLongBits_ccdee_4 (by decide) (fun h => absurd h (by decide)) (fun _ => ?_)
  refine lv_dload_n hx hb dJxe99ae_doubleToLongBits_ccdee_7 rfl (lv_at hl 0 rfl) ?_
  refine vn_d2l hx hb (by rw [F.2.2.1]; exact hl.1.symm) F.2.2.2.1 (F.2.2.2.2 _ gw_852) (F.2.2.2.2 _ gw_854) (F.2.2.2.2 _ gw_853) (F.2.2.2.2 _ gw_75) (Nat.le_of_ble_eq_true rfl) (Nat.le_of_ble_eq_true rfl) dJxe99ae_doubleToLongBits_ccdee_8 ?_
  exact rt _ ([]) _ _ _ _ hP hD hS dJxe99ae_doubleToLongBits_ccdee_11 (⟨rfl, rfl⟩)

set_option maxRecDepth 100000 in
set_option maxHeartbeats 4000000 in
theorem kX6_step (l : Launch) (D : va_G) (kA : Nat → ClassId) (sz : Nat) (ad : Nat → Nat) (g : Sg) (z : Zm) (jp u d U B w zz n : Nat) (hj : jp ≤ 100) (hp : Par g u d U B) (hw : w = 59 + U - B) (hzz : zz = 59 - B) (hn : n < 60) (hR : MR B w (zC z 0) (chN (pOf jp) (qOf jp) u d w zz n).1) (hF0 : zF z 0 = (chN (pOf jp) (qOf jp) u d w zz n).2.1) (hF1 : zF z 1 = (chN (pOf jp) (qOf jp) u d w zz n).2.2) : CtV l yX6_step cX6_step 10 0 0 0 D kA sz (mW ad kA g z) [.ref (ad 0), .double (pOf jp), .double (qOf jp)] (fun uu => ∃ C F, MR B w (C 0) (chN (pOf jp) (qOf jp) u d w zz (n + 1)).1 ∧ F 0 = (chN (pOf jp) (qOf jp) u d w zz (n + 1)).2.1 ∧ F 1 = (chN (pOf jp) (qOf jp) u d w zz (n + 1)).2.2 ∧ uu = mW ad kA g (tCF z C F)) := by
  refine ct_v (own := RX6) (by decide) rfl (Nat.le_of_ble_eq_true rfl) ?_
  intro p_ e_ s_ m_ ar_ bw_ me_ co_ A ls Q F hnm hK hA hP hD hS hl hsz rt
  have hx := F.1
  have hb := F.2.1
  have hl : lv_has ls 10 [(0, .ref (ad 0)), (1, .double (pOf jp)), (3, .double (qOf jp))] := hl
  have hP : va_P D vwCl (mW ad kA g z) s_.heap := hP
  obtain ⟨pu, pd, pU, pB, ⟨hu1, hu2⟩, ⟨hd1, hd2⟩, ⟨hU1, hU2⟩, hB⟩ := id hp
  obtain ⟨nS, nQ, nP, nR, nU, nD, nE⟩ := nan_step (u := u) (d := d) (w := w) (z := zz) (n := n) (K := 119 * n) (pOf_ok hj) (qOf_ok hj) (by omega) hn (ok_chN (u := u) (d := d) (w := w) (z := zz) (pOf_ok hj) (qOf_ok hj) (by omega) n (by omega)).2.1 (by omega)
  refine lv_dconst0 hx hb dX6_step_0 ?_
  refine lv_dstore (lv' := [(5, .double FP.dconst0), (0, .ref (ad 0)), (1, .double (pOf jp)), (3, .double (qOf jp))]) hx hb dX6_step_1 hl (by decide) rfl (fun ls hl => ?_)
  refine lv_iconst (v := 0) hx hb dX6_step_3 (by decide) ?_
  refine lv_istore (lv' := [(7, .int 0), (5, .double FP.dconst0), (0, .ref (ad 0)), (1, .double (pOf jp)), (3, .double (qOf jp))]) hx hb dX6_step_4 hl (by decide) rfl (fun ls hl => ?_)
  have lp_6 : ∀ (n_6 : Nat) (k : Nat) (C : Nat → Nat → UInt64), (k ≤ 121) → (C 0 = zC z 0) → (∀ j, j < k → C 1 j = FP.dconst0) → (121 - k) < n_6 → ∀ (H : Heap) (locs : List Loc) (ls : Array Slot), va_P D vwCl (mW ad kA g (tCF z C (zF z))) H → va_D A (mW ad kA g (tCF z C (zF z))) → va_S A s_.heap H locs → lv_has ls 10 [(0, .ref (ad 0)), (1, .double (pOf jp)), (3, .double (qOf jp)), (5, .double FP.dconst0), (7, .int (nI k))] → W p_ l e_ (rmC 0 0 0) s_ m_ ar_ bw_ me_ co_ H locs 0 0 Q (F0 m_ 6 ls []) := by
    intro n_6
    induction n_6 with
    | zero =>
      intro k C hk h0 hZ hm_6
      exact absurd hm_6 (Nat.not_lt_zero _)
    | succ n_6 ih_6 =>
      intro k C hk h0 hZ hm_6 H locs ls hP hD hS hl
      refine lv_iload hx hb dX6_step_6 (lv_at hl 4 rfl) ?_
      refine lv_bipush (v := 121) hx hb dX6_step_8 (by decide) ?_
      refine b_ge F (a := k) (b := 121) (tgt := 27) dX6_step_10 (by decide) (by omega) (by omega) (fun c_10 => ?_) (fun c_10 => ?_)
      · refine lv_aload_n hx hb dX6_step_27 rfl (lv_at hl 0 rfl) ?_
        refine g_get F hK hP inX6 0 rfl rfl 4 (by decide) gw_580 rfl (v := .int (gI g 3)) rfl dX6_step_28 ?_
        rw [pB]
        refine lv_iconst (v := 1) hx hb dX6_step_31 (by decide) ?_
        refine lv_iadd hx hb dX6_step_32 ?_
        rw [s60]
        refine lv_istore (lv' := [(7, .int (nI (B + 1) - 60)), (0, .ref (ad 0)), (1, .double (pOf jp)), (3, .double (qOf jp)), (5, .double FP.dconst0)]) hx hb dX6_step_33 hl (by decide) rfl (fun ls hl => ?_)
        have lp_35 : ∀ (n_35 : Nat) (i : Nat) (C2 : Nat → Nat → UInt64) (F2 : Nat → UInt64), (i ≤ w) → (C2 0 = zC z 0) → (MR B w (C2 1) (scat FP.dadd FP.dconst0 (fun q9 => FP.dmul ((chN (pOf jp) (qOf jp) u d w zz n).1 q9) (qOf jp)) (fun q9 => FP.dmul ((chN (pOf jp) (qOf jp) u d w zz n).1 q9) (pOf jp)) u d w i)) → (F2 0 = acc FP.dadd (fun q9 => decide (w ≤ q9 + u)) (fun q9 => FP.dmul ((chN (pOf jp) (qOf jp) u d w zz n).1 q9) (qOf jp)) (chN (pOf jp) (qOf jp) u d w zz n).2.1 i) → (F2 1 = zF z 1) → (w - i) < n_35 → ∀ (H : Heap) (locs : List Loc) (ls : Array Slot), va_P D vwCl (mW ad kA g (tCF z C2 F2)) H → va_D A (mW ad kA g (tCF z C2 F2)) → va_S A s_.heap H locs → lv_has ls 10 [(0, .ref (ad 0)), (1, .double (pOf jp)), (3, .double (qOf jp)), (5, .double (acc FP.dadd (fun _ => true) (chN (pOf jp) (qOf jp) u d w zz n).1 FP.dconst0 i)), (7, .int (nI (B + 1 + i) - 60))] → W p_ l e_ (rmC 0 0 0) s_ m_ ar_ bw_ me_ co_ H locs 0 0 Q (F0 m_ 35 ls []) := by
          intro n_35
          induction n_35 with
          | zero =>
            intro i C2 F2 hi h02 hR2 hF20 hF21 hm_35
            exact absurd hm_35 (Nat.not_lt_zero _)
          | succ n_35 ih_35 =>
            intro i C2 F2 hi h02 hR2 hF20 hF21 hm_35 H locs ls hP hD hS hl
            refine lv_iload hx hb dX6_step_35 (lv_at hl 4 rfl) ?_
            refine lv_aload_n hx hb dX6_step_37 rfl (lv_at hl 0 rfl) ?_
            refine g_get F hK hP inX6 0 rfl rfl 3 (by decide) gw_579 rfl (v := .int (gI g 2)) rfl dX6_step_38 ?_
            rw [pU]
            refine lv_icmp_ge (tgt := 157) hx hb dX6_step_41 (by decide) (fun c_41 => ?_) (fun c_41 => ?_)
            · have hx41 := (qA (by omega) (by omega)).mp c_41
              obtain rfl : w = i := by omega
              refine lv_aload_n hx hb dX6_step_157 rfl (lv_at hl 0 rfl) ?_
              refine lv_dup hx hb dX6_step_158 rfl ?_
              refine g_get F hK hP inX6 0 rfl rfl 25 (by decide) gw_601 rfl (v := .double (zF (tCF z C2 F2) 1)) rfl dX6_step_159 ?_
              rw [show zF (tCF z C2 F2) 1 = (chN (pOf jp) (qOf jp) u d w zz n).2.2 from hF21.trans hF1]
              refine lv_dload hx hb dX6_step_162 (lv_at hl 3 rfl) ?_
              refine lv_dadd hx hb dX6_step_164 nE ?_
              refine g_put F hK hP hD hS inX6 tyX6_ok nmX6 0 rfl rfl 25 (by decide) gw_601 rfl rfl rfl rfl (Nat.le_of_ble_eq_true rfl) dX6_step_165 (fun H locs hP hD hS => ?_)
              have hP : va_P D vwCl (mW ad kA g (tF (tCF z C2 F2) 1 (FP.dadd ((chN (pOf jp) (qOf jp) u d w zz n).2.2) (acc FP.dadd (fun _ => true) (chN (pOf jp) (qOf jp) u d w zz n).1 FP.dconst0 w)))) H := hP
              have hD : va_D A (mW ad kA g (tF (tCF z C2 F2) 1 (FP.dadd ((chN (pOf jp) (qOf jp) u d w zz n).2.2) (acc FP.dadd (fun _ => true) (chN (pOf jp) (qOf jp) u d w zz n).1 FP.dconst0 w)))) := hD
              refine lv_iconst (v := 0) hx hb dX6_step_168 (by decide) ?_
              refine lv_istore (lv' := [(7, .int 0), (0, .ref (ad 0)), (1, .double (pOf jp)), (3, .double (qOf jp)), (5, .double (acc FP.dadd (fun _ => true) (chN (pOf jp) (qOf jp) u d w zz n).1 FP.dconst0 w))]) hx hb dX6_step_169 hl (by decide) rfl (fun ls hl => ?_)
              have lp_171 : ∀ (n_171 : Nat) (k : Nat) (C3 : Nat → Nat → UInt64), (k ≤ 121) → (C3 1 = C2 1) → (∀ j, j < k → C3 0 j = C2 1 j) → (121 - k) < n_171 → ∀ (H : Heap) (locs : List Loc) (ls : Array Slot), va_P D vwCl (mW ad kA g (tCF z C3 (vf_upd F2 1 (FP.dadd (chN (pOf jp) (qOf jp) u d w zz n).2.2 (acc FP.dadd (fun _ => true) (chN (pOf jp) (qOf jp) u d w zz n).1 FP.dconst0 w))))) H → va_D A (mW ad kA g (tCF z C3 (vf_upd F2 1 (FP.dadd (chN (pOf jp) (qOf jp) u d w zz n).2.2 (acc FP.dadd (fun _ => true) (chN (pOf jp) (qOf jp) u d w zz n).1 FP.dconst0 w))))) → va_S A s_.heap H locs → lv_has ls 10 [(0, .ref (ad 0)), (7, .int (nI k))] → W p_ l e_ (rmC 0 0 0) s_ m_ ar_ bw_ me_ co_ H locs 0 0 Q (F0 m_ 171 ls []) := by
                intro n_171
                induction n_171 with
                | zero =>
                  intro k C3 hk h13 hC hm_171
                  exact absurd hm_171 (Nat.not_lt_zero _)
                | succ n_171 ih_171 =>
                  intro k C3 hk h13 hC hm_171 H locs ls hP hD hS hl
                  refine lv_iload hx hb dX6_step_171 (lv_at hl 1 rfl) ?_
                  refine lv_bipush (v := 121) hx hb dX6_step_173 (by decide) ?_
                  refine b_ge F (a := k) (b := 121) (tgt := 198) dX6_step_175 (by decide) (by omega) (by omega) (fun c_175 => ?_) (fun c_175 => ?_)
                  · exact rt (mW ad kA g (tCF z C3 (vf_upd F2 1 (FP.dadd (chN (pOf jp) (qOf jp) u d w zz n).2.2 (acc FP.dadd (fun _ => true) (chN (pOf jp) (qOf jp) u d w zz n).1 FP.dconst0 w))))) _ _ _ _ hP hD hS dX6_step_198 (⟨C3, vf_upd F2 1 (FP.dadd (chN (pOf jp) (qOf jp) u d w zz n).2.2 (acc FP.dadd (fun _ => true) (chN (pOf jp) (qOf jp) u d w zz n).1 FP.dconst0 w)), fun i hi => by rw [hC _ (by omega)]; exact hR2 i hi, hF20, rfl, rfl⟩)
                  · refine lv_aload_n hx hb dX6_step_178 rfl (lv_at hl 0 rfl) ?_
                    refine g_get F hK hP inX6 0 rfl rfl 22 (by decide) gw_598 rfl (v := .ref (ad 13)) rfl dX6_step_179 ?_
                    refine lv_iload hx hb dX6_step_182 (lv_at hl 1 rfl) ?_
                    refine lv_aload_n hx hb dX6_step_184 rfl (lv_at hl 0 rfl) ?_
                    refine g_get F hK hP inX6 0 rfl rfl 23 (by decide) gw_599 rfl (v := .ref (ad 14)) rfl dX6_step_185 ?_
                    refine lv_iload hx hb dX6_step_188 (lv_at hl 1 rfl) ?_
                    refine a_dld F hK hP 14 (f := zC (tCF z C3 (vf_upd F2 1 (FP.dadd (chN (pOf jp) (qOf jp) u d w zz n).2.2 (acc FP.dadd (fun _ => true) (chN (pOf jp) (qOf jp) u d w zz n).1 FP.dconst0 w)))) 1) rfl (j := k) (by omega) (by decide) dX6_step_190 ?_
                    refine a_dst F hK hP hD hS 13 (f := zC (tCF z C3 (vf_upd F2 1 (FP.dadd (chN (pOf jp) (qOf jp) u d w zz n).2.2 (acc FP.dadd (fun _ => true) (chN (pOf jp) (qOf jp) u d w zz n).1 FP.dconst0 w)))) 0) rfl (j := k) (by omega) (by decide) dX6_step_191 (fun H locs hP hD hS => ?_)
                    have hP : va_P D vwCl (mW ad kA g (tC (tCF z C3 (vf_upd F2 1 (FP.dadd (chN (pOf jp) (qOf jp) u d w zz n).2.2 (acc FP.dadd (fun _ => true) (chN (pOf jp) (qOf jp) u d w zz n).1 FP.dconst0 w)))) 0 (vf_upd (zC (tCF z C3 (vf_upd F2 1 (FP.dadd (chN (pOf jp) (qOf jp) u d w zz n).2.2 (acc FP.dadd (fun _ => true) (chN (pOf jp) (qOf jp) u d w zz n).1 FP.dconst0 w)))) 0) k (zC (tCF z C3 (vf_upd F2 1 (FP.dadd (chN (pOf jp) (qOf jp) u d w zz n).2.2 (acc FP.dadd (fun _ => true) (chN (pOf jp) (qOf jp) u d w zz n).1 FP.dconst0 w)))) 1 k)))) H := hP
                    have hD : va_D A (mW ad kA g (tC (tCF z C3 (vf_upd F2 1 (FP.dadd (chN (pOf jp) (qOf jp) u d w zz n).2.2 (acc FP.dadd (fun _ => true) (chN (pOf jp) (qOf jp) u d w zz n).1 FP.dconst0 w)))) 0 (vf_upd (zC (tCF z C3 (vf_upd F2 1 (FP.dadd (chN (pOf jp) (qOf jp) u d w zz n).2.2 (acc FP.dadd (fun _ => true) (chN (pOf jp) (qOf jp) u d w zz n).1 FP.dconst0 w)))) 0) k (zC (tCF z C3 (vf_upd F2 1 (FP.dadd (chN (pOf jp) (qOf jp) u d w zz n).2.2 (acc FP.dadd (fun _ => true) (chN (pOf jp) (qOf jp) u d w zz n).1 FP.dconst0 w)))) 1 k)))) := hD
                    refine lv_iinc (v := nI (k + 1)) (lv' := [(7, .int (nI (k + 1))), (0, .ref (ad 0))]) hx hb dX6_step_192 hl (k := 1) rfl (nI_add k 1) (by decide) rfl (fun ls hl => ?_)
                    refine lv_goto (tgt := 171) hx hb dX6_step_195 (by decide) ?_
                    exact ih_171  (k + 1) (vf_upd C3 0 (vf_upd (C3 0) k (C3 1 k))) (by omega) h13 (up_lt (f := C3 0) (k := k) (x := C3 1 k) (h := C2 1) hC (by rw [h13])) (by omega) _ _ _ hP hD hS (lv_sub hl [1, 0] rfl)
              exact lp_171 _ 0 C2 (Nat.zero_le _) rfl (fun j hj => absurd hj (Nat.not_lt_zero _)) (Nat.lt_succ_self _) _ _ _ hP hD hS (lv_sub hl [1, 0] rfl)
            · have hx41 : ¬ 60 + U ≤ B + 1 + i := fun h => c_41 ((qA (by omega) (by omega)).mpr h)
              refine lv_aload_n hx hb dX6_step_44 rfl (lv_at hl 0 rfl) ?_
              refine g_get F hK hP inX6 0 rfl rfl 22 (by decide) gw_598 rfl (v := .ref (ad 13)) rfl dX6_step_45 ?_
              refine lv_bipush (v := 60) hx hb dX6_step_48 (by decide) ?_
              refine lv_iload hx hb dX6_step_50 (lv_at hl 4 rfl) ?_
              refine lv_iadd hx hb dX6_step_52 ?_
              rw [e60]
              refine a_dld F hK hP 13 (f := zC (tCF z C2 F2) 0) rfl (j := B + 1 + i) (by omega) (by decide) dX6_step_53 ?_
              rw [show (zC (tCF z C2 F2) 0 (B + 1 + i)) = ((chN (pOf jp) (qOf jp) u d w zz n).1 i) from (by rw [show zC (tCF z C2 F2) 0 = zC z 0 from h02]; exact hR i (by omega))]
              refine lv_dstore (lv' := [(8, .double ((chN (pOf jp) (qOf jp) u d w zz n).1 i)), (0, .ref (ad 0)), (1, .double (pOf jp)), (3, .double (qOf jp)), (5, .double (acc FP.dadd (fun _ => true) (chN (pOf jp) (qOf jp) u d w zz n).1 FP.dconst0 i)), (7, .int (nI (B + 1 + i) - 60))]) hx hb dX6_step_54 hl (by decide) rfl (fun ls hl => ?_)
              refine lv_dload hx hb dX6_step_56 (lv_at hl 4 rfl) ?_
              refine lv_dload hx hb dX6_step_58 (lv_at hl 0 rfl) ?_
              refine lv_dadd hx hb dX6_step_60 (nS i (by omega)) ?_
              refine lv_dstore (lv' := [(5, .double (FP.dadd (acc FP.dadd (fun _ => true) (chN (pOf jp) (qOf jp) u d w zz n).1 FP.dconst0 i) ((chN (pOf jp) (qOf jp) u d w zz n).1 i))), (8, .double ((chN (pOf jp) (qOf jp) u d w zz n).1 i)), (0, .ref (ad 0)), (1, .double (pOf jp)), (3, .double (qOf jp)), (7, .int (nI (B + 1 + i) - 60))]) hx hb dX6_step_61 hl (by decide) rfl (fun ls hl => ?_)
              have ea5 : acc FP.dadd (fun _ => true) (chN (pOf jp) (qOf jp) u d w zz n).1 FP.dconst0 (i + 1) = FP.dadd (acc FP.dadd (fun _ => true) (chN (pOf jp) (qOf jp) u d w zz n).1 FP.dconst0 i) ((chN (pOf jp) (qOf jp) u d w zz n).1 i) := rfl
              rw [← ea5] at hl
              refine lv_iload hx hb dX6_step_63 (lv_at hl 5 rfl) ?_
              refine lv_aload_n hx hb dX6_step_65 rfl (lv_at hl 2 rfl) ?_
              refine g_get F hK hP inX6 0 rfl rfl 1 (by decide) gw_577 rfl (v := .int (gI g 0)) rfl dX6_step_66 ?_
              rw [pu]
              refine lv_iadd hx hb dX6_step_69 ?_
              refine lv_aload_n hx hb dX6_step_70 rfl (lv_at hl 2 rfl) ?_
              refine g_get F hK hP inX6 0 rfl rfl 3 (by decide) gw_579 rfl (v := .int (gI g 2)) rfl dX6_step_71 ?_
              rw [pU]
              refine lv_icmp_lt (tgt := 93) hx hb dX6_step_74 (by decide) (fun c_74 => ?_) (fun c_74 => ?_)
              · have hx74 := (qB (by omega) (by omega) (by omega)).mp c_74
                refine lv_aload_n hx hb dX6_step_93 rfl (lv_at hl 2 rfl) ?_
                refine g_get F hK hP inX6 0 rfl rfl 23 (by decide) gw_599 rfl (v := .ref (ad 14)) rfl dX6_step_94 ?_
                refine lv_bipush (v := 60) hx hb dX6_step_97 (by decide) ?_
                refine lv_iload hx hb dX6_step_99 (lv_at hl 5 rfl) ?_
                refine lv_iadd hx hb dX6_step_101 ?_
                rw [e60]
                refine lv_aload_n hx hb dX6_step_102 rfl (lv_at hl 2 rfl) ?_
                refine g_get F hK hP inX6 0 rfl rfl 1 (by decide) gw_577 rfl (v := .int (gI g 0)) rfl dX6_step_103 ?_
                rw [pu]
                refine n_add F (a := B + 1 + i) (b := u) dX6_step_106 ?_
                refine lv_dup2_11 hx hb dX6_step_107 rfl rfl ?_
                refine a_dld F hK hP 14 (f := zC (tCF z C2 F2) 1) rfl (j := B + 1 + i + u) (by omega) (by decide) dX6_step_108 ?_
                rw [show (zC (tCF z C2 F2) 1 (B + 1 + i + u)) = (scat FP.dadd FP.dconst0 (fun q9 => FP.dmul ((chN (pOf jp) (qOf jp) u d w zz n).1 q9) (qOf jp)) (fun q9 => FP.dmul ((chN (pOf jp) (qOf jp) u d w zz n).1 q9) (pOf jp)) u d w i (i + u)) from (by rw [show B + 1 + i + u = B + 1 + (i + u) by omega]; exact hR2 (i + u) (by omega))]
                refine lv_dload hx hb dX6_step_109 (lv_at hl 1 rfl) ?_
                refine lv_dload_n hx hb dX6_step_111 rfl (lv_at hl 4 rfl) ?_
                refine lv_dmul hx hb dX6_step_112 (nQ i) ?_
                refine lv_dadd hx hb dX6_step_113 (nU i (by omega) (i + u)) ?_
                refine a_dst F hK hP hD hS 14 (f := zC (tCF z C2 F2) 1) rfl (j := B + 1 + i + u) (by omega) (by decide) dX6_step_114 (fun H locs hP hD hS => ?_)
                have hP : va_P D vwCl (mW ad kA g (tC (tCF z C2 F2) 1 (vf_upd (zC (tCF z C2 F2) 1) (B + 1 + i + u) (FP.dadd (scat FP.dadd FP.dconst0 (fun q9 => FP.dmul ((chN (pOf jp) (qOf jp) u d w zz n).1 q9) (qOf jp)) (fun q9 => FP.dmul ((chN (pOf jp) (qOf jp) u d w zz n).1 q9) (pOf jp)) u d w i (i + u)) (FP.dmul ((chN (pOf jp) (qOf jp) u d w zz n).1 i) (qOf jp)))))) H := hP
                have hD : va_D A (mW ad kA g (tC (tCF z C2 F2) 1 (vf_upd (zC (tCF z C2 F2) 1) (B + 1 + i + u) (FP.dadd (scat FP.dadd FP.dconst0 (fun q9 => FP.dmul ((chN (pOf jp) (qOf jp) u d w zz n).1 q9) (qOf jp)) (fun q9 => FP.dmul ((chN (pOf jp) (qOf jp) u d w zz n).1 q9) (pOf jp)) u d w i (i + u)) (FP.dmul ((chN (pOf jp) (qOf jp) u d w zz n).1 i) (qOf jp)))))) := hD
                have hM1 : MR B w (vf_upd (C2 1) (B + 1 + i + u) (FP.dadd (scat FP.dadd FP.dconst0 (fun q9 => FP.dmul ((chN (pOf jp) (qOf jp) u d w zz n).1 q9) (qOf jp)) (fun q9 => FP.dmul ((chN (pOf jp) (qOf jp) u d w zz n).1 q9) (pOf jp)) u d w i (i + u)) (FP.dmul ((chN (pOf jp) (qOf jp) u d w zz n).1 i) (qOf jp)))) (sUp FP.dadd (fun q9 => FP.dmul ((chN (pOf jp) (qOf jp) u d w zz n).1 q9) (qOf jp)) u w i (scat FP.dadd FP.dconst0 (fun q9 => FP.dmul ((chN (pOf jp) (qOf jp) u d w zz n).1 q9) (qOf jp)) (fun q9 => FP.dmul ((chN (pOf jp) (qOf jp) u d w zz n).1 q9) (pOf jp)) u d w i)) := MR_upx hR2 (by omega) rfl
                refine lv_iload hx hb dX6_step_115 (lv_at hl 5 rfl) ?_
                refine lv_aload_n hx hb dX6_step_117 rfl (lv_at hl 2 rfl) ?_
                refine g_get F hK hP inX6 0 rfl rfl 2 (by decide) gw_578 rfl (v := .int (gI g 1)) rfl dX6_step_118 ?_
                rw [pd]
                refine lv_isub hx hb dX6_step_121 ?_
                refine lv_aload_n hx hb dX6_step_122 rfl (lv_at hl 2 rfl) ?_
                refine g_get F hK hP inX6 0 rfl rfl 4 (by decide) gw_580 rfl (v := .int (gI g 3)) rfl dX6_step_123 ?_
                rw [pB]
                refine lv_icmp_le (tgt := 151) hx hb dX6_step_126 (by decide) (fun c_126 => ?_) (fun c_126 => ?_)
                · have hx126 := (qD (by omega) (by omega) (by omega)).mp c_126
                  refine lv_iinc (v := nI (B + 1 + (i + 1)) - 60) (lv' := [(7, .int (nI (B + 1 + (i + 1)) - 60)), (5, .double (acc FP.dadd (fun _ => true) (chN (pOf jp) (qOf jp) u d w zz n).1 FP.dconst0 (i + 1))), (8, .double ((chN (pOf jp) (qOf jp) u d w zz n).1 i)), (0, .ref (ad 0)), (1, .double (pOf jp)), (3, .double (qOf jp))]) hx hb dX6_step_151 hl (k := 5) rfl (s60 _) (by decide) rfl (fun ls hl => ?_)
                  refine lv_goto (tgt := 35) hx hb dX6_step_154 (by decide) ?_
                  have hM2 : MR B w (vf_upd (C2 1) (B + 1 + i + u) (FP.dadd (scat FP.dadd FP.dconst0 (fun q9 => FP.dmul ((chN (pOf jp) (qOf jp) u d w zz n).1 q9) (qOf jp)) (fun q9 => FP.dmul ((chN (pOf jp) (qOf jp) u d w zz n).1 q9) (pOf jp)) u d w i (i + u)) (FP.dmul ((chN (pOf jp) (qOf jp) u d w zz n).1 i) (qOf jp)))) (scat FP.dadd FP.dconst0 (fun q9 => FP.dmul ((chN (pOf jp) (qOf jp) u d w zz n).1 q9) (qOf jp)) (fun q9 => FP.dmul ((chN (pOf jp) (qOf jp) u d w zz n).1 q9) (pOf jp)) u d w (i + 1)) := MR_dn0 hM1 (by omega)
                  exact ih_35  (i + 1) (vf_upd C2 1 (vf_upd (C2 1) (B + 1 + i + u) (FP.dadd (scat FP.dadd FP.dconst0 (fun q9 => FP.dmul ((chN (pOf jp) (qOf jp) u d w zz n).1 q9) (qOf jp)) (fun q9 => FP.dmul ((chN (pOf jp) (qOf jp) u d w zz n).1 q9) (pOf jp)) u d w i (i + u)) (FP.dmul ((chN (pOf jp) (qOf jp) u d w zz n).1 i) (qOf jp))))) F2 (by omega) h02 hM2 (hF20.trans (acc_f (c := fun q9 => decide (w ≤ q9 + u)) (i := i) (decide_eq_false (by omega))).symm) hF21 (by omega) _ _ _ hP hD hS (lv_sub hl [3, 4, 5, 1, 0] rfl)
                · have hx126 : ¬ B + 1 + i ≤ B + d := fun h => c_126 ((qD (by omega) (by omega) (by omega)).mpr h)
                  refine lv_aload_n hx hb dX6_step_129 rfl (lv_at hl 2 rfl) ?_
                  refine g_get F hK hP inX6 0 rfl rfl 23 (by decide) gw_599 rfl (v := .ref (ad 14)) rfl dX6_step_130 ?_
                  refine lv_bipush (v := 60) hx hb dX6_step_133 (by decide) ?_
                  refine lv_iload hx hb dX6_step_135 (lv_at hl 5 rfl) ?_
                  refine lv_iadd hx hb dX6_step_137 ?_
                  rw [e60]
                  refine lv_aload_n hx hb dX6_step_138 rfl (lv_at hl 2 rfl) ?_
                  refine g_get F hK hP inX6 0 rfl rfl 2 (by decide) gw_578 rfl (v := .int (gI g 1)) rfl dX6_step_139 ?_
                  rw [pd]
                  refine n_sub F (a := B + 1 + i) (b := d) dX6_step_142 (by omega) ?_
                  refine lv_dup2_11 hx hb dX6_step_143 rfl rfl ?_
                  refine a_dld F hK hP 14 (f := vf_upd (zC (tCF z C2 F2) 1) (B + 1 + i + u) (FP.dadd (scat FP.dadd FP.dconst0 (fun q9 => FP.dmul ((chN (pOf jp) (qOf jp) u d w zz n).1 q9) (qOf jp)) (fun q9 => FP.dmul ((chN (pOf jp) (qOf jp) u d w zz n).1 q9) (pOf jp)) u d w i (i + u)) (FP.dmul ((chN (pOf jp) (qOf jp) u d w zz n).1 i) (qOf jp)))) rfl (j := (B + 1 + i) - d) (by omega) (by decide) dX6_step_144 ?_
                  rw [show ((vf_upd (zC (tCF z C2 F2) 1) (B + 1 + i + u) (FP.dadd (scat FP.dadd FP.dconst0 (fun q9 => FP.dmul ((chN (pOf jp) (qOf jp) u d w zz n).1 q9) (qOf jp)) (fun q9 => FP.dmul ((chN (pOf jp) (qOf jp) u d w zz n).1 q9) (pOf jp)) u d w i (i + u)) (FP.dmul ((chN (pOf jp) (qOf jp) u d w zz n).1 i) (qOf jp)))) ((B + 1 + i) - d)) = (sUp FP.dadd (fun q9 => FP.dmul ((chN (pOf jp) (qOf jp) u d w zz n).1 q9) (qOf jp)) u w i (scat FP.dadd FP.dconst0 (fun q9 => FP.dmul ((chN (pOf jp) (qOf jp) u d w zz n).1 q9) (qOf jp)) (fun q9 => FP.dmul ((chN (pOf jp) (qOf jp) u d w zz n).1 q9) (pOf jp)) u d w i) (i - d)) from (by rw [show B + 1 + i - d = B + 1 + (i - d) by omega]; exact hM1 (i - d) (by omega))]
                  refine lv_dload hx hb dX6_step_145 (lv_at hl 1 rfl) ?_
                  refine lv_dload_n hx hb dX6_step_147 rfl (lv_at hl 3 rfl) ?_
                  refine lv_dmul hx hb dX6_step_148 (nP i) ?_
                  refine lv_dadd hx hb dX6_step_149 (nD i (by omega) (i - d)) ?_
                  refine a_dst F hK hP hD hS 14 (f := vf_upd (zC (tCF z C2 F2) 1) (B + 1 + i + u) (FP.dadd (scat FP.dadd FP.dconst0 (fun q9 => FP.dmul ((chN (pOf jp) (qOf jp) u d w zz n).1 q9) (qOf jp)) (fun q9 => FP.dmul ((chN (pOf jp) (qOf jp) u d w zz n).1 q9) (pOf jp)) u d w i (i + u)) (FP.dmul ((chN (pOf jp) (qOf jp) u d w zz n).1 i) (qOf jp)))) rfl (j := (B + 1 + i) - d) (by omega) (by decide) dX6_step_150 (fun H locs hP hD hS => ?_)
                  have hP : va_P D vwCl (mW ad kA g (tC (tC (tCF z C2 F2) 1 (vf_upd (zC (tCF z C2 F2) 1) (B + 1 + i + u) (FP.dadd (scat FP.dadd FP.dconst0 (fun q9 => FP.dmul ((chN (pOf jp) (qOf jp) u d w zz n).1 q9) (qOf jp)) (fun q9 => FP.dmul ((chN (pOf jp) (qOf jp) u d w zz n).1 q9) (pOf jp)) u d w i (i + u)) (FP.dmul ((chN (pOf jp) (qOf jp) u d w zz n).1 i) (qOf jp))))) 1 (vf_upd (vf_upd (zC (tCF z C2 F2) 1) (B + 1 + i + u) (FP.dadd (scat FP.dadd FP.dconst0 (fun q9 => FP.dmul ((chN (pOf jp) (qOf jp) u d w zz n).1 q9) (qOf jp)) (fun q9 => FP.dmul ((chN (pOf jp) (qOf jp) u d w zz n).1 q9) (pOf jp)) u d w i (i + u)) (FP.dmul ((chN (pOf jp) (qOf jp) u d w zz n).1 i) (qOf jp)))) ((B + 1 + i) - d) (FP.dadd (sUp FP.dadd (fun q9 => FP.dmul ((chN (pOf jp) (qOf jp) u d w zz n).1 q9) (qOf jp)) u w i (scat FP.dadd FP.dconst0 (fun q9 => FP.dmul ((chN (pOf jp) (qOf jp) u d w zz n).1 q9) (qOf jp)) (fun q9 => FP.dmul ((chN (pOf jp) (qOf jp) u d w zz n).1 q9) (pOf jp)) u d w i) (i - d)) (FP.dmul ((chN (pOf jp) (qOf jp) u d w zz n).1 i) (pOf jp)))))) H := hP
                  have hD : va_D A (mW ad kA g (tC (tC (tCF z C2 F2) 1 (vf_upd (zC (tCF z C2 F2) 1) (B + 1 + i + u) (FP.dadd (scat FP.dadd FP.dconst0 (fun q9 => FP.dmul ((chN (pOf jp) (qOf jp) u d w zz n).1 q9) (qOf jp)) (fun q9 => FP.dmul ((chN (pOf jp) (qOf jp) u d w zz n).1 q9) (pOf jp)) u d w i (i + u)) (FP.dmul ((chN (pOf jp) (qOf jp) u d w zz n).1 i) (qOf jp))))) 1 (vf_upd (vf_upd (zC (tCF z C2 F2) 1) (B + 1 + i + u) (FP.dadd (scat FP.dadd FP.dconst0 (fun q9 => FP.dmul ((chN (pOf jp) (qOf jp) u d w zz n).1 q9) (qOf jp)) (fun q9 => FP.dmul ((chN (pOf jp) (qOf jp) u d w zz n).1 q9) (pOf jp)) u d w i (i + u)) (FP.dmul ((chN (pOf jp) (qOf jp) u d w zz n).1 i) (qOf jp)))) ((B + 1 + i) - d) (FP.dadd (sUp FP.dadd (fun q9 => FP.dmul ((chN (pOf jp) (qOf jp) u d w zz n).1 q9) (qOf jp)) u w i (scat FP.dadd FP.dconst0 (fun q9 => FP.dmul ((chN (pOf jp) (qOf jp) u d w zz n).1 q9) (qOf jp)) (fun q9 => FP.dmul ((chN (pOf jp) (qOf jp) u d w zz n).1 q9) (pOf jp)) u d w i) (i - d)) (FP.dmul ((chN (pOf jp) (qOf jp) u d w zz n).1 i) (pOf jp)))))) := hD
                  refine lv_iinc (v := nI (B + 1 + (i + 1)) - 60) (lv' := [(7, .int (nI (B + 1 + (i + 1)) - 60)), (5, .double (acc FP.dadd (fun _ => true) (chN (pOf jp) (qOf jp) u d w zz n).1 FP.dconst0 (i + 1))), (8, .double ((chN (pOf jp) (qOf jp) u d w zz n).1 i)), (0, .ref (ad 0)), (1, .double (pOf jp)), (3, .double (qOf jp))]) hx hb dX6_step_151 hl (k := 5) rfl (s60 _) (by decide) rfl (fun ls hl => ?_)
                  refine lv_goto (tgt := 35) hx hb dX6_step_154 (by decide) ?_
                  have hM2 : MR B w (vf_upd (vf_upd (C2 1) (B + 1 + i + u) (FP.dadd (scat FP.dadd FP.dconst0 (fun q9 => FP.dmul ((chN (pOf jp) (qOf jp) u d w zz n).1 q9) (qOf jp)) (fun q9 => FP.dmul ((chN (pOf jp) (qOf jp) u d w zz n).1 q9) (pOf jp)) u d w i (i + u)) (FP.dmul ((chN (pOf jp) (qOf jp) u d w zz n).1 i) (qOf jp)))) (B + 1 + i - d) (FP.dadd (sUp FP.dadd (fun q9 => FP.dmul ((chN (pOf jp) (qOf jp) u d w zz n).1 q9) (qOf jp)) u w i (scat FP.dadd FP.dconst0 (fun q9 => FP.dmul ((chN (pOf jp) (qOf jp) u d w zz n).1 q9) (qOf jp)) (fun q9 => FP.dmul ((chN (pOf jp) (qOf jp) u d w zz n).1 q9) (pOf jp)) u d w i) (i - d)) (FP.dmul ((chN (pOf jp) (qOf jp) u d w zz n).1 i) (pOf jp)))) (scat FP.dadd FP.dconst0 (fun q9 => FP.dmul ((chN (pOf jp) (qOf jp) u d w zz n).1 q9) (qOf jp)) (fun q9 => FP.dmul ((chN (pOf jp) (qOf jp) u d w zz n).1 q9) (pOf jp)) u d w (i + 1)) := MR_dnx hM1 (by omega) (by omega) rfl
                  exact ih_35  (i + 1) (vf_upd C2 1 (vf_upd (vf_upd (C2 1) (B + 1 + i + u) (FP.dadd (scat FP.dadd FP.dconst0 (fun q9 => FP.dmul ((chN (pOf jp) (qOf jp) u d w zz n).1 q9) (qOf jp)) (fun q9 => FP.dmul ((chN (pOf jp) (qOf jp) u d w zz n).1 q9) (pOf jp)) u d w i (i + u)) (FP.dmul ((chN (pOf jp) (qOf jp) u d w zz n).1 i) (qOf jp)))) (B + 1 + i - d) (FP.dadd (sUp FP.dadd (fun q9 => FP.dmul ((chN (pOf jp) (qOf jp) u d w zz n).1 q9) (qOf jp)) u w i (scat FP.dadd FP.dconst0 (fun q9 => FP.dmul ((chN (pOf jp) (qOf jp) u d w zz n).1 q9) (qOf jp)) (fun q9 => FP.dmul ((chN (pOf jp) (qOf jp) u d w zz n).1 q9) (pOf jp)) u d w i) (i - d)) (FP.dmul ((chN (pOf jp) (qOf jp) u d w zz n).1 i) (pOf jp))))) F2 (by omega) h02 hM2 (hF20.trans (acc_f (c := fun q9 => decide (w ≤ q9 + u)) (i := i) (decide_eq_false (by omega))).symm) hF21 (by omega) _ _ _ hP hD hS (lv_sub hl [3, 4, 5, 1, 0] rfl)
              · have hx74 : ¬ B + 1 + i + u < 60 + U := fun h => c_74 ((qB (by omega) (by omega) (by omega)).mpr h)
                refine lv_aload_n hx hb dX6_step_77 rfl (lv_at hl 2 rfl) ?_
                refine lv_dup hx hb dX6_step_78 rfl ?_
                refine g_get F hK hP inX6 0 rfl rfl 24 (by decide) gw_600 rfl (v := .double (zF (tCF z C2 F2) 0)) rfl dX6_step_79 ?_
                rw [show zF (tCF z C2 F2) 0 = acc FP.dadd (fun q9 => decide (w ≤ q9 + u)) (fun q9 => FP.dmul ((chN (pOf jp) (qOf jp) u d w zz n).1 q9) (qOf jp)) (chN (pOf jp) (qOf jp) u d w zz n).2.1 i from hF20]
                refine lv_dload hx hb dX6_step_82 (lv_at hl 1 rfl) ?_
                refine lv_dload_n hx hb dX6_step_84 rfl (lv_at hl 4 rfl) ?_
                refine lv_dmul hx hb dX6_step_85 (nQ i) ?_
                refine lv_dadd hx hb dX6_step_86 (nR i (by omega)) ?_
                refine g_put F hK hP hD hS inX6 tyX6_ok nmX6 0 rfl rfl 24 (by decide) gw_600 rfl rfl rfl rfl (Nat.le_of_ble_eq_true rfl) dX6_step_87 (fun H locs hP hD hS => ?_)
                have hP : va_P D vwCl (mW ad kA g (tF (tCF z C2 F2) 0 (FP.dadd (acc FP.dadd (fun q9 => decide (w ≤ q9 + u)) (fun q9 => FP.dmul ((chN (pOf jp) (qOf jp) u d w zz n).1 q9) (qOf jp)) (chN (pOf jp) (qOf jp) u d w zz n).2.1 i) (FP.dmul ((chN (pOf jp) (qOf jp) u d w zz n).1 i) (qOf jp))))) H := hP
                have hD : va_D A (mW ad kA g (tF (tCF z C2 F2) 0 (FP.dadd (acc FP.dadd (fun q9 => decide (w ≤ q9 + u)) (fun q9 => FP.dmul ((chN (pOf jp) (qOf jp) u d w zz n).1 q9) (qOf jp)) (chN (pOf jp) (qOf jp) u d w zz n).2.1 i) (FP.dmul ((chN (pOf jp) (qOf jp) u d w zz n).1 i) (qOf jp))))) := hD
                refine lv_goto (tgt := 115) hx hb dX6_step_90 (by decide) ?_
                have hM1 : MR B w (C2 1) (sUp FP.dadd (fun q9 => FP.dmul ((chN (pOf jp) (qOf jp) u d w zz n).1 q9) (qOf jp)) u w i (scat FP.dadd FP.dconst0 (fun q9 => FP.dmul ((chN (pOf jp) (qOf jp) u d w zz n).1 q9) (qOf jp)) (fun q9 => FP.dmul ((chN (pOf jp) (qOf jp) u d w zz n).1 q9) (pOf jp)) u d w i)) := MR_up0 hR2 (by omega)
                refine lv_iload hx hb dX6_step_115 (lv_at hl 5 rfl) ?_
                refine lv_aload_n hx hb dX6_step_117 rfl (lv_at hl 2 rfl) ?_
                refine g_get F hK hP inX6 0 rfl rfl 2 (by decide) gw_578 rfl (v := .int (gI g 1)) rfl dX6_step_118 ?_
                rw [pd]
                refine lv_isub hx hb dX6_step_121 ?_
                refine lv_aload_n hx hb dX6_step_122 rfl (lv_at hl 2 rfl) ?_
                refine g_get F hK hP inX6 0 rfl rfl 4 (by decide) gw_580 rfl (v := .int (gI g 3)) rfl dX6_step_123 ?_
                rw [pB]
                refine lv_icmp_le (tgt := 151) hx hb dX6_step_126 (by decide) (fun c_126 => ?_) (fun c_126 => ?_)
                · have hx126 := (qD (by omega) (by omega) (by omega)).mp c_126
                  refine lv_iinc (v := nI (B + 1 + (i + 1)) - 60) (lv' := [(7, .int (nI (B + 1 + (i + 1)) - 60)), (5, .double (acc FP.dadd (fun _ => true) (chN (pOf jp) (qOf jp) u d w zz n).1 FP.dconst0 (i + 1))), (8, .double ((chN (pOf jp) (qOf jp) u d w zz n).1 i)), (0, .ref (ad 0)), (1, .double (pOf jp)), (3, .double (qOf jp))]) hx hb dX6_step_151 hl (k := 5) rfl (s60 _) (by decide) rfl (fun ls hl => ?_)
                  refine lv_goto (tgt := 35) hx hb dX6_step_154 (by decide) ?_
                  have hM2 : MR B w (C2 1) (scat FP.dadd FP.dconst0 (fun q9 => FP.dmul ((chN (pOf jp) (qOf jp) u d w zz n).1 q9) (qOf jp)) (fun q9 => FP.dmul ((chN (pOf jp) (qOf jp) u d w zz n).1 q9) (pOf jp)) u d w (i + 1)) := MR_dn0 hM1 (by omega)
                  have hacc : FP.dadd (acc FP.dadd (fun q9 => decide (w ≤ q9 + u)) (fun q9 => FP.dmul ((chN (pOf jp) (qOf jp) u d w zz n).1 q9) (qOf jp)) (chN (pOf jp) (qOf jp) u d w zz n).2.1 i) (FP.dmul ((chN (pOf jp) (qOf jp) u d w zz n).1 i) (qOf jp)) = acc FP.dadd (fun q9 => decide (w ≤ q9 + u)) (fun q9 => FP.dmul ((chN (pOf jp) (qOf jp) u d w zz n).1 q9) (qOf jp)) (chN (pOf jp) (qOf jp) u d w zz n).2.1 (i + 1) := (acc_t (add := FP.dadd) (v := (fun q9 => FP.dmul ((chN (pOf jp) (qOf jp) u d w zz n).1 q9) (qOf jp))) (x0 := (chN (pOf jp) (qOf jp) u d w zz n).2.1) (c := fun q9 => decide (w ≤ q9 + u)) (i := i) (decide_eq_true (by omega))).symm
                  exact ih_35  (i + 1) C2 (vf_upd F2 0 (FP.dadd (acc FP.dadd (fun q9 => decide (w ≤ q9 + u)) (fun q9 => FP.dmul ((chN (pOf jp) (qOf jp) u d w zz n).1 q9) (qOf jp)) (chN (pOf jp) (qOf jp) u d w zz n).2.1 i) (FP.dmul ((chN (pOf jp) (qOf jp) u d w zz n).1 i) (qOf jp)))) (by omega) h02 hM2 hacc hF21 (by omega) _ _ _ hP hD hS (lv_sub hl [3, 4, 5, 1, 0] rfl)
                · have hx126 : ¬ B + 1 + i ≤ B + d := fun h => c_126 ((qD (by omega) (by omega) (by omega)).mpr h)
                  refine lv_aload_n hx hb dX6_step_129 rfl (lv_at hl 2 rfl) ?_
                  refine g_get F hK hP inX6 0 rfl rfl 23 (by decide) gw_599 rfl (v := .ref (ad 14)) rfl dX6_step_130 ?_
                  refine lv_bipush (v := 60) hx hb dX6_step_133 (by decide) ?_
                  refine lv_iload hx hb dX6_step_135 (lv_at hl 5 rfl) ?_
                  refine lv_iadd hx hb dX6_step_137 ?_
                  rw [e60]
                  refine lv_aload_n hx hb dX6_step_138 rfl (lv_at hl 2 rfl) ?_
                  refine g_get F hK hP inX6 0 rfl rfl 2 (by decide) gw_578 rfl (v := .int (gI g 1)) rfl dX6_step_139 ?_
                  rw [pd]
                  refine n_sub F (a := B + 1 + i) (b := d) dX6_step_142 (by omega) ?_
                  refine lv_dup2_11 hx hb dX6_step_143 rfl rfl ?_
                  refine a_dld F hK hP 14 (f := zC (tCF z C2 F2) 1) rfl (j := (B + 1 + i) - d) (by omega) (by decide) dX6_step_144 ?_
                  rw [show (zC (tCF z C2 F2) 1 ((B + 1 + i) - d)) = (sUp FP.dadd (fun q9 => FP.dmul ((chN (pOf jp) (qOf jp) u d w zz n).1 q9) (qOf jp)) u w i (scat FP.dadd FP.dconst0 (fun q9 => FP.dmul ((chN (pOf jp) (qOf jp) u d w zz n).1 q9) (qOf jp)) (fun q9 => FP.dmul ((chN (pOf jp) (qOf jp) u d w zz n).1 q9) (pOf jp)) u d w i) (i - d)) from (by rw [show B + 1 + i - d = B + 1 + (i - d) by omega]; exact hM1 (i - d) (by omega))]
                  refine lv_dload hx hb dX6_step_145 (lv_at hl 1 rfl) ?_
                  refine lv_dload_n hx hb dX6_step_147 rfl (lv_at hl 3 rfl) ?_
                  refine lv_dmul hx hb dX6_step_148 (nP i) ?_
                  refine lv_dadd hx hb dX6_step_149 (nD i (by omega) (i - d)) ?_
                  refine a_dst F hK hP hD hS 14 (f := zC (tCF z C2 F2) 1) rfl (j := (B + 1 + i) - d) (by omega) (by decide) dX6_step_150 (fun H locs hP hD hS => ?_)
                  have hP : va_P D vwCl (mW ad kA g (tC (tF (tCF z C2 F2) 0 (FP.dadd (acc FP.dadd (fun q9 => decide (w ≤ q9 + u)) (fun q9 => FP.dmul ((chN (pOf jp) (qOf jp) u d w zz n).1 q9) (qOf jp)) (chN (pOf jp) (qOf jp) u d w zz n).2.1 i) (FP.dmul ((chN (pOf jp) (qOf jp) u d w zz n).1 i) (qOf jp)))) 1 (vf_upd (zC (tCF z C2 F2) 1) ((B + 1 + i) - d) (FP.dadd (sUp FP.dadd (fun q9 => FP.dmul ((chN (pOf jp) (qOf jp) u d w zz n).1 q9) (qOf jp)) u w i (scat FP.dadd FP.dconst0 (fun q9 => FP.dmul ((chN (pOf jp) (qOf jp) u d w zz n).1 q9) (qOf jp)) (fun q9 => FP.dmul ((chN (pOf jp) (qOf jp) u d w zz n).1 q9) (pOf jp)) u d w i) (i - d)) (FP.dmul ((chN (pOf jp) (qOf jp) u d w zz n).1 i) (pOf jp)))))) H := hP
                  have hD : va_D A (mW ad kA g (tC (tF (tCF z C2 F2) 0 (FP.dadd (acc FP.dadd (fun q9 => decide (w ≤ q9 + u)) (fun q9 => FP.dmul ((chN (pOf jp) (qOf jp) u d w zz n).1 q9) (qOf jp)) (chN (pOf jp) (qOf jp) u d w zz n).2.1 i) (FP.dmul ((chN (pOf jp) (qOf jp) u d w zz n).1 i) (qOf jp)))) 1 (vf_upd (zC (tCF z C2 F2) 1) ((B + 1 + i) - d) (FP.dadd (sUp FP.dadd (fun q9 => FP.dmul ((chN (pOf jp) (qOf jp) u d w zz n).1 q9) (qOf jp)) u w i (scat FP.dadd FP.dconst0 (fun q9 => FP.dmul ((chN (pOf jp) (qOf jp) u d w zz n).1 q9) (qOf jp)) (fun q9 => FP.dmul ((chN (pOf jp) (qOf jp) u d w zz n).1 q9) (pOf jp)) u d w i) (i - d)) (FP.dmul ((chN (pOf jp) (qOf jp) u d w zz n).1 i) (pOf jp)))))) := hD
                  refine lv_iinc (v := nI (B + 1 + (i + 1)) - 60) (lv' := [(7, .int (nI (B + 1 + (i + 1)) - 60)), (5, .double (acc FP.dadd (fun _ => true) (chN (pOf jp) (qOf jp) u d w zz n).1 FP.dconst0 (i + 1))), (8, .double ((chN (pOf jp) (qOf jp) u d w zz n).1 i)), (0, .ref (ad 0)), (1, .double (pOf jp)), (3, .double (qOf jp))]) hx hb dX6_step_151 hl (k := 5) rfl (s60 _) (by decide) rfl (fun ls hl => ?_)
                  refine lv_goto (tgt := 35) hx hb dX6_step_154 (by decide) ?_
                  have hM2 : MR B w (vf_upd (C2 1) (B + 1 + i - d) (FP.dadd (sUp FP.dadd (fun q9 => FP.dmul ((chN (pOf jp) (qOf jp) u d w zz n).1 q9) (qOf jp)) u w i (scat FP.dadd FP.dconst0 (fun q9 => FP.dmul ((chN (pOf jp) (qOf jp) u d w zz n).1 q9) (qOf jp)) (fun q9 => FP.dmul ((chN (pOf jp) (qOf jp) u d w zz n).1 q9) (pOf jp)) u d w i) (i - d)) (FP.dmul ((chN (pOf jp) (qOf jp) u d w zz n).1 i) (pOf jp)))) (scat FP.dadd FP.dconst0 (fun q9 => FP.dmul ((chN (pOf jp) (qOf jp) u d w zz n).1 q9) (qOf jp)) (fun q9 => FP.dmul ((chN (pOf jp) (qOf jp) u d w zz n).1 q9) (pOf jp)) u d w (i + 1)) := MR_dnx hM1 (by omega) (by omega) rfl
                  have hacc : FP.dadd (acc FP.dadd (fun q9 => decide (w ≤ q9 + u)) (fun q9 => FP.dmul ((chN (pOf jp) (qOf jp) u d w zz n).1 q9) (qOf jp)) (chN (pOf jp) (qOf jp) u d w zz n).2.1 i) (FP.dmul ((chN (pOf jp) (qOf jp) u d w zz n).1 i) (qOf jp)) = acc FP.dadd (fun q9 => decide (w ≤ q9 + u)) (fun q9 => FP.dmul ((chN (pOf jp) (qOf jp) u d w zz n).1 q9) (qOf jp)) (chN (pOf jp) (qOf jp) u d w zz n).2.1 (i + 1) := (acc_t (add := FP.dadd) (v := (fun q9 => FP.dmul ((chN (pOf jp) (qOf jp) u d w zz n).1 q9) (qOf jp))) (x0 := (chN (pOf jp) (qOf jp) u d w zz n).2.1) (c := fun q9 => decide (w ≤ q9 + u)) (i := i) (decide_eq_true (by omega))).symm
                  exact ih_35  (i + 1) (vf_upd C2 1 (vf_upd (C2 1) (B + 1 + i - d) (FP.dadd (sUp FP.dadd (fun q9 => FP.dmul ((chN (pOf jp) (qOf jp) u d w zz n).1 q9) (qOf jp)) u w i (scat FP.dadd FP.dconst0 (fun q9 => FP.dmul ((chN (pOf jp) (qOf jp) u d w zz n).1 q9) (qOf jp)) (fun q9 => FP.dmul ((chN (pOf jp) (qOf jp) u d w zz n).1 q9) (pOf jp)) u d w i) (i - d)) (FP.dmul ((chN (pOf jp) (qOf jp) u d w zz n).1 i) (pOf jp))))) (vf_upd F2 0 (FP.dadd (acc FP.dadd (fun q9 => decide (w ≤ q9 + u)) (fun q9 => FP.dmul ((chN (pOf jp) (qOf jp) u d w zz n).1 q9) (qOf jp)) (chN (pOf jp) (qOf jp) u d w zz n).2.1 i) (FP.dmul ((chN (pOf jp) (qOf jp) u d w zz n).1 i) (qOf jp)))) (by omega) h02 hM2 hacc hF21 (by omega) _ _ _ hP hD hS (lv_sub hl [3, 4, 5, 1, 0] rfl)
        exact lp_35 _ 0 C (zF z) (Nat.zero_le _) h0 (fun i hi => hZ _ (by omega)) hF0 rfl (Nat.lt_succ_self _) _ _ _ hP hD hS (lv_sub hl [1, 2, 3, 4, 0] rfl)
      · refine lv_aload_n hx hb dX6_step_13 rfl (lv_at hl 0 rfl) ?_
        refine g_get F hK hP inX6 0 rfl rfl 23 (by decide) gw_599 rfl (v := .ref (ad 14)) rfl dX6_step_14 ?_
        refine lv_iload hx hb dX6_step_17 (lv_at hl 4 rfl) ?_
        refine lv_dconst0 hx hb dX6_step_19 ?_
        refine a_dst F hK hP hD hS 14 (f := zC (tCF z C (zF z)) 1) rfl (j := k) (by omega) (by decide) dX6_step_20 (fun H locs hP hD hS => ?_)
        have hP : va_P D vwCl (mW ad kA g (tC (tCF z C (zF z)) 1 (vf_upd (zC (tCF z C (zF z)) 1) k FP.dconst0))) H := hP
        have hD : va_D A (mW ad kA g (tC (tCF z C (zF z)) 1 (vf_upd (zC (tCF z C (zF z)) 1) k FP.dconst0))) := hD
        refine lv_iinc (v := nI (k + 1)) (lv' := [(7, .int (nI (k + 1))), (0, .ref (ad 0)), (1, .double (pOf jp)), (3, .double (qOf jp)), (5, .double FP.dconst0)]) hx hb dX6_step_21 hl (k := 4) rfl (nI_add k 1) (by decide) rfl (fun ls hl => ?_)
        refine lv_goto (tgt := 6) hx hb dX6_step_24 (by decide) ?_
        exact ih_6  (k + 1) (vf_upd C 1 (vf_upd (C 1) k FP.dconst0)) (by omega) h0 (up_lt (f := C 1) (k := k) (x := FP.dconst0) (h := fun _ => FP.dconst0) hZ rfl) (by omega) _ _ _ hP hD hS (lv_sub hl [1, 2, 3, 4, 0] rfl)
  exact lp_6 _ 0 (zC z) (Nat.zero_le _) rfl (fun j hj => absurd hj (Nat.not_lt_zero _)) (Nat.lt_succ_self _) _ _ _ hP hD hS (lv_sub hl [2, 3, 4, 1, 0] rfl)

set_option maxRecDepth 100000 in
set_option maxHeartbeats 4000000 in
theorem kX6_layChances (l : Launch) (D : va_G) (kA : Nat → ClassId) (sz : Nat) (ad : Nat → Nat) (g : Sg) (z : Zm) (jp n u d U B w zz : Nat) (hj : jp ≤ 100) (hn : n ≤ 60) (hp : Par g u d U B) (hw0 : w = 59 + U - B) (hzz : zz = 59 - B) : CtV l yX6_layChances cX6_layChances 8 1 0 0 D kA sz (mW ad kA g z) [.ref (ad 0), .int (nI jp), .int (nI n)] (fun uu => ∃ C F, F 0 = (chN (pOf jp) (qOf jp) u d w zz n).2.1 ∧ F 1 = (chN (pOf jp) (qOf jp) u d w zz n).2.2 ∧ uu = mW ad kA g (tCF z C F)) := by
  refine ct_v (own := RX6) (by decide) rfl (Nat.le_of_ble_eq_true rfl) ?_
  intro p_ e_ s_ m_ ar_ bw_ me_ co_ A ls Q F hnm hK hA hP hD hS hl hsz rt
  have hx := F.1
  have hb := F.2.1
  have hl : lv_has ls 8 [(0, .ref (ad 0)), (1, .int (nI jp)), (2, .int (nI n))] := hl
  have hP : va_P D vwCl (mW ad kA g z) s_.heap := hP
  obtain ⟨pu, pd, pU, pB, ⟨hu1, hu2⟩, ⟨hd1, hd2⟩, ⟨hU1, hU2⟩, hB⟩ := id hp
  refine lv_iload_n hx hb dX6_layChances_0 rfl (lv_at hl 1 rfl) ?_
  refine lv_i2d hx hb dX6_layChances_1 ?_
  refine lv_ldc2d (v := 4636737291354636288) hx hb F.2.2.2.1 (F.2.2.2.2 _ gw_841) dX6_layChances_2 ?_
  refine lv_ddiv hx hb dX6_layChances_5 (pOf_ok hj).n64 ?_
  rw [show FP.ddiv (FP.i2d (nI jp)) 4636737291354636288 = pOf jp from rfl]
  refine lv_dstore_n (lv' := [(3, .double (pOf jp)), (0, .ref (ad 0)), (1, .int (nI jp)), (2, .int (nI n))]) hx hb dX6_layChances_6 rfl hl (by decide) rfl (fun ls hl => ?_)
  refine lv_dconst1 hx hb dX6_layChances_7 ?_
  refine lv_dload_n hx hb dX6_layChances_8 rfl (lv_at hl 0 rfl) ?_
  refine lv_dsub hx hb dX6_layChances_9 (qOf_ok hj).n64 ?_
  rw [show FP.dsub FP.dconst1 (pOf jp) = qOf jp from rfl]
  refine lv_dstore (lv' := [(5, .double (qOf jp)), (3, .double (pOf jp)), (0, .ref (ad 0)), (1, .int (nI jp)), (2, .int (nI n))]) hx hb dX6_layChances_10 hl (by decide) rfl (fun ls hl => ?_)
  refine lv_iconst (v := 0) hx hb dX6_layChances_12 (by decide) ?_
  refine lv_istore (lv' := [(7, .int 0), (5, .double (qOf jp)), (3, .double (pOf jp)), (0, .ref (ad 0)), (1, .int (nI jp)), (2, .int (nI n))]) hx hb dX6_layChances_13 hl (by decide) rfl (fun ls hl => ?_)
  have lp_15 : ∀ (n_15 : Nat) (k : Nat) (C : Nat → Nat → UInt64), (k ≤ 121) → (∀ j, j < k → C 0 j = if j = 60 then FP.dconst1 else FP.dconst0) → (121 - k) < n_15 → ∀ (H : Heap) (locs : List Loc) (ls : Array Slot), va_P D vwCl (mW ad kA g (tCF z C (zF z))) H → va_D A (mW ad kA g (tCF z C (zF z))) → va_S A s_.heap H locs → lv_has ls 8 [(0, .ref (ad 0)), (1, .int (nI jp)), (2, .int (nI n)), (3, .double (pOf jp)), (5, .double (qOf jp)), (7, .int (nI k))] → W p_ l e_ (rmC 1 0 0) s_ m_ ar_ bw_ me_ co_ H locs 0 0 Q (F0 m_ 15 ls []) := by
    intro n_15
    induction n_15 with
    | zero =>
      intro k C hk hC hm_15
      exact absurd hm_15 (Nat.not_lt_zero _)
    | succ n_15 ih_15 =>
      intro k C hk hC hm_15 H locs ls hP hD hS hl
      refine lv_iload hx hb dX6_layChances_15 (lv_at hl 5 rfl) ?_
      refine lv_bipush (v := 121) hx hb dX6_layChances_17 (by decide) ?_
      refine b_ge F (a := k) (b := 121) (tgt := 47) dX6_layChances_19 (by decide) (by omega) (by omega) (fun c_19 => ?_) (fun c_19 => ?_)
      · refine lv_aload_n hx hb dX6_layChances_47 rfl (lv_at hl 0 rfl) ?_
        refine lv_dconst0 hx hb dX6_layChances_48 ?_
        refine g_put F hK hP hD hS inX6 tyX6_ok nmX6 0 rfl rfl 24 (by decide) gw_600 rfl rfl rfl rfl (Nat.le_of_ble_eq_true rfl) dX6_layChances_49 (fun H locs hP hD hS => ?_)
        have hP : va_P D vwCl (mW ad kA g (tF (tCF z C (zF z)) 0 FP.dconst0)) H := hP
        have hD : va_D A (mW ad kA g (tF (tCF z C (zF z)) 0 FP.dconst0)) := hD
        refine lv_aload_n hx hb dX6_layChances_52 rfl (lv_at hl 0 rfl) ?_
        refine lv_dconst0 hx hb dX6_layChances_53 ?_
        refine g_put F hK hP hD hS inX6 tyX6_ok nmX6 0 rfl rfl 25 (by decide) gw_601 rfl rfl rfl rfl (Nat.le_of_ble_eq_true rfl) dX6_layChances_54 (fun H locs hP hD hS => ?_)
        have hP : va_P D vwCl (mW ad kA g (tF (tF (tCF z C (zF z)) 0 FP.dconst0) 1 FP.dconst0)) H := hP
        have hD : va_D A (mW ad kA g (tF (tF (tCF z C (zF z)) 0 FP.dconst0) 1 FP.dconst0)) := hD
        refine lv_iconst (v := 0) hx hb dX6_layChances_57 (by decide) ?_
        refine lv_istore (lv' := [(7, .int 0), (0, .ref (ad 0)), (1, .int (nI jp)), (2, .int (nI n)), (3, .double (pOf jp)), (5, .double (qOf jp))]) hx hb dX6_layChances_58 hl (by decide) rfl (fun ls hl => ?_)
        have lp_60 : ∀ (n_60 : Nat) (n1 : Nat) (C1 : Nat → Nat → UInt64) (F1 : Nat → UInt64), (n1 ≤ n) → (MR B w (C1 0) (chN (pOf jp) (qOf jp) u d w zz n1).1) → (F1 0 = (chN (pOf jp) (qOf jp) u d w zz n1).2.1) → (F1 1 = (chN (pOf jp) (qOf jp) u d w zz n1).2.2) → (n - n1) < n_60 → ∀ (H : Heap) (locs : List Loc) (ls : Array Slot), va_P D vwCl (mW ad kA g (tCF z C1 F1)) H → va_D A (mW ad kA g (tCF z C1 F1)) → va_S A s_.heap H locs → lv_has ls 8 [(0, .ref (ad 0)), (1, .int (nI jp)), (2, .int (nI n)), (3, .double (pOf jp)), (5, .double (qOf jp)), (7, .int (nI n1))] → W p_ l e_ (rmC 1 0 0) s_ m_ ar_ bw_ me_ co_ H locs 0 0 Q (F0 m_ 60 ls []) := by
          intro n_60
          induction n_60 with
          | zero =>
            intro n1 C1 F1 hn1 hR hF0 hF1 hm_60
            exact absurd hm_60 (Nat.not_lt_zero _)
          | succ n_60 ih_60 =>
            intro n1 C1 F1 hn1 hR hF0 hF1 hm_60 H locs ls hP hD hS hl
            refine lv_iload hx hb dX6_layChances_60 (lv_at hl 5 rfl) ?_
            refine lv_iload_n hx hb dX6_layChances_62 rfl (lv_at hl 2 rfl) ?_
            refine b_ge F (a := n1) (b := n) (tgt := 79) dX6_layChances_63 (by decide) (by omega) (by omega) (fun c_63 => ?_) (fun c_63 => ?_)
            · obtain rfl : n = n1 := by omega
              exact rt (mW ad kA g (tCF z C1 F1)) _ _ _ _ hP hD hS dX6_layChances_79 (⟨C1, F1, hF0, hF1, rfl⟩)
            · refine lv_aload_n hx hb dX6_layChances_66 rfl (lv_at hl 0 rfl) ?_
              refine lv_dload_n hx hb dX6_layChances_67 rfl (lv_at hl 3 rfl) ?_
              refine lv_dload hx hb dX6_layChances_68 (lv_at hl 4 rfl) ?_
              refine cl_V_v (wc := (mW ad kA g (tCF z C1 F1))) (As := [.double (pOf jp), .double (qOf jp)]) (rest := []) (b := (ad 0)) (C := RX6) F hK hP hD hS hA (kX6_step l D kA _ ad g (tCF z C1 F1) jp u d U B w zz n1 hj hp hw0 hzz (by omega) hR hF0 hF1) gw_845 gw_71 gw_842 gw_844 gw_61 (va_recv hK.1 hP (ci := 6) (q0 := 0) rfl rfl) hdX6_step ⟨Nat.le_of_ble_eq_true rfl, Nat.le_of_ble_eq_true rfl⟩ hl.1 rfl (Nat.le_of_ble_eq_true rfl) dX6_layChances_70 ⟨Nat.le_of_ble_eq_true rfl, Nat.le_of_ble_eq_true rfl⟩ (fun u_70 H locs hw hP1 hD1 hk1 hFc hS => ?_)
              obtain ⟨C2, F2, hR2, hF20, hF21, rfl⟩ := hw
              have hP : va_P D vwCl (mW ad kA g (tCF z C2 F2)) H := hP1
              have hD : va_D A (mW ad kA g (tCF z C2 F2)) := hD1.weaken (fun _ _ _ h => hFc _ h)
              refine lv_iinc (v := nI (n1 + 1)) (lv' := [(7, .int (nI (n1 + 1))), (0, .ref (ad 0)), (1, .int (nI jp)), (2, .int (nI n)), (3, .double (pOf jp)), (5, .double (qOf jp))]) hx hb dX6_layChances_73 hl (k := 5) rfl (nI_add n1 1) (by decide) rfl (fun ls hl => ?_)
              refine lv_goto (tgt := 60) hx hb dX6_layChances_76 (by decide) ?_
              exact ih_60  (n1 + 1) C2 F2 (by omega) hR2 hF20 hF21 (by omega) _ _ _ hP hD hS (lv_sub hl [1, 2, 3, 4, 5, 0] rfl)
        exact lp_60 _ 0 C (vf_upd (vf_upd (zF z) 0 FP.dconst0) 1 FP.dconst0) (Nat.zero_le _) (fun i hi => by rw [hC _ (by omega)]; show (if B + 1 + i = 60 then FP.dconst1 else FP.dconst0) = if i = zz then FP.dconst1 else FP.dconst0; simp only [show (B + 1 + i = 60) = (i = zz) from propext ⟨by omega, by omega⟩]) rfl rfl (Nat.lt_succ_self _) _ _ _ hP hD hS (lv_sub hl [1, 2, 3, 4, 5, 0] rfl)
      · refine lv_aload_n hx hb dX6_layChances_22 rfl (lv_at hl 0 rfl) ?_
        refine g_get F hK hP inX6 0 rfl rfl 22 (by decide) gw_598 rfl (v := .ref (ad 13)) rfl dX6_layChances_23 ?_
        refine lv_iload hx hb dX6_layChances_26 (lv_at hl 5 rfl) ?_
        refine lv_iload hx hb dX6_layChances_28 (lv_at hl 5 rfl) ?_
        refine lv_bipush (v := 60) hx hb dX6_layChances_30 (by decide) ?_
        refine b_ne F (a := k) (b := 60) (tgt := 39) dX6_layChances_32 (by decide) (by omega) (by omega) (fun c_32 => ?_) (fun c_32 => ?_)
        · refine lv_dconst0 hx hb dX6_layChances_39 ?_
          refine a_dst F hK hP hD hS 13 (f := zC (tCF z C (zF z)) 0) rfl (j := k) (by omega) (by decide) dX6_layChances_40 (fun H locs hP hD hS => ?_)
          have hP : va_P D vwCl (mW ad kA g (tC (tCF z C (zF z)) 0 (vf_upd (zC (tCF z C (zF z)) 0) k FP.dconst0))) H := hP
          have hD : va_D A (mW ad kA g (tC (tCF z C (zF z)) 0 (vf_upd (zC (tCF z C (zF z)) 0) k FP.dconst0))) := hD
          refine lv_iinc (v := nI (k + 1)) (lv' := [(7, .int (nI (k + 1))), (0, .ref (ad 0)), (1, .int (nI jp)), (2, .int (nI n)), (3, .double (pOf jp)), (5, .double (qOf jp))]) hx hb dX6_layChances_41 hl (k := 5) rfl (nI_add k 1) (by decide) rfl (fun ls hl => ?_)
          refine lv_goto (tgt := 15) hx hb dX6_layChances_44 (by decide) ?_
          exact ih_15  (k + 1) (vf_upd C 0 (vf_upd (C 0) k FP.dconst0)) (by omega) (up_lt (f := C 0) (k := k) (x := FP.dconst0) (h := fun j => if j = 60 then FP.dconst1 else FP.dconst0) hC (by rw [if_neg c_32])) (by omega) _ _ _ hP hD hS (lv_sub hl [1, 2, 3, 4, 5, 0] rfl)
        · refine lv_dconst1 hx hb dX6_layChances_35 ?_
          refine lv_goto (tgt := 40) hx hb dX6_layChances_36 (by decide) ?_
          refine a_dst F hK hP hD hS 13 (f := zC (tCF z C (zF z)) 0) rfl (j := k) (by omega) (by decide) dX6_layChances_40 (fun H locs hP hD hS => ?_)
          have hP : va_P D vwCl (mW ad kA g (tC (tCF z C (zF z)) 0 (vf_upd (zC (tCF z C (zF z)) 0) k FP.dconst1))) H := hP
          have hD : va_D A (mW ad kA g (tC (tCF z C (zF z)) 0 (vf_upd (zC (tCF z C (zF z)) 0) k FP.dconst1))) := hD
          refine lv_iinc (v := nI (k + 1)) (lv' := [(7, .int (nI (k + 1))), (0, .ref (ad 0)), (1, .int (nI jp)), (2, .int (nI n)), (3, .double (pOf jp)), (5, .double (qOf jp))]) hx hb dX6_layChances_41 hl (k := 5) rfl (nI_add k 1) (by decide) rfl (fun ls hl => ?_)
          refine lv_goto (tgt := 15) hx hb dX6_layChances_44 (by decide) ?_
          exact ih_15  (k + 1) (vf_upd C 0 (vf_upd (C 0) k FP.dconst1)) (by omega) (up_lt (f := C 0) (k := k) (x := FP.dconst1) (h := fun j => if j = 60 then FP.dconst1 else FP.dconst0) hC (by rw [if_pos c_32])) (by omega) _ _ _ hP hD hS (lv_sub hl [1, 2, 3, 4, 5, 0] rfl)
  exact lp_15 _ 0 (zC z) (Nat.zero_le _) (fun j hj => absurd hj (Nat.not_lt_zero _)) (Nat.lt_succ_self _) _ _ _ hP hD hS (lv_sub hl [3, 4, 5, 2, 1, 0] rfl)

set_option maxRecDepth 100000 in
set_option maxHeartbeats 4000000 in
theorem kX6_scannedBits (l : Launch) (D : va_G) (kA : Nat → ClassId) (sz : Nat) (ad : Nat → Nat) (g : Sg) (z : Zm) (jp n u d U B w zz : Nat) (hj : jp ≤ 100) (hn : n ≤ 60) (hp : Par g u d U B) (hw0 : w = 59 + U - B) (hzz : zz = 59 - B) : CtL l yX6_scannedBits cX6_scannedBits 3 .long 2 D kA sz (mW ad kA g z) [.ref (ad 0), .int (nI jp), .int (nI n)] (fun r uu => r = (chN (pOf jp) (qOf jp) u d w zz n).2.1.toInt64 ∧ ∃ C F, uu = mW ad kA g (tCF z C F)) := by
  refine ct_l (own := RX6) (by decide) rfl (Nat.le_of_ble_eq_true rfl) ?_
  intro p_ e_ s_ m_ ar_ bw_ me_ co_ A ls Q F hnm hK hA hP hD hS hl hsz rt
  have hx := F.1
  have hb := F.2.1
  have hl : lv_has ls 3 [(0, .ref (ad 0)), (1, .int (nI jp)), (2, .int (nI n))] := hl
  have hP : va_P D vwCl (mW ad kA g z) s_.heap := hP
  obtain ⟨pu, pd, pU, pB, ⟨hu1, hu2⟩, ⟨hd1, hd2⟩, ⟨hU1, hU2⟩, hB⟩ := id hp
  refine lv_aload_n hx hb dX6_scannedBits_0 rfl (lv_at hl 0 rfl) ?_
  refine lv_iload_n hx hb dX6_scannedBits_1 rfl (lv_at hl 1 rfl) ?_
  refine lv_iload_n hx hb dX6_scannedBits_2 rfl (lv_at hl 2 rfl) ?_
  refine cl_V_v (wc := (mW ad kA g z)) (As := [.int (nI jp), .int (nI n)]) (rest := []) (b := (ad 0)) (C := RX6) F hK hP hD hS hA (kX6_layChances l D kA _ ad g z jp n u d U B w zz hj hn hp hw0 hzz) gw_840 gw_71 gw_837 gw_839 gw_60 (va_recv hK.1 hP (ci := 6) (q0 := 0) rfl rfl) hdX6_layChances ⟨Nat.le_of_ble_eq_true rfl, Nat.le_of_ble_eq_true rfl⟩ hl.1 rfl (Nat.le_of_ble_eq_true rfl) dX6_scannedBits_3 ⟨Nat.le_of_ble_eq_true rfl, Nat.le_of_ble_eq_true rfl⟩ (fun u_3 H locs hw hP1 hD1 hk1 hFc hS => ?_)
  obtain ⟨C1, F1, hF0, hF1, rfl⟩ := hw
  have hP : va_P D vwCl (mW ad kA g (tCF z C1 F1)) H := hP1
  have hD : va_D A (mW ad kA g (tCF z C1 F1)) := hD1.weaken (fun _ _ _ h => hFc _ h)
  refine lv_aload_n hx hb dX6_scannedBits_6 rfl (lv_at hl 0 rfl) ?_
  refine g_get F hK hP inX6 0 rfl rfl 24 (by decide) gw_600 rfl (v := .double (zF (tCF z C1 F1) 0)) rfl dX6_scannedBits_7 ?_
  rw [show zF (tCF z C1 F1) 0 = (chN (pOf jp) (qOf jp) u d w zz n).2.1 from hF0]
  refine cl_S_l (wc := []) (As := [.double ((chN (pOf jp) (qOf jp) u d w zz n).2.1)]) (rest := []) F hK P_nil D_nil hS hA (kJxe99ae_doubleToLongBits_ccdee l D kA _ ((chN (pOf jp) (qOf jp) u d w zz n).2.1) 654 (119 * n) 1554 (ok_chN (u := u) (d := d) (w := w) (z := zz) (pOf_ok hj) (qOf_ok hj) (by omega) n hn).2.1) gw_848 gw_75 gw_846 gw_847 hdJxe99ae_doubleToLongBits_ccdee ⟨Nat.le_of_ble_eq_true rfl, Nat.le_of_ble_eq_true rfl⟩ hl.1 rfl (Nat.le_of_ble_eq_true rfl) dX6_scannedBits_10 ⟨Nat.le_of_ble_eq_true rfl, Nat.le_of_ble_eq_true rfl⟩ (fun r_10 u_10 H locs hw hP1 hD1 hk1 hFc hS => ?_)
  obtain ⟨rfl, rfl⟩ := hw
  have hP := hp_non hP hk1
  exact rt _ (mW ad kA g (tCF z C1 F1)) _ _ _ _ hP hD hS dX6_scannedBits_13 (⟨rfl, C1, F1, rfl⟩)

set_option maxRecDepth 100000 in
set_option maxHeartbeats 4000000 in
theorem kX6_awaitedBits (l : Launch) (D : va_G) (kA : Nat → ClassId) (sz : Nat) (ad : Nat → Nat) (g : Sg) (z : Zm) (jp n u d U B w zz : Nat) (hj : jp ≤ 100) (hn : n ≤ 60) (hp : Par g u d U B) (hw0 : w = 59 + U - B) (hzz : zz = 59 - B) : CtL l yX6_awaitedBits cX6_awaitedBits 3 .long 2 D kA sz (mW ad kA g z) [.ref (ad 0), .int (nI jp), .int (nI n)] (fun r uu => r = (chN (pOf jp) (qOf jp) u d w zz n).2.2.toInt64 ∧ ∃ C F, uu = mW ad kA g (tCF z C F)) := by
  refine ct_l (own := RX6) (by decide) rfl (Nat.le_of_ble_eq_true rfl) ?_
  intro p_ e_ s_ m_ ar_ bw_ me_ co_ A ls Q F hnm hK hA hP hD hS hl hsz rt
  have hx := F.1
  have hb := F.2.1
  have hl : lv_has ls 3 [(0, .ref (ad 0)), (1, .int (nI jp)), (2, .int (nI n))] := hl
  have hP : va_P D vwCl (mW ad kA g z) s_.heap := hP
  obtain ⟨pu, pd, pU, pB, ⟨hu1, hu2⟩, ⟨hd1, hd2⟩, ⟨hU1, hU2⟩, hB⟩ := id hp
  refine lv_aload_n hx hb dX6_awaitedBits_0 rfl (lv_at hl 0 rfl) ?_
  refine lv_iload_n hx hb dX6_awaitedBits_1 rfl (lv_at hl 1 rfl) ?_
  refine lv_iload_n hx hb dX6_awaitedBits_2 rfl (lv_at hl 2 rfl) ?_
  refine cl_V_v (wc := (mW ad kA g z)) (As := [.int (nI jp), .int (nI n)]) (rest := []) (b := (ad 0)) (C := RX6) F hK hP hD hS hA (kX6_layChances l D kA _ ad g z jp n u d U B w zz hj hn hp hw0 hzz) gw_840 gw_71 gw_837 gw_839 gw_60 (va_recv hK.1 hP (ci := 6) (q0 := 0) rfl rfl) hdX6_layChances ⟨Nat.le_of_ble_eq_true rfl, Nat.le_of_ble_eq_true rfl⟩ hl.1 rfl (Nat.le_of_ble_eq_true rfl) dX6_awaitedBits_3 ⟨Nat.le_of_ble_eq_true rfl, Nat.le_of_ble_eq_true rfl⟩ (fun u_3 H locs hw hP1 hD1 hk1 hFc hS => ?_)
  obtain ⟨C1, F1, hF0, hF1, rfl⟩ := hw
  have hP : va_P D vwCl (mW ad kA g (tCF z C1 F1)) H := hP1
  have hD : va_D A (mW ad kA g (tCF z C1 F1)) := hD1.weaken (fun _ _ _ h => hFc _ h)
  refine lv_aload_n hx hb dX6_awaitedBits_6 rfl (lv_at hl 0 rfl) ?_
  refine g_get F hK hP inX6 0 rfl rfl 25 (by decide) gw_601 rfl (v := .double (zF (tCF z C1 F1) 1)) rfl dX6_awaitedBits_7 ?_
  rw [show zF (tCF z C1 F1) 1 = (chN (pOf jp) (qOf jp) u d w zz n).2.2 from hF1]
  refine cl_S_l (wc := []) (As := [.double ((chN (pOf jp) (qOf jp) u d w zz n).2.2)]) (rest := []) F hK P_nil D_nil hS hA (kJxe99ae_doubleToLongBits_ccdee l D kA _ ((chN (pOf jp) (qOf jp) u d w zz n).2.2) 654 (119 * n) 1554 (ok_chN (u := u) (d := d) (w := w) (z := zz) (pOf_ok hj) (qOf_ok hj) (by omega) n hn).2.2) gw_848 gw_75 gw_846 gw_847 hdJxe99ae_doubleToLongBits_ccdee ⟨Nat.le_of_ble_eq_true rfl, Nat.le_of_ble_eq_true rfl⟩ hl.1 rfl (Nat.le_of_ble_eq_true rfl) dX6_awaitedBits_10 ⟨Nat.le_of_ble_eq_true rfl, Nat.le_of_ble_eq_true rfl⟩ (fun r_10 u_10 H locs hw hP1 hD1 hk1 hFc hS => ?_)
  obtain ⟨rfl, rfl⟩ := hw
  have hP := hp_non hP hk1
  exact rt _ (mW ad kA g (tCF z C1 F1)) _ _ _ _ hP hD hS dX6_awaitedBits_13 (⟨rfl, C1, F1, rfl⟩)

set_option maxRecDepth 100000 in
set_option maxHeartbeats 4000000 in
theorem kX6_scannerProbability (l : Launch) (D : va_G) (kA : Nat → ClassId) (sz : Nat) (ad : Nat → Nat) (g : Sg) (z : Zm) (p1 p2 : Int32) (hI : Inv g) : CtL l yX6_scannerProbability cX6_scannerProbability 3 .long 3 D kA sz (mW ad kA g z) [.ref (ad 0), .int p1, .int p2] (fun r uu => r = sp_prob 0 p1 p2 g ∧ ∃ C F, uu = mW ad kA g (tCF z C F)) := by
  refine ct_l (own := RX6) (by decide) rfl (Nat.le_of_ble_eq_true rfl) ?_
  intro p_ e_ s_ m_ ar_ bw_ me_ co_ A ls Q F hnm hK hA hP hD hS hl hsz rt
  have hx := F.1
  have hb := F.2.1
  have hl : lv_has ls 3 [(0, .ref (ad 0)), (1, .int p1), (2, .int p2)] := hl
  have hP : va_P D vwCl (mW ad kA g z) s_.heap := hP
  obtain ⟨⟨hc1, hc2⟩, ha, hn, hu, hd, hup, hlo, hso, hv⟩ := id hI
  obtain ⟨u, d, U, B, hp⟩ := par_of hI
  refine lv_iload_n hx hb dX6_scannerProbability_0 rfl (lv_at hl 1 rfl) ?_
  refine lv_iload_n hx hb dX6_scannerProbability_1 rfl (lv_at hl 2 rfl) ?_
  refine cl_S_i (wc := []) (As := [.int p1, .int p2]) (rest := []) F hK P_nil D_nil hS hA (kX6_areRight l D kA _ p1 p2 ) gw_832 gw_71 gw_830 gw_831 hdX6_areRight ⟨Nat.le_of_ble_eq_true rfl, Nat.le_of_ble_eq_true rfl⟩ hl.1 rfl (Nat.le_of_ble_eq_true rfl) dX6_scannerProbability_2 ⟨Nat.le_of_ble_eq_true rfl, Nat.le_of_ble_eq_true rfl⟩ (fun r_2 u_2 H locs hw hP1 hD1 hk1 hFc hS => ?_)
  obtain ⟨rfl, rfl⟩ := hw
  have hP := hp_non hP hk1
  refine b_beq F (P := (0 ≤ p1 ∧ p1 ≤ 100) ∧ (0 ≤ p2 ∧ p2 ≤ 60)) (tgt := 17) dX6_scannerProbability_5 (by decide) (fun c_5 => ?_) (fun c_5 => ?_)
  · refine lv_ldc2 (v := (-104)) hx hb F.2.2.2.1 (F.2.2.2.2 _ gw_856) dX6_scannerProbability_17 ?_
    exact rt _ (mW ad kA g z) _ _ _ _ hP hD hS dX6_scannerProbability_20 (⟨by rw [sp_prob, if_neg c_5], zC z, zF z, rfl⟩)
  · obtain ⟨jp, hj, rfl⟩ := nat_of (n := 100) (by decide) c_5.1.1 c_5.1.2
    obtain ⟨n, hn2, rfl⟩ := nat_of (n := 60) (by decide) c_5.2.1 c_5.2.2
    refine lv_aload_n hx hb dX6_scannerProbability_8 rfl (lv_at hl 0 rfl) ?_
    refine lv_iload_n hx hb dX6_scannerProbability_9 rfl (lv_at hl 1 rfl) ?_
    refine lv_iload_n hx hb dX6_scannerProbability_10 rfl (lv_at hl 2 rfl) ?_
    refine cl_V_l (wc := (mW ad kA g z)) (As := [.int (nI jp), .int (nI n)]) (rest := []) (b := (ad 0)) (C := RX6) F hK hP hD hS hA (kX6_scannedBits l D kA _ ad g z jp n u d U B (59 + U - B) (59 - B) (by omega) (by omega) hp rfl rfl) gw_836 gw_71 gw_833 gw_835 gw_59 (va_recv hK.1 hP (ci := 6) (q0 := 0) rfl rfl) hdX6_scannedBits ⟨Nat.le_of_ble_eq_true rfl, Nat.le_of_ble_eq_true rfl⟩ hl.1 rfl (Nat.le_of_ble_eq_true rfl) dX6_scannerProbability_11 ⟨Nat.le_of_ble_eq_true rfl, Nat.le_of_ble_eq_true rfl⟩ (fun r_11 u_11 H locs hw hP1 hD1 hk1 hFc hS => ?_)
    obtain ⟨rfl, C_11, F_11, rfl⟩ := hw
    have hP : va_P D vwCl (mW ad kA g (tCF z C_11 F_11)) H := hP1
    have hD : va_D A (mW ad kA g (tCF z C_11 F_11)) := hD1.weaken (fun _ _ _ h => hFc _ h)
    refine lv_goto (tgt := 20) hx hb dX6_scannerProbability_14 (by decide) ?_
    exact rt _ (mW ad kA g (tCF z C_11 F_11)) _ _ _ _ hP hD hS dX6_scannerProbability_20 (⟨by rw [sp_prob, if_pos c_5, nI_clamp (by omega), nI_clamp (by omega), prB_eq hp]; rfl, C_11, F_11, rfl⟩)

set_option maxRecDepth 100000 in
set_option maxHeartbeats 4000000 in
theorem kX6_expectedContacts (l : Launch) (D : va_G) (kA : Nat → ClassId) (sz : Nat) (ad : Nat → Nat) (g : Sg) (z : Zm) (p1 p2 : Int32) (hI : Inv g) : CtL l yX6_expectedContacts cX6_expectedContacts 3 .long 3 D kA sz (mW ad kA g z) [.ref (ad 0), .int p1, .int p2] (fun r uu => r = sp_prob 1 p1 p2 g ∧ ∃ C F, uu = mW ad kA g (tCF z C F)) := by
  refine ct_l (own := RX6) (by decide) rfl (Nat.le_of_ble_eq_true rfl) ?_
  intro p_ e_ s_ m_ ar_ bw_ me_ co_ A ls Q F hnm hK hA hP hD hS hl hsz rt
  have hx := F.1
  have hb := F.2.1
  have hl : lv_has ls 3 [(0, .ref (ad 0)), (1, .int p1), (2, .int p2)] := hl
  have hP : va_P D vwCl (mW ad kA g z) s_.heap := hP
  obtain ⟨⟨hc1, hc2⟩, ha, hn, hu, hd, hup, hlo, hso, hv⟩ := id hI
  obtain ⟨u, d, U, B, hp⟩ := par_of hI
  refine lv_iload_n hx hb dX6_expectedContacts_0 rfl (lv_at hl 1 rfl) ?_
  refine lv_iload_n hx hb dX6_expectedContacts_1 rfl (lv_at hl 2 rfl) ?_
  refine cl_S_i (wc := []) (As := [.int p1, .int p2]) (rest := []) F hK P_nil D_nil hS hA (kX6_areRight l D kA _ p1 p2 ) gw_832 gw_71 gw_830 gw_831 hdX6_areRight ⟨Nat.le_of_ble_eq_true rfl, Nat.le_of_ble_eq_true rfl⟩ hl.1 rfl (Nat.le_of_ble_eq_true rfl) dX6_expectedContacts_2 ⟨Nat.le_of_ble_eq_true rfl, Nat.le_of_ble_eq_true rfl⟩ (fun r_2 u_2 H locs hw hP1 hD1 hk1 hFc hS => ?_)
  obtain ⟨rfl, rfl⟩ := hw
  have hP := hp_non hP hk1
  refine b_beq F (P := (0 ≤ p1 ∧ p1 ≤ 100) ∧ (0 ≤ p2 ∧ p2 ≤ 60)) (tgt := 17) dX6_expectedContacts_5 (by decide) (fun c_5 => ?_) (fun c_5 => ?_)
  · refine lv_ldc2 (v := (-104)) hx hb F.2.2.2.1 (F.2.2.2.2 _ gw_856) dX6_expectedContacts_17 ?_
    exact rt _ (mW ad kA g z) _ _ _ _ hP hD hS dX6_expectedContacts_20 (⟨by rw [sp_prob, if_neg c_5], zC z, zF z, rfl⟩)
  · obtain ⟨jp, hj, rfl⟩ := nat_of (n := 100) (by decide) c_5.1.1 c_5.1.2
    obtain ⟨n, hn2, rfl⟩ := nat_of (n := 60) (by decide) c_5.2.1 c_5.2.2
    refine lv_aload_n hx hb dX6_expectedContacts_8 rfl (lv_at hl 0 rfl) ?_
    refine lv_iload_n hx hb dX6_expectedContacts_9 rfl (lv_at hl 1 rfl) ?_
    refine lv_iload_n hx hb dX6_expectedContacts_10 rfl (lv_at hl 2 rfl) ?_
    refine cl_V_l (wc := (mW ad kA g z)) (As := [.int (nI jp), .int (nI n)]) (rest := []) (b := (ad 0)) (C := RX6) F hK hP hD hS hA (kX6_awaitedBits l D kA _ ad g z jp n u d U B (59 + U - B) (59 - B) (by omega) (by omega) hp rfl rfl) gw_864 gw_71 gw_861 gw_863 gw_62 (va_recv hK.1 hP (ci := 6) (q0 := 0) rfl rfl) hdX6_awaitedBits ⟨Nat.le_of_ble_eq_true rfl, Nat.le_of_ble_eq_true rfl⟩ hl.1 rfl (Nat.le_of_ble_eq_true rfl) dX6_expectedContacts_11 ⟨Nat.le_of_ble_eq_true rfl, Nat.le_of_ble_eq_true rfl⟩ (fun r_11 u_11 H locs hw hP1 hD1 hk1 hFc hS => ?_)
    obtain ⟨rfl, C_11, F_11, rfl⟩ := hw
    have hP : va_P D vwCl (mW ad kA g (tCF z C_11 F_11)) H := hP1
    have hD : va_D A (mW ad kA g (tCF z C_11 F_11)) := hD1.weaken (fun _ _ _ h => hFc _ h)
    refine lv_goto (tgt := 20) hx hb dX6_expectedContacts_14 (by decide) ?_
    exact rt _ (mW ad kA g (tCF z C_11 F_11)) _ _ _ _ hP hD hS dX6_expectedContacts_20 (⟨by rw [sp_prob, if_pos c_5, nI_clamp (by omega), nI_clamp (by omega), prB_eq hp]; rfl, C_11, F_11, rfl⟩)

set_option maxRecDepth 100000 in
set_option maxHeartbeats 4000000 in
theorem kX6_countSequences (l : Launch) (D : va_G) (kA : Nat → ClassId) (sz : Nat) (ad : Nat → Nat) (g : Sg) (z : Zm) (p1 p2 : Int32) (hI : Inv g) : CtI l yX6_countSequences cX6_countSequences 3 .int 1 D kA sz (mW ad kA g z) [.ref (ad 0), .int p1, .int p2] (fun r uu => r = sp_cseq p1 p2 g ∧ ∃ W, uu = mW ad kA g (tWa z W)) := by
  refine ct_i (own := RX6) (by decide) rfl (Nat.le_of_ble_eq_true rfl) ?_
  intro p_ e_ s_ m_ ar_ bw_ me_ co_ A ls Q F hnm hK hA hP hD hS hl hsz rt
  have hx := F.1
  have hb := F.2.1
  have hl : lv_has ls 3 [(0, .ref (ad 0)), (1, .int p1), (2, .int p2)] := hl
  have hP : va_P D vwCl (mW ad kA g z) s_.heap := hP
  obtain ⟨⟨hc1, hc2⟩, ha, hn, hu, hd, hup, hlo, hso, hv⟩ := id hI
  obtain ⟨u, d, U, B, hp⟩ := par_of hI
  refine lv_iload_n hx hb dX6_countSequences_0 rfl (lv_at hl 1 rfl) ?_
  refine lv_iconst (v := 0) hx hb dX6_countSequences_1 (by decide) ?_
  refine lv_bipush (v := 20) hx hb dX6_countSequences_2 (by decide) ?_
  refine cl_S_i (wc := []) (As := [.int p1, .int 0, .int 20]) (rest := []) F hK P_nil D_nil hS hA (kX6_within l D kA _ p1 0 20 ) gw_666 gw_71 gw_664 gw_665 hdX6_within ⟨Nat.le_of_ble_eq_true rfl, Nat.le_of_ble_eq_true rfl⟩ hl.1 rfl (Nat.le_of_ble_eq_true rfl) dX6_countSequences_4 ⟨Nat.le_of_ble_eq_true rfl, Nat.le_of_ble_eq_true rfl⟩ (fun r_4 u_4 H locs hw hP1 hD1 hk1 hFc hS => ?_)
  obtain ⟨rfl, rfl⟩ := hw
  have hP := hp_non hP hk1
  refine b_beq F (P := 0 ≤ p1 ∧ p1 ≤ 20) (tgt := 28) dX6_countSequences_7 (by decide) (fun c_7 => ?_) (fun c_7 => ?_)
  · refine lv_bipush (v := (-104)) hx hb dX6_countSequences_28 (by decide) ?_
    exact rt _ (mW ad kA g z) _ _ _ _ hP hD hS dX6_countSequences_30 (⟨by rw [sp_cseq, if_neg (fun h => c_7 h.1)], zW z, rfl⟩)
  · obtain ⟨n, hj, rfl⟩ := nat_of (n := 20) (by decide) c_7.1 c_7.2
    refine lv_iload_n hx hb dX6_countSequences_10 rfl (lv_at hl 2 rfl) ?_
    refine lv_iconst (v := 0) hx hb dX6_countSequences_11 (by decide) ?_
    refine lv_iconst (v := 2) hx hb dX6_countSequences_12 (by decide) ?_
    refine cl_S_i (wc := []) (As := [.int p2, .int 0, .int 2]) (rest := []) F hK P_nil D_nil hS hA (kX6_within l D kA _ p2 0 2 ) gw_666 gw_71 gw_664 gw_665 hdX6_within ⟨Nat.le_of_ble_eq_true rfl, Nat.le_of_ble_eq_true rfl⟩ hl.1 rfl (Nat.le_of_ble_eq_true rfl) dX6_countSequences_13 ⟨Nat.le_of_ble_eq_true rfl, Nat.le_of_ble_eq_true rfl⟩ (fun r_13 u_13 H locs hw hP1 hD1 hk1 hFc hS => ?_)
    obtain ⟨rfl, rfl⟩ := hw
    have hP := hp_non hP hk1
    refine b_beq F (P := 0 ≤ p2 ∧ p2 ≤ 2) (tgt := 28) dX6_countSequences_16 (by decide) (fun c_16 => ?_) (fun c_16 => ?_)
    · refine lv_bipush (v := (-104)) hx hb dX6_countSequences_28 (by decide) ?_
      exact rt _ (mW ad kA g z) _ _ _ _ hP hD hS dX6_countSequences_30 (⟨by rw [sp_cseq, if_neg (fun h => c_16 h.2)], zW z, rfl⟩)
    · refine lv_aload_n hx hb dX6_countSequences_19 rfl (lv_at hl 0 rfl) ?_
      refine lv_iload_n hx hb dX6_countSequences_20 rfl (lv_at hl 1 rfl) ?_
      refine lv_iload_n hx hb dX6_countSequences_21 rfl (lv_at hl 2 rfl) ?_
      refine cl_V_i (wc := (mW ad kA g z)) (As := [.int (nI n), .int p2]) (rest := []) (b := (ad 0)) (C := RX6) F hK hP hD hS hA (kX6_sequences l D kA _ ad g z n p2 u d U B (by omega) hp) gw_825 gw_71 gw_822 gw_824 gw_58 (va_recv hK.1 hP (ci := 6) (q0 := 0) rfl rfl) hdX6_sequences ⟨Nat.le_of_ble_eq_true rfl, Nat.le_of_ble_eq_true rfl⟩ hl.1 rfl (Nat.le_of_ble_eq_true rfl) dX6_countSequences_22 ⟨Nat.le_of_ble_eq_true rfl, Nat.le_of_ble_eq_true rfl⟩ (fun r_22 u_22 H locs hw hP1 hD1 hk1 hFc hS => ?_)
      obtain ⟨rfl, W_22, rfl⟩ := hw
      have hP : va_P D vwCl (mW ad kA g (tWa z W_22)) H := hP1
      have hD : va_D A (mW ad kA g (tWa z W_22)) := hD1.weaken (fun _ _ _ h => hFc _ h)
      refine lv_goto (tgt := 30) hx hb dX6_countSequences_25 (by decide) ?_
      exact rt _ (mW ad kA g (tWa z W_22)) _ _ _ _ hP hD hS dX6_countSequences_30 (⟨by rw [sp_cseq, if_pos ⟨c_7, c_16⟩, nI_clamp (by omega), seB_eq hp], W_22, rfl⟩)
