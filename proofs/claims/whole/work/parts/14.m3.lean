set_option maxRecDepth 100000 in
set_option maxHeartbeats 4000000 in
theorem kX6_sequences (l : Launch) (D : va_G) (kA : Nat → ClassId) (sz : Nat) (ad : Nat → Nat) (g : Sg) (z : Zm) (n : Nat) (v : Int32) (u d U B : Nat) (hn : n ≤ 20) (hp : Par g u d U B) : CtI l yX6_sequences cX6_sequences 8 .int 0 D kA sz (mW ad kA g z) [.ref (ad 0), .int (nI n), .int v] (fun r uu => r = seqR u d U B n v ∧ ∃ W, uu = mW ad kA g (tWa z W)) := by
  refine ct_i (own := RX6) (by decide) rfl (Nat.le_of_ble_eq_true rfl) ?_
  intro p_ e_ s_ m_ ar_ bw_ me_ co_ A ls Q F hnm hK hA hP hD hS hl hsz rt
  have hx := F.1
  have hb := F.2.1
  have hl : lv_has ls 8 [(0, .ref (ad 0)), (1, .int (nI n)), (2, .int v)] := hl
  have hP : va_P D vwCl (mW ad kA g z) s_.heap := hP
  obtain ⟨pu, pd, pU, pB, ⟨hu1, hu2⟩, ⟨hd1, hd2⟩, ⟨hU1, hU2⟩, hB⟩ := id hp
  obtain ⟨w, hw⟩ : ∃ w, w = 59 + U - B := ⟨_, rfl⟩
  obtain ⟨zz, hzz⟩ : ∃ zz, zz = 59 - B := ⟨_, rfl⟩
  refine lv_iconst (v := 0) hx hb dX6_sequences_0 (by decide) ?_
  refine lv_istore_n (lv' := [(3, .int 0), (0, .ref (ad 0)), (1, .int (nI n)), (2, .int v)]) hx hb dX6_sequences_1 rfl hl (by decide) rfl (fun ls hl => ?_)
  have lp_2 : ∀ (n_2 : Nat) (k : Nat) (W1 : Nat → Nat → Int32), (k ≤ 121) → (∀ j, j < k → W1 0 j = if j = 60 then 1 else 0) → (121 - k) < n_2 → ∀ (H : Heap) (locs : List Loc) (ls : Array Slot), va_P D vwCl (mW ad kA g (tWa z W1)) H → va_D A (mW ad kA g (tWa z W1)) → va_S A s_.heap H locs → lv_has ls 8 [(0, .ref (ad 0)), (1, .int (nI n)), (2, .int v), (3, .int (nI k))] → W p_ l e_ (rmC 0 0 0) s_ m_ ar_ bw_ me_ co_ H locs 0 0 Q (F0 m_ 2 ls []) := by
    intro n_2
    induction n_2 with
    | zero =>
      intro k W1 hk hW hm_2
      exact absurd hm_2 (Nat.not_lt_zero _)
    | succ n_2 ih_2 =>
      intro k W1 hk hW hm_2 H locs ls hP hD hS hl
      refine lv_iload_n hx hb dX6_sequences_2 rfl (lv_at hl 3 rfl) ?_
      refine lv_bipush (v := 121) hx hb dX6_sequences_3 (by decide) ?_
      refine b_ge F (a := k) (b := 121) (tgt := 31) dX6_sequences_5 (by decide) (by omega) (by omega) (fun c_5 => ?_) (fun c_5 => ?_)
      · refine lv_iconst (v := 0) hx hb dX6_sequences_31 (by decide) ?_
        refine lv_istore_n (lv' := [(3, .int 0), (0, .ref (ad 0)), (1, .int (nI n)), (2, .int v)]) hx hb dX6_sequences_32 rfl hl (by decide) rfl (fun ls hl => ?_)
        refine lv_iconst (v := 0) hx hb dX6_sequences_33 (by decide) ?_
        refine lv_istore (lv' := [(4, .int 0), (3, .int 0), (0, .ref (ad 0)), (1, .int (nI n)), (2, .int v)]) hx hb dX6_sequences_34 hl (by decide) rfl (fun ls hl => ?_)
        refine lv_iconst (v := 0) hx hb dX6_sequences_36 (by decide) ?_
        refine lv_istore (lv' := [(5, .int 0), (4, .int 0), (3, .int 0), (0, .ref (ad 0)), (1, .int (nI n)), (2, .int v)]) hx hb dX6_sequences_37 hl (by decide) rfl (fun ls hl => ?_)
        have lp_39 : ∀ (n_39 : Nat) (n1 : Nat) (W1 : Nat → Nat → Int32), (n1 ≤ n) → (MR B w (W1 0) (csN u d w zz n1).1) → (n - n1) < n_39 → ∀ (H : Heap) (locs : List Loc) (ls : Array Slot), va_P D vwCl (mW ad kA g (tWa z W1)) H → va_D A (mW ad kA g (tWa z W1)) → va_S A s_.heap H locs → lv_has ls 8 [(0, .ref (ad 0)), (1, .int (nI n)), (2, .int v), (3, .int ((csN u d w zz n1).2.1)), (4, .int ((csN u d w zz n1).2.2)), (5, .int (nI n1))] → W p_ l e_ (rmC 0 0 0) s_ m_ ar_ bw_ me_ co_ H locs 0 0 Q (F0 m_ 39 ls []) := by
          intro n_39
          induction n_39 with
          | zero =>
            intro n1 W1 hn1 hR hm_39
            exact absurd hm_39 (Nat.not_lt_zero _)
          | succ n_39 ih_39 =>
            intro n1 W1 hn1 hR hm_39 H locs ls hP hD hS hl
            refine lv_iload hx hb dX6_sequences_39 (lv_at hl 5 rfl) ?_
            refine lv_iload_n hx hb dX6_sequences_41 rfl (lv_at hl 1 rfl) ?_
            refine b_ge F (a := n1) (b := n) (tgt := 236) dX6_sequences_42 (by decide) (by omega) (by omega) (fun c_42 => ?_) (fun c_42 => ?_)
            · obtain rfl : n = n1 := by omega
              refine lv_iload_n hx hb dX6_sequences_236 rfl (lv_at hl 2 rfl) ?_
              refine lv_iconst (v := 1) hx hb dX6_sequences_237 (by decide) ?_
              refine lv_icmp_ne (tgt := 245) hx hb dX6_sequences_238 (by decide) (fun c_238 => ?_) (fun c_238 => ?_)
              · refine lv_iload_n hx hb dX6_sequences_245 rfl (lv_at hl 2 rfl) ?_
                refine lv_iconst (v := 2) hx hb dX6_sequences_246 (by decide) ?_
                refine lv_icmp_ne (tgt := 255) hx hb dX6_sequences_247 (by decide) (fun c_247 => ?_) (fun c_247 => ?_)
                · refine lv_iconst (v := 1) hx hb dX6_sequences_255 (by decide) ?_
                  refine lv_iload_n hx hb dX6_sequences_256 rfl (lv_at hl 1 rfl) ?_
                  refine lv_ishl hx hb dX6_sequences_257 ?_
                  refine lv_iload_n hx hb dX6_sequences_258 rfl (lv_at hl 3 rfl) ?_
                  refine lv_isub hx hb dX6_sequences_259 ?_
                  refine lv_iload hx hb dX6_sequences_260 (lv_at hl 4 rfl) ?_
                  refine lv_isub hx hb dX6_sequences_262 ?_
                  exact rt _ (mW ad kA g (tWa z W1)) _ _ _ _ hP hD hS dX6_sequences_263 (⟨by rw [seqR, ← hw, ← hzz, if_neg c_238, if_neg c_247], W1, rfl⟩)
                · refine lv_iload hx hb dX6_sequences_250 (lv_at hl 4 rfl) ?_
                  refine lv_goto (tgt := 263) hx hb dX6_sequences_252 (by decide) ?_
                  exact rt _ (mW ad kA g (tWa z W1)) _ _ _ _ hP hD hS dX6_sequences_263 (⟨by rw [seqR, ← hw, ← hzz, if_neg c_238, if_pos c_247], W1, rfl⟩)
              · refine lv_iload_n hx hb dX6_sequences_241 rfl (lv_at hl 3 rfl) ?_
                refine lv_goto (tgt := 263) hx hb dX6_sequences_242 (by decide) ?_
                exact rt _ (mW ad kA g (tWa z W1)) _ _ _ _ hP hD hS dX6_sequences_263 (⟨by rw [seqR, ← hw, ← hzz, if_pos c_238], W1, rfl⟩)
            · refine lv_iload_n hx hb dX6_sequences_45 rfl (lv_at hl 3 rfl) ?_
              refine lv_iconst (v := 2) hx hb dX6_sequences_46 (by decide) ?_
              refine lv_imul hx hb dX6_sequences_47 ?_
              refine lv_istore_n (lv' := [(3, .int (((csN u d w zz n1).2.1) * 2)), (0, .ref (ad 0)), (1, .int (nI n)), (2, .int v), (4, .int ((csN u d w zz n1).2.2)), (5, .int (nI n1))]) hx hb dX6_sequences_48 rfl hl (by decide) rfl (fun ls hl => ?_)
              refine lv_iload hx hb dX6_sequences_49 (lv_at hl 4 rfl) ?_
              refine lv_iconst (v := 2) hx hb dX6_sequences_51 (by decide) ?_
              refine lv_imul hx hb dX6_sequences_52 ?_
              refine lv_istore (lv' := [(4, .int (((csN u d w zz n1).2.2) * 2)), (3, .int (((csN u d w zz n1).2.1) * 2)), (0, .ref (ad 0)), (1, .int (nI n)), (2, .int v), (5, .int (nI n1))]) hx hb dX6_sequences_53 hl (by decide) rfl (fun ls hl => ?_)
              refine lv_iconst (v := 0) hx hb dX6_sequences_55 (by decide) ?_
              refine lv_istore (lv' := [(6, .int 0), (4, .int (((csN u d w zz n1).2.2) * 2)), (3, .int (((csN u d w zz n1).2.1) * 2)), (0, .ref (ad 0)), (1, .int (nI n)), (2, .int v), (5, .int (nI n1))]) hx hb dX6_sequences_56 hl (by decide) rfl (fun ls hl => ?_)
              have lp_58 : ∀ (n_58 : Nat) (k : Nat) (W2 : Nat → Nat → Int32), (k ≤ 121) → (W2 0 = W1 0) → (∀ j, j < k → W2 1 j = 0) → (121 - k) < n_58 → ∀ (H : Heap) (locs : List Loc) (ls : Array Slot), va_P D vwCl (mW ad kA g (tWa z W2)) H → va_D A (mW ad kA g (tWa z W2)) → va_S A s_.heap H locs → lv_has ls 8 [(0, .ref (ad 0)), (1, .int (nI n)), (2, .int v), (3, .int ((csN u d w zz n1).2.1 * 2)), (4, .int ((csN u d w zz n1).2.2 * 2)), (5, .int (nI n1)), (6, .int (nI k))] → W p_ l e_ (rmC 0 0 0) s_ m_ ar_ bw_ me_ co_ H locs 0 0 Q (F0 m_ 58 ls []) := by
                intro n_58
                induction n_58 with
                | zero =>
                  intro k W2 hk h0 hZ hm_58
                  exact absurd hm_58 (Nat.not_lt_zero _)
                | succ n_58 ih_58 =>
                  intro k W2 hk h0 hZ hm_58 H locs ls hP hD hS hl
                  refine lv_iload hx hb dX6_sequences_58 (lv_at hl 6 rfl) ?_
                  refine lv_bipush (v := 121) hx hb dX6_sequences_60 (by decide) ?_
                  refine b_ge F (a := k) (b := 121) (tgt := 79) dX6_sequences_62 (by decide) (by omega) (by omega) (fun c_62 => ?_) (fun c_62 => ?_)
                  · refine lv_aload_n hx hb dX6_sequences_79 rfl (lv_at hl 0 rfl) ?_
                    refine g_get F hK hP inX6 0 rfl rfl 4 (by decide) gw_580 rfl (v := .int (gI g 3)) rfl dX6_sequences_80 ?_
                    rw [pB]
                    refine lv_iconst (v := 1) hx hb dX6_sequences_83 (by decide) ?_
                    refine lv_iadd hx hb dX6_sequences_84 ?_
                    rw [s60]
                    refine lv_istore (lv' := [(6, .int (nI (B + 1) - 60)), (0, .ref (ad 0)), (1, .int (nI n)), (2, .int v), (3, .int ((csN u d w zz n1).2.1 * 2)), (4, .int ((csN u d w zz n1).2.2 * 2)), (5, .int (nI n1))]) hx hb dX6_sequences_85 hl (by decide) rfl (fun ls hl => ?_)
                    have lp_87 : ∀ (n_87 : Nat) (i : Nat) (W3 : Nat → Nat → Int32), (i ≤ w) → (W3 0 = W1 0) → (MR B w (W3 1) (scat (· + ·) 0 (csN u d w zz n1).1 (csN u d w zz n1).1 u d w i)) → (w - i) < n_87 → ∀ (H : Heap) (locs : List Loc) (ls : Array Slot), va_P D vwCl (mW ad kA g (tWa z W3)) H → va_D A (mW ad kA g (tWa z W3)) → va_S A s_.heap H locs → lv_has ls 8 [(0, .ref (ad 0)), (1, .int (nI n)), (2, .int v), (3, .int (acc (· + ·) (fun q9 => decide (w ≤ q9 + u)) (csN u d w zz n1).1 ((csN u d w zz n1).2.1 * 2) i)), (4, .int (acc (· + ·) (fun q9 => decide (q9 < d)) (csN u d w zz n1).1 ((csN u d w zz n1).2.2 * 2) i)), (5, .int (nI n1)), (6, .int (nI (B + 1 + i) - 60))] → W p_ l e_ (rmC 0 0 0) s_ m_ ar_ bw_ me_ co_ H locs 0 0 Q (F0 m_ 87 ls []) := by
                      intro n_87
                      induction n_87 with
                      | zero =>
                        intro i W3 hi h03 hR3 hm_87
                        exact absurd hm_87 (Nat.not_lt_zero _)
                      | succ n_87 ih_87 =>
                        intro i W3 hi h03 hR3 hm_87 H locs ls hP hD hS hl
                        refine lv_iload hx hb dX6_sequences_87 (lv_at hl 6 rfl) ?_
                        refine lv_aload_n hx hb dX6_sequences_89 rfl (lv_at hl 0 rfl) ?_
                        refine g_get F hK hP inX6 0 rfl rfl 3 (by decide) gw_579 rfl (v := .int (gI g 2)) rfl dX6_sequences_90 ?_
                        rw [pU]
                        refine lv_icmp_ge (tgt := 200) hx hb dX6_sequences_93 (by decide) (fun c_93 => ?_) (fun c_93 => ?_)
                        · have hx93 := (qA (by omega) (by omega)).mp c_93
                          obtain rfl : w = i := by omega
                          refine lv_iconst (v := 0) hx hb dX6_sequences_200 (by decide) ?_
                          refine lv_istore (lv' := [(6, .int 0), (0, .ref (ad 0)), (1, .int (nI n)), (2, .int v), (3, .int (acc (· + ·) (fun q9 => decide (w ≤ q9 + u)) (csN u d w zz n1).1 ((csN u d w zz n1).2.1 * 2) w)), (4, .int (acc (· + ·) (fun q9 => decide (q9 < d)) (csN u d w zz n1).1 ((csN u d w zz n1).2.2 * 2) w)), (5, .int (nI n1))]) hx hb dX6_sequences_201 hl (by decide) rfl (fun ls hl => ?_)
                          have lp_203 : ∀ (n_203 : Nat) (k : Nat) (W4 : Nat → Nat → Int32), (k ≤ 121) → (W4 1 = W3 1) → (∀ j, j < k → W4 0 j = W3 1 j) → (121 - k) < n_203 → ∀ (H : Heap) (locs : List Loc) (ls : Array Slot), va_P D vwCl (mW ad kA g (tWa z W4)) H → va_D A (mW ad kA g (tWa z W4)) → va_S A s_.heap H locs → lv_has ls 8 [(0, .ref (ad 0)), (1, .int (nI n)), (2, .int v), (3, .int (acc (· + ·) (fun q9 => decide (w ≤ q9 + u)) (csN u d w zz n1).1 ((csN u d w zz n1).2.1 * 2) w)), (4, .int (acc (· + ·) (fun q9 => decide (q9 < d)) (csN u d w zz n1).1 ((csN u d w zz n1).2.2 * 2) w)), (5, .int (nI n1)), (6, .int (nI k))] → W p_ l e_ (rmC 0 0 0) s_ m_ ar_ bw_ me_ co_ H locs 0 0 Q (F0 m_ 203 ls []) := by
                            intro n_203
                            induction n_203 with
                            | zero =>
                              intro k W4 hk h1 hC hm_203
                              exact absurd hm_203 (Nat.not_lt_zero _)
                            | succ n_203 ih_203 =>
                              intro k W4 hk h1 hC hm_203 H locs ls hP hD hS hl
                              refine lv_iload hx hb dX6_sequences_203 (lv_at hl 6 rfl) ?_
                              refine lv_bipush (v := 121) hx hb dX6_sequences_205 (by decide) ?_
                              refine b_ge F (a := k) (b := 121) (tgt := 230) dX6_sequences_207 (by decide) (by omega) (by omega) (fun c_207 => ?_) (fun c_207 => ?_)
                              · refine lv_iinc (v := nI (n1 + 1)) (lv' := [(5, .int (nI (n1 + 1))), (0, .ref (ad 0)), (1, .int (nI n)), (2, .int v), (3, .int (acc (· + ·) (fun q9 => decide (w ≤ q9 + u)) (csN u d w zz n1).1 ((csN u d w zz n1).2.1 * 2) w)), (4, .int (acc (· + ·) (fun q9 => decide (q9 < d)) (csN u d w zz n1).1 ((csN u d w zz n1).2.2 * 2) w)), (6, .int (nI k))]) hx hb dX6_sequences_230 hl (k := 5) rfl (nI_add n1 1) (by decide) rfl (fun ls hl => ?_)
                                refine lv_goto (tgt := 39) hx hb dX6_sequences_233 (by decide) ?_
                                exact ih_39  (n1 + 1) W4 (by omega) (fun j hj => by rw [hC _ (by omega)]; exact hR3 j hj) (by omega) _ _ _ hP hD hS (lv_sub hl [1, 2, 3, 4, 5, 0] rfl)
                              · refine lv_aload_n hx hb dX6_sequences_210 rfl (lv_at hl 0 rfl) ?_
                                refine g_get F hK hP inX6 0 rfl rfl 20 (by decide) gw_596 rfl (v := .ref (ad 11)) rfl dX6_sequences_211 ?_
                                refine lv_iload hx hb dX6_sequences_214 (lv_at hl 6 rfl) ?_
                                refine lv_aload_n hx hb dX6_sequences_216 rfl (lv_at hl 0 rfl) ?_
                                refine g_get F hK hP inX6 0 rfl rfl 21 (by decide) gw_597 rfl (v := .ref (ad 12)) rfl dX6_sequences_217 ?_
                                refine lv_iload hx hb dX6_sequences_220 (lv_at hl 6 rfl) ?_
                                refine a_ild F hK hP 12 (f := zW (tWa z W4) 1) rfl (j := k) (by omega) (by decide) dX6_sequences_222 ?_
                                refine a_ist F hK hP hD hS 11 (f := zW (tWa z W4) 0) rfl (j := k) (by omega) (by decide) dX6_sequences_223 (fun H locs hP hD hS => ?_)
                                have hP : va_P D vwCl (mW ad kA g (tW (tWa z W4) 0 (upd (zW (tWa z W4) 0) k (zW (tWa z W4) 1 k)))) H := hP
                                have hD : va_D A (mW ad kA g (tW (tWa z W4) 0 (upd (zW (tWa z W4) 0) k (zW (tWa z W4) 1 k)))) := hD
                                refine lv_iinc (v := nI (k + 1)) (lv' := [(6, .int (nI (k + 1))), (0, .ref (ad 0)), (1, .int (nI n)), (2, .int v), (3, .int (acc (· + ·) (fun q9 => decide (w ≤ q9 + u)) (csN u d w zz n1).1 ((csN u d w zz n1).2.1 * 2) w)), (4, .int (acc (· + ·) (fun q9 => decide (q9 < d)) (csN u d w zz n1).1 ((csN u d w zz n1).2.2 * 2) w)), (5, .int (nI n1))]) hx hb dX6_sequences_224 hl (k := 6) rfl (nI_add k 1) (by decide) rfl (fun ls hl => ?_)
                                refine lv_goto (tgt := 203) hx hb dX6_sequences_227 (by decide) ?_
                                exact ih_203  (k + 1) (vf_upd W4 0 (upd (W4 0) k (W4 1 k))) (by omega) h1 (up_lt (f := W4 0) (k := k) (x := W4 1 k) (h := W3 1) hC (by rw [h1])) (by omega) _ _ _ hP hD hS (lv_sub hl [1, 2, 3, 4, 5, 6, 0] rfl)
                          exact lp_203 _ 0 W3 (Nat.zero_le _) rfl (fun j hj => absurd hj (Nat.not_lt_zero _)) (Nat.lt_succ_self _) _ _ _ hP hD hS (lv_sub hl [1, 2, 3, 4, 5, 6, 0] rfl)
                        · have hx93 : ¬ 60 + U ≤ B + 1 + i := fun h => c_93 ((qA (by omega) (by omega)).mpr h)
                          refine lv_aload_n hx hb dX6_sequences_96 rfl (lv_at hl 0 rfl) ?_
                          refine g_get F hK hP inX6 0 rfl rfl 20 (by decide) gw_596 rfl (v := .ref (ad 11)) rfl dX6_sequences_97 ?_
                          refine lv_bipush (v := 60) hx hb dX6_sequences_100 (by decide) ?_
                          refine lv_iload hx hb dX6_sequences_102 (lv_at hl 6 rfl) ?_
                          refine lv_iadd hx hb dX6_sequences_104 ?_
                          rw [e60]
                          refine a_ild F hK hP 11 (f := zW (tWa z W3) 0) rfl (j := B + 1 + i) (by omega) (by decide) dX6_sequences_105 ?_
                          rw [show (zW (tWa z W3) 0 (B + 1 + i)) = ((csN u d w zz n1).1 i) from (by rw [show zW (tWa z W3) 0 = W1 0 from h03]; exact hR i (by omega))]
                          refine lv_istore (lv' := [(7, .int ((csN u d w zz n1).1 i)), (0, .ref (ad 0)), (1, .int (nI n)), (2, .int v), (3, .int (acc (· + ·) (fun q9 => decide (w ≤ q9 + u)) (csN u d w zz n1).1 ((csN u d w zz n1).2.1 * 2) i)), (4, .int (acc (· + ·) (fun q9 => decide (q9 < d)) (csN u d w zz n1).1 ((csN u d w zz n1).2.2 * 2) i)), (5, .int (nI n1)), (6, .int (nI (B + 1 + i) - 60))]) hx hb dX6_sequences_106 hl (by decide) rfl (fun ls hl => ?_)
                          refine lv_iload hx hb dX6_sequences_108 (lv_at hl 7 rfl) ?_
                          refine lv_aload_n hx hb dX6_sequences_110 rfl (lv_at hl 1 rfl) ?_
                          refine g_get F hK hP inX6 0 rfl rfl 1 (by decide) gw_577 rfl (v := .int (gI g 0)) rfl dX6_sequences_111 ?_
                          rw [pu]
                          refine lv_iadd hx hb dX6_sequences_114 ?_
                          refine lv_aload_n hx hb dX6_sequences_115 rfl (lv_at hl 1 rfl) ?_
                          refine g_get F hK hP inX6 0 rfl rfl 3 (by decide) gw_579 rfl (v := .int (gI g 2)) rfl dX6_sequences_116 ?_
                          rw [pU]
                          refine lv_icmp_lt (tgt := 130) hx hb dX6_sequences_119 (by decide) (fun c_119 => ?_) (fun c_119 => ?_)
                          · have hx119 := (qB (by omega) (by omega) (by omega)).mp c_119
                            have ea3 : acc (· + ·) (fun q9 => decide (w ≤ q9 + u)) (csN u d w zz n1).1 ((csN u d w zz n1).2.1 * 2) (i + 1) = acc (· + ·) (fun q9 => decide (w ≤ q9 + u)) (csN u d w zz n1).1 ((csN u d w zz n1).2.1 * 2) i := acc_f (by simp only [decide_eq_false_iff_not]; omega)
                            rw [← ea3] at hl
                            refine lv_aload_n hx hb dX6_sequences_130 rfl (lv_at hl 1 rfl) ?_
                            refine g_get F hK hP inX6 0 rfl rfl 21 (by decide) gw_597 rfl (v := .ref (ad 12)) rfl dX6_sequences_131 ?_
                            refine lv_bipush (v := 60) hx hb dX6_sequences_134 (by decide) ?_
                            refine lv_iload hx hb dX6_sequences_136 (lv_at hl 7 rfl) ?_
                            refine lv_iadd hx hb dX6_sequences_138 ?_
                            rw [e60]
                            refine lv_aload_n hx hb dX6_sequences_139 rfl (lv_at hl 1 rfl) ?_
                            refine g_get F hK hP inX6 0 rfl rfl 1 (by decide) gw_577 rfl (v := .int (gI g 0)) rfl dX6_sequences_140 ?_
                            rw [pu]
                            refine n_add F (a := B + 1 + i) (b := u) dX6_sequences_143 ?_
                            refine lv_dup2_11 hx hb dX6_sequences_144 rfl rfl ?_
                            refine a_ild F hK hP 12 (f := zW (tWa z W3) 1) rfl (j := B + 1 + i + u) (by omega) (by decide) dX6_sequences_145 ?_
                            refine lv_iload hx hb dX6_sequences_146 (lv_at hl 0 rfl) ?_
                            refine lv_iadd hx hb dX6_sequences_148 ?_
                            refine a_ist F hK hP hD hS 12 (f := zW (tWa z W3) 1) rfl (j := B + 1 + i + u) (by omega) (by decide) dX6_sequences_149 (fun H locs hP hD hS => ?_)
                            have hP : va_P D vwCl (mW ad kA g (tW (tWa z W3) 1 (upd (zW (tWa z W3) 1) (B + 1 + i + u) ((zW (tWa z W3) 1 (B + 1 + i + u)) + ((csN u d w zz n1).1 i))))) H := hP
                            have hD : va_D A (mW ad kA g (tW (tWa z W3) 1 (upd (zW (tWa z W3) 1) (B + 1 + i + u) ((zW (tWa z W3) 1 (B + 1 + i + u)) + ((csN u d w zz n1).1 i))))) := hD
                            refine lv_iload hx hb dX6_sequences_150 (lv_at hl 7 rfl) ?_
                            refine lv_aload_n hx hb dX6_sequences_152 rfl (lv_at hl 1 rfl) ?_
                            refine g_get F hK hP inX6 0 rfl rfl 2 (by decide) gw_578 rfl (v := .int (gI g 1)) rfl dX6_sequences_153 ?_
                            rw [pd]
                            refine lv_isub hx hb dX6_sequences_156 ?_
                            refine lv_aload_n hx hb dX6_sequences_157 rfl (lv_at hl 1 rfl) ?_
                            refine g_get F hK hP inX6 0 rfl rfl 4 (by decide) gw_580 rfl (v := .int (gI g 3)) rfl dX6_sequences_158 ?_
                            rw [pB]
                            refine lv_icmp_gt (tgt := 174) hx hb dX6_sequences_161 (by decide) (fun c_161 => ?_) (fun c_161 => ?_)
                            · have hx161 := (qC (by omega) (by omega) (by omega)).mp c_161
                              have ea4 : acc (· + ·) (fun q9 => decide (q9 < d)) (csN u d w zz n1).1 ((csN u d w zz n1).2.2 * 2) (i + 1) = acc (· + ·) (fun q9 => decide (q9 < d)) (csN u d w zz n1).1 ((csN u d w zz n1).2.2 * 2) i := acc_f (by simp only [decide_eq_false_iff_not]; omega)
                              rw [← ea4] at hl
                              refine lv_aload_n hx hb dX6_sequences_174 rfl (lv_at hl 1 rfl) ?_
                              refine g_get F hK hP inX6 0 rfl rfl 21 (by decide) gw_597 rfl (v := .ref (ad 12)) rfl dX6_sequences_175 ?_
                              refine lv_bipush (v := 60) hx hb dX6_sequences_178 (by decide) ?_
                              refine lv_iload hx hb dX6_sequences_180 (lv_at hl 7 rfl) ?_
                              refine lv_iadd hx hb dX6_sequences_182 ?_
                              rw [e60]
                              refine lv_aload_n hx hb dX6_sequences_183 rfl (lv_at hl 1 rfl) ?_
                              refine g_get F hK hP inX6 0 rfl rfl 2 (by decide) gw_578 rfl (v := .int (gI g 1)) rfl dX6_sequences_184 ?_
                              rw [pd]
                              refine n_sub F (a := B + 1 + i) (b := d) dX6_sequences_187 (by omega) ?_
                              refine lv_dup2_11 hx hb dX6_sequences_188 rfl rfl ?_
                              refine a_ild F hK hP 12 (f := upd (zW (tWa z W3) 1) (B + 1 + i + u) ((zW (tWa z W3) 1 (B + 1 + i + u)) + ((csN u d w zz n1).1 i))) rfl (j := (B + 1 + i) - d) (by omega) (by decide) dX6_sequences_189 ?_
                              refine lv_iload hx hb dX6_sequences_190 (lv_at hl 0 rfl) ?_
                              refine lv_iadd hx hb dX6_sequences_192 ?_
                              refine a_ist F hK hP hD hS 12 (f := upd (zW (tWa z W3) 1) (B + 1 + i + u) ((zW (tWa z W3) 1 (B + 1 + i + u)) + ((csN u d w zz n1).1 i))) rfl (j := (B + 1 + i) - d) (by omega) (by decide) dX6_sequences_193 (fun H locs hP hD hS => ?_)
                              have hP : va_P D vwCl (mW ad kA g (tW (tW (tWa z W3) 1 (upd (zW (tWa z W3) 1) (B + 1 + i + u) ((zW (tWa z W3) 1 (B + 1 + i + u)) + ((csN u d w zz n1).1 i)))) 1 (upd (upd (zW (tWa z W3) 1) (B + 1 + i + u) ((zW (tWa z W3) 1 (B + 1 + i + u)) + ((csN u d w zz n1).1 i))) ((B + 1 + i) - d) (((upd (zW (tWa z W3) 1) (B + 1 + i + u) ((zW (tWa z W3) 1 (B + 1 + i + u)) + ((csN u d w zz n1).1 i))) ((B + 1 + i) - d)) + ((csN u d w zz n1).1 i))))) H := hP
                              have hD : va_D A (mW ad kA g (tW (tW (tWa z W3) 1 (upd (zW (tWa z W3) 1) (B + 1 + i + u) ((zW (tWa z W3) 1 (B + 1 + i + u)) + ((csN u d w zz n1).1 i)))) 1 (upd (upd (zW (tWa z W3) 1) (B + 1 + i + u) ((zW (tWa z W3) 1 (B + 1 + i + u)) + ((csN u d w zz n1).1 i))) ((B + 1 + i) - d) (((upd (zW (tWa z W3) 1) (B + 1 + i + u) ((zW (tWa z W3) 1 (B + 1 + i + u)) + ((csN u d w zz n1).1 i))) ((B + 1 + i) - d)) + ((csN u d w zz n1).1 i))))) := hD
                              refine lv_iinc (v := nI (B + 1 + (i + 1)) - 60) (lv' := [(6, .int (nI (B + 1 + (i + 1)) - 60)), (7, .int ((csN u d w zz n1).1 i)), (0, .ref (ad 0)), (1, .int (nI n)), (2, .int v), (3, .int (acc (· + ·) (fun q9 => decide (w ≤ q9 + u)) (csN u d w zz n1).1 ((csN u d w zz n1).2.1 * 2) (i + 1))), (4, .int (acc (· + ·) (fun q9 => decide (q9 < d)) (csN u d w zz n1).1 ((csN u d w zz n1).2.2 * 2) (i + 1))), (5, .int (nI n1))]) hx hb dX6_sequences_194 hl (k := 7) rfl (s60 _) (by decide) rfl (fun ls hl => ?_)
                              refine lv_goto (tgt := 87) hx hb dX6_sequences_197 (by decide) ?_
                              have hM1 : MR B w (vf_upd (W3 1) (B + 1 + i + u) (W3 1 (B + 1 + i + u) + (csN u d w zz n1).1 i)) (sUp (· + ·) (csN u d w zz n1).1 u w i (scat (· + ·) 0 (csN u d w zz n1).1 (csN u d w zz n1).1 u d w i)) := MR_up (add := (· + ·)) (pu := (csN u d w zz n1).1) (f := W3 1) hR3 (by omega)
                              have hM2 : MR B w (vf_upd (vf_upd (W3 1) (B + 1 + i + u) (W3 1 (B + 1 + i + u) + (csN u d w zz n1).1 i)) (B + 1 + i - d) ((vf_upd (W3 1) (B + 1 + i + u) (W3 1 (B + 1 + i + u) + (csN u d w zz n1).1 i)) (B + 1 + i - d) + (csN u d w zz n1).1 i)) (scat (· + ·) 0 (csN u d w zz n1).1 (csN u d w zz n1).1 u d w (i + 1)) := MR_dn (add := (· + ·)) (pd := (csN u d w zz n1).1) (f := vf_upd (W3 1) (B + 1 + i + u) (W3 1 (B + 1 + i + u) + (csN u d w zz n1).1 i)) hM1 (by omega) (by omega)
                              exact ih_87  (i + 1) (vf_upd W3 1 (vf_upd (vf_upd (W3 1) (B + 1 + i + u) (W3 1 (B + 1 + i + u) + (csN u d w zz n1).1 i)) (B + 1 + i - d) ((vf_upd (W3 1) (B + 1 + i + u) (W3 1 (B + 1 + i + u) + (csN u d w zz n1).1 i)) (B + 1 + i - d) + (csN u d w zz n1).1 i))) (by omega) h03 hM2 (by omega) _ _ _ hP hD hS (lv_sub hl [2, 3, 4, 5, 6, 7, 0] rfl)
                            · have hx161 : ¬ B + d < B + 1 + i := fun h => c_161 ((qC (by omega) (by omega) (by omega)).mpr h)
                              refine lv_iload hx hb dX6_sequences_164 (lv_at hl 5 rfl) ?_
                              refine lv_iload hx hb dX6_sequences_166 (lv_at hl 0 rfl) ?_
                              refine lv_iadd hx hb dX6_sequences_168 ?_
                              refine lv_istore (lv' := [(4, .int ((acc (· + ·) (fun q9 => decide (q9 < d)) (csN u d w zz n1).1 ((csN u d w zz n1).2.2 * 2) i) + ((csN u d w zz n1).1 i))), (7, .int ((csN u d w zz n1).1 i)), (0, .ref (ad 0)), (1, .int (nI n)), (2, .int v), (3, .int (acc (· + ·) (fun q9 => decide (w ≤ q9 + u)) (csN u d w zz n1).1 ((csN u d w zz n1).2.1 * 2) (i + 1))), (5, .int (nI n1)), (6, .int (nI (B + 1 + i) - 60))]) hx hb dX6_sequences_169 hl (by decide) rfl (fun ls hl => ?_)
                              have ea4 : acc (· + ·) (fun q9 => decide (q9 < d)) (csN u d w zz n1).1 ((csN u d w zz n1).2.2 * 2) (i + 1) = acc (· + ·) (fun q9 => decide (q9 < d)) (csN u d w zz n1).1 ((csN u d w zz n1).2.2 * 2) i + (csN u d w zz n1).1 i := acc_t (by simp only [decide_eq_true_eq]; omega)
                              rw [← ea4] at hl
                              refine lv_goto (tgt := 194) hx hb dX6_sequences_171 (by decide) ?_
                              refine lv_iinc (v := nI (B + 1 + (i + 1)) - 60) (lv' := [(6, .int (nI (B + 1 + (i + 1)) - 60)), (4, .int (acc (· + ·) (fun q9 => decide (q9 < d)) (csN u d w zz n1).1 ((csN u d w zz n1).2.2 * 2) (i + 1))), (7, .int ((csN u d w zz n1).1 i)), (0, .ref (ad 0)), (1, .int (nI n)), (2, .int v), (3, .int (acc (· + ·) (fun q9 => decide (w ≤ q9 + u)) (csN u d w zz n1).1 ((csN u d w zz n1).2.1 * 2) (i + 1))), (5, .int (nI n1))]) hx hb dX6_sequences_194 hl (k := 7) rfl (s60 _) (by decide) rfl (fun ls hl => ?_)
                              refine lv_goto (tgt := 87) hx hb dX6_sequences_197 (by decide) ?_
                              have hM1 : MR B w (vf_upd (W3 1) (B + 1 + i + u) (W3 1 (B + 1 + i + u) + (csN u d w zz n1).1 i)) (sUp (· + ·) (csN u d w zz n1).1 u w i (scat (· + ·) 0 (csN u d w zz n1).1 (csN u d w zz n1).1 u d w i)) := MR_up (add := (· + ·)) (pu := (csN u d w zz n1).1) (f := W3 1) hR3 (by omega)
                              have hM2 : MR B w (vf_upd (W3 1) (B + 1 + i + u) (W3 1 (B + 1 + i + u) + (csN u d w zz n1).1 i)) (scat (· + ·) 0 (csN u d w zz n1).1 (csN u d w zz n1).1 u d w (i + 1)) := MR_dn0 hM1 (by omega)
                              exact ih_87  (i + 1) (vf_upd W3 1 (vf_upd (W3 1) (B + 1 + i + u) (W3 1 (B + 1 + i + u) + (csN u d w zz n1).1 i))) (by omega) h03 hM2 (by omega) _ _ _ hP hD hS (lv_sub hl [3, 4, 5, 6, 1, 7, 0] rfl)
                          · have hx119 : ¬ B + 1 + i + u < 60 + U := fun h => c_119 ((qB (by omega) (by omega) (by omega)).mpr h)
                            refine lv_iload_n hx hb dX6_sequences_122 rfl (lv_at hl 4 rfl) ?_
                            refine lv_iload hx hb dX6_sequences_123 (lv_at hl 0 rfl) ?_
                            refine lv_iadd hx hb dX6_sequences_125 ?_
                            refine lv_istore_n (lv' := [(3, .int ((acc (· + ·) (fun q9 => decide (w ≤ q9 + u)) (csN u d w zz n1).1 ((csN u d w zz n1).2.1 * 2) i) + ((csN u d w zz n1).1 i))), (7, .int ((csN u d w zz n1).1 i)), (0, .ref (ad 0)), (1, .int (nI n)), (2, .int v), (4, .int (acc (· + ·) (fun q9 => decide (q9 < d)) (csN u d w zz n1).1 ((csN u d w zz n1).2.2 * 2) i)), (5, .int (nI n1)), (6, .int (nI (B + 1 + i) - 60))]) hx hb dX6_sequences_126 rfl hl (by decide) rfl (fun ls hl => ?_)
                            have ea3 : acc (· + ·) (fun q9 => decide (w ≤ q9 + u)) (csN u d w zz n1).1 ((csN u d w zz n1).2.1 * 2) (i + 1) = acc (· + ·) (fun q9 => decide (w ≤ q9 + u)) (csN u d w zz n1).1 ((csN u d w zz n1).2.1 * 2) i + (csN u d w zz n1).1 i := acc_t (by simp only [decide_eq_true_eq]; omega)
                            rw [← ea3] at hl
                            refine lv_goto (tgt := 150) hx hb dX6_sequences_127 (by decide) ?_
                            refine lv_iload hx hb dX6_sequences_150 (lv_at hl 7 rfl) ?_
                            refine lv_aload_n hx hb dX6_sequences_152 rfl (lv_at hl 2 rfl) ?_
                            refine g_get F hK hP inX6 0 rfl rfl 2 (by decide) gw_578 rfl (v := .int (gI g 1)) rfl dX6_sequences_153 ?_
                            rw [pd]
                            refine lv_isub hx hb dX6_sequences_156 ?_
                            refine lv_aload_n hx hb dX6_sequences_157 rfl (lv_at hl 2 rfl) ?_
                            refine g_get F hK hP inX6 0 rfl rfl 4 (by decide) gw_580 rfl (v := .int (gI g 3)) rfl dX6_sequences_158 ?_
                            rw [pB]
                            refine lv_icmp_gt (tgt := 174) hx hb dX6_sequences_161 (by decide) (fun c_161 => ?_) (fun c_161 => ?_)
                            · have hx161 := (qC (by omega) (by omega) (by omega)).mp c_161
                              have ea4 : acc (· + ·) (fun q9 => decide (q9 < d)) (csN u d w zz n1).1 ((csN u d w zz n1).2.2 * 2) (i + 1) = acc (· + ·) (fun q9 => decide (q9 < d)) (csN u d w zz n1).1 ((csN u d w zz n1).2.2 * 2) i := acc_f (by simp only [decide_eq_false_iff_not]; omega)
                              rw [← ea4] at hl
                              refine lv_aload_n hx hb dX6_sequences_174 rfl (lv_at hl 2 rfl) ?_
                              refine g_get F hK hP inX6 0 rfl rfl 21 (by decide) gw_597 rfl (v := .ref (ad 12)) rfl dX6_sequences_175 ?_
                              refine lv_bipush (v := 60) hx hb dX6_sequences_178 (by decide) ?_
                              refine lv_iload hx hb dX6_sequences_180 (lv_at hl 7 rfl) ?_
                              refine lv_iadd hx hb dX6_sequences_182 ?_
                              rw [e60]
                              refine lv_aload_n hx hb dX6_sequences_183 rfl (lv_at hl 2 rfl) ?_
                              refine g_get F hK hP inX6 0 rfl rfl 2 (by decide) gw_578 rfl (v := .int (gI g 1)) rfl dX6_sequences_184 ?_
                              rw [pd]
                              refine n_sub F (a := B + 1 + i) (b := d) dX6_sequences_187 (by omega) ?_
                              refine lv_dup2_11 hx hb dX6_sequences_188 rfl rfl ?_
                              refine a_ild F hK hP 12 (f := zW (tWa z W3) 1) rfl (j := (B + 1 + i) - d) (by omega) (by decide) dX6_sequences_189 ?_
                              refine lv_iload hx hb dX6_sequences_190 (lv_at hl 1 rfl) ?_
                              refine lv_iadd hx hb dX6_sequences_192 ?_
                              refine a_ist F hK hP hD hS 12 (f := zW (tWa z W3) 1) rfl (j := (B + 1 + i) - d) (by omega) (by decide) dX6_sequences_193 (fun H locs hP hD hS => ?_)
                              have hP : va_P D vwCl (mW ad kA g (tW (tWa z W3) 1 (upd (zW (tWa z W3) 1) ((B + 1 + i) - d) ((zW (tWa z W3) 1 ((B + 1 + i) - d)) + ((csN u d w zz n1).1 i))))) H := hP
                              have hD : va_D A (mW ad kA g (tW (tWa z W3) 1 (upd (zW (tWa z W3) 1) ((B + 1 + i) - d) ((zW (tWa z W3) 1 ((B + 1 + i) - d)) + ((csN u d w zz n1).1 i))))) := hD
                              refine lv_iinc (v := nI (B + 1 + (i + 1)) - 60) (lv' := [(6, .int (nI (B + 1 + (i + 1)) - 60)), (3, .int (acc (· + ·) (fun q9 => decide (w ≤ q9 + u)) (csN u d w zz n1).1 ((csN u d w zz n1).2.1 * 2) (i + 1))), (7, .int ((csN u d w zz n1).1 i)), (0, .ref (ad 0)), (1, .int (nI n)), (2, .int v), (4, .int (acc (· + ·) (fun q9 => decide (q9 < d)) (csN u d w zz n1).1 ((csN u d w zz n1).2.2 * 2) (i + 1))), (5, .int (nI n1))]) hx hb dX6_sequences_194 hl (k := 7) rfl (s60 _) (by decide) rfl (fun ls hl => ?_)
                              refine lv_goto (tgt := 87) hx hb dX6_sequences_197 (by decide) ?_
                              have hM1 : MR B w (W3 1) (sUp (· + ·) (csN u d w zz n1).1 u w i (scat (· + ·) 0 (csN u d w zz n1).1 (csN u d w zz n1).1 u d w i)) := MR_up0 hR3 (by omega)
                              have hM2 : MR B w (vf_upd (W3 1) (B + 1 + i - d) ((W3 1) (B + 1 + i - d) + (csN u d w zz n1).1 i)) (scat (· + ·) 0 (csN u d w zz n1).1 (csN u d w zz n1).1 u d w (i + 1)) := MR_dn (add := (· + ·)) (pd := (csN u d w zz n1).1) (f := W3 1) hM1 (by omega) (by omega)
                              exact ih_87  (i + 1) (vf_upd W3 1 (vf_upd (W3 1) (B + 1 + i - d) ((W3 1) (B + 1 + i - d) + (csN u d w zz n1).1 i))) (by omega) h03 hM2 (by omega) _ _ _ hP hD hS (lv_sub hl [3, 4, 5, 1, 6, 7, 0] rfl)
                            · have hx161 : ¬ B + d < B + 1 + i := fun h => c_161 ((qC (by omega) (by omega) (by omega)).mpr h)
                              refine lv_iload hx hb dX6_sequences_164 (lv_at hl 5 rfl) ?_
                              refine lv_iload hx hb dX6_sequences_166 (lv_at hl 1 rfl) ?_
                              refine lv_iadd hx hb dX6_sequences_168 ?_
                              refine lv_istore (lv' := [(4, .int ((acc (· + ·) (fun q9 => decide (q9 < d)) (csN u d w zz n1).1 ((csN u d w zz n1).2.2 * 2) i) + ((csN u d w zz n1).1 i))), (3, .int (acc (· + ·) (fun q9 => decide (w ≤ q9 + u)) (csN u d w zz n1).1 ((csN u d w zz n1).2.1 * 2) (i + 1))), (7, .int ((csN u d w zz n1).1 i)), (0, .ref (ad 0)), (1, .int (nI n)), (2, .int v), (5, .int (nI n1)), (6, .int (nI (B + 1 + i) - 60))]) hx hb dX6_sequences_169 hl (by decide) rfl (fun ls hl => ?_)
                              have ea4 : acc (· + ·) (fun q9 => decide (q9 < d)) (csN u d w zz n1).1 ((csN u d w zz n1).2.2 * 2) (i + 1) = acc (· + ·) (fun q9 => decide (q9 < d)) (csN u d w zz n1).1 ((csN u d w zz n1).2.2 * 2) i + (csN u d w zz n1).1 i := acc_t (by simp only [decide_eq_true_eq]; omega)
                              rw [← ea4] at hl
                              refine lv_goto (tgt := 194) hx hb dX6_sequences_171 (by decide) ?_
                              refine lv_iinc (v := nI (B + 1 + (i + 1)) - 60) (lv' := [(6, .int (nI (B + 1 + (i + 1)) - 60)), (4, .int (acc (· + ·) (fun q9 => decide (q9 < d)) (csN u d w zz n1).1 ((csN u d w zz n1).2.2 * 2) (i + 1))), (3, .int (acc (· + ·) (fun q9 => decide (w ≤ q9 + u)) (csN u d w zz n1).1 ((csN u d w zz n1).2.1 * 2) (i + 1))), (7, .int ((csN u d w zz n1).1 i)), (0, .ref (ad 0)), (1, .int (nI n)), (2, .int v), (5, .int (nI n1))]) hx hb dX6_sequences_194 hl (k := 7) rfl (s60 _) (by decide) rfl (fun ls hl => ?_)
                              refine lv_goto (tgt := 87) hx hb dX6_sequences_197 (by decide) ?_
                              have hM1 : MR B w (W3 1) (sUp (· + ·) (csN u d w zz n1).1 u w i (scat (· + ·) 0 (csN u d w zz n1).1 (csN u d w zz n1).1 u d w i)) := MR_up0 hR3 (by omega)
                              have hM2 : MR B w (W3 1) (scat (· + ·) 0 (csN u d w zz n1).1 (csN u d w zz n1).1 u d w (i + 1)) := MR_dn0 hM1 (by omega)
                              exact ih_87  (i + 1) W3 (by omega) h03 hM2 (by omega) _ _ _ hP hD hS (lv_sub hl [4, 5, 6, 2, 1, 7, 0] rfl)
                    exact lp_87 _ 0 W2 (Nat.zero_le _) h0 (fun i hi => hZ _ (by omega)) (Nat.lt_succ_self _) _ _ _ hP hD hS (lv_sub hl [1, 2, 3, 4, 5, 6, 0] rfl)
                  · refine lv_aload_n hx hb dX6_sequences_65 rfl (lv_at hl 0 rfl) ?_
                    refine g_get F hK hP inX6 0 rfl rfl 21 (by decide) gw_597 rfl (v := .ref (ad 12)) rfl dX6_sequences_66 ?_
                    refine lv_iload hx hb dX6_sequences_69 (lv_at hl 6 rfl) ?_
                    refine lv_iconst (v := 0) hx hb dX6_sequences_71 (by decide) ?_
                    refine a_ist F hK hP hD hS 12 (f := zW (tWa z W2) 1) rfl (j := k) (by omega) (by decide) dX6_sequences_72 (fun H locs hP hD hS => ?_)
                    have hP : va_P D vwCl (mW ad kA g (tW (tWa z W2) 1 (upd (zW (tWa z W2) 1) k 0))) H := hP
                    have hD : va_D A (mW ad kA g (tW (tWa z W2) 1 (upd (zW (tWa z W2) 1) k 0))) := hD
                    refine lv_iinc (v := nI (k + 1)) (lv' := [(6, .int (nI (k + 1))), (0, .ref (ad 0)), (1, .int (nI n)), (2, .int v), (3, .int ((csN u d w zz n1).2.1 * 2)), (4, .int ((csN u d w zz n1).2.2 * 2)), (5, .int (nI n1))]) hx hb dX6_sequences_73 hl (k := 6) rfl (nI_add k 1) (by decide) rfl (fun ls hl => ?_)
                    refine lv_goto (tgt := 58) hx hb dX6_sequences_76 (by decide) ?_
                    exact ih_58  (k + 1) (vf_upd W2 1 (upd (W2 1) k 0)) (by omega) h0 (up_lt (f := W2 1) (k := k) (x := 0) (h := fun _ => 0) hZ rfl) (by omega) _ _ _ hP hD hS (lv_sub hl [1, 2, 3, 4, 5, 6, 0] rfl)
              exact lp_58 _ 0 W1 (Nat.zero_le _) rfl (fun j hj => absurd hj (Nat.not_lt_zero _)) (Nat.lt_succ_self _) _ _ _ hP hD hS (lv_sub hl [3, 4, 5, 2, 1, 6, 0] rfl)
        exact lp_39 _ 0 W1 (Nat.zero_le _) (fun i hi => by rw [hW _ (by omega)]; show (if B + 1 + i = 60 then (1 : Int32) else 0) = if i = zz then 1 else 0; simp only [show (B + 1 + i = 60) = (i = zz) from propext ⟨by omega, by omega⟩]) (Nat.lt_succ_self _) _ _ _ hP hD hS (lv_sub hl [3, 4, 5, 2, 1, 0] rfl)
      · refine lv_aload_n hx hb dX6_sequences_8 rfl (lv_at hl 0 rfl) ?_
        refine g_get F hK hP inX6 0 rfl rfl 20 (by decide) gw_596 rfl (v := .ref (ad 11)) rfl dX6_sequences_9 ?_
        refine lv_iload_n hx hb dX6_sequences_12 rfl (lv_at hl 3 rfl) ?_
        refine lv_iload_n hx hb dX6_sequences_13 rfl (lv_at hl 3 rfl) ?_
        refine lv_bipush (v := 60) hx hb dX6_sequences_14 (by decide) ?_
        refine b_ne F (a := k) (b := 60) (tgt := 23) dX6_sequences_16 (by decide) (by omega) (by omega) (fun c_16 => ?_) (fun c_16 => ?_)
        · refine lv_iconst (v := 0) hx hb dX6_sequences_23 (by decide) ?_
          refine a_ist F hK hP hD hS 11 (f := zW (tWa z W1) 0) rfl (j := k) (by omega) (by decide) dX6_sequences_24 (fun H locs hP hD hS => ?_)
          have hP : va_P D vwCl (mW ad kA g (tW (tWa z W1) 0 (upd (zW (tWa z W1) 0) k 0))) H := hP
          have hD : va_D A (mW ad kA g (tW (tWa z W1) 0 (upd (zW (tWa z W1) 0) k 0))) := hD
          refine lv_iinc (v := nI (k + 1)) (lv' := [(3, .int (nI (k + 1))), (0, .ref (ad 0)), (1, .int (nI n)), (2, .int v)]) hx hb dX6_sequences_25 hl (k := 3) rfl (nI_add k 1) (by decide) rfl (fun ls hl => ?_)
          refine lv_goto (tgt := 2) hx hb dX6_sequences_28 (by decide) ?_
          exact ih_2  (k + 1) (vf_upd W1 0 (upd (W1 0) k 0)) (by omega) (up_lt (f := W1 0) (k := k) (x := 0) (h := fun j => if j = 60 then 1 else 0) hW (by rw [if_neg c_16])) (by omega) _ _ _ hP hD hS (lv_sub hl [1, 2, 3, 0] rfl)
        · refine lv_iconst (v := 1) hx hb dX6_sequences_19 (by decide) ?_
          refine lv_goto (tgt := 24) hx hb dX6_sequences_20 (by decide) ?_
          refine a_ist F hK hP hD hS 11 (f := zW (tWa z W1) 0) rfl (j := k) (by omega) (by decide) dX6_sequences_24 (fun H locs hP hD hS => ?_)
          have hP : va_P D vwCl (mW ad kA g (tW (tWa z W1) 0 (upd (zW (tWa z W1) 0) k 1))) H := hP
          have hD : va_D A (mW ad kA g (tW (tWa z W1) 0 (upd (zW (tWa z W1) 0) k 1))) := hD
          refine lv_iinc (v := nI (k + 1)) (lv' := [(3, .int (nI (k + 1))), (0, .ref (ad 0)), (1, .int (nI n)), (2, .int v)]) hx hb dX6_sequences_25 hl (k := 3) rfl (nI_add k 1) (by decide) rfl (fun ls hl => ?_)
          refine lv_goto (tgt := 2) hx hb dX6_sequences_28 (by decide) ?_
          exact ih_2  (k + 1) (vf_upd W1 0 (upd (W1 0) k 1)) (by omega) (up_lt (f := W1 0) (k := k) (x := 1) (h := fun j => if j = 60 then 1 else 0) hW (by rw [if_pos c_16])) (by omega) _ _ _ hP hD hS (lv_sub hl [1, 2, 3, 0] rfl)
  exact lp_2 _ 0 (zW z) (Nat.zero_le _) (fun j hj => absurd hj (Nat.not_lt_zero _)) (Nat.lt_succ_self _) _ _ _ hP hD hS (lv_sub hl [1, 2, 3, 0] rfl)
