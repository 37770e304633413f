set_option maxRecDepth 100000 in
set_option maxHeartbeats 4000000 in
theorem kJ9_floorMod_7cf53 (l : Launch) (D : va_G) (kA : Nat → ClassId) (sz : Nat) (x : Nat) (hx0 : x < 2 ^ 31) : CtI l yJ9_floorMod_7cf53 cJ9_floorMod_7cf53 3 .int 0 D kA sz ([]) [.int (nI x), .int 16] (fun r uu => r = nI (x % 16) ∧ uu = []) := by
  refine ct_iF (own := RJ9) (by decide +kernel) rfl (Nat.le_of_ble_eq_true rfl) ?_
  intro p_ e_ s_ m_ ar_ bw_ me_ co_ A ls Q F hnm hK hA hP hD hS hl hsz rt
  have hx := F.1
  have hb := F.2.1
  have hl : lv_has ls 3 [(0, .int (nI x)), (1, .int 16)] := hl
  have hP : va_P D vwCl ([]) s_.heap := hP
  refine lv_iload_n hx hb dJ9_floorMod_7cf53_0 rfl (lv_at hl 0 rfl) ?_
  refine lv_iload_n hx hb dJ9_floorMod_7cf53_1 rfl (lv_at hl 1 rfl) ?_
  refine n_rem F (a := x) (b := 16) dJ9_floorMod_7cf53_2 (by omega) (by omega) (by omega) ?_
  refine lv_istore_n (lv' := [(2, .int (nI (x % 16))), (0, .int (nI x)), (1, .int 16)]) hx hb dJ9_floorMod_7cf53_3 rfl hl (by decide) rfl (fun ls hl => ?_)
  refine lv_iload_n hx hb dJ9_floorMod_7cf53_4 rfl (lv_at hl 1 rfl) ?_
  refine lv_iload_n hx hb dJ9_floorMod_7cf53_5 rfl (lv_at hl 2 rfl) ?_
  refine lv_ixor hx hb dJ9_floorMod_7cf53_6 ?_
  rw [show (16 : Int32) = nI 16 from rfl, xorI]
  refine b_ge0 F (a := x ^^^ 16) (tgt := 18) dJ9_floorMod_7cf53_7 (by decide) (Nat.xor_lt_two_pow hx0 (by decide)) ?_
  refine lv_iload_n hx hb dJ9_floorMod_7cf53_18 rfl (lv_at hl 0 rfl) ?_
  exact rt _ ([]) _ _ _ _ hP hD hS dJ9_floorMod_7cf53_19 (⟨rfl, rfl⟩)

set_option maxRecDepth 100000 in
set_option maxHeartbeats 4000000 in
theorem kJ9_max_7cf53 (l : Launch) (D : va_G) (kA : Nat → ClassId) (sz : Nat) (x y : Int32)  : CtI l yJ9_max_7cf53 cJ9_max_7cf53 2 .int 0 D kA sz ([]) [.int x, .int y] (fun r uu => (r = if x < y then y else x) ∧ uu = []) := by
  refine ct_iF (own := RJ9) (by decide +kernel) rfl (Nat.le_of_ble_eq_true rfl) ?_
  intro p_ e_ s_ m_ ar_ bw_ me_ co_ A ls Q F hnm hK hA hP hD hS hl hsz rt
  have hx := F.1
  have hb := F.2.1
  have hl : lv_has ls 2 [(0, .int x), (1, .int y)] := hl
  have hP : va_P D vwCl ([]) s_.heap := hP
  refine lv_iload_n hx hb dJ9_max_7cf53_0 rfl (lv_at hl 0 rfl) ?_
  refine lv_iload_n hx hb dJ9_max_7cf53_1 rfl (lv_at hl 1 rfl) ?_
  refine lv_icmp_lt (tgt := 9) hx hb dJ9_max_7cf53_2 (by decide) (fun c_2 => ?_) (fun c_2 => ?_)
  · refine lv_iload_n hx hb dJ9_max_7cf53_9 rfl (lv_at hl 1 rfl) ?_
    exact rt _ ([]) _ _ _ _ hP hD hS dJ9_max_7cf53_10 (⟨(if_pos c_2).symm, rfl⟩)
  · refine lv_iload_n hx hb dJ9_max_7cf53_5 rfl (lv_at hl 0 rfl) ?_
    refine lv_goto (tgt := 10) hx hb dJ9_max_7cf53_6 (by decide) ?_
    exact rt _ ([]) _ _ _ _ hP hD hS dJ9_max_7cf53_10 (⟨(if_neg c_2).symm, rfl⟩)

set_option maxRecDepth 100000 in
set_option maxHeartbeats 4000000 in
theorem kJ9_min_7cf53 (l : Launch) (D : va_G) (kA : Nat → ClassId) (sz : Nat) (x y : Int32)  : CtI l yJ9_min_7cf53 cJ9_min_7cf53 2 .int 0 D kA sz ([]) [.int x, .int y] (fun r uu => (r = if y < x then y else x) ∧ uu = []) := by
  refine ct_iF (own := RJ9) (by decide +kernel) rfl (Nat.le_of_ble_eq_true rfl) ?_
  intro p_ e_ s_ m_ ar_ bw_ me_ co_ A ls Q F hnm hK hA hP hD hS hl hsz rt
  have hx := F.1
  have hb := F.2.1
  have hl : lv_has ls 2 [(0, .int x), (1, .int y)] := hl
  have hP : va_P D vwCl ([]) s_.heap := hP
  refine lv_iload_n hx hb dJ9_min_7cf53_0 rfl (lv_at hl 0 rfl) ?_
  refine lv_iload_n hx hb dJ9_min_7cf53_1 rfl (lv_at hl 1 rfl) ?_
  refine lv_icmp_gt (tgt := 9) hx hb dJ9_min_7cf53_2 (by decide) (fun c_2 => ?_) (fun c_2 => ?_)
  · refine lv_iload_n hx hb dJ9_min_7cf53_9 rfl (lv_at hl 1 rfl) ?_
    exact rt _ ([]) _ _ _ _ hP hD hS dJ9_min_7cf53_10 (⟨(if_pos c_2).symm, rfl⟩)
  · refine lv_iload_n hx hb dJ9_min_7cf53_5 rfl (lv_at hl 0 rfl) ?_
    refine lv_goto (tgt := 10) hx hb dJ9_min_7cf53_6 (by decide) ?_
    exact rt _ ([]) _ _ _ _ hP hD hS dJ9_min_7cf53_10 (⟨(if_neg c_2).symm, rfl⟩)

set_option maxRecDepth 100000 in
set_option maxHeartbeats 4000000 in
theorem kJ7_fill_53178 (l : Launch) (D : va_G) (kA : Nat → ClassId) (sz : Nat) (a n : Nat) (f : Nat → Int32) (v : Int32) (hn : n < 2 ^ 20) : CtV l yJ7_fill_53178 cJ7_fill_53178 4 0 0 0 D kA sz (arI a kA n f) [.ref a, .int v] (fun uu => ∃ f1, (∀ j, j < n → f1 j = v) ∧ uu = arI a kA n f1) := by
  refine ct_v (own := RJ7) (by decide) rfl (Nat.le_of_ble_eq_true rfl) ?_
  intro p_ e_ s_ m_ ar_ bw_ me_ co_ A ls Q F hnm hK hA hP hD hS hl hsz rt
  have hx := F.1
  have hb := F.2.1
  have hl : lv_has ls 4 [(0, .ref a), (1, .int v)] := hl
  have hP : va_P D vwCl (arI a kA n f) s_.heap := hP
  refine lv_iconst (v := 0) hx hb dJ7_fill_53178_0 (by decide) ?_
  refine lv_istore_n (lv' := [(2, .int 0), (0, .ref a), (1, .int v)]) hx hb dJ7_fill_53178_1 rfl hl (by decide) rfl (fun ls hl => ?_)
  refine lv_aload_n hx hb dJ7_fill_53178_2 rfl (lv_at hl 1 rfl) ?_
  refine a_len F hK hP 0 0 rfl rfl dJ7_fill_53178_3 ?_
  refine lv_istore_n (lv' := [(3, .int (nI n)), (2, .int 0), (0, .ref a), (1, .int v)]) hx hb dJ7_fill_53178_4 rfl hl (by decide) rfl (fun ls hl => ?_)
  have lp_5 : ∀ (n_5 : Nat) (k : Nat) (f1 : Nat → Int32), (k ≤ n) → (∀ j, j < k → f1 j = v) → (n - k) < n_5 → ∀ (H : Heap) (locs : List Loc) (ls : Array Slot), va_P D vwCl (arI a kA n f1) H → va_D A (arI a kA n f1) → va_S A s_.heap H locs → lv_has ls 4 [(0, .ref a), (1, .int v), (2, .int (nI k)), (3, .int (nI n))] → W p_ l e_ (rmC 0 0 0) s_ m_ ar_ bw_ me_ co_ H locs 0 0 Q (F0 m_ 5 ls []) := by
    intro n_5
    induction n_5 with
    | zero =>
      intro k f1 hk hF hm_5
      exact absurd hm_5 (Nat.not_lt_zero _)
    | succ n_5 ih_5 =>
      intro k f1 hk hF hm_5 H locs ls hP hD hS hl
      refine lv_iload_n hx hb dJ7_fill_53178_5 rfl (lv_at hl 2 rfl) ?_
      refine lv_iload_n hx hb dJ7_fill_53178_6 rfl (lv_at hl 3 rfl) ?_
      refine b_ge F (a := k) (b := n) (tgt := 20) dJ7_fill_53178_7 (by decide) (by omega) (by omega) (fun c_7 => ?_) (fun c_7 => ?_)
      · exact rt (arI a kA n f1) _ _ _ _ hP hD hS dJ7_fill_53178_20 (⟨f1, fun j hj => hF j (by omega), rfl⟩)
      · refine lv_aload_n hx hb dJ7_fill_53178_10 rfl (lv_at hl 0 rfl) ?_
        refine lv_iload_n hx hb dJ7_fill_53178_11 rfl (lv_at hl 2 rfl) ?_
        refine lv_iload_n hx hb dJ7_fill_53178_12 rfl (lv_at hl 1 rfl) ?_
        refine a_ist F hK hP hD hS 0 (f := f1) rfl (j := k) (by omega) (by omega) dJ7_fill_53178_13 (fun H locs hP hD hS => ?_)
        have hP : va_P D vwCl (arI a kA n (upd f1 k v)) H := hP
        have hD : va_D A (arI a kA n (upd f1 k v)) := hD
        refine lv_iinc (v := nI (k + 1)) (lv' := [(2, .int (nI (k + 1))), (0, .ref a), (1, .int v), (3, .int (nI n))]) hx hb dJ7_fill_53178_14 hl (k := 2) rfl (nI_add k 1) (by decide) rfl (fun ls hl => ?_)
        refine lv_goto (tgt := 5) hx hb dJ7_fill_53178_17 (by decide) ?_
        exact ih_5  (k + 1) (vf_upd f1 k v) (by omega) (up_lt (f := f1) (k := k) (x := v) (h := fun _ => v) hF rfl) (by omega) _ _ _ hP hD hS (lv_sub hl [1, 2, 0, 3] rfl)
  exact lp_5 _ 0 f (Nat.zero_le _) (fun j hj => absurd hj (Nat.not_lt_zero _)) (Nat.lt_succ_self _) _ _ _ hP hD hS (lv_sub hl [2, 3, 1, 0] rfl)

set_option maxRecDepth 100000 in
set_option maxHeartbeats 4000000 in
theorem kJ7_fill_7f8df (l : Launch) (D : va_G) (kA : Nat → ClassId) (sz : Nat) (a n : Nat) (f : Nat → UInt64) (v : UInt64) (hn : n < 2 ^ 20) : CtV l yJ7_fill_7f8df cJ7_fill_7f8df 5 0 0 0 D kA sz (arD a kA n f) [.ref a, .double v] (fun uu => ∃ f1, (∀ j, j < n → f1 j = v) ∧ uu = arD a kA n f1) := by
  refine ct_v (own := RJ7) (by decide) rfl (Nat.le_of_ble_eq_true rfl) ?_
  intro p_ e_ s_ m_ ar_ bw_ me_ co_ A ls Q F hnm hK hA hP hD hS hl hsz rt
  have hx := F.1
  have hb := F.2.1
  have hl : lv_has ls 5 [(0, .ref a), (1, .double v)] := hl
  have hP : va_P D vwCl (arD a kA n f) s_.heap := hP
  refine lv_iconst (v := 0) hx hb dJ7_fill_7f8df_0 (by decide) ?_
  refine lv_istore_n (lv' := [(3, .int 0), (0, .ref a), (1, .double v)]) hx hb dJ7_fill_7f8df_1 rfl hl (by decide) rfl (fun ls hl => ?_)
  refine lv_aload_n hx hb dJ7_fill_7f8df_2 rfl (lv_at hl 1 rfl) ?_
  refine a_len F hK hP 0 3 rfl rfl dJ7_fill_7f8df_3 ?_
  refine lv_istore (lv' := [(4, .int (nI n)), (3, .int 0), (0, .ref a), (1, .double v)]) hx hb dJ7_fill_7f8df_4 hl (by decide) rfl (fun ls hl => ?_)
  have lp_6 : ∀ (n_6 : Nat) (k : Nat) (f1 : Nat → UInt64), (k ≤ n) → (∀ j, j < k → f1 j = v) → (n - k) < n_6 → ∀ (H : Heap) (locs : List Loc) (ls : Array Slot), va_P D vwCl (arD a kA n f1) H → va_D A (arD a kA n f1) → va_S A s_.heap H locs → lv_has ls 5 [(0, .ref a), (1, .double v), (3, .int (nI k)), (4, .int (nI n))] → W p_ l e_ (rmC 0 0 0) s_ m_ ar_ bw_ me_ co_ H locs 0 0 Q (F0 m_ 6 ls []) := by
    intro n_6
    induction n_6 with
    | zero =>
      intro k f1 hk hF hm_6
      exact absurd hm_6 (Nat.not_lt_zero _)
    | succ n_6 ih_6 =>
      intro k f1 hk hF hm_6 H locs ls hP hD hS hl
      refine lv_iload_n hx hb dJ7_fill_7f8df_6 rfl (lv_at hl 2 rfl) ?_
      refine lv_iload hx hb dJ7_fill_7f8df_7 (lv_at hl 3 rfl) ?_
      refine b_ge F (a := k) (b := n) (tgt := 22) dJ7_fill_7f8df_9 (by decide) (by omega) (by omega) (fun c_9 => ?_) (fun c_9 => ?_)
      · exact rt (arD a kA n f1) _ _ _ _ hP hD hS dJ7_fill_7f8df_22 (⟨f1, fun j hj => hF j (by omega), rfl⟩)
      · refine lv_aload_n hx hb dJ7_fill_7f8df_12 rfl (lv_at hl 0 rfl) ?_
        refine lv_iload_n hx hb dJ7_fill_7f8df_13 rfl (lv_at hl 2 rfl) ?_
        refine lv_dload_n hx hb dJ7_fill_7f8df_14 rfl (lv_at hl 1 rfl) ?_
        refine a_dst F hK hP hD hS 0 (f := f1) rfl (j := k) (by omega) (by omega) dJ7_fill_7f8df_15 (fun H locs hP hD hS => ?_)
        have hP : va_P D vwCl (arD a kA n (vf_upd f1 k v)) H := hP
        have hD : va_D A (arD a kA n (vf_upd f1 k v)) := hD
        refine lv_iinc (v := nI (k + 1)) (lv' := [(3, .int (nI (k + 1))), (0, .ref a), (1, .double v), (4, .int (nI n))]) hx hb dJ7_fill_7f8df_16 hl (k := 2) rfl (nI_add k 1) (by decide) rfl (fun ls hl => ?_)
        refine lv_goto (tgt := 6) hx hb dJ7_fill_7f8df_19 (by decide) ?_
        exact ih_6  (k + 1) (vf_upd f1 k v) (by omega) (up_lt (f := f1) (k := k) (x := v) (h := fun _ => v) hF rfl) (by omega) _ _ _ hP hD hS (lv_sub hl [1, 2, 0, 3] rfl)
  exact lp_6 _ 0 f (Nat.zero_le _) (fun j hj => absurd hj (Nat.not_lt_zero _)) (Nat.lt_succ_self _) _ _ _ hP hD hS (lv_sub hl [2, 3, 1, 0] rfl)

set_option maxRecDepth 100000 in
set_option maxHeartbeats 4000000 in
theorem kX0_init (l : Launch) (D : va_G) (kA : Nat → ClassId) (sz : Nat) (a : Nat) (sc bl : Int32) (se : Int64) (st wr : Int32)  : CtV l yX0_init cX0_init 1 1 0 0 D kA sz (clC a sc bl se st wr) [.ref a] (fun uu => uu = clC a sc bl se st wr) := by
  refine ct_v (own := RX0) (by decide) rfl (Nat.le_of_ble_eq_true rfl) ?_
  intro p_ e_ s_ m_ ar_ bw_ me_ co_ A ls Q F hnm hK hA hP hD hS hl hsz rt
  have hx := F.1
  have hb := F.2.1
  have hl : lv_has ls 1 [(0, .ref a)] := hl
  have hP : va_P D vwCl (clC a sc bl se st wr) s_.heap := hP
  refine lv_aload_n hx hb dX0_init_0 rfl (lv_at hl 0 rfl) ?_
  refine W.objInit hx hb F.2.2.2.1 (F.2.2.2.2 _ gw_90) (F.2.2.2.2 _ gw_82) (F.2.2.2.2 _ gw_83) rfl (by rw [F.2.2.1]; exact hl.1) rfl dX0_init_1 (Nat.le_of_ble_eq_true rfl) (Nat.le_of_ble_eq_true rfl) ?_
  refine W.eq (g2 := F0 m_ 4 ls []) rfl ?_
  exact rt (clC a sc bl se st wr) _ _ _ _ hP hD hS dX0_init_4 (rfl)

set_option maxRecDepth 100000 in
set_option maxHeartbeats 4000000 in
theorem kX0_forget (l : Launch) (D : va_G) (kA : Nat → ClassId) (sz : Nat) (a : Nat) (sc bl : Int32) (se : Int64) (st wr : Int32)  : CtV l yX0_forget cX0_forget 1 0 0 0 D kA sz (clC a sc bl se st wr) [.ref a] (fun uu => uu = clC a 0 bl 0 st wr) := by
  refine ct_v (own := RX0) (by decide) rfl (Nat.le_of_ble_eq_true rfl) ?_
  intro p_ e_ s_ m_ ar_ bw_ me_ co_ A ls Q F hnm hK hA hP hD hS hl hsz rt
  have hx := F.1
  have hb := F.2.1
  have hl : lv_has ls 1 [(0, .ref a)] := hl
  have hP : va_P D vwCl (clC a sc bl se st wr) s_.heap := hP
  refine lv_aload_n hx hb dX0_forget_0 rfl (lv_at hl 0 rfl) ?_
  refine lv_iconst (v := 0) hx hb dX0_forget_1 (by decide) ?_
  refine g_put F hK hP hD hS inX0 tyX0_ok nmX0 0 rfl rfl 0 (by decide) gw_91 rfl rfl rfl rfl (Nat.le_of_ble_eq_true rfl) dX0_forget_2 (fun H locs hP hD hS => ?_)
  have hP : va_P D vwCl (clC a 0 bl se st wr) H := hP
  have hD : va_D A (clC a 0 bl se st wr) := hD
  refine lv_aload_n hx hb dX0_forget_5 rfl (lv_at hl 0 rfl) ?_
  refine lv_lconst (v := 0) hx hb dX0_forget_6 (by decide) ?_
  refine g_put F hK hP hD hS inX0 tyX0_ok nmX0 0 rfl rfl 2 (by decide) gw_95 rfl rfl rfl rfl (Nat.le_of_ble_eq_true rfl) dX0_forget_7 (fun H locs hP hD hS => ?_)
  have hP : va_P D vwCl (clC a 0 bl 0 st wr) H := hP
  have hD : va_D A (clC a 0 bl 0 st wr) := hD
  exact rt (clC a 0 bl 0 st wr) _ _ _ _ hP hD hS dX0_forget_10 (rfl)

set_option maxRecDepth 100000 in
set_option maxHeartbeats 4000000 in
theorem kX0_reset (l : Launch) (D : va_G) (kA : Nat → ClassId) (sz : Nat) (a : Nat) (sc bl : Int32) (se : Int64) (st wr : Int32)  : CtV l yX0_reset cX0_reset 1 1 0 0 D kA sz (clC a sc bl se st wr) [.ref a] (fun uu => uu = clC a 0 0 0 0 0) := by
  refine ct_v (own := RX0) (by decide) rfl (Nat.le_of_ble_eq_true rfl) ?_
  intro p_ e_ s_ m_ ar_ bw_ me_ co_ A ls Q F hnm hK hA hP hD hS hl hsz rt
  have hx := F.1
  have hb := F.2.1
  have hl : lv_has ls 1 [(0, .ref a)] := hl
  have hP : va_P D vwCl (clC a sc bl se st wr) s_.heap := hP
  refine lv_aload_n hx hb dX0_reset_0 rfl (lv_at hl 0 rfl) ?_
  refine cl_V_v (wc := (clC a sc bl se st wr)) (As := []) (rest := []) (b := a) (C := RX0) F hK hP hD hS hA (kX0_forget l D kA _ a sc bl se st wr) gw_252 gw_66 gw_249 gw_251 gw_3 (va_recv hK.1 hP (ci := 0) (q0 := 0) rfl rfl) hdX0_forget ⟨Nat.le_of_ble_eq_true rfl, Nat.le_of_ble_eq_true rfl⟩ hl.1 rfl (Nat.le_of_ble_eq_true rfl) dX0_reset_1 ⟨Nat.le_of_ble_eq_true rfl, Nat.le_of_ble_eq_true rfl⟩ (fun u_1 H locs hw hP1 hD1 hk1 hFc hS => ?_)
  obtain rfl := hw
  have hP : va_P D vwCl (clC a 0 bl 0 st wr) H := hP1
  have hD : va_D A (clC a 0 bl 0 st wr) := hD1.weaken (fun _ _ _ h => hFc _ h)
  refine lv_aload_n hx hb dX0_reset_4 rfl (lv_at hl 0 rfl) ?_
  refine lv_iconst (v := 0) hx hb dX0_reset_5 (by decide) ?_
  refine g_put F hK hP hD hS inX0 tyX0_ok nmX0 0 rfl rfl 1 (by decide) gw_93 rfl rfl rfl rfl (Nat.le_of_ble_eq_true rfl) dX0_reset_6 (fun H locs hP hD hS => ?_)
  have hP : va_P D vwCl (clC a 0 0 0 st wr) H := hP
  have hD : va_D A (clC a 0 0 0 st wr) := hD
  refine lv_aload_n hx hb dX0_reset_9 rfl (lv_at hl 0 rfl) ?_
  refine lv_iconst (v := 0) hx hb dX0_reset_10 (by decide) ?_
  refine g_put F hK hP hD hS inX0 tyX0_ok nmX0 0 rfl rfl 3 (by decide) gw_97 rfl rfl rfl rfl (Nat.le_of_ble_eq_true rfl) dX0_reset_11 (fun H locs hP hD hS => ?_)
  have hP : va_P D vwCl (clC a 0 0 0 0 wr) H := hP
  have hD : va_D A (clC a 0 0 0 0 wr) := hD
  refine lv_aload_n hx hb dX0_reset_14 rfl (lv_at hl 0 rfl) ?_
  refine lv_iconst (v := 0) hx hb dX0_reset_15 (by decide) ?_
  refine g_put F hK hP hD hS inX0 tyX0_ok nmX0 0 rfl rfl 4 (by decide) gw_99 rfl rfl rfl rfl (Nat.le_of_ble_eq_true rfl) dX0_reset_16 (fun H locs hP hD hS => ?_)
  have hP : va_P D vwCl (clC a 0 0 0 0 0) H := hP
  have hD : va_D A (clC a 0 0 0 0 0) := hD
  exact rt (clC a 0 0 0 0 0) _ _ _ _ hP hD hS dX0_reset_19 (rfl)

set_option maxRecDepth 100000 in
set_option maxHeartbeats 4000000 in
theorem kX0_hasSeen (l : Launch) (D : va_G) (kA : Nat → ClassId) (sz : Nat) (a : Nat) (sc bl : Int32) (se : Int64) (st wr : Int32) (d : Nat)  : CtI l yX0_hasSeen cX0_hasSeen 2 .boolean 0 D kA sz (clC a sc bl se st wr) [.ref a, .int (nI d)] (fun r uu => (r = if bitq se d = 1 then 1 else 0) ∧ uu = clC a sc bl se st wr) := by
  refine ct_z (own := RX0) (by decide) rfl (Nat.le_of_ble_eq_true rfl) ?_
  intro p_ e_ s_ m_ ar_ bw_ me_ co_ A ls Q F hnm hK hA hP hD hS hl hsz rt
  have hx := F.1
  have hb := F.2.1
  have hl : lv_has ls 2 [(0, .ref a), (1, .int (nI d))] := hl
  have hP : va_P D vwCl (clC a sc bl se st wr) s_.heap := hP
  refine lv_aload_n hx hb dX0_hasSeen_0 rfl (lv_at hl 0 rfl) ?_
  refine g_get F hK hP inX0 0 rfl rfl 2 (by decide) gw_95 rfl (v := .long se) rfl dX0_hasSeen_1 ?_
  refine lv_iload_n hx hb dX0_hasSeen_4 rfl (lv_at hl 1 rfl) ?_
  refine lv_lshr (v := se >>> ((nI d).toInt64 &&& 63)) hx hb dX0_hasSeen_5 rfl ?_
  refine lv_lconst (v := 1) hx hb dX0_hasSeen_6 (by decide) ?_
  refine lv_land hx hb dX0_hasSeen_7 ?_
  refine lv_lconst (v := 0) hx hb dX0_hasSeen_8 (by decide) ?_
  refine W.lcmp hx hb dX0_hasSeen_9 ?_
  refine b_lceq F (tgt := 17) dX0_hasSeen_10 (by decide) (fun c_10 => ?_) (fun c_10 => ?_)
  · refine lv_iconst (v := 0) hx hb dX0_hasSeen_17 (by decide) ?_
    exact rt _ (clC a sc bl se st wr) _ _ _ _ hP hD hS dX0_hasSeen_18 rfl (⟨(if_neg (bit_no c_10)).symm, rfl⟩)
  · refine lv_iconst (v := 1) hx hb dX0_hasSeen_13 (by decide) ?_
    refine lv_goto (tgt := 18) hx hb dX0_hasSeen_14 (by decide) ?_
    exact rt _ (clC a sc bl se st wr) _ _ _ _ hP hD hS dX0_hasSeen_18 rfl (⟨(if_pos (bit_if _ _ c_10)).symm, rfl⟩)

set_option maxRecDepth 100000 in
set_option maxHeartbeats 4000000 in
theorem kX0_see (l : Launch) (D : va_G) (kA : Nat → ClassId) (sz : Nat) (a : Nat) (sc bl : Int32) (se : Int64) (st wr : Int32) (d : Nat)  : CtV l yX0_see cX0_see 2 0 0 0 D kA sz (clC a sc bl se st wr) [.ref a, .int (nI d)] (fun uu => uu = clC a sc bl (se ||| (1 <<< ((nI d).toInt64 &&& 63))) st wr) := by
  refine ct_v (own := RX0) (by decide) rfl (Nat.le_of_ble_eq_true rfl) ?_
  intro p_ e_ s_ m_ ar_ bw_ me_ co_ A ls Q F hnm hK hA hP hD hS hl hsz rt
  have hx := F.1
  have hb := F.2.1
  have hl : lv_has ls 2 [(0, .ref a), (1, .int (nI d))] := hl
  have hP : va_P D vwCl (clC a sc bl se st wr) s_.heap := hP
  refine lv_aload_n hx hb dX0_see_0 rfl (lv_at hl 0 rfl) ?_
  refine lv_aload_n hx hb dX0_see_1 rfl (lv_at hl 0 rfl) ?_
  refine g_get F hK hP inX0 0 rfl rfl 2 (by decide) gw_95 rfl (v := .long se) rfl dX0_see_2 ?_
  refine lv_lconst (v := 1) hx hb dX0_see_5 (by decide) ?_
  refine lv_iload_n hx hb dX0_see_6 rfl (lv_at hl 1 rfl) ?_
  refine lv_lshl (v := 1 <<< ((nI d).toInt64 &&& 63)) hx hb dX0_see_7 rfl ?_
  refine lv_lor hx hb dX0_see_8 ?_
  refine g_put F hK hP hD hS inX0 tyX0_ok nmX0 0 rfl rfl 2 (by decide) gw_95 rfl rfl rfl rfl (Nat.le_of_ble_eq_true rfl) dX0_see_9 (fun H locs hP hD hS => ?_)
  have hP : va_P D vwCl (clC a sc bl (se ||| (1 <<< ((nI d).toInt64 &&& 63))) st wr) H := hP
  have hD : va_D A (clC a sc bl (se ||| (1 <<< ((nI d).toInt64 &&& 63))) st wr) := hD
  exact rt (clC a sc bl (se ||| (1 <<< ((nI d).toInt64 &&& 63))) st wr) _ _ _ _ hP hD hS dX0_see_12 (rfl)

set_option maxRecDepth 100000 in
set_option maxHeartbeats 4000000 in
theorem kX0_stopAttempt (l : Launch) (D : va_G) (kA : Nat → ClassId) (sz : Nat) (a : Nat) (sc bl : Int32) (se : Int64) (st wr : Int32)  : CtV l yX0_stopAttempt cX0_stopAttempt 1 0 0 0 D kA sz (clC a sc bl se st wr) [.ref a] (fun uu => uu = clC a sc bl se (st + 1) wr) := by
  refine ct_v (own := RX0) (by decide) rfl (Nat.le_of_ble_eq_true rfl) ?_
  intro p_ e_ s_ m_ ar_ bw_ me_ co_ A ls Q F hnm hK hA hP hD hS hl hsz rt
  have hx := F.1
  have hb := F.2.1
  have hl : lv_has ls 1 [(0, .ref a)] := hl
  have hP : va_P D vwCl (clC a sc bl se st wr) s_.heap := hP
  refine lv_aload_n hx hb dX0_stopAttempt_0 rfl (lv_at hl 0 rfl) ?_
  refine lv_dup hx hb dX0_stopAttempt_1 rfl ?_
  refine g_get F hK hP inX0 0 rfl rfl 3 (by decide) gw_97 rfl (v := .int st) rfl dX0_stopAttempt_2 ?_
  refine lv_iconst (v := 1) hx hb dX0_stopAttempt_5 (by decide) ?_
  refine lv_iadd hx hb dX0_stopAttempt_6 ?_
  refine g_put F hK hP hD hS inX0 tyX0_ok nmX0 0 rfl rfl 3 (by decide) gw_97 rfl rfl rfl rfl (Nat.le_of_ble_eq_true rfl) dX0_stopAttempt_7 (fun H locs hP hD hS => ?_)
  have hP : va_P D vwCl (clC a sc bl se (st + 1) wr) H := hP
  have hD : va_D A (clC a sc bl se (st + 1) wr) := hD
  exact rt (clC a sc bl se (st + 1) wr) _ _ _ _ hP hD hS dX0_stopAttempt_10 (rfl)

set_option maxRecDepth 100000 in
set_option maxHeartbeats 4000000 in
theorem kX0_stopConnect (l : Launch) (D : va_G) (kA : Nat → ClassId) (sz : Nat) (a : Nat) (sc bl : Int32) (se : Int64) (st wr : Int32) (b : Int32)  : CtV l yX0_stopConnect cX0_stopConnect 2 0 0 0 D kA sz (clC a sc bl se st wr) [.ref a, .int b] (fun uu => uu = clC a sc bl se (st + 1) (wr + if b = 0 then 0 else 1)) := by
  refine ct_v (own := RX0) (by decide) rfl (Nat.le_of_ble_eq_true rfl) ?_
  intro p_ e_ s_ m_ ar_ bw_ me_ co_ A ls Q F hnm hK hA hP hD hS hl hsz rt
  have hx := F.1
  have hb := F.2.1
  have hl : lv_has ls 2 [(0, .ref a), (1, .int b)] := hl
  have hP : va_P D vwCl (clC a sc bl se st wr) s_.heap := hP
  refine lv_aload_n hx hb dX0_stopConnect_0 rfl (lv_at hl 0 rfl) ?_
  refine lv_dup hx hb dX0_stopConnect_1 rfl ?_
  refine g_get F hK hP inX0 0 rfl rfl 3 (by decide) gw_97 rfl (v := .int st) rfl dX0_stopConnect_2 ?_
  refine lv_iconst (v := 1) hx hb dX0_stopConnect_5 (by decide) ?_
  refine lv_iadd hx hb dX0_stopConnect_6 ?_
  refine g_put F hK hP hD hS inX0 tyX0_ok nmX0 0 rfl rfl 3 (by decide) gw_97 rfl rfl rfl rfl (Nat.le_of_ble_eq_true rfl) dX0_stopConnect_7 (fun H locs hP hD hS => ?_)
  have hP : va_P D vwCl (clC a sc bl se (st + 1) wr) H := hP
  have hD : va_D A (clC a sc bl se (st + 1) wr) := hD
  refine lv_iload_n hx hb dX0_stopConnect_10 rfl (lv_at hl 1 rfl) ?_
  refine lv_if_eq (tgt := 24) hx hb dX0_stopConnect_11 (by decide) (fun c_11 => ?_) (fun c_11 => ?_)
  · exact rt (clC a sc bl se (st + 1) wr) _ _ _ _ hP hD hS dX0_stopConnect_24 ((by rw [if_pos c_11, Int32.add_zero]))
  · refine lv_aload_n hx hb dX0_stopConnect_14 rfl (lv_at hl 0 rfl) ?_
    refine lv_dup hx hb dX0_stopConnect_15 rfl ?_
    refine g_get F hK hP inX0 0 rfl rfl 4 (by decide) gw_99 rfl (v := .int wr) rfl dX0_stopConnect_16 ?_
    refine lv_iconst (v := 1) hx hb dX0_stopConnect_19 (by decide) ?_
    refine lv_iadd hx hb dX0_stopConnect_20 ?_
    refine g_put F hK hP hD hS inX0 tyX0_ok nmX0 0 rfl rfl 4 (by decide) gw_99 rfl rfl rfl rfl (Nat.le_of_ble_eq_true rfl) dX0_stopConnect_21 (fun H locs hP hD hS => ?_)
    have hP : va_P D vwCl (clC a sc bl se (st + 1) (wr + 1)) H := hP
    have hD : va_D A (clC a sc bl se (st + 1) (wr + 1)) := hD
    exact rt (clC a sc bl se (st + 1) (wr + 1)) _ _ _ _ hP hD hS dX0_stopConnect_24 ((by rw [if_neg c_11]))

set_option maxRecDepth 100000 in
set_option maxHeartbeats 4000000 in
theorem kX1_put (l : Launch) (D : va_G) (kA : Nat → ClassId) (sz : Nat) (a0 a1 : Nat) (n : Nat) (f : Nat → Int32) (x : Int32) (hn : n ≤ 59) : CtI l yX1_put cX1_put 2 .boolean 0 D kA sz (inW a0 a1 kA n f) [.ref a0, .int x] (fun r uu => (n < 59 ∧ r = 1 ∧ uu = inW a0 a1 kA (n + 1) (upd f n x)) ∨ (¬ n < 59 ∧ r = 0 ∧ uu = inW a0 a1 kA n f)) := by
  refine ct_z (own := RX1) (by decide) rfl (Nat.le_of_ble_eq_true rfl) ?_
  intro p_ e_ s_ m_ ar_ bw_ me_ co_ A ls Q F hnm hK hA hP hD hS hl hsz rt
  have hx := F.1
  have hb := F.2.1
  have hl : lv_has ls 2 [(0, .ref a0), (1, .int x)] := hl
  have hP : va_P D vwCl (inW a0 a1 kA n f) s_.heap := hP
  refine lv_aload_n hx hb dX1_put_0 rfl (lv_at hl 0 rfl) ?_
  refine g_get F hK hP inX1 0 rfl rfl 1 (by decide) gw_201 rfl (v := .int (nI n)) rfl dX1_put_1 ?_
  refine lv_bipush (v := 59) hx hb dX1_put_4 (by decide) ?_
  refine b_lt F (a := n) (b := 59) (tgt := 11) dX1_put_6 (by decide) (by omega) (by omega) (fun c_6 => ?_) (fun c_6 => ?_)
  · refine lv_aload_n hx hb dX1_put_11 rfl (lv_at hl 0 rfl) ?_
    refine g_get F hK hP inX1 0 rfl rfl 0 (by decide) gw_199 rfl (v := .ref a1) rfl dX1_put_12 ?_
    refine lv_aload_n hx hb dX1_put_15 rfl (lv_at hl 0 rfl) ?_
    refine g_get F hK hP inX1 0 rfl rfl 1 (by decide) gw_201 rfl (v := .int (nI n)) rfl dX1_put_16 ?_
    refine lv_iload_n hx hb dX1_put_19 rfl (lv_at hl 1 rfl) ?_
    refine a_ist F hK hP hD hS 1 (f := f) rfl (j := n) (by omega) (by decide) dX1_put_20 (fun H locs hP hD hS => ?_)
    have hP : va_P D vwCl (inW a0 a1 kA n (upd f n x)) H := hP
    have hD : va_D A (inW a0 a1 kA n (upd f n x)) := hD
    refine lv_aload_n hx hb dX1_put_21 rfl (lv_at hl 0 rfl) ?_
    refine lv_dup hx hb dX1_put_22 rfl ?_
    refine g_get F hK hP inX1 0 rfl rfl 1 (by decide) gw_201 rfl (v := .int (nI n)) rfl dX1_put_23 ?_
    refine lv_iconst (v := 1) hx hb dX1_put_26 (by decide) ?_
    refine n_add F (a := n) (b := 1) dX1_put_27 ?_
    refine g_put F hK hP hD hS inX1 tyX1_ok nmX1 0 rfl rfl 1 (by decide) gw_201 rfl rfl rfl rfl (Nat.le_of_ble_eq_true rfl) dX1_put_28 (fun H locs hP hD hS => ?_)
    have hP : va_P D vwCl (inW a0 a1 kA (n + 1) (upd f n x)) H := hP
    have hD : va_D A (inW a0 a1 kA (n + 1) (upd f n x)) := hD
    refine lv_iconst (v := 1) hx hb dX1_put_31 (by decide) ?_
    exact rt _ (inW a0 a1 kA (n + 1) (upd f n x)) _ _ _ _ hP hD hS dX1_put_32 rfl (Or.inl ⟨c_6, rfl, rfl⟩)
  · refine lv_iconst (v := 0) hx hb dX1_put_9 (by decide) ?_
    exact rt _ (inW a0 a1 kA n f) _ _ _ _ hP hD hS dX1_put_10 rfl (Or.inr ⟨by omega, rfl, rfl⟩)

set_option maxRecDepth 100000 in
set_option maxHeartbeats 4000000 in
theorem kX5_within (l : Launch) (D : va_G) (kA : Nat → ClassId) (sz : Nat) (x lo hi : Int32)  : CtI l yX5_within cX5_within 3 .boolean 0 D kA sz ([]) [.int x, .int lo, .int hi] (fun r u => (r = if lo ≤ x ∧ x ≤ hi then 1 else 0) ∧ u = []) := by
  refine ct_z (own := RX5) (by decide) rfl (Nat.le_of_ble_eq_true rfl) ?_
  intro p_ e_ s_ m_ ar_ bw_ me_ co_ A ls Q F hnm hK hA hP hD hS hl hsz rt
  have hx := F.1
  have hb := F.2.1
  have hl : lv_has ls 3 [(0, .int x), (1, .int lo), (2, .int hi)] := hl
  have hP : va_P D vwCl ([]) s_.heap := hP
  refine lv_iload_n hx hb dX5_within_0 rfl (lv_at hl 0 rfl) ?_
  refine lv_iload_n hx hb dX5_within_1 rfl (lv_at hl 1 rfl) ?_
  refine lv_icmp_lt (tgt := 14) hx hb dX5_within_2 (by decide) (fun c_2 => ?_) (fun c_2 => ?_)
  · refine lv_iconst (v := 0) hx hb dX5_within_14 (by decide) ?_
    exact rt _ ([]) _ _ _ _ hP hD hS dX5_within_15 rfl (⟨wi_a c_2, rfl⟩)
  · refine lv_iload_n hx hb dX5_within_5 rfl (lv_at hl 0 rfl) ?_
    refine lv_iload_n hx hb dX5_within_6 rfl (lv_at hl 2 rfl) ?_
    refine lv_icmp_gt (tgt := 14) hx hb dX5_within_7 (by decide) (fun c_7 => ?_) (fun c_7 => ?_)
    · refine lv_iconst (v := 0) hx hb dX5_within_14 (by decide) ?_
      exact rt _ ([]) _ _ _ _ hP hD hS dX5_within_15 rfl (⟨wi_b c_7, rfl⟩)
    · refine lv_iconst (v := 1) hx hb dX5_within_10 (by decide) ?_
      refine lv_goto (tgt := 15) hx hb dX5_within_11 (by decide) ?_
      exact rt _ ([]) _ _ _ _ hP hD hS dX5_within_15 rfl (⟨wi_1 c_2 c_7, rfl⟩)

set_option maxRecDepth 100000 in
set_option maxHeartbeats 4000000 in
theorem kX1_isOutcome (l : Launch) (D : va_G) (kA : Nat → ClassId) (sz : Nat) (x : Int32)  : CtI l yX1_isOutcome cX1_isOutcome 1 .boolean 0 D kA sz ([]) [.int x] (fun r u => (r = if x = 43 ∨ x = 45 then 1 else 0) ∧ u = []) := by
  refine ct_z (own := RX1) (by decide) rfl (Nat.le_of_ble_eq_true rfl) ?_
  intro p_ e_ s_ m_ ar_ bw_ me_ co_ A ls Q F hnm hK hA hP hD hS hl hsz rt
  have hx := F.1
  have hb := F.2.1
  have hl : lv_has ls 1 [(0, .int x)] := hl
  have hP : va_P D vwCl ([]) s_.heap := hP
  refine lv_iload_n hx hb dX1_isOutcome_0 rfl (lv_at hl 0 rfl) ?_
  refine lv_bipush (v := 43) hx hb dX1_isOutcome_1 (by decide) ?_
  refine lv_icmp_eq (tgt := 12) hx hb dX1_isOutcome_3 (by decide) (fun c_3 => ?_) (fun c_3 => ?_)
  · refine lv_iconst (v := 1) hx hb dX1_isOutcome_12 (by decide) ?_
    refine lv_goto (tgt := 17) hx hb dX1_isOutcome_13 (by decide) ?_
    exact rt _ ([]) _ _ _ _ hP hD hS dX1_isOutcome_17 rfl (⟨(if_pos (Or.inl c_3)).symm, rfl⟩)
  · refine lv_iload_n hx hb dX1_isOutcome_6 rfl (lv_at hl 0 rfl) ?_
    refine lv_bipush (v := 45) hx hb dX1_isOutcome_7 (by decide) ?_
    refine lv_icmp_ne (tgt := 16) hx hb dX1_isOutcome_9 (by decide) (fun c_9 => ?_) (fun c_9 => ?_)
    · refine lv_iconst (v := 0) hx hb dX1_isOutcome_16 (by decide) ?_
      exact rt _ ([]) _ _ _ _ hP hD hS dX1_isOutcome_17 rfl (⟨(if_neg (fun h => h.elim c_3 c_9)).symm, rfl⟩)
    · refine lv_iconst (v := 1) hx hb dX1_isOutcome_12 (by decide) ?_
      refine lv_goto (tgt := 17) hx hb dX1_isOutcome_13 (by decide) ?_
      exact rt _ ([]) _ _ _ _ hP hD hS dX1_isOutcome_17 rfl (⟨(if_pos (Or.inr c_9)).symm, rfl⟩)

set_option maxRecDepth 100000 in
set_option maxHeartbeats 4000000 in
theorem kX1_fits (l : Launch) (D : va_G) (kA : Nat → ClassId) (sz : Nat) (a0 a1 : Nat) (n : Nat) (f : Nat → Int32) (i : Nat) (hi : i < 59) : CtI l yX1_fits cX1_fits 3 .boolean 1 D kA sz (inW a0 a1 kA n f) [.ref a0, .int (nI i)] (fun r uu => (r = if chk f i then 1 else 0) ∧ uu = inW a0 a1 kA n f) := by
  refine ct_z (own := RX1) (by decide) rfl (Nat.le_of_ble_eq_true rfl) ?_
  intro p_ e_ s_ m_ ar_ bw_ me_ co_ A ls Q F hnm hK hA hP hD hS hl hsz rt
  have hx := F.1
  have hb := F.2.1
  have hl : lv_has ls 3 [(0, .ref a0), (1, .int (nI i))] := hl
  have hP : va_P D vwCl (inW a0 a1 kA n f) s_.heap := hP
  refine lv_aload_n hx hb dX1_fits_0 rfl (lv_at hl 0 rfl) ?_
  refine g_get F hK hP inX1 0 rfl rfl 0 (by decide) gw_199 rfl (v := .ref a1) rfl dX1_fits_1 ?_
  refine lv_iload_n hx hb dX1_fits_4 rfl (lv_at hl 1 rfl) ?_
  refine a_ild F hK hP 1 (f := f) rfl (j := i) (by omega) (by decide) dX1_fits_5 ?_
  refine lv_istore_n (lv' := [(2, .int (f i)), (0, .ref a0), (1, .int (nI i))]) hx hb dX1_fits_6 rfl hl (by decide) rfl (fun ls hl => ?_)
  refine lv_iload_n hx hb dX1_fits_7 rfl (lv_at hl 2 rfl) ?_
  refine lv_bipush (v := 6) hx hb dX1_fits_8 (by decide) ?_
  refine n_rem F (a := i) (b := 6) dX1_fits_10 (by omega) (by omega) (by omega) ?_
  rcases (show i % 6 = 0 ∨ i % 6 = 1 ∨ i % 6 = 2 ∨ i % 6 = 3 ∨ i % 6 = 4 ∨ i % 6 = 5 by omega) with h6 | h6 | h6 | h6 | h6 | h6
  · rw [h6]
    refine lv_tableIn (tgt := 44) hx hb dX1_fits_11 (by decide) (by decide) rfl (by decide) ?_
    refine lv_iload_n hx hb dX1_fits_44 rfl (lv_at hl 0 rfl) ?_
    refine lv_bipush (v := 48) hx hb dX1_fits_45 (by decide) ?_
    refine lv_bipush (v := 55) hx hb dX1_fits_47 (by decide) ?_
    refine cl_SN_i (wc := []) (As := [.int (f i), .int 48, .int 55]) (rest := []) F hK P_nil D_nil hS hA (kX5_within l D kA _ (f i) 48 55 ) gw_239 gw_65 nw_379 gw_238 hdX5_within ⟨Nat.le_of_ble_eq_true rfl, Nat.le_of_ble_eq_true rfl⟩ hl.1 rfl (Nat.le_of_ble_eq_true rfl) dX1_fits_49 ⟨Nat.le_of_ble_eq_true rfl, Nat.le_of_ble_eq_true rfl⟩ (fun r_49 u_49 H locs hw hP1 hD1 hk1 hFc hS => ?_)
    obtain ⟨rfl, rfl⟩ := hw
    have hP := hp_non hP hk1
    have hq : chk (f) i = (48 ≤ f i ∧ f i ≤ 55) := by unfold chk; rw [if_pos h6]
    exact rt _ (inW a0 a1 kA n f) _ _ _ _ hP hD hS dX1_fits_52 (nar_if _) (⟨by simp only [hq], rfl⟩)
  · rw [h6]
    refine lv_tableIn (tgt := 53) hx hb dX1_fits_11 (by decide) (by decide) rfl (by decide) ?_
    refine lv_iload_n hx hb dX1_fits_53 rfl (lv_at hl 0 rfl) ?_
    refine lv_bipush (v := 62) hx hb dX1_fits_54 (by decide) ?_
    refine lv_icmp_ne (tgt := 63) hx hb dX1_fits_56 (by decide) (fun c_56 => ?_) (fun c_56 => ?_)
    · refine lv_iconst (v := 0) hx hb dX1_fits_63 (by decide) ?_
      have hq : chk (f) i = (f i = 62) := by unfold chk; rw [if_neg (show ¬ i % 6 = 0 by omega), if_pos h6]
      exact rt _ (inW a0 a1 kA n f) _ _ _ _ hP hD hS dX1_fits_64 rfl (⟨by simp only [hq, c_56, if_true, if_false], rfl⟩)
    · refine lv_iconst (v := 1) hx hb dX1_fits_59 (by decide) ?_
      refine lv_goto (tgt := 64) hx hb dX1_fits_60 (by decide) ?_
      have hq : chk (f) i = (f i = 62) := by unfold chk; rw [if_neg (show ¬ i % 6 = 0 by omega), if_pos h6]
      exact rt _ (inW a0 a1 kA n f) _ _ _ _ hP hD hS dX1_fits_64 rfl (⟨by simp only [hq, c_56, if_true, if_false], rfl⟩)
  · rw [h6]
    refine lv_tableIn (tgt := 65) hx hb dX1_fits_11 (by decide) (by decide) rfl (by decide) ?_
    refine lv_iload_n hx hb dX1_fits_65 rfl (lv_at hl 0 rfl) ?_
    refine lv_bipush (v := 48) hx hb dX1_fits_66 (by decide) ?_
    refine lv_bipush (v := 51) hx hb dX1_fits_68 (by decide) ?_
    refine cl_SN_i (wc := []) (As := [.int (f i), .int 48, .int 51]) (rest := []) F hK P_nil D_nil hS hA (kX5_within l D kA _ (f i) 48 51 ) gw_239 gw_65 nw_379 gw_238 hdX5_within ⟨Nat.le_of_ble_eq_true rfl, Nat.le_of_ble_eq_true rfl⟩ hl.1 rfl (Nat.le_of_ble_eq_true rfl) dX1_fits_70 ⟨Nat.le_of_ble_eq_true rfl, Nat.le_of_ble_eq_true rfl⟩ (fun r_70 u_70 H locs hw hP1 hD1 hk1 hFc hS => ?_)
    obtain ⟨rfl, rfl⟩ := hw
    have hP := hp_non hP hk1
    have hq : chk (f) i = (48 ≤ f i ∧ f i ≤ 51) := by unfold chk; rw [if_neg (show ¬ i % 6 = 0 by omega), if_neg (show ¬ i % 6 = 1 by omega), if_pos h6]
    exact rt _ (inW a0 a1 kA n f) _ _ _ _ hP hD hS dX1_fits_73 (nar_if _) (⟨by simp only [hq], rfl⟩)
  · rw [h6]
    refine lv_tableIn (tgt := 74) hx hb dX1_fits_11 (by decide) (by decide) rfl (by decide) ?_
    refine lv_iload_n hx hb dX1_fits_74 rfl (lv_at hl 0 rfl) ?_
    refine lv_bipush (v := 48) hx hb dX1_fits_75 (by decide) ?_
    refine lv_aload_n hx hb dX1_fits_77 rfl (lv_at hl 1 rfl) ?_
    refine g_get F hK hP inX1 0 rfl rfl 0 (by decide) gw_199 rfl (v := .ref a1) rfl dX1_fits_78 ?_
    refine lv_iload_n hx hb dX1_fits_81 rfl (lv_at hl 2 rfl) ?_
    refine lv_iconst (v := 1) hx hb dX1_fits_82 (by decide) ?_
    refine n_sub F (a := i) (b := 1) dX1_fits_83 (by omega) ?_
    refine a_ild F hK hP 1 (f := f) rfl (j := i - 1) (by omega) (by decide) dX1_fits_84 ?_
    refine lv_bipush (v := 51) hx hb dX1_fits_85 (by decide) ?_
    refine lv_icmp_ne (tgt := 95) hx hb dX1_fits_87 (by decide) (fun c_87 => ?_) (fun c_87 => ?_)
    · refine lv_bipush (v := 57) hx hb dX1_fits_95 (by decide) ?_
      refine cl_SN_i (wc := []) (As := [.int (f i), .int 48, .int 57]) (rest := []) F hK P_nil D_nil hS hA (kX5_within l D kA _ (f i) 48 57 ) gw_239 gw_65 nw_379 gw_238 hdX5_within ⟨Nat.le_of_ble_eq_true rfl, Nat.le_of_ble_eq_true rfl⟩ hl.1 rfl (Nat.le_of_ble_eq_true rfl) dX1_fits_97 ⟨Nat.le_of_ble_eq_true rfl, Nat.le_of_ble_eq_true rfl⟩ (fun r_97 u_97 H locs hw hP1 hD1 hk1 hFc hS => ?_)
      obtain ⟨rfl, rfl⟩ := hw
      have hP := hp_non hP hk1
      have hq : chk (f) i = (48 ≤ f i ∧ f i ≤ (if f (i - 1) = 51 then 49 else 57)) := by unfold chk; rw [if_neg (show ¬ i % 6 = 0 by omega), if_neg (show ¬ i % 6 = 1 by omega), if_neg (show ¬ i % 6 = 2 by omega), if_pos h6]
      exact rt _ (inW a0 a1 kA n f) _ _ _ _ hP hD hS dX1_fits_100 (nar_if _) (⟨by simp only [hq, c_87, if_true, if_false], rfl⟩)
    · refine lv_bipush (v := 49) hx hb dX1_fits_90 (by decide) ?_
      refine lv_goto (tgt := 97) hx hb dX1_fits_92 (by decide) ?_
      refine cl_SN_i (wc := []) (As := [.int (f i), .int 48, .int 49]) (rest := []) F hK P_nil D_nil hS hA (kX5_within l D kA _ (f i) 48 49 ) gw_239 gw_65 nw_379 gw_238 hdX5_within ⟨Nat.le_of_ble_eq_true rfl, Nat.le_of_ble_eq_true rfl⟩ hl.1 rfl (Nat.le_of_ble_eq_true rfl) dX1_fits_97 ⟨Nat.le_of_ble_eq_true rfl, Nat.le_of_ble_eq_true rfl⟩ (fun r_97 u_97 H locs hw hP1 hD1 hk1 hFc hS => ?_)
      obtain ⟨rfl, rfl⟩ := hw
      have hP := hp_non hP hk1
      have hq : chk (f) i = (48 ≤ f i ∧ f i ≤ (if f (i - 1) = 51 then 49 else 57)) := by unfold chk; rw [if_neg (show ¬ i % 6 = 0 by omega), if_neg (show ¬ i % 6 = 1 by omega), if_neg (show ¬ i % 6 = 2 by omega), if_pos h6]
      exact rt _ (inW a0 a1 kA n f) _ _ _ _ hP hD hS dX1_fits_100 (nar_if _) (⟨by simp only [hq, c_87, if_true, if_false], rfl⟩)
  · rw [h6]
    refine lv_tableIn (tgt := 101) hx hb dX1_fits_11 (by decide) (by decide) rfl (by decide) ?_
    refine lv_iload_n hx hb dX1_fits_101 rfl (lv_at hl 0 rfl) ?_
    refine cl_S_i (wc := []) (As := [.int (f i)]) (rest := []) F hK P_nil D_nil hS hA (kX1_isOutcome l D kA _ (f i) ) gw_382 gw_70 gw_380 gw_381 hdX1_isOutcome ⟨Nat.le_of_ble_eq_true rfl, Nat.le_of_ble_eq_true rfl⟩ hl.1 rfl (Nat.le_of_ble_eq_true rfl) dX1_fits_102 ⟨Nat.le_of_ble_eq_true rfl, Nat.le_of_ble_eq_true rfl⟩ (fun r_102 u_102 H locs hw hP1 hD1 hk1 hFc hS => ?_)
    obtain ⟨rfl, rfl⟩ := hw
    have hP := hp_non hP hk1
    have hq : chk (f) i = (f i = 43 ∨ f i = 45) := by unfold chk; rw [if_neg (show ¬ i % 6 = 0 by omega), if_neg (show ¬ i % 6 = 1 by omega), if_neg (show ¬ i % 6 = 2 by omega), if_neg (show ¬ i % 6 = 3 by omega), if_pos h6]
    exact rt _ (inW a0 a1 kA n f) _ _ _ _ hP hD hS dX1_fits_105 (nar_if _) (⟨by simp only [hq], rfl⟩)
  · rw [h6]
    refine lv_tableOut (tgt := 106) hx hb dX1_fits_11 (by decide) (by decide) ?_
    refine lv_iload_n hx hb dX1_fits_106 rfl (lv_at hl 0 rfl) ?_
    refine lv_bipush (v := 44) hx hb dX1_fits_107 (by decide) ?_
    refine lv_icmp_ne (tgt := 116) hx hb dX1_fits_109 (by decide) (fun c_109 => ?_) (fun c_109 => ?_)
    · refine lv_iconst (v := 0) hx hb dX1_fits_116 (by decide) ?_
      have hq : chk (f) i = (f i = 44) := by unfold chk; rw [if_neg (show ¬ i % 6 = 0 by omega), if_neg (show ¬ i % 6 = 1 by omega), if_neg (show ¬ i % 6 = 2 by omega), if_neg (show ¬ i % 6 = 3 by omega), if_neg (show ¬ i % 6 = 4 by omega)]
      exact rt _ (inW a0 a1 kA n f) _ _ _ _ hP hD hS dX1_fits_117 rfl (⟨by simp only [hq, c_109, if_true, if_false], rfl⟩)
    · refine lv_iconst (v := 1) hx hb dX1_fits_112 (by decide) ?_
      refine lv_goto (tgt := 117) hx hb dX1_fits_113 (by decide) ?_
      have hq : chk (f) i = (f i = 44) := by unfold chk; rw [if_neg (show ¬ i % 6 = 0 by omega), if_neg (show ¬ i % 6 = 1 by omega), if_neg (show ¬ i % 6 = 2 by omega), if_neg (show ¬ i % 6 = 3 by omega), if_neg (show ¬ i % 6 = 4 by omega)]
      exact rt _ (inW a0 a1 kA n f) _ _ _ _ hP hD hS dX1_fits_117 rfl (⟨by simp only [hq, c_109, if_true, if_false], rfl⟩)

set_option maxRecDepth 100000 in
set_option maxHeartbeats 4000000 in
theorem kX1_findError (l : Launch) (D : va_G) (kA : Nat → ClassId) (sz : Nat) (a0 a1 : Nat) (n : Nat) (f : Nat → Int32) (hn : n ≤ 59) : CtI l yX1_findError cX1_findError 2 .int 2 D kA sz (inW a0 a1 kA n f) [.ref a0] (fun r uu => r = nI (fe f n) ∧ uu = inW a0 a1 kA n f) := by
  refine ct_i (own := RX1) (by decide) rfl (Nat.le_of_ble_eq_true rfl) ?_
  intro p_ e_ s_ m_ ar_ bw_ me_ co_ A ls Q F hnm hK hA hP hD hS hl hsz rt
  have hx := F.1
  have hb := F.2.1
  have hl : lv_has ls 2 [(0, .ref a0)] := hl
  have hP : va_P D vwCl (inW a0 a1 kA n f) s_.heap := hP
  refine lv_iconst (v := 0) hx hb dX1_findError_0 (by decide) ?_
  refine lv_istore_n (lv' := [(1, .int 0), (0, .ref a0)]) hx hb dX1_findError_1 rfl hl (by decide) rfl (fun ls hl => ?_)
  have lp_2 : ∀ (n_2 : Nat) (i : Nat), (i ≤ n) → (∀ j, j < i → chk f j) → (59 - i) < n_2 → ∀ (H : Heap) (locs : List Loc) (ls : Array Slot), va_P D vwCl (inW a0 a1 kA n f) H → va_D A (inW a0 a1 kA n f) → va_S A s_.heap H locs → lv_has ls 2 [(0, .ref a0), (1, .int (nI i))] → W p_ l e_ (rmC 2 0 0) s_ m_ ar_ bw_ me_ co_ H locs 0 0 Q (F0 m_ 2 ls []) := by
    intro n_2
    induction n_2 with
    | zero =>
      intro i hi hok hm_2
      exact absurd hm_2 (Nat.not_lt_zero _)
    | succ n_2 ih_2 =>
      intro i hi hok hm_2 H locs ls hP hD hS hl
      refine lv_iload_n hx hb dX1_findError_2 rfl (lv_at hl 1 rfl) ?_
      refine lv_aload_n hx hb dX1_findError_3 rfl (lv_at hl 0 rfl) ?_
      refine g_get F hK hP inX1 0 rfl rfl 1 (by decide) gw_201 rfl (v := .int (nI n)) rfl dX1_findError_4 ?_
      refine b_ge F (a := i) (b := n) (tgt := 26) dX1_findError_7 (by decide) (by omega) (by omega) (fun c_7 => ?_) (fun c_7 => ?_)
      · refine lv_aload_n hx hb dX1_findError_26 rfl (lv_at hl 0 rfl) ?_
        refine g_get F hK hP inX1 0 rfl rfl 1 (by decide) gw_201 rfl (v := .int (nI n)) rfl dX1_findError_27 ?_
        exact rt _ (inW a0 a1 kA n f) _ _ _ _ hP hD hS dX1_findError_30 (⟨by rw [fe_at hi hok (Or.inl (by omega)), show i = n by omega], rfl⟩)
      · refine lv_aload_n hx hb dX1_findError_10 rfl (lv_at hl 0 rfl) ?_
        refine lv_iload_n hx hb dX1_findError_11 rfl (lv_at hl 1 rfl) ?_
        refine cl_V_i (wc := (inW a0 a1 kA n f)) (As := [.int (nI i)]) (rest := []) (b := a0) (C := RX1) F hK hP hD hS hA (kX1_fits l D kA _ a0 a1 n f i (by omega)) gw_378 gw_70 gw_375 gw_377 gw_22 (va_recv hK.1 hP (ci := 1) (q0 := 0) rfl rfl) hdX1_fits ⟨Nat.le_of_ble_eq_true rfl, Nat.le_of_ble_eq_true rfl⟩ hl.1 rfl (Nat.le_of_ble_eq_true rfl) dX1_findError_12 ⟨Nat.le_of_ble_eq_true rfl, Nat.le_of_ble_eq_true rfl⟩ (fun r_12 u_12 H locs hw hP1 hD1 hk1 hFc hS => ?_)
        obtain ⟨rfl, rfl⟩ := hw
        have hP : va_P D vwCl (inW a0 a1 kA n f) H := hP1
        have hD : va_D A (inW a0 a1 kA n f) := hD1.weaken (fun _ _ _ h => hFc _ h)
        refine b_bne F (P := chk f i) (tgt := 20) dX1_findError_15 (by decide) (fun c_15 => ?_) (fun c_15 => ?_)
        · refine lv_iinc (v := nI (i + 1)) (lv' := [(1, .int (nI (i + 1))), (0, .ref a0)]) hx hb dX1_findError_20 hl (k := 1) rfl (nI_add i 1) (by decide) rfl (fun ls hl => ?_)
          refine lv_goto (tgt := 2) hx hb dX1_findError_23 (by decide) ?_
          exact ih_2  (i + 1) (by omega) (lt_s hok c_15) (by omega) _ _ _ hP hD hS (lv_sub hl [1, 0] rfl)
        · refine lv_iload_n hx hb dX1_findError_18 rfl (lv_at hl 1 rfl) ?_
          exact rt _ (inW a0 a1 kA n f) _ _ _ _ hP hD hS dX1_findError_19 (⟨by rw [fe_at hi hok (Or.inr c_15)], rfl⟩)
  exact lp_2 _ 0 (Nat.zero_le _) (fun j hj => absurd hj (Nat.not_lt_zero _)) (Nat.lt_succ_self _) _ _ _ hP hD hS (lv_sub hl [1, 0] rfl)

set_option maxRecDepth 100000 in
set_option maxHeartbeats 4000000 in
theorem kX1_isComplete (l : Launch) (D : va_G) (kA : Nat → ClassId) (sz : Nat) (a0 a1 : Nat) (n : Nat) (f : Nat → Int32) (hn : n ≤ 59) : CtI l yX1_isComplete cX1_isComplete 1 .boolean 3 D kA sz (inW a0 a1 kA n f) [.ref a0] (fun r uu => (r = if 0 < n ∧ (f (n - 1) = 43 ∨ f (n - 1) = 45) ∧ fe f n = n then 1 else 0) ∧ uu = inW a0 a1 kA n f) := by
  refine ct_z (own := RX1) (by decide) rfl (Nat.le_of_ble_eq_true rfl) ?_
  intro p_ e_ s_ m_ ar_ bw_ me_ co_ A ls Q F hnm hK hA hP hD hS hl hsz rt
  have hx := F.1
  have hb := F.2.1
  have hl : lv_has ls 1 [(0, .ref a0)] := hl
  have hP : va_P D vwCl (inW a0 a1 kA n f) s_.heap := hP
  refine lv_aload_n hx hb dX1_isComplete_0 rfl (lv_at hl 0 rfl) ?_
  refine g_get F hK hP inX1 0 rfl rfl 1 (by decide) gw_201 rfl (v := .int (nI n)) rfl dX1_isComplete_1 ?_
  refine b_le0 F (a := n) (tgt := 39) dX1_isComplete_4 (by decide) (by omega) (fun c_4 => ?_) (fun c_4 => ?_)
  · refine lv_iconst (v := 0) hx hb dX1_isComplete_39 (by decide) ?_
    exact rt _ (inW a0 a1 kA n f) _ _ _ _ hP hD hS dX1_isComplete_40 rfl (⟨(if_neg (fun h => by omega)).symm, rfl⟩)
  · refine lv_aload_n hx hb dX1_isComplete_7 rfl (lv_at hl 0 rfl) ?_
    refine g_get F hK hP inX1 0 rfl rfl 0 (by decide) gw_199 rfl (v := .ref a1) rfl dX1_isComplete_8 ?_
    refine lv_aload_n hx hb dX1_isComplete_11 rfl (lv_at hl 0 rfl) ?_
    refine g_get F hK hP inX1 0 rfl rfl 1 (by decide) gw_201 rfl (v := .int (nI n)) rfl dX1_isComplete_12 ?_
    refine lv_iconst (v := 1) hx hb dX1_isComplete_15 (by decide) ?_
    refine n_sub F (a := n) (b := 1) dX1_isComplete_16 (by omega) ?_
    refine a_ild F hK hP 1 (f := f) rfl (j := n - 1) (by omega) (by decide) dX1_isComplete_17 ?_
    refine cl_S_i (wc := []) (As := [.int (f (n - 1))]) (rest := []) F hK P_nil D_nil hS hA (kX1_isOutcome l D kA _ (f (n - 1)) ) gw_382 gw_70 gw_380 gw_381 hdX1_isOutcome ⟨Nat.le_of_ble_eq_true rfl, Nat.le_of_ble_eq_true rfl⟩ hl.1 rfl (Nat.le_of_ble_eq_true rfl) dX1_isComplete_18 ⟨Nat.le_of_ble_eq_true rfl, Nat.le_of_ble_eq_true rfl⟩ (fun r_18 u_18 H locs hw hP1 hD1 hk1 hFc hS => ?_)
    obtain ⟨rfl, rfl⟩ := hw
    have hP := hp_non hP hk1
    refine b_beq F (P := (f (n - 1)) = 43 ∨ (f (n - 1)) = 45) (tgt := 39) dX1_isComplete_21 (by decide) (fun c_21 => ?_) (fun c_21 => ?_)
    · refine lv_iconst (v := 0) hx hb dX1_isComplete_39 (by decide) ?_
      exact rt _ (inW a0 a1 kA n f) _ _ _ _ hP hD hS dX1_isComplete_40 rfl (⟨(if_neg (fun h => c_21 h.2.1)).symm, rfl⟩)
    · refine lv_aload_n hx hb dX1_isComplete_24 rfl (lv_at hl 0 rfl) ?_
      refine cl_V_i (wc := (inW a0 a1 kA n f)) (As := []) (rest := []) (b := a0) (C := RX1) F hK hP hD hS hA (kX1_findError l D kA _ a0 a1 n f  hn) gw_374 gw_70 gw_391 gw_373 gw_21 (va_recv hK.1 hP (ci := 1) (q0 := 0) rfl rfl) hdX1_findError ⟨Nat.le_of_ble_eq_true rfl, Nat.le_of_ble_eq_true rfl⟩ hl.1 rfl (Nat.le_of_ble_eq_true rfl) dX1_isComplete_25 ⟨Nat.le_of_ble_eq_true rfl, Nat.le_of_ble_eq_true rfl⟩ (fun r_25 u_25 H locs hw hP1 hD1 hk1 hFc hS => ?_)
      obtain ⟨rfl, rfl⟩ := hw
      have hP : va_P D vwCl (inW a0 a1 kA n f) H := hP1
      have hD : va_D A (inW a0 a1 kA n f) := hD1.weaken (fun _ _ _ h => hFc _ h)
      refine lv_aload_n hx hb dX1_isComplete_28 rfl (lv_at hl 0 rfl) ?_
      refine g_get F hK hP inX1 0 rfl rfl 1 (by decide) gw_201 rfl (v := .int (nI n)) rfl dX1_isComplete_29 ?_
      refine b_ne F (a := fe f n) (b := n) (tgt := 39) dX1_isComplete_32 (by decide) (by have := fe_le f n; omega) (by omega) (fun c_32 => ?_) (fun c_32 => ?_)
      · refine lv_iconst (v := 0) hx hb dX1_isComplete_39 (by decide) ?_
        exact rt _ (inW a0 a1 kA n f) _ _ _ _ hP hD hS dX1_isComplete_40 rfl (⟨(if_neg (fun h => c_32 h.2.2)).symm, rfl⟩)
      · refine lv_iconst (v := 1) hx hb dX1_isComplete_35 (by decide) ?_
        refine lv_goto (tgt := 40) hx hb dX1_isComplete_36 (by decide) ?_
        exact rt _ (inW a0 a1 kA n f) _ _ _ _ hP hD hS dX1_isComplete_40 rfl (⟨(if_pos ⟨by omega, c_21, c_32⟩).symm, rfl⟩)

set_option maxRecDepth 100000 in
set_option maxHeartbeats 4000000 in
theorem kX1_sourceAt (l : Launch) (D : va_G) (kA : Nat → ClassId) (sz : Nat) (a0 a1 : Nat) (n : Nat) (f : Nat → Int32) (i : Nat) (hi : i + 4 < 59) : CtI l yX1_sourceAt cX1_sourceAt 2 .int 0 D kA sz (inW a0 a1 kA n f) [.ref a0, .int (nI i)] (fun r uu => r = f i - 48 ∧ uu = inW a0 a1 kA n f) := by
  refine ct_i (own := RX1) (by decide) rfl (Nat.le_of_ble_eq_true rfl) ?_
  intro p_ e_ s_ m_ ar_ bw_ me_ co_ A ls Q F hnm hK hA hP hD hS hl hsz rt
  have hx := F.1
  have hb := F.2.1
  have hl : lv_has ls 2 [(0, .ref a0), (1, .int (nI i))] := hl
  have hP : va_P D vwCl (inW a0 a1 kA n f) s_.heap := hP
  refine lv_aload_n hx hb dX1_sourceAt_0 rfl (lv_at hl 0 rfl) ?_
  refine g_get F hK hP inX1 0 rfl rfl 0 (by decide) gw_199 rfl (v := .ref a1) rfl dX1_sourceAt_1 ?_
  refine lv_iload_n hx hb dX1_sourceAt_4 rfl (lv_at hl 1 rfl) ?_
  refine a_ild F hK hP 1 (f := f) rfl (j := i) (by omega) (by decide) dX1_sourceAt_5 ?_
  refine lv_bipush (v := 48) hx hb dX1_sourceAt_6 (by decide) ?_
  refine lv_isub hx hb dX1_sourceAt_8 ?_
  exact rt _ (inW a0 a1 kA n f) _ _ _ _ hP hD hS dX1_sourceAt_9 (⟨rfl, rfl⟩)

set_option maxRecDepth 100000 in
set_option maxHeartbeats 4000000 in
theorem kX1_destinationAt (l : Launch) (D : va_G) (kA : Nat → ClassId) (sz : Nat) (a0 a1 : Nat) (n : Nat) (f : Nat → Int32) (i : Nat) (hi : i + 4 < 59) : CtI l yX1_destinationAt cX1_destinationAt 2 .int 0 D kA sz (inW a0 a1 kA n f) [.ref a0, .int (nI i)] (fun r uu => r = 10 * (f (i + 2) - 48) + f (i + 3) - 48 ∧ uu = inW a0 a1 kA n f) := by
  refine ct_i (own := RX1) (by decide) rfl (Nat.le_of_ble_eq_true rfl) ?_
  intro p_ e_ s_ m_ ar_ bw_ me_ co_ A ls Q F hnm hK hA hP hD hS hl hsz rt
  have hx := F.1
  have hb := F.2.1
  have hl : lv_has ls 2 [(0, .ref a0), (1, .int (nI i))] := hl
  have hP : va_P D vwCl (inW a0 a1 kA n f) s_.heap := hP
  refine lv_bipush (v := 10) hx hb dX1_destinationAt_0 (by decide) ?_
  refine lv_aload_n hx hb dX1_destinationAt_2 rfl (lv_at hl 0 rfl) ?_
  refine g_get F hK hP inX1 0 rfl rfl 0 (by decide) gw_199 rfl (v := .ref a1) rfl dX1_destinationAt_3 ?_
  refine lv_iload_n hx hb dX1_destinationAt_6 rfl (lv_at hl 1 rfl) ?_
  refine lv_iconst (v := 2) hx hb dX1_destinationAt_7 (by decide) ?_
  refine n_add F (a := i) (b := 2) dX1_destinationAt_8 ?_
  refine a_ild F hK hP 1 (f := f) rfl (j := i + 2) (by omega) (by decide) dX1_destinationAt_9 ?_
  refine lv_bipush (v := 48) hx hb dX1_destinationAt_10 (by decide) ?_
  refine lv_isub hx hb dX1_destinationAt_12 ?_
  refine lv_imul hx hb dX1_destinationAt_13 ?_
  refine lv_aload_n hx hb dX1_destinationAt_14 rfl (lv_at hl 0 rfl) ?_
  refine g_get F hK hP inX1 0 rfl rfl 0 (by decide) gw_199 rfl (v := .ref a1) rfl dX1_destinationAt_15 ?_
  refine lv_iload_n hx hb dX1_destinationAt_18 rfl (lv_at hl 1 rfl) ?_
  refine lv_iconst (v := 3) hx hb dX1_destinationAt_19 (by decide) ?_
  refine n_add F (a := i) (b := 3) dX1_destinationAt_20 ?_
  refine a_ild F hK hP 1 (f := f) rfl (j := i + 3) (by omega) (by decide) dX1_destinationAt_21 ?_
  refine lv_iadd hx hb dX1_destinationAt_22 ?_
  refine lv_bipush (v := 48) hx hb dX1_destinationAt_23 (by decide) ?_
  refine lv_isub hx hb dX1_destinationAt_25 ?_
  exact rt _ (inW a0 a1 kA n f) _ _ _ _ hP hD hS dX1_destinationAt_26 (⟨rfl, rfl⟩)

set_option maxRecDepth 100000 in
set_option maxHeartbeats 4000000 in
theorem kX1_successAt (l : Launch) (D : va_G) (kA : Nat → ClassId) (sz : Nat) (a0 a1 : Nat) (n : Nat) (f : Nat → Int32) (i : Nat) (hi : i + 4 < 59) : CtI l yX1_successAt cX1_successAt 2 .boolean 0 D kA sz (inW a0 a1 kA n f) [.ref a0, .int (nI i)] (fun r uu => r = sucI f i ∧ uu = inW a0 a1 kA n f) := by
  refine ct_z (own := RX1) (by decide) rfl (Nat.le_of_ble_eq_true rfl) ?_
  intro p_ e_ s_ m_ ar_ bw_ me_ co_ A ls Q F hnm hK hA hP hD hS hl hsz rt
  have hx := F.1
  have hb := F.2.1
  have hl : lv_has ls 2 [(0, .ref a0), (1, .int (nI i))] := hl
  have hP : va_P D vwCl (inW a0 a1 kA n f) s_.heap := hP
  refine lv_aload_n hx hb dX1_successAt_0 rfl (lv_at hl 0 rfl) ?_
  refine g_get F hK hP inX1 0 rfl rfl 0 (by decide) gw_199 rfl (v := .ref a1) rfl dX1_successAt_1 ?_
  refine lv_iload_n hx hb dX1_successAt_4 rfl (lv_at hl 1 rfl) ?_
  refine lv_iconst (v := 4) hx hb dX1_successAt_5 (by decide) ?_
  refine n_add F (a := i) (b := 4) dX1_successAt_6 ?_
  refine a_ild F hK hP 1 (f := f) rfl (j := i + 4) (by omega) (by decide) dX1_successAt_7 ?_
  refine lv_bipush (v := 43) hx hb dX1_successAt_8 (by decide) ?_
  refine lv_icmp_ne (tgt := 17) hx hb dX1_successAt_10 (by decide) (fun c_10 => ?_) (fun c_10 => ?_)
  · refine lv_iconst (v := 0) hx hb dX1_successAt_17 (by decide) ?_
    exact rt _ (inW a0 a1 kA n f) _ _ _ _ hP hD hS dX1_successAt_18 rfl (⟨by rw [sucI, if_neg c_10], rfl⟩)
  · refine lv_iconst (v := 1) hx hb dX1_successAt_13 (by decide) ?_
    refine lv_goto (tgt := 18) hx hb dX1_successAt_14 (by decide) ?_
    exact rt _ (inW a0 a1 kA n f) _ _ _ _ hP hD hS dX1_successAt_18 rfl (⟨by rw [sucI, if_pos c_10], rfl⟩)

set_option maxRecDepth 100000 in
set_option maxHeartbeats 4000000 in
theorem kX2_put (l : Launch) (D : va_G) (kA : Nat → ClassId) (sz : Nat) (a0 a1 a2 a3 : Nat) (n : Nat) (so de dl : Nat → Int32) (x y t : Int32) (hn : n ≤ 12) : CtI l yX2_put cX2_put 4 .boolean 0 D kA sz (pdW a0 a1 a2 a3 kA n so de dl) [.ref a0, .int x, .int y, .int t] (fun r uu => (n < 12 ∧ r = 1 ∧ uu = pdW a0 a1 a2 a3 kA (n + 1) (upd so n x) (upd de n y) (upd dl n t)) ∨ (¬ n < 12 ∧ r = 0 ∧ uu = pdW a0 a1 a2 a3 kA n so de dl)) := by
  refine ct_z (own := RX2) (by decide) rfl (Nat.le_of_ble_eq_true rfl) ?_
  intro p_ e_ s_ m_ ar_ bw_ me_ co_ A ls Q F hnm hK hA hP hD hS hl hsz rt
  have hx := F.1
  have hb := F.2.1
  have hl : lv_has ls 4 [(0, .ref a0), (1, .int x), (2, .int y), (3, .int t)] := hl
  have hP : va_P D vwCl (pdW a0 a1 a2 a3 kA n so de dl) s_.heap := hP
  refine lv_aload_n hx hb dX2_put_0 rfl (lv_at hl 0 rfl) ?_
  refine g_get F hK hP inX2 0 rfl rfl 3 (by decide) gw_168 rfl (v := .int (nI n)) rfl dX2_put_1 ?_
  refine lv_bipush (v := 12) hx hb dX2_put_4 (by decide) ?_
  refine b_lt F (a := n) (b := 12) (tgt := 11) dX2_put_6 (by decide) (by omega) (by omega) (fun c_6 => ?_) (fun c_6 => ?_)
  · refine lv_aload_n hx hb dX2_put_11 rfl (lv_at hl 0 rfl) ?_
    refine g_get F hK hP inX2 0 rfl rfl 0 (by decide) gw_162 rfl (v := .ref a1) rfl dX2_put_12 ?_
    refine lv_aload_n hx hb dX2_put_15 rfl (lv_at hl 0 rfl) ?_
    refine g_get F hK hP inX2 0 rfl rfl 3 (by decide) gw_168 rfl (v := .int (nI n)) rfl dX2_put_16 ?_
    refine lv_iload_n hx hb dX2_put_19 rfl (lv_at hl 1 rfl) ?_
    refine a_ist F hK hP hD hS 1 (f := so) rfl (j := n) (by omega) (by decide) dX2_put_20 (fun H locs hP hD hS => ?_)
    have hP : va_P D vwCl (pdW a0 a1 a2 a3 kA n (upd so n x) de dl) H := hP
    have hD : va_D A (pdW a0 a1 a2 a3 kA n (upd so n x) de dl) := hD
    refine lv_aload_n hx hb dX2_put_21 rfl (lv_at hl 0 rfl) ?_
    refine g_get F hK hP inX2 0 rfl rfl 1 (by decide) gw_164 rfl (v := .ref a2) rfl dX2_put_22 ?_
    refine lv_aload_n hx hb dX2_put_25 rfl (lv_at hl 0 rfl) ?_
    refine g_get F hK hP inX2 0 rfl rfl 3 (by decide) gw_168 rfl (v := .int (nI n)) rfl dX2_put_26 ?_
    refine lv_iload_n hx hb dX2_put_29 rfl (lv_at hl 2 rfl) ?_
    refine a_ist F hK hP hD hS 2 (f := de) rfl (j := n) (by omega) (by decide) dX2_put_30 (fun H locs hP hD hS => ?_)
    have hP : va_P D vwCl (pdW a0 a1 a2 a3 kA n (upd so n x) (upd de n y) dl) H := hP
    have hD : va_D A (pdW a0 a1 a2 a3 kA n (upd so n x) (upd de n y) dl) := hD
    refine lv_aload_n hx hb dX2_put_31 rfl (lv_at hl 0 rfl) ?_
    refine g_get F hK hP inX2 0 rfl rfl 2 (by decide) gw_166 rfl (v := .ref a3) rfl dX2_put_32 ?_
    refine lv_aload_n hx hb dX2_put_35 rfl (lv_at hl 0 rfl) ?_
    refine g_get F hK hP inX2 0 rfl rfl 3 (by decide) gw_168 rfl (v := .int (nI n)) rfl dX2_put_36 ?_
    refine lv_iload_n hx hb dX2_put_39 rfl (lv_at hl 3 rfl) ?_
    refine a_ist F hK hP hD hS 3 (f := dl) rfl (j := n) (by omega) (by decide) dX2_put_40 (fun H locs hP hD hS => ?_)
    have hP : va_P D vwCl (pdW a0 a1 a2 a3 kA n (upd so n x) (upd de n y) (upd dl n t)) H := hP
    have hD : va_D A (pdW a0 a1 a2 a3 kA n (upd so n x) (upd de n y) (upd dl n t)) := hD
    refine lv_aload_n hx hb dX2_put_41 rfl (lv_at hl 0 rfl) ?_
    refine lv_dup hx hb dX2_put_42 rfl ?_
    refine g_get F hK hP inX2 0 rfl rfl 3 (by decide) gw_168 rfl (v := .int (nI n)) rfl dX2_put_43 ?_
    refine lv_iconst (v := 1) hx hb dX2_put_46 (by decide) ?_
    refine n_add F (a := n) (b := 1) dX2_put_47 ?_
    refine g_put F hK hP hD hS inX2 tyX2_ok nmX2 0 rfl rfl 3 (by decide) gw_168 rfl rfl rfl rfl (Nat.le_of_ble_eq_true rfl) dX2_put_48 (fun H locs hP hD hS => ?_)
    have hP : va_P D vwCl (pdW a0 a1 a2 a3 kA (n + 1) (upd so n x) (upd de n y) (upd dl n t)) H := hP
    have hD : va_D A (pdW a0 a1 a2 a3 kA (n + 1) (upd so n x) (upd de n y) (upd dl n t)) := hD
    refine lv_iconst (v := 1) hx hb dX2_put_51 (by decide) ?_
    exact rt _ (pdW a0 a1 a2 a3 kA (n + 1) (upd so n x) (upd de n y) (upd dl n t)) _ _ _ _ hP hD hS dX2_put_52 rfl (Or.inl ⟨c_6, rfl, rfl⟩)
  · refine lv_iconst (v := 0) hx hb dX2_put_9 (by decide) ?_
    exact rt _ (pdW a0 a1 a2 a3 kA n so de dl) _ _ _ _ hP hD hS dX2_put_10 rfl (Or.inr ⟨by omega, rfl, rfl⟩)

set_option maxRecDepth 100000 in
set_option maxHeartbeats 4000000 in
theorem kX2_find (l : Launch) (D : va_G) (kA : Nat → ClassId) (sz : Nat) (a0 a1 a2 a3 : Nat) (n : Nat) (so de dl : Nat → Int32) (x y : Int32) (hn : n ≤ 12) : CtI l yX2_find cX2_find 4 .int 0 D kA sz (pdW a0 a1 a2 a3 kA n so de dl) [.ref a0, .int x, .int y] (fun r uu => r = optI (fi (fun k => decide (so k = x ∧ de k = y)) n) ∧ uu = pdW a0 a1 a2 a3 kA n so de dl) := by
  refine ct_i (own := RX2) (by decide) rfl (Nat.le_of_ble_eq_true rfl) ?_
  intro p_ e_ s_ m_ ar_ bw_ me_ co_ A ls Q F hnm hK hA hP hD hS hl hsz rt
  have hx := F.1
  have hb := F.2.1
  have hl : lv_has ls 4 [(0, .ref a0), (1, .int x), (2, .int y)] := hl
  have hP : va_P D vwCl (pdW a0 a1 a2 a3 kA n so de dl) s_.heap := hP
  refine lv_iconst (v := 0) hx hb dX2_find_0 (by decide) ?_
  refine lv_istore_n (lv' := [(3, .int 0), (0, .ref a0), (1, .int x), (2, .int y)]) hx hb dX2_find_1 rfl hl (by decide) rfl (fun ls hl => ?_)
  have lp_2 : ∀ (n_2 : Nat) (k : Nat), (k ≤ n) → (∀ j, j < k → decide (so j = x ∧ de j = y) = false) → (12 - k) < n_2 → ∀ (H : Heap) (locs : List Loc) (ls : Array Slot), va_P D vwCl (pdW a0 a1 a2 a3 kA n so de dl) H → va_D A (pdW a0 a1 a2 a3 kA n so de dl) → va_S A s_.heap H locs → lv_has ls 4 [(0, .ref a0), (1, .int x), (2, .int y), (3, .int (nI k))] → W p_ l e_ (rmC 0 0 0) s_ m_ ar_ bw_ me_ co_ H locs 0 0 Q (F0 m_ 2 ls []) := by
    intro n_2
    induction n_2 with
    | zero =>
      intro k hk hnf hm_2
      exact absurd hm_2 (Nat.not_lt_zero _)
    | succ n_2 ih_2 =>
      intro k hk hnf hm_2 H locs ls hP hD hS hl
      refine lv_iload_n hx hb dX2_find_2 rfl (lv_at hl 3 rfl) ?_
      refine lv_aload_n hx hb dX2_find_3 rfl (lv_at hl 0 rfl) ?_
      refine g_get F hK hP inX2 0 rfl rfl 3 (by decide) gw_168 rfl (v := .int (nI n)) rfl dX2_find_4 ?_
      refine b_ge F (a := k) (b := n) (tgt := 38) dX2_find_7 (by decide) (by omega) (by omega) (fun c_7 => ?_) (fun c_7 => ?_)
      · refine lv_iconst (v := (-1)) hx hb dX2_find_38 (by decide) ?_
        exact rt _ (pdW a0 a1 a2 a3 kA n so de dl) _ _ _ _ hP hD hS dX2_find_39 (⟨by rw [fi_none (fun j hj => hnf j (by omega))]; rfl, rfl⟩)
      · refine lv_aload_n hx hb dX2_find_10 rfl (lv_at hl 0 rfl) ?_
        refine g_get F hK hP inX2 0 rfl rfl 0 (by decide) gw_162 rfl (v := .ref a1) rfl dX2_find_11 ?_
        refine lv_iload_n hx hb dX2_find_14 rfl (lv_at hl 3 rfl) ?_
        refine a_ild F hK hP 1 (f := so) rfl (j := k) (by omega) (by decide) dX2_find_15 ?_
        refine lv_iload_n hx hb dX2_find_16 rfl (lv_at hl 1 rfl) ?_
        refine lv_icmp_ne (tgt := 32) hx hb dX2_find_17 (by decide) (fun c_17 => ?_) (fun c_17 => ?_)
        · refine lv_iinc (v := nI (k + 1)) (lv' := [(3, .int (nI (k + 1))), (0, .ref a0), (1, .int x), (2, .int y)]) hx hb dX2_find_32 hl (k := 3) rfl (nI_add k 1) (by decide) rfl (fun ls hl => ?_)
          refine lv_goto (tgt := 2) hx hb dX2_find_35 (by decide) ?_
          exact ih_2  (k + 1) (by omega) (lt_s hnf (by simp [c_17])) (by omega) _ _ _ hP hD hS (lv_sub hl [1, 2, 3, 0] rfl)
        · refine lv_aload_n hx hb dX2_find_20 rfl (lv_at hl 0 rfl) ?_
          refine g_get F hK hP inX2 0 rfl rfl 1 (by decide) gw_164 rfl (v := .ref a2) rfl dX2_find_21 ?_
          refine lv_iload_n hx hb dX2_find_24 rfl (lv_at hl 3 rfl) ?_
          refine a_ild F hK hP 2 (f := de) rfl (j := k) (by omega) (by decide) dX2_find_25 ?_
          refine lv_iload_n hx hb dX2_find_26 rfl (lv_at hl 2 rfl) ?_
          refine lv_icmp_ne (tgt := 32) hx hb dX2_find_27 (by decide) (fun c_27 => ?_) (fun c_27 => ?_)
          · refine lv_iinc (v := nI (k + 1)) (lv' := [(3, .int (nI (k + 1))), (0, .ref a0), (1, .int x), (2, .int y)]) hx hb dX2_find_32 hl (k := 3) rfl (nI_add k 1) (by decide) rfl (fun ls hl => ?_)
            refine lv_goto (tgt := 2) hx hb dX2_find_35 (by decide) ?_
            exact ih_2  (k + 1) (by omega) (lt_s hnf (by simp [c_27])) (by omega) _ _ _ hP hD hS (lv_sub hl [1, 2, 3, 0] rfl)
          · refine lv_iload_n hx hb dX2_find_30 rfl (lv_at hl 3 rfl) ?_
            exact rt _ (pdW a0 a1 a2 a3 kA n so de dl) _ _ _ _ hP hD hS dX2_find_31 (⟨by rw [fi_some (p := fun k => decide (so k = x ∧ de k = y)) c_7 (by simp [c_17, c_27]) hnf]; rfl, rfl⟩)
  exact lp_2 _ 0 (Nat.zero_le _) (fun j hj => absurd hj (Nat.not_lt_zero _)) (Nat.lt_succ_self _) _ _ _ hP hD hS (lv_sub hl [1, 2, 3, 0] rfl)

set_option maxRecDepth 100000 in
set_option maxHeartbeats 4000000 in
theorem kX2_firstDue (l : Launch) (D : va_G) (kA : Nat → ClassId) (sz : Nat) (a0 a1 a2 a3 : Nat) (n : Nat) (so de dl : Nat → Int32) (t : Int32) (hn : n ≤ 12) : CtI l yX2_firstDue cX2_firstDue 3 .int 0 D kA sz (pdW a0 a1 a2 a3 kA n so de dl) [.ref a0, .int t] (fun r uu => r = optI (fi (fun k => decide (dl k = t)) n) ∧ uu = pdW a0 a1 a2 a3 kA n so de dl) := by
  refine ct_i (own := RX2) (by decide) rfl (Nat.le_of_ble_eq_true rfl) ?_
  intro p_ e_ s_ m_ ar_ bw_ me_ co_ A ls Q F hnm hK hA hP hD hS hl hsz rt
  have hx := F.1
  have hb := F.2.1
  have hl : lv_has ls 3 [(0, .ref a0), (1, .int t)] := hl
  have hP : va_P D vwCl (pdW a0 a1 a2 a3 kA n so de dl) s_.heap := hP
  refine lv_iconst (v := 0) hx hb dX2_firstDue_0 (by decide) ?_
  refine lv_istore_n (lv' := [(2, .int 0), (0, .ref a0), (1, .int t)]) hx hb dX2_firstDue_1 rfl hl (by decide) rfl (fun ls hl => ?_)
  have lp_2 : ∀ (n_2 : Nat) (k : Nat), (k ≤ n) → (∀ j, j < k → decide (dl j = t) = false) → (12 - k) < n_2 → ∀ (H : Heap) (locs : List Loc) (ls : Array Slot), va_P D vwCl (pdW a0 a1 a2 a3 kA n so de dl) H → va_D A (pdW a0 a1 a2 a3 kA n so de dl) → va_S A s_.heap H locs → lv_has ls 3 [(0, .ref a0), (1, .int t), (2, .int (nI k))] → W p_ l e_ (rmC 0 0 0) s_ m_ ar_ bw_ me_ co_ H locs 0 0 Q (F0 m_ 2 ls []) := by
    intro n_2
    induction n_2 with
    | zero =>
      intro k hk hnf hm_2
      exact absurd hm_2 (Nat.not_lt_zero _)
    | succ n_2 ih_2 =>
      intro k hk hnf hm_2 H locs ls hP hD hS hl
      refine lv_iload_n hx hb dX2_firstDue_2 rfl (lv_at hl 2 rfl) ?_
      refine lv_aload_n hx hb dX2_firstDue_3 rfl (lv_at hl 0 rfl) ?_
      refine g_get F hK hP inX2 0 rfl rfl 3 (by decide) gw_168 rfl (v := .int (nI n)) rfl dX2_firstDue_4 ?_
      refine b_ge F (a := k) (b := n) (tgt := 28) dX2_firstDue_7 (by decide) (by omega) (by omega) (fun c_7 => ?_) (fun c_7 => ?_)
      · refine lv_iconst (v := (-1)) hx hb dX2_firstDue_28 (by decide) ?_
        exact rt _ (pdW a0 a1 a2 a3 kA n so de dl) _ _ _ _ hP hD hS dX2_firstDue_29 (⟨by rw [fi_none (fun j hj => hnf j (by omega))]; rfl, rfl⟩)
      · refine lv_aload_n hx hb dX2_firstDue_10 rfl (lv_at hl 0 rfl) ?_
        refine g_get F hK hP inX2 0 rfl rfl 2 (by decide) gw_166 rfl (v := .ref a3) rfl dX2_firstDue_11 ?_
        refine lv_iload_n hx hb dX2_firstDue_14 rfl (lv_at hl 2 rfl) ?_
        refine a_ild F hK hP 3 (f := dl) rfl (j := k) (by omega) (by decide) dX2_firstDue_15 ?_
        refine lv_iload_n hx hb dX2_firstDue_16 rfl (lv_at hl 1 rfl) ?_
        refine lv_icmp_ne (tgt := 22) hx hb dX2_firstDue_17 (by decide) (fun c_17 => ?_) (fun c_17 => ?_)
        · refine lv_iinc (v := nI (k + 1)) (lv' := [(2, .int (nI (k + 1))), (0, .ref a0), (1, .int t)]) hx hb dX2_firstDue_22 hl (k := 2) rfl (nI_add k 1) (by decide) rfl (fun ls hl => ?_)
          refine lv_goto (tgt := 2) hx hb dX2_firstDue_25 (by decide) ?_
          exact ih_2  (k + 1) (by omega) (lt_s hnf (by simp [c_17])) (by omega) _ _ _ hP hD hS (lv_sub hl [1, 2, 0] rfl)
        · refine lv_iload_n hx hb dX2_firstDue_20 rfl (lv_at hl 2 rfl) ?_
          exact rt _ (pdW a0 a1 a2 a3 kA n so de dl) _ _ _ _ hP hD hS dX2_firstDue_21 (⟨by rw [fi_some (p := fun k => decide (dl k = t)) c_7 (by simp [c_17]) hnf]; rfl, rfl⟩)
  exact lp_2 _ 0 (Nat.zero_le _) (fun j hj => absurd hj (Nat.not_lt_zero _)) (Nat.lt_succ_self _) _ _ _ hP hD hS (lv_sub hl [1, 2, 0] rfl)

set_option maxRecDepth 100000 in
set_option maxHeartbeats 4000000 in
theorem kX2_drop (l : Launch) (D : va_G) (kA : Nat → ClassId) (sz : Nat) (a0 a1 a2 a3 : Nat) (n : Nat) (so de dl : Nat → Int32) (k : Nat) (hk : k < n) (hn : n ≤ 12) : CtV l yX2_drop cX2_drop 3 0 0 0 D kA sz (pdW a0 a1 a2 a3 kA n so de dl) [.ref a0, .int (nI k)] (fun uu => uu = pdW a0 a1 a2 a3 kA (n - 1) (shf so k (n - 1)) (shf de k (n - 1)) (shf dl k (n - 1))) := by
  refine ct_v (own := RX2) (by decide) rfl (Nat.le_of_ble_eq_true rfl) ?_
  intro p_ e_ s_ m_ ar_ bw_ me_ co_ A ls Q F hnm hK hA hP hD hS hl hsz rt
  have hx := F.1
  have hb := F.2.1
  have hl : lv_has ls 3 [(0, .ref a0), (1, .int (nI k))] := hl
  have hP : va_P D vwCl (pdW a0 a1 a2 a3 kA n so de dl) s_.heap := hP
  refine lv_iload_n hx hb dX2_drop_0 rfl (lv_at hl 1 rfl) ?_
  refine b_lt0 F (a := k) dX2_drop_1 12 (by decide) (by omega) ?_
  refine lv_iload_n hx hb dX2_drop_4 rfl (lv_at hl 1 rfl) ?_
  refine lv_aload_n hx hb dX2_drop_5 rfl (lv_at hl 0 rfl) ?_
  refine g_get F hK hP inX2 0 rfl rfl 3 (by decide) gw_168 rfl (v := .int (nI n)) rfl dX2_drop_6 ?_
  refine b_lt F (a := k) (b := n) (tgt := 13) dX2_drop_9 (by decide) (by omega) (by omega) (fun c_9 => ?_) (fun c_9 => ?_)
  · refine lv_aload_n hx hb dX2_drop_13 rfl (lv_at hl 0 rfl) ?_
    refine lv_dup hx hb dX2_drop_14 rfl ?_
    refine g_get F hK hP inX2 0 rfl rfl 3 (by decide) gw_168 rfl (v := .int (nI n)) rfl dX2_drop_15 ?_
    refine lv_iconst (v := 1) hx hb dX2_drop_18 (by decide) ?_
    refine n_sub F (a := n) (b := 1) dX2_drop_19 (by omega) ?_
    refine g_put F hK hP hD hS inX2 tyX2_ok nmX2 0 rfl rfl 3 (by decide) gw_168 rfl rfl rfl rfl (Nat.le_of_ble_eq_true rfl) dX2_drop_20 (fun H locs hP hD hS => ?_)
    have hP : va_P D vwCl (pdW a0 a1 a2 a3 kA (n - 1) so de dl) H := hP
    have hD : va_D A (pdW a0 a1 a2 a3 kA (n - 1) so de dl) := hD
    refine lv_iload_n hx hb dX2_drop_23 rfl (lv_at hl 1 rfl) ?_
    refine lv_istore_n (lv' := [(2, .int (nI k)), (0, .ref a0), (1, .int (nI k))]) hx hb dX2_drop_24 rfl hl (by decide) rfl (fun ls hl => ?_)
    have lp_25 : ∀ (n_25 : Nat) (i : Nat) (f1 : Nat → Int32) (f2 : Nat → Int32) (f3 : Nat → Int32), (k ≤ i) → (i ≤ n - 1) → (f1 = shf so k i) → (f2 = shf de k i) → (f3 = shf dl k i) → (12 - i) < n_25 → ∀ (H : Heap) (locs : List Loc) (ls : Array Slot), va_P D vwCl (pdW a0 a1 a2 a3 kA (n - 1) f1 f2 f3) H → va_D A (pdW a0 a1 a2 a3 kA (n - 1) f1 f2 f3) → va_S A s_.heap H locs → lv_has ls 3 [(0, .ref a0), (1, .int (nI k)), (2, .int (nI i))] → W p_ l e_ (rmC 0 0 0) s_ m_ ar_ bw_ me_ co_ H locs 0 0 Q (F0 m_ 25 ls []) := by
      intro n_25
      induction n_25 with
      | zero =>
        intro i f1 f2 f3 hi1 hi2 h1 h2 h3 hm_25
        exact absurd hm_25 (Nat.not_lt_zero _)
      | succ n_25 ih_25 =>
        intro i f1 f2 f3 hi1 hi2 h1 h2 h3 hm_25 H locs ls hP hD hS hl
        refine lv_iload_n hx hb dX2_drop_25 rfl (lv_at hl 2 rfl) ?_
        refine lv_aload_n hx hb dX2_drop_26 rfl (lv_at hl 0 rfl) ?_
        refine g_get F hK hP inX2 0 rfl rfl 3 (by decide) gw_168 rfl (v := .int (nI (n - 1))) rfl dX2_drop_27 ?_
        refine b_ge F (a := i) (b := n - 1) (tgt := 81) dX2_drop_30 (by decide) (by omega) (by omega) (fun c_30 => ?_) (fun c_30 => ?_)
        · exact rt (pdW a0 a1 a2 a3 kA (n - 1) f1 f2 f3) _ _ _ _ hP hD hS dX2_drop_81 ((by rw [h1, h2, h3, show i = n - 1 by omega]))
        · refine lv_aload_n hx hb dX2_drop_33 rfl (lv_at hl 0 rfl) ?_
          refine g_get F hK hP inX2 0 rfl rfl 0 (by decide) gw_162 rfl (v := .ref a1) rfl dX2_drop_34 ?_
          refine lv_iload_n hx hb dX2_drop_37 rfl (lv_at hl 2 rfl) ?_
          refine lv_aload_n hx hb dX2_drop_38 rfl (lv_at hl 0 rfl) ?_
          refine g_get F hK hP inX2 0 rfl rfl 0 (by decide) gw_162 rfl (v := .ref a1) rfl dX2_drop_39 ?_
          refine lv_iload_n hx hb dX2_drop_42 rfl (lv_at hl 2 rfl) ?_
          refine lv_iconst (v := 1) hx hb dX2_drop_43 (by decide) ?_
          refine n_add F (a := i) (b := 1) dX2_drop_44 ?_
          refine a_ild F hK hP 1 (f := f1) rfl (j := i + 1) (by omega) (by decide) dX2_drop_45 ?_
          refine a_ist F hK hP hD hS 1 (f := f1) rfl (j := i) (by omega) (by decide) dX2_drop_46 (fun H locs hP hD hS => ?_)
          have hP : va_P D vwCl (pdW a0 a1 a2 a3 kA (n - 1) (upd f1 i (f1 (i + 1))) f2 f3) H := hP
          have hD : va_D A (pdW a0 a1 a2 a3 kA (n - 1) (upd f1 i (f1 (i + 1))) f2 f3) := hD
          refine lv_aload_n hx hb dX2_drop_47 rfl (lv_at hl 0 rfl) ?_
          refine g_get F hK hP inX2 0 rfl rfl 1 (by decide) gw_164 rfl (v := .ref a2) rfl dX2_drop_48 ?_
          refine lv_iload_n hx hb dX2_drop_51 rfl (lv_at hl 2 rfl) ?_
          refine lv_aload_n hx hb dX2_drop_52 rfl (lv_at hl 0 rfl) ?_
          refine g_get F hK hP inX2 0 rfl rfl 1 (by decide) gw_164 rfl (v := .ref a2) rfl dX2_drop_53 ?_
          refine lv_iload_n hx hb dX2_drop_56 rfl (lv_at hl 2 rfl) ?_
          refine lv_iconst (v := 1) hx hb dX2_drop_57 (by decide) ?_
          refine n_add F (a := i) (b := 1) dX2_drop_58 ?_
          refine a_ild F hK hP 2 (f := f2) rfl (j := i + 1) (by omega) (by decide) dX2_drop_59 ?_
          refine a_ist F hK hP hD hS 2 (f := f2) rfl (j := i) (by omega) (by decide) dX2_drop_60 (fun H locs hP hD hS => ?_)
          have hP : va_P D vwCl (pdW a0 a1 a2 a3 kA (n - 1) (upd f1 i (f1 (i + 1))) (upd f2 i (f2 (i + 1))) f3) H := hP
          have hD : va_D A (pdW a0 a1 a2 a3 kA (n - 1) (upd f1 i (f1 (i + 1))) (upd f2 i (f2 (i + 1))) f3) := hD
          refine lv_aload_n hx hb dX2_drop_61 rfl (lv_at hl 0 rfl) ?_
          refine g_get F hK hP inX2 0 rfl rfl 2 (by decide) gw_166 rfl (v := .ref a3) rfl dX2_drop_62 ?_
          refine lv_iload_n hx hb dX2_drop_65 rfl (lv_at hl 2 rfl) ?_
          refine lv_aload_n hx hb dX2_drop_66 rfl (lv_at hl 0 rfl) ?_
          refine g_get F hK hP inX2 0 rfl rfl 2 (by decide) gw_166 rfl (v := .ref a3) rfl dX2_drop_67 ?_
          refine lv_iload_n hx hb dX2_drop_70 rfl (lv_at hl 2 rfl) ?_
          refine lv_iconst (v := 1) hx hb dX2_drop_71 (by decide) ?_
          refine n_add F (a := i) (b := 1) dX2_drop_72 ?_
          refine a_ild F hK hP 3 (f := f3) rfl (j := i + 1) (by omega) (by decide) dX2_drop_73 ?_
          refine a_ist F hK hP hD hS 3 (f := f3) rfl (j := i) (by omega) (by decide) dX2_drop_74 (fun H locs hP hD hS => ?_)
          have hP : va_P D vwCl (pdW a0 a1 a2 a3 kA (n - 1) (upd f1 i (f1 (i + 1))) (upd f2 i (f2 (i + 1))) (upd f3 i (f3 (i + 1)))) H := hP
          have hD : va_D A (pdW a0 a1 a2 a3 kA (n - 1) (upd f1 i (f1 (i + 1))) (upd f2 i (f2 (i + 1))) (upd f3 i (f3 (i + 1)))) := hD
          refine lv_iinc (v := nI (i + 1)) (lv' := [(2, .int (nI (i + 1))), (0, .ref a0), (1, .int (nI k))]) hx hb dX2_drop_75 hl (k := 2) rfl (nI_add i 1) (by decide) rfl (fun ls hl => ?_)
          refine lv_goto (tgt := 25) hx hb dX2_drop_78 (by decide) ?_
          exact ih_25  (i + 1) (upd f1 i (f1 (i + 1))) (upd f2 i (f2 (i + 1))) (upd f3 i (f3 (i + 1))) (by omega) (by omega) (by rw [h1]; exact shf_s _ hi1) (by rw [h2]; exact shf_s _ hi1) (by rw [h3]; exact shf_s _ hi1) (by omega) _ _ _ hP hD hS (lv_sub hl [1, 2, 0] rfl)
    exact lp_25 _ k so de dl (Nat.le_refl _) (by omega) (shf_0 _ _).symm (shf_0 _ _).symm (shf_0 _ _).symm (Nat.lt_succ_self _) _ _ _ hP hD hS (lv_sub hl [1, 2, 0] rfl)
  · exact absurd hk (by omega)

set_option maxRecDepth 100000 in
set_option maxHeartbeats 4000000 in
theorem kX3_note (l : Launch) (D : va_G) (kA : Nat → ClassId) (sz : Nat) (a0 a1 : Nat) (n : Nat) (L : Nat → Int32) (x : Int32) (hn : n < 2 ^ 30) : CtV l yX3_note cX3_note 2 1 0 0 D kA sz (vdW a0 a1 kA n L) [.ref a0, .int x] (fun uu => uu = vdW a0 a1 kA (n + 1) (upd L (n % 16) x)) := by
  refine ct_v (own := RX3) (by decide) rfl (Nat.le_of_ble_eq_true rfl) ?_
  intro p_ e_ s_ m_ ar_ bw_ me_ co_ A ls Q F hnm hK hA hP hD hS hl hsz rt
  have hx := F.1
  have hb := F.2.1
  have hl : lv_has ls 2 [(0, .ref a0), (1, .int x)] := hl
  have hP : va_P D vwCl (vdW a0 a1 kA n L) s_.heap := hP
  refine lv_aload_n hx hb dX3_note_0 rfl (lv_at hl 0 rfl) ?_
  refine g_get F hK hP inX3 0 rfl rfl 0 (by decide) gw_185 rfl (v := .ref a1) rfl dX3_note_1 ?_
  refine lv_aload_n hx hb dX3_note_4 rfl (lv_at hl 0 rfl) ?_
  refine g_get F hK hP inX3 0 rfl rfl 1 (by decide) gw_186 rfl (v := .int (nI n)) rfl dX3_note_5 ?_
  refine lv_bipush (v := 16) hx hb dX3_note_8 (by decide) ?_
  refine cl_S_i (wc := []) (As := [.int (nI n), .int 16]) (rest := [.ref a1]) F hK P_nil D_nil hS hA (kJ9_floorMod_7cf53 l D kA _ n (by omega)) gw_314 gw_72 gw_312 gw_313 hdJ9_floorMod_7cf53 ⟨Nat.le_of_ble_eq_true rfl, Nat.le_of_ble_eq_true rfl⟩ hl.1 rfl (Nat.le_of_ble_eq_true rfl) dX3_note_10 ⟨Nat.le_of_ble_eq_true rfl, Nat.le_of_ble_eq_true rfl⟩ (fun r_10 u_10 H locs hw hP1 hD1 hk1 hFc hS => ?_)
  obtain ⟨rfl, rfl⟩ := hw
  have hP := hp_non hP hk1
  refine lv_iload_n hx hb dX3_note_13 rfl (lv_at hl 1 rfl) ?_
  refine a_ist F hK hP hD hS 1 (f := L) rfl (j := n % 16) (by omega) (by decide) dX3_note_14 (fun H locs hP hD hS => ?_)
  have hP : va_P D vwCl (vdW a0 a1 kA n (upd L (n % 16) x)) H := hP
  have hD : va_D A (vdW a0 a1 kA n (upd L (n % 16) x)) := hD
  refine lv_aload_n hx hb dX3_note_15 rfl (lv_at hl 0 rfl) ?_
  refine lv_dup hx hb dX3_note_16 rfl ?_
  refine g_get F hK hP inX3 0 rfl rfl 1 (by decide) gw_186 rfl (v := .int (nI n)) rfl dX3_note_17 ?_
  refine lv_iconst (v := 1) hx hb dX3_note_20 (by decide) ?_
  refine n_add F (a := n) (b := 1) dX3_note_21 ?_
  refine g_put F hK hP hD hS inX3 tyX3_ok nmX3 0 rfl rfl 1 (by decide) gw_186 rfl rfl rfl rfl (Nat.le_of_ble_eq_true rfl) dX3_note_22 (fun H locs hP hD hS => ?_)
  have hP : va_P D vwCl (vdW a0 a1 kA (n + 1) (upd L (n % 16) x)) H := hP
  have hD : va_D A (vdW a0 a1 kA (n + 1) (upd L (n % 16) x)) := hD
  exact rt (vdW a0 a1 kA (n + 1) (upd L (n % 16) x)) _ _ _ _ hP hD hS dX3_note_25 (rfl)

set_option maxRecDepth 100000 in
set_option maxHeartbeats 4000000 in
theorem kX3_kept (l : Launch) (D : va_G) (kA : Nat → ClassId) (sz : Nat) (a0 a1 : Nat) (n : Nat) (L : Nat → Int32) (hn : n < 2 ^ 30) : CtI l yX3_kept cX3_kept 1 .int 0 D kA sz (vdW a0 a1 kA n L) [.ref a0] (fun r uu => r = nI (min n 16) ∧ uu = vdW a0 a1 kA n L) := by
  refine ct_i (own := RX3) (by decide) rfl (Nat.le_of_ble_eq_true rfl) ?_
  intro p_ e_ s_ m_ ar_ bw_ me_ co_ A ls Q F hnm hK hA hP hD hS hl hsz rt
  have hx := F.1
  have hb := F.2.1
  have hl : lv_has ls 1 [(0, .ref a0)] := hl
  have hP : va_P D vwCl (vdW a0 a1 kA n L) s_.heap := hP
  refine lv_aload_n hx hb dX3_kept_0 rfl (lv_at hl 0 rfl) ?_
  refine g_get F hK hP inX3 0 rfl rfl 1 (by decide) gw_186 rfl (v := .int (nI n)) rfl dX3_kept_1 ?_
  refine lv_bipush (v := 16) hx hb dX3_kept_4 (by decide) ?_
  refine b_ge F (a := n) (b := 16) (tgt := 16) dX3_kept_6 (by decide) (by omega) (by omega) (fun c_6 => ?_) (fun c_6 => ?_)
  · refine lv_bipush (v := 16) hx hb dX3_kept_16 (by decide) ?_
    exact rt _ (vdW a0 a1 kA n L) _ _ _ _ hP hD hS dX3_kept_18 (⟨by rw [show min n 16 = 16 by omega]; rfl, rfl⟩)
  · refine lv_aload_n hx hb dX3_kept_9 rfl (lv_at hl 0 rfl) ?_
    refine g_get F hK hP inX3 0 rfl rfl 1 (by decide) gw_186 rfl (v := .int (nI n)) rfl dX3_kept_10 ?_
    refine lv_goto (tgt := 18) hx hb dX3_kept_13 (by decide) ?_
    exact rt _ (vdW a0 a1 kA n L) _ _ _ _ hP hD hS dX3_kept_18 (⟨by rw [show min n 16 = n by omega], rfl⟩)

set_option maxRecDepth 100000 in
set_option maxHeartbeats 4000000 in
theorem kX3_recall (l : Launch) (D : va_G) (kA : Nat → ClassId) (sz : Nat) (a0 a1 : Nat) (n : Nat) (L : Nat → Int32) (b : Nat) (hn : n < 2 ^ 30) (hb : b < n) : CtI l yX3_recall cX3_recall 2 .int 1 D kA sz (vdW a0 a1 kA n L) [.ref a0, .int (nI b)] (fun r uu => r = L ((n - 1 - b) % 16) ∧ uu = vdW a0 a1 kA n L) := by
  refine ct_i (own := RX3) (by decide) rfl (Nat.le_of_ble_eq_true rfl) ?_
  intro p_ e_ s_ m_ ar_ bw_ me_ co_ A ls Q F hnm hK hA hP hD hS hl hsz rt
  have hx := F.1
  have hb := F.2.1
  have hl : lv_has ls 2 [(0, .ref a0), (1, .int (nI b))] := hl
  have hP : va_P D vwCl (vdW a0 a1 kA n L) s_.heap := hP
  refine lv_aload_n hx hb dX3_recall_0 rfl (lv_at hl 0 rfl) ?_
  refine g_get F hK hP inX3 0 rfl rfl 0 (by decide) gw_185 rfl (v := .ref a1) rfl dX3_recall_1 ?_
  refine lv_aload_n hx hb dX3_recall_4 rfl (lv_at hl 0 rfl) ?_
  refine g_get F hK hP inX3 0 rfl rfl 1 (by decide) gw_186 rfl (v := .int (nI n)) rfl dX3_recall_5 ?_
  refine lv_iconst (v := 1) hx hb dX3_recall_8 (by decide) ?_
  refine n_sub F (a := n) (b := 1) dX3_recall_9 (by omega) ?_
  refine lv_iload_n hx hb dX3_recall_10 rfl (lv_at hl 1 rfl) ?_
  refine n_sub F (a := n - 1) (b := b) dX3_recall_11 (by omega) ?_
  refine lv_bipush (v := 16) hx hb dX3_recall_12 (by decide) ?_
  refine cl_S_i (wc := []) (As := [.int (nI ((n - 1) - b)), .int 16]) (rest := [.ref a1]) F hK P_nil D_nil hS hA (kJ9_floorMod_7cf53 l D kA _ ((n - 1) - b) (by omega)) gw_314 gw_72 gw_312 gw_313 hdJ9_floorMod_7cf53 ⟨Nat.le_of_ble_eq_true rfl, Nat.le_of_ble_eq_true rfl⟩ hl.1 rfl (Nat.le_of_ble_eq_true rfl) dX3_recall_14 ⟨Nat.le_of_ble_eq_true rfl, Nat.le_of_ble_eq_true rfl⟩ (fun r_14 u_14 H locs hw hP1 hD1 hk1 hFc hS => ?_)
  obtain ⟨rfl, rfl⟩ := hw
  have hP := hp_non hP hk1
  refine a_ild F hK hP 1 (f := L) rfl (j := ((n - 1) - b) % 16) (by omega) (by decide) dX3_recall_17 ?_
  exact rt _ (vdW a0 a1 kA n L) _ _ _ _ hP hD hS dX3_recall_18 (⟨rfl, rfl⟩)
