theorem inv0 : Inv gN0 := by
  refine ⟨by decide, by decide, by decide, by decide, by decide, by decide, by decide, fun k hk => absurd hk (Nat.not_lt_zero _), by decide⟩
set_option maxRecDepth 100000 in
set_option maxHeartbeats 16000000 in
theorem whole_start {p_ : Program} {e_ : Env} {s_ : State} {m_ : MethodId} {bw_ : List Frame} {me_ : Method} {co_ : Code} (l : Launch) (hflags : l.flags = flags0) {b L : Nat} {xs : Nat → Int32} (hL0 : L ≤ 2560) (C0 : lw_At p_ s_ m_ me_ co_ b L xs) : W p_ l e_ room_1 s_ m_ #[Value.ref b] bw_ me_ co_ s_.heap [] 0 0 (lw_Z bw_ #[Value.ref b] s_) (entryFrame m_ ([Value.ref b] : List Value).toArray 4) := by
  obtain ⟨hx, hb, hr, hml, hown, hts, hX, hbl, hlocks, hgv⟩ := id C0
  obtain ⟨D, kA, hK⟩ := KK_start hts
  have F : CallFix p_ m_ co_ code 4 s_ #[Value.ref b] wsG "ScanDetectorLaw" := ⟨hx, hb, hml, hown, fun w h => hts w (List.mem_filter.mp h).1⟩
  obtain ⟨A, hAe⟩ : ∃ A : Nat → Prop, A = fun q => s_.heap.size ≤ q := ⟨_, rfl⟩
  have hA : ∀ q : Nat, s_.heap.size ≤ q → A q := fun q h => by rw [hAe]; exact h
  have hbA : ¬ A b := by rw [hAe]; exact Nat.not_le.mpr hbl
  have hS : va_S A s_.heap s_.heap [] := va_S.rf
  have hP : va_P D vwCl [] s_.heap := P_nil
  have hD : va_D A [] := D_nil
  have hl := lv_entry ([.ref b]) (n := 4) (Nat.le_of_ble_eq_true rfl)
  rw [lg_entry_eq]
  generalize (lg_sl ([.ref b]) ++ List.replicate (4 - (lg_sl ([.ref b])).length) Slot.unset).toArray = ls at hl ⊢
  have hl : lv_has ls 4 [(0, .ref b)] := hl
  refine va_new F.1 F.2.1 F.2.2.2.2 inX5 tyX5 tyX5_ok F.2.2.2.1 (F.2.2.2.2 _ gw_76) (F.2.2.2.2 _ gw_77) (F.2.2.2.2 _ gw_65) hK.1 hP hD hS hA (ci := 5) rfl dfX5 (Nat.le_of_ble_eq_true rfl) (Nat.le_of_ble_eq_true rfl) dL_law_0 (fun o_1 H hP hD hS => ?_)
  have hP : va_P D vwCl ([(o_1, .inr (5, [.null, .null, .null, .null, .null, .int 0, .int 0, .int 0]))]) H := hP
  have hD : va_D A ([(o_1, .inr (5, [.null, .null, .null, .null, .null, .int 0, .int 0, .int 0]))]) := hD
  refine lv_dup hx hb dL_law_3 rfl ?_
  refine cl_I_v (wc := ([(o_1, .inr (5, [.null, .null, .null, .null, .null, .int 0, .int 0, .int 0]))])) (As := []) (rest := [.ref o_1]) (b := o_1) F hK (sg_P (l1 := []) (l2 := []) hP) (sg_D (l1 := []) (l2 := []) hD) hS hA (kX5_init l D kA _ o_1) gw_80 gw_65 gw_78 gw_79 rfl hdX5_init ⟨Nat.le_of_ble_eq_true rfl, Nat.le_of_ble_eq_true rfl⟩ hl.1 rfl (Nat.le_of_ble_eq_true rfl) dL_law_4 ⟨Nat.le_of_ble_eq_true rfl, Nat.le_of_ble_eq_true rfl⟩ (fun u_4 H locs hw hP1 hD1 hk1 hFc hS => ?_)
  obtain ⟨adx, y0, had, rfl⟩ := hw
  have hPD := hp_seg (l1 := []) (wc := [(o_1, .inr (5, [.null, .null, .null, .null, .null, .int 0, .int 0, .int 0]))]) (l2 := []) hP hD hk1 hFc hP1 hD1
  have hP : va_P D vwCl (xW adx kA gN0 y0) H := hPD.1
  have hD : va_D A (xW adx kA gN0 y0) := hPD.2
  rw [← had]
  refine lv_astore_n (lv' := [(1, .ref (adx 0)), (0, .ref b)]) hx hb dL_law_7 rfl hl (by decide) rfl (fun ls hl => ?_)
  refine va_new F.1 F.2.1 F.2.2.2.2 inX6 tyX6 tyX6_ok F.2.2.2.1 (F.2.2.2.2 _ gw_570) (F.2.2.2.2 _ gw_571) (F.2.2.2.2 _ gw_71) hK.1 hP hD hS hA (ci := 6) rfl dfX6 (Nat.le_of_ble_eq_true rfl) (Nat.le_of_ble_eq_true rfl) dL_law_8 (fun o_2 H hP hD hS => ?_)
  have hP : va_P D vwCl (xW adx kA gN0 y0 ++ [(o_2, .inr (6, [.int 0, .int 0, .int 0, .int 0, .int 0, .int 0, .int 0, .null, .null, .null, .null, .null, .int 0, .null, .null, .null, .int 0, .null, .int 0, .null, .null, .null, .null, .null, .double 0, .double 0, .long 0]))]) H := hP
  have hD : va_D A (xW adx kA gN0 y0 ++ [(o_2, .inr (6, [.int 0, .int 0, .int 0, .int 0, .int 0, .int 0, .int 0, .null, .null, .null, .null, .null, .int 0, .null, .null, .null, .int 0, .null, .int 0, .null, .null, .null, .null, .null, .double 0, .double 0, .long 0]))]) := hD
  refine lv_dup hx hb dL_law_11 rfl ?_
  refine cl_I_v (wc := ([(o_2, .inr (6, [.int 0, .int 0, .int 0, .int 0, .int 0, .int 0, .int 0, .null, .null, .null, .null, .null, .int 0, .null, .null, .null, .int 0, .null, .int 0, .null, .null, .null, .null, .null, .double 0, .double 0, .long 0]))])) (As := []) (rest := [.ref o_2]) (b := o_2) F hK (sg_P (l1 := (xW adx kA gN0 y0)) (l2 := []) hP) (sg_D (l1 := (xW adx kA gN0 y0)) (l2 := []) hD) hS hA (kX6_init l D kA _ o_2) gw_574 gw_71 gw_572 gw_573 rfl hdX6_init ⟨Nat.le_of_ble_eq_true rfl, Nat.le_of_ble_eq_true rfl⟩ hl.1 rfl (Nat.le_of_ble_eq_true rfl) dL_law_12 ⟨Nat.le_of_ble_eq_true rfl, Nat.le_of_ble_eq_true rfl⟩ (fun u_12 H locs hw hP1 hD1 hk1 hFc hS => ?_)
  obtain ⟨adm, had, rfl⟩ := hw
  have hPD := hp_seg (l1 := (xW adx kA gN0 y0)) (wc := [(o_2, .inr (6, [.int 0, .int 0, .int 0, .int 0, .int 0, .int 0, .int 0, .null, .null, .null, .null, .null, .int 0, .null, .null, .null, .int 0, .null, .int 0, .null, .null, .null, .null, .null, .double 0, .double 0, .long 0]))]) (l2 := []) hP hD hk1 hFc hP1 hD1
  have hP : va_P D vwCl (xW adx kA gN0 y0 ++ mW adm kA gN0 zN0) H := hPD.1
  have hD : va_D A (xW adx kA gN0 y0 ++ mW adm kA gN0 zN0) := hPD.2
  rw [← had]
  refine lv_astore_n (lv' := [(2, .ref (adm 0)), (1, .ref (adx 0)), (0, .ref b)]) hx hb dL_law_15 rfl hl (by decide) rfl (fun ls hl => ?_)
  refine lv_iconst (v := 0) hx hb dL_law_16 (by decide) ?_
  refine W.cs (cells' := 38) (slots' := 1322) rfl rfl ?_
  refine lv_istore_n (lv' := [(3, .int 0), (2, .ref (adm 0)), (1, .ref (adx 0)), (0, .ref b)]) hx hb dL_law_17 rfl hl (by decide) rfl (fun ls hl => ?_)
  have lp_18 : ∀ (n_18 : Nat) (i : Nat) (g : Sg) (y : Ys) (z : Zm), (i ≤ L) → (Inv g) → ((gV g).length + gN g 1 ≤ 10 * i) → (RgX (gV g) (yL y)) → (RgM (gV g) (zL z)) → (L - i) < n_18 → ∀ (H : Heap) (locs : List Loc) (ls : Array Slot), va_P D vwCl (xW adx kA g y ++ mW adm kA g z) H → va_D A (xW adx kA g y ++ mW adm kA g z) → va_S A s_.heap H locs → lv_has ls 4 [(0, .ref b), (1, .ref (adx 0)), (2, .ref (adm 0)), (3, .int (nI i))] → W p_ l e_ room_1 s_ m_ #[Value.ref b] bw_ me_ co_ H locs 38 1322 (lw_Z bw_ #[Value.ref b] s_) (F0 m_ 18 ls []) := by
    intro n_18
    induction n_18 with
    | zero =>
      intro i g y z hi hI hB hLX hLM hm_18
      exact absurd hm_18 (Nat.not_lt_zero _)
    | succ n_18 ih_18 =>
      intro i g y z hi hI hB hLX hLM hm_18 H locs ls hP hD hS hl
      refine lv_iload_n hx hb dL_law_18 rfl (lv_at hl 3 rfl) ?_
      refine lv_aload_n hx hb dL_law_19 rfl (lv_at hl 0 rfl) ?_
      refine va_slen hx hb hX hbl hbA hS dL_law_20 ?_
      refine lv_iconst (v := 5) hx hb dL_law_21 (by decide) ?_
      refine lv_isub hx hb dL_law_22 ?_
      refine lv_icmp_gt (tgt := 833) hx hb dL_law_23 (by decide) (fun c_23 => ?_) (fun c_23 => ?_)
      · refine lv_iconst (v := 1) hx hb dL_law_833 (by decide) ?_
        refine va_forget (fun q hq => by have h9 := hS.2.2 q hq; rw [hAe] at h9; exact h9) ?_
        refine W.widen (k := 600000) (n := 7302250) (Nat.le_of_ble_eq_true rfl) (Nat.le_of_ble_eq_true rfl) ?_
        refine W.base ?_
        exact lw_ret (Drawn.sameBut.refl s_.drawn lw_cs) hx hb hr hlocks dL_law_834
      · have h23 : i + 5 ≤ L := by have h9 : ¬ L < i + 5 := fun h => c_23 ((lcond (by omega) (by omega)).mpr h); omega
        refine lv_aload_n hx hb dL_law_26 rfl (lv_at hl 0 rfl) ?_
        refine lv_iload_n hx hb dL_law_27 rfl (lv_at hl 3 rfl) ?_
        refine s_ld hx hb hX hbl hbA hS (j := i) (by omega) hL0 dL_law_28 ?_
        refine lv_bipush (v := 31) hx hb dL_law_29 (by decide) ?_
        refine lv_iand hx hb dL_law_31 ?_
        rcases sw_all (xs i &&& 31) with h6 | h6 | h6 | h6 | h6 | h6 | h6 | h6 | h6 | h6 | h6 | h6 | h6 | h6 | h6 | h6 | h6 | h6 | h6 | h6 | h6 | h6 | h6 | h6 | h6 | h6 | h6 | h6
        · rw [h6]
          refine lv_tableIn (tgt := 156) hx hb dL_law_32 (by decide) (by decide) rfl (by decide) ?_
          refine lv_aload_n hx hb dL_law_156 rfl (lv_at hl 1 rfl) ?_
          refine lv_aload_n hx hb dL_law_157 rfl (lv_at hl 0 rfl) ?_
          refine lv_iload_n hx hb dL_law_158 rfl (lv_at hl 3 rfl) ?_
          refine lv_iconst (v := 1) hx hb dL_law_159 (by decide) ?_
          refine n_add F (a := i) (b := 1) dL_law_160 ?_
          refine s_ld hx hb hX hbl hbA hS (j := i + 1) (by omega) hL0 dL_law_161 ?_
          refine lv_aload_n hx hb dL_law_162 rfl (lv_at hl 0 rfl) ?_
          refine lv_iload_n hx hb dL_law_163 rfl (lv_at hl 3 rfl) ?_
          refine lv_iconst (v := 2) hx hb dL_law_164 (by decide) ?_
          refine n_add F (a := i) (b := 2) dL_law_165 ?_
          refine s_ld hx hb hX hbl hbA hS (j := i + 2) (by omega) hL0 dL_law_166 ?_
          refine lv_aload_n hx hb dL_law_167 rfl (lv_at hl 0 rfl) ?_
          refine lv_iload_n hx hb dL_law_168 rfl (lv_at hl 3 rfl) ?_
          refine lv_iconst (v := 3) hx hb dL_law_169 (by decide) ?_
          refine n_add F (a := i) (b := 3) dL_law_170 ?_
          refine s_ld hx hb hX hbl hbA hS (j := i + 3) (by omega) hL0 dL_law_171 ?_
          refine lv_aload_n hx hb dL_law_172 rfl (lv_at hl 0 rfl) ?_
          refine lv_iload_n hx hb dL_law_173 rfl (lv_at hl 3 rfl) ?_
          refine lv_iconst (v := 4) hx hb dL_law_174 (by decide) ?_
          refine n_add F (a := i) (b := 4) dL_law_175 ?_
          refine s_ld hx hb hX hbl hbA hS (j := i + 4) (by omega) hL0 dL_law_176 ?_
          refine cl_V_i (wc := (xW adx kA g y)) (As := [.int (xs (i + 1)), .int (xs (i + 2)), .int (xs (i + 3)), .int (xs (i + 4))]) (rest := []) (b := (adx 0)) (C := RX5) F hK (sg_P (l1 := []) (l2 := mW adm kA g z) hP) (sg_D (l1 := []) (l2 := mW adm kA g z) hD) hS hA (kX5_configure l D kA _ adx g y (xs (i + 1)) (xs (i + 2)) (xs (i + 3)) (xs (i + 4)) ) gw_236 gw_65 gw_233 gw_234 gw_235 (va_recv hK.1 hP (ci := 5) (q0 := 0) rfl rfl) hdX5_configure ⟨Nat.le_of_ble_eq_true rfl, Nat.le_of_ble_eq_true rfl⟩ hl.1 rfl (Nat.le_of_ble_eq_true rfl) dL_law_177 ⟨Nat.le_of_ble_eq_true rfl, Nat.le_of_ble_eq_true rfl⟩ (fun r_177 u_177 H locs hw hP1 hD1 hk1 hFc hS => ?_)
          obtain ⟨rfl, rfl⟩ := hw
          have hPD := hp_seg (l1 := []) (wc := xW adx kA g y) (l2 := mW adm kA g z) hP hD hk1 hFc hP1 hD1
          have hP : va_P D vwCl (xW adx kA ((sp_configure (xs (i + 1)) (xs (i + 2)) (xs (i + 3)) (xs (i + 4)) g).2) y ++ mW adm kA g z) H := hPD.1
          have hD : va_D A (xW adx kA ((sp_configure (xs (i + 1)) (xs (i + 2)) (xs (i + 3)) (xs (i + 4)) g).2) y ++ mW adm kA g z) := hPD.2
          refine lv_aload_n hx hb dL_law_180 rfl (lv_at hl 2 rfl) ?_
          refine lv_aload_n hx hb dL_law_181 rfl (lv_at hl 0 rfl) ?_
          refine lv_iload_n hx hb dL_law_182 rfl (lv_at hl 3 rfl) ?_
          refine lv_iconst (v := 1) hx hb dL_law_183 (by decide) ?_
          refine n_add F (a := i) (b := 1) dL_law_184 ?_
          refine s_ld hx hb hX hbl hbA hS (j := i + 1) (by omega) hL0 dL_law_185 ?_
          refine lv_aload_n hx hb dL_law_186 rfl (lv_at hl 0 rfl) ?_
          refine lv_iload_n hx hb dL_law_187 rfl (lv_at hl 3 rfl) ?_
          refine lv_iconst (v := 2) hx hb dL_law_188 (by decide) ?_
          refine n_add F (a := i) (b := 2) dL_law_189 ?_
          refine s_ld hx hb hX hbl hbA hS (j := i + 2) (by omega) hL0 dL_law_190 ?_
          refine lv_aload_n hx hb dL_law_191 rfl (lv_at hl 0 rfl) ?_
          refine lv_iload_n hx hb dL_law_192 rfl (lv_at hl 3 rfl) ?_
          refine lv_iconst (v := 3) hx hb dL_law_193 (by decide) ?_
          refine n_add F (a := i) (b := 3) dL_law_194 ?_
          refine s_ld hx hb hX hbl hbA hS (j := i + 3) (by omega) hL0 dL_law_195 ?_
          refine lv_aload_n hx hb dL_law_196 rfl (lv_at hl 0 rfl) ?_
          refine lv_iload_n hx hb dL_law_197 rfl (lv_at hl 3 rfl) ?_
          refine lv_iconst (v := 4) hx hb dL_law_198 (by decide) ?_
          refine n_add F (a := i) (b := 4) dL_law_199 ?_
          refine s_ld hx hb hX hbl hbA hS (j := i + 4) (by omega) hL0 dL_law_200 ?_
          refine cl_V_i (wc := (mW adm kA g z)) (As := [.int (xs (i + 1)), .int (xs (i + 2)), .int (xs (i + 3)), .int (xs (i + 4))]) (rest := [.int ((sp_configure (xs (i + 1)) (xs (i + 2)) (xs (i + 3)) (xs (i + 4)) g).1)]) (b := (adm 0)) (C := RX6) F hK (sg_P (l1 := xW adx kA ((sp_configure (xs (i + 1)) (xs (i + 2)) (xs (i + 3)) (xs (i + 4)) g).2) y) (l2 := []) hP) (sg_D (l1 := xW adx kA ((sp_configure (xs (i + 1)) (xs (i + 2)) (xs (i + 3)) (xs (i + 4)) g).2) y) (l2 := []) hD) hS hA (kX6_configure l D kA _ adm g z (xs (i + 1)) (xs (i + 2)) (xs (i + 3)) (xs (i + 4)) ) gw_663 gw_71 gw_660 gw_661 gw_662 (va_recv hK.1 (sg_P (l1 := xW adx kA ((sp_configure (xs (i + 1)) (xs (i + 2)) (xs (i + 3)) (xs (i + 4)) g).2) y) (wc := mW adm kA g z) (l2 := []) hP) (ci := 6) (q0 := 0) rfl rfl) hdX6_configure ⟨Nat.le_of_ble_eq_true rfl, Nat.le_of_ble_eq_true rfl⟩ hl.1 rfl (Nat.le_of_ble_eq_true rfl) dL_law_201 ⟨Nat.le_of_ble_eq_true rfl, Nat.le_of_ble_eq_true rfl⟩ (fun r_201 u_201 H locs hw hP1 hD1 hk1 hFc hS => ?_)
          obtain ⟨rfl, rfl⟩ := hw
          have hPD := hp_seg (l1 := xW adx kA ((sp_configure (xs (i + 1)) (xs (i + 2)) (xs (i + 3)) (xs (i + 4)) g).2) y) (wc := mW adm kA g z) (l2 := []) hP hD hk1 hFc hP1 hD1
          have hP : va_P D vwCl (xW adx kA ((sp_configure (xs (i + 1)) (xs (i + 2)) (xs (i + 3)) (xs (i + 4)) g).2) y ++ mW adm kA ((sp_configure (xs (i + 1)) (xs (i + 2)) (xs (i + 3)) (xs (i + 4)) g).2) z) H := hPD.1
          have hD : va_D A (xW adx kA ((sp_configure (xs (i + 1)) (xs (i + 2)) (xs (i + 3)) (xs (i + 4)) g).2) y ++ mW adm kA ((sp_configure (xs (i + 1)) (xs (i + 2)) (xs (i + 3)) (xs (i + 4)) g).2) z) := hPD.2
          refine lv_icmp_eq (tgt := 827) hx hb dL_law_204 (by decide) (fun c_204 => ?_) (fun c_204 => ?_)
          · refine lv_iinc (v := nI (i + 5)) (lv' := [(3, .int (nI (i + 5))), (0, .ref b), (1, .ref (adx 0)), (2, .ref (adm 0))]) hx hb dL_law_827 hl (k := 3) rfl (nI_add i 5) (by decide) rfl (fun ls hl => ?_)
            refine lv_goto (tgt := 18) hx hb dL_law_830 (by decide) ?_
            have hN : Nx g ((sp_configure (xs (i + 1)) (xs (i + 2)) (xs (i + 3)) (xs (i + 4)) g).2) := nx_conf hI _ _ _ _
            have hN2 := hN.2
            exact ih_18  (i + 5) ((sp_configure (xs (i + 1)) (xs (i + 2)) (xs (i + 3)) (xs (i + 4)) g).2) y z (by omega) hN.1 (by omega) (rgx_sv hLX (sv_conf g _ _ _ _)) (rgm_sv hLM (sv_conf g _ _ _ _)) (by omega) _ _ _ hP hD hS (lv_sub hl [1, 2, 3, 0] rfl)
          · exact absurd rfl c_204
        · rw [h6]
          refine lv_tableIn (tgt := 209) hx hb dL_law_32 (by decide) (by decide) rfl (by decide) ?_
          refine lv_aload_n hx hb dL_law_209 rfl (lv_at hl 1 rfl) ?_
          refine lv_aload_n hx hb dL_law_210 rfl (lv_at hl 0 rfl) ?_
          refine lv_iload_n hx hb dL_law_211 rfl (lv_at hl 3 rfl) ?_
          refine lv_iconst (v := 1) hx hb dL_law_212 (by decide) ?_
          refine n_add F (a := i) (b := 1) dL_law_213 ?_
          refine s_ld hx hb hX hbl hbA hS (j := i + 1) (by omega) hL0 dL_law_214 ?_
          refine cl_V_i (wc := (xW adx kA g y)) (As := [.int (xs (i + 1))]) (rest := []) (b := (adx 0)) (C := RX5) F hK (sg_P (l1 := []) (l2 := mW adm kA g z) hP) (sg_D (l1 := []) (l2 := mW adm kA g z) hD) hS hA (kX5_setCells l D kA _ adx g y (xs (i + 1)) ) gw_256 gw_65 gw_253 gw_254 gw_255 (va_recv hK.1 hP (ci := 5) (q0 := 0) rfl rfl) hdX5_setCells ⟨Nat.le_of_ble_eq_true rfl, Nat.le_of_ble_eq_true rfl⟩ hl.1 rfl (Nat.le_of_ble_eq_true rfl) dL_law_215 ⟨Nat.le_of_ble_eq_true rfl, Nat.le_of_ble_eq_true rfl⟩ (fun r_215 u_215 H locs hw hP1 hD1 hk1 hFc hS => ?_)
          obtain ⟨rfl, rfl⟩ := hw
          have hPD := hp_seg (l1 := []) (wc := xW adx kA g y) (l2 := mW adm kA g z) hP hD hk1 hFc hP1 hD1
          have hP : va_P D vwCl (xW adx kA ((sp_setCells (xs (i + 1)) g).2) y ++ mW adm kA g z) H := hPD.1
          have hD : va_D A (xW adx kA ((sp_setCells (xs (i + 1)) g).2) y ++ mW adm kA g z) := hPD.2
          refine lv_aload_n hx hb dL_law_218 rfl (lv_at hl 2 rfl) ?_
          refine lv_aload_n hx hb dL_law_219 rfl (lv_at hl 0 rfl) ?_
          refine lv_iload_n hx hb dL_law_220 rfl (lv_at hl 3 rfl) ?_
          refine lv_iconst (v := 1) hx hb dL_law_221 (by decide) ?_
          refine n_add F (a := i) (b := 1) dL_law_222 ?_
          refine s_ld hx hb hX hbl hbA hS (j := i + 1) (by omega) hL0 dL_law_223 ?_
          refine cl_V_i (wc := (mW adm kA g z)) (As := [.int (xs (i + 1))]) (rest := [.int ((sp_setCells (xs (i + 1)) g).1)]) (b := (adm 0)) (C := RX6) F hK (sg_P (l1 := xW adx kA ((sp_setCells (xs (i + 1)) g).2) y) (l2 := []) hP) (sg_D (l1 := xW adx kA ((sp_setCells (xs (i + 1)) g).2) y) (l2 := []) hD) hS hA (kX6_setCells l D kA _ adm g z (xs (i + 1)) ) gw_674 gw_71 gw_671 gw_672 gw_673 (va_recv hK.1 (sg_P (l1 := xW adx kA ((sp_setCells (xs (i + 1)) g).2) y) (wc := mW adm kA g z) (l2 := []) hP) (ci := 6) (q0 := 0) rfl rfl) hdX6_setCells ⟨Nat.le_of_ble_eq_true rfl, Nat.le_of_ble_eq_true rfl⟩ hl.1 rfl (Nat.le_of_ble_eq_true rfl) dL_law_224 ⟨Nat.le_of_ble_eq_true rfl, Nat.le_of_ble_eq_true rfl⟩ (fun r_224 u_224 H locs hw hP1 hD1 hk1 hFc hS => ?_)
          obtain ⟨rfl, rfl⟩ := hw
          have hPD := hp_seg (l1 := xW adx kA ((sp_setCells (xs (i + 1)) g).2) y) (wc := mW adm kA g z) (l2 := []) hP hD hk1 hFc hP1 hD1
          have hP : va_P D vwCl (xW adx kA ((sp_setCells (xs (i + 1)) g).2) y ++ mW adm kA ((sp_setCells (xs (i + 1)) g).2) z) H := hPD.1
          have hD : va_D A (xW adx kA ((sp_setCells (xs (i + 1)) g).2) y ++ mW adm kA ((sp_setCells (xs (i + 1)) g).2) z) := hPD.2
          refine lv_icmp_eq (tgt := 827) hx hb dL_law_227 (by decide) (fun c_227 => ?_) (fun c_227 => ?_)
          · refine lv_iinc (v := nI (i + 5)) (lv' := [(3, .int (nI (i + 5))), (0, .ref b), (1, .ref (adx 0)), (2, .ref (adm 0))]) hx hb dL_law_827 hl (k := 3) rfl (nI_add i 5) (by decide) rfl (fun ls hl => ?_)
            refine lv_goto (tgt := 18) hx hb dL_law_830 (by decide) ?_
            have hN : Nx g ((sp_setCells (xs (i + 1)) g).2) := nx_setc hI _
            have hN2 := hN.2
            exact ih_18  (i + 5) ((sp_setCells (xs (i + 1)) g).2) y z (by omega) hN.1 (by omega) (rgx_sv hLX (sv_setc g _)) (rgm_sv hLM (sv_setc g _)) (by omega) _ _ _ hP hD hS (lv_sub hl [1, 2, 3, 0] rfl)
          · exact absurd rfl c_227
        · rw [h6]
          refine lv_tableIn (tgt := 232) hx hb dL_law_32 (by decide) (by decide) rfl (by decide) ?_
          refine lv_aload_n hx hb dL_law_232 rfl (lv_at hl 1 rfl) ?_
          refine lv_aload_n hx hb dL_law_233 rfl (lv_at hl 0 rfl) ?_
          refine lv_iload_n hx hb dL_law_234 rfl (lv_at hl 3 rfl) ?_
          refine lv_iconst (v := 1) hx hb dL_law_235 (by decide) ?_
          refine n_add F (a := i) (b := 1) dL_law_236 ?_
          refine s_ld hx hb hX hbl hbA hS (j := i + 1) (by omega) hL0 dL_law_237 ?_
          refine cl_V_i (wc := (xW adx kA g y)) (As := [.int (xs (i + 1))]) (rest := []) (b := (adx 0)) (C := RX5) F hK (sg_P (l1 := []) (l2 := mW adm kA g z) hP) (sg_D (l1 := []) (l2 := mW adm kA g z) hD) hS hA (kX5_setTimeout l D kA _ adx g y (xs (i + 1)) ) gw_260 gw_65 gw_257 gw_258 gw_259 (va_recv hK.1 hP (ci := 5) (q0 := 0) rfl rfl) hdX5_setTimeout ⟨Nat.le_of_ble_eq_true rfl, Nat.le_of_ble_eq_true rfl⟩ hl.1 rfl (Nat.le_of_ble_eq_true rfl) dL_law_238 ⟨Nat.le_of_ble_eq_true rfl, Nat.le_of_ble_eq_true rfl⟩ (fun r_238 u_238 H locs hw hP1 hD1 hk1 hFc hS => ?_)
          obtain ⟨rfl, rfl⟩ := hw
          have hPD := hp_seg (l1 := []) (wc := xW adx kA g y) (l2 := mW adm kA g z) hP hD hk1 hFc hP1 hD1
          have hP : va_P D vwCl (xW adx kA ((sp_setTimeout (xs (i + 1)) g).2) y ++ mW adm kA g z) H := hPD.1
          have hD : va_D A (xW adx kA ((sp_setTimeout (xs (i + 1)) g).2) y ++ mW adm kA g z) := hPD.2
          refine lv_aload_n hx hb dL_law_241 rfl (lv_at hl 2 rfl) ?_
          refine lv_aload_n hx hb dL_law_242 rfl (lv_at hl 0 rfl) ?_
          refine lv_iload_n hx hb dL_law_243 rfl (lv_at hl 3 rfl) ?_
          refine lv_iconst (v := 1) hx hb dL_law_244 (by decide) ?_
          refine n_add F (a := i) (b := 1) dL_law_245 ?_
          refine s_ld hx hb hX hbl hbA hS (j := i + 1) (by omega) hL0 dL_law_246 ?_
          refine cl_V_i (wc := (mW adm kA g z)) (As := [.int (xs (i + 1))]) (rest := [.int ((sp_setTimeout (xs (i + 1)) g).1)]) (b := (adm 0)) (C := RX6) F hK (sg_P (l1 := xW adx kA ((sp_setTimeout (xs (i + 1)) g).2) y) (l2 := []) hP) (sg_D (l1 := xW adx kA ((sp_setTimeout (xs (i + 1)) g).2) y) (l2 := []) hD) hS hA (kX6_setTimeout l D kA _ adm g z (xs (i + 1)) ) gw_678 gw_71 gw_675 gw_676 gw_677 (va_recv hK.1 (sg_P (l1 := xW adx kA ((sp_setTimeout (xs (i + 1)) g).2) y) (wc := mW adm kA g z) (l2 := []) hP) (ci := 6) (q0 := 0) rfl rfl) hdX6_setTimeout ⟨Nat.le_of_ble_eq_true rfl, Nat.le_of_ble_eq_true rfl⟩ hl.1 rfl (Nat.le_of_ble_eq_true rfl) dL_law_247 ⟨Nat.le_of_ble_eq_true rfl, Nat.le_of_ble_eq_true rfl⟩ (fun r_247 u_247 H locs hw hP1 hD1 hk1 hFc hS => ?_)
          obtain ⟨rfl, rfl⟩ := hw
          have hPD := hp_seg (l1 := xW adx kA ((sp_setTimeout (xs (i + 1)) g).2) y) (wc := mW adm kA g z) (l2 := []) hP hD hk1 hFc hP1 hD1
          have hP : va_P D vwCl (xW adx kA ((sp_setTimeout (xs (i + 1)) g).2) y ++ mW adm kA ((sp_setTimeout (xs (i + 1)) g).2) z) H := hPD.1
          have hD : va_D A (xW adx kA ((sp_setTimeout (xs (i + 1)) g).2) y ++ mW adm kA ((sp_setTimeout (xs (i + 1)) g).2) z) := hPD.2
          refine lv_icmp_eq (tgt := 827) hx hb dL_law_250 (by decide) (fun c_250 => ?_) (fun c_250 => ?_)
          · refine lv_iinc (v := nI (i + 5)) (lv' := [(3, .int (nI (i + 5))), (0, .ref b), (1, .ref (adx 0)), (2, .ref (adm 0))]) hx hb dL_law_827 hl (k := 3) rfl (nI_add i 5) (by decide) rfl (fun ls hl => ?_)
            refine lv_goto (tgt := 18) hx hb dL_law_830 (by decide) ?_
            have hN : Nx g ((sp_setTimeout (xs (i + 1)) g).2) := nx_sett hI _
            have hN2 := hN.2
            exact ih_18  (i + 5) ((sp_setTimeout (xs (i + 1)) g).2) y z (by omega) hN.1 (by omega) (rgx_sv hLX (sv_sett g _)) (rgm_sv hLM (sv_sett g _)) (by omega) _ _ _ hP hD hS (lv_sub hl [1, 2, 3, 0] rfl)
          · exact absurd rfl c_250
        · rw [h6]
          refine lv_tableIn (tgt := 255) hx hb dL_law_32 (by decide) (by decide) rfl (by decide) ?_
          refine lv_aload_n hx hb dL_law_255 rfl (lv_at hl 1 rfl) ?_
          refine lv_aload_n hx hb dL_law_256 rfl (lv_at hl 0 rfl) ?_
          refine lv_iload_n hx hb dL_law_257 rfl (lv_at hl 3 rfl) ?_
          refine lv_iconst (v := 1) hx hb dL_law_258 (by decide) ?_
          refine n_add F (a := i) (b := 1) dL_law_259 ?_
          refine s_ld hx hb hX hbl hbA hS (j := i + 1) (by omega) hL0 dL_law_260 ?_
          refine lv_aload_n hx hb dL_law_261 rfl (lv_at hl 0 rfl) ?_
          refine lv_iload_n hx hb dL_law_262 rfl (lv_at hl 3 rfl) ?_
          refine lv_iconst (v := 2) hx hb dL_law_263 (by decide) ?_
          refine n_add F (a := i) (b := 2) dL_law_264 ?_
          refine s_ld hx hb hX hbl hbA hS (j := i + 2) (by omega) hL0 dL_law_265 ?_
          refine lv_aload_n hx hb dL_law_266 rfl (lv_at hl 0 rfl) ?_
          refine lv_iload_n hx hb dL_law_267 rfl (lv_at hl 3 rfl) ?_
          refine lv_iconst (v := 3) hx hb dL_law_268 (by decide) ?_
          refine n_add F (a := i) (b := 3) dL_law_269 ?_
          refine s_ld hx hb hX hbl hbA hS (j := i + 3) (by omega) hL0 dL_law_270 ?_
          refine lv_if_eq (tgt := 278) hx hb dL_law_271 (by decide) (fun c_271 => ?_) (fun c_271 => ?_)
          · refine lv_iconst (v := 0) hx hb dL_law_278 (by decide) ?_
            refine cl_V_i (wc := (xW adx kA g y)) (As := [.int (xs (i + 1)), .int (xs (i + 2)), .int 0]) (rest := []) (b := (adx 0)) (C := RX5) F hK (sg_P (l1 := []) (l2 := mW adm kA g z) hP) (sg_D (l1 := []) (l2 := mW adm kA g z) hD) hS hA (kX5_connect l D kA _ adx g y (xs (i + 1)) (xs (i + 2)) 0 ⟨hI.1, hI.2.1⟩ (by omega) hLX) gw_264 gw_65 gw_261 gw_262 gw_263 (va_recv hK.1 hP (ci := 5) (q0 := 0) rfl rfl) hdX5_connect ⟨Nat.le_of_ble_eq_true rfl, Nat.le_of_ble_eq_true rfl⟩ hl.1 rfl (Nat.le_of_ble_eq_true rfl) dL_law_279 ⟨Nat.le_of_ble_eq_true rfl, Nat.le_of_ble_eq_true rfl⟩ (fun r_279 u_279 H locs hw hP1 hD1 hk1 hFc hS => ?_)
            obtain ⟨rfl, L_279, hL_279, rfl⟩ := hw
            have hPD := hp_seg (l1 := []) (wc := xW adx kA g y) (l2 := mW adm kA g z) hP hD hk1 hFc hP1 hD1
            have hP : va_P D vwCl (xW adx kA ((sp_connect (xs (i + 1)) (xs (i + 2)) 0 g).2) (tYL y L_279) ++ mW adm kA g z) H := hPD.1
            have hD : va_D A (xW adx kA ((sp_connect (xs (i + 1)) (xs (i + 2)) 0 g).2) (tYL y L_279) ++ mW adm kA g z) := hPD.2
            refine lv_aload_n hx hb dL_law_282 rfl (lv_at hl 2 rfl) ?_
            refine lv_aload_n hx hb dL_law_283 rfl (lv_at hl 0 rfl) ?_
            refine lv_iload_n hx hb dL_law_284 rfl (lv_at hl 3 rfl) ?_
            refine lv_iconst (v := 1) hx hb dL_law_285 (by decide) ?_
            refine n_add F (a := i) (b := 1) dL_law_286 ?_
            refine s_ld hx hb hX hbl hbA hS (j := i + 1) (by omega) hL0 dL_law_287 ?_
            refine lv_aload_n hx hb dL_law_288 rfl (lv_at hl 0 rfl) ?_
            refine lv_iload_n hx hb dL_law_289 rfl (lv_at hl 3 rfl) ?_
            refine lv_iconst (v := 2) hx hb dL_law_290 (by decide) ?_
            refine n_add F (a := i) (b := 2) dL_law_291 ?_
            refine s_ld hx hb hX hbl hbA hS (j := i + 2) (by omega) hL0 dL_law_292 ?_
            refine lv_aload_n hx hb dL_law_293 rfl (lv_at hl 0 rfl) ?_
            refine lv_iload_n hx hb dL_law_294 rfl (lv_at hl 3 rfl) ?_
            refine lv_iconst (v := 3) hx hb dL_law_295 (by decide) ?_
            refine n_add F (a := i) (b := 3) dL_law_296 ?_
            refine s_ld hx hb hX hbl hbA hS (j := i + 3) (by omega) hL0 dL_law_297 ?_
            refine lv_if_eq (tgt := 305) hx hb dL_law_298 (by decide) (fun c_298 => ?_) (fun c_298 => ?_)
            · refine lv_iconst (v := 0) hx hb dL_law_305 (by decide) ?_
              refine cl_V_i (wc := (mW adm kA g z)) (As := [.int (xs (i + 1)), .int (xs (i + 2)), .int 0]) (rest := [.int ((sp_connect (xs (i + 1)) (xs (i + 2)) 0 g).1)]) (b := (adm 0)) (C := RX6) F hK (sg_P (l1 := xW adx kA ((sp_connect (xs (i + 1)) (xs (i + 2)) 0 g).2) (tYL y L_279)) (l2 := []) hP) (sg_D (l1 := xW adx kA ((sp_connect (xs (i + 1)) (xs (i + 2)) 0 g).2) (tYL y L_279)) (l2 := []) hD) hS hA (kX6_connect l D kA _ adm g z (xs (i + 1)) (xs (i + 2)) 0 hI hLM) gw_682 gw_71 gw_679 gw_680 gw_681 (va_recv hK.1 (sg_P (l1 := xW adx kA ((sp_connect (xs (i + 1)) (xs (i + 2)) 0 g).2) (tYL y L_279)) (wc := mW adm kA g z) (l2 := []) hP) (ci := 6) (q0 := 0) rfl rfl) hdX6_connect ⟨Nat.le_of_ble_eq_true rfl, Nat.le_of_ble_eq_true rfl⟩ hl.1 rfl (Nat.le_of_ble_eq_true rfl) dL_law_306 ⟨Nat.le_of_ble_eq_true rfl, Nat.le_of_ble_eq_true rfl⟩ (fun r_306 u_306 H locs hw hP1 hD1 hk1 hFc hS => ?_)
              obtain ⟨rfl, L_306, hL_306, rfl⟩ := hw
              have hPD := hp_seg (l1 := xW adx kA ((sp_connect (xs (i + 1)) (xs (i + 2)) 0 g).2) (tYL y L_279)) (wc := mW adm kA g z) (l2 := []) hP hD hk1 hFc hP1 hD1
              have hP : va_P D vwCl (xW adx kA ((sp_connect (xs (i + 1)) (xs (i + 2)) 0 g).2) (tYL y L_279) ++ mW adm kA ((sp_connect (xs (i + 1)) (xs (i + 2)) 0 g).2) (tL z L_306)) H := hPD.1
              have hD : va_D A (xW adx kA ((sp_connect (xs (i + 1)) (xs (i + 2)) 0 g).2) (tYL y L_279) ++ mW adm kA ((sp_connect (xs (i + 1)) (xs (i + 2)) 0 g).2) (tL z L_306)) := hPD.2
              refine lv_icmp_eq (tgt := 827) hx hb dL_law_309 (by decide) (fun c_309 => ?_) (fun c_309 => ?_)
              · refine lv_iinc (v := nI (i + 5)) (lv' := [(3, .int (nI (i + 5))), (0, .ref b), (1, .ref (adx 0)), (2, .ref (adm 0))]) hx hb dL_law_827 hl (k := 3) rfl (nI_add i 5) (by decide) rfl (fun ls hl => ?_)
                refine lv_goto (tgt := 18) hx hb dL_law_830 (by decide) ?_
                have hN : Nx g ((sp_connect (xs (i + 1)) (xs (i + 2)) 0 g).2) := nx_con hI (by omega) _ _ _
                have hN2 := hN.2
                exact ih_18  (i + 5) ((sp_connect (xs (i + 1)) (xs (i + 2)) 0 g).2) (tYL y L_279) (tL z L_306) (by omega) hN.1 (by omega) hL_279 hL_306 (by omega) _ _ _ hP hD hS (lv_sub hl [1, 2, 3, 0] rfl)
              · exact absurd rfl c_309
            · exact absurd c_271 c_298
          · refine lv_iconst (v := 1) hx hb dL_law_274 (by decide) ?_
            refine lv_goto (tgt := 279) hx hb dL_law_275 (by decide) ?_
            refine cl_V_i (wc := (xW adx kA g y)) (As := [.int (xs (i + 1)), .int (xs (i + 2)), .int 1]) (rest := []) (b := (adx 0)) (C := RX5) F hK (sg_P (l1 := []) (l2 := mW adm kA g z) hP) (sg_D (l1 := []) (l2 := mW adm kA g z) hD) hS hA (kX5_connect l D kA _ adx g y (xs (i + 1)) (xs (i + 2)) 1 ⟨hI.1, hI.2.1⟩ (by omega) hLX) gw_264 gw_65 gw_261 gw_262 gw_263 (va_recv hK.1 hP (ci := 5) (q0 := 0) rfl rfl) hdX5_connect ⟨Nat.le_of_ble_eq_true rfl, Nat.le_of_ble_eq_true rfl⟩ hl.1 rfl (Nat.le_of_ble_eq_true rfl) dL_law_279 ⟨Nat.le_of_ble_eq_true rfl, Nat.le_of_ble_eq_true rfl⟩ (fun r_279 u_279 H locs hw hP1 hD1 hk1 hFc hS => ?_)
            obtain ⟨rfl, L_279, hL_279, rfl⟩ := hw
            have hPD := hp_seg (l1 := []) (wc := xW adx kA g y) (l2 := mW adm kA g z) hP hD hk1 hFc hP1 hD1
            have hP : va_P D vwCl (xW adx kA ((sp_connect (xs (i + 1)) (xs (i + 2)) 1 g).2) (tYL y L_279) ++ mW adm kA g z) H := hPD.1
            have hD : va_D A (xW adx kA ((sp_connect (xs (i + 1)) (xs (i + 2)) 1 g).2) (tYL y L_279) ++ mW adm kA g z) := hPD.2
            refine lv_aload_n hx hb dL_law_282 rfl (lv_at hl 2 rfl) ?_
            refine lv_aload_n hx hb dL_law_283 rfl (lv_at hl 0 rfl) ?_
            refine lv_iload_n hx hb dL_law_284 rfl (lv_at hl 3 rfl) ?_
            refine lv_iconst (v := 1) hx hb dL_law_285 (by decide) ?_
            refine n_add F (a := i) (b := 1) dL_law_286 ?_
            refine s_ld hx hb hX hbl hbA hS (j := i + 1) (by omega) hL0 dL_law_287 ?_
            refine lv_aload_n hx hb dL_law_288 rfl (lv_at hl 0 rfl) ?_
            refine lv_iload_n hx hb dL_law_289 rfl (lv_at hl 3 rfl) ?_
            refine lv_iconst (v := 2) hx hb dL_law_290 (by decide) ?_
            refine n_add F (a := i) (b := 2) dL_law_291 ?_
            refine s_ld hx hb hX hbl hbA hS (j := i + 2) (by omega) hL0 dL_law_292 ?_
            refine lv_aload_n hx hb dL_law_293 rfl (lv_at hl 0 rfl) ?_
            refine lv_iload_n hx hb dL_law_294 rfl (lv_at hl 3 rfl) ?_
            refine lv_iconst (v := 3) hx hb dL_law_295 (by decide) ?_
            refine n_add F (a := i) (b := 3) dL_law_296 ?_
            refine s_ld hx hb hX hbl hbA hS (j := i + 3) (by omega) hL0 dL_law_297 ?_
            refine lv_if_eq (tgt := 305) hx hb dL_law_298 (by decide) (fun c_298 => ?_) (fun c_298 => ?_)
            · exact absurd c_298 c_271
            · refine lv_iconst (v := 1) hx hb dL_law_301 (by decide) ?_
              refine lv_goto (tgt := 306) hx hb dL_law_302 (by decide) ?_
              refine cl_V_i (wc := (mW adm kA g z)) (As := [.int (xs (i + 1)), .int (xs (i + 2)), .int 1]) (rest := [.int ((sp_connect (xs (i + 1)) (xs (i + 2)) 1 g).1)]) (b := (adm 0)) (C := RX6) F hK (sg_P (l1 := xW adx kA ((sp_connect (xs (i + 1)) (xs (i + 2)) 1 g).2) (tYL y L_279)) (l2 := []) hP) (sg_D (l1 := xW adx kA ((sp_connect (xs (i + 1)) (xs (i + 2)) 1 g).2) (tYL y L_279)) (l2 := []) hD) hS hA (kX6_connect l D kA _ adm g z (xs (i + 1)) (xs (i + 2)) 1 hI hLM) gw_682 gw_71 gw_679 gw_680 gw_681 (va_recv hK.1 (sg_P (l1 := xW adx kA ((sp_connect (xs (i + 1)) (xs (i + 2)) 1 g).2) (tYL y L_279)) (wc := mW adm kA g z) (l2 := []) hP) (ci := 6) (q0 := 0) rfl rfl) hdX6_connect ⟨Nat.le_of_ble_eq_true rfl, Nat.le_of_ble_eq_true rfl⟩ hl.1 rfl (Nat.le_of_ble_eq_true rfl) dL_law_306 ⟨Nat.le_of_ble_eq_true rfl, Nat.le_of_ble_eq_true rfl⟩ (fun r_306 u_306 H locs hw hP1 hD1 hk1 hFc hS => ?_)
              obtain ⟨rfl, L_306, hL_306, rfl⟩ := hw
              have hPD := hp_seg (l1 := xW adx kA ((sp_connect (xs (i + 1)) (xs (i + 2)) 1 g).2) (tYL y L_279)) (wc := mW adm kA g z) (l2 := []) hP hD hk1 hFc hP1 hD1
              have hP : va_P D vwCl (xW adx kA ((sp_connect (xs (i + 1)) (xs (i + 2)) 1 g).2) (tYL y L_279) ++ mW adm kA ((sp_connect (xs (i + 1)) (xs (i + 2)) 1 g).2) (tL z L_306)) H := hPD.1
              have hD : va_D A (xW adx kA ((sp_connect (xs (i + 1)) (xs (i + 2)) 1 g).2) (tYL y L_279) ++ mW adm kA ((sp_connect (xs (i + 1)) (xs (i + 2)) 1 g).2) (tL z L_306)) := hPD.2
              refine lv_icmp_eq (tgt := 827) hx hb dL_law_309 (by decide) (fun c_309 => ?_) (fun c_309 => ?_)
              · refine lv_iinc (v := nI (i + 5)) (lv' := [(3, .int (nI (i + 5))), (0, .ref b), (1, .ref (adx 0)), (2, .ref (adm 0))]) hx hb dL_law_827 hl (k := 3) rfl (nI_add i 5) (by decide) rfl (fun ls hl => ?_)
                refine lv_goto (tgt := 18) hx hb dL_law_830 (by decide) ?_
                have hN : Nx g ((sp_connect (xs (i + 1)) (xs (i + 2)) 1 g).2) := nx_con hI (by omega) _ _ _
                have hN2 := hN.2
                exact ih_18  (i + 5) ((sp_connect (xs (i + 1)) (xs (i + 2)) 1 g).2) (tYL y L_279) (tL z L_306) (by omega) hN.1 (by omega) hL_279 hL_306 (by omega) _ _ _ hP hD hS (lv_sub hl [1, 2, 3, 0] rfl)
              · exact absurd rfl c_309
        · rw [h6]
          refine lv_tableIn (tgt := 314) hx hb dL_law_32 (by decide) (by decide) rfl (by decide) ?_
          refine lv_aload_n hx hb dL_law_314 rfl (lv_at hl 1 rfl) ?_
          refine lv_aload_n hx hb dL_law_315 rfl (lv_at hl 0 rfl) ?_
          refine lv_iload_n hx hb dL_law_316 rfl (lv_at hl 3 rfl) ?_
          refine lv_iconst (v := 1) hx hb dL_law_317 (by decide) ?_
          refine n_add F (a := i) (b := 1) dL_law_318 ?_
          refine s_ld hx hb hX hbl hbA hS (j := i + 1) (by omega) hL0 dL_law_319 ?_
          refine lv_aload_n hx hb dL_law_320 rfl (lv_at hl 0 rfl) ?_
          refine lv_iload_n hx hb dL_law_321 rfl (lv_at hl 3 rfl) ?_
          refine lv_iconst (v := 2) hx hb dL_law_322 (by decide) ?_
          refine n_add F (a := i) (b := 2) dL_law_323 ?_
          refine s_ld hx hb hX hbl hbA hS (j := i + 2) (by omega) hL0 dL_law_324 ?_
          refine cl_V_i (wc := (xW adx kA g y)) (As := [.int (xs (i + 1)), .int (xs (i + 2))]) (rest := []) (b := (adx 0)) (C := RX5) F hK (sg_P (l1 := []) (l2 := mW adm kA g z) hP) (sg_D (l1 := []) (l2 := mW adm kA g z) hD) hS hA (kX5_attempt l D kA _ adx g y (xs (i + 1)) (xs (i + 2)) ⟨hI.1, hI.2.1⟩) gw_318 gw_65 gw_315 gw_316 gw_317 (va_recv hK.1 hP (ci := 5) (q0 := 0) rfl rfl) hdX5_attempt ⟨Nat.le_of_ble_eq_true rfl, Nat.le_of_ble_eq_true rfl⟩ hl.1 rfl (Nat.le_of_ble_eq_true rfl) dL_law_325 ⟨Nat.le_of_ble_eq_true rfl, Nat.le_of_ble_eq_true rfl⟩ (fun r_325 u_325 H locs hw hP1 hD1 hk1 hFc hS => ?_)
          obtain ⟨rfl, rfl⟩ := hw
          have hPD := hp_seg (l1 := []) (wc := xW adx kA g y) (l2 := mW adm kA g z) hP hD hk1 hFc hP1 hD1
          have hP : va_P D vwCl (xW adx kA ((sp_attempt (xs (i + 1)) (xs (i + 2)) g).2) y ++ mW adm kA g z) H := hPD.1
          have hD : va_D A (xW adx kA ((sp_attempt (xs (i + 1)) (xs (i + 2)) g).2) y ++ mW adm kA g z) := hPD.2
          refine lv_aload_n hx hb dL_law_328 rfl (lv_at hl 2 rfl) ?_
          refine lv_aload_n hx hb dL_law_329 rfl (lv_at hl 0 rfl) ?_
          refine lv_iload_n hx hb dL_law_330 rfl (lv_at hl 3 rfl) ?_
          refine lv_iconst (v := 1) hx hb dL_law_331 (by decide) ?_
          refine n_add F (a := i) (b := 1) dL_law_332 ?_
          refine s_ld hx hb hX hbl hbA hS (j := i + 1) (by omega) hL0 dL_law_333 ?_
          refine lv_aload_n hx hb dL_law_334 rfl (lv_at hl 0 rfl) ?_
          refine lv_iload_n hx hb dL_law_335 rfl (lv_at hl 3 rfl) ?_
          refine lv_iconst (v := 2) hx hb dL_law_336 (by decide) ?_
          refine n_add F (a := i) (b := 2) dL_law_337 ?_
          refine s_ld hx hb hX hbl hbA hS (j := i + 2) (by omega) hL0 dL_law_338 ?_
          refine cl_V_i (wc := (mW adm kA g z)) (As := [.int (xs (i + 1)), .int (xs (i + 2))]) (rest := [.int ((sp_attempt (xs (i + 1)) (xs (i + 2)) g).1)]) (b := (adm 0)) (C := RX6) F hK (sg_P (l1 := xW adx kA ((sp_attempt (xs (i + 1)) (xs (i + 2)) g).2) y) (l2 := []) hP) (sg_D (l1 := xW adx kA ((sp_attempt (xs (i + 1)) (xs (i + 2)) g).2) y) (l2 := []) hD) hS hA (kX6_attempt l D kA _ adm g z (xs (i + 1)) (xs (i + 2)) hI) gw_716 gw_71 gw_713 gw_714 gw_715 (va_recv hK.1 (sg_P (l1 := xW adx kA ((sp_attempt (xs (i + 1)) (xs (i + 2)) g).2) y) (wc := mW adm kA g z) (l2 := []) hP) (ci := 6) (q0 := 0) rfl rfl) hdX6_attempt ⟨Nat.le_of_ble_eq_true rfl, Nat.le_of_ble_eq_true rfl⟩ hl.1 rfl (Nat.le_of_ble_eq_true rfl) dL_law_339 ⟨Nat.le_of_ble_eq_true rfl, Nat.le_of_ble_eq_true rfl⟩ (fun r_339 u_339 H locs hw hP1 hD1 hk1 hFc hS => ?_)
          obtain ⟨rfl, rfl⟩ := hw
          have hPD := hp_seg (l1 := xW adx kA ((sp_attempt (xs (i + 1)) (xs (i + 2)) g).2) y) (wc := mW adm kA g z) (l2 := []) hP hD hk1 hFc hP1 hD1
          have hP : va_P D vwCl (xW adx kA ((sp_attempt (xs (i + 1)) (xs (i + 2)) g).2) y ++ mW adm kA ((sp_attempt (xs (i + 1)) (xs (i + 2)) g).2) z) H := hPD.1
          have hD : va_D A (xW adx kA ((sp_attempt (xs (i + 1)) (xs (i + 2)) g).2) y ++ mW adm kA ((sp_attempt (xs (i + 1)) (xs (i + 2)) g).2) z) := hPD.2
          refine lv_icmp_eq (tgt := 827) hx hb dL_law_342 (by decide) (fun c_342 => ?_) (fun c_342 => ?_)
          · refine lv_iinc (v := nI (i + 5)) (lv' := [(3, .int (nI (i + 5))), (0, .ref b), (1, .ref (adx 0)), (2, .ref (adm 0))]) hx hb dL_law_827 hl (k := 3) rfl (nI_add i 5) (by decide) rfl (fun ls hl => ?_)
            refine lv_goto (tgt := 18) hx hb dL_law_830 (by decide) ?_
            have hN : Nx g ((sp_attempt (xs (i + 1)) (xs (i + 2)) g).2) := nx_att hI (by omega) _ _
            have hN2 := hN.2
            exact ih_18  (i + 5) ((sp_attempt (xs (i + 1)) (xs (i + 2)) g).2) y z (by omega) hN.1 (by omega) (rgx_sv hLX (sv_att g _ _)) (rgm_sv hLM (sv_att g _ _)) (by omega) _ _ _ hP hD hS (lv_sub hl [1, 2, 3, 0] rfl)
          · exact absurd rfl c_342
        · rw [h6]
          refine lv_tableIn (tgt := 347) hx hb dL_law_32 (by decide) (by decide) rfl (by decide) ?_
          refine lv_aload_n hx hb dL_law_347 rfl (lv_at hl 1 rfl) ?_
          refine lv_aload_n hx hb dL_law_348 rfl (lv_at hl 0 rfl) ?_
          refine lv_iload_n hx hb dL_law_349 rfl (lv_at hl 3 rfl) ?_
          refine lv_iconst (v := 1) hx hb dL_law_350 (by decide) ?_
          refine n_add F (a := i) (b := 1) dL_law_351 ?_
          refine s_ld hx hb hX hbl hbA hS (j := i + 1) (by omega) hL0 dL_law_352 ?_
          refine lv_aload_n hx hb dL_law_353 rfl (lv_at hl 0 rfl) ?_
          refine lv_iload_n hx hb dL_law_354 rfl (lv_at hl 3 rfl) ?_
          refine lv_iconst (v := 2) hx hb dL_law_355 (by decide) ?_
          refine n_add F (a := i) (b := 2) dL_law_356 ?_
          refine s_ld hx hb hX hbl hbA hS (j := i + 2) (by omega) hL0 dL_law_357 ?_
          refine cl_V_i (wc := (xW adx kA g y)) (As := [.int (xs (i + 1)), .int (xs (i + 2))]) (rest := []) (b := (adx 0)) (C := RX5) F hK (sg_P (l1 := []) (l2 := mW adm kA g z) hP) (sg_D (l1 := []) (l2 := mW adm kA g z) hD) hS hA (kX5_answer l D kA _ adx g y (xs (i + 1)) (xs (i + 2)) hI hLX) gw_330 gw_65 gw_327 gw_328 gw_329 (va_recv hK.1 hP (ci := 5) (q0 := 0) rfl rfl) hdX5_answer ⟨Nat.le_of_ble_eq_true rfl, Nat.le_of_ble_eq_true rfl⟩ hl.1 rfl (Nat.le_of_ble_eq_true rfl) dL_law_358 ⟨Nat.le_of_ble_eq_true rfl, Nat.le_of_ble_eq_true rfl⟩ (fun r_358 u_358 H locs hw hP1 hD1 hk1 hFc hS => ?_)
          obtain ⟨rfl, L_358, hL_358, rfl⟩ := hw
          have hPD := hp_seg (l1 := []) (wc := xW adx kA g y) (l2 := mW adm kA g z) hP hD hk1 hFc hP1 hD1
          have hP : va_P D vwCl (xW adx kA ((sp_answer (xs (i + 1)) (xs (i + 2)) g).2) (tYL y L_358) ++ mW adm kA g z) H := hPD.1
          have hD : va_D A (xW adx kA ((sp_answer (xs (i + 1)) (xs (i + 2)) g).2) (tYL y L_358) ++ mW adm kA g z) := hPD.2
          refine lv_aload_n hx hb dL_law_361 rfl (lv_at hl 2 rfl) ?_
          refine lv_aload_n hx hb dL_law_362 rfl (lv_at hl 0 rfl) ?_
          refine lv_iload_n hx hb dL_law_363 rfl (lv_at hl 3 rfl) ?_
          refine lv_iconst (v := 1) hx hb dL_law_364 (by decide) ?_
          refine n_add F (a := i) (b := 1) dL_law_365 ?_
          refine s_ld hx hb hX hbl hbA hS (j := i + 1) (by omega) hL0 dL_law_366 ?_
          refine lv_aload_n hx hb dL_law_367 rfl (lv_at hl 0 rfl) ?_
          refine lv_iload_n hx hb dL_law_368 rfl (lv_at hl 3 rfl) ?_
          refine lv_iconst (v := 2) hx hb dL_law_369 (by decide) ?_
          refine n_add F (a := i) (b := 2) dL_law_370 ?_
          refine s_ld hx hb hX hbl hbA hS (j := i + 2) (by omega) hL0 dL_law_371 ?_
          refine cl_V_i (wc := (mW adm kA g z)) (As := [.int (xs (i + 1)), .int (xs (i + 2))]) (rest := [.int ((sp_answer (xs (i + 1)) (xs (i + 2)) g).1)]) (b := (adm 0)) (C := RX6) F hK (sg_P (l1 := xW adx kA ((sp_answer (xs (i + 1)) (xs (i + 2)) g).2) (tYL y L_358)) (l2 := []) hP) (sg_D (l1 := xW adx kA ((sp_answer (xs (i + 1)) (xs (i + 2)) g).2) (tYL y L_358)) (l2 := []) hD) hS hA (kX6_answer l D kA _ adm g z (xs (i + 1)) (xs (i + 2)) hI hLM) gw_724 gw_71 gw_721 gw_722 gw_723 (va_recv hK.1 (sg_P (l1 := xW adx kA ((sp_answer (xs (i + 1)) (xs (i + 2)) g).2) (tYL y L_358)) (wc := mW adm kA g z) (l2 := []) hP) (ci := 6) (q0 := 0) rfl rfl) hdX6_answer ⟨Nat.le_of_ble_eq_true rfl, Nat.le_of_ble_eq_true rfl⟩ hl.1 rfl (Nat.le_of_ble_eq_true rfl) dL_law_372 ⟨Nat.le_of_ble_eq_true rfl, Nat.le_of_ble_eq_true rfl⟩ (fun r_372 u_372 H locs hw hP1 hD1 hk1 hFc hS => ?_)
          obtain ⟨rfl, L_372, hL_372, rfl⟩ := hw
          have hPD := hp_seg (l1 := xW adx kA ((sp_answer (xs (i + 1)) (xs (i + 2)) g).2) (tYL y L_358)) (wc := mW adm kA g z) (l2 := []) hP hD hk1 hFc hP1 hD1
          have hP : va_P D vwCl (xW adx kA ((sp_answer (xs (i + 1)) (xs (i + 2)) g).2) (tYL y L_358) ++ mW adm kA ((sp_answer (xs (i + 1)) (xs (i + 2)) g).2) (tL z L_372)) H := hPD.1
          have hD : va_D A (xW adx kA ((sp_answer (xs (i + 1)) (xs (i + 2)) g).2) (tYL y L_358) ++ mW adm kA ((sp_answer (xs (i + 1)) (xs (i + 2)) g).2) (tL z L_372)) := hPD.2
          refine lv_icmp_eq (tgt := 827) hx hb dL_law_375 (by decide) (fun c_375 => ?_) (fun c_375 => ?_)
          · refine lv_iinc (v := nI (i + 5)) (lv' := [(3, .int (nI (i + 5))), (0, .ref b), (1, .ref (adx 0)), (2, .ref (adm 0))]) hx hb dL_law_827 hl (k := 3) rfl (nI_add i 5) (by decide) rfl (fun ls hl => ?_)
            refine lv_goto (tgt := 18) hx hb dL_law_830 (by decide) ?_
            have hN : Nx g ((sp_answer (xs (i + 1)) (xs (i + 2)) g).2) := nx_ans hI (by omega) _ _
            have hN2 := hN.2
            exact ih_18  (i + 5) ((sp_answer (xs (i + 1)) (xs (i + 2)) g).2) (tYL y L_358) (tL z L_372) (by omega) hN.1 (by omega) hL_358 hL_372 (by omega) _ _ _ hP hD hS (lv_sub hl [1, 2, 3, 0] rfl)
          · exact absurd rfl c_375
        · rw [h6]
          refine lv_tableIn (tgt := 380) hx hb dL_law_32 (by decide) (by decide) rfl (by decide) ?_
          refine lv_aload_n hx hb dL_law_380 rfl (lv_at hl 1 rfl) ?_
          refine lv_aload_n hx hb dL_law_381 rfl (lv_at hl 0 rfl) ?_
          refine lv_iload_n hx hb dL_law_382 rfl (lv_at hl 3 rfl) ?_
          refine lv_iconst (v := 1) hx hb dL_law_383 (by decide) ?_
          refine n_add F (a := i) (b := 1) dL_law_384 ?_
          refine s_ld hx hb hX hbl hbA hS (j := i + 1) (by omega) hL0 dL_law_385 ?_
          refine cl_V_i (wc := (xW adx kA g y)) (As := [.int (xs (i + 1))]) (rest := []) (b := (adx 0)) (C := RX5) F hK (sg_P (l1 := []) (l2 := mW adm kA g z) hP) (sg_D (l1 := []) (l2 := mW adm kA g z) hD) hS hA (kX5_advance l D kA _ adx g y (xs (i + 1)) hI hLX (by omega)) gw_338 gw_65 gw_335 gw_336 gw_337 (va_recv hK.1 hP (ci := 5) (q0 := 0) rfl rfl) hdX5_advance ⟨Nat.le_of_ble_eq_true rfl, Nat.le_of_ble_eq_true rfl⟩ hl.1 rfl (Nat.le_of_ble_eq_true rfl) dL_law_386 ⟨Nat.le_of_ble_eq_true rfl, Nat.le_of_ble_eq_true rfl⟩ (fun r_386 u_386 H locs hw hP1 hD1 hk1 hFc hS => ?_)
          obtain ⟨rfl, L_386, hL_386, rfl⟩ := hw
          have hPD := hp_seg (l1 := []) (wc := xW adx kA g y) (l2 := mW adm kA g z) hP hD hk1 hFc hP1 hD1
          have hP : va_P D vwCl (xW adx kA ((sp_advance (xs (i + 1)) g).2) (tYL y L_386) ++ mW adm kA g z) H := hPD.1
          have hD : va_D A (xW adx kA ((sp_advance (xs (i + 1)) g).2) (tYL y L_386) ++ mW adm kA g z) := hPD.2
          refine lv_aload_n hx hb dL_law_389 rfl (lv_at hl 2 rfl) ?_
          refine lv_aload_n hx hb dL_law_390 rfl (lv_at hl 0 rfl) ?_
          refine lv_iload_n hx hb dL_law_391 rfl (lv_at hl 3 rfl) ?_
          refine lv_iconst (v := 1) hx hb dL_law_392 (by decide) ?_
          refine n_add F (a := i) (b := 1) dL_law_393 ?_
          refine s_ld hx hb hX hbl hbA hS (j := i + 1) (by omega) hL0 dL_law_394 ?_
          refine cl_V_i (wc := (mW adm kA g z)) (As := [.int (xs (i + 1))]) (rest := [.int ((sp_advance (xs (i + 1)) g).1)]) (b := (adm 0)) (C := RX6) F hK (sg_P (l1 := xW adx kA ((sp_advance (xs (i + 1)) g).2) (tYL y L_386)) (l2 := []) hP) (sg_D (l1 := xW adx kA ((sp_advance (xs (i + 1)) g).2) (tYL y L_386)) (l2 := []) hD) hS hA (kX6_advance l D kA _ adm g z (xs (i + 1)) hI hLM) gw_728 gw_71 gw_725 gw_726 gw_727 (va_recv hK.1 (sg_P (l1 := xW adx kA ((sp_advance (xs (i + 1)) g).2) (tYL y L_386)) (wc := mW adm kA g z) (l2 := []) hP) (ci := 6) (q0 := 0) rfl rfl) hdX6_advance ⟨Nat.le_of_ble_eq_true rfl, Nat.le_of_ble_eq_true rfl⟩ hl.1 rfl (Nat.le_of_ble_eq_true rfl) dL_law_395 ⟨Nat.le_of_ble_eq_true rfl, Nat.le_of_ble_eq_true rfl⟩ (fun r_395 u_395 H locs hw hP1 hD1 hk1 hFc hS => ?_)
          obtain ⟨rfl, L_395, hL_395, rfl⟩ := hw
          have hPD := hp_seg (l1 := xW adx kA ((sp_advance (xs (i + 1)) g).2) (tYL y L_386)) (wc := mW adm kA g z) (l2 := []) hP hD hk1 hFc hP1 hD1
          have hP : va_P D vwCl (xW adx kA ((sp_advance (xs (i + 1)) g).2) (tYL y L_386) ++ mW adm kA ((sp_advance (xs (i + 1)) g).2) (tL z L_395)) H := hPD.1
          have hD : va_D A (xW adx kA ((sp_advance (xs (i + 1)) g).2) (tYL y L_386) ++ mW adm kA ((sp_advance (xs (i + 1)) g).2) (tL z L_395)) := hPD.2
          refine lv_icmp_eq (tgt := 827) hx hb dL_law_398 (by decide) (fun c_398 => ?_) (fun c_398 => ?_)
          · refine lv_iinc (v := nI (i + 5)) (lv' := [(3, .int (nI (i + 5))), (0, .ref b), (1, .ref (adx 0)), (2, .ref (adm 0))]) hx hb dL_law_827 hl (k := 3) rfl (nI_add i 5) (by decide) rfl (fun ls hl => ?_)
            refine lv_goto (tgt := 18) hx hb dL_law_830 (by decide) ?_
            have hN : Nx g ((sp_advance (xs (i + 1)) g).2) := nx_adv hI (by omega) _
            have hN2 := hN.2
            exact ih_18  (i + 5) ((sp_advance (xs (i + 1)) g).2) (tYL y L_386) (tL z L_395) (by omega) hN.1 (by omega) hL_386 hL_395 (by omega) _ _ _ hP hD hS (lv_sub hl [1, 2, 3, 0] rfl)
          · exact absurd rfl c_398
        · rw [h6]
          refine lv_tableIn (tgt := 403) hx hb dL_law_32 (by decide) (by decide) rfl (by decide) ?_
          refine lv_aload_n hx hb dL_law_403 rfl (lv_at hl 1 rfl) ?_
          refine lv_aload_n hx hb dL_law_404 rfl (lv_at hl 0 rfl) ?_
          refine lv_iload_n hx hb dL_law_405 rfl (lv_at hl 3 rfl) ?_
          refine lv_iconst (v := 1) hx hb dL_law_406 (by decide) ?_
          refine n_add F (a := i) (b := 1) dL_law_407 ?_
          refine s_ld hx hb hX hbl hbA hS (j := i + 1) (by omega) hL0 dL_law_408 ?_
          refine cl_V_i (wc := (xW adx kA g y)) (As := [.int (xs (i + 1))]) (rest := []) (b := (adx 0)) (C := RX5) F hK (sg_P (l1 := []) (l2 := mW adm kA g z) hP) (sg_D (l1 := []) (l2 := mW adm kA g z) hD) hS hA (kX5_unblock l D kA _ adx g y (xs (i + 1)) hI) gw_350 gw_65 gw_347 gw_348 gw_349 (va_recv hK.1 hP (ci := 5) (q0 := 0) rfl rfl) hdX5_unblock ⟨Nat.le_of_ble_eq_true rfl, Nat.le_of_ble_eq_true rfl⟩ hl.1 rfl (Nat.le_of_ble_eq_true rfl) dL_law_409 ⟨Nat.le_of_ble_eq_true rfl, Nat.le_of_ble_eq_true rfl⟩ (fun r_409 u_409 H locs hw hP1 hD1 hk1 hFc hS => ?_)
          obtain ⟨rfl, rfl⟩ := hw
          have hPD := hp_seg (l1 := []) (wc := xW adx kA g y) (l2 := mW adm kA g z) hP hD hk1 hFc hP1 hD1
          have hP : va_P D vwCl (xW adx kA ((sp_unblock (xs (i + 1)) g).2) y ++ mW adm kA g z) H := hPD.1
          have hD : va_D A (xW adx kA ((sp_unblock (xs (i + 1)) g).2) y ++ mW adm kA g z) := hPD.2
          refine lv_aload_n hx hb dL_law_412 rfl (lv_at hl 2 rfl) ?_
          refine lv_aload_n hx hb dL_law_413 rfl (lv_at hl 0 rfl) ?_
          refine lv_iload_n hx hb dL_law_414 rfl (lv_at hl 3 rfl) ?_
          refine lv_iconst (v := 1) hx hb dL_law_415 (by decide) ?_
          refine n_add F (a := i) (b := 1) dL_law_416 ?_
          refine s_ld hx hb hX hbl hbA hS (j := i + 1) (by omega) hL0 dL_law_417 ?_
          refine cl_V_i (wc := (mW adm kA g z)) (As := [.int (xs (i + 1))]) (rest := [.int ((sp_unblock (xs (i + 1)) g).1)]) (b := (adm 0)) (C := RX6) F hK (sg_P (l1 := xW adx kA ((sp_unblock (xs (i + 1)) g).2) y) (l2 := []) hP) (sg_D (l1 := xW adx kA ((sp_unblock (xs (i + 1)) g).2) y) (l2 := []) hD) hS hA (kX6_unblock l D kA _ adm g z (xs (i + 1)) hI) gw_740 gw_71 gw_737 gw_738 gw_739 (va_recv hK.1 (sg_P (l1 := xW adx kA ((sp_unblock (xs (i + 1)) g).2) y) (wc := mW adm kA g z) (l2 := []) hP) (ci := 6) (q0 := 0) rfl rfl) hdX6_unblock ⟨Nat.le_of_ble_eq_true rfl, Nat.le_of_ble_eq_true rfl⟩ hl.1 rfl (Nat.le_of_ble_eq_true rfl) dL_law_418 ⟨Nat.le_of_ble_eq_true rfl, Nat.le_of_ble_eq_true rfl⟩ (fun r_418 u_418 H locs hw hP1 hD1 hk1 hFc hS => ?_)
          obtain ⟨rfl, rfl⟩ := hw
          have hPD := hp_seg (l1 := xW adx kA ((sp_unblock (xs (i + 1)) g).2) y) (wc := mW adm kA g z) (l2 := []) hP hD hk1 hFc hP1 hD1
          have hP : va_P D vwCl (xW adx kA ((sp_unblock (xs (i + 1)) g).2) y ++ mW adm kA ((sp_unblock (xs (i + 1)) g).2) z) H := hPD.1
          have hD : va_D A (xW adx kA ((sp_unblock (xs (i + 1)) g).2) y ++ mW adm kA ((sp_unblock (xs (i + 1)) g).2) z) := hPD.2
          refine lv_icmp_eq (tgt := 827) hx hb dL_law_421 (by decide) (fun c_421 => ?_) (fun c_421 => ?_)
          · refine lv_iinc (v := nI (i + 5)) (lv' := [(3, .int (nI (i + 5))), (0, .ref b), (1, .ref (adx 0)), (2, .ref (adm 0))]) hx hb dL_law_827 hl (k := 3) rfl (nI_add i 5) (by decide) rfl (fun ls hl => ?_)
            refine lv_goto (tgt := 18) hx hb dL_law_830 (by decide) ?_
            have hN : Nx g ((sp_unblock (xs (i + 1)) g).2) := nx_unb hI _
            have hN2 := hN.2
            exact ih_18  (i + 5) ((sp_unblock (xs (i + 1)) g).2) y z (by omega) hN.1 (by omega) (rgx_sv hLX (sv_unb g _)) (rgm_sv hLM (sv_unb g _)) (by omega) _ _ _ hP hD hS (lv_sub hl [1, 2, 3, 0] rfl)
          · exact absurd rfl c_421
        · rw [h6]
          refine lv_tableIn (tgt := 426) hx hb dL_law_32 (by decide) (by decide) rfl (by decide) ?_
          refine lv_aload_n hx hb dL_law_426 rfl (lv_at hl 1 rfl) ?_
          refine lv_aload_n hx hb dL_law_427 rfl (lv_at hl 0 rfl) ?_
          refine lv_iload_n hx hb dL_law_428 rfl (lv_at hl 3 rfl) ?_
          refine lv_iconst (v := 1) hx hb dL_law_429 (by decide) ?_
          refine n_add F (a := i) (b := 1) dL_law_430 ?_
          refine s_ld hx hb hX hbl hbA hS (j := i + 1) (by omega) hL0 dL_law_431 ?_
          refine cl_V_i (wc := (xW adx kA g y)) (As := [.int (xs (i + 1))]) (rest := []) (b := (adx 0)) (C := RX5) F hK (sg_P (l1 := []) (l2 := mW adm kA g z) hP) (sg_D (l1 := []) (l2 := mW adm kA g z) hD) hS hA (kX5_append l D kA _ adx g y (xs (i + 1)) hI) gw_358 gw_65 gw_355 gw_356 gw_357 (va_recv hK.1 hP (ci := 5) (q0 := 0) rfl rfl) hdX5_append ⟨Nat.le_of_ble_eq_true rfl, Nat.le_of_ble_eq_true rfl⟩ hl.1 rfl (Nat.le_of_ble_eq_true rfl) dL_law_432 ⟨Nat.le_of_ble_eq_true rfl, Nat.le_of_ble_eq_true rfl⟩ (fun r_432 u_432 H locs hw hP1 hD1 hk1 hFc hS => ?_)
          obtain ⟨rfl, rfl⟩ := hw
          have hPD := hp_seg (l1 := []) (wc := xW adx kA g y) (l2 := mW adm kA g z) hP hD hk1 hFc hP1 hD1
          have hP : va_P D vwCl (xW adx kA ((sp_append (xs (i + 1)) g).2) y ++ mW adm kA g z) H := hPD.1
          have hD : va_D A (xW adx kA ((sp_append (xs (i + 1)) g).2) y ++ mW adm kA g z) := hPD.2
          refine lv_aload_n hx hb dL_law_435 rfl (lv_at hl 2 rfl) ?_
          refine lv_aload_n hx hb dL_law_436 rfl (lv_at hl 0 rfl) ?_
          refine lv_iload_n hx hb dL_law_437 rfl (lv_at hl 3 rfl) ?_
          refine lv_iconst (v := 1) hx hb dL_law_438 (by decide) ?_
          refine n_add F (a := i) (b := 1) dL_law_439 ?_
          refine s_ld hx hb hX hbl hbA hS (j := i + 1) (by omega) hL0 dL_law_440 ?_
          refine cl_V_i (wc := (mW adm kA g z)) (As := [.int (xs (i + 1))]) (rest := [.int ((sp_append (xs (i + 1)) g).1)]) (b := (adm 0)) (C := RX6) F hK (sg_P (l1 := xW adx kA ((sp_append (xs (i + 1)) g).2) y) (l2 := []) hP) (sg_D (l1 := xW adx kA ((sp_append (xs (i + 1)) g).2) y) (l2 := []) hD) hS hA (kX6_append l D kA _ adm g z (xs (i + 1)) hI) gw_748 gw_71 gw_745 gw_746 gw_747 (va_recv hK.1 (sg_P (l1 := xW adx kA ((sp_append (xs (i + 1)) g).2) y) (wc := mW adm kA g z) (l2 := []) hP) (ci := 6) (q0 := 0) rfl rfl) hdX6_append ⟨Nat.le_of_ble_eq_true rfl, Nat.le_of_ble_eq_true rfl⟩ hl.1 rfl (Nat.le_of_ble_eq_true rfl) dL_law_441 ⟨Nat.le_of_ble_eq_true rfl, Nat.le_of_ble_eq_true rfl⟩ (fun r_441 u_441 H locs hw hP1 hD1 hk1 hFc hS => ?_)
          obtain ⟨rfl, rfl⟩ := hw
          have hPD := hp_seg (l1 := xW adx kA ((sp_append (xs (i + 1)) g).2) y) (wc := mW adm kA g z) (l2 := []) hP hD hk1 hFc hP1 hD1
          have hP : va_P D vwCl (xW adx kA ((sp_append (xs (i + 1)) g).2) y ++ mW adm kA ((sp_append (xs (i + 1)) g).2) z) H := hPD.1
          have hD : va_D A (xW adx kA ((sp_append (xs (i + 1)) g).2) y ++ mW adm kA ((sp_append (xs (i + 1)) g).2) z) := hPD.2
          refine lv_icmp_eq (tgt := 827) hx hb dL_law_444 (by decide) (fun c_444 => ?_) (fun c_444 => ?_)
          · refine lv_iinc (v := nI (i + 5)) (lv' := [(3, .int (nI (i + 5))), (0, .ref b), (1, .ref (adx 0)), (2, .ref (adm 0))]) hx hb dL_law_827 hl (k := 3) rfl (nI_add i 5) (by decide) rfl (fun ls hl => ?_)
            refine lv_goto (tgt := 18) hx hb dL_law_830 (by decide) ?_
            have hN : Nx g ((sp_append (xs (i + 1)) g).2) := nx_app hI _
            have hN2 := hN.2
            exact ih_18  (i + 5) ((sp_append (xs (i + 1)) g).2) y z (by omega) hN.1 (by omega) (rgx_sv hLX (sv_app g _)) (rgm_sv hLM (sv_app g _)) (by omega) _ _ _ hP hD hS (lv_sub hl [1, 2, 3, 0] rfl)
          · exact absurd rfl c_444
        · rw [h6]
          refine lv_tableIn (tgt := 449) hx hb dL_law_32 (by decide) (by decide) rfl (by decide) ?_
          refine lv_aload_n hx hb dL_law_449 rfl (lv_at hl 1 rfl) ?_
          refine cl_V_i (wc := (xW adx kA g y)) (As := []) (rest := []) (b := (adx 0)) (C := RX5) F hK (sg_P (l1 := []) (l2 := mW adm kA g z) hP) (sg_D (l1 := []) (l2 := mW adm kA g z) hD) hS hA (kX5_clearInput l D kA _ adx g y  ) gw_366 gw_65 gw_363 gw_364 gw_365 (va_recv hK.1 hP (ci := 5) (q0 := 0) rfl rfl) hdX5_clearInput ⟨Nat.le_of_ble_eq_true rfl, Nat.le_of_ble_eq_true rfl⟩ hl.1 rfl (Nat.le_of_ble_eq_true rfl) dL_law_450 ⟨Nat.le_of_ble_eq_true rfl, Nat.le_of_ble_eq_true rfl⟩ (fun r_450 u_450 H locs hw hP1 hD1 hk1 hFc hS => ?_)
          obtain ⟨rfl, rfl⟩ := hw
          have hPD := hp_seg (l1 := []) (wc := xW adx kA g y) (l2 := mW adm kA g z) hP hD hk1 hFc hP1 hD1
          have hP : va_P D vwCl (xW adx kA ((sp_clear  g).2) y ++ mW adm kA g z) H := hPD.1
          have hD : va_D A (xW adx kA ((sp_clear  g).2) y ++ mW adm kA g z) := hPD.2
          refine lv_aload_n hx hb dL_law_453 rfl (lv_at hl 2 rfl) ?_
          refine cl_V_i (wc := (mW adm kA g z)) (As := []) (rest := [.int ((sp_clear  g).1)]) (b := (adm 0)) (C := RX6) F hK (sg_P (l1 := xW adx kA ((sp_clear  g).2) y) (l2 := []) hP) (sg_D (l1 := xW adx kA ((sp_clear  g).2) y) (l2 := []) hD) hS hA (kX6_clearInput l D kA _ adm g z  ) gw_752 gw_71 gw_749 gw_750 gw_751 (va_recv hK.1 (sg_P (l1 := xW adx kA ((sp_clear  g).2) y) (wc := mW adm kA g z) (l2 := []) hP) (ci := 6) (q0 := 0) rfl rfl) hdX6_clearInput ⟨Nat.le_of_ble_eq_true rfl, Nat.le_of_ble_eq_true rfl⟩ hl.1 rfl (Nat.le_of_ble_eq_true rfl) dL_law_454 ⟨Nat.le_of_ble_eq_true rfl, Nat.le_of_ble_eq_true rfl⟩ (fun r_454 u_454 H locs hw hP1 hD1 hk1 hFc hS => ?_)
          obtain ⟨rfl, rfl⟩ := hw
          have hPD := hp_seg (l1 := xW adx kA ((sp_clear  g).2) y) (wc := mW adm kA g z) (l2 := []) hP hD hk1 hFc hP1 hD1
          have hP : va_P D vwCl (xW adx kA ((sp_clear  g).2) y ++ mW adm kA ((sp_clear  g).2) z) H := hPD.1
          have hD : va_D A (xW adx kA ((sp_clear  g).2) y ++ mW adm kA ((sp_clear  g).2) z) := hPD.2
          refine lv_icmp_eq (tgt := 827) hx hb dL_law_457 (by decide) (fun c_457 => ?_) (fun c_457 => ?_)
          · refine lv_iinc (v := nI (i + 5)) (lv' := [(3, .int (nI (i + 5))), (0, .ref b), (1, .ref (adx 0)), (2, .ref (adm 0))]) hx hb dL_law_827 hl (k := 3) rfl (nI_add i 5) (by decide) rfl (fun ls hl => ?_)
            refine lv_goto (tgt := 18) hx hb dL_law_830 (by decide) ?_
            have hN : Nx g ((sp_clear  g).2) := nx_clr hI
            have hN2 := hN.2
            exact ih_18  (i + 5) ((sp_clear  g).2) y z (by omega) hN.1 (by omega) (rgx_sv hLX (sv_clr g)) (rgm_sv hLM (sv_clr g)) (by omega) _ _ _ hP hD hS (lv_sub hl [1, 2, 3, 0] rfl)
          · exact absurd rfl c_457
        · rw [h6]
          refine lv_tableIn (tgt := 462) hx hb dL_law_32 (by decide) (by decide) rfl (by decide) ?_
          refine lv_aload_n hx hb dL_law_462 rfl (lv_at hl 1 rfl) ?_
          refine cl_V_i (wc := (xW adx kA g y)) (As := []) (rest := []) (b := (adx 0)) (C := RX5) F hK (sg_P (l1 := []) (l2 := mW adm kA g z) hP) (sg_D (l1 := []) (l2 := mW adm kA g z) hD) hS hA (kX5_firstError l D kA _ adx g y  hI) gw_370 gw_65 gw_367 gw_368 gw_369 (va_recv hK.1 hP (ci := 5) (q0 := 0) rfl rfl) hdX5_firstError ⟨Nat.le_of_ble_eq_true rfl, Nat.le_of_ble_eq_true rfl⟩ hl.1 rfl (Nat.le_of_ble_eq_true rfl) dL_law_463 ⟨Nat.le_of_ble_eq_true rfl, Nat.le_of_ble_eq_true rfl⟩ (fun r_463 u_463 H locs hw hP1 hD1 hk1 hFc hS => ?_)
          obtain ⟨rfl, rfl⟩ := hw
          have hPD := hp_seg (l1 := []) (wc := xW adx kA g y) (l2 := mW adm kA g z) hP hD hk1 hFc hP1 hD1
          have hP : va_P D vwCl (xW adx kA g y ++ mW adm kA g z) H := hPD.1
          have hD : va_D A (xW adx kA g y ++ mW adm kA g z) := hPD.2
          refine lv_aload_n hx hb dL_law_466 rfl (lv_at hl 2 rfl) ?_
          refine cl_V_i (wc := (mW adm kA g z)) (As := []) (rest := [.int (nI (fe (gR g 7) (gN g 2)))]) (b := (adm 0)) (C := RX6) F hK (sg_P (l1 := xW adx kA g y) (l2 := []) hP) (sg_D (l1 := xW adx kA g y) (l2 := []) hD) hS hA (kX6_firstError l D kA _ adm g z  hI) gw_756 gw_71 gw_753 gw_754 gw_755 (va_recv hK.1 (sg_P (l1 := xW adx kA g y) (wc := mW adm kA g z) (l2 := []) hP) (ci := 6) (q0 := 0) rfl rfl) hdX6_firstError ⟨Nat.le_of_ble_eq_true rfl, Nat.le_of_ble_eq_true rfl⟩ hl.1 rfl (Nat.le_of_ble_eq_true rfl) dL_law_467 ⟨Nat.le_of_ble_eq_true rfl, Nat.le_of_ble_eq_true rfl⟩ (fun r_467 u_467 H locs hw hP1 hD1 hk1 hFc hS => ?_)
          obtain ⟨rfl, rfl⟩ := hw
          have hPD := hp_seg (l1 := xW adx kA g y) (wc := mW adm kA g z) (l2 := []) hP hD hk1 hFc hP1 hD1
          have hP : va_P D vwCl (xW adx kA g y ++ mW adm kA g z) H := hPD.1
          have hD : va_D A (xW adx kA g y ++ mW adm kA g z) := hPD.2
          refine lv_icmp_eq (tgt := 827) hx hb dL_law_470 (by decide) (fun c_470 => ?_) (fun c_470 => ?_)
          · refine lv_iinc (v := nI (i + 5)) (lv' := [(3, .int (nI (i + 5))), (0, .ref b), (1, .ref (adx 0)), (2, .ref (adm 0))]) hx hb dL_law_827 hl (k := 3) rfl (nI_add i 5) (by decide) rfl (fun ls hl => ?_)
            refine lv_goto (tgt := 18) hx hb dL_law_830 (by decide) ?_
            have hN : Nx g g := Nx.rf hI
            have hN2 := hN.2
            exact ih_18  (i + 5) g y z (by omega) hN.1 (by omega) hLX hLM (by omega) _ _ _ hP hD hS (lv_sub hl [1, 2, 3, 0] rfl)
          · exact absurd rfl c_470
        · rw [h6]
          refine lv_tableIn (tgt := 475) hx hb dL_law_32 (by decide) (by decide) rfl (by decide) ?_
          refine lv_aload_n hx hb dL_law_475 rfl (lv_at hl 1 rfl) ?_
          refine cl_V_i (wc := (xW adx kA g y)) (As := []) (rest := []) (b := (adx 0)) (C := RX5) F hK (sg_P (l1 := []) (l2 := mW adm kA g z) hP) (sg_D (l1 := []) (l2 := mW adm kA g z) hD) hS hA (kX5_runInput l D kA _ adx g y  hI hLX (by omega)) gw_386 gw_65 gw_383 gw_384 gw_385 (va_recv hK.1 hP (ci := 5) (q0 := 0) rfl rfl) hdX5_runInput ⟨Nat.le_of_ble_eq_true rfl, Nat.le_of_ble_eq_true rfl⟩ hl.1 rfl (Nat.le_of_ble_eq_true rfl) dL_law_476 ⟨Nat.le_of_ble_eq_true rfl, Nat.le_of_ble_eq_true rfl⟩ (fun r_476 u_476 H locs hw hP1 hD1 hk1 hFc hS => ?_)
          obtain ⟨rfl, L_476, hL_476, rfl⟩ := hw
          have hPD := hp_seg (l1 := []) (wc := xW adx kA g y) (l2 := mW adm kA g z) hP hD hk1 hFc hP1 hD1
          have hP : va_P D vwCl (xW adx kA ((sp_run  g).2) (tYL y L_476) ++ mW adm kA g z) H := hPD.1
          have hD : va_D A (xW adx kA ((sp_run  g).2) (tYL y L_476) ++ mW adm kA g z) := hPD.2
          refine lv_aload_n hx hb dL_law_479 rfl (lv_at hl 2 rfl) ?_
          refine cl_V_i (wc := (mW adm kA g z)) (As := []) (rest := [.int ((sp_run  g).1)]) (b := (adm 0)) (C := RX6) F hK (sg_P (l1 := xW adx kA ((sp_run  g).2) (tYL y L_476)) (l2 := []) hP) (sg_D (l1 := xW adx kA ((sp_run  g).2) (tYL y L_476)) (l2 := []) hD) hS hA (kX6_runInput l D kA _ adm g z  hI hLM) gw_768 gw_71 gw_765 gw_766 gw_767 (va_recv hK.1 (sg_P (l1 := xW adx kA ((sp_run  g).2) (tYL y L_476)) (wc := mW adm kA g z) (l2 := []) hP) (ci := 6) (q0 := 0) rfl rfl) hdX6_runInput ⟨Nat.le_of_ble_eq_true rfl, Nat.le_of_ble_eq_true rfl⟩ hl.1 rfl (Nat.le_of_ble_eq_true rfl) dL_law_480 ⟨Nat.le_of_ble_eq_true rfl, Nat.le_of_ble_eq_true rfl⟩ (fun r_480 u_480 H locs hw hP1 hD1 hk1 hFc hS => ?_)
          obtain ⟨rfl, L_480, hL_480, rfl⟩ := hw
          have hPD := hp_seg (l1 := xW adx kA ((sp_run  g).2) (tYL y L_476)) (wc := mW adm kA g z) (l2 := []) hP hD hk1 hFc hP1 hD1
          have hP : va_P D vwCl (xW adx kA ((sp_run  g).2) (tYL y L_476) ++ mW adm kA ((sp_run  g).2) (tL z L_480)) H := hPD.1
          have hD : va_D A (xW adx kA ((sp_run  g).2) (tYL y L_476) ++ mW adm kA ((sp_run  g).2) (tL z L_480)) := hPD.2
          refine lv_icmp_eq (tgt := 827) hx hb dL_law_483 (by decide) (fun c_483 => ?_) (fun c_483 => ?_)
          · refine lv_iinc (v := nI (i + 5)) (lv' := [(3, .int (nI (i + 5))), (0, .ref b), (1, .ref (adx 0)), (2, .ref (adm 0))]) hx hb dL_law_827 hl (k := 3) rfl (nI_add i 5) (by decide) rfl (fun ls hl => ?_)
            refine lv_goto (tgt := 18) hx hb dL_law_830 (by decide) ?_
            have hN : Nx g ((sp_run  g).2) := nx_run hI (by omega)
            have hN2 := hN.2
            exact ih_18  (i + 5) ((sp_run  g).2) (tYL y L_476) (tL z L_480) (by omega) hN.1 (by omega) hL_476 hL_480 (by omega) _ _ _ hP hD hS (lv_sub hl [1, 2, 3, 0] rfl)
          · exact absurd rfl c_483
        · rw [h6]
          refine lv_tableIn (tgt := 488) hx hb dL_law_32 (by decide) (by decide) rfl (by decide) ?_
          refine lv_aload_n hx hb dL_law_488 rfl (lv_at hl 1 rfl) ?_
          refine lv_aload_n hx hb dL_law_489 rfl (lv_at hl 0 rfl) ?_
          refine lv_iload_n hx hb dL_law_490 rfl (lv_at hl 3 rfl) ?_
          refine lv_iconst (v := 1) hx hb dL_law_491 (by decide) ?_
          refine n_add F (a := i) (b := 1) dL_law_492 ?_
          refine s_ld hx hb hX hbl hbA hS (j := i + 1) (by omega) hL0 dL_law_493 ?_
          refine cl_V_i (wc := (xW adx kA g y)) (As := [.int (xs (i + 1))]) (rest := []) (b := (adx 0)) (C := RX5) F hK (sg_P (l1 := []) (l2 := mW adm kA g z) hP) (sg_D (l1 := []) (l2 := mW adm kA g z) hD) hS hA (kX5_cellOf l D kA _ adx g y (xs (i + 1)) hI) gw_408 gw_65 gw_405 gw_406 gw_407 (va_recv hK.1 hP (ci := 5) (q0 := 0) rfl rfl) hdX5_cellOf ⟨Nat.le_of_ble_eq_true rfl, Nat.le_of_ble_eq_true rfl⟩ hl.1 rfl (Nat.le_of_ble_eq_true rfl) dL_law_494 ⟨Nat.le_of_ble_eq_true rfl, Nat.le_of_ble_eq_true rfl⟩ (fun r_494 u_494 H locs hw hP1 hD1 hk1 hFc hS => ?_)
          obtain ⟨rfl, rfl⟩ := hw
          have hPD := hp_seg (l1 := []) (wc := xW adx kA g y) (l2 := mW adm kA g z) hP hD hk1 hFc hP1 hD1
          have hP : va_P D vwCl (xW adx kA g y ++ mW adm kA g z) H := hPD.1
          have hD : va_D A (xW adx kA g y ++ mW adm kA g z) := hPD.2
          refine lv_aload_n hx hb dL_law_497 rfl (lv_at hl 2 rfl) ?_
          refine lv_aload_n hx hb dL_law_498 rfl (lv_at hl 0 rfl) ?_
          refine lv_iload_n hx hb dL_law_499 rfl (lv_at hl 3 rfl) ?_
          refine lv_iconst (v := 1) hx hb dL_law_500 (by decide) ?_
          refine n_add F (a := i) (b := 1) dL_law_501 ?_
          refine s_ld hx hb hX hbl hbA hS (j := i + 1) (by omega) hL0 dL_law_502 ?_
          refine cl_V_i (wc := (mW adm kA g z)) (As := [.int (xs (i + 1))]) (rest := [.int (sp_cellOf (xs (i + 1)) g)]) (b := (adm 0)) (C := RX6) F hK (sg_P (l1 := xW adx kA g y) (l2 := []) hP) (sg_D (l1 := xW adx kA g y) (l2 := []) hD) hS hA (kX6_cellOf l D kA _ adm g z (xs (i + 1)) hI) gw_772 gw_71 gw_769 gw_770 gw_771 (va_recv hK.1 (sg_P (l1 := xW adx kA g y) (wc := mW adm kA g z) (l2 := []) hP) (ci := 6) (q0 := 0) rfl rfl) hdX6_cellOf ⟨Nat.le_of_ble_eq_true rfl, Nat.le_of_ble_eq_true rfl⟩ hl.1 rfl (Nat.le_of_ble_eq_true rfl) dL_law_503 ⟨Nat.le_of_ble_eq_true rfl, Nat.le_of_ble_eq_true rfl⟩ (fun r_503 u_503 H locs hw hP1 hD1 hk1 hFc hS => ?_)
          obtain ⟨rfl, rfl⟩ := hw
          have hPD := hp_seg (l1 := xW adx kA g y) (wc := mW adm kA g z) (l2 := []) hP hD hk1 hFc hP1 hD1
          have hP : va_P D vwCl (xW adx kA g y ++ mW adm kA g z) H := hPD.1
          have hD : va_D A (xW adx kA g y ++ mW adm kA g z) := hPD.2
          refine lv_icmp_eq (tgt := 827) hx hb dL_law_506 (by decide) (fun c_506 => ?_) (fun c_506 => ?_)
          · refine lv_iinc (v := nI (i + 5)) (lv' := [(3, .int (nI (i + 5))), (0, .ref b), (1, .ref (adx 0)), (2, .ref (adm 0))]) hx hb dL_law_827 hl (k := 3) rfl (nI_add i 5) (by decide) rfl (fun ls hl => ?_)
            refine lv_goto (tgt := 18) hx hb dL_law_830 (by decide) ?_
            have hN : Nx g g := Nx.rf hI
            have hN2 := hN.2
            exact ih_18  (i + 5) g y z (by omega) hN.1 (by omega) hLX hLM (by omega) _ _ _ hP hD hS (lv_sub hl [1, 2, 3, 0] rfl)
          · exact absurd rfl c_506
        · rw [h6]
          refine lv_tableIn (tgt := 511) hx hb dL_law_32 (by decide) (by decide) rfl (by decide) ?_
          refine lv_aload_n hx hb dL_law_511 rfl (lv_at hl 1 rfl) ?_
          refine lv_aload_n hx hb dL_law_512 rfl (lv_at hl 0 rfl) ?_
          refine lv_iload_n hx hb dL_law_513 rfl (lv_at hl 3 rfl) ?_
          refine lv_iconst (v := 1) hx hb dL_law_514 (by decide) ?_
          refine n_add F (a := i) (b := 1) dL_law_515 ?_
          refine s_ld hx hb hX hbl hbA hS (j := i + 1) (by omega) hL0 dL_law_516 ?_
          refine cl_V_i (wc := (xW adx kA g y)) (As := [.int (xs (i + 1))]) (rest := []) (b := (adx 0)) (C := RX5) F hK (sg_P (l1 := []) (l2 := mW adm kA g z) hP) (sg_D (l1 := []) (l2 := mW adm kA g z) hD) hS hA (kX5_score l D kA _ adx g y (xs (i + 1)) hI) gw_412 gw_65 gw_409 gw_410 gw_411 (va_recv hK.1 hP (ci := 5) (q0 := 0) rfl rfl) hdX5_score ⟨Nat.le_of_ble_eq_true rfl, Nat.le_of_ble_eq_true rfl⟩ hl.1 rfl (Nat.le_of_ble_eq_true rfl) dL_law_517 ⟨Nat.le_of_ble_eq_true rfl, Nat.le_of_ble_eq_true rfl⟩ (fun r_517 u_517 H locs hw hP1 hD1 hk1 hFc hS => ?_)
          obtain ⟨rfl, rfl⟩ := hw
          have hPD := hp_seg (l1 := []) (wc := xW adx kA g y) (l2 := mW adm kA g z) hP hD hk1 hFc hP1 hD1
          have hP : va_P D vwCl (xW adx kA g y ++ mW adm kA g z) H := hPD.1
          have hD : va_D A (xW adx kA g y ++ mW adm kA g z) := hPD.2
          refine lv_aload_n hx hb dL_law_520 rfl (lv_at hl 2 rfl) ?_
          refine lv_aload_n hx hb dL_law_521 rfl (lv_at hl 0 rfl) ?_
          refine lv_iload_n hx hb dL_law_522 rfl (lv_at hl 3 rfl) ?_
          refine lv_iconst (v := 1) hx hb dL_law_523 (by decide) ?_
          refine n_add F (a := i) (b := 1) dL_law_524 ?_
          refine s_ld hx hb hX hbl hbA hS (j := i + 1) (by omega) hL0 dL_law_525 ?_
          refine cl_V_i (wc := (mW adm kA g z)) (As := [.int (xs (i + 1))]) (rest := [.int (sp_at 0 (xs (i + 1)) g)]) (b := (adm 0)) (C := RX6) F hK (sg_P (l1 := xW adx kA g y) (l2 := []) hP) (sg_D (l1 := xW adx kA g y) (l2 := []) hD) hS hA (kX6_score l D kA _ adm g z (xs (i + 1)) hI) gw_776 gw_71 gw_773 gw_774 gw_775 (va_recv hK.1 (sg_P (l1 := xW adx kA g y) (wc := mW adm kA g z) (l2 := []) hP) (ci := 6) (q0 := 0) rfl rfl) hdX6_score ⟨Nat.le_of_ble_eq_true rfl, Nat.le_of_ble_eq_true rfl⟩ hl.1 rfl (Nat.le_of_ble_eq_true rfl) dL_law_526 ⟨Nat.le_of_ble_eq_true rfl, Nat.le_of_ble_eq_true rfl⟩ (fun r_526 u_526 H locs hw hP1 hD1 hk1 hFc hS => ?_)
          obtain ⟨rfl, rfl⟩ := hw
          have hPD := hp_seg (l1 := xW adx kA g y) (wc := mW adm kA g z) (l2 := []) hP hD hk1 hFc hP1 hD1
          have hP : va_P D vwCl (xW adx kA g y ++ mW adm kA g z) H := hPD.1
          have hD : va_D A (xW adx kA g y ++ mW adm kA g z) := hPD.2
          refine lv_icmp_eq (tgt := 827) hx hb dL_law_529 (by decide) (fun c_529 => ?_) (fun c_529 => ?_)
          · refine lv_iinc (v := nI (i + 5)) (lv' := [(3, .int (nI (i + 5))), (0, .ref b), (1, .ref (adx 0)), (2, .ref (adm 0))]) hx hb dL_law_827 hl (k := 3) rfl (nI_add i 5) (by decide) rfl (fun ls hl => ?_)
            refine lv_goto (tgt := 18) hx hb dL_law_830 (by decide) ?_
            have hN : Nx g g := Nx.rf hI
            have hN2 := hN.2
            exact ih_18  (i + 5) g y z (by omega) hN.1 (by omega) hLX hLM (by omega) _ _ _ hP hD hS (lv_sub hl [1, 2, 3, 0] rfl)
          · exact absurd rfl c_529
        · rw [h6]
          refine lv_tableIn (tgt := 534) hx hb dL_law_32 (by decide) (by decide) rfl (by decide) ?_
          refine lv_aload_n hx hb dL_law_534 rfl (lv_at hl 1 rfl) ?_
          refine lv_aload_n hx hb dL_law_535 rfl (lv_at hl 0 rfl) ?_
          refine lv_iload_n hx hb dL_law_536 rfl (lv_at hl 3 rfl) ?_
          refine lv_iconst (v := 1) hx hb dL_law_537 (by decide) ?_
          refine n_add F (a := i) (b := 1) dL_law_538 ?_
          refine s_ld hx hb hX hbl hbA hS (j := i + 1) (by omega) hL0 dL_law_539 ?_
          refine cl_V_i (wc := (xW adx kA g y)) (As := [.int (xs (i + 1))]) (rest := []) (b := (adx 0)) (C := RX5) F hK (sg_P (l1 := []) (l2 := mW adm kA g z) hP) (sg_D (l1 := []) (l2 := mW adm kA g z) hD) hS hA (kX5_isBlocked l D kA _ adx g y (xs (i + 1)) hI) gw_416 gw_65 gw_413 gw_414 gw_415 (va_recv hK.1 hP (ci := 5) (q0 := 0) rfl rfl) hdX5_isBlocked ⟨Nat.le_of_ble_eq_true rfl, Nat.le_of_ble_eq_true rfl⟩ hl.1 rfl (Nat.le_of_ble_eq_true rfl) dL_law_540 ⟨Nat.le_of_ble_eq_true rfl, Nat.le_of_ble_eq_true rfl⟩ (fun r_540 u_540 H locs hw hP1 hD1 hk1 hFc hS => ?_)
          obtain ⟨rfl, rfl⟩ := hw
          have hPD := hp_seg (l1 := []) (wc := xW adx kA g y) (l2 := mW adm kA g z) hP hD hk1 hFc hP1 hD1
          have hP : va_P D vwCl (xW adx kA g y ++ mW adm kA g z) H := hPD.1
          have hD : va_D A (xW adx kA g y ++ mW adm kA g z) := hPD.2
          refine lv_aload_n hx hb dL_law_543 rfl (lv_at hl 2 rfl) ?_
          refine lv_aload_n hx hb dL_law_544 rfl (lv_at hl 0 rfl) ?_
          refine lv_iload_n hx hb dL_law_545 rfl (lv_at hl 3 rfl) ?_
          refine lv_iconst (v := 1) hx hb dL_law_546 (by decide) ?_
          refine n_add F (a := i) (b := 1) dL_law_547 ?_
          refine s_ld hx hb hX hbl hbA hS (j := i + 1) (by omega) hL0 dL_law_548 ?_
          refine cl_V_i (wc := (mW adm kA g z)) (As := [.int (xs (i + 1))]) (rest := [.int (sp_isB (xs (i + 1)) g)]) (b := (adm 0)) (C := RX6) F hK (sg_P (l1 := xW adx kA g y) (l2 := []) hP) (sg_D (l1 := xW adx kA g y) (l2 := []) hD) hS hA (kX6_isBlocked l D kA _ adm g z (xs (i + 1)) hI) gw_780 gw_71 gw_777 gw_778 gw_779 (va_recv hK.1 (sg_P (l1 := xW adx kA g y) (wc := mW adm kA g z) (l2 := []) hP) (ci := 6) (q0 := 0) rfl rfl) hdX6_isBlocked ⟨Nat.le_of_ble_eq_true rfl, Nat.le_of_ble_eq_true rfl⟩ hl.1 rfl (Nat.le_of_ble_eq_true rfl) dL_law_549 ⟨Nat.le_of_ble_eq_true rfl, Nat.le_of_ble_eq_true rfl⟩ (fun r_549 u_549 H locs hw hP1 hD1 hk1 hFc hS => ?_)
          obtain ⟨rfl, rfl⟩ := hw
          have hPD := hp_seg (l1 := xW adx kA g y) (wc := mW adm kA g z) (l2 := []) hP hD hk1 hFc hP1 hD1
          have hP : va_P D vwCl (xW adx kA g y ++ mW adm kA g z) H := hPD.1
          have hD : va_D A (xW adx kA g y ++ mW adm kA g z) := hPD.2
          refine lv_icmp_eq (tgt := 827) hx hb dL_law_552 (by decide) (fun c_552 => ?_) (fun c_552 => ?_)
          · refine lv_iinc (v := nI (i + 5)) (lv' := [(3, .int (nI (i + 5))), (0, .ref b), (1, .ref (adx 0)), (2, .ref (adm 0))]) hx hb dL_law_827 hl (k := 3) rfl (nI_add i 5) (by decide) rfl (fun ls hl => ?_)
            refine lv_goto (tgt := 18) hx hb dL_law_830 (by decide) ?_
            have hN : Nx g g := Nx.rf hI
            have hN2 := hN.2
            exact ih_18  (i + 5) g y z (by omega) hN.1 (by omega) hLX hLM (by omega) _ _ _ hP hD hS (lv_sub hl [1, 2, 3, 0] rfl)
          · exact absurd rfl c_552
        · rw [h6]
          refine lv_tableIn (tgt := 557) hx hb dL_law_32 (by decide) (by decide) rfl (by decide) ?_
          refine lv_aload_n hx hb dL_law_557 rfl (lv_at hl 1 rfl) ?_
          refine lv_aload_n hx hb dL_law_558 rfl (lv_at hl 0 rfl) ?_
          refine lv_iload_n hx hb dL_law_559 rfl (lv_at hl 3 rfl) ?_
          refine lv_iconst (v := 1) hx hb dL_law_560 (by decide) ?_
          refine n_add F (a := i) (b := 1) dL_law_561 ?_
          refine s_ld hx hb hX hbl hbA hS (j := i + 1) (by omega) hL0 dL_law_562 ?_
          refine cl_V_l (wc := (xW adx kA g y)) (As := [.int (xs (i + 1))]) (rest := []) (b := (adx 0)) (C := RX5) F hK (sg_P (l1 := []) (l2 := mW adm kA g z) hP) (sg_D (l1 := []) (l2 := mW adm kA g z) hD) hS hA (kX5_seenDestinations l D kA _ adx g y (xs (i + 1)) hI) gw_420 gw_65 gw_417 gw_418 gw_419 (va_recv hK.1 hP (ci := 5) (q0 := 0) rfl rfl) hdX5_seenDestinations ⟨Nat.le_of_ble_eq_true rfl, Nat.le_of_ble_eq_true rfl⟩ hl.1 rfl (Nat.le_of_ble_eq_true rfl) dL_law_563 ⟨Nat.le_of_ble_eq_true rfl, Nat.le_of_ble_eq_true rfl⟩ (fun r_563 u_563 H locs hw hP1 hD1 hk1 hFc hS => ?_)
          obtain ⟨rfl, rfl⟩ := hw
          have hPD := hp_seg (l1 := []) (wc := xW adx kA g y) (l2 := mW adm kA g z) hP hD hk1 hFc hP1 hD1
          have hP : va_P D vwCl (xW adx kA g y ++ mW adm kA g z) H := hPD.1
          have hD : va_D A (xW adx kA g y ++ mW adm kA g z) := hPD.2
          refine lv_aload_n hx hb dL_law_566 rfl (lv_at hl 2 rfl) ?_
          refine lv_aload_n hx hb dL_law_567 rfl (lv_at hl 0 rfl) ?_
          refine lv_iload_n hx hb dL_law_568 rfl (lv_at hl 3 rfl) ?_
          refine lv_iconst (v := 1) hx hb dL_law_569 (by decide) ?_
          refine n_add F (a := i) (b := 1) dL_law_570 ?_
          refine s_ld hx hb hX hbl hbA hS (j := i + 1) (by omega) hL0 dL_law_571 ?_
          refine cl_V_l (wc := (mW adm kA g z)) (As := [.int (xs (i + 1))]) (rest := [.long (sp_seen (xs (i + 1)) g)]) (b := (adm 0)) (C := RX6) F hK (sg_P (l1 := xW adx kA g y) (l2 := []) hP) (sg_D (l1 := xW adx kA g y) (l2 := []) hD) hS hA (kX6_seenDestinations l D kA _ adm g z (xs (i + 1)) hI) gw_784 gw_71 gw_781 gw_782 gw_783 (va_recv hK.1 (sg_P (l1 := xW adx kA g y) (wc := mW adm kA g z) (l2 := []) hP) (ci := 6) (q0 := 0) rfl rfl) hdX6_seenDestinations ⟨Nat.le_of_ble_eq_true rfl, Nat.le_of_ble_eq_true rfl⟩ hl.1 rfl (Nat.le_of_ble_eq_true rfl) dL_law_572 ⟨Nat.le_of_ble_eq_true rfl, Nat.le_of_ble_eq_true rfl⟩ (fun r_572 u_572 H locs hw hP1 hD1 hk1 hFc hS => ?_)
          obtain ⟨rfl, rfl⟩ := hw
          have hPD := hp_seg (l1 := xW adx kA g y) (wc := mW adm kA g z) (l2 := []) hP hD hk1 hFc hP1 hD1
          have hP : va_P D vwCl (xW adx kA g y ++ mW adm kA g z) H := hPD.1
          have hD : va_D A (xW adx kA g y ++ mW adm kA g z) := hPD.2
          refine W.lcmp hx hb dL_law_575 ?_
          refine b_lceq F (tgt := 827) dL_law_576 (by decide) (fun c_576 => ?_) (fun c_576 => ?_)
          · refine lv_iinc (v := nI (i + 5)) (lv' := [(3, .int (nI (i + 5))), (0, .ref b), (1, .ref (adx 0)), (2, .ref (adm 0))]) hx hb dL_law_827 hl (k := 3) rfl (nI_add i 5) (by decide) rfl (fun ls hl => ?_)
            refine lv_goto (tgt := 18) hx hb dL_law_830 (by decide) ?_
            have hN : Nx g g := Nx.rf hI
            have hN2 := hN.2
            exact ih_18  (i + 5) g y z (by omega) hN.1 (by omega) hLX hLM (by omega) _ _ _ hP hD hS (lv_sub hl [1, 2, 3, 0] rfl)
          · exact absurd rfl c_576
        · rw [h6]
          refine lv_tableIn (tgt := 581) hx hb dL_law_32 (by decide) (by decide) rfl (by decide) ?_
          refine lv_aload_n hx hb dL_law_581 rfl (lv_at hl 1 rfl) ?_
          refine lv_aload_n hx hb dL_law_582 rfl (lv_at hl 0 rfl) ?_
          refine lv_iload_n hx hb dL_law_583 rfl (lv_at hl 3 rfl) ?_
          refine lv_iconst (v := 1) hx hb dL_law_584 (by decide) ?_
          refine n_add F (a := i) (b := 1) dL_law_585 ?_
          refine s_ld hx hb hX hbl hbA hS (j := i + 1) (by omega) hL0 dL_law_586 ?_
          refine cl_V_i (wc := (xW adx kA g y)) (As := [.int (xs (i + 1))]) (rest := []) (b := (adx 0)) (C := RX5) F hK (sg_P (l1 := []) (l2 := mW adm kA g z) hP) (sg_D (l1 := []) (l2 := mW adm kA g z) hD) hS hA (kX5_blockedContacts l D kA _ adx g y (xs (i + 1)) hI) gw_425 gw_65 gw_422 gw_423 gw_424 (va_recv hK.1 hP (ci := 5) (q0 := 0) rfl rfl) hdX5_blockedContacts ⟨Nat.le_of_ble_eq_true rfl, Nat.le_of_ble_eq_true rfl⟩ hl.1 rfl (Nat.le_of_ble_eq_true rfl) dL_law_587 ⟨Nat.le_of_ble_eq_true rfl, Nat.le_of_ble_eq_true rfl⟩ (fun r_587 u_587 H locs hw hP1 hD1 hk1 hFc hS => ?_)
          obtain ⟨rfl, rfl⟩ := hw
          have hPD := hp_seg (l1 := []) (wc := xW adx kA g y) (l2 := mW adm kA g z) hP hD hk1 hFc hP1 hD1
          have hP : va_P D vwCl (xW adx kA g y ++ mW adm kA g z) H := hPD.1
          have hD : va_D A (xW adx kA g y ++ mW adm kA g z) := hPD.2
          refine lv_aload_n hx hb dL_law_590 rfl (lv_at hl 2 rfl) ?_
          refine lv_aload_n hx hb dL_law_591 rfl (lv_at hl 0 rfl) ?_
          refine lv_iload_n hx hb dL_law_592 rfl (lv_at hl 3 rfl) ?_
          refine lv_iconst (v := 1) hx hb dL_law_593 (by decide) ?_
          refine n_add F (a := i) (b := 1) dL_law_594 ?_
          refine s_ld hx hb hX hbl hbA hS (j := i + 1) (by omega) hL0 dL_law_595 ?_
          refine cl_V_i (wc := (mW adm kA g z)) (As := [.int (xs (i + 1))]) (rest := [.int (sp_at 2 (xs (i + 1)) g)]) (b := (adm 0)) (C := RX6) F hK (sg_P (l1 := xW adx kA g y) (l2 := []) hP) (sg_D (l1 := xW adx kA g y) (l2 := []) hD) hS hA (kX6_blockedContacts l D kA _ adm g z (xs (i + 1)) hI) gw_789 gw_71 gw_786 gw_787 gw_788 (va_recv hK.1 (sg_P (l1 := xW adx kA g y) (wc := mW adm kA g z) (l2 := []) hP) (ci := 6) (q0 := 0) rfl rfl) hdX6_blockedContacts ⟨Nat.le_of_ble_eq_true rfl, Nat.le_of_ble_eq_true rfl⟩ hl.1 rfl (Nat.le_of_ble_eq_true rfl) dL_law_596 ⟨Nat.le_of_ble_eq_true rfl, Nat.le_of_ble_eq_true rfl⟩ (fun r_596 u_596 H locs hw hP1 hD1 hk1 hFc hS => ?_)
          obtain ⟨rfl, rfl⟩ := hw
          have hPD := hp_seg (l1 := xW adx kA g y) (wc := mW adm kA g z) (l2 := []) hP hD hk1 hFc hP1 hD1
          have hP : va_P D vwCl (xW adx kA g y ++ mW adm kA g z) H := hPD.1
          have hD : va_D A (xW adx kA g y ++ mW adm kA g z) := hPD.2
          refine lv_icmp_eq (tgt := 827) hx hb dL_law_599 (by decide) (fun c_599 => ?_) (fun c_599 => ?_)
          · refine lv_iinc (v := nI (i + 5)) (lv' := [(3, .int (nI (i + 5))), (0, .ref b), (1, .ref (adx 0)), (2, .ref (adm 0))]) hx hb dL_law_827 hl (k := 3) rfl (nI_add i 5) (by decide) rfl (fun ls hl => ?_)
            refine lv_goto (tgt := 18) hx hb dL_law_830 (by decide) ?_
            have hN : Nx g g := Nx.rf hI
            have hN2 := hN.2
            exact ih_18  (i + 5) g y z (by omega) hN.1 (by omega) hLX hLM (by omega) _ _ _ hP hD hS (lv_sub hl [1, 2, 3, 0] rfl)
          · exact absurd rfl c_599
        · rw [h6]
          refine lv_tableIn (tgt := 604) hx hb dL_law_32 (by decide) (by decide) rfl (by decide) ?_
          refine lv_aload_n hx hb dL_law_604 rfl (lv_at hl 1 rfl) ?_
          refine lv_aload_n hx hb dL_law_605 rfl (lv_at hl 0 rfl) ?_
          refine lv_iload_n hx hb dL_law_606 rfl (lv_at hl 3 rfl) ?_
          refine lv_iconst (v := 1) hx hb dL_law_607 (by decide) ?_
          refine n_add F (a := i) (b := 1) dL_law_608 ?_
          refine s_ld hx hb hX hbl hbA hS (j := i + 1) (by omega) hL0 dL_law_609 ?_
          refine cl_V_i (wc := (xW adx kA g y)) (As := [.int (xs (i + 1))]) (rest := []) (b := (adx 0)) (C := RX5) F hK (sg_P (l1 := []) (l2 := mW adm kA g z) hP) (sg_D (l1 := []) (l2 := mW adm kA g z) hD) hS hA (kX5_wronglyBlocked l D kA _ adx g y (xs (i + 1)) hI) gw_429 gw_65 gw_426 gw_427 gw_428 (va_recv hK.1 hP (ci := 5) (q0 := 0) rfl rfl) hdX5_wronglyBlocked ⟨Nat.le_of_ble_eq_true rfl, Nat.le_of_ble_eq_true rfl⟩ hl.1 rfl (Nat.le_of_ble_eq_true rfl) dL_law_610 ⟨Nat.le_of_ble_eq_true rfl, Nat.le_of_ble_eq_true rfl⟩ (fun r_610 u_610 H locs hw hP1 hD1 hk1 hFc hS => ?_)
          obtain ⟨rfl, rfl⟩ := hw
          have hPD := hp_seg (l1 := []) (wc := xW adx kA g y) (l2 := mW adm kA g z) hP hD hk1 hFc hP1 hD1
          have hP : va_P D vwCl (xW adx kA g y ++ mW adm kA g z) H := hPD.1
          have hD : va_D A (xW adx kA g y ++ mW adm kA g z) := hPD.2
          refine lv_aload_n hx hb dL_law_613 rfl (lv_at hl 2 rfl) ?_
          refine lv_aload_n hx hb dL_law_614 rfl (lv_at hl 0 rfl) ?_
          refine lv_iload_n hx hb dL_law_615 rfl (lv_at hl 3 rfl) ?_
          refine lv_iconst (v := 1) hx hb dL_law_616 (by decide) ?_
          refine n_add F (a := i) (b := 1) dL_law_617 ?_
          refine s_ld hx hb hX hbl hbA hS (j := i + 1) (by omega) hL0 dL_law_618 ?_
          refine cl_V_i (wc := (mW adm kA g z)) (As := [.int (xs (i + 1))]) (rest := [.int (sp_at 3 (xs (i + 1)) g)]) (b := (adm 0)) (C := RX6) F hK (sg_P (l1 := xW adx kA g y) (l2 := []) hP) (sg_D (l1 := xW adx kA g y) (l2 := []) hD) hS hA (kX6_wronglyBlocked l D kA _ adm g z (xs (i + 1)) hI) gw_793 gw_71 gw_790 gw_791 gw_792 (va_recv hK.1 (sg_P (l1 := xW adx kA g y) (wc := mW adm kA g z) (l2 := []) hP) (ci := 6) (q0 := 0) rfl rfl) hdX6_wronglyBlocked ⟨Nat.le_of_ble_eq_true rfl, Nat.le_of_ble_eq_true rfl⟩ hl.1 rfl (Nat.le_of_ble_eq_true rfl) dL_law_619 ⟨Nat.le_of_ble_eq_true rfl, Nat.le_of_ble_eq_true rfl⟩ (fun r_619 u_619 H locs hw hP1 hD1 hk1 hFc hS => ?_)
          obtain ⟨rfl, rfl⟩ := hw
          have hPD := hp_seg (l1 := xW adx kA g y) (wc := mW adm kA g z) (l2 := []) hP hD hk1 hFc hP1 hD1
          have hP : va_P D vwCl (xW adx kA g y ++ mW adm kA g z) H := hPD.1
          have hD : va_D A (xW adx kA g y ++ mW adm kA g z) := hPD.2
          refine lv_icmp_eq (tgt := 827) hx hb dL_law_622 (by decide) (fun c_622 => ?_) (fun c_622 => ?_)
          · refine lv_iinc (v := nI (i + 5)) (lv' := [(3, .int (nI (i + 5))), (0, .ref b), (1, .ref (adx 0)), (2, .ref (adm 0))]) hx hb dL_law_827 hl (k := 3) rfl (nI_add i 5) (by decide) rfl (fun ls hl => ?_)
            refine lv_goto (tgt := 18) hx hb dL_law_830 (by decide) ?_
            have hN : Nx g g := Nx.rf hI
            have hN2 := hN.2
            exact ih_18  (i + 5) g y z (by omega) hN.1 (by omega) hLX hLM (by omega) _ _ _ hP hD hS (lv_sub hl [1, 2, 3, 0] rfl)
          · exact absurd rfl c_622
        · rw [h6]
          refine lv_tableIn (tgt := 627) hx hb dL_law_32 (by decide) (by decide) rfl (by decide) ?_
          refine lv_aload_n hx hb dL_law_627 rfl (lv_at hl 1 rfl) ?_
          refine cl_V_i (wc := (xW adx kA g y)) (As := []) (rest := []) (b := (adx 0)) (C := RX5) F hK (sg_P (l1 := []) (l2 := mW adm kA g z) hP) (sg_D (l1 := []) (l2 := mW adm kA g z) hD) hS hA (kX5_attemptCount l D kA _ adx g y  ) gw_433 gw_65 gw_430 gw_431 gw_432 (va_recv hK.1 hP (ci := 5) (q0 := 0) rfl rfl) hdX5_attemptCount ⟨Nat.le_of_ble_eq_true rfl, Nat.le_of_ble_eq_true rfl⟩ hl.1 rfl (Nat.le_of_ble_eq_true rfl) dL_law_628 ⟨Nat.le_of_ble_eq_true rfl, Nat.le_of_ble_eq_true rfl⟩ (fun r_628 u_628 H locs hw hP1 hD1 hk1 hFc hS => ?_)
          obtain ⟨rfl, rfl⟩ := hw
          have hPD := hp_seg (l1 := []) (wc := xW adx kA g y) (l2 := mW adm kA g z) hP hD hk1 hFc hP1 hD1
          have hP : va_P D vwCl (xW adx kA g y ++ mW adm kA g z) H := hPD.1
          have hD : va_D A (xW adx kA g y ++ mW adm kA g z) := hPD.2
          refine lv_aload_n hx hb dL_law_631 rfl (lv_at hl 2 rfl) ?_
          refine cl_V_i (wc := (mW adm kA g z)) (As := []) (rest := [.int (nI (gN g 1))]) (b := (adm 0)) (C := RX6) F hK (sg_P (l1 := xW adx kA g y) (l2 := []) hP) (sg_D (l1 := xW adx kA g y) (l2 := []) hD) hS hA (kX6_attemptCount l D kA _ adm g z  ) gw_797 gw_71 gw_794 gw_795 gw_796 (va_recv hK.1 (sg_P (l1 := xW adx kA g y) (wc := mW adm kA g z) (l2 := []) hP) (ci := 6) (q0 := 0) rfl rfl) hdX6_attemptCount ⟨Nat.le_of_ble_eq_true rfl, Nat.le_of_ble_eq_true rfl⟩ hl.1 rfl (Nat.le_of_ble_eq_true rfl) dL_law_632 ⟨Nat.le_of_ble_eq_true rfl, Nat.le_of_ble_eq_true rfl⟩ (fun r_632 u_632 H locs hw hP1 hD1 hk1 hFc hS => ?_)
          obtain ⟨rfl, rfl⟩ := hw
          have hPD := hp_seg (l1 := xW adx kA g y) (wc := mW adm kA g z) (l2 := []) hP hD hk1 hFc hP1 hD1
          have hP : va_P D vwCl (xW adx kA g y ++ mW adm kA g z) H := hPD.1
          have hD : va_D A (xW adx kA g y ++ mW adm kA g z) := hPD.2
          refine lv_icmp_eq (tgt := 827) hx hb dL_law_635 (by decide) (fun c_635 => ?_) (fun c_635 => ?_)
          · refine lv_iinc (v := nI (i + 5)) (lv' := [(3, .int (nI (i + 5))), (0, .ref b), (1, .ref (adx 0)), (2, .ref (adm 0))]) hx hb dL_law_827 hl (k := 3) rfl (nI_add i 5) (by decide) rfl (fun ls hl => ?_)
            refine lv_goto (tgt := 18) hx hb dL_law_830 (by decide) ?_
            have hN : Nx g g := Nx.rf hI
            have hN2 := hN.2
            exact ih_18  (i + 5) g y z (by omega) hN.1 (by omega) hLX hLM (by omega) _ _ _ hP hD hS (lv_sub hl [1, 2, 3, 0] rfl)
          · exact absurd rfl c_635
        · rw [h6]
          refine lv_tableIn (tgt := 640) hx hb dL_law_32 (by decide) (by decide) rfl (by decide) ?_
          refine lv_aload_n hx hb dL_law_640 rfl (lv_at hl 1 rfl) ?_
          refine lv_aload_n hx hb dL_law_641 rfl (lv_at hl 0 rfl) ?_
          refine lv_iload_n hx hb dL_law_642 rfl (lv_at hl 3 rfl) ?_
          refine lv_iconst (v := 1) hx hb dL_law_643 (by decide) ?_
          refine n_add F (a := i) (b := 1) dL_law_644 ?_
          refine s_ld hx hb hX hbl hbA hS (j := i + 1) (by omega) hL0 dL_law_645 ?_
          refine cl_V_i (wc := (xW adx kA g y)) (As := [.int (xs (i + 1))]) (rest := []) (b := (adx 0)) (C := RX5) F hK (sg_P (l1 := []) (l2 := mW adm kA g z) hP) (sg_D (l1 := []) (l2 := mW adm kA g z) hD) hS hA (kX5_describeAttempt l D kA _ adx g y (xs (i + 1)) hI) gw_437 gw_65 gw_434 gw_435 gw_436 (va_recv hK.1 hP (ci := 5) (q0 := 0) rfl rfl) hdX5_describeAttempt ⟨Nat.le_of_ble_eq_true rfl, Nat.le_of_ble_eq_true rfl⟩ hl.1 rfl (Nat.le_of_ble_eq_true rfl) dL_law_646 ⟨Nat.le_of_ble_eq_true rfl, Nat.le_of_ble_eq_true rfl⟩ (fun r_646 u_646 H locs hw hP1 hD1 hk1 hFc hS => ?_)
          obtain ⟨rfl, rfl⟩ := hw
          have hPD := hp_seg (l1 := []) (wc := xW adx kA g y) (l2 := mW adm kA g z) hP hD hk1 hFc hP1 hD1
          have hP : va_P D vwCl (xW adx kA g y ++ mW adm kA g z) H := hPD.1
          have hD : va_D A (xW adx kA g y ++ mW adm kA g z) := hPD.2
          refine lv_aload_n hx hb dL_law_649 rfl (lv_at hl 2 rfl) ?_
          refine lv_aload_n hx hb dL_law_650 rfl (lv_at hl 0 rfl) ?_
          refine lv_iload_n hx hb dL_law_651 rfl (lv_at hl 3 rfl) ?_
          refine lv_iconst (v := 1) hx hb dL_law_652 (by decide) ?_
          refine n_add F (a := i) (b := 1) dL_law_653 ?_
          refine s_ld hx hb hX hbl hbA hS (j := i + 1) (by omega) hL0 dL_law_654 ?_
          refine cl_V_i (wc := (mW adm kA g z)) (As := [.int (xs (i + 1))]) (rest := [.int (sp_desA (xs (i + 1)) g)]) (b := (adm 0)) (C := RX6) F hK (sg_P (l1 := xW adx kA g y) (l2 := []) hP) (sg_D (l1 := xW adx kA g y) (l2 := []) hD) hS hA (kX6_describeAttempt l D kA _ adm g z (xs (i + 1)) hI) gw_801 gw_71 gw_798 gw_799 gw_800 (va_recv hK.1 (sg_P (l1 := xW adx kA g y) (wc := mW adm kA g z) (l2 := []) hP) (ci := 6) (q0 := 0) rfl rfl) hdX6_describeAttempt ⟨Nat.le_of_ble_eq_true rfl, Nat.le_of_ble_eq_true rfl⟩ hl.1 rfl (Nat.le_of_ble_eq_true rfl) dL_law_655 ⟨Nat.le_of_ble_eq_true rfl, Nat.le_of_ble_eq_true rfl⟩ (fun r_655 u_655 H locs hw hP1 hD1 hk1 hFc hS => ?_)
          obtain ⟨rfl, rfl⟩ := hw
          have hPD := hp_seg (l1 := xW adx kA g y) (wc := mW adm kA g z) (l2 := []) hP hD hk1 hFc hP1 hD1
          have hP : va_P D vwCl (xW adx kA g y ++ mW adm kA g z) H := hPD.1
          have hD : va_D A (xW adx kA g y ++ mW adm kA g z) := hPD.2
          refine lv_icmp_eq (tgt := 827) hx hb dL_law_658 (by decide) (fun c_658 => ?_) (fun c_658 => ?_)
          · refine lv_iinc (v := nI (i + 5)) (lv' := [(3, .int (nI (i + 5))), (0, .ref b), (1, .ref (adx 0)), (2, .ref (adm 0))]) hx hb dL_law_827 hl (k := 3) rfl (nI_add i 5) (by decide) rfl (fun ls hl => ?_)
            refine lv_goto (tgt := 18) hx hb dL_law_830 (by decide) ?_
            have hN : Nx g g := Nx.rf hI
            have hN2 := hN.2
            exact ih_18  (i + 5) g y z (by omega) hN.1 (by omega) hLX hLM (by omega) _ _ _ hP hD hS (lv_sub hl [1, 2, 3, 0] rfl)
          · exact absurd rfl c_658
        · rw [h6]
          refine lv_tableIn (tgt := 663) hx hb dL_law_32 (by decide) (by decide) rfl (by decide) ?_
          refine lv_aload_n hx hb dL_law_663 rfl (lv_at hl 1 rfl) ?_
          refine cl_V_i (wc := (xW adx kA g y)) (As := []) (rest := []) (b := (adx 0)) (C := RX5) F hK (sg_P (l1 := []) (l2 := mW adm kA g z) hP) (sg_D (l1 := []) (l2 := mW adm kA g z) hD) hS hA (kX5_clock l D kA _ adx g y  ) gw_441 gw_65 gw_438 gw_439 gw_440 (va_recv hK.1 hP (ci := 5) (q0 := 0) rfl rfl) hdX5_clock ⟨Nat.le_of_ble_eq_true rfl, Nat.le_of_ble_eq_true rfl⟩ hl.1 rfl (Nat.le_of_ble_eq_true rfl) dL_law_664 ⟨Nat.le_of_ble_eq_true rfl, Nat.le_of_ble_eq_true rfl⟩ (fun r_664 u_664 H locs hw hP1 hD1 hk1 hFc hS => ?_)
          obtain ⟨rfl, rfl⟩ := hw
          have hPD := hp_seg (l1 := []) (wc := xW adx kA g y) (l2 := mW adm kA g z) hP hD hk1 hFc hP1 hD1
          have hP : va_P D vwCl (xW adx kA g y ++ mW adm kA g z) H := hPD.1
          have hD : va_D A (xW adx kA g y ++ mW adm kA g z) := hPD.2
          refine lv_aload_n hx hb dL_law_667 rfl (lv_at hl 2 rfl) ?_
          refine cl_V_i (wc := (mW adm kA g z)) (As := []) (rest := [.int (gI g 5)]) (b := (adm 0)) (C := RX6) F hK (sg_P (l1 := xW adx kA g y) (l2 := []) hP) (sg_D (l1 := xW adx kA g y) (l2 := []) hD) hS hA (kX6_clock l D kA _ adm g z  ) gw_809 gw_71 gw_806 gw_807 gw_808 (va_recv hK.1 (sg_P (l1 := xW adx kA g y) (wc := mW adm kA g z) (l2 := []) hP) (ci := 6) (q0 := 0) rfl rfl) hdX6_clock ⟨Nat.le_of_ble_eq_true rfl, Nat.le_of_ble_eq_true rfl⟩ hl.1 rfl (Nat.le_of_ble_eq_true rfl) dL_law_668 ⟨Nat.le_of_ble_eq_true rfl, Nat.le_of_ble_eq_true rfl⟩ (fun r_668 u_668 H locs hw hP1 hD1 hk1 hFc hS => ?_)
          obtain ⟨rfl, rfl⟩ := hw
          have hPD := hp_seg (l1 := xW adx kA g y) (wc := mW adm kA g z) (l2 := []) hP hD hk1 hFc hP1 hD1
          have hP : va_P D vwCl (xW adx kA g y ++ mW adm kA g z) H := hPD.1
          have hD : va_D A (xW adx kA g y ++ mW adm kA g z) := hPD.2
          refine lv_icmp_eq (tgt := 827) hx hb dL_law_671 (by decide) (fun c_671 => ?_) (fun c_671 => ?_)
          · refine lv_iinc (v := nI (i + 5)) (lv' := [(3, .int (nI (i + 5))), (0, .ref b), (1, .ref (adx 0)), (2, .ref (adm 0))]) hx hb dL_law_827 hl (k := 3) rfl (nI_add i 5) (by decide) rfl (fun ls hl => ?_)
            refine lv_goto (tgt := 18) hx hb dL_law_830 (by decide) ?_
            have hN : Nx g g := Nx.rf hI
            have hN2 := hN.2
            exact ih_18  (i + 5) g y z (by omega) hN.1 (by omega) hLX hLM (by omega) _ _ _ hP hD hS (lv_sub hl [1, 2, 3, 0] rfl)
          · exact absurd rfl c_671
        · rw [h6]
          refine lv_tableIn (tgt := 676) hx hb dL_law_32 (by decide) (by decide) rfl (by decide) ?_
          refine lv_aload_n hx hb dL_law_676 rfl (lv_at hl 1 rfl) ?_
          refine cl_V_i (wc := (xW adx kA g y)) (As := []) (rest := []) (b := (adx 0)) (C := RX5) F hK (sg_P (l1 := []) (l2 := mW adm kA g z) hP) (sg_D (l1 := []) (l2 := mW adm kA g z) hD) hS hA (kX5_verdictCount l D kA _ adx g y  ) gw_445 gw_65 gw_442 gw_443 gw_444 (va_recv hK.1 hP (ci := 5) (q0 := 0) rfl rfl) hdX5_verdictCount ⟨Nat.le_of_ble_eq_true rfl, Nat.le_of_ble_eq_true rfl⟩ hl.1 rfl (Nat.le_of_ble_eq_true rfl) dL_law_677 ⟨Nat.le_of_ble_eq_true rfl, Nat.le_of_ble_eq_true rfl⟩ (fun r_677 u_677 H locs hw hP1 hD1 hk1 hFc hS => ?_)
          obtain ⟨rfl, rfl⟩ := hw
          have hPD := hp_seg (l1 := []) (wc := xW adx kA g y) (l2 := mW adm kA g z) hP hD hk1 hFc hP1 hD1
          have hP : va_P D vwCl (xW adx kA g y ++ mW adm kA g z) H := hPD.1
          have hD : va_D A (xW adx kA g y ++ mW adm kA g z) := hPD.2
          refine lv_aload_n hx hb dL_law_680 rfl (lv_at hl 2 rfl) ?_
          refine cl_V_i (wc := (mW adm kA g z)) (As := []) (rest := [.int (nI (gV g).length)]) (b := (adm 0)) (C := RX6) F hK (sg_P (l1 := xW adx kA g y) (l2 := []) hP) (sg_D (l1 := xW adx kA g y) (l2 := []) hD) hS hA (kX6_verdictCount l D kA _ adm g z  ) gw_813 gw_71 gw_810 gw_811 gw_812 (va_recv hK.1 (sg_P (l1 := xW adx kA g y) (wc := mW adm kA g z) (l2 := []) hP) (ci := 6) (q0 := 0) rfl rfl) hdX6_verdictCount ⟨Nat.le_of_ble_eq_true rfl, Nat.le_of_ble_eq_true rfl⟩ hl.1 rfl (Nat.le_of_ble_eq_true rfl) dL_law_681 ⟨Nat.le_of_ble_eq_true rfl, Nat.le_of_ble_eq_true rfl⟩ (fun r_681 u_681 H locs hw hP1 hD1 hk1 hFc hS => ?_)
          obtain ⟨rfl, rfl⟩ := hw
          have hPD := hp_seg (l1 := xW adx kA g y) (wc := mW adm kA g z) (l2 := []) hP hD hk1 hFc hP1 hD1
          have hP : va_P D vwCl (xW adx kA g y ++ mW adm kA g z) H := hPD.1
          have hD : va_D A (xW adx kA g y ++ mW adm kA g z) := hPD.2
          refine lv_icmp_eq (tgt := 827) hx hb dL_law_684 (by decide) (fun c_684 => ?_) (fun c_684 => ?_)
          · refine lv_iinc (v := nI (i + 5)) (lv' := [(3, .int (nI (i + 5))), (0, .ref b), (1, .ref (adx 0)), (2, .ref (adm 0))]) hx hb dL_law_827 hl (k := 3) rfl (nI_add i 5) (by decide) rfl (fun ls hl => ?_)
            refine lv_goto (tgt := 18) hx hb dL_law_830 (by decide) ?_
            have hN : Nx g g := Nx.rf hI
            have hN2 := hN.2
            exact ih_18  (i + 5) g y z (by omega) hN.1 (by omega) hLX hLM (by omega) _ _ _ hP hD hS (lv_sub hl [1, 2, 3, 0] rfl)
          · exact absurd rfl c_684
        · rw [h6]
          refine lv_tableIn (tgt := 689) hx hb dL_law_32 (by decide) (by decide) rfl (by decide) ?_
          refine lv_aload_n hx hb dL_law_689 rfl (lv_at hl 1 rfl) ?_
          refine lv_aload_n hx hb dL_law_690 rfl (lv_at hl 0 rfl) ?_
          refine lv_iload_n hx hb dL_law_691 rfl (lv_at hl 3 rfl) ?_
          refine lv_iconst (v := 1) hx hb dL_law_692 (by decide) ?_
          refine n_add F (a := i) (b := 1) dL_law_693 ?_
          refine s_ld hx hb hX hbl hbA hS (j := i + 1) (by omega) hL0 dL_law_694 ?_
          refine cl_V_i (wc := (xW adx kA g y)) (As := [.int (xs (i + 1))]) (rest := []) (b := (adx 0)) (C := RX5) F hK (sg_P (l1 := []) (l2 := mW adm kA g z) hP) (sg_D (l1 := []) (l2 := mW adm kA g z) hD) hS hA (kX5_describeVerdict l D kA _ adx g y (xs (i + 1)) hI hLX) gw_449 gw_65 gw_446 gw_447 gw_448 (va_recv hK.1 hP (ci := 5) (q0 := 0) rfl rfl) hdX5_describeVerdict ⟨Nat.le_of_ble_eq_true rfl, Nat.le_of_ble_eq_true rfl⟩ hl.1 rfl (Nat.le_of_ble_eq_true rfl) dL_law_695 ⟨Nat.le_of_ble_eq_true rfl, Nat.le_of_ble_eq_true rfl⟩ (fun r_695 u_695 H locs hw hP1 hD1 hk1 hFc hS => ?_)
          obtain ⟨rfl, rfl⟩ := hw
          have hPD := hp_seg (l1 := []) (wc := xW adx kA g y) (l2 := mW adm kA g z) hP hD hk1 hFc hP1 hD1
          have hP : va_P D vwCl (xW adx kA g y ++ mW adm kA g z) H := hPD.1
          have hD : va_D A (xW adx kA g y ++ mW adm kA g z) := hPD.2
          refine lv_aload_n hx hb dL_law_698 rfl (lv_at hl 2 rfl) ?_
          refine lv_aload_n hx hb dL_law_699 rfl (lv_at hl 0 rfl) ?_
          refine lv_iload_n hx hb dL_law_700 rfl (lv_at hl 3 rfl) ?_
          refine lv_iconst (v := 1) hx hb dL_law_701 (by decide) ?_
          refine n_add F (a := i) (b := 1) dL_law_702 ?_
          refine s_ld hx hb hX hbl hbA hS (j := i + 1) (by omega) hL0 dL_law_703 ?_
          refine cl_V_i (wc := (mW adm kA g z)) (As := [.int (xs (i + 1))]) (rest := [.int (sp_desV (xs (i + 1)) g)]) (b := (adm 0)) (C := RX6) F hK (sg_P (l1 := xW adx kA g y) (l2 := []) hP) (sg_D (l1 := xW adx kA g y) (l2 := []) hD) hS hA (kX6_describeVerdict l D kA _ adm g z (xs (i + 1)) hI hLM) gw_817 gw_71 gw_814 gw_815 gw_816 (va_recv hK.1 (sg_P (l1 := xW adx kA g y) (wc := mW adm kA g z) (l2 := []) hP) (ci := 6) (q0 := 0) rfl rfl) hdX6_describeVerdict ⟨Nat.le_of_ble_eq_true rfl, Nat.le_of_ble_eq_true rfl⟩ hl.1 rfl (Nat.le_of_ble_eq_true rfl) dL_law_704 ⟨Nat.le_of_ble_eq_true rfl, Nat.le_of_ble_eq_true rfl⟩ (fun r_704 u_704 H locs hw hP1 hD1 hk1 hFc hS => ?_)
          obtain ⟨rfl, rfl⟩ := hw
          have hPD := hp_seg (l1 := xW adx kA g y) (wc := mW adm kA g z) (l2 := []) hP hD hk1 hFc hP1 hD1
          have hP : va_P D vwCl (xW adx kA g y ++ mW adm kA g z) H := hPD.1
          have hD : va_D A (xW adx kA g y ++ mW adm kA g z) := hPD.2
          refine lv_icmp_eq (tgt := 827) hx hb dL_law_707 (by decide) (fun c_707 => ?_) (fun c_707 => ?_)
          · refine lv_iinc (v := nI (i + 5)) (lv' := [(3, .int (nI (i + 5))), (0, .ref b), (1, .ref (adx 0)), (2, .ref (adm 0))]) hx hb dL_law_827 hl (k := 3) rfl (nI_add i 5) (by decide) rfl (fun ls hl => ?_)
            refine lv_goto (tgt := 18) hx hb dL_law_830 (by decide) ?_
            have hN : Nx g g := Nx.rf hI
            have hN2 := hN.2
            exact ih_18  (i + 5) g y z (by omega) hN.1 (by omega) hLX hLM (by omega) _ _ _ hP hD hS (lv_sub hl [1, 2, 3, 0] rfl)
          · exact absurd rfl c_707
        · rw [h6]
          refine lv_tableIn (tgt := 712) hx hb dL_law_32 (by decide) (by decide) rfl (by decide) ?_
          refine lv_aload_n hx hb dL_law_712 rfl (lv_at hl 1 rfl) ?_
          refine lv_aload_n hx hb dL_law_713 rfl (lv_at hl 0 rfl) ?_
          refine lv_iload_n hx hb dL_law_714 rfl (lv_at hl 3 rfl) ?_
          refine lv_iconst (v := 1) hx hb dL_law_715 (by decide) ?_
          refine n_add F (a := i) (b := 1) dL_law_716 ?_
          refine s_ld hx hb hX hbl hbA hS (j := i + 1) (by omega) hL0 dL_law_717 ?_
          refine lv_aload_n hx hb dL_law_718 rfl (lv_at hl 0 rfl) ?_
          refine lv_iload_n hx hb dL_law_719 rfl (lv_at hl 3 rfl) ?_
          refine lv_iconst (v := 2) hx hb dL_law_720 (by decide) ?_
          refine n_add F (a := i) (b := 2) dL_law_721 ?_
          refine s_ld hx hb hX hbl hbA hS (j := i + 2) (by omega) hL0 dL_law_722 ?_
          refine cl_V_i (wc := (xW adx kA g y)) (As := [.int (xs (i + 1)), .int (xs (i + 2))]) (rest := []) (b := (adx 0)) (C := RX5) F hK (sg_P (l1 := []) (l2 := mW adm kA g z) hP) (sg_D (l1 := []) (l2 := mW adm kA g z) hD) hS hA (kX5_countSequences l D kA _ adx g y (xs (i + 1)) (xs (i + 2)) hI) gw_461 gw_65 gw_458 gw_459 gw_460 (va_recv hK.1 hP (ci := 5) (q0 := 0) rfl rfl) hdX5_countSequences ⟨Nat.le_of_ble_eq_true rfl, Nat.le_of_ble_eq_true rfl⟩ hl.1 rfl (Nat.le_of_ble_eq_true rfl) dL_law_723 ⟨Nat.le_of_ble_eq_true rfl, Nat.le_of_ble_eq_true rfl⟩ (fun r_723 u_723 H locs hw hP1 hD1 hk1 hFc hS => ?_)
          obtain ⟨rfl, y_723, hy_723, rfl⟩ := hw
          have hPD := hp_seg (l1 := []) (wc := xW adx kA g y) (l2 := mW adm kA g z) hP hD hk1 hFc hP1 hD1
          have hP : va_P D vwCl (xW adx kA g y_723 ++ mW adm kA g z) H := hPD.1
          have hD : va_D A (xW adx kA g y_723 ++ mW adm kA g z) := hPD.2
          refine lv_aload_n hx hb dL_law_726 rfl (lv_at hl 2 rfl) ?_
          refine lv_aload_n hx hb dL_law_727 rfl (lv_at hl 0 rfl) ?_
          refine lv_iload_n hx hb dL_law_728 rfl (lv_at hl 3 rfl) ?_
          refine lv_iconst (v := 1) hx hb dL_law_729 (by decide) ?_
          refine n_add F (a := i) (b := 1) dL_law_730 ?_
          refine s_ld hx hb hX hbl hbA hS (j := i + 1) (by omega) hL0 dL_law_731 ?_
          refine lv_aload_n hx hb dL_law_732 rfl (lv_at hl 0 rfl) ?_
          refine lv_iload_n hx hb dL_law_733 rfl (lv_at hl 3 rfl) ?_
          refine lv_iconst (v := 2) hx hb dL_law_734 (by decide) ?_
          refine n_add F (a := i) (b := 2) dL_law_735 ?_
          refine s_ld hx hb hX hbl hbA hS (j := i + 2) (by omega) hL0 dL_law_736 ?_
          refine cl_V_i (wc := (mW adm kA g z)) (As := [.int (xs (i + 1)), .int (xs (i + 2))]) (rest := [.int (sp_cseq (xs (i + 1)) (xs (i + 2)) g)]) (b := (adm 0)) (C := RX6) F hK (sg_P (l1 := xW adx kA g y_723) (l2 := []) hP) (sg_D (l1 := xW adx kA g y_723) (l2 := []) hD) hS hA (kX6_countSequences l D kA _ adm g z (xs (i + 1)) (xs (i + 2)) hI) gw_821 gw_71 gw_818 gw_819 gw_820 (va_recv hK.1 (sg_P (l1 := xW adx kA g y_723) (wc := mW adm kA g z) (l2 := []) hP) (ci := 6) (q0 := 0) rfl rfl) hdX6_countSequences ⟨Nat.le_of_ble_eq_true rfl, Nat.le_of_ble_eq_true rfl⟩ hl.1 rfl (Nat.le_of_ble_eq_true rfl) dL_law_737 ⟨Nat.le_of_ble_eq_true rfl, Nat.le_of_ble_eq_true rfl⟩ (fun r_737 u_737 H locs hw hP1 hD1 hk1 hFc hS => ?_)
          obtain ⟨rfl, W_737, rfl⟩ := hw
          have hPD := hp_seg (l1 := xW adx kA g y_723) (wc := mW adm kA g z) (l2 := []) hP hD hk1 hFc hP1 hD1
          have hP : va_P D vwCl (xW adx kA g y_723 ++ mW adm kA g (tWa z W_737)) H := hPD.1
          have hD : va_D A (xW adx kA g y_723 ++ mW adm kA g (tWa z W_737)) := hPD.2
          refine lv_icmp_eq (tgt := 827) hx hb dL_law_740 (by decide) (fun c_740 => ?_) (fun c_740 => ?_)
          · refine lv_iinc (v := nI (i + 5)) (lv' := [(3, .int (nI (i + 5))), (0, .ref b), (1, .ref (adx 0)), (2, .ref (adm 0))]) hx hb dL_law_827 hl (k := 3) rfl (nI_add i 5) (by decide) rfl (fun ls hl => ?_)
            refine lv_goto (tgt := 18) hx hb dL_law_830 (by decide) ?_
            have hN : Nx g g := Nx.rf hI
            have hN2 := hN.2
            exact ih_18  (i + 5) g y_723 (tWa z W_737) (by omega) hN.1 (by omega) (by rw [hy_723]; exact hLX) hLM (by omega) _ _ _ hP hD hS (lv_sub hl [1, 2, 3, 0] rfl)
          · exact absurd rfl c_740
        · rw [h6]
          refine lv_tableIn (tgt := 745) hx hb dL_law_32 (by decide) (by decide) rfl (by decide) ?_
          refine lv_aload_n hx hb dL_law_745 rfl (lv_at hl 1 rfl) ?_
          refine lv_aload_n hx hb dL_law_746 rfl (lv_at hl 0 rfl) ?_
          refine lv_iload_n hx hb dL_law_747 rfl (lv_at hl 3 rfl) ?_
          refine lv_iconst (v := 1) hx hb dL_law_748 (by decide) ?_
          refine n_add F (a := i) (b := 1) dL_law_749 ?_
          refine s_ld hx hb hX hbl hbA hS (j := i + 1) (by omega) hL0 dL_law_750 ?_
          refine lv_aload_n hx hb dL_law_751 rfl (lv_at hl 0 rfl) ?_
          refine lv_iload_n hx hb dL_law_752 rfl (lv_at hl 3 rfl) ?_
          refine lv_iconst (v := 2) hx hb dL_law_753 (by decide) ?_
          refine n_add F (a := i) (b := 2) dL_law_754 ?_
          refine s_ld hx hb hX hbl hbA hS (j := i + 2) (by omega) hL0 dL_law_755 ?_
          refine cl_V_l (wc := (xW adx kA g y)) (As := [.int (xs (i + 1)), .int (xs (i + 2))]) (rest := []) (b := (adx 0)) (C := RX5) F hK (sg_P (l1 := []) (l2 := mW adm kA g z) hP) (sg_D (l1 := []) (l2 := mW adm kA g z) hD) hS hA (kX5_scannerProbability l D kA _ adx g y (xs (i + 1)) (xs (i + 2)) hI) gw_490 gw_65 gw_487 gw_488 gw_489 (va_recv hK.1 hP (ci := 5) (q0 := 0) rfl rfl) hdX5_scannerProbability ⟨Nat.le_of_ble_eq_true rfl, Nat.le_of_ble_eq_true rfl⟩ hl.1 rfl (Nat.le_of_ble_eq_true rfl) dL_law_756 ⟨Nat.le_of_ble_eq_true rfl, Nat.le_of_ble_eq_true rfl⟩ (fun r_756 u_756 H locs hw hP1 hD1 hk1 hFc hS => ?_)
          obtain ⟨rfl, y_756, hy_756, rfl⟩ := hw
          have hPD := hp_seg (l1 := []) (wc := xW adx kA g y) (l2 := mW adm kA g z) hP hD hk1 hFc hP1 hD1
          have hP : va_P D vwCl (xW adx kA g y_756 ++ mW adm kA g z) H := hPD.1
          have hD : va_D A (xW adx kA g y_756 ++ mW adm kA g z) := hPD.2
          refine lv_aload_n hx hb dL_law_759 rfl (lv_at hl 2 rfl) ?_
          refine lv_aload_n hx hb dL_law_760 rfl (lv_at hl 0 rfl) ?_
          refine lv_iload_n hx hb dL_law_761 rfl (lv_at hl 3 rfl) ?_
          refine lv_iconst (v := 1) hx hb dL_law_762 (by decide) ?_
          refine n_add F (a := i) (b := 1) dL_law_763 ?_
          refine s_ld hx hb hX hbl hbA hS (j := i + 1) (by omega) hL0 dL_law_764 ?_
          refine lv_aload_n hx hb dL_law_765 rfl (lv_at hl 0 rfl) ?_
          refine lv_iload_n hx hb dL_law_766 rfl (lv_at hl 3 rfl) ?_
          refine lv_iconst (v := 2) hx hb dL_law_767 (by decide) ?_
          refine n_add F (a := i) (b := 2) dL_law_768 ?_
          refine s_ld hx hb hX hbl hbA hS (j := i + 2) (by omega) hL0 dL_law_769 ?_
          refine cl_V_l (wc := (mW adm kA g z)) (As := [.int (xs (i + 1)), .int (xs (i + 2))]) (rest := [.long (sp_prob 0 (xs (i + 1)) (xs (i + 2)) g)]) (b := (adm 0)) (C := RX6) F hK (sg_P (l1 := xW adx kA g y_756) (l2 := []) hP) (sg_D (l1 := xW adx kA g y_756) (l2 := []) hD) hS hA (kX6_scannerProbability l D kA _ adm g z (xs (i + 1)) (xs (i + 2)) hI) gw_829 gw_71 gw_826 gw_827 gw_828 (va_recv hK.1 (sg_P (l1 := xW adx kA g y_756) (wc := mW adm kA g z) (l2 := []) hP) (ci := 6) (q0 := 0) rfl rfl) hdX6_scannerProbability ⟨Nat.le_of_ble_eq_true rfl, Nat.le_of_ble_eq_true rfl⟩ hl.1 rfl (Nat.le_of_ble_eq_true rfl) dL_law_770 ⟨Nat.le_of_ble_eq_true rfl, Nat.le_of_ble_eq_true rfl⟩ (fun r_770 u_770 H locs hw hP1 hD1 hk1 hFc hS => ?_)
          obtain ⟨rfl, C_770, F_770, rfl⟩ := hw
          have hPD := hp_seg (l1 := xW adx kA g y_756) (wc := mW adm kA g z) (l2 := []) hP hD hk1 hFc hP1 hD1
          have hP : va_P D vwCl (xW adx kA g y_756 ++ mW adm kA g (tCF z C_770 F_770)) H := hPD.1
          have hD : va_D A (xW adx kA g y_756 ++ mW adm kA g (tCF z C_770 F_770)) := hPD.2
          refine W.lcmp hx hb dL_law_773 ?_
          refine b_lceq F (tgt := 827) dL_law_774 (by decide) (fun c_774 => ?_) (fun c_774 => ?_)
          · refine lv_iinc (v := nI (i + 5)) (lv' := [(3, .int (nI (i + 5))), (0, .ref b), (1, .ref (adx 0)), (2, .ref (adm 0))]) hx hb dL_law_827 hl (k := 3) rfl (nI_add i 5) (by decide) rfl (fun ls hl => ?_)
            refine lv_goto (tgt := 18) hx hb dL_law_830 (by decide) ?_
            have hN : Nx g g := Nx.rf hI
            have hN2 := hN.2
            exact ih_18  (i + 5) g y_756 (tCF z C_770 F_770) (by omega) hN.1 (by omega) (by rw [hy_756]; exact hLX) hLM (by omega) _ _ _ hP hD hS (lv_sub hl [1, 2, 3, 0] rfl)
          · exact absurd rfl c_774
        · rw [h6]
          refine lv_tableIn (tgt := 779) hx hb dL_law_32 (by decide) (by decide) rfl (by decide) ?_
          refine lv_aload_n hx hb dL_law_779 rfl (lv_at hl 1 rfl) ?_
          refine lv_aload_n hx hb dL_law_780 rfl (lv_at hl 0 rfl) ?_
          refine lv_iload_n hx hb dL_law_781 rfl (lv_at hl 3 rfl) ?_
          refine lv_iconst (v := 1) hx hb dL_law_782 (by decide) ?_
          refine n_add F (a := i) (b := 1) dL_law_783 ?_
          refine s_ld hx hb hX hbl hbA hS (j := i + 1) (by omega) hL0 dL_law_784 ?_
          refine lv_aload_n hx hb dL_law_785 rfl (lv_at hl 0 rfl) ?_
          refine lv_iload_n hx hb dL_law_786 rfl (lv_at hl 3 rfl) ?_
          refine lv_iconst (v := 2) hx hb dL_law_787 (by decide) ?_
          refine n_add F (a := i) (b := 2) dL_law_788 ?_
          refine s_ld hx hb hX hbl hbA hS (j := i + 2) (by omega) hL0 dL_law_789 ?_
          refine cl_V_l (wc := (xW adx kA g y)) (As := [.int (xs (i + 1)), .int (xs (i + 2))]) (rest := []) (b := (adx 0)) (C := RX5) F hK (sg_P (l1 := []) (l2 := mW adm kA g z) hP) (sg_D (l1 := []) (l2 := mW adm kA g z) hD) hS hA (kX5_expectedContacts l D kA _ adx g y (xs (i + 1)) (xs (i + 2)) hI) gw_518 gw_65 gw_515 gw_516 gw_517 (va_recv hK.1 hP (ci := 5) (q0 := 0) rfl rfl) hdX5_expectedContacts ⟨Nat.le_of_ble_eq_true rfl, Nat.le_of_ble_eq_true rfl⟩ hl.1 rfl (Nat.le_of_ble_eq_true rfl) dL_law_790 ⟨Nat.le_of_ble_eq_true rfl, Nat.le_of_ble_eq_true rfl⟩ (fun r_790 u_790 H locs hw hP1 hD1 hk1 hFc hS => ?_)
          obtain ⟨rfl, y_790, hy_790, rfl⟩ := hw
          have hPD := hp_seg (l1 := []) (wc := xW adx kA g y) (l2 := mW adm kA g z) hP hD hk1 hFc hP1 hD1
          have hP : va_P D vwCl (xW adx kA g y_790 ++ mW adm kA g z) H := hPD.1
          have hD : va_D A (xW adx kA g y_790 ++ mW adm kA g z) := hPD.2
          refine lv_aload_n hx hb dL_law_793 rfl (lv_at hl 2 rfl) ?_
          refine lv_aload_n hx hb dL_law_794 rfl (lv_at hl 0 rfl) ?_
          refine lv_iload_n hx hb dL_law_795 rfl (lv_at hl 3 rfl) ?_
          refine lv_iconst (v := 1) hx hb dL_law_796 (by decide) ?_
          refine n_add F (a := i) (b := 1) dL_law_797 ?_
          refine s_ld hx hb hX hbl hbA hS (j := i + 1) (by omega) hL0 dL_law_798 ?_
          refine lv_aload_n hx hb dL_law_799 rfl (lv_at hl 0 rfl) ?_
          refine lv_iload_n hx hb dL_law_800 rfl (lv_at hl 3 rfl) ?_
          refine lv_iconst (v := 2) hx hb dL_law_801 (by decide) ?_
          refine n_add F (a := i) (b := 2) dL_law_802 ?_
          refine s_ld hx hb hX hbl hbA hS (j := i + 2) (by omega) hL0 dL_law_803 ?_
          refine cl_V_l (wc := (mW adm kA g z)) (As := [.int (xs (i + 1)), .int (xs (i + 2))]) (rest := [.long (sp_prob 1 (xs (i + 1)) (xs (i + 2)) g)]) (b := (adm 0)) (C := RX6) F hK (sg_P (l1 := xW adx kA g y_790) (l2 := []) hP) (sg_D (l1 := xW adx kA g y_790) (l2 := []) hD) hS hA (kX6_expectedContacts l D kA _ adm g z (xs (i + 1)) (xs (i + 2)) hI) gw_860 gw_71 gw_857 gw_858 gw_859 (va_recv hK.1 (sg_P (l1 := xW adx kA g y_790) (wc := mW adm kA g z) (l2 := []) hP) (ci := 6) (q0 := 0) rfl rfl) hdX6_expectedContacts ⟨Nat.le_of_ble_eq_true rfl, Nat.le_of_ble_eq_true rfl⟩ hl.1 rfl (Nat.le_of_ble_eq_true rfl) dL_law_804 ⟨Nat.le_of_ble_eq_true rfl, Nat.le_of_ble_eq_true rfl⟩ (fun r_804 u_804 H locs hw hP1 hD1 hk1 hFc hS => ?_)
          obtain ⟨rfl, C_804, F_804, rfl⟩ := hw
          have hPD := hp_seg (l1 := xW adx kA g y_790) (wc := mW adm kA g z) (l2 := []) hP hD hk1 hFc hP1 hD1
          have hP : va_P D vwCl (xW adx kA g y_790 ++ mW adm kA g (tCF z C_804 F_804)) H := hPD.1
          have hD : va_D A (xW adx kA g y_790 ++ mW adm kA g (tCF z C_804 F_804)) := hPD.2
          refine W.lcmp hx hb dL_law_807 ?_
          refine b_lceq F (tgt := 827) dL_law_808 (by decide) (fun c_808 => ?_) (fun c_808 => ?_)
          · refine lv_iinc (v := nI (i + 5)) (lv' := [(3, .int (nI (i + 5))), (0, .ref b), (1, .ref (adx 0)), (2, .ref (adm 0))]) hx hb dL_law_827 hl (k := 3) rfl (nI_add i 5) (by decide) rfl (fun ls hl => ?_)
            refine lv_goto (tgt := 18) hx hb dL_law_830 (by decide) ?_
            have hN : Nx g g := Nx.rf hI
            have hN2 := hN.2
            exact ih_18  (i + 5) g y_790 (tCF z C_804 F_804) (by omega) hN.1 (by omega) (by rw [hy_790]; exact hLX) hLM (by omega) _ _ _ hP hD hS (lv_sub hl [1, 2, 3, 0] rfl)
          · exact absurd rfl c_808
        · rw [h6]
          refine lv_tableIn (tgt := 813) hx hb dL_law_32 (by decide) (by decide) rfl (by decide) ?_
          refine lv_aload_n hx hb dL_law_813 rfl (lv_at hl 1 rfl) ?_
          refine cl_V_l (wc := (xW adx kA g y)) (As := []) (rest := []) (b := (adx 0)) (C := RX5) F hK (sg_P (l1 := []) (l2 := mW adm kA g z) hP) (sg_D (l1 := []) (l2 := mW adm kA g z) hD) hS hA (kX5_digest l D kA _ adx g y  hI hLX) gw_530 gw_65 gw_527 gw_528 gw_529 (va_recv hK.1 hP (ci := 5) (q0 := 0) rfl rfl) hdX5_digest ⟨Nat.le_of_ble_eq_true rfl, Nat.le_of_ble_eq_true rfl⟩ hl.1 rfl (Nat.le_of_ble_eq_true rfl) dL_law_814 ⟨Nat.le_of_ble_eq_true rfl, Nat.le_of_ble_eq_true rfl⟩ (fun r_814 u_814 H locs hw hP1 hD1 hk1 hFc hS => ?_)
          obtain ⟨rfl, y_814, hy_814, rfl⟩ := hw
          have hPD := hp_seg (l1 := []) (wc := xW adx kA g y) (l2 := mW adm kA g z) hP hD hk1 hFc hP1 hD1
          have hP : va_P D vwCl (xW adx kA g y_814 ++ mW adm kA g z) H := hPD.1
          have hD : va_D A (xW adx kA g y_814 ++ mW adm kA g z) := hPD.2
          refine lv_aload_n hx hb dL_law_817 rfl (lv_at hl 2 rfl) ?_
          refine cl_V_l (wc := (mW adm kA g z)) (As := []) (rest := [.long (sp_digest g)]) (b := (adm 0)) (C := RX6) F hK (sg_P (l1 := xW adx kA g y_814) (l2 := []) hP) (sg_D (l1 := xW adx kA g y_814) (l2 := []) hD) hS hA (kX6_digest l D kA _ adm g z  hI hLM) gw_868 gw_71 gw_865 gw_866 gw_867 (va_recv hK.1 (sg_P (l1 := xW adx kA g y_814) (wc := mW adm kA g z) (l2 := []) hP) (ci := 6) (q0 := 0) rfl rfl) hdX6_digest ⟨Nat.le_of_ble_eq_true rfl, Nat.le_of_ble_eq_true rfl⟩ hl.1 rfl (Nat.le_of_ble_eq_true rfl) dL_law_818 ⟨Nat.le_of_ble_eq_true rfl, Nat.le_of_ble_eq_true rfl⟩ (fun r_818 u_818 H locs hw hP1 hD1 hk1 hFc hS => ?_)
          obtain ⟨rfl, z_818, hz_818, rfl⟩ := hw
          have hPD := hp_seg (l1 := xW adx kA g y_814) (wc := mW adm kA g z) (l2 := []) hP hD hk1 hFc hP1 hD1
          have hP : va_P D vwCl (xW adx kA g y_814 ++ mW adm kA g z_818) H := hPD.1
          have hD : va_D A (xW adx kA g y_814 ++ mW adm kA g z_818) := hPD.2
          refine W.lcmp hx hb dL_law_821 ?_
          refine b_lceq F (tgt := 827) dL_law_822 (by decide) (fun c_822 => ?_) (fun c_822 => ?_)
          · refine lv_iinc (v := nI (i + 5)) (lv' := [(3, .int (nI (i + 5))), (0, .ref b), (1, .ref (adx 0)), (2, .ref (adm 0))]) hx hb dL_law_827 hl (k := 3) rfl (nI_add i 5) (by decide) rfl (fun ls hl => ?_)
            refine lv_goto (tgt := 18) hx hb dL_law_830 (by decide) ?_
            have hN : Nx g g := Nx.rf hI
            have hN2 := hN.2
            exact ih_18  (i + 5) g y_814 z_818 (by omega) hN.1 (by omega) (by rw [hy_814]; exact hLX) (by rw [hz_818]; exact hLM) (by omega) _ _ _ hP hD hS (lv_sub hl [1, 2, 3, 0] rfl)
          · exact absurd rfl c_822
        · refine lv_tableOut (tgt := 827) hx hb dL_law_32 h6 (by decide) ?_
          refine lv_iinc (v := nI (i + 5)) (lv' := [(3, .int (nI (i + 5))), (0, .ref b), (1, .ref (adx 0)), (2, .ref (adm 0))]) hx hb dL_law_827 hl (k := 3) rfl (nI_add i 5) (by decide) rfl (fun ls hl => ?_)
          refine lv_goto (tgt := 18) hx hb dL_law_830 (by decide) ?_
          have hN : Nx g g := Nx.rf hI
          have hN2 := hN.2
          exact ih_18  (i + 5) g y z (by omega) hN.1 (by omega) hLX hLM (by omega) _ _ _ hP hD hS (lv_sub hl [1, 2, 3, 0] rfl)
  exact lp_18 _ 0 gN0 y0 zN0 (Nat.zero_le _) inv0 (Nat.zero_le _) (fun b h1 h2 => absurd h2 (Nat.not_lt_zero _)) (fun b h1 h2 => absurd h2 (Nat.not_lt_zero _)) (Nat.lt_succ_self _) _ _ _ hP hD hS (lv_sub hl [3, 2, 1, 0] rfl)
