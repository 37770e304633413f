set_option maxRecDepth 100000 in
set_option maxHeartbeats 4000000 in
theorem kX5_bits0 (l : Launch) (D : va_G) (kA : Nat → ClassId) (sz : Nat)   : CtL l yX5_bitsOf cX5_bitsOf 8 .long 0 D kA sz ([]) [.double FP.dconst0] (fun r uu => r = FP.dconst0.toInt64 ∧ uu = []) := by
  refine ct_l (own := RX5) (by decide) rfl (Nat.le_of_ble_eq_true rfl) ?_
  intro p_ e_ s_ m_ ar_ bw_ me_ co_ A ls Q F hnm hK hA hP hD hS hl hsz rt
  have hx := F.1
  have hb := F.2.1
  have hl : lv_has ls 8 [(0, .double FP.dconst0)] := hl
  have hP : va_P D vwCl ([]) s_.heap := hP
  refine lv_dload_n hx hb dX5_bitsOf_0 rfl (lv_at hl 0 rfl) ?_
  refine lv_dconst0 hx hb dX5_bitsOf_1 ?_
  refine lv_dcmp hx hb dX5_bitsOf_2 ?_
  rw [show Op.cmpValue (FP.dcmp FP.dconst0 FP.dconst0) CmpOp.l = 0 from by decide +kernel]
  refine lv_if_gt (tgt := 8) hx hb dX5_bitsOf_3 (by decide) (fun h => absurd h (by decide)) (fun _ => ?_)
  refine lv_lconst (v := 0) hx hb dX5_bitsOf_6 (by decide) ?_
  exact rt _ ([]) _ _ _ _ hP hD hS dX5_bitsOf_7 (⟨by decide +kernel, rfl⟩)

set_option maxRecDepth 100000 in
set_option maxHeartbeats 4000000 in
theorem kX5_bits1 (l : Launch) (D : va_G) (kA : Nat → ClassId) (sz : Nat) (E m : Nat) (hE : NbOk E m) : CtL l yX5_bitsOf cX5_bitsOf 8 .long 0 D kA sz ([]) [.double (nb E m)] (fun r uu => r = (nb E m).toInt64 ∧ uu = []) := by
  refine ct_l (own := RX5) (by decide) rfl (Nat.le_of_ble_eq_true rfl) ?_
  intro p_ e_ s_ m_ ar_ bw_ me_ co_ A ls Q F hnm hK hA hP hD hS hl hsz rt
  have hx := F.1
  have hb := F.2.1
  have hl : lv_has ls 8 [(0, .double (nb E m))] := hl
  have hP : va_P D vwCl ([]) s_.heap := hP
  have hE9 := hE.1
  have hE8 := hE.2.1
  refine lv_dload_n hx hb dX5_bitsOf_0 rfl (lv_at hl 0 rfl) ?_
  refine lv_dconst0 hx hb dX5_bitsOf_1 ?_
  refine lv_dcmp hx hb dX5_bitsOf_2 ?_
  rw [nb_gt0 hE]
  refine lv_if_gt (tgt := 8) hx hb dX5_bitsOf_3 (by decide) (fun _ => ?_) (fun h => absurd (by decide) h)
  refine lv_dload_n hx hb dX5_bitsOf_8 rfl (lv_at hl 0 rfl) ?_
  refine lv_dstore_n (lv' := [(2, .double (nb E m)), (0, .double (nb E m))]) hx hb dX5_bitsOf_9 rfl hl (by decide) rfl (fun ls hl => ?_)
  refine lv_ldc2 (v := 1023) hx hb F.2.2.2.1 (F.2.2.2.2 _ gw_511) dX5_bitsOf_10 ?_
  rw [show (1023 : Int64) = Int64.ofNat (1023 + E - E) from by rw [Nat.add_sub_cancel]; rfl]
  refine lv_lstore (lv' := [(4, .long (Int64.ofNat (1023 + E - E))), (2, .double (nb E m)), (0, .double (nb E m))]) hx hb dX5_bitsOf_13 hl (by decide) rfl (fun ls hl => ?_)
  refine lv_iconst (v := 0) hx hb dX5_bitsOf_15 (by decide) ?_
  rw [show (0 : Int32) = nI (E - E) from by rw [Nat.sub_self]; rfl]
  refine lv_istore (lv' := [(6, .int (nI (E - E))), (4, .long (Int64.ofNat (1023 + E - E))), (2, .double (nb E m)), (0, .double (nb E m))]) hx hb dX5_bitsOf_16 hl (by decide) rfl (fun ls hl => ?_)
  have lp_18 : ∀ (n_18 : Nat) (E1 : Nat), (E1 = E ∨ 1023 ≤ E1) → (E1 ≤ E) → E1 < n_18 → ∀ (H : Heap) (locs : List Loc) (ls : Array Slot), va_P D vwCl ([]) H → va_D A ([]) → va_S A s_.heap H locs → lv_has ls 8 [(0, .double (nb E m)), (2, .double (nb E1 m)), (4, .long (Int64.ofNat (1023 + E - E1))), (6, .int (nI (E - E1)))] → W p_ l e_ (rmC 0 0 0) s_ m_ ar_ bw_ me_ co_ H locs 0 0 Q (F0 m_ 18 ls []) := by
    intro n_18
    induction n_18 with
    | zero =>
      intro E1 hE1 hE2 hm_18
      exact absurd hm_18 (Nat.not_lt_zero _)
    | succ n_18 ih_18 =>
      intro E1 hE1 hE2 hm_18 H locs ls hP hD hS hl
      refine lv_iload hx hb dX5_bitsOf_18 (lv_at hl 3 rfl) ?_
      refine lv_sipush (v := 1100) hx hb dX5_bitsOf_20 (by decide) ?_
      refine b_ge F (a := E - E1) (b := 1100) (tgt := 52) dX5_bitsOf_23 (by decide) (by omega) (by omega) (fun c_23 => ?_) (fun c_23 => ?_)
      · exact absurd c_23 (by omega)
      · refine lv_dload_n hx hb dX5_bitsOf_26 rfl (lv_at hl 1 rfl) ?_
        refine lv_ldc2d (v := 4611686018427387904) hx hb F.2.2.2.1 (F.2.2.2.2 _ gw_512) dX5_bitsOf_27 ?_
        refine lv_dcmp hx hb dX5_bitsOf_30 ?_
        refine lv_if_lt (tgt := 52) hx hb dX5_bitsOf_31 (by decide) (fun c_31 => ?_) (fun c_31 => ?_)
        · have h31 := (nb_lt2 (⟨by omega, by omega, hE.2.2⟩ : NbOk E1 m)).mp c_31
          refine lv_iconst (v := 0) hx hb dX5_bitsOf_52 (by decide) ?_
          rw [show (0 : Int32) = nI (E1 - E1) from by rw [Nat.sub_self]; rfl]
          refine lv_istore (lv' := [(6, .int (nI (E1 - E1))), (0, .double (nb E m)), (2, .double (nb E1 m)), (4, .long (Int64.ofNat (1023 + E - E1)))]) hx hb dX5_bitsOf_53 hl (by decide) rfl (fun ls hl => ?_)
          have lp_55 : ∀ (n_55 : Nat) (E2 : Nat), (E1 ≤ E2) → (E2 ≤ 1023) → (1023 - E2) < n_55 → ∀ (H : Heap) (locs : List Loc) (ls : Array Slot), va_P D vwCl ([]) H → va_D A ([]) → va_S A s_.heap H locs → lv_has ls 8 [(0, .double (nb E m)), (2, .double (nb E2 m)), (4, .long (Int64.ofNat (1023 + E - E2))), (6, .int (nI (E2 - E1)))] → W p_ l e_ (rmC 0 0 0) s_ m_ ar_ bw_ me_ co_ H locs 0 0 Q (F0 m_ 55 ls []) := by
            intro n_55
            induction n_55 with
            | zero =>
              intro E2 hE3 hE4 hm_55
              exact absurd hm_55 (Nat.not_lt_zero _)
            | succ n_55 ih_55 =>
              intro E2 hE3 hE4 hm_55 H locs ls hP hD hS hl
              refine lv_iload hx hb dX5_bitsOf_55 (lv_at hl 3 rfl) ?_
              refine lv_sipush (v := 1100) hx hb dX5_bitsOf_57 (by decide) ?_
              refine b_ge F (a := E2 - E1) (b := 1100) (tgt := 87) dX5_bitsOf_60 (by decide) (by omega) (by omega) (fun c_60 => ?_) (fun c_60 => ?_)
              · exact absurd c_60 (by omega)
              · refine lv_dload_n hx hb dX5_bitsOf_63 rfl (lv_at hl 1 rfl) ?_
                refine lv_dconst1 hx hb dX5_bitsOf_64 ?_
                refine lv_dcmp hx hb dX5_bitsOf_65 ?_
                refine lv_if_ge (tgt := 87) hx hb dX5_bitsOf_66 (by decide) (fun c_66 => ?_) (fun c_66 => ?_)
                · have h66 := (nb_ge1 (⟨by omega, by omega, hE.2.2⟩ : NbOk E2 m)).mp c_66
                  obtain rfl : E2 = 1023 := by omega
                  refine lv_dload_n hx hb dX5_bitsOf_87 rfl (lv_at hl 1 rfl) ?_
                  refine lv_dconst1 hx hb dX5_bitsOf_88 ?_
                  refine lv_dsub hx hb dX5_bitsOf_89 (fr1_int hE.2.2).1 ?_
                  refine lv_ldc2d (v := 4841369599423283200) hx hb F.2.2.2.1 (F.2.2.2.2 _ gw_514) dX5_bitsOf_90 ?_
                  refine lv_dmul hx hb dX5_bitsOf_93 (fr1_int hE.2.2).2.1 ?_
                  refine lv_d2l hx hb dX5_bitsOf_94 ?_
                  rw [show FP.d2l (FP.dmul (FP.dsub (nb 1023 m) FP.dconst1) 4841369599423283200) = Int64.ofNat m from (fr1_int hE.2.2).2.2]
                  refine lv_lstore (lv' := [(6, .long (Int64.ofNat m)), (0, .double (nb E m)), (2, .double (nb 1023 m)), (4, .long (Int64.ofNat (1023 + E - 1023)))]) hx hb dX5_bitsOf_95 hl (by decide) rfl (fun ls hl => ?_)
                  refine lv_lload hx hb dX5_bitsOf_97 (lv_at hl 3 rfl) ?_
                  refine lv_bipush (v := 52) hx hb dX5_bitsOf_99 (by decide) ?_
                  refine lv_lshl (v := (Int64.ofNat (1023 + E - 1023)) <<< ((52 : Int32).toInt64 &&& 63)) hx hb dX5_bitsOf_101 rfl ?_
                  refine lv_lload hx hb dX5_bitsOf_102 (lv_at hl 0 rfl) ?_
                  refine lv_ladd hx hb dX5_bitsOf_104 ?_
                  exact rt _ ([]) _ _ _ _ hP hD hS dX5_bitsOf_105 (⟨by rw [show 1023 + E - 1023 = E by omega]; exact nb_end hE, rfl⟩)
                · have h66 : ¬ 1023 ≤ E2 := fun h => c_66 ((nb_ge1 (⟨by omega, by omega, hE.2.2⟩ : NbOk E2 m)).mpr h)
                  refine lv_dload_n hx hb dX5_bitsOf_69 rfl (lv_at hl 1 rfl) ?_
                  refine lv_ldc2d (v := 4611686018427387904) hx hb F.2.2.2.1 (F.2.2.2.2 _ gw_512) dX5_bitsOf_70 ?_
                  refine lv_dmul hx hb dX5_bitsOf_73 (by rw [nb_dbl (⟨by omega, by omega, hE.2.2⟩ : NbOk E2 m) (by omega)]; exact nb_n64 ⟨by omega, by omega, hE.2.2⟩) ?_
                  rw [show FP.dmul (nb E2 m) 4611686018427387904 = nb (E2 + 1) m from nb_dbl (⟨by omega, by omega, hE.2.2⟩ : NbOk E2 m) (by omega)]
                  refine lv_dstore_n (lv' := [(2, .double (nb (E2 + 1) m)), (0, .double (nb E m)), (4, .long (Int64.ofNat (1023 + E - E2))), (6, .int (nI (E2 - E1)))]) hx hb dX5_bitsOf_74 rfl hl (by decide) rfl (fun ls hl => ?_)
                  refine lv_lload hx hb dX5_bitsOf_75 (lv_at hl 2 rfl) ?_
                  refine lv_lconst (v := 1) hx hb dX5_bitsOf_77 (by decide) ?_
                  refine lv_lsub hx hb dX5_bitsOf_78 ?_
                  rw [show Int64.ofNat (1023 + E - E2) - 1 = Int64.ofNat (1023 + E - (E2 + 1)) from by rw [show 1023 + E - E2 = (1023 + E - (E2 + 1)) + 1 by omega, i64_p]]
                  refine lv_lstore (lv' := [(4, .long (Int64.ofNat (1023 + E - (E2 + 1)))), (2, .double (nb (E2 + 1) m)), (0, .double (nb E m)), (6, .int (nI (E2 - E1)))]) hx hb dX5_bitsOf_79 hl (by decide) rfl (fun ls hl => ?_)
                  refine lv_iinc (v := nI (E2 + 1 - E1)) (lv' := [(6, .int (nI (E2 + 1 - E1))), (4, .long (Int64.ofNat (1023 + E - (E2 + 1)))), (2, .double (nb (E2 + 1) m)), (0, .double (nb E m))]) hx hb dX5_bitsOf_81 hl (k := 3) rfl ((nI_add _ 1).trans (by congr 1; omega)) (by decide) rfl (fun ls hl => ?_)
                  refine lv_goto (tgt := 55) hx hb dX5_bitsOf_84 (by decide) ?_
                  exact ih_55  (E2 + 1) (by omega) (by omega) (by omega) _ _ _ hP hD hS (lv_sub hl [3, 2, 1, 0] rfl)
          exact lp_55 _ E1 (Nat.le_refl _) (by omega) (Nat.lt_succ_self _) _ _ _ hP hD hS (lv_sub hl [1, 2, 3, 0] rfl)
        · have h31 : ¬ E1 < 1024 := fun h => c_31 ((nb_lt2 (⟨by omega, by omega, hE.2.2⟩ : NbOk E1 m)).mpr h)
          refine lv_dload_n hx hb dX5_bitsOf_34 rfl (lv_at hl 1 rfl) ?_
          refine lv_ldc2d (v := 4602678819172646912) hx hb F.2.2.2.1 (F.2.2.2.2 _ gw_513) dX5_bitsOf_35 ?_
          refine lv_dmul hx hb dX5_bitsOf_38 (by rw [nb_half (⟨by omega, by omega, hE.2.2⟩ : NbOk E1 m) (by omega)]; exact nb_n64 ⟨by omega, by omega, hE.2.2⟩) ?_
          rw [show FP.dmul (nb E1 m) 4602678819172646912 = nb (E1 - 1) m from nb_half (⟨by omega, by omega, hE.2.2⟩ : NbOk E1 m) (by omega)]
          refine lv_dstore_n (lv' := [(2, .double (nb (E1 - 1) m)), (0, .double (nb E m)), (4, .long (Int64.ofNat (1023 + E - E1))), (6, .int (nI (E - E1)))]) hx hb dX5_bitsOf_39 rfl hl (by decide) rfl (fun ls hl => ?_)
          refine lv_lload hx hb dX5_bitsOf_40 (lv_at hl 2 rfl) ?_
          refine lv_lconst (v := 1) hx hb dX5_bitsOf_42 (by decide) ?_
          refine lv_ladd hx hb dX5_bitsOf_43 ?_
          rw [show Int64.ofNat (1023 + E - E1) + 1 = Int64.ofNat (1023 + E - (E1 - 1)) from by rw [i64_s]; congr 1; omega]
          refine lv_lstore (lv' := [(4, .long (Int64.ofNat (1023 + E - (E1 - 1)))), (2, .double (nb (E1 - 1) m)), (0, .double (nb E m)), (6, .int (nI (E - E1)))]) hx hb dX5_bitsOf_44 hl (by decide) rfl (fun ls hl => ?_)
          refine lv_iinc (v := nI (E - (E1 - 1))) (lv' := [(6, .int (nI (E - (E1 - 1)))), (4, .long (Int64.ofNat (1023 + E - (E1 - 1)))), (2, .double (nb (E1 - 1) m)), (0, .double (nb E m))]) hx hb dX5_bitsOf_46 hl (k := 3) rfl ((nI_add _ 1).trans (by congr 1; omega)) (by decide) rfl (fun ls hl => ?_)
          refine lv_goto (tgt := 18) hx hb dX5_bitsOf_49 (by decide) ?_
          exact ih_18  (E1 - 1) (Or.inr (by omega)) (by omega) (by omega) _ _ _ hP hD hS (lv_sub hl [3, 2, 1, 0] rfl)
  exact lp_18 _ E (Or.inl rfl) (Nat.le_refl _) (Nat.lt_succ_self _) _ _ _ hP hD hS (lv_sub hl [3, 2, 1, 0] rfl)

theorem kX5_bitsOf (l : Launch) (D : va_G) (kA : Nat → ClassId) (sz : Nat) (x : UInt64) (K : Nat) (hx : Ok 654 K 1554 x) : CtL l yX5_bitsOf cX5_bitsOf 8 .long 0 D kA sz [] [.double x] (fun r uu => r = x.toInt64 ∧ uu = []) := by
  rcases of_ok (by decide) hx with rfl | ⟨E, m, h, rfl⟩
  · exact kX5_bits0 l D kA sz
  · exact kX5_bits1 l D kA sz E m h
