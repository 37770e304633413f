theorem at_in {k i : Nat} {g : Sg} (h : i < gN g 0) (hb : gN g 0 ≤ 8) : sp_at k (nI i) g = gR g k i := by
  rw [sp_at, if_pos, nI_clamp (by omega)]
  rw [show gN g 0 = (gN g 0 - 1) + 1 by omega, nI_pred]
  exact in07 (by omega) (by omega)
theorem isB_in {i : Nat} {g : Sg} (h : i < gN g 0) (hb : gN g 0 ≤ 8) : (sp_isB (nI i) g).toInt64 = if gR g 1 i = 0 then 0 else 1 := by
  rw [sp_isB, if_pos, nI_clamp (by omega)]
  · by_cases hq : gR g 1 i = 0
    · rw [if_pos hq, if_pos hq]; rfl
    · rw [if_neg hq, if_neg hq]; rfl
  · rw [show gN g 0 = (gN g 0 - 1) + 1 by omega, nI_pred]
    exact in07 (by omega) (by omega)
theorem seen_in {i : Nat} {g : Sg} (h : i < gN g 0) (hb : gN g 0 ≤ 8) : sp_seen (nI i) g = gE g i := by
  rw [sp_seen, if_pos, nI_clamp (by omega)]
  rw [show gN g 0 = (gN g 0 - 1) + 1 by omega, nI_pred]
  exact in07 (by omega) (by omega)
theorem desA_in {i : Nat} {g : Sg} (h : i < gN g 1) (hb : gN g 1 ≤ 12) : sp_desA (nI i) g = desA i g := by
  rw [sp_desA, if_pos, nI_clamp (by omega)]
  rw [show gN g 1 = (gN g 1 - 1) + 1 by omega, nI_pred]
  exact in07 (by omega) (by omega)
theorem desV_in {i : Nat} {g : Sg} (h : i < min (gV g).length 16) (hb : (gV g).length < 2 ^ 30) : sp_desV (nI i) g = (gV g).getD i 0 := by
  rw [sp_desV, if_pos (dv_of hb h), nI_clamp (by omega)]
theorem wdg {g : Sg} {u d U B : Nat} (h : Par g u d U B) : gI g 2 - gI g 3 - 1 = nI (59 + U - B) := by
  obtain ⟨-, -, h3, h4, -, -, h7, h8⟩ := h
  rw [h3, h4]
  exact wd_eq h7.2 h8
