/-! SHEETS. -/
theorem sx8 (x : Int32) : (x <<< (jI 24 &&& jI 31)) >>> (jI 24 &&& jI 31) = x.toInt8.toInt32 := by
  apply Int32.toBitVec_inj.mp
  rw [Int32.toBitVec_shiftRight, Int32.toBitVec_shiftLeft]
  have h1 : ((jI 24 &&& jI 31).toBitVec.smod 32) = 24#32 := by decide
  rw [h1]
  show (x.toBitVec <<< 24).sshiftRight 24 = (x.toBitVec.signExtend 8).signExtend 32
  apply BitVec.eq_of_getLsbD_eq
  intro i hi
  rw [BitVec.getLsbD_sshiftRight, BitVec.getLsbD_signExtend]
  by_cases h : i < 8
  · rw [if_pos (by omega), BitVec.getLsbD_shiftLeft, if_pos h, BitVec.getLsbD_signExtend, if_pos (by omega)]
    simp [h, show ¬ 32 ≤ i by omega, hi, show ¬ (24 + i < 24) by omega, show 24 + i < 32 by omega]
  · rw [if_neg (by omega), if_neg h, BitVec.msb_eq_getLsbD_last, BitVec.msb_eq_getLsbD_last, BitVec.getLsbD_shiftLeft, BitVec.getLsbD_signExtend]
    simp [show ¬ 32 ≤ i by omega, hi]
theorem sx16 (x : Int32) : (x <<< (jI 16 &&& jI 31)) >>> (jI 16 &&& jI 31) = x.toInt16.toInt32 := by
  apply Int32.toBitVec_inj.mp
  rw [Int32.toBitVec_shiftRight, Int32.toBitVec_shiftLeft]
  have h1 : ((jI 16 &&& jI 31).toBitVec.smod 32) = 16#32 := by decide
  rw [h1]
  show (x.toBitVec <<< 16).sshiftRight 16 = (x.toBitVec.signExtend 16).signExtend 32
  apply BitVec.eq_of_getLsbD_eq
  intro i hi
  rw [BitVec.getLsbD_sshiftRight, BitVec.getLsbD_signExtend]
  by_cases h : i < 16
  · rw [if_pos (by omega), BitVec.getLsbD_shiftLeft, if_pos h, BitVec.getLsbD_signExtend, if_pos (by omega)]
    simp [h, show ¬ 32 ≤ i by omega, hi, show ¬ (16 + i < 16) by omega, show 16 + i < 32 by omega]
  · rw [if_neg (by omega), if_neg h, BitVec.msb_eq_getLsbD_last, BitVec.msb_eq_getLsbD_last, BitVec.getLsbD_shiftLeft, BitVec.getLsbD_signExtend]
    simp [show ¬ 32 ≤ i by omega, hi]
/-- a SHEET of the class and its place in the reference's rows -/
def Sh (k : Nat) (ve vl vn : Int32) (cc lanes lengths cells : Nat → Int32) : Prop := (ve = jI 0 ∧ lanes k = gI 4) ∨ (∃ ln len, ve = jI 1 ∧ vl = jI ln ∧ vn = jI len ∧ ln < 3 ∧ len ≤ 40 ∧ lanes k = jI ln ∧ lengths k = jI len ∧ ∀ i, i < 40 → cc i = cells (40 * k + i))
/-- the other SHEETS are as they were -/
def ShO (k : Nat) (lanes lengths cells lanes' lengths' cells' : Nat → Int32) : Prop := ∀ j, j < 4 → j ≠ k → lanes' j = lanes j ∧ lengths' j = lengths j ∧ ∀ i, i < 40 → cells' (40 * j + i) = cells (40 * j + i)
theorem Sh_o {k j : Nat} {ve vl vn : Int32} {cc lanes lengths cells lanes' lengths' cells' : Nat → Int32} (h : ShO k lanes lengths cells lanes' lengths' cells') (hj : j < 4) (hjk : j ≠ k) (hs : Sh j ve vl vn cc lanes lengths cells) : Sh j ve vl vn cc lanes' lengths' cells' := by
  obtain ⟨a, b, c⟩ := h j hj hjk
  rcases hs with ⟨h1, h2⟩ | ⟨ln, len, h1, h2, h3, h4, h5, h6, h7, h8⟩
  · exact Or.inl ⟨h1, a.trans h2⟩
  · exact Or.inr ⟨ln, len, h1, h2, h3, h4, h5, a.trans h6, b.trans h7, fun i hi => (h8 i hi).trans (c i hi).symm⟩
theorem ShO_r {k : Nat} {lanes lengths cells : Nat → Int32} : ShO k lanes lengths cells lanes lengths cells := fun _ _ _ => ⟨rfl, rfl, fun _ _ => rfl⟩
section
variable {N : Nat}
theorem sheet_c (x : Int32) : (∃ k, k < 4 ∧ x = jI k ∧ fX8_isSheet N (jI k) = some (jI 1) ∧ fX9_in N (jL k) (jL 0) (jL 3) = some (jI 1)) ∨ ((¬ x = jI 1 ∧ ¬ x = jI 2 ∧ ¬ x = jI 3) ∧ fX8_isSheet N x = some (jI 0) ∧ fX9_in N x.toInt64 (jL 0) (jL 3) = some (jI 0)) := by
  rcases in_c (N := N) x 3 (by omega) with ⟨k, hk, rfl, i1⟩ | ⟨hc, i1⟩
  · refine Or.inl ⟨k, by omega, rfl, ?_, i1⟩
    simp (disch := omega) only [jI_0, jI_1, jI_2, jI_3, jI_4, jI_5, jI_6, jI_7, jI_8, jI_9, jI_10, jI_11, jI_12, jI_13, jI_14, jI_15, jI_16, jI_20, jI_24, jI_26, jI_30, jI_31, jI_32, jI_40, jI_48, jI_56, jI_57, jI_59, jI_60, jI_97, jI_99, jI_122, jI_160, jI_240, jI_255, jI_768, jI_1000, ↓jN_1, ↓jN_2, ↓jN_3, ↓jN_4, ↓jN_8, ↓jN_10, ↓jN_11, ↓jN_12, ↓jN_14, ↓jN_20, jI_addN, jI_le, jI_lt, jI_eq, jI_cl, jI_in, jI_add, jI_sub, jI_eqN, gI_eqI, gI_eqN, gI_leI, gI_ltI, jI_leN, jI_ltN, gI_sub, pif_tt, pif_ff, pg_tt, isB, or_true, true_or, pif_T, pif_F, pg_T, pb_S, upd_e, upd_n, fX8_isSheet, fX8_isSheet_14]
  · rcases hc with hneg | ⟨k, rfl, hk2, hk3⟩
    · refine Or.inr ⟨⟨neg_ne hneg (by omega), neg_ne hneg (by omega), neg_ne hneg (by omega)⟩, ?_, i1⟩
      simp (disch := omega) only [jI_0, jI_1, jI_2, jI_3, jI_4, jI_5, jI_6, jI_7, jI_8, jI_9, jI_10, jI_11, jI_12, jI_13, jI_14, jI_15, jI_16, jI_20, jI_24, jI_26, jI_30, jI_31, jI_32, jI_40, jI_48, jI_56, jI_57, jI_59, jI_60, jI_97, jI_99, jI_122, jI_160, jI_240, jI_255, jI_768, jI_1000, ↓jN_1, ↓jN_2, ↓jN_3, ↓jN_4, ↓jN_8, ↓jN_10, ↓jN_11, ↓jN_12, ↓jN_14, ↓jN_20, jI_addN, jI_le, jI_lt, jI_eq, jI_cl, jI_in, jI_add, jI_sub, jI_eqN, gI_eqI, gI_eqN, gI_leI, gI_ltI, jI_leN, jI_ltN, gI_sub, pif_tt, pif_ff, pg_tt, isB, or_true, true_or, pif_T, pif_F, pg_T, pb_S, upd_e, upd_n, fX8_isSheet, fX8_isSheet_13, fX8_isSheet_14, hneg]
    · refine Or.inr ⟨⟨by rw [jI_eq (by omega) (by omega)]; omega, by rw [jI_eq (by omega) (by omega)]; omega, by rw [jI_eq (by omega) (by omega)]; omega⟩, ?_, i1⟩
      simp (disch := omega) only [jI_0, jI_1, jI_2, jI_3, jI_4, jI_5, jI_6, jI_7, jI_8, jI_9, jI_10, jI_11, jI_12, jI_13, jI_14, jI_15, jI_16, jI_20, jI_24, jI_26, jI_30, jI_31, jI_32, jI_40, jI_48, jI_56, jI_57, jI_59, jI_60, jI_97, jI_99, jI_122, jI_160, jI_240, jI_255, jI_768, jI_1000, ↓jN_1, ↓jN_2, ↓jN_3, ↓jN_4, ↓jN_8, ↓jN_10, ↓jN_11, ↓jN_12, ↓jN_14, ↓jN_20, jI_addN, jI_le, jI_lt, jI_eq, jI_cl, jI_in, jI_add, jI_sub, jI_eqN, gI_eqI, gI_eqN, gI_leI, gI_ltI, jI_leN, jI_ltN, gI_sub, pif_tt, pif_ff, pg_tt, isB, or_true, true_or, pif_T, pif_F, pg_T, pb_S, upd_e, upd_n, fX8_isSheet, fX8_isSheet_13, fX8_isSheet_14]
theorem lane_c (x : Int32) : (∃ k, k < 3 ∧ x = jI k ∧ fX8_isLane N (jI k) = some (jI 1) ∧ fX9_in N (jL k) (jL 0) (jL 2) = some (jI 1)) ∨ (fX8_isLane N x = some (jI 0) ∧ fX9_in N x.toInt64 (jL 0) (jL 2) = some (jI 0)) := by
  rcases in_c (N := N) x 2 (by omega) with ⟨k, hk, rfl, i1⟩ | ⟨hc, i1⟩
  · refine Or.inl ⟨k, by omega, rfl, ?_, i1⟩
    simp (disch := omega) only [jI_0, jI_1, jI_2, jI_3, jI_4, jI_5, jI_6, jI_7, jI_8, jI_9, jI_10, jI_11, jI_12, jI_13, jI_14, jI_15, jI_16, jI_20, jI_24, jI_26, jI_30, jI_31, jI_32, jI_40, jI_48, jI_56, jI_57, jI_59, jI_60, jI_97, jI_99, jI_122, jI_160, jI_240, jI_255, jI_768, jI_1000, ↓jN_1, ↓jN_2, ↓jN_3, ↓jN_4, ↓jN_8, ↓jN_10, ↓jN_11, ↓jN_12, ↓jN_14, ↓jN_20, jI_addN, jI_le, jI_lt, jI_eq, jI_cl, jI_in, jI_add, jI_sub, jI_eqN, gI_eqI, gI_eqN, gI_leI, gI_ltI, jI_leN, jI_ltN, gI_sub, pif_tt, pif_ff, pg_tt, isB, or_true, true_or, pif_T, pif_F, pg_T, pb_S, upd_e, upd_n, fX8_isLane, fX8_isLane_14]
  · rcases hc with hneg | ⟨k, rfl, hk2, hk3⟩
    · refine Or.inr ⟨?_, i1⟩
      simp (disch := omega) only [jI_0, jI_1, jI_2, jI_3, jI_4, jI_5, jI_6, jI_7, jI_8, jI_9, jI_10, jI_11, jI_12, jI_13, jI_14, jI_15, jI_16, jI_20, jI_24, jI_26, jI_30, jI_31, jI_32, jI_40, jI_48, jI_56, jI_57, jI_59, jI_60, jI_97, jI_99, jI_122, jI_160, jI_240, jI_255, jI_768, jI_1000, ↓jN_1, ↓jN_2, ↓jN_3, ↓jN_4, ↓jN_8, ↓jN_10, ↓jN_11, ↓jN_12, ↓jN_14, ↓jN_20, jI_addN, jI_le, jI_lt, jI_eq, jI_cl, jI_in, jI_add, jI_sub, jI_eqN, gI_eqI, gI_eqN, gI_leI, gI_ltI, jI_leN, jI_ltN, gI_sub, pif_tt, pif_ff, pg_tt, isB, or_true, true_or, pif_T, pif_F, pg_T, pb_S, upd_e, upd_n, fX8_isLane, fX8_isLane_13, fX8_isLane_14, hneg]
    · refine Or.inr ⟨?_, i1⟩
      simp (disch := omega) only [jI_0, jI_1, jI_2, jI_3, jI_4, jI_5, jI_6, jI_7, jI_8, jI_9, jI_10, jI_11, jI_12, jI_13, jI_14, jI_15, jI_16, jI_20, jI_24, jI_26, jI_30, jI_31, jI_32, jI_40, jI_48, jI_56, jI_57, jI_59, jI_60, jI_97, jI_99, jI_122, jI_160, jI_240, jI_255, jI_768, jI_1000, ↓jN_1, ↓jN_2, ↓jN_3, ↓jN_4, ↓jN_8, ↓jN_10, ↓jN_11, ↓jN_12, ↓jN_14, ↓jN_20, jI_addN, jI_le, jI_lt, jI_eq, jI_cl, jI_in, jI_add, jI_sub, jI_eqN, gI_eqI, gI_eqN, gI_leI, gI_ltI, jI_leN, jI_ltN, gI_sub, pif_tt, pif_ff, pg_tt, isB, or_true, true_or, pif_T, pif_F, pg_T, pb_S, upd_e, upd_n, fX8_isLane, fX8_isLane_13, fX8_isLane_14]
theorem has_c (x : Int32) {len : Nat} (hl : len ≤ 40) : (∃ i, i < len ∧ x = jI i ∧ fX3_has N (jI len) (jI i) = some (jI 1) ∧ fX9_in N (jL i) (jL 0) (jI len - jI 1).toInt64 = some (jI 1)) ∨ (fX3_has N (jI len) x = some (jI 0) ∧ fX9_in N x.toInt64 (jL 0) (jI len - jI 1).toInt64 = some (jI 0)) := by
  have hm : (jI len - jI 1).toInt64.toInt = (len : Int) - 1 := by rw [Int32.toInt_toInt64, jI_m1, mI_toInt (by omega)]
  rcases cases32 x with ⟨a, ha, rfl⟩ | h
  · have hn0 : ¬ jL a < jL 0 := by rw [jL_lt (by omega) (by omega)]; omega
    have hgt : ((jI len - jI 1).toInt64 < jL a) = (len ≤ a) := by
      rw [Int64.lt_iff_toInt_lt, hm, jL_toInt (by omega), eq_iff_iff]; omega
    by_cases h : a < len
    · refine Or.inl ⟨a, h, rfl, ?_, ?_⟩
      · simp (disch := omega) only [jI_0, jI_1, jI_2, jI_3, jI_4, jI_5, jI_6, jI_7, jI_8, jI_9, jI_10, jI_11, jI_12, jI_13, jI_14, jI_15, jI_16, jI_20, jI_24, jI_26, jI_30, jI_31, jI_32, jI_40, jI_48, jI_56, jI_57, jI_59, jI_60, jI_97, jI_99, jI_122, jI_160, jI_240, jI_255, jI_768, jI_1000, ↓jN_1, ↓jN_2, ↓jN_3, ↓jN_4, ↓jN_8, ↓jN_10, ↓jN_11, ↓jN_12, ↓jN_14, ↓jN_20, jI_addN, jI_le, jI_lt, jI_eq, jI_cl, jI_in, jI_add, jI_sub, jI_eqN, gI_eqI, gI_eqN, gI_leI, gI_ltI, jI_leN, jI_ltN, gI_sub, pif_tt, pif_ff, pg_tt, isB, or_true, true_or, pif_T, pif_F, pg_T, pb_S, upd_e, upd_n, fX3_has, fX3_has_17]
      · have hgt' : ¬ (jI len - jI 1).toInt64 < jL a := by rw [hgt]; omega
        generalize (jI len - jI 1).toInt64 = y at *
        simp (disch := omega) only [jI_0, jI_1, jI_2, jI_3, jI_4, jI_5, jI_6, jI_7, jI_8, jI_9, jI_10, jI_11, jI_12, jI_13, jI_14, jI_15, jI_16, jI_20, jI_24, jI_26, jI_30, jI_31, jI_32, jI_40, jI_48, jI_56, jI_57, jI_59, jI_60, jI_97, jI_99, jI_122, jI_160, jI_240, jI_255, jI_768, jI_1000, ↓jN_1, ↓jN_2, ↓jN_3, ↓jN_4, ↓jN_8, ↓jN_10, ↓jN_11, ↓jN_12, ↓jN_14, ↓jN_20, jI_addN, jI_le, jI_lt, jI_eq, jI_cl, jI_in, jI_add, jI_sub, jI_eqN, gI_eqI, gI_eqN, gI_leI, gI_ltI, jI_leN, jI_ltN, gI_sub, pif_tt, pif_ff, pg_tt, isB, or_true, true_or, pif_T, pif_F, pg_T, pb_S, upd_e, upd_n, fX9_in, fX9_in_17, fX9_in_18, lg_lt, lg_gt, hn0, hgt']
    · refine Or.inr ⟨?_, ?_⟩
      · simp (disch := omega) only [jI_0, jI_1, jI_2, jI_3, jI_4, jI_5, jI_6, jI_7, jI_8, jI_9, jI_10, jI_11, jI_12, jI_13, jI_14, jI_15, jI_16, jI_20, jI_24, jI_26, jI_30, jI_31, jI_32, jI_40, jI_48, jI_56, jI_57, jI_59, jI_60, jI_97, jI_99, jI_122, jI_160, jI_240, jI_255, jI_768, jI_1000, ↓jN_1, ↓jN_2, ↓jN_3, ↓jN_4, ↓jN_8, ↓jN_10, ↓jN_11, ↓jN_12, ↓jN_14, ↓jN_20, jI_addN, jI_le, jI_lt, jI_eq, jI_cl, jI_in, jI_add, jI_sub, jI_eqN, gI_eqI, gI_eqN, gI_leI, gI_ltI, jI_leN, jI_ltN, gI_sub, pif_tt, pif_ff, pg_tt, isB, or_true, true_or, pif_T, pif_F, pg_T, pb_S, upd_e, upd_n, fX3_has, fX3_has_16, fX3_has_17]
      · rw [jI_L ha]
        have hgt' : (jI len - jI 1).toInt64 < jL a := by rw [hgt]; omega
        generalize (jI len - jI 1).toInt64 = y at *
        simp (disch := omega) only [jI_0, jI_1, jI_2, jI_3, jI_4, jI_5, jI_6, jI_7, jI_8, jI_9, jI_10, jI_11, jI_12, jI_13, jI_14, jI_15, jI_16, jI_20, jI_24, jI_26, jI_30, jI_31, jI_32, jI_40, jI_48, jI_56, jI_57, jI_59, jI_60, jI_97, jI_99, jI_122, jI_160, jI_240, jI_255, jI_768, jI_1000, ↓jN_1, ↓jN_2, ↓jN_3, ↓jN_4, ↓jN_8, ↓jN_10, ↓jN_11, ↓jN_12, ↓jN_14, ↓jN_20, jI_addN, jI_le, jI_lt, jI_eq, jI_cl, jI_in, jI_add, jI_sub, jI_eqN, gI_eqI, gI_eqN, gI_leI, gI_ltI, jI_leN, jI_ltN, gI_sub, pif_tt, pif_ff, pg_tt, isB, or_true, true_or, pif_T, pif_F, pg_T, pb_S, upd_e, upd_n, fX9_in, fX9_in_17, fX9_in_18, lg_lt, lg_gt, hn0, hgt']
  · refine Or.inr ⟨?_, inNeg h⟩
    simp (disch := omega) only [jI_0, jI_1, jI_2, jI_3, jI_4, jI_5, jI_6, jI_7, jI_8, jI_9, jI_10, jI_11, jI_12, jI_13, jI_14, jI_15, jI_16, jI_20, jI_24, jI_26, jI_30, jI_31, jI_32, jI_40, jI_48, jI_56, jI_57, jI_59, jI_60, jI_97, jI_99, jI_122, jI_160, jI_240, jI_255, jI_768, jI_1000, ↓jN_1, ↓jN_2, ↓jN_3, ↓jN_4, ↓jN_8, ↓jN_10, ↓jN_11, ↓jN_12, ↓jN_14, ↓jN_20, jI_addN, jI_le, jI_lt, jI_eq, jI_cl, jI_in, jI_add, jI_sub, jI_eqN, gI_eqI, gI_eqN, gI_leI, gI_ltI, jI_leN, jI_ltN, gI_sub, pif_tt, pif_ff, pg_tt, isB, or_true, true_or, pif_T, pif_F, pg_T, pb_S, upd_e, upd_n, fX3_has, fX3_has_16, fX3_has_17, h]
theorem renewX {ve vl vn x1 x2 : Int32} {cc : Nat → Int32} (hN : 100 ≤ N) : ∃ c2, fX3_renew N ve vl vn cc x1 x2 = some (jI 1, x1, x2, c2) ∧ ∀ i, i < 40 → c2 i = jI 0 := by
  have key : Ok (fX3_renew_17 N x1 x2 N (jI 0) (jI 1) x1 x2 cc) (fun q => ∃ c2, q = (jI 1, x1, x2, c2) ∧ ∀ i, i < 40 → c2 i = jI 0) := by
    refine up_ok (fun fu i c => fX3_renew_17 N x1 x2 fu (jI i) (jI 1) x1 x2 c) _ 40 (fun m c => ∀ i, i < m → c i = jI 0) ?_ ?_ N 0 cc (by omega) (by omega) (fun i h => by omega)
    · intro fu i c hi hp ih
      simp (disch := omega) only [jI_0, jI_1, jI_2, jI_3, jI_4, jI_5, jI_6, jI_7, jI_8, jI_9, jI_10, jI_11, jI_12, jI_13, jI_14, jI_15, jI_16, jI_20, jI_24, jI_26, jI_30, jI_31, jI_32, jI_40, jI_48, jI_56, jI_57, jI_59, jI_60, jI_97, jI_99, jI_122, jI_160, jI_240, jI_255, jI_768, jI_1000, ↓jN_1, ↓jN_2, ↓jN_3, ↓jN_4, ↓jN_8, ↓jN_10, ↓jN_11, ↓jN_12, ↓jN_14, ↓jN_20, jI_addN, jI_le, jI_lt, jI_eq, jI_cl, jI_in, jI_add, jI_sub, jI_eqN, gI_eqI, gI_eqN, gI_leI, gI_ltI, jI_leN, jI_ltN, gI_sub, pif_tt, pif_ff, pg_tt, isB, or_true, true_or, pif_T, pif_F, pg_T, pb_S, upd_e, upd_n, fX3_renew_17]
      refine ih _ (fun j hj => ?_)
      by_cases h : j = i
      · rw [upd_e h]
      · rw [upd_n h]; exact hp j (by omega)
    · intro fu c hp
      simp (disch := omega) only [jI_0, jI_1, jI_2, jI_3, jI_4, jI_5, jI_6, jI_7, jI_8, jI_9, jI_10, jI_11, jI_12, jI_13, jI_14, jI_15, jI_16, jI_20, jI_24, jI_26, jI_30, jI_31, jI_32, jI_40, jI_48, jI_56, jI_57, jI_59, jI_60, jI_97, jI_99, jI_122, jI_160, jI_240, jI_255, jI_768, jI_1000, ↓jN_1, ↓jN_2, ↓jN_3, ↓jN_4, ↓jN_8, ↓jN_10, ↓jN_11, ↓jN_12, ↓jN_14, ↓jN_20, jI_addN, jI_le, jI_lt, jI_eq, jI_cl, jI_in, jI_add, jI_sub, jI_eqN, gI_eqI, gI_eqN, gI_leI, gI_ltI, jI_leN, jI_ltN, gI_sub, pif_tt, pif_ff, pg_tt, isB, or_true, true_or, pif_T, pif_F, pg_T, pb_S, upd_e, upd_n, fX3_renew_17]
      exact Ok.s ⟨c, rfl, hp⟩
  obtain ⟨q, e1, c2, rfl, h⟩ := key
  exact ⟨c2, e1, h⟩
theorem sheetM {k : Nat} {x1 x2 x3 : Int32} {c_cells c_lanes c_lengths : Nat → Int32} (hN : 100 ≤ N) (hk : k < 4) : ∃ c2, fX9_sheet_56 N (jI k) x2 x3 N (jI 0) c_cells c_lanes c_lengths = some (jI 1, c2, c_lanes, c_lengths) ∧ (∀ i, i < 40 → c2 (40 * k + i) = jI 0) ∧ ∀ j, (j < 40 * k ∨ 40 * k + 40 ≤ j) → c2 j = c_cells j := by
  have key : Ok (fX9_sheet_56 N (jI k) x2 x3 N (jI 0) c_cells c_lanes c_lengths) (fun q => ∃ c2, q = (jI 1, c2, c_lanes, c_lengths) ∧ (∀ i, i < 40 → c2 (40 * k + i) = jI 0) ∧ ∀ j, (j < 40 * k ∨ 40 * k + 40 ≤ j) → c2 j = c_cells j) := by
    refine up_ok (fun fu i c => fX9_sheet_56 N (jI k) x2 x3 fu (jI i) c c_lanes c_lengths) _ 40 (fun m c => (∀ i, i < m → c (40 * k + i) = jI 0) ∧ ∀ j, (j < 40 * k ∨ 40 * k + 40 ≤ j) → c j = c_cells j) ?_ ?_ N 0 c_cells (by omega) (by omega) ⟨fun i h => by omega, fun _ _ => rfl⟩
    · intro fu i c hi ⟨h1, h2⟩ ih
      simp (disch := omega) only [jI_0, jI_1, jI_2, jI_3, jI_4, jI_5, jI_6, jI_7, jI_8, jI_9, jI_10, jI_11, jI_12, jI_13, jI_14, jI_15, jI_16, jI_20, jI_24, jI_26, jI_30, jI_31, jI_32, jI_40, jI_48, jI_56, jI_57, jI_59, jI_60, jI_97, jI_99, jI_122, jI_160, jI_240, jI_255, jI_768, jI_1000, ↓jN_1, ↓jN_2, ↓jN_3, ↓jN_4, ↓jN_8, ↓jN_10, ↓jN_11, ↓jN_12, ↓jN_14, ↓jN_20, jI_addN, jI_le, jI_lt, jI_eq, jI_cl, jI_in, jI_add, jI_sub, jI_eqN, gI_eqI, gI_eqN, gI_leI, gI_ltI, jI_leN, jI_ltN, gI_sub, pif_tt, pif_ff, pg_tt, isB, or_true, true_or, pif_T, pif_F, pg_T, pb_S, upd_e, upd_n, jL_0, jL_1, jL_2, jL_5, jL_6, jL_15, jL_16, jL_63, jI_mul, jI_L, jL_I, jL_add, jL_sub, jL_mul, fX9_sheet_56]
      refine ih _ ⟨fun j hj => ?_, fun j hj => ?_⟩
      · by_cases h : j = i
        · rw [upd_e (by omega)]
        · rw [upd_n (by omega)]; exact h1 j (by omega)
      · rw [upd_n (by omega)]; exact h2 j hj
    · intro fu c ⟨h1, h2⟩
      simp (disch := omega) only [jI_0, jI_1, jI_2, jI_3, jI_4, jI_5, jI_6, jI_7, jI_8, jI_9, jI_10, jI_11, jI_12, jI_13, jI_14, jI_15, jI_16, jI_20, jI_24, jI_26, jI_30, jI_31, jI_32, jI_40, jI_48, jI_56, jI_57, jI_59, jI_60, jI_97, jI_99, jI_122, jI_160, jI_240, jI_255, jI_768, jI_1000, ↓jN_1, ↓jN_2, ↓jN_3, ↓jN_4, ↓jN_8, ↓jN_10, ↓jN_11, ↓jN_12, ↓jN_14, ↓jN_20, jI_addN, jI_le, jI_lt, jI_eq, jI_cl, jI_in, jI_add, jI_sub, jI_eqN, gI_eqI, gI_eqN, gI_leI, gI_ltI, jI_leN, jI_ltN, gI_sub, pif_tt, pif_ff, pg_tt, isB, or_true, true_or, pif_T, pif_F, pg_T, pb_S, upd_e, upd_n, jL_0, jL_1, jL_2, jL_5, jL_6, jL_15, jL_16, jL_63, jI_mul, jI_L, jL_I, jL_add, jL_sub, jL_mul, fX9_sheet_56]
      exact Ok.s ⟨c, rfl, h1, h2⟩
  obtain ⟨q, e1, c2, rfl, h⟩ := key
  exact ⟨c2, e1, h⟩
theorem c_sheet_0 (x2 x3 : Int32) {ve vl vn : Int32} {cc c_cells c_lanes c_lengths : Nat → Int32} (hN : 100 ≤ N) (hs : Sh 0 ve vl vn cc c_lanes c_lengths c_cells) : Ok (fX8_sheet_s0 N ve vl vn cc (jI 0) x2 x3) (fun a => Ok (fX9_sheet N c_cells c_lanes c_lengths (jI 0) x2 x3) (fun b => a.1 = b.1 ∧ Sh 0 a.2.1 a.2.2.1 a.2.2.2.1 a.2.2.2.2 b.2.2.1 b.2.2.2 b.2.1 ∧ ShO 0 c_lanes c_lengths c_cells b.2.2.1 b.2.2.2 b.2.1)) := by
  rcases sheet_c (N := N) (jI 0) with ⟨k, hk, hx, s1, s2⟩ | ⟨⟨h1, h2, h3⟩, s1, s2⟩
  · rw [jI_eq (by omega) (by omega)] at hx
    subst hx
    rcases lane_c (N := N) x2 with ⟨ln, hln, rfl, l1, l2⟩ | ⟨l1, l2⟩
    · rcases cases32 x3 with ⟨a, ha, rfl⟩ | hneg
      · by_cases h40 : a ≤ 40
        · obtain ⟨c2, e1, h1⟩ := renewX (N := N) (ve := ve) (vl := vl) (vn := vn) (x1 := jI ln) (x2 := jI a) (cc := cc) hN
          obtain ⟨c3, e2, h2, h3⟩ := sheetM (N := N) (k := 0) (x1 := jI 0) (x2 := jI ln) (x3 := jI a) (c_cells := c_cells) (c_lanes := upd c_lanes 0 (jI ln)) (c_lengths := upd c_lengths 0 (jI a)) hN (by omega)
          simp (disch := omega) only [jI_0, jI_1, jI_2, jI_3, jI_4, jI_5, jI_6, jI_7, jI_8, jI_9, jI_10, jI_11, jI_12, jI_13, jI_14, jI_15, jI_16, jI_20, jI_24, jI_26, jI_30, jI_31, jI_32, jI_40, jI_48, jI_56, jI_57, jI_59, jI_60, jI_97, jI_99, jI_122, jI_160, jI_240, jI_255, jI_768, jI_1000, ↓jN_1, ↓jN_2, ↓jN_3, ↓jN_4, ↓jN_8, ↓jN_10, ↓jN_11, ↓jN_12, ↓jN_14, ↓jN_20, jI_addN, jI_le, jI_lt, jI_eq, jI_cl, jI_in, jI_add, jI_sub, jI_eqN, gI_eqI, gI_eqN, gI_leI, gI_ltI, jI_leN, jI_ltN, gI_sub, pif_tt, pif_ff, pg_tt, isB, or_true, true_or, pif_T, pif_F, pg_T, pb_S, upd_e, upd_n, fX8_sheet_s0, s1, l1, e1]
          refine Ok.s ?_
          simp (disch := omega) only [jI_0, jI_1, jI_2, jI_3, jI_4, jI_5, jI_6, jI_7, jI_8, jI_9, jI_10, jI_11, jI_12, jI_13, jI_14, jI_15, jI_16, jI_20, jI_24, jI_26, jI_30, jI_31, jI_32, jI_40, jI_48, jI_56, jI_57, jI_59, jI_60, jI_97, jI_99, jI_122, jI_160, jI_240, jI_255, jI_768, jI_1000, ↓jN_1, ↓jN_2, ↓jN_3, ↓jN_4, ↓jN_8, ↓jN_10, ↓jN_11, ↓jN_12, ↓jN_14, ↓jN_20, jI_addN, jI_le, jI_lt, jI_eq, jI_cl, jI_in, jI_add, jI_sub, jI_eqN, gI_eqI, gI_eqN, gI_leI, gI_ltI, jI_leN, jI_ltN, gI_sub, pif_tt, pif_ff, pg_tt, isB, or_true, true_or, pif_T, pif_F, pg_T, pb_S, upd_e, upd_n, jL_0, jL_1, jL_2, jL_5, jL_6, jL_15, jL_16, jL_63, jI_mul, jI_L, jL_I, jL_add, jL_sub, jL_mul, fX9_sheet, show (3 : Int64) = jL 3 from rfl, s2, l2, e2]
          refine Ok.s ⟨rfl, Or.inr ⟨ln, a, rfl, rfl, rfl, hln, h40, show upd c_lanes 0 (jI ln) 0 = jI ln from upd_e rfl, show upd c_lengths 0 (jI a) 0 = jI a from upd_e rfl, fun i hi => ?_⟩, fun j hj hjk => ⟨show upd c_lanes 0 (jI ln) j = c_lanes j from upd_n hjk, show upd c_lengths 0 (jI a) j = c_lengths j from upd_n hjk, fun i hi => ?_⟩⟩
          · exact (h1 i hi).trans (h2 i hi).symm
          · exact h3 _ (by omega)
        · simp (disch := omega) only [jI_0, jI_1, jI_2, jI_3, jI_4, jI_5, jI_6, jI_7, jI_8, jI_9, jI_10, jI_11, jI_12, jI_13, jI_14, jI_15, jI_16, jI_20, jI_24, jI_26, jI_30, jI_31, jI_32, jI_40, jI_48, jI_56, jI_57, jI_59, jI_60, jI_97, jI_99, jI_122, jI_160, jI_240, jI_255, jI_768, jI_1000, ↓jN_1, ↓jN_2, ↓jN_3, ↓jN_4, ↓jN_8, ↓jN_10, ↓jN_11, ↓jN_12, ↓jN_14, ↓jN_20, jI_addN, jI_le, jI_lt, jI_eq, jI_cl, jI_in, jI_add, jI_sub, jI_eqN, gI_eqI, gI_eqN, gI_leI, gI_ltI, jI_leN, jI_ltN, gI_sub, pif_tt, pif_ff, pg_tt, isB, or_true, true_or, pif_T, pif_F, pg_T, pb_S, upd_e, upd_n, fX8_sheet_s0, fX8_sheet_s0_20, s1, l1]
          refine Ok.s ?_
          simp (disch := omega) only [jI_0, jI_1, jI_2, jI_3, jI_4, jI_5, jI_6, jI_7, jI_8, jI_9, jI_10, jI_11, jI_12, jI_13, jI_14, jI_15, jI_16, jI_20, jI_24, jI_26, jI_30, jI_31, jI_32, jI_40, jI_48, jI_56, jI_57, jI_59, jI_60, jI_97, jI_99, jI_122, jI_160, jI_240, jI_255, jI_768, jI_1000, ↓jN_1, ↓jN_2, ↓jN_3, ↓jN_4, ↓jN_8, ↓jN_10, ↓jN_11, ↓jN_12, ↓jN_14, ↓jN_20, jI_addN, jI_le, jI_lt, jI_eq, jI_cl, jI_in, jI_add, jI_sub, jI_eqN, gI_eqI, gI_eqN, gI_leI, gI_ltI, jI_leN, jI_ltN, gI_sub, pif_tt, pif_ff, pg_tt, isB, or_true, true_or, pif_T, pif_F, pg_T, pb_S, upd_e, upd_n, jL_0, jL_1, jL_2, jL_5, jL_6, jL_15, jL_16, jL_63, jI_mul, jI_L, jL_I, jL_add, jL_sub, jL_mul, fX9_sheet, fX9_sheet_30, show (3 : Int64) = jL 3 from rfl, s2, l2]
          exact Ok.s ⟨rfl, hs, ShO_r⟩
      · have n40 : x3 ≤ jI 40 := by
          rw [Int32.le_iff_toInt_le, jI_toInt (by omega)]
          rw [Int32.lt_iff_toInt_lt, jI_toInt (by omega)] at hneg
          omega
        have n0 : ¬ jI 0 ≤ x3 := by
          rw [Int32.le_iff_toInt_le, jI_toInt (by omega)]
          rw [Int32.lt_iff_toInt_lt, jI_toInt (by omega)] at hneg
          omega
        simp (disch := omega) only [jI_0, jI_1, jI_2, jI_3, jI_4, jI_5, jI_6, jI_7, jI_8, jI_9, jI_10, jI_11, jI_12, jI_13, jI_14, jI_15, jI_16, jI_20, jI_24, jI_26, jI_30, jI_31, jI_32, jI_40, jI_48, jI_56, jI_57, jI_59, jI_60, jI_97, jI_99, jI_122, jI_160, jI_240, jI_255, jI_768, jI_1000, ↓jN_1, ↓jN_2, ↓jN_3, ↓jN_4, ↓jN_8, ↓jN_10, ↓jN_11, ↓jN_12, ↓jN_14, ↓jN_20, jI_addN, jI_le, jI_lt, jI_eq, jI_cl, jI_in, jI_add, jI_sub, jI_eqN, gI_eqI, gI_eqN, gI_leI, gI_ltI, jI_leN, jI_ltN, gI_sub, pif_tt, pif_ff, pg_tt, isB, or_true, true_or, pif_T, pif_F, pg_T, pb_S, upd_e, upd_n, fX8_sheet_s0, s1, l1, n40, n0]
        refine Ok.s ?_
        simp (disch := omega) only [jI_0, jI_1, jI_2, jI_3, jI_4, jI_5, jI_6, jI_7, jI_8, jI_9, jI_10, jI_11, jI_12, jI_13, jI_14, jI_15, jI_16, jI_20, jI_24, jI_26, jI_30, jI_31, jI_32, jI_40, jI_48, jI_56, jI_57, jI_59, jI_60, jI_97, jI_99, jI_122, jI_160, jI_240, jI_255, jI_768, jI_1000, ↓jN_1, ↓jN_2, ↓jN_3, ↓jN_4, ↓jN_8, ↓jN_10, ↓jN_11, ↓jN_12, ↓jN_14, ↓jN_20, jI_addN, jI_le, jI_lt, jI_eq, jI_cl, jI_in, jI_add, jI_sub, jI_eqN, gI_eqI, gI_eqN, gI_leI, gI_ltI, jI_leN, jI_ltN, gI_sub, pif_tt, pif_ff, pg_tt, isB, or_true, true_or, pif_T, pif_F, pg_T, pb_S, upd_e, upd_n, jL_0, jL_1, jL_2, jL_5, jL_6, jL_15, jL_16, jL_63, jI_mul, jI_L, jL_I, jL_add, jL_sub, jL_mul, fX9_sheet, show (3 : Int64) = jL 3 from rfl, s2, l2, n40, n0]
        exact Ok.s ⟨rfl, hs, ShO_r⟩
    · simp (disch := omega) only [jI_0, jI_1, jI_2, jI_3, jI_4, jI_5, jI_6, jI_7, jI_8, jI_9, jI_10, jI_11, jI_12, jI_13, jI_14, jI_15, jI_16, jI_20, jI_24, jI_26, jI_30, jI_31, jI_32, jI_40, jI_48, jI_56, jI_57, jI_59, jI_60, jI_97, jI_99, jI_122, jI_160, jI_240, jI_255, jI_768, jI_1000, ↓jN_1, ↓jN_2, ↓jN_3, ↓jN_4, ↓jN_8, ↓jN_10, ↓jN_11, ↓jN_12, ↓jN_14, ↓jN_20, jI_addN, jI_le, jI_lt, jI_eq, jI_cl, jI_in, jI_add, jI_sub, jI_eqN, gI_eqI, gI_eqN, gI_leI, gI_ltI, jI_leN, jI_ltN, gI_sub, pif_tt, pif_ff, pg_tt, isB, or_true, true_or, pif_T, pif_F, pg_T, pb_S, upd_e, upd_n, fX8_sheet_s0, fX8_sheet_s0_20, s1, l1]
      refine Ok.s ?_
      simp (disch := omega) only [jI_0, jI_1, jI_2, jI_3, jI_4, jI_5, jI_6, jI_7, jI_8, jI_9, jI_10, jI_11, jI_12, jI_13, jI_14, jI_15, jI_16, jI_20, jI_24, jI_26, jI_30, jI_31, jI_32, jI_40, jI_48, jI_56, jI_57, jI_59, jI_60, jI_97, jI_99, jI_122, jI_160, jI_240, jI_255, jI_768, jI_1000, ↓jN_1, ↓jN_2, ↓jN_3, ↓jN_4, ↓jN_8, ↓jN_10, ↓jN_11, ↓jN_12, ↓jN_14, ↓jN_20, jI_addN, jI_le, jI_lt, jI_eq, jI_cl, jI_in, jI_add, jI_sub, jI_eqN, gI_eqI, gI_eqN, gI_leI, gI_ltI, jI_leN, jI_ltN, gI_sub, pif_tt, pif_ff, pg_tt, isB, or_true, true_or, pif_T, pif_F, pg_T, pb_S, upd_e, upd_n, jL_0, jL_1, jL_2, jL_5, jL_6, jL_15, jL_16, jL_63, jI_mul, jI_L, jL_I, jL_add, jL_sub, jL_mul, fX9_sheet, fX9_sheet_30, show (3 : Int64) = jL 3 from rfl, s2, l2]
      exact Ok.s ⟨rfl, hs, ShO_r⟩
  · have : fX8_isSheet N (jI 0) = some (jI 1) := by
      simp (disch := omega) only [jI_0, jI_1, jI_2, jI_3, jI_4, jI_5, jI_6, jI_7, jI_8, jI_9, jI_10, jI_11, jI_12, jI_13, jI_14, jI_15, jI_16, jI_20, jI_24, jI_26, jI_30, jI_31, jI_32, jI_40, jI_48, jI_56, jI_57, jI_59, jI_60, jI_97, jI_99, jI_122, jI_160, jI_240, jI_255, jI_768, jI_1000, ↓jN_1, ↓jN_2, ↓jN_3, ↓jN_4, ↓jN_8, ↓jN_10, ↓jN_11, ↓jN_12, ↓jN_14, ↓jN_20, jI_addN, jI_le, jI_lt, jI_eq, jI_cl, jI_in, jI_add, jI_sub, jI_eqN, gI_eqI, gI_eqN, gI_leI, gI_ltI, jI_leN, jI_ltN, gI_sub, pif_tt, pif_ff, pg_tt, isB, or_true, true_or, pif_T, pif_F, pg_T, pb_S, upd_e, upd_n, fX8_isSheet, fX8_isSheet_14]
    rw [this] at s1
    have := Option.some.inj s1
    rw [jI_eq (by omega) (by omega)] at this
    omega
theorem c_sheet_1 (x2 x3 : Int32) {ve vl vn : Int32} {cc c_cells c_lanes c_lengths : Nat → Int32} (hN : 100 ≤ N) (hs : Sh 1 ve vl vn cc c_lanes c_lengths c_cells) : Ok (fX8_sheet_s1 N ve vl vn cc (jI 1) x2 x3) (fun a => Ok (fX9_sheet N c_cells c_lanes c_lengths (jI 1) x2 x3) (fun b => a.1 = b.1 ∧ Sh 1 a.2.1 a.2.2.1 a.2.2.2.1 a.2.2.2.2 b.2.2.1 b.2.2.2 b.2.1 ∧ ShO 1 c_lanes c_lengths c_cells b.2.2.1 b.2.2.2 b.2.1)) := by
  rcases sheet_c (N := N) (jI 1) with ⟨k, hk, hx, s1, s2⟩ | ⟨⟨h1, h2, h3⟩, s1, s2⟩
  · rw [jI_eq (by omega) (by omega)] at hx
    subst hx
    rcases lane_c (N := N) x2 with ⟨ln, hln, rfl, l1, l2⟩ | ⟨l1, l2⟩
    · rcases cases32 x3 with ⟨a, ha, rfl⟩ | hneg
      · by_cases h40 : a ≤ 40
        · obtain ⟨c2, e1, h1⟩ := renewX (N := N) (ve := ve) (vl := vl) (vn := vn) (x1 := jI ln) (x2 := jI a) (cc := cc) hN
          obtain ⟨c3, e2, h2, h3⟩ := sheetM (N := N) (k := 1) (x1 := jI 1) (x2 := jI ln) (x3 := jI a) (c_cells := c_cells) (c_lanes := upd c_lanes 1 (jI ln)) (c_lengths := upd c_lengths 1 (jI a)) hN (by omega)
          simp (disch := omega) only [jI_0, jI_1, jI_2, jI_3, jI_4, jI_5, jI_6, jI_7, jI_8, jI_9, jI_10, jI_11, jI_12, jI_13, jI_14, jI_15, jI_16, jI_20, jI_24, jI_26, jI_30, jI_31, jI_32, jI_40, jI_48, jI_56, jI_57, jI_59, jI_60, jI_97, jI_99, jI_122, jI_160, jI_240, jI_255, jI_768, jI_1000, ↓jN_1, ↓jN_2, ↓jN_3, ↓jN_4, ↓jN_8, ↓jN_10, ↓jN_11, ↓jN_12, ↓jN_14, ↓jN_20, jI_addN, jI_le, jI_lt, jI_eq, jI_cl, jI_in, jI_add, jI_sub, jI_eqN, gI_eqI, gI_eqN, gI_leI, gI_ltI, jI_leN, jI_ltN, gI_sub, pif_tt, pif_ff, pg_tt, isB, or_true, true_or, pif_T, pif_F, pg_T, pb_S, upd_e, upd_n, fX8_sheet_s1, s1, l1, e1]
          refine Ok.s ?_
          simp (disch := omega) only [jI_0, jI_1, jI_2, jI_3, jI_4, jI_5, jI_6, jI_7, jI_8, jI_9, jI_10, jI_11, jI_12, jI_13, jI_14, jI_15, jI_16, jI_20, jI_24, jI_26, jI_30, jI_31, jI_32, jI_40, jI_48, jI_56, jI_57, jI_59, jI_60, jI_97, jI_99, jI_122, jI_160, jI_240, jI_255, jI_768, jI_1000, ↓jN_1, ↓jN_2, ↓jN_3, ↓jN_4, ↓jN_8, ↓jN_10, ↓jN_11, ↓jN_12, ↓jN_14, ↓jN_20, jI_addN, jI_le, jI_lt, jI_eq, jI_cl, jI_in, jI_add, jI_sub, jI_eqN, gI_eqI, gI_eqN, gI_leI, gI_ltI, jI_leN, jI_ltN, gI_sub, pif_tt, pif_ff, pg_tt, isB, or_true, true_or, pif_T, pif_F, pg_T, pb_S, upd_e, upd_n, jL_0, jL_1, jL_2, jL_5, jL_6, jL_15, jL_16, jL_63, jI_mul, jI_L, jL_I, jL_add, jL_sub, jL_mul, fX9_sheet, show (3 : Int64) = jL 3 from rfl, s2, l2, e2]
          refine Ok.s ⟨rfl, Or.inr ⟨ln, a, rfl, rfl, rfl, hln, h40, show upd c_lanes 1 (jI ln) 1 = jI ln from upd_e rfl, show upd c_lengths 1 (jI a) 1 = jI a from upd_e rfl, fun i hi => ?_⟩, fun j hj hjk => ⟨show upd c_lanes 1 (jI ln) j = c_lanes j from upd_n hjk, show upd c_lengths 1 (jI a) j = c_lengths j from upd_n hjk, fun i hi => ?_⟩⟩
          · exact (h1 i hi).trans (h2 i hi).symm
          · exact h3 _ (by omega)
        · simp (disch := omega) only [jI_0, jI_1, jI_2, jI_3, jI_4, jI_5, jI_6, jI_7, jI_8, jI_9, jI_10, jI_11, jI_12, jI_13, jI_14, jI_15, jI_16, jI_20, jI_24, jI_26, jI_30, jI_31, jI_32, jI_40, jI_48, jI_56, jI_57, jI_59, jI_60, jI_97, jI_99, jI_122, jI_160, jI_240, jI_255, jI_768, jI_1000, ↓jN_1, ↓jN_2, ↓jN_3, ↓jN_4, ↓jN_8, ↓jN_10, ↓jN_11, ↓jN_12, ↓jN_14, ↓jN_20, jI_addN, jI_le, jI_lt, jI_eq, jI_cl, jI_in, jI_add, jI_sub, jI_eqN, gI_eqI, gI_eqN, gI_leI, gI_ltI, jI_leN, jI_ltN, gI_sub, pif_tt, pif_ff, pg_tt, isB, or_true, true_or, pif_T, pif_F, pg_T, pb_S, upd_e, upd_n, fX8_sheet_s1, fX8_sheet_s1_20, s1, l1]
          refine Ok.s ?_
          simp (disch := omega) only [jI_0, jI_1, jI_2, jI_3, jI_4, jI_5, jI_6, jI_7, jI_8, jI_9, jI_10, jI_11, jI_12, jI_13, jI_14, jI_15, jI_16, jI_20, jI_24, jI_26, jI_30, jI_31, jI_32, jI_40, jI_48, jI_56, jI_57, jI_59, jI_60, jI_97, jI_99, jI_122, jI_160, jI_240, jI_255, jI_768, jI_1000, ↓jN_1, ↓jN_2, ↓jN_3, ↓jN_4, ↓jN_8, ↓jN_10, ↓jN_11, ↓jN_12, ↓jN_14, ↓jN_20, jI_addN, jI_le, jI_lt, jI_eq, jI_cl, jI_in, jI_add, jI_sub, jI_eqN, gI_eqI, gI_eqN, gI_leI, gI_ltI, jI_leN, jI_ltN, gI_sub, pif_tt, pif_ff, pg_tt, isB, or_true, true_or, pif_T, pif_F, pg_T, pb_S, upd_e, upd_n, jL_0, jL_1, jL_2, jL_5, jL_6, jL_15, jL_16, jL_63, jI_mul, jI_L, jL_I, jL_add, jL_sub, jL_mul, fX9_sheet, fX9_sheet_30, show (3 : Int64) = jL 3 from rfl, s2, l2]
          exact Ok.s ⟨rfl, hs, ShO_r⟩
      · have n40 : x3 ≤ jI 40 := by
          rw [Int32.le_iff_toInt_le, jI_toInt (by omega)]
          rw [Int32.lt_iff_toInt_lt, jI_toInt (by omega)] at hneg
          omega
        have n0 : ¬ jI 0 ≤ x3 := by
          rw [Int32.le_iff_toInt_le, jI_toInt (by omega)]
          rw [Int32.lt_iff_toInt_lt, jI_toInt (by omega)] at hneg
          omega
        simp (disch := omega) only [jI_0, jI_1, jI_2, jI_3, jI_4, jI_5, jI_6, jI_7, jI_8, jI_9, jI_10, jI_11, jI_12, jI_13, jI_14, jI_15, jI_16, jI_20, jI_24, jI_26, jI_30, jI_31, jI_32, jI_40, jI_48, jI_56, jI_57, jI_59, jI_60, jI_97, jI_99, jI_122, jI_160, jI_240, jI_255, jI_768, jI_1000, ↓jN_1, ↓jN_2, ↓jN_3, ↓jN_4, ↓jN_8, ↓jN_10, ↓jN_11, ↓jN_12, ↓jN_14, ↓jN_20, jI_addN, jI_le, jI_lt, jI_eq, jI_cl, jI_in, jI_add, jI_sub, jI_eqN, gI_eqI, gI_eqN, gI_leI, gI_ltI, jI_leN, jI_ltN, gI_sub, pif_tt, pif_ff, pg_tt, isB, or_true, true_or, pif_T, pif_F, pg_T, pb_S, upd_e, upd_n, fX8_sheet_s1, s1, l1, n40, n0]
        refine Ok.s ?_
        simp (disch := omega) only [jI_0, jI_1, jI_2, jI_3, jI_4, jI_5, jI_6, jI_7, jI_8, jI_9, jI_10, jI_11, jI_12, jI_13, jI_14, jI_15, jI_16, jI_20, jI_24, jI_26, jI_30, jI_31, jI_32, jI_40, jI_48, jI_56, jI_57, jI_59, jI_60, jI_97, jI_99, jI_122, jI_160, jI_240, jI_255, jI_768, jI_1000, ↓jN_1, ↓jN_2, ↓jN_3, ↓jN_4, ↓jN_8, ↓jN_10, ↓jN_11, ↓jN_12, ↓jN_14, ↓jN_20, jI_addN, jI_le, jI_lt, jI_eq, jI_cl, jI_in, jI_add, jI_sub, jI_eqN, gI_eqI, gI_eqN, gI_leI, gI_ltI, jI_leN, jI_ltN, gI_sub, pif_tt, pif_ff, pg_tt, isB, or_true, true_or, pif_T, pif_F, pg_T, pb_S, upd_e, upd_n, jL_0, jL_1, jL_2, jL_5, jL_6, jL_15, jL_16, jL_63, jI_mul, jI_L, jL_I, jL_add, jL_sub, jL_mul, fX9_sheet, show (3 : Int64) = jL 3 from rfl, s2, l2, n40, n0]
        exact Ok.s ⟨rfl, hs, ShO_r⟩
    · simp (disch := omega) only [jI_0, jI_1, jI_2, jI_3, jI_4, jI_5, jI_6, jI_7, jI_8, jI_9, jI_10, jI_11, jI_12, jI_13, jI_14, jI_15, jI_16, jI_20, jI_24, jI_26, jI_30, jI_31, jI_32, jI_40, jI_48, jI_56, jI_57, jI_59, jI_60, jI_97, jI_99, jI_122, jI_160, jI_240, jI_255, jI_768, jI_1000, ↓jN_1, ↓jN_2, ↓jN_3, ↓jN_4, ↓jN_8, ↓jN_10, ↓jN_11, ↓jN_12, ↓jN_14, ↓jN_20, jI_addN, jI_le, jI_lt, jI_eq, jI_cl, jI_in, jI_add, jI_sub, jI_eqN, gI_eqI, gI_eqN, gI_leI, gI_ltI, jI_leN, jI_ltN, gI_sub, pif_tt, pif_ff, pg_tt, isB, or_true, true_or, pif_T, pif_F, pg_T, pb_S, upd_e, upd_n, fX8_sheet_s1, fX8_sheet_s1_20, s1, l1]
      refine Ok.s ?_
      simp (disch := omega) only [jI_0, jI_1, jI_2, jI_3, jI_4, jI_5, jI_6, jI_7, jI_8, jI_9, jI_10, jI_11, jI_12, jI_13, jI_14, jI_15, jI_16, jI_20, jI_24, jI_26, jI_30, jI_31, jI_32, jI_40, jI_48, jI_56, jI_57, jI_59, jI_60, jI_97, jI_99, jI_122, jI_160, jI_240, jI_255, jI_768, jI_1000, ↓jN_1, ↓jN_2, ↓jN_3, ↓jN_4, ↓jN_8, ↓jN_10, ↓jN_11, ↓jN_12, ↓jN_14, ↓jN_20, jI_addN, jI_le, jI_lt, jI_eq, jI_cl, jI_in, jI_add, jI_sub, jI_eqN, gI_eqI, gI_eqN, gI_leI, gI_ltI, jI_leN, jI_ltN, gI_sub, pif_tt, pif_ff, pg_tt, isB, or_true, true_or, pif_T, pif_F, pg_T, pb_S, upd_e, upd_n, jL_0, jL_1, jL_2, jL_5, jL_6, jL_15, jL_16, jL_63, jI_mul, jI_L, jL_I, jL_add, jL_sub, jL_mul, fX9_sheet, fX9_sheet_30, show (3 : Int64) = jL 3 from rfl, s2, l2]
      exact Ok.s ⟨rfl, hs, ShO_r⟩
  · have : fX8_isSheet N (jI 1) = some (jI 1) := by
      simp (disch := omega) only [jI_0, jI_1, jI_2, jI_3, jI_4, jI_5, jI_6, jI_7, jI_8, jI_9, jI_10, jI_11, jI_12, jI_13, jI_14, jI_15, jI_16, jI_20, jI_24, jI_26, jI_30, jI_31, jI_32, jI_40, jI_48, jI_56, jI_57, jI_59, jI_60, jI_97, jI_99, jI_122, jI_160, jI_240, jI_255, jI_768, jI_1000, ↓jN_1, ↓jN_2, ↓jN_3, ↓jN_4, ↓jN_8, ↓jN_10, ↓jN_11, ↓jN_12, ↓jN_14, ↓jN_20, jI_addN, jI_le, jI_lt, jI_eq, jI_cl, jI_in, jI_add, jI_sub, jI_eqN, gI_eqI, gI_eqN, gI_leI, gI_ltI, jI_leN, jI_ltN, gI_sub, pif_tt, pif_ff, pg_tt, isB, or_true, true_or, pif_T, pif_F, pg_T, pb_S, upd_e, upd_n, fX8_isSheet, fX8_isSheet_14]
    rw [this] at s1
    have := Option.some.inj s1
    rw [jI_eq (by omega) (by omega)] at this
    omega
theorem c_sheet_2 (x2 x3 : Int32) {ve vl vn : Int32} {cc c_cells c_lanes c_lengths : Nat → Int32} (hN : 100 ≤ N) (hs : Sh 2 ve vl vn cc c_lanes c_lengths c_cells) : Ok (fX8_sheet_s2 N ve vl vn cc (jI 2) x2 x3) (fun a => Ok (fX9_sheet N c_cells c_lanes c_lengths (jI 2) x2 x3) (fun b => a.1 = b.1 ∧ Sh 2 a.2.1 a.2.2.1 a.2.2.2.1 a.2.2.2.2 b.2.2.1 b.2.2.2 b.2.1 ∧ ShO 2 c_lanes c_lengths c_cells b.2.2.1 b.2.2.2 b.2.1)) := by
  rcases sheet_c (N := N) (jI 2) with ⟨k, hk, hx, s1, s2⟩ | ⟨⟨h1, h2, h3⟩, s1, s2⟩
  · rw [jI_eq (by omega) (by omega)] at hx
    subst hx
    rcases lane_c (N := N) x2 with ⟨ln, hln, rfl, l1, l2⟩ | ⟨l1, l2⟩
    · rcases cases32 x3 with ⟨a, ha, rfl⟩ | hneg
      · by_cases h40 : a ≤ 40
        · obtain ⟨c2, e1, h1⟩ := renewX (N := N) (ve := ve) (vl := vl) (vn := vn) (x1 := jI ln) (x2 := jI a) (cc := cc) hN
          obtain ⟨c3, e2, h2, h3⟩ := sheetM (N := N) (k := 2) (x1 := jI 2) (x2 := jI ln) (x3 := jI a) (c_cells := c_cells) (c_lanes := upd c_lanes 2 (jI ln)) (c_lengths := upd c_lengths 2 (jI a)) hN (by omega)
          simp (disch := omega) only [jI_0, jI_1, jI_2, jI_3, jI_4, jI_5, jI_6, jI_7, jI_8, jI_9, jI_10, jI_11, jI_12, jI_13, jI_14, jI_15, jI_16, jI_20, jI_24, jI_26, jI_30, jI_31, jI_32, jI_40, jI_48, jI_56, jI_57, jI_59, jI_60, jI_97, jI_99, jI_122, jI_160, jI_240, jI_255, jI_768, jI_1000, ↓jN_1, ↓jN_2, ↓jN_3, ↓jN_4, ↓jN_8, ↓jN_10, ↓jN_11, ↓jN_12, ↓jN_14, ↓jN_20, jI_addN, jI_le, jI_lt, jI_eq, jI_cl, jI_in, jI_add, jI_sub, jI_eqN, gI_eqI, gI_eqN, gI_leI, gI_ltI, jI_leN, jI_ltN, gI_sub, pif_tt, pif_ff, pg_tt, isB, or_true, true_or, pif_T, pif_F, pg_T, pb_S, upd_e, upd_n, fX8_sheet_s2, s1, l1, e1]
          refine Ok.s ?_
          simp (disch := omega) only [jI_0, jI_1, jI_2, jI_3, jI_4, jI_5, jI_6, jI_7, jI_8, jI_9, jI_10, jI_11, jI_12, jI_13, jI_14, jI_15, jI_16, jI_20, jI_24, jI_26, jI_30, jI_31, jI_32, jI_40, jI_48, jI_56, jI_57, jI_59, jI_60, jI_97, jI_99, jI_122, jI_160, jI_240, jI_255, jI_768, jI_1000, ↓jN_1, ↓jN_2, ↓jN_3, ↓jN_4, ↓jN_8, ↓jN_10, ↓jN_11, ↓jN_12, ↓jN_14, ↓jN_20, jI_addN, jI_le, jI_lt, jI_eq, jI_cl, jI_in, jI_add, jI_sub, jI_eqN, gI_eqI, gI_eqN, gI_leI, gI_ltI, jI_leN, jI_ltN, gI_sub, pif_tt, pif_ff, pg_tt, isB, or_true, true_or, pif_T, pif_F, pg_T, pb_S, upd_e, upd_n, jL_0, jL_1, jL_2, jL_5, jL_6, jL_15, jL_16, jL_63, jI_mul, jI_L, jL_I, jL_add, jL_sub, jL_mul, fX9_sheet, show (3 : Int64) = jL 3 from rfl, s2, l2, e2]
          refine Ok.s ⟨rfl, Or.inr ⟨ln, a, rfl, rfl, rfl, hln, h40, show upd c_lanes 2 (jI ln) 2 = jI ln from upd_e rfl, show upd c_lengths 2 (jI a) 2 = jI a from upd_e rfl, fun i hi => ?_⟩, fun j hj hjk => ⟨show upd c_lanes 2 (jI ln) j = c_lanes j from upd_n hjk, show upd c_lengths 2 (jI a) j = c_lengths j from upd_n hjk, fun i hi => ?_⟩⟩
          · exact (h1 i hi).trans (h2 i hi).symm
          · exact h3 _ (by omega)
        · simp (disch := omega) only [jI_0, jI_1, jI_2, jI_3, jI_4, jI_5, jI_6, jI_7, jI_8, jI_9, jI_10, jI_11, jI_12, jI_13, jI_14, jI_15, jI_16, jI_20, jI_24, jI_26, jI_30, jI_31, jI_32, jI_40, jI_48, jI_56, jI_57, jI_59, jI_60, jI_97, jI_99, jI_122, jI_160, jI_240, jI_255, jI_768, jI_1000, ↓jN_1, ↓jN_2, ↓jN_3, ↓jN_4, ↓jN_8, ↓jN_10, ↓jN_11, ↓jN_12, ↓jN_14, ↓jN_20, jI_addN, jI_le, jI_lt, jI_eq, jI_cl, jI_in, jI_add, jI_sub, jI_eqN, gI_eqI, gI_eqN, gI_leI, gI_ltI, jI_leN, jI_ltN, gI_sub, pif_tt, pif_ff, pg_tt, isB, or_true, true_or, pif_T, pif_F, pg_T, pb_S, upd_e, upd_n, fX8_sheet_s2, fX8_sheet_s2_20, s1, l1]
          refine Ok.s ?_
          simp (disch := omega) only [jI_0, jI_1, jI_2, jI_3, jI_4, jI_5, jI_6, jI_7, jI_8, jI_9, jI_10, jI_11, jI_12, jI_13, jI_14, jI_15, jI_16, jI_20, jI_24, jI_26, jI_30, jI_31, jI_32, jI_40, jI_48, jI_56, jI_57, jI_59, jI_60, jI_97, jI_99, jI_122, jI_160, jI_240, jI_255, jI_768, jI_1000, ↓jN_1, ↓jN_2, ↓jN_3, ↓jN_4, ↓jN_8, ↓jN_10, ↓jN_11, ↓jN_12, ↓jN_14, ↓jN_20, jI_addN, jI_le, jI_lt, jI_eq, jI_cl, jI_in, jI_add, jI_sub, jI_eqN, gI_eqI, gI_eqN, gI_leI, gI_ltI, jI_leN, jI_ltN, gI_sub, pif_tt, pif_ff, pg_tt, isB, or_true, true_or, pif_T, pif_F, pg_T, pb_S, upd_e, upd_n, jL_0, jL_1, jL_2, jL_5, jL_6, jL_15, jL_16, jL_63, jI_mul, jI_L, jL_I, jL_add, jL_sub, jL_mul, fX9_sheet, fX9_sheet_30, show (3 : Int64) = jL 3 from rfl, s2, l2]
          exact Ok.s ⟨rfl, hs, ShO_r⟩
      · have n40 : x3 ≤ jI 40 := by
          rw [Int32.le_iff_toInt_le, jI_toInt (by omega)]
          rw [Int32.lt_iff_toInt_lt, jI_toInt (by omega)] at hneg
          omega
        have n0 : ¬ jI 0 ≤ x3 := by
          rw [Int32.le_iff_toInt_le, jI_toInt (by omega)]
          rw [Int32.lt_iff_toInt_lt, jI_toInt (by omega)] at hneg
          omega
        simp (disch := omega) only [jI_0, jI_1, jI_2, jI_3, jI_4, jI_5, jI_6, jI_7, jI_8, jI_9, jI_10, jI_11, jI_12, jI_13, jI_14, jI_15, jI_16, jI_20, jI_24, jI_26, jI_30, jI_31, jI_32, jI_40, jI_48, jI_56, jI_57, jI_59, jI_60, jI_97, jI_99, jI_122, jI_160, jI_240, jI_255, jI_768, jI_1000, ↓jN_1, ↓jN_2, ↓jN_3, ↓jN_4, ↓jN_8, ↓jN_10, ↓jN_11, ↓jN_12, ↓jN_14, ↓jN_20, jI_addN, jI_le, jI_lt, jI_eq, jI_cl, jI_in, jI_add, jI_sub, jI_eqN, gI_eqI, gI_eqN, gI_leI, gI_ltI, jI_leN, jI_ltN, gI_sub, pif_tt, pif_ff, pg_tt, isB, or_true, true_or, pif_T, pif_F, pg_T, pb_S, upd_e, upd_n, fX8_sheet_s2, s1, l1, n40, n0]
        refine Ok.s ?_
        simp (disch := omega) only [jI_0, jI_1, jI_2, jI_3, jI_4, jI_5, jI_6, jI_7, jI_8, jI_9, jI_10, jI_11, jI_12, jI_13, jI_14, jI_15, jI_16, jI_20, jI_24, jI_26, jI_30, jI_31, jI_32, jI_40, jI_48, jI_56, jI_57, jI_59, jI_60, jI_97, jI_99, jI_122, jI_160, jI_240, jI_255, jI_768, jI_1000, ↓jN_1, ↓jN_2, ↓jN_3, ↓jN_4, ↓jN_8, ↓jN_10, ↓jN_11, ↓jN_12, ↓jN_14, ↓jN_20, jI_addN, jI_le, jI_lt, jI_eq, jI_cl, jI_in, jI_add, jI_sub, jI_eqN, gI_eqI, gI_eqN, gI_leI, gI_ltI, jI_leN, jI_ltN, gI_sub, pif_tt, pif_ff, pg_tt, isB, or_true, true_or, pif_T, pif_F, pg_T, pb_S, upd_e, upd_n, jL_0, jL_1, jL_2, jL_5, jL_6, jL_15, jL_16, jL_63, jI_mul, jI_L, jL_I, jL_add, jL_sub, jL_mul, fX9_sheet, show (3 : Int64) = jL 3 from rfl, s2, l2, n40, n0]
        exact Ok.s ⟨rfl, hs, ShO_r⟩
    · simp (disch := omega) only [jI_0, jI_1, jI_2, jI_3, jI_4, jI_5, jI_6, jI_7, jI_8, jI_9, jI_10, jI_11, jI_12, jI_13, jI_14, jI_15, jI_16, jI_20, jI_24, jI_26, jI_30, jI_31, jI_32, jI_40, jI_48, jI_56, jI_57, jI_59, jI_60, jI_97, jI_99, jI_122, jI_160, jI_240, jI_255, jI_768, jI_1000, ↓jN_1, ↓jN_2, ↓jN_3, ↓jN_4, ↓jN_8, ↓jN_10, ↓jN_11, ↓jN_12, ↓jN_14, ↓jN_20, jI_addN, jI_le, jI_lt, jI_eq, jI_cl, jI_in, jI_add, jI_sub, jI_eqN, gI_eqI, gI_eqN, gI_leI, gI_ltI, jI_leN, jI_ltN, gI_sub, pif_tt, pif_ff, pg_tt, isB, or_true, true_or, pif_T, pif_F, pg_T, pb_S, upd_e, upd_n, fX8_sheet_s2, fX8_sheet_s2_20, s1, l1]
      refine Ok.s ?_
      simp (disch := omega) only [jI_0, jI_1, jI_2, jI_3, jI_4, jI_5, jI_6, jI_7, jI_8, jI_9, jI_10, jI_11, jI_12, jI_13, jI_14, jI_15, jI_16, jI_20, jI_24, jI_26, jI_30, jI_31, jI_32, jI_40, jI_48, jI_56, jI_57, jI_59, jI_60, jI_97, jI_99, jI_122, jI_160, jI_240, jI_255, jI_768, jI_1000, ↓jN_1, ↓jN_2, ↓jN_3, ↓jN_4, ↓jN_8, ↓jN_10, ↓jN_11, ↓jN_12, ↓jN_14, ↓jN_20, jI_addN, jI_le, jI_lt, jI_eq, jI_cl, jI_in, jI_add, jI_sub, jI_eqN, gI_eqI, gI_eqN, gI_leI, gI_ltI, jI_leN, jI_ltN, gI_sub, pif_tt, pif_ff, pg_tt, isB, or_true, true_or, pif_T, pif_F, pg_T, pb_S, upd_e, upd_n, jL_0, jL_1, jL_2, jL_5, jL_6, jL_15, jL_16, jL_63, jI_mul, jI_L, jL_I, jL_add, jL_sub, jL_mul, fX9_sheet, fX9_sheet_30, show (3 : Int64) = jL 3 from rfl, s2, l2]
      exact Ok.s ⟨rfl, hs, ShO_r⟩
  · have : fX8_isSheet N (jI 2) = some (jI 1) := by
      simp (disch := omega) only [jI_0, jI_1, jI_2, jI_3, jI_4, jI_5, jI_6, jI_7, jI_8, jI_9, jI_10, jI_11, jI_12, jI_13, jI_14, jI_15, jI_16, jI_20, jI_24, jI_26, jI_30, jI_31, jI_32, jI_40, jI_48, jI_56, jI_57, jI_59, jI_60, jI_97, jI_99, jI_122, jI_160, jI_240, jI_255, jI_768, jI_1000, ↓jN_1, ↓jN_2, ↓jN_3, ↓jN_4, ↓jN_8, ↓jN_10, ↓jN_11, ↓jN_12, ↓jN_14, ↓jN_20, jI_addN, jI_le, jI_lt, jI_eq, jI_cl, jI_in, jI_add, jI_sub, jI_eqN, gI_eqI, gI_eqN, gI_leI, gI_ltI, jI_leN, jI_ltN, gI_sub, pif_tt, pif_ff, pg_tt, isB, or_true, true_or, pif_T, pif_F, pg_T, pb_S, upd_e, upd_n, fX8_isSheet, fX8_isSheet_14]
    rw [this] at s1
    have := Option.some.inj s1
    rw [jI_eq (by omega) (by omega)] at this
    omega
theorem c_sheet_3 (x2 x3 : Int32) {ve vl vn : Int32} {cc c_cells c_lanes c_lengths : Nat → Int32} (hN : 100 ≤ N) (hs : Sh 3 ve vl vn cc c_lanes c_lengths c_cells) : Ok (fX8_sheet_s3 N ve vl vn cc (jI 3) x2 x3) (fun a => Ok (fX9_sheet N c_cells c_lanes c_lengths (jI 3) x2 x3) (fun b => a.1 = b.1 ∧ Sh 3 a.2.1 a.2.2.1 a.2.2.2.1 a.2.2.2.2 b.2.2.1 b.2.2.2 b.2.1 ∧ ShO 3 c_lanes c_lengths c_cells b.2.2.1 b.2.2.2 b.2.1)) := by
  rcases sheet_c (N := N) (jI 3) with ⟨k, hk, hx, s1, s2⟩ | ⟨⟨h1, h2, h3⟩, s1, s2⟩
  · rw [jI_eq (by omega) (by omega)] at hx
    subst hx
    rcases lane_c (N := N) x2 with ⟨ln, hln, rfl, l1, l2⟩ | ⟨l1, l2⟩
    · rcases cases32 x3 with ⟨a, ha, rfl⟩ | hneg
      · by_cases h40 : a ≤ 40
        · obtain ⟨c2, e1, h1⟩ := renewX (N := N) (ve := ve) (vl := vl) (vn := vn) (x1 := jI ln) (x2 := jI a) (cc := cc) hN
          obtain ⟨c3, e2, h2, h3⟩ := sheetM (N := N) (k := 3) (x1 := jI 3) (x2 := jI ln) (x3 := jI a) (c_cells := c_cells) (c_lanes := upd c_lanes 3 (jI ln)) (c_lengths := upd c_lengths 3 (jI a)) hN (by omega)
          simp (disch := omega) only [jI_0, jI_1, jI_2, jI_3, jI_4, jI_5, jI_6, jI_7, jI_8, jI_9, jI_10, jI_11, jI_12, jI_13, jI_14, jI_15, jI_16, jI_20, jI_24, jI_26, jI_30, jI_31, jI_32, jI_40, jI_48, jI_56, jI_57, jI_59, jI_60, jI_97, jI_99, jI_122, jI_160, jI_240, jI_255, jI_768, jI_1000, ↓jN_1, ↓jN_2, ↓jN_3, ↓jN_4, ↓jN_8, ↓jN_10, ↓jN_11, ↓jN_12, ↓jN_14, ↓jN_20, jI_addN, jI_le, jI_lt, jI_eq, jI_cl, jI_in, jI_add, jI_sub, jI_eqN, gI_eqI, gI_eqN, gI_leI, gI_ltI, jI_leN, jI_ltN, gI_sub, pif_tt, pif_ff, pg_tt, isB, or_true, true_or, pif_T, pif_F, pg_T, pb_S, upd_e, upd_n, fX8_sheet_s3, s1, l1, e1]
          refine Ok.s ?_
          simp (disch := omega) only [jI_0, jI_1, jI_2, jI_3, jI_4, jI_5, jI_6, jI_7, jI_8, jI_9, jI_10, jI_11, jI_12, jI_13, jI_14, jI_15, jI_16, jI_20, jI_24, jI_26, jI_30, jI_31, jI_32, jI_40, jI_48, jI_56, jI_57, jI_59, jI_60, jI_97, jI_99, jI_122, jI_160, jI_240, jI_255, jI_768, jI_1000, ↓jN_1, ↓jN_2, ↓jN_3, ↓jN_4, ↓jN_8, ↓jN_10, ↓jN_11, ↓jN_12, ↓jN_14, ↓jN_20, jI_addN, jI_le, jI_lt, jI_eq, jI_cl, jI_in, jI_add, jI_sub, jI_eqN, gI_eqI, gI_eqN, gI_leI, gI_ltI, jI_leN, jI_ltN, gI_sub, pif_tt, pif_ff, pg_tt, isB, or_true, true_or, pif_T, pif_F, pg_T, pb_S, upd_e, upd_n, jL_0, jL_1, jL_2, jL_5, jL_6, jL_15, jL_16, jL_63, jI_mul, jI_L, jL_I, jL_add, jL_sub, jL_mul, fX9_sheet, show (3 : Int64) = jL 3 from rfl, s2, l2, e2]
          refine Ok.s ⟨rfl, Or.inr ⟨ln, a, rfl, rfl, rfl, hln, h40, show upd c_lanes 3 (jI ln) 3 = jI ln from upd_e rfl, show upd c_lengths 3 (jI a) 3 = jI a from upd_e rfl, fun i hi => ?_⟩, fun j hj hjk => ⟨show upd c_lanes 3 (jI ln) j = c_lanes j from upd_n hjk, show upd c_lengths 3 (jI a) j = c_lengths j from upd_n hjk, fun i hi => ?_⟩⟩
          · exact (h1 i hi).trans (h2 i hi).symm
          · exact h3 _ (by omega)
        · simp (disch := omega) only [jI_0, jI_1, jI_2, jI_3, jI_4, jI_5, jI_6, jI_7, jI_8, jI_9, jI_10, jI_11, jI_12, jI_13, jI_14, jI_15, jI_16, jI_20, jI_24, jI_26, jI_30, jI_31, jI_32, jI_40, jI_48, jI_56, jI_57, jI_59, jI_60, jI_97, jI_99, jI_122, jI_160, jI_240, jI_255, jI_768, jI_1000, ↓jN_1, ↓jN_2, ↓jN_3, ↓jN_4, ↓jN_8, ↓jN_10, ↓jN_11, ↓jN_12, ↓jN_14, ↓jN_20, jI_addN, jI_le, jI_lt, jI_eq, jI_cl, jI_in, jI_add, jI_sub, jI_eqN, gI_eqI, gI_eqN, gI_leI, gI_ltI, jI_leN, jI_ltN, gI_sub, pif_tt, pif_ff, pg_tt, isB, or_true, true_or, pif_T, pif_F, pg_T, pb_S, upd_e, upd_n, fX8_sheet_s3, fX8_sheet_s3_20, s1, l1]
          refine Ok.s ?_
          simp (disch := omega) only [jI_0, jI_1, jI_2, jI_3, jI_4, jI_5, jI_6, jI_7, jI_8, jI_9, jI_10, jI_11, jI_12, jI_13, jI_14, jI_15, jI_16, jI_20, jI_24, jI_26, jI_30, jI_31, jI_32, jI_40, jI_48, jI_56, jI_57, jI_59, jI_60, jI_97, jI_99, jI_122, jI_160, jI_240, jI_255, jI_768, jI_1000, ↓jN_1, ↓jN_2, ↓jN_3, ↓jN_4, ↓jN_8, ↓jN_10, ↓jN_11, ↓jN_12, ↓jN_14, ↓jN_20, jI_addN, jI_le, jI_lt, jI_eq, jI_cl, jI_in, jI_add, jI_sub, jI_eqN, gI_eqI, gI_eqN, gI_leI, gI_ltI, jI_leN, jI_ltN, gI_sub, pif_tt, pif_ff, pg_tt, isB, or_true, true_or, pif_T, pif_F, pg_T, pb_S, upd_e, upd_n, jL_0, jL_1, jL_2, jL_5, jL_6, jL_15, jL_16, jL_63, jI_mul, jI_L, jL_I, jL_add, jL_sub, jL_mul, fX9_sheet, fX9_sheet_30, show (3 : Int64) = jL 3 from rfl, s2, l2]
          exact Ok.s ⟨rfl, hs, ShO_r⟩
      · have n40 : x3 ≤ jI 40 := by
          rw [Int32.le_iff_toInt_le, jI_toInt (by omega)]
          rw [Int32.lt_iff_toInt_lt, jI_toInt (by omega)] at hneg
          omega
        have n0 : ¬ jI 0 ≤ x3 := by
          rw [Int32.le_iff_toInt_le, jI_toInt (by omega)]
          rw [Int32.lt_iff_toInt_lt, jI_toInt (by omega)] at hneg
          omega
        simp (disch := omega) only [jI_0, jI_1, jI_2, jI_3, jI_4, jI_5, jI_6, jI_7, jI_8, jI_9, jI_10, jI_11, jI_12, jI_13, jI_14, jI_15, jI_16, jI_20, jI_24, jI_26, jI_30, jI_31, jI_32, jI_40, jI_48, jI_56, jI_57, jI_59, jI_60, jI_97, jI_99, jI_122, jI_160, jI_240, jI_255, jI_768, jI_1000, ↓jN_1, ↓jN_2, ↓jN_3, ↓jN_4, ↓jN_8, ↓jN_10, ↓jN_11, ↓jN_12, ↓jN_14, ↓jN_20, jI_addN, jI_le, jI_lt, jI_eq, jI_cl, jI_in, jI_add, jI_sub, jI_eqN, gI_eqI, gI_eqN, gI_leI, gI_ltI, jI_leN, jI_ltN, gI_sub, pif_tt, pif_ff, pg_tt, isB, or_true, true_or, pif_T, pif_F, pg_T, pb_S, upd_e, upd_n, fX8_sheet_s3, s1, l1, n40, n0]
        refine Ok.s ?_
        simp (disch := omega) only [jI_0, jI_1, jI_2, jI_3, jI_4, jI_5, jI_6, jI_7, jI_8, jI_9, jI_10, jI_11, jI_12, jI_13, jI_14, jI_15, jI_16, jI_20, jI_24, jI_26, jI_30, jI_31, jI_32, jI_40, jI_48, jI_56, jI_57, jI_59, jI_60, jI_97, jI_99, jI_122, jI_160, jI_240, jI_255, jI_768, jI_1000, ↓jN_1, ↓jN_2, ↓jN_3, ↓jN_4, ↓jN_8, ↓jN_10, ↓jN_11, ↓jN_12, ↓jN_14, ↓jN_20, jI_addN, jI_le, jI_lt, jI_eq, jI_cl, jI_in, jI_add, jI_sub, jI_eqN, gI_eqI, gI_eqN, gI_leI, gI_ltI, jI_leN, jI_ltN, gI_sub, pif_tt, pif_ff, pg_tt, isB, or_true, true_or, pif_T, pif_F, pg_T, pb_S, upd_e, upd_n, jL_0, jL_1, jL_2, jL_5, jL_6, jL_15, jL_16, jL_63, jI_mul, jI_L, jL_I, jL_add, jL_sub, jL_mul, fX9_sheet, show (3 : Int64) = jL 3 from rfl, s2, l2, n40, n0]
        exact Ok.s ⟨rfl, hs, ShO_r⟩
    · simp (disch := omega) only [jI_0, jI_1, jI_2, jI_3, jI_4, jI_5, jI_6, jI_7, jI_8, jI_9, jI_10, jI_11, jI_12, jI_13, jI_14, jI_15, jI_16, jI_20, jI_24, jI_26, jI_30, jI_31, jI_32, jI_40, jI_48, jI_56, jI_57, jI_59, jI_60, jI_97, jI_99, jI_122, jI_160, jI_240, jI_255, jI_768, jI_1000, ↓jN_1, ↓jN_2, ↓jN_3, ↓jN_4, ↓jN_8, ↓jN_10, ↓jN_11, ↓jN_12, ↓jN_14, ↓jN_20, jI_addN, jI_le, jI_lt, jI_eq, jI_cl, jI_in, jI_add, jI_sub, jI_eqN, gI_eqI, gI_eqN, gI_leI, gI_ltI, jI_leN, jI_ltN, gI_sub, pif_tt, pif_ff, pg_tt, isB, or_true, true_or, pif_T, pif_F, pg_T, pb_S, upd_e, upd_n, fX8_sheet_s3, fX8_sheet_s3_20, s1, l1]
      refine Ok.s ?_
      simp (disch := omega) only [jI_0, jI_1, jI_2, jI_3, jI_4, jI_5, jI_6, jI_7, jI_8, jI_9, jI_10, jI_11, jI_12, jI_13, jI_14, jI_15, jI_16, jI_20, jI_24, jI_26, jI_30, jI_31, jI_32, jI_40, jI_48, jI_56, jI_57, jI_59, jI_60, jI_97, jI_99, jI_122, jI_160, jI_240, jI_255, jI_768, jI_1000, ↓jN_1, ↓jN_2, ↓jN_3, ↓jN_4, ↓jN_8, ↓jN_10, ↓jN_11, ↓jN_12, ↓jN_14, ↓jN_20, jI_addN, jI_le, jI_lt, jI_eq, jI_cl, jI_in, jI_add, jI_sub, jI_eqN, gI_eqI, gI_eqN, gI_leI, gI_ltI, jI_leN, jI_ltN, gI_sub, pif_tt, pif_ff, pg_tt, isB, or_true, true_or, pif_T, pif_F, pg_T, pb_S, upd_e, upd_n, jL_0, jL_1, jL_2, jL_5, jL_6, jL_15, jL_16, jL_63, jI_mul, jI_L, jL_I, jL_add, jL_sub, jL_mul, fX9_sheet, fX9_sheet_30, show (3 : Int64) = jL 3 from rfl, s2, l2]
      exact Ok.s ⟨rfl, hs, ShO_r⟩
  · have : fX8_isSheet N (jI 3) = some (jI 1) := by
      simp (disch := omega) only [jI_0, jI_1, jI_2, jI_3, jI_4, jI_5, jI_6, jI_7, jI_8, jI_9, jI_10, jI_11, jI_12, jI_13, jI_14, jI_15, jI_16, jI_20, jI_24, jI_26, jI_30, jI_31, jI_32, jI_40, jI_48, jI_56, jI_57, jI_59, jI_60, jI_97, jI_99, jI_122, jI_160, jI_240, jI_255, jI_768, jI_1000, ↓jN_1, ↓jN_2, ↓jN_3, ↓jN_4, ↓jN_8, ↓jN_10, ↓jN_11, ↓jN_12, ↓jN_14, ↓jN_20, jI_addN, jI_le, jI_lt, jI_eq, jI_cl, jI_in, jI_add, jI_sub, jI_eqN, gI_eqI, gI_eqN, gI_leI, gI_ltI, jI_leN, jI_ltN, gI_sub, pif_tt, pif_ff, pg_tt, isB, or_true, true_or, pif_T, pif_F, pg_T, pb_S, upd_e, upd_n, fX8_isSheet, fX8_isSheet_14]
    rw [this] at s1
    have := Option.some.inj s1
    rw [jI_eq (by omega) (by omega)] at this
    omega
theorem c_sheet_x (x1 x2 x3 : Int32) {ve vl vn : Int32} {cc c_cells c_lanes c_lengths : Nat → Int32} (s1 : fX8_isSheet N x1 = some (jI 0)) (s2 : fX9_in N x1.toInt64 (jL 0) (jL 3) = some (jI 0)) : Ok (fX8_sheet_s0 N ve vl vn cc x1 x2 x3) (fun a => Ok (fX9_sheet N c_cells c_lanes c_lengths x1 x2 x3) (fun b => a = (b.1, ve, vl, vn, cc) ∧ b.2 = (c_cells, c_lanes, c_lengths))) := by
  simp (disch := omega) only [jI_0, jI_1, jI_2, jI_3, jI_4, jI_5, jI_6, jI_7, jI_8, jI_9, jI_10, jI_11, jI_12, jI_13, jI_14, jI_15, jI_16, jI_20, jI_24, jI_26, jI_30, jI_31, jI_32, jI_40, jI_48, jI_56, jI_57, jI_59, jI_60, jI_97, jI_99, jI_122, jI_160, jI_240, jI_255, jI_768, jI_1000, ↓jN_1, ↓jN_2, ↓jN_3, ↓jN_4, ↓jN_8, ↓jN_10, ↓jN_11, ↓jN_12, ↓jN_14, ↓jN_20, jI_addN, jI_le, jI_lt, jI_eq, jI_cl, jI_in, jI_add, jI_sub, jI_eqN, gI_eqI, gI_eqN, gI_leI, gI_ltI, jI_leN, jI_ltN, gI_sub, pif_tt, pif_ff, pg_tt, isB, or_true, true_or, pif_T, pif_F, pg_T, pb_S, upd_e, upd_n, fX8_sheet_s0, fX8_sheet_s0_20, s1]
  refine Ok.s ?_
  simp (disch := omega) only [jI_0, jI_1, jI_2, jI_3, jI_4, jI_5, jI_6, jI_7, jI_8, jI_9, jI_10, jI_11, jI_12, jI_13, jI_14, jI_15, jI_16, jI_20, jI_24, jI_26, jI_30, jI_31, jI_32, jI_40, jI_48, jI_56, jI_57, jI_59, jI_60, jI_97, jI_99, jI_122, jI_160, jI_240, jI_255, jI_768, jI_1000, ↓jN_1, ↓jN_2, ↓jN_3, ↓jN_4, ↓jN_8, ↓jN_10, ↓jN_11, ↓jN_12, ↓jN_14, ↓jN_20, jI_addN, jI_le, jI_lt, jI_eq, jI_cl, jI_in, jI_add, jI_sub, jI_eqN, gI_eqI, gI_eqN, gI_leI, gI_ltI, jI_leN, jI_ltN, gI_sub, pif_tt, pif_ff, pg_tt, isB, or_true, true_or, pif_T, pif_F, pg_T, pb_S, upd_e, upd_n, jL_0, jL_1, jL_2, jL_5, jL_6, jL_15, jL_16, jL_63, jI_mul, jI_L, jL_I, jL_add, jL_sub, jL_mul, fX9_sheet, fX9_sheet_30, show (3 : Int64) = jL 3 from rfl, s2]
  exact Ok.s ⟨rfl, rfl⟩
end
