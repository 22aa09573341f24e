/-! read. -/
def gdB (x : Int32) : Bool := decide (x = jI 0 ∨ x = jI 1 ∨ x = jI 2)
def vlN (x : Int32) : Nat := if x = jI 0 then 0 else if x = jI 1 then 1 else 2
theorem gd_t {x : Int32} (h : gdB x = true) : x = jI (vlN x) ∧ vlN x ≤ 2 := by
  simp only [gdB, decide_eq_true_eq] at h
  unfold vlN
  by_cases h0 : x = jI 0
  · rw [if_pos h0]; exact ⟨h0, by omega⟩
  · rw [if_neg h0]
    by_cases h1 : x = jI 1
    · rw [if_pos h1]; exact ⟨h1, by omega⟩
    · rw [if_neg h1]; exact ⟨(h.resolve_left h0).resolve_left h1, Nat.le_refl _⟩
theorem gd_f {N : Nat} {x : Int32} (h : gdB x = false) : (x < jI 0 ∨ (∃ k, x = jI k ∧ 2 < k ∧ k < 2147483648)) ∧ fX9_in N x.toInt64 (jL 0) (jL 2) = some (jI 0) := by
  rcases in_c (N := N) x 2 (by omega) with ⟨k, hk, rfl, i1⟩ | h2
  · exfalso
    simp only [gdB, decide_eq_false_iff_not] at h
    apply h
    rcases (show k = 0 ∨ k = 1 ∨ k = 2 by omega) with h | h | h <;> subst h
    · exact Or.inl rfl
    · exact Or.inr (Or.inl rfl)
    · exact Or.inr (Or.inr rfl)
  · exact h2
/-- ENDS that are read -/
def eX (e : Nat → Nat) (g wh : Nat) (v : Nat → Nat) (j : Nat) : Nat := if g ≤ j ∧ j < g + wh then v (j - g) else e j
theorem eX_step {e v : Nat → Nat} {g i : Nat} (j : Nat) : eX e g (i + 1) v j = if j = g + i then v i else eX e g i v j := by
  unfold eX
  by_cases h : j = g + i
  · rw [if_pos h, if_pos (by omega), h, Nat.add_sub_cancel_left]
  · rw [if_neg h]
    by_cases h2 : g ≤ j ∧ j < g + i
    · rw [if_pos h2, if_pos (by omega)]
    · rw [if_neg h2, if_neg (by omega)]
section
variable {N z n : Nat} {f s e : Nat → Nat}
theorem takeEndsX {f0 g wh : Nat} {v : Nat → Nat} {vz : Int32} {c_games_ending c_p1_cells cf cs : Nat → Int32} (hN : 100 ≤ N) (hk : Gk n z f s e) (hG : Gc z f s e vz cf cs c_games_ending) (hwh : g + wh ≤ z) (hf0 : f0 + wh ≤ 40) (hv : ∀ i, i < wh → c_p1_cells (f0 + i) = jI (v i) ∧ v i ≤ 2) : Ok ((fX8_takeEnds N c_games_ending c_p1_cells (jI f0) (jI g) (jI wh))) (fun q => q.1 = jI (cnt wh (fun i => decide (e (g + i) ≠ v i))) ∧ Gc z f s (eX e g wh v) vz cf cs q.2) := by
  have hz := hk.2.1
  unfold fX8_takeEnds
  refine up_ok (fun fu i (q : Nat × (Nat → Int32)) => (fX8_takeEnds_6 N c_p1_cells (jI f0) (jI g) (jI wh) fu (jI q.1) (jI i) q.2)) _ wh (fun i q => q.1 = cnt i (fun i => decide (e (g + i) ≠ v i)) ∧ ∀ j, j < z → q.2 j = jI (eX e g i v j)) ?_ ?_ N 0 (0, c_games_ending) (by omega) (by omega) ⟨rfl, fun j hj => by
    show c_games_ending j = _
    rw [(hG.2 j hj).2.2]; unfold eX; rw [if_neg (by omega)]⟩
  · intro fu i ⟨a, ce⟩ hi ⟨h1, h2⟩ ih
    simp only at h1 h2
    obtain ⟨v1, v2⟩ := hv i hi
    have e1 := h2 (g + i) (by omega)
    have hex : eX e g i v (g + i) = e (g + i) := by unfold eX; rw [if_neg (by omega)]
    rw [hex] at e1
    have hel := (hk.2.2 (g + i) (by omega)).2.2.2
    have hs : cnt (i + 1) (fun i => decide (e (g + i) ≠ v i)) = cnt i (fun i => decide (e (g + i) ≠ v i)) + (if decide (e (g + i) ≠ v i) = true then 1 else 0) := rfl
    by_cases hc : e (g + i) = v i
    · simp (disch := omega) only [jI_0, jI_1, jI_2, jI_3, jI_4, jI_5, jI_6, jI_7, jI_8, jI_9, jI_10, jI_11, jI_12, jI_13, jI_14, jI_15, jI_16, jI_20, jI_24, jI_26, jI_30, jI_31, jI_32, jI_40, jI_48, jI_56, jI_57, jI_59, jI_60, jI_97, jI_99, jI_122, jI_160, jI_240, jI_255, jI_768, jI_1000, ↓jN_1, ↓jN_2, ↓jN_3, ↓jN_4, ↓jN_8, ↓jN_10, ↓jN_11, ↓jN_12, ↓jN_14, ↓jN_20, jI_addN, jI_le, jI_lt, jI_eq, jI_cl, jI_in, jI_add, jI_sub, jI_eqN, gI_eqI, gI_eqN, gI_leI, gI_ltI, jI_leN, jI_ltN, gI_sub, pif_tt, pif_ff, pg_tt, isB, or_true, true_or, pif_T, pif_F, pg_T, pb_S, upd_e, upd_n, fX8_takeEnds_6, fX8_takeEnds_58, v1, e1]
      refine ih (a, ce) ⟨?_, fun j hj => ?_⟩
      · rw [hs, if_neg (by simp [hc])]; exact h1
      · rw [eX_step]
        by_cases hj2 : j = g + i
        · rw [if_pos hj2, hj2]; exact e1.trans (by rw [hc])
        · rw [if_neg hj2]; exact h2 j hj
    · simp (disch := omega) only [jI_0, jI_1, jI_2, jI_3, jI_4, jI_5, jI_6, jI_7, jI_8, jI_9, jI_10, jI_11, jI_12, jI_13, jI_14, jI_15, jI_16, jI_20, jI_24, jI_26, jI_30, jI_31, jI_32, jI_40, jI_48, jI_56, jI_57, jI_59, jI_60, jI_97, jI_99, jI_122, jI_160, jI_240, jI_255, jI_768, jI_1000, ↓jN_1, ↓jN_2, ↓jN_3, ↓jN_4, ↓jN_8, ↓jN_10, ↓jN_11, ↓jN_12, ↓jN_14, ↓jN_20, jI_addN, jI_le, jI_lt, jI_eq, jI_cl, jI_in, jI_add, jI_sub, jI_eqN, gI_eqI, gI_eqN, gI_leI, gI_ltI, jI_leN, jI_ltN, gI_sub, pif_tt, pif_ff, pg_tt, isB, or_true, true_or, pif_T, pif_F, pg_T, pb_S, upd_e, upd_n, fX8_takeEnds_6, fX8_takeEnds_58, v1, e1]
      refine ih (a + 1, _) ⟨?_, fun j hj => ?_⟩
      · rw [hs, if_pos (by simp [hc])]; simp only; omega
      · show upd ce (g + i) (jI (v i)) j = _
        rw [eX_step]
        by_cases hj2 : j = g + i
        · rw [if_pos hj2, upd_e hj2]
        · rw [if_neg hj2, upd_n hj2]; exact h2 j hj
  · intro fu ⟨a, ce⟩ ⟨h1, h2⟩
    simp only at h1 h2
    simp (disch := omega) only [jI_0, jI_1, jI_2, jI_3, jI_4, jI_5, jI_6, jI_7, jI_8, jI_9, jI_10, jI_11, jI_12, jI_13, jI_14, jI_15, jI_16, jI_20, jI_24, jI_26, jI_30, jI_31, jI_32, jI_40, jI_48, jI_56, jI_57, jI_59, jI_60, jI_97, jI_99, jI_122, jI_160, jI_240, jI_255, jI_768, jI_1000, ↓jN_1, ↓jN_2, ↓jN_3, ↓jN_4, ↓jN_8, ↓jN_10, ↓jN_11, ↓jN_12, ↓jN_14, ↓jN_20, jI_addN, jI_le, jI_lt, jI_eq, jI_cl, jI_in, jI_add, jI_sub, jI_eqN, gI_eqI, gI_eqN, gI_leI, gI_ltI, jI_leN, jI_ltN, gI_sub, pif_tt, pif_ff, pg_tt, isB, or_true, true_or, pif_T, pif_F, pg_T, pb_S, upd_e, upd_n, fX8_takeEnds_6]
    exact Ok.s ⟨by rw [h1], hG.1, fun j hj => ⟨(hG.2 j hj).1, (hG.2 j hj).2.1, h2 j hj⟩⟩
theorem Gk_eX {g wh : Nat} {v : Nat → Nat} (hk : Gk n z f s e) (hv : ∀ i, i < wh → v i ≤ 2) : Gk n z f s (eX e g wh v) := by
  refine ⟨hk.1, hk.2.1, fun j hj => ?_⟩
  obtain ⟨a, b, c, d⟩ := hk.2.2 j hj
  refine ⟨a, b, c, ?_⟩
  unfold eX
  split
  · exact hv _ (by omega)
  · exact d
theorem read_204M {k f0 g wh : Nat} {v : Nat → Nat} {x2 x5 x6 : Int32} {v_torn : Int32} {c_cells c_lanes c_lengths c_many c_goes c_firsts c_seconds : Nat → Int32} (hN : 100 ≤ N) (hk4 : k < 4) (hk : Gk n z f s e) (hM : Gm 0 z f s e c_many c_firsts c_seconds c_goes) (hwh : g + wh ≤ z) (hf0 : f0 + wh ≤ 40) (hv : ∀ i, i < wh → c_cells (40 * k + f0 + i) = jI (v i) ∧ v i ≤ 2) : Ok ((fX9_read_198 N c_cells c_lanes c_lengths c_many (jI k) x2 (jI f0) (jI g) x5 x6 (jI wh) v_torn c_goes)) (fun q => q.1 = jI (cnt wh (fun i => decide (e (g + i) ≠ v i))) ∧ q.2.1 = x6 ∧ Gm 0 z f s (eX e g wh v) c_many c_firsts c_seconds q.2.2) := by
  have hz := hk.2.1
  unfold fX9_read_198
  refine up_ok (fun fu i (q : Nat × (Nat → Int32)) => (fX9_read_204 N c_cells c_lanes c_lengths c_many (jI k) x2 (jI f0) (jI g) x5 fu x6 (jI wh) (jI q.1) (jI i) v_torn q.2)) _ wh (fun i q => q.1 = cnt i (fun i => decide (e (g + i) ≠ v i)) ∧ ∀ j, j < z → q.2 j = jI (eX e g i v j)) ?_ ?_ N 0 (0, c_goes) (by omega) (by omega) ⟨rfl, fun j hj => by
    have := (hM.2 j hj).2.2
    rw [show 30 * 0 + j = j by omega] at this
    show c_goes j = _
    rw [this]; unfold eX; rw [if_neg (by omega)]⟩
  · intro fu i ⟨a, ce⟩ hi ⟨h1, h2⟩ ih
    simp only at h1 h2
    obtain ⟨v1, v2⟩ := hv i hi
    have e1 := h2 (g + i) (by omega)
    have hex : eX e g i v (g + i) = e (g + i) := by unfold eX; rw [if_neg (by omega)]
    rw [hex] at e1
    have hel := (hk.2.2 (g + i) (by omega)).2.2.2
    have hs : cnt (i + 1) (fun i => decide (e (g + i) ≠ v i)) = cnt i (fun i => decide (e (g + i) ≠ v i)) + (if decide (e (g + i) ≠ v i) = true then 1 else 0) := rfl
    have hup : ∀ j, j < z → upd ce (g + i) (jI (v i)) j = jI (eX e g (i + 1) v j) := fun j hj => by
      rw [eX_step]
      by_cases hj2 : j = g + i
      · rw [if_pos hj2, upd_e hj2]
      · rw [if_neg hj2, upd_n hj2]; exact h2 j hj
    by_cases hc : e (g + i) = v i
    · simp (disch := omega) only [jI_0, jI_1, jI_2, jI_3, jI_4, jI_5, jI_6, jI_7, jI_8, jI_9, jI_10, jI_11, jI_12, jI_13, jI_14, jI_15, jI_16, jI_20, jI_24, jI_26, jI_30, jI_31, jI_32, jI_40, jI_48, jI_56, jI_57, jI_59, jI_60, jI_97, jI_99, jI_122, jI_160, jI_240, jI_255, jI_768, jI_1000, ↓jN_1, ↓jN_2, ↓jN_3, ↓jN_4, ↓jN_8, ↓jN_10, ↓jN_11, ↓jN_12, ↓jN_14, ↓jN_20, jI_addN, jI_le, jI_lt, jI_eq, jI_cl, jI_in, jI_add, jI_sub, jI_eqN, gI_eqI, gI_eqN, gI_leI, gI_ltI, jI_leN, jI_ltN, gI_sub, pif_tt, pif_ff, pg_tt, isB, or_true, true_or, pif_T, pif_F, pg_T, pb_S, upd_e, upd_n, jL_0, jL_1, jL_2, jL_5, jL_6, jL_15, jL_16, jL_63, jI_mul, jI_L, jL_I, jL_add, jL_sub, jL_mul, fX9_read_204, fX9_read_249, v1, e1]
      refine ih (a + 0, _) ⟨?_, hup⟩
      rw [hs, if_neg (by simp [hc])]; exact congrArg (· + 0) h1
    · simp (disch := omega) only [jI_0, jI_1, jI_2, jI_3, jI_4, jI_5, jI_6, jI_7, jI_8, jI_9, jI_10, jI_11, jI_12, jI_13, jI_14, jI_15, jI_16, jI_20, jI_24, jI_26, jI_30, jI_31, jI_32, jI_40, jI_48, jI_56, jI_57, jI_59, jI_60, jI_97, jI_99, jI_122, jI_160, jI_240, jI_255, jI_768, jI_1000, ↓jN_1, ↓jN_2, ↓jN_3, ↓jN_4, ↓jN_8, ↓jN_10, ↓jN_11, ↓jN_12, ↓jN_14, ↓jN_20, jI_addN, jI_le, jI_lt, jI_eq, jI_cl, jI_in, jI_add, jI_sub, jI_eqN, gI_eqI, gI_eqN, gI_leI, gI_ltI, jI_leN, jI_ltN, gI_sub, pif_tt, pif_ff, pg_tt, isB, or_true, true_or, pif_T, pif_F, pg_T, pb_S, upd_e, upd_n, jL_0, jL_1, jL_2, jL_5, jL_6, jL_15, jL_16, jL_63, jI_mul, jI_L, jL_I, jL_add, jL_sub, jL_mul, fX9_read_204, fX9_read_249, v1, e1]
      refine ih (a + 1, _) ⟨?_, hup⟩
      rw [hs, if_pos (by simp [hc])]; exact congrArg (· + 1) h1
  · intro fu ⟨a, ce⟩ ⟨h1, h2⟩
    simp only at h1 h2
    simp (disch := omega) only [jI_0, jI_1, jI_2, jI_3, jI_4, jI_5, jI_6, jI_7, jI_8, jI_9, jI_10, jI_11, jI_12, jI_13, jI_14, jI_15, jI_16, jI_20, jI_24, jI_26, jI_30, jI_31, jI_32, jI_40, jI_48, jI_56, jI_57, jI_59, jI_60, jI_97, jI_99, jI_122, jI_160, jI_240, jI_255, jI_768, jI_1000, ↓jN_1, ↓jN_2, ↓jN_3, ↓jN_4, ↓jN_8, ↓jN_10, ↓jN_11, ↓jN_12, ↓jN_14, ↓jN_20, jI_addN, jI_le, jI_lt, jI_eq, jI_cl, jI_in, jI_add, jI_sub, jI_eqN, gI_eqI, gI_eqN, gI_leI, gI_ltI, jI_leN, jI_ltN, gI_sub, pif_tt, pif_ff, pg_tt, isB, or_true, true_or, pif_T, pif_F, pg_T, pb_S, upd_e, upd_n, jL_0, jL_1, jL_2, jL_5, jL_6, jL_15, jL_16, jL_63, jI_mul, jI_L, jL_I, jL_add, jL_sub, jL_mul, fX9_read_204]
    refine Ok.s ⟨by rw [h1], rfl, hM.1, fun j hj => ?_⟩
    obtain ⟨m1, m2, m3⟩ := hM.2 j hj
    refine ⟨m1, m2, ?_⟩
    rw [show 30 * 0 + j = j by omega]; exact h2 j hj
theorem read_0M {k : Nat} {x2 x3 x4 x5 x6 : Int32} {v_torn : Int32} {c_cells c_lanes c_lengths c_many c_goes : Nat → Int32} (hN : 100 ≤ N) : (fX9_read_198 N c_cells c_lanes c_lengths c_many (jI k) x2 x3 x4 x5 x6 (jI 0) v_torn c_goes) = some (jI 0, x6, c_goes) := by
  obtain ⟨N1, rfl⟩ : ∃ q, N = q + 1 := ⟨N - 1, by omega⟩
  simp (disch := omega) only [jI_0, jI_1, jI_2, jI_3, jI_4, jI_5, jI_6, jI_7, jI_8, jI_9, jI_10, jI_11, jI_12, jI_13, jI_14, jI_15, jI_16, jI_20, jI_24, jI_26, jI_30, jI_31, jI_32, jI_40, jI_48, jI_56, jI_57, jI_59, jI_60, jI_97, jI_99, jI_122, jI_160, jI_240, jI_255, jI_768, jI_1000, ↓jN_1, ↓jN_2, ↓jN_3, ↓jN_4, ↓jN_8, ↓jN_10, ↓jN_11, ↓jN_12, ↓jN_14, ↓jN_20, jI_addN, jI_le, jI_lt, jI_eq, jI_cl, jI_in, jI_add, jI_sub, jI_eqN, gI_eqI, gI_eqN, gI_leI, gI_ltI, jI_leN, jI_ltN, gI_sub, pif_tt, pif_ff, pg_tt, isB, or_true, true_or, pif_T, pif_F, pg_T, pb_S, upd_e, upd_n, fX9_read_198, fX9_read_204]
/-- the reference's first loop where it stops at once -/
theorem read_71A {k nn fl : Nat} {x2 x3 x4 : Int32} {v_torn : Int32} {c_cells c_lanes c_lengths c_many c_goes : Nat → Int32} (hN : 100 ≤ N) (hk4 : k < 4) (hnn : nn ≤ 30) (hfl : (c_lanes k = gI 4 ∧ fl = 1) ∨ (¬ c_lanes k = gI 4 ∧ ¬ c_lanes k = x2 ∧ fl = 3) ∨ (¬ c_lanes k = gI 4 ∧ c_lanes k = x2 ∧ fX9_in N x3.toInt64 (jL 0) (c_lengths k - jI 1).toInt64 = some (jI 0) ∧ fl = 2)) : (fX9_read_71 N c_cells c_lanes c_lengths c_many (jI k) x2 x3 x4 (jI nn) N (jI 0) (jI 0) (jI 0) v_torn c_goes) = some (jI 0, jI (if 0 < nn then fl else 0), c_goes) := by
  obtain ⟨N1, rfl⟩ : ∃ q, N = q + 2 := ⟨N - 2, by omega⟩
  have h0 : ∀ y, (fX9_read_198 (N1 + 2) c_cells c_lanes c_lengths c_many (jI k) x2 x3 x4 (jI nn) y (jI 0) v_torn c_goes) = some (jI 0, y, c_goes) := fun y => read_0M hN
  by_cases hp : 0 < nn
  · rw [if_pos hp]
    have next : fl ≠ 0 → fl < 4 → (fX9_read_71 (N1 + 2) c_cells c_lanes c_lengths c_many (jI k) x2 x3 x4 (jI nn) (N1 + 1) (jI fl) (jI 0) (jI 1) v_torn c_goes) = some (jI 0, jI fl, c_goes) := fun h1 h2 => by
      by_cases h3 : nn ≤ 1
      · simp (disch := omega) only [jI_0, jI_1, jI_2, jI_3, jI_4, jI_5, jI_6, jI_7, jI_8, jI_9, jI_10, jI_11, jI_12, jI_13, jI_14, jI_15, jI_16, jI_20, jI_24, jI_26, jI_30, jI_31, jI_32, jI_40, jI_48, jI_56, jI_57, jI_59, jI_60, jI_97, jI_99, jI_122, jI_160, jI_240, jI_255, jI_768, jI_1000, ↓jN_1, ↓jN_2, ↓jN_3, ↓jN_4, ↓jN_8, ↓jN_10, ↓jN_11, ↓jN_12, ↓jN_14, ↓jN_20, jI_addN, jI_le, jI_lt, jI_eq, jI_cl, jI_in, jI_add, jI_sub, jI_eqN, gI_eqI, gI_eqN, gI_leI, gI_ltI, jI_leN, jI_ltN, gI_sub, pif_tt, pif_ff, pg_tt, isB, or_true, true_or, pif_T, pif_F, pg_T, pb_S, upd_e, upd_n, fX9_read_71, h0]
      · simp (disch := omega) only [jI_0, jI_1, jI_2, jI_3, jI_4, jI_5, jI_6, jI_7, jI_8, jI_9, jI_10, jI_11, jI_12, jI_13, jI_14, jI_15, jI_16, jI_20, jI_24, jI_26, jI_30, jI_31, jI_32, jI_40, jI_48, jI_56, jI_57, jI_59, jI_60, jI_97, jI_99, jI_122, jI_160, jI_240, jI_255, jI_768, jI_1000, ↓jN_1, ↓jN_2, ↓jN_3, ↓jN_4, ↓jN_8, ↓jN_10, ↓jN_11, ↓jN_12, ↓jN_14, ↓jN_20, jI_addN, jI_le, jI_lt, jI_eq, jI_cl, jI_in, jI_add, jI_sub, jI_eqN, gI_eqI, gI_eqN, gI_leI, gI_ltI, jI_leN, jI_ltN, gI_sub, pif_tt, pif_ff, pg_tt, isB, or_true, true_or, pif_T, pif_F, pg_T, pb_S, upd_e, upd_n, fX9_read_71, h0]
    rcases hfl with ⟨a, rfl⟩ | ⟨a, b, rfl⟩ | ⟨a, rfl, c, rfl⟩
    · have nx := next (by omega) (by omega)
      rw [fX9_read_71]
      simp (disch := omega) only [jI_0, jI_1, jI_2, jI_3, jI_4, jI_5, jI_6, jI_7, jI_8, jI_9, jI_10, jI_11, jI_12, jI_13, jI_14, jI_15, jI_16, jI_20, jI_24, jI_26, jI_30, jI_31, jI_32, jI_40, jI_48, jI_56, jI_57, jI_59, jI_60, jI_97, jI_99, jI_122, jI_160, jI_240, jI_255, jI_768, jI_1000, ↓jN_1, ↓jN_2, ↓jN_3, ↓jN_4, ↓jN_8, ↓jN_10, ↓jN_11, ↓jN_12, ↓jN_14, ↓jN_20, jI_addN, jI_le, jI_lt, jI_eq, jI_cl, jI_in, jI_add, jI_sub, jI_eqN, gI_eqI, gI_eqN, gI_leI, gI_ltI, jI_leN, jI_ltN, gI_sub, pif_tt, pif_ff, pg_tt, isB, or_true, true_or, pif_T, pif_F, pg_T, pb_S, upd_e, upd_n, fX9_read_139, fX9_read_177, fX9_read_189, a, nx]
    · have nx := next (by omega) (by omega)
      rw [fX9_read_71]
      simp (disch := omega) only [jI_0, jI_1, jI_2, jI_3, jI_4, jI_5, jI_6, jI_7, jI_8, jI_9, jI_10, jI_11, jI_12, jI_13, jI_14, jI_15, jI_16, jI_20, jI_24, jI_26, jI_30, jI_31, jI_32, jI_40, jI_48, jI_56, jI_57, jI_59, jI_60, jI_97, jI_99, jI_122, jI_160, jI_240, jI_255, jI_768, jI_1000, ↓jN_1, ↓jN_2, ↓jN_3, ↓jN_4, ↓jN_8, ↓jN_10, ↓jN_11, ↓jN_12, ↓jN_14, ↓jN_20, jI_addN, jI_le, jI_lt, jI_eq, jI_cl, jI_in, jI_add, jI_sub, jI_eqN, gI_eqI, gI_eqN, gI_leI, gI_ltI, jI_leN, jI_ltN, gI_sub, pif_tt, pif_ff, pg_tt, isB, or_true, true_or, pif_T, pif_F, pg_T, pb_S, upd_e, upd_n, fX9_read_139, fX9_read_177, fX9_read_189, a, b, nx]
    · have nx := next (by omega) (by omega)
      have z0 : x3.toInt64 + jL 0 = x3.toInt64 := Int64.add_zero _
      rw [fX9_read_71]
      simp (disch := omega) only [jI_0, jI_1, jI_2, jI_3, jI_4, jI_5, jI_6, jI_7, jI_8, jI_9, jI_10, jI_11, jI_12, jI_13, jI_14, jI_15, jI_16, jI_20, jI_24, jI_26, jI_30, jI_31, jI_32, jI_40, jI_48, jI_56, jI_57, jI_59, jI_60, jI_97, jI_99, jI_122, jI_160, jI_240, jI_255, jI_768, jI_1000, ↓jN_1, ↓jN_2, ↓jN_3, ↓jN_4, ↓jN_8, ↓jN_10, ↓jN_11, ↓jN_12, ↓jN_14, ↓jN_20, jI_addN, jI_le, jI_lt, jI_eq, jI_cl, jI_in, jI_add, jI_sub, jI_eqN, gI_eqI, gI_eqN, gI_leI, gI_ltI, jI_leN, jI_ltN, gI_sub, pif_tt, pif_ff, pg_tt, isB, or_true, true_or, pif_T, pif_F, pg_T, pb_S, upd_e, upd_n, fX9_read_139, fX9_read_177, fX9_read_189, a, jI_L, jL_0, z0, c, nx]
  · rw [if_neg hp]
    obtain rfl : nn = 0 := by omega
    rw [fX9_read_71]
    simp (disch := omega) only [jI_0, jI_1, jI_2, jI_3, jI_4, jI_5, jI_6, jI_7, jI_8, jI_9, jI_10, jI_11, jI_12, jI_13, jI_14, jI_15, jI_16, jI_20, jI_24, jI_26, jI_30, jI_31, jI_32, jI_40, jI_48, jI_56, jI_57, jI_59, jI_60, jI_97, jI_99, jI_122, jI_160, jI_240, jI_255, jI_768, jI_1000, ↓jN_1, ↓jN_2, ↓jN_3, ↓jN_4, ↓jN_8, ↓jN_10, ↓jN_11, ↓jN_12, ↓jN_14, ↓jN_20, jI_addN, jI_le, jI_lt, jI_eq, jI_cl, jI_in, jI_add, jI_sub, jI_eqN, gI_eqI, gI_eqN, gI_leI, gI_ltI, jI_leN, jI_ltN, gI_sub, pif_tt, pif_ff, pg_tt, isB, or_true, true_or, pif_T, pif_F, pg_T, pb_S, upd_e, upd_n, h0]
end
