/-! years. -/
theorem bc_ok : ∀ m, m < 64 → fJ6_bitCount_0f7a4 0 (jI m) = some (jI (sumN 6 (bitN m))) := by decide +kernel
theorem bcX {N m : Nat} (h : m < 64) : fJ6_bitCount_0f7a4 N (jI m) = some (jI (sumN 6 (bitN m))) := bc_ok m h
theorem in1_c {N : Nat} (x : Int32) : (∃ k, 1 ≤ k ∧ k ≤ 40 ∧ x = jI k ∧ fX9_in N (jL k) (jL 1) (jL 40) = some (jI 1)) ∨ ((x < jI 1 ∨ (∃ k, x = jI k ∧ 40 < k ∧ k < 2147483648)) ∧ fX9_in N x.toInt64 (jL 1) (jL 40) = some (jI 0)) := by
  rcases cases32 x with ⟨a, ha, rfl⟩ | h
  · by_cases h0 : a = 0
    · subst h0
      refine Or.inr ⟨Or.inl (by rw [jI_lt (by omega) (by omega)]; omega), ?_⟩
      rw [jI_L (by omega)]
      simp (disch := omega) only [jI_0, jI_1, jI_2, jI_3, jI_4, jI_5, jI_6, jI_7, jI_8, jI_9, jI_10, jI_11, jI_12, jI_13, jI_14, jI_15, jI_16, jI_20, jI_24, jI_26, jI_30, jI_31, jI_32, jI_40, jI_48, jI_56, jI_57, jI_59, jI_60, jI_97, jI_99, jI_122, jI_160, jI_240, jI_255, jI_768, jI_1000, ↓jN_1, ↓jN_2, ↓jN_3, ↓jN_4, ↓jN_8, ↓jN_10, ↓jN_11, ↓jN_12, ↓jN_14, ↓jN_20, jI_addN, jI_le, jI_lt, jI_eq, jI_cl, jI_in, jI_add, jI_sub, jI_eqN, gI_eqI, gI_eqN, gI_leI, gI_ltI, jI_leN, jI_ltN, gI_sub, pif_tt, pif_ff, pg_tt, isB, or_true, true_or, pif_T, pif_F, pg_T, pb_S, upd_e, upd_n, fX9_in, fX9_in_17, fX9_in_18, lg_lt, jL_lt]
    · by_cases h : a ≤ 40
      · refine Or.inl ⟨a, by omega, h, rfl, ?_⟩
        simp (disch := omega) only [jI_0, jI_1, jI_2, jI_3, jI_4, jI_5, jI_6, jI_7, jI_8, jI_9, jI_10, jI_11, jI_12, jI_13, jI_14, jI_15, jI_16, jI_20, jI_24, jI_26, jI_30, jI_31, jI_32, jI_40, jI_48, jI_56, jI_57, jI_59, jI_60, jI_97, jI_99, jI_122, jI_160, jI_240, jI_255, jI_768, jI_1000, ↓jN_1, ↓jN_2, ↓jN_3, ↓jN_4, ↓jN_8, ↓jN_10, ↓jN_11, ↓jN_12, ↓jN_14, ↓jN_20, jI_addN, jI_le, jI_lt, jI_eq, jI_cl, jI_in, jI_add, jI_sub, jI_eqN, gI_eqI, gI_eqN, gI_leI, gI_ltI, jI_leN, jI_ltN, gI_sub, pif_tt, pif_ff, pg_tt, isB, or_true, true_or, pif_T, pif_F, pg_T, pb_S, upd_e, upd_n, fX9_in, fX9_in_17, fX9_in_18, lg_lt, lg_gt, jL_lt]
      · refine Or.inr ⟨Or.inr ⟨a, rfl, by omega, ha⟩, ?_⟩
        rw [jI_L ha]
        simp (disch := omega) only [jI_0, jI_1, jI_2, jI_3, jI_4, jI_5, jI_6, jI_7, jI_8, jI_9, jI_10, jI_11, jI_12, jI_13, jI_14, jI_15, jI_16, jI_20, jI_24, jI_26, jI_30, jI_31, jI_32, jI_40, jI_48, jI_56, jI_57, jI_59, jI_60, jI_97, jI_99, jI_122, jI_160, jI_240, jI_255, jI_768, jI_1000, ↓jN_1, ↓jN_2, ↓jN_3, ↓jN_4, ↓jN_8, ↓jN_10, ↓jN_11, ↓jN_12, ↓jN_14, ↓jN_20, jI_addN, jI_le, jI_lt, jI_eq, jI_cl, jI_in, jI_add, jI_sub, jI_eqN, gI_eqI, gI_eqN, gI_leI, gI_ltI, jI_leN, jI_ltN, gI_sub, pif_tt, pif_ff, pg_tt, isB, or_true, true_or, pif_T, pif_F, pg_T, pb_S, upd_e, upd_n, fX9_in, fX9_in_17, fX9_in_18, lg_lt, lg_gt, jL_lt]
  · refine Or.inr ⟨Or.inl (neg_lt h (by omega)), ?_⟩
    have h1 : x.toInt64 < jL 1 := by
      have := negL h
      rw [Int64.lt_iff_toInt_lt, jL_toInt (by omega)] at *
      omega
    simp (disch := omega) only [jI_0, jI_1, jI_2, jI_3, jI_4, jI_5, jI_6, jI_7, jI_8, jI_9, jI_10, jI_11, jI_12, jI_13, jI_14, jI_15, jI_16, jI_20, jI_24, jI_26, jI_30, jI_31, jI_32, jI_40, jI_48, jI_56, jI_57, jI_59, jI_60, jI_97, jI_99, jI_122, jI_160, jI_240, jI_255, jI_768, jI_1000, ↓jN_1, ↓jN_2, ↓jN_3, ↓jN_4, ↓jN_8, ↓jN_10, ↓jN_11, ↓jN_12, ↓jN_14, ↓jN_20, jI_addN, jI_le, jI_lt, jI_eq, jI_cl, jI_in, jI_add, jI_sub, jI_eqN, gI_eqI, gI_eqN, gI_leI, gI_ltI, jI_leN, jI_ltN, gI_sub, pif_tt, pif_ff, pg_tt, isB, or_true, true_or, pif_T, pif_F, pg_T, pb_S, upd_e, upd_n, fX9_in, fX9_in_17, fX9_in_18, lg_lt, h1]
theorem kpP_tr {a b c d a' b' c' d' a'' b'' c'' d'' : Nat → Int32} (h1 : kpP a b c d a' b' c' d') (h2 : kpP a' b' c' d' a'' b'' c'' d'') : kpP a b c d a'' b'' c'' d'' := by
  refine ⟨fun g hg => ?_, h2.2.trans h1.2⟩
  obtain ⟨x1, x2, x3⟩ := h1.1 g hg
  obtain ⟨y1, y2, y3⟩ := h2.1 g hg
  exact ⟨y1.trans x1, y2.trans x2, y3.trans x3⟩
theorem Gm_kp {z : Nat} {f s e : Nat → Nat} {cf cs cg cm cf' cs' cg' cm' : Nat → Int32} (hz : z ≤ 30) (h : kpP cf cs cg cm cf' cs' cg' cm') (hM : Gm 0 z f s e cm cf cs cg) : Gm 0 z f s e cm' cf' cs' cg' := by
  refine ⟨h.2.trans hM.1, fun g hg => ?_⟩
  obtain ⟨a, b, c⟩ := hM.2 g hg
  obtain ⟨x1, x2, x3⟩ := h.1 g (by omega)
  rw [show 30 * 0 + g = g by omega] at *
  rw [x1, x2, x3]
  exact ⟨a, b, c⟩
section
variable {v_course_champion : Int32} {v_course_champions : Int32} {v_course_fewest : Int32} {v_course_gap : Int32} {v_course_seed : Int32} {v_course_widestGap : Int32} {v_course_season_size : Int32} {c_course_season_ending : Nat → Int32} {c_course_season_first : Nat → Int32} {c_course_season_second : Nat → Int32} {v_course_standing_sides : Int32} {c_course_standing_merit : Nat → Int32} {c_course_standing_order : Nat → Int32} {c_course_standing_outAt : Nat → Int32} {c_course_standing_seat : Nat → Int32} {c_course_standing_toCome : Nat → Int32} {c_course_standing_turn : Nat → Int32} {c_course_standing_won : Nat → Int32} {c_course_strength : Nat → Int32} {c_course_wasLast : Nat → Int32} {v_rules_kind : Int32} {v_rules_sides : Int32} {c_rules_balls : Nat → Int32} {c_rules_choiceWorth : Nat → Int32} {c_rules_strength : Nat → Int32} {c_rules_wheel : Nat → Int32} {v_seed : Int32} {v_widest : Int32} {c_chooser : Nat → Int32} {c_firstOnes : Nat → Int32} {c_firsts : Nat → Int32} {c_force : Nat → Int32} {c_goes : Nat → Int32} {c_holds : Nat → Int32} {c_lastOnes : Nat → Int32} {c_later : Nat → Int32} {c_many : Nat → Int32} {c_outs : Nat → Int32} {c_placeOf : Nat → Int32} {c_seconds : Nat → Int32} {c_sideAt : Nat → Int32} {c_won : Nat → Int32}
variable {N z : Nat} {f s e H : Nat → Nat}
/-- what is asked of YEARS -/
def yrA (H : Nat → Nat) (x : Int32) (ny k : Nat) : Int32 := if k = 0 then jI (yC H x (ny - 1)) else if k = 1 then jI (sumN 6 (bitN (chM H x ny))) else if k = 2 then jI (gpN (H 0) (ySt H x ny).2) else if k = 3 then jI (wdN H x ny) else if k = 4 then fwI (fwN H x ny) else jI ((ySt H x ny).2 (k - 10))
theorem years_195M {x : Int32} {ny k m fw wd : Nat} {x2 : Int32} (hN : 100 ≤ N) (hR : Rk H) (hh : Rm H c_holds) (hny : 1 ≤ ny) (hny2 : ny ≤ 40) (hk : k ≤ 4 ∨ (10 ≤ k ∧ k < 10 + H 0)) (hm : m = chM H x ny) (hfw : fw = fwN H x ny) (hwd : wd = wdN H x ny) (hfo : ∀ y, y < ny → c_firstOnes y = jI (yC H x y)) (hs : ∀ i, i < H 0 → c_force i = jI ((ySt H x ny).2 i)) : Ok ((fX9_years_195 N c_holds (jI ny) x2 (jI k) N (jI m) (fwI fw) (jI 0) (jI 0) v_seed (jI wd) c_chooser c_firstOnes c_firsts c_force c_goes c_lastOnes c_later c_many c_outs c_placeOf c_seconds c_sideAt c_won)) (fun q => q.1 = yrA H x ny k ∧ q.2.2.2.2.2.1 = c_firsts ∧ q.2.2.2.2.2.2.2.2.2.2.2.2.2.1 = c_seconds ∧ q.2.2.2.2.2.2.2.1 = c_goes ∧ q.2.2.2.2.2.2.2.2.2.2.1 = c_many) := by
  have hn := hR.2.1
  have hm64 : m < 64 := by rw [hm]; exact chM_lt hR x ny
  refine up_ok (fun fu i a => (fX9_years_195 N c_holds (jI ny) x2 (jI k) fu (jI m) (fwI fw) (jI a) (jI i) v_seed (jI wd) c_chooser c_firstOnes c_firsts c_force c_goes c_lastOnes c_later c_many c_outs c_placeOf c_seconds c_sideAt c_won)) _ 6 (fun i a => a = sumN i (bitN m)) ?_ ?_ N 0 0 (by omega) (by omega) rfl
  · intro fu i a hi ha ih
    have hb := shr_ok i (by omega) m (by omega)
    simp (disch := omega) only [jI_0, jI_1, jI_2, jI_3, jI_4, jI_5, jI_6, jI_7, jI_8, jI_9, jI_10, jI_11, jI_12, jI_13, jI_14, jI_15, jI_16, jI_20, jI_24, jI_26, jI_30, jI_31, jI_32, jI_40, jI_48, jI_56, jI_57, jI_59, jI_60, jI_97, jI_99, jI_122, jI_160, jI_240, jI_255, jI_768, jI_1000, ↓jN_1, ↓jN_2, ↓jN_3, ↓jN_4, ↓jN_8, ↓jN_10, ↓jN_11, ↓jN_12, ↓jN_14, ↓jN_20, jI_addN, jI_le, jI_lt, jI_eq, jI_cl, jI_in, jI_add, jI_sub, jI_eqN, gI_eqI, gI_eqN, gI_leI, gI_ltI, jI_leN, jI_ltN, gI_sub, pif_tt, pif_ff, pg_tt, isB, or_true, true_or, pif_T, pif_F, pg_T, pb_S, upd_e, upd_n, fX9_years_195, hb]
    exact ih _ (by rw [ha]; rfl)
  · intro fu a ha
    have hst := ySt_le hR x ny
    unfold yrA
    by_cases h0 : k = 0
    · subst h0
      have hl := hfo (ny - 1) (by omega)
      simp (disch := omega) only [jI_0, jI_1, jI_2, jI_3, jI_4, jI_5, jI_6, jI_7, jI_8, jI_9, jI_10, jI_11, jI_12, jI_13, jI_14, jI_15, jI_16, jI_20, jI_24, jI_26, jI_30, jI_31, jI_32, jI_40, jI_48, jI_56, jI_57, jI_59, jI_60, jI_97, jI_99, jI_122, jI_160, jI_240, jI_255, jI_768, jI_1000, ↓jN_1, ↓jN_2, ↓jN_3, ↓jN_4, ↓jN_8, ↓jN_10, ↓jN_11, ↓jN_12, ↓jN_14, ↓jN_20, jI_addN, jI_le, jI_lt, jI_eq, jI_cl, jI_in, jI_add, jI_sub, jI_eqN, gI_eqI, gI_eqN, gI_leI, gI_ltI, jI_leN, jI_ltN, gI_sub, pif_tt, pif_ff, pg_tt, isB, or_true, true_or, pif_T, pif_F, pg_T, pb_S, upd_e, upd_n, fX9_years_195, fX9_years_288, hl]
      exact Ok.s ⟨rfl, rfl, rfl, rfl, rfl⟩
    rw [if_neg h0]
    by_cases h1 : k = 1
    · subst h1
      simp (disch := omega) only [jI_0, jI_1, jI_2, jI_3, jI_4, jI_5, jI_6, jI_7, jI_8, jI_9, jI_10, jI_11, jI_12, jI_13, jI_14, jI_15, jI_16, jI_20, jI_24, jI_26, jI_30, jI_31, jI_32, jI_40, jI_48, jI_56, jI_57, jI_59, jI_60, jI_97, jI_99, jI_122, jI_160, jI_240, jI_255, jI_768, jI_1000, ↓jN_1, ↓jN_2, ↓jN_3, ↓jN_4, ↓jN_8, ↓jN_10, ↓jN_11, ↓jN_12, ↓jN_14, ↓jN_20, jI_addN, jI_le, jI_lt, jI_eq, jI_cl, jI_in, jI_add, jI_sub, jI_eqN, gI_eqI, gI_eqN, gI_leI, gI_ltI, jI_leN, jI_ltN, gI_sub, pif_tt, pif_ff, pg_tt, isB, or_true, true_or, pif_T, pif_F, pg_T, pb_S, upd_e, upd_n, fX9_years_195, fX9_years_288]
      exact Ok.s ⟨by rw [ha, hm]; rfl, rfl, rfl, rfl, rfl⟩
    rw [if_neg h1]
    by_cases h2 : k = 2
    · subst h2
      have e1 := apartM (N := N) hN hR hh hst hs
      simp (disch := omega) only [jI_0, jI_1, jI_2, jI_3, jI_4, jI_5, jI_6, jI_7, jI_8, jI_9, jI_10, jI_11, jI_12, jI_13, jI_14, jI_15, jI_16, jI_20, jI_24, jI_26, jI_30, jI_31, jI_32, jI_40, jI_48, jI_56, jI_57, jI_59, jI_60, jI_97, jI_99, jI_122, jI_160, jI_240, jI_255, jI_768, jI_1000, ↓jN_1, ↓jN_2, ↓jN_3, ↓jN_4, ↓jN_8, ↓jN_10, ↓jN_11, ↓jN_12, ↓jN_14, ↓jN_20, jI_addN, jI_le, jI_lt, jI_eq, jI_cl, jI_in, jI_add, jI_sub, jI_eqN, gI_eqI, gI_eqN, gI_leI, gI_ltI, jI_leN, jI_ltN, gI_sub, pif_tt, pif_ff, pg_tt, isB, or_true, true_or, pif_T, pif_F, pg_T, pb_S, upd_e, upd_n, fX9_years_195, fX9_years_288, e1]
      exact Ok.s ⟨rfl, rfl, rfl, rfl, rfl⟩
    rw [if_neg h2]
    by_cases h3 : k = 3
    · subst h3
      simp (disch := omega) only [jI_0, jI_1, jI_2, jI_3, jI_4, jI_5, jI_6, jI_7, jI_8, jI_9, jI_10, jI_11, jI_12, jI_13, jI_14, jI_15, jI_16, jI_20, jI_24, jI_26, jI_30, jI_31, jI_32, jI_40, jI_48, jI_56, jI_57, jI_59, jI_60, jI_97, jI_99, jI_122, jI_160, jI_240, jI_255, jI_768, jI_1000, ↓jN_1, ↓jN_2, ↓jN_3, ↓jN_4, ↓jN_8, ↓jN_10, ↓jN_11, ↓jN_12, ↓jN_14, ↓jN_20, jI_addN, jI_le, jI_lt, jI_eq, jI_cl, jI_in, jI_add, jI_sub, jI_eqN, gI_eqI, gI_eqN, gI_leI, gI_ltI, jI_leN, jI_ltN, gI_sub, pif_tt, pif_ff, pg_tt, isB, or_true, true_or, pif_T, pif_F, pg_T, pb_S, upd_e, upd_n, fX9_years_195, fX9_years_288]
      exact Ok.s ⟨by rw [hwd]; rfl, rfl, rfl, rfl, rfl⟩
    rw [if_neg h3]
    by_cases h4 : k = 4
    · subst h4
      simp (disch := omega) only [jI_0, jI_1, jI_2, jI_3, jI_4, jI_5, jI_6, jI_7, jI_8, jI_9, jI_10, jI_11, jI_12, jI_13, jI_14, jI_15, jI_16, jI_20, jI_24, jI_26, jI_30, jI_31, jI_32, jI_40, jI_48, jI_56, jI_57, jI_59, jI_60, jI_97, jI_99, jI_122, jI_160, jI_240, jI_255, jI_768, jI_1000, ↓jN_1, ↓jN_2, ↓jN_3, ↓jN_4, ↓jN_8, ↓jN_10, ↓jN_11, ↓jN_12, ↓jN_14, ↓jN_20, jI_addN, jI_le, jI_lt, jI_eq, jI_cl, jI_in, jI_add, jI_sub, jI_eqN, gI_eqI, gI_eqN, gI_leI, gI_ltI, jI_leN, jI_ltN, gI_sub, pif_tt, pif_ff, pg_tt, isB, or_true, true_or, pif_T, pif_F, pg_T, pb_S, upd_e, upd_n, fX9_years_195, fX9_years_288]
      exact Ok.s ⟨by rw [hfw]; rfl, rfl, rfl, rfl, rfl⟩
    rw [if_neg h4]
    have hf := hs (k - 10) (by omega)
    simp (disch := omega) only [jI_0, jI_1, jI_2, jI_3, jI_4, jI_5, jI_6, jI_7, jI_8, jI_9, jI_10, jI_11, jI_12, jI_13, jI_14, jI_15, jI_16, jI_20, jI_24, jI_26, jI_30, jI_31, jI_32, jI_40, jI_48, jI_56, jI_57, jI_59, jI_60, jI_97, jI_99, jI_122, jI_160, jI_240, jI_255, jI_768, jI_1000, ↓jN_1, ↓jN_2, ↓jN_3, ↓jN_4, ↓jN_8, ↓jN_10, ↓jN_11, ↓jN_12, ↓jN_14, ↓jN_20, jI_addN, jI_le, jI_lt, jI_eq, jI_cl, jI_in, jI_add, jI_sub, jI_eqN, gI_eqI, gI_eqN, gI_leI, gI_ltI, jI_leN, jI_ltN, gI_sub, pif_tt, pif_ff, pg_tt, isB, or_true, true_or, pif_T, pif_F, pg_T, pb_S, upd_e, upd_n, fX9_years_195, fX9_years_288, hf]
    exact Ok.s ⟨rfl, rfl, rfl, rfl, rfl⟩
theorem fw_step {fw y z ll : Nat} (hz : z < y) (hl : ll ≤ z) : fwU fw y (z + 1) = (if fwU fw y ll = 0 then y - z else if fwU fw y ll ≤ y - z then fwU fw y ll else y - z) := by
  unfold fwU
  rw [if_neg (show ¬ z + 1 = 0 by omega)]
  by_cases h1 : ll = 0
  · by_cases h2 : fw = 0
    · rw [if_pos h2, if_pos h1, if_pos h2]; omega
    · rw [if_neg h2, if_pos h1, if_neg h2]
      split <;> omega
  · by_cases h2 : fw = 0
    · rw [if_pos h2, if_neg h1, if_pos h2, if_neg (by omega), if_neg (by omega)]; omega
    · rw [if_neg h2, if_neg h1, if_neg h2, if_neg (by omega)]
      split <;> omega
theorem years_43M {ny k : Nat} {x : Int32} (hN : 1000 ≤ N) (hR : Rk H) (hh : Rm H c_holds) (hny : 1 ≤ ny) (hny2 : ny ≤ 40) (hk : k ≤ 4 ∨ (10 ≤ k ∧ k < 10 + H 0)) : Ok ((fX9_years_43 N c_holds (jI ny) x (jI k) v_seed v_widest c_chooser c_firstOnes c_firsts c_force c_goes c_lastOnes c_later c_many c_outs c_placeOf c_seconds c_sideAt c_won)) (fun q => q.1 = yrA H x ny k ∧ kpP c_firsts c_seconds c_goes c_many q.2.2.2.2.2.1 q.2.2.2.2.2.2.2.2.2.2.2.2.2.1 q.2.2.2.2.2.2.2.1 q.2.2.2.2.2.2.2.2.2.2.1) := by
  have hn := hR.2.1
  unfold fX9_years_43
  refine up_ok (fun fu i cf => (fX9_years_56 N c_holds (jI ny) x (jI k) fu (jI i) x (jI 0) c_chooser c_firstOnes c_firsts cf c_goes c_lastOnes c_later c_many c_outs c_placeOf c_seconds c_sideAt c_won)) _ 6 (fun i cf => ∀ j, j < i → cf j = jI (H (2 + j))) ?_ ?_ N 0 c_force (by omega) (by omega) (fun j h => by omega)
  · intro fu i cf hi hp ih
    have h1 := hh (2 + i) (by omega)
    simp (disch := omega) only [jI_0, jI_1, jI_2, jI_3, jI_4, jI_5, jI_6, jI_7, jI_8, jI_9, jI_10, jI_11, jI_12, jI_13, jI_14, jI_15, jI_16, jI_20, jI_24, jI_26, jI_30, jI_31, jI_32, jI_40, jI_48, jI_56, jI_57, jI_59, jI_60, jI_97, jI_99, jI_122, jI_160, jI_240, jI_255, jI_768, jI_1000, ↓jN_1, ↓jN_2, ↓jN_3, ↓jN_4, ↓jN_8, ↓jN_10, ↓jN_11, ↓jN_12, ↓jN_14, ↓jN_20, jI_addN, jI_le, jI_lt, jI_eq, jI_cl, jI_in, jI_add, jI_sub, jI_eqN, gI_eqI, gI_eqN, gI_leI, gI_ltI, jI_leN, jI_ltN, gI_sub, pif_tt, pif_ff, pg_tt, isB, or_true, true_or, pif_T, pif_F, pg_T, pb_S, upd_e, upd_n, fX9_years_56, h1]
    refine ih _ (fun j hj => ?_)
    by_cases h : j = i
    · rw [upd_e h, h]
    · rw [upd_n h]; exact hp j (by omega)
  · intro fu cf hp
    simp (disch := omega) only [jI_0, jI_1, jI_2, jI_3, jI_4, jI_5, jI_6, jI_7, jI_8, jI_9, jI_10, jI_11, jI_12, jI_13, jI_14, jI_15, jI_16, jI_20, jI_24, jI_26, jI_30, jI_31, jI_32, jI_40, jI_48, jI_56, jI_57, jI_59, jI_60, jI_97, jI_99, jI_122, jI_160, jI_240, jI_255, jI_768, jI_1000, ↓jN_1, ↓jN_2, ↓jN_3, ↓jN_4, ↓jN_8, ↓jN_10, ↓jN_11, ↓jN_12, ↓jN_14, ↓jN_20, jI_addN, jI_le, jI_lt, jI_eq, jI_cl, jI_in, jI_add, jI_sub, jI_eqN, gI_eqI, gI_eqN, gI_leI, gI_ltI, jI_leN, jI_ltN, gI_sub, pif_tt, pif_ff, pg_tt, isB, or_true, true_or, pif_T, pif_F, pg_T, pb_S, upd_e, upd_n, fX9_years_56]
    refine up_ok (fun fu y (q : Nat × Nat × Int32 × Nat × (Nat → Int32) × (Nat → Int32) × (Nat → Int32) × (Nat → Int32) × (Nat → Int32) × (Nat → Int32) × (Nat → Int32) × (Nat → Int32) × (Nat → Int32) × (Nat → Int32) × (Nat → Int32) × (Nat → Int32) × (Nat → Int32)) => (fX9_years_95 N c_holds (jI ny) x (jI k) fu (jI q.1) (fwI q.2.1) (jI y) q.2.2.1 (jI q.2.2.2.1) q.2.2.2.2.1 q.2.2.2.2.2.1 q.2.2.2.2.2.2.1 q.2.2.2.2.2.2.2.1 q.2.2.2.2.2.2.2.2.1 q.2.2.2.2.2.2.2.2.2.1 q.2.2.2.2.2.2.2.2.2.2.1 q.2.2.2.2.2.2.2.2.2.2.2.1 q.2.2.2.2.2.2.2.2.2.2.2.2.1 q.2.2.2.2.2.2.2.2.2.2.2.2.2.1 q.2.2.2.2.2.2.2.2.2.2.2.2.2.2.1 q.2.2.2.2.2.2.2.2.2.2.2.2.2.2.2.1 q.2.2.2.2.2.2.2.2.2.2.2.2.2.2.2.2)) _ ny (fun y q => q.1 = chM H x y ∧ q.2.1 = fwN H x y ∧ q.2.2.1 = (ySt H x y).1 ∧ q.2.2.2.1 = wdN H x y ∧ (∀ v, v < y → q.2.2.2.2.2.1 v = jI (yC H x v)) ∧ (∀ v, v < y → q.2.2.2.2.2.2.2.2.2.1 v = jI (yL H x v)) ∧ (∀ i, i < H 0 → q.2.2.2.2.2.2.2.1 i = jI ((ySt H x y).2 i)) ∧ kpP c_firsts c_seconds c_goes c_many q.2.2.2.2.2.2.1 q.2.2.2.2.2.2.2.2.2.2.2.2.2.2.1 q.2.2.2.2.2.2.2.2.1 q.2.2.2.2.2.2.2.2.2.2.2.1) ?_ ?_ N 0 (0, 0, x, 0, c_chooser, c_firstOnes, c_firsts, cf, c_goes, c_lastOnes, c_later, c_many, c_outs, c_placeOf, c_seconds, c_sideAt, c_won) (by omega) (by omega) ⟨rfl, rfl, rfl, rfl, fun v h => by omega, fun v h => by omega, fun i hi => hp i (by omega), fun g _ => ⟨rfl, rfl, rfl⟩, rfl⟩
    · intro fu y ⟨m, fw, sd, wd, c1, cfo, cfi, cfr, cgo, cla, c2, cma, c3, c4, cse, c5, c6⟩ hy ⟨h1, h2, h3, h4, h5, h6, h7, h8⟩ ih
      simp only at h1 h2 h3 h4 h5 h6 h7 h8
      have hst := ySt_le hR x y
      have hwl := wdN_le hR x y
      have hm64 : m < 64 := by rw [h1]; exact chM_lt hR x y
      have hycl := yC_lt hR x y
      obtain ⟨⟨r1, r2, r3, r4, r5, r6, r7, r8, r9, r10, r11, r12, r13, r14, r15⟩, e1, b1, b2, b3, b4, b5, b6⟩ := oneYearM (N := N) (H := H) (x := sd) (wd := wd) (y := y) (st := (ySt H x y).2) (c_chooser := c1) (c_firstOnes := cfo) (c_firsts := cfi) (c_force := cfr) (c_goes := cgo) (c_lastOnes := cla) (c_later := c2) (c_many := cma) (c_outs := c3) (c_placeOf := c4) (c_seconds := cse) (c_sideAt := c5) (c_won := c6) (by omega) hR hh (by omega) (by omega) hst h7
      simp only at b1 b2 b3 b4 b5 b6
      have hyl : yL H x y = frL (H 0) (yW (H 0) sd (ySt H x y).2) 0 := by rw [h3]; rfl
      have hyc : yC H x y = ordN (yW (H 0) sd (ySt H x y).2) (H 0) 0 := by rw [h3]; rfl
      have hnx : (ySt H x (y + 1)).2 = gwN (yCh H sd (ySt H x y).2) (fun j => H (14 + j)) (ySt H x y).2 (H 0) := by rw [h3]; rfl
      have hnx1 : (ySt H x (y + 1)).1 = ySd H sd := by rw [h3]; rfl
      rw [← hnx] at b2 b5
      rw [← hyc] at b3
      rw [← hyl] at b4
      have hwd2 : max wd (gpN (H 0) (ySt H x (y + 1)).2) = wdN H x (y + 1) := by rw [h4]; rfl
      rw [hwd2] at b2
      subst b2
      have f1 : ∀ v, v < y + 1 → r4 v = jI (yC H x v) := fun v hv => by
        rw [b3]
        by_cases hvy : v = y
        · rw [upd_e hvy, hvy]
        · rw [upd_n hvy]; exact h5 v (by omega)
      have f2 : ∀ v, v < y + 1 → r8 v = jI (yL H x v) := fun v hv => by
        rw [b4]
        by_cases hvy : v = y
        · rw [upd_e hvy, hvy]
        · rw [upd_n hvy]; exact h6 v (by omega)
      have f1y := f1 y (by omega)
      have hor := or_ok m hm64 (yC H x y) (by omega)
      have hchs : m ||| 2 ^ yC H x y = chM H x (y + 1) := by rw [h1]; rfl
      simp (disch := omega) only [jI_0, jI_1, jI_2, jI_3, jI_4, jI_5, jI_6, jI_7, jI_8, jI_9, jI_10, jI_11, jI_12, jI_13, jI_14, jI_15, jI_16, jI_20, jI_24, jI_26, jI_30, jI_31, jI_32, jI_40, jI_48, jI_56, jI_57, jI_59, jI_60, jI_97, jI_99, jI_122, jI_160, jI_240, jI_255, jI_768, jI_1000, ↓jN_1, ↓jN_2, ↓jN_3, ↓jN_4, ↓jN_8, ↓jN_10, ↓jN_11, ↓jN_12, ↓jN_14, ↓jN_20, jI_addN, jI_le, jI_lt, jI_eq, jI_cl, jI_in, jI_add, jI_sub, jI_eqN, gI_eqI, gI_eqN, gI_leI, gI_ltI, jI_leN, jI_ltN, gI_sub, pif_tt, pif_ff, pg_tt, isB, or_true, true_or, pif_T, pif_F, pg_T, pb_S, upd_e, upd_n, fX9_years_95, e1, f1y, hor.1]
      refine up_ok (fun fu2 v g => (fX9_years_124 N c_holds (jI ny) x (jI k) (fX9_years_95 N c_holds (jI ny) x (jI k) fu) fu2 (jI (m ||| 2 ^ yC H x y)) (fwI g) (jI y) (jI v) r1 (jI (wdN H x (y + 1))) r3 r4 r5 r6 r7 r8 r9 r10 r11 r12 r13 r14 r15)) _ y (fun v g => g = fwU fw y (llN (yL H x) (yC H x y) v)) ?_ ?_ N 0 fw (by omega) (by omega) (by unfold fwU; exact (if_pos (show llN (yL H x) (yC H x y) 0 = 0 from rfl)).symm)
      · intro fu2 v g hv hg ih2
        have f2v := f2 v (by omega)
        have hyll := yL_lt hR x v
        have hll := llN_le (yL H x) (yC H x y) v
        have hls : llN (yL H x) (yC H x y) (v + 1) = if yL H x v = yC H x y then v + 1 else llN (yL H x) (yC H x y) v := rfl
        by_cases hc : yL H x v = yC H x y
        · rw [if_pos hc] at hls
          have hst2 := fw_step (fw := fw) hv hll
          rw [← hg] at hst2
          have hgl : g ≤ 100 := by
            rw [hg]
            have := fwN_le H x y
            unfold fwU; split; omega; split <;> omega
          by_cases hg0 : g = 0
          · have hgi : fwI g = gI 4 := by unfold fwI; rw [if_pos hg0]
            rw [if_pos hg0] at hst2
            have hgn : fwI (y - v) = jI (y - v) := by unfold fwI; rw [if_neg (by omega)]
            have ih3 := ih2 (y - v) (by rw [hls, hst2])
            rw [hgn] at ih3
            rw [hgi]
            simp (disch := omega) only [jI_0, jI_1, jI_2, jI_3, jI_4, jI_5, jI_6, jI_7, jI_8, jI_9, jI_10, jI_11, jI_12, jI_13, jI_14, jI_15, jI_16, jI_20, jI_24, jI_26, jI_30, jI_31, jI_32, jI_40, jI_48, jI_56, jI_57, jI_59, jI_60, jI_97, jI_99, jI_122, jI_160, jI_240, jI_255, jI_768, jI_1000, ↓jN_1, ↓jN_2, ↓jN_3, ↓jN_4, ↓jN_8, ↓jN_10, ↓jN_11, ↓jN_12, ↓jN_14, ↓jN_20, jI_addN, jI_le, jI_lt, jI_eq, jI_cl, jI_in, jI_add, jI_sub, jI_eqN, gI_eqI, gI_eqN, gI_leI, gI_ltI, jI_leN, jI_ltN, gI_sub, pif_tt, pif_ff, pg_tt, isB, or_true, true_or, pif_T, pif_F, pg_T, pb_S, upd_e, upd_n, fX9_years_124, fX9_years_165, fX9_years_175, f1y, f2v]
            exact ih3
          · have hgi : fwI g = jI g := by unfold fwI; rw [if_neg hg0]
            rw [if_neg hg0] at hst2
            by_cases hle : g ≤ y - v
            · rw [if_pos hle] at hst2
              have ih3 := ih2 g (by rw [hls, hst2])
              rw [hgi] at ih3 ⊢
              simp (disch := omega) only [jI_0, jI_1, jI_2, jI_3, jI_4, jI_5, jI_6, jI_7, jI_8, jI_9, jI_10, jI_11, jI_12, jI_13, jI_14, jI_15, jI_16, jI_20, jI_24, jI_26, jI_30, jI_31, jI_32, jI_40, jI_48, jI_56, jI_57, jI_59, jI_60, jI_97, jI_99, jI_122, jI_160, jI_240, jI_255, jI_768, jI_1000, ↓jN_1, ↓jN_2, ↓jN_3, ↓jN_4, ↓jN_8, ↓jN_10, ↓jN_11, ↓jN_12, ↓jN_14, ↓jN_20, jI_addN, jI_le, jI_lt, jI_eq, jI_cl, jI_in, jI_add, jI_sub, jI_eqN, gI_eqI, gI_eqN, gI_leI, gI_ltI, jI_leN, jI_ltN, gI_sub, pif_tt, pif_ff, pg_tt, isB, or_true, true_or, pif_T, pif_F, pg_T, pb_S, upd_e, upd_n, fX9_years_124, fX9_years_173, fX9_years_175, f1y, f2v]
              exact ih3
            · rw [if_neg hle] at hst2
              have hgn : fwI (y - v) = jI (y - v) := by unfold fwI; rw [if_neg (by omega)]
              have ih3 := ih2 (y - v) (by rw [hls, hst2])
              rw [hgn] at ih3
              rw [hgi]
              simp (disch := omega) only [jI_0, jI_1, jI_2, jI_3, jI_4, jI_5, jI_6, jI_7, jI_8, jI_9, jI_10, jI_11, jI_12, jI_13, jI_14, jI_15, jI_16, jI_20, jI_24, jI_26, jI_30, jI_31, jI_32, jI_40, jI_48, jI_56, jI_57, jI_59, jI_60, jI_97, jI_99, jI_122, jI_160, jI_240, jI_255, jI_768, jI_1000, ↓jN_1, ↓jN_2, ↓jN_3, ↓jN_4, ↓jN_8, ↓jN_10, ↓jN_11, ↓jN_12, ↓jN_14, ↓jN_20, jI_addN, jI_le, jI_lt, jI_eq, jI_cl, jI_in, jI_add, jI_sub, jI_eqN, gI_eqI, gI_eqN, gI_leI, gI_ltI, jI_leN, jI_ltN, gI_sub, pif_tt, pif_ff, pg_tt, isB, or_true, true_or, pif_T, pif_F, pg_T, pb_S, upd_e, upd_n, fX9_years_124, fX9_years_165, fX9_years_175, f1y, f2v]
              exact ih3
        · rw [if_neg hc] at hls
          simp (disch := omega) only [jI_0, jI_1, jI_2, jI_3, jI_4, jI_5, jI_6, jI_7, jI_8, jI_9, jI_10, jI_11, jI_12, jI_13, jI_14, jI_15, jI_16, jI_20, jI_24, jI_26, jI_30, jI_31, jI_32, jI_40, jI_48, jI_56, jI_57, jI_59, jI_60, jI_97, jI_99, jI_122, jI_160, jI_240, jI_255, jI_768, jI_1000, ↓jN_1, ↓jN_2, ↓jN_3, ↓jN_4, ↓jN_8, ↓jN_10, ↓jN_11, ↓jN_12, ↓jN_14, ↓jN_20, jI_addN, jI_le, jI_lt, jI_eq, jI_cl, jI_in, jI_add, jI_sub, jI_eqN, gI_eqI, gI_eqN, gI_leI, gI_ltI, jI_leN, jI_ltN, gI_sub, pif_tt, pif_ff, pg_tt, isB, or_true, true_or, pif_T, pif_F, pg_T, pb_S, upd_e, upd_n, fX9_years_124, fX9_years_173, fX9_years_175, f1y, f2v]
          exact ih2 g (by rw [hls]; exact hg)
      · intro fu2 g hg
        simp (disch := omega) only [jI_0, jI_1, jI_2, jI_3, jI_4, jI_5, jI_6, jI_7, jI_8, jI_9, jI_10, jI_11, jI_12, jI_13, jI_14, jI_15, jI_16, jI_20, jI_24, jI_26, jI_30, jI_31, jI_32, jI_40, jI_48, jI_56, jI_57, jI_59, jI_60, jI_97, jI_99, jI_122, jI_160, jI_240, jI_255, jI_768, jI_1000, ↓jN_1, ↓jN_2, ↓jN_3, ↓jN_4, ↓jN_8, ↓jN_10, ↓jN_11, ↓jN_12, ↓jN_14, ↓jN_20, jI_addN, jI_le, jI_lt, jI_eq, jI_cl, jI_in, jI_add, jI_sub, jI_eqN, gI_eqI, gI_eqN, gI_leI, gI_ltI, jI_leN, jI_ltN, gI_sub, pif_tt, pif_ff, pg_tt, isB, or_true, true_or, pif_T, pif_F, pg_T, pb_S, upd_e, upd_n, fX9_years_124]
        exact ih (m ||| 2 ^ yC H x y, g, r1, wdN H x (y + 1), r3, r4, r5, r6, r7, r8, r9, r10, r11, r12, r13, r14, r15) ⟨hchs, by rw [hg, h2]; rfl, by rw [hnx1]; exact b1, rfl, f1, f2, b5, kpP_tr h8 b6⟩
    · intro fu ⟨m, fw, sd, wd, c1, cfo, cfi, cfr, cgo, cla, c2, cma, c3, c4, cse, c5, c6⟩ ⟨h1, h2, h3, h4, h5, h6, h7, h8⟩
      simp only at h1 h2 h3 h4 h5 h6 h7 h8
      simp (disch := omega) only [jI_0, jI_1, jI_2, jI_3, jI_4, jI_5, jI_6, jI_7, jI_8, jI_9, jI_10, jI_11, jI_12, jI_13, jI_14, jI_15, jI_16, jI_20, jI_24, jI_26, jI_30, jI_31, jI_32, jI_40, jI_48, jI_56, jI_57, jI_59, jI_60, jI_97, jI_99, jI_122, jI_160, jI_240, jI_255, jI_768, jI_1000, ↓jN_1, ↓jN_2, ↓jN_3, ↓jN_4, ↓jN_8, ↓jN_10, ↓jN_11, ↓jN_12, ↓jN_14, ↓jN_20, jI_addN, jI_le, jI_lt, jI_eq, jI_cl, jI_in, jI_add, jI_sub, jI_eqN, gI_eqI, gI_eqN, gI_leI, gI_ltI, jI_leN, jI_ltN, gI_sub, pif_tt, pif_ff, pg_tt, isB, or_true, true_or, pif_T, pif_F, pg_T, pb_S, upd_e, upd_n, fX9_years_95]
      refine (years_195M (x := x) (by omega) hR hh hny hny2 hk h1 h2 h4 h5 h7).mono (fun q hq => ?_)
      obtain ⟨a1, a2, a3, a4, a5⟩ := hq
      exact ⟨a1, by rw [a2, a3, a4, a5]; exact h8⟩
end
