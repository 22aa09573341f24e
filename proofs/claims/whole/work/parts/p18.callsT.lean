/-! Calls that ask for the tree: worths. -/
section
variable {v_games_size : Int32} {c_games_ending : Nat → Int32} {c_games_first : Nat → Int32} {c_games_second : Nat → Int32} {v_rules_kind : Int32} {v_rules_rounds : Int32} {v_rules_sides : Int32} {c_rules_balls : Nat → Int32} {c_rules_choiceWorth : Nat → Int32} {c_rules_placeWorth : Nat → Int32} {c_rules_strength : Nat → Int32} {c_rules_wheel : Nat → Int32} {v_tree_depth : Int32} {c_tree_column : Nat → Int64} {c_tree_leaf : Nat → Int64} {c_tree_ofFirst : Nat → Int32} {c_tree_open : Nat → Int32} {v_tree_rules_kind : Int32} {v_tree_rules_rounds : Int32} {v_tree_rules_sides : Int32} {c_tree_rules_balls : Nat → Int32} {c_tree_rules_choiceWorth : Nat → Int32} {c_tree_rules_placeWorth : Nat → Int32} {c_tree_rules_strength : Nat → Int32} {c_tree_rules_wheel : Nat → Int32} {v_tree_standing_sides : Int32} {c_tree_standing_merit : Nat → Int32} {c_tree_standing_order : Nat → Int32} {c_tree_standing_outAt : Nat → Int32} {c_tree_standing_seat : Nat → Int32} {c_tree_standing_toCome : Nat → Int32} {c_tree_standing_turn : Nat → Int32} {c_tree_standing_won : Nat → Int32} {v_tree_trial_size : Int32} {c_tree_trial_ending : Nat → Int32} {c_tree_trial_first : Nat → Int32} {c_tree_trial_second : Nat → Int32} {v_open : Int32} {v_sumDown : Int64} {v_sumUp : Int64} {c_chooser : Nat → Int32} {c_firsts : Nat → Int32} {c_goes : Nat → Int32} {c_holds : Nat → Int32} {c_later : Nat → Int32} {c_many : Nat → Int32} {c_opens : Nat → Int32} {c_outs : Nat → Int32} {c_payOf : Nat → Int32} {c_placeOf : Nat → Int32} {c_seconds : Nat → Int32} {c_sideAt : Nat → Int32} {c_won : Nat → Int32}
variable {N z : Nat} {f s e H : Nat → Nat}
theorem vAll_lt {i : Nat} {L : Nat → Nat → Nat} (hdp : cnt z (isOp e) ≤ 7) (hL : ∀ r, L r i ≤ 100000) : vN (oW H z f s e) (fun r => L r i) (cnt z (isOp e)) (cnt z (isOp e)) 0 < 100000000000000 := by
  have h := vN_le (w := oW H z f s e) (L := fun r => L r i) (dp := cnt z (isOp e)) (B := 100000) (fun d _ => by
    have := oW_le H z f s e d; omega) (Or.inr trivial) (cnt z (isOp e)) 0 (Nat.le_refl _) (fun q _ => hL q) (by omega)
  have h2 : 16 ^ cnt z (isOp e) ≤ 16 ^ 7 := Nat.pow_le_pow_right (by omega) hdp
  have h3 : 16 ^ cnt z (isOp e) * 100000 ≤ 16 ^ 7 * 100000 := Nat.mul_le_mul_right _ h2
  omega
theorem sc_lt (hdp : cnt z (isOp e) ≤ 7) (hR : Rk H) : 0 < 16 ^ cnt z (isOp e) * unitN H ∧ 16 ^ cnt z (isOp e) * unitN H < 4000000000000000 := by
  have h := unitN_le hR
  have h2 : 16 ^ cnt z (isOp e) ≤ 16 ^ 7 := Nat.pow_le_pow_right (by omega) hdp
  have h3 : 16 ^ cnt z (isOp e) * unitN H ≤ 16 ^ 7 * 120 := Nat.mul_le_mul h2 h.2
  have h4 : 0 < 16 ^ cnt z (isOp e) := Nat.pow_pos (by omega)
  exact ⟨Nat.mul_pos h4 (by omega), by omega⟩
theorem c_worth (x1 x2 : Int32) (hN : 1000 ≤ N) (hR : Rk H) (hc : Rc H v_rules_kind v_rules_sides c_rules_balls c_rules_choiceWorth c_rules_placeWorth c_rules_strength c_rules_wheel) (hh : Rm H c_holds) (hk : Gk (H 0) z f s e) (hG : Gc z f s e v_games_size c_games_first c_games_second c_games_ending) (hM : Gm 0 z f s e c_many c_firsts c_seconds c_goes) : Ok ((fX8_worth N v_games_size c_games_ending c_games_first c_games_second v_rules_kind v_rules_rounds v_rules_sides c_rules_balls c_rules_choiceWorth c_rules_placeWorth c_rules_strength c_rules_wheel v_tree_depth c_tree_column c_tree_leaf c_tree_ofFirst c_tree_open v_tree_rules_kind v_tree_rules_rounds v_tree_rules_sides c_tree_rules_balls c_tree_rules_choiceWorth c_tree_rules_placeWorth c_tree_rules_strength c_tree_rules_wheel v_tree_standing_sides c_tree_standing_merit c_tree_standing_order c_tree_standing_outAt c_tree_standing_seat c_tree_standing_toCome c_tree_standing_turn c_tree_standing_won v_tree_trial_size c_tree_trial_ending c_tree_trial_first c_tree_trial_second x1 x2)) (fun a => Ok ((fX9_worth N v_open v_sumDown v_sumUp c_chooser c_firsts c_goes c_holds c_later c_many c_opens c_outs c_payOf c_placeOf c_seconds c_sideAt c_won x1 x2)) (fun b => a.1 = b.1 ∧ Gm 0 z f s e c_many c_firsts c_seconds b.2.2.2.2.2.1)) := by
  have hn := hR.2.1
  have hz := hk.2.1
  have hcl := cnt_le z (isOp e)
  have hv := hc.2.1
  subst hv
  have o1 := openOnesX (N := N) (by omega) hk hG
  have o2 := openManyM (N := N) (by omega) hk hM
  rcases side_c (N := N) x1 hR hh with ⟨i, hi, rfl, s1, s2⟩ | ⟨s1, s2⟩
  · rcases part_c (N := N) x2 with ⟨w, hw, rfl, p1, p2⟩ | ⟨p1, p2⟩
    · by_cases hd : cnt z (isOp e) ≤ 7
      · have hL : ∀ r, leafN H z f s e r i ≤ 100000 := fun r => payN_le hR hi
        have hvl := vAll_lt (H := H) (f := f) (s := s) (i := i) (L := leafN H z f s e) hd hL
        have hsc := sc_lt hd hR
        simp (disch := omega) only [jI_0, jI_1, jI_2, jI_3, jI_4, jI_5, jI_6, jI_7, jI_8, jI_9, jI_10, jI_11, jI_12, jI_13, jI_14, jI_15, jI_16, jI_20, jI_24, jI_26, jI_30, jI_31, jI_32, jI_40, jI_48, jI_56, jI_57, jI_59, jI_60, jI_97, jI_99, jI_122, jI_160, jI_240, jI_255, jI_768, jI_1000, ↓jN_1, ↓jN_2, ↓jN_3, ↓jN_4, ↓jN_8, ↓jN_10, ↓jN_11, ↓jN_12, ↓jN_14, ↓jN_20, jI_addN, jI_le, jI_lt, jI_eq, jI_cl, jI_in, jI_add, jI_sub, jI_eqN, gI_eqI, gI_eqN, gI_leI, gI_ltI, jI_leN, jI_ltN, gI_sub, pif_tt, pif_ff, pg_tt, isB, or_true, true_or, pif_T, pif_F, pg_T, pb_S, upd_e, upd_n, fX8_worth, s1, p1, o1]
        refine Ok.b (growPaysX hN hR hc hk hG hd) ?_
        intro ⟨vd, cl, co, cp, vk, vr, vs, cb, cc, cpw, cst, cwh, ss, sm, so, sou, sse, sto, stu, sw, vz, ce, cf, cs⟩ ⟨hB, hl⟩
        simp only at hB hl
        obtain ⟨rfl, b2, b3, rfl, b5⟩ := hB
        have b31 := b3.1
        have b32 := b3.2.1
        subst b31 b32
        obtain ⟨c2, e2⟩ := expectedX (N := N) (H := H) (f := f) (s := s) (i := i) (L := leafN H z f s e) (c_column := c_tree_column) hN (by omega) hd hz (fun r hr => hl r hr i hi) b2
        have e3 := scaleX (N := N) (by omega) hd hR (fun j hj => (b3.2.2 j hj).2.2.2.1)
        have e4 := partX (N := N) (wh := w) (by omega) (show vN (oW H z f s e) (fun r => leafN H z f s e r i) (cnt z (isOp e)) (cnt z (isOp e)) 0 < 9223372036854775808 by omega) hsc.2 hsc.1 hw
        simp (disch := omega) only [jI_0, jI_1, jI_2, jI_3, jI_4, jI_5, jI_6, jI_7, jI_8, jI_9, jI_10, jI_11, jI_12, jI_13, jI_14, jI_15, jI_16, jI_20, jI_24, jI_26, jI_30, jI_31, jI_32, jI_40, jI_48, jI_56, jI_57, jI_59, jI_60, jI_97, jI_99, jI_122, jI_160, jI_240, jI_255, jI_768, jI_1000, ↓jN_1, ↓jN_2, ↓jN_3, ↓jN_4, ↓jN_8, ↓jN_10, ↓jN_11, ↓jN_12, ↓jN_14, ↓jN_20, jI_addN, jI_le, jI_lt, jI_eq, jI_cl, jI_in, jI_add, jI_sub, jI_eqN, gI_eqI, gI_eqN, gI_leI, gI_ltI, jI_leN, jI_ltN, gI_sub, pif_tt, pif_ff, pg_tt, isB, or_true, true_or, pif_T, pif_F, pg_T, pb_S, upd_e, upd_n, e2, e3, e4]
        refine Ok.s ?_
        simp (disch := omega) only [jI_0, jI_1, jI_2, jI_3, jI_4, jI_5, jI_6, jI_7, jI_8, jI_9, jI_10, jI_11, jI_12, jI_13, jI_14, jI_15, jI_16, jI_20, jI_24, jI_26, jI_30, jI_31, jI_32, jI_40, jI_48, jI_56, jI_57, jI_59, jI_60, jI_97, jI_99, jI_122, jI_160, jI_240, jI_255, jI_768, jI_1000, ↓jN_1, ↓jN_2, ↓jN_3, ↓jN_4, ↓jN_8, ↓jN_10, ↓jN_11, ↓jN_12, ↓jN_14, ↓jN_20, jI_addN, jI_le, jI_lt, jI_eq, jI_cl, jI_in, jI_add, jI_sub, jI_eqN, gI_eqI, gI_eqN, gI_leI, gI_ltI, jI_leN, jI_ltN, gI_sub, pif_tt, pif_ff, pg_tt, isB, or_true, true_or, pif_T, pif_F, pg_T, pb_S, upd_e, upd_n, jL_0, jL_1, jL_2, jL_5, jL_6, jL_15, jL_16, jL_63, jI_mul, jI_L, jL_I, jL_add, jL_sub, jL_mul, fX9_worth, s2, p2, o2]
        refine Ok.b (worthAllM hN hR hh hk hM hd hi) ?_
        intro ⟨q1, q2, q3, q4, q5, q6, q7, q8, q9, q10, q11, q12⟩ ⟨u1, u2, u3⟩
        simp only at u1 u2 u3
        rw [Nat.mul_comm] at u1
        subst u1 u2
        have e5 := lowestM (N := N) (wh := w) (by omega) (show vN (oW H z f s e) (fun r => leafN H z f s e r i) (cnt z (isOp e)) (cnt z (isOp e)) 0 < 9223372036854775808 by omega) hsc.2 hsc.1 hw
        simp (disch := omega) only [jI_0, jI_1, jI_2, jI_3, jI_4, jI_5, jI_6, jI_7, jI_8, jI_9, jI_10, jI_11, jI_12, jI_13, jI_14, jI_15, jI_16, jI_20, jI_24, jI_26, jI_30, jI_31, jI_32, jI_40, jI_48, jI_56, jI_57, jI_59, jI_60, jI_97, jI_99, jI_122, jI_160, jI_240, jI_255, jI_768, jI_1000, ↓jN_1, ↓jN_2, ↓jN_3, ↓jN_4, ↓jN_8, ↓jN_10, ↓jN_11, ↓jN_12, ↓jN_14, ↓jN_20, jI_addN, jI_le, jI_lt, jI_eq, jI_cl, jI_in, jI_add, jI_sub, jI_eqN, gI_eqI, gI_eqN, gI_leI, gI_ltI, jI_leN, jI_ltN, gI_sub, pif_tt, pif_ff, pg_tt, isB, or_true, true_or, pif_T, pif_F, pg_T, pb_S, upd_e, upd_n, jL_0, jL_1, jL_2, jL_5, jL_6, jL_15, jL_16, jL_63, jI_mul, jI_L, jL_I, jL_add, jL_sub, jL_mul, e5]
        exact Ok.s ⟨rfl, u3⟩
      · simp (disch := omega) only [jI_0, jI_1, jI_2, jI_3, jI_4, jI_5, jI_6, jI_7, jI_8, jI_9, jI_10, jI_11, jI_12, jI_13, jI_14, jI_15, jI_16, jI_20, jI_24, jI_26, jI_30, jI_31, jI_32, jI_40, jI_48, jI_56, jI_57, jI_59, jI_60, jI_97, jI_99, jI_122, jI_160, jI_240, jI_255, jI_768, jI_1000, ↓jN_1, ↓jN_2, ↓jN_3, ↓jN_4, ↓jN_8, ↓jN_10, ↓jN_11, ↓jN_12, ↓jN_14, ↓jN_20, jI_addN, jI_le, jI_lt, jI_eq, jI_cl, jI_in, jI_add, jI_sub, jI_eqN, gI_eqI, gI_eqN, gI_leI, gI_ltI, jI_leN, jI_ltN, gI_sub, pif_tt, pif_ff, pg_tt, isB, or_true, true_or, pif_T, pif_F, pg_T, pb_S, upd_e, upd_n, fX8_worth, s1, p1, o1]
        refine Ok.s ?_
        simp (disch := omega) only [jI_0, jI_1, jI_2, jI_3, jI_4, jI_5, jI_6, jI_7, jI_8, jI_9, jI_10, jI_11, jI_12, jI_13, jI_14, jI_15, jI_16, jI_20, jI_24, jI_26, jI_30, jI_31, jI_32, jI_40, jI_48, jI_56, jI_57, jI_59, jI_60, jI_97, jI_99, jI_122, jI_160, jI_240, jI_255, jI_768, jI_1000, ↓jN_1, ↓jN_2, ↓jN_3, ↓jN_4, ↓jN_8, ↓jN_10, ↓jN_11, ↓jN_12, ↓jN_14, ↓jN_20, jI_addN, jI_le, jI_lt, jI_eq, jI_cl, jI_in, jI_add, jI_sub, jI_eqN, gI_eqI, gI_eqN, gI_leI, gI_ltI, jI_leN, jI_ltN, gI_sub, pif_tt, pif_ff, pg_tt, isB, or_true, true_or, pif_T, pif_F, pg_T, pb_S, upd_e, upd_n, jL_0, jL_1, jL_2, jL_5, jL_6, jL_15, jL_16, jL_63, jI_mul, jI_L, jL_I, jL_add, jL_sub, jL_mul, fX9_worth, s2, p2, o2]
        exact Ok.s ⟨rfl, hM⟩
    · simp (disch := omega) only [jI_0, jI_1, jI_2, jI_3, jI_4, jI_5, jI_6, jI_7, jI_8, jI_9, jI_10, jI_11, jI_12, jI_13, jI_14, jI_15, jI_16, jI_20, jI_24, jI_26, jI_30, jI_31, jI_32, jI_40, jI_48, jI_56, jI_57, jI_59, jI_60, jI_97, jI_99, jI_122, jI_160, jI_240, jI_255, jI_768, jI_1000, ↓jN_1, ↓jN_2, ↓jN_3, ↓jN_4, ↓jN_8, ↓jN_10, ↓jN_11, ↓jN_12, ↓jN_14, ↓jN_20, jI_addN, jI_le, jI_lt, jI_eq, jI_cl, jI_in, jI_add, jI_sub, jI_eqN, gI_eqI, gI_eqN, gI_leI, gI_ltI, jI_leN, jI_ltN, gI_sub, pif_tt, pif_ff, pg_tt, isB, or_true, true_or, pif_T, pif_F, pg_T, pb_S, upd_e, upd_n, fX8_worth, fX8_worth_15, s1, p1]
      refine Ok.s ?_
      simp (disch := omega) only [jI_0, jI_1, jI_2, jI_3, jI_4, jI_5, jI_6, jI_7, jI_8, jI_9, jI_10, jI_11, jI_12, jI_13, jI_14, jI_15, jI_16, jI_20, jI_24, jI_26, jI_30, jI_31, jI_32, jI_40, jI_48, jI_56, jI_57, jI_59, jI_60, jI_97, jI_99, jI_122, jI_160, jI_240, jI_255, jI_768, jI_1000, ↓jN_1, ↓jN_2, ↓jN_3, ↓jN_4, ↓jN_8, ↓jN_10, ↓jN_11, ↓jN_12, ↓jN_14, ↓jN_20, jI_addN, jI_le, jI_lt, jI_eq, jI_cl, jI_in, jI_add, jI_sub, jI_eqN, gI_eqI, gI_eqN, gI_leI, gI_ltI, jI_leN, jI_ltN, gI_sub, pif_tt, pif_ff, pg_tt, isB, or_true, true_or, pif_T, pif_F, pg_T, pb_S, upd_e, upd_n, jL_0, jL_1, jL_2, jL_5, jL_6, jL_15, jL_16, jL_63, jI_mul, jI_L, jL_I, jL_add, jL_sub, jL_mul, fX9_worth, fX9_worth_18, s2, p2]
      exact Ok.s ⟨rfl, hM⟩
  · simp (disch := omega) only [jI_0, jI_1, jI_2, jI_3, jI_4, jI_5, jI_6, jI_7, jI_8, jI_9, jI_10, jI_11, jI_12, jI_13, jI_14, jI_15, jI_16, jI_20, jI_24, jI_26, jI_30, jI_31, jI_32, jI_40, jI_48, jI_56, jI_57, jI_59, jI_60, jI_97, jI_99, jI_122, jI_160, jI_240, jI_255, jI_768, jI_1000, ↓jN_1, ↓jN_2, ↓jN_3, ↓jN_4, ↓jN_8, ↓jN_10, ↓jN_11, ↓jN_12, ↓jN_14, ↓jN_20, jI_addN, jI_le, jI_lt, jI_eq, jI_cl, jI_in, jI_add, jI_sub, jI_eqN, gI_eqI, gI_eqN, gI_leI, gI_ltI, jI_leN, jI_ltN, gI_sub, pif_tt, pif_ff, pg_tt, isB, or_true, true_or, pif_T, pif_F, pg_T, pb_S, upd_e, upd_n, fX8_worth, fX8_worth_15, s1]
    refine Ok.s ?_
    simp (disch := omega) only [jI_0, jI_1, jI_2, jI_3, jI_4, jI_5, jI_6, jI_7, jI_8, jI_9, jI_10, jI_11, jI_12, jI_13, jI_14, jI_15, jI_16, jI_20, jI_24, jI_26, jI_30, jI_31, jI_32, jI_40, jI_48, jI_56, jI_57, jI_59, jI_60, jI_97, jI_99, jI_122, jI_160, jI_240, jI_255, jI_768, jI_1000, ↓jN_1, ↓jN_2, ↓jN_3, ↓jN_4, ↓jN_8, ↓jN_10, ↓jN_11, ↓jN_12, ↓jN_14, ↓jN_20, jI_addN, jI_le, jI_lt, jI_eq, jI_cl, jI_in, jI_add, jI_sub, jI_eqN, gI_eqI, gI_eqN, gI_leI, gI_ltI, jI_leN, jI_ltN, gI_sub, pif_tt, pif_ff, pg_tt, isB, or_true, true_or, pif_T, pif_F, pg_T, pb_S, upd_e, upd_n, jL_0, jL_1, jL_2, jL_5, jL_6, jL_15, jL_16, jL_63, jI_mul, jI_L, jL_I, jL_add, jL_sub, jL_mul, fX9_worth, fX9_worth_18, s2]
    exact Ok.s ⟨rfl, hM⟩
theorem c_pay (x1 x2 : Int32) (hN : 1000 ≤ N) (hR : Rk H) (hc : Rc H v_rules_kind v_rules_sides c_rules_balls c_rules_choiceWorth c_rules_placeWorth c_rules_strength c_rules_wheel) (hh : Rm H c_holds) (hk : Gk (H 0) z f s e) (hG : Gc z f s e v_games_size c_games_first c_games_second c_games_ending) (hM : Gm 0 z f s e c_many c_firsts c_seconds c_goes) : Ok ((fX8_pay N v_games_size c_games_ending c_games_first c_games_second v_rules_kind v_rules_rounds v_rules_sides c_rules_balls c_rules_choiceWorth c_rules_placeWorth c_rules_strength c_rules_wheel v_tree_depth c_tree_column c_tree_leaf c_tree_ofFirst c_tree_open v_tree_rules_kind v_tree_rules_rounds v_tree_rules_sides c_tree_rules_balls c_tree_rules_choiceWorth c_tree_rules_placeWorth c_tree_rules_strength c_tree_rules_wheel v_tree_standing_sides c_tree_standing_merit c_tree_standing_order c_tree_standing_outAt c_tree_standing_seat c_tree_standing_toCome c_tree_standing_turn c_tree_standing_won v_tree_trial_size c_tree_trial_ending c_tree_trial_first c_tree_trial_second x1 x2)) (fun a => Ok ((fX9_pay N c_chooser c_firsts c_goes c_holds c_later c_many c_outs c_payOf c_placeOf c_seconds c_sideAt c_won x1 x2)) (fun b => a.1 = b.1)) := by
  have hn := hR.2.1
  have hz := hk.2.1
  have hcl := cnt_le z (isOp e)
  have hv := hc.2.1
  subst hv
  have o1 := openOnesX (N := N) (by omega) hk hG
  have o2 := openManyM (N := N) (by omega) hk hM
  rcases side_c (N := N) x1 hR hh with ⟨i, hi, rfl, s1, s2⟩ | ⟨s1, s2⟩
  · rcases part_c (N := N) x2 with ⟨w, hw, rfl, p1, p2⟩ | ⟨p1, p2⟩
    · by_cases hd0 : cnt z (isOp e) = 0
      · have hd : cnt z (isOp e) ≤ 7 := by omega
        have hL : ∀ r, leafN H z f s e r i ≤ 100000 := fun r => payN_le hR hi
        have hvl := vAll_lt (H := H) (f := f) (s := s) (i := i) (L := leafN H z f s e) hd hL
        have hsc := sc_lt hd hR
        have hM2 : Gm 0 z f s (eR e z 0) c_many c_firsts c_seconds c_goes := ⟨hM.1, fun g hg => by
          obtain ⟨a, b, c⟩ := hM.2 g hg
          refine ⟨a, b, ?_⟩
          rw [eR_else, c]
          intro h2
          have := cnt_lt_of hg (isOp_iff.mpr h2)
          omega⟩
        have hun := unitN_le hR
        simp (disch := omega) only [jI_0, jI_1, jI_2, jI_3, jI_4, jI_5, jI_6, jI_7, jI_8, jI_9, jI_10, jI_11, jI_12, jI_13, jI_14, jI_15, jI_16, jI_20, jI_24, jI_26, jI_30, jI_31, jI_32, jI_40, jI_48, jI_56, jI_57, jI_59, jI_60, jI_97, jI_99, jI_122, jI_160, jI_240, jI_255, jI_768, jI_1000, ↓jN_1, ↓jN_2, ↓jN_3, ↓jN_4, ↓jN_8, ↓jN_10, ↓jN_11, ↓jN_12, ↓jN_14, ↓jN_20, jI_addN, jI_le, jI_lt, jI_eq, jI_cl, jI_in, jI_add, jI_sub, jI_eqN, gI_eqI, gI_eqN, gI_leI, gI_ltI, jI_leN, jI_ltN, gI_sub, pif_tt, pif_ff, pg_tt, isB, or_true, true_or, pif_T, pif_F, pg_T, pb_S, upd_e, upd_n, fX8_pay, s1, p1, o1]
        refine Ok.b (growPaysX hN hR hc hk hG hd) ?_
        intro ⟨vd, cl, co, cp, vk, vr, vs, cb, cc, cpw, cst, cwh, ss, sm, so, sou, sse, sto, stu, sw, vz, ce, cf, cs⟩ ⟨hB, hl⟩
        simp only at hB hl
        obtain ⟨rfl, b2, b3, rfl, b5⟩ := hB
        have b31 := b3.1
        have b32 := b3.2.1
        subst b31 b32
        obtain ⟨c2, e2⟩ := expectedX (N := N) (H := H) (f := f) (s := s) (i := i) (L := leafN H z f s e) (c_column := c_tree_column) hN (by omega) hd hz (fun r hr => hl r hr i hi) b2
        have e3 := scaleX (N := N) (by omega) hd hR (fun j hj => (b3.2.2 j hj).2.2.2.1)
        have e4 := partX (N := N) (wh := w) (by omega) (show vN (oW H z f s e) (fun r => leafN H z f s e r i) (cnt z (isOp e)) (cnt z (isOp e)) 0 < 9223372036854775808 by omega) hsc.2 hsc.1 hw
        simp (disch := omega) only [jI_0, jI_1, jI_2, jI_3, jI_4, jI_5, jI_6, jI_7, jI_8, jI_9, jI_10, jI_11, jI_12, jI_13, jI_14, jI_15, jI_16, jI_20, jI_24, jI_26, jI_30, jI_31, jI_32, jI_40, jI_48, jI_56, jI_57, jI_59, jI_60, jI_97, jI_99, jI_122, jI_160, jI_240, jI_255, jI_768, jI_1000, ↓jN_1, ↓jN_2, ↓jN_3, ↓jN_4, ↓jN_8, ↓jN_10, ↓jN_11, ↓jN_12, ↓jN_14, ↓jN_20, jI_addN, jI_le, jI_lt, jI_eq, jI_cl, jI_in, jI_add, jI_sub, jI_eqN, gI_eqI, gI_eqN, gI_leI, gI_ltI, jI_leN, jI_ltN, gI_sub, pif_tt, pif_ff, pg_tt, isB, or_true, true_or, pif_T, pif_F, pg_T, pb_S, upd_e, upd_n, e2, e3, e4]
        refine Ok.s ?_
        simp (disch := omega) only [jI_0, jI_1, jI_2, jI_3, jI_4, jI_5, jI_6, jI_7, jI_8, jI_9, jI_10, jI_11, jI_12, jI_13, jI_14, jI_15, jI_16, jI_20, jI_24, jI_26, jI_30, jI_31, jI_32, jI_40, jI_48, jI_56, jI_57, jI_59, jI_60, jI_97, jI_99, jI_122, jI_160, jI_240, jI_255, jI_768, jI_1000, ↓jN_1, ↓jN_2, ↓jN_3, ↓jN_4, ↓jN_8, ↓jN_10, ↓jN_11, ↓jN_12, ↓jN_14, ↓jN_20, jI_addN, jI_le, jI_lt, jI_eq, jI_cl, jI_in, jI_add, jI_sub, jI_eqN, gI_eqI, gI_eqN, gI_leI, gI_ltI, jI_leN, jI_ltN, gI_sub, pif_tt, pif_ff, pg_tt, isB, or_true, true_or, pif_T, pif_F, pg_T, pb_S, upd_e, upd_n, jL_0, jL_1, jL_2, jL_5, jL_6, jL_15, jL_16, jL_63, jI_mul, jI_L, jL_I, jL_add, jL_sub, jL_mul, fX9_pay, s2, p2, o2]
        refine Ok.b (layPaysM (by omega) hR hh (Gk_eR (r := 0) hk) hM2) ?_
        intro ⟨q1, q2, q3, q4, q5, q6, q7⟩ ⟨u1, u2⟩
        simp only at u1 u2
        have u1i := u1 i hi
        have hpl := payN_le (W := wonN f s (eR e z 0) z) (M := merT (H 0) f s (eR e z 0) z z) hR hi
        have e6 := unitM (N := N) (by omega) hR hh
        have e5 := lowestM (N := N) (a := payN H (wonN f s (eR e z 0) z) (merT (H 0) f s (eR e z 0) z z) i) (b := unitN H) (wh := w) (by omega) (by omega) (by omega) (by omega) hw
        simp (disch := omega) only [jI_0, jI_1, jI_2, jI_3, jI_4, jI_5, jI_6, jI_7, jI_8, jI_9, jI_10, jI_11, jI_12, jI_13, jI_14, jI_15, jI_16, jI_20, jI_24, jI_26, jI_30, jI_31, jI_32, jI_40, jI_48, jI_56, jI_57, jI_59, jI_60, jI_97, jI_99, jI_122, jI_160, jI_240, jI_255, jI_768, jI_1000, ↓jN_1, ↓jN_2, ↓jN_3, ↓jN_4, ↓jN_8, ↓jN_10, ↓jN_11, ↓jN_12, ↓jN_14, ↓jN_20, jI_addN, jI_le, jI_lt, jI_eq, jI_cl, jI_in, jI_add, jI_sub, jI_eqN, gI_eqI, gI_eqN, gI_leI, gI_ltI, jI_leN, jI_ltN, gI_sub, pif_tt, pif_ff, pg_tt, isB, or_true, true_or, pif_T, pif_F, pg_T, pb_S, upd_e, upd_n, jL_0, jL_1, jL_2, jL_5, jL_6, jL_15, jL_16, jL_63, jI_mul, jI_L, jL_I, jL_add, jL_sub, jL_mul, u1i, e6, e5]
        refine Ok.s ?_
        rw [hd0]
        simp only [vN, Nat.pow_zero, Nat.one_mul]
        rfl
      · simp (disch := omega) only [jI_0, jI_1, jI_2, jI_3, jI_4, jI_5, jI_6, jI_7, jI_8, jI_9, jI_10, jI_11, jI_12, jI_13, jI_14, jI_15, jI_16, jI_20, jI_24, jI_26, jI_30, jI_31, jI_32, jI_40, jI_48, jI_56, jI_57, jI_59, jI_60, jI_97, jI_99, jI_122, jI_160, jI_240, jI_255, jI_768, jI_1000, ↓jN_1, ↓jN_2, ↓jN_3, ↓jN_4, ↓jN_8, ↓jN_10, ↓jN_11, ↓jN_12, ↓jN_14, ↓jN_20, jI_addN, jI_le, jI_lt, jI_eq, jI_cl, jI_in, jI_add, jI_sub, jI_eqN, gI_eqI, gI_eqN, gI_leI, gI_ltI, jI_leN, jI_ltN, gI_sub, pif_tt, pif_ff, pg_tt, isB, or_true, true_or, pif_T, pif_F, pg_T, pb_S, upd_e, upd_n, fX8_pay, s1, p1, o1]
        refine Ok.s ?_
        simp (disch := omega) only [jI_0, jI_1, jI_2, jI_3, jI_4, jI_5, jI_6, jI_7, jI_8, jI_9, jI_10, jI_11, jI_12, jI_13, jI_14, jI_15, jI_16, jI_20, jI_24, jI_26, jI_30, jI_31, jI_32, jI_40, jI_48, jI_56, jI_57, jI_59, jI_60, jI_97, jI_99, jI_122, jI_160, jI_240, jI_255, jI_768, jI_1000, ↓jN_1, ↓jN_2, ↓jN_3, ↓jN_4, ↓jN_8, ↓jN_10, ↓jN_11, ↓jN_12, ↓jN_14, ↓jN_20, jI_addN, jI_le, jI_lt, jI_eq, jI_cl, jI_in, jI_add, jI_sub, jI_eqN, gI_eqI, gI_eqN, gI_leI, gI_ltI, jI_leN, jI_ltN, gI_sub, pif_tt, pif_ff, pg_tt, isB, or_true, true_or, pif_T, pif_F, pg_T, pb_S, upd_e, upd_n, jL_0, jL_1, jL_2, jL_5, jL_6, jL_15, jL_16, jL_63, jI_mul, jI_L, jL_I, jL_add, jL_sub, jL_mul, fX9_pay, s2, p2, o2]
        exact Ok.s rfl
    · simp (disch := omega) only [jI_0, jI_1, jI_2, jI_3, jI_4, jI_5, jI_6, jI_7, jI_8, jI_9, jI_10, jI_11, jI_12, jI_13, jI_14, jI_15, jI_16, jI_20, jI_24, jI_26, jI_30, jI_31, jI_32, jI_40, jI_48, jI_56, jI_57, jI_59, jI_60, jI_97, jI_99, jI_122, jI_160, jI_240, jI_255, jI_768, jI_1000, ↓jN_1, ↓jN_2, ↓jN_3, ↓jN_4, ↓jN_8, ↓jN_10, ↓jN_11, ↓jN_12, ↓jN_14, ↓jN_20, jI_addN, jI_le, jI_lt, jI_eq, jI_cl, jI_in, jI_add, jI_sub, jI_eqN, gI_eqI, gI_eqN, gI_leI, gI_ltI, jI_leN, jI_ltN, gI_sub, pif_tt, pif_ff, pg_tt, isB, or_true, true_or, pif_T, pif_F, pg_T, pb_S, upd_e, upd_n, fX8_pay, fX8_pay_15, s1, p1]
      refine Ok.s ?_
      simp (disch := omega) only [jI_0, jI_1, jI_2, jI_3, jI_4, jI_5, jI_6, jI_7, jI_8, jI_9, jI_10, jI_11, jI_12, jI_13, jI_14, jI_15, jI_16, jI_20, jI_24, jI_26, jI_30, jI_31, jI_32, jI_40, jI_48, jI_56, jI_57, jI_59, jI_60, jI_97, jI_99, jI_122, jI_160, jI_240, jI_255, jI_768, jI_1000, ↓jN_1, ↓jN_2, ↓jN_3, ↓jN_4, ↓jN_8, ↓jN_10, ↓jN_11, ↓jN_12, ↓jN_14, ↓jN_20, jI_addN, jI_le, jI_lt, jI_eq, jI_cl, jI_in, jI_add, jI_sub, jI_eqN, gI_eqI, gI_eqN, gI_leI, gI_ltI, jI_leN, jI_ltN, gI_sub, pif_tt, pif_ff, pg_tt, isB, or_true, true_or, pif_T, pif_F, pg_T, pb_S, upd_e, upd_n, jL_0, jL_1, jL_2, jL_5, jL_6, jL_15, jL_16, jL_63, jI_mul, jI_L, jL_I, jL_add, jL_sub, jL_mul, fX9_pay, fX9_pay_18, s2, p2]
      exact Ok.s rfl
  · simp (disch := omega) only [jI_0, jI_1, jI_2, jI_3, jI_4, jI_5, jI_6, jI_7, jI_8, jI_9, jI_10, jI_11, jI_12, jI_13, jI_14, jI_15, jI_16, jI_20, jI_24, jI_26, jI_30, jI_31, jI_32, jI_40, jI_48, jI_56, jI_57, jI_59, jI_60, jI_97, jI_99, jI_122, jI_160, jI_240, jI_255, jI_768, jI_1000, ↓jN_1, ↓jN_2, ↓jN_3, ↓jN_4, ↓jN_8, ↓jN_10, ↓jN_11, ↓jN_12, ↓jN_14, ↓jN_20, jI_addN, jI_le, jI_lt, jI_eq, jI_cl, jI_in, jI_add, jI_sub, jI_eqN, gI_eqI, gI_eqN, gI_leI, gI_ltI, jI_leN, jI_ltN, gI_sub, pif_tt, pif_ff, pg_tt, isB, or_true, true_or, pif_T, pif_F, pg_T, pb_S, upd_e, upd_n, fX8_pay, fX8_pay_15, s1]
    refine Ok.s ?_
    simp (disch := omega) only [jI_0, jI_1, jI_2, jI_3, jI_4, jI_5, jI_6, jI_7, jI_8, jI_9, jI_10, jI_11, jI_12, jI_13, jI_14, jI_15, jI_16, jI_20, jI_24, jI_26, jI_30, jI_31, jI_32, jI_40, jI_48, jI_56, jI_57, jI_59, jI_60, jI_97, jI_99, jI_122, jI_160, jI_240, jI_255, jI_768, jI_1000, ↓jN_1, ↓jN_2, ↓jN_3, ↓jN_4, ↓jN_8, ↓jN_10, ↓jN_11, ↓jN_12, ↓jN_14, ↓jN_20, jI_addN, jI_le, jI_lt, jI_eq, jI_cl, jI_in, jI_add, jI_sub, jI_eqN, gI_eqI, gI_eqN, gI_leI, gI_ltI, jI_leN, jI_ltN, gI_sub, pif_tt, pif_ff, pg_tt, isB, or_true, true_or, pif_T, pif_F, pg_T, pb_S, upd_e, upd_n, jL_0, jL_1, jL_2, jL_5, jL_6, jL_15, jL_16, jL_63, jI_mul, jI_L, jL_I, jL_add, jL_sub, jL_mul, fX9_pay, fX9_pay_18, s2]
    exact Ok.s rfl
theorem open_c (x : Int32) {n : Nat} (hk : Gk n z f s e) (hG : Gc z f s e v_games_size c_games_first c_games_second c_games_ending) (hM : Gm 0 z f s e c_many c_firsts c_seconds c_goes) : (∃ kf, kf < cnt z (isOp e) ∧ x = jI (opN z (isOp e) kf) ∧ fX0_isOpen N v_games_size c_games_ending (jI (opN z (isOp e) kf)) = some (jI 1) ∧ fX9_isOpen N c_goes c_many (jI (opN z (isOp e) kf)) = some (jI 1)) ∨ (fX0_isOpen N v_games_size c_games_ending x = some (jI 0) ∧ fX9_isOpen N c_goes c_many x = some (jI 0)) := by
  have hz := hk.2.1
  have hm := hM.1
  have hGz := hG.1
  subst hGz
  rcases game_c (N := N) x hz hm with ⟨g, hg, rfl, s1, s2⟩ | ⟨s1, s2⟩
  · obtain ⟨g1, g2, g3⟩ := hG.2 g hg
    obtain ⟨m1, m2, m3⟩ := hM.2 g hg
    rw [show 30 * 0 + g = g by omega] at m3
    have h4 := (hk.2.2 g hg).2.2.2
    by_cases h : e g = 2
    · refine Or.inl ⟨cnt g (isOp e), cnt_lt_of hg (isOp_iff.mpr h), ?_, ?_, ?_⟩
      · rw [op_of hg (isOp_iff.mpr h)]
      · rw [op_of hg (isOp_iff.mpr h)]
        simp (disch := omega) only [jI_0, jI_1, jI_2, jI_3, jI_4, jI_5, jI_6, jI_7, jI_8, jI_9, jI_10, jI_11, jI_12, jI_13, jI_14, jI_15, jI_16, jI_20, jI_24, jI_26, jI_30, jI_31, jI_32, jI_40, jI_48, jI_56, jI_57, jI_59, jI_60, jI_97, jI_99, jI_122, jI_160, jI_240, jI_255, jI_768, jI_1000, ↓jN_1, ↓jN_2, ↓jN_3, ↓jN_4, ↓jN_8, ↓jN_10, ↓jN_11, ↓jN_12, ↓jN_14, ↓jN_20, jI_addN, jI_le, jI_lt, jI_eq, jI_cl, jI_in, jI_add, jI_sub, jI_eqN, gI_eqI, gI_eqN, gI_leI, gI_ltI, jI_leN, jI_ltN, gI_sub, pif_tt, pif_ff, pg_tt, isB, or_true, true_or, pif_T, pif_F, pg_T, pb_S, upd_e, upd_n, fX0_isOpen, fX0_isOpen_23, s1, g3]
      · rw [op_of hg (isOp_iff.mpr h)]
        simp (disch := omega) only [jI_0, jI_1, jI_2, jI_3, jI_4, jI_5, jI_6, jI_7, jI_8, jI_9, jI_10, jI_11, jI_12, jI_13, jI_14, jI_15, jI_16, jI_20, jI_24, jI_26, jI_30, jI_31, jI_32, jI_40, jI_48, jI_56, jI_57, jI_59, jI_60, jI_97, jI_99, jI_122, jI_160, jI_240, jI_255, jI_768, jI_1000, ↓jN_1, ↓jN_2, ↓jN_3, ↓jN_4, ↓jN_8, ↓jN_10, ↓jN_11, ↓jN_12, ↓jN_14, ↓jN_20, jI_addN, jI_le, jI_lt, jI_eq, jI_cl, jI_in, jI_add, jI_sub, jI_eqN, gI_eqI, gI_eqN, gI_leI, gI_ltI, jI_leN, jI_ltN, gI_sub, pif_tt, pif_ff, pg_tt, isB, or_true, true_or, pif_T, pif_F, pg_T, pb_S, upd_e, upd_n, fX9_isOpen, fX9_isOpen_23, s2, m3]
    · refine Or.inr ⟨?_, ?_⟩
      · simp (disch := omega) only [jI_0, jI_1, jI_2, jI_3, jI_4, jI_5, jI_6, jI_7, jI_8, jI_9, jI_10, jI_11, jI_12, jI_13, jI_14, jI_15, jI_16, jI_20, jI_24, jI_26, jI_30, jI_31, jI_32, jI_40, jI_48, jI_56, jI_57, jI_59, jI_60, jI_97, jI_99, jI_122, jI_160, jI_240, jI_255, jI_768, jI_1000, ↓jN_1, ↓jN_2, ↓jN_3, ↓jN_4, ↓jN_8, ↓jN_10, ↓jN_11, ↓jN_12, ↓jN_14, ↓jN_20, jI_addN, jI_le, jI_lt, jI_eq, jI_cl, jI_in, jI_add, jI_sub, jI_eqN, gI_eqI, gI_eqN, gI_leI, gI_ltI, jI_leN, jI_ltN, gI_sub, pif_tt, pif_ff, pg_tt, isB, or_true, true_or, pif_T, pif_F, pg_T, pb_S, upd_e, upd_n, fX0_isOpen, fX0_isOpen_22, fX0_isOpen_23, s1, g3]
      · simp (disch := omega) only [jI_0, jI_1, jI_2, jI_3, jI_4, jI_5, jI_6, jI_7, jI_8, jI_9, jI_10, jI_11, jI_12, jI_13, jI_14, jI_15, jI_16, jI_20, jI_24, jI_26, jI_30, jI_31, jI_32, jI_40, jI_48, jI_56, jI_57, jI_59, jI_60, jI_97, jI_99, jI_122, jI_160, jI_240, jI_255, jI_768, jI_1000, ↓jN_1, ↓jN_2, ↓jN_3, ↓jN_4, ↓jN_8, ↓jN_10, ↓jN_11, ↓jN_12, ↓jN_14, ↓jN_20, jI_addN, jI_le, jI_lt, jI_eq, jI_cl, jI_in, jI_add, jI_sub, jI_eqN, gI_eqI, gI_eqN, gI_leI, gI_ltI, jI_leN, jI_ltN, gI_sub, pif_tt, pif_ff, pg_tt, isB, or_true, true_or, pif_T, pif_F, pg_T, pb_S, upd_e, upd_n, fX9_isOpen, fX9_isOpen_22, fX9_isOpen_23, s2, m3]
  · refine Or.inr ⟨?_, ?_⟩
    · simp (disch := omega) only [jI_0, jI_1, jI_2, jI_3, jI_4, jI_5, jI_6, jI_7, jI_8, jI_9, jI_10, jI_11, jI_12, jI_13, jI_14, jI_15, jI_16, jI_20, jI_24, jI_26, jI_30, jI_31, jI_32, jI_40, jI_48, jI_56, jI_57, jI_59, jI_60, jI_97, jI_99, jI_122, jI_160, jI_240, jI_255, jI_768, jI_1000, ↓jN_1, ↓jN_2, ↓jN_3, ↓jN_4, ↓jN_8, ↓jN_10, ↓jN_11, ↓jN_12, ↓jN_14, ↓jN_20, jI_addN, jI_le, jI_lt, jI_eq, jI_cl, jI_in, jI_add, jI_sub, jI_eqN, gI_eqI, gI_eqN, gI_leI, gI_ltI, jI_leN, jI_ltN, gI_sub, pif_tt, pif_ff, pg_tt, isB, or_true, true_or, pif_T, pif_F, pg_T, pb_S, upd_e, upd_n, fX0_isOpen, fX0_isOpen_22, fX0_isOpen_23, s1]
    · simp (disch := omega) only [jI_0, jI_1, jI_2, jI_3, jI_4, jI_5, jI_6, jI_7, jI_8, jI_9, jI_10, jI_11, jI_12, jI_13, jI_14, jI_15, jI_16, jI_20, jI_24, jI_26, jI_30, jI_31, jI_32, jI_40, jI_48, jI_56, jI_57, jI_59, jI_60, jI_97, jI_99, jI_122, jI_160, jI_240, jI_255, jI_768, jI_1000, ↓jN_1, ↓jN_2, ↓jN_3, ↓jN_4, ↓jN_8, ↓jN_10, ↓jN_11, ↓jN_12, ↓jN_14, ↓jN_20, jI_addN, jI_le, jI_lt, jI_eq, jI_cl, jI_in, jI_add, jI_sub, jI_eqN, gI_eqI, gI_eqN, gI_leI, gI_ltI, jI_leN, jI_ltN, gI_sub, pif_tt, pif_ff, pg_tt, isB, or_true, true_or, pif_T, pif_F, pg_T, pb_S, upd_e, upd_n, fX9_isOpen, fX9_isOpen_22, fX9_isOpen_23, s2]
theorem gcd16 (a b w : Nat) : (if w = 0 then 16 * a else 16 * b) / Nat.gcd (16 * a) (16 * b) = (if w = 0 then a else b) / Nat.gcd a b := by
  rw [Nat.gcd_mul_left]
  split <;> rw [Nat.mul_div_mul_left _ _ (by omega)]
theorem c_worthIf (x1 x2 x4 : Int32) {wn : Nat} (hwn : wn < 2) (hN : 1000 ≤ N) (hR : Rk H) (hc : Rc H v_rules_kind v_rules_sides c_rules_balls c_rules_choiceWorth c_rules_placeWorth c_rules_strength c_rules_wheel) (hh : Rm H c_holds) (hk : Gk (H 0) z f s e) (hG : Gc z f s e v_games_size c_games_first c_games_second c_games_ending) (hM : Gm 0 z f s e c_many c_firsts c_seconds c_goes) : Ok ((fX8_worthIf N v_games_size c_games_ending c_games_first c_games_second v_rules_kind v_rules_rounds v_rules_sides c_rules_balls c_rules_choiceWorth c_rules_placeWorth c_rules_strength c_rules_wheel v_tree_depth c_tree_column c_tree_leaf c_tree_ofFirst c_tree_open v_tree_rules_kind v_tree_rules_rounds v_tree_rules_sides c_tree_rules_balls c_tree_rules_choiceWorth c_tree_rules_placeWorth c_tree_rules_strength c_tree_rules_wheel v_tree_standing_sides c_tree_standing_merit c_tree_standing_order c_tree_standing_outAt c_tree_standing_seat c_tree_standing_toCome c_tree_standing_turn c_tree_standing_won v_tree_trial_size c_tree_trial_ending c_tree_trial_first c_tree_trial_second x1 x2 (jI wn) x4)) (fun a => Ok ((fX9_worthIf N v_open v_sumDown v_sumUp c_chooser c_firsts c_goes c_holds c_later c_many c_opens c_outs c_payOf c_placeOf c_seconds c_sideAt c_won x1 x2 (jI wn) x4)) (fun b => a.1 = b.1 ∧ Gm 0 z f s e c_many c_firsts c_seconds b.2.2.2.2.2.1)) := by
  have hn := hR.2.1
  have hz := hk.2.1
  have hcl := cnt_le z (isOp e)
  have hv := hc.2.1
  subst hv
  have o1 := openOnesX (N := N) (by omega) hk hG
  have o2 := openManyM (N := N) (by omega) hk hM
  rcases side_c (N := N) x1 hR hh with ⟨i, hi, rfl, s1, s2⟩ | ⟨s1, s2⟩
  · rcases open_c (N := N) x2 hk hG hM with ⟨kf, hkf, rfl, g1, g2⟩ | ⟨g1, g2⟩
    · have ok := op_ok hkf
      have ok1 := ok.1
      obtain ⟨k1, k2, k3, k4⟩ := hk.2.2 _ ok1
      obtain ⟨d1, d2, d3⟩ := hG.2 _ ok1
      obtain ⟨m1, m2, m3⟩ := hM.2 _ ok1
      rw [show ∀ g, 30 * 0 + g = g from fun g => by omega] at m1 m2 m3
      have io := isOfX (N := N) (i := i) hk hn hG.1 ok1 (by omega) ⟨d1, d2⟩
      cases hb : ownB f s (opN z (isOp e) kf) i
      · rw [hb] at io
        simp only [Bool.false_eq_true, if_false] at io
        have hne : ¬ (f (opN z (isOp e) kf) = i ∨ s (opN z (isOp e) kf) = i) := by simpa [ownB] using hb
        simp (disch := omega) only [jI_0, jI_1, jI_2, jI_3, jI_4, jI_5, jI_6, jI_7, jI_8, jI_9, jI_10, jI_11, jI_12, jI_13, jI_14, jI_15, jI_16, jI_20, jI_24, jI_26, jI_30, jI_31, jI_32, jI_40, jI_48, jI_56, jI_57, jI_59, jI_60, jI_97, jI_99, jI_122, jI_160, jI_240, jI_255, jI_768, jI_1000, ↓jN_1, ↓jN_2, ↓jN_3, ↓jN_4, ↓jN_8, ↓jN_10, ↓jN_11, ↓jN_12, ↓jN_14, ↓jN_20, jI_addN, jI_le, jI_lt, jI_eq, jI_cl, jI_in, jI_add, jI_sub, jI_eqN, gI_eqI, gI_eqN, gI_leI, gI_ltI, jI_leN, jI_ltN, gI_sub, pif_tt, pif_ff, pg_tt, isB, or_true, true_or, pif_T, pif_F, pg_T, pb_S, upd_e, upd_n, fX8_worthIf, fX8_worthIf_39, s1, g1, io]
        refine Ok.s ?_
        simp (disch := omega) only [jI_0, jI_1, jI_2, jI_3, jI_4, jI_5, jI_6, jI_7, jI_8, jI_9, jI_10, jI_11, jI_12, jI_13, jI_14, jI_15, jI_16, jI_20, jI_24, jI_26, jI_30, jI_31, jI_32, jI_40, jI_48, jI_56, jI_57, jI_59, jI_60, jI_97, jI_99, jI_122, jI_160, jI_240, jI_255, jI_768, jI_1000, ↓jN_1, ↓jN_2, ↓jN_3, ↓jN_4, ↓jN_8, ↓jN_10, ↓jN_11, ↓jN_12, ↓jN_14, ↓jN_20, jI_addN, jI_le, jI_lt, jI_eq, jI_cl, jI_in, jI_add, jI_sub, jI_eqN, gI_eqI, gI_eqN, gI_leI, gI_ltI, jI_leN, jI_ltN, gI_sub, pif_tt, pif_ff, pg_tt, isB, or_true, true_or, pif_T, pif_F, pg_T, pb_S, upd_e, upd_n, fX9_worthIf, fX9_worthIf_47, s2, g2, m1, m2]
        exact Ok.s ⟨rfl, hM⟩
      · rw [hb] at io
        simp only [if_true] at io
        have hor : f (opN z (isOp e) kf) = i ∨ s (opN z (isOp e) kf) = i := by simpa [ownB] using hb
        have h36 : (fX9_worthIf N v_open v_sumDown v_sumUp c_chooser c_firsts c_goes c_holds c_later c_many c_opens c_outs c_payOf c_placeOf c_seconds c_sideAt c_won (jI i) (jI (opN z (isOp e) kf)) (jI wn) x4) = (fX9_worthIf_36 N c_firsts c_holds c_many c_seconds (jI i) (jI (opN z (isOp e) kf)) (jI wn) x4 v_open v_sumDown v_sumUp c_chooser c_goes c_later c_opens c_outs c_payOf c_placeOf c_sideAt c_won) := by
          by_cases hf : f (opN z (isOp e) kf) = i
          · simp (disch := omega) only [jI_0, jI_1, jI_2, jI_3, jI_4, jI_5, jI_6, jI_7, jI_8, jI_9, jI_10, jI_11, jI_12, jI_13, jI_14, jI_15, jI_16, jI_20, jI_24, jI_26, jI_30, jI_31, jI_32, jI_40, jI_48, jI_56, jI_57, jI_59, jI_60, jI_97, jI_99, jI_122, jI_160, jI_240, jI_255, jI_768, jI_1000, ↓jN_1, ↓jN_2, ↓jN_3, ↓jN_4, ↓jN_8, ↓jN_10, ↓jN_11, ↓jN_12, ↓jN_14, ↓jN_20, jI_addN, jI_le, jI_lt, jI_eq, jI_cl, jI_in, jI_add, jI_sub, jI_eqN, gI_eqI, gI_eqN, gI_leI, gI_ltI, jI_leN, jI_ltN, gI_sub, pif_tt, pif_ff, pg_tt, isB, or_true, true_or, pif_T, pif_F, pg_T, pb_S, upd_e, upd_n, fX9_worthIf, s2, g2, m1, m2]
          · have hs2 : s (opN z (isOp e) kf) = i := by omega
            simp (disch := omega) only [jI_0, jI_1, jI_2, jI_3, jI_4, jI_5, jI_6, jI_7, jI_8, jI_9, jI_10, jI_11, jI_12, jI_13, jI_14, jI_15, jI_16, jI_20, jI_24, jI_26, jI_30, jI_31, jI_32, jI_40, jI_48, jI_56, jI_57, jI_59, jI_60, jI_97, jI_99, jI_122, jI_160, jI_240, jI_255, jI_768, jI_1000, ↓jN_1, ↓jN_2, ↓jN_3, ↓jN_4, ↓jN_8, ↓jN_10, ↓jN_11, ↓jN_12, ↓jN_14, ↓jN_20, jI_addN, jI_le, jI_lt, jI_eq, jI_cl, jI_in, jI_add, jI_sub, jI_eqN, gI_eqI, gI_eqN, gI_leI, gI_ltI, jI_leN, jI_ltN, gI_sub, pif_tt, pif_ff, pg_tt, isB, or_true, true_or, pif_T, pif_F, pg_T, pb_S, upd_e, upd_n, fX9_worthIf, s2, g2, m1, m2]
        rcases part_c (N := N) x4 with ⟨w, hw, rfl, p1, p2⟩ | ⟨p1, p2⟩
        · by_cases hd : cnt z (isOp e) ≤ 7
          · have hL : ∀ r, leafN H z f s e r i ≤ 100000 := fun r => payN_le hR hi
            have hsc := sc_lt hd hR
            simp (disch := omega) only [jI_0, jI_1, jI_2, jI_3, jI_4, jI_5, jI_6, jI_7, jI_8, jI_9, jI_10, jI_11, jI_12, jI_13, jI_14, jI_15, jI_16, jI_20, jI_24, jI_26, jI_30, jI_31, jI_32, jI_40, jI_48, jI_56, jI_57, jI_59, jI_60, jI_97, jI_99, jI_122, jI_160, jI_240, jI_255, jI_768, jI_1000, ↓jN_1, ↓jN_2, ↓jN_3, ↓jN_4, ↓jN_8, ↓jN_10, ↓jN_11, ↓jN_12, ↓jN_14, ↓jN_20, jI_addN, jI_le, jI_lt, jI_eq, jI_cl, jI_in, jI_add, jI_sub, jI_eqN, gI_eqI, gI_eqN, gI_leI, gI_ltI, jI_leN, jI_ltN, gI_sub, pif_tt, pif_ff, pg_tt, isB, or_true, true_or, pif_T, pif_F, pg_T, pb_S, upd_e, upd_n, fX8_worthIf, s1, g1, io, p1, o1]
            refine Ok.b (growPaysX hN hR hc hk hG hd) ?_
            intro ⟨vd, cl, co, cp, vk, vr, vs, cb, cc, cpw, cst, cwh, ss, sm, so, sou, sse, sto, stu, sw, vz, ce, cf, cs⟩ ⟨hB, hl⟩
            simp only at hB hl
            obtain ⟨rfl, b2, b3, rfl, b5⟩ := hB
            have b31 := b3.1
            have b32 := b3.2.1
            subst b31 b32
            obtain ⟨c2, e2⟩ := expectedIfX (N := N) (H := H) (f := f) (s := s) (i := i) (L := leafN H z f s e) (won := wn) (c_column := c_tree_column) hN (by omega) hd hz hkf hwn (b5 _ ok1).1 (by omega) (fun r hr => hl r hr i hi) b2
            have e3 := scaleX (N := N) (by omega) hd hR (fun j hj => (b3.2.2 j hj).2.2.2.1)
            have main : ∀ how, how < 2 → how = (if f (opN z (isOp e) kf) = i then 1 - wn else wn) → Ok ((fX9_worthIf_91 N c_firsts c_holds c_many c_seconds (jI i) (jI (opN z (isOp e) kf)) (jI wn) (jI w) (jI i) (jI (opN z (isOp e) kf)) (jI how) v_open v_sumDown v_sumUp c_chooser c_goes c_later c_opens c_outs c_payOf c_placeOf c_sideAt c_won)) (fun b => jL ((if w = 0 then wV H z f s e (leafN H z f s e) i kf how else 16 ^ cnt z (isOp e) * unitN H) / Nat.gcd (wV H z f s e (leafN H z f s e) i kf how) (16 ^ cnt z (isOp e) * unitN H)) = b.1 ∧ Gm 0 z f s e c_many c_firsts c_seconds b.2.2.2.2.2.1) := by
              intro how hhow hhe
              have wl := wV_lt (H := H) (f := f) (s := s) (kf := kf) (how := how) (i := i) (L := leafN H z f s e) hd hL
              have w1 := wV_sNf (H := H) (f := f) (s := s) (i := i) hkf hhow
              have w2 := dnN_fix (kf := kf) (cnt z (isOp e)) hkf
              have w3 : 16 ^ cnt z (isOp e) * unitN H = 16 * (unitN H * dnN (fun d => decide (d = kf)) (cnt z (isOp e))) := by
                rw [← w2, Nat.mul_comm _ 16, Nat.mul_assoc, Nat.mul_comm (unitN H)]
              rw [w1, w3, gcd16]
              rw [w1] at wl
              rw [w3] at hsc
              unfold fX9_worthIf_91
              refine Ok.b (worthIfM hN hR hh hk hM hd hi hkf hhow) ?_
              intro ⟨q1, q2, q3, q4, q5, q6, q7, q8, q9, q10, q11, q12⟩ ⟨u1, u2, u3⟩
              simp only at u1 u2 u3
              subst u1 u2
              have e5 := lowestM (N := N) (a := sNf H z f s e i kf how) (b := unitN H * dnN (fun d => decide (d = kf)) (cnt z (isOp e))) (wh := w) (by omega) (by omega) (by omega) (by omega) hw
              simp only [e5, pb_S]
              exact Ok.s ⟨rfl, u3⟩
            have e4 : ∀ how, wV H z f s e (leafN H z f s e) i kf how < 9223372036854775808 := fun how => by
              have := wV_lt (H := H) (f := f) (s := s) (kf := kf) (how := how) (i := i) (L := leafN H z f s e) hd hL
              omega
            have e4 := partX (N := N) (wh := w) (by omega) (e4 (if f (opN z (isOp e) kf) = i then 1 - wn else wn)) hsc.2 hsc.1 hw
            simp only [pb_S, e2, e3, e4]
            refine Ok.s ?_
            rw [h36]
            by_cases hf : f (opN z (isOp e) kf) = i
            · have main2 := main (1 - wn) (by omega) (by rw [if_pos hf])
              rw [if_pos hf]
              by_cases hw1 : wn = 1
              · subst hw1
                simp (disch := omega) only [jI_0, jI_1, jI_2, jI_3, jI_4, jI_5, jI_6, jI_7, jI_8, jI_9, jI_10, jI_11, jI_12, jI_13, jI_14, jI_15, jI_16, jI_20, jI_24, jI_26, jI_30, jI_31, jI_32, jI_40, jI_48, jI_56, jI_57, jI_59, jI_60, jI_97, jI_99, jI_122, jI_160, jI_240, jI_255, jI_768, jI_1000, ↓jN_1, ↓jN_2, ↓jN_3, ↓jN_4, ↓jN_8, ↓jN_10, ↓jN_11, ↓jN_12, ↓jN_14, ↓jN_20, jI_addN, jI_le, jI_lt, jI_eq, jI_cl, jI_in, jI_add, jI_sub, jI_eqN, gI_eqI, gI_eqN, gI_leI, gI_ltI, jI_leN, jI_ltN, gI_sub, pif_tt, pif_ff, pg_tt, isB, or_true, true_or, pif_T, pif_F, pg_T, pb_S, upd_e, upd_n, jL_0, jL_1, jL_2, jL_5, jL_6, jL_15, jL_16, jL_63, jI_mul, jI_L, jL_I, jL_add, jL_sub, jL_mul, fX9_worthIf_36, fX9_worthIf_83, p2, o2, m1]
                exact main2
              · obtain rfl : wn = 0 := by omega
                simp (disch := omega) only [jI_0, jI_1, jI_2, jI_3, jI_4, jI_5, jI_6, jI_7, jI_8, jI_9, jI_10, jI_11, jI_12, jI_13, jI_14, jI_15, jI_16, jI_20, jI_24, jI_26, jI_30, jI_31, jI_32, jI_40, jI_48, jI_56, jI_57, jI_59, jI_60, jI_97, jI_99, jI_122, jI_160, jI_240, jI_255, jI_768, jI_1000, ↓jN_1, ↓jN_2, ↓jN_3, ↓jN_4, ↓jN_8, ↓jN_10, ↓jN_11, ↓jN_12, ↓jN_14, ↓jN_20, jI_addN, jI_le, jI_lt, jI_eq, jI_cl, jI_in, jI_add, jI_sub, jI_eqN, gI_eqI, gI_eqN, gI_leI, gI_ltI, jI_leN, jI_ltN, gI_sub, pif_tt, pif_ff, pg_tt, isB, or_true, true_or, pif_T, pif_F, pg_T, pb_S, upd_e, upd_n, jL_0, jL_1, jL_2, jL_5, jL_6, jL_15, jL_16, jL_63, jI_mul, jI_L, jL_I, jL_add, jL_sub, jL_mul, fX9_worthIf_36, fX9_worthIf_83, p2, o2, m1]
                exact main2
            · have main2 := main wn hwn (by rw [if_neg hf])
              rw [if_neg hf]
              by_cases hw1 : wn = 1
              · subst hw1
                simp (disch := omega) only [jI_0, jI_1, jI_2, jI_3, jI_4, jI_5, jI_6, jI_7, jI_8, jI_9, jI_10, jI_11, jI_12, jI_13, jI_14, jI_15, jI_16, jI_20, jI_24, jI_26, jI_30, jI_31, jI_32, jI_40, jI_48, jI_56, jI_57, jI_59, jI_60, jI_97, jI_99, jI_122, jI_160, jI_240, jI_255, jI_768, jI_1000, ↓jN_1, ↓jN_2, ↓jN_3, ↓jN_4, ↓jN_8, ↓jN_10, ↓jN_11, ↓jN_12, ↓jN_14, ↓jN_20, jI_addN, jI_le, jI_lt, jI_eq, jI_cl, jI_in, jI_add, jI_sub, jI_eqN, gI_eqI, gI_eqN, gI_leI, gI_ltI, jI_leN, jI_ltN, gI_sub, pif_tt, pif_ff, pg_tt, isB, or_true, true_or, pif_T, pif_F, pg_T, pb_S, upd_e, upd_n, jL_0, jL_1, jL_2, jL_5, jL_6, jL_15, jL_16, jL_63, jI_mul, jI_L, jL_I, jL_add, jL_sub, jL_mul, fX9_worthIf_36, fX9_worthIf_83, p2, o2, m1]
                exact main2
              · obtain rfl : wn = 0 := by omega
                simp (disch := omega) only [jI_0, jI_1, jI_2, jI_3, jI_4, jI_5, jI_6, jI_7, jI_8, jI_9, jI_10, jI_11, jI_12, jI_13, jI_14, jI_15, jI_16, jI_20, jI_24, jI_26, jI_30, jI_31, jI_32, jI_40, jI_48, jI_56, jI_57, jI_59, jI_60, jI_97, jI_99, jI_122, jI_160, jI_240, jI_255, jI_768, jI_1000, ↓jN_1, ↓jN_2, ↓jN_3, ↓jN_4, ↓jN_8, ↓jN_10, ↓jN_11, ↓jN_12, ↓jN_14, ↓jN_20, jI_addN, jI_le, jI_lt, jI_eq, jI_cl, jI_in, jI_add, jI_sub, jI_eqN, gI_eqI, gI_eqN, gI_leI, gI_ltI, jI_leN, jI_ltN, gI_sub, pif_tt, pif_ff, pg_tt, isB, or_true, true_or, pif_T, pif_F, pg_T, pb_S, upd_e, upd_n, jL_0, jL_1, jL_2, jL_5, jL_6, jL_15, jL_16, jL_63, jI_mul, jI_L, jL_I, jL_add, jL_sub, jL_mul, fX9_worthIf_36, fX9_worthIf_83, p2, o2, m1]
                exact main2
          · simp (disch := omega) only [jI_0, jI_1, jI_2, jI_3, jI_4, jI_5, jI_6, jI_7, jI_8, jI_9, jI_10, jI_11, jI_12, jI_13, jI_14, jI_15, jI_16, jI_20, jI_24, jI_26, jI_30, jI_31, jI_32, jI_40, jI_48, jI_56, jI_57, jI_59, jI_60, jI_97, jI_99, jI_122, jI_160, jI_240, jI_255, jI_768, jI_1000, ↓jN_1, ↓jN_2, ↓jN_3, ↓jN_4, ↓jN_8, ↓jN_10, ↓jN_11, ↓jN_12, ↓jN_14, ↓jN_20, jI_addN, jI_le, jI_lt, jI_eq, jI_cl, jI_in, jI_add, jI_sub, jI_eqN, gI_eqI, gI_eqN, gI_leI, gI_ltI, jI_leN, jI_ltN, gI_sub, pif_tt, pif_ff, pg_tt, isB, or_true, true_or, pif_T, pif_F, pg_T, pb_S, upd_e, upd_n, fX8_worthIf, fX8_worthIf_39, s1, g1, io, p1, o1]
            refine Ok.s ?_
            rw [h36]
            simp (disch := omega) only [jI_0, jI_1, jI_2, jI_3, jI_4, jI_5, jI_6, jI_7, jI_8, jI_9, jI_10, jI_11, jI_12, jI_13, jI_14, jI_15, jI_16, jI_20, jI_24, jI_26, jI_30, jI_31, jI_32, jI_40, jI_48, jI_56, jI_57, jI_59, jI_60, jI_97, jI_99, jI_122, jI_160, jI_240, jI_255, jI_768, jI_1000, ↓jN_1, ↓jN_2, ↓jN_3, ↓jN_4, ↓jN_8, ↓jN_10, ↓jN_11, ↓jN_12, ↓jN_14, ↓jN_20, jI_addN, jI_le, jI_lt, jI_eq, jI_cl, jI_in, jI_add, jI_sub, jI_eqN, gI_eqI, gI_eqN, gI_leI, gI_ltI, jI_leN, jI_ltN, gI_sub, pif_tt, pif_ff, pg_tt, isB, or_true, true_or, pif_T, pif_F, pg_T, pb_S, upd_e, upd_n, jL_0, jL_1, jL_2, jL_5, jL_6, jL_15, jL_16, jL_63, jI_mul, jI_L, jL_I, jL_add, jL_sub, jL_mul, fX9_worthIf_36, p2, o2]
            exact Ok.s ⟨rfl, hM⟩
        · simp (disch := omega) only [jI_0, jI_1, jI_2, jI_3, jI_4, jI_5, jI_6, jI_7, jI_8, jI_9, jI_10, jI_11, jI_12, jI_13, jI_14, jI_15, jI_16, jI_20, jI_24, jI_26, jI_30, jI_31, jI_32, jI_40, jI_48, jI_56, jI_57, jI_59, jI_60, jI_97, jI_99, jI_122, jI_160, jI_240, jI_255, jI_768, jI_1000, ↓jN_1, ↓jN_2, ↓jN_3, ↓jN_4, ↓jN_8, ↓jN_10, ↓jN_11, ↓jN_12, ↓jN_14, ↓jN_20, jI_addN, jI_le, jI_lt, jI_eq, jI_cl, jI_in, jI_add, jI_sub, jI_eqN, gI_eqI, gI_eqN, gI_leI, gI_ltI, jI_leN, jI_ltN, gI_sub, pif_tt, pif_ff, pg_tt, isB, or_true, true_or, pif_T, pif_F, pg_T, pb_S, upd_e, upd_n, fX8_worthIf, fX8_worthIf_39, s1, g1, io, p1]
          refine Ok.s ?_
          rw [h36]
          simp (disch := omega) only [jI_0, jI_1, jI_2, jI_3, jI_4, jI_5, jI_6, jI_7, jI_8, jI_9, jI_10, jI_11, jI_12, jI_13, jI_14, jI_15, jI_16, jI_20, jI_24, jI_26, jI_30, jI_31, jI_32, jI_40, jI_48, jI_56, jI_57, jI_59, jI_60, jI_97, jI_99, jI_122, jI_160, jI_240, jI_255, jI_768, jI_1000, ↓jN_1, ↓jN_2, ↓jN_3, ↓jN_4, ↓jN_8, ↓jN_10, ↓jN_11, ↓jN_12, ↓jN_14, ↓jN_20, jI_addN, jI_le, jI_lt, jI_eq, jI_cl, jI_in, jI_add, jI_sub, jI_eqN, gI_eqI, gI_eqN, gI_leI, gI_ltI, jI_leN, jI_ltN, gI_sub, pif_tt, pif_ff, pg_tt, isB, or_true, true_or, pif_T, pif_F, pg_T, pb_S, upd_e, upd_n, jL_0, jL_1, jL_2, jL_5, jL_6, jL_15, jL_16, jL_63, jI_mul, jI_L, jL_I, jL_add, jL_sub, jL_mul, fX9_worthIf_36, fX9_worthIf_47, p2]
          exact Ok.s ⟨rfl, hM⟩
    · simp (disch := omega) only [jI_0, jI_1, jI_2, jI_3, jI_4, jI_5, jI_6, jI_7, jI_8, jI_9, jI_10, jI_11, jI_12, jI_13, jI_14, jI_15, jI_16, jI_20, jI_24, jI_26, jI_30, jI_31, jI_32, jI_40, jI_48, jI_56, jI_57, jI_59, jI_60, jI_97, jI_99, jI_122, jI_160, jI_240, jI_255, jI_768, jI_1000, ↓jN_1, ↓jN_2, ↓jN_3, ↓jN_4, ↓jN_8, ↓jN_10, ↓jN_11, ↓jN_12, ↓jN_14, ↓jN_20, jI_addN, jI_le, jI_lt, jI_eq, jI_cl, jI_in, jI_add, jI_sub, jI_eqN, gI_eqI, gI_eqN, gI_leI, gI_ltI, jI_leN, jI_ltN, gI_sub, pif_tt, pif_ff, pg_tt, isB, or_true, true_or, pif_T, pif_F, pg_T, pb_S, upd_e, upd_n, fX8_worthIf, fX8_worthIf_39, s1, g1]
      refine Ok.s ?_
      simp (disch := omega) only [jI_0, jI_1, jI_2, jI_3, jI_4, jI_5, jI_6, jI_7, jI_8, jI_9, jI_10, jI_11, jI_12, jI_13, jI_14, jI_15, jI_16, jI_20, jI_24, jI_26, jI_30, jI_31, jI_32, jI_40, jI_48, jI_56, jI_57, jI_59, jI_60, jI_97, jI_99, jI_122, jI_160, jI_240, jI_255, jI_768, jI_1000, ↓jN_1, ↓jN_2, ↓jN_3, ↓jN_4, ↓jN_8, ↓jN_10, ↓jN_11, ↓jN_12, ↓jN_14, ↓jN_20, jI_addN, jI_le, jI_lt, jI_eq, jI_cl, jI_in, jI_add, jI_sub, jI_eqN, gI_eqI, gI_eqN, gI_leI, gI_ltI, jI_leN, jI_ltN, gI_sub, pif_tt, pif_ff, pg_tt, isB, or_true, true_or, pif_T, pif_F, pg_T, pb_S, upd_e, upd_n, fX9_worthIf, fX9_worthIf_47, s2, g2]
      exact Ok.s ⟨rfl, hM⟩
  · simp (disch := omega) only [jI_0, jI_1, jI_2, jI_3, jI_4, jI_5, jI_6, jI_7, jI_8, jI_9, jI_10, jI_11, jI_12, jI_13, jI_14, jI_15, jI_16, jI_20, jI_24, jI_26, jI_30, jI_31, jI_32, jI_40, jI_48, jI_56, jI_57, jI_59, jI_60, jI_97, jI_99, jI_122, jI_160, jI_240, jI_255, jI_768, jI_1000, ↓jN_1, ↓jN_2, ↓jN_3, ↓jN_4, ↓jN_8, ↓jN_10, ↓jN_11, ↓jN_12, ↓jN_14, ↓jN_20, jI_addN, jI_le, jI_lt, jI_eq, jI_cl, jI_in, jI_add, jI_sub, jI_eqN, gI_eqI, gI_eqN, gI_leI, gI_ltI, jI_leN, jI_ltN, gI_sub, pif_tt, pif_ff, pg_tt, isB, or_true, true_or, pif_T, pif_F, pg_T, pb_S, upd_e, upd_n, fX8_worthIf, fX8_worthIf_39, s1]
    refine Ok.s ?_
    simp (disch := omega) only [jI_0, jI_1, jI_2, jI_3, jI_4, jI_5, jI_6, jI_7, jI_8, jI_9, jI_10, jI_11, jI_12, jI_13, jI_14, jI_15, jI_16, jI_20, jI_24, jI_26, jI_30, jI_31, jI_32, jI_40, jI_48, jI_56, jI_57, jI_59, jI_60, jI_97, jI_99, jI_122, jI_160, jI_240, jI_255, jI_768, jI_1000, ↓jN_1, ↓jN_2, ↓jN_3, ↓jN_4, ↓jN_8, ↓jN_10, ↓jN_11, ↓jN_12, ↓jN_14, ↓jN_20, jI_addN, jI_le, jI_lt, jI_eq, jI_cl, jI_in, jI_add, jI_sub, jI_eqN, gI_eqI, gI_eqN, gI_leI, gI_ltI, jI_leN, jI_ltN, gI_sub, pif_tt, pif_ff, pg_tt, isB, or_true, true_or, pif_T, pif_F, pg_T, pb_S, upd_e, upd_n, fX9_worthIf, fX9_worthIf_47, s2]
    exact Ok.s ⟨rfl, hM⟩
theorem c_wants (x1 : Int32) (hN : 1000 ≤ N) (hR : Rk H) (hc : Rc H v_rules_kind v_rules_sides c_rules_balls c_rules_choiceWorth c_rules_placeWorth c_rules_strength c_rules_wheel) (hh : Rm H c_holds) (hk : Gk (H 0) z f s e) (hG : Gc z f s e v_games_size c_games_first c_games_second c_games_ending) (hM : Gm 0 z f s e c_many c_firsts c_seconds c_goes) : Ok ((fX8_wants N v_games_size c_games_ending c_games_first c_games_second v_rules_kind v_rules_rounds v_rules_sides c_rules_balls c_rules_choiceWorth c_rules_placeWorth c_rules_strength c_rules_wheel v_tree_depth c_tree_column c_tree_leaf c_tree_ofFirst c_tree_open v_tree_rules_kind v_tree_rules_rounds v_tree_rules_sides c_tree_rules_balls c_tree_rules_choiceWorth c_tree_rules_placeWorth c_tree_rules_strength c_tree_rules_wheel v_tree_standing_sides c_tree_standing_merit c_tree_standing_order c_tree_standing_outAt c_tree_standing_seat c_tree_standing_toCome c_tree_standing_turn c_tree_standing_won v_tree_trial_size c_tree_trial_ending c_tree_trial_first c_tree_trial_second x1)) (fun a => Ok ((fX9_wants N v_open v_sumDown v_sumUp c_chooser c_firsts c_goes c_holds c_later c_many c_opens c_outs c_payOf c_placeOf c_seconds c_sideAt c_won x1)) (fun b => a.1 = b.1 ∧ Gm 0 z f s e c_many c_firsts c_seconds b.2.2.2.2.2.1)) := by
  have hn := hR.2.1
  have hz := hk.2.1
  have hcl := cnt_le z (isOp e)
  have o1 := openOnesX (N := N) (by omega) hk hG
  have o2 := openManyM (N := N) (by omega) hk hM
  rcases open_c (N := N) x1 hk hG hM with ⟨kf, hkf, rfl, g1, g2⟩ | ⟨g1, g2⟩
  · by_cases hd : cnt z (isOp e) ≤ 7
    · simp (disch := omega) only [jI_0, jI_1, jI_2, jI_3, jI_4, jI_5, jI_6, jI_7, jI_8, jI_9, jI_10, jI_11, jI_12, jI_13, jI_14, jI_15, jI_16, jI_20, jI_24, jI_26, jI_30, jI_31, jI_32, jI_40, jI_48, jI_56, jI_57, jI_59, jI_60, jI_97, jI_99, jI_122, jI_160, jI_240, jI_255, jI_768, jI_1000, ↓jN_1, ↓jN_2, ↓jN_3, ↓jN_4, ↓jN_8, ↓jN_10, ↓jN_11, ↓jN_12, ↓jN_14, ↓jN_20, jI_addN, jI_le, jI_lt, jI_eq, jI_cl, jI_in, jI_add, jI_sub, jI_eqN, gI_eqI, gI_eqN, gI_leI, gI_ltI, jI_leN, jI_ltN, gI_sub, pif_tt, pif_ff, pg_tt, isB, or_true, true_or, pif_T, pif_F, pg_T, pb_S, upd_e, upd_n, fX8_wants, g1, o1]
      refine Ok.b (growPaysX hN hR hc hk hG hd) ?_
      intro ⟨vd, cl, co, cp, vk, vr, vs, cb, cc, cpw, cst, cwh, ss, sm, so, sou, sse, sto, stu, sw, vz, ce, cf, cs⟩ ⟨hB, hl⟩
      simp only at hB hl
      obtain ⟨rfl, b2, b3, rfl, b5⟩ := hB
      obtain ⟨c2, e2⟩ := losersX (N := N) (H := H) (f := f) (s := s) (L := leafN H z f s e) (n := H 0) (c_column := c_tree_column) hN hn hd hk hkf (fun g hg => ⟨(b5 g hg).1, (b5 g hg).2.1⟩) (fun r i hi => payN_le hR hi) hl b2
      simp only [e2, pb_S]
      refine Ok.s ?_
      simp (disch := omega) only [jI_0, jI_1, jI_2, jI_3, jI_4, jI_5, jI_6, jI_7, jI_8, jI_9, jI_10, jI_11, jI_12, jI_13, jI_14, jI_15, jI_16, jI_20, jI_24, jI_26, jI_30, jI_31, jI_32, jI_40, jI_48, jI_56, jI_57, jI_59, jI_60, jI_97, jI_99, jI_122, jI_160, jI_240, jI_255, jI_768, jI_1000, ↓jN_1, ↓jN_2, ↓jN_3, ↓jN_4, ↓jN_8, ↓jN_10, ↓jN_11, ↓jN_12, ↓jN_14, ↓jN_20, jI_addN, jI_le, jI_lt, jI_eq, jI_cl, jI_in, jI_add, jI_sub, jI_eqN, gI_eqI, gI_eqN, gI_leI, gI_ltI, jI_leN, jI_ltN, gI_sub, pif_tt, pif_ff, pg_tt, isB, or_true, true_or, pif_T, pif_F, pg_T, pb_S, upd_e, upd_n, fX9_wants, g2, o2]
      refine Ok.b (wantedM hN hR hh hk hM hd hkf) ?_
      intro ⟨q0, q1, q2, q3, q4, q5, q6, q7, q8, q9, q10, q11, q12⟩ ⟨u1, u3⟩
      simp only at u1 u3
      subst u1
      simp only [fX9_wants_29]
      exact Ok.s ⟨rfl, u3⟩
    · simp (disch := omega) only [jI_0, jI_1, jI_2, jI_3, jI_4, jI_5, jI_6, jI_7, jI_8, jI_9, jI_10, jI_11, jI_12, jI_13, jI_14, jI_15, jI_16, jI_20, jI_24, jI_26, jI_30, jI_31, jI_32, jI_40, jI_48, jI_56, jI_57, jI_59, jI_60, jI_97, jI_99, jI_122, jI_160, jI_240, jI_255, jI_768, jI_1000, ↓jN_1, ↓jN_2, ↓jN_3, ↓jN_4, ↓jN_8, ↓jN_10, ↓jN_11, ↓jN_12, ↓jN_14, ↓jN_20, jI_addN, jI_le, jI_lt, jI_eq, jI_cl, jI_in, jI_add, jI_sub, jI_eqN, gI_eqI, gI_eqN, gI_leI, gI_ltI, jI_leN, jI_ltN, gI_sub, pif_tt, pif_ff, pg_tt, isB, or_true, true_or, pif_T, pif_F, pg_T, pb_S, upd_e, upd_n, fX8_wants, g1, o1]
      refine Ok.s ?_
      simp (disch := omega) only [jI_0, jI_1, jI_2, jI_3, jI_4, jI_5, jI_6, jI_7, jI_8, jI_9, jI_10, jI_11, jI_12, jI_13, jI_14, jI_15, jI_16, jI_20, jI_24, jI_26, jI_30, jI_31, jI_32, jI_40, jI_48, jI_56, jI_57, jI_59, jI_60, jI_97, jI_99, jI_122, jI_160, jI_240, jI_255, jI_768, jI_1000, ↓jN_1, ↓jN_2, ↓jN_3, ↓jN_4, ↓jN_8, ↓jN_10, ↓jN_11, ↓jN_12, ↓jN_14, ↓jN_20, jI_addN, jI_le, jI_lt, jI_eq, jI_cl, jI_in, jI_add, jI_sub, jI_eqN, gI_eqI, gI_eqN, gI_leI, gI_ltI, jI_leN, jI_ltN, gI_sub, pif_tt, pif_ff, pg_tt, isB, or_true, true_or, pif_T, pif_F, pg_T, pb_S, upd_e, upd_n, fX9_wants, fX9_wants_29, g2, o2]
      exact Ok.s ⟨rfl, hM⟩
  · simp (disch := omega) only [jI_0, jI_1, jI_2, jI_3, jI_4, jI_5, jI_6, jI_7, jI_8, jI_9, jI_10, jI_11, jI_12, jI_13, jI_14, jI_15, jI_16, jI_20, jI_24, jI_26, jI_30, jI_31, jI_32, jI_40, jI_48, jI_56, jI_57, jI_59, jI_60, jI_97, jI_99, jI_122, jI_160, jI_240, jI_255, jI_768, jI_1000, ↓jN_1, ↓jN_2, ↓jN_3, ↓jN_4, ↓jN_8, ↓jN_10, ↓jN_11, ↓jN_12, ↓jN_14, ↓jN_20, jI_addN, jI_le, jI_lt, jI_eq, jI_cl, jI_in, jI_add, jI_sub, jI_eqN, gI_eqI, gI_eqN, gI_leI, gI_ltI, jI_leN, jI_ltN, gI_sub, pif_tt, pif_ff, pg_tt, isB, or_true, true_or, pif_T, pif_F, pg_T, pb_S, upd_e, upd_n, fX8_wants, g1]
    refine Ok.s ?_
    simp (disch := omega) only [jI_0, jI_1, jI_2, jI_3, jI_4, jI_5, jI_6, jI_7, jI_8, jI_9, jI_10, jI_11, jI_12, jI_13, jI_14, jI_15, jI_16, jI_20, jI_24, jI_26, jI_30, jI_31, jI_32, jI_40, jI_48, jI_56, jI_57, jI_59, jI_60, jI_97, jI_99, jI_122, jI_160, jI_240, jI_255, jI_768, jI_1000, ↓jN_1, ↓jN_2, ↓jN_3, ↓jN_4, ↓jN_8, ↓jN_10, ↓jN_11, ↓jN_12, ↓jN_14, ↓jN_20, jI_addN, jI_le, jI_lt, jI_eq, jI_cl, jI_in, jI_add, jI_sub, jI_eqN, gI_eqI, gI_eqN, gI_leI, gI_ltI, jI_leN, jI_ltN, gI_sub, pif_tt, pif_ff, pg_tt, isB, or_true, true_or, pif_T, pif_F, pg_T, pb_S, upd_e, upd_n, fX9_wants, g2]
    exact Ok.s ⟨rfl, hM⟩
end
