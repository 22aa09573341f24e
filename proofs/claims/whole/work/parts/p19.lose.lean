/-! lose. -/
section
variable {v_games_size : Int32} {c_games_ending : Nat → Int32} {c_games_first : Nat → Int32} {c_games_second : Nat → Int32} {v_rules_kind : Int32} {v_rules_rounds : Int32} {v_rules_sides : Int32} {c_rules_balls : Nat → Int32} {c_rules_choiceWorth : Nat → Int32} {c_rules_placeWorth : Nat → Int32} {c_rules_strength : Nat → Int32} {c_rules_wheel : Nat → Int32} {v_tree_depth : Int32} {c_tree_column : Nat → Int64} {c_tree_leaf : Nat → Int64} {c_tree_ofFirst : Nat → Int32} {c_tree_open : Nat → Int32} {v_tree_rules_kind : Int32} {v_tree_rules_rounds : Int32} {v_tree_rules_sides : Int32} {c_tree_rules_balls : Nat → Int32} {c_tree_rules_choiceWorth : Nat → Int32} {c_tree_rules_placeWorth : Nat → Int32} {c_tree_rules_strength : Nat → Int32} {c_tree_rules_wheel : Nat → Int32} {v_tree_standing_sides : Int32} {c_tree_standing_merit : Nat → Int32} {c_tree_standing_order : Nat → Int32} {c_tree_standing_outAt : Nat → Int32} {c_tree_standing_seat : Nat → Int32} {c_tree_standing_toCome : Nat → Int32} {c_tree_standing_turn : Nat → Int32} {c_tree_standing_won : Nat → Int32} {v_tree_trial_size : Int32} {c_tree_trial_ending : Nat → Int32} {c_tree_trial_first : Nat → Int32} {c_tree_trial_second : Nat → Int32} {v_open : Int32} {v_sumDown : Int64} {v_sumUp : Int64} {c_chooser : Nat → Int32} {c_firsts : Nat → Int32} {c_goes : Nat → Int32} {c_holds : Nat → Int32} {c_later : Nat → Int32} {c_many : Nat → Int32} {c_opens : Nat → Int32} {c_outs : Nat → Int32} {c_payOf : Nat → Int32} {c_placeOf : Nat → Int32} {c_seconds : Nat → Int32} {c_sideAt : Nat → Int32} {c_won : Nat → Int32}
variable {N z : Nat} {f s e H : Nat → Nat}
theorem lsN_le {L : Nat → Nat → Nat} (kf : Nat) : lsN H z f s e L kf ≤ 3 := by
  unfold lsN; split <;> split <;> omega
def unB (H : Nat → Nat) (z : Nat) (f s e : Nat → Nat) (L : Nat → Nat → Nat) (wh i kf : Nat) : Bool := if wh = 1 then decide (lsN H z f s e L kf = 3) else (ownB f s (opN z (isOp e) kf) i && wtB H z f s e L i kf)
theorem lose_107M {ls wh g n i : Nat} {B : Bool} {x1 x3 : Int32} {Q : Int32 × Int32 × Int64 × Int64 × (Nat → Int32) × (Nat → Int32) × (Nat → Int32) × (Nat → Int32) × (Nat → Int32) × (Nat → Int32) × (Nat → Int32) × (Nat → Int32) × (Nat → Int32) → Prop} {k48 : Int32 → Int32 → Int32 → Int32 → Int64 → Int64 → (Nat → Int32) → (Nat → Int32) → (Nat → Int32) → (Nat → Int32) → (Nat → Int32) → (Nat → Int32) → (Nat → Int32) → (Nat → Int32) → (Nat → Int32) → Option (Int32 × Int32 × Int64 × Int64 × (Nat → Int32) × (Nat → Int32) × (Nat → Int32) × (Nat → Int32) × (Nat → Int32) × (Nat → Int32) × (Nat → Int32) × (Nat → Int32) × (Nat → Int32))} (hls : ls ≤ 3) (hwh : wh ≤ 2) (hg : g < 30) (hx : wh ≠ 1 → x1 = jI i ∧ i < 6) (hf : c_firsts g = jI (f g)) (hs : c_seconds g = jI (s g)) (hf6 : f g < 6) (hs6 : s g < 6) (hB : B = true ↔ (wh = 1 ∧ ls = 3) ∨ (wh ≠ 1 ∧ (ls = 3 ∨ (ls = 1 ∧ f g = i) ∨ (ls = 2 ∧ s g = i)))) (hk : Ok (k48 (if B = true ∧ x3 = gI 4 then jI g else x3) (jI (n + if B then 1 else 0)) (jI (g + 1)) v_open v_sumDown v_sumUp c_chooser c_goes c_later c_opens c_outs c_payOf c_placeOf c_sideAt c_won) Q) : Ok ((fX9_lose_107 N c_firsts c_holds c_many c_seconds x1 (jI wh) k48 x3 (jI n) (jI g) (jI ls) v_open v_sumDown v_sumUp c_chooser c_goes c_later c_opens c_outs c_payOf c_placeOf c_sideAt c_won)) Q := by
  have h173 : ∀ b, b < 2 → (b = 1 ↔ B = true) → Ok ((fX9_lose_173 N c_firsts c_holds c_many c_seconds x1 (jI wh) k48 x3 (jI n) (jI g) (jI b) v_open v_sumDown v_sumUp c_chooser c_goes c_later c_opens c_outs c_payOf c_placeOf c_sideAt c_won)) Q := by
    intro b hb hbB
    by_cases h1 : b = 1
    · have hBt := hbB.mp h1
      subst h1
      rw [hBt] at hk
      simp only [true_and, if_true] at hk
      by_cases h3 : x3 = gI 4
      · rw [if_pos h3] at hk
        subst h3
        simp (disch := omega) only [jI_0, jI_1, jI_2, jI_3, jI_4, jI_5, jI_6, jI_7, jI_8, jI_9, jI_10, jI_11, jI_12, jI_13, jI_14, jI_15, jI_16, jI_20, jI_24, jI_26, jI_30, jI_31, jI_32, jI_40, jI_48, jI_56, jI_57, jI_59, jI_60, jI_97, jI_99, jI_122, jI_160, jI_240, jI_255, jI_768, jI_1000, ↓jN_1, ↓jN_2, ↓jN_3, ↓jN_4, ↓jN_8, ↓jN_10, ↓jN_11, ↓jN_12, ↓jN_14, ↓jN_20, jI_addN, jI_le, jI_lt, jI_eq, jI_cl, jI_in, jI_add, jI_sub, jI_eqN, gI_eqI, gI_eqN, gI_leI, gI_ltI, jI_leN, jI_ltN, gI_sub, pif_tt, pif_ff, pg_tt, isB, or_true, true_or, pif_T, pif_F, pg_T, pb_S, upd_e, upd_n, fX9_lose_173, fX9_lose_187, fX9_lose_206, fX9_lose_207, fX9_lose_208]
        exact hk
      · rw [if_neg h3] at hk
        simp (disch := omega) only [jI_0, jI_1, jI_2, jI_3, jI_4, jI_5, jI_6, jI_7, jI_8, jI_9, jI_10, jI_11, jI_12, jI_13, jI_14, jI_15, jI_16, jI_20, jI_24, jI_26, jI_30, jI_31, jI_32, jI_40, jI_48, jI_56, jI_57, jI_59, jI_60, jI_97, jI_99, jI_122, jI_160, jI_240, jI_255, jI_768, jI_1000, ↓jN_1, ↓jN_2, ↓jN_3, ↓jN_4, ↓jN_8, ↓jN_10, ↓jN_11, ↓jN_12, ↓jN_14, ↓jN_20, jI_addN, jI_le, jI_lt, jI_eq, jI_cl, jI_in, jI_add, jI_sub, jI_eqN, gI_eqI, gI_eqN, gI_leI, gI_ltI, jI_leN, jI_ltN, gI_sub, pif_tt, pif_ff, pg_tt, isB, or_true, true_or, pif_T, pif_F, pg_T, pb_S, upd_e, upd_n, fX9_lose_173, fX9_lose_187, fX9_lose_206, fX9_lose_207, fX9_lose_208, h3]
        exact hk
    · obtain rfl : b = 0 := by omega
      have hBf : B = false := by
        cases B
        · rfl
        · exact absurd (hbB.mpr rfl) h1
      rw [hBf] at hk
      simp only [Bool.false_eq_true, false_and, if_false] at hk
      simp (disch := omega) only [jI_0, jI_1, jI_2, jI_3, jI_4, jI_5, jI_6, jI_7, jI_8, jI_9, jI_10, jI_11, jI_12, jI_13, jI_14, jI_15, jI_16, jI_20, jI_24, jI_26, jI_30, jI_31, jI_32, jI_40, jI_48, jI_56, jI_57, jI_59, jI_60, jI_97, jI_99, jI_122, jI_160, jI_240, jI_255, jI_768, jI_1000, ↓jN_1, ↓jN_2, ↓jN_3, ↓jN_4, ↓jN_8, ↓jN_10, ↓jN_11, ↓jN_12, ↓jN_14, ↓jN_20, jI_addN, jI_le, jI_lt, jI_eq, jI_cl, jI_in, jI_add, jI_sub, jI_eqN, gI_eqI, gI_eqN, gI_leI, gI_ltI, jI_leN, jI_ltN, gI_sub, pif_tt, pif_ff, pg_tt, isB, or_true, true_or, pif_T, pif_F, pg_T, pb_S, upd_e, upd_n, fX9_lose_173, fX9_lose_187, fX9_lose_206, fX9_lose_207, fX9_lose_208]
      exact hk
  by_cases h1 : wh = 1
  · by_cases h3 : ls = 3
    · have := h173 1 (by omega) ⟨fun _ => hB.mpr (by omega), fun _ => rfl⟩
      simp (disch := omega) only [jI_0, jI_1, jI_2, jI_3, jI_4, jI_5, jI_6, jI_7, jI_8, jI_9, jI_10, jI_11, jI_12, jI_13, jI_14, jI_15, jI_16, jI_20, jI_24, jI_26, jI_30, jI_31, jI_32, jI_40, jI_48, jI_56, jI_57, jI_59, jI_60, jI_97, jI_99, jI_122, jI_160, jI_240, jI_255, jI_768, jI_1000, ↓jN_1, ↓jN_2, ↓jN_3, ↓jN_4, ↓jN_8, ↓jN_10, ↓jN_11, ↓jN_12, ↓jN_14, ↓jN_20, jI_addN, jI_le, jI_lt, jI_eq, jI_cl, jI_in, jI_add, jI_sub, jI_eqN, gI_eqI, gI_eqN, gI_leI, gI_ltI, jI_leN, jI_ltN, gI_sub, pif_tt, pif_ff, pg_tt, isB, or_true, true_or, pif_T, pif_F, pg_T, pb_S, upd_e, upd_n, fX9_lose_107]
      exact this
    · have := h173 0 (by omega) ⟨fun c => by omega, fun c => by have := hB.mp c; omega⟩
      simp (disch := omega) only [jI_0, jI_1, jI_2, jI_3, jI_4, jI_5, jI_6, jI_7, jI_8, jI_9, jI_10, jI_11, jI_12, jI_13, jI_14, jI_15, jI_16, jI_20, jI_24, jI_26, jI_30, jI_31, jI_32, jI_40, jI_48, jI_56, jI_57, jI_59, jI_60, jI_97, jI_99, jI_122, jI_160, jI_240, jI_255, jI_768, jI_1000, ↓jN_1, ↓jN_2, ↓jN_3, ↓jN_4, ↓jN_8, ↓jN_10, ↓jN_11, ↓jN_12, ↓jN_14, ↓jN_20, jI_addN, jI_le, jI_lt, jI_eq, jI_cl, jI_in, jI_add, jI_sub, jI_eqN, gI_eqI, gI_eqN, gI_leI, gI_ltI, jI_leN, jI_ltN, gI_sub, pif_tt, pif_ff, pg_tt, isB, or_true, true_or, pif_T, pif_F, pg_T, pb_S, upd_e, upd_n, fX9_lose_107]
      exact this
  · obtain ⟨rfl, hi⟩ := hx h1
    by_cases h3 : ls = 3
    · have := h173 1 (by omega) ⟨fun _ => hB.mpr (by omega), fun _ => rfl⟩
      simp (disch := omega) only [jI_0, jI_1, jI_2, jI_3, jI_4, jI_5, jI_6, jI_7, jI_8, jI_9, jI_10, jI_11, jI_12, jI_13, jI_14, jI_15, jI_16, jI_20, jI_24, jI_26, jI_30, jI_31, jI_32, jI_40, jI_48, jI_56, jI_57, jI_59, jI_60, jI_97, jI_99, jI_122, jI_160, jI_240, jI_255, jI_768, jI_1000, ↓jN_1, ↓jN_2, ↓jN_3, ↓jN_4, ↓jN_8, ↓jN_10, ↓jN_11, ↓jN_12, ↓jN_14, ↓jN_20, jI_addN, jI_le, jI_lt, jI_eq, jI_cl, jI_in, jI_add, jI_sub, jI_eqN, gI_eqI, gI_eqN, gI_leI, gI_ltI, jI_leN, jI_ltN, gI_sub, pif_tt, pif_ff, pg_tt, isB, or_true, true_or, pif_T, pif_F, pg_T, pb_S, upd_e, upd_n, fX9_lose_107, fX9_lose_168]
      exact this
    · by_cases hl1 : ls = 1
      · by_cases hfi : f g = i
        · have := h173 1 (by omega) ⟨fun _ => hB.mpr (by omega), fun _ => rfl⟩
          simp (disch := omega) only [jI_0, jI_1, jI_2, jI_3, jI_4, jI_5, jI_6, jI_7, jI_8, jI_9, jI_10, jI_11, jI_12, jI_13, jI_14, jI_15, jI_16, jI_20, jI_24, jI_26, jI_30, jI_31, jI_32, jI_40, jI_48, jI_56, jI_57, jI_59, jI_60, jI_97, jI_99, jI_122, jI_160, jI_240, jI_255, jI_768, jI_1000, ↓jN_1, ↓jN_2, ↓jN_3, ↓jN_4, ↓jN_8, ↓jN_10, ↓jN_11, ↓jN_12, ↓jN_14, ↓jN_20, jI_addN, jI_le, jI_lt, jI_eq, jI_cl, jI_in, jI_add, jI_sub, jI_eqN, gI_eqI, gI_eqN, gI_leI, gI_ltI, jI_leN, jI_ltN, gI_sub, pif_tt, pif_ff, pg_tt, isB, or_true, true_or, pif_T, pif_F, pg_T, pb_S, upd_e, upd_n, fX9_lose_107, fX9_lose_168, hf]
          exact this
        · have := h173 0 (by omega) ⟨fun c => by omega, fun c => by have := hB.mp c; omega⟩
          simp (disch := omega) only [jI_0, jI_1, jI_2, jI_3, jI_4, jI_5, jI_6, jI_7, jI_8, jI_9, jI_10, jI_11, jI_12, jI_13, jI_14, jI_15, jI_16, jI_20, jI_24, jI_26, jI_30, jI_31, jI_32, jI_40, jI_48, jI_56, jI_57, jI_59, jI_60, jI_97, jI_99, jI_122, jI_160, jI_240, jI_255, jI_768, jI_1000, ↓jN_1, ↓jN_2, ↓jN_3, ↓jN_4, ↓jN_8, ↓jN_10, ↓jN_11, ↓jN_12, ↓jN_14, ↓jN_20, jI_addN, jI_le, jI_lt, jI_eq, jI_cl, jI_in, jI_add, jI_sub, jI_eqN, gI_eqI, gI_eqN, gI_leI, gI_ltI, jI_leN, jI_ltN, gI_sub, pif_tt, pif_ff, pg_tt, isB, or_true, true_or, pif_T, pif_F, pg_T, pb_S, upd_e, upd_n, fX9_lose_107, fX9_lose_151, fX9_lose_172, hf]
          exact this
      · by_cases hl2 : ls = 2
        · by_cases hsi : s g = i
          · have := h173 1 (by omega) ⟨fun _ => hB.mpr (by omega), fun _ => rfl⟩
            simp (disch := omega) only [jI_0, jI_1, jI_2, jI_3, jI_4, jI_5, jI_6, jI_7, jI_8, jI_9, jI_10, jI_11, jI_12, jI_13, jI_14, jI_15, jI_16, jI_20, jI_24, jI_26, jI_30, jI_31, jI_32, jI_40, jI_48, jI_56, jI_57, jI_59, jI_60, jI_97, jI_99, jI_122, jI_160, jI_240, jI_255, jI_768, jI_1000, ↓jN_1, ↓jN_2, ↓jN_3, ↓jN_4, ↓jN_8, ↓jN_10, ↓jN_11, ↓jN_12, ↓jN_14, ↓jN_20, jI_addN, jI_le, jI_lt, jI_eq, jI_cl, jI_in, jI_add, jI_sub, jI_eqN, gI_eqI, gI_eqN, gI_leI, gI_ltI, jI_leN, jI_ltN, gI_sub, pif_tt, pif_ff, pg_tt, isB, or_true, true_or, pif_T, pif_F, pg_T, pb_S, upd_e, upd_n, fX9_lose_107, fX9_lose_151, fX9_lose_168, hs]
            exact this
          · have := h173 0 (by omega) ⟨fun c => by omega, fun c => by have := hB.mp c; omega⟩
            simp (disch := omega) only [jI_0, jI_1, jI_2, jI_3, jI_4, jI_5, jI_6, jI_7, jI_8, jI_9, jI_10, jI_11, jI_12, jI_13, jI_14, jI_15, jI_16, jI_20, jI_24, jI_26, jI_30, jI_31, jI_32, jI_40, jI_48, jI_56, jI_57, jI_59, jI_60, jI_97, jI_99, jI_122, jI_160, jI_240, jI_255, jI_768, jI_1000, ↓jN_1, ↓jN_2, ↓jN_3, ↓jN_4, ↓jN_8, ↓jN_10, ↓jN_11, ↓jN_12, ↓jN_14, ↓jN_20, jI_addN, jI_le, jI_lt, jI_eq, jI_cl, jI_in, jI_add, jI_sub, jI_eqN, gI_eqI, gI_eqN, gI_leI, gI_ltI, jI_leN, jI_ltN, gI_sub, pif_tt, pif_ff, pg_tt, isB, or_true, true_or, pif_T, pif_F, pg_T, pb_S, upd_e, upd_n, fX9_lose_107, fX9_lose_151, fX9_lose_172, hs]
            exact this
        · have := h173 0 (by omega) ⟨fun c => by omega, fun c => by have := hB.mp c; omega⟩
          simp (disch := omega) only [jI_0, jI_1, jI_2, jI_3, jI_4, jI_5, jI_6, jI_7, jI_8, jI_9, jI_10, jI_11, jI_12, jI_13, jI_14, jI_15, jI_16, jI_20, jI_24, jI_26, jI_30, jI_31, jI_32, jI_40, jI_48, jI_56, jI_57, jI_59, jI_60, jI_97, jI_99, jI_122, jI_160, jI_240, jI_255, jI_768, jI_1000, ↓jN_1, ↓jN_2, ↓jN_3, ↓jN_4, ↓jN_8, ↓jN_10, ↓jN_11, ↓jN_12, ↓jN_14, ↓jN_20, jI_addN, jI_le, jI_lt, jI_eq, jI_cl, jI_in, jI_add, jI_sub, jI_eqN, gI_eqI, gI_eqN, gI_leI, gI_ltI, jI_leN, jI_ltN, gI_sub, pif_tt, pif_ff, pg_tt, isB, or_true, true_or, pif_T, pif_F, pg_T, pb_S, upd_e, upd_n, fX9_lose_107, fX9_lose_151, fX9_lose_172]
          exact this
def frI (z : Nat) (e : Nat → Nat) (p : Nat → Bool) (m : Nat) : Int32 := if fstN m p < m then jI (opN z (isOp e) (fstN m p)) else gI 4
theorem frI_step {p : Nat → Bool} {m : Nat} (hz : z ≤ 30) (hm : m < cnt z (isOp e)) : frI z e p (m + 1) = if p m = true ∧ frI z e p m = gI 4 then jI (opN z (isOp e) m) else frI z e p m := by
  have hst := fst_step m p
  by_cases hf : fstN m p < m
  · have h1 : frI z e p m = jI (opN z (isOp e) (fstN m p)) := if_pos hf
    have o1 := (op_ok (z := z) (p := isOp e) (k := fstN m p) (by omega)).1
    rw [if_neg (fun c => by rw [h1, jI_eqN (by omega) (by omega)] at c; omega), h1]
    rw [if_pos hf] at hst
    unfold frI
    rw [hst, if_pos (by omega)]
  · have h1 : frI z e p m = gI 4 := if_neg hf
    rw [if_neg hf] at hst
    rw [h1]
    unfold frI
    by_cases hp : p m = true
    · rw [if_pos hp] at hst
      rw [hst, if_pos (by omega), if_pos ⟨hp, rfl⟩]
    · rw [if_neg hp] at hst
      rw [hst, if_neg (by omega), if_neg (fun c => hp c.1)]
theorem lose_48M {wh i : Nat} {x1 : Int32} (hN : 1000 ≤ N) (hR : Rk H) (hh : Rm H c_holds) (hk : Gk (H 0) z f s e) (hM : Gm 0 z f s e c_many c_firsts c_seconds c_goes) (hd : cnt z (isOp e) ≤ 7) (hwh : wh ≤ 2) (hx : wh ≠ 1 → x1 = jI i ∧ i < H 0) : Ok ((fX9_lose_48 N c_firsts c_holds c_many c_seconds x1 (jI wh) N (gI 4) (jI 0) (jI 0) v_open v_sumDown v_sumUp c_chooser c_goes c_later c_opens c_outs c_payOf c_placeOf c_sideAt c_won)) (fun q => q.1 = (if wh = 2 then jI (cnt (cnt z (isOp e)) (unB H z f s e (leafN H z f s e) wh i)) else frI z e (unB H z f s e (leafN H z f s e) wh i) (cnt z (isOp e))) ∧ Gm 0 z f s e c_many c_firsts c_seconds q.2.2.2.2.2.1) := by
  have hn := hR.2.1
  have hz := hk.2.1
  have hm := hM.1
  refine up_ok (fun fu g (q : Int32 × Nat × Int32 × Int64 × Int64 × (Nat → Int32) × (Nat → Int32) × (Nat → Int32) × (Nat → Int32) × (Nat → Int32) × (Nat → Int32) × (Nat → Int32) × (Nat → Int32) × (Nat → Int32)) => (fX9_lose_48 N c_firsts c_holds c_many c_seconds x1 (jI wh) fu q.1 (jI q.2.1) (jI g) q.2.2.1 q.2.2.2.1 q.2.2.2.2.1 q.2.2.2.2.2.1 q.2.2.2.2.2.2.1 q.2.2.2.2.2.2.2.1 q.2.2.2.2.2.2.2.2.1 q.2.2.2.2.2.2.2.2.2.1 q.2.2.2.2.2.2.2.2.2.2.1 q.2.2.2.2.2.2.2.2.2.2.2.1 q.2.2.2.2.2.2.2.2.2.2.2.2.1 q.2.2.2.2.2.2.2.2.2.2.2.2.2)) _ z (fun g q => q.1 = frI z e (unB H z f s e (leafN H z f s e) wh i) (cnt g (isOp e)) ∧ q.2.1 = cnt (cnt g (isOp e)) (unB H z f s e (leafN H z f s e) wh i) ∧ Gm 0 z f s e c_many c_firsts c_seconds q.2.2.2.2.2.2.1) ?_ ?_ N 0 (gI 4, 0, v_open, v_sumDown, v_sumUp, c_chooser, c_goes, c_later, c_opens, c_outs, c_payOf, c_placeOf, c_sideAt, c_won) (by omega) (by omega) ⟨rfl, rfl, hM⟩
  · intro fu g ⟨x3, n, w1, w2, w3, c1, cg, c3, c4, c5, c6, c7, c8, c9⟩ hg ⟨hx3, hnn, hGm⟩ ih
    simp only at hx3 hnn hGm
    obtain ⟨m1, m2, m3⟩ := hGm.2 g hg
    rw [show 30 * 0 + g = g by omega] at m1 m2 m3
    obtain ⟨k1, k2, k3, k4⟩ := hk.2.2 g hg
    have hs : cnt (g + 1) (isOp e) = cnt g (isOp e) + (if isOp e g = true then 1 else 0) := rfl
    by_cases he : e g = 2
    · rw [if_pos (isOp_iff.mpr he)] at hs
      have hlt := cnt_lt_of hg (isOp_iff.mpr he)
      have hop := op_of hg (isOp_iff.mpr he)
      have hst := frI_step (p := unB H z f s e (leafN H z f s e) wh i) hz hlt
      rw [hop, ← hx3] at hst
      have hcs : cnt (cnt g (isOp e) + 1) (unB H z f s e (leafN H z f s e) wh i) = n + (if unB H z f s e (leafN H z f s e) wh i (cnt g (isOp e)) then 1 else 0) := by rw [hnn]; rfl
      have next : ∀ (b1 : Int32) (b2 b3 : Int64) (d1 d2 d3 d4 d5 d6 d7 d8 d9 : Nat → Int32), Gm 0 z f s e c_many c_firsts c_seconds d2 → Ok (fX9_lose_48 N c_firsts c_holds c_many c_seconds x1 (jI wh) fu (if unB H z f s e (leafN H z f s e) wh i (cnt g (isOp e)) = true ∧ x3 = gI 4 then jI g else x3) (jI (n + if unB H z f s e (leafN H z f s e) wh i (cnt g (isOp e)) then 1 else 0)) (jI (g + 1)) b1 b2 b3 d1 d2 d3 d4 d5 d6 d7 d8 d9) (fun q => q.1 = (if wh = 2 then jI (cnt (cnt z (isOp e)) (unB H z f s e (leafN H z f s e) wh i)) else frI z e (unB H z f s e (leafN H z f s e) wh i) (cnt z (isOp e))) ∧ Gm 0 z f s e c_many c_firsts c_seconds q.2.2.2.2.2.1) := by
        intro b1 b2 b3 d1 d2 d3 d4 d5 d6 d7 d8 d9 hg2
        exact ih (_, _, b1, b2, b3, d1, d2, d3, d4, d5, d6, d7, d8, d9) ⟨by rw [hs]; exact hst.symm, by rw [hs]; exact hcs.symm, hg2⟩
      have hwant : (wh = 1 ∨ ownB f s g i = true) → Ok ((fX9_lose_97 N c_firsts c_holds c_many c_seconds x1 (jI wh) (fX9_lose_48 N c_firsts c_holds c_many c_seconds x1 (jI wh) fu) x3 (jI n) (jI g) w1 w2 w3 c1 cg c3 c4 c5 c6 c7 c8 c9)) (fun q => q.1 = (if wh = 2 then jI (cnt (cnt z (isOp e)) (unB H z f s e (leafN H z f s e) wh i)) else frI z e (unB H z f s e (leafN H z f s e) wh i) (cnt z (isOp e))) ∧ Gm 0 z f s e c_many c_firsts c_seconds q.2.2.2.2.2.1) := by
        intro hown
        unfold fX9_lose_97
        have hwm : Ok (fX9_wanted N w1 w2 w3 c1 c_firsts cg c_holds c3 c_many c4 c5 c6 c7 c_seconds c8 c9 (jI g)) (fun q => q.1 = jI (lsN H z f s e (leafN H z f s e) (cnt g (isOp e))) ∧ Gm 0 z f s e c_many c_firsts c_seconds q.2.2.2.2.2.1) := by
          have := wantedM (N := N) (v_open := w1) (v_sumDown := w2) (v_sumUp := w3) (c_chooser := c1) (c_later := c3) (c_opens := c4) (c_outs := c5) (c_payOf := c6) (c_placeOf := c7) (c_sideAt := c8) (c_won := c9) hN hR hh hk hGm hd hlt
          rw [hop] at this
          exact this
        refine Ok.b hwm ?_
        intro ⟨q0, q1, q2, q3, q4, q5, q6, q7, q8, q9, q10, q11, q12⟩ ⟨u1, u3⟩
        simp only at u1 u3
        subst u1
        refine lose_107M (B := unB H z f s e (leafN H z f s e) wh i (cnt g (isOp e))) (i := i) (f := f) (s := s) (lsN_le _) hwh (by omega) (fun c => ⟨(hx c).1, by have := (hx c).2; omega⟩) m1 m2 (by omega) (by omega) ?_ (next _ _ _ _ _ _ _ _ _ _ _ _ u3)
        unfold unB
        by_cases h1 : wh = 1
        · rw [if_pos h1, decide_eq_true_eq]
          exact ⟨fun c => Or.inl ⟨h1, c⟩, fun c => by omega⟩
        · rw [if_neg h1, hop]
          have ho := hown.resolve_left h1
          rw [ho, Bool.true_and]
          simp only [ownB, decide_eq_true_eq] at ho
          unfold lsN
          rw [hop]
          rcases ho with ho | ho
          · subst ho
            have : ¬ s g = f g := fun c => k3 c.symm
            cases h5 : wtB H z f s e (leafN H z f s e) (f g) (cnt g (isOp e))
            · cases h6 : wtB H z f s e (leafN H z f s e) (s g) (cnt g (isOp e))
              · simp
              · simp [this]
            · cases h6 : wtB H z f s e (leafN H z f s e) (s g) (cnt g (isOp e))
              · simp [h1]
              · simp [h1]
          · subst ho
            cases h5 : wtB H z f s e (leafN H z f s e) (s g) (cnt g (isOp e))
            · cases h6 : wtB H z f s e (leafN H z f s e) (f g) (cnt g (isOp e))
              · simp
              · simp [k3]
            · cases h6 : wtB H z f s e (leafN H z f s e) (f g) (cnt g (isOp e))
              · simp [h1]
              · simp [h1]
      by_cases h1 : wh = 1
      · have := hwant (Or.inl h1)
        simp (disch := omega) only [jI_0, jI_1, jI_2, jI_3, jI_4, jI_5, jI_6, jI_7, jI_8, jI_9, jI_10, jI_11, jI_12, jI_13, jI_14, jI_15, jI_16, jI_20, jI_24, jI_26, jI_30, jI_31, jI_32, jI_40, jI_48, jI_56, jI_57, jI_59, jI_60, jI_97, jI_99, jI_122, jI_160, jI_240, jI_255, jI_768, jI_1000, ↓jN_1, ↓jN_2, ↓jN_3, ↓jN_4, ↓jN_8, ↓jN_10, ↓jN_11, ↓jN_12, ↓jN_14, ↓jN_20, jI_addN, jI_le, jI_lt, jI_eq, jI_cl, jI_in, jI_add, jI_sub, jI_eqN, gI_eqI, gI_eqN, gI_leI, gI_ltI, jI_leN, jI_ltN, gI_sub, pif_tt, pif_ff, pg_tt, isB, or_true, true_or, pif_T, pif_F, pg_T, pb_S, upd_e, upd_n, fX9_lose_48, hm, m3]
        exact this
      · obtain ⟨rfl, hi⟩ := hx h1
        by_cases hf1 : f g = i
        · have := hwant (Or.inr (by simp [ownB, hf1]))
          simp (disch := omega) only [jI_0, jI_1, jI_2, jI_3, jI_4, jI_5, jI_6, jI_7, jI_8, jI_9, jI_10, jI_11, jI_12, jI_13, jI_14, jI_15, jI_16, jI_20, jI_24, jI_26, jI_30, jI_31, jI_32, jI_40, jI_48, jI_56, jI_57, jI_59, jI_60, jI_97, jI_99, jI_122, jI_160, jI_240, jI_255, jI_768, jI_1000, ↓jN_1, ↓jN_2, ↓jN_3, ↓jN_4, ↓jN_8, ↓jN_10, ↓jN_11, ↓jN_12, ↓jN_14, ↓jN_20, jI_addN, jI_le, jI_lt, jI_eq, jI_cl, jI_in, jI_add, jI_sub, jI_eqN, gI_eqI, gI_eqN, gI_leI, gI_ltI, jI_leN, jI_ltN, gI_sub, pif_tt, pif_ff, pg_tt, isB, or_true, true_or, pif_T, pif_F, pg_T, pb_S, upd_e, upd_n, fX9_lose_48, hm, m1, m2, m3]
          exact this
        · by_cases hs1 : s g = i
          · have := hwant (Or.inr (by simp [ownB, hs1]))
            simp (disch := omega) only [jI_0, jI_1, jI_2, jI_3, jI_4, jI_5, jI_6, jI_7, jI_8, jI_9, jI_10, jI_11, jI_12, jI_13, jI_14, jI_15, jI_16, jI_20, jI_24, jI_26, jI_30, jI_31, jI_32, jI_40, jI_48, jI_56, jI_57, jI_59, jI_60, jI_97, jI_99, jI_122, jI_160, jI_240, jI_255, jI_768, jI_1000, ↓jN_1, ↓jN_2, ↓jN_3, ↓jN_4, ↓jN_8, ↓jN_10, ↓jN_11, ↓jN_12, ↓jN_14, ↓jN_20, jI_addN, jI_le, jI_lt, jI_eq, jI_cl, jI_in, jI_add, jI_sub, jI_eqN, gI_eqI, gI_eqN, gI_leI, gI_ltI, jI_leN, jI_ltN, gI_sub, pif_tt, pif_ff, pg_tt, isB, or_true, true_or, pif_T, pif_F, pg_T, pb_S, upd_e, upd_n, fX9_lose_48, hm, m1, m2, m3]
            exact this
          · simp (disch := omega) only [jI_0, jI_1, jI_2, jI_3, jI_4, jI_5, jI_6, jI_7, jI_8, jI_9, jI_10, jI_11, jI_12, jI_13, jI_14, jI_15, jI_16, jI_20, jI_24, jI_26, jI_30, jI_31, jI_32, jI_40, jI_48, jI_56, jI_57, jI_59, jI_60, jI_97, jI_99, jI_122, jI_160, jI_240, jI_255, jI_768, jI_1000, ↓jN_1, ↓jN_2, ↓jN_3, ↓jN_4, ↓jN_8, ↓jN_10, ↓jN_11, ↓jN_12, ↓jN_14, ↓jN_20, jI_addN, jI_le, jI_lt, jI_eq, jI_cl, jI_in, jI_add, jI_sub, jI_eqN, gI_eqI, gI_eqN, gI_leI, gI_ltI, jI_leN, jI_ltN, gI_sub, pif_tt, pif_ff, pg_tt, isB, or_true, true_or, pif_T, pif_F, pg_T, pb_S, upd_e, upd_n, fX9_lose_48, hm, m1, m2, m3]
            refine lose_107M (B := unB H z f s e (leafN H z f s e) wh i (cnt g (isOp e))) (i := i) (f := f) (s := s) (by omega) hwh (by omega) (fun c => ⟨rfl, by omega⟩) m1 m2 (by omega) (by omega) ?_ (next _ _ _ _ _ _ _ _ _ _ _ _ hGm)
            unfold unB
            rw [if_neg h1, hop]
            have : ownB f s g i = false := by simp [ownB, hf1, hs1]
            rw [this, Bool.false_and]
            constructor
            · intro c; cases c
            · intro c; omega
    · rw [if_neg (fun c => he (isOp_iff.mp c))] at hs
      simp (disch := omega) only [jI_0, jI_1, jI_2, jI_3, jI_4, jI_5, jI_6, jI_7, jI_8, jI_9, jI_10, jI_11, jI_12, jI_13, jI_14, jI_15, jI_16, jI_20, jI_24, jI_26, jI_30, jI_31, jI_32, jI_40, jI_48, jI_56, jI_57, jI_59, jI_60, jI_97, jI_99, jI_122, jI_160, jI_240, jI_255, jI_768, jI_1000, ↓jN_1, ↓jN_2, ↓jN_3, ↓jN_4, ↓jN_8, ↓jN_10, ↓jN_11, ↓jN_12, ↓jN_14, ↓jN_20, jI_addN, jI_le, jI_lt, jI_eq, jI_cl, jI_in, jI_add, jI_sub, jI_eqN, gI_eqI, gI_eqN, gI_leI, gI_ltI, jI_leN, jI_ltN, gI_sub, pif_tt, pif_ff, pg_tt, isB, or_true, true_or, pif_T, pif_F, pg_T, pb_S, upd_e, upd_n, fX9_lose_48, fX9_lose_208, hm, m3]
      exact ih (x3, n, w1, w2, w3, c1, cg, c3, c4, c5, c6, c7, c8, c9) ⟨by rw [hs]; exact hx3, by rw [hs]; exact hnn, hGm⟩
  · intro fu ⟨x3, n, w1, w2, w3, c1, cg, c3, c4, c5, c6, c7, c8, c9⟩ ⟨hx3, hnn, hGm⟩
    simp only at hx3 hnn hGm
    by_cases h2 : wh = 2
    · rw [if_pos h2]
      simp (disch := omega) only [jI_0, jI_1, jI_2, jI_3, jI_4, jI_5, jI_6, jI_7, jI_8, jI_9, jI_10, jI_11, jI_12, jI_13, jI_14, jI_15, jI_16, jI_20, jI_24, jI_26, jI_30, jI_31, jI_32, jI_40, jI_48, jI_56, jI_57, jI_59, jI_60, jI_97, jI_99, jI_122, jI_160, jI_240, jI_255, jI_768, jI_1000, ↓jN_1, ↓jN_2, ↓jN_3, ↓jN_4, ↓jN_8, ↓jN_10, ↓jN_11, ↓jN_12, ↓jN_14, ↓jN_20, jI_addN, jI_le, jI_lt, jI_eq, jI_cl, jI_in, jI_add, jI_sub, jI_eqN, gI_eqI, gI_eqN, gI_leI, gI_ltI, jI_leN, jI_ltN, gI_sub, pif_tt, pif_ff, pg_tt, isB, or_true, true_or, pif_T, pif_F, pg_T, pb_S, upd_e, upd_n, fX9_lose_48, fX9_lose_225, hm]
      exact Ok.s ⟨by rw [hnn], hGm⟩
    · rw [if_neg h2]
      simp (disch := omega) only [jI_0, jI_1, jI_2, jI_3, jI_4, jI_5, jI_6, jI_7, jI_8, jI_9, jI_10, jI_11, jI_12, jI_13, jI_14, jI_15, jI_16, jI_20, jI_24, jI_26, jI_30, jI_31, jI_32, jI_40, jI_48, jI_56, jI_57, jI_59, jI_60, jI_97, jI_99, jI_122, jI_160, jI_240, jI_255, jI_768, jI_1000, ↓jN_1, ↓jN_2, ↓jN_3, ↓jN_4, ↓jN_8, ↓jN_10, ↓jN_11, ↓jN_12, ↓jN_14, ↓jN_20, jI_addN, jI_le, jI_lt, jI_eq, jI_cl, jI_in, jI_add, jI_sub, jI_eqN, gI_eqI, gI_eqN, gI_leI, gI_ltI, jI_leN, jI_ltN, gI_sub, pif_tt, pif_ff, pg_tt, isB, or_true, true_or, pif_T, pif_F, pg_T, pb_S, upd_e, upd_n, fX9_lose_48, fX9_lose_225, hm]
      exact Ok.s ⟨hx3, hGm⟩
end
section
variable {v_depth : Int32} {c_column : Nat → Int64} {c_leaf : Nat → Int64} {c_ofFirst : Nat → Int32} {c_open : Nat → Int32} {v_trial_size : Int32} {c_trial_first : Nat → Int32} {c_trial_second : Nat → Int32}
variable {N z : Nat} {f s e H : Nat → Nat} {L : Nat → Nat → Nat}
theorem frI_hit {p : Nat → Bool} {m k : Nat} (hk : k < m) (h1 : p k = true) (h2 : ∀ j, j < k → p j = false) : frI z e p m = jI (opN z (isOp e) k) := by
  unfold frI
  rw [fstN_eq hk h1 h2, if_pos hk]
theorem frI_none {p : Nat → Bool} {m : Nat} (h2 : ∀ j, j < m → p j = false) : frI z e p m = gI 4 := by
  unfold frI
  rw [fstN_none h2, if_neg (by omega)]
theorem firstUnX {n i wh : Nat} (hN : 1000 ≤ N) (hn : n ≤ 6) (hdp : cnt z (isOp e) ≤ 7) (hk : Gk n z f s e) (hi : i < n) (hwh : wh ≠ 1) (hv : v_trial_size = jI z) (hg : ∀ g, g < z → c_trial_first g = jI (f g) ∧ c_trial_second g = jI (s g)) (hL : ∀ r i, i < n → L r i ≤ 100000) (hl : ∀ r, r < 2 ^ cnt z (isOp e) → ∀ i, i < n → c_leaf (6 * r + i) = jL (L r i)) (ho : ∀ d, d < cnt z (isOp e) → c_ofFirst d = jI (oW H z f s e d) ∧ c_open d = jI (opN z (isOp e) d)) : Ok ((fX6_firstUnwanted N (jI (cnt z (isOp e))) c_column c_leaf c_ofFirst c_open v_trial_size c_trial_first c_trial_second (jI i))) (fun q => q.1 = frI z e (unB H z f s e L wh i) (cnt z (isOp e))) := by
  have hz := hk.2.1
  unfold fX6_firstUnwanted
  refine up_ok (fun fu d cc => (fX6_firstUnwanted_2 N (jI (cnt z (isOp e))) c_leaf c_ofFirst c_open v_trial_size c_trial_first c_trial_second (jI i) fu (jI d) cc)) _ (cnt z (isOp e)) (fun d _ => ∀ j, j < d → unB H z f s e L wh i j = false) ?_ ?_ N 0 c_column (by omega) (by omega) (fun j h => by omega)
  · intro fu d cc hd hp ih
    have o1 := (op_ok hd).1
    have o4 := (ho d hd).2
    obtain ⟨g1, g2⟩ := hg _ o1
    have k1 := (hk.2.2 _ o1).1
    have io := isOfX (N := N) (i := i) hk hn hv o1 (by omega) ⟨g1, g2⟩
    obtain ⟨c2, e2⟩ := wantsX (N := N) (H := H) (f := f) (s := s) (L := L) (i := i) (c_column := cc) hN (by omega) hdp hz hd g1 (by omega) (fun r => hL r i hi) (fun r hr => hl r hr i hi) ho
    have hu : unB H z f s e L wh i d = (ownB f s (opN z (isOp e) d) i && wtB H z f s e L i d) := if_neg hwh
    have keep : unB H z f s e L wh i d = false → ∀ j, j < d + 1 → unB H z f s e L wh i j = false := fun h j hj => by
      by_cases hjd : j = d
      · rw [hjd]; exact h
      · exact hp j (by omega)
    cases hb : ownB f s (opN z (isOp e) d) i
    · rw [hb] at io hu
      simp only [Bool.false_eq_true, if_false, Bool.false_and] at io hu
      simp (disch := omega) only [jI_0, jI_1, jI_2, jI_3, jI_4, jI_5, jI_6, jI_7, jI_8, jI_9, jI_10, jI_11, jI_12, jI_13, jI_14, jI_15, jI_16, jI_20, jI_24, jI_26, jI_30, jI_31, jI_32, jI_40, jI_48, jI_56, jI_57, jI_59, jI_60, jI_97, jI_99, jI_122, jI_160, jI_240, jI_255, jI_768, jI_1000, ↓jN_1, ↓jN_2, ↓jN_3, ↓jN_4, ↓jN_8, ↓jN_10, ↓jN_11, ↓jN_12, ↓jN_14, ↓jN_20, jI_addN, jI_le, jI_lt, jI_eq, jI_cl, jI_in, jI_add, jI_sub, jI_eqN, gI_eqI, gI_eqN, gI_leI, gI_ltI, jI_leN, jI_ltN, gI_sub, pif_tt, pif_ff, pg_tt, isB, or_true, true_or, pif_T, pif_F, pg_T, pb_S, upd_e, upd_n, fX6_firstUnwanted_2, fX6_firstUnwanted_48, o4, io]
      exact ih _ (keep hu)
    · rw [hb] at io hu
      simp only [if_true, Bool.true_and] at io hu
      cases hw : wtB H z f s e L i d
      · rw [hw] at e2 hu
        simp only [Bool.false_eq_true, if_false] at e2
        simp (disch := omega) only [jI_0, jI_1, jI_2, jI_3, jI_4, jI_5, jI_6, jI_7, jI_8, jI_9, jI_10, jI_11, jI_12, jI_13, jI_14, jI_15, jI_16, jI_20, jI_24, jI_26, jI_30, jI_31, jI_32, jI_40, jI_48, jI_56, jI_57, jI_59, jI_60, jI_97, jI_99, jI_122, jI_160, jI_240, jI_255, jI_768, jI_1000, ↓jN_1, ↓jN_2, ↓jN_3, ↓jN_4, ↓jN_8, ↓jN_10, ↓jN_11, ↓jN_12, ↓jN_14, ↓jN_20, jI_addN, jI_le, jI_lt, jI_eq, jI_cl, jI_in, jI_add, jI_sub, jI_eqN, gI_eqI, gI_eqN, gI_leI, gI_ltI, jI_leN, jI_ltN, gI_sub, pif_tt, pif_ff, pg_tt, isB, or_true, true_or, pif_T, pif_F, pg_T, pb_S, upd_e, upd_n, fX6_firstUnwanted_2, fX6_firstUnwanted_48, o4, io, e2]
        exact ih _ (keep hu)
      · rw [hw] at e2 hu
        simp only [if_true] at e2
        simp (disch := omega) only [jI_0, jI_1, jI_2, jI_3, jI_4, jI_5, jI_6, jI_7, jI_8, jI_9, jI_10, jI_11, jI_12, jI_13, jI_14, jI_15, jI_16, jI_20, jI_24, jI_26, jI_30, jI_31, jI_32, jI_40, jI_48, jI_56, jI_57, jI_59, jI_60, jI_97, jI_99, jI_122, jI_160, jI_240, jI_255, jI_768, jI_1000, ↓jN_1, ↓jN_2, ↓jN_3, ↓jN_4, ↓jN_8, ↓jN_10, ↓jN_11, ↓jN_12, ↓jN_14, ↓jN_20, jI_addN, jI_le, jI_lt, jI_eq, jI_cl, jI_in, jI_add, jI_sub, jI_eqN, gI_eqI, gI_eqN, gI_leI, gI_ltI, jI_leN, jI_ltN, gI_sub, pif_tt, pif_ff, pg_tt, isB, or_true, true_or, pif_T, pif_F, pg_T, pb_S, upd_e, upd_n, fX6_firstUnwanted_2, fX6_firstUnwanted_48, o4, io, e2]
        exact Ok.s (frI_hit hd hu hp).symm
  · intro fu cc hp
    simp (disch := omega) only [jI_0, jI_1, jI_2, jI_3, jI_4, jI_5, jI_6, jI_7, jI_8, jI_9, jI_10, jI_11, jI_12, jI_13, jI_14, jI_15, jI_16, jI_20, jI_24, jI_26, jI_30, jI_31, jI_32, jI_40, jI_48, jI_56, jI_57, jI_59, jI_60, jI_97, jI_99, jI_122, jI_160, jI_240, jI_255, jI_768, jI_1000, ↓jN_1, ↓jN_2, ↓jN_3, ↓jN_4, ↓jN_8, ↓jN_10, ↓jN_11, ↓jN_12, ↓jN_14, ↓jN_20, jI_addN, jI_le, jI_lt, jI_eq, jI_cl, jI_in, jI_add, jI_sub, jI_eqN, gI_eqI, gI_eqN, gI_leI, gI_ltI, jI_leN, jI_ltN, gI_sub, pif_tt, pif_ff, pg_tt, isB, or_true, true_or, pif_T, pif_F, pg_T, pb_S, upd_e, upd_n, fX6_firstUnwanted_2]
    exact Ok.s (frI_none hp).symm
theorem howManyX {n i wh : Nat} (hN : 1000 ≤ N) (hn : n ≤ 6) (hdp : cnt z (isOp e) ≤ 7) (hk : Gk n z f s e) (hi : i < n) (hwh : wh ≠ 1) (hv : v_trial_size = jI z) (hg : ∀ g, g < z → c_trial_first g = jI (f g) ∧ c_trial_second g = jI (s g)) (hL : ∀ r i, i < n → L r i ≤ 100000) (hl : ∀ r, r < 2 ^ cnt z (isOp e) → ∀ i, i < n → c_leaf (6 * r + i) = jL (L r i)) (ho : ∀ d, d < cnt z (isOp e) → c_ofFirst d = jI (oW H z f s e d) ∧ c_open d = jI (opN z (isOp e) d)) : Ok ((fX6_howManyUnwanted N (jI (cnt z (isOp e))) c_column c_leaf c_ofFirst c_open v_trial_size c_trial_first c_trial_second (jI i))) (fun q => q.1 = jI (cnt (cnt z (isOp e)) (unB H z f s e L wh i))) := by
  have hz := hk.2.1
  unfold fX6_howManyUnwanted
  refine up_ok (fun fu d (q : Nat × (Nat → Int64)) => (fX6_howManyUnwanted_4 N (jI (cnt z (isOp e))) c_leaf c_ofFirst c_open v_trial_size c_trial_first c_trial_second (jI i) fu (jI q.1) (jI d) q.2)) _ (cnt z (isOp e)) (fun d q => q.1 = cnt d (unB H z f s e L wh i)) ?_ ?_ N 0 (0, c_column) (by omega) (by omega) rfl
  · intro fu d ⟨a, cc⟩ hd hp ih
    simp only at hp
    have o1 := (op_ok hd).1
    have o4 := (ho d hd).2
    obtain ⟨g1, g2⟩ := hg _ o1
    have k1 := (hk.2.2 _ o1).1
    have io := isOfX (N := N) (i := i) hk hn hv o1 (by omega) ⟨g1, g2⟩
    obtain ⟨c2, e2⟩ := wantsX (N := N) (H := H) (f := f) (s := s) (L := L) (i := i) (c_column := cc) hN (by omega) hdp hz hd g1 (by omega) (fun r => hL r i hi) (fun r hr => hl r hr i hi) ho
    have hu : unB H z f s e L wh i d = (ownB f s (opN z (isOp e) d) i && wtB H z f s e L i d) := if_neg hwh
    have hs : cnt (d + 1) (unB H z f s e L wh i) = cnt d (unB H z f s e L wh i) + (if unB H z f s e L wh i d = true then 1 else 0) := rfl
    cases hb : ownB f s (opN z (isOp e) d) i
    · rw [hb] at io hu
      simp only [Bool.false_eq_true, if_false, Bool.false_and] at io hu
      simp (disch := omega) only [jI_0, jI_1, jI_2, jI_3, jI_4, jI_5, jI_6, jI_7, jI_8, jI_9, jI_10, jI_11, jI_12, jI_13, jI_14, jI_15, jI_16, jI_20, jI_24, jI_26, jI_30, jI_31, jI_32, jI_40, jI_48, jI_56, jI_57, jI_59, jI_60, jI_97, jI_99, jI_122, jI_160, jI_240, jI_255, jI_768, jI_1000, ↓jN_1, ↓jN_2, ↓jN_3, ↓jN_4, ↓jN_8, ↓jN_10, ↓jN_11, ↓jN_12, ↓jN_14, ↓jN_20, jI_addN, jI_le, jI_lt, jI_eq, jI_cl, jI_in, jI_add, jI_sub, jI_eqN, gI_eqI, gI_eqN, gI_leI, gI_ltI, jI_leN, jI_ltN, gI_sub, pif_tt, pif_ff, pg_tt, isB, or_true, true_or, pif_T, pif_F, pg_T, pb_S, upd_e, upd_n, fX6_howManyUnwanted_4, fX6_howManyUnwanted_46, o4, io]
      exact ih (a, cc) (by rw [hs, hu, ← hp]; rfl)
    · rw [hb] at io hu
      simp only [if_true, Bool.true_and] at io hu
      cases hw : wtB H z f s e L i d
      · rw [hw] at e2 hu
        simp only [Bool.false_eq_true, if_false] at e2
        simp (disch := omega) only [jI_0, jI_1, jI_2, jI_3, jI_4, jI_5, jI_6, jI_7, jI_8, jI_9, jI_10, jI_11, jI_12, jI_13, jI_14, jI_15, jI_16, jI_20, jI_24, jI_26, jI_30, jI_31, jI_32, jI_40, jI_48, jI_56, jI_57, jI_59, jI_60, jI_97, jI_99, jI_122, jI_160, jI_240, jI_255, jI_768, jI_1000, ↓jN_1, ↓jN_2, ↓jN_3, ↓jN_4, ↓jN_8, ↓jN_10, ↓jN_11, ↓jN_12, ↓jN_14, ↓jN_20, jI_addN, jI_le, jI_lt, jI_eq, jI_cl, jI_in, jI_add, jI_sub, jI_eqN, gI_eqI, gI_eqN, gI_leI, gI_ltI, jI_leN, jI_ltN, gI_sub, pif_tt, pif_ff, pg_tt, isB, or_true, true_or, pif_T, pif_F, pg_T, pb_S, upd_e, upd_n, fX6_howManyUnwanted_4, fX6_howManyUnwanted_46, o4, io, e2]
        exact ih (a, c2) (by rw [hs, hu, ← hp]; rfl)
      · rw [hw] at e2 hu
        simp only [if_true] at e2
        simp (disch := omega) only [jI_0, jI_1, jI_2, jI_3, jI_4, jI_5, jI_6, jI_7, jI_8, jI_9, jI_10, jI_11, jI_12, jI_13, jI_14, jI_15, jI_16, jI_20, jI_24, jI_26, jI_30, jI_31, jI_32, jI_40, jI_48, jI_56, jI_57, jI_59, jI_60, jI_97, jI_99, jI_122, jI_160, jI_240, jI_255, jI_768, jI_1000, ↓jN_1, ↓jN_2, ↓jN_3, ↓jN_4, ↓jN_8, ↓jN_10, ↓jN_11, ↓jN_12, ↓jN_14, ↓jN_20, jI_addN, jI_le, jI_lt, jI_eq, jI_cl, jI_in, jI_add, jI_sub, jI_eqN, gI_eqI, gI_eqN, gI_leI, gI_ltI, jI_leN, jI_ltN, gI_sub, pif_tt, pif_ff, pg_tt, isB, or_true, true_or, pif_T, pif_F, pg_T, pb_S, upd_e, upd_n, fX6_howManyUnwanted_4, fX6_howManyUnwanted_46, o4, io, e2]
        exact ih (a + 1, c2) (by rw [hs, hu, ← hp]; rfl)
  · intro fu ⟨a, cc⟩ hp
    simp only at hp
    simp (disch := omega) only [jI_0, jI_1, jI_2, jI_3, jI_4, jI_5, jI_6, jI_7, jI_8, jI_9, jI_10, jI_11, jI_12, jI_13, jI_14, jI_15, jI_16, jI_20, jI_24, jI_26, jI_30, jI_31, jI_32, jI_40, jI_48, jI_56, jI_57, jI_59, jI_60, jI_97, jI_99, jI_122, jI_160, jI_240, jI_255, jI_768, jI_1000, ↓jN_1, ↓jN_2, ↓jN_3, ↓jN_4, ↓jN_8, ↓jN_10, ↓jN_11, ↓jN_12, ↓jN_14, ↓jN_20, jI_addN, jI_le, jI_lt, jI_eq, jI_cl, jI_in, jI_add, jI_sub, jI_eqN, gI_eqI, gI_eqN, gI_leI, gI_ltI, jI_leN, jI_ltN, gI_sub, pif_tt, pif_ff, pg_tt, isB, or_true, true_or, pif_T, pif_F, pg_T, pb_S, upd_e, upd_n, fX6_howManyUnwanted_4]
    exact Ok.s (by rw [hp])
theorem bothX {n i : Nat} (hN : 1000 ≤ N) (hn : n ≤ 6) (hdp : cnt z (isOp e) ≤ 7) (hk : Gk n z f s e) (hg : ∀ g, g < z → c_trial_first g = jI (f g) ∧ c_trial_second g = jI (s g)) (hL : ∀ r i, i < n → L r i ≤ 100000) (hl : ∀ r, r < 2 ^ cnt z (isOp e) → ∀ i, i < n → c_leaf (6 * r + i) = jL (L r i)) (ho : ∀ d, d < cnt z (isOp e) → c_ofFirst d = jI (oW H z f s e d) ∧ c_open d = jI (opN z (isOp e) d)) : Ok ((fX6_firstUnwantedByBoth N (jI (cnt z (isOp e))) c_column c_leaf c_ofFirst c_open c_trial_first c_trial_second)) (fun q => q.1 = frI z e (unB H z f s e L 1 i) (cnt z (isOp e))) := by
  have hz := hk.2.1
  unfold fX6_firstUnwantedByBoth
  refine up_ok (fun fu d cc => (fX6_firstUnwantedByBoth_2 N (jI (cnt z (isOp e))) c_leaf c_ofFirst c_open c_trial_first c_trial_second fu (jI d) cc)) _ (cnt z (isOp e)) (fun d _ => ∀ j, j < d → unB H z f s e L 1 i j = false) ?_ ?_ N 0 c_column (by omega) (by omega) (fun j h => by omega)
  · intro fu d cc hd hp ih
    have o1 := (op_ok hd).1
    have o4 := (ho d hd).2
    obtain ⟨c2, e2⟩ := losersX (N := N) (H := H) (f := f) (s := s) (L := L) (n := n) (c_column := cc) hN hn hdp hk hd hg hL hl ho
    have hu : unB H z f s e L 1 i d = decide (lsN H z f s e L d = 3) := if_pos rfl
    have hls := lsN_le (H := H) (z := z) (f := f) (s := s) (e := e) (L := L) d
    by_cases h3 : lsN H z f s e L d = 3
    · rw [decide_eq_true h3] at hu
      simp (disch := omega) only [jI_0, jI_1, jI_2, jI_3, jI_4, jI_5, jI_6, jI_7, jI_8, jI_9, jI_10, jI_11, jI_12, jI_13, jI_14, jI_15, jI_16, jI_20, jI_24, jI_26, jI_30, jI_31, jI_32, jI_40, jI_48, jI_56, jI_57, jI_59, jI_60, jI_97, jI_99, jI_122, jI_160, jI_240, jI_255, jI_768, jI_1000, ↓jN_1, ↓jN_2, ↓jN_3, ↓jN_4, ↓jN_8, ↓jN_10, ↓jN_11, ↓jN_12, ↓jN_14, ↓jN_20, jI_addN, jI_le, jI_lt, jI_eq, jI_cl, jI_in, jI_add, jI_sub, jI_eqN, gI_eqI, gI_eqN, gI_leI, gI_ltI, jI_leN, jI_ltN, gI_sub, pif_tt, pif_ff, pg_tt, isB, or_true, true_or, pif_T, pif_F, pg_T, pb_S, upd_e, upd_n, fX6_firstUnwantedByBoth_2, o4, e2]
      exact Ok.s (frI_hit hd hu hp).symm
    · rw [decide_eq_false h3] at hu
      simp (disch := omega) only [jI_0, jI_1, jI_2, jI_3, jI_4, jI_5, jI_6, jI_7, jI_8, jI_9, jI_10, jI_11, jI_12, jI_13, jI_14, jI_15, jI_16, jI_20, jI_24, jI_26, jI_30, jI_31, jI_32, jI_40, jI_48, jI_56, jI_57, jI_59, jI_60, jI_97, jI_99, jI_122, jI_160, jI_240, jI_255, jI_768, jI_1000, ↓jN_1, ↓jN_2, ↓jN_3, ↓jN_4, ↓jN_8, ↓jN_10, ↓jN_11, ↓jN_12, ↓jN_14, ↓jN_20, jI_addN, jI_le, jI_lt, jI_eq, jI_cl, jI_in, jI_add, jI_sub, jI_eqN, gI_eqI, gI_eqN, gI_leI, gI_ltI, jI_leN, jI_ltN, gI_sub, pif_tt, pif_ff, pg_tt, isB, or_true, true_or, pif_T, pif_F, pg_T, pb_S, upd_e, upd_n, fX6_firstUnwantedByBoth_2, o4, e2]
      refine ih _ (fun j hj => ?_)
      by_cases hjd : j = d
      · rw [hjd]; exact hu
      · exact hp j (by omega)
  · intro fu cc hp
    simp (disch := omega) only [jI_0, jI_1, jI_2, jI_3, jI_4, jI_5, jI_6, jI_7, jI_8, jI_9, jI_10, jI_11, jI_12, jI_13, jI_14, jI_15, jI_16, jI_20, jI_24, jI_26, jI_30, jI_31, jI_32, jI_40, jI_48, jI_56, jI_57, jI_59, jI_60, jI_97, jI_99, jI_122, jI_160, jI_240, jI_255, jI_768, jI_1000, ↓jN_1, ↓jN_2, ↓jN_3, ↓jN_4, ↓jN_8, ↓jN_10, ↓jN_11, ↓jN_12, ↓jN_14, ↓jN_20, jI_addN, jI_le, jI_lt, jI_eq, jI_cl, jI_in, jI_add, jI_sub, jI_eqN, gI_eqI, gI_eqN, gI_leI, gI_ltI, jI_leN, jI_ltN, gI_sub, pif_tt, pif_ff, pg_tt, isB, or_true, true_or, pif_T, pif_F, pg_T, pb_S, upd_e, upd_n, fX6_firstUnwantedByBoth_2]
    exact Ok.s (frI_none hp).symm
end
section
variable {v_games_size : Int32} {c_games_ending : Nat → Int32} {c_games_first : Nat → Int32} {c_games_second : Nat → Int32} {v_rules_kind : Int32} {v_rules_rounds : Int32} {v_rules_sides : Int32} {c_rules_balls : Nat → Int32} {c_rules_choiceWorth : Nat → Int32} {c_rules_placeWorth : Nat → Int32} {c_rules_strength : Nat → Int32} {c_rules_wheel : Nat → Int32} {v_tree_depth : Int32} {c_tree_column : Nat → Int64} {c_tree_leaf : Nat → Int64} {c_tree_ofFirst : Nat → Int32} {c_tree_open : Nat → Int32} {v_tree_rules_kind : Int32} {v_tree_rules_rounds : Int32} {v_tree_rules_sides : Int32} {c_tree_rules_balls : Nat → Int32} {c_tree_rules_choiceWorth : Nat → Int32} {c_tree_rules_placeWorth : Nat → Int32} {c_tree_rules_strength : Nat → Int32} {c_tree_rules_wheel : Nat → Int32} {v_tree_standing_sides : Int32} {c_tree_standing_merit : Nat → Int32} {c_tree_standing_order : Nat → Int32} {c_tree_standing_outAt : Nat → Int32} {c_tree_standing_seat : Nat → Int32} {c_tree_standing_toCome : Nat → Int32} {c_tree_standing_turn : Nat → Int32} {c_tree_standing_won : Nat → Int32} {v_tree_trial_size : Int32} {c_tree_trial_ending : Nat → Int32} {c_tree_trial_first : Nat → Int32} {c_tree_trial_second : Nat → Int32} {v_open : Int32} {v_sumDown : Int64} {v_sumUp : Int64} {c_chooser : Nat → Int32} {c_firsts : Nat → Int32} {c_goes : Nat → Int32} {c_holds : Nat → Int32} {c_later : Nat → Int32} {c_many : Nat → Int32} {c_opens : Nat → Int32} {c_outs : Nat → Int32} {c_payOf : Nat → Int32} {c_placeOf : Nat → Int32} {c_seconds : Nat → Int32} {c_sideAt : Nat → Int32} {c_won : Nat → Int32}
variable {N z : Nat} {f s e H : Nat → Nat}
theorem lose_24 {wh i : Nat} {x1 : Int32} (hwh : wh ≤ 2) (hx : wh ≠ 1 → x1 = jI i ∧ i < H 0) (hN : 1000 ≤ N) (hR : Rk H) (hc : Rc H v_rules_kind v_rules_sides c_rules_balls c_rules_choiceWorth c_rules_placeWorth c_rules_strength c_rules_wheel) (hh : Rm H c_holds) (hk : Gk (H 0) z f s e) (hG : Gc z f s e v_games_size c_games_first c_games_second c_games_ending) (hM : Gm 0 z f s e c_many c_firsts c_seconds c_goes) : Ok ((fX8_lose_24 N v_games_size c_games_ending c_games_first c_games_second v_rules_kind v_rules_rounds v_rules_sides c_rules_balls c_rules_choiceWorth c_rules_placeWorth c_rules_strength c_rules_wheel x1 (jI wh) v_tree_depth c_tree_column c_tree_leaf c_tree_ofFirst c_tree_open v_tree_rules_kind v_tree_rules_rounds v_tree_rules_sides c_tree_rules_balls c_tree_rules_choiceWorth c_tree_rules_placeWorth c_tree_rules_strength c_tree_rules_wheel v_tree_standing_sides c_tree_standing_merit c_tree_standing_order c_tree_standing_outAt c_tree_standing_seat c_tree_standing_toCome c_tree_standing_turn c_tree_standing_won v_tree_trial_size c_tree_trial_ending c_tree_trial_first c_tree_trial_second)) (fun a => Ok ((fX9_lose_27 N c_firsts c_holds c_many c_seconds x1 (jI wh) v_open v_sumDown v_sumUp c_chooser c_goes c_later c_opens c_outs c_payOf c_placeOf c_sideAt c_won)) (fun b => a.1 = b.1 ∧ Gm 0 z f s e c_many c_firsts c_seconds b.2.2.2.2.2.1)) := by
  have hn := hR.2.1
  have hz := hk.2.1
  have hcl := cnt_le z (isOp e)
  have o1 := openOnesX (N := N) (by omega) hk hG
  have o2 := openManyM (N := N) (by omega) hk hM
  by_cases hd : cnt z (isOp e) ≤ 7
  · obtain ⟨⟨q0, q1, q2, q3, q4, q5, q6, q7, q8, q9, q10, q11, q12⟩, e9, u1, u3⟩ := lose_48M (N := N) (wh := wh) (i := i) (x1 := x1) (v_open := v_open) (v_sumDown := v_sumDown) (v_sumUp := v_sumUp) (c_chooser := c_chooser) (c_later := c_later) (c_opens := c_opens) (c_outs := c_outs) (c_payOf := c_payOf) (c_placeOf := c_placeOf) (c_sideAt := c_sideAt) (c_won := c_won) hN hR hh hk hM hd hwh hx
    simp only at u1 u3
    simp (disch := omega) only [jI_0, jI_1, jI_2, jI_3, jI_4, jI_5, jI_6, jI_7, jI_8, jI_9, jI_10, jI_11, jI_12, jI_13, jI_14, jI_15, jI_16, jI_20, jI_24, jI_26, jI_30, jI_31, jI_32, jI_40, jI_48, jI_56, jI_57, jI_59, jI_60, jI_97, jI_99, jI_122, jI_160, jI_240, jI_255, jI_768, jI_1000, ↓jN_1, ↓jN_2, ↓jN_3, ↓jN_4, ↓jN_8, ↓jN_10, ↓jN_11, ↓jN_12, ↓jN_14, ↓jN_20, jI_addN, jI_le, jI_lt, jI_eq, jI_cl, jI_in, jI_add, jI_sub, jI_eqN, gI_eqI, gI_eqN, gI_leI, gI_ltI, jI_leN, jI_ltN, gI_sub, pif_tt, pif_ff, pg_tt, isB, or_true, true_or, pif_T, pif_F, pg_T, pb_S, upd_e, upd_n, fX8_lose_24, o1]
    refine Ok.b (growPaysX hN hR hc hk hG hd) ?_
    intro ⟨vd, cl, co, cp, vk, vr, vs, cb, cc, cpw, cst, cwh, ss, sm, so, sou, sse, sto, stu, sw, vz, ce, cf, cs⟩ ⟨hB, hl⟩
    simp only at hB hl
    obtain ⟨rfl, b2, b3, rfl, b5⟩ := hB
    by_cases h0 : wh = 0
    · obtain ⟨rfl, hi⟩ := hx (by omega)
      rw [if_neg (by omega)] at u1
      have := firstUnX (N := N) (H := H) (wh := wh) (n := H 0) (i := i) (v_trial_size := jI z) (L := leafN H z f s e) (c_column := c_tree_column) hN hn hd hk hi (by omega) rfl (fun g hg => ⟨(b5 g hg).1, (b5 g hg).2.1⟩) (fun r i hi => payN_le hR hi) hl b2
      obtain ⟨⟨p1, p2⟩, e2, u2⟩ := this
      simp only at u2
      simp (disch := omega) only [jI_0, jI_1, jI_2, jI_3, jI_4, jI_5, jI_6, jI_7, jI_8, jI_9, jI_10, jI_11, jI_12, jI_13, jI_14, jI_15, jI_16, jI_20, jI_24, jI_26, jI_30, jI_31, jI_32, jI_40, jI_48, jI_56, jI_57, jI_59, jI_60, jI_97, jI_99, jI_122, jI_160, jI_240, jI_255, jI_768, jI_1000, ↓jN_1, ↓jN_2, ↓jN_3, ↓jN_4, ↓jN_8, ↓jN_10, ↓jN_11, ↓jN_12, ↓jN_14, ↓jN_20, jI_addN, jI_le, jI_lt, jI_eq, jI_cl, jI_in, jI_add, jI_sub, jI_eqN, gI_eqI, gI_eqN, gI_leI, gI_ltI, jI_leN, jI_ltN, gI_sub, pif_tt, pif_ff, pg_tt, isB, or_true, true_or, pif_T, pif_F, pg_T, pb_S, upd_e, upd_n, e2]
      refine Ok.s ?_
      simp (disch := omega) only [jI_0, jI_1, jI_2, jI_3, jI_4, jI_5, jI_6, jI_7, jI_8, jI_9, jI_10, jI_11, jI_12, jI_13, jI_14, jI_15, jI_16, jI_20, jI_24, jI_26, jI_30, jI_31, jI_32, jI_40, jI_48, jI_56, jI_57, jI_59, jI_60, jI_97, jI_99, jI_122, jI_160, jI_240, jI_255, jI_768, jI_1000, ↓jN_1, ↓jN_2, ↓jN_3, ↓jN_4, ↓jN_8, ↓jN_10, ↓jN_11, ↓jN_12, ↓jN_14, ↓jN_20, jI_addN, jI_le, jI_lt, jI_eq, jI_cl, jI_in, jI_add, jI_sub, jI_eqN, gI_eqI, gI_eqN, gI_leI, gI_ltI, jI_leN, jI_ltN, gI_sub, pif_tt, pif_ff, pg_tt, isB, or_true, true_or, pif_T, pif_F, pg_T, pb_S, upd_e, upd_n, fX9_lose_27, o2, e9]
      exact Ok.s ⟨u2.trans u1.symm, u3⟩
    · by_cases h1 : wh = 1
      · subst h1
        rw [if_neg (by omega)] at u1
        have := bothX (N := N) (H := H) (n := H 0) (i := i) (L := leafN H z f s e) (c_column := c_tree_column) hN hn hd hk (fun g hg => ⟨(b5 g hg).1, (b5 g hg).2.1⟩) (fun r i hi => payN_le hR hi) hl b2
        obtain ⟨⟨p1, p2⟩, e2, u2⟩ := this
        simp only at u2
        simp (disch := omega) only [jI_0, jI_1, jI_2, jI_3, jI_4, jI_5, jI_6, jI_7, jI_8, jI_9, jI_10, jI_11, jI_12, jI_13, jI_14, jI_15, jI_16, jI_20, jI_24, jI_26, jI_30, jI_31, jI_32, jI_40, jI_48, jI_56, jI_57, jI_59, jI_60, jI_97, jI_99, jI_122, jI_160, jI_240, jI_255, jI_768, jI_1000, ↓jN_1, ↓jN_2, ↓jN_3, ↓jN_4, ↓jN_8, ↓jN_10, ↓jN_11, ↓jN_12, ↓jN_14, ↓jN_20, jI_addN, jI_le, jI_lt, jI_eq, jI_cl, jI_in, jI_add, jI_sub, jI_eqN, gI_eqI, gI_eqN, gI_leI, gI_ltI, jI_leN, jI_ltN, gI_sub, pif_tt, pif_ff, pg_tt, isB, or_true, true_or, pif_T, pif_F, pg_T, pb_S, upd_e, upd_n, e2]
        refine Ok.s ?_
        simp (disch := omega) only [jI_0, jI_1, jI_2, jI_3, jI_4, jI_5, jI_6, jI_7, jI_8, jI_9, jI_10, jI_11, jI_12, jI_13, jI_14, jI_15, jI_16, jI_20, jI_24, jI_26, jI_30, jI_31, jI_32, jI_40, jI_48, jI_56, jI_57, jI_59, jI_60, jI_97, jI_99, jI_122, jI_160, jI_240, jI_255, jI_768, jI_1000, ↓jN_1, ↓jN_2, ↓jN_3, ↓jN_4, ↓jN_8, ↓jN_10, ↓jN_11, ↓jN_12, ↓jN_14, ↓jN_20, jI_addN, jI_le, jI_lt, jI_eq, jI_cl, jI_in, jI_add, jI_sub, jI_eqN, gI_eqI, gI_eqN, gI_leI, gI_ltI, jI_leN, jI_ltN, gI_sub, pif_tt, pif_ff, pg_tt, isB, or_true, true_or, pif_T, pif_F, pg_T, pb_S, upd_e, upd_n, fX9_lose_27, o2, e9]
        exact Ok.s ⟨u2.trans u1.symm, u3⟩
      · obtain ⟨rfl, hi⟩ := hx h1
        rw [if_pos (by omega)] at u1
        have := howManyX (N := N) (H := H) (wh := wh) (n := H 0) (i := i) (v_trial_size := jI z) (L := leafN H z f s e) (c_column := c_tree_column) hN hn hd hk hi h1 rfl (fun g hg => ⟨(b5 g hg).1, (b5 g hg).2.1⟩) (fun r i hi => payN_le hR hi) hl b2
        obtain ⟨⟨p1, p2⟩, e2, u2⟩ := this
        simp only at u2
        simp (disch := omega) only [jI_0, jI_1, jI_2, jI_3, jI_4, jI_5, jI_6, jI_7, jI_8, jI_9, jI_10, jI_11, jI_12, jI_13, jI_14, jI_15, jI_16, jI_20, jI_24, jI_26, jI_30, jI_31, jI_32, jI_40, jI_48, jI_56, jI_57, jI_59, jI_60, jI_97, jI_99, jI_122, jI_160, jI_240, jI_255, jI_768, jI_1000, ↓jN_1, ↓jN_2, ↓jN_3, ↓jN_4, ↓jN_8, ↓jN_10, ↓jN_11, ↓jN_12, ↓jN_14, ↓jN_20, jI_addN, jI_le, jI_lt, jI_eq, jI_cl, jI_in, jI_add, jI_sub, jI_eqN, gI_eqI, gI_eqN, gI_leI, gI_ltI, jI_leN, jI_ltN, gI_sub, pif_tt, pif_ff, pg_tt, isB, or_true, true_or, pif_T, pif_F, pg_T, pb_S, upd_e, upd_n, e2]
        refine Ok.s ?_
        simp (disch := omega) only [jI_0, jI_1, jI_2, jI_3, jI_4, jI_5, jI_6, jI_7, jI_8, jI_9, jI_10, jI_11, jI_12, jI_13, jI_14, jI_15, jI_16, jI_20, jI_24, jI_26, jI_30, jI_31, jI_32, jI_40, jI_48, jI_56, jI_57, jI_59, jI_60, jI_97, jI_99, jI_122, jI_160, jI_240, jI_255, jI_768, jI_1000, ↓jN_1, ↓jN_2, ↓jN_3, ↓jN_4, ↓jN_8, ↓jN_10, ↓jN_11, ↓jN_12, ↓jN_14, ↓jN_20, jI_addN, jI_le, jI_lt, jI_eq, jI_cl, jI_in, jI_add, jI_sub, jI_eqN, gI_eqI, gI_eqN, gI_leI, gI_ltI, jI_leN, jI_ltN, gI_sub, pif_tt, pif_ff, pg_tt, isB, or_true, true_or, pif_T, pif_F, pg_T, pb_S, upd_e, upd_n, fX9_lose_27, o2, e9]
        exact Ok.s ⟨u2.trans u1.symm, u3⟩
  · simp (disch := omega) only [jI_0, jI_1, jI_2, jI_3, jI_4, jI_5, jI_6, jI_7, jI_8, jI_9, jI_10, jI_11, jI_12, jI_13, jI_14, jI_15, jI_16, jI_20, jI_24, jI_26, jI_30, jI_31, jI_32, jI_40, jI_48, jI_56, jI_57, jI_59, jI_60, jI_97, jI_99, jI_122, jI_160, jI_240, jI_255, jI_768, jI_1000, ↓jN_1, ↓jN_2, ↓jN_3, ↓jN_4, ↓jN_8, ↓jN_10, ↓jN_11, ↓jN_12, ↓jN_14, ↓jN_20, jI_addN, jI_le, jI_lt, jI_eq, jI_cl, jI_in, jI_add, jI_sub, jI_eqN, gI_eqI, gI_eqN, gI_leI, gI_ltI, jI_leN, jI_ltN, gI_sub, pif_tt, pif_ff, pg_tt, isB, or_true, true_or, pif_T, pif_F, pg_T, pb_S, upd_e, upd_n, fX8_lose_24, o1]
    refine Ok.s ?_
    simp (disch := omega) only [jI_0, jI_1, jI_2, jI_3, jI_4, jI_5, jI_6, jI_7, jI_8, jI_9, jI_10, jI_11, jI_12, jI_13, jI_14, jI_15, jI_16, jI_20, jI_24, jI_26, jI_30, jI_31, jI_32, jI_40, jI_48, jI_56, jI_57, jI_59, jI_60, jI_97, jI_99, jI_122, jI_160, jI_240, jI_255, jI_768, jI_1000, ↓jN_1, ↓jN_2, ↓jN_3, ↓jN_4, ↓jN_8, ↓jN_10, ↓jN_11, ↓jN_12, ↓jN_14, ↓jN_20, jI_addN, jI_le, jI_lt, jI_eq, jI_cl, jI_in, jI_add, jI_sub, jI_eqN, gI_eqI, gI_eqN, gI_leI, gI_ltI, jI_leN, jI_ltN, gI_sub, pif_tt, pif_ff, pg_tt, isB, or_true, true_or, pif_T, pif_F, pg_T, pb_S, upd_e, upd_n, fX9_lose_27, o2]
    exact Ok.s ⟨rfl, hM⟩
theorem c_lose (x1 x2 : Int32) (hN : 1000 ≤ N) (hR : Rk H) (hc : Rc H v_rules_kind v_rules_sides c_rules_balls c_rules_choiceWorth c_rules_placeWorth c_rules_strength c_rules_wheel) (hh : Rm H c_holds) (hk : Gk (H 0) z f s e) (hG : Gc z f s e v_games_size c_games_first c_games_second c_games_ending) (hM : Gm 0 z f s e c_many c_firsts c_seconds c_goes) : Ok ((fX8_lose N v_games_size c_games_ending c_games_first c_games_second v_rules_kind v_rules_rounds v_rules_sides c_rules_balls c_rules_choiceWorth c_rules_placeWorth c_rules_strength c_rules_wheel v_tree_depth c_tree_column c_tree_leaf c_tree_ofFirst c_tree_open v_tree_rules_kind v_tree_rules_rounds v_tree_rules_sides c_tree_rules_balls c_tree_rules_choiceWorth c_tree_rules_placeWorth c_tree_rules_strength c_tree_rules_wheel v_tree_standing_sides c_tree_standing_merit c_tree_standing_order c_tree_standing_outAt c_tree_standing_seat c_tree_standing_toCome c_tree_standing_turn c_tree_standing_won v_tree_trial_size c_tree_trial_ending c_tree_trial_first c_tree_trial_second x1 x2)) (fun a => Ok ((fX9_lose N v_open v_sumDown v_sumUp c_chooser c_firsts c_goes c_holds c_later c_many c_opens c_outs c_payOf c_placeOf c_seconds c_sideAt c_won x1 x2)) (fun b => a.1 = b.1 ∧ Gm 0 z f s e c_many c_firsts c_seconds b.2.2.2.2.2.1)) := by
  have hv := hc.2.1
  rcases in_c (N := N) x2 2 (by omega) with ⟨wh, hwh, rfl, i1⟩ | ⟨hcc, i1⟩
  · by_cases h1 : wh = 1
    · obtain ⟨A, ea, B, eb, hab⟩ := lose_24 (N := N) (wh := wh) (i := 0) (x1 := x1) (v_open := v_open) (v_sumDown := v_sumDown) (v_sumUp := v_sumUp) (c_chooser := c_chooser) (c_later := c_later) (c_opens := c_opens) (c_outs := c_outs) (c_payOf := c_payOf) (c_placeOf := c_placeOf) (c_sideAt := c_sideAt) (c_won := c_won) (v_rules_rounds := v_rules_rounds) (v_tree_depth := v_tree_depth) (c_tree_column := c_tree_column) (c_tree_leaf := c_tree_leaf) (c_tree_ofFirst := c_tree_ofFirst) (c_tree_open := c_tree_open) (v_tree_rules_kind := v_tree_rules_kind) (v_tree_rules_rounds := v_tree_rules_rounds) (v_tree_rules_sides := v_tree_rules_sides) (c_tree_rules_balls := c_tree_rules_balls) (c_tree_rules_choiceWorth := c_tree_rules_choiceWorth) (c_tree_rules_placeWorth := c_tree_rules_placeWorth) (c_tree_rules_strength := c_tree_rules_strength) (c_tree_rules_wheel := c_tree_rules_wheel) (v_tree_standing_sides := v_tree_standing_sides) (c_tree_standing_merit := c_tree_standing_merit) (c_tree_standing_order := c_tree_standing_order) (c_tree_standing_outAt := c_tree_standing_outAt) (c_tree_standing_seat := c_tree_standing_seat) (c_tree_standing_toCome := c_tree_standing_toCome) (c_tree_standing_turn := c_tree_standing_turn) (c_tree_standing_won := c_tree_standing_won) (v_tree_trial_size := v_tree_trial_size) (c_tree_trial_ending := c_tree_trial_ending) (c_tree_trial_first := c_tree_trial_first) (c_tree_trial_second := c_tree_trial_second) hwh (fun c => absurd h1 c) hN hR hc hh hk hG hM
      simp (disch := omega) only [jI_0, jI_1, jI_2, jI_3, jI_4, jI_5, jI_6, jI_7, jI_8, jI_9, jI_10, jI_11, jI_12, jI_13, jI_14, jI_15, jI_16, jI_20, jI_24, jI_26, jI_30, jI_31, jI_32, jI_40, jI_48, jI_56, jI_57, jI_59, jI_60, jI_97, jI_99, jI_122, jI_160, jI_240, jI_255, jI_768, jI_1000, ↓jN_1, ↓jN_2, ↓jN_3, ↓jN_4, ↓jN_8, ↓jN_10, ↓jN_11, ↓jN_12, ↓jN_14, ↓jN_20, jI_addN, jI_le, jI_lt, jI_eq, jI_cl, jI_in, jI_add, jI_sub, jI_eqN, gI_eqI, gI_eqN, gI_leI, gI_ltI, jI_leN, jI_ltN, gI_sub, pif_tt, pif_ff, pg_tt, isB, or_true, true_or, pif_T, pif_F, pg_T, pb_S, upd_e, upd_n, fX8_lose, ea]
      refine Ok.s ?_
      simp (disch := omega) only [jI_0, jI_1, jI_2, jI_3, jI_4, jI_5, jI_6, jI_7, jI_8, jI_9, jI_10, jI_11, jI_12, jI_13, jI_14, jI_15, jI_16, jI_20, jI_24, jI_26, jI_30, jI_31, jI_32, jI_40, jI_48, jI_56, jI_57, jI_59, jI_60, jI_97, jI_99, jI_122, jI_160, jI_240, jI_255, jI_768, jI_1000, ↓jN_1, ↓jN_2, ↓jN_3, ↓jN_4, ↓jN_8, ↓jN_10, ↓jN_11, ↓jN_12, ↓jN_14, ↓jN_20, jI_addN, jI_le, jI_lt, jI_eq, jI_cl, jI_in, jI_add, jI_sub, jI_eqN, gI_eqI, gI_eqN, gI_leI, gI_ltI, jI_leN, jI_ltN, gI_sub, pif_tt, pif_ff, pg_tt, isB, or_true, true_or, pif_T, pif_F, pg_T, pb_S, upd_e, upd_n, jL_0, jL_1, jL_2, jL_5, jL_6, jL_15, jL_16, jL_63, jI_mul, jI_L, jL_I, jL_add, jL_sub, jL_mul, fX9_lose, i1, eb]
      exact Ok.s hab
    · subst hv
      rcases side_c (N := N) x1 hR hh with ⟨i, hi, rfl, s1, s2⟩ | ⟨s1, s2⟩
      · obtain ⟨A, ea, B, eb, hab⟩ := lose_24 (N := N) (wh := wh) (i := i) (x1 := jI i) (v_open := v_open) (v_sumDown := v_sumDown) (v_sumUp := v_sumUp) (c_chooser := c_chooser) (c_later := c_later) (c_opens := c_opens) (c_outs := c_outs) (c_payOf := c_payOf) (c_placeOf := c_placeOf) (c_sideAt := c_sideAt) (c_won := c_won) (v_rules_rounds := v_rules_rounds) (v_tree_depth := v_tree_depth) (c_tree_column := c_tree_column) (c_tree_leaf := c_tree_leaf) (c_tree_ofFirst := c_tree_ofFirst) (c_tree_open := c_tree_open) (v_tree_rules_kind := v_tree_rules_kind) (v_tree_rules_rounds := v_tree_rules_rounds) (v_tree_rules_sides := v_tree_rules_sides) (c_tree_rules_balls := c_tree_rules_balls) (c_tree_rules_choiceWorth := c_tree_rules_choiceWorth) (c_tree_rules_placeWorth := c_tree_rules_placeWorth) (c_tree_rules_strength := c_tree_rules_strength) (c_tree_rules_wheel := c_tree_rules_wheel) (v_tree_standing_sides := v_tree_standing_sides) (c_tree_standing_merit := c_tree_standing_merit) (c_tree_standing_order := c_tree_standing_order) (c_tree_standing_outAt := c_tree_standing_outAt) (c_tree_standing_seat := c_tree_standing_seat) (c_tree_standing_toCome := c_tree_standing_toCome) (c_tree_standing_turn := c_tree_standing_turn) (c_tree_standing_won := c_tree_standing_won) (v_tree_trial_size := v_tree_trial_size) (c_tree_trial_ending := c_tree_trial_ending) (c_tree_trial_first := c_tree_trial_first) (c_tree_trial_second := c_tree_trial_second) hwh (fun _ => ⟨rfl, hi⟩) hN hR hc hh hk hG hM
        simp (disch := omega) only [jI_0, jI_1, jI_2, jI_3, jI_4, jI_5, jI_6, jI_7, jI_8, jI_9, jI_10, jI_11, jI_12, jI_13, jI_14, jI_15, jI_16, jI_20, jI_24, jI_26, jI_30, jI_31, jI_32, jI_40, jI_48, jI_56, jI_57, jI_59, jI_60, jI_97, jI_99, jI_122, jI_160, jI_240, jI_255, jI_768, jI_1000, ↓jN_1, ↓jN_2, ↓jN_3, ↓jN_4, ↓jN_8, ↓jN_10, ↓jN_11, ↓jN_12, ↓jN_14, ↓jN_20, jI_addN, jI_le, jI_lt, jI_eq, jI_cl, jI_in, jI_add, jI_sub, jI_eqN, gI_eqI, gI_eqN, gI_leI, gI_ltI, jI_leN, jI_ltN, gI_sub, pif_tt, pif_ff, pg_tt, isB, or_true, true_or, pif_T, pif_F, pg_T, pb_S, upd_e, upd_n, fX8_lose, s1, ea]
        refine Ok.s ?_
        simp (disch := omega) only [jI_0, jI_1, jI_2, jI_3, jI_4, jI_5, jI_6, jI_7, jI_8, jI_9, jI_10, jI_11, jI_12, jI_13, jI_14, jI_15, jI_16, jI_20, jI_24, jI_26, jI_30, jI_31, jI_32, jI_40, jI_48, jI_56, jI_57, jI_59, jI_60, jI_97, jI_99, jI_122, jI_160, jI_240, jI_255, jI_768, jI_1000, ↓jN_1, ↓jN_2, ↓jN_3, ↓jN_4, ↓jN_8, ↓jN_10, ↓jN_11, ↓jN_12, ↓jN_14, ↓jN_20, jI_addN, jI_le, jI_lt, jI_eq, jI_cl, jI_in, jI_add, jI_sub, jI_eqN, gI_eqI, gI_eqN, gI_leI, gI_ltI, jI_leN, jI_ltN, gI_sub, pif_tt, pif_ff, pg_tt, isB, or_true, true_or, pif_T, pif_F, pg_T, pb_S, upd_e, upd_n, jL_0, jL_1, jL_2, jL_5, jL_6, jL_15, jL_16, jL_63, jI_mul, jI_L, jL_I, jL_add, jL_sub, jL_mul, fX9_lose, i1, s2, eb]
        exact Ok.s hab
      · simp (disch := omega) only [jI_0, jI_1, jI_2, jI_3, jI_4, jI_5, jI_6, jI_7, jI_8, jI_9, jI_10, jI_11, jI_12, jI_13, jI_14, jI_15, jI_16, jI_20, jI_24, jI_26, jI_30, jI_31, jI_32, jI_40, jI_48, jI_56, jI_57, jI_59, jI_60, jI_97, jI_99, jI_122, jI_160, jI_240, jI_255, jI_768, jI_1000, ↓jN_1, ↓jN_2, ↓jN_3, ↓jN_4, ↓jN_8, ↓jN_10, ↓jN_11, ↓jN_12, ↓jN_14, ↓jN_20, jI_addN, jI_le, jI_lt, jI_eq, jI_cl, jI_in, jI_add, jI_sub, jI_eqN, gI_eqI, gI_eqN, gI_leI, gI_ltI, jI_leN, jI_ltN, gI_sub, pif_tt, pif_ff, pg_tt, isB, or_true, true_or, pif_T, pif_F, pg_T, pb_S, upd_e, upd_n, fX8_lose, fX8_lose_22, s1]
        refine Ok.s ?_
        simp (disch := omega) only [jI_0, jI_1, jI_2, jI_3, jI_4, jI_5, jI_6, jI_7, jI_8, jI_9, jI_10, jI_11, jI_12, jI_13, jI_14, jI_15, jI_16, jI_20, jI_24, jI_26, jI_30, jI_31, jI_32, jI_40, jI_48, jI_56, jI_57, jI_59, jI_60, jI_97, jI_99, jI_122, jI_160, jI_240, jI_255, jI_768, jI_1000, ↓jN_1, ↓jN_2, ↓jN_3, ↓jN_4, ↓jN_8, ↓jN_10, ↓jN_11, ↓jN_12, ↓jN_14, ↓jN_20, jI_addN, jI_le, jI_lt, jI_eq, jI_cl, jI_in, jI_add, jI_sub, jI_eqN, gI_eqI, gI_eqN, gI_leI, gI_ltI, jI_leN, jI_ltN, gI_sub, pif_tt, pif_ff, pg_tt, isB, or_true, true_or, pif_T, pif_F, pg_T, pb_S, upd_e, upd_n, jL_0, jL_1, jL_2, jL_5, jL_6, jL_15, jL_16, jL_63, jI_mul, jI_L, jL_I, jL_add, jL_sub, jL_mul, fX9_lose, fX9_lose_25, i1, s2]
        exact Ok.s ⟨rfl, hM⟩
  · rcases hcc with hcc | ⟨k, rfl, hk2, hk3⟩
    · simp (disch := omega) only [jI_0, jI_1, jI_2, jI_3, jI_4, jI_5, jI_6, jI_7, jI_8, jI_9, jI_10, jI_11, jI_12, jI_13, jI_14, jI_15, jI_16, jI_20, jI_24, jI_26, jI_30, jI_31, jI_32, jI_40, jI_48, jI_56, jI_57, jI_59, jI_60, jI_97, jI_99, jI_122, jI_160, jI_240, jI_255, jI_768, jI_1000, ↓jN_1, ↓jN_2, ↓jN_3, ↓jN_4, ↓jN_8, ↓jN_10, ↓jN_11, ↓jN_12, ↓jN_14, ↓jN_20, jI_addN, jI_le, jI_lt, jI_eq, jI_cl, jI_in, jI_add, jI_sub, jI_eqN, gI_eqI, gI_eqN, gI_leI, gI_ltI, jI_leN, jI_ltN, gI_sub, pif_tt, pif_ff, pg_tt, isB, or_true, true_or, pif_T, pif_F, pg_T, pb_S, upd_e, upd_n, fX8_lose, fX8_lose_22, hcc]
      refine Ok.s ?_
      simp (disch := omega) only [jI_0, jI_1, jI_2, jI_3, jI_4, jI_5, jI_6, jI_7, jI_8, jI_9, jI_10, jI_11, jI_12, jI_13, jI_14, jI_15, jI_16, jI_20, jI_24, jI_26, jI_30, jI_31, jI_32, jI_40, jI_48, jI_56, jI_57, jI_59, jI_60, jI_97, jI_99, jI_122, jI_160, jI_240, jI_255, jI_768, jI_1000, ↓jN_1, ↓jN_2, ↓jN_3, ↓jN_4, ↓jN_8, ↓jN_10, ↓jN_11, ↓jN_12, ↓jN_14, ↓jN_20, jI_addN, jI_le, jI_lt, jI_eq, jI_cl, jI_in, jI_add, jI_sub, jI_eqN, gI_eqI, gI_eqN, gI_leI, gI_ltI, jI_leN, jI_ltN, gI_sub, pif_tt, pif_ff, pg_tt, isB, or_true, true_or, pif_T, pif_F, pg_T, pb_S, upd_e, upd_n, jL_0, jL_1, jL_2, jL_5, jL_6, jL_15, jL_16, jL_63, jI_mul, jI_L, jL_I, jL_add, jL_sub, jL_mul, fX9_lose, fX9_lose_25, i1]
      exact Ok.s ⟨rfl, hM⟩
    · rw [jI_L hk3] at i1
      simp (disch := omega) only [jI_0, jI_1, jI_2, jI_3, jI_4, jI_5, jI_6, jI_7, jI_8, jI_9, jI_10, jI_11, jI_12, jI_13, jI_14, jI_15, jI_16, jI_20, jI_24, jI_26, jI_30, jI_31, jI_32, jI_40, jI_48, jI_56, jI_57, jI_59, jI_60, jI_97, jI_99, jI_122, jI_160, jI_240, jI_255, jI_768, jI_1000, ↓jN_1, ↓jN_2, ↓jN_3, ↓jN_4, ↓jN_8, ↓jN_10, ↓jN_11, ↓jN_12, ↓jN_14, ↓jN_20, jI_addN, jI_le, jI_lt, jI_eq, jI_cl, jI_in, jI_add, jI_sub, jI_eqN, gI_eqI, gI_eqN, gI_leI, gI_ltI, jI_leN, jI_ltN, gI_sub, pif_tt, pif_ff, pg_tt, isB, or_true, true_or, pif_T, pif_F, pg_T, pb_S, upd_e, upd_n, fX8_lose, fX8_lose_22]
      refine Ok.s ?_
      simp (disch := omega) only [jI_0, jI_1, jI_2, jI_3, jI_4, jI_5, jI_6, jI_7, jI_8, jI_9, jI_10, jI_11, jI_12, jI_13, jI_14, jI_15, jI_16, jI_20, jI_24, jI_26, jI_30, jI_31, jI_32, jI_40, jI_48, jI_56, jI_57, jI_59, jI_60, jI_97, jI_99, jI_122, jI_160, jI_240, jI_255, jI_768, jI_1000, ↓jN_1, ↓jN_2, ↓jN_3, ↓jN_4, ↓jN_8, ↓jN_10, ↓jN_11, ↓jN_12, ↓jN_14, ↓jN_20, jI_addN, jI_le, jI_lt, jI_eq, jI_cl, jI_in, jI_add, jI_sub, jI_eqN, gI_eqI, gI_eqN, gI_leI, gI_ltI, jI_leN, jI_ltN, gI_sub, pif_tt, pif_ff, pg_tt, isB, or_true, true_or, pif_T, pif_F, pg_T, pb_S, upd_e, upd_n, jL_0, jL_1, jL_2, jL_5, jL_6, jL_15, jL_16, jL_63, jI_mul, jI_L, jL_I, jL_add, jL_sub, jL_mul, fX9_lose, fX9_lose_25, i1]
      exact Ok.s ⟨rfl, hM⟩
end
