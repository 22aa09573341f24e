/-! Who chooses when: the reference. -/
def ahdM (M P : Nat → Nat) (j i : Nat) : Bool := decide (M i < M j ∨ (M j = M i ∧ P i < P j))
section
variable {c_chooser : Nat → Int32} {c_firsts : Nat → Int32} {c_goes : Nat → Int32} {c_holds : Nat → Int32} {c_later : Nat → Int32} {c_many : Nat → Int32} {c_outs : Nat → Int32} {c_placeOf : Nat → Int32} {c_seconds : Nat → Int32} {c_sideAt : Nat → Int32} {c_won : Nat → Int32}
variable {N n z pg : Nat} {f s e : Nat → Nat}
theorem isAheadM {M P : Nat → Nat} {j i : Nat} (hn : n ≤ 6) (hj : j < n) (hi : i < n) (ho : ∀ k, k < n → (M k = 0 → c_outs k = gI 4) ∧ (M k ≠ 0 → ¬ c_outs k = gI 4)) (hl : ∀ k, k < n → c_later k = jI (M k - 1) ∧ M k ≤ 100) (hp : ∀ k, k < n → c_placeOf k = jI (P k) ∧ P k < 10) : (fX9_isAhead N c_later c_outs c_placeOf (jI j) (jI i)) = some (jI (if ahdM M P j i then 1 else 0)) := by
  obtain ⟨l1, l2⟩ := hl i hi
  obtain ⟨l3, l4⟩ := hl j hj
  obtain ⟨p1, p2⟩ := hp i hi
  obtain ⟨p3, p4⟩ := hp j hj
  by_cases h1 : M j = 0
  · have a1 := (ho j hj).1 h1
    by_cases h2 : M i = 0
    · have a2 := (ho i hi).1 h2
      by_cases h3 : P i < P j
      · rw [if_pos (by simp only [ahdM, decide_eq_true_eq]; omega)]
        simp (disch := omega) only [jI_0, jI_1, jI_2, jI_3, jI_4, jI_5, jI_6, jI_7, jI_8, jI_9, jI_10, jI_11, jI_12, jI_13, jI_14, jI_15, jI_16, jI_20, jI_24, jI_26, jI_30, jI_31, jI_32, jI_40, jI_48, jI_56, jI_57, jI_59, jI_60, jI_97, jI_99, jI_122, jI_160, jI_240, jI_255, jI_768, jI_1000, ↓jN_1, ↓jN_2, ↓jN_3, ↓jN_4, ↓jN_8, ↓jN_10, ↓jN_11, ↓jN_12, ↓jN_14, ↓jN_20, jI_addN, jI_le, jI_lt, jI_eq, jI_cl, jI_in, jI_add, jI_sub, jI_eqN, gI_eqI, gI_eqN, gI_leI, gI_ltI, jI_leN, jI_ltN, gI_sub, pif_tt, pif_ff, pg_tt, isB, or_true, true_or, pif_T, pif_F, pg_T, pb_S, upd_e, upd_n, fX9_isAhead, fX9_isAhead_16, fX9_isAhead_33, fX9_isAhead_85, fX9_isAhead_105, isB, a1, a2, p1, p3]
      · rw [if_neg (by simp only [ahdM, decide_eq_true_eq]; omega)]
        simp (disch := omega) only [jI_0, jI_1, jI_2, jI_3, jI_4, jI_5, jI_6, jI_7, jI_8, jI_9, jI_10, jI_11, jI_12, jI_13, jI_14, jI_15, jI_16, jI_20, jI_24, jI_26, jI_30, jI_31, jI_32, jI_40, jI_48, jI_56, jI_57, jI_59, jI_60, jI_97, jI_99, jI_122, jI_160, jI_240, jI_255, jI_768, jI_1000, ↓jN_1, ↓jN_2, ↓jN_3, ↓jN_4, ↓jN_8, ↓jN_10, ↓jN_11, ↓jN_12, ↓jN_14, ↓jN_20, jI_addN, jI_le, jI_lt, jI_eq, jI_cl, jI_in, jI_add, jI_sub, jI_eqN, gI_eqI, gI_eqN, gI_leI, gI_ltI, jI_leN, jI_ltN, gI_sub, pif_tt, pif_ff, pg_tt, isB, or_true, true_or, pif_T, pif_F, pg_T, pb_S, upd_e, upd_n, fX9_isAhead, fX9_isAhead_16, fX9_isAhead_33, fX9_isAhead_85, fX9_isAhead_105, isB, a1, a2, p1, p3]
    · have a2 := (ho i hi).2 h2
      rw [if_neg (by simp only [ahdM, decide_eq_true_eq]; omega)]
      simp (disch := omega) only [jI_0, jI_1, jI_2, jI_3, jI_4, jI_5, jI_6, jI_7, jI_8, jI_9, jI_10, jI_11, jI_12, jI_13, jI_14, jI_15, jI_16, jI_20, jI_24, jI_26, jI_30, jI_31, jI_32, jI_40, jI_48, jI_56, jI_57, jI_59, jI_60, jI_97, jI_99, jI_122, jI_160, jI_240, jI_255, jI_768, jI_1000, ↓jN_1, ↓jN_2, ↓jN_3, ↓jN_4, ↓jN_8, ↓jN_10, ↓jN_11, ↓jN_12, ↓jN_14, ↓jN_20, jI_addN, jI_le, jI_lt, jI_eq, jI_cl, jI_in, jI_add, jI_sub, jI_eqN, gI_eqI, gI_eqN, gI_leI, gI_ltI, jI_leN, jI_ltN, gI_sub, pif_tt, pif_ff, pg_tt, isB, or_true, true_or, pif_T, pif_F, pg_T, pb_S, upd_e, upd_n, fX9_isAhead, fX9_isAhead_16, fX9_isAhead_33, fX9_isAhead_85, fX9_isAhead_105, isB, a1, a2, p1, p3]
  · have a1 := (ho j hj).2 h1
    by_cases h2 : M i = 0
    · have a2 := (ho i hi).1 h2
      rw [if_pos (by simp only [ahdM, decide_eq_true_eq]; omega)]
      simp (disch := omega) only [jI_0, jI_1, jI_2, jI_3, jI_4, jI_5, jI_6, jI_7, jI_8, jI_9, jI_10, jI_11, jI_12, jI_13, jI_14, jI_15, jI_16, jI_20, jI_24, jI_26, jI_30, jI_31, jI_32, jI_40, jI_48, jI_56, jI_57, jI_59, jI_60, jI_97, jI_99, jI_122, jI_160, jI_240, jI_255, jI_768, jI_1000, ↓jN_1, ↓jN_2, ↓jN_3, ↓jN_4, ↓jN_8, ↓jN_10, ↓jN_11, ↓jN_12, ↓jN_14, ↓jN_20, jI_addN, jI_le, jI_lt, jI_eq, jI_cl, jI_in, jI_add, jI_sub, jI_eqN, gI_eqI, gI_eqN, gI_leI, gI_ltI, jI_leN, jI_ltN, gI_sub, pif_tt, pif_ff, pg_tt, isB, or_true, true_or, pif_T, pif_F, pg_T, pb_S, upd_e, upd_n, fX9_isAhead, fX9_isAhead_16, fX9_isAhead_33, fX9_isAhead_85, fX9_isAhead_105, isB, a1, a2, p1, p3]
    · have a2 := (ho i hi).2 h2
      by_cases h4 : M j = M i
      · by_cases h3 : P i < P j
        · rw [if_pos (by simp only [ahdM, decide_eq_true_eq]; omega)]
          simp (disch := omega) only [jI_0, jI_1, jI_2, jI_3, jI_4, jI_5, jI_6, jI_7, jI_8, jI_9, jI_10, jI_11, jI_12, jI_13, jI_14, jI_15, jI_16, jI_20, jI_24, jI_26, jI_30, jI_31, jI_32, jI_40, jI_48, jI_56, jI_57, jI_59, jI_60, jI_97, jI_99, jI_122, jI_160, jI_240, jI_255, jI_768, jI_1000, ↓jN_1, ↓jN_2, ↓jN_3, ↓jN_4, ↓jN_8, ↓jN_10, ↓jN_11, ↓jN_12, ↓jN_14, ↓jN_20, jI_addN, jI_le, jI_lt, jI_eq, jI_cl, jI_in, jI_add, jI_sub, jI_eqN, gI_eqI, gI_eqN, gI_leI, gI_ltI, jI_leN, jI_ltN, gI_sub, pif_tt, pif_ff, pg_tt, isB, or_true, true_or, pif_T, pif_F, pg_T, pb_S, upd_e, upd_n, fX9_isAhead, fX9_isAhead_16, fX9_isAhead_33, fX9_isAhead_85, fX9_isAhead_105, isB, a1, a2, l1, l3, p1, p3]
        · rw [if_neg (by simp only [ahdM, decide_eq_true_eq]; omega)]
          simp (disch := omega) only [jI_0, jI_1, jI_2, jI_3, jI_4, jI_5, jI_6, jI_7, jI_8, jI_9, jI_10, jI_11, jI_12, jI_13, jI_14, jI_15, jI_16, jI_20, jI_24, jI_26, jI_30, jI_31, jI_32, jI_40, jI_48, jI_56, jI_57, jI_59, jI_60, jI_97, jI_99, jI_122, jI_160, jI_240, jI_255, jI_768, jI_1000, ↓jN_1, ↓jN_2, ↓jN_3, ↓jN_4, ↓jN_8, ↓jN_10, ↓jN_11, ↓jN_12, ↓jN_14, ↓jN_20, jI_addN, jI_le, jI_lt, jI_eq, jI_cl, jI_in, jI_add, jI_sub, jI_eqN, gI_eqI, gI_eqN, gI_leI, gI_ltI, jI_leN, jI_ltN, gI_sub, pif_tt, pif_ff, pg_tt, isB, or_true, true_or, pif_T, pif_F, pg_T, pb_S, upd_e, upd_n, fX9_isAhead, fX9_isAhead_16, fX9_isAhead_33, fX9_isAhead_85, fX9_isAhead_105, isB, a1, a2, l1, l3, p1, p3]
      · by_cases h3 : M i < M j
        · rw [if_pos (by simp only [ahdM, decide_eq_true_eq]; omega)]
          simp (disch := omega) only [jI_0, jI_1, jI_2, jI_3, jI_4, jI_5, jI_6, jI_7, jI_8, jI_9, jI_10, jI_11, jI_12, jI_13, jI_14, jI_15, jI_16, jI_20, jI_24, jI_26, jI_30, jI_31, jI_32, jI_40, jI_48, jI_56, jI_57, jI_59, jI_60, jI_97, jI_99, jI_122, jI_160, jI_240, jI_255, jI_768, jI_1000, ↓jN_1, ↓jN_2, ↓jN_3, ↓jN_4, ↓jN_8, ↓jN_10, ↓jN_11, ↓jN_12, ↓jN_14, ↓jN_20, jI_addN, jI_le, jI_lt, jI_eq, jI_cl, jI_in, jI_add, jI_sub, jI_eqN, gI_eqI, gI_eqN, gI_leI, gI_ltI, jI_leN, jI_ltN, gI_sub, pif_tt, pif_ff, pg_tt, isB, or_true, true_or, pif_T, pif_F, pg_T, pb_S, upd_e, upd_n, fX9_isAhead, fX9_isAhead_16, fX9_isAhead_33, fX9_isAhead_85, fX9_isAhead_105, isB, a1, a2, l1, l3, p1, p3]
        · rw [if_neg (by simp only [ahdM, decide_eq_true_eq]; omega)]
          simp (disch := omega) only [jI_0, jI_1, jI_2, jI_3, jI_4, jI_5, jI_6, jI_7, jI_8, jI_9, jI_10, jI_11, jI_12, jI_13, jI_14, jI_15, jI_16, jI_20, jI_24, jI_26, jI_30, jI_31, jI_32, jI_40, jI_48, jI_56, jI_57, jI_59, jI_60, jI_97, jI_99, jI_122, jI_160, jI_240, jI_255, jI_768, jI_1000, ↓jN_1, ↓jN_2, ↓jN_3, ↓jN_4, ↓jN_8, ↓jN_10, ↓jN_11, ↓jN_12, ↓jN_14, ↓jN_20, jI_addN, jI_le, jI_lt, jI_eq, jI_cl, jI_in, jI_add, jI_sub, jI_eqN, gI_eqI, gI_eqN, gI_leI, gI_ltI, jI_leN, jI_ltN, gI_sub, pif_tt, pif_ff, pg_tt, isB, or_true, true_or, pif_T, pif_F, pg_T, pb_S, upd_e, upd_n, fX9_isAhead, fX9_isAhead_16, fX9_isAhead_33, fX9_isAhead_85, fX9_isAhead_105, isB, a1, a2, l1, l3, p1, p3]
theorem layC_216 {M P : Nat → Nat} {i : Nat} {Q : (Nat → Int32) × (Nat → Int32) × (Nat → Int32) → Prop} {k204 : Int32 → Int32 → (Nat → Int32) → (Nat → Int32) → (Nat → Int32) → Option ((Nat → Int32) × (Nat → Int32) × (Nat → Int32))} {x1 x2 : Int32} (hN : 100 ≤ N) (hn : n ≤ 6) (hi : i < n) (hc6 : cnt n (fun j => ahdM M P j i) < 6) (ho : ∀ k, k < n → (M k = 0 → c_outs k = gI 4) ∧ (M k ≠ 0 → ¬ c_outs k = gI 4)) (hl : ∀ k, k < n → c_later k = jI (M k - 1) ∧ M k ≤ 100) (hp : ∀ k, k < n → c_placeOf k = jI (P k) ∧ P k < 10) (hk : Ok (k204 (jI n) (jI (i + 1)) (upd c_chooser (cnt n (fun j => ahdM M P j i)) (jI i)) c_later c_outs) Q) : Ok ((fX9_layChoices_216 N c_firsts c_goes c_holds c_many c_placeOf c_seconds c_sideAt c_won x1 x2 k204 N (jI n) (jI i) 0 0 c_chooser c_later c_outs)) Q := by
  refine up_ok (fun fu j c => (fX9_layChoices_216 N c_firsts c_goes c_holds c_many c_placeOf c_seconds c_sideAt c_won x1 x2 k204 fu (jI n) (jI i) (jI c) (jI j) c_chooser c_later c_outs)) Q n (fun j c => c = cnt j (fun q => ahdM M P q i)) ?_ ?_ N 0 0 (by omega) (by omega) rfl
  · intro fu j c hj hc ih
    have hcl := cnt_le j (fun q => ahdM M P q i)
    by_cases h : j = i
    · have h0 : ahdM M P j i = false := by subst h; simp [ahdM]
      simp (disch := omega) only [jI_0, jI_1, jI_2, jI_3, jI_4, jI_5, jI_6, jI_7, jI_8, jI_9, jI_10, jI_11, jI_12, jI_13, jI_14, jI_15, jI_16, jI_20, jI_24, jI_26, jI_30, jI_31, jI_32, jI_40, jI_48, jI_56, jI_57, jI_59, jI_60, jI_97, jI_99, jI_122, jI_160, jI_240, jI_255, jI_768, jI_1000, ↓jN_1, ↓jN_2, ↓jN_3, ↓jN_4, ↓jN_8, ↓jN_10, ↓jN_11, ↓jN_12, ↓jN_14, ↓jN_20, jI_addN, jI_le, jI_lt, jI_eq, jI_cl, jI_in, jI_add, jI_sub, jI_eqN, gI_eqI, gI_eqN, gI_leI, gI_ltI, jI_leN, jI_ltN, gI_sub, pif_tt, pif_ff, pg_tt, isB, or_true, true_or, pif_T, pif_F, pg_T, pb_S, upd_e, upd_n, fX9_layChoices_216, fX9_layChoices_246, fX9_layChoices_247]
      exact ih (c + 0) (by simp only [cnt, hc, h0]; rfl)
    · have ha := isAheadM (N := N) (M := M) (P := P) (j := j) (i := i) hn hj hi ho hl hp
      cases h0 : ahdM M P j i
      · rw [h0] at ha
        simp only [Bool.false_eq_true, if_false] at ha
        simp (disch := omega) only [jI_0, jI_1, jI_2, jI_3, jI_4, jI_5, jI_6, jI_7, jI_8, jI_9, jI_10, jI_11, jI_12, jI_13, jI_14, jI_15, jI_16, jI_20, jI_24, jI_26, jI_30, jI_31, jI_32, jI_40, jI_48, jI_56, jI_57, jI_59, jI_60, jI_97, jI_99, jI_122, jI_160, jI_240, jI_255, jI_768, jI_1000, ↓jN_1, ↓jN_2, ↓jN_3, ↓jN_4, ↓jN_8, ↓jN_10, ↓jN_11, ↓jN_12, ↓jN_14, ↓jN_20, jI_addN, jI_le, jI_lt, jI_eq, jI_cl, jI_in, jI_add, jI_sub, jI_eqN, gI_eqI, gI_eqN, gI_leI, gI_ltI, jI_leN, jI_ltN, gI_sub, pif_tt, pif_ff, pg_tt, isB, or_true, true_or, pif_T, pif_F, pg_T, pb_S, upd_e, upd_n, fX9_layChoices_216, fX9_layChoices_246, fX9_layChoices_247, ha]
        exact ih (c + 0) (by simp only [cnt, hc, h0]; rfl)
      · rw [h0] at ha
        simp only [if_true] at ha
        simp (disch := omega) only [jI_0, jI_1, jI_2, jI_3, jI_4, jI_5, jI_6, jI_7, jI_8, jI_9, jI_10, jI_11, jI_12, jI_13, jI_14, jI_15, jI_16, jI_20, jI_24, jI_26, jI_30, jI_31, jI_32, jI_40, jI_48, jI_56, jI_57, jI_59, jI_60, jI_97, jI_99, jI_122, jI_160, jI_240, jI_255, jI_768, jI_1000, ↓jN_1, ↓jN_2, ↓jN_3, ↓jN_4, ↓jN_8, ↓jN_10, ↓jN_11, ↓jN_12, ↓jN_14, ↓jN_20, jI_addN, jI_le, jI_lt, jI_eq, jI_cl, jI_in, jI_add, jI_sub, jI_eqN, gI_eqI, gI_eqN, gI_leI, gI_ltI, jI_leN, jI_ltN, gI_sub, pif_tt, pif_ff, pg_tt, isB, or_true, true_or, pif_T, pif_F, pg_T, pb_S, upd_e, upd_n, fX9_layChoices_216, fX9_layChoices_246, fX9_layChoices_247, ha]
        exact ih (c + 1) (by simp only [cnt, hc, h0]; rfl)
  · intro fu c hc
    subst hc
    simp (disch := omega) only [jI_0, jI_1, jI_2, jI_3, jI_4, jI_5, jI_6, jI_7, jI_8, jI_9, jI_10, jI_11, jI_12, jI_13, jI_14, jI_15, jI_16, jI_20, jI_24, jI_26, jI_30, jI_31, jI_32, jI_40, jI_48, jI_56, jI_57, jI_59, jI_60, jI_97, jI_99, jI_122, jI_160, jI_240, jI_255, jI_768, jI_1000, ↓jN_1, ↓jN_2, ↓jN_3, ↓jN_4, ↓jN_8, ↓jN_10, ↓jN_11, ↓jN_12, ↓jN_14, ↓jN_20, jI_addN, jI_le, jI_lt, jI_eq, jI_cl, jI_in, jI_add, jI_sub, jI_eqN, gI_eqI, gI_eqN, gI_leI, gI_ltI, jI_leN, jI_ltN, gI_sub, pif_tt, pif_ff, pg_tt, isB, or_true, true_or, pif_T, pif_F, pg_T, pb_S, upd_e, upd_n, fX9_layChoices_216]
    exact hk
theorem merT_out {z i : Nat} : merT n f s e z z i = if outN n f s e z i < z then 1 + (wonN f s e z i - wonN f s e (outN n f s e z i + 1) i) else 0 := rfl
theorem layC_130 {Q : (Nat → Int32) × (Nat → Int32) × (Nat → Int32) → Prop} {x2 : Int32} (hN : 100 ≤ N) (hpg : pg < 2) (hh : c_holds 0 = jI n) (hk : Gk n z f s e) (hG : Gm pg z f s e c_many c_firsts c_seconds c_goes) (hw : ∀ i, i < n → c_won i = jI (wonN f s e z i)) (hQ : ∀ cl co, (∀ k, k < n → (merT n f s e z z k = 0 → co k = gI 4) ∧ (merT n f s e z z k ≠ 0 → ¬ co k = gI 4)) → (∀ k, k < n → cl k = jI (merT n f s e z z k - 1) ∧ merT n f s e z z k ≤ 100) → Ok ((fX9_layChoices_204 N c_firsts c_goes c_holds c_many c_placeOf c_seconds c_sideAt c_won (jI pg) x2 N (jI n) 0 c_chooser cl co)) Q) : Ok ((fX9_layChoices_130 N c_firsts c_goes c_holds c_many c_placeOf c_seconds c_sideAt c_won (jI pg) x2 N (jI n) 0 c_chooser c_later c_outs)) Q := by
  have hn := hk.1
  have hz := hk.2.1
  refine up_ok (fun fu i (q : (Nat → Int32) × (Nat → Int32)) => (fX9_layChoices_130 N c_firsts c_goes c_holds c_many c_placeOf c_seconds c_sideAt c_won (jI pg) x2 fu (jI n) (jI i) c_chooser q.1 q.2)) Q n (fun i q => (∀ k, k < i → (merT n f s e z z k = 0 → q.2 k = gI 4) ∧ (merT n f s e z z k ≠ 0 → ¬ q.2 k = gI 4)) ∧ (∀ k, k < i → q.1 k = jI (merT n f s e z z k - 1))) ?_ ?_ N 0 (c_later, c_outs) (by omega) (by omega) ⟨fun j h => by omega, fun j h => by omega⟩
  · intro fu i ⟨cl, co⟩ hi ⟨h1, h2⟩ ih
    simp only at h1 h2
    have ho := outOfM (N := N) hN hpg hh hk hG hi
    have hm := merT_out (n := n) (f := f) (s := s) (e := e) (z := z) (i := i)
    have hwl := wonN_le f s e z i
    by_cases hz2 : outN n f s e z i < z
    · rw [if_pos hz2] at ho hm
      have hu := wonUpM (N := N) hN hpg hk hG hi hz2
      have hmo := wonN_mono f s e i (t := outN n f s e z i + 1) (u := z) (by omega)
      simp (disch := omega) only [jI_0, jI_1, jI_2, jI_3, jI_4, jI_5, jI_6, jI_7, jI_8, jI_9, jI_10, jI_11, jI_12, jI_13, jI_14, jI_15, jI_16, jI_20, jI_24, jI_26, jI_30, jI_31, jI_32, jI_40, jI_48, jI_56, jI_57, jI_59, jI_60, jI_97, jI_99, jI_122, jI_160, jI_240, jI_255, jI_768, jI_1000, ↓jN_1, ↓jN_2, ↓jN_3, ↓jN_4, ↓jN_8, ↓jN_10, ↓jN_11, ↓jN_12, ↓jN_14, ↓jN_20, jI_addN, jI_le, jI_lt, jI_eq, jI_cl, jI_in, jI_add, jI_sub, jI_eqN, gI_eqI, gI_eqN, gI_leI, gI_ltI, jI_leN, jI_ltN, gI_sub, pif_tt, pif_ff, pg_tt, isB, or_true, true_or, pif_T, pif_F, pg_T, pb_S, upd_e, upd_n, fX9_layChoices_130, fX9_layChoices_194, ho, hu, hw]
      refine ih (_, _) ⟨fun k hk2 => ?_, fun k hk2 => ?_⟩
      · show (_ → upd co i (jI (outN n f s e z i)) k = gI 4) ∧ (_ → ¬ upd co i (jI (outN n f s e z i)) k = gI 4)
        by_cases h : k = i
        · rw [upd_e h, h, hm, jI_eqN (by omega) (by omega)]
          exact ⟨fun q => by omega, fun _ q => by omega⟩
        · rw [upd_n h]; exact h1 k (by omega)
      · show upd cl i _ k = _
        by_cases h : k = i
        · rw [upd_e h, h, hm]; congr 1; omega
        · rw [upd_n h]; exact h2 k (by omega)
    · rw [if_neg hz2] at ho hm
      simp (disch := omega) only [jI_0, jI_1, jI_2, jI_3, jI_4, jI_5, jI_6, jI_7, jI_8, jI_9, jI_10, jI_11, jI_12, jI_13, jI_14, jI_15, jI_16, jI_20, jI_24, jI_26, jI_30, jI_31, jI_32, jI_40, jI_48, jI_56, jI_57, jI_59, jI_60, jI_97, jI_99, jI_122, jI_160, jI_240, jI_255, jI_768, jI_1000, ↓jN_1, ↓jN_2, ↓jN_3, ↓jN_4, ↓jN_8, ↓jN_10, ↓jN_11, ↓jN_12, ↓jN_14, ↓jN_20, jI_addN, jI_le, jI_lt, jI_eq, jI_cl, jI_in, jI_add, jI_sub, jI_eqN, gI_eqI, gI_eqN, gI_leI, gI_ltI, jI_leN, jI_ltN, gI_sub, pif_tt, pif_ff, pg_tt, isB, or_true, true_or, pif_T, pif_F, pg_T, pb_S, upd_e, upd_n, fX9_layChoices_130, fX9_layChoices_194, ho]
      refine ih (_, _) ⟨fun k hk2 => ?_, fun k hk2 => ?_⟩
      · show (_ → upd co i (gI 4) k = gI 4) ∧ (_ → ¬ upd co i (gI 4) k = gI 4)
        by_cases h : k = i
        · rw [upd_e h, h, hm]
          exact ⟨fun q => rfl, fun c => absurd rfl c⟩
        · rw [upd_n h]; exact h1 k (by omega)
      · show upd cl i _ k = _
        by_cases h : k = i
        · rw [upd_e h, h, hm]
        · rw [upd_n h]; exact h2 k (by omega)
  · intro fu ⟨cl, co⟩ ⟨h1, h2⟩
    simp only at h1 h2
    simp (disch := omega) only [jI_0, jI_1, jI_2, jI_3, jI_4, jI_5, jI_6, jI_7, jI_8, jI_9, jI_10, jI_11, jI_12, jI_13, jI_14, jI_15, jI_16, jI_20, jI_24, jI_26, jI_30, jI_31, jI_32, jI_40, jI_48, jI_56, jI_57, jI_59, jI_60, jI_97, jI_99, jI_122, jI_160, jI_240, jI_255, jI_768, jI_1000, ↓jN_1, ↓jN_2, ↓jN_3, ↓jN_4, ↓jN_8, ↓jN_10, ↓jN_11, ↓jN_12, ↓jN_14, ↓jN_20, jI_addN, jI_le, jI_lt, jI_eq, jI_cl, jI_in, jI_add, jI_sub, jI_eqN, gI_eqI, gI_eqN, gI_leI, gI_ltI, jI_leN, jI_ltN, gI_sub, pif_tt, pif_ff, pg_tt, isB, or_true, true_or, pif_T, pif_F, pg_T, pb_S, upd_e, upd_n, fX9_layChoices_130]
    exact hQ cl co h1 (fun k hk2 => ⟨h2 k hk2, by have := merT_le n f s e z z k; omega⟩)
/-- the day's order by places is that by numbers -/
theorem day_rank {W M : Nat → Nat} {i : Nat} (hi : i < n) : cnt n (fun j => ahdM M (plc n W) j i) = plc n (fun k => M (frL n W k)) (n - 1 - plc n W i) := by
  show _ = cnt n (fun j => ahd (fun k => M (frL n W k)) j (n - 1 - plc n W i))
  rw [← cnt_perm (n := n) (p := fun j => ahd (fun k => M (frL n W k)) j (n - 1 - plc n W i)) (a := fun j => n - 1 - plc n W j) (b := fun j => frL n W j) (fun j hj => by omega) (fun j hj => frL_lt hj) (fun j hj => by rw [frL_plc hj]; omega) (fun j hj => frL_of hj)]
  refine cnt_congr (fun j hj => ?_)
  have a := plc_lt (K := W) hj
  have b := plc_lt (K := W) hi
  rw [Bool.eq_iff_iff, ahd_iff]
  show ahdM M (plc n W) j i = true ↔ M (frL n W (n - 1 - plc n W i)) < M (frL n W (n - 1 - plc n W j)) ∨ M (frL n W (n - 1 - plc n W j)) = M (frL n W (n - 1 - plc n W i)) ∧ n - 1 - plc n W j < n - 1 - plc n W i
  rw [frL_of hj, frL_of hi]
  unfold ahdM
  rw [decide_eq_true_eq]
  omega
theorem layC_204 {W M : Nat → Nat} {x1 x2 : Int32} (hN : 100 ≤ N) (hn : n ≤ 6) (ho : ∀ k, k < n → (M k = 0 → c_outs k = gI 4) ∧ (M k ≠ 0 → ¬ c_outs k = gI 4)) (hl : ∀ k, k < n → c_later k = jI (M k - 1) ∧ M k ≤ 100) (hp : ∀ k, k < n → c_placeOf k = jI (plc n W k)) : Ok ((fX9_layChoices_204 N c_firsts c_goes c_holds c_many c_placeOf c_seconds c_sideAt c_won x1 x2 N (jI n) 0 c_chooser c_later c_outs)) (fun q => ∀ c, c < n → q.1 c = jI (chD n W M c)) := by
  refine up_ok (fun fu i cc => (fX9_layChoices_204 N c_firsts c_goes c_holds c_many c_placeOf c_seconds c_sideAt c_won x1 x2 fu (jI n) (jI i) cc c_later c_outs)) _ n (fun i cc => ∀ k, k < i → cc (plc n (fun q => M (frL n W q)) (n - 1 - plc n W k)) = jI k) ?_ ?_ N 0 c_chooser (by omega) (by omega) (fun j h => by omega)
  · intro fu i cc hi h1 ih
    have hr := day_rank (W := W) (M := M) hi
    have hlt := plc_lt (K := fun q => M (frL n W q)) (n := n) (i := n - 1 - plc n W i) (by omega)
    simp (disch := omega) only [jI_0, jI_1, jI_2, jI_3, jI_4, jI_5, jI_6, jI_7, jI_8, jI_9, jI_10, jI_11, jI_12, jI_13, jI_14, jI_15, jI_16, jI_20, jI_24, jI_26, jI_30, jI_31, jI_32, jI_40, jI_48, jI_56, jI_57, jI_59, jI_60, jI_97, jI_99, jI_122, jI_160, jI_240, jI_255, jI_768, jI_1000, ↓jN_1, ↓jN_2, ↓jN_3, ↓jN_4, ↓jN_8, ↓jN_10, ↓jN_11, ↓jN_12, ↓jN_14, ↓jN_20, jI_addN, jI_le, jI_lt, jI_eq, jI_cl, jI_in, jI_add, jI_sub, jI_eqN, gI_eqI, gI_eqN, gI_leI, gI_ltI, jI_leN, jI_ltN, gI_sub, pif_tt, pif_ff, pg_tt, isB, or_true, true_or, pif_T, pif_F, pg_T, pb_S, upd_e, upd_n, fX9_layChoices_204]
    refine layC_216 (M := M) (P := plc n W) hN hn hi (by rw [hr]; omega) ho hl (fun k hk2 => ⟨hp k hk2, by have := plc_lt (K := W) hk2; omega⟩) (ih _ (fun k hk2 => ?_))
    rw [hr]
    by_cases h : k = i
    · rw [h, upd_e rfl]
    · rw [upd_n]
      · exact h1 k (by omega)
      · intro q
        have q2 := plc_inj (K := fun q => M (frL n W q)) (by omega) (by omega) q
        have b1 := plc_lt (K := W) hi
        have b2 := plc_lt (K := W) (i := k) (n := n) (by omega)
        exact h (plc_inj (K := W) (n := n) (by omega) hi (by omega))
  · intro fu cc h1
    simp (disch := omega) only [jI_0, jI_1, jI_2, jI_3, jI_4, jI_5, jI_6, jI_7, jI_8, jI_9, jI_10, jI_11, jI_12, jI_13, jI_14, jI_15, jI_16, jI_20, jI_24, jI_26, jI_30, jI_31, jI_32, jI_40, jI_48, jI_56, jI_57, jI_59, jI_60, jI_97, jI_99, jI_122, jI_160, jI_240, jI_255, jI_768, jI_1000, ↓jN_1, ↓jN_2, ↓jN_3, ↓jN_4, ↓jN_8, ↓jN_10, ↓jN_11, ↓jN_12, ↓jN_14, ↓jN_20, jI_addN, jI_le, jI_lt, jI_eq, jI_cl, jI_in, jI_add, jI_sub, jI_eqN, gI_eqI, gI_eqN, gI_leI, gI_ltI, jI_leN, jI_ltN, gI_sub, pif_tt, pif_ff, pg_tt, isB, or_true, true_or, pif_T, pif_F, pg_T, pb_S, upd_e, upd_n, fX9_layChoices_204, fX9_layChoices_271]
    refine Ok.s (fun c hc => ?_)
    show cc c = _
    obtain ⟨a, b⟩ := ordN_ok (fun q => M (frL n W q)) n c hc
    have h2 := h1 (chD n W M c) (frL_lt a)
    unfold chD at h2 ⊢
    rw [frL_plc a, show n - 1 - (n - 1 - ordN (fun q => M (frL n W q)) n c) = ordN (fun q => M (frL n W q)) n c by omega, b] at h2
    exact h2
theorem layC_117 {kd d : Nat} {W wh : Nat → Nat} {x2 : Int32} (hN : 100 ≤ N) (hpg : pg < 2) (hh : c_holds 0 = jI n) (hh1 : c_holds 1 = jI kd) (hkd : kd ≤ 4) (hk : Gk n z f s e) (hG : Gm pg z f s e c_many c_firsts c_seconds c_goes) (hw : ∀ i, i < n → c_won i = jI (wonN f s e z i)) (hp : ∀ k, k < n → c_placeOf k = jI (plc n W k)) (hc : kd ≠ 2 → ∀ c, c < n → c_chooser c = jI (chN kd n W (merT n f s e z z) wh d c)) : Ok ((fX9_layChoices_117 N c_firsts c_goes c_holds c_many c_placeOf c_seconds c_sideAt c_won (jI pg) x2 (jI n) c_chooser c_later c_outs)) (fun q => ∀ c, c < n → q.1 c = jI (chN kd n W (merT n f s e z z) wh d c)) := by
  by_cases h2 : kd = 2
  · subst h2
    simp (disch := omega) only [jI_0, jI_1, jI_2, jI_3, jI_4, jI_5, jI_6, jI_7, jI_8, jI_9, jI_10, jI_11, jI_12, jI_13, jI_14, jI_15, jI_16, jI_20, jI_24, jI_26, jI_30, jI_31, jI_32, jI_40, jI_48, jI_56, jI_57, jI_59, jI_60, jI_97, jI_99, jI_122, jI_160, jI_240, jI_255, jI_768, jI_1000, ↓jN_1, ↓jN_2, ↓jN_3, ↓jN_4, ↓jN_8, ↓jN_10, ↓jN_11, ↓jN_12, ↓jN_14, ↓jN_20, jI_addN, jI_le, jI_lt, jI_eq, jI_cl, jI_in, jI_add, jI_sub, jI_eqN, gI_eqI, gI_eqN, gI_leI, gI_ltI, jI_leN, jI_ltN, gI_sub, pif_tt, pif_ff, pg_tt, isB, or_true, true_or, pif_T, pif_F, pg_T, pb_S, upd_e, upd_n, fX9_layChoices_117, hh1]
    refine layC_130 hN hpg hh hk hG hw (fun cl co h1 h3 => ?_)
    exact layC_204 hN hk.1 h1 h3 hp
  · simp (disch := omega) only [jI_0, jI_1, jI_2, jI_3, jI_4, jI_5, jI_6, jI_7, jI_8, jI_9, jI_10, jI_11, jI_12, jI_13, jI_14, jI_15, jI_16, jI_20, jI_24, jI_26, jI_30, jI_31, jI_32, jI_40, jI_48, jI_56, jI_57, jI_59, jI_60, jI_97, jI_99, jI_122, jI_160, jI_240, jI_255, jI_768, jI_1000, ↓jN_1, ↓jN_2, ↓jN_3, ↓jN_4, ↓jN_8, ↓jN_10, ↓jN_11, ↓jN_12, ↓jN_14, ↓jN_20, jI_addN, jI_le, jI_lt, jI_eq, jI_cl, jI_in, jI_add, jI_sub, jI_eqN, gI_eqI, gI_eqN, gI_leI, gI_ltI, jI_leN, jI_ltN, gI_sub, pif_tt, pif_ff, pg_tt, isB, or_true, true_or, pif_T, pif_F, pg_T, pb_S, upd_e, upd_n, fX9_layChoices_117, fX9_layChoices_271, hh1]
    exact Ok.s (hc h2)
theorem layC_ok {kd d : Nat} {wh : Nat → Nat} (hN : 100 ≤ N) (hpg : pg < 2) (hh : c_holds 0 = jI n) (hh1 : c_holds 1 = jI kd) (hkd : kd ≤ 4) (hd : d < n) (hwh : ∀ c, c < n → c_holds (26 + c) = jI (wh c)) (hk : Gk n z f s e) (hG : Gm pg z f s e c_many c_firsts c_seconds c_goes) (hw : ∀ i, i < n → c_won i = jI (wonN f s e z i)) (hs : ∀ p, p < n → c_sideAt p = jI (ordN (wonN f s e z) n p)) (hp : ∀ k, k < n → c_placeOf k = jI (plc n (wonN f s e z) k)) : Ok ((fX9_layChoices N c_chooser c_firsts c_goes c_holds c_later c_many c_outs c_placeOf c_seconds c_sideAt c_won (jI pg) (jI d))) (fun q => ∀ c, c < n → q.1 c = jI (chN kd n (wonN f s e z) (merT n f s e z z) wh d c)) := by
  have hn := hk.1
  have hsd := sidesM (N := N) hh
  simp (disch := omega) only [jI_0, jI_1, jI_2, jI_3, jI_4, jI_5, jI_6, jI_7, jI_8, jI_9, jI_10, jI_11, jI_12, jI_13, jI_14, jI_15, jI_16, jI_20, jI_24, jI_26, jI_30, jI_31, jI_32, jI_40, jI_48, jI_56, jI_57, jI_59, jI_60, jI_97, jI_99, jI_122, jI_160, jI_240, jI_255, jI_768, jI_1000, ↓jN_1, ↓jN_2, ↓jN_3, ↓jN_4, ↓jN_8, ↓jN_10, ↓jN_11, ↓jN_12, ↓jN_14, ↓jN_20, jI_addN, jI_le, jI_lt, jI_eq, jI_cl, jI_in, jI_add, jI_sub, jI_eqN, gI_eqI, gI_eqN, gI_leI, gI_ltI, jI_leN, jI_ltN, gI_sub, pif_tt, pif_ff, pg_tt, isB, or_true, true_or, pif_T, pif_F, pg_T, pb_S, upd_e, upd_n, fX9_layChoices, hsd]
  refine up_ok (fun fu i cc => (fX9_layChoices_8 N c_firsts c_goes c_holds c_many c_placeOf c_seconds c_sideAt c_won (jI pg) (jI d) fu (jI n) (jI i) cc c_later c_outs)) _ n (fun i cc => ∀ c, c < i → cc c = jI (if kd = 3 then wh c else frL n (wonN f s e z) c)) ?_ ?_ N 0 c_chooser (by omega) (by omega) (fun j h => by omega)
  · intro fu i cc hi h1 ih
    by_cases h3 : kd = 3
    · simp (disch := omega) only [jI_0, jI_1, jI_2, jI_3, jI_4, jI_5, jI_6, jI_7, jI_8, jI_9, jI_10, jI_11, jI_12, jI_13, jI_14, jI_15, jI_16, jI_20, jI_24, jI_26, jI_30, jI_31, jI_32, jI_40, jI_48, jI_56, jI_57, jI_59, jI_60, jI_97, jI_99, jI_122, jI_160, jI_240, jI_255, jI_768, jI_1000, ↓jN_1, ↓jN_2, ↓jN_3, ↓jN_4, ↓jN_8, ↓jN_10, ↓jN_11, ↓jN_12, ↓jN_14, ↓jN_20, jI_addN, jI_le, jI_lt, jI_eq, jI_cl, jI_in, jI_add, jI_sub, jI_eqN, gI_eqI, gI_eqN, gI_leI, gI_ltI, jI_leN, jI_ltN, gI_sub, pif_tt, pif_ff, pg_tt, isB, or_true, true_or, pif_T, pif_F, pg_T, pb_S, upd_e, upd_n, fX9_layChoices_8, fX9_layChoices_54, hh1, hwh]
      refine ih _ (fun c hc => ?_)
      by_cases h : c = i
      · rw [upd_e h, h, if_pos h3]
      · rw [upd_n h]; exact h1 c (by omega)
    · simp (disch := omega) only [jI_0, jI_1, jI_2, jI_3, jI_4, jI_5, jI_6, jI_7, jI_8, jI_9, jI_10, jI_11, jI_12, jI_13, jI_14, jI_15, jI_16, jI_20, jI_24, jI_26, jI_30, jI_31, jI_32, jI_40, jI_48, jI_56, jI_57, jI_59, jI_60, jI_97, jI_99, jI_122, jI_160, jI_240, jI_255, jI_768, jI_1000, ↓jN_1, ↓jN_2, ↓jN_3, ↓jN_4, ↓jN_8, ↓jN_10, ↓jN_11, ↓jN_12, ↓jN_14, ↓jN_20, jI_addN, jI_le, jI_lt, jI_eq, jI_cl, jI_in, jI_add, jI_sub, jI_eqN, gI_eqI, gI_eqN, gI_leI, gI_ltI, jI_leN, jI_ltN, gI_sub, pif_tt, pif_ff, pg_tt, isB, or_true, true_or, pif_T, pif_F, pg_T, pb_S, upd_e, upd_n, fX9_layChoices_8, fX9_layChoices_54, hh1, hs]
      refine ih _ (fun c hc => ?_)
      by_cases h : c = i
      · rw [upd_e h, h, if_neg h3]; rfl
      · rw [upd_n h]; exact h1 c (by omega)
  · intro fu cc h1
    by_cases hk1 : kd = 1
    · subst hk1
      simp (disch := omega) only [jI_0, jI_1, jI_2, jI_3, jI_4, jI_5, jI_6, jI_7, jI_8, jI_9, jI_10, jI_11, jI_12, jI_13, jI_14, jI_15, jI_16, jI_20, jI_24, jI_26, jI_30, jI_31, jI_32, jI_40, jI_48, jI_56, jI_57, jI_59, jI_60, jI_97, jI_99, jI_122, jI_160, jI_240, jI_255, jI_768, jI_1000, ↓jN_1, ↓jN_2, ↓jN_3, ↓jN_4, ↓jN_8, ↓jN_10, ↓jN_11, ↓jN_12, ↓jN_14, ↓jN_20, jI_addN, jI_le, jI_lt, jI_eq, jI_cl, jI_in, jI_add, jI_sub, jI_eqN, gI_eqI, gI_eqN, gI_leI, gI_ltI, jI_leN, jI_ltN, gI_sub, pif_tt, pif_ff, pg_tt, isB, or_true, true_or, pif_T, pif_F, pg_T, pb_S, upd_e, upd_n, fX9_layChoices_8, hh1]
      refine dn_ok (fun fu i cc => (fX9_layChoices_74 N c_firsts c_goes c_holds c_many c_placeOf c_seconds c_sideAt c_won (jI pg) (jI d) fu (jI n) (jI i) cc c_later c_outs)) _ (fun i cc => i ≤ d ∧ ∀ c, c < n → cc c = jI (if i < c then chB n (wonN f s e z) d c else frL n (wonN f s e z) c)) ?_ ?_ N d cc (by omega) ⟨Nat.le_refl _, fun c hc => ?_⟩
      · intro fu i cc ⟨hid, h2⟩ ih
        simp (disch := omega) only [jI_0, jI_1, jI_2, jI_3, jI_4, jI_5, jI_6, jI_7, jI_8, jI_9, jI_10, jI_11, jI_12, jI_13, jI_14, jI_15, jI_16, jI_20, jI_24, jI_26, jI_30, jI_31, jI_32, jI_40, jI_48, jI_56, jI_57, jI_59, jI_60, jI_97, jI_99, jI_122, jI_160, jI_240, jI_255, jI_768, jI_1000, ↓jN_1, ↓jN_2, ↓jN_3, ↓jN_4, ↓jN_8, ↓jN_10, ↓jN_11, ↓jN_12, ↓jN_14, ↓jN_20, jI_addN, jI_le, jI_lt, jI_eq, jI_cl, jI_in, jI_add, jI_sub, jI_eqN, gI_eqI, gI_eqN, gI_leI, gI_ltI, jI_leN, jI_ltN, gI_sub, pif_tt, pif_ff, pg_tt, isB, or_true, true_or, pif_T, pif_F, pg_T, pb_S, upd_e, upd_n, fX9_layChoices_74, hs, Nat.add_sub_cancel]
        refine ih _ ⟨by omega, fun c hc => ?_⟩
        by_cases h : c = i + 1
        · rw [upd_e h, if_pos (by omega)]
          unfold chB
          rw [if_neg (by omega), if_pos (by omega)]
          unfold frL
          congr 2; omega
        · rw [upd_n h, h2 c hc]
          by_cases hci : i < c
          · rw [if_pos (by omega), if_pos hci]
          · rw [if_neg (by omega), if_neg hci]
      · intro fu cc ⟨_, h2⟩
        simp (disch := omega) only [jI_0, jI_1, jI_2, jI_3, jI_4, jI_5, jI_6, jI_7, jI_8, jI_9, jI_10, jI_11, jI_12, jI_13, jI_14, jI_15, jI_16, jI_20, jI_24, jI_26, jI_30, jI_31, jI_32, jI_40, jI_48, jI_56, jI_57, jI_59, jI_60, jI_97, jI_99, jI_122, jI_160, jI_240, jI_255, jI_768, jI_1000, ↓jN_1, ↓jN_2, ↓jN_3, ↓jN_4, ↓jN_8, ↓jN_10, ↓jN_11, ↓jN_12, ↓jN_14, ↓jN_20, jI_addN, jI_le, jI_lt, jI_eq, jI_cl, jI_in, jI_add, jI_sub, jI_eqN, gI_eqI, gI_eqN, gI_leI, gI_ltI, jI_leN, jI_ltN, gI_sub, pif_tt, pif_ff, pg_tt, isB, or_true, true_or, pif_T, pif_F, pg_T, pb_S, upd_e, upd_n, fX9_layChoices_74, hs]
        refine layC_117 (kd := 1) hN hpg hh hh1 hkd hk hG hw hp (fun _ c hc => ?_)
        show _ = jI (chB n _ d c)
        by_cases h : c = 0
        · rw [upd_e h, h]; rfl
        · rw [upd_n h, h2 c hc, if_pos (by omega)]
      · rw [h1 c hc, if_neg (by omega)]
        by_cases hdc : d < c
        · rw [if_pos hdc]
          unfold chB
          rw [if_neg (by omega), if_neg (by omega)]
        · rw [if_neg hdc]
    · simp (disch := omega) only [jI_0, jI_1, jI_2, jI_3, jI_4, jI_5, jI_6, jI_7, jI_8, jI_9, jI_10, jI_11, jI_12, jI_13, jI_14, jI_15, jI_16, jI_20, jI_24, jI_26, jI_30, jI_31, jI_32, jI_40, jI_48, jI_56, jI_57, jI_59, jI_60, jI_97, jI_99, jI_122, jI_160, jI_240, jI_255, jI_768, jI_1000, ↓jN_1, ↓jN_2, ↓jN_3, ↓jN_4, ↓jN_8, ↓jN_10, ↓jN_11, ↓jN_12, ↓jN_14, ↓jN_20, jI_addN, jI_le, jI_lt, jI_eq, jI_cl, jI_in, jI_add, jI_sub, jI_eqN, gI_eqI, gI_eqN, gI_leI, gI_ltI, jI_leN, jI_ltN, gI_sub, pif_tt, pif_ff, pg_tt, isB, or_true, true_or, pif_T, pif_F, pg_T, pb_S, upd_e, upd_n, fX9_layChoices_8, hh1]
      refine layC_117 (kd := kd) hN hpg hh hh1 hkd hk hG hw hp (fun h2 c hc => ?_)
      rw [h1 c hc]
      unfold chN
      rw [if_neg hk1, if_neg h2]
end
