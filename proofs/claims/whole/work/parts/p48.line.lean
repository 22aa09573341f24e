/-! TEXT: numbers, the class and the reference. -/
section
variable {v_at : Int32} {v_flaw : Int32} {v_flawPlace : Int32} {c_tape_meaning : Nat → Int32} {c_tape_start : Nat → Int32} {c_tape_token : Nat → Int32}
variable {N t T : Nat} {tp : Nat → Nat}
theorem failX {k c : Nat} (hk : k ≤ 240) (hs : c_tape_start k = jI (kS t tp k)) : (fX1_fail N (jI k) v_flaw v_flawPlace c_tape_start (jI c)) = some (jI 0, jI c, jI (kS t tp k)) := by
  simp (disch := omega) only [jI_0, jI_1, jI_2, jI_3, jI_4, jI_5, jI_6, jI_7, jI_8, jI_9, jI_10, jI_11, jI_12, jI_13, jI_14, jI_15, jI_16, jI_20, jI_24, jI_26, jI_30, jI_31, jI_32, jI_40, jI_48, jI_56, jI_57, jI_59, jI_60, jI_97, jI_99, jI_122, jI_160, jI_240, jI_255, jI_768, jI_1000, ↓jN_1, ↓jN_2, ↓jN_3, ↓jN_4, ↓jN_8, ↓jN_10, ↓jN_11, ↓jN_12, ↓jN_14, ↓jN_20, jI_addN, jI_le, jI_lt, jI_eq, jI_cl, jI_in, jI_add, jI_sub, jI_eqN, gI_eqI, gI_eqN, gI_leI, gI_ltI, jI_leN, jI_ltN, gI_sub, pif_tt, pif_ff, pg_tt, isB, or_true, true_or, pif_T, pif_F, pg_T, pb_S, upd_e, upd_n, fX1_fail]
  rw [hs]
theorem dueX {k x : Nat} (hT : Tk t tp T c_tape_meaning c_tape_start c_tape_token) (ht : t ≤ 240) (hk : k ≤ T) (hx : x < 4) : (cD t tp k x = 0 → (fX1_isDue N (jI k) v_flaw v_flawPlace c_tape_start c_tape_token (jI x)) = some (jI 1, v_flaw, v_flawPlace)) ∧ (cD t tp k x ≠ 0 → (fX1_isDue N (jI k) v_flaw v_flawPlace c_tape_start c_tape_token (jI x)) = some (jI 0, jI (cD t tp k x), jI (kS t tp k))) := by
  obtain ⟨h1, h2, h3, h4⟩ := hT
  obtain ⟨e1, e2, e3⟩ := h4 k hk
  have hkk := kK_le t tp k
  have e1' : c_tape_token k = jI (kK t tp k) := e1
  have e2' : c_tape_start k = jI (kS t tp k) := e2
  unfold cD
  generalize kK t tp k = kk at *
  by_cases c4 : kk = 4
  · rw [if_pos c4]
    refine ⟨fun h => by omega, fun _ => ?_⟩
    subst c4
    simp (disch := omega) only [jI_0, jI_1, jI_2, jI_3, jI_4, jI_5, jI_6, jI_7, jI_8, jI_9, jI_10, jI_11, jI_12, jI_13, jI_14, jI_15, jI_16, jI_20, jI_24, jI_26, jI_30, jI_31, jI_32, jI_40, jI_48, jI_56, jI_57, jI_59, jI_60, jI_97, jI_99, jI_122, jI_160, jI_240, jI_255, jI_768, jI_1000, ↓jN_1, ↓jN_2, ↓jN_3, ↓jN_4, ↓jN_8, ↓jN_10, ↓jN_11, ↓jN_12, ↓jN_14, ↓jN_20, jI_addN, jI_le, jI_lt, jI_eq, jI_cl, jI_in, jI_add, jI_sub, jI_eqN, gI_eqI, gI_eqN, gI_leI, gI_ltI, jI_leN, jI_ltN, gI_sub, pif_tt, pif_ff, pg_tt, isB, or_true, true_or, pif_T, pif_F, pg_T, pb_S, upd_e, upd_n, fX1_isDue, e1', failX (t := t) (tp := tp) (N := N) (k := k) (by omega) e2']
  · rw [if_neg c4]
    by_cases cx : kk = x
    · rw [if_pos cx]
      refine ⟨fun _ => ?_, fun h => by omega⟩
      simp (disch := omega) only [jI_0, jI_1, jI_2, jI_3, jI_4, jI_5, jI_6, jI_7, jI_8, jI_9, jI_10, jI_11, jI_12, jI_13, jI_14, jI_15, jI_16, jI_20, jI_24, jI_26, jI_30, jI_31, jI_32, jI_40, jI_48, jI_56, jI_57, jI_59, jI_60, jI_97, jI_99, jI_122, jI_160, jI_240, jI_255, jI_768, jI_1000, ↓jN_1, ↓jN_2, ↓jN_3, ↓jN_4, ↓jN_8, ↓jN_10, ↓jN_11, ↓jN_12, ↓jN_14, ↓jN_20, jI_addN, jI_le, jI_lt, jI_eq, jI_cl, jI_in, jI_add, jI_sub, jI_eqN, gI_eqI, gI_eqN, gI_leI, gI_ltI, jI_leN, jI_ltN, gI_sub, pif_tt, pif_ff, pg_tt, isB, or_true, true_or, pif_T, pif_F, pg_T, pb_S, upd_e, upd_n, fX1_isDue, e1', fX1_isDue_46, fX1_isDue_51]
    · rw [if_neg cx]
      refine ⟨fun h => by omega, fun _ => ?_⟩
      simp (disch := omega) only [jI_0, jI_1, jI_2, jI_3, jI_4, jI_5, jI_6, jI_7, jI_8, jI_9, jI_10, jI_11, jI_12, jI_13, jI_14, jI_15, jI_16, jI_20, jI_24, jI_26, jI_30, jI_31, jI_32, jI_40, jI_48, jI_56, jI_57, jI_59, jI_60, jI_97, jI_99, jI_122, jI_160, jI_240, jI_255, jI_768, jI_1000, ↓jN_1, ↓jN_2, ↓jN_3, ↓jN_4, ↓jN_8, ↓jN_10, ↓jN_11, ↓jN_12, ↓jN_14, ↓jN_20, jI_addN, jI_le, jI_lt, jI_eq, jI_cl, jI_in, jI_add, jI_sub, jI_eqN, gI_eqI, gI_eqN, gI_leI, gI_ltI, jI_leN, jI_ltN, gI_sub, pif_tt, pif_ff, pg_tt, isB, or_true, true_or, pif_T, pif_F, pg_T, pb_S, upd_e, upd_n, fX1_isDue, e1', failX (t := t) (tp := tp) (N := N) (k := k) (by omega) e2', fX1_isDue_51]
theorem stepX {k : Nat} (hk : k < 240) : fX1_step N (jI k) = some (jI (k + 1)) := by
  simp (disch := omega) only [jI_0, jI_1, jI_2, jI_3, jI_4, jI_5, jI_6, jI_7, jI_8, jI_9, jI_10, jI_11, jI_12, jI_13, jI_14, jI_15, jI_16, jI_20, jI_24, jI_26, jI_30, jI_31, jI_32, jI_40, jI_48, jI_56, jI_57, jI_59, jI_60, jI_97, jI_99, jI_122, jI_160, jI_240, jI_255, jI_768, jI_1000, ↓jN_1, ↓jN_2, ↓jN_3, ↓jN_4, ↓jN_8, ↓jN_10, ↓jN_11, ↓jN_12, ↓jN_14, ↓jN_20, jI_addN, jI_le, jI_lt, jI_eq, jI_cl, jI_in, jI_add, jI_sub, jI_eqN, gI_eqI, gI_eqN, gI_leI, gI_ltI, jI_leN, jI_ltN, gI_sub, pif_tt, pif_ff, pg_tt, isB, or_true, true_or, pif_T, pif_F, pg_T, pb_S, upd_e, upd_n, fX1_step, fX1_step_20]
theorem numX {k lo hi : Nat} (hT : Tk t tp T c_tape_meaning c_tape_start c_tape_token) (ht : t ≤ 240) (h256 : ∀ k, k < 240 → tp k < 256) (hk : k < T) (hl : lo < 3000) (hh : hi < 3000) : (cN t tp (k + 1) lo hi = 0 → (fX1_takeNumber N (jI k) v_flaw v_flawPlace c_tape_meaning c_tape_start c_tape_token (jI lo) (jI hi)) = some (jI 1, jI (k + 1), v_flaw, v_flawPlace)) ∧ (cN t tp (k + 1) lo hi ≠ 0 → (fX1_takeNumber N (jI k) v_flaw v_flawPlace c_tape_meaning c_tape_start c_tape_token (jI lo) (jI hi)) = some (jI 0, jI (k + 1), jI (cN t tp (k + 1) lo hi), jI (kS t tp (k + 1)))) := by
  have hD := dueX (N := N) (v_flaw := v_flaw) (v_flawPlace := v_flawPlace) (x := 2) hT ht (show k + 1 ≤ T by omega) (by omega)
  obtain ⟨h1, h2, h3, h4⟩ := hT
  obtain ⟨e1, e2, e3⟩ := h4 (k + 1) (by omega)
  have hv := kV_lt ht h256 (k + 1)
  have e2' : c_tape_start (k + 1) = jI (kS t tp (k + 1)) := e2
  have e3' : c_tape_meaning (k + 1) = jI (kV t tp (k + 1)) := e3
  have hst := stepX (N := N) (k := k) (by omega)
  unfold cN
  unfold cD at hD
  generalize kK t tp (k + 1) = kk at *
  generalize kV t tp (k + 1) = vv at *
  by_cases c4 : kk = 4
  · simp only [if_pos c4] at hD ⊢
    refine ⟨fun h => by omega, fun _ => ?_⟩
    have d := hD.2 (by omega)
    simp (disch := omega) only [jI_0, jI_1, jI_2, jI_3, jI_4, jI_5, jI_6, jI_7, jI_8, jI_9, jI_10, jI_11, jI_12, jI_13, jI_14, jI_15, jI_16, jI_20, jI_24, jI_26, jI_30, jI_31, jI_32, jI_40, jI_48, jI_56, jI_57, jI_59, jI_60, jI_97, jI_99, jI_122, jI_160, jI_240, jI_255, jI_768, jI_1000, ↓jN_1, ↓jN_2, ↓jN_3, ↓jN_4, ↓jN_8, ↓jN_10, ↓jN_11, ↓jN_12, ↓jN_14, ↓jN_20, jI_addN, jI_le, jI_lt, jI_eq, jI_cl, jI_in, jI_add, jI_sub, jI_eqN, gI_eqI, gI_eqN, gI_leI, gI_ltI, jI_leN, jI_ltN, gI_sub, pif_tt, pif_ff, pg_tt, isB, or_true, true_or, pif_T, pif_F, pg_T, pb_S, upd_e, upd_n, fX1_takeNumber, hst, d]
  · simp only [if_neg c4] at hD ⊢
    by_cases c2 : kk = 2
    · simp only [if_pos c2] at hD ⊢
      have d := hD.1 trivial
      by_cases cr : lo ≤ vv ∧ vv ≤ hi
      · rw [if_pos cr]
        refine ⟨fun _ => ?_, fun h => by omega⟩
        simp (disch := omega) only [jI_0, jI_1, jI_2, jI_3, jI_4, jI_5, jI_6, jI_7, jI_8, jI_9, jI_10, jI_11, jI_12, jI_13, jI_14, jI_15, jI_16, jI_20, jI_24, jI_26, jI_30, jI_31, jI_32, jI_40, jI_48, jI_56, jI_57, jI_59, jI_60, jI_97, jI_99, jI_122, jI_160, jI_240, jI_255, jI_768, jI_1000, ↓jN_1, ↓jN_2, ↓jN_3, ↓jN_4, ↓jN_8, ↓jN_10, ↓jN_11, ↓jN_12, ↓jN_14, ↓jN_20, jI_addN, jI_le, jI_lt, jI_eq, jI_cl, jI_in, jI_add, jI_sub, jI_eqN, gI_eqI, gI_eqN, gI_leI, gI_ltI, jI_leN, jI_ltN, gI_sub, pif_tt, pif_ff, pg_tt, isB, or_true, true_or, pif_T, pif_F, pg_T, pb_S, upd_e, upd_n, fX1_takeNumber, hst, d, e3', fX1_takeNumber_45, fX1_takeNumber_50]
      · rw [if_neg cr]
        refine ⟨fun h => by omega, fun _ => ?_⟩
        have f := failX (N := N) (t := t) (tp := tp) (v_flaw := v_flaw) (v_flawPlace := v_flawPlace) (k := k + 1) (c := 3) (by omega) e2'
        by_cases cl : vv < lo
        · simp (disch := omega) only [jI_0, jI_1, jI_2, jI_3, jI_4, jI_5, jI_6, jI_7, jI_8, jI_9, jI_10, jI_11, jI_12, jI_13, jI_14, jI_15, jI_16, jI_20, jI_24, jI_26, jI_30, jI_31, jI_32, jI_40, jI_48, jI_56, jI_57, jI_59, jI_60, jI_97, jI_99, jI_122, jI_160, jI_240, jI_255, jI_768, jI_1000, ↓jN_1, ↓jN_2, ↓jN_3, ↓jN_4, ↓jN_8, ↓jN_10, ↓jN_11, ↓jN_12, ↓jN_14, ↓jN_20, jI_addN, jI_le, jI_lt, jI_eq, jI_cl, jI_in, jI_add, jI_sub, jI_eqN, gI_eqI, gI_eqN, gI_leI, gI_ltI, jI_leN, jI_ltN, gI_sub, pif_tt, pif_ff, pg_tt, isB, or_true, true_or, pif_T, pif_F, pg_T, pb_S, upd_e, upd_n, fX1_takeNumber, hst, d, e3', fX1_takeNumber_37, fX1_takeNumber_50, f]
        · simp (disch := omega) only [jI_0, jI_1, jI_2, jI_3, jI_4, jI_5, jI_6, jI_7, jI_8, jI_9, jI_10, jI_11, jI_12, jI_13, jI_14, jI_15, jI_16, jI_20, jI_24, jI_26, jI_30, jI_31, jI_32, jI_40, jI_48, jI_56, jI_57, jI_59, jI_60, jI_97, jI_99, jI_122, jI_160, jI_240, jI_255, jI_768, jI_1000, ↓jN_1, ↓jN_2, ↓jN_3, ↓jN_4, ↓jN_8, ↓jN_10, ↓jN_11, ↓jN_12, ↓jN_14, ↓jN_20, jI_addN, jI_le, jI_lt, jI_eq, jI_cl, jI_in, jI_add, jI_sub, jI_eqN, gI_eqI, gI_eqN, gI_leI, gI_ltI, jI_leN, jI_ltN, gI_sub, pif_tt, pif_ff, pg_tt, isB, or_true, true_or, pif_T, pif_F, pg_T, pb_S, upd_e, upd_n, fX1_takeNumber, hst, d, e3', fX1_takeNumber_37, fX1_takeNumber_50, f]
    · simp only [if_neg c2] at hD ⊢
      refine ⟨fun h => by omega, fun _ => ?_⟩
      have d := hD.2 (by omega)
      simp (disch := omega) only [jI_0, jI_1, jI_2, jI_3, jI_4, jI_5, jI_6, jI_7, jI_8, jI_9, jI_10, jI_11, jI_12, jI_13, jI_14, jI_15, jI_16, jI_20, jI_24, jI_26, jI_30, jI_31, jI_32, jI_40, jI_48, jI_56, jI_57, jI_59, jI_60, jI_97, jI_99, jI_122, jI_160, jI_240, jI_255, jI_768, jI_1000, ↓jN_1, ↓jN_2, ↓jN_3, ↓jN_4, ↓jN_8, ↓jN_10, ↓jN_11, ↓jN_12, ↓jN_14, ↓jN_20, jI_addN, jI_le, jI_lt, jI_eq, jI_cl, jI_in, jI_add, jI_sub, jI_eqN, gI_eqI, gI_eqN, gI_leI, gI_ltI, jI_leN, jI_ltN, gI_sub, pif_tt, pif_ff, pg_tt, isB, or_true, true_or, pif_T, pif_F, pg_T, pb_S, upd_e, upd_n, fX1_takeNumber, hst, d]
end
