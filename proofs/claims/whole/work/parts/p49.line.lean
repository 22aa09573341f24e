/-! TEXT: numbers, the reference. -/
theorem inLH3 {N v lo hi : Nat} (hv : v < 3000) (hl : lo < 1000) (hh : hi < 1000) : fX9_in N (jL v) (jL lo) (jL hi) = some (jI (if lo ≤ v ∧ v ≤ hi then 1 else 0)) := by
  by_cases h1 : v < lo
  · rw [if_neg (by omega)]
    simp (disch := omega) only [jI_0, jI_1, jI_2, jI_3, jI_4, jI_5, jI_6, jI_7, jI_8, jI_9, jI_10, jI_11, jI_12, jI_13, jI_14, jI_15, jI_16, jI_20, jI_24, jI_26, jI_30, jI_31, jI_32, jI_40, jI_48, jI_56, jI_57, jI_59, jI_60, jI_97, jI_99, jI_122, jI_160, jI_240, jI_255, jI_768, jI_1000, ↓jN_1, ↓jN_2, ↓jN_3, ↓jN_4, ↓jN_8, ↓jN_10, ↓jN_11, ↓jN_12, ↓jN_14, ↓jN_20, jI_addN, jI_le, jI_lt, jI_eq, jI_cl, jI_in, jI_add, jI_sub, jI_eqN, gI_eqI, gI_eqN, gI_leI, gI_ltI, jI_leN, jI_ltN, gI_sub, pif_tt, pif_ff, pg_tt, isB, or_true, true_or, pif_T, pif_F, pg_T, pb_S, upd_e, upd_n, fX9_in, fX9_in_17, fX9_in_18, lg_lt, jL_lt]
  · by_cases h2 : hi < v
    · rw [if_neg (by omega)]
      simp (disch := omega) only [jI_0, jI_1, jI_2, jI_3, jI_4, jI_5, jI_6, jI_7, jI_8, jI_9, jI_10, jI_11, jI_12, jI_13, jI_14, jI_15, jI_16, jI_20, jI_24, jI_26, jI_30, jI_31, jI_32, jI_40, jI_48, jI_56, jI_57, jI_59, jI_60, jI_97, jI_99, jI_122, jI_160, jI_240, jI_255, jI_768, jI_1000, ↓jN_1, ↓jN_2, ↓jN_3, ↓jN_4, ↓jN_8, ↓jN_10, ↓jN_11, ↓jN_12, ↓jN_14, ↓jN_20, jI_addN, jI_le, jI_lt, jI_eq, jI_cl, jI_in, jI_add, jI_sub, jI_eqN, gI_eqI, gI_eqN, gI_leI, gI_ltI, jI_leN, jI_ltN, gI_sub, pif_tt, pif_ff, pg_tt, isB, or_true, true_or, pif_T, pif_F, pg_T, pb_S, upd_e, upd_n, fX9_in, fX9_in_17, fX9_in_18, lg_lt, lg_gt, jL_lt]
    · rw [if_pos (by omega)]
      simp (disch := omega) only [jI_0, jI_1, jI_2, jI_3, jI_4, jI_5, jI_6, jI_7, jI_8, jI_9, jI_10, jI_11, jI_12, jI_13, jI_14, jI_15, jI_16, jI_20, jI_24, jI_26, jI_30, jI_31, jI_32, jI_40, jI_48, jI_56, jI_57, jI_59, jI_60, jI_97, jI_99, jI_122, jI_160, jI_240, jI_255, jI_768, jI_1000, ↓jN_1, ↓jN_2, ↓jN_3, ↓jN_4, ↓jN_8, ↓jN_10, ↓jN_11, ↓jN_12, ↓jN_14, ↓jN_20, jI_addN, jI_le, jI_lt, jI_eq, jI_cl, jI_in, jI_add, jI_sub, jI_eqN, gI_eqI, gI_eqN, gI_leI, gI_ltI, jI_leN, jI_ltN, gI_sub, pif_tt, pif_ff, pg_tt, isB, or_true, true_or, pif_T, pif_F, pg_T, pb_S, upd_e, upd_n, fX9_in, fX9_in_17, fX9_in_18, lg_lt, lg_gt, jL_lt]
section
variable {v_place : Int32} {v_token : Int32} {v_value : Int32} {v_wrong : Int32} {v_wrongAt : Int32}
variable {N t : Nat} {tp : Nat → Nat}
theorem failM {c : Nat} (hc : c < 1000) : (fX9_fails N v_place (jI 0) v_wrongAt (jI c)) = some (jI c, v_place) := by
  simp (disch := omega) only [jI_0, jI_1, jI_2, jI_3, jI_4, jI_5, jI_6, jI_7, jI_8, jI_9, jI_10, jI_11, jI_12, jI_13, jI_14, jI_15, jI_16, jI_20, jI_24, jI_26, jI_30, jI_31, jI_32, jI_40, jI_48, jI_56, jI_57, jI_59, jI_60, jI_97, jI_99, jI_122, jI_160, jI_240, jI_255, jI_768, jI_1000, ↓jN_1, ↓jN_2, ↓jN_3, ↓jN_4, ↓jN_8, ↓jN_10, ↓jN_11, ↓jN_12, ↓jN_14, ↓jN_20, jI_addN, jI_le, jI_lt, jI_eq, jI_cl, jI_in, jI_add, jI_sub, jI_eqN, gI_eqI, gI_eqN, gI_leI, gI_ltI, jI_leN, jI_ltN, gI_sub, pif_tt, pif_ff, pg_tt, isB, or_true, true_or, pif_T, pif_F, pg_T, pb_S, upd_e, upd_n, fX9_fails, fX9_fails_20]
theorem failMW {w : Nat} {x1 : Int32} (h0 : 0 < w) (h1 : w < 1000) : (fX9_fails N v_place (jI w) v_wrongAt x1) = some (jI w, v_wrongAt) := by
  simp (disch := omega) only [jI_0, jI_1, jI_2, jI_3, jI_4, jI_5, jI_6, jI_7, jI_8, jI_9, jI_10, jI_11, jI_12, jI_13, jI_14, jI_15, jI_16, jI_20, jI_24, jI_26, jI_30, jI_31, jI_32, jI_40, jI_48, jI_56, jI_57, jI_59, jI_60, jI_97, jI_99, jI_122, jI_160, jI_240, jI_255, jI_768, jI_1000, ↓jN_1, ↓jN_2, ↓jN_3, ↓jN_4, ↓jN_8, ↓jN_10, ↓jN_11, ↓jN_12, ↓jN_14, ↓jN_20, jI_addN, jI_le, jI_lt, jI_eq, jI_cl, jI_in, jI_add, jI_sub, jI_eqN, gI_eqI, gI_eqN, gI_leI, gI_ltI, jI_leN, jI_ltN, gI_sub, pif_tt, pif_ff, pg_tt, isB, or_true, true_or, pif_T, pif_F, pg_T, pb_S, upd_e, upd_n, fX9_fails, fX9_fails_20]
theorem numMW {w : Nat} {x1 x2 : Int32} (h0 : 0 < w) (h1 : w < 1000) : (fX9_number N v_place v_token v_value (jI w) v_wrongAt x1 x2) = some (x1, jI w, v_wrongAt) := by
  simp (disch := omega) only [jI_0, jI_1, jI_2, jI_3, jI_4, jI_5, jI_6, jI_7, jI_8, jI_9, jI_10, jI_11, jI_12, jI_13, jI_14, jI_15, jI_16, jI_20, jI_24, jI_26, jI_30, jI_31, jI_32, jI_40, jI_48, jI_56, jI_57, jI_59, jI_60, jI_97, jI_99, jI_122, jI_160, jI_240, jI_255, jI_768, jI_1000, ↓jN_1, ↓jN_2, ↓jN_3, ↓jN_4, ↓jN_8, ↓jN_10, ↓jN_11, ↓jN_12, ↓jN_14, ↓jN_20, jI_addN, jI_le, jI_lt, jI_eq, jI_cl, jI_in, jI_add, jI_sub, jI_eqN, gI_eqI, gI_eqN, gI_leI, gI_ltI, jI_leN, jI_ltN, gI_sub, pif_tt, pif_ff, pg_tt, isB, or_true, true_or, pif_T, pif_F, pg_T, pb_S, upd_e, upd_n, fX9_number, fX9_number_20, fX9_number_47, fX9_number_62]
theorem numM {k lo hi : Nat} (ht : t ≤ 240) (h256 : ∀ k, k < 240 → tp k < 256) (h4 : kK t tp k ≠ 4) (hl : lo < 1000) (hh : hi < 1000) : (cN t tp k lo hi = 0 → (fX9_number N (jI (kS t tp k)) (jI (kK t tp k)) (jI (kR t tp k)) (jI 0) v_wrongAt (jI lo) (jI hi)) = some (jI (kV t tp k), jI 0, v_wrongAt)) ∧ (cN t tp k lo hi ≠ 0 → (fX9_number N (jI (kS t tp k)) (jI (kK t tp k)) (jI (kR t tp k)) (jI 0) v_wrongAt (jI lo) (jI hi)) = some (jI lo, jI (cN t tp k lo hi), jI (kS t tp k))) := by
  have hv := kV_lt ht h256 k
  have hk := kK_le t tp k
  unfold cN
  rw [if_neg h4]
  by_cases c2 : kK t tp k = 2
  · rw [kR_n (by omega), if_pos c2, c2]
    generalize kV t tp k = vv at *
    have i1 := inLH3 (N := N) (v := vv) (lo := lo) (hi := hi) (by omega) hl hh
    by_cases cr : lo ≤ vv ∧ vv ≤ hi
    · rw [if_pos cr] at i1 ⊢
      refine ⟨fun _ => ?_, fun h => by omega⟩
      simp (disch := omega) only [jI_0, jI_1, jI_2, jI_3, jI_4, jI_5, jI_6, jI_7, jI_8, jI_9, jI_10, jI_11, jI_12, jI_13, jI_14, jI_15, jI_16, jI_20, jI_24, jI_26, jI_30, jI_31, jI_32, jI_40, jI_48, jI_56, jI_57, jI_59, jI_60, jI_97, jI_99, jI_122, jI_160, jI_240, jI_255, jI_768, jI_1000, ↓jN_1, ↓jN_2, ↓jN_3, ↓jN_4, ↓jN_8, ↓jN_10, ↓jN_11, ↓jN_12, ↓jN_14, ↓jN_20, jI_addN, jI_le, jI_lt, jI_eq, jI_cl, jI_in, jI_add, jI_sub, jI_eqN, gI_eqI, gI_eqN, gI_leI, gI_ltI, jI_leN, jI_ltN, gI_sub, pif_tt, pif_ff, pg_tt, isB, or_true, true_or, pif_T, pif_F, pg_T, pb_S, upd_e, upd_n, fX9_number, fX9_number_20, fX9_number_47, fX9_number_62, jI_L, i1]
    · rw [if_neg cr] at i1 ⊢
      refine ⟨fun h => by omega, fun _ => ?_⟩
      simp (disch := omega) only [jI_0, jI_1, jI_2, jI_3, jI_4, jI_5, jI_6, jI_7, jI_8, jI_9, jI_10, jI_11, jI_12, jI_13, jI_14, jI_15, jI_16, jI_20, jI_24, jI_26, jI_30, jI_31, jI_32, jI_40, jI_48, jI_56, jI_57, jI_59, jI_60, jI_97, jI_99, jI_122, jI_160, jI_240, jI_255, jI_768, jI_1000, ↓jN_1, ↓jN_2, ↓jN_3, ↓jN_4, ↓jN_8, ↓jN_10, ↓jN_11, ↓jN_12, ↓jN_14, ↓jN_20, jI_addN, jI_le, jI_lt, jI_eq, jI_cl, jI_in, jI_add, jI_sub, jI_eqN, gI_eqI, gI_eqN, gI_leI, gI_ltI, jI_leN, jI_ltN, gI_sub, pif_tt, pif_ff, pg_tt, isB, or_true, true_or, pif_T, pif_F, pg_T, pb_S, upd_e, upd_n, fX9_number, fX9_number_20, fX9_number_47, fX9_number_62, jI_L, i1, failM]
  · rw [if_neg c2]
    refine ⟨fun h => by omega, fun _ => ?_⟩
    simp (disch := omega) only [jI_0, jI_1, jI_2, jI_3, jI_4, jI_5, jI_6, jI_7, jI_8, jI_9, jI_10, jI_11, jI_12, jI_13, jI_14, jI_15, jI_16, jI_20, jI_24, jI_26, jI_30, jI_31, jI_32, jI_40, jI_48, jI_56, jI_57, jI_59, jI_60, jI_97, jI_99, jI_122, jI_160, jI_240, jI_255, jI_768, jI_1000, ↓jN_1, ↓jN_2, ↓jN_3, ↓jN_4, ↓jN_8, ↓jN_10, ↓jN_11, ↓jN_12, ↓jN_14, ↓jN_20, jI_addN, jI_le, jI_lt, jI_eq, jI_cl, jI_in, jI_add, jI_sub, jI_eqN, gI_eqI, gI_eqN, gI_leI, gI_ltI, jI_leN, jI_ltN, gI_sub, pif_tt, pif_ff, pg_tt, isB, or_true, true_or, pif_T, pif_F, pg_T, pb_S, upd_e, upd_n, fX9_number, fX9_number_20, fX9_number_47, fX9_number_62, failM]
end
section
variable {v_place : Int32} {v_spot : Int32} {v_taped : Int32} {v_token : Int32} {v_value : Int32} {v_wrong : Int32} {v_wrongAt : Int32} {c_cuts : Nat → Int32} {c_letters : Nat → Int32} {c_tape : Nat → Int32}
variable {N t : Nat} {tp : Nat → Nat}
theorem nextWe {w : Nat} (h0 : 0 < w) (h1 : w < 1000) : (fX9_next N v_place v_spot v_taped v_token v_value (jI w) v_wrongAt c_cuts c_letters c_tape) = some (v_place, v_spot, v_token, v_value, jI w, v_wrongAt) := by
  simp (disch := omega) only [jI_0, jI_1, jI_2, jI_3, jI_4, jI_5, jI_6, jI_7, jI_8, jI_9, jI_10, jI_11, jI_12, jI_13, jI_14, jI_15, jI_16, jI_20, jI_24, jI_26, jI_30, jI_31, jI_32, jI_40, jI_48, jI_56, jI_57, jI_59, jI_60, jI_97, jI_99, jI_122, jI_160, jI_240, jI_255, jI_768, jI_1000, ↓jN_1, ↓jN_2, ↓jN_3, ↓jN_4, ↓jN_8, ↓jN_10, ↓jN_11, ↓jN_12, ↓jN_14, ↓jN_20, jI_addN, jI_le, jI_lt, jI_eq, jI_cl, jI_in, jI_add, jI_sub, jI_eqN, gI_eqI, gI_eqN, gI_leI, gI_ltI, jI_leN, jI_ltN, gI_sub, pif_tt, pif_ff, pg_tt, isB, or_true, true_or, pif_T, pif_F, pg_T, pb_S, upd_e, upd_n, fX9_next]
/-- the next token, and where one of kind x is due -/
theorem nxM {k : Nat} (hN : 1000 ≤ N) (ht : t ≤ 240) (h256 : ∀ k, k < 240 → tp k < 256) (hb : ∀ k, k < t → c_tape k = jI (tp k)) (hc : Cu c_cuts c_letters) : Ok ((fX9_next N v_place (jI (ps t tp k)) (jI t) v_token v_value (jI 0) v_wrongAt c_cuts c_letters c_tape)) (fun q => (kK t tp k ≠ 4 → q = (jI (kS t tp k), jI (ps t tp (k + 1)), jI (kK t tp k), jI (kR t tp k), jI 0, v_wrongAt)) ∧ (kK t tp k = 4 → q.2.2.2.2.1 = jI 1 ∧ q.2.2.2.2.2 = jI (kS t tp k))) :=
  nextM hN ht (ps_le t tp k) h256 hb hc (fun h => ⟨fun _ => rfl, fun c => absurd c h⟩) (fun h _ _ => ⟨fun c => absurd h c, fun _ => ⟨rfl, rfl⟩⟩)
/-- the next token, where a number is due -/
theorem nxN {k lo hi : Nat} (hN : 1000 ≤ N) (ht : t ≤ 240) (h256 : ∀ k, k < 240 → tp k < 256) (hb : ∀ k, k < t → c_tape k = jI (tp k)) (hc : Cu c_cuts c_letters) (hl : lo < 1000) (hh : hi < 1000) : ∃ q r, (fX9_next N v_place (jI (ps t tp k)) (jI t) v_token v_value (jI 0) v_wrongAt c_cuts c_letters c_tape) = some q ∧ (fX9_number N q.1 q.2.2.1 q.2.2.2.1 q.2.2.2.2.1 q.2.2.2.2.2 (jI lo) (jI hi)) = some r ∧ (cN t tp k lo hi = 0 → q = (jI (kS t tp k), jI (ps t tp (k + 1)), jI (kK t tp k), jI (kR t tp k), jI 0, v_wrongAt) ∧ r = (jI (kV t tp k), jI 0, v_wrongAt)) ∧ (cN t tp k lo hi ≠ 0 → r = (jI lo, jI (cN t tp k lo hi), jI (kS t tp k))) := by
  obtain ⟨q, e, h1, h2⟩ := nxM (N := N) (t := t) (tp := tp) (k := k) (v_place := v_place) (v_token := v_token) (v_value := v_value) (v_wrongAt := v_wrongAt) hN ht h256 hb hc
  by_cases c4 : kK t tp k = 4
  · obtain ⟨w1, w2⟩ := h2 c4
    have hc1 : cN t tp k lo hi = 1 := if_pos c4
    refine ⟨q, (jI lo, jI 1, jI (kS t tp k)), e, ?_, fun h => by omega, fun _ => by rw [hc1]⟩
    rw [w1, w2]
    exact numMW (by omega) (by omega)
  · have hq := h1 c4
    subst hq
    obtain ⟨n1, n2⟩ := numM (N := N) (t := t) (tp := tp) (k := k) (lo := lo) (hi := hi) (v_wrongAt := v_wrongAt) ht h256 c4 hl hh
    by_cases c0 : cN t tp k lo hi = 0
    · exact ⟨_, _, e, n1 c0, fun _ => ⟨rfl, rfl⟩, fun h => absurd c0 h⟩
    · exact ⟨_, _, e, n2 c0, fun h => absurd h c0, fun _ => rfl⟩
end
