/-! TEXT: the end of all lines. -/
section
variable {v_at : Int32} {v_flaw : Int32} {v_flawPlace : Int32} {v_lines : Int32} {v_draft_kind : Int32} {v_draft_rounds : Int32} {v_draft_sides : Int32} {c_draft_balls : Nat → Int32} {c_draft_choiceWorth : Nat → Int32} {c_draft_placeWorth : Nat → Int32} {c_draft_strength : Nat → Int32} {c_draft_wheel : Nat → Int32} {v_tape_length : Int32} {v_tape_next : Int32} {c_tape_bytes : Nat → Int32} {c_tape_meaning : Nat → Int32} {c_tape_start : Nat → Int32} {c_tape_token : Nat → Int32} {c_told : Nat → Int32} {v_fault : Int32} {v_hasRule : Int32} {v_hasSides : Int32} {v_isBehind : Int32} {v_place : Int32} {v_readGames : Int32} {v_spot : Int32} {v_taped : Int32} {v_token : Int32} {v_toldOnes : Int32} {v_value : Int32} {v_wrong : Int32} {v_wrongAt : Int32} {c_cuts : Nat → Int32} {c_firsts : Nat → Int32} {c_goes : Nat → Int32} {c_holds : Nat → Int32} {c_kinds : Nat → Int32} {c_letters : Nat → Int32} {c_many : Nat → Int32} {c_readFirst : Nat → Int32} {c_readSecond : Nat → Int32} {c_reads : Nat → Int32} {c_seconds : Nat → Int32} {c_tape : Nat → Int32}
variable {N t T k B ib r l : Nat} {tp H m : Nat → Nat}
theorem kS_end (h : kK t tp k = 0) : kS t tp k = t := by
  have h1 := (tK_0 t tp (ps t tp k)).mp h
  have h2 := kS_le t tp k
  have h3 : t ≤ tS t tp (ps t tp k) := by
    apply Decidable.byContradiction
    intro c
    unfold tR at h1
    rw [if_neg c] at h1
    split at h1
    · omega
    · split at h1
      · omega
      · split at h1 <;> omega
  unfold kS at h2 ⊢; omega
theorem textEnd {fu fu2 : Nat} (hN : 1000 ≤ N) (hT : Tk t tp T c_tape_meaning c_tape_start c_tape_token) (ht : t ≤ 240) (h256 : ∀ k, k < 240 → tp k < 256) (hb : ∀ k, k < t → c_tape k = jI (tp k)) (hcu : Cu c_cuts c_letters) (hkd : ∀ n, n < 11 → c_kinds n = kdN n) (hk : k = T) (hl : 2 * l ≤ k) (hL : Ld H m B ib r) (hC : Lc H m r v_draft_kind v_draft_rounds v_draft_sides c_draft_balls c_draft_choiceWorth c_draft_placeWorth c_draft_strength c_draft_wheel c_told) (hM : Lm H m B ib r v_hasRule v_hasSides v_isBehind v_readGames v_toldOnes c_readFirst c_readSecond c_reads) (hA : At t tp k v_place v_spot v_token v_value v_wrong v_wrongAt) : Ok ((fX1_takeAll_55 N v_tape_length c_tape_bytes (fu + 1) (jI k) (jI 0) v_flawPlace (jI l) v_draft_kind v_draft_rounds v_draft_sides c_draft_balls c_draft_choiceWorth c_draft_placeWorth c_draft_strength c_draft_wheel v_tape_next c_tape_meaning c_tape_start c_tape_token c_told)) (fun a => Ok ((fX9_text_108 N c_cuts c_kinds c_letters c_tape (fu2 + 1) (jI l) v_fault v_hasRule v_hasSides v_isBehind v_place v_readGames v_spot (jI t) v_token v_toldOnes v_value v_wrong v_wrongAt c_firsts c_goes c_holds c_many c_readFirst c_readSecond c_reads c_seconds)) (fun b => TxQ c_firsts c_goes c_holds c_many c_seconds a b)) := by
  have hT' := hT
  obtain ⟨T1, T2, T3, T4⟩ := hT'
  subst hk
  have h0 : kK t tp k = 0 := T2
  obtain ⟨a1, a2, a3, a4, a5⟩ := hA.1 (by omega)
  subst a1 a2 a3 a4 a5
  rw [h0]
  have et : c_tape_token k = jI 0 := by rw [(T4 k (by omega)).1]; exact congrArg jI h0
  have es : c_tape_start k = jI (kS t tp k) := (T4 k (by omega)).2.1
  have hR := hL.1
  have hfit := fitsX (N := N) (t := t) (tp := tp) (T := k) (v_flaw := jI 0) (v_flawPlace := v_flawPlace) (by omega) hR hC.1 (by omega) es
  have hwh := isWholeM (N := N) (by omega) hR hM.2.2.2.2.2.2
  have hsl := kS_end h0
  by_cases hbad : Bad H
  · have f1 := hfit.2 hbad
    have f2 := hwh.2 hbad
    rw [fX1_takeAll_55]
    simp (disch := omega) only [jI_0, jI_1, jI_2, jI_3, jI_4, jI_5, jI_6, jI_7, jI_8, jI_9, jI_10, jI_11, jI_12, jI_13, jI_14, jI_15, jI_16, jI_20, jI_24, jI_26, jI_30, jI_31, jI_32, jI_40, jI_48, jI_56, jI_57, jI_59, jI_60, jI_97, jI_99, jI_122, jI_160, jI_240, jI_255, jI_768, jI_1000, ↓jN_1, ↓jN_2, ↓jN_3, ↓jN_4, ↓jN_8, ↓jN_10, ↓jN_11, ↓jN_12, ↓jN_14, ↓jN_20, jI_addN, jI_le, jI_lt, jI_eq, jI_cl, jI_in, jI_add, jI_sub, jI_eqN, gI_eqI, gI_eqN, gI_leI, gI_ltI, jI_leN, jI_ltN, gI_sub, pif_tt, pif_ff, pg_tt, isB, or_true, true_or, pif_T, pif_F, pg_T, pb_Q, upd_e, upd_n, et, fX1_takeAll_106, f1]
    refine Ok.s ?_
    rw [fX9_text_108]
    simp (disch := omega) only [jI_0, jI_1, jI_2, jI_3, jI_4, jI_5, jI_6, jI_7, jI_8, jI_9, jI_10, jI_11, jI_12, jI_13, jI_14, jI_15, jI_16, jI_20, jI_24, jI_26, jI_30, jI_31, jI_32, jI_40, jI_48, jI_56, jI_57, jI_59, jI_60, jI_97, jI_99, jI_122, jI_160, jI_240, jI_255, jI_768, jI_1000, ↓jN_1, ↓jN_2, ↓jN_3, ↓jN_4, ↓jN_8, ↓jN_10, ↓jN_11, ↓jN_12, ↓jN_14, ↓jN_20, jI_addN, jI_le, jI_lt, jI_eq, jI_cl, jI_in, jI_add, jI_sub, jI_eqN, gI_eqI, gI_eqN, gI_leI, gI_ltI, jI_leN, jI_ltN, gI_sub, pif_tt, pif_ff, pg_tt, isB, or_true, true_or, pif_T, pif_F, pg_T, pb_Q, upd_e, upd_n, fX9_text_132, f2, failM, text_160W]
    exact Ok.s (Or.inl ⟨6, t, by omega, by omega, ht, rfl, rfl, congrArg jI hsl, rfl, rfl, rfl, rfl, rfl, rfl, rfl, rfl⟩)
  · have f1 := hfit.1 hbad
    have f2 := hwh.1 hbad
    have hz := hL.2.2.1
    have hg := hM.2.2.2.2.2.1
    have hrg := hM.2.2.2.1
    have hrd := hM.2.2.2.2.2.2
    rw [fX1_takeAll_55]
    simp (disch := omega) only [jI_0, jI_1, jI_2, jI_3, jI_4, jI_5, jI_6, jI_7, jI_8, jI_9, jI_10, jI_11, jI_12, jI_13, jI_14, jI_15, jI_16, jI_20, jI_24, jI_26, jI_30, jI_31, jI_32, jI_40, jI_48, jI_56, jI_57, jI_59, jI_60, jI_97, jI_99, jI_122, jI_160, jI_240, jI_255, jI_768, jI_1000, ↓jN_1, ↓jN_2, ↓jN_3, ↓jN_4, ↓jN_8, ↓jN_10, ↓jN_11, ↓jN_12, ↓jN_14, ↓jN_20, jI_addN, jI_le, jI_lt, jI_eq, jI_cl, jI_in, jI_add, jI_sub, jI_eqN, gI_eqI, gI_eqN, gI_leI, gI_ltI, jI_leN, jI_ltN, gI_sub, pif_tt, pif_ff, pg_tt, isB, or_true, true_or, pif_T, pif_F, pg_T, pb_Q, upd_e, upd_n, et, fX1_takeAll_106, f1]
    refine Ok.s ?_
    rw [fX9_text_108]
    simp (disch := omega) only [jI_0, jI_1, jI_2, jI_3, jI_4, jI_5, jI_6, jI_7, jI_8, jI_9, jI_10, jI_11, jI_12, jI_13, jI_14, jI_15, jI_16, jI_20, jI_24, jI_26, jI_30, jI_31, jI_32, jI_40, jI_48, jI_56, jI_57, jI_59, jI_60, jI_97, jI_99, jI_122, jI_160, jI_240, jI_255, jI_768, jI_1000, ↓jN_1, ↓jN_2, ↓jN_3, ↓jN_4, ↓jN_8, ↓jN_10, ↓jN_11, ↓jN_12, ↓jN_14, ↓jN_20, jI_addN, jI_le, jI_lt, jI_eq, jI_cl, jI_in, jI_add, jI_sub, jI_eqN, gI_eqI, gI_eqN, gI_leI, gI_ltI, jI_leN, jI_ltN, gI_sub, pif_tt, pif_ff, pg_tt, isB, or_true, true_or, pif_T, pif_F, pg_T, pb_Q, upd_e, upd_n, fX9_text_132, f2]
    rw [hrg]
    refine (text_160M (N := N) (H := H) (l := l) (by omega) hz hg hrd).mono (fun b hb2 => Or.inr ⟨H, r, l, Rr_ok hR hbad, hz, rfl, rfl, rfl, hC.2.1, hC.1, hb2⟩)
theorem textBad {fu fu2 : Nat} (hN : 1000 ≤ N) (hT : Tk t tp T c_tape_meaning c_tape_start c_tape_token) (ht : t ≤ 240) (h256 : ∀ k, k < 240 → tp k < 256) (hb : ∀ k, k < t → c_tape k = jI (tp k)) (hcu : Cu c_cuts c_letters) (hkd : ∀ n, n < 11 → c_kinds n = kdN n) (hk : k < T) (hl : 2 * l ≤ k) (h4 : kK t tp k = 4) (hL : Ld H m B ib r) (hC : Lc H m r v_draft_kind v_draft_rounds v_draft_sides c_draft_balls c_draft_choiceWorth c_draft_placeWorth c_draft_strength c_draft_wheel c_told) (hM : Lm H m B ib r v_hasRule v_hasSides v_isBehind v_readGames v_toldOnes c_readFirst c_readSecond c_reads) (hA : At t tp k v_place v_spot v_token v_value v_wrong v_wrongAt) : Ok ((fX1_takeAll_55 N v_tape_length c_tape_bytes (fu + 1) (jI k) (jI 0) v_flawPlace (jI l) v_draft_kind v_draft_rounds v_draft_sides c_draft_balls c_draft_choiceWorth c_draft_placeWorth c_draft_strength c_draft_wheel v_tape_next c_tape_meaning c_tape_start c_tape_token c_told)) (fun a => Ok ((fX9_text_108 N c_cuts c_kinds c_letters c_tape (fu2 + 1) (jI l) v_fault v_hasRule v_hasSides v_isBehind v_place v_readGames v_spot (jI t) v_token v_toldOnes v_value v_wrong v_wrongAt c_firsts c_goes c_holds c_many c_readFirst c_readSecond c_reads c_seconds)) (fun b => TxQ c_firsts c_goes c_holds c_many c_seconds a b)) := by
  have hT' := hT
  obtain ⟨T1, T2, T3, T4⟩ := hT'
  obtain ⟨a1, a2⟩ := hA.2 h4
  subst a1 a2
  have hsl := kS_le t tp k
  have et : c_tape_token k = jI 4 := by rw [(T4 k (by omega)).1]; exact congrArg jI h4
  have c1 : cD t tp k 1 = 1 := by unfold cD; rw [if_pos h4]
  have d := (dueX (N := N) (v_flaw := jI 0) (v_flawPlace := v_flawPlace) (k := k) (x := 1) hT ht (by omega) (by omega)).2 (by omega)
  rw [c1] at d
  rw [fX1_takeAll_55]
  simp (disch := omega) only [jI_0, jI_1, jI_2, jI_3, jI_4, jI_5, jI_6, jI_7, jI_8, jI_9, jI_10, jI_11, jI_12, jI_13, jI_14, jI_15, jI_16, jI_20, jI_24, jI_26, jI_30, jI_31, jI_32, jI_40, jI_48, jI_56, jI_57, jI_59, jI_60, jI_97, jI_99, jI_122, jI_160, jI_240, jI_255, jI_768, jI_1000, ↓jN_1, ↓jN_2, ↓jN_3, ↓jN_4, ↓jN_8, ↓jN_10, ↓jN_11, ↓jN_12, ↓jN_14, ↓jN_20, jI_addN, jI_le, jI_lt, jI_eq, jI_cl, jI_in, jI_add, jI_sub, jI_eqN, gI_eqI, gI_eqN, gI_leI, gI_ltI, jI_leN, jI_ltN, gI_sub, pif_tt, pif_ff, pg_tt, isB, or_true, true_or, pif_T, pif_F, pg_T, pb_Q, upd_e, upd_n, et, fX1_takeLine, d]
  refine Ok.s ?_
  rw [fX9_text_108]
  simp (disch := omega) only [jI_0, jI_1, jI_2, jI_3, jI_4, jI_5, jI_6, jI_7, jI_8, jI_9, jI_10, jI_11, jI_12, jI_13, jI_14, jI_15, jI_16, jI_20, jI_24, jI_26, jI_30, jI_31, jI_32, jI_40, jI_48, jI_56, jI_57, jI_59, jI_60, jI_97, jI_99, jI_122, jI_160, jI_240, jI_255, jI_768, jI_1000, ↓jN_1, ↓jN_2, ↓jN_3, ↓jN_4, ↓jN_8, ↓jN_10, ↓jN_11, ↓jN_12, ↓jN_14, ↓jN_20, jI_addN, jI_le, jI_lt, jI_eq, jI_cl, jI_in, jI_add, jI_sub, jI_eqN, gI_eqI, gI_eqN, gI_leI, gI_ltI, jI_leN, jI_ltN, gI_sub, pif_tt, pif_ff, pg_tt, isB, or_true, true_or, pif_T, pif_F, pg_T, pb_Q, upd_e, upd_n, text_132W]
  exact Ok.s (Or.inl ⟨1, kS t tp k, by omega, by omega, by omega, rfl, rfl, rfl, rfl, rfl, rfl, rfl, rfl, rfl, rfl, rfl⟩)
end
