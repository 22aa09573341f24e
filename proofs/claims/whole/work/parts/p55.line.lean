/-! TEXT: the lines of pairs. -/
section
variable {v_at : Int32} {v_flaw : Int32} {v_flawPlace : Int32} {v_draft_kind : Int32} {v_draft_rounds : Int32} {v_draft_sides : Int32} {c_draft_balls : Nat → Int32} {c_draft_choiceWorth : Nat → Int32} {c_draft_placeWorth : Nat → Int32} {c_draft_strength : Nat → Int32} {c_draft_wheel : Nat → Int32} {c_tape_meaning : Nat → Int32} {c_tape_start : Nat → Int32} {c_tape_token : Nat → Int32} {c_told : Nat → Int32} {v_hasRule : Int32} {v_hasSides : Int32} {v_isBehind : Int32} {v_place : Int32} {v_readGames : Int32} {v_spot : Int32} {v_taped : Int32} {v_token : Int32} {v_toldOnes : Int32} {v_value : Int32} {v_wrong : Int32} {v_wrongAt : Int32} {c_cuts : Nat → Int32} {c_kinds : Nat → Int32} {c_letters : Nat → Int32} {c_readFirst : Nat → Int32} {c_readSecond : Nat → Int32} {c_reads : Nat → Int32} {c_tape : Nat → Int32}
variable {N t T k B ib r : Nat} {tp H m : Nat → Nat}
theorem line_pair_0 (hN : 1000 ≤ N) (hT : Tk t tp T c_tape_meaning c_tape_start c_tape_token) (ht : t ≤ 240) (h256 : ∀ k, k < 240 → tp k < 256) (hb : ∀ k, k < t → c_tape k = jI (tp k)) (hcu : Cu c_cuts c_letters) (hk : k < T) (hL : Ld H m B ib r) (hC : Lc H m r v_draft_kind v_draft_rounds v_draft_sides c_draft_balls c_draft_choiceWorth c_draft_placeWorth c_draft_strength c_draft_wheel c_told) (hM : Lm H m B ib r v_hasRule v_hasSides v_isBehind v_readGames v_toldOnes c_readFirst c_readSecond c_reads) (hK : kK t tp k = 1) (hV : kV t tp k = 1) : Ok ((fX1_takeLine N (jI k) v_flaw v_flawPlace v_draft_kind v_draft_rounds v_draft_sides c_draft_balls c_draft_choiceWorth c_draft_placeWorth c_draft_strength c_draft_wheel c_tape_meaning c_tape_start c_tape_token c_told)) (fun a => Ok ((fX9_readLine N v_hasRule v_hasSides v_isBehind (jI (kS t tp k)) v_readGames (jI (ps t tp (k + 1))) (jI t) (jI 1) v_toldOnes (jI 1) (jI 0) v_wrongAt c_cuts c_kinds c_letters c_readFirst c_readSecond c_reads c_tape)) (fun b => LQ t tp T k v_flaw a b)) := by
  have hM' := hM
  obtain ⟨⟨rfl, rfl, hrow⟩, rfl, htold⟩ := hC
  obtain ⟨rfl, rfl, rfl, rfl, rfl, hg, hR⟩ := hM
  have hL' := hL
  obtain ⟨⟨r1, r2, r3, r4, r5⟩, ⟨b1, b2, b3, b4⟩, l3, l4⟩ := hL'
  have hT' := hT
  obtain ⟨T1, T2, T3, T4⟩ := hT'
  have em : c_tape_meaning k = jI 1 := by rw [(T4 k (by omega)).2.2]; exact congrArg jI hV
  have d := (dueX (N := N) (v_flaw := v_flaw) (v_flawPlace := v_flawPlace) (k := k) (x := 1) hT ht (by omega) (by omega)).1 (by unfold cD; rw [hK]; rfl)
  have px := takePairX (N := N) (c_p2 := c_draft_strength) (v_flaw := v_flaw) (v_flawPlace := v_flawPlace) (i := 0) (j := 1) (m := m 1) (n := H 0) hT ht h256 hk (by omega) (b1 1 (by omega)) (htold 1 (by omega)) r1 r2
  obtain ⟨qm, em1, y1, y2⟩ := readPairM (N := N) (t := t) (tp := tp) (n := H 0) (k := k) (i := 0) (B := B) (v_place := jI (kS t tp k)) (v_token := jI 1) (v_value := jI 1) (v_wrongAt := v_wrongAt) hN ht h256 hb hcu (by omega) (hR 0 (by omega)) r1 r2
  obtain ⟨ceq, qeq⟩ := cP_eq (t := t) (tp := tp) (k := k) (n := H 0) (i := 0) (b := fun w => (m 1).testBit w) (b' := fun w => B.testBit (6 * 0 + w)) r2 (by omega) (fun w hw => b3 0 (by omega) w hw)
  have c7 := cP_c (t := t) (tp := tp) (k := k) (n := H 0) (i := 0) (b := fun w => B.testBit (6 * 0 + w))
  have hsl := kS_le t tp (cQ t tp k (H 0) (fun w => B.testBit (6 * 0 + w)))
  rw [ceq, qeq] at px
  rw [show (0 + 1 : Nat) = 1 from rfl] at em1
  simp only [show loN 0 = 1 from rfl, show hiN (H 0) 0 = 9 from rfl] at px
  generalize cP t tp k (H 0) 0 (fun w => B.testBit (6 * 0 + w)) = cp at *
  generalize kS t tp (cQ t tp k (H 0) (fun w => B.testBit (6 * 0 + w))) = sp at *
  obtain ⟨q1, q2, q3, q4, q5, q6, q7, q8⟩ := qm
  simp only at y1 y2
  by_cases c0 : cp = 0
  · obtain ⟨g1, g2, g3, g4, e1⟩ := px.2 c0
    obtain ⟨f1, f2, f3⟩ := y2 c0
    subst f1 f2
    generalize hw : kV t tp (k + 1) = w at *
    generalize hv : kV t tp (k + 2) = v at *
    simp (disch := omega) only [jI_0, jI_1, jI_2, jI_3, jI_4, jI_5, jI_6, jI_7, jI_8, jI_9, jI_10, jI_11, jI_12, jI_13, jI_14, jI_15, jI_16, jI_20, jI_24, jI_26, jI_30, jI_31, jI_32, jI_40, jI_48, jI_56, jI_57, jI_59, jI_60, jI_97, jI_99, jI_122, jI_160, jI_240, jI_255, jI_768, jI_1000, ↓jN_1, ↓jN_2, ↓jN_3, ↓jN_4, ↓jN_8, ↓jN_10, ↓jN_11, ↓jN_12, ↓jN_14, ↓jN_20, jI_addN, jI_le, jI_lt, jI_eq, jI_cl, jI_in, jI_add, jI_sub, jI_eqN, gI_eqI, gI_eqN, gI_leI, gI_ltI, jI_leN, jI_ltN, gI_sub, pif_tt, pif_ff, pg_tt, isB, or_true, true_or, pif_T, pif_F, pg_T, pb_Q, upd_e, upd_n, fX1_takeLine, d, em, e1, fX9_readLine, em1]
    refine lineEnd (e := k + 2) (H := updN H (2 + 6 * 0 + w) v) (m := updN m (wiN 0) (m (wiN 0) ||| 2 ^ w)) (B := B ||| 2 ^ (6 * 0 + w)) (ib := 1) (r := r) hN hT ht h256 hb hcu (by omega) g1 (Ld_pair (by omega) g2 g3 g4 hL) ⟨⟨by rw [updN_n (by omega)], by rw [updN_n (by omega)], fun j hj => ?_⟩, rfl, told_pair htold⟩ (Lm_pair (by omega) (by omega) hM') f3
    obtain ⟨p0, p1, p2, p3, p4⟩ := hrow j hj
    refine ⟨?_, ?_, ?_, ?_, ?_⟩
    · by_cases hc : j = w
      · rw [upd_e hc, updN_e (by omega)]
      · rw [upd_n hc, updN_n (by omega)]; exact p0
    · rw [updN_n (by omega)]; exact p1
    · rw [updN_n (by omega)]; exact p2
    · rw [updN_n (by omega)]; exact p3
    · rw [updN_n (by omega)]; exact p4
  · obtain ⟨⟨a1, a2, a3, a4, a5, a6⟩, e1, h1, h2, h3⟩ := px.1 c0
    simp only at h1 h2 h3
    obtain ⟨f1, f2⟩ := y1 c0
    subst h1 h2 h3 f1 f2
    simp (disch := omega) only [jI_0, jI_1, jI_2, jI_3, jI_4, jI_5, jI_6, jI_7, jI_8, jI_9, jI_10, jI_11, jI_12, jI_13, jI_14, jI_15, jI_16, jI_20, jI_24, jI_26, jI_30, jI_31, jI_32, jI_40, jI_48, jI_56, jI_57, jI_59, jI_60, jI_97, jI_99, jI_122, jI_160, jI_240, jI_255, jI_768, jI_1000, ↓jN_1, ↓jN_2, ↓jN_3, ↓jN_4, ↓jN_8, ↓jN_10, ↓jN_11, ↓jN_12, ↓jN_14, ↓jN_20, jI_addN, jI_le, jI_lt, jI_eq, jI_cl, jI_in, jI_add, jI_sub, jI_eqN, gI_eqI, gI_eqN, gI_leI, gI_ltI, jI_leN, jI_ltN, gI_sub, pif_tt, pif_ff, pg_tt, isB, or_true, true_or, pif_T, pif_F, pg_T, pb_Q, upd_e, upd_n, fX1_takeLine, d, em, e1, fX9_readLine, em1]
    exact lineBad (by omega) (by omega) hsl
theorem line_pair_1 (hN : 1000 ≤ N) (hT : Tk t tp T c_tape_meaning c_tape_start c_tape_token) (ht : t ≤ 240) (h256 : ∀ k, k < 240 → tp k < 256) (hb : ∀ k, k < t → c_tape k = jI (tp k)) (hcu : Cu c_cuts c_letters) (hk : k < T) (hL : Ld H m B ib r) (hC : Lc H m r v_draft_kind v_draft_rounds v_draft_sides c_draft_balls c_draft_choiceWorth c_draft_placeWorth c_draft_strength c_draft_wheel c_told) (hM : Lm H m B ib r v_hasRule v_hasSides v_isBehind v_readGames v_toldOnes c_readFirst c_readSecond c_reads) (hK : kK t tp k = 1) (hV : kV t tp k = 2) : Ok ((fX1_takeLine N (jI k) v_flaw v_flawPlace v_draft_kind v_draft_rounds v_draft_sides c_draft_balls c_draft_choiceWorth c_draft_placeWorth c_draft_strength c_draft_wheel c_tape_meaning c_tape_start c_tape_token c_told)) (fun a => Ok ((fX9_readLine N v_hasRule v_hasSides v_isBehind (jI (kS t tp k)) v_readGames (jI (ps t tp (k + 1))) (jI t) (jI 1) v_toldOnes (jI 2) (jI 0) v_wrongAt c_cuts c_kinds c_letters c_readFirst c_readSecond c_reads c_tape)) (fun b => LQ t tp T k v_flaw a b)) := by
  have hM' := hM
  obtain ⟨⟨rfl, rfl, hrow⟩, rfl, htold⟩ := hC
  obtain ⟨rfl, rfl, rfl, rfl, rfl, hg, hR⟩ := hM
  have hL' := hL
  obtain ⟨⟨r1, r2, r3, r4, r5⟩, ⟨b1, b2, b3, b4⟩, l3, l4⟩ := hL'
  have hT' := hT
  obtain ⟨T1, T2, T3, T4⟩ := hT'
  have em : c_tape_meaning k = jI 2 := by rw [(T4 k (by omega)).2.2]; exact congrArg jI hV
  have d := (dueX (N := N) (v_flaw := v_flaw) (v_flawPlace := v_flawPlace) (k := k) (x := 1) hT ht (by omega) (by omega)).1 (by unfold cD; rw [hK]; rfl)
  have px := takePairX (N := N) (c_p2 := c_draft_placeWorth) (v_flaw := v_flaw) (v_flawPlace := v_flawPlace) (i := 1) (j := 2) (m := m 2) (n := H 0) hT ht h256 hk (by omega) (b1 2 (by omega)) (htold 2 (by omega)) r1 r2
  obtain ⟨qm, em1, y1, y2⟩ := readPairM (N := N) (t := t) (tp := tp) (n := H 0) (k := k) (i := 1) (B := B) (v_place := jI (kS t tp k)) (v_token := jI 1) (v_value := jI 2) (v_wrongAt := v_wrongAt) hN ht h256 hb hcu (by omega) (hR 0 (by omega)) r1 r2
  obtain ⟨ceq, qeq⟩ := cP_eq (t := t) (tp := tp) (k := k) (n := H 0) (i := 1) (b := fun w => (m 2).testBit w) (b' := fun w => B.testBit (6 * 1 + w)) r2 (by omega) (fun w hw => b3 1 (by omega) w hw)
  have c7 := cP_c (t := t) (tp := tp) (k := k) (n := H 0) (i := 1) (b := fun w => B.testBit (6 * 1 + w))
  have hsl := kS_le t tp (cQ t tp k (H 0) (fun w => B.testBit (6 * 1 + w)))
  rw [ceq, qeq] at px
  rw [show (1 + 1 : Nat) = 2 from rfl] at em1
  simp only [show loN 1 = 0 from rfl, show hiN (H 0) 1 = 99 from rfl] at px
  generalize cP t tp k (H 0) 1 (fun w => B.testBit (6 * 1 + w)) = cp at *
  generalize kS t tp (cQ t tp k (H 0) (fun w => B.testBit (6 * 1 + w))) = sp at *
  obtain ⟨q1, q2, q3, q4, q5, q6, q7, q8⟩ := qm
  simp only at y1 y2
  by_cases c0 : cp = 0
  · obtain ⟨g1, g2, g3, g4, e1⟩ := px.2 c0
    obtain ⟨f1, f2, f3⟩ := y2 c0
    subst f1 f2
    generalize hw : kV t tp (k + 1) = w at *
    generalize hv : kV t tp (k + 2) = v at *
    simp (disch := omega) only [jI_0, jI_1, jI_2, jI_3, jI_4, jI_5, jI_6, jI_7, jI_8, jI_9, jI_10, jI_11, jI_12, jI_13, jI_14, jI_15, jI_16, jI_20, jI_24, jI_26, jI_30, jI_31, jI_32, jI_40, jI_48, jI_56, jI_57, jI_59, jI_60, jI_97, jI_99, jI_122, jI_160, jI_240, jI_255, jI_768, jI_1000, ↓jN_1, ↓jN_2, ↓jN_3, ↓jN_4, ↓jN_8, ↓jN_10, ↓jN_11, ↓jN_12, ↓jN_14, ↓jN_20, jI_addN, jI_le, jI_lt, jI_eq, jI_cl, jI_in, jI_add, jI_sub, jI_eqN, gI_eqI, gI_eqN, gI_leI, gI_ltI, jI_leN, jI_ltN, gI_sub, pif_tt, pif_ff, pg_tt, isB, or_true, true_or, pif_T, pif_F, pg_T, pb_Q, upd_e, upd_n, fX1_takeLine, d, em, e1, fX9_readLine, em1]
    refine lineEnd (e := k + 2) (H := updN H (2 + 6 * 1 + w) v) (m := updN m (wiN 1) (m (wiN 1) ||| 2 ^ w)) (B := B ||| 2 ^ (6 * 1 + w)) (ib := 1) (r := r) hN hT ht h256 hb hcu (by omega) g1 (Ld_pair (by omega) g2 g3 g4 hL) ⟨⟨by rw [updN_n (by omega)], by rw [updN_n (by omega)], fun j hj => ?_⟩, rfl, told_pair htold⟩ (Lm_pair (by omega) (by omega) hM') f3
    obtain ⟨p0, p1, p2, p3, p4⟩ := hrow j hj
    refine ⟨?_, ?_, ?_, ?_, ?_⟩
    · rw [updN_n (by omega)]; exact p0
    · by_cases hc : j = w
      · rw [upd_e hc, updN_e (by omega)]
      · rw [upd_n hc, updN_n (by omega)]; exact p1
    · rw [updN_n (by omega)]; exact p2
    · rw [updN_n (by omega)]; exact p3
    · rw [updN_n (by omega)]; exact p4
  · obtain ⟨⟨a1, a2, a3, a4, a5, a6⟩, e1, h1, h2, h3⟩ := px.1 c0
    simp only at h1 h2 h3
    obtain ⟨f1, f2⟩ := y1 c0
    subst h1 h2 h3 f1 f2
    simp (disch := omega) only [jI_0, jI_1, jI_2, jI_3, jI_4, jI_5, jI_6, jI_7, jI_8, jI_9, jI_10, jI_11, jI_12, jI_13, jI_14, jI_15, jI_16, jI_20, jI_24, jI_26, jI_30, jI_31, jI_32, jI_40, jI_48, jI_56, jI_57, jI_59, jI_60, jI_97, jI_99, jI_122, jI_160, jI_240, jI_255, jI_768, jI_1000, ↓jN_1, ↓jN_2, ↓jN_3, ↓jN_4, ↓jN_8, ↓jN_10, ↓jN_11, ↓jN_12, ↓jN_14, ↓jN_20, jI_addN, jI_le, jI_lt, jI_eq, jI_cl, jI_in, jI_add, jI_sub, jI_eqN, gI_eqI, gI_eqN, gI_leI, gI_ltI, jI_leN, jI_ltN, gI_sub, pif_tt, pif_ff, pg_tt, isB, or_true, true_or, pif_T, pif_F, pg_T, pb_Q, upd_e, upd_n, fX1_takeLine, d, em, e1, fX9_readLine, em1]
    exact lineBad (by omega) (by omega) hsl
theorem line_pair_2 (hN : 1000 ≤ N) (hT : Tk t tp T c_tape_meaning c_tape_start c_tape_token) (ht : t ≤ 240) (h256 : ∀ k, k < 240 → tp k < 256) (hb : ∀ k, k < t → c_tape k = jI (tp k)) (hcu : Cu c_cuts c_letters) (hk : k < T) (hL : Ld H m B ib r) (hC : Lc H m r v_draft_kind v_draft_rounds v_draft_sides c_draft_balls c_draft_choiceWorth c_draft_placeWorth c_draft_strength c_draft_wheel c_told) (hM : Lm H m B ib r v_hasRule v_hasSides v_isBehind v_readGames v_toldOnes c_readFirst c_readSecond c_reads) (hK : kK t tp k = 1) (hV : kV t tp k = 3) : Ok ((fX1_takeLine N (jI k) v_flaw v_flawPlace v_draft_kind v_draft_rounds v_draft_sides c_draft_balls c_draft_choiceWorth c_draft_placeWorth c_draft_strength c_draft_wheel c_tape_meaning c_tape_start c_tape_token c_told)) (fun a => Ok ((fX9_readLine N v_hasRule v_hasSides v_isBehind (jI (kS t tp k)) v_readGames (jI (ps t tp (k + 1))) (jI t) (jI 1) v_toldOnes (jI 3) (jI 0) v_wrongAt c_cuts c_kinds c_letters c_readFirst c_readSecond c_reads c_tape)) (fun b => LQ t tp T k v_flaw a b)) := by
  have hM' := hM
  obtain ⟨⟨rfl, rfl, hrow⟩, rfl, htold⟩ := hC
  obtain ⟨rfl, rfl, rfl, rfl, rfl, hg, hR⟩ := hM
  have hL' := hL
  obtain ⟨⟨r1, r2, r3, r4, r5⟩, ⟨b1, b2, b3, b4⟩, l3, l4⟩ := hL'
  have hT' := hT
  obtain ⟨T1, T2, T3, T4⟩ := hT'
  have em : c_tape_meaning k = jI 3 := by rw [(T4 k (by omega)).2.2]; exact congrArg jI hV
  have d := (dueX (N := N) (v_flaw := v_flaw) (v_flawPlace := v_flawPlace) (k := k) (x := 1) hT ht (by omega) (by omega)).1 (by unfold cD; rw [hK]; rfl)
  have px := takePairX (N := N) (c_p2 := c_draft_choiceWorth) (v_flaw := v_flaw) (v_flawPlace := v_flawPlace) (i := 2) (j := 3) (m := m 3) (n := H 0) hT ht h256 hk (by omega) (b1 3 (by omega)) (htold 3 (by omega)) r1 r2
  obtain ⟨qm, em1, y1, y2⟩ := readPairM (N := N) (t := t) (tp := tp) (n := H 0) (k := k) (i := 2) (B := B) (v_place := jI (kS t tp k)) (v_token := jI 1) (v_value := jI 3) (v_wrongAt := v_wrongAt) hN ht h256 hb hcu (by omega) (hR 0 (by omega)) r1 r2
  obtain ⟨ceq, qeq⟩ := cP_eq (t := t) (tp := tp) (k := k) (n := H 0) (i := 2) (b := fun w => (m 3).testBit w) (b' := fun w => B.testBit (6 * 2 + w)) r2 (by omega) (fun w hw => b3 2 (by omega) w hw)
  have c7 := cP_c (t := t) (tp := tp) (k := k) (n := H 0) (i := 2) (b := fun w => B.testBit (6 * 2 + w))
  have hsl := kS_le t tp (cQ t tp k (H 0) (fun w => B.testBit (6 * 2 + w)))
  rw [ceq, qeq] at px
  rw [show (2 + 1 : Nat) = 3 from rfl] at em1
  simp only [show loN 2 = 0 from rfl, show hiN (H 0) 2 = 99 from rfl] at px
  generalize cP t tp k (H 0) 2 (fun w => B.testBit (6 * 2 + w)) = cp at *
  generalize kS t tp (cQ t tp k (H 0) (fun w => B.testBit (6 * 2 + w))) = sp at *
  obtain ⟨q1, q2, q3, q4, q5, q6, q7, q8⟩ := qm
  simp only at y1 y2
  by_cases c0 : cp = 0
  · obtain ⟨g1, g2, g3, g4, e1⟩ := px.2 c0
    obtain ⟨f1, f2, f3⟩ := y2 c0
    subst f1 f2
    generalize hw : kV t tp (k + 1) = w at *
    generalize hv : kV t tp (k + 2) = v at *
    simp (disch := omega) only [jI_0, jI_1, jI_2, jI_3, jI_4, jI_5, jI_6, jI_7, jI_8, jI_9, jI_10, jI_11, jI_12, jI_13, jI_14, jI_15, jI_16, jI_20, jI_24, jI_26, jI_30, jI_31, jI_32, jI_40, jI_48, jI_56, jI_57, jI_59, jI_60, jI_97, jI_99, jI_122, jI_160, jI_240, jI_255, jI_768, jI_1000, ↓jN_1, ↓jN_2, ↓jN_3, ↓jN_4, ↓jN_8, ↓jN_10, ↓jN_11, ↓jN_12, ↓jN_14, ↓jN_20, jI_addN, jI_le, jI_lt, jI_eq, jI_cl, jI_in, jI_add, jI_sub, jI_eqN, gI_eqI, gI_eqN, gI_leI, gI_ltI, jI_leN, jI_ltN, gI_sub, pif_tt, pif_ff, pg_tt, isB, or_true, true_or, pif_T, pif_F, pg_T, pb_Q, upd_e, upd_n, fX1_takeLine, d, em, e1, fX9_readLine, em1]
    refine lineEnd (e := k + 2) (H := updN H (2 + 6 * 2 + w) v) (m := updN m (wiN 2) (m (wiN 2) ||| 2 ^ w)) (B := B ||| 2 ^ (6 * 2 + w)) (ib := 1) (r := r) hN hT ht h256 hb hcu (by omega) g1 (Ld_pair (by omega) g2 g3 g4 hL) ⟨⟨by rw [updN_n (by omega)], by rw [updN_n (by omega)], fun j hj => ?_⟩, rfl, told_pair htold⟩ (Lm_pair (by omega) (by omega) hM') f3
    obtain ⟨p0, p1, p2, p3, p4⟩ := hrow j hj
    refine ⟨?_, ?_, ?_, ?_, ?_⟩
    · rw [updN_n (by omega)]; exact p0
    · rw [updN_n (by omega)]; exact p1
    · by_cases hc : j = w
      · rw [upd_e hc, updN_e (by omega)]
      · rw [upd_n hc, updN_n (by omega)]; exact p2
    · rw [updN_n (by omega)]; exact p3
    · rw [updN_n (by omega)]; exact p4
  · obtain ⟨⟨a1, a2, a3, a4, a5, a6⟩, e1, h1, h2, h3⟩ := px.1 c0
    simp only at h1 h2 h3
    obtain ⟨f1, f2⟩ := y1 c0
    subst h1 h2 h3 f1 f2
    simp (disch := omega) only [jI_0, jI_1, jI_2, jI_3, jI_4, jI_5, jI_6, jI_7, jI_8, jI_9, jI_10, jI_11, jI_12, jI_13, jI_14, jI_15, jI_16, jI_20, jI_24, jI_26, jI_30, jI_31, jI_32, jI_40, jI_48, jI_56, jI_57, jI_59, jI_60, jI_97, jI_99, jI_122, jI_160, jI_240, jI_255, jI_768, jI_1000, ↓jN_1, ↓jN_2, ↓jN_3, ↓jN_4, ↓jN_8, ↓jN_10, ↓jN_11, ↓jN_12, ↓jN_14, ↓jN_20, jI_addN, jI_le, jI_lt, jI_eq, jI_cl, jI_in, jI_add, jI_sub, jI_eqN, gI_eqI, gI_eqN, gI_leI, gI_ltI, jI_leN, jI_ltN, gI_sub, pif_tt, pif_ff, pg_tt, isB, or_true, true_or, pif_T, pif_F, pg_T, pb_Q, upd_e, upd_n, fX1_takeLine, d, em, e1, fX9_readLine, em1]
    exact lineBad (by omega) (by omega) hsl
theorem line_pair_3 (hN : 1000 ≤ N) (hT : Tk t tp T c_tape_meaning c_tape_start c_tape_token) (ht : t ≤ 240) (h256 : ∀ k, k < 240 → tp k < 256) (hb : ∀ k, k < t → c_tape k = jI (tp k)) (hcu : Cu c_cuts c_letters) (hk : k < T) (hL : Ld H m B ib r) (hC : Lc H m r v_draft_kind v_draft_rounds v_draft_sides c_draft_balls c_draft_choiceWorth c_draft_placeWorth c_draft_strength c_draft_wheel c_told) (hM : Lm H m B ib r v_hasRule v_hasSides v_isBehind v_readGames v_toldOnes c_readFirst c_readSecond c_reads) (hK : kK t tp k = 1) (hV : kV t tp k = 5) : Ok ((fX1_takeLine N (jI k) v_flaw v_flawPlace v_draft_kind v_draft_rounds v_draft_sides c_draft_balls c_draft_choiceWorth c_draft_placeWorth c_draft_strength c_draft_wheel c_tape_meaning c_tape_start c_tape_token c_told)) (fun a => Ok ((fX9_readLine N v_hasRule v_hasSides v_isBehind (jI (kS t tp k)) v_readGames (jI (ps t tp (k + 1))) (jI t) (jI 1) v_toldOnes (jI 4) (jI 0) v_wrongAt c_cuts c_kinds c_letters c_readFirst c_readSecond c_reads c_tape)) (fun b => LQ t tp T k v_flaw a b)) := by
  have hM' := hM
  obtain ⟨⟨rfl, rfl, hrow⟩, rfl, htold⟩ := hC
  obtain ⟨rfl, rfl, rfl, rfl, rfl, hg, hR⟩ := hM
  have hL' := hL
  obtain ⟨⟨r1, r2, r3, r4, r5⟩, ⟨b1, b2, b3, b4⟩, l3, l4⟩ := hL'
  have hT' := hT
  obtain ⟨T1, T2, T3, T4⟩ := hT'
  have em : c_tape_meaning k = jI 5 := by rw [(T4 k (by omega)).2.2]; exact congrArg jI hV
  have d := (dueX (N := N) (v_flaw := v_flaw) (v_flawPlace := v_flawPlace) (k := k) (x := 1) hT ht (by omega) (by omega)).1 (by unfold cD; rw [hK]; rfl)
  have px := takePairX (N := N) (c_p2 := c_draft_balls) (v_flaw := v_flaw) (v_flawPlace := v_flawPlace) (i := 3) (j := 5) (m := m 5) (n := H 0) hT ht h256 hk (by omega) (b1 5 (by omega)) (htold 5 (by omega)) r1 r2
  obtain ⟨qm, em1, y1, y2⟩ := readPairM (N := N) (t := t) (tp := tp) (n := H 0) (k := k) (i := 3) (B := B) (v_place := jI (kS t tp k)) (v_token := jI 1) (v_value := jI 4) (v_wrongAt := v_wrongAt) hN ht h256 hb hcu (by omega) (hR 0 (by omega)) r1 r2
  obtain ⟨ceq, qeq⟩ := cP_eq (t := t) (tp := tp) (k := k) (n := H 0) (i := 3) (b := fun w => (m 5).testBit w) (b' := fun w => B.testBit (6 * 3 + w)) r2 (by omega) (fun w hw => b3 3 (by omega) w hw)
  have c7 := cP_c (t := t) (tp := tp) (k := k) (n := H 0) (i := 3) (b := fun w => B.testBit (6 * 3 + w))
  have hsl := kS_le t tp (cQ t tp k (H 0) (fun w => B.testBit (6 * 3 + w)))
  rw [ceq, qeq] at px
  rw [show (3 + 1 : Nat) = 4 from rfl] at em1
  simp only [show loN 3 = 0 from rfl, show hiN (H 0) 3 = 20 from rfl] at px
  generalize cP t tp k (H 0) 3 (fun w => B.testBit (6 * 3 + w)) = cp at *
  generalize kS t tp (cQ t tp k (H 0) (fun w => B.testBit (6 * 3 + w))) = sp at *
  obtain ⟨q1, q2, q3, q4, q5, q6, q7, q8⟩ := qm
  simp only at y1 y2
  by_cases c0 : cp = 0
  · obtain ⟨g1, g2, g3, g4, e1⟩ := px.2 c0
    obtain ⟨f1, f2, f3⟩ := y2 c0
    subst f1 f2
    generalize hw : kV t tp (k + 1) = w at *
    generalize hv : kV t tp (k + 2) = v at *
    simp (disch := omega) only [jI_0, jI_1, jI_2, jI_3, jI_4, jI_5, jI_6, jI_7, jI_8, jI_9, jI_10, jI_11, jI_12, jI_13, jI_14, jI_15, jI_16, jI_20, jI_24, jI_26, jI_30, jI_31, jI_32, jI_40, jI_48, jI_56, jI_57, jI_59, jI_60, jI_97, jI_99, jI_122, jI_160, jI_240, jI_255, jI_768, jI_1000, ↓jN_1, ↓jN_2, ↓jN_3, ↓jN_4, ↓jN_8, ↓jN_10, ↓jN_11, ↓jN_12, ↓jN_14, ↓jN_20, jI_addN, jI_le, jI_lt, jI_eq, jI_cl, jI_in, jI_add, jI_sub, jI_eqN, gI_eqI, gI_eqN, gI_leI, gI_ltI, jI_leN, jI_ltN, gI_sub, pif_tt, pif_ff, pg_tt, isB, or_true, true_or, pif_T, pif_F, pg_T, pb_Q, upd_e, upd_n, fX1_takeLine, d, em, e1, fX9_readLine, em1]
    refine lineEnd (e := k + 2) (H := updN H (2 + 6 * 3 + w) v) (m := updN m (wiN 3) (m (wiN 3) ||| 2 ^ w)) (B := B ||| 2 ^ (6 * 3 + w)) (ib := 1) (r := r) hN hT ht h256 hb hcu (by omega) g1 (Ld_pair (by omega) g2 g3 g4 hL) ⟨⟨by rw [updN_n (by omega)], by rw [updN_n (by omega)], fun j hj => ?_⟩, rfl, told_pair htold⟩ (Lm_pair (by omega) (by omega) hM') f3
    obtain ⟨p0, p1, p2, p3, p4⟩ := hrow j hj
    refine ⟨?_, ?_, ?_, ?_, ?_⟩
    · rw [updN_n (by omega)]; exact p0
    · rw [updN_n (by omega)]; exact p1
    · rw [updN_n (by omega)]; exact p2
    · by_cases hc : j = w
      · rw [upd_e hc, updN_e (by omega)]
      · rw [upd_n hc, updN_n (by omega)]; exact p3
    · rw [updN_n (by omega)]; exact p4
  · obtain ⟨⟨a1, a2, a3, a4, a5, a6⟩, e1, h1, h2, h3⟩ := px.1 c0
    simp only at h1 h2 h3
    obtain ⟨f1, f2⟩ := y1 c0
    subst h1 h2 h3 f1 f2
    simp (disch := omega) only [jI_0, jI_1, jI_2, jI_3, jI_4, jI_5, jI_6, jI_7, jI_8, jI_9, jI_10, jI_11, jI_12, jI_13, jI_14, jI_15, jI_16, jI_20, jI_24, jI_26, jI_30, jI_31, jI_32, jI_40, jI_48, jI_56, jI_57, jI_59, jI_60, jI_97, jI_99, jI_122, jI_160, jI_240, jI_255, jI_768, jI_1000, ↓jN_1, ↓jN_2, ↓jN_3, ↓jN_4, ↓jN_8, ↓jN_10, ↓jN_11, ↓jN_12, ↓jN_14, ↓jN_20, jI_addN, jI_le, jI_lt, jI_eq, jI_cl, jI_in, jI_add, jI_sub, jI_eqN, gI_eqI, gI_eqN, gI_leI, gI_ltI, jI_leN, jI_ltN, gI_sub, pif_tt, pif_ff, pg_tt, isB, or_true, true_or, pif_T, pif_F, pg_T, pb_Q, upd_e, upd_n, fX1_takeLine, d, em, e1, fX9_readLine, em1]
    exact lineBad (by omega) (by omega) hsl
theorem line_pair_4 (hN : 1000 ≤ N) (hT : Tk t tp T c_tape_meaning c_tape_start c_tape_token) (ht : t ≤ 240) (h256 : ∀ k, k < 240 → tp k < 256) (hb : ∀ k, k < t → c_tape k = jI (tp k)) (hcu : Cu c_cuts c_letters) (hk : k < T) (hL : Ld H m B ib r) (hC : Lc H m r v_draft_kind v_draft_rounds v_draft_sides c_draft_balls c_draft_choiceWorth c_draft_placeWorth c_draft_strength c_draft_wheel c_told) (hM : Lm H m B ib r v_hasRule v_hasSides v_isBehind v_readGames v_toldOnes c_readFirst c_readSecond c_reads) (hK : kK t tp k = 1) (hV : kV t tp k = 6) : Ok ((fX1_takeLine N (jI k) v_flaw v_flawPlace v_draft_kind v_draft_rounds v_draft_sides c_draft_balls c_draft_choiceWorth c_draft_placeWorth c_draft_strength c_draft_wheel c_tape_meaning c_tape_start c_tape_token c_told)) (fun a => Ok ((fX9_readLine N v_hasRule v_hasSides v_isBehind (jI (kS t tp k)) v_readGames (jI (ps t tp (k + 1))) (jI t) (jI 1) v_toldOnes (jI 5) (jI 0) v_wrongAt c_cuts c_kinds c_letters c_readFirst c_readSecond c_reads c_tape)) (fun b => LQ t tp T k v_flaw a b)) := by
  have hM' := hM
  obtain ⟨⟨rfl, rfl, hrow⟩, rfl, htold⟩ := hC
  obtain ⟨rfl, rfl, rfl, rfl, rfl, hg, hR⟩ := hM
  have hL' := hL
  obtain ⟨⟨r1, r2, r3, r4, r5⟩, ⟨b1, b2, b3, b4⟩, l3, l4⟩ := hL'
  have hT' := hT
  obtain ⟨T1, T2, T3, T4⟩ := hT'
  have em : c_tape_meaning k = jI 6 := by rw [(T4 k (by omega)).2.2]; exact congrArg jI hV
  have d := (dueX (N := N) (v_flaw := v_flaw) (v_flawPlace := v_flawPlace) (k := k) (x := 1) hT ht (by omega) (by omega)).1 (by unfold cD; rw [hK]; rfl)
  have px := takePairX (N := N) (c_p2 := c_draft_wheel) (v_flaw := v_flaw) (v_flawPlace := v_flawPlace) (i := 4) (j := 6) (m := m 6) (n := H 0) hT ht h256 hk (by omega) (b1 6 (by omega)) (htold 6 (by omega)) r1 r2
  obtain ⟨qm, em1, y1, y2⟩ := readPairM (N := N) (t := t) (tp := tp) (n := H 0) (k := k) (i := 4) (B := B) (v_place := jI (kS t tp k)) (v_token := jI 1) (v_value := jI 5) (v_wrongAt := v_wrongAt) hN ht h256 hb hcu (by omega) (hR 0 (by omega)) r1 r2
  obtain ⟨ceq, qeq⟩ := cP_eq (t := t) (tp := tp) (k := k) (n := H 0) (i := 4) (b := fun w => (m 6).testBit w) (b' := fun w => B.testBit (6 * 4 + w)) r2 (by omega) (fun w hw => b3 4 (by omega) w hw)
  have c7 := cP_c (t := t) (tp := tp) (k := k) (n := H 0) (i := 4) (b := fun w => B.testBit (6 * 4 + w))
  have hsl := kS_le t tp (cQ t tp k (H 0) (fun w => B.testBit (6 * 4 + w)))
  rw [ceq, qeq] at px
  rw [show (4 + 1 : Nat) = 5 from rfl] at em1
  simp only [show loN 4 = 0 from rfl, show hiN (H 0) 4 = H 0 - 1 from rfl] at px
  generalize cP t tp k (H 0) 4 (fun w => B.testBit (6 * 4 + w)) = cp at *
  generalize kS t tp (cQ t tp k (H 0) (fun w => B.testBit (6 * 4 + w))) = sp at *
  obtain ⟨q1, q2, q3, q4, q5, q6, q7, q8⟩ := qm
  simp only at y1 y2
  by_cases c0 : cp = 0
  · obtain ⟨g1, g2, g3, g4, e1⟩ := px.2 c0
    obtain ⟨f1, f2, f3⟩ := y2 c0
    subst f1 f2
    generalize hw : kV t tp (k + 1) = w at *
    generalize hv : kV t tp (k + 2) = v at *
    simp (disch := omega) only [jI_0, jI_1, jI_2, jI_3, jI_4, jI_5, jI_6, jI_7, jI_8, jI_9, jI_10, jI_11, jI_12, jI_13, jI_14, jI_15, jI_16, jI_20, jI_24, jI_26, jI_30, jI_31, jI_32, jI_40, jI_48, jI_56, jI_57, jI_59, jI_60, jI_97, jI_99, jI_122, jI_160, jI_240, jI_255, jI_768, jI_1000, ↓jN_1, ↓jN_2, ↓jN_3, ↓jN_4, ↓jN_8, ↓jN_10, ↓jN_11, ↓jN_12, ↓jN_14, ↓jN_20, jI_addN, jI_le, jI_lt, jI_eq, jI_cl, jI_in, jI_add, jI_sub, jI_eqN, gI_eqI, gI_eqN, gI_leI, gI_ltI, jI_leN, jI_ltN, gI_sub, pif_tt, pif_ff, pg_tt, isB, or_true, true_or, pif_T, pif_F, pg_T, pb_Q, upd_e, upd_n, fX1_takeLine, d, em, e1, fX9_readLine, em1]
    refine lineEnd (e := k + 2) (H := updN H (2 + 6 * 4 + w) v) (m := updN m (wiN 4) (m (wiN 4) ||| 2 ^ w)) (B := B ||| 2 ^ (6 * 4 + w)) (ib := 1) (r := r) hN hT ht h256 hb hcu (by omega) g1 (Ld_pair (by omega) g2 g3 g4 hL) ⟨⟨by rw [updN_n (by omega)], by rw [updN_n (by omega)], fun j hj => ?_⟩, rfl, told_pair htold⟩ (Lm_pair (by omega) (by omega) hM') f3
    obtain ⟨p0, p1, p2, p3, p4⟩ := hrow j hj
    refine ⟨?_, ?_, ?_, ?_, ?_⟩
    · rw [updN_n (by omega)]; exact p0
    · rw [updN_n (by omega)]; exact p1
    · rw [updN_n (by omega)]; exact p2
    · rw [updN_n (by omega)]; exact p3
    · by_cases hc : j = w
      · rw [upd_e hc, updN_e (by omega)]
      · rw [upd_n hc, updN_n (by omega)]; exact p4
  · obtain ⟨⟨a1, a2, a3, a4, a5, a6⟩, e1, h1, h2, h3⟩ := px.1 c0
    simp only at h1 h2 h3
    obtain ⟨f1, f2⟩ := y1 c0
    subst h1 h2 h3 f1 f2
    simp (disch := omega) only [jI_0, jI_1, jI_2, jI_3, jI_4, jI_5, jI_6, jI_7, jI_8, jI_9, jI_10, jI_11, jI_12, jI_13, jI_14, jI_15, jI_16, jI_20, jI_24, jI_26, jI_30, jI_31, jI_32, jI_40, jI_48, jI_56, jI_57, jI_59, jI_60, jI_97, jI_99, jI_122, jI_160, jI_240, jI_255, jI_768, jI_1000, ↓jN_1, ↓jN_2, ↓jN_3, ↓jN_4, ↓jN_8, ↓jN_10, ↓jN_11, ↓jN_12, ↓jN_14, ↓jN_20, jI_addN, jI_le, jI_lt, jI_eq, jI_cl, jI_in, jI_add, jI_sub, jI_eqN, gI_eqI, gI_eqN, gI_leI, gI_ltI, jI_leN, jI_ltN, gI_sub, pif_tt, pif_ff, pg_tt, isB, or_true, true_or, pif_T, pif_F, pg_T, pb_Q, upd_e, upd_n, fX1_takeLine, d, em, e1, fX9_readLine, em1]
    exact lineBad (by omega) (by omega) hsl
end
