/-! TEXT: the line of the rule, what is no line; a line. -/
section
variable {v_at : Int32} {v_flaw : Int32} {v_flawPlace : Int32} {v_draft_kind : Int32} {v_draft_rounds : Int32} {v_draft_sides : Int32} {c_draft_balls : Nat → Int32} {c_draft_choiceWorth : Nat → Int32} {c_draft_placeWorth : Nat → Int32} {c_draft_strength : Nat → Int32} {c_draft_wheel : Nat → Int32} {c_tape_meaning : Nat → Int32} {c_tape_start : Nat → Int32} {c_tape_token : Nat → Int32} {c_told : Nat → Int32} {v_hasRule : Int32} {v_hasSides : Int32} {v_isBehind : Int32} {v_place : Int32} {v_readGames : Int32} {v_spot : Int32} {v_taped : Int32} {v_token : Int32} {v_toldOnes : Int32} {v_value : Int32} {v_wrong : Int32} {v_wrongAt : Int32} {c_cuts : Nat → Int32} {c_kinds : Nat → Int32} {c_letters : Nat → Int32} {c_readFirst : Nat → Int32} {c_readSecond : Nat → Int32} {c_reads : Nat → Int32} {c_tape : Nat → Int32}
variable {N t T k B ib r : Nat} {tp H m : Nat → Nat}
theorem Ld_rule {x : Nat} (hx : x ≤ 4) (hL : Ld H m B ib r) : Ld (updN H 1 x) (updN m 4 1) B ib r := by
  obtain ⟨⟨r1, r2, r3, r4, r5⟩, ⟨b1, b2, b3, b4⟩, l3, l4⟩ := hL
  have u0 : updN H 1 x 0 = H 0 := updN_n (by omega)
  refine ⟨⟨by rw [u0]; exact r1, by rw [u0]; exact r2, by rw [updN_e rfl]; exact hx, fun j hj => ?_, fun j hj => ?_⟩, ⟨fun j hj => ?_, b2, fun i hi w hw => ?_, ?_⟩, by rw [u0]; exact l3, fun h => ⟨(l4 h).1, fun j hj => ?_⟩⟩
  · rw [updN_n (by omega), updN_n (by omega), updN_n (by omega), updN_n (by omega), updN_n (by omega)]; exact r4 j hj
  · rw [u0] at hj ⊢
    rw [updN_n (by omega)]; exact r5 j hj
  · by_cases hc : j = 4
    · rw [updN_e hc]; omega
    · rw [updN_n hc]; exact b1 j hj
  · have := wi_lt hi
    rw [updN_n (by omega)]; exact b3 i hi w hw
  · rw [updN_n (by omega), updN_n (by omega), updN_n (by omega), updN_n (by omega), updN_n (by omega), updN_n (by omega)]
    exact b4
  · rw [updN_n (by omega)]; exact (l4 h).2 j hj
theorem Lm_rule {x : Nat} (hM : Lm H m B ib r v_hasRule v_hasSides v_isBehind v_readGames v_toldOnes c_readFirst c_readSecond c_reads) : Lm (updN H 1 x) (updN m 4 1) B ib r (jI 1) v_hasSides v_isBehind v_readGames v_toldOnes c_readFirst c_readSecond (upd c_reads 1 (jI x)) := by
  obtain ⟨rfl, rfl, rfl, rfl, rfl, hg, hR⟩ := hM
  have u0 : updN H 1 x 0 = H 0 := updN_n (by omega)
  unfold Lm
  rw [u0, updN_e rfl, updN_n (by omega)]
  refine ⟨rfl, rfl, rfl, rfl, rfl, hg, fun k hk => ?_⟩
  by_cases hc : k = 1
  · rw [upd_e hc, updN_e hc]
  · rw [upd_n hc, updN_n hc]; exact hR k hk
theorem line_rule (hN : 1000 ≤ N) (hT : Tk t tp T c_tape_meaning c_tape_start c_tape_token) (ht : t ≤ 240) (h256 : ∀ k, k < 240 → tp k < 256) (hb : ∀ k, k < t → c_tape k = jI (tp k)) (hcu : Cu c_cuts c_letters) (hk : k < T) (hL : Ld H m B ib r) (hC : Lc H m r v_draft_kind v_draft_rounds v_draft_sides c_draft_balls c_draft_choiceWorth c_draft_placeWorth c_draft_strength c_draft_wheel c_told) (hM : Lm H m B ib r v_hasRule v_hasSides v_isBehind v_readGames v_toldOnes c_readFirst c_readSecond c_reads) (hkd : ∀ n, n < 11 → c_kinds n = kdN n) (hK : kK t tp k = 1) (hV : kV t tp k = 4) : Ok ((fX1_takeLine N (jI k) v_flaw v_flawPlace v_draft_kind v_draft_rounds v_draft_sides c_draft_balls c_draft_choiceWorth c_draft_placeWorth c_draft_strength c_draft_wheel c_tape_meaning c_tape_start c_tape_token c_told)) (fun a => Ok ((fX9_readLine N v_hasRule v_hasSides v_isBehind (jI (kS t tp k)) v_readGames (jI (ps t tp (k + 1))) (jI t) (jI 1) v_toldOnes (jI 7) (jI 0) v_wrongAt c_cuts c_kinds c_letters c_readFirst c_readSecond c_reads c_tape)) (fun b => LQ t tp T k v_flaw a b)) := by
  have hM' := hM
  obtain ⟨⟨rfl, rfl, hrow⟩, rfl, htold⟩ := hC
  obtain ⟨rfl, rfl, rfl, rfl, rfl, hg, hR⟩ := hM
  have hL' := hL
  obtain ⟨⟨r1, r2, r3, r4, r5⟩, ⟨b1, b2, b3, b4⟩, l3, l4⟩ := hL'
  have hT' := hT
  obtain ⟨T1, T2, T3, T4⟩ := hT'
  have hsl := kS_le t tp k
  have es : c_tape_start k = jI (kS t tp k) := (T4 k (by omega)).2.1
  have em : c_tape_meaning k = jI 4 := by rw [(T4 k (by omega)).2.2]; exact congrArg jI hV
  have d := (dueX (N := N) (v_flaw := v_flaw) (v_flawPlace := v_flawPlace) (k := k) (x := 1) hT ht (by omega) (by omega)).1 (by unfold cD; rw [hK]; rfl)
  have m4 := b1 4 (by omega)
  have t4 := htold 4 (by omega)
  have f4 := failX (N := N) (t := t) (tp := tp) (v_flaw := v_flaw) (v_flawPlace := v_flawPlace) (k := k) (c := 4) (by omega) es
  by_cases h40 : m 4 = 0
  · have hst := stepX (N := N) (k := k) (by omega)
    have hD := dueX (N := N) (v_flaw := v_flaw) (v_flawPlace := v_flawPlace) (k := k + 1) (x := 1) hT ht (by omega) (by omega)
    have hsl1 := kS_le t tp (k + 1)
    obtain ⟨q, e1, y1, y2⟩ := nxM (N := N) (t := t) (tp := tp) (k := k + 1) (v_place := jI (kS t tp k)) (v_token := jI 1) (v_value := jI 7) (v_wrongAt := v_wrongAt) hN ht h256 hb hcu
    by_cases c0 : cD t tp (k + 1) 1 = 0
    · have d1 := hD.1 c0
      obtain ⟨g1, g2⟩ := cD_0 c0
      have hq := y1 g2
      subst hq
      have hk1T : k + 1 < T := by
        apply Decidable.byContradiction
        intro h
        have h2 : k + 1 = T := by omega
        have : kK t tp T = 0 := T2
        rw [← h2] at this; omega
      have em2 : c_tape_meaning (k + 1) = jI (kV t tp (k + 1)) := (T4 (k + 1) (by omega)).2.2
      have es2 : c_tape_start (k + 1) = jI (kS t tp (k + 1)) := (T4 (k + 1) (by omega)).2.1
      have f2 := failX (N := N) (t := t) (tp := tp) (v_flaw := v_flaw) (v_flawPlace := v_flawPlace) (k := k + 1) (c := 2) (by omega) es2
      have hw := kV_w g1
      have hrw := kR_w g1
      rw [g1] at e1
      have hcs : kV t tp (k + 1) = 0 ∨ kV t tp (k + 1) = 1 ∨ kV t tp (k + 1) = 2 ∨ kV t tp (k + 1) = 3 ∨ kV t tp (k + 1) = 4 ∨ kV t tp (k + 1) = 5 ∨ kV t tp (k + 1) = 6 ∨ kV t tp (k + 1) = 7 ∨ kV t tp (k + 1) = 8 ∨ kV t tp (k + 1) = 9 ∨ kV t tp (k + 1) = 10 := by omega
      rcases hcs with hw | hw | hw | hw | hw | hw | hw | hw | hw | hw | hw
      · rw [hw] at em2
        rw [hrw, hw, show rwN 0 = 0 from rfl] at e1
        have hkv : c_kinds 0 = gI 4 := hkd 0 (by omega)
        simp (disch := omega) only [jI_0, jI_1, jI_2, jI_3, jI_4, jI_5, jI_6, jI_7, jI_8, jI_9, jI_10, jI_11, jI_12, jI_13, jI_14, jI_15, jI_16, jI_20, jI_24, jI_26, jI_30, jI_31, jI_32, jI_40, jI_48, jI_56, jI_57, jI_59, jI_60, jI_97, jI_99, jI_122, jI_160, jI_240, jI_255, jI_768, jI_1000, ↓jN_1, ↓jN_2, ↓jN_3, ↓jN_4, ↓jN_8, ↓jN_10, ↓jN_11, ↓jN_12, ↓jN_14, ↓jN_20, jI_addN, jI_le, jI_lt, jI_eq, jI_cl, jI_in, jI_add, jI_sub, jI_eqN, gI_eqI, gI_eqN, gI_leI, gI_ltI, jI_leN, jI_ltN, gI_sub, pif_tt, pif_ff, pg_tt, isB, or_true, true_or, pif_T, pif_F, pg_T, pb_Q, upd_e, upd_n, fX1_takeLine, d, em, fX1_takeRule, fX1_takeRule_138, t4, h40, hst, d1, em2, f2, fX9_readLine, fX9_readLine_95, e1, hkv, fX9_readLine_133, failM, fX9_readLine_138, fX9_readLine_163, nextWe]
        exact lineBad (by omega) (by omega) hsl1
      · rw [hw] at em2
        rw [hrw, hw, show rwN 1 = 1 from rfl] at e1
        have hkv : c_kinds 1 = gI 4 := hkd 1 (by omega)
        simp (disch := omega) only [jI_0, jI_1, jI_2, jI_3, jI_4, jI_5, jI_6, jI_7, jI_8, jI_9, jI_10, jI_11, jI_12, jI_13, jI_14, jI_15, jI_16, jI_20, jI_24, jI_26, jI_30, jI_31, jI_32, jI_40, jI_48, jI_56, jI_57, jI_59, jI_60, jI_97, jI_99, jI_122, jI_160, jI_240, jI_255, jI_768, jI_1000, ↓jN_1, ↓jN_2, ↓jN_3, ↓jN_4, ↓jN_8, ↓jN_10, ↓jN_11, ↓jN_12, ↓jN_14, ↓jN_20, jI_addN, jI_le, jI_lt, jI_eq, jI_cl, jI_in, jI_add, jI_sub, jI_eqN, gI_eqI, gI_eqN, gI_leI, gI_ltI, jI_leN, jI_ltN, gI_sub, pif_tt, pif_ff, pg_tt, isB, or_true, true_or, pif_T, pif_F, pg_T, pb_Q, upd_e, upd_n, fX1_takeLine, d, em, fX1_takeRule, fX1_takeRule_138, t4, h40, hst, d1, em2, f2, fX9_readLine, fX9_readLine_95, e1, hkv, fX9_readLine_133, failM, fX9_readLine_138, fX9_readLine_163, nextWe]
        exact lineBad (by omega) (by omega) hsl1
      · rw [hw] at em2
        rw [hrw, hw, show rwN 2 = 2 from rfl] at e1
        have hkv : c_kinds 2 = gI 4 := hkd 2 (by omega)
        simp (disch := omega) only [jI_0, jI_1, jI_2, jI_3, jI_4, jI_5, jI_6, jI_7, jI_8, jI_9, jI_10, jI_11, jI_12, jI_13, jI_14, jI_15, jI_16, jI_20, jI_24, jI_26, jI_30, jI_31, jI_32, jI_40, jI_48, jI_56, jI_57, jI_59, jI_60, jI_97, jI_99, jI_122, jI_160, jI_240, jI_255, jI_768, jI_1000, ↓jN_1, ↓jN_2, ↓jN_3, ↓jN_4, ↓jN_8, ↓jN_10, ↓jN_11, ↓jN_12, ↓jN_14, ↓jN_20, jI_addN, jI_le, jI_lt, jI_eq, jI_cl, jI_in, jI_add, jI_sub, jI_eqN, gI_eqI, gI_eqN, gI_leI, gI_ltI, jI_leN, jI_ltN, gI_sub, pif_tt, pif_ff, pg_tt, isB, or_true, true_or, pif_T, pif_F, pg_T, pb_Q, upd_e, upd_n, fX1_takeLine, d, em, fX1_takeRule, fX1_takeRule_138, t4, h40, hst, d1, em2, f2, fX9_readLine, fX9_readLine_95, e1, hkv, fX9_readLine_133, failM, fX9_readLine_138, fX9_readLine_163, nextWe]
        exact lineBad (by omega) (by omega) hsl1
      · rw [hw] at em2
        rw [hrw, hw, show rwN 3 = 3 from rfl] at e1
        have hkv : c_kinds 3 = gI 4 := hkd 3 (by omega)
        simp (disch := omega) only [jI_0, jI_1, jI_2, jI_3, jI_4, jI_5, jI_6, jI_7, jI_8, jI_9, jI_10, jI_11, jI_12, jI_13, jI_14, jI_15, jI_16, jI_20, jI_24, jI_26, jI_30, jI_31, jI_32, jI_40, jI_48, jI_56, jI_57, jI_59, jI_60, jI_97, jI_99, jI_122, jI_160, jI_240, jI_255, jI_768, jI_1000, ↓jN_1, ↓jN_2, ↓jN_3, ↓jN_4, ↓jN_8, ↓jN_10, ↓jN_11, ↓jN_12, ↓jN_14, ↓jN_20, jI_addN, jI_le, jI_lt, jI_eq, jI_cl, jI_in, jI_add, jI_sub, jI_eqN, gI_eqI, gI_eqN, gI_leI, gI_ltI, jI_leN, jI_ltN, gI_sub, pif_tt, pif_ff, pg_tt, isB, or_true, true_or, pif_T, pif_F, pg_T, pb_Q, upd_e, upd_n, fX1_takeLine, d, em, fX1_takeRule, fX1_takeRule_138, t4, h40, hst, d1, em2, f2, fX9_readLine, fX9_readLine_95, e1, hkv, fX9_readLine_133, failM, fX9_readLine_138, fX9_readLine_163, nextWe]
        exact lineBad (by omega) (by omega) hsl1
      · rw [hw] at em2
        rw [hrw, hw, show rwN 4 = 7 from rfl] at e1
        have hkv : c_kinds 7 = gI 4 := hkd 7 (by omega)
        simp (disch := omega) only [jI_0, jI_1, jI_2, jI_3, jI_4, jI_5, jI_6, jI_7, jI_8, jI_9, jI_10, jI_11, jI_12, jI_13, jI_14, jI_15, jI_16, jI_20, jI_24, jI_26, jI_30, jI_31, jI_32, jI_40, jI_48, jI_56, jI_57, jI_59, jI_60, jI_97, jI_99, jI_122, jI_160, jI_240, jI_255, jI_768, jI_1000, ↓jN_1, ↓jN_2, ↓jN_3, ↓jN_4, ↓jN_8, ↓jN_10, ↓jN_11, ↓jN_12, ↓jN_14, ↓jN_20, jI_addN, jI_le, jI_lt, jI_eq, jI_cl, jI_in, jI_add, jI_sub, jI_eqN, gI_eqI, gI_eqN, gI_leI, gI_ltI, jI_leN, jI_ltN, gI_sub, pif_tt, pif_ff, pg_tt, isB, or_true, true_or, pif_T, pif_F, pg_T, pb_Q, upd_e, upd_n, fX1_takeLine, d, em, fX1_takeRule, fX1_takeRule_138, t4, h40, hst, d1, em2, f2, fX9_readLine, fX9_readLine_95, e1, hkv, fX9_readLine_133, failM, fX9_readLine_138, fX9_readLine_163, nextWe]
        exact lineBad (by omega) (by omega) hsl1
      · rw [hw] at em2
        rw [hrw, hw, show rwN 5 = 4 from rfl] at e1
        have hkv : c_kinds 4 = jI 1 := hkd 4 (by omega)
        obtain ⟨q2, l1, l2, l3'⟩ := nxM (N := N) (t := t) (tp := tp) (k := k + 2) (v_place := jI (kS t tp (k + 1))) (v_token := jI 1) (v_value := jI 4) (v_wrongAt := v_wrongAt) hN ht h256 hb hcu
        simp (disch := omega) only [jI_0, jI_1, jI_2, jI_3, jI_4, jI_5, jI_6, jI_7, jI_8, jI_9, jI_10, jI_11, jI_12, jI_13, jI_14, jI_15, jI_16, jI_20, jI_24, jI_26, jI_30, jI_31, jI_32, jI_40, jI_48, jI_56, jI_57, jI_59, jI_60, jI_97, jI_99, jI_122, jI_160, jI_240, jI_255, jI_768, jI_1000, ↓jN_1, ↓jN_2, ↓jN_3, ↓jN_4, ↓jN_8, ↓jN_10, ↓jN_11, ↓jN_12, ↓jN_14, ↓jN_20, jI_addN, jI_le, jI_lt, jI_eq, jI_cl, jI_in, jI_add, jI_sub, jI_eqN, gI_eqI, gI_eqN, gI_leI, gI_ltI, jI_leN, jI_ltN, gI_sub, pif_tt, pif_ff, pg_tt, isB, or_true, true_or, pif_T, pif_F, pg_T, pb_Q, upd_e, upd_n, fX1_takeLine, d, em, fX1_takeRule, t4, h40, hst, d1, em2, fX9_readLine, fX9_readLine_95, e1, hkv, fX9_readLine_138, fX9_readLine_163, l1]
        exact lineEnd (e := k + 1) (H := updN H 1 1) (m := updN m 4 1) (B := B) (ib := ib) (r := r) hN hT ht h256 hb hcu (by omega) hk1T (Ld_rule (by omega) hL) ⟨⟨by rw [updN_e rfl], by rw [updN_n (by omega)], fun j hj => by rw [updN_n (by omega), updN_n (by omega), updN_n (by omega), updN_n (by omega), updN_n (by omega)]; exact hrow j hj⟩, rfl, told_pair htold⟩ (Lm_rule hM') ⟨fun h4 => by have := l2 h4; subst this; exact ⟨rfl, rfl, rfl, rfl, rfl⟩, l3'⟩
      · rw [hw] at em2
        rw [hrw, hw, show rwN 6 = 5 from rfl] at e1
        have hkv : c_kinds 5 = jI 3 := hkd 5 (by omega)
        obtain ⟨q2, l1, l2, l3'⟩ := nxM (N := N) (t := t) (tp := tp) (k := k + 2) (v_place := jI (kS t tp (k + 1))) (v_token := jI 1) (v_value := jI 5) (v_wrongAt := v_wrongAt) hN ht h256 hb hcu
        simp (disch := omega) only [jI_0, jI_1, jI_2, jI_3, jI_4, jI_5, jI_6, jI_7, jI_8, jI_9, jI_10, jI_11, jI_12, jI_13, jI_14, jI_15, jI_16, jI_20, jI_24, jI_26, jI_30, jI_31, jI_32, jI_40, jI_48, jI_56, jI_57, jI_59, jI_60, jI_97, jI_99, jI_122, jI_160, jI_240, jI_255, jI_768, jI_1000, ↓jN_1, ↓jN_2, ↓jN_3, ↓jN_4, ↓jN_8, ↓jN_10, ↓jN_11, ↓jN_12, ↓jN_14, ↓jN_20, jI_addN, jI_le, jI_lt, jI_eq, jI_cl, jI_in, jI_add, jI_sub, jI_eqN, gI_eqI, gI_eqN, gI_leI, gI_ltI, jI_leN, jI_ltN, gI_sub, pif_tt, pif_ff, pg_tt, isB, or_true, true_or, pif_T, pif_F, pg_T, pb_Q, upd_e, upd_n, fX1_takeLine, d, em, fX1_takeRule, t4, h40, hst, d1, em2, fX9_readLine, fX9_readLine_95, e1, hkv, fX9_readLine_138, fX9_readLine_163, l1]
        exact lineEnd (e := k + 1) (H := updN H 1 3) (m := updN m 4 1) (B := B) (ib := ib) (r := r) hN hT ht h256 hb hcu (by omega) hk1T (Ld_rule (by omega) hL) ⟨⟨by rw [updN_e rfl], by rw [updN_n (by omega)], fun j hj => by rw [updN_n (by omega), updN_n (by omega), updN_n (by omega), updN_n (by omega), updN_n (by omega)]; exact hrow j hj⟩, rfl, told_pair htold⟩ (Lm_rule hM') ⟨fun h4 => by have := l2 h4; subst this; exact ⟨rfl, rfl, rfl, rfl, rfl⟩, l3'⟩
      · rw [hw] at em2
        rw [hrw, hw, show rwN 7 = 6 from rfl] at e1
        have hkv : c_kinds 6 = gI 4 := hkd 6 (by omega)
        simp (disch := omega) only [jI_0, jI_1, jI_2, jI_3, jI_4, jI_5, jI_6, jI_7, jI_8, jI_9, jI_10, jI_11, jI_12, jI_13, jI_14, jI_15, jI_16, jI_20, jI_24, jI_26, jI_30, jI_31, jI_32, jI_40, jI_48, jI_56, jI_57, jI_59, jI_60, jI_97, jI_99, jI_122, jI_160, jI_240, jI_255, jI_768, jI_1000, ↓jN_1, ↓jN_2, ↓jN_3, ↓jN_4, ↓jN_8, ↓jN_10, ↓jN_11, ↓jN_12, ↓jN_14, ↓jN_20, jI_addN, jI_le, jI_lt, jI_eq, jI_cl, jI_in, jI_add, jI_sub, jI_eqN, gI_eqI, gI_eqN, gI_leI, gI_ltI, jI_leN, jI_ltN, gI_sub, pif_tt, pif_ff, pg_tt, isB, or_true, true_or, pif_T, pif_F, pg_T, pb_Q, upd_e, upd_n, fX1_takeLine, d, em, fX1_takeRule, fX1_takeRule_138, t4, h40, hst, d1, em2, f2, fX9_readLine, fX9_readLine_95, e1, hkv, fX9_readLine_133, failM, fX9_readLine_138, fX9_readLine_163, nextWe]
        exact lineBad (by omega) (by omega) hsl1
      · rw [hw] at em2
        rw [hrw, hw, show rwN 8 = 8 from rfl] at e1
        have hkv : c_kinds 8 = jI 0 := hkd 8 (by omega)
        obtain ⟨q2, l1, l2, l3'⟩ := nxM (N := N) (t := t) (tp := tp) (k := k + 2) (v_place := jI (kS t tp (k + 1))) (v_token := jI 1) (v_value := jI 8) (v_wrongAt := v_wrongAt) hN ht h256 hb hcu
        simp (disch := omega) only [jI_0, jI_1, jI_2, jI_3, jI_4, jI_5, jI_6, jI_7, jI_8, jI_9, jI_10, jI_11, jI_12, jI_13, jI_14, jI_15, jI_16, jI_20, jI_24, jI_26, jI_30, jI_31, jI_32, jI_40, jI_48, jI_56, jI_57, jI_59, jI_60, jI_97, jI_99, jI_122, jI_160, jI_240, jI_255, jI_768, jI_1000, ↓jN_1, ↓jN_2, ↓jN_3, ↓jN_4, ↓jN_8, ↓jN_10, ↓jN_11, ↓jN_12, ↓jN_14, ↓jN_20, jI_addN, jI_le, jI_lt, jI_eq, jI_cl, jI_in, jI_add, jI_sub, jI_eqN, gI_eqI, gI_eqN, gI_leI, gI_ltI, jI_leN, jI_ltN, gI_sub, pif_tt, pif_ff, pg_tt, isB, or_true, true_or, pif_T, pif_F, pg_T, pb_Q, upd_e, upd_n, fX1_takeLine, d, em, fX1_takeRule, t4, h40, hst, d1, em2, fX9_readLine, fX9_readLine_95, e1, hkv, fX9_readLine_138, fX9_readLine_163, l1]
        exact lineEnd (e := k + 1) (H := updN H 1 0) (m := updN m 4 1) (B := B) (ib := ib) (r := r) hN hT ht h256 hb hcu (by omega) hk1T (Ld_rule (by omega) hL) ⟨⟨by rw [updN_e rfl], by rw [updN_n (by omega)], fun j hj => by rw [updN_n (by omega), updN_n (by omega), updN_n (by omega), updN_n (by omega), updN_n (by omega)]; exact hrow j hj⟩, rfl, told_pair htold⟩ (Lm_rule hM') ⟨fun h4 => by have := l2 h4; subst this; exact ⟨rfl, rfl, rfl, rfl, rfl⟩, l3'⟩
      · rw [hw] at em2
        rw [hrw, hw, show rwN 9 = 9 from rfl] at e1
        have hkv : c_kinds 9 = jI 2 := hkd 9 (by omega)
        obtain ⟨q2, l1, l2, l3'⟩ := nxM (N := N) (t := t) (tp := tp) (k := k + 2) (v_place := jI (kS t tp (k + 1))) (v_token := jI 1) (v_value := jI 9) (v_wrongAt := v_wrongAt) hN ht h256 hb hcu
        simp (disch := omega) only [jI_0, jI_1, jI_2, jI_3, jI_4, jI_5, jI_6, jI_7, jI_8, jI_9, jI_10, jI_11, jI_12, jI_13, jI_14, jI_15, jI_16, jI_20, jI_24, jI_26, jI_30, jI_31, jI_32, jI_40, jI_48, jI_56, jI_57, jI_59, jI_60, jI_97, jI_99, jI_122, jI_160, jI_240, jI_255, jI_768, jI_1000, ↓jN_1, ↓jN_2, ↓jN_3, ↓jN_4, ↓jN_8, ↓jN_10, ↓jN_11, ↓jN_12, ↓jN_14, ↓jN_20, jI_addN, jI_le, jI_lt, jI_eq, jI_cl, jI_in, jI_add, jI_sub, jI_eqN, gI_eqI, gI_eqN, gI_leI, gI_ltI, jI_leN, jI_ltN, gI_sub, pif_tt, pif_ff, pg_tt, isB, or_true, true_or, pif_T, pif_F, pg_T, pb_Q, upd_e, upd_n, fX1_takeLine, d, em, fX1_takeRule, t4, h40, hst, d1, em2, fX9_readLine, fX9_readLine_95, e1, hkv, fX9_readLine_138, fX9_readLine_163, l1]
        exact lineEnd (e := k + 1) (H := updN H 1 2) (m := updN m 4 1) (B := B) (ib := ib) (r := r) hN hT ht h256 hb hcu (by omega) hk1T (Ld_rule (by omega) hL) ⟨⟨by rw [updN_e rfl], by rw [updN_n (by omega)], fun j hj => by rw [updN_n (by omega), updN_n (by omega), updN_n (by omega), updN_n (by omega), updN_n (by omega)]; exact hrow j hj⟩, rfl, told_pair htold⟩ (Lm_rule hM') ⟨fun h4 => by have := l2 h4; subst this; exact ⟨rfl, rfl, rfl, rfl, rfl⟩, l3'⟩
      · rw [hw] at em2
        rw [hrw, hw, show rwN 10 = 10 from rfl] at e1
        have hkv : c_kinds 10 = jI 4 := hkd 10 (by omega)
        obtain ⟨q2, l1, l2, l3'⟩ := nxM (N := N) (t := t) (tp := tp) (k := k + 2) (v_place := jI (kS t tp (k + 1))) (v_token := jI 1) (v_value := jI 10) (v_wrongAt := v_wrongAt) hN ht h256 hb hcu
        simp (disch := omega) only [jI_0, jI_1, jI_2, jI_3, jI_4, jI_5, jI_6, jI_7, jI_8, jI_9, jI_10, jI_11, jI_12, jI_13, jI_14, jI_15, jI_16, jI_20, jI_24, jI_26, jI_30, jI_31, jI_32, jI_40, jI_48, jI_56, jI_57, jI_59, jI_60, jI_97, jI_99, jI_122, jI_160, jI_240, jI_255, jI_768, jI_1000, ↓jN_1, ↓jN_2, ↓jN_3, ↓jN_4, ↓jN_8, ↓jN_10, ↓jN_11, ↓jN_12, ↓jN_14, ↓jN_20, jI_addN, jI_le, jI_lt, jI_eq, jI_cl, jI_in, jI_add, jI_sub, jI_eqN, gI_eqI, gI_eqN, gI_leI, gI_ltI, jI_leN, jI_ltN, gI_sub, pif_tt, pif_ff, pg_tt, isB, or_true, true_or, pif_T, pif_F, pg_T, pb_Q, upd_e, upd_n, fX1_takeLine, d, em, fX1_takeRule, t4, h40, hst, d1, em2, fX9_readLine, fX9_readLine_95, e1, hkv, fX9_readLine_138, fX9_readLine_163, l1]
        exact lineEnd (e := k + 1) (H := updN H 1 4) (m := updN m 4 1) (B := B) (ib := ib) (r := r) hN hT ht h256 hb hcu (by omega) hk1T (Ld_rule (by omega) hL) ⟨⟨by rw [updN_e rfl], by rw [updN_n (by omega)], fun j hj => by rw [updN_n (by omega), updN_n (by omega), updN_n (by omega), updN_n (by omega), updN_n (by omega)]; exact hrow j hj⟩, rfl, told_pair htold⟩ (Lm_rule hM') ⟨fun h4 => by have := l2 h4; subst this; exact ⟨rfl, rfl, rfl, rfl, rfl⟩, l3'⟩
    · have d1 := hD.2 c0
      obtain ⟨z1, z2, z3, z4⟩ := cD_c c0
      by_cases hk4 : kK t tp (k + 1) = 4
      · rw [z4 hk4] at d1
        obtain ⟨q1, q2, q3, q4, q5, q6⟩ := q
        obtain ⟨y3, y4⟩ := y2 hk4
        simp only at y3 y4
        subst y3 y4
        simp (disch := omega) only [jI_0, jI_1, jI_2, jI_3, jI_4, jI_5, jI_6, jI_7, jI_8, jI_9, jI_10, jI_11, jI_12, jI_13, jI_14, jI_15, jI_16, jI_20, jI_24, jI_26, jI_30, jI_31, jI_32, jI_40, jI_48, jI_56, jI_57, jI_59, jI_60, jI_97, jI_99, jI_122, jI_160, jI_240, jI_255, jI_768, jI_1000, ↓jN_1, ↓jN_2, ↓jN_3, ↓jN_4, ↓jN_8, ↓jN_10, ↓jN_11, ↓jN_12, ↓jN_14, ↓jN_20, jI_addN, jI_le, jI_lt, jI_eq, jI_cl, jI_in, jI_add, jI_sub, jI_eqN, gI_eqI, gI_eqN, gI_leI, gI_ltI, jI_leN, jI_ltN, gI_sub, pif_tt, pif_ff, pg_tt, isB, or_true, true_or, pif_T, pif_F, pg_T, pb_Q, upd_e, upd_n, fX1_takeLine, d, em, fX1_takeRule, t4, h40, hst, d1, fX9_readLine, fX9_readLine_95, e1, fX9_readLine_138, fX9_readLine_163, nextWe]
        exact lineBad (by omega) (by omega) hsl1
      · rw [z3 hk4] at d1
        have hq := y1 hk4
        subst hq
        have hne : ¬ kK t tp (k + 1) = 1 := by
          intro h3
          unfold cD at c0
          rw [if_neg hk4, if_pos h3] at c0
          omega
        have hkl := kK_le t tp (k + 1)
        generalize kK t tp (k + 1) = kk at *
        simp (disch := omega) only [jI_0, jI_1, jI_2, jI_3, jI_4, jI_5, jI_6, jI_7, jI_8, jI_9, jI_10, jI_11, jI_12, jI_13, jI_14, jI_15, jI_16, jI_20, jI_24, jI_26, jI_30, jI_31, jI_32, jI_40, jI_48, jI_56, jI_57, jI_59, jI_60, jI_97, jI_99, jI_122, jI_160, jI_240, jI_255, jI_768, jI_1000, ↓jN_1, ↓jN_2, ↓jN_3, ↓jN_4, ↓jN_8, ↓jN_10, ↓jN_11, ↓jN_12, ↓jN_14, ↓jN_20, jI_addN, jI_le, jI_lt, jI_eq, jI_cl, jI_in, jI_add, jI_sub, jI_eqN, gI_eqI, gI_eqN, gI_leI, gI_ltI, jI_leN, jI_ltN, gI_sub, pif_tt, pif_ff, pg_tt, isB, or_true, true_or, pif_T, pif_F, pg_T, pb_Q, upd_e, upd_n, fX1_takeLine, d, em, fX1_takeRule, t4, h40, hst, d1, fX9_readLine, fX9_readLine_95, e1, fX9_readLine_133, failM, fX9_readLine_138, fX9_readLine_163, nextWe]
        exact lineBad (by omega) (by omega) hsl1
  · simp (disch := omega) only [jI_0, jI_1, jI_2, jI_3, jI_4, jI_5, jI_6, jI_7, jI_8, jI_9, jI_10, jI_11, jI_12, jI_13, jI_14, jI_15, jI_16, jI_20, jI_24, jI_26, jI_30, jI_31, jI_32, jI_40, jI_48, jI_56, jI_57, jI_59, jI_60, jI_97, jI_99, jI_122, jI_160, jI_240, jI_255, jI_768, jI_1000, ↓jN_1, ↓jN_2, ↓jN_3, ↓jN_4, ↓jN_8, ↓jN_10, ↓jN_11, ↓jN_12, ↓jN_14, ↓jN_20, jI_addN, jI_le, jI_lt, jI_eq, jI_cl, jI_in, jI_add, jI_sub, jI_eqN, gI_eqI, gI_eqN, gI_leI, gI_ltI, jI_leN, jI_ltN, gI_sub, pif_tt, pif_ff, pg_tt, isB, or_true, true_or, pif_T, pif_F, pg_T, pb_Q, upd_e, upd_n, fX1_takeLine, d, em, fX1_takeRule, t4, f4, fX9_readLine, fX9_readLine_95, failM, fX9_readLine_138, fX9_readLine_163, nextWe]
    exact lineBad (by omega) (by omega) hsl
theorem line_no_8 (hN : 1000 ≤ N) (hT : Tk t tp T c_tape_meaning c_tape_start c_tape_token) (ht : t ≤ 240) (h256 : ∀ k, k < 240 → tp k < 256) (hb : ∀ k, k < t → c_tape k = jI (tp k)) (hcu : Cu c_cuts c_letters) (hk : k < T) (hL : Ld H m B ib r) (hC : Lc H m r v_draft_kind v_draft_rounds v_draft_sides c_draft_balls c_draft_choiceWorth c_draft_placeWorth c_draft_strength c_draft_wheel c_told) (hM : Lm H m B ib r v_hasRule v_hasSides v_isBehind v_readGames v_toldOnes c_readFirst c_readSecond c_reads) (hK : kK t tp k = 1) (hV : kV t tp k = 8) : Ok ((fX1_takeLine N (jI k) v_flaw v_flawPlace v_draft_kind v_draft_rounds v_draft_sides c_draft_balls c_draft_choiceWorth c_draft_placeWorth c_draft_strength c_draft_wheel c_tape_meaning c_tape_start c_tape_token c_told)) (fun a => Ok ((fX9_readLine N v_hasRule v_hasSides v_isBehind (jI (kS t tp k)) v_readGames (jI (ps t tp (k + 1))) (jI t) (jI 1) v_toldOnes (jI 8) (jI 0) v_wrongAt c_cuts c_kinds c_letters c_readFirst c_readSecond c_reads c_tape)) (fun b => LQ t tp T k v_flaw a b)) := by
  have hM' := hM
  obtain ⟨⟨rfl, rfl, hrow⟩, rfl, htold⟩ := hC
  obtain ⟨rfl, rfl, rfl, rfl, rfl, hg, hR⟩ := hM
  have hL' := hL
  obtain ⟨⟨r1, r2, r3, r4, r5⟩, ⟨b1, b2, b3, b4⟩, l3, l4⟩ := hL'
  have hT' := hT
  obtain ⟨T1, T2, T3, T4⟩ := hT'
  have hsl := kS_le t tp k
  have es : c_tape_start k = jI (kS t tp k) := (T4 k (by omega)).2.1
  have em : c_tape_meaning k = jI 8 := by rw [(T4 k (by omega)).2.2]; exact congrArg jI hV
  have d := (dueX (N := N) (v_flaw := v_flaw) (v_flawPlace := v_flawPlace) (k := k) (x := 1) hT ht (by omega) (by omega)).1 (by unfold cD; rw [hK]; rfl)
  have f2 := failX (N := N) (t := t) (tp := tp) (v_flaw := v_flaw) (v_flawPlace := v_flawPlace) (k := k) (c := 2) (by omega) es
  simp (disch := omega) only [jI_0, jI_1, jI_2, jI_3, jI_4, jI_5, jI_6, jI_7, jI_8, jI_9, jI_10, jI_11, jI_12, jI_13, jI_14, jI_15, jI_16, jI_20, jI_24, jI_26, jI_30, jI_31, jI_32, jI_40, jI_48, jI_56, jI_57, jI_59, jI_60, jI_97, jI_99, jI_122, jI_160, jI_240, jI_255, jI_768, jI_1000, ↓jN_1, ↓jN_2, ↓jN_3, ↓jN_4, ↓jN_8, ↓jN_10, ↓jN_11, ↓jN_12, ↓jN_14, ↓jN_20, jI_addN, jI_le, jI_lt, jI_eq, jI_cl, jI_in, jI_add, jI_sub, jI_eqN, gI_eqI, gI_eqN, gI_leI, gI_ltI, jI_leN, jI_ltN, gI_sub, pif_tt, pif_ff, pg_tt, isB, or_true, true_or, pif_T, pif_F, pg_T, pb_Q, upd_e, upd_n, fX1_takeLine, d, em, f2, fX1_takeLine_201, fX9_readLine, fX9_readLine_19, failM]
  exact Ok.s (Ok.s (Or.inl ⟨2, kS t tp k, by omega, by omega, hsl, rfl, rfl, rfl, rfl, rfl⟩))
theorem line_no_9 (hN : 1000 ≤ N) (hT : Tk t tp T c_tape_meaning c_tape_start c_tape_token) (ht : t ≤ 240) (h256 : ∀ k, k < 240 → tp k < 256) (hb : ∀ k, k < t → c_tape k = jI (tp k)) (hcu : Cu c_cuts c_letters) (hk : k < T) (hL : Ld H m B ib r) (hC : Lc H m r v_draft_kind v_draft_rounds v_draft_sides c_draft_balls c_draft_choiceWorth c_draft_placeWorth c_draft_strength c_draft_wheel c_told) (hM : Lm H m B ib r v_hasRule v_hasSides v_isBehind v_readGames v_toldOnes c_readFirst c_readSecond c_reads) (hK : kK t tp k = 1) (hV : kV t tp k = 9) : Ok ((fX1_takeLine N (jI k) v_flaw v_flawPlace v_draft_kind v_draft_rounds v_draft_sides c_draft_balls c_draft_choiceWorth c_draft_placeWorth c_draft_strength c_draft_wheel c_tape_meaning c_tape_start c_tape_token c_told)) (fun a => Ok ((fX9_readLine N v_hasRule v_hasSides v_isBehind (jI (kS t tp k)) v_readGames (jI (ps t tp (k + 1))) (jI t) (jI 1) v_toldOnes (jI 9) (jI 0) v_wrongAt c_cuts c_kinds c_letters c_readFirst c_readSecond c_reads c_tape)) (fun b => LQ t tp T k v_flaw a b)) := by
  have hM' := hM
  obtain ⟨⟨rfl, rfl, hrow⟩, rfl, htold⟩ := hC
  obtain ⟨rfl, rfl, rfl, rfl, rfl, hg, hR⟩ := hM
  have hL' := hL
  obtain ⟨⟨r1, r2, r3, r4, r5⟩, ⟨b1, b2, b3, b4⟩, l3, l4⟩ := hL'
  have hT' := hT
  obtain ⟨T1, T2, T3, T4⟩ := hT'
  have hsl := kS_le t tp k
  have es : c_tape_start k = jI (kS t tp k) := (T4 k (by omega)).2.1
  have em : c_tape_meaning k = jI 9 := by rw [(T4 k (by omega)).2.2]; exact congrArg jI hV
  have d := (dueX (N := N) (v_flaw := v_flaw) (v_flawPlace := v_flawPlace) (k := k) (x := 1) hT ht (by omega) (by omega)).1 (by unfold cD; rw [hK]; rfl)
  have f2 := failX (N := N) (t := t) (tp := tp) (v_flaw := v_flaw) (v_flawPlace := v_flawPlace) (k := k) (c := 2) (by omega) es
  simp (disch := omega) only [jI_0, jI_1, jI_2, jI_3, jI_4, jI_5, jI_6, jI_7, jI_8, jI_9, jI_10, jI_11, jI_12, jI_13, jI_14, jI_15, jI_16, jI_20, jI_24, jI_26, jI_30, jI_31, jI_32, jI_40, jI_48, jI_56, jI_57, jI_59, jI_60, jI_97, jI_99, jI_122, jI_160, jI_240, jI_255, jI_768, jI_1000, ↓jN_1, ↓jN_2, ↓jN_3, ↓jN_4, ↓jN_8, ↓jN_10, ↓jN_11, ↓jN_12, ↓jN_14, ↓jN_20, jI_addN, jI_le, jI_lt, jI_eq, jI_cl, jI_in, jI_add, jI_sub, jI_eqN, gI_eqI, gI_eqN, gI_leI, gI_ltI, jI_leN, jI_ltN, gI_sub, pif_tt, pif_ff, pg_tt, isB, or_true, true_or, pif_T, pif_F, pg_T, pb_Q, upd_e, upd_n, fX1_takeLine, d, em, f2, fX1_takeLine_201, fX9_readLine, fX9_readLine_19, failM]
  exact Ok.s (Ok.s (Or.inl ⟨2, kS t tp k, by omega, by omega, hsl, rfl, rfl, rfl, rfl, rfl⟩))
theorem line_no_10 (hN : 1000 ≤ N) (hT : Tk t tp T c_tape_meaning c_tape_start c_tape_token) (ht : t ≤ 240) (h256 : ∀ k, k < 240 → tp k < 256) (hb : ∀ k, k < t → c_tape k = jI (tp k)) (hcu : Cu c_cuts c_letters) (hk : k < T) (hL : Ld H m B ib r) (hC : Lc H m r v_draft_kind v_draft_rounds v_draft_sides c_draft_balls c_draft_choiceWorth c_draft_placeWorth c_draft_strength c_draft_wheel c_told) (hM : Lm H m B ib r v_hasRule v_hasSides v_isBehind v_readGames v_toldOnes c_readFirst c_readSecond c_reads) (hK : kK t tp k = 1) (hV : kV t tp k = 10) : Ok ((fX1_takeLine N (jI k) v_flaw v_flawPlace v_draft_kind v_draft_rounds v_draft_sides c_draft_balls c_draft_choiceWorth c_draft_placeWorth c_draft_strength c_draft_wheel c_tape_meaning c_tape_start c_tape_token c_told)) (fun a => Ok ((fX9_readLine N v_hasRule v_hasSides v_isBehind (jI (kS t tp k)) v_readGames (jI (ps t tp (k + 1))) (jI t) (jI 1) v_toldOnes (jI 10) (jI 0) v_wrongAt c_cuts c_kinds c_letters c_readFirst c_readSecond c_reads c_tape)) (fun b => LQ t tp T k v_flaw a b)) := by
  have hM' := hM
  obtain ⟨⟨rfl, rfl, hrow⟩, rfl, htold⟩ := hC
  obtain ⟨rfl, rfl, rfl, rfl, rfl, hg, hR⟩ := hM
  have hL' := hL
  obtain ⟨⟨r1, r2, r3, r4, r5⟩, ⟨b1, b2, b3, b4⟩, l3, l4⟩ := hL'
  have hT' := hT
  obtain ⟨T1, T2, T3, T4⟩ := hT'
  have hsl := kS_le t tp k
  have es : c_tape_start k = jI (kS t tp k) := (T4 k (by omega)).2.1
  have em : c_tape_meaning k = jI 10 := by rw [(T4 k (by omega)).2.2]; exact congrArg jI hV
  have d := (dueX (N := N) (v_flaw := v_flaw) (v_flawPlace := v_flawPlace) (k := k) (x := 1) hT ht (by omega) (by omega)).1 (by unfold cD; rw [hK]; rfl)
  have f2 := failX (N := N) (t := t) (tp := tp) (v_flaw := v_flaw) (v_flawPlace := v_flawPlace) (k := k) (c := 2) (by omega) es
  simp (disch := omega) only [jI_0, jI_1, jI_2, jI_3, jI_4, jI_5, jI_6, jI_7, jI_8, jI_9, jI_10, jI_11, jI_12, jI_13, jI_14, jI_15, jI_16, jI_20, jI_24, jI_26, jI_30, jI_31, jI_32, jI_40, jI_48, jI_56, jI_57, jI_59, jI_60, jI_97, jI_99, jI_122, jI_160, jI_240, jI_255, jI_768, jI_1000, ↓jN_1, ↓jN_2, ↓jN_3, ↓jN_4, ↓jN_8, ↓jN_10, ↓jN_11, ↓jN_12, ↓jN_14, ↓jN_20, jI_addN, jI_le, jI_lt, jI_eq, jI_cl, jI_in, jI_add, jI_sub, jI_eqN, gI_eqI, gI_eqN, gI_leI, gI_ltI, jI_leN, jI_ltN, gI_sub, pif_tt, pif_ff, pg_tt, isB, or_true, true_or, pif_T, pif_F, pg_T, pb_Q, upd_e, upd_n, fX1_takeLine, d, em, f2, fX1_takeLine_201, fX9_readLine, fX9_readLine_19, failM]
  exact Ok.s (Ok.s (Or.inl ⟨2, kS t tp k, by omega, by omega, hsl, rfl, rfl, rfl, rfl, rfl⟩))
/-- a line -/
theorem lineX (hN : 1000 ≤ N) (hT : Tk t tp T c_tape_meaning c_tape_start c_tape_token) (ht : t ≤ 240) (h256 : ∀ k, k < 240 → tp k < 256) (hb : ∀ k, k < t → c_tape k = jI (tp k)) (hcu : Cu c_cuts c_letters) (hk : k < T) (hL : Ld H m B ib r) (hC : Lc H m r v_draft_kind v_draft_rounds v_draft_sides c_draft_balls c_draft_choiceWorth c_draft_placeWorth c_draft_strength c_draft_wheel c_told) (hM : Lm H m B ib r v_hasRule v_hasSides v_isBehind v_readGames v_toldOnes c_readFirst c_readSecond c_reads) (hkd : ∀ n, n < 11 → c_kinds n = kdN n) (h4 : kK t tp k ≠ 4) : Ok ((fX1_takeLine N (jI k) v_flaw v_flawPlace v_draft_kind v_draft_rounds v_draft_sides c_draft_balls c_draft_choiceWorth c_draft_placeWorth c_draft_strength c_draft_wheel c_tape_meaning c_tape_start c_tape_token c_told)) (fun a => Ok ((fX9_readLine N v_hasRule v_hasSides v_isBehind (jI (kS t tp k)) v_readGames (jI (ps t tp (k + 1))) (jI t) (jI (kK t tp k)) v_toldOnes (jI (kR t tp k)) (jI 0) v_wrongAt c_cuts c_kinds c_letters c_readFirst c_readSecond c_reads c_tape)) (fun b => LQ t tp T k v_flaw a b)) := by
  by_cases hK : kK t tp k = 1
  · have hw := kV_w hK
    rw [kR_w hK, hK]
    have hcs : kV t tp k = 0 ∨ kV t tp k = 1 ∨ kV t tp k = 2 ∨ kV t tp k = 3 ∨ kV t tp k = 4 ∨ kV t tp k = 5 ∨ kV t tp k = 6 ∨ kV t tp k = 7 ∨ kV t tp k = 8 ∨ kV t tp k = 9 ∨ kV t tp k = 10 := by omega
    rcases hcs with hV | hV | hV | hV | hV | hV | hV | hV | hV | hV | hV
    · rw [hV]; exact line_sides hN hT ht h256 hb hcu hk hL hC hM hK hV
    · rw [hV]; exact line_pair_0 hN hT ht h256 hb hcu hk hL hC hM hK hV
    · rw [hV]; exact line_pair_1 hN hT ht h256 hb hcu hk hL hC hM hK hV
    · rw [hV]; exact line_pair_2 hN hT ht h256 hb hcu hk hL hC hM hK hV
    · rw [hV]; exact line_rule hN hT ht h256 hb hcu hk hL hC hM hkd hK hV
    · rw [hV]; exact line_pair_3 hN hT ht h256 hb hcu hk hL hC hM hK hV
    · rw [hV]; exact line_pair_4 hN hT ht h256 hb hcu hk hL hC hM hK hV
    · rw [hV]; exact line_round hN hT ht h256 hb hcu hk hL hC hM hK hV
    · rw [hV]; exact line_no_8 hN hT ht h256 hb hcu hk hL hC hM hK hV
    · rw [hV]; exact line_no_9 hN hT ht h256 hb hcu hk hL hC hM hK hV
    · rw [hV]; exact line_no_10 hN hT ht h256 hb hcu hk hL hC hM hK hV
  · have hT' := hT
    obtain ⟨T1, T2, T3, T4⟩ := hT'
    have hsl := kS_le t tp k
    have hkl := kK_le t tp k
    have c2 : cD t tp k 1 = 2 := by unfold cD; rw [if_neg h4, if_neg hK]
    have d := (dueX (N := N) (v_flaw := v_flaw) (v_flawPlace := v_flawPlace) (k := k) (x := 1) hT ht (by omega) (by omega)).2 (by omega)
    rw [c2] at d
    generalize kK t tp k = kk at *
    simp (disch := omega) only [jI_0, jI_1, jI_2, jI_3, jI_4, jI_5, jI_6, jI_7, jI_8, jI_9, jI_10, jI_11, jI_12, jI_13, jI_14, jI_15, jI_16, jI_20, jI_24, jI_26, jI_30, jI_31, jI_32, jI_40, jI_48, jI_56, jI_57, jI_59, jI_60, jI_97, jI_99, jI_122, jI_160, jI_240, jI_255, jI_768, jI_1000, ↓jN_1, ↓jN_2, ↓jN_3, ↓jN_4, ↓jN_8, ↓jN_10, ↓jN_11, ↓jN_12, ↓jN_14, ↓jN_20, jI_addN, jI_le, jI_lt, jI_eq, jI_cl, jI_in, jI_add, jI_sub, jI_eqN, gI_eqI, gI_eqN, gI_leI, gI_ltI, jI_leN, jI_ltN, gI_sub, pif_tt, pif_ff, pg_tt, isB, or_true, true_or, pif_T, pif_F, pg_T, pb_Q, upd_e, upd_n, fX1_takeLine, d, fX9_readLine, fX9_readLine_19, failM]
    exact Ok.s (Ok.s (Or.inl ⟨2, kS t tp k, by omega, by omega, hsl, rfl, rfl, rfl, rfl, rfl⟩))
end
