/-! TEXT: the other lines. -/
def kdN (n : Nat) : Int32 := ([gI 4, gI 4, gI 4, gI 4, jI 1, jI 3, gI 4, gI 4, jI 0, jI 2, jI 4] : List Int32).getD n 0
theorem or6 {a b c d e f : Nat} (ha : a < 64) (hb : b < 64) (hc : c < 64) (hd : d < 64) (he : e < 64) (hf : f < 64) : (((((jI a ||| jI b) ||| jI c) ||| jI d) ||| jI e) ||| jI f = jI 0) = (a = 0 ∧ b = 0 ∧ c = 0 ∧ d = 0 ∧ e = 0 ∧ f = 0) := by
  have h1 : a ||| b < 2 ^ 6 := Nat.or_lt_two_pow ha hb
  have h2 : a ||| b ||| c < 2 ^ 6 := Nat.or_lt_two_pow h1 hc
  have h3 : a ||| b ||| c ||| d < 2 ^ 6 := Nat.or_lt_two_pow h2 hd
  have h4 : a ||| b ||| c ||| d ||| e < 2 ^ 6 := Nat.or_lt_two_pow h3 he
  have h5 : a ||| b ||| c ||| d ||| e ||| f < 2 ^ 6 := Nat.or_lt_two_pow h4 hf
  rw [jI_or, jI_or, jI_or, jI_or, jI_or, jI_eq (Nat.lt_trans h5 (by omega)) (by omega)]
  rw [Nat.or_eq_zero_iff, Nat.or_eq_zero_iff, Nat.or_eq_zero_iff, Nat.or_eq_zero_iff, Nat.or_eq_zero_iff, eq_iff_iff]
  constructor
  · rintro ⟨⟨⟨⟨⟨h1, h2⟩, h3⟩, h4⟩, h5⟩, h6⟩; exact ⟨h1, h2, h3, h4, h5, h6⟩
  · rintro ⟨h1, h2, h3, h4, h5, h6⟩; exact ⟨⟨⟨⟨⟨h1, h2⟩, h3⟩, h4⟩, h5⟩, h6⟩
section
variable {v_at : Int32} {v_flaw : Int32} {v_flawPlace : Int32} {v_draft_kind : Int32} {v_draft_rounds : Int32} {v_draft_sides : Int32} {c_draft_balls : Nat → Int32} {c_draft_choiceWorth : Nat → Int32} {c_draft_placeWorth : Nat → Int32} {c_draft_strength : Nat → Int32} {c_draft_wheel : Nat → Int32} {c_tape_meaning : Nat → Int32} {c_tape_start : Nat → Int32} {c_tape_token : Nat → Int32} {c_told : Nat → Int32} {v_hasRule : Int32} {v_hasSides : Int32} {v_isBehind : Int32} {v_place : Int32} {v_readGames : Int32} {v_spot : Int32} {v_taped : Int32} {v_token : Int32} {v_toldOnes : Int32} {v_value : Int32} {v_wrong : Int32} {v_wrongAt : Int32} {c_cuts : Nat → Int32} {c_kinds : Nat → Int32} {c_letters : Nat → Int32} {c_readFirst : Nat → Int32} {c_readSecond : Nat → Int32} {c_reads : Nat → Int32} {c_tape : Nat → Int32}
variable {N t T k B ib r : Nat} {tp H m : Nat → Nat}
theorem line_sides (hN : 1000 ≤ N) (hT : Tk t tp T c_tape_meaning c_tape_start c_tape_token) (ht : t ≤ 240) (h256 : ∀ k, k < 240 → tp k < 256) (hb : ∀ k, k < t → c_tape k = jI (tp k)) (hcu : Cu c_cuts c_letters) (hk : k < T) (hL : Ld H m B ib r) (hC : Lc H m r v_draft_kind v_draft_rounds v_draft_sides c_draft_balls c_draft_choiceWorth c_draft_placeWorth c_draft_strength c_draft_wheel c_told) (hM : Lm H m B ib r v_hasRule v_hasSides v_isBehind v_readGames v_toldOnes c_readFirst c_readSecond c_reads) (hK : kK t tp k = 1) (hV : kV t tp k = 0) : Ok ((fX1_takeLine N (jI k) v_flaw v_flawPlace v_draft_kind v_draft_rounds v_draft_sides c_draft_balls c_draft_choiceWorth c_draft_placeWorth c_draft_strength c_draft_wheel c_tape_meaning c_tape_start c_tape_token c_told)) (fun a => Ok ((fX9_readLine N v_hasRule v_hasSides v_isBehind (jI (kS t tp k)) v_readGames (jI (ps t tp (k + 1))) (jI t) (jI 1) v_toldOnes (jI 0) (jI 0) v_wrongAt c_cuts c_kinds c_letters c_readFirst c_readSecond c_reads c_tape)) (fun b => LQ t tp T k v_flaw a b)) := by
  have hM' := hM
  obtain ⟨⟨rfl, rfl, hrow⟩, rfl, htold⟩ := hC
  obtain ⟨rfl, rfl, rfl, rfl, rfl, hg, hR⟩ := hM
  have hL' := hL
  obtain ⟨⟨r1, r2, r3, r4, r5⟩, ⟨b1, b2, b3, b4⟩, l3, l4⟩ := hL'
  have hT' := hT
  obtain ⟨T1, T2, T3, T4⟩ := hT'
  have hsl := kS_le t tp k
  have es : c_tape_start k = jI (kS t tp k) := (T4 k (by omega)).2.1
  have em : c_tape_meaning k = jI 0 := by rw [(T4 k (by omega)).2.2]; exact congrArg jI hV
  have d := (dueX (N := N) (v_flaw := v_flaw) (v_flawPlace := v_flawPlace) (k := k) (x := 1) hT ht (by omega) (by omega)).1 (by unfold cD; rw [hK]; rfl)
  have m0 := b1 0 (by omega)
  have t0 := htold 0 (by omega)
  have t1 := htold 1 (by omega)
  have t2 := htold 2 (by omega)
  have t3 := htold 3 (by omega)
  have t5 := htold 5 (by omega)
  have t6 := htold 6 (by omega)
  have t7 := htold 7 (by omega)
  have hor := or6 (b1 1 (by omega)) (b1 2 (by omega)) (b1 3 (by omega)) (b1 5 (by omega)) (b1 6 (by omega)) (b1 7 (by omega))
  have f4 := failX (N := N) (t := t) (tp := tp) (v_flaw := v_flaw) (v_flawPlace := v_flawPlace) (k := k) (c := 4) (by omega) es
  by_cases hs0 : m 0 = 0
  · by_cases hib : ib = 0
    · have hor2 : (((((jI (m 1) ||| jI (m 2)) ||| jI (m 3)) ||| jI (m 5)) ||| jI (m 6)) ||| jI (m 7) = jI 0) = True := by rw [hor]; exact eq_true (b4.mp hib)
      have n1 := numX (N := N) (v_flaw := v_flaw) (v_flawPlace := v_flawPlace) (lo := 2) (hi := 6) hT ht h256 hk (by omega) (by omega)
      obtain ⟨q, r', e1, e2, z0, z1⟩ := nxN (N := N) (t := t) (tp := tp) (k := k + 1) (lo := 2) (hi := 6) (v_place := jI (kS t tp k)) (v_token := jI 1) (v_value := jI 0) (v_wrongAt := v_wrongAt) hN ht h256 hb hcu (by omega) (by omega)
      have hle1 := cN_le t tp (k + 1) 2 6
      have hsl1 := kS_le t tp (k + 1)
      by_cases c1 : cN t tp (k + 1) 2 6 = 0
      · obtain ⟨hq, hr⟩ := z0 c1
        subst hq hr
        simp only at e2
        obtain ⟨g1, g2, g3⟩ := cN_0 c1
        have n2 := n1.1 c1
        have em2 : c_tape_meaning (k + 1) = jI (kV t tp (k + 1)) := (T4 (k + 1) (by omega)).2.2
        generalize hv : kV t tp (k + 1) = v at *
        have hk1T : k + 1 < T := by
          apply Decidable.byContradiction
          intro h
          have h2 : k + 1 = T := by omega
          have : kK t tp T = 0 := T2
          rw [← h2] at this; omega
        obtain ⟨⟨s1, s2, s3, s4, s5, s6⟩, l1, l2, l3'⟩ := nxM (N := N) (t := t) (tp := tp) (k := k + 2) (v_place := jI (kS t tp (k + 1))) (v_token := jI (kK t tp (k + 1))) (v_value := jI (kR t tp (k + 1))) (v_wrongAt := v_wrongAt) hN ht h256 hb hcu
        simp only at l3'
        simp (disch := omega) only [jI_0, jI_1, jI_2, jI_3, jI_4, jI_5, jI_6, jI_7, jI_8, jI_9, jI_10, jI_11, jI_12, jI_13, jI_14, jI_15, jI_16, jI_20, jI_24, jI_26, jI_30, jI_31, jI_32, jI_40, jI_48, jI_56, jI_57, jI_59, jI_60, jI_97, jI_99, jI_122, jI_160, jI_240, jI_255, jI_768, jI_1000, ↓jN_1, ↓jN_2, ↓jN_3, ↓jN_4, ↓jN_8, ↓jN_10, ↓jN_11, ↓jN_12, ↓jN_14, ↓jN_20, jI_addN, jI_le, jI_lt, jI_eq, jI_cl, jI_in, jI_add, jI_sub, jI_eqN, gI_eqI, gI_eqN, gI_leI, gI_ltI, jI_leN, jI_ltN, gI_sub, pif_tt, pif_ff, pg_tt, isB, or_true, true_or, pif_T, pif_F, pg_T, pb_Q, upd_e, upd_n, fX1_takeLine, d, em, fX1_takeSides, t0, t1, t2, t3, t5, t6, t7, hs0, hor2, n2, em2, fX9_readLine, hib, fX9_readLine_48, e1, e2, l1]
        obtain ⟨rfl, hwh⟩ := l4 hib
        have u0 : updN H 0 v 0 = v := updN_e rfl
        refine lineEnd (e := k + 1) (H := updN H 0 v) (m := updN m 0 1) (B := B) (ib := 0) (r := 0) hN hT ht h256 hb hcu (by omega) hk1T ⟨⟨by rw [u0]; exact g2, by rw [u0]; exact g3, by rw [updN_n (by omega)]; exact r3, fun j hj => ?_, fun j hj => ?_⟩, ⟨fun j hj => ?_, by omega, fun i hi w hw => ?_, ?_⟩, by rw [Nat.zero_mul]; omega, fun _ => ⟨rfl, fun j hj => ?_⟩⟩ ⟨⟨by rw [updN_n (by omega)], by rw [u0], fun j hj => ?_⟩, rfl, told_pair htold⟩ ⟨by rw [updN_n (by omega)], by rw [updN_e rfl], rfl, by rw [Nat.zero_mul, Nat.zero_mul], rfl, fun g hg => by rw [Nat.zero_mul] at hg; omega, fun j hj => ?_⟩ ⟨fun h4 => ?_, l3'⟩
        · rw [updN_n (by omega), updN_n (by omega), updN_n (by omega), updN_n (by omega), updN_n (by omega)]; exact r4 j hj
        · rw [u0] at hj ⊢
          rw [updN_n (by omega), hwh j (by omega)]; exact hj
        · by_cases hc : j = 0
          · rw [updN_e hc]; omega
          · rw [updN_n hc]; exact b1 j hj
        · have := wi_lt hi
          rw [updN_n (by omega)]; exact b3 i hi w hw
        · rw [updN_n (by omega), updN_n (by omega), updN_n (by omega), updN_n (by omega), updN_n (by omega), updN_n (by omega)]
          exact ⟨fun _ => b4.mp hib, fun _ => rfl⟩
        · rw [updN_n (by omega)]; exact hwh j hj
        · rw [updN_n (by omega), updN_n (by omega), updN_n (by omega), updN_n (by omega), updN_n (by omega)]; exact hrow j hj
        · by_cases hc : j = 0
          · rw [upd_e hc, updN_e hc]
          · rw [upd_n hc, updN_n hc]; exact hR j hj
        · have := l2 h4
          simpa only [Prod.mk.injEq] using ⟨(Prod.mk.inj this).1, (Prod.mk.inj (Prod.mk.inj this).2).1, (Prod.mk.inj (Prod.mk.inj (Prod.mk.inj this).2).2).1, (Prod.mk.inj (Prod.mk.inj (Prod.mk.inj (Prod.mk.inj this).2).2).2).1, (Prod.mk.inj (Prod.mk.inj (Prod.mk.inj (Prod.mk.inj (Prod.mk.inj this).2).2).2).2).1⟩
      · have hr := z1 c1
        subst hr
        obtain ⟨q1, q2, q3, q4, q5, q6⟩ := q
        simp only at e2
        have n2 := n1.2 c1
        generalize cN t tp (k + 1) 2 6 = cc at *
        simp (disch := omega) only [jI_0, jI_1, jI_2, jI_3, jI_4, jI_5, jI_6, jI_7, jI_8, jI_9, jI_10, jI_11, jI_12, jI_13, jI_14, jI_15, jI_16, jI_20, jI_24, jI_26, jI_30, jI_31, jI_32, jI_40, jI_48, jI_56, jI_57, jI_59, jI_60, jI_97, jI_99, jI_122, jI_160, jI_240, jI_255, jI_768, jI_1000, ↓jN_1, ↓jN_2, ↓jN_3, ↓jN_4, ↓jN_8, ↓jN_10, ↓jN_11, ↓jN_12, ↓jN_14, ↓jN_20, jI_addN, jI_le, jI_lt, jI_eq, jI_cl, jI_in, jI_add, jI_sub, jI_eqN, gI_eqI, gI_eqN, gI_leI, gI_ltI, jI_leN, jI_ltN, gI_sub, pif_tt, pif_ff, pg_tt, isB, or_true, true_or, pif_T, pif_F, pg_T, pb_Q, upd_e, upd_n, fX1_takeLine, d, em, fX1_takeSides, t0, t1, t2, t3, t5, t6, t7, hs0, hor2, n2, fX9_readLine, hib, fX9_readLine_48, e1, e2, nextWe]
        exact lineBad (by omega) (by omega) hsl1
    · have hor2 : (((((jI (m 1) ||| jI (m 2)) ||| jI (m 3)) ||| jI (m 5)) ||| jI (m 6)) ||| jI (m 7) = jI 0) = False := by rw [hor]; exact eq_false (fun h => hib (b4.mpr h))
      simp (disch := omega) only [jI_0, jI_1, jI_2, jI_3, jI_4, jI_5, jI_6, jI_7, jI_8, jI_9, jI_10, jI_11, jI_12, jI_13, jI_14, jI_15, jI_16, jI_20, jI_24, jI_26, jI_30, jI_31, jI_32, jI_40, jI_48, jI_56, jI_57, jI_59, jI_60, jI_97, jI_99, jI_122, jI_160, jI_240, jI_255, jI_768, jI_1000, ↓jN_1, ↓jN_2, ↓jN_3, ↓jN_4, ↓jN_8, ↓jN_10, ↓jN_11, ↓jN_12, ↓jN_14, ↓jN_20, jI_addN, jI_le, jI_lt, jI_eq, jI_cl, jI_in, jI_add, jI_sub, jI_eqN, gI_eqI, gI_eqN, gI_leI, gI_ltI, jI_leN, jI_ltN, gI_sub, pif_tt, pif_ff, pg_tt, isB, or_true, true_or, pif_T, pif_F, pg_T, pb_Q, upd_e, upd_n, fX1_takeLine, d, em, fX1_takeSides, t0, t1, t2, t3, t5, t6, t7, hs0, hor2, fX1_takeSides_57, f4, fX9_readLine, fX9_readLine_43, failM, fX9_readLine_48, nextWe, numMW]
      exact lineBad (by omega) (by omega) hsl
  · simp (disch := omega) only [jI_0, jI_1, jI_2, jI_3, jI_4, jI_5, jI_6, jI_7, jI_8, jI_9, jI_10, jI_11, jI_12, jI_13, jI_14, jI_15, jI_16, jI_20, jI_24, jI_26, jI_30, jI_31, jI_32, jI_40, jI_48, jI_56, jI_57, jI_59, jI_60, jI_97, jI_99, jI_122, jI_160, jI_240, jI_255, jI_768, jI_1000, ↓jN_1, ↓jN_2, ↓jN_3, ↓jN_4, ↓jN_8, ↓jN_10, ↓jN_11, ↓jN_12, ↓jN_14, ↓jN_20, jI_addN, jI_le, jI_lt, jI_eq, jI_cl, jI_in, jI_add, jI_sub, jI_eqN, gI_eqI, gI_eqN, gI_leI, gI_ltI, jI_leN, jI_ltN, gI_sub, pif_tt, pif_ff, pg_tt, isB, or_true, true_or, pif_T, pif_F, pg_T, pb_Q, upd_e, upd_n, fX1_takeLine, d, em, fX1_takeSides, t0, fX1_takeSides_57, f4, fX9_readLine, fX9_readLine_43, failM, fX9_readLine_48, nextWe, numMW]
    exact lineBad (by omega) (by omega) hsl
theorem line_round (hN : 1000 ≤ N) (hT : Tk t tp T c_tape_meaning c_tape_start c_tape_token) (ht : t ≤ 240) (h256 : ∀ k, k < 240 → tp k < 256) (hb : ∀ k, k < t → c_tape k = jI (tp k)) (hcu : Cu c_cuts c_letters) (hk : k < T) (hL : Ld H m B ib r) (hC : Lc H m r v_draft_kind v_draft_rounds v_draft_sides c_draft_balls c_draft_choiceWorth c_draft_placeWorth c_draft_strength c_draft_wheel c_told) (hM : Lm H m B ib r v_hasRule v_hasSides v_isBehind v_readGames v_toldOnes c_readFirst c_readSecond c_reads) (hK : kK t tp k = 1) (hV : kV t tp k = 7) : Ok ((fX1_takeLine N (jI k) v_flaw v_flawPlace v_draft_kind v_draft_rounds v_draft_sides c_draft_balls c_draft_choiceWorth c_draft_placeWorth c_draft_strength c_draft_wheel c_tape_meaning c_tape_start c_tape_token c_told)) (fun a => Ok ((fX9_readLine N v_hasRule v_hasSides v_isBehind (jI (kS t tp k)) v_readGames (jI (ps t tp (k + 1))) (jI t) (jI 1) v_toldOnes (jI 6) (jI 0) v_wrongAt c_cuts c_kinds c_letters c_readFirst c_readSecond c_reads c_tape)) (fun b => LQ t tp T k v_flaw a b)) := by
  have hM' := hM
  obtain ⟨⟨rfl, rfl, hrow⟩, rfl, htold⟩ := hC
  obtain ⟨rfl, rfl, rfl, rfl, rfl, hg, hR⟩ := hM
  have hL' := hL
  obtain ⟨⟨r1, r2, r3, r4, r5⟩, ⟨b1, b2, b3, b4⟩, l3, l4⟩ := hL'
  have hT' := hT
  obtain ⟨T1, T2, T3, T4⟩ := hT'
  have hsl := kS_le t tp k
  have es : c_tape_start k = jI (kS t tp k) := (T4 k (by omega)).2.1
  have em : c_tape_meaning k = jI 7 := by rw [(T4 k (by omega)).2.2]; exact congrArg jI hV
  have d := (dueX (N := N) (v_flaw := v_flaw) (v_flawPlace := v_flawPlace) (k := k) (x := 1) hT ht (by omega) (by omega)).1 (by unfold cD; rw [hK]; rfl)
  have t7 := htold 7 (by omega)
  have f5 := failX (N := N) (t := t) (tp := tp) (v_flaw := v_flaw) (v_flawPlace := v_flawPlace) (k := k) (c := 5) (by omega) es
  have hgr := gR_all (H 0) (by omega) (by omega)
  rw [jI_sub (by omega)] at hgr
  have hz15 := zR_le r2
  have hsum : (r + 1) * zR (H 0) = r * zR (H 0) + zR (H 0) := by rw [Nat.add_mul, Nat.one_mul]
  obtain ⟨⟨q1, q2, q3, q4, q5, q6, q7, q8, q9⟩, e1, y1, y2⟩ := readRoundM (N := N) (n := H 0) (t := t) (tp := tp) (k := k + 1) (r := r) (v_place := jI (kS t tp k)) (v_token := jI 1) (v_value := jI 6) (v_wrongAt := v_wrongAt) hN ht h256 hb hcu r2 r1 l3 (hR 0 (by omega)) hg
  simp only at y1 y2
  by_cases hz : (r + 1) * zR (H 0) ≤ 30
  · obtain ⟨f1, f2, f3, f6⟩ := y1 hz
    subst f1
    have hmul : jI (r + 1) * jI (zR (H 0)) = jI ((r + 1) * zR (H 0)) := jI_mul _ _
    generalize hX : (r + 1) * zR (H 0) = X at *
    simp (disch := omega) only [jI_0, jI_1, jI_2, jI_3, jI_4, jI_5, jI_6, jI_7, jI_8, jI_9, jI_10, jI_11, jI_12, jI_13, jI_14, jI_15, jI_16, jI_20, jI_24, jI_26, jI_30, jI_31, jI_32, jI_40, jI_48, jI_56, jI_57, jI_59, jI_60, jI_97, jI_99, jI_122, jI_160, jI_240, jI_255, jI_768, jI_1000, ↓jN_1, ↓jN_2, ↓jN_3, ↓jN_4, ↓jN_8, ↓jN_10, ↓jN_11, ↓jN_12, ↓jN_14, ↓jN_20, jI_addN, jI_le, jI_lt, jI_eq, jI_cl, jI_in, jI_add, jI_sub, jI_eqN, gI_eqI, gI_eqN, gI_leI, gI_ltI, jI_leN, jI_ltN, gI_sub, pif_tt, pif_ff, pg_tt, isB, or_true, true_or, pif_T, pif_F, pg_T, pb_Q, upd_e, upd_n, fX1_takeLine, d, em, fX1_takeRound, fX2_gamesOfRound, hgr, hmul, fX9_readLine, e1]
    refine lineEnd (e := k) (H := H) (m := updN m 7 1) (B := B) (ib := 1) (r := r + 1) hN hT ht h256 hb hcu (by omega) hk ⟨⟨r1, r2, r3, r4, r5⟩, ⟨fun j hj => ?_, by omega, fun i hi w hw => ?_, ⟨fun h => by omega, fun h => ?_⟩⟩, by rw [hX]; exact hz, fun h => by omega⟩ ⟨⟨rfl, rfl, hrow⟩, rfl, told_pair htold⟩ ⟨by rw [updN_n (by omega)], by rw [updN_n (by omega)], rfl, by rw [hX], rfl, by rw [hX]; exact f2, hR⟩ ⟨f3, f6⟩
    · by_cases hc : j = 7
      · rw [updN_e hc]; omega
      · rw [updN_n hc]; exact b1 j hj
    · have := wi_lt hi
      rw [updN_n (by omega)]; exact b3 i hi w hw
    · have := h.2.2.2.2.2
      rw [updN_e rfl] at this; omega
  · obtain ⟨f1, f2⟩ := y2 hz
    subst f1 f2
    have hmul : jI (r + 1) * jI (zR (H 0)) = jI ((r + 1) * zR (H 0)) := jI_mul _ _
    have hX2 : (r + 1) * zR (H 0) ≤ 45 := by omega
    generalize hX : (r + 1) * zR (H 0) = X at *
    simp (disch := omega) only [jI_0, jI_1, jI_2, jI_3, jI_4, jI_5, jI_6, jI_7, jI_8, jI_9, jI_10, jI_11, jI_12, jI_13, jI_14, jI_15, jI_16, jI_20, jI_24, jI_26, jI_30, jI_31, jI_32, jI_40, jI_48, jI_56, jI_57, jI_59, jI_60, jI_97, jI_99, jI_122, jI_160, jI_240, jI_255, jI_768, jI_1000, ↓jN_1, ↓jN_2, ↓jN_3, ↓jN_4, ↓jN_8, ↓jN_10, ↓jN_11, ↓jN_12, ↓jN_14, ↓jN_20, jI_addN, jI_le, jI_lt, jI_eq, jI_cl, jI_in, jI_add, jI_sub, jI_eqN, gI_eqI, gI_eqN, gI_leI, gI_ltI, jI_leN, jI_ltN, gI_sub, pif_tt, pif_ff, pg_tt, isB, or_true, true_or, pif_T, pif_F, pg_T, pb_Q, upd_e, upd_n, fX1_takeLine, d, em, fX1_takeRound, fX2_gamesOfRound, hgr, hmul, f5, fX9_readLine, e1]
    exact lineBad (by omega) (by omega) hsl
end
