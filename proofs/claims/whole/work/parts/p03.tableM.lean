/-! layTable of the reference. -/
/-- GAMES: those of a page of the reference's rows -/
def Gm (pg z : Nat) (f s e : Nat → Nat) (cm cf cs cg : Nat → Int32) : Prop := cm pg = jI z ∧ ∀ g, g < z → cf (30 * pg + g) = jI (f g) ∧ cs (30 * pg + g) = jI (s g) ∧ cg (30 * pg + g) = jI (e g)
section
variable {c_firsts : Nat → Int32} {c_goes : Nat → Int32} {c_holds : Nat → Int32} {c_many : Nat → Int32} {c_placeOf : Nat → Int32} {c_seconds : Nat → Int32} {c_sideAt : Nat → Int32} {c_won : Nat → Int32}
variable {N n z pg : Nat} {f s e : Nat → Nat}
theorem sidesM (hh : c_holds 0 = jI n) : fX9_sides N c_holds = some (jI n) := by
  simp (disch := omega) only [jI_0, jI_1, jI_2, jI_3, jI_4, jI_5, jI_6, jI_7, jI_8, jI_9, jI_10, jI_11, jI_12, jI_13, jI_14, jI_15, jI_16, jI_20, jI_24, jI_26, jI_30, jI_31, jI_32, jI_40, jI_48, jI_56, jI_57, jI_59, jI_60, jI_97, jI_99, jI_122, jI_160, jI_240, jI_255, jI_768, jI_1000, ↓jN_1, ↓jN_2, ↓jN_3, ↓jN_4, ↓jN_8, ↓jN_10, ↓jN_11, ↓jN_12, ↓jN_14, ↓jN_20, jI_addN, jI_le, jI_lt, jI_eq, jI_cl, jI_in, jI_add, jI_sub, jI_eqN, gI_eqI, gI_eqN, gI_leI, gI_ltI, jI_leN, jI_ltN, gI_sub, pif_tt, pif_ff, pg_tt, isB, or_true, true_or, pif_T, pif_F, pg_T, pb_S, upd_e, upd_n, fX9_sides, hh]
theorem winnerM {x : Nat} (hpg : pg < 2) (hx : x < z) (hk : Gk n z f s e) (hG : Gm pg z f s e c_many c_firsts c_seconds c_goes) : fX9_winner N c_firsts c_goes c_seconds (jI (30 * pg + x)) = some (if e x = 2 then gI 4 else jI (winr f s e x)) := by
  obtain ⟨g1, g2, g3⟩ := hG.2 x hx
  obtain ⟨k1, k2, k3, k4⟩ := hk.2.2 x hx
  have hn := hk.1
  have hz := hk.2.1
  by_cases h0 : e x = 0
  · have hx : winr f s e x = f x := by unfold winr; rw [if_pos h0]
    rw [if_neg (by omega), hx]
    simp (disch := omega) only [jI_0, jI_1, jI_2, jI_3, jI_4, jI_5, jI_6, jI_7, jI_8, jI_9, jI_10, jI_11, jI_12, jI_13, jI_14, jI_15, jI_16, jI_20, jI_24, jI_26, jI_30, jI_31, jI_32, jI_40, jI_48, jI_56, jI_57, jI_59, jI_60, jI_97, jI_99, jI_122, jI_160, jI_240, jI_255, jI_768, jI_1000, ↓jN_1, ↓jN_2, ↓jN_3, ↓jN_4, ↓jN_8, ↓jN_10, ↓jN_11, ↓jN_12, ↓jN_14, ↓jN_20, jI_addN, jI_le, jI_lt, jI_eq, jI_cl, jI_in, jI_add, jI_sub, jI_eqN, gI_eqI, gI_eqN, gI_leI, gI_ltI, jI_leN, jI_ltN, gI_sub, pif_tt, pif_ff, pg_tt, isB, or_true, true_or, pif_T, pif_F, pg_T, pb_S, upd_e, upd_n, fX9_winner, fX9_winner_39, g1, g2, g3]
  · by_cases h1 : e x = 1
    · have hx : winr f s e x = s x := by unfold winr; rw [if_neg h0, if_pos h1]
      rw [if_neg (by omega), hx]
      simp (disch := omega) only [jI_0, jI_1, jI_2, jI_3, jI_4, jI_5, jI_6, jI_7, jI_8, jI_9, jI_10, jI_11, jI_12, jI_13, jI_14, jI_15, jI_16, jI_20, jI_24, jI_26, jI_30, jI_31, jI_32, jI_40, jI_48, jI_56, jI_57, jI_59, jI_60, jI_97, jI_99, jI_122, jI_160, jI_240, jI_255, jI_768, jI_1000, ↓jN_1, ↓jN_2, ↓jN_3, ↓jN_4, ↓jN_8, ↓jN_10, ↓jN_11, ↓jN_12, ↓jN_14, ↓jN_20, jI_addN, jI_le, jI_lt, jI_eq, jI_cl, jI_in, jI_add, jI_sub, jI_eqN, gI_eqI, gI_eqN, gI_leI, gI_ltI, jI_leN, jI_ltN, gI_sub, pif_tt, pif_ff, pg_tt, isB, or_true, true_or, pif_T, pif_F, pg_T, pb_S, upd_e, upd_n, fX9_winner, fX9_winner_39, g1, g2, g3]
    · rw [if_pos (by omega)]
      simp (disch := omega) only [jI_0, jI_1, jI_2, jI_3, jI_4, jI_5, jI_6, jI_7, jI_8, jI_9, jI_10, jI_11, jI_12, jI_13, jI_14, jI_15, jI_16, jI_20, jI_24, jI_26, jI_30, jI_31, jI_32, jI_40, jI_48, jI_56, jI_57, jI_59, jI_60, jI_97, jI_99, jI_122, jI_160, jI_240, jI_255, jI_768, jI_1000, ↓jN_1, ↓jN_2, ↓jN_3, ↓jN_4, ↓jN_8, ↓jN_10, ↓jN_11, ↓jN_12, ↓jN_14, ↓jN_20, jI_addN, jI_le, jI_lt, jI_eq, jI_cl, jI_in, jI_add, jI_sub, jI_eqN, gI_eqI, gI_eqN, gI_leI, gI_ltI, jI_leN, jI_ltN, gI_sub, pif_tt, pif_ff, pg_tt, isB, or_true, true_or, pif_T, pif_F, pg_T, pb_S, upd_e, upd_n, fX9_winner, fX9_winner_39, g1, g2, g3]
theorem layT_2 (hN : 100 ≤ N) : ∃ cw, (fX9_layTable_2 N c_firsts c_goes c_holds c_many c_seconds (jI pg) N 0 c_placeOf c_sideAt c_won) = (fX9_layTable_23 N c_firsts c_goes c_holds c_many c_seconds (jI pg) N 0 c_placeOf c_sideAt cw) ∧ ∀ j, j < 6 → cw j = jI 0 := by
  refine for_up (fun f i cw => (fX9_layTable_2 N c_firsts c_goes c_holds c_many c_seconds (jI pg) f (jI i) c_placeOf c_sideAt cw)) (fun cw => (fX9_layTable_23 N c_firsts c_goes c_holds c_many c_seconds (jI pg) N 0 c_placeOf c_sideAt cw)) 6 (fun i cw => ∀ j, j < i → cw j = jI 0) ?_ ?_ N 0 c_won (by omega) (by omega) (fun j h => by omega)
  · intro f i cw hi hp
    refine ⟨upd cw i (jI 0), ?_, fun j hj => ?_⟩
    · simp (disch := omega) only [jI_0, jI_1, jI_2, jI_3, jI_4, jI_5, jI_6, jI_7, jI_8, jI_9, jI_10, jI_11, jI_12, jI_13, jI_14, jI_15, jI_16, jI_20, jI_24, jI_26, jI_30, jI_31, jI_32, jI_40, jI_48, jI_56, jI_57, jI_59, jI_60, jI_97, jI_99, jI_122, jI_160, jI_240, jI_255, jI_768, jI_1000, ↓jN_1, ↓jN_2, ↓jN_3, ↓jN_4, ↓jN_8, ↓jN_10, ↓jN_11, ↓jN_12, ↓jN_14, ↓jN_20, jI_addN, jI_le, jI_lt, jI_eq, jI_cl, jI_in, jI_add, jI_sub, jI_eqN, gI_eqI, gI_eqN, gI_leI, gI_ltI, jI_leN, jI_ltN, gI_sub, pif_tt, pif_ff, pg_tt, isB, or_true, true_or, pif_T, pif_F, pg_T, pb_S, upd_e, upd_n, fX9_layTable_2]
    · by_cases h : j = i
      · exact upd_e h
      · rw [upd_n h]; exact hp j (by omega)
  · intro f cw hp
    simp (disch := omega) only [jI_0, jI_1, jI_2, jI_3, jI_4, jI_5, jI_6, jI_7, jI_8, jI_9, jI_10, jI_11, jI_12, jI_13, jI_14, jI_15, jI_16, jI_20, jI_24, jI_26, jI_30, jI_31, jI_32, jI_40, jI_48, jI_56, jI_57, jI_59, jI_60, jI_97, jI_99, jI_122, jI_160, jI_240, jI_255, jI_768, jI_1000, ↓jN_1, ↓jN_2, ↓jN_3, ↓jN_4, ↓jN_8, ↓jN_10, ↓jN_11, ↓jN_12, ↓jN_14, ↓jN_20, jI_addN, jI_le, jI_lt, jI_eq, jI_cl, jI_in, jI_add, jI_sub, jI_eqN, gI_eqI, gI_eqN, gI_leI, gI_ltI, jI_leN, jI_ltN, gI_sub, pif_tt, pif_ff, pg_tt, isB, or_true, true_or, pif_T, pif_F, pg_T, pb_S, upd_e, upd_n, fX9_layTable_2]
theorem layT_23 (hN : 100 ≤ N) (hpg : pg < 2) (hk : Gk n z f s e) (hG : Gm pg z f s e c_many c_firsts c_seconds c_goes) (h0 : ∀ j, j < 6 → c_won j = jI 0) : ∃ cw, (fX9_layTable_23 N c_firsts c_goes c_holds c_many c_seconds (jI pg) N 0 c_placeOf c_sideAt c_won) = (fX9_layTable_68 N c_firsts c_goes c_holds c_many c_seconds (jI pg) N 0 c_placeOf c_sideAt cw) ∧ ∀ j, j < n → cw j = jI (wonN f s e z j) := by
  have hm := hG.1
  have hn := hk.1
  have hz := hk.2.1
  refine for_up (fun f i cw => (fX9_layTable_23 N c_firsts c_goes c_holds c_many c_seconds (jI pg) f (jI i) c_placeOf c_sideAt cw)) (fun cw => (fX9_layTable_68 N c_firsts c_goes c_holds c_many c_seconds (jI pg) N 0 c_placeOf c_sideAt cw)) z (fun i cw => ∀ j, j < n → cw j = jI (wonN f s e i j)) ?_ ?_ N 0 c_won (by omega) (by omega) (fun j h => h0 j (by omega))
  · intro fu i cw hi hp
    obtain ⟨k1, k2, k3, k4⟩ := hk.2.2 i hi
    have hw : ∀ j, wonN f s e (i + 1) j = wonN f s e i j + (if winr f s e i = j then 1 else 0) := fun j => by simp [wonN, cnt]
    have hwi := winnerM (N := N) hpg hi hk hG
    by_cases he : e i = 2
    · rw [if_pos he] at hwi
      refine ⟨cw, ?_, fun j hj => ?_⟩
      · simp (disch := omega) only [jI_0, jI_1, jI_2, jI_3, jI_4, jI_5, jI_6, jI_7, jI_8, jI_9, jI_10, jI_11, jI_12, jI_13, jI_14, jI_15, jI_16, jI_20, jI_24, jI_26, jI_30, jI_31, jI_32, jI_40, jI_48, jI_56, jI_57, jI_59, jI_60, jI_97, jI_99, jI_122, jI_160, jI_240, jI_255, jI_768, jI_1000, ↓jN_1, ↓jN_2, ↓jN_3, ↓jN_4, ↓jN_8, ↓jN_10, ↓jN_11, ↓jN_12, ↓jN_14, ↓jN_20, jI_addN, jI_le, jI_lt, jI_eq, jI_cl, jI_in, jI_add, jI_sub, jI_eqN, gI_eqI, gI_eqN, gI_leI, gI_ltI, jI_leN, jI_ltN, gI_sub, pif_tt, pif_ff, pg_tt, isB, or_true, true_or, pif_T, pif_F, pg_T, pb_S, upd_e, upd_n, fX9_layTable_23, fX9_layTable_60, fX9_from, jI_mul, hm, hwi]
      · rw [hp j hj, hw, if_neg (by unfold winr; rw [if_neg (by omega), if_neg (by omega)]; omega)]; rfl
    · rw [if_neg he] at hwi
      have hb := wonN_le f s e i (winr f s e i)
      have hwn : winr f s e i < n := by unfold winr; split; exact k1; split; exact k2; omega
      refine ⟨upd cw (winr f s e i) (jI (wonN f s e i (winr f s e i) + 1)), ?_, fun j hj => ?_⟩
      · simp (disch := omega) only [jI_0, jI_1, jI_2, jI_3, jI_4, jI_5, jI_6, jI_7, jI_8, jI_9, jI_10, jI_11, jI_12, jI_13, jI_14, jI_15, jI_16, jI_20, jI_24, jI_26, jI_30, jI_31, jI_32, jI_40, jI_48, jI_56, jI_57, jI_59, jI_60, jI_97, jI_99, jI_122, jI_160, jI_240, jI_255, jI_768, jI_1000, ↓jN_1, ↓jN_2, ↓jN_3, ↓jN_4, ↓jN_8, ↓jN_10, ↓jN_11, ↓jN_12, ↓jN_14, ↓jN_20, jI_addN, jI_le, jI_lt, jI_eq, jI_cl, jI_in, jI_add, jI_sub, jI_eqN, gI_eqI, gI_eqN, gI_leI, gI_ltI, jI_leN, jI_ltN, gI_sub, pif_tt, pif_ff, pg_tt, isB, or_true, true_or, pif_T, pif_F, pg_T, pb_S, upd_e, upd_n, fX9_layTable_23, fX9_layTable_60, fX9_from, jI_mul, hm, hwi, jI_eqN, hp _ hwn]
      · rw [hw]
        by_cases h : j = winr f s e i
        · rw [upd_e h, if_pos h.symm, h]
        · rw [upd_n h, if_neg (fun q => h q.symm)]; exact hp j hj
  · intro fu cw hp
    simp (disch := omega) only [jI_0, jI_1, jI_2, jI_3, jI_4, jI_5, jI_6, jI_7, jI_8, jI_9, jI_10, jI_11, jI_12, jI_13, jI_14, jI_15, jI_16, jI_20, jI_24, jI_26, jI_30, jI_31, jI_32, jI_40, jI_48, jI_56, jI_57, jI_59, jI_60, jI_97, jI_99, jI_122, jI_160, jI_240, jI_255, jI_768, jI_1000, ↓jN_1, ↓jN_2, ↓jN_3, ↓jN_4, ↓jN_8, ↓jN_10, ↓jN_11, ↓jN_12, ↓jN_14, ↓jN_20, jI_addN, jI_le, jI_lt, jI_eq, jI_cl, jI_in, jI_add, jI_sub, jI_eqN, gI_eqI, gI_eqN, gI_leI, gI_ltI, jI_leN, jI_ltN, gI_sub, pif_tt, pif_ff, pg_tt, isB, or_true, true_or, pif_T, pif_F, pg_T, pb_S, upd_e, upd_n, fX9_layTable_23, hm]
theorem layT_81 {W : Nat → Nat} {i : Nat} (k68 : Int32 → (Nat → Int32) → (Nat → Int32) → (Nat → Int32) → Option ((Nat → Int32) × (Nat → Int32) × (Nat → Int32))) (hN : 100 ≤ N) (hh : c_holds 0 = jI n) (hW : ∀ j, j < n → c_won j = jI (W j) ∧ W j ≤ 30) (hn : n ≤ 6) (hi : i < n) : (fX9_layTable_81 N c_firsts c_goes c_holds c_many c_seconds (jI pg) k68 N (jI i) 0 0 c_placeOf c_sideAt c_won) = k68 (jI (i + 1)) (upd c_placeOf i (jI (plc n W i))) (upd c_sideAt (plc n W i) (jI i)) c_won := by
  have hs := sidesM (N := N) hh
  obtain ⟨w1, w2⟩ := hW i hi
  have key := for_up (fun f j p => (fX9_layTable_81 N c_firsts c_goes c_holds c_many c_seconds (jI pg) k68 f (jI i) (jI p) (jI j) c_placeOf c_sideAt c_won)) (fun p => k68 (jI (i + 1)) (upd c_placeOf i (jI p)) (upd c_sideAt p (jI i)) c_won) n (fun j p => p = cnt j (fun q => ahd W q i)) ?_ ?_ N 0 0 (by omega) (by omega) rfl
  · obtain ⟨p, e1, rfl⟩ := key
    exact e1
  · intro fu j p hj hp
    obtain ⟨v1, v2⟩ := hW j hj
    have hc := cnt_le j (fun q => ahd W q i)
    refine ⟨p + (if ahd W j i then 1 else 0), ?_, by simp only [cnt, hp]⟩
    subst hp
    by_cases h1 : W i < W j
    · rw [if_pos (ahd_iff.mpr (Or.inl h1))]
      simp (disch := omega) only [jI_0, jI_1, jI_2, jI_3, jI_4, jI_5, jI_6, jI_7, jI_8, jI_9, jI_10, jI_11, jI_12, jI_13, jI_14, jI_15, jI_16, jI_20, jI_24, jI_26, jI_30, jI_31, jI_32, jI_40, jI_48, jI_56, jI_57, jI_59, jI_60, jI_97, jI_99, jI_122, jI_160, jI_240, jI_255, jI_768, jI_1000, ↓jN_1, ↓jN_2, ↓jN_3, ↓jN_4, ↓jN_8, ↓jN_10, ↓jN_11, ↓jN_12, ↓jN_14, ↓jN_20, jI_addN, jI_le, jI_lt, jI_eq, jI_cl, jI_in, jI_add, jI_sub, jI_eqN, gI_eqI, gI_eqN, gI_leI, gI_ltI, jI_leN, jI_ltN, gI_sub, pif_tt, pif_ff, pg_tt, isB, or_true, true_or, pif_T, pif_F, pg_T, pb_S, upd_e, upd_n, fX9_layTable_81, fX9_layTable_129, fX9_layTable_134, hs, w1, v1]
    · by_cases h2 : W j = W i
      · by_cases h3 : j < i
        · rw [if_pos (ahd_iff.mpr (Or.inr ⟨h2, h3⟩))]
          simp (disch := omega) only [jI_0, jI_1, jI_2, jI_3, jI_4, jI_5, jI_6, jI_7, jI_8, jI_9, jI_10, jI_11, jI_12, jI_13, jI_14, jI_15, jI_16, jI_20, jI_24, jI_26, jI_30, jI_31, jI_32, jI_40, jI_48, jI_56, jI_57, jI_59, jI_60, jI_97, jI_99, jI_122, jI_160, jI_240, jI_255, jI_768, jI_1000, ↓jN_1, ↓jN_2, ↓jN_3, ↓jN_4, ↓jN_8, ↓jN_10, ↓jN_11, ↓jN_12, ↓jN_14, ↓jN_20, jI_addN, jI_le, jI_lt, jI_eq, jI_cl, jI_in, jI_add, jI_sub, jI_eqN, gI_eqI, gI_eqN, gI_leI, gI_ltI, jI_leN, jI_ltN, gI_sub, pif_tt, pif_ff, pg_tt, isB, or_true, true_or, pif_T, pif_F, pg_T, pb_S, upd_e, upd_n, fX9_layTable_81, fX9_layTable_129, fX9_layTable_134, hs, w1, v1]
        · rw [if_neg (fun h => by have := ahd_iff.mp h; omega)]
          simp (disch := omega) only [jI_0, jI_1, jI_2, jI_3, jI_4, jI_5, jI_6, jI_7, jI_8, jI_9, jI_10, jI_11, jI_12, jI_13, jI_14, jI_15, jI_16, jI_20, jI_24, jI_26, jI_30, jI_31, jI_32, jI_40, jI_48, jI_56, jI_57, jI_59, jI_60, jI_97, jI_99, jI_122, jI_160, jI_240, jI_255, jI_768, jI_1000, ↓jN_1, ↓jN_2, ↓jN_3, ↓jN_4, ↓jN_8, ↓jN_10, ↓jN_11, ↓jN_12, ↓jN_14, ↓jN_20, jI_addN, jI_le, jI_lt, jI_eq, jI_cl, jI_in, jI_add, jI_sub, jI_eqN, gI_eqI, gI_eqN, gI_leI, gI_ltI, jI_leN, jI_ltN, gI_sub, pif_tt, pif_ff, pg_tt, isB, or_true, true_or, pif_T, pif_F, pg_T, pb_S, upd_e, upd_n, fX9_layTable_81, fX9_layTable_133, fX9_layTable_134, hs, w1, v1]
      · rw [if_neg (fun h => by have := ahd_iff.mp h; omega)]
        simp (disch := omega) only [jI_0, jI_1, jI_2, jI_3, jI_4, jI_5, jI_6, jI_7, jI_8, jI_9, jI_10, jI_11, jI_12, jI_13, jI_14, jI_15, jI_16, jI_20, jI_24, jI_26, jI_30, jI_31, jI_32, jI_40, jI_48, jI_56, jI_57, jI_59, jI_60, jI_97, jI_99, jI_122, jI_160, jI_240, jI_255, jI_768, jI_1000, ↓jN_1, ↓jN_2, ↓jN_3, ↓jN_4, ↓jN_8, ↓jN_10, ↓jN_11, ↓jN_12, ↓jN_14, ↓jN_20, jI_addN, jI_le, jI_lt, jI_eq, jI_cl, jI_in, jI_add, jI_sub, jI_eqN, gI_eqI, gI_eqN, gI_leI, gI_ltI, jI_leN, jI_ltN, gI_sub, pif_tt, pif_ff, pg_tt, isB, or_true, true_or, pif_T, pif_F, pg_T, pb_S, upd_e, upd_n, fX9_layTable_81, fX9_layTable_133, fX9_layTable_134, hs, w1, v1]
  · intro fu p hp
    have hc := plc_lt (K := W) hi
    unfold plc at hc
    subst hp
    simp (disch := omega) only [jI_0, jI_1, jI_2, jI_3, jI_4, jI_5, jI_6, jI_7, jI_8, jI_9, jI_10, jI_11, jI_12, jI_13, jI_14, jI_15, jI_16, jI_20, jI_24, jI_26, jI_30, jI_31, jI_32, jI_40, jI_48, jI_56, jI_57, jI_59, jI_60, jI_97, jI_99, jI_122, jI_160, jI_240, jI_255, jI_768, jI_1000, ↓jN_1, ↓jN_2, ↓jN_3, ↓jN_4, ↓jN_8, ↓jN_10, ↓jN_11, ↓jN_12, ↓jN_14, ↓jN_20, jI_addN, jI_le, jI_lt, jI_eq, jI_cl, jI_in, jI_add, jI_sub, jI_eqN, gI_eqI, gI_eqN, gI_leI, gI_ltI, jI_leN, jI_ltN, gI_sub, pif_tt, pif_ff, pg_tt, isB, or_true, true_or, pif_T, pif_F, pg_T, pb_S, upd_e, upd_n, fX9_layTable_81, hs]
theorem layT_68 {W : Nat → Nat} (hN : 100 ≤ N) (hh : c_holds 0 = jI n) (hW : ∀ j, j < n → c_won j = jI (W j) ∧ W j ≤ 30) (hn : n ≤ 6) : ∃ cp cs, (fX9_layTable_68 N c_firsts c_goes c_holds c_many c_seconds (jI pg) N 0 c_placeOf c_sideAt c_won) = some (cp, cs, c_won) ∧ (∀ p, p < n → cs p = jI (ordN W n p)) ∧ (∀ i, i < n → cp i = jI (plc n W i)) := by
  have hs := sidesM (N := N) hh
  have key := for_up (fun f i (q : (Nat → Int32) × (Nat → Int32)) => (fX9_layTable_68 N c_firsts c_goes c_holds c_many c_seconds (jI pg) f (jI i) q.1 q.2 c_won)) (fun q => some (q.1, q.2, c_won)) n (fun i q => ∀ j, j < i → q.1 j = jI (plc n W j) ∧ q.2 (plc n W j) = jI j) ?_ ?_ N 0 (c_placeOf, c_sideAt) (by omega) (by omega) (fun j h => by omega)
  · obtain ⟨q, e1, h⟩ := key
    refine ⟨q.1, q.2, e1, fun p hp => ?_, fun i hi => (h i hi).1⟩
    obtain ⟨a, b⟩ := ordN_ok W n p hp
    have := (h _ a).2
    rwa [b] at this
  · intro fu i q hi hp
    refine ⟨(upd q.1 i (jI (plc n W i)), upd q.2 (plc n W i) (jI i)), ?_, fun j hj => ?_⟩
    · have h81 := layT_81 (N := N) (c_firsts := c_firsts) (c_goes := c_goes) (c_many := c_many) (c_seconds := c_seconds) (pg := pg) (c_placeOf := q.1) (c_sideAt := q.2) (fX9_layTable_68 N c_firsts c_goes c_holds c_many c_seconds (jI pg) fu) hN hh hW hn hi
      show fX9_layTable_68 N c_firsts c_goes c_holds c_many c_seconds (jI pg) (fu + 1) (jI i) q.1 q.2 c_won = _
      rw [← h81]
      simp (disch := omega) only [jI_0, jI_1, jI_2, jI_3, jI_4, jI_5, jI_6, jI_7, jI_8, jI_9, jI_10, jI_11, jI_12, jI_13, jI_14, jI_15, jI_16, jI_20, jI_24, jI_26, jI_30, jI_31, jI_32, jI_40, jI_48, jI_56, jI_57, jI_59, jI_60, jI_97, jI_99, jI_122, jI_160, jI_240, jI_255, jI_768, jI_1000, ↓jN_1, ↓jN_2, ↓jN_3, ↓jN_4, ↓jN_8, ↓jN_10, ↓jN_11, ↓jN_12, ↓jN_14, ↓jN_20, jI_addN, jI_le, jI_lt, jI_eq, jI_cl, jI_in, jI_add, jI_sub, jI_eqN, gI_eqI, gI_eqN, gI_leI, gI_ltI, jI_leN, jI_ltN, gI_sub, pif_tt, pif_ff, pg_tt, isB, or_true, true_or, pif_T, pif_F, pg_T, pb_S, upd_e, upd_n, fX9_layTable_68, hs]
    · show upd q.1 i (jI (plc n W i)) j = jI (plc n W j) ∧ upd q.2 (plc n W i) (jI i) (plc n W j) = jI j
      by_cases h : j = i
      · rw [upd_e h, upd_e (by rw [h]), h]; exact ⟨rfl, rfl⟩
      · rw [upd_n h, upd_n (fun c => h (plc_inj (by omega) hi c))]; exact hp j (by omega)
  · intro fu q hp
    simp (disch := omega) only [jI_0, jI_1, jI_2, jI_3, jI_4, jI_5, jI_6, jI_7, jI_8, jI_9, jI_10, jI_11, jI_12, jI_13, jI_14, jI_15, jI_16, jI_20, jI_24, jI_26, jI_30, jI_31, jI_32, jI_40, jI_48, jI_56, jI_57, jI_59, jI_60, jI_97, jI_99, jI_122, jI_160, jI_240, jI_255, jI_768, jI_1000, ↓jN_1, ↓jN_2, ↓jN_3, ↓jN_4, ↓jN_8, ↓jN_10, ↓jN_11, ↓jN_12, ↓jN_14, ↓jN_20, jI_addN, jI_le, jI_lt, jI_eq, jI_cl, jI_in, jI_add, jI_sub, jI_eqN, gI_eqI, gI_eqN, gI_leI, gI_ltI, jI_leN, jI_ltN, gI_sub, pif_tt, pif_ff, pg_tt, isB, or_true, true_or, pif_T, pif_F, pg_T, pb_S, upd_e, upd_n, fX9_layTable_68, hs]
theorem layT_ok (hN : 100 ≤ N) (hpg : pg < 2) (hk : Gk n z f s e) (hG : Gm pg z f s e c_many c_firsts c_seconds c_goes) (hh : c_holds 0 = jI n) : ∃ cp cs cw, (fX9_layTable N c_firsts c_goes c_holds c_many c_placeOf c_seconds c_sideAt c_won (jI pg)) = some (cp, cs, cw) ∧ (∀ i, i < n → cw i = jI (wonN f s e z i)) ∧ (∀ p, p < n → cs p = jI (ordN (wonN f s e z) n p)) ∧ (∀ i, i < n → cp i = jI (plc n (wonN f s e z) i)) := by
  unfold fX9_layTable
  obtain ⟨c1, e1, h1⟩ := layT_2 (N := N) (c_firsts := c_firsts) (c_goes := c_goes) (c_many := c_many) (c_holds := c_holds) (c_seconds := c_seconds) (pg := pg) (c_placeOf := c_placeOf) (c_sideAt := c_sideAt) (c_won := c_won) hN
  obtain ⟨c2, e2, h2⟩ := layT_23 (c_holds := c_holds) (c_placeOf := c_placeOf) (c_sideAt := c_sideAt) (c_won := c1) hN hpg hk hG h1
  obtain ⟨c3, c4, e3, h3, h4⟩ := layT_68 (N := N) (c_firsts := c_firsts) (c_goes := c_goes) (c_many := c_many) (c_seconds := c_seconds) (pg := pg) (c_placeOf := c_placeOf) (c_sideAt := c_sideAt) (c_won := c2) (W := wonN f s e z) hN hh (fun j hj => ⟨h2 j hj, Nat.le_trans (wonN_le _ _ _ _ _) hk.2.1⟩) hk.1
  exact ⟨c3, c4, c2, by rw [e1, e2, e3], h2, h3, h4⟩
end
