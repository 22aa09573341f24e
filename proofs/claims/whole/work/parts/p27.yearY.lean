/-! YEARS: the class, from the season's end on. -/
section
variable {v_champion : Int32} {v_champions : Int32} {v_fewest : Int32} {v_gap : Int32} {v_seed : Int32} {v_widestGap : Int32} {v_p1_kind : Int32} {v_p1_sides : Int32} {c_p1_balls : Nat → Int32} {c_p1_choiceWorth : Nat → Int32} {c_p1_strength : Nat → Int32} {c_p1_wheel : Nat → Int32} {v_season_size : Int32} {c_season_ending : Nat → Int32} {c_season_first : Nat → Int32} {c_season_second : Nat → Int32} {v_standing_sides : Int32} {c_standing_merit : Nat → Int32} {c_standing_order : Nat → Int32} {c_standing_outAt : Nat → Int32} {c_standing_seat : Nat → Int32} {c_standing_toCome : Nat → Int32} {c_standing_turn : Nat → Int32} {c_standing_won : Nat → Int32} {c_strength : Nat → Int32} {c_wasLast : Nat → Int32}
variable {N : Nat} {H : Nat → Nat} {st : Nat → Nat}
theorem noteEndsX {W : Nat → Nat} {y fw m : Nat} {l : Nat → Nat} (hR : Rk H) (hy : y < 40) (hfw : fw ≤ 40) (hm : m < 64) (ho : ∀ p, p < H 0 → c_standing_order p = jI (ordN W (H 0) p)) (hwl : ∀ c, c < H 0 → c_wasLast c = wlI (llN l c y)) (hl : l y = frL (H 0) W 0) : ∃ cw, (fX7_noteEnds N v_champion (jI m) (fwI fw) (jI (H 0)) c_standing_order c_wasLast (jI y)) = some (jI (ordN W (H 0) 0), jI (m ||| 2 ^ ordN W (H 0) 0), fwI (fwU fw y (llN l (ordN W (H 0) 0) y)), cw) ∧ ∀ c, c < H 0 → cw c = wlI (llN l c (y + 1)) := by
  have hn := hR.2.1
  have hn2 := hR.1
  have o0 := ho 0 (by omega)
  have oc := (ordN_ok W (H 0) 0 (by omega)).1
  have w := hwl _ oc
  have hor := (or_ok m hm (ordN W (H 0) 0) (by omega)).1
  have hfl := fromLastX (N := N) (n := H 0) (i := 0) hn (by omega) ho
  have hfl : fX4_fromLast N (jI (H 0)) c_standing_order (jI 0) = some (jI (frL (H 0) W 0)) := hfl
  have hflt := frL_lt (W := W) (n := H 0) (i := 0) (by omega)
  have hll := llN_le l (ordN W (H 0) 0) y
  refine ⟨upd c_wasLast (frL (H 0) W 0) (jI y), ?_, fun c hc => ?_⟩
  · by_cases h0 : llN l (ordN W (H 0) 0) y = 0
    · have w' : c_wasLast (ordN W (H 0) 0) = gI 4 := by rw [w, h0]; rfl
      have hfu : fwU fw y (llN l (ordN W (H 0) 0) y) = fw := by unfold fwU; rw [if_pos h0]
      rw [hfu]
      simp (disch := omega) only [jI_0, jI_1, jI_2, jI_3, jI_4, jI_5, jI_6, jI_7, jI_8, jI_9, jI_10, jI_11, jI_12, jI_13, jI_14, jI_15, jI_16, jI_20, jI_24, jI_26, jI_30, jI_31, jI_32, jI_40, jI_48, jI_56, jI_57, jI_59, jI_60, jI_97, jI_99, jI_122, jI_160, jI_240, jI_255, jI_768, jI_1000, ↓jN_1, ↓jN_2, ↓jN_3, ↓jN_4, ↓jN_8, ↓jN_10, ↓jN_11, ↓jN_12, ↓jN_14, ↓jN_20, jI_addN, jI_le, jI_lt, jI_eq, jI_cl, jI_in, jI_add, jI_sub, jI_eqN, gI_eqI, gI_eqN, gI_leI, gI_ltI, jI_leN, jI_ltN, gI_sub, pif_tt, pif_ff, pg_tt, isB, or_true, true_or, pif_T, pif_F, pg_T, pb_S, upd_e, upd_n, fX7_noteEnds, fX7_noteEnds_79, o0, w', hor, hfl]
    · have w' : c_wasLast (ordN W (H 0) 0) = jI (llN l (ordN W (H 0) 0) y - 1) := by rw [w]; unfold wlI; rw [if_neg h0]
      by_cases hf0 : fw = 0
      · have hfu : fwU fw y (llN l (ordN W (H 0) 0) y) = y - (llN l (ordN W (H 0) 0) y - 1) := by unfold fwU; rw [if_neg h0, if_pos hf0]; omega
        have hfi : fwI fw = gI 4 := by unfold fwI; rw [if_pos hf0]
        have hfi2 : fwI (y - (llN l (ordN W (H 0) 0) y - 1)) = jI (y - (llN l (ordN W (H 0) 0) y - 1)) := by unfold fwI; rw [if_neg (by omega)]
        rw [hfu, hfi, hfi2]
        simp (disch := omega) only [jI_0, jI_1, jI_2, jI_3, jI_4, jI_5, jI_6, jI_7, jI_8, jI_9, jI_10, jI_11, jI_12, jI_13, jI_14, jI_15, jI_16, jI_20, jI_24, jI_26, jI_30, jI_31, jI_32, jI_40, jI_48, jI_56, jI_57, jI_59, jI_60, jI_97, jI_99, jI_122, jI_160, jI_240, jI_255, jI_768, jI_1000, ↓jN_1, ↓jN_2, ↓jN_3, ↓jN_4, ↓jN_8, ↓jN_10, ↓jN_11, ↓jN_12, ↓jN_14, ↓jN_20, jI_addN, jI_le, jI_lt, jI_eq, jI_cl, jI_in, jI_add, jI_sub, jI_eqN, gI_eqI, gI_eqN, gI_leI, gI_ltI, jI_leN, jI_ltN, gI_sub, pif_tt, pif_ff, pg_tt, isB, or_true, true_or, pif_T, pif_F, pg_T, pb_S, upd_e, upd_n, fX7_noteEnds, fX7_noteEnds_76, fX7_noteEnds_79, o0, w', hor, hfl]
      · have hfu : fwU fw y (llN l (ordN W (H 0) 0) y) = min (y - (llN l (ordN W (H 0) 0) y - 1)) fw := by unfold fwU; rw [if_neg h0, if_neg hf0]; omega
        have hfi : fwI fw = jI fw := by unfold fwI; rw [if_neg hf0]
        have hfi2 : fwI (min (y - (llN l (ordN W (H 0) 0) y - 1)) fw) = jI (min (y - (llN l (ordN W (H 0) 0) y - 1)) fw) := by unfold fwI; rw [if_neg (by omega)]
        rw [hfu, hfi, hfi2]
        simp (disch := omega) only [jI_0, jI_1, jI_2, jI_3, jI_4, jI_5, jI_6, jI_7, jI_8, jI_9, jI_10, jI_11, jI_12, jI_13, jI_14, jI_15, jI_16, jI_20, jI_24, jI_26, jI_30, jI_31, jI_32, jI_40, jI_48, jI_56, jI_57, jI_59, jI_60, jI_97, jI_99, jI_122, jI_160, jI_240, jI_255, jI_768, jI_1000, ↓jN_1, ↓jN_2, ↓jN_3, ↓jN_4, ↓jN_8, ↓jN_10, ↓jN_11, ↓jN_12, ↓jN_14, ↓jN_20, jI_addN, jI_le, jI_lt, jI_eq, jI_cl, jI_in, jI_add, jI_sub, jI_eqN, gI_eqI, gI_eqN, gI_leI, gI_ltI, jI_leN, jI_ltN, gI_sub, pif_tt, pif_ff, pg_tt, isB, or_true, true_or, pif_T, pif_F, pg_T, pb_S, upd_e, upd_n, fX7_noteEnds, fX7_noteEnds_76, fX7_noteEnds_79, o0, w', hor, hfl, jI_mn]
  · simp only [llN]
    by_cases h : c = frL (H 0) W 0
    · rw [upd_e h, if_pos (by rw [hl, h])]
      unfold wlI
      rw [if_neg (by omega)]; rfl
    · rw [upd_n h, if_neg (fun q => h (by rw [← q, hl]))]; exact hwl c hc
theorem drawBallX {W : Nat → Nat} {x : Int32} (hN : 100 ≤ N) (hR : Rk H) (hk1 : H 1 = 1) (hb : ∀ j, j < 6 → c_p1_balls j = jI (H (20 + j))) (ho : ∀ p, p < H 0 → c_standing_order p = jI (ordN W (H 0) p)) : fX7_drawBall N (sdN x (zR (H 0))) (jI (H 0)) c_p1_balls (jI (H 0)) c_standing_order = some (jI (frL (H 0) W (yB H x)), sdN x (zR (H 0) + 1)) := by
  have hn := hR.2.1
  have hp := hR.2.2.2.2.2 hk1
  have hle := balls_le hR hn
  have e1 := allBallsX (N := N) hN hR hb
  have e2 := drawX (N := N) (k := sumN (H 0) (fun j => H (20 + j))) (x := sdN x (zR (H 0))) hp (by omega)
  have hlt := yB_lt hR x
  have hyb : yB H x = blN (fun j => H (20 + j)) (H 0) 0 (bN (sdN x (zR (H 0) + 1)) % sumN (H 0) (fun j => H (20 + j))) := if_pos hk1
  have hv : bN (sdN x (zR (H 0) + 1)) % sumN (H 0) (fun j => H (20 + j)) < sumN (H 0) (fun j => H (20 + j)) := Nat.mod_lt _ hp
  have key : Ok (fX7_drawBall_11 N (jI (H 0)) c_p1_balls (jI (H 0)) c_standing_order N (jI (bN (sdN x (zR (H 0) + 1)) % sumN (H 0) (fun j => H (20 + j)))) (jI 0) (sdN x (zR (H 0) + 1))) (fun q => q = (jI (frL (H 0) W (yB H x)), sdN x (zR (H 0) + 1))) := by
    refine up_ok (fun fu d v => fX7_drawBall_11 N (jI (H 0)) c_p1_balls (jI (H 0)) c_standing_order fu (jI v) (jI d) (sdN x (zR (H 0) + 1))) _ (H 0) (fun d v => v < 200 ∧ blN (fun j => H (20 + j)) (H 0 - d) d v = yB H x) ?_ ?_ N 0 _ (by omega) (by omega) ⟨by omega, hyb.symm⟩
    · intro fu d v hd ⟨hv2, hbl⟩ ih
      have hbd := hb d (by omega)
      have hb20 := (hR.2.2.2.1 d (by omega)).2.2.2.2.1
      rw [show H 0 - d = (H 0 - (d + 1)) + 1 by omega] at hbl
      simp only [blN] at hbl
      by_cases hc : H (20 + d) ≤ v
      · rw [if_pos hc] at hbl
        simp (disch := omega) only [jI_0, jI_1, jI_2, jI_3, jI_4, jI_5, jI_6, jI_7, jI_8, jI_9, jI_10, jI_11, jI_12, jI_13, jI_14, jI_15, jI_16, jI_20, jI_24, jI_26, jI_30, jI_31, jI_32, jI_40, jI_48, jI_56, jI_57, jI_59, jI_60, jI_97, jI_99, jI_122, jI_160, jI_240, jI_255, jI_768, jI_1000, ↓jN_1, ↓jN_2, ↓jN_3, ↓jN_4, ↓jN_8, ↓jN_10, ↓jN_11, ↓jN_12, ↓jN_14, ↓jN_20, jI_addN, jI_le, jI_lt, jI_eq, jI_cl, jI_in, jI_add, jI_sub, jI_eqN, gI_eqI, gI_eqN, gI_leI, gI_ltI, jI_leN, jI_ltN, gI_sub, pif_tt, pif_ff, pg_tt, isB, or_true, true_or, pif_T, pif_F, pg_T, pb_S, upd_e, upd_n, fX7_drawBall_11, hbd]
        exact ih _ ⟨by omega, hbl⟩
      · rw [if_neg hc] at hbl
        have hfl := fromLastX (N := N) (n := H 0) hn hd ho
        simp (disch := omega) only [jI_0, jI_1, jI_2, jI_3, jI_4, jI_5, jI_6, jI_7, jI_8, jI_9, jI_10, jI_11, jI_12, jI_13, jI_14, jI_15, jI_16, jI_20, jI_24, jI_26, jI_30, jI_31, jI_32, jI_40, jI_48, jI_56, jI_57, jI_59, jI_60, jI_97, jI_99, jI_122, jI_160, jI_240, jI_255, jI_768, jI_1000, ↓jN_1, ↓jN_2, ↓jN_3, ↓jN_4, ↓jN_8, ↓jN_10, ↓jN_11, ↓jN_12, ↓jN_14, ↓jN_20, jI_addN, jI_le, jI_lt, jI_eq, jI_cl, jI_in, jI_add, jI_sub, jI_eqN, gI_eqI, gI_eqN, gI_leI, gI_ltI, jI_leN, jI_ltN, gI_sub, pif_tt, pif_ff, pg_tt, isB, or_true, true_or, pif_T, pif_F, pg_T, pb_S, upd_e, upd_n, fX7_drawBall_11, hbd, hfl]
        exact Ok.s (by rw [← hbl])
    · intro fu v ⟨hv2, hbl⟩
      rw [Nat.sub_self] at hbl
      simp only [blN] at hbl
      omega
  obtain ⟨a, e3, rfl⟩ := key
  rw [← sdN_succ] at e2
  simp (disch := omega) only [jI_0, jI_1, jI_2, jI_3, jI_4, jI_5, jI_6, jI_7, jI_8, jI_9, jI_10, jI_11, jI_12, jI_13, jI_14, jI_15, jI_16, jI_20, jI_24, jI_26, jI_30, jI_31, jI_32, jI_40, jI_48, jI_56, jI_57, jI_59, jI_60, jI_97, jI_99, jI_122, jI_160, jI_240, jI_255, jI_768, jI_1000, ↓jN_1, ↓jN_2, ↓jN_3, ↓jN_4, ↓jN_8, ↓jN_10, ↓jN_11, ↓jN_12, ↓jN_14, ↓jN_20, jI_addN, jI_le, jI_lt, jI_eq, jI_cl, jI_in, jI_add, jI_sub, jI_eqN, gI_eqI, gI_eqN, gI_leI, gI_ltI, jI_leN, jI_ltN, gI_sub, pif_tt, pif_ff, pg_tt, isB, or_true, true_or, pif_T, pif_F, pg_T, pb_S, upd_e, upd_n, fX7_drawBall, e1, e2, e3]
theorem shareX {x : Int32} (hN : 100 ≤ N) (hR : Rk H) (hkd : v_p1_kind = jI (H 1)) (hb : ∀ j, j < 6 → c_p1_balls j = jI (H (20 + j))) (hcw : ∀ j, j < 6 → c_p1_choiceWorth j = jI (H (14 + j))) (hw : ∀ j, j < 6 → c_p1_wheel j = jI (H (26 + j))) (hst : ∀ i, i < H 0 → 1 ≤ st i ∧ st i ≤ 9) (hs : ∀ i, i < H 0 → c_strength i = jI (st i)) (ho : ∀ p, p < H 0 → c_standing_order p = jI (ordN (yW (H 0) x st) (H 0) p)) (hG : Gc (zR (H 0)) (rF (H 0)) (rS (H 0)) (yE (H 0) x st) (jI (zR (H 0))) c_season_first c_season_second c_season_ending) : Ok ((fX7_shareBoys N (sdN x (zR (H 0))) v_p1_kind (jI (H 0)) c_p1_balls c_p1_choiceWorth c_p1_wheel (jI (zR (H 0))) c_season_ending c_season_first c_season_second (jI (H 0)) c_standing_merit c_standing_order c_standing_outAt c_standing_toCome c_standing_turn c_standing_won c_strength)) (fun q => q.1 = ySd H x ∧ ∀ i, i < H 0 → q.2.2.2.2.2.2 i = jI (gwN (yCh H x st) (fun j => H (14 + j)) st (H 0) i)) := by
  have hn := hR.2.1
  have hk4 := hR.2.2.1
  have hz15 := zR_le hn
  subst hkd
  obtain ⟨⟨q1, q2, q3, q4⟩, e3, h3⟩ := findOut_ok (N := N) (c_merit := c_standing_merit) (c_outAt := c_standing_outAt) (c_toCome := c_standing_toCome) (c_won := c_standing_won) hN (yGk hn x st) hG
  have fin : ∀ s2 sd, sd = ySd H x → (H 1 = 1 → s2 = jI (frL (H 0) (yW (H 0) x st) (yB H x))) → Ok ((fX7_shareBoys_33 N (jI (H 1)) (jI (H 0)) c_p1_balls c_p1_choiceWorth c_p1_wheel (jI (zR (H 0))) c_season_ending c_season_first c_season_second (jI (H 0)) c_standing_order s2 sd q1 q2 q3 c_standing_turn q4 c_strength)) (fun q => q.1 = ySd H x ∧ ∀ i, i < H 0 → q.2.2.2.2.2.2 i = jI (gwN (yCh H x st) (fun j => H (14 + j)) st (H 0) i)) := by
    intro s2 sd hsd hs2
    obtain ⟨ct2, e4, h5⟩ := arrangeX (N := N) (n := H 0) (c_turn := c_standing_turn) (c_merit := q1) (kd := H 1) (M := yM (H 0) x st) (W := yW (H 0) x st) (wh := fun j => H (26 + j)) (d := yB H x) (x2 := s2) hN hn hk4 (yB_lt hR x) ho (fun c hc => hw c (by omega)) (fun _ j hj => ⟨(h3 j hj).1, by have := merT_le (H 0) (rF (H 0)) (rS (H 0)) (yE (H 0) x st) (zR (H 0)) (zR (H 0)) j; unfold yM; omega⟩) hs2
    simp (disch := omega) only [jI_0, jI_1, jI_2, jI_3, jI_4, jI_5, jI_6, jI_7, jI_8, jI_9, jI_10, jI_11, jI_12, jI_13, jI_14, jI_15, jI_16, jI_20, jI_24, jI_26, jI_30, jI_31, jI_32, jI_40, jI_48, jI_56, jI_57, jI_59, jI_60, jI_97, jI_99, jI_122, jI_160, jI_240, jI_255, jI_768, jI_1000, ↓jN_1, ↓jN_2, ↓jN_3, ↓jN_4, ↓jN_8, ↓jN_10, ↓jN_11, ↓jN_12, ↓jN_14, ↓jN_20, jI_addN, jI_le, jI_lt, jI_eq, jI_cl, jI_in, jI_add, jI_sub, jI_eqN, gI_eqI, gI_eqN, gI_leI, gI_ltI, jI_leN, jI_ltN, gI_sub, pif_tt, pif_ff, pg_tt, isB, or_true, true_or, pif_T, pif_F, pg_T, pb_S, upd_e, upd_n, fX7_shareBoys_33, e4]
    refine up_ok (fun fu c cs => (fX7_shareBoys_38 N (jI (H 1)) (jI (H 0)) c_p1_balls c_p1_choiceWorth c_p1_wheel (jI (zR (H 0))) c_season_ending c_season_first c_season_second (jI (H 0)) c_standing_order fu (jI c) sd q1 q2 q3 ct2 q4 cs)) _ (H 0) (fun c cs => ∀ i, i < H 0 → cs i = jI (gwN (yCh H x st) (fun j => H (14 + j)) st c i)) ?_ ?_ N 0 c_strength (by omega) (by omega) hs
    · intro fu c cs hc hcs ih
      have t1 : ct2 c = jI (yCh H x st c) := h5 c hc
      have t2 : yCh H x st c < H 0 := chN_lt (kd := H 1) (n := H 0) (W := yW (H 0) x st) (M := yM (H 0) x st) (wh := fun j => H (26 + j)) (d := yB H x) (c := c) hR.2.2.2.2.1 (yB_lt hR x) hc
      have t3 := hcs _ t2
      have t4 := hcw c (by omega)
      have t5 := (hR.2.2.2.1 c (by omega)).2.2.2.1
      have t6 := gwN_le (ch := yCh H x st) (cw := fun j => H (14 + j)) (n := H 0) hst c _ t2
      simp (disch := omega) only [jI_0, jI_1, jI_2, jI_3, jI_4, jI_5, jI_6, jI_7, jI_8, jI_9, jI_10, jI_11, jI_12, jI_13, jI_14, jI_15, jI_16, jI_20, jI_24, jI_26, jI_30, jI_31, jI_32, jI_40, jI_48, jI_56, jI_57, jI_59, jI_60, jI_97, jI_99, jI_122, jI_160, jI_240, jI_255, jI_768, jI_1000, ↓jN_1, ↓jN_2, ↓jN_3, ↓jN_4, ↓jN_8, ↓jN_10, ↓jN_11, ↓jN_12, ↓jN_14, ↓jN_20, jI_addN, jI_le, jI_lt, jI_eq, jI_cl, jI_in, jI_add, jI_sub, jI_eqN, gI_eqI, gI_eqN, gI_leI, gI_ltI, jI_leN, jI_ltN, gI_sub, pif_tt, pif_ff, pg_tt, isB, or_true, true_or, pif_T, pif_F, pg_T, pb_S, upd_e, upd_n, fX7_shareBoys_38, t1, t3, t4, jI_div, jI_mn, jI_mx]
      refine ih _ (fun i hi => ?_)
      simp only [gwN]
      by_cases e : i = yCh H x st c
      · rw [upd_e e, updN_e e]; rfl
      · rw [upd_n e, updN_n e]; exact hcs i hi
    · intro fu cs hcs
      simp (disch := omega) only [jI_0, jI_1, jI_2, jI_3, jI_4, jI_5, jI_6, jI_7, jI_8, jI_9, jI_10, jI_11, jI_12, jI_13, jI_14, jI_15, jI_16, jI_20, jI_24, jI_26, jI_30, jI_31, jI_32, jI_40, jI_48, jI_56, jI_57, jI_59, jI_60, jI_97, jI_99, jI_122, jI_160, jI_240, jI_255, jI_768, jI_1000, ↓jN_1, ↓jN_2, ↓jN_3, ↓jN_4, ↓jN_8, ↓jN_10, ↓jN_11, ↓jN_12, ↓jN_14, ↓jN_20, jI_addN, jI_le, jI_lt, jI_eq, jI_cl, jI_in, jI_add, jI_sub, jI_eqN, gI_eqI, gI_eqN, gI_leI, gI_ltI, jI_leN, jI_ltN, gI_sub, pif_tt, pif_ff, pg_tt, isB, or_true, true_or, pif_T, pif_F, pg_T, pb_S, upd_e, upd_n, fX7_shareBoys_38]
      exact Ok.s ⟨hsd, hcs⟩
  by_cases hk1 : H 1 = 1
  · have e5 := drawBallX (N := N) (x := x) hN hR hk1 hb ho
    have f2 := fin _ (sdN x (zR (H 0) + 1)) (by unfold ySd; rw [if_pos hk1]) (fun _ => rfl)
    simp (disch := omega) only [jI_0, jI_1, jI_2, jI_3, jI_4, jI_5, jI_6, jI_7, jI_8, jI_9, jI_10, jI_11, jI_12, jI_13, jI_14, jI_15, jI_16, jI_20, jI_24, jI_26, jI_30, jI_31, jI_32, jI_40, jI_48, jI_56, jI_57, jI_59, jI_60, jI_97, jI_99, jI_122, jI_160, jI_240, jI_255, jI_768, jI_1000, ↓jN_1, ↓jN_2, ↓jN_3, ↓jN_4, ↓jN_8, ↓jN_10, ↓jN_11, ↓jN_12, ↓jN_14, ↓jN_20, jI_addN, jI_le, jI_lt, jI_eq, jI_cl, jI_in, jI_add, jI_sub, jI_eqN, gI_eqI, gI_eqN, gI_leI, gI_ltI, jI_leN, jI_ltN, gI_sub, pif_tt, pif_ff, pg_tt, isB, or_true, true_or, pif_T, pif_F, pg_T, pb_S, upd_e, upd_n, fX7_shareBoys, e3, e5]
    exact f2
  · have f2 := fin (jI 0) (sdN x (zR (H 0))) (by unfold ySd; rw [if_neg hk1]) (fun h => absurd h hk1)
    simp (disch := omega) only [jI_0, jI_1, jI_2, jI_3, jI_4, jI_5, jI_6, jI_7, jI_8, jI_9, jI_10, jI_11, jI_12, jI_13, jI_14, jI_15, jI_16, jI_20, jI_24, jI_26, jI_30, jI_31, jI_32, jI_40, jI_48, jI_56, jI_57, jI_59, jI_60, jI_97, jI_99, jI_122, jI_160, jI_240, jI_255, jI_768, jI_1000, ↓jN_1, ↓jN_2, ↓jN_3, ↓jN_4, ↓jN_8, ↓jN_10, ↓jN_11, ↓jN_12, ↓jN_14, ↓jN_20, jI_addN, jI_le, jI_lt, jI_eq, jI_cl, jI_in, jI_add, jI_sub, jI_eqN, gI_eqI, gI_eqN, gI_leI, gI_ltI, jI_leN, jI_ltN, gI_sub, pif_tt, pif_ff, pg_tt, isB, or_true, true_or, pif_T, pif_F, pg_T, pb_S, upd_e, upd_n, fX7_shareBoys, e3]
    exact f2
theorem gapX (hN : 100 ≤ N) (hn : 2 ≤ H 0) (hn6 : H 0 ≤ 6) (hst : ∀ i, i < H 0 → 1 ≤ st i ∧ st i ≤ 9) (hs : ∀ i, i < H 0 → c_strength i = jI (st i)) : (fX7_gapOf N c_strength (jI (H 0))) = some (jI (gpN (H 0) st)) := by
  have s0 := hs 0 (by omega)
  have t0 := hst 0 (by omega)
  have key : Ok ((fX7_gapOf_17 N c_strength (jI (H 0)) N (jI (st 0)) (jI (st 0)) (jI 1))) (fun q => q = jI (gpN (H 0) st)) := by
    refine up_ok (fun fu m (q : Nat × Nat) => (fX7_gapOf_17 N c_strength (jI (H 0)) fu (jI q.1) (jI q.2) (jI m))) _ (H 0) (fun m q => q.1 = mnX st m ∧ q.2 = mxN m st ∧ q.1 ≤ 9 ∧ q.2 ≤ 9 ∧ q.1 ≤ q.2) ?_ ?_ N 1 (st 0, st 0) (by omega) (by omega) ⟨by simp only [mnX]; omega, by simp only [mxN]; omega, t0.2, t0.2, Nat.le_refl _⟩
    · intro fu m ⟨a, b⟩ hm ⟨h1, h2, h3, h4, h5⟩ ih
      simp only at h1 h2 h3 h4 h5
      have sm := hs m hm
      have tm := hst m hm
      simp (disch := omega) only [jI_0, jI_1, jI_2, jI_3, jI_4, jI_5, jI_6, jI_7, jI_8, jI_9, jI_10, jI_11, jI_12, jI_13, jI_14, jI_15, jI_16, jI_20, jI_24, jI_26, jI_30, jI_31, jI_32, jI_40, jI_48, jI_56, jI_57, jI_59, jI_60, jI_97, jI_99, jI_122, jI_160, jI_240, jI_255, jI_768, jI_1000, ↓jN_1, ↓jN_2, ↓jN_3, ↓jN_4, ↓jN_8, ↓jN_10, ↓jN_11, ↓jN_12, ↓jN_14, ↓jN_20, jI_addN, jI_le, jI_lt, jI_eq, jI_cl, jI_in, jI_add, jI_sub, jI_eqN, gI_eqI, gI_eqN, gI_leI, gI_ltI, jI_leN, jI_ltN, gI_sub, pif_tt, pif_ff, pg_tt, isB, or_true, true_or, pif_T, pif_F, pg_T, pb_S, upd_e, upd_n, fX7_gapOf_17, sm, jI_mn, jI_mx]
      refine ih (_, _) ⟨?_, ?_, ?_, ?_, ?_⟩
      · simp only [mnX]; omega
      · simp only [mxN]; omega
      · simp only; omega
      · simp only; omega
      · simp only; omega
    · intro fu ⟨a, b⟩ ⟨h1, h2, h3, h4, h5⟩
      simp only at h1 h2 h3 h4 h5
      simp (disch := omega) only [jI_0, jI_1, jI_2, jI_3, jI_4, jI_5, jI_6, jI_7, jI_8, jI_9, jI_10, jI_11, jI_12, jI_13, jI_14, jI_15, jI_16, jI_20, jI_24, jI_26, jI_30, jI_31, jI_32, jI_40, jI_48, jI_56, jI_57, jI_59, jI_60, jI_97, jI_99, jI_122, jI_160, jI_240, jI_255, jI_768, jI_1000, ↓jN_1, ↓jN_2, ↓jN_3, ↓jN_4, ↓jN_8, ↓jN_10, ↓jN_11, ↓jN_12, ↓jN_14, ↓jN_20, jI_addN, jI_le, jI_lt, jI_eq, jI_cl, jI_in, jI_add, jI_sub, jI_eqN, gI_eqI, gI_eqN, gI_leI, gI_ltI, jI_leN, jI_ltN, gI_sub, pif_tt, pif_ff, pg_tt, isB, or_true, true_or, pif_T, pif_F, pg_T, pb_S, upd_e, upd_n, fX7_gapOf_17]
      exact Ok.s (by unfold gpN; rw [h1, h2])
  obtain ⟨a, e1, rfl⟩ := key
  simp (disch := omega) only [jI_0, jI_1, jI_2, jI_3, jI_4, jI_5, jI_6, jI_7, jI_8, jI_9, jI_10, jI_11, jI_12, jI_13, jI_14, jI_15, jI_16, jI_20, jI_24, jI_26, jI_30, jI_31, jI_32, jI_40, jI_48, jI_56, jI_57, jI_59, jI_60, jI_97, jI_99, jI_122, jI_160, jI_240, jI_255, jI_768, jI_1000, ↓jN_1, ↓jN_2, ↓jN_3, ↓jN_4, ↓jN_8, ↓jN_10, ↓jN_11, ↓jN_12, ↓jN_14, ↓jN_20, jI_addN, jI_le, jI_lt, jI_eq, jI_cl, jI_in, jI_add, jI_sub, jI_eqN, gI_eqI, gI_eqN, gI_leI, gI_ltI, jI_leN, jI_ltN, gI_sub, pif_tt, pif_ff, pg_tt, isB, or_true, true_or, pif_T, pif_F, pg_T, pb_S, upd_e, upd_n, fX7_gapOf, s0]
  exact e1
end
