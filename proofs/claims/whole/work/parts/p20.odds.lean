/-! odds and may. -/
section
variable {v_depth : Int32} {c_leaf : Nat → Int64} {c_ofFirst : Nat → Int32} {c_open : Nat → Int32} {v_p1_kind : Int32} {v_p1_rounds : Int32} {v_p1_sides : Int32} {c_p1_balls : Nat → Int32} {c_p1_choiceWorth : Nat → Int32} {c_p1_placeWorth : Nat → Int32} {c_p1_strength : Nat → Int32} {c_p1_wheel : Nat → Int32} {v_p2_size : Int32} {c_p2_ending : Nat → Int32} {c_p2_first : Nat → Int32} {c_p2_second : Nat → Int32} {v_rules_kind : Int32} {v_rules_rounds : Int32} {v_rules_sides : Int32} {c_rules_balls : Nat → Int32} {c_rules_choiceWorth : Nat → Int32} {c_rules_placeWorth : Nat → Int32} {c_rules_strength : Nat → Int32} {c_rules_wheel : Nat → Int32} {v_standing_sides : Int32} {c_standing_order : Nat → Int32} {c_standing_seat : Nat → Int32} {c_standing_won : Nat → Int32} {v_trial_size : Int32} {c_trial_ending : Nat → Int32} {c_trial_first : Nat → Int32} {c_trial_second : Nat → Int32}
variable {N z : Nat} {f s e H : Nat → Nat}
/-- the PLACE of a SIDE in a row -/
def plR (n z : Nat) (f s e : Nat → Nat) (r i : Nat) : Nat := plc n (wonN f s (eR e z r) z) i
theorem growPlaceX {i p : Nat} (hN : 1000 ≤ N) (hR : Rk H) (hc : Rc H v_p1_kind v_p1_sides c_p1_balls c_p1_choiceWorth c_p1_placeWorth c_p1_strength c_p1_wheel) (hk : Gk (H 0) z f s e) (hG : Gc z f s e v_p2_size c_p2_first c_p2_second c_p2_ending) (hd : cnt z (isOp e) ≤ 7) (hi : i < H 0) (hp : p < H 0) : Ok ((fX6_growPlace N v_depth c_leaf c_ofFirst c_open v_p1_kind v_p1_rounds v_p1_sides c_p1_balls c_p1_choiceWorth c_p1_placeWorth c_p1_strength c_p1_wheel v_p2_size c_p2_ending c_p2_first c_p2_second v_rules_kind v_rules_rounds v_rules_sides c_rules_balls c_rules_choiceWorth c_rules_placeWorth c_rules_strength c_rules_wheel v_standing_sides c_standing_order c_standing_seat c_standing_won v_trial_size c_trial_ending c_trial_first c_trial_second (jI i) (jI p))) (fun q => TB H z f s e q.1 q.2.2.1 q.2.2.2.1 q.2.2.2.2.1 q.2.2.2.2.2.2.1 q.2.2.2.2.2.2.2.1 q.2.2.2.2.2.2.2.2.1 q.2.2.2.2.2.2.2.2.2.1 q.2.2.2.2.2.2.2.2.2.2.1 q.2.2.2.2.2.2.2.2.2.2.2.1 q.2.2.2.2.2.2.2.2.2.2.2.2.2.2.2.2.1 q.2.2.2.2.2.2.2.2.2.2.2.2.2.2.2.2.2.1 q.2.2.2.2.2.2.2.2.2.2.2.2.2.2.2.2.2.2.1 q.2.2.2.2.2.2.2.2.2.2.2.2.2.2.2.2.2.2.2 ∧ ∀ r, r < 2 ^ cnt z (isOp e) → q.2.1 (6 * r + i) = jL (if plR (H 0) z f s e r i = p then 1 else 0)) := by
  have hz := hk.2.1
  have hn := hR.2.1
  have hp128 := pw_le (cnt z (isOp e)) (by omega)
  have hsh := shl_ok (cnt z (isOp e)) (by omega)
  unfold fX6_growPlace
  refine Ok.b (beginX (by omega) hR hc hk hG hd) ?_
  intro ⟨vd, co, cp, vk, vr, vs, cb, cc, cpw, cst, cwh, vz, ce, cf, cs⟩ hB
  simp only at hB
  obtain ⟨b1, b2, b3, b4, b5⟩ := hB
  have b31 := b3.1
  have b32 := b3.2.1
  subst b1 b4 b31 b32
  refine up_ok (fun fu r (q : (Nat → Int64) × Int32 × (Nat → Int32) × (Nat → Int32) × (Nat → Int32) × (Nat → Int32)) => (fX6_growPlace_9 N v_p1_kind v_p1_rounds v_p1_sides c_p1_balls c_p1_choiceWorth c_p1_placeWorth c_p1_strength c_p1_wheel v_p2_size c_p2_ending c_p2_first c_p2_second (jI i) (jI p) fu (jI r) (jI (cnt z (isOp e))) q.1 co cp (jI (H 1)) vr (jI (H 0)) cb cc cpw cst cwh q.2.1 q.2.2.1 q.2.2.2.1 q.2.2.2.2.1 (jI z) q.2.2.2.2.2 cf cs)) _ (2 ^ cnt z (isOp e)) (fun m q => (∀ r, r < m → q.1 (6 * r + i) = jL (if plR (H 0) z f s e r i = p then 1 else 0)) ∧ (∀ g, g < z → e g ≠ 2 → q.2.2.2.2.2 g = jI (e g))) ?_ ?_ N 0 (c_leaf, v_standing_sides, c_standing_order, c_standing_seat, c_standing_won, ce) (Nat.zero_le _) (by omega) ⟨fun r h => absurd h (Nat.not_lt_zero _), fun g hg => (b5 g hg).2.2⟩
  · intro fu r ⟨cl, vss, cor, cse, cwo, cen⟩ hr ⟨h1, h2⟩ ih
    simp only at h1 h2
    obtain ⟨co2, ct2, cw2, ce2, e2, o1, o2, o3⟩ := lookAtX (N := N) (H := H) (r := r) (v_depth := jI (cnt z (isOp e))) (c_open := cp) (v_rules_sides := jI (H 0)) (v_trial_size := jI z) (v_standing_sides := vss) (c_standing_order := cor) (c_standing_seat := cse) (c_standing_won := cwo) (c_trial_first := cf) (c_trial_second := cs) (c_trial_ending := cen) (by omega) hk hd (by omega) rfl (fun d hd => (b2 d hd).2) rfl rfl (fun g hg => ⟨(b5 g hg).1, (b5 g hg).2.1, h2 g hg⟩)
    have o2i := o2 i hi
    have hpl := plc_lt (K := wonN f s (eR e z r) z) hi
    have h6 : jI r * jI 6 = jI (6 * r) := by rw [jI_mul, Nat.mul_comm]
    have fin : ∀ v, v = (if plR (H 0) z f s e r i = p then 1 else 0) → (∀ r', r' < r + 1 → (vp_updL cl (6 * r + i) (jL v)) (6 * r' + i) = jL (if plR (H 0) z f s e r' i = p then 1 else 0)) ∧ (∀ g, g < z → e g ≠ 2 → ce2 g = jI (e g)) := by
      intro v hv
      refine ⟨fun r' hr' => ?_, fun g hg hne => ?_⟩
      · by_cases hc : r' = r
        · rw [updL_e (by rw [hc]), hv, hc]
        · rw [updL_n (by omega)]; exact h1 r' (by omega)
      · rw [(o3.2 g hg).2.2, eR_else hne]
    by_cases hpp : plc (H 0) (wonN f s (eR e z r) z) i = p
    · simp (disch := omega) only [jI_0, jI_1, jI_2, jI_3, jI_4, jI_5, jI_6, jI_7, jI_8, jI_9, jI_10, jI_11, jI_12, jI_13, jI_14, jI_15, jI_16, jI_20, jI_24, jI_26, jI_30, jI_31, jI_32, jI_40, jI_48, jI_56, jI_57, jI_59, jI_60, jI_97, jI_99, jI_122, jI_160, jI_240, jI_255, jI_768, jI_1000, ↓jN_1, ↓jN_2, ↓jN_3, ↓jN_4, ↓jN_8, ↓jN_10, ↓jN_11, ↓jN_12, ↓jN_14, ↓jN_20, jI_addN, jI_le, jI_lt, jI_eq, jI_cl, jI_in, jI_add, jI_sub, jI_eqN, gI_eqI, gI_eqN, gI_leI, gI_ltI, jI_leN, jI_ltN, gI_sub, pif_tt, pif_ff, pg_tt, isB, or_true, true_or, pif_T, pif_F, pg_T, pb_S, upd_e, upd_n, jL_0, jL_1, jL_2, jL_5, jL_6, jL_15, jL_16, jL_63, jI_mul, jI_L, jL_I, jL_add, jL_sub, jL_mul, fX6_growPlace_9, fX6_growPlace_56, hsh, e2, o2i, h6]
      exact ih (_, jI (H 0), co2, ct2, cw2, ce2) (fin 1 (if_pos (show plR (H 0) z f s e r i = p from hpp)).symm)
    · simp (disch := omega) only [jI_0, jI_1, jI_2, jI_3, jI_4, jI_5, jI_6, jI_7, jI_8, jI_9, jI_10, jI_11, jI_12, jI_13, jI_14, jI_15, jI_16, jI_20, jI_24, jI_26, jI_30, jI_31, jI_32, jI_40, jI_48, jI_56, jI_57, jI_59, jI_60, jI_97, jI_99, jI_122, jI_160, jI_240, jI_255, jI_768, jI_1000, ↓jN_1, ↓jN_2, ↓jN_3, ↓jN_4, ↓jN_8, ↓jN_10, ↓jN_11, ↓jN_12, ↓jN_14, ↓jN_20, jI_addN, jI_le, jI_lt, jI_eq, jI_cl, jI_in, jI_add, jI_sub, jI_eqN, gI_eqI, gI_eqN, gI_leI, gI_ltI, jI_leN, jI_ltN, gI_sub, pif_tt, pif_ff, pg_tt, isB, or_true, true_or, pif_T, pif_F, pg_T, pb_S, upd_e, upd_n, jL_0, jL_1, jL_2, jL_5, jL_6, jL_15, jL_16, jL_63, jI_mul, jI_L, jL_I, jL_add, jL_sub, jL_mul, fX6_growPlace_9, fX6_growPlace_56, hsh, e2, o2i, h6]
      exact ih (_, jI (H 0), co2, ct2, cw2, ce2) (fin 0 (if_neg (show ¬ plR (H 0) z f s e r i = p from hpp)).symm)
  · intro fu ⟨cl, vss, cor, cse, cwo, cen⟩ ⟨h1, h2⟩
    simp only at h1 h2
    simp (disch := omega) only [jI_0, jI_1, jI_2, jI_3, jI_4, jI_5, jI_6, jI_7, jI_8, jI_9, jI_10, jI_11, jI_12, jI_13, jI_14, jI_15, jI_16, jI_20, jI_24, jI_26, jI_30, jI_31, jI_32, jI_40, jI_48, jI_56, jI_57, jI_59, jI_60, jI_97, jI_99, jI_122, jI_160, jI_240, jI_255, jI_768, jI_1000, ↓jN_1, ↓jN_2, ↓jN_3, ↓jN_4, ↓jN_8, ↓jN_10, ↓jN_11, ↓jN_12, ↓jN_14, ↓jN_20, jI_addN, jI_le, jI_lt, jI_eq, jI_cl, jI_in, jI_add, jI_sub, jI_eqN, gI_eqI, gI_eqN, gI_leI, gI_ltI, jI_leN, jI_ltN, gI_sub, pif_tt, pif_ff, pg_tt, isB, or_true, true_or, pif_T, pif_F, pg_T, pb_S, upd_e, upd_n, fX6_growPlace_9, hsh]
    exact Ok.s ⟨⟨rfl, b2, b3, rfl, fun g hg => ⟨(b5 g hg).1, (b5 g hg).2.1, h2 g hg⟩⟩, h1⟩
/-- one of a SIDE's OPEN GAMES is not won in a row -/
def bdB (z : Nat) (f s e : Nat → Nat) (r i k : Nat) : Bool := ownB f s (opN z (isOp e) k) i && !decide (winr f s (eR e z r) (opN z (isOp e) k) = i)
def rcB (n z : Nat) (f s e : Nat → Nat) (i p r : Nat) : Bool := decide (cnt (cnt z (isOp e)) (bdB z f s e r i) = 0) && decide (plR n z f s e r i ≤ p)
theorem winsAllX {n r i : Nat} (hN : 100 ≤ N) (hk : Gk n z f s e) (hn : n ≤ 6) (hi : i < n) (hd : cnt z (isOp e) ≤ 7) (ho : ∀ d, d < cnt z (isOp e) → c_open d = jI (opN z (isOp e) d)) (hG : Gc z f s (eR e z r) v_trial_size c_trial_first c_trial_second c_trial_ending) : (fX6_winsAllOpen N (jI (cnt z (isOp e))) c_open v_trial_size c_trial_ending c_trial_first c_trial_second (jI i)) = some (jI (if cnt (cnt z (isOp e)) (bdB z f s e r i) = 0 then 1 else 0)) := by
  have hz := hk.2.1
  have hv := hG.1
  have key : Ok ((fX6_winsAllOpen_2 N (jI (cnt z (isOp e))) c_open v_trial_size c_trial_ending c_trial_first c_trial_second (jI i) N 0)) (fun q => q = jI (if cnt (cnt z (isOp e)) (bdB z f s e r i) = 0 then 1 else 0)) := by
    refine up_ok (fun fu d (_ : Unit) => (fX6_winsAllOpen_2 N (jI (cnt z (isOp e))) c_open v_trial_size c_trial_ending c_trial_first c_trial_second (jI i) fu (jI d))) _ (cnt z (isOp e)) (fun d _ => cnt d (bdB z f s e r i) = 0) ?_ ?_ N 0 () (by omega) (by omega) rfl
    · intro fu d _ hd2 hp ih
      have ok := op_ok hd2
      have o1 := ok.1
      have o4 := ho d hd2
      obtain ⟨g1, g2, g3⟩ := hG.2 _ o1
      have io := isOfX (N := N) (i := i) hk hn hv o1 (by omega) ⟨g1, g2⟩
      have her : eR e z r (opN z (isOp e) d) < 2 := eR_lt (hk.2.2 _ o1).2.2.2
      have hwx := winX (N := N) (Gk_eR (r := r) hk) hG o1 (by omega)
      have hwl := winr_lt (Gk_eR (r := r) hk) o1 (by omega)
      have hs : cnt (d + 1) (bdB z f s e r i) = cnt d (bdB z f s e r i) + (if bdB z f s e r i d = true then 1 else 0) := rfl
      cases hb : ownB f s (opN z (isOp e) d) i
      · have hbd : bdB z f s e r i d = false := by unfold bdB; rw [hb, Bool.false_and]
        rw [hb] at io
        simp only [Bool.false_eq_true, if_false] at io
        simp (disch := omega) only [jI_0, jI_1, jI_2, jI_3, jI_4, jI_5, jI_6, jI_7, jI_8, jI_9, jI_10, jI_11, jI_12, jI_13, jI_14, jI_15, jI_16, jI_20, jI_24, jI_26, jI_30, jI_31, jI_32, jI_40, jI_48, jI_56, jI_57, jI_59, jI_60, jI_97, jI_99, jI_122, jI_160, jI_240, jI_255, jI_768, jI_1000, ↓jN_1, ↓jN_2, ↓jN_3, ↓jN_4, ↓jN_8, ↓jN_10, ↓jN_11, ↓jN_12, ↓jN_14, ↓jN_20, jI_addN, jI_le, jI_lt, jI_eq, jI_cl, jI_in, jI_add, jI_sub, jI_eqN, gI_eqI, gI_eqN, gI_leI, gI_ltI, jI_leN, jI_ltN, gI_sub, pif_tt, pif_ff, pg_tt, isB, or_true, true_or, pif_T, pif_F, pg_T, pb_S, upd_e, upd_n, fX6_winsAllOpen_2, fX6_winsAllOpen_46, o4, io]
        exact ih () (by rw [hs, hp, hbd]; rfl)
      · rw [hb] at io
        simp only [if_true] at io
        by_cases hw : winr f s (eR e z r) (opN z (isOp e) d) = i
        · have hbd : bdB z f s e r i d = false := by unfold bdB; rw [hb, decide_eq_true hw]; rfl
          simp (disch := omega) only [jI_0, jI_1, jI_2, jI_3, jI_4, jI_5, jI_6, jI_7, jI_8, jI_9, jI_10, jI_11, jI_12, jI_13, jI_14, jI_15, jI_16, jI_20, jI_24, jI_26, jI_30, jI_31, jI_32, jI_40, jI_48, jI_56, jI_57, jI_59, jI_60, jI_97, jI_99, jI_122, jI_160, jI_240, jI_255, jI_768, jI_1000, ↓jN_1, ↓jN_2, ↓jN_3, ↓jN_4, ↓jN_8, ↓jN_10, ↓jN_11, ↓jN_12, ↓jN_14, ↓jN_20, jI_addN, jI_le, jI_lt, jI_eq, jI_cl, jI_in, jI_add, jI_sub, jI_eqN, gI_eqI, gI_eqN, gI_leI, gI_ltI, jI_leN, jI_ltN, gI_sub, pif_tt, pif_ff, pg_tt, isB, or_true, true_or, pif_T, pif_F, pg_T, pb_S, upd_e, upd_n, fX6_winsAllOpen_2, fX6_winsAllOpen_46, o4, io, hwx]
          exact ih () (by rw [hs, hp, hbd]; rfl)
        · have hbd : bdB z f s e r i d = true := by unfold bdB; rw [hb, decide_eq_false hw]; rfl
          have hpos := cnt_pos hd2 hbd
          rw [if_neg (by omega)]
          simp (disch := omega) only [jI_0, jI_1, jI_2, jI_3, jI_4, jI_5, jI_6, jI_7, jI_8, jI_9, jI_10, jI_11, jI_12, jI_13, jI_14, jI_15, jI_16, jI_20, jI_24, jI_26, jI_30, jI_31, jI_32, jI_40, jI_48, jI_56, jI_57, jI_59, jI_60, jI_97, jI_99, jI_122, jI_160, jI_240, jI_255, jI_768, jI_1000, ↓jN_1, ↓jN_2, ↓jN_3, ↓jN_4, ↓jN_8, ↓jN_10, ↓jN_11, ↓jN_12, ↓jN_14, ↓jN_20, jI_addN, jI_le, jI_lt, jI_eq, jI_cl, jI_in, jI_add, jI_sub, jI_eqN, gI_eqI, gI_eqN, gI_leI, gI_ltI, jI_leN, jI_ltN, gI_sub, pif_tt, pif_ff, pg_tt, isB, or_true, true_or, pif_T, pif_F, pg_T, pb_S, upd_e, upd_n, fX6_winsAllOpen_2, fX6_winsAllOpen_46, o4, io, hwx]
          exact Ok.s rfl
    · intro fu _ hp
      rw [if_pos hp]
      simp (disch := omega) only [jI_0, jI_1, jI_2, jI_3, jI_4, jI_5, jI_6, jI_7, jI_8, jI_9, jI_10, jI_11, jI_12, jI_13, jI_14, jI_15, jI_16, jI_20, jI_24, jI_26, jI_30, jI_31, jI_32, jI_40, jI_48, jI_56, jI_57, jI_59, jI_60, jI_97, jI_99, jI_122, jI_160, jI_240, jI_255, jI_768, jI_1000, ↓jN_1, ↓jN_2, ↓jN_3, ↓jN_4, ↓jN_8, ↓jN_10, ↓jN_11, ↓jN_12, ↓jN_14, ↓jN_20, jI_addN, jI_le, jI_lt, jI_eq, jI_cl, jI_in, jI_add, jI_sub, jI_eqN, gI_eqI, gI_eqN, gI_leI, gI_ltI, jI_leN, jI_ltN, gI_sub, pif_tt, pif_ff, pg_tt, isB, or_true, true_or, pif_T, pif_F, pg_T, pb_S, upd_e, upd_n, fX6_winsAllOpen_2]
      exact Ok.s rfl
  obtain ⟨a, e1, rfl⟩ := key
  exact e1
theorem reachesX {i p : Nat} (hN : 1000 ≤ N) (hR : Rk H) (hc : Rc H v_p1_kind v_p1_sides c_p1_balls c_p1_choiceWorth c_p1_placeWorth c_p1_strength c_p1_wheel) (hk : Gk (H 0) z f s e) (hG : Gc z f s e v_p2_size c_p2_first c_p2_second c_p2_ending) (hd : cnt z (isOp e) ≤ 7) (hi : i < H 0) (hp : p < H 0) : Ok ((fX6_reaches N v_depth c_ofFirst c_open v_p1_kind v_p1_rounds v_p1_sides c_p1_balls c_p1_choiceWorth c_p1_placeWorth c_p1_strength c_p1_wheel v_p2_size c_p2_ending c_p2_first c_p2_second v_rules_kind v_rules_rounds v_rules_sides c_rules_balls c_rules_choiceWorth c_rules_placeWorth c_rules_strength c_rules_wheel v_standing_sides c_standing_order c_standing_seat c_standing_won v_trial_size c_trial_ending c_trial_first c_trial_second (jI i) (jI p))) (fun q => q.1 = jI (if 0 < cnt (2 ^ cnt z (isOp e)) (rcB (H 0) z f s e i p) then 1 else 0)) := by
  have hz := hk.2.1
  have hn := hR.2.1
  have hp128 := pw_le (cnt z (isOp e)) (by omega)
  have hsh := shl_ok (cnt z (isOp e)) (by omega)
  unfold fX6_reaches
  refine Ok.b (beginX (by omega) hR hc hk hG hd) ?_
  intro ⟨vd, co, cp, vk, vr, vs, cb, cc, cpw, cst, cwh, vz, ce, cf, cs⟩ hB
  simp only at hB
  obtain ⟨b1, b2, b3, b4, b5⟩ := hB
  have b31 := b3.1
  have b32 := b3.2.1
  subst b1 b4 b31 b32
  refine up_ok (fun fu r (q : Int32 × (Nat → Int32) × (Nat → Int32) × (Nat → Int32) × (Nat → Int32)) => (fX6_reaches_9 N v_p1_kind v_p1_rounds v_p1_sides c_p1_balls c_p1_choiceWorth c_p1_placeWorth c_p1_strength c_p1_wheel v_p2_size c_p2_ending c_p2_first c_p2_second (jI i) (jI p) fu (jI r) (jI (cnt z (isOp e))) co cp (jI (H 1)) vr (jI (H 0)) cb cc cpw cst cwh q.1 q.2.1 q.2.2.1 q.2.2.2.1 (jI z) q.2.2.2.2 cf cs)) _ (2 ^ cnt z (isOp e)) (fun m q => cnt m (rcB (H 0) z f s e i p) = 0 ∧ (∀ g, g < z → e g ≠ 2 → q.2.2.2.2 g = jI (e g))) ?_ ?_ N 0 (v_standing_sides, c_standing_order, c_standing_seat, c_standing_won, ce) (Nat.zero_le _) (by omega) ⟨rfl, fun g hg => (b5 g hg).2.2⟩
  · intro fu r ⟨vss, cor, cse, cwo, cen⟩ hr ⟨h1, h2⟩ ih
    simp only at h1 h2
    obtain ⟨co2, ct2, cw2, ce2, e2, o1, o2, o3⟩ := lookAtX (N := N) (H := H) (r := r) (v_depth := jI (cnt z (isOp e))) (c_open := cp) (v_rules_sides := jI (H 0)) (v_trial_size := jI z) (v_standing_sides := vss) (c_standing_order := cor) (c_standing_seat := cse) (c_standing_won := cwo) (c_trial_first := cf) (c_trial_second := cs) (c_trial_ending := cen) (by omega) hk hd (by omega) rfl (fun d hd => (b2 d hd).2) rfl rfl (fun g hg => ⟨(b5 g hg).1, (b5 g hg).2.1, h2 g hg⟩)
    have o2i := o2 i hi
    have hpl := plc_lt (K := wonN f s (eR e z r) z) hi
    have hwa := winsAllX (N := N) (r := r) (i := i) (v_trial_size := jI z) (c_open := cp) (c_trial_first := cf) (c_trial_second := cs) (c_trial_ending := ce2) (by omega) hk hn hi hd (fun d hd => (b2 d hd).2) o3
    have hs : cnt (r + 1) (rcB (H 0) z f s e i p) = cnt r (rcB (H 0) z f s e i p) + (if rcB (H 0) z f s e i p r = true then 1 else 0) := rfl
    have hce : ∀ g, g < z → e g ≠ 2 → ce2 g = jI (e g) := fun g hg hne => by rw [(o3.2 g hg).2.2, eR_else hne]
    by_cases hpp : plc (H 0) (wonN f s (eR e z r) z) i ≤ p
    · by_cases hbd : cnt (cnt z (isOp e)) (bdB z f s e r i) = 0
      · rw [if_pos hbd] at hwa
        have hrc : rcB (H 0) z f s e i p r = true := by unfold rcB; rw [decide_eq_true hbd, decide_eq_true (show plR (H 0) z f s e r i ≤ p from hpp)]; rfl
        have hpos := cnt_pos hr hrc
        rw [if_pos hpos]
        simp (disch := omega) only [jI_0, jI_1, jI_2, jI_3, jI_4, jI_5, jI_6, jI_7, jI_8, jI_9, jI_10, jI_11, jI_12, jI_13, jI_14, jI_15, jI_16, jI_20, jI_24, jI_26, jI_30, jI_31, jI_32, jI_40, jI_48, jI_56, jI_57, jI_59, jI_60, jI_97, jI_99, jI_122, jI_160, jI_240, jI_255, jI_768, jI_1000, ↓jN_1, ↓jN_2, ↓jN_3, ↓jN_4, ↓jN_8, ↓jN_10, ↓jN_11, ↓jN_12, ↓jN_14, ↓jN_20, jI_addN, jI_le, jI_lt, jI_eq, jI_cl, jI_in, jI_add, jI_sub, jI_eqN, gI_eqI, gI_eqN, gI_leI, gI_ltI, jI_leN, jI_ltN, gI_sub, pif_tt, pif_ff, pg_tt, isB, or_true, true_or, pif_T, pif_F, pg_T, pb_S, upd_e, upd_n, fX6_reaches_9, hsh, e2, o2i, hwa]
        exact Ok.s rfl
      · rw [if_neg hbd] at hwa
        have hrc : rcB (H 0) z f s e i p r = false := by unfold rcB; rw [decide_eq_false hbd]; rfl
        simp (disch := omega) only [jI_0, jI_1, jI_2, jI_3, jI_4, jI_5, jI_6, jI_7, jI_8, jI_9, jI_10, jI_11, jI_12, jI_13, jI_14, jI_15, jI_16, jI_20, jI_24, jI_26, jI_30, jI_31, jI_32, jI_40, jI_48, jI_56, jI_57, jI_59, jI_60, jI_97, jI_99, jI_122, jI_160, jI_240, jI_255, jI_768, jI_1000, ↓jN_1, ↓jN_2, ↓jN_3, ↓jN_4, ↓jN_8, ↓jN_10, ↓jN_11, ↓jN_12, ↓jN_14, ↓jN_20, jI_addN, jI_le, jI_lt, jI_eq, jI_cl, jI_in, jI_add, jI_sub, jI_eqN, gI_eqI, gI_eqN, gI_leI, gI_ltI, jI_leN, jI_ltN, gI_sub, pif_tt, pif_ff, pg_tt, isB, or_true, true_or, pif_T, pif_F, pg_T, pb_S, upd_e, upd_n, fX6_reaches_9, fX6_reaches_50, hsh, e2, o2i, hwa]
        exact ih (jI (H 0), co2, ct2, cw2, ce2) ⟨by rw [hs, h1, hrc]; rfl, hce⟩
    · have hrc : rcB (H 0) z f s e i p r = false := by unfold rcB; rw [decide_eq_false (show ¬ plR (H 0) z f s e r i ≤ p from hpp), Bool.and_false]
      simp (disch := omega) only [jI_0, jI_1, jI_2, jI_3, jI_4, jI_5, jI_6, jI_7, jI_8, jI_9, jI_10, jI_11, jI_12, jI_13, jI_14, jI_15, jI_16, jI_20, jI_24, jI_26, jI_30, jI_31, jI_32, jI_40, jI_48, jI_56, jI_57, jI_59, jI_60, jI_97, jI_99, jI_122, jI_160, jI_240, jI_255, jI_768, jI_1000, ↓jN_1, ↓jN_2, ↓jN_3, ↓jN_4, ↓jN_8, ↓jN_10, ↓jN_11, ↓jN_12, ↓jN_14, ↓jN_20, jI_addN, jI_le, jI_lt, jI_eq, jI_cl, jI_in, jI_add, jI_sub, jI_eqN, gI_eqI, gI_eqN, gI_leI, gI_ltI, jI_leN, jI_ltN, gI_sub, pif_tt, pif_ff, pg_tt, isB, or_true, true_or, pif_T, pif_F, pg_T, pb_S, upd_e, upd_n, fX6_reaches_9, fX6_reaches_50, hsh, e2, o2i]
      exact ih (jI (H 0), co2, ct2, cw2, ce2) ⟨by rw [hs, h1, hrc]; rfl, hce⟩
  · intro fu ⟨vss, cor, cse, cwo, cen⟩ ⟨h1, h2⟩
    rw [if_neg (by omega)]
    simp (disch := omega) only [jI_0, jI_1, jI_2, jI_3, jI_4, jI_5, jI_6, jI_7, jI_8, jI_9, jI_10, jI_11, jI_12, jI_13, jI_14, jI_15, jI_16, jI_20, jI_24, jI_26, jI_30, jI_31, jI_32, jI_40, jI_48, jI_56, jI_57, jI_59, jI_60, jI_97, jI_99, jI_122, jI_160, jI_240, jI_255, jI_768, jI_1000, ↓jN_1, ↓jN_2, ↓jN_3, ↓jN_4, ↓jN_8, ↓jN_10, ↓jN_11, ↓jN_12, ↓jN_14, ↓jN_20, jI_addN, jI_le, jI_lt, jI_eq, jI_cl, jI_in, jI_add, jI_sub, jI_eqN, gI_eqI, gI_eqN, gI_leI, gI_ltI, jI_leN, jI_ltN, gI_sub, pif_tt, pif_ff, pg_tt, isB, or_true, true_or, pif_T, pif_F, pg_T, pb_S, upd_e, upd_n, fX6_reaches_9, hsh]
    exact Ok.s rfl
end
section
variable {v_games_size : Int32} {c_games_ending : Nat → Int32} {c_games_first : Nat → Int32} {c_games_second : Nat → Int32} {v_rules_kind : Int32} {v_rules_rounds : Int32} {v_rules_sides : Int32} {c_rules_balls : Nat → Int32} {c_rules_choiceWorth : Nat → Int32} {c_rules_placeWorth : Nat → Int32} {c_rules_strength : Nat → Int32} {c_rules_wheel : Nat → Int32} {v_tree_depth : Int32} {c_tree_column : Nat → Int64} {c_tree_leaf : Nat → Int64} {c_tree_ofFirst : Nat → Int32} {c_tree_open : Nat → Int32} {v_tree_rules_kind : Int32} {v_tree_rules_rounds : Int32} {v_tree_rules_sides : Int32} {c_tree_rules_balls : Nat → Int32} {c_tree_rules_choiceWorth : Nat → Int32} {c_tree_rules_placeWorth : Nat → Int32} {c_tree_rules_strength : Nat → Int32} {c_tree_rules_wheel : Nat → Int32} {v_tree_standing_sides : Int32} {c_tree_standing_order : Nat → Int32} {c_tree_standing_seat : Nat → Int32} {c_tree_standing_won : Nat → Int32} {v_tree_trial_size : Int32} {c_tree_trial_ending : Nat → Int32} {c_tree_trial_first : Nat → Int32} {c_tree_trial_second : Nat → Int32} {v_open : Int32} {c_firsts : Nat → Int32} {c_goes : Nat → Int32} {c_holds : Nat → Int32} {c_many : Nat → Int32} {c_opens : Nat → Int32} {c_placeOf : Nat → Int32} {c_seconds : Nat → Int32} {c_sideAt : Nat → Int32} {c_won : Nat → Int32}
variable {N z : Nat} {f s e H : Nat → Nat}
theorem c_odds (x1 x2 x3 : Int32) (hN : 1000 ≤ N) (hR : Rk H) (hc : Rc H v_rules_kind v_rules_sides c_rules_balls c_rules_choiceWorth c_rules_placeWorth c_rules_strength c_rules_wheel) (hh : Rm H c_holds) (hk : Gk (H 0) z f s e) (hG : Gc z f s e v_games_size c_games_first c_games_second c_games_ending) (hM : Gm 0 z f s e c_many c_firsts c_seconds c_goes) : Ok ((fX8_odds N v_games_size c_games_ending c_games_first c_games_second v_rules_kind v_rules_rounds v_rules_sides c_rules_balls c_rules_choiceWorth c_rules_placeWorth c_rules_strength c_rules_wheel v_tree_depth c_tree_column c_tree_leaf c_tree_ofFirst c_tree_open v_tree_rules_kind v_tree_rules_rounds v_tree_rules_sides c_tree_rules_balls c_tree_rules_choiceWorth c_tree_rules_placeWorth c_tree_rules_strength c_tree_rules_wheel v_tree_standing_sides c_tree_standing_order c_tree_standing_seat c_tree_standing_won v_tree_trial_size c_tree_trial_ending c_tree_trial_first c_tree_trial_second x1 x2 x3)) (fun a => Ok ((fX9_odds N v_open c_firsts c_goes c_holds c_many c_opens c_placeOf c_seconds c_sideAt c_won x1 x2 x3)) (fun b => a.1 = b.1 ∧ Gm 0 z f s e c_many c_firsts c_seconds b.2.2.1)) := by
  have hn := hR.2.1
  have hz := hk.2.1
  have hcl := cnt_le z (isOp e)
  have hv := hc.2.1
  subst hv
  have o1 := openOnesX (N := N) (by omega) hk hG
  have o2 := openManyM (N := N) (by omega) hk hM
  rcases side_c (N := N) x1 hR hh with ⟨i, hi, rfl, s1, s2⟩ | ⟨s1, s2⟩
  · rcases side_c (N := N) x2 hR hh with ⟨p, hp, rfl, t1, t2⟩ | ⟨t1, t2⟩
    · rcases part_c (N := N) x3 with ⟨w, hw, rfl, p1, p2⟩ | ⟨p1, p2⟩
      · by_cases hd : cnt z (isOp e) ≤ 7
        · have hL : ∀ r, (fun r (_ : Nat) => if plR (H 0) z f s e r i = p then 1 else 0) r i ≤ 100000 := fun r => by simp only; split <;> omega
          have hvl := vAll_lt (H := H) (f := f) (s := s) (i := i) (L := fun r (_ : Nat) => if plR (H 0) z f s e r i = p then 1 else 0) hd hL
          have hp128 := pw_le (cnt z (isOp e)) (by omega)
          have hsh := shl_ok (cnt z (isOp e)) (by omega)
          have hshL := shl_L (cnt z (isOp e)) (by omega)
          have hch := allChancesX (N := N) hd
          have h16 : 0 < 16 ^ cnt z (isOp e) := Nat.pow_pos (by omega)
          have h17 : 16 ^ cnt z (isOp e) ≤ 16 ^ 7 := Nat.pow_le_pow_right (by omega) hd
          simp (disch := omega) only [jI_0, jI_1, jI_2, jI_3, jI_4, jI_5, jI_6, jI_7, jI_8, jI_9, jI_10, jI_11, jI_12, jI_13, jI_14, jI_15, jI_16, jI_20, jI_24, jI_26, jI_30, jI_31, jI_32, jI_40, jI_48, jI_56, jI_57, jI_59, jI_60, jI_97, jI_99, jI_122, jI_160, jI_240, jI_255, jI_768, jI_1000, ↓jN_1, ↓jN_2, ↓jN_3, ↓jN_4, ↓jN_8, ↓jN_10, ↓jN_11, ↓jN_12, ↓jN_14, ↓jN_20, jI_addN, jI_le, jI_lt, jI_eq, jI_cl, jI_in, jI_add, jI_sub, jI_eqN, gI_eqI, gI_eqN, gI_leI, gI_ltI, jI_leN, jI_ltN, gI_sub, pif_tt, pif_ff, pg_tt, isB, or_true, true_or, pif_T, pif_F, pg_T, pb_S, upd_e, upd_n, fX8_odds, s1, t1, p1, o1]
          refine Ok.b (growPlaceX hN hR hc hk hG hd hi hp) ?_
          intro ⟨vd, cl, co, cp, vk, vr, vs, cb, cc, cpw, cst, cwh, ss, so, sse, sw, vz, ce, cf, cs⟩ ⟨hB, hl⟩
          simp only at hB hl
          obtain ⟨rfl, b2, b3, rfl, b5⟩ := hB
          obtain ⟨c2, e2⟩ := expectedX (N := N) (H := H) (f := f) (s := s) (i := i) (L := fun r (_ : Nat) => if plR (H 0) z f s e r i = p then 1 else 0) (c_column := c_tree_column) hN (by omega) hd hz hl b2
          have e4 := partX (N := N) (wh := w) (by omega) (show vN (oW H z f s e) (fun r => if plR (H 0) z f s e r i = p then 1 else 0) (cnt z (isOp e)) (cnt z (isOp e)) 0 < 9223372036854775808 by omega) (show 16 ^ cnt z (isOp e) < 4000000000000000 by omega) h16 hw
          simp only [pb_S, e2, hch, e4]
          refine Ok.s ?_
          obtain ⟨cop, e6, h6⟩ := layOpensM (N := N) (v_open := v_open) (c_opens := c_opens) (by omega) hk hM
          simp (disch := omega) only [jI_0, jI_1, jI_2, jI_3, jI_4, jI_5, jI_6, jI_7, jI_8, jI_9, jI_10, jI_11, jI_12, jI_13, jI_14, jI_15, jI_16, jI_20, jI_24, jI_26, jI_30, jI_31, jI_32, jI_40, jI_48, jI_56, jI_57, jI_59, jI_60, jI_97, jI_99, jI_122, jI_160, jI_240, jI_255, jI_768, jI_1000, ↓jN_1, ↓jN_2, ↓jN_3, ↓jN_4, ↓jN_8, ↓jN_10, ↓jN_11, ↓jN_12, ↓jN_14, ↓jN_20, jI_addN, jI_le, jI_lt, jI_eq, jI_cl, jI_in, jI_add, jI_sub, jI_eqN, gI_eqI, gI_eqN, gI_leI, gI_ltI, jI_leN, jI_ltN, gI_sub, pif_tt, pif_ff, pg_tt, isB, or_true, true_or, pif_T, pif_F, pg_T, pb_S, upd_e, upd_n, jL_0, jL_1, jL_2, jL_5, jL_6, jL_15, jL_16, jL_63, jI_mul, jI_L, jL_I, jL_add, jL_sub, jL_mul, fX9_odds, s2, t2, p2, o2, e6]
          refine up_ok (fun fu r (q : Nat × (Nat → Int32) × (Nat → Int32) × (Nat → Int32) × (Nat → Int32)) => (fX9_odds_53 N c_firsts c_holds c_many c_seconds (jI i) (jI p) (jI w) fu (jL q.1) (jI r) (jI (cnt z (isOp e))) q.2.1 cop q.2.2.1 q.2.2.2.1 q.2.2.2.2)) _ (2 ^ cnt z (isOp e)) (fun m q => q.1 = sumN m (fun r => prN (fa (oW H z f s e) (cnt z (isOp e))) (cnt z (isOp e)) r * (if plR (H 0) z f s e r i = p then 1 else 0)) ∧ Gp z f s e c_many c_firsts c_seconds q.2.1) ?_ ?_ N 0 (0, c_goes, c_placeOf, c_sideAt, c_won) (Nat.zero_le _) (by omega) ⟨rfl, Gp_of hM⟩
          · intro fu r ⟨a, cg, c1, c3, c4⟩ hr ⟨ha, hGp⟩ ih
            simp only at ha hGp
            obtain ⟨cg2, e7, hG2⟩ := setEndsM (N := N) (r := r) (c_opens := cop) (by omega) hk hGp hd (by omega) h6
            obtain ⟨cp2, cs2, cw2, e8, u1, u2, u3⟩ := layT_ok (N := N) (c_placeOf := c1) (c_sideAt := c3) (c_won := c4) (by omega) (by omega) (Gk_eR (r := r) hk) hG2 (hh 0 (by omega))
            have e8 : fX9_layTable N c_firsts cg2 c_holds c_many c1 c_seconds c3 c4 (jI 0) = some (cp2, cs2, cw2) := e8
            have u3i := u3 i hi
            have hpl := plc_lt (K := wonN f s (eR e z r) z) hi
            have hli := likelyM (N := N) (r := r) (fx := fun _ => false) (x2 := gI 4) (c_opens := cop) (by omega) hR hh hk hGp hd (by omega) h6 (fun k hkd => ⟨fun h => Bool.noConfusion h, fun _ => by
              have o9 := (op_ok hkd).1
              rw [h6 k hkd, jI_eqN (by omega) (by omega)]; omega⟩)
            by_cases hpp : plc (H 0) (wonN f s (eR e z r) z) i = p
            · simp (disch := omega) only [jI_0, jI_1, jI_2, jI_3, jI_4, jI_5, jI_6, jI_7, jI_8, jI_9, jI_10, jI_11, jI_12, jI_13, jI_14, jI_15, jI_16, jI_20, jI_24, jI_26, jI_30, jI_31, jI_32, jI_40, jI_48, jI_56, jI_57, jI_59, jI_60, jI_97, jI_99, jI_122, jI_160, jI_240, jI_255, jI_768, jI_1000, ↓jN_1, ↓jN_2, ↓jN_3, ↓jN_4, ↓jN_8, ↓jN_10, ↓jN_11, ↓jN_12, ↓jN_14, ↓jN_20, jI_addN, jI_le, jI_lt, jI_eq, jI_cl, jI_in, jI_add, jI_sub, jI_eqN, gI_eqI, gI_eqN, gI_leI, gI_ltI, jI_leN, jI_ltN, gI_sub, pif_tt, pif_ff, pg_tt, isB, or_true, true_or, pif_T, pif_F, pg_T, pb_S, upd_e, upd_n, jL_0, jL_1, jL_2, jL_5, jL_6, jL_15, jL_16, jL_63, jI_mul, jI_L, jL_I, jL_add, jL_sub, jL_mul, fX9_odds_53, fX9_odds_99, hsh, e7, e8, u3i, hli]
              refine ih (_, cg2, cp2, cs2, cw2) ⟨?_, Gp_row hG2⟩
              show a + _ = _
              simp only [sumN]
              rw [if_pos (show plR (H 0) z f s e r i = p from hpp), Nat.mul_one, ha]
              congr 1
            · simp (disch := omega) only [jI_0, jI_1, jI_2, jI_3, jI_4, jI_5, jI_6, jI_7, jI_8, jI_9, jI_10, jI_11, jI_12, jI_13, jI_14, jI_15, jI_16, jI_20, jI_24, jI_26, jI_30, jI_31, jI_32, jI_40, jI_48, jI_56, jI_57, jI_59, jI_60, jI_97, jI_99, jI_122, jI_160, jI_240, jI_255, jI_768, jI_1000, ↓jN_1, ↓jN_2, ↓jN_3, ↓jN_4, ↓jN_8, ↓jN_10, ↓jN_11, ↓jN_12, ↓jN_14, ↓jN_20, jI_addN, jI_le, jI_lt, jI_eq, jI_cl, jI_in, jI_add, jI_sub, jI_eqN, gI_eqI, gI_eqN, gI_leI, gI_ltI, jI_leN, jI_ltN, gI_sub, pif_tt, pif_ff, pg_tt, isB, or_true, true_or, pif_T, pif_F, pg_T, pb_S, upd_e, upd_n, jL_0, jL_1, jL_2, jL_5, jL_6, jL_15, jL_16, jL_63, jI_mul, jI_L, jL_I, jL_add, jL_sub, jL_mul, fX9_odds_53, fX9_odds_99, hsh, e7, e8, u3i]
              refine ih (_, cg2, cp2, cs2, cw2) ⟨?_, Gp_row hG2⟩
              show a + 0 = _
              simp only [sumN]
              rw [if_neg (show ¬ plR (H 0) z f s e r i = p from hpp), Nat.mul_zero, ha]
          · intro fu ⟨a, cg, c1, c3, c4⟩ ⟨ha, hGp⟩
            simp only at ha hGp
            obtain ⟨cg2, e7, hG2⟩ := setOpenM (N := N) (c_opens := cop) (by omega) hk hGp hd h6
            have hva : a = vN (oW H z f s e) (fun r => if plR (H 0) z f s e r i = p then 1 else 0) (cnt z (isOp e)) (cnt z (isOp e)) 0 := by rw [vN_top]; exact ha
            have e5 := lowestM (N := N) (a := a) (b := 16 ^ cnt z (isOp e)) (wh := w) (by omega) (by rw [hva]; omega) (by omega) h16 hw
            simp (disch := omega) only [jI_0, jI_1, jI_2, jI_3, jI_4, jI_5, jI_6, jI_7, jI_8, jI_9, jI_10, jI_11, jI_12, jI_13, jI_14, jI_15, jI_16, jI_20, jI_24, jI_26, jI_30, jI_31, jI_32, jI_40, jI_48, jI_56, jI_57, jI_59, jI_60, jI_97, jI_99, jI_122, jI_160, jI_240, jI_255, jI_768, jI_1000, ↓jN_1, ↓jN_2, ↓jN_3, ↓jN_4, ↓jN_8, ↓jN_10, ↓jN_11, ↓jN_12, ↓jN_14, ↓jN_20, jI_addN, jI_le, jI_lt, jI_eq, jI_cl, jI_in, jI_add, jI_sub, jI_eqN, gI_eqI, gI_eqN, gI_leI, gI_ltI, jI_leN, jI_ltN, gI_sub, pif_tt, pif_ff, pg_tt, isB, or_true, true_or, pif_T, pif_F, pg_T, pb_S, upd_e, upd_n, jL_0, jL_1, jL_2, jL_5, jL_6, jL_15, jL_16, jL_63, jI_mul, jI_L, jL_I, jL_add, jL_sub, jL_mul, fX9_odds_53, hsh, e7, hshL, e5]
            exact Ok.s ⟨by rw [hva], hG2⟩
        · simp (disch := omega) only [jI_0, jI_1, jI_2, jI_3, jI_4, jI_5, jI_6, jI_7, jI_8, jI_9, jI_10, jI_11, jI_12, jI_13, jI_14, jI_15, jI_16, jI_20, jI_24, jI_26, jI_30, jI_31, jI_32, jI_40, jI_48, jI_56, jI_57, jI_59, jI_60, jI_97, jI_99, jI_122, jI_160, jI_240, jI_255, jI_768, jI_1000, ↓jN_1, ↓jN_2, ↓jN_3, ↓jN_4, ↓jN_8, ↓jN_10, ↓jN_11, ↓jN_12, ↓jN_14, ↓jN_20, jI_addN, jI_le, jI_lt, jI_eq, jI_cl, jI_in, jI_add, jI_sub, jI_eqN, gI_eqI, gI_eqN, gI_leI, gI_ltI, jI_leN, jI_ltN, gI_sub, pif_tt, pif_ff, pg_tt, isB, or_true, true_or, pif_T, pif_F, pg_T, pb_S, upd_e, upd_n, fX8_odds, s1, t1, p1, o1]
          refine Ok.s ?_
          simp (disch := omega) only [jI_0, jI_1, jI_2, jI_3, jI_4, jI_5, jI_6, jI_7, jI_8, jI_9, jI_10, jI_11, jI_12, jI_13, jI_14, jI_15, jI_16, jI_20, jI_24, jI_26, jI_30, jI_31, jI_32, jI_40, jI_48, jI_56, jI_57, jI_59, jI_60, jI_97, jI_99, jI_122, jI_160, jI_240, jI_255, jI_768, jI_1000, ↓jN_1, ↓jN_2, ↓jN_3, ↓jN_4, ↓jN_8, ↓jN_10, ↓jN_11, ↓jN_12, ↓jN_14, ↓jN_20, jI_addN, jI_le, jI_lt, jI_eq, jI_cl, jI_in, jI_add, jI_sub, jI_eqN, gI_eqI, gI_eqN, gI_leI, gI_ltI, jI_leN, jI_ltN, gI_sub, pif_tt, pif_ff, pg_tt, isB, or_true, true_or, pif_T, pif_F, pg_T, pb_S, upd_e, upd_n, jL_0, jL_1, jL_2, jL_5, jL_6, jL_15, jL_16, jL_63, jI_mul, jI_L, jL_I, jL_add, jL_sub, jL_mul, fX9_odds, s2, t2, p2, o2]
          exact Ok.s ⟨rfl, hM⟩
      · simp (disch := omega) only [jI_0, jI_1, jI_2, jI_3, jI_4, jI_5, jI_6, jI_7, jI_8, jI_9, jI_10, jI_11, jI_12, jI_13, jI_14, jI_15, jI_16, jI_20, jI_24, jI_26, jI_30, jI_31, jI_32, jI_40, jI_48, jI_56, jI_57, jI_59, jI_60, jI_97, jI_99, jI_122, jI_160, jI_240, jI_255, jI_768, jI_1000, ↓jN_1, ↓jN_2, ↓jN_3, ↓jN_4, ↓jN_8, ↓jN_10, ↓jN_11, ↓jN_12, ↓jN_14, ↓jN_20, jI_addN, jI_le, jI_lt, jI_eq, jI_cl, jI_in, jI_add, jI_sub, jI_eqN, gI_eqI, gI_eqN, gI_leI, gI_ltI, jI_leN, jI_ltN, gI_sub, pif_tt, pif_ff, pg_tt, isB, or_true, true_or, pif_T, pif_F, pg_T, pb_S, upd_e, upd_n, fX8_odds, fX8_odds_23, s1, t1, p1]
        refine Ok.s ?_
        simp (disch := omega) only [jI_0, jI_1, jI_2, jI_3, jI_4, jI_5, jI_6, jI_7, jI_8, jI_9, jI_10, jI_11, jI_12, jI_13, jI_14, jI_15, jI_16, jI_20, jI_24, jI_26, jI_30, jI_31, jI_32, jI_40, jI_48, jI_56, jI_57, jI_59, jI_60, jI_97, jI_99, jI_122, jI_160, jI_240, jI_255, jI_768, jI_1000, ↓jN_1, ↓jN_2, ↓jN_3, ↓jN_4, ↓jN_8, ↓jN_10, ↓jN_11, ↓jN_12, ↓jN_14, ↓jN_20, jI_addN, jI_le, jI_lt, jI_eq, jI_cl, jI_in, jI_add, jI_sub, jI_eqN, gI_eqI, gI_eqN, gI_leI, gI_ltI, jI_leN, jI_ltN, gI_sub, pif_tt, pif_ff, pg_tt, isB, or_true, true_or, pif_T, pif_F, pg_T, pb_S, upd_e, upd_n, jL_0, jL_1, jL_2, jL_5, jL_6, jL_15, jL_16, jL_63, jI_mul, jI_L, jL_I, jL_add, jL_sub, jL_mul, fX9_odds, fX9_odds_26, s2, t2, p2]
        exact Ok.s ⟨rfl, hM⟩
    · simp (disch := omega) only [jI_0, jI_1, jI_2, jI_3, jI_4, jI_5, jI_6, jI_7, jI_8, jI_9, jI_10, jI_11, jI_12, jI_13, jI_14, jI_15, jI_16, jI_20, jI_24, jI_26, jI_30, jI_31, jI_32, jI_40, jI_48, jI_56, jI_57, jI_59, jI_60, jI_97, jI_99, jI_122, jI_160, jI_240, jI_255, jI_768, jI_1000, ↓jN_1, ↓jN_2, ↓jN_3, ↓jN_4, ↓jN_8, ↓jN_10, ↓jN_11, ↓jN_12, ↓jN_14, ↓jN_20, jI_addN, jI_le, jI_lt, jI_eq, jI_cl, jI_in, jI_add, jI_sub, jI_eqN, gI_eqI, gI_eqN, gI_leI, gI_ltI, jI_leN, jI_ltN, gI_sub, pif_tt, pif_ff, pg_tt, isB, or_true, true_or, pif_T, pif_F, pg_T, pb_S, upd_e, upd_n, fX8_odds, fX8_odds_23, s1, t1]
      refine Ok.s ?_
      simp (disch := omega) only [jI_0, jI_1, jI_2, jI_3, jI_4, jI_5, jI_6, jI_7, jI_8, jI_9, jI_10, jI_11, jI_12, jI_13, jI_14, jI_15, jI_16, jI_20, jI_24, jI_26, jI_30, jI_31, jI_32, jI_40, jI_48, jI_56, jI_57, jI_59, jI_60, jI_97, jI_99, jI_122, jI_160, jI_240, jI_255, jI_768, jI_1000, ↓jN_1, ↓jN_2, ↓jN_3, ↓jN_4, ↓jN_8, ↓jN_10, ↓jN_11, ↓jN_12, ↓jN_14, ↓jN_20, jI_addN, jI_le, jI_lt, jI_eq, jI_cl, jI_in, jI_add, jI_sub, jI_eqN, gI_eqI, gI_eqN, gI_leI, gI_ltI, jI_leN, jI_ltN, gI_sub, pif_tt, pif_ff, pg_tt, isB, or_true, true_or, pif_T, pif_F, pg_T, pb_S, upd_e, upd_n, jL_0, jL_1, jL_2, jL_5, jL_6, jL_15, jL_16, jL_63, jI_mul, jI_L, jL_I, jL_add, jL_sub, jL_mul, fX9_odds, fX9_odds_26, s2, t2]
      exact Ok.s ⟨rfl, hM⟩
  · simp (disch := omega) only [jI_0, jI_1, jI_2, jI_3, jI_4, jI_5, jI_6, jI_7, jI_8, jI_9, jI_10, jI_11, jI_12, jI_13, jI_14, jI_15, jI_16, jI_20, jI_24, jI_26, jI_30, jI_31, jI_32, jI_40, jI_48, jI_56, jI_57, jI_59, jI_60, jI_97, jI_99, jI_122, jI_160, jI_240, jI_255, jI_768, jI_1000, ↓jN_1, ↓jN_2, ↓jN_3, ↓jN_4, ↓jN_8, ↓jN_10, ↓jN_11, ↓jN_12, ↓jN_14, ↓jN_20, jI_addN, jI_le, jI_lt, jI_eq, jI_cl, jI_in, jI_add, jI_sub, jI_eqN, gI_eqI, gI_eqN, gI_leI, gI_ltI, jI_leN, jI_ltN, gI_sub, pif_tt, pif_ff, pg_tt, isB, or_true, true_or, pif_T, pif_F, pg_T, pb_S, upd_e, upd_n, fX8_odds, fX8_odds_23, s1]
    refine Ok.s ?_
    simp (disch := omega) only [jI_0, jI_1, jI_2, jI_3, jI_4, jI_5, jI_6, jI_7, jI_8, jI_9, jI_10, jI_11, jI_12, jI_13, jI_14, jI_15, jI_16, jI_20, jI_24, jI_26, jI_30, jI_31, jI_32, jI_40, jI_48, jI_56, jI_57, jI_59, jI_60, jI_97, jI_99, jI_122, jI_160, jI_240, jI_255, jI_768, jI_1000, ↓jN_1, ↓jN_2, ↓jN_3, ↓jN_4, ↓jN_8, ↓jN_10, ↓jN_11, ↓jN_12, ↓jN_14, ↓jN_20, jI_addN, jI_le, jI_lt, jI_eq, jI_cl, jI_in, jI_add, jI_sub, jI_eqN, gI_eqI, gI_eqN, gI_leI, gI_ltI, jI_leN, jI_ltN, gI_sub, pif_tt, pif_ff, pg_tt, isB, or_true, true_or, pif_T, pif_F, pg_T, pb_S, upd_e, upd_n, jL_0, jL_1, jL_2, jL_5, jL_6, jL_15, jL_16, jL_63, jI_mul, jI_L, jL_I, jL_add, jL_sub, jL_mul, fX9_odds, fX9_odds_26, s2]
    exact Ok.s ⟨rfl, hM⟩
theorem c_may (x1 x2 : Int32) (hN : 1000 ≤ N) (hR : Rk H) (hc : Rc H v_rules_kind v_rules_sides c_rules_balls c_rules_choiceWorth c_rules_placeWorth c_rules_strength c_rules_wheel) (hh : Rm H c_holds) (hk : Gk (H 0) z f s e) (hG : Gc z f s e v_games_size c_games_first c_games_second c_games_ending) (hM : Gm 0 z f s e c_many c_firsts c_seconds c_goes) : Ok ((fX8_may N v_games_size c_games_ending c_games_first c_games_second v_rules_kind v_rules_rounds v_rules_sides c_rules_balls c_rules_choiceWorth c_rules_placeWorth c_rules_strength c_rules_wheel v_tree_depth c_tree_ofFirst c_tree_open v_tree_rules_kind v_tree_rules_rounds v_tree_rules_sides c_tree_rules_balls c_tree_rules_choiceWorth c_tree_rules_placeWorth c_tree_rules_strength c_tree_rules_wheel v_tree_standing_sides c_tree_standing_order c_tree_standing_seat c_tree_standing_won v_tree_trial_size c_tree_trial_ending c_tree_trial_first c_tree_trial_second x1 x2)) (fun a => Ok ((fX9_may N v_open c_firsts c_goes c_holds c_many c_opens c_placeOf c_seconds c_sideAt c_won x1 x2)) (fun b => a.1 = b.1 ∧ Gm 0 z f s e c_many c_firsts c_seconds b.2.2.1)) := by
  have hn := hR.2.1
  have hz := hk.2.1
  have hcl := cnt_le z (isOp e)
  have hv := hc.2.1
  subst hv
  have o1 := openOnesX (N := N) (by omega) hk hG
  have o2 := openManyM (N := N) (by omega) hk hM
  rcases side_c (N := N) x1 hR hh with ⟨i, hi, rfl, s1, s2⟩ | ⟨s1, s2⟩
  · rcases side_c (N := N) x2 hR hh with ⟨p, hp, rfl, t1, t2⟩ | ⟨t1, t2⟩
    · by_cases hd : cnt z (isOp e) ≤ 7
      · have hp128 := pw_le (cnt z (isOp e)) (by omega)
        have hsh := shl_ok (cnt z (isOp e)) (by omega)
        obtain ⟨cop, e6, h6⟩ := layOpensM (N := N) (v_open := v_open) (c_opens := c_opens) (by omega) hk hM
        have ref : Ok ((fX9_may N v_open c_firsts c_goes c_holds c_many c_opens c_placeOf c_seconds c_sideAt c_won (jI i) (jI p))) (fun b => b.1 = jI (if 0 < cnt (2 ^ cnt z (isOp e)) (rcB (H 0) z f s e i p) then 1 else 0) ∧ Gm 0 z f s e c_many c_firsts c_seconds b.2.2.1) := by
          simp (disch := omega) only [jI_0, jI_1, jI_2, jI_3, jI_4, jI_5, jI_6, jI_7, jI_8, jI_9, jI_10, jI_11, jI_12, jI_13, jI_14, jI_15, jI_16, jI_20, jI_24, jI_26, jI_30, jI_31, jI_32, jI_40, jI_48, jI_56, jI_57, jI_59, jI_60, jI_97, jI_99, jI_122, jI_160, jI_240, jI_255, jI_768, jI_1000, ↓jN_1, ↓jN_2, ↓jN_3, ↓jN_4, ↓jN_8, ↓jN_10, ↓jN_11, ↓jN_12, ↓jN_14, ↓jN_20, jI_addN, jI_le, jI_lt, jI_eq, jI_cl, jI_in, jI_add, jI_sub, jI_eqN, gI_eqI, gI_eqN, gI_leI, gI_ltI, jI_leN, jI_ltN, gI_sub, pif_tt, pif_ff, pg_tt, isB, or_true, true_or, pif_T, pif_F, pg_T, pb_S, upd_e, upd_n, fX9_may, s2, t2, o2, e6]
          refine up_ok (fun fu r (q : Nat × (Nat → Int32) × (Nat → Int32) × (Nat → Int32) × (Nat → Int32)) => (fX9_may_39 N c_firsts c_holds c_many c_seconds (jI i) (jI p) fu (jI q.1) (jI r) (jI (cnt z (isOp e))) q.2.1 cop q.2.2.1 q.2.2.2.1 q.2.2.2.2)) _ (2 ^ cnt z (isOp e)) (fun m q => q.1 = (if 0 < cnt m (rcB (H 0) z f s e i p) then 1 else 0) ∧ Gp z f s e c_many c_firsts c_seconds q.2.1) ?_ ?_ N 0 (0, c_goes, c_placeOf, c_sideAt, c_won) (Nat.zero_le _) (by omega) ⟨rfl, Gp_of hM⟩
          · intro fu r ⟨a, cg, c1, c3, c4⟩ hr ⟨ha, hGp⟩ ih
            simp only at ha hGp
            obtain ⟨cg2, e7, hG2⟩ := setEndsM (N := N) (r := r) (c_opens := cop) (by omega) hk hGp hd (by omega) h6
            obtain ⟨cp2, cs2, cw2, e8, u1, u2, u3⟩ := layT_ok (N := N) (c_placeOf := c1) (c_sideAt := c3) (c_won := c4) (by omega) (by omega) (Gk_eR (r := r) hk) hG2 (hh 0 (by omega))
            have e8 : fX9_layTable N c_firsts cg2 c_holds c_many c1 c_seconds c3 c4 (jI 0) = some (cp2, cs2, cw2) := e8
            have u3i := u3 i hi
            have hpl := plc_lt (K := wonN f s (eR e z r) z) hi
            have hs : cnt (r + 1) (rcB (H 0) z f s e i p) = cnt r (rcB (H 0) z f s e i p) + (if rcB (H 0) z f s e i p r = true then 1 else 0) := rfl
            have ha2 : a < 2 := by rw [ha]; split <;> omega
            simp (disch := omega) only [jI_0, jI_1, jI_2, jI_3, jI_4, jI_5, jI_6, jI_7, jI_8, jI_9, jI_10, jI_11, jI_12, jI_13, jI_14, jI_15, jI_16, jI_20, jI_24, jI_26, jI_30, jI_31, jI_32, jI_40, jI_48, jI_56, jI_57, jI_59, jI_60, jI_97, jI_99, jI_122, jI_160, jI_240, jI_255, jI_768, jI_1000, ↓jN_1, ↓jN_2, ↓jN_3, ↓jN_4, ↓jN_8, ↓jN_10, ↓jN_11, ↓jN_12, ↓jN_14, ↓jN_20, jI_addN, jI_le, jI_lt, jI_eq, jI_cl, jI_in, jI_add, jI_sub, jI_eqN, gI_eqI, gI_eqN, gI_leI, gI_ltI, jI_leN, jI_ltN, gI_sub, pif_tt, pif_ff, pg_tt, isB, or_true, true_or, pif_T, pif_F, pg_T, pb_S, upd_e, upd_n, fX9_may_39, hsh, e7]
            refine up_ok (fun fu2 k b => (fX9_may_62 N c_firsts c_holds c_many c_seconds (jI i) (jI p) (fX9_may_39 N c_firsts c_holds c_many c_seconds (jI i) (jI p) fu) fu2 (jI a) (jI r) (jI b) (jI k) (jI (cnt z (isOp e))) cg2 cop c1 c3 c4)) _ (cnt z (isOp e)) (fun k b => b = (if cnt k (bdB z f s e r i) = 0 then 1 else 0)) ?_ ?_ N 0 1 (by omega) (by omega) rfl
            · intro fu2 k b hkd hb ih2
              have ok := op_ok hkd
              have o9 := ok.1
              have o4 := h6 k hkd
              obtain ⟨m1, m2, m3⟩ := hG2.2 _ o9
              rw [show ∀ g, 30 * 0 + g = g from fun g => by omega] at m1 m2 m3
              obtain ⟨k1, k2, k3, k4⟩ := hk.2.2 _ o9
              have her : eR e z r (opN z (isOp e) k) < 2 := eR_lt k4
              have hwm := winnerM (N := N) (pg := 0) (by omega) o9 (Gk_eR (r := r) hk) hG2
              rw [if_neg (by omega), show ∀ g, 30 * 0 + g = g from fun g => by omega] at hwm
              have hwl := winr_lt (Gk_eR (r := r) hk) o9 (by omega)
              have hs2 : cnt (k + 1) (bdB z f s e r i) = cnt k (bdB z f s e r i) + (if bdB z f s e r i k = true then 1 else 0) := rfl
              by_cases h0 : cnt k (bdB z f s e r i) = 0
              · rw [if_pos h0] at hb
                subst hb
                by_cases hf1 : f (opN z (isOp e) k) = i
                · by_cases hw : winr f s (eR e z r) (opN z (isOp e) k) = i
                  · have hbd : bdB z f s e r i k = false := by unfold bdB; rw [decide_eq_true hw, Bool.not_true, Bool.and_false]
                    simp (disch := omega) only [jI_0, jI_1, jI_2, jI_3, jI_4, jI_5, jI_6, jI_7, jI_8, jI_9, jI_10, jI_11, jI_12, jI_13, jI_14, jI_15, jI_16, jI_20, jI_24, jI_26, jI_30, jI_31, jI_32, jI_40, jI_48, jI_56, jI_57, jI_59, jI_60, jI_97, jI_99, jI_122, jI_160, jI_240, jI_255, jI_768, jI_1000, ↓jN_1, ↓jN_2, ↓jN_3, ↓jN_4, ↓jN_8, ↓jN_10, ↓jN_11, ↓jN_12, ↓jN_14, ↓jN_20, jI_addN, jI_le, jI_lt, jI_eq, jI_cl, jI_in, jI_add, jI_sub, jI_eqN, gI_eqI, gI_eqN, gI_leI, gI_ltI, jI_leN, jI_ltN, gI_sub, pif_tt, pif_ff, pg_tt, isB, or_true, true_or, pif_T, pif_F, pg_T, pb_S, upd_e, upd_n, fX9_may_62, fX9_may_107, fX9_may_117, fX9_may_122, o4, m1, m2, hwm]
                    exact ih2 1 (by rw [hs2, h0, hbd]; rfl)
                  · have hbd : bdB z f s e r i k = true := by unfold bdB; rw [decide_eq_false hw]; simp [ownB, hf1]
                    simp (disch := omega) only [jI_0, jI_1, jI_2, jI_3, jI_4, jI_5, jI_6, jI_7, jI_8, jI_9, jI_10, jI_11, jI_12, jI_13, jI_14, jI_15, jI_16, jI_20, jI_24, jI_26, jI_30, jI_31, jI_32, jI_40, jI_48, jI_56, jI_57, jI_59, jI_60, jI_97, jI_99, jI_122, jI_160, jI_240, jI_255, jI_768, jI_1000, ↓jN_1, ↓jN_2, ↓jN_3, ↓jN_4, ↓jN_8, ↓jN_10, ↓jN_11, ↓jN_12, ↓jN_14, ↓jN_20, jI_addN, jI_le, jI_lt, jI_eq, jI_cl, jI_in, jI_add, jI_sub, jI_eqN, gI_eqI, gI_eqN, gI_leI, gI_ltI, jI_leN, jI_ltN, gI_sub, pif_tt, pif_ff, pg_tt, isB, or_true, true_or, pif_T, pif_F, pg_T, pb_S, upd_e, upd_n, fX9_may_62, fX9_may_107, fX9_may_121, fX9_may_122, o4, m1, m2, hwm]
                    exact ih2 0 (by rw [hs2, h0, hbd]; rfl)
                · by_cases hs1 : s (opN z (isOp e) k) = i
                  · by_cases hw : winr f s (eR e z r) (opN z (isOp e) k) = i
                    · have hbd : bdB z f s e r i k = false := by unfold bdB; rw [decide_eq_true hw, Bool.not_true, Bool.and_false]
                      simp (disch := omega) only [jI_0, jI_1, jI_2, jI_3, jI_4, jI_5, jI_6, jI_7, jI_8, jI_9, jI_10, jI_11, jI_12, jI_13, jI_14, jI_15, jI_16, jI_20, jI_24, jI_26, jI_30, jI_31, jI_32, jI_40, jI_48, jI_56, jI_57, jI_59, jI_60, jI_97, jI_99, jI_122, jI_160, jI_240, jI_255, jI_768, jI_1000, ↓jN_1, ↓jN_2, ↓jN_3, ↓jN_4, ↓jN_8, ↓jN_10, ↓jN_11, ↓jN_12, ↓jN_14, ↓jN_20, jI_addN, jI_le, jI_lt, jI_eq, jI_cl, jI_in, jI_add, jI_sub, jI_eqN, gI_eqI, gI_eqN, gI_leI, gI_ltI, jI_leN, jI_ltN, gI_sub, pif_tt, pif_ff, pg_tt, isB, or_true, true_or, pif_T, pif_F, pg_T, pb_S, upd_e, upd_n, fX9_may_62, fX9_may_107, fX9_may_117, fX9_may_122, o4, m1, m2, hwm]
                      exact ih2 1 (by rw [hs2, h0, hbd]; rfl)
                    · have hbd : bdB z f s e r i k = true := by unfold bdB; rw [decide_eq_false hw]; simp [ownB, hs1]
                      simp (disch := omega) only [jI_0, jI_1, jI_2, jI_3, jI_4, jI_5, jI_6, jI_7, jI_8, jI_9, jI_10, jI_11, jI_12, jI_13, jI_14, jI_15, jI_16, jI_20, jI_24, jI_26, jI_30, jI_31, jI_32, jI_40, jI_48, jI_56, jI_57, jI_59, jI_60, jI_97, jI_99, jI_122, jI_160, jI_240, jI_255, jI_768, jI_1000, ↓jN_1, ↓jN_2, ↓jN_3, ↓jN_4, ↓jN_8, ↓jN_10, ↓jN_11, ↓jN_12, ↓jN_14, ↓jN_20, jI_addN, jI_le, jI_lt, jI_eq, jI_cl, jI_in, jI_add, jI_sub, jI_eqN, gI_eqI, gI_eqN, gI_leI, gI_ltI, jI_leN, jI_ltN, gI_sub, pif_tt, pif_ff, pg_tt, isB, or_true, true_or, pif_T, pif_F, pg_T, pb_S, upd_e, upd_n, fX9_may_62, fX9_may_107, fX9_may_121, fX9_may_122, o4, m1, m2, hwm]
                      exact ih2 0 (by rw [hs2, h0, hbd]; rfl)
                  · have hbd : bdB z f s e r i k = false := by unfold bdB; simp [ownB, hf1, hs1]
                    simp (disch := omega) only [jI_0, jI_1, jI_2, jI_3, jI_4, jI_5, jI_6, jI_7, jI_8, jI_9, jI_10, jI_11, jI_12, jI_13, jI_14, jI_15, jI_16, jI_20, jI_24, jI_26, jI_30, jI_31, jI_32, jI_40, jI_48, jI_56, jI_57, jI_59, jI_60, jI_97, jI_99, jI_122, jI_160, jI_240, jI_255, jI_768, jI_1000, ↓jN_1, ↓jN_2, ↓jN_3, ↓jN_4, ↓jN_8, ↓jN_10, ↓jN_11, ↓jN_12, ↓jN_14, ↓jN_20, jI_addN, jI_le, jI_lt, jI_eq, jI_cl, jI_in, jI_add, jI_sub, jI_eqN, gI_eqI, gI_eqN, gI_leI, gI_ltI, jI_leN, jI_ltN, gI_sub, pif_tt, pif_ff, pg_tt, isB, or_true, true_or, pif_T, pif_F, pg_T, pb_S, upd_e, upd_n, fX9_may_62, fX9_may_107, fX9_may_117, fX9_may_122, o4, m1, m2]
                    exact ih2 1 (by rw [hs2, h0, hbd]; rfl)
              · rw [if_neg h0] at hb
                subst hb
                simp (disch := omega) only [jI_0, jI_1, jI_2, jI_3, jI_4, jI_5, jI_6, jI_7, jI_8, jI_9, jI_10, jI_11, jI_12, jI_13, jI_14, jI_15, jI_16, jI_20, jI_24, jI_26, jI_30, jI_31, jI_32, jI_40, jI_48, jI_56, jI_57, jI_59, jI_60, jI_97, jI_99, jI_122, jI_160, jI_240, jI_255, jI_768, jI_1000, ↓jN_1, ↓jN_2, ↓jN_3, ↓jN_4, ↓jN_8, ↓jN_10, ↓jN_11, ↓jN_12, ↓jN_14, ↓jN_20, jI_addN, jI_le, jI_lt, jI_eq, jI_cl, jI_in, jI_add, jI_sub, jI_eqN, gI_eqI, gI_eqN, gI_leI, gI_ltI, jI_leN, jI_ltN, gI_sub, pif_tt, pif_ff, pg_tt, isB, or_true, true_or, pif_T, pif_F, pg_T, pb_S, upd_e, upd_n, fX9_may_62, fX9_may_121, fX9_may_122, o4]
                exact ih2 0 (by rw [if_neg (by omega)])
            · intro fu2 b hb
              have hrc : rcB (H 0) z f s e i p r = (decide (cnt (cnt z (isOp e)) (bdB z f s e r i) = 0) && decide (plc (H 0) (wonN f s (eR e z r) z) i ≤ p)) := rfl
              by_cases ha1 : a = 1
              · subst ha1
                have hpos : 0 < cnt r (rcB (H 0) z f s e i p) := by
                  apply Decidable.byContradiction
                  intro c
                  rw [if_neg c] at ha; omega
                simp (disch := omega) only [jI_0, jI_1, jI_2, jI_3, jI_4, jI_5, jI_6, jI_7, jI_8, jI_9, jI_10, jI_11, jI_12, jI_13, jI_14, jI_15, jI_16, jI_20, jI_24, jI_26, jI_30, jI_31, jI_32, jI_40, jI_48, jI_56, jI_57, jI_59, jI_60, jI_97, jI_99, jI_122, jI_160, jI_240, jI_255, jI_768, jI_1000, ↓jN_1, ↓jN_2, ↓jN_3, ↓jN_4, ↓jN_8, ↓jN_10, ↓jN_11, ↓jN_12, ↓jN_14, ↓jN_20, jI_addN, jI_le, jI_lt, jI_eq, jI_cl, jI_in, jI_add, jI_sub, jI_eqN, gI_eqI, gI_eqN, gI_leI, gI_ltI, jI_leN, jI_ltN, gI_sub, pif_tt, pif_ff, pg_tt, isB, or_true, true_or, pif_T, pif_F, pg_T, pb_S, upd_e, upd_n, fX9_may_62, fX9_may_154, fX9_may_159, e8]
                exact ih (1, cg2, cp2, cs2, cw2) ⟨by rw [if_pos (by omega)], Gp_row hG2⟩
              · obtain rfl : a = 0 := by omega
                have hno : cnt r (rcB (H 0) z f s e i p) = 0 := by
                  apply Decidable.byContradiction
                  intro c
                  rw [if_pos (by omega)] at ha; omega
                by_cases h0 : cnt (cnt z (isOp e)) (bdB z f s e r i) = 0
                · rw [if_pos h0] at hb
                  subst hb
                  by_cases hpp : plc (H 0) (wonN f s (eR e z r) z) i ≤ p
                  · rw [decide_eq_true h0, decide_eq_true hpp] at hrc
                    simp (disch := omega) only [jI_0, jI_1, jI_2, jI_3, jI_4, jI_5, jI_6, jI_7, jI_8, jI_9, jI_10, jI_11, jI_12, jI_13, jI_14, jI_15, jI_16, jI_20, jI_24, jI_26, jI_30, jI_31, jI_32, jI_40, jI_48, jI_56, jI_57, jI_59, jI_60, jI_97, jI_99, jI_122, jI_160, jI_240, jI_255, jI_768, jI_1000, ↓jN_1, ↓jN_2, ↓jN_3, ↓jN_4, ↓jN_8, ↓jN_10, ↓jN_11, ↓jN_12, ↓jN_14, ↓jN_20, jI_addN, jI_le, jI_lt, jI_eq, jI_cl, jI_in, jI_add, jI_sub, jI_eqN, gI_eqI, gI_eqN, gI_leI, gI_ltI, jI_leN, jI_ltN, gI_sub, pif_tt, pif_ff, pg_tt, isB, or_true, true_or, pif_T, pif_F, pg_T, pb_S, upd_e, upd_n, fX9_may_62, fX9_may_154, fX9_may_159, e8, u3i]
                    exact ih (1, cg2, cp2, cs2, cw2) ⟨by rw [hs, hrc, hno]; rfl, Gp_row hG2⟩
                  · rw [decide_eq_true h0, decide_eq_false hpp] at hrc
                    simp (disch := omega) only [jI_0, jI_1, jI_2, jI_3, jI_4, jI_5, jI_6, jI_7, jI_8, jI_9, jI_10, jI_11, jI_12, jI_13, jI_14, jI_15, jI_16, jI_20, jI_24, jI_26, jI_30, jI_31, jI_32, jI_40, jI_48, jI_56, jI_57, jI_59, jI_60, jI_97, jI_99, jI_122, jI_160, jI_240, jI_255, jI_768, jI_1000, ↓jN_1, ↓jN_2, ↓jN_3, ↓jN_4, ↓jN_8, ↓jN_10, ↓jN_11, ↓jN_12, ↓jN_14, ↓jN_20, jI_addN, jI_le, jI_lt, jI_eq, jI_cl, jI_in, jI_add, jI_sub, jI_eqN, gI_eqI, gI_eqN, gI_leI, gI_ltI, jI_leN, jI_ltN, gI_sub, pif_tt, pif_ff, pg_tt, isB, or_true, true_or, pif_T, pif_F, pg_T, pb_S, upd_e, upd_n, fX9_may_62, fX9_may_158, fX9_may_159, e8, u3i]
                    exact ih (0, cg2, cp2, cs2, cw2) ⟨by rw [hs, hrc, hno]; rfl, Gp_row hG2⟩
                · rw [if_neg h0] at hb
                  subst hb
                  rw [decide_eq_false h0, Bool.false_and] at hrc
                  simp (disch := omega) only [jI_0, jI_1, jI_2, jI_3, jI_4, jI_5, jI_6, jI_7, jI_8, jI_9, jI_10, jI_11, jI_12, jI_13, jI_14, jI_15, jI_16, jI_20, jI_24, jI_26, jI_30, jI_31, jI_32, jI_40, jI_48, jI_56, jI_57, jI_59, jI_60, jI_97, jI_99, jI_122, jI_160, jI_240, jI_255, jI_768, jI_1000, ↓jN_1, ↓jN_2, ↓jN_3, ↓jN_4, ↓jN_8, ↓jN_10, ↓jN_11, ↓jN_12, ↓jN_14, ↓jN_20, jI_addN, jI_le, jI_lt, jI_eq, jI_cl, jI_in, jI_add, jI_sub, jI_eqN, gI_eqI, gI_eqN, gI_leI, gI_ltI, jI_leN, jI_ltN, gI_sub, pif_tt, pif_ff, pg_tt, isB, or_true, true_or, pif_T, pif_F, pg_T, pb_S, upd_e, upd_n, fX9_may_62, fX9_may_158, fX9_may_159, e8]
                  exact ih (0, cg2, cp2, cs2, cw2) ⟨by rw [hs, hrc, hno]; rfl, Gp_row hG2⟩
          · intro fu ⟨a, cg, c1, c3, c4⟩ ⟨ha, hGp⟩
            simp only at ha hGp
            obtain ⟨cg2, e7, hG2⟩ := setOpenM (N := N) (c_opens := cop) (by omega) hk hGp hd h6
            by_cases hpos : 0 < cnt (2 ^ cnt z (isOp e)) (rcB (H 0) z f s e i p)
            · rw [if_pos hpos] at ha ⊢
              subst ha
              simp (disch := omega) only [jI_0, jI_1, jI_2, jI_3, jI_4, jI_5, jI_6, jI_7, jI_8, jI_9, jI_10, jI_11, jI_12, jI_13, jI_14, jI_15, jI_16, jI_20, jI_24, jI_26, jI_30, jI_31, jI_32, jI_40, jI_48, jI_56, jI_57, jI_59, jI_60, jI_97, jI_99, jI_122, jI_160, jI_240, jI_255, jI_768, jI_1000, ↓jN_1, ↓jN_2, ↓jN_3, ↓jN_4, ↓jN_8, ↓jN_10, ↓jN_11, ↓jN_12, ↓jN_14, ↓jN_20, jI_addN, jI_le, jI_lt, jI_eq, jI_cl, jI_in, jI_add, jI_sub, jI_eqN, gI_eqI, gI_eqN, gI_leI, gI_ltI, jI_leN, jI_ltN, gI_sub, pif_tt, pif_ff, pg_tt, isB, or_true, true_or, pif_T, pif_F, pg_T, pb_S, upd_e, upd_n, fX9_may_39, fX9_may_179, hsh, e7]
              exact Ok.s ⟨rfl, hG2⟩
            · rw [if_neg hpos] at ha ⊢
              subst ha
              simp (disch := omega) only [jI_0, jI_1, jI_2, jI_3, jI_4, jI_5, jI_6, jI_7, jI_8, jI_9, jI_10, jI_11, jI_12, jI_13, jI_14, jI_15, jI_16, jI_20, jI_24, jI_26, jI_30, jI_31, jI_32, jI_40, jI_48, jI_56, jI_57, jI_59, jI_60, jI_97, jI_99, jI_122, jI_160, jI_240, jI_255, jI_768, jI_1000, ↓jN_1, ↓jN_2, ↓jN_3, ↓jN_4, ↓jN_8, ↓jN_10, ↓jN_11, ↓jN_12, ↓jN_14, ↓jN_20, jI_addN, jI_le, jI_lt, jI_eq, jI_cl, jI_in, jI_add, jI_sub, jI_eqN, gI_eqI, gI_eqN, gI_leI, gI_ltI, jI_leN, jI_ltN, gI_sub, pif_tt, pif_ff, pg_tt, isB, or_true, true_or, pif_T, pif_F, pg_T, pb_S, upd_e, upd_n, fX9_may_39, fX9_may_179, hsh, e7]
              exact Ok.s ⟨rfl, hG2⟩
        obtain ⟨B, eb, hb1, hb2⟩ := ref
        simp (disch := omega) only [jI_0, jI_1, jI_2, jI_3, jI_4, jI_5, jI_6, jI_7, jI_8, jI_9, jI_10, jI_11, jI_12, jI_13, jI_14, jI_15, jI_16, jI_20, jI_24, jI_26, jI_30, jI_31, jI_32, jI_40, jI_48, jI_56, jI_57, jI_59, jI_60, jI_97, jI_99, jI_122, jI_160, jI_240, jI_255, jI_768, jI_1000, ↓jN_1, ↓jN_2, ↓jN_3, ↓jN_4, ↓jN_8, ↓jN_10, ↓jN_11, ↓jN_12, ↓jN_14, ↓jN_20, jI_addN, jI_le, jI_lt, jI_eq, jI_cl, jI_in, jI_add, jI_sub, jI_eqN, gI_eqI, gI_eqN, gI_leI, gI_ltI, jI_leN, jI_ltN, gI_sub, pif_tt, pif_ff, pg_tt, isB, or_true, true_or, pif_T, pif_F, pg_T, pb_S, upd_e, upd_n, fX8_may, s1, t1, o1]
        refine Ok.b (reachesX hN hR hc hk hG hd hi hp) ?_
        intro ⟨q0, q⟩ hq
        simp only at hq
        subst hq
        by_cases hpos : 0 < cnt (2 ^ cnt z (isOp e)) (rcB (H 0) z f s e i p)
        · rw [if_pos hpos] at hb1 ⊢
          simp (disch := omega) only [jI_0, jI_1, jI_2, jI_3, jI_4, jI_5, jI_6, jI_7, jI_8, jI_9, jI_10, jI_11, jI_12, jI_13, jI_14, jI_15, jI_16, jI_20, jI_24, jI_26, jI_30, jI_31, jI_32, jI_40, jI_48, jI_56, jI_57, jI_59, jI_60, jI_97, jI_99, jI_122, jI_160, jI_240, jI_255, jI_768, jI_1000, ↓jN_1, ↓jN_2, ↓jN_3, ↓jN_4, ↓jN_8, ↓jN_10, ↓jN_11, ↓jN_12, ↓jN_14, ↓jN_20, jI_addN, jI_le, jI_lt, jI_eq, jI_cl, jI_in, jI_add, jI_sub, jI_eqN, gI_eqI, gI_eqN, gI_leI, gI_ltI, jI_leN, jI_ltN, gI_sub, pif_tt, pif_ff, pg_tt, isB, or_true, true_or, pif_T, pif_F, pg_T, pb_S, upd_e, upd_n, fX8_may_58]
          refine Ok.s ?_
          rw [eb]
          exact Ok.s ⟨hb1.symm, hb2⟩
        · rw [if_neg hpos] at hb1 ⊢
          simp (disch := omega) only [jI_0, jI_1, jI_2, jI_3, jI_4, jI_5, jI_6, jI_7, jI_8, jI_9, jI_10, jI_11, jI_12, jI_13, jI_14, jI_15, jI_16, jI_20, jI_24, jI_26, jI_30, jI_31, jI_32, jI_40, jI_48, jI_56, jI_57, jI_59, jI_60, jI_97, jI_99, jI_122, jI_160, jI_240, jI_255, jI_768, jI_1000, ↓jN_1, ↓jN_2, ↓jN_3, ↓jN_4, ↓jN_8, ↓jN_10, ↓jN_11, ↓jN_12, ↓jN_14, ↓jN_20, jI_addN, jI_le, jI_lt, jI_eq, jI_cl, jI_in, jI_add, jI_sub, jI_eqN, gI_eqI, gI_eqN, gI_leI, gI_ltI, jI_leN, jI_ltN, gI_sub, pif_tt, pif_ff, pg_tt, isB, or_true, true_or, pif_T, pif_F, pg_T, pb_S, upd_e, upd_n, fX8_may_58]
          refine Ok.s ?_
          rw [eb]
          exact Ok.s ⟨hb1.symm, hb2⟩
      · simp (disch := omega) only [jI_0, jI_1, jI_2, jI_3, jI_4, jI_5, jI_6, jI_7, jI_8, jI_9, jI_10, jI_11, jI_12, jI_13, jI_14, jI_15, jI_16, jI_20, jI_24, jI_26, jI_30, jI_31, jI_32, jI_40, jI_48, jI_56, jI_57, jI_59, jI_60, jI_97, jI_99, jI_122, jI_160, jI_240, jI_255, jI_768, jI_1000, ↓jN_1, ↓jN_2, ↓jN_3, ↓jN_4, ↓jN_8, ↓jN_10, ↓jN_11, ↓jN_12, ↓jN_14, ↓jN_20, jI_addN, jI_le, jI_lt, jI_eq, jI_cl, jI_in, jI_add, jI_sub, jI_eqN, gI_eqI, gI_eqN, gI_leI, gI_ltI, jI_leN, jI_ltN, gI_sub, pif_tt, pif_ff, pg_tt, isB, or_true, true_or, pif_T, pif_F, pg_T, pb_S, upd_e, upd_n, fX8_may, s1, t1, o1]
        refine Ok.s ?_
        simp (disch := omega) only [jI_0, jI_1, jI_2, jI_3, jI_4, jI_5, jI_6, jI_7, jI_8, jI_9, jI_10, jI_11, jI_12, jI_13, jI_14, jI_15, jI_16, jI_20, jI_24, jI_26, jI_30, jI_31, jI_32, jI_40, jI_48, jI_56, jI_57, jI_59, jI_60, jI_97, jI_99, jI_122, jI_160, jI_240, jI_255, jI_768, jI_1000, ↓jN_1, ↓jN_2, ↓jN_3, ↓jN_4, ↓jN_8, ↓jN_10, ↓jN_11, ↓jN_12, ↓jN_14, ↓jN_20, jI_addN, jI_le, jI_lt, jI_eq, jI_cl, jI_in, jI_add, jI_sub, jI_eqN, gI_eqI, gI_eqN, gI_leI, gI_ltI, jI_leN, jI_ltN, gI_sub, pif_tt, pif_ff, pg_tt, isB, or_true, true_or, pif_T, pif_F, pg_T, pb_S, upd_e, upd_n, fX9_may, s2, t2, o2]
        exact Ok.s ⟨rfl, hM⟩
    · simp (disch := omega) only [jI_0, jI_1, jI_2, jI_3, jI_4, jI_5, jI_6, jI_7, jI_8, jI_9, jI_10, jI_11, jI_12, jI_13, jI_14, jI_15, jI_16, jI_20, jI_24, jI_26, jI_30, jI_31, jI_32, jI_40, jI_48, jI_56, jI_57, jI_59, jI_60, jI_97, jI_99, jI_122, jI_160, jI_240, jI_255, jI_768, jI_1000, ↓jN_1, ↓jN_2, ↓jN_3, ↓jN_4, ↓jN_8, ↓jN_10, ↓jN_11, ↓jN_12, ↓jN_14, ↓jN_20, jI_addN, jI_le, jI_lt, jI_eq, jI_cl, jI_in, jI_add, jI_sub, jI_eqN, gI_eqI, gI_eqN, gI_leI, gI_ltI, jI_leN, jI_ltN, gI_sub, pif_tt, pif_ff, pg_tt, isB, or_true, true_or, pif_T, pif_F, pg_T, pb_S, upd_e, upd_n, fX8_may, fX8_may_16, s1, t1]
      refine Ok.s ?_
      simp (disch := omega) only [jI_0, jI_1, jI_2, jI_3, jI_4, jI_5, jI_6, jI_7, jI_8, jI_9, jI_10, jI_11, jI_12, jI_13, jI_14, jI_15, jI_16, jI_20, jI_24, jI_26, jI_30, jI_31, jI_32, jI_40, jI_48, jI_56, jI_57, jI_59, jI_60, jI_97, jI_99, jI_122, jI_160, jI_240, jI_255, jI_768, jI_1000, ↓jN_1, ↓jN_2, ↓jN_3, ↓jN_4, ↓jN_8, ↓jN_10, ↓jN_11, ↓jN_12, ↓jN_14, ↓jN_20, jI_addN, jI_le, jI_lt, jI_eq, jI_cl, jI_in, jI_add, jI_sub, jI_eqN, gI_eqI, gI_eqN, gI_leI, gI_ltI, jI_leN, jI_ltN, gI_sub, pif_tt, pif_ff, pg_tt, isB, or_true, true_or, pif_T, pif_F, pg_T, pb_S, upd_e, upd_n, fX9_may, fX9_may_16, s2, t2]
      exact Ok.s ⟨rfl, hM⟩
  · simp (disch := omega) only [jI_0, jI_1, jI_2, jI_3, jI_4, jI_5, jI_6, jI_7, jI_8, jI_9, jI_10, jI_11, jI_12, jI_13, jI_14, jI_15, jI_16, jI_20, jI_24, jI_26, jI_30, jI_31, jI_32, jI_40, jI_48, jI_56, jI_57, jI_59, jI_60, jI_97, jI_99, jI_122, jI_160, jI_240, jI_255, jI_768, jI_1000, ↓jN_1, ↓jN_2, ↓jN_3, ↓jN_4, ↓jN_8, ↓jN_10, ↓jN_11, ↓jN_12, ↓jN_14, ↓jN_20, jI_addN, jI_le, jI_lt, jI_eq, jI_cl, jI_in, jI_add, jI_sub, jI_eqN, gI_eqI, gI_eqN, gI_leI, gI_ltI, jI_leN, jI_ltN, gI_sub, pif_tt, pif_ff, pg_tt, isB, or_true, true_or, pif_T, pif_F, pg_T, pb_S, upd_e, upd_n, fX8_may, fX8_may_16, s1]
    refine Ok.s ?_
    simp (disch := omega) only [jI_0, jI_1, jI_2, jI_3, jI_4, jI_5, jI_6, jI_7, jI_8, jI_9, jI_10, jI_11, jI_12, jI_13, jI_14, jI_15, jI_16, jI_20, jI_24, jI_26, jI_30, jI_31, jI_32, jI_40, jI_48, jI_56, jI_57, jI_59, jI_60, jI_97, jI_99, jI_122, jI_160, jI_240, jI_255, jI_768, jI_1000, ↓jN_1, ↓jN_2, ↓jN_3, ↓jN_4, ↓jN_8, ↓jN_10, ↓jN_11, ↓jN_12, ↓jN_14, ↓jN_20, jI_addN, jI_le, jI_lt, jI_eq, jI_cl, jI_in, jI_add, jI_sub, jI_eqN, gI_eqI, gI_eqN, gI_leI, gI_ltI, jI_leN, jI_ltN, gI_sub, pif_tt, pif_ff, pg_tt, isB, or_true, true_or, pif_T, pif_F, pg_T, pb_S, upd_e, upd_n, fX9_may, fX9_may_16, s2]
    exact Ok.s ⟨rfl, hM⟩
end
