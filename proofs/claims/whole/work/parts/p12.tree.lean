/-! The tree of ENDS: how the class begins it, and looks at a row. -/
section
variable {v_kind : Int32} {v_rounds : Int32} {v_sides : Int32} {c_balls : Nat → Int32} {c_choiceWorth : Nat → Int32} {v_p1_kind : Int32} {v_p1_rounds : Int32} {v_p1_sides : Int32} {c_p1_balls : Nat → Int32} {c_p1_choiceWorth : Nat → Int32} {c_p1_placeWorth : Nat → Int32} {c_p1_strength : Nat → Int32} {c_p1_wheel : Nat → Int32} {c_placeWorth : Nat → Int32} {c_strength : Nat → Int32} {c_wheel : Nat → Int32} {v_size : Int32} {c_ending : Nat → Int32} {c_first : Nat → Int32} {v_p1_size : Int32} {c_p1_ending : Nat → Int32} {c_p1_first : Nat → Int32} {c_p1_second : Nat → Int32} {c_second : Nat → Int32}
variable {N n z : Nat} {f s e H : Nat → Nat}
theorem copyRX (hN : 100 ≤ N) (hc : Rc H v_p1_kind v_p1_sides c_p1_balls c_p1_choiceWorth c_p1_placeWorth c_p1_strength c_p1_wheel) : Ok ((fX2_copyFrom N v_kind v_rounds v_sides c_balls c_choiceWorth v_p1_kind v_p1_rounds v_p1_sides c_p1_balls c_p1_choiceWorth c_p1_placeWorth c_p1_strength c_p1_wheel c_placeWorth c_strength c_wheel)) (fun q => q.2.1 = v_p1_rounds ∧ Rc H q.1 q.2.2.1 q.2.2.2.1 q.2.2.2.2.1 q.2.2.2.2.2.1 q.2.2.2.2.2.2.1 q.2.2.2.2.2.2.2) := by
  unfold fX2_copyFrom
  refine up_ok (fun fu i (q : (Nat → Int32) × (Nat → Int32) × (Nat → Int32) × (Nat → Int32) × (Nat → Int32)) => (fX2_copyFrom_26 N v_p1_kind v_p1_rounds v_p1_sides c_p1_balls c_p1_choiceWorth c_p1_placeWorth c_p1_strength c_p1_wheel fu (jI i) v_p1_kind v_p1_rounds v_p1_sides q.1 q.2.1 q.2.2.1 q.2.2.2.1 q.2.2.2.2)) _ 6 (fun i q => ∀ j, j < i → q.2.2.2.1 j = jI (H (2 + j)) ∧ q.2.2.1 j = jI (H (8 + j)) ∧ q.2.1 j = jI (H (14 + j)) ∧ q.1 j = jI (H (20 + j)) ∧ q.2.2.2.2 j = jI (H (26 + j))) ?_ ?_ N 0 (c_balls, c_choiceWorth, c_placeWorth, c_strength, c_wheel) (by omega) (by omega) (fun j h => by omega)
  · intro fu i ⟨c1, c2, c3, c4, c5⟩ hi hp ih
    simp only at hp
    simp (disch := omega) only [jI_0, jI_1, jI_2, jI_3, jI_4, jI_5, jI_6, jI_7, jI_8, jI_9, jI_10, jI_11, jI_12, jI_13, jI_14, jI_15, jI_16, jI_20, jI_24, jI_26, jI_30, jI_31, jI_32, jI_40, jI_48, jI_56, jI_57, jI_59, jI_60, jI_97, jI_99, jI_122, jI_160, jI_240, jI_255, jI_768, jI_1000, ↓jN_1, ↓jN_2, ↓jN_3, ↓jN_4, ↓jN_8, ↓jN_10, ↓jN_11, ↓jN_12, ↓jN_14, ↓jN_20, jI_addN, jI_le, jI_lt, jI_eq, jI_cl, jI_in, jI_add, jI_sub, jI_eqN, gI_eqI, gI_eqN, gI_leI, gI_ltI, jI_leN, jI_ltN, gI_sub, pif_tt, pif_ff, pg_tt, isB, or_true, true_or, pif_T, pif_F, pg_T, pb_S, upd_e, upd_n, fX2_copyFrom_26]
    refine ih (_, _, _, _, _) (fun j hj => ?_)
    show upd c4 i (c_p1_strength i) j = _ ∧ upd c3 i (c_p1_placeWorth i) j = _ ∧ upd c2 i (c_p1_choiceWorth i) j = _ ∧ upd c1 i (c_p1_balls i) j = _ ∧ upd c5 i (c_p1_wheel i) j = _
    by_cases h : j = i
    · rw [upd_e h, upd_e h, upd_e h, upd_e h, upd_e h, h]; exact hc.2.2 i hi
    · rw [upd_n h, upd_n h, upd_n h, upd_n h, upd_n h]; exact hp j (by omega)
  · intro fu ⟨c1, c2, c3, c4, c5⟩ hp
    simp (disch := omega) only [jI_0, jI_1, jI_2, jI_3, jI_4, jI_5, jI_6, jI_7, jI_8, jI_9, jI_10, jI_11, jI_12, jI_13, jI_14, jI_15, jI_16, jI_20, jI_24, jI_26, jI_30, jI_31, jI_32, jI_40, jI_48, jI_56, jI_57, jI_59, jI_60, jI_97, jI_99, jI_122, jI_160, jI_240, jI_255, jI_768, jI_1000, ↓jN_1, ↓jN_2, ↓jN_3, ↓jN_4, ↓jN_8, ↓jN_10, ↓jN_11, ↓jN_12, ↓jN_14, ↓jN_20, jI_addN, jI_le, jI_lt, jI_eq, jI_cl, jI_in, jI_add, jI_sub, jI_eqN, gI_eqI, gI_eqN, gI_leI, gI_ltI, jI_leN, jI_ltN, gI_sub, pif_tt, pif_ff, pg_tt, isB, or_true, true_or, pif_T, pif_F, pg_T, pb_S, upd_e, upd_n, fX2_copyFrom_26]
    exact Ok.s ⟨rfl, hc.1, hc.2.1, hp⟩
theorem copyGX (hN : 100 ≤ N) (hk : Gk n z f s e) (hG : Gc z f s e v_p1_size c_p1_first c_p1_second c_p1_ending) : Ok ((fX0_copyFrom N v_size c_ending c_first v_p1_size c_p1_ending c_p1_first c_p1_second c_second)) (fun q => Gc z f s e q.1 q.2.2.1 q.2.2.2 q.2.1) := by
  have hz := hk.2.1
  have hGz := hG.1
  subst hGz
  unfold fX0_copyFrom
  refine up_ok (fun fu i (q : (Nat → Int32) × (Nat → Int32) × (Nat → Int32)) => (fX0_copyFrom_10 N (jI z) c_p1_ending c_p1_first c_p1_second fu (jI i) (jI z) q.1 q.2.1 q.2.2)) _ z (fun i q => ∀ j, j < i → q.2.1 j = jI (f j) ∧ q.2.2 j = jI (s j) ∧ q.1 j = jI (e j)) ?_ ?_ N 0 (c_ending, c_first, c_second) (by omega) (by omega) (fun j h => by omega)
  · intro fu i ⟨c1, c2, c3⟩ hi hp ih
    simp only at hp
    simp (disch := omega) only [jI_0, jI_1, jI_2, jI_3, jI_4, jI_5, jI_6, jI_7, jI_8, jI_9, jI_10, jI_11, jI_12, jI_13, jI_14, jI_15, jI_16, jI_20, jI_24, jI_26, jI_30, jI_31, jI_32, jI_40, jI_48, jI_56, jI_57, jI_59, jI_60, jI_97, jI_99, jI_122, jI_160, jI_240, jI_255, jI_768, jI_1000, ↓jN_1, ↓jN_2, ↓jN_3, ↓jN_4, ↓jN_8, ↓jN_10, ↓jN_11, ↓jN_12, ↓jN_14, ↓jN_20, jI_addN, jI_le, jI_lt, jI_eq, jI_cl, jI_in, jI_add, jI_sub, jI_eqN, gI_eqI, gI_eqN, gI_leI, gI_ltI, jI_leN, jI_ltN, gI_sub, pif_tt, pif_ff, pg_tt, isB, or_true, true_or, pif_T, pif_F, pg_T, pb_S, upd_e, upd_n, fX0_copyFrom_10]
    refine ih (_, _, _) (fun j hj => ?_)
    show upd c2 i (c_p1_first i) j = _ ∧ upd c3 i (c_p1_second i) j = _ ∧ upd c1 i (c_p1_ending i) j = _
    by_cases h : j = i
    · rw [upd_e h, upd_e h, upd_e h, h]; exact hG.2 i hi
    · rw [upd_n h, upd_n h, upd_n h]; exact hp j (by omega)
  · intro fu ⟨c1, c2, c3⟩ hp
    simp (disch := omega) only [jI_0, jI_1, jI_2, jI_3, jI_4, jI_5, jI_6, jI_7, jI_8, jI_9, jI_10, jI_11, jI_12, jI_13, jI_14, jI_15, jI_16, jI_20, jI_24, jI_26, jI_30, jI_31, jI_32, jI_40, jI_48, jI_56, jI_57, jI_59, jI_60, jI_97, jI_99, jI_122, jI_160, jI_240, jI_255, jI_768, jI_1000, ↓jN_1, ↓jN_2, ↓jN_3, ↓jN_4, ↓jN_8, ↓jN_10, ↓jN_11, ↓jN_12, ↓jN_14, ↓jN_20, jI_addN, jI_le, jI_lt, jI_eq, jI_cl, jI_in, jI_add, jI_sub, jI_eqN, gI_eqI, gI_eqN, gI_leI, gI_ltI, jI_leN, jI_ltN, gI_sub, pif_tt, pif_ff, pg_tt, isB, or_true, true_or, pif_T, pif_F, pg_T, pb_S, upd_e, upd_n, fX0_copyFrom_10]
    exact Ok.s ⟨rfl, hp⟩
end
/-- the tree's own rows, behind begin -/
def TB (H : Nat → Nat) (z : Nat) (f s e : Nat → Nat) (vd : Int32) (co cp : Nat → Int32) (vk vs : Int32) (cb cc cpw cst cwh : Nat → Int32) (vz : Int32) (ce cf cs : Nat → Int32) : Prop :=
  vd = jI (cnt z (isOp e)) ∧ (∀ d, d < cnt z (isOp e) → co d = jI (odR H f s (opN z (isOp e) d) 0) ∧ cp d = jI (opN z (isOp e) d)) ∧ Rc H vk vs cb cc cpw cst cwh ∧ vz = jI z ∧ ∀ g, g < z → cf g = jI (f g) ∧ cs g = jI (s g) ∧ (e g ≠ 2 → ce g = jI (e g))
section
variable {v_depth : Int32} {c_leaf : Nat → Int64} {c_ofFirst : Nat → Int32} {c_open : Nat → Int32} {v_p1_kind : Int32} {v_p1_rounds : Int32} {v_p1_sides : Int32} {c_p1_balls : Nat → Int32} {c_p1_choiceWorth : Nat → Int32} {c_p1_placeWorth : Nat → Int32} {c_p1_strength : Nat → Int32} {c_p1_wheel : Nat → Int32} {v_p2_size : Int32} {c_p2_ending : Nat → Int32} {c_p2_first : Nat → Int32} {c_p2_second : Nat → Int32} {v_rules_kind : Int32} {v_rules_rounds : Int32} {v_rules_sides : Int32} {c_rules_balls : Nat → Int32} {c_rules_choiceWorth : Nat → Int32} {c_rules_placeWorth : Nat → Int32} {c_rules_strength : Nat → Int32} {c_rules_wheel : Nat → Int32} {v_standing_sides : Int32} {c_standing_merit : Nat → Int32} {c_standing_order : Nat → Int32} {c_standing_outAt : Nat → Int32} {c_standing_seat : Nat → Int32} {c_standing_toCome : Nat → Int32} {c_standing_turn : Nat → Int32} {c_standing_won : Nat → Int32} {v_trial_size : Int32} {c_trial_ending : Nat → Int32} {c_trial_first : Nat → Int32} {c_trial_second : Nat → Int32}
variable {N z : Nat} {f s e H : Nat → Nat}
theorem beginX (hN : 100 ≤ N) (hR : Rk H) (hc : Rc H v_p1_kind v_p1_sides c_p1_balls c_p1_choiceWorth c_p1_placeWorth c_p1_strength c_p1_wheel) (hk : Gk (H 0) z f s e) (hG : Gc z f s e v_p2_size c_p2_first c_p2_second c_p2_ending) (hd : cnt z (isOp e) ≤ 7) : Ok ((fX6_begin N v_depth c_ofFirst c_open v_p1_kind v_p1_rounds v_p1_sides c_p1_balls c_p1_choiceWorth c_p1_placeWorth c_p1_strength c_p1_wheel v_p2_size c_p2_ending c_p2_first c_p2_second v_rules_kind v_rules_rounds v_rules_sides c_rules_balls c_rules_choiceWorth c_rules_placeWorth c_rules_strength c_rules_wheel v_trial_size c_trial_ending c_trial_first c_trial_second)) (fun q => TB H z f s e q.1 q.2.1 q.2.2.1 q.2.2.2.1 q.2.2.2.2.2.1 q.2.2.2.2.2.2.1 q.2.2.2.2.2.2.2.1 q.2.2.2.2.2.2.2.2.1 q.2.2.2.2.2.2.2.2.2.1 q.2.2.2.2.2.2.2.2.2.2.1 q.2.2.2.2.2.2.2.2.2.2.2.1 q.2.2.2.2.2.2.2.2.2.2.2.2.1 q.2.2.2.2.2.2.2.2.2.2.2.2.2.1 q.2.2.2.2.2.2.2.2.2.2.2.2.2.2) := by
  have hz := hk.2.1
  have hn := hR.2.1
  obtain ⟨⟨vk, vr, vs, cb, cc, cpw, cst, cwh⟩, e1, r1, r2⟩ := copyRX (N := N) (H := H) (v_p1_rounds := v_p1_rounds) (v_kind := v_rules_kind) (v_rounds := v_rules_rounds) (v_sides := v_rules_sides) (c_balls := c_rules_balls) (c_choiceWorth := c_rules_choiceWorth) (c_placeWorth := c_rules_placeWorth) (c_strength := c_rules_strength) (c_wheel := c_rules_wheel) hN hc
  obtain ⟨⟨vz, ce, cf, cs⟩, e2, g0, gg⟩ := copyGX (N := N) (v_size := v_trial_size) (c_ending := c_trial_ending) (c_first := c_trial_first) (c_second := c_trial_second) hN hk hG
  simp only at r1 r2 g0 gg
  subst g0
  have hGz := hG.1
  subst hGz
  simp (disch := omega) only [jI_0, jI_1, jI_2, jI_3, jI_4, jI_5, jI_6, jI_7, jI_8, jI_9, jI_10, jI_11, jI_12, jI_13, jI_14, jI_15, jI_16, jI_20, jI_24, jI_26, jI_30, jI_31, jI_32, jI_40, jI_48, jI_56, jI_57, jI_59, jI_60, jI_97, jI_99, jI_122, jI_160, jI_240, jI_255, jI_768, jI_1000, ↓jN_1, ↓jN_2, ↓jN_3, ↓jN_4, ↓jN_8, ↓jN_10, ↓jN_11, ↓jN_12, ↓jN_14, ↓jN_20, jI_addN, jI_le, jI_lt, jI_eq, jI_cl, jI_in, jI_add, jI_sub, jI_eqN, gI_eqI, gI_eqN, gI_leI, gI_ltI, jI_leN, jI_ltN, gI_sub, pif_tt, pif_ff, pg_tt, isB, or_true, true_or, pif_T, pif_F, pg_T, pb_S, upd_e, upd_n, fX6_begin, e1, e2]
  refine up_ok (fun fu i (q : Nat × (Nat → Int32) × (Nat → Int32)) => (fX6_begin_23 N v_p1_kind v_p1_rounds v_p1_sides c_p1_balls c_p1_choiceWorth c_p1_placeWorth c_p1_strength c_p1_wheel (jI z) c_p2_ending c_p2_first c_p2_second fu (jI i) (jI q.1) q.2.1 q.2.2 vk vr vs cb cc cpw cst cwh (jI z) ce cf cs)) _ z (fun i q => q.1 = cnt i (isOp e) ∧ ∀ d, d < cnt i (isOp e) → q.2.1 d = jI (odR H f s (opN z (isOp e) d) 0) ∧ q.2.2 d = jI (opN z (isOp e) d)) ?_ ?_ N 0 (0, c_ofFirst, c_open) (by omega) (by omega) ⟨rfl, fun k h => absurd h (Nat.not_lt_zero _)⟩
  · intro fu i ⟨d, c1, c2⟩ hi ⟨h1, h2⟩ ih
    simp only at h1 h2
    obtain ⟨g1, g2, g3⟩ := hG.2 i hi
    obtain ⟨k1, k2, k3, k4⟩ := hk.2.2 i hi
    have hs : cnt (i + 1) (isOp e) = cnt i (isOp e) + (if isOp e i = true then 1 else 0) := rfl
    by_cases h : e i = 2
    · have hlt := cnt_lt_of hi (isOp_iff.mpr h)
      have s1 := (r2.2.2 (f i) (by omega)).1
      have s2 := (r2.2.2 (s i) (by omega)).1
      have a1 := hR.2.2.2.1 (f i) (by omega)
      have a2 := hR.2.2.2.1 (s i) (by omega)
      have hch := chanceX (N := N) (a := H (2 + f i)) (b := H (2 + s i)) (by omega) (by omega) (by omega)
      simp (disch := omega) only [jI_0, jI_1, jI_2, jI_3, jI_4, jI_5, jI_6, jI_7, jI_8, jI_9, jI_10, jI_11, jI_12, jI_13, jI_14, jI_15, jI_16, jI_20, jI_24, jI_26, jI_30, jI_31, jI_32, jI_40, jI_48, jI_56, jI_57, jI_59, jI_60, jI_97, jI_99, jI_122, jI_160, jI_240, jI_255, jI_768, jI_1000, ↓jN_1, ↓jN_2, ↓jN_3, ↓jN_4, ↓jN_8, ↓jN_10, ↓jN_11, ↓jN_12, ↓jN_14, ↓jN_20, jI_addN, jI_le, jI_lt, jI_eq, jI_cl, jI_in, jI_add, jI_sub, jI_eqN, gI_eqI, gI_eqN, gI_leI, gI_ltI, jI_leN, jI_ltN, gI_sub, pif_tt, pif_ff, pg_tt, isB, or_true, true_or, pif_T, pif_F, pg_T, pb_S, upd_e, upd_n, fX6_begin_23, fX6_begin_110, g1, g2, g3, s1, s2, hch]
      rw [if_pos (isOp_iff.mpr h)] at hs
      refine ih (d + 1, _, _) ⟨by rw [hs, h1], fun k hk2 => ?_⟩
      show upd c1 d (jI (odN (H (2 + f i)) (H (2 + s i)))) k = _ ∧ upd c2 d (jI i) k = _
      by_cases hkd : k = d
      · rw [upd_e hkd, upd_e hkd, hkd, h1, op_of hi (isOp_iff.mpr h)]
        exact ⟨rfl, rfl⟩
      · rw [upd_n hkd, upd_n hkd]; exact h2 k (by omega)
    · simp (disch := omega) only [jI_0, jI_1, jI_2, jI_3, jI_4, jI_5, jI_6, jI_7, jI_8, jI_9, jI_10, jI_11, jI_12, jI_13, jI_14, jI_15, jI_16, jI_20, jI_24, jI_26, jI_30, jI_31, jI_32, jI_40, jI_48, jI_56, jI_57, jI_59, jI_60, jI_97, jI_99, jI_122, jI_160, jI_240, jI_255, jI_768, jI_1000, ↓jN_1, ↓jN_2, ↓jN_3, ↓jN_4, ↓jN_8, ↓jN_10, ↓jN_11, ↓jN_12, ↓jN_14, ↓jN_20, jI_addN, jI_le, jI_lt, jI_eq, jI_cl, jI_in, jI_add, jI_sub, jI_eqN, gI_eqI, gI_eqN, gI_leI, gI_ltI, jI_leN, jI_ltN, gI_sub, pif_tt, pif_ff, pg_tt, isB, or_true, true_or, pif_T, pif_F, pg_T, pb_S, upd_e, upd_n, fX6_begin_23, fX6_begin_110, g1, g2, g3]
      rw [if_neg (fun c => h (isOp_iff.mp c))] at hs
      exact ih (d, c1, c2) ⟨by rw [hs, h1]; rfl, fun k hk2 => h2 k (by omega)⟩
  · intro fu ⟨d, c1, c2⟩ ⟨h1, h2⟩
    simp only at h1 h2
    simp (disch := omega) only [jI_0, jI_1, jI_2, jI_3, jI_4, jI_5, jI_6, jI_7, jI_8, jI_9, jI_10, jI_11, jI_12, jI_13, jI_14, jI_15, jI_16, jI_20, jI_24, jI_26, jI_30, jI_31, jI_32, jI_40, jI_48, jI_56, jI_57, jI_59, jI_60, jI_97, jI_99, jI_122, jI_160, jI_240, jI_255, jI_768, jI_1000, ↓jN_1, ↓jN_2, ↓jN_3, ↓jN_4, ↓jN_8, ↓jN_10, ↓jN_11, ↓jN_12, ↓jN_14, ↓jN_20, jI_addN, jI_le, jI_lt, jI_eq, jI_cl, jI_in, jI_add, jI_sub, jI_eqN, gI_eqI, gI_eqN, gI_leI, gI_ltI, jI_leN, jI_ltN, gI_sub, pif_tt, pif_ff, pg_tt, isB, or_true, true_or, pif_T, pif_F, pg_T, pb_S, upd_e, upd_n, fX6_begin_23]
    refine Ok.s ⟨by rw [h1], h2, r2, rfl, fun g hg => ?_⟩
    obtain ⟨a, b, c⟩ := gg g hg
    exact ⟨a, b, fun _ => c⟩
theorem lookAtX {r : Nat} (hN : 100 ≤ N) (hk : Gk (H 0) z f s e) (hd : cnt z (isOp e) ≤ 7) (hr : r < 128) (hv : v_depth = jI (cnt z (isOp e))) (ho : ∀ d, d < cnt z (isOp e) → c_open d = jI (opN z (isOp e) d)) (hs : v_rules_sides = jI (H 0)) (hz' : v_trial_size = jI z) (hg : ∀ g, g < z → c_trial_first g = jI (f g) ∧ c_trial_second g = jI (s g) ∧ (e g ≠ 2 → c_trial_ending g = jI (e g))) : ∃ co ct cw ce, (fX6_lookAt N v_depth c_open v_rules_sides v_standing_sides c_standing_order c_standing_seat c_standing_won v_trial_size c_trial_ending c_trial_first c_trial_second (jI r)) = some (jI (H 0), co, ct, cw, ce) ∧ (∀ p, p < H 0 → co p = jI (ordN (wonN f s (eR e z r) z) (H 0) p)) ∧ (∀ i, i < H 0 → ct i = jI (plc (H 0) (wonN f s (eR e z r) z) i)) ∧ Gc z f s (eR e z r) (jI z) c_trial_first c_trial_second ce := by
  have hz := hk.2.1
  subst hv hs hz'
  have key : Ok ((fX6_lookAt_2 N (jI (cnt z (isOp e))) c_open (jI (H 0)) (jI z) c_trial_first c_trial_second (jI r) N 0 v_standing_sides c_standing_order c_standing_seat c_standing_won c_trial_ending)) (fun q => q.1 = jI (H 0) ∧ (∀ p, p < H 0 → q.2.1 p = jI (ordN (wonN f s (eR e z r) z) (H 0) p)) ∧ (∀ i, i < H 0 → q.2.2.1 i = jI (plc (H 0) (wonN f s (eR e z r) z) i)) ∧ Gc z f s (eR e z r) (jI z) c_trial_first c_trial_second q.2.2.2.2) := by
    refine up_ok (fun fu i cg => (fX6_lookAt_2 N (jI (cnt z (isOp e))) c_open (jI (H 0)) (jI z) c_trial_first c_trial_second (jI r) fu (jI i) v_standing_sides c_standing_order c_standing_seat c_standing_won cg)) _ (cnt z (isOp e)) (fun i cg => (∀ g, g < z → e g ≠ 2 → cg g = jI (e g)) ∧ (∀ g, g < z → e g = 2 → cnt g (isOp e) < i → cg g = jI (eR e z r g))) ?_ ?_ N 0 c_trial_ending (by omega) (by omega) ⟨fun g hg' h => (hg g hg').2.2 h, fun g _ _ h => absurd h (Nat.not_lt_zero _)⟩
    · intro fu i cg hi ⟨h1, h2⟩ ih
      obtain ⟨o1, o2, o3⟩ := op_ok hi
      have o4 := ho i hi
      have hb := shr_ok (cnt z (isOp e) - 1 - i) (by omega) r hr
      simp (disch := omega) only [jI_0, jI_1, jI_2, jI_3, jI_4, jI_5, jI_6, jI_7, jI_8, jI_9, jI_10, jI_11, jI_12, jI_13, jI_14, jI_15, jI_16, jI_20, jI_24, jI_26, jI_30, jI_31, jI_32, jI_40, jI_48, jI_56, jI_57, jI_59, jI_60, jI_97, jI_99, jI_122, jI_160, jI_240, jI_255, jI_768, jI_1000, ↓jN_1, ↓jN_2, ↓jN_3, ↓jN_4, ↓jN_8, ↓jN_10, ↓jN_11, ↓jN_12, ↓jN_14, ↓jN_20, jI_addN, jI_le, jI_lt, jI_eq, jI_cl, jI_in, jI_add, jI_sub, jI_eqN, gI_eqI, gI_eqN, gI_leI, gI_ltI, jI_leN, jI_ltN, gI_sub, pif_tt, pif_ff, pg_tt, isB, or_true, true_or, pif_T, pif_F, pg_T, pb_S, upd_e, upd_n, fX6_lookAt_2, o4, hb]
      refine ih _ ⟨fun g hg h => ?_, fun g hg h h3 => ?_⟩
      · rw [upd_n (fun c => h (by rw [c]; exact isOp_iff.mp o2))]; exact h1 g hg h
      · by_cases hc : g = opN z (isOp e) i
        · rw [upd_e hc, eR_open h, hc, o3]
        · rw [upd_n hc]
          refine h2 g hg h ?_
          have : cnt g (isOp e) ≠ i := fun c => hc (by rw [← c, op_of hg (isOp_iff.mpr h)])
          omega
    · intro fu cg ⟨h1, h2⟩
      have hGc : Gc z f s (eR e z r) (jI z) c_trial_first c_trial_second cg := ⟨rfl, fun g hg' => by
        obtain ⟨a, b, _⟩ := hg g hg'
        refine ⟨a, b, ?_⟩
        by_cases h : e g = 2
        · exact h2 g hg' h (cnt_lt_of hg' (isOp_iff.mpr h))
        · rw [eR_else h]; exact h1 g hg' h⟩
      obtain ⟨co, ct, cw, e1, w1, w2, w3⟩ := settle_ok (N := N) (v_sides := v_standing_sides) (c_order := c_standing_order) (c_seat := c_standing_seat) (c_won := c_standing_won) hN (Gk_eR (r := r) hk) hGc
      simp (disch := omega) only [jI_0, jI_1, jI_2, jI_3, jI_4, jI_5, jI_6, jI_7, jI_8, jI_9, jI_10, jI_11, jI_12, jI_13, jI_14, jI_15, jI_16, jI_20, jI_24, jI_26, jI_30, jI_31, jI_32, jI_40, jI_48, jI_56, jI_57, jI_59, jI_60, jI_97, jI_99, jI_122, jI_160, jI_240, jI_255, jI_768, jI_1000, ↓jN_1, ↓jN_2, ↓jN_3, ↓jN_4, ↓jN_8, ↓jN_10, ↓jN_11, ↓jN_12, ↓jN_14, ↓jN_20, jI_addN, jI_le, jI_lt, jI_eq, jI_cl, jI_in, jI_add, jI_sub, jI_eqN, gI_eqI, gI_eqN, gI_leI, gI_ltI, jI_leN, jI_ltN, gI_sub, pif_tt, pif_ff, pg_tt, isB, or_true, true_or, pif_T, pif_F, pg_T, pb_S, upd_e, upd_n, fX6_lookAt_2, e1]
      exact Ok.s ⟨rfl, w2, w3, hGc⟩
  obtain ⟨⟨a, co, ct, cw, ce⟩, e1, h1, h2, h3, h4⟩ := key
  simp only at h1 h2 h3 h4
  subst h1
  exact ⟨co, ct, cw, ce, e1, h2, h3, h4⟩
/-- PAY of a SIDE in a row -/
def leafN (H : Nat → Nat) (z : Nat) (f s e : Nat → Nat) (r i : Nat) : Nat := payN H (wonN f s (eR e z r) z) (merT (H 0) f s (eR e z r) z z) i
theorem growPaysX (hN : 1000 ≤ N) (hR : Rk H) (hc : Rc H v_p1_kind v_p1_sides c_p1_balls c_p1_choiceWorth c_p1_placeWorth c_p1_strength c_p1_wheel) (hk : Gk (H 0) z f s e) (hG : Gc z f s e v_p2_size c_p2_first c_p2_second c_p2_ending) (hd : cnt z (isOp e) ≤ 7) : Ok ((fX6_growPays N v_depth c_leaf c_ofFirst c_open v_p1_kind v_p1_rounds v_p1_sides c_p1_balls c_p1_choiceWorth c_p1_placeWorth c_p1_strength c_p1_wheel v_p2_size c_p2_ending c_p2_first c_p2_second v_rules_kind v_rules_rounds v_rules_sides c_rules_balls c_rules_choiceWorth c_rules_placeWorth c_rules_strength c_rules_wheel v_standing_sides c_standing_merit c_standing_order c_standing_outAt c_standing_seat c_standing_toCome c_standing_turn c_standing_won v_trial_size c_trial_ending c_trial_first c_trial_second)) (fun q => TB H z f s e q.1 q.2.2.1 q.2.2.2.1 q.2.2.2.2.1 q.2.2.2.2.2.2.1 q.2.2.2.2.2.2.2.1 q.2.2.2.2.2.2.2.2.1 q.2.2.2.2.2.2.2.2.2.1 q.2.2.2.2.2.2.2.2.2.2.1 q.2.2.2.2.2.2.2.2.2.2.2.1 q.2.2.2.2.2.2.2.2.2.2.2.2.2.2.2.2.2.2.2.2.1 q.2.2.2.2.2.2.2.2.2.2.2.2.2.2.2.2.2.2.2.2.2.1 q.2.2.2.2.2.2.2.2.2.2.2.2.2.2.2.2.2.2.2.2.2.2.1 q.2.2.2.2.2.2.2.2.2.2.2.2.2.2.2.2.2.2.2.2.2.2.2 ∧ ∀ r, r < 2 ^ cnt z (isOp e) → ∀ i, i < H 0 → q.2.1 (6 * r + i) = jL (leafN H z f s e r i)) := by
  have hz := hk.2.1
  have hn := hR.2.1
  have hp128 := pw_le (cnt z (isOp e)) (by omega)
  obtain ⟨⟨vd, co, cp, vk, vr, vs, cb, cc, cpw, cst, cwh, vz, ce, cf, cs⟩, e1, hB⟩ := beginX (N := N) (v_depth := v_depth) (c_ofFirst := c_ofFirst) (c_open := c_open) (v_p1_rounds := v_p1_rounds) (v_rules_kind := v_rules_kind) (v_rules_rounds := v_rules_rounds) (v_rules_sides := v_rules_sides) (c_rules_balls := c_rules_balls) (c_rules_choiceWorth := c_rules_choiceWorth) (c_rules_placeWorth := c_rules_placeWorth) (c_rules_strength := c_rules_strength) (c_rules_wheel := c_rules_wheel) (v_trial_size := v_trial_size) (c_trial_ending := c_trial_ending) (c_trial_first := c_trial_first) (c_trial_second := c_trial_second) (by omega) hR hc hk hG hd
  simp only at hB
  obtain ⟨b1, b2, b3, b4, b5⟩ := hB
  have hsh := shl_ok (cnt z (isOp e)) (by omega)
  have b31 := b3.1
  have b32 := b3.2.1
  subst b1 b4 b31 b32
  unfold fX6_growPays
  rw [e1]
  simp only [pb_S]
  refine up_ok (fun fu r (q : (Nat → Int64) × Int32 × (Nat → Int32) × (Nat → Int32) × (Nat → Int32) × (Nat → Int32) × (Nat → Int32) × (Nat → Int32) × (Nat → Int32) × (Nat → Int32)) => (fX6_growPays_8 N v_p1_kind v_p1_rounds v_p1_sides c_p1_balls c_p1_choiceWorth c_p1_placeWorth c_p1_strength c_p1_wheel v_p2_size c_p2_ending c_p2_first c_p2_second fu (jI r) (jI (cnt z (isOp e))) q.1 co cp (jI (H 1)) vr (jI (H 0)) cb cc cpw cst cwh q.2.1 q.2.2.1 q.2.2.2.1 q.2.2.2.2.1 q.2.2.2.2.2.1 q.2.2.2.2.2.2.1 q.2.2.2.2.2.2.2.1 q.2.2.2.2.2.2.2.2.1 (jI z) q.2.2.2.2.2.2.2.2.2 cf cs)) _ (2 ^ cnt z (isOp e)) (fun m q => (∀ r, r < m → ∀ i, i < H 0 → q.1 (6 * r + i) = jL (leafN H z f s e r i)) ∧ (∀ g, g < z → e g ≠ 2 → q.2.2.2.2.2.2.2.2.2 g = jI (e g))) ?_ ?_ N 0 (c_leaf, v_standing_sides, c_standing_merit, c_standing_order, c_standing_outAt, c_standing_seat, c_standing_toCome, c_standing_turn, c_standing_won, ce) (Nat.zero_le _) (by omega) ⟨fun r h => absurd h (Nat.not_lt_zero _), fun g hg => (b5 g hg).2.2⟩
  · intro fu r ⟨cl, vss, cm, cor, cou, cse, cto, ctu, cwo, cen⟩ hr ⟨h1, h2⟩ ih
    simp only at h1 h2
    obtain ⟨co2, ct2, cw2, ce2, e2, o1, o2, o3⟩ := lookAtX (N := N) (H := H) (r := r) (v_depth := jI (cnt z (isOp e))) (c_open := cp) (v_rules_sides := jI (H 0)) (v_trial_size := jI z) (v_standing_sides := vss) (c_standing_order := cor) (c_standing_seat := cse) (c_standing_won := cwo) (c_trial_first := cf) (c_trial_second := cs) (c_trial_ending := cen) (by omega) hk hd (by omega) rfl (fun d hd => (b2 d hd).2) rfl rfl (fun g hg => ⟨(b5 g hg).1, (b5 g hg).2.1, h2 g hg⟩)
    obtain ⟨⟨cm3, co3, cl3, ct3, ctu3, cw3⟩, e3, l1, l2⟩ := payAllX (N := N) (H := H) (fr := 6 * r) (c_p3 := cl) (c_merit := cm) (c_outAt := cou) (c_toCome := cto) (c_turn := ctu) (c_won := cw2) (c_order := co2) (c_seat := ct2) (c_p1_choiceWorth := cc) (c_p1_placeWorth := cpw) (c_p1_balls := cb) (c_p1_wheel := cwh) (by omega) hR (Gk_eR (r := r) hk) o3 (by omega) (fun j hj => (b3.2.2 j hj).2.2.1) (fun j hj => (b3.2.2 j hj).2.1) (fun j hj => (b3.2.2 j hj).2.2.2.1) (fun j hj => (b3.2.2 j hj).2.2.2.2) o1 o2
    simp only at l1 l2
    have h6 : jI r * jI 6 = jI (6 * r) := by rw [jI_mul, Nat.mul_comm]
    simp (disch := omega) only [jI_0, jI_1, jI_2, jI_3, jI_4, jI_5, jI_6, jI_7, jI_8, jI_9, jI_10, jI_11, jI_12, jI_13, jI_14, jI_15, jI_16, jI_20, jI_24, jI_26, jI_30, jI_31, jI_32, jI_40, jI_48, jI_56, jI_57, jI_59, jI_60, jI_97, jI_99, jI_122, jI_160, jI_240, jI_255, jI_768, jI_1000, ↓jN_1, ↓jN_2, ↓jN_3, ↓jN_4, ↓jN_8, ↓jN_10, ↓jN_11, ↓jN_12, ↓jN_14, ↓jN_20, jI_addN, jI_le, jI_lt, jI_eq, jI_cl, jI_in, jI_add, jI_sub, jI_eqN, gI_eqI, gI_eqN, gI_leI, gI_ltI, jI_leN, jI_ltN, gI_sub, pif_tt, pif_ff, pg_tt, isB, or_true, true_or, pif_T, pif_F, pg_T, pb_S, upd_e, upd_n, fX6_growPays_8, hsh, e2, h6, e3]
    refine ih (cl3, jI (H 0), cm3, co2, co3, ct2, ct3, ctu3, cw3, ce2) ⟨fun r' hr' i hi => ?_, fun g hg hne => ?_⟩
    · show cl3 (6 * r' + i) = _
      by_cases hc : r' = r
      · rw [hc]; exact l1 i hi
      · rw [l2 (6 * r' + i) (by omega)]
        exact h1 r' (by omega) i hi
    · show ce2 g = _
      rw [(o3.2 g hg).2.2, eR_else hne]
  · intro fu ⟨cl, vss, cm, cor, cou, cse, cto, ctu, cwo, cen⟩ ⟨h1, h2⟩
    simp only at h1 h2
    simp (disch := omega) only [jI_0, jI_1, jI_2, jI_3, jI_4, jI_5, jI_6, jI_7, jI_8, jI_9, jI_10, jI_11, jI_12, jI_13, jI_14, jI_15, jI_16, jI_20, jI_24, jI_26, jI_30, jI_31, jI_32, jI_40, jI_48, jI_56, jI_57, jI_59, jI_60, jI_97, jI_99, jI_122, jI_160, jI_240, jI_255, jI_768, jI_1000, ↓jN_1, ↓jN_2, ↓jN_3, ↓jN_4, ↓jN_8, ↓jN_10, ↓jN_11, ↓jN_12, ↓jN_14, ↓jN_20, jI_addN, jI_le, jI_lt, jI_eq, jI_cl, jI_in, jI_add, jI_sub, jI_eqN, gI_eqI, gI_eqN, gI_leI, gI_ltI, jI_leN, jI_ltN, gI_sub, pif_tt, pif_ff, pg_tt, isB, or_true, true_or, pif_T, pif_F, pg_T, pb_S, upd_e, upd_n, fX6_growPays_8, hsh]
    exact Ok.s ⟨⟨rfl, b2, b3, rfl, fun g hg => ⟨(b5 g hg).1, (b5 g hg).2.1, h2 g hg⟩⟩, h1⟩
end
