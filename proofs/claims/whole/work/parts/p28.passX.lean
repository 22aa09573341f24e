/-! YEARS: the class's course. -/
section
variable {v_champion : Int32} {v_champions : Int32} {v_fewest : Int32} {v_gap : Int32} {v_seed : Int32} {v_widestGap : Int32} {v_p1_kind : Int32} {v_p1_sides : Int32} {c_p1_balls : Nat → Int32} {c_p1_choiceWorth : Nat → Int32} {c_p1_strength : Nat → Int32} {c_p1_wheel : Nat → Int32} {v_season_size : Int32} {c_season_ending : Nat → Int32} {c_season_first : Nat → Int32} {c_season_second : Nat → Int32} {v_standing_sides : Int32} {c_standing_merit : Nat → Int32} {c_standing_order : Nat → Int32} {c_standing_outAt : Nat → Int32} {c_standing_seat : Nat → Int32} {c_standing_toCome : Nat → Int32} {c_standing_turn : Nat → Int32} {c_standing_won : Nat → Int32} {c_strength : Nat → Int32} {c_wasLast : Nat → Int32}
variable {N : Nat} {H : Nat → Nat}
theorem passX {ny : Nat} {x : Int32} (hN : 100 ≤ N) (hR : Rk H) (hny : 1 ≤ ny) (hny2 : ny ≤ 40) (hkd : v_p1_kind = jI (H 1)) (hsd : v_p1_sides = jI (H 0)) (hb : ∀ j, j < 6 → c_p1_balls j = jI (H (20 + j))) (hcw : ∀ j, j < 6 → c_p1_choiceWorth j = jI (H (14 + j))) (hss : ∀ j, j < 6 → c_p1_strength j = jI (H (2 + j))) (hw : ∀ j, j < 6 → c_p1_wheel j = jI (H (26 + j))) : Ok ((fX7_pass N v_champion v_champions v_fewest v_gap v_seed v_widestGap v_p1_kind v_p1_sides c_p1_balls c_p1_choiceWorth c_p1_strength c_p1_wheel v_season_size c_season_ending c_season_first c_season_second v_standing_sides c_standing_merit c_standing_order c_standing_outAt c_standing_seat c_standing_toCome c_standing_turn c_standing_won c_strength c_wasLast (jI ny) x)) (fun q => q.1 = jI (yC H x (ny - 1)) ∧ q.2.1 = jI (chM H x ny) ∧ q.2.2.1 = fwI (fwN H x ny) ∧ q.2.2.2.1 = jI (gpN (H 0) (ySt H x ny).2) ∧ q.2.2.2.2.2.1 = jI (wdN H x ny) ∧ ∀ i, i < H 0 → q.2.2.2.2.2.2.2.2.2.2.2.2.2.2.2.2.2.2.1 i = jI ((ySt H x ny).2 i)) := by
  have hn := hR.2.1
  have hn2 := hR.1
  have hz15 := zR_le hn
  subst hkd hsd
  unfold fX7_pass
  refine up_ok (fun fu i (q : (Nat → Int32) × (Nat → Int32)) => (fX7_pass_24 N (jI (H 1)) (jI (H 0)) c_p1_balls c_p1_choiceWorth c_p1_strength c_p1_wheel (jI ny) x fu (jI i) v_champion (jI 0) (gI 4) v_gap x (jI 0) v_season_size c_season_ending c_season_first c_season_second v_standing_sides c_standing_merit c_standing_order c_standing_outAt c_standing_seat c_standing_toCome c_standing_turn c_standing_won q.1 q.2)) _ 6 (fun i q => ∀ j, j < i → q.1 j = jI (H (2 + j)) ∧ q.2 j = gI 4) ?_ ?_ N 0 (c_strength, c_wasLast) (by omega) (by omega) (fun j h => by omega)
  · intro fu i ⟨cs, cl⟩ hi hp ih
    simp only at hp
    have h1 := hss i hi
    simp (disch := omega) only [jI_0, jI_1, jI_2, jI_3, jI_4, jI_5, jI_6, jI_7, jI_8, jI_9, jI_10, jI_11, jI_12, jI_13, jI_14, jI_15, jI_16, jI_20, jI_24, jI_26, jI_30, jI_31, jI_32, jI_40, jI_48, jI_56, jI_57, jI_59, jI_60, jI_97, jI_99, jI_122, jI_160, jI_240, jI_255, jI_768, jI_1000, ↓jN_1, ↓jN_2, ↓jN_3, ↓jN_4, ↓jN_8, ↓jN_10, ↓jN_11, ↓jN_12, ↓jN_14, ↓jN_20, jI_addN, jI_le, jI_lt, jI_eq, jI_cl, jI_in, jI_add, jI_sub, jI_eqN, gI_eqI, gI_eqN, gI_leI, gI_ltI, jI_leN, jI_ltN, gI_sub, pif_tt, pif_ff, pg_tt, isB, or_true, true_or, pif_T, pif_F, pg_T, pb_S, upd_e, upd_n, fX7_pass_24, h1]
    refine ih (_, _) (fun j hj => ?_)
    show upd cs i _ j = _ ∧ upd cl i _ j = _
    by_cases h : j = i
    · rw [upd_e h, upd_e h, h]; exact ⟨rfl, rfl⟩
    · rw [upd_n h, upd_n h]; exact hp j (by omega)
  · intro fu ⟨cs, cl⟩ hp
    simp only at hp
    obtain ⟨⟨vz, ce, cf, csc⟩, e1, a1, a2, a3, a4⟩ := addRoundX (N := N) (n := H 0) (z := 0) (f := fun _ => 0) (s := fun _ => 0) (c_ending := c_season_ending) (c_first := c_season_first) (c_second := c_season_second) hN hn (by omega) (fun g hg => by omega)
    simp only [Nat.zero_add] at a1 a2 a3 a4
    subst a1
    have ag : ∀ g, g < zR (H 0) → cf g = jI (rF (H 0) g) ∧ csc g = jI (rS (H 0) g) := fun g hg => by
      have := a2 g hg
      unfold apF apS at this
      rw [if_neg (by omega), if_neg (by omega), Nat.sub_zero] at this
      exact this
    simp (disch := omega) only [jI_0, jI_1, jI_2, jI_3, jI_4, jI_5, jI_6, jI_7, jI_8, jI_9, jI_10, jI_11, jI_12, jI_13, jI_14, jI_15, jI_16, jI_20, jI_24, jI_26, jI_30, jI_31, jI_32, jI_40, jI_48, jI_56, jI_57, jI_59, jI_60, jI_97, jI_99, jI_122, jI_160, jI_240, jI_255, jI_768, jI_1000, ↓jN_1, ↓jN_2, ↓jN_3, ↓jN_4, ↓jN_8, ↓jN_10, ↓jN_11, ↓jN_12, ↓jN_14, ↓jN_20, jI_addN, jI_le, jI_lt, jI_eq, jI_cl, jI_in, jI_add, jI_sub, jI_eqN, gI_eqI, gI_eqN, gI_leI, gI_ltI, jI_leN, jI_ltN, gI_sub, pif_tt, pif_ff, pg_tt, isB, or_true, true_or, pif_T, pif_F, pg_T, pb_S, upd_e, upd_n, fX7_pass_24, e1]
    refine up_ok (fun fu y (q : Int32 × Nat × Nat × Int32 × Int32 × Nat × (Nat → Int32) × Int32 × (Nat → Int32) × (Nat → Int32) × (Nat → Int32) × (Nat → Int32) × (Nat → Int32) × (Nat → Int32) × (Nat → Int32) × (Nat → Int32) × (Nat → Int32)) => (fX7_pass_82 N (jI (H 1)) (jI (H 0)) c_p1_balls c_p1_choiceWorth c_p1_strength c_p1_wheel (jI ny) x fu (jI y) q.1 (jI q.2.1) (fwI q.2.2.1) q.2.2.2.1 q.2.2.2.2.1 (jI q.2.2.2.2.2.1) (jI (zR (H 0))) q.2.2.2.2.2.2.1 cf csc q.2.2.2.2.2.2.2.1 q.2.2.2.2.2.2.2.2.1 q.2.2.2.2.2.2.2.2.2.1 q.2.2.2.2.2.2.2.2.2.2.1 q.2.2.2.2.2.2.2.2.2.2.2.1 q.2.2.2.2.2.2.2.2.2.2.2.2.1 q.2.2.2.2.2.2.2.2.2.2.2.2.2.1 q.2.2.2.2.2.2.2.2.2.2.2.2.2.2.1 q.2.2.2.2.2.2.2.2.2.2.2.2.2.2.2.1 q.2.2.2.2.2.2.2.2.2.2.2.2.2.2.2.2)) _ ny (fun y q => q.2.1 = chM H x y ∧ q.2.2.1 = fwN H x y ∧ q.2.2.2.2.1 = (ySt H x y).1 ∧ q.2.2.2.2.2.1 = wdN H x y ∧ (∀ i, i < H 0 → q.2.2.2.2.2.2.2.2.2.2.2.2.2.2.2.1 i = jI ((ySt H x y).2 i)) ∧ (∀ c, c < H 0 → q.2.2.2.2.2.2.2.2.2.2.2.2.2.2.2.2 c = wlI (llN (yL H x) c y)) ∧ (0 < y → q.1 = jI (yC H x (y - 1)) ∧ q.2.2.2.1 = jI (gpN (H 0) (ySt H x y).2))) ?_ ?_ N 0 (v_champion, 0, 0, v_gap, x, 0, ce, v_standing_sides, c_standing_merit, c_standing_order, c_standing_outAt, c_standing_seat, c_standing_toCome, c_standing_turn, c_standing_won, cs, cl) (by omega) (by omega) ⟨rfl, rfl, rfl, rfl, fun i hi => (hp i (by omega)).1, fun c hc => (hp c (by omega)).2, fun h => absurd h (Nat.lt_irrefl _)⟩
    · intro fu y ⟨v1, m, fw, v4, sd, wd, c1, v2, c2, c3, c4, c5, c6, c7, c8, cst, cwl⟩ hy ⟨h1, h2, h3, h4, h5, h6, _⟩ ih
      simp only at h1 h2 h3 h4 h5 h6
      have hst := ySt_le hR x y
      obtain ⟨ce2, co2, cse2, cw2, e2, b1, b2⟩ := playSeasonX (N := N) (x := sd) (st := (ySt H x y).2) (v_standing_sides := v2) (c_season_ending := c1) (c_standing_order := c3) (c_standing_seat := c5) (c_standing_won := c8) hN hR hst h5 ag
      have hyl : yL H x y = frL (H 0) (yW (H 0) sd (ySt H x y).2) 0 := by rw [h3]; rfl
      have hyc : yC H x y = ordN (yW (H 0) sd (ySt H x y).2) (H 0) 0 := by rw [h3]; rfl
      obtain ⟨cwl2, e3, b3⟩ := noteEndsX (N := N) (H := H) (W := yW (H 0) sd (ySt H x y).2) (y := y) (fw := fw) (m := m) (l := yL H x) (v_champion := v1) (c_standing_order := co2) (c_wasLast := cwl) hR (by omega) (by rw [h2]; have := fwN_le H x y; omega) (by rw [h1]; exact chM_lt hR x y) b1 h6 hyl
      obtain ⟨⟨s1, s2, s3, s4, s5, s6, s7⟩, e4, b4, b5⟩ := shareX (N := N) (H := H) (x := sd) (st := (ySt H x y).2) (v_p1_kind := jI (H 1)) (c_standing_merit := c2) (c_standing_outAt := c4) (c_standing_toCome := c6) (c_standing_turn := c7) (c_standing_won := cw2) hN hR rfl hb hcw hw hst h5 b1 b2
      simp only at b4 b5
      have hst2 := ySt_le hR x (y + 1)
      have hnx : (ySt H x (y + 1)).2 = gwN (yCh H sd (ySt H x y).2) (fun j => H (14 + j)) (ySt H x y).2 (H 0) := by rw [h3]; rfl
      have hnx1 : (ySt H x (y + 1)).1 = ySd H sd := by rw [h3]; rfl
      rw [← hnx] at b5
      have e5 := gapX (N := N) (H := H) (st := (ySt H x (y + 1)).2) (c_strength := s7) hN hn2 hn hst2 b5
      have hgl := gpN_le (n := H 0) (st := (ySt H x (y + 1)).2) (fun i hi => (hst2 i hi).2)
      have hwl := wdN_le hR x y
      simp (disch := omega) only [jI_0, jI_1, jI_2, jI_3, jI_4, jI_5, jI_6, jI_7, jI_8, jI_9, jI_10, jI_11, jI_12, jI_13, jI_14, jI_15, jI_16, jI_20, jI_24, jI_26, jI_30, jI_31, jI_32, jI_40, jI_48, jI_56, jI_57, jI_59, jI_60, jI_97, jI_99, jI_122, jI_160, jI_240, jI_255, jI_768, jI_1000, ↓jN_1, ↓jN_2, ↓jN_3, ↓jN_4, ↓jN_8, ↓jN_10, ↓jN_11, ↓jN_12, ↓jN_14, ↓jN_20, jI_addN, jI_le, jI_lt, jI_eq, jI_cl, jI_in, jI_add, jI_sub, jI_eqN, gI_eqI, gI_eqN, gI_leI, gI_ltI, jI_leN, jI_ltN, gI_sub, pif_tt, pif_ff, pg_tt, isB, or_true, true_or, pif_T, pif_F, pg_T, pb_S, upd_e, upd_n, fX7_pass_82, e2, e3, e4, e5, jI_mx]
      refine ih (jI (ordN (yW (H 0) sd (ySt H x y).2) (H 0) 0), m ||| 2 ^ ordN (yW (H 0) sd (ySt H x y).2) (H 0) 0, fwU fw y (llN (yL H x) (ordN (yW (H 0) sd (ySt H x y).2) (H 0) 0) y), jI (gpN (H 0) (ySt H x (y + 1)).2), s1, max wd (gpN (H 0) (ySt H x (y + 1)).2), ce2, jI (H 0), s2, co2, s3, cse2, s4, s5, s6, s7, cwl2) ⟨?_, ?_, ?_, ?_, b5, b3, fun _ => ⟨?_, rfl⟩⟩
      · show m ||| 2 ^ _ = _
        rw [← hyc, h1]; rfl
      · show fwU fw y _ = _
        rw [← hyc, h2]; rfl
      · show s1 = _
        rw [b4, hnx1]
      · show max wd _ = _
        rw [h4]; rfl
      · show jI _ = _
        rw [Nat.add_sub_cancel, hyc]
    · intro fu ⟨v1, m, fw, v4, sd, wd, c1, v2, c2, c3, c4, c5, c6, c7, c8, cst, cwl⟩ ⟨h1, h2, h3, h4, h5, h6, h7⟩
      simp only at h1 h2 h3 h4 h5 h6 h7
      obtain ⟨h8, h9⟩ := h7 (by omega)
      simp (disch := omega) only [jI_0, jI_1, jI_2, jI_3, jI_4, jI_5, jI_6, jI_7, jI_8, jI_9, jI_10, jI_11, jI_12, jI_13, jI_14, jI_15, jI_16, jI_20, jI_24, jI_26, jI_30, jI_31, jI_32, jI_40, jI_48, jI_56, jI_57, jI_59, jI_60, jI_97, jI_99, jI_122, jI_160, jI_240, jI_255, jI_768, jI_1000, ↓jN_1, ↓jN_2, ↓jN_3, ↓jN_4, ↓jN_8, ↓jN_10, ↓jN_11, ↓jN_12, ↓jN_14, ↓jN_20, jI_addN, jI_le, jI_lt, jI_eq, jI_cl, jI_in, jI_add, jI_sub, jI_eqN, gI_eqI, gI_eqN, gI_leI, gI_ltI, jI_leN, jI_ltN, gI_sub, pif_tt, pif_ff, pg_tt, isB, or_true, true_or, pif_T, pif_F, pg_T, pb_S, upd_e, upd_n, fX7_pass_82]
      exact Ok.s ⟨h8, by rw [h1], by rw [h2], h9, by rw [h4], h5⟩
end
