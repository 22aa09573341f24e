/-! The TABLE: settle of the class, layTable of the reference. -/
def winr (f s e : Nat → Nat) (g : Nat) : Nat := if e g = 0 then f g else if e g = 1 then s g else 99
def wonN (f s e : Nat → Nat) (z i : Nat) : Nat := cnt z (fun g => decide (winr f s e g = i))
theorem wonN_le (f s e : Nat → Nat) (z i : Nat) : wonN f s e z i ≤ z := cnt_le _ _
/-- GAMES: those of the class' rows -/
def Gc (z : Nat) (f s e : Nat → Nat) (vz : Int32) (cf cs ce : Nat → Int32) : Prop := vz = jI z ∧ ∀ g, g < z → cf g = jI (f g) ∧ cs g = jI (s g) ∧ ce g = jI (e g)
def Gk (n z : Nat) (f s e : Nat → Nat) : Prop := n ≤ 6 ∧ z ≤ 30 ∧ ∀ g, g < z → f g < n ∧ s g < n ∧ f g ≠ s g ∧ e g ≤ 2
section
variable {v_sides : Int32} {c_order : Nat → Int32} {v_p1_size : Int32} {c_p1_ending : Nat → Int32} {c_p1_first : Nat → Int32} {c_p1_second : Nat → Int32} {c_seat : Nat → Int32} {c_won : Nat → Int32}
variable {N n z : Nat} {f s e : Nat → Nat}
theorem settle_7 (hN : 100 ≤ N) (hn : n ≤ 6) : ∃ cw, (fX4_settle_7 N v_p1_size c_p1_ending c_p1_first c_p1_second (jI n) N 0 (jI n) c_order c_seat c_won) = (fX4_settle_30 N v_p1_size c_p1_ending c_p1_first c_p1_second (jI n) N 0 (jI n) c_order c_seat cw) ∧ ∀ j, j < n → cw j = jI 0 := by
  refine for_up (fun f i cw => (fX4_settle_7 N v_p1_size c_p1_ending c_p1_first c_p1_second (jI n) f (jI i) (jI n) c_order c_seat cw)) (fun cw => (fX4_settle_30 N v_p1_size c_p1_ending c_p1_first c_p1_second (jI n) N 0 (jI n) c_order c_seat cw)) n (fun i cw => ∀ j, j < i → cw j = jI 0) ?_ ?_ N 0 c_won (by omega) (by omega) (fun j h => by omega)
  · intro f i cw hi hp
    refine ⟨upd cw i (jI 0), ?_, fun j hj => ?_⟩
    · simp (disch := omega) only [jI_0, jI_1, jI_2, jI_3, jI_4, jI_5, jI_6, jI_7, jI_8, jI_9, jI_10, jI_11, jI_12, jI_13, jI_14, jI_15, jI_16, jI_20, jI_24, jI_26, jI_30, jI_31, jI_32, jI_40, jI_48, jI_56, jI_57, jI_59, jI_60, jI_97, jI_99, jI_122, jI_160, jI_240, jI_255, jI_768, jI_1000, ↓jN_1, ↓jN_2, ↓jN_3, ↓jN_4, ↓jN_8, ↓jN_10, ↓jN_11, ↓jN_12, ↓jN_14, ↓jN_20, jI_addN, jI_le, jI_lt, jI_eq, jI_cl, jI_in, jI_add, jI_sub, jI_eqN, gI_eqI, gI_eqN, gI_leI, gI_ltI, jI_leN, jI_ltN, gI_sub, pif_tt, pif_ff, pg_tt, isB, or_true, true_or, pif_T, pif_F, pg_T, pb_S, upd_e, upd_n, fX4_settle_7]
    · by_cases h : j = i
      · exact upd_e h
      · rw [upd_n h]; exact hp j (by omega)
  · intro f cw hp
    simp (disch := omega) only [jI_0, jI_1, jI_2, jI_3, jI_4, jI_5, jI_6, jI_7, jI_8, jI_9, jI_10, jI_11, jI_12, jI_13, jI_14, jI_15, jI_16, jI_20, jI_24, jI_26, jI_30, jI_31, jI_32, jI_40, jI_48, jI_56, jI_57, jI_59, jI_60, jI_97, jI_99, jI_122, jI_160, jI_240, jI_255, jI_768, jI_1000, ↓jN_1, ↓jN_2, ↓jN_3, ↓jN_4, ↓jN_8, ↓jN_10, ↓jN_11, ↓jN_12, ↓jN_14, ↓jN_20, jI_addN, jI_le, jI_lt, jI_eq, jI_cl, jI_in, jI_add, jI_sub, jI_eqN, gI_eqI, gI_eqN, gI_leI, gI_ltI, jI_leN, jI_ltN, gI_sub, pif_tt, pif_ff, pg_tt, isB, or_true, true_or, pif_T, pif_F, pg_T, pb_S, upd_e, upd_n, fX4_settle_7]
theorem settle_30 (hN : 100 ≤ N) (hk : Gk n z f s e) (hG : Gc z f s e v_p1_size c_p1_first c_p1_second c_p1_ending) (h0 : ∀ j, j < n → c_won j = jI 0) : ∃ cw, (fX4_settle_30 N v_p1_size c_p1_ending c_p1_first c_p1_second (jI n) N 0 (jI n) c_order c_seat c_won) = (fX4_settle_70 N v_p1_size c_p1_ending c_p1_first c_p1_second (jI n) N 0 (jI n) c_order c_seat cw) ∧ ∀ j, j < n → cw j = jI (wonN f s e z j) := by
  obtain ⟨rfl, hG⟩ := hG
  obtain ⟨hn, hz, hk⟩ := hk
  refine for_up (fun f i cw => (fX4_settle_30 N (jI z) c_p1_ending c_p1_first c_p1_second (jI n) f (jI i) (jI n) c_order c_seat cw)) (fun cw => (fX4_settle_70 N (jI z) c_p1_ending c_p1_first c_p1_second (jI n) N 0 (jI n) c_order c_seat cw)) z (fun i cw => ∀ j, j < n → cw j = jI (wonN f s e i j)) ?_ ?_ N 0 c_won (by omega) (by omega) (fun j h => h0 j h)
  · intro fu i cw hi hp
    obtain ⟨g1, g2, g3⟩ := hG i hi
    obtain ⟨k1, k2, k3, k4⟩ := hk i hi
    have hw : ∀ j, wonN f s e (i + 1) j = wonN f s e i j + (if winr f s e i = j then 1 else 0) := fun j => by simp [wonN, cnt]
    by_cases he : e i = 2
    · refine ⟨cw, ?_, fun j hj => ?_⟩
      · simp (disch := omega) only [jI_0, jI_1, jI_2, jI_3, jI_4, jI_5, jI_6, jI_7, jI_8, jI_9, jI_10, jI_11, jI_12, jI_13, jI_14, jI_15, jI_16, jI_20, jI_24, jI_26, jI_30, jI_31, jI_32, jI_40, jI_48, jI_56, jI_57, jI_59, jI_60, jI_97, jI_99, jI_122, jI_160, jI_240, jI_255, jI_768, jI_1000, ↓jN_1, ↓jN_2, ↓jN_3, ↓jN_4, ↓jN_8, ↓jN_10, ↓jN_11, ↓jN_12, ↓jN_14, ↓jN_20, jI_addN, jI_le, jI_lt, jI_eq, jI_cl, jI_in, jI_add, jI_sub, jI_eqN, gI_eqI, gI_eqN, gI_leI, gI_ltI, jI_leN, jI_ltN, gI_sub, pif_tt, pif_ff, pg_tt, isB, or_true, true_or, pif_T, pif_F, pg_T, pb_S, upd_e, upd_n, fX4_settle_30, fX4_settle_62, g3]
      · rw [hp j hj, hw, if_neg (by unfold winr; rw [if_neg (by omega), if_neg (by omega)]; omega)]; rfl
    · have hb := wonN_le f s e i (winr f s e i)
      have hwn : winr f s e i < n := by unfold winr; split; exact k1; split; exact k2; omega
      refine ⟨upd cw (winr f s e i) (jI (wonN f s e i (winr f s e i) + 1)), ?_, fun j hj => ?_⟩
      · by_cases h0 : e i = 0
        · have hx : winr f s e i = f i := by unfold winr; rw [if_pos h0]
          rw [hx] at hwn ⊢
          simp (disch := omega) only [jI_0, jI_1, jI_2, jI_3, jI_4, jI_5, jI_6, jI_7, jI_8, jI_9, jI_10, jI_11, jI_12, jI_13, jI_14, jI_15, jI_16, jI_20, jI_24, jI_26, jI_30, jI_31, jI_32, jI_40, jI_48, jI_56, jI_57, jI_59, jI_60, jI_97, jI_99, jI_122, jI_160, jI_240, jI_255, jI_768, jI_1000, ↓jN_1, ↓jN_2, ↓jN_3, ↓jN_4, ↓jN_8, ↓jN_10, ↓jN_11, ↓jN_12, ↓jN_14, ↓jN_20, jI_addN, jI_le, jI_lt, jI_eq, jI_cl, jI_in, jI_add, jI_sub, jI_eqN, gI_eqI, gI_eqN, gI_leI, gI_ltI, jI_leN, jI_ltN, gI_sub, pif_tt, pif_ff, pg_tt, isB, or_true, true_or, pif_T, pif_F, pg_T, pb_S, upd_e, upd_n, fX4_settle_30, fX4_settle_62, fX0_winner, fX0_winner_24, g1, g2, g3, hp (f i) k1]
        · have hx : winr f s e i = s i := by unfold winr; rw [if_neg h0, if_pos (by omega)]
          rw [hx] at hwn ⊢
          simp (disch := omega) only [jI_0, jI_1, jI_2, jI_3, jI_4, jI_5, jI_6, jI_7, jI_8, jI_9, jI_10, jI_11, jI_12, jI_13, jI_14, jI_15, jI_16, jI_20, jI_24, jI_26, jI_30, jI_31, jI_32, jI_40, jI_48, jI_56, jI_57, jI_59, jI_60, jI_97, jI_99, jI_122, jI_160, jI_240, jI_255, jI_768, jI_1000, ↓jN_1, ↓jN_2, ↓jN_3, ↓jN_4, ↓jN_8, ↓jN_10, ↓jN_11, ↓jN_12, ↓jN_14, ↓jN_20, jI_addN, jI_le, jI_lt, jI_eq, jI_cl, jI_in, jI_add, jI_sub, jI_eqN, gI_eqI, gI_eqN, gI_leI, gI_ltI, jI_leN, jI_ltN, gI_sub, pif_tt, pif_ff, pg_tt, isB, or_true, true_or, pif_T, pif_F, pg_T, pb_S, upd_e, upd_n, fX4_settle_30, fX4_settle_62, fX0_winner, fX0_winner_24, g1, g2, g3, hp (s i) k2]
      · rw [hw]
        by_cases h : j = winr f s e i
        · rw [upd_e h, if_pos h.symm, h]
        · rw [upd_n h, if_neg (fun q => h q.symm)]; exact hp j hj
  · intro fu cw hp
    simp (disch := omega) only [jI_0, jI_1, jI_2, jI_3, jI_4, jI_5, jI_6, jI_7, jI_8, jI_9, jI_10, jI_11, jI_12, jI_13, jI_14, jI_15, jI_16, jI_20, jI_24, jI_26, jI_30, jI_31, jI_32, jI_40, jI_48, jI_56, jI_57, jI_59, jI_60, jI_97, jI_99, jI_122, jI_160, jI_240, jI_255, jI_768, jI_1000, ↓jN_1, ↓jN_2, ↓jN_3, ↓jN_4, ↓jN_8, ↓jN_10, ↓jN_11, ↓jN_12, ↓jN_14, ↓jN_20, jI_addN, jI_le, jI_lt, jI_eq, jI_cl, jI_in, jI_add, jI_sub, jI_eqN, gI_eqI, gI_eqN, gI_leI, gI_ltI, jI_leN, jI_ltN, gI_sub, pif_tt, pif_ff, pg_tt, isB, or_true, true_or, pif_T, pif_F, pg_T, pb_S, upd_e, upd_n, fX4_settle_30]
theorem settle_81 {W : Nat → Nat} {i : Nat} (k70 : Int32 → Int32 → (Nat → Int32) → (Nat → Int32) → (Nat → Int32) → Option (Int32 × (Nat → Int32) × (Nat → Int32) × (Nat → Int32))) (hW : ∀ j, j < n → c_won j = jI (W j) ∧ W j ≤ 30) (hn : n ≤ 6) (hi : i < n) : ∀ (t fu : Nat) (o : Nat → Nat) (c_order : Nat → Int32), t < fu → t ≤ i → (∀ p, p ≤ i → p ≠ t → o p < n ∧ c_order p = jI (o p)) → ∃ co, (fX4_settle_81 N v_p1_size c_p1_ending c_p1_first c_p1_second (jI n) k70 fu (jI i) (jI t) (jI n) c_order c_seat c_won) = k70 (jI (i + 1)) (jI n) co c_seat c_won ∧ ∀ p, p ≤ i → co p = jI (insAt W i t o p) := by
  intro t
  induction t with
  | zero =>
    intro fu o c_order hf ht ho
    obtain ⟨fu, rfl⟩ : ∃ q, fu = q + 1 := ⟨fu - 1, by omega⟩
    refine ⟨upd c_order 0 (jI i), ?_, fun p hp => ?_⟩
    · simp (disch := omega) only [jI_0, jI_1, jI_2, jI_3, jI_4, jI_5, jI_6, jI_7, jI_8, jI_9, jI_10, jI_11, jI_12, jI_13, jI_14, jI_15, jI_16, jI_20, jI_24, jI_26, jI_30, jI_31, jI_32, jI_40, jI_48, jI_56, jI_57, jI_59, jI_60, jI_97, jI_99, jI_122, jI_160, jI_240, jI_255, jI_768, jI_1000, ↓jN_1, ↓jN_2, ↓jN_3, ↓jN_4, ↓jN_8, ↓jN_10, ↓jN_11, ↓jN_12, ↓jN_14, ↓jN_20, jI_addN, jI_le, jI_lt, jI_eq, jI_cl, jI_in, jI_add, jI_sub, jI_eqN, gI_eqI, gI_eqN, gI_leI, gI_ltI, jI_leN, jI_ltN, gI_sub, pif_tt, pif_ff, pg_tt, isB, or_true, true_or, pif_T, pif_F, pg_T, pb_S, upd_e, upd_n, fX4_settle_81, fX4_settle_131]
    · simp only [insAt]
      by_cases h : p = 0
      · rw [upd_e h, updN_e h]
      · rw [upd_n h, updN_n h]; exact (ho p hp h).2
  | succ t ih =>
    intro fu o c_order hf ht ho
    obtain ⟨fu, rfl⟩ : ∃ q, fu = q + 1 := ⟨fu - 1, by omega⟩
    obtain ⟨h1, h2⟩ := ho t (by omega) (by omega)
    obtain ⟨h3, h4⟩ := hW (o t) h1
    obtain ⟨h5, h6⟩ := hW i hi
    simp only [insAt]
    by_cases hc : W (o t) < W i
    · obtain ⟨co, e1, e2⟩ := ih fu (updN o (t + 1) (o t)) (upd c_order (t + 1) (jI (o t))) (by omega) (by omega) (fun p hp hpt => by
        by_cases h : p = t + 1
        · rw [updN_e h, upd_e h]; exact ⟨h1, rfl⟩
        · rw [updN_n h, upd_n h]; exact ho p hp h)
      refine ⟨co, ?_, fun p hp => by rw [if_pos hc]; exact e2 p hp⟩
      rw [← e1]
      have ht1 : t + 1 - 1 = t := by omega
      simp (disch := omega) only [jI_0, jI_1, jI_2, jI_3, jI_4, jI_5, jI_6, jI_7, jI_8, jI_9, jI_10, jI_11, jI_12, jI_13, jI_14, jI_15, jI_16, jI_20, jI_24, jI_26, jI_30, jI_31, jI_32, jI_40, jI_48, jI_56, jI_57, jI_59, jI_60, jI_97, jI_99, jI_122, jI_160, jI_240, jI_255, jI_768, jI_1000, ↓jN_1, ↓jN_2, ↓jN_3, ↓jN_4, ↓jN_8, ↓jN_10, ↓jN_11, ↓jN_12, ↓jN_14, ↓jN_20, jI_addN, jI_le, jI_lt, jI_eq, jI_cl, jI_in, jI_add, jI_sub, jI_eqN, gI_eqI, gI_eqN, gI_leI, gI_ltI, jI_leN, jI_ltN, gI_sub, pif_tt, pif_ff, pg_tt, isB, or_true, true_or, pif_T, pif_F, pg_T, pb_S, upd_e, upd_n, fX4_settle_81, h2, h3, h5, ht1]
    · refine ⟨upd c_order (t + 1) (jI i), ?_, fun p hp => ?_⟩
      · have ht1 : t + 1 - 1 = t := by omega
        simp (disch := omega) only [jI_0, jI_1, jI_2, jI_3, jI_4, jI_5, jI_6, jI_7, jI_8, jI_9, jI_10, jI_11, jI_12, jI_13, jI_14, jI_15, jI_16, jI_20, jI_24, jI_26, jI_30, jI_31, jI_32, jI_40, jI_48, jI_56, jI_57, jI_59, jI_60, jI_97, jI_99, jI_122, jI_160, jI_240, jI_255, jI_768, jI_1000, ↓jN_1, ↓jN_2, ↓jN_3, ↓jN_4, ↓jN_8, ↓jN_10, ↓jN_11, ↓jN_12, ↓jN_14, ↓jN_20, jI_addN, jI_le, jI_lt, jI_eq, jI_cl, jI_in, jI_add, jI_sub, jI_eqN, gI_eqI, gI_eqN, gI_leI, gI_ltI, jI_leN, jI_ltN, gI_sub, pif_tt, pif_ff, pg_tt, isB, or_true, true_or, pif_T, pif_F, pg_T, pb_S, upd_e, upd_n, fX4_settle_81, fX4_settle_131, h2, h3, h5, ht1]
      · rw [if_neg hc]
        by_cases h : p = t + 1
        · rw [upd_e h, updN_e h]
        · rw [upd_n h, updN_n h]; exact (ho p hp h).2
theorem settle_70 {W : Nat → Nat} (hN : 100 ≤ N) (hW : ∀ j, j < n → c_won j = jI (W j) ∧ W j ≤ 30) (hn : n ≤ 6) : ∃ co, (fX4_settle_70 N v_p1_size c_p1_ending c_p1_first c_p1_second (jI n) N 0 (jI n) c_order c_seat c_won) = (fX4_settle_147 N v_p1_size c_p1_ending c_p1_first c_p1_second (jI n) N 0 (jI n) co c_seat c_won) ∧ ∀ p, p < n → co p = jI (ordN W n p) := by
  refine for_up (fun f i co => (fX4_settle_70 N v_p1_size c_p1_ending c_p1_first c_p1_second (jI n) f (jI i) (jI n) co c_seat c_won)) (fun co => (fX4_settle_147 N v_p1_size c_p1_ending c_p1_first c_p1_second (jI n) N 0 (jI n) co c_seat c_won)) n (fun i co => ∀ p, p < i → co p = jI (ordN W i p)) ?_ ?_ N 0 c_order (by omega) (by omega) (fun j h => by omega)
  · intro fu i co hi hp
    obtain ⟨co', e1, e2⟩ := settle_81 (N := N) (v_p1_size := v_p1_size) (c_p1_ending := c_p1_ending) (c_p1_first := c_p1_first) (c_p1_second := c_p1_second) (c_seat := c_seat) (fX4_settle_70 N v_p1_size c_p1_ending c_p1_first c_p1_second (jI n) fu) hW hn hi i N (ordN W i) co (by omega) (by omega) (fun p hp1 hp2 => ⟨by have := (ordN_ok W i p (by omega)).1; omega, hp p (by omega)⟩)
    refine ⟨co', ?_, fun p hp => e2 p (by omega)⟩
    show fX4_settle_70 N v_p1_size c_p1_ending c_p1_first c_p1_second (jI n) (fu + 1) (jI i) (jI n) co c_seat c_won = _
    rw [← e1]
    simp (disch := omega) only [jI_0, jI_1, jI_2, jI_3, jI_4, jI_5, jI_6, jI_7, jI_8, jI_9, jI_10, jI_11, jI_12, jI_13, jI_14, jI_15, jI_16, jI_20, jI_24, jI_26, jI_30, jI_31, jI_32, jI_40, jI_48, jI_56, jI_57, jI_59, jI_60, jI_97, jI_99, jI_122, jI_160, jI_240, jI_255, jI_768, jI_1000, ↓jN_1, ↓jN_2, ↓jN_3, ↓jN_4, ↓jN_8, ↓jN_10, ↓jN_11, ↓jN_12, ↓jN_14, ↓jN_20, jI_addN, jI_le, jI_lt, jI_eq, jI_cl, jI_in, jI_add, jI_sub, jI_eqN, gI_eqI, gI_eqN, gI_leI, gI_ltI, jI_leN, jI_ltN, gI_sub, pif_tt, pif_ff, pg_tt, isB, or_true, true_or, pif_T, pif_F, pg_T, pb_S, upd_e, upd_n, fX4_settle_70]
  · intro fu cw hp
    simp (disch := omega) only [jI_0, jI_1, jI_2, jI_3, jI_4, jI_5, jI_6, jI_7, jI_8, jI_9, jI_10, jI_11, jI_12, jI_13, jI_14, jI_15, jI_16, jI_20, jI_24, jI_26, jI_30, jI_31, jI_32, jI_40, jI_48, jI_56, jI_57, jI_59, jI_60, jI_97, jI_99, jI_122, jI_160, jI_240, jI_255, jI_768, jI_1000, ↓jN_1, ↓jN_2, ↓jN_3, ↓jN_4, ↓jN_8, ↓jN_10, ↓jN_11, ↓jN_12, ↓jN_14, ↓jN_20, jI_addN, jI_le, jI_lt, jI_eq, jI_cl, jI_in, jI_add, jI_sub, jI_eqN, gI_eqI, gI_eqN, gI_leI, gI_ltI, jI_leN, jI_ltN, gI_sub, pif_tt, pif_ff, pg_tt, isB, or_true, true_or, pif_T, pif_F, pg_T, pb_S, upd_e, upd_n, fX4_settle_70]
theorem settle_147 {W : Nat → Nat} (hN : 100 ≤ N) (hn : n ≤ 6) (ho : ∀ p, p < n → c_order p = jI (ordN W n p)) : ∃ ct, (fX4_settle_147 N v_p1_size c_p1_ending c_p1_first c_p1_second (jI n) N 0 (jI n) c_order c_seat c_won) = some (jI n, c_order, ct, c_won) ∧ ∀ i, i < n → ct i = jI (plc n W i) := by
  have key := for_up (fun f i ct => (fX4_settle_147 N v_p1_size c_p1_ending c_p1_first c_p1_second (jI n) f (jI i) (jI n) c_order ct c_won)) (fun ct => some (jI n, c_order, ct, c_won)) n (fun i ct => ∀ p, p < i → ct (ordN W n p) = jI p) ?_ ?_ N 0 c_seat (by omega) (by omega) (fun j h => by omega)
  · obtain ⟨ct, e1, e2⟩ := key
    refine ⟨ct, e1, fun i hi => ?_⟩
    have := e2 (plc n W i) (plc_lt hi)
    rwa [ordN_plc W hi] at this
  · intro fu i ct hi hp
    have h1 := ho i hi
    have h2 := (ordN_ok W n i hi).1
    refine ⟨upd ct (ordN W n i) (jI i), ?_, fun p hp1 => ?_⟩
    · simp (disch := omega) only [jI_0, jI_1, jI_2, jI_3, jI_4, jI_5, jI_6, jI_7, jI_8, jI_9, jI_10, jI_11, jI_12, jI_13, jI_14, jI_15, jI_16, jI_20, jI_24, jI_26, jI_30, jI_31, jI_32, jI_40, jI_48, jI_56, jI_57, jI_59, jI_60, jI_97, jI_99, jI_122, jI_160, jI_240, jI_255, jI_768, jI_1000, ↓jN_1, ↓jN_2, ↓jN_3, ↓jN_4, ↓jN_8, ↓jN_10, ↓jN_11, ↓jN_12, ↓jN_14, ↓jN_20, jI_addN, jI_le, jI_lt, jI_eq, jI_cl, jI_in, jI_add, jI_sub, jI_eqN, gI_eqI, gI_eqN, gI_leI, gI_ltI, jI_leN, jI_ltN, gI_sub, pif_tt, pif_ff, pg_tt, isB, or_true, true_or, pif_T, pif_F, pg_T, pb_S, upd_e, upd_n, fX4_settle_147, h1]
    · by_cases h : p = i
      · rw [upd_e (by rw [h]), h]
      · rw [upd_n, hp p (by omega)]
        intro q
        have a := (ordN_ok W n i hi).2
        have b := (ordN_ok W n p (by omega)).2
        rw [q] at b; omega
  · intro fu ct hp
    simp (disch := omega) only [jI_0, jI_1, jI_2, jI_3, jI_4, jI_5, jI_6, jI_7, jI_8, jI_9, jI_10, jI_11, jI_12, jI_13, jI_14, jI_15, jI_16, jI_20, jI_24, jI_26, jI_30, jI_31, jI_32, jI_40, jI_48, jI_56, jI_57, jI_59, jI_60, jI_97, jI_99, jI_122, jI_160, jI_240, jI_255, jI_768, jI_1000, ↓jN_1, ↓jN_2, ↓jN_3, ↓jN_4, ↓jN_8, ↓jN_10, ↓jN_11, ↓jN_12, ↓jN_14, ↓jN_20, jI_addN, jI_le, jI_lt, jI_eq, jI_cl, jI_in, jI_add, jI_sub, jI_eqN, gI_eqI, gI_eqN, gI_leI, gI_ltI, jI_leN, jI_ltN, gI_sub, pif_tt, pif_ff, pg_tt, isB, or_true, true_or, pif_T, pif_F, pg_T, pb_S, upd_e, upd_n, fX4_settle_147]
theorem settle_ok (hN : 100 ≤ N) (hk : Gk n z f s e) (hG : Gc z f s e v_p1_size c_p1_first c_p1_second c_p1_ending) : ∃ co ct cw, (fX4_settle N v_sides c_order v_p1_size c_p1_ending c_p1_first c_p1_second c_seat c_won (jI n)) = some (jI n, co, ct, cw) ∧ (∀ i, i < n → cw i = jI (wonN f s e z i)) ∧ (∀ p, p < n → co p = jI (ordN (wonN f s e z) n p)) ∧ (∀ i, i < n → ct i = jI (plc n (wonN f s e z) i)) := by
  unfold fX4_settle
  obtain ⟨c1, e1, h1⟩ := settle_7 (N := N) (v_p1_size := v_p1_size) (c_p1_ending := c_p1_ending) (c_p1_first := c_p1_first) (c_p1_second := c_p1_second) (c_order := c_order) (c_seat := c_seat) (c_won := c_won) hN hk.1
  obtain ⟨c2, e2, h2⟩ := settle_30 (c_order := c_order) (c_seat := c_seat) (c_won := c1) hN hk hG h1
  obtain ⟨c3, e3, h3⟩ := settle_70 (N := N) (v_p1_size := v_p1_size) (c_p1_ending := c_p1_ending) (c_p1_first := c_p1_first) (c_p1_second := c_p1_second) (c_order := c_order) (c_seat := c_seat) (c_won := c2) (W := wonN f s e z) hN (fun j hj => ⟨h2 j hj, Nat.le_trans (wonN_le _ _ _ _ _) hk.2.1⟩) hk.1
  obtain ⟨c4, e4, h4⟩ := settle_147 (N := N) (v_p1_size := v_p1_size) (c_p1_ending := c_p1_ending) (c_p1_first := c_p1_first) (c_p1_second := c_p1_second) (c_order := c3) (c_seat := c_seat) (c_won := c2) hN hk.1 h3
  exact ⟨c3, c4, c2, by rw [e1, e2, e3, e4], h2, h3, h4⟩
end
