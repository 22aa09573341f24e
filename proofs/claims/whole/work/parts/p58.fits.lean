/-! TEXT: whether it fits together. -/
def mkN (g : Nat → Nat) : Nat → Nat
  | 0 => 0
  | j + 1 => mkN g j ||| 2 ^ g j
theorem mkN_lt {g : Nat → Nat} {n : Nat} : ∀ j, (∀ i, i < j → g i < n) → mkN g j < 2 ^ n := by
  intro j
  induction j with
  | zero => intro _; exact Nat.pow_pos (by omega)
  | succ j ih =>
    intro h
    exact Nat.or_lt_two_pow (ih (fun i hi => h i (by omega))) (Nat.pow_lt_pow_right (by omega) (h j (by omega)))
theorem bcQ_all : ∀ m, m < 64 → fJ6_bitCount_0f7a4 0 (jI m) = some (jI (cnt 6 (fun i => m.testBit i))) := by decide +kernel
theorem bcQ (N : Nat) {m : Nat} (h : m < 64) : fJ6_bitCount_0f7a4 N (jI m) = some (jI (cnt 6 (fun i => m.testBit i))) := by
  have : fJ6_bitCount_0f7a4 N = fJ6_bitCount_0f7a4 0 := rfl
  rw [this]; exact bcQ_all m h
theorem bcQ_full : ∀ n, n < 7 → ∀ m, m < 64 → m < 2 ^ n → (n ≤ cnt 6 (fun i => m.testBit i) ↔ m = 2 ^ n - 1) := by decide +kernel
theorem shn : ∀ n, n < 7 → jI 1 <<< (jI n &&& jI 31) - jI 1 = jI (2 ^ n - 1) ∧ 2 ^ n ≤ 64 := by decide +kernel
def bsN (H : Nat → Nat) : Nat := sumN (H 0) (fun j => H (20 + j))
def mwN (H : Nat → Nat) : Nat := mkN (fun j => H (26 + j)) (H 0)
def Bad (H : Nat → Nat) : Prop := (H 1 = 1 ∧ bsN H = 0) ∨ (H 1 = 3 ∧ mwN H ≠ 2 ^ (H 0) - 1)
theorem Rr_Rk {H : Nat → Nat} (h : Rr H) : Rk (updN H 1 0) := by
  obtain ⟨r1, r2, r3, r4, r5⟩ := h
  have u0 : updN H 1 0 0 = H 0 := updN_n (by omega)
  refine ⟨by rw [u0]; exact r1, by rw [u0]; exact r2, by rw [updN_e rfl]; omega, fun j hj => ?_, fun j hj => ?_, fun h => ?_⟩
  · rw [updN_n (by omega), updN_n (by omega), updN_n (by omega), updN_n (by omega), updN_n (by omega)]; exact r4 j hj
  · rw [u0] at hj ⊢
    rw [updN_n (by omega)]; exact r5 j hj
  · rw [updN_e rfl] at h; omega
theorem Rr_ok {H : Nat → Nat} (h : Rr H) (hb : ¬ Bad H) : Rk H := by
  obtain ⟨r1, r2, r3, r4, r5⟩ := h
  refine ⟨r1, r2, r3, r4, r5, fun h1 => ?_⟩
  apply Decidable.byContradiction
  intro h0
  exact hb (Or.inl ⟨h1, by unfold bsN; omega⟩)
section
variable {v_at : Int32} {v_flaw : Int32} {v_flawPlace : Int32} {v_draft_kind : Int32} {v_draft_sides : Int32} {c_draft_balls : Nat → Int32} {c_draft_wheel : Nat → Int32} {c_tape_start : Nat → Int32}
variable {N t T : Nat} {tp H : Nat → Nat}
theorem allB (hN : 100 ≤ N) (hR : Rr H) (hb : ∀ j, j < 6 → c_draft_balls j = jI (H (20 + j))) : fX2_allBalls N (jI (H 0)) c_draft_balls = some (jI (bsN H)) := by
  have := allBallsX (N := N) (H := updN H 1 0) (c_balls := c_draft_balls) hN (Rr_Rk hR) (fun j hj => by rw [updN_n (by omega)]; exact hb j hj)
  rw [updN_n (by omega)] at this
  rw [this, bsN]
  congr 2
  exact sumN_congr (fun i hi => updN_n (by omega))
theorem bsN_lt (hR : Rr H) : bsN H ≤ 120 := by
  obtain ⟨r1, r2, r3, r4, r5⟩ := hR
  have := sumN_le (m := H 0) (p := fun j => H (20 + j)) (b := 20) (fun i hi => (r4 i (by omega)).2.2.2.2.1)
  unfold bsN
  have h2 : H 0 * 20 ≤ 6 * 20 := Nat.mul_le_mul_right 20 r2
  omega
theorem mwN_lt (hR : Rr H) : mwN H < 2 ^ (H 0) := by
  obtain ⟨r1, r2, r3, r4, r5⟩ := hR
  exact mkN_lt _ r5
theorem twiceX (hN : 100 ≤ N) (hR : Rr H) (hb : ∀ j, j < 6 → c_draft_wheel j = jI (H (26 + j))) : fX2_wheelHasTwice N (jI (H 0)) c_draft_wheel = some (jI (if mwN H = 2 ^ (H 0) - 1 then 0 else 1)) := by
  have hm := mwN_lt hR
  obtain ⟨r1, r2, r3, r4, r5⟩ := hR
  have h64 := (shn (H 0) (by omega)).2
  have key : Ok (fX2_wheelHasTwice_4 N (jI (H 0)) c_draft_wheel N (jI 0) (jI 0)) (fun q => q = jI (if mwN H = 2 ^ (H 0) - 1 then 0 else 1)) := by
    refine up_ok (fun fu j (x : Int32) => fX2_wheelHasTwice_4 N (jI (H 0)) c_draft_wheel fu x (jI j)) _ (H 0) (fun j x => x = jI (mkN (fun j => H (26 + j)) j)) ?_ ?_ N 0 (jI 0) (by omega) (by omega) rfl
    · intro fu j x hj hx ih
      subst hx
      have hml : mkN (fun j => H (26 + j)) j < 2 ^ (H 0) := mkN_lt _ (fun i hi => r5 i (by omega))
      have hor := (or_ok (mkN (fun j => H (26 + j)) j) (by omega) (H (26 + j)) (r4 j (by omega)).2.2.2.2.2).1
      have hbj := hb j (by omega)
      show Ok (fX2_wheelHasTwice_4 N (jI (H 0)) c_draft_wheel (fu + 1) _ (jI j)) _
      rw [fX2_wheelHasTwice_4]
      simp (disch := omega) only [jI_0, jI_1, jI_2, jI_3, jI_4, jI_5, jI_6, jI_7, jI_8, jI_9, jI_10, jI_11, jI_12, jI_13, jI_14, jI_15, jI_16, jI_20, jI_24, jI_26, jI_30, jI_31, jI_32, jI_40, jI_48, jI_56, jI_57, jI_59, jI_60, jI_97, jI_99, jI_122, jI_160, jI_240, jI_255, jI_768, jI_1000, ↓jN_1, ↓jN_2, ↓jN_3, ↓jN_4, ↓jN_8, ↓jN_10, ↓jN_11, ↓jN_12, ↓jN_14, ↓jN_20, jI_addN, jI_le, jI_lt, jI_eq, jI_cl, jI_in, jI_add, jI_sub, jI_eqN, gI_eqI, gI_eqN, gI_leI, gI_ltI, jI_leN, jI_ltN, gI_sub, pif_tt, pif_ff, pg_tt, isB, or_true, true_or, pif_T, pif_F, pg_T, pb_Q, upd_e, upd_n, hbj, hor]
      exact ih _ rfl
    · intro fu x hx
      subst hx
      have hb1 := bcQ N (m := mwN H) (by omega)
      have hb2 := bcQ_full (H 0) (by omega) (mwN H) (by omega) hm
      have hc6 : cnt 6 (fun i => (mwN H).testBit i) ≤ 6 := cnt_le _ _
      show Ok (fX2_wheelHasTwice_4 N (jI (H 0)) c_draft_wheel (fu + 1) (jI (mwN H)) (jI (H 0))) _
      generalize cnt 6 (fun i => (mwN H).testBit i) = cb at *
      rw [fX2_wheelHasTwice_4]
      by_cases hf : mwN H = 2 ^ (H 0) - 1
      · rw [if_pos hf]
        have := hb2.mpr hf
        simp (disch := omega) only [jI_0, jI_1, jI_2, jI_3, jI_4, jI_5, jI_6, jI_7, jI_8, jI_9, jI_10, jI_11, jI_12, jI_13, jI_14, jI_15, jI_16, jI_20, jI_24, jI_26, jI_30, jI_31, jI_32, jI_40, jI_48, jI_56, jI_57, jI_59, jI_60, jI_97, jI_99, jI_122, jI_160, jI_240, jI_255, jI_768, jI_1000, ↓jN_1, ↓jN_2, ↓jN_3, ↓jN_4, ↓jN_8, ↓jN_10, ↓jN_11, ↓jN_12, ↓jN_14, ↓jN_20, jI_addN, jI_le, jI_lt, jI_eq, jI_cl, jI_in, jI_add, jI_sub, jI_eqN, gI_eqI, gI_eqN, gI_leI, gI_ltI, jI_leN, jI_ltN, gI_sub, pif_tt, pif_ff, pg_tt, isB, or_true, true_or, pif_T, pif_F, pg_T, pb_Q, upd_e, upd_n, hb1, fX2_wheelHasTwice_45]
        exact Ok.s rfl
      · rw [if_neg hf]
        have : ¬ H 0 ≤ cb := fun h => hf (hb2.mp h)
        simp (disch := omega) only [jI_0, jI_1, jI_2, jI_3, jI_4, jI_5, jI_6, jI_7, jI_8, jI_9, jI_10, jI_11, jI_12, jI_13, jI_14, jI_15, jI_16, jI_20, jI_24, jI_26, jI_30, jI_31, jI_32, jI_40, jI_48, jI_56, jI_57, jI_59, jI_60, jI_97, jI_99, jI_122, jI_160, jI_240, jI_255, jI_768, jI_1000, ↓jN_1, ↓jN_2, ↓jN_3, ↓jN_4, ↓jN_8, ↓jN_10, ↓jN_11, ↓jN_12, ↓jN_14, ↓jN_20, jI_addN, jI_le, jI_lt, jI_eq, jI_cl, jI_in, jI_add, jI_sub, jI_eqN, gI_eqI, gI_eqN, gI_leI, gI_ltI, jI_leN, jI_ltN, gI_sub, pif_tt, pif_ff, pg_tt, isB, or_true, true_or, pif_T, pif_F, pg_T, pb_Q, upd_e, upd_n, hb1, fX2_wheelHasTwice_45]
        exact Ok.s rfl
  obtain ⟨q, e, hq⟩ := key
  simp (disch := omega) only [jI_0, jI_1, jI_2, jI_3, jI_4, jI_5, jI_6, jI_7, jI_8, jI_9, jI_10, jI_11, jI_12, jI_13, jI_14, jI_15, jI_16, jI_20, jI_24, jI_26, jI_30, jI_31, jI_32, jI_40, jI_48, jI_56, jI_57, jI_59, jI_60, jI_97, jI_99, jI_122, jI_160, jI_240, jI_255, jI_768, jI_1000, ↓jN_1, ↓jN_2, ↓jN_3, ↓jN_4, ↓jN_8, ↓jN_10, ↓jN_11, ↓jN_12, ↓jN_14, ↓jN_20, jI_addN, jI_le, jI_lt, jI_eq, jI_cl, jI_in, jI_add, jI_sub, jI_eqN, gI_eqI, gI_eqN, gI_leI, gI_ltI, jI_leN, jI_ltN, gI_sub, pif_tt, pif_ff, pg_tt, isB, or_true, true_or, pif_T, pif_F, pg_T, pb_Q, upd_e, upd_n, fX2_wheelHasTwice]
  rw [e, hq]
theorem fitsX {vk vs : Int32} {cc cp cs : Nat → Int32} (hN : 100 ≤ N) (hR : Rr H) (hC : Rc H vk vs c_draft_balls cc cp cs c_draft_wheel) (hT : T ≤ 240) (hs : c_tape_start T = jI (kS t tp T)) : (¬ Bad H → (fX1_fitsTogether N (jI T) v_flaw v_flawPlace vk vs c_draft_balls c_draft_wheel c_tape_start) = some (jI 1, v_flaw, v_flawPlace)) ∧ (Bad H → (fX1_fitsTogether N (jI T) v_flaw v_flawPlace vk vs c_draft_balls c_draft_wheel c_tape_start) = some (jI 0, jI 6, jI (kS t tp T))) := by
  obtain ⟨rfl, rfl, hrow⟩ := hC
  have a1 := allB (N := N) (c_draft_balls := c_draft_balls) hN hR (fun j hj => (hrow j hj).2.2.2.1)
  have a2 := twiceX (N := N) (c_draft_wheel := c_draft_wheel) hN hR (fun j hj => (hrow j hj).2.2.2.2)
  have hbs := bsN_lt hR
  have f := failX (N := N) (t := t) (tp := tp) (v_flaw := v_flaw) (v_flawPlace := v_flawPlace) (k := T) (c := 6) hT hs
  have r3 := hR.2.2.1
  by_cases k1 : H 1 = 1
  · by_cases b0 : bsN H = 0
    · refine ⟨fun h => absurd (Or.inl ⟨k1, b0⟩) h, fun _ => ?_⟩
      rw [b0] at a1
      rw [k1]
      simp (disch := omega) only [jI_0, jI_1, jI_2, jI_3, jI_4, jI_5, jI_6, jI_7, jI_8, jI_9, jI_10, jI_11, jI_12, jI_13, jI_14, jI_15, jI_16, jI_20, jI_24, jI_26, jI_30, jI_31, jI_32, jI_40, jI_48, jI_56, jI_57, jI_59, jI_60, jI_97, jI_99, jI_122, jI_160, jI_240, jI_255, jI_768, jI_1000, ↓jN_1, ↓jN_2, ↓jN_3, ↓jN_4, ↓jN_8, ↓jN_10, ↓jN_11, ↓jN_12, ↓jN_14, ↓jN_20, jI_addN, jI_le, jI_lt, jI_eq, jI_cl, jI_in, jI_add, jI_sub, jI_eqN, gI_eqI, gI_eqN, gI_leI, gI_ltI, jI_leN, jI_ltN, gI_sub, pif_tt, pif_ff, pg_tt, isB, or_true, true_or, pif_T, pif_F, pg_T, pb_Q, upd_e, upd_n, fX1_fitsTogether, a1, fX1_fitsTogether_25, fX1_fitsTogether_26, fX1_fitsTogether_52, fX1_fitsTogether_53, fX1_fitsTogether_62, f, fX1_fitsTogether_72]
    · refine ⟨fun _ => ?_, fun h => ?_⟩
      · rw [k1]
        simp (disch := omega) only [jI_0, jI_1, jI_2, jI_3, jI_4, jI_5, jI_6, jI_7, jI_8, jI_9, jI_10, jI_11, jI_12, jI_13, jI_14, jI_15, jI_16, jI_20, jI_24, jI_26, jI_30, jI_31, jI_32, jI_40, jI_48, jI_56, jI_57, jI_59, jI_60, jI_97, jI_99, jI_122, jI_160, jI_240, jI_255, jI_768, jI_1000, ↓jN_1, ↓jN_2, ↓jN_3, ↓jN_4, ↓jN_8, ↓jN_10, ↓jN_11, ↓jN_12, ↓jN_14, ↓jN_20, jI_addN, jI_le, jI_lt, jI_eq, jI_cl, jI_in, jI_add, jI_sub, jI_eqN, gI_eqI, gI_eqN, gI_leI, gI_ltI, jI_leN, jI_ltN, gI_sub, pif_tt, pif_ff, pg_tt, isB, or_true, true_or, pif_T, pif_F, pg_T, pb_Q, upd_e, upd_n, fX1_fitsTogether, a1, fX1_fitsTogether_25, fX1_fitsTogether_26, fX1_fitsTogether_52, fX1_fitsTogether_53, fX1_fitsTogether_62, f, fX1_fitsTogether_72]
      · rcases h with h | h
        · exact absurd h.2 b0
        · omega
  · by_cases k3 : H 1 = 3
    · by_cases b0 : mwN H = 2 ^ (H 0) - 1
      · rw [if_pos b0] at a2
        refine ⟨fun _ => ?_, fun h => ?_⟩
        · rw [k3]
          simp (disch := omega) only [jI_0, jI_1, jI_2, jI_3, jI_4, jI_5, jI_6, jI_7, jI_8, jI_9, jI_10, jI_11, jI_12, jI_13, jI_14, jI_15, jI_16, jI_20, jI_24, jI_26, jI_30, jI_31, jI_32, jI_40, jI_48, jI_56, jI_57, jI_59, jI_60, jI_97, jI_99, jI_122, jI_160, jI_240, jI_255, jI_768, jI_1000, ↓jN_1, ↓jN_2, ↓jN_3, ↓jN_4, ↓jN_8, ↓jN_10, ↓jN_11, ↓jN_12, ↓jN_14, ↓jN_20, jI_addN, jI_le, jI_lt, jI_eq, jI_cl, jI_in, jI_add, jI_sub, jI_eqN, gI_eqI, gI_eqN, gI_leI, gI_ltI, jI_leN, jI_ltN, gI_sub, pif_tt, pif_ff, pg_tt, isB, or_true, true_or, pif_T, pif_F, pg_T, pb_Q, upd_e, upd_n, fX1_fitsTogether, a2, fX1_fitsTogether_25, fX1_fitsTogether_26, fX1_fitsTogether_52, fX1_fitsTogether_53, fX1_fitsTogether_62, f, fX1_fitsTogether_72]
        · rcases h with h | h
          · exact absurd h.1 k1
          · exact absurd b0 h.2
      · rw [if_neg b0] at a2
        refine ⟨fun h => absurd (Or.inr ⟨k3, b0⟩) h, fun _ => ?_⟩
        rw [k3]
        simp (disch := omega) only [jI_0, jI_1, jI_2, jI_3, jI_4, jI_5, jI_6, jI_7, jI_8, jI_9, jI_10, jI_11, jI_12, jI_13, jI_14, jI_15, jI_16, jI_20, jI_24, jI_26, jI_30, jI_31, jI_32, jI_40, jI_48, jI_56, jI_57, jI_59, jI_60, jI_97, jI_99, jI_122, jI_160, jI_240, jI_255, jI_768, jI_1000, ↓jN_1, ↓jN_2, ↓jN_3, ↓jN_4, ↓jN_8, ↓jN_10, ↓jN_11, ↓jN_12, ↓jN_14, ↓jN_20, jI_addN, jI_le, jI_lt, jI_eq, jI_cl, jI_in, jI_add, jI_sub, jI_eqN, gI_eqI, gI_eqN, gI_leI, gI_ltI, jI_leN, jI_ltN, gI_sub, pif_tt, pif_ff, pg_tt, isB, or_true, true_or, pif_T, pif_F, pg_T, pb_Q, upd_e, upd_n, fX1_fitsTogether, a2, fX1_fitsTogether_25, fX1_fitsTogether_26, fX1_fitsTogether_52, fX1_fitsTogether_53, fX1_fitsTogether_62, f, fX1_fitsTogether_72]
    · refine ⟨fun _ => ?_, fun h => ?_⟩
      · generalize H 1 = kd at *
        simp (disch := omega) only [jI_0, jI_1, jI_2, jI_3, jI_4, jI_5, jI_6, jI_7, jI_8, jI_9, jI_10, jI_11, jI_12, jI_13, jI_14, jI_15, jI_16, jI_20, jI_24, jI_26, jI_30, jI_31, jI_32, jI_40, jI_48, jI_56, jI_57, jI_59, jI_60, jI_97, jI_99, jI_122, jI_160, jI_240, jI_255, jI_768, jI_1000, ↓jN_1, ↓jN_2, ↓jN_3, ↓jN_4, ↓jN_8, ↓jN_10, ↓jN_11, ↓jN_12, ↓jN_14, ↓jN_20, jI_addN, jI_le, jI_lt, jI_eq, jI_cl, jI_in, jI_add, jI_sub, jI_eqN, gI_eqI, gI_eqN, gI_leI, gI_ltI, jI_leN, jI_ltN, gI_sub, pif_tt, pif_ff, pg_tt, isB, or_true, true_or, pif_T, pif_F, pg_T, pb_Q, upd_e, upd_n, fX1_fitsTogether, fX1_fitsTogether_25, fX1_fitsTogether_26, fX1_fitsTogether_52, fX1_fitsTogether_53, fX1_fitsTogether_62, f, fX1_fitsTogether_72]
      · rcases h with h | h
        · exact absurd h.1 k1
        · exact absurd h.1 k3
end
