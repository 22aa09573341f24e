/-! Means over all ENDS: the class. -/
theorem pw_le6 : ∀ k, k < 7 → 2 ^ k ≤ 64 := by decide
theorem mI_S (k : Nat) : mI (k + 1) = jI k := by unfold mI; rw [jI_addN (by omega)]; rfl
theorem jI_m1 (k : Nat) : jI k - jI 1 = mI k := by unfold mI gI; rw [Int32.sub_eq_add_neg]
theorem mI_lt0 {k : Nat} (h : k < 1000000) : (mI k < jI 0) = (k = 0) := by
  rw [Int32.lt_iff_toInt_lt, mI_toInt h, jI_toInt (by omega), eq_iff_iff]; omega
def oW (H : Nat → Nat) (z : Nat) (f s e : Nat → Nat) (d : Nat) : Nat := odR H f s (opN z (isOp e) d) 0
theorem oW_le (H : Nat → Nat) (z : Nat) (f s e : Nat → Nat) (d : Nat) : 1 ≤ oW H z f s e d ∧ oW H z f s e d ≤ 15 := odN_le _ _
theorem mixedX {N w a b : Nat} (hw : w ≤ 16) : fX6_mixed N (jI w) (jL a) (jL b) = some (jL (w * a + (16 - w) * b)) := by
  simp (disch := omega) only [jI_0, jI_1, jI_2, jI_3, jI_4, jI_5, jI_6, jI_7, jI_8, jI_9, jI_10, jI_11, jI_12, jI_13, jI_14, jI_15, jI_16, jI_20, jI_24, jI_26, jI_30, jI_31, jI_32, jI_40, jI_48, jI_56, jI_57, jI_59, jI_60, jI_97, jI_99, jI_122, jI_160, jI_240, jI_255, jI_768, jI_1000, ↓jN_1, ↓jN_2, ↓jN_3, ↓jN_4, ↓jN_8, ↓jN_10, ↓jN_11, ↓jN_12, ↓jN_14, ↓jN_20, jI_addN, jI_le, jI_lt, jI_eq, jI_cl, jI_in, jI_add, jI_sub, jI_eqN, gI_eqI, gI_eqN, gI_leI, gI_ltI, jI_leN, jI_ltN, gI_sub, pif_tt, pif_ff, pg_tt, isB, or_true, true_or, pif_T, pif_F, pg_T, pb_S, upd_e, upd_n, jL_0, jL_1, jL_2, jL_5, jL_6, jL_15, jL_16, jL_63, jI_mul, jI_L, jL_I, jL_add, jL_sub, jL_mul, fX6_mixed]
section
variable {v_depth : Int32} {c_column : Nat → Int64} {c_leaf : Nat → Int64} {c_ofFirst : Nat → Int32} {c_open : Nat → Int32} {c_trial_first : Nat → Int32} {c_trial_second : Nat → Int32} {v_trial_size : Int32}
variable {N dp : Nat} {w : Nat → Nat} {L : Nat → Nat}
theorem fold_87 {d wt : Nat} {V : Nat → Nat} {Q : Int64 × (Nat → Int64) → Prop} {k47 : Int32 → (Nat → Int64) → Option (Int64 × (Nat → Int64))} {x1 x2 x3 : Int32} (hN : 1000 ≤ N) (hd : d < 7) (hw : wt ≤ 16) (hc : ∀ r, r < 2 ^ (d + 1) → c_column r = jL (V r)) (hk : ∀ cc, (∀ r, r < 2 ^ d → cc r = jL (wt * V (2 * r) + (16 - wt) * V (2 * r + 1))) → Ok (k47 (mI d) cc) Q) : Ok ((fX6_fold_87 N v_depth c_leaf c_ofFirst c_open x1 x2 x3 k47 N (jI d) (jI wt) 0 c_column)) Q := by
  have hp : 2 ^ d ≤ 64 := pw_le6 d (by omega)
  have h2 : 2 ^ (d + 1) = 2 * 2 ^ d := by rw [Nat.pow_succ]; omega
  have hsh := shl_ok d (by omega)
  refine up_ok (fun fu r cc => (fX6_fold_87 N v_depth c_leaf c_ofFirst c_open x1 x2 x3 k47 fu (jI d) (jI wt) (jI r) cc)) _ (2 ^ d) (fun r cc => (∀ q, q < r → cc q = jL (wt * V (2 * q) + (16 - wt) * V (2 * q + 1))) ∧ (∀ q, r ≤ q → q < 2 ^ (d + 1) → cc q = jL (V q))) ?_ ?_ N 0 c_column (Nat.zero_le _) (by omega) ⟨fun q h => absurd h (Nat.not_lt_zero _), fun q _ h => hc q h⟩
  · intro fu r cc hr ⟨h3, h4⟩ ih
    have a := h4 (2 * r) (by omega) (by omega)
    have b := h4 (2 * r + 1) (by omega) (by omega)
    have hm := mixedX (N := N) (w := wt) (a := V (2 * r)) (b := V (2 * r + 1)) hw
    simp (disch := omega) only [jI_0, jI_1, jI_2, jI_3, jI_4, jI_5, jI_6, jI_7, jI_8, jI_9, jI_10, jI_11, jI_12, jI_13, jI_14, jI_15, jI_16, jI_20, jI_24, jI_26, jI_30, jI_31, jI_32, jI_40, jI_48, jI_56, jI_57, jI_59, jI_60, jI_97, jI_99, jI_122, jI_160, jI_240, jI_255, jI_768, jI_1000, ↓jN_1, ↓jN_2, ↓jN_3, ↓jN_4, ↓jN_8, ↓jN_10, ↓jN_11, ↓jN_12, ↓jN_14, ↓jN_20, jI_addN, jI_le, jI_lt, jI_eq, jI_cl, jI_in, jI_add, jI_sub, jI_eqN, gI_eqI, gI_eqN, gI_leI, gI_ltI, jI_leN, jI_ltN, gI_sub, pif_tt, pif_ff, pg_tt, isB, or_true, true_or, pif_T, pif_F, pg_T, pb_S, upd_e, upd_n, fX6_fold_87, hsh, jI_mul, a, b, hm]
    refine ih _ ⟨fun q hq => ?_, fun q h5 h6 => ?_⟩
    · by_cases e : q = r
      · rw [updL_e e, e]
      · rw [updL_n e]; exact h3 q (by omega)
    · rw [updL_n (by omega)]; exact h4 q (by omega) h6
  · intro fu cc ⟨h3, h4⟩
    simp (disch := omega) only [jI_0, jI_1, jI_2, jI_3, jI_4, jI_5, jI_6, jI_7, jI_8, jI_9, jI_10, jI_11, jI_12, jI_13, jI_14, jI_15, jI_16, jI_20, jI_24, jI_26, jI_30, jI_31, jI_32, jI_40, jI_48, jI_56, jI_57, jI_59, jI_60, jI_97, jI_99, jI_122, jI_160, jI_240, jI_255, jI_768, jI_1000, ↓jN_1, ↓jN_2, ↓jN_3, ↓jN_4, ↓jN_8, ↓jN_10, ↓jN_11, ↓jN_12, ↓jN_14, ↓jN_20, jI_addN, jI_le, jI_lt, jI_eq, jI_cl, jI_in, jI_add, jI_sub, jI_eqN, gI_eqI, gI_eqN, gI_leI, gI_ltI, jI_leN, jI_ltN, gI_sub, pif_tt, pif_ff, pg_tt, isB, or_true, true_or, pif_T, pif_F, pg_T, pb_S, upd_e, upd_n, fX6_fold_87, hsh]
    exact hk cc h3
theorem foldX {i : Nat} {x2 x3 : Int32} (hN : 1000 ≤ N) (hdp : dp ≤ 7) (hi : i < 6) (hl : ∀ r, r < 2 ^ dp → c_leaf (6 * r + i) = jL (L r)) (hw : ∀ d, d < dp → w d ≤ 16 ∧ ((c_open d = x2 ∧ x3 = jI 0 ∧ w d = 16) ∨ (c_open d = x2 ∧ ¬ x3 = jI 0 ∧ w d = 0) ∨ (¬ c_open d = x2 ∧ c_ofFirst d = jI (w d)))) : ∃ cc, (fX6_fold N (jI dp) c_column c_leaf c_ofFirst c_open (jI i) x2 x3) = some (jL (vN w L dp dp 0), cc) := by
  have hp := pw_le dp (by omega)
  have hsh := shl_ok dp (by omega)
  have key : Ok ((fX6_fold_3 N (jI dp) c_leaf c_ofFirst c_open (jI i) x2 x3 N 0 c_column)) (fun q => q.1 = jL (vN w L dp dp 0)) := by
    refine up_ok (fun fu r cc => (fX6_fold_3 N (jI dp) c_leaf c_ofFirst c_open (jI i) x2 x3 fu (jI r) cc)) _ (2 ^ dp) (fun r cc => ∀ q, q < r → cc q = jL (L q)) ?_ ?_ N 0 c_column (Nat.zero_le _) (by omega) (fun q h => absurd h (Nat.not_lt_zero _))
    · intro fu r cc hr h3 ih
      have a := hl r hr
      have e6 : jI r * jI 6 = jI (6 * r) := by rw [jI_mul, Nat.mul_comm]
      simp (disch := omega) only [jI_0, jI_1, jI_2, jI_3, jI_4, jI_5, jI_6, jI_7, jI_8, jI_9, jI_10, jI_11, jI_12, jI_13, jI_14, jI_15, jI_16, jI_20, jI_24, jI_26, jI_30, jI_31, jI_32, jI_40, jI_48, jI_56, jI_57, jI_59, jI_60, jI_97, jI_99, jI_122, jI_160, jI_240, jI_255, jI_768, jI_1000, ↓jN_1, ↓jN_2, ↓jN_3, ↓jN_4, ↓jN_8, ↓jN_10, ↓jN_11, ↓jN_12, ↓jN_14, ↓jN_20, jI_addN, jI_le, jI_lt, jI_eq, jI_cl, jI_in, jI_add, jI_sub, jI_eqN, gI_eqI, gI_eqN, gI_leI, gI_ltI, jI_leN, jI_ltN, gI_sub, pif_tt, pif_ff, pg_tt, isB, or_true, true_or, pif_T, pif_F, pg_T, pb_S, upd_e, upd_n, fX6_fold_3, hsh, e6, a]
      refine ih _ (fun q hq => ?_)
      by_cases e : q = r
      · rw [updL_e e, e]
      · rw [updL_n e]; exact h3 q (by omega)
    · intro fu cc h3
      simp (disch := omega) only [jI_0, jI_1, jI_2, jI_3, jI_4, jI_5, jI_6, jI_7, jI_8, jI_9, jI_10, jI_11, jI_12, jI_13, jI_14, jI_15, jI_16, jI_20, jI_24, jI_26, jI_30, jI_31, jI_32, jI_40, jI_48, jI_56, jI_57, jI_59, jI_60, jI_97, jI_99, jI_122, jI_160, jI_240, jI_255, jI_768, jI_1000, ↓jN_1, ↓jN_2, ↓jN_3, ↓jN_4, ↓jN_8, ↓jN_10, ↓jN_11, ↓jN_12, ↓jN_14, ↓jN_20, jI_addN, jI_le, jI_lt, jI_eq, jI_cl, jI_in, jI_add, jI_sub, jI_eqN, gI_eqI, gI_eqN, gI_leI, gI_ltI, jI_leN, jI_ltN, gI_sub, pif_tt, pif_ff, pg_tt, isB, or_true, true_or, pif_T, pif_F, pg_T, pb_S, upd_e, upd_n, fX6_fold_3, hsh, jI_m1]
      refine dn_ok (fun fu k cc => (fX6_fold_47 N (jI dp) c_leaf c_ofFirst c_open (jI i) x2 x3 fu (mI k) cc)) _ (fun k cc => k ≤ dp ∧ ∀ r, r < 2 ^ k → cc r = jL (vN w L dp (dp - k) r)) ?_ ?_ N dp cc (by omega) ⟨Nat.le_refl _, fun r hr => by rw [Nat.sub_self]; exact h3 r hr⟩
      · intro fu d cc ⟨hd, hc⟩ ih
        obtain ⟨w0, w1⟩ := hw d (by omega)
        have hv : ∀ r, vN w L dp (dp - d) r = w d * vN w L dp (dp - (d + 1)) (2 * r) + (16 - w d) * vN w L dp (dp - (d + 1)) (2 * r + 1) := fun r => by
          rw [show dp - d = (dp - (d + 1)) + 1 by omega]
          simp only [vN]
          rw [show dp - 1 - (dp - (d + 1)) = d by omega]
        have fin : Ok ((fX6_fold_87 N (jI dp) c_leaf c_ofFirst c_open (jI i) x2 x3 (fX6_fold_47 N (jI dp) c_leaf c_ofFirst c_open (jI i) x2 x3 fu) N (jI d) (jI (w d)) (jI 0) cc)) (fun q => q.1 = jL (vN w L dp dp 0)) :=
          fold_87 (V := vN w L dp (dp - (d + 1))) hN (by omega) w0 hc (fun cc2 h2 => ih cc2 ⟨by omega, fun r hr => by rw [hv]; exact h2 r hr⟩)
        simp only [mI_S]
        rcases w1 with ⟨c1, c2, c3⟩ | ⟨c1, c2, c3⟩ | ⟨c1, c2⟩
        · subst c1 c2
          rw [c3] at fin
          simp (disch := omega) only [jI_0, jI_1, jI_2, jI_3, jI_4, jI_5, jI_6, jI_7, jI_8, jI_9, jI_10, jI_11, jI_12, jI_13, jI_14, jI_15, jI_16, jI_20, jI_24, jI_26, jI_30, jI_31, jI_32, jI_40, jI_48, jI_56, jI_57, jI_59, jI_60, jI_97, jI_99, jI_122, jI_160, jI_240, jI_255, jI_768, jI_1000, ↓jN_1, ↓jN_2, ↓jN_3, ↓jN_4, ↓jN_8, ↓jN_10, ↓jN_11, ↓jN_12, ↓jN_14, ↓jN_20, jI_addN, jI_le, jI_lt, jI_eq, jI_cl, jI_in, jI_add, jI_sub, jI_eqN, gI_eqI, gI_eqN, gI_leI, gI_ltI, jI_leN, jI_ltN, gI_sub, pif_tt, pif_ff, pg_tt, isB, or_true, true_or, pif_T, pif_F, pg_T, pb_S, upd_e, upd_n, fX6_fold_47, fX6_fold_82, fX6_fold_84]
          exact fin
        · subst c1
          rw [c3] at fin
          simp (disch := omega) only [jI_0, jI_1, jI_2, jI_3, jI_4, jI_5, jI_6, jI_7, jI_8, jI_9, jI_10, jI_11, jI_12, jI_13, jI_14, jI_15, jI_16, jI_20, jI_24, jI_26, jI_30, jI_31, jI_32, jI_40, jI_48, jI_56, jI_57, jI_59, jI_60, jI_97, jI_99, jI_122, jI_160, jI_240, jI_255, jI_768, jI_1000, ↓jN_1, ↓jN_2, ↓jN_3, ↓jN_4, ↓jN_8, ↓jN_10, ↓jN_11, ↓jN_12, ↓jN_14, ↓jN_20, jI_addN, jI_le, jI_lt, jI_eq, jI_cl, jI_in, jI_add, jI_sub, jI_eqN, gI_eqI, gI_eqN, gI_leI, gI_ltI, jI_leN, jI_ltN, gI_sub, pif_tt, pif_ff, pg_tt, isB, or_true, true_or, pif_T, pif_F, pg_T, pb_S, upd_e, upd_n, fX6_fold_47, fX6_fold_82, fX6_fold_84, c2]
          exact fin
        · simp (disch := omega) only [jI_0, jI_1, jI_2, jI_3, jI_4, jI_5, jI_6, jI_7, jI_8, jI_9, jI_10, jI_11, jI_12, jI_13, jI_14, jI_15, jI_16, jI_20, jI_24, jI_26, jI_30, jI_31, jI_32, jI_40, jI_48, jI_56, jI_57, jI_59, jI_60, jI_97, jI_99, jI_122, jI_160, jI_240, jI_255, jI_768, jI_1000, ↓jN_1, ↓jN_2, ↓jN_3, ↓jN_4, ↓jN_8, ↓jN_10, ↓jN_11, ↓jN_12, ↓jN_14, ↓jN_20, jI_addN, jI_le, jI_lt, jI_eq, jI_cl, jI_in, jI_add, jI_sub, jI_eqN, gI_eqI, gI_eqN, gI_leI, gI_ltI, jI_leN, jI_ltN, gI_sub, pif_tt, pif_ff, pg_tt, isB, or_true, true_or, pif_T, pif_F, pg_T, pb_S, upd_e, upd_n, fX6_fold_47, fX6_fold_82, fX6_fold_84, c1, c2]
          exact fin
      · intro fu cc ⟨_, hc⟩
        have h0 := hc 0 (by decide)
        rw [Nat.sub_zero] at h0
        simp (disch := omega) only [jI_0, jI_1, jI_2, jI_3, jI_4, jI_5, jI_6, jI_7, jI_8, jI_9, jI_10, jI_11, jI_12, jI_13, jI_14, jI_15, jI_16, jI_20, jI_24, jI_26, jI_30, jI_31, jI_32, jI_40, jI_48, jI_56, jI_57, jI_59, jI_60, jI_97, jI_99, jI_122, jI_160, jI_240, jI_255, jI_768, jI_1000, ↓jN_1, ↓jN_2, ↓jN_3, ↓jN_4, ↓jN_8, ↓jN_10, ↓jN_11, ↓jN_12, ↓jN_14, ↓jN_20, jI_addN, jI_le, jI_lt, jI_eq, jI_cl, jI_in, jI_add, jI_sub, jI_eqN, gI_eqI, gI_eqN, gI_leI, gI_ltI, jI_leN, jI_ltN, gI_sub, pif_tt, pif_ff, pg_tt, isB, or_true, true_or, pif_T, pif_F, pg_T, pb_S, upd_e, upd_n, fX6_fold_47, mI_lt0, h0]
        exact Ok.s rfl
  obtain ⟨⟨a, cc⟩, e1, h⟩ := key
  simp only at h
  subst h
  exact ⟨cc, e1⟩
end
section
variable {v_depth : Int32} {c_column : Nat → Int64} {c_leaf : Nat → Int64} {c_ofFirst : Nat → Int32} {c_open : Nat → Int32} {c_trial_first : Nat → Int32} {c_trial_second : Nat → Int32} {v_trial_size : Int32} {v_rules_kind : Int32} {v_rules_sides : Int32} {c_rules_balls : Nat → Int32}
variable {N z : Nat} {f s e H : Nat → Nat} {L : Nat → Nat → Nat}
theorem expectedX {i : Nat} (hN : 1000 ≤ N) (hi : i < 6) (hdp : cnt z (isOp e) ≤ 7) (hz : z ≤ 30) (hl : ∀ r, r < 2 ^ cnt z (isOp e) → c_leaf (6 * r + i) = jL (L r i)) (ho : ∀ d, d < cnt z (isOp e) → c_ofFirst d = jI (oW H z f s e d) ∧ c_open d = jI (opN z (isOp e) d)) : ∃ cc, (fX6_expected N (jI (cnt z (isOp e))) c_column c_leaf c_ofFirst c_open (jI i)) = some (jL (vN (oW H z f s e) (fun r => L r i) (cnt z (isOp e)) (cnt z (isOp e)) 0), cc) := by
  obtain ⟨cc, h⟩ := foldX (N := N) (dp := cnt z (isOp e)) (w := oW H z f s e) (L := fun r => L r i) (c_column := c_column) (c_leaf := c_leaf) (c_ofFirst := c_ofFirst) (c_open := c_open) (i := i) (x2 := gI 4) (x3 := jI 2) hN hdp hi hl (fun d hd => ⟨by have := oW_le H z f s e d; omega, Or.inr (Or.inr ⟨by rw [(ho d hd).2, jI_eqN (by have := (op_ok hd).1; omega) (by omega)]; omega, (ho d hd).1⟩)⟩)
  refine ⟨cc, ?_⟩
  simp (disch := omega) only [jI_0, jI_1, jI_2, jI_3, jI_4, jI_5, jI_6, jI_7, jI_8, jI_9, jI_10, jI_11, jI_12, jI_13, jI_14, jI_15, jI_16, jI_20, jI_24, jI_26, jI_30, jI_31, jI_32, jI_40, jI_48, jI_56, jI_57, jI_59, jI_60, jI_97, jI_99, jI_122, jI_160, jI_240, jI_255, jI_768, jI_1000, ↓jN_1, ↓jN_2, ↓jN_3, ↓jN_4, ↓jN_8, ↓jN_10, ↓jN_11, ↓jN_12, ↓jN_14, ↓jN_20, jI_addN, jI_le, jI_lt, jI_eq, jI_cl, jI_in, jI_add, jI_sub, jI_eqN, gI_eqI, gI_eqN, gI_leI, gI_ltI, jI_leN, jI_ltN, gI_sub, pif_tt, pif_ff, pg_tt, isB, or_true, true_or, pif_T, pif_F, pg_T, pb_S, upd_e, upd_n, fX6_expected, h]
/-- the value for a SIDE if one GAME ends so -/
def wV (H : Nat → Nat) (z : Nat) (f s e : Nat → Nat) (L : Nat → Nat → Nat) (i kf how : Nat) : Nat := vN (wF kf how (oW H z f s e)) (fun r => L r i) (cnt z (isOp e)) (cnt z (isOp e)) 0
theorem expectedIfX {i kf won : Nat} (hN : 1000 ≤ N) (hi : i < 6) (hdp : cnt z (isOp e) ≤ 7) (hz : z ≤ 30) (hkf : kf < cnt z (isOp e)) (hwon : won < 2) (hf : c_trial_first (opN z (isOp e) kf) = jI (f (opN z (isOp e) kf))) (hf6 : f (opN z (isOp e) kf) < 6) (hl : ∀ r, r < 2 ^ cnt z (isOp e) → c_leaf (6 * r + i) = jL (L r i)) (ho : ∀ d, d < cnt z (isOp e) → c_ofFirst d = jI (oW H z f s e d) ∧ c_open d = jI (opN z (isOp e) d)) : ∃ cc, (fX6_expectedIf N (jI (cnt z (isOp e))) c_column c_leaf c_ofFirst c_open c_trial_first (jI i) (jI (opN z (isOp e) kf)) (jI won)) = some (jL (wV H z f s e L i kf (if f (opN z (isOp e) kf) = i then 1 - won else won)), cc) := by
  have ok := op_ok hkf
  have key : ∀ how, how < 2 → ∃ cc, (fX6_fold N (jI (cnt z (isOp e))) c_column c_leaf c_ofFirst c_open (jI i) (jI (opN z (isOp e) kf)) (jI how)) = some (jL (wV H z f s e L i kf how), cc) := by
    intro how hh
    refine foldX (N := N) (dp := cnt z (isOp e)) (w := wF kf how (oW H z f s e)) (L := fun r => L r i) (i := i) (x2 := jI (opN z (isOp e) kf)) (x3 := jI how) hN hdp hi hl (fun d hd => ?_)
    have hol := oW_le H z f s e d
    rw [(ho d hd).2]
    unfold wF
    have od := (op_ok hd).1
    by_cases hk : d = kf
    · rw [if_pos hk, hk, jI_eq (by omega) (by omega)]
      by_cases h0 : how = 0
      · rw [if_pos h0]; exact ⟨Nat.le_refl _, Or.inl ⟨rfl, by rw [h0], rfl⟩⟩
      · rw [if_neg h0]; exact ⟨by omega, Or.inr (Or.inl ⟨rfl, by rw [jI_eq (by omega) (by omega)]; exact h0, rfl⟩)⟩
    · rw [if_neg hk]
      refine ⟨by omega, Or.inr (Or.inr ⟨?_, (ho d hd).1⟩)⟩
      rw [jI_eq (by omega) (by omega)]
      exact fun c => hk (op_inj hd hkf c)
  have ok1 := ok.1
  by_cases h1 : f (opN z (isOp e) kf) = i
  · rw [if_pos h1]
    obtain ⟨cc, h⟩ := key (1 - won) (by omega)
    refine ⟨cc, ?_⟩
    by_cases hw : won = 1
    · subst hw
      have h : _ = some (jL (wV H z f s e L i kf 0), cc) := h
      simp (disch := omega) only [jI_0, jI_1, jI_2, jI_3, jI_4, jI_5, jI_6, jI_7, jI_8, jI_9, jI_10, jI_11, jI_12, jI_13, jI_14, jI_15, jI_16, jI_20, jI_24, jI_26, jI_30, jI_31, jI_32, jI_40, jI_48, jI_56, jI_57, jI_59, jI_60, jI_97, jI_99, jI_122, jI_160, jI_240, jI_255, jI_768, jI_1000, ↓jN_1, ↓jN_2, ↓jN_3, ↓jN_4, ↓jN_8, ↓jN_10, ↓jN_11, ↓jN_12, ↓jN_14, ↓jN_20, jI_addN, jI_le, jI_lt, jI_eq, jI_cl, jI_in, jI_add, jI_sub, jI_eqN, gI_eqI, gI_eqN, gI_leI, gI_ltI, jI_leN, jI_ltN, gI_sub, pif_tt, pif_ff, pg_tt, isB, or_true, true_or, pif_T, pif_F, pg_T, pb_S, upd_e, upd_n, fX6_expectedIf, fX6_expectedIf_18, fX6_expectedIf_27, fX6_expectedIf_42, hf, h]
    · obtain rfl : won = 0 := by omega
      have h : _ = some (jL (wV H z f s e L i kf 1), cc) := h
      simp (disch := omega) only [jI_0, jI_1, jI_2, jI_3, jI_4, jI_5, jI_6, jI_7, jI_8, jI_9, jI_10, jI_11, jI_12, jI_13, jI_14, jI_15, jI_16, jI_20, jI_24, jI_26, jI_30, jI_31, jI_32, jI_40, jI_48, jI_56, jI_57, jI_59, jI_60, jI_97, jI_99, jI_122, jI_160, jI_240, jI_255, jI_768, jI_1000, ↓jN_1, ↓jN_2, ↓jN_3, ↓jN_4, ↓jN_8, ↓jN_10, ↓jN_11, ↓jN_12, ↓jN_14, ↓jN_20, jI_addN, jI_le, jI_lt, jI_eq, jI_cl, jI_in, jI_add, jI_sub, jI_eqN, gI_eqI, gI_eqN, gI_leI, gI_ltI, jI_leN, jI_ltN, gI_sub, pif_tt, pif_ff, pg_tt, isB, or_true, true_or, pif_T, pif_F, pg_T, pb_S, upd_e, upd_n, fX6_expectedIf, fX6_expectedIf_18, fX6_expectedIf_27, fX6_expectedIf_42, hf, h]
  · rw [if_neg h1]
    obtain ⟨cc, h⟩ := key won hwon
    refine ⟨cc, ?_⟩
    by_cases hw : won = 1
    · subst hw
      simp (disch := omega) only [jI_0, jI_1, jI_2, jI_3, jI_4, jI_5, jI_6, jI_7, jI_8, jI_9, jI_10, jI_11, jI_12, jI_13, jI_14, jI_15, jI_16, jI_20, jI_24, jI_26, jI_30, jI_31, jI_32, jI_40, jI_48, jI_56, jI_57, jI_59, jI_60, jI_97, jI_99, jI_122, jI_160, jI_240, jI_255, jI_768, jI_1000, ↓jN_1, ↓jN_2, ↓jN_3, ↓jN_4, ↓jN_8, ↓jN_10, ↓jN_11, ↓jN_12, ↓jN_14, ↓jN_20, jI_addN, jI_le, jI_lt, jI_eq, jI_cl, jI_in, jI_add, jI_sub, jI_eqN, gI_eqI, gI_eqN, gI_leI, gI_ltI, jI_leN, jI_ltN, gI_sub, pif_tt, pif_ff, pg_tt, isB, or_true, true_or, pif_T, pif_F, pg_T, pb_S, upd_e, upd_n, fX6_expectedIf, fX6_expectedIf_18, fX6_expectedIf_27, fX6_expectedIf_42, hf, h]
    · obtain rfl : won = 0 := by omega
      simp (disch := omega) only [jI_0, jI_1, jI_2, jI_3, jI_4, jI_5, jI_6, jI_7, jI_8, jI_9, jI_10, jI_11, jI_12, jI_13, jI_14, jI_15, jI_16, jI_20, jI_24, jI_26, jI_30, jI_31, jI_32, jI_40, jI_48, jI_56, jI_57, jI_59, jI_60, jI_97, jI_99, jI_122, jI_160, jI_240, jI_255, jI_768, jI_1000, ↓jN_1, ↓jN_2, ↓jN_3, ↓jN_4, ↓jN_8, ↓jN_10, ↓jN_11, ↓jN_12, ↓jN_14, ↓jN_20, jI_addN, jI_le, jI_lt, jI_eq, jI_cl, jI_in, jI_add, jI_sub, jI_eqN, gI_eqI, gI_eqN, gI_leI, gI_ltI, jI_leN, jI_ltN, gI_sub, pif_tt, pif_ff, pg_tt, isB, or_true, true_or, pif_T, pif_F, pg_T, pb_S, upd_e, upd_n, fX6_expectedIf, fX6_expectedIf_18, fX6_expectedIf_27, fX6_expectedIf_42, hf, h]
/-- a SIDE of a GAME wants to lose it -/
def wtB (H : Nat → Nat) (z : Nat) (f s e : Nat → Nat) (L : Nat → Nat → Nat) (i kf : Nat) : Bool := decide (wV H z f s e L i kf (if f (opN z (isOp e) kf) = i then 0 else 1) < wV H z f s e L i kf (if f (opN z (isOp e) kf) = i then 1 else 0))
theorem wV_lt {i kf how : Nat} (hdp : cnt z (isOp e) ≤ 7) (hL : ∀ r, L r i ≤ 100000) : wV H z f s e L i kf how < 100000000000000 := by
  unfold wV
  have h := vN_le (w := wF kf how (oW H z f s e)) (L := fun r => L r i) (dp := cnt z (isOp e)) (B := 100000) (fun d _ => by
    have := oW_le H z f s e d
    unfold wF; split; split; all_goals omega) (Or.inr trivial) (cnt z (isOp e)) 0 (Nat.le_refl _) (fun q _ => hL q) (by omega)
  have h2 : 16 ^ cnt z (isOp e) ≤ 16 ^ 7 := Nat.pow_le_pow_right (by omega) hdp
  have h3 : 16 ^ cnt z (isOp e) * 100000 ≤ 16 ^ 7 * 100000 := Nat.mul_le_mul_right _ h2
  omega
theorem jL_cmp1 {a b : Nat} (ha : a < 9223372036854775808) (hb : b < 9223372036854775808) : (lg_cmp (jL a) (jL b) ≤ jI 0) = (a ≤ b) := by
  rw [jL_cmp ha hb]
  by_cases h : b < a
  · rw [if_pos h, eq_iff_iff]
    exact ⟨fun c => absurd c (by decide), fun c => by omega⟩
  · rw [if_neg h]
    by_cases h2 : a = b
    · rw [if_pos h2, eq_iff_iff]; exact ⟨fun _ => by omega, fun _ => by decide⟩
    · rw [if_neg h2, eq_iff_iff]; exact ⟨fun _ => by omega, fun _ => by decide⟩
theorem wantsX {i kf : Nat} (hN : 1000 ≤ N) (hi : i < 6) (hdp : cnt z (isOp e) ≤ 7) (hz : z ≤ 30) (hkf : kf < cnt z (isOp e)) (hf : c_trial_first (opN z (isOp e) kf) = jI (f (opN z (isOp e) kf))) (hf6 : f (opN z (isOp e) kf) < 6) (hL : ∀ r, L r i ≤ 100000) (hl : ∀ r, r < 2 ^ cnt z (isOp e) → c_leaf (6 * r + i) = jL (L r i)) (ho : ∀ d, d < cnt z (isOp e) → c_ofFirst d = jI (oW H z f s e d) ∧ c_open d = jI (opN z (isOp e) d)) : ∃ cc, (fX6_wantsToLose N (jI (cnt z (isOp e))) c_column c_leaf c_ofFirst c_open c_trial_first (jI i) (jI (opN z (isOp e) kf))) = some (jI (if wtB H z f s e L i kf then 1 else 0), cc) := by
  obtain ⟨c1, e1⟩ := expectedIfX (N := N) (H := H) (s := s) (won := 0) (c_column := c_column) hN hi hdp hz hkf (by omega) hf hf6 hl ho
  obtain ⟨c2, e2⟩ := expectedIfX (N := N) (H := H) (s := s) (won := 1) (c_column := c1) hN hi hdp hz hkf (by omega) hf hf6 hl ho
  refine ⟨c2, ?_⟩
  have b0 := wV_lt (H := H) (f := f) (s := s) (kf := kf) (how := 0) hdp hL
  have b1 := wV_lt (H := H) (f := f) (s := s) (kf := kf) (how := 1) hdp hL
  unfold wtB
  by_cases h1 : f (opN z (isOp e) kf) = i
  · simp only [if_pos h1] at e1 e2 ⊢
    rw [show 1 - 0 = 1 from rfl] at e1
    rw [show 1 - 1 = 0 from rfl] at e2
    by_cases h : wV H z f s e L i kf 0 < wV H z f s e L i kf 1
    · rw [if_pos (decide_eq_true h)]
      simp (disch := omega) only [jI_0, jI_1, jI_2, jI_3, jI_4, jI_5, jI_6, jI_7, jI_8, jI_9, jI_10, jI_11, jI_12, jI_13, jI_14, jI_15, jI_16, jI_20, jI_24, jI_26, jI_30, jI_31, jI_32, jI_40, jI_48, jI_56, jI_57, jI_59, jI_60, jI_97, jI_99, jI_122, jI_160, jI_240, jI_255, jI_768, jI_1000, ↓jN_1, ↓jN_2, ↓jN_3, ↓jN_4, ↓jN_8, ↓jN_10, ↓jN_11, ↓jN_12, ↓jN_14, ↓jN_20, jI_addN, jI_le, jI_lt, jI_eq, jI_cl, jI_in, jI_add, jI_sub, jI_eqN, gI_eqI, gI_eqN, gI_leI, gI_ltI, jI_leN, jI_ltN, gI_sub, pif_tt, pif_ff, pg_tt, isB, or_true, true_or, pif_T, pif_F, pg_T, pb_S, upd_e, upd_n, fX6_wantsToLose, fX6_wantsToLose_23, e1, e2, jL_cmp1]
    · rw [if_neg (by simpa using h)]
      simp (disch := omega) only [jI_0, jI_1, jI_2, jI_3, jI_4, jI_5, jI_6, jI_7, jI_8, jI_9, jI_10, jI_11, jI_12, jI_13, jI_14, jI_15, jI_16, jI_20, jI_24, jI_26, jI_30, jI_31, jI_32, jI_40, jI_48, jI_56, jI_57, jI_59, jI_60, jI_97, jI_99, jI_122, jI_160, jI_240, jI_255, jI_768, jI_1000, ↓jN_1, ↓jN_2, ↓jN_3, ↓jN_4, ↓jN_8, ↓jN_10, ↓jN_11, ↓jN_12, ↓jN_14, ↓jN_20, jI_addN, jI_le, jI_lt, jI_eq, jI_cl, jI_in, jI_add, jI_sub, jI_eqN, gI_eqI, gI_eqN, gI_leI, gI_ltI, jI_leN, jI_ltN, gI_sub, pif_tt, pif_ff, pg_tt, isB, or_true, true_or, pif_T, pif_F, pg_T, pb_S, upd_e, upd_n, fX6_wantsToLose, fX6_wantsToLose_23, e1, e2, jL_cmp1]
  · simp only [if_neg h1] at e1 e2 ⊢
    by_cases h : wV H z f s e L i kf 1 < wV H z f s e L i kf 0
    · rw [if_pos (decide_eq_true h)]
      simp (disch := omega) only [jI_0, jI_1, jI_2, jI_3, jI_4, jI_5, jI_6, jI_7, jI_8, jI_9, jI_10, jI_11, jI_12, jI_13, jI_14, jI_15, jI_16, jI_20, jI_24, jI_26, jI_30, jI_31, jI_32, jI_40, jI_48, jI_56, jI_57, jI_59, jI_60, jI_97, jI_99, jI_122, jI_160, jI_240, jI_255, jI_768, jI_1000, ↓jN_1, ↓jN_2, ↓jN_3, ↓jN_4, ↓jN_8, ↓jN_10, ↓jN_11, ↓jN_12, ↓jN_14, ↓jN_20, jI_addN, jI_le, jI_lt, jI_eq, jI_cl, jI_in, jI_add, jI_sub, jI_eqN, gI_eqI, gI_eqN, gI_leI, gI_ltI, jI_leN, jI_ltN, gI_sub, pif_tt, pif_ff, pg_tt, isB, or_true, true_or, pif_T, pif_F, pg_T, pb_S, upd_e, upd_n, fX6_wantsToLose, fX6_wantsToLose_23, e1, e2, jL_cmp1]
    · rw [if_neg (by simpa using h)]
      simp (disch := omega) only [jI_0, jI_1, jI_2, jI_3, jI_4, jI_5, jI_6, jI_7, jI_8, jI_9, jI_10, jI_11, jI_12, jI_13, jI_14, jI_15, jI_16, jI_20, jI_24, jI_26, jI_30, jI_31, jI_32, jI_40, jI_48, jI_56, jI_57, jI_59, jI_60, jI_97, jI_99, jI_122, jI_160, jI_240, jI_255, jI_768, jI_1000, ↓jN_1, ↓jN_2, ↓jN_3, ↓jN_4, ↓jN_8, ↓jN_10, ↓jN_11, ↓jN_12, ↓jN_14, ↓jN_20, jI_addN, jI_le, jI_lt, jI_eq, jI_cl, jI_in, jI_add, jI_sub, jI_eqN, gI_eqI, gI_eqN, gI_leI, gI_ltI, jI_leN, jI_ltN, gI_sub, pif_tt, pif_ff, pg_tt, isB, or_true, true_or, pif_T, pif_F, pg_T, pb_S, upd_e, upd_n, fX6_wantsToLose, fX6_wantsToLose_23, e1, e2, jL_cmp1]
/-- who wants to lose a GAME: 1 the first, 2 the second -/
def lsN (H : Nat → Nat) (z : Nat) (f s e : Nat → Nat) (L : Nat → Nat → Nat) (kf : Nat) : Nat := (if wtB H z f s e L (f (opN z (isOp e) kf)) kf then 1 else 0) + (if wtB H z f s e L (s (opN z (isOp e) kf)) kf then 2 else 0)
theorem losersX {n kf : Nat} (hN : 1000 ≤ N) (hn : n ≤ 6) (hdp : cnt z (isOp e) ≤ 7) (hk : Gk n z f s e) (hkf : kf < cnt z (isOp e)) (hg : ∀ g, g < z → c_trial_first g = jI (f g) ∧ c_trial_second g = jI (s g)) (hL : ∀ r i, i < n → L r i ≤ 100000) (hl : ∀ r, r < 2 ^ cnt z (isOp e) → ∀ i, i < n → c_leaf (6 * r + i) = jL (L r i)) (ho : ∀ d, d < cnt z (isOp e) → c_ofFirst d = jI (oW H z f s e d) ∧ c_open d = jI (opN z (isOp e) d)) : ∃ cc, (fX6_losers N (jI (cnt z (isOp e))) c_column c_leaf c_ofFirst c_open c_trial_first c_trial_second (jI (opN z (isOp e) kf))) = some (jI (lsN H z f s e L kf), cc) := by
  have hz := hk.2.1
  have ok := op_ok hkf
  have ok1 := ok.1
  obtain ⟨k1, k2, k3, k4⟩ := hk.2.2 _ ok1
  obtain ⟨g1, g2⟩ := hg _ ok1
  obtain ⟨c1, e1⟩ := wantsX (N := N) (H := H) (f := f) (s := s) (L := L) (i := f (opN z (isOp e) kf)) (c_column := c_column) hN (by omega) hdp hz hkf g1 (by omega) (fun r => hL r _ k1) (fun r hr => hl r hr _ k1) ho
  obtain ⟨c2, e2⟩ := wantsX (N := N) (H := H) (f := f) (s := s) (L := L) (i := s (opN z (isOp e) kf)) (c_column := c1) hN (by omega) hdp hz hkf g1 (by omega) (fun r => hL r _ k2) (fun r hr => hl r hr _ k2) ho
  refine ⟨c2, ?_⟩
  unfold lsN
  cases h1 : wtB H z f s e L (f (opN z (isOp e) kf)) kf
  · rw [h1] at e1
    simp only [Bool.false_eq_true, if_false] at e1 ⊢
    cases h2 : wtB H z f s e L (s (opN z (isOp e) kf)) kf
    · rw [h2] at e2
      simp only [Bool.false_eq_true, if_false] at e2 ⊢
      simp (disch := omega) only [jI_0, jI_1, jI_2, jI_3, jI_4, jI_5, jI_6, jI_7, jI_8, jI_9, jI_10, jI_11, jI_12, jI_13, jI_14, jI_15, jI_16, jI_20, jI_24, jI_26, jI_30, jI_31, jI_32, jI_40, jI_48, jI_56, jI_57, jI_59, jI_60, jI_97, jI_99, jI_122, jI_160, jI_240, jI_255, jI_768, jI_1000, ↓jN_1, ↓jN_2, ↓jN_3, ↓jN_4, ↓jN_8, ↓jN_10, ↓jN_11, ↓jN_12, ↓jN_14, ↓jN_20, jI_addN, jI_le, jI_lt, jI_eq, jI_cl, jI_in, jI_add, jI_sub, jI_eqN, gI_eqI, gI_eqN, gI_leI, gI_ltI, jI_leN, jI_ltN, gI_sub, pif_tt, pif_ff, pg_tt, isB, or_true, true_or, pif_T, pif_F, pg_T, pb_S, upd_e, upd_n, fX6_losers, fX6_losers_22, fX6_losers_45, g1, g2, e1, e2]
    · rw [h2] at e2
      simp only [if_true] at e2 ⊢
      simp (disch := omega) only [jI_0, jI_1, jI_2, jI_3, jI_4, jI_5, jI_6, jI_7, jI_8, jI_9, jI_10, jI_11, jI_12, jI_13, jI_14, jI_15, jI_16, jI_20, jI_24, jI_26, jI_30, jI_31, jI_32, jI_40, jI_48, jI_56, jI_57, jI_59, jI_60, jI_97, jI_99, jI_122, jI_160, jI_240, jI_255, jI_768, jI_1000, ↓jN_1, ↓jN_2, ↓jN_3, ↓jN_4, ↓jN_8, ↓jN_10, ↓jN_11, ↓jN_12, ↓jN_14, ↓jN_20, jI_addN, jI_le, jI_lt, jI_eq, jI_cl, jI_in, jI_add, jI_sub, jI_eqN, gI_eqI, gI_eqN, gI_leI, gI_ltI, jI_leN, jI_ltN, gI_sub, pif_tt, pif_ff, pg_tt, isB, or_true, true_or, pif_T, pif_F, pg_T, pb_S, upd_e, upd_n, fX6_losers, fX6_losers_22, fX6_losers_45, g1, g2, e1, e2]
  · rw [h1] at e1
    simp only [if_true] at e1 ⊢
    cases h2 : wtB H z f s e L (s (opN z (isOp e) kf)) kf
    · rw [h2] at e2
      simp only [Bool.false_eq_true, if_false] at e2 ⊢
      simp (disch := omega) only [jI_0, jI_1, jI_2, jI_3, jI_4, jI_5, jI_6, jI_7, jI_8, jI_9, jI_10, jI_11, jI_12, jI_13, jI_14, jI_15, jI_16, jI_20, jI_24, jI_26, jI_30, jI_31, jI_32, jI_40, jI_48, jI_56, jI_57, jI_59, jI_60, jI_97, jI_99, jI_122, jI_160, jI_240, jI_255, jI_768, jI_1000, ↓jN_1, ↓jN_2, ↓jN_3, ↓jN_4, ↓jN_8, ↓jN_10, ↓jN_11, ↓jN_12, ↓jN_14, ↓jN_20, jI_addN, jI_le, jI_lt, jI_eq, jI_cl, jI_in, jI_add, jI_sub, jI_eqN, gI_eqI, gI_eqN, gI_leI, gI_ltI, jI_leN, jI_ltN, gI_sub, pif_tt, pif_ff, pg_tt, isB, or_true, true_or, pif_T, pif_F, pg_T, pb_S, upd_e, upd_n, fX6_losers, fX6_losers_22, fX6_losers_45, g1, g2, e1, e2]
    · rw [h2] at e2
      simp only [if_true] at e2 ⊢
      simp (disch := omega) only [jI_0, jI_1, jI_2, jI_3, jI_4, jI_5, jI_6, jI_7, jI_8, jI_9, jI_10, jI_11, jI_12, jI_13, jI_14, jI_15, jI_16, jI_20, jI_24, jI_26, jI_30, jI_31, jI_32, jI_40, jI_48, jI_56, jI_57, jI_59, jI_60, jI_97, jI_99, jI_122, jI_160, jI_240, jI_255, jI_768, jI_1000, ↓jN_1, ↓jN_2, ↓jN_3, ↓jN_4, ↓jN_8, ↓jN_10, ↓jN_11, ↓jN_12, ↓jN_14, ↓jN_20, jI_addN, jI_le, jI_lt, jI_eq, jI_cl, jI_in, jI_add, jI_sub, jI_eqN, gI_eqI, gI_eqN, gI_leI, gI_ltI, jI_leN, jI_ltN, gI_sub, pif_tt, pif_ff, pg_tt, isB, or_true, true_or, pif_T, pif_F, pg_T, pb_S, upd_e, upd_n, fX6_losers, fX6_losers_22, fX6_losers_45, g1, g2, e1, e2]
theorem allChancesX {dp : Nat} (hdp : dp ≤ 7) : fX6_allChances N (jI dp) = some (jL (16 ^ dp)) := by
  have h := shl_L dp (by omega)
  simp (disch := omega) only [jI_0, jI_1, jI_2, jI_3, jI_4, jI_5, jI_6, jI_7, jI_8, jI_9, jI_10, jI_11, jI_12, jI_13, jI_14, jI_15, jI_16, jI_20, jI_24, jI_26, jI_30, jI_31, jI_32, jI_40, jI_48, jI_56, jI_57, jI_59, jI_60, jI_97, jI_99, jI_122, jI_160, jI_240, jI_255, jI_768, jI_1000, ↓jN_1, ↓jN_2, ↓jN_3, ↓jN_4, ↓jN_8, ↓jN_10, ↓jN_11, ↓jN_12, ↓jN_14, ↓jN_20, jI_addN, jI_le, jI_lt, jI_eq, jI_cl, jI_in, jI_add, jI_sub, jI_eqN, gI_eqI, gI_eqN, gI_leI, gI_ltI, jI_leN, jI_ltN, gI_sub, pif_tt, pif_ff, pg_tt, isB, or_true, true_or, pif_T, pif_F, pg_T, pb_S, upd_e, upd_n, jL_0, jL_1, jL_2, jL_5, jL_6, jL_15, jL_16, jL_63, jI_mul, jI_L, jL_I, jL_add, jL_sub, jL_mul, fX6_allChances, h]
theorem scaleX {dp : Nat} (hN : 100 ≤ N) (hdp : dp ≤ 7) (hR : Rk H) (hb : ∀ j, j < 6 → c_rules_balls j = jI (H (20 + j))) : (fX6_scale N (jI dp) (jI (H 1)) (jI (H 0)) c_rules_balls) = some (jL (16 ^ dp * unitN H)) := by
  have h1 := allChancesX (N := N) hdp
  have h2 := payUnitX (N := N) hN hR hb
  have h3 := unitN_le hR
  simp (disch := omega) only [jI_0, jI_1, jI_2, jI_3, jI_4, jI_5, jI_6, jI_7, jI_8, jI_9, jI_10, jI_11, jI_12, jI_13, jI_14, jI_15, jI_16, jI_20, jI_24, jI_26, jI_30, jI_31, jI_32, jI_40, jI_48, jI_56, jI_57, jI_59, jI_60, jI_97, jI_99, jI_122, jI_160, jI_240, jI_255, jI_768, jI_1000, ↓jN_1, ↓jN_2, ↓jN_3, ↓jN_4, ↓jN_8, ↓jN_10, ↓jN_11, ↓jN_12, ↓jN_14, ↓jN_20, jI_addN, jI_le, jI_lt, jI_eq, jI_cl, jI_in, jI_add, jI_sub, jI_eqN, gI_eqI, gI_eqN, gI_leI, gI_ltI, jI_leN, jI_ltN, gI_sub, pif_tt, pif_ff, pg_tt, isB, or_true, true_or, pif_T, pif_F, pg_T, pb_S, upd_e, upd_n, jL_0, jL_1, jL_2, jL_5, jL_6, jL_15, jL_16, jL_63, jI_mul, jI_L, jL_I, jL_add, jL_sub, jL_mul, fX6_scale, h1, h2]
theorem isOfX {n g i : Nat} {v_size : Int32} {c_first c_second : Nat → Int32} (hk : Gk n z f s e) (hn : n ≤ 6) (hv : v_size = jI z) (hg : g < z) (hi : i < 6) (hG : c_first g = jI (f g) ∧ c_second g = jI (s g)) : (fX0_isOf N v_size c_first c_second (jI g) (jI i)) = some (jI (if ownB f s g i then 1 else 0)) := by
  have hz := hk.2.1
  obtain ⟨k1, k2, k3, k4⟩ := hk.2.2 g hg
  obtain ⟨g1, g2⟩ := hG
  subst hv
  unfold ownB
  by_cases h1 : f g = i
  · rw [if_pos (decide_eq_true (Or.inl h1))]
    simp (disch := omega) only [jI_0, jI_1, jI_2, jI_3, jI_4, jI_5, jI_6, jI_7, jI_8, jI_9, jI_10, jI_11, jI_12, jI_13, jI_14, jI_15, jI_16, jI_20, jI_24, jI_26, jI_30, jI_31, jI_32, jI_40, jI_48, jI_56, jI_57, jI_59, jI_60, jI_97, jI_99, jI_122, jI_160, jI_240, jI_255, jI_768, jI_1000, ↓jN_1, ↓jN_2, ↓jN_3, ↓jN_4, ↓jN_8, ↓jN_10, ↓jN_11, ↓jN_12, ↓jN_14, ↓jN_20, jI_addN, jI_le, jI_lt, jI_eq, jI_cl, jI_in, jI_add, jI_sub, jI_eqN, gI_eqI, gI_eqN, gI_leI, gI_ltI, jI_leN, jI_ltN, gI_sub, pif_tt, pif_ff, pg_tt, isB, or_true, true_or, pif_T, pif_F, pg_T, pb_S, upd_e, upd_n, fX0_isOf, fX0_isOf_28, fX0_isOf_33, fX0_has, fX0_has_17, g1, g2]
  · by_cases h2 : s g = i
    · rw [if_pos (decide_eq_true (Or.inr h2))]
      simp (disch := omega) only [jI_0, jI_1, jI_2, jI_3, jI_4, jI_5, jI_6, jI_7, jI_8, jI_9, jI_10, jI_11, jI_12, jI_13, jI_14, jI_15, jI_16, jI_20, jI_24, jI_26, jI_30, jI_31, jI_32, jI_40, jI_48, jI_56, jI_57, jI_59, jI_60, jI_97, jI_99, jI_122, jI_160, jI_240, jI_255, jI_768, jI_1000, ↓jN_1, ↓jN_2, ↓jN_3, ↓jN_4, ↓jN_8, ↓jN_10, ↓jN_11, ↓jN_12, ↓jN_14, ↓jN_20, jI_addN, jI_le, jI_lt, jI_eq, jI_cl, jI_in, jI_add, jI_sub, jI_eqN, gI_eqI, gI_eqN, gI_leI, gI_ltI, jI_leN, jI_ltN, gI_sub, pif_tt, pif_ff, pg_tt, isB, or_true, true_or, pif_T, pif_F, pg_T, pb_S, upd_e, upd_n, fX0_isOf, fX0_isOf_28, fX0_isOf_33, fX0_has, fX0_has_17, g1, g2]
    · rw [if_neg (by simp only [decide_eq_true_eq]; omega)]
      simp (disch := omega) only [jI_0, jI_1, jI_2, jI_3, jI_4, jI_5, jI_6, jI_7, jI_8, jI_9, jI_10, jI_11, jI_12, jI_13, jI_14, jI_15, jI_16, jI_20, jI_24, jI_26, jI_30, jI_31, jI_32, jI_40, jI_48, jI_56, jI_57, jI_59, jI_60, jI_97, jI_99, jI_122, jI_160, jI_240, jI_255, jI_768, jI_1000, ↓jN_1, ↓jN_2, ↓jN_3, ↓jN_4, ↓jN_8, ↓jN_10, ↓jN_11, ↓jN_12, ↓jN_14, ↓jN_20, jI_addN, jI_le, jI_lt, jI_eq, jI_cl, jI_in, jI_add, jI_sub, jI_eqN, gI_eqI, gI_eqN, gI_leI, gI_ltI, jI_leN, jI_ltN, gI_sub, pif_tt, pif_ff, pg_tt, isB, or_true, true_or, pif_T, pif_F, pg_T, pb_S, upd_e, upd_n, fX0_isOf, fX0_isOf_32, fX0_isOf_33, fX0_has, fX0_has_17, g1, g2]
end
