/-! thumbs and fine. -/
def pkN (m : Nat) : Nat → Nat
  | 0 => 1
  | k + 1 => pkN m k * (m - k) / (k + 1)
def tA (m r : Nat) : Nat → Nat
  | 0 => 0
  | k + 1 => tA m r k + (if r ≤ k then pkN m k * 5 ^ (m - k) else 0)
theorem pkN_le : ∀ m, m < 21 → ∀ k, k < 22 → pkN m k ≤ 1000000 := by decide +kernel
theorem tA_le : ∀ m, m < 21 → ∀ r, r < 22 → tA m r (m + 1) ≤ 6 ^ m := by decide +kernel
theorem six_le : ∀ m, m < 21 → 6 ^ m < 4000000000000000 := by decide +kernel
theorem tA_lo (m r : Nat) : ∀ k, k ≤ r → tA m r k = 0 := by
  intro k
  induction k with
  | zero => intro _; rfl
  | succ k ih => intro h; simp only [tA]; rw [ih (by omega), if_neg (by omega)]
theorem in2_c {N : Nat} (x : Int32) (lo hi : Nat) (hl : 1 ≤ lo) (hlh : lo ≤ hi) (hh : hi < 2000) : (∃ k, lo ≤ k ∧ k ≤ hi ∧ x = jI k ∧ fX9_in N (jL k) (jL lo) (jL hi) = some (jI 1)) ∨ ((x < jI lo ∨ (∃ k, x = jI k ∧ hi < k ∧ k < 2147483648)) ∧ fX9_in N x.toInt64 (jL lo) (jL hi) = some (jI 0)) := by
  rcases cases32 x with ⟨a, ha, rfl⟩ | h
  · by_cases h0 : a < lo
    · refine Or.inr ⟨Or.inl (by rw [jI_lt (by omega) (by omega)]; omega), ?_⟩
      rw [jI_L (by omega)]
      simp (disch := omega) only [jI_0, jI_1, jI_2, jI_3, jI_4, jI_5, jI_6, jI_7, jI_8, jI_9, jI_10, jI_11, jI_12, jI_13, jI_14, jI_15, jI_16, jI_20, jI_24, jI_26, jI_30, jI_31, jI_32, jI_40, jI_48, jI_56, jI_57, jI_59, jI_60, jI_97, jI_99, jI_122, jI_160, jI_240, jI_255, jI_768, jI_1000, ↓jN_1, ↓jN_2, ↓jN_3, ↓jN_4, ↓jN_8, ↓jN_10, ↓jN_11, ↓jN_12, ↓jN_14, ↓jN_20, jI_addN, jI_le, jI_lt, jI_eq, jI_cl, jI_in, jI_add, jI_sub, jI_eqN, gI_eqI, gI_eqN, gI_leI, gI_ltI, jI_leN, jI_ltN, gI_sub, pif_tt, pif_ff, pg_tt, isB, or_true, true_or, pif_T, pif_F, pg_T, pb_S, upd_e, upd_n, fX9_in, fX9_in_17, fX9_in_18, lg_lt, jL_lt]
    · by_cases h : a ≤ hi
      · refine Or.inl ⟨a, by omega, h, rfl, ?_⟩
        simp (disch := omega) only [jI_0, jI_1, jI_2, jI_3, jI_4, jI_5, jI_6, jI_7, jI_8, jI_9, jI_10, jI_11, jI_12, jI_13, jI_14, jI_15, jI_16, jI_20, jI_24, jI_26, jI_30, jI_31, jI_32, jI_40, jI_48, jI_56, jI_57, jI_59, jI_60, jI_97, jI_99, jI_122, jI_160, jI_240, jI_255, jI_768, jI_1000, ↓jN_1, ↓jN_2, ↓jN_3, ↓jN_4, ↓jN_8, ↓jN_10, ↓jN_11, ↓jN_12, ↓jN_14, ↓jN_20, jI_addN, jI_le, jI_lt, jI_eq, jI_cl, jI_in, jI_add, jI_sub, jI_eqN, gI_eqI, gI_eqN, gI_leI, gI_ltI, jI_leN, jI_ltN, gI_sub, pif_tt, pif_ff, pg_tt, isB, or_true, true_or, pif_T, pif_F, pg_T, pb_S, upd_e, upd_n, fX9_in, fX9_in_17, fX9_in_18, lg_lt, lg_gt, jL_lt]
      · refine Or.inr ⟨Or.inr ⟨a, rfl, by omega, ha⟩, ?_⟩
        rw [jI_L ha]
        simp (disch := omega) only [jI_0, jI_1, jI_2, jI_3, jI_4, jI_5, jI_6, jI_7, jI_8, jI_9, jI_10, jI_11, jI_12, jI_13, jI_14, jI_15, jI_16, jI_20, jI_24, jI_26, jI_30, jI_31, jI_32, jI_40, jI_48, jI_56, jI_57, jI_59, jI_60, jI_97, jI_99, jI_122, jI_160, jI_240, jI_255, jI_768, jI_1000, ↓jN_1, ↓jN_2, ↓jN_3, ↓jN_4, ↓jN_8, ↓jN_10, ↓jN_11, ↓jN_12, ↓jN_14, ↓jN_20, jI_addN, jI_le, jI_lt, jI_eq, jI_cl, jI_in, jI_add, jI_sub, jI_eqN, gI_eqI, gI_eqN, gI_leI, gI_ltI, jI_leN, jI_ltN, gI_sub, pif_tt, pif_ff, pg_tt, isB, or_true, true_or, pif_T, pif_F, pg_T, pb_S, upd_e, upd_n, fX9_in, fX9_in_17, fX9_in_18, lg_lt, lg_gt, jL_lt]
  · refine Or.inr ⟨Or.inl (neg_lt h (by omega)), ?_⟩
    have h1 : x.toInt64 < jL lo := by
      have := negL h
      rw [Int64.lt_iff_toInt_lt, jL_toInt (by omega)] at *
      omega
    simp (disch := omega) only [jI_0, jI_1, jI_2, jI_3, jI_4, jI_5, jI_6, jI_7, jI_8, jI_9, jI_10, jI_11, jI_12, jI_13, jI_14, jI_15, jI_16, jI_20, jI_24, jI_26, jI_30, jI_31, jI_32, jI_40, jI_48, jI_56, jI_57, jI_59, jI_60, jI_97, jI_99, jI_122, jI_160, jI_240, jI_255, jI_768, jI_1000, ↓jN_1, ↓jN_2, ↓jN_3, ↓jN_4, ↓jN_8, ↓jN_10, ↓jN_11, ↓jN_12, ↓jN_14, ↓jN_20, jI_addN, jI_le, jI_lt, jI_eq, jI_cl, jI_in, jI_add, jI_sub, jI_eqN, gI_eqI, gI_eqN, gI_leI, gI_ltI, jI_leN, jI_ltN, gI_sub, pif_tt, pif_ff, pg_tt, isB, or_true, true_or, pif_T, pif_F, pg_T, pb_S, upd_e, upd_n, fX9_in, fX9_in_17, fX9_in_18, lg_lt, h1]
section
variable {N : Nat}
theorem powerX {b t : Nat} (hN : 100 ≤ N) (hb : b < 10) (ht : t ≤ 20) : fX8_power N (jI b) (jI t) = some (jL (b ^ t)) := by
  have key : Ok (fX8_power_5 N (jI b) (jI t) N (jL 1) (jI 0)) (fun q => q = jL (b ^ t)) := by
    refine up_ok (fun fu i a => fX8_power_5 N (jI b) (jI t) fu (jL a) (jI i)) _ t (fun i a => a = b ^ i) ?_ ?_ N 0 1 (by omega) (by omega) rfl
    · intro fu i a hi ha ih
      simp (disch := omega) only [jI_0, jI_1, jI_2, jI_3, jI_4, jI_5, jI_6, jI_7, jI_8, jI_9, jI_10, jI_11, jI_12, jI_13, jI_14, jI_15, jI_16, jI_20, jI_24, jI_26, jI_30, jI_31, jI_32, jI_40, jI_48, jI_56, jI_57, jI_59, jI_60, jI_97, jI_99, jI_122, jI_160, jI_240, jI_255, jI_768, jI_1000, ↓jN_1, ↓jN_2, ↓jN_3, ↓jN_4, ↓jN_8, ↓jN_10, ↓jN_11, ↓jN_12, ↓jN_14, ↓jN_20, jI_addN, jI_le, jI_lt, jI_eq, jI_cl, jI_in, jI_add, jI_sub, jI_eqN, gI_eqI, gI_eqN, gI_leI, gI_ltI, jI_leN, jI_ltN, gI_sub, pif_tt, pif_ff, pg_tt, isB, or_true, true_or, pif_T, pif_F, pg_T, pb_S, upd_e, upd_n, jL_0, jL_1, jL_2, jL_5, jL_6, jL_15, jL_16, jL_63, jI_mul, jI_L, jL_I, jL_add, jL_sub, jL_mul, fX8_power_5]
      exact ih _ (by rw [ha, Nat.pow_succ])
    · intro fu a ha
      simp (disch := omega) only [jI_0, jI_1, jI_2, jI_3, jI_4, jI_5, jI_6, jI_7, jI_8, jI_9, jI_10, jI_11, jI_12, jI_13, jI_14, jI_15, jI_16, jI_20, jI_24, jI_26, jI_30, jI_31, jI_32, jI_40, jI_48, jI_56, jI_57, jI_59, jI_60, jI_97, jI_99, jI_122, jI_160, jI_240, jI_255, jI_768, jI_1000, ↓jN_1, ↓jN_2, ↓jN_3, ↓jN_4, ↓jN_8, ↓jN_10, ↓jN_11, ↓jN_12, ↓jN_14, ↓jN_20, jI_addN, jI_le, jI_lt, jI_eq, jI_cl, jI_in, jI_add, jI_sub, jI_eqN, gI_eqI, gI_eqN, gI_leI, gI_ltI, jI_leN, jI_ltN, gI_sub, pif_tt, pif_ff, pg_tt, isB, or_true, true_or, pif_T, pif_F, pg_T, pb_S, upd_e, upd_n, jL_0, jL_1, jL_2, jL_5, jL_6, jL_15, jL_16, jL_63, jI_mul, jI_L, jL_I, jL_add, jL_sub, jL_mul, fX8_power_5]
      exact Ok.s (by rw [ha])
  obtain ⟨a, e, rfl⟩ := key
  exact e
theorem sixesM {m : Nat} (hN : 100 ≤ N) (hm : m ≤ 20) : fX9_sixes N (jI m) = some (jL (6 ^ m)) := by
  have key : Ok (fX9_sixes_4 N (jI m) N (jL 1) (jI 0)) (fun q => q = jL (6 ^ m)) := by
    refine up_ok (fun fu i a => fX9_sixes_4 N (jI m) fu (jL a) (jI i)) _ m (fun i a => a = 6 ^ i) ?_ ?_ N 0 1 (by omega) (by omega) rfl
    · intro fu i a hi ha ih
      simp (disch := omega) only [jI_0, jI_1, jI_2, jI_3, jI_4, jI_5, jI_6, jI_7, jI_8, jI_9, jI_10, jI_11, jI_12, jI_13, jI_14, jI_15, jI_16, jI_20, jI_24, jI_26, jI_30, jI_31, jI_32, jI_40, jI_48, jI_56, jI_57, jI_59, jI_60, jI_97, jI_99, jI_122, jI_160, jI_240, jI_255, jI_768, jI_1000, ↓jN_1, ↓jN_2, ↓jN_3, ↓jN_4, ↓jN_8, ↓jN_10, ↓jN_11, ↓jN_12, ↓jN_14, ↓jN_20, jI_addN, jI_le, jI_lt, jI_eq, jI_cl, jI_in, jI_add, jI_sub, jI_eqN, gI_eqI, gI_eqN, gI_leI, gI_ltI, jI_leN, jI_ltN, gI_sub, pif_tt, pif_ff, pg_tt, isB, or_true, true_or, pif_T, pif_F, pg_T, pb_S, upd_e, upd_n, jL_0, jL_1, jL_2, jL_5, jL_6, jL_15, jL_16, jL_63, jI_mul, jI_L, jL_I, jL_add, jL_sub, jL_mul, fX9_sixes_4]
      exact ih _ (by rw [ha, Nat.pow_succ])
    · intro fu a ha
      simp (disch := omega) only [jI_0, jI_1, jI_2, jI_3, jI_4, jI_5, jI_6, jI_7, jI_8, jI_9, jI_10, jI_11, jI_12, jI_13, jI_14, jI_15, jI_16, jI_20, jI_24, jI_26, jI_30, jI_31, jI_32, jI_40, jI_48, jI_56, jI_57, jI_59, jI_60, jI_97, jI_99, jI_122, jI_160, jI_240, jI_255, jI_768, jI_1000, ↓jN_1, ↓jN_2, ↓jN_3, ↓jN_4, ↓jN_8, ↓jN_10, ↓jN_11, ↓jN_12, ↓jN_14, ↓jN_20, jI_addN, jI_le, jI_lt, jI_eq, jI_cl, jI_in, jI_add, jI_sub, jI_eqN, gI_eqI, gI_eqN, gI_leI, gI_ltI, jI_leN, jI_ltN, gI_sub, pif_tt, pif_ff, pg_tt, isB, or_true, true_or, pif_T, pif_F, pg_T, pb_S, upd_e, upd_n, jL_0, jL_1, jL_2, jL_5, jL_6, jL_15, jL_16, jL_63, jI_mul, jI_L, jL_I, jL_add, jL_sub, jL_mul, fX9_sixes_4]
      exact Ok.s (by rw [ha])
  obtain ⟨a, e, rfl⟩ := key
  exact e
theorem restedX2 {m r : Nat} (hN : 100 ≤ N) (hm : m ≤ 20) (hr : r ≤ 21) : fX8_restedOrMore N (jI m) (jI r) = some (jL (tA m r (m + 1))) := by
  have key : Ok (fX8_restedOrMore_8 N (jI m) (jI r) N (jL 0) (jL 1) (jI 0)) (fun q => q = jL (tA m r (m + 1))) := by
    refine up_ok (fun fu k (q : Nat × Nat) => fX8_restedOrMore_8 N (jI m) (jI r) fu (jL q.1) (jL q.2) (jI k)) _ (m + 1) (fun k q => q.1 = tA m r k ∧ q.2 = pkN m k) ?_ ?_ N 0 (0, 1) (by omega) (by omega) ⟨rfl, rfl⟩
    · intro fu k ⟨w, p⟩ hk ⟨h1, h2⟩ ih
      simp only at h1 h2
      have hpk := pkN_le m (by omega) k (by omega)
      have hml : p * (m - k) ≤ 1000000 * 20 := by rw [h2]; exact Nat.mul_le_mul hpk (by omega)
      have hdv : jL (p * (m - k)) / jL (k + 1) = jL (p * (m - k) / (k + 1)) := jL_div (by omega) (by omega)
      have hnz : ¬ jL (k + 1) = jL 0 := by rw [jL_eq (by omega) (by omega)]; omega
      by_cases hkr : k < r
      · simp (disch := omega) only [jI_0, jI_1, jI_2, jI_3, jI_4, jI_5, jI_6, jI_7, jI_8, jI_9, jI_10, jI_11, jI_12, jI_13, jI_14, jI_15, jI_16, jI_20, jI_24, jI_26, jI_30, jI_31, jI_32, jI_40, jI_48, jI_56, jI_57, jI_59, jI_60, jI_97, jI_99, jI_122, jI_160, jI_240, jI_255, jI_768, jI_1000, ↓jN_1, ↓jN_2, ↓jN_3, ↓jN_4, ↓jN_8, ↓jN_10, ↓jN_11, ↓jN_12, ↓jN_14, ↓jN_20, jI_addN, jI_le, jI_lt, jI_eq, jI_cl, jI_in, jI_add, jI_sub, jI_eqN, gI_eqI, gI_eqN, gI_leI, gI_ltI, jI_leN, jI_ltN, gI_sub, pif_tt, pif_ff, pg_tt, isB, or_true, true_or, pif_T, pif_F, pg_T, pb_S, upd_e, upd_n, jL_0, jL_1, jL_2, jL_5, jL_6, jL_15, jL_16, jL_63, jI_mul, jI_L, jL_I, jL_add, jL_sub, jL_mul, fX8_restedOrMore_8, fX8_restedOrMore_34, hdv, hnz]
        refine ih (w, _) ⟨?_, ?_⟩
        · simp only [tA]; rw [if_neg (by omega), Nat.add_zero]; exact h1
        · simp only [pkN]; rw [h2]
      · have e5 := powerX (N := N) (b := 5) (t := m - k) hN (by omega) (by omega)
        simp (disch := omega) only [jI_0, jI_1, jI_2, jI_3, jI_4, jI_5, jI_6, jI_7, jI_8, jI_9, jI_10, jI_11, jI_12, jI_13, jI_14, jI_15, jI_16, jI_20, jI_24, jI_26, jI_30, jI_31, jI_32, jI_40, jI_48, jI_56, jI_57, jI_59, jI_60, jI_97, jI_99, jI_122, jI_160, jI_240, jI_255, jI_768, jI_1000, ↓jN_1, ↓jN_2, ↓jN_3, ↓jN_4, ↓jN_8, ↓jN_10, ↓jN_11, ↓jN_12, ↓jN_14, ↓jN_20, jI_addN, jI_le, jI_lt, jI_eq, jI_cl, jI_in, jI_add, jI_sub, jI_eqN, gI_eqI, gI_eqN, gI_leI, gI_ltI, jI_leN, jI_ltN, gI_sub, pif_tt, pif_ff, pg_tt, isB, or_true, true_or, pif_T, pif_F, pg_T, pb_S, upd_e, upd_n, jL_0, jL_1, jL_2, jL_5, jL_6, jL_15, jL_16, jL_63, jI_mul, jI_L, jL_I, jL_add, jL_sub, jL_mul, fX8_restedOrMore_8, fX8_restedOrMore_34, e5, hdv, hnz]
        refine ih (_, _) ⟨?_, ?_⟩
        · simp only [tA]; rw [if_pos (by omega), h1, h2]
        · simp only [pkN]; rw [h2]
    · intro fu ⟨w, p⟩ ⟨h1, h2⟩
      simp only at h1
      simp (disch := omega) only [jI_0, jI_1, jI_2, jI_3, jI_4, jI_5, jI_6, jI_7, jI_8, jI_9, jI_10, jI_11, jI_12, jI_13, jI_14, jI_15, jI_16, jI_20, jI_24, jI_26, jI_30, jI_31, jI_32, jI_40, jI_48, jI_56, jI_57, jI_59, jI_60, jI_97, jI_99, jI_122, jI_160, jI_240, jI_255, jI_768, jI_1000, ↓jN_1, ↓jN_2, ↓jN_3, ↓jN_4, ↓jN_8, ↓jN_10, ↓jN_11, ↓jN_12, ↓jN_14, ↓jN_20, jI_addN, jI_le, jI_lt, jI_eq, jI_cl, jI_in, jI_add, jI_sub, jI_eqN, gI_eqI, gI_eqN, gI_leI, gI_ltI, jI_leN, jI_ltN, gI_sub, pif_tt, pif_ff, pg_tt, isB, or_true, true_or, pif_T, pif_F, pg_T, pb_S, upd_e, upd_n, jL_0, jL_1, jL_2, jL_5, jL_6, jL_15, jL_16, jL_63, jI_mul, jI_L, jL_I, jL_add, jL_sub, jL_mul, fX8_restedOrMore_8]
      exact Ok.s (by rw [h1])
  obtain ⟨a, e, rfl⟩ := key
  exact e
theorem thumbUpM {m r : Nat} (hN : 100 ≤ N) (hm : m ≤ 20) (hr : r ≤ m) : fX9_thumbUp N (jI m) (jI r) = some (jL (tA m r (m + 1))) := by
  have key : Ok (fX9_thumbUp_5 N (jI m) (jI r) N (jL 0) (jI r)) (fun q => q = jL (tA m r (m + 1))) := by
    refine up_ok (fun fu i w => fX9_thumbUp_5 N (jI m) (jI r) fu (jL w) (jI i)) _ (m + 1) (fun i w => r ≤ i ∧ w = tA m r i) ?_ ?_ N r 0 (by omega) (by omega) ⟨Nat.le_refl _, (tA_lo m r r (Nat.le_refl _)).symm⟩
    · intro fu i w hi ⟨hri, hw⟩ ih
      simp (disch := omega) only [jI_0, jI_1, jI_2, jI_3, jI_4, jI_5, jI_6, jI_7, jI_8, jI_9, jI_10, jI_11, jI_12, jI_13, jI_14, jI_15, jI_16, jI_20, jI_24, jI_26, jI_30, jI_31, jI_32, jI_40, jI_48, jI_56, jI_57, jI_59, jI_60, jI_97, jI_99, jI_122, jI_160, jI_240, jI_255, jI_768, jI_1000, ↓jN_1, ↓jN_2, ↓jN_3, ↓jN_4, ↓jN_8, ↓jN_10, ↓jN_11, ↓jN_12, ↓jN_14, ↓jN_20, jI_addN, jI_le, jI_lt, jI_eq, jI_cl, jI_in, jI_add, jI_sub, jI_eqN, gI_eqI, gI_eqN, gI_leI, gI_ltI, jI_leN, jI_ltN, gI_sub, pif_tt, pif_ff, pg_tt, isB, or_true, true_or, pif_T, pif_F, pg_T, pb_S, upd_e, upd_n, jL_0, jL_1, jL_2, jL_5, jL_6, jL_15, jL_16, jL_63, jI_mul, jI_L, jL_I, jL_add, jL_sub, jL_mul, fX9_thumbUp_5]
      refine up_ok (fun fu2 k v => fX9_thumbUp_17 N (jI m) (jI r) (fX9_thumbUp_5 N (jI m) (jI r) fu) fu2 (jL w) (jI i) (jL v) (jI k)) _ i (fun k v => v = pkN m k) ?_ ?_ N 0 1 (by omega) (by omega) rfl
      · intro fu2 k v hk hv ih2
        have hpk := pkN_le m (by omega) k (by omega)
        have hml : v * (m - k) ≤ 1000000 * 20 := by rw [hv]; exact Nat.mul_le_mul hpk (by omega)
        have hdv : jL (v * (m - k)) / jL (k + 1) = jL (v * (m - k) / (k + 1)) := jL_div (by omega) (by omega)
        have hnz : ¬ jL (k + 1) = jL 0 := by rw [jL_eq (by omega) (by omega)]; omega
        simp (disch := omega) only [jI_0, jI_1, jI_2, jI_3, jI_4, jI_5, jI_6, jI_7, jI_8, jI_9, jI_10, jI_11, jI_12, jI_13, jI_14, jI_15, jI_16, jI_20, jI_24, jI_26, jI_30, jI_31, jI_32, jI_40, jI_48, jI_56, jI_57, jI_59, jI_60, jI_97, jI_99, jI_122, jI_160, jI_240, jI_255, jI_768, jI_1000, ↓jN_1, ↓jN_2, ↓jN_3, ↓jN_4, ↓jN_8, ↓jN_10, ↓jN_11, ↓jN_12, ↓jN_14, ↓jN_20, jI_addN, jI_le, jI_lt, jI_eq, jI_cl, jI_in, jI_add, jI_sub, jI_eqN, gI_eqI, gI_eqN, gI_leI, gI_ltI, jI_leN, jI_ltN, gI_sub, pif_tt, pif_ff, pg_tt, isB, or_true, true_or, pif_T, pif_F, pg_T, pb_S, upd_e, upd_n, jL_0, jL_1, jL_2, jL_5, jL_6, jL_15, jL_16, jL_63, jI_mul, jI_L, jL_I, jL_add, jL_sub, jL_mul, fX9_thumbUp_17, hdv, hnz]
        exact ih2 _ (by simp only [pkN]; rw [hv])
      · intro fu2 v hv
        simp (disch := omega) only [jI_0, jI_1, jI_2, jI_3, jI_4, jI_5, jI_6, jI_7, jI_8, jI_9, jI_10, jI_11, jI_12, jI_13, jI_14, jI_15, jI_16, jI_20, jI_24, jI_26, jI_30, jI_31, jI_32, jI_40, jI_48, jI_56, jI_57, jI_59, jI_60, jI_97, jI_99, jI_122, jI_160, jI_240, jI_255, jI_768, jI_1000, ↓jN_1, ↓jN_2, ↓jN_3, ↓jN_4, ↓jN_8, ↓jN_10, ↓jN_11, ↓jN_12, ↓jN_14, ↓jN_20, jI_addN, jI_le, jI_lt, jI_eq, jI_cl, jI_in, jI_add, jI_sub, jI_eqN, gI_eqI, gI_eqN, gI_leI, gI_ltI, jI_leN, jI_ltN, gI_sub, pif_tt, pif_ff, pg_tt, isB, or_true, true_or, pif_T, pif_F, pg_T, pb_S, upd_e, upd_n, jL_0, jL_1, jL_2, jL_5, jL_6, jL_15, jL_16, jL_63, jI_mul, jI_L, jL_I, jL_add, jL_sub, jL_mul, fX9_thumbUp_17]
        refine up_ok (fun fu3 k v2 => fX9_thumbUp_50 N (jI m) (jI r) (fX9_thumbUp_5 N (jI m) (jI r) fu) fu3 (jL w) (jI i) (jL v2) (jI k)) _ m (fun k v2 => i ≤ k ∧ v2 = v * 5 ^ (k - i)) ?_ ?_ N i v (by omega) (by omega) ⟨Nat.le_refl _, by rw [Nat.sub_self, Nat.pow_zero, Nat.mul_one]⟩
        · intro fu3 k v2 hk ⟨hik, hv2⟩ ih3
          simp (disch := omega) only [jI_0, jI_1, jI_2, jI_3, jI_4, jI_5, jI_6, jI_7, jI_8, jI_9, jI_10, jI_11, jI_12, jI_13, jI_14, jI_15, jI_16, jI_20, jI_24, jI_26, jI_30, jI_31, jI_32, jI_40, jI_48, jI_56, jI_57, jI_59, jI_60, jI_97, jI_99, jI_122, jI_160, jI_240, jI_255, jI_768, jI_1000, ↓jN_1, ↓jN_2, ↓jN_3, ↓jN_4, ↓jN_8, ↓jN_10, ↓jN_11, ↓jN_12, ↓jN_14, ↓jN_20, jI_addN, jI_le, jI_lt, jI_eq, jI_cl, jI_in, jI_add, jI_sub, jI_eqN, gI_eqI, gI_eqN, gI_leI, gI_ltI, jI_leN, jI_ltN, gI_sub, pif_tt, pif_ff, pg_tt, isB, or_true, true_or, pif_T, pif_F, pg_T, pb_S, upd_e, upd_n, jL_0, jL_1, jL_2, jL_5, jL_6, jL_15, jL_16, jL_63, jI_mul, jI_L, jL_I, jL_add, jL_sub, jL_mul, fX9_thumbUp_50]
          refine ih3 _ ⟨by omega, ?_⟩
          rw [hv2, show k + 1 - i = (k - i) + 1 by omega, Nat.pow_succ, Nat.mul_assoc]
        · intro fu3 v2 ⟨hik, hv2⟩
          simp (disch := omega) only [jI_0, jI_1, jI_2, jI_3, jI_4, jI_5, jI_6, jI_7, jI_8, jI_9, jI_10, jI_11, jI_12, jI_13, jI_14, jI_15, jI_16, jI_20, jI_24, jI_26, jI_30, jI_31, jI_32, jI_40, jI_48, jI_56, jI_57, jI_59, jI_60, jI_97, jI_99, jI_122, jI_160, jI_240, jI_255, jI_768, jI_1000, ↓jN_1, ↓jN_2, ↓jN_3, ↓jN_4, ↓jN_8, ↓jN_10, ↓jN_11, ↓jN_12, ↓jN_14, ↓jN_20, jI_addN, jI_le, jI_lt, jI_eq, jI_cl, jI_in, jI_add, jI_sub, jI_eqN, gI_eqI, gI_eqN, gI_leI, gI_ltI, jI_leN, jI_ltN, gI_sub, pif_tt, pif_ff, pg_tt, isB, or_true, true_or, pif_T, pif_F, pg_T, pb_S, upd_e, upd_n, jL_0, jL_1, jL_2, jL_5, jL_6, jL_15, jL_16, jL_63, jI_mul, jI_L, jL_I, jL_add, jL_sub, jL_mul, fX9_thumbUp_50]
          refine ih _ ⟨by omega, ?_⟩
          simp only [tA]
          rw [if_pos hri, hw, hv2, hv]
    · intro fu w ⟨hri, hw⟩
      simp (disch := omega) only [jI_0, jI_1, jI_2, jI_3, jI_4, jI_5, jI_6, jI_7, jI_8, jI_9, jI_10, jI_11, jI_12, jI_13, jI_14, jI_15, jI_16, jI_20, jI_24, jI_26, jI_30, jI_31, jI_32, jI_40, jI_48, jI_56, jI_57, jI_59, jI_60, jI_97, jI_99, jI_122, jI_160, jI_240, jI_255, jI_768, jI_1000, ↓jN_1, ↓jN_2, ↓jN_3, ↓jN_4, ↓jN_8, ↓jN_10, ↓jN_11, ↓jN_12, ↓jN_14, ↓jN_20, jI_addN, jI_le, jI_lt, jI_eq, jI_cl, jI_in, jI_add, jI_sub, jI_eqN, gI_eqI, gI_eqN, gI_leI, gI_ltI, jI_leN, jI_ltN, gI_sub, pif_tt, pif_ff, pg_tt, isB, or_true, true_or, pif_T, pif_F, pg_T, pb_S, upd_e, upd_n, jL_0, jL_1, jL_2, jL_5, jL_6, jL_15, jL_16, jL_63, jI_mul, jI_L, jL_I, jL_add, jL_sub, jL_mul, fX9_thumbUp_5]
      exact Ok.s (by rw [hw])
  obtain ⟨a, e, rfl⟩ := key
  exact e
theorem c_thumbs (x1 x2 x3 : Int32) (hN : 100 ≤ N) : Ok (fX8_thumbs N x1 x2 x3) (fun a => Ok (fX9_thumbs N x1 x2 x3) (fun b => a = b)) := by
  rcases in2_c (N := N) x1 1 20 (by omega) (by omega) (by omega) with ⟨m, hm1, hm2, rfl, i1⟩ | ⟨hcc, i1⟩
  · rcases in_c (N := N) x2 m (by omega) with ⟨r, hr, rfl, i2⟩ | ⟨hc2, i2⟩
    · rcases part_c (N := N) x3 with ⟨w, hw, rfl, p1, p2⟩ | ⟨p1, p2⟩
      · have e1 := restedX2 (N := N) (m := m) (r := r) hN hm2 (by omega)
        have e2 := powerX (N := N) (b := 6) (t := m) hN (by omega) hm2
        have e3 := thumbUpM (N := N) (m := m) (r := r) hN hm2 hr
        have e4 := sixesM (N := N) (m := m) hN hm2
        have l1 := tA_le m (by omega) r (by omega)
        have l2 := six_le m (by omega)
        have hpos : 0 < 6 ^ m := Nat.pow_pos (by omega)
        have e5 := partX (N := N) (a := tA m r (m + 1)) (b := 6 ^ m) (wh := w) hN (by omega) l2 hpos hw
        have e6 := lowestM (N := N) (a := tA m r (m + 1)) (b := 6 ^ m) (wh := w) hN (by omega) l2 hpos hw
        simp (disch := omega) only [jI_0, jI_1, jI_2, jI_3, jI_4, jI_5, jI_6, jI_7, jI_8, jI_9, jI_10, jI_11, jI_12, jI_13, jI_14, jI_15, jI_16, jI_20, jI_24, jI_26, jI_30, jI_31, jI_32, jI_40, jI_48, jI_56, jI_57, jI_59, jI_60, jI_97, jI_99, jI_122, jI_160, jI_240, jI_255, jI_768, jI_1000, ↓jN_1, ↓jN_2, ↓jN_3, ↓jN_4, ↓jN_8, ↓jN_10, ↓jN_11, ↓jN_12, ↓jN_14, ↓jN_20, jI_addN, jI_le, jI_lt, jI_eq, jI_cl, jI_in, jI_add, jI_sub, jI_eqN, gI_eqI, gI_eqN, gI_leI, gI_ltI, jI_leN, jI_ltN, gI_sub, pif_tt, pif_ff, pg_tt, isB, or_true, true_or, pif_T, pif_F, pg_T, pb_S, upd_e, upd_n, fX8_thumbs, p1, e1, e2, e5]
        refine Ok.s ?_
        simp (disch := omega) only [jI_0, jI_1, jI_2, jI_3, jI_4, jI_5, jI_6, jI_7, jI_8, jI_9, jI_10, jI_11, jI_12, jI_13, jI_14, jI_15, jI_16, jI_20, jI_24, jI_26, jI_30, jI_31, jI_32, jI_40, jI_48, jI_56, jI_57, jI_59, jI_60, jI_97, jI_99, jI_122, jI_160, jI_240, jI_255, jI_768, jI_1000, ↓jN_1, ↓jN_2, ↓jN_3, ↓jN_4, ↓jN_8, ↓jN_10, ↓jN_11, ↓jN_12, ↓jN_14, ↓jN_20, jI_addN, jI_le, jI_lt, jI_eq, jI_cl, jI_in, jI_add, jI_sub, jI_eqN, gI_eqI, gI_eqN, gI_leI, gI_ltI, jI_leN, jI_ltN, gI_sub, pif_tt, pif_ff, pg_tt, isB, or_true, true_or, pif_T, pif_F, pg_T, pb_S, upd_e, upd_n, jL_0, jL_1, jL_2, jL_5, jL_6, jL_15, jL_16, jL_63, jI_mul, jI_L, jL_I, jL_add, jL_sub, jL_mul, fX9_thumbs, fX9_thumbs_52, show (20 : Int64) = jL 20 from rfl, i1, i2, p2, e3, e4, e6]
        exact Ok.s rfl
      · simp (disch := omega) only [jI_0, jI_1, jI_2, jI_3, jI_4, jI_5, jI_6, jI_7, jI_8, jI_9, jI_10, jI_11, jI_12, jI_13, jI_14, jI_15, jI_16, jI_20, jI_24, jI_26, jI_30, jI_31, jI_32, jI_40, jI_48, jI_56, jI_57, jI_59, jI_60, jI_97, jI_99, jI_122, jI_160, jI_240, jI_255, jI_768, jI_1000, ↓jN_1, ↓jN_2, ↓jN_3, ↓jN_4, ↓jN_8, ↓jN_10, ↓jN_11, ↓jN_12, ↓jN_14, ↓jN_20, jI_addN, jI_le, jI_lt, jI_eq, jI_cl, jI_in, jI_add, jI_sub, jI_eqN, gI_eqI, gI_eqN, gI_leI, gI_ltI, jI_leN, jI_ltN, gI_sub, pif_tt, pif_ff, pg_tt, isB, or_true, true_or, pif_T, pif_F, pg_T, pb_S, upd_e, upd_n, fX8_thumbs, fX8_thumbs_27, p1]
        refine Ok.s ?_
        simp (disch := omega) only [jI_0, jI_1, jI_2, jI_3, jI_4, jI_5, jI_6, jI_7, jI_8, jI_9, jI_10, jI_11, jI_12, jI_13, jI_14, jI_15, jI_16, jI_20, jI_24, jI_26, jI_30, jI_31, jI_32, jI_40, jI_48, jI_56, jI_57, jI_59, jI_60, jI_97, jI_99, jI_122, jI_160, jI_240, jI_255, jI_768, jI_1000, ↓jN_1, ↓jN_2, ↓jN_3, ↓jN_4, ↓jN_8, ↓jN_10, ↓jN_11, ↓jN_12, ↓jN_14, ↓jN_20, jI_addN, jI_le, jI_lt, jI_eq, jI_cl, jI_in, jI_add, jI_sub, jI_eqN, gI_eqI, gI_eqN, gI_leI, gI_ltI, jI_leN, jI_ltN, gI_sub, pif_tt, pif_ff, pg_tt, isB, or_true, true_or, pif_T, pif_F, pg_T, pb_S, upd_e, upd_n, jL_0, jL_1, jL_2, jL_5, jL_6, jL_15, jL_16, jL_63, jI_mul, jI_L, jL_I, jL_add, jL_sub, jL_mul, fX9_thumbs, fX9_thumbs_49, fX9_thumbs_52, show (20 : Int64) = jL 20 from rfl, i1, i2, p2]
        exact Ok.s rfl
    · rcases hc2 with hneg | ⟨k, rfl, hk4, hk5⟩
      · simp (disch := omega) only [jI_0, jI_1, jI_2, jI_3, jI_4, jI_5, jI_6, jI_7, jI_8, jI_9, jI_10, jI_11, jI_12, jI_13, jI_14, jI_15, jI_16, jI_20, jI_24, jI_26, jI_30, jI_31, jI_32, jI_40, jI_48, jI_56, jI_57, jI_59, jI_60, jI_97, jI_99, jI_122, jI_160, jI_240, jI_255, jI_768, jI_1000, ↓jN_1, ↓jN_2, ↓jN_3, ↓jN_4, ↓jN_8, ↓jN_10, ↓jN_11, ↓jN_12, ↓jN_14, ↓jN_20, jI_addN, jI_le, jI_lt, jI_eq, jI_cl, jI_in, jI_add, jI_sub, jI_eqN, gI_eqI, gI_eqN, gI_leI, gI_ltI, jI_leN, jI_ltN, gI_sub, pif_tt, pif_ff, pg_tt, isB, or_true, true_or, pif_T, pif_F, pg_T, pb_S, upd_e, upd_n, fX8_thumbs, fX8_thumbs_27, hneg]
        refine Ok.s ?_
        simp (disch := omega) only [jI_0, jI_1, jI_2, jI_3, jI_4, jI_5, jI_6, jI_7, jI_8, jI_9, jI_10, jI_11, jI_12, jI_13, jI_14, jI_15, jI_16, jI_20, jI_24, jI_26, jI_30, jI_31, jI_32, jI_40, jI_48, jI_56, jI_57, jI_59, jI_60, jI_97, jI_99, jI_122, jI_160, jI_240, jI_255, jI_768, jI_1000, ↓jN_1, ↓jN_2, ↓jN_3, ↓jN_4, ↓jN_8, ↓jN_10, ↓jN_11, ↓jN_12, ↓jN_14, ↓jN_20, jI_addN, jI_le, jI_lt, jI_eq, jI_cl, jI_in, jI_add, jI_sub, jI_eqN, gI_eqI, gI_eqN, gI_leI, gI_ltI, jI_leN, jI_ltN, gI_sub, pif_tt, pif_ff, pg_tt, isB, or_true, true_or, pif_T, pif_F, pg_T, pb_S, upd_e, upd_n, jL_0, jL_1, jL_2, jL_5, jL_6, jL_15, jL_16, jL_63, jI_mul, jI_L, jL_I, jL_add, jL_sub, jL_mul, fX9_thumbs, fX9_thumbs_49, fX9_thumbs_52, show (20 : Int64) = jL 20 from rfl, i1, i2]
        exact Ok.s rfl
      · rw [jI_L hk5] at i2
        simp (disch := omega) only [jI_0, jI_1, jI_2, jI_3, jI_4, jI_5, jI_6, jI_7, jI_8, jI_9, jI_10, jI_11, jI_12, jI_13, jI_14, jI_15, jI_16, jI_20, jI_24, jI_26, jI_30, jI_31, jI_32, jI_40, jI_48, jI_56, jI_57, jI_59, jI_60, jI_97, jI_99, jI_122, jI_160, jI_240, jI_255, jI_768, jI_1000, ↓jN_1, ↓jN_2, ↓jN_3, ↓jN_4, ↓jN_8, ↓jN_10, ↓jN_11, ↓jN_12, ↓jN_14, ↓jN_20, jI_addN, jI_le, jI_lt, jI_eq, jI_cl, jI_in, jI_add, jI_sub, jI_eqN, gI_eqI, gI_eqN, gI_leI, gI_ltI, jI_leN, jI_ltN, gI_sub, pif_tt, pif_ff, pg_tt, isB, or_true, true_or, pif_T, pif_F, pg_T, pb_S, upd_e, upd_n, fX8_thumbs, fX8_thumbs_27]
        refine Ok.s ?_
        simp (disch := omega) only [jI_0, jI_1, jI_2, jI_3, jI_4, jI_5, jI_6, jI_7, jI_8, jI_9, jI_10, jI_11, jI_12, jI_13, jI_14, jI_15, jI_16, jI_20, jI_24, jI_26, jI_30, jI_31, jI_32, jI_40, jI_48, jI_56, jI_57, jI_59, jI_60, jI_97, jI_99, jI_122, jI_160, jI_240, jI_255, jI_768, jI_1000, ↓jN_1, ↓jN_2, ↓jN_3, ↓jN_4, ↓jN_8, ↓jN_10, ↓jN_11, ↓jN_12, ↓jN_14, ↓jN_20, jI_addN, jI_le, jI_lt, jI_eq, jI_cl, jI_in, jI_add, jI_sub, jI_eqN, gI_eqI, gI_eqN, gI_leI, gI_ltI, jI_leN, jI_ltN, gI_sub, pif_tt, pif_ff, pg_tt, isB, or_true, true_or, pif_T, pif_F, pg_T, pb_S, upd_e, upd_n, jL_0, jL_1, jL_2, jL_5, jL_6, jL_15, jL_16, jL_63, jI_mul, jI_L, jL_I, jL_add, jL_sub, jL_mul, fX9_thumbs, fX9_thumbs_49, fX9_thumbs_52, show (20 : Int64) = jL 20 from rfl, i1, i2]
        exact Ok.s rfl
  · rcases hcc with hneg | ⟨k, rfl, hk4, hk5⟩
    · simp (disch := omega) only [jI_0, jI_1, jI_2, jI_3, jI_4, jI_5, jI_6, jI_7, jI_8, jI_9, jI_10, jI_11, jI_12, jI_13, jI_14, jI_15, jI_16, jI_20, jI_24, jI_26, jI_30, jI_31, jI_32, jI_40, jI_48, jI_56, jI_57, jI_59, jI_60, jI_97, jI_99, jI_122, jI_160, jI_240, jI_255, jI_768, jI_1000, ↓jN_1, ↓jN_2, ↓jN_3, ↓jN_4, ↓jN_8, ↓jN_10, ↓jN_11, ↓jN_12, ↓jN_14, ↓jN_20, jI_addN, jI_le, jI_lt, jI_eq, jI_cl, jI_in, jI_add, jI_sub, jI_eqN, gI_eqI, gI_eqN, gI_leI, gI_ltI, jI_leN, jI_ltN, gI_sub, pif_tt, pif_ff, pg_tt, isB, or_true, true_or, pif_T, pif_F, pg_T, pb_S, upd_e, upd_n, fX8_thumbs, fX8_thumbs_27, hneg]
      refine Ok.s ?_
      simp (disch := omega) only [jI_0, jI_1, jI_2, jI_3, jI_4, jI_5, jI_6, jI_7, jI_8, jI_9, jI_10, jI_11, jI_12, jI_13, jI_14, jI_15, jI_16, jI_20, jI_24, jI_26, jI_30, jI_31, jI_32, jI_40, jI_48, jI_56, jI_57, jI_59, jI_60, jI_97, jI_99, jI_122, jI_160, jI_240, jI_255, jI_768, jI_1000, ↓jN_1, ↓jN_2, ↓jN_3, ↓jN_4, ↓jN_8, ↓jN_10, ↓jN_11, ↓jN_12, ↓jN_14, ↓jN_20, jI_addN, jI_le, jI_lt, jI_eq, jI_cl, jI_in, jI_add, jI_sub, jI_eqN, gI_eqI, gI_eqN, gI_leI, gI_ltI, jI_leN, jI_ltN, gI_sub, pif_tt, pif_ff, pg_tt, isB, or_true, true_or, pif_T, pif_F, pg_T, pb_S, upd_e, upd_n, jL_0, jL_1, jL_2, jL_5, jL_6, jL_15, jL_16, jL_63, jI_mul, jI_L, jL_I, jL_add, jL_sub, jL_mul, fX9_thumbs, fX9_thumbs_49, fX9_thumbs_52, show (20 : Int64) = jL 20 from rfl, i1]
      exact Ok.s rfl
    · rw [jI_L hk5] at i1
      simp (disch := omega) only [jI_0, jI_1, jI_2, jI_3, jI_4, jI_5, jI_6, jI_7, jI_8, jI_9, jI_10, jI_11, jI_12, jI_13, jI_14, jI_15, jI_16, jI_20, jI_24, jI_26, jI_30, jI_31, jI_32, jI_40, jI_48, jI_56, jI_57, jI_59, jI_60, jI_97, jI_99, jI_122, jI_160, jI_240, jI_255, jI_768, jI_1000, ↓jN_1, ↓jN_2, ↓jN_3, ↓jN_4, ↓jN_8, ↓jN_10, ↓jN_11, ↓jN_12, ↓jN_14, ↓jN_20, jI_addN, jI_le, jI_lt, jI_eq, jI_cl, jI_in, jI_add, jI_sub, jI_eqN, gI_eqI, gI_eqN, gI_leI, gI_ltI, jI_leN, jI_ltN, gI_sub, pif_tt, pif_ff, pg_tt, isB, or_true, true_or, pif_T, pif_F, pg_T, pb_S, upd_e, upd_n, fX8_thumbs, fX8_thumbs_27]
      refine Ok.s ?_
      simp (disch := omega) only [jI_0, jI_1, jI_2, jI_3, jI_4, jI_5, jI_6, jI_7, jI_8, jI_9, jI_10, jI_11, jI_12, jI_13, jI_14, jI_15, jI_16, jI_20, jI_24, jI_26, jI_30, jI_31, jI_32, jI_40, jI_48, jI_56, jI_57, jI_59, jI_60, jI_97, jI_99, jI_122, jI_160, jI_240, jI_255, jI_768, jI_1000, ↓jN_1, ↓jN_2, ↓jN_3, ↓jN_4, ↓jN_8, ↓jN_10, ↓jN_11, ↓jN_12, ↓jN_14, ↓jN_20, jI_addN, jI_le, jI_lt, jI_eq, jI_cl, jI_in, jI_add, jI_sub, jI_eqN, gI_eqI, gI_eqN, gI_leI, gI_ltI, jI_leN, jI_ltN, gI_sub, pif_tt, pif_ff, pg_tt, isB, or_true, true_or, pif_T, pif_F, pg_T, pb_S, upd_e, upd_n, jL_0, jL_1, jL_2, jL_5, jL_6, jL_15, jL_16, jL_63, jI_mul, jI_L, jL_I, jL_add, jL_sub, jL_mul, fX9_thumbs, fX9_thumbs_49, fX9_thumbs_52, show (20 : Int64) = jL 20 from rfl, i1]
      exact Ok.s rfl
theorem c_fine (x1 x2 : Int32) (hN : 100 ≤ N) : Ok (fX8_fine N x1 x2) (fun a => Ok (fX9_fine N x1 x2) (fun b => a = b)) := by
  rcases in2_c (N := N) x1 1 20 (by omega) (by omega) (by omega) with ⟨m, hm1, hm2, rfl, i1⟩ | ⟨hcc, i1⟩
  · rcases in2_c (N := N) x2 2 1000 (by omega) (by omega) (by omega) with ⟨v, hv1, hv2, rfl, i2⟩ | ⟨hc2, i2⟩
    · have e2 := powerX (N := N) (b := 6) (t := m) hN (by omega) hm2
      have e4 := sixesM (N := N) (m := m) hN hm2
      have l2 := six_le m (by omega)
      have both : ∀ (fu : Nat) (r : Nat), r ≤ m + 1 → m + 1 < fu + r → Ok (fX8_fine_35 N (jI m) (jI v) fu (jL (6 ^ m)) (jI r)) (fun a => Ok (fX9_fine_30 N (jI m) (jI v) fu (jI r)) (fun b => a = b)) := by
        intro fu
        induction fu with
        | zero => intro r h1 h2; omega
        | succ fu ih =>
          intro r h1 h2
          by_cases hr : m < r
          · simp (disch := omega) only [jI_0, jI_1, jI_2, jI_3, jI_4, jI_5, jI_6, jI_7, jI_8, jI_9, jI_10, jI_11, jI_12, jI_13, jI_14, jI_15, jI_16, jI_20, jI_24, jI_26, jI_30, jI_31, jI_32, jI_40, jI_48, jI_56, jI_57, jI_59, jI_60, jI_97, jI_99, jI_122, jI_160, jI_240, jI_255, jI_768, jI_1000, ↓jN_1, ↓jN_2, ↓jN_3, ↓jN_4, ↓jN_8, ↓jN_10, ↓jN_11, ↓jN_12, ↓jN_14, ↓jN_20, jI_addN, jI_le, jI_lt, jI_eq, jI_cl, jI_in, jI_add, jI_sub, jI_eqN, gI_eqI, gI_eqN, gI_leI, gI_ltI, jI_leN, jI_ltN, gI_sub, pif_tt, pif_ff, pg_tt, isB, or_true, true_or, pif_T, pif_F, pg_T, pb_S, upd_e, upd_n, fX8_fine_35]
            refine Ok.s ?_
            simp (disch := omega) only [jI_0, jI_1, jI_2, jI_3, jI_4, jI_5, jI_6, jI_7, jI_8, jI_9, jI_10, jI_11, jI_12, jI_13, jI_14, jI_15, jI_16, jI_20, jI_24, jI_26, jI_30, jI_31, jI_32, jI_40, jI_48, jI_56, jI_57, jI_59, jI_60, jI_97, jI_99, jI_122, jI_160, jI_240, jI_255, jI_768, jI_1000, ↓jN_1, ↓jN_2, ↓jN_3, ↓jN_4, ↓jN_8, ↓jN_10, ↓jN_11, ↓jN_12, ↓jN_14, ↓jN_20, jI_addN, jI_le, jI_lt, jI_eq, jI_cl, jI_in, jI_add, jI_sub, jI_eqN, gI_eqI, gI_eqN, gI_leI, gI_ltI, jI_leN, jI_ltN, gI_sub, pif_tt, pif_ff, pg_tt, isB, or_true, true_or, pif_T, pif_F, pg_T, pb_S, upd_e, upd_n, fX9_fine_30]
            exact Ok.s rfl
          · have e1 := restedX2 (N := N) (m := m) (r := r) hN hm2 (by omega)
            have e3 := thumbUpM (N := N) (m := m) (r := r) hN hm2 (by omega)
            have l1 := tA_le m (by omega) r (by omega)
            have l3 : tA m r (m + 1) * v ≤ 4000000000000000 * 1000 := Nat.mul_le_mul (by omega) hv2
            by_cases hc : 6 ^ m < tA m r (m + 1) * v
            · obtain ⟨A, ea, B, eb, hab⟩ := ih (r + 1) (by omega) (by omega)
              simp (disch := omega) only [jI_0, jI_1, jI_2, jI_3, jI_4, jI_5, jI_6, jI_7, jI_8, jI_9, jI_10, jI_11, jI_12, jI_13, jI_14, jI_15, jI_16, jI_20, jI_24, jI_26, jI_30, jI_31, jI_32, jI_40, jI_48, jI_56, jI_57, jI_59, jI_60, jI_97, jI_99, jI_122, jI_160, jI_240, jI_255, jI_768, jI_1000, ↓jN_1, ↓jN_2, ↓jN_3, ↓jN_4, ↓jN_8, ↓jN_10, ↓jN_11, ↓jN_12, ↓jN_14, ↓jN_20, jI_addN, jI_le, jI_lt, jI_eq, jI_cl, jI_in, jI_add, jI_sub, jI_eqN, gI_eqI, gI_eqN, gI_leI, gI_ltI, jI_leN, jI_ltN, gI_sub, pif_tt, pif_ff, pg_tt, isB, or_true, true_or, pif_T, pif_F, pg_T, pb_S, upd_e, upd_n, jL_0, jL_1, jL_2, jL_5, jL_6, jL_15, jL_16, jL_63, jI_mul, jI_L, jL_I, jL_add, jL_sub, jL_mul, fX8_fine_35, e1, jL_cmp2, ea]
              refine Ok.s ?_
              simp (disch := omega) only [jI_0, jI_1, jI_2, jI_3, jI_4, jI_5, jI_6, jI_7, jI_8, jI_9, jI_10, jI_11, jI_12, jI_13, jI_14, jI_15, jI_16, jI_20, jI_24, jI_26, jI_30, jI_31, jI_32, jI_40, jI_48, jI_56, jI_57, jI_59, jI_60, jI_97, jI_99, jI_122, jI_160, jI_240, jI_255, jI_768, jI_1000, ↓jN_1, ↓jN_2, ↓jN_3, ↓jN_4, ↓jN_8, ↓jN_10, ↓jN_11, ↓jN_12, ↓jN_14, ↓jN_20, jI_addN, jI_le, jI_lt, jI_eq, jI_cl, jI_in, jI_add, jI_sub, jI_eqN, gI_eqI, gI_eqN, gI_leI, gI_ltI, jI_leN, jI_ltN, gI_sub, pif_tt, pif_ff, pg_tt, isB, or_true, true_or, pif_T, pif_F, pg_T, pb_S, upd_e, upd_n, jL_0, jL_1, jL_2, jL_5, jL_6, jL_15, jL_16, jL_63, jI_mul, jI_L, jL_I, jL_add, jL_sub, jL_mul, fX9_fine_30, e3, e4, jL_cmp2, eb]
              exact Ok.s hab
            · simp (disch := omega) only [jI_0, jI_1, jI_2, jI_3, jI_4, jI_5, jI_6, jI_7, jI_8, jI_9, jI_10, jI_11, jI_12, jI_13, jI_14, jI_15, jI_16, jI_20, jI_24, jI_26, jI_30, jI_31, jI_32, jI_40, jI_48, jI_56, jI_57, jI_59, jI_60, jI_97, jI_99, jI_122, jI_160, jI_240, jI_255, jI_768, jI_1000, ↓jN_1, ↓jN_2, ↓jN_3, ↓jN_4, ↓jN_8, ↓jN_10, ↓jN_11, ↓jN_12, ↓jN_14, ↓jN_20, jI_addN, jI_le, jI_lt, jI_eq, jI_cl, jI_in, jI_add, jI_sub, jI_eqN, gI_eqI, gI_eqN, gI_leI, gI_ltI, jI_leN, jI_ltN, gI_sub, pif_tt, pif_ff, pg_tt, isB, or_true, true_or, pif_T, pif_F, pg_T, pb_S, upd_e, upd_n, jL_0, jL_1, jL_2, jL_5, jL_6, jL_15, jL_16, jL_63, jI_mul, jI_L, jL_I, jL_add, jL_sub, jL_mul, fX8_fine_35, e1, jL_cmp2]
              refine Ok.s ?_
              simp (disch := omega) only [jI_0, jI_1, jI_2, jI_3, jI_4, jI_5, jI_6, jI_7, jI_8, jI_9, jI_10, jI_11, jI_12, jI_13, jI_14, jI_15, jI_16, jI_20, jI_24, jI_26, jI_30, jI_31, jI_32, jI_40, jI_48, jI_56, jI_57, jI_59, jI_60, jI_97, jI_99, jI_122, jI_160, jI_240, jI_255, jI_768, jI_1000, ↓jN_1, ↓jN_2, ↓jN_3, ↓jN_4, ↓jN_8, ↓jN_10, ↓jN_11, ↓jN_12, ↓jN_14, ↓jN_20, jI_addN, jI_le, jI_lt, jI_eq, jI_cl, jI_in, jI_add, jI_sub, jI_eqN, gI_eqI, gI_eqN, gI_leI, gI_ltI, jI_leN, jI_ltN, gI_sub, pif_tt, pif_ff, pg_tt, isB, or_true, true_or, pif_T, pif_F, pg_T, pb_S, upd_e, upd_n, jL_0, jL_1, jL_2, jL_5, jL_6, jL_15, jL_16, jL_63, jI_mul, jI_L, jL_I, jL_add, jL_sub, jL_mul, fX9_fine_30, e3, e4, jL_cmp2]
              exact Ok.s rfl
      obtain ⟨A, ea, B, eb, hab⟩ := both N 0 (by omega) (by omega)
      simp (disch := omega) only [jI_0, jI_1, jI_2, jI_3, jI_4, jI_5, jI_6, jI_7, jI_8, jI_9, jI_10, jI_11, jI_12, jI_13, jI_14, jI_15, jI_16, jI_20, jI_24, jI_26, jI_30, jI_31, jI_32, jI_40, jI_48, jI_56, jI_57, jI_59, jI_60, jI_97, jI_99, jI_122, jI_160, jI_240, jI_255, jI_768, jI_1000, ↓jN_1, ↓jN_2, ↓jN_3, ↓jN_4, ↓jN_8, ↓jN_10, ↓jN_11, ↓jN_12, ↓jN_14, ↓jN_20, jI_addN, jI_le, jI_lt, jI_eq, jI_cl, jI_in, jI_add, jI_sub, jI_eqN, gI_eqI, gI_eqN, gI_leI, gI_ltI, jI_leN, jI_ltN, gI_sub, pif_tt, pif_ff, pg_tt, isB, or_true, true_or, pif_T, pif_F, pg_T, pb_S, upd_e, upd_n, fX8_fine, e2, ea]
      refine Ok.s ?_
      simp (disch := omega) only [jI_0, jI_1, jI_2, jI_3, jI_4, jI_5, jI_6, jI_7, jI_8, jI_9, jI_10, jI_11, jI_12, jI_13, jI_14, jI_15, jI_16, jI_20, jI_24, jI_26, jI_30, jI_31, jI_32, jI_40, jI_48, jI_56, jI_57, jI_59, jI_60, jI_97, jI_99, jI_122, jI_160, jI_240, jI_255, jI_768, jI_1000, ↓jN_1, ↓jN_2, ↓jN_3, ↓jN_4, ↓jN_8, ↓jN_10, ↓jN_11, ↓jN_12, ↓jN_14, ↓jN_20, jI_addN, jI_le, jI_lt, jI_eq, jI_cl, jI_in, jI_add, jI_sub, jI_eqN, gI_eqI, gI_eqN, gI_leI, gI_ltI, jI_leN, jI_ltN, gI_sub, pif_tt, pif_ff, pg_tt, isB, or_true, true_or, pif_T, pif_F, pg_T, pb_S, upd_e, upd_n, jL_0, jL_1, jL_2, jL_5, jL_6, jL_15, jL_16, jL_63, jI_mul, jI_L, jL_I, jL_add, jL_sub, jL_mul, fX9_fine, show (20 : Int64) = jL 20 from rfl, show (1000 : Int64) = jL 1000 from rfl, i1, i2, eb]
      exact Ok.s hab
    · rcases hc2 with hneg | ⟨k, rfl, hk4, hk5⟩
      · simp (disch := omega) only [jI_0, jI_1, jI_2, jI_3, jI_4, jI_5, jI_6, jI_7, jI_8, jI_9, jI_10, jI_11, jI_12, jI_13, jI_14, jI_15, jI_16, jI_20, jI_24, jI_26, jI_30, jI_31, jI_32, jI_40, jI_48, jI_56, jI_57, jI_59, jI_60, jI_97, jI_99, jI_122, jI_160, jI_240, jI_255, jI_768, jI_1000, ↓jN_1, ↓jN_2, ↓jN_3, ↓jN_4, ↓jN_8, ↓jN_10, ↓jN_11, ↓jN_12, ↓jN_14, ↓jN_20, jI_addN, jI_le, jI_lt, jI_eq, jI_cl, jI_in, jI_add, jI_sub, jI_eqN, gI_eqI, gI_eqN, gI_leI, gI_ltI, jI_leN, jI_ltN, gI_sub, pif_tt, pif_ff, pg_tt, isB, or_true, true_or, pif_T, pif_F, pg_T, pb_S, upd_e, upd_n, fX8_fine, fX8_fine_23, hneg]
        refine Ok.s ?_
        simp (disch := omega) only [jI_0, jI_1, jI_2, jI_3, jI_4, jI_5, jI_6, jI_7, jI_8, jI_9, jI_10, jI_11, jI_12, jI_13, jI_14, jI_15, jI_16, jI_20, jI_24, jI_26, jI_30, jI_31, jI_32, jI_40, jI_48, jI_56, jI_57, jI_59, jI_60, jI_97, jI_99, jI_122, jI_160, jI_240, jI_255, jI_768, jI_1000, ↓jN_1, ↓jN_2, ↓jN_3, ↓jN_4, ↓jN_8, ↓jN_10, ↓jN_11, ↓jN_12, ↓jN_14, ↓jN_20, jI_addN, jI_le, jI_lt, jI_eq, jI_cl, jI_in, jI_add, jI_sub, jI_eqN, gI_eqI, gI_eqN, gI_leI, gI_ltI, jI_leN, jI_ltN, gI_sub, pif_tt, pif_ff, pg_tt, isB, or_true, true_or, pif_T, pif_F, pg_T, pb_S, upd_e, upd_n, jL_0, jL_1, jL_2, jL_5, jL_6, jL_15, jL_16, jL_63, jI_mul, jI_L, jL_I, jL_add, jL_sub, jL_mul, fX9_fine, fX9_fine_26, show (20 : Int64) = jL 20 from rfl, show (1000 : Int64) = jL 1000 from rfl, i1, i2]
        exact Ok.s rfl
      · rw [jI_L hk5] at i2
        simp (disch := omega) only [jI_0, jI_1, jI_2, jI_3, jI_4, jI_5, jI_6, jI_7, jI_8, jI_9, jI_10, jI_11, jI_12, jI_13, jI_14, jI_15, jI_16, jI_20, jI_24, jI_26, jI_30, jI_31, jI_32, jI_40, jI_48, jI_56, jI_57, jI_59, jI_60, jI_97, jI_99, jI_122, jI_160, jI_240, jI_255, jI_768, jI_1000, ↓jN_1, ↓jN_2, ↓jN_3, ↓jN_4, ↓jN_8, ↓jN_10, ↓jN_11, ↓jN_12, ↓jN_14, ↓jN_20, jI_addN, jI_le, jI_lt, jI_eq, jI_cl, jI_in, jI_add, jI_sub, jI_eqN, gI_eqI, gI_eqN, gI_leI, gI_ltI, jI_leN, jI_ltN, gI_sub, pif_tt, pif_ff, pg_tt, isB, or_true, true_or, pif_T, pif_F, pg_T, pb_S, upd_e, upd_n, fX8_fine, fX8_fine_23]
        refine Ok.s ?_
        simp (disch := omega) only [jI_0, jI_1, jI_2, jI_3, jI_4, jI_5, jI_6, jI_7, jI_8, jI_9, jI_10, jI_11, jI_12, jI_13, jI_14, jI_15, jI_16, jI_20, jI_24, jI_26, jI_30, jI_31, jI_32, jI_40, jI_48, jI_56, jI_57, jI_59, jI_60, jI_97, jI_99, jI_122, jI_160, jI_240, jI_255, jI_768, jI_1000, ↓jN_1, ↓jN_2, ↓jN_3, ↓jN_4, ↓jN_8, ↓jN_10, ↓jN_11, ↓jN_12, ↓jN_14, ↓jN_20, jI_addN, jI_le, jI_lt, jI_eq, jI_cl, jI_in, jI_add, jI_sub, jI_eqN, gI_eqI, gI_eqN, gI_leI, gI_ltI, jI_leN, jI_ltN, gI_sub, pif_tt, pif_ff, pg_tt, isB, or_true, true_or, pif_T, pif_F, pg_T, pb_S, upd_e, upd_n, jL_0, jL_1, jL_2, jL_5, jL_6, jL_15, jL_16, jL_63, jI_mul, jI_L, jL_I, jL_add, jL_sub, jL_mul, fX9_fine, fX9_fine_26, show (20 : Int64) = jL 20 from rfl, show (1000 : Int64) = jL 1000 from rfl, i1, i2]
        exact Ok.s rfl
  · rcases hcc with hneg | ⟨k, rfl, hk4, hk5⟩
    · simp (disch := omega) only [jI_0, jI_1, jI_2, jI_3, jI_4, jI_5, jI_6, jI_7, jI_8, jI_9, jI_10, jI_11, jI_12, jI_13, jI_14, jI_15, jI_16, jI_20, jI_24, jI_26, jI_30, jI_31, jI_32, jI_40, jI_48, jI_56, jI_57, jI_59, jI_60, jI_97, jI_99, jI_122, jI_160, jI_240, jI_255, jI_768, jI_1000, ↓jN_1, ↓jN_2, ↓jN_3, ↓jN_4, ↓jN_8, ↓jN_10, ↓jN_11, ↓jN_12, ↓jN_14, ↓jN_20, jI_addN, jI_le, jI_lt, jI_eq, jI_cl, jI_in, jI_add, jI_sub, jI_eqN, gI_eqI, gI_eqN, gI_leI, gI_ltI, jI_leN, jI_ltN, gI_sub, pif_tt, pif_ff, pg_tt, isB, or_true, true_or, pif_T, pif_F, pg_T, pb_S, upd_e, upd_n, fX8_fine, fX8_fine_23, hneg]
      refine Ok.s ?_
      simp (disch := omega) only [jI_0, jI_1, jI_2, jI_3, jI_4, jI_5, jI_6, jI_7, jI_8, jI_9, jI_10, jI_11, jI_12, jI_13, jI_14, jI_15, jI_16, jI_20, jI_24, jI_26, jI_30, jI_31, jI_32, jI_40, jI_48, jI_56, jI_57, jI_59, jI_60, jI_97, jI_99, jI_122, jI_160, jI_240, jI_255, jI_768, jI_1000, ↓jN_1, ↓jN_2, ↓jN_3, ↓jN_4, ↓jN_8, ↓jN_10, ↓jN_11, ↓jN_12, ↓jN_14, ↓jN_20, jI_addN, jI_le, jI_lt, jI_eq, jI_cl, jI_in, jI_add, jI_sub, jI_eqN, gI_eqI, gI_eqN, gI_leI, gI_ltI, jI_leN, jI_ltN, gI_sub, pif_tt, pif_ff, pg_tt, isB, or_true, true_or, pif_T, pif_F, pg_T, pb_S, upd_e, upd_n, jL_0, jL_1, jL_2, jL_5, jL_6, jL_15, jL_16, jL_63, jI_mul, jI_L, jL_I, jL_add, jL_sub, jL_mul, fX9_fine, fX9_fine_26, show (20 : Int64) = jL 20 from rfl, i1]
      exact Ok.s rfl
    · rw [jI_L hk5] at i1
      simp (disch := omega) only [jI_0, jI_1, jI_2, jI_3, jI_4, jI_5, jI_6, jI_7, jI_8, jI_9, jI_10, jI_11, jI_12, jI_13, jI_14, jI_15, jI_16, jI_20, jI_24, jI_26, jI_30, jI_31, jI_32, jI_40, jI_48, jI_56, jI_57, jI_59, jI_60, jI_97, jI_99, jI_122, jI_160, jI_240, jI_255, jI_768, jI_1000, ↓jN_1, ↓jN_2, ↓jN_3, ↓jN_4, ↓jN_8, ↓jN_10, ↓jN_11, ↓jN_12, ↓jN_14, ↓jN_20, jI_addN, jI_le, jI_lt, jI_eq, jI_cl, jI_in, jI_add, jI_sub, jI_eqN, gI_eqI, gI_eqN, gI_leI, gI_ltI, jI_leN, jI_ltN, gI_sub, pif_tt, pif_ff, pg_tt, isB, or_true, true_or, pif_T, pif_F, pg_T, pb_S, upd_e, upd_n, fX8_fine, fX8_fine_23]
      refine Ok.s ?_
      simp (disch := omega) only [jI_0, jI_1, jI_2, jI_3, jI_4, jI_5, jI_6, jI_7, jI_8, jI_9, jI_10, jI_11, jI_12, jI_13, jI_14, jI_15, jI_16, jI_20, jI_24, jI_26, jI_30, jI_31, jI_32, jI_40, jI_48, jI_56, jI_57, jI_59, jI_60, jI_97, jI_99, jI_122, jI_160, jI_240, jI_255, jI_768, jI_1000, ↓jN_1, ↓jN_2, ↓jN_3, ↓jN_4, ↓jN_8, ↓jN_10, ↓jN_11, ↓jN_12, ↓jN_14, ↓jN_20, jI_addN, jI_le, jI_lt, jI_eq, jI_cl, jI_in, jI_add, jI_sub, jI_eqN, gI_eqI, gI_eqN, gI_leI, gI_ltI, jI_leN, jI_ltN, gI_sub, pif_tt, pif_ff, pg_tt, isB, or_true, true_or, pif_T, pif_F, pg_T, pb_S, upd_e, upd_n, jL_0, jL_1, jL_2, jL_5, jL_6, jL_15, jL_16, jL_63, jI_mul, jI_L, jL_I, jL_add, jL_sub, jL_mul, fX9_fine, fX9_fine_26, show (20 : Int64) = jL 20 from rfl, i1]
      exact Ok.s rfl
end
