/-! THE LAW'S RUN. -/
section
variable {N L : Nat} {xs : Nat → Int32} {u w : UX}
theorem l_0 {kk : Int32 → UX → UX → Option Int32} {k : Nat} (hN : 1000 ≤ N) (hL : L ≤ 3072) (hk6 : k + 6 ≤ L) (hI : Inv u w) (hk : ∀ u w, Inv u w → kk (jI (k + 6)) u w = some 1) : fL_c0 N L xs kk (jI k) u w = some 1 := by
  unfold fL_c0
  simp (disch := omega) only [ja_1, ja_2, ja_3, ja_4, ja_5, ja_6, jI_in, jI_cl, pg_T]
  exact cmpI (i_feed hN _ hI) hk
theorem l_1 {kk : Int32 → UX → UX → Option Int32} {k : Nat} (hN : 1000 ≤ N) (hL : L ≤ 3072) (hk6 : k + 6 ≤ L) (hI : Inv u w) (hk : ∀ u w, Inv u w → kk (jI (k + 6)) u w = some 1) : fL_c1 N L xs kk (jI k) u w = some 1 := by
  unfold fL_c1
  simp (disch := omega) only [ja_1, ja_2, ja_3, ja_4, ja_5, ja_6, jI_in, jI_cl, pg_T]
  exact cmpI (i_end hN _ hI) hk
theorem l_2 {kk : Int32 → UX → UX → Option Int32} {k : Nat} (hN : 1000 ≤ N) (hL : L ≤ 3072) (hk6 : k + 6 ≤ L) (hI : Inv u w) (hk : ∀ u w, Inv u w → kk (jI (k + 6)) u w = some 1) : fL_c2 N L xs kk (jI k) u w = some 1 := by
  unfold fL_c2
  simp (disch := omega) only [ja_1, ja_2, ja_3, ja_4, ja_5, ja_6, jI_in, jI_cl, pg_T]
  exact cmpI (i_text hN hI) hk
theorem l_3 {kk : Int32 → UX → UX → Option Int32} {k : Nat} (hN : 1000 ≤ N) (hL : L ≤ 3072) (hk6 : k + 6 ≤ L) (hI : Inv u w) (hk : ∀ u w, Inv u w → kk (jI (k + 6)) u w = some 1) : fL_c3 N L xs kk (jI k) u w = some 1 := by
  unfold fL_c3
  simp (disch := omega) only [ja_1, ja_2, ja_3, ja_4, ja_5, ja_6, jI_in, jI_cl, pg_T]
  exact cmpI (i_fault hN hI) hk
theorem l_4 {kk : Int32 → UX → UX → Option Int32} {k : Nat} (hN : 1000 ≤ N) (hL : L ≤ 3072) (hk6 : k + 6 ≤ L) (hI : Inv u w) (hk : ∀ u w, Inv u w → kk (jI (k + 6)) u w = some 1) : fL_c4 N L xs kk (jI k) u w = some 1 := by
  unfold fL_c4
  simp (disch := omega) only [ja_1, ja_2, ja_3, ja_4, ja_5, ja_6, jI_in, jI_cl, pg_T]
  exact cmpI (i_rule hN _ hI) hk
theorem l_5 {kk : Int32 → UX → UX → Option Int32} {k : Nat} (hN : 1000 ≤ N) (hL : L ≤ 3072) (hk6 : k + 6 ≤ L) (hI : Inv u w) (hk : ∀ u w, Inv u w → kk (jI (k + 6)) u w = some 1) : fL_c5 N L xs kk (jI k) u w = some 1 := by
  unfold fL_c5
  simp (disch := omega) only [ja_1, ja_2, ja_3, ja_4, ja_5, ja_6, jI_in, jI_cl, pg_T]
  exact cmpI (i_game hN _ _ hI) hk
theorem l_6 {kk : Int32 → UX → UX → Option Int32} {k : Nat} (hN : 1000 ≤ N) (hL : L ≤ 3072) (hk6 : k + 6 ≤ L) (hI : Inv u w) (hk : ∀ u w, Inv u w → kk (jI (k + 6)) u w = some 1) : fL_c6 N L xs kk (jI k) u w = some 1 := by
  unfold fL_c6
  simp (disch := omega) only [ja_1, ja_2, ja_3, ja_4, ja_5, ja_6, jI_in, jI_cl, pg_T]
  exact cmpI (i_of hN _ _ hI) hk
theorem l_7 {kk : Int32 → UX → UX → Option Int32} {k : Nat} (hN : 1000 ≤ N) (hL : L ≤ 3072) (hk6 : k + 6 ≤ L) (hI : Inv u w) (hk : ∀ u w, Inv u w → kk (jI (k + 6)) u w = some 1) : fL_c7 N L xs kk (jI k) u w = some 1 := by
  unfold fL_c7
  simp (disch := omega) only [ja_1, ja_2, ja_3, ja_4, ja_5, ja_6, jI_in, jI_cl, pg_T]
  exact cmpI (i_ends hN _ _ hI) hk
theorem l_8 {kk : Int32 → UX → UX → Option Int32} {k : Nat} (hN : 1000 ≤ N) (hL : L ≤ 3072) (hk6 : k + 6 ≤ L) (hI : Inv u w) (hk : ∀ u w, Inv u w → kk (jI (k + 6)) u w = some 1) : fL_c8 N L xs kk (jI k) u w = some 1 := by
  unfold fL_c8
  simp (disch := omega) only [ja_1, ja_2, ja_3, ja_4, ja_5, ja_6, jI_in, jI_cl, pg_T]
  exact cmpI (i_table hN _ _ hI) hk
theorem l_9 {kk : Int32 → UX → UX → Option Int32} {k : Nat} (hN : 1000 ≤ N) (hL : L ≤ 3072) (hk6 : k + 6 ≤ L) (hI : Inv u w) (hk : ∀ u w, Inv u w → kk (jI (k + 6)) u w = some 1) : fL_c9 N L xs kk (jI k) u w = some 1 := by
  unfold fL_c9
  simp (disch := omega) only [ja_1, ja_2, ja_3, ja_4, ja_5, ja_6, jI_in, jI_cl, pg_T]
  exact cmpI (i_may hN _ _ hI) hk
theorem l_10 {kk : Int32 → UX → UX → Option Int32} {k : Nat} (hN : 1000 ≤ N) (hL : L ≤ 3072) (hk6 : k + 6 ≤ L) (hI : Inv u w) (hk : ∀ u w, Inv u w → kk (jI (k + 6)) u w = some 1) : fL_c10 N L xs kk (jI k) u w = some 1 := by
  unfold fL_c10
  simp (disch := omega) only [ja_1, ja_2, ja_3, ja_4, ja_5, ja_6, jI_in, jI_cl, pg_T]
  exact cmpI (i_out hN _ hI) hk
theorem l_11 {kk : Int32 → UX → UX → Option Int32} {k : Nat} (hN : 1000 ≤ N) (hL : L ≤ 3072) (hk6 : k + 6 ≤ L) (hI : Inv u w) (hk : ∀ u w, Inv u w → kk (jI (k + 6)) u w = some 1) : fL_c11 N L xs kk (jI k) u w = some 1 := by
  unfold fL_c11
  simp (disch := omega) only [ja_1, ja_2, ja_3, ja_4, ja_5, ja_6, jI_in, jI_cl, pg_T]
  exact cmpI (i_chooses hN _ _ hI) hk
theorem l_12 {kk : Int32 → UX → UX → Option Int32} {k : Nat} (hN : 1000 ≤ N) (hL : L ≤ 3072) (hk6 : k + 6 ≤ L) (hI : Inv u w) (hk : ∀ u w, Inv u w → kk (jI (k + 6)) u w = some 1) : fL_c12 N L xs kk (jI k) u w = some 1 := by
  unfold fL_c12
  simp (disch := omega) only [ja_1, ja_2, ja_3, ja_4, ja_5, ja_6, jI_in, jI_cl, pg_T]
  exact cmpI (i_pay hN _ _ hI) hk
theorem l_13 {kk : Int32 → UX → UX → Option Int32} {k : Nat} (hN : 1000 ≤ N) (hL : L ≤ 3072) (hk6 : k + 6 ≤ L) (hI : Inv u w) (hk : ∀ u w, Inv u w → kk (jI (k + 6)) u w = some 1) : fL_c13 N L xs kk (jI k) u w = some 1 := by
  unfold fL_c13
  simp (disch := omega) only [ja_1, ja_2, ja_3, ja_4, ja_5, ja_6, jI_in, jI_cl, pg_T]
  exact cmpL (i_worth hN _ _ hI) hk
theorem l_14 {kk : Int32 → UX → UX → Option Int32} {k : Nat} (hN : 1000 ≤ N) (hL : L ≤ 3072) (hk6 : k + 6 ≤ L) (hI : Inv u w) (hk : ∀ u w, Inv u w → kk (jI (k + 6)) u w = some 1) : fL_c14 N L xs kk (jI k) u w = some 1 := by
  unfold fL_c14
  by_cases h : xs (k + 3) = 0
  · simp (disch := omega) only [ja_1, ja_2, ja_3, ja_4, ja_5, ja_6, jI_in, jI_cl, pg_T, h, eq_self, pif_tt]
    exact cmpL (i_worthIf hN (wn := 0) (by omega) _ _ _ hI) hk
  · simp (disch := omega) only [ja_1, ja_2, ja_3, ja_4, ja_5, ja_6, jI_in, jI_cl, pg_T, h, pif_ff]
    exact cmpL (i_worthIf hN (wn := 1) (by omega) _ _ _ hI) hk
theorem l_15 {kk : Int32 → UX → UX → Option Int32} {k : Nat} (hN : 1000 ≤ N) (hL : L ≤ 3072) (hk6 : k + 6 ≤ L) (hI : Inv u w) (hk : ∀ u w, Inv u w → kk (jI (k + 6)) u w = some 1) : fL_c15 N L xs kk (jI k) u w = some 1 := by
  unfold fL_c15
  simp (disch := omega) only [ja_1, ja_2, ja_3, ja_4, ja_5, ja_6, jI_in, jI_cl, pg_T]
  exact cmpI (i_wants hN _ hI) hk
theorem l_16 {kk : Int32 → UX → UX → Option Int32} {k : Nat} (hN : 1000 ≤ N) (hL : L ≤ 3072) (hk6 : k + 6 ≤ L) (hI : Inv u w) (hk : ∀ u w, Inv u w → kk (jI (k + 6)) u w = some 1) : fL_c16 N L xs kk (jI k) u w = some 1 := by
  unfold fL_c16
  simp (disch := omega) only [ja_1, ja_2, ja_3, ja_4, ja_5, ja_6, jI_in, jI_cl, pg_T]
  exact cmpI (i_lose hN _ _ hI) hk
theorem l_17 {kk : Int32 → UX → UX → Option Int32} {k : Nat} (hN : 1000 ≤ N) (hL : L ≤ 3072) (hk6 : k + 6 ≤ L) (hI : Inv u w) (hk : ∀ u w, Inv u w → kk (jI (k + 6)) u w = some 1) : fL_c17 N L xs kk (jI k) u w = some 1 := by
  unfold fL_c17
  simp (disch := omega) only [ja_1, ja_2, ja_3, ja_4, ja_5, ja_6, jI_in, jI_cl, pg_T]
  exact cmpL (i_odds hN _ _ _ hI) hk
theorem l_18 {kk : Int32 → UX → UX → Option Int32} {k : Nat} (hN : 1000 ≤ N) (hL : L ≤ 3072) (hk6 : k + 6 ≤ L) (hI : Inv u w) (hk : ∀ u w, Inv u w → kk (jI (k + 6)) u w = some 1) : fL_c18 N L xs kk (jI k) u w = some 1 := by
  unfold fL_c18
  simp (disch := omega) only [ja_1, ja_2, ja_3, ja_4, ja_5, ja_6, jI_in, jI_cl, pg_T]
  exact cmpI (i_play hN _ hI) hk
theorem l_19 {kk : Int32 → UX → UX → Option Int32} {k : Nat} (hN : 1000 ≤ N) (hL : L ≤ 3072) (hk6 : k + 6 ≤ L) (hI : Inv u w) (hk : ∀ u w, Inv u w → kk (jI (k + 6)) u w = some 1) : fL_c19 N L xs kk (jI k) u w = some 1 := by
  unfold fL_c19
  simp (disch := omega) only [ja_1, ja_2, ja_3, ja_4, ja_5, ja_6, jI_in, jI_cl, pg_T]
  exact cmpL (i_played hN _ _ hI) hk
theorem l_20 {kk : Int32 → UX → UX → Option Int32} {k : Nat} (hN : 1000 ≤ N) (hL : L ≤ 3072) (hk6 : k + 6 ≤ L) (hI : Inv u w) (hk : ∀ u w, Inv u w → kk (jI (k + 6)) u w = some 1) : fL_c20 N L xs kk (jI k) u w = some 1 := by
  unfold fL_c20
  simp (disch := omega) only [ja_1, ja_2, ja_3, ja_4, ja_5, ja_6, jI_in, jI_cl, pg_T]
  exact cmpI (i_pays hN _ hI) hk
theorem l_21 {kk : Int32 → UX → UX → Option Int32} {k : Nat} (hN : 1000 ≤ N) (hL : L ≤ 3072) (hk6 : k + 6 ≤ L) (hI : Inv u w) (hk : ∀ u w, Inv u w → kk (jI (k + 6)) u w = some 1) : fL_c21 N L xs kk (jI k) u w = some 1 := by
  unfold fL_c21
  simp (disch := omega) only [ja_1, ja_2, ja_3, ja_4, ja_5, ja_6, jI_in, jI_cl, pg_T]
  exact cmpI (i_years hN _ _ _ hI) hk
theorem l_22 {kk : Int32 → UX → UX → Option Int32} {k : Nat} (hN : 1000 ≤ N) (hL : L ≤ 3072) (hk6 : k + 6 ≤ L) (hI : Inv u w) (hk : ∀ u w, Inv u w → kk (jI (k + 6)) u w = some 1) : fL_c22 N L xs kk (jI k) u w = some 1 := by
  unfold fL_c22
  simp (disch := omega) only [ja_1, ja_2, ja_3, ja_4, ja_5, ja_6, jI_in, jI_cl, pg_T]
  exact cmpL (i_thumbs hN _ _ _ hI) hk
theorem l_23 {kk : Int32 → UX → UX → Option Int32} {k : Nat} (hN : 1000 ≤ N) (hL : L ≤ 3072) (hk6 : k + 6 ≤ L) (hI : Inv u w) (hk : ∀ u w, Inv u w → kk (jI (k + 6)) u w = some 1) : fL_c23 N L xs kk (jI k) u w = some 1 := by
  unfold fL_c23
  simp (disch := omega) only [ja_1, ja_2, ja_3, ja_4, ja_5, ja_6, jI_in, jI_cl, pg_T]
  exact cmpI (i_fine hN _ _ hI) hk
theorem l_24 {kk : Int32 → UX → UX → Option Int32} {k : Nat} (hN : 1000 ≤ N) (hL : L ≤ 3072) (hk6 : k + 6 ≤ L) (hI : Inv u w) (hk : ∀ u w, Inv u w → kk (jI (k + 6)) u w = some 1) : fL_c24 N L xs kk (jI k) u w = some 1 := by
  unfold fL_c24
  simp (disch := omega) only [ja_1, ja_2, ja_3, ja_4, ja_5, ja_6, jI_in, jI_cl, pg_T]
  exact cmpI (i_sheet hN _ _ _ hI) hk
theorem l_25 {kk : Int32 → UX → UX → Option Int32} {k : Nat} (hN : 1000 ≤ N) (hL : L ≤ 3072) (hk6 : k + 6 ≤ L) (hI : Inv u w) (hk : ∀ u w, Inv u w → kk (jI (k + 6)) u w = some 1) : fL_c25 N L xs kk (jI k) u w = some 1 := by
  unfold fL_c25
  simp (disch := omega) only [ja_1, ja_2, ja_3, ja_4, ja_5, ja_6, jI_in, jI_cl, pg_T]
  exact cmpI (i_lay hN _ _ _ hI) hk
theorem l_26 {kk : Int32 → UX → UX → Option Int32} {k : Nat} (hN : 1000 ≤ N) (hL : L ≤ 3072) (hk6 : k + 6 ≤ L) (hI : Inv u w) (hk : ∀ u w, Inv u w → kk (jI (k + 6)) u w = some 1) : fL_c26 N L xs kk (jI k) u w = some 1 := by
  unfold fL_c26
  simp (disch := omega) only [ja_1, ja_2, ja_3, ja_4, ja_5, ja_6, jI_in, jI_cl, pg_T]
  exact cmpI (i_read hN _ _ _ _ _ hI) hk
theorem l_27 {kk : Int32 → UX → UX → Option Int32} {k : Nat} (hN : 1000 ≤ N) (hL : L ≤ 3072) (hk6 : k + 6 ≤ L) (hI : Inv u w) (hk : ∀ u w, Inv u w → kk (jI (k + 6)) u w = some 1) : fL_c27 N L xs kk (jI k) u w = some 1 := by
  unfold fL_c27
  simp (disch := omega) only [ja_1, ja_2, ja_3, ja_4, ja_5, ja_6, jI_in, jI_cl, pg_T]
  exact cmpI (i_torn hN hI) hk
theorem l_28 {kk : Int32 → UX → UX → Option Int32} {k : Nat} (hN : 1000 ≤ N) (hL : L ≤ 3072) (hk6 : k + 6 ≤ L) (hI : Inv u w) (hk : ∀ u w, Inv u w → kk (jI (k + 6)) u w = some 1) : fL_c28 N L xs kk (jI k) u w = some 1 := by
  unfold fL_c28
  simp (disch := omega) only [ja_1, ja_2, ja_3, ja_4, ja_5, ja_6, jI_in, jI_cl, pg_T]
  exact cmpI (i_count hN _ hI) hk
theorem lt6 {L k : Nat} (hL : L ≤ 3072) (hk : k ≤ 3072) : (Int32.ofNat L - 6 < jI k) = (L < k + 6) := by
  by_cases h : 6 ≤ L
  · rw [show Int32.ofNat L - 6 = jI (L - 6) from jI_sub (a := L) (b := 6) h, jI_lt (by omega) (by omega), eq_iff_iff]; omega
  · have : L = 0 ∨ L = 1 ∨ L = 2 ∨ L = 3 ∨ L = 4 ∨ L = 5 := by omega
    have h2 : Int32.ofNat L - 6 = gI (6 - L) := by rcases this with rfl | rfl | rfl | rfl | rfl | rfl <;> decide
    rw [h2, gI_ltI (by omega) (by omega), eq_iff_iff]; omega
theorem fL_ok (hN : 1000 ≤ N) (hL : L ≤ 3072) : ∀ n k (u w : UX), Inv u w → k ≤ L → L < k + 6 * n → fL N L xs n (jI k) u w = some 1 := by
  intro n
  induction n with
  | zero => intro k u w hI h1 h2; omega
  | succ n ih =>
    intro k u w hI h1 h2
    have hc := lt6 hL (show k ≤ 3072 by omega)
    rw [fL]
    by_cases h : L < k + 6
    · exact pif_T (by rw [hc]; exact h)
    · have hk6 : k + 6 ≤ L := by omega
      have hk : ∀ u w, Inv u w → fL N L xs n (jI (k + 6)) u w = some 1 := fun u w hI => ih (k + 6) u w hI (by omega) (by omega)
      rw [pif_F (show ¬ (Int32.ofNat L - 6 < jI k) by rw [hc]; exact h), pg_T (show inr (jI k) L by rw [jI_in (by omega)]; omega)]
      refine pif_i (l_0 hN hL hk6 hI hk) ?_
      refine pif_i (l_1 hN hL hk6 hI hk) ?_
      refine pif_i (l_2 hN hL hk6 hI hk) ?_
      refine pif_i (l_3 hN hL hk6 hI hk) ?_
      refine pif_i (l_4 hN hL hk6 hI hk) ?_
      refine pif_i (l_5 hN hL hk6 hI hk) ?_
      refine pif_i (l_6 hN hL hk6 hI hk) ?_
      refine pif_i (l_7 hN hL hk6 hI hk) ?_
      refine pif_i (l_8 hN hL hk6 hI hk) ?_
      refine pif_i (l_9 hN hL hk6 hI hk) ?_
      refine pif_i (l_10 hN hL hk6 hI hk) ?_
      refine pif_i (l_11 hN hL hk6 hI hk) ?_
      refine pif_i (l_12 hN hL hk6 hI hk) ?_
      refine pif_i (l_13 hN hL hk6 hI hk) ?_
      refine pif_i (l_14 hN hL hk6 hI hk) ?_
      refine pif_i (l_15 hN hL hk6 hI hk) ?_
      refine pif_i (l_16 hN hL hk6 hI hk) ?_
      refine pif_i (l_17 hN hL hk6 hI hk) ?_
      refine pif_i (l_18 hN hL hk6 hI hk) ?_
      refine pif_i (l_19 hN hL hk6 hI hk) ?_
      refine pif_i (l_20 hN hL hk6 hI hk) ?_
      refine pif_i (l_21 hN hL hk6 hI hk) ?_
      refine pif_i (l_22 hN hL hk6 hI hk) ?_
      refine pif_i (l_23 hN hL hk6 hI hk) ?_
      refine pif_i (l_24 hN hL hk6 hI hk) ?_
      refine pif_i (l_25 hN hL hk6 hI hk) ?_
      refine pif_i (l_26 hN hL hk6 hI hk) ?_
      refine pif_i (l_27 hN hL hk6 hI hk) ?_
      refine pif_i (l_28 hN hL hk6 hI hk) ?_
      rw [ja_6]; exact hk u w hI
end
