/-! TOKENS: what they are; the class. -/
def rn (q : Nat → Bool) : Nat → Nat → Nat
  | 0, p => p
  | k + 1, p => if q p then rn q k (p + 1) else p
def rnE (q : Nat → Bool) (t p : Nat) : Nat := rn q (t - p) p
theorem rnE_go {q : Nat → Bool} {t p : Nat} (h : p < t) (hq : q p = true) : rnE q t p = rnE q t (p + 1) := by
  unfold rnE
  rw [show t - p = (t - (p + 1)) + 1 by omega]
  simp only [rn, hq, if_true]
theorem rnE_end {q : Nat → Bool} {t p : Nat} (h : t ≤ p) : rnE q t p = p := by
  unfold rnE
  rw [show t - p = 0 by omega]; rfl
theorem rnE_no {q : Nat → Bool} {t p : Nat} (hq : q p = false) : rnE q t p = p := by
  by_cases h : t ≤ p
  · exact rnE_end h
  · unfold rnE
    rw [show t - p = (t - (p + 1)) + 1 by omega]
    simp only [rn, hq, Bool.false_eq_true, if_false]
theorem rn_ge (q : Nat → Bool) : ∀ k p, p ≤ rn q k p ∧ rn q k p ≤ p + k := by
  intro k
  induction k with
  | zero => intro p; exact ⟨Nat.le_refl _, Nat.le_refl _⟩
  | succ k ih =>
    intro p
    simp only [rn]
    have := ih (p + 1)
    split <;> omega
theorem rnE_ge (q : Nat → Bool) (t p : Nat) : p ≤ rnE q t p := (rn_ge q _ p).1
theorem rnE_le {q : Nat → Bool} {t p : Nat} (h : p ≤ t) : rnE q t p ≤ t := by
  have := (rn_ge q (t - p) p).2
  unfold rnE; omega
theorem rn_at (q : Nat → Bool) : ∀ k p, rn q k p < p + k → q (rn q k p) = false := by
  intro k
  induction k with
  | zero => intro p h; simp [rn] at h
  | succ k ih =>
    intro p h
    simp only [rn] at h ⊢
    cases hq : q p
    · simp [hq]
    · simp only [hq, if_true] at h ⊢
      exact ih (p + 1) (by omega)
theorem rnE_at {q : Nat → Bool} {t p : Nat} (h : rnE q t p < t) : q (rnE q t p) = false := by
  refine rn_at q (t - p) p ?_
  have := rnE_ge q t p
  unfold rnE at *; omega
def isS (tp : Nat → Nat) (k : Nat) : Bool := decide (tp k = 32)
def isL (tp : Nat → Nat) (k : Nat) : Bool := decide (97 ≤ tp k ∧ tp k ≤ 122)
def isF (tp : Nat → Nat) (k : Nat) : Bool := decide (48 ≤ tp k ∧ tp k ≤ 57)
def chS : List (List Nat) := [[115, 105, 100, 101, 115], [115, 116, 114, 101, 110, 103, 116, 104], [112, 108, 97, 99, 101], [99, 104, 111, 105, 99, 101], [114, 117, 108, 101], [98, 97, 108, 108, 115], [119, 104, 101, 101, 108], [114, 111, 117, 110, 100], [119, 111, 114, 115, 116], [100, 97, 121], [97, 108, 105, 107, 101]]
def chN2 (w i : Nat) : Nat := (chS.getD w []).getD i 0
def lnN (w : Nat) : Nat := lenS.getD w 0
theorem w_all : ∀ w, w < 11 → slen w = jI (lnN w) ∧ wrd (jI w) = w ∧ 3 ≤ lnN w ∧ lnN w ≤ 8 ∧ (∀ i, i < 8 → i < lnN w → schr w (jI i) = jI (chN2 w i) ∧ 97 ≤ chN2 w i ∧ chN2 w i ≤ 122) := by decide +kernel
theorem w_uni : ∀ w, w < 11 → ∀ v, v < 11 → lnN w = lnN v → (∀ i, i < 8 → i < lnN w → chN2 w i = chN2 v i) → w = v := by decide +kernel
/-- the bytes from a to e are the word w -/
def wm (tp : Nat → Nat) (a e w : Nat) : Bool := decide (e - a = lnN w ∧ cnt (lnN w) (fun i => !decide (tp (a + i) = chN2 w i)) = 0)
theorem cnt0 {m : Nat} {p : Nat → Bool} (h : cnt m p = 0) : ∀ i, i < m → p i = false := by
  intro i hi
  cases hp : p i
  · rfl
  · have := cnt_pos hi hp; omega
theorem wm_ch {tp : Nat → Nat} {a e w : Nat} (h : wm tp a e w = true) : e - a = lnN w ∧ ∀ i, i < lnN w → tp (a + i) = chN2 w i := by
  simp only [wm, decide_eq_true_eq] at h
  refine ⟨h.1, fun i hi => ?_⟩
  have := cnt0 h.2 i hi
  simpa using this
theorem wm_uni {tp : Nat → Nat} {a e w v : Nat} (hw : w < 11) (hv : v < 11) (h1 : wm tp a e w = true) (h2 : wm tp a e v = true) : w = v := by
  obtain ⟨a1, a2⟩ := wm_ch h1
  obtain ⟨b1, b2⟩ := wm_ch h2
  refine w_uni w hw v hv (by omega) (fun i _ hi => ?_)
  rw [← a2 i hi, ← b2 i (by omega)]
def wd (tp : Nat → Nat) (a e : Nat) : Nat := fstN 11 (wm tp a e)
def nvN (tp : Nat → Nat) (a : Nat) : Nat → Nat
  | 0 => 0
  | k + 1 => nvN tp a k * 10 + (tp (a + k) - 48)
section
variable (t : Nat) (tp : Nat → Nat)
def tS (p : Nat) : Nat := rnE (isS tp) t p
def tR (p : Nat) : Nat := if t ≤ tS t tp p then 0 else if isL tp (tS t tp p) then 1 else if isF tp (tS t tp p) then 2 else if tp (tS t tp p) = 59 then 3 else 4
def tE (p : Nat) : Nat := if tR t tp p = 0 then tS t tp p else if tR t tp p = 1 then rnE (isL tp) t (tS t tp p) else if tR t tp p = 2 then rnE (isF tp) t (tS t tp p) else tS t tp p + 1
def tK (p : Nat) : Nat := if tR t tp p = 1 then (if wd tp (tS t tp p) (tE t tp p) < 11 then 1 else 4) else if tR t tp p = 2 then (if tE t tp p - tS t tp p ≤ 2 then 2 else 4) else tR t tp p
def tV (p : Nat) : Nat := if tR t tp p = 1 then (if wd tp (tS t tp p) (tE t tp p) < 11 then wd tp (tS t tp p) (tE t tp p) else 0) else if tR t tp p = 2 then (if tE t tp p - tS t tp p ≤ 2 then nvN tp (tS t tp p) (tE t tp p - tS t tp p) else 0) else 0
def ps : Nat → Nat
  | 0 => 0
  | k + 1 => tE t tp (ps k)
end
theorem tR_le (t : Nat) (tp : Nat → Nat) (p : Nat) : tR t tp p ≤ 4 := by
  unfold tR; split; omega; split; omega; split; omega; split <;> omega
theorem tK_le (t : Nat) (tp : Nat → Nat) (p : Nat) : tK t tp p ≤ 4 := by
  have := tR_le t tp p
  unfold tK; split; split <;> omega; split; split <;> omega; omega
theorem tK_0 (t : Nat) (tp : Nat → Nat) (p : Nat) : tK t tp p = 0 ↔ tR t tp p = 0 := by
  unfold tK; split; split <;> omega; split; split <;> omega; omega
theorem tE_gt {t : Nat} {tp : Nat → Nat} {p : Nat} (h : tR t tp p ≠ 0) : tS t tp p < t ∧ tS t tp p < tE t tp p ∧ tE t tp p ≤ t := by
  have h1 : tS t tp p < t := by
    apply Decidable.byContradiction
    intro c
    apply h
    unfold tR; rw [if_pos (by omega)]
  refine ⟨h1, ?_⟩
  have hR : tR t tp p = if isL tp (tS t tp p) then 1 else if isF tp (tS t tp p) then 2 else if tp (tS t tp p) = 59 then 3 else 4 := by
    unfold tR; rw [if_neg (by omega)]
  unfold tE
  rw [if_neg h]
  by_cases hl : isL tp (tS t tp p) = true
  · rw [if_pos hl] at hR
    rw [if_pos hR, rnE_go h1 hl]
    have := rnE_ge (isL tp) t (tS t tp p + 1)
    have := rnE_le (q := isL tp) (t := t) (p := tS t tp p + 1) (by omega)
    omega
  · rw [if_neg hl] at hR
    by_cases hf : isF tp (tS t tp p) = true
    · rw [if_pos hf] at hR
      rw [if_neg (by omega), if_pos hR, rnE_go h1 hf]
      have := rnE_ge (isF tp) t (tS t tp p + 1)
      have := rnE_le (q := isF tp) (t := t) (p := tS t tp p + 1) (by omega)
      omega
    · rw [if_neg hf] at hR
      have : tR t tp p = 3 ∨ tR t tp p = 4 := by rw [hR]; split <;> omega
      rw [if_neg (by omega), if_neg (by omega)]; omega
theorem bI_eq {v c : Nat} (hv : v < 256) (hc : c < 128) : (bI v = jI c) = (v = c) := by
  unfold bI
  split
  · rw [jI_eq (by omega) (by omega)]
  · rw [gI_eqI (by omega) (by omega), eq_iff_iff]; omega
theorem bI_lt {v c : Nat} (hv : v < 256) (hc : c < 128) : (bI v < jI c) = (128 ≤ v ∨ v < c) := by
  unfold bI
  split
  · rw [jI_lt (by omega) (by omega), eq_iff_iff]; omega
  · rw [gI_ltI (by omega) (by omega), eq_iff_iff]; omega
theorem bI_gt {v c : Nat} (hv : v < 256) (hc : c < 128) : (jI c < bI v) = (v < 128 ∧ c < v) := by
  unfold bI
  split
  · rw [jI_lt (by omega) (by omega), eq_iff_iff]; omega
  · rw [jI_ltN (by omega) (by omega), eq_iff_iff]; simp; omega
section
variable {N : Nat}
theorem isLetterX {v : Nat} (hv : v < 256) : fX5_isLetter N (bI v) = some (jI (if 97 ≤ v ∧ v ≤ 122 then 1 else 0)) := by
  by_cases h1 : 128 ≤ v ∨ v < 97
  · rw [if_neg (by omega)]
    simp (disch := omega) only [jI_0, jI_1, jI_2, jI_3, jI_4, jI_5, jI_6, jI_7, jI_8, jI_9, jI_10, jI_11, jI_12, jI_13, jI_14, jI_15, jI_16, jI_20, jI_24, jI_26, jI_30, jI_31, jI_32, jI_40, jI_48, jI_56, jI_57, jI_59, jI_60, jI_97, jI_99, jI_122, jI_160, jI_240, jI_255, jI_768, jI_1000, ↓jN_1, ↓jN_2, ↓jN_3, ↓jN_4, ↓jN_8, ↓jN_10, ↓jN_11, ↓jN_12, ↓jN_14, ↓jN_20, jI_addN, jI_le, jI_lt, jI_eq, jI_cl, jI_in, jI_add, jI_sub, jI_eqN, gI_eqI, gI_eqN, gI_leI, gI_ltI, jI_leN, jI_ltN, gI_sub, pif_tt, pif_ff, pg_tt, isB, or_true, true_or, pif_T, pif_F, pg_T, pb_S, upd_e, upd_n, fX5_isLetter, fX5_isLetter_16, fX5_isLetter_17, bI_lt]
  · by_cases h2 : 122 < v
    · rw [if_neg (by omega)]
      simp (disch := omega) only [jI_0, jI_1, jI_2, jI_3, jI_4, jI_5, jI_6, jI_7, jI_8, jI_9, jI_10, jI_11, jI_12, jI_13, jI_14, jI_15, jI_16, jI_20, jI_24, jI_26, jI_30, jI_31, jI_32, jI_40, jI_48, jI_56, jI_57, jI_59, jI_60, jI_97, jI_99, jI_122, jI_160, jI_240, jI_255, jI_768, jI_1000, ↓jN_1, ↓jN_2, ↓jN_3, ↓jN_4, ↓jN_8, ↓jN_10, ↓jN_11, ↓jN_12, ↓jN_14, ↓jN_20, jI_addN, jI_le, jI_lt, jI_eq, jI_cl, jI_in, jI_add, jI_sub, jI_eqN, gI_eqI, gI_eqN, gI_leI, gI_ltI, jI_leN, jI_ltN, gI_sub, pif_tt, pif_ff, pg_tt, isB, or_true, true_or, pif_T, pif_F, pg_T, pb_S, upd_e, upd_n, fX5_isLetter, fX5_isLetter_16, fX5_isLetter_17, bI_lt, bI_gt]
    · rw [if_pos (by omega)]
      simp (disch := omega) only [jI_0, jI_1, jI_2, jI_3, jI_4, jI_5, jI_6, jI_7, jI_8, jI_9, jI_10, jI_11, jI_12, jI_13, jI_14, jI_15, jI_16, jI_20, jI_24, jI_26, jI_30, jI_31, jI_32, jI_40, jI_48, jI_56, jI_57, jI_59, jI_60, jI_97, jI_99, jI_122, jI_160, jI_240, jI_255, jI_768, jI_1000, ↓jN_1, ↓jN_2, ↓jN_3, ↓jN_4, ↓jN_8, ↓jN_10, ↓jN_11, ↓jN_12, ↓jN_14, ↓jN_20, jI_addN, jI_le, jI_lt, jI_eq, jI_cl, jI_in, jI_add, jI_sub, jI_eqN, gI_eqI, gI_eqN, gI_leI, gI_ltI, jI_leN, jI_ltN, gI_sub, pif_tt, pif_ff, pg_tt, isB, or_true, true_or, pif_T, pif_F, pg_T, pb_S, upd_e, upd_n, fX5_isLetter, fX5_isLetter_16, fX5_isLetter_17, bI_lt, bI_gt]
theorem isFigureX {v : Nat} (hv : v < 256) : fX5_isFigure N (bI v) = some (jI (if 48 ≤ v ∧ v ≤ 57 then 1 else 0)) := by
  by_cases h1 : 128 ≤ v ∨ v < 48
  · rw [if_neg (by omega)]
    simp (disch := omega) only [jI_0, jI_1, jI_2, jI_3, jI_4, jI_5, jI_6, jI_7, jI_8, jI_9, jI_10, jI_11, jI_12, jI_13, jI_14, jI_15, jI_16, jI_20, jI_24, jI_26, jI_30, jI_31, jI_32, jI_40, jI_48, jI_56, jI_57, jI_59, jI_60, jI_97, jI_99, jI_122, jI_160, jI_240, jI_255, jI_768, jI_1000, ↓jN_1, ↓jN_2, ↓jN_3, ↓jN_4, ↓jN_8, ↓jN_10, ↓jN_11, ↓jN_12, ↓jN_14, ↓jN_20, jI_addN, jI_le, jI_lt, jI_eq, jI_cl, jI_in, jI_add, jI_sub, jI_eqN, gI_eqI, gI_eqN, gI_leI, gI_ltI, jI_leN, jI_ltN, gI_sub, pif_tt, pif_ff, pg_tt, isB, or_true, true_or, pif_T, pif_F, pg_T, pb_S, upd_e, upd_n, fX5_isFigure, fX5_isFigure_16, fX5_isFigure_17, bI_lt]
  · by_cases h2 : 57 < v
    · rw [if_neg (by omega)]
      simp (disch := omega) only [jI_0, jI_1, jI_2, jI_3, jI_4, jI_5, jI_6, jI_7, jI_8, jI_9, jI_10, jI_11, jI_12, jI_13, jI_14, jI_15, jI_16, jI_20, jI_24, jI_26, jI_30, jI_31, jI_32, jI_40, jI_48, jI_56, jI_57, jI_59, jI_60, jI_97, jI_99, jI_122, jI_160, jI_240, jI_255, jI_768, jI_1000, ↓jN_1, ↓jN_2, ↓jN_3, ↓jN_4, ↓jN_8, ↓jN_10, ↓jN_11, ↓jN_12, ↓jN_14, ↓jN_20, jI_addN, jI_le, jI_lt, jI_eq, jI_cl, jI_in, jI_add, jI_sub, jI_eqN, gI_eqI, gI_eqN, gI_leI, gI_ltI, jI_leN, jI_ltN, gI_sub, pif_tt, pif_ff, pg_tt, isB, or_true, true_or, pif_T, pif_F, pg_T, pb_S, upd_e, upd_n, fX5_isFigure, fX5_isFigure_16, fX5_isFigure_17, bI_lt, bI_gt]
    · rw [if_pos (by omega)]
      simp (disch := omega) only [jI_0, jI_1, jI_2, jI_3, jI_4, jI_5, jI_6, jI_7, jI_8, jI_9, jI_10, jI_11, jI_12, jI_13, jI_14, jI_15, jI_16, jI_20, jI_24, jI_26, jI_30, jI_31, jI_32, jI_40, jI_48, jI_56, jI_57, jI_59, jI_60, jI_97, jI_99, jI_122, jI_160, jI_240, jI_255, jI_768, jI_1000, ↓jN_1, ↓jN_2, ↓jN_3, ↓jN_4, ↓jN_8, ↓jN_10, ↓jN_11, ↓jN_12, ↓jN_14, ↓jN_20, jI_addN, jI_le, jI_lt, jI_eq, jI_cl, jI_in, jI_add, jI_sub, jI_eqN, gI_eqI, gI_eqN, gI_leI, gI_ltI, jI_leN, jI_ltN, gI_sub, pif_tt, pif_ff, pg_tt, isB, or_true, true_or, pif_T, pif_F, pg_T, pb_S, upd_e, upd_n, fX5_isFigure, fX5_isFigure_16, fX5_isFigure_17, bI_lt, bI_gt]
theorem isWordX {t a e w : Nat} {tp : Nat → Nat} {c_bytes : Nat → Int32} (hN : 100 ≤ N) (ht : t ≤ 240) (hw : w < 11) (hae : a ≤ e) (he : e ≤ t) (h256 : ∀ k, k < 240 → tp k < 256) (hb : ∀ k, k < t → c_bytes k = bI (tp k)) : fX5_isWord N (jI e) c_bytes (jI a) w = some (jI (if wm tp a e w then 1 else 0)) := by
  obtain ⟨w1, w2, w3, w4, w5⟩ := w_all w hw
  by_cases hl : e - a = lnN w
  · have key : Ok (fX5_isWord_17 N (jI e) c_bytes (jI a) w N (jI 0)) (fun q => q = jI (if wm tp a e w then 1 else 0)) := by
      refine up_ok (fun fu i (_ : Unit) => fX5_isWord_17 N (jI e) c_bytes (jI a) w fu (jI i)) _ (lnN w) (fun i _ => cnt i (fun i => !decide (tp (a + i) = chN2 w i)) = 0) ?_ ?_ N 0 () (by omega) (by omega) rfl
      · intro fu i _ hi hp ih
        obtain ⟨s1, s2, s3⟩ := w5 i (by omega) hi
        have hbk := hb (a + i) (by omega)
        have h25 := h256 (a + i) (by omega)
        have hs : cnt (i + 1) (fun i => !decide (tp (a + i) = chN2 w i)) = cnt i (fun i => !decide (tp (a + i) = chN2 w i)) + (if (!decide (tp (a + i) = chN2 w i)) = true then 1 else 0) := rfl
        have hlen : Int32.ofNat (lnN w) = jI (lnN w) := rfl
        have hlen2 : lenS.getD w 0 = lnN w := rfl
        by_cases hc : tp (a + i) = chN2 w i
        · simp (disch := omega) only [jI_0, jI_1, jI_2, jI_3, jI_4, jI_5, jI_6, jI_7, jI_8, jI_9, jI_10, jI_11, jI_12, jI_13, jI_14, jI_15, jI_16, jI_20, jI_24, jI_26, jI_30, jI_31, jI_32, jI_40, jI_48, jI_56, jI_57, jI_59, jI_60, jI_97, jI_99, jI_122, jI_160, jI_240, jI_255, jI_768, jI_1000, ↓jN_1, ↓jN_2, ↓jN_3, ↓jN_4, ↓jN_8, ↓jN_10, ↓jN_11, ↓jN_12, ↓jN_14, ↓jN_20, jI_addN, jI_le, jI_lt, jI_eq, jI_cl, jI_in, jI_add, jI_sub, jI_eqN, gI_eqI, gI_eqN, gI_leI, gI_ltI, jI_leN, jI_ltN, gI_sub, pif_tt, pif_ff, pg_tt, isB, or_true, true_or, pif_T, pif_F, pg_T, pb_S, upd_e, upd_n, fX5_isWord_17, w1, hbk, s1, hlen, hlen2, bI_eq]
          exact ih () (by rw [hs, hp, if_neg (by simp [hc])])
        · have hf : wm tp a e w = false := by
            cases hwm : wm tp a e w
            · rfl
            · exact absurd ((wm_ch hwm).2 i hi) hc
          rw [hf]
          simp (disch := omega) only [jI_0, jI_1, jI_2, jI_3, jI_4, jI_5, jI_6, jI_7, jI_8, jI_9, jI_10, jI_11, jI_12, jI_13, jI_14, jI_15, jI_16, jI_20, jI_24, jI_26, jI_30, jI_31, jI_32, jI_40, jI_48, jI_56, jI_57, jI_59, jI_60, jI_97, jI_99, jI_122, jI_160, jI_240, jI_255, jI_768, jI_1000, ↓jN_1, ↓jN_2, ↓jN_3, ↓jN_4, ↓jN_8, ↓jN_10, ↓jN_11, ↓jN_12, ↓jN_14, ↓jN_20, jI_addN, jI_le, jI_lt, jI_eq, jI_cl, jI_in, jI_add, jI_sub, jI_eqN, gI_eqI, gI_eqN, gI_leI, gI_ltI, jI_leN, jI_ltN, gI_sub, pif_tt, pif_ff, pg_tt, isB, or_true, true_or, pif_T, pif_F, pg_T, pb_S, upd_e, upd_n, fX5_isWord_17, w1, hbk, s1, hlen, hlen2, bI_eq]
          exact Ok.s rfl
      · intro fu _ hp
        have hwm : wm tp a e w = true := by simp only [wm, decide_eq_true_eq]; exact ⟨hl, hp⟩
        rw [hwm]
        simp (disch := omega) only [jI_0, jI_1, jI_2, jI_3, jI_4, jI_5, jI_6, jI_7, jI_8, jI_9, jI_10, jI_11, jI_12, jI_13, jI_14, jI_15, jI_16, jI_20, jI_24, jI_26, jI_30, jI_31, jI_32, jI_40, jI_48, jI_56, jI_57, jI_59, jI_60, jI_97, jI_99, jI_122, jI_160, jI_240, jI_255, jI_768, jI_1000, ↓jN_1, ↓jN_2, ↓jN_3, ↓jN_4, ↓jN_8, ↓jN_10, ↓jN_11, ↓jN_12, ↓jN_14, ↓jN_20, jI_addN, jI_le, jI_lt, jI_eq, jI_cl, jI_in, jI_add, jI_sub, jI_eqN, gI_eqI, gI_eqN, gI_leI, gI_ltI, jI_leN, jI_ltN, gI_sub, pif_tt, pif_ff, pg_tt, isB, or_true, true_or, pif_T, pif_F, pg_T, pb_S, upd_e, upd_n, fX5_isWord_17, w1]
        exact Ok.s rfl
    obtain ⟨q, e1, rfl⟩ := key
    simp (disch := omega) only [jI_0, jI_1, jI_2, jI_3, jI_4, jI_5, jI_6, jI_7, jI_8, jI_9, jI_10, jI_11, jI_12, jI_13, jI_14, jI_15, jI_16, jI_20, jI_24, jI_26, jI_30, jI_31, jI_32, jI_40, jI_48, jI_56, jI_57, jI_59, jI_60, jI_97, jI_99, jI_122, jI_160, jI_240, jI_255, jI_768, jI_1000, ↓jN_1, ↓jN_2, ↓jN_3, ↓jN_4, ↓jN_8, ↓jN_10, ↓jN_11, ↓jN_12, ↓jN_14, ↓jN_20, jI_addN, jI_le, jI_lt, jI_eq, jI_cl, jI_in, jI_add, jI_sub, jI_eqN, gI_eqI, gI_eqN, gI_leI, gI_ltI, jI_leN, jI_ltN, gI_sub, pif_tt, pif_ff, pg_tt, isB, or_true, true_or, pif_T, pif_F, pg_T, pb_S, upd_e, upd_n, fX5_isWord, w1]
    exact e1
  · have hf : wm tp a e w = false := by
      cases hwm : wm tp a e w
      · rfl
      · exact absurd (wm_ch hwm).1 hl
    rw [hf]
    simp (disch := omega) only [jI_0, jI_1, jI_2, jI_3, jI_4, jI_5, jI_6, jI_7, jI_8, jI_9, jI_10, jI_11, jI_12, jI_13, jI_14, jI_15, jI_16, jI_20, jI_24, jI_26, jI_30, jI_31, jI_32, jI_40, jI_48, jI_56, jI_57, jI_59, jI_60, jI_97, jI_99, jI_122, jI_160, jI_240, jI_255, jI_768, jI_1000, ↓jN_1, ↓jN_2, ↓jN_3, ↓jN_4, ↓jN_8, ↓jN_10, ↓jN_11, ↓jN_12, ↓jN_14, ↓jN_20, jI_addN, jI_le, jI_lt, jI_eq, jI_cl, jI_in, jI_add, jI_sub, jI_eqN, gI_eqI, gI_eqN, gI_leI, gI_ltI, jI_leN, jI_ltN, gI_sub, pif_tt, pif_ff, pg_tt, isB, or_true, true_or, pif_T, pif_F, pg_T, pb_S, upd_e, upd_n, fX5_isWord, w1]
    rfl
end
