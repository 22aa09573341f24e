/-! TOKENS: the class's split. -/
section
variable {v_length : Int32} {v_next : Int32} {c_bytes : Nat → Int32} {c_meaning : Nat → Int32} {c_start : Nat → Int32} {c_token : Nat → Int32}
variable {N t : Nat} {tp : Nat → Nat}
theorem jI_ite1 {c : Prop} [Decidable c] : (jI (if c then 1 else 0) = jI 0) = ¬ c := by
  by_cases h : c
  · rw [if_pos h, jI_eq (by omega) (by omega), eq_iff_iff]; simp [h]
  · rw [if_neg h, eq_iff_iff]; simp [h]
theorem kindX {p : Nat} (ht : t ≤ 240) (h256 : ∀ k, k < 240 → tp k < 256) (hb : ∀ k, k < t → c_bytes k = bI (tp k)) : fX5_kindOfNext N (jI t) (jI (tS t tp p)) c_bytes = some (jI (tR t tp p)) ∨ t < tS t tp p := by
  by_cases hgt : t < tS t tp p
  · exact Or.inr hgt
  refine Or.inl ?_
  unfold tR
  generalize tS t tp p = a at *
  by_cases ha : t ≤ a
  · rw [if_pos ha]
    simp (disch := omega) only [jI_0, jI_1, jI_2, jI_3, jI_4, jI_5, jI_6, jI_7, jI_8, jI_9, jI_10, jI_11, jI_12, jI_13, jI_14, jI_15, jI_16, jI_20, jI_24, jI_26, jI_30, jI_31, jI_32, jI_40, jI_48, jI_56, jI_57, jI_59, jI_60, jI_97, jI_99, jI_122, jI_160, jI_240, jI_255, jI_768, jI_1000, ↓jN_1, ↓jN_2, ↓jN_3, ↓jN_4, ↓jN_8, ↓jN_10, ↓jN_11, ↓jN_12, ↓jN_14, ↓jN_20, jI_addN, jI_le, jI_lt, jI_eq, jI_cl, jI_in, jI_add, jI_sub, jI_eqN, gI_eqI, gI_eqN, gI_leI, gI_ltI, jI_leN, jI_ltN, gI_sub, pif_tt, pif_ff, pg_tt, isB, or_true, true_or, pif_T, pif_F, pg_T, pb_S, upd_e, upd_n, fX5_kindOfNext]
  · rw [if_neg ha]
    have h25 := h256 a (by omega)
    have hba := hb a (by omega)
    have l1 := isLetterX (N := N) h25
    have f1 := isFigureX (N := N) h25
    by_cases hl : 97 ≤ tp a ∧ tp a ≤ 122
    · rw [if_pos (show isL tp a = true from decide_eq_true hl)]
      rw [if_pos hl] at l1
      simp (disch := omega) only [jI_0, jI_1, jI_2, jI_3, jI_4, jI_5, jI_6, jI_7, jI_8, jI_9, jI_10, jI_11, jI_12, jI_13, jI_14, jI_15, jI_16, jI_20, jI_24, jI_26, jI_30, jI_31, jI_32, jI_40, jI_48, jI_56, jI_57, jI_59, jI_60, jI_97, jI_99, jI_122, jI_160, jI_240, jI_255, jI_768, jI_1000, ↓jN_1, ↓jN_2, ↓jN_3, ↓jN_4, ↓jN_8, ↓jN_10, ↓jN_11, ↓jN_12, ↓jN_14, ↓jN_20, jI_addN, jI_le, jI_lt, jI_eq, jI_cl, jI_in, jI_add, jI_sub, jI_eqN, gI_eqI, gI_eqN, gI_leI, gI_ltI, jI_leN, jI_ltN, gI_sub, pif_tt, pif_ff, pg_tt, isB, or_true, true_or, pif_T, pif_F, pg_T, pb_S, upd_e, upd_n, fX5_kindOfNext, hba, l1]
    · rw [if_neg (by simpa [isL] using hl)]
      rw [if_neg hl] at l1
      by_cases hf : 48 ≤ tp a ∧ tp a ≤ 57
      · rw [if_pos (show isF tp a = true from decide_eq_true hf)]
        rw [if_pos hf] at f1
        simp (disch := omega) only [jI_0, jI_1, jI_2, jI_3, jI_4, jI_5, jI_6, jI_7, jI_8, jI_9, jI_10, jI_11, jI_12, jI_13, jI_14, jI_15, jI_16, jI_20, jI_24, jI_26, jI_30, jI_31, jI_32, jI_40, jI_48, jI_56, jI_57, jI_59, jI_60, jI_97, jI_99, jI_122, jI_160, jI_240, jI_255, jI_768, jI_1000, ↓jN_1, ↓jN_2, ↓jN_3, ↓jN_4, ↓jN_8, ↓jN_10, ↓jN_11, ↓jN_12, ↓jN_14, ↓jN_20, jI_addN, jI_le, jI_lt, jI_eq, jI_cl, jI_in, jI_add, jI_sub, jI_eqN, gI_eqI, gI_eqN, gI_leI, gI_ltI, jI_leN, jI_ltN, gI_sub, pif_tt, pif_ff, pg_tt, isB, or_true, true_or, pif_T, pif_F, pg_T, pb_S, upd_e, upd_n, fX5_kindOfNext, hba, l1, f1]
      · rw [if_neg (by simpa [isF] using hf)]
        rw [if_neg hf] at f1
        by_cases hs : tp a = 59
        · rw [if_pos hs]
          simp (disch := omega) only [jI_0, jI_1, jI_2, jI_3, jI_4, jI_5, jI_6, jI_7, jI_8, jI_9, jI_10, jI_11, jI_12, jI_13, jI_14, jI_15, jI_16, jI_20, jI_24, jI_26, jI_30, jI_31, jI_32, jI_40, jI_48, jI_56, jI_57, jI_59, jI_60, jI_97, jI_99, jI_122, jI_160, jI_240, jI_255, jI_768, jI_1000, ↓jN_1, ↓jN_2, ↓jN_3, ↓jN_4, ↓jN_8, ↓jN_10, ↓jN_11, ↓jN_12, ↓jN_14, ↓jN_20, jI_addN, jI_le, jI_lt, jI_eq, jI_cl, jI_in, jI_add, jI_sub, jI_eqN, gI_eqI, gI_eqN, gI_leI, gI_ltI, jI_leN, jI_ltN, gI_sub, pif_tt, pif_ff, pg_tt, isB, or_true, true_or, pif_T, pif_F, pg_T, pb_S, upd_e, upd_n, fX5_kindOfNext, fX5_kindOfNext_66, hba, l1, f1, bI_eq]
        · rw [if_neg hs]
          simp (disch := omega) only [jI_0, jI_1, jI_2, jI_3, jI_4, jI_5, jI_6, jI_7, jI_8, jI_9, jI_10, jI_11, jI_12, jI_13, jI_14, jI_15, jI_16, jI_20, jI_24, jI_26, jI_30, jI_31, jI_32, jI_40, jI_48, jI_56, jI_57, jI_59, jI_60, jI_97, jI_99, jI_122, jI_160, jI_240, jI_255, jI_768, jI_1000, ↓jN_1, ↓jN_2, ↓jN_3, ↓jN_4, ↓jN_8, ↓jN_10, ↓jN_11, ↓jN_12, ↓jN_14, ↓jN_20, jI_addN, jI_le, jI_lt, jI_eq, jI_cl, jI_in, jI_add, jI_sub, jI_eqN, gI_eqI, gI_eqN, gI_leI, gI_ltI, jI_leN, jI_ltN, gI_sub, pif_tt, pif_ff, pg_tt, isB, or_true, true_or, pif_T, pif_F, pg_T, pb_S, upd_e, upd_n, fX5_kindOfNext, fX5_kindOfNext_66, hba, l1, f1, bI_eq]
/-- the class's name from a on, as the token k -/
theorem takeNameX {a k : Nat} (hN : 1000 ≤ N) (ht : t ≤ 240) (hk : k ≤ 240) (ha : a ≤ t) (h256 : ∀ k, k < 240 → tp k < 256) (hb : ∀ k, k < t → c_bytes k = bI (tp k)) (hs : c_start k = jI a) (hm : c_meaning k = jI 0) : Ok (fX5_takeName N (jI t) (jI a) c_bytes c_meaning c_start c_token (jI k)) (fun q => q.1 = jI (rnE (isL tp) t a) ∧ q.2.1 k = jI (if wd tp a (rnE (isL tp) t a) < 11 then wd tp a (rnE (isL tp) t a) else 0) ∧ q.2.2 k = jI (if wd tp a (rnE (isL tp) t a) < 11 then 1 else 4) ∧ ∀ j, j ≠ k → q.2.1 j = c_meaning j ∧ q.2.2 j = c_token j) := by
  have inner : ∀ e, a ≤ e → e ≤ t → Ok (fX5_takeName_39 N (jI t) c_bytes c_start (jI k) (jI e) c_meaning c_token) (fun q => q.1 = jI e ∧ q.2.1 k = jI (if wd tp a e < 11 then wd tp a e else 0) ∧ q.2.2 k = jI (if wd tp a e < 11 then 1 else 4) ∧ ∀ j, j ≠ k → q.2.1 j = c_meaning j ∧ q.2.2 j = c_token j) := by
    intro e hae het
    simp (disch := omega) only [jI_0, jI_1, jI_2, jI_3, jI_4, jI_5, jI_6, jI_7, jI_8, jI_9, jI_10, jI_11, jI_12, jI_13, jI_14, jI_15, jI_16, jI_20, jI_24, jI_26, jI_30, jI_31, jI_32, jI_40, jI_48, jI_56, jI_57, jI_59, jI_60, jI_97, jI_99, jI_122, jI_160, jI_240, jI_255, jI_768, jI_1000, ↓jN_1, ↓jN_2, ↓jN_3, ↓jN_4, ↓jN_8, ↓jN_10, ↓jN_11, ↓jN_12, ↓jN_14, ↓jN_20, jI_addN, jI_le, jI_lt, jI_eq, jI_cl, jI_in, jI_add, jI_sub, jI_eqN, gI_eqI, gI_eqN, gI_leI, gI_ltI, jI_leN, jI_ltN, gI_sub, pif_tt, pif_ff, pg_tt, isB, or_true, true_or, pif_T, pif_F, pg_T, pb_S, upd_e, upd_n, fX5_takeName_39]
    refine up_ok (fun fu w (q : (Nat → Int32) × (Nat → Int32)) => fX5_takeName_48 N (jI t) c_bytes c_start (jI k) fu (jI w) (jI e) q.1 q.2) _ 11 (fun w q => q.1 k = jI (if fstN w (wm tp a e) < w then fstN w (wm tp a e) else 0) ∧ q.2 k = jI (if fstN w (wm tp a e) < w then 1 else 4) ∧ ∀ j, j ≠ k → q.1 j = c_meaning j ∧ q.2 j = c_token j) ?_ ?_ N 0 (c_meaning, upd c_token k (jI 4)) (by omega) (by omega) ⟨by rw [if_neg (by omega)]; exact hm, by rw [if_neg (by omega)]; exact upd_e rfl, fun j hj => ⟨rfl, upd_n hj⟩⟩
    · intro fu w ⟨cm, ck⟩ hw ⟨h1, h2, h3⟩ ih
      simp only at h1 h2 h3
      have hwr := (w_all w hw).2.1
      have iw := isWordX (N := N) (t := t) (a := a) (e := e) (w := w) (by omega) ht hw hae het h256 hb
      have hst := fst_step w (wm tp a e)
      cases hwm : wm tp a e w
      · rw [hwm] at iw hst
        simp only [Bool.false_eq_true, if_false] at iw hst
        simp (disch := omega) only [jI_0, jI_1, jI_2, jI_3, jI_4, jI_5, jI_6, jI_7, jI_8, jI_9, jI_10, jI_11, jI_12, jI_13, jI_14, jI_15, jI_16, jI_20, jI_24, jI_26, jI_30, jI_31, jI_32, jI_40, jI_48, jI_56, jI_57, jI_59, jI_60, jI_97, jI_99, jI_122, jI_160, jI_240, jI_255, jI_768, jI_1000, ↓jN_1, ↓jN_2, ↓jN_3, ↓jN_4, ↓jN_8, ↓jN_10, ↓jN_11, ↓jN_12, ↓jN_14, ↓jN_20, jI_addN, jI_le, jI_lt, jI_eq, jI_cl, jI_in, jI_add, jI_sub, jI_eqN, gI_eqI, gI_eqN, gI_leI, gI_ltI, jI_leN, jI_ltN, gI_sub, pif_tt, pif_ff, pg_tt, isB, or_true, true_or, pif_T, pif_F, pg_T, pb_S, upd_e, upd_n, fX5_takeName_48, fX5_takeName_85, hs, hwr, iw]
        refine ih (cm, ck) ?_
        by_cases hf : fstN w (wm tp a e) < w
        · rw [if_pos hf] at hst
          rw [hst, if_pos (by omega), if_pos (by omega)]
          rw [if_pos hf] at h1 h2
          exact ⟨h1, h2, h3⟩
        · rw [if_neg hf] at hst
          rw [hst, if_neg (by omega), if_neg (by omega)]
          rw [if_neg hf] at h1 h2
          exact ⟨h1, h2, h3⟩
      · rw [hwm] at iw hst
        simp only [if_true] at iw hst
        have hnf : ¬ fstN w (wm tp a e) < w := fun hf => by
          have := wm_uni (by omega) hw (fstN_hit hf) hwm
          omega
        rw [if_neg hnf] at hst
        simp (disch := omega) only [jI_0, jI_1, jI_2, jI_3, jI_4, jI_5, jI_6, jI_7, jI_8, jI_9, jI_10, jI_11, jI_12, jI_13, jI_14, jI_15, jI_16, jI_20, jI_24, jI_26, jI_30, jI_31, jI_32, jI_40, jI_48, jI_56, jI_57, jI_59, jI_60, jI_97, jI_99, jI_122, jI_160, jI_240, jI_255, jI_768, jI_1000, ↓jN_1, ↓jN_2, ↓jN_3, ↓jN_4, ↓jN_8, ↓jN_10, ↓jN_11, ↓jN_12, ↓jN_14, ↓jN_20, jI_addN, jI_le, jI_lt, jI_eq, jI_cl, jI_in, jI_add, jI_sub, jI_eqN, gI_eqI, gI_eqN, gI_leI, gI_ltI, jI_leN, jI_ltN, gI_sub, pif_tt, pif_ff, pg_tt, isB, or_true, true_or, pif_T, pif_F, pg_T, pb_S, upd_e, upd_n, fX5_takeName_48, fX5_takeName_85, hs, hwr, iw]
        refine ih (_, _) ⟨?_, ?_, fun j hj => ?_⟩
        · show upd cm k (jI w) k = _
          rw [hst, if_pos (by omega), upd_e rfl]
        · show upd ck k (jI 1) k = _
          rw [hst, if_pos (by omega), upd_e rfl]
        · show upd cm k _ j = _ ∧ upd ck k _ j = _
          rw [upd_n hj, upd_n hj]; exact h3 j hj
    · intro fu ⟨cm, ck⟩ ⟨h1, h2, h3⟩
      simp only at h1 h2 h3
      simp (disch := omega) only [jI_0, jI_1, jI_2, jI_3, jI_4, jI_5, jI_6, jI_7, jI_8, jI_9, jI_10, jI_11, jI_12, jI_13, jI_14, jI_15, jI_16, jI_20, jI_24, jI_26, jI_30, jI_31, jI_32, jI_40, jI_48, jI_56, jI_57, jI_59, jI_60, jI_97, jI_99, jI_122, jI_160, jI_240, jI_255, jI_768, jI_1000, ↓jN_1, ↓jN_2, ↓jN_3, ↓jN_4, ↓jN_8, ↓jN_10, ↓jN_11, ↓jN_12, ↓jN_14, ↓jN_20, jI_addN, jI_le, jI_lt, jI_eq, jI_cl, jI_in, jI_add, jI_sub, jI_eqN, gI_eqI, gI_eqN, gI_leI, gI_ltI, jI_leN, jI_ltN, gI_sub, pif_tt, pif_ff, pg_tt, isB, or_true, true_or, pif_T, pif_F, pg_T, pb_S, upd_e, upd_n, fX5_takeName_48]
      exact Ok.s ⟨rfl, h1, h2, h3⟩
  unfold fX5_takeName
  have key := up_ok (fun fu p (_ : Unit) => fX5_takeName_0 N (jI t) c_bytes c_start (jI k) fu (jI p) c_meaning c_token) (fun q => q.1 = jI (rnE (isL tp) t a) ∧ q.2.1 k = jI (if wd tp a (rnE (isL tp) t a) < 11 then wd tp a (rnE (isL tp) t a) else 0) ∧ q.2.2 k = jI (if wd tp a (rnE (isL tp) t a) < 11 then 1 else 4) ∧ ∀ j, j ≠ k → q.2.1 j = c_meaning j ∧ q.2.2 j = c_token j) t (fun p _ => a ≤ p ∧ rnE (isL tp) t a = rnE (isL tp) t p) ?_ ?_ N a () ha (by omega) ⟨Nat.le_refl _, rfl⟩
  · exact key
  · intro fu p _ hp ⟨hap, hr⟩ ih
    have h25 := h256 p (by omega)
    have hbp := hb p hp
    have l1 := isLetterX (N := N) h25
    by_cases hl : 97 ≤ tp p ∧ tp p ≤ 122
    · rw [if_pos hl] at l1
      have hg := rnE_go (q := isL tp) hp (decide_eq_true hl)
      simp (disch := omega) only [jI_0, jI_1, jI_2, jI_3, jI_4, jI_5, jI_6, jI_7, jI_8, jI_9, jI_10, jI_11, jI_12, jI_13, jI_14, jI_15, jI_16, jI_20, jI_24, jI_26, jI_30, jI_31, jI_32, jI_40, jI_48, jI_56, jI_57, jI_59, jI_60, jI_97, jI_99, jI_122, jI_160, jI_240, jI_255, jI_768, jI_1000, ↓jN_1, ↓jN_2, ↓jN_3, ↓jN_4, ↓jN_8, ↓jN_10, ↓jN_11, ↓jN_12, ↓jN_14, ↓jN_20, jI_addN, jI_le, jI_lt, jI_eq, jI_cl, jI_in, jI_add, jI_sub, jI_eqN, gI_eqI, gI_eqN, gI_leI, gI_ltI, jI_leN, jI_ltN, gI_sub, pif_tt, pif_ff, pg_tt, isB, or_true, true_or, pif_T, pif_F, pg_T, pb_S, upd_e, upd_n, fX5_takeName_0, hbp, l1]
      exact ih () ⟨by omega, hr.trans hg⟩
    · rw [if_neg hl] at l1
      have hg := rnE_no (q := isL tp) (t := t) (p := p) (by simpa [isL] using hl)
      rw [hr, hg]
      simp (disch := omega) only [jI_0, jI_1, jI_2, jI_3, jI_4, jI_5, jI_6, jI_7, jI_8, jI_9, jI_10, jI_11, jI_12, jI_13, jI_14, jI_15, jI_16, jI_20, jI_24, jI_26, jI_30, jI_31, jI_32, jI_40, jI_48, jI_56, jI_57, jI_59, jI_60, jI_97, jI_99, jI_122, jI_160, jI_240, jI_255, jI_768, jI_1000, ↓jN_1, ↓jN_2, ↓jN_3, ↓jN_4, ↓jN_8, ↓jN_10, ↓jN_11, ↓jN_12, ↓jN_14, ↓jN_20, jI_addN, jI_le, jI_lt, jI_eq, jI_cl, jI_in, jI_add, jI_sub, jI_eqN, gI_eqI, gI_eqN, gI_leI, gI_ltI, jI_leN, jI_ltN, gI_sub, pif_tt, pif_ff, pg_tt, isB, or_true, true_or, pif_T, pif_F, pg_T, pb_S, upd_e, upd_n, fX5_takeName_0, hbp, l1]
      exact inner p hap (by omega)
  · intro fu _ ⟨hap, hr⟩
    have hg := rnE_end (q := isL tp) (Nat.le_refl t)
    rw [hr, hg]
    simp (disch := omega) only [jI_0, jI_1, jI_2, jI_3, jI_4, jI_5, jI_6, jI_7, jI_8, jI_9, jI_10, jI_11, jI_12, jI_13, jI_14, jI_15, jI_16, jI_20, jI_24, jI_26, jI_30, jI_31, jI_32, jI_40, jI_48, jI_56, jI_57, jI_59, jI_60, jI_97, jI_99, jI_122, jI_160, jI_240, jI_255, jI_768, jI_1000, ↓jN_1, ↓jN_2, ↓jN_3, ↓jN_4, ↓jN_8, ↓jN_10, ↓jN_11, ↓jN_12, ↓jN_14, ↓jN_20, jI_addN, jI_le, jI_lt, jI_eq, jI_cl, jI_in, jI_add, jI_sub, jI_eqN, gI_eqI, gI_eqN, gI_leI, gI_ltI, jI_leN, jI_ltN, gI_sub, pif_tt, pif_ff, pg_tt, isB, or_true, true_or, pif_T, pif_F, pg_T, pb_S, upd_e, upd_n, fX5_takeName_0]
    exact inner t hap (Nat.le_refl _)
theorem takeFigX {a k : Nat} (hN : 1000 ≤ N) (ht : t ≤ 240) (hk : k ≤ 240) (ha : a ≤ t) (h256 : ∀ k, k < 240 → tp k < 256) (hb : ∀ k, k < t → c_bytes k = bI (tp k)) (hs : c_start k = jI a) : Ok (fX5_takeFigures N (jI t) (jI a) c_bytes c_meaning c_start c_token (jI k)) (fun q => q.1 = jI (rnE (isF tp) t a) ∧ q.2.1 k = jI (if rnE (isF tp) t a - a ≤ 2 then nvN tp a (rnE (isF tp) t a - a) else 0) ∧ q.2.2 k = jI (if rnE (isF tp) t a - a ≤ 2 then 2 else 4) ∧ ∀ j, j ≠ k → q.2.1 j = c_meaning j ∧ q.2.2 j = c_token j) := by
  have fin : ∀ e (v : Int32), a ≤ e → e ≤ t → (e - a ≤ 2 → v = jI (nvN tp a (e - a))) → Ok (fX5_takeFigures_59 N (jI t) c_bytes c_start (jI k) v (jI e) c_meaning c_token) (fun q => q.1 = jI e ∧ q.2.1 k = jI (if e - a ≤ 2 then nvN tp a (e - a) else 0) ∧ q.2.2 k = jI (if e - a ≤ 2 then 2 else 4) ∧ ∀ j, j ≠ k → q.2.1 j = c_meaning j ∧ q.2.2 j = c_token j) := by
    intro e v hae het hv
    by_cases h2 : e - a ≤ 2
    · rw [if_pos h2, if_pos h2, hv h2]
      simp (disch := omega) only [jI_0, jI_1, jI_2, jI_3, jI_4, jI_5, jI_6, jI_7, jI_8, jI_9, jI_10, jI_11, jI_12, jI_13, jI_14, jI_15, jI_16, jI_20, jI_24, jI_26, jI_30, jI_31, jI_32, jI_40, jI_48, jI_56, jI_57, jI_59, jI_60, jI_97, jI_99, jI_122, jI_160, jI_240, jI_255, jI_768, jI_1000, ↓jN_1, ↓jN_2, ↓jN_3, ↓jN_4, ↓jN_8, ↓jN_10, ↓jN_11, ↓jN_12, ↓jN_14, ↓jN_20, jI_addN, jI_le, jI_lt, jI_eq, jI_cl, jI_in, jI_add, jI_sub, jI_eqN, gI_eqI, gI_eqN, gI_leI, gI_ltI, jI_leN, jI_ltN, gI_sub, pif_tt, pif_ff, pg_tt, isB, or_true, true_or, pif_T, pif_F, pg_T, pb_S, upd_e, upd_n, fX5_takeFigures_59, fX5_takeFigures_79, fX5_takeFigures_94, fX5_takeFigures_109, hs]
      exact Ok.s ⟨rfl, upd_e rfl, upd_e rfl, fun j hj => ⟨upd_n hj, upd_n hj⟩⟩
    · rw [if_neg h2, if_neg h2]
      simp (disch := omega) only [jI_0, jI_1, jI_2, jI_3, jI_4, jI_5, jI_6, jI_7, jI_8, jI_9, jI_10, jI_11, jI_12, jI_13, jI_14, jI_15, jI_16, jI_20, jI_24, jI_26, jI_30, jI_31, jI_32, jI_40, jI_48, jI_56, jI_57, jI_59, jI_60, jI_97, jI_99, jI_122, jI_160, jI_240, jI_255, jI_768, jI_1000, ↓jN_1, ↓jN_2, ↓jN_3, ↓jN_4, ↓jN_8, ↓jN_10, ↓jN_11, ↓jN_12, ↓jN_14, ↓jN_20, jI_addN, jI_le, jI_lt, jI_eq, jI_cl, jI_in, jI_add, jI_sub, jI_eqN, gI_eqI, gI_eqN, gI_leI, gI_ltI, jI_leN, jI_ltN, gI_sub, pif_tt, pif_ff, pg_tt, isB, or_true, true_or, pif_T, pif_F, pg_T, pb_S, upd_e, upd_n, fX5_takeFigures_59, fX5_takeFigures_79, fX5_takeFigures_94, fX5_takeFigures_109, hs]
      exact Ok.s ⟨rfl, upd_e rfl, upd_e rfl, fun j hj => ⟨upd_n hj, upd_n hj⟩⟩
  unfold fX5_takeFigures
  have key := up_ok (fun fu p (v : Int32) => fX5_takeFigures_2 N (jI t) c_bytes c_start (jI k) fu v (jI p) c_meaning c_token) (fun q => q.1 = jI (rnE (isF tp) t a) ∧ q.2.1 k = jI (if rnE (isF tp) t a - a ≤ 2 then nvN tp a (rnE (isF tp) t a - a) else 0) ∧ q.2.2 k = jI (if rnE (isF tp) t a - a ≤ 2 then 2 else 4) ∧ ∀ j, j ≠ k → q.2.1 j = c_meaning j ∧ q.2.2 j = c_token j) t (fun p v => a ≤ p ∧ rnE (isF tp) t a = rnE (isF tp) t p ∧ (p - a ≤ 2 → v = jI (nvN tp a (p - a)))) ?_ ?_ N a (jI 0) ha (by omega) ⟨Nat.le_refl _, rfl, fun _ => by rw [Nat.sub_self]; rfl⟩
  · exact key
  · intro fu p v hp ⟨hap, hr, hv⟩ ih
    have h25 := h256 p (by omega)
    have hbp := hb p hp
    have l1 := isFigureX (N := N) h25
    by_cases hl : 48 ≤ tp p ∧ tp p ≤ 57
    · rw [if_pos hl] at l1
      have hg := rnE_go (q := isF tp) hp (decide_eq_true hl)
      have hbj : bI (tp p) = jI (tp p) := by unfold bI; rw [if_pos (by omega)]
      rw [hbj] at hbp l1
      simp (disch := omega) only [jI_0, jI_1, jI_2, jI_3, jI_4, jI_5, jI_6, jI_7, jI_8, jI_9, jI_10, jI_11, jI_12, jI_13, jI_14, jI_15, jI_16, jI_20, jI_24, jI_26, jI_30, jI_31, jI_32, jI_40, jI_48, jI_56, jI_57, jI_59, jI_60, jI_97, jI_99, jI_122, jI_160, jI_240, jI_255, jI_768, jI_1000, ↓jN_1, ↓jN_2, ↓jN_3, ↓jN_4, ↓jN_8, ↓jN_10, ↓jN_11, ↓jN_12, ↓jN_14, ↓jN_20, jI_addN, jI_le, jI_lt, jI_eq, jI_cl, jI_in, jI_add, jI_sub, jI_eqN, gI_eqI, gI_eqN, gI_leI, gI_ltI, jI_leN, jI_ltN, gI_sub, pif_tt, pif_ff, pg_tt, isB, or_true, true_or, pif_T, pif_F, pg_T, pb_S, upd_e, upd_n, fX5_takeFigures_2, hbp, l1]
      refine ih _ ⟨by omega, hr.trans hg, fun h2 => ?_⟩
      rw [hv (by omega), jI_mul, jI_add, show p + 1 - a = (p - a) + 1 by omega]
      simp only [nvN]
      rw [show a + (p - a) = p by omega]
    · rw [if_neg hl] at l1
      have hg := rnE_no (q := isF tp) (t := t) (p := p) (by simpa [isF] using hl)
      rw [hr, hg]
      simp (disch := omega) only [jI_0, jI_1, jI_2, jI_3, jI_4, jI_5, jI_6, jI_7, jI_8, jI_9, jI_10, jI_11, jI_12, jI_13, jI_14, jI_15, jI_16, jI_20, jI_24, jI_26, jI_30, jI_31, jI_32, jI_40, jI_48, jI_56, jI_57, jI_59, jI_60, jI_97, jI_99, jI_122, jI_160, jI_240, jI_255, jI_768, jI_1000, ↓jN_1, ↓jN_2, ↓jN_3, ↓jN_4, ↓jN_8, ↓jN_10, ↓jN_11, ↓jN_12, ↓jN_14, ↓jN_20, jI_addN, jI_le, jI_lt, jI_eq, jI_cl, jI_in, jI_add, jI_sub, jI_eqN, gI_eqI, gI_eqN, gI_leI, gI_ltI, jI_leN, jI_ltN, gI_sub, pif_tt, pif_ff, pg_tt, isB, or_true, true_or, pif_T, pif_F, pg_T, pb_S, upd_e, upd_n, fX5_takeFigures_2, hbp, l1]
      exact fin p v hap (by omega) hv
  · intro fu v ⟨hap, hr, hv⟩
    have hg := rnE_end (q := isF tp) (Nat.le_refl t)
    rw [hr, hg]
    simp (disch := omega) only [jI_0, jI_1, jI_2, jI_3, jI_4, jI_5, jI_6, jI_7, jI_8, jI_9, jI_10, jI_11, jI_12, jI_13, jI_14, jI_15, jI_16, jI_20, jI_24, jI_26, jI_30, jI_31, jI_32, jI_40, jI_48, jI_56, jI_57, jI_59, jI_60, jI_97, jI_99, jI_122, jI_160, jI_240, jI_255, jI_768, jI_1000, ↓jN_1, ↓jN_2, ↓jN_3, ↓jN_4, ↓jN_8, ↓jN_10, ↓jN_11, ↓jN_12, ↓jN_14, ↓jN_20, jI_addN, jI_le, jI_lt, jI_eq, jI_cl, jI_in, jI_add, jI_sub, jI_eqN, gI_eqI, gI_eqN, gI_leI, gI_ltI, jI_leN, jI_ltN, gI_sub, pif_tt, pif_ff, pg_tt, isB, or_true, true_or, pif_T, pif_F, pg_T, pb_S, upd_e, upd_n, fX5_takeFigures_2]
    exact fin t v hap (Nat.le_refl _) hv
end
