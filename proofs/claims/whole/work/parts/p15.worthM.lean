/-! Means over all ENDS: the reference. -/
def dnN (fx : Nat → Bool) : Nat → Nat
  | 0 => 1
  | k + 1 => dnN fx k * (if fx k then 1 else 16)
theorem dnN_none : ∀ k, dnN (fun _ => false) k = 16 ^ k := by
  intro k
  induction k with
  | zero => rfl
  | succ k ih => simp only [dnN, ih, Nat.pow_succ, Bool.false_eq_true, if_false]
theorem dnN_lo {kf : Nat} : ∀ k, k ≤ kf → dnN (fun d => decide (d = kf)) k = 16 ^ k := by
  intro k
  induction k with
  | zero => intro _; rfl
  | succ k ih =>
    intro h
    simp only [dnN]
    rw [ih (by omega), if_neg (by simp only [decide_eq_true_eq]; omega), Nat.pow_succ]
theorem dnN_fix {kf : Nat} : ∀ k, kf < k → dnN (fun d => decide (d = kf)) k * 16 = 16 ^ k := by
  intro k
  induction k with
  | zero => intro h; omega
  | succ k ih =>
    intro h
    simp only [dnN]
    by_cases e : k = kf
    · rw [if_pos (decide_eq_true e), dnN_lo k (by omega), Nat.mul_one, Nat.pow_succ]
    · rw [if_neg (by simpa using e), Nat.pow_succ, ih (by omega)]
def fxN (fx : Nat → Bool) (w : Nat → Nat) (dp j r : Nat) : Nat := if fx (dp - 1 - j) then 1 else fa w dp j r
section
variable {v_open : Int32} {v_sumDown : Int64} {v_sumUp : Int64} {c_chooser : Nat → Int32} {c_firsts : Nat → Int32} {c_goes : Nat → Int32} {c_holds : Nat → Int32} {c_later : Nat → Int32} {c_many : Nat → Int32} {c_opens : Nat → Int32} {c_outs : Nat → Int32} {c_payOf : Nat → Int32} {c_placeOf : Nat → Int32} {c_seconds : Nat → Int32} {c_sideAt : Nat → Int32} {c_won : Nat → Int32}
variable {N z : Nat} {f s e H : Nat → Nat}
theorem likelyM {r : Nat} {fx : Nat → Bool} {x2 : Int32} (hN : 100 ≤ N) (hR : Rk H) (hh : Rm H c_holds) (hk : Gk (H 0) z f s e) (hG : Gp z f s e c_many c_firsts c_seconds c_goes) (hdp : cnt z (isOp e) ≤ 7) (hr : r < 128) (ho : ∀ k, k < cnt z (isOp e) → c_opens k = jI (opN z (isOp e) k)) (hfx : ∀ k, k < cnt z (isOp e) → (fx k = true → c_opens k = x2) ∧ (fx k = false → ¬ c_opens k = x2)) : (fX9_likely N (jI (cnt z (isOp e))) c_firsts c_holds c_opens c_seconds (jI r) x2) = some (jL (prN (fxN fx (oW H z f s e) (cnt z (isOp e))) (cnt z (isOp e)) r)) := by
  have hz := hk.2.1
  have key : Ok ((fX9_likely_5 N (jI (cnt z (isOp e))) c_firsts c_holds c_opens c_seconds (jI r) x2 N 1 0)) (fun q => q = jL (prN (fxN fx (oW H z f s e) (cnt z (isOp e))) (cnt z (isOp e)) r)) := by
    refine up_ok (fun fu k v => (fX9_likely_5 N (jI (cnt z (isOp e))) c_firsts c_holds c_opens c_seconds (jI r) x2 fu (jL v) (jI k))) _ (cnt z (isOp e)) (fun k v => v * prN (fxN fx (oW H z f s e) (cnt z (isOp e))) (cnt z (isOp e) - k) r = prN (fxN fx (oW H z f s e) (cnt z (isOp e))) (cnt z (isOp e)) r) ?_ ?_ N 0 1 (by omega) (by omega) (by rw [Nat.one_mul, Nat.sub_zero])
    · intro fu k v hkd hv ih
      have ok := op_ok hkd
      have o1 := ok.1
      have o4 := ho k hkd
      have hb := shr_ok (cnt z (isOp e) - 1 - k) (by omega) r hr
      have hbl := bitN_lt r (cnt z (isOp e) - 1 - k)
      have hol := oW_le H z f s e k
      have hod : fX9_oddsBy N c_firsts c_holds c_seconds (jI (opN z (isOp e) k)) (jI 0) = some (jI (oW H z f s e k)) := by
        have hk' : Gk (H 0) z f s (fun g => 0) := ⟨hk.1, hk.2.1, fun g hg => ⟨(hk.2.2 g hg).1, (hk.2.2 g hg).2.1, (hk.2.2 g hg).2.2.1, Nat.zero_le _⟩⟩
        have hG' : Gm 0 z f s (fun g => 0) c_many c_firsts c_seconds (fun _ => jI 0) := ⟨hG.1, fun g hg => by
          rw [show 30 * 0 + g = g by omega]
          exact ⟨(hG.2 g hg).1, (hG.2 g hg).2.1, rfl⟩⟩
        exact oddsByM hR hh hk' hG' o1 (by omega)
      have hstep : prN (fxN fx (oW H z f s e) (cnt z (isOp e))) (cnt z (isOp e) - k) r = fxN fx (oW H z f s e) (cnt z (isOp e)) (cnt z (isOp e) - (k + 1)) r * prN (fxN fx (oW H z f s e) (cnt z (isOp e))) (cnt z (isOp e) - (k + 1)) r := by
        rw [show cnt z (isOp e) - k = (cnt z (isOp e) - (k + 1)) + 1 by omega]; rfl
      have hfa : fxN fx (oW H z f s e) (cnt z (isOp e)) (cnt z (isOp e) - (k + 1)) r = if fx k then 1 else if bitN r (cnt z (isOp e) - 1 - k) = 0 then oW H z f s e k else 16 - oW H z f s e k := by
        unfold fxN fa
        rw [show cnt z (isOp e) - 1 - (cnt z (isOp e) - (k + 1)) = k by omega, show cnt z (isOp e) - (k + 1) = cnt z (isOp e) - 1 - k by omega]
      rw [hstep, hfa] at hv
      have fin : ∀ m, m = (if fx k then 1 else if bitN r (cnt z (isOp e) - 1 - k) = 0 then oW H z f s e k else 16 - oW H z f s e k) → Ok (fX9_likely_5 N (jI (cnt z (isOp e))) c_firsts c_holds c_opens c_seconds (jI r) x2 fu (jL (v * m)) (jI (k + 1))) (fun q => q = jL (prN (fxN fx (oW H z f s e) (cnt z (isOp e))) (cnt z (isOp e)) r)) := by
        intro m hm
        refine ih (v * m) ?_
        rw [hm, Nat.mul_assoc]; exact hv
      cases hx : fx k
      · have hne := (hfx k hkd).2 hx
        rw [o4] at hne
        rw [hx] at fin
        simp only [Bool.false_eq_true, if_false] at fin
        by_cases hb0 : bitN r (cnt z (isOp e) - 1 - k) = 0
        · rw [if_pos hb0] at fin
          simp (disch := omega) only [jI_0, jI_1, jI_2, jI_3, jI_4, jI_5, jI_6, jI_7, jI_8, jI_9, jI_10, jI_11, jI_12, jI_13, jI_14, jI_15, jI_16, jI_20, jI_24, jI_26, jI_30, jI_31, jI_32, jI_40, jI_48, jI_56, jI_57, jI_59, jI_60, jI_97, jI_99, jI_122, jI_160, jI_240, jI_255, jI_768, jI_1000, ↓jN_1, ↓jN_2, ↓jN_3, ↓jN_4, ↓jN_8, ↓jN_10, ↓jN_11, ↓jN_12, ↓jN_14, ↓jN_20, jI_addN, jI_le, jI_lt, jI_eq, jI_cl, jI_in, jI_add, jI_sub, jI_eqN, gI_eqI, gI_eqN, gI_leI, gI_ltI, jI_leN, jI_ltN, gI_sub, pif_tt, pif_ff, pg_tt, isB, or_true, true_or, pif_T, pif_F, pg_T, pb_S, upd_e, upd_n, jL_0, jL_1, jL_2, jL_5, jL_6, jL_15, jL_16, jL_63, jI_mul, jI_L, jL_I, jL_add, jL_sub, jL_mul, fX9_likely_5, fX9_likely_49, fX9_likely_85, o4, hod, hb, hne]
          exact fin _ rfl
        · rw [if_neg hb0] at fin
          simp (disch := omega) only [jI_0, jI_1, jI_2, jI_3, jI_4, jI_5, jI_6, jI_7, jI_8, jI_9, jI_10, jI_11, jI_12, jI_13, jI_14, jI_15, jI_16, jI_20, jI_24, jI_26, jI_30, jI_31, jI_32, jI_40, jI_48, jI_56, jI_57, jI_59, jI_60, jI_97, jI_99, jI_122, jI_160, jI_240, jI_255, jI_768, jI_1000, ↓jN_1, ↓jN_2, ↓jN_3, ↓jN_4, ↓jN_8, ↓jN_10, ↓jN_11, ↓jN_12, ↓jN_14, ↓jN_20, jI_addN, jI_le, jI_lt, jI_eq, jI_cl, jI_in, jI_add, jI_sub, jI_eqN, gI_eqI, gI_eqN, gI_leI, gI_ltI, jI_leN, jI_ltN, gI_sub, pif_tt, pif_ff, pg_tt, isB, or_true, true_or, pif_T, pif_F, pg_T, pb_S, upd_e, upd_n, jL_0, jL_1, jL_2, jL_5, jL_6, jL_15, jL_16, jL_63, jI_mul, jI_L, jL_I, jL_add, jL_sub, jL_mul, fX9_likely_5, fX9_likely_49, fX9_likely_85, o4, hod, hb, hne]
          exact fin _ rfl
      · have he := (hfx k hkd).1 hx
        rw [hx] at fin
        simp only [if_true] at fin
        rw [o4] at he
        subst he
        by_cases hb0 : bitN r (cnt z (isOp e) - 1 - k) = 0
        · simp (disch := omega) only [jI_0, jI_1, jI_2, jI_3, jI_4, jI_5, jI_6, jI_7, jI_8, jI_9, jI_10, jI_11, jI_12, jI_13, jI_14, jI_15, jI_16, jI_20, jI_24, jI_26, jI_30, jI_31, jI_32, jI_40, jI_48, jI_56, jI_57, jI_59, jI_60, jI_97, jI_99, jI_122, jI_160, jI_240, jI_255, jI_768, jI_1000, ↓jN_1, ↓jN_2, ↓jN_3, ↓jN_4, ↓jN_8, ↓jN_10, ↓jN_11, ↓jN_12, ↓jN_14, ↓jN_20, jI_addN, jI_le, jI_lt, jI_eq, jI_cl, jI_in, jI_add, jI_sub, jI_eqN, gI_eqI, gI_eqN, gI_leI, gI_ltI, jI_leN, jI_ltN, gI_sub, pif_tt, pif_ff, pg_tt, isB, or_true, true_or, pif_T, pif_F, pg_T, pb_S, upd_e, upd_n, jL_0, jL_1, jL_2, jL_5, jL_6, jL_15, jL_16, jL_63, jI_mul, jI_L, jL_I, jL_add, jL_sub, jL_mul, fX9_likely_5, fX9_likely_49, fX9_likely_85, o4, hod, hb]
          exact fin _ rfl
        · simp (disch := omega) only [jI_0, jI_1, jI_2, jI_3, jI_4, jI_5, jI_6, jI_7, jI_8, jI_9, jI_10, jI_11, jI_12, jI_13, jI_14, jI_15, jI_16, jI_20, jI_24, jI_26, jI_30, jI_31, jI_32, jI_40, jI_48, jI_56, jI_57, jI_59, jI_60, jI_97, jI_99, jI_122, jI_160, jI_240, jI_255, jI_768, jI_1000, ↓jN_1, ↓jN_2, ↓jN_3, ↓jN_4, ↓jN_8, ↓jN_10, ↓jN_11, ↓jN_12, ↓jN_14, ↓jN_20, jI_addN, jI_le, jI_lt, jI_eq, jI_cl, jI_in, jI_add, jI_sub, jI_eqN, gI_eqI, gI_eqN, gI_leI, gI_ltI, jI_leN, jI_ltN, gI_sub, pif_tt, pif_ff, pg_tt, isB, or_true, true_or, pif_T, pif_F, pg_T, pb_S, upd_e, upd_n, jL_0, jL_1, jL_2, jL_5, jL_6, jL_15, jL_16, jL_63, jI_mul, jI_L, jL_I, jL_add, jL_sub, jL_mul, fX9_likely_5, fX9_likely_49, fX9_likely_85, o4, hod, hb]
          exact fin _ rfl
    · intro fu v hv
      rw [Nat.sub_self] at hv
      simp only [prN, Nat.mul_one] at hv
      simp (disch := omega) only [jI_0, jI_1, jI_2, jI_3, jI_4, jI_5, jI_6, jI_7, jI_8, jI_9, jI_10, jI_11, jI_12, jI_13, jI_14, jI_15, jI_16, jI_20, jI_24, jI_26, jI_30, jI_31, jI_32, jI_40, jI_48, jI_56, jI_57, jI_59, jI_60, jI_97, jI_99, jI_122, jI_160, jI_240, jI_255, jI_768, jI_1000, ↓jN_1, ↓jN_2, ↓jN_3, ↓jN_4, ↓jN_8, ↓jN_10, ↓jN_11, ↓jN_12, ↓jN_14, ↓jN_20, jI_addN, jI_le, jI_lt, jI_eq, jI_cl, jI_in, jI_add, jI_sub, jI_eqN, gI_eqI, gI_eqN, gI_leI, gI_ltI, jI_leN, jI_ltN, gI_sub, pif_tt, pif_ff, pg_tt, isB, or_true, true_or, pif_T, pif_F, pg_T, pb_S, upd_e, upd_n, jL_0, jL_1, jL_2, jL_5, jL_6, jL_15, jL_16, jL_63, jI_mul, jI_L, jL_I, jL_add, jL_sub, jL_mul, fX9_likely_5]
      exact Ok.s (by rw [hv])
  obtain ⟨a, e1, rfl⟩ := key
  exact e1
theorem layWorthM {i : Nat} {fx cd : Nat → Bool} {x2 x3 : Int32} (hN : 1000 ≤ N) (hR : Rk H) (hh : Rm H c_holds) (hk : Gk (H 0) z f s e) (hG : Gm 0 z f s e c_many c_firsts c_seconds c_goes) (hdp : cnt z (isOp e) ≤ 7) (hi : i < H 0) (hfx : ∀ k, k < cnt z (isOp e) → (fx k = true → jI (opN z (isOp e) k) = x2) ∧ (fx k = false → ¬ jI (opN z (isOp e) k) = x2)) (hcd : (x2 = gI 4 ∧ ∀ r, cd r = true) ∨ (∃ kf how, kf < cnt z (isOp e) ∧ x2 = jI (opN z (isOp e) kf) ∧ x3 = jI how ∧ how < 2 ∧ ∀ r, cd r = decide (bitN r (cnt z (isOp e) - 1 - kf) = how))) : Ok ((fX9_layWorth N v_open v_sumDown v_sumUp c_chooser c_firsts c_goes c_holds c_later c_many c_opens c_outs c_payOf c_placeOf c_seconds c_sideAt c_won (jI i) x2 x3)) (fun q => q.2.1 = jL (unitN H * dnN fx (cnt z (isOp e))) ∧ q.2.2.1 = jL (sumN (2 ^ cnt z (isOp e)) (fun r => if cd r then prN (fxN fx (oW H z f s e) (cnt z (isOp e))) (cnt z (isOp e)) r * leafN H z f s e r i else 0)) ∧ Gm 0 z f s e c_many c_firsts c_seconds q.2.2.2.2.1) := by
  have hz := hk.2.1
  have hn := hR.2.1
  have hp := pw_le (cnt z (isOp e)) (by omega)
  have hsh := shl_ok (cnt z (isOp e)) (by omega)
  have hun := unitN_le hR
  obtain ⟨co, e1, h1⟩ := layOpensM (N := N) (v_open := v_open) (c_opens := c_opens) (by omega) hk hG
  have e2 := unitM (N := N) (by omega) hR hh
  simp (disch := omega) only [jI_0, jI_1, jI_2, jI_3, jI_4, jI_5, jI_6, jI_7, jI_8, jI_9, jI_10, jI_11, jI_12, jI_13, jI_14, jI_15, jI_16, jI_20, jI_24, jI_26, jI_30, jI_31, jI_32, jI_40, jI_48, jI_56, jI_57, jI_59, jI_60, jI_97, jI_99, jI_122, jI_160, jI_240, jI_255, jI_768, jI_1000, ↓jN_1, ↓jN_2, ↓jN_3, ↓jN_4, ↓jN_8, ↓jN_10, ↓jN_11, ↓jN_12, ↓jN_14, ↓jN_20, jI_addN, jI_le, jI_lt, jI_eq, jI_cl, jI_in, jI_add, jI_sub, jI_eqN, gI_eqI, gI_eqN, gI_leI, gI_ltI, jI_leN, jI_ltN, gI_sub, pif_tt, pif_ff, pg_tt, isB, or_true, true_or, pif_T, pif_F, pg_T, pb_S, upd_e, upd_n, jL_0, jL_1, jL_2, jL_5, jL_6, jL_15, jL_16, jL_63, jI_mul, jI_L, jL_I, jL_add, jL_sub, jL_mul, fX9_layWorth, e1, e2]
  refine up_ok (fun fu k d => (fX9_layWorth_21 N c_firsts c_holds c_many c_seconds (jI i) x2 x3 fu (jI k) (jI (cnt z (isOp e))) (jL d) (jL 0) c_chooser c_goes c_later co c_outs c_payOf c_placeOf c_sideAt c_won)) _ (cnt z (isOp e)) (fun k d => d = unitN H * dnN fx k) ?_ ?_ N 0 (unitN H) (by omega) (by omega) (by simp only [dnN]; omega)
  · intro fu k d hkd hd ih
    have o4 := h1 k hkd
    have o1 := (op_ok hkd).1
    cases hx : fx k
    · have hne := (hfx k hkd).2 hx
      simp (disch := omega) only [jI_0, jI_1, jI_2, jI_3, jI_4, jI_5, jI_6, jI_7, jI_8, jI_9, jI_10, jI_11, jI_12, jI_13, jI_14, jI_15, jI_16, jI_20, jI_24, jI_26, jI_30, jI_31, jI_32, jI_40, jI_48, jI_56, jI_57, jI_59, jI_60, jI_97, jI_99, jI_122, jI_160, jI_240, jI_255, jI_768, jI_1000, ↓jN_1, ↓jN_2, ↓jN_3, ↓jN_4, ↓jN_8, ↓jN_10, ↓jN_11, ↓jN_12, ↓jN_14, ↓jN_20, jI_addN, jI_le, jI_lt, jI_eq, jI_cl, jI_in, jI_add, jI_sub, jI_eqN, gI_eqI, gI_eqN, gI_leI, gI_ltI, jI_leN, jI_ltN, gI_sub, pif_tt, pif_ff, pg_tt, isB, or_true, true_or, pif_T, pif_F, pg_T, pb_S, upd_e, upd_n, jL_0, jL_1, jL_2, jL_5, jL_6, jL_15, jL_16, jL_63, jI_mul, jI_L, jL_I, jL_add, jL_sub, jL_mul, fX9_layWorth_21, fX9_layWorth_53, o4, hne]
      refine ih _ ?_
      simp only [dnN, hx, Bool.false_eq_true, if_false]
      rw [hd, Nat.mul_assoc]
    · have he := (hfx k hkd).1 hx
      subst he
      simp (disch := omega) only [jI_0, jI_1, jI_2, jI_3, jI_4, jI_5, jI_6, jI_7, jI_8, jI_9, jI_10, jI_11, jI_12, jI_13, jI_14, jI_15, jI_16, jI_20, jI_24, jI_26, jI_30, jI_31, jI_32, jI_40, jI_48, jI_56, jI_57, jI_59, jI_60, jI_97, jI_99, jI_122, jI_160, jI_240, jI_255, jI_768, jI_1000, ↓jN_1, ↓jN_2, ↓jN_3, ↓jN_4, ↓jN_8, ↓jN_10, ↓jN_11, ↓jN_12, ↓jN_14, ↓jN_20, jI_addN, jI_le, jI_lt, jI_eq, jI_cl, jI_in, jI_add, jI_sub, jI_eqN, gI_eqI, gI_eqN, gI_leI, gI_ltI, jI_leN, jI_ltN, gI_sub, pif_tt, pif_ff, pg_tt, isB, or_true, true_or, pif_T, pif_F, pg_T, pb_S, upd_e, upd_n, jL_0, jL_1, jL_2, jL_5, jL_6, jL_15, jL_16, jL_63, jI_mul, jI_L, jL_I, jL_add, jL_sub, jL_mul, fX9_layWorth_21, fX9_layWorth_53, o4]
      refine ih _ ?_
      simp only [dnN, hx, if_true]
      rw [hd, Nat.mul_assoc]
  · intro fu d hd
    simp (disch := omega) only [jI_0, jI_1, jI_2, jI_3, jI_4, jI_5, jI_6, jI_7, jI_8, jI_9, jI_10, jI_11, jI_12, jI_13, jI_14, jI_15, jI_16, jI_20, jI_24, jI_26, jI_30, jI_31, jI_32, jI_40, jI_48, jI_56, jI_57, jI_59, jI_60, jI_97, jI_99, jI_122, jI_160, jI_240, jI_255, jI_768, jI_1000, ↓jN_1, ↓jN_2, ↓jN_3, ↓jN_4, ↓jN_8, ↓jN_10, ↓jN_11, ↓jN_12, ↓jN_14, ↓jN_20, jI_addN, jI_le, jI_lt, jI_eq, jI_cl, jI_in, jI_add, jI_sub, jI_eqN, gI_eqI, gI_eqN, gI_leI, gI_ltI, jI_leN, jI_ltN, gI_sub, pif_tt, pif_ff, pg_tt, isB, or_true, true_or, pif_T, pif_F, pg_T, pb_S, upd_e, upd_n, jL_0, jL_1, jL_2, jL_5, jL_6, jL_15, jL_16, jL_63, jI_mul, jI_L, jL_I, jL_add, jL_sub, jL_mul, fX9_layWorth_21]
    refine up_ok (fun fu r (q : Nat × (Nat → Int32) × (Nat → Int32) × (Nat → Int32) × (Nat → Int32) × (Nat → Int32) × (Nat → Int32) × (Nat → Int32) × (Nat → Int32)) => (fX9_layWorth_66 N c_firsts c_holds c_many c_seconds (jI i) x2 x3 fu (jI r) (jI (cnt z (isOp e))) (jL d) (jL q.1) q.2.1 q.2.2.1 q.2.2.2.1 co q.2.2.2.2.1 q.2.2.2.2.2.1 q.2.2.2.2.2.2.1 q.2.2.2.2.2.2.2.1 q.2.2.2.2.2.2.2.2)) _ (2 ^ cnt z (isOp e)) (fun m q => q.1 = sumN m (fun r => if cd r then prN (fxN fx (oW H z f s e) (cnt z (isOp e))) (cnt z (isOp e)) r * leafN H z f s e r i else 0) ∧ Gp z f s e c_many c_firsts c_seconds q.2.2.1) ?_ ?_ N 0 (0, c_chooser, c_goes, c_later, c_outs, c_payOf, c_placeOf, c_sideAt, c_won) (Nat.zero_le _) (by omega) ⟨rfl, Gp_of hG⟩
    · intro fu r ⟨a, c1, cg, c3, c4, c5, c6, c7, c8⟩ hr ⟨ha, hGp⟩ ih
      simp only at ha hGp
      obtain ⟨cg2, e3, hG2⟩ := setEndsM (N := N) (r := r) (c_opens := co) (by omega) hk hGp hdp (by omega) h1
      obtain ⟨⟨p1, p2, p3, p4, p5, p6, p7⟩, e4, h4, h5⟩ := layPaysM (N := N) (c_chooser := c1) (c_later := c3) (c_outs := c4) (c_payOf := c5) (c_placeOf := c6) (c_sideAt := c7) (c_won := c8) (by omega) hR hh (Gk_eR (r := r) hk) hG2
      simp only at h4 h5
      have h4i := h4 i hi
      have hpl := payN_le (W := wonN f s (eR e z r) z) (M := merT (H 0) f s (eR e z r) z z) hR hi
      have hli := likelyM (N := N) (r := r) (fx := fx) (x2 := x2) (c_opens := co) (by omega) hR hh hk hGp hdp (by omega) h1 (fun k hkd => by rw [h1 k hkd]; exact hfx k hkd)
      have hbig : Ok (fX9_layWorth_99 N c_firsts c_holds c_many c_seconds (jI i) x2 x3 (fX9_layWorth_66 N c_firsts c_holds c_many c_seconds (jI i) x2 x3 fu) (jI r) (jI (cnt z (isOp e))) (jL d) (jL a) c1 cg2 c3 co c4 c5 c6 c7 c8) (fun q => q.2.1 = jL (unitN H * dnN fx (cnt z (isOp e))) ∧ q.2.2.1 = jL (sumN (2 ^ cnt z (isOp e)) (fun r => if cd r then prN (fxN fx (oW H z f s e) (cnt z (isOp e))) (cnt z (isOp e)) r * leafN H z f s e r i else 0)) ∧ Gm 0 z f s e c_many c_firsts c_seconds q.2.2.2.2.1) ∨ cd r = false := by
        cases hc : cd r
        · exact Or.inr rfl
        · refine Or.inl ?_
          simp (disch := omega) only [jI_0, jI_1, jI_2, jI_3, jI_4, jI_5, jI_6, jI_7, jI_8, jI_9, jI_10, jI_11, jI_12, jI_13, jI_14, jI_15, jI_16, jI_20, jI_24, jI_26, jI_30, jI_31, jI_32, jI_40, jI_48, jI_56, jI_57, jI_59, jI_60, jI_97, jI_99, jI_122, jI_160, jI_240, jI_255, jI_768, jI_1000, ↓jN_1, ↓jN_2, ↓jN_3, ↓jN_4, ↓jN_8, ↓jN_10, ↓jN_11, ↓jN_12, ↓jN_14, ↓jN_20, jI_addN, jI_le, jI_lt, jI_eq, jI_cl, jI_in, jI_add, jI_sub, jI_eqN, gI_eqI, gI_eqN, gI_leI, gI_ltI, jI_leN, jI_ltN, gI_sub, pif_tt, pif_ff, pg_tt, isB, or_true, true_or, pif_T, pif_F, pg_T, pb_S, upd_e, upd_n, jL_0, jL_1, jL_2, jL_5, jL_6, jL_15, jL_16, jL_63, jI_mul, jI_L, jL_I, jL_add, jL_sub, jL_mul, fX9_layWorth_99, fX9_layWorth_127, e4, hli, h4i]
          refine ih (_, _, _, _, _, _, _, _, _) ⟨?_, Gp_row hG2⟩
          show a + _ = _
          simp only [sumN, hc, if_true]
          rw [ha]; rfl
      rcases hcd with ⟨x4, hall⟩ | ⟨kf, how, hkf, x4, x5, hhow, hall⟩
      · subst x4
        have hc := hall r
        rcases hbig with hbig | hbig
        · simp (disch := omega) only [jI_0, jI_1, jI_2, jI_3, jI_4, jI_5, jI_6, jI_7, jI_8, jI_9, jI_10, jI_11, jI_12, jI_13, jI_14, jI_15, jI_16, jI_20, jI_24, jI_26, jI_30, jI_31, jI_32, jI_40, jI_48, jI_56, jI_57, jI_59, jI_60, jI_97, jI_99, jI_122, jI_160, jI_240, jI_255, jI_768, jI_1000, ↓jN_1, ↓jN_2, ↓jN_3, ↓jN_4, ↓jN_8, ↓jN_10, ↓jN_11, ↓jN_12, ↓jN_14, ↓jN_20, jI_addN, jI_le, jI_lt, jI_eq, jI_cl, jI_in, jI_add, jI_sub, jI_eqN, gI_eqI, gI_eqN, gI_leI, gI_ltI, jI_leN, jI_ltN, gI_sub, pif_tt, pif_ff, pg_tt, isB, or_true, true_or, pif_T, pif_F, pg_T, pb_S, upd_e, upd_n, jL_0, jL_1, jL_2, jL_5, jL_6, jL_15, jL_16, jL_63, jI_mul, jI_L, jL_I, jL_add, jL_sub, jL_mul, fX9_layWorth_66, hsh, e3]
          exact hbig
        · rw [hc] at hbig; cases hbig
      · subst x4 x5
        have hc := hall r
        have ok := op_ok hkf
        have o1 := ok.1
        have hgo := (hG2.2 _ o1).2.2
        rw [show ∀ g, 30 * 0 + g = g from fun g => by omega, eR_op hkf] at hgo
        have hbl := bitN_lt r (cnt z (isOp e) - 1 - kf)
        by_cases hb : bitN r (cnt z (isOp e) - 1 - kf) = how
        · rw [decide_eq_true hb] at hc
          rcases hbig with hbig | hbig
          · simp (disch := omega) only [jI_0, jI_1, jI_2, jI_3, jI_4, jI_5, jI_6, jI_7, jI_8, jI_9, jI_10, jI_11, jI_12, jI_13, jI_14, jI_15, jI_16, jI_20, jI_24, jI_26, jI_30, jI_31, jI_32, jI_40, jI_48, jI_56, jI_57, jI_59, jI_60, jI_97, jI_99, jI_122, jI_160, jI_240, jI_255, jI_768, jI_1000, ↓jN_1, ↓jN_2, ↓jN_3, ↓jN_4, ↓jN_8, ↓jN_10, ↓jN_11, ↓jN_12, ↓jN_14, ↓jN_20, jI_addN, jI_le, jI_lt, jI_eq, jI_cl, jI_in, jI_add, jI_sub, jI_eqN, gI_eqI, gI_eqN, gI_leI, gI_ltI, jI_leN, jI_ltN, gI_sub, pif_tt, pif_ff, pg_tt, isB, or_true, true_or, pif_T, pif_F, pg_T, pb_S, upd_e, upd_n, jL_0, jL_1, jL_2, jL_5, jL_6, jL_15, jL_16, jL_63, jI_mul, jI_L, jL_I, jL_add, jL_sub, jL_mul, fX9_layWorth_66, hsh, e3, hgo]
            exact hbig
          · rw [hc] at hbig; cases hbig
        · rw [decide_eq_false hb] at hc
          simp (disch := omega) only [jI_0, jI_1, jI_2, jI_3, jI_4, jI_5, jI_6, jI_7, jI_8, jI_9, jI_10, jI_11, jI_12, jI_13, jI_14, jI_15, jI_16, jI_20, jI_24, jI_26, jI_30, jI_31, jI_32, jI_40, jI_48, jI_56, jI_57, jI_59, jI_60, jI_97, jI_99, jI_122, jI_160, jI_240, jI_255, jI_768, jI_1000, ↓jN_1, ↓jN_2, ↓jN_3, ↓jN_4, ↓jN_8, ↓jN_10, ↓jN_11, ↓jN_12, ↓jN_14, ↓jN_20, jI_addN, jI_le, jI_lt, jI_eq, jI_cl, jI_in, jI_add, jI_sub, jI_eqN, gI_eqI, gI_eqN, gI_leI, gI_ltI, jI_leN, jI_ltN, gI_sub, pif_tt, pif_ff, pg_tt, isB, or_true, true_or, pif_T, pif_F, pg_T, pb_S, upd_e, upd_n, jL_0, jL_1, jL_2, jL_5, jL_6, jL_15, jL_16, jL_63, jI_mul, jI_L, jL_I, jL_add, jL_sub, jL_mul, fX9_layWorth_66, fX9_layWorth_127, hsh, e3, hgo]
          refine ih (a, _, _, _, _, _, _, _, _) ⟨?_, Gp_row hG2⟩
          show a = _
          simp only [sumN, hc, Bool.false_eq_true, if_false]
          rw [ha]; rfl
    · intro fu ⟨a, c1, cg, c3, c4, c5, c6, c7, c8⟩ ⟨ha, hGp⟩
      simp only at ha hGp
      obtain ⟨cg2, e3, hG2⟩ := setOpenM (N := N) (c_opens := co) (by omega) hk hGp hdp h1
      simp (disch := omega) only [jI_0, jI_1, jI_2, jI_3, jI_4, jI_5, jI_6, jI_7, jI_8, jI_9, jI_10, jI_11, jI_12, jI_13, jI_14, jI_15, jI_16, jI_20, jI_24, jI_26, jI_30, jI_31, jI_32, jI_40, jI_48, jI_56, jI_57, jI_59, jI_60, jI_97, jI_99, jI_122, jI_160, jI_240, jI_255, jI_768, jI_1000, ↓jN_1, ↓jN_2, ↓jN_3, ↓jN_4, ↓jN_8, ↓jN_10, ↓jN_11, ↓jN_12, ↓jN_14, ↓jN_20, jI_addN, jI_le, jI_lt, jI_eq, jI_cl, jI_in, jI_add, jI_sub, jI_eqN, gI_eqI, gI_eqN, gI_leI, gI_ltI, jI_leN, jI_ltN, gI_sub, pif_tt, pif_ff, pg_tt, isB, or_true, true_or, pif_T, pif_F, pg_T, pb_S, upd_e, upd_n, jL_0, jL_1, jL_2, jL_5, jL_6, jL_15, jL_16, jL_63, jI_mul, jI_L, jL_I, jL_add, jL_sub, jL_mul, fX9_layWorth_66, hsh, e3]
      exact Ok.s ⟨by rw [hd], by rw [ha], hG2⟩
/-- the sum over the rows in which a GAME ends so -/
def sNf (H : Nat → Nat) (z : Nat) (f s e : Nat → Nat) (i kf how : Nat) : Nat := sumN (2 ^ cnt z (isOp e)) (fun r => if bitN r (cnt z (isOp e) - 1 - kf) = how then prN (faX (oW H z f s e) (cnt z (isOp e)) kf) (cnt z (isOp e)) r * leafN H z f s e r i else 0)
theorem wV_sNf {i kf how : Nat} (hkf : kf < cnt z (isOp e)) (hh : how < 2) : wV H z f s e (leafN H z f s e) i kf how = 16 * sNf H z f s e i kf how := fix_sum hkf hh
theorem worthIfM {i kf how : Nat} (hN : 1000 ≤ N) (hR : Rk H) (hh : Rm H c_holds) (hk : Gk (H 0) z f s e) (hG : Gm 0 z f s e c_many c_firsts c_seconds c_goes) (hdp : cnt z (isOp e) ≤ 7) (hi : i < H 0) (hkf : kf < cnt z (isOp e)) (hhow : how < 2) : Ok ((fX9_layWorth N v_open v_sumDown v_sumUp c_chooser c_firsts c_goes c_holds c_later c_many c_opens c_outs c_payOf c_placeOf c_seconds c_sideAt c_won (jI i) (jI (opN z (isOp e) kf)) (jI how))) (fun q => q.2.1 = jL (unitN H * dnN (fun d => decide (d = kf)) (cnt z (isOp e))) ∧ q.2.2.1 = jL (sNf H z f s e i kf how) ∧ Gm 0 z f s e c_many c_firsts c_seconds q.2.2.2.2.1) := by
  have hz := hk.2.1
  have h := layWorthM (N := N) (v_open := v_open) (v_sumDown := v_sumDown) (v_sumUp := v_sumUp) (c_chooser := c_chooser) (c_later := c_later) (c_opens := c_opens) (c_outs := c_outs) (c_payOf := c_payOf) (c_placeOf := c_placeOf) (c_sideAt := c_sideAt) (c_won := c_won) (fx := fun d => decide (d = kf)) (cd := fun r => decide (bitN r (cnt z (isOp e) - 1 - kf) = how)) (x2 := jI (opN z (isOp e) kf)) (x3 := jI how) hN hR hh hk hG hdp hi (fun k hkd => by
    have o1 := (op_ok hkd).1
    have o2 := (op_ok hkf).1
    refine ⟨fun h => by rw [of_decide_eq_true h], fun h => ?_⟩
    rw [jI_eq (by omega) (by omega)]
    exact fun c => (of_decide_eq_false h) (op_inj hkd hkf c)) (Or.inr ⟨kf, how, hkf, rfl, rfl, hhow, fun _ => rfl⟩)
  refine h.mono (fun q hq => ⟨hq.1, hq.2.1.trans ?_, hq.2.2⟩)
  congr 1
  refine sumN_congr (fun r hr => ?_)
  have hpr : prN (fxN (fun d => decide (d = kf)) (oW H z f s e) (cnt z (isOp e))) (cnt z (isOp e)) r = prN (faX (oW H z f s e) (cnt z (isOp e)) kf) (cnt z (isOp e)) r := by
    congr 1
    funext j q
    unfold fxN faX
    simp only [decide_eq_true_eq]
  rw [hpr]
  simp only [decide_eq_true_eq]
theorem worthAllM {i : Nat} (hN : 1000 ≤ N) (hR : Rk H) (hh : Rm H c_holds) (hk : Gk (H 0) z f s e) (hG : Gm 0 z f s e c_many c_firsts c_seconds c_goes) (hdp : cnt z (isOp e) ≤ 7) (hi : i < H 0) : Ok ((fX9_layWorth N v_open v_sumDown v_sumUp c_chooser c_firsts c_goes c_holds c_later c_many c_opens c_outs c_payOf c_placeOf c_seconds c_sideAt c_won (jI i) (gI 4) (jI 0))) (fun q => q.2.1 = jL (unitN H * 16 ^ cnt z (isOp e)) ∧ q.2.2.1 = jL (vN (oW H z f s e) (fun r => leafN H z f s e r i) (cnt z (isOp e)) (cnt z (isOp e)) 0) ∧ Gm 0 z f s e c_many c_firsts c_seconds q.2.2.2.2.1) := by
  have hz := hk.2.1
  have h := layWorthM (N := N) (v_open := v_open) (v_sumDown := v_sumDown) (v_sumUp := v_sumUp) (c_chooser := c_chooser) (c_later := c_later) (c_opens := c_opens) (c_outs := c_outs) (c_payOf := c_payOf) (c_placeOf := c_placeOf) (c_sideAt := c_sideAt) (c_won := c_won) (fx := fun _ => false) (cd := fun _ => true) (x2 := gI 4) (x3 := jI 0) hN hR hh hk hG hdp hi (fun k hkd => by
    have o1 := (op_ok hkd).1
    refine ⟨fun h => Bool.noConfusion h, fun _ => ?_⟩
    rw [jI_eqN (by omega) (by omega)]
    omega) (Or.inl ⟨rfl, fun _ => rfl⟩)
  refine h.mono (fun q hq => ⟨hq.1.trans (by rw [dnN_none]), hq.2.1.trans ?_, hq.2.2⟩)
  rw [vN_top]
  congr 1
theorem doesWantM {i kf : Nat} (hN : 1000 ≤ N) (hR : Rk H) (hh : Rm H c_holds) (hk : Gk (H 0) z f s e) (hG : Gm 0 z f s e c_many c_firsts c_seconds c_goes) (hdp : cnt z (isOp e) ≤ 7) (hi : i < H 0) (hkf : kf < cnt z (isOp e)) : Ok ((fX9_doesWant N v_open v_sumDown v_sumUp c_chooser c_firsts c_goes c_holds c_later c_many c_opens c_outs c_payOf c_placeOf c_seconds c_sideAt c_won (jI i) (jI (opN z (isOp e) kf)))) (fun q => q.1 = jI (if wtB H z f s e (leafN H z f s e) i kf then 1 else 0) ∧ Gm 0 z f s e c_many c_firsts c_seconds q.2.2.2.2.2.1) := by
  have hz := hk.2.1
  have hn := hR.2.1
  have ok := op_ok hkf
  have o1 := ok.1
  obtain ⟨k1, k2, k3, k4⟩ := hk.2.2 _ o1
  have g1 := (hG.2 _ o1).1
  rw [show ∀ g, 30 * 0 + g = g from fun g => by omega] at g1
  have hL : ∀ r, leafN H z f s e r i ≤ 100000 := fun r => payN_le hR hi
  have fin : ∀ win, win < 2 → win = (if f (opN z (isOp e) kf) = i then 0 else 1) → Ok ((fX9_doesWant_15 N c_firsts c_holds c_many c_seconds (jI i) (jI (opN z (isOp e) kf)) (jI win) v_open v_sumDown v_sumUp c_chooser c_goes c_later c_opens c_outs c_payOf c_placeOf c_sideAt c_won)) (fun q => q.1 = jI (if wtB H z f s e (leafN H z f s e) i kf then 1 else 0) ∧ Gm 0 z f s e c_many c_firsts c_seconds q.2.2.2.2.2.1) := by
    intro win hw hwe
    obtain ⟨⟨a1, a2, a3, a4, a5, a6, a7, a8, a9, a10, a11, a12⟩, e1, _, u1, G1⟩ := worthIfM (N := N) (v_open := v_open) (v_sumDown := v_sumDown) (v_sumUp := v_sumUp) (c_chooser := c_chooser) (c_later := c_later) (c_opens := c_opens) (c_outs := c_outs) (c_payOf := c_payOf) (c_placeOf := c_placeOf) (c_sideAt := c_sideAt) (c_won := c_won) hN hR hh hk hG hdp hi hkf hw
    simp only at u1 G1
    obtain ⟨⟨b1, b2, b3, b4, b5, b6, b7, b8, b9, b10, b11, b12⟩, e2, _, u2, G2⟩ := worthIfM (N := N) (how := 1 - win) (v_open := a1) (v_sumDown := a2) (v_sumUp := a3) (c_chooser := a4) (c_later := a6) (c_opens := a7) (c_outs := a8) (c_payOf := a9) (c_placeOf := a10) (c_sideAt := a11) (c_won := a12) hN hR hh hk G1 hdp hi hkf (by omega)
    simp only at u2 G2
    subst u1 u2
    have w1 := wV_sNf (H := H) (f := f) (s := s) (i := i) hkf hw
    have w2 := wV_sNf (H := H) (f := f) (s := s) (i := i) (how := 1 - win) hkf (by omega)
    have l1 := wV_lt (H := H) (f := f) (s := s) (kf := kf) (how := win) (i := i) (L := leafN H z f s e) hdp hL
    have l2 := wV_lt (H := H) (f := f) (s := s) (kf := kf) (how := 1 - win) (i := i) (L := leafN H z f s e) hdp hL
    have hwt : wtB H z f s e (leafN H z f s e) i kf = decide (sNf H z f s e i kf win < sNf H z f s e i kf (1 - win)) := by
      unfold wtB
      rw [← hwe, show (if f (opN z (isOp e) kf) = i then 1 else 0) = 1 - win by rw [hwe]; split <;> rfl, w1, w2]
      rw [decide_eq_decide]; omega
    rw [hwt]
    by_cases h : sNf H z f s e i kf win < sNf H z f s e i kf (1 - win)
    · rw [if_pos (decide_eq_true h)]
      simp (disch := omega) only [jI_0, jI_1, jI_2, jI_3, jI_4, jI_5, jI_6, jI_7, jI_8, jI_9, jI_10, jI_11, jI_12, jI_13, jI_14, jI_15, jI_16, jI_20, jI_24, jI_26, jI_30, jI_31, jI_32, jI_40, jI_48, jI_56, jI_57, jI_59, jI_60, jI_97, jI_99, jI_122, jI_160, jI_240, jI_255, jI_768, jI_1000, ↓jN_1, ↓jN_2, ↓jN_3, ↓jN_4, ↓jN_8, ↓jN_10, ↓jN_11, ↓jN_12, ↓jN_14, ↓jN_20, jI_addN, jI_le, jI_lt, jI_eq, jI_cl, jI_in, jI_add, jI_sub, jI_eqN, gI_eqI, gI_eqN, gI_leI, gI_ltI, jI_leN, jI_ltN, gI_sub, pif_tt, pif_ff, pg_tt, isB, or_true, true_or, pif_T, pif_F, pg_T, pb_S, upd_e, upd_n, fX9_doesWant_15, fX9_doesWant_53, e1, e2, jL_cmp1]
      exact Ok.s ⟨rfl, G2⟩
    · rw [if_neg (by simpa using h)]
      simp (disch := omega) only [jI_0, jI_1, jI_2, jI_3, jI_4, jI_5, jI_6, jI_7, jI_8, jI_9, jI_10, jI_11, jI_12, jI_13, jI_14, jI_15, jI_16, jI_20, jI_24, jI_26, jI_30, jI_31, jI_32, jI_40, jI_48, jI_56, jI_57, jI_59, jI_60, jI_97, jI_99, jI_122, jI_160, jI_240, jI_255, jI_768, jI_1000, ↓jN_1, ↓jN_2, ↓jN_3, ↓jN_4, ↓jN_8, ↓jN_10, ↓jN_11, ↓jN_12, ↓jN_14, ↓jN_20, jI_addN, jI_le, jI_lt, jI_eq, jI_cl, jI_in, jI_add, jI_sub, jI_eqN, gI_eqI, gI_eqN, gI_leI, gI_ltI, jI_leN, jI_ltN, gI_sub, pif_tt, pif_ff, pg_tt, isB, or_true, true_or, pif_T, pif_F, pg_T, pb_S, upd_e, upd_n, fX9_doesWant_15, fX9_doesWant_53, e1, e2, jL_cmp1]
      exact Ok.s ⟨rfl, G2⟩
  by_cases h1 : f (opN z (isOp e) kf) = i
  · have := fin 0 (by omega) (by rw [if_pos h1])
    simp (disch := omega) only [jI_0, jI_1, jI_2, jI_3, jI_4, jI_5, jI_6, jI_7, jI_8, jI_9, jI_10, jI_11, jI_12, jI_13, jI_14, jI_15, jI_16, jI_20, jI_24, jI_26, jI_30, jI_31, jI_32, jI_40, jI_48, jI_56, jI_57, jI_59, jI_60, jI_97, jI_99, jI_122, jI_160, jI_240, jI_255, jI_768, jI_1000, ↓jN_1, ↓jN_2, ↓jN_3, ↓jN_4, ↓jN_8, ↓jN_10, ↓jN_11, ↓jN_12, ↓jN_14, ↓jN_20, jI_addN, jI_le, jI_lt, jI_eq, jI_cl, jI_in, jI_add, jI_sub, jI_eqN, gI_eqI, gI_eqN, gI_leI, gI_ltI, jI_leN, jI_ltN, gI_sub, pif_tt, pif_ff, pg_tt, isB, or_true, true_or, pif_T, pif_F, pg_T, pb_S, upd_e, upd_n, fX9_doesWant, g1]
    exact this
  · have := fin 1 (by omega) (by rw [if_neg h1])
    simp (disch := omega) only [jI_0, jI_1, jI_2, jI_3, jI_4, jI_5, jI_6, jI_7, jI_8, jI_9, jI_10, jI_11, jI_12, jI_13, jI_14, jI_15, jI_16, jI_20, jI_24, jI_26, jI_30, jI_31, jI_32, jI_40, jI_48, jI_56, jI_57, jI_59, jI_60, jI_97, jI_99, jI_122, jI_160, jI_240, jI_255, jI_768, jI_1000, ↓jN_1, ↓jN_2, ↓jN_3, ↓jN_4, ↓jN_8, ↓jN_10, ↓jN_11, ↓jN_12, ↓jN_14, ↓jN_20, jI_addN, jI_le, jI_lt, jI_eq, jI_cl, jI_in, jI_add, jI_sub, jI_eqN, gI_eqI, gI_eqN, gI_leI, gI_ltI, jI_leN, jI_ltN, gI_sub, pif_tt, pif_ff, pg_tt, isB, or_true, true_or, pif_T, pif_F, pg_T, pb_S, upd_e, upd_n, fX9_doesWant, g1]
    exact this
theorem wantedM {kf : Nat} (hN : 1000 ≤ N) (hR : Rk H) (hh : Rm H c_holds) (hk : Gk (H 0) z f s e) (hG : Gm 0 z f s e c_many c_firsts c_seconds c_goes) (hdp : cnt z (isOp e) ≤ 7) (hkf : kf < cnt z (isOp e)) : Ok ((fX9_wanted N v_open v_sumDown v_sumUp c_chooser c_firsts c_goes c_holds c_later c_many c_opens c_outs c_payOf c_placeOf c_seconds c_sideAt c_won (jI (opN z (isOp e) kf)))) (fun q => q.1 = jI (lsN H z f s e (leafN H z f s e) kf) ∧ Gm 0 z f s e c_many c_firsts c_seconds q.2.2.2.2.2.1) := by
  have hz := hk.2.1
  have hn := hR.2.1
  have ok := op_ok hkf
  have o1 := ok.1
  obtain ⟨k1, k2, k3, k4⟩ := hk.2.2 _ o1
  obtain ⟨g1, g2, g3⟩ := (hG.2 _ o1)
  rw [show ∀ g, 30 * 0 + g = g from fun g => by omega] at g1 g2
  obtain ⟨⟨a0, a1, a2, a3, a4, a5, a6, a7, a8, a9, a10, a11, a12⟩, e1, u1, G1⟩ := doesWantM (N := N) (i := f (opN z (isOp e) kf)) (v_open := v_open) (v_sumDown := v_sumDown) (v_sumUp := v_sumUp) (c_chooser := c_chooser) (c_later := c_later) (c_opens := c_opens) (c_outs := c_outs) (c_payOf := c_payOf) (c_placeOf := c_placeOf) (c_sideAt := c_sideAt) (c_won := c_won) hN hR hh hk hG hdp k1 hkf
  simp only at u1 G1
  obtain ⟨⟨b0, b1, b2, b3, b4, b5, b6, b7, b8, b9, b10, b11, b12⟩, e2, u2, G2⟩ := doesWantM (N := N) (i := s (opN z (isOp e) kf)) (v_open := a1) (v_sumDown := a2) (v_sumUp := a3) (c_chooser := a4) (c_later := a6) (c_opens := a7) (c_outs := a8) (c_payOf := a9) (c_placeOf := a10) (c_sideAt := a11) (c_won := a12) hN hR hh hk G1 hdp k2 hkf
  simp only at u2 G2
  subst u1 u2
  unfold lsN
  cases h1 : wtB H z f s e (leafN H z f s e) (f (opN z (isOp e) kf)) kf
  · rw [h1] at e1
    simp only [Bool.false_eq_true, if_false] at e1 ⊢
    cases h2 : wtB H z f s e (leafN H z f s e) (s (opN z (isOp e) kf)) kf
    · rw [h2] at e2
      simp only [Bool.false_eq_true, if_false] at e2 ⊢
      simp (disch := omega) only [jI_0, jI_1, jI_2, jI_3, jI_4, jI_5, jI_6, jI_7, jI_8, jI_9, jI_10, jI_11, jI_12, jI_13, jI_14, jI_15, jI_16, jI_20, jI_24, jI_26, jI_30, jI_31, jI_32, jI_40, jI_48, jI_56, jI_57, jI_59, jI_60, jI_97, jI_99, jI_122, jI_160, jI_240, jI_255, jI_768, jI_1000, ↓jN_1, ↓jN_2, ↓jN_3, ↓jN_4, ↓jN_8, ↓jN_10, ↓jN_11, ↓jN_12, ↓jN_14, ↓jN_20, jI_addN, jI_le, jI_lt, jI_eq, jI_cl, jI_in, jI_add, jI_sub, jI_eqN, gI_eqI, gI_eqN, gI_leI, gI_ltI, jI_leN, jI_ltN, gI_sub, pif_tt, pif_ff, pg_tt, isB, or_true, true_or, pif_T, pif_F, pg_T, pb_S, upd_e, upd_n, fX9_wanted, fX9_wanted_19, fX9_wanted_38, g1, g2, e1, e2]
      exact Ok.s ⟨rfl, G2⟩
    · rw [h2] at e2
      simp only [if_true] at e2 ⊢
      simp (disch := omega) only [jI_0, jI_1, jI_2, jI_3, jI_4, jI_5, jI_6, jI_7, jI_8, jI_9, jI_10, jI_11, jI_12, jI_13, jI_14, jI_15, jI_16, jI_20, jI_24, jI_26, jI_30, jI_31, jI_32, jI_40, jI_48, jI_56, jI_57, jI_59, jI_60, jI_97, jI_99, jI_122, jI_160, jI_240, jI_255, jI_768, jI_1000, ↓jN_1, ↓jN_2, ↓jN_3, ↓jN_4, ↓jN_8, ↓jN_10, ↓jN_11, ↓jN_12, ↓jN_14, ↓jN_20, jI_addN, jI_le, jI_lt, jI_eq, jI_cl, jI_in, jI_add, jI_sub, jI_eqN, gI_eqI, gI_eqN, gI_leI, gI_ltI, jI_leN, jI_ltN, gI_sub, pif_tt, pif_ff, pg_tt, isB, or_true, true_or, pif_T, pif_F, pg_T, pb_S, upd_e, upd_n, fX9_wanted, fX9_wanted_19, fX9_wanted_38, g1, g2, e1, e2]
      exact Ok.s ⟨rfl, G2⟩
  · rw [h1] at e1
    simp only [if_true] at e1 ⊢
    cases h2 : wtB H z f s e (leafN H z f s e) (s (opN z (isOp e) kf)) kf
    · rw [h2] at e2
      simp only [Bool.false_eq_true, if_false] at e2 ⊢
      simp (disch := omega) only [jI_0, jI_1, jI_2, jI_3, jI_4, jI_5, jI_6, jI_7, jI_8, jI_9, jI_10, jI_11, jI_12, jI_13, jI_14, jI_15, jI_16, jI_20, jI_24, jI_26, jI_30, jI_31, jI_32, jI_40, jI_48, jI_56, jI_57, jI_59, jI_60, jI_97, jI_99, jI_122, jI_160, jI_240, jI_255, jI_768, jI_1000, ↓jN_1, ↓jN_2, ↓jN_3, ↓jN_4, ↓jN_8, ↓jN_10, ↓jN_11, ↓jN_12, ↓jN_14, ↓jN_20, jI_addN, jI_le, jI_lt, jI_eq, jI_cl, jI_in, jI_add, jI_sub, jI_eqN, gI_eqI, gI_eqN, gI_leI, gI_ltI, jI_leN, jI_ltN, gI_sub, pif_tt, pif_ff, pg_tt, isB, or_true, true_or, pif_T, pif_F, pg_T, pb_S, upd_e, upd_n, fX9_wanted, fX9_wanted_19, fX9_wanted_38, g1, g2, e1, e2]
      exact Ok.s ⟨rfl, G2⟩
    · rw [h2] at e2
      simp only [if_true] at e2 ⊢
      simp (disch := omega) only [jI_0, jI_1, jI_2, jI_3, jI_4, jI_5, jI_6, jI_7, jI_8, jI_9, jI_10, jI_11, jI_12, jI_13, jI_14, jI_15, jI_16, jI_20, jI_24, jI_26, jI_30, jI_31, jI_32, jI_40, jI_48, jI_56, jI_57, jI_59, jI_60, jI_97, jI_99, jI_122, jI_160, jI_240, jI_255, jI_768, jI_1000, ↓jN_1, ↓jN_2, ↓jN_3, ↓jN_4, ↓jN_8, ↓jN_10, ↓jN_11, ↓jN_12, ↓jN_14, ↓jN_20, jI_addN, jI_le, jI_lt, jI_eq, jI_cl, jI_in, jI_add, jI_sub, jI_eqN, gI_eqI, gI_eqN, gI_leI, gI_ltI, jI_leN, jI_ltN, gI_sub, pif_tt, pif_ff, pg_tt, isB, or_true, true_or, pif_T, pif_F, pg_T, pb_S, upd_e, upd_n, fX9_wanted, fX9_wanted_19, fX9_wanted_38, g1, g2, e1, e2]
      exact Ok.s ⟨rfl, G2⟩
end
