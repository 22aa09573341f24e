/-! TOKENS: the reference's next. -/
theorem inLH {N v lo hi : Nat} (hv : v < 1000) (hl : lo < 1000) (hh : hi < 1000) : fX9_in N (jL v) (jL lo) (jL hi) = some (jI (if lo ≤ v ∧ v ≤ hi then 1 else 0)) := by
  by_cases h1 : v < lo
  · rw [if_neg (by omega)]
    simp (disch := omega) only [jI_0, jI_1, jI_2, jI_3, jI_4, jI_5, jI_6, jI_7, jI_8, jI_9, jI_10, jI_11, jI_12, jI_13, jI_14, jI_15, jI_16, jI_20, jI_24, jI_26, jI_30, jI_31, jI_32, jI_40, jI_48, jI_56, jI_57, jI_59, jI_60, jI_97, jI_99, jI_122, jI_160, jI_240, jI_255, jI_768, jI_1000, ↓jN_1, ↓jN_2, ↓jN_3, ↓jN_4, ↓jN_8, ↓jN_10, ↓jN_11, ↓jN_12, ↓jN_14, ↓jN_20, jI_addN, jI_le, jI_lt, jI_eq, jI_cl, jI_in, jI_add, jI_sub, jI_eqN, gI_eqI, gI_eqN, gI_leI, gI_ltI, jI_leN, jI_ltN, gI_sub, pif_tt, pif_ff, pg_tt, isB, or_true, true_or, pif_T, pif_F, pg_T, pb_S, upd_e, upd_n, fX9_in, fX9_in_17, fX9_in_18, lg_lt, jL_lt]
  · by_cases h2 : hi < v
    · rw [if_neg (by omega)]
      simp (disch := omega) only [jI_0, jI_1, jI_2, jI_3, jI_4, jI_5, jI_6, jI_7, jI_8, jI_9, jI_10, jI_11, jI_12, jI_13, jI_14, jI_15, jI_16, jI_20, jI_24, jI_26, jI_30, jI_31, jI_32, jI_40, jI_48, jI_56, jI_57, jI_59, jI_60, jI_97, jI_99, jI_122, jI_160, jI_240, jI_255, jI_768, jI_1000, ↓jN_1, ↓jN_2, ↓jN_3, ↓jN_4, ↓jN_8, ↓jN_10, ↓jN_11, ↓jN_12, ↓jN_14, ↓jN_20, jI_addN, jI_le, jI_lt, jI_eq, jI_cl, jI_in, jI_add, jI_sub, jI_eqN, gI_eqI, gI_eqN, gI_leI, gI_ltI, jI_leN, jI_ltN, gI_sub, pif_tt, pif_ff, pg_tt, isB, or_true, true_or, pif_T, pif_F, pg_T, pb_S, upd_e, upd_n, fX9_in, fX9_in_17, fX9_in_18, lg_lt, lg_gt, jL_lt]
    · rw [if_pos (by omega)]
      simp (disch := omega) only [jI_0, jI_1, jI_2, jI_3, jI_4, jI_5, jI_6, jI_7, jI_8, jI_9, jI_10, jI_11, jI_12, jI_13, jI_14, jI_15, jI_16, jI_20, jI_24, jI_26, jI_30, jI_31, jI_32, jI_40, jI_48, jI_56, jI_57, jI_59, jI_60, jI_97, jI_99, jI_122, jI_160, jI_240, jI_255, jI_768, jI_1000, ↓jN_1, ↓jN_2, ↓jN_3, ↓jN_4, ↓jN_8, ↓jN_10, ↓jN_11, ↓jN_12, ↓jN_14, ↓jN_20, jI_addN, jI_le, jI_lt, jI_eq, jI_cl, jI_in, jI_add, jI_sub, jI_eqN, gI_eqI, gI_eqN, gI_leI, gI_ltI, jI_leN, jI_ltN, gI_sub, pif_tt, pif_ff, pg_tt, isB, or_true, true_or, pif_T, pif_F, pg_T, pb_S, upd_e, upd_n, fX9_in, fX9_in_17, fX9_in_18, lg_lt, lg_gt, jL_lt]
theorem inG4 {N lo hi : Nat} (hl : lo < 1000) : fX9_in N (gI 4).toInt64 (jL lo) (jL hi) = some (jI 0) := by
  have h1 : (gI 4).toInt64 < jL lo := by
    rw [Int64.lt_iff_toInt_lt, Int32.toInt_toInt64, gI_toInt (by omega), jL_toInt (by omega)]; omega
  simp (disch := omega) only [jI_0, jI_1, jI_2, jI_3, jI_4, jI_5, jI_6, jI_7, jI_8, jI_9, jI_10, jI_11, jI_12, jI_13, jI_14, jI_15, jI_16, jI_20, jI_24, jI_26, jI_30, jI_31, jI_32, jI_40, jI_48, jI_56, jI_57, jI_59, jI_60, jI_97, jI_99, jI_122, jI_160, jI_240, jI_255, jI_768, jI_1000, ↓jN_1, ↓jN_2, ↓jN_3, ↓jN_4, ↓jN_8, ↓jN_10, ↓jN_11, ↓jN_12, ↓jN_14, ↓jN_20, jI_addN, jI_le, jI_lt, jI_eq, jI_cl, jI_in, jI_add, jI_sub, jI_eqN, gI_eqI, gI_eqN, gI_leI, gI_ltI, jI_leN, jI_ltN, gI_sub, pif_tt, pif_ff, pg_tt, isB, or_true, true_or, pif_T, pif_F, pg_T, pb_S, upd_e, upd_n, fX9_in, fX9_in_17, fX9_in_18, lg_lt, h1]
def rV (t : Nat) (tp : Nat → Nat) (p : Nat) : Nat := if tK t tp p = 1 then rwN (tV t tp p) else tV t tp p
section
variable {v_place : Int32} {v_spot : Int32} {v_taped : Int32} {v_token : Int32} {v_value : Int32} {v_wrong : Int32} {v_wrongAt : Int32} {c_cuts : Nat → Int32} {c_letters : Nat → Int32} {c_tape : Nat → Int32}
variable {N t : Nat} {tp : Nat → Nat}
theorem next_84M {a : Nat} {Q : Int32 × Int32 × Int32 × Int32 × Int32 × Int32 → Prop} (hN : 1000 ≤ N) (ht : t ≤ 240) (ha : a ≤ t) (h256 : ∀ k, k < 240 → tp k < 256) (hb : ∀ k, k < t → c_tape k = jI (tp k)) (hc : Cu c_cuts c_letters) (hQ1 : wd tp a (rnE (isL tp) t a) < 11 → Q (jI a, jI (rnE (isL tp) t a), jI 1, jI (rwN (wd tp a (rnE (isL tp) t a))), jI 0, v_wrongAt)) (hQ2 : ¬ wd tp a (rnE (isL tp) t a) < 11 → Q (jI a, jI (rnE (isL tp) t a), jI 1, gI 4, jI 1, jI a)) : Ok ((fX9_next_84 N (jI t) c_cuts c_letters c_tape N (jI a) (jI a) v_token v_value (jI 0) v_wrongAt)) Q := by
  have fin : ∀ fu e, a ≤ e → e ≤ t → rnE (isL tp) t a = e → (t ≤ e ∨ ¬ (97 ≤ tp e ∧ tp e ≤ 122)) → Ok ((fX9_next_84 N (jI t) c_cuts c_letters c_tape (fu + 1) (jI a) (jI e) v_token v_value (jI 0) v_wrongAt)) Q := by
    intro fu e hae het hr hno
    rw [hr] at hQ1 hQ2
    have nm := nameM (N := N) (t := t) (tp := tp) (c_cuts := c_cuts) (c_letters := c_letters) (c_tape := c_tape) hN ht hae het h256 hb hc
    have by1 := byteM (N := N) (p := e) ht (by omega) hb
    have step : fX9_byteAt N (jI t) c_tape (jI e) = some (if e < t then jI (tp e) else gI 4) ∧ fX9_in N ((if e < t then jI (tp e) else gI 4) : Int32).toInt64 (jL 97) (jL 122) = some (jI 0) := by
      refine ⟨by1, ?_⟩
      by_cases h : e < t
      · have h25 := h256 e (by omega)
        rw [if_pos h, jI_L (by omega), inLH (by omega) (by omega) (by omega), if_neg (by omega)]
      · rw [if_neg h]; exact inG4 (by omega)
    obtain ⟨s1, s2⟩ := step
    generalize (if e < t then jI (tp e) else gI 4) = bv at *
    by_cases hw : wd tp a e < 11
    · rw [if_pos hw] at nm
      have hrl := (rw_all (wd tp a e) hw).2.2.1
      have hq := hQ1 hw
      generalize rwN (wd tp a e) = rv at *
      rw [fX9_next_84]
      simp (disch := omega) only [jI_0, jI_1, jI_2, jI_3, jI_4, jI_5, jI_6, jI_7, jI_8, jI_9, jI_10, jI_11, jI_12, jI_13, jI_14, jI_15, jI_16, jI_20, jI_24, jI_26, jI_30, jI_31, jI_32, jI_40, jI_48, jI_56, jI_57, jI_59, jI_60, jI_97, jI_99, jI_122, jI_160, jI_240, jI_255, jI_768, jI_1000, ↓jN_1, ↓jN_2, ↓jN_3, ↓jN_4, ↓jN_8, ↓jN_10, ↓jN_11, ↓jN_12, ↓jN_14, ↓jN_20, jI_addN, jI_le, jI_lt, jI_eq, jI_cl, jI_in, jI_add, jI_sub, jI_eqN, gI_eqI, gI_eqN, gI_leI, gI_ltI, jI_leN, jI_ltN, gI_sub, pif_tt, pif_ff, pg_tt, isB, or_true, true_or, pif_T, pif_F, pg_T, pb_Q, upd_e, upd_n, fX9_next_299, s1, show (97 : Int64) = jL 97 from rfl, show (122 : Int64) = jL 122 from rfl, s2, nm]
      exact Ok.s hq
    · rw [if_neg hw] at nm
      rw [fX9_next_84]
      simp (disch := omega) only [jI_0, jI_1, jI_2, jI_3, jI_4, jI_5, jI_6, jI_7, jI_8, jI_9, jI_10, jI_11, jI_12, jI_13, jI_14, jI_15, jI_16, jI_20, jI_24, jI_26, jI_30, jI_31, jI_32, jI_40, jI_48, jI_56, jI_57, jI_59, jI_60, jI_97, jI_99, jI_122, jI_160, jI_240, jI_255, jI_768, jI_1000, ↓jN_1, ↓jN_2, ↓jN_3, ↓jN_4, ↓jN_8, ↓jN_10, ↓jN_11, ↓jN_12, ↓jN_14, ↓jN_20, jI_addN, jI_le, jI_lt, jI_eq, jI_cl, jI_in, jI_add, jI_sub, jI_eqN, gI_eqI, gI_eqN, gI_leI, gI_ltI, jI_leN, jI_ltN, gI_sub, pif_tt, pif_ff, pg_tt, isB, or_true, true_or, pif_T, pif_F, pg_T, pb_Q, upd_e, upd_n, fX9_next_299, fX9_fails, fX9_fails_20, s1, show (97 : Int64) = jL 97 from rfl, show (122 : Int64) = jL 122 from rfl, s2, nm]
      exact Ok.s (hQ2 hw)
  refine up_ok (fun fu p (_ : Unit) => (fX9_next_84 N (jI t) c_cuts c_letters c_tape fu (jI a) (jI p) v_token v_value (jI 0) v_wrongAt)) _ t (fun p _ => a ≤ p ∧ rnE (isL tp) t a = rnE (isL tp) t p) ?_ ?_ N a () ha (by omega) ⟨Nat.le_refl _, rfl⟩
  · intro fu p _ hp ⟨hap, hr⟩ ih
    by_cases hl : 97 ≤ tp p ∧ tp p ≤ 122
    · have by1 := byteM (N := N) (p := p) ht (by omega) hb
      rw [if_pos hp] at by1
      have h25 := h256 p (by omega)
      have i1 := inLH (N := N) (v := tp p) (lo := 97) (hi := 122) (by omega) (by omega) (by omega)
      rw [if_pos hl] at i1
      have hg := rnE_go (q := isL tp) hp (decide_eq_true hl)
      have nx := ih () ⟨by omega, hr.trans hg⟩
      show Ok ((fX9_next_84 N (jI t) c_cuts c_letters c_tape (fu + 1) (jI a) (jI p) v_token v_value (jI 0) v_wrongAt)) _
      rw [fX9_next_84]
      simp (disch := omega) only [jI_0, jI_1, jI_2, jI_3, jI_4, jI_5, jI_6, jI_7, jI_8, jI_9, jI_10, jI_11, jI_12, jI_13, jI_14, jI_15, jI_16, jI_20, jI_24, jI_26, jI_30, jI_31, jI_32, jI_40, jI_48, jI_56, jI_57, jI_59, jI_60, jI_97, jI_99, jI_122, jI_160, jI_240, jI_255, jI_768, jI_1000, ↓jN_1, ↓jN_2, ↓jN_3, ↓jN_4, ↓jN_8, ↓jN_10, ↓jN_11, ↓jN_12, ↓jN_14, ↓jN_20, jI_addN, jI_le, jI_lt, jI_eq, jI_cl, jI_in, jI_add, jI_sub, jI_eqN, gI_eqI, gI_eqN, gI_leI, gI_ltI, jI_leN, jI_ltN, gI_sub, pif_tt, pif_ff, pg_tt, isB, or_true, true_or, pif_T, pif_F, pg_T, pb_Q, upd_e, upd_n, by1, jI_L, show (97 : Int64) = jL 97 from rfl, show (122 : Int64) = jL 122 from rfl, i1]
      exact nx
    · have hg := rnE_no (q := isL tp) (t := t) (p := p) (by simpa [isL] using hl)
      exact fin fu p hap (by omega) (hr.trans hg) (Or.inr hl)
  · intro fu _ ⟨hap, hr⟩
    have hg := rnE_end (q := isL tp) (Nat.le_refl t)
    exact fin fu t hap (Nat.le_refl _) (hr.trans hg) (Or.inl (Nat.le_refl _))
theorem next_170M {a : Nat} {Q : Int32 × Int32 × Int32 × Int32 × Int32 × Int32 → Prop} (hN : 1000 ≤ N) (ht : t ≤ 240) (ha : a ≤ t) (h256 : ∀ k, k < 240 → tp k < 256) (hb : ∀ k, k < t → c_tape k = jI (tp k)) (hQ1 : rnE (isF tp) t a - a ≤ 2 → Q (jI a, jI (rnE (isF tp) t a), jI 2, jI (nvN tp a (rnE (isF tp) t a - a)), jI 0, v_wrongAt)) (hQ2 : ¬ rnE (isF tp) t a - a ≤ 2 → ∀ v, Q (jI a, jI (rnE (isF tp) t a), jI 2, v, jI 1, jI a)) : Ok ((fX9_next_170 N (jI t) c_cuts c_letters c_tape N (jI a) (jI a) v_token (jI 0) (jI 0) v_wrongAt)) Q := by
  have fin : ∀ fu e (v : Int32), a ≤ e → e ≤ t → (e - a ≤ 2 → v = jI (nvN tp a (e - a))) → rnE (isF tp) t a = e → (t ≤ e ∨ ¬ (48 ≤ tp e ∧ tp e ≤ 57)) → Ok ((fX9_next_170 N (jI t) c_cuts c_letters c_tape (fu + 1) (jI a) (jI e) v_token v (jI 0) v_wrongAt)) Q := by
    intro fu e v hae het hv hr hno
    rw [hr] at hQ1 hQ2
    have by1 := byteM (N := N) (p := e) ht (by omega) hb
    have s2 : fX9_in N ((if e < t then jI (tp e) else gI 4) : Int32).toInt64 (jL 48) (jL 57) = some (jI 0) := by
      by_cases h : e < t
      · have h25 := h256 e (by omega)
        rw [if_pos h, jI_L (by omega), inLH (by omega) (by omega) (by omega), if_neg (by omega)]
      · rw [if_neg h]; exact inG4 (by omega)
    generalize (if e < t then jI (tp e) else gI 4) = bv at *
    by_cases h2 : e - a ≤ 2
    · have hq := hQ1 h2
      rw [← hv h2] at hq
      rw [fX9_next_170]
      simp (disch := omega) only [jI_0, jI_1, jI_2, jI_3, jI_4, jI_5, jI_6, jI_7, jI_8, jI_9, jI_10, jI_11, jI_12, jI_13, jI_14, jI_15, jI_16, jI_20, jI_24, jI_26, jI_30, jI_31, jI_32, jI_40, jI_48, jI_56, jI_57, jI_59, jI_60, jI_97, jI_99, jI_122, jI_160, jI_240, jI_255, jI_768, jI_1000, ↓jN_1, ↓jN_2, ↓jN_3, ↓jN_4, ↓jN_8, ↓jN_10, ↓jN_11, ↓jN_12, ↓jN_14, ↓jN_20, jI_addN, jI_le, jI_lt, jI_eq, jI_cl, jI_in, jI_add, jI_sub, jI_eqN, gI_eqI, gI_eqN, gI_leI, gI_ltI, jI_leN, jI_ltN, gI_sub, pif_tt, pif_ff, pg_tt, isB, or_true, true_or, pif_T, pif_F, pg_T, pb_Q, upd_e, upd_n, fX9_next_299, by1, show (48 : Int64) = jL 48 from rfl, show (57 : Int64) = jL 57 from rfl, s2]
      exact Ok.s hq
    · rw [fX9_next_170]
      simp (disch := omega) only [jI_0, jI_1, jI_2, jI_3, jI_4, jI_5, jI_6, jI_7, jI_8, jI_9, jI_10, jI_11, jI_12, jI_13, jI_14, jI_15, jI_16, jI_20, jI_24, jI_26, jI_30, jI_31, jI_32, jI_40, jI_48, jI_56, jI_57, jI_59, jI_60, jI_97, jI_99, jI_122, jI_160, jI_240, jI_255, jI_768, jI_1000, ↓jN_1, ↓jN_2, ↓jN_3, ↓jN_4, ↓jN_8, ↓jN_10, ↓jN_11, ↓jN_12, ↓jN_14, ↓jN_20, jI_addN, jI_le, jI_lt, jI_eq, jI_cl, jI_in, jI_add, jI_sub, jI_eqN, gI_eqI, gI_eqN, gI_leI, gI_ltI, jI_leN, jI_ltN, gI_sub, pif_tt, pif_ff, pg_tt, isB, or_true, true_or, pif_T, pif_F, pg_T, pb_Q, upd_e, upd_n, fX9_next_299, fX9_fails, fX9_fails_20, by1, show (48 : Int64) = jL 48 from rfl, show (57 : Int64) = jL 57 from rfl, s2]
      exact Ok.s (hQ2 h2 v)
  refine up_ok (fun fu p (v : Int32) => (fX9_next_170 N (jI t) c_cuts c_letters c_tape fu (jI a) (jI p) v_token v (jI 0) v_wrongAt)) _ t (fun p v => a ≤ p ∧ rnE (isF tp) t a = rnE (isF tp) t p ∧ (p - a ≤ 2 → v = jI (nvN tp a (p - a)))) ?_ ?_ N a (jI 0) ha (by omega) ⟨Nat.le_refl _, rfl, fun _ => by rw [Nat.sub_self]; rfl⟩
  · intro fu p v hp ⟨hap, hr, hv⟩ ih
    by_cases hl : 48 ≤ tp p ∧ tp p ≤ 57
    · have by1 := byteM (N := N) (p := p) ht (by omega) hb
      rw [if_pos hp] at by1
      have h25 := h256 p (by omega)
      have i1 := inLH (N := N) (v := tp p) (lo := 48) (hi := 57) (by omega) (by omega) (by omega)
      rw [if_pos hl] at i1
      have hg := rnE_go (q := isF tp) hp (decide_eq_true hl)
      show Ok ((fX9_next_170 N (jI t) c_cuts c_letters c_tape (fu + 1) (jI a) (jI p) v_token v (jI 0) v_wrongAt)) _
      by_cases h2 : 2 ≤ p - a
      · have nx := ih v ⟨by omega, hr.trans hg, fun h => by omega⟩
        rw [fX9_next_170]
        simp (disch := omega) only [jI_0, jI_1, jI_2, jI_3, jI_4, jI_5, jI_6, jI_7, jI_8, jI_9, jI_10, jI_11, jI_12, jI_13, jI_14, jI_15, jI_16, jI_20, jI_24, jI_26, jI_30, jI_31, jI_32, jI_40, jI_48, jI_56, jI_57, jI_59, jI_60, jI_97, jI_99, jI_122, jI_160, jI_240, jI_255, jI_768, jI_1000, ↓jN_1, ↓jN_2, ↓jN_3, ↓jN_4, ↓jN_8, ↓jN_10, ↓jN_11, ↓jN_12, ↓jN_14, ↓jN_20, jI_addN, jI_le, jI_lt, jI_eq, jI_cl, jI_in, jI_add, jI_sub, jI_eqN, gI_eqI, gI_eqN, gI_leI, gI_ltI, jI_leN, jI_ltN, gI_sub, pif_tt, pif_ff, pg_tt, isB, or_true, true_or, pif_T, pif_F, pg_T, pb_Q, upd_e, upd_n, fX9_next_231, by1, jI_L, show (48 : Int64) = jL 48 from rfl, show (57 : Int64) = jL 57 from rfl, i1]
        exact nx
      · have hvv := hv (by omega)
        subst hvv
        have hnx : jI 10 * jI (nvN tp a (p - a)) + jI (tp p) - jI 48 = jI (nvN tp a (p - a) * 10 + (tp p - 48)) := by
          rw [jI_mul, jI_add, jI_sub (by omega)]; congr 1; omega
        have nx := ih (jI (nvN tp a (p - a) * 10 + (tp p - 48))) ⟨by omega, hr.trans hg, fun _ => by
          rw [show p + 1 - a = (p - a) + 1 by omega]
          simp only [nvN]
          rw [show a + (p - a) = p by omega]⟩
        rw [← hnx] at nx
        rw [fX9_next_170]
        simp (disch := omega) only [jI_0, jI_1, jI_2, jI_3, jI_4, jI_5, jI_6, jI_7, jI_8, jI_9, jI_10, jI_11, jI_12, jI_13, jI_14, jI_15, jI_16, jI_20, jI_24, jI_26, jI_30, jI_31, jI_32, jI_40, jI_48, jI_56, jI_57, jI_59, jI_60, jI_97, jI_99, jI_122, jI_160, jI_240, jI_255, jI_768, jI_1000, jI_add, jI_sub, jI_le, jI_eq, jI_L, fX9_next_231, by1, show (48 : Int64) = jL 48 from rfl, show (57 : Int64) = jL 57 from rfl, i1, pb_Q, pif_F, pif_T] at nx ⊢
        exact nx
    · have hg := rnE_no (q := isF tp) (t := t) (p := p) (by simpa [isF] using hl)
      exact fin fu p v hap (by omega) hv (hr.trans hg) (Or.inr hl)
  · intro fu v ⟨hap, hr, hv⟩
    have hg := rnE_end (q := isF tp) (Nat.le_refl t)
    exact fin fu t v hap (Nat.le_refl _) hv (hr.trans hg) (Or.inl (Nat.le_refl _))
end
