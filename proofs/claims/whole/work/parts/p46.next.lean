/-! TOKENS: the reference's next, whole. -/
section
variable {v_place : Int32} {v_spot : Int32} {v_taped : Int32} {v_token : Int32} {v_value : Int32} {v_wrong : Int32} {v_wrongAt : Int32} {c_cuts : Nat → Int32} {c_letters : Nat → Int32} {c_tape : Nat → Int32}
variable {N t : Nat} {tp : Nat → Nat}
theorem nextM {p : Nat} {Q : Int32 × Int32 × Int32 × Int32 × Int32 × Int32 → Prop} (hN : 1000 ≤ N) (ht : t ≤ 240) (hp : p ≤ t) (h256 : ∀ k, k < 240 → tp k < 256) (hb : ∀ k, k < t → c_tape k = jI (tp k)) (hc : Cu c_cuts c_letters) (hQ1 : tK t tp p ≠ 4 → Q (jI (tS t tp p), jI (tE t tp p), jI (tK t tp p), jI (rV t tp p), jI 0, v_wrongAt)) (hQ2 : tK t tp p = 4 → ∀ k v, Q (jI (tS t tp p), jI (tE t tp p), k, v, jI 1, jI (tS t tp p))) : Ok ((fX9_next N v_place (jI p) (jI t) v_token v_value (jI 0) v_wrongAt c_cuts c_letters c_tape)) Q := by
  have fin : ∀ fu a, a ≤ t → tS t tp p = a → (t ≤ a ∨ ¬ tp a = 32) → Ok ((fX9_next_8 N (jI t) c_cuts c_letters c_tape (fu + 1) v_place (jI a) v_token v_value (jI 0) v_wrongAt)) Q := by
    intro fu a hat hr hno
    have by1 := byteM (N := N) (p := a) ht (by omega) hb
    by_cases hlt : a < t
    · rw [if_pos hlt] at by1
      have h25 := h256 a (by omega)
      have hns : ¬ tp a = 32 := by omega
      have i1 := inLH (N := N) (v := tp a) (lo := 97) (hi := 122) (by omega) (by omega) (by omega)
      have i2 := inLH (N := N) (v := tp a) (lo := 48) (hi := 57) (by omega) (by omega) (by omega)
      have hg4 : (jI (tp a) = gI 4) = False := by rw [jI_eqN (by omega) (by omega)]; simp
      by_cases hl : 97 ≤ tp a ∧ tp a ≤ 122
      · have hR : tR t tp p = 1 := by
          unfold tR; rw [hr, if_neg (by omega), if_pos (show isL tp a = true from decide_eq_true hl)]
        have hE : tE t tp p = rnE (isL tp) t a := by
          unfold tE; rw [hR, hr]; rfl
        rw [if_pos hl] at i1
        have m := next_84M (N := N) (t := t) (tp := tp) (a := a) (Q := Q) (v_token := v_token) (v_value := jI 0) (v_wrongAt := v_wrongAt) hN ht hat h256 hb hc ?_ ?_
        · rw [fX9_next_8]
          simp (disch := omega) only [jI_0, jI_1, jI_2, jI_3, jI_4, jI_5, jI_6, jI_7, jI_8, jI_9, jI_10, jI_11, jI_12, jI_13, jI_14, jI_15, jI_16, jI_20, jI_24, jI_26, jI_30, jI_31, jI_32, jI_40, jI_48, jI_56, jI_57, jI_59, jI_60, jI_97, jI_99, jI_122, jI_160, jI_240, jI_255, jI_768, jI_1000, ↓jN_1, ↓jN_2, ↓jN_3, ↓jN_4, ↓jN_8, ↓jN_10, ↓jN_11, ↓jN_12, ↓jN_14, ↓jN_20, jI_addN, jI_le, jI_lt, jI_eq, jI_cl, jI_in, jI_add, jI_sub, jI_eqN, gI_eqI, gI_eqN, gI_leI, gI_ltI, jI_leN, jI_ltN, gI_sub, pif_tt, pif_ff, pg_tt, isB, or_true, true_or, pif_T, pif_F, pg_T, pb_Q, upd_e, upd_n, by1, hg4, jI_L, show (97 : Int64) = jL 97 from rfl, show (122 : Int64) = jL 122 from rfl, i1]
          exact m
        · intro h
          have hK : tK t tp p = 1 := by unfold tK; rw [hR, hE, hr, if_pos rfl, if_pos h]
          have hV : tV t tp p = wd tp a (rnE (isL tp) t a) := by unfold tV; rw [hR, hE, hr, if_pos rfl, if_pos h]
          have := hQ1 (by omega)
          rw [rV, hK, hV, hE, hr, if_pos rfl] at this
          exact this
        · intro h
          have hK : tK t tp p = 4 := by unfold tK; rw [hR, hE, hr, if_pos rfl, if_neg h]
          have := hQ2 hK (jI 1) (gI 4)
          rw [hE, hr] at this
          exact this
      · rw [if_neg hl] at i1
        have hl' : isL tp a = false := decide_eq_false hl
        by_cases hf : 48 ≤ tp a ∧ tp a ≤ 57
        · have hR : tR t tp p = 2 := by
            unfold tR; rw [hr, if_neg (by omega), hl', if_neg (by simp), if_pos (show isF tp a = true from decide_eq_true hf)]
          have hE : tE t tp p = rnE (isF tp) t a := by
            unfold tE; rw [hR, hr]; rfl
          rw [if_pos hf] at i2
          have m := next_170M (N := N) (t := t) (tp := tp) (a := a) (Q := Q) (c_cuts := c_cuts) (c_letters := c_letters) (v_token := v_token) (v_wrongAt := v_wrongAt) hN ht hat h256 hb ?_ ?_
          · rw [fX9_next_8]
            simp (disch := omega) only [jI_0, jI_1, jI_2, jI_3, jI_4, jI_5, jI_6, jI_7, jI_8, jI_9, jI_10, jI_11, jI_12, jI_13, jI_14, jI_15, jI_16, jI_20, jI_24, jI_26, jI_30, jI_31, jI_32, jI_40, jI_48, jI_56, jI_57, jI_59, jI_60, jI_97, jI_99, jI_122, jI_160, jI_240, jI_255, jI_768, jI_1000, ↓jN_1, ↓jN_2, ↓jN_3, ↓jN_4, ↓jN_8, ↓jN_10, ↓jN_11, ↓jN_12, ↓jN_14, ↓jN_20, jI_addN, jI_le, jI_lt, jI_eq, jI_cl, jI_in, jI_add, jI_sub, jI_eqN, gI_eqI, gI_eqN, gI_leI, gI_ltI, jI_leN, jI_ltN, gI_sub, pif_tt, pif_ff, pg_tt, isB, or_true, true_or, pif_T, pif_F, pg_T, pb_Q, upd_e, upd_n, by1, hg4, jI_L, show (97 : Int64) = jL 97 from rfl, show (122 : Int64) = jL 122 from rfl, show (48 : Int64) = jL 48 from rfl, show (57 : Int64) = jL 57 from rfl, i1, i2]
            exact m
          · intro h
            have hK : tK t tp p = 2 := by unfold tK; rw [hR, hE, hr, if_neg (by omega), if_pos rfl, if_pos h]
            have hV : tV t tp p = nvN tp a (rnE (isF tp) t a - a) := by unfold tV; rw [hR, hE, hr, if_neg (by omega), if_pos rfl, if_pos h]
            have := hQ1 (by omega)
            rw [rV, hK, hV, hE, hr, if_neg (by omega)] at this
            exact this
          · intro h v
            have hK : tK t tp p = 4 := by unfold tK; rw [hR, hE, hr, if_neg (by omega), if_pos rfl, if_neg h]
            have := hQ2 hK (jI 2) v
            rw [hE, hr] at this
            exact this
        · rw [if_neg hf] at i2
          have hf' : isF tp a = false := decide_eq_false hf
          by_cases h59 : tp a = 59
          · have hR : tR t tp p = 3 := by
              unfold tR; rw [hr, if_neg (by omega), hl', if_neg (by simp), hf', if_neg (by simp), if_pos h59]
            have hE : tE t tp p = a + 1 := by
              unfold tE; rw [hR, hr]; rfl
            have hK : tK t tp p = 3 := by unfold tK; rw [hR]; rfl
            have hV : tV t tp p = 0 := by unfold tV; rw [hR]; rfl
            have h1 := hQ1 (by omega)
            rw [rV, hK, hV, hE, hr, if_neg (by omega)] at h1
            rw [fX9_next_8]
            simp (disch := omega) only [jI_0, jI_1, jI_2, jI_3, jI_4, jI_5, jI_6, jI_7, jI_8, jI_9, jI_10, jI_11, jI_12, jI_13, jI_14, jI_15, jI_16, jI_20, jI_24, jI_26, jI_30, jI_31, jI_32, jI_40, jI_48, jI_56, jI_57, jI_59, jI_60, jI_97, jI_99, jI_122, jI_160, jI_240, jI_255, jI_768, jI_1000, ↓jN_1, ↓jN_2, ↓jN_3, ↓jN_4, ↓jN_8, ↓jN_10, ↓jN_11, ↓jN_12, ↓jN_14, ↓jN_20, jI_addN, jI_le, jI_lt, jI_eq, jI_cl, jI_in, jI_add, jI_sub, jI_eqN, gI_eqI, gI_eqN, gI_leI, gI_ltI, jI_leN, jI_ltN, gI_sub, pif_tt, pif_ff, pg_tt, isB, or_true, true_or, pif_T, pif_F, pg_T, pb_Q, upd_e, upd_n, by1, hg4, jI_L, show (97 : Int64) = jL 97 from rfl, show (122 : Int64) = jL 122 from rfl, show (48 : Int64) = jL 48 from rfl, show (57 : Int64) = jL 57 from rfl, i1, i2, fX9_next_299]
            exact Ok.s h1
          · have hR : tR t tp p = 4 := by
              unfold tR; rw [hr, if_neg (by omega), hl', if_neg (by simp), hf', if_neg (by simp), if_neg h59]
            have hE : tE t tp p = a + 1 := by
              unfold tE; rw [hR, hr]; rfl
            have hK : tK t tp p = 4 := by unfold tK; rw [hR]; rfl
            have h1 := hQ2 hK (jI 3) (jI 0)
            rw [hE, hr] at h1
            rw [fX9_next_8]
            simp (disch := omega) only [jI_0, jI_1, jI_2, jI_3, jI_4, jI_5, jI_6, jI_7, jI_8, jI_9, jI_10, jI_11, jI_12, jI_13, jI_14, jI_15, jI_16, jI_20, jI_24, jI_26, jI_30, jI_31, jI_32, jI_40, jI_48, jI_56, jI_57, jI_59, jI_60, jI_97, jI_99, jI_122, jI_160, jI_240, jI_255, jI_768, jI_1000, ↓jN_1, ↓jN_2, ↓jN_3, ↓jN_4, ↓jN_8, ↓jN_10, ↓jN_11, ↓jN_12, ↓jN_14, ↓jN_20, jI_addN, jI_le, jI_lt, jI_eq, jI_cl, jI_in, jI_add, jI_sub, jI_eqN, gI_eqI, gI_eqN, gI_leI, gI_ltI, jI_leN, jI_ltN, gI_sub, pif_tt, pif_ff, pg_tt, isB, or_true, true_or, pif_T, pif_F, pg_T, pb_Q, upd_e, upd_n, by1, hg4, jI_L, show (97 : Int64) = jL 97 from rfl, show (122 : Int64) = jL 122 from rfl, show (48 : Int64) = jL 48 from rfl, show (57 : Int64) = jL 57 from rfl, i1, i2, fX9_next_299, fX9_fails, fX9_fails_20]
            exact Ok.s h1
    · rw [if_neg hlt] at by1
      have hR : tR t tp p = 0 := by
        unfold tR; rw [hr, if_pos (by omega)]
      have hE : tE t tp p = a := by
        unfold tE; rw [hR, hr]; rfl
      have hK : tK t tp p = 0 := by unfold tK; rw [hR]; rfl
      have hV : tV t tp p = 0 := by unfold tV; rw [hR]; rfl
      have h1 := hQ1 (by omega)
      rw [rV, hK, hV, hE, hr, if_neg (by omega)] at h1
      have hg : (gI 4 = jI 32) = False := by rw [gI_eqI (by omega) (by omega)]; simp
      rw [fX9_next_8]
      simp (disch := omega) only [jI_0, jI_1, jI_2, jI_3, jI_4, jI_5, jI_6, jI_7, jI_8, jI_9, jI_10, jI_11, jI_12, jI_13, jI_14, jI_15, jI_16, jI_20, jI_24, jI_26, jI_30, jI_31, jI_32, jI_40, jI_48, jI_56, jI_57, jI_59, jI_60, jI_97, jI_99, jI_122, jI_160, jI_240, jI_255, jI_768, jI_1000, ↓jN_1, ↓jN_2, ↓jN_3, ↓jN_4, ↓jN_8, ↓jN_10, ↓jN_11, ↓jN_12, ↓jN_14, ↓jN_20, jI_addN, jI_le, jI_lt, jI_eq, jI_cl, jI_in, jI_add, jI_sub, jI_eqN, gI_eqI, gI_eqN, gI_leI, gI_ltI, jI_leN, jI_ltN, gI_sub, pif_tt, pif_ff, pg_tt, isB, or_true, true_or, pif_T, pif_F, pg_T, pb_Q, upd_e, upd_n, by1, hg, fX9_next_299]
      exact Ok.s h1
  simp (disch := omega) only [jI_0, jI_1, jI_2, jI_3, jI_4, jI_5, jI_6, jI_7, jI_8, jI_9, jI_10, jI_11, jI_12, jI_13, jI_14, jI_15, jI_16, jI_20, jI_24, jI_26, jI_30, jI_31, jI_32, jI_40, jI_48, jI_56, jI_57, jI_59, jI_60, jI_97, jI_99, jI_122, jI_160, jI_240, jI_255, jI_768, jI_1000, ↓jN_1, ↓jN_2, ↓jN_3, ↓jN_4, ↓jN_8, ↓jN_10, ↓jN_11, ↓jN_12, ↓jN_14, ↓jN_20, jI_addN, jI_le, jI_lt, jI_eq, jI_cl, jI_in, jI_add, jI_sub, jI_eqN, gI_eqI, gI_eqN, gI_leI, gI_ltI, jI_leN, jI_ltN, gI_sub, pif_tt, pif_ff, pg_tt, isB, or_true, true_or, pif_T, pif_F, pg_T, pb_Q, upd_e, upd_n, fX9_next]
  refine up_ok (fun fu a (_ : Unit) => (fX9_next_8 N (jI t) c_cuts c_letters c_tape fu v_place (jI a) v_token v_value (jI 0) v_wrongAt)) _ t (fun a _ => tS t tp p = rnE (isS tp) t a) ?_ ?_ N p () hp (by omega) rfl
  · intro fu a _ ha hr ih
    by_cases hs : tp a = 32
    · have by1 := byteM (N := N) (p := a) ht (by omega) hb
      rw [if_pos ha, hs] at by1
      have nx := ih () (hr.trans (rnE_go (q := isS tp) ha (decide_eq_true hs)))
      show Ok ((fX9_next_8 N (jI t) c_cuts c_letters c_tape (fu + 1) v_place (jI a) v_token v_value (jI 0) v_wrongAt)) _
      rw [fX9_next_8]
      simp (disch := omega) only [jI_0, jI_1, jI_2, jI_3, jI_4, jI_5, jI_6, jI_7, jI_8, jI_9, jI_10, jI_11, jI_12, jI_13, jI_14, jI_15, jI_16, jI_20, jI_24, jI_26, jI_30, jI_31, jI_32, jI_40, jI_48, jI_56, jI_57, jI_59, jI_60, jI_97, jI_99, jI_122, jI_160, jI_240, jI_255, jI_768, jI_1000, ↓jN_1, ↓jN_2, ↓jN_3, ↓jN_4, ↓jN_8, ↓jN_10, ↓jN_11, ↓jN_12, ↓jN_14, ↓jN_20, jI_addN, jI_le, jI_lt, jI_eq, jI_cl, jI_in, jI_add, jI_sub, jI_eqN, gI_eqI, gI_eqN, gI_leI, gI_ltI, jI_leN, jI_ltN, gI_sub, pif_tt, pif_ff, pg_tt, isB, or_true, true_or, pif_T, pif_F, pg_T, pb_Q, upd_e, upd_n, by1]
      exact nx
    · exact fin fu a (by omega) (hr.trans (rnE_no (q := isS tp) (decide_eq_false hs))) (Or.inr hs)
  · intro fu _ hr
    exact fin fu t (Nat.le_refl _) (hr.trans (rnE_end (q := isS tp) (Nat.le_refl t))) (Or.inl (Nat.le_refl _))
theorem nextW {wr : Nat} {Q : Int32 × Int32 × Int32 × Int32 × Int32 × Int32 → Prop} (h0 : 0 < wr) (h1 : wr < 1000) (hQ : Q (v_place, v_spot, v_token, v_value, jI wr, v_wrongAt)) : Ok ((fX9_next N v_place v_spot v_taped v_token v_value (jI wr) v_wrongAt c_cuts c_letters c_tape)) Q := by
  simp (disch := omega) only [jI_0, jI_1, jI_2, jI_3, jI_4, jI_5, jI_6, jI_7, jI_8, jI_9, jI_10, jI_11, jI_12, jI_13, jI_14, jI_15, jI_16, jI_20, jI_24, jI_26, jI_30, jI_31, jI_32, jI_40, jI_48, jI_56, jI_57, jI_59, jI_60, jI_97, jI_99, jI_122, jI_160, jI_240, jI_255, jI_768, jI_1000, ↓jN_1, ↓jN_2, ↓jN_3, ↓jN_4, ↓jN_8, ↓jN_10, ↓jN_11, ↓jN_12, ↓jN_14, ↓jN_20, jI_addN, jI_le, jI_lt, jI_eq, jI_cl, jI_in, jI_add, jI_sub, jI_eqN, gI_eqI, gI_eqN, gI_leI, gI_ltI, jI_leN, jI_ltN, gI_sub, pif_tt, pif_ff, pg_tt, isB, or_true, true_or, pif_T, pif_F, pg_T, pb_Q, upd_e, upd_n, fX9_next]
  exact Ok.s hQ
end
