/-! TOKENS: all of them, the class. -/
section
variable {v_length : Int32} {v_next : Int32} {c_bytes : Nat → Int32} {c_meaning : Nat → Int32} {c_start : Nat → Int32} {c_token : Nat → Int32}
variable {N t : Nat} {tp : Nat → Nat}
theorem takeNextX {p k : Nat} (hN : 1000 ≤ N) (ht : t ≤ 240) (hk : k ≤ 240) (h256 : ∀ k, k < 240 → tp k < 256) (hb : ∀ k, k < t → c_bytes k = bI (tp k)) (hs : c_start k = jI (tS t tp p)) (hm : c_meaning k = jI 0) (hr : tR t tp p ≠ 0) (hto : c_token k = jI (tR t tp p)) : Ok (fX5_takeNext N (jI t) (jI (tS t tp p)) c_bytes c_meaning c_start c_token (jI k)) (fun q => q.1 = jI (tE t tp p) ∧ q.2.1 k = jI (tV t tp p) ∧ q.2.2 k = jI (tK t tp p) ∧ ∀ j, j ≠ k → q.2.1 j = c_meaning j ∧ q.2.2 j = c_token j) := by
  obtain ⟨h1, h2, h3⟩ := tE_gt hr
  have hrl := tR_le t tp p
  by_cases r1 : tR t tp p = 1
  · have hE : tE t tp p = rnE (isL tp) t (tS t tp p) := by unfold tE; rw [if_neg hr, if_pos r1]
    have hK : tK t tp p = if wd tp (tS t tp p) (rnE (isL tp) t (tS t tp p)) < 11 then 1 else 4 := by unfold tK; rw [if_pos r1, hE]
    have hV : tV t tp p = if wd tp (tS t tp p) (rnE (isL tp) t (tS t tp p)) < 11 then wd tp (tS t tp p) (rnE (isL tp) t (tS t tp p)) else 0 := by unfold tV; rw [if_pos r1, hE]
    obtain ⟨⟨q1, q2, q3⟩, e1, a1, a2, a3, a4⟩ := takeNameX (N := N) (t := t) (tp := tp) (a := tS t tp p) (k := k) (c_token := c_token) hN ht hk (by omega) h256 hb hs hm
    simp only at a1 a2 a3 a4
    simp (disch := omega) only [jI_0, jI_1, jI_2, jI_3, jI_4, jI_5, jI_6, jI_7, jI_8, jI_9, jI_10, jI_11, jI_12, jI_13, jI_14, jI_15, jI_16, jI_20, jI_24, jI_26, jI_30, jI_31, jI_32, jI_40, jI_48, jI_56, jI_57, jI_59, jI_60, jI_97, jI_99, jI_122, jI_160, jI_240, jI_255, jI_768, jI_1000, ↓jN_1, ↓jN_2, ↓jN_3, ↓jN_4, ↓jN_8, ↓jN_10, ↓jN_11, ↓jN_12, ↓jN_14, ↓jN_20, jI_addN, jI_le, jI_lt, jI_eq, jI_cl, jI_in, jI_add, jI_sub, jI_eqN, gI_eqI, gI_eqN, gI_leI, gI_ltI, jI_leN, jI_ltN, gI_sub, pif_tt, pif_ff, pg_tt, isB, or_true, true_or, pif_T, pif_F, pg_T, pb_S, upd_e, upd_n, fX5_takeNext, fX5_takeNext_58, hto, e1]
    exact Ok.s ⟨by rw [hE]; exact a1, by rw [hV]; exact a2, by rw [hK]; exact a3, a4⟩
  · by_cases r2 : tR t tp p = 2
    · have hE : tE t tp p = rnE (isF tp) t (tS t tp p) := by unfold tE; rw [if_neg hr, if_neg r1, if_pos r2]
      have hK : tK t tp p = if rnE (isF tp) t (tS t tp p) - tS t tp p ≤ 2 then 2 else 4 := by unfold tK; rw [if_neg r1, if_pos r2, hE]
      have hV : tV t tp p = if rnE (isF tp) t (tS t tp p) - tS t tp p ≤ 2 then nvN tp (tS t tp p) (rnE (isF tp) t (tS t tp p) - tS t tp p) else 0 := by unfold tV; rw [if_neg r1, if_pos r2, hE]
      obtain ⟨⟨q1, q2, q3⟩, e1, a1, a2, a3, a4⟩ := takeFigX (N := N) (t := t) (tp := tp) (a := tS t tp p) (k := k) (c_token := c_token) (c_meaning := c_meaning) hN ht hk (by omega) h256 hb hs
      simp only at a1 a2 a3 a4
      simp (disch := omega) only [jI_0, jI_1, jI_2, jI_3, jI_4, jI_5, jI_6, jI_7, jI_8, jI_9, jI_10, jI_11, jI_12, jI_13, jI_14, jI_15, jI_16, jI_20, jI_24, jI_26, jI_30, jI_31, jI_32, jI_40, jI_48, jI_56, jI_57, jI_59, jI_60, jI_97, jI_99, jI_122, jI_160, jI_240, jI_255, jI_768, jI_1000, ↓jN_1, ↓jN_2, ↓jN_3, ↓jN_4, ↓jN_8, ↓jN_10, ↓jN_11, ↓jN_12, ↓jN_14, ↓jN_20, jI_addN, jI_le, jI_lt, jI_eq, jI_cl, jI_in, jI_add, jI_sub, jI_eqN, gI_eqI, gI_eqN, gI_leI, gI_ltI, jI_leN, jI_ltN, gI_sub, pif_tt, pif_ff, pg_tt, isB, or_true, true_or, pif_T, pif_F, pg_T, pb_S, upd_e, upd_n, fX5_takeNext, fX5_takeNext_58, hto, e1]
      exact Ok.s ⟨by rw [hE]; exact a1, by rw [hV]; exact a2, by rw [hK]; exact a3, a4⟩
    · have hE : tE t tp p = tS t tp p + 1 := by unfold tE; rw [if_neg hr, if_neg r1, if_neg r2]
      have hK : tK t tp p = tR t tp p := by unfold tK; rw [if_neg r1, if_neg r2]
      have hV : tV t tp p = 0 := by unfold tV; rw [if_neg r1, if_neg r2]
      simp (disch := omega) only [jI_0, jI_1, jI_2, jI_3, jI_4, jI_5, jI_6, jI_7, jI_8, jI_9, jI_10, jI_11, jI_12, jI_13, jI_14, jI_15, jI_16, jI_20, jI_24, jI_26, jI_30, jI_31, jI_32, jI_40, jI_48, jI_56, jI_57, jI_59, jI_60, jI_97, jI_99, jI_122, jI_160, jI_240, jI_255, jI_768, jI_1000, ↓jN_1, ↓jN_2, ↓jN_3, ↓jN_4, ↓jN_8, ↓jN_10, ↓jN_11, ↓jN_12, ↓jN_14, ↓jN_20, jI_addN, jI_le, jI_lt, jI_eq, jI_cl, jI_in, jI_add, jI_sub, jI_eqN, gI_eqI, gI_eqN, gI_leI, gI_ltI, jI_leN, jI_ltN, gI_sub, pif_tt, pif_ff, pg_tt, isB, or_true, true_or, pif_T, pif_F, pg_T, pb_S, upd_e, upd_n, fX5_takeNext, fX5_takeNext_58, hto]
      exact Ok.s ⟨by rw [hE], by rw [hV]; exact hm, by rw [hK]; exact hto, fun j _ => ⟨rfl, rfl⟩⟩
/-- the TOKENS up to the end's, which is the T-th -/
def Tk (t : Nat) (tp : Nat → Nat) (T : Nat) (cm cs ck : Nat → Int32) : Prop := T ≤ t ∧ tK t tp (ps t tp T) = 0 ∧ (∀ k, k < T → tK t tp (ps t tp k) ≠ 0) ∧ ∀ k, k ≤ T → ck k = jI (tK t tp (ps t tp k)) ∧ cs k = jI (tS t tp (ps t tp k)) ∧ cm k = jI (tV t tp (ps t tp k))
theorem splitX (hN : 1000 ≤ N) (ht : t ≤ 240) (h256 : ∀ k, k < 240 → tp k < 256) (hb : ∀ k, k < t → c_bytes k = bI (tp k)) : Ok ((fX5_split N (jI t) v_next c_bytes c_meaning c_start c_token)) (fun q => ∃ T, Tk t tp T q.2.1 q.2.2.1 q.2.2.2) := by
  unfold fX5_split
  refine up_ok (fun fu k (q : (Nat → Int32) × (Nat → Int32) × (Nat → Int32)) => (fX5_split_7 N (jI t) c_bytes fu (jI k) (jI (ps t tp k)) q.1 q.2.1 q.2.2)) _ 241 (fun k q => k ≤ ps t tp k ∧ ps t tp k ≤ t ∧ (∀ j, j < k → tK t tp (ps t tp j) ≠ 0) ∧ ∀ j, j < k → q.2.2 j = jI (tK t tp (ps t tp j)) ∧ q.2.1 j = jI (tS t tp (ps t tp j)) ∧ q.1 j = jI (tV t tp (ps t tp j))) ?_ ?_ N 0 (c_meaning, c_start, c_token) (by omega) (by omega) ⟨Nat.le_refl _, Nat.zero_le _, fun j h => by omega, fun j h => by omega⟩
  · intro fu k ⟨cm, cs, ck⟩ hk ⟨h1, h2, h3, h4⟩ ih
    simp only at h4
    have hps : ps t tp (k + 1) = tE t tp (ps t tp k) := rfl
    have hsl : tS t tp (ps t tp k) ≤ t := rnE_le h2
    have inner : Ok ((fX5_split_52 N (jI t) c_bytes (fX5_split_7 N (jI t) c_bytes fu) (jI k) (jI (tS t tp (ps t tp k))) cm cs ck)) (fun q => ∃ T, Tk t tp T q.2.1 q.2.2.1 q.2.2.2) := by
      have ki := (kindX (N := N) (p := ps t tp k) ht h256 hb).resolve_right (by omega)
      have hrl := tR_le t tp (ps t tp k)
      by_cases hr : tR t tp (ps t tp k) = 0
      · have hK : tK t tp (ps t tp k) = 0 := (tK_0 t tp _).mpr hr
        have hV : tV t tp (ps t tp k) = 0 := by unfold tV; rw [if_neg (by omega), if_neg (by omega)]
        rw [hr] at ki
        simp (disch := omega) only [jI_0, jI_1, jI_2, jI_3, jI_4, jI_5, jI_6, jI_7, jI_8, jI_9, jI_10, jI_11, jI_12, jI_13, jI_14, jI_15, jI_16, jI_20, jI_24, jI_26, jI_30, jI_31, jI_32, jI_40, jI_48, jI_56, jI_57, jI_59, jI_60, jI_97, jI_99, jI_122, jI_160, jI_240, jI_255, jI_768, jI_1000, ↓jN_1, ↓jN_2, ↓jN_3, ↓jN_4, ↓jN_8, ↓jN_10, ↓jN_11, ↓jN_12, ↓jN_14, ↓jN_20, jI_addN, jI_le, jI_lt, jI_eq, jI_cl, jI_in, jI_add, jI_sub, jI_eqN, gI_eqI, gI_eqN, gI_leI, gI_ltI, jI_leN, jI_ltN, gI_sub, pif_tt, pif_ff, pg_tt, isB, or_true, true_or, pif_T, pif_F, pg_T, pb_S, upd_e, upd_n, fX5_split_52, ki]
        refine Ok.s ⟨k, by omega, hK, h3, fun j hj => ?_⟩
        show upd ck k (jI 0) j = _ ∧ upd cs k _ j = _ ∧ upd cm k (jI 0) j = _
        by_cases hjk : j = k
        · rw [upd_e hjk, upd_e hjk, upd_e hjk, hjk, hK, hV]; exact ⟨rfl, rfl, rfl⟩
        · rw [upd_n hjk, upd_n hjk, upd_n hjk]; exact h4 j (by omega)
      · obtain ⟨g1, g2, g3⟩ := tE_gt hr
        obtain ⟨⟨q1, q2, q3⟩, e1, a1, a2, a3, a4⟩ := takeNextX (N := N) (t := t) (tp := tp) (p := ps t tp k) (k := k) (c_bytes := c_bytes) (c_meaning := upd cm k (jI 0)) (c_start := upd cs k (jI (tS t tp (ps t tp k)))) (c_token := upd ck k (jI (tR t tp (ps t tp k)))) hN ht (by omega) h256 hb (upd_e rfl) (upd_e rfl) hr (upd_e rfl)
        simp only at a1 a2 a3 a4
        subst a1
        have hge := rnE_ge (isS tp) t (ps t tp k)
        have hge2 : ps t tp k ≤ tS t tp (ps t tp k) := hge
        simp (disch := omega) only [jI_0, jI_1, jI_2, jI_3, jI_4, jI_5, jI_6, jI_7, jI_8, jI_9, jI_10, jI_11, jI_12, jI_13, jI_14, jI_15, jI_16, jI_20, jI_24, jI_26, jI_30, jI_31, jI_32, jI_40, jI_48, jI_56, jI_57, jI_59, jI_60, jI_97, jI_99, jI_122, jI_160, jI_240, jI_255, jI_768, jI_1000, ↓jN_1, ↓jN_2, ↓jN_3, ↓jN_4, ↓jN_8, ↓jN_10, ↓jN_11, ↓jN_12, ↓jN_14, ↓jN_20, jI_addN, jI_le, jI_lt, jI_eq, jI_cl, jI_in, jI_add, jI_sub, jI_eqN, gI_eqI, gI_eqN, gI_leI, gI_ltI, jI_leN, jI_ltN, gI_sub, pif_tt, pif_ff, pg_tt, isB, or_true, true_or, pif_T, pif_F, pg_T, pb_S, upd_e, upd_n, fX5_split_52, ki, e1]
        refine ih (q2, upd cs k (jI (tS t tp (ps t tp k))), q3) ⟨by rw [hps]; omega, by rw [hps]; exact g3, fun j hj => ?_, fun j hj => ?_⟩
        · by_cases hjk : j = k
          · rw [hjk]; exact fun c => hr ((tK_0 t tp _).mp c)
          · exact h3 j (by omega)
        · show q3 j = _ ∧ upd cs k _ j = _ ∧ q2 j = _
          by_cases hjk : j = k
          · rw [upd_e hjk, hjk]; exact ⟨a3, rfl, a2⟩
          · obtain ⟨b1, b2⟩ := a4 j hjk
            rw [upd_n hjk] at *
            rw [b1, b2]; exact h4 j (by omega)
    simp (disch := omega) only [jI_0, jI_1, jI_2, jI_3, jI_4, jI_5, jI_6, jI_7, jI_8, jI_9, jI_10, jI_11, jI_12, jI_13, jI_14, jI_15, jI_16, jI_20, jI_24, jI_26, jI_30, jI_31, jI_32, jI_40, jI_48, jI_56, jI_57, jI_59, jI_60, jI_97, jI_99, jI_122, jI_160, jI_240, jI_255, jI_768, jI_1000, ↓jN_1, ↓jN_2, ↓jN_3, ↓jN_4, ↓jN_8, ↓jN_10, ↓jN_11, ↓jN_12, ↓jN_14, ↓jN_20, jI_addN, jI_le, jI_lt, jI_eq, jI_cl, jI_in, jI_add, jI_sub, jI_eqN, gI_eqI, gI_eqN, gI_leI, gI_ltI, jI_leN, jI_ltN, gI_sub, pif_tt, pif_ff, pg_tt, isB, or_true, true_or, pif_T, pif_F, pg_T, pb_S, upd_e, upd_n, fX5_split_7]
    refine up_ok (fun fu2 p (_ : Unit) => (fX5_split_14 N (jI t) c_bytes (fX5_split_7 N (jI t) c_bytes fu) fu2 (jI k) (jI p) cm cs ck)) _ t (fun p _ => tS t tp (ps t tp k) = rnE (isS tp) t p) ?_ ?_ N (ps t tp k) () h2 (by omega) rfl
    · intro fu2 p _ hp hrp ih2
      have h25 := h256 p (by omega)
      have hbp := hb p hp
      by_cases hsp : tp p = 32
      · have hg := rnE_go (q := isS tp) hp (decide_eq_true hsp)
        simp (disch := omega) only [jI_0, jI_1, jI_2, jI_3, jI_4, jI_5, jI_6, jI_7, jI_8, jI_9, jI_10, jI_11, jI_12, jI_13, jI_14, jI_15, jI_16, jI_20, jI_24, jI_26, jI_30, jI_31, jI_32, jI_40, jI_48, jI_56, jI_57, jI_59, jI_60, jI_97, jI_99, jI_122, jI_160, jI_240, jI_255, jI_768, jI_1000, ↓jN_1, ↓jN_2, ↓jN_3, ↓jN_4, ↓jN_8, ↓jN_10, ↓jN_11, ↓jN_12, ↓jN_14, ↓jN_20, jI_addN, jI_le, jI_lt, jI_eq, jI_cl, jI_in, jI_add, jI_sub, jI_eqN, gI_eqI, gI_eqN, gI_leI, gI_ltI, jI_leN, jI_ltN, gI_sub, pif_tt, pif_ff, pg_tt, isB, or_true, true_or, pif_T, pif_F, pg_T, pb_S, upd_e, upd_n, fX5_split_14, hbp, bI_eq]
        exact ih2 () (hrp.trans hg)
      · have hg := rnE_no (q := isS tp) (t := t) (p := p) (by simpa [isS] using hsp)
        rw [hg] at hrp
        rw [hrp] at inner
        simp (disch := omega) only [jI_0, jI_1, jI_2, jI_3, jI_4, jI_5, jI_6, jI_7, jI_8, jI_9, jI_10, jI_11, jI_12, jI_13, jI_14, jI_15, jI_16, jI_20, jI_24, jI_26, jI_30, jI_31, jI_32, jI_40, jI_48, jI_56, jI_57, jI_59, jI_60, jI_97, jI_99, jI_122, jI_160, jI_240, jI_255, jI_768, jI_1000, ↓jN_1, ↓jN_2, ↓jN_3, ↓jN_4, ↓jN_8, ↓jN_10, ↓jN_11, ↓jN_12, ↓jN_14, ↓jN_20, jI_addN, jI_le, jI_lt, jI_eq, jI_cl, jI_in, jI_add, jI_sub, jI_eqN, gI_eqI, gI_eqN, gI_leI, gI_ltI, jI_leN, jI_ltN, gI_sub, pif_tt, pif_ff, pg_tt, isB, or_true, true_or, pif_T, pif_F, pg_T, pb_S, upd_e, upd_n, fX5_split_14, hbp, bI_eq]
        exact inner
    · intro fu2 _ hrp
      rw [rnE_end (Nat.le_refl t)] at hrp
      rw [hrp] at inner
      simp (disch := omega) only [jI_0, jI_1, jI_2, jI_3, jI_4, jI_5, jI_6, jI_7, jI_8, jI_9, jI_10, jI_11, jI_12, jI_13, jI_14, jI_15, jI_16, jI_20, jI_24, jI_26, jI_30, jI_31, jI_32, jI_40, jI_48, jI_56, jI_57, jI_59, jI_60, jI_97, jI_99, jI_122, jI_160, jI_240, jI_255, jI_768, jI_1000, ↓jN_1, ↓jN_2, ↓jN_3, ↓jN_4, ↓jN_8, ↓jN_10, ↓jN_11, ↓jN_12, ↓jN_14, ↓jN_20, jI_addN, jI_le, jI_lt, jI_eq, jI_cl, jI_in, jI_add, jI_sub, jI_eqN, gI_eqI, gI_eqN, gI_leI, gI_ltI, jI_leN, jI_ltN, gI_sub, pif_tt, pif_ff, pg_tt, isB, or_true, true_or, pif_T, pif_F, pg_T, pb_S, upd_e, upd_n, fX5_split_14]
      exact inner
  · intro fu ⟨cm, cs, ck⟩ ⟨h1, h2, h3, h4⟩
    omega
end
