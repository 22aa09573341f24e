/-! PAY: the reference. -/
section
variable {c_chooser : Nat → Int32} {c_firsts : Nat → Int32} {c_goes : Nat → Int32} {c_holds : Nat → Int32} {c_later : Nat → Int32} {c_many : Nat → Int32} {c_outs : Nat → Int32} {c_payOf : Nat → Int32} {c_placeOf : Nat → Int32} {c_seconds : Nat → Int32} {c_sideAt : Nat → Int32} {c_won : Nat → Int32}
variable {N z : Nat} {f s e H : Nat → Nat}
theorem sidesR (hh : Rm H c_holds) : fX9_sides N c_holds = some (jI (H 0)) := sidesM (hh 0 (by omega))
theorem ballsM (hN : 100 ≤ N) (hR : Rk H) (hh : Rm H c_holds) : (fX9_balls N c_holds) = some (jI (sumN (H 0) (fun j => H (20 + j)))) := by
  have hn := hR.2.1
  have hs := sidesR (N := N) hh
  have key : Ok ((fX9_balls_4 N c_holds N 0 0)) (fun q => q = jI (sumN (H 0) (fun j => H (20 + j)))) := by
    refine up_ok (fun fu i a => (fX9_balls_4 N c_holds fu (jI a) (jI i))) _ (H 0) (fun i a => a = sumN i (fun j => H (20 + j))) ?_ ?_ N 0 0 (by omega) (by omega) rfl
    · intro fu i a hi ha ih
      have hb := hh (20 + i) (by omega)
      simp (disch := omega) only [jI_0, jI_1, jI_2, jI_3, jI_4, jI_5, jI_6, jI_7, jI_8, jI_9, jI_10, jI_11, jI_12, jI_13, jI_14, jI_15, jI_16, jI_20, jI_24, jI_26, jI_30, jI_31, jI_32, jI_40, jI_48, jI_56, jI_57, jI_59, jI_60, jI_97, jI_99, jI_122, jI_160, jI_240, jI_255, jI_768, jI_1000, ↓jN_1, ↓jN_2, ↓jN_3, ↓jN_4, ↓jN_8, ↓jN_10, ↓jN_11, ↓jN_12, ↓jN_14, ↓jN_20, jI_addN, jI_le, jI_lt, jI_eq, jI_cl, jI_in, jI_add, jI_sub, jI_eqN, gI_eqI, gI_eqN, gI_leI, gI_ltI, jI_leN, jI_ltN, gI_sub, pif_tt, pif_ff, pg_tt, isB, or_true, true_or, pif_T, pif_F, pg_T, pb_S, upd_e, upd_n, fX9_balls_4, hs, hb]
      exact ih _ (by rw [ha]; rfl)
    · intro fu a ha
      simp (disch := omega) only [jI_0, jI_1, jI_2, jI_3, jI_4, jI_5, jI_6, jI_7, jI_8, jI_9, jI_10, jI_11, jI_12, jI_13, jI_14, jI_15, jI_16, jI_20, jI_24, jI_26, jI_30, jI_31, jI_32, jI_40, jI_48, jI_56, jI_57, jI_59, jI_60, jI_97, jI_99, jI_122, jI_160, jI_240, jI_255, jI_768, jI_1000, ↓jN_1, ↓jN_2, ↓jN_3, ↓jN_4, ↓jN_8, ↓jN_10, ↓jN_11, ↓jN_12, ↓jN_14, ↓jN_20, jI_addN, jI_le, jI_lt, jI_eq, jI_cl, jI_in, jI_add, jI_sub, jI_eqN, gI_eqI, gI_eqN, gI_leI, gI_ltI, jI_leN, jI_ltN, gI_sub, pif_tt, pif_ff, pg_tt, isB, or_true, true_or, pif_T, pif_F, pg_T, pb_S, upd_e, upd_n, fX9_balls_4, hs]
      exact Ok.s (by rw [ha])
  obtain ⟨a, e, rfl⟩ := key
  exact e
theorem unitM (hN : 100 ≤ N) (hR : Rk H) (hh : Rm H c_holds) : (fX9_unit N c_holds) = some (jI (unitN H)) := by
  have hn := hR.2.1
  have hk := hR.2.2.1
  have h1 := hh 1 (by omega)
  have hs := sidesR (N := N) hh
  have hb := ballsM (N := N) hN hR hh
  unfold unitN
  by_cases k1 : H 1 = 1
  · rw [if_pos k1]
    simp (disch := omega) only [jI_0, jI_1, jI_2, jI_3, jI_4, jI_5, jI_6, jI_7, jI_8, jI_9, jI_10, jI_11, jI_12, jI_13, jI_14, jI_15, jI_16, jI_20, jI_24, jI_26, jI_30, jI_31, jI_32, jI_40, jI_48, jI_56, jI_57, jI_59, jI_60, jI_97, jI_99, jI_122, jI_160, jI_240, jI_255, jI_768, jI_1000, ↓jN_1, ↓jN_2, ↓jN_3, ↓jN_4, ↓jN_8, ↓jN_10, ↓jN_11, ↓jN_12, ↓jN_14, ↓jN_20, jI_addN, jI_le, jI_lt, jI_eq, jI_cl, jI_in, jI_add, jI_sub, jI_eqN, gI_eqI, gI_eqN, gI_leI, gI_ltI, jI_leN, jI_ltN, gI_sub, pif_tt, pif_ff, pg_tt, isB, or_true, true_or, pif_T, pif_F, pg_T, pb_S, upd_e, upd_n, fX9_unit, fX9_unit_35, h1, hb]
  · rw [if_neg k1]
    by_cases k4 : H 1 = 4
    · rw [if_pos k4]
      simp (disch := omega) only [jI_0, jI_1, jI_2, jI_3, jI_4, jI_5, jI_6, jI_7, jI_8, jI_9, jI_10, jI_11, jI_12, jI_13, jI_14, jI_15, jI_16, jI_20, jI_24, jI_26, jI_30, jI_31, jI_32, jI_40, jI_48, jI_56, jI_57, jI_59, jI_60, jI_97, jI_99, jI_122, jI_160, jI_240, jI_255, jI_768, jI_1000, ↓jN_1, ↓jN_2, ↓jN_3, ↓jN_4, ↓jN_8, ↓jN_10, ↓jN_11, ↓jN_12, ↓jN_14, ↓jN_20, jI_addN, jI_le, jI_lt, jI_eq, jI_cl, jI_in, jI_add, jI_sub, jI_eqN, gI_eqI, gI_eqN, gI_leI, gI_ltI, jI_leN, jI_ltN, gI_sub, pif_tt, pif_ff, pg_tt, isB, or_true, true_or, pif_T, pif_F, pg_T, pb_S, upd_e, upd_n, fX9_unit, fX9_unit_35, h1, hs]
    · rw [if_neg k4]
      simp (disch := omega) only [jI_0, jI_1, jI_2, jI_3, jI_4, jI_5, jI_6, jI_7, jI_8, jI_9, jI_10, jI_11, jI_12, jI_13, jI_14, jI_15, jI_16, jI_20, jI_24, jI_26, jI_30, jI_31, jI_32, jI_40, jI_48, jI_56, jI_57, jI_59, jI_60, jI_97, jI_99, jI_122, jI_160, jI_240, jI_255, jI_768, jI_1000, ↓jN_1, ↓jN_2, ↓jN_3, ↓jN_4, ↓jN_8, ↓jN_10, ↓jN_11, ↓jN_12, ↓jN_14, ↓jN_20, jI_addN, jI_le, jI_lt, jI_eq, jI_cl, jI_in, jI_add, jI_sub, jI_eqN, gI_eqI, gI_eqN, gI_leI, gI_ltI, jI_leN, jI_ltN, gI_sub, pif_tt, pif_ff, pg_tt, isB, or_true, true_or, pif_T, pif_F, pg_T, pb_S, upd_e, upd_n, fX9_unit, fX9_unit_35, h1]
/-- one round of choices is paid -/
theorem layP_134 {Q : (Nat → Int32) × (Nat → Int32) × (Nat → Int32) × (Nat → Int32) × (Nat → Int32) × (Nat → Int32) × (Nat → Int32) → Prop} {k107 : Int32 → Int32 → (Nat → Int32) → (Nat → Int32) → (Nat → Int32) → (Nat → Int32) → (Nat → Int32) → (Nat → Int32) → (Nat → Int32) → Option ((Nat → Int32) × (Nat → Int32) × (Nat → Int32) × (Nat → Int32) × (Nat → Int32) × (Nat → Int32) × (Nat → Int32))} {ch p : Nat → Nat} {d : Nat} (hN : 100 ≤ N) (hR : Rk H) (hh : Rm H c_holds) (hd : d < H 0) (hc : ∀ c, c < H 0 → c_chooser c = jI (ch c) ∧ ch c < H 0) (hp : ∀ i, i < H 0 → c_payOf i = jI (p i)) (hk : ∀ cp, (∀ i, i < H 0 → cp i = jI (addN ch (fun j => H (14 + j)) (if H 1 = 1 then H (20 + d) else 1) (H 0) p i)) → Ok (k107 (jI (H 0)) (jI (d + 1)) c_chooser c_later c_outs cp c_placeOf c_sideAt c_won) Q) : Ok ((fX9_layPays_134 N c_firsts c_goes c_holds c_many c_seconds k107 N (jI (H 0)) (jI d) 0 c_chooser c_later c_outs c_payOf c_placeOf c_sideAt c_won)) Q := by
  have hn := hR.2.1
  have h1 := hh 1 (by omega)
  have hk4 := hR.2.2.1
  refine up_ok (fun fu i cp => (fX9_layPays_134 N c_firsts c_goes c_holds c_many c_seconds k107 fu (jI (H 0)) (jI d) (jI i) c_chooser c_later c_outs cp c_placeOf c_sideAt c_won)) _ (H 0) (fun m cp => ∀ i, i < H 0 → cp i = jI (addN ch (fun j => H (14 + j)) (if H 1 = 1 then H (20 + d) else 1) m p i)) ?_ ?_ N 0 c_payOf (by omega) (by omega) (fun i hi => hp i hi)
  · intro fu m cp hm hp ih
    obtain ⟨c1, c2⟩ := hc m hm
    have h3 := hh (14 + m) (by omega)
    have h4 := hp (ch m) c2
    by_cases hb : H 1 = 1
    · have h5 := hh (20 + d) (by omega)
      rw [if_pos hb] at h4
      simp (disch := omega) only [jI_0, jI_1, jI_2, jI_3, jI_4, jI_5, jI_6, jI_7, jI_8, jI_9, jI_10, jI_11, jI_12, jI_13, jI_14, jI_15, jI_16, jI_20, jI_24, jI_26, jI_30, jI_31, jI_32, jI_40, jI_48, jI_56, jI_57, jI_59, jI_60, jI_97, jI_99, jI_122, jI_160, jI_240, jI_255, jI_768, jI_1000, ↓jN_1, ↓jN_2, ↓jN_3, ↓jN_4, ↓jN_8, ↓jN_10, ↓jN_11, ↓jN_12, ↓jN_14, ↓jN_20, jI_addN, jI_le, jI_lt, jI_eq, jI_cl, jI_in, jI_add, jI_sub, jI_eqN, gI_eqI, gI_eqN, gI_leI, gI_ltI, jI_leN, jI_ltN, gI_sub, pif_tt, pif_ff, pg_tt, isB, or_true, true_or, pif_T, pif_F, pg_T, pb_S, upd_e, upd_n, fX9_layPays_134, fX9_layPays_183, c1, h1, h3, h4, h5, jI_mul]
      refine ih _ (fun i hi => ?_)
      simp only [addN]
      rw [if_pos hb]
      by_cases e : i = ch m
      · rw [upd_e e, updN_e e]
      · have := hp i hi
        rw [if_pos hb] at this
        rw [upd_n e, updN_n e, this]
    · rw [if_neg hb] at h4
      simp (disch := omega) only [jI_0, jI_1, jI_2, jI_3, jI_4, jI_5, jI_6, jI_7, jI_8, jI_9, jI_10, jI_11, jI_12, jI_13, jI_14, jI_15, jI_16, jI_20, jI_24, jI_26, jI_30, jI_31, jI_32, jI_40, jI_48, jI_56, jI_57, jI_59, jI_60, jI_97, jI_99, jI_122, jI_160, jI_240, jI_255, jI_768, jI_1000, ↓jN_1, ↓jN_2, ↓jN_3, ↓jN_4, ↓jN_8, ↓jN_10, ↓jN_11, ↓jN_12, ↓jN_14, ↓jN_20, jI_addN, jI_le, jI_lt, jI_eq, jI_cl, jI_in, jI_add, jI_sub, jI_eqN, gI_eqI, gI_eqN, gI_leI, gI_ltI, jI_leN, jI_ltN, gI_sub, pif_tt, pif_ff, pg_tt, isB, or_true, true_or, pif_T, pif_F, pg_T, pb_S, upd_e, upd_n, fX9_layPays_134, fX9_layPays_183, c1, h1, h3, h4, jI_mul]
      refine ih _ (fun i hi => ?_)
      simp only [addN]
      rw [if_neg hb]
      by_cases e : i = ch m
      · rw [upd_e e, updN_e e]
      · have := hp i hi
        rw [if_neg hb] at this
        rw [upd_n e, updN_n e, this]
  · intro fu cp hp
    simp (disch := omega) only [jI_0, jI_1, jI_2, jI_3, jI_4, jI_5, jI_6, jI_7, jI_8, jI_9, jI_10, jI_11, jI_12, jI_13, jI_14, jI_15, jI_16, jI_20, jI_24, jI_26, jI_30, jI_31, jI_32, jI_40, jI_48, jI_56, jI_57, jI_59, jI_60, jI_97, jI_99, jI_122, jI_160, jI_240, jI_255, jI_768, jI_1000, ↓jN_1, ↓jN_2, ↓jN_3, ↓jN_4, ↓jN_8, ↓jN_10, ↓jN_11, ↓jN_12, ↓jN_14, ↓jN_20, jI_addN, jI_le, jI_lt, jI_eq, jI_cl, jI_in, jI_add, jI_sub, jI_eqN, gI_eqI, gI_eqN, gI_leI, gI_ltI, jI_leN, jI_ltN, gI_sub, pif_tt, pif_ff, pg_tt, isB, or_true, true_or, pif_T, pif_F, pg_T, pb_S, upd_e, upd_n, fX9_layPays_134]
    exact hk cp hp
theorem layPaysM (hN : 100 ≤ N) (hR : Rk H) (hh : Rm H c_holds) (hk : Gk (H 0) z f s e) (hG : Gm 0 z f s e c_many c_firsts c_seconds c_goes) : Ok ((fX9_layPays N c_chooser c_firsts c_goes c_holds c_later c_many c_outs c_payOf c_placeOf c_seconds c_sideAt c_won)) (fun q => (∀ i, i < H 0 → q.2.2.2.1 i = jI (payN H (wonN f s e z) (merT (H 0) f s e z z) i)) ∧ (∀ i, i < H 0 → q.2.2.2.2.1 i = jI (plc (H 0) (wonN f s e z) i))) := by
  have hn := hR.2.1
  have hn2 := hR.1
  have hkd := hR.2.2.1
  have h1 := hh 1 (by omega)
  have hs := sidesR (N := N) hh
  have hun := unitN_le hR
  have hu := unitM (N := N) hN hR hh
  have hcl := choices_le hR hn
  obtain ⟨cp, cs, cw, e1, w1, w2, w3⟩ := layT_ok (N := N) (c_placeOf := c_placeOf) (c_sideAt := c_sideAt) (c_won := c_won) hN (by omega) hk hG (hh 0 (by omega))
  have e1 : (fX9_layTable N c_firsts c_goes c_holds c_many c_placeOf c_seconds c_sideAt c_won (jI 0)) = some (cp, cs, cw) := e1
  simp (disch := omega) only [jI_0, jI_1, jI_2, jI_3, jI_4, jI_5, jI_6, jI_7, jI_8, jI_9, jI_10, jI_11, jI_12, jI_13, jI_14, jI_15, jI_16, jI_20, jI_24, jI_26, jI_30, jI_31, jI_32, jI_40, jI_48, jI_56, jI_57, jI_59, jI_60, jI_97, jI_99, jI_122, jI_160, jI_240, jI_255, jI_768, jI_1000, ↓jN_1, ↓jN_2, ↓jN_3, ↓jN_4, ↓jN_8, ↓jN_10, ↓jN_11, ↓jN_12, ↓jN_14, ↓jN_20, jI_addN, jI_le, jI_lt, jI_eq, jI_cl, jI_in, jI_add, jI_sub, jI_eqN, gI_eqI, gI_eqN, gI_leI, gI_ltI, jI_leN, jI_ltN, gI_sub, pif_tt, pif_ff, pg_tt, isB, or_true, true_or, pif_T, pif_F, pg_T, pb_S, upd_e, upd_n, fX9_layPays, e1, hs]
  refine up_ok (fun fu i c => (fX9_layPays_12 N c_firsts c_goes c_holds c_many c_seconds fu (jI (H 0)) (jI i) c_chooser c_later c_outs c cp cs cw)) _ (H 0) (fun m c => ∀ i, i < m → c i = jI (H (8 + plc (H 0) (wonN f s e z) i) * unitN H)) ?_ ?_ N 0 c_payOf (by omega) (by omega) (fun i hi => by omega)
  · intro fu m c hm hp ih
    have h4 := plc_lt (K := wonN f s e z) hm
    have h5 := hh (8 + plc (H 0) (wonN f s e z) m) (by omega)
    have h6 := w3 m hm
    simp (disch := omega) only [jI_0, jI_1, jI_2, jI_3, jI_4, jI_5, jI_6, jI_7, jI_8, jI_9, jI_10, jI_11, jI_12, jI_13, jI_14, jI_15, jI_16, jI_20, jI_24, jI_26, jI_30, jI_31, jI_32, jI_40, jI_48, jI_56, jI_57, jI_59, jI_60, jI_97, jI_99, jI_122, jI_160, jI_240, jI_255, jI_768, jI_1000, ↓jN_1, ↓jN_2, ↓jN_3, ↓jN_4, ↓jN_8, ↓jN_10, ↓jN_11, ↓jN_12, ↓jN_14, ↓jN_20, jI_addN, jI_le, jI_lt, jI_eq, jI_cl, jI_in, jI_add, jI_sub, jI_eqN, gI_eqI, gI_eqN, gI_leI, gI_ltI, jI_leN, jI_ltN, gI_sub, pif_tt, pif_ff, pg_tt, isB, or_true, true_or, pif_T, pif_F, pg_T, pb_S, upd_e, upd_n, fX9_layPays_12, h6, h5, hu, jI_mul]
    refine ih _ (fun i hi => ?_)
    by_cases e : i = m
    · rw [upd_e e, e]
    · rw [upd_n e]; exact hp i (by omega)
  · intro fu c hp
    by_cases k4 : H 1 = 4
    · simp (disch := omega) only [jI_0, jI_1, jI_2, jI_3, jI_4, jI_5, jI_6, jI_7, jI_8, jI_9, jI_10, jI_11, jI_12, jI_13, jI_14, jI_15, jI_16, jI_20, jI_24, jI_26, jI_30, jI_31, jI_32, jI_40, jI_48, jI_56, jI_57, jI_59, jI_60, jI_97, jI_99, jI_122, jI_160, jI_240, jI_255, jI_768, jI_1000, ↓jN_1, ↓jN_2, ↓jN_3, ↓jN_4, ↓jN_8, ↓jN_10, ↓jN_11, ↓jN_12, ↓jN_14, ↓jN_20, jI_addN, jI_le, jI_lt, jI_eq, jI_cl, jI_in, jI_add, jI_sub, jI_eqN, gI_eqI, gI_eqN, gI_leI, gI_ltI, jI_leN, jI_ltN, gI_sub, pif_tt, pif_ff, pg_tt, isB, or_true, true_or, pif_T, pif_F, pg_T, pb_S, upd_e, upd_n, fX9_layPays_12, h1]
      refine up_ok (fun fu i c => (fX9_layPays_60 N c_firsts c_goes c_holds c_many c_seconds fu (jI (H 0)) (jI i) c_chooser c_later c_outs c cp cs cw)) _ (H 0) (fun m c => ∀ i, i < H 0 → c i = jI (H (8 + plc (H 0) (wonN f s e z) i) * unitN H + (if i < m then sumN (H 0) (fun j => H (14 + j)) else 0))) ?_ ?_ N 0 c (by omega) (by omega) (fun i hi => by rw [if_neg (by omega)]; exact hp i hi)
      · intro fu m c hm hp2 ih
        simp (disch := omega) only [jI_0, jI_1, jI_2, jI_3, jI_4, jI_5, jI_6, jI_7, jI_8, jI_9, jI_10, jI_11, jI_12, jI_13, jI_14, jI_15, jI_16, jI_20, jI_24, jI_26, jI_30, jI_31, jI_32, jI_40, jI_48, jI_56, jI_57, jI_59, jI_60, jI_97, jI_99, jI_122, jI_160, jI_240, jI_255, jI_768, jI_1000, ↓jN_1, ↓jN_2, ↓jN_3, ↓jN_4, ↓jN_8, ↓jN_10, ↓jN_11, ↓jN_12, ↓jN_14, ↓jN_20, jI_addN, jI_le, jI_lt, jI_eq, jI_cl, jI_in, jI_add, jI_sub, jI_eqN, gI_eqI, gI_eqN, gI_leI, gI_ltI, jI_leN, jI_ltN, gI_sub, pif_tt, pif_ff, pg_tt, isB, or_true, true_or, pif_T, pif_F, pg_T, pb_S, upd_e, upd_n, fX9_layPays_60]
        refine up_ok (fun fu2 j c => (fX9_layPays_67 N c_firsts c_goes c_holds c_many c_seconds (fX9_layPays_60 N c_firsts c_goes c_holds c_many c_seconds fu) fu2 (jI (H 0)) (jI m) (jI j) c_chooser c_later c_outs c cp cs cw)) _ (H 0) (fun b c => ∀ i, i < H 0 → c i = jI (H (8 + plc (H 0) (wonN f s e z) i) * unitN H + (if i < m then sumN (H 0) (fun j => H (14 + j)) else if i = m then sumN b (fun j => H (14 + j)) else 0))) ?_ ?_ N 0 c (by omega) (by omega) (fun i hi => ?_)
        · intro fu2 j c hj hp3 ih2
          have h3 := hh (14 + j) (by omega)
          have h4 := hp3 m hm
          rw [if_neg (by omega), if_pos rfl] at h4
          simp (disch := omega) only [jI_0, jI_1, jI_2, jI_3, jI_4, jI_5, jI_6, jI_7, jI_8, jI_9, jI_10, jI_11, jI_12, jI_13, jI_14, jI_15, jI_16, jI_20, jI_24, jI_26, jI_30, jI_31, jI_32, jI_40, jI_48, jI_56, jI_57, jI_59, jI_60, jI_97, jI_99, jI_122, jI_160, jI_240, jI_255, jI_768, jI_1000, ↓jN_1, ↓jN_2, ↓jN_3, ↓jN_4, ↓jN_8, ↓jN_10, ↓jN_11, ↓jN_12, ↓jN_14, ↓jN_20, jI_addN, jI_le, jI_lt, jI_eq, jI_cl, jI_in, jI_add, jI_sub, jI_eqN, gI_eqI, gI_eqN, gI_leI, gI_ltI, jI_leN, jI_ltN, gI_sub, pif_tt, pif_ff, pg_tt, isB, or_true, true_or, pif_T, pif_F, pg_T, pb_S, upd_e, upd_n, fX9_layPays_67, h3, h4]
          refine ih2 _ (fun i hi => ?_)
          by_cases e : i = m
          · rw [upd_e e, e, if_neg (by omega), if_pos rfl]; simp only [sumN]; rw [Nat.add_assoc]
          · rw [upd_n e, hp3 i hi, if_neg e, if_neg e]
        · intro fu2 c hp3
          simp (disch := omega) only [jI_0, jI_1, jI_2, jI_3, jI_4, jI_5, jI_6, jI_7, jI_8, jI_9, jI_10, jI_11, jI_12, jI_13, jI_14, jI_15, jI_16, jI_20, jI_24, jI_26, jI_30, jI_31, jI_32, jI_40, jI_48, jI_56, jI_57, jI_59, jI_60, jI_97, jI_99, jI_122, jI_160, jI_240, jI_255, jI_768, jI_1000, ↓jN_1, ↓jN_2, ↓jN_3, ↓jN_4, ↓jN_8, ↓jN_10, ↓jN_11, ↓jN_12, ↓jN_14, ↓jN_20, jI_addN, jI_le, jI_lt, jI_eq, jI_cl, jI_in, jI_add, jI_sub, jI_eqN, gI_eqI, gI_eqN, gI_leI, gI_ltI, jI_leN, jI_ltN, gI_sub, pif_tt, pif_ff, pg_tt, isB, or_true, true_or, pif_T, pif_F, pg_T, pb_S, upd_e, upd_n, fX9_layPays_67]
          refine ih _ (fun i hi => ?_)
          rw [hp3 i hi]
          by_cases e1 : i < m
          · rw [if_pos e1, if_pos (by omega)]
          · rw [if_neg e1]
            by_cases e2 : i = m
            · rw [if_pos e2, if_pos (by omega)]
            · rw [if_neg e2, if_neg (by omega)]
        · rw [hp2 i hi]
          by_cases e1 : i < m
          · rw [if_pos e1, if_pos e1]
          · rw [if_neg e1, if_neg e1]
            by_cases e2 : i = m
            · rw [if_pos e2]; rfl
            · rw [if_neg e2]
      · intro fu c hp2
        simp (disch := omega) only [jI_0, jI_1, jI_2, jI_3, jI_4, jI_5, jI_6, jI_7, jI_8, jI_9, jI_10, jI_11, jI_12, jI_13, jI_14, jI_15, jI_16, jI_20, jI_24, jI_26, jI_30, jI_31, jI_32, jI_40, jI_48, jI_56, jI_57, jI_59, jI_60, jI_97, jI_99, jI_122, jI_160, jI_240, jI_255, jI_768, jI_1000, ↓jN_1, ↓jN_2, ↓jN_3, ↓jN_4, ↓jN_8, ↓jN_10, ↓jN_11, ↓jN_12, ↓jN_14, ↓jN_20, jI_addN, jI_le, jI_lt, jI_eq, jI_cl, jI_in, jI_add, jI_sub, jI_eqN, gI_eqI, gI_eqN, gI_leI, gI_ltI, jI_leN, jI_ltN, gI_sub, pif_tt, pif_ff, pg_tt, isB, or_true, true_or, pif_T, pif_F, pg_T, pb_S, upd_e, upd_n, fX9_layPays_60, fX9_layPays_198]
        refine Ok.s ⟨fun i hi => ?_, w3⟩
        show c i = _
        rw [hp2 i hi, if_pos hi]
        unfold payN pay0
        rw [if_pos k4, if_pos k4]
    · have p0 : ∀ i, i < H 0 → c i = jI (pay0 H (wonN f s e z) i) := fun i hi => by
        rw [hp i hi]; unfold pay0; rw [if_neg k4, Nat.add_zero]
      by_cases kb : H 1 = 1
      · simp (disch := omega) only [jI_0, jI_1, jI_2, jI_3, jI_4, jI_5, jI_6, jI_7, jI_8, jI_9, jI_10, jI_11, jI_12, jI_13, jI_14, jI_15, jI_16, jI_20, jI_24, jI_26, jI_30, jI_31, jI_32, jI_40, jI_48, jI_56, jI_57, jI_59, jI_60, jI_97, jI_99, jI_122, jI_160, jI_240, jI_255, jI_768, jI_1000, ↓jN_1, ↓jN_2, ↓jN_3, ↓jN_4, ↓jN_8, ↓jN_10, ↓jN_11, ↓jN_12, ↓jN_14, ↓jN_20, jI_addN, jI_le, jI_lt, jI_eq, jI_cl, jI_in, jI_add, jI_sub, jI_eqN, gI_eqI, gI_eqN, gI_leI, gI_ltI, jI_leN, jI_ltN, gI_sub, pif_tt, pif_ff, pg_tt, isB, or_true, true_or, pif_T, pif_F, pg_T, pb_S, upd_e, upd_n, fX9_layPays_12, h1]
        refine up_ok (fun fu d (q : (Nat → Int32) × (Nat → Int32) × (Nat → Int32) × (Nat → Int32)) => (fX9_layPays_107 N c_firsts c_goes c_holds c_many c_seconds fu (jI (H 0)) (jI d) q.1 q.2.1 q.2.2.1 q.2.2.2 cp cs cw)) _ (H 0) (fun d q => ∀ i, i < H 0 → q.2.2.2 i = jI (payB H (wonN f s e z) (merT (H 0) f s e z z) d i)) ?_ ?_ N 0 (c_chooser, c_later, c_outs, c) (by omega) (by omega) p0
        · intro fu d ⟨ch, cl, co, c⟩ hd hp2 ih
          obtain ⟨⟨ch2, cl2, co2⟩, e3, h3⟩ := layC_ok (N := N) (pg := 0) (kd := H 1) (wh := fun j => H (26 + j)) (c_chooser := ch) (c_later := cl) (c_outs := co) hN (by omega) (hh 0 (by omega)) h1 hkd hd (fun c hc => hh (26 + c) (by omega)) hk hG w1 w2 w3
          simp (disch := omega) only [jI_0, jI_1, jI_2, jI_3, jI_4, jI_5, jI_6, jI_7, jI_8, jI_9, jI_10, jI_11, jI_12, jI_13, jI_14, jI_15, jI_16, jI_20, jI_24, jI_26, jI_30, jI_31, jI_32, jI_40, jI_48, jI_56, jI_57, jI_59, jI_60, jI_97, jI_99, jI_122, jI_160, jI_240, jI_255, jI_768, jI_1000, ↓jN_1, ↓jN_2, ↓jN_3, ↓jN_4, ↓jN_8, ↓jN_10, ↓jN_11, ↓jN_12, ↓jN_14, ↓jN_20, jI_addN, jI_le, jI_lt, jI_eq, jI_cl, jI_in, jI_add, jI_sub, jI_eqN, gI_eqI, gI_eqN, gI_leI, gI_ltI, jI_leN, jI_ltN, gI_sub, pif_tt, pif_ff, pg_tt, isB, or_true, true_or, pif_T, pif_F, pg_T, pb_S, upd_e, upd_n, fX9_layPays_107, fX9_layPays_123, h1, e3]
          refine layP_134 (p := payB H (wonN f s e z) (merT (H 0) f s e z z) d) (ch := chN (H 1) (H 0) (wonN f s e z) (merT (H 0) f s e z z) (fun j => H (26 + j)) d) hN hR hh hd (fun c hc => ⟨h3 c hc, chN_lt hR.2.2.2.2.1 hd hc⟩) hp2 (fun c4 h4 => ?_)
          refine ih (_, _, _, _) (fun i hi => ?_)
          show c4 i = _
          rw [h4 i hi, if_pos kb, kb]; rfl
        · intro fu ⟨ch, cl, co, c⟩ hp2
          simp (disch := omega) only [jI_0, jI_1, jI_2, jI_3, jI_4, jI_5, jI_6, jI_7, jI_8, jI_9, jI_10, jI_11, jI_12, jI_13, jI_14, jI_15, jI_16, jI_20, jI_24, jI_26, jI_30, jI_31, jI_32, jI_40, jI_48, jI_56, jI_57, jI_59, jI_60, jI_97, jI_99, jI_122, jI_160, jI_240, jI_255, jI_768, jI_1000, ↓jN_1, ↓jN_2, ↓jN_3, ↓jN_4, ↓jN_8, ↓jN_10, ↓jN_11, ↓jN_12, ↓jN_14, ↓jN_20, jI_addN, jI_le, jI_lt, jI_eq, jI_cl, jI_in, jI_add, jI_sub, jI_eqN, gI_eqI, gI_eqN, gI_leI, gI_ltI, jI_leN, jI_ltN, gI_sub, pif_tt, pif_ff, pg_tt, isB, or_true, true_or, pif_T, pif_F, pg_T, pb_S, upd_e, upd_n, fX9_layPays_107, fX9_layPays_123, fX9_layPays_198, h1]
          refine Ok.s ⟨fun i hi => ?_, w3⟩
          unfold payN
          rw [if_neg k4, if_pos kb]; exact hp2 i hi
      · obtain ⟨⟨ch2, cl2, co2⟩, e3, h3⟩ := layC_ok (N := N) (pg := 0) (d := 0) (kd := H 1) (wh := fun j => H (26 + j)) (c_chooser := c_chooser) (c_later := c_later) (c_outs := c_outs) hN (by omega) (hh 0 (by omega)) h1 hkd (by omega) (fun c hc => hh (26 + c) (by omega)) hk hG w1 w2 w3
        obtain ⟨N1, rfl⟩ : ∃ q, N = q + 2 := ⟨N - 2, by omega⟩
        simp (disch := omega) only [jI_0, jI_1, jI_2, jI_3, jI_4, jI_5, jI_6, jI_7, jI_8, jI_9, jI_10, jI_11, jI_12, jI_13, jI_14, jI_15, jI_16, jI_20, jI_24, jI_26, jI_30, jI_31, jI_32, jI_40, jI_48, jI_56, jI_57, jI_59, jI_60, jI_97, jI_99, jI_122, jI_160, jI_240, jI_255, jI_768, jI_1000, ↓jN_1, ↓jN_2, ↓jN_3, ↓jN_4, ↓jN_8, ↓jN_10, ↓jN_11, ↓jN_12, ↓jN_14, ↓jN_20, jI_addN, jI_le, jI_lt, jI_eq, jI_cl, jI_in, jI_add, jI_sub, jI_eqN, gI_eqI, gI_eqN, gI_leI, gI_ltI, jI_leN, jI_ltN, gI_sub, pif_tt, pif_ff, pg_tt, isB, or_true, true_or, pif_T, pif_F, pg_T, pb_S, upd_e, upd_n, fX9_layPays_12, h1]
        have step : Ok (fX9_layPays_107 (N1 + 2) c_firsts c_goes c_holds c_many c_seconds (N1 + 2) (jI (H 0)) (jI 0) c_chooser c_later c_outs c cp cs cw) (fun q => (∀ i, i < H 0 → q.2.2.2.1 i = jI (payN H (wonN f s e z) (merT (H 0) f s e z z) i)) ∧ (∀ i, i < H 0 → q.2.2.2.2.1 i = jI (plc (H 0) (wonN f s e z) i))) := by
          rw [fX9_layPays_107]
          simp (disch := omega) only [jI_0, jI_1, jI_2, jI_3, jI_4, jI_5, jI_6, jI_7, jI_8, jI_9, jI_10, jI_11, jI_12, jI_13, jI_14, jI_15, jI_16, jI_20, jI_24, jI_26, jI_30, jI_31, jI_32, jI_40, jI_48, jI_56, jI_57, jI_59, jI_60, jI_97, jI_99, jI_122, jI_160, jI_240, jI_255, jI_768, jI_1000, ↓jN_1, ↓jN_2, ↓jN_3, ↓jN_4, ↓jN_8, ↓jN_10, ↓jN_11, ↓jN_12, ↓jN_14, ↓jN_20, jI_addN, jI_le, jI_lt, jI_eq, jI_cl, jI_in, jI_add, jI_sub, jI_eqN, gI_eqI, gI_eqN, gI_leI, gI_ltI, jI_leN, jI_ltN, gI_sub, pif_tt, pif_ff, pg_tt, isB, or_true, true_or, pif_T, pif_F, pg_T, pb_S, upd_e, upd_n, fX9_layPays_123, h1, e3]
          refine layP_134 (p := pay0 H (wonN f s e z)) (ch := chN (H 1) (H 0) (wonN f s e z) (merT (H 0) f s e z z) (fun j => H (26 + j)) 0) (d := 0) hN hR hh (by omega) (fun c hc => ⟨h3 c hc, chN_lt hR.2.2.2.2.1 (by omega) hc⟩) p0 (fun c4 h4 => ?_)
          rw [fX9_layPays_107]
          simp (disch := omega) only [jI_0, jI_1, jI_2, jI_3, jI_4, jI_5, jI_6, jI_7, jI_8, jI_9, jI_10, jI_11, jI_12, jI_13, jI_14, jI_15, jI_16, jI_20, jI_24, jI_26, jI_30, jI_31, jI_32, jI_40, jI_48, jI_56, jI_57, jI_59, jI_60, jI_97, jI_99, jI_122, jI_160, jI_240, jI_255, jI_768, jI_1000, ↓jN_1, ↓jN_2, ↓jN_3, ↓jN_4, ↓jN_8, ↓jN_10, ↓jN_11, ↓jN_12, ↓jN_14, ↓jN_20, jI_addN, jI_le, jI_lt, jI_eq, jI_cl, jI_in, jI_add, jI_sub, jI_eqN, gI_eqI, gI_eqN, gI_leI, gI_ltI, jI_leN, jI_ltN, gI_sub, pif_tt, pif_ff, pg_tt, isB, or_true, true_or, pif_T, pif_F, pg_T, pb_S, upd_e, upd_n, fX9_layPays_123, fX9_layPays_198, h1]
          refine Ok.s ⟨fun i hi => ?_, w3⟩
          show c4 i = _
          rw [h4 i hi, if_neg kb]
          unfold payN
          rw [if_neg k4, if_neg kb]
        exact step
end
