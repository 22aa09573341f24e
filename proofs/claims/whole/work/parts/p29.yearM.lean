/-! YEARS: the reference's one YEAR. -/
section
variable {v_seed : Int32} {v_widest : Int32} {c_chooser : Nat → Int32} {c_firstOnes : Nat → Int32} {c_firsts : Nat → Int32} {c_force : Nat → Int32} {c_goes : Nat → Int32} {c_holds : Nat → Int32} {c_lastOnes : Nat → Int32} {c_later : Nat → Int32} {c_many : Nat → Int32} {c_outs : Nat → Int32} {c_placeOf : Nat → Int32} {c_seconds : Nat → Int32} {c_sideAt : Nat → Int32} {c_won : Nat → Int32}
variable {N : Nat} {H : Nat → Nat} {st : Nat → Nat}
theorem apartM (hN : 100 ≤ N) (hR : Rk H) (hh : Rm H c_holds) (hst : ∀ i, i < H 0 → 1 ≤ st i ∧ st i ≤ 9) (hs : ∀ i, i < H 0 → c_force i = jI (st i)) : (fX9_apart N c_force c_holds) = some (jI (gpN (H 0) st)) := by
  have hn := hR.2.1
  have hn2 := hR.1
  have hsd := sidesR (N := N) hh
  have key : Ok ((fX9_apart_7 N c_force c_holds N (jI 10) (jI 0) (jI 0))) (fun q => q = jI (gpN (H 0) st)) := by
    refine up_ok (fun fu m (q : Nat × Nat) => (fX9_apart_7 N c_force c_holds fu (jI q.1) (jI q.2) (jI m))) _ (H 0) (fun m q => q.1 = mnX st m ∧ q.2 = mxN m st ∧ q.1 ≤ 10 ∧ q.2 ≤ 9 ∧ (0 < m → q.1 ≤ q.2)) ?_ ?_ N 0 (10, 0) (by omega) (by omega) ⟨rfl, rfl, by simp only; omega, by simp only; omega, fun h => by omega⟩
    · intro fu m ⟨a, b⟩ hm ⟨h1, h2, h3, h4, h5⟩ ih
      simp only at h1 h2 h3 h4 h5
      have sm := hs m hm
      have tm := hst m hm
      by_cases c1 : a ≤ st m
      · by_cases c2 : st m ≤ b
        · simp (disch := omega) only [jI_0, jI_1, jI_2, jI_3, jI_4, jI_5, jI_6, jI_7, jI_8, jI_9, jI_10, jI_11, jI_12, jI_13, jI_14, jI_15, jI_16, jI_20, jI_24, jI_26, jI_30, jI_31, jI_32, jI_40, jI_48, jI_56, jI_57, jI_59, jI_60, jI_97, jI_99, jI_122, jI_160, jI_240, jI_255, jI_768, jI_1000, ↓jN_1, ↓jN_2, ↓jN_3, ↓jN_4, ↓jN_8, ↓jN_10, ↓jN_11, ↓jN_12, ↓jN_14, ↓jN_20, jI_addN, jI_le, jI_lt, jI_eq, jI_cl, jI_in, jI_add, jI_sub, jI_eqN, gI_eqI, gI_eqN, gI_leI, gI_ltI, jI_leN, jI_ltN, gI_sub, pif_tt, pif_ff, pg_tt, isB, or_true, true_or, pif_T, pif_F, pg_T, pb_S, upd_e, upd_n, fX9_apart_7, fX9_apart_35, fX9_apart_56, hsd, sm]
          exact ih (a, b) ⟨by simp only [mnX]; omega, by simp only [mxN]; omega, h3, h4, fun _ => by simp only; omega⟩
        · simp (disch := omega) only [jI_0, jI_1, jI_2, jI_3, jI_4, jI_5, jI_6, jI_7, jI_8, jI_9, jI_10, jI_11, jI_12, jI_13, jI_14, jI_15, jI_16, jI_20, jI_24, jI_26, jI_30, jI_31, jI_32, jI_40, jI_48, jI_56, jI_57, jI_59, jI_60, jI_97, jI_99, jI_122, jI_160, jI_240, jI_255, jI_768, jI_1000, ↓jN_1, ↓jN_2, ↓jN_3, ↓jN_4, ↓jN_8, ↓jN_10, ↓jN_11, ↓jN_12, ↓jN_14, ↓jN_20, jI_addN, jI_le, jI_lt, jI_eq, jI_cl, jI_in, jI_add, jI_sub, jI_eqN, gI_eqI, gI_eqN, gI_leI, gI_ltI, jI_leN, jI_ltN, gI_sub, pif_tt, pif_ff, pg_tt, isB, or_true, true_or, pif_T, pif_F, pg_T, pb_S, upd_e, upd_n, fX9_apart_7, fX9_apart_35, fX9_apart_56, hsd, sm]
          exact ih (a, st m) ⟨by simp only [mnX]; omega, by simp only [mxN]; omega, h3, by simp only; omega, fun _ => by simp only; omega⟩
      · by_cases c2 : st m ≤ b
        · simp (disch := omega) only [jI_0, jI_1, jI_2, jI_3, jI_4, jI_5, jI_6, jI_7, jI_8, jI_9, jI_10, jI_11, jI_12, jI_13, jI_14, jI_15, jI_16, jI_20, jI_24, jI_26, jI_30, jI_31, jI_32, jI_40, jI_48, jI_56, jI_57, jI_59, jI_60, jI_97, jI_99, jI_122, jI_160, jI_240, jI_255, jI_768, jI_1000, ↓jN_1, ↓jN_2, ↓jN_3, ↓jN_4, ↓jN_8, ↓jN_10, ↓jN_11, ↓jN_12, ↓jN_14, ↓jN_20, jI_addN, jI_le, jI_lt, jI_eq, jI_cl, jI_in, jI_add, jI_sub, jI_eqN, gI_eqI, gI_eqN, gI_leI, gI_ltI, jI_leN, jI_ltN, gI_sub, pif_tt, pif_ff, pg_tt, isB, or_true, true_or, pif_T, pif_F, pg_T, pb_S, upd_e, upd_n, fX9_apart_7, fX9_apart_35, fX9_apart_56, hsd, sm]
          exact ih (st m, b) ⟨by simp only [mnX]; omega, by simp only [mxN]; omega, by simp only; omega, h4, fun _ => by simp only; omega⟩
        · simp (disch := omega) only [jI_0, jI_1, jI_2, jI_3, jI_4, jI_5, jI_6, jI_7, jI_8, jI_9, jI_10, jI_11, jI_12, jI_13, jI_14, jI_15, jI_16, jI_20, jI_24, jI_26, jI_30, jI_31, jI_32, jI_40, jI_48, jI_56, jI_57, jI_59, jI_60, jI_97, jI_99, jI_122, jI_160, jI_240, jI_255, jI_768, jI_1000, ↓jN_1, ↓jN_2, ↓jN_3, ↓jN_4, ↓jN_8, ↓jN_10, ↓jN_11, ↓jN_12, ↓jN_14, ↓jN_20, jI_addN, jI_le, jI_lt, jI_eq, jI_cl, jI_in, jI_add, jI_sub, jI_eqN, gI_eqI, gI_eqN, gI_leI, gI_ltI, jI_leN, jI_ltN, gI_sub, pif_tt, pif_ff, pg_tt, isB, or_true, true_or, pif_T, pif_F, pg_T, pb_S, upd_e, upd_n, fX9_apart_7, fX9_apart_35, fX9_apart_56, hsd, sm]
          exact ih (st m, st m) ⟨by simp only [mnX]; omega, by simp only [mxN]; omega, by simp only; omega, by simp only; omega, fun _ => by simp only; omega⟩
    · intro fu ⟨a, b⟩ ⟨h1, h2, h3, h4, h5⟩
      simp only at h1 h2 h3 h4 h5
      have h6 := h5 (by omega)
      simp (disch := omega) only [jI_0, jI_1, jI_2, jI_3, jI_4, jI_5, jI_6, jI_7, jI_8, jI_9, jI_10, jI_11, jI_12, jI_13, jI_14, jI_15, jI_16, jI_20, jI_24, jI_26, jI_30, jI_31, jI_32, jI_40, jI_48, jI_56, jI_57, jI_59, jI_60, jI_97, jI_99, jI_122, jI_160, jI_240, jI_255, jI_768, jI_1000, ↓jN_1, ↓jN_2, ↓jN_3, ↓jN_4, ↓jN_8, ↓jN_10, ↓jN_11, ↓jN_12, ↓jN_14, ↓jN_20, jI_addN, jI_le, jI_lt, jI_eq, jI_cl, jI_in, jI_add, jI_sub, jI_eqN, gI_eqI, gI_eqN, gI_leI, gI_ltI, jI_leN, jI_ltN, gI_sub, pif_tt, pif_ff, pg_tt, isB, or_true, true_or, pif_T, pif_F, pg_T, pb_S, upd_e, upd_n, fX9_apart_7, hsd]
      exact Ok.s (by unfold gpN; rw [h1, h2])
  obtain ⟨a, e1, rfl⟩ := key
  exact e1
/-- what a YEAR leaves of the page of GAMES -/
def kpP (cf cs cg cm cf' cs' cg' cm' : Nat → Int32) : Prop := (∀ g, g < 30 → cf' g = cf g ∧ cs' g = cs g ∧ cg' g = cg g) ∧ cm' 0 = cm 0
theorem year_213 {x : Int32} {wd d : Nat} {ch : Nat → Nat} {x1 : Int32} (hN : 100 ≤ N) (hR : Rk H) (hh : Rm H c_holds) (hwd : wd ≤ 9) (hch : ∀ c, c < H 0 → c_chooser c = jI (ch c) ∧ ch c < H 0) (hst : ∀ i, i < H 0 → 1 ≤ st i ∧ st i ≤ 9) (hs : ∀ i, i < H 0 → c_force i = jI (st i)) : Ok ((fX9_oneYear_213 N c_holds x1 N (jI (H 0)) (jI 0) x (jI wd) c_chooser c_firstOnes c_firsts c_force c_goes c_lastOnes c_later c_many c_outs c_placeOf c_seconds c_sideAt c_won)) (fun q => q.1 = x ∧ q.2.1 = jI (max wd (gpN (H 0) (gwN ch (fun j => H (14 + j)) st (H 0)))) ∧ q.2.2.2.1 = c_firstOnes ∧ q.2.2.2.2.2.2.2.1 = c_lastOnes ∧ (∀ i, i < H 0 → q.2.2.2.2.2.1 i = jI (gwN ch (fun j => H (14 + j)) st (H 0) i)) ∧ q.2.2.2.2.1 = c_firsts ∧ q.2.2.2.2.2.2.2.2.2.2.2.2.1 = c_seconds ∧ q.2.2.2.2.2.2.1 = c_goes ∧ q.2.2.2.2.2.2.2.2.2.1 = c_many) := by
  have hn := hR.2.1
  refine up_ok (fun fu c cf => (fX9_oneYear_213 N c_holds x1 fu (jI (H 0)) (jI c) x (jI wd) c_chooser c_firstOnes c_firsts cf c_goes c_lastOnes c_later c_many c_outs c_placeOf c_seconds c_sideAt c_won)) _ (H 0) (fun c cf => ∀ i, i < H 0 → cf i = jI (gwN ch (fun j => H (14 + j)) st c i)) ?_ ?_ N 0 c_force (by omega) (by omega) hs
  · intro fu c cf hc hcf ih
    obtain ⟨t1, t2⟩ := hch c hc
    have t3 := hcf _ t2
    have t4 := hh (14 + c) (by omega)
    have t5 := (hR.2.2.2.1 c (by omega)).2.2.2.1
    have t6 := gwN_le (ch := ch) (cw := fun j => H (14 + j)) (n := H 0) hst c _ t2
    have fin : ∀ v, v = clN (gwN ch (fun j => H (14 + j)) st c (ch c) + H (14 + c) / 10 - 1) → (∀ i, i < H 0 → upd cf (ch c) (jI v) i = jI (gwN ch (fun j => H (14 + j)) st (c + 1) i)) := fun v hv i hi => by
      simp only [gwN]
      by_cases e : i = ch c
      · rw [upd_e e, updN_e e, hv]
      · rw [upd_n e, updN_n e]; exact hcf i hi
    by_cases c1 : 1 ≤ gwN ch (fun j => H (14 + j)) st c (ch c) + H (14 + c) / 10 - 1
    · by_cases c2 : gwN ch (fun j => H (14 + j)) st c (ch c) + H (14 + c) / 10 - 1 ≤ 9
      · simp (disch := omega) only [jI_0, jI_1, jI_2, jI_3, jI_4, jI_5, jI_6, jI_7, jI_8, jI_9, jI_10, jI_11, jI_12, jI_13, jI_14, jI_15, jI_16, jI_20, jI_24, jI_26, jI_30, jI_31, jI_32, jI_40, jI_48, jI_56, jI_57, jI_59, jI_60, jI_97, jI_99, jI_122, jI_160, jI_240, jI_255, jI_768, jI_1000, ↓jN_1, ↓jN_2, ↓jN_3, ↓jN_4, ↓jN_8, ↓jN_10, ↓jN_11, ↓jN_12, ↓jN_14, ↓jN_20, jI_addN, jI_le, jI_lt, jI_eq, jI_cl, jI_in, jI_add, jI_sub, jI_eqN, gI_eqI, gI_eqN, gI_leI, gI_ltI, jI_leN, jI_ltN, gI_sub, pif_tt, pif_ff, pg_tt, isB, or_true, true_or, pif_T, pif_F, pg_T, pb_S, upd_e, upd_n, fX9_oneYear_213, fX9_oneYear_284, t1, t3, t4, jI_div]
        exact ih _ (fin _ (by unfold clN; omega))
      · simp (disch := omega) only [jI_0, jI_1, jI_2, jI_3, jI_4, jI_5, jI_6, jI_7, jI_8, jI_9, jI_10, jI_11, jI_12, jI_13, jI_14, jI_15, jI_16, jI_20, jI_24, jI_26, jI_30, jI_31, jI_32, jI_40, jI_48, jI_56, jI_57, jI_59, jI_60, jI_97, jI_99, jI_122, jI_160, jI_240, jI_255, jI_768, jI_1000, ↓jN_1, ↓jN_2, ↓jN_3, ↓jN_4, ↓jN_8, ↓jN_10, ↓jN_11, ↓jN_12, ↓jN_14, ↓jN_20, jI_addN, jI_le, jI_lt, jI_eq, jI_cl, jI_in, jI_add, jI_sub, jI_eqN, gI_eqI, gI_eqN, gI_leI, gI_ltI, jI_leN, jI_ltN, gI_sub, pif_tt, pif_ff, pg_tt, isB, or_true, true_or, pif_T, pif_F, pg_T, pb_S, upd_e, upd_n, fX9_oneYear_213, fX9_oneYear_284, t1, t3, t4, jI_div]
        exact ih _ (fin _ (by unfold clN; omega))
    · simp (disch := omega) only [jI_0, jI_1, jI_2, jI_3, jI_4, jI_5, jI_6, jI_7, jI_8, jI_9, jI_10, jI_11, jI_12, jI_13, jI_14, jI_15, jI_16, jI_20, jI_24, jI_26, jI_30, jI_31, jI_32, jI_40, jI_48, jI_56, jI_57, jI_59, jI_60, jI_97, jI_99, jI_122, jI_160, jI_240, jI_255, jI_768, jI_1000, ↓jN_1, ↓jN_2, ↓jN_3, ↓jN_4, ↓jN_8, ↓jN_10, ↓jN_11, ↓jN_12, ↓jN_14, ↓jN_20, jI_addN, jI_le, jI_lt, jI_eq, jI_cl, jI_in, jI_add, jI_sub, jI_eqN, gI_eqI, gI_eqN, gI_leI, gI_ltI, jI_leN, jI_ltN, gI_sub, pif_tt, pif_ff, pg_tt, isB, or_true, true_or, pif_T, pif_F, pg_T, pb_S, upd_e, upd_n, fX9_oneYear_213, fX9_oneYear_284, t1, t3, t4, jI_div]
      exact ih _ (fin _ (by unfold clN; omega))
  · intro fu cf hcf
    have hst2 : ∀ i, i < H 0 → 1 ≤ gwN ch (fun j => H (14 + j)) st (H 0) i ∧ gwN ch (fun j => H (14 + j)) st (H 0) i ≤ 9 := fun i hi => gwN_le hst _ i hi
    have e1 := apartM (N := N) (st := gwN ch (fun j => H (14 + j)) st (H 0)) (c_force := cf) hN hR hh hst2 hcf
    have hgl := gpN_le (n := H 0) (st := gwN ch (fun j => H (14 + j)) st (H 0)) (fun i hi => (hst2 i hi).2)
    by_cases c1 : gpN (H 0) (gwN ch (fun j => H (14 + j)) st (H 0)) ≤ wd
    · simp (disch := omega) only [jI_0, jI_1, jI_2, jI_3, jI_4, jI_5, jI_6, jI_7, jI_8, jI_9, jI_10, jI_11, jI_12, jI_13, jI_14, jI_15, jI_16, jI_20, jI_24, jI_26, jI_30, jI_31, jI_32, jI_40, jI_48, jI_56, jI_57, jI_59, jI_60, jI_97, jI_99, jI_122, jI_160, jI_240, jI_255, jI_768, jI_1000, ↓jN_1, ↓jN_2, ↓jN_3, ↓jN_4, ↓jN_8, ↓jN_10, ↓jN_11, ↓jN_12, ↓jN_14, ↓jN_20, jI_addN, jI_le, jI_lt, jI_eq, jI_cl, jI_in, jI_add, jI_sub, jI_eqN, gI_eqI, gI_eqN, gI_leI, gI_ltI, jI_leN, jI_ltN, gI_sub, pif_tt, pif_ff, pg_tt, isB, or_true, true_or, pif_T, pif_F, pg_T, pb_S, upd_e, upd_n, fX9_oneYear_213, fX9_oneYear_314, e1]
      exact Ok.s ⟨rfl, by rw [Nat.max_eq_left c1], rfl, rfl, hcf, rfl, rfl, rfl, rfl⟩
    · simp (disch := omega) only [jI_0, jI_1, jI_2, jI_3, jI_4, jI_5, jI_6, jI_7, jI_8, jI_9, jI_10, jI_11, jI_12, jI_13, jI_14, jI_15, jI_16, jI_20, jI_24, jI_26, jI_30, jI_31, jI_32, jI_40, jI_48, jI_56, jI_57, jI_59, jI_60, jI_97, jI_99, jI_122, jI_160, jI_240, jI_255, jI_768, jI_1000, ↓jN_1, ↓jN_2, ↓jN_3, ↓jN_4, ↓jN_8, ↓jN_10, ↓jN_11, ↓jN_12, ↓jN_14, ↓jN_20, jI_addN, jI_le, jI_lt, jI_eq, jI_cl, jI_in, jI_add, jI_sub, jI_eqN, gI_eqI, gI_eqN, gI_leI, gI_ltI, jI_leN, jI_ltN, gI_sub, pif_tt, pif_ff, pg_tt, isB, or_true, true_or, pif_T, pif_F, pg_T, pb_S, upd_e, upd_n, fX9_oneYear_213, fX9_oneYear_314, e1]
      exact Ok.s ⟨rfl, by rw [Nat.max_eq_right (by omega)], rfl, rfl, hcf, rfl, rfl, rfl, rfl⟩
theorem year_204 {x sd : Int32} {wd d : Nat} {x1 : Int32} (hN : 100 ≤ N) (hR : Rk H) (hh : Rm H c_holds) (hwd : wd ≤ 9) (hd : d = yB H x) (hst : ∀ i, i < H 0 → 1 ≤ st i ∧ st i ≤ 9) (hs : ∀ i, i < H 0 → c_force i = jI (st i)) (hG : Gm 1 (zR (H 0)) (rF (H 0)) (rS (H 0)) (yE (H 0) x st) c_many c_firsts c_seconds c_goes) (u1 : ∀ i, i < H 0 → c_won i = jI (yW (H 0) x st i)) (u2 : ∀ p, p < H 0 → c_sideAt p = jI (ordN (yW (H 0) x st) (H 0) p)) (u3 : ∀ i, i < H 0 → c_placeOf i = jI (plc (H 0) (yW (H 0) x st) i)) : Ok ((fX9_oneYear_204 N c_holds x1 (jI (H 0)) (jI d) sd (jI wd) c_chooser c_firstOnes c_firsts c_force c_goes c_lastOnes c_later c_many c_outs c_placeOf c_seconds c_sideAt c_won)) (fun q => q.1 = sd ∧ q.2.1 = jI (max wd (gpN (H 0) (gwN (yCh H x st) (fun j => H (14 + j)) st (H 0)))) ∧ q.2.2.2.1 = c_firstOnes ∧ q.2.2.2.2.2.2.2.1 = c_lastOnes ∧ (∀ i, i < H 0 → q.2.2.2.2.2.1 i = jI (gwN (yCh H x st) (fun j => H (14 + j)) st (H 0) i)) ∧ q.2.2.2.2.1 = c_firsts ∧ q.2.2.2.2.2.2.2.2.2.2.2.2.1 = c_seconds ∧ q.2.2.2.2.2.2.1 = c_goes ∧ q.2.2.2.2.2.2.2.2.2.1 = c_many) := by
  have hn := hR.2.1
  have hk4 := hR.2.2.1
  subst hd
  have hyb := yB_lt hR x
  obtain ⟨⟨ch2, cl2, co2⟩, e5, h6⟩ := layC_ok (N := N) (pg := 1) (kd := H 1) (d := yB H x) (wh := fun j => H (26 + j)) (c_chooser := c_chooser) (c_later := c_later) (c_outs := c_outs) hN (by omega) (hh 0 (by omega)) (hh 1 (by omega)) hk4 hyb (fun c hc => hh (26 + c) (by omega)) (yGk hn x st) hG u1 u2 u3
  simp only at h6
  have e5 : fX9_layChoices N c_chooser c_firsts c_goes c_holds c_later c_many c_outs c_placeOf c_seconds c_sideAt c_won 1 (jI (yB H x)) = some (ch2, cl2, co2) := e5
  unfold fX9_oneYear_204
  rw [e5, pb_Q]
  exact year_213 (d := 0) (ch := yCh H x st) hN hR hh hwd (fun c hc => ⟨h6 c hc, chN_lt hR.2.2.2.2.1 hyb hc⟩) hst hs
end
