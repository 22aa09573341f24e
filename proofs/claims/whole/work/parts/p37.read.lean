/-! read: the loops. -/
section
variable {N z n : Nat} {f s e : Nat → Nat}
theorem read_71B {k nn f0 ln len : Nat} {x4 : Int32} {v_torn : Int32} {c_cells c_lanes c_lengths c_many c_goes : Nat → Int32} {Q : Int32 × Int32 × (Nat → Int32) → Prop} (hN : 100 ≤ N) (hk4 : k < 4) (hnn : nn ≤ 30) (hln : ln < 3) (hlen : len ≤ 40) (hf0 : f0 < len) (g1 : c_lanes k = jI ln) (g2 : c_lengths k = jI len) (hgood : ∀ i, i < min (len - f0) nn → gdB (c_cells (40 * k + f0 + i)) = true) (hk : Ok ((fX9_read_198 N c_cells c_lanes c_lengths c_many (jI k) (jI ln) (jI f0) x4 (jI nn) (jI (if len - f0 < nn then 2 else 0)) (jI (min (len - f0) nn)) v_torn c_goes)) Q) : Ok ((fX9_read_71 N c_cells c_lanes c_lengths c_many (jI k) (jI ln) (jI f0) x4 (jI nn) N (jI 0) (jI 0) (jI 0) v_torn c_goes)) Q := by
  generalize hwh : min (len - f0) nn = wh at *
  refine up_ok (fun fu i (q : Nat × Nat) => (fX9_read_71 N c_cells c_lanes c_lengths c_many (jI k) (jI ln) (jI f0) x4 (jI nn) fu (jI q.1) (jI q.2) (jI i) v_torn c_goes)) _ (wh + 1) (fun i q => (i ≤ wh ∧ q.1 = 0 ∧ q.2 = i) ∨ (i = wh + 1 ∧ q.1 = 2 ∧ q.2 = wh ∧ len - f0 < nn)) ?_ ?_ N 0 (0, 0) (by omega) (by omega) (Or.inl ⟨by omega, rfl, rfl⟩)
  · intro fu i ⟨a, b⟩ hi hP ih
    simp only at hP
    rcases hP with ⟨_, rfl, rfl⟩ | ⟨h, _⟩
    · by_cases hiw : b < wh
      · obtain ⟨c1, c2⟩ := gd_t (hgood b hiw)
        have i1 := inNat (N := N) (a := f0 + b) (b := len - 1) (by omega) (by omega)
        rw [if_pos (by omega)] at i1
        have i2 := inNat (N := N) (a := vlN (c_cells (40 * k + f0 + b))) (b := 2) (by omega) (by omega)
        rw [if_pos c2] at i2
        generalize hv : vlN (c_cells (40 * k + f0 + b)) = v at *
        simp (disch := omega) only [jI_0, jI_1, jI_2, jI_3, jI_4, jI_5, jI_6, jI_7, jI_8, jI_9, jI_10, jI_11, jI_12, jI_13, jI_14, jI_15, jI_16, jI_20, jI_24, jI_26, jI_30, jI_31, jI_32, jI_40, jI_48, jI_56, jI_57, jI_59, jI_60, jI_97, jI_99, jI_122, jI_160, jI_240, jI_255, jI_768, jI_1000, ↓jN_1, ↓jN_2, ↓jN_3, ↓jN_4, ↓jN_8, ↓jN_10, ↓jN_11, ↓jN_12, ↓jN_14, ↓jN_20, jI_addN, jI_le, jI_lt, jI_eq, jI_cl, jI_in, jI_add, jI_sub, jI_eqN, gI_eqI, gI_eqN, gI_leI, gI_ltI, jI_leN, jI_ltN, gI_sub, pif_tt, pif_ff, pg_tt, isB, or_true, true_or, pif_T, pif_F, pg_T, pb_S, upd_e, upd_n, jL_0, jL_1, jL_2, jL_5, jL_6, jL_15, jL_16, jL_63, jI_mul, jI_L, jL_I, jL_add, jL_sub, jL_mul, fX9_read_71, fX9_read_139, fX9_read_177, fX9_read_189, g1, g2, i1, c1, i2]
        exact ih (0, b + 1) (Or.inl ⟨by omega, rfl, rfl⟩)
      · obtain rfl : b = wh := by omega
        by_cases hbn : nn ≤ b
        · rw [if_neg (by omega)] at hk
          simp (disch := omega) only [jI_0, jI_1, jI_2, jI_3, jI_4, jI_5, jI_6, jI_7, jI_8, jI_9, jI_10, jI_11, jI_12, jI_13, jI_14, jI_15, jI_16, jI_20, jI_24, jI_26, jI_30, jI_31, jI_32, jI_40, jI_48, jI_56, jI_57, jI_59, jI_60, jI_97, jI_99, jI_122, jI_160, jI_240, jI_255, jI_768, jI_1000, ↓jN_1, ↓jN_2, ↓jN_3, ↓jN_4, ↓jN_8, ↓jN_10, ↓jN_11, ↓jN_12, ↓jN_14, ↓jN_20, jI_addN, jI_le, jI_lt, jI_eq, jI_cl, jI_in, jI_add, jI_sub, jI_eqN, gI_eqI, gI_eqN, gI_leI, gI_ltI, jI_leN, jI_ltN, gI_sub, pif_tt, pif_ff, pg_tt, isB, or_true, true_or, pif_T, pif_F, pg_T, pb_S, upd_e, upd_n, jL_0, jL_1, jL_2, jL_5, jL_6, jL_15, jL_16, jL_63, jI_mul, jI_L, jL_I, jL_add, jL_sub, jL_mul, fX9_read_71]
          exact hk
        · have i1 := inNat (N := N) (a := f0 + b) (b := len - 1) (by omega) (by omega)
          rw [if_neg (by omega)] at i1
          simp (disch := omega) only [jI_0, jI_1, jI_2, jI_3, jI_4, jI_5, jI_6, jI_7, jI_8, jI_9, jI_10, jI_11, jI_12, jI_13, jI_14, jI_15, jI_16, jI_20, jI_24, jI_26, jI_30, jI_31, jI_32, jI_40, jI_48, jI_56, jI_57, jI_59, jI_60, jI_97, jI_99, jI_122, jI_160, jI_240, jI_255, jI_768, jI_1000, ↓jN_1, ↓jN_2, ↓jN_3, ↓jN_4, ↓jN_8, ↓jN_10, ↓jN_11, ↓jN_12, ↓jN_14, ↓jN_20, jI_addN, jI_le, jI_lt, jI_eq, jI_cl, jI_in, jI_add, jI_sub, jI_eqN, gI_eqI, gI_eqN, gI_leI, gI_ltI, jI_leN, jI_ltN, gI_sub, pif_tt, pif_ff, pg_tt, isB, or_true, true_or, pif_T, pif_F, pg_T, pb_S, upd_e, upd_n, jL_0, jL_1, jL_2, jL_5, jL_6, jL_15, jL_16, jL_63, jI_mul, jI_L, jL_I, jL_add, jL_sub, jL_mul, fX9_read_71, fX9_read_139, fX9_read_177, fX9_read_189, g1, g2, i1]
          exact ih (2, b + 0) (Or.inr ⟨rfl, rfl, rfl, by omega⟩)
    · omega
  · intro fu ⟨a, b⟩ hP
    simp only at hP
    rcases hP with ⟨h, _⟩ | ⟨_, rfl, rfl, hl⟩
    · omega
    · rw [if_pos hl] at hk
      by_cases h3 : nn ≤ b + 1
      · simp (disch := omega) only [jI_0, jI_1, jI_2, jI_3, jI_4, jI_5, jI_6, jI_7, jI_8, jI_9, jI_10, jI_11, jI_12, jI_13, jI_14, jI_15, jI_16, jI_20, jI_24, jI_26, jI_30, jI_31, jI_32, jI_40, jI_48, jI_56, jI_57, jI_59, jI_60, jI_97, jI_99, jI_122, jI_160, jI_240, jI_255, jI_768, jI_1000, ↓jN_1, ↓jN_2, ↓jN_3, ↓jN_4, ↓jN_8, ↓jN_10, ↓jN_11, ↓jN_12, ↓jN_14, ↓jN_20, jI_addN, jI_le, jI_lt, jI_eq, jI_cl, jI_in, jI_add, jI_sub, jI_eqN, gI_eqI, gI_eqN, gI_leI, gI_ltI, jI_leN, jI_ltN, gI_sub, pif_tt, pif_ff, pg_tt, isB, or_true, true_or, pif_T, pif_F, pg_T, pb_S, upd_e, upd_n, jL_0, jL_1, jL_2, jL_5, jL_6, jL_15, jL_16, jL_63, jI_mul, jI_L, jL_I, jL_add, jL_sub, jL_mul, fX9_read_71]
        exact hk
      · simp (disch := omega) only [jI_0, jI_1, jI_2, jI_3, jI_4, jI_5, jI_6, jI_7, jI_8, jI_9, jI_10, jI_11, jI_12, jI_13, jI_14, jI_15, jI_16, jI_20, jI_24, jI_26, jI_30, jI_31, jI_32, jI_40, jI_48, jI_56, jI_57, jI_59, jI_60, jI_97, jI_99, jI_122, jI_160, jI_240, jI_255, jI_768, jI_1000, ↓jN_1, ↓jN_2, ↓jN_3, ↓jN_4, ↓jN_8, ↓jN_10, ↓jN_11, ↓jN_12, ↓jN_14, ↓jN_20, jI_addN, jI_le, jI_lt, jI_eq, jI_cl, jI_in, jI_add, jI_sub, jI_eqN, gI_eqI, gI_eqN, gI_leI, gI_ltI, jI_leN, jI_ltN, gI_sub, pif_tt, pif_ff, pg_tt, isB, or_true, true_or, pif_T, pif_F, pg_T, pb_S, upd_e, upd_n, jL_0, jL_1, jL_2, jL_5, jL_6, jL_15, jL_16, jL_63, jI_mul, jI_L, jL_I, jL_add, jL_sub, jL_mul, fX9_read_71]
        exact hk
theorem read_71C {k nn f0 ln len bd : Nat} {x4 : Int32} {v_torn : Int32} {c_cells c_lanes c_lengths c_many c_goes : Nat → Int32} {Q : Int32 × Int32 × (Nat → Int32) → Prop} (hN : 100 ≤ N) (hk4 : k < 4) (hnn : nn ≤ 30) (hln : ln < 3) (hlen : len ≤ 40) (hf0 : f0 < len) (g1 : c_lanes k = jI ln) (g2 : c_lengths k = jI len) (hbd : bd < min (len - f0) nn) (hgood : ∀ i, i < bd → gdB (c_cells (40 * k + f0 + i)) = true) (hbad : gdB (c_cells (40 * k + f0 + bd)) = false) (hk : Q (gI (20 + bd), v_torn, c_goes)) : Ok ((fX9_read_71 N c_cells c_lanes c_lengths c_many (jI k) (jI ln) (jI f0) x4 (jI nn) N (jI 0) (jI 0) (jI 0) v_torn c_goes)) Q := by
  refine up_ok (fun fu i b => (fX9_read_71 N c_cells c_lanes c_lengths c_many (jI k) (jI ln) (jI f0) x4 (jI nn) fu (jI 0) (jI b) (jI i) v_torn c_goes)) _ bd (fun i b => b = i) ?_ ?_ N 0 0 (by omega) (by omega) rfl
  · intro fu i b hi hP ih
    subst hP
    obtain ⟨c1, c2⟩ := gd_t (hgood b hi)
    have i1 := inNat (N := N) (a := f0 + b) (b := len - 1) (by omega) (by omega)
    rw [if_pos (by omega)] at i1
    have i2 := inNat (N := N) (a := vlN (c_cells (40 * k + f0 + b))) (b := 2) (by omega) (by omega)
    rw [if_pos c2] at i2
    generalize hv : vlN (c_cells (40 * k + f0 + b)) = v at *
    simp (disch := omega) only [jI_0, jI_1, jI_2, jI_3, jI_4, jI_5, jI_6, jI_7, jI_8, jI_9, jI_10, jI_11, jI_12, jI_13, jI_14, jI_15, jI_16, jI_20, jI_24, jI_26, jI_30, jI_31, jI_32, jI_40, jI_48, jI_56, jI_57, jI_59, jI_60, jI_97, jI_99, jI_122, jI_160, jI_240, jI_255, jI_768, jI_1000, ↓jN_1, ↓jN_2, ↓jN_3, ↓jN_4, ↓jN_8, ↓jN_10, ↓jN_11, ↓jN_12, ↓jN_14, ↓jN_20, jI_addN, jI_le, jI_lt, jI_eq, jI_cl, jI_in, jI_add, jI_sub, jI_eqN, gI_eqI, gI_eqN, gI_leI, gI_ltI, jI_leN, jI_ltN, gI_sub, pif_tt, pif_ff, pg_tt, isB, or_true, true_or, pif_T, pif_F, pg_T, pb_S, upd_e, upd_n, jL_0, jL_1, jL_2, jL_5, jL_6, jL_15, jL_16, jL_63, jI_mul, jI_L, jL_I, jL_add, jL_sub, jL_mul, fX9_read_71, fX9_read_139, fX9_read_177, fX9_read_189, g1, g2, i1, c1, i2]
    exact ih (b + 1) rfl
  · intro fu b hP
    have i1 := inNat (N := N) (a := f0 + bd) (b := len - 1) (by omega) (by omega)
    rw [if_pos (by omega)] at i1
    have i2 := (gd_f (N := N) hbad).2
    simp (disch := omega) only [jI_0, jI_1, jI_2, jI_3, jI_4, jI_5, jI_6, jI_7, jI_8, jI_9, jI_10, jI_11, jI_12, jI_13, jI_14, jI_15, jI_16, jI_20, jI_24, jI_26, jI_30, jI_31, jI_32, jI_40, jI_48, jI_56, jI_57, jI_59, jI_60, jI_97, jI_99, jI_122, jI_160, jI_240, jI_255, jI_768, jI_1000, ↓jN_1, ↓jN_2, ↓jN_3, ↓jN_4, ↓jN_8, ↓jN_10, ↓jN_11, ↓jN_12, ↓jN_14, ↓jN_20, jI_addN, jI_le, jI_lt, jI_eq, jI_cl, jI_in, jI_add, jI_sub, jI_eqN, gI_eqI, gI_eqN, gI_leI, gI_ltI, jI_leN, jI_ltN, gI_sub, pif_tt, pif_ff, pg_tt, isB, or_true, true_or, pif_T, pif_F, pg_T, pb_S, upd_e, upd_n, jL_0, jL_1, jL_2, jL_5, jL_6, jL_15, jL_16, jL_63, jI_mul, jI_L, jL_I, jL_add, jL_sub, jL_mul, fX9_read_71, fX9_read_139, g1, g2, i1, i2]
    exact Ok.s hk
theorem read_c (x4 x5 : Int32) {c_many : Nat → Int32} (hz : z ≤ 30) (hm : c_many 0 = jI z) : True := trivial
theorem read_84A_0 {nn f0 g ln len : Nat} {vt x1 x2 : Int32} {cc ce cf cs : Nat → Int32} {Q : Int32 × Int32 × (Nat → Int32) → Prop} (hN : 100 ≤ N) (hk : Gk n z f s e) (hG : Gc z f s e (jI z) cf cs ce) (hnn : nn ≤ 30) (hlen : len ≤ 40) (hf0 : f0 < len) (hgz : g + nn ≤ z) (hgood : ∀ i, i < min (len - f0) nn → gdB (cc (f0 + i)) = true) (hQ : ∀ ce2, Gc z f s (eX e g (min (len - f0) nn) (fun i => vlN (cc (f0 + i)))) (jI z) cf cs ce2 → Q (jI (cnt (min (len - f0) nn) (fun i => decide (e (g + i) ≠ vlN (cc (f0 + i))))), jI (if len - f0 < nn then 2 else 0), ce2)) : Ok (fX8_read_s0_84 N (jI z) (jI 1) (jI ln) (jI len) cc x1 (jI ln) (jI f0) (jI g) (jI nn) N (jI (min (len - f0) nn)) (jI 0) vt ce) Q := by
  have hz := hk.2.1
  have hf2 : len - f0 < nn ∨ ¬ len - f0 < nn := by omega
  generalize hwh : min (len - f0) nn = wh at *
  refine up_ok (fun fu i (_ : Unit) => fX8_read_s0_84 N (jI z) (jI 1) (jI ln) (jI len) cc x1 (jI ln) (jI f0) (jI g) (jI nn) fu (jI wh) (jI i) vt ce) _ wh (fun _ _ => True) ?_ ?_ N 0 () (by omega) (by omega) trivial
  · intro fu i _ hi _ ih
    obtain ⟨c1, c2⟩ := gd_t (hgood i hi)
    generalize hv : vlN (cc (f0 + i)) = v at *
    simp (disch := omega) only [jI_0, jI_1, jI_2, jI_3, jI_4, jI_5, jI_6, jI_7, jI_8, jI_9, jI_10, jI_11, jI_12, jI_13, jI_14, jI_15, jI_16, jI_20, jI_24, jI_26, jI_30, jI_31, jI_32, jI_40, jI_48, jI_56, jI_57, jI_59, jI_60, jI_97, jI_99, jI_122, jI_160, jI_240, jI_255, jI_768, jI_1000, ↓jN_1, ↓jN_2, ↓jN_3, ↓jN_4, ↓jN_8, ↓jN_10, ↓jN_11, ↓jN_12, ↓jN_14, ↓jN_20, jI_addN, jI_le, jI_lt, jI_eq, jI_cl, jI_in, jI_add, jI_sub, jI_eqN, gI_eqI, gI_eqN, gI_leI, gI_ltI, jI_leN, jI_ltN, gI_sub, pif_tt, pif_ff, pg_tt, isB, or_true, true_or, pif_T, pif_F, pg_T, pb_S, upd_e, upd_n, fX8_read_s0_84, c1]
    exact ih () trivial
  · intro fu _ _
    obtain ⟨⟨t1, t2⟩, e1, h1, h2⟩ := takeEndsX (N := N) (f0 := f0) (g := g) (wh := wh) (v := fun i => vlN (cc (f0 + i))) (c_p1_cells := cc) hN hk hG (by omega) (by omega) (fun i hi => gd_t (hgood i hi))
    simp only at h1 h2
    subst h1
    rcases hf2 with hf2 | hf2
    · rw [if_pos hf2] at hQ
      simp (disch := omega) only [jI_0, jI_1, jI_2, jI_3, jI_4, jI_5, jI_6, jI_7, jI_8, jI_9, jI_10, jI_11, jI_12, jI_13, jI_14, jI_15, jI_16, jI_20, jI_24, jI_26, jI_30, jI_31, jI_32, jI_40, jI_48, jI_56, jI_57, jI_59, jI_60, jI_97, jI_99, jI_122, jI_160, jI_240, jI_255, jI_768, jI_1000, ↓jN_1, ↓jN_2, ↓jN_3, ↓jN_4, ↓jN_8, ↓jN_10, ↓jN_11, ↓jN_12, ↓jN_14, ↓jN_20, jI_addN, jI_le, jI_lt, jI_eq, jI_cl, jI_in, jI_add, jI_sub, jI_eqN, gI_eqI, gI_eqN, gI_leI, gI_ltI, jI_leN, jI_ltN, gI_sub, pif_tt, pif_ff, pg_tt, isB, or_true, true_or, pif_T, pif_F, pg_T, pb_S, upd_e, upd_n, fX8_read_s0_84, fX3_machineFault, fX3_machineFault_29, e1]
      exact Ok.s (hQ t2 h2)
    · rw [if_neg hf2] at hQ
      simp (disch := omega) only [jI_0, jI_1, jI_2, jI_3, jI_4, jI_5, jI_6, jI_7, jI_8, jI_9, jI_10, jI_11, jI_12, jI_13, jI_14, jI_15, jI_16, jI_20, jI_24, jI_26, jI_30, jI_31, jI_32, jI_40, jI_48, jI_56, jI_57, jI_59, jI_60, jI_97, jI_99, jI_122, jI_160, jI_240, jI_255, jI_768, jI_1000, ↓jN_1, ↓jN_2, ↓jN_3, ↓jN_4, ↓jN_8, ↓jN_10, ↓jN_11, ↓jN_12, ↓jN_14, ↓jN_20, jI_addN, jI_le, jI_lt, jI_eq, jI_cl, jI_in, jI_add, jI_sub, jI_eqN, gI_eqI, gI_eqN, gI_leI, gI_ltI, jI_leN, jI_ltN, gI_sub, pif_tt, pif_ff, pg_tt, isB, or_true, true_or, pif_T, pif_F, pg_T, pb_S, upd_e, upd_n, fX8_read_s0_84, fX3_machineFault, fX3_machineFault_29, e1]
      exact Ok.s (hQ t2 h2)
theorem read_84C_0 {nn f0 g ln len bd : Nat} {vt x1 x2 ve vz : Int32} {cc ce : Nat → Int32} {Q : Int32 × Int32 × (Nat → Int32) → Prop} (hN : 100 ≤ N) (hnn : nn ≤ 30) (hlen : len ≤ 40) (hf0 : f0 < len) (hbd : bd < min (len - f0) nn) (hgood : ∀ i, i < bd → gdB (cc (f0 + i)) = true) (hbad : gdB (cc (f0 + bd)) = false) (hQ : Q (gI (20 + bd), vt, ce)) : Ok (fX8_read_s0_84 N vz ve (jI ln) (jI len) cc x1 x2 (jI f0) (jI g) (jI nn) N (jI (min (len - f0) nn)) (jI 0) vt ce) Q := by
  generalize hwh : min (len - f0) nn = wh at *
  refine up_ok (fun fu i (_ : Unit) => fX8_read_s0_84 N vz ve (jI ln) (jI len) cc x1 x2 (jI f0) (jI g) (jI nn) fu (jI wh) (jI i) vt ce) _ bd (fun _ _ => True) ?_ ?_ N 0 () (by omega) (by omega) trivial
  · intro fu i _ hi _ ih
    obtain ⟨c1, c2⟩ := gd_t (hgood i hi)
    generalize hv : vlN (cc (f0 + i)) = v at *
    simp (disch := omega) only [jI_0, jI_1, jI_2, jI_3, jI_4, jI_5, jI_6, jI_7, jI_8, jI_9, jI_10, jI_11, jI_12, jI_13, jI_14, jI_15, jI_16, jI_20, jI_24, jI_26, jI_30, jI_31, jI_32, jI_40, jI_48, jI_56, jI_57, jI_59, jI_60, jI_97, jI_99, jI_122, jI_160, jI_240, jI_255, jI_768, jI_1000, ↓jN_1, ↓jN_2, ↓jN_3, ↓jN_4, ↓jN_8, ↓jN_10, ↓jN_11, ↓jN_12, ↓jN_14, ↓jN_20, jI_addN, jI_le, jI_lt, jI_eq, jI_cl, jI_in, jI_add, jI_sub, jI_eqN, gI_eqI, gI_eqN, gI_leI, gI_ltI, jI_leN, jI_ltN, gI_sub, pif_tt, pif_ff, pg_tt, isB, or_true, true_or, pif_T, pif_F, pg_T, pb_S, upd_e, upd_n, fX8_read_s0_84, c1]
    exact ih () trivial
  · intro fu _ _
    rcases (gd_f (N := N) hbad).1 with hneg | ⟨v, hv, hv2, hv3⟩
    · simp (disch := omega) only [jI_0, jI_1, jI_2, jI_3, jI_4, jI_5, jI_6, jI_7, jI_8, jI_9, jI_10, jI_11, jI_12, jI_13, jI_14, jI_15, jI_16, jI_20, jI_24, jI_26, jI_30, jI_31, jI_32, jI_40, jI_48, jI_56, jI_57, jI_59, jI_60, jI_97, jI_99, jI_122, jI_160, jI_240, jI_255, jI_768, jI_1000, ↓jN_1, ↓jN_2, ↓jN_3, ↓jN_4, ↓jN_8, ↓jN_10, ↓jN_11, ↓jN_12, ↓jN_14, ↓jN_20, jI_addN, jI_le, jI_lt, jI_eq, jI_cl, jI_in, jI_add, jI_sub, jI_eqN, gI_eqI, gI_eqN, gI_leI, gI_ltI, jI_leN, jI_ltN, gI_sub, pif_tt, pif_ff, pg_tt, isB, or_true, true_or, pif_T, pif_F, pg_T, pb_S, upd_e, upd_n, fX8_read_s0_84, fX8_read_s0_114, hneg]
      exact Ok.s hQ
    · simp (disch := omega) only [jI_0, jI_1, jI_2, jI_3, jI_4, jI_5, jI_6, jI_7, jI_8, jI_9, jI_10, jI_11, jI_12, jI_13, jI_14, jI_15, jI_16, jI_20, jI_24, jI_26, jI_30, jI_31, jI_32, jI_40, jI_48, jI_56, jI_57, jI_59, jI_60, jI_97, jI_99, jI_122, jI_160, jI_240, jI_255, jI_768, jI_1000, ↓jN_1, ↓jN_2, ↓jN_3, ↓jN_4, ↓jN_8, ↓jN_10, ↓jN_11, ↓jN_12, ↓jN_14, ↓jN_20, jI_addN, jI_le, jI_lt, jI_eq, jI_cl, jI_in, jI_add, jI_sub, jI_eqN, gI_eqI, gI_eqN, gI_leI, gI_ltI, jI_leN, jI_ltN, gI_sub, pif_tt, pif_ff, pg_tt, isB, or_true, true_or, pif_T, pif_F, pg_T, pb_S, upd_e, upd_n, fX8_read_s0_84, fX8_read_s0_114, hv]
      exact Ok.s hQ
theorem read_84Z_0 {nn g : Nat} {vt x1 x2 x3 x4 ve vl vn vz : Int32} {cc ce : Nat → Int32} (hN : 100 ≤ N) (hnn : nn ≤ 30) (fl : Nat) (hfl : (ve = jI 0 ∧ fl = 1) ∨ (ve = jI 1 ∧ ¬ x2 = vl ∧ fl = 3) ∨ (ve = jI 1 ∧ x2 = vl ∧ fl = 2)) : fX8_read_s0_84 N vz ve vl vn cc x1 x2 x3 x4 (jI nn) N (jI 0) (jI 0) vt ce = some (jI 0, jI (if 0 < nn then fl else 0), ce) := by
  obtain ⟨N1, rfl⟩ : ∃ q, N = q + 1 := ⟨N - 1, by omega⟩
  rw [fX8_read_s0_84, fX8_takeEnds, fX8_takeEnds_6]
  by_cases hp : 0 < nn
  · rw [if_pos hp]
    rcases hfl with ⟨rfl, rfl⟩ | ⟨rfl, b, rfl⟩ | ⟨rfl, rfl, rfl⟩
    · simp (disch := omega) only [jI_0, jI_1, jI_2, jI_3, jI_4, jI_5, jI_6, jI_7, jI_8, jI_9, jI_10, jI_11, jI_12, jI_13, jI_14, jI_15, jI_16, jI_20, jI_24, jI_26, jI_30, jI_31, jI_32, jI_40, jI_48, jI_56, jI_57, jI_59, jI_60, jI_97, jI_99, jI_122, jI_160, jI_240, jI_255, jI_768, jI_1000, ↓jN_1, ↓jN_2, ↓jN_3, ↓jN_4, ↓jN_8, ↓jN_10, ↓jN_11, ↓jN_12, ↓jN_14, ↓jN_20, jI_addN, jI_le, jI_lt, jI_eq, jI_cl, jI_in, jI_add, jI_sub, jI_eqN, gI_eqI, gI_eqN, gI_leI, gI_ltI, jI_leN, jI_ltN, gI_sub, pif_tt, pif_ff, pg_tt, isB, or_true, true_or, pif_T, pif_F, pg_T, pb_S, upd_e, upd_n, fX3_machineFault, fX3_machineFault_29]
    · simp (disch := omega) only [jI_0, jI_1, jI_2, jI_3, jI_4, jI_5, jI_6, jI_7, jI_8, jI_9, jI_10, jI_11, jI_12, jI_13, jI_14, jI_15, jI_16, jI_20, jI_24, jI_26, jI_30, jI_31, jI_32, jI_40, jI_48, jI_56, jI_57, jI_59, jI_60, jI_97, jI_99, jI_122, jI_160, jI_240, jI_255, jI_768, jI_1000, ↓jN_1, ↓jN_2, ↓jN_3, ↓jN_4, ↓jN_8, ↓jN_10, ↓jN_11, ↓jN_12, ↓jN_14, ↓jN_20, jI_addN, jI_le, jI_lt, jI_eq, jI_cl, jI_in, jI_add, jI_sub, jI_eqN, gI_eqI, gI_eqN, gI_leI, gI_ltI, jI_leN, jI_ltN, gI_sub, pif_tt, pif_ff, pg_tt, isB, or_true, true_or, pif_T, pif_F, pg_T, pb_S, upd_e, upd_n, fX3_machineFault, fX3_machineFault_29, b]
    · simp (disch := omega) only [jI_0, jI_1, jI_2, jI_3, jI_4, jI_5, jI_6, jI_7, jI_8, jI_9, jI_10, jI_11, jI_12, jI_13, jI_14, jI_15, jI_16, jI_20, jI_24, jI_26, jI_30, jI_31, jI_32, jI_40, jI_48, jI_56, jI_57, jI_59, jI_60, jI_97, jI_99, jI_122, jI_160, jI_240, jI_255, jI_768, jI_1000, ↓jN_1, ↓jN_2, ↓jN_3, ↓jN_4, ↓jN_8, ↓jN_10, ↓jN_11, ↓jN_12, ↓jN_14, ↓jN_20, jI_addN, jI_le, jI_lt, jI_eq, jI_cl, jI_in, jI_add, jI_sub, jI_eqN, gI_eqI, gI_eqN, gI_leI, gI_ltI, jI_leN, jI_ltN, gI_sub, pif_tt, pif_ff, pg_tt, isB, or_true, true_or, pif_T, pif_F, pg_T, pb_S, upd_e, upd_n, fX3_machineFault, fX3_machineFault_29]
  · rw [if_neg hp]
    simp (disch := omega) only [jI_0, jI_1, jI_2, jI_3, jI_4, jI_5, jI_6, jI_7, jI_8, jI_9, jI_10, jI_11, jI_12, jI_13, jI_14, jI_15, jI_16, jI_20, jI_24, jI_26, jI_30, jI_31, jI_32, jI_40, jI_48, jI_56, jI_57, jI_59, jI_60, jI_97, jI_99, jI_122, jI_160, jI_240, jI_255, jI_768, jI_1000, ↓jN_1, ↓jN_2, ↓jN_3, ↓jN_4, ↓jN_8, ↓jN_10, ↓jN_11, ↓jN_12, ↓jN_14, ↓jN_20, jI_addN, jI_le, jI_lt, jI_eq, jI_cl, jI_in, jI_add, jI_sub, jI_eqN, gI_eqI, gI_eqN, gI_leI, gI_ltI, jI_leN, jI_ltN, gI_sub, pif_tt, pif_ff, pg_tt, isB, or_true, true_or, pif_T, pif_F, pg_T, pb_S, upd_e, upd_n, fX3_machineFault, fX3_machineFault_29]
theorem read_84A_1 {nn f0 g ln len : Nat} {vt x1 x2 : Int32} {cc ce cf cs : Nat → Int32} {Q : Int32 × Int32 × (Nat → Int32) → Prop} (hN : 100 ≤ N) (hk : Gk n z f s e) (hG : Gc z f s e (jI z) cf cs ce) (hnn : nn ≤ 30) (hlen : len ≤ 40) (hf0 : f0 < len) (hgz : g + nn ≤ z) (hgood : ∀ i, i < min (len - f0) nn → gdB (cc (f0 + i)) = true) (hQ : ∀ ce2, Gc z f s (eX e g (min (len - f0) nn) (fun i => vlN (cc (f0 + i)))) (jI z) cf cs ce2 → Q (jI (cnt (min (len - f0) nn) (fun i => decide (e (g + i) ≠ vlN (cc (f0 + i))))), jI (if len - f0 < nn then 2 else 0), ce2)) : Ok (fX8_read_s1_84 N (jI z) (jI 1) (jI ln) (jI len) cc x1 (jI ln) (jI f0) (jI g) (jI nn) N (jI (min (len - f0) nn)) (jI 0) vt ce) Q := by
  have hz := hk.2.1
  have hf2 : len - f0 < nn ∨ ¬ len - f0 < nn := by omega
  generalize hwh : min (len - f0) nn = wh at *
  refine up_ok (fun fu i (_ : Unit) => fX8_read_s1_84 N (jI z) (jI 1) (jI ln) (jI len) cc x1 (jI ln) (jI f0) (jI g) (jI nn) fu (jI wh) (jI i) vt ce) _ wh (fun _ _ => True) ?_ ?_ N 0 () (by omega) (by omega) trivial
  · intro fu i _ hi _ ih
    obtain ⟨c1, c2⟩ := gd_t (hgood i hi)
    generalize hv : vlN (cc (f0 + i)) = v at *
    simp (disch := omega) only [jI_0, jI_1, jI_2, jI_3, jI_4, jI_5, jI_6, jI_7, jI_8, jI_9, jI_10, jI_11, jI_12, jI_13, jI_14, jI_15, jI_16, jI_20, jI_24, jI_26, jI_30, jI_31, jI_32, jI_40, jI_48, jI_56, jI_57, jI_59, jI_60, jI_97, jI_99, jI_122, jI_160, jI_240, jI_255, jI_768, jI_1000, ↓jN_1, ↓jN_2, ↓jN_3, ↓jN_4, ↓jN_8, ↓jN_10, ↓jN_11, ↓jN_12, ↓jN_14, ↓jN_20, jI_addN, jI_le, jI_lt, jI_eq, jI_cl, jI_in, jI_add, jI_sub, jI_eqN, gI_eqI, gI_eqN, gI_leI, gI_ltI, jI_leN, jI_ltN, gI_sub, pif_tt, pif_ff, pg_tt, isB, or_true, true_or, pif_T, pif_F, pg_T, pb_S, upd_e, upd_n, fX8_read_s1_84, c1]
    exact ih () trivial
  · intro fu _ _
    obtain ⟨⟨t1, t2⟩, e1, h1, h2⟩ := takeEndsX (N := N) (f0 := f0) (g := g) (wh := wh) (v := fun i => vlN (cc (f0 + i))) (c_p1_cells := cc) hN hk hG (by omega) (by omega) (fun i hi => gd_t (hgood i hi))
    simp only at h1 h2
    subst h1
    rcases hf2 with hf2 | hf2
    · rw [if_pos hf2] at hQ
      simp (disch := omega) only [jI_0, jI_1, jI_2, jI_3, jI_4, jI_5, jI_6, jI_7, jI_8, jI_9, jI_10, jI_11, jI_12, jI_13, jI_14, jI_15, jI_16, jI_20, jI_24, jI_26, jI_30, jI_31, jI_32, jI_40, jI_48, jI_56, jI_57, jI_59, jI_60, jI_97, jI_99, jI_122, jI_160, jI_240, jI_255, jI_768, jI_1000, ↓jN_1, ↓jN_2, ↓jN_3, ↓jN_4, ↓jN_8, ↓jN_10, ↓jN_11, ↓jN_12, ↓jN_14, ↓jN_20, jI_addN, jI_le, jI_lt, jI_eq, jI_cl, jI_in, jI_add, jI_sub, jI_eqN, gI_eqI, gI_eqN, gI_leI, gI_ltI, jI_leN, jI_ltN, gI_sub, pif_tt, pif_ff, pg_tt, isB, or_true, true_or, pif_T, pif_F, pg_T, pb_S, upd_e, upd_n, fX8_read_s1_84, fX3_machineFault, fX3_machineFault_29, e1]
      exact Ok.s (hQ t2 h2)
    · rw [if_neg hf2] at hQ
      simp (disch := omega) only [jI_0, jI_1, jI_2, jI_3, jI_4, jI_5, jI_6, jI_7, jI_8, jI_9, jI_10, jI_11, jI_12, jI_13, jI_14, jI_15, jI_16, jI_20, jI_24, jI_26, jI_30, jI_31, jI_32, jI_40, jI_48, jI_56, jI_57, jI_59, jI_60, jI_97, jI_99, jI_122, jI_160, jI_240, jI_255, jI_768, jI_1000, ↓jN_1, ↓jN_2, ↓jN_3, ↓jN_4, ↓jN_8, ↓jN_10, ↓jN_11, ↓jN_12, ↓jN_14, ↓jN_20, jI_addN, jI_le, jI_lt, jI_eq, jI_cl, jI_in, jI_add, jI_sub, jI_eqN, gI_eqI, gI_eqN, gI_leI, gI_ltI, jI_leN, jI_ltN, gI_sub, pif_tt, pif_ff, pg_tt, isB, or_true, true_or, pif_T, pif_F, pg_T, pb_S, upd_e, upd_n, fX8_read_s1_84, fX3_machineFault, fX3_machineFault_29, e1]
      exact Ok.s (hQ t2 h2)
theorem read_84C_1 {nn f0 g ln len bd : Nat} {vt x1 x2 ve vz : Int32} {cc ce : Nat → Int32} {Q : Int32 × Int32 × (Nat → Int32) → Prop} (hN : 100 ≤ N) (hnn : nn ≤ 30) (hlen : len ≤ 40) (hf0 : f0 < len) (hbd : bd < min (len - f0) nn) (hgood : ∀ i, i < bd → gdB (cc (f0 + i)) = true) (hbad : gdB (cc (f0 + bd)) = false) (hQ : Q (gI (20 + bd), vt, ce)) : Ok (fX8_read_s1_84 N vz ve (jI ln) (jI len) cc x1 x2 (jI f0) (jI g) (jI nn) N (jI (min (len - f0) nn)) (jI 0) vt ce) Q := by
  generalize hwh : min (len - f0) nn = wh at *
  refine up_ok (fun fu i (_ : Unit) => fX8_read_s1_84 N vz ve (jI ln) (jI len) cc x1 x2 (jI f0) (jI g) (jI nn) fu (jI wh) (jI i) vt ce) _ bd (fun _ _ => True) ?_ ?_ N 0 () (by omega) (by omega) trivial
  · intro fu i _ hi _ ih
    obtain ⟨c1, c2⟩ := gd_t (hgood i hi)
    generalize hv : vlN (cc (f0 + i)) = v at *
    simp (disch := omega) only [jI_0, jI_1, jI_2, jI_3, jI_4, jI_5, jI_6, jI_7, jI_8, jI_9, jI_10, jI_11, jI_12, jI_13, jI_14, jI_15, jI_16, jI_20, jI_24, jI_26, jI_30, jI_31, jI_32, jI_40, jI_48, jI_56, jI_57, jI_59, jI_60, jI_97, jI_99, jI_122, jI_160, jI_240, jI_255, jI_768, jI_1000, ↓jN_1, ↓jN_2, ↓jN_3, ↓jN_4, ↓jN_8, ↓jN_10, ↓jN_11, ↓jN_12, ↓jN_14, ↓jN_20, jI_addN, jI_le, jI_lt, jI_eq, jI_cl, jI_in, jI_add, jI_sub, jI_eqN, gI_eqI, gI_eqN, gI_leI, gI_ltI, jI_leN, jI_ltN, gI_sub, pif_tt, pif_ff, pg_tt, isB, or_true, true_or, pif_T, pif_F, pg_T, pb_S, upd_e, upd_n, fX8_read_s1_84, c1]
    exact ih () trivial
  · intro fu _ _
    rcases (gd_f (N := N) hbad).1 with hneg | ⟨v, hv, hv2, hv3⟩
    · simp (disch := omega) only [jI_0, jI_1, jI_2, jI_3, jI_4, jI_5, jI_6, jI_7, jI_8, jI_9, jI_10, jI_11, jI_12, jI_13, jI_14, jI_15, jI_16, jI_20, jI_24, jI_26, jI_30, jI_31, jI_32, jI_40, jI_48, jI_56, jI_57, jI_59, jI_60, jI_97, jI_99, jI_122, jI_160, jI_240, jI_255, jI_768, jI_1000, ↓jN_1, ↓jN_2, ↓jN_3, ↓jN_4, ↓jN_8, ↓jN_10, ↓jN_11, ↓jN_12, ↓jN_14, ↓jN_20, jI_addN, jI_le, jI_lt, jI_eq, jI_cl, jI_in, jI_add, jI_sub, jI_eqN, gI_eqI, gI_eqN, gI_leI, gI_ltI, jI_leN, jI_ltN, gI_sub, pif_tt, pif_ff, pg_tt, isB, or_true, true_or, pif_T, pif_F, pg_T, pb_S, upd_e, upd_n, fX8_read_s1_84, fX8_read_s1_114, hneg]
      exact Ok.s hQ
    · simp (disch := omega) only [jI_0, jI_1, jI_2, jI_3, jI_4, jI_5, jI_6, jI_7, jI_8, jI_9, jI_10, jI_11, jI_12, jI_13, jI_14, jI_15, jI_16, jI_20, jI_24, jI_26, jI_30, jI_31, jI_32, jI_40, jI_48, jI_56, jI_57, jI_59, jI_60, jI_97, jI_99, jI_122, jI_160, jI_240, jI_255, jI_768, jI_1000, ↓jN_1, ↓jN_2, ↓jN_3, ↓jN_4, ↓jN_8, ↓jN_10, ↓jN_11, ↓jN_12, ↓jN_14, ↓jN_20, jI_addN, jI_le, jI_lt, jI_eq, jI_cl, jI_in, jI_add, jI_sub, jI_eqN, gI_eqI, gI_eqN, gI_leI, gI_ltI, jI_leN, jI_ltN, gI_sub, pif_tt, pif_ff, pg_tt, isB, or_true, true_or, pif_T, pif_F, pg_T, pb_S, upd_e, upd_n, fX8_read_s1_84, fX8_read_s1_114, hv]
      exact Ok.s hQ
theorem read_84Z_1 {nn g : Nat} {vt x1 x2 x3 x4 ve vl vn vz : Int32} {cc ce : Nat → Int32} (hN : 100 ≤ N) (hnn : nn ≤ 30) (fl : Nat) (hfl : (ve = jI 0 ∧ fl = 1) ∨ (ve = jI 1 ∧ ¬ x2 = vl ∧ fl = 3) ∨ (ve = jI 1 ∧ x2 = vl ∧ fl = 2)) : fX8_read_s1_84 N vz ve vl vn cc x1 x2 x3 x4 (jI nn) N (jI 0) (jI 0) vt ce = some (jI 0, jI (if 0 < nn then fl else 0), ce) := by
  obtain ⟨N1, rfl⟩ : ∃ q, N = q + 1 := ⟨N - 1, by omega⟩
  rw [fX8_read_s1_84, fX8_takeEnds, fX8_takeEnds_6]
  by_cases hp : 0 < nn
  · rw [if_pos hp]
    rcases hfl with ⟨rfl, rfl⟩ | ⟨rfl, b, rfl⟩ | ⟨rfl, rfl, rfl⟩
    · simp (disch := omega) only [jI_0, jI_1, jI_2, jI_3, jI_4, jI_5, jI_6, jI_7, jI_8, jI_9, jI_10, jI_11, jI_12, jI_13, jI_14, jI_15, jI_16, jI_20, jI_24, jI_26, jI_30, jI_31, jI_32, jI_40, jI_48, jI_56, jI_57, jI_59, jI_60, jI_97, jI_99, jI_122, jI_160, jI_240, jI_255, jI_768, jI_1000, ↓jN_1, ↓jN_2, ↓jN_3, ↓jN_4, ↓jN_8, ↓jN_10, ↓jN_11, ↓jN_12, ↓jN_14, ↓jN_20, jI_addN, jI_le, jI_lt, jI_eq, jI_cl, jI_in, jI_add, jI_sub, jI_eqN, gI_eqI, gI_eqN, gI_leI, gI_ltI, jI_leN, jI_ltN, gI_sub, pif_tt, pif_ff, pg_tt, isB, or_true, true_or, pif_T, pif_F, pg_T, pb_S, upd_e, upd_n, fX3_machineFault, fX3_machineFault_29]
    · simp (disch := omega) only [jI_0, jI_1, jI_2, jI_3, jI_4, jI_5, jI_6, jI_7, jI_8, jI_9, jI_10, jI_11, jI_12, jI_13, jI_14, jI_15, jI_16, jI_20, jI_24, jI_26, jI_30, jI_31, jI_32, jI_40, jI_48, jI_56, jI_57, jI_59, jI_60, jI_97, jI_99, jI_122, jI_160, jI_240, jI_255, jI_768, jI_1000, ↓jN_1, ↓jN_2, ↓jN_3, ↓jN_4, ↓jN_8, ↓jN_10, ↓jN_11, ↓jN_12, ↓jN_14, ↓jN_20, jI_addN, jI_le, jI_lt, jI_eq, jI_cl, jI_in, jI_add, jI_sub, jI_eqN, gI_eqI, gI_eqN, gI_leI, gI_ltI, jI_leN, jI_ltN, gI_sub, pif_tt, pif_ff, pg_tt, isB, or_true, true_or, pif_T, pif_F, pg_T, pb_S, upd_e, upd_n, fX3_machineFault, fX3_machineFault_29, b]
    · simp (disch := omega) only [jI_0, jI_1, jI_2, jI_3, jI_4, jI_5, jI_6, jI_7, jI_8, jI_9, jI_10, jI_11, jI_12, jI_13, jI_14, jI_15, jI_16, jI_20, jI_24, jI_26, jI_30, jI_31, jI_32, jI_40, jI_48, jI_56, jI_57, jI_59, jI_60, jI_97, jI_99, jI_122, jI_160, jI_240, jI_255, jI_768, jI_1000, ↓jN_1, ↓jN_2, ↓jN_3, ↓jN_4, ↓jN_8, ↓jN_10, ↓jN_11, ↓jN_12, ↓jN_14, ↓jN_20, jI_addN, jI_le, jI_lt, jI_eq, jI_cl, jI_in, jI_add, jI_sub, jI_eqN, gI_eqI, gI_eqN, gI_leI, gI_ltI, jI_leN, jI_ltN, gI_sub, pif_tt, pif_ff, pg_tt, isB, or_true, true_or, pif_T, pif_F, pg_T, pb_S, upd_e, upd_n, fX3_machineFault, fX3_machineFault_29]
  · rw [if_neg hp]
    simp (disch := omega) only [jI_0, jI_1, jI_2, jI_3, jI_4, jI_5, jI_6, jI_7, jI_8, jI_9, jI_10, jI_11, jI_12, jI_13, jI_14, jI_15, jI_16, jI_20, jI_24, jI_26, jI_30, jI_31, jI_32, jI_40, jI_48, jI_56, jI_57, jI_59, jI_60, jI_97, jI_99, jI_122, jI_160, jI_240, jI_255, jI_768, jI_1000, ↓jN_1, ↓jN_2, ↓jN_3, ↓jN_4, ↓jN_8, ↓jN_10, ↓jN_11, ↓jN_12, ↓jN_14, ↓jN_20, jI_addN, jI_le, jI_lt, jI_eq, jI_cl, jI_in, jI_add, jI_sub, jI_eqN, gI_eqI, gI_eqN, gI_leI, gI_ltI, jI_leN, jI_ltN, gI_sub, pif_tt, pif_ff, pg_tt, isB, or_true, true_or, pif_T, pif_F, pg_T, pb_S, upd_e, upd_n, fX3_machineFault, fX3_machineFault_29]
theorem read_84A_2 {nn f0 g ln len : Nat} {vt x1 x2 : Int32} {cc ce cf cs : Nat → Int32} {Q : Int32 × Int32 × (Nat → Int32) → Prop} (hN : 100 ≤ N) (hk : Gk n z f s e) (hG : Gc z f s e (jI z) cf cs ce) (hnn : nn ≤ 30) (hlen : len ≤ 40) (hf0 : f0 < len) (hgz : g + nn ≤ z) (hgood : ∀ i, i < min (len - f0) nn → gdB (cc (f0 + i)) = true) (hQ : ∀ ce2, Gc z f s (eX e g (min (len - f0) nn) (fun i => vlN (cc (f0 + i)))) (jI z) cf cs ce2 → Q (jI (cnt (min (len - f0) nn) (fun i => decide (e (g + i) ≠ vlN (cc (f0 + i))))), jI (if len - f0 < nn then 2 else 0), ce2)) : Ok (fX8_read_s2_84 N (jI z) (jI 1) (jI ln) (jI len) cc x1 (jI ln) (jI f0) (jI g) (jI nn) N (jI (min (len - f0) nn)) (jI 0) vt ce) Q := by
  have hz := hk.2.1
  have hf2 : len - f0 < nn ∨ ¬ len - f0 < nn := by omega
  generalize hwh : min (len - f0) nn = wh at *
  refine up_ok (fun fu i (_ : Unit) => fX8_read_s2_84 N (jI z) (jI 1) (jI ln) (jI len) cc x1 (jI ln) (jI f0) (jI g) (jI nn) fu (jI wh) (jI i) vt ce) _ wh (fun _ _ => True) ?_ ?_ N 0 () (by omega) (by omega) trivial
  · intro fu i _ hi _ ih
    obtain ⟨c1, c2⟩ := gd_t (hgood i hi)
    generalize hv : vlN (cc (f0 + i)) = v at *
    simp (disch := omega) only [jI_0, jI_1, jI_2, jI_3, jI_4, jI_5, jI_6, jI_7, jI_8, jI_9, jI_10, jI_11, jI_12, jI_13, jI_14, jI_15, jI_16, jI_20, jI_24, jI_26, jI_30, jI_31, jI_32, jI_40, jI_48, jI_56, jI_57, jI_59, jI_60, jI_97, jI_99, jI_122, jI_160, jI_240, jI_255, jI_768, jI_1000, ↓jN_1, ↓jN_2, ↓jN_3, ↓jN_4, ↓jN_8, ↓jN_10, ↓jN_11, ↓jN_12, ↓jN_14, ↓jN_20, jI_addN, jI_le, jI_lt, jI_eq, jI_cl, jI_in, jI_add, jI_sub, jI_eqN, gI_eqI, gI_eqN, gI_leI, gI_ltI, jI_leN, jI_ltN, gI_sub, pif_tt, pif_ff, pg_tt, isB, or_true, true_or, pif_T, pif_F, pg_T, pb_S, upd_e, upd_n, fX8_read_s2_84, c1]
    exact ih () trivial
  · intro fu _ _
    obtain ⟨⟨t1, t2⟩, e1, h1, h2⟩ := takeEndsX (N := N) (f0 := f0) (g := g) (wh := wh) (v := fun i => vlN (cc (f0 + i))) (c_p1_cells := cc) hN hk hG (by omega) (by omega) (fun i hi => gd_t (hgood i hi))
    simp only at h1 h2
    subst h1
    rcases hf2 with hf2 | hf2
    · rw [if_pos hf2] at hQ
      simp (disch := omega) only [jI_0, jI_1, jI_2, jI_3, jI_4, jI_5, jI_6, jI_7, jI_8, jI_9, jI_10, jI_11, jI_12, jI_13, jI_14, jI_15, jI_16, jI_20, jI_24, jI_26, jI_30, jI_31, jI_32, jI_40, jI_48, jI_56, jI_57, jI_59, jI_60, jI_97, jI_99, jI_122, jI_160, jI_240, jI_255, jI_768, jI_1000, ↓jN_1, ↓jN_2, ↓jN_3, ↓jN_4, ↓jN_8, ↓jN_10, ↓jN_11, ↓jN_12, ↓jN_14, ↓jN_20, jI_addN, jI_le, jI_lt, jI_eq, jI_cl, jI_in, jI_add, jI_sub, jI_eqN, gI_eqI, gI_eqN, gI_leI, gI_ltI, jI_leN, jI_ltN, gI_sub, pif_tt, pif_ff, pg_tt, isB, or_true, true_or, pif_T, pif_F, pg_T, pb_S, upd_e, upd_n, fX8_read_s2_84, fX3_machineFault, fX3_machineFault_29, e1]
      exact Ok.s (hQ t2 h2)
    · rw [if_neg hf2] at hQ
      simp (disch := omega) only [jI_0, jI_1, jI_2, jI_3, jI_4, jI_5, jI_6, jI_7, jI_8, jI_9, jI_10, jI_11, jI_12, jI_13, jI_14, jI_15, jI_16, jI_20, jI_24, jI_26, jI_30, jI_31, jI_32, jI_40, jI_48, jI_56, jI_57, jI_59, jI_60, jI_97, jI_99, jI_122, jI_160, jI_240, jI_255, jI_768, jI_1000, ↓jN_1, ↓jN_2, ↓jN_3, ↓jN_4, ↓jN_8, ↓jN_10, ↓jN_11, ↓jN_12, ↓jN_14, ↓jN_20, jI_addN, jI_le, jI_lt, jI_eq, jI_cl, jI_in, jI_add, jI_sub, jI_eqN, gI_eqI, gI_eqN, gI_leI, gI_ltI, jI_leN, jI_ltN, gI_sub, pif_tt, pif_ff, pg_tt, isB, or_true, true_or, pif_T, pif_F, pg_T, pb_S, upd_e, upd_n, fX8_read_s2_84, fX3_machineFault, fX3_machineFault_29, e1]
      exact Ok.s (hQ t2 h2)
theorem read_84C_2 {nn f0 g ln len bd : Nat} {vt x1 x2 ve vz : Int32} {cc ce : Nat → Int32} {Q : Int32 × Int32 × (Nat → Int32) → Prop} (hN : 100 ≤ N) (hnn : nn ≤ 30) (hlen : len ≤ 40) (hf0 : f0 < len) (hbd : bd < min (len - f0) nn) (hgood : ∀ i, i < bd → gdB (cc (f0 + i)) = true) (hbad : gdB (cc (f0 + bd)) = false) (hQ : Q (gI (20 + bd), vt, ce)) : Ok (fX8_read_s2_84 N vz ve (jI ln) (jI len) cc x1 x2 (jI f0) (jI g) (jI nn) N (jI (min (len - f0) nn)) (jI 0) vt ce) Q := by
  generalize hwh : min (len - f0) nn = wh at *
  refine up_ok (fun fu i (_ : Unit) => fX8_read_s2_84 N vz ve (jI ln) (jI len) cc x1 x2 (jI f0) (jI g) (jI nn) fu (jI wh) (jI i) vt ce) _ bd (fun _ _ => True) ?_ ?_ N 0 () (by omega) (by omega) trivial
  · intro fu i _ hi _ ih
    obtain ⟨c1, c2⟩ := gd_t (hgood i hi)
    generalize hv : vlN (cc (f0 + i)) = v at *
    simp (disch := omega) only [jI_0, jI_1, jI_2, jI_3, jI_4, jI_5, jI_6, jI_7, jI_8, jI_9, jI_10, jI_11, jI_12, jI_13, jI_14, jI_15, jI_16, jI_20, jI_24, jI_26, jI_30, jI_31, jI_32, jI_40, jI_48, jI_56, jI_57, jI_59, jI_60, jI_97, jI_99, jI_122, jI_160, jI_240, jI_255, jI_768, jI_1000, ↓jN_1, ↓jN_2, ↓jN_3, ↓jN_4, ↓jN_8, ↓jN_10, ↓jN_11, ↓jN_12, ↓jN_14, ↓jN_20, jI_addN, jI_le, jI_lt, jI_eq, jI_cl, jI_in, jI_add, jI_sub, jI_eqN, gI_eqI, gI_eqN, gI_leI, gI_ltI, jI_leN, jI_ltN, gI_sub, pif_tt, pif_ff, pg_tt, isB, or_true, true_or, pif_T, pif_F, pg_T, pb_S, upd_e, upd_n, fX8_read_s2_84, c1]
    exact ih () trivial
  · intro fu _ _
    rcases (gd_f (N := N) hbad).1 with hneg | ⟨v, hv, hv2, hv3⟩
    · simp (disch := omega) only [jI_0, jI_1, jI_2, jI_3, jI_4, jI_5, jI_6, jI_7, jI_8, jI_9, jI_10, jI_11, jI_12, jI_13, jI_14, jI_15, jI_16, jI_20, jI_24, jI_26, jI_30, jI_31, jI_32, jI_40, jI_48, jI_56, jI_57, jI_59, jI_60, jI_97, jI_99, jI_122, jI_160, jI_240, jI_255, jI_768, jI_1000, ↓jN_1, ↓jN_2, ↓jN_3, ↓jN_4, ↓jN_8, ↓jN_10, ↓jN_11, ↓jN_12, ↓jN_14, ↓jN_20, jI_addN, jI_le, jI_lt, jI_eq, jI_cl, jI_in, jI_add, jI_sub, jI_eqN, gI_eqI, gI_eqN, gI_leI, gI_ltI, jI_leN, jI_ltN, gI_sub, pif_tt, pif_ff, pg_tt, isB, or_true, true_or, pif_T, pif_F, pg_T, pb_S, upd_e, upd_n, fX8_read_s2_84, fX8_read_s2_114, hneg]
      exact Ok.s hQ
    · simp (disch := omega) only [jI_0, jI_1, jI_2, jI_3, jI_4, jI_5, jI_6, jI_7, jI_8, jI_9, jI_10, jI_11, jI_12, jI_13, jI_14, jI_15, jI_16, jI_20, jI_24, jI_26, jI_30, jI_31, jI_32, jI_40, jI_48, jI_56, jI_57, jI_59, jI_60, jI_97, jI_99, jI_122, jI_160, jI_240, jI_255, jI_768, jI_1000, ↓jN_1, ↓jN_2, ↓jN_3, ↓jN_4, ↓jN_8, ↓jN_10, ↓jN_11, ↓jN_12, ↓jN_14, ↓jN_20, jI_addN, jI_le, jI_lt, jI_eq, jI_cl, jI_in, jI_add, jI_sub, jI_eqN, gI_eqI, gI_eqN, gI_leI, gI_ltI, jI_leN, jI_ltN, gI_sub, pif_tt, pif_ff, pg_tt, isB, or_true, true_or, pif_T, pif_F, pg_T, pb_S, upd_e, upd_n, fX8_read_s2_84, fX8_read_s2_114, hv]
      exact Ok.s hQ
theorem read_84Z_2 {nn g : Nat} {vt x1 x2 x3 x4 ve vl vn vz : Int32} {cc ce : Nat → Int32} (hN : 100 ≤ N) (hnn : nn ≤ 30) (fl : Nat) (hfl : (ve = jI 0 ∧ fl = 1) ∨ (ve = jI 1 ∧ ¬ x2 = vl ∧ fl = 3) ∨ (ve = jI 1 ∧ x2 = vl ∧ fl = 2)) : fX8_read_s2_84 N vz ve vl vn cc x1 x2 x3 x4 (jI nn) N (jI 0) (jI 0) vt ce = some (jI 0, jI (if 0 < nn then fl else 0), ce) := by
  obtain ⟨N1, rfl⟩ : ∃ q, N = q + 1 := ⟨N - 1, by omega⟩
  rw [fX8_read_s2_84, fX8_takeEnds, fX8_takeEnds_6]
  by_cases hp : 0 < nn
  · rw [if_pos hp]
    rcases hfl with ⟨rfl, rfl⟩ | ⟨rfl, b, rfl⟩ | ⟨rfl, rfl, rfl⟩
    · simp (disch := omega) only [jI_0, jI_1, jI_2, jI_3, jI_4, jI_5, jI_6, jI_7, jI_8, jI_9, jI_10, jI_11, jI_12, jI_13, jI_14, jI_15, jI_16, jI_20, jI_24, jI_26, jI_30, jI_31, jI_32, jI_40, jI_48, jI_56, jI_57, jI_59, jI_60, jI_97, jI_99, jI_122, jI_160, jI_240, jI_255, jI_768, jI_1000, ↓jN_1, ↓jN_2, ↓jN_3, ↓jN_4, ↓jN_8, ↓jN_10, ↓jN_11, ↓jN_12, ↓jN_14, ↓jN_20, jI_addN, jI_le, jI_lt, jI_eq, jI_cl, jI_in, jI_add, jI_sub, jI_eqN, gI_eqI, gI_eqN, gI_leI, gI_ltI, jI_leN, jI_ltN, gI_sub, pif_tt, pif_ff, pg_tt, isB, or_true, true_or, pif_T, pif_F, pg_T, pb_S, upd_e, upd_n, fX3_machineFault, fX3_machineFault_29]
    · simp (disch := omega) only [jI_0, jI_1, jI_2, jI_3, jI_4, jI_5, jI_6, jI_7, jI_8, jI_9, jI_10, jI_11, jI_12, jI_13, jI_14, jI_15, jI_16, jI_20, jI_24, jI_26, jI_30, jI_31, jI_32, jI_40, jI_48, jI_56, jI_57, jI_59, jI_60, jI_97, jI_99, jI_122, jI_160, jI_240, jI_255, jI_768, jI_1000, ↓jN_1, ↓jN_2, ↓jN_3, ↓jN_4, ↓jN_8, ↓jN_10, ↓jN_11, ↓jN_12, ↓jN_14, ↓jN_20, jI_addN, jI_le, jI_lt, jI_eq, jI_cl, jI_in, jI_add, jI_sub, jI_eqN, gI_eqI, gI_eqN, gI_leI, gI_ltI, jI_leN, jI_ltN, gI_sub, pif_tt, pif_ff, pg_tt, isB, or_true, true_or, pif_T, pif_F, pg_T, pb_S, upd_e, upd_n, fX3_machineFault, fX3_machineFault_29, b]
    · simp (disch := omega) only [jI_0, jI_1, jI_2, jI_3, jI_4, jI_5, jI_6, jI_7, jI_8, jI_9, jI_10, jI_11, jI_12, jI_13, jI_14, jI_15, jI_16, jI_20, jI_24, jI_26, jI_30, jI_31, jI_32, jI_40, jI_48, jI_56, jI_57, jI_59, jI_60, jI_97, jI_99, jI_122, jI_160, jI_240, jI_255, jI_768, jI_1000, ↓jN_1, ↓jN_2, ↓jN_3, ↓jN_4, ↓jN_8, ↓jN_10, ↓jN_11, ↓jN_12, ↓jN_14, ↓jN_20, jI_addN, jI_le, jI_lt, jI_eq, jI_cl, jI_in, jI_add, jI_sub, jI_eqN, gI_eqI, gI_eqN, gI_leI, gI_ltI, jI_leN, jI_ltN, gI_sub, pif_tt, pif_ff, pg_tt, isB, or_true, true_or, pif_T, pif_F, pg_T, pb_S, upd_e, upd_n, fX3_machineFault, fX3_machineFault_29]
  · rw [if_neg hp]
    simp (disch := omega) only [jI_0, jI_1, jI_2, jI_3, jI_4, jI_5, jI_6, jI_7, jI_8, jI_9, jI_10, jI_11, jI_12, jI_13, jI_14, jI_15, jI_16, jI_20, jI_24, jI_26, jI_30, jI_31, jI_32, jI_40, jI_48, jI_56, jI_57, jI_59, jI_60, jI_97, jI_99, jI_122, jI_160, jI_240, jI_255, jI_768, jI_1000, ↓jN_1, ↓jN_2, ↓jN_3, ↓jN_4, ↓jN_8, ↓jN_10, ↓jN_11, ↓jN_12, ↓jN_14, ↓jN_20, jI_addN, jI_le, jI_lt, jI_eq, jI_cl, jI_in, jI_add, jI_sub, jI_eqN, gI_eqI, gI_eqN, gI_leI, gI_ltI, jI_leN, jI_ltN, gI_sub, pif_tt, pif_ff, pg_tt, isB, or_true, true_or, pif_T, pif_F, pg_T, pb_S, upd_e, upd_n, fX3_machineFault, fX3_machineFault_29]
theorem read_84A_3 {nn f0 g ln len : Nat} {vt x1 x2 : Int32} {cc ce cf cs : Nat → Int32} {Q : Int32 × Int32 × (Nat → Int32) → Prop} (hN : 100 ≤ N) (hk : Gk n z f s e) (hG : Gc z f s e (jI z) cf cs ce) (hnn : nn ≤ 30) (hlen : len ≤ 40) (hf0 : f0 < len) (hgz : g + nn ≤ z) (hgood : ∀ i, i < min (len - f0) nn → gdB (cc (f0 + i)) = true) (hQ : ∀ ce2, Gc z f s (eX e g (min (len - f0) nn) (fun i => vlN (cc (f0 + i)))) (jI z) cf cs ce2 → Q (jI (cnt (min (len - f0) nn) (fun i => decide (e (g + i) ≠ vlN (cc (f0 + i))))), jI (if len - f0 < nn then 2 else 0), ce2)) : Ok (fX8_read_s3_84 N (jI z) (jI 1) (jI ln) (jI len) cc x1 (jI ln) (jI f0) (jI g) (jI nn) N (jI (min (len - f0) nn)) (jI 0) vt ce) Q := by
  have hz := hk.2.1
  have hf2 : len - f0 < nn ∨ ¬ len - f0 < nn := by omega
  generalize hwh : min (len - f0) nn = wh at *
  refine up_ok (fun fu i (_ : Unit) => fX8_read_s3_84 N (jI z) (jI 1) (jI ln) (jI len) cc x1 (jI ln) (jI f0) (jI g) (jI nn) fu (jI wh) (jI i) vt ce) _ wh (fun _ _ => True) ?_ ?_ N 0 () (by omega) (by omega) trivial
  · intro fu i _ hi _ ih
    obtain ⟨c1, c2⟩ := gd_t (hgood i hi)
    generalize hv : vlN (cc (f0 + i)) = v at *
    simp (disch := omega) only [jI_0, jI_1, jI_2, jI_3, jI_4, jI_5, jI_6, jI_7, jI_8, jI_9, jI_10, jI_11, jI_12, jI_13, jI_14, jI_15, jI_16, jI_20, jI_24, jI_26, jI_30, jI_31, jI_32, jI_40, jI_48, jI_56, jI_57, jI_59, jI_60, jI_97, jI_99, jI_122, jI_160, jI_240, jI_255, jI_768, jI_1000, ↓jN_1, ↓jN_2, ↓jN_3, ↓jN_4, ↓jN_8, ↓jN_10, ↓jN_11, ↓jN_12, ↓jN_14, ↓jN_20, jI_addN, jI_le, jI_lt, jI_eq, jI_cl, jI_in, jI_add, jI_sub, jI_eqN, gI_eqI, gI_eqN, gI_leI, gI_ltI, jI_leN, jI_ltN, gI_sub, pif_tt, pif_ff, pg_tt, isB, or_true, true_or, pif_T, pif_F, pg_T, pb_S, upd_e, upd_n, fX8_read_s3_84, c1]
    exact ih () trivial
  · intro fu _ _
    obtain ⟨⟨t1, t2⟩, e1, h1, h2⟩ := takeEndsX (N := N) (f0 := f0) (g := g) (wh := wh) (v := fun i => vlN (cc (f0 + i))) (c_p1_cells := cc) hN hk hG (by omega) (by omega) (fun i hi => gd_t (hgood i hi))
    simp only at h1 h2
    subst h1
    rcases hf2 with hf2 | hf2
    · rw [if_pos hf2] at hQ
      simp (disch := omega) only [jI_0, jI_1, jI_2, jI_3, jI_4, jI_5, jI_6, jI_7, jI_8, jI_9, jI_10, jI_11, jI_12, jI_13, jI_14, jI_15, jI_16, jI_20, jI_24, jI_26, jI_30, jI_31, jI_32, jI_40, jI_48, jI_56, jI_57, jI_59, jI_60, jI_97, jI_99, jI_122, jI_160, jI_240, jI_255, jI_768, jI_1000, ↓jN_1, ↓jN_2, ↓jN_3, ↓jN_4, ↓jN_8, ↓jN_10, ↓jN_11, ↓jN_12, ↓jN_14, ↓jN_20, jI_addN, jI_le, jI_lt, jI_eq, jI_cl, jI_in, jI_add, jI_sub, jI_eqN, gI_eqI, gI_eqN, gI_leI, gI_ltI, jI_leN, jI_ltN, gI_sub, pif_tt, pif_ff, pg_tt, isB, or_true, true_or, pif_T, pif_F, pg_T, pb_S, upd_e, upd_n, fX8_read_s3_84, fX3_machineFault, fX3_machineFault_29, e1]
      exact Ok.s (hQ t2 h2)
    · rw [if_neg hf2] at hQ
      simp (disch := omega) only [jI_0, jI_1, jI_2, jI_3, jI_4, jI_5, jI_6, jI_7, jI_8, jI_9, jI_10, jI_11, jI_12, jI_13, jI_14, jI_15, jI_16, jI_20, jI_24, jI_26, jI_30, jI_31, jI_32, jI_40, jI_48, jI_56, jI_57, jI_59, jI_60, jI_97, jI_99, jI_122, jI_160, jI_240, jI_255, jI_768, jI_1000, ↓jN_1, ↓jN_2, ↓jN_3, ↓jN_4, ↓jN_8, ↓jN_10, ↓jN_11, ↓jN_12, ↓jN_14, ↓jN_20, jI_addN, jI_le, jI_lt, jI_eq, jI_cl, jI_in, jI_add, jI_sub, jI_eqN, gI_eqI, gI_eqN, gI_leI, gI_ltI, jI_leN, jI_ltN, gI_sub, pif_tt, pif_ff, pg_tt, isB, or_true, true_or, pif_T, pif_F, pg_T, pb_S, upd_e, upd_n, fX8_read_s3_84, fX3_machineFault, fX3_machineFault_29, e1]
      exact Ok.s (hQ t2 h2)
theorem read_84C_3 {nn f0 g ln len bd : Nat} {vt x1 x2 ve vz : Int32} {cc ce : Nat → Int32} {Q : Int32 × Int32 × (Nat → Int32) → Prop} (hN : 100 ≤ N) (hnn : nn ≤ 30) (hlen : len ≤ 40) (hf0 : f0 < len) (hbd : bd < min (len - f0) nn) (hgood : ∀ i, i < bd → gdB (cc (f0 + i)) = true) (hbad : gdB (cc (f0 + bd)) = false) (hQ : Q (gI (20 + bd), vt, ce)) : Ok (fX8_read_s3_84 N vz ve (jI ln) (jI len) cc x1 x2 (jI f0) (jI g) (jI nn) N (jI (min (len - f0) nn)) (jI 0) vt ce) Q := by
  generalize hwh : min (len - f0) nn = wh at *
  refine up_ok (fun fu i (_ : Unit) => fX8_read_s3_84 N vz ve (jI ln) (jI len) cc x1 x2 (jI f0) (jI g) (jI nn) fu (jI wh) (jI i) vt ce) _ bd (fun _ _ => True) ?_ ?_ N 0 () (by omega) (by omega) trivial
  · intro fu i _ hi _ ih
    obtain ⟨c1, c2⟩ := gd_t (hgood i hi)
    generalize hv : vlN (cc (f0 + i)) = v at *
    simp (disch := omega) only [jI_0, jI_1, jI_2, jI_3, jI_4, jI_5, jI_6, jI_7, jI_8, jI_9, jI_10, jI_11, jI_12, jI_13, jI_14, jI_15, jI_16, jI_20, jI_24, jI_26, jI_30, jI_31, jI_32, jI_40, jI_48, jI_56, jI_57, jI_59, jI_60, jI_97, jI_99, jI_122, jI_160, jI_240, jI_255, jI_768, jI_1000, ↓jN_1, ↓jN_2, ↓jN_3, ↓jN_4, ↓jN_8, ↓jN_10, ↓jN_11, ↓jN_12, ↓jN_14, ↓jN_20, jI_addN, jI_le, jI_lt, jI_eq, jI_cl, jI_in, jI_add, jI_sub, jI_eqN, gI_eqI, gI_eqN, gI_leI, gI_ltI, jI_leN, jI_ltN, gI_sub, pif_tt, pif_ff, pg_tt, isB, or_true, true_or, pif_T, pif_F, pg_T, pb_S, upd_e, upd_n, fX8_read_s3_84, c1]
    exact ih () trivial
  · intro fu _ _
    rcases (gd_f (N := N) hbad).1 with hneg | ⟨v, hv, hv2, hv3⟩
    · simp (disch := omega) only [jI_0, jI_1, jI_2, jI_3, jI_4, jI_5, jI_6, jI_7, jI_8, jI_9, jI_10, jI_11, jI_12, jI_13, jI_14, jI_15, jI_16, jI_20, jI_24, jI_26, jI_30, jI_31, jI_32, jI_40, jI_48, jI_56, jI_57, jI_59, jI_60, jI_97, jI_99, jI_122, jI_160, jI_240, jI_255, jI_768, jI_1000, ↓jN_1, ↓jN_2, ↓jN_3, ↓jN_4, ↓jN_8, ↓jN_10, ↓jN_11, ↓jN_12, ↓jN_14, ↓jN_20, jI_addN, jI_le, jI_lt, jI_eq, jI_cl, jI_in, jI_add, jI_sub, jI_eqN, gI_eqI, gI_eqN, gI_leI, gI_ltI, jI_leN, jI_ltN, gI_sub, pif_tt, pif_ff, pg_tt, isB, or_true, true_or, pif_T, pif_F, pg_T, pb_S, upd_e, upd_n, fX8_read_s3_84, fX8_read_s3_114, hneg]
      exact Ok.s hQ
    · simp (disch := omega) only [jI_0, jI_1, jI_2, jI_3, jI_4, jI_5, jI_6, jI_7, jI_8, jI_9, jI_10, jI_11, jI_12, jI_13, jI_14, jI_15, jI_16, jI_20, jI_24, jI_26, jI_30, jI_31, jI_32, jI_40, jI_48, jI_56, jI_57, jI_59, jI_60, jI_97, jI_99, jI_122, jI_160, jI_240, jI_255, jI_768, jI_1000, ↓jN_1, ↓jN_2, ↓jN_3, ↓jN_4, ↓jN_8, ↓jN_10, ↓jN_11, ↓jN_12, ↓jN_14, ↓jN_20, jI_addN, jI_le, jI_lt, jI_eq, jI_cl, jI_in, jI_add, jI_sub, jI_eqN, gI_eqI, gI_eqN, gI_leI, gI_ltI, jI_leN, jI_ltN, gI_sub, pif_tt, pif_ff, pg_tt, isB, or_true, true_or, pif_T, pif_F, pg_T, pb_S, upd_e, upd_n, fX8_read_s3_84, fX8_read_s3_114, hv]
      exact Ok.s hQ
theorem read_84Z_3 {nn g : Nat} {vt x1 x2 x3 x4 ve vl vn vz : Int32} {cc ce : Nat → Int32} (hN : 100 ≤ N) (hnn : nn ≤ 30) (fl : Nat) (hfl : (ve = jI 0 ∧ fl = 1) ∨ (ve = jI 1 ∧ ¬ x2 = vl ∧ fl = 3) ∨ (ve = jI 1 ∧ x2 = vl ∧ fl = 2)) : fX8_read_s3_84 N vz ve vl vn cc x1 x2 x3 x4 (jI nn) N (jI 0) (jI 0) vt ce = some (jI 0, jI (if 0 < nn then fl else 0), ce) := by
  obtain ⟨N1, rfl⟩ : ∃ q, N = q + 1 := ⟨N - 1, by omega⟩
  rw [fX8_read_s3_84, fX8_takeEnds, fX8_takeEnds_6]
  by_cases hp : 0 < nn
  · rw [if_pos hp]
    rcases hfl with ⟨rfl, rfl⟩ | ⟨rfl, b, rfl⟩ | ⟨rfl, rfl, rfl⟩
    · simp (disch := omega) only [jI_0, jI_1, jI_2, jI_3, jI_4, jI_5, jI_6, jI_7, jI_8, jI_9, jI_10, jI_11, jI_12, jI_13, jI_14, jI_15, jI_16, jI_20, jI_24, jI_26, jI_30, jI_31, jI_32, jI_40, jI_48, jI_56, jI_57, jI_59, jI_60, jI_97, jI_99, jI_122, jI_160, jI_240, jI_255, jI_768, jI_1000, ↓jN_1, ↓jN_2, ↓jN_3, ↓jN_4, ↓jN_8, ↓jN_10, ↓jN_11, ↓jN_12, ↓jN_14, ↓jN_20, jI_addN, jI_le, jI_lt, jI_eq, jI_cl, jI_in, jI_add, jI_sub, jI_eqN, gI_eqI, gI_eqN, gI_leI, gI_ltI, jI_leN, jI_ltN, gI_sub, pif_tt, pif_ff, pg_tt, isB, or_true, true_or, pif_T, pif_F, pg_T, pb_S, upd_e, upd_n, fX3_machineFault, fX3_machineFault_29]
    · simp (disch := omega) only [jI_0, jI_1, jI_2, jI_3, jI_4, jI_5, jI_6, jI_7, jI_8, jI_9, jI_10, jI_11, jI_12, jI_13, jI_14, jI_15, jI_16, jI_20, jI_24, jI_26, jI_30, jI_31, jI_32, jI_40, jI_48, jI_56, jI_57, jI_59, jI_60, jI_97, jI_99, jI_122, jI_160, jI_240, jI_255, jI_768, jI_1000, ↓jN_1, ↓jN_2, ↓jN_3, ↓jN_4, ↓jN_8, ↓jN_10, ↓jN_11, ↓jN_12, ↓jN_14, ↓jN_20, jI_addN, jI_le, jI_lt, jI_eq, jI_cl, jI_in, jI_add, jI_sub, jI_eqN, gI_eqI, gI_eqN, gI_leI, gI_ltI, jI_leN, jI_ltN, gI_sub, pif_tt, pif_ff, pg_tt, isB, or_true, true_or, pif_T, pif_F, pg_T, pb_S, upd_e, upd_n, fX3_machineFault, fX3_machineFault_29, b]
    · simp (disch := omega) only [jI_0, jI_1, jI_2, jI_3, jI_4, jI_5, jI_6, jI_7, jI_8, jI_9, jI_10, jI_11, jI_12, jI_13, jI_14, jI_15, jI_16, jI_20, jI_24, jI_26, jI_30, jI_31, jI_32, jI_40, jI_48, jI_56, jI_57, jI_59, jI_60, jI_97, jI_99, jI_122, jI_160, jI_240, jI_255, jI_768, jI_1000, ↓jN_1, ↓jN_2, ↓jN_3, ↓jN_4, ↓jN_8, ↓jN_10, ↓jN_11, ↓jN_12, ↓jN_14, ↓jN_20, jI_addN, jI_le, jI_lt, jI_eq, jI_cl, jI_in, jI_add, jI_sub, jI_eqN, gI_eqI, gI_eqN, gI_leI, gI_ltI, jI_leN, jI_ltN, gI_sub, pif_tt, pif_ff, pg_tt, isB, or_true, true_or, pif_T, pif_F, pg_T, pb_S, upd_e, upd_n, fX3_machineFault, fX3_machineFault_29]
  · rw [if_neg hp]
    simp (disch := omega) only [jI_0, jI_1, jI_2, jI_3, jI_4, jI_5, jI_6, jI_7, jI_8, jI_9, jI_10, jI_11, jI_12, jI_13, jI_14, jI_15, jI_16, jI_20, jI_24, jI_26, jI_30, jI_31, jI_32, jI_40, jI_48, jI_56, jI_57, jI_59, jI_60, jI_97, jI_99, jI_122, jI_160, jI_240, jI_255, jI_768, jI_1000, ↓jN_1, ↓jN_2, ↓jN_3, ↓jN_4, ↓jN_8, ↓jN_10, ↓jN_11, ↓jN_12, ↓jN_14, ↓jN_20, jI_addN, jI_le, jI_lt, jI_eq, jI_cl, jI_in, jI_add, jI_sub, jI_eqN, gI_eqI, gI_eqN, gI_leI, gI_ltI, jI_leN, jI_ltN, gI_sub, pif_tt, pif_ff, pg_tt, isB, or_true, true_or, pif_T, pif_F, pg_T, pb_S, upd_e, upd_n, fX3_machineFault, fX3_machineFault_29]
end
