/-! TEXT: whether it fits together, the reference. -/
section
variable {c_reads : Nat → Int32}
variable {N : Nat} {H : Nat → Nat}
theorem isWholeM (hN : 100 ≤ N) (hR : Rr H) (hh : Rm H c_reads) : (¬ Bad H → (fX9_isWhole N c_reads) = some (jI 1)) ∧ (Bad H → (fX9_isWhole N c_reads) = some (jI 0)) := by
  have hm := mwN_lt hR
  have hbs := bsN_lt hR
  obtain ⟨r1, r2, r3, r4, r5⟩ := hR
  have h64 := shn (H 0) (by omega)
  have h0 := hh 0 (by omega)
  have h1 := hh 1 (by omega)
  have fin : ∀ fu, Ok ((fX9_isWhole_6 N c_reads (fu + 1) (jI (bsN H)) (jI (mwN H)) (jI (H 0)))) (fun q => (¬ Bad H → q = jI 1) ∧ (Bad H → q = jI 0)) := by
    intro fu
    rw [fX9_isWhole_6]
    by_cases k1 : H 1 = 1
    · rw [k1] at h1
      by_cases b0 : bsN H = 0
      · rw [b0]
        simp (disch := omega) only [jI_0, jI_1, jI_2, jI_3, jI_4, jI_5, jI_6, jI_7, jI_8, jI_9, jI_10, jI_11, jI_12, jI_13, jI_14, jI_15, jI_16, jI_20, jI_24, jI_26, jI_30, jI_31, jI_32, jI_40, jI_48, jI_56, jI_57, jI_59, jI_60, jI_97, jI_99, jI_122, jI_160, jI_240, jI_255, jI_768, jI_1000, ↓jN_1, ↓jN_2, ↓jN_3, ↓jN_4, ↓jN_8, ↓jN_10, ↓jN_11, ↓jN_12, ↓jN_14, ↓jN_20, jI_addN, jI_le, jI_lt, jI_eq, jI_cl, jI_in, jI_add, jI_sub, jI_eqN, gI_eqI, gI_eqN, gI_leI, gI_ltI, jI_leN, jI_ltN, gI_sub, pif_tt, pif_ff, pg_tt, isB, or_true, true_or, pif_T, pif_F, pg_T, pb_Q, upd_e, upd_n, h0, h1, fX9_isWhole_90, fX9_isWhole_91]
        exact Ok.s ⟨fun h => absurd (Or.inl ⟨k1, b0⟩) h, fun _ => rfl⟩
      · simp (disch := omega) only [jI_0, jI_1, jI_2, jI_3, jI_4, jI_5, jI_6, jI_7, jI_8, jI_9, jI_10, jI_11, jI_12, jI_13, jI_14, jI_15, jI_16, jI_20, jI_24, jI_26, jI_30, jI_31, jI_32, jI_40, jI_48, jI_56, jI_57, jI_59, jI_60, jI_97, jI_99, jI_122, jI_160, jI_240, jI_255, jI_768, jI_1000, ↓jN_1, ↓jN_2, ↓jN_3, ↓jN_4, ↓jN_8, ↓jN_10, ↓jN_11, ↓jN_12, ↓jN_14, ↓jN_20, jI_addN, jI_le, jI_lt, jI_eq, jI_cl, jI_in, jI_add, jI_sub, jI_eqN, gI_eqI, gI_eqN, gI_leI, gI_ltI, jI_leN, jI_ltN, gI_sub, pif_tt, pif_ff, pg_tt, isB, or_true, true_or, pif_T, pif_F, pg_T, pb_Q, upd_e, upd_n, h0, h1, fX9_isWhole_62, fX9_isWhole_86, fX9_isWhole_91]
        refine Ok.s ⟨fun _ => rfl, fun h => ?_⟩
        rcases h with h | h
        · exact absurd h.2 b0
        · omega
    · by_cases k3 : H 1 = 3
      · rw [k3] at h1
        have hsh := h64.1
        have hl := h64.2
        generalize hpw : 2 ^ (H 0) - 1 = pw at *
        by_cases b0 : mwN H = pw
        · simp (disch := omega) only [jI_0, jI_1, jI_2, jI_3, jI_4, jI_5, jI_6, jI_7, jI_8, jI_9, jI_10, jI_11, jI_12, jI_13, jI_14, jI_15, jI_16, jI_20, jI_24, jI_26, jI_30, jI_31, jI_32, jI_40, jI_48, jI_56, jI_57, jI_59, jI_60, jI_97, jI_99, jI_122, jI_160, jI_240, jI_255, jI_768, jI_1000, ↓jN_1, ↓jN_2, ↓jN_3, ↓jN_4, ↓jN_8, ↓jN_10, ↓jN_11, ↓jN_12, ↓jN_14, ↓jN_20, jI_addN, jI_le, jI_lt, jI_eq, jI_cl, jI_in, jI_add, jI_sub, jI_eqN, gI_eqI, gI_eqN, gI_leI, gI_ltI, jI_leN, jI_ltN, gI_sub, pif_tt, pif_ff, pg_tt, isB, or_true, true_or, pif_T, pif_F, pg_T, pb_Q, upd_e, upd_n, h0, h1, fX9_isWhole_62, hsh, fX9_isWhole_86, fX9_isWhole_91]
          refine Ok.s ⟨fun _ => rfl, fun h => ?_⟩
          rcases h with h | h
          · exact absurd h.1 k1
          · exact absurd (b0.trans hpw.symm) h.2
        · simp (disch := omega) only [jI_0, jI_1, jI_2, jI_3, jI_4, jI_5, jI_6, jI_7, jI_8, jI_9, jI_10, jI_11, jI_12, jI_13, jI_14, jI_15, jI_16, jI_20, jI_24, jI_26, jI_30, jI_31, jI_32, jI_40, jI_48, jI_56, jI_57, jI_59, jI_60, jI_97, jI_99, jI_122, jI_160, jI_240, jI_255, jI_768, jI_1000, ↓jN_1, ↓jN_2, ↓jN_3, ↓jN_4, ↓jN_8, ↓jN_10, ↓jN_11, ↓jN_12, ↓jN_14, ↓jN_20, jI_addN, jI_le, jI_lt, jI_eq, jI_cl, jI_in, jI_add, jI_sub, jI_eqN, gI_eqI, gI_eqN, gI_leI, gI_ltI, jI_leN, jI_ltN, gI_sub, pif_tt, pif_ff, pg_tt, isB, or_true, true_or, pif_T, pif_F, pg_T, pb_Q, upd_e, upd_n, h0, h1, fX9_isWhole_62, hsh, fX9_isWhole_90, fX9_isWhole_91]
          exact Ok.s ⟨fun h => absurd (Or.inr ⟨k3, fun c => b0 (c.trans hpw)⟩) h, fun _ => rfl⟩
      · generalize hkd : H 1 = kd at *
        simp (disch := omega) only [jI_0, jI_1, jI_2, jI_3, jI_4, jI_5, jI_6, jI_7, jI_8, jI_9, jI_10, jI_11, jI_12, jI_13, jI_14, jI_15, jI_16, jI_20, jI_24, jI_26, jI_30, jI_31, jI_32, jI_40, jI_48, jI_56, jI_57, jI_59, jI_60, jI_97, jI_99, jI_122, jI_160, jI_240, jI_255, jI_768, jI_1000, ↓jN_1, ↓jN_2, ↓jN_3, ↓jN_4, ↓jN_8, ↓jN_10, ↓jN_11, ↓jN_12, ↓jN_14, ↓jN_20, jI_addN, jI_le, jI_lt, jI_eq, jI_cl, jI_in, jI_add, jI_sub, jI_eqN, gI_eqI, gI_eqN, gI_leI, gI_ltI, jI_leN, jI_ltN, gI_sub, pif_tt, pif_ff, pg_tt, isB, or_true, true_or, pif_T, pif_F, pg_T, pb_Q, upd_e, upd_n, h0, h1, fX9_isWhole_62, fX9_isWhole_86, fX9_isWhole_91]
        refine Ok.s ⟨fun _ => rfl, fun h => ?_⟩
        rcases h with h | h
        · exact absurd (hkd.symm.trans h.1) k1
        · exact absurd (hkd.symm.trans h.1) k3
  have key : Ok ((fX9_isWhole_6 N c_reads N (jI 0) (jI 0) (jI 0))) (fun q => (¬ Bad H → q = jI 1) ∧ (Bad H → q = jI 0)) := by
    refine up_ok (fun fu j (x : Int32 × Int32) => (fX9_isWhole_6 N c_reads fu x.1 x.2 (jI j))) _ (H 0) (fun j x => x.1 = jI (sumN j (fun j => H (20 + j))) ∧ x.2 = jI (mkN (fun j => H (26 + j)) j)) ?_ ?_ N 0 (jI 0, jI 0) (by omega) (by omega) ⟨rfl, rfl⟩
    · intro fu j ⟨x, y⟩ hj ⟨hx, hy⟩ ih
      simp only at hx hy
      subst hx hy
      have hml : mkN (fun j => H (26 + j)) j < 2 ^ (H 0) := mkN_lt _ (fun i hi => r5 i (by omega))
      have hor := (or_ok (mkN (fun j => H (26 + j)) j) (by omega) (H (26 + j)) (r4 j (by omega)).2.2.2.2.2).1
      have hb1 := hh (20 + j) (by omega)
      have hb2 := hh (26 + j) (by omega)
      show Ok ((fX9_isWhole_6 N c_reads (fu + 1) (jI (sumN j (fun j => H (20 + j)))) (jI (mkN (fun j => H (26 + j)) j)) (jI j))) _
      rw [fX9_isWhole_6]
      simp (disch := omega) only [jI_0, jI_1, jI_2, jI_3, jI_4, jI_5, jI_6, jI_7, jI_8, jI_9, jI_10, jI_11, jI_12, jI_13, jI_14, jI_15, jI_16, jI_20, jI_24, jI_26, jI_30, jI_31, jI_32, jI_40, jI_48, jI_56, jI_57, jI_59, jI_60, jI_97, jI_99, jI_122, jI_160, jI_240, jI_255, jI_768, jI_1000, ↓jN_1, ↓jN_2, ↓jN_3, ↓jN_4, ↓jN_8, ↓jN_10, ↓jN_11, ↓jN_12, ↓jN_14, ↓jN_20, jI_addN, jI_le, jI_lt, jI_eq, jI_cl, jI_in, jI_add, jI_sub, jI_eqN, gI_eqI, gI_eqN, gI_leI, gI_ltI, jI_leN, jI_ltN, gI_sub, pif_tt, pif_ff, pg_tt, isB, or_true, true_or, pif_T, pif_F, pg_T, pb_Q, upd_e, upd_n, h0, hb1, hb2, hor]
      exact ih (_, _) ⟨rfl, rfl⟩
    · intro fu ⟨x, y⟩ ⟨hx, hy⟩
      simp only at hx hy
      subst hx hy
      exact fin fu
  obtain ⟨q, e, hq1, hq2⟩ := key
  refine ⟨fun h => ?_, fun h => ?_⟩
  · rw [← hq1 h]; exact e
  · rw [← hq2 h]; exact e
end
