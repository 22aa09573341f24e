/-! TEXT: pairs, the class. -/
section
variable {v_at : Int32} {v_flaw : Int32} {v_flawPlace : Int32} {v_draft_sides : Int32} {c_p2 : Nat → Int32} {c_tape_meaning : Nat → Int32} {c_tape_start : Nat → Int32} {c_tape_token : Nat → Int32} {c_told : Nat → Int32}
variable {N t T n : Nat} {tp : Nat → Nat}
theorem takePairX {k j m i : Nat} (hT : Tk t tp T c_tape_meaning c_tape_start c_tape_token) (ht : t ≤ 240) (h256 : ∀ k, k < 240 → tp k < 256) (hk : k < T) (hj : j < 11) (hm : m < 64) (hmj : c_told j = jI m) (hn : 2 ≤ n) (hn6 : n ≤ 6) : (cP t tp k n i (fun w => m.testBit w) ≠ 0 → Ok ((fX1_takePair N (jI k) v_flaw v_flawPlace (jI n) c_p2 c_tape_meaning c_tape_start c_tape_token c_told (jI j) (jI (loN i)) (jI (hiN n i)))) (fun q => q.1 = jI 0 ∧ q.2.2.1 = jI (cP t tp k n i (fun w => m.testBit w)) ∧ q.2.2.2.1 = jI (kS t tp (cQ t tp k n (fun w => m.testBit w))))) ∧ (cP t tp k n i (fun w => m.testBit w) = 0 → k + 2 < T ∧ kV t tp (k + 1) < n ∧ loN i ≤ kV t tp (k + 2) ∧ kV t tp (k + 2) ≤ hiN n i ∧ (fX1_takePair N (jI k) v_flaw v_flawPlace (jI n) c_p2 c_tape_meaning c_tape_start c_tape_token c_told (jI j) (jI (loN i)) (jI (hiN n i))) = some (jI 1, jI (k + 2), v_flaw, v_flawPlace, upd c_p2 (kV t tp (k + 1)) (jI (kV t tp (k + 2))), upd c_told j (jI (m ||| 2 ^ (kV t tp (k + 1)))))) := by
  have hT' := hT
  obtain ⟨T1, T2, T3, T4⟩ := hT'
  have hk1 : k + 1 ≤ T := by omega
  have n1 := numX (N := N) (v_flaw := v_flaw) (v_flawPlace := v_flawPlace) (lo := 0) (hi := n - 1) hT ht h256 hk (by omega) (by omega)
  have hle1 := cN_le t tp (k + 1) 0 (n - 1)
  unfold cP cQ
  by_cases c1 : cN t tp (k + 1) 0 (n - 1) = 0
  · simp only [c1, ne_eq, not_true_eq_false, if_false]
    have e1 := n1.1 c1
    obtain ⟨g1, g2, g3⟩ := cN_0 c1
    have hk1T : k + 1 < T := by
      apply Decidable.byContradiction
      intro h
      have h2 : k + 1 = T := by omega
      have : kK t tp T = 0 := T2
      rw [← h2] at this; omega
    have em : c_tape_meaning (k + 1) = jI (kV t tp (k + 1)) := (T4 (k + 1) hk1).2.2
    have es : c_tape_start (k + 1) = jI (kS t tp (k + 1)) := (T4 (k + 1) hk1).2.1
    generalize hw : kV t tp (k + 1) = w at *
    have ht6 := tst6 m hm w (by omega)
    have hor := (or_ok m hm w (by omega)).1
    by_cases hB : m.testBit w = false
    · simp only [hB, Bool.false_eq_true, if_false]
      have ht7 : (jI m &&& (jI 1 <<< (jI w &&& jI 31)) = jI 0) = True := by rw [ht6]; exact eq_true hB
      have hlo := lo_le i
      have hhi := hi_le i hn6
      have n2 := numX (N := N) (v_flaw := v_flaw) (v_flawPlace := v_flawPlace) (lo := loN i) (hi := hiN n i) hT ht h256 hk1T (by omega) (by omega)
      rw [show k + 1 + 1 = k + 2 from rfl] at n2
      have em2 : c_tape_meaning (k + 2) = jI (kV t tp (k + 2)) := (T4 (k + 2) (by omega)).2.2
      have hle2 := cN_le t tp (k + 2) (loN i) (hiN n i)
      by_cases c2 : cN t tp (k + 2) (loN i) (hiN n i) = 0
      · obtain ⟨g4, g5, g6⟩ := cN_0 c2
        have e2 := n2.1 c2
        refine ⟨fun h => absurd c2 h, fun _ => ⟨?_, by omega, g5, g6, ?_⟩⟩
        · apply Decidable.byContradiction
          intro h
          have h2 : k + 2 = T := by omega
          have : kK t tp T = 0 := T2
          rw [← h2] at this; omega
        · simp (disch := omega) only [jI_0, jI_1, jI_2, jI_3, jI_4, jI_5, jI_6, jI_7, jI_8, jI_9, jI_10, jI_11, jI_12, jI_13, jI_14, jI_15, jI_16, jI_20, jI_24, jI_26, jI_30, jI_31, jI_32, jI_40, jI_48, jI_56, jI_57, jI_59, jI_60, jI_97, jI_99, jI_122, jI_160, jI_240, jI_255, jI_768, jI_1000, ↓jN_1, ↓jN_2, ↓jN_3, ↓jN_4, ↓jN_8, ↓jN_10, ↓jN_11, ↓jN_12, ↓jN_14, ↓jN_20, jI_addN, jI_le, jI_lt, jI_eq, jI_cl, jI_in, jI_add, jI_sub, jI_eqN, gI_eqI, gI_eqN, gI_leI, gI_ltI, jI_leN, jI_ltN, gI_sub, pif_tt, pif_ff, pg_tt, isB, or_true, true_or, pif_T, pif_F, pg_T, pb_Q, upd_e, upd_n, fX1_takePair, e1, em, hmj, ht7, e2, em2, hor]
      · have e2 := n2.2 c2
        refine ⟨fun _ => ?_, fun h => absurd h c2⟩
        simp (disch := omega) only [jI_0, jI_1, jI_2, jI_3, jI_4, jI_5, jI_6, jI_7, jI_8, jI_9, jI_10, jI_11, jI_12, jI_13, jI_14, jI_15, jI_16, jI_20, jI_24, jI_26, jI_30, jI_31, jI_32, jI_40, jI_48, jI_56, jI_57, jI_59, jI_60, jI_97, jI_99, jI_122, jI_160, jI_240, jI_255, jI_768, jI_1000, ↓jN_1, ↓jN_2, ↓jN_3, ↓jN_4, ↓jN_8, ↓jN_10, ↓jN_11, ↓jN_12, ↓jN_14, ↓jN_20, jI_addN, jI_le, jI_lt, jI_eq, jI_cl, jI_in, jI_add, jI_sub, jI_eqN, gI_eqI, gI_eqN, gI_leI, gI_ltI, jI_leN, jI_ltN, gI_sub, pif_tt, pif_ff, pg_tt, isB, or_true, true_or, pif_T, pif_F, pg_T, pb_Q, upd_e, upd_n, fX1_takePair, e1, em, hmj, ht7, e2]
        exact Ok.s ⟨rfl, rfl, rfl⟩
    · rw [Bool.not_eq_false] at hB
      simp only [hB, if_true]
      have ht7 : (jI m &&& (jI 1 <<< (jI w &&& jI 31)) = jI 0) = False := by rw [ht6, hB]; simp
      have f := failX (N := N) (t := t) (tp := tp) (v_flaw := v_flaw) (v_flawPlace := v_flawPlace) (k := k + 1) (c := 4) (by omega) es
      refine ⟨fun _ => ?_, fun h => by omega⟩
      simp (disch := omega) only [jI_0, jI_1, jI_2, jI_3, jI_4, jI_5, jI_6, jI_7, jI_8, jI_9, jI_10, jI_11, jI_12, jI_13, jI_14, jI_15, jI_16, jI_20, jI_24, jI_26, jI_30, jI_31, jI_32, jI_40, jI_48, jI_56, jI_57, jI_59, jI_60, jI_97, jI_99, jI_122, jI_160, jI_240, jI_255, jI_768, jI_1000, ↓jN_1, ↓jN_2, ↓jN_3, ↓jN_4, ↓jN_8, ↓jN_10, ↓jN_11, ↓jN_12, ↓jN_14, ↓jN_20, jI_addN, jI_le, jI_lt, jI_eq, jI_cl, jI_in, jI_add, jI_sub, jI_eqN, gI_eqI, gI_eqN, gI_leI, gI_ltI, jI_leN, jI_ltN, gI_sub, pif_tt, pif_ff, pg_tt, isB, or_true, true_or, pif_T, pif_F, pg_T, pb_Q, upd_e, upd_n, fX1_takePair, e1, em, hmj, ht7, f]
      exact Ok.s ⟨rfl, rfl, rfl⟩
  · simp only [c1, ne_eq, not_false_eq_true, if_true]
    have e1 := n1.2 c1
    refine ⟨fun _ => ?_, fun h => h.elim⟩
    simp (disch := omega) only [jI_0, jI_1, jI_2, jI_3, jI_4, jI_5, jI_6, jI_7, jI_8, jI_9, jI_10, jI_11, jI_12, jI_13, jI_14, jI_15, jI_16, jI_20, jI_24, jI_26, jI_30, jI_31, jI_32, jI_40, jI_48, jI_56, jI_57, jI_59, jI_60, jI_97, jI_99, jI_122, jI_160, jI_240, jI_255, jI_768, jI_1000, ↓jN_1, ↓jN_2, ↓jN_3, ↓jN_4, ↓jN_8, ↓jN_10, ↓jN_11, ↓jN_12, ↓jN_14, ↓jN_20, jI_addN, jI_le, jI_lt, jI_eq, jI_cl, jI_in, jI_add, jI_sub, jI_eqN, gI_eqI, gI_eqN, gI_leI, gI_ltI, jI_leN, jI_ltN, gI_sub, pif_tt, pif_ff, pg_tt, isB, or_true, true_or, pif_T, pif_F, pg_T, pb_Q, upd_e, upd_n, fX1_takePair, e1]
    exact Ok.s ⟨rfl, rfl, rfl⟩
end
