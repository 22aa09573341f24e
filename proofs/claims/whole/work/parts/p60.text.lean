/-! TEXT: what a good one leaves. -/
abbrev TxB := Int32 × Int32 × Int32 × Int32 × Int32 × Int32 × Int32 × Int32 × Int32 × Int32 × Int32 × Int32 × Int32 × Int32 × (Nat → Int32) × (Nat → Int32) × (Nat → Int32) × (Nat → Int32) × (Nat → Int32) × (Nat → Int32) × (Nat → Int32) × (Nat → Int32)
def TxG (H : Nat → Nat) (z : Nat) (f s : Nat → Nat) (l : Nat) (b : TxB) : Prop := b.1 = jI l ∧ b.2.1 = jI 0 ∧ b.2.2.2.2.2.2.2.2.1 = jI 0 ∧ Rm H b.2.2.2.2.2.2.2.2.2.2.2.2.2.2.2.2.1 ∧ Gm 0 z f s (fun _ => 2) b.2.2.2.2.2.2.2.2.2.2.2.2.2.2.2.2.2.1 b.2.2.2.2.2.2.2.2.2.2.2.2.2.2.1 b.2.2.2.2.2.2.2.2.2.2.2.2.2.2.2.2.2.2.2.2.2 b.2.2.2.2.2.2.2.2.2.2.2.2.2.2.2.1
section
variable {v_fault : Int32} {v_hasRule : Int32} {v_hasSides : Int32} {v_isBehind : Int32} {v_place : Int32} {v_readGames : Int32} {v_spot : Int32} {v_taped : Int32} {v_token : Int32} {v_toldOnes : Int32} {v_value : Int32} {v_wrong : Int32} {v_wrongAt : Int32} {c_cuts : Nat → Int32} {c_firsts : Nat → Int32} {c_goes : Nat → Int32} {c_holds : Nat → Int32} {c_kinds : Nat → Int32} {c_letters : Nat → Int32} {c_many : Nat → Int32} {c_readFirst : Nat → Int32} {c_readSecond : Nat → Int32} {c_reads : Nat → Int32} {c_seconds : Nat → Int32} {c_tape : Nat → Int32}
variable {N z l : Nat} {H f s : Nat → Nat}
theorem text_216M (hN : 100 ≤ N) (hz : z ≤ 30) (h : ∀ g, g < z → c_readFirst g = jI (f g) ∧ c_readSecond g = jI (s g)) (hh : Rm H c_holds) : Ok ((fX9_text_216 N c_cuts c_kinds c_letters c_tape N (jI l) (jI 0) (jI 0) v_hasRule v_hasSides v_isBehind v_place (jI z) v_spot (jI 0) v_token v_toldOnes v_value v_wrong v_wrongAt c_firsts c_goes c_holds c_many c_readFirst c_readSecond c_reads c_seconds)) (fun b => TxG H z f s l b) := by
  refine up_ok (fun fu g (q : (Nat → Int32) × (Nat → Int32) × (Nat → Int32)) => (fX9_text_216 N c_cuts c_kinds c_letters c_tape fu (jI l) (jI g) (jI 0) v_hasRule v_hasSides v_isBehind v_place (jI z) v_spot (jI 0) v_token v_toldOnes v_value v_wrong v_wrongAt q.1 q.2.1 c_holds c_many c_readFirst c_readSecond c_reads q.2.2)) _ z (fun g q => ∀ j, j < g → q.1 j = jI (f j) ∧ q.2.2 j = jI (s j) ∧ q.2.1 j = jI 2) ?_ ?_ N 0 (c_firsts, c_goes, c_seconds) (by omega) (by omega) (fun j hj => by omega)
  · intro fu g ⟨cf, cg, cs⟩ hg hq ih
    simp only at hq
    obtain ⟨h1, h2⟩ := h g hg
    have h3 : inr (jI g) 30 := by rw [jI_in (by omega)]; omega
    have h4 : inr (jI g) 60 := by rw [jI_in (by omega)]; omega
    have ih2 := ih (upd cf g (jI (f g)), upd cg g (jI 2), upd cs g (jI (s g))) (fun j hj => ?_)
    · show Ok ((fX9_text_216 N c_cuts c_kinds c_letters c_tape (fu + 1) (jI l) (jI g) (jI 0) v_hasRule v_hasSides v_isBehind v_place (jI z) v_spot (jI 0) v_token v_toldOnes v_value v_wrong v_wrongAt cf cg c_holds c_many c_readFirst c_readSecond c_reads cs)) _
      rw [fX9_text_216]
      simp (disch := omega) only [jI_0, jI_1, jI_2, jI_3, jI_4, jI_5, jI_6, jI_7, jI_8, jI_9, jI_10, jI_11, jI_12, jI_13, jI_14, jI_15, jI_16, jI_20, jI_24, jI_26, jI_30, jI_31, jI_32, jI_40, jI_48, jI_56, jI_57, jI_59, jI_60, jI_97, jI_99, jI_122, jI_160, jI_240, jI_255, jI_768, jI_1000, ↓jN_1, ↓jN_2, ↓jN_3, ↓jN_4, ↓jN_8, ↓jN_10, ↓jN_11, ↓jN_12, ↓jN_14, ↓jN_20, jI_addN, jI_le, jI_lt, jI_eq, jI_cl, jI_in, jI_add, jI_sub, jI_eqN, gI_eqI, gI_eqN, gI_leI, gI_ltI, jI_leN, jI_ltN, gI_sub, pif_tt, pif_ff, pg_tt, isB, or_true, true_or, pif_T, pif_F, pg_T, pb_Q, upd_e, upd_n, h1, h2]
      exact ih2
    · show upd cf g (jI (f g)) j = _ ∧ upd cs g (jI (s g)) j = _ ∧ upd cg g (jI 2) j = _
      by_cases hc : j = g
      · rw [upd_e hc, upd_e hc, upd_e hc, hc]; exact ⟨rfl, rfl, rfl⟩
      · rw [upd_n hc, upd_n hc, upd_n hc]; exact hq j (by omega)
  · intro fu ⟨cf, cg, cs⟩ hq
    simp only at hq
    show Ok ((fX9_text_216 N c_cuts c_kinds c_letters c_tape (fu + 1) (jI l) (jI z) (jI 0) v_hasRule v_hasSides v_isBehind v_place (jI z) v_spot (jI 0) v_token v_toldOnes v_value v_wrong v_wrongAt cf cg c_holds c_many c_readFirst c_readSecond c_reads cs)) _
    rw [fX9_text_216]
    simp (disch := omega) only [jI_0, jI_1, jI_2, jI_3, jI_4, jI_5, jI_6, jI_7, jI_8, jI_9, jI_10, jI_11, jI_12, jI_13, jI_14, jI_15, jI_16, jI_20, jI_24, jI_26, jI_30, jI_31, jI_32, jI_40, jI_48, jI_56, jI_57, jI_59, jI_60, jI_97, jI_99, jI_122, jI_160, jI_240, jI_255, jI_768, jI_1000, ↓jN_1, ↓jN_2, ↓jN_3, ↓jN_4, ↓jN_8, ↓jN_10, ↓jN_11, ↓jN_12, ↓jN_14, ↓jN_20, jI_addN, jI_le, jI_lt, jI_eq, jI_cl, jI_in, jI_add, jI_sub, jI_eqN, gI_eqI, gI_eqN, gI_leI, gI_ltI, jI_leN, jI_ltN, gI_sub, pif_tt, pif_ff, pg_tt, isB, or_true, true_or, pif_T, pif_F, pg_T, pb_Q, upd_e, upd_n, ]
    refine Ok.s ⟨rfl, rfl, rfl, hh, (show upd c_many 0 (jI z) 0 = jI z from upd_e rfl), fun g hg => ?_⟩
    rw [show 30 * 0 + g = g by omega]
    exact hq g hg
theorem text_160M (hN : 100 ≤ N) (hz : z ≤ 30) (h : ∀ g, g < z → c_readFirst g = jI (f g) ∧ c_readSecond g = jI (s g)) (hh : Rm H c_reads) : Ok ((fX9_text_160 N c_cuts c_kinds c_letters c_tape (jI l) v_fault v_hasRule v_hasSides v_isBehind v_place (jI z) v_spot v_taped v_token v_toldOnes v_value (jI 0) v_wrongAt c_firsts c_goes c_holds c_many c_readFirst c_readSecond c_reads c_seconds)) (fun b => TxG H z f s l b) := by
  simp (disch := omega) only [jI_0, jI_1, jI_2, jI_3, jI_4, jI_5, jI_6, jI_7, jI_8, jI_9, jI_10, jI_11, jI_12, jI_13, jI_14, jI_15, jI_16, jI_20, jI_24, jI_26, jI_30, jI_31, jI_32, jI_40, jI_48, jI_56, jI_57, jI_59, jI_60, jI_97, jI_99, jI_122, jI_160, jI_240, jI_255, jI_768, jI_1000, ↓jN_1, ↓jN_2, ↓jN_3, ↓jN_4, ↓jN_8, ↓jN_10, ↓jN_11, ↓jN_12, ↓jN_14, ↓jN_20, jI_addN, jI_le, jI_lt, jI_eq, jI_cl, jI_in, jI_add, jI_sub, jI_eqN, gI_eqI, gI_eqN, gI_leI, gI_ltI, jI_leN, jI_ltN, gI_sub, pif_tt, pif_ff, pg_tt, isB, or_true, true_or, pif_T, pif_F, pg_T, pb_Q, upd_e, upd_n, fX9_text_160]
  refine up_ok (fun fu g (q : Nat → Int32) => (fX9_text_190 N c_cuts c_kinds c_letters c_tape fu (jI l) (jI g) (jI 0) v_hasRule v_hasSides v_isBehind v_place (jI z) v_spot (jI 0) v_token v_toldOnes v_value (jI 0) v_wrongAt c_firsts c_goes q c_many c_readFirst c_readSecond c_reads c_seconds)) _ 32 (fun g q => ∀ j, j < g → q j = jI (H j)) ?_ ?_ N 0 c_holds (by omega) (by omega) (fun j hj => by omega)
  · intro fu g q hg hq ih
    have h1 := hh g hg
    have ih2 := ih (upd q g (jI (H g))) (fun j hj => ?_)
    · show Ok ((fX9_text_190 N c_cuts c_kinds c_letters c_tape (fu + 1) (jI l) (jI g) (jI 0) v_hasRule v_hasSides v_isBehind v_place (jI z) v_spot (jI 0) v_token v_toldOnes v_value (jI 0) v_wrongAt c_firsts c_goes q c_many c_readFirst c_readSecond c_reads c_seconds)) _
      rw [fX9_text_190]
      simp (disch := omega) only [jI_0, jI_1, jI_2, jI_3, jI_4, jI_5, jI_6, jI_7, jI_8, jI_9, jI_10, jI_11, jI_12, jI_13, jI_14, jI_15, jI_16, jI_20, jI_24, jI_26, jI_30, jI_31, jI_32, jI_40, jI_48, jI_56, jI_57, jI_59, jI_60, jI_97, jI_99, jI_122, jI_160, jI_240, jI_255, jI_768, jI_1000, ↓jN_1, ↓jN_2, ↓jN_3, ↓jN_4, ↓jN_8, ↓jN_10, ↓jN_11, ↓jN_12, ↓jN_14, ↓jN_20, jI_addN, jI_le, jI_lt, jI_eq, jI_cl, jI_in, jI_add, jI_sub, jI_eqN, gI_eqI, gI_eqN, gI_leI, gI_ltI, jI_leN, jI_ltN, gI_sub, pif_tt, pif_ff, pg_tt, isB, or_true, true_or, pif_T, pif_F, pg_T, pb_Q, upd_e, upd_n, h1]
      exact ih2
    · by_cases hc : j = g
      · rw [upd_e hc, hc]
      · rw [upd_n hc]; exact hq j (by omega)
  · intro fu q hq
    show Ok ((fX9_text_190 N c_cuts c_kinds c_letters c_tape (fu + 1) (jI l) (jI 32) (jI 0) v_hasRule v_hasSides v_isBehind v_place (jI z) v_spot (jI 0) v_token v_toldOnes v_value (jI 0) v_wrongAt c_firsts c_goes q c_many c_readFirst c_readSecond c_reads c_seconds)) _
    rw [fX9_text_190]
    simp (disch := omega) only [jI_0, jI_1, jI_2, jI_3, jI_4, jI_5, jI_6, jI_7, jI_8, jI_9, jI_10, jI_11, jI_12, jI_13, jI_14, jI_15, jI_16, jI_20, jI_24, jI_26, jI_30, jI_31, jI_32, jI_40, jI_48, jI_56, jI_57, jI_59, jI_60, jI_97, jI_99, jI_122, jI_160, jI_240, jI_255, jI_768, jI_1000, ↓jN_1, ↓jN_2, ↓jN_3, ↓jN_4, ↓jN_8, ↓jN_10, ↓jN_11, ↓jN_12, ↓jN_14, ↓jN_20, jI_addN, jI_le, jI_lt, jI_eq, jI_cl, jI_in, jI_add, jI_sub, jI_eqN, gI_eqI, gI_eqN, gI_leI, gI_ltI, jI_leN, jI_ltN, gI_sub, pif_tt, pif_ff, pg_tt, isB, or_true, true_or, pif_T, pif_F, pg_T, pb_Q, upd_e, upd_n, ]
    exact text_216M hN hz h (fun k hk => hq k hk)
end
