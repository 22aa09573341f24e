/-! TEXT: all lines, whole. -/
section
variable {v_at : Int32} {v_flaw : Int32} {v_flawPlace : Int32} {v_lines : Int32} {v_draft_kind : Int32} {v_draft_rounds : Int32} {v_draft_sides : Int32} {c_draft_balls : Nat → Int32} {c_draft_choiceWorth : Nat → Int32} {c_draft_placeWorth : Nat → Int32} {c_draft_strength : Nat → Int32} {c_draft_wheel : Nat → Int32} {v_tape_length : Int32} {v_tape_next : Int32} {c_tape_bytes : Nat → Int32} {c_tape_meaning : Nat → Int32} {c_tape_start : Nat → Int32} {c_tape_token : Nat → Int32} {c_told : Nat → Int32} {v_fault : Int32} {v_hasRule : Int32} {v_hasSides : Int32} {v_isBehind : Int32} {v_place : Int32} {v_readGames : Int32} {v_spot : Int32} {v_taped : Int32} {v_token : Int32} {v_toldOnes : Int32} {v_value : Int32} {v_wrong : Int32} {v_wrongAt : Int32} {c_cuts : Nat → Int32} {c_firsts : Nat → Int32} {c_goes : Nat → Int32} {c_holds : Nat → Int32} {c_kinds : Nat → Int32} {c_letters : Nat → Int32} {c_many : Nat → Int32} {c_readFirst : Nat → Int32} {c_readSecond : Nat → Int32} {c_reads : Nat → Int32} {c_seconds : Nat → Int32} {c_tape : Nat → Int32}
variable {N t T : Nat} {tp : Nat → Nat}
theorem loopX (hN : 1000 ≤ N) (hT : Tk t tp T c_tape_meaning c_tape_start c_tape_token) (ht : t ≤ 240) (h256 : ∀ k, k < 240 → tp k < 256) (hb : ∀ k, k < t → c_tape k = jI (tp k)) (hcu : Cu c_cuts c_letters) (hkd : ∀ n, n < 11 → c_kinds n = kdN n) : ∀ d k l fu fu2 (H m : Nat → Nat) (B ib r : Nat) (vfp vk vr vs : Int32) (cb cc cp cs cw ct : Nat → Int32) (vhr vhs vib vpl vrg vsp vto vtl vva vwr vwa : Int32) (crf crs crd : Nat → Int32), T - k ≤ d → k ≤ T → d + 2 ≤ fu → d + 2 ≤ fu2 → 2 * l ≤ k → Ld H m B ib r → Lc H m r vk vr vs cb cc cp cs cw ct → Lm H m B ib r vhr vhs vib vrg vtl crf crs crd → At t tp k vpl vsp vto vva vwr vwa → Ok ((fX1_takeAll_55 N v_tape_length c_tape_bytes fu (jI k) (jI 0) vfp (jI l) vk vr vs cb cc cp cs cw v_tape_next c_tape_meaning c_tape_start c_tape_token ct)) (fun a => Ok ((fX9_text_108 N c_cuts c_kinds c_letters c_tape fu2 (jI l) v_fault vhr vhs vib vpl vrg vsp (jI t) vto vtl vva vwr vwa c_firsts c_goes c_holds c_many crf crs crd c_seconds)) (fun b => TxQ c_firsts c_goes c_holds c_many c_seconds a b)) := by
  have hT' := hT
  obtain ⟨T1, T2, T3, T4⟩ := hT'
  intro d
  induction d with
  | zero =>
    intro k l fu fu2 H m B ib r vfp vk vr vs cb cc cp cs cw ct vhr vhs vib vpl vrg vsp vto vtl vva vwr vwa crf crs crd hd hk hf hf2 hl hL hC hM hA
    obtain ⟨fu, rfl⟩ : ∃ f, fu = f + 1 := ⟨fu - 1, by omega⟩
    obtain ⟨fu2, rfl⟩ : ∃ f, fu2 = f + 1 := ⟨fu2 - 1, by omega⟩
    exact textEnd hN hT ht h256 hb hcu hkd (by omega) hl hL hC hM hA
  | succ d ih =>
    intro k l fu fu2 H m B ib r vfp vk vr vs cb cc cp cs cw ct vhr vhs vib vpl vrg vsp vto vtl vva vwr vwa crf crs crd hd hk hf hf2 hl hL hC hM hA
    obtain ⟨fu, rfl⟩ : ∃ f, fu = f + 1 := ⟨fu - 1, by omega⟩
    obtain ⟨fu2, rfl⟩ : ∃ f, fu2 = f + 1 := ⟨fu2 - 1, by omega⟩
    by_cases hkT : k = T
    · exact textEnd hN hT ht h256 hb hcu hkd hkT hl hL hC hM hA
    · have hlt : k < T := by omega
      by_cases h4 : kK t tp k = 4
      · exact textBad hN hT ht h256 hb hcu hkd hlt hl h4 hL hC hM hA
      · have hk0 : kK t tp k ≠ 0 := T3 k hlt
        have hk4 := kK_le t tp k
        have et : c_tape_token k = jI (kK t tp k) := (T4 k (by omega)).1
        obtain ⟨a1, a2, a3, a4, a5⟩ := hA.1 h4
        subst a1 a2 a3 a4 a5
        obtain ⟨⟨p1, p2, p3, p4, p5, p6, p7, p8, p9, p10, p11, p12, p13⟩, e1, ⟨q1, q2, q3, q4, q5, q6, q7, q8, q9, q10, q11, q12, q13, q14⟩, e2, hQ⟩ := lineX (N := N) (v_flaw := jI 0) (v_flawPlace := vfp) (v_wrongAt := vwa) hN hT ht h256 hb hcu hlt hL hC hM hkd h4
        have hkc : (jI (kK t tp k) = jI 0) = False := by rw [jI_eq (by omega) (by omega)]; exact eq_false hk0
        rcases hQ with ⟨c, p, c0, c7, hp, x1, x2, x3, x4, x5⟩ | ⟨e, H', m', B', ib', r', g1, g2, x1, x2, x3, gL, gC, gM, gA⟩
        · simp only at x1 x2 x3 x4 x5
          subst x1 x2 x3 x4 x5
          rw [fX1_takeAll_55]
          simp (disch := omega) only [jI_0, jI_1, jI_2, jI_3, jI_4, jI_5, jI_6, jI_7, jI_8, jI_9, jI_10, jI_11, jI_12, jI_13, jI_14, jI_15, jI_16, jI_20, jI_24, jI_26, jI_30, jI_31, jI_32, jI_40, jI_48, jI_56, jI_57, jI_59, jI_60, jI_97, jI_99, jI_122, jI_160, jI_240, jI_255, jI_768, jI_1000, ↓jN_1, ↓jN_2, ↓jN_3, ↓jN_4, ↓jN_8, ↓jN_10, ↓jN_11, ↓jN_12, ↓jN_14, ↓jN_20, jI_addN, jI_le, jI_lt, jI_eq, jI_cl, jI_in, jI_add, jI_sub, jI_eqN, gI_eqI, gI_eqN, gI_leI, gI_ltI, jI_leN, jI_ltN, gI_sub, pif_tt, pif_ff, pg_tt, isB, or_true, true_or, pif_T, pif_F, pg_T, pb_Q, upd_e, upd_n, et, hkc, e1]
          refine Ok.s ?_
          rw [fX9_text_108]
          simp (disch := omega) only [jI_0, jI_1, jI_2, jI_3, jI_4, jI_5, jI_6, jI_7, jI_8, jI_9, jI_10, jI_11, jI_12, jI_13, jI_14, jI_15, jI_16, jI_20, jI_24, jI_26, jI_30, jI_31, jI_32, jI_40, jI_48, jI_56, jI_57, jI_59, jI_60, jI_97, jI_99, jI_122, jI_160, jI_240, jI_255, jI_768, jI_1000, ↓jN_1, ↓jN_2, ↓jN_3, ↓jN_4, ↓jN_8, ↓jN_10, ↓jN_11, ↓jN_12, ↓jN_14, ↓jN_20, jI_addN, jI_le, jI_lt, jI_eq, jI_cl, jI_in, jI_add, jI_sub, jI_eqN, gI_eqI, gI_eqN, gI_leI, gI_ltI, jI_leN, jI_ltN, gI_sub, pif_tt, pif_ff, pg_tt, isB, or_true, true_or, pif_T, pif_F, pg_T, pb_Q, upd_e, upd_n, hkc, e2]
          obtain ⟨fu2, rfl⟩ : ∃ f, fu2 = f + 1 := ⟨fu2 - 1, by omega⟩
          have hcc : (jI c = jI 0) = False := by rw [jI_eq (by omega) (by omega)]; exact eq_false (by omega)
          rw [fX9_text_108]
          simp (disch := omega) only [jI_0, jI_1, jI_2, jI_3, jI_4, jI_5, jI_6, jI_7, jI_8, jI_9, jI_10, jI_11, jI_12, jI_13, jI_14, jI_15, jI_16, jI_20, jI_24, jI_26, jI_30, jI_31, jI_32, jI_40, jI_48, jI_56, jI_57, jI_59, jI_60, jI_97, jI_99, jI_122, jI_160, jI_240, jI_255, jI_768, jI_1000, ↓jN_1, ↓jN_2, ↓jN_3, ↓jN_4, ↓jN_8, ↓jN_10, ↓jN_11, ↓jN_12, ↓jN_14, ↓jN_20, jI_addN, jI_le, jI_lt, jI_eq, jI_cl, jI_in, jI_add, jI_sub, jI_eqN, gI_eqI, gI_eqN, gI_leI, gI_ltI, jI_leN, jI_ltN, gI_sub, pif_tt, pif_ff, pg_tt, isB, or_true, true_or, pif_T, pif_F, pg_T, pb_Q, upd_e, upd_n, hcc, text_132W]
          exact Ok.s (Or.inl ⟨c, p, c0, c7, by omega, rfl, rfl, rfl, rfl, rfl, rfl, rfl, rfl, rfl, rfl, rfl⟩)
        · simp only at x1 x2 x3 gC gM gA
          subst x1 x2 x3
          have hst := stepX (N := N) (k := e) (by omega)
          have nx := ih (e + 1) (l + 1) fu fu2 H' m' B' ib' r' p4 p5 p6 p7 p8 p9 p10 p11 p12 p13 q1 q2 q3 q4 q5 q6 q7 q8 q9 q10 q11 q12 q13 q14 (by omega) (by omega) (by omega) (by omega) (by omega) gL gC gM gA
          rw [fX1_takeAll_55]
          simp (disch := omega) only [jI_0, jI_1, jI_2, jI_3, jI_4, jI_5, jI_6, jI_7, jI_8, jI_9, jI_10, jI_11, jI_12, jI_13, jI_14, jI_15, jI_16, jI_20, jI_24, jI_26, jI_30, jI_31, jI_32, jI_40, jI_48, jI_56, jI_57, jI_59, jI_60, jI_97, jI_99, jI_122, jI_160, jI_240, jI_255, jI_768, jI_1000, ↓jN_1, ↓jN_2, ↓jN_3, ↓jN_4, ↓jN_8, ↓jN_10, ↓jN_11, ↓jN_12, ↓jN_14, ↓jN_20, jI_addN, jI_le, jI_lt, jI_eq, jI_cl, jI_in, jI_add, jI_sub, jI_eqN, gI_eqI, gI_eqN, gI_leI, gI_ltI, jI_leN, jI_ltN, gI_sub, pif_tt, pif_ff, pg_tt, isB, or_true, true_or, pif_T, pif_F, pg_T, pb_Q, upd_e, upd_n, et, hkc, e1, hst]
          refine nx.mono (fun a ha => ?_)
          rw [fX9_text_108]
          simp (disch := omega) only [jI_0, jI_1, jI_2, jI_3, jI_4, jI_5, jI_6, jI_7, jI_8, jI_9, jI_10, jI_11, jI_12, jI_13, jI_14, jI_15, jI_16, jI_20, jI_24, jI_26, jI_30, jI_31, jI_32, jI_40, jI_48, jI_56, jI_57, jI_59, jI_60, jI_97, jI_99, jI_122, jI_160, jI_240, jI_255, jI_768, jI_1000, ↓jN_1, ↓jN_2, ↓jN_3, ↓jN_4, ↓jN_8, ↓jN_10, ↓jN_11, ↓jN_12, ↓jN_14, ↓jN_20, jI_addN, jI_le, jI_lt, jI_eq, jI_cl, jI_in, jI_add, jI_sub, jI_eqN, gI_eqI, gI_eqN, gI_leI, gI_ltI, jI_leN, jI_ltN, gI_sub, pif_tt, pif_ff, pg_tt, isB, or_true, true_or, pif_T, pif_F, pg_T, pb_Q, upd_e, upd_n, hkc, e2]
          exact ha
end
