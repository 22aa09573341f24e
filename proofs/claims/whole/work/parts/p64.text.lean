/-! TEXT: the starts. -/
def dfH (k : Nat) : Nat := if k = 0 then 4 else if k = 1 then 0 else if k < 8 then 5 else if k < 20 then 0 else if k < 26 then 1 else k - 26
theorem Ld_df : Ld dfH (fun _ => 0) 0 0 0 := by
  refine ⟨⟨by decide, by decide, by decide, by decide, by decide⟩, ⟨fun j _ => by show 0 < 64; omega, by omega, fun i _ w _ => by simp, by simp⟩, by rw [Nat.zero_mul]; omega, fun _ => ⟨rfl, by decide⟩⟩
section
variable {v_kind : Int32} {v_rounds : Int32} {v_sides : Int32} {c_balls : Nat → Int32} {c_choiceWorth : Nat → Int32} {c_placeWorth : Nat → Int32} {c_strength : Nat → Int32} {c_wheel : Nat → Int32}
variable {N : Nat}
theorem resetX (hN : 100 ≤ N) : Ok ((fX2_reset N v_kind v_rounds v_sides c_balls c_choiceWorth c_placeWorth c_strength c_wheel)) (fun q => q.2.1 = jI 0 ∧ Rc dfH q.1 q.2.2.1 q.2.2.2.1 q.2.2.2.2.1 q.2.2.2.2.2.1 q.2.2.2.2.2.2.1 q.2.2.2.2.2.2.2) := by
  simp (disch := omega) only [jI_0, jI_1, jI_2, jI_3, jI_4, jI_5, jI_6, jI_7, jI_8, jI_9, jI_10, jI_11, jI_12, jI_13, jI_14, jI_15, jI_16, jI_20, jI_24, jI_26, jI_30, jI_31, jI_32, jI_40, jI_48, jI_56, jI_57, jI_59, jI_60, jI_97, jI_99, jI_122, jI_160, jI_240, jI_255, jI_768, jI_1000, ↓jN_1, ↓jN_2, ↓jN_3, ↓jN_4, ↓jN_8, ↓jN_10, ↓jN_11, ↓jN_12, ↓jN_14, ↓jN_20, jI_addN, jI_le, jI_lt, jI_eq, jI_cl, jI_in, jI_add, jI_sub, jI_eqN, gI_eqI, gI_eqN, gI_leI, gI_ltI, jI_leN, jI_ltN, gI_sub, pif_tt, pif_ff, pg_tt, isB, or_true, true_or, pif_T, pif_F, pg_T, pb_Q, upd_e, upd_n, fX2_reset]
  refine up_ok (fun fu i (q : (Nat → Int32) × (Nat → Int32) × (Nat → Int32) × (Nat → Int32) × (Nat → Int32)) => (fX2_reset_17 N fu (jI i) (jI 0) (jI 0) (jI 4) q.1 q.2.1 q.2.2.1 q.2.2.2.1 q.2.2.2.2)) _ 6 (fun i q => ∀ j, j < i → q.2.2.2.1 j = jI (dfH (2 + j)) ∧ q.2.2.1 j = jI (dfH (8 + j)) ∧ q.2.1 j = jI (dfH (14 + j)) ∧ q.1 j = jI (dfH (20 + j)) ∧ q.2.2.2.2 j = jI (dfH (26 + j))) ?_ ?_ N 0 (c_balls, c_choiceWorth, c_placeWorth, c_strength, c_wheel) (by omega) (by omega) (fun j hj => by omega)
  · intro fu i ⟨c1, c2, c3, c4, c5⟩ hi hq ih
    simp only at hq
    have ih2 := ih (upd c1 i (jI 1), upd c2 i (jI 0), upd c3 i (jI 0), upd c4 i (jI 5), upd c5 i (jI i)) (fun j hj => ?_)
    · show Ok ((fX2_reset_17 N (fu + 1) (jI i) (jI 0) (jI 0) (jI 4) c1 c2 c3 c4 c5)) _
      rw [fX2_reset_17]
      simp (disch := omega) only [jI_0, jI_1, jI_2, jI_3, jI_4, jI_5, jI_6, jI_7, jI_8, jI_9, jI_10, jI_11, jI_12, jI_13, jI_14, jI_15, jI_16, jI_20, jI_24, jI_26, jI_30, jI_31, jI_32, jI_40, jI_48, jI_56, jI_57, jI_59, jI_60, jI_97, jI_99, jI_122, jI_160, jI_240, jI_255, jI_768, jI_1000, ↓jN_1, ↓jN_2, ↓jN_3, ↓jN_4, ↓jN_8, ↓jN_10, ↓jN_11, ↓jN_12, ↓jN_14, ↓jN_20, jI_addN, jI_le, jI_lt, jI_eq, jI_cl, jI_in, jI_add, jI_sub, jI_eqN, gI_eqI, gI_eqN, gI_leI, gI_ltI, jI_leN, jI_ltN, gI_sub, pif_tt, pif_ff, pg_tt, isB, or_true, true_or, pif_T, pif_F, pg_T, pb_Q, upd_e, upd_n, ]
      exact ih2
    · show upd c4 i (jI 5) j = _ ∧ upd c3 i (jI 0) j = _ ∧ upd c2 i (jI 0) j = _ ∧ upd c1 i (jI 1) j = _ ∧ upd c5 i (jI i) j = _
      by_cases hc : j = i
      · subst hc
        rw [upd_e rfl, upd_e rfl, upd_e rfl, upd_e rfl, upd_e rfl]
        have hj : j = 0 ∨ j = 1 ∨ j = 2 ∨ j = 3 ∨ j = 4 ∨ j = 5 := by omega
        rcases hj with rfl | rfl | rfl | rfl | rfl | rfl <;> exact ⟨rfl, rfl, rfl, rfl, rfl⟩
      · rw [upd_n hc, upd_n hc, upd_n hc, upd_n hc, upd_n hc]; exact hq j (by omega)
  · intro fu ⟨c1, c2, c3, c4, c5⟩ hq
    simp only at hq
    show Ok ((fX2_reset_17 N (fu + 1) (jI 6) (jI 0) (jI 0) (jI 4) c1 c2 c3 c4 c5)) _
    rw [fX2_reset_17]
    simp (disch := omega) only [jI_0, jI_1, jI_2, jI_3, jI_4, jI_5, jI_6, jI_7, jI_8, jI_9, jI_10, jI_11, jI_12, jI_13, jI_14, jI_15, jI_16, jI_20, jI_24, jI_26, jI_30, jI_31, jI_32, jI_40, jI_48, jI_56, jI_57, jI_59, jI_60, jI_97, jI_99, jI_122, jI_160, jI_240, jI_255, jI_768, jI_1000, ↓jN_1, ↓jN_2, ↓jN_3, ↓jN_4, ↓jN_8, ↓jN_10, ↓jN_11, ↓jN_12, ↓jN_14, ↓jN_20, jI_addN, jI_le, jI_lt, jI_eq, jI_cl, jI_in, jI_add, jI_sub, jI_eqN, gI_eqI, gI_eqN, gI_leI, gI_ltI, jI_leN, jI_ltN, gI_sub, pif_tt, pif_ff, pg_tt, isB, or_true, true_or, pif_T, pif_F, pg_T, pb_Q, upd_e, upd_n, ]
    exact Ok.s ⟨rfl, rfl, rfl, hq⟩
end
section
variable {v_at : Int32} {v_flaw : Int32} {v_flawPlace : Int32} {v_lines : Int32} {v_draft_kind : Int32} {v_draft_rounds : Int32} {v_draft_sides : Int32} {c_draft_balls : Nat → Int32} {c_draft_choiceWorth : Nat → Int32} {c_draft_placeWorth : Nat → Int32} {c_draft_strength : Nat → Int32} {c_draft_wheel : Nat → Int32} {v_tape_length : Int32} {v_tape_next : Int32} {c_tape_bytes : Nat → Int32} {c_tape_meaning : Nat → Int32} {c_tape_start : Nat → Int32} {c_tape_token : Nat → Int32} {c_told : Nat → Int32} {v_fault : Int32} {v_hasRule : Int32} {v_hasSides : Int32} {v_isBehind : Int32} {v_place : Int32} {v_readGames : Int32} {v_spot : Int32} {v_taped : Int32} {v_token : Int32} {v_toldOnes : Int32} {v_value : Int32} {v_wrong : Int32} {v_wrongAt : Int32} {c_cuts : Nat → Int32} {c_firsts : Nat → Int32} {c_goes : Nat → Int32} {c_holds : Nat → Int32} {c_kinds : Nat → Int32} {c_letters : Nat → Int32} {c_many : Nat → Int32} {c_readFirst : Nat → Int32} {c_readSecond : Nat → Int32} {c_reads : Nat → Int32} {c_seconds : Nat → Int32} {c_tape : Nat → Int32}
variable {N t : Nat} {tp : Nat → Nat}
theorem textX (hN : 1000 ≤ N) (ht : t ≤ 240) (h256 : ∀ k, k < 240 → tp k < 256) (hb : ∀ k, k < t → c_tape k = jI (tp k)) (hcu : Cu c_cuts c_letters) (hkd : ∀ n, n < 11 → c_kinds n = kdN n) (hbx : ∀ k, k < t → c_tape_bytes k = bI (tp k)) : Ok ((fX1_takeAll N v_at v_flaw v_flawPlace v_lines v_draft_kind v_draft_rounds v_draft_sides c_draft_balls c_draft_choiceWorth c_draft_placeWorth c_draft_strength c_draft_wheel (jI t) v_tape_next c_tape_bytes c_tape_meaning c_tape_start c_tape_token c_told)) (fun a => Ok ((fX9_text N v_fault v_hasRule v_hasSides v_isBehind v_place v_readGames v_spot (jI t) v_token v_toldOnes v_value v_wrong v_wrongAt c_cuts c_firsts c_goes c_holds c_kinds c_letters c_many c_readFirst c_readSecond c_reads c_seconds c_tape)) (fun b => TxQ c_firsts c_goes c_holds c_many c_seconds a b)) := by
  obtain ⟨⟨k1, k2, k3, k4, k5, k6, k7, k8⟩, e1, hr, hC⟩ := resetX (N := N) (v_kind := v_draft_kind) (v_rounds := v_draft_rounds) (v_sides := v_draft_sides) (c_balls := c_draft_balls) (c_choiceWorth := c_draft_choiceWorth) (c_placeWorth := c_draft_placeWorth) (c_strength := c_draft_strength) (c_wheel := c_draft_wheel) (by omega)
  simp only at hr hC
  subst hr
  simp (disch := omega) only [jI_0, jI_1, jI_2, jI_3, jI_4, jI_5, jI_6, jI_7, jI_8, jI_9, jI_10, jI_11, jI_12, jI_13, jI_14, jI_15, jI_16, jI_20, jI_24, jI_26, jI_30, jI_31, jI_32, jI_40, jI_48, jI_56, jI_57, jI_59, jI_60, jI_97, jI_99, jI_122, jI_160, jI_240, jI_255, jI_768, jI_1000, ↓jN_1, ↓jN_2, ↓jN_3, ↓jN_4, ↓jN_8, ↓jN_10, ↓jN_11, ↓jN_12, ↓jN_14, ↓jN_20, jI_addN, jI_le, jI_lt, jI_eq, jI_cl, jI_in, jI_add, jI_sub, jI_eqN, gI_eqI, gI_eqN, gI_leI, gI_ltI, jI_leN, jI_ltN, gI_sub, pif_tt, pif_ff, pg_tt, isB, or_true, true_or, pif_T, pif_F, pg_T, pb_Q, upd_e, upd_n, fX1_takeAll, e1, fX9_text]
  refine up_ok (fun fu j (ct : Nat → Int32) => (fX1_takeAll_29 N (jI t) c_tape_bytes fu (jI j) (jI 0) (jI 0) (jI 0) (jI 0) k1 (jI 0) k3 k4 k5 k6 k7 k8 v_tape_next c_tape_meaning c_tape_start c_tape_token ct)) _ 11 (fun j ct => ∀ i, i < j → ct i = jI 0) ?_ ?_ N 0 c_told (by omega) (by omega) (fun j hj => by omega)
  · intro fu j ct hj hq ih
    have ih2 := ih (upd ct j (jI 0)) (fun i hi => ?_)
    · show Ok ((fX1_takeAll_29 N (jI t) c_tape_bytes (fu + 1) (jI j) (jI 0) (jI 0) (jI 0) (jI 0) k1 (jI 0) k3 k4 k5 k6 k7 k8 v_tape_next c_tape_meaning c_tape_start c_tape_token ct)) _
      rw [fX1_takeAll_29]
      simp (disch := omega) only [jI_0, jI_1, jI_2, jI_3, jI_4, jI_5, jI_6, jI_7, jI_8, jI_9, jI_10, jI_11, jI_12, jI_13, jI_14, jI_15, jI_16, jI_20, jI_24, jI_26, jI_30, jI_31, jI_32, jI_40, jI_48, jI_56, jI_57, jI_59, jI_60, jI_97, jI_99, jI_122, jI_160, jI_240, jI_255, jI_768, jI_1000, ↓jN_1, ↓jN_2, ↓jN_3, ↓jN_4, ↓jN_8, ↓jN_10, ↓jN_11, ↓jN_12, ↓jN_14, ↓jN_20, jI_addN, jI_le, jI_lt, jI_eq, jI_cl, jI_in, jI_add, jI_sub, jI_eqN, gI_eqI, gI_eqN, gI_leI, gI_ltI, jI_leN, jI_ltN, gI_sub, pif_tt, pif_ff, pg_tt, isB, or_true, true_or, pif_T, pif_F, pg_T, pb_Q, upd_e, upd_n, ]
      exact ih2
    · by_cases hc : i = j
      · rw [upd_e hc]
      · rw [upd_n hc]; exact hq i (by omega)
  · intro fu ct hq
    show Ok ((fX1_takeAll_29 N (jI t) c_tape_bytes (fu + 1) (jI 11) (jI 0) (jI 0) (jI 0) (jI 0) k1 (jI 0) k3 k4 k5 k6 k7 k8 v_tape_next c_tape_meaning c_tape_start c_tape_token ct)) _
    rw [fX1_takeAll_29]
    obtain ⟨⟨s1, s2, s3, s4⟩, e2, T, hT⟩ := splitX (N := N) (t := t) (tp := tp) (c_bytes := c_tape_bytes) (v_next := v_tape_next) (c_meaning := c_tape_meaning) (c_start := c_tape_start) (c_token := c_tape_token) hN ht h256 hbx
    simp only at hT
    have hTt := hT.1
    simp (disch := omega) only [jI_0, jI_1, jI_2, jI_3, jI_4, jI_5, jI_6, jI_7, jI_8, jI_9, jI_10, jI_11, jI_12, jI_13, jI_14, jI_15, jI_16, jI_20, jI_24, jI_26, jI_30, jI_31, jI_32, jI_40, jI_48, jI_56, jI_57, jI_59, jI_60, jI_97, jI_99, jI_122, jI_160, jI_240, jI_255, jI_768, jI_1000, ↓jN_1, ↓jN_2, ↓jN_3, ↓jN_4, ↓jN_8, ↓jN_10, ↓jN_11, ↓jN_12, ↓jN_14, ↓jN_20, jI_addN, jI_le, jI_lt, jI_eq, jI_cl, jI_in, jI_add, jI_sub, jI_eqN, gI_eqI, gI_eqN, gI_leI, gI_ltI, jI_leN, jI_ltN, gI_sub, pif_tt, pif_ff, pg_tt, isB, or_true, true_or, pif_T, pif_F, pg_T, pb_Q, upd_e, upd_n, e2]
    have C : ∀ (vpl vsp vto vva vwr vwa : Int32) (crd : Nat → Int32), Rm dfH crd → At t tp 0 vpl vsp vto vva vwr vwa → Ok ((fX1_takeAll_55 N (jI t) c_tape_bytes N (jI 0) (jI 0) (jI 0) (jI 0) k1 (jI 0) k3 k4 k5 k6 k7 k8 s1 s2 s3 s4 ct)) (fun a => Ok ((fX9_text_108 N c_cuts c_kinds c_letters c_tape N (jI 0) v_fault (jI 0) (jI 0) (jI 0) vpl (jI 0) vsp (jI t) vto (jI 0) vva vwr vwa c_firsts c_goes c_holds c_many c_readFirst c_readSecond crd c_seconds)) (fun b => TxQ c_firsts c_goes c_holds c_many c_seconds a b)) := by
      intro vpl vsp vto vva vwr vwa crd hrd hat
      exact loopX (N := N) (t := t) (T := T) (tp := tp) hN hT ht h256 hb hcu hkd T 0 0 N N dfH (fun _ => 0) 0 0 0 (jI 0) k1 (jI 0) k3 k4 k5 k6 k7 k8 ct (jI 0) (jI 0) (jI 0) vpl (jI 0) vsp vto (jI 0) vva vwr vwa c_readFirst c_readSecond crd (by omega) (by omega) (by omega) (by omega) (by omega) Ld_df ⟨hC, rfl, hq⟩ ⟨rfl, rfl, rfl, by rw [Nat.zero_mul], rfl, fun g hg => by rw [Nat.zero_mul] at hg; omega, hrd⟩ hat
    obtain ⟨⟨n1, n2, n3, n4, n5, n6⟩, en, y1, y2⟩ := nxM (N := N) (t := t) (tp := tp) (k := 0) (v_place := v_place) (v_token := v_token) (v_value := v_value) (v_wrongAt := v_wrongAt) hN ht h256 hb hcu
    simp only at y2
    have hat : At t tp 0 n1 n2 n3 n4 n5 n6 := ⟨fun h => by
      have h2 := y1 h
      simp only [Prod.mk.injEq] at h2
      exact ⟨h2.1, h2.2.1, h2.2.2.1, h2.2.2.2.1, h2.2.2.2.2.1⟩, y2⟩
    obtain ⟨a, ea, _⟩ := C n1 n2 n3 n4 n5 n6 (fun k => jI (dfH k)) (fun _ _ => rfl) hat
    refine ⟨a, ea, ?_⟩
    have hps : ps t tp 0 = 0 := rfl
    rw [hps] at en
    refine up_ok (fun fu j (cr : Nat → Int32) => (fX9_text_39 N c_cuts c_kinds c_letters c_tape fu (jI 0) (jI j) v_fault (jI 0) (jI 0) (jI 0) v_place (jI 0) (jI 0) (jI t) v_token (jI 0) v_value (jI 0) v_wrongAt c_firsts c_goes c_holds c_many c_readFirst c_readSecond cr c_seconds)) _ 32 (fun j cr => ∀ i, i < j → cr i = jI (dfH i)) ?_ ?_ N 0 c_reads (by omega) (by omega) (fun j hj => by omega)
    · intro fu2 j cr hj hq2 ih
      have ih2 : ∀ v, v = jI (dfH j) → _ := fun v hv => ih (upd cr j v) (fun i hi => by
        by_cases hc : i = j
        · rw [upd_e hc, hv, hc]
        · rw [upd_n hc]; exact hq2 i (by omega))
      show Ok ((fX9_text_39 N c_cuts c_kinds c_letters c_tape (fu2 + 1) (jI 0) (jI j) v_fault (jI 0) (jI 0) (jI 0) v_place (jI 0) (jI 0) (jI t) v_token (jI 0) v_value (jI 0) v_wrongAt c_firsts c_goes c_holds c_many c_readFirst c_readSecond cr c_seconds)) _
      rw [fX9_text_39]
      by_cases c2 : j < 2
      · have h01 : j = 0 ∨ j = 1 := by omega
        rcases h01 with rfl | rfl
        · simp (disch := omega) only [jI_0, jI_1, jI_2, jI_3, jI_4, jI_5, jI_6, jI_7, jI_8, jI_9, jI_10, jI_11, jI_12, jI_13, jI_14, jI_15, jI_16, jI_20, jI_24, jI_26, jI_30, jI_31, jI_32, jI_40, jI_48, jI_56, jI_57, jI_59, jI_60, jI_97, jI_99, jI_122, jI_160, jI_240, jI_255, jI_768, jI_1000, ↓jN_1, ↓jN_2, ↓jN_3, ↓jN_4, ↓jN_8, ↓jN_10, ↓jN_11, ↓jN_12, ↓jN_14, ↓jN_20, jI_addN, jI_le, jI_lt, jI_eq, jI_cl, jI_in, jI_add, jI_sub, jI_eqN, gI_eqI, gI_eqN, gI_leI, gI_ltI, jI_leN, jI_ltN, gI_sub, pif_tt, pif_ff, pg_tt, isB, or_true, true_or, pif_T, pif_F, pg_T, pb_Q, upd_e, upd_n, fX9_text_97]
          exact ih2 _ rfl
        · simp (disch := omega) only [jI_0, jI_1, jI_2, jI_3, jI_4, jI_5, jI_6, jI_7, jI_8, jI_9, jI_10, jI_11, jI_12, jI_13, jI_14, jI_15, jI_16, jI_20, jI_24, jI_26, jI_30, jI_31, jI_32, jI_40, jI_48, jI_56, jI_57, jI_59, jI_60, jI_97, jI_99, jI_122, jI_160, jI_240, jI_255, jI_768, jI_1000, ↓jN_1, ↓jN_2, ↓jN_3, ↓jN_4, ↓jN_8, ↓jN_10, ↓jN_11, ↓jN_12, ↓jN_14, ↓jN_20, jI_addN, jI_le, jI_lt, jI_eq, jI_cl, jI_in, jI_add, jI_sub, jI_eqN, gI_eqI, gI_eqN, gI_leI, gI_ltI, jI_leN, jI_ltN, gI_sub, pif_tt, pif_ff, pg_tt, isB, or_true, true_or, pif_T, pif_F, pg_T, pb_Q, upd_e, upd_n, fX9_text_97]
          exact ih2 _ rfl
      · by_cases c8 : j < 8
        · have := ih2 (jI 5) (by unfold dfH; rw [if_neg (by omega), if_neg (by omega), if_pos c8])
          simp (disch := omega) only [jI_0, jI_1, jI_2, jI_3, jI_4, jI_5, jI_6, jI_7, jI_8, jI_9, jI_10, jI_11, jI_12, jI_13, jI_14, jI_15, jI_16, jI_20, jI_24, jI_26, jI_30, jI_31, jI_32, jI_40, jI_48, jI_56, jI_57, jI_59, jI_60, jI_97, jI_99, jI_122, jI_160, jI_240, jI_255, jI_768, jI_1000, ↓jN_1, ↓jN_2, ↓jN_3, ↓jN_4, ↓jN_8, ↓jN_10, ↓jN_11, ↓jN_12, ↓jN_14, ↓jN_20, jI_addN, jI_le, jI_lt, jI_eq, jI_cl, jI_in, jI_add, jI_sub, jI_eqN, gI_eqI, gI_eqN, gI_leI, gI_ltI, jI_leN, jI_ltN, gI_sub, pif_tt, pif_ff, pg_tt, isB, or_true, true_or, pif_T, pif_F, pg_T, pb_Q, upd_e, upd_n, fX9_text_97]
          exact this
        · by_cases c20 : j < 20
          · have := ih2 (jI 0) (by unfold dfH; rw [if_neg (by omega), if_neg (by omega), if_neg (by omega), if_pos c20])
            simp (disch := omega) only [jI_0, jI_1, jI_2, jI_3, jI_4, jI_5, jI_6, jI_7, jI_8, jI_9, jI_10, jI_11, jI_12, jI_13, jI_14, jI_15, jI_16, jI_20, jI_24, jI_26, jI_30, jI_31, jI_32, jI_40, jI_48, jI_56, jI_57, jI_59, jI_60, jI_97, jI_99, jI_122, jI_160, jI_240, jI_255, jI_768, jI_1000, ↓jN_1, ↓jN_2, ↓jN_3, ↓jN_4, ↓jN_8, ↓jN_10, ↓jN_11, ↓jN_12, ↓jN_14, ↓jN_20, jI_addN, jI_le, jI_lt, jI_eq, jI_cl, jI_in, jI_add, jI_sub, jI_eqN, gI_eqI, gI_eqN, gI_leI, gI_ltI, jI_leN, jI_ltN, gI_sub, pif_tt, pif_ff, pg_tt, isB, or_true, true_or, pif_T, pif_F, pg_T, pb_Q, upd_e, upd_n, fX9_text_97]
            exact this
          · by_cases c26 : j < 26
            · have := ih2 (jI 1) (by unfold dfH; rw [if_neg (by omega), if_neg (by omega), if_neg (by omega), if_neg (by omega), if_pos c26])
              simp (disch := omega) only [jI_0, jI_1, jI_2, jI_3, jI_4, jI_5, jI_6, jI_7, jI_8, jI_9, jI_10, jI_11, jI_12, jI_13, jI_14, jI_15, jI_16, jI_20, jI_24, jI_26, jI_30, jI_31, jI_32, jI_40, jI_48, jI_56, jI_57, jI_59, jI_60, jI_97, jI_99, jI_122, jI_160, jI_240, jI_255, jI_768, jI_1000, ↓jN_1, ↓jN_2, ↓jN_3, ↓jN_4, ↓jN_8, ↓jN_10, ↓jN_11, ↓jN_12, ↓jN_14, ↓jN_20, jI_addN, jI_le, jI_lt, jI_eq, jI_cl, jI_in, jI_add, jI_sub, jI_eqN, gI_eqI, gI_eqN, gI_leI, gI_ltI, jI_leN, jI_ltN, gI_sub, pif_tt, pif_ff, pg_tt, isB, or_true, true_or, pif_T, pif_F, pg_T, pb_Q, upd_e, upd_n, fX9_text_97]
              exact this
            · have := ih2 (jI (j - 26)) (by unfold dfH; rw [if_neg (by omega), if_neg (by omega), if_neg (by omega), if_neg (by omega), if_neg (by omega)])
              simp (disch := omega) only [jI_0, jI_1, jI_2, jI_3, jI_4, jI_5, jI_6, jI_7, jI_8, jI_9, jI_10, jI_11, jI_12, jI_13, jI_14, jI_15, jI_16, jI_20, jI_24, jI_26, jI_30, jI_31, jI_32, jI_40, jI_48, jI_56, jI_57, jI_59, jI_60, jI_97, jI_99, jI_122, jI_160, jI_240, jI_255, jI_768, jI_1000, ↓jN_1, ↓jN_2, ↓jN_3, ↓jN_4, ↓jN_8, ↓jN_10, ↓jN_11, ↓jN_12, ↓jN_14, ↓jN_20, jI_addN, jI_le, jI_lt, jI_eq, jI_cl, jI_in, jI_add, jI_sub, jI_eqN, gI_eqI, gI_eqN, gI_leI, gI_ltI, jI_leN, jI_ltN, gI_sub, pif_tt, pif_ff, pg_tt, isB, or_true, true_or, pif_T, pif_F, pg_T, pb_Q, upd_e, upd_n, fX9_text_97]
              exact this
    · intro fu2 cr hq2
      show Ok ((fX9_text_39 N c_cuts c_kinds c_letters c_tape (fu2 + 1) (jI 0) (jI 32) v_fault (jI 0) (jI 0) (jI 0) v_place (jI 0) (jI 0) (jI t) v_token (jI 0) v_value (jI 0) v_wrongAt c_firsts c_goes c_holds c_many c_readFirst c_readSecond cr c_seconds)) _
      rw [fX9_text_39]
      simp (disch := omega) only [jI_0, jI_1, jI_2, jI_3, jI_4, jI_5, jI_6, jI_7, jI_8, jI_9, jI_10, jI_11, jI_12, jI_13, jI_14, jI_15, jI_16, jI_20, jI_24, jI_26, jI_30, jI_31, jI_32, jI_40, jI_48, jI_56, jI_57, jI_59, jI_60, jI_97, jI_99, jI_122, jI_160, jI_240, jI_255, jI_768, jI_1000, ↓jN_1, ↓jN_2, ↓jN_3, ↓jN_4, ↓jN_8, ↓jN_10, ↓jN_11, ↓jN_12, ↓jN_14, ↓jN_20, jI_addN, jI_le, jI_lt, jI_eq, jI_cl, jI_in, jI_add, jI_sub, jI_eqN, gI_eqI, gI_eqN, gI_leI, gI_ltI, jI_leN, jI_ltN, gI_sub, pif_tt, pif_ff, pg_tt, isB, or_true, true_or, pif_T, pif_F, pg_T, pb_Q, upd_e, upd_n, en]
      obtain ⟨a', ea', hx⟩ := C n1 n2 n3 n4 n5 n6 cr (fun k hk => hq2 k hk) hat
      have : a' = a := Option.some.inj (ea'.symm.trans ea)
      rw [this] at hx
      exact hx
end
