/-! TOKENS: the reference's next. -/
def cutN (n : Nat) : Nat := ([0, 5, 13, 18, 24, 29, 34, 39, 43, 48, 51, 56] : List Nat).getD n 0
def letN (i : Nat) : Nat := ([115, 105, 100, 101, 115, 115, 116, 114, 101, 110, 103, 116, 104, 112, 108, 97, 99, 101, 99, 104, 111, 105, 99, 101, 98, 97, 108, 108, 115, 119, 104, 101, 101, 108, 114, 111, 117, 110, 100, 114, 117, 108, 101, 119, 111, 114, 115, 116, 100, 97, 121, 97, 108, 105, 107, 101] : List Nat).getD i 0
/-- the reference's number of a name, by the class's; and back -/
def rwN (w : Nat) : Nat := ([0, 1, 2, 3, 7, 4, 5, 6, 8, 9, 10] : List Nat).getD w 0
def wrN (n : Nat) : Nat := ([0, 1, 2, 3, 5, 6, 7, 4, 8, 9, 10] : List Nat).getD n 0
theorem rw_all : ∀ n, n < 11 → wrN n < 11 ∧ rwN (wrN n) = n ∧ rwN n < 11 ∧ wrN (rwN n) = n ∧ cutN (n + 1) - cutN n = lnN (wrN n) ∧ cutN n ≤ cutN (n + 1) ∧ cutN n + lnN (wrN n) ≤ 56 ∧ (∀ i, i < 8 → i < lnN (wrN n) → letN (cutN n + i) = chN2 (wrN n) i) := by decide +kernel
theorem cut_le : ∀ n, n < 12 → cutN n ≤ 56 := by decide
def Cu (cc cl : Nat → Int32) : Prop := (∀ n, n < 12 → cc n = jI (cutN n)) ∧ ∀ i, i < 56 → cl i = jI (letN i)
section
variable {v_place : Int32} {v_spot : Int32} {v_taped : Int32} {v_token : Int32} {v_value : Int32} {v_wrong : Int32} {v_wrongAt : Int32} {c_cuts : Nat → Int32} {c_letters : Nat → Int32} {c_tape : Nat → Int32}
variable {N t : Nat} {tp : Nat → Nat}
theorem byteM {p : Nat} (ht : t ≤ 240) (hp : p ≤ 1000) (hb : ∀ k, k < t → c_tape k = jI (tp k)) : fX9_byteAt N (jI t) c_tape (jI p) = some (if p < t then jI (tp p) else gI 4) := by
  by_cases h : p < t
  · have := hb p h
    rw [if_pos h]
    simp (disch := omega) only [jI_0, jI_1, jI_2, jI_3, jI_4, jI_5, jI_6, jI_7, jI_8, jI_9, jI_10, jI_11, jI_12, jI_13, jI_14, jI_15, jI_16, jI_20, jI_24, jI_26, jI_30, jI_31, jI_32, jI_40, jI_48, jI_56, jI_57, jI_59, jI_60, jI_97, jI_99, jI_122, jI_160, jI_240, jI_255, jI_768, jI_1000, ↓jN_1, ↓jN_2, ↓jN_3, ↓jN_4, ↓jN_8, ↓jN_10, ↓jN_11, ↓jN_12, ↓jN_14, ↓jN_20, jI_addN, jI_le, jI_lt, jI_eq, jI_cl, jI_in, jI_add, jI_sub, jI_eqN, gI_eqI, gI_eqN, gI_leI, gI_ltI, jI_leN, jI_ltN, gI_sub, pif_tt, pif_ff, pg_tt, isB, or_true, true_or, pif_T, pif_F, pg_T, pb_S, upd_e, upd_n, fX9_byteAt, fX9_byteAt_19, this]
  · rw [if_neg h]
    simp (disch := omega) only [jI_0, jI_1, jI_2, jI_3, jI_4, jI_5, jI_6, jI_7, jI_8, jI_9, jI_10, jI_11, jI_12, jI_13, jI_14, jI_15, jI_16, jI_20, jI_24, jI_26, jI_30, jI_31, jI_32, jI_40, jI_48, jI_56, jI_57, jI_59, jI_60, jI_97, jI_99, jI_122, jI_160, jI_240, jI_255, jI_768, jI_1000, ↓jN_1, ↓jN_2, ↓jN_3, ↓jN_4, ↓jN_8, ↓jN_10, ↓jN_11, ↓jN_12, ↓jN_14, ↓jN_20, jI_addN, jI_le, jI_lt, jI_eq, jI_cl, jI_in, jI_add, jI_sub, jI_eqN, gI_eqI, gI_eqN, gI_leI, gI_ltI, jI_leN, jI_ltN, gI_sub, pif_tt, pif_ff, pg_tt, isB, or_true, true_or, pif_T, pif_F, pg_T, pb_S, upd_e, upd_n, fX9_byteAt, fX9_byteAt_19]
theorem nameT0 {x1 x2 x3 : Int32} {F : Int32 → Option Int32} (hN : 1000 ≤ N) : fX9_nameAt_39 N (jI t) c_cuts c_letters c_tape x1 x2 F N x3 (jI 0) (jI 0) = F (x3 + 1) := by
  obtain ⟨N1, rfl⟩ : ∃ q, N = q + 1 := ⟨N - 1, by omega⟩
  simp (disch := omega) only [jI_0, jI_1, jI_2, jI_3, jI_4, jI_5, jI_6, jI_7, jI_8, jI_9, jI_10, jI_11, jI_12, jI_13, jI_14, jI_15, jI_16, jI_20, jI_24, jI_26, jI_30, jI_31, jI_32, jI_40, jI_48, jI_56, jI_57, jI_59, jI_60, jI_97, jI_99, jI_122, jI_160, jI_240, jI_255, jI_768, jI_1000, ↓jN_1, ↓jN_2, ↓jN_3, ↓jN_4, ↓jN_8, ↓jN_10, ↓jN_11, ↓jN_12, ↓jN_14, ↓jN_20, jI_addN, jI_le, jI_lt, jI_eq, jI_cl, jI_in, jI_add, jI_sub, jI_eqN, gI_eqI, gI_eqN, gI_leI, gI_ltI, jI_leN, jI_ltN, gI_sub, pif_tt, pif_ff, pg_tt, isB, or_true, true_or, pif_T, pif_F, pg_T, pb_S, upd_e, upd_n, fX9_nameAt_39, fX9_nameAt_90]
theorem nameT1 {a e n w cu : Nat} {F : Int32 → Option Int32} {Q : Int32 → Prop} (hN : 1000 ≤ N) (ht : t ≤ 240) (hn : n < 11) (hae : a ≤ e) (he : e ≤ t) (h256 : ∀ k, k < 240 → tp k < 256) (hb : ∀ k, k < t → c_tape k = jI (tp k)) (hl : e - a = lnN w) (hw8 : lnN w ≤ 8) (hcu : c_cuts n = jI cu) (hcu2 : cu + lnN w ≤ 56) (hlet : ∀ i, i < lnN w → c_letters (cu + i) = jI (chN2 w i)) (hch : ∀ i, i < lnN w → chN2 w i ≤ 122) (hF : wm tp a e w = false → Ok (F (jI (n + 1))) Q) (hT : wm tp a e w = true → Q (jI n)) : Ok (fX9_nameAt_39 N (jI t) c_cuts c_letters c_tape (jI a) (jI e) F N (jI n) (jI 1) (jI 0)) Q := by
  refine up_ok (fun fu2 i b => fX9_nameAt_39 N (jI t) c_cuts c_letters c_tape (jI a) (jI e) F fu2 (jI n) (jI b) (jI i)) _ (e - a) (fun i b => b < 2 ∧ (b = 1 → cnt i (fun i => !decide (tp (a + i) = chN2 w i)) = 0) ∧ (b = 0 → wm tp a e w = false)) ?_ ?_ N 0 1 (by omega) (by omega) ⟨by omega, fun _ => rfl, fun h => by omega⟩
  · intro fu2 i b hi ⟨hb2, hb1, hb0⟩ ih2
    by_cases hbz : b = 0
    · subst hbz
      simp (disch := omega) only [jI_0, jI_1, jI_2, jI_3, jI_4, jI_5, jI_6, jI_7, jI_8, jI_9, jI_10, jI_11, jI_12, jI_13, jI_14, jI_15, jI_16, jI_20, jI_24, jI_26, jI_30, jI_31, jI_32, jI_40, jI_48, jI_56, jI_57, jI_59, jI_60, jI_97, jI_99, jI_122, jI_160, jI_240, jI_255, jI_768, jI_1000, ↓jN_1, ↓jN_2, ↓jN_3, ↓jN_4, ↓jN_8, ↓jN_10, ↓jN_11, ↓jN_12, ↓jN_14, ↓jN_20, jI_addN, jI_le, jI_lt, jI_eq, jI_cl, jI_in, jI_add, jI_sub, jI_eqN, gI_eqI, gI_eqN, gI_leI, gI_ltI, jI_leN, jI_ltN, gI_sub, pif_tt, pif_ff, pg_tt, isB, or_true, true_or, pif_T, pif_F, pg_T, pb_S, upd_e, upd_n, fX9_nameAt_39, fX9_nameAt_90]
      exact hF (hb0 rfl)
    · obtain rfl : b = 1 := by omega
      have hz := hb1 rfl
      have hs : cnt (i + 1) (fun i => !decide (tp (a + i) = chN2 w i)) = cnt i (fun i => !decide (tp (a + i) = chN2 w i)) + (if (!decide (tp (a + i) = chN2 w i)) = true then 1 else 0) := rfl
      have by1 := byteM (N := N) (p := a + i) ht (by omega) hb
      rw [if_pos (by omega)] at by1
      have l1 := hlet i (by omega)
      have h25 := h256 (a + i) (by omega)
      have h122 := hch i (by omega)
      have hnot : ¬ tp (a + i) = chN2 w i → wm tp a e w = false := fun hcc => by
        cases hwm : wm tp a e w
        · rfl
        · exact absurd ((wm_ch hwm).2 i (by omega)) hcc
      generalize chN2 w i = cw at *
      generalize tp (a + i) = tv at *
      by_cases hcc : tv = cw
      · simp (disch := omega) only [jI_0, jI_1, jI_2, jI_3, jI_4, jI_5, jI_6, jI_7, jI_8, jI_9, jI_10, jI_11, jI_12, jI_13, jI_14, jI_15, jI_16, jI_20, jI_24, jI_26, jI_30, jI_31, jI_32, jI_40, jI_48, jI_56, jI_57, jI_59, jI_60, jI_97, jI_99, jI_122, jI_160, jI_240, jI_255, jI_768, jI_1000, ↓jN_1, ↓jN_2, ↓jN_3, ↓jN_4, ↓jN_8, ↓jN_10, ↓jN_11, ↓jN_12, ↓jN_14, ↓jN_20, jI_addN, jI_le, jI_lt, jI_eq, jI_cl, jI_in, jI_add, jI_sub, jI_eqN, gI_eqI, gI_eqN, gI_leI, gI_ltI, jI_leN, jI_ltN, gI_sub, pif_tt, pif_ff, pg_tt, isB, or_true, true_or, pif_T, pif_F, pg_T, pb_S, upd_e, upd_n, fX9_nameAt_39, fX9_nameAt_82, by1, hcu, l1]
        exact ih2 1 ⟨by omega, fun _ => by rw [hs, hz, if_neg (by simp [hcc])], fun h => by omega⟩
      · simp (disch := omega) only [jI_0, jI_1, jI_2, jI_3, jI_4, jI_5, jI_6, jI_7, jI_8, jI_9, jI_10, jI_11, jI_12, jI_13, jI_14, jI_15, jI_16, jI_20, jI_24, jI_26, jI_30, jI_31, jI_32, jI_40, jI_48, jI_56, jI_57, jI_59, jI_60, jI_97, jI_99, jI_122, jI_160, jI_240, jI_255, jI_768, jI_1000, ↓jN_1, ↓jN_2, ↓jN_3, ↓jN_4, ↓jN_8, ↓jN_10, ↓jN_11, ↓jN_12, ↓jN_14, ↓jN_20, jI_addN, jI_le, jI_lt, jI_eq, jI_cl, jI_in, jI_add, jI_sub, jI_eqN, gI_eqI, gI_eqN, gI_leI, gI_ltI, jI_leN, jI_ltN, gI_sub, pif_tt, pif_ff, pg_tt, isB, or_true, true_or, pif_T, pif_F, pg_T, pb_S, upd_e, upd_n, fX9_nameAt_39, fX9_nameAt_82, by1, hcu, l1]
        exact ih2 0 ⟨by omega, fun h => by omega, fun _ => hnot hcc⟩
  · intro fu2 b ⟨hb2, hb1, hb0⟩
    by_cases hbz : b = 0
    · subst hbz
      simp (disch := omega) only [jI_0, jI_1, jI_2, jI_3, jI_4, jI_5, jI_6, jI_7, jI_8, jI_9, jI_10, jI_11, jI_12, jI_13, jI_14, jI_15, jI_16, jI_20, jI_24, jI_26, jI_30, jI_31, jI_32, jI_40, jI_48, jI_56, jI_57, jI_59, jI_60, jI_97, jI_99, jI_122, jI_160, jI_240, jI_255, jI_768, jI_1000, ↓jN_1, ↓jN_2, ↓jN_3, ↓jN_4, ↓jN_8, ↓jN_10, ↓jN_11, ↓jN_12, ↓jN_14, ↓jN_20, jI_addN, jI_le, jI_lt, jI_eq, jI_cl, jI_in, jI_add, jI_sub, jI_eqN, gI_eqI, gI_eqN, gI_leI, gI_ltI, jI_leN, jI_ltN, gI_sub, pif_tt, pif_ff, pg_tt, isB, or_true, true_or, pif_T, pif_F, pg_T, pb_S, upd_e, upd_n, fX9_nameAt_39, fX9_nameAt_90]
      exact hF (hb0 rfl)
    · obtain rfl : b = 1 := by omega
      have hz := hb1 rfl
      have hwm : wm tp a e w = true := by
        simp only [wm, decide_eq_true_eq]
        exact ⟨hl, by rw [← hl]; exact hz⟩
      simp (disch := omega) only [jI_0, jI_1, jI_2, jI_3, jI_4, jI_5, jI_6, jI_7, jI_8, jI_9, jI_10, jI_11, jI_12, jI_13, jI_14, jI_15, jI_16, jI_20, jI_24, jI_26, jI_30, jI_31, jI_32, jI_40, jI_48, jI_56, jI_57, jI_59, jI_60, jI_97, jI_99, jI_122, jI_160, jI_240, jI_255, jI_768, jI_1000, ↓jN_1, ↓jN_2, ↓jN_3, ↓jN_4, ↓jN_8, ↓jN_10, ↓jN_11, ↓jN_12, ↓jN_14, ↓jN_20, jI_addN, jI_le, jI_lt, jI_eq, jI_cl, jI_in, jI_add, jI_sub, jI_eqN, gI_eqI, gI_eqN, gI_leI, gI_ltI, jI_leN, jI_ltN, gI_sub, pif_tt, pif_ff, pg_tt, isB, or_true, true_or, pif_T, pif_F, pg_T, pb_S, upd_e, upd_n, fX9_nameAt_39, fX9_nameAt_90]
      exact Ok.s (hT hwm)
theorem nameM {a e : Nat} (hN : 1000 ≤ N) (ht : t ≤ 240) (hae : a ≤ e) (he : e ≤ t) (h256 : ∀ k, k < 240 → tp k < 256) (hb : ∀ k, k < t → c_tape k = jI (tp k)) (hc : Cu c_cuts c_letters) : fX9_nameAt N (jI t) c_cuts c_letters c_tape (jI a) (jI e) = some (if wd tp a e < 11 then jI (rwN (wd tp a e)) else gI 4) := by
  have key : Ok (fX9_nameAt_2 N (jI t) c_cuts c_letters c_tape (jI a) (jI e) N (jI 0)) (fun q => q = if wd tp a e < 11 then jI (rwN (wd tp a e)) else gI 4) := by
    refine up_ok (fun fu n (_ : Unit) => fX9_nameAt_2 N (jI t) c_cuts c_letters c_tape (jI a) (jI e) fu (jI n)) _ 11 (fun n _ => ∀ j, j < n → wm tp a e (wrN j) = false) ?_ ?_ N 0 () (by omega) (by omega) (fun j h => by omega)
    · intro fu n _ hn hp ih
      obtain ⟨r1, r2, r3, r4, r5, r6, r7, r8⟩ := rw_all n hn
      obtain ⟨w1, w2, w3, w4, w5⟩ := w_all (wrN n) r1
      have c1 := hc.1 n (by omega)
      have c2 := hc.1 (n + 1) (by omega)
      have cl1 := cut_le n (by omega)
      have cl2 := cut_le (n + 1) (by omega)
      have keep : wm tp a e (wrN n) = false → ∀ j, j < n + 1 → wm tp a e (wrN j) = false := fun h j hj => by
        by_cases hjn : j = n
        · rw [hjn]; exact h
        · exact hp j (by omega)
      have hlet : ∀ i, i < lnN (wrN n) → c_letters (cutN n + i) = jI (chN2 (wrN n) i) := fun i hi => by
        rw [← r8 i (by omega) hi]; exact hc.2 _ (by omega)
      have hch : ∀ i, i < lnN (wrN n) → chN2 (wrN n) i ≤ 122 := fun i hi => (w5 i (by omega) hi).2.2
      have hhit : wm tp a e (wrN n) = true → jI n = if wd tp a e < 11 then jI (rwN (wd tp a e)) else gI 4 := fun hwm => by
        have hwd : wd tp a e = wrN n := by
          unfold wd
          refine fstN_eq r1 hwm (fun j hj => ?_)
          cases hwj : wm tp a e j
          · rfl
          · have := wm_uni (by omega) r1 hwj hwm
            omega
        rw [hwd, if_pos r1, r2]
      have hfl : ¬ e - a = lnN (wrN n) → wm tp a e (wrN n) = false := fun hl => by
        cases hwm : wm tp a e (wrN n)
        · rfl
        · exact absurd (wm_ch hwm).1 hl
      generalize wrN n = w at *
      generalize cutN n = cu at *
      generalize cutN (n + 1) = cu2 at *
      by_cases hl : e - a = lnN w
      · have tail := nameT1 (N := N) (t := t) (tp := tp) (c_cuts := c_cuts) (c_letters := c_letters) (c_tape := c_tape) (F := fX9_nameAt_2 N (jI t) c_cuts c_letters c_tape (jI a) (jI e) fu) (Q := fun q => q = if wd tp a e < 11 then jI (rwN (wd tp a e)) else gI 4) hN ht hn hae he h256 hb hl w4 c1 r7 hlet hch (fun h => ih () (keep h)) hhit
        simp (disch := omega) only [jI_0, jI_1, jI_2, jI_3, jI_4, jI_5, jI_6, jI_7, jI_8, jI_9, jI_10, jI_11, jI_12, jI_13, jI_14, jI_15, jI_16, jI_20, jI_24, jI_26, jI_30, jI_31, jI_32, jI_40, jI_48, jI_56, jI_57, jI_59, jI_60, jI_97, jI_99, jI_122, jI_160, jI_240, jI_255, jI_768, jI_1000, ↓jN_1, ↓jN_2, ↓jN_3, ↓jN_4, ↓jN_8, ↓jN_10, ↓jN_11, ↓jN_12, ↓jN_14, ↓jN_20, jI_addN, jI_le, jI_lt, jI_eq, jI_cl, jI_in, jI_add, jI_sub, jI_eqN, gI_eqI, gI_eqN, gI_leI, gI_ltI, jI_leN, jI_ltN, gI_sub, pif_tt, pif_ff, pg_tt, isB, or_true, true_or, pif_T, pif_F, pg_T, pb_S, upd_e, upd_n, fX9_nameAt_2, fX9_nameAt_34, c1, c2]
        exact tail
      · have tail := nameT0 (N := N) (t := t) (c_cuts := c_cuts) (c_letters := c_letters) (c_tape := c_tape) (x1 := jI a) (x2 := jI e) (x3 := jI n) (F := fX9_nameAt_2 N (jI t) c_cuts c_letters c_tape (jI a) (jI e) fu) hN
        have nx := ih () (keep (hfl hl))
        simp (disch := omega) only [jI_0, jI_1, jI_2, jI_3, jI_4, jI_5, jI_6, jI_7, jI_8, jI_9, jI_10, jI_11, jI_12, jI_13, jI_14, jI_15, jI_16, jI_20, jI_24, jI_26, jI_30, jI_31, jI_32, jI_40, jI_48, jI_56, jI_57, jI_59, jI_60, jI_97, jI_99, jI_122, jI_160, jI_240, jI_255, jI_768, jI_1000, ↓jN_1, ↓jN_2, ↓jN_3, ↓jN_4, ↓jN_8, ↓jN_10, ↓jN_11, ↓jN_12, ↓jN_14, ↓jN_20, jI_addN, jI_le, jI_lt, jI_eq, jI_cl, jI_in, jI_add, jI_sub, jI_eqN, gI_eqI, gI_eqN, gI_leI, gI_ltI, jI_leN, jI_ltN, gI_sub, pif_tt, pif_ff, pg_tt, isB, or_true, true_or, pif_T, pif_F, pg_T, pb_S, upd_e, upd_n, fX9_nameAt_2, fX9_nameAt_34, c1, c2]
        rw [tail, jI_1, jI_add]
        exact nx
    · intro fu _ hp
      have hwd : wd tp a e = 11 := by
        unfold wd
        refine fstN_none (fun j hj => ?_)
        have := hp (rwN j) ((rw_all j hj).2.2.1)
        rwa [(rw_all j hj).2.2.2.1] at this
      rw [hwd, if_neg (by omega)]
      simp (disch := omega) only [jI_0, jI_1, jI_2, jI_3, jI_4, jI_5, jI_6, jI_7, jI_8, jI_9, jI_10, jI_11, jI_12, jI_13, jI_14, jI_15, jI_16, jI_20, jI_24, jI_26, jI_30, jI_31, jI_32, jI_40, jI_48, jI_56, jI_57, jI_59, jI_60, jI_97, jI_99, jI_122, jI_160, jI_240, jI_255, jI_768, jI_1000, ↓jN_1, ↓jN_2, ↓jN_3, ↓jN_4, ↓jN_8, ↓jN_10, ↓jN_11, ↓jN_12, ↓jN_14, ↓jN_20, jI_addN, jI_le, jI_lt, jI_eq, jI_cl, jI_in, jI_add, jI_sub, jI_eqN, gI_eqI, gI_eqN, gI_leI, gI_ltI, jI_leN, jI_ltN, gI_sub, pif_tt, pif_ff, pg_tt, isB, or_true, true_or, pif_T, pif_F, pg_T, pb_S, upd_e, upd_n, fX9_nameAt_2]
      exact Ok.s rfl
  obtain ⟨q, e1, hq⟩ := key
  rw [← hq]
  exact e1
end
