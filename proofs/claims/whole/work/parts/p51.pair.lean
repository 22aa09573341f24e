/-! TEXT: pairs. -/
def loN (i : Nat) : Nat := if i = 0 then 1 else 0
def hiN (n i : Nat) : Nat := if i = 0 then 9 else if i = 3 then 20 else if i = 4 then n - 1 else 99
/-- what is wrong with a pair of field i behind token k, and at which token -/
def cP (t : Nat) (tp : Nat → Nat) (k n i : Nat) (b : Nat → Bool) : Nat := if cN t tp (k + 1) 0 (n - 1) ≠ 0 then cN t tp (k + 1) 0 (n - 1) else if b (kV t tp (k + 1)) then 4 else cN t tp (k + 2) (loN i) (hiN n i)
def cQ (t : Nat) (tp : Nat → Nat) (k n : Nat) (b : Nat → Bool) : Nat := if cN t tp (k + 1) 0 (n - 1) ≠ 0 then k + 1 else if b (kV t tp (k + 1)) then k + 1 else k + 2
theorem cN_le (t : Nat) (tp : Nat → Nat) (k lo hi : Nat) : cN t tp k lo hi ≤ 3 := by
  unfold cN; split; omega; split; split <;> omega; omega
theorem cN_0 {t : Nat} {tp : Nat → Nat} {k lo hi : Nat} (h : cN t tp k lo hi = 0) : kK t tp k = 2 ∧ lo ≤ kV t tp k ∧ kV t tp k ≤ hi := by
  unfold cN at h
  split at h
  · omega
  · split at h
    · split at h
      · rename_i a b; exact ⟨a, b⟩
      · omega
    · omega
theorem lo_le (i : Nat) : loN i ≤ 1 := by unfold loN; split <;> omega
theorem hi_le {n : Nat} (i : Nat) (hn : n ≤ 6) : hiN n i ≤ 99 := by unfold hiN; split; omega; split; omega; split <;> omega
section
variable {v_place : Int32} {v_spot : Int32} {v_taped : Int32} {v_token : Int32} {v_toldOnes : Int32} {v_value : Int32} {v_wrong : Int32} {v_wrongAt : Int32} {c_cuts : Nat → Int32} {c_letters : Nat → Int32} {c_reads : Nat → Int32} {c_tape : Nat → Int32}
variable {N n : Nat}
theorem pair_78 {i : Nat} {x1 x3 s1 s2 : Int32} (hi : i < 5) (h0 : c_reads 0 = jI n) (hn : 1 ≤ n) (hn6 : n ≤ 6) : (fX9_readPair_78 N v_taped c_cuts c_letters c_tape x1 (jI (2 + 6 * i)) x3 s1 s2 v_place v_spot v_token v_toldOnes v_value v_wrong v_wrongAt c_reads) = pb ((fX9_next N v_place v_spot v_taped v_token v_value v_wrong v_wrongAt c_cuts c_letters c_tape)) (fun q => (fX9_readPair_137 N v_taped c_cuts c_letters c_tape x1 (jI (2 + 6 * i)) x3 (jI (loN i)) (jI (hiN n i)) q.1 q.2.1 q.2.2.1 (s1 ||| s2) q.2.2.2.1 q.2.2.2.2.1 q.2.2.2.2.2 c_reads)) := by
  have hc : i = 0 ∨ i = 1 ∨ i = 2 ∨ i = 3 ∨ i = 4 := by omega
  rcases hc with rfl | rfl | rfl | rfl | rfl
  · simp (disch := omega) only [jI_0, jI_1, jI_2, jI_3, jI_4, jI_5, jI_6, jI_7, jI_8, jI_9, jI_10, jI_11, jI_12, jI_13, jI_14, jI_15, jI_16, jI_20, jI_24, jI_26, jI_30, jI_31, jI_32, jI_40, jI_48, jI_56, jI_57, jI_59, jI_60, jI_97, jI_99, jI_122, jI_160, jI_240, jI_255, jI_768, jI_1000, ↓jN_1, ↓jN_2, ↓jN_3, ↓jN_4, ↓jN_8, ↓jN_10, ↓jN_11, ↓jN_12, ↓jN_14, ↓jN_20, jI_addN, jI_le, jI_lt, jI_eq, jI_cl, jI_in, jI_add, jI_sub, jI_eqN, gI_eqI, gI_eqN, gI_leI, gI_ltI, jI_leN, jI_ltN, gI_sub, pif_tt, pif_ff, pg_tt, isB, or_true, true_or, pif_T, pif_F, pg_T, pb_Q, upd_e, upd_n, fX9_readPair_78, fX9_readPair_97, h0, show loN 0 = 1 from rfl, show hiN n 0 = 9 from rfl]
  · simp (disch := omega) only [jI_0, jI_1, jI_2, jI_3, jI_4, jI_5, jI_6, jI_7, jI_8, jI_9, jI_10, jI_11, jI_12, jI_13, jI_14, jI_15, jI_16, jI_20, jI_24, jI_26, jI_30, jI_31, jI_32, jI_40, jI_48, jI_56, jI_57, jI_59, jI_60, jI_97, jI_99, jI_122, jI_160, jI_240, jI_255, jI_768, jI_1000, ↓jN_1, ↓jN_2, ↓jN_3, ↓jN_4, ↓jN_8, ↓jN_10, ↓jN_11, ↓jN_12, ↓jN_14, ↓jN_20, jI_addN, jI_le, jI_lt, jI_eq, jI_cl, jI_in, jI_add, jI_sub, jI_eqN, gI_eqI, gI_eqN, gI_leI, gI_ltI, jI_leN, jI_ltN, gI_sub, pif_tt, pif_ff, pg_tt, isB, or_true, true_or, pif_T, pif_F, pg_T, pb_Q, upd_e, upd_n, fX9_readPair_78, fX9_readPair_97, h0, show loN 1 = 0 from rfl, show hiN n 1 = 99 from rfl]
  · simp (disch := omega) only [jI_0, jI_1, jI_2, jI_3, jI_4, jI_5, jI_6, jI_7, jI_8, jI_9, jI_10, jI_11, jI_12, jI_13, jI_14, jI_15, jI_16, jI_20, jI_24, jI_26, jI_30, jI_31, jI_32, jI_40, jI_48, jI_56, jI_57, jI_59, jI_60, jI_97, jI_99, jI_122, jI_160, jI_240, jI_255, jI_768, jI_1000, ↓jN_1, ↓jN_2, ↓jN_3, ↓jN_4, ↓jN_8, ↓jN_10, ↓jN_11, ↓jN_12, ↓jN_14, ↓jN_20, jI_addN, jI_le, jI_lt, jI_eq, jI_cl, jI_in, jI_add, jI_sub, jI_eqN, gI_eqI, gI_eqN, gI_leI, gI_ltI, jI_leN, jI_ltN, gI_sub, pif_tt, pif_ff, pg_tt, isB, or_true, true_or, pif_T, pif_F, pg_T, pb_Q, upd_e, upd_n, fX9_readPair_78, fX9_readPair_97, h0, show loN 2 = 0 from rfl, show hiN n 2 = 99 from rfl]
  · simp (disch := omega) only [jI_0, jI_1, jI_2, jI_3, jI_4, jI_5, jI_6, jI_7, jI_8, jI_9, jI_10, jI_11, jI_12, jI_13, jI_14, jI_15, jI_16, jI_20, jI_24, jI_26, jI_30, jI_31, jI_32, jI_40, jI_48, jI_56, jI_57, jI_59, jI_60, jI_97, jI_99, jI_122, jI_160, jI_240, jI_255, jI_768, jI_1000, ↓jN_1, ↓jN_2, ↓jN_3, ↓jN_4, ↓jN_8, ↓jN_10, ↓jN_11, ↓jN_12, ↓jN_14, ↓jN_20, jI_addN, jI_le, jI_lt, jI_eq, jI_cl, jI_in, jI_add, jI_sub, jI_eqN, gI_eqI, gI_eqN, gI_leI, gI_ltI, jI_leN, jI_ltN, gI_sub, pif_tt, pif_ff, pg_tt, isB, or_true, true_or, pif_T, pif_F, pg_T, pb_Q, upd_e, upd_n, fX9_readPair_78, fX9_readPair_97, h0, show loN 3 = 0 from rfl, show hiN n 3 = 20 from rfl]
  · simp (disch := omega) only [jI_0, jI_1, jI_2, jI_3, jI_4, jI_5, jI_6, jI_7, jI_8, jI_9, jI_10, jI_11, jI_12, jI_13, jI_14, jI_15, jI_16, jI_20, jI_24, jI_26, jI_30, jI_31, jI_32, jI_40, jI_48, jI_56, jI_57, jI_59, jI_60, jI_97, jI_99, jI_122, jI_160, jI_240, jI_255, jI_768, jI_1000, ↓jN_1, ↓jN_2, ↓jN_3, ↓jN_4, ↓jN_8, ↓jN_10, ↓jN_11, ↓jN_12, ↓jN_14, ↓jN_20, jI_addN, jI_le, jI_lt, jI_eq, jI_cl, jI_in, jI_add, jI_sub, jI_eqN, gI_eqI, gI_eqN, gI_leI, gI_ltI, jI_leN, jI_ltN, gI_sub, pif_tt, pif_ff, pg_tt, isB, or_true, true_or, pif_T, pif_F, pg_T, pb_Q, upd_e, upd_n, fX9_readPair_78, fX9_readPair_97, h0, show loN 4 = 0 from rfl, show hiN n 4 = n - 1 from rfl]
theorem pair_55W {i c : Nat} {x1 x3 : Int32} (hi : i < 5) (h0 : c_reads 0 = jI n) (hn : 1 ≤ n) (hn6 : n ≤ 6) (hc : 0 < c) (hc2 : c < 1000) : Ok ((fX9_readPair_55 N v_taped c_cuts c_letters c_tape x1 (jI (2 + 6 * i)) x3 v_place v_spot v_token v_toldOnes v_value (jI c) v_wrongAt c_reads)) (fun q => q.2.2.2.2.2.1 = jI c ∧ q.2.2.2.2.2.2.1 = v_wrongAt) := by
  have hcc : (jI c = jI 0) = False := by rw [jI_eq (by omega) (by omega)]; exact eq_false (by omega)
  simp (disch := omega) only [jI_0, jI_1, jI_2, jI_3, jI_4, jI_5, jI_6, jI_7, jI_8, jI_9, jI_10, jI_11, jI_12, jI_13, jI_14, jI_15, jI_16, jI_20, jI_24, jI_26, jI_30, jI_31, jI_32, jI_40, jI_48, jI_56, jI_57, jI_59, jI_60, jI_97, jI_99, jI_122, jI_160, jI_240, jI_255, jI_768, jI_1000, ↓jN_1, ↓jN_2, ↓jN_3, ↓jN_4, ↓jN_8, ↓jN_10, ↓jN_11, ↓jN_12, ↓jN_14, ↓jN_20, jI_addN, jI_le, jI_lt, jI_eq, jI_cl, jI_in, jI_add, jI_sub, jI_eqN, gI_eqI, gI_eqN, gI_leI, gI_ltI, jI_leN, jI_ltN, gI_sub, pif_tt, pif_ff, pg_tt, isB, or_true, true_or, pif_T, pif_F, pg_T, pb_Q, upd_e, upd_n, fX9_readPair_55, hcc]
  rw [pair_78 hi h0 hn hn6]
  simp (disch := omega) only [jI_0, jI_1, jI_2, jI_3, jI_4, jI_5, jI_6, jI_7, jI_8, jI_9, jI_10, jI_11, jI_12, jI_13, jI_14, jI_15, jI_16, jI_20, jI_24, jI_26, jI_30, jI_31, jI_32, jI_40, jI_48, jI_56, jI_57, jI_59, jI_60, jI_97, jI_99, jI_122, jI_160, jI_240, jI_255, jI_768, jI_1000, ↓jN_1, ↓jN_2, ↓jN_3, ↓jN_4, ↓jN_8, ↓jN_10, ↓jN_11, ↓jN_12, ↓jN_14, ↓jN_20, jI_addN, jI_le, jI_lt, jI_eq, jI_cl, jI_in, jI_add, jI_sub, jI_eqN, gI_eqI, gI_eqN, gI_leI, gI_ltI, jI_leN, jI_ltN, gI_sub, pif_tt, pif_ff, pg_tt, isB, or_true, true_or, pif_T, pif_F, pg_T, pb_Q, upd_e, upd_n, nextWe, fX9_readPair_137, numMW, hcc, fX9_readPair_159]
  exact Ok.s ⟨rfl, rfl⟩
variable {t : Nat} {tp : Nat → Nat}
/-- the reference reads a pair -/
theorem readPairM {k i B : Nat} (hN : 1000 ≤ N) (ht : t ≤ 240) (h256 : ∀ k, k < 240 → tp k < 256) (hb : ∀ k, k < t → c_tape k = jI (tp k)) (hcu : Cu c_cuts c_letters) (hi : i < 5) (h0 : c_reads 0 = jI n) (hn : 2 ≤ n) (hn6 : n ≤ 6) : Ok ((fX9_readPair N v_place (jI (ps t tp (k + 1))) (jI t) v_token (jI B) v_value (jI 0) v_wrongAt c_cuts c_letters c_reads c_tape (jI (i + 1)))) (fun q => (cP t tp k n i (fun w => B.testBit (6 * i + w)) ≠ 0 → q.2.2.2.2.2.1 = jI (cP t tp k n i (fun w => B.testBit (6 * i + w))) ∧ q.2.2.2.2.2.2.1 = jI (kS t tp (cQ t tp k n (fun w => B.testBit (6 * i + w))))) ∧ (cP t tp k n i (fun w => B.testBit (6 * i + w)) = 0 → q.2.2.2.1 = jI (B ||| 2 ^ (6 * i + kV t tp (k + 1))) ∧ q.2.2.2.2.2.2.2 = upd c_reads (2 + 6 * i + kV t tp (k + 1)) (jI (kV t tp (k + 2))) ∧ (kK t tp (k + 3) ≠ 4 → q.1 = jI (kS t tp (k + 3)) ∧ q.2.1 = jI (ps t tp (k + 4)) ∧ q.2.2.1 = jI (kK t tp (k + 3)) ∧ q.2.2.2.2.1 = jI (kR t tp (k + 3)) ∧ q.2.2.2.2.2.1 = jI 0) ∧ (kK t tp (k + 3) = 4 → q.2.2.2.2.2.1 = jI 1 ∧ q.2.2.2.2.2.2.1 = jI (kS t tp (k + 3))))) := by
  obtain ⟨q, r, e1, e2, z0, z1⟩ := nxN (N := N) (t := t) (tp := tp) (k := k + 1) (lo := 0) (hi := n - 1) (v_place := v_place) (v_token := v_token) (v_value := v_value) (v_wrongAt := v_wrongAt) hN ht h256 hb hcu (by omega) (by omega)
  have hx : jI 2 + jI 6 * jI i = jI (2 + 6 * i) := by rw [jI_mul, jI_add]
  have hle1 := cN_le t tp (k + 1) 0 (n - 1)
  unfold cP cQ
  by_cases c1 : cN t tp (k + 1) 0 (n - 1) = 0
  · simp only [c1, ne_eq, not_true_eq_false, if_false]
    obtain ⟨hq, hr⟩ := z0 c1
    subst hq hr
    simp only at e2
    obtain ⟨g1, g2, g3⟩ := cN_0 c1
    generalize hw : kV t tp (k + 1) = w at *
    have htb := tst30 (B := B) (s := 6 * i + w) (by omega)
    have hs : 2 + 6 * i + w - 2 = 6 * i + w := by omega
    by_cases hB : B.testBit (6 * i + w) = false
    · simp only [hB, Bool.false_eq_true, if_false] at htb ⊢
      have e55 : (fX9_readPair N v_place (jI (ps t tp (k + 1))) (jI t) v_token (jI B) v_value (jI 0) v_wrongAt c_cuts c_letters c_reads c_tape (jI (i + 1))) = (fX9_readPair_55 N (jI t) c_cuts c_letters c_tape (jI (i + 1)) (jI (2 + 6 * i)) (jI w) (jI (kS t tp (k + 1))) (jI (ps t tp (k + 2))) (jI (kK t tp (k + 1))) (jI B) (jI (kR t tp (k + 1))) (jI 0) v_wrongAt c_reads) := by
        simp (disch := omega) only [jI_0, jI_1, jI_2, jI_3, jI_4, jI_5, jI_6, jI_7, jI_8, jI_9, jI_10, jI_11, jI_12, jI_13, jI_14, jI_15, jI_16, jI_20, jI_24, jI_26, jI_30, jI_31, jI_32, jI_40, jI_48, jI_56, jI_57, jI_59, jI_60, jI_97, jI_99, jI_122, jI_160, jI_240, jI_255, jI_768, jI_1000, ↓jN_1, ↓jN_2, ↓jN_3, ↓jN_4, ↓jN_8, ↓jN_10, ↓jN_11, ↓jN_12, ↓jN_14, ↓jN_20, jI_addN, jI_le, jI_lt, jI_eq, jI_cl, jI_in, jI_add, jI_sub, jI_eqN, gI_eqI, gI_eqN, gI_leI, gI_ltI, jI_leN, jI_ltN, gI_sub, pif_tt, pif_ff, pg_tt, isB, or_true, true_or, pif_T, pif_F, pg_T, pb_Q, upd_e, upd_n, fX9_readPair, h0, e1, e2, Nat.add_sub_cancel, hx, hs, htb]
      rw [e55]
      have hsh := shl30 (6 * i + w) (by omega)
      have e78 : (fX9_readPair_55 N (jI t) c_cuts c_letters c_tape (jI (i + 1)) (jI (2 + 6 * i)) (jI w) (jI (kS t tp (k + 1))) (jI (ps t tp (k + 2))) (jI (kK t tp (k + 1))) (jI B) (jI (kR t tp (k + 1))) (jI 0) v_wrongAt c_reads) = (fX9_readPair_78 N (jI t) c_cuts c_letters c_tape (jI (i + 1)) (jI (2 + 6 * i)) (jI w) (jI B) (jI (2 ^ (6 * i + w))) (jI (kS t tp (k + 1))) (jI (ps t tp (k + 2))) (jI (kK t tp (k + 1))) (jI B) (jI (kR t tp (k + 1))) (jI 0) v_wrongAt c_reads) := by
        simp (disch := omega) only [jI_0, jI_1, jI_2, jI_3, jI_4, jI_5, jI_6, jI_7, jI_8, jI_9, jI_10, jI_11, jI_12, jI_13, jI_14, jI_15, jI_16, jI_20, jI_24, jI_26, jI_30, jI_31, jI_32, jI_40, jI_48, jI_56, jI_57, jI_59, jI_60, jI_97, jI_99, jI_122, jI_160, jI_240, jI_255, jI_768, jI_1000, ↓jN_1, ↓jN_2, ↓jN_3, ↓jN_4, ↓jN_8, ↓jN_10, ↓jN_11, ↓jN_12, ↓jN_14, ↓jN_20, jI_addN, jI_le, jI_lt, jI_eq, jI_cl, jI_in, jI_add, jI_sub, jI_eqN, gI_eqI, gI_eqN, gI_leI, gI_ltI, jI_leN, jI_ltN, gI_sub, pif_tt, pif_ff, pg_tt, isB, or_true, true_or, pif_T, pif_F, pg_T, pb_Q, upd_e, upd_n, fX9_readPair_55, hs, hsh]
      rw [e78, pair_78 hi h0 (by omega) hn6, jI_or]
      have hlo := lo_le i
      have hhi := hi_le i hn6
      obtain ⟨q2, r2, f1, f2, y0, y1⟩ := nxN (N := N) (t := t) (tp := tp) (k := k + 2) (lo := loN i) (hi := hiN n i) (v_place := jI (kS t tp (k + 1))) (v_token := jI (kK t tp (k + 1))) (v_value := jI (kR t tp (k + 1))) (v_wrongAt := v_wrongAt) hN ht h256 hb hcu (by omega) (by omega)
      have hle2 := cN_le t tp (k + 2) (loN i) (hiN n i)
      by_cases c2 : cN t tp (k + 2) (loN i) (hiN n i) = 0
      · rw [c2]
        obtain ⟨hq, hr⟩ := y0 c2
        subst hq hr
        simp only at f2
        obtain ⟨q3, l1, l2, l3⟩ := nxM (N := N) (t := t) (tp := tp) (k := k + 3) (v_place := jI (kS t tp (k + 2))) (v_token := jI (kK t tp (k + 2))) (v_value := jI (kR t tp (k + 2))) (v_wrongAt := v_wrongAt) hN ht h256 hb hcu
        have hin : 2 + 6 * i + w < 32 := by omega
        simp (disch := omega) only [jI_0, jI_1, jI_2, jI_3, jI_4, jI_5, jI_6, jI_7, jI_8, jI_9, jI_10, jI_11, jI_12, jI_13, jI_14, jI_15, jI_16, jI_20, jI_24, jI_26, jI_30, jI_31, jI_32, jI_40, jI_48, jI_56, jI_57, jI_59, jI_60, jI_97, jI_99, jI_122, jI_160, jI_240, jI_255, jI_768, jI_1000, ↓jN_1, ↓jN_2, ↓jN_3, ↓jN_4, ↓jN_8, ↓jN_10, ↓jN_11, ↓jN_12, ↓jN_14, ↓jN_20, jI_addN, jI_le, jI_lt, jI_eq, jI_cl, jI_in, jI_add, jI_sub, jI_eqN, gI_eqI, gI_eqN, gI_leI, gI_ltI, jI_leN, jI_ltN, gI_sub, pif_tt, pif_ff, pg_tt, isB, or_true, true_or, pif_T, pif_F, pg_T, pb_Q, upd_e, upd_n, f1, fX9_readPair_137, f2, fX9_readPair_159, l1]
        refine Ok.s ⟨fun h => absurd trivial h, fun _ => ⟨rfl, rfl, fun h4 => ?_, l3⟩⟩
        have := l2 h4
        subst this
        exact ⟨rfl, rfl, rfl, rfl, rfl⟩
      · have hr := y1 c2
        subst hr
        generalize cN t tp (k + 2) (loN i) (hiN n i) = cc at *
        have hcc : (jI cc = jI 0) = False := by rw [jI_eq (by omega) (by omega)]; exact eq_false (by omega)
        simp (disch := omega) only [jI_0, jI_1, jI_2, jI_3, jI_4, jI_5, jI_6, jI_7, jI_8, jI_9, jI_10, jI_11, jI_12, jI_13, jI_14, jI_15, jI_16, jI_20, jI_24, jI_26, jI_30, jI_31, jI_32, jI_40, jI_48, jI_56, jI_57, jI_59, jI_60, jI_97, jI_99, jI_122, jI_160, jI_240, jI_255, jI_768, jI_1000, ↓jN_1, ↓jN_2, ↓jN_3, ↓jN_4, ↓jN_8, ↓jN_10, ↓jN_11, ↓jN_12, ↓jN_14, ↓jN_20, jI_addN, jI_le, jI_lt, jI_eq, jI_cl, jI_in, jI_add, jI_sub, jI_eqN, gI_eqI, gI_eqN, gI_leI, gI_ltI, jI_leN, jI_ltN, gI_sub, pif_tt, pif_ff, pg_tt, isB, or_true, true_or, pif_T, pif_F, pg_T, pb_Q, upd_e, upd_n, f1, fX9_readPair_137, f2, hcc, fX9_readPair_159, nextWe]
        exact Ok.s ⟨fun _ => ⟨rfl, rfl⟩, fun h => absurd h c2⟩
    · rw [Bool.not_eq_false] at hB
      simp only [hB, if_true] at htb ⊢
      have e55 : (fX9_readPair N v_place (jI (ps t tp (k + 1))) (jI t) v_token (jI B) v_value (jI 0) v_wrongAt c_cuts c_letters c_reads c_tape (jI (i + 1))) = (fX9_readPair_55 N (jI t) c_cuts c_letters c_tape (jI (i + 1)) (jI (2 + 6 * i)) (jI w) (jI (kS t tp (k + 1))) (jI (ps t tp (k + 2))) (jI (kK t tp (k + 1))) (jI B) (jI (kR t tp (k + 1))) (jI 4) (jI (kS t tp (k + 1))) c_reads) := by
        simp (disch := omega) only [jI_0, jI_1, jI_2, jI_3, jI_4, jI_5, jI_6, jI_7, jI_8, jI_9, jI_10, jI_11, jI_12, jI_13, jI_14, jI_15, jI_16, jI_20, jI_24, jI_26, jI_30, jI_31, jI_32, jI_40, jI_48, jI_56, jI_57, jI_59, jI_60, jI_97, jI_99, jI_122, jI_160, jI_240, jI_255, jI_768, jI_1000, ↓jN_1, ↓jN_2, ↓jN_3, ↓jN_4, ↓jN_8, ↓jN_10, ↓jN_11, ↓jN_12, ↓jN_14, ↓jN_20, jI_addN, jI_le, jI_lt, jI_eq, jI_cl, jI_in, jI_add, jI_sub, jI_eqN, gI_eqI, gI_eqN, gI_leI, gI_ltI, jI_leN, jI_ltN, gI_sub, pif_tt, pif_ff, pg_tt, isB, or_true, true_or, pif_T, pif_F, pg_T, pb_Q, upd_e, upd_n, fX9_readPair, h0, e1, e2, Nat.add_sub_cancel, hx, hs, htb, failM]
      rw [e55]
      refine (pair_55W hi h0 (by omega) hn6 (by omega) (by omega)).mono (fun q hq => ⟨fun _ => hq, fun h => by omega⟩)
  · simp only [c1, ne_eq, not_false_eq_true, if_true]
    have hr := z1 c1
    subst hr
    generalize cN t tp (k + 1) 0 (n - 1) = cc at *
    have hcc : (jI cc = jI 0) = False := by rw [jI_eq (by omega) (by omega)]; exact eq_false (by omega)
    obtain ⟨q1, q2, q3, q4, q5, q6⟩ := q
    simp only at e2
    have e55 : (fX9_readPair N v_place (jI (ps t tp (k + 1))) (jI t) v_token (jI B) v_value (jI 0) v_wrongAt c_cuts c_letters c_reads c_tape (jI (i + 1))) = (fX9_readPair_55 N (jI t) c_cuts c_letters c_tape (jI (i + 1)) (jI (2 + 6 * i)) (jI 0) q1 q2 q3 (jI B) q4 (jI cc) (jI (kS t tp (k + 1))) c_reads) := by
      simp (disch := omega) only [jI_0, jI_1, jI_2, jI_3, jI_4, jI_5, jI_6, jI_7, jI_8, jI_9, jI_10, jI_11, jI_12, jI_13, jI_14, jI_15, jI_16, jI_20, jI_24, jI_26, jI_30, jI_31, jI_32, jI_40, jI_48, jI_56, jI_57, jI_59, jI_60, jI_97, jI_99, jI_122, jI_160, jI_240, jI_255, jI_768, jI_1000, ↓jN_1, ↓jN_2, ↓jN_3, ↓jN_4, ↓jN_8, ↓jN_10, ↓jN_11, ↓jN_12, ↓jN_14, ↓jN_20, jI_addN, jI_le, jI_lt, jI_eq, jI_cl, jI_in, jI_add, jI_sub, jI_eqN, gI_eqI, gI_eqN, gI_leI, gI_ltI, jI_leN, jI_ltN, gI_sub, pif_tt, pif_ff, pg_tt, isB, or_true, true_or, pif_T, pif_F, pg_T, pb_Q, upd_e, upd_n, fX9_readPair, h0, e1, e2, Nat.add_sub_cancel, hx, hcc]
    rw [e55]
    refine (pair_55W hi h0 (by omega) hn6 (by omega) (by omega)).mono (fun q hq => ⟨fun _ => hq, fun h => h.elim⟩)
end
