/-! THE TAPE: feed. -/
/-- a byte as the class holds it -/
def bI (v : Nat) : Int32 := if v < 128 then jI v else gI (256 - v)
def byN (x : Int64) (sh : Nat) : Nat := x.toBitVec.toNat / 2 ^ sh % 256
theorem byN_lt (x : Int64) (sh : Nat) : byN x sh < 256 := Nat.mod_lt _ (by omega)
theorem bI_all : ∀ v, v < 256 → (jI v).toInt8.toInt32 = bI v ∧ vp_nar .byte (bI v) = bI v := by decide +kernel
theorem sh_s : ∀ sh, sh < 64 → (jL sh &&& jL 63).toBitVec.smod 64 = BitVec.ofNat 64 sh := by decide +kernel
theorem sh_u : ∀ sh, sh < 64 → ((jL sh).toUInt64 &&& (jL 63).toUInt64).toBitVec % 64 = BitVec.ofNat 64 sh := by decide +kernel
theorem byN_bit (x : Int64) (sh i : Nat) : (byN x sh).testBit i = (decide (i < 8) && x.toBitVec.getLsbD (sh + i)) := by
  unfold byN
  rw [show 256 = 2 ^ 8 from rfl, Nat.testBit_mod_two_pow, Nat.testBit_div_two_pow, Nat.add_comm i sh]
  rfl
theorem bit255 : ∀ i, i < 32 → (255#32).getLsbD i = decide (i < 8) := by decide
theorem byM (x : Int64) {sh : Nat} (hs : sh ≤ 56) : (x >>> (jL sh &&& jL 63)).toInt32 &&& jI 255 = jI (byN x sh) := by
  apply Int32.toBitVec_inj.mp
  show ((x >>> (jL sh &&& jL 63)).toBitVec.signExtend 32) &&& 255#32 = BitVec.ofNat 32 (byN x sh)
  rw [Int64.toBitVec_shiftRight, sh_s sh (by omega)]
  apply BitVec.eq_of_getLsbD_eq
  intro i hi
  rw [BitVec.getLsbD_and, bit255 i hi, BitVec.getLsbD_ofNat, byN_bit, BitVec.getLsbD_signExtend, if_pos (by omega), BitVec.getLsbD_sshiftRight']
  rw [BitVec.toNat_ofNat, Nat.mod_eq_of_lt (show sh < 2 ^ 64 by omega)]
  by_cases h : i < 8
  · rw [if_pos (by omega)]
    simp [h, hi, show ¬ 64 ≤ i by omega]
  · simp [h]
theorem byX (x : Int64) {sh : Nat} (hs : sh ≤ 56) : vp_nar .byte ((((x.toUInt64 >>> ((jL sh).toUInt64 &&& (jL 63).toUInt64)).toInt64).toInt32).toInt8.toInt32) = bI (byN x sh) := by
  have h1 : (((x.toUInt64 >>> ((jL sh).toUInt64 &&& (jL 63).toUInt64)).toInt64).toInt32).toInt8 = (jI (byN x sh)).toInt8 := by
    apply Int8.toBitVec_inj.mp
    rw [Int32.toBitVec_toInt8, Int32.toBitVec_toInt8, Int64.toBitVec_toInt32]
    show ((x.toUInt64 >>> ((jL sh).toUInt64 &&& (jL 63).toUInt64)).toBitVec.signExtend 32).signExtend 8 = (BitVec.ofNat 32 (byN x sh)).signExtend 8
    rw [UInt64.toBitVec_shiftRight, sh_u sh (by omega)]
    apply BitVec.eq_of_getLsbD_eq
    intro i hi
    rw [BitVec.getLsbD_signExtend, BitVec.getLsbD_signExtend, if_pos (by omega), if_pos (by omega), BitVec.getLsbD_signExtend, if_pos (by omega), BitVec.getLsbD_ofNat, byN_bit]
    show _ = _
    have h2 : (x.toUInt64.toBitVec >>> BitVec.ofNat 64 sh).getLsbD i = x.toBitVec.getLsbD (sh + i) := by
      rw [BitVec.ushiftRight_eq', BitVec.getLsbD_ushiftRight, BitVec.toNat_ofNat, Nat.mod_eq_of_lt (show sh < 2 ^ 64 by omega)]
      rfl
    rw [h2]
    simp [hi, show i < 32 by omega]
  have hb := bI_all (byN x sh) (byN_lt x sh)
  rw [h1, hb.1, hb.2]
/-- both TAPES hold the same bytes -/
def Tp (t : Nat) (tp : Nat → Nat) (vl : Int32) (cb : Nat → Int32) (vt : Int32) (ct : Nat → Int32) : Prop := t ≤ 240 ∧ vl = jI t ∧ vt = jI t ∧ (∀ k, k < 240 → tp k < 256) ∧ ∀ k, k < t → cb k = bI (tp k) ∧ ct k = jI (tp k)
section
variable {v_reader_tape_length : Int32} {c_reader_tape_bytes : Nat → Int32} {v_taped : Int32} {c_tape : Nat → Int32}
variable {N : Nat}
theorem c_feed (x1 : Int64) {t : Nat} {tp : Nat → Nat} (hN : 100 ≤ N) (hT : Tp t tp v_reader_tape_length c_reader_tape_bytes v_taped c_tape) : Ok ((fX8_feed N v_reader_tape_length c_reader_tape_bytes x1)) (fun a => Ok ((fX9_feed N v_taped c_tape x1)) (fun b => a.1 = b.1 ∧ ∃ t2 tp2, Tp t2 tp2 a.2.1 a.2.2 b.2.1 b.2.2)) := by
  have hT' := hT
  obtain ⟨ht, rfl, rfl, h256, hbt⟩ := hT
  by_cases h8 : t + 8 ≤ 240
  · have nt : ∀ k, 8 * k ≤ 56 → byN x1 (8 * k) < 256 := fun k _ => byN_lt _ _
    have kX : Ok (fX5_put N (jI t) c_reader_tape_bytes x1) (fun q => q.1 = jI (t + 8) ∧ ∀ k, k < t + 8 → q.2 k = bI (if k < t then tp k else byN x1 (56 - 8 * (k - t)))) := by
      unfold fX5_put
      have key := up_ok (fun fu i c => fX5_put_3 N x1 fu (if i < 8 then jI (56 - 8 * i) else gI 8) (jI (t + i)) c) (fun q => q.1 = jI (t + 8) ∧ ∀ k, k < t + 8 → q.2 k = bI (if k < t then tp k else byN x1 (56 - 8 * (k - t)))) 8 (fun i c => ∀ k, k < t + i → c k = bI (if k < t then tp k else byN x1 (56 - 8 * (k - t)))) ?_ ?_ N 0 c_reader_tape_bytes (by omega) (by omega) (fun k hk => by rw [if_pos (by omega)]; exact (hbt k (by omega)).1)
      · exact key
      · intro fu i c hi hp ih
        have hb := byX x1 (sh := 56 - 8 * i) (by omega)
        have hnx : jI (56 - 8 * i) + gI 8 = if i + 1 < 8 then jI (56 - 8 * (i + 1)) else gI 8 := by
          by_cases h7 : i + 1 < 8
          · rw [if_pos h7, jI_addN (by omega)]; congr 1
          · rw [if_neg h7, show 56 - 8 * i = 0 by omega]; rfl
        have ih2 := ih (upd c (t + i) (bI (byN x1 (56 - 8 * i)))) (fun k hk => by
          by_cases h : k = t + i
          · rw [upd_e h, if_neg (by omega), h, Nat.add_sub_cancel_left]
          · rw [upd_n h]; exact hp k (by omega))
        rw [← hnx] at ih2
        simp only [if_pos hi]
        simp (disch := omega) only [jI_0, jI_1, jI_2, jI_3, jI_4, jI_5, jI_6, jI_7, jI_8, jI_9, jI_10, jI_11, jI_12, jI_13, jI_14, jI_15, jI_16, jI_20, jI_24, jI_26, jI_30, jI_31, jI_32, jI_40, jI_48, jI_56, jI_57, jI_59, jI_60, jI_97, jI_99, jI_122, jI_160, jI_240, jI_255, jI_768, jI_1000, ↓jN_8, jL_63, fX5_put_3, jI_lt, jI_le, jI_in, jI_cl, jI_L, jI_add, pif_F, pg_T, hb]
        exact ih2
      · intro fu c hp
        simp only [show ¬ (8 : Nat) < 8 by omega, if_false]
        simp (disch := omega) only [jI_0, jI_1, jI_2, jI_3, jI_4, jI_5, jI_6, jI_7, jI_8, jI_9, jI_10, jI_11, jI_12, jI_13, jI_14, jI_15, jI_16, jI_20, jI_24, jI_26, jI_30, jI_31, jI_32, jI_40, jI_48, jI_56, jI_57, jI_59, jI_60, jI_97, jI_99, jI_122, jI_160, jI_240, jI_255, jI_768, jI_1000, ↓jN_1, ↓jN_2, ↓jN_3, ↓jN_4, ↓jN_8, ↓jN_10, ↓jN_11, ↓jN_12, ↓jN_14, ↓jN_20, jI_addN, jI_le, jI_lt, jI_eq, jI_cl, jI_in, jI_add, jI_sub, jI_eqN, gI_eqI, gI_eqN, gI_leI, gI_ltI, jI_leN, jI_ltN, gI_sub, pif_tt, pif_ff, pg_tt, isB, or_true, true_or, pif_T, pif_F, pg_T, pb_S, upd_e, upd_n, fX5_put_3, fX5_put_47]
        exact Ok.s ⟨rfl, hp⟩
    have kM : Ok (fX9_feed_19 N x1 N (jI 56) (jI t) c_tape) (fun q => q.1 = jI (t + 8) ∧ q.2.1 = jI (t + 8) ∧ ∀ k, k < t + 8 → q.2.2 k = jI (if k < t then tp k else byN x1 (56 - 8 * (k - t)))) := by
      have key := up_ok (fun fu i c => fX9_feed_19 N x1 fu (if i < 8 then jI (56 - 8 * i) else gI 8) (jI (t + i)) c) (fun q => q.1 = jI (t + 8) ∧ q.2.1 = jI (t + 8) ∧ ∀ k, k < t + 8 → q.2.2 k = jI (if k < t then tp k else byN x1 (56 - 8 * (k - t)))) 8 (fun i c => ∀ k, k < t + i → c k = jI (if k < t then tp k else byN x1 (56 - 8 * (k - t)))) ?_ ?_ N 0 c_tape (by omega) (by omega) (fun k hk => by rw [if_pos (by omega)]; exact (hbt k (by omega)).2)
      · exact key
      · intro fu i c hi hp ih
        have hb := byM x1 (sh := 56 - 8 * i) (by omega)
        have hnx : jI (56 - 8 * i) + gI 8 = if i + 1 < 8 then jI (56 - 8 * (i + 1)) else gI 8 := by
          by_cases h7 : i + 1 < 8
          · rw [if_pos h7, jI_addN (by omega)]; congr 1
          · rw [if_neg h7, show 56 - 8 * i = 0 by omega]; rfl
        have ih2 := ih (upd c (t + i) (jI (byN x1 (56 - 8 * i)))) (fun k hk => by
          by_cases h : k = t + i
          · rw [upd_e h, if_neg (by omega), h, Nat.add_sub_cancel_left]
          · rw [upd_n h]; exact hp k (by omega))
        rw [← hnx] at ih2
        simp only [if_pos hi]
        simp (disch := omega) only [jI_0, jI_1, jI_2, jI_3, jI_4, jI_5, jI_6, jI_7, jI_8, jI_9, jI_10, jI_11, jI_12, jI_13, jI_14, jI_15, jI_16, jI_20, jI_24, jI_26, jI_30, jI_31, jI_32, jI_40, jI_48, jI_56, jI_57, jI_59, jI_60, jI_97, jI_99, jI_122, jI_160, jI_240, jI_255, jI_768, jI_1000, ↓jN_8, jL_63, fX9_feed_19, jI_lt, jI_le, jI_in, jI_cl, jI_L, jI_add, pif_F, pg_T, hb]
        exact ih2
      · intro fu c hp
        simp only [show ¬ (8 : Nat) < 8 by omega, if_false]
        simp (disch := omega) only [jI_0, jI_1, jI_2, jI_3, jI_4, jI_5, jI_6, jI_7, jI_8, jI_9, jI_10, jI_11, jI_12, jI_13, jI_14, jI_15, jI_16, jI_20, jI_24, jI_26, jI_30, jI_31, jI_32, jI_40, jI_48, jI_56, jI_57, jI_59, jI_60, jI_97, jI_99, jI_122, jI_160, jI_240, jI_255, jI_768, jI_1000, ↓jN_1, ↓jN_2, ↓jN_3, ↓jN_4, ↓jN_8, ↓jN_10, ↓jN_11, ↓jN_12, ↓jN_14, ↓jN_20, jI_addN, jI_le, jI_lt, jI_eq, jI_cl, jI_in, jI_add, jI_sub, jI_eqN, gI_eqI, gI_eqN, gI_leI, gI_ltI, jI_leN, jI_ltN, gI_sub, pif_tt, pif_ff, pg_tt, isB, or_true, true_or, pif_T, pif_F, pg_T, pb_S, upd_e, upd_n, fX9_feed_19]
        exact Ok.s ⟨rfl, rfl, hp⟩
    obtain ⟨⟨q1, q2⟩, e1, a1, a2⟩ := kX
    obtain ⟨⟨p1, p2, p3⟩, e2, b1, b2, b3⟩ := kM
    simp only at a1 a2 b1 b2 b3
    subst a1 b1 b2
    simp (disch := omega) only [jI_0, jI_1, jI_2, jI_3, jI_4, jI_5, jI_6, jI_7, jI_8, jI_9, jI_10, jI_11, jI_12, jI_13, jI_14, jI_15, jI_16, jI_20, jI_24, jI_26, jI_30, jI_31, jI_32, jI_40, jI_48, jI_56, jI_57, jI_59, jI_60, jI_97, jI_99, jI_122, jI_160, jI_240, jI_255, jI_768, jI_1000, ↓jN_1, ↓jN_2, ↓jN_3, ↓jN_4, ↓jN_8, ↓jN_10, ↓jN_11, ↓jN_12, ↓jN_14, ↓jN_20, jI_addN, jI_le, jI_lt, jI_eq, jI_cl, jI_in, jI_add, jI_sub, jI_eqN, gI_eqI, gI_eqN, gI_leI, gI_ltI, jI_leN, jI_ltN, gI_sub, pif_tt, pif_ff, pg_tt, isB, or_true, true_or, pif_T, pif_F, pg_T, pb_S, upd_e, upd_n, fX8_feed, e1]
    refine Ok.s ?_
    simp (disch := omega) only [jI_0, jI_1, jI_2, jI_3, jI_4, jI_5, jI_6, jI_7, jI_8, jI_9, jI_10, jI_11, jI_12, jI_13, jI_14, jI_15, jI_16, jI_20, jI_24, jI_26, jI_30, jI_31, jI_32, jI_40, jI_48, jI_56, jI_57, jI_59, jI_60, jI_97, jI_99, jI_122, jI_160, jI_240, jI_255, jI_768, jI_1000, ↓jN_1, ↓jN_2, ↓jN_3, ↓jN_4, ↓jN_8, ↓jN_10, ↓jN_11, ↓jN_12, ↓jN_14, ↓jN_20, jI_addN, jI_le, jI_lt, jI_eq, jI_cl, jI_in, jI_add, jI_sub, jI_eqN, gI_eqI, gI_eqN, gI_leI, gI_ltI, jI_leN, jI_ltN, gI_sub, pif_tt, pif_ff, pg_tt, isB, or_true, true_or, pif_T, pif_F, pg_T, pb_S, upd_e, upd_n, fX9_feed, e2]
    refine Ok.s ⟨rfl, t + 8, fun k => if k < t then tp k else byN x1 (56 - 8 * (k - t)), h8, rfl, rfl, fun k hk => ?_, fun k hk => ⟨a2 k hk, b3 k hk⟩⟩
    by_cases h : k < t
    · simp only [if_pos h]; exact h256 k hk
    · simp only [if_neg h]; exact byN_lt _ _
  · simp (disch := omega) only [jI_0, jI_1, jI_2, jI_3, jI_4, jI_5, jI_6, jI_7, jI_8, jI_9, jI_10, jI_11, jI_12, jI_13, jI_14, jI_15, jI_16, jI_20, jI_24, jI_26, jI_30, jI_31, jI_32, jI_40, jI_48, jI_56, jI_57, jI_59, jI_60, jI_97, jI_99, jI_122, jI_160, jI_240, jI_255, jI_768, jI_1000, ↓jN_1, ↓jN_2, ↓jN_3, ↓jN_4, ↓jN_8, ↓jN_10, ↓jN_11, ↓jN_12, ↓jN_14, ↓jN_20, jI_addN, jI_le, jI_lt, jI_eq, jI_cl, jI_in, jI_add, jI_sub, jI_eqN, gI_eqI, gI_eqN, gI_leI, gI_ltI, jI_leN, jI_ltN, gI_sub, pif_tt, pif_ff, pg_tt, isB, or_true, true_or, pif_T, pif_F, pg_T, pb_S, upd_e, upd_n, fX8_feed]
    refine Ok.s ?_
    simp (disch := omega) only [jI_0, jI_1, jI_2, jI_3, jI_4, jI_5, jI_6, jI_7, jI_8, jI_9, jI_10, jI_11, jI_12, jI_13, jI_14, jI_15, jI_16, jI_20, jI_24, jI_26, jI_30, jI_31, jI_32, jI_40, jI_48, jI_56, jI_57, jI_59, jI_60, jI_97, jI_99, jI_122, jI_160, jI_240, jI_255, jI_768, jI_1000, ↓jN_1, ↓jN_2, ↓jN_3, ↓jN_4, ↓jN_8, ↓jN_10, ↓jN_11, ↓jN_12, ↓jN_14, ↓jN_20, jI_addN, jI_le, jI_lt, jI_eq, jI_cl, jI_in, jI_add, jI_sub, jI_eqN, gI_eqI, gI_eqN, gI_leI, gI_ltI, jI_leN, jI_ltN, gI_sub, pif_tt, pif_ff, pg_tt, isB, or_true, true_or, pif_T, pif_F, pg_T, pb_S, upd_e, upd_n, fX9_feed]
    exact Ok.s ⟨rfl, t, tp, hT'⟩
end
