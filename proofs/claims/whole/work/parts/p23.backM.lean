/-! From the last GAME back: the reference. -/
section
variable {v_isPair : Int32} {v_leaves : Int64} {v_looked : Int32} {v_open : Int32} {v_pair : Int32} {v_wantedFirst : Int32} {v_wantedMany : Int32} {c_chooser : Nat → Int32} {c_firsts : Nat → Int32} {c_goes : Nat → Int32} {c_holds : Nat → Int32} {c_later : Nat → Int32} {c_many : Nat → Int32} {c_opens : Nat → Int32} {c_outs : Nat → Int32} {c_payOf : Nat → Int32} {c_placeOf : Nat → Int32} {c_seconds : Nat → Int32} {c_sideAt : Nat → Int32} {c_tree : Nat → Int64} {c_won : Nat → Int32}
variable {N z : Nat} {f s e H : Nat → Nat} {V : Nat → Nat → Nat}
theorem layLeavesM (hN : 1000 ≤ N) (hR : Rk H) (hh : Rm H c_holds) (hk : Gk (H 0) z f s e) (hG : Gm 0 z f s e c_many c_firsts c_seconds c_goes) (hd : cnt z (isOp e) ≤ 7) : Ok ((fX9_layLeaves N v_leaves v_open c_chooser c_firsts c_goes c_holds c_later c_many c_opens c_outs c_payOf c_placeOf c_seconds c_sideAt c_tree c_won)) (fun q => q.1 = jL (unitN H) ∧ q.2.1 = jI (cnt z (isOp e)) ∧ Gm 0 z f s e c_many c_firsts c_seconds q.2.2.2.1 ∧ (∀ k, k < cnt z (isOp e) → q.2.2.2.2.2.1 k = jI (opN z (isOp e) k)) ∧ ∀ r, r < 2 ^ cnt z (isOp e) → ∀ i, i < H 0 → q.2.2.2.2.2.2.2.2.2.2.1 (6 * r + i) = jL (leafN H z f s e r i)) := by
  have hz := hk.2.1
  have hn := hR.2.1
  have hp := pw_le (cnt z (isOp e)) (by omega)
  have hsh := shl_ok (cnt z (isOp e)) (by omega)
  have hun := unitN_le hR
  obtain ⟨co, e1, h1⟩ := layOpensM (N := N) (v_open := v_open) (c_opens := c_opens) (by omega) hk hG
  have e2 := unitM (N := N) (by omega) hR hh
  have hsd := sidesR (N := N) hh
  simp (disch := omega) only [jI_0, jI_1, jI_2, jI_3, jI_4, jI_5, jI_6, jI_7, jI_8, jI_9, jI_10, jI_11, jI_12, jI_13, jI_14, jI_15, jI_16, jI_20, jI_24, jI_26, jI_30, jI_31, jI_32, jI_40, jI_48, jI_56, jI_57, jI_59, jI_60, jI_97, jI_99, jI_122, jI_160, jI_240, jI_255, jI_768, jI_1000, ↓jN_1, ↓jN_2, ↓jN_3, ↓jN_4, ↓jN_8, ↓jN_10, ↓jN_11, ↓jN_12, ↓jN_14, ↓jN_20, jI_addN, jI_le, jI_lt, jI_eq, jI_cl, jI_in, jI_add, jI_sub, jI_eqN, gI_eqI, gI_eqN, gI_leI, gI_ltI, jI_leN, jI_ltN, gI_sub, pif_tt, pif_ff, pg_tt, isB, or_true, true_or, pif_T, pif_F, pg_T, pb_S, upd_e, upd_n, jL_0, jL_1, jL_2, jL_5, jL_6, jL_15, jL_16, jL_63, jI_mul, jI_L, jL_I, jL_add, jL_sub, jL_mul, fX9_layLeaves, e1, e2]
  refine up_ok (fun fu r (q : (Nat → Int32) × (Nat → Int32) × (Nat → Int32) × (Nat → Int32) × (Nat → Int32) × (Nat → Int32) × (Nat → Int32) × (Nat → Int64) × (Nat → Int32)) => (fX9_layLeaves_15 N c_firsts c_holds c_many c_seconds fu (jI r) (jL (unitN H)) (jI (cnt z (isOp e))) q.1 q.2.1 q.2.2.1 co q.2.2.2.1 q.2.2.2.2.1 q.2.2.2.2.2.1 q.2.2.2.2.2.2.1 q.2.2.2.2.2.2.2.1 q.2.2.2.2.2.2.2.2)) _ (2 ^ cnt z (isOp e)) (fun m q => Gp z f s e c_many c_firsts c_seconds q.2.1 ∧ ∀ r, r < m → ∀ i, i < H 0 → q.2.2.2.2.2.2.2.1 (6 * r + i) = jL (leafN H z f s e r i)) ?_ ?_ N 0 (c_chooser, c_goes, c_later, c_outs, c_payOf, c_placeOf, c_sideAt, c_tree, c_won) (Nat.zero_le _) (by omega) ⟨Gp_of hG, fun r h => absurd h (Nat.not_lt_zero _)⟩
  · intro fu r ⟨c1, cg, c3, c4, c5, c6, c7, ct, c8⟩ hr ⟨hGp, h2⟩ ih
    simp only at hGp h2
    obtain ⟨cg2, e3, hG2⟩ := setEndsM (N := N) (r := r) (c_opens := co) (by omega) hk hGp hd (by omega) h1
    obtain ⟨⟨p1, p2, p3, p4, p5, p6, p7⟩, e4, h4, h5⟩ := layPaysM (N := N) (c_chooser := c1) (c_later := c3) (c_outs := c4) (c_payOf := c5) (c_placeOf := c6) (c_sideAt := c7) (c_won := c8) (by omega) hR hh (Gk_eR (r := r) hk) hG2
    simp only at h4 h5
    simp (disch := omega) only [jI_0, jI_1, jI_2, jI_3, jI_4, jI_5, jI_6, jI_7, jI_8, jI_9, jI_10, jI_11, jI_12, jI_13, jI_14, jI_15, jI_16, jI_20, jI_24, jI_26, jI_30, jI_31, jI_32, jI_40, jI_48, jI_56, jI_57, jI_59, jI_60, jI_97, jI_99, jI_122, jI_160, jI_240, jI_255, jI_768, jI_1000, ↓jN_1, ↓jN_2, ↓jN_3, ↓jN_4, ↓jN_8, ↓jN_10, ↓jN_11, ↓jN_12, ↓jN_14, ↓jN_20, jI_addN, jI_le, jI_lt, jI_eq, jI_cl, jI_in, jI_add, jI_sub, jI_eqN, gI_eqI, gI_eqN, gI_leI, gI_ltI, jI_leN, jI_ltN, gI_sub, pif_tt, pif_ff, pg_tt, isB, or_true, true_or, pif_T, pif_F, pg_T, pb_S, upd_e, upd_n, jL_0, jL_1, jL_2, jL_5, jL_6, jL_15, jL_16, jL_63, jI_mul, jI_L, jL_I, jL_add, jL_sub, jL_mul, fX9_layLeaves_15, hsh, e3, e4]
    refine up_ok (fun fu2 i ct => (fX9_layLeaves_36 N c_firsts c_holds c_many c_seconds (fX9_layLeaves_15 N c_firsts c_holds c_many c_seconds fu) fu2 (jI r) (jI i) (jL (unitN H)) (jI (cnt z (isOp e))) p1 cg2 p2 co p3 p4 p5 p6 ct p7)) _ 6 (fun m ct => (∀ r', r' < r → ∀ i, i < H 0 → ct (6 * r' + i) = jL (leafN H z f s e r' i)) ∧ ∀ i, i < m → i < H 0 → ct (6 * r + i) = jL (leafN H z f s e r i)) ?_ ?_ N 0 ct (by omega) (by omega) ⟨h2, fun i h => by omega⟩
    · intro fu2 i ct hi ⟨a1, a2⟩ ih2
      by_cases hin : i < H 0
      · have h4i := h4 i hin
        have hpl := payN_le (W := wonN f s (eR e z r) z) (M := merT (H 0) f s (eR e z r) z z) hR hin
        simp (disch := omega) only [jI_0, jI_1, jI_2, jI_3, jI_4, jI_5, jI_6, jI_7, jI_8, jI_9, jI_10, jI_11, jI_12, jI_13, jI_14, jI_15, jI_16, jI_20, jI_24, jI_26, jI_30, jI_31, jI_32, jI_40, jI_48, jI_56, jI_57, jI_59, jI_60, jI_97, jI_99, jI_122, jI_160, jI_240, jI_255, jI_768, jI_1000, ↓jN_1, ↓jN_2, ↓jN_3, ↓jN_4, ↓jN_8, ↓jN_10, ↓jN_11, ↓jN_12, ↓jN_14, ↓jN_20, jI_addN, jI_le, jI_lt, jI_eq, jI_cl, jI_in, jI_add, jI_sub, jI_eqN, gI_eqI, gI_eqN, gI_leI, gI_ltI, jI_leN, jI_ltN, gI_sub, pif_tt, pif_ff, pg_tt, isB, or_true, true_or, pif_T, pif_F, pg_T, pb_S, upd_e, upd_n, jL_0, jL_1, jL_2, jL_5, jL_6, jL_15, jL_16, jL_63, jI_mul, jI_L, jL_I, jL_add, jL_sub, jL_mul, fX9_layLeaves_36, fX9_layLeaves_71, hsd, h4i]
        refine ih2 _ ⟨fun r' hr' j hj => ?_, fun j hj hjn => ?_⟩
        · rw [updL_n (by omega)]; exact a1 r' hr' j hj
        · by_cases h : j = i
          · rw [updL_e (by omega), h]; rfl
          · rw [updL_n (by omega)]; exact a2 j (by omega) hjn
      · simp (disch := omega) only [jI_0, jI_1, jI_2, jI_3, jI_4, jI_5, jI_6, jI_7, jI_8, jI_9, jI_10, jI_11, jI_12, jI_13, jI_14, jI_15, jI_16, jI_20, jI_24, jI_26, jI_30, jI_31, jI_32, jI_40, jI_48, jI_56, jI_57, jI_59, jI_60, jI_97, jI_99, jI_122, jI_160, jI_240, jI_255, jI_768, jI_1000, ↓jN_1, ↓jN_2, ↓jN_3, ↓jN_4, ↓jN_8, ↓jN_10, ↓jN_11, ↓jN_12, ↓jN_14, ↓jN_20, jI_addN, jI_le, jI_lt, jI_eq, jI_cl, jI_in, jI_add, jI_sub, jI_eqN, gI_eqI, gI_eqN, gI_leI, gI_ltI, jI_leN, jI_ltN, gI_sub, pif_tt, pif_ff, pg_tt, isB, or_true, true_or, pif_T, pif_F, pg_T, pb_S, upd_e, upd_n, jL_0, jL_1, jL_2, jL_5, jL_6, jL_15, jL_16, jL_63, jI_mul, jI_L, jL_I, jL_add, jL_sub, jL_mul, fX9_layLeaves_36, fX9_layLeaves_71, hsd]
        refine ih2 _ ⟨fun r' hr' j hj => ?_, fun j hj hjn => ?_⟩
        · rw [updL_n (by omega)]; exact a1 r' hr' j hj
        · rw [updL_n (by omega)]; exact a2 j (by omega) hjn
    · intro fu2 ct ⟨a1, a2⟩
      simp (disch := omega) only [jI_0, jI_1, jI_2, jI_3, jI_4, jI_5, jI_6, jI_7, jI_8, jI_9, jI_10, jI_11, jI_12, jI_13, jI_14, jI_15, jI_16, jI_20, jI_24, jI_26, jI_30, jI_31, jI_32, jI_40, jI_48, jI_56, jI_57, jI_59, jI_60, jI_97, jI_99, jI_122, jI_160, jI_240, jI_255, jI_768, jI_1000, ↓jN_1, ↓jN_2, ↓jN_3, ↓jN_4, ↓jN_8, ↓jN_10, ↓jN_11, ↓jN_12, ↓jN_14, ↓jN_20, jI_addN, jI_le, jI_lt, jI_eq, jI_cl, jI_in, jI_add, jI_sub, jI_eqN, gI_eqI, gI_eqN, gI_leI, gI_ltI, jI_leN, jI_ltN, gI_sub, pif_tt, pif_ff, pg_tt, isB, or_true, true_or, pif_T, pif_F, pg_T, pb_S, upd_e, upd_n, jL_0, jL_1, jL_2, jL_5, jL_6, jL_15, jL_16, jL_63, jI_mul, jI_L, jL_I, jL_add, jL_sub, jL_mul, fX9_layLeaves_36]
      refine ih (_, _, _, _, _, _, _, _, _) ⟨Gp_row hG2, fun r' hr' i hi => ?_⟩
      show ct (6 * r' + i) = _
      by_cases hc : r' = r
      · rw [hc]; exact a2 i (by omega) hi
      · exact a1 r' (by omega) i hi
  · intro fu ⟨c1, cg, c3, c4, c5, c6, c7, ct, c8⟩ ⟨hGp, h2⟩
    simp only at hGp h2
    obtain ⟨cg2, e3, hG2⟩ := setOpenM (N := N) (c_opens := co) (by omega) hk hGp hd h1
    simp (disch := omega) only [jI_0, jI_1, jI_2, jI_3, jI_4, jI_5, jI_6, jI_7, jI_8, jI_9, jI_10, jI_11, jI_12, jI_13, jI_14, jI_15, jI_16, jI_20, jI_24, jI_26, jI_30, jI_31, jI_32, jI_40, jI_48, jI_56, jI_57, jI_59, jI_60, jI_97, jI_99, jI_122, jI_160, jI_240, jI_255, jI_768, jI_1000, ↓jN_1, ↓jN_2, ↓jN_3, ↓jN_4, ↓jN_8, ↓jN_10, ↓jN_11, ↓jN_12, ↓jN_14, ↓jN_20, jI_addN, jI_le, jI_lt, jI_eq, jI_cl, jI_in, jI_add, jI_sub, jI_eqN, gI_eqI, gI_eqN, gI_leI, gI_ltI, jI_leN, jI_ltN, gI_sub, pif_tt, pif_ff, pg_tt, isB, or_true, true_or, pif_T, pif_F, pg_T, pb_S, upd_e, upd_n, jL_0, jL_1, jL_2, jL_5, jL_6, jL_15, jL_16, jL_63, jI_mul, jI_L, jL_I, jL_add, jL_sub, jL_mul, fX9_layLeaves_15, hsh, e3]
    exact Ok.s ⟨rfl, rfl, hG2, h1, h2⟩
theorem meanM {n r i o : Nat} (hr : r < 64) (hn : n ≤ 6) (hi : i < n) (ho : o ≤ 16) (h1 : ∀ i, i < n → c_tree (6 * (2 * r) + i) = jL (V (2 * r) i)) (h2 : ∀ i, i < n → c_tree (6 * (2 * r + 1) + i) = jL (V (2 * r + 1) i)) : fX9_mean N c_tree (jI r) (jI i) (jI o) = some (jL (mnN o V r i)) := by
  have a1 := h1 i hi
  have a2 := h2 i hi
  unfold mnN
  simp (disch := omega) only [jI_0, jI_1, jI_2, jI_3, jI_4, jI_5, jI_6, jI_7, jI_8, jI_9, jI_10, jI_11, jI_12, jI_13, jI_14, jI_15, jI_16, jI_20, jI_24, jI_26, jI_30, jI_31, jI_32, jI_40, jI_48, jI_56, jI_57, jI_59, jI_60, jI_97, jI_99, jI_122, jI_160, jI_240, jI_255, jI_768, jI_1000, ↓jN_1, ↓jN_2, ↓jN_3, ↓jN_4, ↓jN_8, ↓jN_10, ↓jN_11, ↓jN_12, ↓jN_14, ↓jN_20, jI_addN, jI_le, jI_lt, jI_eq, jI_cl, jI_in, jI_add, jI_sub, jI_eqN, gI_eqI, gI_eqN, gI_leI, gI_ltI, jI_leN, jI_ltN, gI_sub, pif_tt, pif_ff, pg_tt, isB, or_true, true_or, pif_T, pif_F, pg_T, pb_S, upd_e, upd_n, jL_0, jL_1, jL_2, jL_5, jL_6, jL_15, jL_16, jL_63, jI_mul, jI_L, jL_I, jL_add, jL_sub, jL_mul, fX9_mean, a1, a2]
theorem meanA {r i o : Nat} (hr : r < 64) (hi : i < 6) (ho : o ≤ 16) : ∃ v, fX9_mean N c_tree (jI r) (jI i) (jI o) = some v := by
  refine ⟨jL o * c_tree (6 * (2 * r) + i) + jL (16 - o) * c_tree (6 * (2 * r + 1) + i), ?_⟩
  simp (disch := omega) only [jI_0, jI_1, jI_2, jI_3, jI_4, jI_5, jI_6, jI_7, jI_8, jI_9, jI_10, jI_11, jI_12, jI_13, jI_14, jI_15, jI_16, jI_20, jI_24, jI_26, jI_30, jI_31, jI_32, jI_40, jI_48, jI_56, jI_57, jI_59, jI_60, jI_97, jI_99, jI_122, jI_160, jI_240, jI_255, jI_768, jI_1000, ↓jN_1, ↓jN_2, ↓jN_3, ↓jN_4, ↓jN_8, ↓jN_10, ↓jN_11, ↓jN_12, ↓jN_14, ↓jN_20, jI_addN, jI_le, jI_lt, jI_eq, jI_cl, jI_in, jI_add, jI_sub, jI_eqN, gI_eqI, gI_eqN, gI_leI, gI_ltI, jI_leN, jI_ltN, gI_sub, pif_tt, pif_ff, pg_tt, isB, or_true, true_or, pif_T, pif_F, pg_T, pb_S, upd_e, upd_n, jL_0, jL_1, jL_2, jL_5, jL_6, jL_15, jL_16, jL_63, jI_mul, jI_L, jL_I, jL_add, jL_sub, jL_mul, fX9_mean]
theorem jL_cmp2 {a b : Nat} (ha : a < 9223372036854775808) (hb : b < 9223372036854775808) : (jI 0 < lg_cmp (jL a) (jL b)) = (b < a) := by rw [lg_gt, jL_lt hb ha]
theorem findPairM {r g : Nat} {v_isPair v_pair : Int32} (hN : 100 ≤ N) (hR : Rk H) (hh : Rm H c_holds) (hk : Gk (H 0) z f s e) (hG : Gm 0 z f s e c_many c_firsts c_seconds c_goes) (hr : r < 64) (hg : g < z) (hB : ∀ r i, i < H 0 → V r i ≤ 100000000000000) (h1 : ∀ i, i < H 0 → c_tree (6 * (2 * r) + i) = jL (V (2 * r) i)) (h2 : ∀ i, i < H 0 → c_tree (6 * (2 * r + 1) + i) = jL (V (2 * r + 1) i)) : (fX9_findPair N v_isPair v_pair c_firsts c_holds c_seconds c_tree (jI r) (jI g)) = some (jI (stP H f s g V r), jI (prP H f s g V r)) := by
  have hz := hk.2.1
  have hn := hR.2.1
  obtain ⟨k1, k2, k3, k4⟩ := hk.2.2 g hg
  obtain ⟨m1, m2, m3⟩ := hG.2 g hg
  rw [show 30 * 0 + g = g by omega] at m1 m2
  have key : Ok ((fX9_findPair_12 N c_firsts c_holds c_seconds c_tree (jI r) (jI g) N 0 0 0)) (fun q => q = (jI (stP H f s g V r), jI (prP H f s g V r))) := by
    refine up_ok (fun fu p (q : Nat × Nat) => (fX9_findPair_12 N c_firsts c_holds c_seconds c_tree (jI r) (jI g) fu (jI p) (jI q.2) (jI q.1))) _ 4 (fun p q => (q.2 = 0 ∧ q.1 = 0 ∧ ∀ k, k < p → okP H f s g V r k = false) ∨ (q.2 = 1 ∧ q.1 < 4 ∧ okP H f s g V r q.1 = true ∧ ∀ k, k < q.1 → okP H f s g V r k = false)) ?_ ?_ N 0 (0, 0) (by omega) (by omega) (Or.inl ⟨rfl, rfl, fun k h => by omega⟩)
    · intro fu p ⟨pr, st⟩ hp hP ih
      simp only at hP
      rcases hP with ⟨rfl, rfl, hno⟩ | ⟨rfl, hp4, hyes, hno⟩
      · have x2 := xor2 p hp
        have x1 := xor1 p hp
        have o0 := oddsByM (N := N) hR hh hk hG hg hp
        have o2 := oddsByM (N := N) hR hh hk hG hg (xorl2 p hp)
        have o1 := oddsByM (N := N) hR hh hk hG hg (xorl1 p hp)
        have q0 := odR_le H f s g p
        have q2 := odR_le H f s g (p ^^^ 2)
        have q1 := odR_le H f s g (p ^^^ 1)
        have a1 := meanM (N := N) (V := V) (o := odR H f s g p) hr hn k1 (by omega) h1 h2
        have a2 := meanM (N := N) (V := V) (o := odR H f s g (p ^^^ 2)) hr hn k1 (by omega) h1 h2
        have a3 := meanM (N := N) (V := V) (o := odR H f s g p) hr hn k2 (by omega) h1 h2
        have a4 := meanM (N := N) (V := V) (o := odR H f s g (p ^^^ 1)) hr hn k2 (by omega) h1 h2
        have b1 := mnN_le (V := V) (r := r) (i := f g) (o := odR H f s g p) (by omega) (hB (2 * r) _ k1) (hB (2 * r + 1) _ k1)
        have b2 := mnN_le (V := V) (r := r) (i := f g) (o := odR H f s g (p ^^^ 2)) (by omega) (hB (2 * r) _ k1) (hB (2 * r + 1) _ k1)
        have b3 := mnN_le (V := V) (r := r) (i := s g) (o := odR H f s g p) (by omega) (hB (2 * r) _ k2) (hB (2 * r + 1) _ k2)
        have b4 := mnN_le (V := V) (r := r) (i := s g) (o := odR H f s g (p ^^^ 1)) (by omega) (hB (2 * r) _ k2) (hB (2 * r + 1) _ k2)
        by_cases c1 : mnN (odR H f s g (p ^^^ 2)) V r (f g) ≤ mnN (odR H f s g p) V r (f g)
        · by_cases c2 : mnN (odR H f s g (p ^^^ 1)) V r (s g) ≤ mnN (odR H f s g p) V r (s g)
          · have hok : okP H f s g V r p = true := by unfold okP; rw [decide_eq_true c1, decide_eq_true c2]; rfl
            simp (disch := omega) only [jI_0, jI_1, jI_2, jI_3, jI_4, jI_5, jI_6, jI_7, jI_8, jI_9, jI_10, jI_11, jI_12, jI_13, jI_14, jI_15, jI_16, jI_20, jI_24, jI_26, jI_30, jI_31, jI_32, jI_40, jI_48, jI_56, jI_57, jI_59, jI_60, jI_97, jI_99, jI_122, jI_160, jI_240, jI_255, jI_768, jI_1000, ↓jN_1, ↓jN_2, ↓jN_3, ↓jN_4, ↓jN_8, ↓jN_10, ↓jN_11, ↓jN_12, ↓jN_14, ↓jN_20, jI_addN, jI_le, jI_lt, jI_eq, jI_cl, jI_in, jI_add, jI_sub, jI_eqN, gI_eqI, gI_eqN, gI_leI, gI_ltI, jI_leN, jI_ltN, gI_sub, pif_tt, pif_ff, pg_tt, isB, or_true, true_or, pif_T, pif_F, pg_T, pb_S, upd_e, upd_n, fX9_findPair_12, fX9_findPair_126, fX9_findPair_142, m1, m2, x1, x2, o0, o1, o2, a1, a2, a3, a4, jL_cmp2]
            exact ih (p, 1) (Or.inr ⟨rfl, hp, hok, hno⟩)
          · have hok : okP H f s g V r p = false := by unfold okP; rw [decide_eq_false c2, Bool.and_false]
            simp (disch := omega) only [jI_0, jI_1, jI_2, jI_3, jI_4, jI_5, jI_6, jI_7, jI_8, jI_9, jI_10, jI_11, jI_12, jI_13, jI_14, jI_15, jI_16, jI_20, jI_24, jI_26, jI_30, jI_31, jI_32, jI_40, jI_48, jI_56, jI_57, jI_59, jI_60, jI_97, jI_99, jI_122, jI_160, jI_240, jI_255, jI_768, jI_1000, ↓jN_1, ↓jN_2, ↓jN_3, ↓jN_4, ↓jN_8, ↓jN_10, ↓jN_11, ↓jN_12, ↓jN_14, ↓jN_20, jI_addN, jI_le, jI_lt, jI_eq, jI_cl, jI_in, jI_add, jI_sub, jI_eqN, gI_eqI, gI_eqN, gI_leI, gI_ltI, jI_leN, jI_ltN, gI_sub, pif_tt, pif_ff, pg_tt, isB, or_true, true_or, pif_T, pif_F, pg_T, pb_S, upd_e, upd_n, fX9_findPair_12, fX9_findPair_125, fX9_findPair_126, fX9_findPair_142, m1, m2, x1, x2, o0, o1, o2, a1, a2, a3, a4, jL_cmp2]
            refine ih (0, 0) (Or.inl ⟨rfl, rfl, fun k hk => ?_⟩)
            by_cases hkp : k = p
            · rw [hkp]; exact hok
            · exact hno k (by omega)
        · have hok : okP H f s g V r p = false := by unfold okP; rw [decide_eq_false c1, Bool.false_and]
          simp (disch := omega) only [jI_0, jI_1, jI_2, jI_3, jI_4, jI_5, jI_6, jI_7, jI_8, jI_9, jI_10, jI_11, jI_12, jI_13, jI_14, jI_15, jI_16, jI_20, jI_24, jI_26, jI_30, jI_31, jI_32, jI_40, jI_48, jI_56, jI_57, jI_59, jI_60, jI_97, jI_99, jI_122, jI_160, jI_240, jI_255, jI_768, jI_1000, ↓jN_1, ↓jN_2, ↓jN_3, ↓jN_4, ↓jN_8, ↓jN_10, ↓jN_11, ↓jN_12, ↓jN_14, ↓jN_20, jI_addN, jI_le, jI_lt, jI_eq, jI_cl, jI_in, jI_add, jI_sub, jI_eqN, gI_eqI, gI_eqN, gI_leI, gI_ltI, jI_leN, jI_ltN, gI_sub, pif_tt, pif_ff, pg_tt, isB, or_true, true_or, pif_T, pif_F, pg_T, pb_S, upd_e, upd_n, fX9_findPair_12, fX9_findPair_125, fX9_findPair_126, fX9_findPair_142, m1, m2, x1, x2, o0, o1, o2, a1, a2, a3, a4, jL_cmp2]
          refine ih (0, 0) (Or.inl ⟨rfl, rfl, fun k hk => ?_⟩)
          by_cases hkp : k = p
          · rw [hkp]; exact hok
          · exact hno k (by omega)
      · obtain ⟨a, b⟩ := prP_hit hp4 hyes hno
        simp (disch := omega) only [jI_0, jI_1, jI_2, jI_3, jI_4, jI_5, jI_6, jI_7, jI_8, jI_9, jI_10, jI_11, jI_12, jI_13, jI_14, jI_15, jI_16, jI_20, jI_24, jI_26, jI_30, jI_31, jI_32, jI_40, jI_48, jI_56, jI_57, jI_59, jI_60, jI_97, jI_99, jI_122, jI_160, jI_240, jI_255, jI_768, jI_1000, ↓jN_1, ↓jN_2, ↓jN_3, ↓jN_4, ↓jN_8, ↓jN_10, ↓jN_11, ↓jN_12, ↓jN_14, ↓jN_20, jI_addN, jI_le, jI_lt, jI_eq, jI_cl, jI_in, jI_add, jI_sub, jI_eqN, gI_eqI, gI_eqN, gI_leI, gI_ltI, jI_leN, jI_ltN, gI_sub, pif_tt, pif_ff, pg_tt, isB, or_true, true_or, pif_T, pif_F, pg_T, pb_S, upd_e, upd_n, fX9_findPair_12, fX9_findPair_151]
        exact Ok.s (by rw [a, b])
    · intro fu ⟨pr, st⟩ hP
      simp only at hP
      rcases hP with ⟨rfl, rfl, hno⟩ | ⟨rfl, hp4, hyes, hno⟩
      · obtain ⟨a, b⟩ := prP_none hno
        simp (disch := omega) only [jI_0, jI_1, jI_2, jI_3, jI_4, jI_5, jI_6, jI_7, jI_8, jI_9, jI_10, jI_11, jI_12, jI_13, jI_14, jI_15, jI_16, jI_20, jI_24, jI_26, jI_30, jI_31, jI_32, jI_40, jI_48, jI_56, jI_57, jI_59, jI_60, jI_97, jI_99, jI_122, jI_160, jI_240, jI_255, jI_768, jI_1000, ↓jN_1, ↓jN_2, ↓jN_3, ↓jN_4, ↓jN_8, ↓jN_10, ↓jN_11, ↓jN_12, ↓jN_14, ↓jN_20, jI_addN, jI_le, jI_lt, jI_eq, jI_cl, jI_in, jI_add, jI_sub, jI_eqN, gI_eqI, gI_eqN, gI_leI, gI_ltI, jI_leN, jI_ltN, gI_sub, pif_tt, pif_ff, pg_tt, isB, or_true, true_or, pif_T, pif_F, pg_T, pb_S, upd_e, upd_n, fX9_findPair_12, fX9_findPair_151]
        exact Ok.s (by rw [a, b])
      · obtain ⟨a, b⟩ := prP_hit hp4 hyes hno
        simp (disch := omega) only [jI_0, jI_1, jI_2, jI_3, jI_4, jI_5, jI_6, jI_7, jI_8, jI_9, jI_10, jI_11, jI_12, jI_13, jI_14, jI_15, jI_16, jI_20, jI_24, jI_26, jI_30, jI_31, jI_32, jI_40, jI_48, jI_56, jI_57, jI_59, jI_60, jI_97, jI_99, jI_122, jI_160, jI_240, jI_255, jI_768, jI_1000, ↓jN_1, ↓jN_2, ↓jN_3, ↓jN_4, ↓jN_8, ↓jN_10, ↓jN_11, ↓jN_12, ↓jN_14, ↓jN_20, jI_addN, jI_le, jI_lt, jI_eq, jI_cl, jI_in, jI_add, jI_sub, jI_eqN, gI_eqI, gI_eqN, gI_leI, gI_ltI, jI_leN, jI_ltN, gI_sub, pif_tt, pif_ff, pg_tt, isB, or_true, true_or, pif_T, pif_F, pg_T, pb_S, upd_e, upd_n, fX9_findPair_12, fX9_findPair_151]
        exact Ok.s (by rw [a, b])
  obtain ⟨a, e1, rfl⟩ := key
  exact e1
theorem lookAtM {r g lk un : Nat} {v_wantedFirst : Int32} (hR : Rk H) (hk : Gk (H 0) z f s e) (hG : Gm 0 z f s e c_many c_firsts c_seconds c_goes) (hr : r < 64) (hg : g < z) (hB : ∀ r i, i < H 0 → V r i ≤ 100000000000000) (h1 : ∀ i, i < H 0 → c_tree (6 * (2 * r) + i) = jL (V (2 * r) i)) (h2 : ∀ i, i < H 0 → c_tree (6 * (2 * r + 1) + i) = jL (V (2 * r + 1) i)) : (fX9_lookAt N (jI lk) v_wantedFirst (jI un) c_firsts c_seconds c_tree (jI r) (jI g)) = some (jI (lk + 1), (if 0 < lsA f s g V r then jI g else v_wantedFirst), jI (un + lsA f s g V r)) := by
  have hz := hk.2.1
  have hn := hR.2.1
  obtain ⟨k1, k2, k3, k4⟩ := hk.2.2 g hg
  obtain ⟨m1, m2, m3⟩ := hG.2 g hg
  rw [show 30 * 0 + g = g by omega] at m1 m2
  have a1 := h1 _ k1
  have a2 := h2 _ k1
  have a3 := h1 _ k2
  have a4 := h2 _ k2
  have b1 := hB (2 * r) (f g) k1
  have b2 := hB (2 * r + 1) (f g) k1
  have b3 := hB (2 * r) (s g) k2
  have b4 := hB (2 * r + 1) (s g) k2
  unfold lsA
  by_cases c1 : V (2 * r) (f g) < V (2 * r + 1) (f g)
  · rw [if_pos c1]
    by_cases c2 : V (2 * r + 1) (s g) < V (2 * r) (s g)
    · rw [if_pos c2, if_pos (by omega)]
      simp (disch := omega) only [jI_0, jI_1, jI_2, jI_3, jI_4, jI_5, jI_6, jI_7, jI_8, jI_9, jI_10, jI_11, jI_12, jI_13, jI_14, jI_15, jI_16, jI_20, jI_24, jI_26, jI_30, jI_31, jI_32, jI_40, jI_48, jI_56, jI_57, jI_59, jI_60, jI_97, jI_99, jI_122, jI_160, jI_240, jI_255, jI_768, jI_1000, ↓jN_1, ↓jN_2, ↓jN_3, ↓jN_4, ↓jN_8, ↓jN_10, ↓jN_11, ↓jN_12, ↓jN_14, ↓jN_20, jI_addN, jI_le, jI_lt, jI_eq, jI_cl, jI_in, jI_add, jI_sub, jI_eqN, gI_eqI, gI_eqN, gI_leI, gI_ltI, jI_leN, jI_ltN, gI_sub, pif_tt, pif_ff, pg_tt, isB, or_true, true_or, pif_T, pif_F, pg_T, pb_S, upd_e, upd_n, fX9_lookAt, fX9_lookAt_67, fX9_lookAt_111, fX9_lookAt_139, jI_mul, m1, m2, a1, a2, a3, a4, jL_cmp1]
    · rw [if_neg c2, if_pos (by omega)]
      simp (disch := omega) only [jI_0, jI_1, jI_2, jI_3, jI_4, jI_5, jI_6, jI_7, jI_8, jI_9, jI_10, jI_11, jI_12, jI_13, jI_14, jI_15, jI_16, jI_20, jI_24, jI_26, jI_30, jI_31, jI_32, jI_40, jI_48, jI_56, jI_57, jI_59, jI_60, jI_97, jI_99, jI_122, jI_160, jI_240, jI_255, jI_768, jI_1000, ↓jN_1, ↓jN_2, ↓jN_3, ↓jN_4, ↓jN_8, ↓jN_10, ↓jN_11, ↓jN_12, ↓jN_14, ↓jN_20, jI_addN, jI_le, jI_lt, jI_eq, jI_cl, jI_in, jI_add, jI_sub, jI_eqN, gI_eqI, gI_eqN, gI_leI, gI_ltI, jI_leN, jI_ltN, gI_sub, pif_tt, pif_ff, pg_tt, isB, or_true, true_or, pif_T, pif_F, pg_T, pb_S, upd_e, upd_n, fX9_lookAt, fX9_lookAt_67, fX9_lookAt_111, fX9_lookAt_139, jI_mul, m1, m2, a1, a2, a3, a4, jL_cmp1]
  · rw [if_neg c1]
    by_cases c2 : V (2 * r + 1) (s g) < V (2 * r) (s g)
    · rw [if_pos c2, if_pos (by omega)]
      simp (disch := omega) only [jI_0, jI_1, jI_2, jI_3, jI_4, jI_5, jI_6, jI_7, jI_8, jI_9, jI_10, jI_11, jI_12, jI_13, jI_14, jI_15, jI_16, jI_20, jI_24, jI_26, jI_30, jI_31, jI_32, jI_40, jI_48, jI_56, jI_57, jI_59, jI_60, jI_97, jI_99, jI_122, jI_160, jI_240, jI_255, jI_768, jI_1000, ↓jN_1, ↓jN_2, ↓jN_3, ↓jN_4, ↓jN_8, ↓jN_10, ↓jN_11, ↓jN_12, ↓jN_14, ↓jN_20, jI_addN, jI_le, jI_lt, jI_eq, jI_cl, jI_in, jI_add, jI_sub, jI_eqN, gI_eqI, gI_eqN, gI_leI, gI_ltI, jI_leN, jI_ltN, gI_sub, pif_tt, pif_ff, pg_tt, isB, or_true, true_or, pif_T, pif_F, pg_T, pb_S, upd_e, upd_n, fX9_lookAt, fX9_lookAt_67, fX9_lookAt_111, fX9_lookAt_139, jI_mul, m1, m2, a1, a2, a3, a4, jL_cmp1]
    · rw [if_neg c2, if_neg (by omega)]
      simp (disch := omega) only [jI_0, jI_1, jI_2, jI_3, jI_4, jI_5, jI_6, jI_7, jI_8, jI_9, jI_10, jI_11, jI_12, jI_13, jI_14, jI_15, jI_16, jI_20, jI_24, jI_26, jI_30, jI_31, jI_32, jI_40, jI_48, jI_56, jI_57, jI_59, jI_60, jI_97, jI_99, jI_122, jI_160, jI_240, jI_255, jI_768, jI_1000, ↓jN_1, ↓jN_2, ↓jN_3, ↓jN_4, ↓jN_8, ↓jN_10, ↓jN_11, ↓jN_12, ↓jN_14, ↓jN_20, jI_addN, jI_le, jI_lt, jI_eq, jI_cl, jI_in, jI_add, jI_sub, jI_eqN, gI_eqI, gI_eqN, gI_leI, gI_ltI, jI_leN, jI_ltN, gI_sub, pif_tt, pif_ff, pg_tt, isB, or_true, true_or, pif_T, pif_F, pg_T, pb_S, upd_e, upd_n, fX9_lookAt, fX9_lookAt_67, fX9_lookAt_111, fX9_lookAt_139, jI_mul, m1, m2, a1, a2, a3, a4, jL_cmp1]
theorem layBack_62M {r g p d : Nat} {x1 : Int32} {Q : Int32 × Int64 × Int32 × Int32 × Int32 × Int32 × Int32 × (Nat → Int32) × (Nat → Int32) × (Nat → Int32) × (Nat → Int32) × (Nat → Int32) × (Nat → Int32) × (Nat → Int32) × (Nat → Int32) × (Nat → Int64) × (Nat → Int32) → Prop} {k11 k25} (hN : 100 ≤ N) (hR : Rk H) (hh : Rm H c_holds) (hk : Gk (H 0) z f s e) (hG : Gm 0 z f s e c_many c_firsts c_seconds c_goes) (hr : r < 64) (hg : g < z) (hp : p < 4) (h1 : ∀ i, i < H 0 → c_tree (6 * (2 * r) + i) = jL (V (2 * r) i)) (h2 : ∀ i, i < H 0 → c_tree (6 * (2 * r + 1) + i) = jL (V (2 * r + 1) i)) (hk25 : ∀ ct, (∀ i, i < H 0 → ct (6 * r + i) = jL (mnN (odR H f s g p) V r i)) → (∀ k, (k < 6 * r ∨ 6 * r + 6 ≤ k) → ct k = c_tree k) → Ok (k25 (jI d) (jI g) (jI (r + 1)) v_isPair v_leaves v_looked v_open (jI p) v_wantedFirst v_wantedMany c_chooser c_goes c_later c_opens c_outs c_payOf c_placeOf c_sideAt ct c_won) Q) : Ok ((fX9_layBack_62 N c_firsts c_holds c_many c_seconds x1 k11 k25 N (jI d) (jI g) (jI r) (jI 0) v_isPair v_leaves v_looked v_open (jI p) v_wantedFirst v_wantedMany c_chooser c_goes c_later c_opens c_outs c_payOf c_placeOf c_sideAt c_tree c_won)) Q := by
  have hz := hk.2.1
  have hn := hR.2.1
  have o0 := oddsByM (N := N) hR hh hk hG hg hp
  have ol := odR_le H f s g p
  refine up_ok (fun fu i ct => (fX9_layBack_62 N c_firsts c_holds c_many c_seconds x1 k11 k25 fu (jI d) (jI g) (jI r) (jI i) v_isPair v_leaves v_looked v_open (jI p) v_wantedFirst v_wantedMany c_chooser c_goes c_later c_opens c_outs c_payOf c_placeOf c_sideAt ct c_won)) _ 6 (fun m ct => (∀ i, i < m → i < H 0 → ct (6 * r + i) = jL (mnN (odR H f s g p) V r i)) ∧ (∀ i, m ≤ i → i < H 0 → ct (6 * (2 * r) + i) = jL (V (2 * r) i)) ∧ (∀ i, i < H 0 → ct (6 * (2 * r + 1) + i) = jL (V (2 * r + 1) i)) ∧ ∀ k, (k < 6 * r ∨ 6 * r + 6 ≤ k) → ct k = c_tree k) ?_ ?_ N 0 c_tree (by omega) (by omega) ⟨fun i h => by omega, fun i _ h => h1 i h, h2, fun _ _ => rfl⟩
  · intro fu i ct hi ⟨a1, a2, a3, a4⟩ ih
    have step : ∀ v, (i < H 0 → v = jL (mnN (odR H f s g p) V r i)) → ((∀ j, j < i + 1 → j < H 0 → (vp_updL ct (6 * r + i) v) (6 * r + j) = jL (mnN (odR H f s g p) V r j)) ∧ (∀ j, i + 1 ≤ j → j < H 0 → (vp_updL ct (6 * r + i) v) (6 * (2 * r) + j) = jL (V (2 * r) j)) ∧ (∀ j, j < H 0 → (vp_updL ct (6 * r + i) v) (6 * (2 * r + 1) + j) = jL (V (2 * r + 1) j)) ∧ ∀ k, (k < 6 * r ∨ 6 * r + 6 ≤ k) → (vp_updL ct (6 * r + i) v) k = c_tree k) := by
      intro v hv
      refine ⟨fun j hj hjn => ?_, fun j hj hj2 => ?_, fun j hj => ?_, fun k hk => ?_⟩
      · by_cases h : j = i
        · rw [updL_e (by omega), h]; exact hv (by omega)
        · rw [updL_n (by omega)]; exact a1 j (by omega) hjn
      · rw [updL_n (by omega)]; exact a2 j (by omega) hj2
      · rw [updL_n (by omega)]; exact a3 j hj
      · rw [updL_n (by omega)]; exact a4 k hk
    by_cases hin : i < H 0
    · have m : fX9_mean N ct (jI r) (jI i) (jI (odR H f s g p)) = some (jL (mnN (odR H f s g p) V r i)) := by
        have q1 := a2 i (Nat.le_refl _) hin
        have q2 := a3 i hin
        unfold mnN
        simp (disch := omega) only [jI_0, jI_1, jI_2, jI_3, jI_4, jI_5, jI_6, jI_7, jI_8, jI_9, jI_10, jI_11, jI_12, jI_13, jI_14, jI_15, jI_16, jI_20, jI_24, jI_26, jI_30, jI_31, jI_32, jI_40, jI_48, jI_56, jI_57, jI_59, jI_60, jI_97, jI_99, jI_122, jI_160, jI_240, jI_255, jI_768, jI_1000, ↓jN_1, ↓jN_2, ↓jN_3, ↓jN_4, ↓jN_8, ↓jN_10, ↓jN_11, ↓jN_12, ↓jN_14, ↓jN_20, jI_addN, jI_le, jI_lt, jI_eq, jI_cl, jI_in, jI_add, jI_sub, jI_eqN, gI_eqI, gI_eqN, gI_leI, gI_ltI, jI_leN, jI_ltN, gI_sub, pif_tt, pif_ff, pg_tt, isB, or_true, true_or, pif_T, pif_F, pg_T, pb_S, upd_e, upd_n, jL_0, jL_1, jL_2, jL_5, jL_6, jL_15, jL_16, jL_63, jI_mul, jI_L, jL_I, jL_add, jL_sub, jL_mul, fX9_mean, q1, q2]
      simp (disch := omega) only [jI_0, jI_1, jI_2, jI_3, jI_4, jI_5, jI_6, jI_7, jI_8, jI_9, jI_10, jI_11, jI_12, jI_13, jI_14, jI_15, jI_16, jI_20, jI_24, jI_26, jI_30, jI_31, jI_32, jI_40, jI_48, jI_56, jI_57, jI_59, jI_60, jI_97, jI_99, jI_122, jI_160, jI_240, jI_255, jI_768, jI_1000, ↓jN_1, ↓jN_2, ↓jN_3, ↓jN_4, ↓jN_8, ↓jN_10, ↓jN_11, ↓jN_12, ↓jN_14, ↓jN_20, jI_addN, jI_le, jI_lt, jI_eq, jI_cl, jI_in, jI_add, jI_sub, jI_eqN, gI_eqI, gI_eqN, gI_leI, gI_ltI, jI_leN, jI_ltN, gI_sub, pif_tt, pif_ff, pg_tt, isB, or_true, true_or, pif_T, pif_F, pg_T, pb_S, upd_e, upd_n, jL_0, jL_1, jL_2, jL_5, jL_6, jL_15, jL_16, jL_63, jI_mul, jI_L, jL_I, jL_add, jL_sub, jL_mul, fX9_layBack_62, o0, m]
      exact ih _ (step _ (fun _ => rfl))
    · obtain ⟨v, m⟩ := meanA (N := N) (c_tree := ct) (r := r) (i := i) (o := odR H f s g p) hr hi (by omega)
      simp (disch := omega) only [jI_0, jI_1, jI_2, jI_3, jI_4, jI_5, jI_6, jI_7, jI_8, jI_9, jI_10, jI_11, jI_12, jI_13, jI_14, jI_15, jI_16, jI_20, jI_24, jI_26, jI_30, jI_31, jI_32, jI_40, jI_48, jI_56, jI_57, jI_59, jI_60, jI_97, jI_99, jI_122, jI_160, jI_240, jI_255, jI_768, jI_1000, ↓jN_1, ↓jN_2, ↓jN_3, ↓jN_4, ↓jN_8, ↓jN_10, ↓jN_11, ↓jN_12, ↓jN_14, ↓jN_20, jI_addN, jI_le, jI_lt, jI_eq, jI_cl, jI_in, jI_add, jI_sub, jI_eqN, gI_eqI, gI_eqN, gI_leI, gI_ltI, jI_leN, jI_ltN, gI_sub, pif_tt, pif_ff, pg_tt, isB, or_true, true_or, pif_T, pif_F, pg_T, pb_S, upd_e, upd_n, jL_0, jL_1, jL_2, jL_5, jL_6, jL_15, jL_16, jL_63, jI_mul, jI_L, jL_I, jL_add, jL_sub, jL_mul, fX9_layBack_62, o0, m]
      exact ih _ (step _ (fun c => absurd c hin))
  · intro fu ct ⟨a1, a2, a3, a4⟩
    simp (disch := omega) only [jI_0, jI_1, jI_2, jI_3, jI_4, jI_5, jI_6, jI_7, jI_8, jI_9, jI_10, jI_11, jI_12, jI_13, jI_14, jI_15, jI_16, jI_20, jI_24, jI_26, jI_30, jI_31, jI_32, jI_40, jI_48, jI_56, jI_57, jI_59, jI_60, jI_97, jI_99, jI_122, jI_160, jI_240, jI_255, jI_768, jI_1000, ↓jN_1, ↓jN_2, ↓jN_3, ↓jN_4, ↓jN_8, ↓jN_10, ↓jN_11, ↓jN_12, ↓jN_14, ↓jN_20, jI_addN, jI_le, jI_lt, jI_eq, jI_cl, jI_in, jI_add, jI_sub, jI_eqN, gI_eqI, gI_eqN, gI_leI, gI_ltI, jI_leN, jI_ltN, gI_sub, pif_tt, pif_ff, pg_tt, isB, or_true, true_or, pif_T, pif_F, pg_T, pb_S, upd_e, upd_n, jL_0, jL_1, jL_2, jL_5, jL_6, jL_15, jL_16, jL_63, jI_mul, jI_L, jL_I, jL_add, jL_sub, jL_mul, fX9_layBack_62]
    exact hk25 ct (fun i hi => a1 i (by omega) hi) a4
theorem playM (hN : 1000 ≤ N) (hR : Rk H) (hh : Rm H c_holds) (hk : Gk (H 0) z f s e) (hG : Gm 0 z f s e c_many c_firsts c_seconds c_goes) (hd : cnt z (isOp e) ≤ 7) : Ok ((fX9_layBack N v_isPair v_leaves v_looked v_open v_pair v_wantedFirst v_wantedMany c_chooser c_firsts c_goes c_holds c_later c_many c_opens c_outs c_payOf c_placeOf c_seconds c_sideAt c_tree c_won (jI 1))) (fun q => (∀ i, i < H 0 → q.2.2.2.2.2.2.2.2.2.2.2.2.2.2.2.1 i = jL (bkV H z f s e true (cnt z (isOp e)) 0 i)) ∧ q.2.1 = jL (unitN H * 16 ^ cnt z (isOp e)) ∧ (0 < cnt z (isOp e) → q.2.2.2.2.1 = jI (prP H f s (opN z (isOp e) 0) (bkV H z f s e true (cnt z (isOp e) - 1)) 0) ∧ q.1 = jI (stP H f s (opN z (isOp e) 0) (bkV H z f s e true (cnt z (isOp e) - 1)) 0)) ∧ Gm 0 z f s e c_many c_firsts c_seconds q.2.2.2.2.2.2.2.2.1 ∧ (∀ k, k < cnt z (isOp e) → q.2.2.2.2.2.2.2.2.2.2.1 k = jI (opN z (isOp e) k))) := by
  have hn := hR.2.1
  have hz := hk.2.1
  unfold fX9_layBack
  refine Ok.b (layLeavesM hN hR hh hk hG hd) ?_
  intro ⟨w1, w2, c1, cg, c3, cop, c5, c6, c7, c8, ct, c9⟩ ⟨l1, l2, hG, l3, l4⟩
  simp only at l1 l2 hG l3 l4
  subst l1 l2
  simp only [jI_1, jI_m1]
  refine dn_ok (fun fu k (q : Int32 × Nat × Int32 × (Nat → Int64)) => (fX9_layBack_11 N c_firsts c_holds c_many c_seconds (jI 1) fu (mI k) q.1 (jL q.2.1) v_looked (jI (cnt z (isOp e))) q.2.2.1 v_wantedFirst v_wantedMany c1 cg c3 cop c5 c6 c7 c8 q.2.2.2 c9)) _ (fun k q => k ≤ cnt z (isOp e) ∧ q.2.1 = unitN H * 16 ^ (cnt z (isOp e) - k) ∧ (∀ r, r < 2 ^ k → ∀ i, i < H 0 → q.2.2.2 (6 * r + i) = jL (bkV H z f s e true (cnt z (isOp e) - k) r i)) ∧ (k < cnt z (isOp e) → q.2.2.1 = jI (prP H f s (opN z (isOp e) k) (bkV H z f s e true (cnt z (isOp e) - (k + 1))) (2 ^ k - 1)) ∧ q.1 = jI (stP H f s (opN z (isOp e) k) (bkV H z f s e true (cnt z (isOp e) - (k + 1))) (2 ^ k - 1)))) ?_ ?_ N (cnt z (isOp e)) (v_isPair, unitN H, v_pair, ct) (by omega) ⟨Nat.le_refl _, by rw [Nat.sub_self, Nat.pow_zero, Nat.mul_one], fun r hr i hi => by rw [Nat.sub_self]; exact l4 r hr i hi, fun h => absurd h (Nat.lt_irrefl _)⟩
  · intro fu d ⟨ip, lv, vp, ct⟩ ⟨hdd, hlv, h1, _⟩ ih
    simp only at hlv h1
    have hdlt : d < cnt z (isOp e) := by omega
    have ok := op_ok hdlt
    have o1 := ok.1
    have o4 := l3 d hdlt
    have hp64 := pw_le6 d (by omega)
    have hsh := shl_ok d (by omega)
    have h2d : 2 ^ (d + 1) = 2 * 2 ^ d := by rw [Nat.pow_succ]; omega
    have hpos := pw_pos d
    simp only [mI_S]
    simp (disch := omega) only [jI_0, jI_1, jI_2, jI_3, jI_4, jI_5, jI_6, jI_7, jI_8, jI_9, jI_10, jI_11, jI_12, jI_13, jI_14, jI_15, jI_16, jI_20, jI_24, jI_26, jI_30, jI_31, jI_32, jI_40, jI_48, jI_56, jI_57, jI_59, jI_60, jI_97, jI_99, jI_122, jI_160, jI_240, jI_255, jI_768, jI_1000, ↓jN_1, ↓jN_2, ↓jN_3, ↓jN_4, ↓jN_8, ↓jN_10, ↓jN_11, ↓jN_12, ↓jN_14, ↓jN_20, jI_addN, jI_le, jI_lt, jI_eq, jI_cl, jI_in, jI_add, jI_sub, jI_eqN, gI_eqI, gI_eqN, gI_leI, gI_ltI, jI_leN, jI_ltN, gI_sub, pif_tt, pif_ff, pg_tt, isB, or_true, true_or, pif_T, pif_F, pg_T, pb_S, upd_e, upd_n, fX9_layBack_11, o4]
    refine up_ok (fun fu2 r (q : Int32 × Int32 × (Nat → Int64)) => (fX9_layBack_25 N c_firsts c_holds c_many c_seconds (jI 1) (fX9_layBack_11 N c_firsts c_holds c_many c_seconds (jI 1) fu) fu2 (jI d) (jI (opN z (isOp e) d)) (jI r) q.1 (jL lv) v_looked (jI (cnt z (isOp e))) q.2.1 v_wantedFirst v_wantedMany c1 cg c3 cop c5 c6 c7 c8 q.2.2 c9)) _ (2 ^ d) (fun m q => (∀ r, r < m → ∀ i, i < H 0 → q.2.2 (6 * r + i) = jL (bkV H z f s e true (cnt z (isOp e) - d) r i)) ∧ (∀ r, m ≤ r → r < 2 ^ (d + 1) → ∀ i, i < H 0 → q.2.2 (6 * r + i) = jL (bkV H z f s e true (cnt z (isOp e) - (d + 1)) r i)) ∧ (0 < m → q.2.1 = jI (prP H f s (opN z (isOp e) d) (bkV H z f s e true (cnt z (isOp e) - (d + 1))) (m - 1)) ∧ q.1 = jI (stP H f s (opN z (isOp e) d) (bkV H z f s e true (cnt z (isOp e) - (d + 1))) (m - 1)))) ?_ ?_ N 0 (ip, vp, ct) (Nat.zero_le _) (by omega) ⟨fun r h => absurd h (Nat.not_lt_zero _), fun r _ hr i hi => h1 r hr i hi, fun h => absurd h (Nat.not_lt_zero _)⟩
    · intro fu2 r ⟨ip, vp, ct⟩ hr ⟨a1, a2, _⟩ ih2
      simp only at a1 a2
      have hB : ∀ r i, i < H 0 → bkV H z f s e true (cnt z (isOp e) - (d + 1)) r i ≤ 100000000000000 := fun r i hi => bkV_lt hR (by omega) hi
      have q1 : ∀ i, i < H 0 → ct (6 * (2 * r) + i) = jL (bkV H z f s e true (cnt z (isOp e) - (d + 1)) (2 * r) i) := a2 (2 * r) (by omega) (by omega)
      have q2 : ∀ i, i < H 0 → ct (6 * (2 * r + 1) + i) = jL (bkV H z f s e true (cnt z (isOp e) - (d + 1)) (2 * r + 1) i) := a2 (2 * r + 1) (by omega) (by omega)
      have e2 := findPairM (N := N) (V := bkV H z f s e true (cnt z (isOp e) - (d + 1))) (v_isPair := ip) (v_pair := jI 0) (by omega) hR hh hk hG (show r < 64 by omega) o1 hB q1 q2
      have hpl := prP_lt H f s (opN z (isOp e) d) (bkV H z f s e true (cnt z (isOp e) - (d + 1))) r
      simp (disch := omega) only [jI_0, jI_1, jI_2, jI_3, jI_4, jI_5, jI_6, jI_7, jI_8, jI_9, jI_10, jI_11, jI_12, jI_13, jI_14, jI_15, jI_16, jI_20, jI_24, jI_26, jI_30, jI_31, jI_32, jI_40, jI_48, jI_56, jI_57, jI_59, jI_60, jI_97, jI_99, jI_122, jI_160, jI_240, jI_255, jI_768, jI_1000, ↓jN_1, ↓jN_2, ↓jN_3, ↓jN_4, ↓jN_8, ↓jN_10, ↓jN_11, ↓jN_12, ↓jN_14, ↓jN_20, jI_addN, jI_le, jI_lt, jI_eq, jI_cl, jI_in, jI_add, jI_sub, jI_eqN, gI_eqI, gI_eqN, gI_leI, gI_ltI, jI_leN, jI_ltN, gI_sub, pif_tt, pif_ff, pg_tt, isB, or_true, true_or, pif_T, pif_F, pg_T, pb_S, upd_e, upd_n, fX9_layBack_25, fX9_layBack_59, hsh, e2]
      refine layBack_62M (V := bkV H z f s e true (cnt z (isOp e) - (d + 1))) (by omega) hR hh hk hG (by omega) o1 hpl q1 q2 (fun ct2 j1 j2 => ?_)
      refine ih2 (_, _, ct2) ⟨fun r' hr' i hi => ?_, fun r' h5 h6 i hi => ?_, fun _ => ⟨rfl, rfl⟩⟩
      · show ct2 (6 * r' + i) = _
        by_cases hc : r' = r
        · rw [hc, j1 i hi, bkV_step hdlt]; rfl
        · rw [j2 _ (by omega)]; exact a1 r' (by omega) i hi
      · show ct2 (6 * r' + i) = _
        rw [j2 _ (by omega)]; exact a2 r' (by omega) h6 i hi
    · intro fu2 ⟨ip, vp, ct⟩ ⟨a1, a2, a3⟩
      simp only at a1 a2 a3
      simp (disch := omega) only [jI_0, jI_1, jI_2, jI_3, jI_4, jI_5, jI_6, jI_7, jI_8, jI_9, jI_10, jI_11, jI_12, jI_13, jI_14, jI_15, jI_16, jI_20, jI_24, jI_26, jI_30, jI_31, jI_32, jI_40, jI_48, jI_56, jI_57, jI_59, jI_60, jI_97, jI_99, jI_122, jI_160, jI_240, jI_255, jI_768, jI_1000, ↓jN_1, ↓jN_2, ↓jN_3, ↓jN_4, ↓jN_8, ↓jN_10, ↓jN_11, ↓jN_12, ↓jN_14, ↓jN_20, jI_addN, jI_le, jI_lt, jI_eq, jI_cl, jI_in, jI_add, jI_sub, jI_eqN, gI_eqI, gI_eqN, gI_leI, gI_ltI, jI_leN, jI_ltN, gI_sub, pif_tt, pif_ff, pg_tt, isB, or_true, true_or, pif_T, pif_F, pg_T, pb_S, upd_e, upd_n, jL_0, jL_1, jL_2, jL_5, jL_6, jL_15, jL_16, jL_63, jI_mul, jI_L, jL_I, jL_add, jL_sub, jL_mul, fX9_layBack_25, hsh]
      refine ih (ip, _, vp, ct) ⟨by omega, ?_, a1, fun _ => a3 (by omega)⟩
      show lv * 16 = _
      rw [hlv, show cnt z (isOp e) - d = (cnt z (isOp e) - (d + 1)) + 1 by omega, Nat.pow_succ, Nat.mul_assoc]
  · intro fu ⟨ip, lv, vp, ct⟩ ⟨_, hlv, h1, h2⟩
    simp only at hlv h1 h2
    rw [Nat.sub_zero] at h1 hlv
    simp (disch := omega) only [jI_0, jI_1, jI_2, jI_3, jI_4, jI_5, jI_6, jI_7, jI_8, jI_9, jI_10, jI_11, jI_12, jI_13, jI_14, jI_15, jI_16, jI_20, jI_24, jI_26, jI_30, jI_31, jI_32, jI_40, jI_48, jI_56, jI_57, jI_59, jI_60, jI_97, jI_99, jI_122, jI_160, jI_240, jI_255, jI_768, jI_1000, ↓jN_1, ↓jN_2, ↓jN_3, ↓jN_4, ↓jN_8, ↓jN_10, ↓jN_11, ↓jN_12, ↓jN_14, ↓jN_20, jI_addN, jI_le, jI_lt, jI_eq, jI_cl, jI_in, jI_add, jI_sub, jI_eqN, gI_eqI, gI_eqN, gI_leI, gI_ltI, jI_leN, jI_ltN, gI_sub, pif_tt, pif_ff, pg_tt, isB, or_true, true_or, pif_T, pif_F, pg_T, pb_S, upd_e, upd_n, fX9_layBack_11, mI_lt0]
    refine Ok.s ⟨fun i hi => ?_, by rw [hlv], fun h => h2 h, hG, l3⟩
    have := h1 0 (by decide) i hi
    rwa [show 6 * 0 + i = i by omega] at this
theorem paysM (hN : 1000 ≤ N) (hR : Rk H) (hh : Rm H c_holds) (hk : Gk (H 0) z f s e) (hG : Gm 0 z f s e c_many c_firsts c_seconds c_goes) (hd : cnt z (isOp e) ≤ 7) : Ok ((fX9_layBack N v_isPair v_leaves (jI 0) v_open v_pair (gI 4) (jI 0) c_chooser c_firsts c_goes c_holds c_later c_many c_opens c_outs c_payOf c_placeOf c_seconds c_sideAt c_tree c_won (jI 0))) (fun q => q.2.2.1 = jI (2 ^ cnt z (isOp e) - 1) ∧ q.2.2.2.2.2.1 = fpJ H z f s e (cnt z (isOp e)) ∧ q.2.2.2.2.2.2.1 = jI (unJ H z f s e (cnt z (isOp e))) ∧ Gm 0 z f s e c_many c_firsts c_seconds q.2.2.2.2.2.2.2.2.1) := by
  have hn := hR.2.1
  have hz := hk.2.1
  unfold fX9_layBack
  refine Ok.b (layLeavesM hN hR hh hk hG hd) ?_
  intro ⟨w1, w2, c1, cg, c3, cop, c5, c6, c7, c8, ct, c9⟩ ⟨l1, l2, hG, l3, l4⟩
  simp only at l1 l2 hG l3 l4
  subst l1 l2
  simp only [jI_1, jI_m1]
  refine dn_ok (fun fu k (q : Int32 × Int64 × Nat × Int32 × Int32 × Nat × (Nat → Int64)) => (fX9_layBack_11 N c_firsts c_holds c_many c_seconds (jI 0) fu (mI k) q.1 q.2.1 (jI q.2.2.1) (jI (cnt z (isOp e))) q.2.2.2.1 q.2.2.2.2.1 (jI q.2.2.2.2.2.1) c1 cg c3 cop c5 c6 c7 c8 q.2.2.2.2.2.2 c9)) _ (fun k q => k ≤ cnt z (isOp e) ∧ q.2.2.1 = 2 ^ cnt z (isOp e) - 2 ^ k ∧ q.2.2.2.2.1 = fpJ H z f s e (cnt z (isOp e) - k) ∧ q.2.2.2.2.2.1 = unJ H z f s e (cnt z (isOp e) - k) ∧ (∀ r, r < 2 ^ k → ∀ i, i < H 0 → q.2.2.2.2.2.2 (6 * r + i) = jL (bkV H z f s e false (cnt z (isOp e) - k) r i))) ?_ ?_ N (cnt z (isOp e)) (v_isPair, jL (unitN H), 0, v_pair, gI 4, 0, ct) (by omega) ⟨Nat.le_refl _, by rw [Nat.sub_self], by rw [Nat.sub_self]; rfl, by rw [Nat.sub_self]; rfl, fun r hr i hi => by rw [Nat.sub_self]; exact l4 r hr i hi⟩
  · intro fu d ⟨ip, lv, lk, vp, fp, un, ct⟩ ⟨hdd, hlk, hfp, hun, h1⟩ ih
    simp only at hlk hfp hun h1
    have hdlt : d < cnt z (isOp e) := by omega
    have ok := op_ok hdlt
    have o1 := ok.1
    have o4 := l3 d hdlt
    have hp64 := pw_le6 d (by omega)
    have hsh := shl_ok d (by omega)
    have h2d : 2 ^ (d + 1) = 2 * 2 ^ d := by rw [Nat.pow_succ]; omega
    have h2e : 2 ^ (d + 1) ≤ 2 ^ cnt z (isOp e) := Nat.pow_le_pow_right (by omega) hdd
    have hpos := pw_pos d
    have hust := unJ_step (H := H) (f := f) (s := s) hdlt
    have hfst := fpJ_step (H := H) (f := f) (s := s) hdlt
    simp only [mI_S]
    simp (disch := omega) only [jI_0, jI_1, jI_2, jI_3, jI_4, jI_5, jI_6, jI_7, jI_8, jI_9, jI_10, jI_11, jI_12, jI_13, jI_14, jI_15, jI_16, jI_20, jI_24, jI_26, jI_30, jI_31, jI_32, jI_40, jI_48, jI_56, jI_57, jI_59, jI_60, jI_97, jI_99, jI_122, jI_160, jI_240, jI_255, jI_768, jI_1000, ↓jN_1, ↓jN_2, ↓jN_3, ↓jN_4, ↓jN_8, ↓jN_10, ↓jN_11, ↓jN_12, ↓jN_14, ↓jN_20, jI_addN, jI_le, jI_lt, jI_eq, jI_cl, jI_in, jI_add, jI_sub, jI_eqN, gI_eqI, gI_eqN, gI_leI, gI_ltI, jI_leN, jI_ltN, gI_sub, pif_tt, pif_ff, pg_tt, isB, or_true, true_or, pif_T, pif_F, pg_T, pb_S, upd_e, upd_n, fX9_layBack_11, o4]
    refine up_ok (fun fu2 r (q : Nat × Int32 × Int32 × Nat × (Nat → Int64)) => (fX9_layBack_25 N c_firsts c_holds c_many c_seconds (jI 0) (fX9_layBack_11 N c_firsts c_holds c_many c_seconds (jI 0) fu) fu2 (jI d) (jI (opN z (isOp e) d)) (jI r) ip lv (jI q.1) (jI (cnt z (isOp e))) q.2.1 q.2.2.1 (jI q.2.2.2.1) c1 cg c3 cop c5 c6 c7 c8 q.2.2.2.2 c9)) _ (2 ^ d) (fun m q => q.1 = lk + m ∧ q.2.2.1 = (if 0 < sumN m (lsA f s (opN z (isOp e) d) (bkV H z f s e false (cnt z (isOp e) - (d + 1)))) then jI (opN z (isOp e) d) else fp) ∧ q.2.2.2.1 = un + sumN m (lsA f s (opN z (isOp e) d) (bkV H z f s e false (cnt z (isOp e) - (d + 1)))) ∧ (∀ r, r < m → ∀ i, i < H 0 → q.2.2.2.2 (6 * r + i) = jL (bkV H z f s e false (cnt z (isOp e) - d) r i)) ∧ (∀ r, m ≤ r → r < 2 ^ (d + 1) → ∀ i, i < H 0 → q.2.2.2.2 (6 * r + i) = jL (bkV H z f s e false (cnt z (isOp e) - (d + 1)) r i))) ?_ ?_ N 0 (lk, vp, fp, un, ct) (Nat.zero_le _) (by omega) ⟨rfl, by rw [if_neg (by simp [sumN])], rfl, fun r h => absurd h (Nat.not_lt_zero _), fun r _ hr i hi => h1 r hr i hi⟩
    · intro fu2 r ⟨lk2, vp, fp2, un2, ct⟩ hr ⟨hl2, hf2, hu2, a1, a2⟩ ih2
      simp only at hl2 hf2 hu2 a1 a2
      have hB : ∀ r i, i < H 0 → bkV H z f s e false (cnt z (isOp e) - (d + 1)) r i ≤ 100000000000000 := fun r i hi => bkV_lt hR (by omega) hi
      have q1 : ∀ i, i < H 0 → ct (6 * (2 * r) + i) = jL (bkV H z f s e false (cnt z (isOp e) - (d + 1)) (2 * r) i) := a2 (2 * r) (by omega) (by omega)
      have q2 : ∀ i, i < H 0 → ct (6 * (2 * r + 1) + i) = jL (bkV H z f s e false (cnt z (isOp e) - (d + 1)) (2 * r + 1) i) := a2 (2 * r + 1) (by omega) (by omega)
      have e2 := lookAtM (N := N) (V := bkV H z f s e false (cnt z (isOp e) - (d + 1))) (lk := lk2) (un := un2) (v_wantedFirst := fp2) hR hk hG (show r < 64 by omega) o1 hB q1 q2
      simp (disch := omega) only [jI_0, jI_1, jI_2, jI_3, jI_4, jI_5, jI_6, jI_7, jI_8, jI_9, jI_10, jI_11, jI_12, jI_13, jI_14, jI_15, jI_16, jI_20, jI_24, jI_26, jI_30, jI_31, jI_32, jI_40, jI_48, jI_56, jI_57, jI_59, jI_60, jI_97, jI_99, jI_122, jI_160, jI_240, jI_255, jI_768, jI_1000, ↓jN_1, ↓jN_2, ↓jN_3, ↓jN_4, ↓jN_8, ↓jN_10, ↓jN_11, ↓jN_12, ↓jN_14, ↓jN_20, jI_addN, jI_le, jI_lt, jI_eq, jI_cl, jI_in, jI_add, jI_sub, jI_eqN, gI_eqI, gI_eqN, gI_leI, gI_ltI, jI_leN, jI_ltN, gI_sub, pif_tt, pif_ff, pg_tt, isB, or_true, true_or, pif_T, pif_F, pg_T, pb_S, upd_e, upd_n, fX9_layBack_25, fX9_layBack_59, hsh, e2]
      refine layBack_62M (p := 0) (V := bkV H z f s e false (cnt z (isOp e) - (d + 1))) (by omega) hR hh hk hG (by omega) o1 (by omega) q1 q2 (fun ct2 j1 j2 => ?_)
      refine ih2 (_, jI 0, _, _, ct2) ⟨?_, ?_, ?_, fun r' hr' i hi => ?_, fun r' h5 h6 i hi => ?_⟩
      · show lk2 + 1 = _
        omega
      · show (if 0 < lsA f s (opN z (isOp e) d) (bkV H z f s e false (cnt z (isOp e) - (d + 1))) r then jI (opN z (isOp e) d) else fp2) = _
        have hsum : sumN (r + 1) (lsA f s (opN z (isOp e) d) (bkV H z f s e false (cnt z (isOp e) - (d + 1)))) = sumN r (lsA f s (opN z (isOp e) d) (bkV H z f s e false (cnt z (isOp e) - (d + 1)))) + lsA f s (opN z (isOp e) d) (bkV H z f s e false (cnt z (isOp e) - (d + 1))) r := rfl
        rw [hf2]
        by_cases c1 : 0 < lsA f s (opN z (isOp e) d) (bkV H z f s e false (cnt z (isOp e) - (d + 1))) r
        · rw [if_pos c1, if_pos (by omega)]
        · rw [if_neg c1]
          by_cases c2 : 0 < sumN r (lsA f s (opN z (isOp e) d) (bkV H z f s e false (cnt z (isOp e) - (d + 1))))
          · rw [if_pos c2, if_pos (by omega)]
          · rw [if_neg c2, if_neg (by omega)]
      · show un2 + _ = _
        simp only [sumN]; rw [hu2, Nat.add_assoc]
      · show ct2 (6 * r' + i) = _
        by_cases hc : r' = r
        · rw [hc, j1 i hi, bkV_step hdlt]; rfl
        · rw [j2 _ (by omega)]; exact a1 r' (by omega) i hi
      · show ct2 (6 * r' + i) = _
        rw [j2 _ (by omega)]; exact a2 r' (by omega) h6 i hi
    · intro fu2 ⟨lk2, vp, fp2, un2, ct⟩ ⟨hl2, hf2, hu2, a1, a2⟩
      simp only at hl2 hf2 hu2 a1 a2
      have hun2 : unL H z f s e d = sumN (2 ^ d) (lsA f s (opN z (isOp e) d) (bkV H z f s e false (cnt z (isOp e) - (d + 1)))) := rfl
      simp (disch := omega) only [jI_0, jI_1, jI_2, jI_3, jI_4, jI_5, jI_6, jI_7, jI_8, jI_9, jI_10, jI_11, jI_12, jI_13, jI_14, jI_15, jI_16, jI_20, jI_24, jI_26, jI_30, jI_31, jI_32, jI_40, jI_48, jI_56, jI_57, jI_59, jI_60, jI_97, jI_99, jI_122, jI_160, jI_240, jI_255, jI_768, jI_1000, ↓jN_1, ↓jN_2, ↓jN_3, ↓jN_4, ↓jN_8, ↓jN_10, ↓jN_11, ↓jN_12, ↓jN_14, ↓jN_20, jI_addN, jI_le, jI_lt, jI_eq, jI_cl, jI_in, jI_add, jI_sub, jI_eqN, gI_eqI, gI_eqN, gI_leI, gI_ltI, jI_leN, jI_ltN, gI_sub, pif_tt, pif_ff, pg_tt, isB, or_true, true_or, pif_T, pif_F, pg_T, pb_S, upd_e, upd_n, fX9_layBack_25, hsh]
      refine ih (ip, _, lk2, vp, fp2, un2, ct) ⟨by omega, ?_, ?_, ?_, a1⟩
      · show lk2 = _
        omega
      · show fp2 = _
        rw [hfst, hun2, hf2, hfp]
      · show un2 = _
        rw [hust, hun2, hu2, hun]
  · intro fu ⟨ip, lv, lk, vp, fp, un, ct⟩ ⟨_, hlk, hfp, hun, h1⟩
    simp only at hlk hfp hun
    rw [Nat.sub_zero] at hfp hun
    simp (disch := omega) only [jI_0, jI_1, jI_2, jI_3, jI_4, jI_5, jI_6, jI_7, jI_8, jI_9, jI_10, jI_11, jI_12, jI_13, jI_14, jI_15, jI_16, jI_20, jI_24, jI_26, jI_30, jI_31, jI_32, jI_40, jI_48, jI_56, jI_57, jI_59, jI_60, jI_97, jI_99, jI_122, jI_160, jI_240, jI_255, jI_768, jI_1000, ↓jN_1, ↓jN_2, ↓jN_3, ↓jN_4, ↓jN_8, ↓jN_10, ↓jN_11, ↓jN_12, ↓jN_14, ↓jN_20, jI_addN, jI_le, jI_lt, jI_eq, jI_cl, jI_in, jI_add, jI_sub, jI_eqN, gI_eqI, gI_eqN, gI_leI, gI_ltI, jI_leN, jI_ltN, gI_sub, pif_tt, pif_ff, pg_tt, isB, or_true, true_or, pif_T, pif_F, pg_T, pb_S, upd_e, upd_n, fX9_layBack_11, mI_lt0]
    exact Ok.s ⟨by rw [hlk], hfp, by rw [hun], hG⟩
end
