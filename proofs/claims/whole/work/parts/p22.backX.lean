/-! From the last GAME back: the class's loops. -/
def unL (H : Nat → Nat) (z : Nat) (f s e : Nat → Nat) (d : Nat) : Nat := sumN (2 ^ d) (lsA f s (opN z (isOp e) d) (bkV H z f s e false (cnt z (isOp e) - (d + 1))))
def unJ (H : Nat → Nat) (z : Nat) (f s e : Nat → Nat) : Nat → Nat
  | 0 => 0
  | j + 1 => unJ H z f s e j + unL H z f s e (cnt z (isOp e) - 1 - j)
def fpJ (H : Nat → Nat) (z : Nat) (f s e : Nat → Nat) : Nat → Int32
  | 0 => gI 4
  | j + 1 => if 0 < unL H z f s e (cnt z (isOp e) - 1 - j) then jI (opN z (isOp e) (cnt z (isOp e) - 1 - j)) else fpJ H z f s e j
theorem lsA_le (f s : Nat → Nat) (g : Nat) (V : Nat → Nat → Nat) (r : Nat) : lsA f s g V r ≤ 2 := by
  unfold lsA; split <;> split <;> omega
theorem sumA_le (f s : Nat → Nat) (g : Nat) (V : Nat → Nat → Nat) (m : Nat) : sumN m (lsA f s g V) ≤ m * 2 := sumN_le (fun i _ => lsA_le f s g V i)
theorem unJ_le {H : Nat → Nat} {z : Nat} {f s e : Nat → Nat} (hd : cnt z (isOp e) ≤ 7) : ∀ j, j ≤ cnt z (isOp e) → unJ H z f s e j ≤ j * 256 := by
  intro j
  induction j with
  | zero => intro _; exact Nat.le_refl _
  | succ j ih =>
    intro hj
    have h1 := ih (by omega)
    have h2 : unL H z f s e (cnt z (isOp e) - 1 - j) ≤ _ := sumA_le f s _ _ _
    have h3 := pw_le (cnt z (isOp e) - 1 - j) (by omega)
    simp only [unJ]
    omega
theorem bkV_step {H : Nat → Nat} {z : Nat} {f s e : Nat → Nat} {bp : Bool} {d : Nat} (hd : d < cnt z (isOp e)) (r i : Nat) : bkV H z f s e bp (cnt z (isOp e) - d) r i = mnN (odR H f s (opN z (isOp e) d) (if bp then prP H f s (opN z (isOp e) d) (bkV H z f s e bp (cnt z (isOp e) - (d + 1))) r else 0)) (bkV H z f s e bp (cnt z (isOp e) - (d + 1))) r i := by
  rw [show cnt z (isOp e) - d = (cnt z (isOp e) - (d + 1)) + 1 by omega]
  simp only [bkV]
  rw [show cnt z (isOp e) - 1 - (cnt z (isOp e) - (d + 1)) = d by omega]
theorem unJ_step {H : Nat → Nat} {z : Nat} {f s e : Nat → Nat} {d : Nat} (hd : d < cnt z (isOp e)) : unJ H z f s e (cnt z (isOp e) - d) = unJ H z f s e (cnt z (isOp e) - (d + 1)) + unL H z f s e d := by
  rw [show cnt z (isOp e) - d = (cnt z (isOp e) - (d + 1)) + 1 by omega]
  simp only [unJ]
  rw [show cnt z (isOp e) - 1 - (cnt z (isOp e) - (d + 1)) = d by omega]
theorem fpJ_step {H : Nat → Nat} {z : Nat} {f s e : Nat → Nat} {d : Nat} (hd : d < cnt z (isOp e)) : fpJ H z f s e (cnt z (isOp e) - d) = if 0 < unL H z f s e d then jI (opN z (isOp e) d) else fpJ H z f s e (cnt z (isOp e) - (d + 1)) := by
  rw [show cnt z (isOp e) - d = (cnt z (isOp e) - (d + 1)) + 1 by omega]
  simp only [fpJ]
  rw [show cnt z (isOp e) - 1 - (cnt z (isOp e) - (d + 1)) = d by omega]
section
variable {v_depth : Int32} {v_pair : Int32} {v_settled : Int32} {c_leaf : Nat → Int64} {c_ofPair : Nat → Int32} {c_open : Nat → Int32} {v_rules_sides : Int32} {c_rules_strength : Nat → Int32} {c_trial_first : Nat → Int32} {c_trial_second : Nat → Int32} {c_value : Nat → Int64} {v_firstPaying : Int32} {v_unwanted : Int32} {c_ofFirst : Nat → Int32}
variable {N z : Nat} {f s e H : Nat → Nat}
theorem playBackX (hN : 1000 ≤ N) (hR : Rk H) (hk : Gk (H 0) z f s e) (hd : cnt z (isOp e) ≤ 7) (ho : ∀ d, d < cnt z (isOp e) → c_open d = jI (opN z (isOp e) d)) (hst : ∀ j, j < 6 → c_rules_strength j = jI (H (2 + j))) (hg : ∀ g, g < z → c_trial_first g = jI (f g) ∧ c_trial_second g = jI (s g)) (hl : ∀ r, r < 2 ^ cnt z (isOp e) → ∀ i, i < H 0 → c_leaf (6 * r + i) = jL (leafN H z f s e r i)) : Ok ((fX6_playBack N (jI (cnt z (isOp e))) v_pair v_settled c_leaf c_ofPair c_open (jI (H 0)) c_rules_strength c_trial_first c_trial_second c_value)) (fun q => (∀ i, i < H 0 → q.2.2.2.2 i = jL (bkV H z f s e true (cnt z (isOp e)) 0 i)) ∧ (0 < cnt z (isOp e) → q.1 = jI (prP H f s (opN z (isOp e) 0) (bkV H z f s e true (cnt z (isOp e) - 1)) 0) ∧ q.2.1 = jI (stP H f s (opN z (isOp e) 0) (bkV H z f s e true (cnt z (isOp e) - 1)) 0))) := by
  have hn := hR.2.1
  have hz := hk.2.1
  simp (disch := omega) only [jI_0, jI_1, jI_2, jI_3, jI_4, jI_5, jI_6, jI_7, jI_8, jI_9, jI_10, jI_11, jI_12, jI_13, jI_14, jI_15, jI_16, jI_20, jI_24, jI_26, jI_30, jI_31, jI_32, jI_40, jI_48, jI_56, jI_57, jI_59, jI_60, jI_97, jI_99, jI_122, jI_160, jI_240, jI_255, jI_768, jI_1000, ↓jN_1, ↓jN_2, ↓jN_3, ↓jN_4, ↓jN_8, ↓jN_10, ↓jN_11, ↓jN_12, ↓jN_14, ↓jN_20, jI_addN, jI_le, jI_lt, jI_eq, jI_cl, jI_in, jI_add, jI_sub, jI_eqN, gI_eqI, gI_eqN, gI_leI, gI_ltI, jI_leN, jI_ltN, gI_sub, pif_tt, pif_ff, pg_tt, isB, or_true, true_or, pif_T, pif_F, pg_T, pb_S, upd_e, upd_n, fX6_playBack, jI_m1]
  refine dn_ok (fun fu k (q : Int32 × Int32 × (Nat → Int64) × (Nat → Int32)) => (fX6_playBack_7 N (jI (cnt z (isOp e))) c_open (jI (H 0)) c_rules_strength c_trial_first c_trial_second fu (mI k) q.1 q.2.1 q.2.2.1 q.2.2.2 c_value)) _ (fun k q => k ≤ cnt z (isOp e) ∧ (∀ r, r < 2 ^ k → ∀ i, i < H 0 → q.2.2.1 (6 * r + i) = jL (bkV H z f s e true (cnt z (isOp e) - k) r i)) ∧ (k < cnt z (isOp e) → q.1 = jI (prP H f s (opN z (isOp e) k) (bkV H z f s e true (cnt z (isOp e) - (k + 1))) (2 ^ k - 1)) ∧ q.2.1 = jI (stP H f s (opN z (isOp e) k) (bkV H z f s e true (cnt z (isOp e) - (k + 1))) (2 ^ k - 1)))) ?_ ?_ N (cnt z (isOp e)) (v_pair, v_settled, c_leaf, c_ofPair) (by omega) ⟨Nat.le_refl _, fun r hr i hi => by rw [Nat.sub_self]; exact hl r hr i hi, fun h => absurd h (Nat.lt_irrefl _)⟩
  · intro fu d ⟨vp, vs, cl, cpr⟩ ⟨hdd, h1, _⟩ ih
    simp only at h1
    have hdlt : d < cnt z (isOp e) := by omega
    have ok := op_ok hdlt
    have o1 := ok.1
    obtain ⟨k1, k2, k3, k4⟩ := hk.2.2 _ o1
    obtain ⟨g1, g2⟩ := hg _ o1
    have hp64 := pw_le6 d (by omega)
    have hsh := shl_ok d (by omega)
    have h2d : 2 ^ (d + 1) = 2 * 2 ^ d := by rw [Nat.pow_succ]; omega
    have hpos := pw_pos d
    obtain ⟨cp, e1, hcp⟩ := weighX (N := N) (H := H) (f := f) (s := s) (d := d) (g := opN z (isOp e) d) (c_ofPair := cpr) (by omega) hR (by omega) (by omega) (ho d hdlt) g1 g2 (by omega) (by omega) hst
    simp only [mI_S]
    simp (disch := omega) only [jI_0, jI_1, jI_2, jI_3, jI_4, jI_5, jI_6, jI_7, jI_8, jI_9, jI_10, jI_11, jI_12, jI_13, jI_14, jI_15, jI_16, jI_20, jI_24, jI_26, jI_30, jI_31, jI_32, jI_40, jI_48, jI_56, jI_57, jI_59, jI_60, jI_97, jI_99, jI_122, jI_160, jI_240, jI_255, jI_768, jI_1000, ↓jN_1, ↓jN_2, ↓jN_3, ↓jN_4, ↓jN_8, ↓jN_10, ↓jN_11, ↓jN_12, ↓jN_14, ↓jN_20, jI_addN, jI_le, jI_lt, jI_eq, jI_cl, jI_in, jI_add, jI_sub, jI_eqN, gI_eqI, gI_eqN, gI_leI, gI_ltI, jI_leN, jI_ltN, gI_sub, pif_tt, pif_ff, pg_tt, isB, or_true, true_or, pif_T, pif_F, pg_T, pb_S, upd_e, upd_n, fX6_playBack_7, e1]
    refine up_ok (fun fu2 r (q : Int32 × Int32 × (Nat → Int64)) => (fX6_playBack_18 N (jI (cnt z (isOp e))) c_open (jI (H 0)) c_rules_strength c_trial_first c_trial_second (fX6_playBack_7 N (jI (cnt z (isOp e))) c_open (jI (H 0)) c_rules_strength c_trial_first c_trial_second fu) fu2 (jI d) (jI r) q.1 q.2.1 q.2.2 cp c_value)) _ (2 ^ d) (fun m q => (∀ r, r < m → ∀ i, i < H 0 → q.2.2 (6 * r + i) = jL (bkV H z f s e true (cnt z (isOp e) - d) r i)) ∧ (∀ r, m ≤ r → r < 2 ^ (d + 1) → ∀ i, i < H 0 → q.2.2 (6 * r + i) = jL (bkV H z f s e true (cnt z (isOp e) - (d + 1)) r i)) ∧ (0 < m → q.1 = jI (prP H f s (opN z (isOp e) d) (bkV H z f s e true (cnt z (isOp e) - (d + 1))) (m - 1)) ∧ q.2.1 = jI (stP H f s (opN z (isOp e) d) (bkV H z f s e true (cnt z (isOp e) - (d + 1))) (m - 1)))) ?_ ?_ N 0 (vp, vs, cl) (Nat.zero_le _) (by omega) ⟨fun r h => absurd h (Nat.not_lt_zero _), fun r _ hr i hi => h1 r hr i hi, fun h => absurd h (Nat.not_lt_zero _)⟩
    · intro fu2 r ⟨vp, vs, cl⟩ hr ⟨a1, a2, _⟩ ih2
      simp only at a1 a2
      have hB : ∀ r i, i < H 0 → bkV H z f s e true (cnt z (isOp e) - (d + 1)) r i ≤ 100000000000000 := fun r i hi => bkV_lt hR (by omega) hi
      have q1 : ∀ i, i < H 0 → cl (6 * (2 * r) + i) = jL (bkV H z f s e true (cnt z (isOp e) - (d + 1)) (2 * r) i) := a2 (2 * r) (by omega) (by omega)
      have q2 : ∀ i, i < H 0 → cl (6 * (2 * r + 1) + i) = jL (bkV H z f s e true (cnt z (isOp e) - (d + 1)) (2 * r + 1) i) := a2 (2 * r + 1) (by omega) (by omega)
      have e2 := choosePairX (N := N) (H := H) (V := bkV H z f s e true (cnt z (isOp e) - (d + 1))) (v_pair := vp) (v_settled := vs) (by omega) (by omega) (show r < 64 by omega) (by omega) hn (ho d hdlt) g1 g2 k1 k2 hcp hB q1 q2
      have hpl := prP_lt H f s (opN z (isOp e) d) (bkV H z f s e true (cnt z (isOp e) - (d + 1))) r
      have hcpp := hcp _ hpl
      have hol := odR_le H f s (opN z (isOp e) d) (prP H f s (opN z (isOp e) d) (bkV H z f s e true (cnt z (isOp e) - (d + 1))) r)
      obtain ⟨cl2, e3, j1, j2⟩ := joinX (N := N) (n := H 0) (V := bkV H z f s e true (cnt z (isOp e) - (d + 1))) (r := r) (w := odR H f s (opN z (isOp e) d) (prP H f s (opN z (isOp e) d) (bkV H z f s e true (cnt z (isOp e) - (d + 1))) r)) (c_leaf := cl) (by omega) hn (by omega) (by omega) q1 q2
      simp (disch := omega) only [jI_0, jI_1, jI_2, jI_3, jI_4, jI_5, jI_6, jI_7, jI_8, jI_9, jI_10, jI_11, jI_12, jI_13, jI_14, jI_15, jI_16, jI_20, jI_24, jI_26, jI_30, jI_31, jI_32, jI_40, jI_48, jI_56, jI_57, jI_59, jI_60, jI_97, jI_99, jI_122, jI_160, jI_240, jI_255, jI_768, jI_1000, ↓jN_1, ↓jN_2, ↓jN_3, ↓jN_4, ↓jN_8, ↓jN_10, ↓jN_11, ↓jN_12, ↓jN_14, ↓jN_20, jI_addN, jI_le, jI_lt, jI_eq, jI_cl, jI_in, jI_add, jI_sub, jI_eqN, gI_eqI, gI_eqN, gI_leI, gI_ltI, jI_leN, jI_ltN, gI_sub, pif_tt, pif_ff, pg_tt, isB, or_true, true_or, pif_T, pif_F, pg_T, pb_S, upd_e, upd_n, fX6_playBack_18, hsh, e2, hcpp, e3]
      refine ih2 (_, _, cl2) ⟨fun r' hr' i hi => ?_, fun r' h5 h6 i hi => ?_, fun _ => ⟨rfl, rfl⟩⟩
      · show cl2 (6 * r' + i) = _
        by_cases hc : r' = r
        · rw [hc, j1 i hi, bkV_step hdlt]; rfl
        · rw [j2 _ (by omega)]; exact a1 r' (by omega) i hi
      · show cl2 (6 * r' + i) = _
        rw [j2 _ (by omega)]; exact a2 r' (by omega) h6 i hi
    · intro fu2 ⟨vp, vs, cl⟩ ⟨a1, a2, a3⟩
      simp only at a1 a2 a3
      simp (disch := omega) only [jI_0, jI_1, jI_2, jI_3, jI_4, jI_5, jI_6, jI_7, jI_8, jI_9, jI_10, jI_11, jI_12, jI_13, jI_14, jI_15, jI_16, jI_20, jI_24, jI_26, jI_30, jI_31, jI_32, jI_40, jI_48, jI_56, jI_57, jI_59, jI_60, jI_97, jI_99, jI_122, jI_160, jI_240, jI_255, jI_768, jI_1000, ↓jN_1, ↓jN_2, ↓jN_3, ↓jN_4, ↓jN_8, ↓jN_10, ↓jN_11, ↓jN_12, ↓jN_14, ↓jN_20, jI_addN, jI_le, jI_lt, jI_eq, jI_cl, jI_in, jI_add, jI_sub, jI_eqN, gI_eqI, gI_eqN, gI_leI, gI_ltI, jI_leN, jI_ltN, gI_sub, pif_tt, pif_ff, pg_tt, isB, or_true, true_or, pif_T, pif_F, pg_T, pb_S, upd_e, upd_n, fX6_playBack_18, hsh]
      exact ih (vp, vs, cl, cp) ⟨by omega, a1, fun _ => a3 (by omega)⟩
  · intro fu ⟨vp, vs, cl, cpr⟩ ⟨_, h1, h2⟩
    simp only at h1 h2
    rw [Nat.sub_zero] at h1
    have h1' : ∀ i, i < H 0 → cl i = jL (bkV H z f s e true (cnt z (isOp e)) 0 i) := fun i hi => by
      have := h1 0 (by decide) i hi
      rwa [show 6 * 0 + i = i by omega] at this
    simp (disch := omega) only [jI_0, jI_1, jI_2, jI_3, jI_4, jI_5, jI_6, jI_7, jI_8, jI_9, jI_10, jI_11, jI_12, jI_13, jI_14, jI_15, jI_16, jI_20, jI_24, jI_26, jI_30, jI_31, jI_32, jI_40, jI_48, jI_56, jI_57, jI_59, jI_60, jI_97, jI_99, jI_122, jI_160, jI_240, jI_255, jI_768, jI_1000, ↓jN_1, ↓jN_2, ↓jN_3, ↓jN_4, ↓jN_8, ↓jN_10, ↓jN_11, ↓jN_12, ↓jN_14, ↓jN_20, jI_addN, jI_le, jI_lt, jI_eq, jI_cl, jI_in, jI_add, jI_sub, jI_eqN, gI_eqI, gI_eqN, gI_leI, gI_ltI, jI_leN, jI_ltN, gI_sub, pif_tt, pif_ff, pg_tt, isB, or_true, true_or, pif_T, pif_F, pg_T, pb_S, upd_e, upd_n, fX6_playBack_7, mI_lt0]
    refine up_ok (fun fu2 i cv => (fX6_playBack_59 N (jI (cnt z (isOp e))) c_open (jI (H 0)) c_rules_strength c_trial_first c_trial_second fu2 (jI i) vp vs cl cpr cv)) _ (H 0) (fun m cv => ∀ i, i < m → cv i = jL (bkV H z f s e true (cnt z (isOp e)) 0 i)) ?_ ?_ N 0 c_value (by omega) (by omega) (fun i h => by omega)
    · intro fu2 i cv hi hv ih2
      have := h1' i hi
      simp (disch := omega) only [jI_0, jI_1, jI_2, jI_3, jI_4, jI_5, jI_6, jI_7, jI_8, jI_9, jI_10, jI_11, jI_12, jI_13, jI_14, jI_15, jI_16, jI_20, jI_24, jI_26, jI_30, jI_31, jI_32, jI_40, jI_48, jI_56, jI_57, jI_59, jI_60, jI_97, jI_99, jI_122, jI_160, jI_240, jI_255, jI_768, jI_1000, ↓jN_1, ↓jN_2, ↓jN_3, ↓jN_4, ↓jN_8, ↓jN_10, ↓jN_11, ↓jN_12, ↓jN_14, ↓jN_20, jI_addN, jI_le, jI_lt, jI_eq, jI_cl, jI_in, jI_add, jI_sub, jI_eqN, gI_eqI, gI_eqN, gI_leI, gI_ltI, jI_leN, jI_ltN, gI_sub, pif_tt, pif_ff, pg_tt, isB, or_true, true_or, pif_T, pif_F, pg_T, pb_S, upd_e, upd_n, fX6_playBack_59, this]
      refine ih2 _ (fun j hj => ?_)
      by_cases h : j = i
      · rw [updL_e h, h]
      · rw [updL_n h]; exact hv j (by omega)
    · intro fu2 cv hv
      simp (disch := omega) only [jI_0, jI_1, jI_2, jI_3, jI_4, jI_5, jI_6, jI_7, jI_8, jI_9, jI_10, jI_11, jI_12, jI_13, jI_14, jI_15, jI_16, jI_20, jI_24, jI_26, jI_30, jI_31, jI_32, jI_40, jI_48, jI_56, jI_57, jI_59, jI_60, jI_97, jI_99, jI_122, jI_160, jI_240, jI_255, jI_768, jI_1000, ↓jN_1, ↓jN_2, ↓jN_3, ↓jN_4, ↓jN_8, ↓jN_10, ↓jN_11, ↓jN_12, ↓jN_14, ↓jN_20, jI_addN, jI_le, jI_lt, jI_eq, jI_cl, jI_in, jI_add, jI_sub, jI_eqN, gI_eqI, gI_eqN, gI_leI, gI_ltI, jI_leN, jI_ltN, gI_sub, pif_tt, pif_ff, pg_tt, isB, or_true, true_or, pif_T, pif_F, pg_T, pb_S, upd_e, upd_n, fX6_playBack_59]
      exact Ok.s ⟨hv, fun h => h2 h⟩
theorem countBackX (hN : 1000 ≤ N) (hR : Rk H) (hk : Gk (H 0) z f s e) (hd : cnt z (isOp e) ≤ 7) (ho : ∀ d, d < cnt z (isOp e) → c_ofFirst d = jI (oW H z f s e d) ∧ c_open d = jI (opN z (isOp e) d)) (hg : ∀ g, g < z → c_trial_first g = jI (f g) ∧ c_trial_second g = jI (s g)) (hl : ∀ r, r < 2 ^ cnt z (isOp e) → ∀ i, i < H 0 → c_leaf (6 * r + i) = jL (leafN H z f s e r i)) : Ok ((fX6_countBack N (jI (cnt z (isOp e))) v_firstPaying v_unwanted c_leaf c_ofFirst c_open (jI (H 0)) c_trial_first c_trial_second)) (fun q => q.1 = fpJ H z f s e (cnt z (isOp e)) ∧ q.2.1 = jI (unJ H z f s e (cnt z (isOp e)))) := by
  have hn := hR.2.1
  have hz := hk.2.1
  simp (disch := omega) only [jI_0, jI_1, jI_2, jI_3, jI_4, jI_5, jI_6, jI_7, jI_8, jI_9, jI_10, jI_11, jI_12, jI_13, jI_14, jI_15, jI_16, jI_20, jI_24, jI_26, jI_30, jI_31, jI_32, jI_40, jI_48, jI_56, jI_57, jI_59, jI_60, jI_97, jI_99, jI_122, jI_160, jI_240, jI_255, jI_768, jI_1000, ↓jN_1, ↓jN_2, ↓jN_3, ↓jN_4, ↓jN_8, ↓jN_10, ↓jN_11, ↓jN_12, ↓jN_14, ↓jN_20, jI_addN, jI_le, jI_lt, jI_eq, jI_cl, jI_in, jI_add, jI_sub, jI_eqN, gI_eqI, gI_eqN, gI_leI, gI_ltI, jI_leN, jI_ltN, gI_sub, pif_tt, pif_ff, pg_tt, isB, or_true, true_or, pif_T, pif_F, pg_T, pb_S, upd_e, upd_n, fX6_countBack, jI_m1]
  refine dn_ok (fun fu k (q : Int32 × Nat × (Nat → Int64)) => (fX6_countBack_18 N (jI (cnt z (isOp e))) c_ofFirst c_open (jI (H 0)) c_trial_first c_trial_second fu (mI k) q.1 (jI q.2.1) q.2.2)) _ (fun k q => k ≤ cnt z (isOp e) ∧ q.1 = fpJ H z f s e (cnt z (isOp e) - k) ∧ q.2.1 = unJ H z f s e (cnt z (isOp e) - k) ∧ (∀ r, r < 2 ^ k → ∀ i, i < H 0 → q.2.2 (6 * r + i) = jL (bkV H z f s e false (cnt z (isOp e) - k) r i))) ?_ ?_ N (cnt z (isOp e)) (gI 4, 0, c_leaf) (by omega) ⟨Nat.le_refl _, by rw [Nat.sub_self]; rfl, by rw [Nat.sub_self]; rfl, fun r hr i hi => by rw [Nat.sub_self]; exact hl r hr i hi⟩
  · intro fu d ⟨fp, un, cl⟩ ⟨hdd, hfp, hun, h1⟩ ih
    simp only at hfp hun h1
    have hdlt : d < cnt z (isOp e) := by omega
    have ok := op_ok hdlt
    have o1 := ok.1
    obtain ⟨k1, k2, k3, k4⟩ := hk.2.2 _ o1
    obtain ⟨g1, g2⟩ := hg _ o1
    obtain ⟨of1, op1⟩ := ho d hdlt
    have hp64 := pw_le6 d (by omega)
    have hsh := shl_ok d (by omega)
    have h2d : 2 ^ (d + 1) = 2 * 2 ^ d := by rw [Nat.pow_succ]; omega
    have hpos := pw_pos d
    have hule := unJ_le (H := H) (f := f) (s := s) hd (cnt z (isOp e) - (d + 1)) (by omega)
    have hust := unJ_step (H := H) (f := f) (s := s) hdlt
    have hfst := fpJ_step (H := H) (f := f) (s := s) hdlt
    simp only [mI_S]
    simp (disch := omega) only [jI_0, jI_1, jI_2, jI_3, jI_4, jI_5, jI_6, jI_7, jI_8, jI_9, jI_10, jI_11, jI_12, jI_13, jI_14, jI_15, jI_16, jI_20, jI_24, jI_26, jI_30, jI_31, jI_32, jI_40, jI_48, jI_56, jI_57, jI_59, jI_60, jI_97, jI_99, jI_122, jI_160, jI_240, jI_255, jI_768, jI_1000, ↓jN_1, ↓jN_2, ↓jN_3, ↓jN_4, ↓jN_8, ↓jN_10, ↓jN_11, ↓jN_12, ↓jN_14, ↓jN_20, jI_addN, jI_le, jI_lt, jI_eq, jI_cl, jI_in, jI_add, jI_sub, jI_eqN, gI_eqI, gI_eqN, gI_leI, gI_ltI, jI_leN, jI_ltN, gI_sub, pif_tt, pif_ff, pg_tt, isB, or_true, true_or, pif_T, pif_F, pg_T, pb_S, upd_e, upd_n, fX6_countBack_18]
    refine up_ok (fun fu2 r (q : Nat × (Nat → Int64)) => (fX6_countBack_29 N (jI (cnt z (isOp e))) c_ofFirst c_open (jI (H 0)) c_trial_first c_trial_second (fX6_countBack_18 N (jI (cnt z (isOp e))) c_ofFirst c_open (jI (H 0)) c_trial_first c_trial_second fu) fu2 (jI d) (jI un) (jI r) fp (jI q.1) q.2)) _ (2 ^ d) (fun m q => q.1 = un + sumN m (lsA f s (opN z (isOp e) d) (bkV H z f s e false (cnt z (isOp e) - (d + 1)))) ∧ (∀ r, r < m → ∀ i, i < H 0 → q.2 (6 * r + i) = jL (bkV H z f s e false (cnt z (isOp e) - d) r i)) ∧ (∀ r, m ≤ r → r < 2 ^ (d + 1) → ∀ i, i < H 0 → q.2 (6 * r + i) = jL (bkV H z f s e false (cnt z (isOp e) - (d + 1)) r i))) ?_ ?_ N 0 (un, cl) (Nat.zero_le _) (by omega) ⟨rfl, fun r h => absurd h (Nat.not_lt_zero _), fun r _ hr i hi => h1 r hr i hi⟩
    · intro fu2 r ⟨un2, cl⟩ hr ⟨a0, a1, a2⟩ ih2
      simp only at a0 a1 a2
      have hB : ∀ r i, i < H 0 → bkV H z f s e false (cnt z (isOp e) - (d + 1)) r i ≤ 100000000000000 := fun r i hi => bkV_lt hR (by omega) hi
      have q1 : ∀ i, i < H 0 → cl (6 * (2 * r) + i) = jL (bkV H z f s e false (cnt z (isOp e) - (d + 1)) (2 * r) i) := a2 (2 * r) (by omega) (by omega)
      have q2 : ∀ i, i < H 0 → cl (6 * (2 * r + 1) + i) = jL (bkV H z f s e false (cnt z (isOp e) - (d + 1)) (2 * r + 1) i) := a2 (2 * r + 1) (by omega) (by omega)
      have e2 := losersAtX (N := N) (V := bkV H z f s e false (cnt z (isOp e) - (d + 1))) (show d < 7 by omega) (show r < 64 by omega) (by omega) hn op1 g1 g2 k1 k2 hB q1 q2
      have hol := oW_le H z f s e d
      obtain ⟨cl2, e3, j1, j2⟩ := joinX (N := N) (n := H 0) (V := bkV H z f s e false (cnt z (isOp e) - (d + 1))) (r := r) (w := oW H z f s e d) (c_leaf := cl) (by omega) hn (by omega) (by omega) q1 q2
      simp (disch := omega) only [jI_0, jI_1, jI_2, jI_3, jI_4, jI_5, jI_6, jI_7, jI_8, jI_9, jI_10, jI_11, jI_12, jI_13, jI_14, jI_15, jI_16, jI_20, jI_24, jI_26, jI_30, jI_31, jI_32, jI_40, jI_48, jI_56, jI_57, jI_59, jI_60, jI_97, jI_99, jI_122, jI_160, jI_240, jI_255, jI_768, jI_1000, ↓jN_1, ↓jN_2, ↓jN_3, ↓jN_4, ↓jN_8, ↓jN_10, ↓jN_11, ↓jN_12, ↓jN_14, ↓jN_20, jI_addN, jI_le, jI_lt, jI_eq, jI_cl, jI_in, jI_add, jI_sub, jI_eqN, gI_eqI, gI_eqN, gI_leI, gI_ltI, jI_leN, jI_ltN, gI_sub, pif_tt, pif_ff, pg_tt, isB, or_true, true_or, pif_T, pif_F, pg_T, pb_S, upd_e, upd_n, fX6_countBack_29, hsh, e2, of1, e3]
      refine ih2 (_, cl2) ⟨?_, fun r' hr' i hi => ?_, fun r' h5 h6 i hi => ?_⟩
      · show un2 + _ = _
        simp only [sumN]; rw [a0, Nat.add_assoc]
      · show cl2 (6 * r' + i) = _
        by_cases hc : r' = r
        · rw [hc, j1 i hi, bkV_step hdlt]; rfl
        · rw [j2 _ (by omega)]; exact a1 r' (by omega) i hi
      · show cl2 (6 * r' + i) = _
        rw [j2 _ (by omega)]; exact a2 r' (by omega) h6 i hi
    · intro fu2 ⟨un2, cl⟩ ⟨a0, a1, a2⟩
      simp only at a0 a1 a2
      have hsl := sumA_le f s (opN z (isOp e) d) (bkV H z f s e false (cnt z (isOp e) - (d + 1))) (2 ^ d)
      have hun2 : unL H z f s e d = sumN (2 ^ d) (lsA f s (opN z (isOp e) d) (bkV H z f s e false (cnt z (isOp e) - (d + 1)))) := rfl
      by_cases hpos2 : 0 < unL H z f s e d
      · rw [if_pos hpos2] at hfst
        simp (disch := omega) only [jI_0, jI_1, jI_2, jI_3, jI_4, jI_5, jI_6, jI_7, jI_8, jI_9, jI_10, jI_11, jI_12, jI_13, jI_14, jI_15, jI_16, jI_20, jI_24, jI_26, jI_30, jI_31, jI_32, jI_40, jI_48, jI_56, jI_57, jI_59, jI_60, jI_97, jI_99, jI_122, jI_160, jI_240, jI_255, jI_768, jI_1000, ↓jN_1, ↓jN_2, ↓jN_3, ↓jN_4, ↓jN_8, ↓jN_10, ↓jN_11, ↓jN_12, ↓jN_14, ↓jN_20, jI_addN, jI_le, jI_lt, jI_eq, jI_cl, jI_in, jI_add, jI_sub, jI_eqN, gI_eqI, gI_eqN, gI_leI, gI_ltI, jI_leN, jI_ltN, gI_sub, pif_tt, pif_ff, pg_tt, isB, or_true, true_or, pif_T, pif_F, pg_T, pb_S, upd_e, upd_n, fX6_countBack_29, fX6_countBack_86, hsh, op1]
        exact ih (_, un2, cl) ⟨by omega, hfst.symm, by rw [hust]; simp only; omega, a1⟩
      · rw [if_neg hpos2] at hfst
        simp (disch := omega) only [jI_0, jI_1, jI_2, jI_3, jI_4, jI_5, jI_6, jI_7, jI_8, jI_9, jI_10, jI_11, jI_12, jI_13, jI_14, jI_15, jI_16, jI_20, jI_24, jI_26, jI_30, jI_31, jI_32, jI_40, jI_48, jI_56, jI_57, jI_59, jI_60, jI_97, jI_99, jI_122, jI_160, jI_240, jI_255, jI_768, jI_1000, ↓jN_1, ↓jN_2, ↓jN_3, ↓jN_4, ↓jN_8, ↓jN_10, ↓jN_11, ↓jN_12, ↓jN_14, ↓jN_20, jI_addN, jI_le, jI_lt, jI_eq, jI_cl, jI_in, jI_add, jI_sub, jI_eqN, gI_eqI, gI_eqN, gI_leI, gI_ltI, jI_leN, jI_ltN, gI_sub, pif_tt, pif_ff, pg_tt, isB, or_true, true_or, pif_T, pif_F, pg_T, pb_S, upd_e, upd_n, fX6_countBack_29, fX6_countBack_86, hsh, op1]
        exact ih (fp, un2, cl) ⟨by omega, hfp.trans hfst.symm, by rw [hust]; simp only; omega, a1⟩
  · intro fu ⟨fp, un, cl⟩ ⟨_, hfp, hun, h1⟩
    simp only at hfp hun h1
    rw [Nat.sub_zero] at hfp hun
    simp (disch := omega) only [jI_0, jI_1, jI_2, jI_3, jI_4, jI_5, jI_6, jI_7, jI_8, jI_9, jI_10, jI_11, jI_12, jI_13, jI_14, jI_15, jI_16, jI_20, jI_24, jI_26, jI_30, jI_31, jI_32, jI_40, jI_48, jI_56, jI_57, jI_59, jI_60, jI_97, jI_99, jI_122, jI_160, jI_240, jI_255, jI_768, jI_1000, ↓jN_1, ↓jN_2, ↓jN_3, ↓jN_4, ↓jN_8, ↓jN_10, ↓jN_11, ↓jN_12, ↓jN_14, ↓jN_20, jI_addN, jI_le, jI_lt, jI_eq, jI_cl, jI_in, jI_add, jI_sub, jI_eqN, gI_eqI, gI_eqN, gI_leI, gI_ltI, jI_leN, jI_ltN, gI_sub, pif_tt, pif_ff, pg_tt, isB, or_true, true_or, pif_T, pif_F, pg_T, pb_S, upd_e, upd_n, fX6_countBack_18, mI_lt0]
    exact Ok.s ⟨hfp, by rw [hun]⟩
end
