/-! OPEN GAMES, ways in which they can end; odds. -/
def bitN (r k : Nat) : Nat := r / 2 ^ k % 2
theorem bitN_lt (r k : Nat) : bitN r k < 2 := Nat.mod_lt _ (by omega)
theorem shr_ok : ∀ k, k < 7 → ∀ a, a < 128 → (jI a >>> (jI k &&& jI 31)) &&& jI 1 = jI (bitN a k) := by decide +kernel
theorem shl_ok : ∀ k, k < 8 → jI 1 <<< (jI k &&& jI 31) = jI (2 ^ k) := by decide +kernel
theorem shl_L : ∀ k, k < 8 → jL 1 <<< (jL (4 * k) &&& jL 63) = jL (16 ^ k) := by decide +kernel
theorem pw_le : ∀ k, k < 8 → 2 ^ k ≤ 128 := by decide
theorem pw_pos (k : Nat) : 1 ≤ 2 ^ k := Nat.one_le_two_pow
/-- the k-th of those below z -/
def opN : Nat → (Nat → Bool) → Nat → Nat
  | 0, _, _ => 0
  | z + 1, p, k => if p z = true ∧ k = cnt z p then z else opN z p k
theorem op_ok {z k : Nat} {p : Nat → Bool} (h : k < cnt z p) : opN z p k < z ∧ p (opN z p k) = true ∧ cnt (opN z p k) p = k := by
  induction z with
  | zero => simp [cnt] at h
  | succ z ih =>
    simp only [opN]
    by_cases hc : p z = true ∧ k = cnt z p
    · rw [if_pos hc]
      exact ⟨by omega, hc.1, hc.2.symm⟩
    · rw [if_neg hc]
      have hk : k < cnt z p := by
        simp only [cnt] at h
        by_cases hp : p z = true
        · rw [if_pos hp] at h
          have : k ≠ cnt z p := fun e => hc ⟨hp, e⟩
          omega
        · rw [if_neg hp] at h; omega
      obtain ⟨a, b, c⟩ := ih hk
      exact ⟨by omega, b, c⟩
theorem cnt_lt_of {m g : Nat} {p : Nat → Bool} (hg : g < m) (hp : p g = true) : cnt g p < cnt m p := by
  have h1 : cnt (g + 1) p = cnt g p + 1 := by simp only [cnt, hp, if_true]
  have h2 := cnt_mono (p := p) (a := g + 1) (b := m) (by omega)
  omega
theorem op_of {z g : Nat} {p : Nat → Bool} (hg : g < z) (hp : p g = true) : opN z p (cnt g p) = g := by
  obtain ⟨a, b, c⟩ := op_ok (cnt_lt_of hg hp)
  rcases Nat.lt_trichotomy (opN z p (cnt g p)) g with h | h | h
  · have := cnt_lt_of h b; omega
  · exact h
  · have := cnt_lt_of h hp; omega
theorem op_inj {z k l : Nat} {p : Nat → Bool} (hk : k < cnt z p) (hl : l < cnt z p) (h : opN z p k = opN z p l) : k = l := by
  have a := (op_ok hk).2.2
  have b := (op_ok hl).2.2
  rw [h, b] at a; exact a.symm
theorem op_mono {z k l : Nat} {p : Nat → Bool} (hl : l < cnt z p) (h : k < l) : opN z p k < opN z p l := by
  obtain ⟨a1, b1, c1⟩ := op_ok (z := z) (p := p) (k := k) (by omega)
  obtain ⟨a2, b2, c2⟩ := op_ok hl
  rcases Nat.lt_or_ge (opN z p k) (opN z p l) with h3 | h3
  · exact h3
  · have := cnt_mono (p := p) h3
    omega
def isOp (e : Nat → Nat) (g : Nat) : Bool := decide (e g = 2)
theorem isOp_iff {e : Nat → Nat} {g : Nat} : isOp e g = true ↔ e g = 2 := by simp [isOp]
/-- the ENDS of a row -/
def eR (e : Nat → Nat) (z r g : Nat) : Nat := if e g = 2 then bitN r (cnt z (isOp e) - 1 - cnt g (isOp e)) else e g
theorem eR_open {e : Nat → Nat} {z r g : Nat} (h : e g = 2) : eR e z r g = bitN r (cnt z (isOp e) - 1 - cnt g (isOp e)) := if_pos h
theorem eR_else {e : Nat → Nat} {z r g : Nat} (h : e g ≠ 2) : eR e z r g = e g := if_neg h
theorem eR_op {e : Nat → Nat} {z r k : Nat} (hk : k < cnt z (isOp e)) : eR e z r (opN z (isOp e) k) = bitN r (cnt z (isOp e) - 1 - k) := by
  obtain ⟨a, b, c⟩ := op_ok hk
  rw [eR_open (isOp_iff.mp b), c]
theorem eR_lt {e : Nat → Nat} {z r g : Nat} (h : e g ≤ 2) : eR e z r g < 2 := by
  unfold eR
  split
  · exact bitN_lt _ _
  · omega
theorem Gk_eR {n z r : Nat} {f s e : Nat → Nat} (hk : Gk n z f s e) : Gk n z f s (eR e z r) := by
  obtain ⟨h1, h2, h3⟩ := hk
  refine ⟨h1, h2, fun g hg => ?_⟩
  obtain ⟨a, b, c, d⟩ := h3 g hg
  have := eR_lt (z := z) (r := r) d
  exact ⟨a, b, c, by omega⟩
/-- odds in sixteenths -/
def odN (a b : Nat) : Nat := max 1 (min (16 * a / (a + b)) 15)
def hlf (a : Nat) : Nat := max (a / 2) 1
theorem odN_le (a b : Nat) : 1 ≤ odN a b ∧ odN a b ≤ 15 := by unfold odN; omega
theorem jI_mn {a b : Nat} {i : Decidable (a < b)} : @ite Int32 (a < b) i (jI a) (jI b) = jI (min a b) := by
  by_cases h : a < b
  · rw [if_pos h, Nat.min_eq_left (by omega)]
  · rw [if_neg h, Nat.min_eq_right (by omega)]
theorem dv_le (a b : Nat) : 16 * a / (a + b) ≤ 16 * a := Nat.div_le_self _ _
theorem chanceX {N a b : Nat} (ha : 1 ≤ a) (ha2 : a ≤ 100) (hb2 : b ≤ 100) : fX8_chance N (jI a) (jI b) = some (jI (odN a b)) := by
  have h1 := dv_le a b
  unfold odN
  simp (disch := omega) only [jI_0, jI_1, jI_2, jI_3, jI_4, jI_5, jI_6, jI_7, jI_8, jI_9, jI_10, jI_11, jI_12, jI_13, jI_14, jI_15, jI_16, jI_20, jI_24, jI_26, jI_30, jI_31, jI_32, jI_40, jI_48, jI_56, jI_57, jI_59, jI_60, jI_97, jI_99, jI_122, jI_160, jI_240, jI_255, jI_768, jI_1000, ↓jN_1, ↓jN_2, ↓jN_3, ↓jN_4, ↓jN_8, ↓jN_10, ↓jN_11, ↓jN_12, ↓jN_14, ↓jN_20, jI_addN, jI_le, jI_lt, jI_eq, jI_cl, jI_in, jI_add, jI_sub, jI_eqN, gI_eqI, gI_eqN, gI_leI, gI_ltI, jI_leN, jI_ltN, gI_sub, pif_tt, pif_ff, pg_tt, isB, or_true, true_or, pif_T, pif_F, pg_T, pb_S, upd_e, upd_n, fX8_chance, jI_mul, jI_div, jI_mn, jI_mx]
theorem restedX {N a : Nat} (ha : a ≤ 100) : fX8_rested N (jI a) = some (jI (hlf a)) := by
  unfold hlf
  simp (disch := omega) only [jI_0, jI_1, jI_2, jI_3, jI_4, jI_5, jI_6, jI_7, jI_8, jI_9, jI_10, jI_11, jI_12, jI_13, jI_14, jI_15, jI_16, jI_20, jI_24, jI_26, jI_30, jI_31, jI_32, jI_40, jI_48, jI_56, jI_57, jI_59, jI_60, jI_97, jI_99, jI_122, jI_160, jI_240, jI_255, jI_768, jI_1000, ↓jN_1, ↓jN_2, ↓jN_3, ↓jN_4, ↓jN_8, ↓jN_10, ↓jN_11, ↓jN_12, ↓jN_14, ↓jN_20, jI_addN, jI_le, jI_lt, jI_eq, jI_cl, jI_in, jI_add, jI_sub, jI_eqN, gI_eqI, gI_eqN, gI_leI, gI_ltI, jI_leN, jI_ltN, gI_sub, pif_tt, pif_ff, pg_tt, isB, or_true, true_or, pif_T, pif_F, pg_T, pb_S, upd_e, upd_n, fX8_rested, jI_div, jI_mx]
  rw [Nat.max_comm]
theorem oddsOfM {N a b : Nat} (ha : 1 ≤ a) (ha2 : a ≤ 100) (hb2 : b ≤ 100) : fX9_oddsOf N (jI a) (jI b) = some (jI (odN a b)) := by
  have h1 := dv_le a b
  unfold odN
  by_cases h2 : 1 ≤ 16 * a / (a + b)
  · by_cases h3 : 16 * a / (a + b) ≤ 15
    · simp (disch := omega) only [jI_0, jI_1, jI_2, jI_3, jI_4, jI_5, jI_6, jI_7, jI_8, jI_9, jI_10, jI_11, jI_12, jI_13, jI_14, jI_15, jI_16, jI_20, jI_24, jI_26, jI_30, jI_31, jI_32, jI_40, jI_48, jI_56, jI_57, jI_59, jI_60, jI_97, jI_99, jI_122, jI_160, jI_240, jI_255, jI_768, jI_1000, ↓jN_1, ↓jN_2, ↓jN_3, ↓jN_4, ↓jN_8, ↓jN_10, ↓jN_11, ↓jN_12, ↓jN_14, ↓jN_20, jI_addN, jI_le, jI_lt, jI_eq, jI_cl, jI_in, jI_add, jI_sub, jI_eqN, gI_eqI, gI_eqN, gI_leI, gI_ltI, jI_leN, jI_ltN, gI_sub, pif_tt, pif_ff, pg_tt, isB, or_true, true_or, pif_T, pif_F, pg_T, pb_S, upd_e, upd_n, fX9_oddsOf, fX9_oddsOf_30, jI_mul, jI_div]
      congr 2; omega
    · simp (disch := omega) only [jI_0, jI_1, jI_2, jI_3, jI_4, jI_5, jI_6, jI_7, jI_8, jI_9, jI_10, jI_11, jI_12, jI_13, jI_14, jI_15, jI_16, jI_20, jI_24, jI_26, jI_30, jI_31, jI_32, jI_40, jI_48, jI_56, jI_57, jI_59, jI_60, jI_97, jI_99, jI_122, jI_160, jI_240, jI_255, jI_768, jI_1000, ↓jN_1, ↓jN_2, ↓jN_3, ↓jN_4, ↓jN_8, ↓jN_10, ↓jN_11, ↓jN_12, ↓jN_14, ↓jN_20, jI_addN, jI_le, jI_lt, jI_eq, jI_cl, jI_in, jI_add, jI_sub, jI_eqN, gI_eqI, gI_eqN, gI_leI, gI_ltI, jI_leN, jI_ltN, gI_sub, pif_tt, pif_ff, pg_tt, isB, or_true, true_or, pif_T, pif_F, pg_T, pb_S, upd_e, upd_n, fX9_oddsOf, fX9_oddsOf_30, jI_mul, jI_div]
      congr 2; omega
  · simp (disch := omega) only [jI_0, jI_1, jI_2, jI_3, jI_4, jI_5, jI_6, jI_7, jI_8, jI_9, jI_10, jI_11, jI_12, jI_13, jI_14, jI_15, jI_16, jI_20, jI_24, jI_26, jI_30, jI_31, jI_32, jI_40, jI_48, jI_56, jI_57, jI_59, jI_60, jI_97, jI_99, jI_122, jI_160, jI_240, jI_255, jI_768, jI_1000, ↓jN_1, ↓jN_2, ↓jN_3, ↓jN_4, ↓jN_8, ↓jN_10, ↓jN_11, ↓jN_12, ↓jN_14, ↓jN_20, jI_addN, jI_le, jI_lt, jI_eq, jI_cl, jI_in, jI_add, jI_sub, jI_eqN, gI_eqI, gI_eqN, gI_leI, gI_ltI, jI_leN, jI_ltN, gI_sub, pif_tt, pif_ff, pg_tt, isB, or_true, true_or, pif_T, pif_F, pg_T, pb_S, upd_e, upd_n, fX9_oddsOf, fX9_oddsOf_30, jI_mul, jI_div]
    congr 2; omega
theorem halfM {N a : Nat} (ha : a ≤ 100) : fX9_half N (jI a) = some (jI (hlf a)) := by
  unfold hlf
  by_cases h : 2 ≤ a
  · simp (disch := omega) only [jI_0, jI_1, jI_2, jI_3, jI_4, jI_5, jI_6, jI_7, jI_8, jI_9, jI_10, jI_11, jI_12, jI_13, jI_14, jI_15, jI_16, jI_20, jI_24, jI_26, jI_30, jI_31, jI_32, jI_40, jI_48, jI_56, jI_57, jI_59, jI_60, jI_97, jI_99, jI_122, jI_160, jI_240, jI_255, jI_768, jI_1000, ↓jN_1, ↓jN_2, ↓jN_3, ↓jN_4, ↓jN_8, ↓jN_10, ↓jN_11, ↓jN_12, ↓jN_14, ↓jN_20, jI_addN, jI_le, jI_lt, jI_eq, jI_cl, jI_in, jI_add, jI_sub, jI_eqN, gI_eqI, gI_eqN, gI_leI, gI_ltI, jI_leN, jI_ltN, gI_sub, pif_tt, pif_ff, pg_tt, isB, or_true, true_or, pif_T, pif_F, pg_T, pb_S, upd_e, upd_n, fX9_half, fX9_half_12, jI_div]
    congr 2; omega
  · simp (disch := omega) only [jI_0, jI_1, jI_2, jI_3, jI_4, jI_5, jI_6, jI_7, jI_8, jI_9, jI_10, jI_11, jI_12, jI_13, jI_14, jI_15, jI_16, jI_20, jI_24, jI_26, jI_30, jI_31, jI_32, jI_40, jI_48, jI_56, jI_57, jI_59, jI_60, jI_97, jI_99, jI_122, jI_160, jI_240, jI_255, jI_768, jI_1000, ↓jN_1, ↓jN_2, ↓jN_3, ↓jN_4, ↓jN_8, ↓jN_10, ↓jN_11, ↓jN_12, ↓jN_14, ↓jN_20, jI_addN, jI_le, jI_lt, jI_eq, jI_cl, jI_in, jI_add, jI_sub, jI_eqN, gI_eqI, gI_eqN, gI_leI, gI_ltI, jI_leN, jI_ltN, gI_sub, pif_tt, pif_ff, pg_tt, isB, or_true, true_or, pif_T, pif_F, pg_T, pb_S, upd_e, upd_n, fX9_half, fX9_half_12, jI_div]
    congr 2; omega
def odR (H f s : Nat → Nat) (g p : Nat) : Nat := odN (if p / 2 = 1 then hlf (H (2 + f g)) else H (2 + f g)) (if p % 2 = 1 then hlf (H (2 + s g)) else H (2 + s g))
theorem hlf_le {a : Nat} (h : a ≤ 9) : 1 ≤ hlf a ∧ hlf a ≤ 9 := by unfold hlf; omega
theorem oddsByM {N z g p : Nat} {H f s e : Nat → Nat} {c_firsts c_holds c_seconds c_many c_goes : Nat → Int32} (hR : Rk H) (hh : Rm H c_holds) (hk : Gk (H 0) z f s e) (hG : Gm 0 z f s e c_many c_firsts c_seconds c_goes) (hg : g < z) (hp : p < 4) : fX9_oddsBy N c_firsts c_holds c_seconds (jI g) (jI p) = some (jI (odR H f s g p)) := by
  obtain ⟨g1, g2, g3⟩ := hG.2 g hg
  obtain ⟨k1, k2, k3, k4⟩ := hk.2.2 g hg
  have hz := hk.2.1
  have hn := hR.2.1
  rw [show 30 * 0 + g = g by omega] at g1 g2
  have a1 := hR.2.2.2.1 (f g) (by omega)
  have a2 := hR.2.2.2.1 (s g) (by omega)
  have b1 := hh (2 + f g) (by omega)
  have b2 := hh (2 + s g) (by omega)
  have c1 := halfM (N := N) (a := H (2 + f g)) (by omega)
  have c2 := halfM (N := N) (a := H (2 + s g)) (by omega)
  have d1 := hlf_le (a := H (2 + f g)) (by omega)
  have d2 := hlf_le (a := H (2 + s g)) (by omega)
  unfold odR
  by_cases h1 : p / 2 = 1
  · by_cases h2 : p % 2 = 1
    · rw [if_pos h1, if_pos h2]
      have o := oddsOfM (N := N) (a := hlf (H (2 + f g))) (b := hlf (H (2 + s g))) (by omega) (by omega) (by omega)
      simp (disch := omega) only [jI_0, jI_1, jI_2, jI_3, jI_4, jI_5, jI_6, jI_7, jI_8, jI_9, jI_10, jI_11, jI_12, jI_13, jI_14, jI_15, jI_16, jI_20, jI_24, jI_26, jI_30, jI_31, jI_32, jI_40, jI_48, jI_56, jI_57, jI_59, jI_60, jI_97, jI_99, jI_122, jI_160, jI_240, jI_255, jI_768, jI_1000, ↓jN_1, ↓jN_2, ↓jN_3, ↓jN_4, ↓jN_8, ↓jN_10, ↓jN_11, ↓jN_12, ↓jN_14, ↓jN_20, jI_addN, jI_le, jI_lt, jI_eq, jI_cl, jI_in, jI_add, jI_sub, jI_eqN, gI_eqI, gI_eqN, gI_leI, gI_ltI, jI_leN, jI_ltN, gI_sub, pif_tt, pif_ff, pg_tt, isB, or_true, true_or, pif_T, pif_F, pg_T, pb_S, upd_e, upd_n, fX9_oddsBy, fX9_oddsBy_44, fX9_oddsBy_61, jI_mul, jI_div, g1, g2, b1, b2, c1, c2, o]
    · rw [if_pos h1, if_neg h2]
      have o := oddsOfM (N := N) (a := hlf (H (2 + f g))) (b := (H (2 + s g))) (by omega) (by omega) (by omega)
      simp (disch := omega) only [jI_0, jI_1, jI_2, jI_3, jI_4, jI_5, jI_6, jI_7, jI_8, jI_9, jI_10, jI_11, jI_12, jI_13, jI_14, jI_15, jI_16, jI_20, jI_24, jI_26, jI_30, jI_31, jI_32, jI_40, jI_48, jI_56, jI_57, jI_59, jI_60, jI_97, jI_99, jI_122, jI_160, jI_240, jI_255, jI_768, jI_1000, ↓jN_1, ↓jN_2, ↓jN_3, ↓jN_4, ↓jN_8, ↓jN_10, ↓jN_11, ↓jN_12, ↓jN_14, ↓jN_20, jI_addN, jI_le, jI_lt, jI_eq, jI_cl, jI_in, jI_add, jI_sub, jI_eqN, gI_eqI, gI_eqN, gI_leI, gI_ltI, jI_leN, jI_ltN, gI_sub, pif_tt, pif_ff, pg_tt, isB, or_true, true_or, pif_T, pif_F, pg_T, pb_S, upd_e, upd_n, fX9_oddsBy, fX9_oddsBy_44, fX9_oddsBy_61, jI_mul, jI_div, g1, g2, b1, b2, c1, c2, o]
  · by_cases h2 : p % 2 = 1
    · rw [if_neg h1, if_pos h2]
      have o := oddsOfM (N := N) (a := (H (2 + f g))) (b := hlf (H (2 + s g))) (by omega) (by omega) (by omega)
      simp (disch := omega) only [jI_0, jI_1, jI_2, jI_3, jI_4, jI_5, jI_6, jI_7, jI_8, jI_9, jI_10, jI_11, jI_12, jI_13, jI_14, jI_15, jI_16, jI_20, jI_24, jI_26, jI_30, jI_31, jI_32, jI_40, jI_48, jI_56, jI_57, jI_59, jI_60, jI_97, jI_99, jI_122, jI_160, jI_240, jI_255, jI_768, jI_1000, ↓jN_1, ↓jN_2, ↓jN_3, ↓jN_4, ↓jN_8, ↓jN_10, ↓jN_11, ↓jN_12, ↓jN_14, ↓jN_20, jI_addN, jI_le, jI_lt, jI_eq, jI_cl, jI_in, jI_add, jI_sub, jI_eqN, gI_eqI, gI_eqN, gI_leI, gI_ltI, jI_leN, jI_ltN, gI_sub, pif_tt, pif_ff, pg_tt, isB, or_true, true_or, pif_T, pif_F, pg_T, pb_S, upd_e, upd_n, fX9_oddsBy, fX9_oddsBy_44, fX9_oddsBy_61, jI_mul, jI_div, g1, g2, b1, b2, c1, c2, o]
    · rw [if_neg h1, if_neg h2]
      have o := oddsOfM (N := N) (a := (H (2 + f g))) (b := (H (2 + s g))) (by omega) (by omega) (by omega)
      simp (disch := omega) only [jI_0, jI_1, jI_2, jI_3, jI_4, jI_5, jI_6, jI_7, jI_8, jI_9, jI_10, jI_11, jI_12, jI_13, jI_14, jI_15, jI_16, jI_20, jI_24, jI_26, jI_30, jI_31, jI_32, jI_40, jI_48, jI_56, jI_57, jI_59, jI_60, jI_97, jI_99, jI_122, jI_160, jI_240, jI_255, jI_768, jI_1000, ↓jN_1, ↓jN_2, ↓jN_3, ↓jN_4, ↓jN_8, ↓jN_10, ↓jN_11, ↓jN_12, ↓jN_14, ↓jN_20, jI_addN, jI_le, jI_lt, jI_eq, jI_cl, jI_in, jI_add, jI_sub, jI_eqN, gI_eqI, gI_eqN, gI_leI, gI_ltI, jI_leN, jI_ltN, gI_sub, pif_tt, pif_ff, pg_tt, isB, or_true, true_or, pif_T, pif_F, pg_T, pb_S, upd_e, upd_n, fX9_oddsBy, fX9_oddsBy_44, fX9_oddsBy_61, jI_mul, jI_div, g1, g2, b1, b2, c1, c2, o]
section
variable {N n z : Nat} {f s e : Nat → Nat}
theorem openOnesX {v_size : Int32} {c_first c_second c_ending : Nat → Int32} (hN : 100 ≤ N) (hk : Gk n z f s e) (hG : Gc z f s e v_size c_first c_second c_ending) : (fX0_openOnes N v_size c_ending) = some (jI (cnt z (isOp e))) := by
  have hz := hk.2.1
  have hGz := hG.1
  subst hGz
  have key : Ok ((fX0_openOnes_4 N (jI z) c_ending N 0 0)) (fun q => q = jI (cnt z (isOp e))) := by
    refine up_ok (fun fu i a => (fX0_openOnes_4 N (jI z) c_ending fu (jI a) (jI i))) _ z (fun i a => a = cnt i (isOp e)) ?_ ?_ N 0 0 (by omega) (by omega) rfl
    · intro fu i a hi ha ih
      obtain ⟨g1, g2, g3⟩ := hG.2 i hi
      have h4 := (hk.2.2 i hi).2.2.2
      have hs : cnt (i + 1) (isOp e) = cnt i (isOp e) + (if isOp e i = true then 1 else 0) := rfl
      by_cases h : e i = 2
      · simp (disch := omega) only [jI_0, jI_1, jI_2, jI_3, jI_4, jI_5, jI_6, jI_7, jI_8, jI_9, jI_10, jI_11, jI_12, jI_13, jI_14, jI_15, jI_16, jI_20, jI_24, jI_26, jI_30, jI_31, jI_32, jI_40, jI_48, jI_56, jI_57, jI_59, jI_60, jI_97, jI_99, jI_122, jI_160, jI_240, jI_255, jI_768, jI_1000, ↓jN_1, ↓jN_2, ↓jN_3, ↓jN_4, ↓jN_8, ↓jN_10, ↓jN_11, ↓jN_12, ↓jN_14, ↓jN_20, jI_addN, jI_le, jI_lt, jI_eq, jI_cl, jI_in, jI_add, jI_sub, jI_eqN, gI_eqI, gI_eqN, gI_leI, gI_ltI, jI_leN, jI_ltN, gI_sub, pif_tt, pif_ff, pg_tt, isB, or_true, true_or, pif_T, pif_F, pg_T, pb_S, upd_e, upd_n, fX0_openOnes_4, fX0_openOnes_25, g3]
        exact ih _ (by rw [ha, hs, if_pos (isOp_iff.mpr h)])
      · simp (disch := omega) only [jI_0, jI_1, jI_2, jI_3, jI_4, jI_5, jI_6, jI_7, jI_8, jI_9, jI_10, jI_11, jI_12, jI_13, jI_14, jI_15, jI_16, jI_20, jI_24, jI_26, jI_30, jI_31, jI_32, jI_40, jI_48, jI_56, jI_57, jI_59, jI_60, jI_97, jI_99, jI_122, jI_160, jI_240, jI_255, jI_768, jI_1000, ↓jN_1, ↓jN_2, ↓jN_3, ↓jN_4, ↓jN_8, ↓jN_10, ↓jN_11, ↓jN_12, ↓jN_14, ↓jN_20, jI_addN, jI_le, jI_lt, jI_eq, jI_cl, jI_in, jI_add, jI_sub, jI_eqN, gI_eqI, gI_eqN, gI_leI, gI_ltI, jI_leN, jI_ltN, gI_sub, pif_tt, pif_ff, pg_tt, isB, or_true, true_or, pif_T, pif_F, pg_T, pb_S, upd_e, upd_n, fX0_openOnes_4, fX0_openOnes_25, g3]
        exact ih _ (by rw [ha, hs, if_neg (fun c => h (isOp_iff.mp c))]; rfl)
    · intro fu a ha
      simp (disch := omega) only [jI_0, jI_1, jI_2, jI_3, jI_4, jI_5, jI_6, jI_7, jI_8, jI_9, jI_10, jI_11, jI_12, jI_13, jI_14, jI_15, jI_16, jI_20, jI_24, jI_26, jI_30, jI_31, jI_32, jI_40, jI_48, jI_56, jI_57, jI_59, jI_60, jI_97, jI_99, jI_122, jI_160, jI_240, jI_255, jI_768, jI_1000, ↓jN_1, ↓jN_2, ↓jN_3, ↓jN_4, ↓jN_8, ↓jN_10, ↓jN_11, ↓jN_12, ↓jN_14, ↓jN_20, jI_addN, jI_le, jI_lt, jI_eq, jI_cl, jI_in, jI_add, jI_sub, jI_eqN, gI_eqI, gI_eqN, gI_leI, gI_ltI, jI_leN, jI_ltN, gI_sub, pif_tt, pif_ff, pg_tt, isB, or_true, true_or, pif_T, pif_F, pg_T, pb_S, upd_e, upd_n, fX0_openOnes_4]
      exact Ok.s (by rw [ha])
  obtain ⟨a, e, rfl⟩ := key
  exact e
theorem openManyM {c_many c_firsts c_seconds c_goes : Nat → Int32} (hN : 100 ≤ N) (hk : Gk n z f s e) (hG : Gm 0 z f s e c_many c_firsts c_seconds c_goes) : (fX9_openMany N c_goes c_many) = some (jI (cnt z (isOp e))) := by
  have hz := hk.2.1
  have hm := hG.1
  have key : Ok ((fX9_openMany_4 N c_goes c_many N 0 0)) (fun q => q = jI (cnt z (isOp e))) := by
    refine up_ok (fun fu i a => (fX9_openMany_4 N c_goes c_many fu (jI a) (jI i))) _ z (fun i a => a = cnt i (isOp e)) ?_ ?_ N 0 0 (by omega) (by omega) rfl
    · intro fu i a hi ha ih
      obtain ⟨g1, g2, g3⟩ := hG.2 i hi
      rw [show 30 * 0 + i = i by omega] at g3
      have h4 := (hk.2.2 i hi).2.2.2
      have hs : cnt (i + 1) (isOp e) = cnt i (isOp e) + (if isOp e i = true then 1 else 0) := rfl
      by_cases h : e i = 2
      · simp (disch := omega) only [jI_0, jI_1, jI_2, jI_3, jI_4, jI_5, jI_6, jI_7, jI_8, jI_9, jI_10, jI_11, jI_12, jI_13, jI_14, jI_15, jI_16, jI_20, jI_24, jI_26, jI_30, jI_31, jI_32, jI_40, jI_48, jI_56, jI_57, jI_59, jI_60, jI_97, jI_99, jI_122, jI_160, jI_240, jI_255, jI_768, jI_1000, ↓jN_1, ↓jN_2, ↓jN_3, ↓jN_4, ↓jN_8, ↓jN_10, ↓jN_11, ↓jN_12, ↓jN_14, ↓jN_20, jI_addN, jI_le, jI_lt, jI_eq, jI_cl, jI_in, jI_add, jI_sub, jI_eqN, gI_eqI, gI_eqN, gI_leI, gI_ltI, jI_leN, jI_ltN, gI_sub, pif_tt, pif_ff, pg_tt, isB, or_true, true_or, pif_T, pif_F, pg_T, pb_S, upd_e, upd_n, fX9_openMany_4, fX9_openMany_30, hm, g3]
        exact ih _ (by rw [ha, hs, if_pos (isOp_iff.mpr h)])
      · simp (disch := omega) only [jI_0, jI_1, jI_2, jI_3, jI_4, jI_5, jI_6, jI_7, jI_8, jI_9, jI_10, jI_11, jI_12, jI_13, jI_14, jI_15, jI_16, jI_20, jI_24, jI_26, jI_30, jI_31, jI_32, jI_40, jI_48, jI_56, jI_57, jI_59, jI_60, jI_97, jI_99, jI_122, jI_160, jI_240, jI_255, jI_768, jI_1000, ↓jN_1, ↓jN_2, ↓jN_3, ↓jN_4, ↓jN_8, ↓jN_10, ↓jN_11, ↓jN_12, ↓jN_14, ↓jN_20, jI_addN, jI_le, jI_lt, jI_eq, jI_cl, jI_in, jI_add, jI_sub, jI_eqN, gI_eqI, gI_eqN, gI_leI, gI_ltI, jI_leN, jI_ltN, gI_sub, pif_tt, pif_ff, pg_tt, isB, or_true, true_or, pif_T, pif_F, pg_T, pb_S, upd_e, upd_n, fX9_openMany_4, fX9_openMany_30, hm, g3]
        exact ih _ (by rw [ha, hs, if_neg (fun c => h (isOp_iff.mp c))])
    · intro fu a ha
      simp (disch := omega) only [jI_0, jI_1, jI_2, jI_3, jI_4, jI_5, jI_6, jI_7, jI_8, jI_9, jI_10, jI_11, jI_12, jI_13, jI_14, jI_15, jI_16, jI_20, jI_24, jI_26, jI_30, jI_31, jI_32, jI_40, jI_48, jI_56, jI_57, jI_59, jI_60, jI_97, jI_99, jI_122, jI_160, jI_240, jI_255, jI_768, jI_1000, ↓jN_1, ↓jN_2, ↓jN_3, ↓jN_4, ↓jN_8, ↓jN_10, ↓jN_11, ↓jN_12, ↓jN_14, ↓jN_20, jI_addN, jI_le, jI_lt, jI_eq, jI_cl, jI_in, jI_add, jI_sub, jI_eqN, gI_eqI, gI_eqN, gI_leI, gI_ltI, jI_leN, jI_ltN, gI_sub, pif_tt, pif_ff, pg_tt, isB, or_true, true_or, pif_T, pif_F, pg_T, pb_S, upd_e, upd_n, fX9_openMany_4, hm]
      exact Ok.s (by rw [ha])
  obtain ⟨a, e, rfl⟩ := key
  exact e
theorem layOpensM {v_open : Int32} {c_many c_firsts c_seconds c_goes c_opens : Nat → Int32} (hN : 100 ≤ N) (hk : Gk n z f s e) (hG : Gm 0 z f s e c_many c_firsts c_seconds c_goes) : ∃ co, (fX9_layOpens N v_open c_goes c_many c_opens) = some (jI (cnt z (isOp e)), co) ∧ ∀ k, k < cnt z (isOp e) → co k = jI (opN z (isOp e) k) := by
  have hz := hk.2.1
  have hm := hG.1
  have key : Ok ((fX9_layOpens_7 N c_goes c_many N 0 0 c_opens)) (fun q => q.1 = jI (cnt z (isOp e)) ∧ ∀ k, k < cnt z (isOp e) → q.2 k = jI (opN z (isOp e) k)) := by
    refine up_ok (fun fu i (q : Nat × (Nat → Int32)) => (fX9_layOpens_7 N c_goes c_many fu (jI i) (jI q.1) q.2)) _ z (fun i q => q.1 = cnt i (isOp e) ∧ ∀ k, k < cnt i (isOp e) → q.2 k = jI (opN z (isOp e) k)) ?_ ?_ N 0 (0, c_opens) (by omega) (by omega) ⟨rfl, fun k h => absurd h (Nat.not_lt_zero _)⟩
    · intro fu i ⟨d, co⟩ hi ⟨hd, hp⟩ ih
      simp only at hd hp
      obtain ⟨g1, g2, g3⟩ := hG.2 i hi
      rw [show 30 * 0 + i = i by omega] at g3
      have h4 := (hk.2.2 i hi).2.2.2
      have hs : cnt (i + 1) (isOp e) = cnt i (isOp e) + (if isOp e i = true then 1 else 0) := rfl
      have hl := cnt_le i (isOp e)
      by_cases h : e i = 2
      · simp (disch := omega) only [jI_0, jI_1, jI_2, jI_3, jI_4, jI_5, jI_6, jI_7, jI_8, jI_9, jI_10, jI_11, jI_12, jI_13, jI_14, jI_15, jI_16, jI_20, jI_24, jI_26, jI_30, jI_31, jI_32, jI_40, jI_48, jI_56, jI_57, jI_59, jI_60, jI_97, jI_99, jI_122, jI_160, jI_240, jI_255, jI_768, jI_1000, ↓jN_1, ↓jN_2, ↓jN_3, ↓jN_4, ↓jN_8, ↓jN_10, ↓jN_11, ↓jN_12, ↓jN_14, ↓jN_20, jI_addN, jI_le, jI_lt, jI_eq, jI_cl, jI_in, jI_add, jI_sub, jI_eqN, gI_eqI, gI_eqN, gI_leI, gI_ltI, jI_leN, jI_ltN, gI_sub, pif_tt, pif_ff, pg_tt, isB, or_true, true_or, pif_T, pif_F, pg_T, pb_S, upd_e, upd_n, fX9_layOpens_7, fX9_layOpens_47, hm, g3]
        rw [if_pos (isOp_iff.mpr h)] at hs
        refine ih (d + 1, _) ⟨by rw [hs, hd], fun k hk2 => ?_⟩
        show upd co d (jI i) k = _
        by_cases hkd : k = d
        · rw [upd_e hkd, hkd, hd, op_of hi (isOp_iff.mpr h)]
        · rw [upd_n hkd]; exact hp k (by omega)
      · simp (disch := omega) only [jI_0, jI_1, jI_2, jI_3, jI_4, jI_5, jI_6, jI_7, jI_8, jI_9, jI_10, jI_11, jI_12, jI_13, jI_14, jI_15, jI_16, jI_20, jI_24, jI_26, jI_30, jI_31, jI_32, jI_40, jI_48, jI_56, jI_57, jI_59, jI_60, jI_97, jI_99, jI_122, jI_160, jI_240, jI_255, jI_768, jI_1000, ↓jN_1, ↓jN_2, ↓jN_3, ↓jN_4, ↓jN_8, ↓jN_10, ↓jN_11, ↓jN_12, ↓jN_14, ↓jN_20, jI_addN, jI_le, jI_lt, jI_eq, jI_cl, jI_in, jI_add, jI_sub, jI_eqN, gI_eqI, gI_eqN, gI_leI, gI_ltI, jI_leN, jI_ltN, gI_sub, pif_tt, pif_ff, pg_tt, isB, or_true, true_or, pif_T, pif_F, pg_T, pb_S, upd_e, upd_n, fX9_layOpens_7, fX9_layOpens_47, hm, g3]
        rw [if_neg (fun c => h (isOp_iff.mp c))] at hs
        exact ih (d, co) ⟨by rw [hs, hd]; rfl, fun k hk2 => hp k (by omega)⟩
    · intro fu ⟨d, co⟩ ⟨hd, hp⟩
      simp only at hd hp
      simp (disch := omega) only [jI_0, jI_1, jI_2, jI_3, jI_4, jI_5, jI_6, jI_7, jI_8, jI_9, jI_10, jI_11, jI_12, jI_13, jI_14, jI_15, jI_16, jI_20, jI_24, jI_26, jI_30, jI_31, jI_32, jI_40, jI_48, jI_56, jI_57, jI_59, jI_60, jI_97, jI_99, jI_122, jI_160, jI_240, jI_255, jI_768, jI_1000, ↓jN_1, ↓jN_2, ↓jN_3, ↓jN_4, ↓jN_8, ↓jN_10, ↓jN_11, ↓jN_12, ↓jN_14, ↓jN_20, jI_addN, jI_le, jI_lt, jI_eq, jI_cl, jI_in, jI_add, jI_sub, jI_eqN, gI_eqI, gI_eqN, gI_leI, gI_ltI, jI_leN, jI_ltN, gI_sub, pif_tt, pif_ff, pg_tt, isB, or_true, true_or, pif_T, pif_F, pg_T, pb_S, upd_e, upd_n, fX9_layOpens_7, hm]
      exact Ok.s ⟨by rw [hd], hp⟩
  obtain ⟨⟨a, co⟩, e1, h1, h2⟩ := key
  simp only at h1 h2
  subst h1
  exact ⟨co, e1, h2⟩
/-- GAMES whose OPEN ones stand with any END -/
def Gp (z : Nat) (f s e : Nat → Nat) (cm cf cs cg : Nat → Int32) : Prop := cm 0 = jI z ∧ ∀ g, g < z → cf g = jI (f g) ∧ cs g = jI (s g) ∧ (e g ≠ 2 → cg g = jI (e g))
theorem Gp_of {c_many c_firsts c_seconds c_goes : Nat → Int32} (hG : Gm 0 z f s e c_many c_firsts c_seconds c_goes) : Gp z f s e c_many c_firsts c_seconds c_goes := ⟨hG.1, fun g hg => by
  obtain ⟨a, b, c⟩ := hG.2 g hg
  rw [show 30 * 0 + g = g by omega] at a b c
  exact ⟨a, b, fun _ => c⟩⟩
theorem setEndsM {r : Nat} {c_many c_firsts c_seconds c_goes c_opens : Nat → Int32} (hN : 100 ≤ N) (hk : Gk n z f s e) (hG : Gp z f s e c_many c_firsts c_seconds c_goes) (hd : cnt z (isOp e) ≤ 7) (hr : r < 128) (ho : ∀ k, k < cnt z (isOp e) → c_opens k = jI (opN z (isOp e) k)) : ∃ cg, (fX9_setEnds N (jI (cnt z (isOp e))) c_goes c_opens (jI r)) = some cg ∧ Gm 0 z f s (eR e z r) c_many c_firsts c_seconds cg := by
  have hz := hk.2.1
  have key : Ok ((fX9_setEnds_2 N (jI (cnt z (isOp e))) c_opens (jI r) N 0 c_goes)) (fun cg => Gm 0 z f s (eR e z r) c_many c_firsts c_seconds cg) := by
    refine up_ok (fun fu i cg => (fX9_setEnds_2 N (jI (cnt z (isOp e))) c_opens (jI r) fu (jI i) cg)) _ (cnt z (isOp e)) (fun i cg => (∀ g, g < z → e g ≠ 2 → cg g = jI (e g)) ∧ (∀ g, g < z → e g = 2 → cnt g (isOp e) < i → cg g = jI (eR e z r g))) ?_ ?_ N 0 c_goes (by omega) (by omega) ⟨fun g hg h => (hG.2 g hg).2.2 h, fun g _ _ h => absurd h (Nat.not_lt_zero _)⟩
    · intro fu i cg hi ⟨h1, h2⟩ ih
      obtain ⟨o1, o2, o3⟩ := op_ok hi
      have o4 := ho i hi
      have hb := shr_ok (cnt z (isOp e) - 1 - i) (by omega) r hr
      simp (disch := omega) only [jI_0, jI_1, jI_2, jI_3, jI_4, jI_5, jI_6, jI_7, jI_8, jI_9, jI_10, jI_11, jI_12, jI_13, jI_14, jI_15, jI_16, jI_20, jI_24, jI_26, jI_30, jI_31, jI_32, jI_40, jI_48, jI_56, jI_57, jI_59, jI_60, jI_97, jI_99, jI_122, jI_160, jI_240, jI_255, jI_768, jI_1000, ↓jN_1, ↓jN_2, ↓jN_3, ↓jN_4, ↓jN_8, ↓jN_10, ↓jN_11, ↓jN_12, ↓jN_14, ↓jN_20, jI_addN, jI_le, jI_lt, jI_eq, jI_cl, jI_in, jI_add, jI_sub, jI_eqN, gI_eqI, gI_eqN, gI_leI, gI_ltI, jI_leN, jI_ltN, gI_sub, pif_tt, pif_ff, pg_tt, isB, or_true, true_or, pif_T, pif_F, pg_T, pb_S, upd_e, upd_n, fX9_setEnds_2, o4, hb]
      refine ih _ ⟨fun g hg h => ?_, fun g hg h h3 => ?_⟩
      · rw [upd_n (fun c => h (by rw [c]; exact isOp_iff.mp o2))]; exact h1 g hg h
      · by_cases hc : g = opN z (isOp e) i
        · rw [upd_e hc, eR_open h, hc, o3]
        · rw [upd_n hc]
          refine h2 g hg h ?_
          have : cnt g (isOp e) ≠ i := fun c => hc (by rw [← c, op_of hg (isOp_iff.mpr h)])
          omega
    · intro fu cg ⟨h1, h2⟩
      simp (disch := omega) only [jI_0, jI_1, jI_2, jI_3, jI_4, jI_5, jI_6, jI_7, jI_8, jI_9, jI_10, jI_11, jI_12, jI_13, jI_14, jI_15, jI_16, jI_20, jI_24, jI_26, jI_30, jI_31, jI_32, jI_40, jI_48, jI_56, jI_57, jI_59, jI_60, jI_97, jI_99, jI_122, jI_160, jI_240, jI_255, jI_768, jI_1000, ↓jN_1, ↓jN_2, ↓jN_3, ↓jN_4, ↓jN_8, ↓jN_10, ↓jN_11, ↓jN_12, ↓jN_14, ↓jN_20, jI_addN, jI_le, jI_lt, jI_eq, jI_cl, jI_in, jI_add, jI_sub, jI_eqN, gI_eqI, gI_eqN, gI_leI, gI_ltI, jI_leN, jI_ltN, gI_sub, pif_tt, pif_ff, pg_tt, isB, or_true, true_or, pif_T, pif_F, pg_T, pb_S, upd_e, upd_n, fX9_setEnds_2]
      refine Ok.s ⟨hG.1, fun g hg => ?_⟩
      rw [show 30 * 0 + g = g by omega]
      obtain ⟨a, b, c⟩ := hG.2 g hg
      refine ⟨a, b, ?_⟩
      by_cases h : e g = 2
      · exact h2 g hg h (cnt_lt_of hg (isOp_iff.mpr h))
      · rw [eR_else h]; exact h1 g hg h
  exact key
theorem setOpenM {c_many c_firsts c_seconds c_goes c_opens : Nat → Int32} (hN : 100 ≤ N) (hk : Gk n z f s e) (hG : Gp z f s e c_many c_firsts c_seconds c_goes) (hd : cnt z (isOp e) ≤ 7) (ho : ∀ k, k < cnt z (isOp e) → c_opens k = jI (opN z (isOp e) k)) : ∃ cg, (fX9_setOpen N (jI (cnt z (isOp e))) c_goes c_opens) = some cg ∧ Gm 0 z f s e c_many c_firsts c_seconds cg := by
  have hz := hk.2.1
  have key : Ok ((fX9_setOpen_2 N (jI (cnt z (isOp e))) c_opens N 0 c_goes)) (fun cg => Gm 0 z f s e c_many c_firsts c_seconds cg) := by
    refine up_ok (fun fu i cg => (fX9_setOpen_2 N (jI (cnt z (isOp e))) c_opens fu (jI i) cg)) _ (cnt z (isOp e)) (fun i cg => (∀ g, g < z → e g ≠ 2 → cg g = jI (e g)) ∧ (∀ g, g < z → e g = 2 → cnt g (isOp e) < i → cg g = jI 2)) ?_ ?_ N 0 c_goes (by omega) (by omega) ⟨fun g hg h => (hG.2 g hg).2.2 h, fun g _ _ h => absurd h (Nat.not_lt_zero _)⟩
    · intro fu i cg hi ⟨h1, h2⟩ ih
      obtain ⟨o1, o2, o3⟩ := op_ok hi
      have o4 := ho i hi
      simp (disch := omega) only [jI_0, jI_1, jI_2, jI_3, jI_4, jI_5, jI_6, jI_7, jI_8, jI_9, jI_10, jI_11, jI_12, jI_13, jI_14, jI_15, jI_16, jI_20, jI_24, jI_26, jI_30, jI_31, jI_32, jI_40, jI_48, jI_56, jI_57, jI_59, jI_60, jI_97, jI_99, jI_122, jI_160, jI_240, jI_255, jI_768, jI_1000, ↓jN_1, ↓jN_2, ↓jN_3, ↓jN_4, ↓jN_8, ↓jN_10, ↓jN_11, ↓jN_12, ↓jN_14, ↓jN_20, jI_addN, jI_le, jI_lt, jI_eq, jI_cl, jI_in, jI_add, jI_sub, jI_eqN, gI_eqI, gI_eqN, gI_leI, gI_ltI, jI_leN, jI_ltN, gI_sub, pif_tt, pif_ff, pg_tt, isB, or_true, true_or, pif_T, pif_F, pg_T, pb_S, upd_e, upd_n, fX9_setOpen_2, o4]
      refine ih _ ⟨fun g hg h => ?_, fun g hg h h3 => ?_⟩
      · rw [upd_n (fun c => h (by rw [c]; exact isOp_iff.mp o2))]; exact h1 g hg h
      · by_cases hc : g = opN z (isOp e) i
        · rw [upd_e hc]
        · rw [upd_n hc]
          refine h2 g hg h ?_
          have : cnt g (isOp e) ≠ i := fun c => hc (by rw [← c, op_of hg (isOp_iff.mpr h)])
          omega
    · intro fu cg ⟨h1, h2⟩
      simp (disch := omega) only [jI_0, jI_1, jI_2, jI_3, jI_4, jI_5, jI_6, jI_7, jI_8, jI_9, jI_10, jI_11, jI_12, jI_13, jI_14, jI_15, jI_16, jI_20, jI_24, jI_26, jI_30, jI_31, jI_32, jI_40, jI_48, jI_56, jI_57, jI_59, jI_60, jI_97, jI_99, jI_122, jI_160, jI_240, jI_255, jI_768, jI_1000, ↓jN_1, ↓jN_2, ↓jN_3, ↓jN_4, ↓jN_8, ↓jN_10, ↓jN_11, ↓jN_12, ↓jN_14, ↓jN_20, jI_addN, jI_le, jI_lt, jI_eq, jI_cl, jI_in, jI_add, jI_sub, jI_eqN, gI_eqI, gI_eqN, gI_leI, gI_ltI, jI_leN, jI_ltN, gI_sub, pif_tt, pif_ff, pg_tt, isB, or_true, true_or, pif_T, pif_F, pg_T, pb_S, upd_e, upd_n, fX9_setOpen_2]
      refine Ok.s ⟨hG.1, fun g hg => ?_⟩
      rw [show 30 * 0 + g = g by omega]
      obtain ⟨a, b, c⟩ := hG.2 g hg
      refine ⟨a, b, ?_⟩
      by_cases h : e g = 2
      · rw [h]; exact h2 g hg h (cnt_lt_of hg (isOp_iff.mpr h))
      · exact h1 g hg h
  exact key
theorem Gp_row {r : Nat} {c_many c_firsts c_seconds c_goes : Nat → Int32} (hG : Gm 0 z f s (eR e z r) c_many c_firsts c_seconds c_goes) : Gp z f s e c_many c_firsts c_seconds c_goes := ⟨hG.1, fun g hg => by
  obtain ⟨a, b, c⟩ := hG.2 g hg
  rw [show 30 * 0 + g = g by omega] at a b c
  exact ⟨a, b, fun h => by rw [c, eR_else h]⟩⟩
end
