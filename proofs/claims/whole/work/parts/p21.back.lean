/-! From the last GAME back: what is chosen; the class. -/
def mnN (o : Nat) (V : Nat → Nat → Nat) (r i : Nat) : Nat := o * V (2 * r) i + (16 - o) * V (2 * r + 1) i
theorem mnN_le {o B : Nat} {V : Nat → Nat → Nat} {r i : Nat} (ho : o ≤ 16) (h1 : V (2 * r) i ≤ B) (h2 : V (2 * r + 1) i ≤ B) : mnN o V r i ≤ 16 * B := by
  unfold mnN
  have a : o * V (2 * r) i ≤ o * B := Nat.mul_le_mul_left _ h1
  have b : (16 - o) * V (2 * r + 1) i ≤ (16 - o) * B := Nat.mul_le_mul_left _ h2
  have c : o * B + (16 - o) * B = 16 * B := by rw [← Nat.add_mul]; congr 1; omega
  omega
def okP (H f s : Nat → Nat) (g : Nat) (V : Nat → Nat → Nat) (r p : Nat) : Bool := decide (mnN (odR H f s g (p ^^^ 2)) V r (f g) ≤ mnN (odR H f s g p) V r (f g)) && decide (mnN (odR H f s g (p ^^^ 1)) V r (s g) ≤ mnN (odR H f s g p) V r (s g))
def prP (H f s : Nat → Nat) (g : Nat) (V : Nat → Nat → Nat) (r : Nat) : Nat := if fstN 4 (okP H f s g V r) < 4 then fstN 4 (okP H f s g V r) else 0
def stP (H f s : Nat → Nat) (g : Nat) (V : Nat → Nat → Nat) (r : Nat) : Nat := if fstN 4 (okP H f s g V r) < 4 then 1 else 0
theorem prP_lt (H f s : Nat → Nat) (g : Nat) (V : Nat → Nat → Nat) (r : Nat) : prP H f s g V r < 4 := by unfold prP; split <;> omega
theorem prP_hit {H f s : Nat → Nat} {g : Nat} {V : Nat → Nat → Nat} {r p : Nat} (hp : p < 4) (h1 : okP H f s g V r p = true) (h2 : ∀ q, q < p → okP H f s g V r q = false) : prP H f s g V r = p ∧ stP H f s g V r = 1 := by
  have := fstN_eq hp h1 h2
  unfold prP stP
  rw [this, if_pos hp, if_pos hp]; exact ⟨rfl, rfl⟩
theorem prP_none {H f s : Nat → Nat} {g : Nat} {V : Nat → Nat → Nat} {r : Nat} (h2 : ∀ q, q < 4 → okP H f s g V r q = false) : prP H f s g V r = 0 ∧ stP H f s g V r = 0 := by
  have := fstN_none h2
  unfold prP stP
  rw [this, if_neg (by omega), if_neg (by omega)]; exact ⟨rfl, rfl⟩
theorem odR_le (H f s : Nat → Nat) (g p : Nat) : 1 ≤ odR H f s g p ∧ odR H f s g p ≤ 15 := odN_le _ _
def bkV (H : Nat → Nat) (z : Nat) (f s e : Nat → Nat) (bp : Bool) : Nat → Nat → Nat → Nat
  | 0, r, i => leafN H z f s e r i
  | j + 1, r, i => mnN (odR H f s (opN z (isOp e) (cnt z (isOp e) - 1 - j)) (if bp then prP H f s (opN z (isOp e) (cnt z (isOp e) - 1 - j)) (bkV H z f s e bp j) r else 0)) (bkV H z f s e bp j) r i
theorem bkV_le {H : Nat → Nat} {z : Nat} {f s e : Nat → Nat} {bp : Bool} (hR : Rk H) : ∀ j r i, i < H 0 → bkV H z f s e bp j r i ≤ 16 ^ j * 100000 := by
  intro j
  induction j with
  | zero => intro r i hi; simp only [bkV, Nat.pow_zero, Nat.one_mul]; exact payN_le hR hi
  | succ j ih =>
    intro r i hi
    simp only [bkV]
    have h := mnN_le (V := bkV H z f s e bp j) (r := r) (i := i) (show odR H f s (opN z (isOp e) (cnt z (isOp e) - 1 - j)) (if bp then prP H f s (opN z (isOp e) (cnt z (isOp e) - 1 - j)) (bkV H z f s e bp j) r else 0) ≤ 16 by have := odR_le H f s (opN z (isOp e) (cnt z (isOp e) - 1 - j)) (if bp then prP H f s (opN z (isOp e) (cnt z (isOp e) - 1 - j)) (bkV H z f s e bp j) r else 0); omega) (ih (2 * r) i hi) (ih (2 * r + 1) i hi)
    have e4 : 16 ^ (j + 1) * 100000 = 16 * (16 ^ j * 100000) := by rw [Nat.pow_succ, Nat.mul_comm (16 ^ j) 16, Nat.mul_assoc]
    rw [e4]; exact h
theorem bkV_lt {H : Nat → Nat} {z : Nat} {f s e : Nat → Nat} {bp : Bool} (hR : Rk H) {j : Nat} (hj : j ≤ 7) {r i : Nat} (hi : i < H 0) : bkV H z f s e bp j r i ≤ 100000000000000 := by
  have h1 := bkV_le (z := z) (f := f) (s := s) (e := e) (bp := bp) hR j r i hi
  have h2 : 16 ^ j ≤ 16 ^ 7 := Nat.pow_le_pow_right (by omega) hj
  have h3 : 16 ^ j * 100000 ≤ 16 ^ 7 * 100000 := Nat.mul_le_mul_right _ h2
  omega
theorem xor2 : ∀ p, p < 4 → jI p ^^^ jI 2 = jI (p ^^^ 2) := by decide +kernel
theorem xor1 : ∀ p, p < 4 → jI p ^^^ jI 1 = jI (p ^^^ 1) := by decide +kernel
theorem xorl2 : ∀ p, p < 4 → p ^^^ 2 < 4 := by decide
theorem xorl1 : ∀ p, p < 4 → p ^^^ 1 < 4 := by decide
theorem and2 : ∀ p, p < 4 → (jI p &&& jI 2 = jI 0) = (p / 2 = 0) := by decide +kernel
theorem and1 : ∀ p, p < 4 → (jI p &&& jI 1 = jI 0) = (p % 2 = 0) := by decide +kernel
section
variable {v_depth : Int32} {v_pair : Int32} {v_settled : Int32} {c_leaf : Nat → Int64} {c_ofPair : Nat → Int32} {c_open : Nat → Int32} {v_rules_sides : Int32} {c_rules_strength : Nat → Int32} {c_trial_first : Nat → Int32} {c_trial_second : Nat → Int32} {c_value : Nat → Int64} {v_firstPaying : Int32} {v_unwanted : Int32} {c_ofFirst : Nat → Int32}
variable {N n z : Nat} {f s e H : Nat → Nat} {V : Nat → Nat → Nat}
theorem joinX {r w : Nat} (hN : 100 ≤ N) (hn : n ≤ 6) (hr : r < 64) (hw : w ≤ 16) (h1 : ∀ i, i < n → c_leaf (6 * (2 * r) + i) = jL (V (2 * r) i)) (h2 : ∀ i, i < n → c_leaf (6 * (2 * r + 1) + i) = jL (V (2 * r + 1) i)) : ∃ cl, (fX6_join N c_leaf (jI n) (jI r) (jI w)) = some cl ∧ (∀ i, i < n → cl (6 * r + i) = jL (mnN w V r i)) ∧ ∀ k, (k < 6 * r ∨ 6 * r + 6 ≤ k) → cl k = c_leaf k := by
  have key : Ok ((fX6_join_8 N (jI n) (jI r) (jI w) N (jI (6 * r)) 0 c_leaf)) (fun cl => (∀ i, i < n → cl (6 * r + i) = jL (mnN w V r i)) ∧ ∀ k, (k < 6 * r ∨ 6 * r + 6 ≤ k) → cl k = c_leaf k) := by
    refine up_ok (fun fu i cl => (fX6_join_8 N (jI n) (jI r) (jI w) fu (jI (6 * r)) (jI i) cl)) _ n (fun m cl => (∀ i, i < m → cl (6 * r + i) = jL (mnN w V r i)) ∧ (∀ i, m ≤ i → i < n → cl (6 * (2 * r) + i) = jL (V (2 * r) i)) ∧ (∀ i, i < n → cl (6 * (2 * r + 1) + i) = jL (V (2 * r + 1) i)) ∧ ∀ k, (k < 6 * r ∨ 6 * r + 6 ≤ k) → cl k = c_leaf k) ?_ ?_ N 0 c_leaf (by omega) (by omega) ⟨fun i h => by omega, fun i _ h => h1 i h, h2, fun _ _ => rfl⟩
    · intro fu i cl hi ⟨a1, a2, a3, a4⟩ ih
      have q1 : cl (2 * (6 * r) + i) = jL (V (2 * r) i) := by
        rw [show 2 * (6 * r) + i = 6 * (2 * r) + i by omega]; exact a2 i (Nat.le_refl _) hi
      have q2 : cl (2 * (6 * r) + 6 + i) = jL (V (2 * r + 1) i) := by
        rw [show 2 * (6 * r) + 6 + i = 6 * (2 * r + 1) + i by omega]; exact a3 i hi
      have hm := mixedX (N := N) (w := w) (a := V (2 * r) i) (b := V (2 * r + 1) i) hw
      simp (disch := omega) only [jI_0, jI_1, jI_2, jI_3, jI_4, jI_5, jI_6, jI_7, jI_8, jI_9, jI_10, jI_11, jI_12, jI_13, jI_14, jI_15, jI_16, jI_20, jI_24, jI_26, jI_30, jI_31, jI_32, jI_40, jI_48, jI_56, jI_57, jI_59, jI_60, jI_97, jI_99, jI_122, jI_160, jI_240, jI_255, jI_768, jI_1000, ↓jN_1, ↓jN_2, ↓jN_3, ↓jN_4, ↓jN_8, ↓jN_10, ↓jN_11, ↓jN_12, ↓jN_14, ↓jN_20, jI_addN, jI_le, jI_lt, jI_eq, jI_cl, jI_in, jI_add, jI_sub, jI_eqN, gI_eqI, gI_eqN, gI_leI, gI_ltI, jI_leN, jI_ltN, gI_sub, pif_tt, pif_ff, pg_tt, isB, or_true, true_or, pif_T, pif_F, pg_T, pb_S, upd_e, upd_n, fX6_join_8, jI_mul, q1, q2, hm]
      refine ih _ ⟨fun j hj => ?_, fun j hj hj2 => ?_, fun j hj => ?_, fun k hk => ?_⟩
      · by_cases h : j = i
        · rw [updL_e (by omega), h]; rfl
        · rw [updL_n (by omega)]; exact a1 j (by omega)
      · rw [updL_n (by omega)]; exact a2 j (by omega) hj2
      · rw [updL_n (by omega)]; exact a3 j hj
      · rw [updL_n (by omega)]; exact a4 k hk
    · intro fu cl ⟨a1, a2, a3, a4⟩
      simp (disch := omega) only [jI_0, jI_1, jI_2, jI_3, jI_4, jI_5, jI_6, jI_7, jI_8, jI_9, jI_10, jI_11, jI_12, jI_13, jI_14, jI_15, jI_16, jI_20, jI_24, jI_26, jI_30, jI_31, jI_32, jI_40, jI_48, jI_56, jI_57, jI_59, jI_60, jI_97, jI_99, jI_122, jI_160, jI_240, jI_255, jI_768, jI_1000, ↓jN_1, ↓jN_2, ↓jN_3, ↓jN_4, ↓jN_8, ↓jN_10, ↓jN_11, ↓jN_12, ↓jN_14, ↓jN_20, jI_addN, jI_le, jI_lt, jI_eq, jI_cl, jI_in, jI_add, jI_sub, jI_eqN, gI_eqI, gI_eqN, gI_leI, gI_ltI, jI_leN, jI_ltN, gI_sub, pif_tt, pif_ff, pg_tt, isB, or_true, true_or, pif_T, pif_F, pg_T, pb_S, upd_e, upd_n, fX6_join_8]
      exact Ok.s ⟨a1, a4⟩
  obtain ⟨cl, e1, h⟩ := key
  refine ⟨cl, ?_, h⟩
  have e6 : jI r * jI 6 = jI (6 * r) := by rw [jI_mul, Nat.mul_comm]
  simp (disch := omega) only [jI_0, jI_1, jI_2, jI_3, jI_4, jI_5, jI_6, jI_7, jI_8, jI_9, jI_10, jI_11, jI_12, jI_13, jI_14, jI_15, jI_16, jI_20, jI_24, jI_26, jI_30, jI_31, jI_32, jI_40, jI_48, jI_56, jI_57, jI_59, jI_60, jI_97, jI_99, jI_122, jI_160, jI_240, jI_255, jI_768, jI_1000, ↓jN_1, ↓jN_2, ↓jN_3, ↓jN_4, ↓jN_8, ↓jN_10, ↓jN_11, ↓jN_12, ↓jN_14, ↓jN_20, jI_addN, jI_le, jI_lt, jI_eq, jI_cl, jI_in, jI_add, jI_sub, jI_eqN, gI_eqI, gI_eqN, gI_leI, gI_ltI, jI_leN, jI_ltN, gI_sub, pif_tt, pif_ff, pg_tt, isB, or_true, true_or, pif_T, pif_F, pg_T, pb_S, upd_e, upd_n, fX6_join, e6]
  exact e1
/-- how many want to lose at a node -/
def lsA (f s : Nat → Nat) (g : Nat) (V : Nat → Nat → Nat) (r : Nat) : Nat := (if V (2 * r) (f g) < V (2 * r + 1) (f g) then 1 else 0) + (if V (2 * r + 1) (s g) < V (2 * r) (s g) then 1 else 0)
theorem losersAtX {d r g : Nat} (hd : d < 7) (hr : r < 64) (hg : g < 30) (hn : n ≤ 6) (ho : c_open d = jI g) (hf : c_trial_first g = jI (f g)) (hs : c_trial_second g = jI (s g)) (hf6 : f g < n) (hs6 : s g < n) (hB : ∀ r i, i < n → V r i ≤ 100000000000000) (h1 : ∀ i, i < n → c_leaf (6 * (2 * r) + i) = jL (V (2 * r) i)) (h2 : ∀ i, i < n → c_leaf (6 * (2 * r + 1) + i) = jL (V (2 * r + 1) i)) : (fX6_losersAt N c_leaf c_open c_trial_first c_trial_second (jI d) (jI r)) = some (jI (lsA f s g V r)) := by
  have a1 : c_leaf (2 * r * 6 + f g) = jL (V (2 * r) (f g)) := by rw [show 2 * r * 6 + f g = 6 * (2 * r) + f g by omega]; exact h1 _ hf6
  have a2 : c_leaf (2 * r * 6 + 6 + f g) = jL (V (2 * r + 1) (f g)) := by rw [show 2 * r * 6 + 6 + f g = 6 * (2 * r + 1) + f g by omega]; exact h2 _ hf6
  have a3 : c_leaf (2 * r * 6 + s g) = jL (V (2 * r) (s g)) := by rw [show 2 * r * 6 + s g = 6 * (2 * r) + s g by omega]; exact h1 _ hs6
  have a4 : c_leaf (2 * r * 6 + 6 + s g) = jL (V (2 * r + 1) (s g)) := by rw [show 2 * r * 6 + 6 + s g = 6 * (2 * r + 1) + s g by omega]; exact h2 _ hs6
  have b1 := hB (2 * r) (f g) hf6
  have b2 := hB (2 * r + 1) (f g) hf6
  have b3 := hB (2 * r) (s g) hs6
  have b4 := hB (2 * r + 1) (s g) hs6
  unfold lsA
  by_cases c1 : V (2 * r) (f g) < V (2 * r + 1) (f g)
  · rw [if_pos c1]
    by_cases c2 : V (2 * r + 1) (s g) < V (2 * r) (s g)
    · rw [if_pos c2]
      simp (disch := omega) only [jI_0, jI_1, jI_2, jI_3, jI_4, jI_5, jI_6, jI_7, jI_8, jI_9, jI_10, jI_11, jI_12, jI_13, jI_14, jI_15, jI_16, jI_20, jI_24, jI_26, jI_30, jI_31, jI_32, jI_40, jI_48, jI_56, jI_57, jI_59, jI_60, jI_97, jI_99, jI_122, jI_160, jI_240, jI_255, jI_768, jI_1000, ↓jN_1, ↓jN_2, ↓jN_3, ↓jN_4, ↓jN_8, ↓jN_10, ↓jN_11, ↓jN_12, ↓jN_14, ↓jN_20, jI_addN, jI_le, jI_lt, jI_eq, jI_cl, jI_in, jI_add, jI_sub, jI_eqN, gI_eqI, gI_eqN, gI_leI, gI_ltI, jI_leN, jI_ltN, gI_sub, pif_tt, pif_ff, pg_tt, isB, or_true, true_or, pif_T, pif_F, pg_T, pb_S, upd_e, upd_n, fX6_losersAt, fX6_losersAt_73, fX6_losersAt_108, jI_mul, ho, hf, hs, a1, a2, a3, a4, jL_cmp1]
    · rw [if_neg c2]
      simp (disch := omega) only [jI_0, jI_1, jI_2, jI_3, jI_4, jI_5, jI_6, jI_7, jI_8, jI_9, jI_10, jI_11, jI_12, jI_13, jI_14, jI_15, jI_16, jI_20, jI_24, jI_26, jI_30, jI_31, jI_32, jI_40, jI_48, jI_56, jI_57, jI_59, jI_60, jI_97, jI_99, jI_122, jI_160, jI_240, jI_255, jI_768, jI_1000, ↓jN_1, ↓jN_2, ↓jN_3, ↓jN_4, ↓jN_8, ↓jN_10, ↓jN_11, ↓jN_12, ↓jN_14, ↓jN_20, jI_addN, jI_le, jI_lt, jI_eq, jI_cl, jI_in, jI_add, jI_sub, jI_eqN, gI_eqI, gI_eqN, gI_leI, gI_ltI, jI_leN, jI_ltN, gI_sub, pif_tt, pif_ff, pg_tt, isB, or_true, true_or, pif_T, pif_F, pg_T, pb_S, upd_e, upd_n, fX6_losersAt, fX6_losersAt_73, fX6_losersAt_108, jI_mul, ho, hf, hs, a1, a2, a3, a4, jL_cmp1]
  · rw [if_neg c1]
    by_cases c2 : V (2 * r + 1) (s g) < V (2 * r) (s g)
    · rw [if_pos c2]
      simp (disch := omega) only [jI_0, jI_1, jI_2, jI_3, jI_4, jI_5, jI_6, jI_7, jI_8, jI_9, jI_10, jI_11, jI_12, jI_13, jI_14, jI_15, jI_16, jI_20, jI_24, jI_26, jI_30, jI_31, jI_32, jI_40, jI_48, jI_56, jI_57, jI_59, jI_60, jI_97, jI_99, jI_122, jI_160, jI_240, jI_255, jI_768, jI_1000, ↓jN_1, ↓jN_2, ↓jN_3, ↓jN_4, ↓jN_8, ↓jN_10, ↓jN_11, ↓jN_12, ↓jN_14, ↓jN_20, jI_addN, jI_le, jI_lt, jI_eq, jI_cl, jI_in, jI_add, jI_sub, jI_eqN, gI_eqI, gI_eqN, gI_leI, gI_ltI, jI_leN, jI_ltN, gI_sub, pif_tt, pif_ff, pg_tt, isB, or_true, true_or, pif_T, pif_F, pg_T, pb_S, upd_e, upd_n, fX6_losersAt, fX6_losersAt_73, fX6_losersAt_108, jI_mul, ho, hf, hs, a1, a2, a3, a4, jL_cmp1]
    · rw [if_neg c2]
      simp (disch := omega) only [jI_0, jI_1, jI_2, jI_3, jI_4, jI_5, jI_6, jI_7, jI_8, jI_9, jI_10, jI_11, jI_12, jI_13, jI_14, jI_15, jI_16, jI_20, jI_24, jI_26, jI_30, jI_31, jI_32, jI_40, jI_48, jI_56, jI_57, jI_59, jI_60, jI_97, jI_99, jI_122, jI_160, jI_240, jI_255, jI_768, jI_1000, ↓jN_1, ↓jN_2, ↓jN_3, ↓jN_4, ↓jN_8, ↓jN_10, ↓jN_11, ↓jN_12, ↓jN_14, ↓jN_20, jI_addN, jI_le, jI_lt, jI_eq, jI_cl, jI_in, jI_add, jI_sub, jI_eqN, gI_eqI, gI_eqN, gI_leI, gI_ltI, jI_leN, jI_ltN, gI_sub, pif_tt, pif_ff, pg_tt, isB, or_true, true_or, pif_T, pif_F, pg_T, pb_S, upd_e, upd_n, fX6_losersAt, fX6_losersAt_73, fX6_losersAt_108, jI_mul, ho, hf, hs, a1, a2, a3, a4, jL_cmp1]
theorem gainsX {r i p q op oq : Nat} (hr : r < 64) (hp : p < 4) (hq : q < 4) (hn : n ≤ 6) (hi : i < n) (hop : c_ofPair p = jI op) (hoq : c_ofPair q = jI oq) (hp16 : op ≤ 16) (hq16 : oq ≤ 16) (hB : ∀ r i, i < n → V r i ≤ 100000000000000) (h1 : ∀ i, i < n → c_leaf (6 * (2 * r) + i) = jL (V (2 * r) i)) (h2 : ∀ i, i < n → c_leaf (6 * (2 * r + 1) + i) = jL (V (2 * r + 1) i)) : (fX6_gains N c_leaf c_ofPair (jI i) (jI r) (jI p) (jI q)) = some (jI (if mnN oq V r i ≤ mnN op V r i then 0 else 1)) := by
  have a1 : c_leaf (2 * r * 6 + i) = jL (V (2 * r) i) := by rw [show 2 * r * 6 + i = 6 * (2 * r) + i by omega]; exact h1 _ hi
  have a2 : c_leaf ((2 * r + 1) * 6 + i) = jL (V (2 * r + 1) i) := by rw [show (2 * r + 1) * 6 + i = 6 * (2 * r + 1) + i by omega]; exact h2 _ hi
  have m1 := mixedX (N := N) (w := op) (a := V (2 * r) i) (b := V (2 * r + 1) i) hp16
  have m2 := mixedX (N := N) (w := oq) (a := V (2 * r) i) (b := V (2 * r + 1) i) hq16
  have b1 := mnN_le (V := V) hp16 (hB (2 * r) i hi) (hB (2 * r + 1) i hi)
  have b2 := mnN_le (V := V) hq16 (hB (2 * r) i hi) (hB (2 * r + 1) i hi)
  change _ = some (jL (mnN op V r i)) at m1
  change _ = some (jL (mnN oq V r i)) at m2
  by_cases c : mnN oq V r i ≤ mnN op V r i
  · rw [if_pos c]
    simp (disch := omega) only [jI_0, jI_1, jI_2, jI_3, jI_4, jI_5, jI_6, jI_7, jI_8, jI_9, jI_10, jI_11, jI_12, jI_13, jI_14, jI_15, jI_16, jI_20, jI_24, jI_26, jI_30, jI_31, jI_32, jI_40, jI_48, jI_56, jI_57, jI_59, jI_60, jI_97, jI_99, jI_122, jI_160, jI_240, jI_255, jI_768, jI_1000, ↓jN_1, ↓jN_2, ↓jN_3, ↓jN_4, ↓jN_8, ↓jN_10, ↓jN_11, ↓jN_12, ↓jN_14, ↓jN_20, jI_addN, jI_le, jI_lt, jI_eq, jI_cl, jI_in, jI_add, jI_sub, jI_eqN, gI_eqI, gI_eqN, gI_leI, gI_ltI, jI_leN, jI_ltN, gI_sub, pif_tt, pif_ff, pg_tt, isB, or_true, true_or, pif_T, pif_F, pg_T, pb_S, upd_e, upd_n, fX6_gains, fX6_gains_68, jI_mul, a1, a2, hop, hoq, m1, m2, jL_cmp1]
  · rw [if_neg c]
    simp (disch := omega) only [jI_0, jI_1, jI_2, jI_3, jI_4, jI_5, jI_6, jI_7, jI_8, jI_9, jI_10, jI_11, jI_12, jI_13, jI_14, jI_15, jI_16, jI_20, jI_24, jI_26, jI_30, jI_31, jI_32, jI_40, jI_48, jI_56, jI_57, jI_59, jI_60, jI_97, jI_99, jI_122, jI_160, jI_240, jI_255, jI_768, jI_1000, ↓jN_1, ↓jN_2, ↓jN_3, ↓jN_4, ↓jN_8, ↓jN_10, ↓jN_11, ↓jN_12, ↓jN_14, ↓jN_20, jI_addN, jI_le, jI_lt, jI_eq, jI_cl, jI_in, jI_add, jI_sub, jI_eqN, gI_eqI, gI_eqN, gI_leI, gI_ltI, jI_leN, jI_ltN, gI_sub, pif_tt, pif_ff, pg_tt, isB, or_true, true_or, pif_T, pif_F, pg_T, pb_S, upd_e, upd_n, fX6_gains, fX6_gains_68, jI_mul, a1, a2, hop, hoq, m1, m2, jL_cmp1]
theorem choosePairX {d r g : Nat} (hN : 100 ≤ N) (hd : d < 7) (hr : r < 64) (hg : g < 30) (hn : n ≤ 6) (ho : c_open d = jI g) (hf : c_trial_first g = jI (f g)) (hs : c_trial_second g = jI (s g)) (hf6 : f g < n) (hs6 : s g < n) (hpr : ∀ p, p < 4 → c_ofPair p = jI (odR H f s g p)) (hB : ∀ r i, i < n → V r i ≤ 100000000000000) (h1 : ∀ i, i < n → c_leaf (6 * (2 * r) + i) = jL (V (2 * r) i)) (h2 : ∀ i, i < n → c_leaf (6 * (2 * r + 1) + i) = jL (V (2 * r + 1) i)) : (fX6_choosePair N v_pair v_settled c_leaf c_ofPair c_open c_trial_first c_trial_second (jI d) (jI r)) = some (jI (prP H f s g V r), jI (stP H f s g V r)) := by
  have key : Ok ((fX6_choosePair_12 N c_leaf c_ofPair c_open c_trial_first c_trial_second (jI d) (jI r) N 0 0 0)) (fun q => q = (jI (prP H f s g V r), jI (stP H f s g V r))) := by
    refine up_ok (fun fu p (q : Nat × Nat) => (fX6_choosePair_12 N c_leaf c_ofPair c_open c_trial_first c_trial_second (jI d) (jI r) fu (jI p) (jI q.1) (jI q.2))) _ 4 (fun p q => (q.2 = 0 ∧ q.1 = 0 ∧ ∀ k, k < p → okP H f s g V r k = false) ∨ (q.2 = 1 ∧ q.1 < 4 ∧ okP H f s g V r q.1 = true ∧ ∀ k, k < q.1 → okP H f s g V r k = false)) ?_ ?_ N 0 (0, 0) (by omega) (by omega) (Or.inl ⟨rfl, rfl, fun k h => by omega⟩)
    · intro fu p ⟨pr, st⟩ hp hP ih
      simp only at hP
      rcases hP with ⟨rfl, rfl, hno⟩ | ⟨rfl, hp4, hyes, hno⟩
      · have x2 := xor2 p hp
        have x1 := xor1 p hp
        have g1 := gainsX (N := N) (p := p) (q := p ^^^ 2) hr hp (xorl2 p hp) hn hf6 (hpr p hp) (hpr _ (xorl2 p hp)) (by have := odR_le H f s g p; omega) (by have := odR_le H f s g (p ^^^ 2); omega) hB h1 h2
        have g2 := gainsX (N := N) (p := p) (q := p ^^^ 1) hr hp (xorl1 p hp) hn hs6 (hpr p hp) (hpr _ (xorl1 p hp)) (by have := odR_le H f s g p; omega) (by have := odR_le H f s g (p ^^^ 1); omega) hB h1 h2
        by_cases c1 : mnN (odR H f s g (p ^^^ 2)) V r (f g) ≤ mnN (odR H f s g p) V r (f g)
        · rw [if_pos c1] at g1
          by_cases c2 : mnN (odR H f s g (p ^^^ 1)) V r (s g) ≤ mnN (odR H f s g p) V r (s g)
          · rw [if_pos c2] at g2
            have hok : okP H f s g V r p = true := by unfold okP; rw [decide_eq_true c1, decide_eq_true c2]; rfl
            simp (disch := omega) only [jI_0, jI_1, jI_2, jI_3, jI_4, jI_5, jI_6, jI_7, jI_8, jI_9, jI_10, jI_11, jI_12, jI_13, jI_14, jI_15, jI_16, jI_20, jI_24, jI_26, jI_30, jI_31, jI_32, jI_40, jI_48, jI_56, jI_57, jI_59, jI_60, jI_97, jI_99, jI_122, jI_160, jI_240, jI_255, jI_768, jI_1000, ↓jN_1, ↓jN_2, ↓jN_3, ↓jN_4, ↓jN_8, ↓jN_10, ↓jN_11, ↓jN_12, ↓jN_14, ↓jN_20, jI_addN, jI_le, jI_lt, jI_eq, jI_cl, jI_in, jI_add, jI_sub, jI_eqN, gI_eqI, gI_eqN, gI_leI, gI_ltI, jI_leN, jI_ltN, gI_sub, pif_tt, pif_ff, pg_tt, isB, or_true, true_or, pif_T, pif_F, pg_T, pb_S, upd_e, upd_n, fX6_choosePair_12, fX6_choosePair_86, ho, hf, hs, x1, x2, g1, g2]
            exact ih (p, 1) (Or.inr ⟨rfl, hp, hok, hno⟩)
          · rw [if_neg c2] at g2
            have hok : okP H f s g V r p = false := by unfold okP; rw [decide_eq_false c2, Bool.and_false]
            simp (disch := omega) only [jI_0, jI_1, jI_2, jI_3, jI_4, jI_5, jI_6, jI_7, jI_8, jI_9, jI_10, jI_11, jI_12, jI_13, jI_14, jI_15, jI_16, jI_20, jI_24, jI_26, jI_30, jI_31, jI_32, jI_40, jI_48, jI_56, jI_57, jI_59, jI_60, jI_97, jI_99, jI_122, jI_160, jI_240, jI_255, jI_768, jI_1000, ↓jN_1, ↓jN_2, ↓jN_3, ↓jN_4, ↓jN_8, ↓jN_10, ↓jN_11, ↓jN_12, ↓jN_14, ↓jN_20, jI_addN, jI_le, jI_lt, jI_eq, jI_cl, jI_in, jI_add, jI_sub, jI_eqN, gI_eqI, gI_eqN, gI_leI, gI_ltI, jI_leN, jI_ltN, gI_sub, pif_tt, pif_ff, pg_tt, isB, or_true, true_or, pif_T, pif_F, pg_T, pb_S, upd_e, upd_n, fX6_choosePair_12, fX6_choosePair_86, ho, hf, hs, x1, x2, g1, g2]
            refine ih (0, 0) (Or.inl ⟨rfl, rfl, fun k hk => ?_⟩)
            by_cases hkp : k = p
            · rw [hkp]; exact hok
            · exact hno k (by omega)
        · rw [if_neg c1] at g1
          have hok : okP H f s g V r p = false := by unfold okP; rw [decide_eq_false c1, Bool.false_and]
          simp (disch := omega) only [jI_0, jI_1, jI_2, jI_3, jI_4, jI_5, jI_6, jI_7, jI_8, jI_9, jI_10, jI_11, jI_12, jI_13, jI_14, jI_15, jI_16, jI_20, jI_24, jI_26, jI_30, jI_31, jI_32, jI_40, jI_48, jI_56, jI_57, jI_59, jI_60, jI_97, jI_99, jI_122, jI_160, jI_240, jI_255, jI_768, jI_1000, ↓jN_1, ↓jN_2, ↓jN_3, ↓jN_4, ↓jN_8, ↓jN_10, ↓jN_11, ↓jN_12, ↓jN_14, ↓jN_20, jI_addN, jI_le, jI_lt, jI_eq, jI_cl, jI_in, jI_add, jI_sub, jI_eqN, gI_eqI, gI_eqN, gI_leI, gI_ltI, jI_leN, jI_ltN, gI_sub, pif_tt, pif_ff, pg_tt, isB, or_true, true_or, pif_T, pif_F, pg_T, pb_S, upd_e, upd_n, fX6_choosePair_12, fX6_choosePair_86, ho, hf, hs, x1, x2, g1]
          refine ih (0, 0) (Or.inl ⟨rfl, rfl, fun k hk => ?_⟩)
          by_cases hkp : k = p
          · rw [hkp]; exact hok
          · exact hno k (by omega)
      · obtain ⟨a, b⟩ := prP_hit hp4 hyes hno
        simp (disch := omega) only [jI_0, jI_1, jI_2, jI_3, jI_4, jI_5, jI_6, jI_7, jI_8, jI_9, jI_10, jI_11, jI_12, jI_13, jI_14, jI_15, jI_16, jI_20, jI_24, jI_26, jI_30, jI_31, jI_32, jI_40, jI_48, jI_56, jI_57, jI_59, jI_60, jI_97, jI_99, jI_122, jI_160, jI_240, jI_255, jI_768, jI_1000, ↓jN_1, ↓jN_2, ↓jN_3, ↓jN_4, ↓jN_8, ↓jN_10, ↓jN_11, ↓jN_12, ↓jN_14, ↓jN_20, jI_addN, jI_le, jI_lt, jI_eq, jI_cl, jI_in, jI_add, jI_sub, jI_eqN, gI_eqI, gI_eqN, gI_leI, gI_ltI, jI_leN, jI_ltN, gI_sub, pif_tt, pif_ff, pg_tt, isB, or_true, true_or, pif_T, pif_F, pg_T, pb_S, upd_e, upd_n, fX6_choosePair_12, fX6_choosePair_92]
        exact Ok.s (by rw [a, b])
    · intro fu ⟨pr, st⟩ hP
      simp only at hP
      rcases hP with ⟨rfl, rfl, hno⟩ | ⟨rfl, hp4, hyes, hno⟩
      · obtain ⟨a, b⟩ := prP_none hno
        simp (disch := omega) only [jI_0, jI_1, jI_2, jI_3, jI_4, jI_5, jI_6, jI_7, jI_8, jI_9, jI_10, jI_11, jI_12, jI_13, jI_14, jI_15, jI_16, jI_20, jI_24, jI_26, jI_30, jI_31, jI_32, jI_40, jI_48, jI_56, jI_57, jI_59, jI_60, jI_97, jI_99, jI_122, jI_160, jI_240, jI_255, jI_768, jI_1000, ↓jN_1, ↓jN_2, ↓jN_3, ↓jN_4, ↓jN_8, ↓jN_10, ↓jN_11, ↓jN_12, ↓jN_14, ↓jN_20, jI_addN, jI_le, jI_lt, jI_eq, jI_cl, jI_in, jI_add, jI_sub, jI_eqN, gI_eqI, gI_eqN, gI_leI, gI_ltI, jI_leN, jI_ltN, gI_sub, pif_tt, pif_ff, pg_tt, isB, or_true, true_or, pif_T, pif_F, pg_T, pb_S, upd_e, upd_n, fX6_choosePair_12, fX6_choosePair_92]
        exact Ok.s (by rw [a, b])
      · obtain ⟨a, b⟩ := prP_hit hp4 hyes hno
        simp (disch := omega) only [jI_0, jI_1, jI_2, jI_3, jI_4, jI_5, jI_6, jI_7, jI_8, jI_9, jI_10, jI_11, jI_12, jI_13, jI_14, jI_15, jI_16, jI_20, jI_24, jI_26, jI_30, jI_31, jI_32, jI_40, jI_48, jI_56, jI_57, jI_59, jI_60, jI_97, jI_99, jI_122, jI_160, jI_240, jI_255, jI_768, jI_1000, ↓jN_1, ↓jN_2, ↓jN_3, ↓jN_4, ↓jN_8, ↓jN_10, ↓jN_11, ↓jN_12, ↓jN_14, ↓jN_20, jI_addN, jI_le, jI_lt, jI_eq, jI_cl, jI_in, jI_add, jI_sub, jI_eqN, gI_eqI, gI_eqN, gI_leI, gI_ltI, jI_leN, jI_ltN, gI_sub, pif_tt, pif_ff, pg_tt, isB, or_true, true_or, pif_T, pif_F, pg_T, pb_S, upd_e, upd_n, fX6_choosePair_12, fX6_choosePair_92]
        exact Ok.s (by rw [a, b])
  obtain ⟨a, e1, rfl⟩ := key
  exact e1
theorem weighX {d g : Nat} (hN : 100 ≤ N) (hR : Rk H) (hd : d < 7) (hg : g < 30) (ho : c_open d = jI g) (hf : c_trial_first g = jI (f g)) (hs : c_trial_second g = jI (s g)) (hf6 : f g < 6) (hs6 : s g < 6) (hst : ∀ j, j < 6 → c_rules_strength j = jI (H (2 + j))) : ∃ cp, (fX6_weighPairs N c_ofPair c_open c_rules_strength c_trial_first c_trial_second (jI d)) = some cp ∧ ∀ p, p < 4 → cp p = jI (odR H f s g p) := by
  have a1 := hR.2.2.2.1 (f g) hf6
  have a2 := hR.2.2.2.1 (s g) hs6
  have t1 := hst (f g) hf6
  have t2 := hst (s g) hs6
  have r1 := restedX (N := N) (a := H (2 + f g)) (by omega)
  have r2 := restedX (N := N) (a := H (2 + s g)) (by omega)
  have l1 := hlf_le (a := H (2 + f g)) (by omega)
  have l2 := hlf_le (a := H (2 + s g)) (by omega)
  have key : Ok ((fX6_weighPairs_49 N c_open c_rules_strength c_trial_first c_trial_second (jI d) N (jI (H (2 + f g))) (jI (H (2 + s g))) 0 c_ofPair)) (fun cp => ∀ p, p < 4 → cp p = jI (odR H f s g p)) := by
    refine up_ok (fun fu p cp => (fX6_weighPairs_49 N c_open c_rules_strength c_trial_first c_trial_second (jI d) fu (jI (H (2 + f g))) (jI (H (2 + s g))) (jI p) cp)) _ 4 (fun p cp => ∀ q, q < p → cp q = jI (odR H f s g q)) ?_ ?_ N 0 c_ofPair (by omega) (by omega) (fun q h => by omega)
    · intro fu p cp hp hq ih
      have x2 := and2 p hp
      have x1 := and1 p hp
      have fin : ∀ v, v = odR H f s g p → (∀ q, q < p + 1 → upd cp p (jI v) q = jI (odR H f s g q)) := fun v hv q hqp => by
        by_cases h : q = p
        · rw [upd_e h, hv, h]
        · rw [upd_n h]; exact hq q (by omega)
      by_cases h2 : p / 2 = 0
      · by_cases h1 : p % 2 = 0
        · have c := chanceX (N := N) (a := H (2 + f g)) (b := H (2 + s g)) (by omega) (by omega) (by omega)
          simp (disch := omega) only [jI_0, jI_1, jI_2, jI_3, jI_4, jI_5, jI_6, jI_7, jI_8, jI_9, jI_10, jI_11, jI_12, jI_13, jI_14, jI_15, jI_16, jI_20, jI_24, jI_26, jI_30, jI_31, jI_32, jI_40, jI_48, jI_56, jI_57, jI_59, jI_60, jI_97, jI_99, jI_122, jI_160, jI_240, jI_255, jI_768, jI_1000, ↓jN_1, ↓jN_2, ↓jN_3, ↓jN_4, ↓jN_8, ↓jN_10, ↓jN_11, ↓jN_12, ↓jN_14, ↓jN_20, jI_addN, jI_le, jI_lt, jI_eq, jI_cl, jI_in, jI_add, jI_sub, jI_eqN, gI_eqI, gI_eqN, gI_leI, gI_ltI, jI_leN, jI_ltN, gI_sub, pif_tt, pif_ff, pg_tt, isB, or_true, true_or, pif_T, pif_F, pg_T, pb_S, upd_e, upd_n, fX6_weighPairs_49, fX6_weighPairs_76, fX6_weighPairs_91, x1, x2, c]
          refine ih _ (fin _ ?_)
          unfold odR
          rw [if_neg (by omega), if_neg (by omega)]
        · have c := chanceX (N := N) (a := H (2 + f g)) (b := hlf (H (2 + s g))) (by omega) (by omega) (by omega)
          simp (disch := omega) only [jI_0, jI_1, jI_2, jI_3, jI_4, jI_5, jI_6, jI_7, jI_8, jI_9, jI_10, jI_11, jI_12, jI_13, jI_14, jI_15, jI_16, jI_20, jI_24, jI_26, jI_30, jI_31, jI_32, jI_40, jI_48, jI_56, jI_57, jI_59, jI_60, jI_97, jI_99, jI_122, jI_160, jI_240, jI_255, jI_768, jI_1000, ↓jN_1, ↓jN_2, ↓jN_3, ↓jN_4, ↓jN_8, ↓jN_10, ↓jN_11, ↓jN_12, ↓jN_14, ↓jN_20, jI_addN, jI_le, jI_lt, jI_eq, jI_cl, jI_in, jI_add, jI_sub, jI_eqN, gI_eqI, gI_eqN, gI_leI, gI_ltI, jI_leN, jI_ltN, gI_sub, pif_tt, pif_ff, pg_tt, isB, or_true, true_or, pif_T, pif_F, pg_T, pb_S, upd_e, upd_n, fX6_weighPairs_49, fX6_weighPairs_76, fX6_weighPairs_91, x1, x2, r2, c]
          refine ih _ (fin _ ?_)
          unfold odR
          rw [if_neg (by omega), if_pos (by omega)]
      · by_cases h1 : p % 2 = 0
        · have c := chanceX (N := N) (a := hlf (H (2 + f g))) (b := H (2 + s g)) (by omega) (by omega) (by omega)
          simp (disch := omega) only [jI_0, jI_1, jI_2, jI_3, jI_4, jI_5, jI_6, jI_7, jI_8, jI_9, jI_10, jI_11, jI_12, jI_13, jI_14, jI_15, jI_16, jI_20, jI_24, jI_26, jI_30, jI_31, jI_32, jI_40, jI_48, jI_56, jI_57, jI_59, jI_60, jI_97, jI_99, jI_122, jI_160, jI_240, jI_255, jI_768, jI_1000, ↓jN_1, ↓jN_2, ↓jN_3, ↓jN_4, ↓jN_8, ↓jN_10, ↓jN_11, ↓jN_12, ↓jN_14, ↓jN_20, jI_addN, jI_le, jI_lt, jI_eq, jI_cl, jI_in, jI_add, jI_sub, jI_eqN, gI_eqI, gI_eqN, gI_leI, gI_ltI, jI_leN, jI_ltN, gI_sub, pif_tt, pif_ff, pg_tt, isB, or_true, true_or, pif_T, pif_F, pg_T, pb_S, upd_e, upd_n, fX6_weighPairs_49, fX6_weighPairs_76, fX6_weighPairs_91, x1, x2, r1, c]
          refine ih _ (fin _ ?_)
          unfold odR
          rw [if_pos (by omega), if_neg (by omega)]
        · have c := chanceX (N := N) (a := hlf (H (2 + f g))) (b := hlf (H (2 + s g))) (by omega) (by omega) (by omega)
          simp (disch := omega) only [jI_0, jI_1, jI_2, jI_3, jI_4, jI_5, jI_6, jI_7, jI_8, jI_9, jI_10, jI_11, jI_12, jI_13, jI_14, jI_15, jI_16, jI_20, jI_24, jI_26, jI_30, jI_31, jI_32, jI_40, jI_48, jI_56, jI_57, jI_59, jI_60, jI_97, jI_99, jI_122, jI_160, jI_240, jI_255, jI_768, jI_1000, ↓jN_1, ↓jN_2, ↓jN_3, ↓jN_4, ↓jN_8, ↓jN_10, ↓jN_11, ↓jN_12, ↓jN_14, ↓jN_20, jI_addN, jI_le, jI_lt, jI_eq, jI_cl, jI_in, jI_add, jI_sub, jI_eqN, gI_eqI, gI_eqN, gI_leI, gI_ltI, jI_leN, jI_ltN, gI_sub, pif_tt, pif_ff, pg_tt, isB, or_true, true_or, pif_T, pif_F, pg_T, pb_S, upd_e, upd_n, fX6_weighPairs_49, fX6_weighPairs_76, fX6_weighPairs_91, x1, x2, r1, r2, c]
          refine ih _ (fin _ ?_)
          unfold odR
          rw [if_pos (by omega), if_pos (by omega)]
    · intro fu cp hq
      simp (disch := omega) only [jI_0, jI_1, jI_2, jI_3, jI_4, jI_5, jI_6, jI_7, jI_8, jI_9, jI_10, jI_11, jI_12, jI_13, jI_14, jI_15, jI_16, jI_20, jI_24, jI_26, jI_30, jI_31, jI_32, jI_40, jI_48, jI_56, jI_57, jI_59, jI_60, jI_97, jI_99, jI_122, jI_160, jI_240, jI_255, jI_768, jI_1000, ↓jN_1, ↓jN_2, ↓jN_3, ↓jN_4, ↓jN_8, ↓jN_10, ↓jN_11, ↓jN_12, ↓jN_14, ↓jN_20, jI_addN, jI_le, jI_lt, jI_eq, jI_cl, jI_in, jI_add, jI_sub, jI_eqN, gI_eqI, gI_eqN, gI_leI, gI_ltI, jI_leN, jI_ltN, gI_sub, pif_tt, pif_ff, pg_tt, isB, or_true, true_or, pif_T, pif_F, pg_T, pb_S, upd_e, upd_n, fX6_weighPairs_49]
      exact Ok.s hq
  obtain ⟨cp, e1, h⟩ := key
  refine ⟨cp, ?_, h⟩
  simp (disch := omega) only [jI_0, jI_1, jI_2, jI_3, jI_4, jI_5, jI_6, jI_7, jI_8, jI_9, jI_10, jI_11, jI_12, jI_13, jI_14, jI_15, jI_16, jI_20, jI_24, jI_26, jI_30, jI_31, jI_32, jI_40, jI_48, jI_56, jI_57, jI_59, jI_60, jI_97, jI_99, jI_122, jI_160, jI_240, jI_255, jI_768, jI_1000, ↓jN_1, ↓jN_2, ↓jN_3, ↓jN_4, ↓jN_8, ↓jN_10, ↓jN_11, ↓jN_12, ↓jN_14, ↓jN_20, jI_addN, jI_le, jI_lt, jI_eq, jI_cl, jI_in, jI_add, jI_sub, jI_eqN, gI_eqI, gI_eqN, gI_leI, gI_ltI, jI_leN, jI_ltN, gI_sub, pif_tt, pif_ff, pg_tt, isB, or_true, true_or, pif_T, pif_F, pg_T, pb_S, upd_e, upd_n, fX6_weighPairs, ho, hf, hs, t1, t2]
  exact e1
end
