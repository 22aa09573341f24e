/-! The rules; PAY: what it is, and the class. -/
/-- rules: 0 the sides, 1 the kind, 2.. strengths, 8.. worths of places, 14.. of choices, 20.. balls, 26.. the wheel -/
def Rk (H : Nat → Nat) : Prop := 2 ≤ H 0 ∧ H 0 ≤ 6 ∧ H 1 ≤ 4 ∧ (∀ j, j < 6 → 1 ≤ H (2 + j) ∧ H (2 + j) ≤ 9 ∧ H (8 + j) ≤ 99 ∧ H (14 + j) ≤ 99 ∧ H (20 + j) ≤ 20 ∧ H (26 + j) < 6) ∧ (∀ j, j < H 0 → H (26 + j) < H 0) ∧ (H 1 = 1 → 0 < sumN (H 0) (fun j => H (20 + j)))
def Rc (H : Nat → Nat) (vk vs : Int32) (cb cc cp cs cw : Nat → Int32) : Prop := vk = jI (H 1) ∧ vs = jI (H 0) ∧ ∀ j, j < 6 → cs j = jI (H (2 + j)) ∧ cp j = jI (H (8 + j)) ∧ cc j = jI (H (14 + j)) ∧ cb j = jI (H (20 + j)) ∧ cw j = jI (H (26 + j))
def Rm (H : Nat → Nat) (ch : Nat → Int32) : Prop := ∀ k, k < 32 → ch k = jI (H k)
def unitN (H : Nat → Nat) : Nat := if H 1 = 1 then sumN (H 0) (fun j => H (20 + j)) else if H 1 = 4 then H 0 else 1
theorem balls_le {H : Nat → Nat} (hR : Rk H) {m : Nat} (hm : m ≤ 6) : sumN m (fun j => H (20 + j)) ≤ 120 := by
  have := sumN_le (m := m) (p := fun j => H (20 + j)) (b := 20) (fun i hi => (hR.2.2.2.1 i (by omega)).2.2.2.2.1)
  omega
theorem choices_le {H : Nat → Nat} (hR : Rk H) {m : Nat} (hm : m ≤ 6) : sumN m (fun j => H (14 + j)) ≤ 594 := by
  have := sumN_le (m := m) (p := fun j => H (14 + j)) (b := 99) (fun i hi => (hR.2.2.2.1 i (by omega)).2.2.2.1)
  omega
theorem unitN_le {H : Nat → Nat} (hR : Rk H) : 1 ≤ unitN H ∧ unitN H ≤ 120 := by
  have h1 := balls_le hR hR.2.1
  have h2 := hR.2.2.2.2.2
  have h3 := hR.1
  have h4 := hR.2.1
  unfold unitN
  split
  · next h => exact ⟨h2 h, h1⟩
  · split <;> omega
def addN (ch cw : Nat → Nat) (mu : Nat) : Nat → (Nat → Nat) → (Nat → Nat)
  | 0, p => p
  | c + 1, p => updN (addN ch cw mu c p) (ch c) (addN ch cw mu c p (ch c) + cw c * mu)
theorem addN_le {ch cw : Nat → Nat} {mu B m : Nat} {p : Nat → Nat} (h : ∀ c, c < m → cw c * mu ≤ B) : ∀ i, addN ch cw mu m p i ≤ p i + m * B := by
  induction m with
  | zero => intro i; simp [addN]
  | succ m ih =>
    intro i
    have h1 := ih (fun c hc => h c (by omega)) i
    have h2 := h m (by omega)
    have h3 : (m + 1) * B = m * B + B := Nat.succ_mul m B
    simp only [addN]
    by_cases e : i = ch m
    · rw [updN_e e, ← e]; omega
    · rw [updN_n e]; omega
theorem addN_congr {ch ch' cw : Nat → Nat} {mu m n : Nat} {p q : Nat → Nat} (hc : ∀ c, c < m → ch c = ch' c ∧ ch c < n) (hp : ∀ i, i < n → p i = q i) : ∀ i, i < n → addN ch cw mu m p i = addN ch' cw mu m q i := by
  induction m with
  | zero => exact hp
  | succ m ih =>
    intro i hi
    have ih := ih (fun c h => hc c (by omega))
    obtain ⟨h1, h2⟩ := hc m (by omega)
    simp only [addN, ← h1]
    by_cases e : i = ch m
    · rw [updN_e e, updN_e e, ih _ h2]
    · rw [updN_n e, updN_n e, ih i hi]
theorem addN_zero {ch cw : Nat → Nat} {m : Nat} {p : Nat → Nat} : ∀ i, addN ch cw 0 m p i = p i := by
  induction m with
  | zero => intro i; rfl
  | succ m ih =>
    intro i
    simp only [addN, Nat.mul_zero, Nat.add_zero]
    by_cases e : i = ch m
    · rw [updN_e e, ih, e]
    · rw [updN_n e, ih]
/-- what is paid for places, and to all alike -/
def pay0 (H W : Nat → Nat) (i : Nat) : Nat := H (8 + plc (H 0) W i) * unitN H + (if H 1 = 4 then sumN (H 0) (fun j => H (14 + j)) else 0)
def payB (H W M : Nat → Nat) : Nat → (Nat → Nat)
  | 0 => pay0 H W
  | d + 1 => addN (chN 1 (H 0) W M (fun j => H (26 + j)) d) (fun j => H (14 + j)) (H (20 + d)) (H 0) (payB H W M d)
def payN (H W M : Nat → Nat) : Nat → Nat := if H 1 = 4 then pay0 H W else if H 1 = 1 then payB H W M (H 0) else addN (chN (H 1) (H 0) W M (fun j => H (26 + j)) 0) (fun j => H (14 + j)) 1 (H 0) (pay0 H W)
theorem pay0_le {H W : Nat → Nat} {i : Nat} (hR : Rk H) (hi : i < H 0) : pay0 H W i ≤ 12474 := by
  have h1 := unitN_le hR
  have h2 := plc_lt (K := W) hi
  have h3 := (hR.2.2.2.1 (plc (H 0) W i) (by have := hR.2.1; omega)).2.2.1
  have h4 := choices_le hR hR.2.1
  have h5 : H (8 + plc (H 0) W i) * unitN H ≤ 99 * 120 := Nat.mul_le_mul h3 h1.2
  unfold pay0
  split <;> omega
theorem ch_mul {H : Nat → Nat} (hR : Rk H) {c mu : Nat} (hc : c < H 0) (hm : mu ≤ 20) : H (14 + c) * mu ≤ 1980 := by
  have h1 := (hR.2.2.2.1 c (by have := hR.2.1; omega)).2.2.2.1
  have h2 : H (14 + c) * mu ≤ 99 * 20 := Nat.mul_le_mul h1 hm
  omega
theorem payB_le {H W M : Nat → Nat} (hR : Rk H) : ∀ d i, d ≤ H 0 → i < H 0 → payB H W M d i ≤ 12474 + d * 11880 := by
  intro d
  induction d with
  | zero => intro i _ hi; have := pay0_le (W := W) hR hi; simp only [payB]; omega
  | succ d ih =>
    intro i hd hi
    have h1 := ih i (by omega) hi
    have h6 := hR.2.1
    have h2 := addN_le (ch := chN 1 (H 0) W M (fun j => H (26 + j)) d) (cw := fun j => H (14 + j)) (mu := H (20 + d)) (B := 1980) (m := H 0) (p := payB H W M d) (fun c hc => ch_mul hR hc (hR.2.2.2.1 d (by omega)).2.2.2.2.1) i
    simp only [payB]
    omega
theorem payN_le {H W M : Nat → Nat} {i : Nat} (hR : Rk H) (hi : i < H 0) : payN H W M i ≤ 100000 := by
  have h1 := pay0_le (W := W) hR hi
  have h6 := hR.2.1
  unfold payN
  split
  · omega
  · split
    · have := payB_le (W := W) (M := M) hR (H 0) i (Nat.le_refl _) hi
      omega
    · have h2 := addN_le (ch := chN (H 1) (H 0) W M (fun j => H (26 + j)) 0) (cw := fun j => H (14 + j)) (mu := 1) (B := 1980) (m := H 0) (p := pay0 H W) (fun c hc => ch_mul hR hc (by omega)) i
      omega
section
variable {v_kind : Int32} {v_sides : Int32} {c_balls : Nat → Int32} {c_choiceWorth : Nat → Int32}
variable {N : Nat} {H : Nat → Nat}
theorem allBallsX (hN : 100 ≤ N) (hR : Rk H) (hb : ∀ j, j < 6 → c_balls j = jI (H (20 + j))) : (fX2_allBalls N (jI (H 0)) c_balls) = some (jI (sumN (H 0) (fun j => H (20 + j)))) := by
  have hn := hR.2.1
  have key : Ok ((fX2_allBalls_4 N (jI (H 0)) c_balls N 0 0)) (fun q => q = jI (sumN (H 0) (fun j => H (20 + j)))) := by
    refine up_ok (fun fu i a => (fX2_allBalls_4 N (jI (H 0)) c_balls fu (jI a) (jI i))) _ (H 0) (fun i a => a = sumN i (fun j => H (20 + j))) ?_ ?_ N 0 0 (by omega) (by omega) rfl
    · intro fu i a hi ha ih
      simp (disch := omega) only [jI_0, jI_1, jI_2, jI_3, jI_4, jI_5, jI_6, jI_7, jI_8, jI_9, jI_10, jI_11, jI_12, jI_13, jI_14, jI_15, jI_16, jI_20, jI_24, jI_26, jI_30, jI_31, jI_32, jI_40, jI_48, jI_56, jI_57, jI_59, jI_60, jI_97, jI_99, jI_122, jI_160, jI_240, jI_255, jI_768, jI_1000, ↓jN_1, ↓jN_2, ↓jN_3, ↓jN_4, ↓jN_8, ↓jN_10, ↓jN_11, ↓jN_12, ↓jN_14, ↓jN_20, jI_addN, jI_le, jI_lt, jI_eq, jI_cl, jI_in, jI_add, jI_sub, jI_eqN, gI_eqI, gI_eqN, gI_leI, gI_ltI, jI_leN, jI_ltN, gI_sub, pif_tt, pif_ff, pg_tt, isB, or_true, true_or, pif_T, pif_F, pg_T, pb_S, upd_e, upd_n, fX2_allBalls_4, hb]
      exact ih _ (by rw [ha]; rfl)
    · intro fu a ha
      simp (disch := omega) only [jI_0, jI_1, jI_2, jI_3, jI_4, jI_5, jI_6, jI_7, jI_8, jI_9, jI_10, jI_11, jI_12, jI_13, jI_14, jI_15, jI_16, jI_20, jI_24, jI_26, jI_30, jI_31, jI_32, jI_40, jI_48, jI_56, jI_57, jI_59, jI_60, jI_97, jI_99, jI_122, jI_160, jI_240, jI_255, jI_768, jI_1000, ↓jN_1, ↓jN_2, ↓jN_3, ↓jN_4, ↓jN_8, ↓jN_10, ↓jN_11, ↓jN_12, ↓jN_14, ↓jN_20, jI_addN, jI_le, jI_lt, jI_eq, jI_cl, jI_in, jI_add, jI_sub, jI_eqN, gI_eqI, gI_eqN, gI_leI, gI_ltI, jI_leN, jI_ltN, gI_sub, pif_tt, pif_ff, pg_tt, isB, or_true, true_or, pif_T, pif_F, pg_T, pb_S, upd_e, upd_n, fX2_allBalls_4]
      exact Ok.s (by rw [ha])
  obtain ⟨a, e, rfl⟩ := key
  exact e
theorem allChoicesX (hN : 100 ≤ N) (hR : Rk H) (hb : ∀ j, j < 6 → c_choiceWorth j = jI (H (14 + j))) : (fX2_allChoices N (jI (H 0)) c_choiceWorth) = some (jI (sumN (H 0) (fun j => H (14 + j)))) := by
  have hn := hR.2.1
  have key : Ok ((fX2_allChoices_4 N (jI (H 0)) c_choiceWorth N 0 0)) (fun q => q = jI (sumN (H 0) (fun j => H (14 + j)))) := by
    refine up_ok (fun fu i a => (fX2_allChoices_4 N (jI (H 0)) c_choiceWorth fu (jI a) (jI i))) _ (H 0) (fun i a => a = sumN i (fun j => H (14 + j))) ?_ ?_ N 0 0 (by omega) (by omega) rfl
    · intro fu i a hi ha ih
      simp (disch := omega) only [jI_0, jI_1, jI_2, jI_3, jI_4, jI_5, jI_6, jI_7, jI_8, jI_9, jI_10, jI_11, jI_12, jI_13, jI_14, jI_15, jI_16, jI_20, jI_24, jI_26, jI_30, jI_31, jI_32, jI_40, jI_48, jI_56, jI_57, jI_59, jI_60, jI_97, jI_99, jI_122, jI_160, jI_240, jI_255, jI_768, jI_1000, ↓jN_1, ↓jN_2, ↓jN_3, ↓jN_4, ↓jN_8, ↓jN_10, ↓jN_11, ↓jN_12, ↓jN_14, ↓jN_20, jI_addN, jI_le, jI_lt, jI_eq, jI_cl, jI_in, jI_add, jI_sub, jI_eqN, gI_eqI, gI_eqN, gI_leI, gI_ltI, jI_leN, jI_ltN, gI_sub, pif_tt, pif_ff, pg_tt, isB, or_true, true_or, pif_T, pif_F, pg_T, pb_S, upd_e, upd_n, fX2_allChoices_4, hb]
      exact ih _ (by rw [ha]; rfl)
    · intro fu a ha
      simp (disch := omega) only [jI_0, jI_1, jI_2, jI_3, jI_4, jI_5, jI_6, jI_7, jI_8, jI_9, jI_10, jI_11, jI_12, jI_13, jI_14, jI_15, jI_16, jI_20, jI_24, jI_26, jI_30, jI_31, jI_32, jI_40, jI_48, jI_56, jI_57, jI_59, jI_60, jI_97, jI_99, jI_122, jI_160, jI_240, jI_255, jI_768, jI_1000, ↓jN_1, ↓jN_2, ↓jN_3, ↓jN_4, ↓jN_8, ↓jN_10, ↓jN_11, ↓jN_12, ↓jN_14, ↓jN_20, jI_addN, jI_le, jI_lt, jI_eq, jI_cl, jI_in, jI_add, jI_sub, jI_eqN, gI_eqI, gI_eqN, gI_leI, gI_ltI, jI_leN, jI_ltN, gI_sub, pif_tt, pif_ff, pg_tt, isB, or_true, true_or, pif_T, pif_F, pg_T, pb_S, upd_e, upd_n, fX2_allChoices_4]
      exact Ok.s (by rw [ha])
  obtain ⟨a, e, rfl⟩ := key
  exact e
theorem payUnitX (hN : 100 ≤ N) (hR : Rk H) (hb : ∀ j, j < 6 → c_balls j = jI (H (20 + j))) : (fX2_payUnit N (jI (H 1)) (jI (H 0)) c_balls) = some (jI (unitN H)) := by
  have hn := hR.2.1
  have hk := hR.2.2.1
  have e := allBallsX (N := N) hN hR hb
  have hl := balls_le hR hn
  unfold unitN
  by_cases h1 : H 1 = 1
  · rw [if_pos h1]
    have hp := hR.2.2.2.2.2 h1
    simp (disch := omega) only [jI_0, jI_1, jI_2, jI_3, jI_4, jI_5, jI_6, jI_7, jI_8, jI_9, jI_10, jI_11, jI_12, jI_13, jI_14, jI_15, jI_16, jI_20, jI_24, jI_26, jI_30, jI_31, jI_32, jI_40, jI_48, jI_56, jI_57, jI_59, jI_60, jI_97, jI_99, jI_122, jI_160, jI_240, jI_255, jI_768, jI_1000, ↓jN_1, ↓jN_2, ↓jN_3, ↓jN_4, ↓jN_8, ↓jN_10, ↓jN_11, ↓jN_12, ↓jN_14, ↓jN_20, jI_addN, jI_le, jI_lt, jI_eq, jI_cl, jI_in, jI_add, jI_sub, jI_eqN, gI_eqI, gI_eqN, gI_leI, gI_ltI, jI_leN, jI_ltN, gI_sub, pif_tt, pif_ff, pg_tt, isB, or_true, true_or, pif_T, pif_F, pg_T, pb_S, upd_e, upd_n, fX2_payUnit, e, jI_mx]
    congr 2; omega
  · rw [if_neg h1]
    by_cases h4 : H 1 = 4
    · rw [if_pos h4]
      simp (disch := omega) only [jI_0, jI_1, jI_2, jI_3, jI_4, jI_5, jI_6, jI_7, jI_8, jI_9, jI_10, jI_11, jI_12, jI_13, jI_14, jI_15, jI_16, jI_20, jI_24, jI_26, jI_30, jI_31, jI_32, jI_40, jI_48, jI_56, jI_57, jI_59, jI_60, jI_97, jI_99, jI_122, jI_160, jI_240, jI_255, jI_768, jI_1000, ↓jN_1, ↓jN_2, ↓jN_3, ↓jN_4, ↓jN_8, ↓jN_10, ↓jN_11, ↓jN_12, ↓jN_14, ↓jN_20, jI_addN, jI_le, jI_lt, jI_eq, jI_cl, jI_in, jI_add, jI_sub, jI_eqN, gI_eqI, gI_eqN, gI_leI, gI_ltI, jI_leN, jI_ltN, gI_sub, pif_tt, pif_ff, pg_tt, isB, or_true, true_or, pif_T, pif_F, pg_T, pb_S, upd_e, upd_n, fX2_payUnit]
    · rw [if_neg h4]
      simp (disch := omega) only [jI_0, jI_1, jI_2, jI_3, jI_4, jI_5, jI_6, jI_7, jI_8, jI_9, jI_10, jI_11, jI_12, jI_13, jI_14, jI_15, jI_16, jI_20, jI_24, jI_26, jI_30, jI_31, jI_32, jI_40, jI_48, jI_56, jI_57, jI_59, jI_60, jI_97, jI_99, jI_122, jI_160, jI_240, jI_255, jI_768, jI_1000, ↓jN_1, ↓jN_2, ↓jN_3, ↓jN_4, ↓jN_8, ↓jN_10, ↓jN_11, ↓jN_12, ↓jN_14, ↓jN_20, jI_addN, jI_le, jI_lt, jI_eq, jI_cl, jI_in, jI_add, jI_sub, jI_eqN, gI_eqI, gI_eqN, gI_leI, gI_ltI, jI_leN, jI_ltN, gI_sub, pif_tt, pif_ff, pg_tt, isB, or_true, true_or, pif_T, pif_F, pg_T, pb_S, upd_e, upd_n, fX2_payUnit]
end
section
variable {v_sides : Int32} {c_merit : Nat → Int32} {c_order : Nat → Int32} {c_outAt : Nat → Int32} {v_p1_kind : Int32} {v_p1_sides : Int32} {c_p1_balls : Nat → Int32} {c_p1_choiceWorth : Nat → Int32} {c_p1_placeWorth : Nat → Int32} {c_p1_wheel : Nat → Int32} {v_p2_size : Int32} {c_p2_ending : Nat → Int32} {c_p2_first : Nat → Int32} {c_p2_second : Nat → Int32} {c_p3 : Nat → Int64} {c_seat : Nat → Int32} {c_toCome : Nat → Int32} {c_turn : Nat → Int32} {c_won : Nat → Int32} {c_p4 : Nat → Int64}
variable {N z : Nat} {f s e H W M : Nat → Nat}
theorem payCh_14 {ch p : Nat → Nat} {fr mu : Nat} {x2 : Int32} (hN : 100 ≤ N) (hR : Rk H) (hfr : fr + 6 ≤ 768) (hmu : mu ≤ 20) (hcw : ∀ j, j < 6 → c_p1_choiceWorth j = jI (H (14 + j))) (ht : ∀ c, c < H 0 → c_turn c = jI (ch c) ∧ ch c < H 0) (hp : ∀ i, i < H 0 → c_p4 (fr + i) = jL (p i)) : Ok ((fX4_payChoices_14 N (jI (H 0)) c_merit c_order v_p1_kind c_p1_choiceWorth c_p1_wheel x2 (jI mu) (jI fr) N 0 c_p4 c_turn)) (fun q => (∀ i, i < H 0 → q.1 (fr + i) = jL (addN ch (fun j => H (14 + j)) mu (H 0) p i)) ∧ ∀ k, (k < fr ∨ fr + 6 ≤ k) → q.1 k = c_p4 k) := by
  have hn := hR.2.1
  refine up_ok (fun fu i c4 => (fX4_payChoices_14 N (jI (H 0)) c_merit c_order v_p1_kind c_p1_choiceWorth c_p1_wheel x2 (jI mu) (jI fr) fu (jI i) c4 c_turn)) _ (H 0) (fun c c4 => (∀ i, i < H 0 → c4 (fr + i) = jL (addN ch (fun j => H (14 + j)) mu c p i)) ∧ ∀ k, (k < fr ∨ fr + 6 ≤ k) → c4 k = c_p4 k) ?_ ?_ N 0 c_p4 (by omega) (by omega) ⟨fun i hi => hp i hi, fun _ _ => rfl⟩
  · intro fu c c4 hc ⟨h1, h2⟩ ih
    obtain ⟨t1, t2⟩ := ht c hc
    have h3 := (hR.2.2.2.1 c (by omega)).2.2.2.1
    have h4 := h1 (ch c) t2
    simp (disch := omega) only [jI_0, jI_1, jI_2, jI_3, jI_4, jI_5, jI_6, jI_7, jI_8, jI_9, jI_10, jI_11, jI_12, jI_13, jI_14, jI_15, jI_16, jI_20, jI_24, jI_26, jI_30, jI_31, jI_32, jI_40, jI_48, jI_56, jI_57, jI_59, jI_60, jI_97, jI_99, jI_122, jI_160, jI_240, jI_255, jI_768, jI_1000, ↓jN_1, ↓jN_2, ↓jN_3, ↓jN_4, ↓jN_8, ↓jN_10, ↓jN_11, ↓jN_12, ↓jN_14, ↓jN_20, jI_addN, jI_le, jI_lt, jI_eq, jI_cl, jI_in, jI_add, jI_sub, jI_eqN, gI_eqI, gI_eqN, gI_leI, gI_ltI, jI_leN, jI_ltN, gI_sub, pif_tt, pif_ff, pg_tt, isB, or_true, true_or, pif_T, pif_F, pg_T, pb_S, upd_e, upd_n, fX4_payChoices_14, t1, hcw, h4, jI_L, jL_mul, jL_add]
    refine ih _ ⟨fun i hi => ?_, fun k hk => ?_⟩
    · simp only [addN]
      by_cases e : i = ch c
      · rw [updL_e (by omega), updN_e e]
      · rw [updL_n (by omega), updN_n e]; exact h1 i hi
    · rw [updL_n (by omega)]; exact h2 k hk
  · intro fu c4 h
    simp (disch := omega) only [jI_0, jI_1, jI_2, jI_3, jI_4, jI_5, jI_6, jI_7, jI_8, jI_9, jI_10, jI_11, jI_12, jI_13, jI_14, jI_15, jI_16, jI_20, jI_24, jI_26, jI_30, jI_31, jI_32, jI_40, jI_48, jI_56, jI_57, jI_59, jI_60, jI_97, jI_99, jI_122, jI_160, jI_240, jI_255, jI_768, jI_1000, ↓jN_1, ↓jN_2, ↓jN_3, ↓jN_4, ↓jN_8, ↓jN_10, ↓jN_11, ↓jN_12, ↓jN_14, ↓jN_20, jI_addN, jI_le, jI_lt, jI_eq, jI_cl, jI_in, jI_add, jI_sub, jI_eqN, gI_eqI, gI_eqN, gI_leI, gI_ltI, jI_leN, jI_ltN, gI_sub, pif_tt, pif_ff, pg_tt, isB, or_true, true_or, pif_T, pif_F, pg_T, pb_S, upd_e, upd_n, fX4_payChoices_14]
    exact Ok.s h
theorem payChX {p : Nat → Nat} {fr mu d : Nat} {x2 : Int32} (hN : 100 ≤ N) (hR : Rk H) (hfr : fr + 6 ≤ 768) (hmu : mu ≤ 20) (hd : d < H 0) (hcw : ∀ j, j < 6 → c_p1_choiceWorth j = jI (H (14 + j))) (hw : ∀ j, j < 6 → c_p1_wheel j = jI (H (26 + j))) (ho : ∀ p, p < H 0 → c_order p = jI (ordN W (H 0) p)) (hm : H 1 = 2 → ∀ j, j < H 0 → c_merit j = mI (M j) ∧ M j ≤ 100) (hx : H 1 = 1 → x2 = jI (frL (H 0) W d)) (hp : ∀ i, i < H 0 → c_p4 (fr + i) = jL (p i)) : Ok ((fX4_payChoices N (jI (H 0)) c_merit c_order (jI (H 1)) c_p1_choiceWorth c_p1_wheel c_p4 c_turn x2 (jI mu) (jI fr))) (fun q => (∀ i, i < H 0 → q.1 (fr + i) = jL (addN (chN (H 1) (H 0) W M (fun j => H (26 + j)) d) (fun j => H (14 + j)) mu (H 0) p i)) ∧ ∀ k, (k < fr ∨ fr + 6 ≤ k) → q.1 k = c_p4 k) := by
  have hn := hR.2.1
  by_cases h0 : mu = 0
  · subst h0
    simp (disch := omega) only [jI_0, jI_1, jI_2, jI_3, jI_4, jI_5, jI_6, jI_7, jI_8, jI_9, jI_10, jI_11, jI_12, jI_13, jI_14, jI_15, jI_16, jI_20, jI_24, jI_26, jI_30, jI_31, jI_32, jI_40, jI_48, jI_56, jI_57, jI_59, jI_60, jI_97, jI_99, jI_122, jI_160, jI_240, jI_255, jI_768, jI_1000, ↓jN_1, ↓jN_2, ↓jN_3, ↓jN_4, ↓jN_8, ↓jN_10, ↓jN_11, ↓jN_12, ↓jN_14, ↓jN_20, jI_addN, jI_le, jI_lt, jI_eq, jI_cl, jI_in, jI_add, jI_sub, jI_eqN, gI_eqI, gI_eqN, gI_leI, gI_ltI, jI_leN, jI_ltN, gI_sub, pif_tt, pif_ff, pg_tt, isB, or_true, true_or, pif_T, pif_F, pg_T, pb_S, upd_e, upd_n, fX4_payChoices]
    exact Ok.s ⟨fun i hi => by rw [addN_zero]; exact hp i hi, fun _ _ => rfl⟩
  · obtain ⟨ct, e, h⟩ := arrangeX (N := N) (n := H 0) (c_turn := c_turn) (kd := H 1) (M := M) (wh := fun j => H (26 + j)) hN hn hR.2.2.1 hd ho (fun c hc => hw c (by omega)) hm hx
    simp (disch := omega) only [jI_0, jI_1, jI_2, jI_3, jI_4, jI_5, jI_6, jI_7, jI_8, jI_9, jI_10, jI_11, jI_12, jI_13, jI_14, jI_15, jI_16, jI_20, jI_24, jI_26, jI_30, jI_31, jI_32, jI_40, jI_48, jI_56, jI_57, jI_59, jI_60, jI_97, jI_99, jI_122, jI_160, jI_240, jI_255, jI_768, jI_1000, ↓jN_1, ↓jN_2, ↓jN_3, ↓jN_4, ↓jN_8, ↓jN_10, ↓jN_11, ↓jN_12, ↓jN_14, ↓jN_20, jI_addN, jI_le, jI_lt, jI_eq, jI_cl, jI_in, jI_add, jI_sub, jI_eqN, gI_eqI, gI_eqN, gI_leI, gI_ltI, jI_leN, jI_ltN, gI_sub, pif_tt, pif_ff, pg_tt, isB, or_true, true_or, pif_T, pif_F, pg_T, pb_S, upd_e, upd_n, fX4_payChoices, e]
    exact payCh_14 hN hR hfr hmu hcw (fun c hc => ⟨h c hc, chN_lt hR.2.2.2.2.1 hd hc⟩) hp
theorem payAllX {fr : Nat} (hN : 100 ≤ N) (hR : Rk H) (hk : Gk (H 0) z f s e) (hG : Gc z f s e v_p2_size c_p2_first c_p2_second c_p2_ending) (hfr : fr + 6 ≤ 768) (hcw : ∀ j, j < 6 → c_p1_choiceWorth j = jI (H (14 + j))) (hcp : ∀ j, j < 6 → c_p1_placeWorth j = jI (H (8 + j))) (hcb : ∀ j, j < 6 → c_p1_balls j = jI (H (20 + j))) (hw : ∀ j, j < 6 → c_p1_wheel j = jI (H (26 + j))) (ho : ∀ p, p < H 0 → c_order p = jI (ordN (wonN f s e z) (H 0) p)) (hs : ∀ i, i < H 0 → c_seat i = jI (plc (H 0) (wonN f s e z) i)) : Ok ((fX4_payAll N (jI (H 0)) c_merit c_order c_outAt (jI (H 1)) (jI (H 0)) c_p1_balls c_p1_choiceWorth c_p1_placeWorth c_p1_wheel v_p2_size c_p2_ending c_p2_first c_p2_second c_p3 c_seat c_toCome c_turn c_won (jI fr))) (fun q => (∀ i, i < H 0 → q.2.2.1 (fr + i) = jL (payN H (wonN f s e z) (merT (H 0) f s e z z) i)) ∧ ∀ k, (k < fr ∨ fr + 6 ≤ k) → q.2.2.1 k = c_p3 k) := by
  have hn := hR.2.1
  have hkd := hR.2.2.1
  have hun := unitN_le hR
  have e1 := payUnitX (N := N) hN hR hcb
  have e2 := allChoicesX (N := N) hN hR hcw
  have hcl := choices_le hR hn
  have key : Ok ((fX4_payAll_27 N (jI (H 0)) c_order (jI (H 1)) (jI (H 0)) c_p1_balls c_p1_choiceWorth c_p1_placeWorth c_p1_wheel v_p2_size c_p2_ending c_p2_first c_p2_second c_seat (jI fr) N (jI (unitN H)) (jI (if H 1 = 4 then sumN (H 0) (fun j => H (14 + j)) else 0)) 0 c_merit c_outAt c_p3 c_toCome c_turn c_won)) (fun q => (∀ i, i < H 0 → q.2.2.1 (fr + i) = jL (payN H (wonN f s e z) (merT (H 0) f s e z z) i)) ∧ ∀ k, (k < fr ∨ fr + 6 ≤ k) → q.2.2.1 k = c_p3 k) := by
    have hal : (if H 1 = 4 then sumN (H 0) (fun j => H (14 + j)) else 0) ≤ 594 := by split <;> omega
    refine up_ok (fun fu i c3 => (fX4_payAll_27 N (jI (H 0)) c_order (jI (H 1)) (jI (H 0)) c_p1_balls c_p1_choiceWorth c_p1_placeWorth c_p1_wheel v_p2_size c_p2_ending c_p2_first c_p2_second c_seat (jI fr) fu (jI (unitN H)) (jI (if H 1 = 4 then sumN (H 0) (fun j => H (14 + j)) else 0)) (jI i) c_merit c_outAt c3 c_toCome c_turn c_won)) _ (H 0) (fun m c3 => (∀ i, i < m → c3 (fr + i) = jL (pay0 H (wonN f s e z) i)) ∧ ∀ k, (k < fr ∨ fr + 6 ≤ k) → c3 k = c_p3 k) ?_ ?_ N 0 c_p3 (by omega) (by omega) ⟨fun i hi => by omega, fun _ _ => rfl⟩
    · intro fu m c3 hm ⟨h1, h2⟩ ih
      have h3 := hs m hm
      have h4 := plc_lt (K := wonN f s e z) hm
      have h5 := (hR.2.2.2.1 (plc (H 0) (wonN f s e z) m) (by omega)).2.2.1
      have h6 := hcp (plc (H 0) (wonN f s e z) m) (by omega)
      simp (disch := omega) only [jI_0, jI_1, jI_2, jI_3, jI_4, jI_5, jI_6, jI_7, jI_8, jI_9, jI_10, jI_11, jI_12, jI_13, jI_14, jI_15, jI_16, jI_20, jI_24, jI_26, jI_30, jI_31, jI_32, jI_40, jI_48, jI_56, jI_57, jI_59, jI_60, jI_97, jI_99, jI_122, jI_160, jI_240, jI_255, jI_768, jI_1000, ↓jN_1, ↓jN_2, ↓jN_3, ↓jN_4, ↓jN_8, ↓jN_10, ↓jN_11, ↓jN_12, ↓jN_14, ↓jN_20, jI_addN, jI_le, jI_lt, jI_eq, jI_cl, jI_in, jI_add, jI_sub, jI_eqN, gI_eqI, gI_eqN, gI_leI, gI_ltI, jI_leN, jI_ltN, gI_sub, pif_tt, pif_ff, pg_tt, isB, or_true, true_or, pif_T, pif_F, pg_T, pb_S, upd_e, upd_n, fX4_payAll_27, h3, h6, jI_L, jL_mul, jL_add]
      refine ih _ ⟨fun i hi => ?_, fun k hk => ?_⟩
      · by_cases e : i = m
        · rw [updL_e (by omega), e]; rfl
        · rw [updL_n (by omega)]; exact h1 i (by omega)
      · rw [updL_n (by omega)]; exact h2 k hk
    · intro fu c3 ⟨h1, h2⟩
      by_cases h4 : H 1 = 4
      · simp (disch := omega) only [jI_0, jI_1, jI_2, jI_3, jI_4, jI_5, jI_6, jI_7, jI_8, jI_9, jI_10, jI_11, jI_12, jI_13, jI_14, jI_15, jI_16, jI_20, jI_24, jI_26, jI_30, jI_31, jI_32, jI_40, jI_48, jI_56, jI_57, jI_59, jI_60, jI_97, jI_99, jI_122, jI_160, jI_240, jI_255, jI_768, jI_1000, ↓jN_1, ↓jN_2, ↓jN_3, ↓jN_4, ↓jN_8, ↓jN_10, ↓jN_11, ↓jN_12, ↓jN_14, ↓jN_20, jI_addN, jI_le, jI_lt, jI_eq, jI_cl, jI_in, jI_add, jI_sub, jI_eqN, gI_eqI, gI_eqN, gI_leI, gI_ltI, jI_leN, jI_ltN, gI_sub, pif_tt, pif_ff, pg_tt, isB, or_true, true_or, pif_T, pif_F, pg_T, pb_S, upd_e, upd_n, fX4_payAll_27]
        exact Ok.s ⟨fun i hi => by unfold payN; rw [if_pos h4]; exact h1 i hi, h2⟩
      · by_cases hb : H 1 = 1
        · simp (disch := omega) only [jI_0, jI_1, jI_2, jI_3, jI_4, jI_5, jI_6, jI_7, jI_8, jI_9, jI_10, jI_11, jI_12, jI_13, jI_14, jI_15, jI_16, jI_20, jI_24, jI_26, jI_30, jI_31, jI_32, jI_40, jI_48, jI_56, jI_57, jI_59, jI_60, jI_97, jI_99, jI_122, jI_160, jI_240, jI_255, jI_768, jI_1000, ↓jN_1, ↓jN_2, ↓jN_3, ↓jN_4, ↓jN_8, ↓jN_10, ↓jN_11, ↓jN_12, ↓jN_14, ↓jN_20, jI_addN, jI_le, jI_lt, jI_eq, jI_cl, jI_in, jI_add, jI_sub, jI_eqN, gI_eqI, gI_eqN, gI_leI, gI_ltI, jI_leN, jI_ltN, gI_sub, pif_tt, pif_ff, pg_tt, isB, or_true, true_or, pif_T, pif_F, pg_T, pb_S, upd_e, upd_n, fX4_payAll_27]
          refine up_ok (fun fu d (q : (Nat → Int64) × (Nat → Int32)) => (fX4_payAll_90 N (jI (H 0)) c_order (jI (H 1)) (jI (H 0)) c_p1_balls c_p1_choiceWorth c_p1_placeWorth c_p1_wheel v_p2_size c_p2_ending c_p2_first c_p2_second c_seat (jI fr) fu (jI d) c_merit c_outAt q.1 c_toCome q.2 c_won)) _ (H 0) (fun d q => (∀ i, i < H 0 → q.1 (fr + i) = jL (payB H (wonN f s e z) (merT (H 0) f s e z z) d i)) ∧ ∀ k, (k < fr ∨ fr + 6 ≤ k) → q.1 k = c_p3 k) ?_ ?_ N 0 (c3, c_turn) (by omega) (by omega) ⟨h1, h2⟩
          · intro fu d ⟨c3, ct⟩ hd ⟨h1, h2⟩ ih
            have hl := fromLastX (N := N) (n := H 0) hn hd ho
            have hbl := (hR.2.2.2.1 d (by omega)).2.2.2.2.1
            obtain ⟨⟨c4, ct4⟩, e3, h3, h5⟩ := payChX (N := N) (W := wonN f s e z) (M := merT (H 0) f s e z z) (c_merit := c_merit) (c_turn := ct) (c_p4 := c3) (mu := H (20 + d)) (d := d) (fr := fr) hN hR hfr hbl hd hcw hw ho (fun c => by omega) (fun _ => rfl) h1
            simp (disch := omega) only [jI_0, jI_1, jI_2, jI_3, jI_4, jI_5, jI_6, jI_7, jI_8, jI_9, jI_10, jI_11, jI_12, jI_13, jI_14, jI_15, jI_16, jI_20, jI_24, jI_26, jI_30, jI_31, jI_32, jI_40, jI_48, jI_56, jI_57, jI_59, jI_60, jI_97, jI_99, jI_122, jI_160, jI_240, jI_255, jI_768, jI_1000, ↓jN_1, ↓jN_2, ↓jN_3, ↓jN_4, ↓jN_8, ↓jN_10, ↓jN_11, ↓jN_12, ↓jN_14, ↓jN_20, jI_addN, jI_le, jI_lt, jI_eq, jI_cl, jI_in, jI_add, jI_sub, jI_eqN, gI_eqI, gI_eqN, gI_leI, gI_ltI, jI_leN, jI_ltN, gI_sub, pif_tt, pif_ff, pg_tt, isB, or_true, true_or, pif_T, pif_F, pg_T, pb_S, upd_e, upd_n, fX4_payAll_90, hl, hcb, e3]
            refine ih (c4, ct4) ⟨fun i hi => ?_, fun k hk => ?_⟩
            · rw [hb] at h3
              exact h3 i hi
            · exact (h5 k hk).trans (h2 k hk)
          · intro fu ⟨c3, ct⟩ ⟨h1, h2⟩
            simp (disch := omega) only [jI_0, jI_1, jI_2, jI_3, jI_4, jI_5, jI_6, jI_7, jI_8, jI_9, jI_10, jI_11, jI_12, jI_13, jI_14, jI_15, jI_16, jI_20, jI_24, jI_26, jI_30, jI_31, jI_32, jI_40, jI_48, jI_56, jI_57, jI_59, jI_60, jI_97, jI_99, jI_122, jI_160, jI_240, jI_255, jI_768, jI_1000, ↓jN_1, ↓jN_2, ↓jN_3, ↓jN_4, ↓jN_8, ↓jN_10, ↓jN_11, ↓jN_12, ↓jN_14, ↓jN_20, jI_addN, jI_le, jI_lt, jI_eq, jI_cl, jI_in, jI_add, jI_sub, jI_eqN, gI_eqI, gI_eqN, gI_leI, gI_ltI, jI_leN, jI_ltN, gI_sub, pif_tt, pif_ff, pg_tt, isB, or_true, true_or, pif_T, pif_F, pg_T, pb_S, upd_e, upd_n, fX4_payAll_90]
            exact Ok.s ⟨fun i hi => by unfold payN; rw [if_neg h4, if_pos hb]; exact h1 i hi, h2⟩
        · have fin : ∀ cm co ct cw, (H 1 = 2 → ∀ j, j < H 0 → cm j = mI (merT (H 0) f s e z z j) ∧ merT (H 0) f s e z z j ≤ 100) → Ok ((fX4_payAll_140 N (jI (H 0)) c_order (jI (H 1)) (jI (H 0)) c_p1_balls c_p1_choiceWorth c_p1_placeWorth c_p1_wheel v_p2_size c_p2_ending c_p2_first c_p2_second c_seat (jI fr) cm co c3 ct c_turn cw)) (fun q => (∀ i, i < H 0 → q.2.2.1 (fr + i) = jL (payN H (wonN f s e z) (merT (H 0) f s e z z) i)) ∧ ∀ k, (k < fr ∨ fr + 6 ≤ k) → q.2.2.1 k = c_p3 k) := by
            intro cm co ct cw hm
            obtain ⟨⟨c4, ct4⟩, e3, h3, h5⟩ := payChX (N := N) (W := wonN f s e z) (M := merT (H 0) f s e z z) (c_merit := cm) (c_turn := c_turn) (c_p4 := c3) (mu := 1) (d := 0) (fr := fr) (x2 := jI 0) hN hR hfr (by omega) (by have := hR.1; omega) hcw hw ho hm (fun c => absurd c hb) h1
            simp (disch := omega) only [jI_0, jI_1, jI_2, jI_3, jI_4, jI_5, jI_6, jI_7, jI_8, jI_9, jI_10, jI_11, jI_12, jI_13, jI_14, jI_15, jI_16, jI_20, jI_24, jI_26, jI_30, jI_31, jI_32, jI_40, jI_48, jI_56, jI_57, jI_59, jI_60, jI_97, jI_99, jI_122, jI_160, jI_240, jI_255, jI_768, jI_1000, ↓jN_1, ↓jN_2, ↓jN_3, ↓jN_4, ↓jN_8, ↓jN_10, ↓jN_11, ↓jN_12, ↓jN_14, ↓jN_20, jI_addN, jI_le, jI_lt, jI_eq, jI_cl, jI_in, jI_add, jI_sub, jI_eqN, gI_eqI, gI_eqN, gI_leI, gI_ltI, jI_leN, jI_ltN, gI_sub, pif_tt, pif_ff, pg_tt, isB, or_true, true_or, pif_T, pif_F, pg_T, pb_S, upd_e, upd_n, fX4_payAll_140, e3]
            exact Ok.s ⟨fun i hi => by unfold payN; rw [if_neg h4, if_neg hb]; exact h3 i hi, fun k hk => (h5 k hk).trans (h2 k hk)⟩
          by_cases h2' : H 1 = 2
          · obtain ⟨q, e3, h3⟩ := findOut_ok (N := N) (c_merit := c_merit) (c_outAt := c_outAt) (c_toCome := c_toCome) (c_won := c_won) hN hk hG
            simp (disch := omega) only [jI_0, jI_1, jI_2, jI_3, jI_4, jI_5, jI_6, jI_7, jI_8, jI_9, jI_10, jI_11, jI_12, jI_13, jI_14, jI_15, jI_16, jI_20, jI_24, jI_26, jI_30, jI_31, jI_32, jI_40, jI_48, jI_56, jI_57, jI_59, jI_60, jI_97, jI_99, jI_122, jI_160, jI_240, jI_255, jI_768, jI_1000, ↓jN_1, ↓jN_2, ↓jN_3, ↓jN_4, ↓jN_8, ↓jN_10, ↓jN_11, ↓jN_12, ↓jN_14, ↓jN_20, jI_addN, jI_le, jI_lt, jI_eq, jI_cl, jI_in, jI_add, jI_sub, jI_eqN, gI_eqI, gI_eqN, gI_leI, gI_ltI, jI_leN, jI_ltN, gI_sub, pif_tt, pif_ff, pg_tt, isB, or_true, true_or, pif_T, pif_F, pg_T, pb_S, upd_e, upd_n, fX4_payAll_27, e3]
            refine fin _ _ _ _ (fun _ j hj => ⟨(h3 j hj).1, ?_⟩)
            have := merT_le (H 0) f s e z z j
            have := hk.2.1
            omega
          · simp (disch := omega) only [jI_0, jI_1, jI_2, jI_3, jI_4, jI_5, jI_6, jI_7, jI_8, jI_9, jI_10, jI_11, jI_12, jI_13, jI_14, jI_15, jI_16, jI_20, jI_24, jI_26, jI_30, jI_31, jI_32, jI_40, jI_48, jI_56, jI_57, jI_59, jI_60, jI_97, jI_99, jI_122, jI_160, jI_240, jI_255, jI_768, jI_1000, ↓jN_1, ↓jN_2, ↓jN_3, ↓jN_4, ↓jN_8, ↓jN_10, ↓jN_11, ↓jN_12, ↓jN_14, ↓jN_20, jI_addN, jI_le, jI_lt, jI_eq, jI_cl, jI_in, jI_add, jI_sub, jI_eqN, gI_eqI, gI_eqN, gI_leI, gI_ltI, jI_leN, jI_ltN, gI_sub, pif_tt, pif_ff, pg_tt, isB, or_true, true_or, pif_T, pif_F, pg_T, pb_S, upd_e, upd_n, fX4_payAll_27]
            exact fin _ _ _ _ (fun c => absurd c h2')
  by_cases h4 : H 1 = 4
  · rw [if_pos h4] at key
    simp (disch := omega) only [jI_0, jI_1, jI_2, jI_3, jI_4, jI_5, jI_6, jI_7, jI_8, jI_9, jI_10, jI_11, jI_12, jI_13, jI_14, jI_15, jI_16, jI_20, jI_24, jI_26, jI_30, jI_31, jI_32, jI_40, jI_48, jI_56, jI_57, jI_59, jI_60, jI_97, jI_99, jI_122, jI_160, jI_240, jI_255, jI_768, jI_1000, ↓jN_1, ↓jN_2, ↓jN_3, ↓jN_4, ↓jN_8, ↓jN_10, ↓jN_11, ↓jN_12, ↓jN_14, ↓jN_20, jI_addN, jI_le, jI_lt, jI_eq, jI_cl, jI_in, jI_add, jI_sub, jI_eqN, gI_eqI, gI_eqN, gI_leI, gI_ltI, jI_leN, jI_ltN, gI_sub, pif_tt, pif_ff, pg_tt, isB, or_true, true_or, pif_T, pif_F, pg_T, pb_S, upd_e, upd_n, fX4_payAll, fX4_payAll_22, e1, e2]
    exact key
  · rw [if_neg h4] at key
    simp (disch := omega) only [jI_0, jI_1, jI_2, jI_3, jI_4, jI_5, jI_6, jI_7, jI_8, jI_9, jI_10, jI_11, jI_12, jI_13, jI_14, jI_15, jI_16, jI_20, jI_24, jI_26, jI_30, jI_31, jI_32, jI_40, jI_48, jI_56, jI_57, jI_59, jI_60, jI_97, jI_99, jI_122, jI_160, jI_240, jI_255, jI_768, jI_1000, ↓jN_1, ↓jN_2, ↓jN_3, ↓jN_4, ↓jN_8, ↓jN_10, ↓jN_11, ↓jN_12, ↓jN_14, ↓jN_20, jI_addN, jI_le, jI_lt, jI_eq, jI_cl, jI_in, jI_add, jI_sub, jI_eqN, gI_eqI, gI_eqN, gI_leI, gI_ltI, jI_leN, jI_ltN, gI_sub, pif_tt, pif_ff, pg_tt, isB, or_true, true_or, pif_T, pif_F, pg_T, pb_S, upd_e, upd_n, fX4_payAll, fX4_payAll_22, e1, e2]
    exact key
end
