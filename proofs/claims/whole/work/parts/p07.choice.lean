/-! Who chooses when: the orders, the class. -/
theorem sumN_add (m : Nat) (p q : Nat → Nat) : sumN m (fun i => p i + q i) = sumN m p + sumN m q := by
  induction m with
  | zero => rfl
  | succ m ih => simp only [sumN, ih]; omega
theorem sumN_zero (m : Nat) : sumN m (fun _ => 0) = 0 := by
  induction m with
  | zero => rfl
  | succ m ih => simp only [sumN, ih]
theorem sumN_comm (a b : Nat) (g : Nat → Nat → Nat) : sumN a (fun i => sumN b (fun j => g i j)) = sumN b (fun j => sumN a (fun i => g i j)) := by
  induction a with
  | zero => simp only [sumN]; exact (sumN_zero b).symm
  | succ a ih =>
    simp only [sumN, ih]
    rw [← sumN_add]
theorem sumN_one {m k : Nat} {g : Nat → Nat} (hk : k < m) (h : ∀ i, i < m → i ≠ k → g i = 0) : sumN m g = g k := by
  induction m with
  | zero => omega
  | succ m ih =>
    simp only [sumN]
    by_cases e : k = m
    · subst e
      have : sumN k g = sumN k (fun _ => 0) := sumN_congr (fun i hi => h i (by omega) (by omega))
      rw [this, sumN_zero]; omega
    · rw [ih (by omega) (fun i hi => h i (by omega)), h m (by omega) (fun c => e c.symm)]; omega
/-- a count doesn't ask for the order -/
theorem cnt_perm {n : Nat} {p : Nat → Bool} {a b : Nat → Nat} (ha : ∀ i, i < n → a i < n) (hb : ∀ j, j < n → b j < n) (hab : ∀ j, j < n → a (b j) = j) (hba : ∀ i, i < n → b (a i) = i) : cnt n (fun i => p (a i)) = cnt n p := by
  have h1 : cnt n (fun i => p (a i)) = sumN n (fun i => sumN n (fun j => if a i = j ∧ p j = true then 1 else 0)) := by
    rw [cnt_sum]
    refine sumN_congr (fun i hi => ?_)
    rw [sumN_one (k := a i) (ha i hi) (fun j _ hne => if_neg (fun c => hne c.1.symm))]
    simp
  have h2 : cnt n p = sumN n (fun j => sumN n (fun i => if a i = j ∧ p j = true then 1 else 0)) := by
    rw [cnt_sum]
    refine sumN_congr (fun j hj => ?_)
    rw [sumN_one (k := b j) (hb j hj) (fun i hi hne => if_neg (fun c => hne (by rw [← c.1, hba i hi])))]
    simp [hab j hj]
  rw [h1, h2, sumN_comm]
/-- from the last one on -/
def frL (n : Nat) (W : Nat → Nat) (i : Nat) : Nat := ordN W n (n - 1 - i)
theorem frL_lt {n i : Nat} {W : Nat → Nat} (h : i < n) : frL n W i < n := (ordN_ok W n (n - 1 - i) (by omega)).1
theorem frL_plc {n i : Nat} {W : Nat → Nat} (h : i < n) : plc n W (frL n W i) = n - 1 - i := (ordN_ok W n (n - 1 - i) (by omega)).2
theorem frL_inj {n i j : Nat} {W : Nat → Nat} (hi : i < n) (hj : j < n) (h : frL n W i = frL n W j) : i = j := by
  have a := frL_plc (W := W) hi
  have b := frL_plc (W := W) hj
  rw [h, b] at a; omega
theorem frL_of {n i : Nat} {W : Nat → Nat} (h : i < n) : frL n W (n - 1 - plc n W i) = i := by
  have h1 := plc_lt (K := W) h
  unfold frL
  rw [show n - 1 - (n - 1 - plc n W i) = plc n W i by omega]
  exact ordN_plc W h
def chB (n : Nat) (W : Nat → Nat) (d c : Nat) : Nat := if c = 0 then frL n W d else if c ≤ d then frL n W (c - 1) else frL n W c
def chD (n : Nat) (W M : Nat → Nat) (c : Nat) : Nat := frL n W (ordN (fun i => M (frL n W i)) n c)
def chN (kd n : Nat) (W M wh : Nat → Nat) (d c : Nat) : Nat := if kd = 1 then chB n W d c else if kd = 2 then chD n W M c else if kd = 3 then wh c else frL n W c
theorem chN_lt {kd n d c : Nat} {W M wh : Nat → Nat} (hw : ∀ j, j < n → wh j < n) (hd : d < n) (hc : c < n) : chN kd n W M wh d c < n := by
  unfold chN chB chD
  split
  · split
    · exact frL_lt hd
    · split
      · exact frL_lt (by omega)
      · exact frL_lt hc
  · split
    · exact frL_lt (ordN_ok _ n c hc).1
    · split
      · exact hw c hc
      · exact frL_lt hc
section
variable {v_sides : Int32} {c_merit : Nat → Int32} {c_order : Nat → Int32} {v_p1_kind : Int32} {c_p1_wheel : Nat → Int32} {c_turn : Nat → Int32}
variable {N n : Nat} {W M wh : Nat → Nat}
theorem fromLastX {i : Nat} (hn : n ≤ 6) (hi : i < n) (ho : ∀ p, p < n → c_order p = jI (ordN W n p)) : (fX4_fromLast N (jI n) c_order (jI i)) = some (jI (frL n W i)) := by
  unfold frL
  simp (disch := omega) only [jI_0, jI_1, jI_2, jI_3, jI_4, jI_5, jI_6, jI_7, jI_8, jI_9, jI_10, jI_11, jI_12, jI_13, jI_14, jI_15, jI_16, jI_20, jI_24, jI_26, jI_30, jI_31, jI_32, jI_40, jI_48, jI_56, jI_57, jI_59, jI_60, jI_97, jI_99, jI_122, jI_160, jI_240, jI_255, jI_768, jI_1000, ↓jN_1, ↓jN_2, ↓jN_3, ↓jN_4, ↓jN_8, ↓jN_10, ↓jN_11, ↓jN_12, ↓jN_14, ↓jN_20, jI_addN, jI_le, jI_lt, jI_eq, jI_cl, jI_in, jI_add, jI_sub, jI_eqN, gI_eqI, gI_eqN, gI_leI, gI_ltI, jI_leN, jI_ltN, gI_sub, pif_tt, pif_ff, pg_tt, isB, or_true, true_or, pif_T, pif_F, pg_T, pb_S, upd_e, upd_n, fX4_fromLast, ho]
theorem worstX (hN : 100 ≤ N) (hn : n ≤ 6) (ho : ∀ p, p < n → c_order p = jI (ordN W n p)) : Ok ((fX4_chooseWorstFirst N (jI n) c_order c_turn)) (fun ct => ∀ c, c < n → ct c = jI (frL n W c)) := by
  unfold fX4_chooseWorstFirst
  refine up_ok (fun fu i ct => (fX4_chooseWorstFirst_2 N (jI n) c_order fu (jI i) ct)) _ n (fun i ct => ∀ c, c < i → ct c = jI (frL n W c)) ?_ ?_ N 0 c_turn (by omega) (by omega) (fun j h => by omega)
  · intro fu i ct hi hp ih
    have hl := fromLastX (N := N) (n := n) hn hi ho
    simp (disch := omega) only [jI_0, jI_1, jI_2, jI_3, jI_4, jI_5, jI_6, jI_7, jI_8, jI_9, jI_10, jI_11, jI_12, jI_13, jI_14, jI_15, jI_16, jI_20, jI_24, jI_26, jI_30, jI_31, jI_32, jI_40, jI_48, jI_56, jI_57, jI_59, jI_60, jI_97, jI_99, jI_122, jI_160, jI_240, jI_255, jI_768, jI_1000, ↓jN_1, ↓jN_2, ↓jN_3, ↓jN_4, ↓jN_8, ↓jN_10, ↓jN_11, ↓jN_12, ↓jN_14, ↓jN_20, jI_addN, jI_le, jI_lt, jI_eq, jI_cl, jI_in, jI_add, jI_sub, jI_eqN, gI_eqI, gI_eqN, gI_leI, gI_ltI, jI_leN, jI_ltN, gI_sub, pif_tt, pif_ff, pg_tt, isB, or_true, true_or, pif_T, pif_F, pg_T, pb_S, upd_e, upd_n, fX4_chooseWorstFirst_2, hl]
    refine ih _ (fun c hc => ?_)
    by_cases h : c = i
    · rw [upd_e h, h]
    · rw [upd_n h]; exact hp c (by omega)
  · intro fu ct hp
    simp (disch := omega) only [jI_0, jI_1, jI_2, jI_3, jI_4, jI_5, jI_6, jI_7, jI_8, jI_9, jI_10, jI_11, jI_12, jI_13, jI_14, jI_15, jI_16, jI_20, jI_24, jI_26, jI_30, jI_31, jI_32, jI_40, jI_48, jI_56, jI_57, jI_59, jI_60, jI_97, jI_99, jI_122, jI_160, jI_240, jI_255, jI_768, jI_1000, ↓jN_1, ↓jN_2, ↓jN_3, ↓jN_4, ↓jN_8, ↓jN_10, ↓jN_11, ↓jN_12, ↓jN_14, ↓jN_20, jI_addN, jI_le, jI_lt, jI_eq, jI_cl, jI_in, jI_add, jI_sub, jI_eqN, gI_eqI, gI_eqN, gI_leI, gI_ltI, jI_leN, jI_ltN, gI_sub, pif_tt, pif_ff, pg_tt, isB, or_true, true_or, pif_T, pif_F, pg_T, pb_S, upd_e, upd_n, fX4_chooseWorstFirst_2]
    exact Ok.s hp
theorem wheelX (hN : 100 ≤ N) (hn : n ≤ 6) (hw : ∀ c, c < n → c_p1_wheel c = jI (wh c)) : Ok ((fX4_turnWheel N (jI n) c_p1_wheel c_turn)) (fun ct => ∀ c, c < n → ct c = jI (wh c)) := by
  unfold fX4_turnWheel
  refine up_ok (fun fu i ct => (fX4_turnWheel_2 N (jI n) c_p1_wheel fu (jI i) ct)) _ n (fun i ct => ∀ c, c < i → ct c = jI (wh c)) ?_ ?_ N 0 c_turn (by omega) (by omega) (fun j h => by omega)
  · intro fu i ct hi hp ih
    simp (disch := omega) only [jI_0, jI_1, jI_2, jI_3, jI_4, jI_5, jI_6, jI_7, jI_8, jI_9, jI_10, jI_11, jI_12, jI_13, jI_14, jI_15, jI_16, jI_20, jI_24, jI_26, jI_30, jI_31, jI_32, jI_40, jI_48, jI_56, jI_57, jI_59, jI_60, jI_97, jI_99, jI_122, jI_160, jI_240, jI_255, jI_768, jI_1000, ↓jN_1, ↓jN_2, ↓jN_3, ↓jN_4, ↓jN_8, ↓jN_10, ↓jN_11, ↓jN_12, ↓jN_14, ↓jN_20, jI_addN, jI_le, jI_lt, jI_eq, jI_cl, jI_in, jI_add, jI_sub, jI_eqN, gI_eqI, gI_eqN, gI_leI, gI_ltI, jI_leN, jI_ltN, gI_sub, pif_tt, pif_ff, pg_tt, isB, or_true, true_or, pif_T, pif_F, pg_T, pb_S, upd_e, upd_n, fX4_turnWheel_2, hw]
    refine ih _ (fun c hc => ?_)
    by_cases h : c = i
    · rw [upd_e h, h]
    · rw [upd_n h]; exact hp c (by omega)
  · intro fu ct hp
    simp (disch := omega) only [jI_0, jI_1, jI_2, jI_3, jI_4, jI_5, jI_6, jI_7, jI_8, jI_9, jI_10, jI_11, jI_12, jI_13, jI_14, jI_15, jI_16, jI_20, jI_24, jI_26, jI_30, jI_31, jI_32, jI_40, jI_48, jI_56, jI_57, jI_59, jI_60, jI_97, jI_99, jI_122, jI_160, jI_240, jI_255, jI_768, jI_1000, ↓jN_1, ↓jN_2, ↓jN_3, ↓jN_4, ↓jN_8, ↓jN_10, ↓jN_11, ↓jN_12, ↓jN_14, ↓jN_20, jI_addN, jI_le, jI_lt, jI_eq, jI_cl, jI_in, jI_add, jI_sub, jI_eqN, gI_eqI, gI_eqN, gI_leI, gI_ltI, jI_leN, jI_ltN, gI_sub, pif_tt, pif_ff, pg_tt, isB, or_true, true_or, pif_T, pif_F, pg_T, pb_S, upd_e, upd_n, fX4_turnWheel_2]
    exact Ok.s hp
theorem ballX {d : Nat} (hN : 100 ≤ N) (hn : n ≤ 6) (hd : d < n) (ho : ∀ p, p < n → c_order p = jI (ordN W n p)) : Ok ((fX4_chooseByBall N (jI n) c_order c_turn (jI (frL n W d)))) (fun ct => ∀ c, c < n → ct c = jI (chB n W d c)) := by
  have key : Ok ((fX4_chooseByBall_11 N (jI n) c_order (jI (frL n W d)) N 1 0 (upd c_turn 0 (jI (frL n W d))))) (fun ct => ∀ c, c < n → ct c = jI (chB n W d c)) := by
    refine up_ok (fun fu i (q : Nat × (Nat → Int32)) => (fX4_chooseByBall_11 N (jI n) c_order (jI (frL n W d)) fu (jI q.1) (jI i) q.2)) _ n (fun i q => q.1 = (if i ≤ d then i + 1 else i) ∧ ∀ c, c < q.1 → q.2 c = jI (chB n W d c)) ?_ ?_ N 0 (1, upd c_turn 0 (jI (frL n W d))) (by omega) (by omega) ⟨by simp, fun c h => ?_⟩
    · intro fu i ⟨q, ct⟩ hi ⟨hq, hp⟩ ih
      simp only at hq hp
      have hl := fromLastX (N := N) (n := n) hn hi ho
      have h1 := frL_lt (W := W) hi
      have h2 := frL_lt (W := W) hd
      by_cases e : i = d
      · subst e
        rw [if_pos (Nat.le_refl _)] at hq
        simp (disch := omega) only [jI_0, jI_1, jI_2, jI_3, jI_4, jI_5, jI_6, jI_7, jI_8, jI_9, jI_10, jI_11, jI_12, jI_13, jI_14, jI_15, jI_16, jI_20, jI_24, jI_26, jI_30, jI_31, jI_32, jI_40, jI_48, jI_56, jI_57, jI_59, jI_60, jI_97, jI_99, jI_122, jI_160, jI_240, jI_255, jI_768, jI_1000, ↓jN_1, ↓jN_2, ↓jN_3, ↓jN_4, ↓jN_8, ↓jN_10, ↓jN_11, ↓jN_12, ↓jN_14, ↓jN_20, jI_addN, jI_le, jI_lt, jI_eq, jI_cl, jI_in, jI_add, jI_sub, jI_eqN, gI_eqI, gI_eqN, gI_leI, gI_ltI, jI_leN, jI_ltN, gI_sub, pif_tt, pif_ff, pg_tt, isB, or_true, true_or, pif_T, pif_F, pg_T, pb_S, upd_e, upd_n, fX4_chooseByBall_11, fX4_chooseByBall_51, hl]
        exact ih (q, ct) ⟨by rw [if_neg (by omega)]; exact hq, hp⟩
      · have hne : frL n W i ≠ frL n W d := fun c => e (frL_inj hi hd c)
        have hqn : q < n := by rw [hq]; split <;> omega
        simp (disch := omega) only [jI_0, jI_1, jI_2, jI_3, jI_4, jI_5, jI_6, jI_7, jI_8, jI_9, jI_10, jI_11, jI_12, jI_13, jI_14, jI_15, jI_16, jI_20, jI_24, jI_26, jI_30, jI_31, jI_32, jI_40, jI_48, jI_56, jI_57, jI_59, jI_60, jI_97, jI_99, jI_122, jI_160, jI_240, jI_255, jI_768, jI_1000, ↓jN_1, ↓jN_2, ↓jN_3, ↓jN_4, ↓jN_8, ↓jN_10, ↓jN_11, ↓jN_12, ↓jN_14, ↓jN_20, jI_addN, jI_le, jI_lt, jI_eq, jI_cl, jI_in, jI_add, jI_sub, jI_eqN, gI_eqI, gI_eqN, gI_leI, gI_ltI, jI_leN, jI_ltN, gI_sub, pif_tt, pif_ff, pg_tt, isB, or_true, true_or, pif_T, pif_F, pg_T, pb_S, upd_e, upd_n, fX4_chooseByBall_11, fX4_chooseByBall_51, hl]
        refine ih (q + 1, _) ⟨?_, fun c hc => ?_⟩
        · show q + 1 = _
          rw [hq]; split <;> split <;> omega
        · show upd ct q (jI (frL n W i)) c = _
          by_cases h : c = q
          · rw [upd_e h, h]
            unfold chB
            by_cases hid : i ≤ d
            · rw [if_pos hid] at hq
              rw [if_neg (by omega), if_pos (by omega), show q - 1 = i by omega]
            · rw [if_neg hid] at hq
              rw [if_neg (by omega), if_neg (by omega), hq]
          · rw [upd_n h]
            exact hp c (by simp only at hc; omega)
    · intro fu ⟨q, ct⟩ ⟨hq, hp⟩
      simp only at hq hp
      rw [if_neg (by omega)] at hq
      simp (disch := omega) only [jI_0, jI_1, jI_2, jI_3, jI_4, jI_5, jI_6, jI_7, jI_8, jI_9, jI_10, jI_11, jI_12, jI_13, jI_14, jI_15, jI_16, jI_20, jI_24, jI_26, jI_30, jI_31, jI_32, jI_40, jI_48, jI_56, jI_57, jI_59, jI_60, jI_97, jI_99, jI_122, jI_160, jI_240, jI_255, jI_768, jI_1000, ↓jN_1, ↓jN_2, ↓jN_3, ↓jN_4, ↓jN_8, ↓jN_10, ↓jN_11, ↓jN_12, ↓jN_14, ↓jN_20, jI_addN, jI_le, jI_lt, jI_eq, jI_cl, jI_in, jI_add, jI_sub, jI_eqN, gI_eqI, gI_eqN, gI_leI, gI_ltI, jI_leN, jI_ltN, gI_sub, pif_tt, pif_ff, pg_tt, isB, or_true, true_or, pif_T, pif_F, pg_T, pb_S, upd_e, upd_n, fX4_chooseByBall_11]
      exact Ok.s (fun c hc => hp c (by omega))
    · obtain rfl : c = 0 := by simp only at h; omega
      show upd c_turn 0 (jI (frL n W d)) 0 = _
      rw [upd_e rfl]; rfl
  simp (disch := omega) only [jI_0, jI_1, jI_2, jI_3, jI_4, jI_5, jI_6, jI_7, jI_8, jI_9, jI_10, jI_11, jI_12, jI_13, jI_14, jI_15, jI_16, jI_20, jI_24, jI_26, jI_30, jI_31, jI_32, jI_40, jI_48, jI_56, jI_57, jI_59, jI_60, jI_97, jI_99, jI_122, jI_160, jI_240, jI_255, jI_768, jI_1000, ↓jN_1, ↓jN_2, ↓jN_3, ↓jN_4, ↓jN_8, ↓jN_10, ↓jN_11, ↓jN_12, ↓jN_14, ↓jN_20, jI_addN, jI_le, jI_lt, jI_eq, jI_cl, jI_in, jI_add, jI_sub, jI_eqN, gI_eqI, gI_eqN, gI_leI, gI_ltI, jI_leN, jI_ltN, gI_sub, pif_tt, pif_ff, pg_tt, isB, or_true, true_or, pif_T, pif_F, pg_T, pb_S, upd_e, upd_n, fX4_chooseByBall]
  exact key
theorem day_18 {K : Nat → Nat} {i : Nat} {Q : (Nat → Int32) → Prop} {k2 : Int32 → (Nat → Int32) → Option ((Nat → Int32))} (hn : n ≤ 6) (hi : i < n) (hm : ∀ j, j < n → c_merit (frL n W j) = mI (K j) ∧ K j ≤ 100) : ∀ (t fu : Nat) (o : Nat → Nat) (c_turn : Nat → Int32), t < fu → t ≤ i → (∀ p, p ≤ i → p ≠ t → o p < n ∧ c_turn p = jI (frL n W (o p))) → (∀ ct, (∀ p, p ≤ i → ct p = jI (frL n W (insAt K i t o p))) → Ok (k2 (jI (i + 1)) ct) Q) → Ok ((fX4_chooseByDay_18 N (jI n) c_merit c_order k2 fu (jI i) (jI (frL n W i)) (jI t) c_turn)) Q := by
  intro t
  induction t with
  | zero =>
    intro fu o c_turn hf ht ho hk
    obtain ⟨fu, rfl⟩ : ∃ q, fu = q + 1 := ⟨fu - 1, by omega⟩
    simp (disch := omega) only [jI_0, jI_1, jI_2, jI_3, jI_4, jI_5, jI_6, jI_7, jI_8, jI_9, jI_10, jI_11, jI_12, jI_13, jI_14, jI_15, jI_16, jI_20, jI_24, jI_26, jI_30, jI_31, jI_32, jI_40, jI_48, jI_56, jI_57, jI_59, jI_60, jI_97, jI_99, jI_122, jI_160, jI_240, jI_255, jI_768, jI_1000, ↓jN_1, ↓jN_2, ↓jN_3, ↓jN_4, ↓jN_8, ↓jN_10, ↓jN_11, ↓jN_12, ↓jN_14, ↓jN_20, jI_addN, jI_le, jI_lt, jI_eq, jI_cl, jI_in, jI_add, jI_sub, jI_eqN, gI_eqI, gI_eqN, gI_leI, gI_ltI, jI_leN, jI_ltN, gI_sub, pif_tt, pif_ff, pg_tt, isB, or_true, true_or, pif_T, pif_F, pg_T, pb_S, upd_e, upd_n, fX4_chooseByDay_18, fX4_chooseByDay_64]
    refine hk _ (fun p hp => ?_)
    simp only [insAt]
    by_cases h : p = 0
    · rw [upd_e h, updN_e h]
    · rw [upd_n h, updN_n h]; exact (ho p hp h).2
  | succ t ih =>
    intro fu o c_turn hf ht ho hk
    obtain ⟨fu, rfl⟩ : ∃ q, fu = q + 1 := ⟨fu - 1, by omega⟩
    obtain ⟨h1, h2⟩ := ho t (by omega) (by omega)
    obtain ⟨h3, h4⟩ := hm (o t) h1
    obtain ⟨h5, h6⟩ := hm i hi
    have h7 := frL_lt (W := W) h1
    have h8 := frL_lt (W := W) hi
    have ht1 : t + 1 - 1 = t := by omega
    by_cases hc : K (o t) < K i
    · simp (disch := omega) only [jI_0, jI_1, jI_2, jI_3, jI_4, jI_5, jI_6, jI_7, jI_8, jI_9, jI_10, jI_11, jI_12, jI_13, jI_14, jI_15, jI_16, jI_20, jI_24, jI_26, jI_30, jI_31, jI_32, jI_40, jI_48, jI_56, jI_57, jI_59, jI_60, jI_97, jI_99, jI_122, jI_160, jI_240, jI_255, jI_768, jI_1000, ↓jN_1, ↓jN_2, ↓jN_3, ↓jN_4, ↓jN_8, ↓jN_10, ↓jN_11, ↓jN_12, ↓jN_14, ↓jN_20, jI_addN, jI_le, jI_lt, jI_eq, jI_cl, jI_in, jI_add, jI_sub, jI_eqN, gI_eqI, gI_eqN, gI_leI, gI_ltI, jI_leN, jI_ltN, gI_sub, pif_tt, pif_ff, pg_tt, isB, or_true, true_or, pif_T, pif_F, pg_T, pb_S, upd_e, upd_n, fX4_chooseByDay_18, h2, h3, h5, ht1, mI_le]
      refine ih fu (updN o (t + 1) (o t)) _ (by omega) (by omega) (fun p hp hpt => ?_) (fun ct hct => hk ct (fun p hp => ?_))
      · by_cases h : p = t + 1
        · rw [updN_e h, upd_e h]; exact ⟨h1, rfl⟩
        · rw [updN_n h, upd_n h]; exact ho p hp h
      · rw [hct p hp]; simp only [insAt]; rw [if_pos hc]
    · simp (disch := omega) only [jI_0, jI_1, jI_2, jI_3, jI_4, jI_5, jI_6, jI_7, jI_8, jI_9, jI_10, jI_11, jI_12, jI_13, jI_14, jI_15, jI_16, jI_20, jI_24, jI_26, jI_30, jI_31, jI_32, jI_40, jI_48, jI_56, jI_57, jI_59, jI_60, jI_97, jI_99, jI_122, jI_160, jI_240, jI_255, jI_768, jI_1000, ↓jN_1, ↓jN_2, ↓jN_3, ↓jN_4, ↓jN_8, ↓jN_10, ↓jN_11, ↓jN_12, ↓jN_14, ↓jN_20, jI_addN, jI_le, jI_lt, jI_eq, jI_cl, jI_in, jI_add, jI_sub, jI_eqN, gI_eqI, gI_eqN, gI_leI, gI_ltI, jI_leN, jI_ltN, gI_sub, pif_tt, pif_ff, pg_tt, isB, or_true, true_or, pif_T, pif_F, pg_T, pb_S, upd_e, upd_n, fX4_chooseByDay_18, fX4_chooseByDay_64, h2, h3, h5, ht1, mI_le]
      refine hk _ (fun p hp => ?_)
      simp only [insAt]
      rw [if_neg hc]
      by_cases h : p = t + 1
      · rw [upd_e h, updN_e h]
      · rw [upd_n h, updN_n h]; exact (ho p hp h).2
theorem dayX (hN : 100 ≤ N) (hn : n ≤ 6) (hm : ∀ j, j < n → c_merit j = mI (M j) ∧ M j ≤ 100) (ho : ∀ p, p < n → c_order p = jI (ordN W n p)) : Ok ((fX4_chooseByDay N (jI n) c_merit c_order c_turn)) (fun ct => ∀ c, c < n → ct c = jI (chD n W M c)) := by
  unfold fX4_chooseByDay
  refine up_ok (fun fu i ct => (fX4_chooseByDay_2 N (jI n) c_merit c_order fu (jI i) ct)) _ n (fun i ct => ∀ c, c < i → ct c = jI (frL n W (ordN (fun i => M (frL n W i)) i c))) ?_ ?_ N 0 c_turn (by omega) (by omega) (fun j h => by omega)
  · intro fu i ct hi hp ih
    have hl := fromLastX (N := N) (n := n) hn hi ho
    simp (disch := omega) only [jI_0, jI_1, jI_2, jI_3, jI_4, jI_5, jI_6, jI_7, jI_8, jI_9, jI_10, jI_11, jI_12, jI_13, jI_14, jI_15, jI_16, jI_20, jI_24, jI_26, jI_30, jI_31, jI_32, jI_40, jI_48, jI_56, jI_57, jI_59, jI_60, jI_97, jI_99, jI_122, jI_160, jI_240, jI_255, jI_768, jI_1000, ↓jN_1, ↓jN_2, ↓jN_3, ↓jN_4, ↓jN_8, ↓jN_10, ↓jN_11, ↓jN_12, ↓jN_14, ↓jN_20, jI_addN, jI_le, jI_lt, jI_eq, jI_cl, jI_in, jI_add, jI_sub, jI_eqN, gI_eqI, gI_eqN, gI_leI, gI_ltI, jI_leN, jI_ltN, gI_sub, pif_tt, pif_ff, pg_tt, isB, or_true, true_or, pif_T, pif_F, pg_T, pb_S, upd_e, upd_n, fX4_chooseByDay_2, hl]
    refine day_18 (K := fun i => M (frL n W i)) hn hi (fun j hj => hm _ (frL_lt hj)) i N (ordN (fun i => M (frL n W i)) i) ct (by omega) (Nat.le_refl _) (fun p hp1 hp2 => ⟨?_, hp p (by omega)⟩) (fun ct' h' => ih ct' (fun c hc => h' c (by omega)))
    have := (ordN_ok (fun i => M (frL n W i)) i p (by omega)).1
    omega
  · intro fu ct hp
    simp (disch := omega) only [jI_0, jI_1, jI_2, jI_3, jI_4, jI_5, jI_6, jI_7, jI_8, jI_9, jI_10, jI_11, jI_12, jI_13, jI_14, jI_15, jI_16, jI_20, jI_24, jI_26, jI_30, jI_31, jI_32, jI_40, jI_48, jI_56, jI_57, jI_59, jI_60, jI_97, jI_99, jI_122, jI_160, jI_240, jI_255, jI_768, jI_1000, ↓jN_1, ↓jN_2, ↓jN_3, ↓jN_4, ↓jN_8, ↓jN_10, ↓jN_11, ↓jN_12, ↓jN_14, ↓jN_20, jI_addN, jI_le, jI_lt, jI_eq, jI_cl, jI_in, jI_add, jI_sub, jI_eqN, gI_eqI, gI_eqN, gI_leI, gI_ltI, jI_leN, jI_ltN, gI_sub, pif_tt, pif_ff, pg_tt, isB, or_true, true_or, pif_T, pif_F, pg_T, pb_S, upd_e, upd_n, fX4_chooseByDay_2]
    exact Ok.s hp
theorem arrangeX {kd d : Nat} {x2 : Int32} (hN : 100 ≤ N) (hn : n ≤ 6) (hkd : kd ≤ 4) (hd : d < n) (ho : ∀ p, p < n → c_order p = jI (ordN W n p)) (hw : ∀ c, c < n → c_p1_wheel c = jI (wh c)) (hm : kd = 2 → ∀ j, j < n → c_merit j = mI (M j) ∧ M j ≤ 100) (hx : kd = 1 → x2 = jI (frL n W d)) : Ok ((fX4_arrange N (jI n) c_merit c_order (jI kd) c_p1_wheel c_turn x2)) (fun ct => ∀ c, c < n → ct c = jI (chN kd n W M wh d c)) := by
  by_cases h1 : kd = 1
  · subst h1
    obtain ⟨ct, e, h⟩ := ballX (N := N) (c_turn := c_turn) hN hn hd ho
    rw [hx rfl]
    simp (disch := omega) only [jI_0, jI_1, jI_2, jI_3, jI_4, jI_5, jI_6, jI_7, jI_8, jI_9, jI_10, jI_11, jI_12, jI_13, jI_14, jI_15, jI_16, jI_20, jI_24, jI_26, jI_30, jI_31, jI_32, jI_40, jI_48, jI_56, jI_57, jI_59, jI_60, jI_97, jI_99, jI_122, jI_160, jI_240, jI_255, jI_768, jI_1000, ↓jN_1, ↓jN_2, ↓jN_3, ↓jN_4, ↓jN_8, ↓jN_10, ↓jN_11, ↓jN_12, ↓jN_14, ↓jN_20, jI_addN, jI_le, jI_lt, jI_eq, jI_cl, jI_in, jI_add, jI_sub, jI_eqN, gI_eqI, gI_eqN, gI_leI, gI_ltI, jI_leN, jI_ltN, gI_sub, pif_tt, pif_ff, pg_tt, isB, or_true, true_or, pif_T, pif_F, pg_T, pb_S, upd_e, upd_n, fX4_arrange, fX4_arrange_59, e]
    exact Ok.s (fun c hc => by rw [h c hc]; rfl)
  · by_cases h2 : kd = 2
    · subst h2
      obtain ⟨ct, e, h⟩ := dayX (N := N) (c_turn := c_turn) hN hn (hm rfl) ho
      simp (disch := omega) only [jI_0, jI_1, jI_2, jI_3, jI_4, jI_5, jI_6, jI_7, jI_8, jI_9, jI_10, jI_11, jI_12, jI_13, jI_14, jI_15, jI_16, jI_20, jI_24, jI_26, jI_30, jI_31, jI_32, jI_40, jI_48, jI_56, jI_57, jI_59, jI_60, jI_97, jI_99, jI_122, jI_160, jI_240, jI_255, jI_768, jI_1000, ↓jN_1, ↓jN_2, ↓jN_3, ↓jN_4, ↓jN_8, ↓jN_10, ↓jN_11, ↓jN_12, ↓jN_14, ↓jN_20, jI_addN, jI_le, jI_lt, jI_eq, jI_cl, jI_in, jI_add, jI_sub, jI_eqN, gI_eqI, gI_eqN, gI_leI, gI_ltI, jI_leN, jI_ltN, gI_sub, pif_tt, pif_ff, pg_tt, isB, or_true, true_or, pif_T, pif_F, pg_T, pb_S, upd_e, upd_n, fX4_arrange, fX4_arrange_59, e]
      exact Ok.s (fun c hc => by rw [h c hc]; rfl)
    · by_cases h3 : kd = 3
      · subst h3
        obtain ⟨ct, e, h⟩ := wheelX (N := N) (c_turn := c_turn) hN hn hw
        simp (disch := omega) only [jI_0, jI_1, jI_2, jI_3, jI_4, jI_5, jI_6, jI_7, jI_8, jI_9, jI_10, jI_11, jI_12, jI_13, jI_14, jI_15, jI_16, jI_20, jI_24, jI_26, jI_30, jI_31, jI_32, jI_40, jI_48, jI_56, jI_57, jI_59, jI_60, jI_97, jI_99, jI_122, jI_160, jI_240, jI_255, jI_768, jI_1000, ↓jN_1, ↓jN_2, ↓jN_3, ↓jN_4, ↓jN_8, ↓jN_10, ↓jN_11, ↓jN_12, ↓jN_14, ↓jN_20, jI_addN, jI_le, jI_lt, jI_eq, jI_cl, jI_in, jI_add, jI_sub, jI_eqN, gI_eqI, gI_eqN, gI_leI, gI_ltI, jI_leN, jI_ltN, gI_sub, pif_tt, pif_ff, pg_tt, isB, or_true, true_or, pif_T, pif_F, pg_T, pb_S, upd_e, upd_n, fX4_arrange, fX4_arrange_59, e]
        exact Ok.s (fun c hc => by rw [h c hc]; rfl)
      · obtain ⟨ct, e, h⟩ := worstX (N := N) (c_turn := c_turn) hN hn ho
        simp (disch := omega) only [jI_0, jI_1, jI_2, jI_3, jI_4, jI_5, jI_6, jI_7, jI_8, jI_9, jI_10, jI_11, jI_12, jI_13, jI_14, jI_15, jI_16, jI_20, jI_24, jI_26, jI_30, jI_31, jI_32, jI_40, jI_48, jI_56, jI_57, jI_59, jI_60, jI_97, jI_99, jI_122, jI_160, jI_240, jI_255, jI_768, jI_1000, ↓jN_1, ↓jN_2, ↓jN_3, ↓jN_4, ↓jN_8, ↓jN_10, ↓jN_11, ↓jN_12, ↓jN_14, ↓jN_20, jI_addN, jI_le, jI_lt, jI_eq, jI_cl, jI_in, jI_add, jI_sub, jI_eqN, gI_eqI, gI_eqN, gI_leI, gI_ltI, jI_leN, jI_ltN, gI_sub, pif_tt, pif_ff, pg_tt, isB, or_true, true_or, pif_T, pif_F, pg_T, pb_S, upd_e, upd_n, fX4_arrange, fX4_arrange_59, e]
        exact Ok.s (fun c hc => by rw [h c hc]; unfold chN; rw [if_neg h1, if_neg h2, if_neg h3])
end
