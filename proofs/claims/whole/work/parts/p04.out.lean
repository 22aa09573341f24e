/-! Who is OUT: the reference. -/
theorem jI_ite {c : Prop} [Decidable c] (a b : Nat) : (if c then jI a else jI b) = jI (if c then a else b) := by split <;> rfl
def mxN : Nat → (Nat → Nat) → Nat
  | 0, _ => 0
  | m + 1, W => max (mxN m W) (W m)
theorem mxN_le {a m : Nat} {W : Nat → Nat} : mxN m W ≤ a ↔ ∀ j, j < m → W j ≤ a := by
  induction m with
  | zero => simp [mxN]
  | succ m ih =>
    simp only [mxN, Nat.max_le, ih]
    constructor
    · intro ⟨h1, h2⟩ j hj
      by_cases e : j = m
      · rw [e]; exact h2
      · exact h1 j (by omega)
    · intro h
      exact ⟨fun j hj => h j (by omega), h m (by omega)⟩
theorem mxN_lt {a m : Nat} {W : Nat → Nat} : a < mxN m W ↔ ∃ j, j < m ∧ a < W j := by
  rw [← Nat.not_le, mxN_le]
  constructor
  · intro h
    apply Decidable.byContradiction
    intro hc
    exact h (fun j hj => Nat.le_of_not_lt (fun h2 => hc ⟨j, hj, h2⟩))
  · intro ⟨j, hj, h⟩ hc
    have := hc j hj; omega
theorem mxN_congr {m : Nat} {V W : Nat → Nat} (h : ∀ j, j < m → V j = W j) : mxN m V = mxN m W := by
  induction m with
  | zero => rfl
  | succ m ih => simp only [mxN, ih (fun j hj => h j (by omega)), h m (by omega)]
/-- the first below m; m if there is none -/
def fstN : Nat → (Nat → Bool) → Nat
  | 0, _ => 0
  | m + 1, p => if fstN m p < m then fstN m p else if p m then m else m + 1
theorem fstN_le (m : Nat) (p : Nat → Bool) : fstN m p ≤ m := by
  induction m with
  | zero => exact Nat.le_refl _
  | succ m ih => simp only [fstN]; split; omega; split <;> omega
theorem fstN_hit {m : Nat} {p : Nat → Bool} (h : fstN m p < m) : p (fstN m p) = true := by
  induction m with
  | zero => omega
  | succ m ih =>
    simp only [fstN] at h ⊢
    by_cases h1 : fstN m p < m
    · simp only [h1, if_true]; exact ih h1
    · simp only [h1, if_false] at h ⊢
      by_cases h2 : p m = true
      · simp only [h2, if_true]
      · simp only [h2] at h; exact absurd h (by simp)
theorem fstN_miss {m : Nat} {p : Nat → Bool} : ∀ i, i < fstN m p → p i = false := by
  induction m with
  | zero => intro i hi; simp [fstN] at hi
  | succ m ih =>
    intro i hi
    simp only [fstN] at hi
    by_cases h1 : fstN m p < m
    · simp only [h1, if_true] at hi; exact ih i hi
    · have h3 := fstN_le m p
      have h4 : fstN m p = m := by omega
      by_cases h5 : i < m
      · exact ih i (by omega)
      · simp only [h1, if_false] at hi
        cases h2 : p m
        · simp [h2] at hi
          obtain rfl : i = m := by omega
          exact h2
        · simp [h2] at hi; omega
theorem fstN_eq {m k : Nat} {p : Nat → Bool} (hk : k < m) (h1 : p k = true) (h2 : ∀ i, i < k → p i = false) : fstN m p = k := by
  have h3 := fstN_miss (m := m) (p := p)
  have h4 := fstN_le m p
  rcases Nat.lt_trichotomy (fstN m p) k with h | h | h
  · have := fstN_hit (m := m) (p := p) (by omega)
    rw [h2 _ h] at this; cases this
  · exact h
  · have := h3 k h
    rw [h1] at this; cases this
theorem fstN_none {m : Nat} {p : Nat → Bool} (h : ∀ i, i < m → p i = false) : fstN m p = m := by
  have h4 := fstN_le m p
  rcases Nat.lt_or_ge (fstN m p) m with h1 | h1
  · have := fstN_hit h1
    rw [h _ h1] at this; cases this
  · omega
theorem fstN_congr {m : Nat} {p q : Nat → Bool} (h : ∀ i, i < m → p i = q i) : fstN m p = fstN m q := by
  induction m with
  | zero => rfl
  | succ m ih => simp only [fstN, ih (fun i hi => h i (by omega)), h m (by omega)]
/-- a loop that ends early -/
theorem for_exit {ρ : Type} (F : Nat → Nat → Option ρ) (R : Nat → Option ρ) (E : Option ρ) (m : Nat) (p : Nat → Bool) (step : ∀ f i, i < m → p i = false → F (f + 1) i = F f (i + 1)) (hit : ∀ f i, i < m → p i = true → F (f + 1) i = R i) (stop : ∀ f, F (f + 1) m = E) : ∀ (f i : Nat), i ≤ m → m < f + i → (∀ j, j < i → p j = false) → F f i = if fstN m p < m then R (fstN m p) else E := by
  intro f
  induction f with
  | zero => intro i h1 h2; omega
  | succ f ih =>
    intro i h1 h2 h3
    by_cases h : i < m
    · cases hp : p i
      · rw [step f i h hp]
        refine ih (i + 1) (by omega) (by omega) (fun j hj => ?_)
        by_cases e : j = i
        · rw [e]; exact hp
        · exact h3 j (by omega)
      · have e := fstN_eq h hp h3
        rw [hit f i h hp, e, if_pos h]
    · obtain rfl : i = m := by omega
      rw [stop f, fstN_none h3, if_neg (by omega)]
def ownB (f s : Nat → Nat) (g i : Nat) : Bool := decide (f g = i ∨ s g = i)
def toC (f s e : Nat → Nat) (z t i : Nat) : Nat := cnt z (fun g => ownB f s g i && (decide (t ≤ g) || decide (e g = 2)))
def isO (n : Nat) (f s e : Nat → Nat) (z t i : Nat) : Bool := decide (wonN f s e t i + toC f s e z t i < mxN n (wonN f s e t))
def outN (n : Nat) (f s e : Nat → Nat) (z i : Nat) : Nat := fstN z (fun g => isO n f s e z (g + 1) i)
section
variable {c_firsts : Nat → Int32} {c_goes : Nat → Int32} {c_holds : Nat → Int32} {c_many : Nat → Int32} {c_seconds : Nat → Int32}
variable {N n z pg : Nat} {f s e : Nat → Nat}
theorem wonUpM {i g : Nat} (hN : 100 ≤ N) (hpg : pg < 2) (hk : Gk n z f s e) (hG : Gm pg z f s e c_many c_firsts c_seconds c_goes) (hi : i < n) (hg : g < z) : (fX9_wonUpTo N c_firsts c_goes c_seconds (jI pg) (jI i) (jI g)) = some (jI (wonN f s e (g + 1) i)) := by
  have hn := hk.1
  have hz := hk.2.1
  unfold fX9_wonUpTo
  have key := for_up (fun f j p => (fX9_wonUpTo_6 N c_firsts c_goes c_seconds (jI pg) (jI i) (jI g) f (jI p) (jI j))) (fun p => some (jI p)) (g + 1) (fun j p => p = wonN f s e j i) ?_ ?_ N 0 0 (by omega) (by omega) rfl
  · obtain ⟨p, e1, rfl⟩ := key
    exact e1
  · intro fu j p hj hp
    obtain ⟨k1, k2, k3, k4⟩ := hk.2.2 j (by omega)
    have hc := wonN_le f s e j i
    have hw := winnerM (N := N) (x := j) hpg (by omega) hk hG
    refine ⟨p + (if winr f s e j = i then 1 else 0), ?_, by simp [wonN, cnt, hp]⟩
    subst hp
    by_cases he : e j = 2
    · rw [if_pos he] at hw
      have hx : winr f s e j = 99 := by unfold winr; rw [if_neg (by omega), if_neg (by omega)]
      rw [hx, if_neg (by omega)]
      simp (disch := omega) only [jI_0, jI_1, jI_2, jI_3, jI_4, jI_5, jI_6, jI_7, jI_8, jI_9, jI_10, jI_11, jI_12, jI_13, jI_14, jI_15, jI_16, jI_20, jI_24, jI_26, jI_30, jI_31, jI_32, jI_40, jI_48, jI_56, jI_57, jI_59, jI_60, jI_97, jI_99, jI_122, jI_160, jI_240, jI_255, jI_768, jI_1000, ↓jN_1, ↓jN_2, ↓jN_3, ↓jN_4, ↓jN_8, ↓jN_10, ↓jN_11, ↓jN_12, ↓jN_14, ↓jN_20, jI_addN, jI_le, jI_lt, jI_eq, jI_cl, jI_in, jI_add, jI_sub, jI_eqN, gI_eqI, gI_eqN, gI_leI, gI_ltI, jI_leN, jI_ltN, gI_sub, pif_tt, pif_ff, pg_tt, isB, or_true, true_or, pif_T, pif_F, pg_T, pb_S, upd_e, upd_n, fX9_wonUpTo_6, fX9_wonUpTo_34, fX9_from, jI_mul, hw, gI_eqI]
    · rw [if_neg he] at hw
      have hwn : winr f s e j < n := by unfold winr; split; exact k1; split; exact k2; omega
      by_cases hx : winr f s e j = i
      · rw [if_pos hx]
        simp (disch := omega) only [jI_0, jI_1, jI_2, jI_3, jI_4, jI_5, jI_6, jI_7, jI_8, jI_9, jI_10, jI_11, jI_12, jI_13, jI_14, jI_15, jI_16, jI_20, jI_24, jI_26, jI_30, jI_31, jI_32, jI_40, jI_48, jI_56, jI_57, jI_59, jI_60, jI_97, jI_99, jI_122, jI_160, jI_240, jI_255, jI_768, jI_1000, ↓jN_1, ↓jN_2, ↓jN_3, ↓jN_4, ↓jN_8, ↓jN_10, ↓jN_11, ↓jN_12, ↓jN_14, ↓jN_20, jI_addN, jI_le, jI_lt, jI_eq, jI_cl, jI_in, jI_add, jI_sub, jI_eqN, gI_eqI, gI_eqN, gI_leI, gI_ltI, jI_leN, jI_ltN, gI_sub, pif_tt, pif_ff, pg_tt, isB, or_true, true_or, pif_T, pif_F, pg_T, pb_S, upd_e, upd_n, fX9_wonUpTo_6, fX9_wonUpTo_34, fX9_from, jI_mul, hw]
      · rw [if_neg hx]
        simp (disch := omega) only [jI_0, jI_1, jI_2, jI_3, jI_4, jI_5, jI_6, jI_7, jI_8, jI_9, jI_10, jI_11, jI_12, jI_13, jI_14, jI_15, jI_16, jI_20, jI_24, jI_26, jI_30, jI_31, jI_32, jI_40, jI_48, jI_56, jI_57, jI_59, jI_60, jI_97, jI_99, jI_122, jI_160, jI_240, jI_255, jI_768, jI_1000, ↓jN_1, ↓jN_2, ↓jN_3, ↓jN_4, ↓jN_8, ↓jN_10, ↓jN_11, ↓jN_12, ↓jN_14, ↓jN_20, jI_addN, jI_le, jI_lt, jI_eq, jI_cl, jI_in, jI_add, jI_sub, jI_eqN, gI_eqI, gI_eqN, gI_leI, gI_ltI, jI_leN, jI_ltN, gI_sub, pif_tt, pif_ff, pg_tt, isB, or_true, true_or, pif_T, pif_F, pg_T, pb_S, upd_e, upd_n, fX9_wonUpTo_6, fX9_wonUpTo_34, fX9_from, jI_mul, hw]
  · intro fu p hp
    simp (disch := omega) only [jI_0, jI_1, jI_2, jI_3, jI_4, jI_5, jI_6, jI_7, jI_8, jI_9, jI_10, jI_11, jI_12, jI_13, jI_14, jI_15, jI_16, jI_20, jI_24, jI_26, jI_30, jI_31, jI_32, jI_40, jI_48, jI_56, jI_57, jI_59, jI_60, jI_97, jI_99, jI_122, jI_160, jI_240, jI_255, jI_768, jI_1000, ↓jN_1, ↓jN_2, ↓jN_3, ↓jN_4, ↓jN_8, ↓jN_10, ↓jN_11, ↓jN_12, ↓jN_14, ↓jN_20, jI_addN, jI_le, jI_lt, jI_eq, jI_cl, jI_in, jI_add, jI_sub, jI_eqN, gI_eqI, gI_eqN, gI_leI, gI_ltI, jI_leN, jI_ltN, gI_sub, pif_tt, pif_ff, pg_tt, isB, or_true, true_or, pif_T, pif_F, pg_T, pb_S, upd_e, upd_n, fX9_wonUpTo_6]
theorem toComeM {i g : Nat} (hN : 100 ≤ N) (hpg : pg < 2) (hk : Gk n z f s e) (hG : Gm pg z f s e c_many c_firsts c_seconds c_goes) (hi : i < n) (hg : g < z) : (fX9_toCome N c_firsts c_goes c_many c_seconds (jI pg) (jI i) (jI g)) = some (jI (toC f s e z (g + 1) i)) := by
  have hn := hk.1
  have hz := hk.2.1
  have hm := hG.1
  unfold fX9_toCome
  have key := for_up (fun f j p => (fX9_toCome_6 N c_firsts c_goes c_many c_seconds (jI pg) (jI i) (jI g) f (jI p) (jI j))) (fun p => some (jI p)) z (fun j p => p = cnt j (fun q => ownB f s q i && (decide (g + 1 ≤ q) || decide (e q = 2)))) ?_ ?_ N 0 0 (by omega) (by omega) rfl
  · obtain ⟨p, e1, rfl⟩ := key
    exact e1
  · intro fu j p hj hp
    obtain ⟨k1, k2, k3, k4⟩ := hk.2.2 j (by omega)
    obtain ⟨g1, g2, g3⟩ := hG.2 j hj
    have hc := cnt_le j (fun q => ownB f s q i && (decide (g + 1 ≤ q) || decide (e q = 2)))
    refine ⟨p + (if (ownB f s j i && (decide (g + 1 ≤ j) || decide (e j = 2))) = true then 1 else 0), ?_, by simp only [cnt, hp]⟩
    rw [← hp] at hc
    by_cases h1 : f j = i ∨ s j = i
    · have h1' : ownB f s j i = true := by simp [ownB, h1]
      by_cases h2 : g + 1 ≤ j
      · rw [if_pos (by simp [h1', h2])]
        by_cases h3 : f j = i
        · simp (disch := omega) only [jI_0, jI_1, jI_2, jI_3, jI_4, jI_5, jI_6, jI_7, jI_8, jI_9, jI_10, jI_11, jI_12, jI_13, jI_14, jI_15, jI_16, jI_20, jI_24, jI_26, jI_30, jI_31, jI_32, jI_40, jI_48, jI_56, jI_57, jI_59, jI_60, jI_97, jI_99, jI_122, jI_160, jI_240, jI_255, jI_768, jI_1000, ↓jN_1, ↓jN_2, ↓jN_3, ↓jN_4, ↓jN_8, ↓jN_10, ↓jN_11, ↓jN_12, ↓jN_14, ↓jN_20, jI_addN, jI_le, jI_lt, jI_eq, jI_cl, jI_in, jI_add, jI_sub, jI_eqN, gI_eqI, gI_eqN, gI_leI, gI_ltI, jI_leN, jI_ltN, gI_sub, pif_tt, pif_ff, pg_tt, isB, or_true, true_or, pif_T, pif_F, pg_T, pb_S, upd_e, upd_n, fX9_toCome_6, fX9_toCome_48, fX9_toCome_53, fX9_toCome_79, fX9_toCome_84, fX9_from, jI_mul, hm, g1, g2, g3]
        · simp (disch := omega) only [jI_0, jI_1, jI_2, jI_3, jI_4, jI_5, jI_6, jI_7, jI_8, jI_9, jI_10, jI_11, jI_12, jI_13, jI_14, jI_15, jI_16, jI_20, jI_24, jI_26, jI_30, jI_31, jI_32, jI_40, jI_48, jI_56, jI_57, jI_59, jI_60, jI_97, jI_99, jI_122, jI_160, jI_240, jI_255, jI_768, jI_1000, ↓jN_1, ↓jN_2, ↓jN_3, ↓jN_4, ↓jN_8, ↓jN_10, ↓jN_11, ↓jN_12, ↓jN_14, ↓jN_20, jI_addN, jI_le, jI_lt, jI_eq, jI_cl, jI_in, jI_add, jI_sub, jI_eqN, gI_eqI, gI_eqN, gI_leI, gI_ltI, jI_leN, jI_ltN, gI_sub, pif_tt, pif_ff, pg_tt, isB, or_true, true_or, pif_T, pif_F, pg_T, pb_S, upd_e, upd_n, fX9_toCome_6, fX9_toCome_48, fX9_toCome_53, fX9_toCome_79, fX9_toCome_84, fX9_from, jI_mul, hm, g1, g2, g3]
      · by_cases h4 : e j = 2
        · rw [if_pos (by simp [h1', h4])]
          by_cases h3 : f j = i
          · simp (disch := omega) only [jI_0, jI_1, jI_2, jI_3, jI_4, jI_5, jI_6, jI_7, jI_8, jI_9, jI_10, jI_11, jI_12, jI_13, jI_14, jI_15, jI_16, jI_20, jI_24, jI_26, jI_30, jI_31, jI_32, jI_40, jI_48, jI_56, jI_57, jI_59, jI_60, jI_97, jI_99, jI_122, jI_160, jI_240, jI_255, jI_768, jI_1000, ↓jN_1, ↓jN_2, ↓jN_3, ↓jN_4, ↓jN_8, ↓jN_10, ↓jN_11, ↓jN_12, ↓jN_14, ↓jN_20, jI_addN, jI_le, jI_lt, jI_eq, jI_cl, jI_in, jI_add, jI_sub, jI_eqN, gI_eqI, gI_eqN, gI_leI, gI_ltI, jI_leN, jI_ltN, gI_sub, pif_tt, pif_ff, pg_tt, isB, or_true, true_or, pif_T, pif_F, pg_T, pb_S, upd_e, upd_n, fX9_toCome_6, fX9_toCome_48, fX9_toCome_53, fX9_toCome_79, fX9_toCome_84, fX9_from, jI_mul, hm, g1, g2, g3]
          · simp (disch := omega) only [jI_0, jI_1, jI_2, jI_3, jI_4, jI_5, jI_6, jI_7, jI_8, jI_9, jI_10, jI_11, jI_12, jI_13, jI_14, jI_15, jI_16, jI_20, jI_24, jI_26, jI_30, jI_31, jI_32, jI_40, jI_48, jI_56, jI_57, jI_59, jI_60, jI_97, jI_99, jI_122, jI_160, jI_240, jI_255, jI_768, jI_1000, ↓jN_1, ↓jN_2, ↓jN_3, ↓jN_4, ↓jN_8, ↓jN_10, ↓jN_11, ↓jN_12, ↓jN_14, ↓jN_20, jI_addN, jI_le, jI_lt, jI_eq, jI_cl, jI_in, jI_add, jI_sub, jI_eqN, gI_eqI, gI_eqN, gI_leI, gI_ltI, jI_leN, jI_ltN, gI_sub, pif_tt, pif_ff, pg_tt, isB, or_true, true_or, pif_T, pif_F, pg_T, pb_S, upd_e, upd_n, fX9_toCome_6, fX9_toCome_48, fX9_toCome_53, fX9_toCome_79, fX9_toCome_84, fX9_from, jI_mul, hm, g1, g2, g3]
        · rw [if_neg (by simp [h2, h4])]
          by_cases h3 : f j = i
          · simp (disch := omega) only [jI_0, jI_1, jI_2, jI_3, jI_4, jI_5, jI_6, jI_7, jI_8, jI_9, jI_10, jI_11, jI_12, jI_13, jI_14, jI_15, jI_16, jI_20, jI_24, jI_26, jI_30, jI_31, jI_32, jI_40, jI_48, jI_56, jI_57, jI_59, jI_60, jI_97, jI_99, jI_122, jI_160, jI_240, jI_255, jI_768, jI_1000, ↓jN_1, ↓jN_2, ↓jN_3, ↓jN_4, ↓jN_8, ↓jN_10, ↓jN_11, ↓jN_12, ↓jN_14, ↓jN_20, jI_addN, jI_le, jI_lt, jI_eq, jI_cl, jI_in, jI_add, jI_sub, jI_eqN, gI_eqI, gI_eqN, gI_leI, gI_ltI, jI_leN, jI_ltN, gI_sub, pif_tt, pif_ff, pg_tt, isB, or_true, true_or, pif_T, pif_F, pg_T, pb_S, upd_e, upd_n, fX9_toCome_6, fX9_toCome_48, fX9_toCome_53, fX9_toCome_83, fX9_toCome_84, fX9_from, jI_mul, hm, g1, g2, g3]
          · simp (disch := omega) only [jI_0, jI_1, jI_2, jI_3, jI_4, jI_5, jI_6, jI_7, jI_8, jI_9, jI_10, jI_11, jI_12, jI_13, jI_14, jI_15, jI_16, jI_20, jI_24, jI_26, jI_30, jI_31, jI_32, jI_40, jI_48, jI_56, jI_57, jI_59, jI_60, jI_97, jI_99, jI_122, jI_160, jI_240, jI_255, jI_768, jI_1000, ↓jN_1, ↓jN_2, ↓jN_3, ↓jN_4, ↓jN_8, ↓jN_10, ↓jN_11, ↓jN_12, ↓jN_14, ↓jN_20, jI_addN, jI_le, jI_lt, jI_eq, jI_cl, jI_in, jI_add, jI_sub, jI_eqN, gI_eqI, gI_eqN, gI_leI, gI_ltI, jI_leN, jI_ltN, gI_sub, pif_tt, pif_ff, pg_tt, isB, or_true, true_or, pif_T, pif_F, pg_T, pb_S, upd_e, upd_n, fX9_toCome_6, fX9_toCome_48, fX9_toCome_53, fX9_toCome_83, fX9_toCome_84, fX9_from, jI_mul, hm, g1, g2, g3]
    · have h1' : ownB f s j i = false := by simp [ownB]; omega
      rw [if_neg (by simp [h1'])]
      simp (disch := omega) only [jI_0, jI_1, jI_2, jI_3, jI_4, jI_5, jI_6, jI_7, jI_8, jI_9, jI_10, jI_11, jI_12, jI_13, jI_14, jI_15, jI_16, jI_20, jI_24, jI_26, jI_30, jI_31, jI_32, jI_40, jI_48, jI_56, jI_57, jI_59, jI_60, jI_97, jI_99, jI_122, jI_160, jI_240, jI_255, jI_768, jI_1000, ↓jN_1, ↓jN_2, ↓jN_3, ↓jN_4, ↓jN_8, ↓jN_10, ↓jN_11, ↓jN_12, ↓jN_14, ↓jN_20, jI_addN, jI_le, jI_lt, jI_eq, jI_cl, jI_in, jI_add, jI_sub, jI_eqN, gI_eqI, gI_eqN, gI_leI, gI_ltI, jI_leN, jI_ltN, gI_sub, pif_tt, pif_ff, pg_tt, isB, or_true, true_or, pif_T, pif_F, pg_T, pb_S, upd_e, upd_n, fX9_toCome_6, fX9_toCome_48, fX9_toCome_53, fX9_toCome_83, fX9_toCome_84, fX9_from, jI_mul, hm, g1, g2, g3]
  · intro fu p hp
    simp (disch := omega) only [jI_0, jI_1, jI_2, jI_3, jI_4, jI_5, jI_6, jI_7, jI_8, jI_9, jI_10, jI_11, jI_12, jI_13, jI_14, jI_15, jI_16, jI_20, jI_24, jI_26, jI_30, jI_31, jI_32, jI_40, jI_48, jI_56, jI_57, jI_59, jI_60, jI_97, jI_99, jI_122, jI_160, jI_240, jI_255, jI_768, jI_1000, ↓jN_1, ↓jN_2, ↓jN_3, ↓jN_4, ↓jN_8, ↓jN_10, ↓jN_11, ↓jN_12, ↓jN_14, ↓jN_20, jI_addN, jI_le, jI_lt, jI_eq, jI_cl, jI_in, jI_add, jI_sub, jI_eqN, gI_eqI, gI_eqN, gI_leI, gI_ltI, jI_leN, jI_ltN, gI_sub, pif_tt, pif_ff, pg_tt, isB, or_true, true_or, pif_T, pif_F, pg_T, pb_S, upd_e, upd_n, fX9_toCome_6, hm]
theorem outOf_32 {i g b : Nat} (k2 : Int32 → Option Int32) (hN : 100 ≤ N) (hpg : pg < 2) (hh : c_holds 0 = jI n) (hk : Gk n z f s e) (hG : Gm pg z f s e c_many c_firsts c_seconds c_goes) (hi : i < n) (hg : g < z) (hb : wonN f s e (g + 1) i ≤ b) (hb2 : b ≤ 100) : (fX9_outOf_32 N c_firsts c_goes c_holds c_many c_seconds (jI pg) (jI i) k2 N (jI g) (jI b) 0) = if b < mxN n (wonN f s e (g + 1)) then some (jI g) else k2 (jI (g + 1)) := by
  have hn := hk.1
  have hz := hk.2.1
  have hs := sidesM (N := N) hh
  have key := for_exit (fun f j => (fX9_outOf_32 N c_firsts c_goes c_holds c_many c_seconds (jI pg) (jI i) k2 f (jI g) (jI b) (jI j))) (fun _ => some (jI g)) (k2 (jI (g + 1))) n (fun j => decide (b < wonN f s e (g + 1) j)) ?_ ?_ ?_ N 0 (by omega) (by omega) (fun j h => by omega)
  · refine key.trans ?_
    have : (fstN n (fun j => decide (b < wonN f s e (g + 1) j)) < n) ↔ b < mxN n (wonN f s e (g + 1)) := by
      rw [mxN_lt]
      constructor
      · intro h
        exact ⟨_, h, by simpa using fstN_hit h⟩
      · intro ⟨j, hj, h⟩
        apply Decidable.byContradiction
        intro hc
        have := fstN_miss (m := n) (p := fun j => decide (b < wonN f s e (g + 1) j)) j (by omega)
        simp at this; omega
    simp only [this]
  · intro fu j hj hp
    have hw := wonUpM (N := N) hN hpg hk hG hj hg
    have hwl := wonN_le f s e (g + 1) j
    simp only [decide_eq_false_iff_not] at hp
    by_cases e : j = i
    · simp (disch := omega) only [jI_0, jI_1, jI_2, jI_3, jI_4, jI_5, jI_6, jI_7, jI_8, jI_9, jI_10, jI_11, jI_12, jI_13, jI_14, jI_15, jI_16, jI_20, jI_24, jI_26, jI_30, jI_31, jI_32, jI_40, jI_48, jI_56, jI_57, jI_59, jI_60, jI_97, jI_99, jI_122, jI_160, jI_240, jI_255, jI_768, jI_1000, ↓jN_1, ↓jN_2, ↓jN_3, ↓jN_4, ↓jN_8, ↓jN_10, ↓jN_11, ↓jN_12, ↓jN_14, ↓jN_20, jI_addN, jI_le, jI_lt, jI_eq, jI_cl, jI_in, jI_add, jI_sub, jI_eqN, gI_eqI, gI_eqN, gI_leI, gI_ltI, jI_leN, jI_ltN, gI_sub, pif_tt, pif_ff, pg_tt, isB, or_true, true_or, pif_T, pif_F, pg_T, pb_S, upd_e, upd_n, fX9_outOf_32, fX9_outOf_62, hs]
    · simp (disch := omega) only [jI_0, jI_1, jI_2, jI_3, jI_4, jI_5, jI_6, jI_7, jI_8, jI_9, jI_10, jI_11, jI_12, jI_13, jI_14, jI_15, jI_16, jI_20, jI_24, jI_26, jI_30, jI_31, jI_32, jI_40, jI_48, jI_56, jI_57, jI_59, jI_60, jI_97, jI_99, jI_122, jI_160, jI_240, jI_255, jI_768, jI_1000, ↓jN_1, ↓jN_2, ↓jN_3, ↓jN_4, ↓jN_8, ↓jN_10, ↓jN_11, ↓jN_12, ↓jN_14, ↓jN_20, jI_addN, jI_le, jI_lt, jI_eq, jI_cl, jI_in, jI_add, jI_sub, jI_eqN, gI_eqI, gI_eqN, gI_leI, gI_ltI, jI_leN, jI_ltN, gI_sub, pif_tt, pif_ff, pg_tt, isB, or_true, true_or, pif_T, pif_F, pg_T, pb_S, upd_e, upd_n, fX9_outOf_32, fX9_outOf_62, hs, hw]
  · intro fu j hj hp
    have hw := wonUpM (N := N) hN hpg hk hG hj hg
    have hwl := wonN_le f s e (g + 1) j
    simp only [decide_eq_true_eq] at hp
    have e : ¬ j = i := by intro e; rw [e] at hp; omega
    simp (disch := omega) only [jI_0, jI_1, jI_2, jI_3, jI_4, jI_5, jI_6, jI_7, jI_8, jI_9, jI_10, jI_11, jI_12, jI_13, jI_14, jI_15, jI_16, jI_20, jI_24, jI_26, jI_30, jI_31, jI_32, jI_40, jI_48, jI_56, jI_57, jI_59, jI_60, jI_97, jI_99, jI_122, jI_160, jI_240, jI_255, jI_768, jI_1000, ↓jN_1, ↓jN_2, ↓jN_3, ↓jN_4, ↓jN_8, ↓jN_10, ↓jN_11, ↓jN_12, ↓jN_14, ↓jN_20, jI_addN, jI_le, jI_lt, jI_eq, jI_cl, jI_in, jI_add, jI_sub, jI_eqN, gI_eqI, gI_eqN, gI_leI, gI_ltI, jI_leN, jI_ltN, gI_sub, pif_tt, pif_ff, pg_tt, isB, or_true, true_or, pif_T, pif_F, pg_T, pb_S, upd_e, upd_n, fX9_outOf_32, fX9_outOf_62, hs, hw]
  · intro fu
    simp (disch := omega) only [jI_0, jI_1, jI_2, jI_3, jI_4, jI_5, jI_6, jI_7, jI_8, jI_9, jI_10, jI_11, jI_12, jI_13, jI_14, jI_15, jI_16, jI_20, jI_24, jI_26, jI_30, jI_31, jI_32, jI_40, jI_48, jI_56, jI_57, jI_59, jI_60, jI_97, jI_99, jI_122, jI_160, jI_240, jI_255, jI_768, jI_1000, ↓jN_1, ↓jN_2, ↓jN_3, ↓jN_4, ↓jN_8, ↓jN_10, ↓jN_11, ↓jN_12, ↓jN_14, ↓jN_20, jI_addN, jI_le, jI_lt, jI_eq, jI_cl, jI_in, jI_add, jI_sub, jI_eqN, gI_eqI, gI_eqN, gI_leI, gI_ltI, jI_leN, jI_ltN, gI_sub, pif_tt, pif_ff, pg_tt, isB, or_true, true_or, pif_T, pif_F, pg_T, pb_S, upd_e, upd_n, fX9_outOf_32, hs]
theorem outOfM {i : Nat} (hN : 100 ≤ N) (hpg : pg < 2) (hh : c_holds 0 = jI n) (hk : Gk n z f s e) (hG : Gm pg z f s e c_many c_firsts c_seconds c_goes) (hi : i < n) : (fX9_outOf N c_firsts c_goes c_holds c_many c_seconds (jI pg) (jI i)) = some (if outN n f s e z i < z then jI (outN n f s e z i) else gI 4) := by
  have hn := hk.1
  have hz := hk.2.1
  have hm := hG.1
  unfold fX9_outOf
  have key := for_exit (fun f j => (fX9_outOf_2 N c_firsts c_goes c_holds c_many c_seconds (jI pg) (jI i) f (jI j))) (fun j => some (jI j)) (some (gI 4)) z (fun g => isO n f s e z (g + 1) i) ?_ ?_ ?_ N 0 (by omega) (by omega) (fun j h => by omega)
  · refine key.trans ?_
    unfold outN
    split <;> rfl
  · intro fu j hj hp
    have hw := wonUpM (N := N) hN hpg hk hG hi hj
    have hwl := wonN_le f s e (j + 1) i
    have ht := toComeM (N := N) hN hpg hk hG hi hj
    have htl : toC f s e z (j + 1) i ≤ z := cnt_le _ _
    have h32 := outOf_32 (N := N) (b := wonN f s e (j + 1) i + toC f s e z (j + 1) i) (fX9_outOf_2 N c_firsts c_goes c_holds c_many c_seconds (jI pg) (jI i) fu) hN hpg hh hk hG hi hj (by omega) (by omega)
    simp only [isO, decide_eq_false_iff_not] at hp
    rw [if_neg hp] at h32
    show fX9_outOf_2 N c_firsts c_goes c_holds c_many c_seconds (jI pg) (jI i) (fu + 1) (jI j) = fX9_outOf_2 N c_firsts c_goes c_holds c_many c_seconds (jI pg) (jI i) fu (jI (j + 1))
    rw [← h32]
    simp (disch := omega) only [jI_0, jI_1, jI_2, jI_3, jI_4, jI_5, jI_6, jI_7, jI_8, jI_9, jI_10, jI_11, jI_12, jI_13, jI_14, jI_15, jI_16, jI_20, jI_24, jI_26, jI_30, jI_31, jI_32, jI_40, jI_48, jI_56, jI_57, jI_59, jI_60, jI_97, jI_99, jI_122, jI_160, jI_240, jI_255, jI_768, jI_1000, ↓jN_1, ↓jN_2, ↓jN_3, ↓jN_4, ↓jN_8, ↓jN_10, ↓jN_11, ↓jN_12, ↓jN_14, ↓jN_20, jI_addN, jI_le, jI_lt, jI_eq, jI_cl, jI_in, jI_add, jI_sub, jI_eqN, gI_eqI, gI_eqN, gI_leI, gI_ltI, jI_leN, jI_ltN, gI_sub, pif_tt, pif_ff, pg_tt, isB, or_true, true_or, pif_T, pif_F, pg_T, pb_S, upd_e, upd_n, fX9_outOf_2, hw, ht, hm]
  · intro fu j hj hp
    have hw := wonUpM (N := N) hN hpg hk hG hi hj
    have hwl := wonN_le f s e (j + 1) i
    have ht := toComeM (N := N) hN hpg hk hG hi hj
    have htl : toC f s e z (j + 1) i ≤ z := cnt_le _ _
    have h32 := outOf_32 (N := N) (b := wonN f s e (j + 1) i + toC f s e z (j + 1) i) (fX9_outOf_2 N c_firsts c_goes c_holds c_many c_seconds (jI pg) (jI i) fu) hN hpg hh hk hG hi hj (by omega) (by omega)
    simp only [isO, decide_eq_true_eq] at hp
    rw [if_pos hp] at h32
    show fX9_outOf_2 N c_firsts c_goes c_holds c_many c_seconds (jI pg) (jI i) (fu + 1) (jI j) = some (jI j)
    rw [← h32]
    simp (disch := omega) only [jI_0, jI_1, jI_2, jI_3, jI_4, jI_5, jI_6, jI_7, jI_8, jI_9, jI_10, jI_11, jI_12, jI_13, jI_14, jI_15, jI_16, jI_20, jI_24, jI_26, jI_30, jI_31, jI_32, jI_40, jI_48, jI_56, jI_57, jI_59, jI_60, jI_97, jI_99, jI_122, jI_160, jI_240, jI_255, jI_768, jI_1000, ↓jN_1, ↓jN_2, ↓jN_3, ↓jN_4, ↓jN_8, ↓jN_10, ↓jN_11, ↓jN_12, ↓jN_14, ↓jN_20, jI_addN, jI_le, jI_lt, jI_eq, jI_cl, jI_in, jI_add, jI_sub, jI_eqN, gI_eqI, gI_eqN, gI_leI, gI_ltI, jI_leN, jI_ltN, gI_sub, pif_tt, pif_ff, pg_tt, isB, or_true, true_or, pif_T, pif_F, pg_T, pb_S, upd_e, upd_n, fX9_outOf_2, hw, ht, hm]
  · intro fu
    simp (disch := omega) only [jI_0, jI_1, jI_2, jI_3, jI_4, jI_5, jI_6, jI_7, jI_8, jI_9, jI_10, jI_11, jI_12, jI_13, jI_14, jI_15, jI_16, jI_20, jI_24, jI_26, jI_30, jI_31, jI_32, jI_40, jI_48, jI_56, jI_57, jI_59, jI_60, jI_97, jI_99, jI_122, jI_160, jI_240, jI_255, jI_768, jI_1000, ↓jN_1, ↓jN_2, ↓jN_3, ↓jN_4, ↓jN_8, ↓jN_10, ↓jN_11, ↓jN_12, ↓jN_14, ↓jN_20, jI_addN, jI_le, jI_lt, jI_eq, jI_cl, jI_in, jI_add, jI_sub, jI_eqN, gI_eqI, gI_eqN, gI_leI, gI_ltI, jI_leN, jI_ltN, gI_sub, pif_tt, pif_ff, pg_tt, isB, or_true, true_or, pif_T, pif_F, pg_T, pb_S, upd_e, upd_n, fX9_outOf_2, hm]
end
