/-! Whole numbers of the machine that are natural ones; loops that count up. -/
def jI (k : Nat) : Int32 := Int32.ofNat k
def jL (k : Nat) : Int64 := Int64.ofNat k
theorem jI_toInt {a : Nat} (h : a < 2147483648) : (jI a).toInt = a := Int32.toInt_ofNat_of_lt h
theorem jI_le {a b : Nat} (ha : a < 2147483648) (hb : b < 2147483648) : (jI a ≤ jI b) = (a ≤ b) := by
  rw [Int32.le_iff_toInt_le, jI_toInt ha, jI_toInt hb]; simp
theorem jI_lt {a b : Nat} (ha : a < 2147483648) (hb : b < 2147483648) : (jI a < jI b) = (a < b) := by
  rw [Int32.lt_iff_toInt_lt, jI_toInt ha, jI_toInt hb]; simp
theorem jI_eq {a b : Nat} (ha : a < 2147483648) (hb : b < 2147483648) : (jI a = jI b) = (a = b) := by
  rw [← Int32.toInt_inj, jI_toInt ha, jI_toInt hb, eq_iff_iff]; omega
theorem jI_cl {a : Nat} (ha : a < 2147483648) : (jI a).toNatClampNeg = a := Int32.toNatClampNeg_ofNat_of_lt ha
theorem jI_add (a b : Nat) : jI a + jI b = jI (a + b) := (Int32.ofNat_add a b).symm
theorem jI_sub {a b : Nat} (h : b ≤ a) : jI a - jI b = jI (a - b) := (Int32.ofNat_sub a b h).symm
theorem jI_mul (a b : Nat) : jI a * jI b = jI (a * b) := (Int32.ofNat_mul a b).symm
theorem jI_div {a b : Nat} (ha : a < 2147483648) (hb : b < 2147483648) : jI a / jI b = jI (a / b) := (Int32.ofNat_div ha hb).symm
theorem jI_rem {a b : Nat} (ha : a < 2147483648) (hb : b < 2147483648) : jI a - jI a / jI b * jI b = jI (a % b) := by
  rw [jI_div ha hb, jI_mul, jI_sub (Nat.div_mul_le_self a b)]
  congr 1
  have := Nat.div_add_mod a b
  rw [Nat.mul_comm] at this
  omega
theorem jI_neg {a : Nat} (ha : a < 2147483648) : (jI a < jI 0) = False := by
  rw [jI_lt ha (by omega)]; simp
theorem jI_in {a n : Nat} (ha : a < 2147483648) : (inr (jI a) n) = (a < n) := by
  have h0 : ¬ jI a < 0 := by
    show ¬ jI a < jI 0
    rw [jI_lt ha (by omega)]; omega
  simp only [inr, h0, jI_cl ha, false_or, Nat.not_le]
theorem jI_L {a : Nat} (ha : a < 2147483648) : (jI a).toInt64 = jL a := Int32.toInt64_ofNat' (by
  have : Int32.maxValue.toInt = 2147483647 := by decide
  omega)
theorem jL_I (a : Nat) : (jL a).toInt32 = jI a := Int64.toInt32_ofNat'
theorem jL_toInt {a : Nat} (h : a < 9223372036854775808) : (jL a).toInt = a := Int64.toInt_ofNat_of_lt h
theorem jL_le {a b : Nat} (ha : a < 9223372036854775808) (hb : b < 9223372036854775808) : (jL a ≤ jL b) = (a ≤ b) := by
  rw [Int64.le_iff_toInt_le, jL_toInt ha, jL_toInt hb]; simp
theorem jL_lt {a b : Nat} (ha : a < 9223372036854775808) (hb : b < 9223372036854775808) : (jL a < jL b) = (a < b) := by
  rw [Int64.lt_iff_toInt_lt, jL_toInt ha, jL_toInt hb]; simp
theorem jL_eq {a b : Nat} (ha : a < 9223372036854775808) (hb : b < 9223372036854775808) : (jL a = jL b) = (a = b) := by
  rw [← Int64.toInt_inj, jL_toInt ha, jL_toInt hb, eq_iff_iff]; omega
theorem jL_add (a b : Nat) : jL a + jL b = jL (a + b) := (Int64.ofNat_add a b).symm
theorem jL_sub {a b : Nat} (h : b ≤ a) : jL a - jL b = jL (a - b) := (Int64.ofNat_sub a b h).symm
theorem jL_mul (a b : Nat) : jL a * jL b = jL (a * b) := (Int64.ofNat_mul a b).symm
theorem jL_div {a b : Nat} (ha : a < 9223372036854775808) (hb : b < 9223372036854775808) : jL a / jL b = jL (a / b) := (Int64.ofNat_div ha hb).symm
theorem jL_rem {a b : Nat} (ha : a < 9223372036854775808) (hb : b < 9223372036854775808) : jL a - jL a / jL b * jL b = jL (a % b) := by
  rw [jL_div ha hb, jL_mul, jL_sub (Nat.div_mul_le_self a b)]
  congr 1
  have := Nat.div_add_mod a b
  rw [Nat.mul_comm] at this
  omega
theorem jL_cmp {a b : Nat} (ha : a < 9223372036854775808) (hb : b < 9223372036854775808) : lg_cmp (jL a) (jL b) = if b < a then 1 else if a = b then 0 else -1 := by
  simp only [lg_cmp, gt_iff_lt, jL_lt hb ha, jL_eq ha hb]
/-- negative ones -/
def gI (k : Nat) : Int32 := -(jI k)
theorem gI_toInt {a : Nat} (h : a < 2147483648) : (gI a).toInt = -(a : Int) := by
  unfold gI
  rw [Int32.toInt_neg, jI_toInt h, Int.bmod_eq_of_le] <;> omega
theorem jN_1 : (-1 : Int32) = gI 1 := rfl
theorem jN_2 : (-2 : Int32) = gI 2 := rfl
theorem jN_3 : (-3 : Int32) = gI 3 := rfl
theorem jN_4 : (-4 : Int32) = gI 4 := rfl
theorem jN_8 : (-8 : Int32) = gI 8 := rfl
theorem jN_10 : (-10 : Int32) = gI 10 := rfl
theorem jN_11 : (-11 : Int32) = gI 11 := rfl
theorem jN_12 : (-12 : Int32) = gI 12 := rfl
theorem jN_14 : (-14 : Int32) = gI 14 := rfl
theorem jN_20 : (-20 : Int32) = gI 20 := rfl
theorem jI_addN {a b : Nat} (h : b ≤ a) : jI a + gI b = jI (a - b) := by
  unfold gI
  rw [← jI_sub h, Int32.sub_eq_add_neg]
theorem gI_sub (a b : Nat) : gI a - jI b = gI (a + b) := by
  unfold gI
  rw [← jI_add, Int32.sub_eq_add_neg, Int32.neg_add, Int32.sub_eq_add_neg]
theorem jI_eqN {a b : Nat} (ha : a < 2147483648) (hb : b < 2147483648) : (jI a = gI b) = (a = 0 ∧ b = 0) := by
  rw [← Int32.toInt_inj, jI_toInt ha, gI_toInt hb, eq_iff_iff]; omega
theorem gI_eqI {a b : Nat} (ha : a < 2147483648) (hb : b < 2147483648) : (gI a = jI b) = (a = 0 ∧ b = 0) := by
  rw [← Int32.toInt_inj, jI_toInt hb, gI_toInt ha, eq_iff_iff]; omega
theorem gI_eqN {a b : Nat} (ha : a < 2147483648) (hb : b < 2147483648) : (gI a = gI b) = (a = b) := by
  rw [← Int32.toInt_inj, gI_toInt hb, gI_toInt ha, eq_iff_iff]; omega
theorem gI_leI {a b : Nat} (ha : a < 2147483648) (hb : b < 2147483648) : (gI a ≤ jI b) = True := by
  rw [Int32.le_iff_toInt_le, jI_toInt hb, gI_toInt ha, eq_iff_iff]; simp
theorem gI_ltI {a b : Nat} (ha : a < 2147483648) (hb : b < 2147483648) : (gI a < jI b) = (0 < a + b) := by
  rw [Int32.lt_iff_toInt_lt, jI_toInt hb, gI_toInt ha, eq_iff_iff]; omega
theorem jI_leN {a b : Nat} (ha : a < 2147483648) (hb : b < 2147483648) : (jI a ≤ gI b) = (a = 0 ∧ b = 0) := by
  rw [Int32.le_iff_toInt_le, jI_toInt ha, gI_toInt hb, eq_iff_iff]; omega
theorem jI_ltN {a b : Nat} (ha : a < 2147483648) (hb : b < 2147483648) : (jI a < gI b) = False := by
  rw [Int32.lt_iff_toInt_lt, jI_toInt ha, gI_toInt hb, eq_iff_iff]; simp
theorem jI_0 : (0 : Int32) = jI 0 := rfl
theorem jI_1 : (1 : Int32) = jI 1 := rfl
theorem jI_2 : (2 : Int32) = jI 2 := rfl
theorem jI_3 : (3 : Int32) = jI 3 := rfl
theorem jI_4 : (4 : Int32) = jI 4 := rfl
theorem jI_5 : (5 : Int32) = jI 5 := rfl
theorem jI_6 : (6 : Int32) = jI 6 := rfl
theorem jI_7 : (7 : Int32) = jI 7 := rfl
theorem jI_8 : (8 : Int32) = jI 8 := rfl
theorem jI_9 : (9 : Int32) = jI 9 := rfl
theorem jI_10 : (10 : Int32) = jI 10 := rfl
theorem jI_11 : (11 : Int32) = jI 11 := rfl
theorem jI_12 : (12 : Int32) = jI 12 := rfl
theorem jI_13 : (13 : Int32) = jI 13 := rfl
theorem jI_14 : (14 : Int32) = jI 14 := rfl
theorem jI_15 : (15 : Int32) = jI 15 := rfl
theorem jI_16 : (16 : Int32) = jI 16 := rfl
theorem jI_20 : (20 : Int32) = jI 20 := rfl
theorem jI_24 : (24 : Int32) = jI 24 := rfl
theorem jI_26 : (26 : Int32) = jI 26 := rfl
theorem jI_30 : (30 : Int32) = jI 30 := rfl
theorem jI_31 : (31 : Int32) = jI 31 := rfl
theorem jI_32 : (32 : Int32) = jI 32 := rfl
theorem jI_40 : (40 : Int32) = jI 40 := rfl
theorem jI_48 : (48 : Int32) = jI 48 := rfl
theorem jI_56 : (56 : Int32) = jI 56 := rfl
theorem jI_57 : (57 : Int32) = jI 57 := rfl
theorem jI_59 : (59 : Int32) = jI 59 := rfl
theorem jI_60 : (60 : Int32) = jI 60 := rfl
theorem jI_97 : (97 : Int32) = jI 97 := rfl
theorem jI_99 : (99 : Int32) = jI 99 := rfl
theorem jI_122 : (122 : Int32) = jI 122 := rfl
theorem jI_160 : (160 : Int32) = jI 160 := rfl
theorem jI_240 : (240 : Int32) = jI 240 := rfl
theorem jI_255 : (255 : Int32) = jI 255 := rfl
theorem jI_768 : (768 : Int32) = jI 768 := rfl
theorem jI_1000 : (1000 : Int32) = jI 1000 := rfl
theorem jL_0 : (0 : Int64) = jL 0 := rfl
theorem jL_1 : (1 : Int64) = jL 1 := rfl
theorem jL_2 : (2 : Int64) = jL 2 := rfl
theorem jL_5 : (5 : Int64) = jL 5 := rfl
theorem jL_6 : (6 : Int64) = jL 6 := rfl
theorem jL_15 : (15 : Int64) = jL 15 := rfl
theorem jL_63 : (63 : Int64) = jL 63 := rfl
theorem jL_16 : (16 : Int64) = jL 16 := rfl
theorem pif_T {β : Type} {c : Prop} [Decidable c] {x y : Option β} (h : c) : pif c x y = x := if_pos h
theorem pif_F {β : Type} {c : Prop} [Decidable c] {x y : Option β} (h : ¬ c) : pif c x y = y := if_neg h
theorem pg_T {β : Type} {c : Prop} [Decidable c] {x : Option β} (h : c) : pg c x = x := if_pos h
theorem pif_tt {β : Type} {i : Decidable True} {x y : Option β} : @pif β True i x y = x := if_pos trivial
theorem pif_ff {β : Type} {i : Decidable False} {x y : Option β} : @pif β False i x y = y := if_neg id
theorem pg_tt {β : Type} {i : Decidable True} {x : Option β} : @pg β True i x = x := if_pos trivial
theorem pb_S {α β : Type} (a : α) (f : α → Option β) : pb (some a) f = f a := rfl
theorem upd_e {f : Nat → Int32} {k j : Nat} {x : Int32} (h : j = k) : upd f k x j = x := if_pos h
theorem upd_n {f : Nat → Int32} {k j : Nat} {x : Int32} (h : j ≠ k) : upd f k x j = f j := if_neg h
theorem updL_e {f : Nat → Int64} {k j : Nat} {x : Int64} (h : j = k) : vp_updL f k x j = x := if_pos h
theorem updL_n {f : Nat → Int64} {k j : Nat} {x : Int64} (h : j ≠ k) : vp_updL f k x j = f j := if_neg h
/-- it answers, and the answer is such a one -/
def Ok {α : Type} (o : Option α) (P : α → Prop) : Prop := ∃ a, o = some a ∧ P a
theorem Ok.s {α : Type} {a : α} {P : α → Prop} (h : P a) : Ok (some a) P := ⟨a, rfl, h⟩
theorem Ok.mono {α : Type} {o : Option α} {P Q : α → Prop} (h : Ok o P) (hq : ∀ a, P a → Q a) : Ok o Q := by
  obtain ⟨a, e, h⟩ := h
  exact ⟨a, e, hq a h⟩
theorem Ok.b {α β : Type} {o : Option α} {P : α → Prop} {f : α → Option β} {Q : β → Prop} (h : Ok o P) (hf : ∀ a, P a → Ok (f a) Q) : Ok (pb o f) Q := by
  obtain ⟨a, rfl, h⟩ := h
  exact hf a h
theorem Ok.g {β : Type} {c : Prop} [Decidable c] {x : Option β} {Q : β → Prop} (hc : c) (h : Ok x Q) : Ok (pg c x) Q := by rw [show pg c x = x from if_pos hc]; exact h
theorem Ok.i {β : Type} {c : Prop} [Decidable c] {x y : Option β} {Q : β → Prop} (h1 : c → Ok x Q) (h2 : ¬ c → Ok y Q) : Ok (pif c x y) Q := by
  by_cases hc : c
  · rw [show pif c x y = x from if_pos hc]; exact h1 hc
  · rw [show pif c x y = y from if_neg hc]; exact h2 hc
/-- a loop that counts up to m -/
theorem up_ok {σ ρ : Type} (F : Nat → Nat → σ → Option ρ) (Q : ρ → Prop) (m : Nat) (P : Nat → σ → Prop) (step : ∀ f i s, i < m → P i s → (∀ s', P (i + 1) s' → Ok (F f (i + 1) s') Q) → Ok (F (f + 1) i s) Q) (stop : ∀ f s, P m s → Ok (F (f + 1) m s) Q) : ∀ (f i : Nat) (s : σ), i ≤ m → m < f + i → P i s → Ok (F f i s) Q := by
  intro f
  induction f with
  | zero => intro i s h1 h2; omega
  | succ f ih =>
    intro i s h1 h2 h3
    by_cases h : i < m
    · exact step f i s h h3 (fun s' h' => ih (i + 1) s' (by omega) (by omega) h')
    · obtain rfl : i = m := by omega
      exact stop f s h3
/-- a loop that counts down to 0 -/
theorem dn_ok {σ ρ : Type} (F : Nat → Nat → σ → Option ρ) (Q : ρ → Prop) (P : Nat → σ → Prop) (step : ∀ f i s, P (i + 1) s → (∀ s', P i s' → Ok (F f i s') Q) → Ok (F (f + 1) (i + 1) s) Q) (stop : ∀ f s, P 0 s → Ok (F (f + 1) 0 s) Q) : ∀ (f i : Nat) (s : σ), i < f → P i s → Ok (F f i s) Q := by
  intro f
  induction f with
  | zero => intro i s h1; omega
  | succ f ih =>
    intro i s h1 h3
    cases i with
    | succ i => exact step f i s h3 (fun s' h' => ih i s' (by omega) h')
    | zero => exact stop f s h3
/-- a loop that counts up to m -/
theorem for_up {σ ρ : Type} (F : Nat → Nat → σ → Option ρ) (E : σ → Option ρ) (m : Nat) (P : Nat → σ → Prop) (step : ∀ f i s, i < m → P i s → ∃ s', F (f + 1) i s = F f (i + 1) s' ∧ P (i + 1) s') (stop : ∀ f s, P m s → F (f + 1) m s = E s) : ∀ (f i : Nat) (s : σ), i ≤ m → m < f + i → P i s → ∃ s', F f i s = E s' ∧ P m s' := by
  intro f
  induction f with
  | zero => intro i s h1 h2; omega
  | succ f ih =>
    intro i s h1 h2 h3
    by_cases h : i < m
    · obtain ⟨s', e, hp⟩ := step f i s h h3
      obtain ⟨t, e2, ht⟩ := ih (i + 1) s' (by omega) (by omega) hp
      exact ⟨t, e.trans e2, ht⟩
    · obtain rfl : i = m := by omega
      exact ⟨s, stop f s h3, h3⟩
/-- a loop that counts down to 0 -/
theorem for_dn {σ ρ : Type} (F : Nat → Nat → σ → Option ρ) (E : σ → Option ρ) (P : Nat → σ → Prop) (step : ∀ f i s, P (i + 1) s → ∃ s', F (f + 1) (i + 1) s = F f i s' ∧ P i s') (stop : ∀ f s, P 0 s → F (f + 1) 0 s = E s) : ∀ (f i : Nat) (s : σ), i < f → P i s → ∃ s', F f i s = E s' ∧ P 0 s' := by
  intro f
  induction f with
  | zero => intro i s h1; omega
  | succ f ih =>
    intro i s h1 h3
    cases i with
    | succ i =>
      obtain ⟨s', e, hp⟩ := step f i s h3
      obtain ⟨t, e2, ht⟩ := ih i s' (by omega) hp
      exact ⟨t, e.trans e2, ht⟩
    | zero => exact ⟨s, stop f s h3, h3⟩
/-- how many below m -/
def cnt : Nat → (Nat → Bool) → Nat
  | 0, _ => 0
  | m + 1, p => cnt m p + (if p m then 1 else 0)
/-- the sum below m -/
def sumN : Nat → (Nat → Nat) → Nat
  | 0, _ => 0
  | m + 1, f => sumN m f + f m
theorem cnt_le (m : Nat) (p : Nat → Bool) : cnt m p ≤ m := by
  induction m with
  | zero => exact Nat.le_refl _
  | succ m ih => simp only [cnt]; split <;> omega
theorem cnt_congr {m : Nat} {p q : Nat → Bool} (h : ∀ i, i < m → p i = q i) : cnt m p = cnt m q := by
  induction m with
  | zero => rfl
  | succ m ih => simp only [cnt, ih (fun i hi => h i (by omega)), h m (by omega)]
theorem sumN_congr {m : Nat} {p q : Nat → Nat} (h : ∀ i, i < m → p i = q i) : sumN m p = sumN m q := by
  induction m with
  | zero => rfl
  | succ m ih => simp only [sumN, ih (fun i hi => h i (by omega)), h m (by omega)]
theorem sumN_le {m : Nat} {p : Nat → Nat} {b : Nat} (h : ∀ i, i < m → p i ≤ b) : sumN m p ≤ m * b := by
  induction m with
  | zero => simp [sumN]
  | succ m ih =>
    have := ih (fun i hi => h i (by omega))
    have := h m (by omega)
    simp only [sumN, Nat.succ_mul]; omega
theorem sumN_mono {p : Nat → Nat} {a b : Nat} (h : a ≤ b) : sumN a p ≤ sumN b p := by
  induction b with
  | zero => obtain rfl : a = 0 := by omega
            exact Nat.le_refl _
  | succ b ih =>
    by_cases e : a = b + 1
    · rw [e]; exact Nat.le_refl _
    · have := ih (by omega); simp only [sumN]; omega
theorem cnt_imp {m : Nat} {p q : Nat → Bool} (h : ∀ i, i < m → p i = true → q i = true) : cnt m p ≤ cnt m q := by
  induction m with
  | zero => exact Nat.le_refl _
  | succ m ih =>
    have h1 := ih (fun i hi => h i (by omega))
    have h2 := h m (by omega)
    simp only [cnt]
    cases e : p m
    · simp; omega
    · simp [h2 e]; omega
theorem cnt_imp_lt {m k : Nat} {p q : Nat → Bool} (h : ∀ i, i < m → p i = true → q i = true) (hk : k < m) (h1 : p k = false) (h2 : q k = true) : cnt m p < cnt m q := by
  induction m with
  | zero => omega
  | succ m ih =>
    have hm := h m (by omega)
    simp only [cnt]
    by_cases e : k = m
    · subst e
      have := cnt_imp (m := k) (p := p) (q := q) (fun i hi => h i (by omega))
      simp [h1, h2]; omega
    · have h3 := ih (fun i hi => h i (by omega)) (by omega)
      cases e2 : p m
      · simp; omega
      · simp [hm e2]; omega
theorem cnt_mono {p : Nat → Bool} {a b : Nat} (h : a ≤ b) : cnt a p ≤ cnt b p := by
  induction b with
  | zero => obtain rfl : a = 0 := by omega
            exact Nat.le_refl _
  | succ b ih =>
    by_cases e : a = b + 1
    · rw [e]; exact Nat.le_refl _
    · have := ih (by omega); simp only [cnt]; omega
theorem cnt_sum (m : Nat) (p : Nat → Bool) : cnt m p = sumN m (fun i => if p i then 1 else 0) := by
  induction m with
  | zero => rfl
  | succ m ih => simp only [cnt, sumN, ih]
theorem cnt_pos {m k : Nat} {p : Nat → Bool} (hk : k < m) (h : p k = true) : 0 < cnt m p := by
  have := cnt_imp_lt (m := m) (k := k) (p := fun _ => false) (q := p) (fun i _ h => by cases h) hk rfl h
  omega
theorem cnt_none {m : Nat} {p : Nat → Bool} (h : ∀ i, i < m → p i = false) : cnt m p = 0 := by
  induction m with
  | zero => rfl
  | succ m ih => simp only [cnt, ih (fun i hi => h i (by omega)), h m (by omega)]; rfl
