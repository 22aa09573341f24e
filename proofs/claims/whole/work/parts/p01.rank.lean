/-! Ranks: who stands where; an insertion that keeps them. -/
def updN (f : Nat → Nat) (k x : Nat) : Nat → Nat := fun j => if j = k then x else f j
theorem updN_e {f : Nat → Nat} {k j x : Nat} (h : j = k) : updN f k x j = x := if_pos h
theorem updN_n {f : Nat → Nat} {k j x : Nat} (h : j ≠ k) : updN f k x j = f j := if_neg h
def ahd (K : Nat → Nat) (j i : Nat) : Bool := decide (K i < K j ∨ (K j = K i ∧ j < i))
def plc (n : Nat) (K : Nat → Nat) (i : Nat) : Nat := cnt n (fun j => ahd K j i)
theorem ahd_iff {K : Nat → Nat} {j i : Nat} : ahd K j i = true ↔ (K i < K j ∨ (K j = K i ∧ j < i)) := by simp [ahd]
theorem ahd_self {K : Nat → Nat} {i : Nat} : ahd K i i = false := by simp [ahd]
theorem plc_lt {n : Nat} {K : Nat → Nat} {i : Nat} (h : i < n) : plc n K i < n := by
  have h1 := cnt_imp_lt (m := n) (k := i) (p := fun j => ahd K j i) (q := fun _ => true) (fun _ _ _ => rfl) h ahd_self rfl
  have h2 := cnt_le n (fun _ => true)
  unfold plc; omega
theorem plc_mono {n : Nat} {K : Nat → Nat} {i j : Nat} (h : i < n) (ha : ahd K i j = true) : plc n K i < plc n K j := by
  refine cnt_imp_lt (k := i) (fun k _ hk => ?_) h ahd_self ha
  rw [ahd_iff] at ha hk ⊢; omega
theorem plc_inj {n : Nat} {K : Nat → Nat} {i j : Nat} (hi : i < n) (hj : j < n) (h : plc n K i = plc n K j) : i = j := by
  rcases Nat.lt_trichotomy i j with h1 | h1 | h1
  · by_cases h2 : K i < K j
    · have := plc_mono hj (ahd_iff.mpr (Or.inl h2)); omega
    · have := plc_mono (K := K) (j := j) hi (ahd_iff.mpr (by omega)); omega
  · exact h1
  · by_cases h2 : K j < K i
    · have := plc_mono hi (ahd_iff.mpr (Or.inl h2)); omega
    · have := plc_mono (K := K) (j := i) hj (ahd_iff.mpr (by omega)); omega
def insAt (K : Nat → Nat) (x : Nat) : Nat → (Nat → Nat) → (Nat → Nat)
  | 0, o => updN o 0 x
  | t + 1, o => if K (o t) < K x then insAt K x t (updN o (t + 1) (o t)) else updN o (t + 1) x
def ordN (K : Nat → Nat) : Nat → (Nat → Nat)
  | 0 => fun _ => 0
  | m + 1 => insAt K m m (ordN K m)
theorem insAt_ok {K : Nat → Nat} {o : Nat → Nat} {m r : Nat} (hr : ∀ p, p < m → (K (o p) < K m ↔ r ≤ p)) : ∀ (t : Nat) (o' : Nat → Nat), (∀ p, p < t → o' p = o p) → (∀ p, t ≤ p → p < m → o' (p + 1) = o p) → t ≤ m → r ≤ t →
    (∀ p, p < r → insAt K m t o' p = o p) ∧ insAt K m t o' r = m ∧ (∀ p, r ≤ p → p < m → insAt K m t o' (p + 1) = o p) := by
  intro t
  induction t with
  | zero =>
    intro o' h1 h2 h3 h4
    obtain rfl : r = 0 := by omega
    simp only [insAt]
    exact ⟨fun p hp => by omega, updN_e rfl, fun p _ hp => by rw [updN_n (by omega)]; exact h2 p (by omega) hp⟩
  | succ t ih =>
    intro o' h1 h2 h3 h4
    have e := h1 t (by omega)
    simp only [insAt]
    by_cases hc : K (o' t) < K m
    · rw [if_pos hc]
      rw [e] at hc
      refine ih _ (fun p hp => ?_) (fun p hp hpm => ?_) (by omega) ((hr t (by omega)).mp hc)
      · rw [updN_n (by omega)]; exact h1 p (by omega)
      · by_cases hpt : p = t
        · rw [hpt, updN_e rfl, e]
        · rw [updN_n (by omega)]; exact h2 p (by omega) hpm
    · rw [if_neg hc]
      rw [e] at hc
      have : ¬ r ≤ t := fun q => hc ((hr t (by omega)).mpr q)
      obtain rfl : r = t + 1 := by omega
      exact ⟨fun p hp => by rw [updN_n (by omega)]; exact h1 p hp, updN_e rfl, fun p hp hpm => by rw [updN_n (by omega)]; exact h2 p hp hpm⟩
theorem ordN_ok (K : Nat → Nat) : ∀ m p, p < m → ordN K m p < m ∧ plc m K (ordN K m p) = p := by
  intro m
  induction m with
  | zero => intro p hp; omega
  | succ m ih =>
    intro p hp
    have hr : ∀ q, q < m → (K (ordN K m q) < K m ↔ cnt m (fun j => decide (K m ≤ K j)) ≤ q) := by
      intro q hq
      obtain ⟨h1, h2⟩ := ih q hq
      constructor
      · intro h
        rw [← h2]
        refine cnt_imp (fun j _ hj => ?_)
        simp only [decide_eq_true_eq] at hj
        exact ahd_iff.mpr (by omega)
      · intro h
        apply Decidable.byContradiction
        intro hc
        have := cnt_imp_lt (m := m) (k := ordN K m q) (p := fun j => ahd K j (ordN K m q)) (q := fun j => decide (K m ≤ K j)) (fun j _ hj => by
          have := ahd_iff.mp hj
          simp only [decide_eq_true_eq]; omega) h1 ahd_self (by simp only [decide_eq_true_eq]; omega)
        unfold plc at h2
        omega
    have hle : cnt m (fun j => decide (K m ≤ K j)) ≤ m := cnt_le _ _
    obtain ⟨g1, g2, g3⟩ := insAt_ok hr m (ordN K m) (fun _ _ => rfl) (fun q h1 h2 => by omega) (Nat.le_refl _) hle
    have hpm : plc (m + 1) K m = cnt m (fun j => decide (K m ≤ K j)) := by
      unfold plc
      simp only [cnt, ahd_self]
      refine (cnt_congr (fun j hj => ?_))
      simp only [ahd, decide_eq_decide]; omega
    have hpi : ∀ i, i < m → plc (m + 1) K i = plc m K i + (if K i < K m then 1 else 0) := by
      intro i hi
      unfold plc
      simp only [cnt]
      congr 1
      have : ahd K m i = decide (K i < K m) := by simp only [ahd, decide_eq_decide]; omega
      simp only [this, decide_eq_true_eq]
    simp only [ordN]
    rcases Nat.lt_trichotomy p (cnt m (fun j => decide (K m ≤ K j))) with h | h | h
    · obtain ⟨a, b⟩ := ih p (by omega)
      rw [g1 p h]
      refine ⟨by omega, ?_⟩
      rw [hpi _ a, b, if_neg (fun c => by have := (hr p (by omega)).mp c; omega)]; rfl
    · rw [h, g2]
      exact ⟨by omega, hpm⟩
    · obtain ⟨q, rfl⟩ : ∃ q, p = q + 1 := ⟨p - 1, by omega⟩
      obtain ⟨a, b⟩ := ih q (by omega)
      rw [g3 q (by omega) (by omega)]
      refine ⟨by omega, ?_⟩
      rw [hpi _ a, b, if_pos ((hr q (by omega)).mpr (by omega))]
theorem ordN_plc (K : Nat → Nat) {n i : Nat} (h : i < n) : ordN K n (plc n K i) = i := by
  obtain ⟨h1, h2⟩ := ordN_ok K n (plc n K i) (plc_lt h)
  exact plc_inj h1 h h2
