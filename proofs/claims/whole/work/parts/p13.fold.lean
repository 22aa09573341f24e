/-! Means over all ENDS: fold and sum; the greatest common divisor. -/
theorem sumN_split (a b : Nat) (g : Nat → Nat) : sumN (a + b) g = sumN a g + sumN b (fun q => g (a + q)) := by
  induction b with
  | zero => simp [sumN]
  | succ b ih =>
    rw [← Nat.add_assoc]
    simp only [sumN, ih]; omega
theorem sumN_mul (m c : Nat) (g : Nat → Nat) : sumN m (fun q => c * g q) = c * sumN m g := by
  induction m with
  | zero => simp [sumN]
  | succ m ih => simp only [sumN, ih, Nat.mul_add]
/-- the value at a node, j GAMES above the leaves -/
def vN (w L : Nat → Nat) (dp : Nat) : Nat → Nat → Nat
  | 0, r => L r
  | j + 1, r => w (dp - 1 - j) * vN w L dp j (2 * r) + (16 - w (dp - 1 - j)) * vN w L dp j (2 * r + 1)
def prN (g : Nat → Nat → Nat) : Nat → Nat → Nat
  | 0, _ => 1
  | j + 1, r => g j r * prN g j r
def fa (w : Nat → Nat) (dp j r : Nat) : Nat := if bitN r j = 0 then w (dp - 1 - j) else 16 - w (dp - 1 - j)
theorem bit_low {q j i : Nat} (h : i < j) : bitN (2 ^ j + q) i = bitN q i := by
  obtain ⟨t, rfl⟩ : ∃ t, j = i + 1 + t := ⟨j - i - 1, by omega⟩
  unfold bitN
  have h1 : 2 ^ (i + 1 + t) + q = q + 2 ^ i * (2 * 2 ^ t) := by
    rw [Nat.pow_add, Nat.pow_succ, Nat.add_comm, Nat.mul_assoc]
  rw [h1, Nat.add_mul_div_left _ _ (Nat.two_pow_pos i), Nat.add_mul_mod_self_left]
theorem bit_top {q j : Nat} (h : q < 2 ^ j) : bitN (2 ^ j + q) j = 1 := by
  unfold bitN
  rw [Nat.add_comm, show q + 2 ^ j = q + 2 ^ j * 1 by omega, Nat.add_mul_div_left _ _ (Nat.two_pow_pos j), Nat.div_eq_of_lt h]
theorem bit_zero {q j : Nat} (h : q < 2 ^ j) : bitN q j = 0 := by
  unfold bitN
  rw [Nat.div_eq_of_lt h]
theorem prN_congr {g : Nat → Nat → Nat} {j a b : Nat} (h : ∀ i, i < j → g i a = g i b) : prN g j a = prN g j b := by
  induction j with
  | zero => rfl
  | succ j ih => simp only [prN, h j (by omega), ih (fun i hi => h i (by omega))]
theorem vN_sum (w L : Nat → Nat) (dp : Nat) : ∀ j r, vN w L dp j r = sumN (2 ^ j) (fun q => prN (fa w dp) j q * L (r * 2 ^ j + q)) := by
  intro j
  induction j with
  | zero => intro r; simp [vN, sumN, prN]
  | succ j ih =>
    intro r
    have h2 : 2 ^ (j + 1) = 2 ^ j + 2 ^ j := by rw [Nat.pow_succ]; omega
    rw [h2, sumN_split]
    simp only [vN]
    rw [ih, ih, ← sumN_mul, ← sumN_mul]
    congr 1
    · refine sumN_congr (fun q hq => ?_)
      simp only [prN]
      rw [show fa w dp j q = w (dp - 1 - j) by unfold fa; rw [if_pos (bit_zero hq)]]
      rw [show 2 * r * 2 ^ j = r * (2 ^ j + 2 ^ j) by rw [Nat.mul_add, Nat.mul_comm 2 r, Nat.mul_assoc, ← Nat.mul_add]; congr 1; omega]
      rw [Nat.mul_assoc]
    · refine sumN_congr (fun q hq => ?_)
      simp only [prN]
      rw [show fa w dp j (2 ^ j + q) = 16 - w (dp - 1 - j) by unfold fa; rw [if_neg (by rw [bit_top hq]; omega)]]
      rw [prN_congr (g := fa w dp) (j := j) (a := 2 ^ j + q) (b := q) (fun i hi => by unfold fa; rw [bit_low hi])]
      rw [show (2 * r + 1) * 2 ^ j + q = r * (2 ^ j + 2 ^ j) + (2 ^ j + q) by
        rw [Nat.add_mul, Nat.one_mul, Nat.mul_add, Nat.mul_comm 2 r, Nat.mul_assoc]
        have : r * (2 * 2 ^ j) = r * 2 ^ j + r * 2 ^ j := by rw [← Nat.mul_add]; congr 1; omega
        omega]
      rw [Nat.mul_assoc]
theorem vN_top (w L : Nat → Nat) (dp : Nat) : vN w L dp dp 0 = sumN (2 ^ dp) (fun q => prN (fa w dp) dp q * L q) := by
  rw [vN_sum]
  refine sumN_congr (fun q _ => by rw [Nat.zero_mul, Nat.zero_add])
/-- one GAME's END given: sixteen times the sum over the rows that have it -/
def wF (kf how : Nat) (w : Nat → Nat) (d : Nat) : Nat := if d = kf then (if how = 0 then 16 else 0) else w d
def faX (w : Nat → Nat) (dp kf i r : Nat) : Nat := if dp - 1 - i = kf then 1 else fa w dp i r
theorem fa_wF_ne {w : Nat → Nat} {dp kf how j r : Nat} (h : dp - 1 - j ≠ kf) : fa (wF kf how w) dp j r = fa w dp j r := by
  have : wF kf how w (dp - 1 - j) = w (dp - 1 - j) := if_neg h
  unfold fa; rw [this]
theorem fa_wF_eq {w : Nat → Nat} {dp kf how j r : Nat} (h : dp - 1 - j = kf) (hh : how < 2) : fa (wF kf how w) dp j r = if bitN r j = how then 16 else 0 := by
  have e : wF kf how w (dp - 1 - j) = if how = 0 then 16 else 0 := if_pos h
  have hb := bitN_lt r j
  unfold fa
  rw [e]
  by_cases hz : bitN r j = 0
  · rw [if_pos hz, hz]
    by_cases h0 : how = 0
    · rw [if_pos h0, if_pos h0.symm]
    · rw [if_neg h0, if_neg (fun c => h0 c.symm)]
  · rw [if_neg hz, show bitN r j = 1 by omega]
    by_cases h0 : how = 0
    · rw [if_pos h0, if_neg (by omega)]
    · rw [if_neg h0, if_pos (by omega)]
theorem fix_lo {w : Nat → Nat} {dp kf how r : Nat} : ∀ j, j ≤ dp - 1 - kf → kf < dp → prN (fa (wF kf how w) dp) j r = prN (faX w dp kf) j r := by
  intro j
  induction j with
  | zero => intro _ _; rfl
  | succ j ih =>
    intro hj hk
    simp only [prN]
    have e : faX w dp kf j r = fa w dp j r := if_neg (by omega)
    rw [ih (by omega) hk, fa_wF_ne (by omega), e]
theorem fix_prod {w : Nat → Nat} {dp kf how r : Nat} (hk : kf < dp) (hh : how < 2) : ∀ j, dp - 1 - kf < j → j ≤ dp → prN (fa (wF kf how w) dp) j r = if bitN r (dp - 1 - kf) = how then 16 * prN (faX w dp kf) j r else 0 := by
  intro j
  induction j with
  | zero => intro h; omega
  | succ j ih =>
    intro h1 hj
    simp only [prN]
    by_cases h : j = dp - 1 - kf
    · have e : faX w dp kf j r = 1 := if_pos (by omega)
      rw [fix_lo j (by omega) hk, fa_wF_eq (by omega) hh, e, Nat.one_mul, ← h]
      by_cases hb : bitN r j = how
      · rw [if_pos hb, if_pos hb]
      · rw [if_neg hb, if_neg hb, Nat.zero_mul]
    · have e : faX w dp kf j r = fa w dp j r := if_neg (by omega)
      rw [ih (by omega) (by omega), fa_wF_ne (by omega), e]
      by_cases hb : bitN r (dp - 1 - kf) = how
      · rw [if_pos hb, if_pos hb, ← Nat.mul_assoc, Nat.mul_comm _ 16, Nat.mul_assoc]
      · rw [if_neg hb, if_neg hb, Nat.mul_zero]
theorem fix_sum {w L : Nat → Nat} {dp kf how : Nat} (hk : kf < dp) (hh : how < 2) : vN (wF kf how w) L dp dp 0 = 16 * sumN (2 ^ dp) (fun r => if bitN r (dp - 1 - kf) = how then prN (faX w dp kf) dp r * L r else 0) := by
  rw [vN_top, ← sumN_mul]
  refine sumN_congr (fun r _ => ?_)
  rw [fix_prod hk hh dp (by omega) (Nat.le_refl _)]
  split
  · rw [Nat.mul_assoc]
  · simp
theorem vN_congr {w L L' : Nat → Nat} {dp : Nat} {B : Nat} : ∀ j r, (∀ q, q < B → L q = L' q) → (r + 1) * 2 ^ j ≤ B → vN w L dp j r = vN w L' dp j r := by
  intro j
  induction j with
  | zero => intro r h hr; simp at hr; exact h r (by omega)
  | succ j ih =>
    intro r h hr
    have hp : 2 ^ (j + 1) = 2 * 2 ^ j := by rw [Nat.pow_succ]; omega
    have h1 : (r + 1) * 2 ^ (j + 1) = (2 * r + 1 + 1) * 2 ^ j := by
      rw [hp, ← Nat.mul_assoc]; congr 1; omega
    have h2 : (2 * r + 1 + 1) * 2 ^ j = (2 * r + 1) * 2 ^ j + 2 ^ j := by rw [Nat.add_mul (2 * r + 1) 1, Nat.one_mul]
    simp only [vN]
    rw [ih (2 * r) h (by omega), ih (2 * r + 1) h (by omega)]
theorem vN_le {w L : Nat → Nat} {dp B : Nat} (hw : ∀ d, d < dp → w d ≤ 16) (hd : 0 < dp ∨ True) : ∀ j r, j ≤ dp → (∀ q, q < 2 ^ dp → L q ≤ B) → (r + 1) * 2 ^ j ≤ 2 ^ dp → vN w L dp j r ≤ 16 ^ j * B := by
  intro j
  induction j with
  | zero => intro r _ h hr; simp at hr; simp only [vN]; have := h r (by omega); omega
  | succ j ih =>
    intro r hj h hr
    have hp : 2 ^ (j + 1) = 2 * 2 ^ j := by rw [Nat.pow_succ]; omega
    have h1 : (r + 1) * 2 ^ (j + 1) = (2 * r + 1 + 1) * 2 ^ j := by
      rw [hp, ← Nat.mul_assoc]; congr 1; omega
    have h2 : (2 * r + 1 + 1) * 2 ^ j = (2 * r + 1) * 2 ^ j + 2 ^ j := by rw [Nat.add_mul (2 * r + 1) 1, Nat.one_mul]
    have a := ih (2 * r) (by omega) h (by omega)
    have b := ih (2 * r + 1) (by omega) h (by omega)
    have c := hw (dp - 1 - j) (by omega)
    simp only [vN]
    have e1 : w (dp - 1 - j) * vN w L dp j (2 * r) ≤ w (dp - 1 - j) * (16 ^ j * B) := Nat.mul_le_mul_left _ a
    have e2 : (16 - w (dp - 1 - j)) * vN w L dp j (2 * r + 1) ≤ (16 - w (dp - 1 - j)) * (16 ^ j * B) := Nat.mul_le_mul_left _ b
    have e3 : w (dp - 1 - j) * (16 ^ j * B) + (16 - w (dp - 1 - j)) * (16 ^ j * B) = 16 * (16 ^ j * B) := by
      rw [← Nat.add_mul]; congr 1; omega
    have e4 : 16 ^ (j + 1) * B = 16 * (16 ^ j * B) := by rw [Nat.pow_succ, Nat.mul_comm (16 ^ j) 16, Nat.mul_assoc]
    omega
/-- Euclid's steps -/
def fbN : Nat → Nat
  | 0 => 1
  | 1 => 2
  | k + 2 => fbN (k + 1) + fbN k
theorem fbN_pos : ∀ k, 1 ≤ fbN k
  | 0 => Nat.le_refl _
  | 1 => by simp [fbN]
  | k + 2 => by have := fbN_pos (k + 1); simp only [fbN]; omega
theorem fbN_mono : ∀ k, fbN k ≤ fbN (k + 1)
  | 0 => by simp [fbN]
  | k + 1 => by simp only [fbN]; omega
theorem gcd_step (a b : Nat) : Nat.gcd b (a % b) = Nat.gcd a b := by
  rw [Nat.gcd_comm a b, Nat.gcd_rec b a, Nat.gcd_comm]
theorem euclid {ρ : Type} (F : Nat → Nat → Nat → Nat → Option ρ) (E : Nat → Option ρ) (T : Nat) (step : ∀ fu t a b, t < T → a < 9223372036854775808 → b < 9223372036854775808 → b ≠ 0 → F (fu + 1) t a b = F fu (t + 1) b (a % b)) (stop : ∀ fu t a, t < T → a < 9223372036854775808 → F (fu + 1) t a 0 = E a) : ∀ k fu t a b, k < fu → k + t < T → a < 9223372036854775808 → b < 9223372036854775808 → b < fbN k → F fu t a b = E (Nat.gcd a b)
  | 0, fu, t, a, b, h1, h2, h3, h4, h5 => by
    obtain ⟨fu, rfl⟩ : ∃ q, fu = q + 1 := ⟨fu - 1, by omega⟩
    obtain rfl : b = 0 := by simp [fbN] at h5; omega
    rw [stop fu t a (by omega) h3, Nat.gcd_zero_right]
  | 1, fu, t, a, b, h1, h2, h3, h4, h5 => by
    obtain ⟨fu, rfl⟩ : ∃ q, fu = q + 2 := ⟨fu - 2, by omega⟩
    by_cases hb : b = 0
    · subst hb
      rw [stop (fu + 1) t a (by omega) h3, Nat.gcd_zero_right]
    · obtain rfl : b = 1 := by simp [fbN] at h5; omega
      rw [step (fu + 1) t a 1 (by omega) h3 (by omega) (by omega), Nat.mod_one, stop fu (t + 1) 1 (by omega) (by omega), Nat.gcd_one_right]
  | k + 2, fu, t, a, b, h1, h2, h3, h4, h5 => by
    obtain ⟨fu, rfl⟩ : ∃ q, fu = q + 2 := ⟨fu - 2, by omega⟩
    by_cases hb : b = 0
    · subst hb
      rw [stop (fu + 1) t a (by omega) h3, Nat.gcd_zero_right]
    · have hm : a % b < b := Nat.mod_lt _ (by omega)
      rw [step (fu + 1) t a b (by omega) h3 h4 hb, ← gcd_step a b]
      by_cases hc : a % b < fbN (k + 1)
      · exact euclid F E T step stop (k + 1) (fu + 1) (t + 1) b (a % b) (by omega) (by omega) h4 (by omega) hc
      · have h0 := fbN_pos (k + 1)
        rw [step fu (t + 1) b (a % b) (by omega) h4 (by omega) (by omega), ← gcd_step b (a % b)]
        have h6 : b % (a % b) ≤ b - a % b := by
          have h7 : b % (a % b) = (b - a % b) % (a % b) := by
            rw [← Nat.mod_eq_sub_mod (by omega)]
          rw [h7]; exact Nat.mod_le _ _
        simp only [fbN] at h5
        exact euclid F E T step stop k fu (t + 1 + 1) (a % b) (b % (a % b)) (by omega) (by omega) (by omega) (by omega) (by omega)
theorem fb80 : 4000000000000000 < fbN 79 := by decide +kernel
theorem jL_cmp0 {a : Nat} (ha : a < 9223372036854775808) : (lg_cmp (jL a) (jL 0) = jI 0) = (a = 0) := by
  rw [jL_cmp ha (by omega)]
  by_cases h : a = 0
  · subst h; simp [jI]
  · rw [if_pos (by omega), eq_iff_iff]
    exact ⟨fun c => absurd c (by decide), fun c => absurd c h⟩
theorem jL_cmpP {a : Nat} (ha : a < 9223372036854775808) : (jI 0 < lg_cmp (jL a) (jL 0)) = (0 < a) := by
  rw [jL_cmp ha (by omega)]
  by_cases h : a = 0
  · subst h
    rw [if_neg (by omega), if_pos rfl, eq_iff_iff]
    exact ⟨fun c => absurd c (by decide), fun c => absurd c (by omega)⟩
  · rw [if_pos (by omega), eq_iff_iff]
    exact ⟨fun _ => by omega, fun _ => by decide⟩
theorem jL_eq0 {a : Nat} (ha : a < 9223372036854775808) : (jL a = jL 0) = (a = 0) := jL_eq ha (by omega)
theorem divisorX {N a b : Nat} (hN : 100 ≤ N) (ha : a < 9223372036854775808) (hb : b < 4000000000000000) : fX8_divisor N (jL a) (jL b) = some (jL (Nat.gcd a b)) := by
  have key := euclid (fun fu t a b => fX8_divisor_3 N fu (jL a) (jL b) (jI t)) (fun a => some (jL a)) 100 ?_ ?_ 79 N 0 a b (by omega) (by omega) ha (by omega) (by have := fb80; omega)
  · exact key
  · intro fu t a b ht ha hb hb0
    rw [← jL_rem ha hb]
    simp (disch := omega) only [jI_0, jI_1, show (100 : Int32) = jI 100 from rfl, jL_0, fX8_divisor_3, jI_le, pif_F, jL_cmp0, jL_eq0, pg_T, jI_add]
  · intro fu t a ht ha
    simp (disch := omega) only [jI_0, jI_1, show (100 : Int32) = jI 100 from rfl, jL_0, fX8_divisor_3, fX8_divisor_32, jI_le, pif_F, pif_T, pif_tt, jL_cmp0]
theorem partX {N a b wh : Nat} (hN : 100 ≤ N) (ha : a < 9223372036854775808) (hb : b < 4000000000000000) (hb0 : 0 < b) (hw : wh < 2) : fX8_part N (jL a) (jL b) (jI wh) = some (jL ((if wh = 0 then a else b) / Nat.gcd a b)) := by
  have hd := divisorX (a := a) (b := b) hN ha hb
  have hg : 0 < Nat.gcd a b := Nat.gcd_pos_of_pos_right a hb0
  have hg2 : Nat.gcd a b ≤ b := Nat.gcd_le_right a hb0
  by_cases h : wh = 0
  · rw [if_pos h, ← jL_div ha (by omega)]
    simp (disch := omega) only [jI_0, jL_0, fX8_part, fX8_part_32, hd, pb_S, jL_cmpP, pif_T, jI_eq, jL_eq0, pg_T]
  · rw [if_neg h, ← jL_div (by omega) (by omega)]
    simp (disch := omega) only [jI_0, jL_0, fX8_part, fX8_part_32, hd, pb_S, jL_cmpP, pif_T, pif_F, jI_eq, jL_eq0, pg_T]
theorem lowestM {N a b wh : Nat} (hN : 100 ≤ N) (ha : a < 9223372036854775808) (hb : b < 4000000000000000) (hb0 : 0 < b) (hw : wh < 2) : fX9_lowest N (jL a) (jL b) (jI wh) = some (jL ((if wh = 0 then a else b) / Nat.gcd a b)) := by
  have hg : 0 < Nat.gcd a b := Nat.gcd_pos_of_pos_right a hb0
  have hg2 : Nat.gcd a b ≤ b := Nat.gcd_le_right a hb0
  have key := euclid (fun fu t x y => fX9_lowest_6 N (jL a) (jL b) (jI wh) fu (jL x) (jL y)) (fun x => if 0 < x then some (jL ((if wh = 0 then a else b) / x)) else none) 1000 ?_ ?_ 79 N 0 a b (by omega) (by omega) ha (by omega) (by have := fb80; omega)
  · rw [if_pos hg] at key
    exact key
  · intro fu t x y ht hx hy hy0
    rw [← jL_rem hx hy]
    simp (disch := omega) only [jI_0, jL_0, fX9_lowest_6, pif_F, jL_cmp0, jL_eq0, pg_T]
  · intro fu t x ht hx
    by_cases hx0 : 0 < x
    · rw [if_pos hx0]
      by_cases h : wh = 0
      · rw [if_pos h, ← jL_div ha (by omega)]
        simp (disch := omega) only [jI_0, jL_0, fX9_lowest_6, fX9_lowest_41, pif_T, pif_tt, jL_cmp0, jL_eq0, jI_eq, pg_T]
      · rw [if_neg h, ← jL_div (by omega) (by omega)]
        simp (disch := omega) only [jI_0, jL_0, fX9_lowest_6, fX9_lowest_41, pif_T, pif_F, pif_tt, jL_cmp0, jL_eq0, jI_eq, pg_T]
    · obtain rfl : x = 0 := by omega
      rw [if_neg (by omega)]
      have hng : ∀ y, fX9_lowest_41 N (jL a) (jL b) (jI wh) (jL 0) y = none := fun y => by
        unfold fX9_lowest_41 pg
        exact if_neg (fun c => c rfl)
      by_cases h : wh = 0
      · simp (disch := omega) only [jI_0, jL_0, fX9_lowest_6, pif_T, pif_tt, jL_cmp0, jI_eq, hng]
      · simp (disch := omega) only [jI_0, jL_0, fX9_lowest_6, pif_T, pif_F, pif_tt, jL_cmp0, jI_eq, hng]
