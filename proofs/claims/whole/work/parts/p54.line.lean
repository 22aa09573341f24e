/-! TEXT: what a pair changes. -/
theorem cP_eq {t : Nat} {tp : Nat → Nat} {k n i : Nat} {b b' : Nat → Bool} (hn : n ≤ 6) (hn1 : 1 ≤ n) (h : ∀ w, w < 6 → b w = b' w) : cP t tp k n i b = cP t tp k n i b' ∧ cQ t tp k n b = cQ t tp k n b' := by
  unfold cP cQ
  by_cases c1 : cN t tp (k + 1) 0 (n - 1) = 0
  · have := (cN_0 c1).2.2
    rw [h (kV t tp (k + 1)) (by omega)]
    exact ⟨rfl, rfl⟩
  · rw [if_pos c1, if_pos c1, if_pos c1, if_pos c1]
    exact ⟨rfl, rfl⟩
theorem cP_c {t : Nat} {tp : Nat → Nat} {k n i : Nat} {b : Nat → Bool} : cP t tp k n i b < 7 := by
  have h1 := cN_le t tp (k + 1) 0 (n - 1)
  have h2 := cN_le t tp (k + 2) (loN i) (hiN n i)
  unfold cP; split; omega; split <;> omega
theorem wi_lt {i : Nat} (h : i < 5) : wiN i < 7 ∧ 0 < wiN i ∧ wiN i ≠ 4 := by unfold wiN; split <;> omega
theorem wi_inj {i j : Nat} (h : wiN i = wiN j) : i = j := by unfold wiN at h; split at h <;> split at h <;> omega
theorem or_nz {a w : Nat} : a ||| 2 ^ w ≠ 0 := by
  intro h
  have h1 : (a ||| 2 ^ w).testBit w = true := by
    rw [Nat.testBit_or, Nat.testBit_two_pow_self, Bool.or_true]
  rw [h] at h1
  simp at h1
theorem Ld_pair {H m : Nat → Nat} {B ib r i w v : Nat} (hi : i < 5) (hw : w < H 0) (hv1 : loN i ≤ v) (hv2 : v ≤ hiN (H 0) i) (hL : Ld H m B ib r) : Ld (updN H (2 + 6 * i + w) v) (updN m (wiN i) (m (wiN i) ||| 2 ^ w)) (B ||| 2 ^ (6 * i + w)) 1 r := by
  obtain ⟨⟨r1, r2, r3, r4, r5⟩, ⟨b1, b2, b3, b4⟩, l3, l4⟩ := hL
  have hwi := wi_lt hi
  have u0 : updN H (2 + 6 * i + w) v 0 = H 0 := updN_n (by omega)
  have u1 : updN H (2 + 6 * i + w) v 1 = H 1 := updN_n (by omega)
  have hhi := hi_le i r2
  refine ⟨⟨by rw [u0]; exact r1, by rw [u0]; exact r2, by rw [u1]; exact r3, fun j hj => ?_, fun j hj => ?_⟩, ⟨fun j hj => ?_, by omega, fun i' hi' w' hw' => ?_, ⟨fun h => by omega, fun h => ?_⟩⟩, by rw [u0]; exact l3, fun h => by omega⟩
  · obtain ⟨q1, q2, q3, q4, q5, q6⟩ := r4 j hj
    have key : ∀ i', i' < 5 → loN i' ≤ updN H (2 + 6 * i + w) v (2 + 6 * i' + j) ∧ updN H (2 + 6 * i + w) v (2 + 6 * i' + j) ≤ (if i' = 4 then 5 else hiN (H 0) i') := by
      intro i' hi'
      by_cases hc : 2 + 6 * i' + j = 2 + 6 * i + w
      · have : i' = i := by omega
        subst this
        rw [updN_e hc]
        refine ⟨hv1, ?_⟩
        split
        · rename_i h4; subst h4
          have : hiN (H 0) 4 = H 0 - 1 := rfl
          omega
        · exact hv2
      · rw [updN_n hc]
        have hc5 : i' = 0 ∨ i' = 1 ∨ i' = 2 ∨ i' = 3 ∨ i' = 4 := by omega
        rcases hc5 with rfl | rfl | rfl | rfl | rfl
        · exact ⟨q1, q2⟩
        · exact ⟨Nat.zero_le _, q3⟩
        · exact ⟨Nat.zero_le _, q4⟩
        · exact ⟨Nat.zero_le _, q5⟩
        · exact ⟨Nat.zero_le _, by rw [if_pos rfl]; exact Nat.le_of_lt_succ q6⟩
    have k0 := key 0 (by omega)
    have k1 := key 1 (by omega)
    have k2 := key 2 (by omega)
    have k3 := key 3 (by omega)
    have k4 := key 4 (by omega)
    exact ⟨k0.1, k0.2, k1.2, k2.2, k3.2, Nat.lt_succ_of_le k4.2⟩
  · rw [u0] at hj ⊢
    by_cases hc : 26 + j = 2 + 6 * i + w
    · rw [updN_e hc]
      have : i = 4 := by omega
      subst this
      have : hiN (H 0) 4 = H 0 - 1 := rfl
      omega
    · rw [updN_n hc]; exact r5 j hj
  · by_cases hc : j = wiN i
    · rw [updN_e hc]
      exact Nat.or_lt_two_pow (n := 6) (b1 _ (by omega)) (Nat.pow_lt_pow_right (by omega) (by omega))
    · rw [updN_n hc]; exact b1 j hj
  · rw [Nat.testBit_or, Nat.testBit_two_pow]
    by_cases hc : i' = i
    · subst hc
      rw [updN_e rfl, Nat.testBit_or, Nat.testBit_two_pow, b3 _ hi' _ hw']
      congr 1
      exact decide_eq_decide.mpr (by omega)
    · rw [updN_n (fun h => hc (wi_inj h)), b3 _ hi' _ hw', show decide (6 * i + w = 6 * i' + w') = false from decide_eq_false (by omega), Bool.or_false]
  · exfalso
    obtain ⟨h1, h2, h3, h5, h6, h7⟩ := h
    have hc5 : i = 0 ∨ i = 1 ∨ i = 2 ∨ i = 3 ∨ i = 4 := by omega
    rcases hc5 with rfl | rfl | rfl | rfl | rfl
    · exact or_nz h1
    · exact or_nz h2
    · exact or_nz h3
    · exact or_nz h5
    · exact or_nz h6
theorem Lm_pair {H m : Nat → Nat} {B ib r i w v : Nat} {vr vs vb vg vt : Int32} {cf cs cr : Nat → Int32} (hi : i < 5) (hw : w < 6) (hM : Lm H m B ib r vr vs vb vg vt cf cs cr) : Lm (updN H (2 + 6 * i + w) v) (updN m (wiN i) (m (wiN i) ||| 2 ^ w)) (B ||| 2 ^ (6 * i + w)) 1 r vr vs (jI 1) vg (jI (B ||| 2 ^ (6 * i + w))) cf cs (upd cr (2 + 6 * i + w) (jI v)) := by
  obtain ⟨rfl, rfl, rfl, rfl, rfl, hg, hR⟩ := hM
  have hwi := wi_lt hi
  have u0 : updN H (2 + 6 * i + w) v 0 = H 0 := updN_n (by omega)
  unfold Lm
  rw [u0, updN_n (by omega), updN_n (by omega)]
  refine ⟨rfl, rfl, rfl, rfl, rfl, hg, fun k hk => ?_⟩
  by_cases hc : k = 2 + 6 * i + w
  · rw [upd_e hc, updN_e hc]
  · rw [upd_n hc, updN_n hc]; exact hR k hk
theorem told_pair {m : Nat → Nat} {ct : Nat → Int32} {x y : Nat} (h : ∀ j, j < 11 → ct j = jI (m j)) : ∀ j, j < 11 → upd ct x (jI y) j = jI (updN m x y j) := by
  intro j hj
  by_cases hc : j = x
  · rw [upd_e hc, updN_e hc]
  · rw [upd_n hc, updN_n hc]; exact h j hj
