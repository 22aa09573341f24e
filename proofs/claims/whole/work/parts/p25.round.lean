/-! A round's GAMES; draws. -/
def zR (n : Nat) : Nat := n * (n - 1) / 2
def rSt (n a : Nat) : Nat := a * n - a * (a + 1) / 2
def rF (n g : Nat) : Nat := cnt n (fun a => decide (rSt n (a + 1) ≤ g))
def rS (n g : Nat) : Nat := rF n g + 1 + (g - rSt n (rF n g))
theorem rr_all : ∀ n, n < 7 → (rSt n 0 = 0 ∧ rSt n n = zR n ∧ zR n ≤ 15 ∧ (∀ a, a < n → rSt n (a + 1) = rSt n a + (n - a - 1)) ∧ (∀ a, a < n → ∀ b, b < n → a < b → rF n (rSt n a + (b - a - 1)) = a ∧ rS n (rSt n a + (b - a - 1)) = b) ∧ (∀ g, g < zR n → rF n g < n ∧ rS n g < n ∧ rF n g ≠ rS n g)) := by decide +kernel
theorem zR_le {n : Nat} (hn : n ≤ 6) : zR n ≤ 15 := (rr_all n (by omega)).2.2.1
section
variable {v_size : Int32} {c_ending : Nat → Int32} {c_first : Nat → Int32} {c_second : Nat → Int32}
variable {N n z : Nat} {f s : Nat → Nat}
/-- GAMES of a round behind those that are there -/
def apF (n z : Nat) (f : Nat → Nat) (g : Nat) : Nat := if g < z then f g else rF n (g - z)
def apS (n z : Nat) (s : Nat → Nat) (g : Nat) : Nat := if g < z then s g else rS n (g - z)
theorem addRound_11 {a : Nat} {Q : Int32 × (Nat → Int32) × (Nat → Int32) × (Nat → Int32) → Prop} {k2 : Int32 → Int32 → (Nat → Int32) → (Nat → Int32) → (Nat → Int32) → Option (Int32 × (Nat → Int32) × (Nat → Int32) × (Nat → Int32))} (hN : 100 ≤ N) (hn : n ≤ 6) (ha : a < n) (hz : z + zR n ≤ 30) (h : ∀ g, g < z + rSt n a → c_first g = jI (apF n z f g) ∧ c_second g = jI (apS n z s g)) (hk : ∀ ce cf cs, (∀ g, g < z + rSt n (a + 1) → cf g = jI (apF n z f g) ∧ cs g = jI (apS n z s g)) → (∀ g, g < z + rSt n a → ce g = c_ending g) → (∀ g, z + rSt n a ≤ g → g < z + rSt n (a + 1) → ce g = jI 2) → Ok (k2 (jI (a + 1)) (jI (z + rSt n (a + 1))) ce cf cs) Q) : Ok ((fX0_addRound_11 N (jI n) k2 N (jI a) (jI (a + 1)) (jI (z + rSt n a)) c_ending c_first c_second)) Q := by
  obtain ⟨r0, r1, r2, r3, r4, r5⟩ := rr_all n (by omega)
  have r3a := r3 a ha
  have hle : rSt n (a + 1) ≤ zR n := by
    rw [← r1]
    have : ∀ k, a + 1 + k ≤ n → rSt n (a + 1) ≤ rSt n (a + 1 + k) := by
      intro k
      induction k with
      | zero => intro _; exact Nat.le_refl _
      | succ k ih =>
        intro hk
        have := r3 (a + 1 + k) (by omega)
        have := ih (by omega)
        rw [show a + 1 + (k + 1) = a + 1 + k + 1 by omega]; omega
    have := this (n - (a + 1)) (by omega)
    rwa [show a + 1 + (n - (a + 1)) = n by omega] at this
  have key := up_ok (fun fu b (q : (Nat → Int32) × (Nat → Int32) × (Nat → Int32)) => (fX0_addRound_11 N (jI n) k2 fu (jI a) (jI b) (jI (z + rSt n a + (b - a - 1))) q.1 q.2.1 q.2.2)) Q n (fun b q => a < b ∧ (∀ g, g < z + rSt n a + (b - a - 1) → q.2.1 g = jI (apF n z f g) ∧ q.2.2 g = jI (apS n z s g)) ∧ (∀ g, g < z + rSt n a → q.1 g = c_ending g) ∧ (∀ g, z + rSt n a ≤ g → g < z + rSt n a + (b - a - 1) → q.1 g = jI 2)) ?_ ?_ N (a + 1) (c_ending, c_first, c_second) (by omega) (by omega) ⟨by omega, fun g hg => h g (by omega), fun _ _ => rfl, fun g h1 h2 => by omega⟩
  · simp only [show a + 1 - a - 1 = 0 by omega, Nat.add_zero] at key
    exact key
  · intro fu b ⟨ce, cf, cs⟩ hb ⟨hab, h1, h2, h3⟩ ih
    simp only at h1 h2 h3
    obtain ⟨q1, q2⟩ := r4 a ha b hb hab
    have hsz : jI (z + rSt n a + (b - a - 1)) + jI 1 = jI (z + rSt n a + (b + 1 - a - 1)) := by
      rw [jI_add]; congr 1; omega
    simp (disch := omega) only [jI_0, jI_1, jI_2, jI_3, jI_4, jI_5, jI_6, jI_7, jI_8, jI_9, jI_10, jI_11, jI_12, jI_13, jI_14, jI_15, jI_16, jI_20, jI_24, jI_26, jI_30, jI_31, jI_32, jI_40, jI_48, jI_56, jI_57, jI_59, jI_60, jI_97, jI_99, jI_122, jI_160, jI_240, jI_255, jI_768, jI_1000, ↓jN_1, ↓jN_2, ↓jN_3, ↓jN_4, ↓jN_8, ↓jN_10, ↓jN_11, ↓jN_12, ↓jN_14, ↓jN_20, jI_addN, jI_le, jI_lt, jI_eq, jI_cl, jI_in, jI_add, jI_sub, jI_eqN, gI_eqI, gI_eqN, gI_leI, gI_ltI, jI_leN, jI_ltN, gI_sub, pif_tt, pif_ff, pg_tt, isB, or_true, true_or, pif_T, pif_F, pg_T, pb_S, upd_e, upd_n, fX0_addRound_11, fX0_add]
    have ih2 := ih (upd ce (z + rSt n a + (b - a - 1)) (jI 2), upd cf (z + rSt n a + (b - a - 1)) (jI a), upd cs (z + rSt n a + (b - a - 1)) (jI b)) ⟨by omega, fun g hg => ?_, fun g hg => ?_, fun g hg1 hg2 => ?_⟩
    · simp only [show z + rSt n a + (b + 1 - a - 1) = z + rSt n a + (b - a - 1) + 1 by omega] at ih2
      exact ih2
    · show upd cf _ (jI a) g = _ ∧ upd cs _ (jI b) g = _
      by_cases hg2 : g = z + rSt n a + (b - a - 1)
      · rw [upd_e hg2, upd_e hg2]
        unfold apF apS
        rw [if_neg (by omega), if_neg (by omega), show g - z = rSt n a + (b - a - 1) by omega, q1, q2]
        exact ⟨rfl, rfl⟩
      · rw [upd_n hg2, upd_n hg2]; exact h1 g (by omega)
    · show upd ce _ (jI 2) g = _
      rw [upd_n (by omega)]; exact h2 g hg
    · show upd ce _ (jI 2) g = _
      by_cases hg3 : g = z + rSt n a + (b - a - 1)
      · rw [upd_e hg3]
      · rw [upd_n hg3]; exact h3 g hg1 (by omega)
  · intro fu ⟨ce, cf, cs⟩ ⟨hab, h1, h2, h3⟩
    simp only at h1 h2 h3
    have hsz : z + rSt n a + (n - a - 1) = z + rSt n (a + 1) := by omega
    rw [hsz] at h1 h3 ⊢
    simp (disch := omega) only [jI_0, jI_1, jI_2, jI_3, jI_4, jI_5, jI_6, jI_7, jI_8, jI_9, jI_10, jI_11, jI_12, jI_13, jI_14, jI_15, jI_16, jI_20, jI_24, jI_26, jI_30, jI_31, jI_32, jI_40, jI_48, jI_56, jI_57, jI_59, jI_60, jI_97, jI_99, jI_122, jI_160, jI_240, jI_255, jI_768, jI_1000, ↓jN_1, ↓jN_2, ↓jN_3, ↓jN_4, ↓jN_8, ↓jN_10, ↓jN_11, ↓jN_12, ↓jN_14, ↓jN_20, jI_addN, jI_le, jI_lt, jI_eq, jI_cl, jI_in, jI_add, jI_sub, jI_eqN, gI_eqI, gI_eqN, gI_leI, gI_ltI, jI_leN, jI_ltN, gI_sub, pif_tt, pif_ff, pg_tt, isB, or_true, true_or, pif_T, pif_F, pg_T, pb_S, upd_e, upd_n, fX0_addRound_11]
    exact hk ce cf cs h1 h2 h3
theorem addRoundX (hN : 100 ≤ N) (hn : n ≤ 6) (hz : z + zR n ≤ 30) (h : ∀ g, g < z → c_first g = jI (f g) ∧ c_second g = jI (s g)) : Ok ((fX0_addRound N (jI z) c_ending c_first c_second (jI n))) (fun q => q.1 = jI (z + zR n) ∧ (∀ g, g < z + zR n → q.2.2.1 g = jI (apF n z f g) ∧ q.2.2.2 g = jI (apS n z s g)) ∧ (∀ g, g < z → q.2.1 g = c_ending g) ∧ (∀ g, z ≤ g → g < z + zR n → q.2.1 g = jI 2)) := by
  obtain ⟨r0, r1, r2, r3, r4, r5⟩ := rr_all n (by omega)
  unfold fX0_addRound
  have key := up_ok (fun fu a (q : (Nat → Int32) × (Nat → Int32) × (Nat → Int32)) => (fX0_addRound_2 N (jI n) fu (jI a) (jI (z + rSt n a)) q.1 q.2.1 q.2.2)) (fun q => q.1 = jI (z + zR n) ∧ (∀ g, g < z + zR n → q.2.2.1 g = jI (apF n z f g) ∧ q.2.2.2 g = jI (apS n z s g)) ∧ (∀ g, g < z → q.2.1 g = c_ending g) ∧ (∀ g, z ≤ g → g < z + zR n → q.2.1 g = jI 2)) n (fun a q => (∀ g, g < z + rSt n a → q.2.1 g = jI (apF n z f g) ∧ q.2.2 g = jI (apS n z s g)) ∧ (∀ g, g < z → q.1 g = c_ending g) ∧ (∀ g, z ≤ g → g < z + rSt n a → q.1 g = jI 2)) ?_ ?_ N 0 (c_ending, c_first, c_second) (by omega) (by omega) ⟨fun g hg => ?_, fun _ _ => rfl, fun g h1 h2 => by omega⟩
  · simp only [r0, Nat.add_zero] at key
    exact key
  · intro fu a ⟨ce, cf, cs⟩ ha ⟨h1, h2, h3⟩ ih
    simp only at h1 h2 h3
    simp (disch := omega) only [jI_0, jI_1, jI_2, jI_3, jI_4, jI_5, jI_6, jI_7, jI_8, jI_9, jI_10, jI_11, jI_12, jI_13, jI_14, jI_15, jI_16, jI_20, jI_24, jI_26, jI_30, jI_31, jI_32, jI_40, jI_48, jI_56, jI_57, jI_59, jI_60, jI_97, jI_99, jI_122, jI_160, jI_240, jI_255, jI_768, jI_1000, ↓jN_1, ↓jN_2, ↓jN_3, ↓jN_4, ↓jN_8, ↓jN_10, ↓jN_11, ↓jN_12, ↓jN_14, ↓jN_20, jI_addN, jI_le, jI_lt, jI_eq, jI_cl, jI_in, jI_add, jI_sub, jI_eqN, gI_eqI, gI_eqN, gI_leI, gI_ltI, jI_leN, jI_ltN, gI_sub, pif_tt, pif_ff, pg_tt, isB, or_true, true_or, pif_T, pif_F, pg_T, pb_S, upd_e, upd_n, fX0_addRound_2]
    refine addRound_11 (z := z) (f := f) (s := s) hN hn ha hz h1 (fun ce2 cf2 cs2 k1 k2 k3 => ?_)
    refine ih (ce2, cf2, cs2) ⟨k1, fun g hg => ?_, fun g hg1 hg2 => ?_⟩
    · show ce2 g = _
      rw [k2 g (by omega)]; exact h2 g hg
    · show ce2 g = _
      by_cases hg3 : g < z + rSt n a
      · rw [k2 g hg3]; exact h3 g hg1 hg3
      · exact k3 g (by omega) hg2
  · intro fu ⟨ce, cf, cs⟩ ⟨h1, h2, h3⟩
    simp only at h1 h2 h3
    rw [r1] at h1 h3 ⊢
    simp (disch := omega) only [jI_0, jI_1, jI_2, jI_3, jI_4, jI_5, jI_6, jI_7, jI_8, jI_9, jI_10, jI_11, jI_12, jI_13, jI_14, jI_15, jI_16, jI_20, jI_24, jI_26, jI_30, jI_31, jI_32, jI_40, jI_48, jI_56, jI_57, jI_59, jI_60, jI_97, jI_99, jI_122, jI_160, jI_240, jI_255, jI_768, jI_1000, ↓jN_1, ↓jN_2, ↓jN_3, ↓jN_4, ↓jN_8, ↓jN_10, ↓jN_11, ↓jN_12, ↓jN_14, ↓jN_20, jI_addN, jI_le, jI_lt, jI_eq, jI_cl, jI_in, jI_add, jI_sub, jI_eqN, gI_eqI, gI_eqN, gI_leI, gI_ltI, jI_leN, jI_ltN, gI_sub, pif_tt, pif_ff, pg_tt, isB, or_true, true_or, pif_T, pif_F, pg_T, pb_S, upd_e, upd_n, fX0_addRound_2]
    exact Ok.s ⟨rfl, h1, h2, h3⟩
  · show c_first g = _ ∧ c_second g = _
    unfold apF apS
    rw [if_pos (by omega), if_pos (by omega)]
    exact h g (by omega)
end
/-- the bits that a draw takes -/
def bN (x : Int32) : Nat := x.toBitVec.toNat / 65536 % 32768
theorem bN_lt (x : Int32) : bN x < 32768 := Nat.mod_lt _ (by omega)
theorem bits_u (x : BitVec 32) : (x >>> 16) &&& 32767#32 = BitVec.ofNat 32 (x.toNat / 65536 % 32768) := by
  apply BitVec.eq_of_toNat_eq
  rw [BitVec.toNat_and, BitVec.toNat_ushiftRight, BitVec.toNat_ofNat, BitVec.toNat_ofNat, Nat.shiftRight_eq_div_pow]
  rw [show 32767 % 2 ^ 32 = 2 ^ 15 - 1 from rfl, Nat.and_two_pow_sub_one_eq_mod]
  have : x.toNat / 65536 % 32768 < 32768 := Nat.mod_lt _ (by omega)
  rw [Nat.mod_eq_of_lt (a := x.toNat / 65536 % 32768) (by omega)]
theorem bit15 : ∀ i, i < 32 → (32767#32).getLsbD i = decide (i < 15) := by decide
theorem bits_s (x : BitVec 32) : (x.sshiftRight 16) &&& 32767#32 = (x >>> 16) &&& 32767#32 := by
  apply BitVec.eq_of_getLsbD_eq
  intro i hi
  rw [BitVec.getLsbD_and, BitVec.getLsbD_and, bit15 i hi, BitVec.getLsbD_ushiftRight, BitVec.getLsbD_sshiftRight]
  by_cases h : i < 15
  · rw [if_pos (by omega), show decide (32 ≤ i) = false by simp; omega]
    simp
  · simp [h]
theorem bits_X (x : Int32) : ((x.toUInt32 >>> ((16 : Int32).toUInt32 &&& Int32.toUInt32 31)).toInt32) &&& 32767 = jI (bN x) := by
  apply Int32.toBitVec_inj.mp
  exact bits_u x.toBitVec
theorem bits_M (x : Int32) : (x >>> ((16 : Int32) &&& 31)) &&& 32767 = jI (bN x) := by
  apply Int32.toBitVec_inj.mp
  exact (bits_s x.toBitVec).trans (bits_u x.toBitVec)
def nxS (x : Int32) : Int32 := x * 1103515245 + 12345
theorem drawX {N k : Nat} {x : Int32} (hk : 0 < k) (hk2 : k < 1000) : fX7_draw N x (jI k) = some (jI (bN (nxS x) % k), nxS x) := by
  have h0 : ¬ jI k ≤ 0 := by
    show ¬ jI k ≤ jI 0
    rw [jI_le (by omega) (by omega)]; omega
  have h1 : ¬ jI k = 0 := by
    show ¬ jI k = jI 0
    rw [jI_eq (by omega) (by omega)]; omega
  have hb := bN_lt (nxS x)
  unfold fX7_draw fX7_draw_38
  rw [pif_F h0, pg_T h1, bits_X]
  show some (jI (bN (nxS x)) - jI (bN (nxS x)) / jI k * jI k, nxS x) = _
  rw [jI_rem (by omega) (by omega)]
theorem drawM {N k : Nat} {x : Int32} (hk : 0 < k) (hk2 : k < 1000) : fX9_drawOf N x (jI k) = some (jI (bN (nxS x) % k), nxS x) := by
  have h1 : ¬ jI k = 0 := by
    show ¬ jI k = jI 0
    rw [jI_eq (by omega) (by omega)]; omega
  have hb := bN_lt (nxS x)
  unfold fX9_drawOf
  rw [pg_T h1, bits_M]
  show some (jI (bN (nxS x)) - jI (bN (nxS x)) / jI k * jI k, nxS x) = _
  rw [jI_rem (by omega) (by omega)]
