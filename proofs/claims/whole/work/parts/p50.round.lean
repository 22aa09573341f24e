/-! TEXT: rounds. -/
/-- the games of r rounds -/
def gF (n : Nat) : Nat → Nat → Nat
  | 0 => fun _ => 0
  | r + 1 => apF n (r * zR n) (gF n r)
def gSd (n : Nat) : Nat → Nat → Nat
  | 0 => fun _ => 0
  | r + 1 => apS n (r * zR n) (gSd n r)
theorem gR_all : ∀ n, n < 7 → 1 ≤ n → jI n * (jI n - jI 1) / jI 2 = jI (zR n) := by decide +kernel
section
variable {v_place : Int32} {v_readGames : Int32} {v_spot : Int32} {v_taped : Int32} {v_token : Int32} {v_value : Int32} {v_wrong : Int32} {v_wrongAt : Int32} {c_cuts : Nat → Int32} {c_letters : Nat → Int32} {c_readFirst : Nat → Int32} {c_readSecond : Nat → Int32} {c_reads : Nat → Int32} {c_tape : Nat → Int32}
variable {N n z : Nat} {f s : Nat → Nat}
theorem readRound_47M {a : Nat} {Q : Int32 × Int32 × Int32 × Int32 × Int32 × Int32 × Int32 × (Nat → Int32) × (Nat → Int32) → Prop} {k31 : Int32 → Int32 → Int32 → Int32 → Int32 → Int32 → Int32 → Int32 → Int32 → (Nat → Int32) → (Nat → Int32) → Option (Int32 × Int32 × Int32 × Int32 × Int32 × Int32 × Int32 × (Nat → Int32) × (Nat → Int32))} (hN : 100 ≤ N) (hn : n ≤ 6) (ha : a < n) (hz : z + zR n ≤ 30) (h : ∀ g, g < z + rSt n a → c_readFirst g = jI (apF n z f g) ∧ c_readSecond g = jI (apS n z s g)) (hk : ∀ cf cs, (∀ g, g < z + rSt n (a + 1) → cf g = jI (apF n z f g) ∧ cs g = jI (apS n z s g)) → Ok (k31 (jI n) (jI (a + 1)) v_place (jI (z + rSt n (a + 1))) v_spot v_token v_value v_wrong v_wrongAt cf cs) Q) : Ok ((fX9_readRound_47 N v_taped c_cuts c_letters c_reads c_tape k31 N (jI n) (jI a) (jI (a + 1)) v_place (jI (z + rSt n a)) v_spot v_token v_value v_wrong v_wrongAt c_readFirst c_readSecond)) Q := by
  obtain ⟨r0, r1, r2, r3, r4, r5⟩ := rr_all n (by omega)
  have r3a := r3 a ha
  have hle : rSt n (a + 1) ≤ zR n := by
    rw [← r1]
    have : ∀ k, a + 1 + k ≤ n → rSt n (a + 1) ≤ rSt n (a + 1 + k) := by
      intro k
      induction k with
      | zero => intro _; exact Nat.le_refl _
      | succ k ih =>
        intro hk
        have := r3 (a + 1 + k) (by omega)
        have := ih (by omega)
        rw [show a + 1 + (k + 1) = a + 1 + k + 1 by omega]; omega
    have := this (n - (a + 1)) (by omega)
    rwa [show a + 1 + (n - (a + 1)) = n by omega] at this
  have key := up_ok (fun fu b (q : (Nat → Int32) × (Nat → Int32)) => (fX9_readRound_47 N v_taped c_cuts c_letters c_reads c_tape k31 fu (jI n) (jI a) (jI b) v_place (jI (z + rSt n a + (b - a - 1))) v_spot v_token v_value v_wrong v_wrongAt q.1 q.2)) Q n (fun b q => a < b ∧ (∀ g, g < z + rSt n a + (b - a - 1) → q.1 g = jI (apF n z f g) ∧ q.2 g = jI (apS n z s g))) ?_ ?_ N (a + 1) (c_readFirst, c_readSecond) (by omega) (by omega) ⟨by omega, fun g hg => h g (by omega)⟩
  · simp only [show a + 1 - a - 1 = 0 by omega, Nat.add_zero] at key
    exact key
  · intro fu b ⟨cf, cs⟩ hb ⟨hab, h1⟩ ih
    simp only at h1
    obtain ⟨q1, q2⟩ := r4 a ha b hb hab
    simp (disch := omega) only [jI_0, jI_1, jI_2, jI_3, jI_4, jI_5, jI_6, jI_7, jI_8, jI_9, jI_10, jI_11, jI_12, jI_13, jI_14, jI_15, jI_16, jI_20, jI_24, jI_26, jI_30, jI_31, jI_32, jI_40, jI_48, jI_56, jI_57, jI_59, jI_60, jI_97, jI_99, jI_122, jI_160, jI_240, jI_255, jI_768, jI_1000, ↓jN_1, ↓jN_2, ↓jN_3, ↓jN_4, ↓jN_8, ↓jN_10, ↓jN_11, ↓jN_12, ↓jN_14, ↓jN_20, jI_addN, jI_le, jI_lt, jI_eq, jI_cl, jI_in, jI_add, jI_sub, jI_eqN, gI_eqI, gI_eqN, gI_leI, gI_ltI, jI_leN, jI_ltN, gI_sub, pif_tt, pif_ff, pg_tt, isB, or_true, true_or, pif_T, pif_F, pg_T, pb_S, upd_e, upd_n, fX9_readRound_47]
    have ih2 := ih (upd cf (z + rSt n a + (b - a - 1)) (jI a), upd cs (z + rSt n a + (b - a - 1)) (jI b)) ⟨by omega, fun g hg => ?_⟩
    · simp only [show z + rSt n a + (b + 1 - a - 1) = z + rSt n a + (b - a - 1) + 1 by omega] at ih2
      exact ih2
    · show upd cf _ (jI a) g = _ ∧ upd cs _ (jI b) g = _
      by_cases hg2 : g = z + rSt n a + (b - a - 1)
      · rw [upd_e hg2, upd_e hg2]
        unfold apF apS
        rw [if_neg (by omega), if_neg (by omega), show g - z = rSt n a + (b - a - 1) by omega, q1, q2]
        exact ⟨rfl, rfl⟩
      · rw [upd_n hg2, upd_n hg2]; exact h1 g (by omega)
  · intro fu ⟨cf, cs⟩ ⟨hab, h1⟩
    simp only at h1
    have hsz : z + rSt n a + (n - a - 1) = z + rSt n (a + 1) := by omega
    rw [hsz] at h1 ⊢
    simp (disch := omega) only [jI_0, jI_1, jI_2, jI_3, jI_4, jI_5, jI_6, jI_7, jI_8, jI_9, jI_10, jI_11, jI_12, jI_13, jI_14, jI_15, jI_16, jI_20, jI_24, jI_26, jI_30, jI_31, jI_32, jI_40, jI_48, jI_56, jI_57, jI_59, jI_60, jI_97, jI_99, jI_122, jI_160, jI_240, jI_255, jI_768, jI_1000, ↓jN_1, ↓jN_2, ↓jN_3, ↓jN_4, ↓jN_8, ↓jN_10, ↓jN_11, ↓jN_12, ↓jN_14, ↓jN_20, jI_addN, jI_le, jI_lt, jI_eq, jI_cl, jI_in, jI_add, jI_sub, jI_eqN, gI_eqI, gI_eqN, gI_leI, gI_ltI, jI_leN, jI_ltN, gI_sub, pif_tt, pif_ff, pg_tt, isB, or_true, true_or, pif_T, pif_F, pg_T, pb_S, upd_e, upd_n, fX9_readRound_47]
    exact hk cf cs h1
theorem readRound_31M {Q : Int32 × Int32 × Int32 × Int32 × Int32 × Int32 × Int32 × (Nat → Int32) × (Nat → Int32) → Prop} (hN : 100 ≤ N) (hn : n ≤ 6) (hz : z + zR n ≤ 30) (h : ∀ g, g < z → c_readFirst g = jI (f g) ∧ c_readSecond g = jI (s g)) (hk : ∀ cf cs, (∀ g, g < z + zR n → cf g = jI (apF n z f g) ∧ cs g = jI (apS n z s g)) → Ok ((fX9_readRound_94 N v_taped c_cuts c_letters c_reads c_tape v_place (jI (z + zR n)) v_spot v_token v_value (jI 0) v_wrongAt cf cs)) Q) : Ok ((fX9_readRound_31 N v_taped c_cuts c_letters c_reads c_tape N (jI n) (jI 0) v_place (jI z) v_spot v_token v_value (jI 0) v_wrongAt c_readFirst c_readSecond)) Q := by
  obtain ⟨r0, r1, r2, r3, r4, r5⟩ := rr_all n (by omega)
  have key := up_ok (fun fu a (q : (Nat → Int32) × (Nat → Int32)) => (fX9_readRound_31 N v_taped c_cuts c_letters c_reads c_tape fu (jI n) (jI a) v_place (jI (z + rSt n a)) v_spot v_token v_value (jI 0) v_wrongAt q.1 q.2)) Q n (fun a q => (∀ g, g < z + rSt n a → q.1 g = jI (apF n z f g) ∧ q.2 g = jI (apS n z s g))) ?_ ?_ N 0 (c_readFirst, c_readSecond) (by omega) (by omega) (fun g hg => ?_)
  · simp only [r0, Nat.add_zero] at key
    exact key
  · intro fu a ⟨cf, cs⟩ ha h1 ih
    simp only at h1
    simp (disch := omega) only [jI_0, jI_1, jI_2, jI_3, jI_4, jI_5, jI_6, jI_7, jI_8, jI_9, jI_10, jI_11, jI_12, jI_13, jI_14, jI_15, jI_16, jI_20, jI_24, jI_26, jI_30, jI_31, jI_32, jI_40, jI_48, jI_56, jI_57, jI_59, jI_60, jI_97, jI_99, jI_122, jI_160, jI_240, jI_255, jI_768, jI_1000, ↓jN_1, ↓jN_2, ↓jN_3, ↓jN_4, ↓jN_8, ↓jN_10, ↓jN_11, ↓jN_12, ↓jN_14, ↓jN_20, jI_addN, jI_le, jI_lt, jI_eq, jI_cl, jI_in, jI_add, jI_sub, jI_eqN, gI_eqI, gI_eqN, gI_leI, gI_ltI, jI_leN, jI_ltN, gI_sub, pif_tt, pif_ff, pg_tt, isB, or_true, true_or, pif_T, pif_F, pg_T, pb_S, upd_e, upd_n, fX9_readRound_31]
    refine readRound_47M (z := z) (f := f) (s := s) hN hn ha hz h1 (fun cf2 cs2 k1 => ?_)
    exact ih (cf2, cs2) k1
  · intro fu ⟨cf, cs⟩ h1
    simp only at h1
    rw [r1] at h1 ⊢
    simp (disch := omega) only [jI_0, jI_1, jI_2, jI_3, jI_4, jI_5, jI_6, jI_7, jI_8, jI_9, jI_10, jI_11, jI_12, jI_13, jI_14, jI_15, jI_16, jI_20, jI_24, jI_26, jI_30, jI_31, jI_32, jI_40, jI_48, jI_56, jI_57, jI_59, jI_60, jI_97, jI_99, jI_122, jI_160, jI_240, jI_255, jI_768, jI_1000, ↓jN_1, ↓jN_2, ↓jN_3, ↓jN_4, ↓jN_8, ↓jN_10, ↓jN_11, ↓jN_12, ↓jN_14, ↓jN_20, jI_addN, jI_le, jI_lt, jI_eq, jI_cl, jI_in, jI_add, jI_sub, jI_eqN, gI_eqI, gI_eqN, gI_leI, gI_ltI, jI_leN, jI_ltN, gI_sub, pif_tt, pif_ff, pg_tt, isB, or_true, true_or, pif_T, pif_F, pg_T, pb_S, upd_e, upd_n, fX9_readRound_31]
    exact hk cf cs h1
  · show c_readFirst g = _ ∧ c_readSecond g = _
    unfold apF apS
    rw [if_pos (by omega), if_pos (by omega)]
    exact h g (by omega)
/-- one more round -/
theorem readRoundM {t k r : Nat} {tp : Nat → Nat} (hN : 1000 ≤ N) (ht : t ≤ 240) (h256 : ∀ k, k < 240 → tp k < 256) (hb : ∀ k, k < t → c_tape k = jI (tp k)) (hc : Cu c_cuts c_letters) (hn : n ≤ 6) (hn2 : 2 ≤ n) (hr : r * zR n ≤ 30) (h0 : c_reads 0 = jI n) (h : ∀ g, g < r * zR n → c_readFirst g = jI (gF n r g) ∧ c_readSecond g = jI (gSd n r g)) : Ok ((fX9_readRound N v_place (jI (r * zR n)) (jI (ps t tp k)) (jI t) v_token v_value (jI 0) v_wrongAt c_cuts c_letters c_readFirst c_readSecond c_reads c_tape)) (fun q => ((r + 1) * zR n ≤ 30 → q.2.1 = jI ((r + 1) * zR n) ∧ (∀ g, g < (r + 1) * zR n → q.2.2.2.2.2.2.2.1 g = jI (gF n (r + 1) g) ∧ q.2.2.2.2.2.2.2.2 g = jI (gSd n (r + 1) g)) ∧ (kK t tp k ≠ 4 → q.1 = jI (kS t tp k) ∧ q.2.2.1 = jI (ps t tp (k + 1)) ∧ q.2.2.2.1 = jI (kK t tp k) ∧ q.2.2.2.2.1 = jI (kR t tp k) ∧ q.2.2.2.2.2.1 = jI 0) ∧ (kK t tp k = 4 → q.2.2.2.2.2.1 = jI 1 ∧ q.2.2.2.2.2.2.1 = jI (kS t tp k))) ∧ (¬ (r + 1) * zR n ≤ 30 → q.2.2.2.2.2.1 = jI 5 ∧ q.2.2.2.2.2.2.1 = v_place)) := by
  have hsum : (r + 1) * zR n = r * zR n + zR n := by rw [Nat.add_mul, Nat.one_mul]
  have hz15 := zR_le hn
  have hg := gR_all n (by omega) (by omega)
  rw [jI_sub (by omega)] at hg
  by_cases hz : r * zR n + zR n ≤ 30
  · have key : Ok ((fX9_readRound_31 N (jI t) c_cuts c_letters c_reads c_tape N (jI n) (jI 0) v_place (jI (r * zR n)) (jI (ps t tp k)) v_token v_value (jI 0) v_wrongAt c_readFirst c_readSecond)) (fun q => ((r + 1) * zR n ≤ 30 → q.2.1 = jI ((r + 1) * zR n) ∧ (∀ g, g < (r + 1) * zR n → q.2.2.2.2.2.2.2.1 g = jI (gF n (r + 1) g) ∧ q.2.2.2.2.2.2.2.2 g = jI (gSd n (r + 1) g)) ∧ (kK t tp k ≠ 4 → q.1 = jI (kS t tp k) ∧ q.2.2.1 = jI (ps t tp (k + 1)) ∧ q.2.2.2.1 = jI (kK t tp k) ∧ q.2.2.2.2.1 = jI (kR t tp k) ∧ q.2.2.2.2.2.1 = jI 0) ∧ (kK t tp k = 4 → q.2.2.2.2.2.1 = jI 1 ∧ q.2.2.2.2.2.2.1 = jI (kS t tp k))) ∧ (¬ (r + 1) * zR n ≤ 30 → q.2.2.2.2.2.1 = jI 5 ∧ q.2.2.2.2.2.2.1 = v_place)) := by
      refine readRound_31M (z := r * zR n) (f := gF n r) (s := gSd n r) (by omega) hn hz h (fun cf cs hcf => ?_)
      unfold fX9_readRound_94
      refine Ok.b (nxM (N := N) (t := t) (tp := tp) (k := k) hN ht h256 hb hc) (fun q hq => Ok.s ⟨fun _ => ⟨by rw [hsum], ?_, fun h4 => ?_, fun h4 => hq.2 h4⟩, fun hno => by omega⟩)
      · intro g hg
        rw [hsum] at hg
        exact hcf g hg
      · have := hq.1 h4
        subst this
        exact ⟨rfl, rfl, rfl, rfl, rfl⟩
    have h30 : ¬ 30 < r * zR n + zR n := by omega
    simp (disch := omega) only [jI_0, jI_1, jI_2, jI_3, jI_4, jI_5, jI_6, jI_7, jI_8, jI_9, jI_10, jI_11, jI_12, jI_13, jI_14, jI_15, jI_16, jI_20, jI_24, jI_26, jI_30, jI_31, jI_32, jI_40, jI_48, jI_56, jI_57, jI_59, jI_60, jI_97, jI_99, jI_122, jI_160, jI_240, jI_255, jI_768, jI_1000, ↓jN_1, ↓jN_2, ↓jN_3, ↓jN_4, ↓jN_8, ↓jN_10, ↓jN_11, ↓jN_12, ↓jN_14, ↓jN_20, jI_addN, jI_le, jI_lt, jI_eq, jI_cl, jI_in, jI_add, jI_sub, jI_eqN, gI_eqI, gI_eqN, gI_leI, gI_ltI, jI_leN, jI_ltN, gI_sub, pif_tt, pif_ff, pg_tt, isB, or_true, true_or, pif_T, pif_F, pg_T, pb_S, upd_e, upd_n, fX9_readRound, fX9_readRound_29, h0, hg]
    exact key
  · have h30 : ¬ (r + 1) * zR n ≤ 30 := by omega
    obtain ⟨N', rfl⟩ : ∃ N', N = N' + 1 := ⟨N - 1, by omega⟩
    simp (disch := omega) only [jI_0, jI_1, jI_2, jI_3, jI_4, jI_5, jI_6, jI_7, jI_8, jI_9, jI_10, jI_11, jI_12, jI_13, jI_14, jI_15, jI_16, jI_20, jI_24, jI_26, jI_30, jI_31, jI_32, jI_40, jI_48, jI_56, jI_57, jI_59, jI_60, jI_97, jI_99, jI_122, jI_160, jI_240, jI_255, jI_768, jI_1000, ↓jN_1, ↓jN_2, ↓jN_3, ↓jN_4, ↓jN_8, ↓jN_10, ↓jN_11, ↓jN_12, ↓jN_14, ↓jN_20, jI_addN, jI_le, jI_lt, jI_eq, jI_cl, jI_in, jI_add, jI_sub, jI_eqN, gI_eqI, gI_eqN, gI_leI, gI_ltI, jI_leN, jI_ltN, gI_sub, pif_tt, pif_ff, pg_tt, isB, or_true, true_or, pif_T, pif_F, pg_T, pb_S, upd_e, upd_n, fX9_readRound, fX9_readRound_29, h0, hg, fX9_readRound_31, fX9_readRound_94, failM, nextWe]
    exact Ok.s ⟨fun h => absurd h h30, fun _ => ⟨rfl, rfl⟩⟩
end
