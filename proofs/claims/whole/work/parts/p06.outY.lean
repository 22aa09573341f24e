/-! Who is OUT: the class, its loops. -/
theorem jI_mx {a b : Nat} {i : Decidable (a < b)} : @ite Int32 (a < b) i (jI b) (jI a) = jI (max a b) := by
  by_cases h : a < b
  · rw [if_pos h, Nat.max_eq_right (by omega)]
  · rw [if_neg h, Nat.max_eq_left (by omega)]
theorem mxN_step {n w : Nat} {V W : Nat → Nat} (hw : w < n) (h : ∀ j, j < n → V j = W j + (if w = j then 1 else 0)) : mxN n V = max (mxN n W) (W w + 1) := by
  apply Nat.le_antisymm
  · refine mxN_le.mpr (fun j hj => ?_)
    have h1 := (mxN_le (a := mxN n W) (m := n) (W := W)).mp (Nat.le_refl _) j hj
    rw [h j hj]
    by_cases e : w = j
    · subst e; rw [if_pos rfl]; omega
    · rw [if_neg e]; omega
  · rw [Nat.max_le]
    refine ⟨mxN_le.mpr (fun j hj => ?_), ?_⟩
    · have h1 := (mxN_le (a := mxN n V) (m := n) (W := V)).mp (Nat.le_refl _) j hj
      rw [h j hj] at h1; omega
    · have h1 := (mxN_le (a := mxN n V) (m := n) (W := V)).mp (Nat.le_refl _) w hw
      rw [h w hw, if_pos rfl] at h1; omega
theorem winr_lt {n z g : Nat} {f s e : Nat → Nat} (hk : Gk n z f s e) (hg : g < z) (he : e g ≠ 2) : winr f s e g < n := by
  obtain ⟨k1, k2, k3, k4⟩ := hk.2.2 g hg
  unfold winr; split; exact k1; split; exact k2; omega
theorem winr_open {e f s : Nat → Nat} {g : Nat} (he : e g = 2) : winr f s e g = 99 := by
  unfold winr; rw [if_neg (by omega), if_neg (by omega)]
theorem out_open {n z t i : Nat} {f s e : Nat → Nat} (hi : i < n) (hn : n ≤ 6) (ht : t < z) (he : e t = 2) (h : ¬ fstN t (fun g => isO n f s e z (g + 1) i) < t) : isO n f s e z (t + 1) i = false := by
  rw [isO_open hi hn ht he]
  cases t with
  | zero => exact isO_zero n f s e z i
  | succ t =>
    have h1 := fstN_le (t + 1) (fun g => isO n f s e z (g + 1) i)
    exact fstN_miss (m := t + 1) (p := fun g => isO n f s e z (g + 1) i) t (by omega)
theorem winX {N n z g : Nat} {f s e : Nat → Nat} {vz : Int32} {cf cs ce : Nat → Int32} (hk : Gk n z f s e) (hG : Gc z f s e vz cf cs ce) (hg : g < z) (he : e g ≠ 2) : fX0_winner N ce cf cs (jI g) = some (jI (winr f s e g)) := by
  obtain ⟨g1, g2, g3⟩ := hG.2 g hg
  obtain ⟨k1, k2, k3, k4⟩ := hk.2.2 g hg
  have hn := hk.1
  have hz := hk.2.1
  by_cases h0 : e g = 0
  · have hx : winr f s e g = f g := by unfold winr; rw [if_pos h0]
    rw [hx]
    simp (disch := omega) only [jI_0, jI_1, jI_2, jI_3, jI_4, jI_5, jI_6, jI_7, jI_8, jI_9, jI_10, jI_11, jI_12, jI_13, jI_14, jI_15, jI_16, jI_20, jI_24, jI_26, jI_30, jI_31, jI_32, jI_40, jI_48, jI_56, jI_57, jI_59, jI_60, jI_97, jI_99, jI_122, jI_160, jI_240, jI_255, jI_768, jI_1000, ↓jN_1, ↓jN_2, ↓jN_3, ↓jN_4, ↓jN_8, ↓jN_10, ↓jN_11, ↓jN_12, ↓jN_14, ↓jN_20, jI_addN, jI_le, jI_lt, jI_eq, jI_cl, jI_in, jI_add, jI_sub, jI_eqN, gI_eqI, gI_eqN, gI_leI, gI_ltI, jI_leN, jI_ltN, gI_sub, pif_tt, pif_ff, pg_tt, isB, or_true, true_or, pif_T, pif_F, pg_T, pb_S, upd_e, upd_n, fX0_winner, fX0_winner_24, g1, g2, g3]
  · have hx : winr f s e g = s g := by unfold winr; rw [if_neg h0, if_pos (by omega)]
    rw [hx]
    simp (disch := omega) only [jI_0, jI_1, jI_2, jI_3, jI_4, jI_5, jI_6, jI_7, jI_8, jI_9, jI_10, jI_11, jI_12, jI_13, jI_14, jI_15, jI_16, jI_20, jI_24, jI_26, jI_30, jI_31, jI_32, jI_40, jI_48, jI_56, jI_57, jI_59, jI_60, jI_97, jI_99, jI_122, jI_160, jI_240, jI_255, jI_768, jI_1000, ↓jN_1, ↓jN_2, ↓jN_3, ↓jN_4, ↓jN_8, ↓jN_10, ↓jN_11, ↓jN_12, ↓jN_14, ↓jN_20, jI_addN, jI_le, jI_lt, jI_eq, jI_cl, jI_in, jI_add, jI_sub, jI_eqN, gI_eqI, gI_eqN, gI_leI, gI_ltI, jI_leN, jI_ltN, gI_sub, pif_tt, pif_ff, pg_tt, isB, or_true, true_or, pif_T, pif_F, pg_T, pb_S, upd_e, upd_n, fX0_winner, fX0_winner_24, g1, g2, g3]
section
variable {v_sides : Int32} {c_merit : Nat → Int32} {c_outAt : Nat → Int32} {v_p1_size : Int32} {c_p1_ending : Nat → Int32} {c_p1_first : Nat → Int32} {c_p1_second : Nat → Int32} {c_toCome : Nat → Int32} {c_won : Nat → Int32}
variable {N n z : Nat} {f s e : Nat → Nat}
theorem findOut_47 {Q : (Nat → Int32) × (Nat → Int32) × (Nat → Int32) × (Nat → Int32) → Prop} (hN : 100 ≤ N) (hk : Gk n z f s e) (hG : Gc z f s e v_p1_size c_p1_first c_p1_second c_p1_ending) (h0 : ∀ j, j < n → c_toCome j = jI 0) (hQ : ∀ ct, (∀ j, j < n → ct j = jI (toC f s e z 0 j)) → Ok ((fX4_findOut_95 N (jI n) v_p1_size c_p1_ending c_p1_first c_p1_second N 0 0 c_merit c_outAt ct c_won)) Q) : Ok ((fX4_findOut_47 N (jI n) v_p1_size c_p1_ending c_p1_first c_p1_second N 0 c_merit c_outAt c_toCome c_won)) Q := by
  obtain ⟨rfl, hG⟩ := hG
  obtain ⟨hn, hz, hk⟩ := hk
  refine up_ok (fun fu i ct => (fX4_findOut_47 N (jI n) (jI z) c_p1_ending c_p1_first c_p1_second fu (jI i) c_merit c_outAt ct c_won)) Q z (fun i ct => ∀ j, j < n → ct j = jI (cnt i (fun g => ownB f s g j))) ?_ ?_ N 0 c_toCome (by omega) (by omega) (fun j hj => h0 j hj)
  · intro fu i ct hi hp ih
    obtain ⟨g1, g2, g3⟩ := hG i hi
    obtain ⟨k1, k2, k3, k4⟩ := hk i hi
    have hc : ∀ j, cnt (i + 1) (fun g => ownB f s g j) = cnt i (fun g => ownB f s g j) + (if f i = j ∨ s i = j then 1 else 0) := fun j => by simp [cnt, ownB]
    simp (disch := omega) only [jI_0, jI_1, jI_2, jI_3, jI_4, jI_5, jI_6, jI_7, jI_8, jI_9, jI_10, jI_11, jI_12, jI_13, jI_14, jI_15, jI_16, jI_20, jI_24, jI_26, jI_30, jI_31, jI_32, jI_40, jI_48, jI_56, jI_57, jI_59, jI_60, jI_97, jI_99, jI_122, jI_160, jI_240, jI_255, jI_768, jI_1000, ↓jN_1, ↓jN_2, ↓jN_3, ↓jN_4, ↓jN_8, ↓jN_10, ↓jN_11, ↓jN_12, ↓jN_14, ↓jN_20, jI_addN, jI_le, jI_lt, jI_eq, jI_cl, jI_in, jI_add, jI_sub, jI_eqN, gI_eqI, gI_eqN, gI_leI, gI_ltI, jI_leN, jI_ltN, gI_sub, pif_tt, pif_ff, pg_tt, isB, or_true, true_or, pif_T, pif_F, pg_T, pb_S, upd_e, upd_n, fX4_findOut_47, g1, g2, hp]
    refine ih _ (fun j hj => ?_)
    rw [hc]
    by_cases h1 : j = s i
    · rw [upd_e h1, h1, if_pos (Or.inr rfl)]
    · rw [upd_n h1]
      by_cases h2 : j = f i
      · rw [upd_e h2, h2, if_pos (Or.inl rfl)]
      · rw [upd_n h2, if_neg (by omega)]; exact hp j hj
  · intro fu ct hp
    simp (disch := omega) only [jI_0, jI_1, jI_2, jI_3, jI_4, jI_5, jI_6, jI_7, jI_8, jI_9, jI_10, jI_11, jI_12, jI_13, jI_14, jI_15, jI_16, jI_20, jI_24, jI_26, jI_30, jI_31, jI_32, jI_40, jI_48, jI_56, jI_57, jI_59, jI_60, jI_97, jI_99, jI_122, jI_160, jI_240, jI_255, jI_768, jI_1000, ↓jN_1, ↓jN_2, ↓jN_3, ↓jN_4, ↓jN_8, ↓jN_10, ↓jN_11, ↓jN_12, ↓jN_14, ↓jN_20, jI_addN, jI_le, jI_lt, jI_eq, jI_cl, jI_in, jI_add, jI_sub, jI_eqN, gI_eqI, gI_eqN, gI_leI, gI_ltI, jI_leN, jI_ltN, gI_sub, pif_tt, pif_ff, pg_tt, isB, or_true, true_or, pif_T, pif_F, pg_T, pb_S, upd_e, upd_n, fX4_findOut_47]
    exact hQ ct (fun j hj => by rw [toC_zero]; exact hp j hj)
theorem findOut_95 (hN : 100 ≤ N) (hk : Gk n z f s e) (hG : Gc z f s e v_p1_size c_p1_first c_p1_second c_p1_ending) (h0 : ∀ j, j < n → c_merit j = gI 1 ∧ c_outAt j = gI 4 ∧ c_toCome j = jI (toC f s e z 0 j) ∧ c_won j = jI 0) : Ok ((fX4_findOut_95 N (jI n) v_p1_size c_p1_ending c_p1_first c_p1_second N 0 0 c_merit c_outAt c_toCome c_won)) (fun q => ∀ j, j < n → q.1 j = mI (merT n f s e z z j) ∧ q.2.1 j = outT n f s e z z j ∧ q.2.2.1 j = jI (toC f s e z z j) ∧ q.2.2.2 j = jI (wonN f s e z j)) := by
  have hn := hk.1
  have hz := hk.2.1
  have hGz := hG.1
  subst hGz
  refine up_ok (fun fu t (q : Nat × (Nat → Int32) × (Nat → Int32) × (Nat → Int32) × (Nat → Int32)) => (fX4_findOut_95 N (jI n) (jI z) c_p1_ending c_p1_first c_p1_second fu (jI q.1) (jI t) q.2.1 q.2.2.1 q.2.2.2.1 q.2.2.2.2)) _ z (fun t q => q.1 = mxN n (wonN f s e t) ∧ ∀ j, j < n → q.2.1 j = mI (merT n f s e z t j) ∧ q.2.2.1 j = outT n f s e z t j ∧ q.2.2.2.1 j = jI (toC f s e z t j) ∧ q.2.2.2.2 j = jI (wonN f s e t j)) ?_ ?_ N 0 (0, c_merit, c_outAt, c_toCome, c_won) (by omega) (by omega) ?_
  · intro fu t ⟨mo, cm, co, ct, cw⟩ ht ⟨hmo, hp⟩ ih
    simp only at hmo hp
    obtain ⟨g1, g2, g3⟩ := hG.2 t ht
    obtain ⟨k1, k2, k3, k4⟩ := hk.2.2 t ht
    have hp1 := fun j hj => (hp j hj).1
    have hp2 := fun j hj => (hp j hj).2.1
    have hp3 := fun j hj => (hp j hj).2.2.1
    have hp4 := fun j hj => (hp j hj).2.2.2
    have hW : ∀ j, wonN f s e t j ≤ t := fun j => wonN_le f s e t j
    have hC : ∀ j, toC f s e z t j ≤ z := fun j => toC_le f s e z t j
    have hM : ∀ j, merT n f s e z t j ≤ t + 1 := fun j => merT_le n f s e z t j
    have hmo2 : mo ≤ t := by rw [hmo]; exact mxN_le.mpr (fun j _ => hW j)
    by_cases he : e t = 2
    · simp (disch := omega) only [jI_0, jI_1, jI_2, jI_3, jI_4, jI_5, jI_6, jI_7, jI_8, jI_9, jI_10, jI_11, jI_12, jI_13, jI_14, jI_15, jI_16, jI_20, jI_24, jI_26, jI_30, jI_31, jI_32, jI_40, jI_48, jI_56, jI_57, jI_59, jI_60, jI_97, jI_99, jI_122, jI_160, jI_240, jI_255, jI_768, jI_1000, ↓jN_1, ↓jN_2, ↓jN_3, ↓jN_4, ↓jN_8, ↓jN_10, ↓jN_11, ↓jN_12, ↓jN_14, ↓jN_20, jI_addN, jI_le, jI_lt, jI_eq, jI_cl, jI_in, jI_add, jI_sub, jI_eqN, gI_eqI, gI_eqN, gI_leI, gI_ltI, jI_leN, jI_ltN, gI_sub, pif_tt, pif_ff, pg_tt, isB, or_true, true_or, pif_T, pif_F, pg_T, pb_S, upd_e, upd_n, fX4_findOut_95, fX4_findOut_163, g3]
      refine ih (mo, cm, co, ct, cw) ⟨?_, fun j hj => ?_⟩
      · show mo = _
        rw [hmo]; exact (mxN_congr (won_open hn he)).symm
      · show cm j = _ ∧ co j = _ ∧ ct j = _ ∧ cw j = _
        rw [hp1 j hj, hp2 j hj, hp3 j hj, hp4 j hj, toC_open j ht he, won_open hn he j hj]
        by_cases hf : fstN t (fun g => isO n f s e z (g + 1) j) < t
        · obtain ⟨a, b⟩ := outT_keep hf
          rw [a, b, winr_open he, if_neg (by omega)]
          exact ⟨rfl, rfl, rfl, rfl⟩
        · obtain ⟨a, b, _⟩ := outT_not hf (out_open hj hn ht he hf)
          rw [a, b]
          unfold merT outT
          rw [if_neg hf, if_neg hf]
          exact ⟨rfl, rfl, rfl, rfl⟩
    · have hw := winr_lt hk ht he
      have hwX := winX (N := N) hk hG ht he
      obtain ⟨cm1, cw1, e1, c1, c2⟩ := countWinX (N := N) (c_merit := cm) (c_won := cw) (W := wonN f s e t) (M := merT n f s e z t) hn hw (fun j hj => ⟨hp4 j hj, by have := hW j; omega⟩) (fun j hj => ⟨hp1 j hj, by have := hM j; omega⟩)
      have hct : ∀ j, j < n → (upd (upd ct (f t) (jI (toC f s e z t (f t) - 1))) (s t) (jI (toC f s e z t (s t) - 1))) j = jI (toC f s e z (t + 1) j) ∧ toC f s e z (t + 1) j ≤ 100 := by
        intro j hj
        have h1 := toC_succ f s e (z := z) (t := t) j ht
        have h2 := toC_le f s e z (t + 1) j
        refine ⟨?_, by omega⟩
        by_cases h3 : j = s t
        · rw [upd_e h3]
          rw [if_pos (by simp [ownB, h3, he])] at h1
          rw [h3] at h1 ⊢; congr 1; omega
        · rw [upd_n h3]
          by_cases h4 : j = f t
          · rw [upd_e h4]
            rw [if_pos (by simp [ownB, h4, he])] at h1
            rw [h4] at h1 ⊢; congr 1; omega
          · rw [upd_n h4, hp3 j hj]
            rw [if_neg (by simp only [ownB, decide_eq_true_eq]; omega)] at h1
            congr 1; omega
      have hpos : ∀ j, (f t = j ∨ s t = j) → 1 ≤ toC f s e z t j := by
        intro j hj
        have h1 := toC_succ f s e (z := z) (t := t) j ht
        rw [if_pos (by simp only [ownB, decide_eq_true_eq]; exact ⟨hj, he⟩)] at h1
        omega
      have hp5 := hpos (f t) (Or.inl rfl)
      have hp6 := hpos (s t) (Or.inr rfl)
      have hp7 := hC (f t)
      have hp8 := hC (s t)
      have hm1 : mxN n (wonN f s e (t + 1)) = max mo (wonN f s e t (winr f s e t) + 1) := by rw [hmo]; exact mxN_step hw (fun j hj => wonN_succ f s e t j)
      have hw5 := hW (winr f s e t)
      have c2' : ∀ j, j < n → cw1 j = jI (wonN f s e (t + 1) j) ∧ wonN f s e (t + 1) j ≤ 100 := fun j hj => ⟨by rw [wonN_succ]; exact c2 j hj, by have := wonN_le f s e (t + 1) j; omega⟩
      obtain ⟨cm2, co2, e2, c3⟩ := markOutX (N := N) (c_merit := cm1) (c_outAt := co) (c_won := cw1) (c_toCome := upd (upd ct (f t) (jI (toC f s e z t (f t) - 1))) (s t) (jI (toC f s e z t (s t) - 1))) (W := wonN f s e (t + 1)) (C := toC f s e z (t + 1)) (g := t) (mo := max mo (wonN f s e t (winr f s e t) + 1)) hN hn (by omega) (by omega) c2' hct
      simp (disch := omega) only [jI_0, jI_1, jI_2, jI_3, jI_4, jI_5, jI_6, jI_7, jI_8, jI_9, jI_10, jI_11, jI_12, jI_13, jI_14, jI_15, jI_16, jI_20, jI_24, jI_26, jI_30, jI_31, jI_32, jI_40, jI_48, jI_56, jI_57, jI_59, jI_60, jI_97, jI_99, jI_122, jI_160, jI_240, jI_255, jI_768, jI_1000, ↓jN_1, ↓jN_2, ↓jN_3, ↓jN_4, ↓jN_8, ↓jN_10, ↓jN_11, ↓jN_12, ↓jN_14, ↓jN_20, jI_addN, jI_le, jI_lt, jI_eq, jI_cl, jI_in, jI_add, jI_sub, jI_eqN, gI_eqI, gI_eqN, gI_leI, gI_ltI, jI_leN, jI_ltN, gI_sub, pif_tt, pif_ff, pg_tt, isB, or_true, true_or, pif_T, pif_F, pg_T, pb_S, upd_e, upd_n, fX4_findOut_95, fX4_findOut_163, g1, g2, g3, hwX, e1, hp3, jI_mx, e2]
      refine ih (_, cm2, co2, _, cw1) ⟨?_, fun j hj => ?_⟩
      · exact hm1.symm
      · show cm2 j = _ ∧ co2 j = _ ∧ _ ∧ cw1 j = _
        have c3j := c3 j hj
        refine ⟨?_, ?_, (hct j hj).1, (c2' j hj).1⟩
        · by_cases hf : fstN t (fun g => isO n f s e z (g + 1) j) < t
          · obtain ⟨a, b⟩ := outT_keep hf
            have hne : ¬ co j = gI 4 := by rw [hp2 j hj, outT_none (by omega)]; simpa using hf
            rw [if_neg (fun q => hne q.1)] at c3j
            rw [c3j.1, c1 j hj, b]
            have hm0 : merT n f s e z t j ≠ 0 := by unfold merT; rw [if_pos hf]; omega
            congr 2
            simp only [hm0, ne_eq, not_false_eq_true, and_true]
          · have hne : co j = gI 4 := by rw [hp2 j hj, outT_none (by omega)]; exact hf
            have hm0 : merT n f s e z t j = 0 := by unfold merT; rw [if_neg hf]
            cases hO : isO n f s e z (t + 1) j
            · obtain ⟨a, b, _⟩ := outT_not hf hO
              simp only [isO, decide_eq_false_iff_not] at hO
              rw [if_neg (fun q => hO (by rw [hm1]; exact q.2))] at c3j
              rw [c3j.1, c1 j hj, b, hm0]
              simp
            · obtain ⟨a, b⟩ := outT_new hf hO
              simp only [isO, decide_eq_true_eq] at hO
              rw [if_pos ⟨hne, by rw [← hm1]; exact hO⟩] at c3j
              rw [c3j.1, b]; rfl
        · by_cases hf : fstN t (fun g => isO n f s e z (g + 1) j) < t
          · obtain ⟨a, b⟩ := outT_keep hf
            have hne : ¬ co j = gI 4 := by rw [hp2 j hj, outT_none (by omega)]; simpa using hf
            rw [if_neg (fun q => hne q.1)] at c3j
            rw [c3j.2, hp2 j hj, a]
          · have hne : co j = gI 4 := by rw [hp2 j hj, outT_none (by omega)]; exact hf
            cases hO : isO n f s e z (t + 1) j
            · obtain ⟨a, b, _⟩ := outT_not hf hO
              simp only [isO, decide_eq_false_iff_not] at hO
              rw [if_neg (fun q => hO (by rw [hm1]; exact q.2))] at c3j
              rw [c3j.2, hne, a]
            · obtain ⟨a, b⟩ := outT_new hf hO
              simp only [isO, decide_eq_true_eq] at hO
              rw [if_pos ⟨hne, by rw [← hm1]; exact hO⟩] at c3j
              rw [c3j.2, a]
  · intro fu ⟨mo, cm, co, ct, cw⟩ ⟨hmo, hp⟩
    simp (disch := omega) only [jI_0, jI_1, jI_2, jI_3, jI_4, jI_5, jI_6, jI_7, jI_8, jI_9, jI_10, jI_11, jI_12, jI_13, jI_14, jI_15, jI_16, jI_20, jI_24, jI_26, jI_30, jI_31, jI_32, jI_40, jI_48, jI_56, jI_57, jI_59, jI_60, jI_97, jI_99, jI_122, jI_160, jI_240, jI_255, jI_768, jI_1000, ↓jN_1, ↓jN_2, ↓jN_3, ↓jN_4, ↓jN_8, ↓jN_10, ↓jN_11, ↓jN_12, ↓jN_14, ↓jN_20, jI_addN, jI_le, jI_lt, jI_eq, jI_cl, jI_in, jI_add, jI_sub, jI_eqN, gI_eqI, gI_eqN, gI_leI, gI_ltI, jI_leN, jI_ltN, gI_sub, pif_tt, pif_ff, pg_tt, isB, or_true, true_or, pif_T, pif_F, pg_T, pb_S, upd_e, upd_n, fX4_findOut_95]
    exact Ok.s hp
  · refine ⟨?_, fun j hj => ?_⟩
    · show 0 = _
      refine (Nat.le_zero.mp (mxN_le.mpr (fun j _ => ?_))).symm
      exact wonN_le f s e 0 j
    · obtain ⟨a, b, c, d⟩ := h0 j hj
      have m0 : merT n f s e z 0 j = 0 := by simp [merT, fstN]
      have o0 : outT n f s e z 0 j = gI 4 := by simp [outT, fstN]
      have w0 : wonN f s e 0 j = 0 := rfl
      show c_merit j = _ ∧ c_outAt j = _ ∧ c_toCome j = _ ∧ c_won j = _
      rw [a, b, c, d, m0, o0, w0, ← mI_0]
      exact ⟨rfl, rfl, rfl, rfl⟩
theorem findOut_ok (hN : 100 ≤ N) (hk : Gk n z f s e) (hG : Gc z f s e v_p1_size c_p1_first c_p1_second c_p1_ending) : Ok ((fX4_findOut N (jI n) c_merit c_outAt v_p1_size c_p1_ending c_p1_first c_p1_second c_toCome c_won)) (fun q => ∀ j, j < n → q.1 j = mI (merT n f s e z z j) ∧ q.2.1 j = outT n f s e z z j ∧ q.2.2.1 j = jI (toC f s e z z j) ∧ q.2.2.2 j = jI (wonN f s e z j)) := by
  unfold fX4_findOut
  obtain ⟨cm, co, ct, cw, e1, h1⟩ := findOut_2 (N := N) (n := n) (v_p1_size := v_p1_size) (c_p1_ending := c_p1_ending) (c_p1_first := c_p1_first) (c_p1_second := c_p1_second) (c_merit := c_merit) (c_outAt := c_outAt) (c_toCome := c_toCome) (c_won := c_won) hN hk.1
  rw [e1]
  refine findOut_47 hN hk hG (fun j hj => (h1 j hj).2.2.1) (fun ct2 h2 => ?_)
  exact findOut_95 hN hk hG (fun j hj => ⟨(h1 j hj).1, (h1 j hj).2.1, h2 j hj, (h1 j hj).2.2.2⟩)
end
