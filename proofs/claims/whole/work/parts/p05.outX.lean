/-! Who is OUT: the class. -/
theorem wonN_succ (f s e : Nat → Nat) (t j : Nat) : wonN f s e (t + 1) j = wonN f s e t j + (if winr f s e t = j then 1 else 0) := by simp [wonN, cnt]
theorem wonN_mono (f s e : Nat → Nat) {t u : Nat} (j : Nat) (h : t ≤ u) : wonN f s e t j ≤ wonN f s e u j := cnt_mono h
theorem toC_le (f s e : Nat → Nat) (z t i : Nat) : toC f s e z t i ≤ z := cnt_le _ _
theorem cnt_drop {m t : Nat} {p q : Nat → Bool} (ht : t < m) (h : ∀ i, i < m → i ≠ t → p i = q i) : cnt m p + (if q t then 1 else 0) = cnt m q + (if p t then 1 else 0) := by
  induction m with
  | zero => omega
  | succ m ih =>
    simp only [cnt]
    by_cases e : t = m
    · subst e
      rw [cnt_congr (fun i hi => h i (by omega) (by omega))]; omega
    · have := ih (by omega) (fun i hi => h i (by omega))
      rw [h m (by omega) (fun c => e c.symm)]; omega
theorem toC_succ (f s e : Nat → Nat) {z t : Nat} (i : Nat) (ht : t < z) : toC f s e z (t + 1) i + (if ownB f s t i = true ∧ e t ≠ 2 then 1 else 0) = toC f s e z t i := by
  have h := cnt_drop (m := z) (t := t) (p := fun g => ownB f s g i && (decide (t + 1 ≤ g) || decide (e g = 2))) (q := fun g => ownB f s g i && (decide (t ≤ g) || decide (e g = 2))) ht (fun j hj hne => by
    have : decide (t + 1 ≤ j) = decide (t ≤ j) := by simp only [decide_eq_decide]; omega
    simp only [this])
  have h1 : decide (t + 1 ≤ t) = false := by simp
  have h2 : decide (t ≤ t) = true := by simp
  simp only [h1, h2, Bool.false_or, Bool.true_or, Bool.and_true] at h
  unfold toC
  by_cases a : ownB f s t i = true
  · by_cases b : e t = 2
    · simp [a, b] at h ⊢; omega
    · simp [a, b] at h ⊢; omega
  · simp [a] at h ⊢; omega
theorem toC_zero (f s e : Nat → Nat) (z i : Nat) : toC f s e z 0 i = cnt z (fun g => ownB f s g i) := by
  unfold toC; congr 1; funext g; simp
def mI (k : Nat) : Int32 := jI k + gI 1
theorem mI_toInt {a : Nat} (h : a < 1000000) : (mI a).toInt = (a : Int) - 1 := by
  unfold mI
  rw [Int32.toInt_add, jI_toInt (by omega), gI_toInt (by omega), Int.bmod_eq_of_le] <;> omega
theorem mI_0 : gI 1 = mI 0 := rfl
theorem mI_1 : mI 1 = jI 0 := rfl
theorem mI_eq1 {a : Nat} (h : a < 1000000) : (mI a = gI 1) = (a = 0) := by
  rw [← Int32.toInt_inj, mI_toInt h, gI_toInt (by omega), eq_iff_iff]; omega
theorem mI_le {a b : Nat} (ha : a < 1000000) (hb : b < 1000000) : (mI a ≤ mI b) = (a ≤ b) := by
  rw [Int32.le_iff_toInt_le, mI_toInt ha, mI_toInt hb, eq_iff_iff]; omega
theorem mI_succ (a : Nat) : mI a + jI 1 = mI (a + 1) := by
  unfold mI
  rw [← jI_add, Int32.add_assoc, Int32.add_assoc, Int32.add_comm (gI 1)]
/-- the day's merit, one more: 0 for a SIDE that is never OUT -/
def merT (n : Nat) (f s e : Nat → Nat) (z t i : Nat) : Nat :=
  if fstN t (fun g => isO n f s e z (g + 1) i) < t then 1 + (wonN f s e t i - wonN f s e (fstN t (fun g => isO n f s e z (g + 1) i) + 1) i) else 0
def outT (n : Nat) (f s e : Nat → Nat) (z t i : Nat) : Int32 :=
  if fstN t (fun g => isO n f s e z (g + 1) i) < t then jI (fstN t (fun g => isO n f s e z (g + 1) i)) else gI 4
theorem merT_le (n : Nat) (f s e : Nat → Nat) (z t i : Nat) : merT n f s e z t i ≤ t + 1 := by
  unfold merT
  have := wonN_le f s e t i
  split <;> omega
theorem isO_zero (n : Nat) (f s e : Nat → Nat) (z i : Nat) : isO n f s e z 0 i = false := by
  simp only [isO, decide_eq_false_iff_not, Nat.not_lt]
  refine mxN_le.mpr (fun j _ => ?_)
  simp [wonN, cnt]
/-- an OPEN GAME changes nothing -/
theorem won_open {n t : Nat} {f s e : Nat → Nat} (hn : n ≤ 6) (he : e t = 2) : ∀ j, j < n → wonN f s e (t + 1) j = wonN f s e t j := fun j hj => by
  rw [wonN_succ, if_neg]; rfl
  unfold winr; rw [if_neg (by omega), if_neg (by omega)]; omega
theorem toC_open {z t : Nat} {f s e : Nat → Nat} (i : Nat) (ht : t < z) (he : e t = 2) : toC f s e z (t + 1) i = toC f s e z t i := by
  have hc := toC_succ f s e i ht
  rw [if_neg (by simp [he])] at hc
  omega
theorem isO_open {n z t i : Nat} {f s e : Nat → Nat} (hi : i < n) (hn : n ≤ 6) (ht : t < z) (he : e t = 2) : isO n f s e z (t + 1) i = isO n f s e z t i := by
  unfold isO
  rw [mxN_congr (won_open hn he), toC_open i ht he, won_open hn he i hi]
/-- a GAME that has an END: how merit and OUT go on -/
theorem fst_step (t : Nat) (p : Nat → Bool) : fstN (t + 1) p = if fstN t p < t then fstN t p else if p t then t else t + 1 := rfl
theorem outT_keep {n z t i : Nat} {f s e : Nat → Nat} (h : fstN t (fun g => isO n f s e z (g + 1) i) < t) : outT n f s e z (t + 1) i = outT n f s e z t i ∧ merT n f s e z (t + 1) i = merT n f s e z t i + (if winr f s e t = i then 1 else 0) := by
  have h1 : fstN (t + 1) (fun g => isO n f s e z (g + 1) i) = fstN t (fun g => isO n f s e z (g + 1) i) := by rw [fst_step, if_pos h]
  have h2 := wonN_mono f s e i (t := fstN t (fun g => isO n f s e z (g + 1) i) + 1) (u := t) (by omega)
  unfold outT merT
  rw [h1, if_pos h, if_pos (by omega), if_pos h, if_pos (by omega), wonN_succ f s e t]
  exact ⟨rfl, by omega⟩
theorem outT_new {n z t i : Nat} {f s e : Nat → Nat} (h : ¬ fstN t (fun g => isO n f s e z (g + 1) i) < t) (hp : isO n f s e z (t + 1) i = true) : outT n f s e z (t + 1) i = jI t ∧ merT n f s e z (t + 1) i = 1 := by
  have h1 : fstN (t + 1) (fun g => isO n f s e z (g + 1) i) = t := by rw [fst_step, if_neg h, if_pos hp]
  unfold outT merT
  rw [h1, if_pos (by omega), if_pos (by omega)]
  exact ⟨rfl, by omega⟩
theorem outT_not {n z t i : Nat} {f s e : Nat → Nat} (h : ¬ fstN t (fun g => isO n f s e z (g + 1) i) < t) (hp : isO n f s e z (t + 1) i = false) : outT n f s e z (t + 1) i = gI 4 ∧ merT n f s e z (t + 1) i = 0 ∧ ¬ fstN (t + 1) (fun g => isO n f s e z (g + 1) i) < t + 1 := by
  have h1 : fstN (t + 1) (fun g => isO n f s e z (g + 1) i) = t + 1 := by rw [fst_step, if_neg h, if_neg (by rw [hp]; decide)]
  unfold outT merT
  rw [h1, if_neg (by omega), if_neg (by omega)]
  exact ⟨rfl, rfl, by omega⟩
theorem outT_none {n z t i : Nat} {f s e : Nat → Nat} (ht : t ≤ 1000) : (outT n f s e z t i = gI 4) = ¬ (fstN t (fun g => isO n f s e z (g + 1) i) < t) := by
  unfold outT
  split
  · next h => rw [jI_eqN (by omega) (by omega)]; simp [h]
  · next h => simp [h]
section
variable {v_sides : Int32} {c_merit : Nat → Int32} {c_outAt : Nat → Int32} {v_p1_size : Int32} {c_p1_ending : Nat → Int32} {c_p1_first : Nat → Int32} {c_p1_second : Nat → Int32} {c_toCome : Nat → Int32} {c_won : Nat → Int32}
variable {N n z : Nat} {f s e : Nat → Nat}
theorem markOutX {W C : Nat → Nat} {g mo : Nat} (hN : 100 ≤ N) (hn : n ≤ 6) (hg : g < 30) (hmo : mo ≤ 100) (hW : ∀ j, j < n → c_won j = jI (W j) ∧ W j ≤ 100) (hC : ∀ j, j < n → c_toCome j = jI (C j) ∧ C j ≤ 100) : ∃ cm co, (fX4_markOut N (jI n) c_merit c_outAt c_toCome c_won (jI g) (jI mo)) = some (cm, co) ∧ ∀ j, j < n → (if c_outAt j = gI 4 ∧ W j + C j < mo then cm j = jI 0 ∧ co j = jI g else cm j = c_merit j ∧ co j = c_outAt j) := by
  unfold fX4_markOut
  have key := for_up (fun f i (q : (Nat → Int32) × (Nat → Int32)) => (fX4_markOut_2 N (jI n) c_toCome c_won (jI g) (jI mo) f (jI i) q.1 q.2)) (fun q => some (q.1, q.2)) n (fun i q => (∀ j, j < i → (if c_outAt j = gI 4 ∧ W j + C j < mo then q.1 j = jI 0 ∧ q.2 j = jI g else q.1 j = c_merit j ∧ q.2 j = c_outAt j)) ∧ ∀ j, i ≤ j → q.1 j = c_merit j ∧ q.2 j = c_outAt j) ?_ ?_ N 0 (c_merit, c_outAt) (by omega) (by omega) ⟨fun j h => by omega, fun j _ => ⟨rfl, rfl⟩⟩
  · obtain ⟨q, e1, h⟩ := key
    exact ⟨q.1, q.2, e1, h.1⟩
  · intro fu i q hi hp
    obtain ⟨w1, w2⟩ := hW i hi
    obtain ⟨v1, v2⟩ := hC i hi
    obtain ⟨p1, p2⟩ := hp
    obtain ⟨a1, a2⟩ := p2 i (Nat.le_refl _)
    by_cases h1 : c_outAt i = gI 4 ∧ W i + C i < mo
    · refine ⟨(upd q.1 i (jI 0), upd q.2 i (jI g)), ?_, fun j hj => ?_, fun j hj => ?_⟩
      · have h1' := h1.2
        simp (disch := omega) only [jI_0, jI_1, jI_2, jI_3, jI_4, jI_5, jI_6, jI_7, jI_8, jI_9, jI_10, jI_11, jI_12, jI_13, jI_14, jI_15, jI_16, jI_20, jI_24, jI_26, jI_30, jI_31, jI_32, jI_40, jI_48, jI_56, jI_57, jI_59, jI_60, jI_97, jI_99, jI_122, jI_160, jI_240, jI_255, jI_768, jI_1000, ↓jN_1, ↓jN_2, ↓jN_3, ↓jN_4, ↓jN_8, ↓jN_10, ↓jN_11, ↓jN_12, ↓jN_14, ↓jN_20, jI_addN, jI_le, jI_lt, jI_eq, jI_cl, jI_in, jI_add, jI_sub, jI_eqN, gI_eqI, gI_eqN, gI_leI, gI_ltI, jI_leN, jI_ltN, gI_sub, pif_tt, pif_ff, pg_tt, isB, or_true, true_or, pif_T, pif_F, pg_T, pb_S, upd_e, upd_n, fX4_markOut_2, fX4_markOut_52, a2, h1.1, w1, v1]
      · show if c_outAt j = gI 4 ∧ W j + C j < mo then upd q.1 i (jI 0) j = jI 0 ∧ upd q.2 i (jI g) j = jI g else upd q.1 i (jI 0) j = c_merit j ∧ upd q.2 i (jI g) j = c_outAt j
        by_cases h : j = i
        · subst h
          rw [if_pos h1, upd_e rfl, upd_e rfl]; exact ⟨rfl, rfl⟩
        · rw [upd_n h, upd_n h]; exact p1 j (by omega)
      · show upd q.1 i (jI 0) j = c_merit j ∧ upd q.2 i (jI g) j = c_outAt j
        rw [upd_n (by omega), upd_n (by omega)]; exact p2 j (by omega)
    · refine ⟨q, ?_, fun j hj => ?_, fun j hj => p2 j (by omega)⟩
      · by_cases h2 : c_outAt i = gI 4
        · have h1' : ¬ W i + C i < mo := fun c => h1 ⟨h2, c⟩
          simp (disch := omega) only [jI_0, jI_1, jI_2, jI_3, jI_4, jI_5, jI_6, jI_7, jI_8, jI_9, jI_10, jI_11, jI_12, jI_13, jI_14, jI_15, jI_16, jI_20, jI_24, jI_26, jI_30, jI_31, jI_32, jI_40, jI_48, jI_56, jI_57, jI_59, jI_60, jI_97, jI_99, jI_122, jI_160, jI_240, jI_255, jI_768, jI_1000, ↓jN_1, ↓jN_2, ↓jN_3, ↓jN_4, ↓jN_8, ↓jN_10, ↓jN_11, ↓jN_12, ↓jN_14, ↓jN_20, jI_addN, jI_le, jI_lt, jI_eq, jI_cl, jI_in, jI_add, jI_sub, jI_eqN, gI_eqI, gI_eqN, gI_leI, gI_ltI, jI_leN, jI_ltN, gI_sub, pif_tt, pif_ff, pg_tt, isB, or_true, true_or, pif_T, pif_F, pg_T, pb_S, upd_e, upd_n, fX4_markOut_2, fX4_markOut_52, a2, h2, w1, v1]
        · rw [← a2] at h2
          simp (disch := omega) only [jI_0, jI_1, jI_2, jI_3, jI_4, jI_5, jI_6, jI_7, jI_8, jI_9, jI_10, jI_11, jI_12, jI_13, jI_14, jI_15, jI_16, jI_20, jI_24, jI_26, jI_30, jI_31, jI_32, jI_40, jI_48, jI_56, jI_57, jI_59, jI_60, jI_97, jI_99, jI_122, jI_160, jI_240, jI_255, jI_768, jI_1000, ↓jN_1, ↓jN_2, ↓jN_3, ↓jN_4, ↓jN_8, ↓jN_10, ↓jN_11, ↓jN_12, ↓jN_14, ↓jN_20, jI_addN, jI_le, jI_lt, jI_eq, jI_cl, jI_in, jI_add, jI_sub, jI_eqN, gI_eqI, gI_eqN, gI_leI, gI_ltI, jI_leN, jI_ltN, gI_sub, pif_tt, pif_ff, pg_tt, isB, or_true, true_or, pif_T, pif_F, pg_T, pb_S, upd_e, upd_n, fX4_markOut_2, fX4_markOut_52, h2]
      · by_cases h : j = i
        · subst h
          rw [if_neg h1]; exact ⟨a1, a2⟩
        · exact p1 j (by omega)
  · intro fu q hp
    simp (disch := omega) only [jI_0, jI_1, jI_2, jI_3, jI_4, jI_5, jI_6, jI_7, jI_8, jI_9, jI_10, jI_11, jI_12, jI_13, jI_14, jI_15, jI_16, jI_20, jI_24, jI_26, jI_30, jI_31, jI_32, jI_40, jI_48, jI_56, jI_57, jI_59, jI_60, jI_97, jI_99, jI_122, jI_160, jI_240, jI_255, jI_768, jI_1000, ↓jN_1, ↓jN_2, ↓jN_3, ↓jN_4, ↓jN_8, ↓jN_10, ↓jN_11, ↓jN_12, ↓jN_14, ↓jN_20, jI_addN, jI_le, jI_lt, jI_eq, jI_cl, jI_in, jI_add, jI_sub, jI_eqN, gI_eqI, gI_eqN, gI_leI, gI_ltI, jI_leN, jI_ltN, gI_sub, pif_tt, pif_ff, pg_tt, isB, or_true, true_or, pif_T, pif_F, pg_T, pb_S, upd_e, upd_n, fX4_markOut_2]
theorem countWinX {W M : Nat → Nat} {w : Nat} (hn : n ≤ 6) (hw : w < n) (hW : ∀ j, j < n → c_won j = jI (W j) ∧ W j ≤ 100) (hM : ∀ j, j < n → c_merit j = mI (M j) ∧ M j ≤ 100) : ∃ cm cw, (fX4_countWin N c_merit c_won (jI w)) = some (jI (W w + 1), cm, cw) ∧ (∀ j, j < n → cm j = mI (M j + (if w = j ∧ M j ≠ 0 then 1 else 0))) ∧ (∀ j, j < n → cw j = jI (W j + (if w = j then 1 else 0))) := by
  obtain ⟨w1, w2⟩ := hW w hw
  obtain ⟨m1, m2⟩ := hM w hw
  by_cases h0 : M w = 0
  · refine ⟨c_merit, upd c_won w (jI (W w + 1)), ?_, fun j hj => ?_, fun j hj => ?_⟩
    · simp (disch := omega) only [jI_0, jI_1, jI_2, jI_3, jI_4, jI_5, jI_6, jI_7, jI_8, jI_9, jI_10, jI_11, jI_12, jI_13, jI_14, jI_15, jI_16, jI_20, jI_24, jI_26, jI_30, jI_31, jI_32, jI_40, jI_48, jI_56, jI_57, jI_59, jI_60, jI_97, jI_99, jI_122, jI_160, jI_240, jI_255, jI_768, jI_1000, ↓jN_1, ↓jN_2, ↓jN_3, ↓jN_4, ↓jN_8, ↓jN_10, ↓jN_11, ↓jN_12, ↓jN_14, ↓jN_20, jI_addN, jI_le, jI_lt, jI_eq, jI_cl, jI_in, jI_add, jI_sub, jI_eqN, gI_eqI, gI_eqN, gI_leI, gI_ltI, jI_leN, jI_ltN, gI_sub, pif_tt, pif_ff, pg_tt, isB, or_true, true_or, pif_T, pif_F, pg_T, pb_S, upd_e, upd_n, fX4_countWin, fX4_countWin_30, w1, m1, mI_eq1]
    · rw [(hM j hj).1, if_neg (fun h => h.2 (h.1 ▸ h0))]; rfl
    · by_cases h : j = w
      · rw [upd_e h, h, if_pos rfl]
      · rw [upd_n h, if_neg (fun c => h c.symm)]; exact (hW j hj).1
  · refine ⟨upd c_merit w (mI (M w + 1)), upd c_won w (jI (W w + 1)), ?_, fun j hj => ?_, fun j hj => ?_⟩
    · simp (disch := omega) only [jI_0, jI_1, jI_2, jI_3, jI_4, jI_5, jI_6, jI_7, jI_8, jI_9, jI_10, jI_11, jI_12, jI_13, jI_14, jI_15, jI_16, jI_20, jI_24, jI_26, jI_30, jI_31, jI_32, jI_40, jI_48, jI_56, jI_57, jI_59, jI_60, jI_97, jI_99, jI_122, jI_160, jI_240, jI_255, jI_768, jI_1000, ↓jN_1, ↓jN_2, ↓jN_3, ↓jN_4, ↓jN_8, ↓jN_10, ↓jN_11, ↓jN_12, ↓jN_14, ↓jN_20, jI_addN, jI_le, jI_lt, jI_eq, jI_cl, jI_in, jI_add, jI_sub, jI_eqN, gI_eqI, gI_eqN, gI_leI, gI_ltI, jI_leN, jI_ltN, gI_sub, pif_tt, pif_ff, pg_tt, isB, or_true, true_or, pif_T, pif_F, pg_T, pb_S, upd_e, upd_n, fX4_countWin, fX4_countWin_30, w1, m1, mI_eq1, mI_succ]
    · by_cases h : j = w
      · rw [upd_e h, h, if_pos ⟨rfl, h0⟩]
      · rw [upd_n h, if_neg (fun c => h c.1.symm)]; exact (hM j hj).1
    · by_cases h : j = w
      · rw [upd_e h, h, if_pos rfl]
      · rw [upd_n h, if_neg (fun c => h c.symm)]; exact (hW j hj).1
theorem findOut_2 (hN : 100 ≤ N) (hn : n ≤ 6) : ∃ cm co ct cw, (fX4_findOut_2 N (jI n) v_p1_size c_p1_ending c_p1_first c_p1_second N 0 c_merit c_outAt c_toCome c_won) = (fX4_findOut_47 N (jI n) v_p1_size c_p1_ending c_p1_first c_p1_second N 0 cm co ct cw) ∧ ∀ j, j < n → cm j = gI 1 ∧ co j = gI 4 ∧ ct j = jI 0 ∧ cw j = jI 0 := by
  have key := for_up (fun f i (q : (Nat → Int32) × (Nat → Int32) × (Nat → Int32) × (Nat → Int32)) => (fX4_findOut_2 N (jI n) v_p1_size c_p1_ending c_p1_first c_p1_second f (jI i) q.1 q.2.1 q.2.2.1 q.2.2.2)) (fun q => (fX4_findOut_47 N (jI n) v_p1_size c_p1_ending c_p1_first c_p1_second N 0 q.1 q.2.1 q.2.2.1 q.2.2.2)) n (fun i q => ∀ j, j < i → q.1 j = gI 1 ∧ q.2.1 j = gI 4 ∧ q.2.2.1 j = jI 0 ∧ q.2.2.2 j = jI 0) ?_ ?_ N 0 (c_merit, c_outAt, c_toCome, c_won) (by omega) (by omega) (fun j h => by omega)
  · obtain ⟨q, e1, h⟩ := key
    exact ⟨q.1, q.2.1, q.2.2.1, q.2.2.2, e1, h⟩
  · intro fu i q hi hp
    refine ⟨(upd q.1 i (gI 1), upd q.2.1 i (gI 4), upd q.2.2.1 i (jI 0), upd q.2.2.2 i (jI 0)), ?_, fun j hj => ?_⟩
    · simp (disch := omega) only [jI_0, jI_1, jI_2, jI_3, jI_4, jI_5, jI_6, jI_7, jI_8, jI_9, jI_10, jI_11, jI_12, jI_13, jI_14, jI_15, jI_16, jI_20, jI_24, jI_26, jI_30, jI_31, jI_32, jI_40, jI_48, jI_56, jI_57, jI_59, jI_60, jI_97, jI_99, jI_122, jI_160, jI_240, jI_255, jI_768, jI_1000, ↓jN_1, ↓jN_2, ↓jN_3, ↓jN_4, ↓jN_8, ↓jN_10, ↓jN_11, ↓jN_12, ↓jN_14, ↓jN_20, jI_addN, jI_le, jI_lt, jI_eq, jI_cl, jI_in, jI_add, jI_sub, jI_eqN, gI_eqI, gI_eqN, gI_leI, gI_ltI, jI_leN, jI_ltN, gI_sub, pif_tt, pif_ff, pg_tt, isB, or_true, true_or, pif_T, pif_F, pg_T, pb_S, upd_e, upd_n, fX4_findOut_2]
    · show upd q.1 i (gI 1) j = gI 1 ∧ upd q.2.1 i (gI 4) j = gI 4 ∧ upd q.2.2.1 i (jI 0) j = jI 0 ∧ upd q.2.2.2 i (jI 0) j = jI 0
      by_cases h : j = i
      · rw [upd_e h, upd_e h, upd_e h, upd_e h]; exact ⟨rfl, rfl, rfl, rfl⟩
      · rw [upd_n h, upd_n h, upd_n h, upd_n h]; exact hp j (by omega)
  · intro fu q hp
    simp (disch := omega) only [jI_0, jI_1, jI_2, jI_3, jI_4, jI_5, jI_6, jI_7, jI_8, jI_9, jI_10, jI_11, jI_12, jI_13, jI_14, jI_15, jI_16, jI_20, jI_24, jI_26, jI_30, jI_31, jI_32, jI_40, jI_48, jI_56, jI_57, jI_59, jI_60, jI_97, jI_99, jI_122, jI_160, jI_240, jI_255, jI_768, jI_1000, ↓jN_1, ↓jN_2, ↓jN_3, ↓jN_4, ↓jN_8, ↓jN_10, ↓jN_11, ↓jN_12, ↓jN_14, ↓jN_20, jI_addN, jI_le, jI_lt, jI_eq, jI_cl, jI_in, jI_add, jI_sub, jI_eqN, gI_eqI, gI_eqN, gI_leI, gI_ltI, jI_leN, jI_ltN, gI_sub, pif_tt, pif_ff, pg_tt, isB, or_true, true_or, pif_T, pif_F, pg_T, pb_S, upd_e, upd_n, fX4_findOut_2]
end
