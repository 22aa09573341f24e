/-! YEARS: the reference's season. -/
section
variable {v_seed : Int32} {v_widest : Int32} {c_chooser : Nat → Int32} {c_firstOnes : Nat → Int32} {c_firsts : Nat → Int32} {c_force : Nat → Int32} {c_goes : Nat → Int32} {c_holds : Nat → Int32} {c_lastOnes : Nat → Int32} {c_later : Nat → Int32} {c_many : Nat → Int32} {c_outs : Nat → Int32} {c_placeOf : Nat → Int32} {c_seconds : Nat → Int32} {c_sideAt : Nat → Int32} {c_won : Nat → Int32}
variable {N : Nat} {H : Nat → Nat} {st : Nat → Nat}
/-- the second page up to k GAMES; the first is as it was -/
def pgY (n : Nat) (x : Int32) (st : Nat → Nat) (cf0 cs0 cg0 cm0 : Nat → Int32) (k : Nat) (cf cs cg cm : Nat → Int32) : Prop := cm 1 = jI k ∧ (∀ g, g < k → cf (30 + g) = jI (rF n g) ∧ cs (30 + g) = jI (rS n g) ∧ cg (30 + g) = jI (yE n x st g)) ∧ kpP cf0 cs0 cg0 cm0 cf cs cg cm
theorem pgY_step {n : Nat} {x : Int32} {cf0 cs0 cg0 cm0 : Nat → Int32} {k : Nat} {cf cs cg cm : Nat → Int32} {a b v : Nat} (h : pgY n x st cf0 cs0 cg0 cm0 k cf cs cg cm) (ha : a = rF n k) (hb : b = rS n k) (hv : v = yE n x st k) : pgY n x st cf0 cs0 cg0 cm0 (k + 1) (upd cf (30 + k) (jI a)) (upd cs (30 + k) (jI b)) (upd cg (30 + k) (jI v)) (upd cm 1 (jI (k + 1))) := by
  obtain ⟨h1, h2, h3, h4⟩ := h
  refine ⟨upd_e rfl, fun g hg => ?_, fun g hg => ?_, ?_⟩
  · by_cases e : g = k
    · subst e
      rw [upd_e rfl, upd_e rfl, upd_e rfl, ha, hb, hv]; exact ⟨rfl, rfl, rfl⟩
    · rw [upd_n (by omega), upd_n (by omega), upd_n (by omega)]; exact h2 g (by omega)
  · rw [upd_n (by omega), upd_n (by omega), upd_n (by omega)]; exact h3 g hg
  · rw [upd_n (by omega)]; exact h4
theorem year_24 {x : Int32} {a wd : Nat} {x1 : Int32} {cf0 cs0 cg0 cm0 : Nat → Int32} {Q : Int32 × Int32 × (Nat → Int32) × (Nat → Int32) × (Nat → Int32) × (Nat → Int32) × (Nat → Int32) × (Nat → Int32) × (Nat → Int32) × (Nat → Int32) × (Nat → Int32) × (Nat → Int32) × (Nat → Int32) × (Nat → Int32) × (Nat → Int32) → Prop} {k14} (hN : 100 ≤ N) (hR : Rk H) (ha : a < H 0) (hst : ∀ i, i < H 0 → 1 ≤ st i ∧ st i ≤ 9) (hs : ∀ i, i < H 0 → c_force i = jI (st i)) (hp : pgY (H 0) x st cf0 cs0 cg0 cm0 (rSt (H 0) a) c_firsts c_seconds c_goes c_many) (hk : ∀ cf cs cg cm, pgY (H 0) x st cf0 cs0 cg0 cm0 (rSt (H 0) (a + 1)) cf cs cg cm → Ok (k14 (jI (H 0)) (jI (a + 1)) (sdN x (rSt (H 0) (a + 1))) v_widest c_chooser c_firstOnes cf c_force cg c_lastOnes c_later cm c_outs c_placeOf cs c_sideAt c_won) Q) : Ok ((fX9_oneYear_24 N c_holds x1 k14 N (jI (H 0)) (jI a) (jI (a + 1)) (sdN x (rSt (H 0) a)) v_widest c_chooser c_firstOnes c_firsts c_force c_goes c_lastOnes c_later c_many c_outs c_placeOf c_seconds c_sideAt c_won)) Q := by
  have hn := hR.2.1
  obtain ⟨r0, r1, r2, r3, r4, r5⟩ := rr_all (H 0) (by omega)
  have r3a := r3 a ha
  have hle : rSt (H 0) (a + 1) ≤ zR (H 0) := by
    rw [← r1]
    have : ∀ k, a + 1 + k ≤ H 0 → rSt (H 0) (a + 1) ≤ rSt (H 0) (a + 1 + k) := by
      intro k
      induction k with
      | zero => intro _; exact Nat.le_refl _
      | succ k ih =>
        intro hk
        have := r3 (a + 1 + k) (by omega)
        have := ih (by omega)
        rw [show a + 1 + (k + 1) = a + 1 + k + 1 by omega]; omega
    have := this (H 0 - (a + 1)) (by omega)
    rwa [show a + 1 + (H 0 - (a + 1)) = H 0 by omega] at this
  have key := up_ok (fun fu b (q : (Nat → Int32) × (Nat → Int32) × (Nat → Int32) × (Nat → Int32)) => (fX9_oneYear_24 N c_holds x1 k14 fu (jI (H 0)) (jI a) (jI b) (sdN x (rSt (H 0) a + (b - a - 1))) v_widest c_chooser c_firstOnes q.1 c_force q.2.2.1 c_lastOnes c_later q.2.2.2 c_outs c_placeOf q.2.1 c_sideAt c_won)) Q (H 0) (fun b q => a < b ∧ pgY (H 0) x st cf0 cs0 cg0 cm0 (rSt (H 0) a + (b - a - 1)) q.1 q.2.1 q.2.2.1 q.2.2.2) ?_ ?_ N (a + 1) (c_firsts, c_seconds, c_goes, c_many) (by omega) (by omega) ⟨by omega, by simp only [show a + 1 - a - 1 = 0 by omega, Nat.add_zero]; exact hp⟩
  · simp only [show a + 1 - a - 1 = 0 by omega, Nat.add_zero] at key
    exact key
  · intro fu b ⟨cf, cs, cg, cm⟩ hb ⟨hab, hp2⟩ ih
    simp only at hp2
    obtain ⟨q1, q2⟩ := r4 a ha b hb hab
    have hm := hp2.1
    have hsb : rSt (H 0) a + (b + 1 - a - 1) = rSt (H 0) a + (b - a - 1) + 1 := by omega
    have a1 := hst a ha
    have a2 := hst b hb
    have t1 := hs a ha
    have t2 := hs b hb
    have hsd := sdN_succ x (rSt (H 0) a + (b - a - 1))
    have d := drawM (N := N) (k := 16) (x := sdN x (rSt (H 0) a + (b - a - 1))) (by omega) (by omega)
    have o := oddsOfM (N := N) (a := st a) (b := st b) (by omega) (by omega) (by omega)
    have hol := odN_le (st a) (st b)
    have hye : yE (H 0) x st (rSt (H 0) a + (b - a - 1)) = if odN (st a) (st b) ≤ bN (nxS (sdN x (rSt (H 0) a + (b - a - 1)))) % 16 then 1 else 0 := by
      unfold yE; rw [q1, q2, hsd]
    have hk30 : rSt (H 0) a + (b - a - 1) < 30 := by omega
    have nx := fun (v : Nat) (hv : v = yE (H 0) x st (rSt (H 0) a + (b - a - 1))) => ih (upd cf (30 + (rSt (H 0) a + (b - a - 1))) (jI a), upd cs (30 + (rSt (H 0) a + (b - a - 1))) (jI b), upd cg (30 + (rSt (H 0) a + (b - a - 1))) (jI v), upd cm 1 (jI (rSt (H 0) a + (b - a - 1) + 1))) ⟨by omega, by simp only [hsb]; exact pgY_step hp2 q1.symm q2.symm hv⟩
    simp only [hsb] at nx
    rw [hsd] at nx
    generalize rSt (H 0) a + (b - a - 1) = k at *
    have hv16 : bN (nxS (sdN x k)) % 16 < 16 := Nat.mod_lt _ (by omega)
    show Ok ((fX9_oneYear_24 N c_holds x1 k14 (fu + 1) (jI (H 0)) (jI a) (jI b) (sdN x k) v_widest c_chooser c_firstOnes cf c_force cg c_lastOnes c_later cm c_outs c_placeOf cs c_sideAt c_won)) _
    have d' : fX9_drawOf N (sdN x k) 16 = some (jI (bN (nxS (sdN x k)) % 16), nxS (sdN x k)) := d
    rw [fX9_oneYear_24, d']
    clear d d' hsd
    generalize bN (nxS (sdN x k)) % 16 = v at *
    generalize nxS (sdN x k) = sd2 at *
    generalize odN (st a) (st b) = od at *
    by_cases hc : od ≤ v
    · rw [if_pos hc] at hye
      simp (disch := omega) only [jI_0, jI_1, jI_2, jI_3, jI_4, jI_5, jI_6, jI_7, jI_8, jI_9, jI_10, jI_11, jI_12, jI_13, jI_14, jI_15, jI_16, jI_20, jI_24, jI_26, jI_30, jI_31, jI_32, jI_40, jI_48, jI_56, jI_57, jI_59, jI_60, jI_97, jI_99, jI_122, jI_160, jI_240, jI_255, jI_768, jI_1000, ↓jN_1, ↓jN_2, ↓jN_3, ↓jN_4, ↓jN_8, ↓jN_10, ↓jN_11, ↓jN_12, ↓jN_14, ↓jN_20, jI_addN, jI_le, jI_lt, jI_eq, jI_cl, jI_in, jI_add, jI_sub, jI_eqN, gI_eqI, gI_eqN, gI_leI, gI_ltI, jI_leN, jI_ltN, gI_sub, pif_tt, pif_ff, pg_tt, isB, or_true, true_or, pif_T, pif_F, pg_T, pb_Q, upd_e, upd_n, fX9_oneYear_94, hm, t1, t2, o]
      exact nx 1 hye.symm
    · rw [if_neg hc] at hye
      simp (disch := omega) only [jI_0, jI_1, jI_2, jI_3, jI_4, jI_5, jI_6, jI_7, jI_8, jI_9, jI_10, jI_11, jI_12, jI_13, jI_14, jI_15, jI_16, jI_20, jI_24, jI_26, jI_30, jI_31, jI_32, jI_40, jI_48, jI_56, jI_57, jI_59, jI_60, jI_97, jI_99, jI_122, jI_160, jI_240, jI_255, jI_768, jI_1000, ↓jN_1, ↓jN_2, ↓jN_3, ↓jN_4, ↓jN_8, ↓jN_10, ↓jN_11, ↓jN_12, ↓jN_14, ↓jN_20, jI_addN, jI_le, jI_lt, jI_eq, jI_cl, jI_in, jI_add, jI_sub, jI_eqN, gI_eqI, gI_eqN, gI_leI, gI_ltI, jI_leN, jI_ltN, gI_sub, pif_tt, pif_ff, pg_tt, isB, or_true, true_or, pif_T, pif_F, pg_T, pb_Q, upd_e, upd_n, fX9_oneYear_94, hm, t1, t2, o]
      exact nx 0 hye.symm
  · intro fu ⟨cf, cs, cg, cm⟩ ⟨hab, hp2⟩
    simp only at hp2
    have hsz : rSt (H 0) a + (H 0 - a - 1) = rSt (H 0) (a + 1) := by omega
    rw [hsz] at hp2 ⊢
    simp (disch := omega) only [jI_0, jI_1, jI_2, jI_3, jI_4, jI_5, jI_6, jI_7, jI_8, jI_9, jI_10, jI_11, jI_12, jI_13, jI_14, jI_15, jI_16, jI_20, jI_24, jI_26, jI_30, jI_31, jI_32, jI_40, jI_48, jI_56, jI_57, jI_59, jI_60, jI_97, jI_99, jI_122, jI_160, jI_240, jI_255, jI_768, jI_1000, ↓jN_1, ↓jN_2, ↓jN_3, ↓jN_4, ↓jN_8, ↓jN_10, ↓jN_11, ↓jN_12, ↓jN_14, ↓jN_20, jI_addN, jI_le, jI_lt, jI_eq, jI_cl, jI_in, jI_add, jI_sub, jI_eqN, gI_eqI, gI_eqN, gI_leI, gI_ltI, jI_leN, jI_ltN, gI_sub, pif_tt, pif_ff, pg_tt, isB, or_true, true_or, pif_T, pif_F, pg_T, pb_S, upd_e, upd_n, fX9_oneYear_24]
    exact hk cf cs cg cm hp2
theorem oneYearM {x : Int32} {wd y : Nat} (hN : 100 ≤ N) (hR : Rk H) (hh : Rm H c_holds) (hy : y < 40) (hwd : wd ≤ 9) (hst : ∀ i, i < H 0 → 1 ≤ st i ∧ st i ≤ 9) (hs : ∀ i, i < H 0 → c_force i = jI (st i)) : Ok ((fX9_oneYear N x (jI wd) c_chooser c_firstOnes c_firsts c_force c_goes c_holds c_lastOnes c_later c_many c_outs c_placeOf c_seconds c_sideAt c_won (jI y))) (fun q => q.1 = ySd H x ∧ q.2.1 = jI (max wd (gpN (H 0) (gwN (yCh H x st) (fun j => H (14 + j)) st (H 0)))) ∧ q.2.2.2.1 = upd c_firstOnes y (jI (ordN (yW (H 0) x st) (H 0) 0)) ∧ q.2.2.2.2.2.2.2.1 = upd c_lastOnes y (jI (frL (H 0) (yW (H 0) x st) 0)) ∧ (∀ i, i < H 0 → q.2.2.2.2.2.1 i = jI (gwN (yCh H x st) (fun j => H (14 + j)) st (H 0) i)) ∧ kpP c_firsts c_seconds c_goes c_many q.2.2.2.2.1 q.2.2.2.2.2.2.2.2.2.2.2.2.1 q.2.2.2.2.2.2.1 q.2.2.2.2.2.2.2.2.2.1) := by
  have hn := hR.2.1
  have hn2 := hR.1
  have hk4 := hR.2.2.1
  obtain ⟨r0, r1, r2, r3, r4, r5⟩ := rr_all (H 0) (by omega)
  have hsd := sidesR (N := N) hh
  have hh1 := hh 1 (by omega)
  have start : pgY (H 0) x st c_firsts c_seconds c_goes c_many (rSt (H 0) 0) c_firsts c_seconds c_goes (upd c_many 1 (jI 0)) := by
    rw [r0]
    exact ⟨upd_e rfl, fun g hg => by omega, fun g _ => ⟨rfl, rfl, rfl⟩, upd_n (by omega)⟩
  simp (disch := omega) only [jI_0, jI_1, jI_2, jI_3, jI_4, jI_5, jI_6, jI_7, jI_8, jI_9, jI_10, jI_11, jI_12, jI_13, jI_14, jI_15, jI_16, jI_20, jI_24, jI_26, jI_30, jI_31, jI_32, jI_40, jI_48, jI_56, jI_57, jI_59, jI_60, jI_97, jI_99, jI_122, jI_160, jI_240, jI_255, jI_768, jI_1000, ↓jN_1, ↓jN_2, ↓jN_3, ↓jN_4, ↓jN_8, ↓jN_10, ↓jN_11, ↓jN_12, ↓jN_14, ↓jN_20, jI_addN, jI_le, jI_lt, jI_eq, jI_cl, jI_in, jI_add, jI_sub, jI_eqN, gI_eqI, gI_eqN, gI_leI, gI_ltI, jI_leN, jI_ltN, gI_sub, pif_tt, pif_ff, pg_tt, isB, or_true, true_or, pif_T, pif_F, pg_T, pb_S, upd_e, upd_n, fX9_oneYear, hsd]
  have key := up_ok (fun fu a (q : (Nat → Int32) × (Nat → Int32) × (Nat → Int32) × (Nat → Int32)) => (fX9_oneYear_14 N c_holds (jI y) fu (jI (H 0)) (jI a) (sdN x (rSt (H 0) a)) (jI wd) c_chooser c_firstOnes q.1 c_force q.2.2.1 c_lastOnes c_later q.2.2.2 c_outs c_placeOf q.2.1 c_sideAt c_won)) (fun q => q.1 = ySd H x ∧ q.2.1 = jI (max wd (gpN (H 0) (gwN (yCh H x st) (fun j => H (14 + j)) st (H 0)))) ∧ q.2.2.2.1 = upd c_firstOnes y (jI (ordN (yW (H 0) x st) (H 0) 0)) ∧ q.2.2.2.2.2.2.2.1 = upd c_lastOnes y (jI (frL (H 0) (yW (H 0) x st) 0)) ∧ (∀ i, i < H 0 → q.2.2.2.2.2.1 i = jI (gwN (yCh H x st) (fun j => H (14 + j)) st (H 0) i)) ∧ kpP c_firsts c_seconds c_goes c_many q.2.2.2.2.1 q.2.2.2.2.2.2.2.2.2.2.2.2.1 q.2.2.2.2.2.2.1 q.2.2.2.2.2.2.2.2.2.1) (H 0) (fun a q => pgY (H 0) x st c_firsts c_seconds c_goes c_many (rSt (H 0) a) q.1 q.2.1 q.2.2.1 q.2.2.2) ?_ ?_ N 0 (c_firsts, c_seconds, c_goes, upd c_many 1 (jI 0)) (by omega) (by omega) start
  · simp only [r0] at key
    exact key
  · intro fu a ⟨cf, cs, cg, cm⟩ ha hp ih
    simp only at hp
    simp (disch := omega) only [jI_0, jI_1, jI_2, jI_3, jI_4, jI_5, jI_6, jI_7, jI_8, jI_9, jI_10, jI_11, jI_12, jI_13, jI_14, jI_15, jI_16, jI_20, jI_24, jI_26, jI_30, jI_31, jI_32, jI_40, jI_48, jI_56, jI_57, jI_59, jI_60, jI_97, jI_99, jI_122, jI_160, jI_240, jI_255, jI_768, jI_1000, ↓jN_1, ↓jN_2, ↓jN_3, ↓jN_4, ↓jN_8, ↓jN_10, ↓jN_11, ↓jN_12, ↓jN_14, ↓jN_20, jI_addN, jI_le, jI_lt, jI_eq, jI_cl, jI_in, jI_add, jI_sub, jI_eqN, gI_eqI, gI_eqN, gI_leI, gI_ltI, jI_leN, jI_ltN, gI_sub, pif_tt, pif_ff, pg_tt, isB, or_true, true_or, pif_T, pif_F, pg_T, pb_S, upd_e, upd_n, fX9_oneYear_14]
    exact year_24 (wd := wd) hN hR ha hst hs hp (fun cf2 cs2 cg2 cm2 hp2 => ih (cf2, cs2, cg2, cm2) hp2)
  · intro fu ⟨cf, cs, cg, cm⟩ hp
    simp only at hp
    rw [r1] at hp ⊢
    obtain ⟨p1, p2, p3⟩ := hp
    have hG : Gm 1 (zR (H 0)) (rF (H 0)) (rS (H 0)) (yE (H 0) x st) cm cf cs cg := ⟨p1, p2⟩
    obtain ⟨cp2, cs2, cw2, e2, u1, u2, u3⟩ := layT_ok (N := N) (pg := 1) (c_placeOf := c_placeOf) (c_sideAt := c_sideAt) (c_won := c_won) hN (by omega) (yGk hn x st) hG (hh 0 (by omega))
    have e2 : fX9_layTable N cf cg c_holds cm c_placeOf cs c_sideAt c_won (jI 1) = some (cp2, cs2, cw2) := e2
    have s0 : cs2 0 = jI (ordN (yW (H 0) x st) (H 0) 0) := u2 0 (by omega)
    have sl : cs2 (H 0 - 1) = jI (frL (H 0) (yW (H 0) x st) 0) := u2 (H 0 - 1) (by omega)
    by_cases hk1 : H 1 = 1
    · have hpos := hR.2.2.2.2.2 hk1
      have hle := balls_le hR hn
      have eb := ballsM (N := N) hN hR hh
      have ed := drawM (N := N) (k := sumN (H 0) (fun j => H (20 + j))) (x := sdN x (zR (H 0))) hpos (by omega)
      rw [← sdN_succ] at ed
      have hyb : yB H x = blN (fun j => H (20 + j)) (H 0) 0 (bN (sdN x (zR (H 0) + 1)) % sumN (H 0) (fun j => H (20 + j))) := if_pos hk1
      have hv : bN (sdN x (zR (H 0) + 1)) % sumN (H 0) (fun j => H (20 + j)) < sumN (H 0) (fun j => H (20 + j)) := Nat.mod_lt _ hpos
      have hysd : sdN x (zR (H 0) + 1) = ySd H x := by unfold ySd; rw [if_pos hk1]
      rw [hysd] at ed hyb hv
      clear hysd
      generalize bN (ySd H x) % sumN (H 0) (fun j => H (20 + j)) = v at *
      simp (disch := omega) only [jI_0, jI_1, jI_2, jI_3, jI_4, jI_5, jI_6, jI_7, jI_8, jI_9, jI_10, jI_11, jI_12, jI_13, jI_14, jI_15, jI_16, jI_20, jI_24, jI_26, jI_30, jI_31, jI_32, jI_40, jI_48, jI_56, jI_57, jI_59, jI_60, jI_97, jI_99, jI_122, jI_160, jI_240, jI_255, jI_768, jI_1000, ↓jN_1, ↓jN_2, ↓jN_3, ↓jN_4, ↓jN_8, ↓jN_10, ↓jN_11, ↓jN_12, ↓jN_14, ↓jN_20, jI_addN, jI_le, jI_lt, jI_eq, jI_cl, jI_in, jI_add, jI_sub, jI_eqN, gI_eqI, gI_eqN, gI_leI, gI_ltI, jI_leN, jI_ltN, gI_sub, pif_tt, pif_ff, pg_tt, isB, or_true, true_or, pif_T, pif_F, pg_T, pb_Q, upd_e, upd_n, fX9_oneYear_14, e2, hh1, eb, ed, s0, sl]
      refine up_ok (fun fu d v => (fX9_oneYear_170 N c_holds (jI y) fu (jI (H 0)) (jI d) (jI v) (ySd H x) (jI wd) c_chooser (upd c_firstOnes y (jI (ordN (yW (H 0) x st) (H 0) 0))) cf c_force cg (upd c_lastOnes y (jI (frL (H 0) (yW (H 0) x st) 0))) c_later cm c_outs cp2 cs cs2 cw2)) _ (H 0) (fun d v => v < 200 ∧ v < sumN (H 0) (fun j => H (20 + j)) - sumN d (fun j => H (20 + j)) ∧ blN (fun j => H (20 + j)) (H 0 - d) d v = yB H x) ?_ ?_ N 0 _ (by omega) (by omega) ⟨by omega, by simp only [sumN]; omega, hyb.symm⟩
      · intro fu d v hd ⟨hv2, hv3, hbl⟩ ih2
        have hbd := hh (20 + d) (by omega)
        have hb20 := (hR.2.2.2.1 d (by omega)).2.2.2.2.1
        have hsum : sumN (d + 1) (fun j => H (20 + j)) = sumN d (fun j => H (20 + j)) + H (20 + d) := rfl
        rw [show H 0 - d = (H 0 - (d + 1)) + 1 by omega] at hbl
        simp only [blN] at hbl
        by_cases hc : H (20 + d) ≤ v
        · rw [if_pos hc] at hbl
          simp (disch := omega) only [jI_0, jI_1, jI_2, jI_3, jI_4, jI_5, jI_6, jI_7, jI_8, jI_9, jI_10, jI_11, jI_12, jI_13, jI_14, jI_15, jI_16, jI_20, jI_24, jI_26, jI_30, jI_31, jI_32, jI_40, jI_48, jI_56, jI_57, jI_59, jI_60, jI_97, jI_99, jI_122, jI_160, jI_240, jI_255, jI_768, jI_1000, ↓jN_1, ↓jN_2, ↓jN_3, ↓jN_4, ↓jN_8, ↓jN_10, ↓jN_11, ↓jN_12, ↓jN_14, ↓jN_20, jI_addN, jI_le, jI_lt, jI_eq, jI_cl, jI_in, jI_add, jI_sub, jI_eqN, gI_eqI, gI_eqN, gI_leI, gI_ltI, jI_leN, jI_ltN, gI_sub, pif_tt, pif_ff, pg_tt, isB, or_true, true_or, pif_T, pif_F, pg_T, pb_S, upd_e, upd_n, fX9_oneYear_170, hbd]
          exact ih2 _ ⟨by omega, by omega, hbl⟩
        · rw [if_neg hc] at hbl
          simp (disch := omega) only [jI_0, jI_1, jI_2, jI_3, jI_4, jI_5, jI_6, jI_7, jI_8, jI_9, jI_10, jI_11, jI_12, jI_13, jI_14, jI_15, jI_16, jI_20, jI_24, jI_26, jI_30, jI_31, jI_32, jI_40, jI_48, jI_56, jI_57, jI_59, jI_60, jI_97, jI_99, jI_122, jI_160, jI_240, jI_255, jI_768, jI_1000, ↓jN_1, ↓jN_2, ↓jN_3, ↓jN_4, ↓jN_8, ↓jN_10, ↓jN_11, ↓jN_12, ↓jN_14, ↓jN_20, jI_addN, jI_le, jI_lt, jI_eq, jI_cl, jI_in, jI_add, jI_sub, jI_eqN, gI_eqI, gI_eqN, gI_leI, gI_ltI, jI_leN, jI_ltN, gI_sub, pif_tt, pif_ff, pg_tt, isB, or_true, true_or, pif_T, pif_F, pg_T, pb_S, upd_e, upd_n, fX9_oneYear_170, hbd]
          refine (year_204 (x := x) (wd := wd) hN hR hh hwd hbl hst hs hG u1 u2 u3).mono (fun q hq => ?_)
          obtain ⟨a1, a2, a3, a4, a5, a6, a7, a8, a9⟩ := hq
          exact ⟨a1, a2, a3, a4, a5, by rw [a6, a7, a8, a9]; exact p3⟩
      · intro fu v ⟨hv2, hv3, hbl⟩
        omega
    · have hysd : sdN x (zR (H 0)) = ySd H x := by unfold ySd; rw [if_neg hk1]
      have hyb : 0 = yB H x := by unfold yB; rw [if_neg hk1]
      rw [hysd]
      simp (disch := omega) only [jI_0, jI_1, jI_2, jI_3, jI_4, jI_5, jI_6, jI_7, jI_8, jI_9, jI_10, jI_11, jI_12, jI_13, jI_14, jI_15, jI_16, jI_20, jI_24, jI_26, jI_30, jI_31, jI_32, jI_40, jI_48, jI_56, jI_57, jI_59, jI_60, jI_97, jI_99, jI_122, jI_160, jI_240, jI_255, jI_768, jI_1000, ↓jN_1, ↓jN_2, ↓jN_3, ↓jN_4, ↓jN_8, ↓jN_10, ↓jN_11, ↓jN_12, ↓jN_14, ↓jN_20, jI_addN, jI_le, jI_lt, jI_eq, jI_cl, jI_in, jI_add, jI_sub, jI_eqN, gI_eqI, gI_eqN, gI_leI, gI_ltI, jI_leN, jI_ltN, gI_sub, pif_tt, pif_ff, pg_tt, isB, or_true, true_or, pif_T, pif_F, pg_T, pb_Q, upd_e, upd_n, fX9_oneYear_14, e2, hh1, s0, sl]
      refine (year_204 (x := x) (wd := wd) hN hR hh hwd hyb hst hs hG u1 u2 u3).mono (fun q hq => ?_)
      obtain ⟨a1, a2, a3, a4, a5, a6, a7, a8, a9⟩ := hq
      exact ⟨a1, a2, a3, a4, a5, by rw [a6, a7, a8, a9]; exact p3⟩
end
