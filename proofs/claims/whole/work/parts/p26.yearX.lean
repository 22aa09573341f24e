/-! YEARS: what they are; the class. -/
def sdN (x : Int32) : Nat → Int32
  | 0 => x
  | k + 1 => nxS (sdN x k)
theorem sdN_succ (x : Int32) (k : Nat) : sdN x (k + 1) = nxS (sdN x k) := by simp only [sdN]
/-- the ENDS of a season -/
def yE (n : Nat) (x : Int32) (st : Nat → Nat) (g : Nat) : Nat := if odN (st (rF n g)) (st (rS n g)) ≤ bN (sdN x (g + 1)) % 16 then 1 else 0
theorem yE_le (n : Nat) (x : Int32) (st : Nat → Nat) (g : Nat) : yE n x st g < 2 := by unfold yE; split <;> omega
def yW (n : Nat) (x : Int32) (st : Nat → Nat) : Nat → Nat := wonN (rF n) (rS n) (yE n x st) (zR n)
def yM (n : Nat) (x : Int32) (st : Nat → Nat) : Nat → Nat := merT n (rF n) (rS n) (yE n x st) (zR n) (zR n)
theorem yGk {n : Nat} (hn : n ≤ 6) (x : Int32) (st : Nat → Nat) : Gk n (zR n) (rF n) (rS n) (yE n x st) := by
  obtain ⟨r0, r1, r2, r3, r4, r5⟩ := rr_all n (by omega)
  refine ⟨hn, by omega, fun g hg => ?_⟩
  obtain ⟨a, b, c⟩ := r5 g hg
  exact ⟨a, b, c, by have := yE_le n x st g; omega⟩
/-- which ball is drawn -/
def blN (ba : Nat → Nat) : Nat → Nat → Nat → Nat
  | 0, d, _ => d
  | k + 1, d, v => if ba d ≤ v then blN ba k (d + 1) (v - ba d) else d
theorem blN_lt {ba : Nat → Nat} : ∀ k d v, v < sumN (d + k) ba - sumN d ba → blN ba k d v < d + k := by
  intro k
  induction k with
  | zero => intro d v h; simp at h
  | succ k ih =>
    intro d v h
    simp only [blN]
    split
    · next hv =>
      have h2 : sumN (d + 1) ba = sumN d ba + ba d := rfl
      have h3 : sumN (d + 1) ba ≤ sumN (d + (k + 1)) ba := sumN_mono (by omega)
      have := ih (d + 1) (v - ba d) (by rw [show d + 1 + k = d + (k + 1) by omega]; omega)
      omega
    · omega
def clN (v : Nat) : Nat := max 1 (min v 9)
def gwN (ch cw : Nat → Nat) (st : Nat → Nat) : Nat → (Nat → Nat)
  | 0 => st
  | c + 1 => updN (gwN ch cw st c) (ch c) (clN (gwN ch cw st c (ch c) + cw c / 10 - 1))
theorem clN_le (v : Nat) : 1 ≤ clN v ∧ clN v ≤ 9 := by unfold clN; omega
theorem gwN_le {ch cw st : Nat → Nat} {n : Nat} (h : ∀ i, i < n → 1 ≤ st i ∧ st i ≤ 9) : ∀ c i, i < n → 1 ≤ gwN ch cw st c i ∧ gwN ch cw st c i ≤ 9 := by
  intro c
  induction c with
  | zero => exact h
  | succ c ih =>
    intro i hi
    simp only [gwN]
    by_cases e : i = ch c
    · rw [updN_e e]; exact clN_le _
    · rw [updN_n e]; exact ih i hi
def yB (H : Nat → Nat) (x : Int32) : Nat := if H 1 = 1 then blN (fun j => H (20 + j)) (H 0) 0 (bN (sdN x (zR (H 0) + 1)) % sumN (H 0) (fun j => H (20 + j))) else 0
theorem yB_lt {H : Nat → Nat} (hR : Rk H) (x : Int32) : yB H x < H 0 := by
  unfold yB
  split
  · next h =>
    have hp := hR.2.2.2.2.2 h
    have := blN_lt (ba := fun j => H (20 + j)) (H 0) 0 (bN (sdN x (zR (H 0) + 1)) % sumN (H 0) (fun j => H (20 + j))) (by
      have : bN (sdN x (zR (H 0) + 1)) % sumN (H 0) (fun j => H (20 + j)) < sumN (H 0) (fun j => H (20 + j)) := Nat.mod_lt _ hp
      simp only [Nat.zero_add, sumN]; omega)
    omega
  · have := hR.1; omega
def ySd (H : Nat → Nat) (x : Int32) : Int32 := if H 1 = 1 then sdN x (zR (H 0) + 1) else sdN x (zR (H 0))
def yCh (H : Nat → Nat) (x : Int32) (st : Nat → Nat) : Nat → Nat := chN (H 1) (H 0) (yW (H 0) x st) (yM (H 0) x st) (fun j => H (26 + j)) (yB H x)
def yNx (H : Nat → Nat) (q : Int32 × (Nat → Nat)) : Int32 × (Nat → Nat) := (ySd H q.1, gwN (yCh H q.1 q.2) (fun j => H (14 + j)) q.2 (H 0))
def ySt (H : Nat → Nat) (x : Int32) : Nat → Int32 × (Nat → Nat)
  | 0 => (x, fun j => H (2 + j))
  | y + 1 => yNx H (ySt H x y)
theorem ySt_le {H : Nat → Nat} (hR : Rk H) (x : Int32) : ∀ y i, i < H 0 → 1 ≤ (ySt H x y).2 i ∧ (ySt H x y).2 i ≤ 9 := by
  intro y
  induction y with
  | zero => intro i hi; have := hR.2.2.2.1 i (by have := hR.2.1; omega); exact ⟨this.1, this.2.1⟩
  | succ y ih => intro i hi; exact gwN_le ih _ i hi
/-- first and last of a YEAR -/
def yC (H : Nat → Nat) (x : Int32) (y : Nat) : Nat := ordN (yW (H 0) (ySt H x y).1 (ySt H x y).2) (H 0) 0
def yL (H : Nat → Nat) (x : Int32) (y : Nat) : Nat := frL (H 0) (yW (H 0) (ySt H x y).1 (ySt H x y).2) 0
def chM (H : Nat → Nat) (x : Int32) : Nat → Nat
  | 0 => 0
  | y + 1 => chM H x y ||| 2 ^ yC H x y
def mnX (st : Nat → Nat) : Nat → Nat
  | 0 => 10
  | m + 1 => min (mnX st m) (st m)
def gpN (n : Nat) (st : Nat → Nat) : Nat := mxN n st - mnX st n
def wdN (H : Nat → Nat) (x : Int32) : Nat → Nat
  | 0 => 0
  | y + 1 => max (wdN H x y) (gpN (H 0) (ySt H x (y + 1)).2)
/-- the latest YEAR in which a SIDE was last, one more -/
def llN (l : Nat → Nat) (c : Nat) : Nat → Nat
  | 0 => 0
  | y + 1 => if l y = c then y + 1 else llN l c y
theorem llN_le (l : Nat → Nat) (c : Nat) : ∀ y, llN l c y ≤ y := by
  intro y
  induction y with
  | zero => exact Nat.le_refl _
  | succ y ih => simp only [llN]; split <;> omega
def fwU (fw y ll : Nat) : Nat := if ll = 0 then fw else if fw = 0 then y + 1 - ll else min fw (y + 1 - ll)
def fwN (H : Nat → Nat) (x : Int32) : Nat → Nat
  | 0 => 0
  | y + 1 => fwU (fwN H x y) y (llN (yL H x) (yC H x y) y)
theorem fwN_le (H : Nat → Nat) (x : Int32) : ∀ y, fwN H x y ≤ y := by
  intro y
  induction y with
  | zero => exact Nat.le_refl _
  | succ y ih =>
    have := llN_le (yL H x) (yC H x y) y
    simp only [fwN, fwU]; split; omega; split <;> omega
def wlI (v : Nat) : Int32 := if v = 0 then gI 4 else jI (v - 1)
def fwI (v : Nat) : Int32 := if v = 0 then gI 4 else jI v
theorem or_ok : ∀ m, m < 64 → ∀ c, c < 6 → jI m ||| (jI 1 <<< (jI c &&& jI 31)) = jI (m ||| 2 ^ c) ∧ m ||| 2 ^ c < 64 := by decide +kernel
theorem yC_lt {H : Nat → Nat} (hR : Rk H) (x : Int32) (y : Nat) : yC H x y < H 0 := (ordN_ok _ _ 0 (by have := hR.1; omega)).1
theorem yL_lt {H : Nat → Nat} (hR : Rk H) (x : Int32) (y : Nat) : yL H x y < H 0 := frL_lt (by have := hR.1; omega)
theorem chM_lt {H : Nat → Nat} (hR : Rk H) (x : Int32) : ∀ y, chM H x y < 64 := by
  intro y
  induction y with
  | zero => simp [chM]
  | succ y ih => exact (or_ok _ ih _ (by have := yC_lt hR x y; have := hR.2.1; omega)).2
theorem mxN_9 {n : Nat} {st : Nat → Nat} (h : ∀ i, i < n → st i ≤ 9) : mxN n st ≤ 9 := mxN_le.mpr h
theorem gpN_le {n : Nat} {st : Nat → Nat} (h : ∀ i, i < n → st i ≤ 9) : gpN n st ≤ 9 := by
  have := mxN_9 h; unfold gpN; omega
theorem wdN_le {H : Nat → Nat} (hR : Rk H) (x : Int32) : ∀ y, wdN H x y ≤ 9 := by
  intro y
  induction y with
  | zero => simp [wdN]
  | succ y ih =>
    have := gpN_le (n := H 0) (st := (ySt H x (y + 1)).2) (fun i hi => (ySt_le hR x (y + 1) i hi).2)
    simp only [wdN]; omega
section
variable {v_champion : Int32} {v_champions : Int32} {v_fewest : Int32} {v_gap : Int32} {v_seed : Int32} {v_widestGap : Int32} {v_p1_kind : Int32} {v_p1_sides : Int32} {c_p1_balls : Nat → Int32} {c_p1_choiceWorth : Nat → Int32} {c_p1_strength : Nat → Int32} {c_p1_wheel : Nat → Int32} {v_season_size : Int32} {c_season_ending : Nat → Int32} {c_season_first : Nat → Int32} {c_season_second : Nat → Int32} {v_standing_sides : Int32} {c_standing_merit : Nat → Int32} {c_standing_order : Nat → Int32} {c_standing_outAt : Nat → Int32} {c_standing_seat : Nat → Int32} {c_standing_toCome : Nat → Int32} {c_standing_turn : Nat → Int32} {c_standing_won : Nat → Int32} {c_strength : Nat → Int32} {c_wasLast : Nat → Int32}
variable {N : Nat} {H : Nat → Nat} {st : Nat → Nat}
theorem pb_Q {α β : Type} (a : α) (f : α → Option β) : pb (some a) f = f a := by
  have h : ∀ x : Option α, x = some a → pb x f = f a := fun x hx => by subst hx; rfl
  exact h _ rfl
theorem playSeasonG {x : Int32} {n zn : Nat} {F S E : Nat → Nat} (hN : 100 ≤ N) (hn : n ≤ 6) (hzn : zn ≤ 15) (hFS : ∀ g, g < zn → F g < n ∧ S g < n ∧ F g ≠ S g) (hE : ∀ g, E g = if odN (st (F g)) (st (S g)) ≤ bN (sdN x (g + 1)) % 16 then 1 else 0) (hst : ∀ i, i < n → 1 ≤ st i ∧ st i ≤ 9) (hs : ∀ i, i < n → c_strength i = jI (st i)) (hg : ∀ g, g < zn → c_season_first g = jI (F g) ∧ c_season_second g = jI (S g)) : ∃ ce co cse cw, (fX7_playSeason N x (jI zn) c_season_ending c_season_first c_season_second v_standing_sides c_standing_order c_standing_seat c_standing_won c_strength (jI n)) = some (sdN x zn, ce, jI n, co, cse, cw) ∧ (∀ p, p < n → co p = jI (ordN (wonN F S E zn) n p)) ∧ Gc zn F S E (jI zn) c_season_first c_season_second ce := by
  have hE2 : ∀ g, E g ≤ 2 := fun g => by rw [hE g]; split <;> omega
  have hk : Gk n zn F S E := ⟨hn, by omega, fun g hg => ⟨(hFS g hg).1, (hFS g hg).2.1, (hFS g hg).2.2, hE2 g⟩⟩
  have key : Ok ((fX7_playSeason_2 N (jI zn) c_season_first c_season_second c_strength (jI n) N 0 x c_season_ending v_standing_sides c_standing_order c_standing_seat c_standing_won)) (fun q => q.1 = sdN x zn ∧ q.2.2.1 = jI n ∧ (∀ p, p < n → q.2.2.2.1 p = jI (ordN (wonN F S E zn) n p)) ∧ Gc zn F S E (jI zn) c_season_first c_season_second q.2.1) := by
    refine up_ok (fun fu g (q : Int32 × (Nat → Int32)) => (fX7_playSeason_2 N (jI zn) c_season_first c_season_second c_strength (jI n) fu (jI g) q.1 q.2 v_standing_sides c_standing_order c_standing_seat c_standing_won)) _ zn (fun g q => q.1 = sdN x g ∧ ∀ k, k < g → q.2 k = jI (E k)) ?_ ?_ N 0 (x, c_season_ending) (by omega) (by omega) ⟨rfl, fun k h => by omega⟩
    · intro fu g ⟨sd, ce⟩ hg2 ⟨h1, h2⟩ ih
      simp only at h1 h2
      obtain ⟨g1, g2⟩ := hg g hg2
      obtain ⟨k1, k2, k3⟩ := hFS g hg2
      have a1 := hst _ k1
      have a2 := hst _ k2
      have t1 := hs _ k1
      have t2 := hs _ k2
      have c := chanceX (N := N) (a := st (F g)) (b := st (S g)) (by omega) (by omega) (by omega)
      have d := drawX (N := N) (k := 16) (x := sd) (by omega) (by omega)
      have hol := odN_le (st (F g)) (st (S g))
      have hye := hE g
      have hsd := sdN_succ x g
      rw [hsd] at hye
      rw [← h1] at hsd hye
      have hv16 : bN (nxS sd) % 16 < 16 := Nat.mod_lt _ (by omega)
      have fin : ∀ v, v = E g → (∀ k, k < g + 1 → upd ce g (jI v) k = jI (E k)) := fun v hv k hk => by
        by_cases h : k = g
        · rw [upd_e h, hv, h]
        · rw [upd_n h]; exact h2 k (by omega)
      generalize bN (nxS sd) % 16 = v at d hye hv16
      generalize nxS sd = sd2 at d hsd
      generalize odN (st (F g)) (st (S g)) = od at c hye hol
      have d' : fX7_draw N sd 16 = some (jI v, sd2) := d
      show Ok ((fX7_playSeason_2 N (jI zn) c_season_first c_season_second c_strength (jI n) (fu + 1) (jI g) sd ce v_standing_sides c_standing_order c_standing_seat c_standing_won)) _
      rw [fX7_playSeason_2, d']
      clear d d'
      by_cases hc : od ≤ v
      · rw [if_pos hc] at hye
        refine Ok.i (fun h => ?_) (fun _ => ?_)
        · rw [jI_le (by omega) (by omega)] at h; omega
        refine Ok.g (by rw [jI_in (by omega)]; omega) ?_
        have e1 : (jI g).toNatClampNeg = g := jI_cl (by omega)
        simp only [e1, g1, g2]
        refine Ok.g (by rw [jI_in (by omega)]; omega) ?_
        refine Ok.g (by rw [jI_in (by omega)]; omega) ?_
        refine Ok.g (by rw [jI_in (by omega)]; omega) ?_
        have e2 : (jI (F g)).toNatClampNeg = F g := jI_cl (by omega)
        have e3 : (jI (S g)).toNatClampNeg = S g := jI_cl (by omega)
        rw [e2, e3, t1, t2, c, pb_Q, pb_Q]
        refine Ok.i (fun _ => ?_) (fun h => ?_)
        · simp (disch := omega) only [jI_0, jI_1, jI_2, jI_3, jI_4, jI_5, jI_6, jI_7, jI_8, jI_9, jI_10, jI_11, jI_12, jI_13, jI_14, jI_15, jI_16, jI_20, jI_24, jI_26, jI_30, jI_31, jI_32, jI_40, jI_48, jI_56, jI_57, jI_59, jI_60, jI_97, jI_99, jI_122, jI_160, jI_240, jI_255, jI_768, jI_1000, ↓jN_1, ↓jN_2, ↓jN_3, ↓jN_4, ↓jN_8, ↓jN_10, ↓jN_11, ↓jN_12, ↓jN_14, ↓jN_20, jI_addN, jI_le, jI_lt, jI_eq, jI_cl, jI_in, jI_add, jI_sub, jI_eqN, gI_eqI, gI_eqN, gI_leI, gI_ltI, jI_leN, jI_ltN, gI_sub, pif_tt, pif_ff, pg_tt, isB, or_true, true_or, pif_T, pif_F, pg_T, pb_S, upd_e, upd_n, fX7_playSeason_68]
          exact ih (_, _) ⟨hsd.symm, fin 1 hye.symm⟩
        · rw [jI_le (by omega) (by omega)] at h; omega
      · rw [if_neg hc] at hye
        refine Ok.i (fun h => ?_) (fun _ => ?_)
        · rw [jI_le (by omega) (by omega)] at h; omega
        refine Ok.g (by rw [jI_in (by omega)]; omega) ?_
        have e1 : (jI g).toNatClampNeg = g := jI_cl (by omega)
        simp only [e1, g1, g2]
        refine Ok.g (by rw [jI_in (by omega)]; omega) ?_
        refine Ok.g (by rw [jI_in (by omega)]; omega) ?_
        refine Ok.g (by rw [jI_in (by omega)]; omega) ?_
        have e2 : (jI (F g)).toNatClampNeg = F g := jI_cl (by omega)
        have e3 : (jI (S g)).toNatClampNeg = S g := jI_cl (by omega)
        rw [e2, e3, t1, t2, c, pb_Q, pb_Q]
        refine Ok.i (fun h => ?_) (fun _ => ?_)
        · rw [jI_le (by omega) (by omega)] at h; omega
        · simp (disch := omega) only [jI_0, jI_1, jI_2, jI_3, jI_4, jI_5, jI_6, jI_7, jI_8, jI_9, jI_10, jI_11, jI_12, jI_13, jI_14, jI_15, jI_16, jI_20, jI_24, jI_26, jI_30, jI_31, jI_32, jI_40, jI_48, jI_56, jI_57, jI_59, jI_60, jI_97, jI_99, jI_122, jI_160, jI_240, jI_255, jI_768, jI_1000, ↓jN_1, ↓jN_2, ↓jN_3, ↓jN_4, ↓jN_8, ↓jN_10, ↓jN_11, ↓jN_12, ↓jN_14, ↓jN_20, jI_addN, jI_le, jI_lt, jI_eq, jI_cl, jI_in, jI_add, jI_sub, jI_eqN, gI_eqI, gI_eqN, gI_leI, gI_ltI, jI_leN, jI_ltN, gI_sub, pif_tt, pif_ff, pg_tt, isB, or_true, true_or, pif_T, pif_F, pg_T, pb_S, upd_e, upd_n, fX7_playSeason_68]
          exact ih (_, _) ⟨hsd.symm, fin 0 hye.symm⟩
    · intro fu ⟨sd, ce⟩ ⟨h1, h2⟩
      simp only at h1 h2
      subst h1
      have hGc : Gc zn F S E (jI zn) c_season_first c_season_second ce := ⟨rfl, fun g hg2 => ⟨(hg g hg2).1, (hg g hg2).2, h2 g hg2⟩⟩
      obtain ⟨co, ct, cw, e1, w1, w2, w3⟩ := settle_ok (N := N) (v_sides := v_standing_sides) (c_order := c_standing_order) (c_seat := c_standing_seat) (c_won := c_standing_won) hN hk hGc
      simp (disch := omega) only [jI_0, jI_1, jI_2, jI_3, jI_4, jI_5, jI_6, jI_7, jI_8, jI_9, jI_10, jI_11, jI_12, jI_13, jI_14, jI_15, jI_16, jI_20, jI_24, jI_26, jI_30, jI_31, jI_32, jI_40, jI_48, jI_56, jI_57, jI_59, jI_60, jI_97, jI_99, jI_122, jI_160, jI_240, jI_255, jI_768, jI_1000, ↓jN_1, ↓jN_2, ↓jN_3, ↓jN_4, ↓jN_8, ↓jN_10, ↓jN_11, ↓jN_12, ↓jN_14, ↓jN_20, jI_addN, jI_le, jI_lt, jI_eq, jI_cl, jI_in, jI_add, jI_sub, jI_eqN, gI_eqI, gI_eqN, gI_leI, gI_ltI, jI_leN, jI_ltN, gI_sub, pif_tt, pif_ff, pg_tt, isB, or_true, true_or, pif_T, pif_F, pg_T, pb_S, upd_e, upd_n, fX7_playSeason_2, e1]
      exact Ok.s ⟨rfl, rfl, w2, hGc⟩
  obtain ⟨⟨q1, q2, q3, q4, q5, q6⟩, e1, h1, h2, h3, h4⟩ := key
  simp only at h1 h2 h3 h4
  subst h1 h2
  exact ⟨q2, q4, q5, q6, e1, h3, h4⟩
theorem playSeasonX {x : Int32} (hN : 100 ≤ N) (hR : Rk H) (hst : ∀ i, i < H 0 → 1 ≤ st i ∧ st i ≤ 9) (hs : ∀ i, i < H 0 → c_strength i = jI (st i)) (hg : ∀ g, g < zR (H 0) → c_season_first g = jI (rF (H 0) g) ∧ c_season_second g = jI (rS (H 0) g)) : ∃ ce co cse cw, (fX7_playSeason N x (jI (zR (H 0))) c_season_ending c_season_first c_season_second v_standing_sides c_standing_order c_standing_seat c_standing_won c_strength (jI (H 0))) = some (sdN x (zR (H 0)), ce, jI (H 0), co, cse, cw) ∧ (∀ p, p < H 0 → co p = jI (ordN (yW (H 0) x st) (H 0) p)) ∧ Gc (zR (H 0)) (rF (H 0)) (rS (H 0)) (yE (H 0) x st) (jI (zR (H 0))) c_season_first c_season_second ce :=
  playSeasonG (F := rF (H 0)) (S := rS (H 0)) (E := yE (H 0) x st) hN hR.2.1 (zR_le hR.2.1) (rr_all (H 0) (by have := hR.2.1; omega)).2.2.2.2.2 (fun _ => rfl) hst hs hg
end
