/-! TEXT: what both have read so far; the end of a line. -/
def wiN (i : Nat) : Nat := if i < 3 then i + 1 else i + 2
def Rr (H : Nat → Nat) : Prop := 2 ≤ H 0 ∧ H 0 ≤ 6 ∧ H 1 ≤ 4 ∧ (∀ j, j < 6 → 1 ≤ H (2 + j) ∧ H (2 + j) ≤ 9 ∧ H (8 + j) ≤ 99 ∧ H (14 + j) ≤ 99 ∧ H (20 + j) ≤ 20 ∧ H (26 + j) < 6) ∧ (∀ j, j < H 0 → H (26 + j) < H 0)
def Bd (m : Nat → Nat) (B ib : Nat) : Prop := (∀ j, j < 11 → m j < 64) ∧ ib < 2 ∧ (∀ i, i < 5 → ∀ w, w < 6 → (m (wiN i)).testBit w = B.testBit (6 * i + w)) ∧ (ib = 0 ↔ (m 1 = 0 ∧ m 2 = 0 ∧ m 3 = 0 ∧ m 5 = 0 ∧ m 6 = 0 ∧ m 7 = 0))
def Ld (H m : Nat → Nat) (B ib r : Nat) : Prop := Rr H ∧ Bd m B ib ∧ r * zR (H 0) ≤ 30 ∧ (ib = 0 → r = 0 ∧ ∀ j, j < 6 → H (26 + j) = j)
def Lc (H m : Nat → Nat) (r : Nat) (vk vr vs : Int32) (cb cc cp cs cw ct : Nat → Int32) : Prop := Rc H vk vs cb cc cp cs cw ∧ vr = jI r ∧ ∀ j, j < 11 → ct j = jI (m j)
def Lm (H m : Nat → Nat) (B ib r : Nat) (vr vs vb vg vt : Int32) (cf cs cr : Nat → Int32) : Prop := vr = jI (m 4) ∧ vs = jI (m 0) ∧ vb = jI ib ∧ vg = jI (r * zR (H 0)) ∧ vt = jI B ∧ (∀ g, g < r * zR (H 0) → cf g = jI (gF (H 0) r g) ∧ cs g = jI (gSd (H 0) r g)) ∧ Rm H cr
/-- the reference stands at token k, or that token is wrong -/
def At (t : Nat) (tp : Nat → Nat) (k : Nat) (vp vs vt vv vw va : Int32) : Prop := (kK t tp k ≠ 4 → vp = jI (kS t tp k) ∧ vs = jI (ps t tp (k + 1)) ∧ vt = jI (kK t tp k) ∧ vv = jI (kR t tp k) ∧ vw = jI 0) ∧ (kK t tp k = 4 → vw = jI 1 ∧ va = jI (kS t tp k))
abbrev LA := Int32 × Int32 × Int32 × Int32 × Int32 × Int32 × Int32 × (Nat → Int32) × (Nat → Int32) × (Nat → Int32) × (Nat → Int32) × (Nat → Int32) × (Nat → Int32)
abbrev LB := Int32 × Int32 × Int32 × Int32 × Int32 × Int32 × Int32 × Int32 × Int32 × Int32 × Int32 × (Nat → Int32) × (Nat → Int32) × (Nat → Int32)
/-- how a line ends -/
def LQ (t : Nat) (tp : Nat → Nat) (T k : Nat) (vf : Int32) (a : LA) (b : LB) : Prop := (∃ c p, 0 < c ∧ c < 7 ∧ p ≤ t ∧ a.1 = jI 0 ∧ a.2.2.1 = jI c ∧ a.2.2.2.1 = jI p ∧ b.2.2.2.2.2.2.2.2.2.1 = jI c ∧ b.2.2.2.2.2.2.2.2.2.2.1 = jI p) ∨ (∃ e H m B ib r, k < e ∧ e < T ∧ a.1 = jI 1 ∧ a.2.1 = jI e ∧ a.2.2.1 = vf ∧ Ld H m B ib r ∧ Lc H m r a.2.2.2.2.1 a.2.2.2.2.2.1 a.2.2.2.2.2.2.1 a.2.2.2.2.2.2.2.1 a.2.2.2.2.2.2.2.2.1 a.2.2.2.2.2.2.2.2.2.1 a.2.2.2.2.2.2.2.2.2.2.1 a.2.2.2.2.2.2.2.2.2.2.2.1 a.2.2.2.2.2.2.2.2.2.2.2.2 ∧ Lm H m B ib r b.1 b.2.1 b.2.2.1 b.2.2.2.2.1 b.2.2.2.2.2.2.2.1 b.2.2.2.2.2.2.2.2.2.2.2.1 b.2.2.2.2.2.2.2.2.2.2.2.2.1 b.2.2.2.2.2.2.2.2.2.2.2.2.2 ∧ At t tp (e + 1) b.2.2.2.1 b.2.2.2.2.2.1 b.2.2.2.2.2.2.1 b.2.2.2.2.2.2.2.2.1 b.2.2.2.2.2.2.2.2.2.1 b.2.2.2.2.2.2.2.2.2.2.1)
section
variable {v_at : Int32} {v_flaw : Int32} {v_flawPlace : Int32} {v_draft_kind : Int32} {v_draft_rounds : Int32} {v_draft_sides : Int32} {c_draft_balls : Nat → Int32} {c_draft_choiceWorth : Nat → Int32} {c_draft_placeWorth : Nat → Int32} {c_draft_strength : Nat → Int32} {c_draft_wheel : Nat → Int32} {c_tape_meaning : Nat → Int32} {c_tape_start : Nat → Int32} {c_tape_token : Nat → Int32} {c_told : Nat → Int32} {v_hasRule : Int32} {v_hasSides : Int32} {v_isBehind : Int32} {v_place : Int32} {v_readGames : Int32} {v_spot : Int32} {v_taped : Int32} {v_token : Int32} {v_toldOnes : Int32} {v_value : Int32} {v_wrong : Int32} {v_wrongAt : Int32} {c_cuts : Nat → Int32} {c_kinds : Nat → Int32} {c_letters : Nat → Int32} {c_readFirst : Nat → Int32} {c_readSecond : Nat → Int32} {c_reads : Nat → Int32} {c_tape : Nat → Int32}
variable {N t T k : Nat} {tp : Nat → Nat}
theorem lineBad {c p : Nat} {vf : Int32} (h0 : 0 < c) (h7 : c < 7) (hp : p ≤ t) : Ok ((fX1_takeLine_201 N c_tape_meaning c_tape_start c_tape_token (jI 0) v_at (jI c) (jI p) v_draft_kind v_draft_rounds v_draft_sides c_draft_balls c_draft_choiceWorth c_draft_placeWorth c_draft_strength c_draft_wheel c_told)) (fun a => Ok ((fX9_readLine_194 N v_taped c_cuts c_kinds c_letters c_tape v_hasRule v_hasSides v_isBehind v_place v_readGames v_spot v_token v_toldOnes v_value (jI c) (jI p) c_readFirst c_readSecond c_reads)) (fun b => LQ t tp T k vf a b)) := by
  have hcc : (jI c = jI 0) = False := by rw [jI_eq (by omega) (by omega)]; exact eq_false (by omega)
  simp (disch := omega) only [jI_0, jI_1, jI_2, jI_3, jI_4, jI_5, jI_6, jI_7, jI_8, jI_9, jI_10, jI_11, jI_12, jI_13, jI_14, jI_15, jI_16, jI_20, jI_24, jI_26, jI_30, jI_31, jI_32, jI_40, jI_48, jI_56, jI_57, jI_59, jI_60, jI_97, jI_99, jI_122, jI_160, jI_240, jI_255, jI_768, jI_1000, ↓jN_1, ↓jN_2, ↓jN_3, ↓jN_4, ↓jN_8, ↓jN_10, ↓jN_11, ↓jN_12, ↓jN_14, ↓jN_20, jI_addN, jI_le, jI_lt, jI_eq, jI_cl, jI_in, jI_add, jI_sub, jI_eqN, gI_eqI, gI_eqN, gI_leI, gI_ltI, jI_leN, jI_ltN, gI_sub, pif_tt, pif_ff, pg_tt, isB, or_true, true_or, pif_T, pif_F, pg_T, pb_Q, upd_e, upd_n, fX1_takeLine_201]
  refine Ok.s ?_
  simp (disch := omega) only [jI_0, jI_1, jI_2, jI_3, jI_4, jI_5, jI_6, jI_7, jI_8, jI_9, jI_10, jI_11, jI_12, jI_13, jI_14, jI_15, jI_16, jI_20, jI_24, jI_26, jI_30, jI_31, jI_32, jI_40, jI_48, jI_56, jI_57, jI_59, jI_60, jI_97, jI_99, jI_122, jI_160, jI_240, jI_255, jI_768, jI_1000, ↓jN_1, ↓jN_2, ↓jN_3, ↓jN_4, ↓jN_8, ↓jN_10, ↓jN_11, ↓jN_12, ↓jN_14, ↓jN_20, jI_addN, jI_le, jI_lt, jI_eq, jI_cl, jI_in, jI_add, jI_sub, jI_eqN, gI_eqI, gI_eqN, gI_leI, gI_ltI, jI_leN, jI_ltN, gI_sub, pif_tt, pif_ff, pg_tt, isB, or_true, true_or, pif_T, pif_F, pg_T, pb_Q, upd_e, upd_n, fX9_readLine_194, fX9_readLine_214, hcc, nextWe]
  exact Ok.s (Or.inl ⟨c, p, h0, h7, hp, rfl, rfl, rfl, rfl, rfl⟩)
theorem cD_c {x : Nat} (h : cD t tp k x ≠ 0) : 0 < cD t tp k x ∧ cD t tp k x < 7 ∧ (kK t tp k ≠ 4 → cD t tp k x = 2) ∧ (kK t tp k = 4 → cD t tp k x = 1) := by
  unfold cD at h ⊢
  split
  · rename_i h4; exact ⟨by omega, by omega, fun c => absurd h4 c, fun _ => rfl⟩
  · rename_i h4
    rw [if_neg h4] at h
    split
    · rename_i hx; rw [if_pos hx] at h; omega
    · exact ⟨by omega, by omega, fun _ => rfl, fun c => absurd c h4⟩
theorem cD_0 {x : Nat} (h : cD t tp k x = 0) : kK t tp k = x ∧ kK t tp k ≠ 4 := by
  unfold cD at h
  split at h
  · omega
  · split at h
    · rename_i a b; exact ⟨b, a⟩
    · omega
theorem lineEnd {e B ib r : Nat} {H m : Nat → Nat} (hN : 1000 ≤ N) (hT : Tk t tp T c_tape_meaning c_tape_start c_tape_token) (ht : t ≤ 240) (h256 : ∀ k, k < 240 → tp k < 256) (hb : ∀ k, k < t → c_tape k = jI (tp k)) (hcu : Cu c_cuts c_letters) (hk : k ≤ e) (he : e < T) (hL : Ld H m B ib r) (hC : Lc H m r v_draft_kind v_draft_rounds v_draft_sides c_draft_balls c_draft_choiceWorth c_draft_placeWorth c_draft_strength c_draft_wheel c_told) (hM : Lm H m B ib r v_hasRule v_hasSides v_isBehind v_readGames v_toldOnes c_readFirst c_readSecond c_reads) (hA : At t tp (e + 1) v_place v_spot v_token v_value v_wrong v_wrongAt) : Ok ((fX1_takeLine_201 N c_tape_meaning c_tape_start c_tape_token (jI 1) (jI e) v_flaw v_flawPlace v_draft_kind v_draft_rounds v_draft_sides c_draft_balls c_draft_choiceWorth c_draft_placeWorth c_draft_strength c_draft_wheel c_told)) (fun a => Ok ((fX9_readLine_194 N (jI t) c_cuts c_kinds c_letters c_tape v_hasRule v_hasSides v_isBehind v_place v_readGames v_spot v_token v_toldOnes v_value v_wrong v_wrongAt c_readFirst c_readSecond c_reads)) (fun b => LQ t tp T k v_flaw a b)) := by
  have hT' := hT
  obtain ⟨T1, T2, T3, T4⟩ := hT'
  have hD := dueX (N := N) (v_flaw := v_flaw) (v_flawPlace := v_flawPlace) (k := e + 1) (x := 3) hT ht (by omega) (by omega)
  have hst := stepX (N := N) (k := e) (by omega)
  have hsl := kS_le t tp (e + 1)
  by_cases c0 : cD t tp (e + 1) 3 = 0
  · have d := hD.1 c0
    obtain ⟨g1, g2⟩ := cD_0 c0
    have heT : e + 1 < T := by
      apply Decidable.byContradiction
      intro h
      have h2 : e + 1 = T := by omega
      have : kK t tp T = 0 := T2
      rw [← h2] at this; omega
    obtain ⟨a1, a2, a3, a4, a5⟩ := hA.1 g2
    subst a1 a2 a3 a4 a5
    simp (disch := omega) only [jI_0, jI_1, jI_2, jI_3, jI_4, jI_5, jI_6, jI_7, jI_8, jI_9, jI_10, jI_11, jI_12, jI_13, jI_14, jI_15, jI_16, jI_20, jI_24, jI_26, jI_30, jI_31, jI_32, jI_40, jI_48, jI_56, jI_57, jI_59, jI_60, jI_97, jI_99, jI_122, jI_160, jI_240, jI_255, jI_768, jI_1000, ↓jN_1, ↓jN_2, ↓jN_3, ↓jN_4, ↓jN_8, ↓jN_10, ↓jN_11, ↓jN_12, ↓jN_14, ↓jN_20, jI_addN, jI_le, jI_lt, jI_eq, jI_cl, jI_in, jI_add, jI_sub, jI_eqN, gI_eqI, gI_eqN, gI_leI, gI_ltI, jI_leN, jI_ltN, gI_sub, pif_tt, pif_ff, pg_tt, isB, or_true, true_or, pif_T, pif_F, pg_T, pb_Q, upd_e, upd_n, fX1_takeLine_201, hst, d]
    refine Ok.s ?_
    rw [g1]
    obtain ⟨q3, l1, l2, l3⟩ := nxM (N := N) (t := t) (tp := tp) (k := e + 2) (v_place := jI (kS t tp (e + 1))) (v_token := jI 3) (v_value := jI (kR t tp (e + 1))) (v_wrongAt := v_wrongAt) hN ht h256 hb hcu
    simp (disch := omega) only [jI_0, jI_1, jI_2, jI_3, jI_4, jI_5, jI_6, jI_7, jI_8, jI_9, jI_10, jI_11, jI_12, jI_13, jI_14, jI_15, jI_16, jI_20, jI_24, jI_26, jI_30, jI_31, jI_32, jI_40, jI_48, jI_56, jI_57, jI_59, jI_60, jI_97, jI_99, jI_122, jI_160, jI_240, jI_255, jI_768, jI_1000, ↓jN_1, ↓jN_2, ↓jN_3, ↓jN_4, ↓jN_8, ↓jN_10, ↓jN_11, ↓jN_12, ↓jN_14, ↓jN_20, jI_addN, jI_le, jI_lt, jI_eq, jI_cl, jI_in, jI_add, jI_sub, jI_eqN, gI_eqI, gI_eqN, gI_leI, gI_ltI, jI_leN, jI_ltN, gI_sub, pif_tt, pif_ff, pg_tt, isB, or_true, true_or, pif_T, pif_F, pg_T, pb_Q, upd_e, upd_n, fX9_readLine_194, fX9_readLine_214, l1]
    refine Ok.s (Or.inr ⟨e + 1, H, m, B, ib, r, by omega, heT, rfl, rfl, rfl, hL, hC, hM, fun h4 => ?_, l3⟩)
    have := l2 h4
    subst this
    exact ⟨rfl, rfl, rfl, rfl, rfl⟩
  · have d := hD.2 c0
    obtain ⟨z1, z2, z3, z4⟩ := cD_c c0
    by_cases h4 : kK t tp (e + 1) = 4
    · obtain ⟨b1, b2⟩ := hA.2 h4
      subst b1 b2
      rw [z4 h4] at d
      simp (disch := omega) only [jI_0, jI_1, jI_2, jI_3, jI_4, jI_5, jI_6, jI_7, jI_8, jI_9, jI_10, jI_11, jI_12, jI_13, jI_14, jI_15, jI_16, jI_20, jI_24, jI_26, jI_30, jI_31, jI_32, jI_40, jI_48, jI_56, jI_57, jI_59, jI_60, jI_97, jI_99, jI_122, jI_160, jI_240, jI_255, jI_768, jI_1000, ↓jN_1, ↓jN_2, ↓jN_3, ↓jN_4, ↓jN_8, ↓jN_10, ↓jN_11, ↓jN_12, ↓jN_14, ↓jN_20, jI_addN, jI_le, jI_lt, jI_eq, jI_cl, jI_in, jI_add, jI_sub, jI_eqN, gI_eqI, gI_eqN, gI_leI, gI_ltI, jI_leN, jI_ltN, gI_sub, pif_tt, pif_ff, pg_tt, isB, or_true, true_or, pif_T, pif_F, pg_T, pb_Q, upd_e, upd_n, fX1_takeLine_201, hst, d]
      refine Ok.s ?_
      simp (disch := omega) only [jI_0, jI_1, jI_2, jI_3, jI_4, jI_5, jI_6, jI_7, jI_8, jI_9, jI_10, jI_11, jI_12, jI_13, jI_14, jI_15, jI_16, jI_20, jI_24, jI_26, jI_30, jI_31, jI_32, jI_40, jI_48, jI_56, jI_57, jI_59, jI_60, jI_97, jI_99, jI_122, jI_160, jI_240, jI_255, jI_768, jI_1000, ↓jN_1, ↓jN_2, ↓jN_3, ↓jN_4, ↓jN_8, ↓jN_10, ↓jN_11, ↓jN_12, ↓jN_14, ↓jN_20, jI_addN, jI_le, jI_lt, jI_eq, jI_cl, jI_in, jI_add, jI_sub, jI_eqN, gI_eqI, gI_eqN, gI_leI, gI_ltI, jI_leN, jI_ltN, gI_sub, pif_tt, pif_ff, pg_tt, isB, or_true, true_or, pif_T, pif_F, pg_T, pb_Q, upd_e, upd_n, fX9_readLine_194, fX9_readLine_214, nextWe]
      exact Ok.s (Or.inl ⟨1, kS t tp (e + 1), by omega, by omega, hsl, rfl, rfl, rfl, rfl, rfl⟩)
    · obtain ⟨a1, a2, a3, a4, a5⟩ := hA.1 h4
      subst a1 a2 a3 a4 a5
      have h2 := z3 h4
      rw [h2] at d
      have hne : ¬ kK t tp (e + 1) = 3 := by
        intro h3
        unfold cD at c0
        rw [if_neg h4, if_pos h3] at c0
        omega
      have hkl := kK_le t tp (e + 1)
      generalize kK t tp (e + 1) = kk at *
      simp (disch := omega) only [jI_0, jI_1, jI_2, jI_3, jI_4, jI_5, jI_6, jI_7, jI_8, jI_9, jI_10, jI_11, jI_12, jI_13, jI_14, jI_15, jI_16, jI_20, jI_24, jI_26, jI_30, jI_31, jI_32, jI_40, jI_48, jI_56, jI_57, jI_59, jI_60, jI_97, jI_99, jI_122, jI_160, jI_240, jI_255, jI_768, jI_1000, ↓jN_1, ↓jN_2, ↓jN_3, ↓jN_4, ↓jN_8, ↓jN_10, ↓jN_11, ↓jN_12, ↓jN_14, ↓jN_20, jI_addN, jI_le, jI_lt, jI_eq, jI_cl, jI_in, jI_add, jI_sub, jI_eqN, gI_eqI, gI_eqN, gI_leI, gI_ltI, jI_leN, jI_ltN, gI_sub, pif_tt, pif_ff, pg_tt, isB, or_true, true_or, pif_T, pif_F, pg_T, pb_Q, upd_e, upd_n, fX1_takeLine_201, hst, d]
      refine Ok.s ?_
      simp (disch := omega) only [jI_0, jI_1, jI_2, jI_3, jI_4, jI_5, jI_6, jI_7, jI_8, jI_9, jI_10, jI_11, jI_12, jI_13, jI_14, jI_15, jI_16, jI_20, jI_24, jI_26, jI_30, jI_31, jI_32, jI_40, jI_48, jI_56, jI_57, jI_59, jI_60, jI_97, jI_99, jI_122, jI_160, jI_240, jI_255, jI_768, jI_1000, ↓jN_1, ↓jN_2, ↓jN_3, ↓jN_4, ↓jN_8, ↓jN_10, ↓jN_11, ↓jN_12, ↓jN_14, ↓jN_20, jI_addN, jI_le, jI_lt, jI_eq, jI_cl, jI_in, jI_add, jI_sub, jI_eqN, gI_eqI, gI_eqN, gI_leI, gI_ltI, jI_leN, jI_ltN, gI_sub, pif_tt, pif_ff, pg_tt, isB, or_true, true_or, pif_T, pif_F, pg_T, pb_Q, upd_e, upd_n, fX9_readLine_194, fX9_readLine_214, failM, nextWe]
      exact Ok.s (Or.inl ⟨2, kS t tp (e + 1), by omega, by omega, hsl, rfl, rfl, rfl, rfl, rfl⟩)
end
