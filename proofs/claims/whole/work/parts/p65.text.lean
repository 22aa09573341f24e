/-! TEXT: the call. -/
theorem gFS_ok {n : Nat} (h2 : n ≤ 6) : ∀ r g, g < r * zR n → gF n r g < n ∧ gSd n r g < n ∧ gF n r g ≠ gSd n r g := by
  have hr := (rr_all n (by omega)).2.2.2.2.2
  intro r
  induction r with
  | zero => intro g hg; rw [Nat.zero_mul] at hg; omega
  | succ r ih =>
    intro g hg
    show apF n (r * zR n) (gF n r) g < n ∧ apS n (r * zR n) (gSd n r) g < n ∧ apF n (r * zR n) (gF n r) g ≠ apS n (r * zR n) (gSd n r) g
    unfold apF apS
    by_cases h : g < r * zR n
    · rw [if_pos h, if_pos h]; exact ih g h
    · rw [if_neg h, if_neg h]
      rw [Nat.succ_mul] at hg
      exact hr (g - r * zR n) (by omega)
section
variable {c_reader_tape_bytes : Nat → Int32} {v_textFault : Int32} {v_games_size : Int32} {c_games_ending : Nat → Int32} {c_games_first : Nat → Int32} {c_games_second : Nat → Int32} {v_reader_at : Int32} {v_reader_flaw : Int32} {v_reader_flawPlace : Int32} {v_reader_lines : Int32} {v_reader_draft_kind : Int32} {v_reader_draft_rounds : Int32} {v_reader_draft_sides : Int32} {c_reader_draft_balls : Nat → Int32} {c_reader_draft_choiceWorth : Nat → Int32} {c_reader_draft_placeWorth : Nat → Int32} {c_reader_draft_strength : Nat → Int32} {c_reader_draft_wheel : Nat → Int32} {v_reader_tape_length : Int32} {v_reader_tape_next : Int32} {c_reader_tape_meaning : Nat → Int32} {c_reader_tape_start : Nat → Int32} {c_reader_tape_token : Nat → Int32} {c_reader_told : Nat → Int32} {v_rules_kind : Int32} {v_rules_rounds : Int32} {v_rules_sides : Int32} {c_rules_balls : Nat → Int32} {c_rules_choiceWorth : Nat → Int32} {c_rules_placeWorth : Nat → Int32} {c_rules_strength : Nat → Int32} {c_rules_wheel : Nat → Int32}
variable {N n r : Nat}
theorem textR (hN : 100 ≤ N) (hn : n ≤ 6) (hr : r ≤ 30) (hz : r * zR n ≤ 30) : ∃ q : (Nat → Int32) × (Nat → Int32) × (Nat → Int32), (fX8_text_69 N c_reader_tape_bytes N (jI 0) v_textFault (jI 0) c_games_ending c_games_first c_games_second v_reader_at v_reader_flaw v_reader_flawPlace v_reader_lines v_reader_draft_kind v_reader_draft_rounds v_reader_draft_sides c_reader_draft_balls c_reader_draft_choiceWorth c_reader_draft_placeWorth c_reader_draft_strength c_reader_draft_wheel v_reader_tape_length v_reader_tape_next c_reader_tape_meaning c_reader_tape_start c_reader_tape_token c_reader_told v_rules_kind (jI r) (jI n) c_rules_balls c_rules_choiceWorth c_rules_placeWorth c_rules_strength c_rules_wheel) = some (v_reader_lines, v_textFault, jI (r * zR n), q.1, q.2.1, q.2.2, v_reader_at, v_reader_flaw, v_reader_flawPlace, v_reader_lines, v_reader_draft_kind, v_reader_draft_rounds, v_reader_draft_sides, c_reader_draft_balls, c_reader_draft_choiceWorth, c_reader_draft_placeWorth, c_reader_draft_strength, c_reader_draft_wheel, v_reader_tape_length, v_reader_tape_next, c_reader_tape_meaning, c_reader_tape_start, c_reader_tape_token, c_reader_told, v_rules_kind, jI r, jI n, c_rules_balls, c_rules_choiceWorth, c_rules_placeWorth, c_rules_strength, c_rules_wheel) ∧ ∀ g, g < r * zR n → q.2.1 g = jI (gF n r g) ∧ q.2.2 g = jI (gSd n r g) ∧ q.1 g = jI 2 := by
  have key := for_up (fun fu k (q : (Nat → Int32) × (Nat → Int32) × (Nat → Int32)) => (fX8_text_69 N c_reader_tape_bytes fu (jI k) v_textFault (jI (k * zR n)) q.1 q.2.1 q.2.2 v_reader_at v_reader_flaw v_reader_flawPlace v_reader_lines v_reader_draft_kind v_reader_draft_rounds v_reader_draft_sides c_reader_draft_balls c_reader_draft_choiceWorth c_reader_draft_placeWorth c_reader_draft_strength c_reader_draft_wheel v_reader_tape_length v_reader_tape_next c_reader_tape_meaning c_reader_tape_start c_reader_tape_token c_reader_told v_rules_kind (jI r) (jI n) c_rules_balls c_rules_choiceWorth c_rules_placeWorth c_rules_strength c_rules_wheel)) (fun (q : (Nat → Int32) × (Nat → Int32) × (Nat → Int32)) => some (v_reader_lines, v_textFault, jI (r * zR n), q.1, q.2.1, q.2.2, v_reader_at, v_reader_flaw, v_reader_flawPlace, v_reader_lines, v_reader_draft_kind, v_reader_draft_rounds, v_reader_draft_sides, c_reader_draft_balls, c_reader_draft_choiceWorth, c_reader_draft_placeWorth, c_reader_draft_strength, c_reader_draft_wheel, v_reader_tape_length, v_reader_tape_next, c_reader_tape_meaning, c_reader_tape_start, c_reader_tape_token, c_reader_told, v_rules_kind, jI r, jI n, c_rules_balls, c_rules_choiceWorth, c_rules_placeWorth, c_rules_strength, c_rules_wheel)) r (fun k q => ∀ g, g < k * zR n → q.2.1 g = jI (gF n k g) ∧ q.2.2 g = jI (gSd n k g) ∧ q.1 g = jI 2) ?_ ?_ N 0 (c_games_ending, c_games_first, c_games_second) (by omega) (by omega) (fun g hg => by rw [Nat.zero_mul] at hg; omega)
  · obtain ⟨q, e, h⟩ := key
    rw [Nat.zero_mul] at e
    exact ⟨q, e, h⟩
  · intro fu i ⟨ce, cf, cs⟩ hi hp
    simp only at hp
    have hle : i * zR n + zR n ≤ 30 := by
      have := Nat.mul_le_mul_right (zR n) (show i + 1 ≤ r by omega)
      rw [Nat.succ_mul] at this; omega
    obtain ⟨⟨a1, a2, a3, a4⟩, e1, b1, b2, b3, b4⟩ := addRoundX (N := N) (n := n) (z := i * zR n) (f := gF n i) (s := gSd n i) (c_ending := ce) (c_first := cf) (c_second := cs) hN hn hle (fun g hg => ⟨(hp g hg).1, (hp g hg).2.1⟩)
    simp only at b1 b2 b3 b4
    subst b1
    refine ⟨(a2, a3, a4), ?_, ?_⟩
    · show (fX8_text_69 N c_reader_tape_bytes (fu + 1) (jI i) v_textFault (jI (i * zR n)) ce cf cs v_reader_at v_reader_flaw v_reader_flawPlace v_reader_lines v_reader_draft_kind v_reader_draft_rounds v_reader_draft_sides c_reader_draft_balls c_reader_draft_choiceWorth c_reader_draft_placeWorth c_reader_draft_strength c_reader_draft_wheel v_reader_tape_length v_reader_tape_next c_reader_tape_meaning c_reader_tape_start c_reader_tape_token c_reader_told v_rules_kind (jI r) (jI n) c_rules_balls c_rules_choiceWorth c_rules_placeWorth c_rules_strength c_rules_wheel) = (fX8_text_69 N c_reader_tape_bytes fu (jI (i + 1)) v_textFault (jI ((i + 1) * zR n)) a2 a3 a4 v_reader_at v_reader_flaw v_reader_flawPlace v_reader_lines v_reader_draft_kind v_reader_draft_rounds v_reader_draft_sides c_reader_draft_balls c_reader_draft_choiceWorth c_reader_draft_placeWorth c_reader_draft_strength c_reader_draft_wheel v_reader_tape_length v_reader_tape_next c_reader_tape_meaning c_reader_tape_start c_reader_tape_token c_reader_told v_rules_kind (jI r) (jI n) c_rules_balls c_rules_choiceWorth c_rules_placeWorth c_rules_strength c_rules_wheel)
      rw [Nat.succ_mul i (zR n), fX8_text_69]
      simp (disch := omega) only [jI_0, jI_1, jI_2, jI_3, jI_4, jI_5, jI_6, jI_7, jI_8, jI_9, jI_10, jI_11, jI_12, jI_13, jI_14, jI_15, jI_16, jI_20, jI_24, jI_26, jI_30, jI_31, jI_32, jI_40, jI_48, jI_56, jI_57, jI_59, jI_60, jI_97, jI_99, jI_122, jI_160, jI_240, jI_255, jI_768, jI_1000, ↓jN_1, ↓jN_2, ↓jN_3, ↓jN_4, ↓jN_8, ↓jN_10, ↓jN_11, ↓jN_12, ↓jN_14, ↓jN_20, jI_addN, jI_le, jI_lt, jI_eq, jI_cl, jI_in, jI_add, jI_sub, jI_eqN, gI_eqI, gI_eqN, gI_leI, gI_ltI, jI_leN, jI_ltN, gI_sub, pif_tt, pif_ff, pg_tt, isB, or_true, true_or, pif_T, pif_F, pg_T, pb_Q, upd_e, upd_n, e1]
    · intro g hg
      simp only
      rw [Nat.succ_mul] at hg
      refine ⟨(b2 g hg).1, (b2 g hg).2, ?_⟩
      by_cases h : g < i * zR n
      · rw [b3 g h]; exact (hp g h).2.2
      · exact b4 g (by omega) hg
  · intro fu ⟨ce, cf, cs⟩ hp
    show (fX8_text_69 N c_reader_tape_bytes (fu + 1) (jI r) v_textFault (jI (r * zR n)) ce cf cs v_reader_at v_reader_flaw v_reader_flawPlace v_reader_lines v_reader_draft_kind v_reader_draft_rounds v_reader_draft_sides c_reader_draft_balls c_reader_draft_choiceWorth c_reader_draft_placeWorth c_reader_draft_strength c_reader_draft_wheel v_reader_tape_length v_reader_tape_next c_reader_tape_meaning c_reader_tape_start c_reader_tape_token c_reader_told v_rules_kind (jI r) (jI n) c_rules_balls c_rules_choiceWorth c_rules_placeWorth c_rules_strength c_rules_wheel) = _
    rw [fX8_text_69, pif_T (show jI r ≤ jI r by rw [jI_le (by omega) (by omega)]; omega)]
end
section
variable {v_textFault : Int32} {v_games_size : Int32} {c_games_ending : Nat → Int32} {c_games_first : Nat → Int32} {c_games_second : Nat → Int32} {v_reader_at : Int32} {v_reader_flaw : Int32} {v_reader_flawPlace : Int32} {v_reader_lines : Int32} {v_reader_draft_kind : Int32} {v_reader_draft_rounds : Int32} {v_reader_draft_sides : Int32} {c_reader_draft_balls : Nat → Int32} {c_reader_draft_choiceWorth : Nat → Int32} {c_reader_draft_placeWorth : Nat → Int32} {c_reader_draft_strength : Nat → Int32} {c_reader_draft_wheel : Nat → Int32} {v_reader_tape_length : Int32} {v_reader_tape_next : Int32} {c_reader_tape_bytes : Nat → Int32} {c_reader_tape_meaning : Nat → Int32} {c_reader_tape_start : Nat → Int32} {c_reader_tape_token : Nat → Int32} {c_reader_told : Nat → Int32} {v_rules_kind : Int32} {v_rules_rounds : Int32} {v_rules_sides : Int32} {c_rules_balls : Nat → Int32} {c_rules_choiceWorth : Nat → Int32} {c_rules_placeWorth : Nat → Int32} {c_rules_strength : Nat → Int32} {c_rules_wheel : Nat → Int32} {v_fault : Int32} {v_hasRule : Int32} {v_hasSides : Int32} {v_isBehind : Int32} {v_place : Int32} {v_readGames : Int32} {v_spot : Int32} {v_taped : Int32} {v_token : Int32} {v_toldOnes : Int32} {v_value : Int32} {v_wrong : Int32} {v_wrongAt : Int32} {c_cuts : Nat → Int32} {c_firsts : Nat → Int32} {c_goes : Nat → Int32} {c_holds : Nat → Int32} {c_kinds : Nat → Int32} {c_letters : Nat → Int32} {c_many : Nat → Int32} {c_readFirst : Nat → Int32} {c_readSecond : Nat → Int32} {c_reads : Nat → Int32} {c_seconds : Nat → Int32} {c_tape : Nat → Int32}
variable {N t : Nat} {tp : Nat → Nat}
theorem zR_pos : ∀ n, 2 ≤ n → n ≤ 6 → 1 ≤ zR n := by
  intro n h1 h2
  have : n = 2 ∨ n = 3 ∨ n = 4 ∨ n = 5 ∨ n = 6 := by omega
  rcases this with rfl | rfl | rfl | rfl | rfl <;> decide
theorem c_text (hN : 1000 ≤ N) (hT : Tp t tp v_reader_tape_length c_reader_tape_bytes v_taped c_tape) (hcu : Cu c_cuts c_letters) (hkd : ∀ n, n < 11 → c_kinds n = kdN n) : Ok ((fX8_text N v_textFault v_games_size c_games_ending c_games_first c_games_second v_reader_at v_reader_flaw v_reader_flawPlace v_reader_lines v_reader_draft_kind v_reader_draft_rounds v_reader_draft_sides c_reader_draft_balls c_reader_draft_choiceWorth c_reader_draft_placeWorth c_reader_draft_strength c_reader_draft_wheel v_reader_tape_length v_reader_tape_next c_reader_tape_bytes c_reader_tape_meaning c_reader_tape_start c_reader_tape_token c_reader_told v_rules_kind v_rules_rounds v_rules_sides c_rules_balls c_rules_choiceWorth c_rules_placeWorth c_rules_strength c_rules_wheel)) (fun a => Ok ((fX9_text N v_fault v_hasRule v_hasSides v_isBehind v_place v_readGames v_spot v_taped v_token v_toldOnes v_value v_wrong v_wrongAt c_cuts c_firsts c_goes c_holds c_kinds c_letters c_many c_readFirst c_readSecond c_reads c_seconds c_tape)) (fun b => a.1 = b.1 ∧ a.2.1 = b.2.1 ∧ a.2.2.2.2.2.2.2.2.2.2.2.2.2.2.2.2.2.2.1 = jI 0 ∧ b.2.2.2.2.2.2.2.2.1 = jI 0 ∧ (((a.2.2.2.2.2.2.2.2.2.2.2.2.2.2.2.2.2.2.2.2.2.2.2.2.1 = v_rules_kind ∧ a.2.2.2.2.2.2.2.2.2.2.2.2.2.2.2.2.2.2.2.2.2.2.2.2.2.2.1 = v_rules_sides ∧ a.2.2.2.2.2.2.2.2.2.2.2.2.2.2.2.2.2.2.2.2.2.2.2.2.2.2.2.1 = c_rules_balls ∧ a.2.2.2.2.2.2.2.2.2.2.2.2.2.2.2.2.2.2.2.2.2.2.2.2.2.2.2.2.1 = c_rules_choiceWorth ∧ a.2.2.2.2.2.2.2.2.2.2.2.2.2.2.2.2.2.2.2.2.2.2.2.2.2.2.2.2.2.1 = c_rules_placeWorth ∧ a.2.2.2.2.2.2.2.2.2.2.2.2.2.2.2.2.2.2.2.2.2.2.2.2.2.2.2.2.2.2.1 = c_rules_strength ∧ a.2.2.2.2.2.2.2.2.2.2.2.2.2.2.2.2.2.2.2.2.2.2.2.2.2.2.2.2.2.2.2 = c_rules_wheel ∧ a.2.2.1 = v_games_size ∧ a.2.2.2.2.1 = c_games_first ∧ a.2.2.2.2.2.1 = c_games_second ∧ a.2.2.2.1 = c_games_ending) ∧ b.2.2.2.2.2.2.2.2.2.2.2.2.2.2.2.2.1 = c_holds ∧ b.2.2.2.2.2.2.2.2.2.2.2.2.2.2.2.2.2.1 = c_many ∧ b.2.2.2.2.2.2.2.2.2.2.2.2.2.2.1 = c_firsts ∧ b.2.2.2.2.2.2.2.2.2.2.2.2.2.2.2.2.2.2.2.2.2 = c_seconds ∧ b.2.2.2.2.2.2.2.2.2.2.2.2.2.2.2.1 = c_goes) ∨ ∃ H z f s e, Rk H ∧ Rc H a.2.2.2.2.2.2.2.2.2.2.2.2.2.2.2.2.2.2.2.2.2.2.2.2.1 a.2.2.2.2.2.2.2.2.2.2.2.2.2.2.2.2.2.2.2.2.2.2.2.2.2.2.1 a.2.2.2.2.2.2.2.2.2.2.2.2.2.2.2.2.2.2.2.2.2.2.2.2.2.2.2.1 a.2.2.2.2.2.2.2.2.2.2.2.2.2.2.2.2.2.2.2.2.2.2.2.2.2.2.2.2.1 a.2.2.2.2.2.2.2.2.2.2.2.2.2.2.2.2.2.2.2.2.2.2.2.2.2.2.2.2.2.1 a.2.2.2.2.2.2.2.2.2.2.2.2.2.2.2.2.2.2.2.2.2.2.2.2.2.2.2.2.2.2.1 a.2.2.2.2.2.2.2.2.2.2.2.2.2.2.2.2.2.2.2.2.2.2.2.2.2.2.2.2.2.2.2 ∧ Rm H b.2.2.2.2.2.2.2.2.2.2.2.2.2.2.2.2.1 ∧ Gk (H 0) z f s e ∧ Gc z f s e a.2.2.1 a.2.2.2.2.1 a.2.2.2.2.2.1 a.2.2.2.1 ∧ Gm 0 z f s e b.2.2.2.2.2.2.2.2.2.2.2.2.2.2.2.2.2.1 b.2.2.2.2.2.2.2.2.2.2.2.2.2.2.1 b.2.2.2.2.2.2.2.2.2.2.2.2.2.2.2.2.2.2.2.2.2 b.2.2.2.2.2.2.2.2.2.2.2.2.2.2.2.1))) := by
  obtain ⟨ht, rfl, rfl, h256, hbt⟩ := hT
  obtain ⟨⟨a1, a2, a3, a4, a5, a6, a7, a8, a9, a10, a11, a12, a13, a14, a15, a16, a17, a18⟩, ea, ⟨b1, b2, b3, b4, b5, b6, b7, b8, b9, b10, b11, b12, b13, b14, b15, b16, b17, b18, b19, b20, b21, b22⟩, eb, hQ⟩ := textX (N := N) (t := t) (tp := tp) (v_at := v_reader_at) (v_flaw := v_reader_flaw) (v_flawPlace := v_reader_flawPlace) (v_lines := v_reader_lines) (v_draft_kind := v_reader_draft_kind) (v_draft_rounds := v_reader_draft_rounds) (v_draft_sides := v_reader_draft_sides) (c_draft_balls := c_reader_draft_balls) (c_draft_choiceWorth := c_reader_draft_choiceWorth) (c_draft_placeWorth := c_reader_draft_placeWorth) (c_draft_strength := c_reader_draft_strength) (c_draft_wheel := c_reader_draft_wheel) (v_tape_next := v_reader_tape_next) (c_tape_bytes := c_reader_tape_bytes) (c_tape_meaning := c_reader_tape_meaning) (c_tape_start := c_reader_tape_start) (c_tape_token := c_reader_tape_token) (c_told := c_reader_told) (v_fault := v_fault) (v_hasRule := v_hasRule) (v_hasSides := v_hasSides) (v_isBehind := v_isBehind) (v_place := v_place) (v_readGames := v_readGames) (v_spot := v_spot) (v_token := v_token) (v_toldOnes := v_toldOnes) (v_value := v_value) (v_wrong := v_wrong) (v_wrongAt := v_wrongAt) (c_cuts := c_cuts) (c_firsts := c_firsts) (c_goes := c_goes) (c_holds := c_holds) (c_kinds := c_kinds) (c_letters := c_letters) (c_many := c_many) (c_readFirst := c_readFirst) (c_readSecond := c_readSecond) (c_reads := c_reads) (c_seconds := c_seconds) (c_tape := c_tape) hN ht h256 (fun k hk => (hbt k hk).2) hcu hkd (fun k hk => (hbt k hk).1)
  rcases hQ with ⟨c, p, c0, c7, hp, x1, x2, x3, y1, y2, y3, y4, y5, y6, y7, y8⟩ | ⟨H, r, l, hR, hz, x1, x2, x3, x4, hC, hG⟩
  · simp only at x1 x2 x3 y1 y2 y3 y4 y5 y6 y7 y8
    subst x1 x2 x3 y1 y2 y3 y4 y5 y6 y7 y8
    simp (disch := omega) only [jI_0, jI_1, jI_2, jI_3, jI_4, jI_5, jI_6, jI_7, jI_8, jI_9, jI_10, jI_11, jI_12, jI_13, jI_14, jI_15, jI_16, jI_20, jI_24, jI_26, jI_30, jI_31, jI_32, jI_40, jI_48, jI_56, jI_57, jI_59, jI_60, jI_97, jI_99, jI_122, jI_160, jI_240, jI_255, jI_768, jI_1000, ↓jN_1, ↓jN_2, ↓jN_3, ↓jN_4, ↓jN_8, ↓jN_10, ↓jN_11, ↓jN_12, ↓jN_14, ↓jN_20, jI_addN, jI_le, jI_lt, jI_eq, jI_cl, jI_in, jI_add, jI_sub, jI_eqN, gI_eqI, gI_eqN, gI_leI, gI_ltI, jI_leN, jI_ltN, gI_sub, pif_tt, pif_ff, pg_tt, isB, or_true, true_or, pif_T, pif_F, pg_T, pb_Q, upd_e, upd_n, fX8_text, ea]
    refine Ok.s ?_
    rw [eb]
    exact Ok.s ⟨(gI_sub 10 p).symm, rfl, rfl, rfl, Or.inl ⟨⟨rfl, rfl, rfl, rfl, rfl, rfl, rfl, rfl, rfl, rfl, rfl⟩, rfl, rfl, rfl, rfl, rfl⟩⟩
  · simp only at x1 x2 x3 x4 hC hG
    subst x1 x2 x3 x4
    have hn2 := hR.1
    have hn6 := hR.2.1
    have hzp := zR_pos (H 0) hn2 hn6
    have hr30 : r ≤ 30 := by
      have := Nat.mul_le_mul_left r hzp
      omega
    obtain ⟨⟨k1, k2, k3, k4, k5, k6, k7, k8⟩, ec, hk2, hkC⟩ := copyRX (N := N) (H := H) (v_p1_kind := a6) (v_p1_rounds := jI r) (v_p1_sides := a8) (c_p1_balls := a9) (c_p1_choiceWorth := a10) (c_p1_placeWorth := a11) (c_p1_strength := a12) (c_p1_wheel := a13) (c_balls := c_rules_balls) (c_choiceWorth := c_rules_choiceWorth) (c_placeWorth := c_rules_placeWorth) (c_strength := c_rules_strength) (c_wheel := c_rules_wheel) (v_kind := v_rules_kind) (v_rounds := v_rules_rounds) (v_sides := v_rules_sides) (by omega) hC
    simp only at hk2 hkC
    subst hk2
    have hk3 : k3 = jI (H 0) := hkC.2.1
    subst hk3
    obtain ⟨⟨g1, g2, g3⟩, e69, hgg⟩ := textR (N := N) (n := H 0) (r := r) (v_reader_lines := jI l) (v_textFault := jI 0) (v_reader_at := a2) (v_reader_flaw := jI 0) (v_reader_flawPlace := a4) (v_reader_draft_kind := a6) (v_reader_draft_rounds := jI r) (v_reader_draft_sides := a8) (c_reader_draft_balls := a9) (c_reader_draft_choiceWorth := a10) (c_reader_draft_placeWorth := a11) (c_reader_draft_strength := a12) (c_reader_draft_wheel := a13) (v_reader_tape_length := jI 0) (v_reader_tape_next := a14) (c_reader_tape_bytes := c_reader_tape_bytes) (c_reader_tape_meaning := a15) (c_reader_tape_start := a16) (c_reader_tape_token := a17) (c_reader_told := a18) (v_rules_kind := k1) (c_rules_balls := k4) (c_rules_choiceWorth := k5) (c_rules_placeWorth := k6) (c_rules_strength := k7) (c_rules_wheel := k8) (c_games_ending := c_games_ending) (c_games_first := c_games_first) (c_games_second := c_games_second) (by omega) hn6 hr30 hz
    simp only at hgg
    have h10 : ¬ jI 1 = jI 0 := by decide
    obtain ⟨G1, G2, G3, G4, G5⟩ := hG
    simp only at G1 G2 G3 G4 G5
    subst G1 G2 G3
    simp (disch := omega) only [jI_0, jI_1, jI_2, jI_3, jI_4, jI_5, jI_6, jI_7, jI_8, jI_9, jI_10, jI_11, jI_12, jI_13, jI_14, jI_15, jI_16, jI_20, jI_24, jI_26, jI_30, jI_31, jI_32, jI_40, jI_48, jI_56, jI_57, jI_59, jI_60, jI_97, jI_99, jI_122, jI_160, jI_240, jI_255, jI_768, jI_1000, ↓jN_1, ↓jN_2, ↓jN_3, ↓jN_4, ↓jN_8, ↓jN_10, ↓jN_11, ↓jN_12, ↓jN_14, ↓jN_20, jI_addN, jI_le, jI_lt, jI_eq, jI_cl, jI_in, jI_add, jI_sub, jI_eqN, gI_eqI, gI_eqN, gI_leI, gI_ltI, jI_leN, jI_ltN, gI_sub, pif_tt, pif_ff, pg_tt, isB, or_true, true_or, pif_T, pif_F, pg_T, pb_Q, upd_e, upd_n, fX8_text, ea, ec, e69]
    refine Ok.s ?_
    rw [eb]
    refine Ok.s ⟨rfl, rfl, rfl, rfl, Or.inr ⟨H, r * zR (H 0), gF (H 0) r, gSd (H 0) r, fun _ => 2, hR, hkC, G4, ⟨hn6, hz, fun g hg => ?_⟩, ⟨rfl, fun g hg => hgg g hg⟩, G5⟩⟩
    obtain ⟨q1, q2, q3⟩ := gFS_ok hn6 r g hg
    exact ⟨q1, q2, q3, Nat.le_refl 2⟩
end
