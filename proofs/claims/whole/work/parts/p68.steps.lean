/-! EACH CALL keeps it. -/
section
variable {N : Nat} {u w : UX}
theorem i_feed (hN : 1000 ≤ N) (x1 : Int64) (hI : Inv u w) : StB (sX8_feed N u x1) (sX9_feed N w x1) := by
  have hI0 := hI
  obtain ⟨⟨H, z, f, s, e, hR, hc, hh, hk, hG, hM⟩, ⟨t, tp, hT⟩, ⟨hcu, hkd⟩, hf0, hf1, h0, h1, h2, h3⟩ := hI
  unfold sX8_feed sX9_feed
  refine st_b (c_feed x1 (by omega) hT) (fun q p hq => ?_)
  obtain ⟨hq, t2, tp2, hT2⟩ := hq
  refine ⟨hq, ?_⟩
  simp (disch := decide) only [Inv, va_up_self, va_up_ne]
  exact ⟨⟨H, z, f, s, e, hR, hc, hh, hk, hG, hM⟩, ⟨t2, tp2, hT2⟩, ⟨hcu, hkd⟩, hf0, hf1, h0, h1, h2, h3⟩
theorem i_end (hN : 1000 ≤ N) (x1 : Int32) (hI : Inv u w) : StB (sX8_end N u x1) (sX9_end N w x1) := by
  have hI0 := hI
  obtain ⟨⟨H, z, f, s, e, hR, hc, hh, hk, hG, hM⟩, ⟨t, tp, hT⟩, ⟨hcu, hkd⟩, hf0, hf1, h0, h1, h2, h3⟩ := hI
  obtain ⟨ht, e1, e2, h256, hbt⟩ := hT
  unfold sX8_end sX9_end
  rw [e1, e2]
  refine st_b (c_end x1 ht) (fun q p hq => ?_)
  obtain ⟨hq, t2, ht2, q2, p2⟩ := hq
  refine ⟨hq, ?_⟩
  simp (disch := decide) only [Inv, va_up_self, va_up_ne]
  exact ⟨⟨H, z, f, s, e, hR, hc, hh, hk, hG, hM⟩, ⟨t2, tp, by omega, q2, p2, h256, fun k hk => hbt k (by omega)⟩, ⟨hcu, hkd⟩, hf0, hf1, h0, h1, h2, h3⟩
theorem i_text (hN : 1000 ≤ N)  (hI : Inv u w) : StB (sX8_text N u) (sX9_text N w) := by
  have hI0 := hI
  obtain ⟨⟨H, z, f, s, e, hR, hc, hh, hk, hG, hM⟩, ⟨t, tp, hT⟩, ⟨hcu, hkd⟩, hf0, hf1, h0, h1, h2, h3⟩ := hI
  obtain ⟨ht, e1, e2, h256, hbt⟩ := id hT
  unfold sX8_text sX9_text
  refine st_b (c_text hN hT hcu hkd) (fun q p hq => ?_)
  obtain ⟨hq, q1, q2, p2, hq3⟩ := hq
  refine ⟨hq, ?_⟩
  simp (disch := decide) only [Inv, va_up_self, va_up_ne]
  have hT2 : ∀ v v' : Int32, v = jI 0 → v' = jI 0 → ∃ t tp, Tp t tp v (u.2.1 18) v' (w.2.1 0) := fun v v' g1 g2 => ⟨0, tp, by omega, g1, g2, h256, fun k hk => by omega⟩
  rcases hq3 with ⟨⟨a1, a2, a3, a4, a5, a6, a7, a8, a9, a10, a11⟩, b1, b2, b3, b4, b5⟩ | hnew
  · rw [a1, a2, a3, a4, a5, a6, a7, a8, a9, a10, a11, b1, b2, b3, b4, b5]
    exact ⟨⟨H, z, f, s, e, hR, hc, hh, hk, hG, hM⟩, hT2 _ _ q2 p2, ⟨hcu, hkd⟩, q1, hf1, h0, h1, h2, h3⟩
  · exact ⟨hnew, hT2 _ _ q2 p2, ⟨hcu, hkd⟩, q1, hf1, h0, h1, h2, h3⟩
theorem i_fault (hN : 1000 ≤ N)  (hI : Inv u w) : StB (sX8_fault N u) (sX9_fault N w) := by
  exact ⟨_, rfl, _, rfl, hI.2.2.2.1, hI⟩
theorem i_torn (hN : 1000 ≤ N)  (hI : Inv u w) : StB (sX8_torn N u) (sX9_torn N w) := by
  exact ⟨_, rfl, _, rfl, hI.2.2.2.2.1, hI⟩
theorem i_rule (hN : 1000 ≤ N) (x1 : Int32) (hI : Inv u w) : StB (sX8_rule N u x1) (sX9_rule N w x1) := by
  have hI0 := hI
  obtain ⟨⟨H, z, f, s, e, hR, hc, hh, hk, hG, hM⟩, ⟨t, tp, hT⟩, ⟨hcu, hkd⟩, hf0, hf1, h0, h1, h2, h3⟩ := hI
  unfold sX8_rule sX9_rule
  exact st_b (c_rule x1 hR hc hh) (fun q p hq => ⟨hq, hI0⟩)
theorem i_game (hN : 1000 ≤ N) (x1 : Int32) (x2 : Int32) (hI : Inv u w) : StB (sX8_game N u x1 x2) (sX9_game N w x1 x2) := by
  have hI0 := hI
  obtain ⟨⟨H, z, f, s, e, hR, hc, hh, hk, hG, hM⟩, ⟨t, tp, hT⟩, ⟨hcu, hkd⟩, hf0, hf1, h0, h1, h2, h3⟩ := hI
  unfold sX8_game sX9_game
  refine st_b (c_game x1 x2 hR hc.2.1 hh hk hG hM) (fun q p hq => ?_)
  obtain ⟨hq, z2, f2, s2, e2, gk, gG, gM⟩ := hq
  refine ⟨hq, ?_⟩
  simp (disch := decide) only [Inv, va_up_self, va_up_ne]
  exact ⟨⟨H, z2, f2, s2, e2, hR, hc, hh, gk, gG, gM⟩, ⟨t, tp, hT⟩, ⟨hcu, hkd⟩, hf0, hf1, h0, h1, h2, h3⟩
theorem i_of (hN : 1000 ≤ N) (x1 : Int32) (x2 : Int32) (hI : Inv u w) : StB (sX8_of N u x1 x2) (sX9_of N w x1 x2) := by
  have hI0 := hI
  obtain ⟨⟨H, z, f, s, e, hR, hc, hh, hk, hG, hM⟩, ⟨t, tp, hT⟩, ⟨hcu, hkd⟩, hf0, hf1, h0, h1, h2, h3⟩ := hI
  unfold sX8_of sX9_of
  exact st_b (c_of x1 x2 hR (fun j hj => (hc.2.2 j hj).1) hh hk hG hM) (fun q p hq => ⟨hq, hI0⟩)
theorem i_ends (hN : 1000 ≤ N) (x1 : Int32) (x2 : Int32) (hI : Inv u w) : StB (sX8_ends N u x1 x2) (sX9_ends N w x1 x2) := by
  have hI0 := hI
  obtain ⟨⟨H, z, f, s, e, hR, hc, hh, hk, hG, hM⟩, ⟨t, tp, hT⟩, ⟨hcu, hkd⟩, hf0, hf1, h0, h1, h2, h3⟩ := hI
  unfold sX8_ends sX9_ends
  refine st_b (c_ends x1 x2 hk hG hM) (fun q p hq => ?_)
  obtain ⟨hq, e2, gk, gG, gM⟩ := hq
  refine ⟨hq, ?_⟩
  simp (disch := decide) only [Inv, va_up_self, va_up_ne]
  exact ⟨⟨H, z, f, s, e2, hR, hc, hh, gk, gG, gM⟩, ⟨t, tp, hT⟩, ⟨hcu, hkd⟩, hf0, hf1, h0, h1, h2, h3⟩
theorem i_table (hN : 1000 ≤ N) (x1 : Int32) (x2 : Int32) (hI : Inv u w) : StB (sX8_table N u x1 x2) (sX9_table N w x1 x2) := by
  have hI0 := hI
  obtain ⟨⟨H, z, f, s, e, hR, hc, hh, hk, hG, hM⟩, ⟨t, tp, hT⟩, ⟨hcu, hkd⟩, hf0, hf1, h0, h1, h2, h3⟩ := hI
  unfold sX8_table sX9_table
  refine st_b (c_table x1 x2 (by omega) hR hc.2.1 hh hk hG hM) (fun q p hq => ?_)
  refine ⟨hq, ?_⟩
  simp (disch := decide) only [Inv, va_up_self, va_up_ne]
  exact ⟨⟨H, z, f, s, e, hR, hc, hh, hk, hG, hM⟩, ⟨t, tp, hT⟩, ⟨hcu, hkd⟩, hf0, hf1, h0, h1, h2, h3⟩
theorem i_out (hN : 1000 ≤ N) (x1 : Int32) (hI : Inv u w) : StB (sX8_out N u x1) (sX9_out N w x1) := by
  have hI0 := hI
  obtain ⟨⟨H, z, f, s, e, hR, hc, hh, hk, hG, hM⟩, ⟨t, tp, hT⟩, ⟨hcu, hkd⟩, hf0, hf1, h0, h1, h2, h3⟩ := hI
  unfold sX8_out sX9_out
  refine st_b (c_out x1 (by omega) hR hc.2.1 hh hk hG hM) (fun q p hq => ?_)
  refine ⟨hq, ?_⟩
  simp (disch := decide) only [Inv, va_up_self, va_up_ne]
  exact ⟨⟨H, z, f, s, e, hR, hc, hh, hk, hG, hM⟩, ⟨t, tp, hT⟩, ⟨hcu, hkd⟩, hf0, hf1, h0, h1, h2, h3⟩
theorem i_chooses (hN : 1000 ≤ N) (x1 : Int32) (x2 : Int32) (hI : Inv u w) : StB (sX8_chooses N u x1 x2) (sX9_chooses N w x1 x2) := by
  have hI0 := hI
  obtain ⟨⟨H, z, f, s, e, hR, hc, hh, hk, hG, hM⟩, ⟨t, tp, hT⟩, ⟨hcu, hkd⟩, hf0, hf1, h0, h1, h2, h3⟩ := hI
  unfold sX8_chooses sX9_chooses
  refine st_b (c_chooses x1 x2 (by omega) hR hc.1 hc.2.1 (fun j hj => (hc.2.2 j hj).2.2.2.1) (fun j hj => (hc.2.2 j hj).2.2.2.2) hh hk hG hM) (fun q p hq => ?_)
  refine ⟨hq, ?_⟩
  simp (disch := decide) only [Inv, va_up_self, va_up_ne]
  exact ⟨⟨H, z, f, s, e, hR, hc, hh, hk, hG, hM⟩, ⟨t, tp, hT⟩, ⟨hcu, hkd⟩, hf0, hf1, h0, h1, h2, h3⟩
theorem i_pay (hN : 1000 ≤ N) (x1 : Int32) (x2 : Int32) (hI : Inv u w) : StB (sX8_pay N u x1 x2) (sX9_pay N w x1 x2) := by
  have hI0 := hI
  obtain ⟨⟨H, z, f, s, e, hR, hc, hh, hk, hG, hM⟩, ⟨t, tp, hT⟩, ⟨hcu, hkd⟩, hf0, hf1, h0, h1, h2, h3⟩ := hI
  unfold sX8_pay sX9_pay
  refine st_b (c_pay x1 x2 hN hR hc hh hk hG hM) (fun q p hq => ?_)
  refine ⟨hq, ?_⟩
  simp (disch := decide) only [Inv, va_up_self, va_up_ne]
  exact ⟨⟨H, z, f, s, e, hR, hc, hh, hk, hG, hM⟩, ⟨t, tp, hT⟩, ⟨hcu, hkd⟩, hf0, hf1, h0, h1, h2, h3⟩
theorem i_may (hN : 1000 ≤ N) (x1 : Int32) (x2 : Int32) (hI : Inv u w) : StB (sX8_may N u x1 x2) (sX9_may N w x1 x2) := by
  have hI0 := hI
  obtain ⟨⟨H, z, f, s, e, hR, hc, hh, hk, hG, hM⟩, ⟨t, tp, hT⟩, ⟨hcu, hkd⟩, hf0, hf1, h0, h1, h2, h3⟩ := hI
  unfold sX8_may sX9_may
  refine st_b (c_may x1 x2 hN hR hc hh hk hG hM) (fun q p hq => ?_)
  refine ⟨hq.1, ?_⟩
  simp (disch := decide) only [Inv, va_up_self, va_up_ne]
  exact ⟨⟨H, z, f, s, e, hR, hc, hh, hk, hG, hq.2⟩, ⟨t, tp, hT⟩, ⟨hcu, hkd⟩, hf0, hf1, h0, h1, h2, h3⟩
theorem i_worth (hN : 1000 ≤ N) (x1 : Int32) (x2 : Int32) (hI : Inv u w) : StB (sX8_worth N u x1 x2) (sX9_worth N w x1 x2) := by
  have hI0 := hI
  obtain ⟨⟨H, z, f, s, e, hR, hc, hh, hk, hG, hM⟩, ⟨t, tp, hT⟩, ⟨hcu, hkd⟩, hf0, hf1, h0, h1, h2, h3⟩ := hI
  unfold sX8_worth sX9_worth
  refine st_b (c_worth x1 x2 hN hR hc hh hk hG hM) (fun q p hq => ?_)
  refine ⟨hq.1, ?_⟩
  simp (disch := decide) only [Inv, va_up_self, va_up_ne]
  exact ⟨⟨H, z, f, s, e, hR, hc, hh, hk, hG, hq.2⟩, ⟨t, tp, hT⟩, ⟨hcu, hkd⟩, hf0, hf1, h0, h1, h2, h3⟩
theorem i_wants (hN : 1000 ≤ N) (x1 : Int32) (hI : Inv u w) : StB (sX8_wants N u x1) (sX9_wants N w x1) := by
  have hI0 := hI
  obtain ⟨⟨H, z, f, s, e, hR, hc, hh, hk, hG, hM⟩, ⟨t, tp, hT⟩, ⟨hcu, hkd⟩, hf0, hf1, h0, h1, h2, h3⟩ := hI
  unfold sX8_wants sX9_wants
  refine st_b (c_wants x1 hN hR hc hh hk hG hM) (fun q p hq => ?_)
  refine ⟨hq.1, ?_⟩
  simp (disch := decide) only [Inv, va_up_self, va_up_ne]
  exact ⟨⟨H, z, f, s, e, hR, hc, hh, hk, hG, hq.2⟩, ⟨t, tp, hT⟩, ⟨hcu, hkd⟩, hf0, hf1, h0, h1, h2, h3⟩
theorem i_lose (hN : 1000 ≤ N) (x1 : Int32) (x2 : Int32) (hI : Inv u w) : StB (sX8_lose N u x1 x2) (sX9_lose N w x1 x2) := by
  have hI0 := hI
  obtain ⟨⟨H, z, f, s, e, hR, hc, hh, hk, hG, hM⟩, ⟨t, tp, hT⟩, ⟨hcu, hkd⟩, hf0, hf1, h0, h1, h2, h3⟩ := hI
  unfold sX8_lose sX9_lose
  refine st_b (c_lose x1 x2 hN hR hc hh hk hG hM) (fun q p hq => ?_)
  refine ⟨hq.1, ?_⟩
  simp (disch := decide) only [Inv, va_up_self, va_up_ne]
  exact ⟨⟨H, z, f, s, e, hR, hc, hh, hk, hG, hq.2⟩, ⟨t, tp, hT⟩, ⟨hcu, hkd⟩, hf0, hf1, h0, h1, h2, h3⟩
theorem i_odds (hN : 1000 ≤ N) (x1 : Int32) (x2 : Int32) (x3 : Int32) (hI : Inv u w) : StB (sX8_odds N u x1 x2 x3) (sX9_odds N w x1 x2 x3) := by
  have hI0 := hI
  obtain ⟨⟨H, z, f, s, e, hR, hc, hh, hk, hG, hM⟩, ⟨t, tp, hT⟩, ⟨hcu, hkd⟩, hf0, hf1, h0, h1, h2, h3⟩ := hI
  unfold sX8_odds sX9_odds
  refine st_b (c_odds x1 x2 x3 hN hR hc hh hk hG hM) (fun q p hq => ?_)
  refine ⟨hq.1, ?_⟩
  simp (disch := decide) only [Inv, va_up_self, va_up_ne]
  exact ⟨⟨H, z, f, s, e, hR, hc, hh, hk, hG, hq.2⟩, ⟨t, tp, hT⟩, ⟨hcu, hkd⟩, hf0, hf1, h0, h1, h2, h3⟩
theorem i_play (hN : 1000 ≤ N) (x1 : Int32) (hI : Inv u w) : StB (sX8_play N u x1) (sX9_play N w x1) := by
  have hI0 := hI
  obtain ⟨⟨H, z, f, s, e, hR, hc, hh, hk, hG, hM⟩, ⟨t, tp, hT⟩, ⟨hcu, hkd⟩, hf0, hf1, h0, h1, h2, h3⟩ := hI
  unfold sX8_play sX9_play
  refine st_b (c_play x1 hN hR hc hh hk hG hM) (fun q p hq => ?_)
  refine ⟨hq.1, ?_⟩
  simp (disch := decide) only [Inv, va_up_self, va_up_ne]
  exact ⟨⟨H, z, f, s, e, hR, hc, hh, hk, hG, hq.2⟩, ⟨t, tp, hT⟩, ⟨hcu, hkd⟩, hf0, hf1, h0, h1, h2, h3⟩
theorem i_played (hN : 1000 ≤ N) (x1 : Int32) (x2 : Int32) (hI : Inv u w) : StB (sX8_played N u x1 x2) (sX9_played N w x1 x2) := by
  have hI0 := hI
  obtain ⟨⟨H, z, f, s, e, hR, hc, hh, hk, hG, hM⟩, ⟨t, tp, hT⟩, ⟨hcu, hkd⟩, hf0, hf1, h0, h1, h2, h3⟩ := hI
  unfold sX8_played sX9_played
  refine st_b (c_played x1 x2 hN hR hc hh hk hG hM) (fun q p hq => ?_)
  refine ⟨hq.1, ?_⟩
  simp (disch := decide) only [Inv, va_up_self, va_up_ne]
  exact ⟨⟨H, z, f, s, e, hR, hc, hh, hk, hG, hq.2⟩, ⟨t, tp, hT⟩, ⟨hcu, hkd⟩, hf0, hf1, h0, h1, h2, h3⟩
theorem i_pays (hN : 1000 ≤ N) (x1 : Int32) (hI : Inv u w) : StB (sX8_pays N u x1) (sX9_pays N w x1) := by
  have hI0 := hI
  obtain ⟨⟨H, z, f, s, e, hR, hc, hh, hk, hG, hM⟩, ⟨t, tp, hT⟩, ⟨hcu, hkd⟩, hf0, hf1, h0, h1, h2, h3⟩ := hI
  unfold sX8_pays sX9_pays
  refine st_b (c_pays x1 hN hR hc hh hk hG hM) (fun q p hq => ?_)
  refine ⟨hq.1, ?_⟩
  simp (disch := decide) only [Inv, va_up_self, va_up_ne]
  exact ⟨⟨H, z, f, s, e, hR, hc, hh, hk, hG, hq.2⟩, ⟨t, tp, hT⟩, ⟨hcu, hkd⟩, hf0, hf1, h0, h1, h2, h3⟩
theorem i_years (hN : 1000 ≤ N) (x1 : Int32) (x2 : Int32) (x3 : Int32) (hI : Inv u w) : StB (sX8_years N u x1 x2 x3) (sX9_years N w x1 x2 x3) := by
  have hI0 := hI
  obtain ⟨⟨H, z, f, s, e, hR, hc, hh, hk, hG, hM⟩, ⟨t, tp, hT⟩, ⟨hcu, hkd⟩, hf0, hf1, h0, h1, h2, h3⟩ := hI
  unfold sX8_years sX9_years
  refine st_b (c_years x1 x2 x3 hN hR hc hh hk hM) (fun q p hq => ?_)
  refine ⟨hq.1, ?_⟩
  simp (disch := decide) only [Inv, va_up_self, va_up_ne]
  exact ⟨⟨H, z, f, s, e, hR, hc, hh, hk, hG, hq.2⟩, ⟨t, tp, hT⟩, ⟨hcu, hkd⟩, hf0, hf1, h0, h1, h2, h3⟩
theorem i_worthIf (hN : 1000 ≤ N) {wn : Nat} (hwn : wn < 2) (x1 x2 x4 : Int32) (hI : Inv u w) : StB (sX8_worthIf N u x1 x2 (jI wn) x4) (sX9_worthIf N w x1 x2 (jI wn) x4) := by
  have hI0 := hI
  obtain ⟨⟨H, z, f, s, e, hR, hc, hh, hk, hG, hM⟩, ⟨t, tp, hT⟩, ⟨hcu, hkd⟩, hf0, hf1, h0, h1, h2, h3⟩ := hI
  unfold sX8_worthIf sX9_worthIf
  refine st_b (c_worthIf x1 x2 x4 hwn hN hR hc hh hk hG hM) (fun q p hq => ?_)
  refine ⟨hq.1, ?_⟩
  simp (disch := decide) only [Inv, va_up_self, va_up_ne]
  exact ⟨⟨H, z, f, s, e, hR, hc, hh, hk, hG, hq.2⟩, ⟨t, tp, hT⟩, ⟨hcu, hkd⟩, hf0, hf1, h0, h1, h2, h3⟩
theorem i_thumbs (hN : 1000 ≤ N) (x1 : Int32) (x2 : Int32) (x3 : Int32) (hI : Inv u w) : StB (sX8_thumbs N u x1 x2 x3) (sX9_thumbs N w x1 x2 x3) := by
  unfold sX8_thumbs sX9_thumbs
  exact st_b (c_thumbs x1 x2 x3 (by omega)) (fun q p hq => ⟨hq, hI⟩)
theorem i_fine (hN : 1000 ≤ N) (x1 : Int32) (x2 : Int32) (hI : Inv u w) : StB (sX8_fine N u x1 x2) (sX9_fine N w x1 x2) := by
  unfold sX8_fine sX9_fine
  exact st_b (c_fine x1 x2 (by omega)) (fun q p hq => ⟨hq, hI⟩)
theorem i_sheet (hN : 1000 ≤ N) (x1 : Int32) (x2 : Int32) (x3 : Int32) (hI : Inv u w) : StB (sX8_sheet N u x1 x2 x3) (sX9_sheet N w x1 x2 x3) := by
  have hI0 := hI
  obtain ⟨⟨H, z, f, s, e, hR, hc, hh, hk, hG, hM⟩, ⟨t, tp, hT⟩, ⟨hcu, hkd⟩, hf0, hf1, h0, h1, h2, h3⟩ := hI
  unfold sX8_sheet
  rcases sheet_c (N := N) x1 with ⟨k, hk4, rfl, -, -⟩ | ⟨⟨n1, n2, n3⟩, s1, s2⟩
  · have hkk : k = 0 ∨ k = 1 ∨ k = 2 ∨ k = 3 := by omega
    rcases hkk with rfl | rfl | rfl | rfl
    · rw [pif_F (show ¬ jI 0 = 1 by decide), pif_F (show ¬ jI 0 = 2 by decide), pif_F (show ¬ jI 0 = 3 by decide)]
      unfold sX8_sheet_s0 sX9_sheet
      refine st_b (c_sheet_0 x2 x3 (by omega) h0) (fun q p hq => ?_)
      obtain ⟨hq, hS, hO⟩ := hq
      refine ⟨hq, ?_⟩
      simp (disch := decide) only [Inv, va_up_self, va_up_ne]
      exact ⟨⟨H, z, f, s, e, hR, hc, hh, hk, hG, hM⟩, ⟨t, tp, hT⟩, ⟨hcu, hkd⟩, hf0, hf1, hS, Sh_o hO (by omega) (by omega) h1, Sh_o hO (by omega) (by omega) h2, Sh_o hO (by omega) (by omega) h3⟩
    · rw [pif_T (show jI 1 = 1 from rfl)]
      unfold sX8_sheet_s1 sX9_sheet
      refine st_b (c_sheet_1 x2 x3 (by omega) h1) (fun q p hq => ?_)
      obtain ⟨hq, hS, hO⟩ := hq
      refine ⟨hq, ?_⟩
      simp (disch := decide) only [Inv, va_up_self, va_up_ne]
      exact ⟨⟨H, z, f, s, e, hR, hc, hh, hk, hG, hM⟩, ⟨t, tp, hT⟩, ⟨hcu, hkd⟩, hf0, hf1, Sh_o hO (by omega) (by omega) h0, hS, Sh_o hO (by omega) (by omega) h2, Sh_o hO (by omega) (by omega) h3⟩
    · rw [pif_F (show ¬ jI 2 = 1 by decide), pif_T (show jI 2 = 2 from rfl)]
      unfold sX8_sheet_s2 sX9_sheet
      refine st_b (c_sheet_2 x2 x3 (by omega) h2) (fun q p hq => ?_)
      obtain ⟨hq, hS, hO⟩ := hq
      refine ⟨hq, ?_⟩
      simp (disch := decide) only [Inv, va_up_self, va_up_ne]
      exact ⟨⟨H, z, f, s, e, hR, hc, hh, hk, hG, hM⟩, ⟨t, tp, hT⟩, ⟨hcu, hkd⟩, hf0, hf1, Sh_o hO (by omega) (by omega) h0, Sh_o hO (by omega) (by omega) h1, hS, Sh_o hO (by omega) (by omega) h3⟩
    · rw [pif_F (show ¬ jI 3 = 1 by decide), pif_F (show ¬ jI 3 = 2 by decide), pif_T (show jI 3 = 3 from rfl)]
      unfold sX8_sheet_s3 sX9_sheet
      refine st_b (c_sheet_3 x2 x3 (by omega) h3) (fun q p hq => ?_)
      obtain ⟨hq, hS, hO⟩ := hq
      refine ⟨hq, ?_⟩
      simp (disch := decide) only [Inv, va_up_self, va_up_ne]
      exact ⟨⟨H, z, f, s, e, hR, hc, hh, hk, hG, hM⟩, ⟨t, tp, hT⟩, ⟨hcu, hkd⟩, hf0, hf1, Sh_o hO (by omega) (by omega) h0, Sh_o hO (by omega) (by omega) h1, Sh_o hO (by omega) (by omega) h2, hS⟩
  · rw [pif_F (show ¬ x1 = 1 from n1), pif_F (show ¬ x1 = 2 from n2), pif_F (show ¬ x1 = 3 from n3)]
    unfold sX8_sheet_s0 sX9_sheet
    refine st_b (c_sheet_x x1 x2 x3 s1 s2) (fun q p hq => ?_)
    obtain ⟨p1, p2, p3, p4⟩ := p
    obtain ⟨rfl, hp⟩ := hq
    simp only [Prod.mk.injEq] at hp
    obtain ⟨rfl, rfl, rfl⟩ := hp
    refine ⟨rfl, ?_⟩
    simp (disch := decide) only [Inv, va_up_self, va_up_ne]
    exact ⟨⟨H, z, f, s, e, hR, hc, hh, hk, hG, hM⟩, ⟨t, tp, hT⟩, ⟨hcu, hkd⟩, hf0, hf1, h0, h1, h2, h3⟩
theorem i_lay (hN : 1000 ≤ N) (x1 : Int32) (x2 : Int32) (x3 : Int32) (hI : Inv u w) : StB (sX8_lay N u x1 x2 x3) (sX9_lay N w x1 x2 x3) := by
  have hI0 := hI
  obtain ⟨⟨H, z, f, s, e, hR, hc, hh, hk, hG, hM⟩, ⟨t, tp, hT⟩, ⟨hcu, hkd⟩, hf0, hf1, h0, h1, h2, h3⟩ := hI
  unfold sX8_lay
  rcases sheet_c (N := N) x1 with ⟨k, hk4, rfl, -, -⟩ | ⟨⟨n1, n2, n3⟩, s1, s2⟩
  · have hkk : k = 0 ∨ k = 1 ∨ k = 2 ∨ k = 3 := by omega
    rcases hkk with rfl | rfl | rfl | rfl
    · rw [pif_F (show ¬ jI 0 = 1 by decide), pif_F (show ¬ jI 0 = 2 by decide), pif_F (show ¬ jI 0 = 3 by decide)]
      unfold sX8_lay_s0 sX9_lay
      refine st_b (c_lay_0 x2 x3 h0) (fun q p hq => ?_)
      obtain ⟨hq, hS, hO⟩ := hq
      refine ⟨hq, ?_⟩
      simp (disch := decide) only [Inv, va_up_self, va_up_ne]
      exact ⟨⟨H, z, f, s, e, hR, hc, hh, hk, hG, hM⟩, ⟨t, tp, hT⟩, ⟨hcu, hkd⟩, hf0, hf1, hS, Sh_o hO (by omega) (by omega) h1, Sh_o hO (by omega) (by omega) h2, Sh_o hO (by omega) (by omega) h3⟩
    · rw [pif_T (show jI 1 = 1 from rfl)]
      unfold sX8_lay_s1 sX9_lay
      refine st_b (c_lay_1 x2 x3 h1) (fun q p hq => ?_)
      obtain ⟨hq, hS, hO⟩ := hq
      refine ⟨hq, ?_⟩
      simp (disch := decide) only [Inv, va_up_self, va_up_ne]
      exact ⟨⟨H, z, f, s, e, hR, hc, hh, hk, hG, hM⟩, ⟨t, tp, hT⟩, ⟨hcu, hkd⟩, hf0, hf1, Sh_o hO (by omega) (by omega) h0, hS, Sh_o hO (by omega) (by omega) h2, Sh_o hO (by omega) (by omega) h3⟩
    · rw [pif_F (show ¬ jI 2 = 1 by decide), pif_T (show jI 2 = 2 from rfl)]
      unfold sX8_lay_s2 sX9_lay
      refine st_b (c_lay_2 x2 x3 h2) (fun q p hq => ?_)
      obtain ⟨hq, hS, hO⟩ := hq
      refine ⟨hq, ?_⟩
      simp (disch := decide) only [Inv, va_up_self, va_up_ne]
      exact ⟨⟨H, z, f, s, e, hR, hc, hh, hk, hG, hM⟩, ⟨t, tp, hT⟩, ⟨hcu, hkd⟩, hf0, hf1, Sh_o hO (by omega) (by omega) h0, Sh_o hO (by omega) (by omega) h1, hS, Sh_o hO (by omega) (by omega) h3⟩
    · rw [pif_F (show ¬ jI 3 = 1 by decide), pif_F (show ¬ jI 3 = 2 by decide), pif_T (show jI 3 = 3 from rfl)]
      unfold sX8_lay_s3 sX9_lay
      refine st_b (c_lay_3 x2 x3 h3) (fun q p hq => ?_)
      obtain ⟨hq, hS, hO⟩ := hq
      refine ⟨hq, ?_⟩
      simp (disch := decide) only [Inv, va_up_self, va_up_ne]
      exact ⟨⟨H, z, f, s, e, hR, hc, hh, hk, hG, hM⟩, ⟨t, tp, hT⟩, ⟨hcu, hkd⟩, hf0, hf1, Sh_o hO (by omega) (by omega) h0, Sh_o hO (by omega) (by omega) h1, Sh_o hO (by omega) (by omega) h2, hS⟩
  · rw [pif_F (show ¬ x1 = 1 from n1), pif_F (show ¬ x1 = 2 from n2), pif_F (show ¬ x1 = 3 from n3)]
    unfold sX8_lay_s0 sX9_lay
    refine st_b (c_lay_x x1 x2 x3 s1 s2) (fun q p hq => ?_)
    obtain ⟨p1, p2⟩ := p
    obtain ⟨hq1, hp⟩ := hq
    have hp2 : p2 = w.2.1 25 := hp
    subst hp2
    subst hq1
    refine ⟨rfl, ?_⟩
    simp (disch := decide) only [Inv, va_up_self, va_up_ne]
    exact ⟨⟨H, z, f, s, e, hR, hc, hh, hk, hG, hM⟩, ⟨t, tp, hT⟩, ⟨hcu, hkd⟩, hf0, hf1, h0, h1, h2, h3⟩
theorem i_read (hN : 1000 ≤ N) (x1 : Int32) (x2 : Int32) (x3 : Int32) (x4 : Int32) (x5 : Int32) (hI : Inv u w) : StB (sX8_read N u x1 x2 x3 x4 x5) (sX9_read N w x1 x2 x3 x4 x5) := by
  have hI0 := hI
  obtain ⟨⟨H, z, f, s, e, hR, hc, hh, hk, hG, hM⟩, ⟨t, tp, hT⟩, ⟨hcu, hkd⟩, hf0, hf1, h0, h1, h2, h3⟩ := hI
  unfold sX8_read
  rcases sheet_c (N := N) x1 with ⟨k, hk4, rfl, -, -⟩ | ⟨⟨n1, n2, n3⟩, s1, s2⟩
  · have hkk : k = 0 ∨ k = 1 ∨ k = 2 ∨ k = 3 := by omega
    rcases hkk with rfl | rfl | rfl | rfl
    · rw [pif_F (show ¬ jI 0 = 1 by decide), pif_F (show ¬ jI 0 = 2 by decide), pif_F (show ¬ jI 0 = 3 by decide)]
      unfold sX8_read_s0 sX9_read
      rw [hf1]
      refine st_b (c_read_0 x2 x3 x4 x5 (by omega) hk hG hM h0) (fun q p hq => ?_)
      obtain ⟨hq, hq2, e2, gk, gG, gM⟩ := hq
      refine ⟨hq, ?_⟩
      simp (disch := decide) only [Inv, va_up_self, va_up_ne]
      exact ⟨⟨H, z, f, s, e2, hR, hc, hh, gk, gG, gM⟩, ⟨t, tp, hT⟩, ⟨hcu, hkd⟩, hf0, hq2, h0, h1, h2, h3⟩
    · rw [pif_T (show jI 1 = 1 from rfl)]
      unfold sX8_read_s1 sX9_read
      rw [hf1]
      refine st_b (c_read_1 x2 x3 x4 x5 (by omega) hk hG hM h1) (fun q p hq => ?_)
      obtain ⟨hq, hq2, e2, gk, gG, gM⟩ := hq
      refine ⟨hq, ?_⟩
      simp (disch := decide) only [Inv, va_up_self, va_up_ne]
      exact ⟨⟨H, z, f, s, e2, hR, hc, hh, gk, gG, gM⟩, ⟨t, tp, hT⟩, ⟨hcu, hkd⟩, hf0, hq2, h0, h1, h2, h3⟩
    · rw [pif_F (show ¬ jI 2 = 1 by decide), pif_T (show jI 2 = 2 from rfl)]
      unfold sX8_read_s2 sX9_read
      rw [hf1]
      refine st_b (c_read_2 x2 x3 x4 x5 (by omega) hk hG hM h2) (fun q p hq => ?_)
      obtain ⟨hq, hq2, e2, gk, gG, gM⟩ := hq
      refine ⟨hq, ?_⟩
      simp (disch := decide) only [Inv, va_up_self, va_up_ne]
      exact ⟨⟨H, z, f, s, e2, hR, hc, hh, gk, gG, gM⟩, ⟨t, tp, hT⟩, ⟨hcu, hkd⟩, hf0, hq2, h0, h1, h2, h3⟩
    · rw [pif_F (show ¬ jI 3 = 1 by decide), pif_F (show ¬ jI 3 = 2 by decide), pif_T (show jI 3 = 3 from rfl)]
      unfold sX8_read_s3 sX9_read
      rw [hf1]
      refine st_b (c_read_3 x2 x3 x4 x5 (by omega) hk hG hM h3) (fun q p hq => ?_)
      obtain ⟨hq, hq2, e2, gk, gG, gM⟩ := hq
      refine ⟨hq, ?_⟩
      simp (disch := decide) only [Inv, va_up_self, va_up_ne]
      exact ⟨⟨H, z, f, s, e2, hR, hc, hh, gk, gG, gM⟩, ⟨t, tp, hT⟩, ⟨hcu, hkd⟩, hf0, hq2, h0, h1, h2, h3⟩
  · rw [pif_F (show ¬ x1 = 1 from n1), pif_F (show ¬ x1 = 2 from n2), pif_F (show ¬ x1 = 3 from n3)]
    unfold sX8_read_s0 sX9_read
    rw [hf1]
    refine st_b (c_read_x x1 x2 x3 x4 x5 s1 s2) (fun q p hq => ?_)
    obtain ⟨p1, p2, p3⟩ := p
    obtain ⟨rfl, hp⟩ := hq
    simp only [Prod.mk.injEq] at hp
    obtain ⟨rfl, rfl⟩ := hp
    refine ⟨rfl, ?_⟩
    simp (disch := decide) only [Inv, va_up_self, va_up_ne]
    exact ⟨⟨H, z, f, s, e, hR, hc, hh, hk, hG, hM⟩, ⟨t, tp, hT⟩, ⟨hcu, hkd⟩, hf0, trivial, h0, h1, h2, h3⟩
theorem i_count (hN : 1000 ≤ N) (x1 : Int32) (hI : Inv u w) : StB (sX8_count_s0 N u x1) (sX9_count N w x1) := by
  have hI0 := hI
  obtain ⟨⟨H, z, f, s, e, hR, hc, hh, hk, hG, hM⟩, ⟨t, tp, hT⟩, ⟨hcu, hkd⟩, hf0, hf1, h0, h1, h2, h3⟩ := hI
  unfold sX8_count_s0 sX9_count
  exact st_b (c_count x1 (by omega) hR hc.2.1 (fun j hj => (hc.2.2 j hj).2.2.2.1) hh hk hG hM (hT.2.1.trans hT.2.2.1.symm) h0) (fun q p hq => ⟨hq, hI0⟩)
end
