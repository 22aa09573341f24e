/-! TEXT: all lines. -/
abbrev TxA := Int32 × Int32 × Int32 × Int32 × Int32 × Int32 × Int32 × Int32 × (Nat → Int32) × (Nat → Int32) × (Nat → Int32) × (Nat → Int32) × (Nat → Int32) × Int32 × (Nat → Int32) × (Nat → Int32) × (Nat → Int32) × (Nat → Int32)
def TxQ (cf cg ch cm cs : Nat → Int32) (a : TxA) (b : TxB) : Prop := (∃ c p, 0 < c ∧ c < 7 ∧ p ≤ 240 ∧ a.1 = jI 0 ∧ a.2.2.1 = jI c ∧ a.2.2.2.1 = jI p ∧ b.1 = -(jI 10) - jI p ∧ b.2.1 = jI c ∧ b.2.2.2.2.2.2.2.2.1 = jI 0 ∧ b.2.2.2.2.2.2.2.2.2.2.2.2.2.2.1 = cf ∧ b.2.2.2.2.2.2.2.2.2.2.2.2.2.2.2.1 = cg ∧ b.2.2.2.2.2.2.2.2.2.2.2.2.2.2.2.2.1 = ch ∧ b.2.2.2.2.2.2.2.2.2.2.2.2.2.2.2.2.2.1 = cm ∧ b.2.2.2.2.2.2.2.2.2.2.2.2.2.2.2.2.2.2.2.2.2 = cs) ∨ (∃ H r l, Rk H ∧ r * zR (H 0) ≤ 30 ∧ a.1 = jI 1 ∧ a.2.2.1 = jI 0 ∧ a.2.2.2.2.1 = jI l ∧ a.2.2.2.2.2.2.1 = jI r ∧ Rc H a.2.2.2.2.2.1 a.2.2.2.2.2.2.2.1 a.2.2.2.2.2.2.2.2.1 a.2.2.2.2.2.2.2.2.2.1 a.2.2.2.2.2.2.2.2.2.2.1 a.2.2.2.2.2.2.2.2.2.2.2.1 a.2.2.2.2.2.2.2.2.2.2.2.2.1 ∧ TxG H (r * zR (H 0)) (gF (H 0) r) (gSd (H 0) r) l b)
section
variable {v_at : Int32} {v_flaw : Int32} {v_flawPlace : Int32} {v_lines : Int32} {v_draft_kind : Int32} {v_draft_rounds : Int32} {v_draft_sides : Int32} {c_draft_balls : Nat → Int32} {c_draft_choiceWorth : Nat → Int32} {c_draft_placeWorth : Nat → Int32} {c_draft_strength : Nat → Int32} {c_draft_wheel : Nat → Int32} {v_tape_length : Int32} {v_tape_next : Int32} {c_tape_bytes : Nat → Int32} {c_tape_meaning : Nat → Int32} {c_tape_start : Nat → Int32} {c_tape_token : Nat → Int32} {c_told : Nat → Int32} {v_fault : Int32} {v_hasRule : Int32} {v_hasSides : Int32} {v_isBehind : Int32} {v_place : Int32} {v_readGames : Int32} {v_spot : Int32} {v_taped : Int32} {v_token : Int32} {v_toldOnes : Int32} {v_value : Int32} {v_wrong : Int32} {v_wrongAt : Int32} {c_cuts : Nat → Int32} {c_firsts : Nat → Int32} {c_goes : Nat → Int32} {c_holds : Nat → Int32} {c_kinds : Nat → Int32} {c_letters : Nat → Int32} {c_many : Nat → Int32} {c_readFirst : Nat → Int32} {c_readSecond : Nat → Int32} {c_reads : Nat → Int32} {c_seconds : Nat → Int32} {c_tape : Nat → Int32}
variable {N t T k B ib r l : Nat} {tp H m : Nat → Nat}
theorem text_132W {c p : Nat} {x1 : Int32} (h0 : 0 < c) (h7 : c < 7) : (fX9_text_132 N c_cuts c_kinds c_letters c_tape x1 v_fault v_hasRule v_hasSides v_isBehind v_place v_readGames v_spot v_taped v_token v_toldOnes v_value (jI c) (jI p) c_firsts c_goes c_holds c_many c_readFirst c_readSecond c_reads c_seconds) = some (-(jI 10) - jI p, jI c, v_hasRule, v_hasSides, v_isBehind, v_place, v_readGames, v_spot, jI 0, v_token, v_toldOnes, v_value, jI c, jI p, c_firsts, c_goes, c_holds, c_many, c_readFirst, c_readSecond, c_reads, c_seconds) := by
  have hcc : (jI c = jI 0) = False := by rw [jI_eq (by omega) (by omega)]; exact eq_false (by omega)
  have hcl : (jI c ≤ jI 0) = False := by rw [jI_le (by omega) (by omega)]; exact eq_false (by omega)
  unfold fX9_text_132 fX9_text_160
  rw [show (0 : Int32) = jI 0 from rfl]
  simp only [hcc, hcl, pif_F, pif]
  rfl
theorem text_160W {c p : Nat} {x1 : Int32} (h0 : 0 < c) (h7 : c < 7) : (fX9_text_160 N c_cuts c_kinds c_letters c_tape x1 v_fault v_hasRule v_hasSides v_isBehind v_place v_readGames v_spot v_taped v_token v_toldOnes v_value (jI c) (jI p) c_firsts c_goes c_holds c_many c_readFirst c_readSecond c_reads c_seconds) = some (-(jI 10) - jI p, jI c, v_hasRule, v_hasSides, v_isBehind, v_place, v_readGames, v_spot, jI 0, v_token, v_toldOnes, v_value, jI c, jI p, c_firsts, c_goes, c_holds, c_many, c_readFirst, c_readSecond, c_reads, c_seconds) := by
  have hcc : (jI c = jI 0) = False := by rw [jI_eq (by omega) (by omega)]; exact eq_false (by omega)
  have hcl : (jI c ≤ jI 0) = False := by rw [jI_le (by omega) (by omega)]; exact eq_false (by omega)
  unfold fX9_text_160
  rw [show (0 : Int32) = jI 0 from rfl]
  simp only [hcl, pif_F, pif]
  rfl
end
