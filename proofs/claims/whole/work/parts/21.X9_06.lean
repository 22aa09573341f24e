def fX9_isAhead_105 (N : Nat) (c_later : Nat → Int32) (c_outs : Nat → Int32) (c_placeOf : Nat → Int32) (x1 : Int32) (x2 : Int32) (s0 : Int32) : Option (Int32) := pg (isB s0) (some s0)
def fX9_isAhead_85 (N : Nat) (c_later : Nat → Int32) (c_outs : Nat → Int32) (c_placeOf : Nat → Int32) (x1 : Int32) (x2 : Int32) : Option (Int32) := pg (inr x1 6) (pg (inr x2 6) (pif ((c_placeOf x1.toNatClampNeg) ≤ (c_placeOf x2.toNatClampNeg)) (fX9_isAhead_105 N c_later c_outs c_placeOf x1 x2 0) (fX9_isAhead_105 N c_later c_outs c_placeOf x1 x2 1)))
def fX9_isAhead_33 (N : Nat) (c_later : Nat → Int32) (c_outs : Nat → Int32) (c_placeOf : Nat → Int32) (x1 : Int32) (x2 : Int32) (x3 : Int32) (s0 : Int32) : Option (Int32) := pif (x3 = s0) (pif (x3 = 0) (fX9_isAhead_85 N c_later c_outs c_placeOf x1 x2) (pg (inr x1 6) (pg (inr x2 6) (pif ((c_later x1.toNatClampNeg) = (c_later x2.toNatClampNeg)) (fX9_isAhead_85 N c_later c_outs c_placeOf x1 x2) (pg (inr x1 6) (pg (inr x2 6) (pif ((c_later x1.toNatClampNeg) ≤ (c_later x2.toNatClampNeg)) (fX9_isAhead_105 N c_later c_outs c_placeOf x1 x2 0) (fX9_isAhead_105 N c_later c_outs c_placeOf x1 x2 1)))))))) (pg (isB x3) (some x3))
def fX9_isAhead_16 (N : Nat) (c_later : Nat → Int32) (c_outs : Nat → Int32) (c_placeOf : Nat → Int32) (x1 : Int32) (x2 : Int32) (s0 : Int32) : Option (Int32) := pg (inr x2 6) (pif ((c_outs x2.toNatClampNeg) = (-4)) (fX9_isAhead_33 N c_later c_outs c_placeOf x1 x2 s0 0) (fX9_isAhead_33 N c_later c_outs c_placeOf x1 x2 s0 1))
def fX9_isAhead (N : Nat) (c_later : Nat → Int32) (c_outs : Nat → Int32) (c_placeOf : Nat → Int32) (x1 : Int32) (x2 : Int32) : Option (Int32) := pg (inr x1 6) (pif ((c_outs x1.toNatClampNeg) = (-4)) (fX9_isAhead_16 N c_later c_outs c_placeOf x1 x2 0) (fX9_isAhead_16 N c_later c_outs c_placeOf x1 x2 1))
abbrev rmX9_isAhead : Room := { frames := 0, cells := 0, slots := 0, locals := 0 }
set_option maxHeartbeats 40000000 in
set_option maxRecDepth 100000 in
theorem mX9_isAhead (l : Launch) (D : va_G) (cyI cyJ cyB cyS : ClassId) (N : Nat) (sz : Nat) (h0 : Nat) (a_later : Nat) (a_outs : Nat) (a_placeOf : Nat) (a_tape : Nat) (a_cuts : Nat) (a_letters : Nat) (a_kinds : Nat) (a_holds : Nat) (a_reads : Nat) (a_readFirst : Nat) (a_readSecond : Nat) (a_firsts : Nat) (a_seconds : Nat) (a_goes : Nat) (a_many : Nat) (a_force : Nat) (a_won : Nat) (a_sideAt : Nat) (a_chooser : Nat) (a_payOf : Nat) (a_opens : Nat) (a_tree : Nat) (a_lastOnes : Nat) (a_firstOnes : Nat) (a_lanes : Nat) (a_lengths : Nat) (a_cells : Nat) (v_taped : Int32) (v_fault : Int32) (v_wrong : Int32) (v_wrongAt : Int32) (v_spot : Int32) (v_place : Int32) (v_token : Int32) (v_value : Int32) (v_toldOnes : Int32) (v_isBehind : Int32) (v_readGames : Int32) (v_hasRule : Int32) (v_hasSides : Int32) (v_open : Int32) (v_sumUp : Int64) (v_sumDown : Int64) (v_pair : Int32) (v_isPair : Int32) (v_leaves : Int64) (v_looked : Int32) (v_wantedMany : Int32) (v_wantedFirst : Int32) (v_seed : Int32) (v_widest : Int32) (v_torn : Int32) (c_later : Nat → Int32) (c_outs : Nat → Int32) (c_placeOf : Nat → Int32) (x1 : Int32) (x2 : Int32) (q : Int32) (hf : fX9_isAhead N c_later c_outs c_placeOf x1 x2 = some q) : Met l yX9_isAhead (wS yX9_isAhead cX9_isAhead 5 (some .boolean)) rmX9_isAhead (va_Pc [.ref h0, .int x1, .int x2] (PP D cyI cyJ cyB cyS [(h0, .inr (9, [.ref a_tape, .int v_taped, .int v_fault, .int v_wrong, .int v_wrongAt, .int v_spot, .int v_place, .int v_token, .int v_value, .ref a_cuts, .ref a_letters, .ref a_kinds, .ref a_holds, .ref a_reads, .int v_toldOnes, .int v_isBehind, .int v_readGames, .ref a_readFirst, .ref a_readSecond, .ref a_firsts, .ref a_seconds, .ref a_goes, .ref a_many, .int v_hasRule, .int v_hasSides, .ref a_force, .ref a_won, .ref a_sideAt, .ref a_placeOf, .ref a_chooser, .ref a_outs, .ref a_later, .ref a_payOf, .ref a_opens, .int v_open, .long v_sumUp, .long v_sumDown, .ref a_tree, .int v_pair, .int v_isPair, .long v_leaves, .int v_looked, .int v_wantedMany, .int v_wantedFirst, .int v_seed, .ref a_lastOnes, .ref a_firstOnes, .int v_widest, .ref a_lanes, .ref a_lengths, .ref a_cells, .int v_torn])), (a_later, .inl (cyI, 6, .inl c_later)), (a_outs, .inl (cyI, 6, .inl c_outs)), (a_placeOf, .inl (cyI, 6, .inl c_placeOf))] sz)) (QI q D [(h0, .inr (9, [.ref a_tape, .int v_taped, .int v_fault, .int v_wrong, .int v_wrongAt, .int v_spot, .int v_place, .int v_token, .int v_value, .ref a_cuts, .ref a_letters, .ref a_kinds, .ref a_holds, .ref a_reads, .int v_toldOnes, .int v_isBehind, .int v_readGames, .ref a_readFirst, .ref a_readSecond, .ref a_firsts, .ref a_seconds, .ref a_goes, .ref a_many, .int v_hasRule, .int v_hasSides, .ref a_force, .ref a_won, .ref a_sideAt, .ref a_placeOf, .ref a_chooser, .ref a_outs, .ref a_later, .ref a_payOf, .ref a_opens, .int v_open, .long v_sumUp, .long v_sumDown, .ref a_tree, .int v_pair, .int v_isPair, .long v_leaves, .int v_looked, .int v_wantedMany, .int v_wantedFirst, .int v_seed, .ref a_lastOnes, .ref a_firstOnes, .int v_widest, .ref a_lanes, .ref a_lengths, .ref a_cells, .int v_torn])), (a_later, .inl (cyI, 6, .inl c_later)), (a_outs, .inl (cyI, 6, .inl c_outs)), (a_placeOf, .inl (cyI, 6, .inl c_placeOf))] (va_A [(h0, .inr (9, [.ref a_tape, .int v_taped, .int v_fault, .int v_wrong, .int v_wrongAt, .int v_spot, .int v_place, .int v_token, .int v_value, .ref a_cuts, .ref a_letters, .ref a_kinds, .ref a_holds, .ref a_reads, .int v_toldOnes, .int v_isBehind, .int v_readGames, .ref a_readFirst, .ref a_readSecond, .ref a_firsts, .ref a_seconds, .ref a_goes, .ref a_many, .int v_hasRule, .int v_hasSides, .ref a_force, .ref a_won, .ref a_sideAt, .ref a_placeOf, .ref a_chooser, .ref a_outs, .ref a_later, .ref a_payOf, .ref a_opens, .int v_open, .long v_sumUp, .long v_sumDown, .ref a_tree, .int v_pair, .int v_isPair, .long v_leaves, .int v_looked, .int v_wantedMany, .int v_wantedFirst, .int v_seed, .ref a_lastOnes, .ref a_firstOnes, .int v_widest, .ref a_lanes, .ref a_lengths, .ref a_cells, .int v_torn])), (a_later, .inl (cyI, 6, .inl c_later)), (a_outs, .inl (cyI, 6, .inl c_outs)), (a_placeOf, .inl (cyI, 6, .inl c_placeOf))] sz)) 0 0 (va_A [(h0, .inr (9, [.ref a_tape, .int v_taped, .int v_fault, .int v_wrong, .int v_wrongAt, .int v_spot, .int v_place, .int v_token, .int v_value, .ref a_cuts, .ref a_letters, .ref a_kinds, .ref a_holds, .ref a_reads, .int v_toldOnes, .int v_isBehind, .int v_readGames, .ref a_readFirst, .ref a_readSecond, .ref a_firsts, .ref a_seconds, .ref a_goes, .ref a_many, .int v_hasRule, .int v_hasSides, .ref a_force, .ref a_won, .ref a_sideAt, .ref a_placeOf, .ref a_chooser, .ref a_outs, .ref a_later, .ref a_payOf, .ref a_opens, .int v_open, .long v_sumUp, .long v_sumDown, .ref a_tree, .int v_pair, .int v_isPair, .long v_leaves, .int v_looked, .int v_wantedMany, .int v_wantedFirst, .int v_seed, .ref a_lastOnes, .ref a_firstOnes, .int v_widest, .ref a_lanes, .ref a_lengths, .ref a_cells, .int v_torn])), (a_later, .inl (cyI, 6, .inl c_later)), (a_outs, .inl (cyI, 6, .inl c_outs)), (a_placeOf, .inl (cyI, 6, .inl c_placeOf))] sz) := by
  refine Met.ofW (cc := cX9_isAhead) (maxL := 5) (ret := (some .boolean)) (by decide) rfl ?_
  intro p e s m args below meth c s₁ B hml hv
  obtain ⟨rfl, hsz, hP, hK, hD0⟩ := hv
  have hx := B.exec
  have hb := B.bytes
  have hr := B.returns
  have hts := atoms_spec (ws := (wS yX9_isAhead cX9_isAhead 5 (some .boolean))) B.pre
  have hown : s.vm.findClass RX9 = some m.cls := findClass_of_methodNamed B.named
  have hlocks := B.notSynchronized
  subst hsz
  have hD := hD0.self (sz := s.heap.size)
  refine w_nameQ (fun Q hQ => ?_)
  have hl := lv_entry ([.ref h0, .int x1, .int x2] : List Value) (n := 5) (Nat.le_of_ble_eq_true rfl)
  rw [lg_entry_eq]
  generalize (lg_sl ([.ref h0, .int x1, .int x2] : List Value) ++ List.replicate (5 - (lg_sl ([.ref h0, .int x1, .int x2] : List Value)).length) Slot.unset).toArray = ls at hl ⊢
  have hl : lv_has ls 5 [(0, .ref h0), (1, .int x1), (2, .int x2)] := hl
  generalize hAe : va_A [(h0, .inr (9, [.ref a_tape, .int v_taped, .int v_fault, .int v_wrong, .int v_wrongAt, .int v_spot, .int v_place, .int v_token, .int v_value, .ref a_cuts, .ref a_letters, .ref a_kinds, .ref a_holds, .ref a_reads, .int v_toldOnes, .int v_isBehind, .int v_readGames, .ref a_readFirst, .ref a_readSecond, .ref a_firsts, .ref a_seconds, .ref a_goes, .ref a_many, .int v_hasRule, .int v_hasSides, .ref a_force, .ref a_won, .ref a_sideAt, .ref a_placeOf, .ref a_chooser, .ref a_outs, .ref a_later, .ref a_payOf, .ref a_opens, .int v_open, .long v_sumUp, .long v_sumDown, .ref a_tree, .int v_pair, .int v_isPair, .long v_leaves, .int v_looked, .int v_wantedMany, .int v_wantedFirst, .int v_seed, .ref a_lastOnes, .ref a_firstOnes, .int v_widest, .ref a_lanes, .ref a_lengths, .ref a_cells, .int v_torn])), (a_later, .inl (cyI, 6, .inl c_later)), (a_outs, .inl (cyI, 6, .inl c_outs)), (a_placeOf, .inl (cyI, 6, .inl c_placeOf))] s.heap.size = A at hD hQ
  have hA : ∀ q : Nat, s.heap.size ≤ q → A q := fun q h => by rw [← hAe]; exact Or.inr h
  have hS : va_S A s.heap s.heap [] := va_S.rf
  generalize ([.ref h0, .int x1, .int x2] : List Value).toArray = av at hts hQ ⊢
  have hL : ∀ w ∈ wsL_law, w.before av s = true := fun w h => hts w (List.mem_cons_of_mem _ h)
  have w0 := hL (.fieldLink RX9 55 "LosingLeagueModel" "placeOf" "[I") (hR6 19 rfl)
  have w1 := hL (.fieldLink RX9 64 "LosingLeagueModel" "later" "[I") (hR6 22 rfl)
  have w2 := hL (.fieldLink RX9 61 "LosingLeagueModel" "outs" "[I") (hR6 21 rfl)
  have hB105 : ∀ (s0 : Int32) (H : Heap) (locs : List Loc) (ls : Array Slot), fX9_isAhead_105 N c_later c_outs c_placeOf x1 x2 s0 = some q → va_P D vwCl [(h0, .inr (9, [.ref a_tape, .int v_taped, .int v_fault, .int v_wrong, .int v_wrongAt, .int v_spot, .int v_place, .int v_token, .int v_value, .ref a_cuts, .ref a_letters, .ref a_kinds, .ref a_holds, .ref a_reads, .int v_toldOnes, .int v_isBehind, .int v_readGames, .ref a_readFirst, .ref a_readSecond, .ref a_firsts, .ref a_seconds, .ref a_goes, .ref a_many, .int v_hasRule, .int v_hasSides, .ref a_force, .ref a_won, .ref a_sideAt, .ref a_placeOf, .ref a_chooser, .ref a_outs, .ref a_later, .ref a_payOf, .ref a_opens, .int v_open, .long v_sumUp, .long v_sumDown, .ref a_tree, .int v_pair, .int v_isPair, .long v_leaves, .int v_looked, .int v_wantedMany, .int v_wantedFirst, .int v_seed, .ref a_lastOnes, .ref a_firstOnes, .int v_widest, .ref a_lanes, .ref a_lengths, .ref a_cells, .int v_torn])), (a_later, .inl (cyI, 6, .inl c_later)), (a_outs, .inl (cyI, 6, .inl c_outs)), (a_placeOf, .inl (cyI, 6, .inl c_placeOf))] H → va_D A [(h0, .inr (9, [.ref a_tape, .int v_taped, .int v_fault, .int v_wrong, .int v_wrongAt, .int v_spot, .int v_place, .int v_token, .int v_value, .ref a_cuts, .ref a_letters, .ref a_kinds, .ref a_holds, .ref a_reads, .int v_toldOnes, .int v_isBehind, .int v_readGames, .ref a_readFirst, .ref a_readSecond, .ref a_firsts, .ref a_seconds, .ref a_goes, .ref a_many, .int v_hasRule, .int v_hasSides, .ref a_force, .ref a_won, .ref a_sideAt, .ref a_placeOf, .ref a_chooser, .ref a_outs, .ref a_later, .ref a_payOf, .ref a_opens, .int v_open, .long v_sumUp, .long v_sumDown, .ref a_tree, .int v_pair, .int v_isPair, .long v_leaves, .int v_looked, .int v_wantedMany, .int v_wantedFirst, .int v_seed, .ref a_lastOnes, .ref a_firstOnes, .int v_widest, .ref a_lanes, .ref a_lengths, .ref a_cells, .int v_torn])), (a_later, .inl (cyI, 6, .inl c_later)), (a_outs, .inl (cyI, 6, .inl c_outs)), (a_placeOf, .inl (cyI, 6, .inl c_placeOf))] → va_S A s.heap H locs → lv_has ls 5 [] → W p l e rmX9_isAhead s m av below meth c H locs 0 0 Q (F0 m 105 ls [.int s0]) := by
    intro s0 H locs ls hf hP hD hS hl
    unfold fX9_isAhead_105 at hf
    obtain ⟨n105, hf⟩ := pg_some hf
    exact ret_z (q := q) (g := fun q => q) (wp := fun q => [(h0, .inr (9, [.ref a_tape, .int v_taped, .int v_fault, .int v_wrong, .int v_wrongAt, .int v_spot, .int v_place, .int v_token, .int v_value, .ref a_cuts, .ref a_letters, .ref a_kinds, .ref a_holds, .ref a_reads, .int v_toldOnes, .int v_isBehind, .int v_readGames, .ref a_readFirst, .ref a_readSecond, .ref a_firsts, .ref a_seconds, .ref a_goes, .ref a_many, .int v_hasRule, .int v_hasSides, .ref a_force, .ref a_won, .ref a_sideAt, .ref a_placeOf, .ref a_chooser, .ref a_outs, .ref a_later, .ref a_payOf, .ref a_opens, .int v_open, .long v_sumUp, .long v_sumDown, .ref a_tree, .int v_pair, .int v_isPair, .long v_leaves, .int v_looked, .int v_wantedMany, .int v_wantedFirst, .int v_seed, .ref a_lastOnes, .ref a_firstOnes, .int v_widest, .ref a_lanes, .ref a_lengths, .ref a_cells, .int v_torn])), (a_later, .inl (cyI, 6, .inl c_later)), (a_outs, .inl (cyI, 6, .inl c_outs)), (a_placeOf, .inl (cyI, 6, .inl c_placeOf))]) hQ hf hx hb hr hlocks (isB_n n105) hP hD hS dX9_isAhead_105 rfl
  have hB85 : ∀ (H : Heap) (locs : List Loc) (ls : Array Slot), fX9_isAhead_85 N c_later c_outs c_placeOf x1 x2 = some q → va_P D vwCl [(h0, .inr (9, [.ref a_tape, .int v_taped, .int v_fault, .int v_wrong, .int v_wrongAt, .int v_spot, .int v_place, .int v_token, .int v_value, .ref a_cuts, .ref a_letters, .ref a_kinds, .ref a_holds, .ref a_reads, .int v_toldOnes, .int v_isBehind, .int v_readGames, .ref a_readFirst, .ref a_readSecond, .ref a_firsts, .ref a_seconds, .ref a_goes, .ref a_many, .int v_hasRule, .int v_hasSides, .ref a_force, .ref a_won, .ref a_sideAt, .ref a_placeOf, .ref a_chooser, .ref a_outs, .ref a_later, .ref a_payOf, .ref a_opens, .int v_open, .long v_sumUp, .long v_sumDown, .ref a_tree, .int v_pair, .int v_isPair, .long v_leaves, .int v_looked, .int v_wantedMany, .int v_wantedFirst, .int v_seed, .ref a_lastOnes, .ref a_firstOnes, .int v_widest, .ref a_lanes, .ref a_lengths, .ref a_cells, .int v_torn])), (a_later, .inl (cyI, 6, .inl c_later)), (a_outs, .inl (cyI, 6, .inl c_outs)), (a_placeOf, .inl (cyI, 6, .inl c_placeOf))] H → va_D A [(h0, .inr (9, [.ref a_tape, .int v_taped, .int v_fault, .int v_wrong, .int v_wrongAt, .int v_spot, .int v_place, .int v_token, .int v_value, .ref a_cuts, .ref a_letters, .ref a_kinds, .ref a_holds, .ref a_reads, .int v_toldOnes, .int v_isBehind, .int v_readGames, .ref a_readFirst, .ref a_readSecond, .ref a_firsts, .ref a_seconds, .ref a_goes, .ref a_many, .int v_hasRule, .int v_hasSides, .ref a_force, .ref a_won, .ref a_sideAt, .ref a_placeOf, .ref a_chooser, .ref a_outs, .ref a_later, .ref a_payOf, .ref a_opens, .int v_open, .long v_sumUp, .long v_sumDown, .ref a_tree, .int v_pair, .int v_isPair, .long v_leaves, .int v_looked, .int v_wantedMany, .int v_wantedFirst, .int v_seed, .ref a_lastOnes, .ref a_firstOnes, .int v_widest, .ref a_lanes, .ref a_lengths, .ref a_cells, .int v_torn])), (a_later, .inl (cyI, 6, .inl c_later)), (a_outs, .inl (cyI, 6, .inl c_outs)), (a_placeOf, .inl (cyI, 6, .inl c_placeOf))] → va_S A s.heap H locs → lv_has ls 5 [(0, .ref h0), (1, .int x1), (2, .int x2)] → W p l e rmX9_isAhead s m av below meth c H locs 0 0 Q (F0 m 85 ls []) := by
    intro  H locs ls hf hP hD hS hl
    unfold fX9_isAhead_85 at hf
    refine lv_aload_n hx hb dX9_isAhead_85 rfl (lv_at hl 0 rfl) ?_
    refine va_get (D := D) (ci := 9) (v := .ref a_placeOf) (C := RX9) (T := TX9) (N := 52) hx hb hL inlX9 hown hK.1 hP 0 rfl rfl 28 (by decide) w0 (fun _ h9 => h9) rfl dX9_isAhead_86 ?_
    refine lv_iload_n hx hb dX9_isAhead_89 rfl (lv_at hl 1 rfl) ?_
    obtain ⟨h90, hf⟩ := pg_some hf
    refine va_iald hx hb hK.1 hP 3 0 rfl rfl h90 dX9_isAhead_90 ?_
    refine lv_aload_n hx hb dX9_isAhead_91 rfl (lv_at hl 0 rfl) ?_
    refine va_get (D := D) (ci := 9) (v := .ref a_placeOf) (C := RX9) (T := TX9) (N := 52) hx hb hL inlX9 hown hK.1 hP 0 rfl rfl 28 (by decide) w0 (fun _ h9 => h9) rfl dX9_isAhead_92 ?_
    refine lv_iload_n hx hb dX9_isAhead_95 rfl (lv_at hl 2 rfl) ?_
    obtain ⟨h96, hf⟩ := pg_some hf
    refine va_iald hx hb hK.1 hP 3 0 rfl rfl h96 dX9_isAhead_96 ?_
    refine lv_icmp_le (tgt := 104) hx hb dX9_isAhead_97 (by decide) (fun c97 => ?_) (fun c97 => ?_)
    · have hf := pif_t c97 hf
      refine lv_iconst (v := 0) hx hb dX9_isAhead_104 (by decide) ?_
      exact hB105 0 H locs ls hf hP hD hS (lv_sub hl [] rfl)
    · have hf := pif_f c97 hf
      refine lv_iconst (v := 1) hx hb dX9_isAhead_100 (by decide) ?_
      refine lv_goto (tgt := 105) hx hb dX9_isAhead_101 (by decide) ?_
      exact hB105 1 H locs ls hf hP hD hS (lv_sub hl [] rfl)
  have hB33 : ∀ (x3 : Int32) (s0 : Int32) (H : Heap) (locs : List Loc) (ls : Array Slot), fX9_isAhead_33 N c_later c_outs c_placeOf x1 x2 x3 s0 = some q → va_P D vwCl [(h0, .inr (9, [.ref a_tape, .int v_taped, .int v_fault, .int v_wrong, .int v_wrongAt, .int v_spot, .int v_place, .int v_token, .int v_value, .ref a_cuts, .ref a_letters, .ref a_kinds, .ref a_holds, .ref a_reads, .int v_toldOnes, .int v_isBehind, .int v_readGames, .ref a_readFirst, .ref a_readSecond, .ref a_firsts, .ref a_seconds, .ref a_goes, .ref a_many, .int v_hasRule, .int v_hasSides, .ref a_force, .ref a_won, .ref a_sideAt, .ref a_placeOf, .ref a_chooser, .ref a_outs, .ref a_later, .ref a_payOf, .ref a_opens, .int v_open, .long v_sumUp, .long v_sumDown, .ref a_tree, .int v_pair, .int v_isPair, .long v_leaves, .int v_looked, .int v_wantedMany, .int v_wantedFirst, .int v_seed, .ref a_lastOnes, .ref a_firstOnes, .int v_widest, .ref a_lanes, .ref a_lengths, .ref a_cells, .int v_torn])), (a_later, .inl (cyI, 6, .inl c_later)), (a_outs, .inl (cyI, 6, .inl c_outs)), (a_placeOf, .inl (cyI, 6, .inl c_placeOf))] H → va_D A [(h0, .inr (9, [.ref a_tape, .int v_taped, .int v_fault, .int v_wrong, .int v_wrongAt, .int v_spot, .int v_place, .int v_token, .int v_value, .ref a_cuts, .ref a_letters, .ref a_kinds, .ref a_holds, .ref a_reads, .int v_toldOnes, .int v_isBehind, .int v_readGames, .ref a_readFirst, .ref a_readSecond, .ref a_firsts, .ref a_seconds, .ref a_goes, .ref a_many, .int v_hasRule, .int v_hasSides, .ref a_force, .ref a_won, .ref a_sideAt, .ref a_placeOf, .ref a_chooser, .ref a_outs, .ref a_later, .ref a_payOf, .ref a_opens, .int v_open, .long v_sumUp, .long v_sumDown, .ref a_tree, .int v_pair, .int v_isPair, .long v_leaves, .int v_looked, .int v_wantedMany, .int v_wantedFirst, .int v_seed, .ref a_lastOnes, .ref a_firstOnes, .int v_widest, .ref a_lanes, .ref a_lengths, .ref a_cells, .int v_torn])), (a_later, .inl (cyI, 6, .inl c_later)), (a_outs, .inl (cyI, 6, .inl c_outs)), (a_placeOf, .inl (cyI, 6, .inl c_placeOf))] → va_S A s.heap H locs → lv_has ls 5 [(0, .ref h0), (1, .int x1), (2, .int x2), (3, .int x3)] → W p l e rmX9_isAhead s m av below meth c H locs 0 0 Q (F0 m 33 ls [.int s0]) := by
    intro x3 s0 H locs ls hf hP hD hS hl
    unfold fX9_isAhead_33 at hf
    refine lv_istore (lv' := [(4, .int s0), (0, .ref h0), (1, .int x1), (2, .int x2), (3, .int x3)]) hx hb dX9_isAhead_33 hl (by decide) rfl (fun ls hl => ?_)
    refine lv_iload_n hx hb dX9_isAhead_35 rfl (lv_at hl 4 rfl) ?_
    refine lv_iload hx hb dX9_isAhead_36 (lv_at hl 0 rfl) ?_
    refine lv_icmp_eq (tgt := 43) hx hb dX9_isAhead_38 (by decide) (fun c38 => ?_) (fun c38 => ?_)
    · have hf := pif_t c38 hf
      refine lv_iload_n hx hb dX9_isAhead_43 rfl (lv_at hl 4 rfl) ?_
      refine lv_if_eq (tgt := 85) hx hb dX9_isAhead_44 (by decide) (fun c44 => ?_) (fun c44 => ?_)
      · have hf := pif_t c44 hf
        exact hB85 H locs ls hf hP hD hS (lv_sub hl [1, 2, 3] rfl)
      · have hf := pif_f c44 hf
        refine lv_aload_n hx hb dX9_isAhead_47 rfl (lv_at hl 1 rfl) ?_
        refine va_get (D := D) (ci := 9) (v := .ref a_later) (C := RX9) (T := TX9) (N := 52) hx hb hL inlX9 hown hK.1 hP 0 rfl rfl 31 (by decide) w1 (fun _ h9 => h9) rfl dX9_isAhead_48 ?_
        refine lv_iload_n hx hb dX9_isAhead_51 rfl (lv_at hl 2 rfl) ?_
        obtain ⟨h52, hf⟩ := pg_some hf
        refine va_iald hx hb hK.1 hP 1 0 rfl rfl h52 dX9_isAhead_52 ?_
        refine lv_aload_n hx hb dX9_isAhead_53 rfl (lv_at hl 1 rfl) ?_
        refine va_get (D := D) (ci := 9) (v := .ref a_later) (C := RX9) (T := TX9) (N := 52) hx hb hL inlX9 hown hK.1 hP 0 rfl rfl 31 (by decide) w1 (fun _ h9 => h9) rfl dX9_isAhead_54 ?_
        refine lv_iload_n hx hb dX9_isAhead_57 rfl (lv_at hl 3 rfl) ?_
        obtain ⟨h58, hf⟩ := pg_some hf
        refine va_iald hx hb hK.1 hP 1 0 rfl rfl h58 dX9_isAhead_58 ?_
        refine lv_icmp_eq (tgt := 85) hx hb dX9_isAhead_59 (by decide) (fun c59 => ?_) (fun c59 => ?_)
        · have hf := pif_t c59 hf
          exact hB85 H locs ls hf hP hD hS (lv_sub hl [1, 2, 3] rfl)
        · have hf := pif_f c59 hf
          refine lv_aload_n hx hb dX9_isAhead_62 rfl (lv_at hl 1 rfl) ?_
          refine va_get (D := D) (ci := 9) (v := .ref a_later) (C := RX9) (T := TX9) (N := 52) hx hb hL inlX9 hown hK.1 hP 0 rfl rfl 31 (by decide) w1 (fun _ h9 => h9) rfl dX9_isAhead_63 ?_
          refine lv_iload_n hx hb dX9_isAhead_66 rfl (lv_at hl 2 rfl) ?_
          obtain ⟨h67, hf⟩ := pg_some hf
          refine va_iald hx hb hK.1 hP 1 0 rfl rfl h67 dX9_isAhead_67 ?_
          refine lv_aload_n hx hb dX9_isAhead_68 rfl (lv_at hl 1 rfl) ?_
          refine va_get (D := D) (ci := 9) (v := .ref a_later) (C := RX9) (T := TX9) (N := 52) hx hb hL inlX9 hown hK.1 hP 0 rfl rfl 31 (by decide) w1 (fun _ h9 => h9) rfl dX9_isAhead_69 ?_
          refine lv_iload_n hx hb dX9_isAhead_72 rfl (lv_at hl 3 rfl) ?_
          obtain ⟨h73, hf⟩ := pg_some hf
          refine va_iald hx hb hK.1 hP 1 0 rfl rfl h73 dX9_isAhead_73 ?_
          refine lv_icmp_le (tgt := 81) hx hb dX9_isAhead_74 (by decide) (fun c74 => ?_) (fun c74 => ?_)
          · have hf := pif_t c74 hf
            refine lv_iconst (v := 0) hx hb dX9_isAhead_81 (by decide) ?_
            refine lv_goto (tgt := 105) hx hb dX9_isAhead_82 (by decide) ?_
            exact hB105 0 H locs ls hf hP hD hS (lv_sub hl [] rfl)
          · have hf := pif_f c74 hf
            refine lv_iconst (v := 1) hx hb dX9_isAhead_77 (by decide) ?_
            refine lv_goto (tgt := 105) hx hb dX9_isAhead_78 (by decide) ?_
            exact hB105 1 H locs ls hf hP hD hS (lv_sub hl [] rfl)
    · have hf := pif_f c38 hf
      refine lv_iload_n hx hb dX9_isAhead_41 rfl (lv_at hl 4 rfl) ?_
      obtain ⟨n42, hf⟩ := pg_some hf
      exact ret_z (q := q) (g := fun q => q) (wp := fun q => [(h0, .inr (9, [.ref a_tape, .int v_taped, .int v_fault, .int v_wrong, .int v_wrongAt, .int v_spot, .int v_place, .int v_token, .int v_value, .ref a_cuts, .ref a_letters, .ref a_kinds, .ref a_holds, .ref a_reads, .int v_toldOnes, .int v_isBehind, .int v_readGames, .ref a_readFirst, .ref a_readSecond, .ref a_firsts, .ref a_seconds, .ref a_goes, .ref a_many, .int v_hasRule, .int v_hasSides, .ref a_force, .ref a_won, .ref a_sideAt, .ref a_placeOf, .ref a_chooser, .ref a_outs, .ref a_later, .ref a_payOf, .ref a_opens, .int v_open, .long v_sumUp, .long v_sumDown, .ref a_tree, .int v_pair, .int v_isPair, .long v_leaves, .int v_looked, .int v_wantedMany, .int v_wantedFirst, .int v_seed, .ref a_lastOnes, .ref a_firstOnes, .int v_widest, .ref a_lanes, .ref a_lengths, .ref a_cells, .int v_torn])), (a_later, .inl (cyI, 6, .inl c_later)), (a_outs, .inl (cyI, 6, .inl c_outs)), (a_placeOf, .inl (cyI, 6, .inl c_placeOf))]) hQ hf hx hb hr hlocks (isB_n n42) hP hD hS dX9_isAhead_42 rfl
  have hB16 : ∀ (s0 : Int32) (H : Heap) (locs : List Loc) (ls : Array Slot), fX9_isAhead_16 N c_later c_outs c_placeOf x1 x2 s0 = some q → va_P D vwCl [(h0, .inr (9, [.ref a_tape, .int v_taped, .int v_fault, .int v_wrong, .int v_wrongAt, .int v_spot, .int v_place, .int v_token, .int v_value, .ref a_cuts, .ref a_letters, .ref a_kinds, .ref a_holds, .ref a_reads, .int v_toldOnes, .int v_isBehind, .int v_readGames, .ref a_readFirst, .ref a_readSecond, .ref a_firsts, .ref a_seconds, .ref a_goes, .ref a_many, .int v_hasRule, .int v_hasSides, .ref a_force, .ref a_won, .ref a_sideAt, .ref a_placeOf, .ref a_chooser, .ref a_outs, .ref a_later, .ref a_payOf, .ref a_opens, .int v_open, .long v_sumUp, .long v_sumDown, .ref a_tree, .int v_pair, .int v_isPair, .long v_leaves, .int v_looked, .int v_wantedMany, .int v_wantedFirst, .int v_seed, .ref a_lastOnes, .ref a_firstOnes, .int v_widest, .ref a_lanes, .ref a_lengths, .ref a_cells, .int v_torn])), (a_later, .inl (cyI, 6, .inl c_later)), (a_outs, .inl (cyI, 6, .inl c_outs)), (a_placeOf, .inl (cyI, 6, .inl c_placeOf))] H → va_D A [(h0, .inr (9, [.ref a_tape, .int v_taped, .int v_fault, .int v_wrong, .int v_wrongAt, .int v_spot, .int v_place, .int v_token, .int v_value, .ref a_cuts, .ref a_letters, .ref a_kinds, .ref a_holds, .ref a_reads, .int v_toldOnes, .int v_isBehind, .int v_readGames, .ref a_readFirst, .ref a_readSecond, .ref a_firsts, .ref a_seconds, .ref a_goes, .ref a_many, .int v_hasRule, .int v_hasSides, .ref a_force, .ref a_won, .ref a_sideAt, .ref a_placeOf, .ref a_chooser, .ref a_outs, .ref a_later, .ref a_payOf, .ref a_opens, .int v_open, .long v_sumUp, .long v_sumDown, .ref a_tree, .int v_pair, .int v_isPair, .long v_leaves, .int v_looked, .int v_wantedMany, .int v_wantedFirst, .int v_seed, .ref a_lastOnes, .ref a_firstOnes, .int v_widest, .ref a_lanes, .ref a_lengths, .ref a_cells, .int v_torn])), (a_later, .inl (cyI, 6, .inl c_later)), (a_outs, .inl (cyI, 6, .inl c_outs)), (a_placeOf, .inl (cyI, 6, .inl c_placeOf))] → va_S A s.heap H locs → lv_has ls 5 [(0, .ref h0), (1, .int x1), (2, .int x2)] → W p l e rmX9_isAhead s m av below meth c H locs 0 0 Q (F0 m 16 ls [.int s0]) := by
    intro s0 H locs ls hf hP hD hS hl
    unfold fX9_isAhead_16 at hf
    refine lv_istore_n (lv' := [(3, .int s0), (0, .ref h0), (1, .int x1), (2, .int x2)]) hx hb dX9_isAhead_16 rfl hl (by decide) rfl (fun ls hl => ?_)
    refine lv_aload_n hx hb dX9_isAhead_17 rfl (lv_at hl 1 rfl) ?_
    refine va_get (D := D) (ci := 9) (v := .ref a_outs) (C := RX9) (T := TX9) (N := 52) hx hb hL inlX9 hown hK.1 hP 0 rfl rfl 30 (by decide) w2 (fun _ h9 => h9) rfl dX9_isAhead_18 ?_
    refine lv_iload_n hx hb dX9_isAhead_21 rfl (lv_at hl 3 rfl) ?_
    obtain ⟨h22, hf⟩ := pg_some hf
    refine va_iald hx hb hK.1 hP 2 0 rfl rfl h22 dX9_isAhead_22 ?_
    refine lv_bipush (v := (-4)) hx hb dX9_isAhead_23 (by decide) ?_
    refine lv_icmp_eq (tgt := 32) hx hb dX9_isAhead_25 (by decide) (fun c25 => ?_) (fun c25 => ?_)
    · have hf := pif_t c25 hf
      refine lv_iconst (v := 0) hx hb dX9_isAhead_32 (by decide) ?_
      exact hB33 s0 0 H locs ls hf hP hD hS (lv_sub hl [1, 2, 3, 0] rfl)
    · have hf := pif_f c25 hf
      refine lv_iconst (v := 1) hx hb dX9_isAhead_28 (by decide) ?_
      refine lv_goto (tgt := 33) hx hb dX9_isAhead_29 (by decide) ?_
      exact hB33 s0 1 H locs ls hf hP hD hS (lv_sub hl [1, 2, 3, 0] rfl)
  unfold fX9_isAhead at hf
  obtain ⟨H, hH⟩ : ∃ H : Heap, H = s.heap := ⟨_, rfl⟩
  obtain ⟨locs, hlo⟩ : ∃ locs : List Loc, locs = [] := ⟨_, rfl⟩
  have hP : va_P D vwCl [(h0, .inr (9, [.ref a_tape, .int v_taped, .int v_fault, .int v_wrong, .int v_wrongAt, .int v_spot, .int v_place, .int v_token, .int v_value, .ref a_cuts, .ref a_letters, .ref a_kinds, .ref a_holds, .ref a_reads, .int v_toldOnes, .int v_isBehind, .int v_readGames, .ref a_readFirst, .ref a_readSecond, .ref a_firsts, .ref a_seconds, .ref a_goes, .ref a_many, .int v_hasRule, .int v_hasSides, .ref a_force, .ref a_won, .ref a_sideAt, .ref a_placeOf, .ref a_chooser, .ref a_outs, .ref a_later, .ref a_payOf, .ref a_opens, .int v_open, .long v_sumUp, .long v_sumDown, .ref a_tree, .int v_pair, .int v_isPair, .long v_leaves, .int v_looked, .int v_wantedMany, .int v_wantedFirst, .int v_seed, .ref a_lastOnes, .ref a_firstOnes, .int v_widest, .ref a_lanes, .ref a_lengths, .ref a_cells, .int v_torn])), (a_later, .inl (cyI, 6, .inl c_later)), (a_outs, .inl (cyI, 6, .inl c_outs)), (a_placeOf, .inl (cyI, 6, .inl c_placeOf))] H := by rw [hH]; exact hP
  have hS : va_S A s.heap H locs := by rw [hH, hlo]; exact hS
  suffices hw : W p l e rmX9_isAhead s m av below meth c H locs 0 0 Q (F0 m 0 ls []) by rw [hH, hlo] at hw; exact hw
  refine lv_aload_n hx hb dX9_isAhead_0 rfl (lv_at hl 0 rfl) ?_
  refine va_get (D := D) (ci := 9) (v := .ref a_outs) (C := RX9) (T := TX9) (N := 52) hx hb hL inlX9 hown hK.1 hP 0 rfl rfl 30 (by decide) w2 (fun _ h9 => h9) rfl dX9_isAhead_1 ?_
  refine lv_iload_n hx hb dX9_isAhead_4 rfl (lv_at hl 1 rfl) ?_
  obtain ⟨h5, hf⟩ := pg_some hf
  refine va_iald hx hb hK.1 hP 2 0 rfl rfl h5 dX9_isAhead_5 ?_
  refine lv_bipush (v := (-4)) hx hb dX9_isAhead_6 (by decide) ?_
  refine lv_icmp_eq (tgt := 15) hx hb dX9_isAhead_8 (by decide) (fun c8 => ?_) (fun c8 => ?_)
  · have hf := pif_t c8 hf
    refine lv_iconst (v := 0) hx hb dX9_isAhead_15 (by decide) ?_
    exact hB16 0 H locs ls hf hP hD hS (lv_sub hl [0, 1, 2] rfl)
  · have hf := pif_f c8 hf
    refine lv_iconst (v := 1) hx hb dX9_isAhead_11 (by decide) ?_
    refine lv_goto (tgt := 16) hx hb dX9_isAhead_12 (by decide) ?_
    exact hB16 1 H locs ls hf hP hD hS (lv_sub hl [0, 1, 2] rfl)
