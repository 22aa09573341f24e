abbrev rmX4_settle : Room := { frames := 1, cells := 0, slots := 0, locals := 21 }
set_option maxHeartbeats 40000000 in
set_option maxRecDepth 100000 in
theorem mX4_settle (l : Launch) (D : va_G) (cyI cyJ cyB cyS : ClassId) (N : Nat) (sz : Nat) (h0 : Nat) (a_order : Nat) (a_p1 : Nat) (a_p1_ending : Nat) (a_p1_first : Nat) (a_p1_second : Nat) (a_seat : Nat) (a_won : Nat) (a_outAt : Nat) (a_merit : Nat) (a_toCome : Nat) (a_turn : Nat) (v_sides : Int32) (c_order : Nat → Int32) (v_p1_size : Int32) (c_p1_ending : Nat → Int32) (c_p1_first : Nat → Int32) (c_p1_second : Nat → Int32) (c_seat : Nat → Int32) (c_won : Nat → Int32) (x2 : Int32) (q : Int32 × (Nat → Int32) × (Nat → Int32) × (Nat → Int32)) (hf : fX4_settle N v_sides c_order v_p1_size c_p1_ending c_p1_first c_p1_second c_seat c_won x2 = some q) : Met l yX4_settle (wS yX4_settle cX4_settle 5 none) rmX4_settle (va_Pc [.ref h0, .ref a_p1, .int x2] (PP D cyI cyJ cyB cyS [(h0, .inr (4, [.ref a_won, .ref a_order, .ref a_seat, .ref a_outAt, .ref a_merit, .ref a_toCome, .ref a_turn, .int v_sides])), (a_order, .inl (cyI, 6, .inl c_order)), (a_p1, .inr (0, [.ref a_p1_first, .ref a_p1_second, .ref a_p1_ending, .int v_p1_size])), (a_p1_ending, .inl (cyI, 30, .inl c_p1_ending)), (a_p1_first, .inl (cyI, 30, .inl c_p1_first)), (a_p1_second, .inl (cyI, 30, .inl c_p1_second)), (a_seat, .inl (cyI, 6, .inl c_seat)), (a_won, .inl (cyI, 6, .inl c_won))] sz)) (QV D [(h0, .inr (4, [.ref a_won, .ref a_order, .ref a_seat, .ref a_outAt, .ref a_merit, .ref a_toCome, .ref a_turn, .int q.1])), (a_order, .inl (cyI, 6, .inl q.2.1)), (a_p1, .inr (0, [.ref a_p1_first, .ref a_p1_second, .ref a_p1_ending, .int v_p1_size])), (a_p1_ending, .inl (cyI, 30, .inl c_p1_ending)), (a_p1_first, .inl (cyI, 30, .inl c_p1_first)), (a_p1_second, .inl (cyI, 30, .inl c_p1_second)), (a_seat, .inl (cyI, 6, .inl q.2.2.1)), (a_won, .inl (cyI, 6, .inl q.2.2.2))] (va_A [(h0, .inr (4, [.ref a_won, .ref a_order, .ref a_seat, .ref a_outAt, .ref a_merit, .ref a_toCome, .ref a_turn, .int v_sides])), (a_order, .inl (cyI, 6, .inl c_order)), (a_p1, .inr (0, [.ref a_p1_first, .ref a_p1_second, .ref a_p1_ending, .int v_p1_size])), (a_p1_ending, .inl (cyI, 30, .inl c_p1_ending)), (a_p1_first, .inl (cyI, 30, .inl c_p1_first)), (a_p1_second, .inl (cyI, 30, .inl c_p1_second)), (a_seat, .inl (cyI, 6, .inl c_seat)), (a_won, .inl (cyI, 6, .inl c_won))] sz)) 0 0 (va_A [(h0, .inr (4, [.ref a_won, .ref a_order, .ref a_seat, .ref a_outAt, .ref a_merit, .ref a_toCome, .ref a_turn, .int v_sides])), (a_order, .inl (cyI, 6, .inl c_order)), (a_p1, .inr (0, [.ref a_p1_first, .ref a_p1_second, .ref a_p1_ending, .int v_p1_size])), (a_p1_ending, .inl (cyI, 30, .inl c_p1_ending)), (a_p1_first, .inl (cyI, 30, .inl c_p1_first)), (a_p1_second, .inl (cyI, 30, .inl c_p1_second)), (a_seat, .inl (cyI, 6, .inl c_seat)), (a_won, .inl (cyI, 6, .inl c_won))] sz) := by
  refine Met.ofW (cc := cX4_settle) (maxL := 5) (ret := none) (by decide) rfl ?_
  intro p e s m args below meth c s₁ B hml hv
  obtain ⟨rfl, hsz, hP, hK, hD0⟩ := hv
  have hx := B.exec
  have hb := B.bytes
  have hr := B.returns
  have hts := atoms_spec (ws := (wS yX4_settle cX4_settle 5 none)) B.pre
  have hown : s.vm.findClass RX4 = some m.cls := findClass_of_methodNamed B.named
  have hlocks := B.notSynchronized
  subst hsz
  have hD := hD0.self (sz := s.heap.size)
  refine w_nameQ (fun Q hQ => ?_)
  have hl := lv_entry ([.ref h0, .ref a_p1, .int x2] : List Value) (n := 5) (Nat.le_of_ble_eq_true rfl)
  rw [lg_entry_eq]
  generalize (lg_sl ([.ref h0, .ref a_p1, .int x2] : List Value) ++ List.replicate (5 - (lg_sl ([.ref h0, .ref a_p1, .int x2] : List Value)).length) Slot.unset).toArray = ls at hl ⊢
  have hl : lv_has ls 5 [(0, .ref h0), (1, .ref a_p1), (2, .int x2)] := hl
  generalize hAe : va_A [(h0, .inr (4, [.ref a_won, .ref a_order, .ref a_seat, .ref a_outAt, .ref a_merit, .ref a_toCome, .ref a_turn, .int v_sides])), (a_order, .inl (cyI, 6, .inl c_order)), (a_p1, .inr (0, [.ref a_p1_first, .ref a_p1_second, .ref a_p1_ending, .int v_p1_size])), (a_p1_ending, .inl (cyI, 30, .inl c_p1_ending)), (a_p1_first, .inl (cyI, 30, .inl c_p1_first)), (a_p1_second, .inl (cyI, 30, .inl c_p1_second)), (a_seat, .inl (cyI, 6, .inl c_seat)), (a_won, .inl (cyI, 6, .inl c_won))] s.heap.size = A at hD hQ
  have hA : ∀ q : Nat, s.heap.size ≤ q → A q := fun q h => by rw [← hAe]; exact Or.inr h
  have hS : va_S A s.heap s.heap [] := va_S.rf
  generalize ([.ref h0, .ref a_p1, .int x2] : List Value).toArray = av at hts hQ ⊢
  have hL : ∀ w ∈ wsL_law, w.before av s = true := fun w h => hts w (List.mem_cons_of_mem _ h)
  have w0 := hL (.fieldLink RX4 15 "LosingLeague$Standing" "order" "[I") (hR3 12 rfl)
  have w1 := hL (.fieldLink RX4 9 "LosingLeague$Standing" "won" "[I") (hR3 11 rfl)
  have w2 := hL (.fieldLink RX4 33 "LosingLeague$Standing" "sides" "I") (hR22 21 rfl)
  have w3 := hL (.fieldLink RX4 18 "LosingLeague$Standing" "seat" "[I") (hR3 13 rfl)
  have w4 := hL (.fieldLink RX4 37 "LosingLeague$Games" "size" "I") (hR22 22 rfl)
  have w5 := hL (.fieldLink RX4 42 "LosingLeague$Games" "ending" "[I") (hR22 23 rfl)
  have hB62 : ∀ (k30 : Int32 → Int32 → (Nat → Int32) → (Nat → Int32) → (Nat → Int32) → Option (Int32 × (Nat → Int32) × (Nat → Int32) × (Nat → Int32))) (hk30 : ∀ (x3 : Int32) (v_sides : Int32) (c_order : Nat → Int32) (c_seat : Nat → Int32) (c_won : Nat → Int32) (H : Heap) (locs : List Loc) (ls : Array Slot), k30 x3 v_sides c_order c_seat c_won = some q → va_P D vwCl [(h0, .inr (4, [.ref a_won, .ref a_order, .ref a_seat, .ref a_outAt, .ref a_merit, .ref a_toCome, .ref a_turn, .int v_sides])), (a_order, .inl (cyI, 6, .inl c_order)), (a_p1, .inr (0, [.ref a_p1_first, .ref a_p1_second, .ref a_p1_ending, .int v_p1_size])), (a_p1_ending, .inl (cyI, 30, .inl c_p1_ending)), (a_p1_first, .inl (cyI, 30, .inl c_p1_first)), (a_p1_second, .inl (cyI, 30, .inl c_p1_second)), (a_seat, .inl (cyI, 6, .inl c_seat)), (a_won, .inl (cyI, 6, .inl c_won))] H → va_D A [(h0, .inr (4, [.ref a_won, .ref a_order, .ref a_seat, .ref a_outAt, .ref a_merit, .ref a_toCome, .ref a_turn, .int v_sides])), (a_order, .inl (cyI, 6, .inl c_order)), (a_p1, .inr (0, [.ref a_p1_first, .ref a_p1_second, .ref a_p1_ending, .int v_p1_size])), (a_p1_ending, .inl (cyI, 30, .inl c_p1_ending)), (a_p1_first, .inl (cyI, 30, .inl c_p1_first)), (a_p1_second, .inl (cyI, 30, .inl c_p1_second)), (a_seat, .inl (cyI, 6, .inl c_seat)), (a_won, .inl (cyI, 6, .inl c_won))] → va_S A s.heap H locs → lv_has ls 5 [(0, .ref h0), (1, .ref a_p1), (3, .int x3)] → W p l e rmX4_settle s m av below meth c H locs 0 0 Q (F0 m 30 ls [])), ∀ (x3 : Int32) (v_sides : Int32) (c_order : Nat → Int32) (c_seat : Nat → Int32) (c_won : Nat → Int32) (H : Heap) (locs : List Loc) (ls : Array Slot), fX4_settle_62 N v_p1_size c_p1_ending c_p1_first c_p1_second x2 k30 x3 v_sides c_order c_seat c_won = some q → va_P D vwCl [(h0, .inr (4, [.ref a_won, .ref a_order, .ref a_seat, .ref a_outAt, .ref a_merit, .ref a_toCome, .ref a_turn, .int v_sides])), (a_order, .inl (cyI, 6, .inl c_order)), (a_p1, .inr (0, [.ref a_p1_first, .ref a_p1_second, .ref a_p1_ending, .int v_p1_size])), (a_p1_ending, .inl (cyI, 30, .inl c_p1_ending)), (a_p1_first, .inl (cyI, 30, .inl c_p1_first)), (a_p1_second, .inl (cyI, 30, .inl c_p1_second)), (a_seat, .inl (cyI, 6, .inl c_seat)), (a_won, .inl (cyI, 6, .inl c_won))] H → va_D A [(h0, .inr (4, [.ref a_won, .ref a_order, .ref a_seat, .ref a_outAt, .ref a_merit, .ref a_toCome, .ref a_turn, .int v_sides])), (a_order, .inl (cyI, 6, .inl c_order)), (a_p1, .inr (0, [.ref a_p1_first, .ref a_p1_second, .ref a_p1_ending, .int v_p1_size])), (a_p1_ending, .inl (cyI, 30, .inl c_p1_ending)), (a_p1_first, .inl (cyI, 30, .inl c_p1_first)), (a_p1_second, .inl (cyI, 30, .inl c_p1_second)), (a_seat, .inl (cyI, 6, .inl c_seat)), (a_won, .inl (cyI, 6, .inl c_won))] → va_S A s.heap H locs → lv_has ls 5 [(0, .ref h0), (1, .ref a_p1), (3, .int x3)] → W p l e rmX4_settle s m av below meth c H locs 0 0 Q (F0 m 62 ls []) := by
    intro k30 hk30 x3 v_sides c_order c_seat c_won H locs ls hf hP hD hS hl
    unfold fX4_settle_62 at hf
    refine lv_iinc (v := x3 + 1) (lv' := [(3, .int (x3 + 1)), (0, .ref h0), (1, .ref a_p1)]) hx hb dX4_settle_62 hl (k := 2) rfl rfl (by decide) rfl (fun ls hl => ?_)
    refine lv_goto (tgt := 30) hx hb dX4_settle_65 (by decide) ?_
    exact hk30 (x3 + 1) v_sides c_order c_seat c_won H locs ls hf hP hD hS (lv_sub hl [1, 2, 0] rfl)
  have hB131 : ∀ (k70 : Int32 → Int32 → (Nat → Int32) → (Nat → Int32) → (Nat → Int32) → Option (Int32 × (Nat → Int32) × (Nat → Int32) × (Nat → Int32))) (hk70 : ∀ (x3 : Int32) (v_sides : Int32) (c_order : Nat → Int32) (c_seat : Nat → Int32) (c_won : Nat → Int32) (H : Heap) (locs : List Loc) (ls : Array Slot), k70 x3 v_sides c_order c_seat c_won = some q → va_P D vwCl [(h0, .inr (4, [.ref a_won, .ref a_order, .ref a_seat, .ref a_outAt, .ref a_merit, .ref a_toCome, .ref a_turn, .int v_sides])), (a_order, .inl (cyI, 6, .inl c_order)), (a_p1, .inr (0, [.ref a_p1_first, .ref a_p1_second, .ref a_p1_ending, .int v_p1_size])), (a_p1_ending, .inl (cyI, 30, .inl c_p1_ending)), (a_p1_first, .inl (cyI, 30, .inl c_p1_first)), (a_p1_second, .inl (cyI, 30, .inl c_p1_second)), (a_seat, .inl (cyI, 6, .inl c_seat)), (a_won, .inl (cyI, 6, .inl c_won))] H → va_D A [(h0, .inr (4, [.ref a_won, .ref a_order, .ref a_seat, .ref a_outAt, .ref a_merit, .ref a_toCome, .ref a_turn, .int v_sides])), (a_order, .inl (cyI, 6, .inl c_order)), (a_p1, .inr (0, [.ref a_p1_first, .ref a_p1_second, .ref a_p1_ending, .int v_p1_size])), (a_p1_ending, .inl (cyI, 30, .inl c_p1_ending)), (a_p1_first, .inl (cyI, 30, .inl c_p1_first)), (a_p1_second, .inl (cyI, 30, .inl c_p1_second)), (a_seat, .inl (cyI, 6, .inl c_seat)), (a_won, .inl (cyI, 6, .inl c_won))] → va_S A s.heap H locs → lv_has ls 5 [(0, .ref h0), (3, .int x3)] → W p l e rmX4_settle s m av below meth c H locs 0 0 Q (F0 m 70 ls [])), ∀ (x3 : Int32) (x4 : Int32) (v_sides : Int32) (c_order : Nat → Int32) (c_seat : Nat → Int32) (c_won : Nat → Int32) (H : Heap) (locs : List Loc) (ls : Array Slot), fX4_settle_131 N v_p1_size c_p1_ending c_p1_first c_p1_second x2 k70 x3 x4 v_sides c_order c_seat c_won = some q → va_P D vwCl [(h0, .inr (4, [.ref a_won, .ref a_order, .ref a_seat, .ref a_outAt, .ref a_merit, .ref a_toCome, .ref a_turn, .int v_sides])), (a_order, .inl (cyI, 6, .inl c_order)), (a_p1, .inr (0, [.ref a_p1_first, .ref a_p1_second, .ref a_p1_ending, .int v_p1_size])), (a_p1_ending, .inl (cyI, 30, .inl c_p1_ending)), (a_p1_first, .inl (cyI, 30, .inl c_p1_first)), (a_p1_second, .inl (cyI, 30, .inl c_p1_second)), (a_seat, .inl (cyI, 6, .inl c_seat)), (a_won, .inl (cyI, 6, .inl c_won))] H → va_D A [(h0, .inr (4, [.ref a_won, .ref a_order, .ref a_seat, .ref a_outAt, .ref a_merit, .ref a_toCome, .ref a_turn, .int v_sides])), (a_order, .inl (cyI, 6, .inl c_order)), (a_p1, .inr (0, [.ref a_p1_first, .ref a_p1_second, .ref a_p1_ending, .int v_p1_size])), (a_p1_ending, .inl (cyI, 30, .inl c_p1_ending)), (a_p1_first, .inl (cyI, 30, .inl c_p1_first)), (a_p1_second, .inl (cyI, 30, .inl c_p1_second)), (a_seat, .inl (cyI, 6, .inl c_seat)), (a_won, .inl (cyI, 6, .inl c_won))] → va_S A s.heap H locs → lv_has ls 5 [(0, .ref h0), (3, .int x3), (4, .int x4)] → W p l e rmX4_settle s m av below meth c H locs 0 0 Q (F0 m 131 ls []) := by
    intro k70 hk70 x3 x4 v_sides c_order c_seat c_won H locs ls hf hP hD hS hl
    unfold fX4_settle_131 at hf
    refine lv_aload_n hx hb dX4_settle_131 rfl (lv_at hl 0 rfl) ?_
    refine va_get (D := D) (ci := 4) (v := .ref a_order) (C := RX4) (T := TX4) (N := 8) hx hb hL inlX4 hown hK.1 hP 0 rfl rfl 1 (by decide) w0 (fun _ h9 => h9) rfl dX4_settle_132 ?_
    refine lv_iload hx hb dX4_settle_135 (lv_at hl 2 rfl) ?_
    refine lv_iload_n hx hb dX4_settle_137 rfl (lv_at hl 1 rfl) ?_
    obtain ⟨h138, hf⟩ := pg_some hf
    refine va_iast hx hb hK.1 hP hD hS 1 0 rfl rfl h138 dX4_settle_138 (fun H locs hP hD hS => ?_)
    have hP : va_P D vwCl [(h0, .inr (4, [.ref a_won, .ref a_order, .ref a_seat, .ref a_outAt, .ref a_merit, .ref a_toCome, .ref a_turn, .int v_sides])), (a_order, .inl (cyI, 6, .inl (upd c_order x4.toNatClampNeg x3))), (a_p1, .inr (0, [.ref a_p1_first, .ref a_p1_second, .ref a_p1_ending, .int v_p1_size])), (a_p1_ending, .inl (cyI, 30, .inl c_p1_ending)), (a_p1_first, .inl (cyI, 30, .inl c_p1_first)), (a_p1_second, .inl (cyI, 30, .inl c_p1_second)), (a_seat, .inl (cyI, 6, .inl c_seat)), (a_won, .inl (cyI, 6, .inl c_won))] H := hP
    have hD : va_D A [(h0, .inr (4, [.ref a_won, .ref a_order, .ref a_seat, .ref a_outAt, .ref a_merit, .ref a_toCome, .ref a_turn, .int v_sides])), (a_order, .inl (cyI, 6, .inl (upd c_order x4.toNatClampNeg x3))), (a_p1, .inr (0, [.ref a_p1_first, .ref a_p1_second, .ref a_p1_ending, .int v_p1_size])), (a_p1_ending, .inl (cyI, 30, .inl c_p1_ending)), (a_p1_first, .inl (cyI, 30, .inl c_p1_first)), (a_p1_second, .inl (cyI, 30, .inl c_p1_second)), (a_seat, .inl (cyI, 6, .inl c_seat)), (a_won, .inl (cyI, 6, .inl c_won))] := hD
    refine lv_iinc (v := x3 + 1) (lv' := [(3, .int (x3 + 1)), (0, .ref h0), (4, .int x4)]) hx hb dX4_settle_139 hl (k := 1) rfl rfl (by decide) rfl (fun ls hl => ?_)
    refine lv_goto (tgt := 70) hx hb dX4_settle_142 (by decide) ?_
    exact hk70 (x3 + 1) v_sides (upd c_order x4.toNatClampNeg x3) c_seat c_won H locs ls hf hP hD hS (lv_sub hl [1, 0] rfl)
  have hB81 : ∀ (k70 : Int32 → Int32 → (Nat → Int32) → (Nat → Int32) → (Nat → Int32) → Option (Int32 × (Nat → Int32) × (Nat → Int32) × (Nat → Int32))) (hk70 : ∀ (x3 : Int32) (v_sides : Int32) (c_order : Nat → Int32) (c_seat : Nat → Int32) (c_won : Nat → Int32) (H : Heap) (locs : List Loc) (ls : Array Slot), k70 x3 v_sides c_order c_seat c_won = some q → va_P D vwCl [(h0, .inr (4, [.ref a_won, .ref a_order, .ref a_seat, .ref a_outAt, .ref a_merit, .ref a_toCome, .ref a_turn, .int v_sides])), (a_order, .inl (cyI, 6, .inl c_order)), (a_p1, .inr (0, [.ref a_p1_first, .ref a_p1_second, .ref a_p1_ending, .int v_p1_size])), (a_p1_ending, .inl (cyI, 30, .inl c_p1_ending)), (a_p1_first, .inl (cyI, 30, .inl c_p1_first)), (a_p1_second, .inl (cyI, 30, .inl c_p1_second)), (a_seat, .inl (cyI, 6, .inl c_seat)), (a_won, .inl (cyI, 6, .inl c_won))] H → va_D A [(h0, .inr (4, [.ref a_won, .ref a_order, .ref a_seat, .ref a_outAt, .ref a_merit, .ref a_toCome, .ref a_turn, .int v_sides])), (a_order, .inl (cyI, 6, .inl c_order)), (a_p1, .inr (0, [.ref a_p1_first, .ref a_p1_second, .ref a_p1_ending, .int v_p1_size])), (a_p1_ending, .inl (cyI, 30, .inl c_p1_ending)), (a_p1_first, .inl (cyI, 30, .inl c_p1_first)), (a_p1_second, .inl (cyI, 30, .inl c_p1_second)), (a_seat, .inl (cyI, 6, .inl c_seat)), (a_won, .inl (cyI, 6, .inl c_won))] → va_S A s.heap H locs → lv_has ls 5 [(0, .ref h0), (3, .int x3)] → W p l e rmX4_settle s m av below meth c H locs 0 0 Q (F0 m 70 ls [])) (n : Nat), ∀ (x3 : Int32) (x4 : Int32) (v_sides : Int32) (c_order : Nat → Int32) (c_seat : Nat → Int32) (c_won : Nat → Int32) (H : Heap) (locs : List Loc) (ls : Array Slot), fX4_settle_81 N v_p1_size c_p1_ending c_p1_first c_p1_second x2 k70 n x3 x4 v_sides c_order c_seat c_won = some q → va_P D vwCl [(h0, .inr (4, [.ref a_won, .ref a_order, .ref a_seat, .ref a_outAt, .ref a_merit, .ref a_toCome, .ref a_turn, .int v_sides])), (a_order, .inl (cyI, 6, .inl c_order)), (a_p1, .inr (0, [.ref a_p1_first, .ref a_p1_second, .ref a_p1_ending, .int v_p1_size])), (a_p1_ending, .inl (cyI, 30, .inl c_p1_ending)), (a_p1_first, .inl (cyI, 30, .inl c_p1_first)), (a_p1_second, .inl (cyI, 30, .inl c_p1_second)), (a_seat, .inl (cyI, 6, .inl c_seat)), (a_won, .inl (cyI, 6, .inl c_won))] H → va_D A [(h0, .inr (4, [.ref a_won, .ref a_order, .ref a_seat, .ref a_outAt, .ref a_merit, .ref a_toCome, .ref a_turn, .int v_sides])), (a_order, .inl (cyI, 6, .inl c_order)), (a_p1, .inr (0, [.ref a_p1_first, .ref a_p1_second, .ref a_p1_ending, .int v_p1_size])), (a_p1_ending, .inl (cyI, 30, .inl c_p1_ending)), (a_p1_first, .inl (cyI, 30, .inl c_p1_first)), (a_p1_second, .inl (cyI, 30, .inl c_p1_second)), (a_seat, .inl (cyI, 6, .inl c_seat)), (a_won, .inl (cyI, 6, .inl c_won))] → va_S A s.heap H locs → lv_has ls 5 [(0, .ref h0), (3, .int x3), (4, .int x4)] → W p l e rmX4_settle s m av below meth c H locs 0 0 Q (F0 m 81 ls []) := by
    intro k70 hk70 n
    induction n with
    | zero => intro x3 x4 v_sides c_order c_seat c_won H locs ls hf; exact absurd hf (by simp [fX4_settle_81])
    | succ n hk81 =>
      intro x3 x4 v_sides c_order c_seat c_won H locs ls hf hP hD hS hl
      rw [fX4_settle_81] at hf
      refine lv_iload hx hb dX4_settle_81 (lv_at hl 2 rfl) ?_
      refine lv_if_le (tgt := 131) hx hb dX4_settle_83 (by decide) (fun c83 => ?_) (fun c83 => ?_)
      · have hf := pif_t c83 hf
        exact hB131 k70 hk70 x3 x4 v_sides c_order c_seat c_won H locs ls hf hP hD hS (lv_sub hl [0, 1, 2] rfl)
      · have hf := pif_f c83 hf
        refine lv_aload_n hx hb dX4_settle_86 rfl (lv_at hl 0 rfl) ?_
        refine va_get (D := D) (ci := 4) (v := .ref a_won) (C := RX4) (T := TX4) (N := 8) hx hb hL inlX4 hown hK.1 hP 0 rfl rfl 0 (by decide) w1 (fun _ h9 => h9) rfl dX4_settle_87 ?_
        refine lv_aload_n hx hb dX4_settle_90 rfl (lv_at hl 0 rfl) ?_
        refine va_get (D := D) (ci := 4) (v := .ref a_order) (C := RX4) (T := TX4) (N := 8) hx hb hL inlX4 hown hK.1 hP 0 rfl rfl 1 (by decide) w0 (fun _ h9 => h9) rfl dX4_settle_91 ?_
        refine lv_iload hx hb dX4_settle_94 (lv_at hl 2 rfl) ?_
        refine lv_iconst (v := 1) hx hb dX4_settle_96 (by decide) ?_
        refine lv_isub hx hb dX4_settle_97 ?_
        obtain ⟨h98, hf⟩ := pg_some hf
        refine va_iald hx hb hK.1 hP 1 0 rfl rfl h98 dX4_settle_98 ?_
        obtain ⟨h99, hf⟩ := pg_some hf
        refine va_iald hx hb hK.1 hP 7 0 rfl rfl h99 dX4_settle_99 ?_
        refine lv_aload_n hx hb dX4_settle_100 rfl (lv_at hl 0 rfl) ?_
        refine va_get (D := D) (ci := 4) (v := .ref a_won) (C := RX4) (T := TX4) (N := 8) hx hb hL inlX4 hown hK.1 hP 0 rfl rfl 0 (by decide) w1 (fun _ h9 => h9) rfl dX4_settle_101 ?_
        refine lv_iload_n hx hb dX4_settle_104 rfl (lv_at hl 1 rfl) ?_
        obtain ⟨h105, hf⟩ := pg_some hf
        refine va_iald hx hb hK.1 hP 7 0 rfl rfl h105 dX4_settle_105 ?_
        refine lv_icmp_ge (tgt := 131) hx hb dX4_settle_106 (by decide) (fun c106 => ?_) (fun c106 => ?_)
        · have hf := pif_t c106 hf
          exact hB131 k70 hk70 x3 x4 v_sides c_order c_seat c_won H locs ls hf hP hD hS (lv_sub hl [0, 1, 2] rfl)
        · have hf := pif_f c106 hf
          refine lv_aload_n hx hb dX4_settle_109 rfl (lv_at hl 0 rfl) ?_
          refine va_get (D := D) (ci := 4) (v := .ref a_order) (C := RX4) (T := TX4) (N := 8) hx hb hL inlX4 hown hK.1 hP 0 rfl rfl 1 (by decide) w0 (fun _ h9 => h9) rfl dX4_settle_110 ?_
          refine lv_iload hx hb dX4_settle_113 (lv_at hl 2 rfl) ?_
          refine lv_aload_n hx hb dX4_settle_115 rfl (lv_at hl 0 rfl) ?_
          refine va_get (D := D) (ci := 4) (v := .ref a_order) (C := RX4) (T := TX4) (N := 8) hx hb hL inlX4 hown hK.1 hP 0 rfl rfl 1 (by decide) w0 (fun _ h9 => h9) rfl dX4_settle_116 ?_
          refine lv_iload hx hb dX4_settle_119 (lv_at hl 2 rfl) ?_
          refine lv_iconst (v := 1) hx hb dX4_settle_121 (by decide) ?_
          refine lv_isub hx hb dX4_settle_122 ?_
          obtain ⟨h123, hf⟩ := pg_some hf
          refine va_iald hx hb hK.1 hP 1 0 rfl rfl h123 dX4_settle_123 ?_
          obtain ⟨h124, hf⟩ := pg_some hf
          refine va_iast hx hb hK.1 hP hD hS 1 0 rfl rfl h124 dX4_settle_124 (fun H locs hP hD hS => ?_)
          have hP : va_P D vwCl [(h0, .inr (4, [.ref a_won, .ref a_order, .ref a_seat, .ref a_outAt, .ref a_merit, .ref a_toCome, .ref a_turn, .int v_sides])), (a_order, .inl (cyI, 6, .inl (upd c_order x4.toNatClampNeg (c_order (x4 - 1).toNatClampNeg)))), (a_p1, .inr (0, [.ref a_p1_first, .ref a_p1_second, .ref a_p1_ending, .int v_p1_size])), (a_p1_ending, .inl (cyI, 30, .inl c_p1_ending)), (a_p1_first, .inl (cyI, 30, .inl c_p1_first)), (a_p1_second, .inl (cyI, 30, .inl c_p1_second)), (a_seat, .inl (cyI, 6, .inl c_seat)), (a_won, .inl (cyI, 6, .inl c_won))] H := hP
          have hD : va_D A [(h0, .inr (4, [.ref a_won, .ref a_order, .ref a_seat, .ref a_outAt, .ref a_merit, .ref a_toCome, .ref a_turn, .int v_sides])), (a_order, .inl (cyI, 6, .inl (upd c_order x4.toNatClampNeg (c_order (x4 - 1).toNatClampNeg)))), (a_p1, .inr (0, [.ref a_p1_first, .ref a_p1_second, .ref a_p1_ending, .int v_p1_size])), (a_p1_ending, .inl (cyI, 30, .inl c_p1_ending)), (a_p1_first, .inl (cyI, 30, .inl c_p1_first)), (a_p1_second, .inl (cyI, 30, .inl c_p1_second)), (a_seat, .inl (cyI, 6, .inl c_seat)), (a_won, .inl (cyI, 6, .inl c_won))] := hD
          refine lv_iinc (v := x4 + (-1)) (lv' := [(4, .int (x4 + (-1))), (0, .ref h0), (3, .int x3)]) hx hb dX4_settle_125 hl (k := 2) rfl rfl (by decide) rfl (fun ls hl => ?_)
          refine lv_goto (tgt := 81) hx hb dX4_settle_128 (by decide) ?_
          exact hk81 x3 (x4 + (-1)) v_sides (upd c_order x4.toNatClampNeg (c_order (x4 - 1).toNatClampNeg)) c_seat c_won H locs ls hf hP hD hS (lv_sub hl [1, 2, 0] rfl)
  have hB147 : ∀ (n : Nat), ∀ (x3 : Int32) (v_sides : Int32) (c_order : Nat → Int32) (c_seat : Nat → Int32) (c_won : Nat → Int32) (H : Heap) (locs : List Loc) (ls : Array Slot), fX4_settle_147 N v_p1_size c_p1_ending c_p1_first c_p1_second x2 n x3 v_sides c_order c_seat c_won = some q → va_P D vwCl [(h0, .inr (4, [.ref a_won, .ref a_order, .ref a_seat, .ref a_outAt, .ref a_merit, .ref a_toCome, .ref a_turn, .int v_sides])), (a_order, .inl (cyI, 6, .inl c_order)), (a_p1, .inr (0, [.ref a_p1_first, .ref a_p1_second, .ref a_p1_ending, .int v_p1_size])), (a_p1_ending, .inl (cyI, 30, .inl c_p1_ending)), (a_p1_first, .inl (cyI, 30, .inl c_p1_first)), (a_p1_second, .inl (cyI, 30, .inl c_p1_second)), (a_seat, .inl (cyI, 6, .inl c_seat)), (a_won, .inl (cyI, 6, .inl c_won))] H → va_D A [(h0, .inr (4, [.ref a_won, .ref a_order, .ref a_seat, .ref a_outAt, .ref a_merit, .ref a_toCome, .ref a_turn, .int v_sides])), (a_order, .inl (cyI, 6, .inl c_order)), (a_p1, .inr (0, [.ref a_p1_first, .ref a_p1_second, .ref a_p1_ending, .int v_p1_size])), (a_p1_ending, .inl (cyI, 30, .inl c_p1_ending)), (a_p1_first, .inl (cyI, 30, .inl c_p1_first)), (a_p1_second, .inl (cyI, 30, .inl c_p1_second)), (a_seat, .inl (cyI, 6, .inl c_seat)), (a_won, .inl (cyI, 6, .inl c_won))] → va_S A s.heap H locs → lv_has ls 5 [(0, .ref h0), (3, .int x3)] → W p l e rmX4_settle s m av below meth c H locs 0 0 Q (F0 m 147 ls []) := by
    intro n
    induction n with
    | zero => intro x3 v_sides c_order c_seat c_won H locs ls hf; exact absurd hf (by simp [fX4_settle_147])
    | succ n hk147 =>
      intro x3 v_sides c_order c_seat c_won H locs ls hf hP hD hS hl
      rw [fX4_settle_147] at hf
      refine lv_iload_n hx hb dX4_settle_147 rfl (lv_at hl 1 rfl) ?_
      refine lv_aload_n hx hb dX4_settle_148 rfl (lv_at hl 0 rfl) ?_
      refine va_get (D := D) (ci := 4) (v := .int v_sides) (C := RX4) (T := TX4) (N := 8) hx hb hL inlX4 hown hK.1 hP 0 rfl rfl 7 (by decide) w2 (fun _ h9 => h9) rfl dX4_settle_149 ?_
      refine lv_icmp_ge (tgt := 173) hx hb dX4_settle_152 (by decide) (fun c152 => ?_) (fun c152 => ?_)
      · have hf := pif_t c152 hf
        exact ret_v (q := q) (wp := fun q => [(h0, .inr (4, [.ref a_won, .ref a_order, .ref a_seat, .ref a_outAt, .ref a_merit, .ref a_toCome, .ref a_turn, .int q.1])), (a_order, .inl (cyI, 6, .inl q.2.1)), (a_p1, .inr (0, [.ref a_p1_first, .ref a_p1_second, .ref a_p1_ending, .int v_p1_size])), (a_p1_ending, .inl (cyI, 30, .inl c_p1_ending)), (a_p1_first, .inl (cyI, 30, .inl c_p1_first)), (a_p1_second, .inl (cyI, 30, .inl c_p1_second)), (a_seat, .inl (cyI, 6, .inl q.2.2.1)), (a_won, .inl (cyI, 6, .inl q.2.2.2))]) hQ hf hx hb hr hlocks hP hD hS dX4_settle_173
      · have hf := pif_f c152 hf
        refine lv_aload_n hx hb dX4_settle_155 rfl (lv_at hl 0 rfl) ?_
        refine va_get (D := D) (ci := 4) (v := .ref a_seat) (C := RX4) (T := TX4) (N := 8) hx hb hL inlX4 hown hK.1 hP 0 rfl rfl 2 (by decide) w3 (fun _ h9 => h9) rfl dX4_settle_156 ?_
        refine lv_aload_n hx hb dX4_settle_159 rfl (lv_at hl 0 rfl) ?_
        refine va_get (D := D) (ci := 4) (v := .ref a_order) (C := RX4) (T := TX4) (N := 8) hx hb hL inlX4 hown hK.1 hP 0 rfl rfl 1 (by decide) w0 (fun _ h9 => h9) rfl dX4_settle_160 ?_
        refine lv_iload_n hx hb dX4_settle_163 rfl (lv_at hl 1 rfl) ?_
        obtain ⟨h164, hf⟩ := pg_some hf
        refine va_iald hx hb hK.1 hP 1 0 rfl rfl h164 dX4_settle_164 ?_
        refine lv_iload_n hx hb dX4_settle_165 rfl (lv_at hl 1 rfl) ?_
        obtain ⟨h166, hf⟩ := pg_some hf
        refine va_iast hx hb hK.1 hP hD hS 6 0 rfl rfl h166 dX4_settle_166 (fun H locs hP hD hS => ?_)
        have hP : va_P D vwCl [(h0, .inr (4, [.ref a_won, .ref a_order, .ref a_seat, .ref a_outAt, .ref a_merit, .ref a_toCome, .ref a_turn, .int v_sides])), (a_order, .inl (cyI, 6, .inl c_order)), (a_p1, .inr (0, [.ref a_p1_first, .ref a_p1_second, .ref a_p1_ending, .int v_p1_size])), (a_p1_ending, .inl (cyI, 30, .inl c_p1_ending)), (a_p1_first, .inl (cyI, 30, .inl c_p1_first)), (a_p1_second, .inl (cyI, 30, .inl c_p1_second)), (a_seat, .inl (cyI, 6, .inl (upd c_seat (c_order x3.toNatClampNeg).toNatClampNeg x3))), (a_won, .inl (cyI, 6, .inl c_won))] H := hP
        have hD : va_D A [(h0, .inr (4, [.ref a_won, .ref a_order, .ref a_seat, .ref a_outAt, .ref a_merit, .ref a_toCome, .ref a_turn, .int v_sides])), (a_order, .inl (cyI, 6, .inl c_order)), (a_p1, .inr (0, [.ref a_p1_first, .ref a_p1_second, .ref a_p1_ending, .int v_p1_size])), (a_p1_ending, .inl (cyI, 30, .inl c_p1_ending)), (a_p1_first, .inl (cyI, 30, .inl c_p1_first)), (a_p1_second, .inl (cyI, 30, .inl c_p1_second)), (a_seat, .inl (cyI, 6, .inl (upd c_seat (c_order x3.toNatClampNeg).toNatClampNeg x3))), (a_won, .inl (cyI, 6, .inl c_won))] := hD
        refine lv_iinc (v := x3 + 1) (lv' := [(3, .int (x3 + 1)), (0, .ref h0)]) hx hb dX4_settle_167 hl (k := 1) rfl rfl (by decide) rfl (fun ls hl => ?_)
        refine lv_goto (tgt := 147) hx hb dX4_settle_170 (by decide) ?_
        exact hk147 (x3 + 1) v_sides c_order (upd c_seat (c_order x3.toNatClampNeg).toNatClampNeg x3) c_won H locs ls hf hP hD hS (lv_sub hl [1, 0] rfl)
  have hB70 : ∀ (n : Nat), ∀ (x3 : Int32) (v_sides : Int32) (c_order : Nat → Int32) (c_seat : Nat → Int32) (c_won : Nat → Int32) (H : Heap) (locs : List Loc) (ls : Array Slot), fX4_settle_70 N v_p1_size c_p1_ending c_p1_first c_p1_second x2 n x3 v_sides c_order c_seat c_won = some q → va_P D vwCl [(h0, .inr (4, [.ref a_won, .ref a_order, .ref a_seat, .ref a_outAt, .ref a_merit, .ref a_toCome, .ref a_turn, .int v_sides])), (a_order, .inl (cyI, 6, .inl c_order)), (a_p1, .inr (0, [.ref a_p1_first, .ref a_p1_second, .ref a_p1_ending, .int v_p1_size])), (a_p1_ending, .inl (cyI, 30, .inl c_p1_ending)), (a_p1_first, .inl (cyI, 30, .inl c_p1_first)), (a_p1_second, .inl (cyI, 30, .inl c_p1_second)), (a_seat, .inl (cyI, 6, .inl c_seat)), (a_won, .inl (cyI, 6, .inl c_won))] H → va_D A [(h0, .inr (4, [.ref a_won, .ref a_order, .ref a_seat, .ref a_outAt, .ref a_merit, .ref a_toCome, .ref a_turn, .int v_sides])), (a_order, .inl (cyI, 6, .inl c_order)), (a_p1, .inr (0, [.ref a_p1_first, .ref a_p1_second, .ref a_p1_ending, .int v_p1_size])), (a_p1_ending, .inl (cyI, 30, .inl c_p1_ending)), (a_p1_first, .inl (cyI, 30, .inl c_p1_first)), (a_p1_second, .inl (cyI, 30, .inl c_p1_second)), (a_seat, .inl (cyI, 6, .inl c_seat)), (a_won, .inl (cyI, 6, .inl c_won))] → va_S A s.heap H locs → lv_has ls 5 [(0, .ref h0), (3, .int x3)] → W p l e rmX4_settle s m av below meth c H locs 0 0 Q (F0 m 70 ls []) := by
    intro n
    induction n with
    | zero => intro x3 v_sides c_order c_seat c_won H locs ls hf; exact absurd hf (by simp [fX4_settle_70])
    | succ n hk70 =>
      intro x3 v_sides c_order c_seat c_won H locs ls hf hP hD hS hl
      rw [fX4_settle_70] at hf
      refine lv_iload_n hx hb dX4_settle_70 rfl (lv_at hl 1 rfl) ?_
      refine lv_aload_n hx hb dX4_settle_71 rfl (lv_at hl 0 rfl) ?_
      refine va_get (D := D) (ci := 4) (v := .int v_sides) (C := RX4) (T := TX4) (N := 8) hx hb hL inlX4 hown hK.1 hP 0 rfl rfl 7 (by decide) w2 (fun _ h9 => h9) rfl dX4_settle_72 ?_
      refine lv_icmp_ge (tgt := 145) hx hb dX4_settle_75 (by decide) (fun c75 => ?_) (fun c75 => ?_)
      · have hf := pif_t c75 hf
        refine lv_iconst (v := 0) hx hb dX4_settle_145 (by decide) ?_
        refine lv_istore_n (lv' := [(3, .int 0), (0, .ref h0)]) hx hb dX4_settle_146 rfl hl (by decide) rfl (fun ls hl => ?_)
        exact hB147 N 0 v_sides c_order c_seat c_won H locs ls hf hP hD hS (lv_sub hl [1, 0] rfl)
      · have hf := pif_f c75 hf
        refine lv_iload_n hx hb dX4_settle_78 rfl (lv_at hl 1 rfl) ?_
        refine lv_istore (lv' := [(4, .int x3), (0, .ref h0), (3, .int x3)]) hx hb dX4_settle_79 hl (by decide) rfl (fun ls hl => ?_)
        exact hB81 (fX4_settle_70 N v_p1_size c_p1_ending c_p1_first c_p1_second x2 n) hk70 N x3 x3 v_sides c_order c_seat c_won H locs ls hf hP hD hS (lv_sub hl [1, 2, 0] rfl)
  have hB30 : ∀ (n : Nat), ∀ (x3 : Int32) (v_sides : Int32) (c_order : Nat → Int32) (c_seat : Nat → Int32) (c_won : Nat → Int32) (H : Heap) (locs : List Loc) (ls : Array Slot), fX4_settle_30 N v_p1_size c_p1_ending c_p1_first c_p1_second x2 n x3 v_sides c_order c_seat c_won = some q → va_P D vwCl [(h0, .inr (4, [.ref a_won, .ref a_order, .ref a_seat, .ref a_outAt, .ref a_merit, .ref a_toCome, .ref a_turn, .int v_sides])), (a_order, .inl (cyI, 6, .inl c_order)), (a_p1, .inr (0, [.ref a_p1_first, .ref a_p1_second, .ref a_p1_ending, .int v_p1_size])), (a_p1_ending, .inl (cyI, 30, .inl c_p1_ending)), (a_p1_first, .inl (cyI, 30, .inl c_p1_first)), (a_p1_second, .inl (cyI, 30, .inl c_p1_second)), (a_seat, .inl (cyI, 6, .inl c_seat)), (a_won, .inl (cyI, 6, .inl c_won))] H → va_D A [(h0, .inr (4, [.ref a_won, .ref a_order, .ref a_seat, .ref a_outAt, .ref a_merit, .ref a_toCome, .ref a_turn, .int v_sides])), (a_order, .inl (cyI, 6, .inl c_order)), (a_p1, .inr (0, [.ref a_p1_first, .ref a_p1_second, .ref a_p1_ending, .int v_p1_size])), (a_p1_ending, .inl (cyI, 30, .inl c_p1_ending)), (a_p1_first, .inl (cyI, 30, .inl c_p1_first)), (a_p1_second, .inl (cyI, 30, .inl c_p1_second)), (a_seat, .inl (cyI, 6, .inl c_seat)), (a_won, .inl (cyI, 6, .inl c_won))] → va_S A s.heap H locs → lv_has ls 5 [(0, .ref h0), (1, .ref a_p1), (3, .int x3)] → W p l e rmX4_settle s m av below meth c H locs 0 0 Q (F0 m 30 ls []) := by
    intro n
    induction n with
    | zero => intro x3 v_sides c_order c_seat c_won H locs ls hf; exact absurd hf (by simp [fX4_settle_30])
    | succ n hk30 =>
      intro x3 v_sides c_order c_seat c_won H locs ls hf hP hD hS hl
      rw [fX4_settle_30] at hf
      refine lv_iload_n hx hb dX4_settle_30 rfl (lv_at hl 2 rfl) ?_
      refine lv_aload_n hx hb dX4_settle_31 rfl (lv_at hl 1 rfl) ?_
      refine va_get (D := D) (ci := 0) (v := .int v_p1_size) (C := RX0) (T := TX0) (N := 4) hx hb hL inlX0 hown hK.1 hP 2 rfl rfl 3 (by decide) w4 (fun _ h9 => h9) rfl dX4_settle_32 ?_
      refine lv_icmp_ge (tgt := 68) hx hb dX4_settle_35 (by decide) (fun c35 => ?_) (fun c35 => ?_)
      · have hf := pif_t c35 hf
        refine lv_iconst (v := 0) hx hb dX4_settle_68 (by decide) ?_
        refine lv_istore_n (lv' := [(3, .int 0), (0, .ref h0), (1, .ref a_p1)]) hx hb dX4_settle_69 rfl hl (by decide) rfl (fun ls hl => ?_)
        exact hB70 N 0 v_sides c_order c_seat c_won H locs ls hf hP hD hS (lv_sub hl [1, 0] rfl)
      · have hf := pif_f c35 hf
        refine lv_aload_n hx hb dX4_settle_38 rfl (lv_at hl 1 rfl) ?_
        refine va_get (D := D) (ci := 0) (v := .ref a_p1_ending) (C := RX0) (T := TX0) (N := 4) hx hb hL inlX0 hown hK.1 hP 2 rfl rfl 2 (by decide) w5 (fun _ h9 => h9) rfl dX4_settle_39 ?_
        refine lv_iload_n hx hb dX4_settle_42 rfl (lv_at hl 2 rfl) ?_
        obtain ⟨h43, hf⟩ := pg_some hf
        refine va_iald hx hb hK.1 hP 3 0 rfl rfl h43 dX4_settle_43 ?_
        refine lv_iconst (v := 2) hx hb dX4_settle_44 (by decide) ?_
        refine lv_icmp_eq (tgt := 62) hx hb dX4_settle_45 (by decide) (fun c45 => ?_) (fun c45 => ?_)
        · have hf := pif_t c45 hf
          exact hB62 (fX4_settle_30 N v_p1_size c_p1_ending c_p1_first c_p1_second x2 n) hk30 x3 v_sides c_order c_seat c_won H locs ls hf hP hD hS (lv_sub hl [0, 1, 2] rfl)
        · have hf := pif_f c45 hf
          refine lv_aload_n hx hb dX4_settle_48 rfl (lv_at hl 0 rfl) ?_
          refine va_get (D := D) (ci := 4) (v := .ref a_won) (C := RX4) (T := TX4) (N := 8) hx hb hL inlX4 hown hK.1 hP 0 rfl rfl 0 (by decide) w1 (fun _ h9 => h9) rfl dX4_settle_49 ?_
          refine lv_aload_n hx hb dX4_settle_52 rfl (lv_at hl 1 rfl) ?_
          refine lv_iload_n hx hb dX4_settle_53 rfl (lv_at hl 2 rfl) ?_
          obtain ⟨q54, e54, hf⟩ := pb_some hf
          refine cc_i (wc := [(a_p1, .inr (0, [.ref a_p1_first, .ref a_p1_second, .ref a_p1_ending, .int v_p1_size])), (a_p1_ending, .inl (cyI, 30, .inl c_p1_ending)), (a_p1_first, .inl (cyI, 30, .inl c_p1_first)), (a_p1_second, .inl (cyI, 30, .inl c_p1_second))]) (wr := [(h0, .inr (4, [.ref a_won, .ref a_order, .ref a_seat, .ref a_outAt, .ref a_merit, .ref a_toCome, .ref a_turn, .int v_sides])), (a_order, .inl (cyI, 6, .inl c_order)), (a_seat, .inl (cyI, 6, .inl c_seat)), (a_won, .inl (cyI, 6, .inl c_won))]) (w1 := [(a_p1, .inr (0, [.ref a_p1_first, .ref a_p1_second, .ref a_p1_ending, .int v_p1_size])), (a_p1_ending, .inl (cyI, 30, .inl c_p1_ending)), (a_p1_first, .inl (cyI, 30, .inl c_p1_first)), (a_p1_second, .inl (cyI, 30, .inl c_p1_second))]) (wn := [(h0, .inr (4, [.ref a_won, .ref a_order, .ref a_seat, .ref a_outAt, .ref a_merit, .ref a_toCome, .ref a_turn, .int v_sides])), (a_order, .inl (cyI, 6, .inl c_order)), (a_p1, .inr (0, [.ref a_p1_first, .ref a_p1_second, .ref a_p1_ending, .int v_p1_size])), (a_p1_ending, .inl (cyI, 30, .inl c_p1_ending)), (a_p1_first, .inl (cyI, 30, .inl c_p1_first)), (a_p1_second, .inl (cyI, 30, .inl c_p1_second)), (a_seat, .inl (cyI, 6, .inl c_seat)), (a_won, .inl (cyI, 6, .inl c_won))]) hP hD hS hA [2, 3, 4, 5] [0, 1, 6, 7] [0, 1, 4, 5, 6, 7, 2, 3] rfl rfl rfl (by decide) rfl rfl (va_runV (C := RX0) (As := [.int x3]) (rest := [.ref a_won]) ⟨hx, hb, hml, hown, hL⟩ (mX0_winner l D cyI cyJ cyB cyS N H.size a_p1 a_p1_ending a_p1_first a_p1_second v_p1_size c_p1_ending c_p1_first c_p1_second x3 q54 e54) (cwV 1 hL (gV (hR23 0 rfl) (hR23 1 rfl) (hR23 2 rfl) (hR1 19 rfl) (hR23 3 rfl)) rfl rfl rfl (by decide +kernel) ⟨Nat.le_of_ble_eq_true rfl, Nat.le_of_ble_eq_true rfl⟩) (PP_preV (ci := 0) (q0 := 2) hP hD hK [2, 3, 4, 5] rfl rfl rfl rfl) rfl rfl hl.1 rfl (lv_room (Nat.le_of_ble_eq_true rfl)) dX4_settle_54 ⟨Nat.le_of_ble_eq_true rfl, Nat.le_of_ble_eq_true rfl⟩) (fun H locs hP hD hS => ?_)
          refine lv_dup2_11 hx hb dX4_settle_57 rfl rfl ?_
          obtain ⟨h58, hf⟩ := pg_some hf
          refine va_iald hx hb hK.1 hP 7 0 rfl rfl h58 dX4_settle_58 ?_
          refine lv_iconst (v := 1) hx hb dX4_settle_59 (by decide) ?_
          refine lv_iadd hx hb dX4_settle_60 ?_
          obtain ⟨h61, hf⟩ := pg_some hf
          refine va_iast hx hb hK.1 hP hD hS 7 0 rfl rfl h61 dX4_settle_61 (fun H locs hP hD hS => ?_)
          have hP : va_P D vwCl [(h0, .inr (4, [.ref a_won, .ref a_order, .ref a_seat, .ref a_outAt, .ref a_merit, .ref a_toCome, .ref a_turn, .int v_sides])), (a_order, .inl (cyI, 6, .inl c_order)), (a_p1, .inr (0, [.ref a_p1_first, .ref a_p1_second, .ref a_p1_ending, .int v_p1_size])), (a_p1_ending, .inl (cyI, 30, .inl c_p1_ending)), (a_p1_first, .inl (cyI, 30, .inl c_p1_first)), (a_p1_second, .inl (cyI, 30, .inl c_p1_second)), (a_seat, .inl (cyI, 6, .inl c_seat)), (a_won, .inl (cyI, 6, .inl (upd c_won q54.toNatClampNeg ((c_won q54.toNatClampNeg) + 1))))] H := hP
          have hD : va_D A [(h0, .inr (4, [.ref a_won, .ref a_order, .ref a_seat, .ref a_outAt, .ref a_merit, .ref a_toCome, .ref a_turn, .int v_sides])), (a_order, .inl (cyI, 6, .inl c_order)), (a_p1, .inr (0, [.ref a_p1_first, .ref a_p1_second, .ref a_p1_ending, .int v_p1_size])), (a_p1_ending, .inl (cyI, 30, .inl c_p1_ending)), (a_p1_first, .inl (cyI, 30, .inl c_p1_first)), (a_p1_second, .inl (cyI, 30, .inl c_p1_second)), (a_seat, .inl (cyI, 6, .inl c_seat)), (a_won, .inl (cyI, 6, .inl (upd c_won q54.toNatClampNeg ((c_won q54.toNatClampNeg) + 1))))] := hD
          exact hB62 (fX4_settle_30 N v_p1_size c_p1_ending c_p1_first c_p1_second x2 n) hk30 x3 v_sides c_order c_seat (upd c_won q54.toNatClampNeg ((c_won q54.toNatClampNeg) + 1)) H locs ls hf hP hD hS (lv_sub hl [0, 1, 2] rfl)
  have hB7 : ∀ (n : Nat), ∀ (x3 : Int32) (v_sides : Int32) (c_order : Nat → Int32) (c_seat : Nat → Int32) (c_won : Nat → Int32) (H : Heap) (locs : List Loc) (ls : Array Slot), fX4_settle_7 N v_p1_size c_p1_ending c_p1_first c_p1_second x2 n x3 v_sides c_order c_seat c_won = some q → va_P D vwCl [(h0, .inr (4, [.ref a_won, .ref a_order, .ref a_seat, .ref a_outAt, .ref a_merit, .ref a_toCome, .ref a_turn, .int v_sides])), (a_order, .inl (cyI, 6, .inl c_order)), (a_p1, .inr (0, [.ref a_p1_first, .ref a_p1_second, .ref a_p1_ending, .int v_p1_size])), (a_p1_ending, .inl (cyI, 30, .inl c_p1_ending)), (a_p1_first, .inl (cyI, 30, .inl c_p1_first)), (a_p1_second, .inl (cyI, 30, .inl c_p1_second)), (a_seat, .inl (cyI, 6, .inl c_seat)), (a_won, .inl (cyI, 6, .inl c_won))] H → va_D A [(h0, .inr (4, [.ref a_won, .ref a_order, .ref a_seat, .ref a_outAt, .ref a_merit, .ref a_toCome, .ref a_turn, .int v_sides])), (a_order, .inl (cyI, 6, .inl c_order)), (a_p1, .inr (0, [.ref a_p1_first, .ref a_p1_second, .ref a_p1_ending, .int v_p1_size])), (a_p1_ending, .inl (cyI, 30, .inl c_p1_ending)), (a_p1_first, .inl (cyI, 30, .inl c_p1_first)), (a_p1_second, .inl (cyI, 30, .inl c_p1_second)), (a_seat, .inl (cyI, 6, .inl c_seat)), (a_won, .inl (cyI, 6, .inl c_won))] → va_S A s.heap H locs → lv_has ls 5 [(0, .ref h0), (1, .ref a_p1), (3, .int x3)] → W p l e rmX4_settle s m av below meth c H locs 0 0 Q (F0 m 7 ls []) := by
    intro n
    induction n with
    | zero => intro x3 v_sides c_order c_seat c_won H locs ls hf; exact absurd hf (by simp [fX4_settle_7])
    | succ n hk7 =>
      intro x3 v_sides c_order c_seat c_won H locs ls hf hP hD hS hl
      rw [fX4_settle_7] at hf
      refine lv_iload_n hx hb dX4_settle_7 rfl (lv_at hl 2 rfl) ?_
      refine lv_aload_n hx hb dX4_settle_8 rfl (lv_at hl 0 rfl) ?_
      refine va_get (D := D) (ci := 4) (v := .int v_sides) (C := RX4) (T := TX4) (N := 8) hx hb hL inlX4 hown hK.1 hP 0 rfl rfl 7 (by decide) w2 (fun _ h9 => h9) rfl dX4_settle_9 ?_
      refine lv_icmp_ge (tgt := 28) hx hb dX4_settle_12 (by decide) (fun c12 => ?_) (fun c12 => ?_)
      · have hf := pif_t c12 hf
        refine lv_iconst (v := 0) hx hb dX4_settle_28 (by decide) ?_
        refine lv_istore_n (lv' := [(3, .int 0), (0, .ref h0), (1, .ref a_p1)]) hx hb dX4_settle_29 rfl hl (by decide) rfl (fun ls hl => ?_)
        exact hB30 N 0 v_sides c_order c_seat c_won H locs ls hf hP hD hS (lv_sub hl [1, 2, 0] rfl)
      · have hf := pif_f c12 hf
        refine lv_aload_n hx hb dX4_settle_15 rfl (lv_at hl 0 rfl) ?_
        refine va_get (D := D) (ci := 4) (v := .ref a_won) (C := RX4) (T := TX4) (N := 8) hx hb hL inlX4 hown hK.1 hP 0 rfl rfl 0 (by decide) w1 (fun _ h9 => h9) rfl dX4_settle_16 ?_
        refine lv_iload_n hx hb dX4_settle_19 rfl (lv_at hl 2 rfl) ?_
        refine lv_iconst (v := 0) hx hb dX4_settle_20 (by decide) ?_
        obtain ⟨h21, hf⟩ := pg_some hf
        refine va_iast hx hb hK.1 hP hD hS 7 0 rfl rfl h21 dX4_settle_21 (fun H locs hP hD hS => ?_)
        have hP : va_P D vwCl [(h0, .inr (4, [.ref a_won, .ref a_order, .ref a_seat, .ref a_outAt, .ref a_merit, .ref a_toCome, .ref a_turn, .int v_sides])), (a_order, .inl (cyI, 6, .inl c_order)), (a_p1, .inr (0, [.ref a_p1_first, .ref a_p1_second, .ref a_p1_ending, .int v_p1_size])), (a_p1_ending, .inl (cyI, 30, .inl c_p1_ending)), (a_p1_first, .inl (cyI, 30, .inl c_p1_first)), (a_p1_second, .inl (cyI, 30, .inl c_p1_second)), (a_seat, .inl (cyI, 6, .inl c_seat)), (a_won, .inl (cyI, 6, .inl (upd c_won x3.toNatClampNeg 0)))] H := hP
        have hD : va_D A [(h0, .inr (4, [.ref a_won, .ref a_order, .ref a_seat, .ref a_outAt, .ref a_merit, .ref a_toCome, .ref a_turn, .int v_sides])), (a_order, .inl (cyI, 6, .inl c_order)), (a_p1, .inr (0, [.ref a_p1_first, .ref a_p1_second, .ref a_p1_ending, .int v_p1_size])), (a_p1_ending, .inl (cyI, 30, .inl c_p1_ending)), (a_p1_first, .inl (cyI, 30, .inl c_p1_first)), (a_p1_second, .inl (cyI, 30, .inl c_p1_second)), (a_seat, .inl (cyI, 6, .inl c_seat)), (a_won, .inl (cyI, 6, .inl (upd c_won x3.toNatClampNeg 0)))] := hD
        refine lv_iinc (v := x3 + 1) (lv' := [(3, .int (x3 + 1)), (0, .ref h0), (1, .ref a_p1)]) hx hb dX4_settle_22 hl (k := 2) rfl rfl (by decide) rfl (fun ls hl => ?_)
        refine lv_goto (tgt := 7) hx hb dX4_settle_25 (by decide) ?_
        exact hk7 (x3 + 1) v_sides c_order c_seat (upd c_won x3.toNatClampNeg 0) H locs ls hf hP hD hS (lv_sub hl [1, 2, 0] rfl)
  unfold fX4_settle at hf
  obtain ⟨H, hH⟩ : ∃ H : Heap, H = s.heap := ⟨_, rfl⟩
  obtain ⟨locs, hlo⟩ : ∃ locs : List Loc, locs = [] := ⟨_, rfl⟩
  have hP : va_P D vwCl [(h0, .inr (4, [.ref a_won, .ref a_order, .ref a_seat, .ref a_outAt, .ref a_merit, .ref a_toCome, .ref a_turn, .int v_sides])), (a_order, .inl (cyI, 6, .inl c_order)), (a_p1, .inr (0, [.ref a_p1_first, .ref a_p1_second, .ref a_p1_ending, .int v_p1_size])), (a_p1_ending, .inl (cyI, 30, .inl c_p1_ending)), (a_p1_first, .inl (cyI, 30, .inl c_p1_first)), (a_p1_second, .inl (cyI, 30, .inl c_p1_second)), (a_seat, .inl (cyI, 6, .inl c_seat)), (a_won, .inl (cyI, 6, .inl c_won))] H := by rw [hH]; exact hP
  have hS : va_S A s.heap H locs := by rw [hH, hlo]; exact hS
  suffices hw : W p l e rmX4_settle s m av below meth c H locs 0 0 Q (F0 m 0 ls []) by rw [hH, hlo] at hw; exact hw
  refine lv_aload_n hx hb dX4_settle_0 rfl (lv_at hl 0 rfl) ?_
  refine lv_iload_n hx hb dX4_settle_1 rfl (lv_at hl 2 rfl) ?_
  refine va_put (D := D) (ci := 4) (v := .int x2) (ty := .int) (C := RX4) (T := TX4) (N := 8) hx hb hL inlX4 tyX4 tyX4_ok nmX4 hown hK.1 hP hD hS 0 rfl rfl 7 (by decide) w2 (fun _ h9 => h9) rfl (by decide +kernel) rfl rfl (Nat.le_of_ble_eq_true rfl) dX4_settle_2 (fun H locs hP hD hS => ?_)
  have hP : va_P D vwCl [(h0, .inr (4, [.ref a_won, .ref a_order, .ref a_seat, .ref a_outAt, .ref a_merit, .ref a_toCome, .ref a_turn, .int x2])), (a_order, .inl (cyI, 6, .inl c_order)), (a_p1, .inr (0, [.ref a_p1_first, .ref a_p1_second, .ref a_p1_ending, .int v_p1_size])), (a_p1_ending, .inl (cyI, 30, .inl c_p1_ending)), (a_p1_first, .inl (cyI, 30, .inl c_p1_first)), (a_p1_second, .inl (cyI, 30, .inl c_p1_second)), (a_seat, .inl (cyI, 6, .inl c_seat)), (a_won, .inl (cyI, 6, .inl c_won))] H := hP
  have hD : va_D A [(h0, .inr (4, [.ref a_won, .ref a_order, .ref a_seat, .ref a_outAt, .ref a_merit, .ref a_toCome, .ref a_turn, .int x2])), (a_order, .inl (cyI, 6, .inl c_order)), (a_p1, .inr (0, [.ref a_p1_first, .ref a_p1_second, .ref a_p1_ending, .int v_p1_size])), (a_p1_ending, .inl (cyI, 30, .inl c_p1_ending)), (a_p1_first, .inl (cyI, 30, .inl c_p1_first)), (a_p1_second, .inl (cyI, 30, .inl c_p1_second)), (a_seat, .inl (cyI, 6, .inl c_seat)), (a_won, .inl (cyI, 6, .inl c_won))] := hD
  refine lv_iconst (v := 0) hx hb dX4_settle_5 (by decide) ?_
  refine lv_istore_n (lv' := [(3, .int 0), (0, .ref h0), (1, .ref a_p1), (2, .int x2)]) hx hb dX4_settle_6 rfl hl (by decide) rfl (fun ls hl => ?_)
  exact hB7 N 0 x2 c_order c_seat c_won H locs ls hf hP hD hS (lv_sub hl [1, 2, 0] rfl)
abbrev rmX4_fromLast : Room := { frames := 0, cells := 0, slots := 0, locals := 0 }
set_option maxHeartbeats 40000000 in
set_option maxRecDepth 100000 in
theorem mX4_fromLast (l : Launch) (D : va_G) (cyI cyJ cyB cyS : ClassId) (N : Nat) (sz : Nat) (h0 : Nat) (a_order : Nat) (a_won : Nat) (a_seat : Nat) (a_outAt : Nat) (a_merit : Nat) (a_toCome : Nat) (a_turn : Nat) (v_sides : Int32) (c_order : Nat → Int32) (x1 : Int32) (q : Int32) (hf : fX4_fromLast N v_sides c_order x1 = some q) : Met l yX4_fromLast (wS yX4_fromLast cX4_fromLast 2 (some .int)) rmX4_fromLast (va_Pc [.ref h0, .int x1] (PP D cyI cyJ cyB cyS [(h0, .inr (4, [.ref a_won, .ref a_order, .ref a_seat, .ref a_outAt, .ref a_merit, .ref a_toCome, .ref a_turn, .int v_sides])), (a_order, .inl (cyI, 6, .inl c_order))] sz)) (QI q D [(h0, .inr (4, [.ref a_won, .ref a_order, .ref a_seat, .ref a_outAt, .ref a_merit, .ref a_toCome, .ref a_turn, .int v_sides])), (a_order, .inl (cyI, 6, .inl c_order))] (va_A [(h0, .inr (4, [.ref a_won, .ref a_order, .ref a_seat, .ref a_outAt, .ref a_merit, .ref a_toCome, .ref a_turn, .int v_sides])), (a_order, .inl (cyI, 6, .inl c_order))] sz)) 0 0 (va_A [(h0, .inr (4, [.ref a_won, .ref a_order, .ref a_seat, .ref a_outAt, .ref a_merit, .ref a_toCome, .ref a_turn, .int v_sides])), (a_order, .inl (cyI, 6, .inl c_order))] sz) := by
  refine Met.ofW (cc := cX4_fromLast) (maxL := 2) (ret := (some .int)) (by decide) rfl ?_
  intro p e s m args below meth c s₁ B hml hv
  obtain ⟨rfl, hsz, hP, hK, hD0⟩ := hv
  have hx := B.exec
  have hb := B.bytes
  have hr := B.returns
  have hts := atoms_spec (ws := (wS yX4_fromLast cX4_fromLast 2 (some .int))) B.pre
  have hown : s.vm.findClass RX4 = some m.cls := findClass_of_methodNamed B.named
  have hlocks := B.notSynchronized
  subst hsz
  have hD := hD0.self (sz := s.heap.size)
  refine w_nameQ (fun Q hQ => ?_)
  have hl := lv_entry ([.ref h0, .int x1] : List Value) (n := 2) (Nat.le_of_ble_eq_true rfl)
  rw [lg_entry_eq]
  generalize (lg_sl ([.ref h0, .int x1] : List Value) ++ List.replicate (2 - (lg_sl ([.ref h0, .int x1] : List Value)).length) Slot.unset).toArray = ls at hl ⊢
  have hl : lv_has ls 2 [(0, .ref h0), (1, .int x1)] := hl
  generalize hAe : va_A [(h0, .inr (4, [.ref a_won, .ref a_order, .ref a_seat, .ref a_outAt, .ref a_merit, .ref a_toCome, .ref a_turn, .int v_sides])), (a_order, .inl (cyI, 6, .inl c_order))] s.heap.size = A at hD hQ
  have hA : ∀ q : Nat, s.heap.size ≤ q → A q := fun q h => by rw [← hAe]; exact Or.inr h
  have hS : va_S A s.heap s.heap [] := va_S.rf
  generalize ([.ref h0, .int x1] : List Value).toArray = av at hts hQ ⊢
  have hL : ∀ w ∈ wsL_law, w.before av s = true := fun w h => hts w (List.mem_cons_of_mem _ h)
  have w0 := hL (.fieldLink RX4 15 "LosingLeague$Standing" "order" "[I") (hR3 12 rfl)
  have w1 := hL (.fieldLink RX4 33 "LosingLeague$Standing" "sides" "I") (hR22 21 rfl)
  unfold fX4_fromLast at hf
  obtain ⟨H, hH⟩ : ∃ H : Heap, H = s.heap := ⟨_, rfl⟩
  obtain ⟨locs, hlo⟩ : ∃ locs : List Loc, locs = [] := ⟨_, rfl⟩
  have hP : va_P D vwCl [(h0, .inr (4, [.ref a_won, .ref a_order, .ref a_seat, .ref a_outAt, .ref a_merit, .ref a_toCome, .ref a_turn, .int v_sides])), (a_order, .inl (cyI, 6, .inl c_order))] H := by rw [hH]; exact hP
  have hS : va_S A s.heap H locs := by rw [hH, hlo]; exact hS
  suffices hw : W p l e rmX4_fromLast s m av below meth c H locs 0 0 Q (F0 m 0 ls []) by rw [hH, hlo] at hw; exact hw
  refine lv_aload_n hx hb dX4_fromLast_0 rfl (lv_at hl 0 rfl) ?_
  refine va_get (D := D) (ci := 4) (v := .ref a_order) (C := RX4) (T := TX4) (N := 8) hx hb hL inlX4 hown hK.1 hP 0 rfl rfl 1 (by decide) w0 (fun _ h9 => h9) rfl dX4_fromLast_1 ?_
  refine lv_aload_n hx hb dX4_fromLast_4 rfl (lv_at hl 0 rfl) ?_
  refine va_get (D := D) (ci := 4) (v := .int v_sides) (C := RX4) (T := TX4) (N := 8) hx hb hL inlX4 hown hK.1 hP 0 rfl rfl 7 (by decide) w1 (fun _ h9 => h9) rfl dX4_fromLast_5 ?_
  refine lv_iconst (v := 1) hx hb dX4_fromLast_8 (by decide) ?_
  refine lv_isub hx hb dX4_fromLast_9 ?_
  refine lv_iload_n hx hb dX4_fromLast_10 rfl (lv_at hl 1 rfl) ?_
  refine lv_isub hx hb dX4_fromLast_11 ?_
  obtain ⟨h12, hf⟩ := pg_some hf
  refine va_iald hx hb hK.1 hP 1 0 rfl rfl h12 dX4_fromLast_12 ?_
  exact ret_i (q := q) (g := fun q => q) (wp := fun q => [(h0, .inr (4, [.ref a_won, .ref a_order, .ref a_seat, .ref a_outAt, .ref a_merit, .ref a_toCome, .ref a_turn, .int v_sides])), (a_order, .inl (cyI, 6, .inl c_order))]) hQ hf hx hb hr hlocks hP hD hS dX4_fromLast_13 rfl
abbrev rmX4_ballsOf : Room := { frames := 0, cells := 0, slots := 0, locals := 0 }
set_option maxHeartbeats 40000000 in
set_option maxRecDepth 100000 in
theorem mX4_ballsOf (l : Launch) (D : va_G) (cyI cyJ cyB cyS : ClassId) (N : Nat) (sz : Nat) (h0 : Nat) (a_p1 : Nat) (a_p1_balls : Nat) (a_seat : Nat) (a_won : Nat) (a_order : Nat) (a_outAt : Nat) (a_merit : Nat) (a_toCome : Nat) (a_turn : Nat) (a_p1_strength : Nat) (a_p1_placeWorth : Nat) (a_p1_choiceWorth : Nat) (a_p1_wheel : Nat) (v_sides : Int32) (v_p1_sides : Int32) (v_p1_kind : Int32) (v_p1_rounds : Int32) (c_p1_balls : Nat → Int32) (c_seat : Nat → Int32) (x2 : Int32) (q : Int32) (hf : fX4_ballsOf N v_sides c_p1_balls c_seat x2 = some q) : Met l yX4_ballsOf (wS yX4_ballsOf cX4_ballsOf 3 (some .int)) rmX4_ballsOf (va_Pc [.ref h0, .ref a_p1, .int x2] (PP D cyI cyJ cyB cyS [(h0, .inr (4, [.ref a_won, .ref a_order, .ref a_seat, .ref a_outAt, .ref a_merit, .ref a_toCome, .ref a_turn, .int v_sides])), (a_p1, .inr (2, [.ref a_p1_strength, .ref a_p1_placeWorth, .ref a_p1_choiceWorth, .ref a_p1_balls, .ref a_p1_wheel, .int v_p1_sides, .int v_p1_kind, .int v_p1_rounds])), (a_p1_balls, .inl (cyI, 6, .inl c_p1_balls)), (a_seat, .inl (cyI, 6, .inl c_seat))] sz)) (QI q D [(h0, .inr (4, [.ref a_won, .ref a_order, .ref a_seat, .ref a_outAt, .ref a_merit, .ref a_toCome, .ref a_turn, .int v_sides])), (a_p1, .inr (2, [.ref a_p1_strength, .ref a_p1_placeWorth, .ref a_p1_choiceWorth, .ref a_p1_balls, .ref a_p1_wheel, .int v_p1_sides, .int v_p1_kind, .int v_p1_rounds])), (a_p1_balls, .inl (cyI, 6, .inl c_p1_balls)), (a_seat, .inl (cyI, 6, .inl c_seat))] (va_A [(h0, .inr (4, [.ref a_won, .ref a_order, .ref a_seat, .ref a_outAt, .ref a_merit, .ref a_toCome, .ref a_turn, .int v_sides])), (a_p1, .inr (2, [.ref a_p1_strength, .ref a_p1_placeWorth, .ref a_p1_choiceWorth, .ref a_p1_balls, .ref a_p1_wheel, .int v_p1_sides, .int v_p1_kind, .int v_p1_rounds])), (a_p1_balls, .inl (cyI, 6, .inl c_p1_balls)), (a_seat, .inl (cyI, 6, .inl c_seat))] sz)) 0 0 (va_A [(h0, .inr (4, [.ref a_won, .ref a_order, .ref a_seat, .ref a_outAt, .ref a_merit, .ref a_toCome, .ref a_turn, .int v_sides])), (a_p1, .inr (2, [.ref a_p1_strength, .ref a_p1_placeWorth, .ref a_p1_choiceWorth, .ref a_p1_balls, .ref a_p1_wheel, .int v_p1_sides, .int v_p1_kind, .int v_p1_rounds])), (a_p1_balls, .inl (cyI, 6, .inl c_p1_balls)), (a_seat, .inl (cyI, 6, .inl c_seat))] sz) := by
  refine Met.ofW (cc := cX4_ballsOf) (maxL := 3) (ret := (some .int)) (by decide) rfl ?_
  intro p e s m args below meth c s₁ B hml hv
  obtain ⟨rfl, hsz, hP, hK, hD0⟩ := hv
  have hx := B.exec
  have hb := B.bytes
  have hr := B.returns
  have hts := atoms_spec (ws := (wS yX4_ballsOf cX4_ballsOf 3 (some .int))) B.pre
  have hown : s.vm.findClass RX4 = some m.cls := findClass_of_methodNamed B.named
  have hlocks := B.notSynchronized
  subst hsz
  have hD := hD0.self (sz := s.heap.size)
  refine w_nameQ (fun Q hQ => ?_)
  have hl := lv_entry ([.ref h0, .ref a_p1, .int x2] : List Value) (n := 3) (Nat.le_of_ble_eq_true rfl)
  rw [lg_entry_eq]
  generalize (lg_sl ([.ref h0, .ref a_p1, .int x2] : List Value) ++ List.replicate (3 - (lg_sl ([.ref h0, .ref a_p1, .int x2] : List Value)).length) Slot.unset).toArray = ls at hl ⊢
  have hl : lv_has ls 3 [(0, .ref h0), (1, .ref a_p1), (2, .int x2)] := hl
  generalize hAe : va_A [(h0, .inr (4, [.ref a_won, .ref a_order, .ref a_seat, .ref a_outAt, .ref a_merit, .ref a_toCome, .ref a_turn, .int v_sides])), (a_p1, .inr (2, [.ref a_p1_strength, .ref a_p1_placeWorth, .ref a_p1_choiceWorth, .ref a_p1_balls, .ref a_p1_wheel, .int v_p1_sides, .int v_p1_kind, .int v_p1_rounds])), (a_p1_balls, .inl (cyI, 6, .inl c_p1_balls)), (a_seat, .inl (cyI, 6, .inl c_seat))] s.heap.size = A at hD hQ
  have hA : ∀ q : Nat, s.heap.size ≤ q → A q := fun q h => by rw [← hAe]; exact Or.inr h
  have hS : va_S A s.heap s.heap [] := va_S.rf
  generalize ([.ref h0, .ref a_p1, .int x2] : List Value).toArray = av at hts hQ ⊢
  have hL : ∀ w ∈ wsL_law, w.before av s = true := fun w h => hts w (List.mem_cons_of_mem _ h)
  have w0 := hL (.fieldLink RX4 49 "LosingLeague$Rules" "balls" "[I") (hR28 14 rfl)
  have w1 := hL (.fieldLink RX4 33 "LosingLeague$Standing" "sides" "I") (hR22 21 rfl)
  have w2 := hL (.fieldLink RX4 18 "LosingLeague$Standing" "seat" "[I") (hR3 13 rfl)
  unfold fX4_ballsOf at hf
  obtain ⟨H, hH⟩ : ∃ H : Heap, H = s.heap := ⟨_, rfl⟩
  obtain ⟨locs, hlo⟩ : ∃ locs : List Loc, locs = [] := ⟨_, rfl⟩
  have hP : va_P D vwCl [(h0, .inr (4, [.ref a_won, .ref a_order, .ref a_seat, .ref a_outAt, .ref a_merit, .ref a_toCome, .ref a_turn, .int v_sides])), (a_p1, .inr (2, [.ref a_p1_strength, .ref a_p1_placeWorth, .ref a_p1_choiceWorth, .ref a_p1_balls, .ref a_p1_wheel, .int v_p1_sides, .int v_p1_kind, .int v_p1_rounds])), (a_p1_balls, .inl (cyI, 6, .inl c_p1_balls)), (a_seat, .inl (cyI, 6, .inl c_seat))] H := by rw [hH]; exact hP
  have hS : va_S A s.heap H locs := by rw [hH, hlo]; exact hS
  suffices hw : W p l e rmX4_ballsOf s m av below meth c H locs 0 0 Q (F0 m 0 ls []) by rw [hH, hlo] at hw; exact hw
  refine lv_aload_n hx hb dX4_ballsOf_0 rfl (lv_at hl 1 rfl) ?_
  refine va_get (D := D) (ci := 2) (v := .ref a_p1_balls) (C := RX2) (T := TX2) (N := 8) hx hb hL inlX2 hown hK.1 hP 1 rfl rfl 3 (by decide) w0 (fun _ h9 => h9) rfl dX4_ballsOf_1 ?_
  refine lv_aload_n hx hb dX4_ballsOf_4 rfl (lv_at hl 0 rfl) ?_
  refine va_get (D := D) (ci := 4) (v := .int v_sides) (C := RX4) (T := TX4) (N := 8) hx hb hL inlX4 hown hK.1 hP 0 rfl rfl 7 (by decide) w1 (fun _ h9 => h9) rfl dX4_ballsOf_5 ?_
  refine lv_iconst (v := 1) hx hb dX4_ballsOf_8 (by decide) ?_
  refine lv_isub hx hb dX4_ballsOf_9 ?_
  refine lv_aload_n hx hb dX4_ballsOf_10 rfl (lv_at hl 0 rfl) ?_
  refine va_get (D := D) (ci := 4) (v := .ref a_seat) (C := RX4) (T := TX4) (N := 8) hx hb hL inlX4 hown hK.1 hP 0 rfl rfl 2 (by decide) w2 (fun _ h9 => h9) rfl dX4_ballsOf_11 ?_
  refine lv_iload_n hx hb dX4_ballsOf_14 rfl (lv_at hl 2 rfl) ?_
  obtain ⟨h15, hf⟩ := pg_some hf
  refine va_iald hx hb hK.1 hP 3 0 rfl rfl h15 dX4_ballsOf_15 ?_
  refine lv_isub hx hb dX4_ballsOf_16 ?_
  obtain ⟨h17, hf⟩ := pg_some hf
  refine va_iald hx hb hK.1 hP 2 0 rfl rfl h17 dX4_ballsOf_17 ?_
  exact ret_i (q := q) (g := fun q => q) (wp := fun q => [(h0, .inr (4, [.ref a_won, .ref a_order, .ref a_seat, .ref a_outAt, .ref a_merit, .ref a_toCome, .ref a_turn, .int v_sides])), (a_p1, .inr (2, [.ref a_p1_strength, .ref a_p1_placeWorth, .ref a_p1_choiceWorth, .ref a_p1_balls, .ref a_p1_wheel, .int v_p1_sides, .int v_p1_kind, .int v_p1_rounds])), (a_p1_balls, .inl (cyI, 6, .inl c_p1_balls)), (a_seat, .inl (cyI, 6, .inl c_seat))]) hQ hf hx hb hr hlocks hP hD hS dX4_ballsOf_18 rfl
abbrev rmX4_countWin : Room := { frames := 0, cells := 0, slots := 0, locals := 0 }
set_option maxHeartbeats 40000000 in
set_option maxRecDepth 100000 in
theorem mX4_countWin (l : Launch) (D : va_G) (cyI cyJ cyB cyS : ClassId) (N : Nat) (sz : Nat) (h0 : Nat) (a_merit : Nat) (a_won : Nat) (a_order : Nat) (a_seat : Nat) (a_outAt : Nat) (a_toCome : Nat) (a_turn : Nat) (v_sides : Int32) (c_merit : Nat → Int32) (c_won : Nat → Int32) (x1 : Int32) (q : Int32 × (Nat → Int32) × (Nat → Int32)) (hf : fX4_countWin N c_merit c_won x1 = some q) : Met l yX4_countWin (wS yX4_countWin cX4_countWin 2 (some .int)) rmX4_countWin (va_Pc [.ref h0, .int x1] (PP D cyI cyJ cyB cyS [(h0, .inr (4, [.ref a_won, .ref a_order, .ref a_seat, .ref a_outAt, .ref a_merit, .ref a_toCome, .ref a_turn, .int v_sides])), (a_merit, .inl (cyI, 6, .inl c_merit)), (a_won, .inl (cyI, 6, .inl c_won))] sz)) (QI q.1 D [(h0, .inr (4, [.ref a_won, .ref a_order, .ref a_seat, .ref a_outAt, .ref a_merit, .ref a_toCome, .ref a_turn, .int v_sides])), (a_merit, .inl (cyI, 6, .inl q.2.1)), (a_won, .inl (cyI, 6, .inl q.2.2))] (va_A [(h0, .inr (4, [.ref a_won, .ref a_order, .ref a_seat, .ref a_outAt, .ref a_merit, .ref a_toCome, .ref a_turn, .int v_sides])), (a_merit, .inl (cyI, 6, .inl c_merit)), (a_won, .inl (cyI, 6, .inl c_won))] sz)) 0 0 (va_A [(h0, .inr (4, [.ref a_won, .ref a_order, .ref a_seat, .ref a_outAt, .ref a_merit, .ref a_toCome, .ref a_turn, .int v_sides])), (a_merit, .inl (cyI, 6, .inl c_merit)), (a_won, .inl (cyI, 6, .inl c_won))] sz) := by
  refine Met.ofW (cc := cX4_countWin) (maxL := 2) (ret := (some .int)) (by decide) rfl ?_
  intro p e s m args below meth c s₁ B hml hv
  obtain ⟨rfl, hsz, hP, hK, hD0⟩ := hv
  have hx := B.exec
  have hb := B.bytes
  have hr := B.returns
  have hts := atoms_spec (ws := (wS yX4_countWin cX4_countWin 2 (some .int))) B.pre
  have hown : s.vm.findClass RX4 = some m.cls := findClass_of_methodNamed B.named
  have hlocks := B.notSynchronized
  subst hsz
  have hD := hD0.self (sz := s.heap.size)
  refine w_nameQ (fun Q hQ => ?_)
  have hl := lv_entry ([.ref h0, .int x1] : List Value) (n := 2) (Nat.le_of_ble_eq_true rfl)
  rw [lg_entry_eq]
  generalize (lg_sl ([.ref h0, .int x1] : List Value) ++ List.replicate (2 - (lg_sl ([.ref h0, .int x1] : List Value)).length) Slot.unset).toArray = ls at hl ⊢
  have hl : lv_has ls 2 [(0, .ref h0), (1, .int x1)] := hl
  generalize hAe : va_A [(h0, .inr (4, [.ref a_won, .ref a_order, .ref a_seat, .ref a_outAt, .ref a_merit, .ref a_toCome, .ref a_turn, .int v_sides])), (a_merit, .inl (cyI, 6, .inl c_merit)), (a_won, .inl (cyI, 6, .inl c_won))] s.heap.size = A at hD hQ
  have hA : ∀ q : Nat, s.heap.size ≤ q → A q := fun q h => by rw [← hAe]; exact Or.inr h
  have hS : va_S A s.heap s.heap [] := va_S.rf
  generalize ([.ref h0, .int x1] : List Value).toArray = av at hts hQ ⊢
  have hL : ∀ w ∈ wsL_law, w.before av s = true := fun w h => hts w (List.mem_cons_of_mem _ h)
  have w0 := hL (.fieldLink RX4 9 "LosingLeague$Standing" "won" "[I") (hR3 11 rfl)
  have w1 := hL (.fieldLink RX4 24 "LosingLeague$Standing" "merit" "[I") (hR3 15 rfl)
  have hB30 : ∀ (c_merit : Nat → Int32) (c_won : Nat → Int32) (H : Heap) (locs : List Loc) (ls : Array Slot), fX4_countWin_30 N x1 c_merit c_won = some q → va_P D vwCl [(h0, .inr (4, [.ref a_won, .ref a_order, .ref a_seat, .ref a_outAt, .ref a_merit, .ref a_toCome, .ref a_turn, .int v_sides])), (a_merit, .inl (cyI, 6, .inl c_merit)), (a_won, .inl (cyI, 6, .inl c_won))] H → va_D A [(h0, .inr (4, [.ref a_won, .ref a_order, .ref a_seat, .ref a_outAt, .ref a_merit, .ref a_toCome, .ref a_turn, .int v_sides])), (a_merit, .inl (cyI, 6, .inl c_merit)), (a_won, .inl (cyI, 6, .inl c_won))] → va_S A s.heap H locs → lv_has ls 2 [(0, .ref h0), (1, .int x1)] → W p l e rmX4_countWin s m av below meth c H locs 0 0 Q (F0 m 30 ls []) := by
    intro c_merit c_won H locs ls hf hP hD hS hl
    unfold fX4_countWin_30 at hf
    refine lv_aload_n hx hb dX4_countWin_30 rfl (lv_at hl 0 rfl) ?_
    refine va_get (D := D) (ci := 4) (v := .ref a_won) (C := RX4) (T := TX4) (N := 8) hx hb hL inlX4 hown hK.1 hP 0 rfl rfl 0 (by decide) w0 (fun _ h9 => h9) rfl dX4_countWin_31 ?_
    refine lv_iload_n hx hb dX4_countWin_34 rfl (lv_at hl 1 rfl) ?_
    obtain ⟨h35, hf⟩ := pg_some hf
    refine va_iald hx hb hK.1 hP 2 0 rfl rfl h35 dX4_countWin_35 ?_
    exact ret_i (q := q) (g := fun q => q.1) (wp := fun q => [(h0, .inr (4, [.ref a_won, .ref a_order, .ref a_seat, .ref a_outAt, .ref a_merit, .ref a_toCome, .ref a_turn, .int v_sides])), (a_merit, .inl (cyI, 6, .inl q.2.1)), (a_won, .inl (cyI, 6, .inl q.2.2))]) hQ hf hx hb hr hlocks hP hD hS dX4_countWin_36 rfl
  unfold fX4_countWin at hf
  obtain ⟨H, hH⟩ : ∃ H : Heap, H = s.heap := ⟨_, rfl⟩
  obtain ⟨locs, hlo⟩ : ∃ locs : List Loc, locs = [] := ⟨_, rfl⟩
  have hP : va_P D vwCl [(h0, .inr (4, [.ref a_won, .ref a_order, .ref a_seat, .ref a_outAt, .ref a_merit, .ref a_toCome, .ref a_turn, .int v_sides])), (a_merit, .inl (cyI, 6, .inl c_merit)), (a_won, .inl (cyI, 6, .inl c_won))] H := by rw [hH]; exact hP
  have hS : va_S A s.heap H locs := by rw [hH, hlo]; exact hS
  suffices hw : W p l e rmX4_countWin s m av below meth c H locs 0 0 Q (F0 m 0 ls []) by rw [hH, hlo] at hw; exact hw
  refine lv_aload_n hx hb dX4_countWin_0 rfl (lv_at hl 0 rfl) ?_
  refine va_get (D := D) (ci := 4) (v := .ref a_won) (C := RX4) (T := TX4) (N := 8) hx hb hL inlX4 hown hK.1 hP 0 rfl rfl 0 (by decide) w0 (fun _ h9 => h9) rfl dX4_countWin_1 ?_
  refine lv_iload_n hx hb dX4_countWin_4 rfl (lv_at hl 1 rfl) ?_
  refine lv_dup2_11 hx hb dX4_countWin_5 rfl rfl ?_
  obtain ⟨h6, hf⟩ := pg_some hf
  refine va_iald hx hb hK.1 hP 2 0 rfl rfl h6 dX4_countWin_6 ?_
  refine lv_iconst (v := 1) hx hb dX4_countWin_7 (by decide) ?_
  refine lv_iadd hx hb dX4_countWin_8 ?_
  obtain ⟨h9, hf⟩ := pg_some hf
  refine va_iast hx hb hK.1 hP hD hS 2 0 rfl rfl h9 dX4_countWin_9 (fun H locs hP hD hS => ?_)
  have hP : va_P D vwCl [(h0, .inr (4, [.ref a_won, .ref a_order, .ref a_seat, .ref a_outAt, .ref a_merit, .ref a_toCome, .ref a_turn, .int v_sides])), (a_merit, .inl (cyI, 6, .inl c_merit)), (a_won, .inl (cyI, 6, .inl (upd c_won x1.toNatClampNeg ((c_won x1.toNatClampNeg) + 1))))] H := hP
  have hD : va_D A [(h0, .inr (4, [.ref a_won, .ref a_order, .ref a_seat, .ref a_outAt, .ref a_merit, .ref a_toCome, .ref a_turn, .int v_sides])), (a_merit, .inl (cyI, 6, .inl c_merit)), (a_won, .inl (cyI, 6, .inl (upd c_won x1.toNatClampNeg ((c_won x1.toNatClampNeg) + 1))))] := hD
  refine lv_aload_n hx hb dX4_countWin_10 rfl (lv_at hl 0 rfl) ?_
  refine va_get (D := D) (ci := 4) (v := .ref a_merit) (C := RX4) (T := TX4) (N := 8) hx hb hL inlX4 hown hK.1 hP 0 rfl rfl 4 (by decide) w1 (fun _ h9 => h9) rfl dX4_countWin_11 ?_
  refine lv_iload_n hx hb dX4_countWin_14 rfl (lv_at hl 1 rfl) ?_
  obtain ⟨h15, hf⟩ := pg_some hf
  refine va_iald hx hb hK.1 hP 1 0 rfl rfl h15 dX4_countWin_15 ?_
  refine lv_iconst (v := (-1)) hx hb dX4_countWin_16 (by decide) ?_
  refine lv_icmp_eq (tgt := 30) hx hb dX4_countWin_17 (by decide) (fun c17 => ?_) (fun c17 => ?_)
  · have hf := pif_t c17 hf
    exact hB30 c_merit (upd c_won x1.toNatClampNeg ((c_won x1.toNatClampNeg) + 1)) H locs ls hf hP hD hS (lv_sub hl [0, 1] rfl)
  · have hf := pif_f c17 hf
    refine lv_aload_n hx hb dX4_countWin_20 rfl (lv_at hl 0 rfl) ?_
    refine va_get (D := D) (ci := 4) (v := .ref a_merit) (C := RX4) (T := TX4) (N := 8) hx hb hL inlX4 hown hK.1 hP 0 rfl rfl 4 (by decide) w1 (fun _ h9 => h9) rfl dX4_countWin_21 ?_
    refine lv_iload_n hx hb dX4_countWin_24 rfl (lv_at hl 1 rfl) ?_
    refine lv_dup2_11 hx hb dX4_countWin_25 rfl rfl ?_
    obtain ⟨h26, hf⟩ := pg_some hf
    refine va_iald hx hb hK.1 hP 1 0 rfl rfl h26 dX4_countWin_26 ?_
    refine lv_iconst (v := 1) hx hb dX4_countWin_27 (by decide) ?_
    refine lv_iadd hx hb dX4_countWin_28 ?_
    obtain ⟨h29, hf⟩ := pg_some hf
    refine va_iast hx hb hK.1 hP hD hS 1 0 rfl rfl h29 dX4_countWin_29 (fun H locs hP hD hS => ?_)
    have hP : va_P D vwCl [(h0, .inr (4, [.ref a_won, .ref a_order, .ref a_seat, .ref a_outAt, .ref a_merit, .ref a_toCome, .ref a_turn, .int v_sides])), (a_merit, .inl (cyI, 6, .inl (upd c_merit x1.toNatClampNeg ((c_merit x1.toNatClampNeg) + 1)))), (a_won, .inl (cyI, 6, .inl (upd c_won x1.toNatClampNeg ((c_won x1.toNatClampNeg) + 1))))] H := hP
    have hD : va_D A [(h0, .inr (4, [.ref a_won, .ref a_order, .ref a_seat, .ref a_outAt, .ref a_merit, .ref a_toCome, .ref a_turn, .int v_sides])), (a_merit, .inl (cyI, 6, .inl (upd c_merit x1.toNatClampNeg ((c_merit x1.toNatClampNeg) + 1)))), (a_won, .inl (cyI, 6, .inl (upd c_won x1.toNatClampNeg ((c_won x1.toNatClampNeg) + 1))))] := hD
    exact hB30 (upd c_merit x1.toNatClampNeg ((c_merit x1.toNatClampNeg) + 1)) (upd c_won x1.toNatClampNeg ((c_won x1.toNatClampNeg) + 1)) H locs ls hf hP hD hS (lv_sub hl [0, 1] rfl)
abbrev rmX4_markOut : Room := { frames := 0, cells := 0, slots := 0, locals := 0 }
set_option maxHeartbeats 40000000 in
set_option maxRecDepth 100000 in
theorem mX4_markOut (l : Launch) (D : va_G) (cyI cyJ cyB cyS : ClassId) (N : Nat) (sz : Nat) (h0 : Nat) (a_merit : Nat) (a_outAt : Nat) (a_toCome : Nat) (a_won : Nat) (a_order : Nat) (a_seat : Nat) (a_turn : Nat) (v_sides : Int32) (c_merit : Nat → Int32) (c_outAt : Nat → Int32) (c_toCome : Nat → Int32) (c_won : Nat → Int32) (x1 : Int32) (x2 : Int32) (q : (Nat → Int32) × (Nat → Int32)) (hf : fX4_markOut N v_sides c_merit c_outAt c_toCome c_won x1 x2 = some q) : Met l yX4_markOut (wS yX4_markOut cX4_markOut 4 none) rmX4_markOut (va_Pc [.ref h0, .int x1, .int x2] (PP D cyI cyJ cyB cyS [(h0, .inr (4, [.ref a_won, .ref a_order, .ref a_seat, .ref a_outAt, .ref a_merit, .ref a_toCome, .ref a_turn, .int v_sides])), (a_merit, .inl (cyI, 6, .inl c_merit)), (a_outAt, .inl (cyI, 6, .inl c_outAt)), (a_toCome, .inl (cyI, 6, .inl c_toCome)), (a_won, .inl (cyI, 6, .inl c_won))] sz)) (QV D [(h0, .inr (4, [.ref a_won, .ref a_order, .ref a_seat, .ref a_outAt, .ref a_merit, .ref a_toCome, .ref a_turn, .int v_sides])), (a_merit, .inl (cyI, 6, .inl q.1)), (a_outAt, .inl (cyI, 6, .inl q.2)), (a_toCome, .inl (cyI, 6, .inl c_toCome)), (a_won, .inl (cyI, 6, .inl c_won))] (va_A [(h0, .inr (4, [.ref a_won, .ref a_order, .ref a_seat, .ref a_outAt, .ref a_merit, .ref a_toCome, .ref a_turn, .int v_sides])), (a_merit, .inl (cyI, 6, .inl c_merit)), (a_outAt, .inl (cyI, 6, .inl c_outAt)), (a_toCome, .inl (cyI, 6, .inl c_toCome)), (a_won, .inl (cyI, 6, .inl c_won))] sz)) 0 0 (va_A [(h0, .inr (4, [.ref a_won, .ref a_order, .ref a_seat, .ref a_outAt, .ref a_merit, .ref a_toCome, .ref a_turn, .int v_sides])), (a_merit, .inl (cyI, 6, .inl c_merit)), (a_outAt, .inl (cyI, 6, .inl c_outAt)), (a_toCome, .inl (cyI, 6, .inl c_toCome)), (a_won, .inl (cyI, 6, .inl c_won))] sz) := by
  refine Met.ofW (cc := cX4_markOut) (maxL := 4) (ret := none) (by decide) rfl ?_
  intro p e s m args below meth c s₁ B hml hv
  obtain ⟨rfl, hsz, hP, hK, hD0⟩ := hv
  have hx := B.exec
  have hb := B.bytes
  have hr := B.returns
  have hts := atoms_spec (ws := (wS yX4_markOut cX4_markOut 4 none)) B.pre
  have hown : s.vm.findClass RX4 = some m.cls := findClass_of_methodNamed B.named
  have hlocks := B.notSynchronized
  subst hsz
  have hD := hD0.self (sz := s.heap.size)
  refine w_nameQ (fun Q hQ => ?_)
  have hl := lv_entry ([.ref h0, .int x1, .int x2] : List Value) (n := 4) (Nat.le_of_ble_eq_true rfl)
  rw [lg_entry_eq]
  generalize (lg_sl ([.ref h0, .int x1, .int x2] : List Value) ++ List.replicate (4 - (lg_sl ([.ref h0, .int x1, .int x2] : List Value)).length) Slot.unset).toArray = ls at hl ⊢
  have hl : lv_has ls 4 [(0, .ref h0), (1, .int x1), (2, .int x2)] := hl
  generalize hAe : va_A [(h0, .inr (4, [.ref a_won, .ref a_order, .ref a_seat, .ref a_outAt, .ref a_merit, .ref a_toCome, .ref a_turn, .int v_sides])), (a_merit, .inl (cyI, 6, .inl c_merit)), (a_outAt, .inl (cyI, 6, .inl c_outAt)), (a_toCome, .inl (cyI, 6, .inl c_toCome)), (a_won, .inl (cyI, 6, .inl c_won))] s.heap.size = A at hD hQ
  have hA : ∀ q : Nat, s.heap.size ≤ q → A q := fun q h => by rw [← hAe]; exact Or.inr h
  have hS : va_S A s.heap s.heap [] := va_S.rf
  generalize ([.ref h0, .int x1, .int x2] : List Value).toArray = av at hts hQ ⊢
  have hL : ∀ w ∈ wsL_law, w.before av s = true := fun w h => hts w (List.mem_cons_of_mem _ h)
  have w0 := hL (.fieldLink RX4 33 "LosingLeague$Standing" "sides" "I") (hR22 21 rfl)
  have w1 := hL (.fieldLink RX4 21 "LosingLeague$Standing" "outAt" "[I") (hR3 14 rfl)
  have w2 := hL (.fieldLink RX4 9 "LosingLeague$Standing" "won" "[I") (hR3 11 rfl)
  have w3 := hL (.fieldLink RX4 27 "LosingLeague$Standing" "toCome" "[I") (hR3 16 rfl)
  have w4 := hL (.fieldLink RX4 24 "LosingLeague$Standing" "merit" "[I") (hR3 15 rfl)
  have hB52 : ∀ (k2 : Int32 → (Nat → Int32) → (Nat → Int32) → Option ((Nat → Int32) × (Nat → Int32))) (hk2 : ∀ (x3 : Int32) (c_merit : Nat → Int32) (c_outAt : Nat → Int32) (H : Heap) (locs : List Loc) (ls : Array Slot), k2 x3 c_merit c_outAt = some q → va_P D vwCl [(h0, .inr (4, [.ref a_won, .ref a_order, .ref a_seat, .ref a_outAt, .ref a_merit, .ref a_toCome, .ref a_turn, .int v_sides])), (a_merit, .inl (cyI, 6, .inl c_merit)), (a_outAt, .inl (cyI, 6, .inl c_outAt)), (a_toCome, .inl (cyI, 6, .inl c_toCome)), (a_won, .inl (cyI, 6, .inl c_won))] H → va_D A [(h0, .inr (4, [.ref a_won, .ref a_order, .ref a_seat, .ref a_outAt, .ref a_merit, .ref a_toCome, .ref a_turn, .int v_sides])), (a_merit, .inl (cyI, 6, .inl c_merit)), (a_outAt, .inl (cyI, 6, .inl c_outAt)), (a_toCome, .inl (cyI, 6, .inl c_toCome)), (a_won, .inl (cyI, 6, .inl c_won))] → va_S A s.heap H locs → lv_has ls 4 [(0, .ref h0), (1, .int x1), (2, .int x2), (3, .int x3)] → W p l e rmX4_markOut s m av below meth c H locs 0 0 Q (F0 m 2 ls [])), ∀ (x3 : Int32) (c_merit : Nat → Int32) (c_outAt : Nat → Int32) (H : Heap) (locs : List Loc) (ls : Array Slot), fX4_markOut_52 N v_sides c_toCome c_won x1 x2 k2 x3 c_merit c_outAt = some q → va_P D vwCl [(h0, .inr (4, [.ref a_won, .ref a_order, .ref a_seat, .ref a_outAt, .ref a_merit, .ref a_toCome, .ref a_turn, .int v_sides])), (a_merit, .inl (cyI, 6, .inl c_merit)), (a_outAt, .inl (cyI, 6, .inl c_outAt)), (a_toCome, .inl (cyI, 6, .inl c_toCome)), (a_won, .inl (cyI, 6, .inl c_won))] H → va_D A [(h0, .inr (4, [.ref a_won, .ref a_order, .ref a_seat, .ref a_outAt, .ref a_merit, .ref a_toCome, .ref a_turn, .int v_sides])), (a_merit, .inl (cyI, 6, .inl c_merit)), (a_outAt, .inl (cyI, 6, .inl c_outAt)), (a_toCome, .inl (cyI, 6, .inl c_toCome)), (a_won, .inl (cyI, 6, .inl c_won))] → va_S A s.heap H locs → lv_has ls 4 [(0, .ref h0), (1, .int x1), (2, .int x2), (3, .int x3)] → W p l e rmX4_markOut s m av below meth c H locs 0 0 Q (F0 m 52 ls []) := by
    intro k2 hk2 x3 c_merit c_outAt H locs ls hf hP hD hS hl
    unfold fX4_markOut_52 at hf
    refine lv_iinc (v := x3 + 1) (lv' := [(3, .int (x3 + 1)), (0, .ref h0), (1, .int x1), (2, .int x2)]) hx hb dX4_markOut_52 hl (k := 3) rfl rfl (by decide) rfl (fun ls hl => ?_)
    refine lv_goto (tgt := 2) hx hb dX4_markOut_55 (by decide) ?_
    exact hk2 (x3 + 1) c_merit c_outAt H locs ls hf hP hD hS (lv_sub hl [1, 2, 3, 0] rfl)
  have hB2 : ∀ (n : Nat), ∀ (x3 : Int32) (c_merit : Nat → Int32) (c_outAt : Nat → Int32) (H : Heap) (locs : List Loc) (ls : Array Slot), fX4_markOut_2 N v_sides c_toCome c_won x1 x2 n x3 c_merit c_outAt = some q → va_P D vwCl [(h0, .inr (4, [.ref a_won, .ref a_order, .ref a_seat, .ref a_outAt, .ref a_merit, .ref a_toCome, .ref a_turn, .int v_sides])), (a_merit, .inl (cyI, 6, .inl c_merit)), (a_outAt, .inl (cyI, 6, .inl c_outAt)), (a_toCome, .inl (cyI, 6, .inl c_toCome)), (a_won, .inl (cyI, 6, .inl c_won))] H → va_D A [(h0, .inr (4, [.ref a_won, .ref a_order, .ref a_seat, .ref a_outAt, .ref a_merit, .ref a_toCome, .ref a_turn, .int v_sides])), (a_merit, .inl (cyI, 6, .inl c_merit)), (a_outAt, .inl (cyI, 6, .inl c_outAt)), (a_toCome, .inl (cyI, 6, .inl c_toCome)), (a_won, .inl (cyI, 6, .inl c_won))] → va_S A s.heap H locs → lv_has ls 4 [(0, .ref h0), (1, .int x1), (2, .int x2), (3, .int x3)] → W p l e rmX4_markOut s m av below meth c H locs 0 0 Q (F0 m 2 ls []) := by
    intro n
    induction n with
    | zero => intro x3 c_merit c_outAt H locs ls hf; exact absurd hf (by simp [fX4_markOut_2])
    | succ n hk2 =>
      intro x3 c_merit c_outAt H locs ls hf hP hD hS hl
      rw [fX4_markOut_2] at hf
      refine lv_iload_n hx hb dX4_markOut_2 rfl (lv_at hl 3 rfl) ?_
      refine lv_aload_n hx hb dX4_markOut_3 rfl (lv_at hl 0 rfl) ?_
      refine va_get (D := D) (ci := 4) (v := .int v_sides) (C := RX4) (T := TX4) (N := 8) hx hb hL inlX4 hown hK.1 hP 0 rfl rfl 7 (by decide) w0 (fun _ h9 => h9) rfl dX4_markOut_4 ?_
      refine lv_icmp_ge (tgt := 58) hx hb dX4_markOut_7 (by decide) (fun c7 => ?_) (fun c7 => ?_)
      · have hf := pif_t c7 hf
        exact ret_v (q := q) (wp := fun q => [(h0, .inr (4, [.ref a_won, .ref a_order, .ref a_seat, .ref a_outAt, .ref a_merit, .ref a_toCome, .ref a_turn, .int v_sides])), (a_merit, .inl (cyI, 6, .inl q.1)), (a_outAt, .inl (cyI, 6, .inl q.2)), (a_toCome, .inl (cyI, 6, .inl c_toCome)), (a_won, .inl (cyI, 6, .inl c_won))]) hQ hf hx hb hr hlocks hP hD hS dX4_markOut_58
      · have hf := pif_f c7 hf
        refine lv_aload_n hx hb dX4_markOut_10 rfl (lv_at hl 0 rfl) ?_
        refine va_get (D := D) (ci := 4) (v := .ref a_outAt) (C := RX4) (T := TX4) (N := 8) hx hb hL inlX4 hown hK.1 hP 0 rfl rfl 3 (by decide) w1 (fun _ h9 => h9) rfl dX4_markOut_11 ?_
        refine lv_iload_n hx hb dX4_markOut_14 rfl (lv_at hl 3 rfl) ?_
        obtain ⟨h15, hf⟩ := pg_some hf
        refine va_iald hx hb hK.1 hP 2 0 rfl rfl h15 dX4_markOut_15 ?_
        refine lv_bipush (v := (-4)) hx hb dX4_markOut_16 (by decide) ?_
        refine lv_icmp_ne (tgt := 52) hx hb dX4_markOut_18 (by decide) (fun c18 => ?_) (fun c18 => ?_)
        · have hf := pif_f c18 hf
          exact hB52 (fX4_markOut_2 N v_sides c_toCome c_won x1 x2 n) hk2 x3 c_merit c_outAt H locs ls hf hP hD hS (lv_sub hl [0, 1, 2, 3] rfl)
        · have hf := pif_t c18 hf
          refine lv_aload_n hx hb dX4_markOut_21 rfl (lv_at hl 0 rfl) ?_
          refine va_get (D := D) (ci := 4) (v := .ref a_won) (C := RX4) (T := TX4) (N := 8) hx hb hL inlX4 hown hK.1 hP 0 rfl rfl 0 (by decide) w2 (fun _ h9 => h9) rfl dX4_markOut_22 ?_
          refine lv_iload_n hx hb dX4_markOut_25 rfl (lv_at hl 3 rfl) ?_
          obtain ⟨h26, hf⟩ := pg_some hf
          refine va_iald hx hb hK.1 hP 4 0 rfl rfl h26 dX4_markOut_26 ?_
          refine lv_aload_n hx hb dX4_markOut_27 rfl (lv_at hl 0 rfl) ?_
          refine va_get (D := D) (ci := 4) (v := .ref a_toCome) (C := RX4) (T := TX4) (N := 8) hx hb hL inlX4 hown hK.1 hP 0 rfl rfl 5 (by decide) w3 (fun _ h9 => h9) rfl dX4_markOut_28 ?_
          refine lv_iload_n hx hb dX4_markOut_31 rfl (lv_at hl 3 rfl) ?_
          obtain ⟨h32, hf⟩ := pg_some hf
          refine va_iald hx hb hK.1 hP 3 0 rfl rfl h32 dX4_markOut_32 ?_
          refine lv_iadd hx hb dX4_markOut_33 ?_
          refine lv_iload_n hx hb dX4_markOut_34 rfl (lv_at hl 2 rfl) ?_
          refine lv_icmp_ge (tgt := 52) hx hb dX4_markOut_35 (by decide) (fun c35 => ?_) (fun c35 => ?_)
          · have hf := pif_t c35 hf
            exact hB52 (fX4_markOut_2 N v_sides c_toCome c_won x1 x2 n) hk2 x3 c_merit c_outAt H locs ls hf hP hD hS (lv_sub hl [0, 1, 2, 3] rfl)
          · have hf := pif_f c35 hf
            refine lv_aload_n hx hb dX4_markOut_38 rfl (lv_at hl 0 rfl) ?_
            refine va_get (D := D) (ci := 4) (v := .ref a_outAt) (C := RX4) (T := TX4) (N := 8) hx hb hL inlX4 hown hK.1 hP 0 rfl rfl 3 (by decide) w1 (fun _ h9 => h9) rfl dX4_markOut_39 ?_
            refine lv_iload_n hx hb dX4_markOut_42 rfl (lv_at hl 3 rfl) ?_
            refine lv_iload_n hx hb dX4_markOut_43 rfl (lv_at hl 1 rfl) ?_
            obtain ⟨h44, hf⟩ := pg_some hf
            refine va_iast hx hb hK.1 hP hD hS 2 0 rfl rfl h44 dX4_markOut_44 (fun H locs hP hD hS => ?_)
            have hP : va_P D vwCl [(h0, .inr (4, [.ref a_won, .ref a_order, .ref a_seat, .ref a_outAt, .ref a_merit, .ref a_toCome, .ref a_turn, .int v_sides])), (a_merit, .inl (cyI, 6, .inl c_merit)), (a_outAt, .inl (cyI, 6, .inl (upd c_outAt x3.toNatClampNeg x1))), (a_toCome, .inl (cyI, 6, .inl c_toCome)), (a_won, .inl (cyI, 6, .inl c_won))] H := hP
            have hD : va_D A [(h0, .inr (4, [.ref a_won, .ref a_order, .ref a_seat, .ref a_outAt, .ref a_merit, .ref a_toCome, .ref a_turn, .int v_sides])), (a_merit, .inl (cyI, 6, .inl c_merit)), (a_outAt, .inl (cyI, 6, .inl (upd c_outAt x3.toNatClampNeg x1))), (a_toCome, .inl (cyI, 6, .inl c_toCome)), (a_won, .inl (cyI, 6, .inl c_won))] := hD
            refine lv_aload_n hx hb dX4_markOut_45 rfl (lv_at hl 0 rfl) ?_
            refine va_get (D := D) (ci := 4) (v := .ref a_merit) (C := RX4) (T := TX4) (N := 8) hx hb hL inlX4 hown hK.1 hP 0 rfl rfl 4 (by decide) w4 (fun _ h9 => h9) rfl dX4_markOut_46 ?_
            refine lv_iload_n hx hb dX4_markOut_49 rfl (lv_at hl 3 rfl) ?_
            refine lv_iconst (v := 0) hx hb dX4_markOut_50 (by decide) ?_
            obtain ⟨h51, hf⟩ := pg_some hf
            refine va_iast hx hb hK.1 hP hD hS 1 0 rfl rfl h51 dX4_markOut_51 (fun H locs hP hD hS => ?_)
            have hP : va_P D vwCl [(h0, .inr (4, [.ref a_won, .ref a_order, .ref a_seat, .ref a_outAt, .ref a_merit, .ref a_toCome, .ref a_turn, .int v_sides])), (a_merit, .inl (cyI, 6, .inl (upd c_merit x3.toNatClampNeg 0))), (a_outAt, .inl (cyI, 6, .inl (upd c_outAt x3.toNatClampNeg x1))), (a_toCome, .inl (cyI, 6, .inl c_toCome)), (a_won, .inl (cyI, 6, .inl c_won))] H := hP
            have hD : va_D A [(h0, .inr (4, [.ref a_won, .ref a_order, .ref a_seat, .ref a_outAt, .ref a_merit, .ref a_toCome, .ref a_turn, .int v_sides])), (a_merit, .inl (cyI, 6, .inl (upd c_merit x3.toNatClampNeg 0))), (a_outAt, .inl (cyI, 6, .inl (upd c_outAt x3.toNatClampNeg x1))), (a_toCome, .inl (cyI, 6, .inl c_toCome)), (a_won, .inl (cyI, 6, .inl c_won))] := hD
            exact hB52 (fX4_markOut_2 N v_sides c_toCome c_won x1 x2 n) hk2 x3 (upd c_merit x3.toNatClampNeg 0) (upd c_outAt x3.toNatClampNeg x1) H locs ls hf hP hD hS (lv_sub hl [0, 1, 2, 3] rfl)
  unfold fX4_markOut at hf
  obtain ⟨H, hH⟩ : ∃ H : Heap, H = s.heap := ⟨_, rfl⟩
  obtain ⟨locs, hlo⟩ : ∃ locs : List Loc, locs = [] := ⟨_, rfl⟩
  have hP : va_P D vwCl [(h0, .inr (4, [.ref a_won, .ref a_order, .ref a_seat, .ref a_outAt, .ref a_merit, .ref a_toCome, .ref a_turn, .int v_sides])), (a_merit, .inl (cyI, 6, .inl c_merit)), (a_outAt, .inl (cyI, 6, .inl c_outAt)), (a_toCome, .inl (cyI, 6, .inl c_toCome)), (a_won, .inl (cyI, 6, .inl c_won))] H := by rw [hH]; exact hP
  have hS : va_S A s.heap H locs := by rw [hH, hlo]; exact hS
  suffices hw : W p l e rmX4_markOut s m av below meth c H locs 0 0 Q (F0 m 0 ls []) by rw [hH, hlo] at hw; exact hw
  refine lv_iconst (v := 0) hx hb dX4_markOut_0 (by decide) ?_
  refine lv_istore_n (lv' := [(3, .int 0), (0, .ref h0), (1, .int x1), (2, .int x2)]) hx hb dX4_markOut_1 rfl hl (by decide) rfl (fun ls hl => ?_)
  exact hB2 N 0 c_merit c_outAt H locs ls hf hP hD hS (lv_sub hl [1, 2, 3, 0] rfl)
abbrev rmX4_findOut : Room := { frames := 1, cells := 0, slots := 0, locals := 23 }
set_option maxHeartbeats 40000000 in
set_option maxRecDepth 100000 in
theorem mX4_findOut (l : Launch) (D : va_G) (cyI cyJ cyB cyS : ClassId) (N : Nat) (sz : Nat) (h0 : Nat) (a_merit : Nat) (a_outAt : Nat) (a_p1 : Nat) (a_p1_ending : Nat) (a_p1_first : Nat) (a_p1_second : Nat) (a_toCome : Nat) (a_won : Nat) (a_order : Nat) (a_seat : Nat) (a_turn : Nat) (v_sides : Int32) (c_merit : Nat → Int32) (c_outAt : Nat → Int32) (v_p1_size : Int32) (c_p1_ending : Nat → Int32) (c_p1_first : Nat → Int32) (c_p1_second : Nat → Int32) (c_toCome : Nat → Int32) (c_won : Nat → Int32) (q : (Nat → Int32) × (Nat → Int32) × (Nat → Int32) × (Nat → Int32)) (hf : fX4_findOut N v_sides c_merit c_outAt v_p1_size c_p1_ending c_p1_first c_p1_second c_toCome c_won = some q) : Met l yX4_findOut (wS yX4_findOut cX4_findOut 4 none) rmX4_findOut (va_Pc [.ref h0, .ref a_p1] (PP D cyI cyJ cyB cyS [(h0, .inr (4, [.ref a_won, .ref a_order, .ref a_seat, .ref a_outAt, .ref a_merit, .ref a_toCome, .ref a_turn, .int v_sides])), (a_merit, .inl (cyI, 6, .inl c_merit)), (a_outAt, .inl (cyI, 6, .inl c_outAt)), (a_p1, .inr (0, [.ref a_p1_first, .ref a_p1_second, .ref a_p1_ending, .int v_p1_size])), (a_p1_ending, .inl (cyI, 30, .inl c_p1_ending)), (a_p1_first, .inl (cyI, 30, .inl c_p1_first)), (a_p1_second, .inl (cyI, 30, .inl c_p1_second)), (a_toCome, .inl (cyI, 6, .inl c_toCome)), (a_won, .inl (cyI, 6, .inl c_won))] sz)) (QV D [(h0, .inr (4, [.ref a_won, .ref a_order, .ref a_seat, .ref a_outAt, .ref a_merit, .ref a_toCome, .ref a_turn, .int v_sides])), (a_merit, .inl (cyI, 6, .inl q.1)), (a_outAt, .inl (cyI, 6, .inl q.2.1)), (a_p1, .inr (0, [.ref a_p1_first, .ref a_p1_second, .ref a_p1_ending, .int v_p1_size])), (a_p1_ending, .inl (cyI, 30, .inl c_p1_ending)), (a_p1_first, .inl (cyI, 30, .inl c_p1_first)), (a_p1_second, .inl (cyI, 30, .inl c_p1_second)), (a_toCome, .inl (cyI, 6, .inl q.2.2.1)), (a_won, .inl (cyI, 6, .inl q.2.2.2))] (va_A [(h0, .inr (4, [.ref a_won, .ref a_order, .ref a_seat, .ref a_outAt, .ref a_merit, .ref a_toCome, .ref a_turn, .int v_sides])), (a_merit, .inl (cyI, 6, .inl c_merit)), (a_outAt, .inl (cyI, 6, .inl c_outAt)), (a_p1, .inr (0, [.ref a_p1_first, .ref a_p1_second, .ref a_p1_ending, .int v_p1_size])), (a_p1_ending, .inl (cyI, 30, .inl c_p1_ending)), (a_p1_first, .inl (cyI, 30, .inl c_p1_first)), (a_p1_second, .inl (cyI, 30, .inl c_p1_second)), (a_toCome, .inl (cyI, 6, .inl c_toCome)), (a_won, .inl (cyI, 6, .inl c_won))] sz)) 0 0 (va_A [(h0, .inr (4, [.ref a_won, .ref a_order, .ref a_seat, .ref a_outAt, .ref a_merit, .ref a_toCome, .ref a_turn, .int v_sides])), (a_merit, .inl (cyI, 6, .inl c_merit)), (a_outAt, .inl (cyI, 6, .inl c_outAt)), (a_p1, .inr (0, [.ref a_p1_first, .ref a_p1_second, .ref a_p1_ending, .int v_p1_size])), (a_p1_ending, .inl (cyI, 30, .inl c_p1_ending)), (a_p1_first, .inl (cyI, 30, .inl c_p1_first)), (a_p1_second, .inl (cyI, 30, .inl c_p1_second)), (a_toCome, .inl (cyI, 6, .inl c_toCome)), (a_won, .inl (cyI, 6, .inl c_won))] sz) := by
  refine Met.ofW (cc := cX4_findOut) (maxL := 4) (ret := none) (by decide) rfl ?_
  intro p e s m args below meth c s₁ B hml hv
  obtain ⟨rfl, hsz, hP, hK, hD0⟩ := hv
  have hx := B.exec
  have hb := B.bytes
  have hr := B.returns
  have hts := atoms_spec (ws := (wS yX4_findOut cX4_findOut 4 none)) B.pre
  have hown : s.vm.findClass RX4 = some m.cls := findClass_of_methodNamed B.named
  have hlocks := B.notSynchronized
  subst hsz
  have hD := hD0.self (sz := s.heap.size)
  refine w_nameQ (fun Q hQ => ?_)
  have hl := lv_entry ([.ref h0, .ref a_p1] : List Value) (n := 4) (Nat.le_of_ble_eq_true rfl)
  rw [lg_entry_eq]
  generalize (lg_sl ([.ref h0, .ref a_p1] : List Value) ++ List.replicate (4 - (lg_sl ([.ref h0, .ref a_p1] : List Value)).length) Slot.unset).toArray = ls at hl ⊢
  have hl : lv_has ls 4 [(0, .ref h0), (1, .ref a_p1)] := hl
  generalize hAe : va_A [(h0, .inr (4, [.ref a_won, .ref a_order, .ref a_seat, .ref a_outAt, .ref a_merit, .ref a_toCome, .ref a_turn, .int v_sides])), (a_merit, .inl (cyI, 6, .inl c_merit)), (a_outAt, .inl (cyI, 6, .inl c_outAt)), (a_p1, .inr (0, [.ref a_p1_first, .ref a_p1_second, .ref a_p1_ending, .int v_p1_size])), (a_p1_ending, .inl (cyI, 30, .inl c_p1_ending)), (a_p1_first, .inl (cyI, 30, .inl c_p1_first)), (a_p1_second, .inl (cyI, 30, .inl c_p1_second)), (a_toCome, .inl (cyI, 6, .inl c_toCome)), (a_won, .inl (cyI, 6, .inl c_won))] s.heap.size = A at hD hQ
  have hA : ∀ q : Nat, s.heap.size ≤ q → A q := fun q h => by rw [← hAe]; exact Or.inr h
  have hS : va_S A s.heap s.heap [] := va_S.rf
  generalize ([.ref h0, .ref a_p1] : List Value).toArray = av at hts hQ ⊢
  have hL : ∀ w ∈ wsL_law, w.before av s = true := fun w h => hts w (List.mem_cons_of_mem _ h)
  have w0 := hL (.fieldLink RX4 37 "LosingLeague$Games" "size" "I") (hR22 22 rfl)
  have w1 := hL (.fieldLink RX4 42 "LosingLeague$Games" "ending" "[I") (hR22 23 rfl)
  have w2 := hL (.fieldLink RX4 27 "LosingLeague$Standing" "toCome" "[I") (hR3 16 rfl)
  have w3 := hL (.fieldLink RX4 54 "LosingLeague$Games" "first" "[I") (hR27 2 rfl)
  have w4 := hL (.fieldLink RX4 57 "LosingLeague$Games" "second" "[I") (hR27 3 rfl)
  have w5 := hL (.methodLink RX4 63 Lib.Math.max.name) (hR27 4 rfl)
  have w6 := hL (.static Lib.Math.max.name) (hR21 3 rfl)
  have w7 := hL (.initialized "java/lang/Math") (hR21 0 rfl)
  have w8 := hL (.code Lib.Math.max.name Lib.Math.max.code 2 (some .int)) (hR21 4 rfl)
  have w9 := hL (.fieldLink RX4 33 "LosingLeague$Standing" "sides" "I") (hR22 21 rfl)
  have w10 := hL (.fieldLink RX4 21 "LosingLeague$Standing" "outAt" "[I") (hR3 14 rfl)
  have w11 := hL (.fieldLink RX4 24 "LosingLeague$Standing" "merit" "[I") (hR3 15 rfl)
  have w12 := hL (.fieldLink RX4 9 "LosingLeague$Standing" "won" "[I") (hR3 11 rfl)
  have hB163 : ∀ (k95 : Int32 → Int32 → (Nat → Int32) → (Nat → Int32) → (Nat → Int32) → (Nat → Int32) → Option ((Nat → Int32) × (Nat → Int32) × (Nat → Int32) × (Nat → Int32))) (hk95 : ∀ (x2 : Int32) (x3 : Int32) (c_merit : Nat → Int32) (c_outAt : Nat → Int32) (c_toCome : Nat → Int32) (c_won : Nat → Int32) (H : Heap) (locs : List Loc) (ls : Array Slot), k95 x2 x3 c_merit c_outAt c_toCome c_won = some q → va_P D vwCl [(h0, .inr (4, [.ref a_won, .ref a_order, .ref a_seat, .ref a_outAt, .ref a_merit, .ref a_toCome, .ref a_turn, .int v_sides])), (a_merit, .inl (cyI, 6, .inl c_merit)), (a_outAt, .inl (cyI, 6, .inl c_outAt)), (a_p1, .inr (0, [.ref a_p1_first, .ref a_p1_second, .ref a_p1_ending, .int v_p1_size])), (a_p1_ending, .inl (cyI, 30, .inl c_p1_ending)), (a_p1_first, .inl (cyI, 30, .inl c_p1_first)), (a_p1_second, .inl (cyI, 30, .inl c_p1_second)), (a_toCome, .inl (cyI, 6, .inl c_toCome)), (a_won, .inl (cyI, 6, .inl c_won))] H → va_D A [(h0, .inr (4, [.ref a_won, .ref a_order, .ref a_seat, .ref a_outAt, .ref a_merit, .ref a_toCome, .ref a_turn, .int v_sides])), (a_merit, .inl (cyI, 6, .inl c_merit)), (a_outAt, .inl (cyI, 6, .inl c_outAt)), (a_p1, .inr (0, [.ref a_p1_first, .ref a_p1_second, .ref a_p1_ending, .int v_p1_size])), (a_p1_ending, .inl (cyI, 30, .inl c_p1_ending)), (a_p1_first, .inl (cyI, 30, .inl c_p1_first)), (a_p1_second, .inl (cyI, 30, .inl c_p1_second)), (a_toCome, .inl (cyI, 6, .inl c_toCome)), (a_won, .inl (cyI, 6, .inl c_won))] → va_S A s.heap H locs → lv_has ls 4 [(0, .ref h0), (1, .ref a_p1), (2, .int x2), (3, .int x3)] → W p l e rmX4_findOut s m av below meth c H locs 0 0 Q (F0 m 95 ls [])), ∀ (x2 : Int32) (x3 : Int32) (c_merit : Nat → Int32) (c_outAt : Nat → Int32) (c_toCome : Nat → Int32) (c_won : Nat → Int32) (H : Heap) (locs : List Loc) (ls : Array Slot), fX4_findOut_163 N v_sides v_p1_size c_p1_ending c_p1_first c_p1_second k95 x2 x3 c_merit c_outAt c_toCome c_won = some q → va_P D vwCl [(h0, .inr (4, [.ref a_won, .ref a_order, .ref a_seat, .ref a_outAt, .ref a_merit, .ref a_toCome, .ref a_turn, .int v_sides])), (a_merit, .inl (cyI, 6, .inl c_merit)), (a_outAt, .inl (cyI, 6, .inl c_outAt)), (a_p1, .inr (0, [.ref a_p1_first, .ref a_p1_second, .ref a_p1_ending, .int v_p1_size])), (a_p1_ending, .inl (cyI, 30, .inl c_p1_ending)), (a_p1_first, .inl (cyI, 30, .inl c_p1_first)), (a_p1_second, .inl (cyI, 30, .inl c_p1_second)), (a_toCome, .inl (cyI, 6, .inl c_toCome)), (a_won, .inl (cyI, 6, .inl c_won))] H → va_D A [(h0, .inr (4, [.ref a_won, .ref a_order, .ref a_seat, .ref a_outAt, .ref a_merit, .ref a_toCome, .ref a_turn, .int v_sides])), (a_merit, .inl (cyI, 6, .inl c_merit)), (a_outAt, .inl (cyI, 6, .inl c_outAt)), (a_p1, .inr (0, [.ref a_p1_first, .ref a_p1_second, .ref a_p1_ending, .int v_p1_size])), (a_p1_ending, .inl (cyI, 30, .inl c_p1_ending)), (a_p1_first, .inl (cyI, 30, .inl c_p1_first)), (a_p1_second, .inl (cyI, 30, .inl c_p1_second)), (a_toCome, .inl (cyI, 6, .inl c_toCome)), (a_won, .inl (cyI, 6, .inl c_won))] → va_S A s.heap H locs → lv_has ls 4 [(0, .ref h0), (1, .ref a_p1), (2, .int x2), (3, .int x3)] → W p l e rmX4_findOut s m av below meth c H locs 0 0 Q (F0 m 163 ls []) := by
    intro k95 hk95 x2 x3 c_merit c_outAt c_toCome c_won H locs ls hf hP hD hS hl
    unfold fX4_findOut_163 at hf
    refine lv_iinc (v := x3 + 1) (lv' := [(3, .int (x3 + 1)), (0, .ref h0), (1, .ref a_p1), (2, .int x2)]) hx hb dX4_findOut_163 hl (k := 3) rfl rfl (by decide) rfl (fun ls hl => ?_)
    refine lv_goto (tgt := 95) hx hb dX4_findOut_166 (by decide) ?_
    exact hk95 x2 (x3 + 1) c_merit c_outAt c_toCome c_won H locs ls hf hP hD hS (lv_sub hl [1, 2, 3, 0] rfl)
  have hB95 : ∀ (n : Nat), ∀ (x2 : Int32) (x3 : Int32) (c_merit : Nat → Int32) (c_outAt : Nat → Int32) (c_toCome : Nat → Int32) (c_won : Nat → Int32) (H : Heap) (locs : List Loc) (ls : Array Slot), fX4_findOut_95 N v_sides v_p1_size c_p1_ending c_p1_first c_p1_second n x2 x3 c_merit c_outAt c_toCome c_won = some q → va_P D vwCl [(h0, .inr (4, [.ref a_won, .ref a_order, .ref a_seat, .ref a_outAt, .ref a_merit, .ref a_toCome, .ref a_turn, .int v_sides])), (a_merit, .inl (cyI, 6, .inl c_merit)), (a_outAt, .inl (cyI, 6, .inl c_outAt)), (a_p1, .inr (0, [.ref a_p1_first, .ref a_p1_second, .ref a_p1_ending, .int v_p1_size])), (a_p1_ending, .inl (cyI, 30, .inl c_p1_ending)), (a_p1_first, .inl (cyI, 30, .inl c_p1_first)), (a_p1_second, .inl (cyI, 30, .inl c_p1_second)), (a_toCome, .inl (cyI, 6, .inl c_toCome)), (a_won, .inl (cyI, 6, .inl c_won))] H → va_D A [(h0, .inr (4, [.ref a_won, .ref a_order, .ref a_seat, .ref a_outAt, .ref a_merit, .ref a_toCome, .ref a_turn, .int v_sides])), (a_merit, .inl (cyI, 6, .inl c_merit)), (a_outAt, .inl (cyI, 6, .inl c_outAt)), (a_p1, .inr (0, [.ref a_p1_first, .ref a_p1_second, .ref a_p1_ending, .int v_p1_size])), (a_p1_ending, .inl (cyI, 30, .inl c_p1_ending)), (a_p1_first, .inl (cyI, 30, .inl c_p1_first)), (a_p1_second, .inl (cyI, 30, .inl c_p1_second)), (a_toCome, .inl (cyI, 6, .inl c_toCome)), (a_won, .inl (cyI, 6, .inl c_won))] → va_S A s.heap H locs → lv_has ls 4 [(0, .ref h0), (1, .ref a_p1), (2, .int x2), (3, .int x3)] → W p l e rmX4_findOut s m av below meth c H locs 0 0 Q (F0 m 95 ls []) := by
    intro n
    induction n with
    | zero => intro x2 x3 c_merit c_outAt c_toCome c_won H locs ls hf; exact absurd hf (by simp [fX4_findOut_95])
    | succ n hk95 =>
      intro x2 x3 c_merit c_outAt c_toCome c_won H locs ls hf hP hD hS hl
      rw [fX4_findOut_95] at hf
      refine lv_iload_n hx hb dX4_findOut_95 rfl (lv_at hl 3 rfl) ?_
      refine lv_aload_n hx hb dX4_findOut_96 rfl (lv_at hl 1 rfl) ?_
      refine va_get (D := D) (ci := 0) (v := .int v_p1_size) (C := RX0) (T := TX0) (N := 4) hx hb hL inlX0 hown hK.1 hP 3 rfl rfl 3 (by decide) w0 (fun _ h9 => h9) rfl dX4_findOut_97 ?_
      refine lv_icmp_ge (tgt := 169) hx hb dX4_findOut_100 (by decide) (fun c100 => ?_) (fun c100 => ?_)
      · have hf := pif_t c100 hf
        exact ret_v (q := q) (wp := fun q => [(h0, .inr (4, [.ref a_won, .ref a_order, .ref a_seat, .ref a_outAt, .ref a_merit, .ref a_toCome, .ref a_turn, .int v_sides])), (a_merit, .inl (cyI, 6, .inl q.1)), (a_outAt, .inl (cyI, 6, .inl q.2.1)), (a_p1, .inr (0, [.ref a_p1_first, .ref a_p1_second, .ref a_p1_ending, .int v_p1_size])), (a_p1_ending, .inl (cyI, 30, .inl c_p1_ending)), (a_p1_first, .inl (cyI, 30, .inl c_p1_first)), (a_p1_second, .inl (cyI, 30, .inl c_p1_second)), (a_toCome, .inl (cyI, 6, .inl q.2.2.1)), (a_won, .inl (cyI, 6, .inl q.2.2.2))]) hQ hf hx hb hr hlocks hP hD hS dX4_findOut_169
      · have hf := pif_f c100 hf
        refine lv_aload_n hx hb dX4_findOut_103 rfl (lv_at hl 1 rfl) ?_
        refine va_get (D := D) (ci := 0) (v := .ref a_p1_ending) (C := RX0) (T := TX0) (N := 4) hx hb hL inlX0 hown hK.1 hP 3 rfl rfl 2 (by decide) w1 (fun _ h9 => h9) rfl dX4_findOut_104 ?_
        refine lv_iload_n hx hb dX4_findOut_107 rfl (lv_at hl 3 rfl) ?_
        obtain ⟨h108, hf⟩ := pg_some hf
        refine va_iald hx hb hK.1 hP 4 0 rfl rfl h108 dX4_findOut_108 ?_
        refine lv_iconst (v := 2) hx hb dX4_findOut_109 (by decide) ?_
        refine lv_icmp_eq (tgt := 163) hx hb dX4_findOut_110 (by decide) (fun c110 => ?_) (fun c110 => ?_)
        · have hf := pif_t c110 hf
          exact hB163 (fX4_findOut_95 N v_sides v_p1_size c_p1_ending c_p1_first c_p1_second n) hk95 x2 x3 c_merit c_outAt c_toCome c_won H locs ls hf hP hD hS (lv_sub hl [0, 1, 2, 3] rfl)
        · have hf := pif_f c110 hf
          refine lv_aload_n hx hb dX4_findOut_113 rfl (lv_at hl 0 rfl) ?_
          refine va_get (D := D) (ci := 4) (v := .ref a_toCome) (C := RX4) (T := TX4) (N := 8) hx hb hL inlX4 hown hK.1 hP 0 rfl rfl 5 (by decide) w2 (fun _ h9 => h9) rfl dX4_findOut_114 ?_
          refine lv_aload_n hx hb dX4_findOut_117 rfl (lv_at hl 1 rfl) ?_
          refine va_get (D := D) (ci := 0) (v := .ref a_p1_first) (C := RX0) (T := TX0) (N := 4) hx hb hL inlX0 hown hK.1 hP 3 rfl rfl 0 (by decide) w3 (fun _ h9 => h9) rfl dX4_findOut_118 ?_
          refine lv_iload_n hx hb dX4_findOut_121 rfl (lv_at hl 3 rfl) ?_
          obtain ⟨h122, hf⟩ := pg_some hf
          refine va_iald hx hb hK.1 hP 5 0 rfl rfl h122 dX4_findOut_122 ?_
          refine lv_dup2_11 hx hb dX4_findOut_123 rfl rfl ?_
          obtain ⟨h124, hf⟩ := pg_some hf
          refine va_iald hx hb hK.1 hP 7 0 rfl rfl h124 dX4_findOut_124 ?_
          refine lv_iconst (v := 1) hx hb dX4_findOut_125 (by decide) ?_
          refine lv_isub hx hb dX4_findOut_126 ?_
          obtain ⟨h127, hf⟩ := pg_some hf
          refine va_iast hx hb hK.1 hP hD hS 7 0 rfl rfl h127 dX4_findOut_127 (fun H locs hP hD hS => ?_)
          have hP : va_P D vwCl [(h0, .inr (4, [.ref a_won, .ref a_order, .ref a_seat, .ref a_outAt, .ref a_merit, .ref a_toCome, .ref a_turn, .int v_sides])), (a_merit, .inl (cyI, 6, .inl c_merit)), (a_outAt, .inl (cyI, 6, .inl c_outAt)), (a_p1, .inr (0, [.ref a_p1_first, .ref a_p1_second, .ref a_p1_ending, .int v_p1_size])), (a_p1_ending, .inl (cyI, 30, .inl c_p1_ending)), (a_p1_first, .inl (cyI, 30, .inl c_p1_first)), (a_p1_second, .inl (cyI, 30, .inl c_p1_second)), (a_toCome, .inl (cyI, 6, .inl (upd c_toCome (c_p1_first x3.toNatClampNeg).toNatClampNeg ((c_toCome (c_p1_first x3.toNatClampNeg).toNatClampNeg) - 1)))), (a_won, .inl (cyI, 6, .inl c_won))] H := hP
          have hD : va_D A [(h0, .inr (4, [.ref a_won, .ref a_order, .ref a_seat, .ref a_outAt, .ref a_merit, .ref a_toCome, .ref a_turn, .int v_sides])), (a_merit, .inl (cyI, 6, .inl c_merit)), (a_outAt, .inl (cyI, 6, .inl c_outAt)), (a_p1, .inr (0, [.ref a_p1_first, .ref a_p1_second, .ref a_p1_ending, .int v_p1_size])), (a_p1_ending, .inl (cyI, 30, .inl c_p1_ending)), (a_p1_first, .inl (cyI, 30, .inl c_p1_first)), (a_p1_second, .inl (cyI, 30, .inl c_p1_second)), (a_toCome, .inl (cyI, 6, .inl (upd c_toCome (c_p1_first x3.toNatClampNeg).toNatClampNeg ((c_toCome (c_p1_first x3.toNatClampNeg).toNatClampNeg) - 1)))), (a_won, .inl (cyI, 6, .inl c_won))] := hD
          refine lv_aload_n hx hb dX4_findOut_128 rfl (lv_at hl 0 rfl) ?_
          refine va_get (D := D) (ci := 4) (v := .ref a_toCome) (C := RX4) (T := TX4) (N := 8) hx hb hL inlX4 hown hK.1 hP 0 rfl rfl 5 (by decide) w2 (fun _ h9 => h9) rfl dX4_findOut_129 ?_
          refine lv_aload_n hx hb dX4_findOut_132 rfl (lv_at hl 1 rfl) ?_
          refine va_get (D := D) (ci := 0) (v := .ref a_p1_second) (C := RX0) (T := TX0) (N := 4) hx hb hL inlX0 hown hK.1 hP 3 rfl rfl 1 (by decide) w4 (fun _ h9 => h9) rfl dX4_findOut_133 ?_
          refine lv_iload_n hx hb dX4_findOut_136 rfl (lv_at hl 3 rfl) ?_
          obtain ⟨h137, hf⟩ := pg_some hf
          refine va_iald hx hb hK.1 hP 6 0 rfl rfl h137 dX4_findOut_137 ?_
          refine lv_dup2_11 hx hb dX4_findOut_138 rfl rfl ?_
          obtain ⟨h139, hf⟩ := pg_some hf
          refine va_iald hx hb hK.1 hP 7 0 rfl rfl h139 dX4_findOut_139 ?_
          refine lv_iconst (v := 1) hx hb dX4_findOut_140 (by decide) ?_
          refine lv_isub hx hb dX4_findOut_141 ?_
          obtain ⟨h142, hf⟩ := pg_some hf
          refine va_iast hx hb hK.1 hP hD hS 7 0 rfl rfl h142 dX4_findOut_142 (fun H locs hP hD hS => ?_)
          have hP : va_P D vwCl [(h0, .inr (4, [.ref a_won, .ref a_order, .ref a_seat, .ref a_outAt, .ref a_merit, .ref a_toCome, .ref a_turn, .int v_sides])), (a_merit, .inl (cyI, 6, .inl c_merit)), (a_outAt, .inl (cyI, 6, .inl c_outAt)), (a_p1, .inr (0, [.ref a_p1_first, .ref a_p1_second, .ref a_p1_ending, .int v_p1_size])), (a_p1_ending, .inl (cyI, 30, .inl c_p1_ending)), (a_p1_first, .inl (cyI, 30, .inl c_p1_first)), (a_p1_second, .inl (cyI, 30, .inl c_p1_second)), (a_toCome, .inl (cyI, 6, .inl (upd (upd c_toCome (c_p1_first x3.toNatClampNeg).toNatClampNeg ((c_toCome (c_p1_first x3.toNatClampNeg).toNatClampNeg) - 1)) (c_p1_second x3.toNatClampNeg).toNatClampNeg (((upd c_toCome (c_p1_first x3.toNatClampNeg).toNatClampNeg ((c_toCome (c_p1_first x3.toNatClampNeg).toNatClampNeg) - 1)) (c_p1_second x3.toNatClampNeg).toNatClampNeg) - 1)))), (a_won, .inl (cyI, 6, .inl c_won))] H := hP
          have hD : va_D A [(h0, .inr (4, [.ref a_won, .ref a_order, .ref a_seat, .ref a_outAt, .ref a_merit, .ref a_toCome, .ref a_turn, .int v_sides])), (a_merit, .inl (cyI, 6, .inl c_merit)), (a_outAt, .inl (cyI, 6, .inl c_outAt)), (a_p1, .inr (0, [.ref a_p1_first, .ref a_p1_second, .ref a_p1_ending, .int v_p1_size])), (a_p1_ending, .inl (cyI, 30, .inl c_p1_ending)), (a_p1_first, .inl (cyI, 30, .inl c_p1_first)), (a_p1_second, .inl (cyI, 30, .inl c_p1_second)), (a_toCome, .inl (cyI, 6, .inl (upd (upd c_toCome (c_p1_first x3.toNatClampNeg).toNatClampNeg ((c_toCome (c_p1_first x3.toNatClampNeg).toNatClampNeg) - 1)) (c_p1_second x3.toNatClampNeg).toNatClampNeg (((upd c_toCome (c_p1_first x3.toNatClampNeg).toNatClampNeg ((c_toCome (c_p1_first x3.toNatClampNeg).toNatClampNeg) - 1)) (c_p1_second x3.toNatClampNeg).toNatClampNeg) - 1)))), (a_won, .inl (cyI, 6, .inl c_won))] := hD
          refine lv_iload_n hx hb dX4_findOut_143 rfl (lv_at hl 2 rfl) ?_
          refine lv_aload_n hx hb dX4_findOut_144 rfl (lv_at hl 0 rfl) ?_
          refine lv_aload_n hx hb dX4_findOut_145 rfl (lv_at hl 1 rfl) ?_
          refine lv_iload_n hx hb dX4_findOut_146 rfl (lv_at hl 3 rfl) ?_
          obtain ⟨q147, e147, hf⟩ := pb_some hf
          refine cc_i (wc := [(a_p1, .inr (0, [.ref a_p1_first, .ref a_p1_second, .ref a_p1_ending, .int v_p1_size])), (a_p1_ending, .inl (cyI, 30, .inl c_p1_ending)), (a_p1_first, .inl (cyI, 30, .inl c_p1_first)), (a_p1_second, .inl (cyI, 30, .inl c_p1_second))]) (wr := [(h0, .inr (4, [.ref a_won, .ref a_order, .ref a_seat, .ref a_outAt, .ref a_merit, .ref a_toCome, .ref a_turn, .int v_sides])), (a_merit, .inl (cyI, 6, .inl c_merit)), (a_outAt, .inl (cyI, 6, .inl c_outAt)), (a_toCome, .inl (cyI, 6, .inl (upd (upd c_toCome (c_p1_first x3.toNatClampNeg).toNatClampNeg ((c_toCome (c_p1_first x3.toNatClampNeg).toNatClampNeg) - 1)) (c_p1_second x3.toNatClampNeg).toNatClampNeg (((upd c_toCome (c_p1_first x3.toNatClampNeg).toNatClampNeg ((c_toCome (c_p1_first x3.toNatClampNeg).toNatClampNeg) - 1)) (c_p1_second x3.toNatClampNeg).toNatClampNeg) - 1)))), (a_won, .inl (cyI, 6, .inl c_won))]) (w1 := [(a_p1, .inr (0, [.ref a_p1_first, .ref a_p1_second, .ref a_p1_ending, .int v_p1_size])), (a_p1_ending, .inl (cyI, 30, .inl c_p1_ending)), (a_p1_first, .inl (cyI, 30, .inl c_p1_first)), (a_p1_second, .inl (cyI, 30, .inl c_p1_second))]) (wn := [(h0, .inr (4, [.ref a_won, .ref a_order, .ref a_seat, .ref a_outAt, .ref a_merit, .ref a_toCome, .ref a_turn, .int v_sides])), (a_merit, .inl (cyI, 6, .inl c_merit)), (a_outAt, .inl (cyI, 6, .inl c_outAt)), (a_p1, .inr (0, [.ref a_p1_first, .ref a_p1_second, .ref a_p1_ending, .int v_p1_size])), (a_p1_ending, .inl (cyI, 30, .inl c_p1_ending)), (a_p1_first, .inl (cyI, 30, .inl c_p1_first)), (a_p1_second, .inl (cyI, 30, .inl c_p1_second)), (a_toCome, .inl (cyI, 6, .inl (upd (upd c_toCome (c_p1_first x3.toNatClampNeg).toNatClampNeg ((c_toCome (c_p1_first x3.toNatClampNeg).toNatClampNeg) - 1)) (c_p1_second x3.toNatClampNeg).toNatClampNeg (((upd c_toCome (c_p1_first x3.toNatClampNeg).toNatClampNeg ((c_toCome (c_p1_first x3.toNatClampNeg).toNatClampNeg) - 1)) (c_p1_second x3.toNatClampNeg).toNatClampNeg) - 1)))), (a_won, .inl (cyI, 6, .inl c_won))]) hP hD hS hA [3, 4, 5, 6] [0, 1, 2, 7, 8] [0, 1, 2, 5, 6, 7, 8, 3, 4] rfl rfl rfl (by decide) rfl rfl (va_runV (C := RX0) (As := [.int x3]) (rest := [.ref h0, .int x2]) ⟨hx, hb, hml, hown, hL⟩ (mX0_winner l D cyI cyJ cyB cyS N H.size a_p1 a_p1_ending a_p1_first a_p1_second v_p1_size c_p1_ending c_p1_first c_p1_second x3 q147 e147) (cwV 1 hL (gV (hR23 0 rfl) (hR23 1 rfl) (hR23 2 rfl) (hR1 19 rfl) (hR23 3 rfl)) rfl rfl rfl (by decide +kernel) ⟨Nat.le_of_ble_eq_true rfl, Nat.le_of_ble_eq_true rfl⟩) (PP_preV (ci := 0) (q0 := 3) hP hD hK [3, 4, 5, 6] rfl rfl rfl rfl) rfl rfl hl.1 rfl (lv_room (Nat.le_of_ble_eq_true rfl)) dX4_findOut_147 ⟨Nat.le_of_ble_eq_true rfl, Nat.le_of_ble_eq_true rfl⟩) (fun H locs hP hD hS => ?_)
          obtain ⟨q150, e150, hf⟩ := pb_some hf
          refine cc_i (wc := [(h0, .inr (4, [.ref a_won, .ref a_order, .ref a_seat, .ref a_outAt, .ref a_merit, .ref a_toCome, .ref a_turn, .int v_sides])), (a_merit, .inl (cyI, 6, .inl c_merit)), (a_won, .inl (cyI, 6, .inl c_won))]) (wr := [(a_outAt, .inl (cyI, 6, .inl c_outAt)), (a_p1, .inr (0, [.ref a_p1_first, .ref a_p1_second, .ref a_p1_ending, .int v_p1_size])), (a_p1_ending, .inl (cyI, 30, .inl c_p1_ending)), (a_p1_first, .inl (cyI, 30, .inl c_p1_first)), (a_p1_second, .inl (cyI, 30, .inl c_p1_second)), (a_toCome, .inl (cyI, 6, .inl (upd (upd c_toCome (c_p1_first x3.toNatClampNeg).toNatClampNeg ((c_toCome (c_p1_first x3.toNatClampNeg).toNatClampNeg) - 1)) (c_p1_second x3.toNatClampNeg).toNatClampNeg (((upd c_toCome (c_p1_first x3.toNatClampNeg).toNatClampNeg ((c_toCome (c_p1_first x3.toNatClampNeg).toNatClampNeg) - 1)) (c_p1_second x3.toNatClampNeg).toNatClampNeg) - 1))))]) (w1 := [(h0, .inr (4, [.ref a_won, .ref a_order, .ref a_seat, .ref a_outAt, .ref a_merit, .ref a_toCome, .ref a_turn, .int v_sides])), (a_merit, .inl (cyI, 6, .inl q150.2.1)), (a_won, .inl (cyI, 6, .inl q150.2.2))]) (wn := [(h0, .inr (4, [.ref a_won, .ref a_order, .ref a_seat, .ref a_outAt, .ref a_merit, .ref a_toCome, .ref a_turn, .int v_sides])), (a_merit, .inl (cyI, 6, .inl q150.2.1)), (a_outAt, .inl (cyI, 6, .inl c_outAt)), (a_p1, .inr (0, [.ref a_p1_first, .ref a_p1_second, .ref a_p1_ending, .int v_p1_size])), (a_p1_ending, .inl (cyI, 30, .inl c_p1_ending)), (a_p1_first, .inl (cyI, 30, .inl c_p1_first)), (a_p1_second, .inl (cyI, 30, .inl c_p1_second)), (a_toCome, .inl (cyI, 6, .inl (upd (upd c_toCome (c_p1_first x3.toNatClampNeg).toNatClampNeg ((c_toCome (c_p1_first x3.toNatClampNeg).toNatClampNeg) - 1)) (c_p1_second x3.toNatClampNeg).toNatClampNeg (((upd c_toCome (c_p1_first x3.toNatClampNeg).toNatClampNeg ((c_toCome (c_p1_first x3.toNatClampNeg).toNatClampNeg) - 1)) (c_p1_second x3.toNatClampNeg).toNatClampNeg) - 1)))), (a_won, .inl (cyI, 6, .inl q150.2.2))]) hP hD hS hA [0, 1, 8] [2, 3, 4, 5, 6, 7] [6, 7, 0, 1, 2, 3, 4, 5, 8] rfl rfl rfl (by decide) rfl rfl (va_runV (C := RX4) (As := [.int q147]) (rest := [.int x2]) ⟨hx, hb, hml, hown, hL⟩ (mX4_countWin l D cyI cyJ cyB cyS N H.size h0 a_merit a_won a_order a_seat a_outAt a_toCome a_turn v_sides c_merit c_won q147 q150 e150) (cwV 1 hL (gV (hR27 5 rfl) (hR27 6 rfl) (hR27 7 rfl) (hR1 23 rfl) (hR27 8 rfl)) rfl rfl rfl (by decide +kernel) ⟨Nat.le_of_ble_eq_true rfl, Nat.le_of_ble_eq_true rfl⟩) (PP_preV (ci := 4) (q0 := 0) hP hD hK [0, 1, 8] rfl rfl rfl rfl) rfl rfl hl.1 rfl (lv_room (Nat.le_of_ble_eq_true rfl)) dX4_findOut_150 ⟨Nat.le_of_ble_eq_true rfl, Nat.le_of_ble_eq_true rfl⟩) (fun H locs hP hD hS => ?_)
          refine va_mmax hx hb (hml.trans hl.1.symm) hown w5 w6 w7 w8 (Nat.le_of_ble_eq_true rfl) (Nat.le_of_ble_eq_true rfl) (Nat.zero_le _) (Nat.zero_le _) dX4_findOut_153 ?_
          refine lv_istore_n (lv' := [(2, .int (if x2 < q150.1 then q150.1 else x2)), (0, .ref h0), (1, .ref a_p1), (3, .int x3)]) hx hb dX4_findOut_156 rfl hl (by decide) rfl (fun ls hl => ?_)
          refine lv_aload_n hx hb dX4_findOut_157 rfl (lv_at hl 1 rfl) ?_
          refine lv_iload_n hx hb dX4_findOut_158 rfl (lv_at hl 3 rfl) ?_
          refine lv_iload_n hx hb dX4_findOut_159 rfl (lv_at hl 0 rfl) ?_
          obtain ⟨q160, e160, hf⟩ := pb_some hf
          refine cc_v (wc := [(h0, .inr (4, [.ref a_won, .ref a_order, .ref a_seat, .ref a_outAt, .ref a_merit, .ref a_toCome, .ref a_turn, .int v_sides])), (a_merit, .inl (cyI, 6, .inl q150.2.1)), (a_outAt, .inl (cyI, 6, .inl c_outAt)), (a_toCome, .inl (cyI, 6, .inl (upd (upd c_toCome (c_p1_first x3.toNatClampNeg).toNatClampNeg ((c_toCome (c_p1_first x3.toNatClampNeg).toNatClampNeg) - 1)) (c_p1_second x3.toNatClampNeg).toNatClampNeg (((upd c_toCome (c_p1_first x3.toNatClampNeg).toNatClampNeg ((c_toCome (c_p1_first x3.toNatClampNeg).toNatClampNeg) - 1)) (c_p1_second x3.toNatClampNeg).toNatClampNeg) - 1)))), (a_won, .inl (cyI, 6, .inl q150.2.2))]) (wr := [(a_p1, .inr (0, [.ref a_p1_first, .ref a_p1_second, .ref a_p1_ending, .int v_p1_size])), (a_p1_ending, .inl (cyI, 30, .inl c_p1_ending)), (a_p1_first, .inl (cyI, 30, .inl c_p1_first)), (a_p1_second, .inl (cyI, 30, .inl c_p1_second))]) (w1 := [(h0, .inr (4, [.ref a_won, .ref a_order, .ref a_seat, .ref a_outAt, .ref a_merit, .ref a_toCome, .ref a_turn, .int v_sides])), (a_merit, .inl (cyI, 6, .inl q160.1)), (a_outAt, .inl (cyI, 6, .inl q160.2)), (a_toCome, .inl (cyI, 6, .inl (upd (upd c_toCome (c_p1_first x3.toNatClampNeg).toNatClampNeg ((c_toCome (c_p1_first x3.toNatClampNeg).toNatClampNeg) - 1)) (c_p1_second x3.toNatClampNeg).toNatClampNeg (((upd c_toCome (c_p1_first x3.toNatClampNeg).toNatClampNeg ((c_toCome (c_p1_first x3.toNatClampNeg).toNatClampNeg) - 1)) (c_p1_second x3.toNatClampNeg).toNatClampNeg) - 1)))), (a_won, .inl (cyI, 6, .inl q150.2.2))]) (wn := [(h0, .inr (4, [.ref a_won, .ref a_order, .ref a_seat, .ref a_outAt, .ref a_merit, .ref a_toCome, .ref a_turn, .int v_sides])), (a_merit, .inl (cyI, 6, .inl q160.1)), (a_outAt, .inl (cyI, 6, .inl q160.2)), (a_p1, .inr (0, [.ref a_p1_first, .ref a_p1_second, .ref a_p1_ending, .int v_p1_size])), (a_p1_ending, .inl (cyI, 30, .inl c_p1_ending)), (a_p1_first, .inl (cyI, 30, .inl c_p1_first)), (a_p1_second, .inl (cyI, 30, .inl c_p1_second)), (a_toCome, .inl (cyI, 6, .inl (upd (upd c_toCome (c_p1_first x3.toNatClampNeg).toNatClampNeg ((c_toCome (c_p1_first x3.toNatClampNeg).toNatClampNeg) - 1)) (c_p1_second x3.toNatClampNeg).toNatClampNeg (((upd c_toCome (c_p1_first x3.toNatClampNeg).toNatClampNeg ((c_toCome (c_p1_first x3.toNatClampNeg).toNatClampNeg) - 1)) (c_p1_second x3.toNatClampNeg).toNatClampNeg) - 1)))), (a_won, .inl (cyI, 6, .inl q150.2.2))]) hP hD hS hA [0, 1, 2, 7, 8] [3, 4, 5, 6] [4, 5, 6, 0, 1, 2, 3, 7, 8] rfl rfl rfl (by decide) rfl rfl (va_runV (C := RX4) (As := [.int x3, .int (if x2 < q150.1 then q150.1 else x2)]) (rest := []) ⟨hx, hb, hml, hown, hL⟩ (mX4_markOut l D cyI cyJ cyB cyS N H.size h0 a_merit a_outAt a_toCome a_won a_order a_seat a_turn v_sides q150.2.1 c_outAt (upd (upd c_toCome (c_p1_first x3.toNatClampNeg).toNatClampNeg ((c_toCome (c_p1_first x3.toNatClampNeg).toNatClampNeg) - 1)) (c_p1_second x3.toNatClampNeg).toNatClampNeg (((upd c_toCome (c_p1_first x3.toNatClampNeg).toNatClampNeg ((c_toCome (c_p1_first x3.toNatClampNeg).toNatClampNeg) - 1)) (c_p1_second x3.toNatClampNeg).toNatClampNeg) - 1)) q150.2.2 x3 (if x2 < q150.1 then q150.1 else x2) q160 e160) (cwV 2 hL (gV (hR27 9 rfl) (hR27 10 rfl) (hR27 11 rfl) (hR1 23 rfl) (hR27 12 rfl)) rfl rfl rfl (by decide +kernel) ⟨Nat.le_of_ble_eq_true rfl, Nat.le_of_ble_eq_true rfl⟩) (PP_preV (ci := 4) (q0 := 0) hP hD hK [0, 1, 2, 7, 8] rfl rfl rfl rfl) rfl rfl hl.1 rfl (lv_room (Nat.le_of_ble_eq_true rfl)) dX4_findOut_160 ⟨Nat.le_of_ble_eq_true rfl, Nat.le_of_ble_eq_true rfl⟩) (fun H locs hP hD hS => ?_)
          exact hB163 (fX4_findOut_95 N v_sides v_p1_size c_p1_ending c_p1_first c_p1_second n) hk95 (if x2 < q150.1 then q150.1 else x2) x3 q160.1 q160.2 (upd (upd c_toCome (c_p1_first x3.toNatClampNeg).toNatClampNeg ((c_toCome (c_p1_first x3.toNatClampNeg).toNatClampNeg) - 1)) (c_p1_second x3.toNatClampNeg).toNatClampNeg (((upd c_toCome (c_p1_first x3.toNatClampNeg).toNatClampNeg ((c_toCome (c_p1_first x3.toNatClampNeg).toNatClampNeg) - 1)) (c_p1_second x3.toNatClampNeg).toNatClampNeg) - 1)) q150.2.2 H locs ls hf hP hD hS (lv_sub hl [1, 2, 0, 3] rfl)
  have hB47 : ∀ (n : Nat), ∀ (x2 : Int32) (c_merit : Nat → Int32) (c_outAt : Nat → Int32) (c_toCome : Nat → Int32) (c_won : Nat → Int32) (H : Heap) (locs : List Loc) (ls : Array Slot), fX4_findOut_47 N v_sides v_p1_size c_p1_ending c_p1_first c_p1_second n x2 c_merit c_outAt c_toCome c_won = some q → va_P D vwCl [(h0, .inr (4, [.ref a_won, .ref a_order, .ref a_seat, .ref a_outAt, .ref a_merit, .ref a_toCome, .ref a_turn, .int v_sides])), (a_merit, .inl (cyI, 6, .inl c_merit)), (a_outAt, .inl (cyI, 6, .inl c_outAt)), (a_p1, .inr (0, [.ref a_p1_first, .ref a_p1_second, .ref a_p1_ending, .int v_p1_size])), (a_p1_ending, .inl (cyI, 30, .inl c_p1_ending)), (a_p1_first, .inl (cyI, 30, .inl c_p1_first)), (a_p1_second, .inl (cyI, 30, .inl c_p1_second)), (a_toCome, .inl (cyI, 6, .inl c_toCome)), (a_won, .inl (cyI, 6, .inl c_won))] H → va_D A [(h0, .inr (4, [.ref a_won, .ref a_order, .ref a_seat, .ref a_outAt, .ref a_merit, .ref a_toCome, .ref a_turn, .int v_sides])), (a_merit, .inl (cyI, 6, .inl c_merit)), (a_outAt, .inl (cyI, 6, .inl c_outAt)), (a_p1, .inr (0, [.ref a_p1_first, .ref a_p1_second, .ref a_p1_ending, .int v_p1_size])), (a_p1_ending, .inl (cyI, 30, .inl c_p1_ending)), (a_p1_first, .inl (cyI, 30, .inl c_p1_first)), (a_p1_second, .inl (cyI, 30, .inl c_p1_second)), (a_toCome, .inl (cyI, 6, .inl c_toCome)), (a_won, .inl (cyI, 6, .inl c_won))] → va_S A s.heap H locs → lv_has ls 4 [(0, .ref h0), (1, .ref a_p1), (2, .int x2)] → W p l e rmX4_findOut s m av below meth c H locs 0 0 Q (F0 m 47 ls []) := by
    intro n
    induction n with
    | zero => intro x2 c_merit c_outAt c_toCome c_won H locs ls hf; exact absurd hf (by simp [fX4_findOut_47])
    | succ n hk47 =>
      intro x2 c_merit c_outAt c_toCome c_won H locs ls hf hP hD hS hl
      rw [fX4_findOut_47] at hf
      refine lv_iload_n hx hb dX4_findOut_47 rfl (lv_at hl 2 rfl) ?_
      refine lv_aload_n hx hb dX4_findOut_48 rfl (lv_at hl 1 rfl) ?_
      refine va_get (D := D) (ci := 0) (v := .int v_p1_size) (C := RX0) (T := TX0) (N := 4) hx hb hL inlX0 hown hK.1 hP 3 rfl rfl 3 (by decide) w0 (fun _ h9 => h9) rfl dX4_findOut_49 ?_
      refine lv_icmp_ge (tgt := 91) hx hb dX4_findOut_52 (by decide) (fun c52 => ?_) (fun c52 => ?_)
      · have hf := pif_t c52 hf
        refine lv_iconst (v := 0) hx hb dX4_findOut_91 (by decide) ?_
        refine lv_istore_n (lv' := [(2, .int 0), (0, .ref h0), (1, .ref a_p1)]) hx hb dX4_findOut_92 rfl hl (by decide) rfl (fun ls hl => ?_)
        refine lv_iconst (v := 0) hx hb dX4_findOut_93 (by decide) ?_
        refine lv_istore_n (lv' := [(3, .int 0), (2, .int 0), (0, .ref h0), (1, .ref a_p1)]) hx hb dX4_findOut_94 rfl hl (by decide) rfl (fun ls hl => ?_)
        exact hB95 N 0 0 c_merit c_outAt c_toCome c_won H locs ls hf hP hD hS (lv_sub hl [2, 3, 1, 0] rfl)
      · have hf := pif_f c52 hf
        refine lv_aload_n hx hb dX4_findOut_55 rfl (lv_at hl 0 rfl) ?_
        refine va_get (D := D) (ci := 4) (v := .ref a_toCome) (C := RX4) (T := TX4) (N := 8) hx hb hL inlX4 hown hK.1 hP 0 rfl rfl 5 (by decide) w2 (fun _ h9 => h9) rfl dX4_findOut_56 ?_
        refine lv_aload_n hx hb dX4_findOut_59 rfl (lv_at hl 1 rfl) ?_
        refine va_get (D := D) (ci := 0) (v := .ref a_p1_first) (C := RX0) (T := TX0) (N := 4) hx hb hL inlX0 hown hK.1 hP 3 rfl rfl 0 (by decide) w3 (fun _ h9 => h9) rfl dX4_findOut_60 ?_
        refine lv_iload_n hx hb dX4_findOut_63 rfl (lv_at hl 2 rfl) ?_
        obtain ⟨h64, hf⟩ := pg_some hf
        refine va_iald hx hb hK.1 hP 5 0 rfl rfl h64 dX4_findOut_64 ?_
        refine lv_dup2_11 hx hb dX4_findOut_65 rfl rfl ?_
        obtain ⟨h66, hf⟩ := pg_some hf
        refine va_iald hx hb hK.1 hP 7 0 rfl rfl h66 dX4_findOut_66 ?_
        refine lv_iconst (v := 1) hx hb dX4_findOut_67 (by decide) ?_
        refine lv_iadd hx hb dX4_findOut_68 ?_
        obtain ⟨h69, hf⟩ := pg_some hf
        refine va_iast hx hb hK.1 hP hD hS 7 0 rfl rfl h69 dX4_findOut_69 (fun H locs hP hD hS => ?_)
        have hP : va_P D vwCl [(h0, .inr (4, [.ref a_won, .ref a_order, .ref a_seat, .ref a_outAt, .ref a_merit, .ref a_toCome, .ref a_turn, .int v_sides])), (a_merit, .inl (cyI, 6, .inl c_merit)), (a_outAt, .inl (cyI, 6, .inl c_outAt)), (a_p1, .inr (0, [.ref a_p1_first, .ref a_p1_second, .ref a_p1_ending, .int v_p1_size])), (a_p1_ending, .inl (cyI, 30, .inl c_p1_ending)), (a_p1_first, .inl (cyI, 30, .inl c_p1_first)), (a_p1_second, .inl (cyI, 30, .inl c_p1_second)), (a_toCome, .inl (cyI, 6, .inl (upd c_toCome (c_p1_first x2.toNatClampNeg).toNatClampNeg ((c_toCome (c_p1_first x2.toNatClampNeg).toNatClampNeg) + 1)))), (a_won, .inl (cyI, 6, .inl c_won))] H := hP
        have hD : va_D A [(h0, .inr (4, [.ref a_won, .ref a_order, .ref a_seat, .ref a_outAt, .ref a_merit, .ref a_toCome, .ref a_turn, .int v_sides])), (a_merit, .inl (cyI, 6, .inl c_merit)), (a_outAt, .inl (cyI, 6, .inl c_outAt)), (a_p1, .inr (0, [.ref a_p1_first, .ref a_p1_second, .ref a_p1_ending, .int v_p1_size])), (a_p1_ending, .inl (cyI, 30, .inl c_p1_ending)), (a_p1_first, .inl (cyI, 30, .inl c_p1_first)), (a_p1_second, .inl (cyI, 30, .inl c_p1_second)), (a_toCome, .inl (cyI, 6, .inl (upd c_toCome (c_p1_first x2.toNatClampNeg).toNatClampNeg ((c_toCome (c_p1_first x2.toNatClampNeg).toNatClampNeg) + 1)))), (a_won, .inl (cyI, 6, .inl c_won))] := hD
        refine lv_aload_n hx hb dX4_findOut_70 rfl (lv_at hl 0 rfl) ?_
        refine va_get (D := D) (ci := 4) (v := .ref a_toCome) (C := RX4) (T := TX4) (N := 8) hx hb hL inlX4 hown hK.1 hP 0 rfl rfl 5 (by decide) w2 (fun _ h9 => h9) rfl dX4_findOut_71 ?_
        refine lv_aload_n hx hb dX4_findOut_74 rfl (lv_at hl 1 rfl) ?_
        refine va_get (D := D) (ci := 0) (v := .ref a_p1_second) (C := RX0) (T := TX0) (N := 4) hx hb hL inlX0 hown hK.1 hP 3 rfl rfl 1 (by decide) w4 (fun _ h9 => h9) rfl dX4_findOut_75 ?_
        refine lv_iload_n hx hb dX4_findOut_78 rfl (lv_at hl 2 rfl) ?_
        obtain ⟨h79, hf⟩ := pg_some hf
        refine va_iald hx hb hK.1 hP 6 0 rfl rfl h79 dX4_findOut_79 ?_
        refine lv_dup2_11 hx hb dX4_findOut_80 rfl rfl ?_
        obtain ⟨h81, hf⟩ := pg_some hf
        refine va_iald hx hb hK.1 hP 7 0 rfl rfl h81 dX4_findOut_81 ?_
        refine lv_iconst (v := 1) hx hb dX4_findOut_82 (by decide) ?_
        refine lv_iadd hx hb dX4_findOut_83 ?_
        obtain ⟨h84, hf⟩ := pg_some hf
        refine va_iast hx hb hK.1 hP hD hS 7 0 rfl rfl h84 dX4_findOut_84 (fun H locs hP hD hS => ?_)
        have hP : va_P D vwCl [(h0, .inr (4, [.ref a_won, .ref a_order, .ref a_seat, .ref a_outAt, .ref a_merit, .ref a_toCome, .ref a_turn, .int v_sides])), (a_merit, .inl (cyI, 6, .inl c_merit)), (a_outAt, .inl (cyI, 6, .inl c_outAt)), (a_p1, .inr (0, [.ref a_p1_first, .ref a_p1_second, .ref a_p1_ending, .int v_p1_size])), (a_p1_ending, .inl (cyI, 30, .inl c_p1_ending)), (a_p1_first, .inl (cyI, 30, .inl c_p1_first)), (a_p1_second, .inl (cyI, 30, .inl c_p1_second)), (a_toCome, .inl (cyI, 6, .inl (upd (upd c_toCome (c_p1_first x2.toNatClampNeg).toNatClampNeg ((c_toCome (c_p1_first x2.toNatClampNeg).toNatClampNeg) + 1)) (c_p1_second x2.toNatClampNeg).toNatClampNeg (((upd c_toCome (c_p1_first x2.toNatClampNeg).toNatClampNeg ((c_toCome (c_p1_first x2.toNatClampNeg).toNatClampNeg) + 1)) (c_p1_second x2.toNatClampNeg).toNatClampNeg) + 1)))), (a_won, .inl (cyI, 6, .inl c_won))] H := hP
        have hD : va_D A [(h0, .inr (4, [.ref a_won, .ref a_order, .ref a_seat, .ref a_outAt, .ref a_merit, .ref a_toCome, .ref a_turn, .int v_sides])), (a_merit, .inl (cyI, 6, .inl c_merit)), (a_outAt, .inl (cyI, 6, .inl c_outAt)), (a_p1, .inr (0, [.ref a_p1_first, .ref a_p1_second, .ref a_p1_ending, .int v_p1_size])), (a_p1_ending, .inl (cyI, 30, .inl c_p1_ending)), (a_p1_first, .inl (cyI, 30, .inl c_p1_first)), (a_p1_second, .inl (cyI, 30, .inl c_p1_second)), (a_toCome, .inl (cyI, 6, .inl (upd (upd c_toCome (c_p1_first x2.toNatClampNeg).toNatClampNeg ((c_toCome (c_p1_first x2.toNatClampNeg).toNatClampNeg) + 1)) (c_p1_second x2.toNatClampNeg).toNatClampNeg (((upd c_toCome (c_p1_first x2.toNatClampNeg).toNatClampNeg ((c_toCome (c_p1_first x2.toNatClampNeg).toNatClampNeg) + 1)) (c_p1_second x2.toNatClampNeg).toNatClampNeg) + 1)))), (a_won, .inl (cyI, 6, .inl c_won))] := hD
        refine lv_iinc (v := x2 + 1) (lv' := [(2, .int (x2 + 1)), (0, .ref h0), (1, .ref a_p1)]) hx hb dX4_findOut_85 hl (k := 2) rfl rfl (by decide) rfl (fun ls hl => ?_)
        refine lv_goto (tgt := 47) hx hb dX4_findOut_88 (by decide) ?_
        exact hk47 (x2 + 1) c_merit c_outAt (upd (upd c_toCome (c_p1_first x2.toNatClampNeg).toNatClampNeg ((c_toCome (c_p1_first x2.toNatClampNeg).toNatClampNeg) + 1)) (c_p1_second x2.toNatClampNeg).toNatClampNeg (((upd c_toCome (c_p1_first x2.toNatClampNeg).toNatClampNeg ((c_toCome (c_p1_first x2.toNatClampNeg).toNatClampNeg) + 1)) (c_p1_second x2.toNatClampNeg).toNatClampNeg) + 1)) c_won H locs ls hf hP hD hS (lv_sub hl [1, 2, 0] rfl)
  have hB2 : ∀ (n : Nat), ∀ (x2 : Int32) (c_merit : Nat → Int32) (c_outAt : Nat → Int32) (c_toCome : Nat → Int32) (c_won : Nat → Int32) (H : Heap) (locs : List Loc) (ls : Array Slot), fX4_findOut_2 N v_sides v_p1_size c_p1_ending c_p1_first c_p1_second n x2 c_merit c_outAt c_toCome c_won = some q → va_P D vwCl [(h0, .inr (4, [.ref a_won, .ref a_order, .ref a_seat, .ref a_outAt, .ref a_merit, .ref a_toCome, .ref a_turn, .int v_sides])), (a_merit, .inl (cyI, 6, .inl c_merit)), (a_outAt, .inl (cyI, 6, .inl c_outAt)), (a_p1, .inr (0, [.ref a_p1_first, .ref a_p1_second, .ref a_p1_ending, .int v_p1_size])), (a_p1_ending, .inl (cyI, 30, .inl c_p1_ending)), (a_p1_first, .inl (cyI, 30, .inl c_p1_first)), (a_p1_second, .inl (cyI, 30, .inl c_p1_second)), (a_toCome, .inl (cyI, 6, .inl c_toCome)), (a_won, .inl (cyI, 6, .inl c_won))] H → va_D A [(h0, .inr (4, [.ref a_won, .ref a_order, .ref a_seat, .ref a_outAt, .ref a_merit, .ref a_toCome, .ref a_turn, .int v_sides])), (a_merit, .inl (cyI, 6, .inl c_merit)), (a_outAt, .inl (cyI, 6, .inl c_outAt)), (a_p1, .inr (0, [.ref a_p1_first, .ref a_p1_second, .ref a_p1_ending, .int v_p1_size])), (a_p1_ending, .inl (cyI, 30, .inl c_p1_ending)), (a_p1_first, .inl (cyI, 30, .inl c_p1_first)), (a_p1_second, .inl (cyI, 30, .inl c_p1_second)), (a_toCome, .inl (cyI, 6, .inl c_toCome)), (a_won, .inl (cyI, 6, .inl c_won))] → va_S A s.heap H locs → lv_has ls 4 [(0, .ref h0), (1, .ref a_p1), (2, .int x2)] → W p l e rmX4_findOut s m av below meth c H locs 0 0 Q (F0 m 2 ls []) := by
    intro n
    induction n with
    | zero => intro x2 c_merit c_outAt c_toCome c_won H locs ls hf; exact absurd hf (by simp [fX4_findOut_2])
    | succ n hk2 =>
      intro x2 c_merit c_outAt c_toCome c_won H locs ls hf hP hD hS hl
      rw [fX4_findOut_2] at hf
      refine lv_iload_n hx hb dX4_findOut_2 rfl (lv_at hl 2 rfl) ?_
      refine lv_aload_n hx hb dX4_findOut_3 rfl (lv_at hl 0 rfl) ?_
      refine va_get (D := D) (ci := 4) (v := .int v_sides) (C := RX4) (T := TX4) (N := 8) hx hb hL inlX4 hown hK.1 hP 0 rfl rfl 7 (by decide) w9 (fun _ h9 => h9) rfl dX4_findOut_4 ?_
      refine lv_icmp_ge (tgt := 45) hx hb dX4_findOut_7 (by decide) (fun c7 => ?_) (fun c7 => ?_)
      · have hf := pif_t c7 hf
        refine lv_iconst (v := 0) hx hb dX4_findOut_45 (by decide) ?_
        refine lv_istore_n (lv' := [(2, .int 0), (0, .ref h0), (1, .ref a_p1)]) hx hb dX4_findOut_46 rfl hl (by decide) rfl (fun ls hl => ?_)
        exact hB47 N 0 c_merit c_outAt c_toCome c_won H locs ls hf hP hD hS (lv_sub hl [1, 2, 0] rfl)
      · have hf := pif_f c7 hf
        refine lv_aload_n hx hb dX4_findOut_10 rfl (lv_at hl 0 rfl) ?_
        refine va_get (D := D) (ci := 4) (v := .ref a_outAt) (C := RX4) (T := TX4) (N := 8) hx hb hL inlX4 hown hK.1 hP 0 rfl rfl 3 (by decide) w10 (fun _ h9 => h9) rfl dX4_findOut_11 ?_
        refine lv_iload_n hx hb dX4_findOut_14 rfl (lv_at hl 2 rfl) ?_
        refine lv_bipush (v := (-4)) hx hb dX4_findOut_15 (by decide) ?_
        obtain ⟨h17, hf⟩ := pg_some hf
        refine va_iast hx hb hK.1 hP hD hS 2 0 rfl rfl h17 dX4_findOut_17 (fun H locs hP hD hS => ?_)
        have hP : va_P D vwCl [(h0, .inr (4, [.ref a_won, .ref a_order, .ref a_seat, .ref a_outAt, .ref a_merit, .ref a_toCome, .ref a_turn, .int v_sides])), (a_merit, .inl (cyI, 6, .inl c_merit)), (a_outAt, .inl (cyI, 6, .inl (upd c_outAt x2.toNatClampNeg (-4)))), (a_p1, .inr (0, [.ref a_p1_first, .ref a_p1_second, .ref a_p1_ending, .int v_p1_size])), (a_p1_ending, .inl (cyI, 30, .inl c_p1_ending)), (a_p1_first, .inl (cyI, 30, .inl c_p1_first)), (a_p1_second, .inl (cyI, 30, .inl c_p1_second)), (a_toCome, .inl (cyI, 6, .inl c_toCome)), (a_won, .inl (cyI, 6, .inl c_won))] H := hP
        have hD : va_D A [(h0, .inr (4, [.ref a_won, .ref a_order, .ref a_seat, .ref a_outAt, .ref a_merit, .ref a_toCome, .ref a_turn, .int v_sides])), (a_merit, .inl (cyI, 6, .inl c_merit)), (a_outAt, .inl (cyI, 6, .inl (upd c_outAt x2.toNatClampNeg (-4)))), (a_p1, .inr (0, [.ref a_p1_first, .ref a_p1_second, .ref a_p1_ending, .int v_p1_size])), (a_p1_ending, .inl (cyI, 30, .inl c_p1_ending)), (a_p1_first, .inl (cyI, 30, .inl c_p1_first)), (a_p1_second, .inl (cyI, 30, .inl c_p1_second)), (a_toCome, .inl (cyI, 6, .inl c_toCome)), (a_won, .inl (cyI, 6, .inl c_won))] := hD
        refine lv_aload_n hx hb dX4_findOut_18 rfl (lv_at hl 0 rfl) ?_
        refine va_get (D := D) (ci := 4) (v := .ref a_merit) (C := RX4) (T := TX4) (N := 8) hx hb hL inlX4 hown hK.1 hP 0 rfl rfl 4 (by decide) w11 (fun _ h9 => h9) rfl dX4_findOut_19 ?_
        refine lv_iload_n hx hb dX4_findOut_22 rfl (lv_at hl 2 rfl) ?_
        refine lv_iconst (v := (-1)) hx hb dX4_findOut_23 (by decide) ?_
        obtain ⟨h24, hf⟩ := pg_some hf
        refine va_iast hx hb hK.1 hP hD hS 1 0 rfl rfl h24 dX4_findOut_24 (fun H locs hP hD hS => ?_)
        have hP : va_P D vwCl [(h0, .inr (4, [.ref a_won, .ref a_order, .ref a_seat, .ref a_outAt, .ref a_merit, .ref a_toCome, .ref a_turn, .int v_sides])), (a_merit, .inl (cyI, 6, .inl (upd c_merit x2.toNatClampNeg (-1)))), (a_outAt, .inl (cyI, 6, .inl (upd c_outAt x2.toNatClampNeg (-4)))), (a_p1, .inr (0, [.ref a_p1_first, .ref a_p1_second, .ref a_p1_ending, .int v_p1_size])), (a_p1_ending, .inl (cyI, 30, .inl c_p1_ending)), (a_p1_first, .inl (cyI, 30, .inl c_p1_first)), (a_p1_second, .inl (cyI, 30, .inl c_p1_second)), (a_toCome, .inl (cyI, 6, .inl c_toCome)), (a_won, .inl (cyI, 6, .inl c_won))] H := hP
        have hD : va_D A [(h0, .inr (4, [.ref a_won, .ref a_order, .ref a_seat, .ref a_outAt, .ref a_merit, .ref a_toCome, .ref a_turn, .int v_sides])), (a_merit, .inl (cyI, 6, .inl (upd c_merit x2.toNatClampNeg (-1)))), (a_outAt, .inl (cyI, 6, .inl (upd c_outAt x2.toNatClampNeg (-4)))), (a_p1, .inr (0, [.ref a_p1_first, .ref a_p1_second, .ref a_p1_ending, .int v_p1_size])), (a_p1_ending, .inl (cyI, 30, .inl c_p1_ending)), (a_p1_first, .inl (cyI, 30, .inl c_p1_first)), (a_p1_second, .inl (cyI, 30, .inl c_p1_second)), (a_toCome, .inl (cyI, 6, .inl c_toCome)), (a_won, .inl (cyI, 6, .inl c_won))] := hD
        refine lv_aload_n hx hb dX4_findOut_25 rfl (lv_at hl 0 rfl) ?_
        refine va_get (D := D) (ci := 4) (v := .ref a_won) (C := RX4) (T := TX4) (N := 8) hx hb hL inlX4 hown hK.1 hP 0 rfl rfl 0 (by decide) w12 (fun _ h9 => h9) rfl dX4_findOut_26 ?_
        refine lv_iload_n hx hb dX4_findOut_29 rfl (lv_at hl 2 rfl) ?_
        refine lv_iconst (v := 0) hx hb dX4_findOut_30 (by decide) ?_
        obtain ⟨h31, hf⟩ := pg_some hf
        refine va_iast hx hb hK.1 hP hD hS 8 0 rfl rfl h31 dX4_findOut_31 (fun H locs hP hD hS => ?_)
        have hP : va_P D vwCl [(h0, .inr (4, [.ref a_won, .ref a_order, .ref a_seat, .ref a_outAt, .ref a_merit, .ref a_toCome, .ref a_turn, .int v_sides])), (a_merit, .inl (cyI, 6, .inl (upd c_merit x2.toNatClampNeg (-1)))), (a_outAt, .inl (cyI, 6, .inl (upd c_outAt x2.toNatClampNeg (-4)))), (a_p1, .inr (0, [.ref a_p1_first, .ref a_p1_second, .ref a_p1_ending, .int v_p1_size])), (a_p1_ending, .inl (cyI, 30, .inl c_p1_ending)), (a_p1_first, .inl (cyI, 30, .inl c_p1_first)), (a_p1_second, .inl (cyI, 30, .inl c_p1_second)), (a_toCome, .inl (cyI, 6, .inl c_toCome)), (a_won, .inl (cyI, 6, .inl (upd c_won x2.toNatClampNeg 0)))] H := hP
        have hD : va_D A [(h0, .inr (4, [.ref a_won, .ref a_order, .ref a_seat, .ref a_outAt, .ref a_merit, .ref a_toCome, .ref a_turn, .int v_sides])), (a_merit, .inl (cyI, 6, .inl (upd c_merit x2.toNatClampNeg (-1)))), (a_outAt, .inl (cyI, 6, .inl (upd c_outAt x2.toNatClampNeg (-4)))), (a_p1, .inr (0, [.ref a_p1_first, .ref a_p1_second, .ref a_p1_ending, .int v_p1_size])), (a_p1_ending, .inl (cyI, 30, .inl c_p1_ending)), (a_p1_first, .inl (cyI, 30, .inl c_p1_first)), (a_p1_second, .inl (cyI, 30, .inl c_p1_second)), (a_toCome, .inl (cyI, 6, .inl c_toCome)), (a_won, .inl (cyI, 6, .inl (upd c_won x2.toNatClampNeg 0)))] := hD
        refine lv_aload_n hx hb dX4_findOut_32 rfl (lv_at hl 0 rfl) ?_
        refine va_get (D := D) (ci := 4) (v := .ref a_toCome) (C := RX4) (T := TX4) (N := 8) hx hb hL inlX4 hown hK.1 hP 0 rfl rfl 5 (by decide) w2 (fun _ h9 => h9) rfl dX4_findOut_33 ?_
        refine lv_iload_n hx hb dX4_findOut_36 rfl (lv_at hl 2 rfl) ?_
        refine lv_iconst (v := 0) hx hb dX4_findOut_37 (by decide) ?_
        obtain ⟨h38, hf⟩ := pg_some hf
        refine va_iast hx hb hK.1 hP hD hS 7 0 rfl rfl h38 dX4_findOut_38 (fun H locs hP hD hS => ?_)
        have hP : va_P D vwCl [(h0, .inr (4, [.ref a_won, .ref a_order, .ref a_seat, .ref a_outAt, .ref a_merit, .ref a_toCome, .ref a_turn, .int v_sides])), (a_merit, .inl (cyI, 6, .inl (upd c_merit x2.toNatClampNeg (-1)))), (a_outAt, .inl (cyI, 6, .inl (upd c_outAt x2.toNatClampNeg (-4)))), (a_p1, .inr (0, [.ref a_p1_first, .ref a_p1_second, .ref a_p1_ending, .int v_p1_size])), (a_p1_ending, .inl (cyI, 30, .inl c_p1_ending)), (a_p1_first, .inl (cyI, 30, .inl c_p1_first)), (a_p1_second, .inl (cyI, 30, .inl c_p1_second)), (a_toCome, .inl (cyI, 6, .inl (upd c_toCome x2.toNatClampNeg 0))), (a_won, .inl (cyI, 6, .inl (upd c_won x2.toNatClampNeg 0)))] H := hP
        have hD : va_D A [(h0, .inr (4, [.ref a_won, .ref a_order, .ref a_seat, .ref a_outAt, .ref a_merit, .ref a_toCome, .ref a_turn, .int v_sides])), (a_merit, .inl (cyI, 6, .inl (upd c_merit x2.toNatClampNeg (-1)))), (a_outAt, .inl (cyI, 6, .inl (upd c_outAt x2.toNatClampNeg (-4)))), (a_p1, .inr (0, [.ref a_p1_first, .ref a_p1_second, .ref a_p1_ending, .int v_p1_size])), (a_p1_ending, .inl (cyI, 30, .inl c_p1_ending)), (a_p1_first, .inl (cyI, 30, .inl c_p1_first)), (a_p1_second, .inl (cyI, 30, .inl c_p1_second)), (a_toCome, .inl (cyI, 6, .inl (upd c_toCome x2.toNatClampNeg 0))), (a_won, .inl (cyI, 6, .inl (upd c_won x2.toNatClampNeg 0)))] := hD
        refine lv_iinc (v := x2 + 1) (lv' := [(2, .int (x2 + 1)), (0, .ref h0), (1, .ref a_p1)]) hx hb dX4_findOut_39 hl (k := 2) rfl rfl (by decide) rfl (fun ls hl => ?_)
        refine lv_goto (tgt := 2) hx hb dX4_findOut_42 (by decide) ?_
        exact hk2 (x2 + 1) (upd c_merit x2.toNatClampNeg (-1)) (upd c_outAt x2.toNatClampNeg (-4)) (upd c_toCome x2.toNatClampNeg 0) (upd c_won x2.toNatClampNeg 0) H locs ls hf hP hD hS (lv_sub hl [1, 2, 0] rfl)
  unfold fX4_findOut at hf
  obtain ⟨H, hH⟩ : ∃ H : Heap, H = s.heap := ⟨_, rfl⟩
  obtain ⟨locs, hlo⟩ : ∃ locs : List Loc, locs = [] := ⟨_, rfl⟩
  have hP : va_P D vwCl [(h0, .inr (4, [.ref a_won, .ref a_order, .ref a_seat, .ref a_outAt, .ref a_merit, .ref a_toCome, .ref a_turn, .int v_sides])), (a_merit, .inl (cyI, 6, .inl c_merit)), (a_outAt, .inl (cyI, 6, .inl c_outAt)), (a_p1, .inr (0, [.ref a_p1_first, .ref a_p1_second, .ref a_p1_ending, .int v_p1_size])), (a_p1_ending, .inl (cyI, 30, .inl c_p1_ending)), (a_p1_first, .inl (cyI, 30, .inl c_p1_first)), (a_p1_second, .inl (cyI, 30, .inl c_p1_second)), (a_toCome, .inl (cyI, 6, .inl c_toCome)), (a_won, .inl (cyI, 6, .inl c_won))] H := by rw [hH]; exact hP
  have hS : va_S A s.heap H locs := by rw [hH, hlo]; exact hS
  suffices hw : W p l e rmX4_findOut s m av below meth c H locs 0 0 Q (F0 m 0 ls []) by rw [hH, hlo] at hw; exact hw
  refine lv_iconst (v := 0) hx hb dX4_findOut_0 (by decide) ?_
  refine lv_istore_n (lv' := [(2, .int 0), (0, .ref h0), (1, .ref a_p1)]) hx hb dX4_findOut_1 rfl hl (by decide) rfl (fun ls hl => ?_)
  exact hB2 N 0 c_merit c_outAt c_toCome c_won H locs ls hf hP hD hS (lv_sub hl [1, 2, 0] rfl)
abbrev rmX4_turnWheel : Room := { frames := 0, cells := 0, slots := 0, locals := 0 }
set_option maxHeartbeats 40000000 in
set_option maxRecDepth 100000 in
theorem mX4_turnWheel (l : Launch) (D : va_G) (cyI cyJ cyB cyS : ClassId) (N : Nat) (sz : Nat) (h0 : Nat) (a_p1 : Nat) (a_p1_wheel : Nat) (a_turn : Nat) (a_won : Nat) (a_order : Nat) (a_seat : Nat) (a_outAt : Nat) (a_merit : Nat) (a_toCome : Nat) (a_p1_strength : Nat) (a_p1_placeWorth : Nat) (a_p1_choiceWorth : Nat) (a_p1_balls : Nat) (v_sides : Int32) (v_p1_sides : Int32) (v_p1_kind : Int32) (v_p1_rounds : Int32) (c_p1_wheel : Nat → Int32) (c_turn : Nat → Int32) (q : (Nat → Int32)) (hf : fX4_turnWheel N v_sides c_p1_wheel c_turn = some q) : Met l yX4_turnWheel (wS yX4_turnWheel cX4_turnWheel 3 none) rmX4_turnWheel (va_Pc [.ref h0, .ref a_p1] (PP D cyI cyJ cyB cyS [(h0, .inr (4, [.ref a_won, .ref a_order, .ref a_seat, .ref a_outAt, .ref a_merit, .ref a_toCome, .ref a_turn, .int v_sides])), (a_p1, .inr (2, [.ref a_p1_strength, .ref a_p1_placeWorth, .ref a_p1_choiceWorth, .ref a_p1_balls, .ref a_p1_wheel, .int v_p1_sides, .int v_p1_kind, .int v_p1_rounds])), (a_p1_wheel, .inl (cyI, 6, .inl c_p1_wheel)), (a_turn, .inl (cyI, 6, .inl c_turn))] sz)) (QV D [(h0, .inr (4, [.ref a_won, .ref a_order, .ref a_seat, .ref a_outAt, .ref a_merit, .ref a_toCome, .ref a_turn, .int v_sides])), (a_p1, .inr (2, [.ref a_p1_strength, .ref a_p1_placeWorth, .ref a_p1_choiceWorth, .ref a_p1_balls, .ref a_p1_wheel, .int v_p1_sides, .int v_p1_kind, .int v_p1_rounds])), (a_p1_wheel, .inl (cyI, 6, .inl c_p1_wheel)), (a_turn, .inl (cyI, 6, .inl q))] (va_A [(h0, .inr (4, [.ref a_won, .ref a_order, .ref a_seat, .ref a_outAt, .ref a_merit, .ref a_toCome, .ref a_turn, .int v_sides])), (a_p1, .inr (2, [.ref a_p1_strength, .ref a_p1_placeWorth, .ref a_p1_choiceWorth, .ref a_p1_balls, .ref a_p1_wheel, .int v_p1_sides, .int v_p1_kind, .int v_p1_rounds])), (a_p1_wheel, .inl (cyI, 6, .inl c_p1_wheel)), (a_turn, .inl (cyI, 6, .inl c_turn))] sz)) 0 0 (va_A [(h0, .inr (4, [.ref a_won, .ref a_order, .ref a_seat, .ref a_outAt, .ref a_merit, .ref a_toCome, .ref a_turn, .int v_sides])), (a_p1, .inr (2, [.ref a_p1_strength, .ref a_p1_placeWorth, .ref a_p1_choiceWorth, .ref a_p1_balls, .ref a_p1_wheel, .int v_p1_sides, .int v_p1_kind, .int v_p1_rounds])), (a_p1_wheel, .inl (cyI, 6, .inl c_p1_wheel)), (a_turn, .inl (cyI, 6, .inl c_turn))] sz) := by
  refine Met.ofW (cc := cX4_turnWheel) (maxL := 3) (ret := none) (by decide) rfl ?_
  intro p e s m args below meth c s₁ B hml hv
  obtain ⟨rfl, hsz, hP, hK, hD0⟩ := hv
  have hx := B.exec
  have hb := B.bytes
  have hr := B.returns
  have hts := atoms_spec (ws := (wS yX4_turnWheel cX4_turnWheel 3 none)) B.pre
  have hown : s.vm.findClass RX4 = some m.cls := findClass_of_methodNamed B.named
  have hlocks := B.notSynchronized
  subst hsz
  have hD := hD0.self (sz := s.heap.size)
  refine w_nameQ (fun Q hQ => ?_)
  have hl := lv_entry ([.ref h0, .ref a_p1] : List Value) (n := 3) (Nat.le_of_ble_eq_true rfl)
  rw [lg_entry_eq]
  generalize (lg_sl ([.ref h0, .ref a_p1] : List Value) ++ List.replicate (3 - (lg_sl ([.ref h0, .ref a_p1] : List Value)).length) Slot.unset).toArray = ls at hl ⊢
  have hl : lv_has ls 3 [(0, .ref h0), (1, .ref a_p1)] := hl
  generalize hAe : va_A [(h0, .inr (4, [.ref a_won, .ref a_order, .ref a_seat, .ref a_outAt, .ref a_merit, .ref a_toCome, .ref a_turn, .int v_sides])), (a_p1, .inr (2, [.ref a_p1_strength, .ref a_p1_placeWorth, .ref a_p1_choiceWorth, .ref a_p1_balls, .ref a_p1_wheel, .int v_p1_sides, .int v_p1_kind, .int v_p1_rounds])), (a_p1_wheel, .inl (cyI, 6, .inl c_p1_wheel)), (a_turn, .inl (cyI, 6, .inl c_turn))] s.heap.size = A at hD hQ
  have hA : ∀ q : Nat, s.heap.size ≤ q → A q := fun q h => by rw [← hAe]; exact Or.inr h
  have hS : va_S A s.heap s.heap [] := va_S.rf
  generalize ([.ref h0, .ref a_p1] : List Value).toArray = av at hts hQ ⊢
  have hL : ∀ w ∈ wsL_law, w.before av s = true := fun w h => hts w (List.mem_cons_of_mem _ h)
  have w0 := hL (.fieldLink RX4 33 "LosingLeague$Standing" "sides" "I") (hR22 21 rfl)
  have w1 := hL (.fieldLink RX4 30 "LosingLeague$Standing" "turn" "[I") (hR3 17 rfl)
  have w2 := hL (.fieldLink RX4 93 "LosingLeague$Rules" "wheel" "[I") (hR29 0 rfl)
  have hB2 : ∀ (n : Nat), ∀ (x2 : Int32) (c_turn : Nat → Int32) (H : Heap) (locs : List Loc) (ls : Array Slot), fX4_turnWheel_2 N v_sides c_p1_wheel n x2 c_turn = some q → va_P D vwCl [(h0, .inr (4, [.ref a_won, .ref a_order, .ref a_seat, .ref a_outAt, .ref a_merit, .ref a_toCome, .ref a_turn, .int v_sides])), (a_p1, .inr (2, [.ref a_p1_strength, .ref a_p1_placeWorth, .ref a_p1_choiceWorth, .ref a_p1_balls, .ref a_p1_wheel, .int v_p1_sides, .int v_p1_kind, .int v_p1_rounds])), (a_p1_wheel, .inl (cyI, 6, .inl c_p1_wheel)), (a_turn, .inl (cyI, 6, .inl c_turn))] H → va_D A [(h0, .inr (4, [.ref a_won, .ref a_order, .ref a_seat, .ref a_outAt, .ref a_merit, .ref a_toCome, .ref a_turn, .int v_sides])), (a_p1, .inr (2, [.ref a_p1_strength, .ref a_p1_placeWorth, .ref a_p1_choiceWorth, .ref a_p1_balls, .ref a_p1_wheel, .int v_p1_sides, .int v_p1_kind, .int v_p1_rounds])), (a_p1_wheel, .inl (cyI, 6, .inl c_p1_wheel)), (a_turn, .inl (cyI, 6, .inl c_turn))] → va_S A s.heap H locs → lv_has ls 3 [(0, .ref h0), (1, .ref a_p1), (2, .int x2)] → W p l e rmX4_turnWheel s m av below meth c H locs 0 0 Q (F0 m 2 ls []) := by
    intro n
    induction n with
    | zero => intro x2 c_turn H locs ls hf; exact absurd hf (by simp [fX4_turnWheel_2])
    | succ n hk2 =>
      intro x2 c_turn H locs ls hf hP hD hS hl
      rw [fX4_turnWheel_2] at hf
      refine lv_iload_n hx hb dX4_turnWheel_2 rfl (lv_at hl 2 rfl) ?_
      refine lv_aload_n hx hb dX4_turnWheel_3 rfl (lv_at hl 0 rfl) ?_
      refine va_get (D := D) (ci := 4) (v := .int v_sides) (C := RX4) (T := TX4) (N := 8) hx hb hL inlX4 hown hK.1 hP 0 rfl rfl 7 (by decide) w0 (fun _ h9 => h9) rfl dX4_turnWheel_4 ?_
      refine lv_icmp_ge (tgt := 28) hx hb dX4_turnWheel_7 (by decide) (fun c7 => ?_) (fun c7 => ?_)
      · have hf := pif_t c7 hf
        exact ret_v (q := q) (wp := fun q => [(h0, .inr (4, [.ref a_won, .ref a_order, .ref a_seat, .ref a_outAt, .ref a_merit, .ref a_toCome, .ref a_turn, .int v_sides])), (a_p1, .inr (2, [.ref a_p1_strength, .ref a_p1_placeWorth, .ref a_p1_choiceWorth, .ref a_p1_balls, .ref a_p1_wheel, .int v_p1_sides, .int v_p1_kind, .int v_p1_rounds])), (a_p1_wheel, .inl (cyI, 6, .inl c_p1_wheel)), (a_turn, .inl (cyI, 6, .inl q))]) hQ hf hx hb hr hlocks hP hD hS dX4_turnWheel_28
      · have hf := pif_f c7 hf
        refine lv_aload_n hx hb dX4_turnWheel_10 rfl (lv_at hl 0 rfl) ?_
        refine va_get (D := D) (ci := 4) (v := .ref a_turn) (C := RX4) (T := TX4) (N := 8) hx hb hL inlX4 hown hK.1 hP 0 rfl rfl 6 (by decide) w1 (fun _ h9 => h9) rfl dX4_turnWheel_11 ?_
        refine lv_iload_n hx hb dX4_turnWheel_14 rfl (lv_at hl 2 rfl) ?_
        refine lv_aload_n hx hb dX4_turnWheel_15 rfl (lv_at hl 1 rfl) ?_
        refine va_get (D := D) (ci := 2) (v := .ref a_p1_wheel) (C := RX2) (T := TX2) (N := 8) hx hb hL inlX2 hown hK.1 hP 1 rfl rfl 4 (by decide) w2 (fun _ h9 => h9) rfl dX4_turnWheel_16 ?_
        refine lv_iload_n hx hb dX4_turnWheel_19 rfl (lv_at hl 2 rfl) ?_
        obtain ⟨h20, hf⟩ := pg_some hf
        refine va_iald hx hb hK.1 hP 2 0 rfl rfl h20 dX4_turnWheel_20 ?_
        obtain ⟨h21, hf⟩ := pg_some hf
        refine va_iast hx hb hK.1 hP hD hS 3 0 rfl rfl h21 dX4_turnWheel_21 (fun H locs hP hD hS => ?_)
        have hP : va_P D vwCl [(h0, .inr (4, [.ref a_won, .ref a_order, .ref a_seat, .ref a_outAt, .ref a_merit, .ref a_toCome, .ref a_turn, .int v_sides])), (a_p1, .inr (2, [.ref a_p1_strength, .ref a_p1_placeWorth, .ref a_p1_choiceWorth, .ref a_p1_balls, .ref a_p1_wheel, .int v_p1_sides, .int v_p1_kind, .int v_p1_rounds])), (a_p1_wheel, .inl (cyI, 6, .inl c_p1_wheel)), (a_turn, .inl (cyI, 6, .inl (upd c_turn x2.toNatClampNeg (c_p1_wheel x2.toNatClampNeg))))] H := hP
        have hD : va_D A [(h0, .inr (4, [.ref a_won, .ref a_order, .ref a_seat, .ref a_outAt, .ref a_merit, .ref a_toCome, .ref a_turn, .int v_sides])), (a_p1, .inr (2, [.ref a_p1_strength, .ref a_p1_placeWorth, .ref a_p1_choiceWorth, .ref a_p1_balls, .ref a_p1_wheel, .int v_p1_sides, .int v_p1_kind, .int v_p1_rounds])), (a_p1_wheel, .inl (cyI, 6, .inl c_p1_wheel)), (a_turn, .inl (cyI, 6, .inl (upd c_turn x2.toNatClampNeg (c_p1_wheel x2.toNatClampNeg))))] := hD
        refine lv_iinc (v := x2 + 1) (lv' := [(2, .int (x2 + 1)), (0, .ref h0), (1, .ref a_p1)]) hx hb dX4_turnWheel_22 hl (k := 2) rfl rfl (by decide) rfl (fun ls hl => ?_)
        refine lv_goto (tgt := 2) hx hb dX4_turnWheel_25 (by decide) ?_
        exact hk2 (x2 + 1) (upd c_turn x2.toNatClampNeg (c_p1_wheel x2.toNatClampNeg)) H locs ls hf hP hD hS (lv_sub hl [1, 2, 0] rfl)
  unfold fX4_turnWheel at hf
  obtain ⟨H, hH⟩ : ∃ H : Heap, H = s.heap := ⟨_, rfl⟩
  obtain ⟨locs, hlo⟩ : ∃ locs : List Loc, locs = [] := ⟨_, rfl⟩
  have hP : va_P D vwCl [(h0, .inr (4, [.ref a_won, .ref a_order, .ref a_seat, .ref a_outAt, .ref a_merit, .ref a_toCome, .ref a_turn, .int v_sides])), (a_p1, .inr (2, [.ref a_p1_strength, .ref a_p1_placeWorth, .ref a_p1_choiceWorth, .ref a_p1_balls, .ref a_p1_wheel, .int v_p1_sides, .int v_p1_kind, .int v_p1_rounds])), (a_p1_wheel, .inl (cyI, 6, .inl c_p1_wheel)), (a_turn, .inl (cyI, 6, .inl c_turn))] H := by rw [hH]; exact hP
  have hS : va_S A s.heap H locs := by rw [hH, hlo]; exact hS
  suffices hw : W p l e rmX4_turnWheel s m av below meth c H locs 0 0 Q (F0 m 0 ls []) by rw [hH, hlo] at hw; exact hw
  refine lv_iconst (v := 0) hx hb dX4_turnWheel_0 (by decide) ?_
  refine lv_istore_n (lv' := [(2, .int 0), (0, .ref h0), (1, .ref a_p1)]) hx hb dX4_turnWheel_1 rfl hl (by decide) rfl (fun ls hl => ?_)
  exact hB2 N 0 c_turn H locs ls hf hP hD hS (lv_sub hl [1, 2, 0] rfl)
abbrev rmX4_chooseByDay : Room := { frames := 1, cells := 0, slots := 0, locals := 21 }
set_option maxHeartbeats 40000000 in
set_option maxRecDepth 100000 in
theorem mX4_chooseByDay (l : Launch) (D : va_G) (cyI cyJ cyB cyS : ClassId) (N : Nat) (sz : Nat) (h0 : Nat) (a_merit : Nat) (a_order : Nat) (a_turn : Nat) (a_won : Nat) (a_seat : Nat) (a_outAt : Nat) (a_toCome : Nat) (v_sides : Int32) (c_merit : Nat → Int32) (c_order : Nat → Int32) (c_turn : Nat → Int32) (q : (Nat → Int32)) (hf : fX4_chooseByDay N v_sides c_merit c_order c_turn = some q) : Met l yX4_chooseByDay (wS yX4_chooseByDay cX4_chooseByDay 4 none) rmX4_chooseByDay (va_Pc [.ref h0] (PP D cyI cyJ cyB cyS [(h0, .inr (4, [.ref a_won, .ref a_order, .ref a_seat, .ref a_outAt, .ref a_merit, .ref a_toCome, .ref a_turn, .int v_sides])), (a_merit, .inl (cyI, 6, .inl c_merit)), (a_order, .inl (cyI, 6, .inl c_order)), (a_turn, .inl (cyI, 6, .inl c_turn))] sz)) (QV D [(h0, .inr (4, [.ref a_won, .ref a_order, .ref a_seat, .ref a_outAt, .ref a_merit, .ref a_toCome, .ref a_turn, .int v_sides])), (a_merit, .inl (cyI, 6, .inl c_merit)), (a_order, .inl (cyI, 6, .inl c_order)), (a_turn, .inl (cyI, 6, .inl q))] (va_A [(h0, .inr (4, [.ref a_won, .ref a_order, .ref a_seat, .ref a_outAt, .ref a_merit, .ref a_toCome, .ref a_turn, .int v_sides])), (a_merit, .inl (cyI, 6, .inl c_merit)), (a_order, .inl (cyI, 6, .inl c_order)), (a_turn, .inl (cyI, 6, .inl c_turn))] sz)) 0 0 (va_A [(h0, .inr (4, [.ref a_won, .ref a_order, .ref a_seat, .ref a_outAt, .ref a_merit, .ref a_toCome, .ref a_turn, .int v_sides])), (a_merit, .inl (cyI, 6, .inl c_merit)), (a_order, .inl (cyI, 6, .inl c_order)), (a_turn, .inl (cyI, 6, .inl c_turn))] sz) := by
  refine Met.ofW (cc := cX4_chooseByDay) (maxL := 4) (ret := none) (by decide) rfl ?_
  intro p e s m args below meth c s₁ B hml hv
  obtain ⟨rfl, hsz, hP, hK, hD0⟩ := hv
  have hx := B.exec
  have hb := B.bytes
  have hr := B.returns
  have hts := atoms_spec (ws := (wS yX4_chooseByDay cX4_chooseByDay 4 none)) B.pre
  have hown : s.vm.findClass RX4 = some m.cls := findClass_of_methodNamed B.named
  have hlocks := B.notSynchronized
  subst hsz
  have hD := hD0.self (sz := s.heap.size)
  refine w_nameQ (fun Q hQ => ?_)
  have hl := lv_entry ([.ref h0] : List Value) (n := 4) (Nat.le_of_ble_eq_true rfl)
  rw [lg_entry_eq]
  generalize (lg_sl ([.ref h0] : List Value) ++ List.replicate (4 - (lg_sl ([.ref h0] : List Value)).length) Slot.unset).toArray = ls at hl ⊢
  have hl : lv_has ls 4 [(0, .ref h0)] := hl
  generalize hAe : va_A [(h0, .inr (4, [.ref a_won, .ref a_order, .ref a_seat, .ref a_outAt, .ref a_merit, .ref a_toCome, .ref a_turn, .int v_sides])), (a_merit, .inl (cyI, 6, .inl c_merit)), (a_order, .inl (cyI, 6, .inl c_order)), (a_turn, .inl (cyI, 6, .inl c_turn))] s.heap.size = A at hD hQ
  have hA : ∀ q : Nat, s.heap.size ≤ q → A q := fun q h => by rw [← hAe]; exact Or.inr h
  have hS : va_S A s.heap s.heap [] := va_S.rf
  generalize ([.ref h0] : List Value).toArray = av at hts hQ ⊢
  have hL : ∀ w ∈ wsL_law, w.before av s = true := fun w h => hts w (List.mem_cons_of_mem _ h)
  have w0 := hL (.fieldLink RX4 30 "LosingLeague$Standing" "turn" "[I") (hR3 17 rfl)
  have w1 := hL (.fieldLink RX4 24 "LosingLeague$Standing" "merit" "[I") (hR3 15 rfl)
  have w2 := hL (.fieldLink RX4 33 "LosingLeague$Standing" "sides" "I") (hR22 21 rfl)
  have hB64 : ∀ (k2 : Int32 → (Nat → Int32) → Option ((Nat → Int32))) (hk2 : ∀ (x1 : Int32) (c_turn : Nat → Int32) (H : Heap) (locs : List Loc) (ls : Array Slot), k2 x1 c_turn = some q → va_P D vwCl [(h0, .inr (4, [.ref a_won, .ref a_order, .ref a_seat, .ref a_outAt, .ref a_merit, .ref a_toCome, .ref a_turn, .int v_sides])), (a_merit, .inl (cyI, 6, .inl c_merit)), (a_order, .inl (cyI, 6, .inl c_order)), (a_turn, .inl (cyI, 6, .inl c_turn))] H → va_D A [(h0, .inr (4, [.ref a_won, .ref a_order, .ref a_seat, .ref a_outAt, .ref a_merit, .ref a_toCome, .ref a_turn, .int v_sides])), (a_merit, .inl (cyI, 6, .inl c_merit)), (a_order, .inl (cyI, 6, .inl c_order)), (a_turn, .inl (cyI, 6, .inl c_turn))] → va_S A s.heap H locs → lv_has ls 4 [(0, .ref h0), (1, .int x1)] → W p l e rmX4_chooseByDay s m av below meth c H locs 0 0 Q (F0 m 2 ls [])), ∀ (x1 : Int32) (x2 : Int32) (x3 : Int32) (c_turn : Nat → Int32) (H : Heap) (locs : List Loc) (ls : Array Slot), fX4_chooseByDay_64 N v_sides c_merit c_order k2 x1 x2 x3 c_turn = some q → va_P D vwCl [(h0, .inr (4, [.ref a_won, .ref a_order, .ref a_seat, .ref a_outAt, .ref a_merit, .ref a_toCome, .ref a_turn, .int v_sides])), (a_merit, .inl (cyI, 6, .inl c_merit)), (a_order, .inl (cyI, 6, .inl c_order)), (a_turn, .inl (cyI, 6, .inl c_turn))] H → va_D A [(h0, .inr (4, [.ref a_won, .ref a_order, .ref a_seat, .ref a_outAt, .ref a_merit, .ref a_toCome, .ref a_turn, .int v_sides])), (a_merit, .inl (cyI, 6, .inl c_merit)), (a_order, .inl (cyI, 6, .inl c_order)), (a_turn, .inl (cyI, 6, .inl c_turn))] → va_S A s.heap H locs → lv_has ls 4 [(0, .ref h0), (1, .int x1), (2, .int x2), (3, .int x3)] → W p l e rmX4_chooseByDay s m av below meth c H locs 0 0 Q (F0 m 64 ls []) := by
    intro k2 hk2 x1 x2 x3 c_turn H locs ls hf hP hD hS hl
    unfold fX4_chooseByDay_64 at hf
    refine lv_aload_n hx hb dX4_chooseByDay_64 rfl (lv_at hl 0 rfl) ?_
    refine va_get (D := D) (ci := 4) (v := .ref a_turn) (C := RX4) (T := TX4) (N := 8) hx hb hL inlX4 hown hK.1 hP 0 rfl rfl 6 (by decide) w0 (fun _ h9 => h9) rfl dX4_chooseByDay_65 ?_
    refine lv_iload_n hx hb dX4_chooseByDay_68 rfl (lv_at hl 3 rfl) ?_
    refine lv_iload_n hx hb dX4_chooseByDay_69 rfl (lv_at hl 2 rfl) ?_
    obtain ⟨h70, hf⟩ := pg_some hf
    refine va_iast hx hb hK.1 hP hD hS 3 0 rfl rfl h70 dX4_chooseByDay_70 (fun H locs hP hD hS => ?_)
    have hP : va_P D vwCl [(h0, .inr (4, [.ref a_won, .ref a_order, .ref a_seat, .ref a_outAt, .ref a_merit, .ref a_toCome, .ref a_turn, .int v_sides])), (a_merit, .inl (cyI, 6, .inl c_merit)), (a_order, .inl (cyI, 6, .inl c_order)), (a_turn, .inl (cyI, 6, .inl (upd c_turn x3.toNatClampNeg x2)))] H := hP
    have hD : va_D A [(h0, .inr (4, [.ref a_won, .ref a_order, .ref a_seat, .ref a_outAt, .ref a_merit, .ref a_toCome, .ref a_turn, .int v_sides])), (a_merit, .inl (cyI, 6, .inl c_merit)), (a_order, .inl (cyI, 6, .inl c_order)), (a_turn, .inl (cyI, 6, .inl (upd c_turn x3.toNatClampNeg x2)))] := hD
    refine lv_iinc (v := x1 + 1) (lv' := [(1, .int (x1 + 1)), (0, .ref h0), (2, .int x2), (3, .int x3)]) hx hb dX4_chooseByDay_71 hl (k := 1) rfl rfl (by decide) rfl (fun ls hl => ?_)
    refine lv_goto (tgt := 2) hx hb dX4_chooseByDay_74 (by decide) ?_
    exact hk2 (x1 + 1) (upd c_turn x3.toNatClampNeg x2) H locs ls hf hP hD hS (lv_sub hl [1, 0] rfl)
  have hB18 : ∀ (k2 : Int32 → (Nat → Int32) → Option ((Nat → Int32))) (hk2 : ∀ (x1 : Int32) (c_turn : Nat → Int32) (H : Heap) (locs : List Loc) (ls : Array Slot), k2 x1 c_turn = some q → va_P D vwCl [(h0, .inr (4, [.ref a_won, .ref a_order, .ref a_seat, .ref a_outAt, .ref a_merit, .ref a_toCome, .ref a_turn, .int v_sides])), (a_merit, .inl (cyI, 6, .inl c_merit)), (a_order, .inl (cyI, 6, .inl c_order)), (a_turn, .inl (cyI, 6, .inl c_turn))] H → va_D A [(h0, .inr (4, [.ref a_won, .ref a_order, .ref a_seat, .ref a_outAt, .ref a_merit, .ref a_toCome, .ref a_turn, .int v_sides])), (a_merit, .inl (cyI, 6, .inl c_merit)), (a_order, .inl (cyI, 6, .inl c_order)), (a_turn, .inl (cyI, 6, .inl c_turn))] → va_S A s.heap H locs → lv_has ls 4 [(0, .ref h0), (1, .int x1)] → W p l e rmX4_chooseByDay s m av below meth c H locs 0 0 Q (F0 m 2 ls [])) (n : Nat), ∀ (x1 : Int32) (x2 : Int32) (x3 : Int32) (c_turn : Nat → Int32) (H : Heap) (locs : List Loc) (ls : Array Slot), fX4_chooseByDay_18 N v_sides c_merit c_order k2 n x1 x2 x3 c_turn = some q → va_P D vwCl [(h0, .inr (4, [.ref a_won, .ref a_order, .ref a_seat, .ref a_outAt, .ref a_merit, .ref a_toCome, .ref a_turn, .int v_sides])), (a_merit, .inl (cyI, 6, .inl c_merit)), (a_order, .inl (cyI, 6, .inl c_order)), (a_turn, .inl (cyI, 6, .inl c_turn))] H → va_D A [(h0, .inr (4, [.ref a_won, .ref a_order, .ref a_seat, .ref a_outAt, .ref a_merit, .ref a_toCome, .ref a_turn, .int v_sides])), (a_merit, .inl (cyI, 6, .inl c_merit)), (a_order, .inl (cyI, 6, .inl c_order)), (a_turn, .inl (cyI, 6, .inl c_turn))] → va_S A s.heap H locs → lv_has ls 4 [(0, .ref h0), (1, .int x1), (2, .int x2), (3, .int x3)] → W p l e rmX4_chooseByDay s m av below meth c H locs 0 0 Q (F0 m 18 ls []) := by
    intro k2 hk2 n
    induction n with
    | zero => intro x1 x2 x3 c_turn H locs ls hf; exact absurd hf (by simp [fX4_chooseByDay_18])
    | succ n hk18 =>
      intro x1 x2 x3 c_turn H locs ls hf hP hD hS hl
      rw [fX4_chooseByDay_18] at hf
      refine lv_iload_n hx hb dX4_chooseByDay_18 rfl (lv_at hl 3 rfl) ?_
      refine lv_if_le (tgt := 64) hx hb dX4_chooseByDay_19 (by decide) (fun c19 => ?_) (fun c19 => ?_)
      · have hf := pif_t c19 hf
        exact hB64 k2 hk2 x1 x2 x3 c_turn H locs ls hf hP hD hS (lv_sub hl [0, 1, 2, 3] rfl)
      · have hf := pif_f c19 hf
        refine lv_aload_n hx hb dX4_chooseByDay_22 rfl (lv_at hl 0 rfl) ?_
        refine va_get (D := D) (ci := 4) (v := .ref a_merit) (C := RX4) (T := TX4) (N := 8) hx hb hL inlX4 hown hK.1 hP 0 rfl rfl 4 (by decide) w1 (fun _ h9 => h9) rfl dX4_chooseByDay_23 ?_
        refine lv_aload_n hx hb dX4_chooseByDay_26 rfl (lv_at hl 0 rfl) ?_
        refine va_get (D := D) (ci := 4) (v := .ref a_turn) (C := RX4) (T := TX4) (N := 8) hx hb hL inlX4 hown hK.1 hP 0 rfl rfl 6 (by decide) w0 (fun _ h9 => h9) rfl dX4_chooseByDay_27 ?_
        refine lv_iload_n hx hb dX4_chooseByDay_30 rfl (lv_at hl 3 rfl) ?_
        refine lv_iconst (v := 1) hx hb dX4_chooseByDay_31 (by decide) ?_
        refine lv_isub hx hb dX4_chooseByDay_32 ?_
        obtain ⟨h33, hf⟩ := pg_some hf
        refine va_iald hx hb hK.1 hP 3 0 rfl rfl h33 dX4_chooseByDay_33 ?_
        obtain ⟨h34, hf⟩ := pg_some hf
        refine va_iald hx hb hK.1 hP 1 0 rfl rfl h34 dX4_chooseByDay_34 ?_
        refine lv_aload_n hx hb dX4_chooseByDay_35 rfl (lv_at hl 0 rfl) ?_
        refine va_get (D := D) (ci := 4) (v := .ref a_merit) (C := RX4) (T := TX4) (N := 8) hx hb hL inlX4 hown hK.1 hP 0 rfl rfl 4 (by decide) w1 (fun _ h9 => h9) rfl dX4_chooseByDay_36 ?_
        refine lv_iload_n hx hb dX4_chooseByDay_39 rfl (lv_at hl 2 rfl) ?_
        obtain ⟨h40, hf⟩ := pg_some hf
        refine va_iald hx hb hK.1 hP 1 0 rfl rfl h40 dX4_chooseByDay_40 ?_
        refine lv_icmp_ge (tgt := 64) hx hb dX4_chooseByDay_41 (by decide) (fun c41 => ?_) (fun c41 => ?_)
        · have hf := pif_t c41 hf
          exact hB64 k2 hk2 x1 x2 x3 c_turn H locs ls hf hP hD hS (lv_sub hl [0, 1, 2, 3] rfl)
        · have hf := pif_f c41 hf
          refine lv_aload_n hx hb dX4_chooseByDay_44 rfl (lv_at hl 0 rfl) ?_
          refine va_get (D := D) (ci := 4) (v := .ref a_turn) (C := RX4) (T := TX4) (N := 8) hx hb hL inlX4 hown hK.1 hP 0 rfl rfl 6 (by decide) w0 (fun _ h9 => h9) rfl dX4_chooseByDay_45 ?_
          refine lv_iload_n hx hb dX4_chooseByDay_48 rfl (lv_at hl 3 rfl) ?_
          refine lv_aload_n hx hb dX4_chooseByDay_49 rfl (lv_at hl 0 rfl) ?_
          refine va_get (D := D) (ci := 4) (v := .ref a_turn) (C := RX4) (T := TX4) (N := 8) hx hb hL inlX4 hown hK.1 hP 0 rfl rfl 6 (by decide) w0 (fun _ h9 => h9) rfl dX4_chooseByDay_50 ?_
          refine lv_iload_n hx hb dX4_chooseByDay_53 rfl (lv_at hl 3 rfl) ?_
          refine lv_iconst (v := 1) hx hb dX4_chooseByDay_54 (by decide) ?_
          refine lv_isub hx hb dX4_chooseByDay_55 ?_
          obtain ⟨h56, hf⟩ := pg_some hf
          refine va_iald hx hb hK.1 hP 3 0 rfl rfl h56 dX4_chooseByDay_56 ?_
          obtain ⟨h57, hf⟩ := pg_some hf
          refine va_iast hx hb hK.1 hP hD hS 3 0 rfl rfl h57 dX4_chooseByDay_57 (fun H locs hP hD hS => ?_)
          have hP : va_P D vwCl [(h0, .inr (4, [.ref a_won, .ref a_order, .ref a_seat, .ref a_outAt, .ref a_merit, .ref a_toCome, .ref a_turn, .int v_sides])), (a_merit, .inl (cyI, 6, .inl c_merit)), (a_order, .inl (cyI, 6, .inl c_order)), (a_turn, .inl (cyI, 6, .inl (upd c_turn x3.toNatClampNeg (c_turn (x3 - 1).toNatClampNeg))))] H := hP
          have hD : va_D A [(h0, .inr (4, [.ref a_won, .ref a_order, .ref a_seat, .ref a_outAt, .ref a_merit, .ref a_toCome, .ref a_turn, .int v_sides])), (a_merit, .inl (cyI, 6, .inl c_merit)), (a_order, .inl (cyI, 6, .inl c_order)), (a_turn, .inl (cyI, 6, .inl (upd c_turn x3.toNatClampNeg (c_turn (x3 - 1).toNatClampNeg))))] := hD
          refine lv_iinc (v := x3 + (-1)) (lv' := [(3, .int (x3 + (-1))), (0, .ref h0), (1, .int x1), (2, .int x2)]) hx hb dX4_chooseByDay_58 hl (k := 3) rfl rfl (by decide) rfl (fun ls hl => ?_)
          refine lv_goto (tgt := 18) hx hb dX4_chooseByDay_61 (by decide) ?_
          exact hk18 x1 x2 (x3 + (-1)) (upd c_turn x3.toNatClampNeg (c_turn (x3 - 1).toNatClampNeg)) H locs ls hf hP hD hS (lv_sub hl [1, 2, 3, 0] rfl)
  have hB2 : ∀ (n : Nat), ∀ (x1 : Int32) (c_turn : Nat → Int32) (H : Heap) (locs : List Loc) (ls : Array Slot), fX4_chooseByDay_2 N v_sides c_merit c_order n x1 c_turn = some q → va_P D vwCl [(h0, .inr (4, [.ref a_won, .ref a_order, .ref a_seat, .ref a_outAt, .ref a_merit, .ref a_toCome, .ref a_turn, .int v_sides])), (a_merit, .inl (cyI, 6, .inl c_merit)), (a_order, .inl (cyI, 6, .inl c_order)), (a_turn, .inl (cyI, 6, .inl c_turn))] H → va_D A [(h0, .inr (4, [.ref a_won, .ref a_order, .ref a_seat, .ref a_outAt, .ref a_merit, .ref a_toCome, .ref a_turn, .int v_sides])), (a_merit, .inl (cyI, 6, .inl c_merit)), (a_order, .inl (cyI, 6, .inl c_order)), (a_turn, .inl (cyI, 6, .inl c_turn))] → va_S A s.heap H locs → lv_has ls 4 [(0, .ref h0), (1, .int x1)] → W p l e rmX4_chooseByDay s m av below meth c H locs 0 0 Q (F0 m 2 ls []) := by
    intro n
    induction n with
    | zero => intro x1 c_turn H locs ls hf; exact absurd hf (by simp [fX4_chooseByDay_2])
    | succ n hk2 =>
      intro x1 c_turn H locs ls hf hP hD hS hl
      rw [fX4_chooseByDay_2] at hf
      refine lv_iload_n hx hb dX4_chooseByDay_2 rfl (lv_at hl 1 rfl) ?_
      refine lv_aload_n hx hb dX4_chooseByDay_3 rfl (lv_at hl 0 rfl) ?_
      refine va_get (D := D) (ci := 4) (v := .int v_sides) (C := RX4) (T := TX4) (N := 8) hx hb hL inlX4 hown hK.1 hP 0 rfl rfl 7 (by decide) w2 (fun _ h9 => h9) rfl dX4_chooseByDay_4 ?_
      refine lv_icmp_ge (tgt := 77) hx hb dX4_chooseByDay_7 (by decide) (fun c7 => ?_) (fun c7 => ?_)
      · have hf := pif_t c7 hf
        exact ret_v (q := q) (wp := fun q => [(h0, .inr (4, [.ref a_won, .ref a_order, .ref a_seat, .ref a_outAt, .ref a_merit, .ref a_toCome, .ref a_turn, .int v_sides])), (a_merit, .inl (cyI, 6, .inl c_merit)), (a_order, .inl (cyI, 6, .inl c_order)), (a_turn, .inl (cyI, 6, .inl q))]) hQ hf hx hb hr hlocks hP hD hS dX4_chooseByDay_77
      · have hf := pif_f c7 hf
        refine lv_aload_n hx hb dX4_chooseByDay_10 rfl (lv_at hl 0 rfl) ?_
        refine lv_iload_n hx hb dX4_chooseByDay_11 rfl (lv_at hl 1 rfl) ?_
        obtain ⟨q12, e12, hf⟩ := pb_some hf
        refine cc_i (wc := [(h0, .inr (4, [.ref a_won, .ref a_order, .ref a_seat, .ref a_outAt, .ref a_merit, .ref a_toCome, .ref a_turn, .int v_sides])), (a_order, .inl (cyI, 6, .inl c_order))]) (wr := [(a_merit, .inl (cyI, 6, .inl c_merit)), (a_turn, .inl (cyI, 6, .inl c_turn))]) (w1 := [(h0, .inr (4, [.ref a_won, .ref a_order, .ref a_seat, .ref a_outAt, .ref a_merit, .ref a_toCome, .ref a_turn, .int v_sides])), (a_order, .inl (cyI, 6, .inl c_order))]) (wn := [(h0, .inr (4, [.ref a_won, .ref a_order, .ref a_seat, .ref a_outAt, .ref a_merit, .ref a_toCome, .ref a_turn, .int v_sides])), (a_merit, .inl (cyI, 6, .inl c_merit)), (a_order, .inl (cyI, 6, .inl c_order)), (a_turn, .inl (cyI, 6, .inl c_turn))]) hP hD hS hA [0, 2] [1, 3] [2, 0, 3, 1] rfl rfl rfl (by decide) rfl rfl (va_runV (C := RX4) (As := [.int x1]) (rest := []) ⟨hx, hb, hml, hown, hL⟩ (mX4_fromLast l D cyI cyJ cyB cyS N H.size h0 a_order a_won a_seat a_outAt a_merit a_toCome a_turn v_sides c_order x1 q12 e12) (cwV 1 hL (gV (hR29 5 rfl) (hR29 6 rfl) (hR29 7 rfl) (hR1 23 rfl) (hR29 8 rfl)) rfl rfl rfl (by decide +kernel) ⟨Nat.le_of_ble_eq_true rfl, Nat.le_of_ble_eq_true rfl⟩) (PP_preV (ci := 4) (q0 := 0) hP hD hK [0, 2] rfl rfl rfl rfl) rfl rfl hl.1 rfl (lv_room (Nat.le_of_ble_eq_true rfl)) dX4_chooseByDay_12 ⟨Nat.le_of_ble_eq_true rfl, Nat.le_of_ble_eq_true rfl⟩) (fun H locs hP hD hS => ?_)
        refine lv_istore_n (lv' := [(2, .int q12), (0, .ref h0), (1, .int x1)]) hx hb dX4_chooseByDay_15 rfl hl (by decide) rfl (fun ls hl => ?_)
        refine lv_iload_n hx hb dX4_chooseByDay_16 rfl (lv_at hl 2 rfl) ?_
        refine lv_istore_n (lv' := [(3, .int x1), (2, .int q12), (0, .ref h0), (1, .int x1)]) hx hb dX4_chooseByDay_17 rfl hl (by decide) rfl (fun ls hl => ?_)
        exact hB18 (fX4_chooseByDay_2 N v_sides c_merit c_order n) hk2 N x1 q12 x1 c_turn H locs ls hf hP hD hS (lv_sub hl [2, 3, 1, 0] rfl)
  unfold fX4_chooseByDay at hf
  obtain ⟨H, hH⟩ : ∃ H : Heap, H = s.heap := ⟨_, rfl⟩
  obtain ⟨locs, hlo⟩ : ∃ locs : List Loc, locs = [] := ⟨_, rfl⟩
  have hP : va_P D vwCl [(h0, .inr (4, [.ref a_won, .ref a_order, .ref a_seat, .ref a_outAt, .ref a_merit, .ref a_toCome, .ref a_turn, .int v_sides])), (a_merit, .inl (cyI, 6, .inl c_merit)), (a_order, .inl (cyI, 6, .inl c_order)), (a_turn, .inl (cyI, 6, .inl c_turn))] H := by rw [hH]; exact hP
  have hS : va_S A s.heap H locs := by rw [hH, hlo]; exact hS
  suffices hw : W p l e rmX4_chooseByDay s m av below meth c H locs 0 0 Q (F0 m 0 ls []) by rw [hH, hlo] at hw; exact hw
  refine lv_iconst (v := 0) hx hb dX4_chooseByDay_0 (by decide) ?_
  refine lv_istore_n (lv' := [(1, .int 0), (0, .ref h0)]) hx hb dX4_chooseByDay_1 rfl hl (by decide) rfl (fun ls hl => ?_)
  exact hB2 N 0 c_turn H locs ls hf hP hD hS (lv_sub hl [1, 0] rfl)
abbrev rmX4_chooseByBall : Room := { frames := 1, cells := 0, slots := 0, locals := 21 }
set_option maxHeartbeats 40000000 in
set_option maxRecDepth 100000 in
theorem mX4_chooseByBall (l : Launch) (D : va_G) (cyI cyJ cyB cyS : ClassId) (N : Nat) (sz : Nat) (h0 : Nat) (a_order : Nat) (a_turn : Nat) (a_won : Nat) (a_seat : Nat) (a_outAt : Nat) (a_merit : Nat) (a_toCome : Nat) (v_sides : Int32) (c_order : Nat → Int32) (c_turn : Nat → Int32) (x1 : Int32) (q : (Nat → Int32)) (hf : fX4_chooseByBall N v_sides c_order c_turn x1 = some q) : Met l yX4_chooseByBall (wS yX4_chooseByBall cX4_chooseByBall 5 none) rmX4_chooseByBall (va_Pc [.ref h0, .int x1] (PP D cyI cyJ cyB cyS [(h0, .inr (4, [.ref a_won, .ref a_order, .ref a_seat, .ref a_outAt, .ref a_merit, .ref a_toCome, .ref a_turn, .int v_sides])), (a_order, .inl (cyI, 6, .inl c_order)), (a_turn, .inl (cyI, 6, .inl c_turn))] sz)) (QV D [(h0, .inr (4, [.ref a_won, .ref a_order, .ref a_seat, .ref a_outAt, .ref a_merit, .ref a_toCome, .ref a_turn, .int v_sides])), (a_order, .inl (cyI, 6, .inl c_order)), (a_turn, .inl (cyI, 6, .inl q))] (va_A [(h0, .inr (4, [.ref a_won, .ref a_order, .ref a_seat, .ref a_outAt, .ref a_merit, .ref a_toCome, .ref a_turn, .int v_sides])), (a_order, .inl (cyI, 6, .inl c_order)), (a_turn, .inl (cyI, 6, .inl c_turn))] sz)) 0 0 (va_A [(h0, .inr (4, [.ref a_won, .ref a_order, .ref a_seat, .ref a_outAt, .ref a_merit, .ref a_toCome, .ref a_turn, .int v_sides])), (a_order, .inl (cyI, 6, .inl c_order)), (a_turn, .inl (cyI, 6, .inl c_turn))] sz) := by
  refine Met.ofW (cc := cX4_chooseByBall) (maxL := 5) (ret := none) (by decide) rfl ?_
  intro p e s m args below meth c s₁ B hml hv
  obtain ⟨rfl, hsz, hP, hK, hD0⟩ := hv
  have hx := B.exec
  have hb := B.bytes
  have hr := B.returns
  have hts := atoms_spec (ws := (wS yX4_chooseByBall cX4_chooseByBall 5 none)) B.pre
  have hown : s.vm.findClass RX4 = some m.cls := findClass_of_methodNamed B.named
  have hlocks := B.notSynchronized
  subst hsz
  have hD := hD0.self (sz := s.heap.size)
  refine w_nameQ (fun Q hQ => ?_)
  have hl := lv_entry ([.ref h0, .int x1] : List Value) (n := 5) (Nat.le_of_ble_eq_true rfl)
  rw [lg_entry_eq]
  generalize (lg_sl ([.ref h0, .int x1] : List Value) ++ List.replicate (5 - (lg_sl ([.ref h0, .int x1] : List Value)).length) Slot.unset).toArray = ls at hl ⊢
  have hl : lv_has ls 5 [(0, .ref h0), (1, .int x1)] := hl
  generalize hAe : va_A [(h0, .inr (4, [.ref a_won, .ref a_order, .ref a_seat, .ref a_outAt, .ref a_merit, .ref a_toCome, .ref a_turn, .int v_sides])), (a_order, .inl (cyI, 6, .inl c_order)), (a_turn, .inl (cyI, 6, .inl c_turn))] s.heap.size = A at hD hQ
  have hA : ∀ q : Nat, s.heap.size ≤ q → A q := fun q h => by rw [← hAe]; exact Or.inr h
  have hS : va_S A s.heap s.heap [] := va_S.rf
  generalize ([.ref h0, .int x1] : List Value).toArray = av at hts hQ ⊢
  have hL : ∀ w ∈ wsL_law, w.before av s = true := fun w h => hts w (List.mem_cons_of_mem _ h)
  have w0 := hL (.fieldLink RX4 33 "LosingLeague$Standing" "sides" "I") (hR22 21 rfl)
  have w1 := hL (.fieldLink RX4 30 "LosingLeague$Standing" "turn" "[I") (hR3 17 rfl)
  have hB51 : ∀ (k11 : Int32 → Int32 → (Nat → Int32) → Option ((Nat → Int32))) (hk11 : ∀ (x2 : Int32) (x3 : Int32) (c_turn : Nat → Int32) (H : Heap) (locs : List Loc) (ls : Array Slot), k11 x2 x3 c_turn = some q → va_P D vwCl [(h0, .inr (4, [.ref a_won, .ref a_order, .ref a_seat, .ref a_outAt, .ref a_merit, .ref a_toCome, .ref a_turn, .int v_sides])), (a_order, .inl (cyI, 6, .inl c_order)), (a_turn, .inl (cyI, 6, .inl c_turn))] H → va_D A [(h0, .inr (4, [.ref a_won, .ref a_order, .ref a_seat, .ref a_outAt, .ref a_merit, .ref a_toCome, .ref a_turn, .int v_sides])), (a_order, .inl (cyI, 6, .inl c_order)), (a_turn, .inl (cyI, 6, .inl c_turn))] → va_S A s.heap H locs → lv_has ls 5 [(0, .ref h0), (1, .int x1), (2, .int x2), (3, .int x3)] → W p l e rmX4_chooseByBall s m av below meth c H locs 0 0 Q (F0 m 11 ls [])), ∀ (x2 : Int32) (x3 : Int32) (c_turn : Nat → Int32) (H : Heap) (locs : List Loc) (ls : Array Slot), fX4_chooseByBall_51 N v_sides c_order x1 k11 x2 x3 c_turn = some q → va_P D vwCl [(h0, .inr (4, [.ref a_won, .ref a_order, .ref a_seat, .ref a_outAt, .ref a_merit, .ref a_toCome, .ref a_turn, .int v_sides])), (a_order, .inl (cyI, 6, .inl c_order)), (a_turn, .inl (cyI, 6, .inl c_turn))] H → va_D A [(h0, .inr (4, [.ref a_won, .ref a_order, .ref a_seat, .ref a_outAt, .ref a_merit, .ref a_toCome, .ref a_turn, .int v_sides])), (a_order, .inl (cyI, 6, .inl c_order)), (a_turn, .inl (cyI, 6, .inl c_turn))] → va_S A s.heap H locs → lv_has ls 5 [(0, .ref h0), (1, .int x1), (2, .int x2), (3, .int x3)] → W p l e rmX4_chooseByBall s m av below meth c H locs 0 0 Q (F0 m 51 ls []) := by
    intro k11 hk11 x2 x3 c_turn H locs ls hf hP hD hS hl
    unfold fX4_chooseByBall_51 at hf
    refine lv_iinc (v := x3 + 1) (lv' := [(3, .int (x3 + 1)), (0, .ref h0), (1, .int x1), (2, .int x2)]) hx hb dX4_chooseByBall_51 hl (k := 3) rfl rfl (by decide) rfl (fun ls hl => ?_)
    refine lv_goto (tgt := 11) hx hb dX4_chooseByBall_54 (by decide) ?_
    exact hk11 x2 (x3 + 1) c_turn H locs ls hf hP hD hS (lv_sub hl [1, 2, 3, 0] rfl)
  have hB11 : ∀ (n : Nat), ∀ (x2 : Int32) (x3 : Int32) (c_turn : Nat → Int32) (H : Heap) (locs : List Loc) (ls : Array Slot), fX4_chooseByBall_11 N v_sides c_order x1 n x2 x3 c_turn = some q → va_P D vwCl [(h0, .inr (4, [.ref a_won, .ref a_order, .ref a_seat, .ref a_outAt, .ref a_merit, .ref a_toCome, .ref a_turn, .int v_sides])), (a_order, .inl (cyI, 6, .inl c_order)), (a_turn, .inl (cyI, 6, .inl c_turn))] H → va_D A [(h0, .inr (4, [.ref a_won, .ref a_order, .ref a_seat, .ref a_outAt, .ref a_merit, .ref a_toCome, .ref a_turn, .int v_sides])), (a_order, .inl (cyI, 6, .inl c_order)), (a_turn, .inl (cyI, 6, .inl c_turn))] → va_S A s.heap H locs → lv_has ls 5 [(0, .ref h0), (1, .int x1), (2, .int x2), (3, .int x3)] → W p l e rmX4_chooseByBall s m av below meth c H locs 0 0 Q (F0 m 11 ls []) := by
    intro n
    induction n with
    | zero => intro x2 x3 c_turn H locs ls hf; exact absurd hf (by simp [fX4_chooseByBall_11])
    | succ n hk11 =>
      intro x2 x3 c_turn H locs ls hf hP hD hS hl
      rw [fX4_chooseByBall_11] at hf
      refine lv_iload_n hx hb dX4_chooseByBall_11 rfl (lv_at hl 3 rfl) ?_
      refine lv_aload_n hx hb dX4_chooseByBall_12 rfl (lv_at hl 0 rfl) ?_
      refine va_get (D := D) (ci := 4) (v := .int v_sides) (C := RX4) (T := TX4) (N := 8) hx hb hL inlX4 hown hK.1 hP 0 rfl rfl 7 (by decide) w0 (fun _ h9 => h9) rfl dX4_chooseByBall_13 ?_
      refine lv_icmp_ge (tgt := 57) hx hb dX4_chooseByBall_16 (by decide) (fun c16 => ?_) (fun c16 => ?_)
      · have hf := pif_t c16 hf
        exact ret_v (q := q) (wp := fun q => [(h0, .inr (4, [.ref a_won, .ref a_order, .ref a_seat, .ref a_outAt, .ref a_merit, .ref a_toCome, .ref a_turn, .int v_sides])), (a_order, .inl (cyI, 6, .inl c_order)), (a_turn, .inl (cyI, 6, .inl q))]) hQ hf hx hb hr hlocks hP hD hS dX4_chooseByBall_57
      · have hf := pif_f c16 hf
        refine lv_aload_n hx hb dX4_chooseByBall_19 rfl (lv_at hl 0 rfl) ?_
        refine lv_iload_n hx hb dX4_chooseByBall_20 rfl (lv_at hl 3 rfl) ?_
        obtain ⟨q21, e21, hf⟩ := pb_some hf
        refine cc_i (wc := [(h0, .inr (4, [.ref a_won, .ref a_order, .ref a_seat, .ref a_outAt, .ref a_merit, .ref a_toCome, .ref a_turn, .int v_sides])), (a_order, .inl (cyI, 6, .inl c_order))]) (wr := [(a_turn, .inl (cyI, 6, .inl c_turn))]) (w1 := [(h0, .inr (4, [.ref a_won, .ref a_order, .ref a_seat, .ref a_outAt, .ref a_merit, .ref a_toCome, .ref a_turn, .int v_sides])), (a_order, .inl (cyI, 6, .inl c_order))]) (wn := [(h0, .inr (4, [.ref a_won, .ref a_order, .ref a_seat, .ref a_outAt, .ref a_merit, .ref a_toCome, .ref a_turn, .int v_sides])), (a_order, .inl (cyI, 6, .inl c_order)), (a_turn, .inl (cyI, 6, .inl c_turn))]) hP hD hS hA [0, 1] [2] [1, 2, 0] rfl rfl rfl (by decide) rfl rfl (va_runV (C := RX4) (As := [.int x3]) (rest := []) ⟨hx, hb, hml, hown, hL⟩ (mX4_fromLast l D cyI cyJ cyB cyS N H.size h0 a_order a_won a_seat a_outAt a_merit a_toCome a_turn v_sides c_order x3 q21 e21) (cwV 1 hL (gV (hR29 5 rfl) (hR29 6 rfl) (hR29 7 rfl) (hR1 23 rfl) (hR29 8 rfl)) rfl rfl rfl (by decide +kernel) ⟨Nat.le_of_ble_eq_true rfl, Nat.le_of_ble_eq_true rfl⟩) (PP_preV (ci := 4) (q0 := 0) hP hD hK [0, 1] rfl rfl rfl rfl) rfl rfl hl.1 rfl (lv_room (Nat.le_of_ble_eq_true rfl)) dX4_chooseByBall_21 ⟨Nat.le_of_ble_eq_true rfl, Nat.le_of_ble_eq_true rfl⟩) (fun H locs hP hD hS => ?_)
        refine lv_istore (lv' := [(4, .int q21), (0, .ref h0), (1, .int x1), (2, .int x2), (3, .int x3)]) hx hb dX4_chooseByBall_24 hl (by decide) rfl (fun ls hl => ?_)
        refine lv_iload hx hb dX4_chooseByBall_26 (lv_at hl 0 rfl) ?_
        refine lv_iload_n hx hb dX4_chooseByBall_28 rfl (lv_at hl 2 rfl) ?_
        refine lv_icmp_eq (tgt := 51) hx hb dX4_chooseByBall_29 (by decide) (fun c29 => ?_) (fun c29 => ?_)
        · have hf := pif_t c29 hf
          exact hB51 (fX4_chooseByBall_11 N v_sides c_order x1 n) hk11 x2 x3 c_turn H locs ls hf hP hD hS (lv_sub hl [1, 2, 3, 4] rfl)
        · have hf := pif_f c29 hf
          refine lv_iload_n hx hb dX4_chooseByBall_32 rfl (lv_at hl 3 rfl) ?_
          refine lv_aload_n hx hb dX4_chooseByBall_33 rfl (lv_at hl 1 rfl) ?_
          refine va_get (D := D) (ci := 4) (v := .int v_sides) (C := RX4) (T := TX4) (N := 8) hx hb hL inlX4 hown hK.1 hP 0 rfl rfl 7 (by decide) w0 (fun _ h9 => h9) rfl dX4_chooseByBall_34 ?_
          refine lv_icmp_ge (tgt := 51) hx hb dX4_chooseByBall_37 (by decide) (fun c37 => ?_) (fun c37 => ?_)
          · have hf := pif_t c37 hf
            exact hB51 (fX4_chooseByBall_11 N v_sides c_order x1 n) hk11 x2 x3 c_turn H locs ls hf hP hD hS (lv_sub hl [1, 2, 3, 4] rfl)
          · have hf := pif_f c37 hf
            refine lv_aload_n hx hb dX4_chooseByBall_40 rfl (lv_at hl 1 rfl) ?_
            refine va_get (D := D) (ci := 4) (v := .ref a_turn) (C := RX4) (T := TX4) (N := 8) hx hb hL inlX4 hown hK.1 hP 0 rfl rfl 6 (by decide) w1 (fun _ h9 => h9) rfl dX4_chooseByBall_41 ?_
            refine lv_iload_n hx hb dX4_chooseByBall_44 rfl (lv_at hl 3 rfl) ?_
            refine lv_iload hx hb dX4_chooseByBall_45 (lv_at hl 0 rfl) ?_
            obtain ⟨h47, hf⟩ := pg_some hf
            refine va_iast hx hb hK.1 hP hD hS 2 0 rfl rfl h47 dX4_chooseByBall_47 (fun H locs hP hD hS => ?_)
            have hP : va_P D vwCl [(h0, .inr (4, [.ref a_won, .ref a_order, .ref a_seat, .ref a_outAt, .ref a_merit, .ref a_toCome, .ref a_turn, .int v_sides])), (a_order, .inl (cyI, 6, .inl c_order)), (a_turn, .inl (cyI, 6, .inl (upd c_turn x2.toNatClampNeg q21)))] H := hP
            have hD : va_D A [(h0, .inr (4, [.ref a_won, .ref a_order, .ref a_seat, .ref a_outAt, .ref a_merit, .ref a_toCome, .ref a_turn, .int v_sides])), (a_order, .inl (cyI, 6, .inl c_order)), (a_turn, .inl (cyI, 6, .inl (upd c_turn x2.toNatClampNeg q21)))] := hD
            refine lv_iinc (v := x2 + 1) (lv' := [(2, .int (x2 + 1)), (4, .int q21), (0, .ref h0), (1, .int x1), (3, .int x3)]) hx hb dX4_chooseByBall_48 hl (k := 3) rfl rfl (by decide) rfl (fun ls hl => ?_)
            exact hB51 (fX4_chooseByBall_11 N v_sides c_order x1 n) hk11 (x2 + 1) x3 (upd c_turn x2.toNatClampNeg q21) H locs ls hf hP hD hS (lv_sub hl [2, 3, 0, 4] rfl)
  unfold fX4_chooseByBall at hf
  obtain ⟨H, hH⟩ : ∃ H : Heap, H = s.heap := ⟨_, rfl⟩
  obtain ⟨locs, hlo⟩ : ∃ locs : List Loc, locs = [] := ⟨_, rfl⟩
  have hP : va_P D vwCl [(h0, .inr (4, [.ref a_won, .ref a_order, .ref a_seat, .ref a_outAt, .ref a_merit, .ref a_toCome, .ref a_turn, .int v_sides])), (a_order, .inl (cyI, 6, .inl c_order)), (a_turn, .inl (cyI, 6, .inl c_turn))] H := by rw [hH]; exact hP
  have hS : va_S A s.heap H locs := by rw [hH, hlo]; exact hS
  suffices hw : W p l e rmX4_chooseByBall s m av below meth c H locs 0 0 Q (F0 m 0 ls []) by rw [hH, hlo] at hw; exact hw
  refine lv_aload_n hx hb dX4_chooseByBall_0 rfl (lv_at hl 0 rfl) ?_
  refine va_get (D := D) (ci := 4) (v := .ref a_turn) (C := RX4) (T := TX4) (N := 8) hx hb hL inlX4 hown hK.1 hP 0 rfl rfl 6 (by decide) w1 (fun _ h9 => h9) rfl dX4_chooseByBall_1 ?_
  refine lv_iconst (v := 0) hx hb dX4_chooseByBall_4 (by decide) ?_
  refine lv_iload_n hx hb dX4_chooseByBall_5 rfl (lv_at hl 1 rfl) ?_
  obtain ⟨h6, hf⟩ := pg_some hf
  refine va_iast hx hb hK.1 hP hD hS 2 0 rfl rfl h6 dX4_chooseByBall_6 (fun H locs hP hD hS => ?_)
  have hP : va_P D vwCl [(h0, .inr (4, [.ref a_won, .ref a_order, .ref a_seat, .ref a_outAt, .ref a_merit, .ref a_toCome, .ref a_turn, .int v_sides])), (a_order, .inl (cyI, 6, .inl c_order)), (a_turn, .inl (cyI, 6, .inl (upd c_turn (0 : Int32).toNatClampNeg x1)))] H := hP
  have hD : va_D A [(h0, .inr (4, [.ref a_won, .ref a_order, .ref a_seat, .ref a_outAt, .ref a_merit, .ref a_toCome, .ref a_turn, .int v_sides])), (a_order, .inl (cyI, 6, .inl c_order)), (a_turn, .inl (cyI, 6, .inl (upd c_turn (0 : Int32).toNatClampNeg x1)))] := hD
  refine lv_iconst (v := 1) hx hb dX4_chooseByBall_7 (by decide) ?_
  refine lv_istore_n (lv' := [(2, .int 1), (0, .ref h0), (1, .int x1)]) hx hb dX4_chooseByBall_8 rfl hl (by decide) rfl (fun ls hl => ?_)
  refine lv_iconst (v := 0) hx hb dX4_chooseByBall_9 (by decide) ?_
  refine lv_istore_n (lv' := [(3, .int 0), (2, .int 1), (0, .ref h0), (1, .int x1)]) hx hb dX4_chooseByBall_10 rfl hl (by decide) rfl (fun ls hl => ?_)
  exact hB11 N 1 0 (upd c_turn (0 : Int32).toNatClampNeg x1) H locs ls hf hP hD hS (lv_sub hl [2, 3, 1, 0] rfl)
abbrev rmX4_chooseWorstFirst : Room := { frames := 1, cells := 0, slots := 0, locals := 21 }
set_option maxHeartbeats 40000000 in
set_option maxRecDepth 100000 in
theorem mX4_chooseWorstFirst (l : Launch) (D : va_G) (cyI cyJ cyB cyS : ClassId) (N : Nat) (sz : Nat) (h0 : Nat) (a_order : Nat) (a_turn : Nat) (a_won : Nat) (a_seat : Nat) (a_outAt : Nat) (a_merit : Nat) (a_toCome : Nat) (v_sides : Int32) (c_order : Nat → Int32) (c_turn : Nat → Int32) (q : (Nat → Int32)) (hf : fX4_chooseWorstFirst N v_sides c_order c_turn = some q) : Met l yX4_chooseWorstFirst (wS yX4_chooseWorstFirst cX4_chooseWorstFirst 2 none) rmX4_chooseWorstFirst (va_Pc [.ref h0] (PP D cyI cyJ cyB cyS [(h0, .inr (4, [.ref a_won, .ref a_order, .ref a_seat, .ref a_outAt, .ref a_merit, .ref a_toCome, .ref a_turn, .int v_sides])), (a_order, .inl (cyI, 6, .inl c_order)), (a_turn, .inl (cyI, 6, .inl c_turn))] sz)) (QV D [(h0, .inr (4, [.ref a_won, .ref a_order, .ref a_seat, .ref a_outAt, .ref a_merit, .ref a_toCome, .ref a_turn, .int v_sides])), (a_order, .inl (cyI, 6, .inl c_order)), (a_turn, .inl (cyI, 6, .inl q))] (va_A [(h0, .inr (4, [.ref a_won, .ref a_order, .ref a_seat, .ref a_outAt, .ref a_merit, .ref a_toCome, .ref a_turn, .int v_sides])), (a_order, .inl (cyI, 6, .inl c_order)), (a_turn, .inl (cyI, 6, .inl c_turn))] sz)) 0 0 (va_A [(h0, .inr (4, [.ref a_won, .ref a_order, .ref a_seat, .ref a_outAt, .ref a_merit, .ref a_toCome, .ref a_turn, .int v_sides])), (a_order, .inl (cyI, 6, .inl c_order)), (a_turn, .inl (cyI, 6, .inl c_turn))] sz) := by
  refine Met.ofW (cc := cX4_chooseWorstFirst) (maxL := 2) (ret := none) (by decide) rfl ?_
  intro p e s m args below meth c s₁ B hml hv
  obtain ⟨rfl, hsz, hP, hK, hD0⟩ := hv
  have hx := B.exec
  have hb := B.bytes
  have hr := B.returns
  have hts := atoms_spec (ws := (wS yX4_chooseWorstFirst cX4_chooseWorstFirst 2 none)) B.pre
  have hown : s.vm.findClass RX4 = some m.cls := findClass_of_methodNamed B.named
  have hlocks := B.notSynchronized
  subst hsz
  have hD := hD0.self (sz := s.heap.size)
  refine w_nameQ (fun Q hQ => ?_)
  have hl := lv_entry ([.ref h0] : List Value) (n := 2) (Nat.le_of_ble_eq_true rfl)
  rw [lg_entry_eq]
  generalize (lg_sl ([.ref h0] : List Value) ++ List.replicate (2 - (lg_sl ([.ref h0] : List Value)).length) Slot.unset).toArray = ls at hl ⊢
  have hl : lv_has ls 2 [(0, .ref h0)] := hl
  generalize hAe : va_A [(h0, .inr (4, [.ref a_won, .ref a_order, .ref a_seat, .ref a_outAt, .ref a_merit, .ref a_toCome, .ref a_turn, .int v_sides])), (a_order, .inl (cyI, 6, .inl c_order)), (a_turn, .inl (cyI, 6, .inl c_turn))] s.heap.size = A at hD hQ
  have hA : ∀ q : Nat, s.heap.size ≤ q → A q := fun q h => by rw [← hAe]; exact Or.inr h
  have hS : va_S A s.heap s.heap [] := va_S.rf
  generalize ([.ref h0] : List Value).toArray = av at hts hQ ⊢
  have hL : ∀ w ∈ wsL_law, w.before av s = true := fun w h => hts w (List.mem_cons_of_mem _ h)
  have w0 := hL (.fieldLink RX4 33 "LosingLeague$Standing" "sides" "I") (hR22 21 rfl)
  have w1 := hL (.fieldLink RX4 30 "LosingLeague$Standing" "turn" "[I") (hR3 17 rfl)
  have hB2 : ∀ (n : Nat), ∀ (x1 : Int32) (c_turn : Nat → Int32) (H : Heap) (locs : List Loc) (ls : Array Slot), fX4_chooseWorstFirst_2 N v_sides c_order n x1 c_turn = some q → va_P D vwCl [(h0, .inr (4, [.ref a_won, .ref a_order, .ref a_seat, .ref a_outAt, .ref a_merit, .ref a_toCome, .ref a_turn, .int v_sides])), (a_order, .inl (cyI, 6, .inl c_order)), (a_turn, .inl (cyI, 6, .inl c_turn))] H → va_D A [(h0, .inr (4, [.ref a_won, .ref a_order, .ref a_seat, .ref a_outAt, .ref a_merit, .ref a_toCome, .ref a_turn, .int v_sides])), (a_order, .inl (cyI, 6, .inl c_order)), (a_turn, .inl (cyI, 6, .inl c_turn))] → va_S A s.heap H locs → lv_has ls 2 [(0, .ref h0), (1, .int x1)] → W p l e rmX4_chooseWorstFirst s m av below meth c H locs 0 0 Q (F0 m 2 ls []) := by
    intro n
    induction n with
    | zero => intro x1 c_turn H locs ls hf; exact absurd hf (by simp [fX4_chooseWorstFirst_2])
    | succ n hk2 =>
      intro x1 c_turn H locs ls hf hP hD hS hl
      rw [fX4_chooseWorstFirst_2] at hf
      refine lv_iload_n hx hb dX4_chooseWorstFirst_2 rfl (lv_at hl 1 rfl) ?_
      refine lv_aload_n hx hb dX4_chooseWorstFirst_3 rfl (lv_at hl 0 rfl) ?_
      refine va_get (D := D) (ci := 4) (v := .int v_sides) (C := RX4) (T := TX4) (N := 8) hx hb hL inlX4 hown hK.1 hP 0 rfl rfl 7 (by decide) w0 (fun _ h9 => h9) rfl dX4_chooseWorstFirst_4 ?_
      refine lv_icmp_ge (tgt := 27) hx hb dX4_chooseWorstFirst_7 (by decide) (fun c7 => ?_) (fun c7 => ?_)
      · have hf := pif_t c7 hf
        exact ret_v (q := q) (wp := fun q => [(h0, .inr (4, [.ref a_won, .ref a_order, .ref a_seat, .ref a_outAt, .ref a_merit, .ref a_toCome, .ref a_turn, .int v_sides])), (a_order, .inl (cyI, 6, .inl c_order)), (a_turn, .inl (cyI, 6, .inl q))]) hQ hf hx hb hr hlocks hP hD hS dX4_chooseWorstFirst_27
      · have hf := pif_f c7 hf
        refine lv_aload_n hx hb dX4_chooseWorstFirst_10 rfl (lv_at hl 0 rfl) ?_
        refine va_get (D := D) (ci := 4) (v := .ref a_turn) (C := RX4) (T := TX4) (N := 8) hx hb hL inlX4 hown hK.1 hP 0 rfl rfl 6 (by decide) w1 (fun _ h9 => h9) rfl dX4_chooseWorstFirst_11 ?_
        refine lv_iload_n hx hb dX4_chooseWorstFirst_14 rfl (lv_at hl 1 rfl) ?_
        refine lv_aload_n hx hb dX4_chooseWorstFirst_15 rfl (lv_at hl 0 rfl) ?_
        refine lv_iload_n hx hb dX4_chooseWorstFirst_16 rfl (lv_at hl 1 rfl) ?_
        obtain ⟨q17, e17, hf⟩ := pb_some hf
        refine cc_i (wc := [(h0, .inr (4, [.ref a_won, .ref a_order, .ref a_seat, .ref a_outAt, .ref a_merit, .ref a_toCome, .ref a_turn, .int v_sides])), (a_order, .inl (cyI, 6, .inl c_order))]) (wr := [(a_turn, .inl (cyI, 6, .inl c_turn))]) (w1 := [(h0, .inr (4, [.ref a_won, .ref a_order, .ref a_seat, .ref a_outAt, .ref a_merit, .ref a_toCome, .ref a_turn, .int v_sides])), (a_order, .inl (cyI, 6, .inl c_order))]) (wn := [(h0, .inr (4, [.ref a_won, .ref a_order, .ref a_seat, .ref a_outAt, .ref a_merit, .ref a_toCome, .ref a_turn, .int v_sides])), (a_order, .inl (cyI, 6, .inl c_order)), (a_turn, .inl (cyI, 6, .inl c_turn))]) hP hD hS hA [0, 1] [2] [1, 2, 0] rfl rfl rfl (by decide) rfl rfl (va_runV (C := RX4) (As := [.int x1]) (rest := [.int x1, .ref a_turn]) ⟨hx, hb, hml, hown, hL⟩ (mX4_fromLast l D cyI cyJ cyB cyS N H.size h0 a_order a_won a_seat a_outAt a_merit a_toCome a_turn v_sides c_order x1 q17 e17) (cwV 1 hL (gV (hR29 5 rfl) (hR29 6 rfl) (hR29 7 rfl) (hR1 23 rfl) (hR29 8 rfl)) rfl rfl rfl (by decide +kernel) ⟨Nat.le_of_ble_eq_true rfl, Nat.le_of_ble_eq_true rfl⟩) (PP_preV (ci := 4) (q0 := 0) hP hD hK [0, 1] rfl rfl rfl rfl) rfl rfl hl.1 rfl (lv_room (Nat.le_of_ble_eq_true rfl)) dX4_chooseWorstFirst_17 ⟨Nat.le_of_ble_eq_true rfl, Nat.le_of_ble_eq_true rfl⟩) (fun H locs hP hD hS => ?_)
        obtain ⟨h20, hf⟩ := pg_some hf
        refine va_iast hx hb hK.1 hP hD hS 2 0 rfl rfl h20 dX4_chooseWorstFirst_20 (fun H locs hP hD hS => ?_)
        have hP : va_P D vwCl [(h0, .inr (4, [.ref a_won, .ref a_order, .ref a_seat, .ref a_outAt, .ref a_merit, .ref a_toCome, .ref a_turn, .int v_sides])), (a_order, .inl (cyI, 6, .inl c_order)), (a_turn, .inl (cyI, 6, .inl (upd c_turn x1.toNatClampNeg q17)))] H := hP
        have hD : va_D A [(h0, .inr (4, [.ref a_won, .ref a_order, .ref a_seat, .ref a_outAt, .ref a_merit, .ref a_toCome, .ref a_turn, .int v_sides])), (a_order, .inl (cyI, 6, .inl c_order)), (a_turn, .inl (cyI, 6, .inl (upd c_turn x1.toNatClampNeg q17)))] := hD
        refine lv_iinc (v := x1 + 1) (lv' := [(1, .int (x1 + 1)), (0, .ref h0)]) hx hb dX4_chooseWorstFirst_21 hl (k := 1) rfl rfl (by decide) rfl (fun ls hl => ?_)
        refine lv_goto (tgt := 2) hx hb dX4_chooseWorstFirst_24 (by decide) ?_
        exact hk2 (x1 + 1) (upd c_turn x1.toNatClampNeg q17) H locs ls hf hP hD hS (lv_sub hl [1, 0] rfl)
  unfold fX4_chooseWorstFirst at hf
  obtain ⟨H, hH⟩ : ∃ H : Heap, H = s.heap := ⟨_, rfl⟩
  obtain ⟨locs, hlo⟩ : ∃ locs : List Loc, locs = [] := ⟨_, rfl⟩
  have hP : va_P D vwCl [(h0, .inr (4, [.ref a_won, .ref a_order, .ref a_seat, .ref a_outAt, .ref a_merit, .ref a_toCome, .ref a_turn, .int v_sides])), (a_order, .inl (cyI, 6, .inl c_order)), (a_turn, .inl (cyI, 6, .inl c_turn))] H := by rw [hH]; exact hP
  have hS : va_S A s.heap H locs := by rw [hH, hlo]; exact hS
  suffices hw : W p l e rmX4_chooseWorstFirst s m av below meth c H locs 0 0 Q (F0 m 0 ls []) by rw [hH, hlo] at hw; exact hw
  refine lv_iconst (v := 0) hx hb dX4_chooseWorstFirst_0 (by decide) ?_
  refine lv_istore_n (lv' := [(1, .int 0), (0, .ref h0)]) hx hb dX4_chooseWorstFirst_1 rfl hl (by decide) rfl (fun ls hl => ?_)
  exact hB2 N 0 c_turn H locs ls hf hP hD hS (lv_sub hl [1, 0] rfl)
abbrev rmX4_arrange : Room := { frames := 2, cells := 0, slots := 0, locals := 45 }
set_option maxHeartbeats 40000000 in
set_option maxRecDepth 100000 in
theorem mX4_arrange (l : Launch) (D : va_G) (cyI cyJ cyB cyS : ClassId) (N : Nat) (sz : Nat) (h0 : Nat) (a_merit : Nat) (a_order : Nat) (a_p1 : Nat) (a_p1_wheel : Nat) (a_turn : Nat) (a_won : Nat) (a_seat : Nat) (a_outAt : Nat) (a_toCome : Nat) (a_p1_strength : Nat) (a_p1_placeWorth : Nat) (a_p1_choiceWorth : Nat) (a_p1_balls : Nat) (v_sides : Int32) (c_merit : Nat → Int32) (c_order : Nat → Int32) (v_p1_sides : Int32) (v_p1_kind : Int32) (v_p1_rounds : Int32) (c_p1_wheel : Nat → Int32) (c_turn : Nat → Int32) (x2 : Int32) (q : (Nat → Int32)) (hf : fX4_arrange N v_sides c_merit c_order v_p1_kind c_p1_wheel c_turn x2 = some q) : Met l yX4_arrange (wS yX4_arrange cX4_arrange 3 none) rmX4_arrange (va_Pc [.ref h0, .ref a_p1, .int x2] (PP D cyI cyJ cyB cyS [(h0, .inr (4, [.ref a_won, .ref a_order, .ref a_seat, .ref a_outAt, .ref a_merit, .ref a_toCome, .ref a_turn, .int v_sides])), (a_merit, .inl (cyI, 6, .inl c_merit)), (a_order, .inl (cyI, 6, .inl c_order)), (a_p1, .inr (2, [.ref a_p1_strength, .ref a_p1_placeWorth, .ref a_p1_choiceWorth, .ref a_p1_balls, .ref a_p1_wheel, .int v_p1_sides, .int v_p1_kind, .int v_p1_rounds])), (a_p1_wheel, .inl (cyI, 6, .inl c_p1_wheel)), (a_turn, .inl (cyI, 6, .inl c_turn))] sz)) (QV D [(h0, .inr (4, [.ref a_won, .ref a_order, .ref a_seat, .ref a_outAt, .ref a_merit, .ref a_toCome, .ref a_turn, .int v_sides])), (a_merit, .inl (cyI, 6, .inl c_merit)), (a_order, .inl (cyI, 6, .inl c_order)), (a_p1, .inr (2, [.ref a_p1_strength, .ref a_p1_placeWorth, .ref a_p1_choiceWorth, .ref a_p1_balls, .ref a_p1_wheel, .int v_p1_sides, .int v_p1_kind, .int v_p1_rounds])), (a_p1_wheel, .inl (cyI, 6, .inl c_p1_wheel)), (a_turn, .inl (cyI, 6, .inl q))] (va_A [(h0, .inr (4, [.ref a_won, .ref a_order, .ref a_seat, .ref a_outAt, .ref a_merit, .ref a_toCome, .ref a_turn, .int v_sides])), (a_merit, .inl (cyI, 6, .inl c_merit)), (a_order, .inl (cyI, 6, .inl c_order)), (a_p1, .inr (2, [.ref a_p1_strength, .ref a_p1_placeWorth, .ref a_p1_choiceWorth, .ref a_p1_balls, .ref a_p1_wheel, .int v_p1_sides, .int v_p1_kind, .int v_p1_rounds])), (a_p1_wheel, .inl (cyI, 6, .inl c_p1_wheel)), (a_turn, .inl (cyI, 6, .inl c_turn))] sz)) 0 0 (va_A [(h0, .inr (4, [.ref a_won, .ref a_order, .ref a_seat, .ref a_outAt, .ref a_merit, .ref a_toCome, .ref a_turn, .int v_sides])), (a_merit, .inl (cyI, 6, .inl c_merit)), (a_order, .inl (cyI, 6, .inl c_order)), (a_p1, .inr (2, [.ref a_p1_strength, .ref a_p1_placeWorth, .ref a_p1_choiceWorth, .ref a_p1_balls, .ref a_p1_wheel, .int v_p1_sides, .int v_p1_kind, .int v_p1_rounds])), (a_p1_wheel, .inl (cyI, 6, .inl c_p1_wheel)), (a_turn, .inl (cyI, 6, .inl c_turn))] sz) := by
  refine Met.ofW (cc := cX4_arrange) (maxL := 3) (ret := none) (by decide) rfl ?_
  intro p e s m args below meth c s₁ B hml hv
  obtain ⟨rfl, hsz, hP, hK, hD0⟩ := hv
  have hx := B.exec
  have hb := B.bytes
  have hr := B.returns
  have hts := atoms_spec (ws := (wS yX4_arrange cX4_arrange 3 none)) B.pre
  have hown : s.vm.findClass RX4 = some m.cls := findClass_of_methodNamed B.named
  have hlocks := B.notSynchronized
  subst hsz
  have hD := hD0.self (sz := s.heap.size)
  refine w_nameQ (fun Q hQ => ?_)
  have hl := lv_entry ([.ref h0, .ref a_p1, .int x2] : List Value) (n := 3) (Nat.le_of_ble_eq_true rfl)
  rw [lg_entry_eq]
  generalize (lg_sl ([.ref h0, .ref a_p1, .int x2] : List Value) ++ List.replicate (3 - (lg_sl ([.ref h0, .ref a_p1, .int x2] : List Value)).length) Slot.unset).toArray = ls at hl ⊢
  have hl : lv_has ls 3 [(0, .ref h0), (1, .ref a_p1), (2, .int x2)] := hl
  generalize hAe : va_A [(h0, .inr (4, [.ref a_won, .ref a_order, .ref a_seat, .ref a_outAt, .ref a_merit, .ref a_toCome, .ref a_turn, .int v_sides])), (a_merit, .inl (cyI, 6, .inl c_merit)), (a_order, .inl (cyI, 6, .inl c_order)), (a_p1, .inr (2, [.ref a_p1_strength, .ref a_p1_placeWorth, .ref a_p1_choiceWorth, .ref a_p1_balls, .ref a_p1_wheel, .int v_p1_sides, .int v_p1_kind, .int v_p1_rounds])), (a_p1_wheel, .inl (cyI, 6, .inl c_p1_wheel)), (a_turn, .inl (cyI, 6, .inl c_turn))] s.heap.size = A at hD hQ
  have hA : ∀ q : Nat, s.heap.size ≤ q → A q := fun q h => by rw [← hAe]; exact Or.inr h
  have hS : va_S A s.heap s.heap [] := va_S.rf
  generalize ([.ref h0, .ref a_p1, .int x2] : List Value).toArray = av at hts hQ ⊢
  have hL : ∀ w ∈ wsL_law, w.before av s = true := fun w h => hts w (List.mem_cons_of_mem _ h)
  have w0 := hL (.fieldLink RX4 73 "LosingLeague$Rules" "kind" "I") (hR28 19 rfl)
  have hB59 : ∀ (c_turn : Nat → Int32) (H : Heap) (locs : List Loc) (ls : Array Slot), fX4_arrange_59 N v_sides c_merit c_order v_p1_kind c_p1_wheel x2 c_turn = some q → va_P D vwCl [(h0, .inr (4, [.ref a_won, .ref a_order, .ref a_seat, .ref a_outAt, .ref a_merit, .ref a_toCome, .ref a_turn, .int v_sides])), (a_merit, .inl (cyI, 6, .inl c_merit)), (a_order, .inl (cyI, 6, .inl c_order)), (a_p1, .inr (2, [.ref a_p1_strength, .ref a_p1_placeWorth, .ref a_p1_choiceWorth, .ref a_p1_balls, .ref a_p1_wheel, .int v_p1_sides, .int v_p1_kind, .int v_p1_rounds])), (a_p1_wheel, .inl (cyI, 6, .inl c_p1_wheel)), (a_turn, .inl (cyI, 6, .inl c_turn))] H → va_D A [(h0, .inr (4, [.ref a_won, .ref a_order, .ref a_seat, .ref a_outAt, .ref a_merit, .ref a_toCome, .ref a_turn, .int v_sides])), (a_merit, .inl (cyI, 6, .inl c_merit)), (a_order, .inl (cyI, 6, .inl c_order)), (a_p1, .inr (2, [.ref a_p1_strength, .ref a_p1_placeWorth, .ref a_p1_choiceWorth, .ref a_p1_balls, .ref a_p1_wheel, .int v_p1_sides, .int v_p1_kind, .int v_p1_rounds])), (a_p1_wheel, .inl (cyI, 6, .inl c_p1_wheel)), (a_turn, .inl (cyI, 6, .inl c_turn))] → va_S A s.heap H locs → lv_has ls 3 [] → W p l e rmX4_arrange s m av below meth c H locs 0 0 Q (F0 m 59 ls []) := by
    intro c_turn H locs ls hf hP hD hS hl
    unfold fX4_arrange_59 at hf
    exact ret_v (q := q) (wp := fun q => [(h0, .inr (4, [.ref a_won, .ref a_order, .ref a_seat, .ref a_outAt, .ref a_merit, .ref a_toCome, .ref a_turn, .int v_sides])), (a_merit, .inl (cyI, 6, .inl c_merit)), (a_order, .inl (cyI, 6, .inl c_order)), (a_p1, .inr (2, [.ref a_p1_strength, .ref a_p1_placeWorth, .ref a_p1_choiceWorth, .ref a_p1_balls, .ref a_p1_wheel, .int v_p1_sides, .int v_p1_kind, .int v_p1_rounds])), (a_p1_wheel, .inl (cyI, 6, .inl c_p1_wheel)), (a_turn, .inl (cyI, 6, .inl q))]) hQ hf hx hb hr hlocks hP hD hS dX4_arrange_59
  unfold fX4_arrange at hf
  obtain ⟨H, hH⟩ : ∃ H : Heap, H = s.heap := ⟨_, rfl⟩
  obtain ⟨locs, hlo⟩ : ∃ locs : List Loc, locs = [] := ⟨_, rfl⟩
  have hP : va_P D vwCl [(h0, .inr (4, [.ref a_won, .ref a_order, .ref a_seat, .ref a_outAt, .ref a_merit, .ref a_toCome, .ref a_turn, .int v_sides])), (a_merit, .inl (cyI, 6, .inl c_merit)), (a_order, .inl (cyI, 6, .inl c_order)), (a_p1, .inr (2, [.ref a_p1_strength, .ref a_p1_placeWorth, .ref a_p1_choiceWorth, .ref a_p1_balls, .ref a_p1_wheel, .int v_p1_sides, .int v_p1_kind, .int v_p1_rounds])), (a_p1_wheel, .inl (cyI, 6, .inl c_p1_wheel)), (a_turn, .inl (cyI, 6, .inl c_turn))] H := by rw [hH]; exact hP
  have hS : va_S A s.heap H locs := by rw [hH, hlo]; exact hS
  suffices hw : W p l e rmX4_arrange s m av below meth c H locs 0 0 Q (F0 m 0 ls []) by rw [hH, hlo] at hw; exact hw
  refine lv_aload_n hx hb dX4_arrange_0 rfl (lv_at hl 1 rfl) ?_
  refine va_get (D := D) (ci := 2) (v := .int v_p1_kind) (C := RX2) (T := TX2) (N := 8) hx hb hL inlX2 hown hK.1 hP 3 rfl rfl 6 (by decide) w0 (fun _ h9 => h9) rfl dX4_arrange_1 ?_
  rcases Decidable.em (v_p1_kind = 1) with z4_0 | z4_0
  · have hf := pif_t z4_0 hf
    refine lv_tableIn (tgt := 47) hx hb dX4_arrange_4 (by rw [z4_0]; decide) (by rw [z4_0]; decide) (by rw [z4_0]; try rfl) (by decide) ?_
    refine lv_aload_n hx hb dX4_arrange_47 rfl (lv_at hl 0 rfl) ?_
    refine lv_iload_n hx hb dX4_arrange_48 rfl (lv_at hl 2 rfl) ?_
    obtain ⟨q49, e49, hf⟩ := pb_some hf
    refine cc_v (wc := [(h0, .inr (4, [.ref a_won, .ref a_order, .ref a_seat, .ref a_outAt, .ref a_merit, .ref a_toCome, .ref a_turn, .int v_sides])), (a_order, .inl (cyI, 6, .inl c_order)), (a_turn, .inl (cyI, 6, .inl c_turn))]) (wr := [(a_merit, .inl (cyI, 6, .inl c_merit)), (a_p1, .inr (2, [.ref a_p1_strength, .ref a_p1_placeWorth, .ref a_p1_choiceWorth, .ref a_p1_balls, .ref a_p1_wheel, .int v_p1_sides, .int v_p1_kind, .int v_p1_rounds])), (a_p1_wheel, .inl (cyI, 6, .inl c_p1_wheel))]) (w1 := [(h0, .inr (4, [.ref a_won, .ref a_order, .ref a_seat, .ref a_outAt, .ref a_merit, .ref a_toCome, .ref a_turn, .int v_sides])), (a_order, .inl (cyI, 6, .inl c_order)), (a_turn, .inl (cyI, 6, .inl q49))]) (wn := [(h0, .inr (4, [.ref a_won, .ref a_order, .ref a_seat, .ref a_outAt, .ref a_merit, .ref a_toCome, .ref a_turn, .int v_sides])), (a_merit, .inl (cyI, 6, .inl c_merit)), (a_order, .inl (cyI, 6, .inl c_order)), (a_p1, .inr (2, [.ref a_p1_strength, .ref a_p1_placeWorth, .ref a_p1_choiceWorth, .ref a_p1_balls, .ref a_p1_wheel, .int v_p1_sides, .int v_p1_kind, .int v_p1_rounds])), (a_p1_wheel, .inl (cyI, 6, .inl c_p1_wheel)), (a_turn, .inl (cyI, 6, .inl q49))]) hP hD hS hA [0, 2, 5] [1, 3, 4] [3, 0, 4, 1, 2, 5] rfl rfl rfl (by decide) rfl rfl (va_runV (C := RX4) (As := [.int x2]) (rest := []) ⟨hx, hb, hml, hown, hL⟩ (mX4_chooseByBall l D cyI cyJ cyB cyS N H.size h0 a_order a_turn a_won a_seat a_outAt a_merit a_toCome v_sides c_order c_turn x2 q49 e49) (cwV 1 hL (gV (hR29 9 rfl) (hR29 10 rfl) (hR29 11 rfl) (hR1 23 rfl) (hR29 12 rfl)) rfl rfl rfl (by decide +kernel) ⟨Nat.le_of_ble_eq_true rfl, Nat.le_of_ble_eq_true rfl⟩) (PP_preV (ci := 4) (q0 := 0) hP hD hK [0, 2, 5] rfl rfl rfl rfl) rfl rfl hl.1 rfl (lv_room (Nat.le_of_ble_eq_true rfl)) dX4_arrange_49 ⟨Nat.le_of_ble_eq_true rfl, Nat.le_of_ble_eq_true rfl⟩) (fun H locs hP hD hS => ?_)
    refine lv_goto (tgt := 59) hx hb dX4_arrange_52 (by decide) ?_
    exact hB59 q49 H locs ls hf hP hD hS (lv_sub hl [] rfl)
  · have hf := pif_f z4_0 hf
    rcases Decidable.em (v_p1_kind = 2) with z4_1 | z4_1
    · have hf := pif_t z4_1 hf
      refine lv_tableIn (tgt := 40) hx hb dX4_arrange_4 (by rw [z4_1]; decide) (by rw [z4_1]; decide) (by rw [z4_1]; try rfl) (by decide) ?_
      refine lv_aload_n hx hb dX4_arrange_40 rfl (lv_at hl 0 rfl) ?_
      obtain ⟨q41, e41, hf⟩ := pb_some hf
      refine cc_v (wc := [(h0, .inr (4, [.ref a_won, .ref a_order, .ref a_seat, .ref a_outAt, .ref a_merit, .ref a_toCome, .ref a_turn, .int v_sides])), (a_merit, .inl (cyI, 6, .inl c_merit)), (a_order, .inl (cyI, 6, .inl c_order)), (a_turn, .inl (cyI, 6, .inl c_turn))]) (wr := [(a_p1, .inr (2, [.ref a_p1_strength, .ref a_p1_placeWorth, .ref a_p1_choiceWorth, .ref a_p1_balls, .ref a_p1_wheel, .int v_p1_sides, .int v_p1_kind, .int v_p1_rounds])), (a_p1_wheel, .inl (cyI, 6, .inl c_p1_wheel))]) (w1 := [(h0, .inr (4, [.ref a_won, .ref a_order, .ref a_seat, .ref a_outAt, .ref a_merit, .ref a_toCome, .ref a_turn, .int v_sides])), (a_merit, .inl (cyI, 6, .inl c_merit)), (a_order, .inl (cyI, 6, .inl c_order)), (a_turn, .inl (cyI, 6, .inl q41))]) (wn := [(h0, .inr (4, [.ref a_won, .ref a_order, .ref a_seat, .ref a_outAt, .ref a_merit, .ref a_toCome, .ref a_turn, .int v_sides])), (a_merit, .inl (cyI, 6, .inl c_merit)), (a_order, .inl (cyI, 6, .inl c_order)), (a_p1, .inr (2, [.ref a_p1_strength, .ref a_p1_placeWorth, .ref a_p1_choiceWorth, .ref a_p1_balls, .ref a_p1_wheel, .int v_p1_sides, .int v_p1_kind, .int v_p1_rounds])), (a_p1_wheel, .inl (cyI, 6, .inl c_p1_wheel)), (a_turn, .inl (cyI, 6, .inl q41))]) hP hD hS hA [0, 1, 2, 5] [3, 4] [2, 3, 4, 0, 1, 5] rfl rfl rfl (by decide) rfl rfl (va_runV (C := RX4) (As := []) (rest := []) ⟨hx, hb, hml, hown, hL⟩ (mX4_chooseByDay l D cyI cyJ cyB cyS N H.size h0 a_merit a_order a_turn a_won a_seat a_outAt a_toCome v_sides c_merit c_order c_turn  q41 e41) (cwV 0 hL (gV (hR29 1 rfl) (hR29 2 rfl) (hR29 3 rfl) (hR1 23 rfl) (hR29 4 rfl)) rfl rfl rfl (by decide +kernel) ⟨Nat.le_of_ble_eq_true rfl, Nat.le_of_ble_eq_true rfl⟩) (PP_preV (ci := 4) (q0 := 0) hP hD hK [0, 1, 2, 5] rfl rfl rfl rfl) rfl rfl hl.1 rfl (lv_room (Nat.le_of_ble_eq_true rfl)) dX4_arrange_41 ⟨Nat.le_of_ble_eq_true rfl, Nat.le_of_ble_eq_true rfl⟩) (fun H locs hP hD hS => ?_)
      refine lv_goto (tgt := 59) hx hb dX4_arrange_44 (by decide) ?_
      exact hB59 q41 H locs ls hf hP hD hS (lv_sub hl [] rfl)
    · have hf := pif_f z4_1 hf
      rcases Decidable.em (v_p1_kind = 3) with z4_2 | z4_2
      · have hf := pif_t z4_2 hf
        refine lv_tableIn (tgt := 32) hx hb dX4_arrange_4 (by rw [z4_2]; decide) (by rw [z4_2]; decide) (by rw [z4_2]; try rfl) (by decide) ?_
        refine lv_aload_n hx hb dX4_arrange_32 rfl (lv_at hl 0 rfl) ?_
        refine lv_aload_n hx hb dX4_arrange_33 rfl (lv_at hl 1 rfl) ?_
        obtain ⟨q34, e34, hf⟩ := pb_some hf
        refine cc_v (wc := [(h0, .inr (4, [.ref a_won, .ref a_order, .ref a_seat, .ref a_outAt, .ref a_merit, .ref a_toCome, .ref a_turn, .int v_sides])), (a_p1, .inr (2, [.ref a_p1_strength, .ref a_p1_placeWorth, .ref a_p1_choiceWorth, .ref a_p1_balls, .ref a_p1_wheel, .int v_p1_sides, .int v_p1_kind, .int v_p1_rounds])), (a_p1_wheel, .inl (cyI, 6, .inl c_p1_wheel)), (a_turn, .inl (cyI, 6, .inl c_turn))]) (wr := [(a_merit, .inl (cyI, 6, .inl c_merit)), (a_order, .inl (cyI, 6, .inl c_order))]) (w1 := [(h0, .inr (4, [.ref a_won, .ref a_order, .ref a_seat, .ref a_outAt, .ref a_merit, .ref a_toCome, .ref a_turn, .int v_sides])), (a_p1, .inr (2, [.ref a_p1_strength, .ref a_p1_placeWorth, .ref a_p1_choiceWorth, .ref a_p1_balls, .ref a_p1_wheel, .int v_p1_sides, .int v_p1_kind, .int v_p1_rounds])), (a_p1_wheel, .inl (cyI, 6, .inl c_p1_wheel)), (a_turn, .inl (cyI, 6, .inl q34))]) (wn := [(h0, .inr (4, [.ref a_won, .ref a_order, .ref a_seat, .ref a_outAt, .ref a_merit, .ref a_toCome, .ref a_turn, .int v_sides])), (a_merit, .inl (cyI, 6, .inl c_merit)), (a_order, .inl (cyI, 6, .inl c_order)), (a_p1, .inr (2, [.ref a_p1_strength, .ref a_p1_placeWorth, .ref a_p1_choiceWorth, .ref a_p1_balls, .ref a_p1_wheel, .int v_p1_sides, .int v_p1_kind, .int v_p1_rounds])), (a_p1_wheel, .inl (cyI, 6, .inl c_p1_wheel)), (a_turn, .inl (cyI, 6, .inl q34))]) hP hD hS hA [0, 3, 4, 5] [1, 2] [2, 0, 1, 3, 4, 5] rfl rfl rfl (by decide) rfl rfl (va_runV (C := RX4) (As := [.ref a_p1]) (rest := []) ⟨hx, hb, hml, hown, hL⟩ (mX4_turnWheel l D cyI cyJ cyB cyS N H.size h0 a_p1 a_p1_wheel a_turn a_won a_order a_seat a_outAt a_merit a_toCome a_p1_strength a_p1_placeWorth a_p1_choiceWorth a_p1_balls v_sides v_p1_sides v_p1_kind v_p1_rounds c_p1_wheel c_turn  q34 e34) (cwV 1 hL (gV (hR28 20 rfl) (hR28 21 rfl) (hR28 22 rfl) (hR1 23 rfl) (hR28 23 rfl)) rfl rfl rfl (by decide +kernel) ⟨Nat.le_of_ble_eq_true rfl, Nat.le_of_ble_eq_true rfl⟩) (PP_preV (ci := 4) (q0 := 0) hP hD hK [0, 3, 4, 5] rfl rfl rfl rfl) rfl rfl hl.1 rfl (lv_room (Nat.le_of_ble_eq_true rfl)) dX4_arrange_34 ⟨Nat.le_of_ble_eq_true rfl, Nat.le_of_ble_eq_true rfl⟩) (fun H locs hP hD hS => ?_)
        refine lv_goto (tgt := 59) hx hb dX4_arrange_37 (by decide) ?_
        exact hB59 q34 H locs ls hf hP hD hS (lv_sub hl [] rfl)
      · have hf := pif_f z4_2 hf
        refine lv_tableOut (tgt := 55) hx hb dX4_arrange_4 (by have y0 := lv_neT (k := 1) (a := 1) z4_0 rfl; have y1 := lv_neT (k := 2) (a := 2) z4_1 rfl; have y2 := lv_neT (k := 3) (a := 3) z4_2 rfl; omega) (by decide) ?_
        refine lv_aload_n hx hb dX4_arrange_55 rfl (lv_at hl 0 rfl) ?_
        obtain ⟨q56, e56, hf⟩ := pb_some hf
        refine cc_v (wc := [(h0, .inr (4, [.ref a_won, .ref a_order, .ref a_seat, .ref a_outAt, .ref a_merit, .ref a_toCome, .ref a_turn, .int v_sides])), (a_order, .inl (cyI, 6, .inl c_order)), (a_turn, .inl (cyI, 6, .inl c_turn))]) (wr := [(a_merit, .inl (cyI, 6, .inl c_merit)), (a_p1, .inr (2, [.ref a_p1_strength, .ref a_p1_placeWorth, .ref a_p1_choiceWorth, .ref a_p1_balls, .ref a_p1_wheel, .int v_p1_sides, .int v_p1_kind, .int v_p1_rounds])), (a_p1_wheel, .inl (cyI, 6, .inl c_p1_wheel))]) (w1 := [(h0, .inr (4, [.ref a_won, .ref a_order, .ref a_seat, .ref a_outAt, .ref a_merit, .ref a_toCome, .ref a_turn, .int v_sides])), (a_order, .inl (cyI, 6, .inl c_order)), (a_turn, .inl (cyI, 6, .inl q56))]) (wn := [(h0, .inr (4, [.ref a_won, .ref a_order, .ref a_seat, .ref a_outAt, .ref a_merit, .ref a_toCome, .ref a_turn, .int v_sides])), (a_merit, .inl (cyI, 6, .inl c_merit)), (a_order, .inl (cyI, 6, .inl c_order)), (a_p1, .inr (2, [.ref a_p1_strength, .ref a_p1_placeWorth, .ref a_p1_choiceWorth, .ref a_p1_balls, .ref a_p1_wheel, .int v_p1_sides, .int v_p1_kind, .int v_p1_rounds])), (a_p1_wheel, .inl (cyI, 6, .inl c_p1_wheel)), (a_turn, .inl (cyI, 6, .inl q56))]) hP hD hS hA [0, 2, 5] [1, 3, 4] [3, 0, 4, 1, 2, 5] rfl rfl rfl (by decide) rfl rfl (va_runV (C := RX4) (As := []) (rest := []) ⟨hx, hb, hml, hown, hL⟩ (mX4_chooseWorstFirst l D cyI cyJ cyB cyS N H.size h0 a_order a_turn a_won a_seat a_outAt a_merit a_toCome v_sides c_order c_turn  q56 e56) (cwV 0 hL (gV (hR29 13 rfl) (hR29 14 rfl) (hR29 15 rfl) (hR1 23 rfl) (hR29 16 rfl)) rfl rfl rfl (by decide +kernel) ⟨Nat.le_of_ble_eq_true rfl, Nat.le_of_ble_eq_true rfl⟩) (PP_preV (ci := 4) (q0 := 0) hP hD hK [0, 2, 5] rfl rfl rfl rfl) rfl rfl hl.1 rfl (lv_room (Nat.le_of_ble_eq_true rfl)) dX4_arrange_56 ⟨Nat.le_of_ble_eq_true rfl, Nat.le_of_ble_eq_true rfl⟩) (fun H locs hP hD hS => ?_)
        exact hB59 q56 H locs ls hf hP hD hS (lv_sub hl [] rfl)
