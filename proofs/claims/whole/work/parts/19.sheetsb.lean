def fX8_read_s2_26 (N : Nat) (v_games_size : Int32) (v_sheets_2_exists : Int32) (v_sheets_2_lane : Int32) (v_sheets_2_length : Int32) (c_sheets_2_cells : Nat → Int32) (x1 : Int32) (x2 : Int32) (x3 : Int32) (x4 : Int32) (x5 : Int32) (v_readFault : Int32) (c_games_ending : Nat → Int32) : Option (Int32 × Int32 × (Nat → Int32)) := some ((-1), v_readFault, c_games_ending)
def fX8_read_s2_60 (N : Nat) (v_games_size : Int32) (v_sheets_2_exists : Int32) (v_sheets_2_lane : Int32) (v_sheets_2_length : Int32) (c_sheets_2_cells : Nat → Int32) (x1 : Int32) (x2 : Int32) (x3 : Int32) (x4 : Int32) (x5 : Int32) (v_readFault : Int32) (c_games_ending : Nat → Int32) : Option (Int32 × Int32 × (Nat → Int32)) := some ((-1), v_readFault, c_games_ending)
def fX8_read_s2_114 (N : Nat) (v_games_size : Int32) (v_sheets_2_exists : Int32) (v_sheets_2_lane : Int32) (v_sheets_2_length : Int32) (c_sheets_2_cells : Nat → Int32) (x1 : Int32) (x2 : Int32) (x3 : Int32) (x4 : Int32) (x5 : Int32) (x8 : Int32) (v_readFault : Int32) (c_games_ending : Nat → Int32) : Option (Int32 × Int32 × (Nat → Int32)) := some ((-20) - x8, v_readFault, c_games_ending)
def fX8_read_s2_84 (N : Nat) (v_games_size : Int32) (v_sheets_2_exists : Int32) (v_sheets_2_lane : Int32) (v_sheets_2_length : Int32) (c_sheets_2_cells : Nat → Int32) (x1 : Int32) (x2 : Int32) (x3 : Int32) (x4 : Int32) (x5 : Int32) : Nat → Int32 → Int32 → Int32 → (Nat → Int32) → Option (Int32 × Int32 × (Nat → Int32))
  | 0, _, _, _, _ => none
  | n + 1, x7, x8, v_readFault, c_games_ending => pif (x7 ≤ x8) (pb (fX3_machineFault N v_sheets_2_exists v_sheets_2_lane x2 x7 x5) (fun q134 => pb (fX8_takeEnds N c_games_ending c_sheets_2_cells x3 x4 x7) (fun q148 => some (q148.1, q134, q148.2)))) (pg (inr (x3 + x8) 40) (pif ((c_sheets_2_cells (x3 + x8).toNatClampNeg) < 0) (fX8_read_s2_114 N v_games_size v_sheets_2_exists v_sheets_2_lane v_sheets_2_length c_sheets_2_cells x1 x2 x3 x4 x5 x8 v_readFault c_games_ending) (pif ((c_sheets_2_cells (x3 + x8).toNatClampNeg) ≤ 2) ((fX8_read_s2_84 N v_games_size v_sheets_2_exists v_sheets_2_lane v_sheets_2_length c_sheets_2_cells x1 x2 x3 x4 x5 n) x7 (x8 + 1) v_readFault c_games_ending) (fX8_read_s2_114 N v_games_size v_sheets_2_exists v_sheets_2_lane v_sheets_2_length c_sheets_2_cells x1 x2 x3 x4 x5 x8 v_readFault c_games_ending))))
def fX8_read_s2 (N : Nat) (v_readFault : Int32) (v_games_size : Int32) (c_games_ending : Nat → Int32) (v_sheets_2_exists : Int32) (v_sheets_2_lane : Int32) (v_sheets_2_length : Int32) (c_sheets_2_cells : Nat → Int32) (x1 : Int32) (x2 : Int32) (x3 : Int32) (x4 : Int32) (x5 : Int32) : Option (Int32 × Int32 × (Nat → Int32)) := pb (fX8_isSheet N x1) (fun q1 => pif (q1 = 0) (fX8_read_s2_26 N v_games_size v_sheets_2_exists v_sheets_2_lane v_sheets_2_length c_sheets_2_cells x1 x2 x3 x4 x5 v_readFault c_games_ending) (pb (fX8_isLane N x2) (fun q8 => pif (q8 = 0) (fX8_read_s2_26 N v_games_size v_sheets_2_exists v_sheets_2_lane v_sheets_2_length c_sheets_2_cells x1 x2 x3 x4 x5 v_readFault c_games_ending) (pif (x5 < 0) (fX8_read_s2_26 N v_games_size v_sheets_2_exists v_sheets_2_lane v_sheets_2_length c_sheets_2_cells x1 x2 x3 x4 x5 v_readFault c_games_ending) (pif (x5 ≤ 30) (pif (x4 < 0) (fX8_read_s2_60 N v_games_size v_sheets_2_exists v_sheets_2_lane v_sheets_2_length c_sheets_2_cells x1 x2 x3 x4 x5 v_readFault c_games_ending) (pif (v_games_size < x4) (fX8_read_s2_60 N v_games_size v_sheets_2_exists v_sheets_2_lane v_sheets_2_length c_sheets_2_cells x1 x2 x3 x4 x5 v_readFault c_games_ending) (pif (x5 ≤ (v_games_size - x4)) (pg (x1 = 2) (pb (fX3_readable N v_sheets_2_exists v_sheets_2_lane v_sheets_2_length x2 x3 x5) (fun q76 => fX8_read_s2_84 N v_games_size v_sheets_2_exists v_sheets_2_lane v_sheets_2_length c_sheets_2_cells x1 x2 x3 x4 x5 N q76 0 v_readFault c_games_ending))) (fX8_read_s2_60 N v_games_size v_sheets_2_exists v_sheets_2_lane v_sheets_2_length c_sheets_2_cells x1 x2 x3 x4 x5 v_readFault c_games_ending)))) (fX8_read_s2_26 N v_games_size v_sheets_2_exists v_sheets_2_lane v_sheets_2_length c_sheets_2_cells x1 x2 x3 x4 x5 v_readFault c_games_ending))))))
def wdX8_read_s2 (cyI cyJ cyB cyS : ClassId) (h0 : Nat) (a_games : Nat) (a_games_ending : Nat) (a_sheets : Nat) (a_sheets_2 : Nat) (a_sheets_2_cells : Nat) (a_rules : Nat) (a_standing : Nat) (a_reader : Nat) (a_tree : Nat) (a_course : Nat) (a_games_first : Nat) (a_games_second : Nat) (v_textFault : Int32) (v_readFault : Int32) (v_games_size : Int32) (c_games_ending : Nat → Int32) (c_sheets : Nat → Option Nat) (v_sheets_2_exists : Int32) (v_sheets_2_lane : Int32) (v_sheets_2_length : Int32) (c_sheets_2_cells : Nat → Int32) : va_W := [(h0, .inr (8, [.ref a_rules, .ref a_games, .ref a_standing, .ref a_reader, .ref a_tree, .ref a_course, .ref a_sheets, .int v_textFault, .int v_readFault])), (a_games, .inr (0, [.ref a_games_first, .ref a_games_second, .ref a_games_ending, .int v_games_size])), (a_games_ending, .inl (cyI, 30, .inl c_games_ending)), (a_sheets, .inl (cyS, 4, .inr (.inr (.inr (.inr c_sheets))))), (a_sheets_2, .inr (3, [.ref a_sheets_2_cells, .int v_sheets_2_exists, .int v_sheets_2_lane, .int v_sheets_2_length])), (a_sheets_2_cells, .inl (cyI, 40, .inl c_sheets_2_cells))]
abbrev rmX8_read_s2 : Room := { frames := 2, cells := 0, slots := 0, locals := 44 }
set_option maxHeartbeats 40000000 in
set_option maxRecDepth 100000 in
theorem mX8_read_s2 (l : Launch) (D : va_G) (cyI cyJ cyB cyS : ClassId) (N : Nat) (sz : Nat) (h0 : Nat) (a_games : Nat) (a_games_ending : Nat) (a_sheets : Nat) (a_sheets_2 : Nat) (a_sheets_2_cells : Nat) (a_rules : Nat) (a_standing : Nat) (a_reader : Nat) (a_tree : Nat) (a_course : Nat) (a_games_first : Nat) (a_games_second : Nat) (v_textFault : Int32) (v_readFault : Int32) (v_games_size : Int32) (c_games_ending : Nat → Int32) (c_sheets : Nat → Option Nat) (v_sheets_2_exists : Int32) (v_sheets_2_lane : Int32) (v_sheets_2_length : Int32) (c_sheets_2_cells : Nat → Int32) (x1 : Int32) (x2 : Int32) (x3 : Int32) (x4 : Int32) (x5 : Int32) (hsh : c_sheets 2 = some a_sheets_2) (q : Int32 × Int32 × (Nat → Int32)) (hf : fX8_read_s2 N v_readFault v_games_size c_games_ending v_sheets_2_exists v_sheets_2_lane v_sheets_2_length c_sheets_2_cells x1 x2 x3 x4 x5 = some q) : Met l yX8_read (wS yX8_read cX8_read 10 (some .int)) rmX8_read_s2 (va_Pc [.ref h0, .int x1, .int x2, .int x3, .int x4, .int x5] (PP D cyI cyJ cyB cyS (wdX8_read_s2 cyI cyJ cyB cyS h0 a_games a_games_ending a_sheets a_sheets_2 a_sheets_2_cells a_rules a_standing a_reader a_tree a_course a_games_first a_games_second v_textFault v_readFault v_games_size c_games_ending c_sheets v_sheets_2_exists v_sheets_2_lane v_sheets_2_length c_sheets_2_cells) sz)) (QI q.1 D (wdX8_read_s2 cyI cyJ cyB cyS h0 a_games a_games_ending a_sheets a_sheets_2 a_sheets_2_cells a_rules a_standing a_reader a_tree a_course a_games_first a_games_second v_textFault q.2.1 v_games_size q.2.2 c_sheets v_sheets_2_exists v_sheets_2_lane v_sheets_2_length c_sheets_2_cells) (va_A (wdX8_read_s2 cyI cyJ cyB cyS h0 a_games a_games_ending a_sheets a_sheets_2 a_sheets_2_cells a_rules a_standing a_reader a_tree a_course a_games_first a_games_second v_textFault v_readFault v_games_size c_games_ending c_sheets v_sheets_2_exists v_sheets_2_lane v_sheets_2_length c_sheets_2_cells) sz)) 0 0 (va_A (wdX8_read_s2 cyI cyJ cyB cyS h0 a_games a_games_ending a_sheets a_sheets_2 a_sheets_2_cells a_rules a_standing a_reader a_tree a_course a_games_first a_games_second v_textFault v_readFault v_games_size c_games_ending c_sheets v_sheets_2_exists v_sheets_2_lane v_sheets_2_length c_sheets_2_cells) sz) := by
  refine Met.ofW (cc := cX8_read) (maxL := 10) (ret := (some .int)) (by decide) rfl ?_
  intro p e s m args below meth c s₁ B hml hv
  obtain ⟨rfl, hsz, hP, hK, hD0⟩ := hv
  have hx := B.exec
  have hb := B.bytes
  have hr := B.returns
  have hts := atoms_spec (ws := (wS yX8_read cX8_read 10 (some .int))) B.pre
  have hown : s.vm.findClass RX8 = some m.cls := findClass_of_methodNamed B.named
  have hlocks := B.notSynchronized
  subst hsz
  have hD := hD0.self (sz := s.heap.size)
  refine w_nameQ (fun Q hQ => ?_)
  have hl := lv_entry ([.ref h0, .int x1, .int x2, .int x3, .int x4, .int x5] : List Value) (n := 10) (Nat.le_of_ble_eq_true rfl)
  rw [lg_entry_eq]
  generalize (lg_sl ([.ref h0, .int x1, .int x2, .int x3, .int x4, .int x5] : List Value) ++ List.replicate (10 - (lg_sl ([.ref h0, .int x1, .int x2, .int x3, .int x4, .int x5] : List Value)).length) Slot.unset).toArray = ls at hl ⊢
  have hl : lv_has ls 10 [(0, .ref h0), (1, .int x1), (2, .int x2), (3, .int x3), (4, .int x4), (5, .int x5)] := hl
  generalize hAe : va_A (wdX8_read_s2 cyI cyJ cyB cyS h0 a_games a_games_ending a_sheets a_sheets_2 a_sheets_2_cells a_rules a_standing a_reader a_tree a_course a_games_first a_games_second v_textFault v_readFault v_games_size c_games_ending c_sheets v_sheets_2_exists v_sheets_2_lane v_sheets_2_length c_sheets_2_cells) s.heap.size = A at hD hQ
  have hA : ∀ q : Nat, s.heap.size ≤ q → A q := fun q h => by rw [← hAe]; exact Or.inr h
  have hS : va_S A s.heap s.heap [] := va_S.rf
  generalize ([.ref h0, .int x1, .int x2, .int x3, .int x4, .int x5] : List Value).toArray = av at hts hQ ⊢
  have hL : ∀ w ∈ wsL_law, w.before av s = true := fun w h => hts w (List.mem_cons_of_mem _ h)
  have w0 := hL (.fieldLink RX8 336 "LosingLeague" "readFault" "I") (hR48 5 rfl)
  have w1 := hL (.fieldLink RX8 330 "LosingLeague$Sheet" "cells" "[I") (hR48 4 rfl)
  have w2 := hL (.static yX8_isSheet) (hR46 14 rfl)
  have w3 := hL (.static yX8_isLane) (hR46 17 rfl)
  have w4 := hL (.fieldLink RX8 19 "LosingLeague" "games" "LLosingLeague$Games;") (hR1 20 rfl)
  have w5 := hL (.fieldLink RX8 95 "LosingLeague$Games" "size" "I") (hR8 18 rfl)
  have w6 := hL (.fieldLink RX8 53 "LosingLeague" "sheets" "[LLosingLeague$Sheet;") (hR2 14 rfl)
  have hB26 : ∀ (v_readFault : Int32) (c_games_ending : Nat → Int32) (H : Heap) (locs : List Loc) (ls : Array Slot), fX8_read_s2_26 N v_games_size v_sheets_2_exists v_sheets_2_lane v_sheets_2_length c_sheets_2_cells x1 x2 x3 x4 x5 v_readFault c_games_ending = some q → va_P D vwCl (wdX8_read_s2 cyI cyJ cyB cyS h0 a_games a_games_ending a_sheets a_sheets_2 a_sheets_2_cells a_rules a_standing a_reader a_tree a_course a_games_first a_games_second v_textFault v_readFault v_games_size c_games_ending c_sheets v_sheets_2_exists v_sheets_2_lane v_sheets_2_length c_sheets_2_cells) H → va_D A (wdX8_read_s2 cyI cyJ cyB cyS h0 a_games a_games_ending a_sheets a_sheets_2 a_sheets_2_cells a_rules a_standing a_reader a_tree a_course a_games_first a_games_second v_textFault v_readFault v_games_size c_games_ending c_sheets v_sheets_2_exists v_sheets_2_lane v_sheets_2_length c_sheets_2_cells) → va_S A s.heap H locs → lv_has ls 10 [] → W p l e rmX8_read_s2 s m av below meth c H locs 0 0 Q (F0 m 26 ls []) := by
    intro v_readFault c_games_ending H locs ls hf hP hD hS hl
    unfold fX8_read_s2_26 at hf
    refine lv_iconst (v := (-1)) hx hb dX8_read_26 (by decide) ?_
    exact ret_i (q := q) (g := fun q => q.1) (wp := fun q => (wdX8_read_s2 cyI cyJ cyB cyS h0 a_games a_games_ending a_sheets a_sheets_2 a_sheets_2_cells a_rules a_standing a_reader a_tree a_course a_games_first a_games_second v_textFault q.2.1 v_games_size q.2.2 c_sheets v_sheets_2_exists v_sheets_2_lane v_sheets_2_length c_sheets_2_cells)) hQ hf hx hb hr hlocks hP hD hS dX8_read_27 rfl
  have hB60 : ∀ (v_readFault : Int32) (c_games_ending : Nat → Int32) (H : Heap) (locs : List Loc) (ls : Array Slot), fX8_read_s2_60 N v_games_size v_sheets_2_exists v_sheets_2_lane v_sheets_2_length c_sheets_2_cells x1 x2 x3 x4 x5 v_readFault c_games_ending = some q → va_P D vwCl (wdX8_read_s2 cyI cyJ cyB cyS h0 a_games a_games_ending a_sheets a_sheets_2 a_sheets_2_cells a_rules a_standing a_reader a_tree a_course a_games_first a_games_second v_textFault v_readFault v_games_size c_games_ending c_sheets v_sheets_2_exists v_sheets_2_lane v_sheets_2_length c_sheets_2_cells) H → va_D A (wdX8_read_s2 cyI cyJ cyB cyS h0 a_games a_games_ending a_sheets a_sheets_2 a_sheets_2_cells a_rules a_standing a_reader a_tree a_course a_games_first a_games_second v_textFault v_readFault v_games_size c_games_ending c_sheets v_sheets_2_exists v_sheets_2_lane v_sheets_2_length c_sheets_2_cells) → va_S A s.heap H locs → lv_has ls 10 [] → W p l e rmX8_read_s2 s m av below meth c H locs 0 0 Q (F0 m 60 ls []) := by
    intro v_readFault c_games_ending H locs ls hf hP hD hS hl
    unfold fX8_read_s2_60 at hf
    refine lv_iconst (v := (-1)) hx hb dX8_read_60 (by decide) ?_
    exact ret_i (q := q) (g := fun q => q.1) (wp := fun q => (wdX8_read_s2 cyI cyJ cyB cyS h0 a_games a_games_ending a_sheets a_sheets_2 a_sheets_2_cells a_rules a_standing a_reader a_tree a_course a_games_first a_games_second v_textFault q.2.1 v_games_size q.2.2 c_sheets v_sheets_2_exists v_sheets_2_lane v_sheets_2_length c_sheets_2_cells)) hQ hf hx hb hr hlocks hP hD hS dX8_read_61 rfl
  have hB114 : ∀ (x8 : Int32) (v_readFault : Int32) (c_games_ending : Nat → Int32) (H : Heap) (locs : List Loc) (ls : Array Slot), fX8_read_s2_114 N v_games_size v_sheets_2_exists v_sheets_2_lane v_sheets_2_length c_sheets_2_cells x1 x2 x3 x4 x5 x8 v_readFault c_games_ending = some q → va_P D vwCl (wdX8_read_s2 cyI cyJ cyB cyS h0 a_games a_games_ending a_sheets a_sheets_2 a_sheets_2_cells a_rules a_standing a_reader a_tree a_course a_games_first a_games_second v_textFault v_readFault v_games_size c_games_ending c_sheets v_sheets_2_exists v_sheets_2_lane v_sheets_2_length c_sheets_2_cells) H → va_D A (wdX8_read_s2 cyI cyJ cyB cyS h0 a_games a_games_ending a_sheets a_sheets_2 a_sheets_2_cells a_rules a_standing a_reader a_tree a_course a_games_first a_games_second v_textFault v_readFault v_games_size c_games_ending c_sheets v_sheets_2_exists v_sheets_2_lane v_sheets_2_length c_sheets_2_cells) → va_S A s.heap H locs → lv_has ls 10 [(8, .int x8)] → W p l e rmX8_read_s2 s m av below meth c H locs 0 0 Q (F0 m 114 ls []) := by
    intro x8 v_readFault c_games_ending H locs ls hf hP hD hS hl
    unfold fX8_read_s2_114 at hf
    refine lv_bipush (v := (-20)) hx hb dX8_read_114 (by decide) ?_
    refine lv_iload hx hb dX8_read_116 (lv_at hl 0 rfl) ?_
    refine lv_isub hx hb dX8_read_118 ?_
    exact ret_i (q := q) (g := fun q => q.1) (wp := fun q => (wdX8_read_s2 cyI cyJ cyB cyS h0 a_games a_games_ending a_sheets a_sheets_2 a_sheets_2_cells a_rules a_standing a_reader a_tree a_course a_games_first a_games_second v_textFault q.2.1 v_games_size q.2.2 c_sheets v_sheets_2_exists v_sheets_2_lane v_sheets_2_length c_sheets_2_cells)) hQ hf hx hb hr hlocks hP hD hS dX8_read_119 rfl
  have hB84 : ∀ (n : Nat), ∀ (x7 : Int32) (x8 : Int32) (v_readFault : Int32) (c_games_ending : Nat → Int32) (H : Heap) (locs : List Loc) (ls : Array Slot), fX8_read_s2_84 N v_games_size v_sheets_2_exists v_sheets_2_lane v_sheets_2_length c_sheets_2_cells x1 x2 x3 x4 x5 n x7 x8 v_readFault c_games_ending = some q → va_P D vwCl (wdX8_read_s2 cyI cyJ cyB cyS h0 a_games a_games_ending a_sheets a_sheets_2 a_sheets_2_cells a_rules a_standing a_reader a_tree a_course a_games_first a_games_second v_textFault v_readFault v_games_size c_games_ending c_sheets v_sheets_2_exists v_sheets_2_lane v_sheets_2_length c_sheets_2_cells) H → va_D A (wdX8_read_s2 cyI cyJ cyB cyS h0 a_games a_games_ending a_sheets a_sheets_2 a_sheets_2_cells a_rules a_standing a_reader a_tree a_course a_games_first a_games_second v_textFault v_readFault v_games_size c_games_ending c_sheets v_sheets_2_exists v_sheets_2_lane v_sheets_2_length c_sheets_2_cells) → va_S A s.heap H locs → lv_has ls 10 [(0, .ref h0), (2, .int x2), (3, .int x3), (4, .int x4), (5, .int x5), (6, .ref a_sheets_2), (7, .int x7), (8, .int x8)] → W p l e rmX8_read_s2 s m av below meth c H locs 0 0 Q (F0 m 84 ls []) := by
    intro n
    induction n with
    | zero => intro x7 x8 v_readFault c_games_ending H locs ls hf; exact absurd hf (by simp [fX8_read_s2_84])
    | succ n hk84 =>
      intro x7 x8 v_readFault c_games_ending H locs ls hf hP hD hS hl
      rw [fX8_read_s2_84] at hf
      refine lv_iload hx hb dX8_read_84 (lv_at hl 7 rfl) ?_
      refine lv_iload hx hb dX8_read_86 (lv_at hl 6 rfl) ?_
      refine lv_icmp_ge (tgt := 126) hx hb dX8_read_88 (by decide) (fun c88 => ?_) (fun c88 => ?_)
      · have hf := pif_t c88 hf
        refine lv_aload_n hx hb dX8_read_126 rfl (lv_at hl 0 rfl) ?_
        refine lv_aload hx hb dX8_read_127 (lv_at hl 5 rfl) ?_
        refine lv_iload_n hx hb dX8_read_129 rfl (lv_at hl 1 rfl) ?_
        refine lv_iload hx hb dX8_read_130 (lv_at hl 6 rfl) ?_
        refine lv_iload hx hb dX8_read_132 (lv_at hl 4 rfl) ?_
        obtain ⟨q134, e134, hf⟩ := pb_some hf
        refine cs_i (wc := (wdX3_machineFault cyI cyJ cyB cyS a_sheets_2 a_sheets_2_cells v_sheets_2_exists v_sheets_2_lane v_sheets_2_length)) (w1 := (wdX3_machineFault cyI cyJ cyB cyS a_sheets_2 a_sheets_2_cells v_sheets_2_exists v_sheets_2_lane v_sheets_2_length)) hP hD hS hA [4] rfl rfl rfl (va_runV (C := RX3) (As := [.int x2, .int x7, .int x5]) (rest := [.ref h0]) ⟨hx, hb, hml, hown, hL⟩ (mX3_machineFault l D cyI cyJ cyB cyS N H.size a_sheets_2 a_sheets_2_cells v_sheets_2_exists v_sheets_2_lane v_sheets_2_length x2 x7 x5 q134 e134) (cwV 3 hL (gV (hR48 12 rfl) (hR48 13 rfl) (hR48 14 rfl) (hR2 16 rfl) (hR48 15 rfl)) rfl rfl rfl (by decide +kernel) ⟨Nat.le_of_ble_eq_true rfl, Nat.le_of_ble_eq_true rfl⟩) (PP_preV (ci := 3) (q0 := 4) hP hD hK [4] rfl rfl rfl rfl) rfl rfl hl.1 rfl (lv_room (Nat.le_of_ble_eq_true rfl)) dX8_read_134 ⟨Nat.le_of_ble_eq_true rfl, Nat.le_of_ble_eq_true rfl⟩) (fun H locs hP hD hS => ?_)
        have hP : va_P D vwCl (wdX8_read_s2 cyI cyJ cyB cyS h0 a_games a_games_ending a_sheets a_sheets_2 a_sheets_2_cells a_rules a_standing a_reader a_tree a_course a_games_first a_games_second v_textFault v_readFault v_games_size c_games_ending c_sheets v_sheets_2_exists v_sheets_2_lane v_sheets_2_length c_sheets_2_cells) H := hP
        have hD : va_D A (wdX8_read_s2 cyI cyJ cyB cyS h0 a_games a_games_ending a_sheets a_sheets_2 a_sheets_2_cells a_rules a_standing a_reader a_tree a_course a_games_first a_games_second v_textFault v_readFault v_games_size c_games_ending c_sheets v_sheets_2_exists v_sheets_2_lane v_sheets_2_length c_sheets_2_cells) := hD
        refine va_put (D := D) (ci := 8) (v := .int q134) (ty := .int) (C := RX8) (T := TX8) (N := 9) hx hb hL inlX8 tyX8 tyX8_ok nmX8 hown hK.1 hP hD hS 0 rfl rfl 8 (by decide) w0 (fun _ h9 => h9) rfl (by decide +kernel) rfl rfl (Nat.le_of_ble_eq_true rfl) dX8_read_137 (fun H locs hP hD hS => ?_)
        have hP : va_P D vwCl (wdX8_read_s2 cyI cyJ cyB cyS h0 a_games a_games_ending a_sheets a_sheets_2 a_sheets_2_cells a_rules a_standing a_reader a_tree a_course a_games_first a_games_second v_textFault q134 v_games_size c_games_ending c_sheets v_sheets_2_exists v_sheets_2_lane v_sheets_2_length c_sheets_2_cells) H := hP
        have hD : va_D A (wdX8_read_s2 cyI cyJ cyB cyS h0 a_games a_games_ending a_sheets a_sheets_2 a_sheets_2_cells a_rules a_standing a_reader a_tree a_course a_games_first a_games_second v_textFault q134 v_games_size c_games_ending c_sheets v_sheets_2_exists v_sheets_2_lane v_sheets_2_length c_sheets_2_cells) := hD
        refine lv_aload_n hx hb dX8_read_140 rfl (lv_at hl 0 rfl) ?_
        refine lv_aload hx hb dX8_read_141 (lv_at hl 5 rfl) ?_
        refine lv_iload_n hx hb dX8_read_143 rfl (lv_at hl 2 rfl) ?_
        refine lv_iload hx hb dX8_read_144 (lv_at hl 3 rfl) ?_
        refine lv_iload hx hb dX8_read_146 (lv_at hl 6 rfl) ?_
        obtain ⟨q148, e148, hf⟩ := pb_some hf
        refine cs_i (wc := (wdX8_takeEnds cyI cyJ cyB cyS h0 a_games a_games_ending a_sheets_2 a_sheets_2_cells a_rules a_standing a_reader a_tree a_course a_sheets a_games_first a_games_second v_textFault q134 v_games_size c_games_ending v_sheets_2_exists v_sheets_2_lane v_sheets_2_length c_sheets_2_cells)) (w1 := (wdX8_takeEnds cyI cyJ cyB cyS h0 a_games a_games_ending a_sheets_2 a_sheets_2_cells a_rules a_standing a_reader a_tree a_course a_sheets a_games_first a_games_second v_textFault q134 v_games_size q148.2 v_sheets_2_exists v_sheets_2_lane v_sheets_2_length c_sheets_2_cells)) hP hD hS hA [0, 1, 2, 4, 5] rfl rfl rfl (va_runV (C := RX8) (As := [.ref a_sheets_2, .int x3, .int x4, .int x7]) (rest := []) ⟨hx, hb, hml, hown, hL⟩ (mX8_takeEnds l D cyI cyJ cyB cyS N H.size h0 a_games a_games_ending a_sheets_2 a_sheets_2_cells a_rules a_standing a_reader a_tree a_course a_sheets a_games_first a_games_second v_textFault q134 v_games_size c_games_ending v_sheets_2_exists v_sheets_2_lane v_sheets_2_length c_sheets_2_cells x3 x4 x7 q148 e148) (cwV 4 hL (gV (hR48 16 rfl) (hR48 17 rfl) (hR48 18 rfl) (hR1 2 rfl) (hR48 19 rfl)) rfl rfl rfl (by decide +kernel) ⟨Nat.le_of_ble_eq_true rfl, Nat.le_of_ble_eq_true rfl⟩) (PP_preV (ci := 8) (q0 := 0) hP hD hK [0, 1, 2, 4, 5] rfl rfl rfl rfl) rfl rfl hl.1 rfl (lv_room (Nat.le_of_ble_eq_true rfl)) dX8_read_148 ⟨Nat.le_of_ble_eq_true rfl, Nat.le_of_ble_eq_true rfl⟩) (fun H locs hP hD hS => ?_)
        have hP : va_P D vwCl (wdX8_read_s2 cyI cyJ cyB cyS h0 a_games a_games_ending a_sheets a_sheets_2 a_sheets_2_cells a_rules a_standing a_reader a_tree a_course a_games_first a_games_second v_textFault q134 v_games_size q148.2 c_sheets v_sheets_2_exists v_sheets_2_lane v_sheets_2_length c_sheets_2_cells) H := hP
        have hD : va_D A (wdX8_read_s2 cyI cyJ cyB cyS h0 a_games a_games_ending a_sheets a_sheets_2 a_sheets_2_cells a_rules a_standing a_reader a_tree a_course a_games_first a_games_second v_textFault q134 v_games_size q148.2 c_sheets v_sheets_2_exists v_sheets_2_lane v_sheets_2_length c_sheets_2_cells) := hD
        exact ret_i (q := q) (g := fun q => q.1) (wp := fun q => (wdX8_read_s2 cyI cyJ cyB cyS h0 a_games a_games_ending a_sheets a_sheets_2 a_sheets_2_cells a_rules a_standing a_reader a_tree a_course a_games_first a_games_second v_textFault q.2.1 v_games_size q.2.2 c_sheets v_sheets_2_exists v_sheets_2_lane v_sheets_2_length c_sheets_2_cells)) hQ hf hx hb hr hlocks hP hD hS dX8_read_151 rfl
      · have hf := pif_f c88 hf
        refine lv_aload hx hb dX8_read_91 (lv_at hl 5 rfl) ?_
        refine va_get (D := D) (ci := 3) (v := .ref a_sheets_2_cells) (C := RX3) (T := TX3) (N := 4) hx hb hL inlX3 hown hK.1 hP 4 rfl rfl 0 (by decide) w1 (fun _ h9 => h9) rfl dX8_read_93 ?_
        refine lv_iload_n hx hb dX8_read_96 rfl (lv_at hl 2 rfl) ?_
        refine lv_iload hx hb dX8_read_97 (lv_at hl 7 rfl) ?_
        refine lv_iadd hx hb dX8_read_99 ?_
        obtain ⟨h100, hf⟩ := pg_some hf
        refine va_iald hx hb hK.1 hP 5 0 rfl rfl h100 dX8_read_100 ?_
        refine lv_istore (lv' := [(9, .int (c_sheets_2_cells (x3 + x8).toNatClampNeg)), (0, .ref h0), (2, .int x2), (3, .int x3), (4, .int x4), (5, .int x5), (6, .ref a_sheets_2), (7, .int x7), (8, .int x8)]) hx hb dX8_read_101 hl (by decide) rfl (fun ls hl => ?_)
        refine lv_iload hx hb dX8_read_103 (lv_at hl 0 rfl) ?_
        refine lv_if_lt (tgt := 114) hx hb dX8_read_105 (by decide) (fun c105 => ?_) (fun c105 => ?_)
        · have hf := pif_t c105 hf
          exact hB114 x8 v_readFault c_games_ending H locs ls hf hP hD hS (lv_sub hl [8] rfl)
        · have hf := pif_f c105 hf
          refine lv_iload hx hb dX8_read_108 (lv_at hl 0 rfl) ?_
          refine lv_iconst (v := 2) hx hb dX8_read_110 (by decide) ?_
          refine lv_icmp_le (tgt := 120) hx hb dX8_read_111 (by decide) (fun c111 => ?_) (fun c111 => ?_)
          · have hf := pif_t c111 hf
            refine lv_iinc (v := x8 + 1) (lv' := [(8, .int (x8 + 1)), (9, .int (c_sheets_2_cells (x3 + x8).toNatClampNeg)), (0, .ref h0), (2, .int x2), (3, .int x3), (4, .int x4), (5, .int x5), (6, .ref a_sheets_2), (7, .int x7)]) hx hb dX8_read_120 hl (k := 8) rfl rfl (by decide) rfl (fun ls hl => ?_)
            refine lv_goto (tgt := 84) hx hb dX8_read_123 (by decide) ?_
            exact hk84 x7 (x8 + 1) v_readFault c_games_ending H locs ls hf hP hD hS (lv_sub hl [2, 3, 4, 5, 6, 7, 8, 0] rfl)
          · have hf := pif_f c111 hf
            exact hB114 x8 v_readFault c_games_ending H locs ls hf hP hD hS (lv_sub hl [8] rfl)
  unfold fX8_read_s2 at hf
  obtain ⟨H, hH⟩ : ∃ H : Heap, H = s.heap := ⟨_, rfl⟩
  obtain ⟨locs, hlo⟩ : ∃ locs : List Loc, locs = [] := ⟨_, rfl⟩
  have hP : va_P D vwCl (wdX8_read_s2 cyI cyJ cyB cyS h0 a_games a_games_ending a_sheets a_sheets_2 a_sheets_2_cells a_rules a_standing a_reader a_tree a_course a_games_first a_games_second v_textFault v_readFault v_games_size c_games_ending c_sheets v_sheets_2_exists v_sheets_2_lane v_sheets_2_length c_sheets_2_cells) H := by rw [hH]; exact hP
  have hS : va_S A s.heap H locs := by rw [hH, hlo]; exact hS
  suffices hw : W p l e rmX8_read_s2 s m av below meth c H locs 0 0 Q (F0 m 0 ls []) by rw [hH, hlo] at hw; exact hw
  refine lv_iload_n hx hb dX8_read_0 rfl (lv_at hl 1 rfl) ?_
  obtain ⟨q1, e1, hf⟩ := pb_some hf
  refine cs_i (wc := []) (w1 := []) hP hD hS hA [] rfl rfl rfl (va_runS (As := [.int x1]) (rest := []) ⟨hx, hb, hml, hown, hL⟩ (mX8_isSheet l D cyI cyJ cyB cyS N H.size   x1 q1 e1) (va_cwS 1 hL (gS (hR46 13 rfl) (hR46 14 rfl) (hR1 2 rfl) (hR46 15 rfl)) rfl rfl rfl (by decide +kernel) ⟨Nat.le_of_ble_eq_true rfl, Nat.le_of_ble_eq_true rfl⟩) (PP_preS hP hD hK [] rfl rfl) rfl rfl hl.1 rfl (lv_room (Nat.le_of_ble_eq_true rfl)) dX8_read_1 ⟨Nat.le_of_ble_eq_true rfl, Nat.le_of_ble_eq_true rfl⟩) (fun H locs hP hD hS => ?_)
  have hP : va_P D vwCl (wdX8_read_s2 cyI cyJ cyB cyS h0 a_games a_games_ending a_sheets a_sheets_2 a_sheets_2_cells a_rules a_standing a_reader a_tree a_course a_games_first a_games_second v_textFault v_readFault v_games_size c_games_ending c_sheets v_sheets_2_exists v_sheets_2_lane v_sheets_2_length c_sheets_2_cells) H := hP
  have hD : va_D A (wdX8_read_s2 cyI cyJ cyB cyS h0 a_games a_games_ending a_sheets a_sheets_2 a_sheets_2_cells a_rules a_standing a_reader a_tree a_course a_games_first a_games_second v_textFault v_readFault v_games_size c_games_ending c_sheets v_sheets_2_exists v_sheets_2_lane v_sheets_2_length c_sheets_2_cells) := hD
  refine lv_if_eq (tgt := 26) hx hb dX8_read_4 (by decide) (fun c4 => ?_) (fun c4 => ?_)
  · have hf := pif_t c4 hf
    exact hB26 v_readFault c_games_ending H locs ls hf hP hD hS (lv_sub hl [] rfl)
  · have hf := pif_f c4 hf
    refine lv_iload_n hx hb dX8_read_7 rfl (lv_at hl 2 rfl) ?_
    obtain ⟨q8, e8, hf⟩ := pb_some hf
    refine cs_i (wc := []) (w1 := []) hP hD hS hA [] rfl rfl rfl (va_runS (As := [.int x2]) (rest := []) ⟨hx, hb, hml, hown, hL⟩ (mX8_isLane l D cyI cyJ cyB cyS N H.size   x2 q8 e8) (va_cwS 1 hL (gS (hR46 16 rfl) (hR46 17 rfl) (hR1 2 rfl) (hR46 18 rfl)) rfl rfl rfl (by decide +kernel) ⟨Nat.le_of_ble_eq_true rfl, Nat.le_of_ble_eq_true rfl⟩) (PP_preS hP hD hK [] rfl rfl) rfl rfl hl.1 rfl (lv_room (Nat.le_of_ble_eq_true rfl)) dX8_read_8 ⟨Nat.le_of_ble_eq_true rfl, Nat.le_of_ble_eq_true rfl⟩) (fun H locs hP hD hS => ?_)
    have hP : va_P D vwCl (wdX8_read_s2 cyI cyJ cyB cyS h0 a_games a_games_ending a_sheets a_sheets_2 a_sheets_2_cells a_rules a_standing a_reader a_tree a_course a_games_first a_games_second v_textFault v_readFault v_games_size c_games_ending c_sheets v_sheets_2_exists v_sheets_2_lane v_sheets_2_length c_sheets_2_cells) H := hP
    have hD : va_D A (wdX8_read_s2 cyI cyJ cyB cyS h0 a_games a_games_ending a_sheets a_sheets_2 a_sheets_2_cells a_rules a_standing a_reader a_tree a_course a_games_first a_games_second v_textFault v_readFault v_games_size c_games_ending c_sheets v_sheets_2_exists v_sheets_2_lane v_sheets_2_length c_sheets_2_cells) := hD
    refine lv_if_eq (tgt := 26) hx hb dX8_read_11 (by decide) (fun c11 => ?_) (fun c11 => ?_)
    · have hf := pif_t c11 hf
      exact hB26 v_readFault c_games_ending H locs ls hf hP hD hS (lv_sub hl [] rfl)
    · have hf := pif_f c11 hf
      refine lv_iload hx hb dX8_read_14 (lv_at hl 5 rfl) ?_
      refine lv_if_lt (tgt := 26) hx hb dX8_read_16 (by decide) (fun c16 => ?_) (fun c16 => ?_)
      · have hf := pif_t c16 hf
        exact hB26 v_readFault c_games_ending H locs ls hf hP hD hS (lv_sub hl [] rfl)
      · have hf := pif_f c16 hf
        refine lv_iload hx hb dX8_read_19 (lv_at hl 5 rfl) ?_
        refine lv_bipush (v := 30) hx hb dX8_read_21 (by decide) ?_
        refine lv_icmp_le (tgt := 28) hx hb dX8_read_23 (by decide) (fun c23 => ?_) (fun c23 => ?_)
        · have hf := pif_t c23 hf
          refine lv_iload hx hb dX8_read_28 (lv_at hl 4 rfl) ?_
          refine lv_if_lt (tgt := 60) hx hb dX8_read_30 (by decide) (fun c30 => ?_) (fun c30 => ?_)
          · have hf := pif_t c30 hf
            exact hB60 v_readFault c_games_ending H locs ls hf hP hD hS (lv_sub hl [] rfl)
          · have hf := pif_f c30 hf
            refine lv_iload hx hb dX8_read_33 (lv_at hl 4 rfl) ?_
            refine lv_aload_n hx hb dX8_read_35 rfl (lv_at hl 0 rfl) ?_
            refine va_get (D := D) (ci := 8) (v := .ref a_games) (C := RX8) (T := TX8) (N := 9) hx hb hL inlX8 hown hK.1 hP 0 rfl rfl 1 (by decide) w4 (fun _ h9 => h9) rfl dX8_read_36 ?_
            refine va_get (D := D) (ci := 0) (v := .int v_games_size) (C := RX0) (T := TX0) (N := 4) hx hb hL inlX0 hown hK.1 hP 1 rfl rfl 3 (by decide) w5 (fun _ h9 => h9) rfl dX8_read_39 ?_
            refine lv_icmp_gt (tgt := 60) hx hb dX8_read_42 (by decide) (fun c42 => ?_) (fun c42 => ?_)
            · have hf := pif_t c42 hf
              exact hB60 v_readFault c_games_ending H locs ls hf hP hD hS (lv_sub hl [] rfl)
            · have hf := pif_f c42 hf
              refine lv_iload hx hb dX8_read_45 (lv_at hl 5 rfl) ?_
              refine lv_aload_n hx hb dX8_read_47 rfl (lv_at hl 0 rfl) ?_
              refine va_get (D := D) (ci := 8) (v := .ref a_games) (C := RX8) (T := TX8) (N := 9) hx hb hL inlX8 hown hK.1 hP 0 rfl rfl 1 (by decide) w4 (fun _ h9 => h9) rfl dX8_read_48 ?_
              refine va_get (D := D) (ci := 0) (v := .int v_games_size) (C := RX0) (T := TX0) (N := 4) hx hb hL inlX0 hown hK.1 hP 1 rfl rfl 3 (by decide) w5 (fun _ h9 => h9) rfl dX8_read_51 ?_
              refine lv_iload hx hb dX8_read_54 (lv_at hl 4 rfl) ?_
              refine lv_isub hx hb dX8_read_56 ?_
              refine lv_icmp_le (tgt := 62) hx hb dX8_read_57 (by decide) (fun c57 => ?_) (fun c57 => ?_)
              · have hf := pif_t c57 hf
                refine lv_aload_n hx hb dX8_read_62 rfl (lv_at hl 0 rfl) ?_
                refine va_get (D := D) (ci := 8) (v := .ref a_sheets) (C := RX8) (T := TX8) (N := 9) hx hb hL inlX8 hown hK.1 hP 0 rfl rfl 6 (by decide) w6 (fun _ h9 => h9) rfl dX8_read_63 ?_
                refine lv_iload_n hx hb dX8_read_66 rfl (lv_at hl 1 rfl) ?_
                obtain ⟨z67, hf⟩ := pg_some hf
                refine va_aldq (C := "LosingLeague$Sheet") hx hb hK.1 hP 3 3 rfl rfl (by rw [z67]; exact (by decide : inr 2 4)) dX8_read_67 ?_
                rw [show va_rf (c_sheets x1.toNatClampNeg) = Value.ref a_sheets_2 from by rw [z67]; exact congrArg va_rf hsh]
                refine lv_astore (lv' := [(6, .ref a_sheets_2), (0, .ref h0), (1, .int x1), (2, .int x2), (3, .int x3), (4, .int x4), (5, .int x5)]) hx hb dX8_read_68 hl (by decide) rfl (fun ls hl => ?_)
                refine lv_aload hx hb dX8_read_70 (lv_at hl 0 rfl) ?_
                refine lv_iload_n hx hb dX8_read_72 rfl (lv_at hl 3 rfl) ?_
                refine lv_iload_n hx hb dX8_read_73 rfl (lv_at hl 4 rfl) ?_
                refine lv_iload hx hb dX8_read_74 (lv_at hl 6 rfl) ?_
                obtain ⟨q76, e76, hf⟩ := pb_some hf
                refine cs_i (wc := (wdX3_readable cyI cyJ cyB cyS a_sheets_2 a_sheets_2_cells v_sheets_2_exists v_sheets_2_lane v_sheets_2_length)) (w1 := (wdX3_readable cyI cyJ cyB cyS a_sheets_2 a_sheets_2_cells v_sheets_2_exists v_sheets_2_lane v_sheets_2_length)) hP hD hS hA [4] rfl rfl rfl (va_runV (C := RX3) (As := [.int x2, .int x3, .int x5]) (rest := []) ⟨hx, hb, hml, hown, hL⟩ (mX3_readable l D cyI cyJ cyB cyS N H.size a_sheets_2 a_sheets_2_cells v_sheets_2_exists v_sheets_2_lane v_sheets_2_length x2 x3 x5 q76 e76) (cwV 3 hL (gV (hR48 6 rfl) (hR48 7 rfl) (hR48 8 rfl) (hR2 16 rfl) (hR48 9 rfl)) rfl rfl rfl (by decide +kernel) ⟨Nat.le_of_ble_eq_true rfl, Nat.le_of_ble_eq_true rfl⟩) (PP_preV (ci := 3) (q0 := 4) hP hD hK [4] rfl rfl rfl rfl) rfl rfl hl.1 rfl (lv_room (Nat.le_of_ble_eq_true rfl)) dX8_read_76 ⟨Nat.le_of_ble_eq_true rfl, Nat.le_of_ble_eq_true rfl⟩) (fun H locs hP hD hS => ?_)
                have hP : va_P D vwCl (wdX8_read_s2 cyI cyJ cyB cyS h0 a_games a_games_ending a_sheets a_sheets_2 a_sheets_2_cells a_rules a_standing a_reader a_tree a_course a_games_first a_games_second v_textFault v_readFault v_games_size c_games_ending c_sheets v_sheets_2_exists v_sheets_2_lane v_sheets_2_length c_sheets_2_cells) H := hP
                have hD : va_D A (wdX8_read_s2 cyI cyJ cyB cyS h0 a_games a_games_ending a_sheets a_sheets_2 a_sheets_2_cells a_rules a_standing a_reader a_tree a_course a_games_first a_games_second v_textFault v_readFault v_games_size c_games_ending c_sheets v_sheets_2_exists v_sheets_2_lane v_sheets_2_length c_sheets_2_cells) := hD
                refine lv_istore (lv' := [(7, .int q76), (6, .ref a_sheets_2), (0, .ref h0), (1, .int x1), (2, .int x2), (3, .int x3), (4, .int x4), (5, .int x5)]) hx hb dX8_read_79 hl (by decide) rfl (fun ls hl => ?_)
                refine lv_iconst (v := 0) hx hb dX8_read_81 (by decide) ?_
                refine lv_istore (lv' := [(8, .int 0), (7, .int q76), (6, .ref a_sheets_2), (0, .ref h0), (1, .int x1), (2, .int x2), (3, .int x3), (4, .int x4), (5, .int x5)]) hx hb dX8_read_82 hl (by decide) rfl (fun ls hl => ?_)
                exact hB84 N q76 0 v_readFault c_games_ending H locs ls hf hP hD hS (lv_sub hl [3, 5, 6, 7, 8, 2, 1, 0] rfl)
              · have hf := pif_f c57 hf
                exact hB60 v_readFault c_games_ending H locs ls hf hP hD hS (lv_sub hl [] rfl)
        · have hf := pif_f c23 hf
          exact hB26 v_readFault c_games_ending H locs ls hf hP hD hS (lv_sub hl [] rfl)
def fX8_read_s3_26 (N : Nat) (v_games_size : Int32) (v_sheets_3_exists : Int32) (v_sheets_3_lane : Int32) (v_sheets_3_length : Int32) (c_sheets_3_cells : Nat → Int32) (x1 : Int32) (x2 : Int32) (x3 : Int32) (x4 : Int32) (x5 : Int32) (v_readFault : Int32) (c_games_ending : Nat → Int32) : Option (Int32 × Int32 × (Nat → Int32)) := some ((-1), v_readFault, c_games_ending)
def fX8_read_s3_60 (N : Nat) (v_games_size : Int32) (v_sheets_3_exists : Int32) (v_sheets_3_lane : Int32) (v_sheets_3_length : Int32) (c_sheets_3_cells : Nat → Int32) (x1 : Int32) (x2 : Int32) (x3 : Int32) (x4 : Int32) (x5 : Int32) (v_readFault : Int32) (c_games_ending : Nat → Int32) : Option (Int32 × Int32 × (Nat → Int32)) := some ((-1), v_readFault, c_games_ending)
def fX8_read_s3_114 (N : Nat) (v_games_size : Int32) (v_sheets_3_exists : Int32) (v_sheets_3_lane : Int32) (v_sheets_3_length : Int32) (c_sheets_3_cells : Nat → Int32) (x1 : Int32) (x2 : Int32) (x3 : Int32) (x4 : Int32) (x5 : Int32) (x8 : Int32) (v_readFault : Int32) (c_games_ending : Nat → Int32) : Option (Int32 × Int32 × (Nat → Int32)) := some ((-20) - x8, v_readFault, c_games_ending)
def fX8_read_s3_84 (N : Nat) (v_games_size : Int32) (v_sheets_3_exists : Int32) (v_sheets_3_lane : Int32) (v_sheets_3_length : Int32) (c_sheets_3_cells : Nat → Int32) (x1 : Int32) (x2 : Int32) (x3 : Int32) (x4 : Int32) (x5 : Int32) : Nat → Int32 → Int32 → Int32 → (Nat → Int32) → Option (Int32 × Int32 × (Nat → Int32))
  | 0, _, _, _, _ => none
  | n + 1, x7, x8, v_readFault, c_games_ending => pif (x7 ≤ x8) (pb (fX3_machineFault N v_sheets_3_exists v_sheets_3_lane x2 x7 x5) (fun q134 => pb (fX8_takeEnds N c_games_ending c_sheets_3_cells x3 x4 x7) (fun q148 => some (q148.1, q134, q148.2)))) (pg (inr (x3 + x8) 40) (pif ((c_sheets_3_cells (x3 + x8).toNatClampNeg) < 0) (fX8_read_s3_114 N v_games_size v_sheets_3_exists v_sheets_3_lane v_sheets_3_length c_sheets_3_cells x1 x2 x3 x4 x5 x8 v_readFault c_games_ending) (pif ((c_sheets_3_cells (x3 + x8).toNatClampNeg) ≤ 2) ((fX8_read_s3_84 N v_games_size v_sheets_3_exists v_sheets_3_lane v_sheets_3_length c_sheets_3_cells x1 x2 x3 x4 x5 n) x7 (x8 + 1) v_readFault c_games_ending) (fX8_read_s3_114 N v_games_size v_sheets_3_exists v_sheets_3_lane v_sheets_3_length c_sheets_3_cells x1 x2 x3 x4 x5 x8 v_readFault c_games_ending))))
def fX8_read_s3 (N : Nat) (v_readFault : Int32) (v_games_size : Int32) (c_games_ending : Nat → Int32) (v_sheets_3_exists : Int32) (v_sheets_3_lane : Int32) (v_sheets_3_length : Int32) (c_sheets_3_cells : Nat → Int32) (x1 : Int32) (x2 : Int32) (x3 : Int32) (x4 : Int32) (x5 : Int32) : Option (Int32 × Int32 × (Nat → Int32)) := pb (fX8_isSheet N x1) (fun q1 => pif (q1 = 0) (fX8_read_s3_26 N v_games_size v_sheets_3_exists v_sheets_3_lane v_sheets_3_length c_sheets_3_cells x1 x2 x3 x4 x5 v_readFault c_games_ending) (pb (fX8_isLane N x2) (fun q8 => pif (q8 = 0) (fX8_read_s3_26 N v_games_size v_sheets_3_exists v_sheets_3_lane v_sheets_3_length c_sheets_3_cells x1 x2 x3 x4 x5 v_readFault c_games_ending) (pif (x5 < 0) (fX8_read_s3_26 N v_games_size v_sheets_3_exists v_sheets_3_lane v_sheets_3_length c_sheets_3_cells x1 x2 x3 x4 x5 v_readFault c_games_ending) (pif (x5 ≤ 30) (pif (x4 < 0) (fX8_read_s3_60 N v_games_size v_sheets_3_exists v_sheets_3_lane v_sheets_3_length c_sheets_3_cells x1 x2 x3 x4 x5 v_readFault c_games_ending) (pif (v_games_size < x4) (fX8_read_s3_60 N v_games_size v_sheets_3_exists v_sheets_3_lane v_sheets_3_length c_sheets_3_cells x1 x2 x3 x4 x5 v_readFault c_games_ending) (pif (x5 ≤ (v_games_size - x4)) (pg (x1 = 3) (pb (fX3_readable N v_sheets_3_exists v_sheets_3_lane v_sheets_3_length x2 x3 x5) (fun q76 => fX8_read_s3_84 N v_games_size v_sheets_3_exists v_sheets_3_lane v_sheets_3_length c_sheets_3_cells x1 x2 x3 x4 x5 N q76 0 v_readFault c_games_ending))) (fX8_read_s3_60 N v_games_size v_sheets_3_exists v_sheets_3_lane v_sheets_3_length c_sheets_3_cells x1 x2 x3 x4 x5 v_readFault c_games_ending)))) (fX8_read_s3_26 N v_games_size v_sheets_3_exists v_sheets_3_lane v_sheets_3_length c_sheets_3_cells x1 x2 x3 x4 x5 v_readFault c_games_ending))))))
def wdX8_read_s3 (cyI cyJ cyB cyS : ClassId) (h0 : Nat) (a_games : Nat) (a_games_ending : Nat) (a_sheets : Nat) (a_sheets_3 : Nat) (a_sheets_3_cells : Nat) (a_rules : Nat) (a_standing : Nat) (a_reader : Nat) (a_tree : Nat) (a_course : Nat) (a_games_first : Nat) (a_games_second : Nat) (v_textFault : Int32) (v_readFault : Int32) (v_games_size : Int32) (c_games_ending : Nat → Int32) (c_sheets : Nat → Option Nat) (v_sheets_3_exists : Int32) (v_sheets_3_lane : Int32) (v_sheets_3_length : Int32) (c_sheets_3_cells : Nat → Int32) : va_W := [(h0, .inr (8, [.ref a_rules, .ref a_games, .ref a_standing, .ref a_reader, .ref a_tree, .ref a_course, .ref a_sheets, .int v_textFault, .int v_readFault])), (a_games, .inr (0, [.ref a_games_first, .ref a_games_second, .ref a_games_ending, .int v_games_size])), (a_games_ending, .inl (cyI, 30, .inl c_games_ending)), (a_sheets, .inl (cyS, 4, .inr (.inr (.inr (.inr c_sheets))))), (a_sheets_3, .inr (3, [.ref a_sheets_3_cells, .int v_sheets_3_exists, .int v_sheets_3_lane, .int v_sheets_3_length])), (a_sheets_3_cells, .inl (cyI, 40, .inl c_sheets_3_cells))]
abbrev rmX8_read_s3 : Room := { frames := 2, cells := 0, slots := 0, locals := 44 }
set_option maxHeartbeats 40000000 in
set_option maxRecDepth 100000 in
theorem mX8_read_s3 (l : Launch) (D : va_G) (cyI cyJ cyB cyS : ClassId) (N : Nat) (sz : Nat) (h0 : Nat) (a_games : Nat) (a_games_ending : Nat) (a_sheets : Nat) (a_sheets_3 : Nat) (a_sheets_3_cells : Nat) (a_rules : Nat) (a_standing : Nat) (a_reader : Nat) (a_tree : Nat) (a_course : Nat) (a_games_first : Nat) (a_games_second : Nat) (v_textFault : Int32) (v_readFault : Int32) (v_games_size : Int32) (c_games_ending : Nat → Int32) (c_sheets : Nat → Option Nat) (v_sheets_3_exists : Int32) (v_sheets_3_lane : Int32) (v_sheets_3_length : Int32) (c_sheets_3_cells : Nat → Int32) (x1 : Int32) (x2 : Int32) (x3 : Int32) (x4 : Int32) (x5 : Int32) (hsh : c_sheets 3 = some a_sheets_3) (q : Int32 × Int32 × (Nat → Int32)) (hf : fX8_read_s3 N v_readFault v_games_size c_games_ending v_sheets_3_exists v_sheets_3_lane v_sheets_3_length c_sheets_3_cells x1 x2 x3 x4 x5 = some q) : Met l yX8_read (wS yX8_read cX8_read 10 (some .int)) rmX8_read_s3 (va_Pc [.ref h0, .int x1, .int x2, .int x3, .int x4, .int x5] (PP D cyI cyJ cyB cyS (wdX8_read_s3 cyI cyJ cyB cyS h0 a_games a_games_ending a_sheets a_sheets_3 a_sheets_3_cells a_rules a_standing a_reader a_tree a_course a_games_first a_games_second v_textFault v_readFault v_games_size c_games_ending c_sheets v_sheets_3_exists v_sheets_3_lane v_sheets_3_length c_sheets_3_cells) sz)) (QI q.1 D (wdX8_read_s3 cyI cyJ cyB cyS h0 a_games a_games_ending a_sheets a_sheets_3 a_sheets_3_cells a_rules a_standing a_reader a_tree a_course a_games_first a_games_second v_textFault q.2.1 v_games_size q.2.2 c_sheets v_sheets_3_exists v_sheets_3_lane v_sheets_3_length c_sheets_3_cells) (va_A (wdX8_read_s3 cyI cyJ cyB cyS h0 a_games a_games_ending a_sheets a_sheets_3 a_sheets_3_cells a_rules a_standing a_reader a_tree a_course a_games_first a_games_second v_textFault v_readFault v_games_size c_games_ending c_sheets v_sheets_3_exists v_sheets_3_lane v_sheets_3_length c_sheets_3_cells) sz)) 0 0 (va_A (wdX8_read_s3 cyI cyJ cyB cyS h0 a_games a_games_ending a_sheets a_sheets_3 a_sheets_3_cells a_rules a_standing a_reader a_tree a_course a_games_first a_games_second v_textFault v_readFault v_games_size c_games_ending c_sheets v_sheets_3_exists v_sheets_3_lane v_sheets_3_length c_sheets_3_cells) sz) := by
  refine Met.ofW (cc := cX8_read) (maxL := 10) (ret := (some .int)) (by decide) rfl ?_
  intro p e s m args below meth c s₁ B hml hv
  obtain ⟨rfl, hsz, hP, hK, hD0⟩ := hv
  have hx := B.exec
  have hb := B.bytes
  have hr := B.returns
  have hts := atoms_spec (ws := (wS yX8_read cX8_read 10 (some .int))) B.pre
  have hown : s.vm.findClass RX8 = some m.cls := findClass_of_methodNamed B.named
  have hlocks := B.notSynchronized
  subst hsz
  have hD := hD0.self (sz := s.heap.size)
  refine w_nameQ (fun Q hQ => ?_)
  have hl := lv_entry ([.ref h0, .int x1, .int x2, .int x3, .int x4, .int x5] : List Value) (n := 10) (Nat.le_of_ble_eq_true rfl)
  rw [lg_entry_eq]
  generalize (lg_sl ([.ref h0, .int x1, .int x2, .int x3, .int x4, .int x5] : List Value) ++ List.replicate (10 - (lg_sl ([.ref h0, .int x1, .int x2, .int x3, .int x4, .int x5] : List Value)).length) Slot.unset).toArray = ls at hl ⊢
  have hl : lv_has ls 10 [(0, .ref h0), (1, .int x1), (2, .int x2), (3, .int x3), (4, .int x4), (5, .int x5)] := hl
  generalize hAe : va_A (wdX8_read_s3 cyI cyJ cyB cyS h0 a_games a_games_ending a_sheets a_sheets_3 a_sheets_3_cells a_rules a_standing a_reader a_tree a_course a_games_first a_games_second v_textFault v_readFault v_games_size c_games_ending c_sheets v_sheets_3_exists v_sheets_3_lane v_sheets_3_length c_sheets_3_cells) s.heap.size = A at hD hQ
  have hA : ∀ q : Nat, s.heap.size ≤ q → A q := fun q h => by rw [← hAe]; exact Or.inr h
  have hS : va_S A s.heap s.heap [] := va_S.rf
  generalize ([.ref h0, .int x1, .int x2, .int x3, .int x4, .int x5] : List Value).toArray = av at hts hQ ⊢
  have hL : ∀ w ∈ wsL_law, w.before av s = true := fun w h => hts w (List.mem_cons_of_mem _ h)
  have w0 := hL (.fieldLink RX8 336 "LosingLeague" "readFault" "I") (hR48 5 rfl)
  have w1 := hL (.fieldLink RX8 330 "LosingLeague$Sheet" "cells" "[I") (hR48 4 rfl)
  have w2 := hL (.static yX8_isSheet) (hR46 14 rfl)
  have w3 := hL (.static yX8_isLane) (hR46 17 rfl)
  have w4 := hL (.fieldLink RX8 19 "LosingLeague" "games" "LLosingLeague$Games;") (hR1 20 rfl)
  have w5 := hL (.fieldLink RX8 95 "LosingLeague$Games" "size" "I") (hR8 18 rfl)
  have w6 := hL (.fieldLink RX8 53 "LosingLeague" "sheets" "[LLosingLeague$Sheet;") (hR2 14 rfl)
  have hB26 : ∀ (v_readFault : Int32) (c_games_ending : Nat → Int32) (H : Heap) (locs : List Loc) (ls : Array Slot), fX8_read_s3_26 N v_games_size v_sheets_3_exists v_sheets_3_lane v_sheets_3_length c_sheets_3_cells x1 x2 x3 x4 x5 v_readFault c_games_ending = some q → va_P D vwCl (wdX8_read_s3 cyI cyJ cyB cyS h0 a_games a_games_ending a_sheets a_sheets_3 a_sheets_3_cells a_rules a_standing a_reader a_tree a_course a_games_first a_games_second v_textFault v_readFault v_games_size c_games_ending c_sheets v_sheets_3_exists v_sheets_3_lane v_sheets_3_length c_sheets_3_cells) H → va_D A (wdX8_read_s3 cyI cyJ cyB cyS h0 a_games a_games_ending a_sheets a_sheets_3 a_sheets_3_cells a_rules a_standing a_reader a_tree a_course a_games_first a_games_second v_textFault v_readFault v_games_size c_games_ending c_sheets v_sheets_3_exists v_sheets_3_lane v_sheets_3_length c_sheets_3_cells) → va_S A s.heap H locs → lv_has ls 10 [] → W p l e rmX8_read_s3 s m av below meth c H locs 0 0 Q (F0 m 26 ls []) := by
    intro v_readFault c_games_ending H locs ls hf hP hD hS hl
    unfold fX8_read_s3_26 at hf
    refine lv_iconst (v := (-1)) hx hb dX8_read_26 (by decide) ?_
    exact ret_i (q := q) (g := fun q => q.1) (wp := fun q => (wdX8_read_s3 cyI cyJ cyB cyS h0 a_games a_games_ending a_sheets a_sheets_3 a_sheets_3_cells a_rules a_standing a_reader a_tree a_course a_games_first a_games_second v_textFault q.2.1 v_games_size q.2.2 c_sheets v_sheets_3_exists v_sheets_3_lane v_sheets_3_length c_sheets_3_cells)) hQ hf hx hb hr hlocks hP hD hS dX8_read_27 rfl
  have hB60 : ∀ (v_readFault : Int32) (c_games_ending : Nat → Int32) (H : Heap) (locs : List Loc) (ls : Array Slot), fX8_read_s3_60 N v_games_size v_sheets_3_exists v_sheets_3_lane v_sheets_3_length c_sheets_3_cells x1 x2 x3 x4 x5 v_readFault c_games_ending = some q → va_P D vwCl (wdX8_read_s3 cyI cyJ cyB cyS h0 a_games a_games_ending a_sheets a_sheets_3 a_sheets_3_cells a_rules a_standing a_reader a_tree a_course a_games_first a_games_second v_textFault v_readFault v_games_size c_games_ending c_sheets v_sheets_3_exists v_sheets_3_lane v_sheets_3_length c_sheets_3_cells) H → va_D A (wdX8_read_s3 cyI cyJ cyB cyS h0 a_games a_games_ending a_sheets a_sheets_3 a_sheets_3_cells a_rules a_standing a_reader a_tree a_course a_games_first a_games_second v_textFault v_readFault v_games_size c_games_ending c_sheets v_sheets_3_exists v_sheets_3_lane v_sheets_3_length c_sheets_3_cells) → va_S A s.heap H locs → lv_has ls 10 [] → W p l e rmX8_read_s3 s m av below meth c H locs 0 0 Q (F0 m 60 ls []) := by
    intro v_readFault c_games_ending H locs ls hf hP hD hS hl
    unfold fX8_read_s3_60 at hf
    refine lv_iconst (v := (-1)) hx hb dX8_read_60 (by decide) ?_
    exact ret_i (q := q) (g := fun q => q.1) (wp := fun q => (wdX8_read_s3 cyI cyJ cyB cyS h0 a_games a_games_ending a_sheets a_sheets_3 a_sheets_3_cells a_rules a_standing a_reader a_tree a_course a_games_first a_games_second v_textFault q.2.1 v_games_size q.2.2 c_sheets v_sheets_3_exists v_sheets_3_lane v_sheets_3_length c_sheets_3_cells)) hQ hf hx hb hr hlocks hP hD hS dX8_read_61 rfl
  have hB114 : ∀ (x8 : Int32) (v_readFault : Int32) (c_games_ending : Nat → Int32) (H : Heap) (locs : List Loc) (ls : Array Slot), fX8_read_s3_114 N v_games_size v_sheets_3_exists v_sheets_3_lane v_sheets_3_length c_sheets_3_cells x1 x2 x3 x4 x5 x8 v_readFault c_games_ending = some q → va_P D vwCl (wdX8_read_s3 cyI cyJ cyB cyS h0 a_games a_games_ending a_sheets a_sheets_3 a_sheets_3_cells a_rules a_standing a_reader a_tree a_course a_games_first a_games_second v_textFault v_readFault v_games_size c_games_ending c_sheets v_sheets_3_exists v_sheets_3_lane v_sheets_3_length c_sheets_3_cells) H → va_D A (wdX8_read_s3 cyI cyJ cyB cyS h0 a_games a_games_ending a_sheets a_sheets_3 a_sheets_3_cells a_rules a_standing a_reader a_tree a_course a_games_first a_games_second v_textFault v_readFault v_games_size c_games_ending c_sheets v_sheets_3_exists v_sheets_3_lane v_sheets_3_length c_sheets_3_cells) → va_S A s.heap H locs → lv_has ls 10 [(8, .int x8)] → W p l e rmX8_read_s3 s m av below meth c H locs 0 0 Q (F0 m 114 ls []) := by
    intro x8 v_readFault c_games_ending H locs ls hf hP hD hS hl
    unfold fX8_read_s3_114 at hf
    refine lv_bipush (v := (-20)) hx hb dX8_read_114 (by decide) ?_
    refine lv_iload hx hb dX8_read_116 (lv_at hl 0 rfl) ?_
    refine lv_isub hx hb dX8_read_118 ?_
    exact ret_i (q := q) (g := fun q => q.1) (wp := fun q => (wdX8_read_s3 cyI cyJ cyB cyS h0 a_games a_games_ending a_sheets a_sheets_3 a_sheets_3_cells a_rules a_standing a_reader a_tree a_course a_games_first a_games_second v_textFault q.2.1 v_games_size q.2.2 c_sheets v_sheets_3_exists v_sheets_3_lane v_sheets_3_length c_sheets_3_cells)) hQ hf hx hb hr hlocks hP hD hS dX8_read_119 rfl
  have hB84 : ∀ (n : Nat), ∀ (x7 : Int32) (x8 : Int32) (v_readFault : Int32) (c_games_ending : Nat → Int32) (H : Heap) (locs : List Loc) (ls : Array Slot), fX8_read_s3_84 N v_games_size v_sheets_3_exists v_sheets_3_lane v_sheets_3_length c_sheets_3_cells x1 x2 x3 x4 x5 n x7 x8 v_readFault c_games_ending = some q → va_P D vwCl (wdX8_read_s3 cyI cyJ cyB cyS h0 a_games a_games_ending a_sheets a_sheets_3 a_sheets_3_cells a_rules a_standing a_reader a_tree a_course a_games_first a_games_second v_textFault v_readFault v_games_size c_games_ending c_sheets v_sheets_3_exists v_sheets_3_lane v_sheets_3_length c_sheets_3_cells) H → va_D A (wdX8_read_s3 cyI cyJ cyB cyS h0 a_games a_games_ending a_sheets a_sheets_3 a_sheets_3_cells a_rules a_standing a_reader a_tree a_course a_games_first a_games_second v_textFault v_readFault v_games_size c_games_ending c_sheets v_sheets_3_exists v_sheets_3_lane v_sheets_3_length c_sheets_3_cells) → va_S A s.heap H locs → lv_has ls 10 [(0, .ref h0), (2, .int x2), (3, .int x3), (4, .int x4), (5, .int x5), (6, .ref a_sheets_3), (7, .int x7), (8, .int x8)] → W p l e rmX8_read_s3 s m av below meth c H locs 0 0 Q (F0 m 84 ls []) := by
    intro n
    induction n with
    | zero => intro x7 x8 v_readFault c_games_ending H locs ls hf; exact absurd hf (by simp [fX8_read_s3_84])
    | succ n hk84 =>
      intro x7 x8 v_readFault c_games_ending H locs ls hf hP hD hS hl
      rw [fX8_read_s3_84] at hf
      refine lv_iload hx hb dX8_read_84 (lv_at hl 7 rfl) ?_
      refine lv_iload hx hb dX8_read_86 (lv_at hl 6 rfl) ?_
      refine lv_icmp_ge (tgt := 126) hx hb dX8_read_88 (by decide) (fun c88 => ?_) (fun c88 => ?_)
      · have hf := pif_t c88 hf
        refine lv_aload_n hx hb dX8_read_126 rfl (lv_at hl 0 rfl) ?_
        refine lv_aload hx hb dX8_read_127 (lv_at hl 5 rfl) ?_
        refine lv_iload_n hx hb dX8_read_129 rfl (lv_at hl 1 rfl) ?_
        refine lv_iload hx hb dX8_read_130 (lv_at hl 6 rfl) ?_
        refine lv_iload hx hb dX8_read_132 (lv_at hl 4 rfl) ?_
        obtain ⟨q134, e134, hf⟩ := pb_some hf
        refine cs_i (wc := (wdX3_machineFault cyI cyJ cyB cyS a_sheets_3 a_sheets_3_cells v_sheets_3_exists v_sheets_3_lane v_sheets_3_length)) (w1 := (wdX3_machineFault cyI cyJ cyB cyS a_sheets_3 a_sheets_3_cells v_sheets_3_exists v_sheets_3_lane v_sheets_3_length)) hP hD hS hA [4] rfl rfl rfl (va_runV (C := RX3) (As := [.int x2, .int x7, .int x5]) (rest := [.ref h0]) ⟨hx, hb, hml, hown, hL⟩ (mX3_machineFault l D cyI cyJ cyB cyS N H.size a_sheets_3 a_sheets_3_cells v_sheets_3_exists v_sheets_3_lane v_sheets_3_length x2 x7 x5 q134 e134) (cwV 3 hL (gV (hR48 12 rfl) (hR48 13 rfl) (hR48 14 rfl) (hR2 16 rfl) (hR48 15 rfl)) rfl rfl rfl (by decide +kernel) ⟨Nat.le_of_ble_eq_true rfl, Nat.le_of_ble_eq_true rfl⟩) (PP_preV (ci := 3) (q0 := 4) hP hD hK [4] rfl rfl rfl rfl) rfl rfl hl.1 rfl (lv_room (Nat.le_of_ble_eq_true rfl)) dX8_read_134 ⟨Nat.le_of_ble_eq_true rfl, Nat.le_of_ble_eq_true rfl⟩) (fun H locs hP hD hS => ?_)
        have hP : va_P D vwCl (wdX8_read_s3 cyI cyJ cyB cyS h0 a_games a_games_ending a_sheets a_sheets_3 a_sheets_3_cells a_rules a_standing a_reader a_tree a_course a_games_first a_games_second v_textFault v_readFault v_games_size c_games_ending c_sheets v_sheets_3_exists v_sheets_3_lane v_sheets_3_length c_sheets_3_cells) H := hP
        have hD : va_D A (wdX8_read_s3 cyI cyJ cyB cyS h0 a_games a_games_ending a_sheets a_sheets_3 a_sheets_3_cells a_rules a_standing a_reader a_tree a_course a_games_first a_games_second v_textFault v_readFault v_games_size c_games_ending c_sheets v_sheets_3_exists v_sheets_3_lane v_sheets_3_length c_sheets_3_cells) := hD
        refine va_put (D := D) (ci := 8) (v := .int q134) (ty := .int) (C := RX8) (T := TX8) (N := 9) hx hb hL inlX8 tyX8 tyX8_ok nmX8 hown hK.1 hP hD hS 0 rfl rfl 8 (by decide) w0 (fun _ h9 => h9) rfl (by decide +kernel) rfl rfl (Nat.le_of_ble_eq_true rfl) dX8_read_137 (fun H locs hP hD hS => ?_)
        have hP : va_P D vwCl (wdX8_read_s3 cyI cyJ cyB cyS h0 a_games a_games_ending a_sheets a_sheets_3 a_sheets_3_cells a_rules a_standing a_reader a_tree a_course a_games_first a_games_second v_textFault q134 v_games_size c_games_ending c_sheets v_sheets_3_exists v_sheets_3_lane v_sheets_3_length c_sheets_3_cells) H := hP
        have hD : va_D A (wdX8_read_s3 cyI cyJ cyB cyS h0 a_games a_games_ending a_sheets a_sheets_3 a_sheets_3_cells a_rules a_standing a_reader a_tree a_course a_games_first a_games_second v_textFault q134 v_games_size c_games_ending c_sheets v_sheets_3_exists v_sheets_3_lane v_sheets_3_length c_sheets_3_cells) := hD
        refine lv_aload_n hx hb dX8_read_140 rfl (lv_at hl 0 rfl) ?_
        refine lv_aload hx hb dX8_read_141 (lv_at hl 5 rfl) ?_
        refine lv_iload_n hx hb dX8_read_143 rfl (lv_at hl 2 rfl) ?_
        refine lv_iload hx hb dX8_read_144 (lv_at hl 3 rfl) ?_
        refine lv_iload hx hb dX8_read_146 (lv_at hl 6 rfl) ?_
        obtain ⟨q148, e148, hf⟩ := pb_some hf
        refine cs_i (wc := (wdX8_takeEnds cyI cyJ cyB cyS h0 a_games a_games_ending a_sheets_3 a_sheets_3_cells a_rules a_standing a_reader a_tree a_course a_sheets a_games_first a_games_second v_textFault q134 v_games_size c_games_ending v_sheets_3_exists v_sheets_3_lane v_sheets_3_length c_sheets_3_cells)) (w1 := (wdX8_takeEnds cyI cyJ cyB cyS h0 a_games a_games_ending a_sheets_3 a_sheets_3_cells a_rules a_standing a_reader a_tree a_course a_sheets a_games_first a_games_second v_textFault q134 v_games_size q148.2 v_sheets_3_exists v_sheets_3_lane v_sheets_3_length c_sheets_3_cells)) hP hD hS hA [0, 1, 2, 4, 5] rfl rfl rfl (va_runV (C := RX8) (As := [.ref a_sheets_3, .int x3, .int x4, .int x7]) (rest := []) ⟨hx, hb, hml, hown, hL⟩ (mX8_takeEnds l D cyI cyJ cyB cyS N H.size h0 a_games a_games_ending a_sheets_3 a_sheets_3_cells a_rules a_standing a_reader a_tree a_course a_sheets a_games_first a_games_second v_textFault q134 v_games_size c_games_ending v_sheets_3_exists v_sheets_3_lane v_sheets_3_length c_sheets_3_cells x3 x4 x7 q148 e148) (cwV 4 hL (gV (hR48 16 rfl) (hR48 17 rfl) (hR48 18 rfl) (hR1 2 rfl) (hR48 19 rfl)) rfl rfl rfl (by decide +kernel) ⟨Nat.le_of_ble_eq_true rfl, Nat.le_of_ble_eq_true rfl⟩) (PP_preV (ci := 8) (q0 := 0) hP hD hK [0, 1, 2, 4, 5] rfl rfl rfl rfl) rfl rfl hl.1 rfl (lv_room (Nat.le_of_ble_eq_true rfl)) dX8_read_148 ⟨Nat.le_of_ble_eq_true rfl, Nat.le_of_ble_eq_true rfl⟩) (fun H locs hP hD hS => ?_)
        have hP : va_P D vwCl (wdX8_read_s3 cyI cyJ cyB cyS h0 a_games a_games_ending a_sheets a_sheets_3 a_sheets_3_cells a_rules a_standing a_reader a_tree a_course a_games_first a_games_second v_textFault q134 v_games_size q148.2 c_sheets v_sheets_3_exists v_sheets_3_lane v_sheets_3_length c_sheets_3_cells) H := hP
        have hD : va_D A (wdX8_read_s3 cyI cyJ cyB cyS h0 a_games a_games_ending a_sheets a_sheets_3 a_sheets_3_cells a_rules a_standing a_reader a_tree a_course a_games_first a_games_second v_textFault q134 v_games_size q148.2 c_sheets v_sheets_3_exists v_sheets_3_lane v_sheets_3_length c_sheets_3_cells) := hD
        exact ret_i (q := q) (g := fun q => q.1) (wp := fun q => (wdX8_read_s3 cyI cyJ cyB cyS h0 a_games a_games_ending a_sheets a_sheets_3 a_sheets_3_cells a_rules a_standing a_reader a_tree a_course a_games_first a_games_second v_textFault q.2.1 v_games_size q.2.2 c_sheets v_sheets_3_exists v_sheets_3_lane v_sheets_3_length c_sheets_3_cells)) hQ hf hx hb hr hlocks hP hD hS dX8_read_151 rfl
      · have hf := pif_f c88 hf
        refine lv_aload hx hb dX8_read_91 (lv_at hl 5 rfl) ?_
        refine va_get (D := D) (ci := 3) (v := .ref a_sheets_3_cells) (C := RX3) (T := TX3) (N := 4) hx hb hL inlX3 hown hK.1 hP 4 rfl rfl 0 (by decide) w1 (fun _ h9 => h9) rfl dX8_read_93 ?_
        refine lv_iload_n hx hb dX8_read_96 rfl (lv_at hl 2 rfl) ?_
        refine lv_iload hx hb dX8_read_97 (lv_at hl 7 rfl) ?_
        refine lv_iadd hx hb dX8_read_99 ?_
        obtain ⟨h100, hf⟩ := pg_some hf
        refine va_iald hx hb hK.1 hP 5 0 rfl rfl h100 dX8_read_100 ?_
        refine lv_istore (lv' := [(9, .int (c_sheets_3_cells (x3 + x8).toNatClampNeg)), (0, .ref h0), (2, .int x2), (3, .int x3), (4, .int x4), (5, .int x5), (6, .ref a_sheets_3), (7, .int x7), (8, .int x8)]) hx hb dX8_read_101 hl (by decide) rfl (fun ls hl => ?_)
        refine lv_iload hx hb dX8_read_103 (lv_at hl 0 rfl) ?_
        refine lv_if_lt (tgt := 114) hx hb dX8_read_105 (by decide) (fun c105 => ?_) (fun c105 => ?_)
        · have hf := pif_t c105 hf
          exact hB114 x8 v_readFault c_games_ending H locs ls hf hP hD hS (lv_sub hl [8] rfl)
        · have hf := pif_f c105 hf
          refine lv_iload hx hb dX8_read_108 (lv_at hl 0 rfl) ?_
          refine lv_iconst (v := 2) hx hb dX8_read_110 (by decide) ?_
          refine lv_icmp_le (tgt := 120) hx hb dX8_read_111 (by decide) (fun c111 => ?_) (fun c111 => ?_)
          · have hf := pif_t c111 hf
            refine lv_iinc (v := x8 + 1) (lv' := [(8, .int (x8 + 1)), (9, .int (c_sheets_3_cells (x3 + x8).toNatClampNeg)), (0, .ref h0), (2, .int x2), (3, .int x3), (4, .int x4), (5, .int x5), (6, .ref a_sheets_3), (7, .int x7)]) hx hb dX8_read_120 hl (k := 8) rfl rfl (by decide) rfl (fun ls hl => ?_)
            refine lv_goto (tgt := 84) hx hb dX8_read_123 (by decide) ?_
            exact hk84 x7 (x8 + 1) v_readFault c_games_ending H locs ls hf hP hD hS (lv_sub hl [2, 3, 4, 5, 6, 7, 8, 0] rfl)
          · have hf := pif_f c111 hf
            exact hB114 x8 v_readFault c_games_ending H locs ls hf hP hD hS (lv_sub hl [8] rfl)
  unfold fX8_read_s3 at hf
  obtain ⟨H, hH⟩ : ∃ H : Heap, H = s.heap := ⟨_, rfl⟩
  obtain ⟨locs, hlo⟩ : ∃ locs : List Loc, locs = [] := ⟨_, rfl⟩
  have hP : va_P D vwCl (wdX8_read_s3 cyI cyJ cyB cyS h0 a_games a_games_ending a_sheets a_sheets_3 a_sheets_3_cells a_rules a_standing a_reader a_tree a_course a_games_first a_games_second v_textFault v_readFault v_games_size c_games_ending c_sheets v_sheets_3_exists v_sheets_3_lane v_sheets_3_length c_sheets_3_cells) H := by rw [hH]; exact hP
  have hS : va_S A s.heap H locs := by rw [hH, hlo]; exact hS
  suffices hw : W p l e rmX8_read_s3 s m av below meth c H locs 0 0 Q (F0 m 0 ls []) by rw [hH, hlo] at hw; exact hw
  refine lv_iload_n hx hb dX8_read_0 rfl (lv_at hl 1 rfl) ?_
  obtain ⟨q1, e1, hf⟩ := pb_some hf
  refine cs_i (wc := []) (w1 := []) hP hD hS hA [] rfl rfl rfl (va_runS (As := [.int x1]) (rest := []) ⟨hx, hb, hml, hown, hL⟩ (mX8_isSheet l D cyI cyJ cyB cyS N H.size   x1 q1 e1) (va_cwS 1 hL (gS (hR46 13 rfl) (hR46 14 rfl) (hR1 2 rfl) (hR46 15 rfl)) rfl rfl rfl (by decide +kernel) ⟨Nat.le_of_ble_eq_true rfl, Nat.le_of_ble_eq_true rfl⟩) (PP_preS hP hD hK [] rfl rfl) rfl rfl hl.1 rfl (lv_room (Nat.le_of_ble_eq_true rfl)) dX8_read_1 ⟨Nat.le_of_ble_eq_true rfl, Nat.le_of_ble_eq_true rfl⟩) (fun H locs hP hD hS => ?_)
  have hP : va_P D vwCl (wdX8_read_s3 cyI cyJ cyB cyS h0 a_games a_games_ending a_sheets a_sheets_3 a_sheets_3_cells a_rules a_standing a_reader a_tree a_course a_games_first a_games_second v_textFault v_readFault v_games_size c_games_ending c_sheets v_sheets_3_exists v_sheets_3_lane v_sheets_3_length c_sheets_3_cells) H := hP
  have hD : va_D A (wdX8_read_s3 cyI cyJ cyB cyS h0 a_games a_games_ending a_sheets a_sheets_3 a_sheets_3_cells a_rules a_standing a_reader a_tree a_course a_games_first a_games_second v_textFault v_readFault v_games_size c_games_ending c_sheets v_sheets_3_exists v_sheets_3_lane v_sheets_3_length c_sheets_3_cells) := hD
  refine lv_if_eq (tgt := 26) hx hb dX8_read_4 (by decide) (fun c4 => ?_) (fun c4 => ?_)
  · have hf := pif_t c4 hf
    exact hB26 v_readFault c_games_ending H locs ls hf hP hD hS (lv_sub hl [] rfl)
  · have hf := pif_f c4 hf
    refine lv_iload_n hx hb dX8_read_7 rfl (lv_at hl 2 rfl) ?_
    obtain ⟨q8, e8, hf⟩ := pb_some hf
    refine cs_i (wc := []) (w1 := []) hP hD hS hA [] rfl rfl rfl (va_runS (As := [.int x2]) (rest := []) ⟨hx, hb, hml, hown, hL⟩ (mX8_isLane l D cyI cyJ cyB cyS N H.size   x2 q8 e8) (va_cwS 1 hL (gS (hR46 16 rfl) (hR46 17 rfl) (hR1 2 rfl) (hR46 18 rfl)) rfl rfl rfl (by decide +kernel) ⟨Nat.le_of_ble_eq_true rfl, Nat.le_of_ble_eq_true rfl⟩) (PP_preS hP hD hK [] rfl rfl) rfl rfl hl.1 rfl (lv_room (Nat.le_of_ble_eq_true rfl)) dX8_read_8 ⟨Nat.le_of_ble_eq_true rfl, Nat.le_of_ble_eq_true rfl⟩) (fun H locs hP hD hS => ?_)
    have hP : va_P D vwCl (wdX8_read_s3 cyI cyJ cyB cyS h0 a_games a_games_ending a_sheets a_sheets_3 a_sheets_3_cells a_rules a_standing a_reader a_tree a_course a_games_first a_games_second v_textFault v_readFault v_games_size c_games_ending c_sheets v_sheets_3_exists v_sheets_3_lane v_sheets_3_length c_sheets_3_cells) H := hP
    have hD : va_D A (wdX8_read_s3 cyI cyJ cyB cyS h0 a_games a_games_ending a_sheets a_sheets_3 a_sheets_3_cells a_rules a_standing a_reader a_tree a_course a_games_first a_games_second v_textFault v_readFault v_games_size c_games_ending c_sheets v_sheets_3_exists v_sheets_3_lane v_sheets_3_length c_sheets_3_cells) := hD
    refine lv_if_eq (tgt := 26) hx hb dX8_read_11 (by decide) (fun c11 => ?_) (fun c11 => ?_)
    · have hf := pif_t c11 hf
      exact hB26 v_readFault c_games_ending H locs ls hf hP hD hS (lv_sub hl [] rfl)
    · have hf := pif_f c11 hf
      refine lv_iload hx hb dX8_read_14 (lv_at hl 5 rfl) ?_
      refine lv_if_lt (tgt := 26) hx hb dX8_read_16 (by decide) (fun c16 => ?_) (fun c16 => ?_)
      · have hf := pif_t c16 hf
        exact hB26 v_readFault c_games_ending H locs ls hf hP hD hS (lv_sub hl [] rfl)
      · have hf := pif_f c16 hf
        refine lv_iload hx hb dX8_read_19 (lv_at hl 5 rfl) ?_
        refine lv_bipush (v := 30) hx hb dX8_read_21 (by decide) ?_
        refine lv_icmp_le (tgt := 28) hx hb dX8_read_23 (by decide) (fun c23 => ?_) (fun c23 => ?_)
        · have hf := pif_t c23 hf
          refine lv_iload hx hb dX8_read_28 (lv_at hl 4 rfl) ?_
          refine lv_if_lt (tgt := 60) hx hb dX8_read_30 (by decide) (fun c30 => ?_) (fun c30 => ?_)
          · have hf := pif_t c30 hf
            exact hB60 v_readFault c_games_ending H locs ls hf hP hD hS (lv_sub hl [] rfl)
          · have hf := pif_f c30 hf
            refine lv_iload hx hb dX8_read_33 (lv_at hl 4 rfl) ?_
            refine lv_aload_n hx hb dX8_read_35 rfl (lv_at hl 0 rfl) ?_
            refine va_get (D := D) (ci := 8) (v := .ref a_games) (C := RX8) (T := TX8) (N := 9) hx hb hL inlX8 hown hK.1 hP 0 rfl rfl 1 (by decide) w4 (fun _ h9 => h9) rfl dX8_read_36 ?_
            refine va_get (D := D) (ci := 0) (v := .int v_games_size) (C := RX0) (T := TX0) (N := 4) hx hb hL inlX0 hown hK.1 hP 1 rfl rfl 3 (by decide) w5 (fun _ h9 => h9) rfl dX8_read_39 ?_
            refine lv_icmp_gt (tgt := 60) hx hb dX8_read_42 (by decide) (fun c42 => ?_) (fun c42 => ?_)
            · have hf := pif_t c42 hf
              exact hB60 v_readFault c_games_ending H locs ls hf hP hD hS (lv_sub hl [] rfl)
            · have hf := pif_f c42 hf
              refine lv_iload hx hb dX8_read_45 (lv_at hl 5 rfl) ?_
              refine lv_aload_n hx hb dX8_read_47 rfl (lv_at hl 0 rfl) ?_
              refine va_get (D := D) (ci := 8) (v := .ref a_games) (C := RX8) (T := TX8) (N := 9) hx hb hL inlX8 hown hK.1 hP 0 rfl rfl 1 (by decide) w4 (fun _ h9 => h9) rfl dX8_read_48 ?_
              refine va_get (D := D) (ci := 0) (v := .int v_games_size) (C := RX0) (T := TX0) (N := 4) hx hb hL inlX0 hown hK.1 hP 1 rfl rfl 3 (by decide) w5 (fun _ h9 => h9) rfl dX8_read_51 ?_
              refine lv_iload hx hb dX8_read_54 (lv_at hl 4 rfl) ?_
              refine lv_isub hx hb dX8_read_56 ?_
              refine lv_icmp_le (tgt := 62) hx hb dX8_read_57 (by decide) (fun c57 => ?_) (fun c57 => ?_)
              · have hf := pif_t c57 hf
                refine lv_aload_n hx hb dX8_read_62 rfl (lv_at hl 0 rfl) ?_
                refine va_get (D := D) (ci := 8) (v := .ref a_sheets) (C := RX8) (T := TX8) (N := 9) hx hb hL inlX8 hown hK.1 hP 0 rfl rfl 6 (by decide) w6 (fun _ h9 => h9) rfl dX8_read_63 ?_
                refine lv_iload_n hx hb dX8_read_66 rfl (lv_at hl 1 rfl) ?_
                obtain ⟨z67, hf⟩ := pg_some hf
                refine va_aldq (C := "LosingLeague$Sheet") hx hb hK.1 hP 3 3 rfl rfl (by rw [z67]; exact (by decide : inr 3 4)) dX8_read_67 ?_
                rw [show va_rf (c_sheets x1.toNatClampNeg) = Value.ref a_sheets_3 from by rw [z67]; exact congrArg va_rf hsh]
                refine lv_astore (lv' := [(6, .ref a_sheets_3), (0, .ref h0), (1, .int x1), (2, .int x2), (3, .int x3), (4, .int x4), (5, .int x5)]) hx hb dX8_read_68 hl (by decide) rfl (fun ls hl => ?_)
                refine lv_aload hx hb dX8_read_70 (lv_at hl 0 rfl) ?_
                refine lv_iload_n hx hb dX8_read_72 rfl (lv_at hl 3 rfl) ?_
                refine lv_iload_n hx hb dX8_read_73 rfl (lv_at hl 4 rfl) ?_
                refine lv_iload hx hb dX8_read_74 (lv_at hl 6 rfl) ?_
                obtain ⟨q76, e76, hf⟩ := pb_some hf
                refine cs_i (wc := (wdX3_readable cyI cyJ cyB cyS a_sheets_3 a_sheets_3_cells v_sheets_3_exists v_sheets_3_lane v_sheets_3_length)) (w1 := (wdX3_readable cyI cyJ cyB cyS a_sheets_3 a_sheets_3_cells v_sheets_3_exists v_sheets_3_lane v_sheets_3_length)) hP hD hS hA [4] rfl rfl rfl (va_runV (C := RX3) (As := [.int x2, .int x3, .int x5]) (rest := []) ⟨hx, hb, hml, hown, hL⟩ (mX3_readable l D cyI cyJ cyB cyS N H.size a_sheets_3 a_sheets_3_cells v_sheets_3_exists v_sheets_3_lane v_sheets_3_length x2 x3 x5 q76 e76) (cwV 3 hL (gV (hR48 6 rfl) (hR48 7 rfl) (hR48 8 rfl) (hR2 16 rfl) (hR48 9 rfl)) rfl rfl rfl (by decide +kernel) ⟨Nat.le_of_ble_eq_true rfl, Nat.le_of_ble_eq_true rfl⟩) (PP_preV (ci := 3) (q0 := 4) hP hD hK [4] rfl rfl rfl rfl) rfl rfl hl.1 rfl (lv_room (Nat.le_of_ble_eq_true rfl)) dX8_read_76 ⟨Nat.le_of_ble_eq_true rfl, Nat.le_of_ble_eq_true rfl⟩) (fun H locs hP hD hS => ?_)
                have hP : va_P D vwCl (wdX8_read_s3 cyI cyJ cyB cyS h0 a_games a_games_ending a_sheets a_sheets_3 a_sheets_3_cells a_rules a_standing a_reader a_tree a_course a_games_first a_games_second v_textFault v_readFault v_games_size c_games_ending c_sheets v_sheets_3_exists v_sheets_3_lane v_sheets_3_length c_sheets_3_cells) H := hP
                have hD : va_D A (wdX8_read_s3 cyI cyJ cyB cyS h0 a_games a_games_ending a_sheets a_sheets_3 a_sheets_3_cells a_rules a_standing a_reader a_tree a_course a_games_first a_games_second v_textFault v_readFault v_games_size c_games_ending c_sheets v_sheets_3_exists v_sheets_3_lane v_sheets_3_length c_sheets_3_cells) := hD
                refine lv_istore (lv' := [(7, .int q76), (6, .ref a_sheets_3), (0, .ref h0), (1, .int x1), (2, .int x2), (3, .int x3), (4, .int x4), (5, .int x5)]) hx hb dX8_read_79 hl (by decide) rfl (fun ls hl => ?_)
                refine lv_iconst (v := 0) hx hb dX8_read_81 (by decide) ?_
                refine lv_istore (lv' := [(8, .int 0), (7, .int q76), (6, .ref a_sheets_3), (0, .ref h0), (1, .int x1), (2, .int x2), (3, .int x3), (4, .int x4), (5, .int x5)]) hx hb dX8_read_82 hl (by decide) rfl (fun ls hl => ?_)
                exact hB84 N q76 0 v_readFault c_games_ending H locs ls hf hP hD hS (lv_sub hl [3, 5, 6, 7, 8, 2, 1, 0] rfl)
              · have hf := pif_f c57 hf
                exact hB60 v_readFault c_games_ending H locs ls hf hP hD hS (lv_sub hl [] rfl)
        · have hf := pif_f c23 hf
          exact hB26 v_readFault c_games_ending H locs ls hf hP hD hS (lv_sub hl [] rfl)
def fX8_count_s0_109 (N : Nat) (v_games_size : Int32) (c_games_ending : Nat → Int32) (v_reader_tape_length : Int32) (v_rules_sides : Int32) (c_rules_balls : Nat → Int32) (v_sheets_0_exists : Int32) (v_sheets_0_length : Int32) (x1 : Int32) (s0 : Int32) : Option (Int32) := some s0
def fX8_count_s0 (N : Nat) (v_games_size : Int32) (c_games_ending : Nat → Int32) (v_reader_tape_length : Int32) (v_rules_sides : Int32) (c_rules_balls : Nat → Int32) (v_sheets_0_exists : Int32) (v_sheets_0_length : Int32) (x1 : Int32) : Option (Int32) := pif (x1 = 0) (some v_rules_sides) (pif (x1 = 1) (some v_games_size) (pif (x1 = 2) (pb (fX0_openOnes N v_games_size c_games_ending) (fun q60 => some q60)) (pif (x1 = 3) (pb (fX2_allBalls N v_rules_sides c_rules_balls) (fun q68 => some q68)) (pif (x1 = 4) (some v_reader_tape_length) (pif (x1 = 5) (pg ((0 : Int32) = 0) (pif (v_sheets_0_exists = 0) (fX8_count_s0_109 N v_games_size c_games_ending v_reader_tape_length v_rules_sides c_rules_balls v_sheets_0_exists v_sheets_0_length x1 (-4)) (pg ((0 : Int32) = 0) (fX8_count_s0_109 N v_games_size c_games_ending v_reader_tape_length v_rules_sides c_rules_balls v_sheets_0_exists v_sheets_0_length x1 v_sheets_0_length)))) (some (-1)))))))
def wdX8_count_s0 (cyI cyJ cyB cyS : ClassId) (h0 : Nat) (a_games : Nat) (a_games_ending : Nat) (a_reader : Nat) (a_reader_tape : Nat) (a_rules : Nat) (a_rules_balls : Nat) (a_sheets : Nat) (a_sheets_0 : Nat) (a_standing : Nat) (a_tree : Nat) (a_course : Nat) (a_games_first : Nat) (a_games_second : Nat) (a_reader_draft : Nat) (a_reader_told : Nat) (a_reader_tape_token : Nat) (a_reader_tape_start : Nat) (a_reader_tape_meaning : Nat) (a_reader_tape_bytes : Nat) (a_rules_strength : Nat) (a_rules_placeWorth : Nat) (a_rules_choiceWorth : Nat) (a_rules_wheel : Nat) (a_sheets_0_cells : Nat) (v_textFault : Int32) (v_readFault : Int32) (v_games_size : Int32) (c_games_ending : Nat → Int32) (v_reader_lines : Int32) (v_reader_flaw : Int32) (v_reader_flawPlace : Int32) (v_reader_at : Int32) (v_reader_tape_length : Int32) (v_reader_tape_next : Int32) (v_rules_sides : Int32) (v_rules_kind : Int32) (v_rules_rounds : Int32) (c_rules_balls : Nat → Int32) (c_sheets : Nat → Option Nat) (v_sheets_0_exists : Int32) (v_sheets_0_lane : Int32) (v_sheets_0_length : Int32) : va_W := [(h0, .inr (8, [.ref a_rules, .ref a_games, .ref a_standing, .ref a_reader, .ref a_tree, .ref a_course, .ref a_sheets, .int v_textFault, .int v_readFault])), (a_games, .inr (0, [.ref a_games_first, .ref a_games_second, .ref a_games_ending, .int v_games_size])), (a_games_ending, .inl (cyI, 30, .inl c_games_ending)), (a_reader, .inr (1, [.ref a_reader_tape, .ref a_reader_draft, .int v_reader_lines, .int v_reader_flaw, .int v_reader_flawPlace, .ref a_reader_told, .int v_reader_at])), (a_reader_tape, .inr (5, [.ref a_reader_tape_token, .ref a_reader_tape_start, .ref a_reader_tape_meaning, .int v_reader_tape_length, .ref a_reader_tape_bytes, .int v_reader_tape_next])), (a_rules, .inr (2, [.ref a_rules_strength, .ref a_rules_placeWorth, .ref a_rules_choiceWorth, .ref a_rules_balls, .ref a_rules_wheel, .int v_rules_sides, .int v_rules_kind, .int v_rules_rounds])), (a_rules_balls, .inl (cyI, 6, .inl c_rules_balls)), (a_sheets, .inl (cyS, 4, .inr (.inr (.inr (.inr c_sheets))))), (a_sheets_0, .inr (3, [.ref a_sheets_0_cells, .int v_sheets_0_exists, .int v_sheets_0_lane, .int v_sheets_0_length]))]
abbrev rmX8_count_s0 : Room := { frames := 1, cells := 0, slots := 0, locals := 22 }
set_option maxHeartbeats 40000000 in
set_option maxRecDepth 100000 in
theorem mX8_count_s0 (l : Launch) (D : va_G) (cyI cyJ cyB cyS : ClassId) (N : Nat) (sz : Nat) (h0 : Nat) (a_games : Nat) (a_games_ending : Nat) (a_reader : Nat) (a_reader_tape : Nat) (a_rules : Nat) (a_rules_balls : Nat) (a_sheets : Nat) (a_sheets_0 : Nat) (a_standing : Nat) (a_tree : Nat) (a_course : Nat) (a_games_first : Nat) (a_games_second : Nat) (a_reader_draft : Nat) (a_reader_told : Nat) (a_reader_tape_token : Nat) (a_reader_tape_start : Nat) (a_reader_tape_meaning : Nat) (a_reader_tape_bytes : Nat) (a_rules_strength : Nat) (a_rules_placeWorth : Nat) (a_rules_choiceWorth : Nat) (a_rules_wheel : Nat) (a_sheets_0_cells : Nat) (v_textFault : Int32) (v_readFault : Int32) (v_games_size : Int32) (c_games_ending : Nat → Int32) (v_reader_lines : Int32) (v_reader_flaw : Int32) (v_reader_flawPlace : Int32) (v_reader_at : Int32) (v_reader_tape_length : Int32) (v_reader_tape_next : Int32) (v_rules_sides : Int32) (v_rules_kind : Int32) (v_rules_rounds : Int32) (c_rules_balls : Nat → Int32) (c_sheets : Nat → Option Nat) (v_sheets_0_exists : Int32) (v_sheets_0_lane : Int32) (v_sheets_0_length : Int32) (x1 : Int32) (hsh : c_sheets 0 = some a_sheets_0) (q : Int32) (hf : fX8_count_s0 N v_games_size c_games_ending v_reader_tape_length v_rules_sides c_rules_balls v_sheets_0_exists v_sheets_0_length x1 = some q) : Met l yX8_count (wS yX8_count cX8_count 2 (some .int)) rmX8_count_s0 (va_Pc [.ref h0, .int x1] (PP D cyI cyJ cyB cyS (wdX8_count_s0 cyI cyJ cyB cyS h0 a_games a_games_ending a_reader a_reader_tape a_rules a_rules_balls a_sheets a_sheets_0 a_standing a_tree a_course a_games_first a_games_second a_reader_draft a_reader_told a_reader_tape_token a_reader_tape_start a_reader_tape_meaning a_reader_tape_bytes a_rules_strength a_rules_placeWorth a_rules_choiceWorth a_rules_wheel a_sheets_0_cells v_textFault v_readFault v_games_size c_games_ending v_reader_lines v_reader_flaw v_reader_flawPlace v_reader_at v_reader_tape_length v_reader_tape_next v_rules_sides v_rules_kind v_rules_rounds c_rules_balls c_sheets v_sheets_0_exists v_sheets_0_lane v_sheets_0_length) sz)) (QI q D (wdX8_count_s0 cyI cyJ cyB cyS h0 a_games a_games_ending a_reader a_reader_tape a_rules a_rules_balls a_sheets a_sheets_0 a_standing a_tree a_course a_games_first a_games_second a_reader_draft a_reader_told a_reader_tape_token a_reader_tape_start a_reader_tape_meaning a_reader_tape_bytes a_rules_strength a_rules_placeWorth a_rules_choiceWorth a_rules_wheel a_sheets_0_cells v_textFault v_readFault v_games_size c_games_ending v_reader_lines v_reader_flaw v_reader_flawPlace v_reader_at v_reader_tape_length v_reader_tape_next v_rules_sides v_rules_kind v_rules_rounds c_rules_balls c_sheets v_sheets_0_exists v_sheets_0_lane v_sheets_0_length) (va_A (wdX8_count_s0 cyI cyJ cyB cyS h0 a_games a_games_ending a_reader a_reader_tape a_rules a_rules_balls a_sheets a_sheets_0 a_standing a_tree a_course a_games_first a_games_second a_reader_draft a_reader_told a_reader_tape_token a_reader_tape_start a_reader_tape_meaning a_reader_tape_bytes a_rules_strength a_rules_placeWorth a_rules_choiceWorth a_rules_wheel a_sheets_0_cells v_textFault v_readFault v_games_size c_games_ending v_reader_lines v_reader_flaw v_reader_flawPlace v_reader_at v_reader_tape_length v_reader_tape_next v_rules_sides v_rules_kind v_rules_rounds c_rules_balls c_sheets v_sheets_0_exists v_sheets_0_lane v_sheets_0_length) sz)) 0 0 (va_A (wdX8_count_s0 cyI cyJ cyB cyS h0 a_games a_games_ending a_reader a_reader_tape a_rules a_rules_balls a_sheets a_sheets_0 a_standing a_tree a_course a_games_first a_games_second a_reader_draft a_reader_told a_reader_tape_token a_reader_tape_start a_reader_tape_meaning a_reader_tape_bytes a_rules_strength a_rules_placeWorth a_rules_choiceWorth a_rules_wheel a_sheets_0_cells v_textFault v_readFault v_games_size c_games_ending v_reader_lines v_reader_flaw v_reader_flawPlace v_reader_at v_reader_tape_length v_reader_tape_next v_rules_sides v_rules_kind v_rules_rounds c_rules_balls c_sheets v_sheets_0_exists v_sheets_0_lane v_sheets_0_length) sz) := by
  refine Met.ofW (cc := cX8_count) (maxL := 2) (ret := (some .int)) (by decide) rfl ?_
  intro p e s m args below meth c s₁ B hml hv
  obtain ⟨rfl, hsz, hP, hK, hD0⟩ := hv
  have hx := B.exec
  have hb := B.bytes
  have hr := B.returns
  have hts := atoms_spec (ws := (wS yX8_count cX8_count 2 (some .int))) B.pre
  have hown : s.vm.findClass RX8 = some m.cls := findClass_of_methodNamed B.named
  have hlocks := B.notSynchronized
  subst hsz
  have hD := hD0.self (sz := s.heap.size)
  refine w_nameQ (fun Q hQ => ?_)
  have hl := lv_entry ([.ref h0, .int x1] : List Value) (n := 2) (Nat.le_of_ble_eq_true rfl)
  rw [lg_entry_eq]
  generalize (lg_sl ([.ref h0, .int x1] : List Value) ++ List.replicate (2 - (lg_sl ([.ref h0, .int x1] : List Value)).length) Slot.unset).toArray = ls at hl ⊢
  have hl : lv_has ls 2 [(0, .ref h0), (1, .int x1)] := hl
  generalize hAe : va_A (wdX8_count_s0 cyI cyJ cyB cyS h0 a_games a_games_ending a_reader a_reader_tape a_rules a_rules_balls a_sheets a_sheets_0 a_standing a_tree a_course a_games_first a_games_second a_reader_draft a_reader_told a_reader_tape_token a_reader_tape_start a_reader_tape_meaning a_reader_tape_bytes a_rules_strength a_rules_placeWorth a_rules_choiceWorth a_rules_wheel a_sheets_0_cells v_textFault v_readFault v_games_size c_games_ending v_reader_lines v_reader_flaw v_reader_flawPlace v_reader_at v_reader_tape_length v_reader_tape_next v_rules_sides v_rules_kind v_rules_rounds c_rules_balls c_sheets v_sheets_0_exists v_sheets_0_lane v_sheets_0_length) s.heap.size = A at hD hQ
  have hA : ∀ q : Nat, s.heap.size ≤ q → A q := fun q h => by rw [← hAe]; exact Or.inr h
  have hS : va_S A s.heap s.heap [] := va_S.rf
  generalize ([.ref h0, .int x1] : List Value).toArray = av at hts hQ ⊢
  have hL : ∀ w ∈ wsL_law, w.before av s = true := fun w h => hts w (List.mem_cons_of_mem _ h)
  have w0 := hL (.fieldLink RX8 10 "LosingLeague" "rules" "LLosingLeague$Rules;") (hR1 16 rfl)
  have w1 := hL (.fieldLink RX8 101 "LosingLeague$Rules" "sides" "I") (hR8 20 rfl)
  have w2 := hL (.fieldLink RX8 19 "LosingLeague" "games" "LLosingLeague$Games;") (hR1 20 rfl)
  have w3 := hL (.fieldLink RX8 95 "LosingLeague$Games" "size" "I") (hR8 18 rfl)
  have w4 := hL (.fieldLink RX8 33 "LosingLeague" "reader" "LLosingLeague$Reader;") (hR2 4 rfl)
  have w5 := hL (.fieldLink RX8 61 "LosingLeague$Reader" "tape" "LLosingLeague$Tape;") (hR7 11 rfl)
  have w6 := hL (.fieldLink RX8 65 "LosingLeague$Tape" "length" "I") (hR7 12 rfl)
  have w7 := hL (.fieldLink RX8 53 "LosingLeague" "sheets" "[LLosingLeague$Sheet;") (hR2 14 rfl)
  have w8 := hL (.fieldLink RX8 320 "LosingLeague$Sheet" "exists" "Z") (hR47 11 rfl)
  have w9 := hL (.fieldLink RX8 346 "LosingLeague$Sheet" "length" "I") (hR49 14 rfl)
  have hB109 : ∀ (s0 : Int32) (H : Heap) (locs : List Loc) (ls : Array Slot), fX8_count_s0_109 N v_games_size c_games_ending v_reader_tape_length v_rules_sides c_rules_balls v_sheets_0_exists v_sheets_0_length x1 s0 = some q → va_P D vwCl (wdX8_count_s0 cyI cyJ cyB cyS h0 a_games a_games_ending a_reader a_reader_tape a_rules a_rules_balls a_sheets a_sheets_0 a_standing a_tree a_course a_games_first a_games_second a_reader_draft a_reader_told a_reader_tape_token a_reader_tape_start a_reader_tape_meaning a_reader_tape_bytes a_rules_strength a_rules_placeWorth a_rules_choiceWorth a_rules_wheel a_sheets_0_cells v_textFault v_readFault v_games_size c_games_ending v_reader_lines v_reader_flaw v_reader_flawPlace v_reader_at v_reader_tape_length v_reader_tape_next v_rules_sides v_rules_kind v_rules_rounds c_rules_balls c_sheets v_sheets_0_exists v_sheets_0_lane v_sheets_0_length) H → va_D A (wdX8_count_s0 cyI cyJ cyB cyS h0 a_games a_games_ending a_reader a_reader_tape a_rules a_rules_balls a_sheets a_sheets_0 a_standing a_tree a_course a_games_first a_games_second a_reader_draft a_reader_told a_reader_tape_token a_reader_tape_start a_reader_tape_meaning a_reader_tape_bytes a_rules_strength a_rules_placeWorth a_rules_choiceWorth a_rules_wheel a_sheets_0_cells v_textFault v_readFault v_games_size c_games_ending v_reader_lines v_reader_flaw v_reader_flawPlace v_reader_at v_reader_tape_length v_reader_tape_next v_rules_sides v_rules_kind v_rules_rounds c_rules_balls c_sheets v_sheets_0_exists v_sheets_0_lane v_sheets_0_length) → va_S A s.heap H locs → lv_has ls 2 [] → W p l e rmX8_count_s0 s m av below meth c H locs 0 0 Q (F0 m 109 ls [.int s0]) := by
    intro s0 H locs ls hf hP hD hS hl
    unfold fX8_count_s0_109 at hf
    exact ret_i (q := q) (g := fun q => q) (wp := fun q => (wdX8_count_s0 cyI cyJ cyB cyS h0 a_games a_games_ending a_reader a_reader_tape a_rules a_rules_balls a_sheets a_sheets_0 a_standing a_tree a_course a_games_first a_games_second a_reader_draft a_reader_told a_reader_tape_token a_reader_tape_start a_reader_tape_meaning a_reader_tape_bytes a_rules_strength a_rules_placeWorth a_rules_choiceWorth a_rules_wheel a_sheets_0_cells v_textFault v_readFault v_games_size c_games_ending v_reader_lines v_reader_flaw v_reader_flawPlace v_reader_at v_reader_tape_length v_reader_tape_next v_rules_sides v_rules_kind v_rules_rounds c_rules_balls c_sheets v_sheets_0_exists v_sheets_0_lane v_sheets_0_length)) hQ hf hx hb hr hlocks hP hD hS dX8_count_109 rfl
  unfold fX8_count_s0 at hf
  obtain ⟨H, hH⟩ : ∃ H : Heap, H = s.heap := ⟨_, rfl⟩
  obtain ⟨locs, hlo⟩ : ∃ locs : List Loc, locs = [] := ⟨_, rfl⟩
  have hP : va_P D vwCl (wdX8_count_s0 cyI cyJ cyB cyS h0 a_games a_games_ending a_reader a_reader_tape a_rules a_rules_balls a_sheets a_sheets_0 a_standing a_tree a_course a_games_first a_games_second a_reader_draft a_reader_told a_reader_tape_token a_reader_tape_start a_reader_tape_meaning a_reader_tape_bytes a_rules_strength a_rules_placeWorth a_rules_choiceWorth a_rules_wheel a_sheets_0_cells v_textFault v_readFault v_games_size c_games_ending v_reader_lines v_reader_flaw v_reader_flawPlace v_reader_at v_reader_tape_length v_reader_tape_next v_rules_sides v_rules_kind v_rules_rounds c_rules_balls c_sheets v_sheets_0_exists v_sheets_0_lane v_sheets_0_length) H := by rw [hH]; exact hP
  have hS : va_S A s.heap H locs := by rw [hH, hlo]; exact hS
  suffices hw : W p l e rmX8_count_s0 s m av below meth c H locs 0 0 Q (F0 m 0 ls []) by rw [hH, hlo] at hw; exact hw
  refine lv_iload_n hx hb dX8_count_0 rfl (lv_at hl 1 rfl) ?_
  rcases Decidable.em (x1 = 0) with z1_0 | z1_0
  · have hf := pif_t z1_0 hf
    refine lv_tableIn (tgt := 40) hx hb dX8_count_1 (by rw [z1_0]; decide) (by rw [z1_0]; decide) (by rw [z1_0]; try rfl) (by decide) ?_
    refine lv_aload_n hx hb dX8_count_40 rfl (lv_at hl 0 rfl) ?_
    refine va_get (D := D) (ci := 8) (v := .ref a_rules) (C := RX8) (T := TX8) (N := 9) hx hb hL inlX8 hown hK.1 hP 0 rfl rfl 0 (by decide) w0 (fun _ h9 => h9) rfl dX8_count_41 ?_
    refine va_get (D := D) (ci := 2) (v := .int v_rules_sides) (C := RX2) (T := TX2) (N := 8) hx hb hL inlX2 hown hK.1 hP 5 rfl rfl 5 (by decide) w1 (fun _ h9 => h9) rfl dX8_count_44 ?_
    exact ret_i (q := q) (g := fun q => q) (wp := fun q => (wdX8_count_s0 cyI cyJ cyB cyS h0 a_games a_games_ending a_reader a_reader_tape a_rules a_rules_balls a_sheets a_sheets_0 a_standing a_tree a_course a_games_first a_games_second a_reader_draft a_reader_told a_reader_tape_token a_reader_tape_start a_reader_tape_meaning a_reader_tape_bytes a_rules_strength a_rules_placeWorth a_rules_choiceWorth a_rules_wheel a_sheets_0_cells v_textFault v_readFault v_games_size c_games_ending v_reader_lines v_reader_flaw v_reader_flawPlace v_reader_at v_reader_tape_length v_reader_tape_next v_rules_sides v_rules_kind v_rules_rounds c_rules_balls c_sheets v_sheets_0_exists v_sheets_0_lane v_sheets_0_length)) hQ hf hx hb hr hlocks hP hD hS dX8_count_47 rfl
  · have hf := pif_f z1_0 hf
    rcases Decidable.em (x1 = 1) with z1_1 | z1_1
    · have hf := pif_t z1_1 hf
      refine lv_tableIn (tgt := 48) hx hb dX8_count_1 (by rw [z1_1]; decide) (by rw [z1_1]; decide) (by rw [z1_1]; try rfl) (by decide) ?_
      refine lv_aload_n hx hb dX8_count_48 rfl (lv_at hl 0 rfl) ?_
      refine va_get (D := D) (ci := 8) (v := .ref a_games) (C := RX8) (T := TX8) (N := 9) hx hb hL inlX8 hown hK.1 hP 0 rfl rfl 1 (by decide) w2 (fun _ h9 => h9) rfl dX8_count_49 ?_
      refine va_get (D := D) (ci := 0) (v := .int v_games_size) (C := RX0) (T := TX0) (N := 4) hx hb hL inlX0 hown hK.1 hP 1 rfl rfl 3 (by decide) w3 (fun _ h9 => h9) rfl dX8_count_52 ?_
      exact ret_i (q := q) (g := fun q => q) (wp := fun q => (wdX8_count_s0 cyI cyJ cyB cyS h0 a_games a_games_ending a_reader a_reader_tape a_rules a_rules_balls a_sheets a_sheets_0 a_standing a_tree a_course a_games_first a_games_second a_reader_draft a_reader_told a_reader_tape_token a_reader_tape_start a_reader_tape_meaning a_reader_tape_bytes a_rules_strength a_rules_placeWorth a_rules_choiceWorth a_rules_wheel a_sheets_0_cells v_textFault v_readFault v_games_size c_games_ending v_reader_lines v_reader_flaw v_reader_flawPlace v_reader_at v_reader_tape_length v_reader_tape_next v_rules_sides v_rules_kind v_rules_rounds c_rules_balls c_sheets v_sheets_0_exists v_sheets_0_lane v_sheets_0_length)) hQ hf hx hb hr hlocks hP hD hS dX8_count_55 rfl
    · have hf := pif_f z1_1 hf
      rcases Decidable.em (x1 = 2) with z1_2 | z1_2
      · have hf := pif_t z1_2 hf
        refine lv_tableIn (tgt := 56) hx hb dX8_count_1 (by rw [z1_2]; decide) (by rw [z1_2]; decide) (by rw [z1_2]; try rfl) (by decide) ?_
        refine lv_aload_n hx hb dX8_count_56 rfl (lv_at hl 0 rfl) ?_
        refine va_get (D := D) (ci := 8) (v := .ref a_games) (C := RX8) (T := TX8) (N := 9) hx hb hL inlX8 hown hK.1 hP 0 rfl rfl 1 (by decide) w2 (fun _ h9 => h9) rfl dX8_count_57 ?_
        obtain ⟨q60, e60, hf⟩ := pb_some hf
        refine cs_i (wc := (wdX0_openOnes cyI cyJ cyB cyS a_games a_games_ending a_games_first a_games_second v_games_size c_games_ending)) (w1 := (wdX0_openOnes cyI cyJ cyB cyS a_games a_games_ending a_games_first a_games_second v_games_size c_games_ending)) hP hD hS hA [1, 2] rfl rfl rfl (va_runV (C := RX0) (As := []) (rest := []) ⟨hx, hb, hml, hown, hL⟩ (mX0_openOnes l D cyI cyJ cyB cyS N H.size a_games a_games_ending a_games_first a_games_second v_games_size c_games_ending  q60 e60) (cwV 0 hL (gV (hR24 8 rfl) (hR24 9 rfl) (hR24 10 rfl) (hR1 19 rfl) (hR24 11 rfl)) rfl rfl rfl (by decide +kernel) ⟨Nat.le_of_ble_eq_true rfl, Nat.le_of_ble_eq_true rfl⟩) (PP_preV (ci := 0) (q0 := 1) hP hD hK [1, 2] rfl rfl rfl rfl) rfl rfl hl.1 rfl (lv_room (Nat.le_of_ble_eq_true rfl)) dX8_count_60 ⟨Nat.le_of_ble_eq_true rfl, Nat.le_of_ble_eq_true rfl⟩) (fun H locs hP hD hS => ?_)
        have hP : va_P D vwCl (wdX8_count_s0 cyI cyJ cyB cyS h0 a_games a_games_ending a_reader a_reader_tape a_rules a_rules_balls a_sheets a_sheets_0 a_standing a_tree a_course a_games_first a_games_second a_reader_draft a_reader_told a_reader_tape_token a_reader_tape_start a_reader_tape_meaning a_reader_tape_bytes a_rules_strength a_rules_placeWorth a_rules_choiceWorth a_rules_wheel a_sheets_0_cells v_textFault v_readFault v_games_size c_games_ending v_reader_lines v_reader_flaw v_reader_flawPlace v_reader_at v_reader_tape_length v_reader_tape_next v_rules_sides v_rules_kind v_rules_rounds c_rules_balls c_sheets v_sheets_0_exists v_sheets_0_lane v_sheets_0_length) H := hP
        have hD : va_D A (wdX8_count_s0 cyI cyJ cyB cyS h0 a_games a_games_ending a_reader a_reader_tape a_rules a_rules_balls a_sheets a_sheets_0 a_standing a_tree a_course a_games_first a_games_second a_reader_draft a_reader_told a_reader_tape_token a_reader_tape_start a_reader_tape_meaning a_reader_tape_bytes a_rules_strength a_rules_placeWorth a_rules_choiceWorth a_rules_wheel a_sheets_0_cells v_textFault v_readFault v_games_size c_games_ending v_reader_lines v_reader_flaw v_reader_flawPlace v_reader_at v_reader_tape_length v_reader_tape_next v_rules_sides v_rules_kind v_rules_rounds c_rules_balls c_sheets v_sheets_0_exists v_sheets_0_lane v_sheets_0_length) := hD
        exact ret_i (q := q) (g := fun q => q) (wp := fun q => (wdX8_count_s0 cyI cyJ cyB cyS h0 a_games a_games_ending a_reader a_reader_tape a_rules a_rules_balls a_sheets a_sheets_0 a_standing a_tree a_course a_games_first a_games_second a_reader_draft a_reader_told a_reader_tape_token a_reader_tape_start a_reader_tape_meaning a_reader_tape_bytes a_rules_strength a_rules_placeWorth a_rules_choiceWorth a_rules_wheel a_sheets_0_cells v_textFault v_readFault v_games_size c_games_ending v_reader_lines v_reader_flaw v_reader_flawPlace v_reader_at v_reader_tape_length v_reader_tape_next v_rules_sides v_rules_kind v_rules_rounds c_rules_balls c_sheets v_sheets_0_exists v_sheets_0_lane v_sheets_0_length)) hQ hf hx hb hr hlocks hP hD hS dX8_count_63 rfl
      · have hf := pif_f z1_2 hf
        rcases Decidable.em (x1 = 3) with z1_3 | z1_3
        · have hf := pif_t z1_3 hf
          refine lv_tableIn (tgt := 64) hx hb dX8_count_1 (by rw [z1_3]; decide) (by rw [z1_3]; decide) (by rw [z1_3]; try rfl) (by decide) ?_
          refine lv_aload_n hx hb dX8_count_64 rfl (lv_at hl 0 rfl) ?_
          refine va_get (D := D) (ci := 8) (v := .ref a_rules) (C := RX8) (T := TX8) (N := 9) hx hb hL inlX8 hown hK.1 hP 0 rfl rfl 0 (by decide) w0 (fun _ h9 => h9) rfl dX8_count_65 ?_
          obtain ⟨q68, e68, hf⟩ := pb_some hf
          refine cs_i (wc := (wdX2_allBalls cyI cyJ cyB cyS a_rules a_rules_balls a_rules_strength a_rules_placeWorth a_rules_choiceWorth a_rules_wheel v_rules_sides v_rules_kind v_rules_rounds c_rules_balls)) (w1 := (wdX2_allBalls cyI cyJ cyB cyS a_rules a_rules_balls a_rules_strength a_rules_placeWorth a_rules_choiceWorth a_rules_wheel v_rules_sides v_rules_kind v_rules_rounds c_rules_balls)) hP hD hS hA [5, 6] rfl rfl rfl (va_runV (C := RX2) (As := []) (rest := []) ⟨hx, hb, hml, hown, hL⟩ (mX2_allBalls l D cyI cyJ cyB cyS N H.size a_rules a_rules_balls a_rules_strength a_rules_placeWorth a_rules_choiceWorth a_rules_wheel v_rules_sides v_rules_kind v_rules_rounds c_rules_balls  q68 e68) (cwV 0 hL (gV (hR49 15 rfl) (hR15 2 rfl) (hR15 3 rfl) (hR1 15 rfl) (hR15 4 rfl)) rfl rfl rfl (by decide +kernel) ⟨Nat.le_of_ble_eq_true rfl, Nat.le_of_ble_eq_true rfl⟩) (PP_preV (ci := 2) (q0 := 5) hP hD hK [5, 6] rfl rfl rfl rfl) rfl rfl hl.1 rfl (lv_room (Nat.le_of_ble_eq_true rfl)) dX8_count_68 ⟨Nat.le_of_ble_eq_true rfl, Nat.le_of_ble_eq_true rfl⟩) (fun H locs hP hD hS => ?_)
          have hP : va_P D vwCl (wdX8_count_s0 cyI cyJ cyB cyS h0 a_games a_games_ending a_reader a_reader_tape a_rules a_rules_balls a_sheets a_sheets_0 a_standing a_tree a_course a_games_first a_games_second a_reader_draft a_reader_told a_reader_tape_token a_reader_tape_start a_reader_tape_meaning a_reader_tape_bytes a_rules_strength a_rules_placeWorth a_rules_choiceWorth a_rules_wheel a_sheets_0_cells v_textFault v_readFault v_games_size c_games_ending v_reader_lines v_reader_flaw v_reader_flawPlace v_reader_at v_reader_tape_length v_reader_tape_next v_rules_sides v_rules_kind v_rules_rounds c_rules_balls c_sheets v_sheets_0_exists v_sheets_0_lane v_sheets_0_length) H := hP
          have hD : va_D A (wdX8_count_s0 cyI cyJ cyB cyS h0 a_games a_games_ending a_reader a_reader_tape a_rules a_rules_balls a_sheets a_sheets_0 a_standing a_tree a_course a_games_first a_games_second a_reader_draft a_reader_told a_reader_tape_token a_reader_tape_start a_reader_tape_meaning a_reader_tape_bytes a_rules_strength a_rules_placeWorth a_rules_choiceWorth a_rules_wheel a_sheets_0_cells v_textFault v_readFault v_games_size c_games_ending v_reader_lines v_reader_flaw v_reader_flawPlace v_reader_at v_reader_tape_length v_reader_tape_next v_rules_sides v_rules_kind v_rules_rounds c_rules_balls c_sheets v_sheets_0_exists v_sheets_0_lane v_sheets_0_length) := hD
          exact ret_i (q := q) (g := fun q => q) (wp := fun q => (wdX8_count_s0 cyI cyJ cyB cyS h0 a_games a_games_ending a_reader a_reader_tape a_rules a_rules_balls a_sheets a_sheets_0 a_standing a_tree a_course a_games_first a_games_second a_reader_draft a_reader_told a_reader_tape_token a_reader_tape_start a_reader_tape_meaning a_reader_tape_bytes a_rules_strength a_rules_placeWorth a_rules_choiceWorth a_rules_wheel a_sheets_0_cells v_textFault v_readFault v_games_size c_games_ending v_reader_lines v_reader_flaw v_reader_flawPlace v_reader_at v_reader_tape_length v_reader_tape_next v_rules_sides v_rules_kind v_rules_rounds c_rules_balls c_sheets v_sheets_0_exists v_sheets_0_lane v_sheets_0_length)) hQ hf hx hb hr hlocks hP hD hS dX8_count_71 rfl
        · have hf := pif_f z1_3 hf
          rcases Decidable.em (x1 = 4) with z1_4 | z1_4
          · have hf := pif_t z1_4 hf
            refine lv_tableIn (tgt := 72) hx hb dX8_count_1 (by rw [z1_4]; decide) (by rw [z1_4]; decide) (by rw [z1_4]; try rfl) (by decide) ?_
            refine lv_aload_n hx hb dX8_count_72 rfl (lv_at hl 0 rfl) ?_
            refine va_get (D := D) (ci := 8) (v := .ref a_reader) (C := RX8) (T := TX8) (N := 9) hx hb hL inlX8 hown hK.1 hP 0 rfl rfl 3 (by decide) w4 (fun _ h9 => h9) rfl dX8_count_73 ?_
            refine va_get (D := D) (ci := 1) (v := .ref a_reader_tape) (C := RX1) (T := TX1) (N := 7) hx hb hL inlX1 hown hK.1 hP 3 rfl rfl 0 (by decide) w5 (fun _ h9 => h9) rfl dX8_count_76 ?_
            refine va_get (D := D) (ci := 5) (v := .int v_reader_tape_length) (C := RX5) (T := TX5) (N := 6) hx hb hL inlX5 hown hK.1 hP 4 rfl rfl 3 (by decide) w6 (fun _ h9 => h9) rfl dX8_count_79 ?_
            exact ret_i (q := q) (g := fun q => q) (wp := fun q => (wdX8_count_s0 cyI cyJ cyB cyS h0 a_games a_games_ending a_reader a_reader_tape a_rules a_rules_balls a_sheets a_sheets_0 a_standing a_tree a_course a_games_first a_games_second a_reader_draft a_reader_told a_reader_tape_token a_reader_tape_start a_reader_tape_meaning a_reader_tape_bytes a_rules_strength a_rules_placeWorth a_rules_choiceWorth a_rules_wheel a_sheets_0_cells v_textFault v_readFault v_games_size c_games_ending v_reader_lines v_reader_flaw v_reader_flawPlace v_reader_at v_reader_tape_length v_reader_tape_next v_rules_sides v_rules_kind v_rules_rounds c_rules_balls c_sheets v_sheets_0_exists v_sheets_0_lane v_sheets_0_length)) hQ hf hx hb hr hlocks hP hD hS dX8_count_82 rfl
          · have hf := pif_f z1_4 hf
            rcases Decidable.em (x1 = 5) with z1_5 | z1_5
            · have hf := pif_t z1_5 hf
              refine lv_tableIn (tgt := 83) hx hb dX8_count_1 (by rw [z1_5]; decide) (by rw [z1_5]; decide) (by rw [z1_5]; try rfl) (by decide) ?_
              refine lv_aload_n hx hb dX8_count_83 rfl (lv_at hl 0 rfl) ?_
              refine va_get (D := D) (ci := 8) (v := .ref a_sheets) (C := RX8) (T := TX8) (N := 9) hx hb hL inlX8 hown hK.1 hP 0 rfl rfl 6 (by decide) w7 (fun _ h9 => h9) rfl dX8_count_84 ?_
              refine lv_iconst (v := 0) hx hb dX8_count_87 (by decide) ?_
              obtain ⟨z88, hf⟩ := pg_some hf
              refine va_aldq (C := "LosingLeague$Sheet") hx hb hK.1 hP 7 3 rfl rfl (by rw [z88]; exact (by decide : inr 0 4)) dX8_count_88 ?_
              rw [show va_rf (c_sheets (0 : Int32).toNatClampNeg) = Value.ref a_sheets_0 from by rw [z88]; exact congrArg va_rf hsh]
              refine va_get (D := D) (ci := 3) (v := .int v_sheets_0_exists) (C := RX3) (T := TX3) (N := 4) hx hb hL inlX3 hown hK.1 hP 8 rfl rfl 1 (by decide) w8 (fun _ h9 => h9) rfl dX8_count_89 ?_
              refine lv_if_eq (tgt := 107) hx hb dX8_count_92 (by decide) (fun c92 => ?_) (fun c92 => ?_)
              · have hf := pif_t c92 hf
                refine lv_bipush (v := (-4)) hx hb dX8_count_107 (by decide) ?_
                exact hB109 (-4) H locs ls hf hP hD hS (lv_sub hl [] rfl)
              · have hf := pif_f c92 hf
                refine lv_aload_n hx hb dX8_count_95 rfl (lv_at hl 0 rfl) ?_
                refine va_get (D := D) (ci := 8) (v := .ref a_sheets) (C := RX8) (T := TX8) (N := 9) hx hb hL inlX8 hown hK.1 hP 0 rfl rfl 6 (by decide) w7 (fun _ h9 => h9) rfl dX8_count_96 ?_
                refine lv_iconst (v := 0) hx hb dX8_count_99 (by decide) ?_
                obtain ⟨z100, hf⟩ := pg_some hf
                refine va_aldq (C := "LosingLeague$Sheet") hx hb hK.1 hP 7 3 rfl rfl (by rw [z100]; exact (by decide : inr 0 4)) dX8_count_100 ?_
                rw [show va_rf (c_sheets (0 : Int32).toNatClampNeg) = Value.ref a_sheets_0 from by rw [z100]; exact congrArg va_rf hsh]
                refine va_get (D := D) (ci := 3) (v := .int v_sheets_0_length) (C := RX3) (T := TX3) (N := 4) hx hb hL inlX3 hown hK.1 hP 8 rfl rfl 3 (by decide) w9 (fun _ h9 => h9) rfl dX8_count_101 ?_
                refine lv_goto (tgt := 109) hx hb dX8_count_104 (by decide) ?_
                exact hB109 v_sheets_0_length H locs ls hf hP hD hS (lv_sub hl [] rfl)
            · have hf := pif_f z1_5 hf
              refine lv_tableOut (tgt := 110) hx hb dX8_count_1 (by have y0 := lv_neT (k := 0) (a := 0) z1_0 rfl; have y1 := lv_neT (k := 1) (a := 1) z1_1 rfl; have y2 := lv_neT (k := 2) (a := 2) z1_2 rfl; have y3 := lv_neT (k := 3) (a := 3) z1_3 rfl; have y4 := lv_neT (k := 4) (a := 4) z1_4 rfl; have y5 := lv_neT (k := 5) (a := 5) z1_5 rfl; omega) (by decide) ?_
              refine lv_iconst (v := (-1)) hx hb dX8_count_110 (by decide) ?_
              exact ret_i (q := q) (g := fun q => q) (wp := fun q => (wdX8_count_s0 cyI cyJ cyB cyS h0 a_games a_games_ending a_reader a_reader_tape a_rules a_rules_balls a_sheets a_sheets_0 a_standing a_tree a_course a_games_first a_games_second a_reader_draft a_reader_told a_reader_tape_token a_reader_tape_start a_reader_tape_meaning a_reader_tape_bytes a_rules_strength a_rules_placeWorth a_rules_choiceWorth a_rules_wheel a_sheets_0_cells v_textFault v_readFault v_games_size c_games_ending v_reader_lines v_reader_flaw v_reader_flawPlace v_reader_at v_reader_tape_length v_reader_tape_next v_rules_sides v_rules_kind v_rules_rounds c_rules_balls c_sheets v_sheets_0_exists v_sheets_0_lane v_sheets_0_length)) hQ hf hx hb hr hlocks hP hD hS dX8_count_111 rfl
