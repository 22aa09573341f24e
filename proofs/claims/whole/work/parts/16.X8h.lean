def fX8_takeEnds_58 (N : Nat) (c_p1_cells : Nat → Int32) (x2 : Int32) (x3 : Int32) (x4 : Int32) (k6 : Int32 → Int32 → (Nat → Int32) → Option (Int32 × (Nat → Int32))) (x5 : Int32) (x6 : Int32) (c_games_ending : Nat → Int32) : Option (Int32 × (Nat → Int32)) := k6 x5 (x6 + 1) c_games_ending
def fX8_takeEnds_6 (N : Nat) (c_p1_cells : Nat → Int32) (x2 : Int32) (x3 : Int32) (x4 : Int32) : Nat → Int32 → Int32 → (Nat → Int32) → Option (Int32 × (Nat → Int32))
  | 0, _, _, _ => none
  | n + 1, x5, x6, c_games_ending => pif (x4 ≤ x6) (some (x5, c_games_ending)) (pg (inr (x2 + x6) 40) (pg (inr (x3 + x6) 30) (pif ((c_games_ending (x3 + x6).toNatClampNeg) = (c_p1_cells (x2 + x6).toNatClampNeg)) (fX8_takeEnds_58 N c_p1_cells x2 x3 x4 (fX8_takeEnds_6 N c_p1_cells x2 x3 x4 n) x5 x6 c_games_ending) (pg (inr (x3 + x6) 30) (fX8_takeEnds_58 N c_p1_cells x2 x3 x4 (fX8_takeEnds_6 N c_p1_cells x2 x3 x4 n) (x5 + 1) x6 (upd c_games_ending (x3 + x6).toNatClampNeg (c_p1_cells (x2 + x6).toNatClampNeg)))))))
def fX8_takeEnds (N : Nat) (c_games_ending : Nat → Int32) (c_p1_cells : Nat → Int32) (x2 : Int32) (x3 : Int32) (x4 : Int32) : Option (Int32 × (Nat → Int32)) := fX8_takeEnds_6 N c_p1_cells x2 x3 x4 N 0 0 c_games_ending
def wdX8_takeEnds (cyI cyJ cyB cyS : ClassId) (h0 : Nat) (a_games : Nat) (a_games_ending : Nat) (a_p1 : Nat) (a_p1_cells : Nat) (a_rules : Nat) (a_standing : Nat) (a_reader : Nat) (a_tree : Nat) (a_course : Nat) (a_sheets : Nat) (a_games_first : Nat) (a_games_second : Nat) (v_textFault : Int32) (v_readFault : Int32) (v_games_size : Int32) (c_games_ending : Nat → Int32) (v_p1_exists : Int32) (v_p1_lane : Int32) (v_p1_length : Int32) (c_p1_cells : Nat → Int32) : va_W := [(h0, .inr (8, [.ref a_rules, .ref a_games, .ref a_standing, .ref a_reader, .ref a_tree, .ref a_course, .ref a_sheets, .int v_textFault, .int v_readFault])), (a_games, .inr (0, [.ref a_games_first, .ref a_games_second, .ref a_games_ending, .int v_games_size])), (a_games_ending, .inl (cyI, 30, .inl c_games_ending)), (a_p1, .inr (3, [.ref a_p1_cells, .int v_p1_exists, .int v_p1_lane, .int v_p1_length])), (a_p1_cells, .inl (cyI, 40, .inl c_p1_cells))]
abbrev rmX8_takeEnds : Room := { frames := 0, cells := 0, slots := 0, locals := 0 }
set_option maxHeartbeats 40000000 in
set_option maxRecDepth 100000 in
theorem mX8_takeEnds (l : Launch) (D : va_G) (cyI cyJ cyB cyS : ClassId) (N : Nat) (sz : Nat) (h0 : Nat) (a_games : Nat) (a_games_ending : Nat) (a_p1 : Nat) (a_p1_cells : Nat) (a_rules : Nat) (a_standing : Nat) (a_reader : Nat) (a_tree : Nat) (a_course : Nat) (a_sheets : Nat) (a_games_first : Nat) (a_games_second : Nat) (v_textFault : Int32) (v_readFault : Int32) (v_games_size : Int32) (c_games_ending : Nat → Int32) (v_p1_exists : Int32) (v_p1_lane : Int32) (v_p1_length : Int32) (c_p1_cells : Nat → Int32) (x2 : Int32) (x3 : Int32) (x4 : Int32) (q : Int32 × (Nat → Int32)) (hf : fX8_takeEnds N c_games_ending c_p1_cells x2 x3 x4 = some q) : Met l yX8_takeEnds (wS yX8_takeEnds cX8_takeEnds 8 (some .int)) rmX8_takeEnds (va_Pc [.ref h0, .ref a_p1, .int x2, .int x3, .int x4] (PP D cyI cyJ cyB cyS (wdX8_takeEnds cyI cyJ cyB cyS h0 a_games a_games_ending a_p1 a_p1_cells a_rules a_standing a_reader a_tree a_course a_sheets a_games_first a_games_second v_textFault v_readFault v_games_size c_games_ending v_p1_exists v_p1_lane v_p1_length c_p1_cells) sz)) (QI q.1 D (wdX8_takeEnds cyI cyJ cyB cyS h0 a_games a_games_ending a_p1 a_p1_cells a_rules a_standing a_reader a_tree a_course a_sheets a_games_first a_games_second v_textFault v_readFault v_games_size q.2 v_p1_exists v_p1_lane v_p1_length c_p1_cells) (va_A (wdX8_takeEnds cyI cyJ cyB cyS h0 a_games a_games_ending a_p1 a_p1_cells a_rules a_standing a_reader a_tree a_course a_sheets a_games_first a_games_second v_textFault v_readFault v_games_size c_games_ending v_p1_exists v_p1_lane v_p1_length c_p1_cells) sz)) 0 0 (va_A (wdX8_takeEnds cyI cyJ cyB cyS h0 a_games a_games_ending a_p1 a_p1_cells a_rules a_standing a_reader a_tree a_course a_sheets a_games_first a_games_second v_textFault v_readFault v_games_size c_games_ending v_p1_exists v_p1_lane v_p1_length c_p1_cells) sz) := by
  refine Met.ofW (cc := cX8_takeEnds) (maxL := 8) (ret := (some .int)) (by decide) rfl ?_
  intro p e s m args below meth c s₁ B hml hv
  obtain ⟨rfl, hsz, hP, hK, hD0⟩ := hv
  have hx := B.exec
  have hb := B.bytes
  have hr := B.returns
  have hts := atoms_spec (ws := (wS yX8_takeEnds cX8_takeEnds 8 (some .int))) B.pre
  have hown : s.vm.findClass RX8 = some m.cls := findClass_of_methodNamed B.named
  have hlocks := B.notSynchronized
  subst hsz
  have hD := hD0.self (sz := s.heap.size)
  refine w_nameQ (fun Q hQ => ?_)
  have hl := lv_entry ([.ref h0, .ref a_p1, .int x2, .int x3, .int x4] : List Value) (n := 8) (Nat.le_of_ble_eq_true rfl)
  rw [lg_entry_eq]
  generalize (lg_sl ([.ref h0, .ref a_p1, .int x2, .int x3, .int x4] : List Value) ++ List.replicate (8 - (lg_sl ([.ref h0, .ref a_p1, .int x2, .int x3, .int x4] : List Value)).length) Slot.unset).toArray = ls at hl ⊢
  have hl : lv_has ls 8 [(0, .ref h0), (1, .ref a_p1), (2, .int x2), (3, .int x3), (4, .int x4)] := hl
  generalize hAe : va_A (wdX8_takeEnds cyI cyJ cyB cyS h0 a_games a_games_ending a_p1 a_p1_cells a_rules a_standing a_reader a_tree a_course a_sheets a_games_first a_games_second v_textFault v_readFault v_games_size c_games_ending v_p1_exists v_p1_lane v_p1_length c_p1_cells) s.heap.size = A at hD hQ
  have hA : ∀ q : Nat, s.heap.size ≤ q → A q := fun q h => by rw [← hAe]; exact Or.inr h
  have hS : va_S A s.heap s.heap [] := va_S.rf
  generalize ([.ref h0, .ref a_p1, .int x2, .int x3, .int x4] : List Value).toArray = av at hts hQ ⊢
  have hL : ∀ w ∈ wsL_law, w.before av s = true := fun w h => hts w (List.mem_cons_of_mem _ h)
  have w0 := hL (.fieldLink RX8 330 "LosingLeague$Sheet" "cells" "[I") (hR48 4 rfl)
  have w1 := hL (.fieldLink RX8 19 "LosingLeague" "games" "LLosingLeague$Games;") (hR1 20 rfl)
  have w2 := hL (.fieldLink RX8 147 "LosingLeague$Games" "ending" "[I") (hR20 14 rfl)
  have hB58 : ∀ (k6 : Int32 → Int32 → (Nat → Int32) → Option (Int32 × (Nat → Int32))) (hk6 : ∀ (x5 : Int32) (x6 : Int32) (c_games_ending : Nat → Int32) (H : Heap) (locs : List Loc) (ls : Array Slot), k6 x5 x6 c_games_ending = some q → va_P D vwCl (wdX8_takeEnds cyI cyJ cyB cyS h0 a_games a_games_ending a_p1 a_p1_cells a_rules a_standing a_reader a_tree a_course a_sheets a_games_first a_games_second v_textFault v_readFault v_games_size c_games_ending v_p1_exists v_p1_lane v_p1_length c_p1_cells) H → va_D A (wdX8_takeEnds cyI cyJ cyB cyS h0 a_games a_games_ending a_p1 a_p1_cells a_rules a_standing a_reader a_tree a_course a_sheets a_games_first a_games_second v_textFault v_readFault v_games_size c_games_ending v_p1_exists v_p1_lane v_p1_length c_p1_cells) → va_S A s.heap H locs → lv_has ls 8 [(0, .ref h0), (1, .ref a_p1), (2, .int x2), (3, .int x3), (4, .int x4), (5, .int x5), (6, .int x6)] → W p l e rmX8_takeEnds s m av below meth c H locs 0 0 Q (F0 m 6 ls [])), ∀ (x5 : Int32) (x6 : Int32) (c_games_ending : Nat → Int32) (H : Heap) (locs : List Loc) (ls : Array Slot), fX8_takeEnds_58 N c_p1_cells x2 x3 x4 k6 x5 x6 c_games_ending = some q → va_P D vwCl (wdX8_takeEnds cyI cyJ cyB cyS h0 a_games a_games_ending a_p1 a_p1_cells a_rules a_standing a_reader a_tree a_course a_sheets a_games_first a_games_second v_textFault v_readFault v_games_size c_games_ending v_p1_exists v_p1_lane v_p1_length c_p1_cells) H → va_D A (wdX8_takeEnds cyI cyJ cyB cyS h0 a_games a_games_ending a_p1 a_p1_cells a_rules a_standing a_reader a_tree a_course a_sheets a_games_first a_games_second v_textFault v_readFault v_games_size c_games_ending v_p1_exists v_p1_lane v_p1_length c_p1_cells) → va_S A s.heap H locs → lv_has ls 8 [(0, .ref h0), (1, .ref a_p1), (2, .int x2), (3, .int x3), (4, .int x4), (5, .int x5), (6, .int x6)] → W p l e rmX8_takeEnds s m av below meth c H locs 0 0 Q (F0 m 58 ls []) := by
    intro k6 hk6 x5 x6 c_games_ending H locs ls hf hP hD hS hl
    unfold fX8_takeEnds_58 at hf
    refine lv_iinc (v := x6 + 1) (lv' := [(6, .int (x6 + 1)), (0, .ref h0), (1, .ref a_p1), (2, .int x2), (3, .int x3), (4, .int x4), (5, .int x5)]) hx hb dX8_takeEnds_58 hl (k := 6) rfl rfl (by decide) rfl (fun ls hl => ?_)
    refine lv_goto (tgt := 6) hx hb dX8_takeEnds_61 (by decide) ?_
    exact hk6 x5 (x6 + 1) c_games_ending H locs ls hf hP hD hS (lv_sub hl [1, 2, 3, 4, 5, 6, 0] rfl)
  have hB6 : ∀ (n : Nat), ∀ (x5 : Int32) (x6 : Int32) (c_games_ending : Nat → Int32) (H : Heap) (locs : List Loc) (ls : Array Slot), fX8_takeEnds_6 N c_p1_cells x2 x3 x4 n x5 x6 c_games_ending = some q → va_P D vwCl (wdX8_takeEnds cyI cyJ cyB cyS h0 a_games a_games_ending a_p1 a_p1_cells a_rules a_standing a_reader a_tree a_course a_sheets a_games_first a_games_second v_textFault v_readFault v_games_size c_games_ending v_p1_exists v_p1_lane v_p1_length c_p1_cells) H → va_D A (wdX8_takeEnds cyI cyJ cyB cyS h0 a_games a_games_ending a_p1 a_p1_cells a_rules a_standing a_reader a_tree a_course a_sheets a_games_first a_games_second v_textFault v_readFault v_games_size c_games_ending v_p1_exists v_p1_lane v_p1_length c_p1_cells) → va_S A s.heap H locs → lv_has ls 8 [(0, .ref h0), (1, .ref a_p1), (2, .int x2), (3, .int x3), (4, .int x4), (5, .int x5), (6, .int x6)] → W p l e rmX8_takeEnds s m av below meth c H locs 0 0 Q (F0 m 6 ls []) := by
    intro n
    induction n with
    | zero => intro x5 x6 c_games_ending H locs ls hf; exact absurd hf (by simp [fX8_takeEnds_6])
    | succ n hk6 =>
      intro x5 x6 c_games_ending H locs ls hf hP hD hS hl
      rw [fX8_takeEnds_6] at hf
      refine lv_iload hx hb dX8_takeEnds_6 (lv_at hl 6 rfl) ?_
      refine lv_iload hx hb dX8_takeEnds_8 (lv_at hl 4 rfl) ?_
      refine lv_icmp_ge (tgt := 64) hx hb dX8_takeEnds_10 (by decide) (fun c10 => ?_) (fun c10 => ?_)
      · have hf := pif_t c10 hf
        refine lv_iload hx hb dX8_takeEnds_64 (lv_at hl 5 rfl) ?_
        exact ret_i (q := q) (g := fun q => q.1) (wp := fun q => (wdX8_takeEnds cyI cyJ cyB cyS h0 a_games a_games_ending a_p1 a_p1_cells a_rules a_standing a_reader a_tree a_course a_sheets a_games_first a_games_second v_textFault v_readFault v_games_size q.2 v_p1_exists v_p1_lane v_p1_length c_p1_cells)) hQ hf hx hb hr hlocks hP hD hS dX8_takeEnds_66 rfl
      · have hf := pif_f c10 hf
        refine lv_aload_n hx hb dX8_takeEnds_13 rfl (lv_at hl 1 rfl) ?_
        refine va_get (D := D) (ci := 3) (v := .ref a_p1_cells) (C := RX3) (T := TX3) (N := 4) hx hb hL inlX3 hown hK.1 hP 3 rfl rfl 0 (by decide) w0 (fun _ h9 => h9) rfl dX8_takeEnds_14 ?_
        refine lv_iload_n hx hb dX8_takeEnds_17 rfl (lv_at hl 2 rfl) ?_
        refine lv_iload hx hb dX8_takeEnds_18 (lv_at hl 6 rfl) ?_
        refine lv_iadd hx hb dX8_takeEnds_20 ?_
        obtain ⟨h21, hf⟩ := pg_some hf
        refine va_iald hx hb hK.1 hP 4 0 rfl rfl h21 dX8_takeEnds_21 ?_
        refine lv_istore (lv' := [(7, .int (c_p1_cells (x2 + x6).toNatClampNeg)), (0, .ref h0), (1, .ref a_p1), (2, .int x2), (3, .int x3), (4, .int x4), (5, .int x5), (6, .int x6)]) hx hb dX8_takeEnds_22 hl (by decide) rfl (fun ls hl => ?_)
        refine lv_aload_n hx hb dX8_takeEnds_24 rfl (lv_at hl 1 rfl) ?_
        refine va_get (D := D) (ci := 8) (v := .ref a_games) (C := RX8) (T := TX8) (N := 9) hx hb hL inlX8 hown hK.1 hP 0 rfl rfl 1 (by decide) w1 (fun _ h9 => h9) rfl dX8_takeEnds_25 ?_
        refine va_get (D := D) (ci := 0) (v := .ref a_games_ending) (C := RX0) (T := TX0) (N := 4) hx hb hL inlX0 hown hK.1 hP 1 rfl rfl 2 (by decide) w2 (fun _ h9 => h9) rfl dX8_takeEnds_28 ?_
        refine lv_iload_n hx hb dX8_takeEnds_31 rfl (lv_at hl 4 rfl) ?_
        refine lv_iload hx hb dX8_takeEnds_32 (lv_at hl 7 rfl) ?_
        refine lv_iadd hx hb dX8_takeEnds_34 ?_
        obtain ⟨h35, hf⟩ := pg_some hf
        refine va_iald hx hb hK.1 hP 2 0 rfl rfl h35 dX8_takeEnds_35 ?_
        refine lv_iload hx hb dX8_takeEnds_36 (lv_at hl 0 rfl) ?_
        refine lv_icmp_eq (tgt := 58) hx hb dX8_takeEnds_38 (by decide) (fun c38 => ?_) (fun c38 => ?_)
        · have hf := pif_t c38 hf
          exact hB58 (fX8_takeEnds_6 N c_p1_cells x2 x3 x4 n) hk6 x5 x6 c_games_ending H locs ls hf hP hD hS (lv_sub hl [1, 2, 3, 4, 5, 6, 7] rfl)
        · have hf := pif_f c38 hf
          refine lv_aload_n hx hb dX8_takeEnds_41 rfl (lv_at hl 1 rfl) ?_
          refine va_get (D := D) (ci := 8) (v := .ref a_games) (C := RX8) (T := TX8) (N := 9) hx hb hL inlX8 hown hK.1 hP 0 rfl rfl 1 (by decide) w1 (fun _ h9 => h9) rfl dX8_takeEnds_42 ?_
          refine va_get (D := D) (ci := 0) (v := .ref a_games_ending) (C := RX0) (T := TX0) (N := 4) hx hb hL inlX0 hown hK.1 hP 1 rfl rfl 2 (by decide) w2 (fun _ h9 => h9) rfl dX8_takeEnds_45 ?_
          refine lv_iload_n hx hb dX8_takeEnds_48 rfl (lv_at hl 4 rfl) ?_
          refine lv_iload hx hb dX8_takeEnds_49 (lv_at hl 7 rfl) ?_
          refine lv_iadd hx hb dX8_takeEnds_51 ?_
          refine lv_iload hx hb dX8_takeEnds_52 (lv_at hl 0 rfl) ?_
          obtain ⟨h54, hf⟩ := pg_some hf
          refine va_iast hx hb hK.1 hP hD hS 2 0 rfl rfl h54 dX8_takeEnds_54 (fun H locs hP hD hS => ?_)
          have hP : va_P D vwCl (wdX8_takeEnds cyI cyJ cyB cyS h0 a_games a_games_ending a_p1 a_p1_cells a_rules a_standing a_reader a_tree a_course a_sheets a_games_first a_games_second v_textFault v_readFault v_games_size (upd c_games_ending (x3 + x6).toNatClampNeg (c_p1_cells (x2 + x6).toNatClampNeg)) v_p1_exists v_p1_lane v_p1_length c_p1_cells) H := hP
          have hD : va_D A (wdX8_takeEnds cyI cyJ cyB cyS h0 a_games a_games_ending a_p1 a_p1_cells a_rules a_standing a_reader a_tree a_course a_sheets a_games_first a_games_second v_textFault v_readFault v_games_size (upd c_games_ending (x3 + x6).toNatClampNeg (c_p1_cells (x2 + x6).toNatClampNeg)) v_p1_exists v_p1_lane v_p1_length c_p1_cells) := hD
          refine lv_iinc (v := x5 + 1) (lv' := [(5, .int (x5 + 1)), (7, .int (c_p1_cells (x2 + x6).toNatClampNeg)), (0, .ref h0), (1, .ref a_p1), (2, .int x2), (3, .int x3), (4, .int x4), (6, .int x6)]) hx hb dX8_takeEnds_55 hl (k := 6) rfl rfl (by decide) rfl (fun ls hl => ?_)
          exact hB58 (fX8_takeEnds_6 N c_p1_cells x2 x3 x4 n) hk6 (x5 + 1) x6 (upd c_games_ending (x3 + x6).toNatClampNeg (c_p1_cells (x2 + x6).toNatClampNeg)) H locs ls hf hP hD hS (lv_sub hl [2, 3, 4, 5, 6, 0, 7] rfl)
  unfold fX8_takeEnds at hf
  obtain ⟨H, hH⟩ : ∃ H : Heap, H = s.heap := ⟨_, rfl⟩
  obtain ⟨locs, hlo⟩ : ∃ locs : List Loc, locs = [] := ⟨_, rfl⟩
  have hP : va_P D vwCl (wdX8_takeEnds cyI cyJ cyB cyS h0 a_games a_games_ending a_p1 a_p1_cells a_rules a_standing a_reader a_tree a_course a_sheets a_games_first a_games_second v_textFault v_readFault v_games_size c_games_ending v_p1_exists v_p1_lane v_p1_length c_p1_cells) H := by rw [hH]; exact hP
  have hS : va_S A s.heap H locs := by rw [hH, hlo]; exact hS
  suffices hw : W p l e rmX8_takeEnds s m av below meth c H locs 0 0 Q (F0 m 0 ls []) by rw [hH, hlo] at hw; exact hw
  refine lv_iconst (v := 0) hx hb dX8_takeEnds_0 (by decide) ?_
  refine lv_istore (lv' := [(5, .int 0), (0, .ref h0), (1, .ref a_p1), (2, .int x2), (3, .int x3), (4, .int x4)]) hx hb dX8_takeEnds_1 hl (by decide) rfl (fun ls hl => ?_)
  refine lv_iconst (v := 0) hx hb dX8_takeEnds_3 (by decide) ?_
  refine lv_istore (lv' := [(6, .int 0), (5, .int 0), (0, .ref h0), (1, .ref a_p1), (2, .int x2), (3, .int x3), (4, .int x4)]) hx hb dX8_takeEnds_4 hl (by decide) rfl (fun ls hl => ?_)
  exact hB6 N 0 0 c_games_ending H locs ls hf hP hD hS (lv_sub hl [2, 3, 4, 5, 6, 1, 0] rfl)
