def fX8_feed (N : Nat) (v_reader_tape_length : Int32) (c_reader_tape_bytes : Nat → Int32) (x1 : Int64) : Option (Int32 × Int32 × (Nat → Int32)) := pif ((v_reader_tape_length + 8) ≤ 240) (pb (fX5_put N v_reader_tape_length c_reader_tape_bytes x1) (fun q26 => some (q26.1, q26.1, q26.2))) (some ((-3), v_reader_tape_length, c_reader_tape_bytes))
def wdX8_feed (cyI cyJ cyB cyS : ClassId) (h0 : Nat) (a_reader : Nat) (a_reader_tape : Nat) (a_reader_tape_bytes : Nat) (a_rules : Nat) (a_games : Nat) (a_standing : Nat) (a_tree : Nat) (a_course : Nat) (a_sheets : Nat) (a_reader_draft : Nat) (a_reader_told : Nat) (a_reader_tape_token : Nat) (a_reader_tape_start : Nat) (a_reader_tape_meaning : Nat) (v_textFault : Int32) (v_readFault : Int32) (v_reader_lines : Int32) (v_reader_flaw : Int32) (v_reader_flawPlace : Int32) (v_reader_at : Int32) (v_reader_tape_length : Int32) (v_reader_tape_next : Int32) (c_reader_tape_bytes : Nat → Int32) : va_W := [(h0, .inr (8, [.ref a_rules, .ref a_games, .ref a_standing, .ref a_reader, .ref a_tree, .ref a_course, .ref a_sheets, .int v_textFault, .int v_readFault])), (a_reader, .inr (1, [.ref a_reader_tape, .ref a_reader_draft, .int v_reader_lines, .int v_reader_flaw, .int v_reader_flawPlace, .ref a_reader_told, .int v_reader_at])), (a_reader_tape, .inr (5, [.ref a_reader_tape_token, .ref a_reader_tape_start, .ref a_reader_tape_meaning, .int v_reader_tape_length, .ref a_reader_tape_bytes, .int v_reader_tape_next])), (a_reader_tape_bytes, .inl (cyB, 240, .inl c_reader_tape_bytes))]
abbrev rmX8_feed : Room := { frames := 1, cells := 0, slots := 0, locals := 23 }
set_option maxHeartbeats 40000000 in
set_option maxRecDepth 100000 in
theorem mX8_feed (l : Launch) (D : va_G) (cyI cyJ cyB cyS : ClassId) (N : Nat) (sz : Nat) (h0 : Nat) (a_reader : Nat) (a_reader_tape : Nat) (a_reader_tape_bytes : Nat) (a_rules : Nat) (a_games : Nat) (a_standing : Nat) (a_tree : Nat) (a_course : Nat) (a_sheets : Nat) (a_reader_draft : Nat) (a_reader_told : Nat) (a_reader_tape_token : Nat) (a_reader_tape_start : Nat) (a_reader_tape_meaning : Nat) (v_textFault : Int32) (v_readFault : Int32) (v_reader_lines : Int32) (v_reader_flaw : Int32) (v_reader_flawPlace : Int32) (v_reader_at : Int32) (v_reader_tape_length : Int32) (v_reader_tape_next : Int32) (c_reader_tape_bytes : Nat → Int32) (x1 : Int64) (q : Int32 × Int32 × (Nat → Int32)) (hf : fX8_feed N v_reader_tape_length c_reader_tape_bytes x1 = some q) : Met l yX8_feed (wS yX8_feed cX8_feed 4 (some .int)) rmX8_feed (va_Pc [.ref h0, .long x1] (PP D cyI cyJ cyB cyS (wdX8_feed cyI cyJ cyB cyS h0 a_reader a_reader_tape a_reader_tape_bytes a_rules a_games a_standing a_tree a_course a_sheets a_reader_draft a_reader_told a_reader_tape_token a_reader_tape_start a_reader_tape_meaning v_textFault v_readFault v_reader_lines v_reader_flaw v_reader_flawPlace v_reader_at v_reader_tape_length v_reader_tape_next c_reader_tape_bytes) sz)) (QI q.1 D (wdX8_feed cyI cyJ cyB cyS h0 a_reader a_reader_tape a_reader_tape_bytes a_rules a_games a_standing a_tree a_course a_sheets a_reader_draft a_reader_told a_reader_tape_token a_reader_tape_start a_reader_tape_meaning v_textFault v_readFault v_reader_lines v_reader_flaw v_reader_flawPlace v_reader_at q.2.1 v_reader_tape_next q.2.2) (va_A (wdX8_feed cyI cyJ cyB cyS h0 a_reader a_reader_tape a_reader_tape_bytes a_rules a_games a_standing a_tree a_course a_sheets a_reader_draft a_reader_told a_reader_tape_token a_reader_tape_start a_reader_tape_meaning v_textFault v_readFault v_reader_lines v_reader_flaw v_reader_flawPlace v_reader_at v_reader_tape_length v_reader_tape_next c_reader_tape_bytes) sz)) 0 0 (va_A (wdX8_feed cyI cyJ cyB cyS h0 a_reader a_reader_tape a_reader_tape_bytes a_rules a_games a_standing a_tree a_course a_sheets a_reader_draft a_reader_told a_reader_tape_token a_reader_tape_start a_reader_tape_meaning v_textFault v_readFault v_reader_lines v_reader_flaw v_reader_flawPlace v_reader_at v_reader_tape_length v_reader_tape_next c_reader_tape_bytes) sz) := by
  refine Met.ofW (cc := cX8_feed) (maxL := 4) (ret := (some .int)) (by decide) rfl ?_
  intro p e s m args below meth c s₁ B hml hv
  obtain ⟨rfl, hsz, hP, hK, hD0⟩ := hv
  have hx := B.exec
  have hb := B.bytes
  have hr := B.returns
  have hts := atoms_spec (ws := (wS yX8_feed cX8_feed 4 (some .int))) B.pre
  have hown : s.vm.findClass RX8 = some m.cls := findClass_of_methodNamed B.named
  have hlocks := B.notSynchronized
  subst hsz
  have hD := hD0.self (sz := s.heap.size)
  refine w_nameQ (fun Q hQ => ?_)
  have hl := lv_entry ([.ref h0, .long x1] : List Value) (n := 4) (Nat.le_of_ble_eq_true rfl)
  rw [lg_entry_eq]
  generalize (lg_sl ([.ref h0, .long x1] : List Value) ++ List.replicate (4 - (lg_sl ([.ref h0, .long x1] : List Value)).length) Slot.unset).toArray = ls at hl ⊢
  have hl : lv_has ls 4 [(0, .ref h0), (1, .long x1)] := hl
  generalize hAe : va_A (wdX8_feed cyI cyJ cyB cyS h0 a_reader a_reader_tape a_reader_tape_bytes a_rules a_games a_standing a_tree a_course a_sheets a_reader_draft a_reader_told a_reader_tape_token a_reader_tape_start a_reader_tape_meaning v_textFault v_readFault v_reader_lines v_reader_flaw v_reader_flawPlace v_reader_at v_reader_tape_length v_reader_tape_next c_reader_tape_bytes) s.heap.size = A at hD hQ
  have hA : ∀ q : Nat, s.heap.size ≤ q → A q := fun q h => by rw [← hAe]; exact Or.inr h
  have hS : va_S A s.heap s.heap [] := va_S.rf
  generalize ([.ref h0, .long x1] : List Value).toArray = av at hts hQ ⊢
  have hL : ∀ w ∈ wsL_law, w.before av s = true := fun w h => hts w (List.mem_cons_of_mem _ h)
  have w0 := hL (.fieldLink RX8 33 "LosingLeague" "reader" "LLosingLeague$Reader;") (hR2 4 rfl)
  have w1 := hL (.fieldLink RX8 61 "LosingLeague$Reader" "tape" "LLosingLeague$Tape;") (hR7 11 rfl)
  have w2 := hL (.fieldLink RX8 65 "LosingLeague$Tape" "length" "I") (hR7 12 rfl)
  unfold fX8_feed at hf
  obtain ⟨H, hH⟩ : ∃ H : Heap, H = s.heap := ⟨_, rfl⟩
  obtain ⟨locs, hlo⟩ : ∃ locs : List Loc, locs = [] := ⟨_, rfl⟩
  have hP : va_P D vwCl (wdX8_feed cyI cyJ cyB cyS h0 a_reader a_reader_tape a_reader_tape_bytes a_rules a_games a_standing a_tree a_course a_sheets a_reader_draft a_reader_told a_reader_tape_token a_reader_tape_start a_reader_tape_meaning v_textFault v_readFault v_reader_lines v_reader_flaw v_reader_flawPlace v_reader_at v_reader_tape_length v_reader_tape_next c_reader_tape_bytes) H := by rw [hH]; exact hP
  have hS : va_S A s.heap H locs := by rw [hH, hlo]; exact hS
  suffices hw : W p l e rmX8_feed s m av below meth c H locs 0 0 Q (F0 m 0 ls []) by rw [hH, hlo] at hw; exact hw
  refine lv_aload_n hx hb dX8_feed_0 rfl (lv_at hl 0 rfl) ?_
  refine va_get (D := D) (ci := 8) (v := .ref a_reader) (C := RX8) (T := TX8) (N := 9) hx hb hL inlX8 hown hK.1 hP 0 rfl rfl 3 (by decide) w0 (fun _ h9 => h9) rfl dX8_feed_1 ?_
  refine va_get (D := D) (ci := 1) (v := .ref a_reader_tape) (C := RX1) (T := TX1) (N := 7) hx hb hL inlX1 hown hK.1 hP 1 rfl rfl 0 (by decide) w1 (fun _ h9 => h9) rfl dX8_feed_4 ?_
  refine lv_astore_n (lv' := [(3, .ref a_reader_tape), (0, .ref h0), (1, .long x1)]) hx hb dX8_feed_7 rfl hl (by decide) rfl (fun ls hl => ?_)
  refine lv_aload_n hx hb dX8_feed_8 rfl (lv_at hl 0 rfl) ?_
  refine va_get (D := D) (ci := 5) (v := .int v_reader_tape_length) (C := RX5) (T := TX5) (N := 6) hx hb hL inlX5 hown hK.1 hP 2 rfl rfl 3 (by decide) w2 (fun _ h9 => h9) rfl dX8_feed_9 ?_
  refine lv_bipush (v := 8) hx hb dX8_feed_12 (by decide) ?_
  refine lv_iadd hx hb dX8_feed_14 ?_
  refine lv_sipush (v := 240) hx hb dX8_feed_15 (by decide) ?_
  refine lv_icmp_le (tgt := 24) hx hb dX8_feed_18 (by decide) (fun c18 => ?_) (fun c18 => ?_)
  · have hf := pif_t c18 hf
    refine lv_aload_n hx hb dX8_feed_24 rfl (lv_at hl 0 rfl) ?_
    refine lv_lload_n hx hb dX8_feed_25 rfl (lv_at hl 2 rfl) ?_
    obtain ⟨q26, e26, hf⟩ := pb_some hf
    refine cs_v (wc := (wdX5_put cyI cyJ cyB cyS a_reader_tape a_reader_tape_bytes a_reader_tape_token a_reader_tape_start a_reader_tape_meaning v_reader_tape_length v_reader_tape_next c_reader_tape_bytes)) (w1 := (wdX5_put cyI cyJ cyB cyS a_reader_tape a_reader_tape_bytes a_reader_tape_token a_reader_tape_start a_reader_tape_meaning q26.1 v_reader_tape_next q26.2)) hP hD hS hA [2, 3] rfl rfl rfl (va_runV (C := RX5) (As := [.long x1]) (rest := []) ⟨hx, hb, hml, hown, hL⟩ (mX5_put l D cyI cyJ cyB cyS N H.size a_reader_tape a_reader_tape_bytes a_reader_tape_token a_reader_tape_start a_reader_tape_meaning v_reader_tape_length v_reader_tape_next c_reader_tape_bytes x1 q26 e26) (cwV 1 hL (gV (hR7 13 rfl) (hR7 14 rfl) (hR7 15 rfl) (hR3 23 rfl) (hR7 16 rfl)) rfl rfl rfl (by decide +kernel) ⟨Nat.le_of_ble_eq_true rfl, Nat.le_of_ble_eq_true rfl⟩) (PP_preV (ci := 5) (q0 := 2) hP hD hK [2, 3] rfl rfl rfl rfl) rfl rfl hl.1 rfl (lv_room (Nat.le_of_ble_eq_true rfl)) dX8_feed_26 ⟨Nat.le_of_ble_eq_true rfl, Nat.le_of_ble_eq_true rfl⟩) (fun H locs hP hD hS => ?_)
    have hP : va_P D vwCl (wdX8_feed cyI cyJ cyB cyS h0 a_reader a_reader_tape a_reader_tape_bytes a_rules a_games a_standing a_tree a_course a_sheets a_reader_draft a_reader_told a_reader_tape_token a_reader_tape_start a_reader_tape_meaning v_textFault v_readFault v_reader_lines v_reader_flaw v_reader_flawPlace v_reader_at q26.1 v_reader_tape_next q26.2) H := hP
    have hD : va_D A (wdX8_feed cyI cyJ cyB cyS h0 a_reader a_reader_tape a_reader_tape_bytes a_rules a_games a_standing a_tree a_course a_sheets a_reader_draft a_reader_told a_reader_tape_token a_reader_tape_start a_reader_tape_meaning v_textFault v_readFault v_reader_lines v_reader_flaw v_reader_flawPlace v_reader_at q26.1 v_reader_tape_next q26.2) := hD
    refine lv_aload_n hx hb dX8_feed_29 rfl (lv_at hl 0 rfl) ?_
    refine va_get (D := D) (ci := 5) (v := .int q26.1) (C := RX5) (T := TX5) (N := 6) hx hb hL inlX5 hown hK.1 hP 2 rfl rfl 3 (by decide) w2 (fun _ h9 => h9) rfl dX8_feed_30 ?_
    exact ret_i (q := q) (g := fun q => q.1) (wp := fun q => (wdX8_feed cyI cyJ cyB cyS h0 a_reader a_reader_tape a_reader_tape_bytes a_rules a_games a_standing a_tree a_course a_sheets a_reader_draft a_reader_told a_reader_tape_token a_reader_tape_start a_reader_tape_meaning v_textFault v_readFault v_reader_lines v_reader_flaw v_reader_flawPlace v_reader_at q.2.1 v_reader_tape_next q.2.2)) hQ hf hx hb hr hlocks hP hD hS dX8_feed_33 rfl
  · have hf := pif_f c18 hf
    refine lv_bipush (v := (-3)) hx hb dX8_feed_21 (by decide) ?_
    exact ret_i (q := q) (g := fun q => q.1) (wp := fun q => (wdX8_feed cyI cyJ cyB cyS h0 a_reader a_reader_tape a_reader_tape_bytes a_rules a_games a_standing a_tree a_course a_sheets a_reader_draft a_reader_told a_reader_tape_token a_reader_tape_start a_reader_tape_meaning v_textFault v_readFault v_reader_lines v_reader_flaw v_reader_flawPlace v_reader_at q.2.1 v_reader_tape_next q.2.2)) hQ hf hx hb hr hlocks hP hD hS dX8_feed_23 rfl
def fX8_end_20 (N : Nat) (x1 : Int32) (v_reader_tape_length : Int32) : Option (Int32 × Int32) := some ((-1), v_reader_tape_length)
def fX8_end (N : Nat) (v_reader_tape_length : Int32) (x1 : Int32) : Option (Int32 × Int32) := pif (x1 < 0) (fX8_end_20 N x1 v_reader_tape_length) (pif (x1 ≤ v_reader_tape_length) (some (v_reader_tape_length, x1)) (fX8_end_20 N x1 v_reader_tape_length))
def wdX8_end (cyI cyJ cyB cyS : ClassId) (h0 : Nat) (a_reader : Nat) (a_reader_tape : Nat) (a_rules : Nat) (a_games : Nat) (a_standing : Nat) (a_tree : Nat) (a_course : Nat) (a_sheets : Nat) (a_reader_draft : Nat) (a_reader_told : Nat) (a_reader_tape_token : Nat) (a_reader_tape_start : Nat) (a_reader_tape_meaning : Nat) (a_reader_tape_bytes : Nat) (v_textFault : Int32) (v_readFault : Int32) (v_reader_lines : Int32) (v_reader_flaw : Int32) (v_reader_flawPlace : Int32) (v_reader_at : Int32) (v_reader_tape_length : Int32) (v_reader_tape_next : Int32) : va_W := [(h0, .inr (8, [.ref a_rules, .ref a_games, .ref a_standing, .ref a_reader, .ref a_tree, .ref a_course, .ref a_sheets, .int v_textFault, .int v_readFault])), (a_reader, .inr (1, [.ref a_reader_tape, .ref a_reader_draft, .int v_reader_lines, .int v_reader_flaw, .int v_reader_flawPlace, .ref a_reader_told, .int v_reader_at])), (a_reader_tape, .inr (5, [.ref a_reader_tape_token, .ref a_reader_tape_start, .ref a_reader_tape_meaning, .int v_reader_tape_length, .ref a_reader_tape_bytes, .int v_reader_tape_next]))]
abbrev rmX8_end : Room := { frames := 0, cells := 0, slots := 0, locals := 0 }
set_option maxHeartbeats 40000000 in
set_option maxRecDepth 100000 in
theorem mX8_end (l : Launch) (D : va_G) (cyI cyJ cyB cyS : ClassId) (N : Nat) (sz : Nat) (h0 : Nat) (a_reader : Nat) (a_reader_tape : Nat) (a_rules : Nat) (a_games : Nat) (a_standing : Nat) (a_tree : Nat) (a_course : Nat) (a_sheets : Nat) (a_reader_draft : Nat) (a_reader_told : Nat) (a_reader_tape_token : Nat) (a_reader_tape_start : Nat) (a_reader_tape_meaning : Nat) (a_reader_tape_bytes : Nat) (v_textFault : Int32) (v_readFault : Int32) (v_reader_lines : Int32) (v_reader_flaw : Int32) (v_reader_flawPlace : Int32) (v_reader_at : Int32) (v_reader_tape_length : Int32) (v_reader_tape_next : Int32) (x1 : Int32) (q : Int32 × Int32) (hf : fX8_end N v_reader_tape_length x1 = some q) : Met l yX8_end (wS yX8_end cX8_end 3 (some .int)) rmX8_end (va_Pc [.ref h0, .int x1] (PP D cyI cyJ cyB cyS (wdX8_end cyI cyJ cyB cyS h0 a_reader a_reader_tape a_rules a_games a_standing a_tree a_course a_sheets a_reader_draft a_reader_told a_reader_tape_token a_reader_tape_start a_reader_tape_meaning a_reader_tape_bytes v_textFault v_readFault v_reader_lines v_reader_flaw v_reader_flawPlace v_reader_at v_reader_tape_length v_reader_tape_next) sz)) (QI q.1 D (wdX8_end cyI cyJ cyB cyS h0 a_reader a_reader_tape a_rules a_games a_standing a_tree a_course a_sheets a_reader_draft a_reader_told a_reader_tape_token a_reader_tape_start a_reader_tape_meaning a_reader_tape_bytes v_textFault v_readFault v_reader_lines v_reader_flaw v_reader_flawPlace v_reader_at q.2 v_reader_tape_next) (va_A (wdX8_end cyI cyJ cyB cyS h0 a_reader a_reader_tape a_rules a_games a_standing a_tree a_course a_sheets a_reader_draft a_reader_told a_reader_tape_token a_reader_tape_start a_reader_tape_meaning a_reader_tape_bytes v_textFault v_readFault v_reader_lines v_reader_flaw v_reader_flawPlace v_reader_at v_reader_tape_length v_reader_tape_next) sz)) 0 0 (va_A (wdX8_end cyI cyJ cyB cyS h0 a_reader a_reader_tape a_rules a_games a_standing a_tree a_course a_sheets a_reader_draft a_reader_told a_reader_tape_token a_reader_tape_start a_reader_tape_meaning a_reader_tape_bytes v_textFault v_readFault v_reader_lines v_reader_flaw v_reader_flawPlace v_reader_at v_reader_tape_length v_reader_tape_next) sz) := by
  refine Met.ofW (cc := cX8_end) (maxL := 3) (ret := (some .int)) (by decide) rfl ?_
  intro p e s m args below meth c s₁ B hml hv
  obtain ⟨rfl, hsz, hP, hK, hD0⟩ := hv
  have hx := B.exec
  have hb := B.bytes
  have hr := B.returns
  have hts := atoms_spec (ws := (wS yX8_end cX8_end 3 (some .int))) B.pre
  have hown : s.vm.findClass RX8 = some m.cls := findClass_of_methodNamed B.named
  have hlocks := B.notSynchronized
  subst hsz
  have hD := hD0.self (sz := s.heap.size)
  refine w_nameQ (fun Q hQ => ?_)
  have hl := lv_entry ([.ref h0, .int x1] : List Value) (n := 3) (Nat.le_of_ble_eq_true rfl)
  rw [lg_entry_eq]
  generalize (lg_sl ([.ref h0, .int x1] : List Value) ++ List.replicate (3 - (lg_sl ([.ref h0, .int x1] : List Value)).length) Slot.unset).toArray = ls at hl ⊢
  have hl : lv_has ls 3 [(0, .ref h0), (1, .int x1)] := hl
  generalize hAe : va_A (wdX8_end cyI cyJ cyB cyS h0 a_reader a_reader_tape a_rules a_games a_standing a_tree a_course a_sheets a_reader_draft a_reader_told a_reader_tape_token a_reader_tape_start a_reader_tape_meaning a_reader_tape_bytes v_textFault v_readFault v_reader_lines v_reader_flaw v_reader_flawPlace v_reader_at v_reader_tape_length v_reader_tape_next) s.heap.size = A at hD hQ
  have hA : ∀ q : Nat, s.heap.size ≤ q → A q := fun q h => by rw [← hAe]; exact Or.inr h
  have hS : va_S A s.heap s.heap [] := va_S.rf
  generalize ([.ref h0, .int x1] : List Value).toArray = av at hts hQ ⊢
  have hL : ∀ w ∈ wsL_law, w.before av s = true := fun w h => hts w (List.mem_cons_of_mem _ h)
  have w0 := hL (.fieldLink RX8 33 "LosingLeague" "reader" "LLosingLeague$Reader;") (hR2 4 rfl)
  have w1 := hL (.fieldLink RX8 61 "LosingLeague$Reader" "tape" "LLosingLeague$Tape;") (hR7 11 rfl)
  have w2 := hL (.fieldLink RX8 65 "LosingLeague$Tape" "length" "I") (hR7 12 rfl)
  have hB20 : ∀ (v_reader_tape_length : Int32) (H : Heap) (locs : List Loc) (ls : Array Slot), fX8_end_20 N x1 v_reader_tape_length = some q → va_P D vwCl (wdX8_end cyI cyJ cyB cyS h0 a_reader a_reader_tape a_rules a_games a_standing a_tree a_course a_sheets a_reader_draft a_reader_told a_reader_tape_token a_reader_tape_start a_reader_tape_meaning a_reader_tape_bytes v_textFault v_readFault v_reader_lines v_reader_flaw v_reader_flawPlace v_reader_at v_reader_tape_length v_reader_tape_next) H → va_D A (wdX8_end cyI cyJ cyB cyS h0 a_reader a_reader_tape a_rules a_games a_standing a_tree a_course a_sheets a_reader_draft a_reader_told a_reader_tape_token a_reader_tape_start a_reader_tape_meaning a_reader_tape_bytes v_textFault v_readFault v_reader_lines v_reader_flaw v_reader_flawPlace v_reader_at v_reader_tape_length v_reader_tape_next) → va_S A s.heap H locs → lv_has ls 3 [] → W p l e rmX8_end s m av below meth c H locs 0 0 Q (F0 m 20 ls []) := by
    intro v_reader_tape_length H locs ls hf hP hD hS hl
    unfold fX8_end_20 at hf
    refine lv_iconst (v := (-1)) hx hb dX8_end_20 (by decide) ?_
    exact ret_i (q := q) (g := fun q => q.1) (wp := fun q => (wdX8_end cyI cyJ cyB cyS h0 a_reader a_reader_tape a_rules a_games a_standing a_tree a_course a_sheets a_reader_draft a_reader_told a_reader_tape_token a_reader_tape_start a_reader_tape_meaning a_reader_tape_bytes v_textFault v_readFault v_reader_lines v_reader_flaw v_reader_flawPlace v_reader_at q.2 v_reader_tape_next)) hQ hf hx hb hr hlocks hP hD hS dX8_end_21 rfl
  unfold fX8_end at hf
  obtain ⟨H, hH⟩ : ∃ H : Heap, H = s.heap := ⟨_, rfl⟩
  obtain ⟨locs, hlo⟩ : ∃ locs : List Loc, locs = [] := ⟨_, rfl⟩
  have hP : va_P D vwCl (wdX8_end cyI cyJ cyB cyS h0 a_reader a_reader_tape a_rules a_games a_standing a_tree a_course a_sheets a_reader_draft a_reader_told a_reader_tape_token a_reader_tape_start a_reader_tape_meaning a_reader_tape_bytes v_textFault v_readFault v_reader_lines v_reader_flaw v_reader_flawPlace v_reader_at v_reader_tape_length v_reader_tape_next) H := by rw [hH]; exact hP
  have hS : va_S A s.heap H locs := by rw [hH, hlo]; exact hS
  suffices hw : W p l e rmX8_end s m av below meth c H locs 0 0 Q (F0 m 0 ls []) by rw [hH, hlo] at hw; exact hw
  refine lv_aload_n hx hb dX8_end_0 rfl (lv_at hl 0 rfl) ?_
  refine va_get (D := D) (ci := 8) (v := .ref a_reader) (C := RX8) (T := TX8) (N := 9) hx hb hL inlX8 hown hK.1 hP 0 rfl rfl 3 (by decide) w0 (fun _ h9 => h9) rfl dX8_end_1 ?_
  refine va_get (D := D) (ci := 1) (v := .ref a_reader_tape) (C := RX1) (T := TX1) (N := 7) hx hb hL inlX1 hown hK.1 hP 1 rfl rfl 0 (by decide) w1 (fun _ h9 => h9) rfl dX8_end_4 ?_
  refine va_get (D := D) (ci := 5) (v := .int v_reader_tape_length) (C := RX5) (T := TX5) (N := 6) hx hb hL inlX5 hown hK.1 hP 2 rfl rfl 3 (by decide) w2 (fun _ h9 => h9) rfl dX8_end_7 ?_
  refine lv_istore_n (lv' := [(2, .int v_reader_tape_length), (0, .ref h0), (1, .int x1)]) hx hb dX8_end_10 rfl hl (by decide) rfl (fun ls hl => ?_)
  refine lv_iload_n hx hb dX8_end_11 rfl (lv_at hl 2 rfl) ?_
  refine lv_if_lt (tgt := 20) hx hb dX8_end_12 (by decide) (fun c12 => ?_) (fun c12 => ?_)
  · have hf := pif_t c12 hf
    exact hB20 v_reader_tape_length H locs ls hf hP hD hS (lv_sub hl [] rfl)
  · have hf := pif_f c12 hf
    refine lv_iload_n hx hb dX8_end_15 rfl (lv_at hl 2 rfl) ?_
    refine lv_iload_n hx hb dX8_end_16 rfl (lv_at hl 0 rfl) ?_
    refine lv_icmp_le (tgt := 22) hx hb dX8_end_17 (by decide) (fun c17 => ?_) (fun c17 => ?_)
    · have hf := pif_t c17 hf
      refine lv_aload_n hx hb dX8_end_22 rfl (lv_at hl 1 rfl) ?_
      refine va_get (D := D) (ci := 8) (v := .ref a_reader) (C := RX8) (T := TX8) (N := 9) hx hb hL inlX8 hown hK.1 hP 0 rfl rfl 3 (by decide) w0 (fun _ h9 => h9) rfl dX8_end_23 ?_
      refine va_get (D := D) (ci := 1) (v := .ref a_reader_tape) (C := RX1) (T := TX1) (N := 7) hx hb hL inlX1 hown hK.1 hP 1 rfl rfl 0 (by decide) w1 (fun _ h9 => h9) rfl dX8_end_26 ?_
      refine lv_iload_n hx hb dX8_end_29 rfl (lv_at hl 2 rfl) ?_
      refine va_put (D := D) (ci := 5) (v := .int x1) (ty := .int) (C := RX5) (T := TX5) (N := 6) hx hb hL inlX5 tyX5 tyX5_ok nmX5 hown hK.1 hP hD hS 2 rfl rfl 3 (by decide) w2 (fun _ h9 => h9) rfl (by decide +kernel) rfl rfl (Nat.le_of_ble_eq_true rfl) dX8_end_30 (fun H locs hP hD hS => ?_)
      have hP : va_P D vwCl (wdX8_end cyI cyJ cyB cyS h0 a_reader a_reader_tape a_rules a_games a_standing a_tree a_course a_sheets a_reader_draft a_reader_told a_reader_tape_token a_reader_tape_start a_reader_tape_meaning a_reader_tape_bytes v_textFault v_readFault v_reader_lines v_reader_flaw v_reader_flawPlace v_reader_at x1 v_reader_tape_next) H := hP
      have hD : va_D A (wdX8_end cyI cyJ cyB cyS h0 a_reader a_reader_tape a_rules a_games a_standing a_tree a_course a_sheets a_reader_draft a_reader_told a_reader_tape_token a_reader_tape_start a_reader_tape_meaning a_reader_tape_bytes v_textFault v_readFault v_reader_lines v_reader_flaw v_reader_flawPlace v_reader_at x1 v_reader_tape_next) := hD
      refine lv_iload_n hx hb dX8_end_33 rfl (lv_at hl 0 rfl) ?_
      exact ret_i (q := q) (g := fun q => q.1) (wp := fun q => (wdX8_end cyI cyJ cyB cyS h0 a_reader a_reader_tape a_rules a_games a_standing a_tree a_course a_sheets a_reader_draft a_reader_told a_reader_tape_token a_reader_tape_start a_reader_tape_meaning a_reader_tape_bytes v_textFault v_readFault v_reader_lines v_reader_flaw v_reader_flawPlace v_reader_at q.2 v_reader_tape_next)) hQ hf hx hb hr hlocks hP hD hS dX8_end_34 rfl
    · have hf := pif_f c17 hf
      exact hB20 v_reader_tape_length H locs ls hf hP hD hS (lv_sub hl [] rfl)
def fX8_fault (N : Nat) (v_textFault : Int32) : Option (Int32) := some v_textFault
def wdX8_fault (cyI cyJ cyB cyS : ClassId) (h0 : Nat) (a_rules : Nat) (a_games : Nat) (a_standing : Nat) (a_reader : Nat) (a_tree : Nat) (a_course : Nat) (a_sheets : Nat) (v_textFault : Int32) (v_readFault : Int32) : va_W := [(h0, .inr (8, [.ref a_rules, .ref a_games, .ref a_standing, .ref a_reader, .ref a_tree, .ref a_course, .ref a_sheets, .int v_textFault, .int v_readFault]))]
abbrev rmX8_fault : Room := { frames := 0, cells := 0, slots := 0, locals := 0 }
set_option maxHeartbeats 40000000 in
set_option maxRecDepth 100000 in
theorem mX8_fault (l : Launch) (D : va_G) (cyI cyJ cyB cyS : ClassId) (N : Nat) (sz : Nat) (h0 : Nat) (a_rules : Nat) (a_games : Nat) (a_standing : Nat) (a_reader : Nat) (a_tree : Nat) (a_course : Nat) (a_sheets : Nat) (v_textFault : Int32) (v_readFault : Int32) (q : Int32) (hf : fX8_fault N v_textFault = some q) : Met l yX8_fault (wS yX8_fault cX8_fault 1 (some .int)) rmX8_fault (va_Pc [.ref h0] (PP D cyI cyJ cyB cyS (wdX8_fault cyI cyJ cyB cyS h0 a_rules a_games a_standing a_reader a_tree a_course a_sheets v_textFault v_readFault) sz)) (QI q D (wdX8_fault cyI cyJ cyB cyS h0 a_rules a_games a_standing a_reader a_tree a_course a_sheets v_textFault v_readFault) (va_A (wdX8_fault cyI cyJ cyB cyS h0 a_rules a_games a_standing a_reader a_tree a_course a_sheets v_textFault v_readFault) sz)) 0 0 (va_A (wdX8_fault cyI cyJ cyB cyS h0 a_rules a_games a_standing a_reader a_tree a_course a_sheets v_textFault v_readFault) sz) := by
  refine Met.ofW (cc := cX8_fault) (maxL := 1) (ret := (some .int)) (by decide) rfl ?_
  intro p e s m args below meth c s₁ B hml hv
  obtain ⟨rfl, hsz, hP, hK, hD0⟩ := hv
  have hx := B.exec
  have hb := B.bytes
  have hr := B.returns
  have hts := atoms_spec (ws := (wS yX8_fault cX8_fault 1 (some .int))) B.pre
  have hown : s.vm.findClass RX8 = some m.cls := findClass_of_methodNamed B.named
  have hlocks := B.notSynchronized
  subst hsz
  have hD := hD0.self (sz := s.heap.size)
  refine w_nameQ (fun Q hQ => ?_)
  have hl := lv_entry ([.ref h0] : List Value) (n := 1) (Nat.le_of_ble_eq_true rfl)
  rw [lg_entry_eq]
  generalize (lg_sl ([.ref h0] : List Value) ++ List.replicate (1 - (lg_sl ([.ref h0] : List Value)).length) Slot.unset).toArray = ls at hl ⊢
  have hl : lv_has ls 1 [(0, .ref h0)] := hl
  generalize hAe : va_A (wdX8_fault cyI cyJ cyB cyS h0 a_rules a_games a_standing a_reader a_tree a_course a_sheets v_textFault v_readFault) s.heap.size = A at hD hQ
  have hA : ∀ q : Nat, s.heap.size ≤ q → A q := fun q h => by rw [← hAe]; exact Or.inr h
  have hS : va_S A s.heap s.heap [] := va_S.rf
  generalize ([.ref h0] : List Value).toArray = av at hts hQ ⊢
  have hL : ∀ w ∈ wsL_law, w.before av s = true := fun w h => hts w (List.mem_cons_of_mem _ h)
  have w0 := hL (.fieldLink RX8 82 "LosingLeague" "textFault" "I") (hR8 15 rfl)
  unfold fX8_fault at hf
  obtain ⟨H, hH⟩ : ∃ H : Heap, H = s.heap := ⟨_, rfl⟩
  obtain ⟨locs, hlo⟩ : ∃ locs : List Loc, locs = [] := ⟨_, rfl⟩
  have hP : va_P D vwCl (wdX8_fault cyI cyJ cyB cyS h0 a_rules a_games a_standing a_reader a_tree a_course a_sheets v_textFault v_readFault) H := by rw [hH]; exact hP
  have hS : va_S A s.heap H locs := by rw [hH, hlo]; exact hS
  suffices hw : W p l e rmX8_fault s m av below meth c H locs 0 0 Q (F0 m 0 ls []) by rw [hH, hlo] at hw; exact hw
  refine lv_aload_n hx hb dX8_fault_0 rfl (lv_at hl 0 rfl) ?_
  refine va_get (D := D) (ci := 8) (v := .int v_textFault) (C := RX8) (T := TX8) (N := 9) hx hb hL inlX8 hown hK.1 hP 0 rfl rfl 7 (by decide) w0 (fun _ h9 => h9) rfl dX8_fault_1 ?_
  exact ret_i (q := q) (g := fun q => q) (wp := fun q => (wdX8_fault cyI cyJ cyB cyS h0 a_rules a_games a_standing a_reader a_tree a_course a_sheets v_textFault v_readFault)) hQ hf hx hb hr hlocks hP hD hS dX8_fault_4 rfl
def fX8_rule_51 (N : Nat) (v_rules_kind : Int32) (v_rules_sides : Int32) (c_rules_balls : Nat → Int32) (c_rules_choiceWorth : Nat → Int32) (c_rules_placeWorth : Nat → Int32) (c_rules_strength : Nat → Int32) (c_rules_wheel : Nat → Int32) (x1 : Int32) : Option (Int32) := some (-1)
def fX8_rule (N : Nat) (v_rules_kind : Int32) (v_rules_sides : Int32) (c_rules_balls : Nat → Int32) (c_rules_choiceWorth : Nat → Int32) (c_rules_placeWorth : Nat → Int32) (c_rules_strength : Nat → Int32) (c_rules_wheel : Nat → Int32) (x1 : Int32) : Option (Int32) := pif (x1 = 0) (some v_rules_sides) (pif (x1 = 1) (some v_rules_kind) (pif (x1 < 10) (fX8_rule_51 N v_rules_kind v_rules_sides c_rules_balls c_rules_choiceWorth c_rules_placeWorth c_rules_strength c_rules_wheel x1) (pif (59 < x1) (fX8_rule_51 N v_rules_kind v_rules_sides c_rules_balls c_rules_choiceWorth c_rules_placeWorth c_rules_strength c_rules_wheel x1) (pif ((x1 - x1 / 10 * 10) < v_rules_sides) (pif ((x1 / 10) = 1) (pg (inr (x1 - x1 / 10 * 10) 6) (some (c_rules_strength (x1 - x1 / 10 * 10).toNatClampNeg))) (pif ((x1 / 10) = 2) (pg (inr (x1 - x1 / 10 * 10) 6) (some (c_rules_placeWorth (x1 - x1 / 10 * 10).toNatClampNeg))) (pif ((x1 / 10) = 3) (pg (inr (x1 - x1 / 10 * 10) 6) (some (c_rules_choiceWorth (x1 - x1 / 10 * 10).toNatClampNeg))) (pif ((x1 / 10) = 4) (pg (inr (x1 - x1 / 10 * 10) 6) (some (c_rules_balls (x1 - x1 / 10 * 10).toNatClampNeg))) (pg (inr (x1 - x1 / 10 * 10) 6) (some (c_rules_wheel (x1 - x1 / 10 * 10).toNatClampNeg))))))) (fX8_rule_51 N v_rules_kind v_rules_sides c_rules_balls c_rules_choiceWorth c_rules_placeWorth c_rules_strength c_rules_wheel x1)))))
def wdX8_rule (cyI cyJ cyB cyS : ClassId) (h0 : Nat) (a_rules : Nat) (a_rules_balls : Nat) (a_rules_choiceWorth : Nat) (a_rules_placeWorth : Nat) (a_rules_strength : Nat) (a_rules_wheel : Nat) (a_games : Nat) (a_standing : Nat) (a_reader : Nat) (a_tree : Nat) (a_course : Nat) (a_sheets : Nat) (v_textFault : Int32) (v_readFault : Int32) (v_rules_sides : Int32) (v_rules_kind : Int32) (v_rules_rounds : Int32) (c_rules_balls : Nat → Int32) (c_rules_choiceWorth : Nat → Int32) (c_rules_placeWorth : Nat → Int32) (c_rules_strength : Nat → Int32) (c_rules_wheel : Nat → Int32) : va_W := [(h0, .inr (8, [.ref a_rules, .ref a_games, .ref a_standing, .ref a_reader, .ref a_tree, .ref a_course, .ref a_sheets, .int v_textFault, .int v_readFault])), (a_rules, .inr (2, [.ref a_rules_strength, .ref a_rules_placeWorth, .ref a_rules_choiceWorth, .ref a_rules_balls, .ref a_rules_wheel, .int v_rules_sides, .int v_rules_kind, .int v_rules_rounds])), (a_rules_balls, .inl (cyI, 6, .inl c_rules_balls)), (a_rules_choiceWorth, .inl (cyI, 6, .inl c_rules_choiceWorth)), (a_rules_placeWorth, .inl (cyI, 6, .inl c_rules_placeWorth)), (a_rules_strength, .inl (cyI, 6, .inl c_rules_strength)), (a_rules_wheel, .inl (cyI, 6, .inl c_rules_wheel))]
abbrev rmX8_rule : Room := { frames := 0, cells := 0, slots := 0, locals := 0 }
set_option maxHeartbeats 40000000 in
set_option maxRecDepth 100000 in
theorem mX8_rule (l : Launch) (D : va_G) (cyI cyJ cyB cyS : ClassId) (N : Nat) (sz : Nat) (h0 : Nat) (a_rules : Nat) (a_rules_balls : Nat) (a_rules_choiceWorth : Nat) (a_rules_placeWorth : Nat) (a_rules_strength : Nat) (a_rules_wheel : Nat) (a_games : Nat) (a_standing : Nat) (a_reader : Nat) (a_tree : Nat) (a_course : Nat) (a_sheets : Nat) (v_textFault : Int32) (v_readFault : Int32) (v_rules_sides : Int32) (v_rules_kind : Int32) (v_rules_rounds : Int32) (c_rules_balls : Nat → Int32) (c_rules_choiceWorth : Nat → Int32) (c_rules_placeWorth : Nat → Int32) (c_rules_strength : Nat → Int32) (c_rules_wheel : Nat → Int32) (x1 : Int32) (q : Int32) (hf : fX8_rule N v_rules_kind v_rules_sides c_rules_balls c_rules_choiceWorth c_rules_placeWorth c_rules_strength c_rules_wheel x1 = some q) : Met l yX8_rule (wS yX8_rule cX8_rule 3 (some .int)) rmX8_rule (va_Pc [.ref h0, .int x1] (PP D cyI cyJ cyB cyS (wdX8_rule cyI cyJ cyB cyS h0 a_rules a_rules_balls a_rules_choiceWorth a_rules_placeWorth a_rules_strength a_rules_wheel a_games a_standing a_reader a_tree a_course a_sheets v_textFault v_readFault v_rules_sides v_rules_kind v_rules_rounds c_rules_balls c_rules_choiceWorth c_rules_placeWorth c_rules_strength c_rules_wheel) sz)) (QI q D (wdX8_rule cyI cyJ cyB cyS h0 a_rules a_rules_balls a_rules_choiceWorth a_rules_placeWorth a_rules_strength a_rules_wheel a_games a_standing a_reader a_tree a_course a_sheets v_textFault v_readFault v_rules_sides v_rules_kind v_rules_rounds c_rules_balls c_rules_choiceWorth c_rules_placeWorth c_rules_strength c_rules_wheel) (va_A (wdX8_rule cyI cyJ cyB cyS h0 a_rules a_rules_balls a_rules_choiceWorth a_rules_placeWorth a_rules_strength a_rules_wheel a_games a_standing a_reader a_tree a_course a_sheets v_textFault v_readFault v_rules_sides v_rules_kind v_rules_rounds c_rules_balls c_rules_choiceWorth c_rules_placeWorth c_rules_strength c_rules_wheel) sz)) 0 0 (va_A (wdX8_rule cyI cyJ cyB cyS h0 a_rules a_rules_balls a_rules_choiceWorth a_rules_placeWorth a_rules_strength a_rules_wheel a_games a_standing a_reader a_tree a_course a_sheets v_textFault v_readFault v_rules_sides v_rules_kind v_rules_rounds c_rules_balls c_rules_choiceWorth c_rules_placeWorth c_rules_strength c_rules_wheel) sz) := by
  refine Met.ofW (cc := cX8_rule) (maxL := 3) (ret := (some .int)) (by decide) rfl ?_
  intro p e s m args below meth c s₁ B hml hv
  obtain ⟨rfl, hsz, hP, hK, hD0⟩ := hv
  have hx := B.exec
  have hb := B.bytes
  have hr := B.returns
  have hts := atoms_spec (ws := (wS yX8_rule cX8_rule 3 (some .int))) B.pre
  have hown : s.vm.findClass RX8 = some m.cls := findClass_of_methodNamed B.named
  have hlocks := B.notSynchronized
  subst hsz
  have hD := hD0.self (sz := s.heap.size)
  refine w_nameQ (fun Q hQ => ?_)
  have hl := lv_entry ([.ref h0, .int x1] : List Value) (n := 3) (Nat.le_of_ble_eq_true rfl)
  rw [lg_entry_eq]
  generalize (lg_sl ([.ref h0, .int x1] : List Value) ++ List.replicate (3 - (lg_sl ([.ref h0, .int x1] : List Value)).length) Slot.unset).toArray = ls at hl ⊢
  have hl : lv_has ls 3 [(0, .ref h0), (1, .int x1)] := hl
  generalize hAe : va_A (wdX8_rule cyI cyJ cyB cyS h0 a_rules a_rules_balls a_rules_choiceWorth a_rules_placeWorth a_rules_strength a_rules_wheel a_games a_standing a_reader a_tree a_course a_sheets v_textFault v_readFault v_rules_sides v_rules_kind v_rules_rounds c_rules_balls c_rules_choiceWorth c_rules_placeWorth c_rules_strength c_rules_wheel) s.heap.size = A at hD hQ
  have hA : ∀ q : Nat, s.heap.size ≤ q → A q := fun q h => by rw [← hAe]; exact Or.inr h
  have hS : va_S A s.heap s.heap [] := va_S.rf
  generalize ([.ref h0, .int x1] : List Value).toArray = av at hts hQ ⊢
  have hL : ∀ w ∈ wsL_law, w.before av s = true := fun w h => hts w (List.mem_cons_of_mem _ h)
  have w0 := hL (.fieldLink RX8 10 "LosingLeague" "rules" "LLosingLeague$Rules;") (hR1 16 rfl)
  have w1 := hL (.fieldLink RX8 101 "LosingLeague$Rules" "sides" "I") (hR8 20 rfl)
  have w2 := hL (.fieldLink RX8 114 "LosingLeague$Rules" "strength" "[I") (hR19 2 rfl)
  have w3 := hL (.fieldLink RX8 118 "LosingLeague$Rules" "placeWorth" "[I") (hR19 3 rfl)
  have w4 := hL (.fieldLink RX8 121 "LosingLeague$Rules" "choiceWorth" "[I") (hR19 4 rfl)
  have w5 := hL (.fieldLink RX8 124 "LosingLeague$Rules" "balls" "[I") (hR19 5 rfl)
  have w6 := hL (.fieldLink RX8 127 "LosingLeague$Rules" "wheel" "[I") (hR19 6 rfl)
  have w7 := hL (.fieldLink RX8 111 "LosingLeague$Rules" "kind" "I") (hR19 1 rfl)
  have hB51 : ∀ (H : Heap) (locs : List Loc) (ls : Array Slot), fX8_rule_51 N v_rules_kind v_rules_sides c_rules_balls c_rules_choiceWorth c_rules_placeWorth c_rules_strength c_rules_wheel x1 = some q → va_P D vwCl (wdX8_rule cyI cyJ cyB cyS h0 a_rules a_rules_balls a_rules_choiceWorth a_rules_placeWorth a_rules_strength a_rules_wheel a_games a_standing a_reader a_tree a_course a_sheets v_textFault v_readFault v_rules_sides v_rules_kind v_rules_rounds c_rules_balls c_rules_choiceWorth c_rules_placeWorth c_rules_strength c_rules_wheel) H → va_D A (wdX8_rule cyI cyJ cyB cyS h0 a_rules a_rules_balls a_rules_choiceWorth a_rules_placeWorth a_rules_strength a_rules_wheel a_games a_standing a_reader a_tree a_course a_sheets v_textFault v_readFault v_rules_sides v_rules_kind v_rules_rounds c_rules_balls c_rules_choiceWorth c_rules_placeWorth c_rules_strength c_rules_wheel) → va_S A s.heap H locs → lv_has ls 3 [] → W p l e rmX8_rule s m av below meth c H locs 0 0 Q (F0 m 51 ls []) := by
    intro  H locs ls hf hP hD hS hl
    unfold fX8_rule_51 at hf
    refine lv_iconst (v := (-1)) hx hb dX8_rule_51 (by decide) ?_
    exact ret_i (q := q) (g := fun q => q) (wp := fun q => (wdX8_rule cyI cyJ cyB cyS h0 a_rules a_rules_balls a_rules_choiceWorth a_rules_placeWorth a_rules_strength a_rules_wheel a_games a_standing a_reader a_tree a_course a_sheets v_textFault v_readFault v_rules_sides v_rules_kind v_rules_rounds c_rules_balls c_rules_choiceWorth c_rules_placeWorth c_rules_strength c_rules_wheel)) hQ hf hx hb hr hlocks hP hD hS dX8_rule_52 rfl
  unfold fX8_rule at hf
  obtain ⟨H, hH⟩ : ∃ H : Heap, H = s.heap := ⟨_, rfl⟩
  obtain ⟨locs, hlo⟩ : ∃ locs : List Loc, locs = [] := ⟨_, rfl⟩
  have hP : va_P D vwCl (wdX8_rule cyI cyJ cyB cyS h0 a_rules a_rules_balls a_rules_choiceWorth a_rules_placeWorth a_rules_strength a_rules_wheel a_games a_standing a_reader a_tree a_course a_sheets v_textFault v_readFault v_rules_sides v_rules_kind v_rules_rounds c_rules_balls c_rules_choiceWorth c_rules_placeWorth c_rules_strength c_rules_wheel) H := by rw [hH]; exact hP
  have hS : va_S A s.heap H locs := by rw [hH, hlo]; exact hS
  suffices hw : W p l e rmX8_rule s m av below meth c H locs 0 0 Q (F0 m 0 ls []) by rw [hH, hlo] at hw; exact hw
  refine lv_iload_n hx hb dX8_rule_0 rfl (lv_at hl 1 rfl) ?_
  refine lv_if_ne (tgt := 12) hx hb dX8_rule_1 (by decide) (fun c1 => ?_) (fun c1 => ?_)
  · have hf := pif_f c1 hf
    refine lv_iload_n hx hb dX8_rule_12 rfl (lv_at hl 1 rfl) ?_
    refine lv_iconst (v := 1) hx hb dX8_rule_13 (by decide) ?_
    refine lv_icmp_ne (tgt := 25) hx hb dX8_rule_14 (by decide) (fun c14 => ?_) (fun c14 => ?_)
    · have hf := pif_f c14 hf
      refine lv_iload_n hx hb dX8_rule_25 rfl (lv_at hl 1 rfl) ?_
      refine lv_bipush (v := 10) hx hb dX8_rule_26 (by decide) ?_
      refine lv_icmp_lt (tgt := 51) hx hb dX8_rule_28 (by decide) (fun c28 => ?_) (fun c28 => ?_)
      · have hf := pif_t c28 hf
        exact hB51 H locs ls hf hP hD hS (lv_sub hl [] rfl)
      · have hf := pif_f c28 hf
        refine lv_iload_n hx hb dX8_rule_31 rfl (lv_at hl 1 rfl) ?_
        refine lv_bipush (v := 59) hx hb dX8_rule_32 (by decide) ?_
        refine lv_icmp_gt (tgt := 51) hx hb dX8_rule_34 (by decide) (fun c34 => ?_) (fun c34 => ?_)
        · have hf := pif_t c34 hf
          exact hB51 H locs ls hf hP hD hS (lv_sub hl [] rfl)
        · have hf := pif_f c34 hf
          refine lv_iload_n hx hb dX8_rule_37 rfl (lv_at hl 1 rfl) ?_
          refine lv_bipush (v := 10) hx hb dX8_rule_38 (by decide) ?_
          refine lv_irem hx hb dX8_rule_40 (by decide) ?_
          refine lv_aload_n hx hb dX8_rule_41 rfl (lv_at hl 0 rfl) ?_
          refine va_get (D := D) (ci := 8) (v := .ref a_rules) (C := RX8) (T := TX8) (N := 9) hx hb hL inlX8 hown hK.1 hP 0 rfl rfl 0 (by decide) w0 (fun _ h9 => h9) rfl dX8_rule_42 ?_
          refine va_get (D := D) (ci := 2) (v := .int v_rules_sides) (C := RX2) (T := TX2) (N := 8) hx hb hL inlX2 hown hK.1 hP 1 rfl rfl 5 (by decide) w1 (fun _ h9 => h9) rfl dX8_rule_45 ?_
          refine lv_icmp_lt (tgt := 53) hx hb dX8_rule_48 (by decide) (fun c48 => ?_) (fun c48 => ?_)
          · have hf := pif_t c48 hf
            refine lv_iload_n hx hb dX8_rule_53 rfl (lv_at hl 1 rfl) ?_
            refine lv_bipush (v := 10) hx hb dX8_rule_54 (by decide) ?_
            refine lv_irem hx hb dX8_rule_56 (by decide) ?_
            refine lv_istore_n (lv' := [(2, .int (x1 - x1 / 10 * 10)), (0, .ref h0), (1, .int x1)]) hx hb dX8_rule_57 rfl hl (by decide) rfl (fun ls hl => ?_)
            refine lv_iload_n hx hb dX8_rule_58 rfl (lv_at hl 2 rfl) ?_
            refine lv_bipush (v := 10) hx hb dX8_rule_59 (by decide) ?_
            refine lv_idiv hx hb dX8_rule_61 (by decide) ?_
            rcases Decidable.em ((x1 / 10) = 1) with z62_0 | z62_0
            · have hf := pif_t z62_0 hf
              refine lv_tableIn (tgt := 92) hx hb dX8_rule_62 (by rw [z62_0]; decide) (by rw [z62_0]; decide) (by rw [z62_0]; try rfl) (by decide) ?_
              refine lv_aload_n hx hb dX8_rule_92 rfl (lv_at hl 1 rfl) ?_
              refine va_get (D := D) (ci := 8) (v := .ref a_rules) (C := RX8) (T := TX8) (N := 9) hx hb hL inlX8 hown hK.1 hP 0 rfl rfl 0 (by decide) w0 (fun _ h9 => h9) rfl dX8_rule_93 ?_
              refine va_get (D := D) (ci := 2) (v := .ref a_rules_strength) (C := RX2) (T := TX2) (N := 8) hx hb hL inlX2 hown hK.1 hP 1 rfl rfl 0 (by decide) w2 (fun _ h9 => h9) rfl dX8_rule_96 ?_
              refine lv_iload_n hx hb dX8_rule_99 rfl (lv_at hl 0 rfl) ?_
              obtain ⟨h100, hf⟩ := pg_some hf
              refine va_iald hx hb hK.1 hP 5 0 rfl rfl h100 dX8_rule_100 ?_
              exact ret_i (q := q) (g := fun q => q) (wp := fun q => (wdX8_rule cyI cyJ cyB cyS h0 a_rules a_rules_balls a_rules_choiceWorth a_rules_placeWorth a_rules_strength a_rules_wheel a_games a_standing a_reader a_tree a_course a_sheets v_textFault v_readFault v_rules_sides v_rules_kind v_rules_rounds c_rules_balls c_rules_choiceWorth c_rules_placeWorth c_rules_strength c_rules_wheel)) hQ hf hx hb hr hlocks hP hD hS dX8_rule_101 rfl
            · have hf := pif_f z62_0 hf
              rcases Decidable.em ((x1 / 10) = 2) with z62_1 | z62_1
              · have hf := pif_t z62_1 hf
                refine lv_tableIn (tgt := 102) hx hb dX8_rule_62 (by rw [z62_1]; decide) (by rw [z62_1]; decide) (by rw [z62_1]; try rfl) (by decide) ?_
                refine lv_aload_n hx hb dX8_rule_102 rfl (lv_at hl 1 rfl) ?_
                refine va_get (D := D) (ci := 8) (v := .ref a_rules) (C := RX8) (T := TX8) (N := 9) hx hb hL inlX8 hown hK.1 hP 0 rfl rfl 0 (by decide) w0 (fun _ h9 => h9) rfl dX8_rule_103 ?_
                refine va_get (D := D) (ci := 2) (v := .ref a_rules_placeWorth) (C := RX2) (T := TX2) (N := 8) hx hb hL inlX2 hown hK.1 hP 1 rfl rfl 1 (by decide) w3 (fun _ h9 => h9) rfl dX8_rule_106 ?_
                refine lv_iload_n hx hb dX8_rule_109 rfl (lv_at hl 0 rfl) ?_
                obtain ⟨h110, hf⟩ := pg_some hf
                refine va_iald hx hb hK.1 hP 4 0 rfl rfl h110 dX8_rule_110 ?_
                exact ret_i (q := q) (g := fun q => q) (wp := fun q => (wdX8_rule cyI cyJ cyB cyS h0 a_rules a_rules_balls a_rules_choiceWorth a_rules_placeWorth a_rules_strength a_rules_wheel a_games a_standing a_reader a_tree a_course a_sheets v_textFault v_readFault v_rules_sides v_rules_kind v_rules_rounds c_rules_balls c_rules_choiceWorth c_rules_placeWorth c_rules_strength c_rules_wheel)) hQ hf hx hb hr hlocks hP hD hS dX8_rule_111 rfl
              · have hf := pif_f z62_1 hf
                rcases Decidable.em ((x1 / 10) = 3) with z62_2 | z62_2
                · have hf := pif_t z62_2 hf
                  refine lv_tableIn (tgt := 112) hx hb dX8_rule_62 (by rw [z62_2]; decide) (by rw [z62_2]; decide) (by rw [z62_2]; try rfl) (by decide) ?_
                  refine lv_aload_n hx hb dX8_rule_112 rfl (lv_at hl 1 rfl) ?_
                  refine va_get (D := D) (ci := 8) (v := .ref a_rules) (C := RX8) (T := TX8) (N := 9) hx hb hL inlX8 hown hK.1 hP 0 rfl rfl 0 (by decide) w0 (fun _ h9 => h9) rfl dX8_rule_113 ?_
                  refine va_get (D := D) (ci := 2) (v := .ref a_rules_choiceWorth) (C := RX2) (T := TX2) (N := 8) hx hb hL inlX2 hown hK.1 hP 1 rfl rfl 2 (by decide) w4 (fun _ h9 => h9) rfl dX8_rule_116 ?_
                  refine lv_iload_n hx hb dX8_rule_119 rfl (lv_at hl 0 rfl) ?_
                  obtain ⟨h120, hf⟩ := pg_some hf
                  refine va_iald hx hb hK.1 hP 3 0 rfl rfl h120 dX8_rule_120 ?_
                  exact ret_i (q := q) (g := fun q => q) (wp := fun q => (wdX8_rule cyI cyJ cyB cyS h0 a_rules a_rules_balls a_rules_choiceWorth a_rules_placeWorth a_rules_strength a_rules_wheel a_games a_standing a_reader a_tree a_course a_sheets v_textFault v_readFault v_rules_sides v_rules_kind v_rules_rounds c_rules_balls c_rules_choiceWorth c_rules_placeWorth c_rules_strength c_rules_wheel)) hQ hf hx hb hr hlocks hP hD hS dX8_rule_121 rfl
                · have hf := pif_f z62_2 hf
                  rcases Decidable.em ((x1 / 10) = 4) with z62_3 | z62_3
                  · have hf := pif_t z62_3 hf
                    refine lv_tableIn (tgt := 122) hx hb dX8_rule_62 (by rw [z62_3]; decide) (by rw [z62_3]; decide) (by rw [z62_3]; try rfl) (by decide) ?_
                    refine lv_aload_n hx hb dX8_rule_122 rfl (lv_at hl 1 rfl) ?_
                    refine va_get (D := D) (ci := 8) (v := .ref a_rules) (C := RX8) (T := TX8) (N := 9) hx hb hL inlX8 hown hK.1 hP 0 rfl rfl 0 (by decide) w0 (fun _ h9 => h9) rfl dX8_rule_123 ?_
                    refine va_get (D := D) (ci := 2) (v := .ref a_rules_balls) (C := RX2) (T := TX2) (N := 8) hx hb hL inlX2 hown hK.1 hP 1 rfl rfl 3 (by decide) w5 (fun _ h9 => h9) rfl dX8_rule_126 ?_
                    refine lv_iload_n hx hb dX8_rule_129 rfl (lv_at hl 0 rfl) ?_
                    obtain ⟨h130, hf⟩ := pg_some hf
                    refine va_iald hx hb hK.1 hP 2 0 rfl rfl h130 dX8_rule_130 ?_
                    exact ret_i (q := q) (g := fun q => q) (wp := fun q => (wdX8_rule cyI cyJ cyB cyS h0 a_rules a_rules_balls a_rules_choiceWorth a_rules_placeWorth a_rules_strength a_rules_wheel a_games a_standing a_reader a_tree a_course a_sheets v_textFault v_readFault v_rules_sides v_rules_kind v_rules_rounds c_rules_balls c_rules_choiceWorth c_rules_placeWorth c_rules_strength c_rules_wheel)) hQ hf hx hb hr hlocks hP hD hS dX8_rule_131 rfl
                  · have hf := pif_f z62_3 hf
                    refine lv_tableOut (tgt := 132) hx hb dX8_rule_62 (by have y0 := lv_neT (k := 1) (a := 1) z62_0 rfl; have y1 := lv_neT (k := 2) (a := 2) z62_1 rfl; have y2 := lv_neT (k := 3) (a := 3) z62_2 rfl; have y3 := lv_neT (k := 4) (a := 4) z62_3 rfl; omega) (by decide) ?_
                    refine lv_aload_n hx hb dX8_rule_132 rfl (lv_at hl 1 rfl) ?_
                    refine va_get (D := D) (ci := 8) (v := .ref a_rules) (C := RX8) (T := TX8) (N := 9) hx hb hL inlX8 hown hK.1 hP 0 rfl rfl 0 (by decide) w0 (fun _ h9 => h9) rfl dX8_rule_133 ?_
                    refine va_get (D := D) (ci := 2) (v := .ref a_rules_wheel) (C := RX2) (T := TX2) (N := 8) hx hb hL inlX2 hown hK.1 hP 1 rfl rfl 4 (by decide) w6 (fun _ h9 => h9) rfl dX8_rule_136 ?_
                    refine lv_iload_n hx hb dX8_rule_139 rfl (lv_at hl 0 rfl) ?_
                    obtain ⟨h140, hf⟩ := pg_some hf
                    refine va_iald hx hb hK.1 hP 6 0 rfl rfl h140 dX8_rule_140 ?_
                    exact ret_i (q := q) (g := fun q => q) (wp := fun q => (wdX8_rule cyI cyJ cyB cyS h0 a_rules a_rules_balls a_rules_choiceWorth a_rules_placeWorth a_rules_strength a_rules_wheel a_games a_standing a_reader a_tree a_course a_sheets v_textFault v_readFault v_rules_sides v_rules_kind v_rules_rounds c_rules_balls c_rules_choiceWorth c_rules_placeWorth c_rules_strength c_rules_wheel)) hQ hf hx hb hr hlocks hP hD hS dX8_rule_141 rfl
          · have hf := pif_f c48 hf
            exact hB51 H locs ls hf hP hD hS (lv_sub hl [] rfl)
    · have hf := pif_t c14 hf
      refine lv_aload_n hx hb dX8_rule_17 rfl (lv_at hl 0 rfl) ?_
      refine va_get (D := D) (ci := 8) (v := .ref a_rules) (C := RX8) (T := TX8) (N := 9) hx hb hL inlX8 hown hK.1 hP 0 rfl rfl 0 (by decide) w0 (fun _ h9 => h9) rfl dX8_rule_18 ?_
      refine va_get (D := D) (ci := 2) (v := .int v_rules_kind) (C := RX2) (T := TX2) (N := 8) hx hb hL inlX2 hown hK.1 hP 1 rfl rfl 6 (by decide) w7 (fun _ h9 => h9) rfl dX8_rule_21 ?_
      exact ret_i (q := q) (g := fun q => q) (wp := fun q => (wdX8_rule cyI cyJ cyB cyS h0 a_rules a_rules_balls a_rules_choiceWorth a_rules_placeWorth a_rules_strength a_rules_wheel a_games a_standing a_reader a_tree a_course a_sheets v_textFault v_readFault v_rules_sides v_rules_kind v_rules_rounds c_rules_balls c_rules_choiceWorth c_rules_placeWorth c_rules_strength c_rules_wheel)) hQ hf hx hb hr hlocks hP hD hS dX8_rule_24 rfl
  · have hf := pif_t c1 hf
    refine lv_aload_n hx hb dX8_rule_4 rfl (lv_at hl 0 rfl) ?_
    refine va_get (D := D) (ci := 8) (v := .ref a_rules) (C := RX8) (T := TX8) (N := 9) hx hb hL inlX8 hown hK.1 hP 0 rfl rfl 0 (by decide) w0 (fun _ h9 => h9) rfl dX8_rule_5 ?_
    refine va_get (D := D) (ci := 2) (v := .int v_rules_sides) (C := RX2) (T := TX2) (N := 8) hx hb hL inlX2 hown hK.1 hP 1 rfl rfl 5 (by decide) w1 (fun _ h9 => h9) rfl dX8_rule_8 ?_
    exact ret_i (q := q) (g := fun q => q) (wp := fun q => (wdX8_rule cyI cyJ cyB cyS h0 a_rules a_rules_balls a_rules_choiceWorth a_rules_placeWorth a_rules_strength a_rules_wheel a_games a_standing a_reader a_tree a_course a_sheets v_textFault v_readFault v_rules_sides v_rules_kind v_rules_rounds c_rules_balls c_rules_choiceWorth c_rules_placeWorth c_rules_strength c_rules_wheel)) hQ hf hx hb hr hlocks hP hD hS dX8_rule_11 rfl
def fX8_isSide_20 (N : Nat) (v_rules_sides : Int32) (x1 : Int32) (s0 : Int32) : Option (Int32) := pg (isB s0) (some s0)
def fX8_isSide_19 (N : Nat) (v_rules_sides : Int32) (x1 : Int32) : Option (Int32) := fX8_isSide_20 N v_rules_sides x1 0
def fX8_isSide (N : Nat) (v_rules_sides : Int32) (x1 : Int32) : Option (Int32) := pif (x1 < 0) (fX8_isSide_19 N v_rules_sides x1) (pif (v_rules_sides ≤ x1) (fX8_isSide_19 N v_rules_sides x1) (fX8_isSide_20 N v_rules_sides x1 1))
def wdX8_isSide (cyI cyJ cyB cyS : ClassId) (h0 : Nat) (a_rules : Nat) (a_games : Nat) (a_standing : Nat) (a_reader : Nat) (a_tree : Nat) (a_course : Nat) (a_sheets : Nat) (a_rules_strength : Nat) (a_rules_placeWorth : Nat) (a_rules_choiceWorth : Nat) (a_rules_balls : Nat) (a_rules_wheel : Nat) (v_textFault : Int32) (v_readFault : Int32) (v_rules_sides : Int32) (v_rules_kind : Int32) (v_rules_rounds : Int32) : va_W := [(h0, .inr (8, [.ref a_rules, .ref a_games, .ref a_standing, .ref a_reader, .ref a_tree, .ref a_course, .ref a_sheets, .int v_textFault, .int v_readFault])), (a_rules, .inr (2, [.ref a_rules_strength, .ref a_rules_placeWorth, .ref a_rules_choiceWorth, .ref a_rules_balls, .ref a_rules_wheel, .int v_rules_sides, .int v_rules_kind, .int v_rules_rounds]))]
abbrev rmX8_isSide : Room := { frames := 0, cells := 0, slots := 0, locals := 0 }
set_option maxHeartbeats 40000000 in
set_option maxRecDepth 100000 in
theorem mX8_isSide (l : Launch) (D : va_G) (cyI cyJ cyB cyS : ClassId) (N : Nat) (sz : Nat) (h0 : Nat) (a_rules : Nat) (a_games : Nat) (a_standing : Nat) (a_reader : Nat) (a_tree : Nat) (a_course : Nat) (a_sheets : Nat) (a_rules_strength : Nat) (a_rules_placeWorth : Nat) (a_rules_choiceWorth : Nat) (a_rules_balls : Nat) (a_rules_wheel : Nat) (v_textFault : Int32) (v_readFault : Int32) (v_rules_sides : Int32) (v_rules_kind : Int32) (v_rules_rounds : Int32) (x1 : Int32) (q : Int32) (hf : fX8_isSide N v_rules_sides x1 = some q) : Met l yX8_isSide (wS yX8_isSide cX8_isSide 2 (some .boolean)) rmX8_isSide (va_Pc [.ref h0, .int x1] (PP D cyI cyJ cyB cyS (wdX8_isSide cyI cyJ cyB cyS h0 a_rules a_games a_standing a_reader a_tree a_course a_sheets a_rules_strength a_rules_placeWorth a_rules_choiceWorth a_rules_balls a_rules_wheel v_textFault v_readFault v_rules_sides v_rules_kind v_rules_rounds) sz)) (QI q D (wdX8_isSide cyI cyJ cyB cyS h0 a_rules a_games a_standing a_reader a_tree a_course a_sheets a_rules_strength a_rules_placeWorth a_rules_choiceWorth a_rules_balls a_rules_wheel v_textFault v_readFault v_rules_sides v_rules_kind v_rules_rounds) (va_A (wdX8_isSide cyI cyJ cyB cyS h0 a_rules a_games a_standing a_reader a_tree a_course a_sheets a_rules_strength a_rules_placeWorth a_rules_choiceWorth a_rules_balls a_rules_wheel v_textFault v_readFault v_rules_sides v_rules_kind v_rules_rounds) sz)) 0 0 (va_A (wdX8_isSide cyI cyJ cyB cyS h0 a_rules a_games a_standing a_reader a_tree a_course a_sheets a_rules_strength a_rules_placeWorth a_rules_choiceWorth a_rules_balls a_rules_wheel v_textFault v_readFault v_rules_sides v_rules_kind v_rules_rounds) sz) := by
  refine Met.ofW (cc := cX8_isSide) (maxL := 2) (ret := (some .boolean)) (by decide) rfl ?_
  intro p e s m args below meth c s₁ B hml hv
  obtain ⟨rfl, hsz, hP, hK, hD0⟩ := hv
  have hx := B.exec
  have hb := B.bytes
  have hr := B.returns
  have hts := atoms_spec (ws := (wS yX8_isSide cX8_isSide 2 (some .boolean))) B.pre
  have hown : s.vm.findClass RX8 = some m.cls := findClass_of_methodNamed B.named
  have hlocks := B.notSynchronized
  subst hsz
  have hD := hD0.self (sz := s.heap.size)
  refine w_nameQ (fun Q hQ => ?_)
  have hl := lv_entry ([.ref h0, .int x1] : List Value) (n := 2) (Nat.le_of_ble_eq_true rfl)
  rw [lg_entry_eq]
  generalize (lg_sl ([.ref h0, .int x1] : List Value) ++ List.replicate (2 - (lg_sl ([.ref h0, .int x1] : List Value)).length) Slot.unset).toArray = ls at hl ⊢
  have hl : lv_has ls 2 [(0, .ref h0), (1, .int x1)] := hl
  generalize hAe : va_A (wdX8_isSide cyI cyJ cyB cyS h0 a_rules a_games a_standing a_reader a_tree a_course a_sheets a_rules_strength a_rules_placeWorth a_rules_choiceWorth a_rules_balls a_rules_wheel v_textFault v_readFault v_rules_sides v_rules_kind v_rules_rounds) s.heap.size = A at hD hQ
  have hA : ∀ q : Nat, s.heap.size ≤ q → A q := fun q h => by rw [← hAe]; exact Or.inr h
  have hS : va_S A s.heap s.heap [] := va_S.rf
  generalize ([.ref h0, .int x1] : List Value).toArray = av at hts hQ ⊢
  have hL : ∀ w ∈ wsL_law, w.before av s = true := fun w h => hts w (List.mem_cons_of_mem _ h)
  have w0 := hL (.fieldLink RX8 10 "LosingLeague" "rules" "LLosingLeague$Rules;") (hR1 16 rfl)
  have w1 := hL (.fieldLink RX8 101 "LosingLeague$Rules" "sides" "I") (hR8 20 rfl)
  have hB20 : ∀ (s0 : Int32) (H : Heap) (locs : List Loc) (ls : Array Slot), fX8_isSide_20 N v_rules_sides x1 s0 = some q → va_P D vwCl (wdX8_isSide cyI cyJ cyB cyS h0 a_rules a_games a_standing a_reader a_tree a_course a_sheets a_rules_strength a_rules_placeWorth a_rules_choiceWorth a_rules_balls a_rules_wheel v_textFault v_readFault v_rules_sides v_rules_kind v_rules_rounds) H → va_D A (wdX8_isSide cyI cyJ cyB cyS h0 a_rules a_games a_standing a_reader a_tree a_course a_sheets a_rules_strength a_rules_placeWorth a_rules_choiceWorth a_rules_balls a_rules_wheel v_textFault v_readFault v_rules_sides v_rules_kind v_rules_rounds) → va_S A s.heap H locs → lv_has ls 2 [] → W p l e rmX8_isSide s m av below meth c H locs 0 0 Q (F0 m 20 ls [.int s0]) := by
    intro s0 H locs ls hf hP hD hS hl
    unfold fX8_isSide_20 at hf
    obtain ⟨n20, hf⟩ := pg_some hf
    exact ret_z (q := q) (g := fun q => q) (wp := fun q => (wdX8_isSide cyI cyJ cyB cyS h0 a_rules a_games a_standing a_reader a_tree a_course a_sheets a_rules_strength a_rules_placeWorth a_rules_choiceWorth a_rules_balls a_rules_wheel v_textFault v_readFault v_rules_sides v_rules_kind v_rules_rounds)) hQ hf hx hb hr hlocks (isB_n n20) hP hD hS dX8_isSide_20 rfl
  have hB19 : ∀ (H : Heap) (locs : List Loc) (ls : Array Slot), fX8_isSide_19 N v_rules_sides x1 = some q → va_P D vwCl (wdX8_isSide cyI cyJ cyB cyS h0 a_rules a_games a_standing a_reader a_tree a_course a_sheets a_rules_strength a_rules_placeWorth a_rules_choiceWorth a_rules_balls a_rules_wheel v_textFault v_readFault v_rules_sides v_rules_kind v_rules_rounds) H → va_D A (wdX8_isSide cyI cyJ cyB cyS h0 a_rules a_games a_standing a_reader a_tree a_course a_sheets a_rules_strength a_rules_placeWorth a_rules_choiceWorth a_rules_balls a_rules_wheel v_textFault v_readFault v_rules_sides v_rules_kind v_rules_rounds) → va_S A s.heap H locs → lv_has ls 2 [] → W p l e rmX8_isSide s m av below meth c H locs 0 0 Q (F0 m 19 ls []) := by
    intro  H locs ls hf hP hD hS hl
    unfold fX8_isSide_19 at hf
    refine lv_iconst (v := 0) hx hb dX8_isSide_19 (by decide) ?_
    exact hB20 0 H locs ls hf hP hD hS (lv_sub hl [] rfl)
  unfold fX8_isSide at hf
  obtain ⟨H, hH⟩ : ∃ H : Heap, H = s.heap := ⟨_, rfl⟩
  obtain ⟨locs, hlo⟩ : ∃ locs : List Loc, locs = [] := ⟨_, rfl⟩
  have hP : va_P D vwCl (wdX8_isSide cyI cyJ cyB cyS h0 a_rules a_games a_standing a_reader a_tree a_course a_sheets a_rules_strength a_rules_placeWorth a_rules_choiceWorth a_rules_balls a_rules_wheel v_textFault v_readFault v_rules_sides v_rules_kind v_rules_rounds) H := by rw [hH]; exact hP
  have hS : va_S A s.heap H locs := by rw [hH, hlo]; exact hS
  suffices hw : W p l e rmX8_isSide s m av below meth c H locs 0 0 Q (F0 m 0 ls []) by rw [hH, hlo] at hw; exact hw
  refine lv_iload_n hx hb dX8_isSide_0 rfl (lv_at hl 1 rfl) ?_
  refine lv_if_lt (tgt := 19) hx hb dX8_isSide_1 (by decide) (fun c1 => ?_) (fun c1 => ?_)
  · have hf := pif_t c1 hf
    exact hB19 H locs ls hf hP hD hS (lv_sub hl [] rfl)
  · have hf := pif_f c1 hf
    refine lv_iload_n hx hb dX8_isSide_4 rfl (lv_at hl 1 rfl) ?_
    refine lv_aload_n hx hb dX8_isSide_5 rfl (lv_at hl 0 rfl) ?_
    refine va_get (D := D) (ci := 8) (v := .ref a_rules) (C := RX8) (T := TX8) (N := 9) hx hb hL inlX8 hown hK.1 hP 0 rfl rfl 0 (by decide) w0 (fun _ h9 => h9) rfl dX8_isSide_6 ?_
    refine va_get (D := D) (ci := 2) (v := .int v_rules_sides) (C := RX2) (T := TX2) (N := 8) hx hb hL inlX2 hown hK.1 hP 1 rfl rfl 5 (by decide) w1 (fun _ h9 => h9) rfl dX8_isSide_9 ?_
    refine lv_icmp_ge (tgt := 19) hx hb dX8_isSide_12 (by decide) (fun c12 => ?_) (fun c12 => ?_)
    · have hf := pif_t c12 hf
      exact hB19 H locs ls hf hP hD hS (lv_sub hl [] rfl)
    · have hf := pif_f c12 hf
      refine lv_iconst (v := 1) hx hb dX8_isSide_15 (by decide) ?_
      refine lv_goto (tgt := 20) hx hb dX8_isSide_16 (by decide) ?_
      exact hB20 1 H locs ls hf hP hD hS (lv_sub hl [] rfl)
def fX8_game_21 (N : Nat) (v_rules_sides : Int32) (x1 : Int32) (x2 : Int32) (v_games_size : Int32) (c_games_ending : Nat → Int32) (c_games_first : Nat → Int32) (c_games_second : Nat → Int32) : Option (Int32 × Int32 × (Nat → Int32) × (Nat → Int32) × (Nat → Int32)) := some ((-1), v_games_size, c_games_ending, c_games_first, c_games_second)
def fX8_game (N : Nat) (v_games_size : Int32) (c_games_ending : Nat → Int32) (c_games_first : Nat → Int32) (c_games_second : Nat → Int32) (v_rules_sides : Int32) (x1 : Int32) (x2 : Int32) : Option (Int32 × Int32 × (Nat → Int32) × (Nat → Int32) × (Nat → Int32)) := pb (fX8_isSide N v_rules_sides x1) (fun q2 => pif (q2 = 0) (fX8_game_21 N v_rules_sides x1 x2 v_games_size c_games_ending c_games_first c_games_second) (pb (fX8_isSide N v_rules_sides x2) (fun q10 => pif (q10 = 0) (fX8_game_21 N v_rules_sides x1 x2 v_games_size c_games_ending c_games_first c_games_second) (pif (x1 = x2) (fX8_game_21 N v_rules_sides x1 x2 v_games_size c_games_ending c_games_first c_games_second) (pif (v_games_size < 30) (pb (fX0_add N v_games_size c_games_ending c_games_first c_games_second x1 x2) (fun q44 => some (q44.1, q44.2.1, q44.2.2.1, q44.2.2.2.1, q44.2.2.2.2))) (some ((-3), v_games_size, c_games_ending, c_games_first, c_games_second)))))))
def wdX8_game (cyI cyJ cyB cyS : ClassId) (h0 : Nat) (a_games : Nat) (a_games_ending : Nat) (a_games_first : Nat) (a_games_second : Nat) (a_rules : Nat) (a_standing : Nat) (a_reader : Nat) (a_tree : Nat) (a_course : Nat) (a_sheets : Nat) (a_rules_strength : Nat) (a_rules_placeWorth : Nat) (a_rules_choiceWorth : Nat) (a_rules_balls : Nat) (a_rules_wheel : Nat) (v_textFault : Int32) (v_readFault : Int32) (v_games_size : Int32) (c_games_ending : Nat → Int32) (c_games_first : Nat → Int32) (c_games_second : Nat → Int32) (v_rules_sides : Int32) (v_rules_kind : Int32) (v_rules_rounds : Int32) : va_W := [(h0, .inr (8, [.ref a_rules, .ref a_games, .ref a_standing, .ref a_reader, .ref a_tree, .ref a_course, .ref a_sheets, .int v_textFault, .int v_readFault])), (a_games, .inr (0, [.ref a_games_first, .ref a_games_second, .ref a_games_ending, .int v_games_size])), (a_games_ending, .inl (cyI, 30, .inl c_games_ending)), (a_games_first, .inl (cyI, 30, .inl c_games_first)), (a_games_second, .inl (cyI, 30, .inl c_games_second)), (a_rules, .inr (2, [.ref a_rules_strength, .ref a_rules_placeWorth, .ref a_rules_choiceWorth, .ref a_rules_balls, .ref a_rules_wheel, .int v_rules_sides, .int v_rules_kind, .int v_rules_rounds]))]
abbrev rmX8_game : Room := { frames := 1, cells := 0, slots := 0, locals := 22 }
set_option maxHeartbeats 40000000 in
set_option maxRecDepth 100000 in
theorem mX8_game (l : Launch) (D : va_G) (cyI cyJ cyB cyS : ClassId) (N : Nat) (sz : Nat) (h0 : Nat) (a_games : Nat) (a_games_ending : Nat) (a_games_first : Nat) (a_games_second : Nat) (a_rules : Nat) (a_standing : Nat) (a_reader : Nat) (a_tree : Nat) (a_course : Nat) (a_sheets : Nat) (a_rules_strength : Nat) (a_rules_placeWorth : Nat) (a_rules_choiceWorth : Nat) (a_rules_balls : Nat) (a_rules_wheel : Nat) (v_textFault : Int32) (v_readFault : Int32) (v_games_size : Int32) (c_games_ending : Nat → Int32) (c_games_first : Nat → Int32) (c_games_second : Nat → Int32) (v_rules_sides : Int32) (v_rules_kind : Int32) (v_rules_rounds : Int32) (x1 : Int32) (x2 : Int32) (q : Int32 × Int32 × (Nat → Int32) × (Nat → Int32) × (Nat → Int32)) (hf : fX8_game N v_games_size c_games_ending c_games_first c_games_second v_rules_sides x1 x2 = some q) : Met l yX8_game (wS yX8_game cX8_game 3 (some .int)) rmX8_game (va_Pc [.ref h0, .int x1, .int x2] (PP D cyI cyJ cyB cyS (wdX8_game cyI cyJ cyB cyS h0 a_games a_games_ending a_games_first a_games_second a_rules a_standing a_reader a_tree a_course a_sheets a_rules_strength a_rules_placeWorth a_rules_choiceWorth a_rules_balls a_rules_wheel v_textFault v_readFault v_games_size c_games_ending c_games_first c_games_second v_rules_sides v_rules_kind v_rules_rounds) sz)) (QI q.1 D (wdX8_game cyI cyJ cyB cyS h0 a_games a_games_ending a_games_first a_games_second a_rules a_standing a_reader a_tree a_course a_sheets a_rules_strength a_rules_placeWorth a_rules_choiceWorth a_rules_balls a_rules_wheel v_textFault v_readFault q.2.1 q.2.2.1 q.2.2.2.1 q.2.2.2.2 v_rules_sides v_rules_kind v_rules_rounds) (va_A (wdX8_game cyI cyJ cyB cyS h0 a_games a_games_ending a_games_first a_games_second a_rules a_standing a_reader a_tree a_course a_sheets a_rules_strength a_rules_placeWorth a_rules_choiceWorth a_rules_balls a_rules_wheel v_textFault v_readFault v_games_size c_games_ending c_games_first c_games_second v_rules_sides v_rules_kind v_rules_rounds) sz)) 0 0 (va_A (wdX8_game cyI cyJ cyB cyS h0 a_games a_games_ending a_games_first a_games_second a_rules a_standing a_reader a_tree a_course a_sheets a_rules_strength a_rules_placeWorth a_rules_choiceWorth a_rules_balls a_rules_wheel v_textFault v_readFault v_games_size c_games_ending c_games_first c_games_second v_rules_sides v_rules_kind v_rules_rounds) sz) := by
  refine Met.ofW (cc := cX8_game) (maxL := 3) (ret := (some .int)) (by decide) rfl ?_
  intro p e s m args below meth c s₁ B hml hv
  obtain ⟨rfl, hsz, hP, hK, hD0⟩ := hv
  have hx := B.exec
  have hb := B.bytes
  have hr := B.returns
  have hts := atoms_spec (ws := (wS yX8_game cX8_game 3 (some .int))) B.pre
  have hown : s.vm.findClass RX8 = some m.cls := findClass_of_methodNamed B.named
  have hlocks := B.notSynchronized
  subst hsz
  have hD := hD0.self (sz := s.heap.size)
  refine w_nameQ (fun Q hQ => ?_)
  have hl := lv_entry ([.ref h0, .int x1, .int x2] : List Value) (n := 3) (Nat.le_of_ble_eq_true rfl)
  rw [lg_entry_eq]
  generalize (lg_sl ([.ref h0, .int x1, .int x2] : List Value) ++ List.replicate (3 - (lg_sl ([.ref h0, .int x1, .int x2] : List Value)).length) Slot.unset).toArray = ls at hl ⊢
  have hl : lv_has ls 3 [(0, .ref h0), (1, .int x1), (2, .int x2)] := hl
  generalize hAe : va_A (wdX8_game cyI cyJ cyB cyS h0 a_games a_games_ending a_games_first a_games_second a_rules a_standing a_reader a_tree a_course a_sheets a_rules_strength a_rules_placeWorth a_rules_choiceWorth a_rules_balls a_rules_wheel v_textFault v_readFault v_games_size c_games_ending c_games_first c_games_second v_rules_sides v_rules_kind v_rules_rounds) s.heap.size = A at hD hQ
  have hA : ∀ q : Nat, s.heap.size ≤ q → A q := fun q h => by rw [← hAe]; exact Or.inr h
  have hS : va_S A s.heap s.heap [] := va_S.rf
  generalize ([.ref h0, .int x1, .int x2] : List Value).toArray = av at hts hQ ⊢
  have hL : ∀ w ∈ wsL_law, w.before av s = true := fun w h => hts w (List.mem_cons_of_mem _ h)
  have w0 := hL (.fieldLink RX8 19 "LosingLeague" "games" "LLosingLeague$Games;") (hR1 20 rfl)
  have w1 := hL (.fieldLink RX8 95 "LosingLeague$Games" "size" "I") (hR8 18 rfl)
  have hB21 : ∀ (v_games_size : Int32) (c_games_ending : Nat → Int32) (c_games_first : Nat → Int32) (c_games_second : Nat → Int32) (H : Heap) (locs : List Loc) (ls : Array Slot), fX8_game_21 N v_rules_sides x1 x2 v_games_size c_games_ending c_games_first c_games_second = some q → va_P D vwCl (wdX8_game cyI cyJ cyB cyS h0 a_games a_games_ending a_games_first a_games_second a_rules a_standing a_reader a_tree a_course a_sheets a_rules_strength a_rules_placeWorth a_rules_choiceWorth a_rules_balls a_rules_wheel v_textFault v_readFault v_games_size c_games_ending c_games_first c_games_second v_rules_sides v_rules_kind v_rules_rounds) H → va_D A (wdX8_game cyI cyJ cyB cyS h0 a_games a_games_ending a_games_first a_games_second a_rules a_standing a_reader a_tree a_course a_sheets a_rules_strength a_rules_placeWorth a_rules_choiceWorth a_rules_balls a_rules_wheel v_textFault v_readFault v_games_size c_games_ending c_games_first c_games_second v_rules_sides v_rules_kind v_rules_rounds) → va_S A s.heap H locs → lv_has ls 3 [] → W p l e rmX8_game s m av below meth c H locs 0 0 Q (F0 m 21 ls []) := by
    intro v_games_size c_games_ending c_games_first c_games_second H locs ls hf hP hD hS hl
    unfold fX8_game_21 at hf
    refine lv_iconst (v := (-1)) hx hb dX8_game_21 (by decide) ?_
    exact ret_i (q := q) (g := fun q => q.1) (wp := fun q => (wdX8_game cyI cyJ cyB cyS h0 a_games a_games_ending a_games_first a_games_second a_rules a_standing a_reader a_tree a_course a_sheets a_rules_strength a_rules_placeWorth a_rules_choiceWorth a_rules_balls a_rules_wheel v_textFault v_readFault q.2.1 q.2.2.1 q.2.2.2.1 q.2.2.2.2 v_rules_sides v_rules_kind v_rules_rounds)) hQ hf hx hb hr hlocks hP hD hS dX8_game_22 rfl
  unfold fX8_game at hf
  obtain ⟨H, hH⟩ : ∃ H : Heap, H = s.heap := ⟨_, rfl⟩
  obtain ⟨locs, hlo⟩ : ∃ locs : List Loc, locs = [] := ⟨_, rfl⟩
  have hP : va_P D vwCl (wdX8_game cyI cyJ cyB cyS h0 a_games a_games_ending a_games_first a_games_second a_rules a_standing a_reader a_tree a_course a_sheets a_rules_strength a_rules_placeWorth a_rules_choiceWorth a_rules_balls a_rules_wheel v_textFault v_readFault v_games_size c_games_ending c_games_first c_games_second v_rules_sides v_rules_kind v_rules_rounds) H := by rw [hH]; exact hP
  have hS : va_S A s.heap H locs := by rw [hH, hlo]; exact hS
  suffices hw : W p l e rmX8_game s m av below meth c H locs 0 0 Q (F0 m 0 ls []) by rw [hH, hlo] at hw; exact hw
  refine lv_aload_n hx hb dX8_game_0 rfl (lv_at hl 0 rfl) ?_
  refine lv_iload_n hx hb dX8_game_1 rfl (lv_at hl 1 rfl) ?_
  obtain ⟨q2, e2, hf⟩ := pb_some hf
  refine cs_i (wc := (wdX8_isSide cyI cyJ cyB cyS h0 a_rules a_games a_standing a_reader a_tree a_course a_sheets a_rules_strength a_rules_placeWorth a_rules_choiceWorth a_rules_balls a_rules_wheel v_textFault v_readFault v_rules_sides v_rules_kind v_rules_rounds)) (w1 := (wdX8_isSide cyI cyJ cyB cyS h0 a_rules a_games a_standing a_reader a_tree a_course a_sheets a_rules_strength a_rules_placeWorth a_rules_choiceWorth a_rules_balls a_rules_wheel v_textFault v_readFault v_rules_sides v_rules_kind v_rules_rounds)) hP hD hS hA [0, 5] rfl rfl rfl (va_runV (C := RX8) (As := [.int x1]) (rest := []) ⟨hx, hb, hml, hown, hL⟩ (mX8_isSide l D cyI cyJ cyB cyS N H.size h0 a_rules a_games a_standing a_reader a_tree a_course a_sheets a_rules_strength a_rules_placeWorth a_rules_choiceWorth a_rules_balls a_rules_wheel v_textFault v_readFault v_rules_sides v_rules_kind v_rules_rounds x1 q2 e2) (cwV 1 hL (gV (hR19 23 rfl) (hR20 0 rfl) (hR20 1 rfl) (hR1 2 rfl) (hR20 2 rfl)) rfl rfl rfl (by decide +kernel) ⟨Nat.le_of_ble_eq_true rfl, Nat.le_of_ble_eq_true rfl⟩) (PP_preV (ci := 8) (q0 := 0) hP hD hK [0, 5] rfl rfl rfl rfl) rfl rfl hl.1 rfl (lv_room (Nat.le_of_ble_eq_true rfl)) dX8_game_2 ⟨Nat.le_of_ble_eq_true rfl, Nat.le_of_ble_eq_true rfl⟩) (fun H locs hP hD hS => ?_)
  have hP : va_P D vwCl (wdX8_game cyI cyJ cyB cyS h0 a_games a_games_ending a_games_first a_games_second a_rules a_standing a_reader a_tree a_course a_sheets a_rules_strength a_rules_placeWorth a_rules_choiceWorth a_rules_balls a_rules_wheel v_textFault v_readFault v_games_size c_games_ending c_games_first c_games_second v_rules_sides v_rules_kind v_rules_rounds) H := hP
  have hD : va_D A (wdX8_game cyI cyJ cyB cyS h0 a_games a_games_ending a_games_first a_games_second a_rules a_standing a_reader a_tree a_course a_sheets a_rules_strength a_rules_placeWorth a_rules_choiceWorth a_rules_balls a_rules_wheel v_textFault v_readFault v_games_size c_games_ending c_games_first c_games_second v_rules_sides v_rules_kind v_rules_rounds) := hD
  refine lv_if_eq (tgt := 21) hx hb dX8_game_5 (by decide) (fun c5 => ?_) (fun c5 => ?_)
  · have hf := pif_t c5 hf
    exact hB21 v_games_size c_games_ending c_games_first c_games_second H locs ls hf hP hD hS (lv_sub hl [] rfl)
  · have hf := pif_f c5 hf
    refine lv_aload_n hx hb dX8_game_8 rfl (lv_at hl 0 rfl) ?_
    refine lv_iload_n hx hb dX8_game_9 rfl (lv_at hl 2 rfl) ?_
    obtain ⟨q10, e10, hf⟩ := pb_some hf
    refine cs_i (wc := (wdX8_isSide cyI cyJ cyB cyS h0 a_rules a_games a_standing a_reader a_tree a_course a_sheets a_rules_strength a_rules_placeWorth a_rules_choiceWorth a_rules_balls a_rules_wheel v_textFault v_readFault v_rules_sides v_rules_kind v_rules_rounds)) (w1 := (wdX8_isSide cyI cyJ cyB cyS h0 a_rules a_games a_standing a_reader a_tree a_course a_sheets a_rules_strength a_rules_placeWorth a_rules_choiceWorth a_rules_balls a_rules_wheel v_textFault v_readFault v_rules_sides v_rules_kind v_rules_rounds)) hP hD hS hA [0, 5] rfl rfl rfl (va_runV (C := RX8) (As := [.int x2]) (rest := []) ⟨hx, hb, hml, hown, hL⟩ (mX8_isSide l D cyI cyJ cyB cyS N H.size h0 a_rules a_games a_standing a_reader a_tree a_course a_sheets a_rules_strength a_rules_placeWorth a_rules_choiceWorth a_rules_balls a_rules_wheel v_textFault v_readFault v_rules_sides v_rules_kind v_rules_rounds x2 q10 e10) (cwV 1 hL (gV (hR19 23 rfl) (hR20 0 rfl) (hR20 1 rfl) (hR1 2 rfl) (hR20 2 rfl)) rfl rfl rfl (by decide +kernel) ⟨Nat.le_of_ble_eq_true rfl, Nat.le_of_ble_eq_true rfl⟩) (PP_preV (ci := 8) (q0 := 0) hP hD hK [0, 5] rfl rfl rfl rfl) rfl rfl hl.1 rfl (lv_room (Nat.le_of_ble_eq_true rfl)) dX8_game_10 ⟨Nat.le_of_ble_eq_true rfl, Nat.le_of_ble_eq_true rfl⟩) (fun H locs hP hD hS => ?_)
    have hP : va_P D vwCl (wdX8_game cyI cyJ cyB cyS h0 a_games a_games_ending a_games_first a_games_second a_rules a_standing a_reader a_tree a_course a_sheets a_rules_strength a_rules_placeWorth a_rules_choiceWorth a_rules_balls a_rules_wheel v_textFault v_readFault v_games_size c_games_ending c_games_first c_games_second v_rules_sides v_rules_kind v_rules_rounds) H := hP
    have hD : va_D A (wdX8_game cyI cyJ cyB cyS h0 a_games a_games_ending a_games_first a_games_second a_rules a_standing a_reader a_tree a_course a_sheets a_rules_strength a_rules_placeWorth a_rules_choiceWorth a_rules_balls a_rules_wheel v_textFault v_readFault v_games_size c_games_ending c_games_first c_games_second v_rules_sides v_rules_kind v_rules_rounds) := hD
    refine lv_if_eq (tgt := 21) hx hb dX8_game_13 (by decide) (fun c13 => ?_) (fun c13 => ?_)
    · have hf := pif_t c13 hf
      exact hB21 v_games_size c_games_ending c_games_first c_games_second H locs ls hf hP hD hS (lv_sub hl [] rfl)
    · have hf := pif_f c13 hf
      refine lv_iload_n hx hb dX8_game_16 rfl (lv_at hl 1 rfl) ?_
      refine lv_iload_n hx hb dX8_game_17 rfl (lv_at hl 2 rfl) ?_
      refine lv_icmp_ne (tgt := 23) hx hb dX8_game_18 (by decide) (fun c18 => ?_) (fun c18 => ?_)
      · have hf := pif_f c18 hf
        refine lv_aload_n hx hb dX8_game_23 rfl (lv_at hl 0 rfl) ?_
        refine va_get (D := D) (ci := 8) (v := .ref a_games) (C := RX8) (T := TX8) (N := 9) hx hb hL inlX8 hown hK.1 hP 0 rfl rfl 1 (by decide) w0 (fun _ h9 => h9) rfl dX8_game_24 ?_
        refine va_get (D := D) (ci := 0) (v := .int v_games_size) (C := RX0) (T := TX0) (N := 4) hx hb hL inlX0 hown hK.1 hP 1 rfl rfl 3 (by decide) w1 (fun _ h9 => h9) rfl dX8_game_27 ?_
        refine lv_bipush (v := 30) hx hb dX8_game_30 (by decide) ?_
        refine lv_icmp_lt (tgt := 38) hx hb dX8_game_32 (by decide) (fun c32 => ?_) (fun c32 => ?_)
        · have hf := pif_t c32 hf
          refine lv_aload_n hx hb dX8_game_38 rfl (lv_at hl 0 rfl) ?_
          refine va_get (D := D) (ci := 8) (v := .ref a_games) (C := RX8) (T := TX8) (N := 9) hx hb hL inlX8 hown hK.1 hP 0 rfl rfl 1 (by decide) w0 (fun _ h9 => h9) rfl dX8_game_39 ?_
          refine lv_iload_n hx hb dX8_game_42 rfl (lv_at hl 1 rfl) ?_
          refine lv_iload_n hx hb dX8_game_43 rfl (lv_at hl 2 rfl) ?_
          obtain ⟨q44, e44, hf⟩ := pb_some hf
          refine cs_i (wc := (wdX0_add cyI cyJ cyB cyS a_games a_games_ending a_games_first a_games_second v_games_size c_games_ending c_games_first c_games_second)) (w1 := (wdX0_add cyI cyJ cyB cyS a_games a_games_ending a_games_first a_games_second q44.2.1 q44.2.2.1 q44.2.2.2.1 q44.2.2.2.2)) hP hD hS hA [1, 2, 3, 4] rfl rfl rfl (va_runV (C := RX0) (As := [.int x1, .int x2]) (rest := []) ⟨hx, hb, hml, hown, hL⟩ (mX0_add l D cyI cyJ cyB cyS N H.size a_games a_games_ending a_games_first a_games_second v_games_size c_games_ending c_games_first c_games_second x1 x2 q44 e44) (cwV 2 hL (gV (hR20 3 rfl) (hR16 1 rfl) (hR16 2 rfl) (hR1 19 rfl) (hR16 3 rfl)) rfl rfl rfl (by decide +kernel) ⟨Nat.le_of_ble_eq_true rfl, Nat.le_of_ble_eq_true rfl⟩) (PP_preV (ci := 0) (q0 := 1) hP hD hK [1, 2, 3, 4] rfl rfl rfl rfl) rfl rfl hl.1 rfl (lv_room (Nat.le_of_ble_eq_true rfl)) dX8_game_44 ⟨Nat.le_of_ble_eq_true rfl, Nat.le_of_ble_eq_true rfl⟩) (fun H locs hP hD hS => ?_)
          have hP : va_P D vwCl (wdX8_game cyI cyJ cyB cyS h0 a_games a_games_ending a_games_first a_games_second a_rules a_standing a_reader a_tree a_course a_sheets a_rules_strength a_rules_placeWorth a_rules_choiceWorth a_rules_balls a_rules_wheel v_textFault v_readFault q44.2.1 q44.2.2.1 q44.2.2.2.1 q44.2.2.2.2 v_rules_sides v_rules_kind v_rules_rounds) H := hP
          have hD : va_D A (wdX8_game cyI cyJ cyB cyS h0 a_games a_games_ending a_games_first a_games_second a_rules a_standing a_reader a_tree a_course a_sheets a_rules_strength a_rules_placeWorth a_rules_choiceWorth a_rules_balls a_rules_wheel v_textFault v_readFault q44.2.1 q44.2.2.1 q44.2.2.2.1 q44.2.2.2.2 v_rules_sides v_rules_kind v_rules_rounds) := hD
          exact ret_i (q := q) (g := fun q => q.1) (wp := fun q => (wdX8_game cyI cyJ cyB cyS h0 a_games a_games_ending a_games_first a_games_second a_rules a_standing a_reader a_tree a_course a_sheets a_rules_strength a_rules_placeWorth a_rules_choiceWorth a_rules_balls a_rules_wheel v_textFault v_readFault q.2.1 q.2.2.1 q.2.2.2.1 q.2.2.2.2 v_rules_sides v_rules_kind v_rules_rounds)) hQ hf hx hb hr hlocks hP hD hS dX8_game_47 rfl
        · have hf := pif_f c32 hf
          refine lv_bipush (v := (-3)) hx hb dX8_game_35 (by decide) ?_
          exact ret_i (q := q) (g := fun q => q.1) (wp := fun q => (wdX8_game cyI cyJ cyB cyS h0 a_games a_games_ending a_games_first a_games_second a_rules a_standing a_reader a_tree a_course a_sheets a_rules_strength a_rules_placeWorth a_rules_choiceWorth a_rules_balls a_rules_wheel v_textFault v_readFault q.2.1 q.2.2.1 q.2.2.2.1 q.2.2.2.2 v_rules_sides v_rules_kind v_rules_rounds)) hQ hf hx hb hr hlocks hP hD hS dX8_game_37 rfl
      · have hf := pif_t c18 hf
        exact hB21 v_games_size c_games_ending c_games_first c_games_second H locs ls hf hP hD hS (lv_sub hl [] rfl)
def fX8_of (N : Nat) (v_games_size : Int32) (c_games_ending : Nat → Int32) (c_games_first : Nat → Int32) (c_games_second : Nat → Int32) (c_rules_strength : Nat → Int32) (x1 : Int32) (x2 : Int32) : Option (Int32) := pb (fX0_has N v_games_size x1) (fun q5 => pif (q5 = 0) (some (-1)) (pg (inr x1 30) (pg (inr x1 30) (pif (x2 = 0) (some (c_games_first x1.toNatClampNeg)) (pif (x2 = 1) (some (c_games_second x1.toNatClampNeg)) (pif (x2 = 2) (pg (inr x1 30) (some (c_games_ending x1.toNatClampNeg))) (pif (x2 = 3) (pg (inr (c_games_first x1.toNatClampNeg) 6) (pg (inr (c_games_second x1.toNatClampNeg) 6) (pb (fX8_chance N (c_rules_strength (c_games_first x1.toNatClampNeg).toNatClampNeg) (c_rules_strength (c_games_second x1.toNatClampNeg).toNatClampNeg)) (fun q106 => some q106)))) (pif (x2 = 4) (pg (inr (c_games_first x1.toNatClampNeg) 6) (pb (fX8_rested N (c_rules_strength (c_games_first x1.toNatClampNeg).toNatClampNeg)) (fun q119 => pg (inr (c_games_second x1.toNatClampNeg) 6) (pb (fX8_chance N q119 (c_rules_strength (c_games_second x1.toNatClampNeg).toNatClampNeg)) (fun q132 => some q132))))) (pif (x2 = 5) (pg (inr (c_games_first x1.toNatClampNeg) 6) (pg (inr (c_games_second x1.toNatClampNeg) 6) (pb (fX8_rested N (c_rules_strength (c_games_second x1.toNatClampNeg).toNatClampNeg)) (fun q155 => pb (fX8_chance N (c_rules_strength (c_games_first x1.toNatClampNeg).toNatClampNeg) q155) (fun q158 => some q158))))) (some (-1)))))))))))
def wdX8_of (cyI cyJ cyB cyS : ClassId) (h0 : Nat) (a_games : Nat) (a_games_ending : Nat) (a_games_first : Nat) (a_games_second : Nat) (a_rules : Nat) (a_rules_strength : Nat) (a_standing : Nat) (a_reader : Nat) (a_tree : Nat) (a_course : Nat) (a_sheets : Nat) (a_rules_placeWorth : Nat) (a_rules_choiceWorth : Nat) (a_rules_balls : Nat) (a_rules_wheel : Nat) (v_textFault : Int32) (v_readFault : Int32) (v_games_size : Int32) (c_games_ending : Nat → Int32) (c_games_first : Nat → Int32) (c_games_second : Nat → Int32) (v_rules_sides : Int32) (v_rules_kind : Int32) (v_rules_rounds : Int32) (c_rules_strength : Nat → Int32) : va_W := [(h0, .inr (8, [.ref a_rules, .ref a_games, .ref a_standing, .ref a_reader, .ref a_tree, .ref a_course, .ref a_sheets, .int v_textFault, .int v_readFault])), (a_games, .inr (0, [.ref a_games_first, .ref a_games_second, .ref a_games_ending, .int v_games_size])), (a_games_ending, .inl (cyI, 30, .inl c_games_ending)), (a_games_first, .inl (cyI, 30, .inl c_games_first)), (a_games_second, .inl (cyI, 30, .inl c_games_second)), (a_rules, .inr (2, [.ref a_rules_strength, .ref a_rules_placeWorth, .ref a_rules_choiceWorth, .ref a_rules_balls, .ref a_rules_wheel, .int v_rules_sides, .int v_rules_kind, .int v_rules_rounds])), (a_rules_strength, .inl (cyI, 6, .inl c_rules_strength))]
abbrev rmX8_of : Room := { frames := 2, cells := 0, slots := 0, locals := 43 }
set_option maxHeartbeats 40000000 in
set_option maxRecDepth 100000 in
theorem mX8_of (l : Launch) (D : va_G) (cyI cyJ cyB cyS : ClassId) (N : Nat) (sz : Nat) (h0 : Nat) (a_games : Nat) (a_games_ending : Nat) (a_games_first : Nat) (a_games_second : Nat) (a_rules : Nat) (a_rules_strength : Nat) (a_standing : Nat) (a_reader : Nat) (a_tree : Nat) (a_course : Nat) (a_sheets : Nat) (a_rules_placeWorth : Nat) (a_rules_choiceWorth : Nat) (a_rules_balls : Nat) (a_rules_wheel : Nat) (v_textFault : Int32) (v_readFault : Int32) (v_games_size : Int32) (c_games_ending : Nat → Int32) (c_games_first : Nat → Int32) (c_games_second : Nat → Int32) (v_rules_sides : Int32) (v_rules_kind : Int32) (v_rules_rounds : Int32) (c_rules_strength : Nat → Int32) (x1 : Int32) (x2 : Int32) (q : Int32) (hf : fX8_of N v_games_size c_games_ending c_games_first c_games_second c_rules_strength x1 x2 = some q) : Met l yX8_of (wS yX8_of cX8_of 5 (some .int)) rmX8_of (va_Pc [.ref h0, .int x1, .int x2] (PP D cyI cyJ cyB cyS (wdX8_of cyI cyJ cyB cyS h0 a_games a_games_ending a_games_first a_games_second a_rules a_rules_strength a_standing a_reader a_tree a_course a_sheets a_rules_placeWorth a_rules_choiceWorth a_rules_balls a_rules_wheel v_textFault v_readFault v_games_size c_games_ending c_games_first c_games_second v_rules_sides v_rules_kind v_rules_rounds c_rules_strength) sz)) (QI q D (wdX8_of cyI cyJ cyB cyS h0 a_games a_games_ending a_games_first a_games_second a_rules a_rules_strength a_standing a_reader a_tree a_course a_sheets a_rules_placeWorth a_rules_choiceWorth a_rules_balls a_rules_wheel v_textFault v_readFault v_games_size c_games_ending c_games_first c_games_second v_rules_sides v_rules_kind v_rules_rounds c_rules_strength) (va_A (wdX8_of cyI cyJ cyB cyS h0 a_games a_games_ending a_games_first a_games_second a_rules a_rules_strength a_standing a_reader a_tree a_course a_sheets a_rules_placeWorth a_rules_choiceWorth a_rules_balls a_rules_wheel v_textFault v_readFault v_games_size c_games_ending c_games_first c_games_second v_rules_sides v_rules_kind v_rules_rounds c_rules_strength) sz)) 0 0 (va_A (wdX8_of cyI cyJ cyB cyS h0 a_games a_games_ending a_games_first a_games_second a_rules a_rules_strength a_standing a_reader a_tree a_course a_sheets a_rules_placeWorth a_rules_choiceWorth a_rules_balls a_rules_wheel v_textFault v_readFault v_games_size c_games_ending c_games_first c_games_second v_rules_sides v_rules_kind v_rules_rounds c_rules_strength) sz) := by
  refine Met.ofW (cc := cX8_of) (maxL := 5) (ret := (some .int)) (by decide) rfl ?_
  intro p e s m args below meth c s₁ B hml hv
  obtain ⟨rfl, hsz, hP, hK, hD0⟩ := hv
  have hx := B.exec
  have hb := B.bytes
  have hr := B.returns
  have hts := atoms_spec (ws := (wS yX8_of cX8_of 5 (some .int))) B.pre
  have hown : s.vm.findClass RX8 = some m.cls := findClass_of_methodNamed B.named
  have hlocks := B.notSynchronized
  subst hsz
  have hD := hD0.self (sz := s.heap.size)
  refine w_nameQ (fun Q hQ => ?_)
  have hl := lv_entry ([.ref h0, .int x1, .int x2] : List Value) (n := 5) (Nat.le_of_ble_eq_true rfl)
  rw [lg_entry_eq]
  generalize (lg_sl ([.ref h0, .int x1, .int x2] : List Value) ++ List.replicate (5 - (lg_sl ([.ref h0, .int x1, .int x2] : List Value)).length) Slot.unset).toArray = ls at hl ⊢
  have hl : lv_has ls 5 [(0, .ref h0), (1, .int x1), (2, .int x2)] := hl
  generalize hAe : va_A (wdX8_of cyI cyJ cyB cyS h0 a_games a_games_ending a_games_first a_games_second a_rules a_rules_strength a_standing a_reader a_tree a_course a_sheets a_rules_placeWorth a_rules_choiceWorth a_rules_balls a_rules_wheel v_textFault v_readFault v_games_size c_games_ending c_games_first c_games_second v_rules_sides v_rules_kind v_rules_rounds c_rules_strength) s.heap.size = A at hD hQ
  have hA : ∀ q : Nat, s.heap.size ≤ q → A q := fun q h => by rw [← hAe]; exact Or.inr h
  have hS : va_S A s.heap s.heap [] := va_S.rf
  generalize ([.ref h0, .int x1, .int x2] : List Value).toArray = av at hts hQ ⊢
  have hL : ∀ w ∈ wsL_law, w.before av s = true := fun w h => hts w (List.mem_cons_of_mem _ h)
  have w0 := hL (.fieldLink RX8 19 "LosingLeague" "games" "LLosingLeague$Games;") (hR1 20 rfl)
  have w1 := hL (.fieldLink RX8 141 "LosingLeague$Games" "first" "[I") (hR20 12 rfl)
  have w2 := hL (.fieldLink RX8 144 "LosingLeague$Games" "second" "[I") (hR20 13 rfl)
  have w3 := hL (.fieldLink RX8 147 "LosingLeague$Games" "ending" "[I") (hR20 14 rfl)
  have w4 := hL (.fieldLink RX8 10 "LosingLeague" "rules" "LLosingLeague$Rules;") (hR1 16 rfl)
  have w5 := hL (.fieldLink RX8 114 "LosingLeague$Rules" "strength" "[I") (hR19 2 rfl)
  have w6 := hL (.static yX8_chance) (hR20 20 rfl)
  have w7 := hL (.static yX8_rested) (hR21 6 rfl)
  unfold fX8_of at hf
  obtain ⟨H, hH⟩ : ∃ H : Heap, H = s.heap := ⟨_, rfl⟩
  obtain ⟨locs, hlo⟩ : ∃ locs : List Loc, locs = [] := ⟨_, rfl⟩
  have hP : va_P D vwCl (wdX8_of cyI cyJ cyB cyS h0 a_games a_games_ending a_games_first a_games_second a_rules a_rules_strength a_standing a_reader a_tree a_course a_sheets a_rules_placeWorth a_rules_choiceWorth a_rules_balls a_rules_wheel v_textFault v_readFault v_games_size c_games_ending c_games_first c_games_second v_rules_sides v_rules_kind v_rules_rounds c_rules_strength) H := by rw [hH]; exact hP
  have hS : va_S A s.heap H locs := by rw [hH, hlo]; exact hS
  suffices hw : W p l e rmX8_of s m av below meth c H locs 0 0 Q (F0 m 0 ls []) by rw [hH, hlo] at hw; exact hw
  refine lv_aload_n hx hb dX8_of_0 rfl (lv_at hl 0 rfl) ?_
  refine va_get (D := D) (ci := 8) (v := .ref a_games) (C := RX8) (T := TX8) (N := 9) hx hb hL inlX8 hown hK.1 hP 0 rfl rfl 1 (by decide) w0 (fun _ h9 => h9) rfl dX8_of_1 ?_
  refine lv_iload_n hx hb dX8_of_4 rfl (lv_at hl 1 rfl) ?_
  obtain ⟨q5, e5, hf⟩ := pb_some hf
  refine cs_i (wc := (wdX0_has cyI cyJ cyB cyS a_games a_games_first a_games_second a_games_ending v_games_size)) (w1 := (wdX0_has cyI cyJ cyB cyS a_games a_games_first a_games_second a_games_ending v_games_size)) hP hD hS hA [1] rfl rfl rfl (va_runV (C := RX0) (As := [.int x1]) (rest := []) ⟨hx, hb, hml, hown, hL⟩ (mX0_has l D cyI cyJ cyB cyS N H.size a_games a_games_first a_games_second a_games_ending v_games_size x1 q5 e5) (cwV 1 hL (gV (hR20 15 rfl) (hR20 16 rfl) (hR20 17 rfl) (hR1 19 rfl) (hR20 18 rfl)) rfl rfl rfl (by decide +kernel) ⟨Nat.le_of_ble_eq_true rfl, Nat.le_of_ble_eq_true rfl⟩) (PP_preV (ci := 0) (q0 := 1) hP hD hK [1] rfl rfl rfl rfl) rfl rfl hl.1 rfl (lv_room (Nat.le_of_ble_eq_true rfl)) dX8_of_5 ⟨Nat.le_of_ble_eq_true rfl, Nat.le_of_ble_eq_true rfl⟩) (fun H locs hP hD hS => ?_)
  have hP : va_P D vwCl (wdX8_of cyI cyJ cyB cyS h0 a_games a_games_ending a_games_first a_games_second a_rules a_rules_strength a_standing a_reader a_tree a_course a_sheets a_rules_placeWorth a_rules_choiceWorth a_rules_balls a_rules_wheel v_textFault v_readFault v_games_size c_games_ending c_games_first c_games_second v_rules_sides v_rules_kind v_rules_rounds c_rules_strength) H := hP
  have hD : va_D A (wdX8_of cyI cyJ cyB cyS h0 a_games a_games_ending a_games_first a_games_second a_rules a_rules_strength a_standing a_reader a_tree a_course a_sheets a_rules_placeWorth a_rules_choiceWorth a_rules_balls a_rules_wheel v_textFault v_readFault v_games_size c_games_ending c_games_first c_games_second v_rules_sides v_rules_kind v_rules_rounds c_rules_strength) := hD
  refine lv_if_ne (tgt := 13) hx hb dX8_of_8 (by decide) (fun c8 => ?_) (fun c8 => ?_)
  · have hf := pif_f c8 hf
    refine lv_aload_n hx hb dX8_of_13 rfl (lv_at hl 0 rfl) ?_
    refine va_get (D := D) (ci := 8) (v := .ref a_games) (C := RX8) (T := TX8) (N := 9) hx hb hL inlX8 hown hK.1 hP 0 rfl rfl 1 (by decide) w0 (fun _ h9 => h9) rfl dX8_of_14 ?_
    refine va_get (D := D) (ci := 0) (v := .ref a_games_first) (C := RX0) (T := TX0) (N := 4) hx hb hL inlX0 hown hK.1 hP 1 rfl rfl 0 (by decide) w1 (fun _ h9 => h9) rfl dX8_of_17 ?_
    refine lv_iload_n hx hb dX8_of_20 rfl (lv_at hl 1 rfl) ?_
    obtain ⟨h21, hf⟩ := pg_some hf
    refine va_iald hx hb hK.1 hP 3 0 rfl rfl h21 dX8_of_21 ?_
    refine lv_istore_n (lv' := [(3, .int (c_games_first x1.toNatClampNeg)), (0, .ref h0), (1, .int x1), (2, .int x2)]) hx hb dX8_of_22 rfl hl (by decide) rfl (fun ls hl => ?_)
    refine lv_aload_n hx hb dX8_of_23 rfl (lv_at hl 1 rfl) ?_
    refine va_get (D := D) (ci := 8) (v := .ref a_games) (C := RX8) (T := TX8) (N := 9) hx hb hL inlX8 hown hK.1 hP 0 rfl rfl 1 (by decide) w0 (fun _ h9 => h9) rfl dX8_of_24 ?_
    refine va_get (D := D) (ci := 0) (v := .ref a_games_second) (C := RX0) (T := TX0) (N := 4) hx hb hL inlX0 hown hK.1 hP 1 rfl rfl 1 (by decide) w2 (fun _ h9 => h9) rfl dX8_of_27 ?_
    refine lv_iload_n hx hb dX8_of_30 rfl (lv_at hl 2 rfl) ?_
    obtain ⟨h31, hf⟩ := pg_some hf
    refine va_iald hx hb hK.1 hP 4 0 rfl rfl h31 dX8_of_31 ?_
    refine lv_istore (lv' := [(4, .int (c_games_second x1.toNatClampNeg)), (3, .int (c_games_first x1.toNatClampNeg)), (0, .ref h0), (1, .int x1), (2, .int x2)]) hx hb dX8_of_32 hl (by decide) rfl (fun ls hl => ?_)
    refine lv_iload_n hx hb dX8_of_34 rfl (lv_at hl 4 rfl) ?_
    rcases Decidable.em (x2 = 0) with z35_0 | z35_0
    · have hf := pif_t z35_0 hf
      refine lv_tableIn (tgt := 72) hx hb dX8_of_35 (by rw [z35_0]; decide) (by rw [z35_0]; decide) (by rw [z35_0]; try rfl) (by decide) ?_
      refine lv_iload_n hx hb dX8_of_72 rfl (lv_at hl 1 rfl) ?_
      exact ret_i (q := q) (g := fun q => q) (wp := fun q => (wdX8_of cyI cyJ cyB cyS h0 a_games a_games_ending a_games_first a_games_second a_rules a_rules_strength a_standing a_reader a_tree a_course a_sheets a_rules_placeWorth a_rules_choiceWorth a_rules_balls a_rules_wheel v_textFault v_readFault v_games_size c_games_ending c_games_first c_games_second v_rules_sides v_rules_kind v_rules_rounds c_rules_strength)) hQ hf hx hb hr hlocks hP hD hS dX8_of_73 rfl
    · have hf := pif_f z35_0 hf
      rcases Decidable.em (x2 = 1) with z35_1 | z35_1
      · have hf := pif_t z35_1 hf
        refine lv_tableIn (tgt := 74) hx hb dX8_of_35 (by rw [z35_1]; decide) (by rw [z35_1]; decide) (by rw [z35_1]; try rfl) (by decide) ?_
        refine lv_iload hx hb dX8_of_74 (lv_at hl 0 rfl) ?_
        exact ret_i (q := q) (g := fun q => q) (wp := fun q => (wdX8_of cyI cyJ cyB cyS h0 a_games a_games_ending a_games_first a_games_second a_rules a_rules_strength a_standing a_reader a_tree a_course a_sheets a_rules_placeWorth a_rules_choiceWorth a_rules_balls a_rules_wheel v_textFault v_readFault v_games_size c_games_ending c_games_first c_games_second v_rules_sides v_rules_kind v_rules_rounds c_rules_strength)) hQ hf hx hb hr hlocks hP hD hS dX8_of_76 rfl
      · have hf := pif_f z35_1 hf
        rcases Decidable.em (x2 = 2) with z35_2 | z35_2
        · have hf := pif_t z35_2 hf
          refine lv_tableIn (tgt := 77) hx hb dX8_of_35 (by rw [z35_2]; decide) (by rw [z35_2]; decide) (by rw [z35_2]; try rfl) (by decide) ?_
          refine lv_aload_n hx hb dX8_of_77 rfl (lv_at hl 2 rfl) ?_
          refine va_get (D := D) (ci := 8) (v := .ref a_games) (C := RX8) (T := TX8) (N := 9) hx hb hL inlX8 hown hK.1 hP 0 rfl rfl 1 (by decide) w0 (fun _ h9 => h9) rfl dX8_of_78 ?_
          refine va_get (D := D) (ci := 0) (v := .ref a_games_ending) (C := RX0) (T := TX0) (N := 4) hx hb hL inlX0 hown hK.1 hP 1 rfl rfl 2 (by decide) w3 (fun _ h9 => h9) rfl dX8_of_81 ?_
          refine lv_iload_n hx hb dX8_of_84 rfl (lv_at hl 3 rfl) ?_
          obtain ⟨h85, hf⟩ := pg_some hf
          refine va_iald hx hb hK.1 hP 2 0 rfl rfl h85 dX8_of_85 ?_
          exact ret_i (q := q) (g := fun q => q) (wp := fun q => (wdX8_of cyI cyJ cyB cyS h0 a_games a_games_ending a_games_first a_games_second a_rules a_rules_strength a_standing a_reader a_tree a_course a_sheets a_rules_placeWorth a_rules_choiceWorth a_rules_balls a_rules_wheel v_textFault v_readFault v_games_size c_games_ending c_games_first c_games_second v_rules_sides v_rules_kind v_rules_rounds c_rules_strength)) hQ hf hx hb hr hlocks hP hD hS dX8_of_86 rfl
        · have hf := pif_f z35_2 hf
          rcases Decidable.em (x2 = 3) with z35_3 | z35_3
          · have hf := pif_t z35_3 hf
            refine lv_tableIn (tgt := 87) hx hb dX8_of_35 (by rw [z35_3]; decide) (by rw [z35_3]; decide) (by rw [z35_3]; try rfl) (by decide) ?_
            refine lv_aload_n hx hb dX8_of_87 rfl (lv_at hl 2 rfl) ?_
            refine va_get (D := D) (ci := 8) (v := .ref a_rules) (C := RX8) (T := TX8) (N := 9) hx hb hL inlX8 hown hK.1 hP 0 rfl rfl 0 (by decide) w4 (fun _ h9 => h9) rfl dX8_of_88 ?_
            refine va_get (D := D) (ci := 2) (v := .ref a_rules_strength) (C := RX2) (T := TX2) (N := 8) hx hb hL inlX2 hown hK.1 hP 5 rfl rfl 0 (by decide) w5 (fun _ h9 => h9) rfl dX8_of_91 ?_
            refine lv_iload_n hx hb dX8_of_94 rfl (lv_at hl 1 rfl) ?_
            obtain ⟨h95, hf⟩ := pg_some hf
            refine va_iald hx hb hK.1 hP 6 0 rfl rfl h95 dX8_of_95 ?_
            refine lv_aload_n hx hb dX8_of_96 rfl (lv_at hl 2 rfl) ?_
            refine va_get (D := D) (ci := 8) (v := .ref a_rules) (C := RX8) (T := TX8) (N := 9) hx hb hL inlX8 hown hK.1 hP 0 rfl rfl 0 (by decide) w4 (fun _ h9 => h9) rfl dX8_of_97 ?_
            refine va_get (D := D) (ci := 2) (v := .ref a_rules_strength) (C := RX2) (T := TX2) (N := 8) hx hb hL inlX2 hown hK.1 hP 5 rfl rfl 0 (by decide) w5 (fun _ h9 => h9) rfl dX8_of_100 ?_
            refine lv_iload hx hb dX8_of_103 (lv_at hl 0 rfl) ?_
            obtain ⟨h105, hf⟩ := pg_some hf
            refine va_iald hx hb hK.1 hP 6 0 rfl rfl h105 dX8_of_105 ?_
            obtain ⟨q106, e106, hf⟩ := pb_some hf
            refine cs_i (wc := []) (w1 := []) hP hD hS hA [] rfl rfl rfl (va_runS (As := [.int (c_rules_strength (c_games_first x1.toNatClampNeg).toNatClampNeg), .int (c_rules_strength (c_games_second x1.toNatClampNeg).toNatClampNeg)]) (rest := []) ⟨hx, hb, hml, hown, hL⟩ (mX8_chance l D cyI cyJ cyB cyS N H.size   (c_rules_strength (c_games_first x1.toNatClampNeg).toNatClampNeg) (c_rules_strength (c_games_second x1.toNatClampNeg).toNatClampNeg) q106 e106) (va_cwS 2 hL (gS (hR20 19 rfl) (hR20 20 rfl) (hR1 2 rfl) (hR20 21 rfl)) rfl rfl rfl (by decide +kernel) ⟨Nat.le_of_ble_eq_true rfl, Nat.le_of_ble_eq_true rfl⟩) (PP_preS hP hD hK [] rfl rfl) rfl rfl hl.1 rfl (lv_room (Nat.le_of_ble_eq_true rfl)) dX8_of_106 ⟨Nat.le_of_ble_eq_true rfl, Nat.le_of_ble_eq_true rfl⟩) (fun H locs hP hD hS => ?_)
            have hP : va_P D vwCl (wdX8_of cyI cyJ cyB cyS h0 a_games a_games_ending a_games_first a_games_second a_rules a_rules_strength a_standing a_reader a_tree a_course a_sheets a_rules_placeWorth a_rules_choiceWorth a_rules_balls a_rules_wheel v_textFault v_readFault v_games_size c_games_ending c_games_first c_games_second v_rules_sides v_rules_kind v_rules_rounds c_rules_strength) H := hP
            have hD : va_D A (wdX8_of cyI cyJ cyB cyS h0 a_games a_games_ending a_games_first a_games_second a_rules a_rules_strength a_standing a_reader a_tree a_course a_sheets a_rules_placeWorth a_rules_choiceWorth a_rules_balls a_rules_wheel v_textFault v_readFault v_games_size c_games_ending c_games_first c_games_second v_rules_sides v_rules_kind v_rules_rounds c_rules_strength) := hD
            exact ret_i (q := q) (g := fun q => q) (wp := fun q => (wdX8_of cyI cyJ cyB cyS h0 a_games a_games_ending a_games_first a_games_second a_rules a_rules_strength a_standing a_reader a_tree a_course a_sheets a_rules_placeWorth a_rules_choiceWorth a_rules_balls a_rules_wheel v_textFault v_readFault v_games_size c_games_ending c_games_first c_games_second v_rules_sides v_rules_kind v_rules_rounds c_rules_strength)) hQ hf hx hb hr hlocks hP hD hS dX8_of_109 rfl
          · have hf := pif_f z35_3 hf
            rcases Decidable.em (x2 = 4) with z35_4 | z35_4
            · have hf := pif_t z35_4 hf
              refine lv_tableIn (tgt := 110) hx hb dX8_of_35 (by rw [z35_4]; decide) (by rw [z35_4]; decide) (by rw [z35_4]; try rfl) (by decide) ?_
              refine lv_aload_n hx hb dX8_of_110 rfl (lv_at hl 2 rfl) ?_
              refine va_get (D := D) (ci := 8) (v := .ref a_rules) (C := RX8) (T := TX8) (N := 9) hx hb hL inlX8 hown hK.1 hP 0 rfl rfl 0 (by decide) w4 (fun _ h9 => h9) rfl dX8_of_111 ?_
              refine va_get (D := D) (ci := 2) (v := .ref a_rules_strength) (C := RX2) (T := TX2) (N := 8) hx hb hL inlX2 hown hK.1 hP 5 rfl rfl 0 (by decide) w5 (fun _ h9 => h9) rfl dX8_of_114 ?_
              refine lv_iload_n hx hb dX8_of_117 rfl (lv_at hl 1 rfl) ?_
              obtain ⟨h118, hf⟩ := pg_some hf
              refine va_iald hx hb hK.1 hP 6 0 rfl rfl h118 dX8_of_118 ?_
              obtain ⟨q119, e119, hf⟩ := pb_some hf
              refine cs_i (wc := []) (w1 := []) hP hD hS hA [] rfl rfl rfl (va_runS (As := [.int (c_rules_strength (c_games_first x1.toNatClampNeg).toNatClampNeg)]) (rest := []) ⟨hx, hb, hml, hown, hL⟩ (mX8_rested l D cyI cyJ cyB cyS N H.size   (c_rules_strength (c_games_first x1.toNatClampNeg).toNatClampNeg) q119 e119) (va_cwS 1 hL (gS (hR21 5 rfl) (hR21 6 rfl) (hR1 2 rfl) (hR21 7 rfl)) rfl rfl rfl (by decide +kernel) ⟨Nat.le_of_ble_eq_true rfl, Nat.le_of_ble_eq_true rfl⟩) (PP_preS hP hD hK [] rfl rfl) rfl rfl hl.1 rfl (lv_room (Nat.le_of_ble_eq_true rfl)) dX8_of_119 ⟨Nat.le_of_ble_eq_true rfl, Nat.le_of_ble_eq_true rfl⟩) (fun H locs hP hD hS => ?_)
              have hP : va_P D vwCl (wdX8_of cyI cyJ cyB cyS h0 a_games a_games_ending a_games_first a_games_second a_rules a_rules_strength a_standing a_reader a_tree a_course a_sheets a_rules_placeWorth a_rules_choiceWorth a_rules_balls a_rules_wheel v_textFault v_readFault v_games_size c_games_ending c_games_first c_games_second v_rules_sides v_rules_kind v_rules_rounds c_rules_strength) H := hP
              have hD : va_D A (wdX8_of cyI cyJ cyB cyS h0 a_games a_games_ending a_games_first a_games_second a_rules a_rules_strength a_standing a_reader a_tree a_course a_sheets a_rules_placeWorth a_rules_choiceWorth a_rules_balls a_rules_wheel v_textFault v_readFault v_games_size c_games_ending c_games_first c_games_second v_rules_sides v_rules_kind v_rules_rounds c_rules_strength) := hD
              refine lv_aload_n hx hb dX8_of_122 rfl (lv_at hl 2 rfl) ?_
              refine va_get (D := D) (ci := 8) (v := .ref a_rules) (C := RX8) (T := TX8) (N := 9) hx hb hL inlX8 hown hK.1 hP 0 rfl rfl 0 (by decide) w4 (fun _ h9 => h9) rfl dX8_of_123 ?_
              refine va_get (D := D) (ci := 2) (v := .ref a_rules_strength) (C := RX2) (T := TX2) (N := 8) hx hb hL inlX2 hown hK.1 hP 5 rfl rfl 0 (by decide) w5 (fun _ h9 => h9) rfl dX8_of_126 ?_
              refine lv_iload hx hb dX8_of_129 (lv_at hl 0 rfl) ?_
              obtain ⟨h131, hf⟩ := pg_some hf
              refine va_iald hx hb hK.1 hP 6 0 rfl rfl h131 dX8_of_131 ?_
              obtain ⟨q132, e132, hf⟩ := pb_some hf
              refine cs_i (wc := []) (w1 := []) hP hD hS hA [] rfl rfl rfl (va_runS (As := [.int q119, .int (c_rules_strength (c_games_second x1.toNatClampNeg).toNatClampNeg)]) (rest := []) ⟨hx, hb, hml, hown, hL⟩ (mX8_chance l D cyI cyJ cyB cyS N H.size   q119 (c_rules_strength (c_games_second x1.toNatClampNeg).toNatClampNeg) q132 e132) (va_cwS 2 hL (gS (hR20 19 rfl) (hR20 20 rfl) (hR1 2 rfl) (hR20 21 rfl)) rfl rfl rfl (by decide +kernel) ⟨Nat.le_of_ble_eq_true rfl, Nat.le_of_ble_eq_true rfl⟩) (PP_preS hP hD hK [] rfl rfl) rfl rfl hl.1 rfl (lv_room (Nat.le_of_ble_eq_true rfl)) dX8_of_132 ⟨Nat.le_of_ble_eq_true rfl, Nat.le_of_ble_eq_true rfl⟩) (fun H locs hP hD hS => ?_)
              have hP : va_P D vwCl (wdX8_of cyI cyJ cyB cyS h0 a_games a_games_ending a_games_first a_games_second a_rules a_rules_strength a_standing a_reader a_tree a_course a_sheets a_rules_placeWorth a_rules_choiceWorth a_rules_balls a_rules_wheel v_textFault v_readFault v_games_size c_games_ending c_games_first c_games_second v_rules_sides v_rules_kind v_rules_rounds c_rules_strength) H := hP
              have hD : va_D A (wdX8_of cyI cyJ cyB cyS h0 a_games a_games_ending a_games_first a_games_second a_rules a_rules_strength a_standing a_reader a_tree a_course a_sheets a_rules_placeWorth a_rules_choiceWorth a_rules_balls a_rules_wheel v_textFault v_readFault v_games_size c_games_ending c_games_first c_games_second v_rules_sides v_rules_kind v_rules_rounds c_rules_strength) := hD
              exact ret_i (q := q) (g := fun q => q) (wp := fun q => (wdX8_of cyI cyJ cyB cyS h0 a_games a_games_ending a_games_first a_games_second a_rules a_rules_strength a_standing a_reader a_tree a_course a_sheets a_rules_placeWorth a_rules_choiceWorth a_rules_balls a_rules_wheel v_textFault v_readFault v_games_size c_games_ending c_games_first c_games_second v_rules_sides v_rules_kind v_rules_rounds c_rules_strength)) hQ hf hx hb hr hlocks hP hD hS dX8_of_135 rfl
            · have hf := pif_f z35_4 hf
              rcases Decidable.em (x2 = 5) with z35_5 | z35_5
              · have hf := pif_t z35_5 hf
                refine lv_tableIn (tgt := 136) hx hb dX8_of_35 (by rw [z35_5]; decide) (by rw [z35_5]; decide) (by rw [z35_5]; try rfl) (by decide) ?_
                refine lv_aload_n hx hb dX8_of_136 rfl (lv_at hl 2 rfl) ?_
                refine va_get (D := D) (ci := 8) (v := .ref a_rules) (C := RX8) (T := TX8) (N := 9) hx hb hL inlX8 hown hK.1 hP 0 rfl rfl 0 (by decide) w4 (fun _ h9 => h9) rfl dX8_of_137 ?_
                refine va_get (D := D) (ci := 2) (v := .ref a_rules_strength) (C := RX2) (T := TX2) (N := 8) hx hb hL inlX2 hown hK.1 hP 5 rfl rfl 0 (by decide) w5 (fun _ h9 => h9) rfl dX8_of_140 ?_
                refine lv_iload_n hx hb dX8_of_143 rfl (lv_at hl 1 rfl) ?_
                obtain ⟨h144, hf⟩ := pg_some hf
                refine va_iald hx hb hK.1 hP 6 0 rfl rfl h144 dX8_of_144 ?_
                refine lv_aload_n hx hb dX8_of_145 rfl (lv_at hl 2 rfl) ?_
                refine va_get (D := D) (ci := 8) (v := .ref a_rules) (C := RX8) (T := TX8) (N := 9) hx hb hL inlX8 hown hK.1 hP 0 rfl rfl 0 (by decide) w4 (fun _ h9 => h9) rfl dX8_of_146 ?_
                refine va_get (D := D) (ci := 2) (v := .ref a_rules_strength) (C := RX2) (T := TX2) (N := 8) hx hb hL inlX2 hown hK.1 hP 5 rfl rfl 0 (by decide) w5 (fun _ h9 => h9) rfl dX8_of_149 ?_
                refine lv_iload hx hb dX8_of_152 (lv_at hl 0 rfl) ?_
                obtain ⟨h154, hf⟩ := pg_some hf
                refine va_iald hx hb hK.1 hP 6 0 rfl rfl h154 dX8_of_154 ?_
                obtain ⟨q155, e155, hf⟩ := pb_some hf
                refine cs_i (wc := []) (w1 := []) hP hD hS hA [] rfl rfl rfl (va_runS (As := [.int (c_rules_strength (c_games_second x1.toNatClampNeg).toNatClampNeg)]) (rest := [.int (c_rules_strength (c_games_first x1.toNatClampNeg).toNatClampNeg)]) ⟨hx, hb, hml, hown, hL⟩ (mX8_rested l D cyI cyJ cyB cyS N H.size   (c_rules_strength (c_games_second x1.toNatClampNeg).toNatClampNeg) q155 e155) (va_cwS 1 hL (gS (hR21 5 rfl) (hR21 6 rfl) (hR1 2 rfl) (hR21 7 rfl)) rfl rfl rfl (by decide +kernel) ⟨Nat.le_of_ble_eq_true rfl, Nat.le_of_ble_eq_true rfl⟩) (PP_preS hP hD hK [] rfl rfl) rfl rfl hl.1 rfl (lv_room (Nat.le_of_ble_eq_true rfl)) dX8_of_155 ⟨Nat.le_of_ble_eq_true rfl, Nat.le_of_ble_eq_true rfl⟩) (fun H locs hP hD hS => ?_)
                have hP : va_P D vwCl (wdX8_of cyI cyJ cyB cyS h0 a_games a_games_ending a_games_first a_games_second a_rules a_rules_strength a_standing a_reader a_tree a_course a_sheets a_rules_placeWorth a_rules_choiceWorth a_rules_balls a_rules_wheel v_textFault v_readFault v_games_size c_games_ending c_games_first c_games_second v_rules_sides v_rules_kind v_rules_rounds c_rules_strength) H := hP
                have hD : va_D A (wdX8_of cyI cyJ cyB cyS h0 a_games a_games_ending a_games_first a_games_second a_rules a_rules_strength a_standing a_reader a_tree a_course a_sheets a_rules_placeWorth a_rules_choiceWorth a_rules_balls a_rules_wheel v_textFault v_readFault v_games_size c_games_ending c_games_first c_games_second v_rules_sides v_rules_kind v_rules_rounds c_rules_strength) := hD
                obtain ⟨q158, e158, hf⟩ := pb_some hf
                refine cs_i (wc := []) (w1 := []) hP hD hS hA [] rfl rfl rfl (va_runS (As := [.int (c_rules_strength (c_games_first x1.toNatClampNeg).toNatClampNeg), .int q155]) (rest := []) ⟨hx, hb, hml, hown, hL⟩ (mX8_chance l D cyI cyJ cyB cyS N H.size   (c_rules_strength (c_games_first x1.toNatClampNeg).toNatClampNeg) q155 q158 e158) (va_cwS 2 hL (gS (hR20 19 rfl) (hR20 20 rfl) (hR1 2 rfl) (hR20 21 rfl)) rfl rfl rfl (by decide +kernel) ⟨Nat.le_of_ble_eq_true rfl, Nat.le_of_ble_eq_true rfl⟩) (PP_preS hP hD hK [] rfl rfl) rfl rfl hl.1 rfl (lv_room (Nat.le_of_ble_eq_true rfl)) dX8_of_158 ⟨Nat.le_of_ble_eq_true rfl, Nat.le_of_ble_eq_true rfl⟩) (fun H locs hP hD hS => ?_)
                have hP : va_P D vwCl (wdX8_of cyI cyJ cyB cyS h0 a_games a_games_ending a_games_first a_games_second a_rules a_rules_strength a_standing a_reader a_tree a_course a_sheets a_rules_placeWorth a_rules_choiceWorth a_rules_balls a_rules_wheel v_textFault v_readFault v_games_size c_games_ending c_games_first c_games_second v_rules_sides v_rules_kind v_rules_rounds c_rules_strength) H := hP
                have hD : va_D A (wdX8_of cyI cyJ cyB cyS h0 a_games a_games_ending a_games_first a_games_second a_rules a_rules_strength a_standing a_reader a_tree a_course a_sheets a_rules_placeWorth a_rules_choiceWorth a_rules_balls a_rules_wheel v_textFault v_readFault v_games_size c_games_ending c_games_first c_games_second v_rules_sides v_rules_kind v_rules_rounds c_rules_strength) := hD
                exact ret_i (q := q) (g := fun q => q) (wp := fun q => (wdX8_of cyI cyJ cyB cyS h0 a_games a_games_ending a_games_first a_games_second a_rules a_rules_strength a_standing a_reader a_tree a_course a_sheets a_rules_placeWorth a_rules_choiceWorth a_rules_balls a_rules_wheel v_textFault v_readFault v_games_size c_games_ending c_games_first c_games_second v_rules_sides v_rules_kind v_rules_rounds c_rules_strength)) hQ hf hx hb hr hlocks hP hD hS dX8_of_161 rfl
              · have hf := pif_f z35_5 hf
                refine lv_tableOut (tgt := 162) hx hb dX8_of_35 (by have y0 := lv_neT (k := 0) (a := 0) z35_0 rfl; have y1 := lv_neT (k := 1) (a := 1) z35_1 rfl; have y2 := lv_neT (k := 2) (a := 2) z35_2 rfl; have y3 := lv_neT (k := 3) (a := 3) z35_3 rfl; have y4 := lv_neT (k := 4) (a := 4) z35_4 rfl; have y5 := lv_neT (k := 5) (a := 5) z35_5 rfl; omega) (by decide) ?_
                refine lv_iconst (v := (-1)) hx hb dX8_of_162 (by decide) ?_
                exact ret_i (q := q) (g := fun q => q) (wp := fun q => (wdX8_of cyI cyJ cyB cyS h0 a_games a_games_ending a_games_first a_games_second a_rules a_rules_strength a_standing a_reader a_tree a_course a_sheets a_rules_placeWorth a_rules_choiceWorth a_rules_balls a_rules_wheel v_textFault v_readFault v_games_size c_games_ending c_games_first c_games_second v_rules_sides v_rules_kind v_rules_rounds c_rules_strength)) hQ hf hx hb hr hlocks hP hD hS dX8_of_163 rfl
  · have hf := pif_t c8 hf
    refine lv_iconst (v := (-1)) hx hb dX8_of_11 (by decide) ?_
    exact ret_i (q := q) (g := fun q => q) (wp := fun q => (wdX8_of cyI cyJ cyB cyS h0 a_games a_games_ending a_games_first a_games_second a_rules a_rules_strength a_standing a_reader a_tree a_course a_sheets a_rules_placeWorth a_rules_choiceWorth a_rules_balls a_rules_wheel v_textFault v_readFault v_games_size c_games_ending c_games_first c_games_second v_rules_sides v_rules_kind v_rules_rounds c_rules_strength)) hQ hf hx hb hr hlocks hP hD hS dX8_of_12 rfl
def fX8_ends_20 (N : Nat) (v_games_size : Int32) (x1 : Int32) (x2 : Int32) (c_games_ending : Nat → Int32) : Option (Int32 × (Nat → Int32)) := some ((-1), c_games_ending)
def fX8_ends (N : Nat) (v_games_size : Int32) (c_games_ending : Nat → Int32) (x1 : Int32) (x2 : Int32) : Option (Int32 × (Nat → Int32)) := pb (fX0_has N v_games_size x1) (fun q5 => pif (q5 = 0) (fX8_ends_20 N v_games_size x1 x2 c_games_ending) (pif (x2 < 0) (fX8_ends_20 N v_games_size x1 x2 c_games_ending) (pif (x2 ≤ 2) (pg (inr x1 30) (pg (inr x1 30) (some (c_games_ending x1.toNatClampNeg, upd c_games_ending x1.toNatClampNeg x2)))) (fX8_ends_20 N v_games_size x1 x2 c_games_ending))))
def wdX8_ends (cyI cyJ cyB cyS : ClassId) (h0 : Nat) (a_games : Nat) (a_games_ending : Nat) (a_rules : Nat) (a_standing : Nat) (a_reader : Nat) (a_tree : Nat) (a_course : Nat) (a_sheets : Nat) (a_games_first : Nat) (a_games_second : Nat) (v_textFault : Int32) (v_readFault : Int32) (v_games_size : Int32) (c_games_ending : Nat → Int32) : va_W := [(h0, .inr (8, [.ref a_rules, .ref a_games, .ref a_standing, .ref a_reader, .ref a_tree, .ref a_course, .ref a_sheets, .int v_textFault, .int v_readFault])), (a_games, .inr (0, [.ref a_games_first, .ref a_games_second, .ref a_games_ending, .int v_games_size])), (a_games_ending, .inl (cyI, 30, .inl c_games_ending))]
abbrev rmX8_ends : Room := { frames := 1, cells := 0, slots := 0, locals := 21 }
set_option maxHeartbeats 40000000 in
set_option maxRecDepth 100000 in
theorem mX8_ends (l : Launch) (D : va_G) (cyI cyJ cyB cyS : ClassId) (N : Nat) (sz : Nat) (h0 : Nat) (a_games : Nat) (a_games_ending : Nat) (a_rules : Nat) (a_standing : Nat) (a_reader : Nat) (a_tree : Nat) (a_course : Nat) (a_sheets : Nat) (a_games_first : Nat) (a_games_second : Nat) (v_textFault : Int32) (v_readFault : Int32) (v_games_size : Int32) (c_games_ending : Nat → Int32) (x1 : Int32) (x2 : Int32) (q : Int32 × (Nat → Int32)) (hf : fX8_ends N v_games_size c_games_ending x1 x2 = some q) : Met l yX8_ends (wS yX8_ends cX8_ends 4 (some .int)) rmX8_ends (va_Pc [.ref h0, .int x1, .int x2] (PP D cyI cyJ cyB cyS (wdX8_ends cyI cyJ cyB cyS h0 a_games a_games_ending a_rules a_standing a_reader a_tree a_course a_sheets a_games_first a_games_second v_textFault v_readFault v_games_size c_games_ending) sz)) (QI q.1 D (wdX8_ends cyI cyJ cyB cyS h0 a_games a_games_ending a_rules a_standing a_reader a_tree a_course a_sheets a_games_first a_games_second v_textFault v_readFault v_games_size q.2) (va_A (wdX8_ends cyI cyJ cyB cyS h0 a_games a_games_ending a_rules a_standing a_reader a_tree a_course a_sheets a_games_first a_games_second v_textFault v_readFault v_games_size c_games_ending) sz)) 0 0 (va_A (wdX8_ends cyI cyJ cyB cyS h0 a_games a_games_ending a_rules a_standing a_reader a_tree a_course a_sheets a_games_first a_games_second v_textFault v_readFault v_games_size c_games_ending) sz) := by
  refine Met.ofW (cc := cX8_ends) (maxL := 4) (ret := (some .int)) (by decide) rfl ?_
  intro p e s m args below meth c s₁ B hml hv
  obtain ⟨rfl, hsz, hP, hK, hD0⟩ := hv
  have hx := B.exec
  have hb := B.bytes
  have hr := B.returns
  have hts := atoms_spec (ws := (wS yX8_ends cX8_ends 4 (some .int))) B.pre
  have hown : s.vm.findClass RX8 = some m.cls := findClass_of_methodNamed B.named
  have hlocks := B.notSynchronized
  subst hsz
  have hD := hD0.self (sz := s.heap.size)
  refine w_nameQ (fun Q hQ => ?_)
  have hl := lv_entry ([.ref h0, .int x1, .int x2] : List Value) (n := 4) (Nat.le_of_ble_eq_true rfl)
  rw [lg_entry_eq]
  generalize (lg_sl ([.ref h0, .int x1, .int x2] : List Value) ++ List.replicate (4 - (lg_sl ([.ref h0, .int x1, .int x2] : List Value)).length) Slot.unset).toArray = ls at hl ⊢
  have hl : lv_has ls 4 [(0, .ref h0), (1, .int x1), (2, .int x2)] := hl
  generalize hAe : va_A (wdX8_ends cyI cyJ cyB cyS h0 a_games a_games_ending a_rules a_standing a_reader a_tree a_course a_sheets a_games_first a_games_second v_textFault v_readFault v_games_size c_games_ending) s.heap.size = A at hD hQ
  have hA : ∀ q : Nat, s.heap.size ≤ q → A q := fun q h => by rw [← hAe]; exact Or.inr h
  have hS : va_S A s.heap s.heap [] := va_S.rf
  generalize ([.ref h0, .int x1, .int x2] : List Value).toArray = av at hts hQ ⊢
  have hL : ∀ w ∈ wsL_law, w.before av s = true := fun w h => hts w (List.mem_cons_of_mem _ h)
  have w0 := hL (.fieldLink RX8 19 "LosingLeague" "games" "LLosingLeague$Games;") (hR1 20 rfl)
  have w1 := hL (.fieldLink RX8 147 "LosingLeague$Games" "ending" "[I") (hR20 14 rfl)
  have hB20 : ∀ (c_games_ending : Nat → Int32) (H : Heap) (locs : List Loc) (ls : Array Slot), fX8_ends_20 N v_games_size x1 x2 c_games_ending = some q → va_P D vwCl (wdX8_ends cyI cyJ cyB cyS h0 a_games a_games_ending a_rules a_standing a_reader a_tree a_course a_sheets a_games_first a_games_second v_textFault v_readFault v_games_size c_games_ending) H → va_D A (wdX8_ends cyI cyJ cyB cyS h0 a_games a_games_ending a_rules a_standing a_reader a_tree a_course a_sheets a_games_first a_games_second v_textFault v_readFault v_games_size c_games_ending) → va_S A s.heap H locs → lv_has ls 4 [] → W p l e rmX8_ends s m av below meth c H locs 0 0 Q (F0 m 20 ls []) := by
    intro c_games_ending H locs ls hf hP hD hS hl
    unfold fX8_ends_20 at hf
    refine lv_iconst (v := (-1)) hx hb dX8_ends_20 (by decide) ?_
    exact ret_i (q := q) (g := fun q => q.1) (wp := fun q => (wdX8_ends cyI cyJ cyB cyS h0 a_games a_games_ending a_rules a_standing a_reader a_tree a_course a_sheets a_games_first a_games_second v_textFault v_readFault v_games_size q.2)) hQ hf hx hb hr hlocks hP hD hS dX8_ends_21 rfl
  unfold fX8_ends at hf
  obtain ⟨H, hH⟩ : ∃ H : Heap, H = s.heap := ⟨_, rfl⟩
  obtain ⟨locs, hlo⟩ : ∃ locs : List Loc, locs = [] := ⟨_, rfl⟩
  have hP : va_P D vwCl (wdX8_ends cyI cyJ cyB cyS h0 a_games a_games_ending a_rules a_standing a_reader a_tree a_course a_sheets a_games_first a_games_second v_textFault v_readFault v_games_size c_games_ending) H := by rw [hH]; exact hP
  have hS : va_S A s.heap H locs := by rw [hH, hlo]; exact hS
  suffices hw : W p l e rmX8_ends s m av below meth c H locs 0 0 Q (F0 m 0 ls []) by rw [hH, hlo] at hw; exact hw
  refine lv_aload_n hx hb dX8_ends_0 rfl (lv_at hl 0 rfl) ?_
  refine va_get (D := D) (ci := 8) (v := .ref a_games) (C := RX8) (T := TX8) (N := 9) hx hb hL inlX8 hown hK.1 hP 0 rfl rfl 1 (by decide) w0 (fun _ h9 => h9) rfl dX8_ends_1 ?_
  refine lv_iload_n hx hb dX8_ends_4 rfl (lv_at hl 1 rfl) ?_
  obtain ⟨q5, e5, hf⟩ := pb_some hf
  refine cs_i (wc := (wdX0_has cyI cyJ cyB cyS a_games a_games_first a_games_second a_games_ending v_games_size)) (w1 := (wdX0_has cyI cyJ cyB cyS a_games a_games_first a_games_second a_games_ending v_games_size)) hP hD hS hA [1] rfl rfl rfl (va_runV (C := RX0) (As := [.int x1]) (rest := []) ⟨hx, hb, hml, hown, hL⟩ (mX0_has l D cyI cyJ cyB cyS N H.size a_games a_games_first a_games_second a_games_ending v_games_size x1 q5 e5) (cwV 1 hL (gV (hR20 15 rfl) (hR20 16 rfl) (hR20 17 rfl) (hR1 19 rfl) (hR20 18 rfl)) rfl rfl rfl (by decide +kernel) ⟨Nat.le_of_ble_eq_true rfl, Nat.le_of_ble_eq_true rfl⟩) (PP_preV (ci := 0) (q0 := 1) hP hD hK [1] rfl rfl rfl rfl) rfl rfl hl.1 rfl (lv_room (Nat.le_of_ble_eq_true rfl)) dX8_ends_5 ⟨Nat.le_of_ble_eq_true rfl, Nat.le_of_ble_eq_true rfl⟩) (fun H locs hP hD hS => ?_)
  have hP : va_P D vwCl (wdX8_ends cyI cyJ cyB cyS h0 a_games a_games_ending a_rules a_standing a_reader a_tree a_course a_sheets a_games_first a_games_second v_textFault v_readFault v_games_size c_games_ending) H := hP
  have hD : va_D A (wdX8_ends cyI cyJ cyB cyS h0 a_games a_games_ending a_rules a_standing a_reader a_tree a_course a_sheets a_games_first a_games_second v_textFault v_readFault v_games_size c_games_ending) := hD
  refine lv_if_eq (tgt := 20) hx hb dX8_ends_8 (by decide) (fun c8 => ?_) (fun c8 => ?_)
  · have hf := pif_t c8 hf
    exact hB20 c_games_ending H locs ls hf hP hD hS (lv_sub hl [] rfl)
  · have hf := pif_f c8 hf
    refine lv_iload_n hx hb dX8_ends_11 rfl (lv_at hl 2 rfl) ?_
    refine lv_if_lt (tgt := 20) hx hb dX8_ends_12 (by decide) (fun c12 => ?_) (fun c12 => ?_)
    · have hf := pif_t c12 hf
      exact hB20 c_games_ending H locs ls hf hP hD hS (lv_sub hl [] rfl)
    · have hf := pif_f c12 hf
      refine lv_iload_n hx hb dX8_ends_15 rfl (lv_at hl 2 rfl) ?_
      refine lv_iconst (v := 2) hx hb dX8_ends_16 (by decide) ?_
      refine lv_icmp_le (tgt := 22) hx hb dX8_ends_17 (by decide) (fun c17 => ?_) (fun c17 => ?_)
      · have hf := pif_t c17 hf
        refine lv_aload_n hx hb dX8_ends_22 rfl (lv_at hl 0 rfl) ?_
        refine va_get (D := D) (ci := 8) (v := .ref a_games) (C := RX8) (T := TX8) (N := 9) hx hb hL inlX8 hown hK.1 hP 0 rfl rfl 1 (by decide) w0 (fun _ h9 => h9) rfl dX8_ends_23 ?_
        refine va_get (D := D) (ci := 0) (v := .ref a_games_ending) (C := RX0) (T := TX0) (N := 4) hx hb hL inlX0 hown hK.1 hP 1 rfl rfl 2 (by decide) w1 (fun _ h9 => h9) rfl dX8_ends_26 ?_
        refine lv_iload_n hx hb dX8_ends_29 rfl (lv_at hl 1 rfl) ?_
        obtain ⟨h30, hf⟩ := pg_some hf
        refine va_iald hx hb hK.1 hP 2 0 rfl rfl h30 dX8_ends_30 ?_
        refine lv_istore_n (lv' := [(3, .int (c_games_ending x1.toNatClampNeg)), (0, .ref h0), (1, .int x1), (2, .int x2)]) hx hb dX8_ends_31 rfl hl (by decide) rfl (fun ls hl => ?_)
        refine lv_aload_n hx hb dX8_ends_32 rfl (lv_at hl 1 rfl) ?_
        refine va_get (D := D) (ci := 8) (v := .ref a_games) (C := RX8) (T := TX8) (N := 9) hx hb hL inlX8 hown hK.1 hP 0 rfl rfl 1 (by decide) w0 (fun _ h9 => h9) rfl dX8_ends_33 ?_
        refine va_get (D := D) (ci := 0) (v := .ref a_games_ending) (C := RX0) (T := TX0) (N := 4) hx hb hL inlX0 hown hK.1 hP 1 rfl rfl 2 (by decide) w1 (fun _ h9 => h9) rfl dX8_ends_36 ?_
        refine lv_iload_n hx hb dX8_ends_39 rfl (lv_at hl 2 rfl) ?_
        refine lv_iload_n hx hb dX8_ends_40 rfl (lv_at hl 3 rfl) ?_
        obtain ⟨h41, hf⟩ := pg_some hf
        refine va_iast hx hb hK.1 hP hD hS 2 0 rfl rfl h41 dX8_ends_41 (fun H locs hP hD hS => ?_)
        have hP : va_P D vwCl (wdX8_ends cyI cyJ cyB cyS h0 a_games a_games_ending a_rules a_standing a_reader a_tree a_course a_sheets a_games_first a_games_second v_textFault v_readFault v_games_size (upd c_games_ending x1.toNatClampNeg x2)) H := hP
        have hD : va_D A (wdX8_ends cyI cyJ cyB cyS h0 a_games a_games_ending a_rules a_standing a_reader a_tree a_course a_sheets a_games_first a_games_second v_textFault v_readFault v_games_size (upd c_games_ending x1.toNatClampNeg x2)) := hD
        refine lv_iload_n hx hb dX8_ends_42 rfl (lv_at hl 0 rfl) ?_
        exact ret_i (q := q) (g := fun q => q.1) (wp := fun q => (wdX8_ends cyI cyJ cyB cyS h0 a_games a_games_ending a_rules a_standing a_reader a_tree a_course a_sheets a_games_first a_games_second v_textFault v_readFault v_games_size q.2)) hQ hf hx hb hr hlocks hP hD hS dX8_ends_43 rfl
      · have hf := pif_f c17 hf
        exact hB20 c_games_ending H locs ls hf hP hD hS (lv_sub hl [] rfl)
def fX8_table_17 (N : Nat) (v_games_size : Int32) (c_games_ending : Nat → Int32) (c_games_first : Nat → Int32) (c_games_second : Nat → Int32) (v_rules_sides : Int32) (x1 : Int32) (x2 : Int32) (v_standing_sides : Int32) (c_standing_order : Nat → Int32) (c_standing_seat : Nat → Int32) (c_standing_won : Nat → Int32) : Option (Int32 × Int32 × (Nat → Int32) × (Nat → Int32) × (Nat → Int32)) := some ((-1), v_standing_sides, c_standing_order, c_standing_seat, c_standing_won)
def fX8_table (N : Nat) (v_games_size : Int32) (c_games_ending : Nat → Int32) (c_games_first : Nat → Int32) (c_games_second : Nat → Int32) (v_rules_sides : Int32) (v_standing_sides : Int32) (c_standing_order : Nat → Int32) (c_standing_seat : Nat → Int32) (c_standing_won : Nat → Int32) (x1 : Int32) (x2 : Int32) : Option (Int32 × Int32 × (Nat → Int32) × (Nat → Int32) × (Nat → Int32)) := pb (fX8_isSide N v_rules_sides x1) (fun q2 => pif (q2 = 0) (fX8_table_17 N v_games_size c_games_ending c_games_first c_games_second v_rules_sides x1 x2 v_standing_sides c_standing_order c_standing_seat c_standing_won) (pif (x2 < 0) (fX8_table_17 N v_games_size c_games_ending c_games_first c_games_second v_rules_sides x1 x2 v_standing_sides c_standing_order c_standing_seat c_standing_won) (pif (x2 ≤ 2) (pb (fX4_settle N v_standing_sides c_standing_order v_games_size c_games_ending c_games_first c_games_second c_standing_seat c_standing_won v_rules_sides) (fun q34 => pg (inr x1 6) (pif (x2 = 0) (some (q34.2.1 x1.toNatClampNeg, q34.1, q34.2.1, q34.2.2.1, q34.2.2.2)) (pif (x2 = 1) (pg (inr (q34.2.1 x1.toNatClampNeg) 6) (some (q34.2.2.2 (q34.2.1 x1.toNatClampNeg).toNatClampNeg, q34.1, q34.2.1, q34.2.2.1, q34.2.2.2))) (pb (fX0_openOf N v_games_size c_games_ending c_games_first c_games_second (q34.2.1 x1.toNatClampNeg)) (fun q93 => some (q93, q34.1, q34.2.1, q34.2.2.1, q34.2.2.2))))))) (fX8_table_17 N v_games_size c_games_ending c_games_first c_games_second v_rules_sides x1 x2 v_standing_sides c_standing_order c_standing_seat c_standing_won))))
def wdX8_table (cyI cyJ cyB cyS : ClassId) (h0 : Nat) (a_games : Nat) (a_games_ending : Nat) (a_games_first : Nat) (a_games_second : Nat) (a_rules : Nat) (a_standing : Nat) (a_standing_order : Nat) (a_standing_seat : Nat) (a_standing_won : Nat) (a_reader : Nat) (a_tree : Nat) (a_course : Nat) (a_sheets : Nat) (a_rules_strength : Nat) (a_rules_placeWorth : Nat) (a_rules_choiceWorth : Nat) (a_rules_balls : Nat) (a_rules_wheel : Nat) (a_standing_outAt : Nat) (a_standing_merit : Nat) (a_standing_toCome : Nat) (a_standing_turn : Nat) (v_textFault : Int32) (v_readFault : Int32) (v_games_size : Int32) (c_games_ending : Nat → Int32) (c_games_first : Nat → Int32) (c_games_second : Nat → Int32) (v_rules_sides : Int32) (v_rules_kind : Int32) (v_rules_rounds : Int32) (v_standing_sides : Int32) (c_standing_order : Nat → Int32) (c_standing_seat : Nat → Int32) (c_standing_won : Nat → Int32) : va_W := [(h0, .inr (8, [.ref a_rules, .ref a_games, .ref a_standing, .ref a_reader, .ref a_tree, .ref a_course, .ref a_sheets, .int v_textFault, .int v_readFault])), (a_games, .inr (0, [.ref a_games_first, .ref a_games_second, .ref a_games_ending, .int v_games_size])), (a_games_ending, .inl (cyI, 30, .inl c_games_ending)), (a_games_first, .inl (cyI, 30, .inl c_games_first)), (a_games_second, .inl (cyI, 30, .inl c_games_second)), (a_rules, .inr (2, [.ref a_rules_strength, .ref a_rules_placeWorth, .ref a_rules_choiceWorth, .ref a_rules_balls, .ref a_rules_wheel, .int v_rules_sides, .int v_rules_kind, .int v_rules_rounds])), (a_standing, .inr (4, [.ref a_standing_won, .ref a_standing_order, .ref a_standing_seat, .ref a_standing_outAt, .ref a_standing_merit, .ref a_standing_toCome, .ref a_standing_turn, .int v_standing_sides])), (a_standing_order, .inl (cyI, 6, .inl c_standing_order)), (a_standing_seat, .inl (cyI, 6, .inl c_standing_seat)), (a_standing_won, .inl (cyI, 6, .inl c_standing_won))]
abbrev rmX8_table : Room := { frames := 3, cells := 0, slots := 0, locals := 66 }
set_option maxHeartbeats 40000000 in
set_option maxRecDepth 100000 in
theorem mX8_table (l : Launch) (D : va_G) (cyI cyJ cyB cyS : ClassId) (N : Nat) (sz : Nat) (h0 : Nat) (a_games : Nat) (a_games_ending : Nat) (a_games_first : Nat) (a_games_second : Nat) (a_rules : Nat) (a_standing : Nat) (a_standing_order : Nat) (a_standing_seat : Nat) (a_standing_won : Nat) (a_reader : Nat) (a_tree : Nat) (a_course : Nat) (a_sheets : Nat) (a_rules_strength : Nat) (a_rules_placeWorth : Nat) (a_rules_choiceWorth : Nat) (a_rules_balls : Nat) (a_rules_wheel : Nat) (a_standing_outAt : Nat) (a_standing_merit : Nat) (a_standing_toCome : Nat) (a_standing_turn : Nat) (v_textFault : Int32) (v_readFault : Int32) (v_games_size : Int32) (c_games_ending : Nat → Int32) (c_games_first : Nat → Int32) (c_games_second : Nat → Int32) (v_rules_sides : Int32) (v_rules_kind : Int32) (v_rules_rounds : Int32) (v_standing_sides : Int32) (c_standing_order : Nat → Int32) (c_standing_seat : Nat → Int32) (c_standing_won : Nat → Int32) (x1 : Int32) (x2 : Int32) (q : Int32 × Int32 × (Nat → Int32) × (Nat → Int32) × (Nat → Int32)) (hf : fX8_table N v_games_size c_games_ending c_games_first c_games_second v_rules_sides v_standing_sides c_standing_order c_standing_seat c_standing_won x1 x2 = some q) : Met l yX8_table (wS yX8_table cX8_table 4 (some .int)) rmX8_table (va_Pc [.ref h0, .int x1, .int x2] (PP D cyI cyJ cyB cyS (wdX8_table cyI cyJ cyB cyS h0 a_games a_games_ending a_games_first a_games_second a_rules a_standing a_standing_order a_standing_seat a_standing_won a_reader a_tree a_course a_sheets a_rules_strength a_rules_placeWorth a_rules_choiceWorth a_rules_balls a_rules_wheel a_standing_outAt a_standing_merit a_standing_toCome a_standing_turn v_textFault v_readFault v_games_size c_games_ending c_games_first c_games_second v_rules_sides v_rules_kind v_rules_rounds v_standing_sides c_standing_order c_standing_seat c_standing_won) sz)) (QI q.1 D (wdX8_table cyI cyJ cyB cyS h0 a_games a_games_ending a_games_first a_games_second a_rules a_standing a_standing_order a_standing_seat a_standing_won a_reader a_tree a_course a_sheets a_rules_strength a_rules_placeWorth a_rules_choiceWorth a_rules_balls a_rules_wheel a_standing_outAt a_standing_merit a_standing_toCome a_standing_turn v_textFault v_readFault v_games_size c_games_ending c_games_first c_games_second v_rules_sides v_rules_kind v_rules_rounds q.2.1 q.2.2.1 q.2.2.2.1 q.2.2.2.2) (va_A (wdX8_table cyI cyJ cyB cyS h0 a_games a_games_ending a_games_first a_games_second a_rules a_standing a_standing_order a_standing_seat a_standing_won a_reader a_tree a_course a_sheets a_rules_strength a_rules_placeWorth a_rules_choiceWorth a_rules_balls a_rules_wheel a_standing_outAt a_standing_merit a_standing_toCome a_standing_turn v_textFault v_readFault v_games_size c_games_ending c_games_first c_games_second v_rules_sides v_rules_kind v_rules_rounds v_standing_sides c_standing_order c_standing_seat c_standing_won) sz)) 0 0 (va_A (wdX8_table cyI cyJ cyB cyS h0 a_games a_games_ending a_games_first a_games_second a_rules a_standing a_standing_order a_standing_seat a_standing_won a_reader a_tree a_course a_sheets a_rules_strength a_rules_placeWorth a_rules_choiceWorth a_rules_balls a_rules_wheel a_standing_outAt a_standing_merit a_standing_toCome a_standing_turn v_textFault v_readFault v_games_size c_games_ending c_games_first c_games_second v_rules_sides v_rules_kind v_rules_rounds v_standing_sides c_standing_order c_standing_seat c_standing_won) sz) := by
  refine Met.ofW (cc := cX8_table) (maxL := 4) (ret := (some .int)) (by decide) rfl ?_
  intro p e s m args below meth c s₁ B hml hv
  obtain ⟨rfl, hsz, hP, hK, hD0⟩ := hv
  have hx := B.exec
  have hb := B.bytes
  have hr := B.returns
  have hts := atoms_spec (ws := (wS yX8_table cX8_table 4 (some .int))) B.pre
  have hown : s.vm.findClass RX8 = some m.cls := findClass_of_methodNamed B.named
  have hlocks := B.notSynchronized
  subst hsz
  have hD := hD0.self (sz := s.heap.size)
  refine w_nameQ (fun Q hQ => ?_)
  have hl := lv_entry ([.ref h0, .int x1, .int x2] : List Value) (n := 4) (Nat.le_of_ble_eq_true rfl)
  rw [lg_entry_eq]
  generalize (lg_sl ([.ref h0, .int x1, .int x2] : List Value) ++ List.replicate (4 - (lg_sl ([.ref h0, .int x1, .int x2] : List Value)).length) Slot.unset).toArray = ls at hl ⊢
  have hl : lv_has ls 4 [(0, .ref h0), (1, .int x1), (2, .int x2)] := hl
  generalize hAe : va_A (wdX8_table cyI cyJ cyB cyS h0 a_games a_games_ending a_games_first a_games_second a_rules a_standing a_standing_order a_standing_seat a_standing_won a_reader a_tree a_course a_sheets a_rules_strength a_rules_placeWorth a_rules_choiceWorth a_rules_balls a_rules_wheel a_standing_outAt a_standing_merit a_standing_toCome a_standing_turn v_textFault v_readFault v_games_size c_games_ending c_games_first c_games_second v_rules_sides v_rules_kind v_rules_rounds v_standing_sides c_standing_order c_standing_seat c_standing_won) s.heap.size = A at hD hQ
  have hA : ∀ q : Nat, s.heap.size ≤ q → A q := fun q h => by rw [← hAe]; exact Or.inr h
  have hS : va_S A s.heap s.heap [] := va_S.rf
  generalize ([.ref h0, .int x1, .int x2] : List Value).toArray = av at hts hQ ⊢
  have hL : ∀ w ∈ wsL_law, w.before av s = true := fun w h => hts w (List.mem_cons_of_mem _ h)
  have w0 := hL (.fieldLink RX8 26 "LosingLeague" "standing" "LLosingLeague$Standing;") (hR2 0 rfl)
  have w1 := hL (.fieldLink RX8 19 "LosingLeague" "games" "LLosingLeague$Games;") (hR1 20 rfl)
  have w2 := hL (.fieldLink RX8 10 "LosingLeague" "rules" "LLosingLeague$Rules;") (hR1 16 rfl)
  have w3 := hL (.fieldLink RX8 101 "LosingLeague$Rules" "sides" "I") (hR8 20 rfl)
  have w4 := hL (.fieldLink RX8 161 "LosingLeague$Standing" "order" "[I") (hR22 15 rfl)
  have w5 := hL (.fieldLink RX8 164 "LosingLeague$Standing" "won" "[I") (hR22 16 rfl)
  have hB17 : ∀ (v_standing_sides : Int32) (c_standing_order : Nat → Int32) (c_standing_seat : Nat → Int32) (c_standing_won : Nat → Int32) (H : Heap) (locs : List Loc) (ls : Array Slot), fX8_table_17 N v_games_size c_games_ending c_games_first c_games_second v_rules_sides x1 x2 v_standing_sides c_standing_order c_standing_seat c_standing_won = some q → va_P D vwCl (wdX8_table cyI cyJ cyB cyS h0 a_games a_games_ending a_games_first a_games_second a_rules a_standing a_standing_order a_standing_seat a_standing_won a_reader a_tree a_course a_sheets a_rules_strength a_rules_placeWorth a_rules_choiceWorth a_rules_balls a_rules_wheel a_standing_outAt a_standing_merit a_standing_toCome a_standing_turn v_textFault v_readFault v_games_size c_games_ending c_games_first c_games_second v_rules_sides v_rules_kind v_rules_rounds v_standing_sides c_standing_order c_standing_seat c_standing_won) H → va_D A (wdX8_table cyI cyJ cyB cyS h0 a_games a_games_ending a_games_first a_games_second a_rules a_standing a_standing_order a_standing_seat a_standing_won a_reader a_tree a_course a_sheets a_rules_strength a_rules_placeWorth a_rules_choiceWorth a_rules_balls a_rules_wheel a_standing_outAt a_standing_merit a_standing_toCome a_standing_turn v_textFault v_readFault v_games_size c_games_ending c_games_first c_games_second v_rules_sides v_rules_kind v_rules_rounds v_standing_sides c_standing_order c_standing_seat c_standing_won) → va_S A s.heap H locs → lv_has ls 4 [] → W p l e rmX8_table s m av below meth c H locs 0 0 Q (F0 m 17 ls []) := by
    intro v_standing_sides c_standing_order c_standing_seat c_standing_won H locs ls hf hP hD hS hl
    unfold fX8_table_17 at hf
    refine lv_iconst (v := (-1)) hx hb dX8_table_17 (by decide) ?_
    exact ret_i (q := q) (g := fun q => q.1) (wp := fun q => (wdX8_table cyI cyJ cyB cyS h0 a_games a_games_ending a_games_first a_games_second a_rules a_standing a_standing_order a_standing_seat a_standing_won a_reader a_tree a_course a_sheets a_rules_strength a_rules_placeWorth a_rules_choiceWorth a_rules_balls a_rules_wheel a_standing_outAt a_standing_merit a_standing_toCome a_standing_turn v_textFault v_readFault v_games_size c_games_ending c_games_first c_games_second v_rules_sides v_rules_kind v_rules_rounds q.2.1 q.2.2.1 q.2.2.2.1 q.2.2.2.2)) hQ hf hx hb hr hlocks hP hD hS dX8_table_18 rfl
  unfold fX8_table at hf
  obtain ⟨H, hH⟩ : ∃ H : Heap, H = s.heap := ⟨_, rfl⟩
  obtain ⟨locs, hlo⟩ : ∃ locs : List Loc, locs = [] := ⟨_, rfl⟩
  have hP : va_P D vwCl (wdX8_table cyI cyJ cyB cyS h0 a_games a_games_ending a_games_first a_games_second a_rules a_standing a_standing_order a_standing_seat a_standing_won a_reader a_tree a_course a_sheets a_rules_strength a_rules_placeWorth a_rules_choiceWorth a_rules_balls a_rules_wheel a_standing_outAt a_standing_merit a_standing_toCome a_standing_turn v_textFault v_readFault v_games_size c_games_ending c_games_first c_games_second v_rules_sides v_rules_kind v_rules_rounds v_standing_sides c_standing_order c_standing_seat c_standing_won) H := by rw [hH]; exact hP
  have hS : va_S A s.heap H locs := by rw [hH, hlo]; exact hS
  suffices hw : W p l e rmX8_table s m av below meth c H locs 0 0 Q (F0 m 0 ls []) by rw [hH, hlo] at hw; exact hw
  refine lv_aload_n hx hb dX8_table_0 rfl (lv_at hl 0 rfl) ?_
  refine lv_iload_n hx hb dX8_table_1 rfl (lv_at hl 1 rfl) ?_
  obtain ⟨q2, e2, hf⟩ := pb_some hf
  refine cs_i (wc := (wdX8_isSide cyI cyJ cyB cyS h0 a_rules a_games a_standing a_reader a_tree a_course a_sheets a_rules_strength a_rules_placeWorth a_rules_choiceWorth a_rules_balls a_rules_wheel v_textFault v_readFault v_rules_sides v_rules_kind v_rules_rounds)) (w1 := (wdX8_isSide cyI cyJ cyB cyS h0 a_rules a_games a_standing a_reader a_tree a_course a_sheets a_rules_strength a_rules_placeWorth a_rules_choiceWorth a_rules_balls a_rules_wheel v_textFault v_readFault v_rules_sides v_rules_kind v_rules_rounds)) hP hD hS hA [0, 5] rfl rfl rfl (va_runV (C := RX8) (As := [.int x1]) (rest := []) ⟨hx, hb, hml, hown, hL⟩ (mX8_isSide l D cyI cyJ cyB cyS N H.size h0 a_rules a_games a_standing a_reader a_tree a_course a_sheets a_rules_strength a_rules_placeWorth a_rules_choiceWorth a_rules_balls a_rules_wheel v_textFault v_readFault v_rules_sides v_rules_kind v_rules_rounds x1 q2 e2) (cwV 1 hL (gV (hR19 23 rfl) (hR20 0 rfl) (hR20 1 rfl) (hR1 2 rfl) (hR20 2 rfl)) rfl rfl rfl (by decide +kernel) ⟨Nat.le_of_ble_eq_true rfl, Nat.le_of_ble_eq_true rfl⟩) (PP_preV (ci := 8) (q0 := 0) hP hD hK [0, 5] rfl rfl rfl rfl) rfl rfl hl.1 rfl (lv_room (Nat.le_of_ble_eq_true rfl)) dX8_table_2 ⟨Nat.le_of_ble_eq_true rfl, Nat.le_of_ble_eq_true rfl⟩) (fun H locs hP hD hS => ?_)
  have hP : va_P D vwCl (wdX8_table cyI cyJ cyB cyS h0 a_games a_games_ending a_games_first a_games_second a_rules a_standing a_standing_order a_standing_seat a_standing_won a_reader a_tree a_course a_sheets a_rules_strength a_rules_placeWorth a_rules_choiceWorth a_rules_balls a_rules_wheel a_standing_outAt a_standing_merit a_standing_toCome a_standing_turn v_textFault v_readFault v_games_size c_games_ending c_games_first c_games_second v_rules_sides v_rules_kind v_rules_rounds v_standing_sides c_standing_order c_standing_seat c_standing_won) H := hP
  have hD : va_D A (wdX8_table cyI cyJ cyB cyS h0 a_games a_games_ending a_games_first a_games_second a_rules a_standing a_standing_order a_standing_seat a_standing_won a_reader a_tree a_course a_sheets a_rules_strength a_rules_placeWorth a_rules_choiceWorth a_rules_balls a_rules_wheel a_standing_outAt a_standing_merit a_standing_toCome a_standing_turn v_textFault v_readFault v_games_size c_games_ending c_games_first c_games_second v_rules_sides v_rules_kind v_rules_rounds v_standing_sides c_standing_order c_standing_seat c_standing_won) := hD
  refine lv_if_eq (tgt := 17) hx hb dX8_table_5 (by decide) (fun c5 => ?_) (fun c5 => ?_)
  · have hf := pif_t c5 hf
    exact hB17 v_standing_sides c_standing_order c_standing_seat c_standing_won H locs ls hf hP hD hS (lv_sub hl [] rfl)
  · have hf := pif_f c5 hf
    refine lv_iload_n hx hb dX8_table_8 rfl (lv_at hl 2 rfl) ?_
    refine lv_if_lt (tgt := 17) hx hb dX8_table_9 (by decide) (fun c9 => ?_) (fun c9 => ?_)
    · have hf := pif_t c9 hf
      exact hB17 v_standing_sides c_standing_order c_standing_seat c_standing_won H locs ls hf hP hD hS (lv_sub hl [] rfl)
    · have hf := pif_f c9 hf
      refine lv_iload_n hx hb dX8_table_12 rfl (lv_at hl 2 rfl) ?_
      refine lv_iconst (v := 2) hx hb dX8_table_13 (by decide) ?_
      refine lv_icmp_le (tgt := 19) hx hb dX8_table_14 (by decide) (fun c14 => ?_) (fun c14 => ?_)
      · have hf := pif_t c14 hf
        refine lv_aload_n hx hb dX8_table_19 rfl (lv_at hl 0 rfl) ?_
        refine va_get (D := D) (ci := 8) (v := .ref a_standing) (C := RX8) (T := TX8) (N := 9) hx hb hL inlX8 hown hK.1 hP 0 rfl rfl 2 (by decide) w0 (fun _ h9 => h9) rfl dX8_table_20 ?_
        refine lv_aload_n hx hb dX8_table_23 rfl (lv_at hl 0 rfl) ?_
        refine va_get (D := D) (ci := 8) (v := .ref a_games) (C := RX8) (T := TX8) (N := 9) hx hb hL inlX8 hown hK.1 hP 0 rfl rfl 1 (by decide) w1 (fun _ h9 => h9) rfl dX8_table_24 ?_
        refine lv_aload_n hx hb dX8_table_27 rfl (lv_at hl 0 rfl) ?_
        refine va_get (D := D) (ci := 8) (v := .ref a_rules) (C := RX8) (T := TX8) (N := 9) hx hb hL inlX8 hown hK.1 hP 0 rfl rfl 0 (by decide) w2 (fun _ h9 => h9) rfl dX8_table_28 ?_
        refine va_get (D := D) (ci := 2) (v := .int v_rules_sides) (C := RX2) (T := TX2) (N := 8) hx hb hL inlX2 hown hK.1 hP 5 rfl rfl 5 (by decide) w3 (fun _ h9 => h9) rfl dX8_table_31 ?_
        obtain ⟨q34, e34, hf⟩ := pb_some hf
        refine cs_v (wc := (wdX4_settle cyI cyJ cyB cyS a_standing a_standing_order a_games a_games_ending a_games_first a_games_second a_standing_seat a_standing_won a_standing_outAt a_standing_merit a_standing_toCome a_standing_turn v_standing_sides c_standing_order v_games_size c_games_ending c_games_first c_games_second c_standing_seat c_standing_won)) (w1 := (wdX4_settle cyI cyJ cyB cyS a_standing a_standing_order a_games a_games_ending a_games_first a_games_second a_standing_seat a_standing_won a_standing_outAt a_standing_merit a_standing_toCome a_standing_turn q34.1 q34.2.1 v_games_size c_games_ending c_games_first c_games_second q34.2.2.1 q34.2.2.2)) hP hD hS hA [6, 7, 1, 2, 3, 4, 8, 9] rfl rfl rfl (va_runV (C := RX4) (As := [.ref a_games, .int v_rules_sides]) (rest := []) ⟨hx, hb, hml, hown, hL⟩ (mX4_settle l D cyI cyJ cyB cyS N H.size a_standing a_standing_order a_games a_games_ending a_games_first a_games_second a_standing_seat a_standing_won a_standing_outAt a_standing_merit a_standing_toCome a_standing_turn v_standing_sides c_standing_order v_games_size c_games_ending c_games_first c_games_second c_standing_seat c_standing_won v_rules_sides q34 e34) (cwV 2 hL (gV (hR22 17 rfl) (hR22 18 rfl) (hR22 19 rfl) (hR1 23 rfl) (hR22 20 rfl)) rfl rfl rfl (by decide +kernel) ⟨Nat.le_of_ble_eq_true rfl, Nat.le_of_ble_eq_true rfl⟩) (PP_preV (ci := 4) (q0 := 6) hP hD hK [6, 7, 1, 2, 3, 4, 8, 9] rfl rfl rfl rfl) rfl rfl hl.1 rfl (lv_room (Nat.le_of_ble_eq_true rfl)) dX8_table_34 ⟨Nat.le_of_ble_eq_true rfl, Nat.le_of_ble_eq_true rfl⟩) (fun H locs hP hD hS => ?_)
        have hP : va_P D vwCl (wdX8_table cyI cyJ cyB cyS h0 a_games a_games_ending a_games_first a_games_second a_rules a_standing a_standing_order a_standing_seat a_standing_won a_reader a_tree a_course a_sheets a_rules_strength a_rules_placeWorth a_rules_choiceWorth a_rules_balls a_rules_wheel a_standing_outAt a_standing_merit a_standing_toCome a_standing_turn v_textFault v_readFault v_games_size c_games_ending c_games_first c_games_second v_rules_sides v_rules_kind v_rules_rounds q34.1 q34.2.1 q34.2.2.1 q34.2.2.2) H := hP
        have hD : va_D A (wdX8_table cyI cyJ cyB cyS h0 a_games a_games_ending a_games_first a_games_second a_rules a_standing a_standing_order a_standing_seat a_standing_won a_reader a_tree a_course a_sheets a_rules_strength a_rules_placeWorth a_rules_choiceWorth a_rules_balls a_rules_wheel a_standing_outAt a_standing_merit a_standing_toCome a_standing_turn v_textFault v_readFault v_games_size c_games_ending c_games_first c_games_second v_rules_sides v_rules_kind v_rules_rounds q34.1 q34.2.1 q34.2.2.1 q34.2.2.2) := hD
        refine lv_aload_n hx hb dX8_table_37 rfl (lv_at hl 0 rfl) ?_
        refine va_get (D := D) (ci := 8) (v := .ref a_standing) (C := RX8) (T := TX8) (N := 9) hx hb hL inlX8 hown hK.1 hP 0 rfl rfl 2 (by decide) w0 (fun _ h9 => h9) rfl dX8_table_38 ?_
        refine va_get (D := D) (ci := 4) (v := .ref a_standing_order) (C := RX4) (T := TX4) (N := 8) hx hb hL inlX4 hown hK.1 hP 6 rfl rfl 1 (by decide) w4 (fun _ h9 => h9) rfl dX8_table_41 ?_
        refine lv_iload_n hx hb dX8_table_44 rfl (lv_at hl 1 rfl) ?_
        obtain ⟨h45, hf⟩ := pg_some hf
        refine va_iald hx hb hK.1 hP 7 0 rfl rfl h45 dX8_table_45 ?_
        refine lv_istore_n (lv' := [(3, .int (q34.2.1 x1.toNatClampNeg)), (0, .ref h0), (1, .int x1), (2, .int x2)]) hx hb dX8_table_46 rfl hl (by decide) rfl (fun ls hl => ?_)
        refine lv_iload_n hx hb dX8_table_47 rfl (lv_at hl 3 rfl) ?_
        rcases Decidable.em (x2 = 0) with z48_0 | z48_0
        · have hf := pif_t z48_0 hf
          refine lv_lookup (off := 28) (tgt := 76) hx hb dX8_table_48 (by decide) (by rw [z48_0]; try rfl) (by decide) ?_
          refine lv_iload_n hx hb dX8_table_76 rfl (lv_at hl 0 rfl) ?_
          exact ret_i (q := q) (g := fun q => q.1) (wp := fun q => (wdX8_table cyI cyJ cyB cyS h0 a_games a_games_ending a_games_first a_games_second a_rules a_standing a_standing_order a_standing_seat a_standing_won a_reader a_tree a_course a_sheets a_rules_strength a_rules_placeWorth a_rules_choiceWorth a_rules_balls a_rules_wheel a_standing_outAt a_standing_merit a_standing_toCome a_standing_turn v_textFault v_readFault v_games_size c_games_ending c_games_first c_games_second v_rules_sides v_rules_kind v_rules_rounds q.2.1 q.2.2.1 q.2.2.2.1 q.2.2.2.2)) hQ hf hx hb hr hlocks hP hD hS dX8_table_77 rfl
        · have hf := pif_f z48_0 hf
          rcases Decidable.em (x2 = 1) with z48_1 | z48_1
          · have hf := pif_t z48_1 hf
            refine lv_lookup (off := 30) (tgt := 78) hx hb dX8_table_48 (by decide) (by rw [z48_1]; try rfl) (by decide) ?_
            refine lv_aload_n hx hb dX8_table_78 rfl (lv_at hl 1 rfl) ?_
            refine va_get (D := D) (ci := 8) (v := .ref a_standing) (C := RX8) (T := TX8) (N := 9) hx hb hL inlX8 hown hK.1 hP 0 rfl rfl 2 (by decide) w0 (fun _ h9 => h9) rfl dX8_table_79 ?_
            refine va_get (D := D) (ci := 4) (v := .ref a_standing_won) (C := RX4) (T := TX4) (N := 8) hx hb hL inlX4 hown hK.1 hP 6 rfl rfl 0 (by decide) w5 (fun _ h9 => h9) rfl dX8_table_82 ?_
            refine lv_iload_n hx hb dX8_table_85 rfl (lv_at hl 0 rfl) ?_
            obtain ⟨h86, hf⟩ := pg_some hf
            refine va_iald hx hb hK.1 hP 9 0 rfl rfl h86 dX8_table_86 ?_
            exact ret_i (q := q) (g := fun q => q.1) (wp := fun q => (wdX8_table cyI cyJ cyB cyS h0 a_games a_games_ending a_games_first a_games_second a_rules a_standing a_standing_order a_standing_seat a_standing_won a_reader a_tree a_course a_sheets a_rules_strength a_rules_placeWorth a_rules_choiceWorth a_rules_balls a_rules_wheel a_standing_outAt a_standing_merit a_standing_toCome a_standing_turn v_textFault v_readFault v_games_size c_games_ending c_games_first c_games_second v_rules_sides v_rules_kind v_rules_rounds q.2.1 q.2.2.1 q.2.2.2.1 q.2.2.2.2)) hQ hf hx hb hr hlocks hP hD hS dX8_table_87 rfl
          · have hf := pif_f z48_1 hf
            refine lv_lookup (off := 40) (tgt := 88) hx hb dX8_table_48 (by decide) ((lv_osw z48_0 rfl).trans ((lv_osw z48_1 rfl).trans rfl)) (by decide) ?_
            refine lv_aload_n hx hb dX8_table_88 rfl (lv_at hl 1 rfl) ?_
            refine va_get (D := D) (ci := 8) (v := .ref a_games) (C := RX8) (T := TX8) (N := 9) hx hb hL inlX8 hown hK.1 hP 0 rfl rfl 1 (by decide) w1 (fun _ h9 => h9) rfl dX8_table_89 ?_
            refine lv_iload_n hx hb dX8_table_92 rfl (lv_at hl 0 rfl) ?_
            obtain ⟨q93, e93, hf⟩ := pb_some hf
            refine cs_i (wc := (wdX0_openOf cyI cyJ cyB cyS a_games a_games_ending a_games_first a_games_second v_games_size c_games_ending c_games_first c_games_second)) (w1 := (wdX0_openOf cyI cyJ cyB cyS a_games a_games_ending a_games_first a_games_second v_games_size c_games_ending c_games_first c_games_second)) hP hD hS hA [1, 2, 3, 4] rfl rfl rfl (va_runV (C := RX0) (As := [.int (q34.2.1 x1.toNatClampNeg)]) (rest := []) ⟨hx, hb, hml, hown, hL⟩ (mX0_openOf l D cyI cyJ cyB cyS N H.size a_games a_games_ending a_games_first a_games_second v_games_size c_games_ending c_games_first c_games_second (q34.2.1 x1.toNatClampNeg) q93 e93) (cwV 1 hL (gV (hR23 4 rfl) (hR23 5 rfl) (hR23 6 rfl) (hR1 19 rfl) (hR23 7 rfl)) rfl rfl rfl (by decide +kernel) ⟨Nat.le_of_ble_eq_true rfl, Nat.le_of_ble_eq_true rfl⟩) (PP_preV (ci := 0) (q0 := 1) hP hD hK [1, 2, 3, 4] rfl rfl rfl rfl) rfl rfl hl.1 rfl (lv_room (Nat.le_of_ble_eq_true rfl)) dX8_table_93 ⟨Nat.le_of_ble_eq_true rfl, Nat.le_of_ble_eq_true rfl⟩) (fun H locs hP hD hS => ?_)
            have hP : va_P D vwCl (wdX8_table cyI cyJ cyB cyS h0 a_games a_games_ending a_games_first a_games_second a_rules a_standing a_standing_order a_standing_seat a_standing_won a_reader a_tree a_course a_sheets a_rules_strength a_rules_placeWorth a_rules_choiceWorth a_rules_balls a_rules_wheel a_standing_outAt a_standing_merit a_standing_toCome a_standing_turn v_textFault v_readFault v_games_size c_games_ending c_games_first c_games_second v_rules_sides v_rules_kind v_rules_rounds q34.1 q34.2.1 q34.2.2.1 q34.2.2.2) H := hP
            have hD : va_D A (wdX8_table cyI cyJ cyB cyS h0 a_games a_games_ending a_games_first a_games_second a_rules a_standing a_standing_order a_standing_seat a_standing_won a_reader a_tree a_course a_sheets a_rules_strength a_rules_placeWorth a_rules_choiceWorth a_rules_balls a_rules_wheel a_standing_outAt a_standing_merit a_standing_toCome a_standing_turn v_textFault v_readFault v_games_size c_games_ending c_games_first c_games_second v_rules_sides v_rules_kind v_rules_rounds q34.1 q34.2.1 q34.2.2.1 q34.2.2.2) := hD
            exact ret_i (q := q) (g := fun q => q.1) (wp := fun q => (wdX8_table cyI cyJ cyB cyS h0 a_games a_games_ending a_games_first a_games_second a_rules a_standing a_standing_order a_standing_seat a_standing_won a_reader a_tree a_course a_sheets a_rules_strength a_rules_placeWorth a_rules_choiceWorth a_rules_balls a_rules_wheel a_standing_outAt a_standing_merit a_standing_toCome a_standing_turn v_textFault v_readFault v_games_size c_games_ending c_games_first c_games_second v_rules_sides v_rules_kind v_rules_rounds q.2.1 q.2.2.1 q.2.2.2.1 q.2.2.2.2)) hQ hf hx hb hr hlocks hP hD hS dX8_table_96 rfl
      · have hf := pif_f c14 hf
        exact hB17 v_standing_sides c_standing_order c_standing_seat c_standing_won H locs ls hf hP hD hS (lv_sub hl [] rfl)
