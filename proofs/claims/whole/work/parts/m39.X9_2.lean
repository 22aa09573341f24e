abbrev rmX9_rule : Room := { frames := 2, cells := 0, slots := 0, locals := 46 }
set_option maxHeartbeats 40000000 in
set_option maxRecDepth 100000 in
theorem mX9_rule (l : Launch) (D : va_G) (cyI cyJ cyB cyS : ClassId) (N : Nat) (sz : Nat) (a9 : Nat → Nat) (i9 : Nat → Int32) (g9 : Nat → Int64) (c_holds : Nat → Int32) (x1 : Int32) (q : Int32) (hf : fX9_rule N c_holds x1 = some q) : Met l yX9_rule (wS yX9_rule cX9_rule 2 (some .int)) rmX9_rule (va_Pc [.ref (a9 0), .int x1] (PP D cyI cyJ cyB cyS [(a9 0, .inr (9, fl9 a9 i9 g9)), ((a9 5), .inl (cyI, 32, .inl c_holds))] sz)) (QI q D [(a9 0, .inr (9, fl9 a9 i9 g9)), ((a9 5), .inl (cyI, 32, .inl c_holds))] (va_A [(a9 0, .inr (9, fl9 a9 i9 g9)), ((a9 5), .inl (cyI, 32, .inl c_holds))] sz)) 0 0 (va_A [(a9 0, .inr (9, fl9 a9 i9 g9)), ((a9 5), .inl (cyI, 32, .inl c_holds))] sz) := by
  refine Met.ofW (cc := cX9_rule) (maxL := 2) (ret := (some .int)) (by decide) rfl ?_
  intro p e s m args below meth c s₁ B hml hv
  obtain ⟨rfl, hsz, hP, hK, hD0⟩ := hv
  have hx := B.exec
  have hb := B.bytes
  have hr := B.returns
  have hts := atoms_spec (ws := (wS yX9_rule cX9_rule 2 (some .int))) B.pre
  have hown : s.vm.findClass RX9 = some m.cls := findClass_of_methodNamed B.named
  have hlocks := B.notSynchronized
  subst hsz
  have hD := hD0.self (sz := s.heap.size)
  refine w_nameQ (fun Q hQ => ?_)
  have hl := lv_entry ([.ref (a9 0), .int x1] : List Value) (n := 2) (Nat.le_of_ble_eq_true rfl)
  rw [lg_entry_eq]
  generalize (lg_sl ([.ref (a9 0), .int x1] : List Value) ++ List.replicate (2 - (lg_sl ([.ref (a9 0), .int x1] : List Value)).length) Slot.unset).toArray = ls at hl ⊢
  have hl : lv_has ls 2 [(0, .ref (a9 0)), (1, .int x1)] := hl
  generalize hAe : va_A [(a9 0, .inr (9, fl9 a9 i9 g9)), ((a9 5), .inl (cyI, 32, .inl c_holds))] s.heap.size = A at hD hQ
  have hA : ∀ q : Nat, s.heap.size ≤ q → A q := fun q h => by rw [← hAe]; exact Or.inr h
  have hS : va_S A s.heap s.heap [] := va_S.rf
  generalize ([.ref (a9 0), .int x1] : List Value).toArray = av at hts hQ ⊢
  have hL : ∀ w ∈ wsL_law, w.before av s = true := fun w h => hts w (List.mem_cons_of_mem _ h)
  have w0 := hL (.static yX9_in) (hR8 8 rfl)
  have w1 := hL (.fieldLink RX9 22 "LosingLeagueModel" "holds" "[I") (hR6 8 rfl)
  have hB65 : ∀ (s0 : Int32) (H : Heap) (locs : List Loc) (ls : Array Slot), fX9_rule_65 N c_holds x1 s0 = some q → va_P D vwCl [(a9 0, .inr (9, fl9 a9 i9 g9)), ((a9 5), .inl (cyI, 32, .inl c_holds))] H → va_D A [(a9 0, .inr (9, fl9 a9 i9 g9)), ((a9 5), .inl (cyI, 32, .inl c_holds))] → va_S A s.heap H locs → lv_has ls 2 [] → W p l e rmX9_rule s m av below meth c H locs 0 0 Q (F0 m 65 ls [.int s0]) := by
    intro s0 H locs ls hf hP hD hS hl
    unfold fX9_rule_65 at hf
    exact ret_i (q := q) (g := fun q => q) (wp := fun q => [(a9 0, .inr (9, fl9 a9 i9 g9)), ((a9 5), .inl (cyI, 32, .inl c_holds))]) hQ hf hx hb hr hlocks hP hD hS dX9_rule_65 rfl
  have hB64 : ∀ (H : Heap) (locs : List Loc) (ls : Array Slot), fX9_rule_64 N c_holds x1 = some q → va_P D vwCl [(a9 0, .inr (9, fl9 a9 i9 g9)), ((a9 5), .inl (cyI, 32, .inl c_holds))] H → va_D A [(a9 0, .inr (9, fl9 a9 i9 g9)), ((a9 5), .inl (cyI, 32, .inl c_holds))] → va_S A s.heap H locs → lv_has ls 2 [] → W p l e rmX9_rule s m av below meth c H locs 0 0 Q (F0 m 64 ls []) := by
    intro  H locs ls hf hP hD hS hl
    unfold fX9_rule_64 at hf
    refine lv_iconst (v := (-1)) hx hb dX9_rule_64 (by decide) ?_
    exact hB65 (-1) H locs ls hf hP hD hS (lv_sub hl [] rfl)
  unfold fX9_rule at hf
  obtain ⟨H, hH⟩ : ∃ H : Heap, H = s.heap := ⟨_, rfl⟩
  obtain ⟨locs, hlo⟩ : ∃ locs : List Loc, locs = [] := ⟨_, rfl⟩
  have hP : va_P D vwCl [(a9 0, .inr (9, fl9 a9 i9 g9)), ((a9 5), .inl (cyI, 32, .inl c_holds))] H := by rw [hH]; exact hP
  have hS : va_S A s.heap H locs := by rw [hH, hlo]; exact hS
  suffices hw : W p l e rmX9_rule s m av below meth c H locs 0 0 Q (F0 m 0 ls []) by rw [hH, hlo] at hw; exact hw
  refine lv_iload_n hx hb dX9_rule_0 rfl (lv_at hl 1 rfl) ?_
  refine lv_i2l hx hb dX9_rule_1 rfl ?_
  refine lv_lconst (v := 0) hx hb dX9_rule_2 (by decide) ?_
  refine lv_lconst (v := 1) hx hb dX9_rule_3 (by decide) ?_
  obtain ⟨q4, e4, hf⟩ := pb_some hf
  refine cc_i (wc := []) (wr := [(a9 0, .inr (9, fl9 a9 i9 g9)), ((a9 5), .inl (cyI, 32, .inl c_holds))]) (w1 := []) (wn := [(a9 0, .inr (9, fl9 a9 i9 g9)), ((a9 5), .inl (cyI, 32, .inl c_holds))]) hP hD hS hA [] [0, 1] [0, 1] rfl rfl rfl (by decide) rfl rfl (va_runS (As := [.long ((x1 : Int32).toInt64), .long 0, .long 1]) (rest := []) ⟨hx, hb, hml, hown, hL⟩ (mX9_in l D cyI cyJ cyB cyS N H.size   ((x1 : Int32).toInt64) 0 1 q4 e4) (va_cwS 3 hL (gS (hR8 7 rfl) (hR8 8 rfl) (hR1 5 rfl) (hR8 9 rfl)) rfl rfl rfl (by decide +kernel) ⟨Nat.le_of_ble_eq_true rfl, Nat.le_of_ble_eq_true rfl⟩) (PP_preS hP hD hK [] rfl rfl) rfl rfl hl.1 rfl (lv_room (Nat.le_of_ble_eq_true rfl)) dX9_rule_4 ⟨Nat.le_of_ble_eq_true rfl, Nat.le_of_ble_eq_true rfl⟩) (fun H locs hP hD hS => ?_)
  refine lv_if_eq (tgt := 17) hx hb dX9_rule_7 (by decide) (fun c7 => ?_) (fun c7 => ?_)
  · have hf := pif_t c7 hf
    refine lv_iload_n hx hb dX9_rule_17 rfl (lv_at hl 1 rfl) ?_
    refine lv_bipush (v := 10) hx hb dX9_rule_18 (by decide) ?_
    refine lv_icmp_lt (tgt := 64) hx hb dX9_rule_20 (by decide) (fun c20 => ?_) (fun c20 => ?_)
    · have hf := pif_t c20 hf
      exact hB64 H locs ls hf hP hD hS (lv_sub hl [] rfl)
    · have hf := pif_f c20 hf
      refine lv_iload_n hx hb dX9_rule_23 rfl (lv_at hl 1 rfl) ?_
      refine lv_bipush (v := 60) hx hb dX9_rule_24 (by decide) ?_
      refine lv_icmp_ge (tgt := 64) hx hb dX9_rule_26 (by decide) (fun c26 => ?_) (fun c26 => ?_)
      · have hf := pif_t c26 hf
        exact hB64 H locs ls hf hP hD hS (lv_sub hl [] rfl)
      · have hf := pif_f c26 hf
        refine lv_aload_n hx hb dX9_rule_29 rfl (lv_at hl 0 rfl) ?_
        refine lv_iload_n hx hb dX9_rule_30 rfl (lv_at hl 1 rfl) ?_
        refine lv_bipush (v := 10) hx hb dX9_rule_31 (by decide) ?_
        refine lv_irem hx hb dX9_rule_33 (by decide) ?_
        obtain ⟨q34, e34, hf⟩ := pb_some hf
        refine cc_i (wc := [(a9 0, .inr (9, fl9 a9 i9 g9)), ((a9 5), .inl (cyI, 32, .inl c_holds))]) (wr := []) (w1 := [(a9 0, .inr (9, fl9 a9 i9 g9)), ((a9 5), .inl (cyI, 32, .inl c_holds))]) (wn := [(a9 0, .inr (9, fl9 a9 i9 g9)), ((a9 5), .inl (cyI, 32, .inl c_holds))]) hP hD hS hA [0, 1] [] [0, 1] rfl rfl rfl (by decide) rfl rfl (va_runV (C := RX9) (As := [.int (x1 - x1 / 10 * 10)]) (rest := []) ⟨hx, hb, hml, hown, hL⟩ (mX9_isSide l D cyI cyJ cyB cyS N H.size a9 i9 g9 c_holds (x1 - x1 / 10 * 10) q34 e34) (cwV 1 hL (gV (hR19 11 rfl) (hR19 12 rfl) (hR19 13 rfl) (hR1 5 rfl) (hR19 14 rfl)) rfl rfl rfl (by decide +kernel) ⟨Nat.le_of_ble_eq_true rfl, Nat.le_of_ble_eq_true rfl⟩) (PP_preV (ci := 9) (q0 := 0) hP hD hK [0, 1] rfl rfl rfl rfl) rfl rfl hl.1 rfl (lv_room (Nat.le_of_ble_eq_true rfl)) dX9_rule_34 ⟨Nat.le_of_ble_eq_true rfl, Nat.le_of_ble_eq_true rfl⟩) (fun H locs hP hD hS => ?_)
        refine lv_if_eq (tgt := 64) hx hb dX9_rule_37 (by decide) (fun c37 => ?_) (fun c37 => ?_)
        · have hf := pif_t c37 hf
          exact hB64 H locs ls hf hP hD hS (lv_sub hl [] rfl)
        · have hf := pif_f c37 hf
          refine lv_aload_n hx hb dX9_rule_40 rfl (lv_at hl 0 rfl) ?_
          refine va_get (D := D) (ci := 9) (v := .ref (a9 5)) (C := RX9) (T := TX9) (N := 52) hx hb hL inlX9 hown hK.1 hP 0 rfl rfl 12 (by decide) w1 (fun _ h9 => h9) rfl dX9_rule_41 ?_
          refine lv_iconst (v := 2) hx hb dX9_rule_44 (by decide) ?_
          refine lv_bipush (v := 6) hx hb dX9_rule_45 (by decide) ?_
          refine lv_iload_n hx hb dX9_rule_47 rfl (lv_at hl 1 rfl) ?_
          refine lv_bipush (v := 10) hx hb dX9_rule_48 (by decide) ?_
          refine lv_idiv hx hb dX9_rule_50 (by decide) ?_
          refine lv_iconst (v := 1) hx hb dX9_rule_51 (by decide) ?_
          refine lv_isub hx hb dX9_rule_52 ?_
          refine lv_imul hx hb dX9_rule_53 ?_
          refine lv_iadd hx hb dX9_rule_54 ?_
          refine lv_iload_n hx hb dX9_rule_55 rfl (lv_at hl 1 rfl) ?_
          refine lv_bipush (v := 10) hx hb dX9_rule_56 (by decide) ?_
          refine lv_irem hx hb dX9_rule_58 (by decide) ?_
          refine lv_iadd hx hb dX9_rule_59 ?_
          obtain ⟨h60, hf⟩ := pg_some hf
          refine va_iald hx hb hK.1 hP 1 0 rfl rfl h60 dX9_rule_60 ?_
          refine lv_goto (tgt := 65) hx hb dX9_rule_61 (by decide) ?_
          exact hB65 (c_holds ((2 + (6 * ((x1 / 10) - 1))) + (x1 - x1 / 10 * 10)).toNatClampNeg) H locs ls hf hP hD hS (lv_sub hl [] rfl)
  · have hf := pif_f c7 hf
    refine lv_aload_n hx hb dX9_rule_10 rfl (lv_at hl 0 rfl) ?_
    refine va_get (D := D) (ci := 9) (v := .ref (a9 5)) (C := RX9) (T := TX9) (N := 52) hx hb hL inlX9 hown hK.1 hP 0 rfl rfl 12 (by decide) w1 (fun _ h9 => h9) rfl dX9_rule_11 ?_
    refine lv_iload_n hx hb dX9_rule_14 rfl (lv_at hl 1 rfl) ?_
    obtain ⟨h15, hf⟩ := pg_some hf
    refine va_iald hx hb hK.1 hP 1 0 rfl rfl h15 dX9_rule_15 ?_
    exact ret_i (q := q) (g := fun q => q) (wp := fun q => [(a9 0, .inr (9, fl9 a9 i9 g9)), ((a9 5), .inl (cyI, 32, .inl c_holds))]) hQ hf hx hb hr hlocks hP hD hS dX9_rule_16 rfl
abbrev rmX9_game : Room := { frames := 2, cells := 0, slots := 0, locals := 46 }
set_option maxHeartbeats 40000000 in
set_option maxRecDepth 100000 in
theorem mX9_game (l : Launch) (D : va_G) (cyI cyJ cyB cyS : ClassId) (N : Nat) (sz : Nat) (a9 : Nat → Nat) (i9 : Nat → Int32) (g9 : Nat → Int64) (c_firsts : Nat → Int32) (c_goes : Nat → Int32) (c_holds : Nat → Int32) (c_many : Nat → Int32) (c_seconds : Nat → Int32) (x1 : Int32) (x2 : Int32) (q : Int32 × (Nat → Int32) × (Nat → Int32) × (Nat → Int32) × (Nat → Int32)) (hf : fX9_game N c_firsts c_goes c_holds c_many c_seconds x1 x2 = some q) : Met l yX9_game (wS yX9_game cX9_game 3 (some .int)) rmX9_game (va_Pc [.ref (a9 0), .int x1, .int x2] (PP D cyI cyJ cyB cyS [(a9 0, .inr (9, fl9 a9 i9 g9)), ((a9 9), .inl (cyI, 60, .inl c_firsts)), ((a9 11), .inl (cyI, 60, .inl c_goes)), ((a9 5), .inl (cyI, 32, .inl c_holds)), ((a9 12), .inl (cyI, 2, .inl c_many)), ((a9 10), .inl (cyI, 60, .inl c_seconds))] sz)) (QI q.1 D [(a9 0, .inr (9, fl9 a9 i9 g9)), ((a9 9), .inl (cyI, 60, .inl q.2.1)), ((a9 11), .inl (cyI, 60, .inl q.2.2.1)), ((a9 5), .inl (cyI, 32, .inl c_holds)), ((a9 12), .inl (cyI, 2, .inl q.2.2.2.1)), ((a9 10), .inl (cyI, 60, .inl q.2.2.2.2))] (va_A [(a9 0, .inr (9, fl9 a9 i9 g9)), ((a9 9), .inl (cyI, 60, .inl c_firsts)), ((a9 11), .inl (cyI, 60, .inl c_goes)), ((a9 5), .inl (cyI, 32, .inl c_holds)), ((a9 12), .inl (cyI, 2, .inl c_many)), ((a9 10), .inl (cyI, 60, .inl c_seconds))] sz)) 0 0 (va_A [(a9 0, .inr (9, fl9 a9 i9 g9)), ((a9 9), .inl (cyI, 60, .inl c_firsts)), ((a9 11), .inl (cyI, 60, .inl c_goes)), ((a9 5), .inl (cyI, 32, .inl c_holds)), ((a9 12), .inl (cyI, 2, .inl c_many)), ((a9 10), .inl (cyI, 60, .inl c_seconds))] sz) := by
  refine Met.ofW (cc := cX9_game) (maxL := 3) (ret := (some .int)) (by decide) rfl ?_
  intro p e s m args below meth c s₁ B hml hv
  obtain ⟨rfl, hsz, hP, hK, hD0⟩ := hv
  have hx := B.exec
  have hb := B.bytes
  have hr := B.returns
  have hts := atoms_spec (ws := (wS yX9_game cX9_game 3 (some .int))) B.pre
  have hown : s.vm.findClass RX9 = some m.cls := findClass_of_methodNamed B.named
  have hlocks := B.notSynchronized
  subst hsz
  have hD := hD0.self (sz := s.heap.size)
  refine w_nameQ (fun Q hQ => ?_)
  have hl := lv_entry ([.ref (a9 0), .int x1, .int x2] : List Value) (n := 3) (Nat.le_of_ble_eq_true rfl)
  rw [lg_entry_eq]
  generalize (lg_sl ([.ref (a9 0), .int x1, .int x2] : List Value) ++ List.replicate (3 - (lg_sl ([.ref (a9 0), .int x1, .int x2] : List Value)).length) Slot.unset).toArray = ls at hl ⊢
  have hl : lv_has ls 3 [(0, .ref (a9 0)), (1, .int x1), (2, .int x2)] := hl
  generalize hAe : va_A [(a9 0, .inr (9, fl9 a9 i9 g9)), ((a9 9), .inl (cyI, 60, .inl c_firsts)), ((a9 11), .inl (cyI, 60, .inl c_goes)), ((a9 5), .inl (cyI, 32, .inl c_holds)), ((a9 12), .inl (cyI, 2, .inl c_many)), ((a9 10), .inl (cyI, 60, .inl c_seconds))] s.heap.size = A at hD hQ
  have hA : ∀ q : Nat, s.heap.size ≤ q → A q := fun q h => by rw [← hAe]; exact Or.inr h
  have hS : va_S A s.heap s.heap [] := va_S.rf
  generalize ([.ref (a9 0), .int x1, .int x2] : List Value).toArray = av at hts hQ ⊢
  have hL : ∀ w ∈ wsL_law, w.before av s = true := fun w h => hts w (List.mem_cons_of_mem _ h)
  have w0 := hL (.fieldLink RX9 43 "LosingLeagueModel" "many" "[I") (hR6 15 rfl)
  have w1 := hL (.fieldLink RX9 34 "LosingLeagueModel" "firsts" "[I") (hR6 12 rfl)
  have w2 := hL (.fieldLink RX9 37 "LosingLeagueModel" "seconds" "[I") (hR6 13 rfl)
  have w3 := hL (.fieldLink RX9 40 "LosingLeagueModel" "goes" "[I") (hR6 14 rfl)
  have hB21 : ∀ (c_firsts : Nat → Int32) (c_goes : Nat → Int32) (c_many : Nat → Int32) (c_seconds : Nat → Int32) (H : Heap) (locs : List Loc) (ls : Array Slot), fX9_game_21 N c_holds x1 x2 c_firsts c_goes c_many c_seconds = some q → va_P D vwCl [(a9 0, .inr (9, fl9 a9 i9 g9)), ((a9 9), .inl (cyI, 60, .inl c_firsts)), ((a9 11), .inl (cyI, 60, .inl c_goes)), ((a9 5), .inl (cyI, 32, .inl c_holds)), ((a9 12), .inl (cyI, 2, .inl c_many)), ((a9 10), .inl (cyI, 60, .inl c_seconds))] H → va_D A [(a9 0, .inr (9, fl9 a9 i9 g9)), ((a9 9), .inl (cyI, 60, .inl c_firsts)), ((a9 11), .inl (cyI, 60, .inl c_goes)), ((a9 5), .inl (cyI, 32, .inl c_holds)), ((a9 12), .inl (cyI, 2, .inl c_many)), ((a9 10), .inl (cyI, 60, .inl c_seconds))] → va_S A s.heap H locs → lv_has ls 3 [] → W p l e rmX9_game s m av below meth c H locs 0 0 Q (F0 m 21 ls []) := by
    intro c_firsts c_goes c_many c_seconds H locs ls hf hP hD hS hl
    unfold fX9_game_21 at hf
    refine lv_iconst (v := (-1)) hx hb dX9_game_21 (by decide) ?_
    exact ret_i (q := q) (g := fun q => q.1) (wp := fun q => [(a9 0, .inr (9, fl9 a9 i9 g9)), ((a9 9), .inl (cyI, 60, .inl q.2.1)), ((a9 11), .inl (cyI, 60, .inl q.2.2.1)), ((a9 5), .inl (cyI, 32, .inl c_holds)), ((a9 12), .inl (cyI, 2, .inl q.2.2.2.1)), ((a9 10), .inl (cyI, 60, .inl q.2.2.2.2))]) hQ hf hx hb hr hlocks hP hD hS dX9_game_22 rfl
  unfold fX9_game at hf
  obtain ⟨H, hH⟩ : ∃ H : Heap, H = s.heap := ⟨_, rfl⟩
  obtain ⟨locs, hlo⟩ : ∃ locs : List Loc, locs = [] := ⟨_, rfl⟩
  have hP : va_P D vwCl [(a9 0, .inr (9, fl9 a9 i9 g9)), ((a9 9), .inl (cyI, 60, .inl c_firsts)), ((a9 11), .inl (cyI, 60, .inl c_goes)), ((a9 5), .inl (cyI, 32, .inl c_holds)), ((a9 12), .inl (cyI, 2, .inl c_many)), ((a9 10), .inl (cyI, 60, .inl c_seconds))] H := by rw [hH]; exact hP
  have hS : va_S A s.heap H locs := by rw [hH, hlo]; exact hS
  suffices hw : W p l e rmX9_game s m av below meth c H locs 0 0 Q (F0 m 0 ls []) by rw [hH, hlo] at hw; exact hw
  refine lv_aload_n hx hb dX9_game_0 rfl (lv_at hl 0 rfl) ?_
  refine lv_iload_n hx hb dX9_game_1 rfl (lv_at hl 1 rfl) ?_
  obtain ⟨q2, e2, hf⟩ := pb_some hf
  refine cc_i (wc := [(a9 0, .inr (9, fl9 a9 i9 g9)), ((a9 5), .inl (cyI, 32, .inl c_holds))]) (wr := [((a9 9), .inl (cyI, 60, .inl c_firsts)), ((a9 11), .inl (cyI, 60, .inl c_goes)), ((a9 12), .inl (cyI, 2, .inl c_many)), ((a9 10), .inl (cyI, 60, .inl c_seconds))]) (w1 := [(a9 0, .inr (9, fl9 a9 i9 g9)), ((a9 5), .inl (cyI, 32, .inl c_holds))]) (wn := [(a9 0, .inr (9, fl9 a9 i9 g9)), ((a9 9), .inl (cyI, 60, .inl c_firsts)), ((a9 11), .inl (cyI, 60, .inl c_goes)), ((a9 5), .inl (cyI, 32, .inl c_holds)), ((a9 12), .inl (cyI, 2, .inl c_many)), ((a9 10), .inl (cyI, 60, .inl c_seconds))]) hP hD hS hA [0, 3] [1, 2, 4, 5] [4, 0, 1, 5, 2, 3] rfl rfl rfl (by decide) rfl rfl (va_runV (C := RX9) (As := [.int x1]) (rest := []) ⟨hx, hb, hml, hown, hL⟩ (mX9_isSide l D cyI cyJ cyB cyS N H.size a9 i9 g9 c_holds x1 q2 e2) (cwV 1 hL (gV (hR19 11 rfl) (hR19 12 rfl) (hR19 13 rfl) (hR1 5 rfl) (hR19 14 rfl)) rfl rfl rfl (by decide +kernel) ⟨Nat.le_of_ble_eq_true rfl, Nat.le_of_ble_eq_true rfl⟩) (PP_preV (ci := 9) (q0 := 0) hP hD hK [0, 3] rfl rfl rfl rfl) rfl rfl hl.1 rfl (lv_room (Nat.le_of_ble_eq_true rfl)) dX9_game_2 ⟨Nat.le_of_ble_eq_true rfl, Nat.le_of_ble_eq_true rfl⟩) (fun H locs hP hD hS => ?_)
  refine lv_if_eq (tgt := 21) hx hb dX9_game_5 (by decide) (fun c5 => ?_) (fun c5 => ?_)
  · have hf := pif_t c5 hf
    exact hB21 c_firsts c_goes c_many c_seconds H locs ls hf hP hD hS (lv_sub hl [] rfl)
  · have hf := pif_f c5 hf
    refine lv_aload_n hx hb dX9_game_8 rfl (lv_at hl 0 rfl) ?_
    refine lv_iload_n hx hb dX9_game_9 rfl (lv_at hl 2 rfl) ?_
    obtain ⟨q10, e10, hf⟩ := pb_some hf
    refine cc_i (wc := [(a9 0, .inr (9, fl9 a9 i9 g9)), ((a9 5), .inl (cyI, 32, .inl c_holds))]) (wr := [((a9 9), .inl (cyI, 60, .inl c_firsts)), ((a9 11), .inl (cyI, 60, .inl c_goes)), ((a9 12), .inl (cyI, 2, .inl c_many)), ((a9 10), .inl (cyI, 60, .inl c_seconds))]) (w1 := [(a9 0, .inr (9, fl9 a9 i9 g9)), ((a9 5), .inl (cyI, 32, .inl c_holds))]) (wn := [(a9 0, .inr (9, fl9 a9 i9 g9)), ((a9 9), .inl (cyI, 60, .inl c_firsts)), ((a9 11), .inl (cyI, 60, .inl c_goes)), ((a9 5), .inl (cyI, 32, .inl c_holds)), ((a9 12), .inl (cyI, 2, .inl c_many)), ((a9 10), .inl (cyI, 60, .inl c_seconds))]) hP hD hS hA [0, 3] [1, 2, 4, 5] [4, 0, 1, 5, 2, 3] rfl rfl rfl (by decide) rfl rfl (va_runV (C := RX9) (As := [.int x2]) (rest := []) ⟨hx, hb, hml, hown, hL⟩ (mX9_isSide l D cyI cyJ cyB cyS N H.size a9 i9 g9 c_holds x2 q10 e10) (cwV 1 hL (gV (hR19 11 rfl) (hR19 12 rfl) (hR19 13 rfl) (hR1 5 rfl) (hR19 14 rfl)) rfl rfl rfl (by decide +kernel) ⟨Nat.le_of_ble_eq_true rfl, Nat.le_of_ble_eq_true rfl⟩) (PP_preV (ci := 9) (q0 := 0) hP hD hK [0, 3] rfl rfl rfl rfl) rfl rfl hl.1 rfl (lv_room (Nat.le_of_ble_eq_true rfl)) dX9_game_10 ⟨Nat.le_of_ble_eq_true rfl, Nat.le_of_ble_eq_true rfl⟩) (fun H locs hP hD hS => ?_)
    refine lv_if_eq (tgt := 21) hx hb dX9_game_13 (by decide) (fun c13 => ?_) (fun c13 => ?_)
    · have hf := pif_t c13 hf
      exact hB21 c_firsts c_goes c_many c_seconds H locs ls hf hP hD hS (lv_sub hl [] rfl)
    · have hf := pif_f c13 hf
      refine lv_iload_n hx hb dX9_game_16 rfl (lv_at hl 1 rfl) ?_
      refine lv_iload_n hx hb dX9_game_17 rfl (lv_at hl 2 rfl) ?_
      refine lv_icmp_ne (tgt := 23) hx hb dX9_game_18 (by decide) (fun c18 => ?_) (fun c18 => ?_)
      · have hf := pif_f c18 hf
        refine lv_aload_n hx hb dX9_game_23 rfl (lv_at hl 0 rfl) ?_
        refine va_get (D := D) (ci := 9) (v := .ref (a9 12)) (C := RX9) (T := TX9) (N := 52) hx hb hL inlX9 hown hK.1 hP 0 rfl rfl 22 (by decide) w0 (fun _ h9 => h9) rfl dX9_game_24 ?_
        refine lv_iconst (v := 0) hx hb dX9_game_27 (by decide) ?_
        obtain ⟨h28, hf⟩ := pg_some hf
        refine va_iald hx hb hK.1 hP 4 0 rfl rfl h28 dX9_game_28 ?_
        refine lv_bipush (v := 30) hx hb dX9_game_29 (by decide) ?_
        refine lv_icmp_ne (tgt := 37) hx hb dX9_game_31 (by decide) (fun c31 => ?_) (fun c31 => ?_)
        · have hf := pif_f c31 hf
          refine lv_aload_n hx hb dX9_game_37 rfl (lv_at hl 0 rfl) ?_
          refine va_get (D := D) (ci := 9) (v := .ref (a9 9)) (C := RX9) (T := TX9) (N := 52) hx hb hL inlX9 hown hK.1 hP 0 rfl rfl 19 (by decide) w1 (fun _ h9 => h9) rfl dX9_game_38 ?_
          refine lv_aload_n hx hb dX9_game_41 rfl (lv_at hl 0 rfl) ?_
          refine va_get (D := D) (ci := 9) (v := .ref (a9 12)) (C := RX9) (T := TX9) (N := 52) hx hb hL inlX9 hown hK.1 hP 0 rfl rfl 22 (by decide) w0 (fun _ h9 => h9) rfl dX9_game_42 ?_
          refine lv_iconst (v := 0) hx hb dX9_game_45 (by decide) ?_
          obtain ⟨h46, hf⟩ := pg_some hf
          refine va_iald hx hb hK.1 hP 4 0 rfl rfl h46 dX9_game_46 ?_
          refine lv_iload_n hx hb dX9_game_47 rfl (lv_at hl 1 rfl) ?_
          obtain ⟨h48, hf⟩ := pg_some hf
          refine va_iast hx hb hK.1 hP hD hS 1 0 rfl rfl h48 dX9_game_48 (fun H locs hP hD hS => ?_)
          have hP : va_P D vwCl [(a9 0, .inr (9, fl9 a9 i9 g9)), ((a9 9), .inl (cyI, 60, .inl (upd c_firsts (c_many (0 : Int32).toNatClampNeg).toNatClampNeg x1))), ((a9 11), .inl (cyI, 60, .inl c_goes)), ((a9 5), .inl (cyI, 32, .inl c_holds)), ((a9 12), .inl (cyI, 2, .inl c_many)), ((a9 10), .inl (cyI, 60, .inl c_seconds))] H := hP
          have hD : va_D A [(a9 0, .inr (9, fl9 a9 i9 g9)), ((a9 9), .inl (cyI, 60, .inl (upd c_firsts (c_many (0 : Int32).toNatClampNeg).toNatClampNeg x1))), ((a9 11), .inl (cyI, 60, .inl c_goes)), ((a9 5), .inl (cyI, 32, .inl c_holds)), ((a9 12), .inl (cyI, 2, .inl c_many)), ((a9 10), .inl (cyI, 60, .inl c_seconds))] := hD
          refine lv_aload_n hx hb dX9_game_49 rfl (lv_at hl 0 rfl) ?_
          refine va_get (D := D) (ci := 9) (v := .ref (a9 10)) (C := RX9) (T := TX9) (N := 52) hx hb hL inlX9 hown hK.1 hP 0 rfl rfl 20 (by decide) w2 (fun _ h9 => h9) rfl dX9_game_50 ?_
          refine lv_aload_n hx hb dX9_game_53 rfl (lv_at hl 0 rfl) ?_
          refine va_get (D := D) (ci := 9) (v := .ref (a9 12)) (C := RX9) (T := TX9) (N := 52) hx hb hL inlX9 hown hK.1 hP 0 rfl rfl 22 (by decide) w0 (fun _ h9 => h9) rfl dX9_game_54 ?_
          refine lv_iconst (v := 0) hx hb dX9_game_57 (by decide) ?_
          obtain ⟨h58, hf⟩ := pg_some hf
          refine va_iald hx hb hK.1 hP 4 0 rfl rfl h58 dX9_game_58 ?_
          refine lv_iload_n hx hb dX9_game_59 rfl (lv_at hl 2 rfl) ?_
          obtain ⟨h60, hf⟩ := pg_some hf
          refine va_iast hx hb hK.1 hP hD hS 5 0 rfl rfl h60 dX9_game_60 (fun H locs hP hD hS => ?_)
          have hP : va_P D vwCl [(a9 0, .inr (9, fl9 a9 i9 g9)), ((a9 9), .inl (cyI, 60, .inl (upd c_firsts (c_many (0 : Int32).toNatClampNeg).toNatClampNeg x1))), ((a9 11), .inl (cyI, 60, .inl c_goes)), ((a9 5), .inl (cyI, 32, .inl c_holds)), ((a9 12), .inl (cyI, 2, .inl c_many)), ((a9 10), .inl (cyI, 60, .inl (upd c_seconds (c_many (0 : Int32).toNatClampNeg).toNatClampNeg x2)))] H := hP
          have hD : va_D A [(a9 0, .inr (9, fl9 a9 i9 g9)), ((a9 9), .inl (cyI, 60, .inl (upd c_firsts (c_many (0 : Int32).toNatClampNeg).toNatClampNeg x1))), ((a9 11), .inl (cyI, 60, .inl c_goes)), ((a9 5), .inl (cyI, 32, .inl c_holds)), ((a9 12), .inl (cyI, 2, .inl c_many)), ((a9 10), .inl (cyI, 60, .inl (upd c_seconds (c_many (0 : Int32).toNatClampNeg).toNatClampNeg x2)))] := hD
          refine lv_aload_n hx hb dX9_game_61 rfl (lv_at hl 0 rfl) ?_
          refine va_get (D := D) (ci := 9) (v := .ref (a9 11)) (C := RX9) (T := TX9) (N := 52) hx hb hL inlX9 hown hK.1 hP 0 rfl rfl 21 (by decide) w3 (fun _ h9 => h9) rfl dX9_game_62 ?_
          refine lv_aload_n hx hb dX9_game_65 rfl (lv_at hl 0 rfl) ?_
          refine va_get (D := D) (ci := 9) (v := .ref (a9 12)) (C := RX9) (T := TX9) (N := 52) hx hb hL inlX9 hown hK.1 hP 0 rfl rfl 22 (by decide) w0 (fun _ h9 => h9) rfl dX9_game_66 ?_
          refine lv_iconst (v := 0) hx hb dX9_game_69 (by decide) ?_
          obtain ⟨h70, hf⟩ := pg_some hf
          refine va_iald hx hb hK.1 hP 4 0 rfl rfl h70 dX9_game_70 ?_
          refine lv_iconst (v := 2) hx hb dX9_game_71 (by decide) ?_
          obtain ⟨h72, hf⟩ := pg_some hf
          refine va_iast hx hb hK.1 hP hD hS 2 0 rfl rfl h72 dX9_game_72 (fun H locs hP hD hS => ?_)
          have hP : va_P D vwCl [(a9 0, .inr (9, fl9 a9 i9 g9)), ((a9 9), .inl (cyI, 60, .inl (upd c_firsts (c_many (0 : Int32).toNatClampNeg).toNatClampNeg x1))), ((a9 11), .inl (cyI, 60, .inl (upd c_goes (c_many (0 : Int32).toNatClampNeg).toNatClampNeg 2))), ((a9 5), .inl (cyI, 32, .inl c_holds)), ((a9 12), .inl (cyI, 2, .inl c_many)), ((a9 10), .inl (cyI, 60, .inl (upd c_seconds (c_many (0 : Int32).toNatClampNeg).toNatClampNeg x2)))] H := hP
          have hD : va_D A [(a9 0, .inr (9, fl9 a9 i9 g9)), ((a9 9), .inl (cyI, 60, .inl (upd c_firsts (c_many (0 : Int32).toNatClampNeg).toNatClampNeg x1))), ((a9 11), .inl (cyI, 60, .inl (upd c_goes (c_many (0 : Int32).toNatClampNeg).toNatClampNeg 2))), ((a9 5), .inl (cyI, 32, .inl c_holds)), ((a9 12), .inl (cyI, 2, .inl c_many)), ((a9 10), .inl (cyI, 60, .inl (upd c_seconds (c_many (0 : Int32).toNatClampNeg).toNatClampNeg x2)))] := hD
          refine lv_aload_n hx hb dX9_game_73 rfl (lv_at hl 0 rfl) ?_
          refine va_get (D := D) (ci := 9) (v := .ref (a9 12)) (C := RX9) (T := TX9) (N := 52) hx hb hL inlX9 hown hK.1 hP 0 rfl rfl 22 (by decide) w0 (fun _ h9 => h9) rfl dX9_game_74 ?_
          refine lv_iconst (v := 0) hx hb dX9_game_77 (by decide) ?_
          refine lv_dup2_11 hx hb dX9_game_78 rfl rfl ?_
          obtain ⟨h79, hf⟩ := pg_some hf
          refine va_iald hx hb hK.1 hP 4 0 rfl rfl h79 dX9_game_79 ?_
          refine lv_iconst (v := 1) hx hb dX9_game_80 (by decide) ?_
          refine lv_iadd hx hb dX9_game_81 ?_
          obtain ⟨h82, hf⟩ := pg_some hf
          refine va_iast hx hb hK.1 hP hD hS 4 0 rfl rfl h82 dX9_game_82 (fun H locs hP hD hS => ?_)
          have hP : va_P D vwCl [(a9 0, .inr (9, fl9 a9 i9 g9)), ((a9 9), .inl (cyI, 60, .inl (upd c_firsts (c_many (0 : Int32).toNatClampNeg).toNatClampNeg x1))), ((a9 11), .inl (cyI, 60, .inl (upd c_goes (c_many (0 : Int32).toNatClampNeg).toNatClampNeg 2))), ((a9 5), .inl (cyI, 32, .inl c_holds)), ((a9 12), .inl (cyI, 2, .inl (upd c_many (0 : Int32).toNatClampNeg ((c_many (0 : Int32).toNatClampNeg) + 1)))), ((a9 10), .inl (cyI, 60, .inl (upd c_seconds (c_many (0 : Int32).toNatClampNeg).toNatClampNeg x2)))] H := hP
          have hD : va_D A [(a9 0, .inr (9, fl9 a9 i9 g9)), ((a9 9), .inl (cyI, 60, .inl (upd c_firsts (c_many (0 : Int32).toNatClampNeg).toNatClampNeg x1))), ((a9 11), .inl (cyI, 60, .inl (upd c_goes (c_many (0 : Int32).toNatClampNeg).toNatClampNeg 2))), ((a9 5), .inl (cyI, 32, .inl c_holds)), ((a9 12), .inl (cyI, 2, .inl (upd c_many (0 : Int32).toNatClampNeg ((c_many (0 : Int32).toNatClampNeg) + 1)))), ((a9 10), .inl (cyI, 60, .inl (upd c_seconds (c_many (0 : Int32).toNatClampNeg).toNatClampNeg x2)))] := hD
          refine lv_aload_n hx hb dX9_game_83 rfl (lv_at hl 0 rfl) ?_
          refine va_get (D := D) (ci := 9) (v := .ref (a9 12)) (C := RX9) (T := TX9) (N := 52) hx hb hL inlX9 hown hK.1 hP 0 rfl rfl 22 (by decide) w0 (fun _ h9 => h9) rfl dX9_game_84 ?_
          refine lv_iconst (v := 0) hx hb dX9_game_87 (by decide) ?_
          obtain ⟨h88, hf⟩ := pg_some hf
          refine va_iald hx hb hK.1 hP 4 0 rfl rfl h88 dX9_game_88 ?_
          refine lv_iconst (v := 1) hx hb dX9_game_89 (by decide) ?_
          refine lv_isub hx hb dX9_game_90 ?_
          exact ret_i (q := q) (g := fun q => q.1) (wp := fun q => [(a9 0, .inr (9, fl9 a9 i9 g9)), ((a9 9), .inl (cyI, 60, .inl q.2.1)), ((a9 11), .inl (cyI, 60, .inl q.2.2.1)), ((a9 5), .inl (cyI, 32, .inl c_holds)), ((a9 12), .inl (cyI, 2, .inl q.2.2.2.1)), ((a9 10), .inl (cyI, 60, .inl q.2.2.2.2))]) hQ hf hx hb hr hlocks hP hD hS dX9_game_91 rfl
        · have hf := pif_t c31 hf
          refine lv_bipush (v := (-3)) hx hb dX9_game_34 (by decide) ?_
          exact ret_i (q := q) (g := fun q => q.1) (wp := fun q => [(a9 0, .inr (9, fl9 a9 i9 g9)), ((a9 9), .inl (cyI, 60, .inl q.2.1)), ((a9 11), .inl (cyI, 60, .inl q.2.2.1)), ((a9 5), .inl (cyI, 32, .inl c_holds)), ((a9 12), .inl (cyI, 2, .inl q.2.2.2.1)), ((a9 10), .inl (cyI, 60, .inl q.2.2.2.2))]) hQ hf hx hb hr hlocks hP hD hS dX9_game_36 rfl
      · have hf := pif_t c18 hf
        exact hB21 c_firsts c_goes c_many c_seconds H locs ls hf hP hD hS (lv_sub hl [] rfl)
abbrev rmX9_half : Room := { frames := 0, cells := 0, slots := 0, locals := 0 }
set_option maxHeartbeats 40000000 in
set_option maxRecDepth 100000 in
theorem mX9_half (l : Launch) (D : va_G) (cyI cyJ cyB cyS : ClassId) (N : Nat) (sz : Nat)  (x0 : Int32) (q : Int32) (hf : fX9_half N x0 = some q) : Met l yX9_half (wS yX9_half cX9_half 1 (some .int)) rmX9_half (va_Pc [.int x0] (PP D cyI cyJ cyB cyS [] sz)) (QI q D [] (va_A [] sz)) 0 0 (va_A [] sz) := by
  refine Met.ofW (cc := cX9_half) (maxL := 1) (ret := (some .int)) (by decide) rfl ?_
  intro p e s m args below meth c s₁ B hml hv
  obtain ⟨rfl, hsz, hP, hK, hD0⟩ := hv
  have hx := B.exec
  have hb := B.bytes
  have hr := B.returns
  have hts := atoms_spec (ws := (wS yX9_half cX9_half 1 (some .int))) B.pre
  have hown : s.vm.findClass RX9 = some m.cls := findClass_of_methodNamed B.named
  have hlocks := B.notSynchronized
  subst hsz
  have hD := hD0.self (sz := s.heap.size)
  refine w_nameQ (fun Q hQ => ?_)
  have hl := lv_entry ([.int x0] : List Value) (n := 1) (Nat.le_of_ble_eq_true rfl)
  rw [lg_entry_eq]
  generalize (lg_sl ([.int x0] : List Value) ++ List.replicate (1 - (lg_sl ([.int x0] : List Value)).length) Slot.unset).toArray = ls at hl ⊢
  have hl : lv_has ls 1 [(0, .int x0)] := hl
  generalize hAe : va_A [] s.heap.size = A at hD hQ
  have hA : ∀ q : Nat, s.heap.size ≤ q → A q := fun q h => by rw [← hAe]; exact Or.inr h
  have hS : va_S A s.heap s.heap [] := va_S.rf
  generalize ([.int x0] : List Value).toArray = av at hts hQ ⊢
  have hL : ∀ w ∈ wsL_law, w.before av s = true := fun w h => hts w (List.mem_cons_of_mem _ h)
  have hB12 : ∀ (s0 : Int32) (H : Heap) (locs : List Loc) (ls : Array Slot), fX9_half_12 N x0 s0 = some q → va_P D vwCl [] H → va_D A [] → va_S A s.heap H locs → lv_has ls 1 [] → W p l e rmX9_half s m av below meth c H locs 0 0 Q (F0 m 12 ls [.int s0]) := by
    intro s0 H locs ls hf hP hD hS hl
    unfold fX9_half_12 at hf
    exact ret_i (q := q) (g := fun q => q) (wp := fun q => []) hQ hf hx hb hr hlocks hP hD hS dX9_half_12 rfl
  unfold fX9_half at hf
  obtain ⟨H, hH⟩ : ∃ H : Heap, H = s.heap := ⟨_, rfl⟩
  obtain ⟨locs, hlo⟩ : ∃ locs : List Loc, locs = [] := ⟨_, rfl⟩
  have hP : va_P D vwCl [] H := by rw [hH]; exact hP
  have hS : va_S A s.heap H locs := by rw [hH, hlo]; exact hS
  suffices hw : W p l e rmX9_half s m av below meth c H locs 0 0 Q (F0 m 0 ls []) by rw [hH, hlo] at hw; exact hw
  refine lv_iload_n hx hb dX9_half_0 rfl (lv_at hl 0 rfl) ?_
  refine lv_iconst (v := 2) hx hb dX9_half_1 (by decide) ?_
  refine lv_icmp_ge (tgt := 9) hx hb dX9_half_2 (by decide) (fun c2 => ?_) (fun c2 => ?_)
  · have hf := pif_t c2 hf
    refine lv_iload_n hx hb dX9_half_9 rfl (lv_at hl 0 rfl) ?_
    refine lv_iconst (v := 2) hx hb dX9_half_10 (by decide) ?_
    refine lv_idiv hx hb dX9_half_11 (by decide) ?_
    exact hB12 (x0 / 2) H locs ls hf hP hD hS (lv_sub hl [] rfl)
  · have hf := pif_f c2 hf
    refine lv_iconst (v := 1) hx hb dX9_half_5 (by decide) ?_
    refine lv_goto (tgt := 12) hx hb dX9_half_6 (by decide) ?_
    exact hB12 1 H locs ls hf hP hD hS (lv_sub hl [] rfl)
abbrev rmX9_oddsOf : Room := { frames := 0, cells := 0, slots := 0, locals := 0 }
set_option maxHeartbeats 40000000 in
set_option maxRecDepth 100000 in
theorem mX9_oddsOf (l : Launch) (D : va_G) (cyI cyJ cyB cyS : ClassId) (N : Nat) (sz : Nat)  (x0 : Int32) (x1 : Int32) (q : Int32) (hf : fX9_oddsOf N x0 x1 = some q) : Met l yX9_oddsOf (wS yX9_oddsOf cX9_oddsOf 3 (some .int)) rmX9_oddsOf (va_Pc [.int x0, .int x1] (PP D cyI cyJ cyB cyS [] sz)) (QI q D [] (va_A [] sz)) 0 0 (va_A [] sz) := by
  refine Met.ofW (cc := cX9_oddsOf) (maxL := 3) (ret := (some .int)) (by decide) rfl ?_
  intro p e s m args below meth c s₁ B hml hv
  obtain ⟨rfl, hsz, hP, hK, hD0⟩ := hv
  have hx := B.exec
  have hb := B.bytes
  have hr := B.returns
  have hts := atoms_spec (ws := (wS yX9_oddsOf cX9_oddsOf 3 (some .int))) B.pre
  have hown : s.vm.findClass RX9 = some m.cls := findClass_of_methodNamed B.named
  have hlocks := B.notSynchronized
  subst hsz
  have hD := hD0.self (sz := s.heap.size)
  refine w_nameQ (fun Q hQ => ?_)
  have hl := lv_entry ([.int x0, .int x1] : List Value) (n := 3) (Nat.le_of_ble_eq_true rfl)
  rw [lg_entry_eq]
  generalize (lg_sl ([.int x0, .int x1] : List Value) ++ List.replicate (3 - (lg_sl ([.int x0, .int x1] : List Value)).length) Slot.unset).toArray = ls at hl ⊢
  have hl : lv_has ls 3 [(0, .int x0), (1, .int x1)] := hl
  generalize hAe : va_A [] s.heap.size = A at hD hQ
  have hA : ∀ q : Nat, s.heap.size ≤ q → A q := fun q h => by rw [← hAe]; exact Or.inr h
  have hS : va_S A s.heap s.heap [] := va_S.rf
  generalize ([.int x0, .int x1] : List Value).toArray = av at hts hQ ⊢
  have hL : ∀ w ∈ wsL_law, w.before av s = true := fun w h => hts w (List.mem_cons_of_mem _ h)
  have hB30 : ∀ (s0 : Int32) (H : Heap) (locs : List Loc) (ls : Array Slot), fX9_oddsOf_30 N x0 x1 s0 = some q → va_P D vwCl [] H → va_D A [] → va_S A s.heap H locs → lv_has ls 3 [] → W p l e rmX9_oddsOf s m av below meth c H locs 0 0 Q (F0 m 30 ls [.int s0]) := by
    intro s0 H locs ls hf hP hD hS hl
    unfold fX9_oddsOf_30 at hf
    exact ret_i (q := q) (g := fun q => q) (wp := fun q => []) hQ hf hx hb hr hlocks hP hD hS dX9_oddsOf_30 rfl
  unfold fX9_oddsOf at hf
  obtain ⟨H, hH⟩ : ∃ H : Heap, H = s.heap := ⟨_, rfl⟩
  obtain ⟨locs, hlo⟩ : ∃ locs : List Loc, locs = [] := ⟨_, rfl⟩
  have hP : va_P D vwCl [] H := by rw [hH]; exact hP
  have hS : va_S A s.heap H locs := by rw [hH, hlo]; exact hS
  suffices hw : W p l e rmX9_oddsOf s m av below meth c H locs 0 0 Q (F0 m 0 ls []) by rw [hH, hlo] at hw; exact hw
  refine lv_bipush (v := 16) hx hb dX9_oddsOf_0 (by decide) ?_
  refine lv_iload_n hx hb dX9_oddsOf_2 rfl (lv_at hl 0 rfl) ?_
  refine lv_imul hx hb dX9_oddsOf_3 ?_
  refine lv_iload_n hx hb dX9_oddsOf_4 rfl (lv_at hl 0 rfl) ?_
  refine lv_iload_n hx hb dX9_oddsOf_5 rfl (lv_at hl 1 rfl) ?_
  refine lv_iadd hx hb dX9_oddsOf_6 ?_
  obtain ⟨n7, hf⟩ := pg_some hf
  refine lv_idiv hx hb dX9_oddsOf_7 n7 ?_
  refine lv_istore_n (lv' := [(2, .int ((16 * x0) / (x0 + x1))), (0, .int x0), (1, .int x1)]) hx hb dX9_oddsOf_8 rfl hl (by decide) rfl (fun ls hl => ?_)
  refine lv_iload_n hx hb dX9_oddsOf_9 rfl (lv_at hl 0 rfl) ?_
  refine lv_iconst (v := 1) hx hb dX9_oddsOf_10 (by decide) ?_
  refine lv_icmp_ge (tgt := 18) hx hb dX9_oddsOf_11 (by decide) (fun c11 => ?_) (fun c11 => ?_)
  · have hf := pif_t c11 hf
    refine lv_iload_n hx hb dX9_oddsOf_18 rfl (lv_at hl 0 rfl) ?_
    refine lv_bipush (v := 15) hx hb dX9_oddsOf_19 (by decide) ?_
    refine lv_icmp_le (tgt := 29) hx hb dX9_oddsOf_21 (by decide) (fun c21 => ?_) (fun c21 => ?_)
    · have hf := pif_t c21 hf
      refine lv_iload_n hx hb dX9_oddsOf_29 rfl (lv_at hl 0 rfl) ?_
      exact hB30 ((16 * x0) / (x0 + x1)) H locs ls hf hP hD hS (lv_sub hl [] rfl)
    · have hf := pif_f c21 hf
      refine lv_bipush (v := 15) hx hb dX9_oddsOf_24 (by decide) ?_
      refine lv_goto (tgt := 30) hx hb dX9_oddsOf_26 (by decide) ?_
      exact hB30 15 H locs ls hf hP hD hS (lv_sub hl [] rfl)
  · have hf := pif_f c11 hf
    refine lv_iconst (v := 1) hx hb dX9_oddsOf_14 (by decide) ?_
    refine lv_goto (tgt := 30) hx hb dX9_oddsOf_15 (by decide) ?_
    exact hB30 1 H locs ls hf hP hD hS (lv_sub hl [] rfl)
abbrev rmX9_oddsBy : Room := { frames := 1, cells := 0, slots := 0, locals := 22 }
set_option maxHeartbeats 40000000 in
set_option maxRecDepth 100000 in
theorem mX9_oddsBy (l : Launch) (D : va_G) (cyI cyJ cyB cyS : ClassId) (N : Nat) (sz : Nat) (a9 : Nat → Nat) (i9 : Nat → Int32) (g9 : Nat → Int64) (c_firsts : Nat → Int32) (c_holds : Nat → Int32) (c_seconds : Nat → Int32) (x1 : Int32) (x2 : Int32) (q : Int32) (hf : fX9_oddsBy N c_firsts c_holds c_seconds x1 x2 = some q) : Met l yX9_oddsBy (wS yX9_oddsBy cX9_oddsBy 5 (some .int)) rmX9_oddsBy (va_Pc [.ref (a9 0), .int x1, .int x2] (PP D cyI cyJ cyB cyS [(a9 0, .inr (9, fl9 a9 i9 g9)), ((a9 9), .inl (cyI, 60, .inl c_firsts)), ((a9 5), .inl (cyI, 32, .inl c_holds)), ((a9 10), .inl (cyI, 60, .inl c_seconds))] sz)) (QI q D [(a9 0, .inr (9, fl9 a9 i9 g9)), ((a9 9), .inl (cyI, 60, .inl c_firsts)), ((a9 5), .inl (cyI, 32, .inl c_holds)), ((a9 10), .inl (cyI, 60, .inl c_seconds))] (va_A [(a9 0, .inr (9, fl9 a9 i9 g9)), ((a9 9), .inl (cyI, 60, .inl c_firsts)), ((a9 5), .inl (cyI, 32, .inl c_holds)), ((a9 10), .inl (cyI, 60, .inl c_seconds))] sz)) 0 0 (va_A [(a9 0, .inr (9, fl9 a9 i9 g9)), ((a9 9), .inl (cyI, 60, .inl c_firsts)), ((a9 5), .inl (cyI, 32, .inl c_holds)), ((a9 10), .inl (cyI, 60, .inl c_seconds))] sz) := by
  refine Met.ofW (cc := cX9_oddsBy) (maxL := 5) (ret := (some .int)) (by decide) rfl ?_
  intro p e s m args below meth c s₁ B hml hv
  obtain ⟨rfl, hsz, hP, hK, hD0⟩ := hv
  have hx := B.exec
  have hb := B.bytes
  have hr := B.returns
  have hts := atoms_spec (ws := (wS yX9_oddsBy cX9_oddsBy 5 (some .int))) B.pre
  have hown : s.vm.findClass RX9 = some m.cls := findClass_of_methodNamed B.named
  have hlocks := B.notSynchronized
  subst hsz
  have hD := hD0.self (sz := s.heap.size)
  refine w_nameQ (fun Q hQ => ?_)
  have hl := lv_entry ([.ref (a9 0), .int x1, .int x2] : List Value) (n := 5) (Nat.le_of_ble_eq_true rfl)
  rw [lg_entry_eq]
  generalize (lg_sl ([.ref (a9 0), .int x1, .int x2] : List Value) ++ List.replicate (5 - (lg_sl ([.ref (a9 0), .int x1, .int x2] : List Value)).length) Slot.unset).toArray = ls at hl ⊢
  have hl : lv_has ls 5 [(0, .ref (a9 0)), (1, .int x1), (2, .int x2)] := hl
  generalize hAe : va_A [(a9 0, .inr (9, fl9 a9 i9 g9)), ((a9 9), .inl (cyI, 60, .inl c_firsts)), ((a9 5), .inl (cyI, 32, .inl c_holds)), ((a9 10), .inl (cyI, 60, .inl c_seconds))] s.heap.size = A at hD hQ
  have hA : ∀ q : Nat, s.heap.size ≤ q → A q := fun q h => by rw [← hAe]; exact Or.inr h
  have hS : va_S A s.heap s.heap [] := va_S.rf
  generalize ([.ref (a9 0), .int x1, .int x2] : List Value).toArray = av at hts hQ ⊢
  have hL : ∀ w ∈ wsL_law, w.before av s = true := fun w h => hts w (List.mem_cons_of_mem _ h)
  have w0 := hL (.static yX9_oddsOf) (hR22 0 rfl)
  have w1 := hL (.static yX9_half) (hR21 21 rfl)
  have w2 := hL (.fieldLink RX9 22 "LosingLeagueModel" "holds" "[I") (hR6 8 rfl)
  have w3 := hL (.fieldLink RX9 34 "LosingLeagueModel" "firsts" "[I") (hR6 12 rfl)
  have w4 := hL (.fieldLink RX9 37 "LosingLeagueModel" "seconds" "[I") (hR6 13 rfl)
  have hB61 : ∀ (s0 : Int32) (s1 : Int32) (H : Heap) (locs : List Loc) (ls : Array Slot), fX9_oddsBy_61 N c_firsts c_holds c_seconds x1 x2 s0 s1 = some q → va_P D vwCl [(a9 0, .inr (9, fl9 a9 i9 g9)), ((a9 9), .inl (cyI, 60, .inl c_firsts)), ((a9 5), .inl (cyI, 32, .inl c_holds)), ((a9 10), .inl (cyI, 60, .inl c_seconds))] H → va_D A [(a9 0, .inr (9, fl9 a9 i9 g9)), ((a9 9), .inl (cyI, 60, .inl c_firsts)), ((a9 5), .inl (cyI, 32, .inl c_holds)), ((a9 10), .inl (cyI, 60, .inl c_seconds))] → va_S A s.heap H locs → lv_has ls 5 [] → W p l e rmX9_oddsBy s m av below meth c H locs 0 0 Q (F0 m 61 ls [.int s1, .int s0]) := by
    intro s0 s1 H locs ls hf hP hD hS hl
    unfold fX9_oddsBy_61 at hf
    obtain ⟨q61, e61, hf⟩ := pb_some hf
    refine cc_i (wc := []) (wr := [(a9 0, .inr (9, fl9 a9 i9 g9)), ((a9 9), .inl (cyI, 60, .inl c_firsts)), ((a9 5), .inl (cyI, 32, .inl c_holds)), ((a9 10), .inl (cyI, 60, .inl c_seconds))]) (w1 := []) (wn := [(a9 0, .inr (9, fl9 a9 i9 g9)), ((a9 9), .inl (cyI, 60, .inl c_firsts)), ((a9 5), .inl (cyI, 32, .inl c_holds)), ((a9 10), .inl (cyI, 60, .inl c_seconds))]) hP hD hS hA [] [0, 1, 2, 3] [0, 1, 2, 3] rfl rfl rfl (by decide) rfl rfl (va_runS (As := [.int s0, .int s1]) (rest := []) ⟨hx, hb, hml, hown, hL⟩ (mX9_oddsOf l D cyI cyJ cyB cyS N H.size   s0 s1 q61 e61) (va_cwS 2 hL (gS (hR21 23 rfl) (hR22 0 rfl) (hR1 5 rfl) (hR22 1 rfl)) rfl rfl rfl (by decide +kernel) ⟨Nat.le_of_ble_eq_true rfl, Nat.le_of_ble_eq_true rfl⟩) (PP_preS hP hD hK [] rfl rfl) rfl rfl hl.1 rfl (lv_room (Nat.le_of_ble_eq_true rfl)) dX9_oddsBy_61 ⟨Nat.le_of_ble_eq_true rfl, Nat.le_of_ble_eq_true rfl⟩) (fun H locs hP hD hS => ?_)
    exact ret_i (q := q) (g := fun q => q) (wp := fun q => [(a9 0, .inr (9, fl9 a9 i9 g9)), ((a9 9), .inl (cyI, 60, .inl c_firsts)), ((a9 5), .inl (cyI, 32, .inl c_holds)), ((a9 10), .inl (cyI, 60, .inl c_seconds))]) hQ hf hx hb hr hlocks hP hD hS dX9_oddsBy_64 rfl
  have hB44 : ∀ (x4 : Int32) (s0 : Int32) (H : Heap) (locs : List Loc) (ls : Array Slot), fX9_oddsBy_44 N c_firsts c_holds c_seconds x1 x2 x4 s0 = some q → va_P D vwCl [(a9 0, .inr (9, fl9 a9 i9 g9)), ((a9 9), .inl (cyI, 60, .inl c_firsts)), ((a9 5), .inl (cyI, 32, .inl c_holds)), ((a9 10), .inl (cyI, 60, .inl c_seconds))] H → va_D A [(a9 0, .inr (9, fl9 a9 i9 g9)), ((a9 9), .inl (cyI, 60, .inl c_firsts)), ((a9 5), .inl (cyI, 32, .inl c_holds)), ((a9 10), .inl (cyI, 60, .inl c_seconds))] → va_S A s.heap H locs → lv_has ls 5 [(2, .int x2), (4, .int x4)] → W p l e rmX9_oddsBy s m av below meth c H locs 0 0 Q (F0 m 44 ls [.int s0]) := by
    intro x4 s0 H locs ls hf hP hD hS hl
    unfold fX9_oddsBy_44 at hf
    refine lv_iload_n hx hb dX9_oddsBy_44 rfl (lv_at hl 0 rfl) ?_
    refine lv_iconst (v := 2) hx hb dX9_oddsBy_45 (by decide) ?_
    refine lv_irem hx hb dX9_oddsBy_46 (by decide) ?_
    refine lv_iconst (v := 1) hx hb dX9_oddsBy_47 (by decide) ?_
    refine lv_icmp_ne (tgt := 59) hx hb dX9_oddsBy_48 (by decide) (fun c48 => ?_) (fun c48 => ?_)
    · have hf := pif_f c48 hf
      refine lv_iload hx hb dX9_oddsBy_59 (lv_at hl 1 rfl) ?_
      exact hB61 s0 x4 H locs ls hf hP hD hS (lv_sub hl [] rfl)
    · have hf := pif_t c48 hf
      refine lv_iload hx hb dX9_oddsBy_51 (lv_at hl 1 rfl) ?_
      obtain ⟨q53, e53, hf⟩ := pb_some hf
      refine cc_i (wc := []) (wr := [(a9 0, .inr (9, fl9 a9 i9 g9)), ((a9 9), .inl (cyI, 60, .inl c_firsts)), ((a9 5), .inl (cyI, 32, .inl c_holds)), ((a9 10), .inl (cyI, 60, .inl c_seconds))]) (w1 := []) (wn := [(a9 0, .inr (9, fl9 a9 i9 g9)), ((a9 9), .inl (cyI, 60, .inl c_firsts)), ((a9 5), .inl (cyI, 32, .inl c_holds)), ((a9 10), .inl (cyI, 60, .inl c_seconds))]) hP hD hS hA [] [0, 1, 2, 3] [0, 1, 2, 3] rfl rfl rfl (by decide) rfl rfl (va_runS (As := [.int x4]) (rest := [.int s0]) ⟨hx, hb, hml, hown, hL⟩ (mX9_half l D cyI cyJ cyB cyS N H.size   x4 q53 e53) (va_cwS 1 hL (gS (hR21 20 rfl) (hR21 21 rfl) (hR1 5 rfl) (hR21 22 rfl)) rfl rfl rfl (by decide +kernel) ⟨Nat.le_of_ble_eq_true rfl, Nat.le_of_ble_eq_true rfl⟩) (PP_preS hP hD hK [] rfl rfl) rfl rfl hl.1 rfl (lv_room (Nat.le_of_ble_eq_true rfl)) dX9_oddsBy_53 ⟨Nat.le_of_ble_eq_true rfl, Nat.le_of_ble_eq_true rfl⟩) (fun H locs hP hD hS => ?_)
      refine lv_goto (tgt := 61) hx hb dX9_oddsBy_56 (by decide) ?_
      exact hB61 s0 q53 H locs ls hf hP hD hS (lv_sub hl [] rfl)
  unfold fX9_oddsBy at hf
  obtain ⟨H, hH⟩ : ∃ H : Heap, H = s.heap := ⟨_, rfl⟩
  obtain ⟨locs, hlo⟩ : ∃ locs : List Loc, locs = [] := ⟨_, rfl⟩
  have hP : va_P D vwCl [(a9 0, .inr (9, fl9 a9 i9 g9)), ((a9 9), .inl (cyI, 60, .inl c_firsts)), ((a9 5), .inl (cyI, 32, .inl c_holds)), ((a9 10), .inl (cyI, 60, .inl c_seconds))] H := by rw [hH]; exact hP
  have hS : va_S A s.heap H locs := by rw [hH, hlo]; exact hS
  suffices hw : W p l e rmX9_oddsBy s m av below meth c H locs 0 0 Q (F0 m 0 ls []) by rw [hH, hlo] at hw; exact hw
  refine lv_aload_n hx hb dX9_oddsBy_0 rfl (lv_at hl 0 rfl) ?_
  refine va_get (D := D) (ci := 9) (v := .ref (a9 5)) (C := RX9) (T := TX9) (N := 52) hx hb hL inlX9 hown hK.1 hP 0 rfl rfl 12 (by decide) w2 (fun _ h9 => h9) rfl dX9_oddsBy_1 ?_
  refine lv_iconst (v := 2) hx hb dX9_oddsBy_4 (by decide) ?_
  refine lv_aload_n hx hb dX9_oddsBy_5 rfl (lv_at hl 0 rfl) ?_
  refine va_get (D := D) (ci := 9) (v := .ref (a9 9)) (C := RX9) (T := TX9) (N := 52) hx hb hL inlX9 hown hK.1 hP 0 rfl rfl 19 (by decide) w3 (fun _ h9 => h9) rfl dX9_oddsBy_6 ?_
  refine lv_iload_n hx hb dX9_oddsBy_9 rfl (lv_at hl 1 rfl) ?_
  obtain ⟨h10, hf⟩ := pg_some hf
  refine va_iald hx hb hK.1 hP 1 0 rfl rfl h10 dX9_oddsBy_10 ?_
  refine lv_iadd hx hb dX9_oddsBy_11 ?_
  obtain ⟨h12, hf⟩ := pg_some hf
  refine va_iald hx hb hK.1 hP 2 0 rfl rfl h12 dX9_oddsBy_12 ?_
  refine lv_istore_n (lv' := [(3, .int (c_holds (2 + (c_firsts x1.toNatClampNeg)).toNatClampNeg)), (0, .ref (a9 0)), (1, .int x1), (2, .int x2)]) hx hb dX9_oddsBy_13 rfl hl (by decide) rfl (fun ls hl => ?_)
  refine lv_aload_n hx hb dX9_oddsBy_14 rfl (lv_at hl 1 rfl) ?_
  refine va_get (D := D) (ci := 9) (v := .ref (a9 5)) (C := RX9) (T := TX9) (N := 52) hx hb hL inlX9 hown hK.1 hP 0 rfl rfl 12 (by decide) w2 (fun _ h9 => h9) rfl dX9_oddsBy_15 ?_
  refine lv_iconst (v := 2) hx hb dX9_oddsBy_18 (by decide) ?_
  refine lv_aload_n hx hb dX9_oddsBy_19 rfl (lv_at hl 1 rfl) ?_
  refine va_get (D := D) (ci := 9) (v := .ref (a9 10)) (C := RX9) (T := TX9) (N := 52) hx hb hL inlX9 hown hK.1 hP 0 rfl rfl 20 (by decide) w4 (fun _ h9 => h9) rfl dX9_oddsBy_20 ?_
  refine lv_iload_n hx hb dX9_oddsBy_23 rfl (lv_at hl 2 rfl) ?_
  obtain ⟨h24, hf⟩ := pg_some hf
  refine va_iald hx hb hK.1 hP 3 0 rfl rfl h24 dX9_oddsBy_24 ?_
  refine lv_iadd hx hb dX9_oddsBy_25 ?_
  obtain ⟨h26, hf⟩ := pg_some hf
  refine va_iald hx hb hK.1 hP 2 0 rfl rfl h26 dX9_oddsBy_26 ?_
  refine lv_istore (lv' := [(4, .int (c_holds (2 + (c_seconds x1.toNatClampNeg)).toNatClampNeg)), (3, .int (c_holds (2 + (c_firsts x1.toNatClampNeg)).toNatClampNeg)), (0, .ref (a9 0)), (1, .int x1), (2, .int x2)]) hx hb dX9_oddsBy_27 hl (by decide) rfl (fun ls hl => ?_)
  refine lv_iload_n hx hb dX9_oddsBy_29 rfl (lv_at hl 4 rfl) ?_
  refine lv_iconst (v := 2) hx hb dX9_oddsBy_30 (by decide) ?_
  refine lv_idiv hx hb dX9_oddsBy_31 (by decide) ?_
  refine lv_iconst (v := 1) hx hb dX9_oddsBy_32 (by decide) ?_
  refine lv_icmp_ne (tgt := 43) hx hb dX9_oddsBy_33 (by decide) (fun c33 => ?_) (fun c33 => ?_)
  · have hf := pif_f c33 hf
    refine lv_iload_n hx hb dX9_oddsBy_43 rfl (lv_at hl 1 rfl) ?_
    exact hB44 (c_holds (2 + (c_seconds x1.toNatClampNeg)).toNatClampNeg) (c_holds (2 + (c_firsts x1.toNatClampNeg)).toNatClampNeg) H locs ls hf hP hD hS (lv_sub hl [4, 0] rfl)
  · have hf := pif_t c33 hf
    refine lv_iload_n hx hb dX9_oddsBy_36 rfl (lv_at hl 1 rfl) ?_
    obtain ⟨q37, e37, hf⟩ := pb_some hf
    refine cc_i (wc := []) (wr := [(a9 0, .inr (9, fl9 a9 i9 g9)), ((a9 9), .inl (cyI, 60, .inl c_firsts)), ((a9 5), .inl (cyI, 32, .inl c_holds)), ((a9 10), .inl (cyI, 60, .inl c_seconds))]) (w1 := []) (wn := [(a9 0, .inr (9, fl9 a9 i9 g9)), ((a9 9), .inl (cyI, 60, .inl c_firsts)), ((a9 5), .inl (cyI, 32, .inl c_holds)), ((a9 10), .inl (cyI, 60, .inl c_seconds))]) hP hD hS hA [] [0, 1, 2, 3] [0, 1, 2, 3] rfl rfl rfl (by decide) rfl rfl (va_runS (As := [.int (c_holds (2 + (c_firsts x1.toNatClampNeg)).toNatClampNeg)]) (rest := []) ⟨hx, hb, hml, hown, hL⟩ (mX9_half l D cyI cyJ cyB cyS N H.size   (c_holds (2 + (c_firsts x1.toNatClampNeg)).toNatClampNeg) q37 e37) (va_cwS 1 hL (gS (hR21 20 rfl) (hR21 21 rfl) (hR1 5 rfl) (hR21 22 rfl)) rfl rfl rfl (by decide +kernel) ⟨Nat.le_of_ble_eq_true rfl, Nat.le_of_ble_eq_true rfl⟩) (PP_preS hP hD hK [] rfl rfl) rfl rfl hl.1 rfl (lv_room (Nat.le_of_ble_eq_true rfl)) dX9_oddsBy_37 ⟨Nat.le_of_ble_eq_true rfl, Nat.le_of_ble_eq_true rfl⟩) (fun H locs hP hD hS => ?_)
    refine lv_goto (tgt := 44) hx hb dX9_oddsBy_40 (by decide) ?_
    exact hB44 (c_holds (2 + (c_seconds x1.toNatClampNeg)).toNatClampNeg) q37 H locs ls hf hP hD hS (lv_sub hl [4, 0] rfl)
abbrev rmX9_isGame : Room := { frames := 1, cells := 0, slots := 0, locals := 25 }
set_option maxHeartbeats 40000000 in
set_option maxRecDepth 100000 in
theorem mX9_isGame (l : Launch) (D : va_G) (cyI cyJ cyB cyS : ClassId) (N : Nat) (sz : Nat) (a9 : Nat → Nat) (i9 : Nat → Int32) (g9 : Nat → Int64) (c_many : Nat → Int32) (x1 : Int32) (q : Int32) (hf : fX9_isGame N c_many x1 = some q) : Met l yX9_isGame (wS yX9_isGame cX9_isGame 2 (some .boolean)) rmX9_isGame (va_Pc [.ref (a9 0), .int x1] (PP D cyI cyJ cyB cyS [(a9 0, .inr (9, fl9 a9 i9 g9)), ((a9 12), .inl (cyI, 2, .inl c_many))] sz)) (QI q D [(a9 0, .inr (9, fl9 a9 i9 g9)), ((a9 12), .inl (cyI, 2, .inl c_many))] (va_A [(a9 0, .inr (9, fl9 a9 i9 g9)), ((a9 12), .inl (cyI, 2, .inl c_many))] sz)) 0 0 (va_A [(a9 0, .inr (9, fl9 a9 i9 g9)), ((a9 12), .inl (cyI, 2, .inl c_many))] sz) := by
  refine Met.ofW (cc := cX9_isGame) (maxL := 2) (ret := (some .boolean)) (by decide) rfl ?_
  intro p e s m args below meth c s₁ B hml hv
  obtain ⟨rfl, hsz, hP, hK, hD0⟩ := hv
  have hx := B.exec
  have hb := B.bytes
  have hr := B.returns
  have hts := atoms_spec (ws := (wS yX9_isGame cX9_isGame 2 (some .boolean))) B.pre
  have hown : s.vm.findClass RX9 = some m.cls := findClass_of_methodNamed B.named
  have hlocks := B.notSynchronized
  subst hsz
  have hD := hD0.self (sz := s.heap.size)
  refine w_nameQ (fun Q hQ => ?_)
  have hl := lv_entry ([.ref (a9 0), .int x1] : List Value) (n := 2) (Nat.le_of_ble_eq_true rfl)
  rw [lg_entry_eq]
  generalize (lg_sl ([.ref (a9 0), .int x1] : List Value) ++ List.replicate (2 - (lg_sl ([.ref (a9 0), .int x1] : List Value)).length) Slot.unset).toArray = ls at hl ⊢
  have hl : lv_has ls 2 [(0, .ref (a9 0)), (1, .int x1)] := hl
  generalize hAe : va_A [(a9 0, .inr (9, fl9 a9 i9 g9)), ((a9 12), .inl (cyI, 2, .inl c_many))] s.heap.size = A at hD hQ
  have hA : ∀ q : Nat, s.heap.size ≤ q → A q := fun q h => by rw [← hAe]; exact Or.inr h
  have hS : va_S A s.heap s.heap [] := va_S.rf
  generalize ([.ref (a9 0), .int x1] : List Value).toArray = av at hts hQ ⊢
  have hL : ∀ w ∈ wsL_law, w.before av s = true := fun w h => hts w (List.mem_cons_of_mem _ h)
  have w0 := hL (.fieldLink RX9 43 "LosingLeagueModel" "many" "[I") (hR6 15 rfl)
  have w1 := hL (.static yX9_in) (hR8 8 rfl)
  unfold fX9_isGame at hf
  obtain ⟨H, hH⟩ : ∃ H : Heap, H = s.heap := ⟨_, rfl⟩
  obtain ⟨locs, hlo⟩ : ∃ locs : List Loc, locs = [] := ⟨_, rfl⟩
  have hP : va_P D vwCl [(a9 0, .inr (9, fl9 a9 i9 g9)), ((a9 12), .inl (cyI, 2, .inl c_many))] H := by rw [hH]; exact hP
  have hS : va_S A s.heap H locs := by rw [hH, hlo]; exact hS
  suffices hw : W p l e rmX9_isGame s m av below meth c H locs 0 0 Q (F0 m 0 ls []) by rw [hH, hlo] at hw; exact hw
  refine lv_iload_n hx hb dX9_isGame_0 rfl (lv_at hl 1 rfl) ?_
  refine lv_i2l hx hb dX9_isGame_1 rfl ?_
  refine lv_lconst (v := 0) hx hb dX9_isGame_2 (by decide) ?_
  refine lv_aload_n hx hb dX9_isGame_3 rfl (lv_at hl 0 rfl) ?_
  refine va_get (D := D) (ci := 9) (v := .ref (a9 12)) (C := RX9) (T := TX9) (N := 52) hx hb hL inlX9 hown hK.1 hP 0 rfl rfl 22 (by decide) w0 (fun _ h9 => h9) rfl dX9_isGame_4 ?_
  refine lv_iconst (v := 0) hx hb dX9_isGame_7 (by decide) ?_
  obtain ⟨h8, hf⟩ := pg_some hf
  refine va_iald hx hb hK.1 hP 1 0 rfl rfl h8 dX9_isGame_8 ?_
  refine lv_iconst (v := 1) hx hb dX9_isGame_9 (by decide) ?_
  refine lv_isub hx hb dX9_isGame_10 ?_
  refine lv_i2l hx hb dX9_isGame_11 rfl ?_
  obtain ⟨q12, e12, hf⟩ := pb_some hf
  refine cc_i (wc := []) (wr := [(a9 0, .inr (9, fl9 a9 i9 g9)), ((a9 12), .inl (cyI, 2, .inl c_many))]) (w1 := []) (wn := [(a9 0, .inr (9, fl9 a9 i9 g9)), ((a9 12), .inl (cyI, 2, .inl c_many))]) hP hD hS hA [] [0, 1] [0, 1] rfl rfl rfl (by decide) rfl rfl (va_runS (As := [.long ((x1 : Int32).toInt64), .long 0, .long (((c_many (0 : Int32).toNatClampNeg) - 1 : Int32).toInt64)]) (rest := []) ⟨hx, hb, hml, hown, hL⟩ (mX9_in l D cyI cyJ cyB cyS N H.size   ((x1 : Int32).toInt64) 0 (((c_many (0 : Int32).toNatClampNeg) - 1 : Int32).toInt64) q12 e12) (va_cwS 3 hL (gS (hR8 7 rfl) (hR8 8 rfl) (hR1 5 rfl) (hR8 9 rfl)) rfl rfl rfl (by decide +kernel) ⟨Nat.le_of_ble_eq_true rfl, Nat.le_of_ble_eq_true rfl⟩) (PP_preS hP hD hK [] rfl rfl) rfl rfl hl.1 rfl (lv_room (Nat.le_of_ble_eq_true rfl)) dX9_isGame_12 ⟨Nat.le_of_ble_eq_true rfl, Nat.le_of_ble_eq_true rfl⟩) (fun H locs hP hD hS => ?_)
  obtain ⟨n15, hf⟩ := pg_some hf
  exact ret_z (q := q) (g := fun q => q) (wp := fun q => [(a9 0, .inr (9, fl9 a9 i9 g9)), ((a9 12), .inl (cyI, 2, .inl c_many))]) hQ hf hx hb hr hlocks (isB_n n15) hP hD hS dX9_isGame_15 rfl
abbrev rmX9_of : Room := { frames := 2, cells := 0, slots := 0, locals := 46 }
set_option maxHeartbeats 40000000 in
set_option maxRecDepth 100000 in
theorem mX9_of (l : Launch) (D : va_G) (cyI cyJ cyB cyS : ClassId) (N : Nat) (sz : Nat) (a9 : Nat → Nat) (i9 : Nat → Int32) (g9 : Nat → Int64) (c_firsts : Nat → Int32) (c_goes : Nat → Int32) (c_holds : Nat → Int32) (c_many : Nat → Int32) (c_seconds : Nat → Int32) (x1 : Int32) (x2 : Int32) (q : Int32) (hf : fX9_of N c_firsts c_goes c_holds c_many c_seconds x1 x2 = some q) : Met l yX9_of (wS yX9_of cX9_of 3 (some .int)) rmX9_of (va_Pc [.ref (a9 0), .int x1, .int x2] (PP D cyI cyJ cyB cyS [(a9 0, .inr (9, fl9 a9 i9 g9)), ((a9 9), .inl (cyI, 60, .inl c_firsts)), ((a9 11), .inl (cyI, 60, .inl c_goes)), ((a9 5), .inl (cyI, 32, .inl c_holds)), ((a9 12), .inl (cyI, 2, .inl c_many)), ((a9 10), .inl (cyI, 60, .inl c_seconds))] sz)) (QI q D [(a9 0, .inr (9, fl9 a9 i9 g9)), ((a9 9), .inl (cyI, 60, .inl c_firsts)), ((a9 11), .inl (cyI, 60, .inl c_goes)), ((a9 5), .inl (cyI, 32, .inl c_holds)), ((a9 12), .inl (cyI, 2, .inl c_many)), ((a9 10), .inl (cyI, 60, .inl c_seconds))] (va_A [(a9 0, .inr (9, fl9 a9 i9 g9)), ((a9 9), .inl (cyI, 60, .inl c_firsts)), ((a9 11), .inl (cyI, 60, .inl c_goes)), ((a9 5), .inl (cyI, 32, .inl c_holds)), ((a9 12), .inl (cyI, 2, .inl c_many)), ((a9 10), .inl (cyI, 60, .inl c_seconds))] sz)) 0 0 (va_A [(a9 0, .inr (9, fl9 a9 i9 g9)), ((a9 9), .inl (cyI, 60, .inl c_firsts)), ((a9 11), .inl (cyI, 60, .inl c_goes)), ((a9 5), .inl (cyI, 32, .inl c_holds)), ((a9 12), .inl (cyI, 2, .inl c_many)), ((a9 10), .inl (cyI, 60, .inl c_seconds))] sz) := by
  refine Met.ofW (cc := cX9_of) (maxL := 3) (ret := (some .int)) (by decide) rfl ?_
  intro p e s m args below meth c s₁ B hml hv
  obtain ⟨rfl, hsz, hP, hK, hD0⟩ := hv
  have hx := B.exec
  have hb := B.bytes
  have hr := B.returns
  have hts := atoms_spec (ws := (wS yX9_of cX9_of 3 (some .int))) B.pre
  have hown : s.vm.findClass RX9 = some m.cls := findClass_of_methodNamed B.named
  have hlocks := B.notSynchronized
  subst hsz
  have hD := hD0.self (sz := s.heap.size)
  refine w_nameQ (fun Q hQ => ?_)
  have hl := lv_entry ([.ref (a9 0), .int x1, .int x2] : List Value) (n := 3) (Nat.le_of_ble_eq_true rfl)
  rw [lg_entry_eq]
  generalize (lg_sl ([.ref (a9 0), .int x1, .int x2] : List Value) ++ List.replicate (3 - (lg_sl ([.ref (a9 0), .int x1, .int x2] : List Value)).length) Slot.unset).toArray = ls at hl ⊢
  have hl : lv_has ls 3 [(0, .ref (a9 0)), (1, .int x1), (2, .int x2)] := hl
  generalize hAe : va_A [(a9 0, .inr (9, fl9 a9 i9 g9)), ((a9 9), .inl (cyI, 60, .inl c_firsts)), ((a9 11), .inl (cyI, 60, .inl c_goes)), ((a9 5), .inl (cyI, 32, .inl c_holds)), ((a9 12), .inl (cyI, 2, .inl c_many)), ((a9 10), .inl (cyI, 60, .inl c_seconds))] s.heap.size = A at hD hQ
  have hA : ∀ q : Nat, s.heap.size ≤ q → A q := fun q h => by rw [← hAe]; exact Or.inr h
  have hS : va_S A s.heap s.heap [] := va_S.rf
  generalize ([.ref (a9 0), .int x1, .int x2] : List Value).toArray = av at hts hQ ⊢
  have hL : ∀ w ∈ wsL_law, w.before av s = true := fun w h => hts w (List.mem_cons_of_mem _ h)
  have w0 := hL (.fieldLink RX9 34 "LosingLeagueModel" "firsts" "[I") (hR6 12 rfl)
  have w1 := hL (.fieldLink RX9 37 "LosingLeagueModel" "seconds" "[I") (hR6 13 rfl)
  have w2 := hL (.fieldLink RX9 40 "LosingLeagueModel" "goes" "[I") (hR6 14 rfl)
  unfold fX9_of at hf
  obtain ⟨H, hH⟩ : ∃ H : Heap, H = s.heap := ⟨_, rfl⟩
  obtain ⟨locs, hlo⟩ : ∃ locs : List Loc, locs = [] := ⟨_, rfl⟩
  have hP : va_P D vwCl [(a9 0, .inr (9, fl9 a9 i9 g9)), ((a9 9), .inl (cyI, 60, .inl c_firsts)), ((a9 11), .inl (cyI, 60, .inl c_goes)), ((a9 5), .inl (cyI, 32, .inl c_holds)), ((a9 12), .inl (cyI, 2, .inl c_many)), ((a9 10), .inl (cyI, 60, .inl c_seconds))] H := by rw [hH]; exact hP
  have hS : va_S A s.heap H locs := by rw [hH, hlo]; exact hS
  suffices hw : W p l e rmX9_of s m av below meth c H locs 0 0 Q (F0 m 0 ls []) by rw [hH, hlo] at hw; exact hw
  refine lv_aload_n hx hb dX9_of_0 rfl (lv_at hl 0 rfl) ?_
  refine lv_iload_n hx hb dX9_of_1 rfl (lv_at hl 1 rfl) ?_
  obtain ⟨q2, e2, hf⟩ := pb_some hf
  refine cc_i (wc := [(a9 0, .inr (9, fl9 a9 i9 g9)), ((a9 12), .inl (cyI, 2, .inl c_many))]) (wr := [((a9 9), .inl (cyI, 60, .inl c_firsts)), ((a9 11), .inl (cyI, 60, .inl c_goes)), ((a9 5), .inl (cyI, 32, .inl c_holds)), ((a9 10), .inl (cyI, 60, .inl c_seconds))]) (w1 := [(a9 0, .inr (9, fl9 a9 i9 g9)), ((a9 12), .inl (cyI, 2, .inl c_many))]) (wn := [(a9 0, .inr (9, fl9 a9 i9 g9)), ((a9 9), .inl (cyI, 60, .inl c_firsts)), ((a9 11), .inl (cyI, 60, .inl c_goes)), ((a9 5), .inl (cyI, 32, .inl c_holds)), ((a9 12), .inl (cyI, 2, .inl c_many)), ((a9 10), .inl (cyI, 60, .inl c_seconds))]) hP hD hS hA [0, 4] [1, 2, 3, 5] [4, 0, 1, 2, 5, 3] rfl rfl rfl (by decide) rfl rfl (va_runV (C := RX9) (As := [.int x1]) (rest := []) ⟨hx, hb, hml, hown, hL⟩ (mX9_isGame l D cyI cyJ cyB cyS N H.size a9 i9 g9 c_many x1 q2 e2) (cwV 1 hL (gV (hR21 12 rfl) (hR21 13 rfl) (hR21 14 rfl) (hR1 5 rfl) (hR21 15 rfl)) rfl rfl rfl (by decide +kernel) ⟨Nat.le_of_ble_eq_true rfl, Nat.le_of_ble_eq_true rfl⟩) (PP_preV (ci := 9) (q0 := 0) hP hD hK [0, 4] rfl rfl rfl rfl) rfl rfl hl.1 rfl (lv_room (Nat.le_of_ble_eq_true rfl)) dX9_of_2 ⟨Nat.le_of_ble_eq_true rfl, Nat.le_of_ble_eq_true rfl⟩) (fun H locs hP hD hS => ?_)
  refine lv_if_ne (tgt := 10) hx hb dX9_of_5 (by decide) (fun c5 => ?_) (fun c5 => ?_)
  · have hf := pif_f c5 hf
    refine lv_iload_n hx hb dX9_of_10 rfl (lv_at hl 2 rfl) ?_
    rcases Decidable.em (x2 = 0) with z11_0 | z11_0
    · have hf := pif_t z11_0 hf
      refine lv_tableIn (tgt := 48) hx hb dX9_of_11 (by rw [z11_0]; decide) (by rw [z11_0]; decide) (by rw [z11_0]; try rfl) (by decide) ?_
      refine lv_aload_n hx hb dX9_of_48 rfl (lv_at hl 0 rfl) ?_
      refine va_get (D := D) (ci := 9) (v := .ref (a9 9)) (C := RX9) (T := TX9) (N := 52) hx hb hL inlX9 hown hK.1 hP 0 rfl rfl 19 (by decide) w0 (fun _ h9 => h9) rfl dX9_of_49 ?_
      refine lv_iload_n hx hb dX9_of_52 rfl (lv_at hl 1 rfl) ?_
      obtain ⟨h53, hf⟩ := pg_some hf
      refine va_iald hx hb hK.1 hP 1 0 rfl rfl h53 dX9_of_53 ?_
      exact ret_i (q := q) (g := fun q => q) (wp := fun q => [(a9 0, .inr (9, fl9 a9 i9 g9)), ((a9 9), .inl (cyI, 60, .inl c_firsts)), ((a9 11), .inl (cyI, 60, .inl c_goes)), ((a9 5), .inl (cyI, 32, .inl c_holds)), ((a9 12), .inl (cyI, 2, .inl c_many)), ((a9 10), .inl (cyI, 60, .inl c_seconds))]) hQ hf hx hb hr hlocks hP hD hS dX9_of_54 rfl
    · have hf := pif_f z11_0 hf
      rcases Decidable.em (x2 = 1) with z11_1 | z11_1
      · have hf := pif_t z11_1 hf
        refine lv_tableIn (tgt := 55) hx hb dX9_of_11 (by rw [z11_1]; decide) (by rw [z11_1]; decide) (by rw [z11_1]; try rfl) (by decide) ?_
        refine lv_aload_n hx hb dX9_of_55 rfl (lv_at hl 0 rfl) ?_
        refine va_get (D := D) (ci := 9) (v := .ref (a9 10)) (C := RX9) (T := TX9) (N := 52) hx hb hL inlX9 hown hK.1 hP 0 rfl rfl 20 (by decide) w1 (fun _ h9 => h9) rfl dX9_of_56 ?_
        refine lv_iload_n hx hb dX9_of_59 rfl (lv_at hl 1 rfl) ?_
        obtain ⟨h60, hf⟩ := pg_some hf
        refine va_iald hx hb hK.1 hP 5 0 rfl rfl h60 dX9_of_60 ?_
        exact ret_i (q := q) (g := fun q => q) (wp := fun q => [(a9 0, .inr (9, fl9 a9 i9 g9)), ((a9 9), .inl (cyI, 60, .inl c_firsts)), ((a9 11), .inl (cyI, 60, .inl c_goes)), ((a9 5), .inl (cyI, 32, .inl c_holds)), ((a9 12), .inl (cyI, 2, .inl c_many)), ((a9 10), .inl (cyI, 60, .inl c_seconds))]) hQ hf hx hb hr hlocks hP hD hS dX9_of_61 rfl
      · have hf := pif_f z11_1 hf
        rcases Decidable.em (x2 = 2) with z11_2 | z11_2
        · have hf := pif_t z11_2 hf
          refine lv_tableIn (tgt := 62) hx hb dX9_of_11 (by rw [z11_2]; decide) (by rw [z11_2]; decide) (by rw [z11_2]; try rfl) (by decide) ?_
          refine lv_aload_n hx hb dX9_of_62 rfl (lv_at hl 0 rfl) ?_
          refine va_get (D := D) (ci := 9) (v := .ref (a9 11)) (C := RX9) (T := TX9) (N := 52) hx hb hL inlX9 hown hK.1 hP 0 rfl rfl 21 (by decide) w2 (fun _ h9 => h9) rfl dX9_of_63 ?_
          refine lv_iload_n hx hb dX9_of_66 rfl (lv_at hl 1 rfl) ?_
          obtain ⟨h67, hf⟩ := pg_some hf
          refine va_iald hx hb hK.1 hP 2 0 rfl rfl h67 dX9_of_67 ?_
          exact ret_i (q := q) (g := fun q => q) (wp := fun q => [(a9 0, .inr (9, fl9 a9 i9 g9)), ((a9 9), .inl (cyI, 60, .inl c_firsts)), ((a9 11), .inl (cyI, 60, .inl c_goes)), ((a9 5), .inl (cyI, 32, .inl c_holds)), ((a9 12), .inl (cyI, 2, .inl c_many)), ((a9 10), .inl (cyI, 60, .inl c_seconds))]) hQ hf hx hb hr hlocks hP hD hS dX9_of_68 rfl
        · have hf := pif_f z11_2 hf
          rcases Decidable.em (x2 = 3) with z11_3 | z11_3
          · have hf := pif_t z11_3 hf
            refine lv_tableIn (tgt := 69) hx hb dX9_of_11 (by rw [z11_3]; decide) (by rw [z11_3]; decide) (by rw [z11_3]; try rfl) (by decide) ?_
            refine lv_aload_n hx hb dX9_of_69 rfl (lv_at hl 0 rfl) ?_
            refine lv_iload_n hx hb dX9_of_70 rfl (lv_at hl 1 rfl) ?_
            refine lv_iconst (v := 0) hx hb dX9_of_71 (by decide) ?_
            obtain ⟨q72, e72, hf⟩ := pb_some hf
            refine cc_i (wc := [(a9 0, .inr (9, fl9 a9 i9 g9)), ((a9 9), .inl (cyI, 60, .inl c_firsts)), ((a9 5), .inl (cyI, 32, .inl c_holds)), ((a9 10), .inl (cyI, 60, .inl c_seconds))]) (wr := [((a9 11), .inl (cyI, 60, .inl c_goes)), ((a9 12), .inl (cyI, 2, .inl c_many))]) (w1 := [(a9 0, .inr (9, fl9 a9 i9 g9)), ((a9 9), .inl (cyI, 60, .inl c_firsts)), ((a9 5), .inl (cyI, 32, .inl c_holds)), ((a9 10), .inl (cyI, 60, .inl c_seconds))]) (wn := [(a9 0, .inr (9, fl9 a9 i9 g9)), ((a9 9), .inl (cyI, 60, .inl c_firsts)), ((a9 11), .inl (cyI, 60, .inl c_goes)), ((a9 5), .inl (cyI, 32, .inl c_holds)), ((a9 12), .inl (cyI, 2, .inl c_many)), ((a9 10), .inl (cyI, 60, .inl c_seconds))]) hP hD hS hA [0, 1, 3, 5] [2, 4] [2, 3, 0, 4, 1, 5] rfl rfl rfl (by decide) rfl rfl (va_runV (C := RX9) (As := [.int x1, .int 0]) (rest := []) ⟨hx, hb, hml, hown, hL⟩ (mX9_oddsBy l D cyI cyJ cyB cyS N H.size a9 i9 g9 c_firsts c_holds c_seconds x1 0 q72 e72) (cwV 2 hL (gV (hR21 16 rfl) (hR21 17 rfl) (hR21 18 rfl) (hR1 5 rfl) (hR21 19 rfl)) rfl rfl rfl (by decide +kernel) ⟨Nat.le_of_ble_eq_true rfl, Nat.le_of_ble_eq_true rfl⟩) (PP_preV (ci := 9) (q0 := 0) hP hD hK [0, 1, 3, 5] rfl rfl rfl rfl) rfl rfl hl.1 rfl (lv_room (Nat.le_of_ble_eq_true rfl)) dX9_of_72 ⟨Nat.le_of_ble_eq_true rfl, Nat.le_of_ble_eq_true rfl⟩) (fun H locs hP hD hS => ?_)
            exact ret_i (q := q) (g := fun q => q) (wp := fun q => [(a9 0, .inr (9, fl9 a9 i9 g9)), ((a9 9), .inl (cyI, 60, .inl c_firsts)), ((a9 11), .inl (cyI, 60, .inl c_goes)), ((a9 5), .inl (cyI, 32, .inl c_holds)), ((a9 12), .inl (cyI, 2, .inl c_many)), ((a9 10), .inl (cyI, 60, .inl c_seconds))]) hQ hf hx hb hr hlocks hP hD hS dX9_of_75 rfl
          · have hf := pif_f z11_3 hf
            rcases Decidable.em (x2 = 4) with z11_4 | z11_4
            · have hf := pif_t z11_4 hf
              refine lv_tableIn (tgt := 76) hx hb dX9_of_11 (by rw [z11_4]; decide) (by rw [z11_4]; decide) (by rw [z11_4]; try rfl) (by decide) ?_
              refine lv_aload_n hx hb dX9_of_76 rfl (lv_at hl 0 rfl) ?_
              refine lv_iload_n hx hb dX9_of_77 rfl (lv_at hl 1 rfl) ?_
              refine lv_iconst (v := 2) hx hb dX9_of_78 (by decide) ?_
              obtain ⟨q79, e79, hf⟩ := pb_some hf
              refine cc_i (wc := [(a9 0, .inr (9, fl9 a9 i9 g9)), ((a9 9), .inl (cyI, 60, .inl c_firsts)), ((a9 5), .inl (cyI, 32, .inl c_holds)), ((a9 10), .inl (cyI, 60, .inl c_seconds))]) (wr := [((a9 11), .inl (cyI, 60, .inl c_goes)), ((a9 12), .inl (cyI, 2, .inl c_many))]) (w1 := [(a9 0, .inr (9, fl9 a9 i9 g9)), ((a9 9), .inl (cyI, 60, .inl c_firsts)), ((a9 5), .inl (cyI, 32, .inl c_holds)), ((a9 10), .inl (cyI, 60, .inl c_seconds))]) (wn := [(a9 0, .inr (9, fl9 a9 i9 g9)), ((a9 9), .inl (cyI, 60, .inl c_firsts)), ((a9 11), .inl (cyI, 60, .inl c_goes)), ((a9 5), .inl (cyI, 32, .inl c_holds)), ((a9 12), .inl (cyI, 2, .inl c_many)), ((a9 10), .inl (cyI, 60, .inl c_seconds))]) hP hD hS hA [0, 1, 3, 5] [2, 4] [2, 3, 0, 4, 1, 5] rfl rfl rfl (by decide) rfl rfl (va_runV (C := RX9) (As := [.int x1, .int 2]) (rest := []) ⟨hx, hb, hml, hown, hL⟩ (mX9_oddsBy l D cyI cyJ cyB cyS N H.size a9 i9 g9 c_firsts c_holds c_seconds x1 2 q79 e79) (cwV 2 hL (gV (hR21 16 rfl) (hR21 17 rfl) (hR21 18 rfl) (hR1 5 rfl) (hR21 19 rfl)) rfl rfl rfl (by decide +kernel) ⟨Nat.le_of_ble_eq_true rfl, Nat.le_of_ble_eq_true rfl⟩) (PP_preV (ci := 9) (q0 := 0) hP hD hK [0, 1, 3, 5] rfl rfl rfl rfl) rfl rfl hl.1 rfl (lv_room (Nat.le_of_ble_eq_true rfl)) dX9_of_79 ⟨Nat.le_of_ble_eq_true rfl, Nat.le_of_ble_eq_true rfl⟩) (fun H locs hP hD hS => ?_)
              exact ret_i (q := q) (g := fun q => q) (wp := fun q => [(a9 0, .inr (9, fl9 a9 i9 g9)), ((a9 9), .inl (cyI, 60, .inl c_firsts)), ((a9 11), .inl (cyI, 60, .inl c_goes)), ((a9 5), .inl (cyI, 32, .inl c_holds)), ((a9 12), .inl (cyI, 2, .inl c_many)), ((a9 10), .inl (cyI, 60, .inl c_seconds))]) hQ hf hx hb hr hlocks hP hD hS dX9_of_82 rfl
            · have hf := pif_f z11_4 hf
              rcases Decidable.em (x2 = 5) with z11_5 | z11_5
              · have hf := pif_t z11_5 hf
                refine lv_tableIn (tgt := 83) hx hb dX9_of_11 (by rw [z11_5]; decide) (by rw [z11_5]; decide) (by rw [z11_5]; try rfl) (by decide) ?_
                refine lv_aload_n hx hb dX9_of_83 rfl (lv_at hl 0 rfl) ?_
                refine lv_iload_n hx hb dX9_of_84 rfl (lv_at hl 1 rfl) ?_
                refine lv_iconst (v := 1) hx hb dX9_of_85 (by decide) ?_
                obtain ⟨q86, e86, hf⟩ := pb_some hf
                refine cc_i (wc := [(a9 0, .inr (9, fl9 a9 i9 g9)), ((a9 9), .inl (cyI, 60, .inl c_firsts)), ((a9 5), .inl (cyI, 32, .inl c_holds)), ((a9 10), .inl (cyI, 60, .inl c_seconds))]) (wr := [((a9 11), .inl (cyI, 60, .inl c_goes)), ((a9 12), .inl (cyI, 2, .inl c_many))]) (w1 := [(a9 0, .inr (9, fl9 a9 i9 g9)), ((a9 9), .inl (cyI, 60, .inl c_firsts)), ((a9 5), .inl (cyI, 32, .inl c_holds)), ((a9 10), .inl (cyI, 60, .inl c_seconds))]) (wn := [(a9 0, .inr (9, fl9 a9 i9 g9)), ((a9 9), .inl (cyI, 60, .inl c_firsts)), ((a9 11), .inl (cyI, 60, .inl c_goes)), ((a9 5), .inl (cyI, 32, .inl c_holds)), ((a9 12), .inl (cyI, 2, .inl c_many)), ((a9 10), .inl (cyI, 60, .inl c_seconds))]) hP hD hS hA [0, 1, 3, 5] [2, 4] [2, 3, 0, 4, 1, 5] rfl rfl rfl (by decide) rfl rfl (va_runV (C := RX9) (As := [.int x1, .int 1]) (rest := []) ⟨hx, hb, hml, hown, hL⟩ (mX9_oddsBy l D cyI cyJ cyB cyS N H.size a9 i9 g9 c_firsts c_holds c_seconds x1 1 q86 e86) (cwV 2 hL (gV (hR21 16 rfl) (hR21 17 rfl) (hR21 18 rfl) (hR1 5 rfl) (hR21 19 rfl)) rfl rfl rfl (by decide +kernel) ⟨Nat.le_of_ble_eq_true rfl, Nat.le_of_ble_eq_true rfl⟩) (PP_preV (ci := 9) (q0 := 0) hP hD hK [0, 1, 3, 5] rfl rfl rfl rfl) rfl rfl hl.1 rfl (lv_room (Nat.le_of_ble_eq_true rfl)) dX9_of_86 ⟨Nat.le_of_ble_eq_true rfl, Nat.le_of_ble_eq_true rfl⟩) (fun H locs hP hD hS => ?_)
                exact ret_i (q := q) (g := fun q => q) (wp := fun q => [(a9 0, .inr (9, fl9 a9 i9 g9)), ((a9 9), .inl (cyI, 60, .inl c_firsts)), ((a9 11), .inl (cyI, 60, .inl c_goes)), ((a9 5), .inl (cyI, 32, .inl c_holds)), ((a9 12), .inl (cyI, 2, .inl c_many)), ((a9 10), .inl (cyI, 60, .inl c_seconds))]) hQ hf hx hb hr hlocks hP hD hS dX9_of_89 rfl
              · have hf := pif_f z11_5 hf
                refine lv_tableOut (tgt := 90) hx hb dX9_of_11 (by have y0 := lv_neT (k := 0) (a := 0) z11_0 rfl; have y1 := lv_neT (k := 1) (a := 1) z11_1 rfl; have y2 := lv_neT (k := 2) (a := 2) z11_2 rfl; have y3 := lv_neT (k := 3) (a := 3) z11_3 rfl; have y4 := lv_neT (k := 4) (a := 4) z11_4 rfl; have y5 := lv_neT (k := 5) (a := 5) z11_5 rfl; omega) (by decide) ?_
                refine lv_iconst (v := (-1)) hx hb dX9_of_90 (by decide) ?_
                exact ret_i (q := q) (g := fun q => q) (wp := fun q => [(a9 0, .inr (9, fl9 a9 i9 g9)), ((a9 9), .inl (cyI, 60, .inl c_firsts)), ((a9 11), .inl (cyI, 60, .inl c_goes)), ((a9 5), .inl (cyI, 32, .inl c_holds)), ((a9 12), .inl (cyI, 2, .inl c_many)), ((a9 10), .inl (cyI, 60, .inl c_seconds))]) hQ hf hx hb hr hlocks hP hD hS dX9_of_91 rfl
  · have hf := pif_t c5 hf
    refine lv_iconst (v := (-1)) hx hb dX9_of_8 (by decide) ?_
    exact ret_i (q := q) (g := fun q => q) (wp := fun q => [(a9 0, .inr (9, fl9 a9 i9 g9)), ((a9 9), .inl (cyI, 60, .inl c_firsts)), ((a9 11), .inl (cyI, 60, .inl c_goes)), ((a9 5), .inl (cyI, 32, .inl c_holds)), ((a9 12), .inl (cyI, 2, .inl c_many)), ((a9 10), .inl (cyI, 60, .inl c_seconds))]) hQ hf hx hb hr hlocks hP hD hS dX9_of_9 rfl
abbrev rmX9_ends : Room := { frames := 2, cells := 0, slots := 0, locals := 46 }
set_option maxHeartbeats 40000000 in
set_option maxRecDepth 100000 in
theorem mX9_ends (l : Launch) (D : va_G) (cyI cyJ cyB cyS : ClassId) (N : Nat) (sz : Nat) (a9 : Nat → Nat) (i9 : Nat → Int32) (g9 : Nat → Int64) (c_goes : Nat → Int32) (c_many : Nat → Int32) (x1 : Int32) (x2 : Int32) (q : Int32 × (Nat → Int32)) (hf : fX9_ends N c_goes c_many x1 x2 = some q) : Met l yX9_ends (wS yX9_ends cX9_ends 4 (some .int)) rmX9_ends (va_Pc [.ref (a9 0), .int x1, .int x2] (PP D cyI cyJ cyB cyS [(a9 0, .inr (9, fl9 a9 i9 g9)), ((a9 11), .inl (cyI, 60, .inl c_goes)), ((a9 12), .inl (cyI, 2, .inl c_many))] sz)) (QI q.1 D [(a9 0, .inr (9, fl9 a9 i9 g9)), ((a9 11), .inl (cyI, 60, .inl q.2)), ((a9 12), .inl (cyI, 2, .inl c_many))] (va_A [(a9 0, .inr (9, fl9 a9 i9 g9)), ((a9 11), .inl (cyI, 60, .inl c_goes)), ((a9 12), .inl (cyI, 2, .inl c_many))] sz)) 0 0 (va_A [(a9 0, .inr (9, fl9 a9 i9 g9)), ((a9 11), .inl (cyI, 60, .inl c_goes)), ((a9 12), .inl (cyI, 2, .inl c_many))] sz) := by
  refine Met.ofW (cc := cX9_ends) (maxL := 4) (ret := (some .int)) (by decide) rfl ?_
  intro p e s m args below meth c s₁ B hml hv
  obtain ⟨rfl, hsz, hP, hK, hD0⟩ := hv
  have hx := B.exec
  have hb := B.bytes
  have hr := B.returns
  have hts := atoms_spec (ws := (wS yX9_ends cX9_ends 4 (some .int))) B.pre
  have hown : s.vm.findClass RX9 = some m.cls := findClass_of_methodNamed B.named
  have hlocks := B.notSynchronized
  subst hsz
  have hD := hD0.self (sz := s.heap.size)
  refine w_nameQ (fun Q hQ => ?_)
  have hl := lv_entry ([.ref (a9 0), .int x1, .int x2] : List Value) (n := 4) (Nat.le_of_ble_eq_true rfl)
  rw [lg_entry_eq]
  generalize (lg_sl ([.ref (a9 0), .int x1, .int x2] : List Value) ++ List.replicate (4 - (lg_sl ([.ref (a9 0), .int x1, .int x2] : List Value)).length) Slot.unset).toArray = ls at hl ⊢
  have hl : lv_has ls 4 [(0, .ref (a9 0)), (1, .int x1), (2, .int x2)] := hl
  generalize hAe : va_A [(a9 0, .inr (9, fl9 a9 i9 g9)), ((a9 11), .inl (cyI, 60, .inl c_goes)), ((a9 12), .inl (cyI, 2, .inl c_many))] s.heap.size = A at hD hQ
  have hA : ∀ q : Nat, s.heap.size ≤ q → A q := fun q h => by rw [← hAe]; exact Or.inr h
  have hS : va_S A s.heap s.heap [] := va_S.rf
  generalize ([.ref (a9 0), .int x1, .int x2] : List Value).toArray = av at hts hQ ⊢
  have hL : ∀ w ∈ wsL_law, w.before av s = true := fun w h => hts w (List.mem_cons_of_mem _ h)
  have w0 := hL (.constantLong RX9 196 2) (hR22 10 rfl)
  have w1 := hL (.static yX9_in) (hR8 8 rfl)
  have w2 := hL (.fieldLink RX9 40 "LosingLeagueModel" "goes" "[I") (hR6 14 rfl)
  have hB20 : ∀ (c_goes : Nat → Int32) (H : Heap) (locs : List Loc) (ls : Array Slot), fX9_ends_20 N c_many x1 x2 c_goes = some q → va_P D vwCl [(a9 0, .inr (9, fl9 a9 i9 g9)), ((a9 11), .inl (cyI, 60, .inl c_goes)), ((a9 12), .inl (cyI, 2, .inl c_many))] H → va_D A [(a9 0, .inr (9, fl9 a9 i9 g9)), ((a9 11), .inl (cyI, 60, .inl c_goes)), ((a9 12), .inl (cyI, 2, .inl c_many))] → va_S A s.heap H locs → lv_has ls 4 [] → W p l e rmX9_ends s m av below meth c H locs 0 0 Q (F0 m 20 ls []) := by
    intro c_goes H locs ls hf hP hD hS hl
    unfold fX9_ends_20 at hf
    refine lv_iconst (v := (-1)) hx hb dX9_ends_20 (by decide) ?_
    exact ret_i (q := q) (g := fun q => q.1) (wp := fun q => [(a9 0, .inr (9, fl9 a9 i9 g9)), ((a9 11), .inl (cyI, 60, .inl q.2)), ((a9 12), .inl (cyI, 2, .inl c_many))]) hQ hf hx hb hr hlocks hP hD hS dX9_ends_21 rfl
  unfold fX9_ends at hf
  obtain ⟨H, hH⟩ : ∃ H : Heap, H = s.heap := ⟨_, rfl⟩
  obtain ⟨locs, hlo⟩ : ∃ locs : List Loc, locs = [] := ⟨_, rfl⟩
  have hP : va_P D vwCl [(a9 0, .inr (9, fl9 a9 i9 g9)), ((a9 11), .inl (cyI, 60, .inl c_goes)), ((a9 12), .inl (cyI, 2, .inl c_many))] H := by rw [hH]; exact hP
  have hS : va_S A s.heap H locs := by rw [hH, hlo]; exact hS
  suffices hw : W p l e rmX9_ends s m av below meth c H locs 0 0 Q (F0 m 0 ls []) by rw [hH, hlo] at hw; exact hw
  refine lv_aload_n hx hb dX9_ends_0 rfl (lv_at hl 0 rfl) ?_
  refine lv_iload_n hx hb dX9_ends_1 rfl (lv_at hl 1 rfl) ?_
  obtain ⟨q2, e2, hf⟩ := pb_some hf
  refine cc_i (wc := [(a9 0, .inr (9, fl9 a9 i9 g9)), ((a9 12), .inl (cyI, 2, .inl c_many))]) (wr := [((a9 11), .inl (cyI, 60, .inl c_goes))]) (w1 := [(a9 0, .inr (9, fl9 a9 i9 g9)), ((a9 12), .inl (cyI, 2, .inl c_many))]) (wn := [(a9 0, .inr (9, fl9 a9 i9 g9)), ((a9 11), .inl (cyI, 60, .inl c_goes)), ((a9 12), .inl (cyI, 2, .inl c_many))]) hP hD hS hA [0, 2] [1] [1, 0, 2] rfl rfl rfl (by decide) rfl rfl (va_runV (C := RX9) (As := [.int x1]) (rest := []) ⟨hx, hb, hml, hown, hL⟩ (mX9_isGame l D cyI cyJ cyB cyS N H.size a9 i9 g9 c_many x1 q2 e2) (cwV 1 hL (gV (hR21 12 rfl) (hR21 13 rfl) (hR21 14 rfl) (hR1 5 rfl) (hR21 15 rfl)) rfl rfl rfl (by decide +kernel) ⟨Nat.le_of_ble_eq_true rfl, Nat.le_of_ble_eq_true rfl⟩) (PP_preV (ci := 9) (q0 := 0) hP hD hK [0, 2] rfl rfl rfl rfl) rfl rfl hl.1 rfl (lv_room (Nat.le_of_ble_eq_true rfl)) dX9_ends_2 ⟨Nat.le_of_ble_eq_true rfl, Nat.le_of_ble_eq_true rfl⟩) (fun H locs hP hD hS => ?_)
  refine lv_if_eq (tgt := 20) hx hb dX9_ends_5 (by decide) (fun c5 => ?_) (fun c5 => ?_)
  · have hf := pif_t c5 hf
    exact hB20 c_goes H locs ls hf hP hD hS (lv_sub hl [] rfl)
  · have hf := pif_f c5 hf
    refine lv_iload_n hx hb dX9_ends_8 rfl (lv_at hl 2 rfl) ?_
    refine lv_i2l hx hb dX9_ends_9 rfl ?_
    refine lv_lconst (v := 0) hx hb dX9_ends_10 (by decide) ?_
    refine lv_ldc2 (v := 2) hx hb hown w0 dX9_ends_11 ?_
    obtain ⟨q14, e14, hf⟩ := pb_some hf
    refine cc_i (wc := []) (wr := [(a9 0, .inr (9, fl9 a9 i9 g9)), ((a9 11), .inl (cyI, 60, .inl c_goes)), ((a9 12), .inl (cyI, 2, .inl c_many))]) (w1 := []) (wn := [(a9 0, .inr (9, fl9 a9 i9 g9)), ((a9 11), .inl (cyI, 60, .inl c_goes)), ((a9 12), .inl (cyI, 2, .inl c_many))]) hP hD hS hA [] [0, 1, 2] [0, 1, 2] rfl rfl rfl (by decide) rfl rfl (va_runS (As := [.long ((x2 : Int32).toInt64), .long 0, .long 2]) (rest := []) ⟨hx, hb, hml, hown, hL⟩ (mX9_in l D cyI cyJ cyB cyS N H.size   ((x2 : Int32).toInt64) 0 2 q14 e14) (va_cwS 3 hL (gS (hR8 7 rfl) (hR8 8 rfl) (hR1 5 rfl) (hR8 9 rfl)) rfl rfl rfl (by decide +kernel) ⟨Nat.le_of_ble_eq_true rfl, Nat.le_of_ble_eq_true rfl⟩) (PP_preS hP hD hK [] rfl rfl) rfl rfl hl.1 rfl (lv_room (Nat.le_of_ble_eq_true rfl)) dX9_ends_14 ⟨Nat.le_of_ble_eq_true rfl, Nat.le_of_ble_eq_true rfl⟩) (fun H locs hP hD hS => ?_)
    refine lv_if_ne (tgt := 22) hx hb dX9_ends_17 (by decide) (fun c17 => ?_) (fun c17 => ?_)
    · have hf := pif_f c17 hf
      refine lv_aload_n hx hb dX9_ends_22 rfl (lv_at hl 0 rfl) ?_
      refine va_get (D := D) (ci := 9) (v := .ref (a9 11)) (C := RX9) (T := TX9) (N := 52) hx hb hL inlX9 hown hK.1 hP 0 rfl rfl 21 (by decide) w2 (fun _ h9 => h9) rfl dX9_ends_23 ?_
      refine lv_iload_n hx hb dX9_ends_26 rfl (lv_at hl 1 rfl) ?_
      obtain ⟨h27, hf⟩ := pg_some hf
      refine va_iald hx hb hK.1 hP 1 0 rfl rfl h27 dX9_ends_27 ?_
      refine lv_istore_n (lv' := [(3, .int (c_goes x1.toNatClampNeg)), (0, .ref (a9 0)), (1, .int x1), (2, .int x2)]) hx hb dX9_ends_28 rfl hl (by decide) rfl (fun ls hl => ?_)
      refine lv_aload_n hx hb dX9_ends_29 rfl (lv_at hl 1 rfl) ?_
      refine va_get (D := D) (ci := 9) (v := .ref (a9 11)) (C := RX9) (T := TX9) (N := 52) hx hb hL inlX9 hown hK.1 hP 0 rfl rfl 21 (by decide) w2 (fun _ h9 => h9) rfl dX9_ends_30 ?_
      refine lv_iload_n hx hb dX9_ends_33 rfl (lv_at hl 2 rfl) ?_
      refine lv_iload_n hx hb dX9_ends_34 rfl (lv_at hl 3 rfl) ?_
      obtain ⟨h35, hf⟩ := pg_some hf
      refine va_iast hx hb hK.1 hP hD hS 1 0 rfl rfl h35 dX9_ends_35 (fun H locs hP hD hS => ?_)
      have hP : va_P D vwCl [(a9 0, .inr (9, fl9 a9 i9 g9)), ((a9 11), .inl (cyI, 60, .inl (upd c_goes x1.toNatClampNeg x2))), ((a9 12), .inl (cyI, 2, .inl c_many))] H := hP
      have hD : va_D A [(a9 0, .inr (9, fl9 a9 i9 g9)), ((a9 11), .inl (cyI, 60, .inl (upd c_goes x1.toNatClampNeg x2))), ((a9 12), .inl (cyI, 2, .inl c_many))] := hD
      refine lv_iload_n hx hb dX9_ends_36 rfl (lv_at hl 0 rfl) ?_
      exact ret_i (q := q) (g := fun q => q.1) (wp := fun q => [(a9 0, .inr (9, fl9 a9 i9 g9)), ((a9 11), .inl (cyI, 60, .inl q.2)), ((a9 12), .inl (cyI, 2, .inl c_many))]) hQ hf hx hb hr hlocks hP hD hS dX9_ends_37 rfl
    · have hf := pif_t c17 hf
      exact hB20 c_goes H locs ls hf hP hD hS (lv_sub hl [] rfl)
abbrev rmX9_from : Room := { frames := 0, cells := 0, slots := 0, locals := 0 }
set_option maxHeartbeats 40000000 in
set_option maxRecDepth 100000 in
theorem mX9_from (l : Launch) (D : va_G) (cyI cyJ cyB cyS : ClassId) (N : Nat) (sz : Nat)  (x0 : Int32) (q : Int32) (hf : fX9_from N x0 = some q) : Met l yX9_from (wS yX9_from cX9_from 1 (some .int)) rmX9_from (va_Pc [.int x0] (PP D cyI cyJ cyB cyS [] sz)) (QI q D [] (va_A [] sz)) 0 0 (va_A [] sz) := by
  refine Met.ofW (cc := cX9_from) (maxL := 1) (ret := (some .int)) (by decide) rfl ?_
  intro p e s m args below meth c s₁ B hml hv
  obtain ⟨rfl, hsz, hP, hK, hD0⟩ := hv
  have hx := B.exec
  have hb := B.bytes
  have hr := B.returns
  have hts := atoms_spec (ws := (wS yX9_from cX9_from 1 (some .int))) B.pre
  have hown : s.vm.findClass RX9 = some m.cls := findClass_of_methodNamed B.named
  have hlocks := B.notSynchronized
  subst hsz
  have hD := hD0.self (sz := s.heap.size)
  refine w_nameQ (fun Q hQ => ?_)
  have hl := lv_entry ([.int x0] : List Value) (n := 1) (Nat.le_of_ble_eq_true rfl)
  rw [lg_entry_eq]
  generalize (lg_sl ([.int x0] : List Value) ++ List.replicate (1 - (lg_sl ([.int x0] : List Value)).length) Slot.unset).toArray = ls at hl ⊢
  have hl : lv_has ls 1 [(0, .int x0)] := hl
  generalize hAe : va_A [] s.heap.size = A at hD hQ
  have hA : ∀ q : Nat, s.heap.size ≤ q → A q := fun q h => by rw [← hAe]; exact Or.inr h
  have hS : va_S A s.heap s.heap [] := va_S.rf
  generalize ([.int x0] : List Value).toArray = av at hts hQ ⊢
  have hL : ∀ w ∈ wsL_law, w.before av s = true := fun w h => hts w (List.mem_cons_of_mem _ h)
  unfold fX9_from at hf
  obtain ⟨H, hH⟩ : ∃ H : Heap, H = s.heap := ⟨_, rfl⟩
  obtain ⟨locs, hlo⟩ : ∃ locs : List Loc, locs = [] := ⟨_, rfl⟩
  have hP : va_P D vwCl [] H := by rw [hH]; exact hP
  have hS : va_S A s.heap H locs := by rw [hH, hlo]; exact hS
  suffices hw : W p l e rmX9_from s m av below meth c H locs 0 0 Q (F0 m 0 ls []) by rw [hH, hlo] at hw; exact hw
  refine lv_bipush (v := 30) hx hb dX9_from_0 (by decide) ?_
  refine lv_iload_n hx hb dX9_from_2 rfl (lv_at hl 0 rfl) ?_
  refine lv_imul hx hb dX9_from_3 ?_
  exact ret_i (q := q) (g := fun q => q) (wp := fun q => []) hQ hf hx hb hr hlocks hP hD hS dX9_from_4 rfl
abbrev rmX9_winner : Room := { frames := 0, cells := 0, slots := 0, locals := 0 }
set_option maxHeartbeats 40000000 in
set_option maxRecDepth 100000 in
theorem mX9_winner (l : Launch) (D : va_G) (cyI cyJ cyB cyS : ClassId) (N : Nat) (sz : Nat) (a9 : Nat → Nat) (i9 : Nat → Int32) (g9 : Nat → Int64) (c_firsts : Nat → Int32) (c_goes : Nat → Int32) (c_seconds : Nat → Int32) (x1 : Int32) (q : Int32) (hf : fX9_winner N c_firsts c_goes c_seconds x1 = some q) : Met l yX9_winner (wS yX9_winner cX9_winner 2 (some .int)) rmX9_winner (va_Pc [.ref (a9 0), .int x1] (PP D cyI cyJ cyB cyS [(a9 0, .inr (9, fl9 a9 i9 g9)), ((a9 9), .inl (cyI, 60, .inl c_firsts)), ((a9 11), .inl (cyI, 60, .inl c_goes)), ((a9 10), .inl (cyI, 60, .inl c_seconds))] sz)) (QI q D [(a9 0, .inr (9, fl9 a9 i9 g9)), ((a9 9), .inl (cyI, 60, .inl c_firsts)), ((a9 11), .inl (cyI, 60, .inl c_goes)), ((a9 10), .inl (cyI, 60, .inl c_seconds))] (va_A [(a9 0, .inr (9, fl9 a9 i9 g9)), ((a9 9), .inl (cyI, 60, .inl c_firsts)), ((a9 11), .inl (cyI, 60, .inl c_goes)), ((a9 10), .inl (cyI, 60, .inl c_seconds))] sz)) 0 0 (va_A [(a9 0, .inr (9, fl9 a9 i9 g9)), ((a9 9), .inl (cyI, 60, .inl c_firsts)), ((a9 11), .inl (cyI, 60, .inl c_goes)), ((a9 10), .inl (cyI, 60, .inl c_seconds))] sz) := by
  refine Met.ofW (cc := cX9_winner) (maxL := 2) (ret := (some .int)) (by decide) rfl ?_
  intro p e s m args below meth c s₁ B hml hv
  obtain ⟨rfl, hsz, hP, hK, hD0⟩ := hv
  have hx := B.exec
  have hb := B.bytes
  have hr := B.returns
  have hts := atoms_spec (ws := (wS yX9_winner cX9_winner 2 (some .int))) B.pre
  have hown : s.vm.findClass RX9 = some m.cls := findClass_of_methodNamed B.named
  have hlocks := B.notSynchronized
  subst hsz
  have hD := hD0.self (sz := s.heap.size)
  refine w_nameQ (fun Q hQ => ?_)
  have hl := lv_entry ([.ref (a9 0), .int x1] : List Value) (n := 2) (Nat.le_of_ble_eq_true rfl)
  rw [lg_entry_eq]
  generalize (lg_sl ([.ref (a9 0), .int x1] : List Value) ++ List.replicate (2 - (lg_sl ([.ref (a9 0), .int x1] : List Value)).length) Slot.unset).toArray = ls at hl ⊢
  have hl : lv_has ls 2 [(0, .ref (a9 0)), (1, .int x1)] := hl
  generalize hAe : va_A [(a9 0, .inr (9, fl9 a9 i9 g9)), ((a9 9), .inl (cyI, 60, .inl c_firsts)), ((a9 11), .inl (cyI, 60, .inl c_goes)), ((a9 10), .inl (cyI, 60, .inl c_seconds))] s.heap.size = A at hD hQ
  have hA : ∀ q : Nat, s.heap.size ≤ q → A q := fun q h => by rw [← hAe]; exact Or.inr h
  have hS : va_S A s.heap s.heap [] := va_S.rf
  generalize ([.ref (a9 0), .int x1] : List Value).toArray = av at hts hQ ⊢
  have hL : ∀ w ∈ wsL_law, w.before av s = true := fun w h => hts w (List.mem_cons_of_mem _ h)
  have w0 := hL (.fieldLink RX9 40 "LosingLeagueModel" "goes" "[I") (hR6 14 rfl)
  have w1 := hL (.fieldLink RX9 37 "LosingLeagueModel" "seconds" "[I") (hR6 13 rfl)
  have w2 := hL (.fieldLink RX9 34 "LosingLeagueModel" "firsts" "[I") (hR6 12 rfl)
  have hB39 : ∀ (s0 : Int32) (H : Heap) (locs : List Loc) (ls : Array Slot), fX9_winner_39 N c_firsts c_goes c_seconds x1 s0 = some q → va_P D vwCl [(a9 0, .inr (9, fl9 a9 i9 g9)), ((a9 9), .inl (cyI, 60, .inl c_firsts)), ((a9 11), .inl (cyI, 60, .inl c_goes)), ((a9 10), .inl (cyI, 60, .inl c_seconds))] H → va_D A [(a9 0, .inr (9, fl9 a9 i9 g9)), ((a9 9), .inl (cyI, 60, .inl c_firsts)), ((a9 11), .inl (cyI, 60, .inl c_goes)), ((a9 10), .inl (cyI, 60, .inl c_seconds))] → va_S A s.heap H locs → lv_has ls 2 [] → W p l e rmX9_winner s m av below meth c H locs 0 0 Q (F0 m 39 ls [.int s0]) := by
    intro s0 H locs ls hf hP hD hS hl
    unfold fX9_winner_39 at hf
    exact ret_i (q := q) (g := fun q => q) (wp := fun q => [(a9 0, .inr (9, fl9 a9 i9 g9)), ((a9 9), .inl (cyI, 60, .inl c_firsts)), ((a9 11), .inl (cyI, 60, .inl c_goes)), ((a9 10), .inl (cyI, 60, .inl c_seconds))]) hQ hf hx hb hr hlocks hP hD hS dX9_winner_39 rfl
  unfold fX9_winner at hf
  obtain ⟨H, hH⟩ : ∃ H : Heap, H = s.heap := ⟨_, rfl⟩
  obtain ⟨locs, hlo⟩ : ∃ locs : List Loc, locs = [] := ⟨_, rfl⟩
  have hP : va_P D vwCl [(a9 0, .inr (9, fl9 a9 i9 g9)), ((a9 9), .inl (cyI, 60, .inl c_firsts)), ((a9 11), .inl (cyI, 60, .inl c_goes)), ((a9 10), .inl (cyI, 60, .inl c_seconds))] H := by rw [hH]; exact hP
  have hS : va_S A s.heap H locs := by rw [hH, hlo]; exact hS
  suffices hw : W p l e rmX9_winner s m av below meth c H locs 0 0 Q (F0 m 0 ls []) by rw [hH, hlo] at hw; exact hw
  refine lv_aload_n hx hb dX9_winner_0 rfl (lv_at hl 0 rfl) ?_
  refine va_get (D := D) (ci := 9) (v := .ref (a9 11)) (C := RX9) (T := TX9) (N := 52) hx hb hL inlX9 hown hK.1 hP 0 rfl rfl 21 (by decide) w0 (fun _ h9 => h9) rfl dX9_winner_1 ?_
  refine lv_iload_n hx hb dX9_winner_4 rfl (lv_at hl 1 rfl) ?_
  obtain ⟨h5, hf⟩ := pg_some hf
  refine va_iald hx hb hK.1 hP 2 0 rfl rfl h5 dX9_winner_5 ?_
  refine lv_if_ne (tgt := 18) hx hb dX9_winner_6 (by decide) (fun c6 => ?_) (fun c6 => ?_)
  · have hf := pif_f c6 hf
    refine lv_aload_n hx hb dX9_winner_18 rfl (lv_at hl 0 rfl) ?_
    refine va_get (D := D) (ci := 9) (v := .ref (a9 11)) (C := RX9) (T := TX9) (N := 52) hx hb hL inlX9 hown hK.1 hP 0 rfl rfl 21 (by decide) w0 (fun _ h9 => h9) rfl dX9_winner_19 ?_
    refine lv_iload_n hx hb dX9_winner_22 rfl (lv_at hl 1 rfl) ?_
    obtain ⟨h23, hf⟩ := pg_some hf
    refine va_iald hx hb hK.1 hP 2 0 rfl rfl h23 dX9_winner_23 ?_
    refine lv_iconst (v := 1) hx hb dX9_winner_24 (by decide) ?_
    refine lv_icmp_ne (tgt := 37) hx hb dX9_winner_25 (by decide) (fun c25 => ?_) (fun c25 => ?_)
    · have hf := pif_f c25 hf
      refine lv_bipush (v := (-4)) hx hb dX9_winner_37 (by decide) ?_
      exact hB39 (-4) H locs ls hf hP hD hS (lv_sub hl [] rfl)
    · have hf := pif_t c25 hf
      refine lv_aload_n hx hb dX9_winner_28 rfl (lv_at hl 0 rfl) ?_
      refine va_get (D := D) (ci := 9) (v := .ref (a9 10)) (C := RX9) (T := TX9) (N := 52) hx hb hL inlX9 hown hK.1 hP 0 rfl rfl 20 (by decide) w1 (fun _ h9 => h9) rfl dX9_winner_29 ?_
      refine lv_iload_n hx hb dX9_winner_32 rfl (lv_at hl 1 rfl) ?_
      obtain ⟨h33, hf⟩ := pg_some hf
      refine va_iald hx hb hK.1 hP 3 0 rfl rfl h33 dX9_winner_33 ?_
      refine lv_goto (tgt := 39) hx hb dX9_winner_34 (by decide) ?_
      exact hB39 (c_seconds x1.toNatClampNeg) H locs ls hf hP hD hS (lv_sub hl [] rfl)
  · have hf := pif_t c6 hf
    refine lv_aload_n hx hb dX9_winner_9 rfl (lv_at hl 0 rfl) ?_
    refine va_get (D := D) (ci := 9) (v := .ref (a9 9)) (C := RX9) (T := TX9) (N := 52) hx hb hL inlX9 hown hK.1 hP 0 rfl rfl 19 (by decide) w2 (fun _ h9 => h9) rfl dX9_winner_10 ?_
    refine lv_iload_n hx hb dX9_winner_13 rfl (lv_at hl 1 rfl) ?_
    obtain ⟨h14, hf⟩ := pg_some hf
    refine va_iald hx hb hK.1 hP 1 0 rfl rfl h14 dX9_winner_14 ?_
    refine lv_goto (tgt := 39) hx hb dX9_winner_15 (by decide) ?_
    exact hB39 (c_firsts x1.toNatClampNeg) H locs ls hf hP hD hS (lv_sub hl [] rfl)
abbrev rmX9_layTable : Room := { frames := 1, cells := 0, slots := 0, locals := 21 }
set_option maxHeartbeats 40000000 in
set_option maxRecDepth 100000 in
theorem mX9_layTable (l : Launch) (D : va_G) (cyI cyJ cyB cyS : ClassId) (N : Nat) (sz : Nat) (a9 : Nat → Nat) (i9 : Nat → Int32) (g9 : Nat → Int64) (c_firsts : Nat → Int32) (c_goes : Nat → Int32) (c_holds : Nat → Int32) (c_many : Nat → Int32) (c_placeOf : Nat → Int32) (c_seconds : Nat → Int32) (c_sideAt : Nat → Int32) (c_won : Nat → Int32) (x1 : Int32) (q : (Nat → Int32) × (Nat → Int32) × (Nat → Int32)) (hf : fX9_layTable N c_firsts c_goes c_holds c_many c_placeOf c_seconds c_sideAt c_won x1 = some q) : Met l yX9_layTable (wS yX9_layTable cX9_layTable 5 none) rmX9_layTable (va_Pc [.ref (a9 0), .int x1] (PP D cyI cyJ cyB cyS [(a9 0, .inr (9, fl9 a9 i9 g9)), ((a9 9), .inl (cyI, 60, .inl c_firsts)), ((a9 11), .inl (cyI, 60, .inl c_goes)), ((a9 5), .inl (cyI, 32, .inl c_holds)), ((a9 12), .inl (cyI, 2, .inl c_many)), ((a9 16), .inl (cyI, 6, .inl c_placeOf)), ((a9 10), .inl (cyI, 60, .inl c_seconds)), ((a9 15), .inl (cyI, 6, .inl c_sideAt)), ((a9 14), .inl (cyI, 6, .inl c_won))] sz)) (QV D [(a9 0, .inr (9, fl9 a9 i9 g9)), ((a9 9), .inl (cyI, 60, .inl c_firsts)), ((a9 11), .inl (cyI, 60, .inl c_goes)), ((a9 5), .inl (cyI, 32, .inl c_holds)), ((a9 12), .inl (cyI, 2, .inl c_many)), ((a9 16), .inl (cyI, 6, .inl q.1)), ((a9 10), .inl (cyI, 60, .inl c_seconds)), ((a9 15), .inl (cyI, 6, .inl q.2.1)), ((a9 14), .inl (cyI, 6, .inl q.2.2))] (va_A [(a9 0, .inr (9, fl9 a9 i9 g9)), ((a9 9), .inl (cyI, 60, .inl c_firsts)), ((a9 11), .inl (cyI, 60, .inl c_goes)), ((a9 5), .inl (cyI, 32, .inl c_holds)), ((a9 12), .inl (cyI, 2, .inl c_many)), ((a9 16), .inl (cyI, 6, .inl c_placeOf)), ((a9 10), .inl (cyI, 60, .inl c_seconds)), ((a9 15), .inl (cyI, 6, .inl c_sideAt)), ((a9 14), .inl (cyI, 6, .inl c_won))] sz)) 0 0 (va_A [(a9 0, .inr (9, fl9 a9 i9 g9)), ((a9 9), .inl (cyI, 60, .inl c_firsts)), ((a9 11), .inl (cyI, 60, .inl c_goes)), ((a9 5), .inl (cyI, 32, .inl c_holds)), ((a9 12), .inl (cyI, 2, .inl c_many)), ((a9 16), .inl (cyI, 6, .inl c_placeOf)), ((a9 10), .inl (cyI, 60, .inl c_seconds)), ((a9 15), .inl (cyI, 6, .inl c_sideAt)), ((a9 14), .inl (cyI, 6, .inl c_won))] sz) := by
  refine Met.ofW (cc := cX9_layTable) (maxL := 5) (ret := none) (by decide) rfl ?_
  intro p e s m args below meth c s₁ B hml hv
  obtain ⟨rfl, hsz, hP, hK, hD0⟩ := hv
  have hx := B.exec
  have hb := B.bytes
  have hr := B.returns
  have hts := atoms_spec (ws := (wS yX9_layTable cX9_layTable 5 none)) B.pre
  have hown : s.vm.findClass RX9 = some m.cls := findClass_of_methodNamed B.named
  have hlocks := B.notSynchronized
  subst hsz
  have hD := hD0.self (sz := s.heap.size)
  refine w_nameQ (fun Q hQ => ?_)
  have hl := lv_entry ([.ref (a9 0), .int x1] : List Value) (n := 5) (Nat.le_of_ble_eq_true rfl)
  rw [lg_entry_eq]
  generalize (lg_sl ([.ref (a9 0), .int x1] : List Value) ++ List.replicate (5 - (lg_sl ([.ref (a9 0), .int x1] : List Value)).length) Slot.unset).toArray = ls at hl ⊢
  have hl : lv_has ls 5 [(0, .ref (a9 0)), (1, .int x1)] := hl
  generalize hAe : va_A [(a9 0, .inr (9, fl9 a9 i9 g9)), ((a9 9), .inl (cyI, 60, .inl c_firsts)), ((a9 11), .inl (cyI, 60, .inl c_goes)), ((a9 5), .inl (cyI, 32, .inl c_holds)), ((a9 12), .inl (cyI, 2, .inl c_many)), ((a9 16), .inl (cyI, 6, .inl c_placeOf)), ((a9 10), .inl (cyI, 60, .inl c_seconds)), ((a9 15), .inl (cyI, 6, .inl c_sideAt)), ((a9 14), .inl (cyI, 6, .inl c_won))] s.heap.size = A at hD hQ
  have hA : ∀ q : Nat, s.heap.size ≤ q → A q := fun q h => by rw [← hAe]; exact Or.inr h
  have hS : va_S A s.heap s.heap [] := va_S.rf
  generalize ([.ref (a9 0), .int x1] : List Value).toArray = av at hts hQ ⊢
  have hL : ∀ w ∈ wsL_law, w.before av s = true := fun w h => hts w (List.mem_cons_of_mem _ h)
  have w0 := hL (.fieldLink RX9 55 "LosingLeagueModel" "placeOf" "[I") (hR6 19 rfl)
  have w1 := hL (.fieldLink RX9 52 "LosingLeagueModel" "sideAt" "[I") (hR6 18 rfl)
  have w2 := hL (.fieldLink RX9 49 "LosingLeagueModel" "won" "[I") (hR6 17 rfl)
  have w3 := hL (.fieldLink RX9 43 "LosingLeagueModel" "many" "[I") (hR6 15 rfl)
  have w4 := hL (.static yX9_from) (hR23 22 rfl)
  have hB60 : ∀ (k23 : Int32 → (Nat → Int32) → (Nat → Int32) → (Nat → Int32) → Option ((Nat → Int32) × (Nat → Int32) × (Nat → Int32))) (hk23 : ∀ (x2 : Int32) (c_placeOf : Nat → Int32) (c_sideAt : Nat → Int32) (c_won : Nat → Int32) (H : Heap) (locs : List Loc) (ls : Array Slot), k23 x2 c_placeOf c_sideAt c_won = some q → va_P D vwCl [(a9 0, .inr (9, fl9 a9 i9 g9)), ((a9 9), .inl (cyI, 60, .inl c_firsts)), ((a9 11), .inl (cyI, 60, .inl c_goes)), ((a9 5), .inl (cyI, 32, .inl c_holds)), ((a9 12), .inl (cyI, 2, .inl c_many)), ((a9 16), .inl (cyI, 6, .inl c_placeOf)), ((a9 10), .inl (cyI, 60, .inl c_seconds)), ((a9 15), .inl (cyI, 6, .inl c_sideAt)), ((a9 14), .inl (cyI, 6, .inl c_won))] H → va_D A [(a9 0, .inr (9, fl9 a9 i9 g9)), ((a9 9), .inl (cyI, 60, .inl c_firsts)), ((a9 11), .inl (cyI, 60, .inl c_goes)), ((a9 5), .inl (cyI, 32, .inl c_holds)), ((a9 12), .inl (cyI, 2, .inl c_many)), ((a9 16), .inl (cyI, 6, .inl c_placeOf)), ((a9 10), .inl (cyI, 60, .inl c_seconds)), ((a9 15), .inl (cyI, 6, .inl c_sideAt)), ((a9 14), .inl (cyI, 6, .inl c_won))] → va_S A s.heap H locs → lv_has ls 5 [(0, .ref (a9 0)), (1, .int x1), (2, .int x2)] → W p l e rmX9_layTable s m av below meth c H locs 0 0 Q (F0 m 23 ls [])), ∀ (x2 : Int32) (c_placeOf : Nat → Int32) (c_sideAt : Nat → Int32) (c_won : Nat → Int32) (H : Heap) (locs : List Loc) (ls : Array Slot), fX9_layTable_60 N c_firsts c_goes c_holds c_many c_seconds x1 k23 x2 c_placeOf c_sideAt c_won = some q → va_P D vwCl [(a9 0, .inr (9, fl9 a9 i9 g9)), ((a9 9), .inl (cyI, 60, .inl c_firsts)), ((a9 11), .inl (cyI, 60, .inl c_goes)), ((a9 5), .inl (cyI, 32, .inl c_holds)), ((a9 12), .inl (cyI, 2, .inl c_many)), ((a9 16), .inl (cyI, 6, .inl c_placeOf)), ((a9 10), .inl (cyI, 60, .inl c_seconds)), ((a9 15), .inl (cyI, 6, .inl c_sideAt)), ((a9 14), .inl (cyI, 6, .inl c_won))] H → va_D A [(a9 0, .inr (9, fl9 a9 i9 g9)), ((a9 9), .inl (cyI, 60, .inl c_firsts)), ((a9 11), .inl (cyI, 60, .inl c_goes)), ((a9 5), .inl (cyI, 32, .inl c_holds)), ((a9 12), .inl (cyI, 2, .inl c_many)), ((a9 16), .inl (cyI, 6, .inl c_placeOf)), ((a9 10), .inl (cyI, 60, .inl c_seconds)), ((a9 15), .inl (cyI, 6, .inl c_sideAt)), ((a9 14), .inl (cyI, 6, .inl c_won))] → va_S A s.heap H locs → lv_has ls 5 [(0, .ref (a9 0)), (1, .int x1), (2, .int x2)] → W p l e rmX9_layTable s m av below meth c H locs 0 0 Q (F0 m 60 ls []) := by
    intro k23 hk23 x2 c_placeOf c_sideAt c_won H locs ls hf hP hD hS hl
    unfold fX9_layTable_60 at hf
    refine lv_iinc (v := x2 + 1) (lv' := [(2, .int (x2 + 1)), (0, .ref (a9 0)), (1, .int x1)]) hx hb dX9_layTable_60 hl (k := 2) rfl rfl (by decide) rfl (fun ls hl => ?_)
    refine lv_goto (tgt := 23) hx hb dX9_layTable_63 (by decide) ?_
    exact hk23 (x2 + 1) c_placeOf c_sideAt c_won H locs ls hf hP hD hS (lv_sub hl [1, 2, 0] rfl)
  have hB134 : ∀ (k68 : Int32 → (Nat → Int32) → (Nat → Int32) → (Nat → Int32) → Option ((Nat → Int32) × (Nat → Int32) × (Nat → Int32))) (hk68 : ∀ (x2 : Int32) (c_placeOf : Nat → Int32) (c_sideAt : Nat → Int32) (c_won : Nat → Int32) (H : Heap) (locs : List Loc) (ls : Array Slot), k68 x2 c_placeOf c_sideAt c_won = some q → va_P D vwCl [(a9 0, .inr (9, fl9 a9 i9 g9)), ((a9 9), .inl (cyI, 60, .inl c_firsts)), ((a9 11), .inl (cyI, 60, .inl c_goes)), ((a9 5), .inl (cyI, 32, .inl c_holds)), ((a9 12), .inl (cyI, 2, .inl c_many)), ((a9 16), .inl (cyI, 6, .inl c_placeOf)), ((a9 10), .inl (cyI, 60, .inl c_seconds)), ((a9 15), .inl (cyI, 6, .inl c_sideAt)), ((a9 14), .inl (cyI, 6, .inl c_won))] H → va_D A [(a9 0, .inr (9, fl9 a9 i9 g9)), ((a9 9), .inl (cyI, 60, .inl c_firsts)), ((a9 11), .inl (cyI, 60, .inl c_goes)), ((a9 5), .inl (cyI, 32, .inl c_holds)), ((a9 12), .inl (cyI, 2, .inl c_many)), ((a9 16), .inl (cyI, 6, .inl c_placeOf)), ((a9 10), .inl (cyI, 60, .inl c_seconds)), ((a9 15), .inl (cyI, 6, .inl c_sideAt)), ((a9 14), .inl (cyI, 6, .inl c_won))] → va_S A s.heap H locs → lv_has ls 5 [(0, .ref (a9 0)), (2, .int x2)] → W p l e rmX9_layTable s m av below meth c H locs 0 0 Q (F0 m 68 ls [])) (k81 : Int32 → Int32 → Int32 → (Nat → Int32) → (Nat → Int32) → (Nat → Int32) → Option ((Nat → Int32) × (Nat → Int32) × (Nat → Int32))) (hk81 : ∀ (x2 : Int32) (x3 : Int32) (x4 : Int32) (c_placeOf : Nat → Int32) (c_sideAt : Nat → Int32) (c_won : Nat → Int32) (H : Heap) (locs : List Loc) (ls : Array Slot), k81 x2 x3 x4 c_placeOf c_sideAt c_won = some q → va_P D vwCl [(a9 0, .inr (9, fl9 a9 i9 g9)), ((a9 9), .inl (cyI, 60, .inl c_firsts)), ((a9 11), .inl (cyI, 60, .inl c_goes)), ((a9 5), .inl (cyI, 32, .inl c_holds)), ((a9 12), .inl (cyI, 2, .inl c_many)), ((a9 16), .inl (cyI, 6, .inl c_placeOf)), ((a9 10), .inl (cyI, 60, .inl c_seconds)), ((a9 15), .inl (cyI, 6, .inl c_sideAt)), ((a9 14), .inl (cyI, 6, .inl c_won))] H → va_D A [(a9 0, .inr (9, fl9 a9 i9 g9)), ((a9 9), .inl (cyI, 60, .inl c_firsts)), ((a9 11), .inl (cyI, 60, .inl c_goes)), ((a9 5), .inl (cyI, 32, .inl c_holds)), ((a9 12), .inl (cyI, 2, .inl c_many)), ((a9 16), .inl (cyI, 6, .inl c_placeOf)), ((a9 10), .inl (cyI, 60, .inl c_seconds)), ((a9 15), .inl (cyI, 6, .inl c_sideAt)), ((a9 14), .inl (cyI, 6, .inl c_won))] → va_S A s.heap H locs → lv_has ls 5 [(0, .ref (a9 0)), (2, .int x2), (3, .int x3), (4, .int x4)] → W p l e rmX9_layTable s m av below meth c H locs 0 0 Q (F0 m 81 ls [])), ∀ (x2 : Int32) (x4 : Int32) (s0 : Int32) (s1 : Int32) (c_placeOf : Nat → Int32) (c_sideAt : Nat → Int32) (c_won : Nat → Int32) (H : Heap) (locs : List Loc) (ls : Array Slot), fX9_layTable_134 N c_firsts c_goes c_holds c_many c_seconds x1 k68 k81 x2 x4 s0 s1 c_placeOf c_sideAt c_won = some q → va_P D vwCl [(a9 0, .inr (9, fl9 a9 i9 g9)), ((a9 9), .inl (cyI, 60, .inl c_firsts)), ((a9 11), .inl (cyI, 60, .inl c_goes)), ((a9 5), .inl (cyI, 32, .inl c_holds)), ((a9 12), .inl (cyI, 2, .inl c_many)), ((a9 16), .inl (cyI, 6, .inl c_placeOf)), ((a9 10), .inl (cyI, 60, .inl c_seconds)), ((a9 15), .inl (cyI, 6, .inl c_sideAt)), ((a9 14), .inl (cyI, 6, .inl c_won))] H → va_D A [(a9 0, .inr (9, fl9 a9 i9 g9)), ((a9 9), .inl (cyI, 60, .inl c_firsts)), ((a9 11), .inl (cyI, 60, .inl c_goes)), ((a9 5), .inl (cyI, 32, .inl c_holds)), ((a9 12), .inl (cyI, 2, .inl c_many)), ((a9 16), .inl (cyI, 6, .inl c_placeOf)), ((a9 10), .inl (cyI, 60, .inl c_seconds)), ((a9 15), .inl (cyI, 6, .inl c_sideAt)), ((a9 14), .inl (cyI, 6, .inl c_won))] → va_S A s.heap H locs → lv_has ls 5 [(0, .ref (a9 0)), (2, .int x2), (4, .int x4)] → W p l e rmX9_layTable s m av below meth c H locs 0 0 Q (F0 m 134 ls [.int s1, .int s0]) := by
    intro k68 hk68 k81 hk81 x2 x4 s0 s1 c_placeOf c_sideAt c_won H locs ls hf hP hD hS hl
    unfold fX9_layTable_134 at hf
    refine lv_iadd hx hb dX9_layTable_134 ?_
    refine lv_istore_n (lv' := [(3, .int (s0 + s1)), (0, .ref (a9 0)), (2, .int x2), (4, .int x4)]) hx hb dX9_layTable_135 rfl hl (by decide) rfl (fun ls hl => ?_)
    refine lv_iinc (v := x4 + 1) (lv' := [(4, .int (x4 + 1)), (3, .int (s0 + s1)), (0, .ref (a9 0)), (2, .int x2)]) hx hb dX9_layTable_136 hl (k := 3) rfl rfl (by decide) rfl (fun ls hl => ?_)
    refine lv_goto (tgt := 81) hx hb dX9_layTable_139 (by decide) ?_
    exact hk81 x2 (s0 + s1) (x4 + 1) c_placeOf c_sideAt c_won H locs ls hf hP hD hS (lv_sub hl [2, 3, 1, 0] rfl)
  have hB129 : ∀ (k68 : Int32 → (Nat → Int32) → (Nat → Int32) → (Nat → Int32) → Option ((Nat → Int32) × (Nat → Int32) × (Nat → Int32))) (hk68 : ∀ (x2 : Int32) (c_placeOf : Nat → Int32) (c_sideAt : Nat → Int32) (c_won : Nat → Int32) (H : Heap) (locs : List Loc) (ls : Array Slot), k68 x2 c_placeOf c_sideAt c_won = some q → va_P D vwCl [(a9 0, .inr (9, fl9 a9 i9 g9)), ((a9 9), .inl (cyI, 60, .inl c_firsts)), ((a9 11), .inl (cyI, 60, .inl c_goes)), ((a9 5), .inl (cyI, 32, .inl c_holds)), ((a9 12), .inl (cyI, 2, .inl c_many)), ((a9 16), .inl (cyI, 6, .inl c_placeOf)), ((a9 10), .inl (cyI, 60, .inl c_seconds)), ((a9 15), .inl (cyI, 6, .inl c_sideAt)), ((a9 14), .inl (cyI, 6, .inl c_won))] H → va_D A [(a9 0, .inr (9, fl9 a9 i9 g9)), ((a9 9), .inl (cyI, 60, .inl c_firsts)), ((a9 11), .inl (cyI, 60, .inl c_goes)), ((a9 5), .inl (cyI, 32, .inl c_holds)), ((a9 12), .inl (cyI, 2, .inl c_many)), ((a9 16), .inl (cyI, 6, .inl c_placeOf)), ((a9 10), .inl (cyI, 60, .inl c_seconds)), ((a9 15), .inl (cyI, 6, .inl c_sideAt)), ((a9 14), .inl (cyI, 6, .inl c_won))] → va_S A s.heap H locs → lv_has ls 5 [(0, .ref (a9 0)), (2, .int x2)] → W p l e rmX9_layTable s m av below meth c H locs 0 0 Q (F0 m 68 ls [])) (k81 : Int32 → Int32 → Int32 → (Nat → Int32) → (Nat → Int32) → (Nat → Int32) → Option ((Nat → Int32) × (Nat → Int32) × (Nat → Int32))) (hk81 : ∀ (x2 : Int32) (x3 : Int32) (x4 : Int32) (c_placeOf : Nat → Int32) (c_sideAt : Nat → Int32) (c_won : Nat → Int32) (H : Heap) (locs : List Loc) (ls : Array Slot), k81 x2 x3 x4 c_placeOf c_sideAt c_won = some q → va_P D vwCl [(a9 0, .inr (9, fl9 a9 i9 g9)), ((a9 9), .inl (cyI, 60, .inl c_firsts)), ((a9 11), .inl (cyI, 60, .inl c_goes)), ((a9 5), .inl (cyI, 32, .inl c_holds)), ((a9 12), .inl (cyI, 2, .inl c_many)), ((a9 16), .inl (cyI, 6, .inl c_placeOf)), ((a9 10), .inl (cyI, 60, .inl c_seconds)), ((a9 15), .inl (cyI, 6, .inl c_sideAt)), ((a9 14), .inl (cyI, 6, .inl c_won))] H → va_D A [(a9 0, .inr (9, fl9 a9 i9 g9)), ((a9 9), .inl (cyI, 60, .inl c_firsts)), ((a9 11), .inl (cyI, 60, .inl c_goes)), ((a9 5), .inl (cyI, 32, .inl c_holds)), ((a9 12), .inl (cyI, 2, .inl c_many)), ((a9 16), .inl (cyI, 6, .inl c_placeOf)), ((a9 10), .inl (cyI, 60, .inl c_seconds)), ((a9 15), .inl (cyI, 6, .inl c_sideAt)), ((a9 14), .inl (cyI, 6, .inl c_won))] → va_S A s.heap H locs → lv_has ls 5 [(0, .ref (a9 0)), (2, .int x2), (3, .int x3), (4, .int x4)] → W p l e rmX9_layTable s m av below meth c H locs 0 0 Q (F0 m 81 ls [])), ∀ (x2 : Int32) (x4 : Int32) (s0 : Int32) (c_placeOf : Nat → Int32) (c_sideAt : Nat → Int32) (c_won : Nat → Int32) (H : Heap) (locs : List Loc) (ls : Array Slot), fX9_layTable_129 N c_firsts c_goes c_holds c_many c_seconds x1 k68 k81 x2 x4 s0 c_placeOf c_sideAt c_won = some q → va_P D vwCl [(a9 0, .inr (9, fl9 a9 i9 g9)), ((a9 9), .inl (cyI, 60, .inl c_firsts)), ((a9 11), .inl (cyI, 60, .inl c_goes)), ((a9 5), .inl (cyI, 32, .inl c_holds)), ((a9 12), .inl (cyI, 2, .inl c_many)), ((a9 16), .inl (cyI, 6, .inl c_placeOf)), ((a9 10), .inl (cyI, 60, .inl c_seconds)), ((a9 15), .inl (cyI, 6, .inl c_sideAt)), ((a9 14), .inl (cyI, 6, .inl c_won))] H → va_D A [(a9 0, .inr (9, fl9 a9 i9 g9)), ((a9 9), .inl (cyI, 60, .inl c_firsts)), ((a9 11), .inl (cyI, 60, .inl c_goes)), ((a9 5), .inl (cyI, 32, .inl c_holds)), ((a9 12), .inl (cyI, 2, .inl c_many)), ((a9 16), .inl (cyI, 6, .inl c_placeOf)), ((a9 10), .inl (cyI, 60, .inl c_seconds)), ((a9 15), .inl (cyI, 6, .inl c_sideAt)), ((a9 14), .inl (cyI, 6, .inl c_won))] → va_S A s.heap H locs → lv_has ls 5 [(0, .ref (a9 0)), (2, .int x2), (4, .int x4)] → W p l e rmX9_layTable s m av below meth c H locs 0 0 Q (F0 m 129 ls [.int s0]) := by
    intro k68 hk68 k81 hk81 x2 x4 s0 c_placeOf c_sideAt c_won H locs ls hf hP hD hS hl
    unfold fX9_layTable_129 at hf
    refine lv_iconst (v := 1) hx hb dX9_layTable_129 (by decide) ?_
    refine lv_goto (tgt := 134) hx hb dX9_layTable_130 (by decide) ?_
    exact hB134 k68 hk68 k81 hk81 x2 x4 s0 1 c_placeOf c_sideAt c_won H locs ls hf hP hD hS (lv_sub hl [0, 1, 2] rfl)
  have hB133 : ∀ (k68 : Int32 → (Nat → Int32) → (Nat → Int32) → (Nat → Int32) → Option ((Nat → Int32) × (Nat → Int32) × (Nat → Int32))) (hk68 : ∀ (x2 : Int32) (c_placeOf : Nat → Int32) (c_sideAt : Nat → Int32) (c_won : Nat → Int32) (H : Heap) (locs : List Loc) (ls : Array Slot), k68 x2 c_placeOf c_sideAt c_won = some q → va_P D vwCl [(a9 0, .inr (9, fl9 a9 i9 g9)), ((a9 9), .inl (cyI, 60, .inl c_firsts)), ((a9 11), .inl (cyI, 60, .inl c_goes)), ((a9 5), .inl (cyI, 32, .inl c_holds)), ((a9 12), .inl (cyI, 2, .inl c_many)), ((a9 16), .inl (cyI, 6, .inl c_placeOf)), ((a9 10), .inl (cyI, 60, .inl c_seconds)), ((a9 15), .inl (cyI, 6, .inl c_sideAt)), ((a9 14), .inl (cyI, 6, .inl c_won))] H → va_D A [(a9 0, .inr (9, fl9 a9 i9 g9)), ((a9 9), .inl (cyI, 60, .inl c_firsts)), ((a9 11), .inl (cyI, 60, .inl c_goes)), ((a9 5), .inl (cyI, 32, .inl c_holds)), ((a9 12), .inl (cyI, 2, .inl c_many)), ((a9 16), .inl (cyI, 6, .inl c_placeOf)), ((a9 10), .inl (cyI, 60, .inl c_seconds)), ((a9 15), .inl (cyI, 6, .inl c_sideAt)), ((a9 14), .inl (cyI, 6, .inl c_won))] → va_S A s.heap H locs → lv_has ls 5 [(0, .ref (a9 0)), (2, .int x2)] → W p l e rmX9_layTable s m av below meth c H locs 0 0 Q (F0 m 68 ls [])) (k81 : Int32 → Int32 → Int32 → (Nat → Int32) → (Nat → Int32) → (Nat → Int32) → Option ((Nat → Int32) × (Nat → Int32) × (Nat → Int32))) (hk81 : ∀ (x2 : Int32) (x3 : Int32) (x4 : Int32) (c_placeOf : Nat → Int32) (c_sideAt : Nat → Int32) (c_won : Nat → Int32) (H : Heap) (locs : List Loc) (ls : Array Slot), k81 x2 x3 x4 c_placeOf c_sideAt c_won = some q → va_P D vwCl [(a9 0, .inr (9, fl9 a9 i9 g9)), ((a9 9), .inl (cyI, 60, .inl c_firsts)), ((a9 11), .inl (cyI, 60, .inl c_goes)), ((a9 5), .inl (cyI, 32, .inl c_holds)), ((a9 12), .inl (cyI, 2, .inl c_many)), ((a9 16), .inl (cyI, 6, .inl c_placeOf)), ((a9 10), .inl (cyI, 60, .inl c_seconds)), ((a9 15), .inl (cyI, 6, .inl c_sideAt)), ((a9 14), .inl (cyI, 6, .inl c_won))] H → va_D A [(a9 0, .inr (9, fl9 a9 i9 g9)), ((a9 9), .inl (cyI, 60, .inl c_firsts)), ((a9 11), .inl (cyI, 60, .inl c_goes)), ((a9 5), .inl (cyI, 32, .inl c_holds)), ((a9 12), .inl (cyI, 2, .inl c_many)), ((a9 16), .inl (cyI, 6, .inl c_placeOf)), ((a9 10), .inl (cyI, 60, .inl c_seconds)), ((a9 15), .inl (cyI, 6, .inl c_sideAt)), ((a9 14), .inl (cyI, 6, .inl c_won))] → va_S A s.heap H locs → lv_has ls 5 [(0, .ref (a9 0)), (2, .int x2), (3, .int x3), (4, .int x4)] → W p l e rmX9_layTable s m av below meth c H locs 0 0 Q (F0 m 81 ls [])), ∀ (x2 : Int32) (x4 : Int32) (s0 : Int32) (c_placeOf : Nat → Int32) (c_sideAt : Nat → Int32) (c_won : Nat → Int32) (H : Heap) (locs : List Loc) (ls : Array Slot), fX9_layTable_133 N c_firsts c_goes c_holds c_many c_seconds x1 k68 k81 x2 x4 s0 c_placeOf c_sideAt c_won = some q → va_P D vwCl [(a9 0, .inr (9, fl9 a9 i9 g9)), ((a9 9), .inl (cyI, 60, .inl c_firsts)), ((a9 11), .inl (cyI, 60, .inl c_goes)), ((a9 5), .inl (cyI, 32, .inl c_holds)), ((a9 12), .inl (cyI, 2, .inl c_many)), ((a9 16), .inl (cyI, 6, .inl c_placeOf)), ((a9 10), .inl (cyI, 60, .inl c_seconds)), ((a9 15), .inl (cyI, 6, .inl c_sideAt)), ((a9 14), .inl (cyI, 6, .inl c_won))] H → va_D A [(a9 0, .inr (9, fl9 a9 i9 g9)), ((a9 9), .inl (cyI, 60, .inl c_firsts)), ((a9 11), .inl (cyI, 60, .inl c_goes)), ((a9 5), .inl (cyI, 32, .inl c_holds)), ((a9 12), .inl (cyI, 2, .inl c_many)), ((a9 16), .inl (cyI, 6, .inl c_placeOf)), ((a9 10), .inl (cyI, 60, .inl c_seconds)), ((a9 15), .inl (cyI, 6, .inl c_sideAt)), ((a9 14), .inl (cyI, 6, .inl c_won))] → va_S A s.heap H locs → lv_has ls 5 [(0, .ref (a9 0)), (2, .int x2), (4, .int x4)] → W p l e rmX9_layTable s m av below meth c H locs 0 0 Q (F0 m 133 ls [.int s0]) := by
    intro k68 hk68 k81 hk81 x2 x4 s0 c_placeOf c_sideAt c_won H locs ls hf hP hD hS hl
    unfold fX9_layTable_133 at hf
    refine lv_iconst (v := 0) hx hb dX9_layTable_133 (by decide) ?_
    exact hB134 k68 hk68 k81 hk81 x2 x4 s0 0 c_placeOf c_sideAt c_won H locs ls hf hP hD hS (lv_sub hl [0, 1, 2] rfl)
  have hB81 : ∀ (k68 : Int32 → (Nat → Int32) → (Nat → Int32) → (Nat → Int32) → Option ((Nat → Int32) × (Nat → Int32) × (Nat → Int32))) (hk68 : ∀ (x2 : Int32) (c_placeOf : Nat → Int32) (c_sideAt : Nat → Int32) (c_won : Nat → Int32) (H : Heap) (locs : List Loc) (ls : Array Slot), k68 x2 c_placeOf c_sideAt c_won = some q → va_P D vwCl [(a9 0, .inr (9, fl9 a9 i9 g9)), ((a9 9), .inl (cyI, 60, .inl c_firsts)), ((a9 11), .inl (cyI, 60, .inl c_goes)), ((a9 5), .inl (cyI, 32, .inl c_holds)), ((a9 12), .inl (cyI, 2, .inl c_many)), ((a9 16), .inl (cyI, 6, .inl c_placeOf)), ((a9 10), .inl (cyI, 60, .inl c_seconds)), ((a9 15), .inl (cyI, 6, .inl c_sideAt)), ((a9 14), .inl (cyI, 6, .inl c_won))] H → va_D A [(a9 0, .inr (9, fl9 a9 i9 g9)), ((a9 9), .inl (cyI, 60, .inl c_firsts)), ((a9 11), .inl (cyI, 60, .inl c_goes)), ((a9 5), .inl (cyI, 32, .inl c_holds)), ((a9 12), .inl (cyI, 2, .inl c_many)), ((a9 16), .inl (cyI, 6, .inl c_placeOf)), ((a9 10), .inl (cyI, 60, .inl c_seconds)), ((a9 15), .inl (cyI, 6, .inl c_sideAt)), ((a9 14), .inl (cyI, 6, .inl c_won))] → va_S A s.heap H locs → lv_has ls 5 [(0, .ref (a9 0)), (2, .int x2)] → W p l e rmX9_layTable s m av below meth c H locs 0 0 Q (F0 m 68 ls [])) (n : Nat), ∀ (x2 : Int32) (x3 : Int32) (x4 : Int32) (c_placeOf : Nat → Int32) (c_sideAt : Nat → Int32) (c_won : Nat → Int32) (H : Heap) (locs : List Loc) (ls : Array Slot), fX9_layTable_81 N c_firsts c_goes c_holds c_many c_seconds x1 k68 n x2 x3 x4 c_placeOf c_sideAt c_won = some q → va_P D vwCl [(a9 0, .inr (9, fl9 a9 i9 g9)), ((a9 9), .inl (cyI, 60, .inl c_firsts)), ((a9 11), .inl (cyI, 60, .inl c_goes)), ((a9 5), .inl (cyI, 32, .inl c_holds)), ((a9 12), .inl (cyI, 2, .inl c_many)), ((a9 16), .inl (cyI, 6, .inl c_placeOf)), ((a9 10), .inl (cyI, 60, .inl c_seconds)), ((a9 15), .inl (cyI, 6, .inl c_sideAt)), ((a9 14), .inl (cyI, 6, .inl c_won))] H → va_D A [(a9 0, .inr (9, fl9 a9 i9 g9)), ((a9 9), .inl (cyI, 60, .inl c_firsts)), ((a9 11), .inl (cyI, 60, .inl c_goes)), ((a9 5), .inl (cyI, 32, .inl c_holds)), ((a9 12), .inl (cyI, 2, .inl c_many)), ((a9 16), .inl (cyI, 6, .inl c_placeOf)), ((a9 10), .inl (cyI, 60, .inl c_seconds)), ((a9 15), .inl (cyI, 6, .inl c_sideAt)), ((a9 14), .inl (cyI, 6, .inl c_won))] → va_S A s.heap H locs → lv_has ls 5 [(0, .ref (a9 0)), (2, .int x2), (3, .int x3), (4, .int x4)] → W p l e rmX9_layTable s m av below meth c H locs 0 0 Q (F0 m 81 ls []) := by
    intro k68 hk68 n
    induction n with
    | zero => intro x2 x3 x4 c_placeOf c_sideAt c_won H locs ls hf; exact absurd hf (by simp [fX9_layTable_81])
    | succ n hk81 =>
      intro x2 x3 x4 c_placeOf c_sideAt c_won H locs ls hf hP hD hS hl
      rw [fX9_layTable_81] at hf
      refine lv_iload hx hb dX9_layTable_81 (lv_at hl 3 rfl) ?_
      refine lv_aload_n hx hb dX9_layTable_83 rfl (lv_at hl 0 rfl) ?_
      obtain ⟨q84, e84, hf⟩ := pb_some hf
      refine cc_i (wc := [(a9 0, .inr (9, fl9 a9 i9 g9)), ((a9 5), .inl (cyI, 32, .inl c_holds))]) (wr := [((a9 9), .inl (cyI, 60, .inl c_firsts)), ((a9 11), .inl (cyI, 60, .inl c_goes)), ((a9 12), .inl (cyI, 2, .inl c_many)), ((a9 16), .inl (cyI, 6, .inl c_placeOf)), ((a9 10), .inl (cyI, 60, .inl c_seconds)), ((a9 15), .inl (cyI, 6, .inl c_sideAt)), ((a9 14), .inl (cyI, 6, .inl c_won))]) (w1 := [(a9 0, .inr (9, fl9 a9 i9 g9)), ((a9 5), .inl (cyI, 32, .inl c_holds))]) (wn := [(a9 0, .inr (9, fl9 a9 i9 g9)), ((a9 9), .inl (cyI, 60, .inl c_firsts)), ((a9 11), .inl (cyI, 60, .inl c_goes)), ((a9 5), .inl (cyI, 32, .inl c_holds)), ((a9 12), .inl (cyI, 2, .inl c_many)), ((a9 16), .inl (cyI, 6, .inl c_placeOf)), ((a9 10), .inl (cyI, 60, .inl c_seconds)), ((a9 15), .inl (cyI, 6, .inl c_sideAt)), ((a9 14), .inl (cyI, 6, .inl c_won))]) hP hD hS hA [0, 3] [1, 2, 4, 5, 6, 7, 8] [7, 0, 1, 8, 2, 3, 4, 5, 6] rfl rfl rfl (by decide) rfl rfl (va_runV (C := RX9) (As := []) (rest := [.int x4]) ⟨hx, hb, hml, hown, hL⟩ (mX9_sides l D cyI cyJ cyB cyS N H.size a9 i9 g9 c_holds  q84 e84) (cwV 0 hL (gV (hR19 15 rfl) (hR19 16 rfl) (hR19 17 rfl) (hR1 5 rfl) (hR19 18 rfl)) rfl rfl rfl (by decide +kernel) ⟨Nat.le_of_ble_eq_true rfl, Nat.le_of_ble_eq_true rfl⟩) (PP_preV (ci := 9) (q0 := 0) hP hD hK [0, 3] rfl rfl rfl rfl) rfl rfl hl.1 rfl (lv_room (Nat.le_of_ble_eq_true rfl)) dX9_layTable_84 ⟨Nat.le_of_ble_eq_true rfl, Nat.le_of_ble_eq_true rfl⟩) (fun H locs hP hD hS => ?_)
      refine lv_icmp_ge (tgt := 142) hx hb dX9_layTable_87 (by decide) (fun c87 => ?_) (fun c87 => ?_)
      · have hf := pif_t c87 hf
        refine lv_aload_n hx hb dX9_layTable_142 rfl (lv_at hl 0 rfl) ?_
        refine va_get (D := D) (ci := 9) (v := .ref (a9 16)) (C := RX9) (T := TX9) (N := 52) hx hb hL inlX9 hown hK.1 hP 0 rfl rfl 28 (by decide) w0 (fun _ h9 => h9) rfl dX9_layTable_143 ?_
        refine lv_iload_n hx hb dX9_layTable_146 rfl (lv_at hl 1 rfl) ?_
        refine lv_iload_n hx hb dX9_layTable_147 rfl (lv_at hl 2 rfl) ?_
        obtain ⟨h148, hf⟩ := pg_some hf
        refine va_iast hx hb hK.1 hP hD hS 5 0 rfl rfl h148 dX9_layTable_148 (fun H locs hP hD hS => ?_)
        have hP : va_P D vwCl [(a9 0, .inr (9, fl9 a9 i9 g9)), ((a9 9), .inl (cyI, 60, .inl c_firsts)), ((a9 11), .inl (cyI, 60, .inl c_goes)), ((a9 5), .inl (cyI, 32, .inl c_holds)), ((a9 12), .inl (cyI, 2, .inl c_many)), ((a9 16), .inl (cyI, 6, .inl (upd c_placeOf x2.toNatClampNeg x3))), ((a9 10), .inl (cyI, 60, .inl c_seconds)), ((a9 15), .inl (cyI, 6, .inl c_sideAt)), ((a9 14), .inl (cyI, 6, .inl c_won))] H := hP
        have hD : va_D A [(a9 0, .inr (9, fl9 a9 i9 g9)), ((a9 9), .inl (cyI, 60, .inl c_firsts)), ((a9 11), .inl (cyI, 60, .inl c_goes)), ((a9 5), .inl (cyI, 32, .inl c_holds)), ((a9 12), .inl (cyI, 2, .inl c_many)), ((a9 16), .inl (cyI, 6, .inl (upd c_placeOf x2.toNatClampNeg x3))), ((a9 10), .inl (cyI, 60, .inl c_seconds)), ((a9 15), .inl (cyI, 6, .inl c_sideAt)), ((a9 14), .inl (cyI, 6, .inl c_won))] := hD
        refine lv_aload_n hx hb dX9_layTable_149 rfl (lv_at hl 0 rfl) ?_
        refine va_get (D := D) (ci := 9) (v := .ref (a9 15)) (C := RX9) (T := TX9) (N := 52) hx hb hL inlX9 hown hK.1 hP 0 rfl rfl 27 (by decide) w1 (fun _ h9 => h9) rfl dX9_layTable_150 ?_
        refine lv_iload_n hx hb dX9_layTable_153 rfl (lv_at hl 2 rfl) ?_
        refine lv_iload_n hx hb dX9_layTable_154 rfl (lv_at hl 1 rfl) ?_
        obtain ⟨h155, hf⟩ := pg_some hf
        refine va_iast hx hb hK.1 hP hD hS 7 0 rfl rfl h155 dX9_layTable_155 (fun H locs hP hD hS => ?_)
        have hP : va_P D vwCl [(a9 0, .inr (9, fl9 a9 i9 g9)), ((a9 9), .inl (cyI, 60, .inl c_firsts)), ((a9 11), .inl (cyI, 60, .inl c_goes)), ((a9 5), .inl (cyI, 32, .inl c_holds)), ((a9 12), .inl (cyI, 2, .inl c_many)), ((a9 16), .inl (cyI, 6, .inl (upd c_placeOf x2.toNatClampNeg x3))), ((a9 10), .inl (cyI, 60, .inl c_seconds)), ((a9 15), .inl (cyI, 6, .inl (upd c_sideAt x3.toNatClampNeg x2))), ((a9 14), .inl (cyI, 6, .inl c_won))] H := hP
        have hD : va_D A [(a9 0, .inr (9, fl9 a9 i9 g9)), ((a9 9), .inl (cyI, 60, .inl c_firsts)), ((a9 11), .inl (cyI, 60, .inl c_goes)), ((a9 5), .inl (cyI, 32, .inl c_holds)), ((a9 12), .inl (cyI, 2, .inl c_many)), ((a9 16), .inl (cyI, 6, .inl (upd c_placeOf x2.toNatClampNeg x3))), ((a9 10), .inl (cyI, 60, .inl c_seconds)), ((a9 15), .inl (cyI, 6, .inl (upd c_sideAt x3.toNatClampNeg x2))), ((a9 14), .inl (cyI, 6, .inl c_won))] := hD
        refine lv_iinc (v := x2 + 1) (lv' := [(2, .int (x2 + 1)), (0, .ref (a9 0)), (3, .int x3), (4, .int x4)]) hx hb dX9_layTable_156 hl (k := 1) rfl rfl (by decide) rfl (fun ls hl => ?_)
        refine lv_goto (tgt := 68) hx hb dX9_layTable_159 (by decide) ?_
        exact hk68 (x2 + 1) (upd c_placeOf x2.toNatClampNeg x3) (upd c_sideAt x3.toNatClampNeg x2) c_won H locs ls hf hP hD hS (lv_sub hl [1, 0] rfl)
      · have hf := pif_f c87 hf
        refine lv_iload_n hx hb dX9_layTable_90 rfl (lv_at hl 2 rfl) ?_
        refine lv_aload_n hx hb dX9_layTable_91 rfl (lv_at hl 0 rfl) ?_
        refine va_get (D := D) (ci := 9) (v := .ref (a9 14)) (C := RX9) (T := TX9) (N := 52) hx hb hL inlX9 hown hK.1 hP 0 rfl rfl 26 (by decide) w2 (fun _ h9 => h9) rfl dX9_layTable_92 ?_
        refine lv_iload hx hb dX9_layTable_95 (lv_at hl 3 rfl) ?_
        obtain ⟨h97, hf⟩ := pg_some hf
        refine va_iald hx hb hK.1 hP 8 0 rfl rfl h97 dX9_layTable_97 ?_
        refine lv_aload_n hx hb dX9_layTable_98 rfl (lv_at hl 0 rfl) ?_
        refine va_get (D := D) (ci := 9) (v := .ref (a9 14)) (C := RX9) (T := TX9) (N := 52) hx hb hL inlX9 hown hK.1 hP 0 rfl rfl 26 (by decide) w2 (fun _ h9 => h9) rfl dX9_layTable_99 ?_
        refine lv_iload_n hx hb dX9_layTable_102 rfl (lv_at hl 1 rfl) ?_
        obtain ⟨h103, hf⟩ := pg_some hf
        refine va_iald hx hb hK.1 hP 8 0 rfl rfl h103 dX9_layTable_103 ?_
        refine lv_icmp_gt (tgt := 129) hx hb dX9_layTable_104 (by decide) (fun c104 => ?_) (fun c104 => ?_)
        · have hf := pif_t c104 hf
          exact hB129 k68 hk68 (fX9_layTable_81 N c_firsts c_goes c_holds c_many c_seconds x1 k68 n) hk81 x2 x4 x3 c_placeOf c_sideAt c_won H locs ls hf hP hD hS (lv_sub hl [0, 1, 3] rfl)
        · have hf := pif_f c104 hf
          refine lv_aload_n hx hb dX9_layTable_107 rfl (lv_at hl 0 rfl) ?_
          refine va_get (D := D) (ci := 9) (v := .ref (a9 14)) (C := RX9) (T := TX9) (N := 52) hx hb hL inlX9 hown hK.1 hP 0 rfl rfl 26 (by decide) w2 (fun _ h9 => h9) rfl dX9_layTable_108 ?_
          refine lv_iload hx hb dX9_layTable_111 (lv_at hl 3 rfl) ?_
          obtain ⟨h113, hf⟩ := pg_some hf
          refine va_iald hx hb hK.1 hP 8 0 rfl rfl h113 dX9_layTable_113 ?_
          refine lv_aload_n hx hb dX9_layTable_114 rfl (lv_at hl 0 rfl) ?_
          refine va_get (D := D) (ci := 9) (v := .ref (a9 14)) (C := RX9) (T := TX9) (N := 52) hx hb hL inlX9 hown hK.1 hP 0 rfl rfl 26 (by decide) w2 (fun _ h9 => h9) rfl dX9_layTable_115 ?_
          refine lv_iload_n hx hb dX9_layTable_118 rfl (lv_at hl 1 rfl) ?_
          obtain ⟨h119, hf⟩ := pg_some hf
          refine va_iald hx hb hK.1 hP 8 0 rfl rfl h119 dX9_layTable_119 ?_
          refine lv_icmp_ne (tgt := 133) hx hb dX9_layTable_120 (by decide) (fun c120 => ?_) (fun c120 => ?_)
          · have hf := pif_f c120 hf
            exact hB133 k68 hk68 (fX9_layTable_81 N c_firsts c_goes c_holds c_many c_seconds x1 k68 n) hk81 x2 x4 x3 c_placeOf c_sideAt c_won H locs ls hf hP hD hS (lv_sub hl [0, 1, 3] rfl)
          · have hf := pif_t c120 hf
            refine lv_iload hx hb dX9_layTable_123 (lv_at hl 3 rfl) ?_
            refine lv_iload_n hx hb dX9_layTable_125 rfl (lv_at hl 1 rfl) ?_
            refine lv_icmp_ge (tgt := 133) hx hb dX9_layTable_126 (by decide) (fun c126 => ?_) (fun c126 => ?_)
            · have hf := pif_t c126 hf
              exact hB133 k68 hk68 (fX9_layTable_81 N c_firsts c_goes c_holds c_many c_seconds x1 k68 n) hk81 x2 x4 x3 c_placeOf c_sideAt c_won H locs ls hf hP hD hS (lv_sub hl [0, 1, 3] rfl)
            · have hf := pif_f c126 hf
              exact hB129 k68 hk68 (fX9_layTable_81 N c_firsts c_goes c_holds c_many c_seconds x1 k68 n) hk81 x2 x4 x3 c_placeOf c_sideAt c_won H locs ls hf hP hD hS (lv_sub hl [0, 1, 3] rfl)
  have hB68 : ∀ (n : Nat), ∀ (x2 : Int32) (c_placeOf : Nat → Int32) (c_sideAt : Nat → Int32) (c_won : Nat → Int32) (H : Heap) (locs : List Loc) (ls : Array Slot), fX9_layTable_68 N c_firsts c_goes c_holds c_many c_seconds x1 n x2 c_placeOf c_sideAt c_won = some q → va_P D vwCl [(a9 0, .inr (9, fl9 a9 i9 g9)), ((a9 9), .inl (cyI, 60, .inl c_firsts)), ((a9 11), .inl (cyI, 60, .inl c_goes)), ((a9 5), .inl (cyI, 32, .inl c_holds)), ((a9 12), .inl (cyI, 2, .inl c_many)), ((a9 16), .inl (cyI, 6, .inl c_placeOf)), ((a9 10), .inl (cyI, 60, .inl c_seconds)), ((a9 15), .inl (cyI, 6, .inl c_sideAt)), ((a9 14), .inl (cyI, 6, .inl c_won))] H → va_D A [(a9 0, .inr (9, fl9 a9 i9 g9)), ((a9 9), .inl (cyI, 60, .inl c_firsts)), ((a9 11), .inl (cyI, 60, .inl c_goes)), ((a9 5), .inl (cyI, 32, .inl c_holds)), ((a9 12), .inl (cyI, 2, .inl c_many)), ((a9 16), .inl (cyI, 6, .inl c_placeOf)), ((a9 10), .inl (cyI, 60, .inl c_seconds)), ((a9 15), .inl (cyI, 6, .inl c_sideAt)), ((a9 14), .inl (cyI, 6, .inl c_won))] → va_S A s.heap H locs → lv_has ls 5 [(0, .ref (a9 0)), (2, .int x2)] → W p l e rmX9_layTable s m av below meth c H locs 0 0 Q (F0 m 68 ls []) := by
    intro n
    induction n with
    | zero => intro x2 c_placeOf c_sideAt c_won H locs ls hf; exact absurd hf (by simp [fX9_layTable_68])
    | succ n hk68 =>
      intro x2 c_placeOf c_sideAt c_won H locs ls hf hP hD hS hl
      rw [fX9_layTable_68] at hf
      refine lv_iload_n hx hb dX9_layTable_68 rfl (lv_at hl 1 rfl) ?_
      refine lv_aload_n hx hb dX9_layTable_69 rfl (lv_at hl 0 rfl) ?_
      obtain ⟨q70, e70, hf⟩ := pb_some hf
      refine cc_i (wc := [(a9 0, .inr (9, fl9 a9 i9 g9)), ((a9 5), .inl (cyI, 32, .inl c_holds))]) (wr := [((a9 9), .inl (cyI, 60, .inl c_firsts)), ((a9 11), .inl (cyI, 60, .inl c_goes)), ((a9 12), .inl (cyI, 2, .inl c_many)), ((a9 16), .inl (cyI, 6, .inl c_placeOf)), ((a9 10), .inl (cyI, 60, .inl c_seconds)), ((a9 15), .inl (cyI, 6, .inl c_sideAt)), ((a9 14), .inl (cyI, 6, .inl c_won))]) (w1 := [(a9 0, .inr (9, fl9 a9 i9 g9)), ((a9 5), .inl (cyI, 32, .inl c_holds))]) (wn := [(a9 0, .inr (9, fl9 a9 i9 g9)), ((a9 9), .inl (cyI, 60, .inl c_firsts)), ((a9 11), .inl (cyI, 60, .inl c_goes)), ((a9 5), .inl (cyI, 32, .inl c_holds)), ((a9 12), .inl (cyI, 2, .inl c_many)), ((a9 16), .inl (cyI, 6, .inl c_placeOf)), ((a9 10), .inl (cyI, 60, .inl c_seconds)), ((a9 15), .inl (cyI, 6, .inl c_sideAt)), ((a9 14), .inl (cyI, 6, .inl c_won))]) hP hD hS hA [0, 3] [1, 2, 4, 5, 6, 7, 8] [7, 0, 1, 8, 2, 3, 4, 5, 6] rfl rfl rfl (by decide) rfl rfl (va_runV (C := RX9) (As := []) (rest := [.int x2]) ⟨hx, hb, hml, hown, hL⟩ (mX9_sides l D cyI cyJ cyB cyS N H.size a9 i9 g9 c_holds  q70 e70) (cwV 0 hL (gV (hR19 15 rfl) (hR19 16 rfl) (hR19 17 rfl) (hR1 5 rfl) (hR19 18 rfl)) rfl rfl rfl (by decide +kernel) ⟨Nat.le_of_ble_eq_true rfl, Nat.le_of_ble_eq_true rfl⟩) (PP_preV (ci := 9) (q0 := 0) hP hD hK [0, 3] rfl rfl rfl rfl) rfl rfl hl.1 rfl (lv_room (Nat.le_of_ble_eq_true rfl)) dX9_layTable_70 ⟨Nat.le_of_ble_eq_true rfl, Nat.le_of_ble_eq_true rfl⟩) (fun H locs hP hD hS => ?_)
      refine lv_icmp_ge (tgt := 162) hx hb dX9_layTable_73 (by decide) (fun c73 => ?_) (fun c73 => ?_)
      · have hf := pif_t c73 hf
        exact ret_v (q := q) (wp := fun q => [(a9 0, .inr (9, fl9 a9 i9 g9)), ((a9 9), .inl (cyI, 60, .inl c_firsts)), ((a9 11), .inl (cyI, 60, .inl c_goes)), ((a9 5), .inl (cyI, 32, .inl c_holds)), ((a9 12), .inl (cyI, 2, .inl c_many)), ((a9 16), .inl (cyI, 6, .inl q.1)), ((a9 10), .inl (cyI, 60, .inl c_seconds)), ((a9 15), .inl (cyI, 6, .inl q.2.1)), ((a9 14), .inl (cyI, 6, .inl q.2.2))]) hQ hf hx hb hr hlocks hP hD hS dX9_layTable_162
      · have hf := pif_f c73 hf
        refine lv_iconst (v := 0) hx hb dX9_layTable_76 (by decide) ?_
        refine lv_istore_n (lv' := [(3, .int 0), (0, .ref (a9 0)), (2, .int x2)]) hx hb dX9_layTable_77 rfl hl (by decide) rfl (fun ls hl => ?_)
        refine lv_iconst (v := 0) hx hb dX9_layTable_78 (by decide) ?_
        refine lv_istore (lv' := [(4, .int 0), (3, .int 0), (0, .ref (a9 0)), (2, .int x2)]) hx hb dX9_layTable_79 hl (by decide) rfl (fun ls hl => ?_)
        exact hB81 (fX9_layTable_68 N c_firsts c_goes c_holds c_many c_seconds x1 n) hk68 N x2 0 0 c_placeOf c_sideAt c_won H locs ls hf hP hD hS (lv_sub hl [2, 3, 1, 0] rfl)
  have hB23 : ∀ (n : Nat), ∀ (x2 : Int32) (c_placeOf : Nat → Int32) (c_sideAt : Nat → Int32) (c_won : Nat → Int32) (H : Heap) (locs : List Loc) (ls : Array Slot), fX9_layTable_23 N c_firsts c_goes c_holds c_many c_seconds x1 n x2 c_placeOf c_sideAt c_won = some q → va_P D vwCl [(a9 0, .inr (9, fl9 a9 i9 g9)), ((a9 9), .inl (cyI, 60, .inl c_firsts)), ((a9 11), .inl (cyI, 60, .inl c_goes)), ((a9 5), .inl (cyI, 32, .inl c_holds)), ((a9 12), .inl (cyI, 2, .inl c_many)), ((a9 16), .inl (cyI, 6, .inl c_placeOf)), ((a9 10), .inl (cyI, 60, .inl c_seconds)), ((a9 15), .inl (cyI, 6, .inl c_sideAt)), ((a9 14), .inl (cyI, 6, .inl c_won))] H → va_D A [(a9 0, .inr (9, fl9 a9 i9 g9)), ((a9 9), .inl (cyI, 60, .inl c_firsts)), ((a9 11), .inl (cyI, 60, .inl c_goes)), ((a9 5), .inl (cyI, 32, .inl c_holds)), ((a9 12), .inl (cyI, 2, .inl c_many)), ((a9 16), .inl (cyI, 6, .inl c_placeOf)), ((a9 10), .inl (cyI, 60, .inl c_seconds)), ((a9 15), .inl (cyI, 6, .inl c_sideAt)), ((a9 14), .inl (cyI, 6, .inl c_won))] → va_S A s.heap H locs → lv_has ls 5 [(0, .ref (a9 0)), (1, .int x1), (2, .int x2)] → W p l e rmX9_layTable s m av below meth c H locs 0 0 Q (F0 m 23 ls []) := by
    intro n
    induction n with
    | zero => intro x2 c_placeOf c_sideAt c_won H locs ls hf; exact absurd hf (by simp [fX9_layTable_23])
    | succ n hk23 =>
      intro x2 c_placeOf c_sideAt c_won H locs ls hf hP hD hS hl
      rw [fX9_layTable_23] at hf
      refine lv_iload_n hx hb dX9_layTable_23 rfl (lv_at hl 2 rfl) ?_
      refine lv_aload_n hx hb dX9_layTable_24 rfl (lv_at hl 0 rfl) ?_
      refine va_get (D := D) (ci := 9) (v := .ref (a9 12)) (C := RX9) (T := TX9) (N := 52) hx hb hL inlX9 hown hK.1 hP 0 rfl rfl 22 (by decide) w3 (fun _ h9 => h9) rfl dX9_layTable_25 ?_
      refine lv_iload_n hx hb dX9_layTable_28 rfl (lv_at hl 1 rfl) ?_
      obtain ⟨h29, hf⟩ := pg_some hf
      refine va_iald hx hb hK.1 hP 4 0 rfl rfl h29 dX9_layTable_29 ?_
      refine lv_icmp_ge (tgt := 66) hx hb dX9_layTable_30 (by decide) (fun c30 => ?_) (fun c30 => ?_)
      · have hf := pif_t c30 hf
        refine lv_iconst (v := 0) hx hb dX9_layTable_66 (by decide) ?_
        refine lv_istore_n (lv' := [(2, .int 0), (0, .ref (a9 0)), (1, .int x1)]) hx hb dX9_layTable_67 rfl hl (by decide) rfl (fun ls hl => ?_)
        exact hB68 N 0 c_placeOf c_sideAt c_won H locs ls hf hP hD hS (lv_sub hl [1, 0] rfl)
      · have hf := pif_f c30 hf
        refine lv_aload_n hx hb dX9_layTable_33 rfl (lv_at hl 0 rfl) ?_
        refine lv_iload_n hx hb dX9_layTable_34 rfl (lv_at hl 1 rfl) ?_
        obtain ⟨q35, e35, hf⟩ := pb_some hf
        refine cc_i (wc := []) (wr := [(a9 0, .inr (9, fl9 a9 i9 g9)), ((a9 9), .inl (cyI, 60, .inl c_firsts)), ((a9 11), .inl (cyI, 60, .inl c_goes)), ((a9 5), .inl (cyI, 32, .inl c_holds)), ((a9 12), .inl (cyI, 2, .inl c_many)), ((a9 16), .inl (cyI, 6, .inl c_placeOf)), ((a9 10), .inl (cyI, 60, .inl c_seconds)), ((a9 15), .inl (cyI, 6, .inl c_sideAt)), ((a9 14), .inl (cyI, 6, .inl c_won))]) (w1 := []) (wn := [(a9 0, .inr (9, fl9 a9 i9 g9)), ((a9 9), .inl (cyI, 60, .inl c_firsts)), ((a9 11), .inl (cyI, 60, .inl c_goes)), ((a9 5), .inl (cyI, 32, .inl c_holds)), ((a9 12), .inl (cyI, 2, .inl c_many)), ((a9 16), .inl (cyI, 6, .inl c_placeOf)), ((a9 10), .inl (cyI, 60, .inl c_seconds)), ((a9 15), .inl (cyI, 6, .inl c_sideAt)), ((a9 14), .inl (cyI, 6, .inl c_won))]) hP hD hS hA [] [0, 1, 2, 3, 4, 5, 6, 7, 8] [0, 1, 2, 3, 4, 5, 6, 7, 8] rfl rfl rfl (by decide) rfl rfl (va_runS (As := [.int x1]) (rest := [.ref (a9 0)]) ⟨hx, hb, hml, hown, hL⟩ (mX9_from l D cyI cyJ cyB cyS N H.size   x1 q35 e35) (va_cwS 1 hL (gS (hR23 21 rfl) (hR23 22 rfl) (hR1 5 rfl) (hR23 23 rfl)) rfl rfl rfl (by decide +kernel) ⟨Nat.le_of_ble_eq_true rfl, Nat.le_of_ble_eq_true rfl⟩) (PP_preS hP hD hK [] rfl rfl) rfl rfl hl.1 rfl (lv_room (Nat.le_of_ble_eq_true rfl)) dX9_layTable_35 ⟨Nat.le_of_ble_eq_true rfl, Nat.le_of_ble_eq_true rfl⟩) (fun H locs hP hD hS => ?_)
        refine lv_iload_n hx hb dX9_layTable_38 rfl (lv_at hl 2 rfl) ?_
        refine lv_iadd hx hb dX9_layTable_39 ?_
        obtain ⟨q40, e40, hf⟩ := pb_some hf
        refine cc_i (wc := [(a9 0, .inr (9, fl9 a9 i9 g9)), ((a9 9), .inl (cyI, 60, .inl c_firsts)), ((a9 11), .inl (cyI, 60, .inl c_goes)), ((a9 10), .inl (cyI, 60, .inl c_seconds))]) (wr := [((a9 5), .inl (cyI, 32, .inl c_holds)), ((a9 12), .inl (cyI, 2, .inl c_many)), ((a9 16), .inl (cyI, 6, .inl c_placeOf)), ((a9 15), .inl (cyI, 6, .inl c_sideAt)), ((a9 14), .inl (cyI, 6, .inl c_won))]) (w1 := [(a9 0, .inr (9, fl9 a9 i9 g9)), ((a9 9), .inl (cyI, 60, .inl c_firsts)), ((a9 11), .inl (cyI, 60, .inl c_goes)), ((a9 10), .inl (cyI, 60, .inl c_seconds))]) (wn := [(a9 0, .inr (9, fl9 a9 i9 g9)), ((a9 9), .inl (cyI, 60, .inl c_firsts)), ((a9 11), .inl (cyI, 60, .inl c_goes)), ((a9 5), .inl (cyI, 32, .inl c_holds)), ((a9 12), .inl (cyI, 2, .inl c_many)), ((a9 16), .inl (cyI, 6, .inl c_placeOf)), ((a9 10), .inl (cyI, 60, .inl c_seconds)), ((a9 15), .inl (cyI, 6, .inl c_sideAt)), ((a9 14), .inl (cyI, 6, .inl c_won))]) hP hD hS hA [0, 1, 2, 6] [3, 4, 5, 7, 8] [5, 6, 7, 0, 1, 2, 8, 3, 4] rfl rfl rfl (by decide) rfl rfl (va_runV (C := RX9) (As := [.int (q35 + x2)]) (rest := []) ⟨hx, hb, hml, hown, hL⟩ (mX9_winner l D cyI cyJ cyB cyS N H.size a9 i9 g9 c_firsts c_goes c_seconds (q35 + x2) q40 e40) (cwV 1 hL (gV (hR24 0 rfl) (hR24 1 rfl) (hR24 2 rfl) (hR1 5 rfl) (hR24 3 rfl)) rfl rfl rfl (by decide +kernel) ⟨Nat.le_of_ble_eq_true rfl, Nat.le_of_ble_eq_true rfl⟩) (PP_preV (ci := 9) (q0 := 0) hP hD hK [0, 1, 2, 6] rfl rfl rfl rfl) rfl rfl hl.1 rfl (lv_room (Nat.le_of_ble_eq_true rfl)) dX9_layTable_40 ⟨Nat.le_of_ble_eq_true rfl, Nat.le_of_ble_eq_true rfl⟩) (fun H locs hP hD hS => ?_)
        refine lv_istore_n (lv' := [(3, .int q40), (0, .ref (a9 0)), (1, .int x1), (2, .int x2)]) hx hb dX9_layTable_43 rfl hl (by decide) rfl (fun ls hl => ?_)
        refine lv_iload_n hx hb dX9_layTable_44 rfl (lv_at hl 0 rfl) ?_
        refine lv_bipush (v := (-4)) hx hb dX9_layTable_45 (by decide) ?_
        refine lv_icmp_eq (tgt := 60) hx hb dX9_layTable_47 (by decide) (fun c47 => ?_) (fun c47 => ?_)
        · have hf := pif_t c47 hf
          exact hB60 (fX9_layTable_23 N c_firsts c_goes c_holds c_many c_seconds x1 n) hk23 x2 c_placeOf c_sideAt c_won H locs ls hf hP hD hS (lv_sub hl [1, 2, 3] rfl)
        · have hf := pif_f c47 hf
          refine lv_aload_n hx hb dX9_layTable_50 rfl (lv_at hl 1 rfl) ?_
          refine va_get (D := D) (ci := 9) (v := .ref (a9 14)) (C := RX9) (T := TX9) (N := 52) hx hb hL inlX9 hown hK.1 hP 0 rfl rfl 26 (by decide) w2 (fun _ h9 => h9) rfl dX9_layTable_51 ?_
          refine lv_iload_n hx hb dX9_layTable_54 rfl (lv_at hl 0 rfl) ?_
          refine lv_dup2_11 hx hb dX9_layTable_55 rfl rfl ?_
          obtain ⟨h56, hf⟩ := pg_some hf
          refine va_iald hx hb hK.1 hP 8 0 rfl rfl h56 dX9_layTable_56 ?_
          refine lv_iconst (v := 1) hx hb dX9_layTable_57 (by decide) ?_
          refine lv_iadd hx hb dX9_layTable_58 ?_
          obtain ⟨h59, hf⟩ := pg_some hf
          refine va_iast hx hb hK.1 hP hD hS 8 0 rfl rfl h59 dX9_layTable_59 (fun H locs hP hD hS => ?_)
          have hP : va_P D vwCl [(a9 0, .inr (9, fl9 a9 i9 g9)), ((a9 9), .inl (cyI, 60, .inl c_firsts)), ((a9 11), .inl (cyI, 60, .inl c_goes)), ((a9 5), .inl (cyI, 32, .inl c_holds)), ((a9 12), .inl (cyI, 2, .inl c_many)), ((a9 16), .inl (cyI, 6, .inl c_placeOf)), ((a9 10), .inl (cyI, 60, .inl c_seconds)), ((a9 15), .inl (cyI, 6, .inl c_sideAt)), ((a9 14), .inl (cyI, 6, .inl (upd c_won q40.toNatClampNeg ((c_won q40.toNatClampNeg) + 1))))] H := hP
          have hD : va_D A [(a9 0, .inr (9, fl9 a9 i9 g9)), ((a9 9), .inl (cyI, 60, .inl c_firsts)), ((a9 11), .inl (cyI, 60, .inl c_goes)), ((a9 5), .inl (cyI, 32, .inl c_holds)), ((a9 12), .inl (cyI, 2, .inl c_many)), ((a9 16), .inl (cyI, 6, .inl c_placeOf)), ((a9 10), .inl (cyI, 60, .inl c_seconds)), ((a9 15), .inl (cyI, 6, .inl c_sideAt)), ((a9 14), .inl (cyI, 6, .inl (upd c_won q40.toNatClampNeg ((c_won q40.toNatClampNeg) + 1))))] := hD
          exact hB60 (fX9_layTable_23 N c_firsts c_goes c_holds c_many c_seconds x1 n) hk23 x2 c_placeOf c_sideAt (upd c_won q40.toNatClampNeg ((c_won q40.toNatClampNeg) + 1)) H locs ls hf hP hD hS (lv_sub hl [1, 2, 3] rfl)
  have hB2 : ∀ (n : Nat), ∀ (x2 : Int32) (c_placeOf : Nat → Int32) (c_sideAt : Nat → Int32) (c_won : Nat → Int32) (H : Heap) (locs : List Loc) (ls : Array Slot), fX9_layTable_2 N c_firsts c_goes c_holds c_many c_seconds x1 n x2 c_placeOf c_sideAt c_won = some q → va_P D vwCl [(a9 0, .inr (9, fl9 a9 i9 g9)), ((a9 9), .inl (cyI, 60, .inl c_firsts)), ((a9 11), .inl (cyI, 60, .inl c_goes)), ((a9 5), .inl (cyI, 32, .inl c_holds)), ((a9 12), .inl (cyI, 2, .inl c_many)), ((a9 16), .inl (cyI, 6, .inl c_placeOf)), ((a9 10), .inl (cyI, 60, .inl c_seconds)), ((a9 15), .inl (cyI, 6, .inl c_sideAt)), ((a9 14), .inl (cyI, 6, .inl c_won))] H → va_D A [(a9 0, .inr (9, fl9 a9 i9 g9)), ((a9 9), .inl (cyI, 60, .inl c_firsts)), ((a9 11), .inl (cyI, 60, .inl c_goes)), ((a9 5), .inl (cyI, 32, .inl c_holds)), ((a9 12), .inl (cyI, 2, .inl c_many)), ((a9 16), .inl (cyI, 6, .inl c_placeOf)), ((a9 10), .inl (cyI, 60, .inl c_seconds)), ((a9 15), .inl (cyI, 6, .inl c_sideAt)), ((a9 14), .inl (cyI, 6, .inl c_won))] → va_S A s.heap H locs → lv_has ls 5 [(0, .ref (a9 0)), (1, .int x1), (2, .int x2)] → W p l e rmX9_layTable s m av below meth c H locs 0 0 Q (F0 m 2 ls []) := by
    intro n
    induction n with
    | zero => intro x2 c_placeOf c_sideAt c_won H locs ls hf; exact absurd hf (by simp [fX9_layTable_2])
    | succ n hk2 =>
      intro x2 c_placeOf c_sideAt c_won H locs ls hf hP hD hS hl
      rw [fX9_layTable_2] at hf
      refine lv_iload_n hx hb dX9_layTable_2 rfl (lv_at hl 2 rfl) ?_
      refine lv_bipush (v := 6) hx hb dX9_layTable_3 (by decide) ?_
      refine lv_icmp_ge (tgt := 21) hx hb dX9_layTable_5 (by decide) (fun c5 => ?_) (fun c5 => ?_)
      · have hf := pif_t c5 hf
        refine lv_iconst (v := 0) hx hb dX9_layTable_21 (by decide) ?_
        refine lv_istore_n (lv' := [(2, .int 0), (0, .ref (a9 0)), (1, .int x1)]) hx hb dX9_layTable_22 rfl hl (by decide) rfl (fun ls hl => ?_)
        exact hB23 N 0 c_placeOf c_sideAt c_won H locs ls hf hP hD hS (lv_sub hl [1, 2, 0] rfl)
      · have hf := pif_f c5 hf
        refine lv_aload_n hx hb dX9_layTable_8 rfl (lv_at hl 0 rfl) ?_
        refine va_get (D := D) (ci := 9) (v := .ref (a9 14)) (C := RX9) (T := TX9) (N := 52) hx hb hL inlX9 hown hK.1 hP 0 rfl rfl 26 (by decide) w2 (fun _ h9 => h9) rfl dX9_layTable_9 ?_
        refine lv_iload_n hx hb dX9_layTable_12 rfl (lv_at hl 2 rfl) ?_
        refine lv_iconst (v := 0) hx hb dX9_layTable_13 (by decide) ?_
        obtain ⟨h14, hf⟩ := pg_some hf
        refine va_iast hx hb hK.1 hP hD hS 8 0 rfl rfl h14 dX9_layTable_14 (fun H locs hP hD hS => ?_)
        have hP : va_P D vwCl [(a9 0, .inr (9, fl9 a9 i9 g9)), ((a9 9), .inl (cyI, 60, .inl c_firsts)), ((a9 11), .inl (cyI, 60, .inl c_goes)), ((a9 5), .inl (cyI, 32, .inl c_holds)), ((a9 12), .inl (cyI, 2, .inl c_many)), ((a9 16), .inl (cyI, 6, .inl c_placeOf)), ((a9 10), .inl (cyI, 60, .inl c_seconds)), ((a9 15), .inl (cyI, 6, .inl c_sideAt)), ((a9 14), .inl (cyI, 6, .inl (upd c_won x2.toNatClampNeg 0)))] H := hP
        have hD : va_D A [(a9 0, .inr (9, fl9 a9 i9 g9)), ((a9 9), .inl (cyI, 60, .inl c_firsts)), ((a9 11), .inl (cyI, 60, .inl c_goes)), ((a9 5), .inl (cyI, 32, .inl c_holds)), ((a9 12), .inl (cyI, 2, .inl c_many)), ((a9 16), .inl (cyI, 6, .inl c_placeOf)), ((a9 10), .inl (cyI, 60, .inl c_seconds)), ((a9 15), .inl (cyI, 6, .inl c_sideAt)), ((a9 14), .inl (cyI, 6, .inl (upd c_won x2.toNatClampNeg 0)))] := hD
        refine lv_iinc (v := x2 + 1) (lv' := [(2, .int (x2 + 1)), (0, .ref (a9 0)), (1, .int x1)]) hx hb dX9_layTable_15 hl (k := 2) rfl rfl (by decide) rfl (fun ls hl => ?_)
        refine lv_goto (tgt := 2) hx hb dX9_layTable_18 (by decide) ?_
        exact hk2 (x2 + 1) c_placeOf c_sideAt (upd c_won x2.toNatClampNeg 0) H locs ls hf hP hD hS (lv_sub hl [1, 2, 0] rfl)
  unfold fX9_layTable at hf
  obtain ⟨H, hH⟩ : ∃ H : Heap, H = s.heap := ⟨_, rfl⟩
  obtain ⟨locs, hlo⟩ : ∃ locs : List Loc, locs = [] := ⟨_, rfl⟩
  have hP : va_P D vwCl [(a9 0, .inr (9, fl9 a9 i9 g9)), ((a9 9), .inl (cyI, 60, .inl c_firsts)), ((a9 11), .inl (cyI, 60, .inl c_goes)), ((a9 5), .inl (cyI, 32, .inl c_holds)), ((a9 12), .inl (cyI, 2, .inl c_many)), ((a9 16), .inl (cyI, 6, .inl c_placeOf)), ((a9 10), .inl (cyI, 60, .inl c_seconds)), ((a9 15), .inl (cyI, 6, .inl c_sideAt)), ((a9 14), .inl (cyI, 6, .inl c_won))] H := by rw [hH]; exact hP
  have hS : va_S A s.heap H locs := by rw [hH, hlo]; exact hS
  suffices hw : W p l e rmX9_layTable s m av below meth c H locs 0 0 Q (F0 m 0 ls []) by rw [hH, hlo] at hw; exact hw
  refine lv_iconst (v := 0) hx hb dX9_layTable_0 (by decide) ?_
  refine lv_istore_n (lv' := [(2, .int 0), (0, .ref (a9 0)), (1, .int x1)]) hx hb dX9_layTable_1 rfl hl (by decide) rfl (fun ls hl => ?_)
  exact hB2 N 0 c_placeOf c_sideAt c_won H locs ls hf hP hD hS (lv_sub hl [1, 2, 0] rfl)
abbrev rmX9_openMany : Room := { frames := 0, cells := 0, slots := 0, locals := 0 }
set_option maxHeartbeats 40000000 in
set_option maxRecDepth 100000 in
theorem mX9_openMany (l : Launch) (D : va_G) (cyI cyJ cyB cyS : ClassId) (N : Nat) (sz : Nat) (a9 : Nat → Nat) (i9 : Nat → Int32) (g9 : Nat → Int64) (c_goes : Nat → Int32) (c_many : Nat → Int32) (q : Int32) (hf : fX9_openMany N c_goes c_many = some q) : Met l yX9_openMany (wS yX9_openMany cX9_openMany 3 (some .int)) rmX9_openMany (va_Pc [.ref (a9 0)] (PP D cyI cyJ cyB cyS [(a9 0, .inr (9, fl9 a9 i9 g9)), ((a9 11), .inl (cyI, 60, .inl c_goes)), ((a9 12), .inl (cyI, 2, .inl c_many))] sz)) (QI q D [(a9 0, .inr (9, fl9 a9 i9 g9)), ((a9 11), .inl (cyI, 60, .inl c_goes)), ((a9 12), .inl (cyI, 2, .inl c_many))] (va_A [(a9 0, .inr (9, fl9 a9 i9 g9)), ((a9 11), .inl (cyI, 60, .inl c_goes)), ((a9 12), .inl (cyI, 2, .inl c_many))] sz)) 0 0 (va_A [(a9 0, .inr (9, fl9 a9 i9 g9)), ((a9 11), .inl (cyI, 60, .inl c_goes)), ((a9 12), .inl (cyI, 2, .inl c_many))] sz) := by
  refine Met.ofW (cc := cX9_openMany) (maxL := 3) (ret := (some .int)) (by decide) rfl ?_
  intro p e s m args below meth c s₁ B hml hv
  obtain ⟨rfl, hsz, hP, hK, hD0⟩ := hv
  have hx := B.exec
  have hb := B.bytes
  have hr := B.returns
  have hts := atoms_spec (ws := (wS yX9_openMany cX9_openMany 3 (some .int))) B.pre
  have hown : s.vm.findClass RX9 = some m.cls := findClass_of_methodNamed B.named
  have hlocks := B.notSynchronized
  subst hsz
  have hD := hD0.self (sz := s.heap.size)
  refine w_nameQ (fun Q hQ => ?_)
  have hl := lv_entry ([.ref (a9 0)] : List Value) (n := 3) (Nat.le_of_ble_eq_true rfl)
  rw [lg_entry_eq]
  generalize (lg_sl ([.ref (a9 0)] : List Value) ++ List.replicate (3 - (lg_sl ([.ref (a9 0)] : List Value)).length) Slot.unset).toArray = ls at hl ⊢
  have hl : lv_has ls 3 [(0, .ref (a9 0))] := hl
  generalize hAe : va_A [(a9 0, .inr (9, fl9 a9 i9 g9)), ((a9 11), .inl (cyI, 60, .inl c_goes)), ((a9 12), .inl (cyI, 2, .inl c_many))] s.heap.size = A at hD hQ
  have hA : ∀ q : Nat, s.heap.size ≤ q → A q := fun q h => by rw [← hAe]; exact Or.inr h
  have hS : va_S A s.heap s.heap [] := va_S.rf
  generalize ([.ref (a9 0)] : List Value).toArray = av at hts hQ ⊢
  have hL : ∀ w ∈ wsL_law, w.before av s = true := fun w h => hts w (List.mem_cons_of_mem _ h)
  have w0 := hL (.fieldLink RX9 43 "LosingLeagueModel" "many" "[I") (hR6 15 rfl)
  have w1 := hL (.fieldLink RX9 40 "LosingLeagueModel" "goes" "[I") (hR6 14 rfl)
  have hB30 : ∀ (k4 : Int32 → Int32 → Option (Int32)) (hk4 : ∀ (x1 : Int32) (x2 : Int32) (H : Heap) (locs : List Loc) (ls : Array Slot), k4 x1 x2 = some q → va_P D vwCl [(a9 0, .inr (9, fl9 a9 i9 g9)), ((a9 11), .inl (cyI, 60, .inl c_goes)), ((a9 12), .inl (cyI, 2, .inl c_many))] H → va_D A [(a9 0, .inr (9, fl9 a9 i9 g9)), ((a9 11), .inl (cyI, 60, .inl c_goes)), ((a9 12), .inl (cyI, 2, .inl c_many))] → va_S A s.heap H locs → lv_has ls 3 [(0, .ref (a9 0)), (1, .int x1), (2, .int x2)] → W p l e rmX9_openMany s m av below meth c H locs 0 0 Q (F0 m 4 ls [])), ∀ (x2 : Int32) (s0 : Int32) (s1 : Int32) (H : Heap) (locs : List Loc) (ls : Array Slot), fX9_openMany_30 N c_goes c_many k4 x2 s0 s1 = some q → va_P D vwCl [(a9 0, .inr (9, fl9 a9 i9 g9)), ((a9 11), .inl (cyI, 60, .inl c_goes)), ((a9 12), .inl (cyI, 2, .inl c_many))] H → va_D A [(a9 0, .inr (9, fl9 a9 i9 g9)), ((a9 11), .inl (cyI, 60, .inl c_goes)), ((a9 12), .inl (cyI, 2, .inl c_many))] → va_S A s.heap H locs → lv_has ls 3 [(0, .ref (a9 0)), (2, .int x2)] → W p l e rmX9_openMany s m av below meth c H locs 0 0 Q (F0 m 30 ls [.int s1, .int s0]) := by
    intro k4 hk4 x2 s0 s1 H locs ls hf hP hD hS hl
    unfold fX9_openMany_30 at hf
    refine lv_iadd hx hb dX9_openMany_30 ?_
    refine lv_istore_n (lv' := [(1, .int (s0 + s1)), (0, .ref (a9 0)), (2, .int x2)]) hx hb dX9_openMany_31 rfl hl (by decide) rfl (fun ls hl => ?_)
    refine lv_iinc (v := x2 + 1) (lv' := [(2, .int (x2 + 1)), (1, .int (s0 + s1)), (0, .ref (a9 0))]) hx hb dX9_openMany_32 hl (k := 2) rfl rfl (by decide) rfl (fun ls hl => ?_)
    refine lv_goto (tgt := 4) hx hb dX9_openMany_35 (by decide) ?_
    exact hk4 (s0 + s1) (x2 + 1) H locs ls hf hP hD hS (lv_sub hl [2, 1, 0] rfl)
  have hB4 : ∀ (n : Nat), ∀ (x1 : Int32) (x2 : Int32) (H : Heap) (locs : List Loc) (ls : Array Slot), fX9_openMany_4 N c_goes c_many n x1 x2 = some q → va_P D vwCl [(a9 0, .inr (9, fl9 a9 i9 g9)), ((a9 11), .inl (cyI, 60, .inl c_goes)), ((a9 12), .inl (cyI, 2, .inl c_many))] H → va_D A [(a9 0, .inr (9, fl9 a9 i9 g9)), ((a9 11), .inl (cyI, 60, .inl c_goes)), ((a9 12), .inl (cyI, 2, .inl c_many))] → va_S A s.heap H locs → lv_has ls 3 [(0, .ref (a9 0)), (1, .int x1), (2, .int x2)] → W p l e rmX9_openMany s m av below meth c H locs 0 0 Q (F0 m 4 ls []) := by
    intro n
    induction n with
    | zero => intro x1 x2 H locs ls hf; exact absurd hf (by simp [fX9_openMany_4])
    | succ n hk4 =>
      intro x1 x2 H locs ls hf hP hD hS hl
      rw [fX9_openMany_4] at hf
      refine lv_iload_n hx hb dX9_openMany_4 rfl (lv_at hl 2 rfl) ?_
      refine lv_aload_n hx hb dX9_openMany_5 rfl (lv_at hl 0 rfl) ?_
      refine va_get (D := D) (ci := 9) (v := .ref (a9 12)) (C := RX9) (T := TX9) (N := 52) hx hb hL inlX9 hown hK.1 hP 0 rfl rfl 22 (by decide) w0 (fun _ h9 => h9) rfl dX9_openMany_6 ?_
      refine lv_iconst (v := 0) hx hb dX9_openMany_9 (by decide) ?_
      obtain ⟨h10, hf⟩ := pg_some hf
      refine va_iald hx hb hK.1 hP 2 0 rfl rfl h10 dX9_openMany_10 ?_
      refine lv_icmp_ge (tgt := 38) hx hb dX9_openMany_11 (by decide) (fun c11 => ?_) (fun c11 => ?_)
      · have hf := pif_t c11 hf
        refine lv_iload_n hx hb dX9_openMany_38 rfl (lv_at hl 1 rfl) ?_
        exact ret_i (q := q) (g := fun q => q) (wp := fun q => [(a9 0, .inr (9, fl9 a9 i9 g9)), ((a9 11), .inl (cyI, 60, .inl c_goes)), ((a9 12), .inl (cyI, 2, .inl c_many))]) hQ hf hx hb hr hlocks hP hD hS dX9_openMany_39 rfl
      · have hf := pif_f c11 hf
        refine lv_iload_n hx hb dX9_openMany_14 rfl (lv_at hl 1 rfl) ?_
        refine lv_aload_n hx hb dX9_openMany_15 rfl (lv_at hl 0 rfl) ?_
        refine va_get (D := D) (ci := 9) (v := .ref (a9 11)) (C := RX9) (T := TX9) (N := 52) hx hb hL inlX9 hown hK.1 hP 0 rfl rfl 21 (by decide) w1 (fun _ h9 => h9) rfl dX9_openMany_16 ?_
        refine lv_iload_n hx hb dX9_openMany_19 rfl (lv_at hl 2 rfl) ?_
        obtain ⟨h20, hf⟩ := pg_some hf
        refine va_iald hx hb hK.1 hP 1 0 rfl rfl h20 dX9_openMany_20 ?_
        refine lv_iconst (v := 2) hx hb dX9_openMany_21 (by decide) ?_
        refine lv_icmp_ne (tgt := 29) hx hb dX9_openMany_22 (by decide) (fun c22 => ?_) (fun c22 => ?_)
        · have hf := pif_f c22 hf
          refine lv_iconst (v := 0) hx hb dX9_openMany_29 (by decide) ?_
          exact hB30 (fX9_openMany_4 N c_goes c_many n) hk4 x2 x1 0 H locs ls hf hP hD hS (lv_sub hl [0, 2] rfl)
        · have hf := pif_t c22 hf
          refine lv_iconst (v := 1) hx hb dX9_openMany_25 (by decide) ?_
          refine lv_goto (tgt := 30) hx hb dX9_openMany_26 (by decide) ?_
          exact hB30 (fX9_openMany_4 N c_goes c_many n) hk4 x2 x1 1 H locs ls hf hP hD hS (lv_sub hl [0, 2] rfl)
  unfold fX9_openMany at hf
  obtain ⟨H, hH⟩ : ∃ H : Heap, H = s.heap := ⟨_, rfl⟩
  obtain ⟨locs, hlo⟩ : ∃ locs : List Loc, locs = [] := ⟨_, rfl⟩
  have hP : va_P D vwCl [(a9 0, .inr (9, fl9 a9 i9 g9)), ((a9 11), .inl (cyI, 60, .inl c_goes)), ((a9 12), .inl (cyI, 2, .inl c_many))] H := by rw [hH]; exact hP
  have hS : va_S A s.heap H locs := by rw [hH, hlo]; exact hS
  suffices hw : W p l e rmX9_openMany s m av below meth c H locs 0 0 Q (F0 m 0 ls []) by rw [hH, hlo] at hw; exact hw
  refine lv_iconst (v := 0) hx hb dX9_openMany_0 (by decide) ?_
  refine lv_istore_n (lv' := [(1, .int 0), (0, .ref (a9 0))]) hx hb dX9_openMany_1 rfl hl (by decide) rfl (fun ls hl => ?_)
  refine lv_iconst (v := 0) hx hb dX9_openMany_2 (by decide) ?_
  refine lv_istore_n (lv' := [(2, .int 0), (1, .int 0), (0, .ref (a9 0))]) hx hb dX9_openMany_3 rfl hl (by decide) rfl (fun ls hl => ?_)
  exact hB4 N 0 0 H locs ls hf hP hD hS (lv_sub hl [2, 1, 0] rfl)
abbrev rmX9_table : Room := { frames := 2, cells := 0, slots := 0, locals := 46 }
set_option maxHeartbeats 40000000 in
set_option maxRecDepth 100000 in
theorem mX9_table (l : Launch) (D : va_G) (cyI cyJ cyB cyS : ClassId) (N : Nat) (sz : Nat) (a9 : Nat → Nat) (i9 : Nat → Int32) (g9 : Nat → Int64) (c_firsts : Nat → Int32) (c_goes : Nat → Int32) (c_holds : Nat → Int32) (c_many : Nat → Int32) (c_placeOf : Nat → Int32) (c_seconds : Nat → Int32) (c_sideAt : Nat → Int32) (c_won : Nat → Int32) (x1 : Int32) (x2 : Int32) (q : Int32 × (Nat → Int32) × (Nat → Int32) × (Nat → Int32)) (hf : fX9_table N c_firsts c_goes c_holds c_many c_placeOf c_seconds c_sideAt c_won x1 x2 = some q) : Met l yX9_table (wS yX9_table cX9_table 6 (some .int)) rmX9_table (va_Pc [.ref (a9 0), .int x1, .int x2] (PP D cyI cyJ cyB cyS [(a9 0, .inr (9, fl9 a9 i9 g9)), ((a9 9), .inl (cyI, 60, .inl c_firsts)), ((a9 11), .inl (cyI, 60, .inl c_goes)), ((a9 5), .inl (cyI, 32, .inl c_holds)), ((a9 12), .inl (cyI, 2, .inl c_many)), ((a9 16), .inl (cyI, 6, .inl c_placeOf)), ((a9 10), .inl (cyI, 60, .inl c_seconds)), ((a9 15), .inl (cyI, 6, .inl c_sideAt)), ((a9 14), .inl (cyI, 6, .inl c_won))] sz)) (QI q.1 D [(a9 0, .inr (9, fl9 a9 i9 g9)), ((a9 9), .inl (cyI, 60, .inl c_firsts)), ((a9 11), .inl (cyI, 60, .inl c_goes)), ((a9 5), .inl (cyI, 32, .inl c_holds)), ((a9 12), .inl (cyI, 2, .inl c_many)), ((a9 16), .inl (cyI, 6, .inl q.2.1)), ((a9 10), .inl (cyI, 60, .inl c_seconds)), ((a9 15), .inl (cyI, 6, .inl q.2.2.1)), ((a9 14), .inl (cyI, 6, .inl q.2.2.2))] (va_A [(a9 0, .inr (9, fl9 a9 i9 g9)), ((a9 9), .inl (cyI, 60, .inl c_firsts)), ((a9 11), .inl (cyI, 60, .inl c_goes)), ((a9 5), .inl (cyI, 32, .inl c_holds)), ((a9 12), .inl (cyI, 2, .inl c_many)), ((a9 16), .inl (cyI, 6, .inl c_placeOf)), ((a9 10), .inl (cyI, 60, .inl c_seconds)), ((a9 15), .inl (cyI, 6, .inl c_sideAt)), ((a9 14), .inl (cyI, 6, .inl c_won))] sz)) 0 0 (va_A [(a9 0, .inr (9, fl9 a9 i9 g9)), ((a9 9), .inl (cyI, 60, .inl c_firsts)), ((a9 11), .inl (cyI, 60, .inl c_goes)), ((a9 5), .inl (cyI, 32, .inl c_holds)), ((a9 12), .inl (cyI, 2, .inl c_many)), ((a9 16), .inl (cyI, 6, .inl c_placeOf)), ((a9 10), .inl (cyI, 60, .inl c_seconds)), ((a9 15), .inl (cyI, 6, .inl c_sideAt)), ((a9 14), .inl (cyI, 6, .inl c_won))] sz) := by
  refine Met.ofW (cc := cX9_table) (maxL := 6) (ret := (some .int)) (by decide) rfl ?_
  intro p e s m args below meth c s₁ B hml hv
  obtain ⟨rfl, hsz, hP, hK, hD0⟩ := hv
  have hx := B.exec
  have hb := B.bytes
  have hr := B.returns
  have hts := atoms_spec (ws := (wS yX9_table cX9_table 6 (some .int))) B.pre
  have hown : s.vm.findClass RX9 = some m.cls := findClass_of_methodNamed B.named
  have hlocks := B.notSynchronized
  subst hsz
  have hD := hD0.self (sz := s.heap.size)
  refine w_nameQ (fun Q hQ => ?_)
  have hl := lv_entry ([.ref (a9 0), .int x1, .int x2] : List Value) (n := 6) (Nat.le_of_ble_eq_true rfl)
  rw [lg_entry_eq]
  generalize (lg_sl ([.ref (a9 0), .int x1, .int x2] : List Value) ++ List.replicate (6 - (lg_sl ([.ref (a9 0), .int x1, .int x2] : List Value)).length) Slot.unset).toArray = ls at hl ⊢
  have hl : lv_has ls 6 [(0, .ref (a9 0)), (1, .int x1), (2, .int x2)] := hl
  generalize hAe : va_A [(a9 0, .inr (9, fl9 a9 i9 g9)), ((a9 9), .inl (cyI, 60, .inl c_firsts)), ((a9 11), .inl (cyI, 60, .inl c_goes)), ((a9 5), .inl (cyI, 32, .inl c_holds)), ((a9 12), .inl (cyI, 2, .inl c_many)), ((a9 16), .inl (cyI, 6, .inl c_placeOf)), ((a9 10), .inl (cyI, 60, .inl c_seconds)), ((a9 15), .inl (cyI, 6, .inl c_sideAt)), ((a9 14), .inl (cyI, 6, .inl c_won))] s.heap.size = A at hD hQ
  have hA : ∀ q : Nat, s.heap.size ≤ q → A q := fun q h => by rw [← hAe]; exact Or.inr h
  have hS : va_S A s.heap s.heap [] := va_S.rf
  generalize ([.ref (a9 0), .int x1, .int x2] : List Value).toArray = av at hts hQ ⊢
  have hL : ∀ w ∈ wsL_law, w.before av s = true := fun w h => hts w (List.mem_cons_of_mem _ h)
  have w0 := hL (.fieldLink RX9 43 "LosingLeagueModel" "many" "[I") (hR6 15 rfl)
  have w1 := hL (.fieldLink RX9 49 "LosingLeagueModel" "won" "[I") (hR6 17 rfl)
  have w2 := hL (.fieldLink RX9 40 "LosingLeagueModel" "goes" "[I") (hR6 14 rfl)
  have w3 := hL (.fieldLink RX9 34 "LosingLeagueModel" "firsts" "[I") (hR6 12 rfl)
  have w4 := hL (.fieldLink RX9 37 "LosingLeagueModel" "seconds" "[I") (hR6 13 rfl)
  have w5 := hL (.constantLong RX9 196 2) (hR22 10 rfl)
  have w6 := hL (.static yX9_in) (hR8 8 rfl)
  have w7 := hL (.fieldLink RX9 52 "LosingLeagueModel" "sideAt" "[I") (hR6 18 rfl)
  have hB20 : ∀ (c_placeOf : Nat → Int32) (c_sideAt : Nat → Int32) (c_won : Nat → Int32) (H : Heap) (locs : List Loc) (ls : Array Slot), fX9_table_20 N c_firsts c_goes c_holds c_many c_seconds x1 x2 c_placeOf c_sideAt c_won = some q → va_P D vwCl [(a9 0, .inr (9, fl9 a9 i9 g9)), ((a9 9), .inl (cyI, 60, .inl c_firsts)), ((a9 11), .inl (cyI, 60, .inl c_goes)), ((a9 5), .inl (cyI, 32, .inl c_holds)), ((a9 12), .inl (cyI, 2, .inl c_many)), ((a9 16), .inl (cyI, 6, .inl c_placeOf)), ((a9 10), .inl (cyI, 60, .inl c_seconds)), ((a9 15), .inl (cyI, 6, .inl c_sideAt)), ((a9 14), .inl (cyI, 6, .inl c_won))] H → va_D A [(a9 0, .inr (9, fl9 a9 i9 g9)), ((a9 9), .inl (cyI, 60, .inl c_firsts)), ((a9 11), .inl (cyI, 60, .inl c_goes)), ((a9 5), .inl (cyI, 32, .inl c_holds)), ((a9 12), .inl (cyI, 2, .inl c_many)), ((a9 16), .inl (cyI, 6, .inl c_placeOf)), ((a9 10), .inl (cyI, 60, .inl c_seconds)), ((a9 15), .inl (cyI, 6, .inl c_sideAt)), ((a9 14), .inl (cyI, 6, .inl c_won))] → va_S A s.heap H locs → lv_has ls 6 [] → W p l e rmX9_table s m av below meth c H locs 0 0 Q (F0 m 20 ls []) := by
    intro c_placeOf c_sideAt c_won H locs ls hf hP hD hS hl
    unfold fX9_table_20 at hf
    refine lv_iconst (v := (-1)) hx hb dX9_table_20 (by decide) ?_
    exact ret_i (q := q) (g := fun q => q.1) (wp := fun q => [(a9 0, .inr (9, fl9 a9 i9 g9)), ((a9 9), .inl (cyI, 60, .inl c_firsts)), ((a9 11), .inl (cyI, 60, .inl c_goes)), ((a9 5), .inl (cyI, 32, .inl c_holds)), ((a9 12), .inl (cyI, 2, .inl c_many)), ((a9 16), .inl (cyI, 6, .inl q.2.1)), ((a9 10), .inl (cyI, 60, .inl c_seconds)), ((a9 15), .inl (cyI, 6, .inl q.2.2.1)), ((a9 14), .inl (cyI, 6, .inl q.2.2.2))]) hQ hf hx hb hr hlocks hP hD hS dX9_table_21 rfl
  have hB91 : ∀ (k40 : Int32 → Int32 → Int32 → (Nat → Int32) → (Nat → Int32) → (Nat → Int32) → Option (Int32 × (Nat → Int32) × (Nat → Int32) × (Nat → Int32))) (hk40 : ∀ (x3 : Int32) (x4 : Int32) (x5 : Int32) (c_placeOf : Nat → Int32) (c_sideAt : Nat → Int32) (c_won : Nat → Int32) (H : Heap) (locs : List Loc) (ls : Array Slot), k40 x3 x4 x5 c_placeOf c_sideAt c_won = some q → va_P D vwCl [(a9 0, .inr (9, fl9 a9 i9 g9)), ((a9 9), .inl (cyI, 60, .inl c_firsts)), ((a9 11), .inl (cyI, 60, .inl c_goes)), ((a9 5), .inl (cyI, 32, .inl c_holds)), ((a9 12), .inl (cyI, 2, .inl c_many)), ((a9 16), .inl (cyI, 6, .inl c_placeOf)), ((a9 10), .inl (cyI, 60, .inl c_seconds)), ((a9 15), .inl (cyI, 6, .inl c_sideAt)), ((a9 14), .inl (cyI, 6, .inl c_won))] H → va_D A [(a9 0, .inr (9, fl9 a9 i9 g9)), ((a9 9), .inl (cyI, 60, .inl c_firsts)), ((a9 11), .inl (cyI, 60, .inl c_goes)), ((a9 5), .inl (cyI, 32, .inl c_holds)), ((a9 12), .inl (cyI, 2, .inl c_many)), ((a9 16), .inl (cyI, 6, .inl c_placeOf)), ((a9 10), .inl (cyI, 60, .inl c_seconds)), ((a9 15), .inl (cyI, 6, .inl c_sideAt)), ((a9 14), .inl (cyI, 6, .inl c_won))] → va_S A s.heap H locs → lv_has ls 6 [(0, .ref (a9 0)), (2, .int x2), (3, .int x3), (4, .int x4), (5, .int x5)] → W p l e rmX9_table s m av below meth c H locs 0 0 Q (F0 m 40 ls [])), ∀ (x3 : Int32) (x5 : Int32) (s0 : Int32) (s1 : Int32) (c_placeOf : Nat → Int32) (c_sideAt : Nat → Int32) (c_won : Nat → Int32) (H : Heap) (locs : List Loc) (ls : Array Slot), fX9_table_91 N c_firsts c_goes c_holds c_many c_seconds x1 x2 k40 x3 x5 s0 s1 c_placeOf c_sideAt c_won = some q → va_P D vwCl [(a9 0, .inr (9, fl9 a9 i9 g9)), ((a9 9), .inl (cyI, 60, .inl c_firsts)), ((a9 11), .inl (cyI, 60, .inl c_goes)), ((a9 5), .inl (cyI, 32, .inl c_holds)), ((a9 12), .inl (cyI, 2, .inl c_many)), ((a9 16), .inl (cyI, 6, .inl c_placeOf)), ((a9 10), .inl (cyI, 60, .inl c_seconds)), ((a9 15), .inl (cyI, 6, .inl c_sideAt)), ((a9 14), .inl (cyI, 6, .inl c_won))] H → va_D A [(a9 0, .inr (9, fl9 a9 i9 g9)), ((a9 9), .inl (cyI, 60, .inl c_firsts)), ((a9 11), .inl (cyI, 60, .inl c_goes)), ((a9 5), .inl (cyI, 32, .inl c_holds)), ((a9 12), .inl (cyI, 2, .inl c_many)), ((a9 16), .inl (cyI, 6, .inl c_placeOf)), ((a9 10), .inl (cyI, 60, .inl c_seconds)), ((a9 15), .inl (cyI, 6, .inl c_sideAt)), ((a9 14), .inl (cyI, 6, .inl c_won))] → va_S A s.heap H locs → lv_has ls 6 [(0, .ref (a9 0)), (2, .int x2), (3, .int x3), (5, .int x5)] → W p l e rmX9_table s m av below meth c H locs 0 0 Q (F0 m 91 ls [.int s1, .int s0]) := by
    intro k40 hk40 x3 x5 s0 s1 c_placeOf c_sideAt c_won H locs ls hf hP hD hS hl
    unfold fX9_table_91 at hf
    refine lv_iadd hx hb dX9_table_91 ?_
    refine lv_istore (lv' := [(4, .int (s0 + s1)), (0, .ref (a9 0)), (2, .int x2), (3, .int x3), (5, .int x5)]) hx hb dX9_table_92 hl (by decide) rfl (fun ls hl => ?_)
    refine lv_iinc (v := x5 + 1) (lv' := [(5, .int (x5 + 1)), (4, .int (s0 + s1)), (0, .ref (a9 0)), (2, .int x2), (3, .int x3)]) hx hb dX9_table_94 hl (k := 4) rfl rfl (by decide) rfl (fun ls hl => ?_)
    refine lv_goto (tgt := 40) hx hb dX9_table_97 (by decide) ?_
    exact hk40 x3 (s0 + s1) (x5 + 1) c_placeOf c_sideAt c_won H locs ls hf hP hD hS (lv_sub hl [2, 3, 4, 1, 0] rfl)
  have hB86 : ∀ (k40 : Int32 → Int32 → Int32 → (Nat → Int32) → (Nat → Int32) → (Nat → Int32) → Option (Int32 × (Nat → Int32) × (Nat → Int32) × (Nat → Int32))) (hk40 : ∀ (x3 : Int32) (x4 : Int32) (x5 : Int32) (c_placeOf : Nat → Int32) (c_sideAt : Nat → Int32) (c_won : Nat → Int32) (H : Heap) (locs : List Loc) (ls : Array Slot), k40 x3 x4 x5 c_placeOf c_sideAt c_won = some q → va_P D vwCl [(a9 0, .inr (9, fl9 a9 i9 g9)), ((a9 9), .inl (cyI, 60, .inl c_firsts)), ((a9 11), .inl (cyI, 60, .inl c_goes)), ((a9 5), .inl (cyI, 32, .inl c_holds)), ((a9 12), .inl (cyI, 2, .inl c_many)), ((a9 16), .inl (cyI, 6, .inl c_placeOf)), ((a9 10), .inl (cyI, 60, .inl c_seconds)), ((a9 15), .inl (cyI, 6, .inl c_sideAt)), ((a9 14), .inl (cyI, 6, .inl c_won))] H → va_D A [(a9 0, .inr (9, fl9 a9 i9 g9)), ((a9 9), .inl (cyI, 60, .inl c_firsts)), ((a9 11), .inl (cyI, 60, .inl c_goes)), ((a9 5), .inl (cyI, 32, .inl c_holds)), ((a9 12), .inl (cyI, 2, .inl c_many)), ((a9 16), .inl (cyI, 6, .inl c_placeOf)), ((a9 10), .inl (cyI, 60, .inl c_seconds)), ((a9 15), .inl (cyI, 6, .inl c_sideAt)), ((a9 14), .inl (cyI, 6, .inl c_won))] → va_S A s.heap H locs → lv_has ls 6 [(0, .ref (a9 0)), (2, .int x2), (3, .int x3), (4, .int x4), (5, .int x5)] → W p l e rmX9_table s m av below meth c H locs 0 0 Q (F0 m 40 ls [])), ∀ (x3 : Int32) (x5 : Int32) (s0 : Int32) (c_placeOf : Nat → Int32) (c_sideAt : Nat → Int32) (c_won : Nat → Int32) (H : Heap) (locs : List Loc) (ls : Array Slot), fX9_table_86 N c_firsts c_goes c_holds c_many c_seconds x1 x2 k40 x3 x5 s0 c_placeOf c_sideAt c_won = some q → va_P D vwCl [(a9 0, .inr (9, fl9 a9 i9 g9)), ((a9 9), .inl (cyI, 60, .inl c_firsts)), ((a9 11), .inl (cyI, 60, .inl c_goes)), ((a9 5), .inl (cyI, 32, .inl c_holds)), ((a9 12), .inl (cyI, 2, .inl c_many)), ((a9 16), .inl (cyI, 6, .inl c_placeOf)), ((a9 10), .inl (cyI, 60, .inl c_seconds)), ((a9 15), .inl (cyI, 6, .inl c_sideAt)), ((a9 14), .inl (cyI, 6, .inl c_won))] H → va_D A [(a9 0, .inr (9, fl9 a9 i9 g9)), ((a9 9), .inl (cyI, 60, .inl c_firsts)), ((a9 11), .inl (cyI, 60, .inl c_goes)), ((a9 5), .inl (cyI, 32, .inl c_holds)), ((a9 12), .inl (cyI, 2, .inl c_many)), ((a9 16), .inl (cyI, 6, .inl c_placeOf)), ((a9 10), .inl (cyI, 60, .inl c_seconds)), ((a9 15), .inl (cyI, 6, .inl c_sideAt)), ((a9 14), .inl (cyI, 6, .inl c_won))] → va_S A s.heap H locs → lv_has ls 6 [(0, .ref (a9 0)), (2, .int x2), (3, .int x3), (5, .int x5)] → W p l e rmX9_table s m av below meth c H locs 0 0 Q (F0 m 86 ls [.int s0]) := by
    intro k40 hk40 x3 x5 s0 c_placeOf c_sideAt c_won H locs ls hf hP hD hS hl
    unfold fX9_table_86 at hf
    refine lv_iconst (v := 1) hx hb dX9_table_86 (by decide) ?_
    refine lv_goto (tgt := 91) hx hb dX9_table_87 (by decide) ?_
    exact hB91 k40 hk40 x3 x5 s0 1 c_placeOf c_sideAt c_won H locs ls hf hP hD hS (lv_sub hl [0, 1, 2, 3] rfl)
  have hB90 : ∀ (k40 : Int32 → Int32 → Int32 → (Nat → Int32) → (Nat → Int32) → (Nat → Int32) → Option (Int32 × (Nat → Int32) × (Nat → Int32) × (Nat → Int32))) (hk40 : ∀ (x3 : Int32) (x4 : Int32) (x5 : Int32) (c_placeOf : Nat → Int32) (c_sideAt : Nat → Int32) (c_won : Nat → Int32) (H : Heap) (locs : List Loc) (ls : Array Slot), k40 x3 x4 x5 c_placeOf c_sideAt c_won = some q → va_P D vwCl [(a9 0, .inr (9, fl9 a9 i9 g9)), ((a9 9), .inl (cyI, 60, .inl c_firsts)), ((a9 11), .inl (cyI, 60, .inl c_goes)), ((a9 5), .inl (cyI, 32, .inl c_holds)), ((a9 12), .inl (cyI, 2, .inl c_many)), ((a9 16), .inl (cyI, 6, .inl c_placeOf)), ((a9 10), .inl (cyI, 60, .inl c_seconds)), ((a9 15), .inl (cyI, 6, .inl c_sideAt)), ((a9 14), .inl (cyI, 6, .inl c_won))] H → va_D A [(a9 0, .inr (9, fl9 a9 i9 g9)), ((a9 9), .inl (cyI, 60, .inl c_firsts)), ((a9 11), .inl (cyI, 60, .inl c_goes)), ((a9 5), .inl (cyI, 32, .inl c_holds)), ((a9 12), .inl (cyI, 2, .inl c_many)), ((a9 16), .inl (cyI, 6, .inl c_placeOf)), ((a9 10), .inl (cyI, 60, .inl c_seconds)), ((a9 15), .inl (cyI, 6, .inl c_sideAt)), ((a9 14), .inl (cyI, 6, .inl c_won))] → va_S A s.heap H locs → lv_has ls 6 [(0, .ref (a9 0)), (2, .int x2), (3, .int x3), (4, .int x4), (5, .int x5)] → W p l e rmX9_table s m av below meth c H locs 0 0 Q (F0 m 40 ls [])), ∀ (x3 : Int32) (x5 : Int32) (s0 : Int32) (c_placeOf : Nat → Int32) (c_sideAt : Nat → Int32) (c_won : Nat → Int32) (H : Heap) (locs : List Loc) (ls : Array Slot), fX9_table_90 N c_firsts c_goes c_holds c_many c_seconds x1 x2 k40 x3 x5 s0 c_placeOf c_sideAt c_won = some q → va_P D vwCl [(a9 0, .inr (9, fl9 a9 i9 g9)), ((a9 9), .inl (cyI, 60, .inl c_firsts)), ((a9 11), .inl (cyI, 60, .inl c_goes)), ((a9 5), .inl (cyI, 32, .inl c_holds)), ((a9 12), .inl (cyI, 2, .inl c_many)), ((a9 16), .inl (cyI, 6, .inl c_placeOf)), ((a9 10), .inl (cyI, 60, .inl c_seconds)), ((a9 15), .inl (cyI, 6, .inl c_sideAt)), ((a9 14), .inl (cyI, 6, .inl c_won))] H → va_D A [(a9 0, .inr (9, fl9 a9 i9 g9)), ((a9 9), .inl (cyI, 60, .inl c_firsts)), ((a9 11), .inl (cyI, 60, .inl c_goes)), ((a9 5), .inl (cyI, 32, .inl c_holds)), ((a9 12), .inl (cyI, 2, .inl c_many)), ((a9 16), .inl (cyI, 6, .inl c_placeOf)), ((a9 10), .inl (cyI, 60, .inl c_seconds)), ((a9 15), .inl (cyI, 6, .inl c_sideAt)), ((a9 14), .inl (cyI, 6, .inl c_won))] → va_S A s.heap H locs → lv_has ls 6 [(0, .ref (a9 0)), (2, .int x2), (3, .int x3), (5, .int x5)] → W p l e rmX9_table s m av below meth c H locs 0 0 Q (F0 m 90 ls [.int s0]) := by
    intro k40 hk40 x3 x5 s0 c_placeOf c_sideAt c_won H locs ls hf hP hD hS hl
    unfold fX9_table_90 at hf
    refine lv_iconst (v := 0) hx hb dX9_table_90 (by decide) ?_
    exact hB91 k40 hk40 x3 x5 s0 0 c_placeOf c_sideAt c_won H locs ls hf hP hD hS (lv_sub hl [0, 1, 2, 3] rfl)
  have hB124 : ∀ (s0 : Int32) (c_placeOf : Nat → Int32) (c_sideAt : Nat → Int32) (c_won : Nat → Int32) (H : Heap) (locs : List Loc) (ls : Array Slot), fX9_table_124 N c_firsts c_goes c_holds c_many c_seconds x1 x2 s0 c_placeOf c_sideAt c_won = some q → va_P D vwCl [(a9 0, .inr (9, fl9 a9 i9 g9)), ((a9 9), .inl (cyI, 60, .inl c_firsts)), ((a9 11), .inl (cyI, 60, .inl c_goes)), ((a9 5), .inl (cyI, 32, .inl c_holds)), ((a9 12), .inl (cyI, 2, .inl c_many)), ((a9 16), .inl (cyI, 6, .inl c_placeOf)), ((a9 10), .inl (cyI, 60, .inl c_seconds)), ((a9 15), .inl (cyI, 6, .inl c_sideAt)), ((a9 14), .inl (cyI, 6, .inl c_won))] H → va_D A [(a9 0, .inr (9, fl9 a9 i9 g9)), ((a9 9), .inl (cyI, 60, .inl c_firsts)), ((a9 11), .inl (cyI, 60, .inl c_goes)), ((a9 5), .inl (cyI, 32, .inl c_holds)), ((a9 12), .inl (cyI, 2, .inl c_many)), ((a9 16), .inl (cyI, 6, .inl c_placeOf)), ((a9 10), .inl (cyI, 60, .inl c_seconds)), ((a9 15), .inl (cyI, 6, .inl c_sideAt)), ((a9 14), .inl (cyI, 6, .inl c_won))] → va_S A s.heap H locs → lv_has ls 6 [] → W p l e rmX9_table s m av below meth c H locs 0 0 Q (F0 m 124 ls [.int s0]) := by
    intro s0 c_placeOf c_sideAt c_won H locs ls hf hP hD hS hl
    unfold fX9_table_124 at hf
    exact ret_i (q := q) (g := fun q => q.1) (wp := fun q => [(a9 0, .inr (9, fl9 a9 i9 g9)), ((a9 9), .inl (cyI, 60, .inl c_firsts)), ((a9 11), .inl (cyI, 60, .inl c_goes)), ((a9 5), .inl (cyI, 32, .inl c_holds)), ((a9 12), .inl (cyI, 2, .inl c_many)), ((a9 16), .inl (cyI, 6, .inl q.2.1)), ((a9 10), .inl (cyI, 60, .inl c_seconds)), ((a9 15), .inl (cyI, 6, .inl q.2.2.1)), ((a9 14), .inl (cyI, 6, .inl q.2.2.2))]) hQ hf hx hb hr hlocks hP hD hS dX9_table_124 rfl
  have hB40 : ∀ (n : Nat), ∀ (x3 : Int32) (x4 : Int32) (x5 : Int32) (c_placeOf : Nat → Int32) (c_sideAt : Nat → Int32) (c_won : Nat → Int32) (H : Heap) (locs : List Loc) (ls : Array Slot), fX9_table_40 N c_firsts c_goes c_holds c_many c_seconds x1 x2 n x3 x4 x5 c_placeOf c_sideAt c_won = some q → va_P D vwCl [(a9 0, .inr (9, fl9 a9 i9 g9)), ((a9 9), .inl (cyI, 60, .inl c_firsts)), ((a9 11), .inl (cyI, 60, .inl c_goes)), ((a9 5), .inl (cyI, 32, .inl c_holds)), ((a9 12), .inl (cyI, 2, .inl c_many)), ((a9 16), .inl (cyI, 6, .inl c_placeOf)), ((a9 10), .inl (cyI, 60, .inl c_seconds)), ((a9 15), .inl (cyI, 6, .inl c_sideAt)), ((a9 14), .inl (cyI, 6, .inl c_won))] H → va_D A [(a9 0, .inr (9, fl9 a9 i9 g9)), ((a9 9), .inl (cyI, 60, .inl c_firsts)), ((a9 11), .inl (cyI, 60, .inl c_goes)), ((a9 5), .inl (cyI, 32, .inl c_holds)), ((a9 12), .inl (cyI, 2, .inl c_many)), ((a9 16), .inl (cyI, 6, .inl c_placeOf)), ((a9 10), .inl (cyI, 60, .inl c_seconds)), ((a9 15), .inl (cyI, 6, .inl c_sideAt)), ((a9 14), .inl (cyI, 6, .inl c_won))] → va_S A s.heap H locs → lv_has ls 6 [(0, .ref (a9 0)), (2, .int x2), (3, .int x3), (4, .int x4), (5, .int x5)] → W p l e rmX9_table s m av below meth c H locs 0 0 Q (F0 m 40 ls []) := by
    intro n
    induction n with
    | zero => intro x3 x4 x5 c_placeOf c_sideAt c_won H locs ls hf; exact absurd hf (by simp [fX9_table_40])
    | succ n hk40 =>
      intro x3 x4 x5 c_placeOf c_sideAt c_won H locs ls hf hP hD hS hl
      rw [fX9_table_40] at hf
      refine lv_iload hx hb dX9_table_40 (lv_at hl 4 rfl) ?_
      refine lv_aload_n hx hb dX9_table_42 rfl (lv_at hl 0 rfl) ?_
      refine va_get (D := D) (ci := 9) (v := .ref (a9 12)) (C := RX9) (T := TX9) (N := 52) hx hb hL inlX9 hown hK.1 hP 0 rfl rfl 22 (by decide) w0 (fun _ h9 => h9) rfl dX9_table_43 ?_
      refine lv_iconst (v := 0) hx hb dX9_table_46 (by decide) ?_
      obtain ⟨h47, hf⟩ := pg_some hf
      refine va_iald hx hb hK.1 hP 4 0 rfl rfl h47 dX9_table_47 ?_
      refine lv_icmp_ge (tgt := 100) hx hb dX9_table_48 (by decide) (fun c48 => ?_) (fun c48 => ?_)
      · have hf := pif_t c48 hf
        refine lv_iload_n hx hb dX9_table_100 rfl (lv_at hl 1 rfl) ?_
        refine lv_if_ne (tgt := 108) hx hb dX9_table_101 (by decide) (fun c101 => ?_) (fun c101 => ?_)
        · have hf := pif_f c101 hf
          refine lv_iload_n hx hb dX9_table_108 rfl (lv_at hl 1 rfl) ?_
          refine lv_iconst (v := 1) hx hb dX9_table_109 (by decide) ?_
          refine lv_icmp_ne (tgt := 122) hx hb dX9_table_110 (by decide) (fun c110 => ?_) (fun c110 => ?_)
          · have hf := pif_f c110 hf
            refine lv_iload hx hb dX9_table_122 (lv_at hl 3 rfl) ?_
            exact hB124 x4 c_placeOf c_sideAt c_won H locs ls hf hP hD hS (lv_sub hl [] rfl)
          · have hf := pif_t c110 hf
            refine lv_aload_n hx hb dX9_table_113 rfl (lv_at hl 0 rfl) ?_
            refine va_get (D := D) (ci := 9) (v := .ref (a9 14)) (C := RX9) (T := TX9) (N := 52) hx hb hL inlX9 hown hK.1 hP 0 rfl rfl 26 (by decide) w1 (fun _ h9 => h9) rfl dX9_table_114 ?_
            refine lv_iload_n hx hb dX9_table_117 rfl (lv_at hl 2 rfl) ?_
            obtain ⟨h118, hf⟩ := pg_some hf
            refine va_iald hx hb hK.1 hP 8 0 rfl rfl h118 dX9_table_118 ?_
            refine lv_goto (tgt := 124) hx hb dX9_table_119 (by decide) ?_
            exact hB124 (c_won x3.toNatClampNeg) c_placeOf c_sideAt c_won H locs ls hf hP hD hS (lv_sub hl [] rfl)
        · have hf := pif_t c101 hf
          refine lv_iload_n hx hb dX9_table_104 rfl (lv_at hl 2 rfl) ?_
          refine lv_goto (tgt := 124) hx hb dX9_table_105 (by decide) ?_
          exact hB124 x3 c_placeOf c_sideAt c_won H locs ls hf hP hD hS (lv_sub hl [] rfl)
      · have hf := pif_f c48 hf
        refine lv_iload hx hb dX9_table_51 (lv_at hl 3 rfl) ?_
        refine lv_aload_n hx hb dX9_table_53 rfl (lv_at hl 0 rfl) ?_
        refine va_get (D := D) (ci := 9) (v := .ref (a9 11)) (C := RX9) (T := TX9) (N := 52) hx hb hL inlX9 hown hK.1 hP 0 rfl rfl 21 (by decide) w2 (fun _ h9 => h9) rfl dX9_table_54 ?_
        refine lv_iload hx hb dX9_table_57 (lv_at hl 4 rfl) ?_
        obtain ⟨h59, hf⟩ := pg_some hf
        refine va_iald hx hb hK.1 hP 2 0 rfl rfl h59 dX9_table_59 ?_
        refine lv_iconst (v := 2) hx hb dX9_table_60 (by decide) ?_
        refine lv_icmp_ne (tgt := 90) hx hb dX9_table_61 (by decide) (fun c61 => ?_) (fun c61 => ?_)
        · have hf := pif_f c61 hf
          exact hB90 (fX9_table_40 N c_firsts c_goes c_holds c_many c_seconds x1 x2 n) hk40 x3 x5 x4 c_placeOf c_sideAt c_won H locs ls hf hP hD hS (lv_sub hl [0, 1, 2, 4] rfl)
        · have hf := pif_t c61 hf
          refine lv_aload_n hx hb dX9_table_64 rfl (lv_at hl 0 rfl) ?_
          refine va_get (D := D) (ci := 9) (v := .ref (a9 9)) (C := RX9) (T := TX9) (N := 52) hx hb hL inlX9 hown hK.1 hP 0 rfl rfl 19 (by decide) w3 (fun _ h9 => h9) rfl dX9_table_65 ?_
          refine lv_iload hx hb dX9_table_68 (lv_at hl 4 rfl) ?_
          obtain ⟨h70, hf⟩ := pg_some hf
          refine va_iald hx hb hK.1 hP 1 0 rfl rfl h70 dX9_table_70 ?_
          refine lv_iload_n hx hb dX9_table_71 rfl (lv_at hl 2 rfl) ?_
          refine lv_icmp_eq (tgt := 86) hx hb dX9_table_72 (by decide) (fun c72 => ?_) (fun c72 => ?_)
          · have hf := pif_t c72 hf
            exact hB86 (fX9_table_40 N c_firsts c_goes c_holds c_many c_seconds x1 x2 n) hk40 x3 x5 x4 c_placeOf c_sideAt c_won H locs ls hf hP hD hS (lv_sub hl [0, 1, 2, 4] rfl)
          · have hf := pif_f c72 hf
            refine lv_aload_n hx hb dX9_table_75 rfl (lv_at hl 0 rfl) ?_
            refine va_get (D := D) (ci := 9) (v := .ref (a9 10)) (C := RX9) (T := TX9) (N := 52) hx hb hL inlX9 hown hK.1 hP 0 rfl rfl 20 (by decide) w4 (fun _ h9 => h9) rfl dX9_table_76 ?_
            refine lv_iload hx hb dX9_table_79 (lv_at hl 4 rfl) ?_
            obtain ⟨h81, hf⟩ := pg_some hf
            refine va_iald hx hb hK.1 hP 6 0 rfl rfl h81 dX9_table_81 ?_
            refine lv_iload_n hx hb dX9_table_82 rfl (lv_at hl 2 rfl) ?_
            refine lv_icmp_ne (tgt := 90) hx hb dX9_table_83 (by decide) (fun c83 => ?_) (fun c83 => ?_)
            · have hf := pif_f c83 hf
              exact hB90 (fX9_table_40 N c_firsts c_goes c_holds c_many c_seconds x1 x2 n) hk40 x3 x5 x4 c_placeOf c_sideAt c_won H locs ls hf hP hD hS (lv_sub hl [0, 1, 2, 4] rfl)
            · have hf := pif_t c83 hf
              exact hB86 (fX9_table_40 N c_firsts c_goes c_holds c_many c_seconds x1 x2 n) hk40 x3 x5 x4 c_placeOf c_sideAt c_won H locs ls hf hP hD hS (lv_sub hl [0, 1, 2, 4] rfl)
  unfold fX9_table at hf
  obtain ⟨H, hH⟩ : ∃ H : Heap, H = s.heap := ⟨_, rfl⟩
  obtain ⟨locs, hlo⟩ : ∃ locs : List Loc, locs = [] := ⟨_, rfl⟩
  have hP : va_P D vwCl [(a9 0, .inr (9, fl9 a9 i9 g9)), ((a9 9), .inl (cyI, 60, .inl c_firsts)), ((a9 11), .inl (cyI, 60, .inl c_goes)), ((a9 5), .inl (cyI, 32, .inl c_holds)), ((a9 12), .inl (cyI, 2, .inl c_many)), ((a9 16), .inl (cyI, 6, .inl c_placeOf)), ((a9 10), .inl (cyI, 60, .inl c_seconds)), ((a9 15), .inl (cyI, 6, .inl c_sideAt)), ((a9 14), .inl (cyI, 6, .inl c_won))] H := by rw [hH]; exact hP
  have hS : va_S A s.heap H locs := by rw [hH, hlo]; exact hS
  suffices hw : W p l e rmX9_table s m av below meth c H locs 0 0 Q (F0 m 0 ls []) by rw [hH, hlo] at hw; exact hw
  refine lv_aload_n hx hb dX9_table_0 rfl (lv_at hl 0 rfl) ?_
  refine lv_iload_n hx hb dX9_table_1 rfl (lv_at hl 1 rfl) ?_
  obtain ⟨q2, e2, hf⟩ := pb_some hf
  refine cc_i (wc := [(a9 0, .inr (9, fl9 a9 i9 g9)), ((a9 5), .inl (cyI, 32, .inl c_holds))]) (wr := [((a9 9), .inl (cyI, 60, .inl c_firsts)), ((a9 11), .inl (cyI, 60, .inl c_goes)), ((a9 12), .inl (cyI, 2, .inl c_many)), ((a9 16), .inl (cyI, 6, .inl c_placeOf)), ((a9 10), .inl (cyI, 60, .inl c_seconds)), ((a9 15), .inl (cyI, 6, .inl c_sideAt)), ((a9 14), .inl (cyI, 6, .inl c_won))]) (w1 := [(a9 0, .inr (9, fl9 a9 i9 g9)), ((a9 5), .inl (cyI, 32, .inl c_holds))]) (wn := [(a9 0, .inr (9, fl9 a9 i9 g9)), ((a9 9), .inl (cyI, 60, .inl c_firsts)), ((a9 11), .inl (cyI, 60, .inl c_goes)), ((a9 5), .inl (cyI, 32, .inl c_holds)), ((a9 12), .inl (cyI, 2, .inl c_many)), ((a9 16), .inl (cyI, 6, .inl c_placeOf)), ((a9 10), .inl (cyI, 60, .inl c_seconds)), ((a9 15), .inl (cyI, 6, .inl c_sideAt)), ((a9 14), .inl (cyI, 6, .inl c_won))]) hP hD hS hA [0, 3] [1, 2, 4, 5, 6, 7, 8] [7, 0, 1, 8, 2, 3, 4, 5, 6] rfl rfl rfl (by decide) rfl rfl (va_runV (C := RX9) (As := [.int x1]) (rest := []) ⟨hx, hb, hml, hown, hL⟩ (mX9_isSide l D cyI cyJ cyB cyS N H.size a9 i9 g9 c_holds x1 q2 e2) (cwV 1 hL (gV (hR19 11 rfl) (hR19 12 rfl) (hR19 13 rfl) (hR1 5 rfl) (hR19 14 rfl)) rfl rfl rfl (by decide +kernel) ⟨Nat.le_of_ble_eq_true rfl, Nat.le_of_ble_eq_true rfl⟩) (PP_preV (ci := 9) (q0 := 0) hP hD hK [0, 3] rfl rfl rfl rfl) rfl rfl hl.1 rfl (lv_room (Nat.le_of_ble_eq_true rfl)) dX9_table_2 ⟨Nat.le_of_ble_eq_true rfl, Nat.le_of_ble_eq_true rfl⟩) (fun H locs hP hD hS => ?_)
  refine lv_if_eq (tgt := 20) hx hb dX9_table_5 (by decide) (fun c5 => ?_) (fun c5 => ?_)
  · have hf := pif_t c5 hf
    exact hB20 c_placeOf c_sideAt c_won H locs ls hf hP hD hS (lv_sub hl [] rfl)
  · have hf := pif_f c5 hf
    refine lv_iload_n hx hb dX9_table_8 rfl (lv_at hl 2 rfl) ?_
    refine lv_i2l hx hb dX9_table_9 rfl ?_
    refine lv_lconst (v := 0) hx hb dX9_table_10 (by decide) ?_
    refine lv_ldc2 (v := 2) hx hb hown w5 dX9_table_11 ?_
    obtain ⟨q14, e14, hf⟩ := pb_some hf
    refine cc_i (wc := []) (wr := [(a9 0, .inr (9, fl9 a9 i9 g9)), ((a9 9), .inl (cyI, 60, .inl c_firsts)), ((a9 11), .inl (cyI, 60, .inl c_goes)), ((a9 5), .inl (cyI, 32, .inl c_holds)), ((a9 12), .inl (cyI, 2, .inl c_many)), ((a9 16), .inl (cyI, 6, .inl c_placeOf)), ((a9 10), .inl (cyI, 60, .inl c_seconds)), ((a9 15), .inl (cyI, 6, .inl c_sideAt)), ((a9 14), .inl (cyI, 6, .inl c_won))]) (w1 := []) (wn := [(a9 0, .inr (9, fl9 a9 i9 g9)), ((a9 9), .inl (cyI, 60, .inl c_firsts)), ((a9 11), .inl (cyI, 60, .inl c_goes)), ((a9 5), .inl (cyI, 32, .inl c_holds)), ((a9 12), .inl (cyI, 2, .inl c_many)), ((a9 16), .inl (cyI, 6, .inl c_placeOf)), ((a9 10), .inl (cyI, 60, .inl c_seconds)), ((a9 15), .inl (cyI, 6, .inl c_sideAt)), ((a9 14), .inl (cyI, 6, .inl c_won))]) hP hD hS hA [] [0, 1, 2, 3, 4, 5, 6, 7, 8] [0, 1, 2, 3, 4, 5, 6, 7, 8] rfl rfl rfl (by decide) rfl rfl (va_runS (As := [.long ((x2 : Int32).toInt64), .long 0, .long 2]) (rest := []) ⟨hx, hb, hml, hown, hL⟩ (mX9_in l D cyI cyJ cyB cyS N H.size   ((x2 : Int32).toInt64) 0 2 q14 e14) (va_cwS 3 hL (gS (hR8 7 rfl) (hR8 8 rfl) (hR1 5 rfl) (hR8 9 rfl)) rfl rfl rfl (by decide +kernel) ⟨Nat.le_of_ble_eq_true rfl, Nat.le_of_ble_eq_true rfl⟩) (PP_preS hP hD hK [] rfl rfl) rfl rfl hl.1 rfl (lv_room (Nat.le_of_ble_eq_true rfl)) dX9_table_14 ⟨Nat.le_of_ble_eq_true rfl, Nat.le_of_ble_eq_true rfl⟩) (fun H locs hP hD hS => ?_)
    refine lv_if_ne (tgt := 22) hx hb dX9_table_17 (by decide) (fun c17 => ?_) (fun c17 => ?_)
    · have hf := pif_f c17 hf
      refine lv_aload_n hx hb dX9_table_22 rfl (lv_at hl 0 rfl) ?_
      refine lv_iconst (v := 0) hx hb dX9_table_23 (by decide) ?_
      obtain ⟨q24, e24, hf⟩ := pb_some hf
      refine cc_v (wc := [(a9 0, .inr (9, fl9 a9 i9 g9)), ((a9 9), .inl (cyI, 60, .inl c_firsts)), ((a9 11), .inl (cyI, 60, .inl c_goes)), ((a9 5), .inl (cyI, 32, .inl c_holds)), ((a9 12), .inl (cyI, 2, .inl c_many)), ((a9 16), .inl (cyI, 6, .inl c_placeOf)), ((a9 10), .inl (cyI, 60, .inl c_seconds)), ((a9 15), .inl (cyI, 6, .inl c_sideAt)), ((a9 14), .inl (cyI, 6, .inl c_won))]) (wr := []) (w1 := [(a9 0, .inr (9, fl9 a9 i9 g9)), ((a9 9), .inl (cyI, 60, .inl c_firsts)), ((a9 11), .inl (cyI, 60, .inl c_goes)), ((a9 5), .inl (cyI, 32, .inl c_holds)), ((a9 12), .inl (cyI, 2, .inl c_many)), ((a9 16), .inl (cyI, 6, .inl q24.1)), ((a9 10), .inl (cyI, 60, .inl c_seconds)), ((a9 15), .inl (cyI, 6, .inl q24.2.1)), ((a9 14), .inl (cyI, 6, .inl q24.2.2))]) (wn := [(a9 0, .inr (9, fl9 a9 i9 g9)), ((a9 9), .inl (cyI, 60, .inl c_firsts)), ((a9 11), .inl (cyI, 60, .inl c_goes)), ((a9 5), .inl (cyI, 32, .inl c_holds)), ((a9 12), .inl (cyI, 2, .inl c_many)), ((a9 16), .inl (cyI, 6, .inl q24.1)), ((a9 10), .inl (cyI, 60, .inl c_seconds)), ((a9 15), .inl (cyI, 6, .inl q24.2.1)), ((a9 14), .inl (cyI, 6, .inl q24.2.2))]) hP hD hS hA [0, 1, 2, 3, 4, 5, 6, 7, 8] [] [0, 1, 2, 3, 4, 5, 6, 7, 8] rfl rfl rfl (by decide) rfl rfl (va_runV (C := RX9) (As := [.int 0]) (rest := []) ⟨hx, hb, hml, hown, hL⟩ (mX9_layTable l D cyI cyJ cyB cyS N H.size a9 i9 g9 c_firsts c_goes c_holds c_many c_placeOf c_seconds c_sideAt c_won 0 q24 e24) (cwV 1 hL (gV (hR23 17 rfl) (hR23 18 rfl) (hR23 19 rfl) (hR1 5 rfl) (hR23 20 rfl)) rfl rfl rfl (by decide +kernel) ⟨Nat.le_of_ble_eq_true rfl, Nat.le_of_ble_eq_true rfl⟩) (PP_preV (ci := 9) (q0 := 0) hP hD hK [0, 1, 2, 3, 4, 5, 6, 7, 8] rfl rfl rfl rfl) rfl rfl hl.1 rfl (lv_room (Nat.le_of_ble_eq_true rfl)) dX9_table_24 ⟨Nat.le_of_ble_eq_true rfl, Nat.le_of_ble_eq_true rfl⟩) (fun H locs hP hD hS => ?_)
      refine lv_aload_n hx hb dX9_table_27 rfl (lv_at hl 0 rfl) ?_
      refine va_get (D := D) (ci := 9) (v := .ref (a9 15)) (C := RX9) (T := TX9) (N := 52) hx hb hL inlX9 hown hK.1 hP 0 rfl rfl 27 (by decide) w7 (fun _ h9 => h9) rfl dX9_table_28 ?_
      refine lv_iload_n hx hb dX9_table_31 rfl (lv_at hl 1 rfl) ?_
      obtain ⟨h32, hf⟩ := pg_some hf
      refine va_iald hx hb hK.1 hP 7 0 rfl rfl h32 dX9_table_32 ?_
      refine lv_istore_n (lv' := [(3, .int (q24.2.1 x1.toNatClampNeg)), (0, .ref (a9 0)), (1, .int x1), (2, .int x2)]) hx hb dX9_table_33 rfl hl (by decide) rfl (fun ls hl => ?_)
      refine lv_iconst (v := 0) hx hb dX9_table_34 (by decide) ?_
      refine lv_istore (lv' := [(4, .int 0), (3, .int (q24.2.1 x1.toNatClampNeg)), (0, .ref (a9 0)), (1, .int x1), (2, .int x2)]) hx hb dX9_table_35 hl (by decide) rfl (fun ls hl => ?_)
      refine lv_iconst (v := 0) hx hb dX9_table_37 (by decide) ?_
      refine lv_istore (lv' := [(5, .int 0), (4, .int 0), (3, .int (q24.2.1 x1.toNatClampNeg)), (0, .ref (a9 0)), (1, .int x1), (2, .int x2)]) hx hb dX9_table_38 hl (by decide) rfl (fun ls hl => ?_)
      exact hB40 N (q24.2.1 x1.toNatClampNeg) 0 0 q24.1 q24.2.1 q24.2.2 H locs ls hf hP hD hS (lv_sub hl [3, 5, 2, 1, 0] rfl)
    · have hf := pif_t c17 hf
      exact hB20 c_placeOf c_sideAt c_won H locs ls hf hP hD hS (lv_sub hl [] rfl)
abbrev rmX9_wonUpTo : Room := { frames := 1, cells := 0, slots := 0, locals := 21 }
set_option maxHeartbeats 40000000 in
set_option maxRecDepth 100000 in
theorem mX9_wonUpTo (l : Launch) (D : va_G) (cyI cyJ cyB cyS : ClassId) (N : Nat) (sz : Nat) (a9 : Nat → Nat) (i9 : Nat → Int32) (g9 : Nat → Int64) (c_firsts : Nat → Int32) (c_goes : Nat → Int32) (c_seconds : Nat → Int32) (x1 : Int32) (x2 : Int32) (x3 : Int32) (q : Int32) (hf : fX9_wonUpTo N c_firsts c_goes c_seconds x1 x2 x3 = some q) : Met l yX9_wonUpTo (wS yX9_wonUpTo cX9_wonUpTo 6 (some .int)) rmX9_wonUpTo (va_Pc [.ref (a9 0), .int x1, .int x2, .int x3] (PP D cyI cyJ cyB cyS [(a9 0, .inr (9, fl9 a9 i9 g9)), ((a9 9), .inl (cyI, 60, .inl c_firsts)), ((a9 11), .inl (cyI, 60, .inl c_goes)), ((a9 10), .inl (cyI, 60, .inl c_seconds))] sz)) (QI q D [(a9 0, .inr (9, fl9 a9 i9 g9)), ((a9 9), .inl (cyI, 60, .inl c_firsts)), ((a9 11), .inl (cyI, 60, .inl c_goes)), ((a9 10), .inl (cyI, 60, .inl c_seconds))] (va_A [(a9 0, .inr (9, fl9 a9 i9 g9)), ((a9 9), .inl (cyI, 60, .inl c_firsts)), ((a9 11), .inl (cyI, 60, .inl c_goes)), ((a9 10), .inl (cyI, 60, .inl c_seconds))] sz)) 0 0 (va_A [(a9 0, .inr (9, fl9 a9 i9 g9)), ((a9 9), .inl (cyI, 60, .inl c_firsts)), ((a9 11), .inl (cyI, 60, .inl c_goes)), ((a9 10), .inl (cyI, 60, .inl c_seconds))] sz) := by
  refine Met.ofW (cc := cX9_wonUpTo) (maxL := 6) (ret := (some .int)) (by decide) rfl ?_
  intro p e s m args below meth c s₁ B hml hv
  obtain ⟨rfl, hsz, hP, hK, hD0⟩ := hv
  have hx := B.exec
  have hb := B.bytes
  have hr := B.returns
  have hts := atoms_spec (ws := (wS yX9_wonUpTo cX9_wonUpTo 6 (some .int))) B.pre
  have hown : s.vm.findClass RX9 = some m.cls := findClass_of_methodNamed B.named
  have hlocks := B.notSynchronized
  subst hsz
  have hD := hD0.self (sz := s.heap.size)
  refine w_nameQ (fun Q hQ => ?_)
  have hl := lv_entry ([.ref (a9 0), .int x1, .int x2, .int x3] : List Value) (n := 6) (Nat.le_of_ble_eq_true rfl)
  rw [lg_entry_eq]
  generalize (lg_sl ([.ref (a9 0), .int x1, .int x2, .int x3] : List Value) ++ List.replicate (6 - (lg_sl ([.ref (a9 0), .int x1, .int x2, .int x3] : List Value)).length) Slot.unset).toArray = ls at hl ⊢
  have hl : lv_has ls 6 [(0, .ref (a9 0)), (1, .int x1), (2, .int x2), (3, .int x3)] := hl
  generalize hAe : va_A [(a9 0, .inr (9, fl9 a9 i9 g9)), ((a9 9), .inl (cyI, 60, .inl c_firsts)), ((a9 11), .inl (cyI, 60, .inl c_goes)), ((a9 10), .inl (cyI, 60, .inl c_seconds))] s.heap.size = A at hD hQ
  have hA : ∀ q : Nat, s.heap.size ≤ q → A q := fun q h => by rw [← hAe]; exact Or.inr h
  have hS : va_S A s.heap s.heap [] := va_S.rf
  generalize ([.ref (a9 0), .int x1, .int x2, .int x3] : List Value).toArray = av at hts hQ ⊢
  have hL : ∀ w ∈ wsL_law, w.before av s = true := fun w h => hts w (List.mem_cons_of_mem _ h)
  have w0 := hL (.static yX9_from) (hR23 22 rfl)
  have hB34 : ∀ (k6 : Int32 → Int32 → Option (Int32)) (hk6 : ∀ (x4 : Int32) (x5 : Int32) (H : Heap) (locs : List Loc) (ls : Array Slot), k6 x4 x5 = some q → va_P D vwCl [(a9 0, .inr (9, fl9 a9 i9 g9)), ((a9 9), .inl (cyI, 60, .inl c_firsts)), ((a9 11), .inl (cyI, 60, .inl c_goes)), ((a9 10), .inl (cyI, 60, .inl c_seconds))] H → va_D A [(a9 0, .inr (9, fl9 a9 i9 g9)), ((a9 9), .inl (cyI, 60, .inl c_firsts)), ((a9 11), .inl (cyI, 60, .inl c_goes)), ((a9 10), .inl (cyI, 60, .inl c_seconds))] → va_S A s.heap H locs → lv_has ls 6 [(0, .ref (a9 0)), (1, .int x1), (2, .int x2), (3, .int x3), (4, .int x4), (5, .int x5)] → W p l e rmX9_wonUpTo s m av below meth c H locs 0 0 Q (F0 m 6 ls [])), ∀ (x5 : Int32) (s0 : Int32) (s1 : Int32) (H : Heap) (locs : List Loc) (ls : Array Slot), fX9_wonUpTo_34 N c_firsts c_goes c_seconds x1 x2 x3 k6 x5 s0 s1 = some q → va_P D vwCl [(a9 0, .inr (9, fl9 a9 i9 g9)), ((a9 9), .inl (cyI, 60, .inl c_firsts)), ((a9 11), .inl (cyI, 60, .inl c_goes)), ((a9 10), .inl (cyI, 60, .inl c_seconds))] H → va_D A [(a9 0, .inr (9, fl9 a9 i9 g9)), ((a9 9), .inl (cyI, 60, .inl c_firsts)), ((a9 11), .inl (cyI, 60, .inl c_goes)), ((a9 10), .inl (cyI, 60, .inl c_seconds))] → va_S A s.heap H locs → lv_has ls 6 [(0, .ref (a9 0)), (1, .int x1), (2, .int x2), (3, .int x3), (5, .int x5)] → W p l e rmX9_wonUpTo s m av below meth c H locs 0 0 Q (F0 m 34 ls [.int s1, .int s0]) := by
    intro k6 hk6 x5 s0 s1 H locs ls hf hP hD hS hl
    unfold fX9_wonUpTo_34 at hf
    refine lv_iadd hx hb dX9_wonUpTo_34 ?_
    refine lv_istore (lv' := [(4, .int (s0 + s1)), (0, .ref (a9 0)), (1, .int x1), (2, .int x2), (3, .int x3), (5, .int x5)]) hx hb dX9_wonUpTo_35 hl (by decide) rfl (fun ls hl => ?_)
    refine lv_iinc (v := x5 + 1) (lv' := [(5, .int (x5 + 1)), (4, .int (s0 + s1)), (0, .ref (a9 0)), (1, .int x1), (2, .int x2), (3, .int x3)]) hx hb dX9_wonUpTo_37 hl (k := 5) rfl rfl (by decide) rfl (fun ls hl => ?_)
    refine lv_goto (tgt := 6) hx hb dX9_wonUpTo_40 (by decide) ?_
    exact hk6 (s0 + s1) (x5 + 1) H locs ls hf hP hD hS (lv_sub hl [2, 3, 4, 5, 1, 0] rfl)
  have hB6 : ∀ (n : Nat), ∀ (x4 : Int32) (x5 : Int32) (H : Heap) (locs : List Loc) (ls : Array Slot), fX9_wonUpTo_6 N c_firsts c_goes c_seconds x1 x2 x3 n x4 x5 = some q → va_P D vwCl [(a9 0, .inr (9, fl9 a9 i9 g9)), ((a9 9), .inl (cyI, 60, .inl c_firsts)), ((a9 11), .inl (cyI, 60, .inl c_goes)), ((a9 10), .inl (cyI, 60, .inl c_seconds))] H → va_D A [(a9 0, .inr (9, fl9 a9 i9 g9)), ((a9 9), .inl (cyI, 60, .inl c_firsts)), ((a9 11), .inl (cyI, 60, .inl c_goes)), ((a9 10), .inl (cyI, 60, .inl c_seconds))] → va_S A s.heap H locs → lv_has ls 6 [(0, .ref (a9 0)), (1, .int x1), (2, .int x2), (3, .int x3), (4, .int x4), (5, .int x5)] → W p l e rmX9_wonUpTo s m av below meth c H locs 0 0 Q (F0 m 6 ls []) := by
    intro n
    induction n with
    | zero => intro x4 x5 H locs ls hf; exact absurd hf (by simp [fX9_wonUpTo_6])
    | succ n hk6 =>
      intro x4 x5 H locs ls hf hP hD hS hl
      rw [fX9_wonUpTo_6] at hf
      refine lv_iload hx hb dX9_wonUpTo_6 (lv_at hl 5 rfl) ?_
      refine lv_iload_n hx hb dX9_wonUpTo_8 rfl (lv_at hl 3 rfl) ?_
      refine lv_icmp_gt (tgt := 43) hx hb dX9_wonUpTo_9 (by decide) (fun c9 => ?_) (fun c9 => ?_)
      · have hf := pif_t c9 hf
        refine lv_iload hx hb dX9_wonUpTo_43 (lv_at hl 4 rfl) ?_
        exact ret_i (q := q) (g := fun q => q) (wp := fun q => [(a9 0, .inr (9, fl9 a9 i9 g9)), ((a9 9), .inl (cyI, 60, .inl c_firsts)), ((a9 11), .inl (cyI, 60, .inl c_goes)), ((a9 10), .inl (cyI, 60, .inl c_seconds))]) hQ hf hx hb hr hlocks hP hD hS dX9_wonUpTo_45 rfl
      · have hf := pif_f c9 hf
        refine lv_iload hx hb dX9_wonUpTo_12 (lv_at hl 4 rfl) ?_
        refine lv_aload_n hx hb dX9_wonUpTo_14 rfl (lv_at hl 0 rfl) ?_
        refine lv_iload_n hx hb dX9_wonUpTo_15 rfl (lv_at hl 1 rfl) ?_
        obtain ⟨q16, e16, hf⟩ := pb_some hf
        refine cc_i (wc := []) (wr := [(a9 0, .inr (9, fl9 a9 i9 g9)), ((a9 9), .inl (cyI, 60, .inl c_firsts)), ((a9 11), .inl (cyI, 60, .inl c_goes)), ((a9 10), .inl (cyI, 60, .inl c_seconds))]) (w1 := []) (wn := [(a9 0, .inr (9, fl9 a9 i9 g9)), ((a9 9), .inl (cyI, 60, .inl c_firsts)), ((a9 11), .inl (cyI, 60, .inl c_goes)), ((a9 10), .inl (cyI, 60, .inl c_seconds))]) hP hD hS hA [] [0, 1, 2, 3] [0, 1, 2, 3] rfl rfl rfl (by decide) rfl rfl (va_runS (As := [.int x1]) (rest := [.ref (a9 0), .int x4]) ⟨hx, hb, hml, hown, hL⟩ (mX9_from l D cyI cyJ cyB cyS N H.size   x1 q16 e16) (va_cwS 1 hL (gS (hR23 21 rfl) (hR23 22 rfl) (hR1 5 rfl) (hR23 23 rfl)) rfl rfl rfl (by decide +kernel) ⟨Nat.le_of_ble_eq_true rfl, Nat.le_of_ble_eq_true rfl⟩) (PP_preS hP hD hK [] rfl rfl) rfl rfl hl.1 rfl (lv_room (Nat.le_of_ble_eq_true rfl)) dX9_wonUpTo_16 ⟨Nat.le_of_ble_eq_true rfl, Nat.le_of_ble_eq_true rfl⟩) (fun H locs hP hD hS => ?_)
        refine lv_iload hx hb dX9_wonUpTo_19 (lv_at hl 5 rfl) ?_
        refine lv_iadd hx hb dX9_wonUpTo_21 ?_
        obtain ⟨q22, e22, hf⟩ := pb_some hf
        refine cc_i (wc := [(a9 0, .inr (9, fl9 a9 i9 g9)), ((a9 9), .inl (cyI, 60, .inl c_firsts)), ((a9 11), .inl (cyI, 60, .inl c_goes)), ((a9 10), .inl (cyI, 60, .inl c_seconds))]) (wr := []) (w1 := [(a9 0, .inr (9, fl9 a9 i9 g9)), ((a9 9), .inl (cyI, 60, .inl c_firsts)), ((a9 11), .inl (cyI, 60, .inl c_goes)), ((a9 10), .inl (cyI, 60, .inl c_seconds))]) (wn := [(a9 0, .inr (9, fl9 a9 i9 g9)), ((a9 9), .inl (cyI, 60, .inl c_firsts)), ((a9 11), .inl (cyI, 60, .inl c_goes)), ((a9 10), .inl (cyI, 60, .inl c_seconds))]) hP hD hS hA [0, 1, 2, 3] [] [0, 1, 2, 3] rfl rfl rfl (by decide) rfl rfl (va_runV (C := RX9) (As := [.int (q16 + x5)]) (rest := [.int x4]) ⟨hx, hb, hml, hown, hL⟩ (mX9_winner l D cyI cyJ cyB cyS N H.size a9 i9 g9 c_firsts c_goes c_seconds (q16 + x5) q22 e22) (cwV 1 hL (gV (hR24 0 rfl) (hR24 1 rfl) (hR24 2 rfl) (hR1 5 rfl) (hR24 3 rfl)) rfl rfl rfl (by decide +kernel) ⟨Nat.le_of_ble_eq_true rfl, Nat.le_of_ble_eq_true rfl⟩) (PP_preV (ci := 9) (q0 := 0) hP hD hK [0, 1, 2, 3] rfl rfl rfl rfl) rfl rfl hl.1 rfl (lv_room (Nat.le_of_ble_eq_true rfl)) dX9_wonUpTo_22 ⟨Nat.le_of_ble_eq_true rfl, Nat.le_of_ble_eq_true rfl⟩) (fun H locs hP hD hS => ?_)
        refine lv_iload_n hx hb dX9_wonUpTo_25 rfl (lv_at hl 2 rfl) ?_
        refine lv_icmp_ne (tgt := 33) hx hb dX9_wonUpTo_26 (by decide) (fun c26 => ?_) (fun c26 => ?_)
        · have hf := pif_f c26 hf
          refine lv_iconst (v := 0) hx hb dX9_wonUpTo_33 (by decide) ?_
          exact hB34 (fX9_wonUpTo_6 N c_firsts c_goes c_seconds x1 x2 x3 n) hk6 x5 x4 0 H locs ls hf hP hD hS (lv_sub hl [0, 1, 2, 3, 5] rfl)
        · have hf := pif_t c26 hf
          refine lv_iconst (v := 1) hx hb dX9_wonUpTo_29 (by decide) ?_
          refine lv_goto (tgt := 34) hx hb dX9_wonUpTo_30 (by decide) ?_
          exact hB34 (fX9_wonUpTo_6 N c_firsts c_goes c_seconds x1 x2 x3 n) hk6 x5 x4 1 H locs ls hf hP hD hS (lv_sub hl [0, 1, 2, 3, 5] rfl)
  unfold fX9_wonUpTo at hf
  obtain ⟨H, hH⟩ : ∃ H : Heap, H = s.heap := ⟨_, rfl⟩
  obtain ⟨locs, hlo⟩ : ∃ locs : List Loc, locs = [] := ⟨_, rfl⟩
  have hP : va_P D vwCl [(a9 0, .inr (9, fl9 a9 i9 g9)), ((a9 9), .inl (cyI, 60, .inl c_firsts)), ((a9 11), .inl (cyI, 60, .inl c_goes)), ((a9 10), .inl (cyI, 60, .inl c_seconds))] H := by rw [hH]; exact hP
  have hS : va_S A s.heap H locs := by rw [hH, hlo]; exact hS
  suffices hw : W p l e rmX9_wonUpTo s m av below meth c H locs 0 0 Q (F0 m 0 ls []) by rw [hH, hlo] at hw; exact hw
  refine lv_iconst (v := 0) hx hb dX9_wonUpTo_0 (by decide) ?_
  refine lv_istore (lv' := [(4, .int 0), (0, .ref (a9 0)), (1, .int x1), (2, .int x2), (3, .int x3)]) hx hb dX9_wonUpTo_1 hl (by decide) rfl (fun ls hl => ?_)
  refine lv_iconst (v := 0) hx hb dX9_wonUpTo_3 (by decide) ?_
  refine lv_istore (lv' := [(5, .int 0), (4, .int 0), (0, .ref (a9 0)), (1, .int x1), (2, .int x2), (3, .int x3)]) hx hb dX9_wonUpTo_4 hl (by decide) rfl (fun ls hl => ?_)
  exact hB6 N 0 0 H locs ls hf hP hD hS (lv_sub hl [2, 3, 4, 5, 1, 0] rfl)
