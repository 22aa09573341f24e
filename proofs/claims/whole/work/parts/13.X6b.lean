def fX6_expectedIf_42 (N : Nat) (v_depth : Int32) (c_leaf : Nat → Int64) (c_ofFirst : Nat → Int32) (c_open : Nat → Int32) (c_trial_first : Nat → Int32) (x1 : Int32) (x2 : Int32) (x3 : Int32) (s1 : Int32) (s2 : Int32) (s3 : Int32) (c_column : Nat → Int64) : Option (Int64 × (Nat → Int64)) := pb (fX6_fold N v_depth c_column c_leaf c_ofFirst c_open s1 s2 s3) (fun q42 => some (q42.1, q42.2))
def fX6_expectedIf_27 (N : Nat) (v_depth : Int32) (c_leaf : Nat → Int64) (c_ofFirst : Nat → Int32) (c_open : Nat → Int32) (c_trial_first : Nat → Int32) (x1 : Int32) (x2 : Int32) (x3 : Int32) (s0 : Int32) (c_column : Nat → Int64) : Option (Int64 × (Nat → Int64)) := pif (s0 = 0) (fX6_expectedIf_42 N v_depth c_leaf c_ofFirst c_open c_trial_first x1 x2 x3 x1 x2 1 c_column) (fX6_expectedIf_42 N v_depth c_leaf c_ofFirst c_open c_trial_first x1 x2 x3 x1 x2 0 c_column)
def fX6_expectedIf_18 (N : Nat) (v_depth : Int32) (c_leaf : Nat → Int64) (c_ofFirst : Nat → Int32) (c_open : Nat → Int32) (c_trial_first : Nat → Int32) (x1 : Int32) (x2 : Int32) (x3 : Int32) (s0 : Int32) (c_column : Nat → Int64) : Option (Int64 × (Nat → Int64)) := pif (s0 = x3) (fX6_expectedIf_27 N v_depth c_leaf c_ofFirst c_open c_trial_first x1 x2 x3 1 c_column) (fX6_expectedIf_27 N v_depth c_leaf c_ofFirst c_open c_trial_first x1 x2 x3 0 c_column)
def fX6_expectedIf (N : Nat) (v_depth : Int32) (c_column : Nat → Int64) (c_leaf : Nat → Int64) (c_ofFirst : Nat → Int32) (c_open : Nat → Int32) (c_trial_first : Nat → Int32) (x1 : Int32) (x2 : Int32) (x3 : Int32) : Option (Int64 × (Nat → Int64)) := pg (inr x2 30) (pif ((c_trial_first x2.toNatClampNeg) = x1) (fX6_expectedIf_18 N v_depth c_leaf c_ofFirst c_open c_trial_first x1 x2 x3 1 c_column) (fX6_expectedIf_18 N v_depth c_leaf c_ofFirst c_open c_trial_first x1 x2 x3 0 c_column))
def wdX6_expectedIf (cyI cyJ cyB cyS : ClassId) (h0 : Nat) (a_column : Nat) (a_leaf : Nat) (a_ofFirst : Nat) (a_open : Nat) (a_trial : Nat) (a_trial_first : Nat) (a_value : Nat) (a_ofPair : Nat) (a_standing : Nat) (a_rules : Nat) (a_trial_second : Nat) (a_trial_ending : Nat) (v_depth : Int32) (v_pair : Int32) (v_settled : Int32) (v_unwanted : Int32) (v_firstPaying : Int32) (c_column : Nat → Int64) (c_leaf : Nat → Int64) (c_ofFirst : Nat → Int32) (c_open : Nat → Int32) (v_trial_size : Int32) (c_trial_first : Nat → Int32) : va_W := [(h0, .inr (6, [.ref a_leaf, .ref a_column, .ref a_value, .ref a_open, .ref a_ofFirst, .ref a_ofPair, .ref a_trial, .ref a_standing, .ref a_rules, .int v_depth, .int v_pair, .int v_settled, .int v_unwanted, .int v_firstPaying])), (a_column, .inl (cyJ, 128, .inr (.inl c_column))), (a_leaf, .inl (cyJ, 768, .inr (.inl c_leaf))), (a_ofFirst, .inl (cyI, 7, .inl c_ofFirst)), (a_open, .inl (cyI, 7, .inl c_open)), (a_trial, .inr (0, [.ref a_trial_first, .ref a_trial_second, .ref a_trial_ending, .int v_trial_size])), (a_trial_first, .inl (cyI, 30, .inl c_trial_first))]
abbrev rmX6_expectedIf : Room := { frames := 2, cells := 0, slots := 0, locals := 50 }
set_option maxHeartbeats 40000000 in
set_option maxRecDepth 100000 in
theorem mX6_expectedIf (l : Launch) (D : va_G) (cyI cyJ cyB cyS : ClassId) (N : Nat) (sz : Nat) (h0 : Nat) (a_column : Nat) (a_leaf : Nat) (a_ofFirst : Nat) (a_open : Nat) (a_trial : Nat) (a_trial_first : Nat) (a_value : Nat) (a_ofPair : Nat) (a_standing : Nat) (a_rules : Nat) (a_trial_second : Nat) (a_trial_ending : Nat) (v_depth : Int32) (v_pair : Int32) (v_settled : Int32) (v_unwanted : Int32) (v_firstPaying : Int32) (c_column : Nat → Int64) (c_leaf : Nat → Int64) (c_ofFirst : Nat → Int32) (c_open : Nat → Int32) (v_trial_size : Int32) (c_trial_first : Nat → Int32) (x1 : Int32) (x2 : Int32) (x3 : Int32) (q : Int64 × (Nat → Int64)) (hf : fX6_expectedIf N v_depth c_column c_leaf c_ofFirst c_open c_trial_first x1 x2 x3 = some q) : Met l yX6_expectedIf (wS yX6_expectedIf cX6_expectedIf 5 (some .long)) rmX6_expectedIf (va_Pc [.ref h0, .int x1, .int x2, .int x3] (PP D cyI cyJ cyB cyS (wdX6_expectedIf cyI cyJ cyB cyS h0 a_column a_leaf a_ofFirst a_open a_trial a_trial_first a_value a_ofPair a_standing a_rules a_trial_second a_trial_ending v_depth v_pair v_settled v_unwanted v_firstPaying c_column c_leaf c_ofFirst c_open v_trial_size c_trial_first) sz)) (QL q.1 D (wdX6_expectedIf cyI cyJ cyB cyS h0 a_column a_leaf a_ofFirst a_open a_trial a_trial_first a_value a_ofPair a_standing a_rules a_trial_second a_trial_ending v_depth v_pair v_settled v_unwanted v_firstPaying q.2 c_leaf c_ofFirst c_open v_trial_size c_trial_first) (va_A (wdX6_expectedIf cyI cyJ cyB cyS h0 a_column a_leaf a_ofFirst a_open a_trial a_trial_first a_value a_ofPair a_standing a_rules a_trial_second a_trial_ending v_depth v_pair v_settled v_unwanted v_firstPaying c_column c_leaf c_ofFirst c_open v_trial_size c_trial_first) sz)) 0 0 (va_A (wdX6_expectedIf cyI cyJ cyB cyS h0 a_column a_leaf a_ofFirst a_open a_trial a_trial_first a_value a_ofPair a_standing a_rules a_trial_second a_trial_ending v_depth v_pair v_settled v_unwanted v_firstPaying c_column c_leaf c_ofFirst c_open v_trial_size c_trial_first) sz) := by
  refine Met.ofW (cc := cX6_expectedIf) (maxL := 5) (ret := (some .long)) (by decide) rfl ?_
  intro p e s m args below meth c s₁ B hml hv
  obtain ⟨rfl, hsz, hP, hK, hD0⟩ := hv
  have hx := B.exec
  have hb := B.bytes
  have hr := B.returns
  have hts := atoms_spec (ws := (wS yX6_expectedIf cX6_expectedIf 5 (some .long))) B.pre
  have hown : s.vm.findClass RX6 = some m.cls := findClass_of_methodNamed B.named
  have hlocks := B.notSynchronized
  subst hsz
  have hD := hD0.self (sz := s.heap.size)
  refine w_nameQ (fun Q hQ => ?_)
  have hl := lv_entry ([.ref h0, .int x1, .int x2, .int x3] : List Value) (n := 5) (Nat.le_of_ble_eq_true rfl)
  rw [lg_entry_eq]
  generalize (lg_sl ([.ref h0, .int x1, .int x2, .int x3] : List Value) ++ List.replicate (5 - (lg_sl ([.ref h0, .int x1, .int x2, .int x3] : List Value)).length) Slot.unset).toArray = ls at hl ⊢
  have hl : lv_has ls 5 [(0, .ref h0), (1, .int x1), (2, .int x2), (3, .int x3)] := hl
  generalize hAe : va_A (wdX6_expectedIf cyI cyJ cyB cyS h0 a_column a_leaf a_ofFirst a_open a_trial a_trial_first a_value a_ofPair a_standing a_rules a_trial_second a_trial_ending v_depth v_pair v_settled v_unwanted v_firstPaying c_column c_leaf c_ofFirst c_open v_trial_size c_trial_first) s.heap.size = A at hD hQ
  have hA : ∀ q : Nat, s.heap.size ≤ q → A q := fun q h => by rw [← hAe]; exact Or.inr h
  have hS : va_S A s.heap s.heap [] := va_S.rf
  generalize ([.ref h0, .int x1, .int x2, .int x3] : List Value).toArray = av at hts hQ ⊢
  have hL : ∀ w ∈ wsL_law, w.before av s = true := fun w h => hts w (List.mem_cons_of_mem _ h)
  have w0 := hL (.fieldLink RX6 34 "LosingLeague$Tree" "trial" "LLosingLeague$Games;") (hR4 23 rfl)
  have w1 := hL (.fieldLink RX6 72 "LosingLeague$Games" "first" "[I") (hR25 1 rfl)
  have hB42 : ∀ (s1 : Int32) (s2 : Int32) (s3 : Int32) (c_column : Nat → Int64) (H : Heap) (locs : List Loc) (ls : Array Slot), fX6_expectedIf_42 N v_depth c_leaf c_ofFirst c_open c_trial_first x1 x2 x3 s1 s2 s3 c_column = some q → va_P D vwCl (wdX6_expectedIf cyI cyJ cyB cyS h0 a_column a_leaf a_ofFirst a_open a_trial a_trial_first a_value a_ofPair a_standing a_rules a_trial_second a_trial_ending v_depth v_pair v_settled v_unwanted v_firstPaying c_column c_leaf c_ofFirst c_open v_trial_size c_trial_first) H → va_D A (wdX6_expectedIf cyI cyJ cyB cyS h0 a_column a_leaf a_ofFirst a_open a_trial a_trial_first a_value a_ofPair a_standing a_rules a_trial_second a_trial_ending v_depth v_pair v_settled v_unwanted v_firstPaying c_column c_leaf c_ofFirst c_open v_trial_size c_trial_first) → va_S A s.heap H locs → lv_has ls 5 [] → W p l e rmX6_expectedIf s m av below meth c H locs 0 0 Q (F0 m 42 ls [.int s3, .int s2, .int s1, .ref h0]) := by
    intro s1 s2 s3 c_column H locs ls hf hP hD hS hl
    unfold fX6_expectedIf_42 at hf
    obtain ⟨q42, e42, hf⟩ := pb_some hf
    refine cs_l (wc := (wdX6_fold cyI cyJ cyB cyS h0 a_column a_leaf a_ofFirst a_open a_value a_ofPair a_trial a_standing a_rules v_depth v_pair v_settled v_unwanted v_firstPaying c_column c_leaf c_ofFirst c_open)) (w1 := (wdX6_fold cyI cyJ cyB cyS h0 a_column a_leaf a_ofFirst a_open a_value a_ofPair a_trial a_standing a_rules v_depth v_pair v_settled v_unwanted v_firstPaying q42.2 c_leaf c_ofFirst c_open)) hP hD hS hA [0, 1, 2, 3, 4] rfl rfl rfl (va_runV (C := RX6) (As := [.int s1, .int s2, .int s3]) (rest := []) ⟨hx, hb, hml, hown, hL⟩ (mX6_fold l D cyI cyJ cyB cyS N H.size h0 a_column a_leaf a_ofFirst a_open a_value a_ofPair a_trial a_standing a_rules v_depth v_pair v_settled v_unwanted v_firstPaying c_column c_leaf c_ofFirst c_open s1 s2 s3 q42 e42) (cwV 3 hL (gV (hR31 18 rfl) (hR31 19 rfl) (hR31 20 rfl) (hR2 7 rfl) (hR31 21 rfl)) rfl rfl rfl (by decide +kernel) ⟨Nat.le_of_ble_eq_true rfl, Nat.le_of_ble_eq_true rfl⟩) (PP_preV (ci := 6) (q0 := 0) hP hD hK [0, 1, 2, 3, 4] rfl rfl rfl rfl) rfl rfl hl.1 rfl (lv_room (Nat.le_of_ble_eq_true rfl)) dX6_expectedIf_42 ⟨Nat.le_of_ble_eq_true rfl, Nat.le_of_ble_eq_true rfl⟩) (fun H locs hP hD hS => ?_)
    have hP : va_P D vwCl (wdX6_expectedIf cyI cyJ cyB cyS h0 a_column a_leaf a_ofFirst a_open a_trial a_trial_first a_value a_ofPair a_standing a_rules a_trial_second a_trial_ending v_depth v_pair v_settled v_unwanted v_firstPaying q42.2 c_leaf c_ofFirst c_open v_trial_size c_trial_first) H := hP
    have hD : va_D A (wdX6_expectedIf cyI cyJ cyB cyS h0 a_column a_leaf a_ofFirst a_open a_trial a_trial_first a_value a_ofPair a_standing a_rules a_trial_second a_trial_ending v_depth v_pair v_settled v_unwanted v_firstPaying q42.2 c_leaf c_ofFirst c_open v_trial_size c_trial_first) := hD
    exact ret_l (q := q) (g := fun q => q.1) (wp := fun q => (wdX6_expectedIf cyI cyJ cyB cyS h0 a_column a_leaf a_ofFirst a_open a_trial a_trial_first a_value a_ofPair a_standing a_rules a_trial_second a_trial_ending v_depth v_pair v_settled v_unwanted v_firstPaying q.2 c_leaf c_ofFirst c_open v_trial_size c_trial_first)) hQ hf hx hb hr hlocks hP hD hS dX6_expectedIf_45 rfl
  have hB27 : ∀ (s0 : Int32) (c_column : Nat → Int64) (H : Heap) (locs : List Loc) (ls : Array Slot), fX6_expectedIf_27 N v_depth c_leaf c_ofFirst c_open c_trial_first x1 x2 x3 s0 c_column = some q → va_P D vwCl (wdX6_expectedIf cyI cyJ cyB cyS h0 a_column a_leaf a_ofFirst a_open a_trial a_trial_first a_value a_ofPair a_standing a_rules a_trial_second a_trial_ending v_depth v_pair v_settled v_unwanted v_firstPaying c_column c_leaf c_ofFirst c_open v_trial_size c_trial_first) H → va_D A (wdX6_expectedIf cyI cyJ cyB cyS h0 a_column a_leaf a_ofFirst a_open a_trial a_trial_first a_value a_ofPair a_standing a_rules a_trial_second a_trial_ending v_depth v_pair v_settled v_unwanted v_firstPaying c_column c_leaf c_ofFirst c_open v_trial_size c_trial_first) → va_S A s.heap H locs → lv_has ls 5 [(0, .ref h0), (1, .int x1), (2, .int x2)] → W p l e rmX6_expectedIf s m av below meth c H locs 0 0 Q (F0 m 27 ls [.int s0]) := by
    intro s0 c_column H locs ls hf hP hD hS hl
    unfold fX6_expectedIf_27 at hf
    refine lv_istore (lv' := [(4, .int s0), (0, .ref h0), (1, .int x1), (2, .int x2)]) hx hb dX6_expectedIf_27 hl (by decide) rfl (fun ls hl => ?_)
    refine lv_aload_n hx hb dX6_expectedIf_29 rfl (lv_at hl 1 rfl) ?_
    refine lv_iload_n hx hb dX6_expectedIf_30 rfl (lv_at hl 2 rfl) ?_
    refine lv_iload_n hx hb dX6_expectedIf_31 rfl (lv_at hl 3 rfl) ?_
    refine lv_iload hx hb dX6_expectedIf_32 (lv_at hl 0 rfl) ?_
    refine lv_if_eq (tgt := 41) hx hb dX6_expectedIf_34 (by decide) (fun c34 => ?_) (fun c34 => ?_)
    · have hf := pif_t c34 hf
      refine lv_iconst (v := 1) hx hb dX6_expectedIf_41 (by decide) ?_
      exact hB42 x1 x2 1 c_column H locs ls hf hP hD hS (lv_sub hl [] rfl)
    · have hf := pif_f c34 hf
      refine lv_iconst (v := 0) hx hb dX6_expectedIf_37 (by decide) ?_
      refine lv_goto (tgt := 42) hx hb dX6_expectedIf_38 (by decide) ?_
      exact hB42 x1 x2 0 c_column H locs ls hf hP hD hS (lv_sub hl [] rfl)
  have hB18 : ∀ (s0 : Int32) (c_column : Nat → Int64) (H : Heap) (locs : List Loc) (ls : Array Slot), fX6_expectedIf_18 N v_depth c_leaf c_ofFirst c_open c_trial_first x1 x2 x3 s0 c_column = some q → va_P D vwCl (wdX6_expectedIf cyI cyJ cyB cyS h0 a_column a_leaf a_ofFirst a_open a_trial a_trial_first a_value a_ofPair a_standing a_rules a_trial_second a_trial_ending v_depth v_pair v_settled v_unwanted v_firstPaying c_column c_leaf c_ofFirst c_open v_trial_size c_trial_first) H → va_D A (wdX6_expectedIf cyI cyJ cyB cyS h0 a_column a_leaf a_ofFirst a_open a_trial a_trial_first a_value a_ofPair a_standing a_rules a_trial_second a_trial_ending v_depth v_pair v_settled v_unwanted v_firstPaying c_column c_leaf c_ofFirst c_open v_trial_size c_trial_first) → va_S A s.heap H locs → lv_has ls 5 [(0, .ref h0), (1, .int x1), (2, .int x2), (3, .int x3)] → W p l e rmX6_expectedIf s m av below meth c H locs 0 0 Q (F0 m 18 ls [.int s0]) := by
    intro s0 c_column H locs ls hf hP hD hS hl
    unfold fX6_expectedIf_18 at hf
    refine lv_iload_n hx hb dX6_expectedIf_18 rfl (lv_at hl 3 rfl) ?_
    refine lv_icmp_ne (tgt := 26) hx hb dX6_expectedIf_19 (by decide) (fun c19 => ?_) (fun c19 => ?_)
    · have hf := pif_f c19 hf
      refine lv_iconst (v := 0) hx hb dX6_expectedIf_26 (by decide) ?_
      exact hB27 0 c_column H locs ls hf hP hD hS (lv_sub hl [0, 1, 2] rfl)
    · have hf := pif_t c19 hf
      refine lv_iconst (v := 1) hx hb dX6_expectedIf_22 (by decide) ?_
      refine lv_goto (tgt := 27) hx hb dX6_expectedIf_23 (by decide) ?_
      exact hB27 1 c_column H locs ls hf hP hD hS (lv_sub hl [0, 1, 2] rfl)
  unfold fX6_expectedIf at hf
  obtain ⟨H, hH⟩ : ∃ H : Heap, H = s.heap := ⟨_, rfl⟩
  obtain ⟨locs, hlo⟩ : ∃ locs : List Loc, locs = [] := ⟨_, rfl⟩
  have hP : va_P D vwCl (wdX6_expectedIf cyI cyJ cyB cyS h0 a_column a_leaf a_ofFirst a_open a_trial a_trial_first a_value a_ofPair a_standing a_rules a_trial_second a_trial_ending v_depth v_pair v_settled v_unwanted v_firstPaying c_column c_leaf c_ofFirst c_open v_trial_size c_trial_first) H := by rw [hH]; exact hP
  have hS : va_S A s.heap H locs := by rw [hH, hlo]; exact hS
  suffices hw : W p l e rmX6_expectedIf s m av below meth c H locs 0 0 Q (F0 m 0 ls []) by rw [hH, hlo] at hw; exact hw
  refine lv_aload_n hx hb dX6_expectedIf_0 rfl (lv_at hl 0 rfl) ?_
  refine va_get (D := D) (ci := 6) (v := .ref a_trial) (C := RX6) (T := TX6) (N := 14) hx hb hL inlX6 hown hK.1 hP 0 rfl rfl 6 (by decide) w0 (fun _ h9 => h9) rfl dX6_expectedIf_1 ?_
  refine va_get (D := D) (ci := 0) (v := .ref a_trial_first) (C := RX0) (T := TX0) (N := 4) hx hb hL inlX0 hown hK.1 hP 5 rfl rfl 0 (by decide) w1 (fun _ h9 => h9) rfl dX6_expectedIf_4 ?_
  refine lv_iload_n hx hb dX6_expectedIf_7 rfl (lv_at hl 2 rfl) ?_
  obtain ⟨h8, hf⟩ := pg_some hf
  refine va_iald hx hb hK.1 hP 6 0 rfl rfl h8 dX6_expectedIf_8 ?_
  refine lv_iload_n hx hb dX6_expectedIf_9 rfl (lv_at hl 1 rfl) ?_
  refine lv_icmp_ne (tgt := 17) hx hb dX6_expectedIf_10 (by decide) (fun c10 => ?_) (fun c10 => ?_)
  · have hf := pif_f c10 hf
    refine lv_iconst (v := 0) hx hb dX6_expectedIf_17 (by decide) ?_
    exact hB18 0 c_column H locs ls hf hP hD hS (lv_sub hl [0, 1, 2, 3] rfl)
  · have hf := pif_t c10 hf
    refine lv_iconst (v := 1) hx hb dX6_expectedIf_13 (by decide) ?_
    refine lv_goto (tgt := 18) hx hb dX6_expectedIf_14 (by decide) ?_
    exact hB18 1 c_column H locs ls hf hP hD hS (lv_sub hl [0, 1, 2, 3] rfl)
def fX6_wantsToLose_23 (N : Nat) (v_depth : Int32) (c_leaf : Nat → Int64) (c_ofFirst : Nat → Int32) (c_open : Nat → Int32) (c_trial_first : Nat → Int32) (x1 : Int32) (x2 : Int32) (s0 : Int32) (c_column : Nat → Int64) : Option (Int32 × (Nat → Int64)) := pg (isB s0) (some (s0, c_column))
def fX6_wantsToLose (N : Nat) (v_depth : Int32) (c_column : Nat → Int64) (c_leaf : Nat → Int64) (c_ofFirst : Nat → Int32) (c_open : Nat → Int32) (c_trial_first : Nat → Int32) (x1 : Int32) (x2 : Int32) : Option (Int32 × (Nat → Int64)) := pb (fX6_expectedIf N v_depth c_column c_leaf c_ofFirst c_open c_trial_first x1 x2 0) (fun q4 => pb (fX6_expectedIf N v_depth q4.2 c_leaf c_ofFirst c_open c_trial_first x1 x2 1) (fun q11 => pif ((lg_cmp q4.1 q11.1) ≤ 0) (fX6_wantsToLose_23 N v_depth c_leaf c_ofFirst c_open c_trial_first x1 x2 0 q11.2) (fX6_wantsToLose_23 N v_depth c_leaf c_ofFirst c_open c_trial_first x1 x2 1 q11.2)))
def wdX6_wantsToLose (cyI cyJ cyB cyS : ClassId) (h0 : Nat) (a_column : Nat) (a_leaf : Nat) (a_ofFirst : Nat) (a_open : Nat) (a_trial : Nat) (a_trial_first : Nat) (a_value : Nat) (a_ofPair : Nat) (a_standing : Nat) (a_rules : Nat) (a_trial_second : Nat) (a_trial_ending : Nat) (v_depth : Int32) (v_pair : Int32) (v_settled : Int32) (v_unwanted : Int32) (v_firstPaying : Int32) (c_column : Nat → Int64) (c_leaf : Nat → Int64) (c_ofFirst : Nat → Int32) (c_open : Nat → Int32) (v_trial_size : Int32) (c_trial_first : Nat → Int32) : va_W := [(h0, .inr (6, [.ref a_leaf, .ref a_column, .ref a_value, .ref a_open, .ref a_ofFirst, .ref a_ofPair, .ref a_trial, .ref a_standing, .ref a_rules, .int v_depth, .int v_pair, .int v_settled, .int v_unwanted, .int v_firstPaying])), (a_column, .inl (cyJ, 128, .inr (.inl c_column))), (a_leaf, .inl (cyJ, 768, .inr (.inl c_leaf))), (a_ofFirst, .inl (cyI, 7, .inl c_ofFirst)), (a_open, .inl (cyI, 7, .inl c_open)), (a_trial, .inr (0, [.ref a_trial_first, .ref a_trial_second, .ref a_trial_ending, .int v_trial_size])), (a_trial_first, .inl (cyI, 30, .inl c_trial_first))]
abbrev rmX6_wantsToLose : Room := { frames := 3, cells := 0, slots := 0, locals := 74 }
set_option maxHeartbeats 40000000 in
set_option maxRecDepth 100000 in
theorem mX6_wantsToLose (l : Launch) (D : va_G) (cyI cyJ cyB cyS : ClassId) (N : Nat) (sz : Nat) (h0 : Nat) (a_column : Nat) (a_leaf : Nat) (a_ofFirst : Nat) (a_open : Nat) (a_trial : Nat) (a_trial_first : Nat) (a_value : Nat) (a_ofPair : Nat) (a_standing : Nat) (a_rules : Nat) (a_trial_second : Nat) (a_trial_ending : Nat) (v_depth : Int32) (v_pair : Int32) (v_settled : Int32) (v_unwanted : Int32) (v_firstPaying : Int32) (c_column : Nat → Int64) (c_leaf : Nat → Int64) (c_ofFirst : Nat → Int32) (c_open : Nat → Int32) (v_trial_size : Int32) (c_trial_first : Nat → Int32) (x1 : Int32) (x2 : Int32) (q : Int32 × (Nat → Int64)) (hf : fX6_wantsToLose N v_depth c_column c_leaf c_ofFirst c_open c_trial_first x1 x2 = some q) : Met l yX6_wantsToLose (wS yX6_wantsToLose cX6_wantsToLose 3 (some .boolean)) rmX6_wantsToLose (va_Pc [.ref h0, .int x1, .int x2] (PP D cyI cyJ cyB cyS (wdX6_wantsToLose cyI cyJ cyB cyS h0 a_column a_leaf a_ofFirst a_open a_trial a_trial_first a_value a_ofPair a_standing a_rules a_trial_second a_trial_ending v_depth v_pair v_settled v_unwanted v_firstPaying c_column c_leaf c_ofFirst c_open v_trial_size c_trial_first) sz)) (QI q.1 D (wdX6_wantsToLose cyI cyJ cyB cyS h0 a_column a_leaf a_ofFirst a_open a_trial a_trial_first a_value a_ofPair a_standing a_rules a_trial_second a_trial_ending v_depth v_pair v_settled v_unwanted v_firstPaying q.2 c_leaf c_ofFirst c_open v_trial_size c_trial_first) (va_A (wdX6_wantsToLose cyI cyJ cyB cyS h0 a_column a_leaf a_ofFirst a_open a_trial a_trial_first a_value a_ofPair a_standing a_rules a_trial_second a_trial_ending v_depth v_pair v_settled v_unwanted v_firstPaying c_column c_leaf c_ofFirst c_open v_trial_size c_trial_first) sz)) 0 0 (va_A (wdX6_wantsToLose cyI cyJ cyB cyS h0 a_column a_leaf a_ofFirst a_open a_trial a_trial_first a_value a_ofPair a_standing a_rules a_trial_second a_trial_ending v_depth v_pair v_settled v_unwanted v_firstPaying c_column c_leaf c_ofFirst c_open v_trial_size c_trial_first) sz) := by
  refine Met.ofW (cc := cX6_wantsToLose) (maxL := 3) (ret := (some .boolean)) (by decide) rfl ?_
  intro p e s m args below meth c s₁ B hml hv
  obtain ⟨rfl, hsz, hP, hK, hD0⟩ := hv
  have hx := B.exec
  have hb := B.bytes
  have hr := B.returns
  have hts := atoms_spec (ws := (wS yX6_wantsToLose cX6_wantsToLose 3 (some .boolean))) B.pre
  have hown : s.vm.findClass RX6 = some m.cls := findClass_of_methodNamed B.named
  have hlocks := B.notSynchronized
  subst hsz
  have hD := hD0.self (sz := s.heap.size)
  refine w_nameQ (fun Q hQ => ?_)
  have hl := lv_entry ([.ref h0, .int x1, .int x2] : List Value) (n := 3) (Nat.le_of_ble_eq_true rfl)
  rw [lg_entry_eq]
  generalize (lg_sl ([.ref h0, .int x1, .int x2] : List Value) ++ List.replicate (3 - (lg_sl ([.ref h0, .int x1, .int x2] : List Value)).length) Slot.unset).toArray = ls at hl ⊢
  have hl : lv_has ls 3 [(0, .ref h0), (1, .int x1), (2, .int x2)] := hl
  generalize hAe : va_A (wdX6_wantsToLose cyI cyJ cyB cyS h0 a_column a_leaf a_ofFirst a_open a_trial a_trial_first a_value a_ofPair a_standing a_rules a_trial_second a_trial_ending v_depth v_pair v_settled v_unwanted v_firstPaying c_column c_leaf c_ofFirst c_open v_trial_size c_trial_first) s.heap.size = A at hD hQ
  have hA : ∀ q : Nat, s.heap.size ≤ q → A q := fun q h => by rw [← hAe]; exact Or.inr h
  have hS : va_S A s.heap s.heap [] := va_S.rf
  generalize ([.ref h0, .int x1, .int x2] : List Value).toArray = av at hts hQ ⊢
  have hL : ∀ w ∈ wsL_law, w.before av s = true := fun w h => hts w (List.mem_cons_of_mem _ h)
  have hB23 : ∀ (s0 : Int32) (c_column : Nat → Int64) (H : Heap) (locs : List Loc) (ls : Array Slot), fX6_wantsToLose_23 N v_depth c_leaf c_ofFirst c_open c_trial_first x1 x2 s0 c_column = some q → va_P D vwCl (wdX6_wantsToLose cyI cyJ cyB cyS h0 a_column a_leaf a_ofFirst a_open a_trial a_trial_first a_value a_ofPair a_standing a_rules a_trial_second a_trial_ending v_depth v_pair v_settled v_unwanted v_firstPaying c_column c_leaf c_ofFirst c_open v_trial_size c_trial_first) H → va_D A (wdX6_wantsToLose cyI cyJ cyB cyS h0 a_column a_leaf a_ofFirst a_open a_trial a_trial_first a_value a_ofPair a_standing a_rules a_trial_second a_trial_ending v_depth v_pair v_settled v_unwanted v_firstPaying c_column c_leaf c_ofFirst c_open v_trial_size c_trial_first) → va_S A s.heap H locs → lv_has ls 3 [] → W p l e rmX6_wantsToLose s m av below meth c H locs 0 0 Q (F0 m 23 ls [.int s0]) := by
    intro s0 c_column H locs ls hf hP hD hS hl
    unfold fX6_wantsToLose_23 at hf
    obtain ⟨n23, hf⟩ := pg_some hf
    exact ret_z (q := q) (g := fun q => q.1) (wp := fun q => (wdX6_wantsToLose cyI cyJ cyB cyS h0 a_column a_leaf a_ofFirst a_open a_trial a_trial_first a_value a_ofPair a_standing a_rules a_trial_second a_trial_ending v_depth v_pair v_settled v_unwanted v_firstPaying q.2 c_leaf c_ofFirst c_open v_trial_size c_trial_first)) hQ hf hx hb hr hlocks (isB_n n23) hP hD hS dX6_wantsToLose_23 rfl
  unfold fX6_wantsToLose at hf
  obtain ⟨H, hH⟩ : ∃ H : Heap, H = s.heap := ⟨_, rfl⟩
  obtain ⟨locs, hlo⟩ : ∃ locs : List Loc, locs = [] := ⟨_, rfl⟩
  have hP : va_P D vwCl (wdX6_wantsToLose cyI cyJ cyB cyS h0 a_column a_leaf a_ofFirst a_open a_trial a_trial_first a_value a_ofPair a_standing a_rules a_trial_second a_trial_ending v_depth v_pair v_settled v_unwanted v_firstPaying c_column c_leaf c_ofFirst c_open v_trial_size c_trial_first) H := by rw [hH]; exact hP
  have hS : va_S A s.heap H locs := by rw [hH, hlo]; exact hS
  suffices hw : W p l e rmX6_wantsToLose s m av below meth c H locs 0 0 Q (F0 m 0 ls []) by rw [hH, hlo] at hw; exact hw
  refine lv_aload_n hx hb dX6_wantsToLose_0 rfl (lv_at hl 0 rfl) ?_
  refine lv_iload_n hx hb dX6_wantsToLose_1 rfl (lv_at hl 1 rfl) ?_
  refine lv_iload_n hx hb dX6_wantsToLose_2 rfl (lv_at hl 2 rfl) ?_
  refine lv_iconst (v := 0) hx hb dX6_wantsToLose_3 (by decide) ?_
  obtain ⟨q4, e4, hf⟩ := pb_some hf
  refine cs_l (wc := (wdX6_expectedIf cyI cyJ cyB cyS h0 a_column a_leaf a_ofFirst a_open a_trial a_trial_first a_value a_ofPair a_standing a_rules a_trial_second a_trial_ending v_depth v_pair v_settled v_unwanted v_firstPaying c_column c_leaf c_ofFirst c_open v_trial_size c_trial_first)) (w1 := (wdX6_expectedIf cyI cyJ cyB cyS h0 a_column a_leaf a_ofFirst a_open a_trial a_trial_first a_value a_ofPair a_standing a_rules a_trial_second a_trial_ending v_depth v_pair v_settled v_unwanted v_firstPaying q4.2 c_leaf c_ofFirst c_open v_trial_size c_trial_first)) hP hD hS hA [0, 1, 2, 3, 4, 5, 6] rfl rfl rfl (va_runV (C := RX6) (As := [.int x1, .int x2, .int 0]) (rest := []) ⟨hx, hb, hml, hown, hL⟩ (mX6_expectedIf l D cyI cyJ cyB cyS N H.size h0 a_column a_leaf a_ofFirst a_open a_trial a_trial_first a_value a_ofPair a_standing a_rules a_trial_second a_trial_ending v_depth v_pair v_settled v_unwanted v_firstPaying c_column c_leaf c_ofFirst c_open v_trial_size c_trial_first x1 x2 0 q4 e4) (cwV 3 hL (gV (hR35 19 rfl) (hR34 20 rfl) (hR34 21 rfl) (hR2 7 rfl) (hR34 22 rfl)) rfl rfl rfl (by decide +kernel) ⟨Nat.le_of_ble_eq_true rfl, Nat.le_of_ble_eq_true rfl⟩) (PP_preV (ci := 6) (q0 := 0) hP hD hK [0, 1, 2, 3, 4, 5, 6] rfl rfl rfl rfl) rfl rfl hl.1 rfl (lv_room (Nat.le_of_ble_eq_true rfl)) dX6_wantsToLose_4 ⟨Nat.le_of_ble_eq_true rfl, Nat.le_of_ble_eq_true rfl⟩) (fun H locs hP hD hS => ?_)
  have hP : va_P D vwCl (wdX6_wantsToLose cyI cyJ cyB cyS h0 a_column a_leaf a_ofFirst a_open a_trial a_trial_first a_value a_ofPair a_standing a_rules a_trial_second a_trial_ending v_depth v_pair v_settled v_unwanted v_firstPaying q4.2 c_leaf c_ofFirst c_open v_trial_size c_trial_first) H := hP
  have hD : va_D A (wdX6_wantsToLose cyI cyJ cyB cyS h0 a_column a_leaf a_ofFirst a_open a_trial a_trial_first a_value a_ofPair a_standing a_rules a_trial_second a_trial_ending v_depth v_pair v_settled v_unwanted v_firstPaying q4.2 c_leaf c_ofFirst c_open v_trial_size c_trial_first) := hD
  refine lv_aload_n hx hb dX6_wantsToLose_7 rfl (lv_at hl 0 rfl) ?_
  refine lv_iload_n hx hb dX6_wantsToLose_8 rfl (lv_at hl 1 rfl) ?_
  refine lv_iload_n hx hb dX6_wantsToLose_9 rfl (lv_at hl 2 rfl) ?_
  refine lv_iconst (v := 1) hx hb dX6_wantsToLose_10 (by decide) ?_
  obtain ⟨q11, e11, hf⟩ := pb_some hf
  refine cs_l (wc := (wdX6_expectedIf cyI cyJ cyB cyS h0 a_column a_leaf a_ofFirst a_open a_trial a_trial_first a_value a_ofPair a_standing a_rules a_trial_second a_trial_ending v_depth v_pair v_settled v_unwanted v_firstPaying q4.2 c_leaf c_ofFirst c_open v_trial_size c_trial_first)) (w1 := (wdX6_expectedIf cyI cyJ cyB cyS h0 a_column a_leaf a_ofFirst a_open a_trial a_trial_first a_value a_ofPair a_standing a_rules a_trial_second a_trial_ending v_depth v_pair v_settled v_unwanted v_firstPaying q11.2 c_leaf c_ofFirst c_open v_trial_size c_trial_first)) hP hD hS hA [0, 1, 2, 3, 4, 5, 6] rfl rfl rfl (va_runV (C := RX6) (As := [.int x1, .int x2, .int 1]) (rest := [.long q4.1]) ⟨hx, hb, hml, hown, hL⟩ (mX6_expectedIf l D cyI cyJ cyB cyS N H.size h0 a_column a_leaf a_ofFirst a_open a_trial a_trial_first a_value a_ofPair a_standing a_rules a_trial_second a_trial_ending v_depth v_pair v_settled v_unwanted v_firstPaying q4.2 c_leaf c_ofFirst c_open v_trial_size c_trial_first x1 x2 1 q11 e11) (cwV 3 hL (gV (hR35 19 rfl) (hR34 20 rfl) (hR34 21 rfl) (hR2 7 rfl) (hR34 22 rfl)) rfl rfl rfl (by decide +kernel) ⟨Nat.le_of_ble_eq_true rfl, Nat.le_of_ble_eq_true rfl⟩) (PP_preV (ci := 6) (q0 := 0) hP hD hK [0, 1, 2, 3, 4, 5, 6] rfl rfl rfl rfl) rfl rfl hl.1 rfl (lv_room (Nat.le_of_ble_eq_true rfl)) dX6_wantsToLose_11 ⟨Nat.le_of_ble_eq_true rfl, Nat.le_of_ble_eq_true rfl⟩) (fun H locs hP hD hS => ?_)
  have hP : va_P D vwCl (wdX6_wantsToLose cyI cyJ cyB cyS h0 a_column a_leaf a_ofFirst a_open a_trial a_trial_first a_value a_ofPair a_standing a_rules a_trial_second a_trial_ending v_depth v_pair v_settled v_unwanted v_firstPaying q11.2 c_leaf c_ofFirst c_open v_trial_size c_trial_first) H := hP
  have hD : va_D A (wdX6_wantsToLose cyI cyJ cyB cyS h0 a_column a_leaf a_ofFirst a_open a_trial a_trial_first a_value a_ofPair a_standing a_rules a_trial_second a_trial_ending v_depth v_pair v_settled v_unwanted v_firstPaying q11.2 c_leaf c_ofFirst c_open v_trial_size c_trial_first) := hD
  refine W.lcmp hx hb dX6_wantsToLose_14 ?_
  refine lv_if_le (tgt := 22) hx hb dX6_wantsToLose_15 (by decide) (fun c15 => ?_) (fun c15 => ?_)
  · have hf := pif_t c15 hf
    refine lv_iconst (v := 0) hx hb dX6_wantsToLose_22 (by decide) ?_
    exact hB23 0 q11.2 H locs ls hf hP hD hS (lv_sub hl [] rfl)
  · have hf := pif_f c15 hf
    refine lv_iconst (v := 1) hx hb dX6_wantsToLose_18 (by decide) ?_
    refine lv_goto (tgt := 23) hx hb dX6_wantsToLose_19 (by decide) ?_
    exact hB23 1 q11.2 H locs ls hf hP hD hS (lv_sub hl [] rfl)
def fX6_losers_45 (N : Nat) (v_depth : Int32) (c_leaf : Nat → Int64) (c_ofFirst : Nat → Int32) (c_open : Nat → Int32) (c_trial_first : Nat → Int32) (c_trial_second : Nat → Int32) (x1 : Int32) (x2 : Int32) (s0 : Int32) (c_column : Nat → Int64) : Option (Int32 × (Nat → Int64)) := some (x2 + s0, c_column)
def fX6_losers_22 (N : Nat) (v_depth : Int32) (c_leaf : Nat → Int64) (c_ofFirst : Nat → Int32) (c_open : Nat → Int32) (c_trial_first : Nat → Int32) (c_trial_second : Nat → Int32) (x1 : Int32) (s0 : Int32) (c_column : Nat → Int64) : Option (Int32 × (Nat → Int64)) := pg (inr x1 30) (pb (fX6_wantsToLose N v_depth c_column c_leaf c_ofFirst c_open c_trial_first (c_trial_second x1.toNatClampNeg) x1) (fun q34 => pif (q34.1 = 0) (fX6_losers_45 N v_depth c_leaf c_ofFirst c_open c_trial_first c_trial_second x1 s0 0 q34.2) (fX6_losers_45 N v_depth c_leaf c_ofFirst c_open c_trial_first c_trial_second x1 s0 2 q34.2)))
def fX6_losers (N : Nat) (v_depth : Int32) (c_column : Nat → Int64) (c_leaf : Nat → Int64) (c_ofFirst : Nat → Int32) (c_open : Nat → Int32) (c_trial_first : Nat → Int32) (c_trial_second : Nat → Int32) (x1 : Int32) : Option (Int32 × (Nat → Int64)) := pg (inr x1 30) (pb (fX6_wantsToLose N v_depth c_column c_leaf c_ofFirst c_open c_trial_first (c_trial_first x1.toNatClampNeg) x1) (fun q11 => pif (q11.1 = 0) (fX6_losers_22 N v_depth c_leaf c_ofFirst c_open c_trial_first c_trial_second x1 0 q11.2) (fX6_losers_22 N v_depth c_leaf c_ofFirst c_open c_trial_first c_trial_second x1 1 q11.2)))
def wdX6_losers (cyI cyJ cyB cyS : ClassId) (h0 : Nat) (a_column : Nat) (a_leaf : Nat) (a_ofFirst : Nat) (a_open : Nat) (a_trial : Nat) (a_trial_first : Nat) (a_trial_second : Nat) (a_value : Nat) (a_ofPair : Nat) (a_standing : Nat) (a_rules : Nat) (a_trial_ending : Nat) (v_depth : Int32) (v_pair : Int32) (v_settled : Int32) (v_unwanted : Int32) (v_firstPaying : Int32) (c_column : Nat → Int64) (c_leaf : Nat → Int64) (c_ofFirst : Nat → Int32) (c_open : Nat → Int32) (v_trial_size : Int32) (c_trial_first : Nat → Int32) (c_trial_second : Nat → Int32) : va_W := [(h0, .inr (6, [.ref a_leaf, .ref a_column, .ref a_value, .ref a_open, .ref a_ofFirst, .ref a_ofPair, .ref a_trial, .ref a_standing, .ref a_rules, .int v_depth, .int v_pair, .int v_settled, .int v_unwanted, .int v_firstPaying])), (a_column, .inl (cyJ, 128, .inr (.inl c_column))), (a_leaf, .inl (cyJ, 768, .inr (.inl c_leaf))), (a_ofFirst, .inl (cyI, 7, .inl c_ofFirst)), (a_open, .inl (cyI, 7, .inl c_open)), (a_trial, .inr (0, [.ref a_trial_first, .ref a_trial_second, .ref a_trial_ending, .int v_trial_size])), (a_trial_first, .inl (cyI, 30, .inl c_trial_first)), (a_trial_second, .inl (cyI, 30, .inl c_trial_second))]
abbrev rmX6_losers : Room := { frames := 4, cells := 0, slots := 0, locals := 96 }
set_option maxHeartbeats 40000000 in
set_option maxRecDepth 100000 in
theorem mX6_losers (l : Launch) (D : va_G) (cyI cyJ cyB cyS : ClassId) (N : Nat) (sz : Nat) (h0 : Nat) (a_column : Nat) (a_leaf : Nat) (a_ofFirst : Nat) (a_open : Nat) (a_trial : Nat) (a_trial_first : Nat) (a_trial_second : Nat) (a_value : Nat) (a_ofPair : Nat) (a_standing : Nat) (a_rules : Nat) (a_trial_ending : Nat) (v_depth : Int32) (v_pair : Int32) (v_settled : Int32) (v_unwanted : Int32) (v_firstPaying : Int32) (c_column : Nat → Int64) (c_leaf : Nat → Int64) (c_ofFirst : Nat → Int32) (c_open : Nat → Int32) (v_trial_size : Int32) (c_trial_first : Nat → Int32) (c_trial_second : Nat → Int32) (x1 : Int32) (q : Int32 × (Nat → Int64)) (hf : fX6_losers N v_depth c_column c_leaf c_ofFirst c_open c_trial_first c_trial_second x1 = some q) : Met l yX6_losers (wS yX6_losers cX6_losers 4 (some .int)) rmX6_losers (va_Pc [.ref h0, .int x1] (PP D cyI cyJ cyB cyS (wdX6_losers cyI cyJ cyB cyS h0 a_column a_leaf a_ofFirst a_open a_trial a_trial_first a_trial_second a_value a_ofPair a_standing a_rules a_trial_ending v_depth v_pair v_settled v_unwanted v_firstPaying c_column c_leaf c_ofFirst c_open v_trial_size c_trial_first c_trial_second) sz)) (QI q.1 D (wdX6_losers cyI cyJ cyB cyS h0 a_column a_leaf a_ofFirst a_open a_trial a_trial_first a_trial_second a_value a_ofPair a_standing a_rules a_trial_ending v_depth v_pair v_settled v_unwanted v_firstPaying q.2 c_leaf c_ofFirst c_open v_trial_size c_trial_first c_trial_second) (va_A (wdX6_losers cyI cyJ cyB cyS h0 a_column a_leaf a_ofFirst a_open a_trial a_trial_first a_trial_second a_value a_ofPair a_standing a_rules a_trial_ending v_depth v_pair v_settled v_unwanted v_firstPaying c_column c_leaf c_ofFirst c_open v_trial_size c_trial_first c_trial_second) sz)) 0 0 (va_A (wdX6_losers cyI cyJ cyB cyS h0 a_column a_leaf a_ofFirst a_open a_trial a_trial_first a_trial_second a_value a_ofPair a_standing a_rules a_trial_ending v_depth v_pair v_settled v_unwanted v_firstPaying c_column c_leaf c_ofFirst c_open v_trial_size c_trial_first c_trial_second) sz) := by
  refine Met.ofW (cc := cX6_losers) (maxL := 4) (ret := (some .int)) (by decide) rfl ?_
  intro p e s m args below meth c s₁ B hml hv
  obtain ⟨rfl, hsz, hP, hK, hD0⟩ := hv
  have hx := B.exec
  have hb := B.bytes
  have hr := B.returns
  have hts := atoms_spec (ws := (wS yX6_losers cX6_losers 4 (some .int))) B.pre
  have hown : s.vm.findClass RX6 = some m.cls := findClass_of_methodNamed B.named
  have hlocks := B.notSynchronized
  subst hsz
  have hD := hD0.self (sz := s.heap.size)
  refine w_nameQ (fun Q hQ => ?_)
  have hl := lv_entry ([.ref h0, .int x1] : List Value) (n := 4) (Nat.le_of_ble_eq_true rfl)
  rw [lg_entry_eq]
  generalize (lg_sl ([.ref h0, .int x1] : List Value) ++ List.replicate (4 - (lg_sl ([.ref h0, .int x1] : List Value)).length) Slot.unset).toArray = ls at hl ⊢
  have hl : lv_has ls 4 [(0, .ref h0), (1, .int x1)] := hl
  generalize hAe : va_A (wdX6_losers cyI cyJ cyB cyS h0 a_column a_leaf a_ofFirst a_open a_trial a_trial_first a_trial_second a_value a_ofPair a_standing a_rules a_trial_ending v_depth v_pair v_settled v_unwanted v_firstPaying c_column c_leaf c_ofFirst c_open v_trial_size c_trial_first c_trial_second) s.heap.size = A at hD hQ
  have hA : ∀ q : Nat, s.heap.size ≤ q → A q := fun q h => by rw [← hAe]; exact Or.inr h
  have hS : va_S A s.heap s.heap [] := va_S.rf
  generalize ([.ref h0, .int x1] : List Value).toArray = av at hts hQ ⊢
  have hL : ∀ w ∈ wsL_law, w.before av s = true := fun w h => hts w (List.mem_cons_of_mem _ h)
  have w0 := hL (.fieldLink RX6 34 "LosingLeague$Tree" "trial" "LLosingLeague$Games;") (hR4 23 rfl)
  have w1 := hL (.fieldLink RX6 75 "LosingLeague$Games" "second" "[I") (hR25 2 rfl)
  have w2 := hL (.fieldLink RX6 72 "LosingLeague$Games" "first" "[I") (hR25 1 rfl)
  have hB45 : ∀ (x2 : Int32) (s0 : Int32) (c_column : Nat → Int64) (H : Heap) (locs : List Loc) (ls : Array Slot), fX6_losers_45 N v_depth c_leaf c_ofFirst c_open c_trial_first c_trial_second x1 x2 s0 c_column = some q → va_P D vwCl (wdX6_losers cyI cyJ cyB cyS h0 a_column a_leaf a_ofFirst a_open a_trial a_trial_first a_trial_second a_value a_ofPair a_standing a_rules a_trial_ending v_depth v_pair v_settled v_unwanted v_firstPaying c_column c_leaf c_ofFirst c_open v_trial_size c_trial_first c_trial_second) H → va_D A (wdX6_losers cyI cyJ cyB cyS h0 a_column a_leaf a_ofFirst a_open a_trial a_trial_first a_trial_second a_value a_ofPair a_standing a_rules a_trial_ending v_depth v_pair v_settled v_unwanted v_firstPaying c_column c_leaf c_ofFirst c_open v_trial_size c_trial_first c_trial_second) → va_S A s.heap H locs → lv_has ls 4 [(2, .int x2)] → W p l e rmX6_losers s m av below meth c H locs 0 0 Q (F0 m 45 ls [.int s0]) := by
    intro x2 s0 c_column H locs ls hf hP hD hS hl
    unfold fX6_losers_45 at hf
    refine lv_istore_n (lv' := [(3, .int s0), (2, .int x2)]) hx hb dX6_losers_45 rfl hl (by decide) rfl (fun ls hl => ?_)
    refine lv_iload_n hx hb dX6_losers_46 rfl (lv_at hl 1 rfl) ?_
    refine lv_iload_n hx hb dX6_losers_47 rfl (lv_at hl 0 rfl) ?_
    refine lv_iadd hx hb dX6_losers_48 ?_
    exact ret_i (q := q) (g := fun q => q.1) (wp := fun q => (wdX6_losers cyI cyJ cyB cyS h0 a_column a_leaf a_ofFirst a_open a_trial a_trial_first a_trial_second a_value a_ofPair a_standing a_rules a_trial_ending v_depth v_pair v_settled v_unwanted v_firstPaying q.2 c_leaf c_ofFirst c_open v_trial_size c_trial_first c_trial_second)) hQ hf hx hb hr hlocks hP hD hS dX6_losers_49 rfl
  have hB22 : ∀ (s0 : Int32) (c_column : Nat → Int64) (H : Heap) (locs : List Loc) (ls : Array Slot), fX6_losers_22 N v_depth c_leaf c_ofFirst c_open c_trial_first c_trial_second x1 s0 c_column = some q → va_P D vwCl (wdX6_losers cyI cyJ cyB cyS h0 a_column a_leaf a_ofFirst a_open a_trial a_trial_first a_trial_second a_value a_ofPair a_standing a_rules a_trial_ending v_depth v_pair v_settled v_unwanted v_firstPaying c_column c_leaf c_ofFirst c_open v_trial_size c_trial_first c_trial_second) H → va_D A (wdX6_losers cyI cyJ cyB cyS h0 a_column a_leaf a_ofFirst a_open a_trial a_trial_first a_trial_second a_value a_ofPair a_standing a_rules a_trial_ending v_depth v_pair v_settled v_unwanted v_firstPaying c_column c_leaf c_ofFirst c_open v_trial_size c_trial_first c_trial_second) → va_S A s.heap H locs → lv_has ls 4 [(0, .ref h0), (1, .int x1)] → W p l e rmX6_losers s m av below meth c H locs 0 0 Q (F0 m 22 ls [.int s0]) := by
    intro s0 c_column H locs ls hf hP hD hS hl
    unfold fX6_losers_22 at hf
    refine lv_istore_n (lv' := [(2, .int s0), (0, .ref h0), (1, .int x1)]) hx hb dX6_losers_22 rfl hl (by decide) rfl (fun ls hl => ?_)
    refine lv_aload_n hx hb dX6_losers_23 rfl (lv_at hl 1 rfl) ?_
    refine lv_aload_n hx hb dX6_losers_24 rfl (lv_at hl 1 rfl) ?_
    refine va_get (D := D) (ci := 6) (v := .ref a_trial) (C := RX6) (T := TX6) (N := 14) hx hb hL inlX6 hown hK.1 hP 0 rfl rfl 6 (by decide) w0 (fun _ h9 => h9) rfl dX6_losers_25 ?_
    refine va_get (D := D) (ci := 0) (v := .ref a_trial_second) (C := RX0) (T := TX0) (N := 4) hx hb hL inlX0 hown hK.1 hP 5 rfl rfl 1 (by decide) w1 (fun _ h9 => h9) rfl dX6_losers_28 ?_
    refine lv_iload_n hx hb dX6_losers_31 rfl (lv_at hl 2 rfl) ?_
    obtain ⟨h32, hf⟩ := pg_some hf
    refine va_iald hx hb hK.1 hP 7 0 rfl rfl h32 dX6_losers_32 ?_
    refine lv_iload_n hx hb dX6_losers_33 rfl (lv_at hl 2 rfl) ?_
    obtain ⟨q34, e34, hf⟩ := pb_some hf
    refine cs_i (wc := (wdX6_wantsToLose cyI cyJ cyB cyS h0 a_column a_leaf a_ofFirst a_open a_trial a_trial_first a_value a_ofPair a_standing a_rules a_trial_second a_trial_ending v_depth v_pair v_settled v_unwanted v_firstPaying c_column c_leaf c_ofFirst c_open v_trial_size c_trial_first)) (w1 := (wdX6_wantsToLose cyI cyJ cyB cyS h0 a_column a_leaf a_ofFirst a_open a_trial a_trial_first a_value a_ofPair a_standing a_rules a_trial_second a_trial_ending v_depth v_pair v_settled v_unwanted v_firstPaying q34.2 c_leaf c_ofFirst c_open v_trial_size c_trial_first)) hP hD hS hA [0, 1, 2, 3, 4, 5, 6] rfl rfl rfl (va_runV (C := RX6) (As := [.int (c_trial_second x1.toNatClampNeg), .int x1]) (rest := []) ⟨hx, hb, hml, hown, hL⟩ (mX6_wantsToLose l D cyI cyJ cyB cyS N H.size h0 a_column a_leaf a_ofFirst a_open a_trial a_trial_first a_value a_ofPair a_standing a_rules a_trial_second a_trial_ending v_depth v_pair v_settled v_unwanted v_firstPaying c_column c_leaf c_ofFirst c_open v_trial_size c_trial_first (c_trial_second x1.toNatClampNeg) x1 q34 e34) (cwV 2 hL (gV (hR35 15 rfl) (hR35 16 rfl) (hR35 17 rfl) (hR2 7 rfl) (hR35 18 rfl)) rfl rfl rfl (by decide +kernel) ⟨Nat.le_of_ble_eq_true rfl, Nat.le_of_ble_eq_true rfl⟩) (PP_preV (ci := 6) (q0 := 0) hP hD hK [0, 1, 2, 3, 4, 5, 6] rfl rfl rfl rfl) rfl rfl hl.1 rfl (lv_room (Nat.le_of_ble_eq_true rfl)) dX6_losers_34 ⟨Nat.le_of_ble_eq_true rfl, Nat.le_of_ble_eq_true rfl⟩) (fun H locs hP hD hS => ?_)
    have hP : va_P D vwCl (wdX6_losers cyI cyJ cyB cyS h0 a_column a_leaf a_ofFirst a_open a_trial a_trial_first a_trial_second a_value a_ofPair a_standing a_rules a_trial_ending v_depth v_pair v_settled v_unwanted v_firstPaying q34.2 c_leaf c_ofFirst c_open v_trial_size c_trial_first c_trial_second) H := hP
    have hD : va_D A (wdX6_losers cyI cyJ cyB cyS h0 a_column a_leaf a_ofFirst a_open a_trial a_trial_first a_trial_second a_value a_ofPair a_standing a_rules a_trial_ending v_depth v_pair v_settled v_unwanted v_firstPaying q34.2 c_leaf c_ofFirst c_open v_trial_size c_trial_first c_trial_second) := hD
    refine lv_if_eq (tgt := 44) hx hb dX6_losers_37 (by decide) (fun c37 => ?_) (fun c37 => ?_)
    · have hf := pif_t c37 hf
      refine lv_iconst (v := 0) hx hb dX6_losers_44 (by decide) ?_
      exact hB45 s0 0 q34.2 H locs ls hf hP hD hS (lv_sub hl [0] rfl)
    · have hf := pif_f c37 hf
      refine lv_iconst (v := 2) hx hb dX6_losers_40 (by decide) ?_
      refine lv_goto (tgt := 45) hx hb dX6_losers_41 (by decide) ?_
      exact hB45 s0 2 q34.2 H locs ls hf hP hD hS (lv_sub hl [0] rfl)
  unfold fX6_losers at hf
  obtain ⟨H, hH⟩ : ∃ H : Heap, H = s.heap := ⟨_, rfl⟩
  obtain ⟨locs, hlo⟩ : ∃ locs : List Loc, locs = [] := ⟨_, rfl⟩
  have hP : va_P D vwCl (wdX6_losers cyI cyJ cyB cyS h0 a_column a_leaf a_ofFirst a_open a_trial a_trial_first a_trial_second a_value a_ofPair a_standing a_rules a_trial_ending v_depth v_pair v_settled v_unwanted v_firstPaying c_column c_leaf c_ofFirst c_open v_trial_size c_trial_first c_trial_second) H := by rw [hH]; exact hP
  have hS : va_S A s.heap H locs := by rw [hH, hlo]; exact hS
  suffices hw : W p l e rmX6_losers s m av below meth c H locs 0 0 Q (F0 m 0 ls []) by rw [hH, hlo] at hw; exact hw
  refine lv_aload_n hx hb dX6_losers_0 rfl (lv_at hl 0 rfl) ?_
  refine lv_aload_n hx hb dX6_losers_1 rfl (lv_at hl 0 rfl) ?_
  refine va_get (D := D) (ci := 6) (v := .ref a_trial) (C := RX6) (T := TX6) (N := 14) hx hb hL inlX6 hown hK.1 hP 0 rfl rfl 6 (by decide) w0 (fun _ h9 => h9) rfl dX6_losers_2 ?_
  refine va_get (D := D) (ci := 0) (v := .ref a_trial_first) (C := RX0) (T := TX0) (N := 4) hx hb hL inlX0 hown hK.1 hP 5 rfl rfl 0 (by decide) w2 (fun _ h9 => h9) rfl dX6_losers_5 ?_
  refine lv_iload_n hx hb dX6_losers_8 rfl (lv_at hl 1 rfl) ?_
  obtain ⟨h9, hf⟩ := pg_some hf
  refine va_iald hx hb hK.1 hP 6 0 rfl rfl h9 dX6_losers_9 ?_
  refine lv_iload_n hx hb dX6_losers_10 rfl (lv_at hl 1 rfl) ?_
  obtain ⟨q11, e11, hf⟩ := pb_some hf
  refine cs_i (wc := (wdX6_wantsToLose cyI cyJ cyB cyS h0 a_column a_leaf a_ofFirst a_open a_trial a_trial_first a_value a_ofPair a_standing a_rules a_trial_second a_trial_ending v_depth v_pair v_settled v_unwanted v_firstPaying c_column c_leaf c_ofFirst c_open v_trial_size c_trial_first)) (w1 := (wdX6_wantsToLose cyI cyJ cyB cyS h0 a_column a_leaf a_ofFirst a_open a_trial a_trial_first a_value a_ofPair a_standing a_rules a_trial_second a_trial_ending v_depth v_pair v_settled v_unwanted v_firstPaying q11.2 c_leaf c_ofFirst c_open v_trial_size c_trial_first)) hP hD hS hA [0, 1, 2, 3, 4, 5, 6] rfl rfl rfl (va_runV (C := RX6) (As := [.int (c_trial_first x1.toNatClampNeg), .int x1]) (rest := []) ⟨hx, hb, hml, hown, hL⟩ (mX6_wantsToLose l D cyI cyJ cyB cyS N H.size h0 a_column a_leaf a_ofFirst a_open a_trial a_trial_first a_value a_ofPair a_standing a_rules a_trial_second a_trial_ending v_depth v_pair v_settled v_unwanted v_firstPaying c_column c_leaf c_ofFirst c_open v_trial_size c_trial_first (c_trial_first x1.toNatClampNeg) x1 q11 e11) (cwV 2 hL (gV (hR35 15 rfl) (hR35 16 rfl) (hR35 17 rfl) (hR2 7 rfl) (hR35 18 rfl)) rfl rfl rfl (by decide +kernel) ⟨Nat.le_of_ble_eq_true rfl, Nat.le_of_ble_eq_true rfl⟩) (PP_preV (ci := 6) (q0 := 0) hP hD hK [0, 1, 2, 3, 4, 5, 6] rfl rfl rfl rfl) rfl rfl hl.1 rfl (lv_room (Nat.le_of_ble_eq_true rfl)) dX6_losers_11 ⟨Nat.le_of_ble_eq_true rfl, Nat.le_of_ble_eq_true rfl⟩) (fun H locs hP hD hS => ?_)
  have hP : va_P D vwCl (wdX6_losers cyI cyJ cyB cyS h0 a_column a_leaf a_ofFirst a_open a_trial a_trial_first a_trial_second a_value a_ofPair a_standing a_rules a_trial_ending v_depth v_pair v_settled v_unwanted v_firstPaying q11.2 c_leaf c_ofFirst c_open v_trial_size c_trial_first c_trial_second) H := hP
  have hD : va_D A (wdX6_losers cyI cyJ cyB cyS h0 a_column a_leaf a_ofFirst a_open a_trial a_trial_first a_trial_second a_value a_ofPair a_standing a_rules a_trial_ending v_depth v_pair v_settled v_unwanted v_firstPaying q11.2 c_leaf c_ofFirst c_open v_trial_size c_trial_first c_trial_second) := hD
  refine lv_if_eq (tgt := 21) hx hb dX6_losers_14 (by decide) (fun c14 => ?_) (fun c14 => ?_)
  · have hf := pif_t c14 hf
    refine lv_iconst (v := 0) hx hb dX6_losers_21 (by decide) ?_
    exact hB22 0 q11.2 H locs ls hf hP hD hS (lv_sub hl [0, 1] rfl)
  · have hf := pif_f c14 hf
    refine lv_iconst (v := 1) hx hb dX6_losers_17 (by decide) ?_
    refine lv_goto (tgt := 22) hx hb dX6_losers_18 (by decide) ?_
    exact hB22 1 q11.2 H locs ls hf hP hD hS (lv_sub hl [0, 1] rfl)
def fX6_firstUnwanted_48 (N : Nat) (v_depth : Int32) (c_leaf : Nat → Int64) (c_ofFirst : Nat → Int32) (c_open : Nat → Int32) (v_trial_size : Int32) (c_trial_first : Nat → Int32) (c_trial_second : Nat → Int32) (x1 : Int32) (k2 : Int32 → (Nat → Int64) → Option (Int32 × (Nat → Int64))) (x2 : Int32) (c_column : Nat → Int64) : Option (Int32 × (Nat → Int64)) := k2 (x2 + 1) c_column
def fX6_firstUnwanted_2 (N : Nat) (v_depth : Int32) (c_leaf : Nat → Int64) (c_ofFirst : Nat → Int32) (c_open : Nat → Int32) (v_trial_size : Int32) (c_trial_first : Nat → Int32) (c_trial_second : Nat → Int32) (x1 : Int32) : Nat → Int32 → (Nat → Int64) → Option (Int32 × (Nat → Int64))
  | 0, _, _ => none
  | n + 1, x2, c_column => pif (v_depth ≤ x2) (some ((-4), c_column)) (pg (inr x2 7) (pb (fX0_isOf N v_trial_size c_trial_first c_trial_second (c_open x2.toNatClampNeg) x1) (fun q21 => pif (q21 = 0) (fX6_firstUnwanted_48 N v_depth c_leaf c_ofFirst c_open v_trial_size c_trial_first c_trial_second x1 (fX6_firstUnwanted_2 N v_depth c_leaf c_ofFirst c_open v_trial_size c_trial_first c_trial_second x1 n) x2 c_column) (pg (inr x2 7) (pb (fX6_wantsToLose N v_depth c_column c_leaf c_ofFirst c_open c_trial_first x1 (c_open x2.toNatClampNeg)) (fun q35 => pif (q35.1 = 0) (fX6_firstUnwanted_48 N v_depth c_leaf c_ofFirst c_open v_trial_size c_trial_first c_trial_second x1 (fX6_firstUnwanted_2 N v_depth c_leaf c_ofFirst c_open v_trial_size c_trial_first c_trial_second x1 n) x2 q35.2) (pg (inr x2 7) (some (c_open x2.toNatClampNeg, q35.2)))))))))
def fX6_firstUnwanted (N : Nat) (v_depth : Int32) (c_column : Nat → Int64) (c_leaf : Nat → Int64) (c_ofFirst : Nat → Int32) (c_open : Nat → Int32) (v_trial_size : Int32) (c_trial_first : Nat → Int32) (c_trial_second : Nat → Int32) (x1 : Int32) : Option (Int32 × (Nat → Int64)) := fX6_firstUnwanted_2 N v_depth c_leaf c_ofFirst c_open v_trial_size c_trial_first c_trial_second x1 N 0 c_column
def wdX6_firstUnwanted (cyI cyJ cyB cyS : ClassId) (h0 : Nat) (a_column : Nat) (a_leaf : Nat) (a_ofFirst : Nat) (a_open : Nat) (a_trial : Nat) (a_trial_first : Nat) (a_trial_second : Nat) (a_value : Nat) (a_ofPair : Nat) (a_standing : Nat) (a_rules : Nat) (a_trial_ending : Nat) (v_depth : Int32) (v_pair : Int32) (v_settled : Int32) (v_unwanted : Int32) (v_firstPaying : Int32) (c_column : Nat → Int64) (c_leaf : Nat → Int64) (c_ofFirst : Nat → Int32) (c_open : Nat → Int32) (v_trial_size : Int32) (c_trial_first : Nat → Int32) (c_trial_second : Nat → Int32) : va_W := [(h0, .inr (6, [.ref a_leaf, .ref a_column, .ref a_value, .ref a_open, .ref a_ofFirst, .ref a_ofPair, .ref a_trial, .ref a_standing, .ref a_rules, .int v_depth, .int v_pair, .int v_settled, .int v_unwanted, .int v_firstPaying])), (a_column, .inl (cyJ, 128, .inr (.inl c_column))), (a_leaf, .inl (cyJ, 768, .inr (.inl c_leaf))), (a_ofFirst, .inl (cyI, 7, .inl c_ofFirst)), (a_open, .inl (cyI, 7, .inl c_open)), (a_trial, .inr (0, [.ref a_trial_first, .ref a_trial_second, .ref a_trial_ending, .int v_trial_size])), (a_trial_first, .inl (cyI, 30, .inl c_trial_first)), (a_trial_second, .inl (cyI, 30, .inl c_trial_second))]
abbrev rmX6_firstUnwanted : Room := { frames := 4, cells := 0, slots := 0, locals := 96 }
set_option maxHeartbeats 40000000 in
set_option maxRecDepth 100000 in
theorem mX6_firstUnwanted (l : Launch) (D : va_G) (cyI cyJ cyB cyS : ClassId) (N : Nat) (sz : Nat) (h0 : Nat) (a_column : Nat) (a_leaf : Nat) (a_ofFirst : Nat) (a_open : Nat) (a_trial : Nat) (a_trial_first : Nat) (a_trial_second : Nat) (a_value : Nat) (a_ofPair : Nat) (a_standing : Nat) (a_rules : Nat) (a_trial_ending : Nat) (v_depth : Int32) (v_pair : Int32) (v_settled : Int32) (v_unwanted : Int32) (v_firstPaying : Int32) (c_column : Nat → Int64) (c_leaf : Nat → Int64) (c_ofFirst : Nat → Int32) (c_open : Nat → Int32) (v_trial_size : Int32) (c_trial_first : Nat → Int32) (c_trial_second : Nat → Int32) (x1 : Int32) (q : Int32 × (Nat → Int64)) (hf : fX6_firstUnwanted N v_depth c_column c_leaf c_ofFirst c_open v_trial_size c_trial_first c_trial_second x1 = some q) : Met l yX6_firstUnwanted (wS yX6_firstUnwanted cX6_firstUnwanted 3 (some .int)) rmX6_firstUnwanted (va_Pc [.ref h0, .int x1] (PP D cyI cyJ cyB cyS (wdX6_firstUnwanted cyI cyJ cyB cyS h0 a_column a_leaf a_ofFirst a_open a_trial a_trial_first a_trial_second a_value a_ofPair a_standing a_rules a_trial_ending v_depth v_pair v_settled v_unwanted v_firstPaying c_column c_leaf c_ofFirst c_open v_trial_size c_trial_first c_trial_second) sz)) (QI q.1 D (wdX6_firstUnwanted cyI cyJ cyB cyS h0 a_column a_leaf a_ofFirst a_open a_trial a_trial_first a_trial_second a_value a_ofPair a_standing a_rules a_trial_ending v_depth v_pair v_settled v_unwanted v_firstPaying q.2 c_leaf c_ofFirst c_open v_trial_size c_trial_first c_trial_second) (va_A (wdX6_firstUnwanted cyI cyJ cyB cyS h0 a_column a_leaf a_ofFirst a_open a_trial a_trial_first a_trial_second a_value a_ofPair a_standing a_rules a_trial_ending v_depth v_pair v_settled v_unwanted v_firstPaying c_column c_leaf c_ofFirst c_open v_trial_size c_trial_first c_trial_second) sz)) 0 0 (va_A (wdX6_firstUnwanted cyI cyJ cyB cyS h0 a_column a_leaf a_ofFirst a_open a_trial a_trial_first a_trial_second a_value a_ofPair a_standing a_rules a_trial_ending v_depth v_pair v_settled v_unwanted v_firstPaying c_column c_leaf c_ofFirst c_open v_trial_size c_trial_first c_trial_second) sz) := by
  refine Met.ofW (cc := cX6_firstUnwanted) (maxL := 3) (ret := (some .int)) (by decide) rfl ?_
  intro p e s m args below meth c s₁ B hml hv
  obtain ⟨rfl, hsz, hP, hK, hD0⟩ := hv
  have hx := B.exec
  have hb := B.bytes
  have hr := B.returns
  have hts := atoms_spec (ws := (wS yX6_firstUnwanted cX6_firstUnwanted 3 (some .int))) B.pre
  have hown : s.vm.findClass RX6 = some m.cls := findClass_of_methodNamed B.named
  have hlocks := B.notSynchronized
  subst hsz
  have hD := hD0.self (sz := s.heap.size)
  refine w_nameQ (fun Q hQ => ?_)
  have hl := lv_entry ([.ref h0, .int x1] : List Value) (n := 3) (Nat.le_of_ble_eq_true rfl)
  rw [lg_entry_eq]
  generalize (lg_sl ([.ref h0, .int x1] : List Value) ++ List.replicate (3 - (lg_sl ([.ref h0, .int x1] : List Value)).length) Slot.unset).toArray = ls at hl ⊢
  have hl : lv_has ls 3 [(0, .ref h0), (1, .int x1)] := hl
  generalize hAe : va_A (wdX6_firstUnwanted cyI cyJ cyB cyS h0 a_column a_leaf a_ofFirst a_open a_trial a_trial_first a_trial_second a_value a_ofPair a_standing a_rules a_trial_ending v_depth v_pair v_settled v_unwanted v_firstPaying c_column c_leaf c_ofFirst c_open v_trial_size c_trial_first c_trial_second) s.heap.size = A at hD hQ
  have hA : ∀ q : Nat, s.heap.size ≤ q → A q := fun q h => by rw [← hAe]; exact Or.inr h
  have hS : va_S A s.heap s.heap [] := va_S.rf
  generalize ([.ref h0, .int x1] : List Value).toArray = av at hts hQ ⊢
  have hL : ∀ w ∈ wsL_law, w.before av s = true := fun w h => hts w (List.mem_cons_of_mem _ h)
  have w0 := hL (.fieldLink RX6 59 "LosingLeague$Tree" "depth" "I") (hR24 16 rfl)
  have w1 := hL (.fieldLink RX6 34 "LosingLeague$Tree" "trial" "LLosingLeague$Games;") (hR4 23 rfl)
  have w2 := hL (.fieldLink RX6 21 "LosingLeague$Tree" "open" "[I") (hR4 19 rfl)
  have hB48 : ∀ (k2 : Int32 → (Nat → Int64) → Option (Int32 × (Nat → Int64))) (hk2 : ∀ (x2 : Int32) (c_column : Nat → Int64) (H : Heap) (locs : List Loc) (ls : Array Slot), k2 x2 c_column = some q → va_P D vwCl (wdX6_firstUnwanted cyI cyJ cyB cyS h0 a_column a_leaf a_ofFirst a_open a_trial a_trial_first a_trial_second a_value a_ofPair a_standing a_rules a_trial_ending v_depth v_pair v_settled v_unwanted v_firstPaying c_column c_leaf c_ofFirst c_open v_trial_size c_trial_first c_trial_second) H → va_D A (wdX6_firstUnwanted cyI cyJ cyB cyS h0 a_column a_leaf a_ofFirst a_open a_trial a_trial_first a_trial_second a_value a_ofPair a_standing a_rules a_trial_ending v_depth v_pair v_settled v_unwanted v_firstPaying c_column c_leaf c_ofFirst c_open v_trial_size c_trial_first c_trial_second) → va_S A s.heap H locs → lv_has ls 3 [(0, .ref h0), (1, .int x1), (2, .int x2)] → W p l e rmX6_firstUnwanted s m av below meth c H locs 0 0 Q (F0 m 2 ls [])), ∀ (x2 : Int32) (c_column : Nat → Int64) (H : Heap) (locs : List Loc) (ls : Array Slot), fX6_firstUnwanted_48 N v_depth c_leaf c_ofFirst c_open v_trial_size c_trial_first c_trial_second x1 k2 x2 c_column = some q → va_P D vwCl (wdX6_firstUnwanted cyI cyJ cyB cyS h0 a_column a_leaf a_ofFirst a_open a_trial a_trial_first a_trial_second a_value a_ofPair a_standing a_rules a_trial_ending v_depth v_pair v_settled v_unwanted v_firstPaying c_column c_leaf c_ofFirst c_open v_trial_size c_trial_first c_trial_second) H → va_D A (wdX6_firstUnwanted cyI cyJ cyB cyS h0 a_column a_leaf a_ofFirst a_open a_trial a_trial_first a_trial_second a_value a_ofPair a_standing a_rules a_trial_ending v_depth v_pair v_settled v_unwanted v_firstPaying c_column c_leaf c_ofFirst c_open v_trial_size c_trial_first c_trial_second) → va_S A s.heap H locs → lv_has ls 3 [(0, .ref h0), (1, .int x1), (2, .int x2)] → W p l e rmX6_firstUnwanted s m av below meth c H locs 0 0 Q (F0 m 48 ls []) := by
    intro k2 hk2 x2 c_column H locs ls hf hP hD hS hl
    unfold fX6_firstUnwanted_48 at hf
    refine lv_iinc (v := x2 + 1) (lv' := [(2, .int (x2 + 1)), (0, .ref h0), (1, .int x1)]) hx hb dX6_firstUnwanted_48 hl (k := 2) rfl rfl (by decide) rfl (fun ls hl => ?_)
    refine lv_goto (tgt := 2) hx hb dX6_firstUnwanted_51 (by decide) ?_
    exact hk2 (x2 + 1) c_column H locs ls hf hP hD hS (lv_sub hl [1, 2, 0] rfl)
  have hB2 : ∀ (n : Nat), ∀ (x2 : Int32) (c_column : Nat → Int64) (H : Heap) (locs : List Loc) (ls : Array Slot), fX6_firstUnwanted_2 N v_depth c_leaf c_ofFirst c_open v_trial_size c_trial_first c_trial_second x1 n x2 c_column = some q → va_P D vwCl (wdX6_firstUnwanted cyI cyJ cyB cyS h0 a_column a_leaf a_ofFirst a_open a_trial a_trial_first a_trial_second a_value a_ofPair a_standing a_rules a_trial_ending v_depth v_pair v_settled v_unwanted v_firstPaying c_column c_leaf c_ofFirst c_open v_trial_size c_trial_first c_trial_second) H → va_D A (wdX6_firstUnwanted cyI cyJ cyB cyS h0 a_column a_leaf a_ofFirst a_open a_trial a_trial_first a_trial_second a_value a_ofPair a_standing a_rules a_trial_ending v_depth v_pair v_settled v_unwanted v_firstPaying c_column c_leaf c_ofFirst c_open v_trial_size c_trial_first c_trial_second) → va_S A s.heap H locs → lv_has ls 3 [(0, .ref h0), (1, .int x1), (2, .int x2)] → W p l e rmX6_firstUnwanted s m av below meth c H locs 0 0 Q (F0 m 2 ls []) := by
    intro n
    induction n with
    | zero => intro x2 c_column H locs ls hf; exact absurd hf (by simp [fX6_firstUnwanted_2])
    | succ n hk2 =>
      intro x2 c_column H locs ls hf hP hD hS hl
      rw [fX6_firstUnwanted_2] at hf
      refine lv_iload_n hx hb dX6_firstUnwanted_2 rfl (lv_at hl 2 rfl) ?_
      refine lv_aload_n hx hb dX6_firstUnwanted_3 rfl (lv_at hl 0 rfl) ?_
      refine va_get (D := D) (ci := 6) (v := .int v_depth) (C := RX6) (T := TX6) (N := 14) hx hb hL inlX6 hown hK.1 hP 0 rfl rfl 9 (by decide) w0 (fun _ h9 => h9) rfl dX6_firstUnwanted_4 ?_
      refine lv_icmp_ge (tgt := 54) hx hb dX6_firstUnwanted_7 (by decide) (fun c7 => ?_) (fun c7 => ?_)
      · have hf := pif_t c7 hf
        refine lv_bipush (v := (-4)) hx hb dX6_firstUnwanted_54 (by decide) ?_
        exact ret_i (q := q) (g := fun q => q.1) (wp := fun q => (wdX6_firstUnwanted cyI cyJ cyB cyS h0 a_column a_leaf a_ofFirst a_open a_trial a_trial_first a_trial_second a_value a_ofPair a_standing a_rules a_trial_ending v_depth v_pair v_settled v_unwanted v_firstPaying q.2 c_leaf c_ofFirst c_open v_trial_size c_trial_first c_trial_second)) hQ hf hx hb hr hlocks hP hD hS dX6_firstUnwanted_56 rfl
      · have hf := pif_f c7 hf
        refine lv_aload_n hx hb dX6_firstUnwanted_10 rfl (lv_at hl 0 rfl) ?_
        refine va_get (D := D) (ci := 6) (v := .ref a_trial) (C := RX6) (T := TX6) (N := 14) hx hb hL inlX6 hown hK.1 hP 0 rfl rfl 6 (by decide) w1 (fun _ h9 => h9) rfl dX6_firstUnwanted_11 ?_
        refine lv_aload_n hx hb dX6_firstUnwanted_14 rfl (lv_at hl 0 rfl) ?_
        refine va_get (D := D) (ci := 6) (v := .ref a_open) (C := RX6) (T := TX6) (N := 14) hx hb hL inlX6 hown hK.1 hP 0 rfl rfl 3 (by decide) w2 (fun _ h9 => h9) rfl dX6_firstUnwanted_15 ?_
        refine lv_iload_n hx hb dX6_firstUnwanted_18 rfl (lv_at hl 2 rfl) ?_
        obtain ⟨h19, hf⟩ := pg_some hf
        refine va_iald hx hb hK.1 hP 4 0 rfl rfl h19 dX6_firstUnwanted_19 ?_
        refine lv_iload_n hx hb dX6_firstUnwanted_20 rfl (lv_at hl 1 rfl) ?_
        obtain ⟨q21, e21, hf⟩ := pb_some hf
        refine cs_i (wc := (wdX0_isOf cyI cyJ cyB cyS a_trial a_trial_first a_trial_second a_trial_ending v_trial_size c_trial_first c_trial_second)) (w1 := (wdX0_isOf cyI cyJ cyB cyS a_trial a_trial_first a_trial_second a_trial_ending v_trial_size c_trial_first c_trial_second)) hP hD hS hA [5, 6, 7] rfl rfl rfl (va_runV (C := RX0) (As := [.int (c_open x2.toNatClampNeg), .int x1]) (rest := []) ⟨hx, hb, hml, hown, hL⟩ (mX0_isOf l D cyI cyJ cyB cyS N H.size a_trial a_trial_first a_trial_second a_trial_ending v_trial_size c_trial_first c_trial_second (c_open x2.toNatClampNeg) x1 q21 e21) (cwV 2 hL (gV (hR25 18 rfl) (hR23 9 rfl) (hR23 10 rfl) (hR1 19 rfl) (hR23 11 rfl)) rfl rfl rfl (by decide +kernel) ⟨Nat.le_of_ble_eq_true rfl, Nat.le_of_ble_eq_true rfl⟩) (PP_preV (ci := 0) (q0 := 5) hP hD hK [5, 6, 7] rfl rfl rfl rfl) rfl rfl hl.1 rfl (lv_room (Nat.le_of_ble_eq_true rfl)) dX6_firstUnwanted_21 ⟨Nat.le_of_ble_eq_true rfl, Nat.le_of_ble_eq_true rfl⟩) (fun H locs hP hD hS => ?_)
        have hP : va_P D vwCl (wdX6_firstUnwanted cyI cyJ cyB cyS h0 a_column a_leaf a_ofFirst a_open a_trial a_trial_first a_trial_second a_value a_ofPair a_standing a_rules a_trial_ending v_depth v_pair v_settled v_unwanted v_firstPaying c_column c_leaf c_ofFirst c_open v_trial_size c_trial_first c_trial_second) H := hP
        have hD : va_D A (wdX6_firstUnwanted cyI cyJ cyB cyS h0 a_column a_leaf a_ofFirst a_open a_trial a_trial_first a_trial_second a_value a_ofPair a_standing a_rules a_trial_ending v_depth v_pair v_settled v_unwanted v_firstPaying c_column c_leaf c_ofFirst c_open v_trial_size c_trial_first c_trial_second) := hD
        refine lv_if_eq (tgt := 48) hx hb dX6_firstUnwanted_24 (by decide) (fun c24 => ?_) (fun c24 => ?_)
        · have hf := pif_t c24 hf
          exact hB48 (fX6_firstUnwanted_2 N v_depth c_leaf c_ofFirst c_open v_trial_size c_trial_first c_trial_second x1 n) hk2 x2 c_column H locs ls hf hP hD hS (lv_sub hl [0, 1, 2] rfl)
        · have hf := pif_f c24 hf
          refine lv_aload_n hx hb dX6_firstUnwanted_27 rfl (lv_at hl 0 rfl) ?_
          refine lv_iload_n hx hb dX6_firstUnwanted_28 rfl (lv_at hl 1 rfl) ?_
          refine lv_aload_n hx hb dX6_firstUnwanted_29 rfl (lv_at hl 0 rfl) ?_
          refine va_get (D := D) (ci := 6) (v := .ref a_open) (C := RX6) (T := TX6) (N := 14) hx hb hL inlX6 hown hK.1 hP 0 rfl rfl 3 (by decide) w2 (fun _ h9 => h9) rfl dX6_firstUnwanted_30 ?_
          refine lv_iload_n hx hb dX6_firstUnwanted_33 rfl (lv_at hl 2 rfl) ?_
          obtain ⟨h34, hf⟩ := pg_some hf
          refine va_iald hx hb hK.1 hP 4 0 rfl rfl h34 dX6_firstUnwanted_34 ?_
          obtain ⟨q35, e35, hf⟩ := pb_some hf
          refine cs_i (wc := (wdX6_wantsToLose cyI cyJ cyB cyS h0 a_column a_leaf a_ofFirst a_open a_trial a_trial_first a_value a_ofPair a_standing a_rules a_trial_second a_trial_ending v_depth v_pair v_settled v_unwanted v_firstPaying c_column c_leaf c_ofFirst c_open v_trial_size c_trial_first)) (w1 := (wdX6_wantsToLose cyI cyJ cyB cyS h0 a_column a_leaf a_ofFirst a_open a_trial a_trial_first a_value a_ofPair a_standing a_rules a_trial_second a_trial_ending v_depth v_pair v_settled v_unwanted v_firstPaying q35.2 c_leaf c_ofFirst c_open v_trial_size c_trial_first)) hP hD hS hA [0, 1, 2, 3, 4, 5, 6] rfl rfl rfl (va_runV (C := RX6) (As := [.int x1, .int (c_open x2.toNatClampNeg)]) (rest := []) ⟨hx, hb, hml, hown, hL⟩ (mX6_wantsToLose l D cyI cyJ cyB cyS N H.size h0 a_column a_leaf a_ofFirst a_open a_trial a_trial_first a_value a_ofPair a_standing a_rules a_trial_second a_trial_ending v_depth v_pair v_settled v_unwanted v_firstPaying c_column c_leaf c_ofFirst c_open v_trial_size c_trial_first x1 (c_open x2.toNatClampNeg) q35 e35) (cwV 2 hL (gV (hR35 15 rfl) (hR35 16 rfl) (hR35 17 rfl) (hR2 7 rfl) (hR35 18 rfl)) rfl rfl rfl (by decide +kernel) ⟨Nat.le_of_ble_eq_true rfl, Nat.le_of_ble_eq_true rfl⟩) (PP_preV (ci := 6) (q0 := 0) hP hD hK [0, 1, 2, 3, 4, 5, 6] rfl rfl rfl rfl) rfl rfl hl.1 rfl (lv_room (Nat.le_of_ble_eq_true rfl)) dX6_firstUnwanted_35 ⟨Nat.le_of_ble_eq_true rfl, Nat.le_of_ble_eq_true rfl⟩) (fun H locs hP hD hS => ?_)
          have hP : va_P D vwCl (wdX6_firstUnwanted cyI cyJ cyB cyS h0 a_column a_leaf a_ofFirst a_open a_trial a_trial_first a_trial_second a_value a_ofPair a_standing a_rules a_trial_ending v_depth v_pair v_settled v_unwanted v_firstPaying q35.2 c_leaf c_ofFirst c_open v_trial_size c_trial_first c_trial_second) H := hP
          have hD : va_D A (wdX6_firstUnwanted cyI cyJ cyB cyS h0 a_column a_leaf a_ofFirst a_open a_trial a_trial_first a_trial_second a_value a_ofPair a_standing a_rules a_trial_ending v_depth v_pair v_settled v_unwanted v_firstPaying q35.2 c_leaf c_ofFirst c_open v_trial_size c_trial_first c_trial_second) := hD
          refine lv_if_eq (tgt := 48) hx hb dX6_firstUnwanted_38 (by decide) (fun c38 => ?_) (fun c38 => ?_)
          · have hf := pif_t c38 hf
            exact hB48 (fX6_firstUnwanted_2 N v_depth c_leaf c_ofFirst c_open v_trial_size c_trial_first c_trial_second x1 n) hk2 x2 q35.2 H locs ls hf hP hD hS (lv_sub hl [0, 1, 2] rfl)
          · have hf := pif_f c38 hf
            refine lv_aload_n hx hb dX6_firstUnwanted_41 rfl (lv_at hl 0 rfl) ?_
            refine va_get (D := D) (ci := 6) (v := .ref a_open) (C := RX6) (T := TX6) (N := 14) hx hb hL inlX6 hown hK.1 hP 0 rfl rfl 3 (by decide) w2 (fun _ h9 => h9) rfl dX6_firstUnwanted_42 ?_
            refine lv_iload_n hx hb dX6_firstUnwanted_45 rfl (lv_at hl 2 rfl) ?_
            obtain ⟨h46, hf⟩ := pg_some hf
            refine va_iald hx hb hK.1 hP 4 0 rfl rfl h46 dX6_firstUnwanted_46 ?_
            exact ret_i (q := q) (g := fun q => q.1) (wp := fun q => (wdX6_firstUnwanted cyI cyJ cyB cyS h0 a_column a_leaf a_ofFirst a_open a_trial a_trial_first a_trial_second a_value a_ofPair a_standing a_rules a_trial_ending v_depth v_pair v_settled v_unwanted v_firstPaying q.2 c_leaf c_ofFirst c_open v_trial_size c_trial_first c_trial_second)) hQ hf hx hb hr hlocks hP hD hS dX6_firstUnwanted_47 rfl
  unfold fX6_firstUnwanted at hf
  obtain ⟨H, hH⟩ : ∃ H : Heap, H = s.heap := ⟨_, rfl⟩
  obtain ⟨locs, hlo⟩ : ∃ locs : List Loc, locs = [] := ⟨_, rfl⟩
  have hP : va_P D vwCl (wdX6_firstUnwanted cyI cyJ cyB cyS h0 a_column a_leaf a_ofFirst a_open a_trial a_trial_first a_trial_second a_value a_ofPair a_standing a_rules a_trial_ending v_depth v_pair v_settled v_unwanted v_firstPaying c_column c_leaf c_ofFirst c_open v_trial_size c_trial_first c_trial_second) H := by rw [hH]; exact hP
  have hS : va_S A s.heap H locs := by rw [hH, hlo]; exact hS
  suffices hw : W p l e rmX6_firstUnwanted s m av below meth c H locs 0 0 Q (F0 m 0 ls []) by rw [hH, hlo] at hw; exact hw
  refine lv_iconst (v := 0) hx hb dX6_firstUnwanted_0 (by decide) ?_
  refine lv_istore_n (lv' := [(2, .int 0), (0, .ref h0), (1, .int x1)]) hx hb dX6_firstUnwanted_1 rfl hl (by decide) rfl (fun ls hl => ?_)
  exact hB2 N 0 c_column H locs ls hf hP hD hS (lv_sub hl [1, 2, 0] rfl)
def fX6_firstUnwantedByBoth_2 (N : Nat) (v_depth : Int32) (c_leaf : Nat → Int64) (c_ofFirst : Nat → Int32) (c_open : Nat → Int32) (c_trial_first : Nat → Int32) (c_trial_second : Nat → Int32) : Nat → Int32 → (Nat → Int64) → Option (Int32 × (Nat → Int64))
  | 0, _, _ => none
  | n + 1, x1, c_column => pif (v_depth ≤ x1) (some ((-4), c_column)) (pg (inr x1 7) (pb (fX6_losers N v_depth c_column c_leaf c_ofFirst c_open c_trial_first c_trial_second (c_open x1.toNatClampNeg)) (fun q17 => pif (q17.1 = 3) (pg (inr x1 7) (some (c_open x1.toNatClampNeg, q17.2))) ((fX6_firstUnwantedByBoth_2 N v_depth c_leaf c_ofFirst c_open c_trial_first c_trial_second n) (x1 + 1) q17.2))))
def fX6_firstUnwantedByBoth (N : Nat) (v_depth : Int32) (c_column : Nat → Int64) (c_leaf : Nat → Int64) (c_ofFirst : Nat → Int32) (c_open : Nat → Int32) (c_trial_first : Nat → Int32) (c_trial_second : Nat → Int32) : Option (Int32 × (Nat → Int64)) := fX6_firstUnwantedByBoth_2 N v_depth c_leaf c_ofFirst c_open c_trial_first c_trial_second N 0 c_column
def wdX6_firstUnwantedByBoth (cyI cyJ cyB cyS : ClassId) (h0 : Nat) (a_column : Nat) (a_leaf : Nat) (a_ofFirst : Nat) (a_open : Nat) (a_trial : Nat) (a_trial_first : Nat) (a_trial_second : Nat) (a_value : Nat) (a_ofPair : Nat) (a_standing : Nat) (a_rules : Nat) (a_trial_ending : Nat) (v_depth : Int32) (v_pair : Int32) (v_settled : Int32) (v_unwanted : Int32) (v_firstPaying : Int32) (c_column : Nat → Int64) (c_leaf : Nat → Int64) (c_ofFirst : Nat → Int32) (c_open : Nat → Int32) (v_trial_size : Int32) (c_trial_first : Nat → Int32) (c_trial_second : Nat → Int32) : va_W := [(h0, .inr (6, [.ref a_leaf, .ref a_column, .ref a_value, .ref a_open, .ref a_ofFirst, .ref a_ofPair, .ref a_trial, .ref a_standing, .ref a_rules, .int v_depth, .int v_pair, .int v_settled, .int v_unwanted, .int v_firstPaying])), (a_column, .inl (cyJ, 128, .inr (.inl c_column))), (a_leaf, .inl (cyJ, 768, .inr (.inl c_leaf))), (a_ofFirst, .inl (cyI, 7, .inl c_ofFirst)), (a_open, .inl (cyI, 7, .inl c_open)), (a_trial, .inr (0, [.ref a_trial_first, .ref a_trial_second, .ref a_trial_ending, .int v_trial_size])), (a_trial_first, .inl (cyI, 30, .inl c_trial_first)), (a_trial_second, .inl (cyI, 30, .inl c_trial_second))]
abbrev rmX6_firstUnwantedByBoth : Room := { frames := 5, cells := 0, slots := 0, locals := 119 }
set_option maxHeartbeats 40000000 in
set_option maxRecDepth 100000 in
theorem mX6_firstUnwantedByBoth (l : Launch) (D : va_G) (cyI cyJ cyB cyS : ClassId) (N : Nat) (sz : Nat) (h0 : Nat) (a_column : Nat) (a_leaf : Nat) (a_ofFirst : Nat) (a_open : Nat) (a_trial : Nat) (a_trial_first : Nat) (a_trial_second : Nat) (a_value : Nat) (a_ofPair : Nat) (a_standing : Nat) (a_rules : Nat) (a_trial_ending : Nat) (v_depth : Int32) (v_pair : Int32) (v_settled : Int32) (v_unwanted : Int32) (v_firstPaying : Int32) (c_column : Nat → Int64) (c_leaf : Nat → Int64) (c_ofFirst : Nat → Int32) (c_open : Nat → Int32) (v_trial_size : Int32) (c_trial_first : Nat → Int32) (c_trial_second : Nat → Int32) (q : Int32 × (Nat → Int64)) (hf : fX6_firstUnwantedByBoth N v_depth c_column c_leaf c_ofFirst c_open c_trial_first c_trial_second = some q) : Met l yX6_firstUnwantedByBoth (wS yX6_firstUnwantedByBoth cX6_firstUnwantedByBoth 2 (some .int)) rmX6_firstUnwantedByBoth (va_Pc [.ref h0] (PP D cyI cyJ cyB cyS (wdX6_firstUnwantedByBoth cyI cyJ cyB cyS h0 a_column a_leaf a_ofFirst a_open a_trial a_trial_first a_trial_second a_value a_ofPair a_standing a_rules a_trial_ending v_depth v_pair v_settled v_unwanted v_firstPaying c_column c_leaf c_ofFirst c_open v_trial_size c_trial_first c_trial_second) sz)) (QI q.1 D (wdX6_firstUnwantedByBoth cyI cyJ cyB cyS h0 a_column a_leaf a_ofFirst a_open a_trial a_trial_first a_trial_second a_value a_ofPair a_standing a_rules a_trial_ending v_depth v_pair v_settled v_unwanted v_firstPaying q.2 c_leaf c_ofFirst c_open v_trial_size c_trial_first c_trial_second) (va_A (wdX6_firstUnwantedByBoth cyI cyJ cyB cyS h0 a_column a_leaf a_ofFirst a_open a_trial a_trial_first a_trial_second a_value a_ofPair a_standing a_rules a_trial_ending v_depth v_pair v_settled v_unwanted v_firstPaying c_column c_leaf c_ofFirst c_open v_trial_size c_trial_first c_trial_second) sz)) 0 0 (va_A (wdX6_firstUnwantedByBoth cyI cyJ cyB cyS h0 a_column a_leaf a_ofFirst a_open a_trial a_trial_first a_trial_second a_value a_ofPair a_standing a_rules a_trial_ending v_depth v_pair v_settled v_unwanted v_firstPaying c_column c_leaf c_ofFirst c_open v_trial_size c_trial_first c_trial_second) sz) := by
  refine Met.ofW (cc := cX6_firstUnwantedByBoth) (maxL := 2) (ret := (some .int)) (by decide) rfl ?_
  intro p e s m args below meth c s₁ B hml hv
  obtain ⟨rfl, hsz, hP, hK, hD0⟩ := hv
  have hx := B.exec
  have hb := B.bytes
  have hr := B.returns
  have hts := atoms_spec (ws := (wS yX6_firstUnwantedByBoth cX6_firstUnwantedByBoth 2 (some .int))) B.pre
  have hown : s.vm.findClass RX6 = some m.cls := findClass_of_methodNamed B.named
  have hlocks := B.notSynchronized
  subst hsz
  have hD := hD0.self (sz := s.heap.size)
  refine w_nameQ (fun Q hQ => ?_)
  have hl := lv_entry ([.ref h0] : List Value) (n := 2) (Nat.le_of_ble_eq_true rfl)
  rw [lg_entry_eq]
  generalize (lg_sl ([.ref h0] : List Value) ++ List.replicate (2 - (lg_sl ([.ref h0] : List Value)).length) Slot.unset).toArray = ls at hl ⊢
  have hl : lv_has ls 2 [(0, .ref h0)] := hl
  generalize hAe : va_A (wdX6_firstUnwantedByBoth cyI cyJ cyB cyS h0 a_column a_leaf a_ofFirst a_open a_trial a_trial_first a_trial_second a_value a_ofPair a_standing a_rules a_trial_ending v_depth v_pair v_settled v_unwanted v_firstPaying c_column c_leaf c_ofFirst c_open v_trial_size c_trial_first c_trial_second) s.heap.size = A at hD hQ
  have hA : ∀ q : Nat, s.heap.size ≤ q → A q := fun q h => by rw [← hAe]; exact Or.inr h
  have hS : va_S A s.heap s.heap [] := va_S.rf
  generalize ([.ref h0] : List Value).toArray = av at hts hQ ⊢
  have hL : ∀ w ∈ wsL_law, w.before av s = true := fun w h => hts w (List.mem_cons_of_mem _ h)
  have w0 := hL (.fieldLink RX6 59 "LosingLeague$Tree" "depth" "I") (hR24 16 rfl)
  have w1 := hL (.fieldLink RX6 21 "LosingLeague$Tree" "open" "[I") (hR4 19 rfl)
  have hB2 : ∀ (n : Nat), ∀ (x1 : Int32) (c_column : Nat → Int64) (H : Heap) (locs : List Loc) (ls : Array Slot), fX6_firstUnwantedByBoth_2 N v_depth c_leaf c_ofFirst c_open c_trial_first c_trial_second n x1 c_column = some q → va_P D vwCl (wdX6_firstUnwantedByBoth cyI cyJ cyB cyS h0 a_column a_leaf a_ofFirst a_open a_trial a_trial_first a_trial_second a_value a_ofPair a_standing a_rules a_trial_ending v_depth v_pair v_settled v_unwanted v_firstPaying c_column c_leaf c_ofFirst c_open v_trial_size c_trial_first c_trial_second) H → va_D A (wdX6_firstUnwantedByBoth cyI cyJ cyB cyS h0 a_column a_leaf a_ofFirst a_open a_trial a_trial_first a_trial_second a_value a_ofPair a_standing a_rules a_trial_ending v_depth v_pair v_settled v_unwanted v_firstPaying c_column c_leaf c_ofFirst c_open v_trial_size c_trial_first c_trial_second) → va_S A s.heap H locs → lv_has ls 2 [(0, .ref h0), (1, .int x1)] → W p l e rmX6_firstUnwantedByBoth s m av below meth c H locs 0 0 Q (F0 m 2 ls []) := by
    intro n
    induction n with
    | zero => intro x1 c_column H locs ls hf; exact absurd hf (by simp [fX6_firstUnwantedByBoth_2])
    | succ n hk2 =>
      intro x1 c_column H locs ls hf hP hD hS hl
      rw [fX6_firstUnwantedByBoth_2] at hf
      refine lv_iload_n hx hb dX6_firstUnwantedByBoth_2 rfl (lv_at hl 1 rfl) ?_
      refine lv_aload_n hx hb dX6_firstUnwantedByBoth_3 rfl (lv_at hl 0 rfl) ?_
      refine va_get (D := D) (ci := 6) (v := .int v_depth) (C := RX6) (T := TX6) (N := 14) hx hb hL inlX6 hown hK.1 hP 0 rfl rfl 9 (by decide) w0 (fun _ h9 => h9) rfl dX6_firstUnwantedByBoth_4 ?_
      refine lv_icmp_ge (tgt := 37) hx hb dX6_firstUnwantedByBoth_7 (by decide) (fun c7 => ?_) (fun c7 => ?_)
      · have hf := pif_t c7 hf
        refine lv_bipush (v := (-4)) hx hb dX6_firstUnwantedByBoth_37 (by decide) ?_
        exact ret_i (q := q) (g := fun q => q.1) (wp := fun q => (wdX6_firstUnwantedByBoth cyI cyJ cyB cyS h0 a_column a_leaf a_ofFirst a_open a_trial a_trial_first a_trial_second a_value a_ofPair a_standing a_rules a_trial_ending v_depth v_pair v_settled v_unwanted v_firstPaying q.2 c_leaf c_ofFirst c_open v_trial_size c_trial_first c_trial_second)) hQ hf hx hb hr hlocks hP hD hS dX6_firstUnwantedByBoth_39 rfl
      · have hf := pif_f c7 hf
        refine lv_aload_n hx hb dX6_firstUnwantedByBoth_10 rfl (lv_at hl 0 rfl) ?_
        refine lv_aload_n hx hb dX6_firstUnwantedByBoth_11 rfl (lv_at hl 0 rfl) ?_
        refine va_get (D := D) (ci := 6) (v := .ref a_open) (C := RX6) (T := TX6) (N := 14) hx hb hL inlX6 hown hK.1 hP 0 rfl rfl 3 (by decide) w1 (fun _ h9 => h9) rfl dX6_firstUnwantedByBoth_12 ?_
        refine lv_iload_n hx hb dX6_firstUnwantedByBoth_15 rfl (lv_at hl 1 rfl) ?_
        obtain ⟨h16, hf⟩ := pg_some hf
        refine va_iald hx hb hK.1 hP 4 0 rfl rfl h16 dX6_firstUnwantedByBoth_16 ?_
        obtain ⟨q17, e17, hf⟩ := pb_some hf
        refine cs_i (wc := (wdX6_losers cyI cyJ cyB cyS h0 a_column a_leaf a_ofFirst a_open a_trial a_trial_first a_trial_second a_value a_ofPair a_standing a_rules a_trial_ending v_depth v_pair v_settled v_unwanted v_firstPaying c_column c_leaf c_ofFirst c_open v_trial_size c_trial_first c_trial_second)) (w1 := (wdX6_losers cyI cyJ cyB cyS h0 a_column a_leaf a_ofFirst a_open a_trial a_trial_first a_trial_second a_value a_ofPair a_standing a_rules a_trial_ending v_depth v_pair v_settled v_unwanted v_firstPaying q17.2 c_leaf c_ofFirst c_open v_trial_size c_trial_first c_trial_second)) hP hD hS hA [0, 1, 2, 3, 4, 5, 6, 7] rfl rfl rfl (va_runV (C := RX6) (As := [.int (c_open x1.toNatClampNeg)]) (rest := []) ⟨hx, hb, hml, hown, hL⟩ (mX6_losers l D cyI cyJ cyB cyS N H.size h0 a_column a_leaf a_ofFirst a_open a_trial a_trial_first a_trial_second a_value a_ofPair a_standing a_rules a_trial_ending v_depth v_pair v_settled v_unwanted v_firstPaying c_column c_leaf c_ofFirst c_open v_trial_size c_trial_first c_trial_second (c_open x1.toNatClampNeg) q17 e17) (cwV 1 hL (gV (hR36 20 rfl) (hR35 12 rfl) (hR35 13 rfl) (hR2 7 rfl) (hR35 14 rfl)) rfl rfl rfl (by decide +kernel) ⟨Nat.le_of_ble_eq_true rfl, Nat.le_of_ble_eq_true rfl⟩) (PP_preV (ci := 6) (q0 := 0) hP hD hK [0, 1, 2, 3, 4, 5, 6, 7] rfl rfl rfl rfl) rfl rfl hl.1 rfl (lv_room (Nat.le_of_ble_eq_true rfl)) dX6_firstUnwantedByBoth_17 ⟨Nat.le_of_ble_eq_true rfl, Nat.le_of_ble_eq_true rfl⟩) (fun H locs hP hD hS => ?_)
        have hP : va_P D vwCl (wdX6_firstUnwantedByBoth cyI cyJ cyB cyS h0 a_column a_leaf a_ofFirst a_open a_trial a_trial_first a_trial_second a_value a_ofPair a_standing a_rules a_trial_ending v_depth v_pair v_settled v_unwanted v_firstPaying q17.2 c_leaf c_ofFirst c_open v_trial_size c_trial_first c_trial_second) H := hP
        have hD : va_D A (wdX6_firstUnwantedByBoth cyI cyJ cyB cyS h0 a_column a_leaf a_ofFirst a_open a_trial a_trial_first a_trial_second a_value a_ofPair a_standing a_rules a_trial_ending v_depth v_pair v_settled v_unwanted v_firstPaying q17.2 c_leaf c_ofFirst c_open v_trial_size c_trial_first c_trial_second) := hD
        refine lv_iconst (v := 3) hx hb dX6_firstUnwantedByBoth_20 (by decide) ?_
        refine lv_icmp_ne (tgt := 31) hx hb dX6_firstUnwantedByBoth_21 (by decide) (fun c21 => ?_) (fun c21 => ?_)
        · have hf := pif_f c21 hf
          refine lv_iinc (v := x1 + 1) (lv' := [(1, .int (x1 + 1)), (0, .ref h0)]) hx hb dX6_firstUnwantedByBoth_31 hl (k := 1) rfl rfl (by decide) rfl (fun ls hl => ?_)
          refine lv_goto (tgt := 2) hx hb dX6_firstUnwantedByBoth_34 (by decide) ?_
          exact hk2 (x1 + 1) q17.2 H locs ls hf hP hD hS (lv_sub hl [1, 0] rfl)
        · have hf := pif_t c21 hf
          refine lv_aload_n hx hb dX6_firstUnwantedByBoth_24 rfl (lv_at hl 0 rfl) ?_
          refine va_get (D := D) (ci := 6) (v := .ref a_open) (C := RX6) (T := TX6) (N := 14) hx hb hL inlX6 hown hK.1 hP 0 rfl rfl 3 (by decide) w1 (fun _ h9 => h9) rfl dX6_firstUnwantedByBoth_25 ?_
          refine lv_iload_n hx hb dX6_firstUnwantedByBoth_28 rfl (lv_at hl 1 rfl) ?_
          obtain ⟨h29, hf⟩ := pg_some hf
          refine va_iald hx hb hK.1 hP 4 0 rfl rfl h29 dX6_firstUnwantedByBoth_29 ?_
          exact ret_i (q := q) (g := fun q => q.1) (wp := fun q => (wdX6_firstUnwantedByBoth cyI cyJ cyB cyS h0 a_column a_leaf a_ofFirst a_open a_trial a_trial_first a_trial_second a_value a_ofPair a_standing a_rules a_trial_ending v_depth v_pair v_settled v_unwanted v_firstPaying q.2 c_leaf c_ofFirst c_open v_trial_size c_trial_first c_trial_second)) hQ hf hx hb hr hlocks hP hD hS dX6_firstUnwantedByBoth_30 rfl
  unfold fX6_firstUnwantedByBoth at hf
  obtain ⟨H, hH⟩ : ∃ H : Heap, H = s.heap := ⟨_, rfl⟩
  obtain ⟨locs, hlo⟩ : ∃ locs : List Loc, locs = [] := ⟨_, rfl⟩
  have hP : va_P D vwCl (wdX6_firstUnwantedByBoth cyI cyJ cyB cyS h0 a_column a_leaf a_ofFirst a_open a_trial a_trial_first a_trial_second a_value a_ofPair a_standing a_rules a_trial_ending v_depth v_pair v_settled v_unwanted v_firstPaying c_column c_leaf c_ofFirst c_open v_trial_size c_trial_first c_trial_second) H := by rw [hH]; exact hP
  have hS : va_S A s.heap H locs := by rw [hH, hlo]; exact hS
  suffices hw : W p l e rmX6_firstUnwantedByBoth s m av below meth c H locs 0 0 Q (F0 m 0 ls []) by rw [hH, hlo] at hw; exact hw
  refine lv_iconst (v := 0) hx hb dX6_firstUnwantedByBoth_0 (by decide) ?_
  refine lv_istore_n (lv' := [(1, .int 0), (0, .ref h0)]) hx hb dX6_firstUnwantedByBoth_1 rfl hl (by decide) rfl (fun ls hl => ?_)
  exact hB2 N 0 c_column H locs ls hf hP hD hS (lv_sub hl [1, 0] rfl)
def fX6_howManyUnwanted_46 (N : Nat) (v_depth : Int32) (c_leaf : Nat → Int64) (c_ofFirst : Nat → Int32) (c_open : Nat → Int32) (v_trial_size : Int32) (c_trial_first : Nat → Int32) (c_trial_second : Nat → Int32) (x1 : Int32) (k4 : Int32 → Int32 → (Nat → Int64) → Option (Int32 × (Nat → Int64))) (x2 : Int32) (x3 : Int32) (c_column : Nat → Int64) : Option (Int32 × (Nat → Int64)) := k4 x2 (x3 + 1) c_column
def fX6_howManyUnwanted_4 (N : Nat) (v_depth : Int32) (c_leaf : Nat → Int64) (c_ofFirst : Nat → Int32) (c_open : Nat → Int32) (v_trial_size : Int32) (c_trial_first : Nat → Int32) (c_trial_second : Nat → Int32) (x1 : Int32) : Nat → Int32 → Int32 → (Nat → Int64) → Option (Int32 × (Nat → Int64))
  | 0, _, _, _ => none
  | n + 1, x2, x3, c_column => pif (v_depth ≤ x3) (some (x2, c_column)) (pg (inr x3 7) (pb (fX0_isOf N v_trial_size c_trial_first c_trial_second (c_open x3.toNatClampNeg) x1) (fun q23 => pif (q23 = 0) (fX6_howManyUnwanted_46 N v_depth c_leaf c_ofFirst c_open v_trial_size c_trial_first c_trial_second x1 (fX6_howManyUnwanted_4 N v_depth c_leaf c_ofFirst c_open v_trial_size c_trial_first c_trial_second x1 n) x2 x3 c_column) (pg (inr x3 7) (pb (fX6_wantsToLose N v_depth c_column c_leaf c_ofFirst c_open c_trial_first x1 (c_open x3.toNatClampNeg)) (fun q37 => pif (q37.1 = 0) (fX6_howManyUnwanted_46 N v_depth c_leaf c_ofFirst c_open v_trial_size c_trial_first c_trial_second x1 (fX6_howManyUnwanted_4 N v_depth c_leaf c_ofFirst c_open v_trial_size c_trial_first c_trial_second x1 n) x2 x3 q37.2) (fX6_howManyUnwanted_46 N v_depth c_leaf c_ofFirst c_open v_trial_size c_trial_first c_trial_second x1 (fX6_howManyUnwanted_4 N v_depth c_leaf c_ofFirst c_open v_trial_size c_trial_first c_trial_second x1 n) (x2 + 1) x3 q37.2)))))))
def fX6_howManyUnwanted (N : Nat) (v_depth : Int32) (c_column : Nat → Int64) (c_leaf : Nat → Int64) (c_ofFirst : Nat → Int32) (c_open : Nat → Int32) (v_trial_size : Int32) (c_trial_first : Nat → Int32) (c_trial_second : Nat → Int32) (x1 : Int32) : Option (Int32 × (Nat → Int64)) := fX6_howManyUnwanted_4 N v_depth c_leaf c_ofFirst c_open v_trial_size c_trial_first c_trial_second x1 N 0 0 c_column
def wdX6_howManyUnwanted (cyI cyJ cyB cyS : ClassId) (h0 : Nat) (a_column : Nat) (a_leaf : Nat) (a_ofFirst : Nat) (a_open : Nat) (a_trial : Nat) (a_trial_first : Nat) (a_trial_second : Nat) (a_value : Nat) (a_ofPair : Nat) (a_standing : Nat) (a_rules : Nat) (a_trial_ending : Nat) (v_depth : Int32) (v_pair : Int32) (v_settled : Int32) (v_unwanted : Int32) (v_firstPaying : Int32) (c_column : Nat → Int64) (c_leaf : Nat → Int64) (c_ofFirst : Nat → Int32) (c_open : Nat → Int32) (v_trial_size : Int32) (c_trial_first : Nat → Int32) (c_trial_second : Nat → Int32) : va_W := [(h0, .inr (6, [.ref a_leaf, .ref a_column, .ref a_value, .ref a_open, .ref a_ofFirst, .ref a_ofPair, .ref a_trial, .ref a_standing, .ref a_rules, .int v_depth, .int v_pair, .int v_settled, .int v_unwanted, .int v_firstPaying])), (a_column, .inl (cyJ, 128, .inr (.inl c_column))), (a_leaf, .inl (cyJ, 768, .inr (.inl c_leaf))), (a_ofFirst, .inl (cyI, 7, .inl c_ofFirst)), (a_open, .inl (cyI, 7, .inl c_open)), (a_trial, .inr (0, [.ref a_trial_first, .ref a_trial_second, .ref a_trial_ending, .int v_trial_size])), (a_trial_first, .inl (cyI, 30, .inl c_trial_first)), (a_trial_second, .inl (cyI, 30, .inl c_trial_second))]
abbrev rmX6_howManyUnwanted : Room := { frames := 4, cells := 0, slots := 0, locals := 96 }
set_option maxHeartbeats 40000000 in
set_option maxRecDepth 100000 in
theorem mX6_howManyUnwanted (l : Launch) (D : va_G) (cyI cyJ cyB cyS : ClassId) (N : Nat) (sz : Nat) (h0 : Nat) (a_column : Nat) (a_leaf : Nat) (a_ofFirst : Nat) (a_open : Nat) (a_trial : Nat) (a_trial_first : Nat) (a_trial_second : Nat) (a_value : Nat) (a_ofPair : Nat) (a_standing : Nat) (a_rules : Nat) (a_trial_ending : Nat) (v_depth : Int32) (v_pair : Int32) (v_settled : Int32) (v_unwanted : Int32) (v_firstPaying : Int32) (c_column : Nat → Int64) (c_leaf : Nat → Int64) (c_ofFirst : Nat → Int32) (c_open : Nat → Int32) (v_trial_size : Int32) (c_trial_first : Nat → Int32) (c_trial_second : Nat → Int32) (x1 : Int32) (q : Int32 × (Nat → Int64)) (hf : fX6_howManyUnwanted N v_depth c_column c_leaf c_ofFirst c_open v_trial_size c_trial_first c_trial_second x1 = some q) : Met l yX6_howManyUnwanted (wS yX6_howManyUnwanted cX6_howManyUnwanted 4 (some .int)) rmX6_howManyUnwanted (va_Pc [.ref h0, .int x1] (PP D cyI cyJ cyB cyS (wdX6_howManyUnwanted cyI cyJ cyB cyS h0 a_column a_leaf a_ofFirst a_open a_trial a_trial_first a_trial_second a_value a_ofPair a_standing a_rules a_trial_ending v_depth v_pair v_settled v_unwanted v_firstPaying c_column c_leaf c_ofFirst c_open v_trial_size c_trial_first c_trial_second) sz)) (QI q.1 D (wdX6_howManyUnwanted cyI cyJ cyB cyS h0 a_column a_leaf a_ofFirst a_open a_trial a_trial_first a_trial_second a_value a_ofPair a_standing a_rules a_trial_ending v_depth v_pair v_settled v_unwanted v_firstPaying q.2 c_leaf c_ofFirst c_open v_trial_size c_trial_first c_trial_second) (va_A (wdX6_howManyUnwanted cyI cyJ cyB cyS h0 a_column a_leaf a_ofFirst a_open a_trial a_trial_first a_trial_second a_value a_ofPair a_standing a_rules a_trial_ending v_depth v_pair v_settled v_unwanted v_firstPaying c_column c_leaf c_ofFirst c_open v_trial_size c_trial_first c_trial_second) sz)) 0 0 (va_A (wdX6_howManyUnwanted cyI cyJ cyB cyS h0 a_column a_leaf a_ofFirst a_open a_trial a_trial_first a_trial_second a_value a_ofPair a_standing a_rules a_trial_ending v_depth v_pair v_settled v_unwanted v_firstPaying c_column c_leaf c_ofFirst c_open v_trial_size c_trial_first c_trial_second) sz) := by
  refine Met.ofW (cc := cX6_howManyUnwanted) (maxL := 4) (ret := (some .int)) (by decide) rfl ?_
  intro p e s m args below meth c s₁ B hml hv
  obtain ⟨rfl, hsz, hP, hK, hD0⟩ := hv
  have hx := B.exec
  have hb := B.bytes
  have hr := B.returns
  have hts := atoms_spec (ws := (wS yX6_howManyUnwanted cX6_howManyUnwanted 4 (some .int))) B.pre
  have hown : s.vm.findClass RX6 = some m.cls := findClass_of_methodNamed B.named
  have hlocks := B.notSynchronized
  subst hsz
  have hD := hD0.self (sz := s.heap.size)
  refine w_nameQ (fun Q hQ => ?_)
  have hl := lv_entry ([.ref h0, .int x1] : List Value) (n := 4) (Nat.le_of_ble_eq_true rfl)
  rw [lg_entry_eq]
  generalize (lg_sl ([.ref h0, .int x1] : List Value) ++ List.replicate (4 - (lg_sl ([.ref h0, .int x1] : List Value)).length) Slot.unset).toArray = ls at hl ⊢
  have hl : lv_has ls 4 [(0, .ref h0), (1, .int x1)] := hl
  generalize hAe : va_A (wdX6_howManyUnwanted cyI cyJ cyB cyS h0 a_column a_leaf a_ofFirst a_open a_trial a_trial_first a_trial_second a_value a_ofPair a_standing a_rules a_trial_ending v_depth v_pair v_settled v_unwanted v_firstPaying c_column c_leaf c_ofFirst c_open v_trial_size c_trial_first c_trial_second) s.heap.size = A at hD hQ
  have hA : ∀ q : Nat, s.heap.size ≤ q → A q := fun q h => by rw [← hAe]; exact Or.inr h
  have hS : va_S A s.heap s.heap [] := va_S.rf
  generalize ([.ref h0, .int x1] : List Value).toArray = av at hts hQ ⊢
  have hL : ∀ w ∈ wsL_law, w.before av s = true := fun w h => hts w (List.mem_cons_of_mem _ h)
  have w0 := hL (.fieldLink RX6 59 "LosingLeague$Tree" "depth" "I") (hR24 16 rfl)
  have w1 := hL (.fieldLink RX6 34 "LosingLeague$Tree" "trial" "LLosingLeague$Games;") (hR4 23 rfl)
  have w2 := hL (.fieldLink RX6 21 "LosingLeague$Tree" "open" "[I") (hR4 19 rfl)
  have hB46 : ∀ (k4 : Int32 → Int32 → (Nat → Int64) → Option (Int32 × (Nat → Int64))) (hk4 : ∀ (x2 : Int32) (x3 : Int32) (c_column : Nat → Int64) (H : Heap) (locs : List Loc) (ls : Array Slot), k4 x2 x3 c_column = some q → va_P D vwCl (wdX6_howManyUnwanted cyI cyJ cyB cyS h0 a_column a_leaf a_ofFirst a_open a_trial a_trial_first a_trial_second a_value a_ofPair a_standing a_rules a_trial_ending v_depth v_pair v_settled v_unwanted v_firstPaying c_column c_leaf c_ofFirst c_open v_trial_size c_trial_first c_trial_second) H → va_D A (wdX6_howManyUnwanted cyI cyJ cyB cyS h0 a_column a_leaf a_ofFirst a_open a_trial a_trial_first a_trial_second a_value a_ofPair a_standing a_rules a_trial_ending v_depth v_pair v_settled v_unwanted v_firstPaying c_column c_leaf c_ofFirst c_open v_trial_size c_trial_first c_trial_second) → va_S A s.heap H locs → lv_has ls 4 [(0, .ref h0), (1, .int x1), (2, .int x2), (3, .int x3)] → W p l e rmX6_howManyUnwanted s m av below meth c H locs 0 0 Q (F0 m 4 ls [])), ∀ (x2 : Int32) (x3 : Int32) (c_column : Nat → Int64) (H : Heap) (locs : List Loc) (ls : Array Slot), fX6_howManyUnwanted_46 N v_depth c_leaf c_ofFirst c_open v_trial_size c_trial_first c_trial_second x1 k4 x2 x3 c_column = some q → va_P D vwCl (wdX6_howManyUnwanted cyI cyJ cyB cyS h0 a_column a_leaf a_ofFirst a_open a_trial a_trial_first a_trial_second a_value a_ofPair a_standing a_rules a_trial_ending v_depth v_pair v_settled v_unwanted v_firstPaying c_column c_leaf c_ofFirst c_open v_trial_size c_trial_first c_trial_second) H → va_D A (wdX6_howManyUnwanted cyI cyJ cyB cyS h0 a_column a_leaf a_ofFirst a_open a_trial a_trial_first a_trial_second a_value a_ofPair a_standing a_rules a_trial_ending v_depth v_pair v_settled v_unwanted v_firstPaying c_column c_leaf c_ofFirst c_open v_trial_size c_trial_first c_trial_second) → va_S A s.heap H locs → lv_has ls 4 [(0, .ref h0), (1, .int x1), (2, .int x2), (3, .int x3)] → W p l e rmX6_howManyUnwanted s m av below meth c H locs 0 0 Q (F0 m 46 ls []) := by
    intro k4 hk4 x2 x3 c_column H locs ls hf hP hD hS hl
    unfold fX6_howManyUnwanted_46 at hf
    refine lv_iinc (v := x3 + 1) (lv' := [(3, .int (x3 + 1)), (0, .ref h0), (1, .int x1), (2, .int x2)]) hx hb dX6_howManyUnwanted_46 hl (k := 3) rfl rfl (by decide) rfl (fun ls hl => ?_)
    refine lv_goto (tgt := 4) hx hb dX6_howManyUnwanted_49 (by decide) ?_
    exact hk4 x2 (x3 + 1) c_column H locs ls hf hP hD hS (lv_sub hl [1, 2, 3, 0] rfl)
  have hB4 : ∀ (n : Nat), ∀ (x2 : Int32) (x3 : Int32) (c_column : Nat → Int64) (H : Heap) (locs : List Loc) (ls : Array Slot), fX6_howManyUnwanted_4 N v_depth c_leaf c_ofFirst c_open v_trial_size c_trial_first c_trial_second x1 n x2 x3 c_column = some q → va_P D vwCl (wdX6_howManyUnwanted cyI cyJ cyB cyS h0 a_column a_leaf a_ofFirst a_open a_trial a_trial_first a_trial_second a_value a_ofPair a_standing a_rules a_trial_ending v_depth v_pair v_settled v_unwanted v_firstPaying c_column c_leaf c_ofFirst c_open v_trial_size c_trial_first c_trial_second) H → va_D A (wdX6_howManyUnwanted cyI cyJ cyB cyS h0 a_column a_leaf a_ofFirst a_open a_trial a_trial_first a_trial_second a_value a_ofPair a_standing a_rules a_trial_ending v_depth v_pair v_settled v_unwanted v_firstPaying c_column c_leaf c_ofFirst c_open v_trial_size c_trial_first c_trial_second) → va_S A s.heap H locs → lv_has ls 4 [(0, .ref h0), (1, .int x1), (2, .int x2), (3, .int x3)] → W p l e rmX6_howManyUnwanted s m av below meth c H locs 0 0 Q (F0 m 4 ls []) := by
    intro n
    induction n with
    | zero => intro x2 x3 c_column H locs ls hf; exact absurd hf (by simp [fX6_howManyUnwanted_4])
    | succ n hk4 =>
      intro x2 x3 c_column H locs ls hf hP hD hS hl
      rw [fX6_howManyUnwanted_4] at hf
      refine lv_iload_n hx hb dX6_howManyUnwanted_4 rfl (lv_at hl 3 rfl) ?_
      refine lv_aload_n hx hb dX6_howManyUnwanted_5 rfl (lv_at hl 0 rfl) ?_
      refine va_get (D := D) (ci := 6) (v := .int v_depth) (C := RX6) (T := TX6) (N := 14) hx hb hL inlX6 hown hK.1 hP 0 rfl rfl 9 (by decide) w0 (fun _ h9 => h9) rfl dX6_howManyUnwanted_6 ?_
      refine lv_icmp_ge (tgt := 52) hx hb dX6_howManyUnwanted_9 (by decide) (fun c9 => ?_) (fun c9 => ?_)
      · have hf := pif_t c9 hf
        refine lv_iload_n hx hb dX6_howManyUnwanted_52 rfl (lv_at hl 2 rfl) ?_
        exact ret_i (q := q) (g := fun q => q.1) (wp := fun q => (wdX6_howManyUnwanted cyI cyJ cyB cyS h0 a_column a_leaf a_ofFirst a_open a_trial a_trial_first a_trial_second a_value a_ofPair a_standing a_rules a_trial_ending v_depth v_pair v_settled v_unwanted v_firstPaying q.2 c_leaf c_ofFirst c_open v_trial_size c_trial_first c_trial_second)) hQ hf hx hb hr hlocks hP hD hS dX6_howManyUnwanted_53 rfl
      · have hf := pif_f c9 hf
        refine lv_aload_n hx hb dX6_howManyUnwanted_12 rfl (lv_at hl 0 rfl) ?_
        refine va_get (D := D) (ci := 6) (v := .ref a_trial) (C := RX6) (T := TX6) (N := 14) hx hb hL inlX6 hown hK.1 hP 0 rfl rfl 6 (by decide) w1 (fun _ h9 => h9) rfl dX6_howManyUnwanted_13 ?_
        refine lv_aload_n hx hb dX6_howManyUnwanted_16 rfl (lv_at hl 0 rfl) ?_
        refine va_get (D := D) (ci := 6) (v := .ref a_open) (C := RX6) (T := TX6) (N := 14) hx hb hL inlX6 hown hK.1 hP 0 rfl rfl 3 (by decide) w2 (fun _ h9 => h9) rfl dX6_howManyUnwanted_17 ?_
        refine lv_iload_n hx hb dX6_howManyUnwanted_20 rfl (lv_at hl 3 rfl) ?_
        obtain ⟨h21, hf⟩ := pg_some hf
        refine va_iald hx hb hK.1 hP 4 0 rfl rfl h21 dX6_howManyUnwanted_21 ?_
        refine lv_iload_n hx hb dX6_howManyUnwanted_22 rfl (lv_at hl 1 rfl) ?_
        obtain ⟨q23, e23, hf⟩ := pb_some hf
        refine cs_i (wc := (wdX0_isOf cyI cyJ cyB cyS a_trial a_trial_first a_trial_second a_trial_ending v_trial_size c_trial_first c_trial_second)) (w1 := (wdX0_isOf cyI cyJ cyB cyS a_trial a_trial_first a_trial_second a_trial_ending v_trial_size c_trial_first c_trial_second)) hP hD hS hA [5, 6, 7] rfl rfl rfl (va_runV (C := RX0) (As := [.int (c_open x3.toNatClampNeg), .int x1]) (rest := []) ⟨hx, hb, hml, hown, hL⟩ (mX0_isOf l D cyI cyJ cyB cyS N H.size a_trial a_trial_first a_trial_second a_trial_ending v_trial_size c_trial_first c_trial_second (c_open x3.toNatClampNeg) x1 q23 e23) (cwV 2 hL (gV (hR25 18 rfl) (hR23 9 rfl) (hR23 10 rfl) (hR1 19 rfl) (hR23 11 rfl)) rfl rfl rfl (by decide +kernel) ⟨Nat.le_of_ble_eq_true rfl, Nat.le_of_ble_eq_true rfl⟩) (PP_preV (ci := 0) (q0 := 5) hP hD hK [5, 6, 7] rfl rfl rfl rfl) rfl rfl hl.1 rfl (lv_room (Nat.le_of_ble_eq_true rfl)) dX6_howManyUnwanted_23 ⟨Nat.le_of_ble_eq_true rfl, Nat.le_of_ble_eq_true rfl⟩) (fun H locs hP hD hS => ?_)
        have hP : va_P D vwCl (wdX6_howManyUnwanted cyI cyJ cyB cyS h0 a_column a_leaf a_ofFirst a_open a_trial a_trial_first a_trial_second a_value a_ofPair a_standing a_rules a_trial_ending v_depth v_pair v_settled v_unwanted v_firstPaying c_column c_leaf c_ofFirst c_open v_trial_size c_trial_first c_trial_second) H := hP
        have hD : va_D A (wdX6_howManyUnwanted cyI cyJ cyB cyS h0 a_column a_leaf a_ofFirst a_open a_trial a_trial_first a_trial_second a_value a_ofPair a_standing a_rules a_trial_ending v_depth v_pair v_settled v_unwanted v_firstPaying c_column c_leaf c_ofFirst c_open v_trial_size c_trial_first c_trial_second) := hD
        refine lv_if_eq (tgt := 46) hx hb dX6_howManyUnwanted_26 (by decide) (fun c26 => ?_) (fun c26 => ?_)
        · have hf := pif_t c26 hf
          exact hB46 (fX6_howManyUnwanted_4 N v_depth c_leaf c_ofFirst c_open v_trial_size c_trial_first c_trial_second x1 n) hk4 x2 x3 c_column H locs ls hf hP hD hS (lv_sub hl [0, 1, 2, 3] rfl)
        · have hf := pif_f c26 hf
          refine lv_aload_n hx hb dX6_howManyUnwanted_29 rfl (lv_at hl 0 rfl) ?_
          refine lv_iload_n hx hb dX6_howManyUnwanted_30 rfl (lv_at hl 1 rfl) ?_
          refine lv_aload_n hx hb dX6_howManyUnwanted_31 rfl (lv_at hl 0 rfl) ?_
          refine va_get (D := D) (ci := 6) (v := .ref a_open) (C := RX6) (T := TX6) (N := 14) hx hb hL inlX6 hown hK.1 hP 0 rfl rfl 3 (by decide) w2 (fun _ h9 => h9) rfl dX6_howManyUnwanted_32 ?_
          refine lv_iload_n hx hb dX6_howManyUnwanted_35 rfl (lv_at hl 3 rfl) ?_
          obtain ⟨h36, hf⟩ := pg_some hf
          refine va_iald hx hb hK.1 hP 4 0 rfl rfl h36 dX6_howManyUnwanted_36 ?_
          obtain ⟨q37, e37, hf⟩ := pb_some hf
          refine cs_i (wc := (wdX6_wantsToLose cyI cyJ cyB cyS h0 a_column a_leaf a_ofFirst a_open a_trial a_trial_first a_value a_ofPair a_standing a_rules a_trial_second a_trial_ending v_depth v_pair v_settled v_unwanted v_firstPaying c_column c_leaf c_ofFirst c_open v_trial_size c_trial_first)) (w1 := (wdX6_wantsToLose cyI cyJ cyB cyS h0 a_column a_leaf a_ofFirst a_open a_trial a_trial_first a_value a_ofPair a_standing a_rules a_trial_second a_trial_ending v_depth v_pair v_settled v_unwanted v_firstPaying q37.2 c_leaf c_ofFirst c_open v_trial_size c_trial_first)) hP hD hS hA [0, 1, 2, 3, 4, 5, 6] rfl rfl rfl (va_runV (C := RX6) (As := [.int x1, .int (c_open x3.toNatClampNeg)]) (rest := []) ⟨hx, hb, hml, hown, hL⟩ (mX6_wantsToLose l D cyI cyJ cyB cyS N H.size h0 a_column a_leaf a_ofFirst a_open a_trial a_trial_first a_value a_ofPair a_standing a_rules a_trial_second a_trial_ending v_depth v_pair v_settled v_unwanted v_firstPaying c_column c_leaf c_ofFirst c_open v_trial_size c_trial_first x1 (c_open x3.toNatClampNeg) q37 e37) (cwV 2 hL (gV (hR35 15 rfl) (hR35 16 rfl) (hR35 17 rfl) (hR2 7 rfl) (hR35 18 rfl)) rfl rfl rfl (by decide +kernel) ⟨Nat.le_of_ble_eq_true rfl, Nat.le_of_ble_eq_true rfl⟩) (PP_preV (ci := 6) (q0 := 0) hP hD hK [0, 1, 2, 3, 4, 5, 6] rfl rfl rfl rfl) rfl rfl hl.1 rfl (lv_room (Nat.le_of_ble_eq_true rfl)) dX6_howManyUnwanted_37 ⟨Nat.le_of_ble_eq_true rfl, Nat.le_of_ble_eq_true rfl⟩) (fun H locs hP hD hS => ?_)
          have hP : va_P D vwCl (wdX6_howManyUnwanted cyI cyJ cyB cyS h0 a_column a_leaf a_ofFirst a_open a_trial a_trial_first a_trial_second a_value a_ofPair a_standing a_rules a_trial_ending v_depth v_pair v_settled v_unwanted v_firstPaying q37.2 c_leaf c_ofFirst c_open v_trial_size c_trial_first c_trial_second) H := hP
          have hD : va_D A (wdX6_howManyUnwanted cyI cyJ cyB cyS h0 a_column a_leaf a_ofFirst a_open a_trial a_trial_first a_trial_second a_value a_ofPair a_standing a_rules a_trial_ending v_depth v_pair v_settled v_unwanted v_firstPaying q37.2 c_leaf c_ofFirst c_open v_trial_size c_trial_first c_trial_second) := hD
          refine lv_if_eq (tgt := 46) hx hb dX6_howManyUnwanted_40 (by decide) (fun c40 => ?_) (fun c40 => ?_)
          · have hf := pif_t c40 hf
            exact hB46 (fX6_howManyUnwanted_4 N v_depth c_leaf c_ofFirst c_open v_trial_size c_trial_first c_trial_second x1 n) hk4 x2 x3 q37.2 H locs ls hf hP hD hS (lv_sub hl [0, 1, 2, 3] rfl)
          · have hf := pif_f c40 hf
            refine lv_iinc (v := x2 + 1) (lv' := [(2, .int (x2 + 1)), (0, .ref h0), (1, .int x1), (3, .int x3)]) hx hb dX6_howManyUnwanted_43 hl (k := 2) rfl rfl (by decide) rfl (fun ls hl => ?_)
            exact hB46 (fX6_howManyUnwanted_4 N v_depth c_leaf c_ofFirst c_open v_trial_size c_trial_first c_trial_second x1 n) hk4 (x2 + 1) x3 q37.2 H locs ls hf hP hD hS (lv_sub hl [1, 2, 0, 3] rfl)
  unfold fX6_howManyUnwanted at hf
  obtain ⟨H, hH⟩ : ∃ H : Heap, H = s.heap := ⟨_, rfl⟩
  obtain ⟨locs, hlo⟩ : ∃ locs : List Loc, locs = [] := ⟨_, rfl⟩
  have hP : va_P D vwCl (wdX6_howManyUnwanted cyI cyJ cyB cyS h0 a_column a_leaf a_ofFirst a_open a_trial a_trial_first a_trial_second a_value a_ofPair a_standing a_rules a_trial_ending v_depth v_pair v_settled v_unwanted v_firstPaying c_column c_leaf c_ofFirst c_open v_trial_size c_trial_first c_trial_second) H := by rw [hH]; exact hP
  have hS : va_S A s.heap H locs := by rw [hH, hlo]; exact hS
  suffices hw : W p l e rmX6_howManyUnwanted s m av below meth c H locs 0 0 Q (F0 m 0 ls []) by rw [hH, hlo] at hw; exact hw
  refine lv_iconst (v := 0) hx hb dX6_howManyUnwanted_0 (by decide) ?_
  refine lv_istore_n (lv' := [(2, .int 0), (0, .ref h0), (1, .int x1)]) hx hb dX6_howManyUnwanted_1 rfl hl (by decide) rfl (fun ls hl => ?_)
  refine lv_iconst (v := 0) hx hb dX6_howManyUnwanted_2 (by decide) ?_
  refine lv_istore_n (lv' := [(3, .int 0), (2, .int 0), (0, .ref h0), (1, .int x1)]) hx hb dX6_howManyUnwanted_3 rfl hl (by decide) rfl (fun ls hl => ?_)
  exact hB4 N 0 0 c_column H locs ls hf hP hD hS (lv_sub hl [2, 3, 1, 0] rfl)
def fX6_join_8 (N : Nat) (v_rules_sides : Int32) (x1 : Int32) (x2 : Int32) : Nat → Int32 → Int32 → (Nat → Int64) → Option ((Nat → Int64))
  | 0, _, _, _ => none
  | n + 1, x3, x4, c_leaf => pif (v_rules_sides ≤ x4) (some c_leaf) (pg (inr ((2 * x3) + x4) 768) (pg (inr (((2 * x3) + 6) + x4) 768) (pb (fX6_mixed N x2 (c_leaf ((2 * x3) + x4).toNatClampNeg) (c_leaf (((2 * x3) + 6) + x4).toNatClampNeg)) (fun q54 => pg (inr (x3 + x4) 768) ((fX6_join_8 N v_rules_sides x1 x2 n) x3 (x4 + 1) (vp_updL c_leaf (x3 + x4).toNatClampNeg q54))))))
def fX6_join (N : Nat) (c_leaf : Nat → Int64) (v_rules_sides : Int32) (x1 : Int32) (x2 : Int32) : Option ((Nat → Int64)) := fX6_join_8 N v_rules_sides x1 x2 N (x1 * 6) 0 c_leaf
def wdX6_join (cyI cyJ cyB cyS : ClassId) (h0 : Nat) (a_leaf : Nat) (a_rules : Nat) (a_column : Nat) (a_value : Nat) (a_open : Nat) (a_ofFirst : Nat) (a_ofPair : Nat) (a_trial : Nat) (a_standing : Nat) (a_rules_strength : Nat) (a_rules_placeWorth : Nat) (a_rules_choiceWorth : Nat) (a_rules_balls : Nat) (a_rules_wheel : Nat) (v_depth : Int32) (v_pair : Int32) (v_settled : Int32) (v_unwanted : Int32) (v_firstPaying : Int32) (c_leaf : Nat → Int64) (v_rules_sides : Int32) (v_rules_kind : Int32) (v_rules_rounds : Int32) : va_W := [(h0, .inr (6, [.ref a_leaf, .ref a_column, .ref a_value, .ref a_open, .ref a_ofFirst, .ref a_ofPair, .ref a_trial, .ref a_standing, .ref a_rules, .int v_depth, .int v_pair, .int v_settled, .int v_unwanted, .int v_firstPaying])), (a_leaf, .inl (cyJ, 768, .inr (.inl c_leaf))), (a_rules, .inr (2, [.ref a_rules_strength, .ref a_rules_placeWorth, .ref a_rules_choiceWorth, .ref a_rules_balls, .ref a_rules_wheel, .int v_rules_sides, .int v_rules_kind, .int v_rules_rounds]))]
abbrev rmX6_join : Room := { frames := 1, cells := 0, slots := 0, locals := 24 }
set_option maxHeartbeats 40000000 in
set_option maxRecDepth 100000 in
theorem mX6_join (l : Launch) (D : va_G) (cyI cyJ cyB cyS : ClassId) (N : Nat) (sz : Nat) (h0 : Nat) (a_leaf : Nat) (a_rules : Nat) (a_column : Nat) (a_value : Nat) (a_open : Nat) (a_ofFirst : Nat) (a_ofPair : Nat) (a_trial : Nat) (a_standing : Nat) (a_rules_strength : Nat) (a_rules_placeWorth : Nat) (a_rules_choiceWorth : Nat) (a_rules_balls : Nat) (a_rules_wheel : Nat) (v_depth : Int32) (v_pair : Int32) (v_settled : Int32) (v_unwanted : Int32) (v_firstPaying : Int32) (c_leaf : Nat → Int64) (v_rules_sides : Int32) (v_rules_kind : Int32) (v_rules_rounds : Int32) (x1 : Int32) (x2 : Int32) (q : (Nat → Int64)) (hf : fX6_join N c_leaf v_rules_sides x1 x2 = some q) : Met l yX6_join (wS yX6_join cX6_join 5 none) rmX6_join (va_Pc [.ref h0, .int x1, .int x2] (PP D cyI cyJ cyB cyS (wdX6_join cyI cyJ cyB cyS h0 a_leaf a_rules a_column a_value a_open a_ofFirst a_ofPair a_trial a_standing a_rules_strength a_rules_placeWorth a_rules_choiceWorth a_rules_balls a_rules_wheel v_depth v_pair v_settled v_unwanted v_firstPaying c_leaf v_rules_sides v_rules_kind v_rules_rounds) sz)) (QV D (wdX6_join cyI cyJ cyB cyS h0 a_leaf a_rules a_column a_value a_open a_ofFirst a_ofPair a_trial a_standing a_rules_strength a_rules_placeWorth a_rules_choiceWorth a_rules_balls a_rules_wheel v_depth v_pair v_settled v_unwanted v_firstPaying q v_rules_sides v_rules_kind v_rules_rounds) (va_A (wdX6_join cyI cyJ cyB cyS h0 a_leaf a_rules a_column a_value a_open a_ofFirst a_ofPair a_trial a_standing a_rules_strength a_rules_placeWorth a_rules_choiceWorth a_rules_balls a_rules_wheel v_depth v_pair v_settled v_unwanted v_firstPaying c_leaf v_rules_sides v_rules_kind v_rules_rounds) sz)) 0 0 (va_A (wdX6_join cyI cyJ cyB cyS h0 a_leaf a_rules a_column a_value a_open a_ofFirst a_ofPair a_trial a_standing a_rules_strength a_rules_placeWorth a_rules_choiceWorth a_rules_balls a_rules_wheel v_depth v_pair v_settled v_unwanted v_firstPaying c_leaf v_rules_sides v_rules_kind v_rules_rounds) sz) := by
  refine Met.ofW (cc := cX6_join) (maxL := 5) (ret := none) (by decide) rfl ?_
  intro p e s m args below meth c s₁ B hml hv
  obtain ⟨rfl, hsz, hP, hK, hD0⟩ := hv
  have hx := B.exec
  have hb := B.bytes
  have hr := B.returns
  have hts := atoms_spec (ws := (wS yX6_join cX6_join 5 none)) B.pre
  have hown : s.vm.findClass RX6 = some m.cls := findClass_of_methodNamed B.named
  have hlocks := B.notSynchronized
  subst hsz
  have hD := hD0.self (sz := s.heap.size)
  refine w_nameQ (fun Q hQ => ?_)
  have hl := lv_entry ([.ref h0, .int x1, .int x2] : List Value) (n := 5) (Nat.le_of_ble_eq_true rfl)
  rw [lg_entry_eq]
  generalize (lg_sl ([.ref h0, .int x1, .int x2] : List Value) ++ List.replicate (5 - (lg_sl ([.ref h0, .int x1, .int x2] : List Value)).length) Slot.unset).toArray = ls at hl ⊢
  have hl : lv_has ls 5 [(0, .ref h0), (1, .int x1), (2, .int x2)] := hl
  generalize hAe : va_A (wdX6_join cyI cyJ cyB cyS h0 a_leaf a_rules a_column a_value a_open a_ofFirst a_ofPair a_trial a_standing a_rules_strength a_rules_placeWorth a_rules_choiceWorth a_rules_balls a_rules_wheel v_depth v_pair v_settled v_unwanted v_firstPaying c_leaf v_rules_sides v_rules_kind v_rules_rounds) s.heap.size = A at hD hQ
  have hA : ∀ q : Nat, s.heap.size ≤ q → A q := fun q h => by rw [← hAe]; exact Or.inr h
  have hS : va_S A s.heap s.heap [] := va_S.rf
  generalize ([.ref h0, .int x1, .int x2] : List Value).toArray = av at hts hQ ⊢
  have hL : ∀ w ∈ wsL_law, w.before av s = true := fun w h => hts w (List.mem_cons_of_mem _ h)
  have w0 := hL (.fieldLink RX6 48 "LosingLeague$Tree" "rules" "LLosingLeague$Rules;") (hR5 3 rfl)
  have w1 := hL (.fieldLink RX6 82 "LosingLeague$Rules" "sides" "I") (hR25 12 rfl)
  have w2 := hL (.fieldLink RX6 9 "LosingLeague$Tree" "leaf" "[J") (hR4 16 rfl)
  have w3 := hL (.static yX6_mixed) (hR31 23 rfl)
  have hB8 : ∀ (n : Nat), ∀ (x3 : Int32) (x4 : Int32) (c_leaf : Nat → Int64) (H : Heap) (locs : List Loc) (ls : Array Slot), fX6_join_8 N v_rules_sides x1 x2 n x3 x4 c_leaf = some q → va_P D vwCl (wdX6_join cyI cyJ cyB cyS h0 a_leaf a_rules a_column a_value a_open a_ofFirst a_ofPair a_trial a_standing a_rules_strength a_rules_placeWorth a_rules_choiceWorth a_rules_balls a_rules_wheel v_depth v_pair v_settled v_unwanted v_firstPaying c_leaf v_rules_sides v_rules_kind v_rules_rounds) H → va_D A (wdX6_join cyI cyJ cyB cyS h0 a_leaf a_rules a_column a_value a_open a_ofFirst a_ofPair a_trial a_standing a_rules_strength a_rules_placeWorth a_rules_choiceWorth a_rules_balls a_rules_wheel v_depth v_pair v_settled v_unwanted v_firstPaying c_leaf v_rules_sides v_rules_kind v_rules_rounds) → va_S A s.heap H locs → lv_has ls 5 [(0, .ref h0), (2, .int x2), (3, .int x3), (4, .int x4)] → W p l e rmX6_join s m av below meth c H locs 0 0 Q (F0 m 8 ls []) := by
    intro n
    induction n with
    | zero => intro x3 x4 c_leaf H locs ls hf; exact absurd hf (by simp [fX6_join_8])
    | succ n hk8 =>
      intro x3 x4 c_leaf H locs ls hf hP hD hS hl
      rw [fX6_join_8] at hf
      refine lv_iload hx hb dX6_join_8 (lv_at hl 3 rfl) ?_
      refine lv_aload_n hx hb dX6_join_10 rfl (lv_at hl 0 rfl) ?_
      refine va_get (D := D) (ci := 6) (v := .ref a_rules) (C := RX6) (T := TX6) (N := 14) hx hb hL inlX6 hown hK.1 hP 0 rfl rfl 8 (by decide) w0 (fun _ h9 => h9) rfl dX6_join_11 ?_
      refine va_get (D := D) (ci := 2) (v := .int v_rules_sides) (C := RX2) (T := TX2) (N := 8) hx hb hL inlX2 hown hK.1 hP 2 rfl rfl 5 (by decide) w1 (fun _ h9 => h9) rfl dX6_join_14 ?_
      refine lv_icmp_ge (tgt := 64) hx hb dX6_join_17 (by decide) (fun c17 => ?_) (fun c17 => ?_)
      · have hf := pif_t c17 hf
        exact ret_v (q := q) (wp := fun q => (wdX6_join cyI cyJ cyB cyS h0 a_leaf a_rules a_column a_value a_open a_ofFirst a_ofPair a_trial a_standing a_rules_strength a_rules_placeWorth a_rules_choiceWorth a_rules_balls a_rules_wheel v_depth v_pair v_settled v_unwanted v_firstPaying q v_rules_sides v_rules_kind v_rules_rounds)) hQ hf hx hb hr hlocks hP hD hS dX6_join_64
      · have hf := pif_f c17 hf
        refine lv_aload_n hx hb dX6_join_20 rfl (lv_at hl 0 rfl) ?_
        refine va_get (D := D) (ci := 6) (v := .ref a_leaf) (C := RX6) (T := TX6) (N := 14) hx hb hL inlX6 hown hK.1 hP 0 rfl rfl 0 (by decide) w2 (fun _ h9 => h9) rfl dX6_join_21 ?_
        refine lv_iload_n hx hb dX6_join_24 rfl (lv_at hl 2 rfl) ?_
        refine lv_iload hx hb dX6_join_25 (lv_at hl 3 rfl) ?_
        refine lv_iadd hx hb dX6_join_27 ?_
        refine lv_iload_n hx hb dX6_join_28 rfl (lv_at hl 1 rfl) ?_
        refine lv_aload_n hx hb dX6_join_29 rfl (lv_at hl 0 rfl) ?_
        refine va_get (D := D) (ci := 6) (v := .ref a_leaf) (C := RX6) (T := TX6) (N := 14) hx hb hL inlX6 hown hK.1 hP 0 rfl rfl 0 (by decide) w2 (fun _ h9 => h9) rfl dX6_join_30 ?_
        refine lv_iconst (v := 2) hx hb dX6_join_33 (by decide) ?_
        refine lv_iload_n hx hb dX6_join_34 rfl (lv_at hl 2 rfl) ?_
        refine lv_imul hx hb dX6_join_35 ?_
        refine lv_iload hx hb dX6_join_36 (lv_at hl 3 rfl) ?_
        refine lv_iadd hx hb dX6_join_38 ?_
        obtain ⟨h39, hf⟩ := pg_some hf
        refine va_lald hx hb hK.1 hP 1 1 rfl rfl h39 dX6_join_39 ?_
        refine lv_aload_n hx hb dX6_join_40 rfl (lv_at hl 0 rfl) ?_
        refine va_get (D := D) (ci := 6) (v := .ref a_leaf) (C := RX6) (T := TX6) (N := 14) hx hb hL inlX6 hown hK.1 hP 0 rfl rfl 0 (by decide) w2 (fun _ h9 => h9) rfl dX6_join_41 ?_
        refine lv_iconst (v := 2) hx hb dX6_join_44 (by decide) ?_
        refine lv_iload_n hx hb dX6_join_45 rfl (lv_at hl 2 rfl) ?_
        refine lv_imul hx hb dX6_join_46 ?_
        refine lv_bipush (v := 6) hx hb dX6_join_47 (by decide) ?_
        refine lv_iadd hx hb dX6_join_49 ?_
        refine lv_iload hx hb dX6_join_50 (lv_at hl 3 rfl) ?_
        refine lv_iadd hx hb dX6_join_52 ?_
        obtain ⟨h53, hf⟩ := pg_some hf
        refine va_lald hx hb hK.1 hP 1 1 rfl rfl h53 dX6_join_53 ?_
        obtain ⟨q54, e54, hf⟩ := pb_some hf
        refine cs_l (wc := []) (w1 := []) hP hD hS hA [] rfl rfl rfl (va_runS (As := [.int x2, .long (c_leaf ((2 * x3) + x4).toNatClampNeg), .long (c_leaf (((2 * x3) + 6) + x4).toNatClampNeg)]) (rest := [.int (x3 + x4), .ref a_leaf]) ⟨hx, hb, hml, hown, hL⟩ (mX6_mixed l D cyI cyJ cyB cyS N H.size   x2 (c_leaf ((2 * x3) + x4).toNatClampNeg) (c_leaf (((2 * x3) + 6) + x4).toNatClampNeg) q54 e54) (va_cwS 3 hL (gS (hR31 22 rfl) (hR31 23 rfl) (hR2 7 rfl) (hR32 0 rfl)) rfl rfl rfl (by decide +kernel) ⟨Nat.le_of_ble_eq_true rfl, Nat.le_of_ble_eq_true rfl⟩) (PP_preS hP hD hK [] rfl rfl) rfl rfl hl.1 rfl (lv_room (Nat.le_of_ble_eq_true rfl)) dX6_join_54 ⟨Nat.le_of_ble_eq_true rfl, Nat.le_of_ble_eq_true rfl⟩) (fun H locs hP hD hS => ?_)
        have hP : va_P D vwCl (wdX6_join cyI cyJ cyB cyS h0 a_leaf a_rules a_column a_value a_open a_ofFirst a_ofPair a_trial a_standing a_rules_strength a_rules_placeWorth a_rules_choiceWorth a_rules_balls a_rules_wheel v_depth v_pair v_settled v_unwanted v_firstPaying c_leaf v_rules_sides v_rules_kind v_rules_rounds) H := hP
        have hD : va_D A (wdX6_join cyI cyJ cyB cyS h0 a_leaf a_rules a_column a_value a_open a_ofFirst a_ofPair a_trial a_standing a_rules_strength a_rules_placeWorth a_rules_choiceWorth a_rules_balls a_rules_wheel v_depth v_pair v_settled v_unwanted v_firstPaying c_leaf v_rules_sides v_rules_kind v_rules_rounds) := hD
        obtain ⟨h57, hf⟩ := pg_some hf
        refine va_last hx hb hK.1 hP hD hS 1 1 rfl rfl h57 dX6_join_57 (fun H locs hP hD hS => ?_)
        have hP : va_P D vwCl (wdX6_join cyI cyJ cyB cyS h0 a_leaf a_rules a_column a_value a_open a_ofFirst a_ofPair a_trial a_standing a_rules_strength a_rules_placeWorth a_rules_choiceWorth a_rules_balls a_rules_wheel v_depth v_pair v_settled v_unwanted v_firstPaying (vp_updL c_leaf (x3 + x4).toNatClampNeg q54) v_rules_sides v_rules_kind v_rules_rounds) H := hP
        have hD : va_D A (wdX6_join cyI cyJ cyB cyS h0 a_leaf a_rules a_column a_value a_open a_ofFirst a_ofPair a_trial a_standing a_rules_strength a_rules_placeWorth a_rules_choiceWorth a_rules_balls a_rules_wheel v_depth v_pair v_settled v_unwanted v_firstPaying (vp_updL c_leaf (x3 + x4).toNatClampNeg q54) v_rules_sides v_rules_kind v_rules_rounds) := hD
        refine lv_iinc (v := x4 + 1) (lv' := [(4, .int (x4 + 1)), (0, .ref h0), (2, .int x2), (3, .int x3)]) hx hb dX6_join_58 hl (k := 3) rfl rfl (by decide) rfl (fun ls hl => ?_)
        refine lv_goto (tgt := 8) hx hb dX6_join_61 (by decide) ?_
        exact hk8 x3 (x4 + 1) (vp_updL c_leaf (x3 + x4).toNatClampNeg q54) H locs ls hf hP hD hS (lv_sub hl [1, 2, 3, 0] rfl)
  unfold fX6_join at hf
  obtain ⟨H, hH⟩ : ∃ H : Heap, H = s.heap := ⟨_, rfl⟩
  obtain ⟨locs, hlo⟩ : ∃ locs : List Loc, locs = [] := ⟨_, rfl⟩
  have hP : va_P D vwCl (wdX6_join cyI cyJ cyB cyS h0 a_leaf a_rules a_column a_value a_open a_ofFirst a_ofPair a_trial a_standing a_rules_strength a_rules_placeWorth a_rules_choiceWorth a_rules_balls a_rules_wheel v_depth v_pair v_settled v_unwanted v_firstPaying c_leaf v_rules_sides v_rules_kind v_rules_rounds) H := by rw [hH]; exact hP
  have hS : va_S A s.heap H locs := by rw [hH, hlo]; exact hS
  suffices hw : W p l e rmX6_join s m av below meth c H locs 0 0 Q (F0 m 0 ls []) by rw [hH, hlo] at hw; exact hw
  refine lv_iload_n hx hb dX6_join_0 rfl (lv_at hl 1 rfl) ?_
  refine lv_bipush (v := 6) hx hb dX6_join_1 (by decide) ?_
  refine lv_imul hx hb dX6_join_3 ?_
  refine lv_istore_n (lv' := [(3, .int (x1 * 6)), (0, .ref h0), (1, .int x1), (2, .int x2)]) hx hb dX6_join_4 rfl hl (by decide) rfl (fun ls hl => ?_)
  refine lv_iconst (v := 0) hx hb dX6_join_5 (by decide) ?_
  refine lv_istore (lv' := [(4, .int 0), (3, .int (x1 * 6)), (0, .ref h0), (1, .int x1), (2, .int x2)]) hx hb dX6_join_6 hl (by decide) rfl (fun ls hl => ?_)
  exact hB8 N (x1 * 6) 0 c_leaf H locs ls hf hP hD hS (lv_sub hl [2, 4, 1, 0] rfl)
def fX6_losersAt_108 (N : Nat) (c_leaf : Nat → Int64) (c_open : Nat → Int32) (c_trial_first : Nat → Int32) (c_trial_second : Nat → Int32) (x1 : Int32) (x2 : Int32) (s0 : Int32) : Option (Int32) := some s0
def fX6_losersAt_73 (N : Nat) (c_leaf : Nat → Int64) (c_open : Nat → Int32) (c_trial_first : Nat → Int32) (c_trial_second : Nat → Int32) (x1 : Int32) (x2 : Int32) (x4 : Int32) (x5 : Int32) (x6 : Int32) (s0 : Int32) : Option (Int32) := pg (inr (x5 + x4) 768) (pg (inr (x6 + x4) 768) (pif ((lg_cmp (c_leaf (x5 + x4).toNatClampNeg) (c_leaf (x6 + x4).toNatClampNeg)) ≤ 0) (fX6_losersAt_108 N c_leaf c_open c_trial_first c_trial_second x1 x2 s0) (fX6_losersAt_108 N c_leaf c_open c_trial_first c_trial_second x1 x2 (s0 + 1))))
def fX6_losersAt (N : Nat) (c_leaf : Nat → Int64) (c_open : Nat → Int32) (c_trial_first : Nat → Int32) (c_trial_second : Nat → Int32) (x1 : Int32) (x2 : Int32) : Option (Int32) := pg (inr x1 7) (pg (inr (c_open x1.toNatClampNeg) 30) (pg (inr x1 7) (pg (inr (c_open x1.toNatClampNeg) 30) (pg (inr ((((2 * x2) * 6) + 6) + (c_trial_first (c_open x1.toNatClampNeg).toNatClampNeg)) 768) (pg (inr (((2 * x2) * 6) + (c_trial_first (c_open x1.toNatClampNeg).toNatClampNeg)) 768) (pif ((lg_cmp (c_leaf ((((2 * x2) * 6) + 6) + (c_trial_first (c_open x1.toNatClampNeg).toNatClampNeg)).toNatClampNeg) (c_leaf (((2 * x2) * 6) + (c_trial_first (c_open x1.toNatClampNeg).toNatClampNeg)).toNatClampNeg)) ≤ 0) (fX6_losersAt_73 N c_leaf c_open c_trial_first c_trial_second x1 x2 (c_trial_second (c_open x1.toNatClampNeg).toNatClampNeg) ((2 * x2) * 6) (((2 * x2) * 6) + 6) 0) (fX6_losersAt_73 N c_leaf c_open c_trial_first c_trial_second x1 x2 (c_trial_second (c_open x1.toNatClampNeg).toNatClampNeg) ((2 * x2) * 6) (((2 * x2) * 6) + 6) 1)))))))
def wdX6_losersAt (cyI cyJ cyB cyS : ClassId) (h0 : Nat) (a_leaf : Nat) (a_open : Nat) (a_trial : Nat) (a_trial_first : Nat) (a_trial_second : Nat) (a_column : Nat) (a_value : Nat) (a_ofFirst : Nat) (a_ofPair : Nat) (a_standing : Nat) (a_rules : Nat) (a_trial_ending : Nat) (v_depth : Int32) (v_pair : Int32) (v_settled : Int32) (v_unwanted : Int32) (v_firstPaying : Int32) (c_leaf : Nat → Int64) (c_open : Nat → Int32) (v_trial_size : Int32) (c_trial_first : Nat → Int32) (c_trial_second : Nat → Int32) : va_W := [(h0, .inr (6, [.ref a_leaf, .ref a_column, .ref a_value, .ref a_open, .ref a_ofFirst, .ref a_ofPair, .ref a_trial, .ref a_standing, .ref a_rules, .int v_depth, .int v_pair, .int v_settled, .int v_unwanted, .int v_firstPaying])), (a_leaf, .inl (cyJ, 768, .inr (.inl c_leaf))), (a_open, .inl (cyI, 7, .inl c_open)), (a_trial, .inr (0, [.ref a_trial_first, .ref a_trial_second, .ref a_trial_ending, .int v_trial_size])), (a_trial_first, .inl (cyI, 30, .inl c_trial_first)), (a_trial_second, .inl (cyI, 30, .inl c_trial_second))]
abbrev rmX6_losersAt : Room := { frames := 0, cells := 0, slots := 0, locals := 0 }
set_option maxHeartbeats 40000000 in
set_option maxRecDepth 100000 in
theorem mX6_losersAt (l : Launch) (D : va_G) (cyI cyJ cyB cyS : ClassId) (N : Nat) (sz : Nat) (h0 : Nat) (a_leaf : Nat) (a_open : Nat) (a_trial : Nat) (a_trial_first : Nat) (a_trial_second : Nat) (a_column : Nat) (a_value : Nat) (a_ofFirst : Nat) (a_ofPair : Nat) (a_standing : Nat) (a_rules : Nat) (a_trial_ending : Nat) (v_depth : Int32) (v_pair : Int32) (v_settled : Int32) (v_unwanted : Int32) (v_firstPaying : Int32) (c_leaf : Nat → Int64) (c_open : Nat → Int32) (v_trial_size : Int32) (c_trial_first : Nat → Int32) (c_trial_second : Nat → Int32) (x1 : Int32) (x2 : Int32) (q : Int32) (hf : fX6_losersAt N c_leaf c_open c_trial_first c_trial_second x1 x2 = some q) : Met l yX6_losersAt (wS yX6_losersAt cX6_losersAt 8 (some .int)) rmX6_losersAt (va_Pc [.ref h0, .int x1, .int x2] (PP D cyI cyJ cyB cyS (wdX6_losersAt cyI cyJ cyB cyS h0 a_leaf a_open a_trial a_trial_first a_trial_second a_column a_value a_ofFirst a_ofPair a_standing a_rules a_trial_ending v_depth v_pair v_settled v_unwanted v_firstPaying c_leaf c_open v_trial_size c_trial_first c_trial_second) sz)) (QI q D (wdX6_losersAt cyI cyJ cyB cyS h0 a_leaf a_open a_trial a_trial_first a_trial_second a_column a_value a_ofFirst a_ofPair a_standing a_rules a_trial_ending v_depth v_pair v_settled v_unwanted v_firstPaying c_leaf c_open v_trial_size c_trial_first c_trial_second) (va_A (wdX6_losersAt cyI cyJ cyB cyS h0 a_leaf a_open a_trial a_trial_first a_trial_second a_column a_value a_ofFirst a_ofPair a_standing a_rules a_trial_ending v_depth v_pair v_settled v_unwanted v_firstPaying c_leaf c_open v_trial_size c_trial_first c_trial_second) sz)) 0 0 (va_A (wdX6_losersAt cyI cyJ cyB cyS h0 a_leaf a_open a_trial a_trial_first a_trial_second a_column a_value a_ofFirst a_ofPair a_standing a_rules a_trial_ending v_depth v_pair v_settled v_unwanted v_firstPaying c_leaf c_open v_trial_size c_trial_first c_trial_second) sz) := by
  refine Met.ofW (cc := cX6_losersAt) (maxL := 8) (ret := (some .int)) (by decide) rfl ?_
  intro p e s m args below meth c s₁ B hml hv
  obtain ⟨rfl, hsz, hP, hK, hD0⟩ := hv
  have hx := B.exec
  have hb := B.bytes
  have hr := B.returns
  have hts := atoms_spec (ws := (wS yX6_losersAt cX6_losersAt 8 (some .int))) B.pre
  have hown : s.vm.findClass RX6 = some m.cls := findClass_of_methodNamed B.named
  have hlocks := B.notSynchronized
  subst hsz
  have hD := hD0.self (sz := s.heap.size)
  refine w_nameQ (fun Q hQ => ?_)
  have hl := lv_entry ([.ref h0, .int x1, .int x2] : List Value) (n := 8) (Nat.le_of_ble_eq_true rfl)
  rw [lg_entry_eq]
  generalize (lg_sl ([.ref h0, .int x1, .int x2] : List Value) ++ List.replicate (8 - (lg_sl ([.ref h0, .int x1, .int x2] : List Value)).length) Slot.unset).toArray = ls at hl ⊢
  have hl : lv_has ls 8 [(0, .ref h0), (1, .int x1), (2, .int x2)] := hl
  generalize hAe : va_A (wdX6_losersAt cyI cyJ cyB cyS h0 a_leaf a_open a_trial a_trial_first a_trial_second a_column a_value a_ofFirst a_ofPair a_standing a_rules a_trial_ending v_depth v_pair v_settled v_unwanted v_firstPaying c_leaf c_open v_trial_size c_trial_first c_trial_second) s.heap.size = A at hD hQ
  have hA : ∀ q : Nat, s.heap.size ≤ q → A q := fun q h => by rw [← hAe]; exact Or.inr h
  have hS : va_S A s.heap s.heap [] := va_S.rf
  generalize ([.ref h0, .int x1, .int x2] : List Value).toArray = av at hts hQ ⊢
  have hL : ∀ w ∈ wsL_law, w.before av s = true := fun w h => hts w (List.mem_cons_of_mem _ h)
  have w0 := hL (.fieldLink RX6 9 "LosingLeague$Tree" "leaf" "[J") (hR4 16 rfl)
  have w1 := hL (.fieldLink RX6 34 "LosingLeague$Tree" "trial" "LLosingLeague$Games;") (hR4 23 rfl)
  have w2 := hL (.fieldLink RX6 72 "LosingLeague$Games" "first" "[I") (hR25 1 rfl)
  have w3 := hL (.fieldLink RX6 21 "LosingLeague$Tree" "open" "[I") (hR4 19 rfl)
  have w4 := hL (.fieldLink RX6 75 "LosingLeague$Games" "second" "[I") (hR25 2 rfl)
  have hB108 : ∀ (s0 : Int32) (H : Heap) (locs : List Loc) (ls : Array Slot), fX6_losersAt_108 N c_leaf c_open c_trial_first c_trial_second x1 x2 s0 = some q → va_P D vwCl (wdX6_losersAt cyI cyJ cyB cyS h0 a_leaf a_open a_trial a_trial_first a_trial_second a_column a_value a_ofFirst a_ofPair a_standing a_rules a_trial_ending v_depth v_pair v_settled v_unwanted v_firstPaying c_leaf c_open v_trial_size c_trial_first c_trial_second) H → va_D A (wdX6_losersAt cyI cyJ cyB cyS h0 a_leaf a_open a_trial a_trial_first a_trial_second a_column a_value a_ofFirst a_ofPair a_standing a_rules a_trial_ending v_depth v_pair v_settled v_unwanted v_firstPaying c_leaf c_open v_trial_size c_trial_first c_trial_second) → va_S A s.heap H locs → lv_has ls 8 [] → W p l e rmX6_losersAt s m av below meth c H locs 0 0 Q (F0 m 108 ls [.int s0]) := by
    intro s0 H locs ls hf hP hD hS hl
    unfold fX6_losersAt_108 at hf
    exact ret_i (q := q) (g := fun q => q) (wp := fun q => (wdX6_losersAt cyI cyJ cyB cyS h0 a_leaf a_open a_trial a_trial_first a_trial_second a_column a_value a_ofFirst a_ofPair a_standing a_rules a_trial_ending v_depth v_pair v_settled v_unwanted v_firstPaying c_leaf c_open v_trial_size c_trial_first c_trial_second)) hQ hf hx hb hr hlocks hP hD hS dX6_losersAt_108 rfl
  have hB73 : ∀ (x4 : Int32) (x5 : Int32) (x6 : Int32) (s0 : Int32) (H : Heap) (locs : List Loc) (ls : Array Slot), fX6_losersAt_73 N c_leaf c_open c_trial_first c_trial_second x1 x2 x4 x5 x6 s0 = some q → va_P D vwCl (wdX6_losersAt cyI cyJ cyB cyS h0 a_leaf a_open a_trial a_trial_first a_trial_second a_column a_value a_ofFirst a_ofPair a_standing a_rules a_trial_ending v_depth v_pair v_settled v_unwanted v_firstPaying c_leaf c_open v_trial_size c_trial_first c_trial_second) H → va_D A (wdX6_losersAt cyI cyJ cyB cyS h0 a_leaf a_open a_trial a_trial_first a_trial_second a_column a_value a_ofFirst a_ofPair a_standing a_rules a_trial_ending v_depth v_pair v_settled v_unwanted v_firstPaying c_leaf c_open v_trial_size c_trial_first c_trial_second) → va_S A s.heap H locs → lv_has ls 8 [(0, .ref h0), (4, .int x4), (5, .int x5), (6, .int x6)] → W p l e rmX6_losersAt s m av below meth c H locs 0 0 Q (F0 m 73 ls [.int s0]) := by
    intro x4 x5 x6 s0 H locs ls hf hP hD hS hl
    unfold fX6_losersAt_73 at hf
    refine lv_istore (lv' := [(7, .int s0), (0, .ref h0), (4, .int x4), (5, .int x5), (6, .int x6)]) hx hb dX6_losersAt_73 hl (by decide) rfl (fun ls hl => ?_)
    refine lv_aload_n hx hb dX6_losersAt_75 rfl (lv_at hl 1 rfl) ?_
    refine va_get (D := D) (ci := 6) (v := .ref a_leaf) (C := RX6) (T := TX6) (N := 14) hx hb hL inlX6 hown hK.1 hP 0 rfl rfl 0 (by decide) w0 (fun _ h9 => h9) rfl dX6_losersAt_76 ?_
    refine lv_iload hx hb dX6_losersAt_79 (lv_at hl 3 rfl) ?_
    refine lv_iload hx hb dX6_losersAt_81 (lv_at hl 2 rfl) ?_
    refine lv_iadd hx hb dX6_losersAt_83 ?_
    obtain ⟨h84, hf⟩ := pg_some hf
    refine va_lald hx hb hK.1 hP 1 1 rfl rfl h84 dX6_losersAt_84 ?_
    refine lv_aload_n hx hb dX6_losersAt_85 rfl (lv_at hl 1 rfl) ?_
    refine va_get (D := D) (ci := 6) (v := .ref a_leaf) (C := RX6) (T := TX6) (N := 14) hx hb hL inlX6 hown hK.1 hP 0 rfl rfl 0 (by decide) w0 (fun _ h9 => h9) rfl dX6_losersAt_86 ?_
    refine lv_iload hx hb dX6_losersAt_89 (lv_at hl 4 rfl) ?_
    refine lv_iload hx hb dX6_losersAt_91 (lv_at hl 2 rfl) ?_
    refine lv_iadd hx hb dX6_losersAt_93 ?_
    obtain ⟨h94, hf⟩ := pg_some hf
    refine va_lald hx hb hK.1 hP 1 1 rfl rfl h94 dX6_losersAt_94 ?_
    refine W.lcmp hx hb dX6_losersAt_95 ?_
    refine lv_if_le (tgt := 106) hx hb dX6_losersAt_96 (by decide) (fun c96 => ?_) (fun c96 => ?_)
    · have hf := pif_t c96 hf
      refine lv_iload hx hb dX6_losersAt_106 (lv_at hl 0 rfl) ?_
      exact hB108 s0 H locs ls hf hP hD hS (lv_sub hl [] rfl)
    · have hf := pif_f c96 hf
      refine lv_iload hx hb dX6_losersAt_99 (lv_at hl 0 rfl) ?_
      refine lv_iconst (v := 1) hx hb dX6_losersAt_101 (by decide) ?_
      refine lv_iadd hx hb dX6_losersAt_102 ?_
      refine lv_goto (tgt := 108) hx hb dX6_losersAt_103 (by decide) ?_
      exact hB108 (s0 + 1) H locs ls hf hP hD hS (lv_sub hl [] rfl)
  unfold fX6_losersAt at hf
  obtain ⟨H, hH⟩ : ∃ H : Heap, H = s.heap := ⟨_, rfl⟩
  obtain ⟨locs, hlo⟩ : ∃ locs : List Loc, locs = [] := ⟨_, rfl⟩
  have hP : va_P D vwCl (wdX6_losersAt cyI cyJ cyB cyS h0 a_leaf a_open a_trial a_trial_first a_trial_second a_column a_value a_ofFirst a_ofPair a_standing a_rules a_trial_ending v_depth v_pair v_settled v_unwanted v_firstPaying c_leaf c_open v_trial_size c_trial_first c_trial_second) H := by rw [hH]; exact hP
  have hS : va_S A s.heap H locs := by rw [hH, hlo]; exact hS
  suffices hw : W p l e rmX6_losersAt s m av below meth c H locs 0 0 Q (F0 m 0 ls []) by rw [hH, hlo] at hw; exact hw
  refine lv_aload_n hx hb dX6_losersAt_0 rfl (lv_at hl 0 rfl) ?_
  refine va_get (D := D) (ci := 6) (v := .ref a_trial) (C := RX6) (T := TX6) (N := 14) hx hb hL inlX6 hown hK.1 hP 0 rfl rfl 6 (by decide) w1 (fun _ h9 => h9) rfl dX6_losersAt_1 ?_
  refine va_get (D := D) (ci := 0) (v := .ref a_trial_first) (C := RX0) (T := TX0) (N := 4) hx hb hL inlX0 hown hK.1 hP 3 rfl rfl 0 (by decide) w2 (fun _ h9 => h9) rfl dX6_losersAt_4 ?_
  refine lv_aload_n hx hb dX6_losersAt_7 rfl (lv_at hl 0 rfl) ?_
  refine va_get (D := D) (ci := 6) (v := .ref a_open) (C := RX6) (T := TX6) (N := 14) hx hb hL inlX6 hown hK.1 hP 0 rfl rfl 3 (by decide) w3 (fun _ h9 => h9) rfl dX6_losersAt_8 ?_
  refine lv_iload_n hx hb dX6_losersAt_11 rfl (lv_at hl 1 rfl) ?_
  obtain ⟨h12, hf⟩ := pg_some hf
  refine va_iald hx hb hK.1 hP 2 0 rfl rfl h12 dX6_losersAt_12 ?_
  obtain ⟨h13, hf⟩ := pg_some hf
  refine va_iald hx hb hK.1 hP 4 0 rfl rfl h13 dX6_losersAt_13 ?_
  refine lv_istore_n (lv' := [(3, .int (c_trial_first (c_open x1.toNatClampNeg).toNatClampNeg)), (0, .ref h0), (1, .int x1), (2, .int x2)]) hx hb dX6_losersAt_14 rfl hl (by decide) rfl (fun ls hl => ?_)
  refine lv_aload_n hx hb dX6_losersAt_15 rfl (lv_at hl 1 rfl) ?_
  refine va_get (D := D) (ci := 6) (v := .ref a_trial) (C := RX6) (T := TX6) (N := 14) hx hb hL inlX6 hown hK.1 hP 0 rfl rfl 6 (by decide) w1 (fun _ h9 => h9) rfl dX6_losersAt_16 ?_
  refine va_get (D := D) (ci := 0) (v := .ref a_trial_second) (C := RX0) (T := TX0) (N := 4) hx hb hL inlX0 hown hK.1 hP 3 rfl rfl 1 (by decide) w4 (fun _ h9 => h9) rfl dX6_losersAt_19 ?_
  refine lv_aload_n hx hb dX6_losersAt_22 rfl (lv_at hl 1 rfl) ?_
  refine va_get (D := D) (ci := 6) (v := .ref a_open) (C := RX6) (T := TX6) (N := 14) hx hb hL inlX6 hown hK.1 hP 0 rfl rfl 3 (by decide) w3 (fun _ h9 => h9) rfl dX6_losersAt_23 ?_
  refine lv_iload_n hx hb dX6_losersAt_26 rfl (lv_at hl 2 rfl) ?_
  obtain ⟨h27, hf⟩ := pg_some hf
  refine va_iald hx hb hK.1 hP 2 0 rfl rfl h27 dX6_losersAt_27 ?_
  obtain ⟨h28, hf⟩ := pg_some hf
  refine va_iald hx hb hK.1 hP 5 0 rfl rfl h28 dX6_losersAt_28 ?_
  refine lv_istore (lv' := [(4, .int (c_trial_second (c_open x1.toNatClampNeg).toNatClampNeg)), (3, .int (c_trial_first (c_open x1.toNatClampNeg).toNatClampNeg)), (0, .ref h0), (1, .int x1), (2, .int x2)]) hx hb dX6_losersAt_29 hl (by decide) rfl (fun ls hl => ?_)
  refine lv_iconst (v := 2) hx hb dX6_losersAt_31 (by decide) ?_
  refine lv_iload_n hx hb dX6_losersAt_32 rfl (lv_at hl 4 rfl) ?_
  refine lv_imul hx hb dX6_losersAt_33 ?_
  refine lv_bipush (v := 6) hx hb dX6_losersAt_34 (by decide) ?_
  refine lv_imul hx hb dX6_losersAt_36 ?_
  refine lv_istore (lv' := [(5, .int ((2 * x2) * 6)), (4, .int (c_trial_second (c_open x1.toNatClampNeg).toNatClampNeg)), (3, .int (c_trial_first (c_open x1.toNatClampNeg).toNatClampNeg)), (0, .ref h0), (1, .int x1), (2, .int x2)]) hx hb dX6_losersAt_37 hl (by decide) rfl (fun ls hl => ?_)
  refine lv_iload hx hb dX6_losersAt_39 (lv_at hl 0 rfl) ?_
  refine lv_bipush (v := 6) hx hb dX6_losersAt_41 (by decide) ?_
  refine lv_iadd hx hb dX6_losersAt_43 ?_
  refine lv_istore (lv' := [(6, .int (((2 * x2) * 6) + 6)), (5, .int ((2 * x2) * 6)), (4, .int (c_trial_second (c_open x1.toNatClampNeg).toNatClampNeg)), (3, .int (c_trial_first (c_open x1.toNatClampNeg).toNatClampNeg)), (0, .ref h0), (1, .int x1), (2, .int x2)]) hx hb dX6_losersAt_44 hl (by decide) rfl (fun ls hl => ?_)
  refine lv_aload_n hx hb dX6_losersAt_46 rfl (lv_at hl 4 rfl) ?_
  refine va_get (D := D) (ci := 6) (v := .ref a_leaf) (C := RX6) (T := TX6) (N := 14) hx hb hL inlX6 hown hK.1 hP 0 rfl rfl 0 (by decide) w0 (fun _ h9 => h9) rfl dX6_losersAt_47 ?_
  refine lv_iload hx hb dX6_losersAt_50 (lv_at hl 0 rfl) ?_
  refine lv_iload_n hx hb dX6_losersAt_52 rfl (lv_at hl 3 rfl) ?_
  refine lv_iadd hx hb dX6_losersAt_53 ?_
  obtain ⟨h54, hf⟩ := pg_some hf
  refine va_lald hx hb hK.1 hP 1 1 rfl rfl h54 dX6_losersAt_54 ?_
  refine lv_aload_n hx hb dX6_losersAt_55 rfl (lv_at hl 4 rfl) ?_
  refine va_get (D := D) (ci := 6) (v := .ref a_leaf) (C := RX6) (T := TX6) (N := 14) hx hb hL inlX6 hown hK.1 hP 0 rfl rfl 0 (by decide) w0 (fun _ h9 => h9) rfl dX6_losersAt_56 ?_
  refine lv_iload hx hb dX6_losersAt_59 (lv_at hl 1 rfl) ?_
  refine lv_iload_n hx hb dX6_losersAt_61 rfl (lv_at hl 3 rfl) ?_
  refine lv_iadd hx hb dX6_losersAt_62 ?_
  obtain ⟨h63, hf⟩ := pg_some hf
  refine va_lald hx hb hK.1 hP 1 1 rfl rfl h63 dX6_losersAt_63 ?_
  refine W.lcmp hx hb dX6_losersAt_64 ?_
  refine lv_if_le (tgt := 72) hx hb dX6_losersAt_65 (by decide) (fun c65 => ?_) (fun c65 => ?_)
  · have hf := pif_t c65 hf
    refine lv_iconst (v := 0) hx hb dX6_losersAt_72 (by decide) ?_
    exact hB73 (c_trial_second (c_open x1.toNatClampNeg).toNatClampNeg) ((2 * x2) * 6) (((2 * x2) * 6) + 6) 0 H locs ls hf hP hD hS (lv_sub hl [4, 2, 1, 0] rfl)
  · have hf := pif_f c65 hf
    refine lv_iconst (v := 1) hx hb dX6_losersAt_68 (by decide) ?_
    refine lv_goto (tgt := 73) hx hb dX6_losersAt_69 (by decide) ?_
    exact hB73 (c_trial_second (c_open x1.toNatClampNeg).toNatClampNeg) ((2 * x2) * 6) (((2 * x2) * 6) + 6) 1 H locs ls hf hP hD hS (lv_sub hl [4, 2, 1, 0] rfl)
def fX6_countBack_86 (N : Nat) (v_depth : Int32) (c_ofFirst : Nat → Int32) (c_open : Nat → Int32) (v_rules_sides : Int32) (c_trial_first : Nat → Int32) (c_trial_second : Nat → Int32) (k18 : Int32 → Int32 → Int32 → (Nat → Int64) → Option (Int32 × Int32 × (Nat → Int64))) (x1 : Int32) (v_firstPaying : Int32) (v_unwanted : Int32) (c_leaf : Nat → Int64) : Option (Int32 × Int32 × (Nat → Int64)) := k18 (x1 + (-1)) v_firstPaying v_unwanted c_leaf
def fX6_countBack_29 (N : Nat) (v_depth : Int32) (c_ofFirst : Nat → Int32) (c_open : Nat → Int32) (v_rules_sides : Int32) (c_trial_first : Nat → Int32) (c_trial_second : Nat → Int32) (k18 : Int32 → Int32 → Int32 → (Nat → Int64) → Option (Int32 × Int32 × (Nat → Int64))) : Nat → Int32 → Int32 → Int32 → Int32 → Int32 → (Nat → Int64) → Option (Int32 × Int32 × (Nat → Int64))
  | 0, _, _, _, _, _, _ => none
  | n + 1, x1, x2, x3, v_firstPaying, v_unwanted, c_leaf => pif ((1 <<< (x1 &&& 31)) ≤ x3) (pif (v_unwanted ≤ x2) (fX6_countBack_86 N v_depth c_ofFirst c_open v_rules_sides c_trial_first c_trial_second k18 x1 v_firstPaying v_unwanted c_leaf) (pg (inr x1 7) (fX6_countBack_86 N v_depth c_ofFirst c_open v_rules_sides c_trial_first c_trial_second k18 x1 (c_open x1.toNatClampNeg) v_unwanted c_leaf))) (pb (fX6_losersAt N c_leaf c_open c_trial_first c_trial_second x1 x3) (fun q44 => pg (inr x1 7) (pb (fX6_join N c_leaf v_rules_sides x3 (c_ofFirst x1.toNatClampNeg)) (fun q59 => (fX6_countBack_29 N v_depth c_ofFirst c_open v_rules_sides c_trial_first c_trial_second k18 n) x1 x2 (x3 + 1) v_firstPaying (v_unwanted + q44) q59))))
def fX6_countBack_18 (N : Nat) (v_depth : Int32) (c_ofFirst : Nat → Int32) (c_open : Nat → Int32) (v_rules_sides : Int32) (c_trial_first : Nat → Int32) (c_trial_second : Nat → Int32) : Nat → Int32 → Int32 → Int32 → (Nat → Int64) → Option (Int32 × Int32 × (Nat → Int64))
  | 0, _, _, _, _ => none
  | n + 1, x1, v_firstPaying, v_unwanted, c_leaf => pif (x1 < 0) (some (v_firstPaying, v_unwanted, c_leaf)) (fX6_countBack_29 N v_depth c_ofFirst c_open v_rules_sides c_trial_first c_trial_second (fX6_countBack_18 N v_depth c_ofFirst c_open v_rules_sides c_trial_first c_trial_second n) N x1 v_unwanted 0 v_firstPaying v_unwanted c_leaf)
def fX6_countBack (N : Nat) (v_depth : Int32) (v_firstPaying : Int32) (v_unwanted : Int32) (c_leaf : Nat → Int64) (c_ofFirst : Nat → Int32) (c_open : Nat → Int32) (v_rules_sides : Int32) (c_trial_first : Nat → Int32) (c_trial_second : Nat → Int32) : Option (Int32 × Int32 × (Nat → Int64)) := fX6_countBack_18 N v_depth c_ofFirst c_open v_rules_sides c_trial_first c_trial_second N (v_depth - 1) (-4) 0 c_leaf
def wdX6_countBack (cyI cyJ cyB cyS : ClassId) (h0 : Nat) (a_leaf : Nat) (a_ofFirst : Nat) (a_open : Nat) (a_rules : Nat) (a_trial : Nat) (a_trial_first : Nat) (a_trial_second : Nat) (a_column : Nat) (a_value : Nat) (a_ofPair : Nat) (a_standing : Nat) (a_rules_strength : Nat) (a_rules_placeWorth : Nat) (a_rules_choiceWorth : Nat) (a_rules_balls : Nat) (a_rules_wheel : Nat) (a_trial_ending : Nat) (v_depth : Int32) (v_pair : Int32) (v_settled : Int32) (v_unwanted : Int32) (v_firstPaying : Int32) (c_leaf : Nat → Int64) (c_ofFirst : Nat → Int32) (c_open : Nat → Int32) (v_rules_sides : Int32) (v_rules_kind : Int32) (v_rules_rounds : Int32) (v_trial_size : Int32) (c_trial_first : Nat → Int32) (c_trial_second : Nat → Int32) : va_W := [(h0, .inr (6, [.ref a_leaf, .ref a_column, .ref a_value, .ref a_open, .ref a_ofFirst, .ref a_ofPair, .ref a_trial, .ref a_standing, .ref a_rules, .int v_depth, .int v_pair, .int v_settled, .int v_unwanted, .int v_firstPaying])), (a_leaf, .inl (cyJ, 768, .inr (.inl c_leaf))), (a_ofFirst, .inl (cyI, 7, .inl c_ofFirst)), (a_open, .inl (cyI, 7, .inl c_open)), (a_rules, .inr (2, [.ref a_rules_strength, .ref a_rules_placeWorth, .ref a_rules_choiceWorth, .ref a_rules_balls, .ref a_rules_wheel, .int v_rules_sides, .int v_rules_kind, .int v_rules_rounds])), (a_trial, .inr (0, [.ref a_trial_first, .ref a_trial_second, .ref a_trial_ending, .int v_trial_size])), (a_trial_first, .inl (cyI, 30, .inl c_trial_first)), (a_trial_second, .inl (cyI, 30, .inl c_trial_second))]
abbrev rmX6_countBack : Room := { frames := 2, cells := 0, slots := 0, locals := 48 }
set_option maxHeartbeats 40000000 in
set_option maxRecDepth 100000 in
theorem mX6_countBack (l : Launch) (D : va_G) (cyI cyJ cyB cyS : ClassId) (N : Nat) (sz : Nat) (h0 : Nat) (a_leaf : Nat) (a_ofFirst : Nat) (a_open : Nat) (a_rules : Nat) (a_trial : Nat) (a_trial_first : Nat) (a_trial_second : Nat) (a_column : Nat) (a_value : Nat) (a_ofPair : Nat) (a_standing : Nat) (a_rules_strength : Nat) (a_rules_placeWorth : Nat) (a_rules_choiceWorth : Nat) (a_rules_balls : Nat) (a_rules_wheel : Nat) (a_trial_ending : Nat) (v_depth : Int32) (v_pair : Int32) (v_settled : Int32) (v_unwanted : Int32) (v_firstPaying : Int32) (c_leaf : Nat → Int64) (c_ofFirst : Nat → Int32) (c_open : Nat → Int32) (v_rules_sides : Int32) (v_rules_kind : Int32) (v_rules_rounds : Int32) (v_trial_size : Int32) (c_trial_first : Nat → Int32) (c_trial_second : Nat → Int32) (q : Int32 × Int32 × (Nat → Int64)) (hf : fX6_countBack N v_depth v_firstPaying v_unwanted c_leaf c_ofFirst c_open v_rules_sides c_trial_first c_trial_second = some q) : Met l yX6_countBack (wS yX6_countBack cX6_countBack 4 none) rmX6_countBack (va_Pc [.ref h0] (PP D cyI cyJ cyB cyS (wdX6_countBack cyI cyJ cyB cyS h0 a_leaf a_ofFirst a_open a_rules a_trial a_trial_first a_trial_second a_column a_value a_ofPair a_standing a_rules_strength a_rules_placeWorth a_rules_choiceWorth a_rules_balls a_rules_wheel a_trial_ending v_depth v_pair v_settled v_unwanted v_firstPaying c_leaf c_ofFirst c_open v_rules_sides v_rules_kind v_rules_rounds v_trial_size c_trial_first c_trial_second) sz)) (QV D (wdX6_countBack cyI cyJ cyB cyS h0 a_leaf a_ofFirst a_open a_rules a_trial a_trial_first a_trial_second a_column a_value a_ofPair a_standing a_rules_strength a_rules_placeWorth a_rules_choiceWorth a_rules_balls a_rules_wheel a_trial_ending v_depth v_pair v_settled q.2.1 q.1 q.2.2 c_ofFirst c_open v_rules_sides v_rules_kind v_rules_rounds v_trial_size c_trial_first c_trial_second) (va_A (wdX6_countBack cyI cyJ cyB cyS h0 a_leaf a_ofFirst a_open a_rules a_trial a_trial_first a_trial_second a_column a_value a_ofPair a_standing a_rules_strength a_rules_placeWorth a_rules_choiceWorth a_rules_balls a_rules_wheel a_trial_ending v_depth v_pair v_settled v_unwanted v_firstPaying c_leaf c_ofFirst c_open v_rules_sides v_rules_kind v_rules_rounds v_trial_size c_trial_first c_trial_second) sz)) 0 0 (va_A (wdX6_countBack cyI cyJ cyB cyS h0 a_leaf a_ofFirst a_open a_rules a_trial a_trial_first a_trial_second a_column a_value a_ofPair a_standing a_rules_strength a_rules_placeWorth a_rules_choiceWorth a_rules_balls a_rules_wheel a_trial_ending v_depth v_pair v_settled v_unwanted v_firstPaying c_leaf c_ofFirst c_open v_rules_sides v_rules_kind v_rules_rounds v_trial_size c_trial_first c_trial_second) sz) := by
  refine Met.ofW (cc := cX6_countBack) (maxL := 4) (ret := none) (by decide) rfl ?_
  intro p e s m args below meth c s₁ B hml hv
  obtain ⟨rfl, hsz, hP, hK, hD0⟩ := hv
  have hx := B.exec
  have hb := B.bytes
  have hr := B.returns
  have hts := atoms_spec (ws := (wS yX6_countBack cX6_countBack 4 none)) B.pre
  have hown : s.vm.findClass RX6 = some m.cls := findClass_of_methodNamed B.named
  have hlocks := B.notSynchronized
  subst hsz
  have hD := hD0.self (sz := s.heap.size)
  refine w_nameQ (fun Q hQ => ?_)
  have hl := lv_entry ([.ref h0] : List Value) (n := 4) (Nat.le_of_ble_eq_true rfl)
  rw [lg_entry_eq]
  generalize (lg_sl ([.ref h0] : List Value) ++ List.replicate (4 - (lg_sl ([.ref h0] : List Value)).length) Slot.unset).toArray = ls at hl ⊢
  have hl : lv_has ls 4 [(0, .ref h0)] := hl
  generalize hAe : va_A (wdX6_countBack cyI cyJ cyB cyS h0 a_leaf a_ofFirst a_open a_rules a_trial a_trial_first a_trial_second a_column a_value a_ofPair a_standing a_rules_strength a_rules_placeWorth a_rules_choiceWorth a_rules_balls a_rules_wheel a_trial_ending v_depth v_pair v_settled v_unwanted v_firstPaying c_leaf c_ofFirst c_open v_rules_sides v_rules_kind v_rules_rounds v_trial_size c_trial_first c_trial_second) s.heap.size = A at hD hQ
  have hA : ∀ q : Nat, s.heap.size ≤ q → A q := fun q h => by rw [← hAe]; exact Or.inr h
  have hS : va_S A s.heap s.heap [] := va_S.rf
  generalize ([.ref h0] : List Value).toArray = av at hts hQ ⊢
  have hL : ∀ w ∈ wsL_law, w.before av s = true := fun w h => hts w (List.mem_cons_of_mem _ h)
  have w0 := hL (.fieldLink RX6 142 "LosingLeague$Tree" "unwanted" "I") (hR41 1 rfl)
  have w1 := hL (.fieldLink RX6 21 "LosingLeague$Tree" "open" "[I") (hR4 19 rfl)
  have w2 := hL (.fieldLink RX6 145 "LosingLeague$Tree" "firstPaying" "I") (hR41 2 rfl)
  have w3 := hL (.fieldLink RX6 25 "LosingLeague$Tree" "ofFirst" "[I") (hR4 20 rfl)
  have w4 := hL (.fieldLink RX6 59 "LosingLeague$Tree" "depth" "I") (hR24 16 rfl)
  have hB86 : ∀ (k18 : Int32 → Int32 → Int32 → (Nat → Int64) → Option (Int32 × Int32 × (Nat → Int64))) (hk18 : ∀ (x1 : Int32) (v_firstPaying : Int32) (v_unwanted : Int32) (c_leaf : Nat → Int64) (H : Heap) (locs : List Loc) (ls : Array Slot), k18 x1 v_firstPaying v_unwanted c_leaf = some q → va_P D vwCl (wdX6_countBack cyI cyJ cyB cyS h0 a_leaf a_ofFirst a_open a_rules a_trial a_trial_first a_trial_second a_column a_value a_ofPair a_standing a_rules_strength a_rules_placeWorth a_rules_choiceWorth a_rules_balls a_rules_wheel a_trial_ending v_depth v_pair v_settled v_unwanted v_firstPaying c_leaf c_ofFirst c_open v_rules_sides v_rules_kind v_rules_rounds v_trial_size c_trial_first c_trial_second) H → va_D A (wdX6_countBack cyI cyJ cyB cyS h0 a_leaf a_ofFirst a_open a_rules a_trial a_trial_first a_trial_second a_column a_value a_ofPair a_standing a_rules_strength a_rules_placeWorth a_rules_choiceWorth a_rules_balls a_rules_wheel a_trial_ending v_depth v_pair v_settled v_unwanted v_firstPaying c_leaf c_ofFirst c_open v_rules_sides v_rules_kind v_rules_rounds v_trial_size c_trial_first c_trial_second) → va_S A s.heap H locs → lv_has ls 4 [(0, .ref h0), (1, .int x1)] → W p l e rmX6_countBack s m av below meth c H locs 0 0 Q (F0 m 18 ls [])), ∀ (x1 : Int32) (v_firstPaying : Int32) (v_unwanted : Int32) (c_leaf : Nat → Int64) (H : Heap) (locs : List Loc) (ls : Array Slot), fX6_countBack_86 N v_depth c_ofFirst c_open v_rules_sides c_trial_first c_trial_second k18 x1 v_firstPaying v_unwanted c_leaf = some q → va_P D vwCl (wdX6_countBack cyI cyJ cyB cyS h0 a_leaf a_ofFirst a_open a_rules a_trial a_trial_first a_trial_second a_column a_value a_ofPair a_standing a_rules_strength a_rules_placeWorth a_rules_choiceWorth a_rules_balls a_rules_wheel a_trial_ending v_depth v_pair v_settled v_unwanted v_firstPaying c_leaf c_ofFirst c_open v_rules_sides v_rules_kind v_rules_rounds v_trial_size c_trial_first c_trial_second) H → va_D A (wdX6_countBack cyI cyJ cyB cyS h0 a_leaf a_ofFirst a_open a_rules a_trial a_trial_first a_trial_second a_column a_value a_ofPair a_standing a_rules_strength a_rules_placeWorth a_rules_choiceWorth a_rules_balls a_rules_wheel a_trial_ending v_depth v_pair v_settled v_unwanted v_firstPaying c_leaf c_ofFirst c_open v_rules_sides v_rules_kind v_rules_rounds v_trial_size c_trial_first c_trial_second) → va_S A s.heap H locs → lv_has ls 4 [(0, .ref h0), (1, .int x1)] → W p l e rmX6_countBack s m av below meth c H locs 0 0 Q (F0 m 86 ls []) := by
    intro k18 hk18 x1 v_firstPaying v_unwanted c_leaf H locs ls hf hP hD hS hl
    unfold fX6_countBack_86 at hf
    refine lv_iinc (v := x1 + (-1)) (lv' := [(1, .int (x1 + (-1))), (0, .ref h0)]) hx hb dX6_countBack_86 hl (k := 1) rfl rfl (by decide) rfl (fun ls hl => ?_)
    refine lv_goto (tgt := 18) hx hb dX6_countBack_89 (by decide) ?_
    exact hk18 (x1 + (-1)) v_firstPaying v_unwanted c_leaf H locs ls hf hP hD hS (lv_sub hl [1, 0] rfl)
  have hB29 : ∀ (k18 : Int32 → Int32 → Int32 → (Nat → Int64) → Option (Int32 × Int32 × (Nat → Int64))) (hk18 : ∀ (x1 : Int32) (v_firstPaying : Int32) (v_unwanted : Int32) (c_leaf : Nat → Int64) (H : Heap) (locs : List Loc) (ls : Array Slot), k18 x1 v_firstPaying v_unwanted c_leaf = some q → va_P D vwCl (wdX6_countBack cyI cyJ cyB cyS h0 a_leaf a_ofFirst a_open a_rules a_trial a_trial_first a_trial_second a_column a_value a_ofPair a_standing a_rules_strength a_rules_placeWorth a_rules_choiceWorth a_rules_balls a_rules_wheel a_trial_ending v_depth v_pair v_settled v_unwanted v_firstPaying c_leaf c_ofFirst c_open v_rules_sides v_rules_kind v_rules_rounds v_trial_size c_trial_first c_trial_second) H → va_D A (wdX6_countBack cyI cyJ cyB cyS h0 a_leaf a_ofFirst a_open a_rules a_trial a_trial_first a_trial_second a_column a_value a_ofPair a_standing a_rules_strength a_rules_placeWorth a_rules_choiceWorth a_rules_balls a_rules_wheel a_trial_ending v_depth v_pair v_settled v_unwanted v_firstPaying c_leaf c_ofFirst c_open v_rules_sides v_rules_kind v_rules_rounds v_trial_size c_trial_first c_trial_second) → va_S A s.heap H locs → lv_has ls 4 [(0, .ref h0), (1, .int x1)] → W p l e rmX6_countBack s m av below meth c H locs 0 0 Q (F0 m 18 ls [])) (n : Nat), ∀ (x1 : Int32) (x2 : Int32) (x3 : Int32) (v_firstPaying : Int32) (v_unwanted : Int32) (c_leaf : Nat → Int64) (H : Heap) (locs : List Loc) (ls : Array Slot), fX6_countBack_29 N v_depth c_ofFirst c_open v_rules_sides c_trial_first c_trial_second k18 n x1 x2 x3 v_firstPaying v_unwanted c_leaf = some q → va_P D vwCl (wdX6_countBack cyI cyJ cyB cyS h0 a_leaf a_ofFirst a_open a_rules a_trial a_trial_first a_trial_second a_column a_value a_ofPair a_standing a_rules_strength a_rules_placeWorth a_rules_choiceWorth a_rules_balls a_rules_wheel a_trial_ending v_depth v_pair v_settled v_unwanted v_firstPaying c_leaf c_ofFirst c_open v_rules_sides v_rules_kind v_rules_rounds v_trial_size c_trial_first c_trial_second) H → va_D A (wdX6_countBack cyI cyJ cyB cyS h0 a_leaf a_ofFirst a_open a_rules a_trial a_trial_first a_trial_second a_column a_value a_ofPair a_standing a_rules_strength a_rules_placeWorth a_rules_choiceWorth a_rules_balls a_rules_wheel a_trial_ending v_depth v_pair v_settled v_unwanted v_firstPaying c_leaf c_ofFirst c_open v_rules_sides v_rules_kind v_rules_rounds v_trial_size c_trial_first c_trial_second) → va_S A s.heap H locs → lv_has ls 4 [(0, .ref h0), (1, .int x1), (2, .int x2), (3, .int x3)] → W p l e rmX6_countBack s m av below meth c H locs 0 0 Q (F0 m 29 ls []) := by
    intro k18 hk18 n
    induction n with
    | zero => intro x1 x2 x3 v_firstPaying v_unwanted c_leaf H locs ls hf; exact absurd hf (by simp [fX6_countBack_29])
    | succ n hk29 =>
      intro x1 x2 x3 v_firstPaying v_unwanted c_leaf H locs ls hf hP hD hS hl
      rw [fX6_countBack_29] at hf
      refine lv_iload_n hx hb dX6_countBack_29 rfl (lv_at hl 3 rfl) ?_
      refine lv_iconst (v := 1) hx hb dX6_countBack_30 (by decide) ?_
      refine lv_iload_n hx hb dX6_countBack_31 rfl (lv_at hl 1 rfl) ?_
      refine lv_ishl hx hb dX6_countBack_32 ?_
      refine lv_icmp_ge (tgt := 68) hx hb dX6_countBack_33 (by decide) (fun c33 => ?_) (fun c33 => ?_)
      · have hf := pif_t c33 hf
        refine lv_aload_n hx hb dX6_countBack_68 rfl (lv_at hl 0 rfl) ?_
        refine va_get (D := D) (ci := 6) (v := .int v_unwanted) (C := RX6) (T := TX6) (N := 14) hx hb hL inlX6 hown hK.1 hP 0 rfl rfl 12 (by decide) w0 (fun _ h9 => h9) rfl dX6_countBack_69 ?_
        refine lv_iload_n hx hb dX6_countBack_72 rfl (lv_at hl 2 rfl) ?_
        refine lv_icmp_le (tgt := 86) hx hb dX6_countBack_73 (by decide) (fun c73 => ?_) (fun c73 => ?_)
        · have hf := pif_t c73 hf
          exact hB86 k18 hk18 x1 v_firstPaying v_unwanted c_leaf H locs ls hf hP hD hS (lv_sub hl [0, 1] rfl)
        · have hf := pif_f c73 hf
          refine lv_aload_n hx hb dX6_countBack_76 rfl (lv_at hl 0 rfl) ?_
          refine lv_aload_n hx hb dX6_countBack_77 rfl (lv_at hl 0 rfl) ?_
          refine va_get (D := D) (ci := 6) (v := .ref a_open) (C := RX6) (T := TX6) (N := 14) hx hb hL inlX6 hown hK.1 hP 0 rfl rfl 3 (by decide) w1 (fun _ h9 => h9) rfl dX6_countBack_78 ?_
          refine lv_iload_n hx hb dX6_countBack_81 rfl (lv_at hl 1 rfl) ?_
          obtain ⟨h82, hf⟩ := pg_some hf
          refine va_iald hx hb hK.1 hP 3 0 rfl rfl h82 dX6_countBack_82 ?_
          refine va_put (D := D) (ci := 6) (v := .int (c_open x1.toNatClampNeg)) (ty := .int) (C := RX6) (T := TX6) (N := 14) hx hb hL inlX6 tyX6 tyX6_ok nmX6 hown hK.1 hP hD hS 0 rfl rfl 13 (by decide) w2 (fun _ h9 => h9) rfl (by decide +kernel) rfl rfl (Nat.le_of_ble_eq_true rfl) dX6_countBack_83 (fun H locs hP hD hS => ?_)
          have hP : va_P D vwCl (wdX6_countBack cyI cyJ cyB cyS h0 a_leaf a_ofFirst a_open a_rules a_trial a_trial_first a_trial_second a_column a_value a_ofPair a_standing a_rules_strength a_rules_placeWorth a_rules_choiceWorth a_rules_balls a_rules_wheel a_trial_ending v_depth v_pair v_settled v_unwanted (c_open x1.toNatClampNeg) c_leaf c_ofFirst c_open v_rules_sides v_rules_kind v_rules_rounds v_trial_size c_trial_first c_trial_second) H := hP
          have hD : va_D A (wdX6_countBack cyI cyJ cyB cyS h0 a_leaf a_ofFirst a_open a_rules a_trial a_trial_first a_trial_second a_column a_value a_ofPair a_standing a_rules_strength a_rules_placeWorth a_rules_choiceWorth a_rules_balls a_rules_wheel a_trial_ending v_depth v_pair v_settled v_unwanted (c_open x1.toNatClampNeg) c_leaf c_ofFirst c_open v_rules_sides v_rules_kind v_rules_rounds v_trial_size c_trial_first c_trial_second) := hD
          exact hB86 k18 hk18 x1 (c_open x1.toNatClampNeg) v_unwanted c_leaf H locs ls hf hP hD hS (lv_sub hl [0, 1] rfl)
      · have hf := pif_f c33 hf
        refine lv_aload_n hx hb dX6_countBack_36 rfl (lv_at hl 0 rfl) ?_
        refine lv_dup hx hb dX6_countBack_37 rfl ?_
        refine va_get (D := D) (ci := 6) (v := .int v_unwanted) (C := RX6) (T := TX6) (N := 14) hx hb hL inlX6 hown hK.1 hP 0 rfl rfl 12 (by decide) w0 (fun _ h9 => h9) rfl dX6_countBack_38 ?_
        refine lv_aload_n hx hb dX6_countBack_41 rfl (lv_at hl 0 rfl) ?_
        refine lv_iload_n hx hb dX6_countBack_42 rfl (lv_at hl 1 rfl) ?_
        refine lv_iload_n hx hb dX6_countBack_43 rfl (lv_at hl 3 rfl) ?_
        obtain ⟨q44, e44, hf⟩ := pb_some hf
        refine cs_i (wc := (wdX6_losersAt cyI cyJ cyB cyS h0 a_leaf a_open a_trial a_trial_first a_trial_second a_column a_value a_ofFirst a_ofPair a_standing a_rules a_trial_ending v_depth v_pair v_settled v_unwanted v_firstPaying c_leaf c_open v_trial_size c_trial_first c_trial_second)) (w1 := (wdX6_losersAt cyI cyJ cyB cyS h0 a_leaf a_open a_trial a_trial_first a_trial_second a_column a_value a_ofFirst a_ofPair a_standing a_rules a_trial_ending v_depth v_pair v_settled v_unwanted v_firstPaying c_leaf c_open v_trial_size c_trial_first c_trial_second)) hP hD hS hA [0, 1, 3, 5, 6, 7] rfl rfl rfl (va_runV (C := RX6) (As := [.int x1, .int x3]) (rest := [.int v_unwanted, .ref h0]) ⟨hx, hb, hml, hown, hL⟩ (mX6_losersAt l D cyI cyJ cyB cyS N H.size h0 a_leaf a_open a_trial a_trial_first a_trial_second a_column a_value a_ofFirst a_ofPair a_standing a_rules a_trial_ending v_depth v_pair v_settled v_unwanted v_firstPaying c_leaf c_open v_trial_size c_trial_first c_trial_second x1 x3 q44 e44) (cwV 2 hL (gV (hR41 3 rfl) (hR41 4 rfl) (hR41 5 rfl) (hR2 7 rfl) (hR41 6 rfl)) rfl rfl rfl (by decide +kernel) ⟨Nat.le_of_ble_eq_true rfl, Nat.le_of_ble_eq_true rfl⟩) (PP_preV (ci := 6) (q0 := 0) hP hD hK [0, 1, 3, 5, 6, 7] rfl rfl rfl rfl) rfl rfl hl.1 rfl (lv_room (Nat.le_of_ble_eq_true rfl)) dX6_countBack_44 ⟨Nat.le_of_ble_eq_true rfl, Nat.le_of_ble_eq_true rfl⟩) (fun H locs hP hD hS => ?_)
        have hP : va_P D vwCl (wdX6_countBack cyI cyJ cyB cyS h0 a_leaf a_ofFirst a_open a_rules a_trial a_trial_first a_trial_second a_column a_value a_ofPair a_standing a_rules_strength a_rules_placeWorth a_rules_choiceWorth a_rules_balls a_rules_wheel a_trial_ending v_depth v_pair v_settled v_unwanted v_firstPaying c_leaf c_ofFirst c_open v_rules_sides v_rules_kind v_rules_rounds v_trial_size c_trial_first c_trial_second) H := hP
        have hD : va_D A (wdX6_countBack cyI cyJ cyB cyS h0 a_leaf a_ofFirst a_open a_rules a_trial a_trial_first a_trial_second a_column a_value a_ofPair a_standing a_rules_strength a_rules_placeWorth a_rules_choiceWorth a_rules_balls a_rules_wheel a_trial_ending v_depth v_pair v_settled v_unwanted v_firstPaying c_leaf c_ofFirst c_open v_rules_sides v_rules_kind v_rules_rounds v_trial_size c_trial_first c_trial_second) := hD
        refine lv_iadd hx hb dX6_countBack_47 ?_
        refine va_put (D := D) (ci := 6) (v := .int (v_unwanted + q44)) (ty := .int) (C := RX6) (T := TX6) (N := 14) hx hb hL inlX6 tyX6 tyX6_ok nmX6 hown hK.1 hP hD hS 0 rfl rfl 12 (by decide) w0 (fun _ h9 => h9) rfl (by decide +kernel) rfl rfl (Nat.le_of_ble_eq_true rfl) dX6_countBack_48 (fun H locs hP hD hS => ?_)
        have hP : va_P D vwCl (wdX6_countBack cyI cyJ cyB cyS h0 a_leaf a_ofFirst a_open a_rules a_trial a_trial_first a_trial_second a_column a_value a_ofPair a_standing a_rules_strength a_rules_placeWorth a_rules_choiceWorth a_rules_balls a_rules_wheel a_trial_ending v_depth v_pair v_settled (v_unwanted + q44) v_firstPaying c_leaf c_ofFirst c_open v_rules_sides v_rules_kind v_rules_rounds v_trial_size c_trial_first c_trial_second) H := hP
        have hD : va_D A (wdX6_countBack cyI cyJ cyB cyS h0 a_leaf a_ofFirst a_open a_rules a_trial a_trial_first a_trial_second a_column a_value a_ofPair a_standing a_rules_strength a_rules_placeWorth a_rules_choiceWorth a_rules_balls a_rules_wheel a_trial_ending v_depth v_pair v_settled (v_unwanted + q44) v_firstPaying c_leaf c_ofFirst c_open v_rules_sides v_rules_kind v_rules_rounds v_trial_size c_trial_first c_trial_second) := hD
        refine lv_aload_n hx hb dX6_countBack_51 rfl (lv_at hl 0 rfl) ?_
        refine lv_iload_n hx hb dX6_countBack_52 rfl (lv_at hl 3 rfl) ?_
        refine lv_aload_n hx hb dX6_countBack_53 rfl (lv_at hl 0 rfl) ?_
        refine va_get (D := D) (ci := 6) (v := .ref a_ofFirst) (C := RX6) (T := TX6) (N := 14) hx hb hL inlX6 hown hK.1 hP 0 rfl rfl 4 (by decide) w3 (fun _ h9 => h9) rfl dX6_countBack_54 ?_
        refine lv_iload_n hx hb dX6_countBack_57 rfl (lv_at hl 1 rfl) ?_
        obtain ⟨h58, hf⟩ := pg_some hf
        refine va_iald hx hb hK.1 hP 2 0 rfl rfl h58 dX6_countBack_58 ?_
        obtain ⟨q59, e59, hf⟩ := pb_some hf
        refine cs_v (wc := (wdX6_join cyI cyJ cyB cyS h0 a_leaf a_rules a_column a_value a_open a_ofFirst a_ofPair a_trial a_standing a_rules_strength a_rules_placeWorth a_rules_choiceWorth a_rules_balls a_rules_wheel v_depth v_pair v_settled (v_unwanted + q44) v_firstPaying c_leaf v_rules_sides v_rules_kind v_rules_rounds)) (w1 := (wdX6_join cyI cyJ cyB cyS h0 a_leaf a_rules a_column a_value a_open a_ofFirst a_ofPair a_trial a_standing a_rules_strength a_rules_placeWorth a_rules_choiceWorth a_rules_balls a_rules_wheel v_depth v_pair v_settled (v_unwanted + q44) v_firstPaying q59 v_rules_sides v_rules_kind v_rules_rounds)) hP hD hS hA [0, 1, 4] rfl rfl rfl (va_runV (C := RX6) (As := [.int x3, .int (c_ofFirst x1.toNatClampNeg)]) (rest := []) ⟨hx, hb, hml, hown, hL⟩ (mX6_join l D cyI cyJ cyB cyS N H.size h0 a_leaf a_rules a_column a_value a_open a_ofFirst a_ofPair a_trial a_standing a_rules_strength a_rules_placeWorth a_rules_choiceWorth a_rules_balls a_rules_wheel v_depth v_pair v_settled (v_unwanted + q44) v_firstPaying c_leaf v_rules_sides v_rules_kind v_rules_rounds x3 (c_ofFirst x1.toNatClampNeg) q59 e59) (cwV 2 hL (gV (hR38 19 rfl) (hR38 20 rfl) (hR38 21 rfl) (hR2 7 rfl) (hR38 22 rfl)) rfl rfl rfl (by decide +kernel) ⟨Nat.le_of_ble_eq_true rfl, Nat.le_of_ble_eq_true rfl⟩) (PP_preV (ci := 6) (q0 := 0) hP hD hK [0, 1, 4] rfl rfl rfl rfl) rfl rfl hl.1 rfl (lv_room (Nat.le_of_ble_eq_true rfl)) dX6_countBack_59 ⟨Nat.le_of_ble_eq_true rfl, Nat.le_of_ble_eq_true rfl⟩) (fun H locs hP hD hS => ?_)
        have hP : va_P D vwCl (wdX6_countBack cyI cyJ cyB cyS h0 a_leaf a_ofFirst a_open a_rules a_trial a_trial_first a_trial_second a_column a_value a_ofPair a_standing a_rules_strength a_rules_placeWorth a_rules_choiceWorth a_rules_balls a_rules_wheel a_trial_ending v_depth v_pair v_settled (v_unwanted + q44) v_firstPaying q59 c_ofFirst c_open v_rules_sides v_rules_kind v_rules_rounds v_trial_size c_trial_first c_trial_second) H := hP
        have hD : va_D A (wdX6_countBack cyI cyJ cyB cyS h0 a_leaf a_ofFirst a_open a_rules a_trial a_trial_first a_trial_second a_column a_value a_ofPair a_standing a_rules_strength a_rules_placeWorth a_rules_choiceWorth a_rules_balls a_rules_wheel a_trial_ending v_depth v_pair v_settled (v_unwanted + q44) v_firstPaying q59 c_ofFirst c_open v_rules_sides v_rules_kind v_rules_rounds v_trial_size c_trial_first c_trial_second) := hD
        refine lv_iinc (v := x3 + 1) (lv' := [(3, .int (x3 + 1)), (0, .ref h0), (1, .int x1), (2, .int x2)]) hx hb dX6_countBack_62 hl (k := 3) rfl rfl (by decide) rfl (fun ls hl => ?_)
        refine lv_goto (tgt := 29) hx hb dX6_countBack_65 (by decide) ?_
        exact hk29 x1 x2 (x3 + 1) v_firstPaying (v_unwanted + q44) q59 H locs ls hf hP hD hS (lv_sub hl [1, 2, 3, 0] rfl)
  have hB18 : ∀ (n : Nat), ∀ (x1 : Int32) (v_firstPaying : Int32) (v_unwanted : Int32) (c_leaf : Nat → Int64) (H : Heap) (locs : List Loc) (ls : Array Slot), fX6_countBack_18 N v_depth c_ofFirst c_open v_rules_sides c_trial_first c_trial_second n x1 v_firstPaying v_unwanted c_leaf = some q → va_P D vwCl (wdX6_countBack cyI cyJ cyB cyS h0 a_leaf a_ofFirst a_open a_rules a_trial a_trial_first a_trial_second a_column a_value a_ofPair a_standing a_rules_strength a_rules_placeWorth a_rules_choiceWorth a_rules_balls a_rules_wheel a_trial_ending v_depth v_pair v_settled v_unwanted v_firstPaying c_leaf c_ofFirst c_open v_rules_sides v_rules_kind v_rules_rounds v_trial_size c_trial_first c_trial_second) H → va_D A (wdX6_countBack cyI cyJ cyB cyS h0 a_leaf a_ofFirst a_open a_rules a_trial a_trial_first a_trial_second a_column a_value a_ofPair a_standing a_rules_strength a_rules_placeWorth a_rules_choiceWorth a_rules_balls a_rules_wheel a_trial_ending v_depth v_pair v_settled v_unwanted v_firstPaying c_leaf c_ofFirst c_open v_rules_sides v_rules_kind v_rules_rounds v_trial_size c_trial_first c_trial_second) → va_S A s.heap H locs → lv_has ls 4 [(0, .ref h0), (1, .int x1)] → W p l e rmX6_countBack s m av below meth c H locs 0 0 Q (F0 m 18 ls []) := by
    intro n
    induction n with
    | zero => intro x1 v_firstPaying v_unwanted c_leaf H locs ls hf; exact absurd hf (by simp [fX6_countBack_18])
    | succ n hk18 =>
      intro x1 v_firstPaying v_unwanted c_leaf H locs ls hf hP hD hS hl
      rw [fX6_countBack_18] at hf
      refine lv_iload_n hx hb dX6_countBack_18 rfl (lv_at hl 1 rfl) ?_
      refine lv_if_lt (tgt := 92) hx hb dX6_countBack_19 (by decide) (fun c19 => ?_) (fun c19 => ?_)
      · have hf := pif_t c19 hf
        exact ret_v (q := q) (wp := fun q => (wdX6_countBack cyI cyJ cyB cyS h0 a_leaf a_ofFirst a_open a_rules a_trial a_trial_first a_trial_second a_column a_value a_ofPair a_standing a_rules_strength a_rules_placeWorth a_rules_choiceWorth a_rules_balls a_rules_wheel a_trial_ending v_depth v_pair v_settled q.2.1 q.1 q.2.2 c_ofFirst c_open v_rules_sides v_rules_kind v_rules_rounds v_trial_size c_trial_first c_trial_second)) hQ hf hx hb hr hlocks hP hD hS dX6_countBack_92
      · have hf := pif_f c19 hf
        refine lv_aload_n hx hb dX6_countBack_22 rfl (lv_at hl 0 rfl) ?_
        refine va_get (D := D) (ci := 6) (v := .int v_unwanted) (C := RX6) (T := TX6) (N := 14) hx hb hL inlX6 hown hK.1 hP 0 rfl rfl 12 (by decide) w0 (fun _ h9 => h9) rfl dX6_countBack_23 ?_
        refine lv_istore_n (lv' := [(2, .int v_unwanted), (0, .ref h0), (1, .int x1)]) hx hb dX6_countBack_26 rfl hl (by decide) rfl (fun ls hl => ?_)
        refine lv_iconst (v := 0) hx hb dX6_countBack_27 (by decide) ?_
        refine lv_istore_n (lv' := [(3, .int 0), (2, .int v_unwanted), (0, .ref h0), (1, .int x1)]) hx hb dX6_countBack_28 rfl hl (by decide) rfl (fun ls hl => ?_)
        exact hB29 (fX6_countBack_18 N v_depth c_ofFirst c_open v_rules_sides c_trial_first c_trial_second n) hk18 N x1 v_unwanted 0 v_firstPaying v_unwanted c_leaf H locs ls hf hP hD hS (lv_sub hl [2, 3, 1, 0] rfl)
  unfold fX6_countBack at hf
  obtain ⟨H, hH⟩ : ∃ H : Heap, H = s.heap := ⟨_, rfl⟩
  obtain ⟨locs, hlo⟩ : ∃ locs : List Loc, locs = [] := ⟨_, rfl⟩
  have hP : va_P D vwCl (wdX6_countBack cyI cyJ cyB cyS h0 a_leaf a_ofFirst a_open a_rules a_trial a_trial_first a_trial_second a_column a_value a_ofPair a_standing a_rules_strength a_rules_placeWorth a_rules_choiceWorth a_rules_balls a_rules_wheel a_trial_ending v_depth v_pair v_settled v_unwanted v_firstPaying c_leaf c_ofFirst c_open v_rules_sides v_rules_kind v_rules_rounds v_trial_size c_trial_first c_trial_second) H := by rw [hH]; exact hP
  have hS : va_S A s.heap H locs := by rw [hH, hlo]; exact hS
  suffices hw : W p l e rmX6_countBack s m av below meth c H locs 0 0 Q (F0 m 0 ls []) by rw [hH, hlo] at hw; exact hw
  refine lv_aload_n hx hb dX6_countBack_0 rfl (lv_at hl 0 rfl) ?_
  refine lv_iconst (v := 0) hx hb dX6_countBack_1 (by decide) ?_
  refine va_put (D := D) (ci := 6) (v := .int 0) (ty := .int) (C := RX6) (T := TX6) (N := 14) hx hb hL inlX6 tyX6 tyX6_ok nmX6 hown hK.1 hP hD hS 0 rfl rfl 12 (by decide) w0 (fun _ h9 => h9) rfl (by decide +kernel) rfl rfl (Nat.le_of_ble_eq_true rfl) dX6_countBack_2 (fun H locs hP hD hS => ?_)
  have hP : va_P D vwCl (wdX6_countBack cyI cyJ cyB cyS h0 a_leaf a_ofFirst a_open a_rules a_trial a_trial_first a_trial_second a_column a_value a_ofPair a_standing a_rules_strength a_rules_placeWorth a_rules_choiceWorth a_rules_balls a_rules_wheel a_trial_ending v_depth v_pair v_settled 0 v_firstPaying c_leaf c_ofFirst c_open v_rules_sides v_rules_kind v_rules_rounds v_trial_size c_trial_first c_trial_second) H := hP
  have hD : va_D A (wdX6_countBack cyI cyJ cyB cyS h0 a_leaf a_ofFirst a_open a_rules a_trial a_trial_first a_trial_second a_column a_value a_ofPair a_standing a_rules_strength a_rules_placeWorth a_rules_choiceWorth a_rules_balls a_rules_wheel a_trial_ending v_depth v_pair v_settled 0 v_firstPaying c_leaf c_ofFirst c_open v_rules_sides v_rules_kind v_rules_rounds v_trial_size c_trial_first c_trial_second) := hD
  refine lv_aload_n hx hb dX6_countBack_5 rfl (lv_at hl 0 rfl) ?_
  refine lv_bipush (v := (-4)) hx hb dX6_countBack_6 (by decide) ?_
  refine va_put (D := D) (ci := 6) (v := .int (-4)) (ty := .int) (C := RX6) (T := TX6) (N := 14) hx hb hL inlX6 tyX6 tyX6_ok nmX6 hown hK.1 hP hD hS 0 rfl rfl 13 (by decide) w2 (fun _ h9 => h9) rfl (by decide +kernel) rfl rfl (Nat.le_of_ble_eq_true rfl) dX6_countBack_8 (fun H locs hP hD hS => ?_)
  have hP : va_P D vwCl (wdX6_countBack cyI cyJ cyB cyS h0 a_leaf a_ofFirst a_open a_rules a_trial a_trial_first a_trial_second a_column a_value a_ofPair a_standing a_rules_strength a_rules_placeWorth a_rules_choiceWorth a_rules_balls a_rules_wheel a_trial_ending v_depth v_pair v_settled 0 (-4) c_leaf c_ofFirst c_open v_rules_sides v_rules_kind v_rules_rounds v_trial_size c_trial_first c_trial_second) H := hP
  have hD : va_D A (wdX6_countBack cyI cyJ cyB cyS h0 a_leaf a_ofFirst a_open a_rules a_trial a_trial_first a_trial_second a_column a_value a_ofPair a_standing a_rules_strength a_rules_placeWorth a_rules_choiceWorth a_rules_balls a_rules_wheel a_trial_ending v_depth v_pair v_settled 0 (-4) c_leaf c_ofFirst c_open v_rules_sides v_rules_kind v_rules_rounds v_trial_size c_trial_first c_trial_second) := hD
  refine lv_aload_n hx hb dX6_countBack_11 rfl (lv_at hl 0 rfl) ?_
  refine va_get (D := D) (ci := 6) (v := .int v_depth) (C := RX6) (T := TX6) (N := 14) hx hb hL inlX6 hown hK.1 hP 0 rfl rfl 9 (by decide) w4 (fun _ h9 => h9) rfl dX6_countBack_12 ?_
  refine lv_iconst (v := 1) hx hb dX6_countBack_15 (by decide) ?_
  refine lv_isub hx hb dX6_countBack_16 ?_
  refine lv_istore_n (lv' := [(1, .int (v_depth - 1)), (0, .ref h0)]) hx hb dX6_countBack_17 rfl hl (by decide) rfl (fun ls hl => ?_)
  exact hB18 N (v_depth - 1) (-4) 0 c_leaf H locs ls hf hP hD hS (lv_sub hl [1, 0] rfl)
def fX8_rested (N : Nat) (x0 : Int32) : Option (Int32) := some (if (1 : Int32) < (x0 / 2) then (x0 / 2) else (1 : Int32))
abbrev rmX8_rested : Room := { frames := 1, cells := 0, slots := 0, locals := 21 }
set_option maxHeartbeats 40000000 in
set_option maxRecDepth 100000 in
theorem mX8_rested (l : Launch) (D : va_G) (cyI cyJ cyB cyS : ClassId) (N : Nat) (sz : Nat)  (x0 : Int32) (q : Int32) (hf : fX8_rested N x0 = some q) : Met l yX8_rested (wS yX8_rested cX8_rested 1 (some .int)) rmX8_rested (va_Pc [.int x0] (PP D cyI cyJ cyB cyS [] sz)) (QI q D [] (va_A [] sz)) 0 0 (va_A [] sz) := by
  refine Met.ofW (cc := cX8_rested) (maxL := 1) (ret := (some .int)) (by decide) rfl ?_
  intro p e s m args below meth c s₁ B hml hv
  obtain ⟨rfl, hsz, hP, hK, hD0⟩ := hv
  have hx := B.exec
  have hb := B.bytes
  have hr := B.returns
  have hts := atoms_spec (ws := (wS yX8_rested cX8_rested 1 (some .int))) B.pre
  have hown : s.vm.findClass RX8 = some m.cls := findClass_of_methodNamed B.named
  have hlocks := B.notSynchronized
  subst hsz
  have hD := hD0.self (sz := s.heap.size)
  refine w_nameQ (fun Q hQ => ?_)
  have hl := lv_entry ([.int x0] : List Value) (n := 1) (Nat.le_of_ble_eq_true rfl)
  rw [lg_entry_eq]
  generalize (lg_sl ([.int x0] : List Value) ++ List.replicate (1 - (lg_sl ([.int x0] : List Value)).length) Slot.unset).toArray = ls at hl ⊢
  have hl : lv_has ls 1 [(0, .int x0)] := hl
  generalize hAe : va_A [] s.heap.size = A at hD hQ
  have hA : ∀ q : Nat, s.heap.size ≤ q → A q := fun q h => by rw [← hAe]; exact Or.inr h
  have hS : va_S A s.heap s.heap [] := va_S.rf
  generalize ([.int x0] : List Value).toArray = av at hts hQ ⊢
  have hL : ∀ w ∈ wsL_law, w.before av s = true := fun w h => hts w (List.mem_cons_of_mem _ h)
  have w0 := hL (.methodLink RX8 352 Lib.Math.max.name) (hR21 2 rfl)
  have w1 := hL (.static Lib.Math.max.name) (hR21 3 rfl)
  have w2 := hL (.initialized "java/lang/Math") (hR21 0 rfl)
  have w3 := hL (.code Lib.Math.max.name Lib.Math.max.code 2 (some .int)) (hR21 4 rfl)
  unfold fX8_rested at hf
  obtain ⟨H, hH⟩ : ∃ H : Heap, H = s.heap := ⟨_, rfl⟩
  obtain ⟨locs, hlo⟩ : ∃ locs : List Loc, locs = [] := ⟨_, rfl⟩
  have hP : va_P D vwCl [] H := by rw [hH]; exact hP
  have hS : va_S A s.heap H locs := by rw [hH, hlo]; exact hS
  suffices hw : W p l e rmX8_rested s m av below meth c H locs 0 0 Q (F0 m 0 ls []) by rw [hH, hlo] at hw; exact hw
  refine lv_iconst (v := 1) hx hb dX8_rested_0 (by decide) ?_
  refine lv_iload_n hx hb dX8_rested_1 rfl (lv_at hl 0 rfl) ?_
  refine lv_iconst (v := 2) hx hb dX8_rested_2 (by decide) ?_
  refine lv_idiv hx hb dX8_rested_3 (by decide) ?_
  refine va_mmax hx hb (hml.trans hl.1.symm) hown w0 w1 w2 w3 (Nat.le_of_ble_eq_true rfl) (Nat.le_of_ble_eq_true rfl) (Nat.zero_le _) (Nat.zero_le _) dX8_rested_4 ?_
  exact ret_i (q := q) (g := fun q => q) (wp := fun q => []) hQ hf hx hb hr hlocks hP hD hS dX8_rested_7 rfl
def fX6_weighPairs_91 (N : Nat) (c_open : Nat → Int32) (c_rules_strength : Nat → Int32) (c_trial_first : Nat → Int32) (c_trial_second : Nat → Int32) (x1 : Int32) (k49 : Int32 → Int32 → Int32 → (Nat → Int32) → Option ((Nat → Int32))) (x2 : Int32) (x3 : Int32) (x4 : Int32) (s1 : Int32) (s2 : Int32) (s3 : Int32) (c_ofPair : Nat → Int32) : Option ((Nat → Int32)) := pb (fX8_chance N s2 s3) (fun q91 => pg (inr s1 4) (k49 x2 x3 (x4 + 1) (upd c_ofPair s1.toNatClampNeg q91)))
def fX6_weighPairs_76 (N : Nat) (c_open : Nat → Int32) (c_rules_strength : Nat → Int32) (c_trial_first : Nat → Int32) (c_trial_second : Nat → Int32) (x1 : Int32) (k49 : Int32 → Int32 → Int32 → (Nat → Int32) → Option ((Nat → Int32))) (x2 : Int32) (x3 : Int32) (x4 : Int32) (s1 : Int32) (s2 : Int32) (c_ofPair : Nat → Int32) : Option ((Nat → Int32)) := pif ((x4 &&& 1) = 0) (fX6_weighPairs_91 N c_open c_rules_strength c_trial_first c_trial_second x1 k49 x2 x3 x4 s1 s2 x3 c_ofPair) (pb (fX8_rested N x3) (fun q84 => fX6_weighPairs_91 N c_open c_rules_strength c_trial_first c_trial_second x1 k49 x2 x3 x4 s1 s2 q84 c_ofPair))
def fX6_weighPairs_49 (N : Nat) (c_open : Nat → Int32) (c_rules_strength : Nat → Int32) (c_trial_first : Nat → Int32) (c_trial_second : Nat → Int32) (x1 : Int32) : Nat → Int32 → Int32 → Int32 → (Nat → Int32) → Option ((Nat → Int32))
  | 0, _, _, _, _ => none
  | n + 1, x2, x3, x4, c_ofPair => pif (4 ≤ x4) (some c_ofPair) (pif ((x4 &&& 2) = 0) (fX6_weighPairs_76 N c_open c_rules_strength c_trial_first c_trial_second x1 (fX6_weighPairs_49 N c_open c_rules_strength c_trial_first c_trial_second x1 n) x2 x3 x4 x4 x2 c_ofPair) (pb (fX8_rested N x2) (fun q69 => fX6_weighPairs_76 N c_open c_rules_strength c_trial_first c_trial_second x1 (fX6_weighPairs_49 N c_open c_rules_strength c_trial_first c_trial_second x1 n) x2 x3 x4 x4 q69 c_ofPair)))
def fX6_weighPairs (N : Nat) (c_ofPair : Nat → Int32) (c_open : Nat → Int32) (c_rules_strength : Nat → Int32) (c_trial_first : Nat → Int32) (c_trial_second : Nat → Int32) (x1 : Int32) : Option ((Nat → Int32)) := pg (inr x1 7) (pg (inr (c_open x1.toNatClampNeg) 30) (pg (inr (c_trial_first (c_open x1.toNatClampNeg).toNatClampNeg) 6) (pg (inr x1 7) (pg (inr (c_open x1.toNatClampNeg) 30) (pg (inr (c_trial_second (c_open x1.toNatClampNeg).toNatClampNeg) 6) (fX6_weighPairs_49 N c_open c_rules_strength c_trial_first c_trial_second x1 N (c_rules_strength (c_trial_first (c_open x1.toNatClampNeg).toNatClampNeg).toNatClampNeg) (c_rules_strength (c_trial_second (c_open x1.toNatClampNeg).toNatClampNeg).toNatClampNeg) 0 c_ofPair))))))
def wdX6_weighPairs (cyI cyJ cyB cyS : ClassId) (h0 : Nat) (a_ofPair : Nat) (a_open : Nat) (a_rules : Nat) (a_rules_strength : Nat) (a_trial : Nat) (a_trial_first : Nat) (a_trial_second : Nat) (a_leaf : Nat) (a_column : Nat) (a_value : Nat) (a_ofFirst : Nat) (a_standing : Nat) (a_rules_placeWorth : Nat) (a_rules_choiceWorth : Nat) (a_rules_balls : Nat) (a_rules_wheel : Nat) (a_trial_ending : Nat) (v_depth : Int32) (v_pair : Int32) (v_settled : Int32) (v_unwanted : Int32) (v_firstPaying : Int32) (c_ofPair : Nat → Int32) (c_open : Nat → Int32) (v_rules_sides : Int32) (v_rules_kind : Int32) (v_rules_rounds : Int32) (c_rules_strength : Nat → Int32) (v_trial_size : Int32) (c_trial_first : Nat → Int32) (c_trial_second : Nat → Int32) : va_W := [(h0, .inr (6, [.ref a_leaf, .ref a_column, .ref a_value, .ref a_open, .ref a_ofFirst, .ref a_ofPair, .ref a_trial, .ref a_standing, .ref a_rules, .int v_depth, .int v_pair, .int v_settled, .int v_unwanted, .int v_firstPaying])), (a_ofPair, .inl (cyI, 4, .inl c_ofPair)), (a_open, .inl (cyI, 7, .inl c_open)), (a_rules, .inr (2, [.ref a_rules_strength, .ref a_rules_placeWorth, .ref a_rules_choiceWorth, .ref a_rules_balls, .ref a_rules_wheel, .int v_rules_sides, .int v_rules_kind, .int v_rules_rounds])), (a_rules_strength, .inl (cyI, 6, .inl c_rules_strength)), (a_trial, .inr (0, [.ref a_trial_first, .ref a_trial_second, .ref a_trial_ending, .int v_trial_size])), (a_trial_first, .inl (cyI, 30, .inl c_trial_first)), (a_trial_second, .inl (cyI, 30, .inl c_trial_second))]
abbrev rmX6_weighPairs : Room := { frames := 2, cells := 0, slots := 0, locals := 43 }
set_option maxHeartbeats 40000000 in
set_option maxRecDepth 100000 in
theorem mX6_weighPairs (l : Launch) (D : va_G) (cyI cyJ cyB cyS : ClassId) (N : Nat) (sz : Nat) (h0 : Nat) (a_ofPair : Nat) (a_open : Nat) (a_rules : Nat) (a_rules_strength : Nat) (a_trial : Nat) (a_trial_first : Nat) (a_trial_second : Nat) (a_leaf : Nat) (a_column : Nat) (a_value : Nat) (a_ofFirst : Nat) (a_standing : Nat) (a_rules_placeWorth : Nat) (a_rules_choiceWorth : Nat) (a_rules_balls : Nat) (a_rules_wheel : Nat) (a_trial_ending : Nat) (v_depth : Int32) (v_pair : Int32) (v_settled : Int32) (v_unwanted : Int32) (v_firstPaying : Int32) (c_ofPair : Nat → Int32) (c_open : Nat → Int32) (v_rules_sides : Int32) (v_rules_kind : Int32) (v_rules_rounds : Int32) (c_rules_strength : Nat → Int32) (v_trial_size : Int32) (c_trial_first : Nat → Int32) (c_trial_second : Nat → Int32) (x1 : Int32) (q : (Nat → Int32)) (hf : fX6_weighPairs N c_ofPair c_open c_rules_strength c_trial_first c_trial_second x1 = some q) : Met l yX6_weighPairs (wS yX6_weighPairs cX6_weighPairs 5 none) rmX6_weighPairs (va_Pc [.ref h0, .int x1] (PP D cyI cyJ cyB cyS (wdX6_weighPairs cyI cyJ cyB cyS h0 a_ofPair a_open a_rules a_rules_strength a_trial a_trial_first a_trial_second a_leaf a_column a_value a_ofFirst a_standing a_rules_placeWorth a_rules_choiceWorth a_rules_balls a_rules_wheel a_trial_ending v_depth v_pair v_settled v_unwanted v_firstPaying c_ofPair c_open v_rules_sides v_rules_kind v_rules_rounds c_rules_strength v_trial_size c_trial_first c_trial_second) sz)) (QV D (wdX6_weighPairs cyI cyJ cyB cyS h0 a_ofPair a_open a_rules a_rules_strength a_trial a_trial_first a_trial_second a_leaf a_column a_value a_ofFirst a_standing a_rules_placeWorth a_rules_choiceWorth a_rules_balls a_rules_wheel a_trial_ending v_depth v_pair v_settled v_unwanted v_firstPaying q c_open v_rules_sides v_rules_kind v_rules_rounds c_rules_strength v_trial_size c_trial_first c_trial_second) (va_A (wdX6_weighPairs cyI cyJ cyB cyS h0 a_ofPair a_open a_rules a_rules_strength a_trial a_trial_first a_trial_second a_leaf a_column a_value a_ofFirst a_standing a_rules_placeWorth a_rules_choiceWorth a_rules_balls a_rules_wheel a_trial_ending v_depth v_pair v_settled v_unwanted v_firstPaying c_ofPair c_open v_rules_sides v_rules_kind v_rules_rounds c_rules_strength v_trial_size c_trial_first c_trial_second) sz)) 0 0 (va_A (wdX6_weighPairs cyI cyJ cyB cyS h0 a_ofPair a_open a_rules a_rules_strength a_trial a_trial_first a_trial_second a_leaf a_column a_value a_ofFirst a_standing a_rules_placeWorth a_rules_choiceWorth a_rules_balls a_rules_wheel a_trial_ending v_depth v_pair v_settled v_unwanted v_firstPaying c_ofPair c_open v_rules_sides v_rules_kind v_rules_rounds c_rules_strength v_trial_size c_trial_first c_trial_second) sz) := by
  refine Met.ofW (cc := cX6_weighPairs) (maxL := 5) (ret := none) (by decide) rfl ?_
  intro p e s m args below meth c s₁ B hml hv
  obtain ⟨rfl, hsz, hP, hK, hD0⟩ := hv
  have hx := B.exec
  have hb := B.bytes
  have hr := B.returns
  have hts := atoms_spec (ws := (wS yX6_weighPairs cX6_weighPairs 5 none)) B.pre
  have hown : s.vm.findClass RX6 = some m.cls := findClass_of_methodNamed B.named
  have hlocks := B.notSynchronized
  subst hsz
  have hD := hD0.self (sz := s.heap.size)
  refine w_nameQ (fun Q hQ => ?_)
  have hl := lv_entry ([.ref h0, .int x1] : List Value) (n := 5) (Nat.le_of_ble_eq_true rfl)
  rw [lg_entry_eq]
  generalize (lg_sl ([.ref h0, .int x1] : List Value) ++ List.replicate (5 - (lg_sl ([.ref h0, .int x1] : List Value)).length) Slot.unset).toArray = ls at hl ⊢
  have hl : lv_has ls 5 [(0, .ref h0), (1, .int x1)] := hl
  generalize hAe : va_A (wdX6_weighPairs cyI cyJ cyB cyS h0 a_ofPair a_open a_rules a_rules_strength a_trial a_trial_first a_trial_second a_leaf a_column a_value a_ofFirst a_standing a_rules_placeWorth a_rules_choiceWorth a_rules_balls a_rules_wheel a_trial_ending v_depth v_pair v_settled v_unwanted v_firstPaying c_ofPair c_open v_rules_sides v_rules_kind v_rules_rounds c_rules_strength v_trial_size c_trial_first c_trial_second) s.heap.size = A at hD hQ
  have hA : ∀ q : Nat, s.heap.size ≤ q → A q := fun q h => by rw [← hAe]; exact Or.inr h
  have hS : va_S A s.heap s.heap [] := va_S.rf
  generalize ([.ref h0, .int x1] : List Value).toArray = av at hts hQ ⊢
  have hL : ∀ w ∈ wsL_law, w.before av s = true := fun w h => hts w (List.mem_cons_of_mem _ h)
  have w0 := hL (.initialized RX8) (hR1 2 rfl)
  have w1 := hL (.static yX8_chance) (hR20 20 rfl)
  have w2 := hL (.static yX8_rested) (hR21 6 rfl)
  have w3 := hL (.fieldLink RX6 28 "LosingLeague$Tree" "ofPair" "[I") (hR4 21 rfl)
  have w4 := hL (.fieldLink RX6 48 "LosingLeague$Tree" "rules" "LLosingLeague$Rules;") (hR5 3 rfl)
  have w5 := hL (.fieldLink RX6 69 "LosingLeague$Rules" "strength" "[I") (hR25 0 rfl)
  have w6 := hL (.fieldLink RX6 34 "LosingLeague$Tree" "trial" "LLosingLeague$Games;") (hR4 23 rfl)
  have w7 := hL (.fieldLink RX6 72 "LosingLeague$Games" "first" "[I") (hR25 1 rfl)
  have w8 := hL (.fieldLink RX6 21 "LosingLeague$Tree" "open" "[I") (hR4 19 rfl)
  have w9 := hL (.fieldLink RX6 75 "LosingLeague$Games" "second" "[I") (hR25 2 rfl)
  have hB91 : ∀ (k49 : Int32 → Int32 → Int32 → (Nat → Int32) → Option ((Nat → Int32))) (hk49 : ∀ (x2 : Int32) (x3 : Int32) (x4 : Int32) (c_ofPair : Nat → Int32) (H : Heap) (locs : List Loc) (ls : Array Slot), k49 x2 x3 x4 c_ofPair = some q → va_P D vwCl (wdX6_weighPairs cyI cyJ cyB cyS h0 a_ofPair a_open a_rules a_rules_strength a_trial a_trial_first a_trial_second a_leaf a_column a_value a_ofFirst a_standing a_rules_placeWorth a_rules_choiceWorth a_rules_balls a_rules_wheel a_trial_ending v_depth v_pair v_settled v_unwanted v_firstPaying c_ofPair c_open v_rules_sides v_rules_kind v_rules_rounds c_rules_strength v_trial_size c_trial_first c_trial_second) H → va_D A (wdX6_weighPairs cyI cyJ cyB cyS h0 a_ofPair a_open a_rules a_rules_strength a_trial a_trial_first a_trial_second a_leaf a_column a_value a_ofFirst a_standing a_rules_placeWorth a_rules_choiceWorth a_rules_balls a_rules_wheel a_trial_ending v_depth v_pair v_settled v_unwanted v_firstPaying c_ofPair c_open v_rules_sides v_rules_kind v_rules_rounds c_rules_strength v_trial_size c_trial_first c_trial_second) → va_S A s.heap H locs → lv_has ls 5 [(0, .ref h0), (2, .int x2), (3, .int x3), (4, .int x4)] → W p l e rmX6_weighPairs s m av below meth c H locs 0 0 Q (F0 m 49 ls [])), ∀ (x2 : Int32) (x3 : Int32) (x4 : Int32) (s1 : Int32) (s2 : Int32) (s3 : Int32) (c_ofPair : Nat → Int32) (H : Heap) (locs : List Loc) (ls : Array Slot), fX6_weighPairs_91 N c_open c_rules_strength c_trial_first c_trial_second x1 k49 x2 x3 x4 s1 s2 s3 c_ofPair = some q → va_P D vwCl (wdX6_weighPairs cyI cyJ cyB cyS h0 a_ofPair a_open a_rules a_rules_strength a_trial a_trial_first a_trial_second a_leaf a_column a_value a_ofFirst a_standing a_rules_placeWorth a_rules_choiceWorth a_rules_balls a_rules_wheel a_trial_ending v_depth v_pair v_settled v_unwanted v_firstPaying c_ofPair c_open v_rules_sides v_rules_kind v_rules_rounds c_rules_strength v_trial_size c_trial_first c_trial_second) H → va_D A (wdX6_weighPairs cyI cyJ cyB cyS h0 a_ofPair a_open a_rules a_rules_strength a_trial a_trial_first a_trial_second a_leaf a_column a_value a_ofFirst a_standing a_rules_placeWorth a_rules_choiceWorth a_rules_balls a_rules_wheel a_trial_ending v_depth v_pair v_settled v_unwanted v_firstPaying c_ofPair c_open v_rules_sides v_rules_kind v_rules_rounds c_rules_strength v_trial_size c_trial_first c_trial_second) → va_S A s.heap H locs → lv_has ls 5 [(0, .ref h0), (2, .int x2), (3, .int x3), (4, .int x4)] → W p l e rmX6_weighPairs s m av below meth c H locs 0 0 Q (F0 m 91 ls [.int s3, .int s2, .int s1, .ref a_ofPair]) := by
    intro k49 hk49 x2 x3 x4 s1 s2 s3 c_ofPair H locs ls hf hP hD hS hl
    unfold fX6_weighPairs_91 at hf
    obtain ⟨q91, e91, hf⟩ := pb_some hf
    refine cs_i (wc := []) (w1 := []) hP hD hS hA [] rfl rfl rfl (va_runSN (As := [.int s2, .int s3]) (rest := [.int s1, .ref a_ofPair]) ⟨hx, hb, hml, hown, hL⟩ (mX8_chance l D cyI cyJ cyB cyS N H.size   s2 s3 q91 e91) ⟨va_cnB 2 hL (gN (hR20 21 rfl)) rfl rfl rfl hK.2.1 w0 (by decide +kernel) ⟨Nat.le_of_ble_eq_true rfl, Nat.le_of_ble_eq_true rfl⟩, w1, trivial⟩ (PP_preS hP hD hK [] rfl rfl) rfl rfl hl.1 rfl (lv_room (Nat.le_of_ble_eq_true rfl)) dX6_weighPairs_91 ⟨Nat.le_of_ble_eq_true rfl, Nat.le_of_ble_eq_true rfl⟩) (fun H locs hP hD hS => ?_)
    have hP : va_P D vwCl (wdX6_weighPairs cyI cyJ cyB cyS h0 a_ofPair a_open a_rules a_rules_strength a_trial a_trial_first a_trial_second a_leaf a_column a_value a_ofFirst a_standing a_rules_placeWorth a_rules_choiceWorth a_rules_balls a_rules_wheel a_trial_ending v_depth v_pair v_settled v_unwanted v_firstPaying c_ofPair c_open v_rules_sides v_rules_kind v_rules_rounds c_rules_strength v_trial_size c_trial_first c_trial_second) H := hP
    have hD : va_D A (wdX6_weighPairs cyI cyJ cyB cyS h0 a_ofPair a_open a_rules a_rules_strength a_trial a_trial_first a_trial_second a_leaf a_column a_value a_ofFirst a_standing a_rules_placeWorth a_rules_choiceWorth a_rules_balls a_rules_wheel a_trial_ending v_depth v_pair v_settled v_unwanted v_firstPaying c_ofPair c_open v_rules_sides v_rules_kind v_rules_rounds c_rules_strength v_trial_size c_trial_first c_trial_second) := hD
    obtain ⟨h94, hf⟩ := pg_some hf
    refine va_iast hx hb hK.1 hP hD hS 1 0 rfl rfl h94 dX6_weighPairs_94 (fun H locs hP hD hS => ?_)
    have hP : va_P D vwCl (wdX6_weighPairs cyI cyJ cyB cyS h0 a_ofPair a_open a_rules a_rules_strength a_trial a_trial_first a_trial_second a_leaf a_column a_value a_ofFirst a_standing a_rules_placeWorth a_rules_choiceWorth a_rules_balls a_rules_wheel a_trial_ending v_depth v_pair v_settled v_unwanted v_firstPaying (upd c_ofPair s1.toNatClampNeg q91) c_open v_rules_sides v_rules_kind v_rules_rounds c_rules_strength v_trial_size c_trial_first c_trial_second) H := hP
    have hD : va_D A (wdX6_weighPairs cyI cyJ cyB cyS h0 a_ofPair a_open a_rules a_rules_strength a_trial a_trial_first a_trial_second a_leaf a_column a_value a_ofFirst a_standing a_rules_placeWorth a_rules_choiceWorth a_rules_balls a_rules_wheel a_trial_ending v_depth v_pair v_settled v_unwanted v_firstPaying (upd c_ofPair s1.toNatClampNeg q91) c_open v_rules_sides v_rules_kind v_rules_rounds c_rules_strength v_trial_size c_trial_first c_trial_second) := hD
    refine lv_iinc (v := x4 + 1) (lv' := [(4, .int (x4 + 1)), (0, .ref h0), (2, .int x2), (3, .int x3)]) hx hb dX6_weighPairs_95 hl (k := 3) rfl rfl (by decide) rfl (fun ls hl => ?_)
    refine lv_goto (tgt := 49) hx hb dX6_weighPairs_98 (by decide) ?_
    exact hk49 x2 x3 (x4 + 1) (upd c_ofPair s1.toNatClampNeg q91) H locs ls hf hP hD hS (lv_sub hl [1, 2, 3, 0] rfl)
  have hB76 : ∀ (k49 : Int32 → Int32 → Int32 → (Nat → Int32) → Option ((Nat → Int32))) (hk49 : ∀ (x2 : Int32) (x3 : Int32) (x4 : Int32) (c_ofPair : Nat → Int32) (H : Heap) (locs : List Loc) (ls : Array Slot), k49 x2 x3 x4 c_ofPair = some q → va_P D vwCl (wdX6_weighPairs cyI cyJ cyB cyS h0 a_ofPair a_open a_rules a_rules_strength a_trial a_trial_first a_trial_second a_leaf a_column a_value a_ofFirst a_standing a_rules_placeWorth a_rules_choiceWorth a_rules_balls a_rules_wheel a_trial_ending v_depth v_pair v_settled v_unwanted v_firstPaying c_ofPair c_open v_rules_sides v_rules_kind v_rules_rounds c_rules_strength v_trial_size c_trial_first c_trial_second) H → va_D A (wdX6_weighPairs cyI cyJ cyB cyS h0 a_ofPair a_open a_rules a_rules_strength a_trial a_trial_first a_trial_second a_leaf a_column a_value a_ofFirst a_standing a_rules_placeWorth a_rules_choiceWorth a_rules_balls a_rules_wheel a_trial_ending v_depth v_pair v_settled v_unwanted v_firstPaying c_ofPair c_open v_rules_sides v_rules_kind v_rules_rounds c_rules_strength v_trial_size c_trial_first c_trial_second) → va_S A s.heap H locs → lv_has ls 5 [(0, .ref h0), (2, .int x2), (3, .int x3), (4, .int x4)] → W p l e rmX6_weighPairs s m av below meth c H locs 0 0 Q (F0 m 49 ls [])), ∀ (x2 : Int32) (x3 : Int32) (x4 : Int32) (s1 : Int32) (s2 : Int32) (c_ofPair : Nat → Int32) (H : Heap) (locs : List Loc) (ls : Array Slot), fX6_weighPairs_76 N c_open c_rules_strength c_trial_first c_trial_second x1 k49 x2 x3 x4 s1 s2 c_ofPair = some q → va_P D vwCl (wdX6_weighPairs cyI cyJ cyB cyS h0 a_ofPair a_open a_rules a_rules_strength a_trial a_trial_first a_trial_second a_leaf a_column a_value a_ofFirst a_standing a_rules_placeWorth a_rules_choiceWorth a_rules_balls a_rules_wheel a_trial_ending v_depth v_pair v_settled v_unwanted v_firstPaying c_ofPair c_open v_rules_sides v_rules_kind v_rules_rounds c_rules_strength v_trial_size c_trial_first c_trial_second) H → va_D A (wdX6_weighPairs cyI cyJ cyB cyS h0 a_ofPair a_open a_rules a_rules_strength a_trial a_trial_first a_trial_second a_leaf a_column a_value a_ofFirst a_standing a_rules_placeWorth a_rules_choiceWorth a_rules_balls a_rules_wheel a_trial_ending v_depth v_pair v_settled v_unwanted v_firstPaying c_ofPair c_open v_rules_sides v_rules_kind v_rules_rounds c_rules_strength v_trial_size c_trial_first c_trial_second) → va_S A s.heap H locs → lv_has ls 5 [(0, .ref h0), (2, .int x2), (3, .int x3), (4, .int x4)] → W p l e rmX6_weighPairs s m av below meth c H locs 0 0 Q (F0 m 76 ls [.int s2, .int s1, .ref a_ofPair]) := by
    intro k49 hk49 x2 x3 x4 s1 s2 c_ofPair H locs ls hf hP hD hS hl
    unfold fX6_weighPairs_76 at hf
    refine lv_iload hx hb dX6_weighPairs_76 (lv_at hl 3 rfl) ?_
    refine lv_iconst (v := 1) hx hb dX6_weighPairs_78 (by decide) ?_
    refine lv_iand hx hb dX6_weighPairs_79 ?_
    refine lv_if_eq (tgt := 90) hx hb dX6_weighPairs_80 (by decide) (fun c80 => ?_) (fun c80 => ?_)
    · have hf := pif_t c80 hf
      refine lv_iload_n hx hb dX6_weighPairs_90 rfl (lv_at hl 2 rfl) ?_
      exact hB91 k49 hk49 x2 x3 x4 s1 s2 x3 c_ofPair H locs ls hf hP hD hS (lv_sub hl [0, 1, 2, 3] rfl)
    · have hf := pif_f c80 hf
      refine lv_iload_n hx hb dX6_weighPairs_83 rfl (lv_at hl 2 rfl) ?_
      obtain ⟨q84, e84, hf⟩ := pb_some hf
      refine cs_i (wc := []) (w1 := []) hP hD hS hA [] rfl rfl rfl (va_runSN (As := [.int x3]) (rest := [.int s2, .int s1, .ref a_ofPair]) ⟨hx, hb, hml, hown, hL⟩ (mX8_rested l D cyI cyJ cyB cyS N H.size   x3 q84 e84) ⟨va_cnB 1 hL (gN (hR21 7 rfl)) rfl rfl rfl hK.2.2.1 w0 (by decide +kernel) ⟨Nat.le_of_ble_eq_true rfl, Nat.le_of_ble_eq_true rfl⟩, w2, trivial⟩ (PP_preS hP hD hK [] rfl rfl) rfl rfl hl.1 rfl (lv_room (Nat.le_of_ble_eq_true rfl)) dX6_weighPairs_84 ⟨Nat.le_of_ble_eq_true rfl, Nat.le_of_ble_eq_true rfl⟩) (fun H locs hP hD hS => ?_)
      have hP : va_P D vwCl (wdX6_weighPairs cyI cyJ cyB cyS h0 a_ofPair a_open a_rules a_rules_strength a_trial a_trial_first a_trial_second a_leaf a_column a_value a_ofFirst a_standing a_rules_placeWorth a_rules_choiceWorth a_rules_balls a_rules_wheel a_trial_ending v_depth v_pair v_settled v_unwanted v_firstPaying c_ofPair c_open v_rules_sides v_rules_kind v_rules_rounds c_rules_strength v_trial_size c_trial_first c_trial_second) H := hP
      have hD : va_D A (wdX6_weighPairs cyI cyJ cyB cyS h0 a_ofPair a_open a_rules a_rules_strength a_trial a_trial_first a_trial_second a_leaf a_column a_value a_ofFirst a_standing a_rules_placeWorth a_rules_choiceWorth a_rules_balls a_rules_wheel a_trial_ending v_depth v_pair v_settled v_unwanted v_firstPaying c_ofPair c_open v_rules_sides v_rules_kind v_rules_rounds c_rules_strength v_trial_size c_trial_first c_trial_second) := hD
      refine lv_goto (tgt := 91) hx hb dX6_weighPairs_87 (by decide) ?_
      exact hB91 k49 hk49 x2 x3 x4 s1 s2 q84 c_ofPair H locs ls hf hP hD hS (lv_sub hl [0, 1, 2, 3] rfl)
  have hB49 : ∀ (n : Nat), ∀ (x2 : Int32) (x3 : Int32) (x4 : Int32) (c_ofPair : Nat → Int32) (H : Heap) (locs : List Loc) (ls : Array Slot), fX6_weighPairs_49 N c_open c_rules_strength c_trial_first c_trial_second x1 n x2 x3 x4 c_ofPair = some q → va_P D vwCl (wdX6_weighPairs cyI cyJ cyB cyS h0 a_ofPair a_open a_rules a_rules_strength a_trial a_trial_first a_trial_second a_leaf a_column a_value a_ofFirst a_standing a_rules_placeWorth a_rules_choiceWorth a_rules_balls a_rules_wheel a_trial_ending v_depth v_pair v_settled v_unwanted v_firstPaying c_ofPair c_open v_rules_sides v_rules_kind v_rules_rounds c_rules_strength v_trial_size c_trial_first c_trial_second) H → va_D A (wdX6_weighPairs cyI cyJ cyB cyS h0 a_ofPair a_open a_rules a_rules_strength a_trial a_trial_first a_trial_second a_leaf a_column a_value a_ofFirst a_standing a_rules_placeWorth a_rules_choiceWorth a_rules_balls a_rules_wheel a_trial_ending v_depth v_pair v_settled v_unwanted v_firstPaying c_ofPair c_open v_rules_sides v_rules_kind v_rules_rounds c_rules_strength v_trial_size c_trial_first c_trial_second) → va_S A s.heap H locs → lv_has ls 5 [(0, .ref h0), (2, .int x2), (3, .int x3), (4, .int x4)] → W p l e rmX6_weighPairs s m av below meth c H locs 0 0 Q (F0 m 49 ls []) := by
    intro n
    induction n with
    | zero => intro x2 x3 x4 c_ofPair H locs ls hf; exact absurd hf (by simp [fX6_weighPairs_49])
    | succ n hk49 =>
      intro x2 x3 x4 c_ofPair H locs ls hf hP hD hS hl
      rw [fX6_weighPairs_49] at hf
      refine lv_iload hx hb dX6_weighPairs_49 (lv_at hl 3 rfl) ?_
      refine lv_iconst (v := 4) hx hb dX6_weighPairs_51 (by decide) ?_
      refine lv_icmp_ge (tgt := 101) hx hb dX6_weighPairs_52 (by decide) (fun c52 => ?_) (fun c52 => ?_)
      · have hf := pif_t c52 hf
        exact ret_v (q := q) (wp := fun q => (wdX6_weighPairs cyI cyJ cyB cyS h0 a_ofPair a_open a_rules a_rules_strength a_trial a_trial_first a_trial_second a_leaf a_column a_value a_ofFirst a_standing a_rules_placeWorth a_rules_choiceWorth a_rules_balls a_rules_wheel a_trial_ending v_depth v_pair v_settled v_unwanted v_firstPaying q c_open v_rules_sides v_rules_kind v_rules_rounds c_rules_strength v_trial_size c_trial_first c_trial_second)) hQ hf hx hb hr hlocks hP hD hS dX6_weighPairs_101
      · have hf := pif_f c52 hf
        refine lv_aload_n hx hb dX6_weighPairs_55 rfl (lv_at hl 0 rfl) ?_
        refine va_get (D := D) (ci := 6) (v := .ref a_ofPair) (C := RX6) (T := TX6) (N := 14) hx hb hL inlX6 hown hK.1 hP 0 rfl rfl 5 (by decide) w3 (fun _ h9 => h9) rfl dX6_weighPairs_56 ?_
        refine lv_iload hx hb dX6_weighPairs_59 (lv_at hl 3 rfl) ?_
        refine lv_iload hx hb dX6_weighPairs_61 (lv_at hl 3 rfl) ?_
        refine lv_iconst (v := 2) hx hb dX6_weighPairs_63 (by decide) ?_
        refine lv_iand hx hb dX6_weighPairs_64 ?_
        refine lv_if_eq (tgt := 75) hx hb dX6_weighPairs_65 (by decide) (fun c65 => ?_) (fun c65 => ?_)
        · have hf := pif_t c65 hf
          refine lv_iload_n hx hb dX6_weighPairs_75 rfl (lv_at hl 1 rfl) ?_
          exact hB76 (fX6_weighPairs_49 N c_open c_rules_strength c_trial_first c_trial_second x1 n) hk49 x2 x3 x4 x4 x2 c_ofPair H locs ls hf hP hD hS (lv_sub hl [0, 1, 2, 3] rfl)
        · have hf := pif_f c65 hf
          refine lv_iload_n hx hb dX6_weighPairs_68 rfl (lv_at hl 1 rfl) ?_
          obtain ⟨q69, e69, hf⟩ := pb_some hf
          refine cs_i (wc := []) (w1 := []) hP hD hS hA [] rfl rfl rfl (va_runSN (As := [.int x2]) (rest := [.int x4, .ref a_ofPair]) ⟨hx, hb, hml, hown, hL⟩ (mX8_rested l D cyI cyJ cyB cyS N H.size   x2 q69 e69) ⟨va_cnB 1 hL (gN (hR21 7 rfl)) rfl rfl rfl hK.2.2.1 w0 (by decide +kernel) ⟨Nat.le_of_ble_eq_true rfl, Nat.le_of_ble_eq_true rfl⟩, w2, trivial⟩ (PP_preS hP hD hK [] rfl rfl) rfl rfl hl.1 rfl (lv_room (Nat.le_of_ble_eq_true rfl)) dX6_weighPairs_69 ⟨Nat.le_of_ble_eq_true rfl, Nat.le_of_ble_eq_true rfl⟩) (fun H locs hP hD hS => ?_)
          have hP : va_P D vwCl (wdX6_weighPairs cyI cyJ cyB cyS h0 a_ofPair a_open a_rules a_rules_strength a_trial a_trial_first a_trial_second a_leaf a_column a_value a_ofFirst a_standing a_rules_placeWorth a_rules_choiceWorth a_rules_balls a_rules_wheel a_trial_ending v_depth v_pair v_settled v_unwanted v_firstPaying c_ofPair c_open v_rules_sides v_rules_kind v_rules_rounds c_rules_strength v_trial_size c_trial_first c_trial_second) H := hP
          have hD : va_D A (wdX6_weighPairs cyI cyJ cyB cyS h0 a_ofPair a_open a_rules a_rules_strength a_trial a_trial_first a_trial_second a_leaf a_column a_value a_ofFirst a_standing a_rules_placeWorth a_rules_choiceWorth a_rules_balls a_rules_wheel a_trial_ending v_depth v_pair v_settled v_unwanted v_firstPaying c_ofPair c_open v_rules_sides v_rules_kind v_rules_rounds c_rules_strength v_trial_size c_trial_first c_trial_second) := hD
          refine lv_goto (tgt := 76) hx hb dX6_weighPairs_72 (by decide) ?_
          exact hB76 (fX6_weighPairs_49 N c_open c_rules_strength c_trial_first c_trial_second x1 n) hk49 x2 x3 x4 x4 q69 c_ofPair H locs ls hf hP hD hS (lv_sub hl [0, 1, 2, 3] rfl)
  unfold fX6_weighPairs at hf
  obtain ⟨H, hH⟩ : ∃ H : Heap, H = s.heap := ⟨_, rfl⟩
  obtain ⟨locs, hlo⟩ : ∃ locs : List Loc, locs = [] := ⟨_, rfl⟩
  have hP : va_P D vwCl (wdX6_weighPairs cyI cyJ cyB cyS h0 a_ofPair a_open a_rules a_rules_strength a_trial a_trial_first a_trial_second a_leaf a_column a_value a_ofFirst a_standing a_rules_placeWorth a_rules_choiceWorth a_rules_balls a_rules_wheel a_trial_ending v_depth v_pair v_settled v_unwanted v_firstPaying c_ofPair c_open v_rules_sides v_rules_kind v_rules_rounds c_rules_strength v_trial_size c_trial_first c_trial_second) H := by rw [hH]; exact hP
  have hS : va_S A s.heap H locs := by rw [hH, hlo]; exact hS
  suffices hw : W p l e rmX6_weighPairs s m av below meth c H locs 0 0 Q (F0 m 0 ls []) by rw [hH, hlo] at hw; exact hw
  refine lv_aload_n hx hb dX6_weighPairs_0 rfl (lv_at hl 0 rfl) ?_
  refine va_get (D := D) (ci := 6) (v := .ref a_rules) (C := RX6) (T := TX6) (N := 14) hx hb hL inlX6 hown hK.1 hP 0 rfl rfl 8 (by decide) w4 (fun _ h9 => h9) rfl dX6_weighPairs_1 ?_
  refine va_get (D := D) (ci := 2) (v := .ref a_rules_strength) (C := RX2) (T := TX2) (N := 8) hx hb hL inlX2 hown hK.1 hP 3 rfl rfl 0 (by decide) w5 (fun _ h9 => h9) rfl dX6_weighPairs_4 ?_
  refine lv_aload_n hx hb dX6_weighPairs_7 rfl (lv_at hl 0 rfl) ?_
  refine va_get (D := D) (ci := 6) (v := .ref a_trial) (C := RX6) (T := TX6) (N := 14) hx hb hL inlX6 hown hK.1 hP 0 rfl rfl 6 (by decide) w6 (fun _ h9 => h9) rfl dX6_weighPairs_8 ?_
  refine va_get (D := D) (ci := 0) (v := .ref a_trial_first) (C := RX0) (T := TX0) (N := 4) hx hb hL inlX0 hown hK.1 hP 5 rfl rfl 0 (by decide) w7 (fun _ h9 => h9) rfl dX6_weighPairs_11 ?_
  refine lv_aload_n hx hb dX6_weighPairs_14 rfl (lv_at hl 0 rfl) ?_
  refine va_get (D := D) (ci := 6) (v := .ref a_open) (C := RX6) (T := TX6) (N := 14) hx hb hL inlX6 hown hK.1 hP 0 rfl rfl 3 (by decide) w8 (fun _ h9 => h9) rfl dX6_weighPairs_15 ?_
  refine lv_iload_n hx hb dX6_weighPairs_18 rfl (lv_at hl 1 rfl) ?_
  obtain ⟨h19, hf⟩ := pg_some hf
  refine va_iald hx hb hK.1 hP 2 0 rfl rfl h19 dX6_weighPairs_19 ?_
  obtain ⟨h20, hf⟩ := pg_some hf
  refine va_iald hx hb hK.1 hP 6 0 rfl rfl h20 dX6_weighPairs_20 ?_
  obtain ⟨h21, hf⟩ := pg_some hf
  refine va_iald hx hb hK.1 hP 4 0 rfl rfl h21 dX6_weighPairs_21 ?_
  refine lv_istore_n (lv' := [(2, .int (c_rules_strength (c_trial_first (c_open x1.toNatClampNeg).toNatClampNeg).toNatClampNeg)), (0, .ref h0), (1, .int x1)]) hx hb dX6_weighPairs_22 rfl hl (by decide) rfl (fun ls hl => ?_)
  refine lv_aload_n hx hb dX6_weighPairs_23 rfl (lv_at hl 1 rfl) ?_
  refine va_get (D := D) (ci := 6) (v := .ref a_rules) (C := RX6) (T := TX6) (N := 14) hx hb hL inlX6 hown hK.1 hP 0 rfl rfl 8 (by decide) w4 (fun _ h9 => h9) rfl dX6_weighPairs_24 ?_
  refine va_get (D := D) (ci := 2) (v := .ref a_rules_strength) (C := RX2) (T := TX2) (N := 8) hx hb hL inlX2 hown hK.1 hP 3 rfl rfl 0 (by decide) w5 (fun _ h9 => h9) rfl dX6_weighPairs_27 ?_
  refine lv_aload_n hx hb dX6_weighPairs_30 rfl (lv_at hl 1 rfl) ?_
  refine va_get (D := D) (ci := 6) (v := .ref a_trial) (C := RX6) (T := TX6) (N := 14) hx hb hL inlX6 hown hK.1 hP 0 rfl rfl 6 (by decide) w6 (fun _ h9 => h9) rfl dX6_weighPairs_31 ?_
  refine va_get (D := D) (ci := 0) (v := .ref a_trial_second) (C := RX0) (T := TX0) (N := 4) hx hb hL inlX0 hown hK.1 hP 5 rfl rfl 1 (by decide) w9 (fun _ h9 => h9) rfl dX6_weighPairs_34 ?_
  refine lv_aload_n hx hb dX6_weighPairs_37 rfl (lv_at hl 1 rfl) ?_
  refine va_get (D := D) (ci := 6) (v := .ref a_open) (C := RX6) (T := TX6) (N := 14) hx hb hL inlX6 hown hK.1 hP 0 rfl rfl 3 (by decide) w8 (fun _ h9 => h9) rfl dX6_weighPairs_38 ?_
  refine lv_iload_n hx hb dX6_weighPairs_41 rfl (lv_at hl 2 rfl) ?_
  obtain ⟨h42, hf⟩ := pg_some hf
  refine va_iald hx hb hK.1 hP 2 0 rfl rfl h42 dX6_weighPairs_42 ?_
  obtain ⟨h43, hf⟩ := pg_some hf
  refine va_iald hx hb hK.1 hP 7 0 rfl rfl h43 dX6_weighPairs_43 ?_
  obtain ⟨h44, hf⟩ := pg_some hf
  refine va_iald hx hb hK.1 hP 4 0 rfl rfl h44 dX6_weighPairs_44 ?_
  refine lv_istore_n (lv' := [(3, .int (c_rules_strength (c_trial_second (c_open x1.toNatClampNeg).toNatClampNeg).toNatClampNeg)), (2, .int (c_rules_strength (c_trial_first (c_open x1.toNatClampNeg).toNatClampNeg).toNatClampNeg)), (0, .ref h0), (1, .int x1)]) hx hb dX6_weighPairs_45 rfl hl (by decide) rfl (fun ls hl => ?_)
  refine lv_iconst (v := 0) hx hb dX6_weighPairs_46 (by decide) ?_
  refine lv_istore (lv' := [(4, .int 0), (3, .int (c_rules_strength (c_trial_second (c_open x1.toNatClampNeg).toNatClampNeg).toNatClampNeg)), (2, .int (c_rules_strength (c_trial_first (c_open x1.toNatClampNeg).toNatClampNeg).toNatClampNeg)), (0, .ref h0), (1, .int x1)]) hx hb dX6_weighPairs_47 hl (by decide) rfl (fun ls hl => ?_)
  exact hB49 N (c_rules_strength (c_trial_first (c_open x1.toNatClampNeg).toNatClampNeg).toNatClampNeg) (c_rules_strength (c_trial_second (c_open x1.toNatClampNeg).toNatClampNeg).toNatClampNeg) 0 c_ofPair H locs ls hf hP hD hS (lv_sub hl [3, 2, 1, 0] rfl)
def fX6_gains_68 (N : Nat) (c_leaf : Nat → Int64) (c_ofPair : Nat → Int32) (x1 : Int32) (x2 : Int32) (x3 : Int32) (x4 : Int32) (s0 : Int32) : Option (Int32) := pg (isB s0) (some s0)
def fX6_gains (N : Nat) (c_leaf : Nat → Int64) (c_ofPair : Nat → Int32) (x1 : Int32) (x2 : Int32) (x3 : Int32) (x4 : Int32) : Option (Int32) := pg (inr (((2 * x2) * 6) + x1) 768) (pg (inr ((((2 * x2) + 1) * 6) + x1) 768) (pg (inr x4 4) (pb (fX6_mixed N (c_ofPair x4.toNatClampNeg) (c_leaf (((2 * x2) * 6) + x1).toNatClampNeg) (c_leaf ((((2 * x2) + 1) * 6) + x1).toNatClampNeg)) (fun q43 => pg (inr x3 4) (pb (fX6_mixed N (c_ofPair x3.toNatClampNeg) (c_leaf (((2 * x2) * 6) + x1).toNatClampNeg) (c_leaf ((((2 * x2) + 1) * 6) + x1).toNatClampNeg)) (fun q56 => pif ((lg_cmp q43 q56) ≤ 0) (fX6_gains_68 N c_leaf c_ofPair x1 x2 x3 x4 0) (fX6_gains_68 N c_leaf c_ofPair x1 x2 x3 x4 1)))))))
def wdX6_gains (cyI cyJ cyB cyS : ClassId) (h0 : Nat) (a_leaf : Nat) (a_ofPair : Nat) (a_column : Nat) (a_value : Nat) (a_open : Nat) (a_ofFirst : Nat) (a_trial : Nat) (a_standing : Nat) (a_rules : Nat) (v_depth : Int32) (v_pair : Int32) (v_settled : Int32) (v_unwanted : Int32) (v_firstPaying : Int32) (c_leaf : Nat → Int64) (c_ofPair : Nat → Int32) : va_W := [(h0, .inr (6, [.ref a_leaf, .ref a_column, .ref a_value, .ref a_open, .ref a_ofFirst, .ref a_ofPair, .ref a_trial, .ref a_standing, .ref a_rules, .int v_depth, .int v_pair, .int v_settled, .int v_unwanted, .int v_firstPaying])), (a_leaf, .inl (cyJ, 768, .inr (.inl c_leaf))), (a_ofPair, .inl (cyI, 4, .inl c_ofPair))]
abbrev rmX6_gains : Room := { frames := 1, cells := 0, slots := 0, locals := 24 }
set_option maxHeartbeats 40000000 in
set_option maxRecDepth 100000 in
theorem mX6_gains (l : Launch) (D : va_G) (cyI cyJ cyB cyS : ClassId) (N : Nat) (sz : Nat) (h0 : Nat) (a_leaf : Nat) (a_ofPair : Nat) (a_column : Nat) (a_value : Nat) (a_open : Nat) (a_ofFirst : Nat) (a_trial : Nat) (a_standing : Nat) (a_rules : Nat) (v_depth : Int32) (v_pair : Int32) (v_settled : Int32) (v_unwanted : Int32) (v_firstPaying : Int32) (c_leaf : Nat → Int64) (c_ofPair : Nat → Int32) (x1 : Int32) (x2 : Int32) (x3 : Int32) (x4 : Int32) (q : Int32) (hf : fX6_gains N c_leaf c_ofPair x1 x2 x3 x4 = some q) : Met l yX6_gains (wS yX6_gains cX6_gains 9 (some .boolean)) rmX6_gains (va_Pc [.ref h0, .int x1, .int x2, .int x3, .int x4] (PP D cyI cyJ cyB cyS (wdX6_gains cyI cyJ cyB cyS h0 a_leaf a_ofPair a_column a_value a_open a_ofFirst a_trial a_standing a_rules v_depth v_pair v_settled v_unwanted v_firstPaying c_leaf c_ofPair) sz)) (QI q D (wdX6_gains cyI cyJ cyB cyS h0 a_leaf a_ofPair a_column a_value a_open a_ofFirst a_trial a_standing a_rules v_depth v_pair v_settled v_unwanted v_firstPaying c_leaf c_ofPair) (va_A (wdX6_gains cyI cyJ cyB cyS h0 a_leaf a_ofPair a_column a_value a_open a_ofFirst a_trial a_standing a_rules v_depth v_pair v_settled v_unwanted v_firstPaying c_leaf c_ofPair) sz)) 0 0 (va_A (wdX6_gains cyI cyJ cyB cyS h0 a_leaf a_ofPair a_column a_value a_open a_ofFirst a_trial a_standing a_rules v_depth v_pair v_settled v_unwanted v_firstPaying c_leaf c_ofPair) sz) := by
  refine Met.ofW (cc := cX6_gains) (maxL := 9) (ret := (some .boolean)) (by decide) rfl ?_
  intro p e s m args below meth c s₁ B hml hv
  obtain ⟨rfl, hsz, hP, hK, hD0⟩ := hv
  have hx := B.exec
  have hb := B.bytes
  have hr := B.returns
  have hts := atoms_spec (ws := (wS yX6_gains cX6_gains 9 (some .boolean))) B.pre
  have hown : s.vm.findClass RX6 = some m.cls := findClass_of_methodNamed B.named
  have hlocks := B.notSynchronized
  subst hsz
  have hD := hD0.self (sz := s.heap.size)
  refine w_nameQ (fun Q hQ => ?_)
  have hl := lv_entry ([.ref h0, .int x1, .int x2, .int x3, .int x4] : List Value) (n := 9) (Nat.le_of_ble_eq_true rfl)
  rw [lg_entry_eq]
  generalize (lg_sl ([.ref h0, .int x1, .int x2, .int x3, .int x4] : List Value) ++ List.replicate (9 - (lg_sl ([.ref h0, .int x1, .int x2, .int x3, .int x4] : List Value)).length) Slot.unset).toArray = ls at hl ⊢
  have hl : lv_has ls 9 [(0, .ref h0), (1, .int x1), (2, .int x2), (3, .int x3), (4, .int x4)] := hl
  generalize hAe : va_A (wdX6_gains cyI cyJ cyB cyS h0 a_leaf a_ofPair a_column a_value a_open a_ofFirst a_trial a_standing a_rules v_depth v_pair v_settled v_unwanted v_firstPaying c_leaf c_ofPair) s.heap.size = A at hD hQ
  have hA : ∀ q : Nat, s.heap.size ≤ q → A q := fun q h => by rw [← hAe]; exact Or.inr h
  have hS : va_S A s.heap s.heap [] := va_S.rf
  generalize ([.ref h0, .int x1, .int x2, .int x3, .int x4] : List Value).toArray = av at hts hQ ⊢
  have hL : ∀ w ∈ wsL_law, w.before av s = true := fun w h => hts w (List.mem_cons_of_mem _ h)
  have w0 := hL (.fieldLink RX6 9 "LosingLeague$Tree" "leaf" "[J") (hR4 16 rfl)
  have w1 := hL (.fieldLink RX6 28 "LosingLeague$Tree" "ofPair" "[I") (hR4 21 rfl)
  have w2 := hL (.static yX6_mixed) (hR31 23 rfl)
  have hB68 : ∀ (s0 : Int32) (H : Heap) (locs : List Loc) (ls : Array Slot), fX6_gains_68 N c_leaf c_ofPair x1 x2 x3 x4 s0 = some q → va_P D vwCl (wdX6_gains cyI cyJ cyB cyS h0 a_leaf a_ofPair a_column a_value a_open a_ofFirst a_trial a_standing a_rules v_depth v_pair v_settled v_unwanted v_firstPaying c_leaf c_ofPair) H → va_D A (wdX6_gains cyI cyJ cyB cyS h0 a_leaf a_ofPair a_column a_value a_open a_ofFirst a_trial a_standing a_rules v_depth v_pair v_settled v_unwanted v_firstPaying c_leaf c_ofPair) → va_S A s.heap H locs → lv_has ls 9 [] → W p l e rmX6_gains s m av below meth c H locs 0 0 Q (F0 m 68 ls [.int s0]) := by
    intro s0 H locs ls hf hP hD hS hl
    unfold fX6_gains_68 at hf
    obtain ⟨n68, hf⟩ := pg_some hf
    exact ret_z (q := q) (g := fun q => q) (wp := fun q => (wdX6_gains cyI cyJ cyB cyS h0 a_leaf a_ofPair a_column a_value a_open a_ofFirst a_trial a_standing a_rules v_depth v_pair v_settled v_unwanted v_firstPaying c_leaf c_ofPair)) hQ hf hx hb hr hlocks (isB_n n68) hP hD hS dX6_gains_68 rfl
  unfold fX6_gains at hf
  obtain ⟨H, hH⟩ : ∃ H : Heap, H = s.heap := ⟨_, rfl⟩
  obtain ⟨locs, hlo⟩ : ∃ locs : List Loc, locs = [] := ⟨_, rfl⟩
  have hP : va_P D vwCl (wdX6_gains cyI cyJ cyB cyS h0 a_leaf a_ofPair a_column a_value a_open a_ofFirst a_trial a_standing a_rules v_depth v_pair v_settled v_unwanted v_firstPaying c_leaf c_ofPair) H := by rw [hH]; exact hP
  have hS : va_S A s.heap H locs := by rw [hH, hlo]; exact hS
  suffices hw : W p l e rmX6_gains s m av below meth c H locs 0 0 Q (F0 m 0 ls []) by rw [hH, hlo] at hw; exact hw
  refine lv_aload_n hx hb dX6_gains_0 rfl (lv_at hl 0 rfl) ?_
  refine va_get (D := D) (ci := 6) (v := .ref a_leaf) (C := RX6) (T := TX6) (N := 14) hx hb hL inlX6 hown hK.1 hP 0 rfl rfl 0 (by decide) w0 (fun _ h9 => h9) rfl dX6_gains_1 ?_
  refine lv_iconst (v := 2) hx hb dX6_gains_4 (by decide) ?_
  refine lv_iload_n hx hb dX6_gains_5 rfl (lv_at hl 2 rfl) ?_
  refine lv_imul hx hb dX6_gains_6 ?_
  refine lv_bipush (v := 6) hx hb dX6_gains_7 (by decide) ?_
  refine lv_imul hx hb dX6_gains_9 ?_
  refine lv_iload_n hx hb dX6_gains_10 rfl (lv_at hl 1 rfl) ?_
  refine lv_iadd hx hb dX6_gains_11 ?_
  obtain ⟨h12, hf⟩ := pg_some hf
  refine va_lald hx hb hK.1 hP 1 1 rfl rfl h12 dX6_gains_12 ?_
  refine lv_lstore (lv' := [(5, .long (c_leaf (((2 * x2) * 6) + x1).toNatClampNeg)), (0, .ref h0), (1, .int x1), (2, .int x2), (3, .int x3), (4, .int x4)]) hx hb dX6_gains_13 hl (by decide) rfl (fun ls hl => ?_)
  refine lv_aload_n hx hb dX6_gains_15 rfl (lv_at hl 1 rfl) ?_
  refine va_get (D := D) (ci := 6) (v := .ref a_leaf) (C := RX6) (T := TX6) (N := 14) hx hb hL inlX6 hown hK.1 hP 0 rfl rfl 0 (by decide) w0 (fun _ h9 => h9) rfl dX6_gains_16 ?_
  refine lv_iconst (v := 2) hx hb dX6_gains_19 (by decide) ?_
  refine lv_iload_n hx hb dX6_gains_20 rfl (lv_at hl 3 rfl) ?_
  refine lv_imul hx hb dX6_gains_21 ?_
  refine lv_iconst (v := 1) hx hb dX6_gains_22 (by decide) ?_
  refine lv_iadd hx hb dX6_gains_23 ?_
  refine lv_bipush (v := 6) hx hb dX6_gains_24 (by decide) ?_
  refine lv_imul hx hb dX6_gains_26 ?_
  refine lv_iload_n hx hb dX6_gains_27 rfl (lv_at hl 2 rfl) ?_
  refine lv_iadd hx hb dX6_gains_28 ?_
  obtain ⟨h29, hf⟩ := pg_some hf
  refine va_lald hx hb hK.1 hP 1 1 rfl rfl h29 dX6_gains_29 ?_
  refine lv_lstore (lv' := [(7, .long (c_leaf ((((2 * x2) + 1) * 6) + x1).toNatClampNeg)), (5, .long (c_leaf (((2 * x2) * 6) + x1).toNatClampNeg)), (0, .ref h0), (1, .int x1), (2, .int x2), (3, .int x3), (4, .int x4)]) hx hb dX6_gains_30 hl (by decide) rfl (fun ls hl => ?_)
  refine lv_aload_n hx hb dX6_gains_32 rfl (lv_at hl 2 rfl) ?_
  refine va_get (D := D) (ci := 6) (v := .ref a_ofPair) (C := RX6) (T := TX6) (N := 14) hx hb hL inlX6 hown hK.1 hP 0 rfl rfl 5 (by decide) w1 (fun _ h9 => h9) rfl dX6_gains_33 ?_
  refine lv_iload hx hb dX6_gains_36 (lv_at hl 6 rfl) ?_
  obtain ⟨h38, hf⟩ := pg_some hf
  refine va_iald hx hb hK.1 hP 2 0 rfl rfl h38 dX6_gains_38 ?_
  refine lv_lload hx hb dX6_gains_39 (lv_at hl 1 rfl) ?_
  refine lv_lload hx hb dX6_gains_41 (lv_at hl 0 rfl) ?_
  obtain ⟨q43, e43, hf⟩ := pb_some hf
  refine cs_l (wc := []) (w1 := []) hP hD hS hA [] rfl rfl rfl (va_runS (As := [.int (c_ofPair x4.toNatClampNeg), .long (c_leaf (((2 * x2) * 6) + x1).toNatClampNeg), .long (c_leaf ((((2 * x2) + 1) * 6) + x1).toNatClampNeg)]) (rest := []) ⟨hx, hb, hml, hown, hL⟩ (mX6_mixed l D cyI cyJ cyB cyS N H.size   (c_ofPair x4.toNatClampNeg) (c_leaf (((2 * x2) * 6) + x1).toNatClampNeg) (c_leaf ((((2 * x2) + 1) * 6) + x1).toNatClampNeg) q43 e43) (va_cwS 3 hL (gS (hR31 22 rfl) (hR31 23 rfl) (hR2 7 rfl) (hR32 0 rfl)) rfl rfl rfl (by decide +kernel) ⟨Nat.le_of_ble_eq_true rfl, Nat.le_of_ble_eq_true rfl⟩) (PP_preS hP hD hK [] rfl rfl) rfl rfl hl.1 rfl (lv_room (Nat.le_of_ble_eq_true rfl)) dX6_gains_43 ⟨Nat.le_of_ble_eq_true rfl, Nat.le_of_ble_eq_true rfl⟩) (fun H locs hP hD hS => ?_)
  have hP : va_P D vwCl (wdX6_gains cyI cyJ cyB cyS h0 a_leaf a_ofPair a_column a_value a_open a_ofFirst a_trial a_standing a_rules v_depth v_pair v_settled v_unwanted v_firstPaying c_leaf c_ofPair) H := hP
  have hD : va_D A (wdX6_gains cyI cyJ cyB cyS h0 a_leaf a_ofPair a_column a_value a_open a_ofFirst a_trial a_standing a_rules v_depth v_pair v_settled v_unwanted v_firstPaying c_leaf c_ofPair) := hD
  refine lv_aload_n hx hb dX6_gains_46 rfl (lv_at hl 2 rfl) ?_
  refine va_get (D := D) (ci := 6) (v := .ref a_ofPair) (C := RX6) (T := TX6) (N := 14) hx hb hL inlX6 hown hK.1 hP 0 rfl rfl 5 (by decide) w1 (fun _ h9 => h9) rfl dX6_gains_47 ?_
  refine lv_iload_n hx hb dX6_gains_50 rfl (lv_at hl 5 rfl) ?_
  obtain ⟨h51, hf⟩ := pg_some hf
  refine va_iald hx hb hK.1 hP 2 0 rfl rfl h51 dX6_gains_51 ?_
  refine lv_lload hx hb dX6_gains_52 (lv_at hl 1 rfl) ?_
  refine lv_lload hx hb dX6_gains_54 (lv_at hl 0 rfl) ?_
  obtain ⟨q56, e56, hf⟩ := pb_some hf
  refine cs_l (wc := []) (w1 := []) hP hD hS hA [] rfl rfl rfl (va_runS (As := [.int (c_ofPair x3.toNatClampNeg), .long (c_leaf (((2 * x2) * 6) + x1).toNatClampNeg), .long (c_leaf ((((2 * x2) + 1) * 6) + x1).toNatClampNeg)]) (rest := [.long q43]) ⟨hx, hb, hml, hown, hL⟩ (mX6_mixed l D cyI cyJ cyB cyS N H.size   (c_ofPair x3.toNatClampNeg) (c_leaf (((2 * x2) * 6) + x1).toNatClampNeg) (c_leaf ((((2 * x2) + 1) * 6) + x1).toNatClampNeg) q56 e56) (va_cwS 3 hL (gS (hR31 22 rfl) (hR31 23 rfl) (hR2 7 rfl) (hR32 0 rfl)) rfl rfl rfl (by decide +kernel) ⟨Nat.le_of_ble_eq_true rfl, Nat.le_of_ble_eq_true rfl⟩) (PP_preS hP hD hK [] rfl rfl) rfl rfl hl.1 rfl (lv_room (Nat.le_of_ble_eq_true rfl)) dX6_gains_56 ⟨Nat.le_of_ble_eq_true rfl, Nat.le_of_ble_eq_true rfl⟩) (fun H locs hP hD hS => ?_)
  have hP : va_P D vwCl (wdX6_gains cyI cyJ cyB cyS h0 a_leaf a_ofPair a_column a_value a_open a_ofFirst a_trial a_standing a_rules v_depth v_pair v_settled v_unwanted v_firstPaying c_leaf c_ofPair) H := hP
  have hD : va_D A (wdX6_gains cyI cyJ cyB cyS h0 a_leaf a_ofPair a_column a_value a_open a_ofFirst a_trial a_standing a_rules v_depth v_pair v_settled v_unwanted v_firstPaying c_leaf c_ofPair) := hD
  refine W.lcmp hx hb dX6_gains_59 ?_
  refine lv_if_le (tgt := 67) hx hb dX6_gains_60 (by decide) (fun c60 => ?_) (fun c60 => ?_)
  · have hf := pif_t c60 hf
    refine lv_iconst (v := 0) hx hb dX6_gains_67 (by decide) ?_
    exact hB68 0 H locs ls hf hP hD hS (lv_sub hl [] rfl)
  · have hf := pif_f c60 hf
    refine lv_iconst (v := 1) hx hb dX6_gains_63 (by decide) ?_
    refine lv_goto (tgt := 68) hx hb dX6_gains_64 (by decide) ?_
    exact hB68 1 H locs ls hf hP hD hS (lv_sub hl [] rfl)
def fX6_choosePair_86 (N : Nat) (c_leaf : Nat → Int64) (c_ofPair : Nat → Int32) (c_open : Nat → Int32) (c_trial_first : Nat → Int32) (c_trial_second : Nat → Int32) (x1 : Int32) (x2 : Int32) (k12 : Int32 → Int32 → Int32 → Option (Int32 × Int32)) (x3 : Int32) (v_pair : Int32) (v_settled : Int32) : Option (Int32 × Int32) := k12 (x3 + 1) v_pair v_settled
def fX6_choosePair_92 (N : Nat) (c_leaf : Nat → Int64) (c_ofPair : Nat → Int32) (c_open : Nat → Int32) (c_trial_first : Nat → Int32) (c_trial_second : Nat → Int32) (x1 : Int32) (x2 : Int32) (v_pair : Int32) (v_settled : Int32) : Option (Int32 × Int32) := some (v_pair, v_settled)
def fX6_choosePair_12 (N : Nat) (c_leaf : Nat → Int64) (c_ofPair : Nat → Int32) (c_open : Nat → Int32) (c_trial_first : Nat → Int32) (c_trial_second : Nat → Int32) (x1 : Int32) (x2 : Int32) : Nat → Int32 → Int32 → Int32 → Option (Int32 × Int32)
  | 0, _, _, _ => none
  | n + 1, x3, v_pair, v_settled => pif (4 ≤ x3) (fX6_choosePair_92 N c_leaf c_ofPair c_open c_trial_first c_trial_second x1 x2 v_pair v_settled) (pif (v_settled = 0) (pg (inr x1 7) (pg (inr (c_open x1.toNatClampNeg) 30) (pb (fX6_gains N c_leaf c_ofPair (c_trial_first (c_open x1.toNatClampNeg).toNatClampNeg) x2 x3 (x3 ^^^ 2)) (fun q44 => pif (q44 = 0) (pg (inr x1 7) (pg (inr (c_open x1.toNatClampNeg) 30) (pb (fX6_gains N c_leaf c_ofPair (c_trial_second (c_open x1.toNatClampNeg).toNatClampNeg) x2 x3 (x3 ^^^ 1)) (fun q70 => pif (q70 = 0) (fX6_choosePair_86 N c_leaf c_ofPair c_open c_trial_first c_trial_second x1 x2 (fX6_choosePair_12 N c_leaf c_ofPair c_open c_trial_first c_trial_second x1 x2 n) x3 x3 1) (fX6_choosePair_86 N c_leaf c_ofPair c_open c_trial_first c_trial_second x1 x2 (fX6_choosePair_12 N c_leaf c_ofPair c_open c_trial_first c_trial_second x1 x2 n) x3 v_pair v_settled))))) (fX6_choosePair_86 N c_leaf c_ofPair c_open c_trial_first c_trial_second x1 x2 (fX6_choosePair_12 N c_leaf c_ofPair c_open c_trial_first c_trial_second x1 x2 n) x3 v_pair v_settled))))) (fX6_choosePair_92 N c_leaf c_ofPair c_open c_trial_first c_trial_second x1 x2 v_pair v_settled))
def fX6_choosePair (N : Nat) (v_pair : Int32) (v_settled : Int32) (c_leaf : Nat → Int64) (c_ofPair : Nat → Int32) (c_open : Nat → Int32) (c_trial_first : Nat → Int32) (c_trial_second : Nat → Int32) (x1 : Int32) (x2 : Int32) : Option (Int32 × Int32) := fX6_choosePair_12 N c_leaf c_ofPair c_open c_trial_first c_trial_second x1 x2 N 0 0 0
def wdX6_choosePair (cyI cyJ cyB cyS : ClassId) (h0 : Nat) (a_leaf : Nat) (a_ofPair : Nat) (a_open : Nat) (a_trial : Nat) (a_trial_first : Nat) (a_trial_second : Nat) (a_column : Nat) (a_value : Nat) (a_ofFirst : Nat) (a_standing : Nat) (a_rules : Nat) (a_trial_ending : Nat) (v_depth : Int32) (v_pair : Int32) (v_settled : Int32) (v_unwanted : Int32) (v_firstPaying : Int32) (c_leaf : Nat → Int64) (c_ofPair : Nat → Int32) (c_open : Nat → Int32) (v_trial_size : Int32) (c_trial_first : Nat → Int32) (c_trial_second : Nat → Int32) : va_W := [(h0, .inr (6, [.ref a_leaf, .ref a_column, .ref a_value, .ref a_open, .ref a_ofFirst, .ref a_ofPair, .ref a_trial, .ref a_standing, .ref a_rules, .int v_depth, .int v_pair, .int v_settled, .int v_unwanted, .int v_firstPaying])), (a_leaf, .inl (cyJ, 768, .inr (.inl c_leaf))), (a_ofPair, .inl (cyI, 4, .inl c_ofPair)), (a_open, .inl (cyI, 7, .inl c_open)), (a_trial, .inr (0, [.ref a_trial_first, .ref a_trial_second, .ref a_trial_ending, .int v_trial_size])), (a_trial_first, .inl (cyI, 30, .inl c_trial_first)), (a_trial_second, .inl (cyI, 30, .inl c_trial_second))]
abbrev rmX6_choosePair : Room := { frames := 2, cells := 0, slots := 0, locals := 52 }
set_option maxHeartbeats 40000000 in
set_option maxRecDepth 100000 in
theorem mX6_choosePair (l : Launch) (D : va_G) (cyI cyJ cyB cyS : ClassId) (N : Nat) (sz : Nat) (h0 : Nat) (a_leaf : Nat) (a_ofPair : Nat) (a_open : Nat) (a_trial : Nat) (a_trial_first : Nat) (a_trial_second : Nat) (a_column : Nat) (a_value : Nat) (a_ofFirst : Nat) (a_standing : Nat) (a_rules : Nat) (a_trial_ending : Nat) (v_depth : Int32) (v_pair : Int32) (v_settled : Int32) (v_unwanted : Int32) (v_firstPaying : Int32) (c_leaf : Nat → Int64) (c_ofPair : Nat → Int32) (c_open : Nat → Int32) (v_trial_size : Int32) (c_trial_first : Nat → Int32) (c_trial_second : Nat → Int32) (x1 : Int32) (x2 : Int32) (q : Int32 × Int32) (hf : fX6_choosePair N v_pair v_settled c_leaf c_ofPair c_open c_trial_first c_trial_second x1 x2 = some q) : Met l yX6_choosePair (wS yX6_choosePair cX6_choosePair 4 none) rmX6_choosePair (va_Pc [.ref h0, .int x1, .int x2] (PP D cyI cyJ cyB cyS (wdX6_choosePair cyI cyJ cyB cyS h0 a_leaf a_ofPair a_open a_trial a_trial_first a_trial_second a_column a_value a_ofFirst a_standing a_rules a_trial_ending v_depth v_pair v_settled v_unwanted v_firstPaying c_leaf c_ofPair c_open v_trial_size c_trial_first c_trial_second) sz)) (QV D (wdX6_choosePair cyI cyJ cyB cyS h0 a_leaf a_ofPair a_open a_trial a_trial_first a_trial_second a_column a_value a_ofFirst a_standing a_rules a_trial_ending v_depth q.1 q.2 v_unwanted v_firstPaying c_leaf c_ofPair c_open v_trial_size c_trial_first c_trial_second) (va_A (wdX6_choosePair cyI cyJ cyB cyS h0 a_leaf a_ofPair a_open a_trial a_trial_first a_trial_second a_column a_value a_ofFirst a_standing a_rules a_trial_ending v_depth v_pair v_settled v_unwanted v_firstPaying c_leaf c_ofPair c_open v_trial_size c_trial_first c_trial_second) sz)) 0 0 (va_A (wdX6_choosePair cyI cyJ cyB cyS h0 a_leaf a_ofPair a_open a_trial a_trial_first a_trial_second a_column a_value a_ofFirst a_standing a_rules a_trial_ending v_depth v_pair v_settled v_unwanted v_firstPaying c_leaf c_ofPair c_open v_trial_size c_trial_first c_trial_second) sz) := by
  refine Met.ofW (cc := cX6_choosePair) (maxL := 4) (ret := none) (by decide) rfl ?_
  intro p e s m args below meth c s₁ B hml hv
  obtain ⟨rfl, hsz, hP, hK, hD0⟩ := hv
  have hx := B.exec
  have hb := B.bytes
  have hr := B.returns
  have hts := atoms_spec (ws := (wS yX6_choosePair cX6_choosePair 4 none)) B.pre
  have hown : s.vm.findClass RX6 = some m.cls := findClass_of_methodNamed B.named
  have hlocks := B.notSynchronized
  subst hsz
  have hD := hD0.self (sz := s.heap.size)
  refine w_nameQ (fun Q hQ => ?_)
  have hl := lv_entry ([.ref h0, .int x1, .int x2] : List Value) (n := 4) (Nat.le_of_ble_eq_true rfl)
  rw [lg_entry_eq]
  generalize (lg_sl ([.ref h0, .int x1, .int x2] : List Value) ++ List.replicate (4 - (lg_sl ([.ref h0, .int x1, .int x2] : List Value)).length) Slot.unset).toArray = ls at hl ⊢
  have hl : lv_has ls 4 [(0, .ref h0), (1, .int x1), (2, .int x2)] := hl
  generalize hAe : va_A (wdX6_choosePair cyI cyJ cyB cyS h0 a_leaf a_ofPair a_open a_trial a_trial_first a_trial_second a_column a_value a_ofFirst a_standing a_rules a_trial_ending v_depth v_pair v_settled v_unwanted v_firstPaying c_leaf c_ofPair c_open v_trial_size c_trial_first c_trial_second) s.heap.size = A at hD hQ
  have hA : ∀ q : Nat, s.heap.size ≤ q → A q := fun q h => by rw [← hAe]; exact Or.inr h
  have hS : va_S A s.heap s.heap [] := va_S.rf
  generalize ([.ref h0, .int x1, .int x2] : List Value).toArray = av at hts hQ ⊢
  have hL : ∀ w ∈ wsL_law, w.before av s = true := fun w h => hts w (List.mem_cons_of_mem _ h)
  have w0 := hL (.fieldLink RX6 167 "LosingLeague$Tree" "settled" "Z") (hR38 14 rfl)
  have w1 := hL (.fieldLink RX6 34 "LosingLeague$Tree" "trial" "LLosingLeague$Games;") (hR4 23 rfl)
  have w2 := hL (.fieldLink RX6 72 "LosingLeague$Games" "first" "[I") (hR25 1 rfl)
  have w3 := hL (.fieldLink RX6 21 "LosingLeague$Tree" "open" "[I") (hR4 19 rfl)
  have w4 := hL (.fieldLink RX6 75 "LosingLeague$Games" "second" "[I") (hR25 2 rfl)
  have w5 := hL (.fieldLink RX6 161 "LosingLeague$Tree" "pair" "I") (hR38 5 rfl)
  have hB86 : ∀ (k12 : Int32 → Int32 → Int32 → Option (Int32 × Int32)) (hk12 : ∀ (x3 : Int32) (v_pair : Int32) (v_settled : Int32) (H : Heap) (locs : List Loc) (ls : Array Slot), k12 x3 v_pair v_settled = some q → va_P D vwCl (wdX6_choosePair cyI cyJ cyB cyS h0 a_leaf a_ofPair a_open a_trial a_trial_first a_trial_second a_column a_value a_ofFirst a_standing a_rules a_trial_ending v_depth v_pair v_settled v_unwanted v_firstPaying c_leaf c_ofPair c_open v_trial_size c_trial_first c_trial_second) H → va_D A (wdX6_choosePair cyI cyJ cyB cyS h0 a_leaf a_ofPair a_open a_trial a_trial_first a_trial_second a_column a_value a_ofFirst a_standing a_rules a_trial_ending v_depth v_pair v_settled v_unwanted v_firstPaying c_leaf c_ofPair c_open v_trial_size c_trial_first c_trial_second) → va_S A s.heap H locs → lv_has ls 4 [(0, .ref h0), (1, .int x1), (2, .int x2), (3, .int x3)] → W p l e rmX6_choosePair s m av below meth c H locs 0 0 Q (F0 m 12 ls [])), ∀ (x3 : Int32) (v_pair : Int32) (v_settled : Int32) (H : Heap) (locs : List Loc) (ls : Array Slot), fX6_choosePair_86 N c_leaf c_ofPair c_open c_trial_first c_trial_second x1 x2 k12 x3 v_pair v_settled = some q → va_P D vwCl (wdX6_choosePair cyI cyJ cyB cyS h0 a_leaf a_ofPair a_open a_trial a_trial_first a_trial_second a_column a_value a_ofFirst a_standing a_rules a_trial_ending v_depth v_pair v_settled v_unwanted v_firstPaying c_leaf c_ofPair c_open v_trial_size c_trial_first c_trial_second) H → va_D A (wdX6_choosePair cyI cyJ cyB cyS h0 a_leaf a_ofPair a_open a_trial a_trial_first a_trial_second a_column a_value a_ofFirst a_standing a_rules a_trial_ending v_depth v_pair v_settled v_unwanted v_firstPaying c_leaf c_ofPair c_open v_trial_size c_trial_first c_trial_second) → va_S A s.heap H locs → lv_has ls 4 [(0, .ref h0), (1, .int x1), (2, .int x2), (3, .int x3)] → W p l e rmX6_choosePair s m av below meth c H locs 0 0 Q (F0 m 86 ls []) := by
    intro k12 hk12 x3 v_pair v_settled H locs ls hf hP hD hS hl
    unfold fX6_choosePair_86 at hf
    refine lv_iinc (v := x3 + 1) (lv' := [(3, .int (x3 + 1)), (0, .ref h0), (1, .int x1), (2, .int x2)]) hx hb dX6_choosePair_86 hl (k := 3) rfl rfl (by decide) rfl (fun ls hl => ?_)
    refine lv_goto (tgt := 12) hx hb dX6_choosePair_89 (by decide) ?_
    exact hk12 (x3 + 1) v_pair v_settled H locs ls hf hP hD hS (lv_sub hl [1, 2, 3, 0] rfl)
  have hB92 : ∀ (v_pair : Int32) (v_settled : Int32) (H : Heap) (locs : List Loc) (ls : Array Slot), fX6_choosePair_92 N c_leaf c_ofPair c_open c_trial_first c_trial_second x1 x2 v_pair v_settled = some q → va_P D vwCl (wdX6_choosePair cyI cyJ cyB cyS h0 a_leaf a_ofPair a_open a_trial a_trial_first a_trial_second a_column a_value a_ofFirst a_standing a_rules a_trial_ending v_depth v_pair v_settled v_unwanted v_firstPaying c_leaf c_ofPair c_open v_trial_size c_trial_first c_trial_second) H → va_D A (wdX6_choosePair cyI cyJ cyB cyS h0 a_leaf a_ofPair a_open a_trial a_trial_first a_trial_second a_column a_value a_ofFirst a_standing a_rules a_trial_ending v_depth v_pair v_settled v_unwanted v_firstPaying c_leaf c_ofPair c_open v_trial_size c_trial_first c_trial_second) → va_S A s.heap H locs → lv_has ls 4 [] → W p l e rmX6_choosePair s m av below meth c H locs 0 0 Q (F0 m 92 ls []) := by
    intro v_pair v_settled H locs ls hf hP hD hS hl
    unfold fX6_choosePair_92 at hf
    exact ret_v (q := q) (wp := fun q => (wdX6_choosePair cyI cyJ cyB cyS h0 a_leaf a_ofPair a_open a_trial a_trial_first a_trial_second a_column a_value a_ofFirst a_standing a_rules a_trial_ending v_depth q.1 q.2 v_unwanted v_firstPaying c_leaf c_ofPair c_open v_trial_size c_trial_first c_trial_second)) hQ hf hx hb hr hlocks hP hD hS dX6_choosePair_92
  have hB12 : ∀ (n : Nat), ∀ (x3 : Int32) (v_pair : Int32) (v_settled : Int32) (H : Heap) (locs : List Loc) (ls : Array Slot), fX6_choosePair_12 N c_leaf c_ofPair c_open c_trial_first c_trial_second x1 x2 n x3 v_pair v_settled = some q → va_P D vwCl (wdX6_choosePair cyI cyJ cyB cyS h0 a_leaf a_ofPair a_open a_trial a_trial_first a_trial_second a_column a_value a_ofFirst a_standing a_rules a_trial_ending v_depth v_pair v_settled v_unwanted v_firstPaying c_leaf c_ofPair c_open v_trial_size c_trial_first c_trial_second) H → va_D A (wdX6_choosePair cyI cyJ cyB cyS h0 a_leaf a_ofPair a_open a_trial a_trial_first a_trial_second a_column a_value a_ofFirst a_standing a_rules a_trial_ending v_depth v_pair v_settled v_unwanted v_firstPaying c_leaf c_ofPair c_open v_trial_size c_trial_first c_trial_second) → va_S A s.heap H locs → lv_has ls 4 [(0, .ref h0), (1, .int x1), (2, .int x2), (3, .int x3)] → W p l e rmX6_choosePair s m av below meth c H locs 0 0 Q (F0 m 12 ls []) := by
    intro n
    induction n with
    | zero => intro x3 v_pair v_settled H locs ls hf; exact absurd hf (by simp [fX6_choosePair_12])
    | succ n hk12 =>
      intro x3 v_pair v_settled H locs ls hf hP hD hS hl
      rw [fX6_choosePair_12] at hf
      refine lv_iload_n hx hb dX6_choosePair_12 rfl (lv_at hl 3 rfl) ?_
      refine lv_iconst (v := 4) hx hb dX6_choosePair_13 (by decide) ?_
      refine lv_icmp_ge (tgt := 92) hx hb dX6_choosePair_14 (by decide) (fun c14 => ?_) (fun c14 => ?_)
      · have hf := pif_t c14 hf
        exact hB92 v_pair v_settled H locs ls hf hP hD hS (lv_sub hl [] rfl)
      · have hf := pif_f c14 hf
        refine lv_aload_n hx hb dX6_choosePair_17 rfl (lv_at hl 0 rfl) ?_
        refine va_get (D := D) (ci := 6) (v := .int v_settled) (C := RX6) (T := TX6) (N := 14) hx hb hL inlX6 hown hK.1 hP 0 rfl rfl 11 (by decide) w0 (fun _ h9 => h9) rfl dX6_choosePair_18 ?_
        refine lv_if_ne (tgt := 92) hx hb dX6_choosePair_21 (by decide) (fun c21 => ?_) (fun c21 => ?_)
        · have hf := pif_f c21 hf
          exact hB92 v_pair v_settled H locs ls hf hP hD hS (lv_sub hl [] rfl)
        · have hf := pif_t c21 hf
          refine lv_aload_n hx hb dX6_choosePair_24 rfl (lv_at hl 0 rfl) ?_
          refine lv_aload_n hx hb dX6_choosePair_25 rfl (lv_at hl 0 rfl) ?_
          refine va_get (D := D) (ci := 6) (v := .ref a_trial) (C := RX6) (T := TX6) (N := 14) hx hb hL inlX6 hown hK.1 hP 0 rfl rfl 6 (by decide) w1 (fun _ h9 => h9) rfl dX6_choosePair_26 ?_
          refine va_get (D := D) (ci := 0) (v := .ref a_trial_first) (C := RX0) (T := TX0) (N := 4) hx hb hL inlX0 hown hK.1 hP 4 rfl rfl 0 (by decide) w2 (fun _ h9 => h9) rfl dX6_choosePair_29 ?_
          refine lv_aload_n hx hb dX6_choosePair_32 rfl (lv_at hl 0 rfl) ?_
          refine va_get (D := D) (ci := 6) (v := .ref a_open) (C := RX6) (T := TX6) (N := 14) hx hb hL inlX6 hown hK.1 hP 0 rfl rfl 3 (by decide) w3 (fun _ h9 => h9) rfl dX6_choosePair_33 ?_
          refine lv_iload_n hx hb dX6_choosePair_36 rfl (lv_at hl 1 rfl) ?_
          obtain ⟨h37, hf⟩ := pg_some hf
          refine va_iald hx hb hK.1 hP 3 0 rfl rfl h37 dX6_choosePair_37 ?_
          obtain ⟨h38, hf⟩ := pg_some hf
          refine va_iald hx hb hK.1 hP 5 0 rfl rfl h38 dX6_choosePair_38 ?_
          refine lv_iload_n hx hb dX6_choosePair_39 rfl (lv_at hl 2 rfl) ?_
          refine lv_iload_n hx hb dX6_choosePair_40 rfl (lv_at hl 3 rfl) ?_
          refine lv_iload_n hx hb dX6_choosePair_41 rfl (lv_at hl 3 rfl) ?_
          refine lv_iconst (v := 2) hx hb dX6_choosePair_42 (by decide) ?_
          refine lv_ixor hx hb dX6_choosePair_43 ?_
          obtain ⟨q44, e44, hf⟩ := pb_some hf
          refine cs_i (wc := (wdX6_gains cyI cyJ cyB cyS h0 a_leaf a_ofPair a_column a_value a_open a_ofFirst a_trial a_standing a_rules v_depth v_pair v_settled v_unwanted v_firstPaying c_leaf c_ofPair)) (w1 := (wdX6_gains cyI cyJ cyB cyS h0 a_leaf a_ofPair a_column a_value a_open a_ofFirst a_trial a_standing a_rules v_depth v_pair v_settled v_unwanted v_firstPaying c_leaf c_ofPair)) hP hD hS hA [0, 1, 2] rfl rfl rfl (va_runV (C := RX6) (As := [.int (c_trial_first (c_open x1.toNatClampNeg).toNatClampNeg), .int x2, .int x3, .int (x3 ^^^ 2)]) (rest := []) ⟨hx, hb, hml, hown, hL⟩ (mX6_gains l D cyI cyJ cyB cyS N H.size h0 a_leaf a_ofPair a_column a_value a_open a_ofFirst a_trial a_standing a_rules v_depth v_pair v_settled v_unwanted v_firstPaying c_leaf c_ofPair (c_trial_first (c_open x1.toNatClampNeg).toNatClampNeg) x2 x3 (x3 ^^^ 2) q44 e44) (cwV 4 hL (gV (hR38 15 rfl) (hR38 16 rfl) (hR38 17 rfl) (hR2 7 rfl) (hR38 18 rfl)) rfl rfl rfl (by decide +kernel) ⟨Nat.le_of_ble_eq_true rfl, Nat.le_of_ble_eq_true rfl⟩) (PP_preV (ci := 6) (q0 := 0) hP hD hK [0, 1, 2] rfl rfl rfl rfl) rfl rfl hl.1 rfl (lv_room (Nat.le_of_ble_eq_true rfl)) dX6_choosePair_44 ⟨Nat.le_of_ble_eq_true rfl, Nat.le_of_ble_eq_true rfl⟩) (fun H locs hP hD hS => ?_)
          have hP : va_P D vwCl (wdX6_choosePair cyI cyJ cyB cyS h0 a_leaf a_ofPair a_open a_trial a_trial_first a_trial_second a_column a_value a_ofFirst a_standing a_rules a_trial_ending v_depth v_pair v_settled v_unwanted v_firstPaying c_leaf c_ofPair c_open v_trial_size c_trial_first c_trial_second) H := hP
          have hD : va_D A (wdX6_choosePair cyI cyJ cyB cyS h0 a_leaf a_ofPair a_open a_trial a_trial_first a_trial_second a_column a_value a_ofFirst a_standing a_rules a_trial_ending v_depth v_pair v_settled v_unwanted v_firstPaying c_leaf c_ofPair c_open v_trial_size c_trial_first c_trial_second) := hD
          refine lv_if_ne (tgt := 86) hx hb dX6_choosePair_47 (by decide) (fun c47 => ?_) (fun c47 => ?_)
          · have hf := pif_f c47 hf
            exact hB86 (fX6_choosePair_12 N c_leaf c_ofPair c_open c_trial_first c_trial_second x1 x2 n) hk12 x3 v_pair v_settled H locs ls hf hP hD hS (lv_sub hl [0, 1, 2, 3] rfl)
          · have hf := pif_t c47 hf
            refine lv_aload_n hx hb dX6_choosePair_50 rfl (lv_at hl 0 rfl) ?_
            refine lv_aload_n hx hb dX6_choosePair_51 rfl (lv_at hl 0 rfl) ?_
            refine va_get (D := D) (ci := 6) (v := .ref a_trial) (C := RX6) (T := TX6) (N := 14) hx hb hL inlX6 hown hK.1 hP 0 rfl rfl 6 (by decide) w1 (fun _ h9 => h9) rfl dX6_choosePair_52 ?_
            refine va_get (D := D) (ci := 0) (v := .ref a_trial_second) (C := RX0) (T := TX0) (N := 4) hx hb hL inlX0 hown hK.1 hP 4 rfl rfl 1 (by decide) w4 (fun _ h9 => h9) rfl dX6_choosePair_55 ?_
            refine lv_aload_n hx hb dX6_choosePair_58 rfl (lv_at hl 0 rfl) ?_
            refine va_get (D := D) (ci := 6) (v := .ref a_open) (C := RX6) (T := TX6) (N := 14) hx hb hL inlX6 hown hK.1 hP 0 rfl rfl 3 (by decide) w3 (fun _ h9 => h9) rfl dX6_choosePair_59 ?_
            refine lv_iload_n hx hb dX6_choosePair_62 rfl (lv_at hl 1 rfl) ?_
            obtain ⟨h63, hf⟩ := pg_some hf
            refine va_iald hx hb hK.1 hP 3 0 rfl rfl h63 dX6_choosePair_63 ?_
            obtain ⟨h64, hf⟩ := pg_some hf
            refine va_iald hx hb hK.1 hP 6 0 rfl rfl h64 dX6_choosePair_64 ?_
            refine lv_iload_n hx hb dX6_choosePair_65 rfl (lv_at hl 2 rfl) ?_
            refine lv_iload_n hx hb dX6_choosePair_66 rfl (lv_at hl 3 rfl) ?_
            refine lv_iload_n hx hb dX6_choosePair_67 rfl (lv_at hl 3 rfl) ?_
            refine lv_iconst (v := 1) hx hb dX6_choosePair_68 (by decide) ?_
            refine lv_ixor hx hb dX6_choosePair_69 ?_
            obtain ⟨q70, e70, hf⟩ := pb_some hf
            refine cs_i (wc := (wdX6_gains cyI cyJ cyB cyS h0 a_leaf a_ofPair a_column a_value a_open a_ofFirst a_trial a_standing a_rules v_depth v_pair v_settled v_unwanted v_firstPaying c_leaf c_ofPair)) (w1 := (wdX6_gains cyI cyJ cyB cyS h0 a_leaf a_ofPair a_column a_value a_open a_ofFirst a_trial a_standing a_rules v_depth v_pair v_settled v_unwanted v_firstPaying c_leaf c_ofPair)) hP hD hS hA [0, 1, 2] rfl rfl rfl (va_runV (C := RX6) (As := [.int (c_trial_second (c_open x1.toNatClampNeg).toNatClampNeg), .int x2, .int x3, .int (x3 ^^^ 1)]) (rest := []) ⟨hx, hb, hml, hown, hL⟩ (mX6_gains l D cyI cyJ cyB cyS N H.size h0 a_leaf a_ofPair a_column a_value a_open a_ofFirst a_trial a_standing a_rules v_depth v_pair v_settled v_unwanted v_firstPaying c_leaf c_ofPair (c_trial_second (c_open x1.toNatClampNeg).toNatClampNeg) x2 x3 (x3 ^^^ 1) q70 e70) (cwV 4 hL (gV (hR38 15 rfl) (hR38 16 rfl) (hR38 17 rfl) (hR2 7 rfl) (hR38 18 rfl)) rfl rfl rfl (by decide +kernel) ⟨Nat.le_of_ble_eq_true rfl, Nat.le_of_ble_eq_true rfl⟩) (PP_preV (ci := 6) (q0 := 0) hP hD hK [0, 1, 2] rfl rfl rfl rfl) rfl rfl hl.1 rfl (lv_room (Nat.le_of_ble_eq_true rfl)) dX6_choosePair_70 ⟨Nat.le_of_ble_eq_true rfl, Nat.le_of_ble_eq_true rfl⟩) (fun H locs hP hD hS => ?_)
            have hP : va_P D vwCl (wdX6_choosePair cyI cyJ cyB cyS h0 a_leaf a_ofPair a_open a_trial a_trial_first a_trial_second a_column a_value a_ofFirst a_standing a_rules a_trial_ending v_depth v_pair v_settled v_unwanted v_firstPaying c_leaf c_ofPair c_open v_trial_size c_trial_first c_trial_second) H := hP
            have hD : va_D A (wdX6_choosePair cyI cyJ cyB cyS h0 a_leaf a_ofPair a_open a_trial a_trial_first a_trial_second a_column a_value a_ofFirst a_standing a_rules a_trial_ending v_depth v_pair v_settled v_unwanted v_firstPaying c_leaf c_ofPair c_open v_trial_size c_trial_first c_trial_second) := hD
            refine lv_if_ne (tgt := 86) hx hb dX6_choosePair_73 (by decide) (fun c73 => ?_) (fun c73 => ?_)
            · have hf := pif_f c73 hf
              exact hB86 (fX6_choosePair_12 N c_leaf c_ofPair c_open c_trial_first c_trial_second x1 x2 n) hk12 x3 v_pair v_settled H locs ls hf hP hD hS (lv_sub hl [0, 1, 2, 3] rfl)
            · have hf := pif_t c73 hf
              refine lv_aload_n hx hb dX6_choosePair_76 rfl (lv_at hl 0 rfl) ?_
              refine lv_iload_n hx hb dX6_choosePair_77 rfl (lv_at hl 3 rfl) ?_
              refine va_put (D := D) (ci := 6) (v := .int x3) (ty := .int) (C := RX6) (T := TX6) (N := 14) hx hb hL inlX6 tyX6 tyX6_ok nmX6 hown hK.1 hP hD hS 0 rfl rfl 10 (by decide) w5 (fun _ h9 => h9) rfl (by decide +kernel) rfl rfl (Nat.le_of_ble_eq_true rfl) dX6_choosePair_78 (fun H locs hP hD hS => ?_)
              have hP : va_P D vwCl (wdX6_choosePair cyI cyJ cyB cyS h0 a_leaf a_ofPair a_open a_trial a_trial_first a_trial_second a_column a_value a_ofFirst a_standing a_rules a_trial_ending v_depth x3 v_settled v_unwanted v_firstPaying c_leaf c_ofPair c_open v_trial_size c_trial_first c_trial_second) H := hP
              have hD : va_D A (wdX6_choosePair cyI cyJ cyB cyS h0 a_leaf a_ofPair a_open a_trial a_trial_first a_trial_second a_column a_value a_ofFirst a_standing a_rules a_trial_ending v_depth x3 v_settled v_unwanted v_firstPaying c_leaf c_ofPair c_open v_trial_size c_trial_first c_trial_second) := hD
              refine lv_aload_n hx hb dX6_choosePair_81 rfl (lv_at hl 0 rfl) ?_
              refine lv_iconst (v := 1) hx hb dX6_choosePair_82 (by decide) ?_
              refine va_put (D := D) (ci := 6) (v := .int 1) (ty := .boolean) (C := RX6) (T := TX6) (N := 14) hx hb hL inlX6 tyX6 tyX6_ok nmX6 hown hK.1 hP hD hS 0 rfl rfl 11 (by decide) w0 (fun _ h9 => h9) rfl (by decide +kernel) rfl rfl (Nat.le_of_ble_eq_true rfl) dX6_choosePair_83 (fun H locs hP hD hS => ?_)
              have hP : va_P D vwCl (wdX6_choosePair cyI cyJ cyB cyS h0 a_leaf a_ofPair a_open a_trial a_trial_first a_trial_second a_column a_value a_ofFirst a_standing a_rules a_trial_ending v_depth x3 1 v_unwanted v_firstPaying c_leaf c_ofPair c_open v_trial_size c_trial_first c_trial_second) H := hP
              have hD : va_D A (wdX6_choosePair cyI cyJ cyB cyS h0 a_leaf a_ofPair a_open a_trial a_trial_first a_trial_second a_column a_value a_ofFirst a_standing a_rules a_trial_ending v_depth x3 1 v_unwanted v_firstPaying c_leaf c_ofPair c_open v_trial_size c_trial_first c_trial_second) := hD
              exact hB86 (fX6_choosePair_12 N c_leaf c_ofPair c_open c_trial_first c_trial_second x1 x2 n) hk12 x3 x3 1 H locs ls hf hP hD hS (lv_sub hl [0, 1, 2, 3] rfl)
  unfold fX6_choosePair at hf
  obtain ⟨H, hH⟩ : ∃ H : Heap, H = s.heap := ⟨_, rfl⟩
  obtain ⟨locs, hlo⟩ : ∃ locs : List Loc, locs = [] := ⟨_, rfl⟩
  have hP : va_P D vwCl (wdX6_choosePair cyI cyJ cyB cyS h0 a_leaf a_ofPair a_open a_trial a_trial_first a_trial_second a_column a_value a_ofFirst a_standing a_rules a_trial_ending v_depth v_pair v_settled v_unwanted v_firstPaying c_leaf c_ofPair c_open v_trial_size c_trial_first c_trial_second) H := by rw [hH]; exact hP
  have hS : va_S A s.heap H locs := by rw [hH, hlo]; exact hS
  suffices hw : W p l e rmX6_choosePair s m av below meth c H locs 0 0 Q (F0 m 0 ls []) by rw [hH, hlo] at hw; exact hw
  refine lv_aload_n hx hb dX6_choosePair_0 rfl (lv_at hl 0 rfl) ?_
  refine lv_iconst (v := 0) hx hb dX6_choosePair_1 (by decide) ?_
  refine va_put (D := D) (ci := 6) (v := .int 0) (ty := .int) (C := RX6) (T := TX6) (N := 14) hx hb hL inlX6 tyX6 tyX6_ok nmX6 hown hK.1 hP hD hS 0 rfl rfl 10 (by decide) w5 (fun _ h9 => h9) rfl (by decide +kernel) rfl rfl (Nat.le_of_ble_eq_true rfl) dX6_choosePair_2 (fun H locs hP hD hS => ?_)
  have hP : va_P D vwCl (wdX6_choosePair cyI cyJ cyB cyS h0 a_leaf a_ofPair a_open a_trial a_trial_first a_trial_second a_column a_value a_ofFirst a_standing a_rules a_trial_ending v_depth 0 v_settled v_unwanted v_firstPaying c_leaf c_ofPair c_open v_trial_size c_trial_first c_trial_second) H := hP
  have hD : va_D A (wdX6_choosePair cyI cyJ cyB cyS h0 a_leaf a_ofPair a_open a_trial a_trial_first a_trial_second a_column a_value a_ofFirst a_standing a_rules a_trial_ending v_depth 0 v_settled v_unwanted v_firstPaying c_leaf c_ofPair c_open v_trial_size c_trial_first c_trial_second) := hD
  refine lv_aload_n hx hb dX6_choosePair_5 rfl (lv_at hl 0 rfl) ?_
  refine lv_iconst (v := 0) hx hb dX6_choosePair_6 (by decide) ?_
  refine va_put (D := D) (ci := 6) (v := .int 0) (ty := .boolean) (C := RX6) (T := TX6) (N := 14) hx hb hL inlX6 tyX6 tyX6_ok nmX6 hown hK.1 hP hD hS 0 rfl rfl 11 (by decide) w0 (fun _ h9 => h9) rfl (by decide +kernel) rfl rfl (Nat.le_of_ble_eq_true rfl) dX6_choosePair_7 (fun H locs hP hD hS => ?_)
  have hP : va_P D vwCl (wdX6_choosePair cyI cyJ cyB cyS h0 a_leaf a_ofPair a_open a_trial a_trial_first a_trial_second a_column a_value a_ofFirst a_standing a_rules a_trial_ending v_depth 0 0 v_unwanted v_firstPaying c_leaf c_ofPair c_open v_trial_size c_trial_first c_trial_second) H := hP
  have hD : va_D A (wdX6_choosePair cyI cyJ cyB cyS h0 a_leaf a_ofPair a_open a_trial a_trial_first a_trial_second a_column a_value a_ofFirst a_standing a_rules a_trial_ending v_depth 0 0 v_unwanted v_firstPaying c_leaf c_ofPair c_open v_trial_size c_trial_first c_trial_second) := hD
  refine lv_iconst (v := 0) hx hb dX6_choosePair_10 (by decide) ?_
  refine lv_istore_n (lv' := [(3, .int 0), (0, .ref h0), (1, .int x1), (2, .int x2)]) hx hb dX6_choosePair_11 rfl hl (by decide) rfl (fun ls hl => ?_)
  exact hB12 N 0 0 0 H locs ls hf hP hD hS (lv_sub hl [1, 2, 3, 0] rfl)
def fX6_playBack_18 (N : Nat) (v_depth : Int32) (c_open : Nat → Int32) (v_rules_sides : Int32) (c_rules_strength : Nat → Int32) (c_trial_first : Nat → Int32) (c_trial_second : Nat → Int32) (k7 : Int32 → Int32 → Int32 → (Nat → Int64) → (Nat → Int32) → (Nat → Int64) → Option (Int32 × Int32 × (Nat → Int64) × (Nat → Int32) × (Nat → Int64))) : Nat → Int32 → Int32 → Int32 → Int32 → (Nat → Int64) → (Nat → Int32) → (Nat → Int64) → Option (Int32 × Int32 × (Nat → Int64) × (Nat → Int32) × (Nat → Int64))
  | 0, _, _, _, _, _, _, _ => none
  | n + 1, x1, x2, v_pair, v_settled, c_leaf, c_ofPair, c_value => pif ((1 <<< (x1 &&& 31)) ≤ x2) (k7 (x1 + (-1)) v_pair v_settled c_leaf c_ofPair c_value) (pb (fX6_choosePair N v_pair v_settled c_leaf c_ofPair c_open c_trial_first c_trial_second x1 x2) (fun q28 => pg (inr q28.1 4) (pb (fX6_join N c_leaf v_rules_sides x2 (c_ofPair q28.1.toNatClampNeg)) (fun q42 => (fX6_playBack_18 N v_depth c_open v_rules_sides c_rules_strength c_trial_first c_trial_second k7 n) x1 (x2 + 1) q28.1 q28.2 q42 c_ofPair c_value))))
def fX6_playBack_59 (N : Nat) (v_depth : Int32) (c_open : Nat → Int32) (v_rules_sides : Int32) (c_rules_strength : Nat → Int32) (c_trial_first : Nat → Int32) (c_trial_second : Nat → Int32) : Nat → Int32 → Int32 → Int32 → (Nat → Int64) → (Nat → Int32) → (Nat → Int64) → Option (Int32 × Int32 × (Nat → Int64) × (Nat → Int32) × (Nat → Int64))
  | 0, _, _, _, _, _, _ => none
  | n + 1, x1, v_pair, v_settled, c_leaf, c_ofPair, c_value => pif (v_rules_sides ≤ x1) (some (v_pair, v_settled, c_leaf, c_ofPair, c_value)) (pg (inr x1 768) (pg (inr x1 6) ((fX6_playBack_59 N v_depth c_open v_rules_sides c_rules_strength c_trial_first c_trial_second n) (x1 + 1) v_pair v_settled c_leaf c_ofPair (vp_updL c_value x1.toNatClampNeg (c_leaf x1.toNatClampNeg)))))
def fX6_playBack_7 (N : Nat) (v_depth : Int32) (c_open : Nat → Int32) (v_rules_sides : Int32) (c_rules_strength : Nat → Int32) (c_trial_first : Nat → Int32) (c_trial_second : Nat → Int32) : Nat → Int32 → Int32 → Int32 → (Nat → Int64) → (Nat → Int32) → (Nat → Int64) → Option (Int32 × Int32 × (Nat → Int64) × (Nat → Int32) × (Nat → Int64))
  | 0, _, _, _, _, _, _ => none
  | n + 1, x1, v_pair, v_settled, c_leaf, c_ofPair, c_value => pif (x1 < 0) (fX6_playBack_59 N v_depth c_open v_rules_sides c_rules_strength c_trial_first c_trial_second N 0 v_pair v_settled c_leaf c_ofPair c_value) (pb (fX6_weighPairs N c_ofPair c_open c_rules_strength c_trial_first c_trial_second x1) (fun q13 => fX6_playBack_18 N v_depth c_open v_rules_sides c_rules_strength c_trial_first c_trial_second (fX6_playBack_7 N v_depth c_open v_rules_sides c_rules_strength c_trial_first c_trial_second n) N x1 0 v_pair v_settled c_leaf q13 c_value))
def fX6_playBack (N : Nat) (v_depth : Int32) (v_pair : Int32) (v_settled : Int32) (c_leaf : Nat → Int64) (c_ofPair : Nat → Int32) (c_open : Nat → Int32) (v_rules_sides : Int32) (c_rules_strength : Nat → Int32) (c_trial_first : Nat → Int32) (c_trial_second : Nat → Int32) (c_value : Nat → Int64) : Option (Int32 × Int32 × (Nat → Int64) × (Nat → Int32) × (Nat → Int64)) := fX6_playBack_7 N v_depth c_open v_rules_sides c_rules_strength c_trial_first c_trial_second N (v_depth - 1) v_pair v_settled c_leaf c_ofPair c_value
def wdX6_playBack (cyI cyJ cyB cyS : ClassId) (h0 : Nat) (a_leaf : Nat) (a_ofPair : Nat) (a_open : Nat) (a_rules : Nat) (a_rules_strength : Nat) (a_trial : Nat) (a_trial_first : Nat) (a_trial_second : Nat) (a_value : Nat) (a_column : Nat) (a_ofFirst : Nat) (a_standing : Nat) (a_rules_placeWorth : Nat) (a_rules_choiceWorth : Nat) (a_rules_balls : Nat) (a_rules_wheel : Nat) (a_trial_ending : Nat) (v_depth : Int32) (v_pair : Int32) (v_settled : Int32) (v_unwanted : Int32) (v_firstPaying : Int32) (c_leaf : Nat → Int64) (c_ofPair : Nat → Int32) (c_open : Nat → Int32) (v_rules_sides : Int32) (v_rules_kind : Int32) (v_rules_rounds : Int32) (c_rules_strength : Nat → Int32) (v_trial_size : Int32) (c_trial_first : Nat → Int32) (c_trial_second : Nat → Int32) (c_value : Nat → Int64) : va_W := [(h0, .inr (6, [.ref a_leaf, .ref a_column, .ref a_value, .ref a_open, .ref a_ofFirst, .ref a_ofPair, .ref a_trial, .ref a_standing, .ref a_rules, .int v_depth, .int v_pair, .int v_settled, .int v_unwanted, .int v_firstPaying])), (a_leaf, .inl (cyJ, 768, .inr (.inl c_leaf))), (a_ofPair, .inl (cyI, 4, .inl c_ofPair)), (a_open, .inl (cyI, 7, .inl c_open)), (a_rules, .inr (2, [.ref a_rules_strength, .ref a_rules_placeWorth, .ref a_rules_choiceWorth, .ref a_rules_balls, .ref a_rules_wheel, .int v_rules_sides, .int v_rules_kind, .int v_rules_rounds])), (a_rules_strength, .inl (cyI, 6, .inl c_rules_strength)), (a_trial, .inr (0, [.ref a_trial_first, .ref a_trial_second, .ref a_trial_ending, .int v_trial_size])), (a_trial_first, .inl (cyI, 30, .inl c_trial_first)), (a_trial_second, .inl (cyI, 30, .inl c_trial_second)), (a_value, .inl (cyJ, 6, .inr (.inl c_value)))]
abbrev rmX6_playBack : Room := { frames := 3, cells := 0, slots := 0, locals := 75 }
set_option maxHeartbeats 40000000 in
set_option maxRecDepth 100000 in
theorem mX6_playBack (l : Launch) (D : va_G) (cyI cyJ cyB cyS : ClassId) (N : Nat) (sz : Nat) (h0 : Nat) (a_leaf : Nat) (a_ofPair : Nat) (a_open : Nat) (a_rules : Nat) (a_rules_strength : Nat) (a_trial : Nat) (a_trial_first : Nat) (a_trial_second : Nat) (a_value : Nat) (a_column : Nat) (a_ofFirst : Nat) (a_standing : Nat) (a_rules_placeWorth : Nat) (a_rules_choiceWorth : Nat) (a_rules_balls : Nat) (a_rules_wheel : Nat) (a_trial_ending : Nat) (v_depth : Int32) (v_pair : Int32) (v_settled : Int32) (v_unwanted : Int32) (v_firstPaying : Int32) (c_leaf : Nat → Int64) (c_ofPair : Nat → Int32) (c_open : Nat → Int32) (v_rules_sides : Int32) (v_rules_kind : Int32) (v_rules_rounds : Int32) (c_rules_strength : Nat → Int32) (v_trial_size : Int32) (c_trial_first : Nat → Int32) (c_trial_second : Nat → Int32) (c_value : Nat → Int64) (q : Int32 × Int32 × (Nat → Int64) × (Nat → Int32) × (Nat → Int64)) (hf : fX6_playBack N v_depth v_pair v_settled c_leaf c_ofPair c_open v_rules_sides c_rules_strength c_trial_first c_trial_second c_value = some q) : Met l yX6_playBack (wS yX6_playBack cX6_playBack 3 none) rmX6_playBack (va_Pc [.ref h0] (PP D cyI cyJ cyB cyS (wdX6_playBack cyI cyJ cyB cyS h0 a_leaf a_ofPair a_open a_rules a_rules_strength a_trial a_trial_first a_trial_second a_value a_column a_ofFirst a_standing a_rules_placeWorth a_rules_choiceWorth a_rules_balls a_rules_wheel a_trial_ending v_depth v_pair v_settled v_unwanted v_firstPaying c_leaf c_ofPair c_open v_rules_sides v_rules_kind v_rules_rounds c_rules_strength v_trial_size c_trial_first c_trial_second c_value) sz)) (QV D (wdX6_playBack cyI cyJ cyB cyS h0 a_leaf a_ofPair a_open a_rules a_rules_strength a_trial a_trial_first a_trial_second a_value a_column a_ofFirst a_standing a_rules_placeWorth a_rules_choiceWorth a_rules_balls a_rules_wheel a_trial_ending v_depth q.1 q.2.1 v_unwanted v_firstPaying q.2.2.1 q.2.2.2.1 c_open v_rules_sides v_rules_kind v_rules_rounds c_rules_strength v_trial_size c_trial_first c_trial_second q.2.2.2.2) (va_A (wdX6_playBack cyI cyJ cyB cyS h0 a_leaf a_ofPair a_open a_rules a_rules_strength a_trial a_trial_first a_trial_second a_value a_column a_ofFirst a_standing a_rules_placeWorth a_rules_choiceWorth a_rules_balls a_rules_wheel a_trial_ending v_depth v_pair v_settled v_unwanted v_firstPaying c_leaf c_ofPair c_open v_rules_sides v_rules_kind v_rules_rounds c_rules_strength v_trial_size c_trial_first c_trial_second c_value) sz)) 0 0 (va_A (wdX6_playBack cyI cyJ cyB cyS h0 a_leaf a_ofPair a_open a_rules a_rules_strength a_trial a_trial_first a_trial_second a_value a_column a_ofFirst a_standing a_rules_placeWorth a_rules_choiceWorth a_rules_balls a_rules_wheel a_trial_ending v_depth v_pair v_settled v_unwanted v_firstPaying c_leaf c_ofPair c_open v_rules_sides v_rules_kind v_rules_rounds c_rules_strength v_trial_size c_trial_first c_trial_second c_value) sz) := by
  refine Met.ofW (cc := cX6_playBack) (maxL := 3) (ret := none) (by decide) rfl ?_
  intro p e s m args below meth c s₁ B hml hv
  obtain ⟨rfl, hsz, hP, hK, hD0⟩ := hv
  have hx := B.exec
  have hb := B.bytes
  have hr := B.returns
  have hts := atoms_spec (ws := (wS yX6_playBack cX6_playBack 3 none)) B.pre
  have hown : s.vm.findClass RX6 = some m.cls := findClass_of_methodNamed B.named
  have hlocks := B.notSynchronized
  subst hsz
  have hD := hD0.self (sz := s.heap.size)
  refine w_nameQ (fun Q hQ => ?_)
  have hl := lv_entry ([.ref h0] : List Value) (n := 3) (Nat.le_of_ble_eq_true rfl)
  rw [lg_entry_eq]
  generalize (lg_sl ([.ref h0] : List Value) ++ List.replicate (3 - (lg_sl ([.ref h0] : List Value)).length) Slot.unset).toArray = ls at hl ⊢
  have hl : lv_has ls 3 [(0, .ref h0)] := hl
  generalize hAe : va_A (wdX6_playBack cyI cyJ cyB cyS h0 a_leaf a_ofPair a_open a_rules a_rules_strength a_trial a_trial_first a_trial_second a_value a_column a_ofFirst a_standing a_rules_placeWorth a_rules_choiceWorth a_rules_balls a_rules_wheel a_trial_ending v_depth v_pair v_settled v_unwanted v_firstPaying c_leaf c_ofPair c_open v_rules_sides v_rules_kind v_rules_rounds c_rules_strength v_trial_size c_trial_first c_trial_second c_value) s.heap.size = A at hD hQ
  have hA : ∀ q : Nat, s.heap.size ≤ q → A q := fun q h => by rw [← hAe]; exact Or.inr h
  have hS : va_S A s.heap s.heap [] := va_S.rf
  generalize ([.ref h0] : List Value).toArray = av at hts hQ ⊢
  have hL : ∀ w ∈ wsL_law, w.before av s = true := fun w h => hts w (List.mem_cons_of_mem _ h)
  have w0 := hL (.fieldLink RX6 28 "LosingLeague$Tree" "ofPair" "[I") (hR4 21 rfl)
  have w1 := hL (.fieldLink RX6 161 "LosingLeague$Tree" "pair" "I") (hR38 5 rfl)
  have w2 := hL (.fieldLink RX6 48 "LosingLeague$Tree" "rules" "LLosingLeague$Rules;") (hR5 3 rfl)
  have w3 := hL (.fieldLink RX6 82 "LosingLeague$Rules" "sides" "I") (hR25 12 rfl)
  have w4 := hL (.fieldLink RX6 18 "LosingLeague$Tree" "value" "[J") (hR4 18 rfl)
  have w5 := hL (.fieldLink RX6 9 "LosingLeague$Tree" "leaf" "[J") (hR4 16 rfl)
  have w6 := hL (.fieldLink RX6 59 "LosingLeague$Tree" "depth" "I") (hR24 16 rfl)
  have hB18 : ∀ (k7 : Int32 → Int32 → Int32 → (Nat → Int64) → (Nat → Int32) → (Nat → Int64) → Option (Int32 × Int32 × (Nat → Int64) × (Nat → Int32) × (Nat → Int64))) (hk7 : ∀ (x1 : Int32) (v_pair : Int32) (v_settled : Int32) (c_leaf : Nat → Int64) (c_ofPair : Nat → Int32) (c_value : Nat → Int64) (H : Heap) (locs : List Loc) (ls : Array Slot), k7 x1 v_pair v_settled c_leaf c_ofPair c_value = some q → va_P D vwCl (wdX6_playBack cyI cyJ cyB cyS h0 a_leaf a_ofPair a_open a_rules a_rules_strength a_trial a_trial_first a_trial_second a_value a_column a_ofFirst a_standing a_rules_placeWorth a_rules_choiceWorth a_rules_balls a_rules_wheel a_trial_ending v_depth v_pair v_settled v_unwanted v_firstPaying c_leaf c_ofPair c_open v_rules_sides v_rules_kind v_rules_rounds c_rules_strength v_trial_size c_trial_first c_trial_second c_value) H → va_D A (wdX6_playBack cyI cyJ cyB cyS h0 a_leaf a_ofPair a_open a_rules a_rules_strength a_trial a_trial_first a_trial_second a_value a_column a_ofFirst a_standing a_rules_placeWorth a_rules_choiceWorth a_rules_balls a_rules_wheel a_trial_ending v_depth v_pair v_settled v_unwanted v_firstPaying c_leaf c_ofPair c_open v_rules_sides v_rules_kind v_rules_rounds c_rules_strength v_trial_size c_trial_first c_trial_second c_value) → va_S A s.heap H locs → lv_has ls 3 [(0, .ref h0), (1, .int x1)] → W p l e rmX6_playBack s m av below meth c H locs 0 0 Q (F0 m 7 ls [])) (n : Nat), ∀ (x1 : Int32) (x2 : Int32) (v_pair : Int32) (v_settled : Int32) (c_leaf : Nat → Int64) (c_ofPair : Nat → Int32) (c_value : Nat → Int64) (H : Heap) (locs : List Loc) (ls : Array Slot), fX6_playBack_18 N v_depth c_open v_rules_sides c_rules_strength c_trial_first c_trial_second k7 n x1 x2 v_pair v_settled c_leaf c_ofPair c_value = some q → va_P D vwCl (wdX6_playBack cyI cyJ cyB cyS h0 a_leaf a_ofPair a_open a_rules a_rules_strength a_trial a_trial_first a_trial_second a_value a_column a_ofFirst a_standing a_rules_placeWorth a_rules_choiceWorth a_rules_balls a_rules_wheel a_trial_ending v_depth v_pair v_settled v_unwanted v_firstPaying c_leaf c_ofPair c_open v_rules_sides v_rules_kind v_rules_rounds c_rules_strength v_trial_size c_trial_first c_trial_second c_value) H → va_D A (wdX6_playBack cyI cyJ cyB cyS h0 a_leaf a_ofPair a_open a_rules a_rules_strength a_trial a_trial_first a_trial_second a_value a_column a_ofFirst a_standing a_rules_placeWorth a_rules_choiceWorth a_rules_balls a_rules_wheel a_trial_ending v_depth v_pair v_settled v_unwanted v_firstPaying c_leaf c_ofPair c_open v_rules_sides v_rules_kind v_rules_rounds c_rules_strength v_trial_size c_trial_first c_trial_second c_value) → va_S A s.heap H locs → lv_has ls 3 [(0, .ref h0), (1, .int x1), (2, .int x2)] → W p l e rmX6_playBack s m av below meth c H locs 0 0 Q (F0 m 18 ls []) := by
    intro k7 hk7 n
    induction n with
    | zero => intro x1 x2 v_pair v_settled c_leaf c_ofPair c_value H locs ls hf; exact absurd hf (by simp [fX6_playBack_18])
    | succ n hk18 =>
      intro x1 x2 v_pair v_settled c_leaf c_ofPair c_value H locs ls hf hP hD hS hl
      rw [fX6_playBack_18] at hf
      refine lv_iload_n hx hb dX6_playBack_18 rfl (lv_at hl 2 rfl) ?_
      refine lv_iconst (v := 1) hx hb dX6_playBack_19 (by decide) ?_
      refine lv_iload_n hx hb dX6_playBack_20 rfl (lv_at hl 1 rfl) ?_
      refine lv_ishl hx hb dX6_playBack_21 ?_
      refine lv_icmp_ge (tgt := 51) hx hb dX6_playBack_22 (by decide) (fun c22 => ?_) (fun c22 => ?_)
      · have hf := pif_t c22 hf
        refine lv_iinc (v := x1 + (-1)) (lv' := [(1, .int (x1 + (-1))), (0, .ref h0), (2, .int x2)]) hx hb dX6_playBack_51 hl (k := 1) rfl rfl (by decide) rfl (fun ls hl => ?_)
        refine lv_goto (tgt := 7) hx hb dX6_playBack_54 (by decide) ?_
        exact hk7 (x1 + (-1)) v_pair v_settled c_leaf c_ofPair c_value H locs ls hf hP hD hS (lv_sub hl [1, 0] rfl)
      · have hf := pif_f c22 hf
        refine lv_aload_n hx hb dX6_playBack_25 rfl (lv_at hl 0 rfl) ?_
        refine lv_iload_n hx hb dX6_playBack_26 rfl (lv_at hl 1 rfl) ?_
        refine lv_iload_n hx hb dX6_playBack_27 rfl (lv_at hl 2 rfl) ?_
        obtain ⟨q28, e28, hf⟩ := pb_some hf
        refine cs_v (wc := (wdX6_choosePair cyI cyJ cyB cyS h0 a_leaf a_ofPair a_open a_trial a_trial_first a_trial_second a_column a_value a_ofFirst a_standing a_rules a_trial_ending v_depth v_pair v_settled v_unwanted v_firstPaying c_leaf c_ofPair c_open v_trial_size c_trial_first c_trial_second)) (w1 := (wdX6_choosePair cyI cyJ cyB cyS h0 a_leaf a_ofPair a_open a_trial a_trial_first a_trial_second a_column a_value a_ofFirst a_standing a_rules a_trial_ending v_depth q28.1 q28.2 v_unwanted v_firstPaying c_leaf c_ofPair c_open v_trial_size c_trial_first c_trial_second)) hP hD hS hA [0, 1, 2, 3, 6, 7, 8] rfl rfl rfl (va_runV (C := RX6) (As := [.int x1, .int x2]) (rest := []) ⟨hx, hb, hml, hown, hL⟩ (mX6_choosePair l D cyI cyJ cyB cyS N H.size h0 a_leaf a_ofPair a_open a_trial a_trial_first a_trial_second a_column a_value a_ofFirst a_standing a_rules a_trial_ending v_depth v_pair v_settled v_unwanted v_firstPaying c_leaf c_ofPair c_open v_trial_size c_trial_first c_trial_second x1 x2 q28 e28) (cwV 2 hL (gV (hR38 10 rfl) (hR38 11 rfl) (hR38 12 rfl) (hR2 7 rfl) (hR38 13 rfl)) rfl rfl rfl (by decide +kernel) ⟨Nat.le_of_ble_eq_true rfl, Nat.le_of_ble_eq_true rfl⟩) (PP_preV (ci := 6) (q0 := 0) hP hD hK [0, 1, 2, 3, 6, 7, 8] rfl rfl rfl rfl) rfl rfl hl.1 rfl (lv_room (Nat.le_of_ble_eq_true rfl)) dX6_playBack_28 ⟨Nat.le_of_ble_eq_true rfl, Nat.le_of_ble_eq_true rfl⟩) (fun H locs hP hD hS => ?_)
        have hP : va_P D vwCl (wdX6_playBack cyI cyJ cyB cyS h0 a_leaf a_ofPair a_open a_rules a_rules_strength a_trial a_trial_first a_trial_second a_value a_column a_ofFirst a_standing a_rules_placeWorth a_rules_choiceWorth a_rules_balls a_rules_wheel a_trial_ending v_depth q28.1 q28.2 v_unwanted v_firstPaying c_leaf c_ofPair c_open v_rules_sides v_rules_kind v_rules_rounds c_rules_strength v_trial_size c_trial_first c_trial_second c_value) H := hP
        have hD : va_D A (wdX6_playBack cyI cyJ cyB cyS h0 a_leaf a_ofPair a_open a_rules a_rules_strength a_trial a_trial_first a_trial_second a_value a_column a_ofFirst a_standing a_rules_placeWorth a_rules_choiceWorth a_rules_balls a_rules_wheel a_trial_ending v_depth q28.1 q28.2 v_unwanted v_firstPaying c_leaf c_ofPair c_open v_rules_sides v_rules_kind v_rules_rounds c_rules_strength v_trial_size c_trial_first c_trial_second c_value) := hD
        refine lv_aload_n hx hb dX6_playBack_31 rfl (lv_at hl 0 rfl) ?_
        refine lv_iload_n hx hb dX6_playBack_32 rfl (lv_at hl 2 rfl) ?_
        refine lv_aload_n hx hb dX6_playBack_33 rfl (lv_at hl 0 rfl) ?_
        refine va_get (D := D) (ci := 6) (v := .ref a_ofPair) (C := RX6) (T := TX6) (N := 14) hx hb hL inlX6 hown hK.1 hP 0 rfl rfl 5 (by decide) w0 (fun _ h9 => h9) rfl dX6_playBack_34 ?_
        refine lv_aload_n hx hb dX6_playBack_37 rfl (lv_at hl 0 rfl) ?_
        refine va_get (D := D) (ci := 6) (v := .int q28.1) (C := RX6) (T := TX6) (N := 14) hx hb hL inlX6 hown hK.1 hP 0 rfl rfl 10 (by decide) w1 (fun _ h9 => h9) rfl dX6_playBack_38 ?_
        obtain ⟨h41, hf⟩ := pg_some hf
        refine va_iald hx hb hK.1 hP 2 0 rfl rfl h41 dX6_playBack_41 ?_
        obtain ⟨q42, e42, hf⟩ := pb_some hf
        refine cs_v (wc := (wdX6_join cyI cyJ cyB cyS h0 a_leaf a_rules a_column a_value a_open a_ofFirst a_ofPair a_trial a_standing a_rules_strength a_rules_placeWorth a_rules_choiceWorth a_rules_balls a_rules_wheel v_depth q28.1 q28.2 v_unwanted v_firstPaying c_leaf v_rules_sides v_rules_kind v_rules_rounds)) (w1 := (wdX6_join cyI cyJ cyB cyS h0 a_leaf a_rules a_column a_value a_open a_ofFirst a_ofPair a_trial a_standing a_rules_strength a_rules_placeWorth a_rules_choiceWorth a_rules_balls a_rules_wheel v_depth q28.1 q28.2 v_unwanted v_firstPaying q42 v_rules_sides v_rules_kind v_rules_rounds)) hP hD hS hA [0, 1, 4] rfl rfl rfl (va_runV (C := RX6) (As := [.int x2, .int (c_ofPair q28.1.toNatClampNeg)]) (rest := []) ⟨hx, hb, hml, hown, hL⟩ (mX6_join l D cyI cyJ cyB cyS N H.size h0 a_leaf a_rules a_column a_value a_open a_ofFirst a_ofPair a_trial a_standing a_rules_strength a_rules_placeWorth a_rules_choiceWorth a_rules_balls a_rules_wheel v_depth q28.1 q28.2 v_unwanted v_firstPaying c_leaf v_rules_sides v_rules_kind v_rules_rounds x2 (c_ofPair q28.1.toNatClampNeg) q42 e42) (cwV 2 hL (gV (hR38 19 rfl) (hR38 20 rfl) (hR38 21 rfl) (hR2 7 rfl) (hR38 22 rfl)) rfl rfl rfl (by decide +kernel) ⟨Nat.le_of_ble_eq_true rfl, Nat.le_of_ble_eq_true rfl⟩) (PP_preV (ci := 6) (q0 := 0) hP hD hK [0, 1, 4] rfl rfl rfl rfl) rfl rfl hl.1 rfl (lv_room (Nat.le_of_ble_eq_true rfl)) dX6_playBack_42 ⟨Nat.le_of_ble_eq_true rfl, Nat.le_of_ble_eq_true rfl⟩) (fun H locs hP hD hS => ?_)
        have hP : va_P D vwCl (wdX6_playBack cyI cyJ cyB cyS h0 a_leaf a_ofPair a_open a_rules a_rules_strength a_trial a_trial_first a_trial_second a_value a_column a_ofFirst a_standing a_rules_placeWorth a_rules_choiceWorth a_rules_balls a_rules_wheel a_trial_ending v_depth q28.1 q28.2 v_unwanted v_firstPaying q42 c_ofPair c_open v_rules_sides v_rules_kind v_rules_rounds c_rules_strength v_trial_size c_trial_first c_trial_second c_value) H := hP
        have hD : va_D A (wdX6_playBack cyI cyJ cyB cyS h0 a_leaf a_ofPair a_open a_rules a_rules_strength a_trial a_trial_first a_trial_second a_value a_column a_ofFirst a_standing a_rules_placeWorth a_rules_choiceWorth a_rules_balls a_rules_wheel a_trial_ending v_depth q28.1 q28.2 v_unwanted v_firstPaying q42 c_ofPair c_open v_rules_sides v_rules_kind v_rules_rounds c_rules_strength v_trial_size c_trial_first c_trial_second c_value) := hD
        refine lv_iinc (v := x2 + 1) (lv' := [(2, .int (x2 + 1)), (0, .ref h0), (1, .int x1)]) hx hb dX6_playBack_45 hl (k := 2) rfl rfl (by decide) rfl (fun ls hl => ?_)
        refine lv_goto (tgt := 18) hx hb dX6_playBack_48 (by decide) ?_
        exact hk18 x1 (x2 + 1) q28.1 q28.2 q42 c_ofPair c_value H locs ls hf hP hD hS (lv_sub hl [1, 2, 0] rfl)
  have hB59 : ∀ (n : Nat), ∀ (x1 : Int32) (v_pair : Int32) (v_settled : Int32) (c_leaf : Nat → Int64) (c_ofPair : Nat → Int32) (c_value : Nat → Int64) (H : Heap) (locs : List Loc) (ls : Array Slot), fX6_playBack_59 N v_depth c_open v_rules_sides c_rules_strength c_trial_first c_trial_second n x1 v_pair v_settled c_leaf c_ofPair c_value = some q → va_P D vwCl (wdX6_playBack cyI cyJ cyB cyS h0 a_leaf a_ofPair a_open a_rules a_rules_strength a_trial a_trial_first a_trial_second a_value a_column a_ofFirst a_standing a_rules_placeWorth a_rules_choiceWorth a_rules_balls a_rules_wheel a_trial_ending v_depth v_pair v_settled v_unwanted v_firstPaying c_leaf c_ofPair c_open v_rules_sides v_rules_kind v_rules_rounds c_rules_strength v_trial_size c_trial_first c_trial_second c_value) H → va_D A (wdX6_playBack cyI cyJ cyB cyS h0 a_leaf a_ofPair a_open a_rules a_rules_strength a_trial a_trial_first a_trial_second a_value a_column a_ofFirst a_standing a_rules_placeWorth a_rules_choiceWorth a_rules_balls a_rules_wheel a_trial_ending v_depth v_pair v_settled v_unwanted v_firstPaying c_leaf c_ofPair c_open v_rules_sides v_rules_kind v_rules_rounds c_rules_strength v_trial_size c_trial_first c_trial_second c_value) → va_S A s.heap H locs → lv_has ls 3 [(0, .ref h0), (1, .int x1)] → W p l e rmX6_playBack s m av below meth c H locs 0 0 Q (F0 m 59 ls []) := by
    intro n
    induction n with
    | zero => intro x1 v_pair v_settled c_leaf c_ofPair c_value H locs ls hf; exact absurd hf (by simp [fX6_playBack_59])
    | succ n hk59 =>
      intro x1 v_pair v_settled c_leaf c_ofPair c_value H locs ls hf hP hD hS hl
      rw [fX6_playBack_59] at hf
      refine lv_iload_n hx hb dX6_playBack_59 rfl (lv_at hl 1 rfl) ?_
      refine lv_aload_n hx hb dX6_playBack_60 rfl (lv_at hl 0 rfl) ?_
      refine va_get (D := D) (ci := 6) (v := .ref a_rules) (C := RX6) (T := TX6) (N := 14) hx hb hL inlX6 hown hK.1 hP 0 rfl rfl 8 (by decide) w2 (fun _ h9 => h9) rfl dX6_playBack_61 ?_
      refine va_get (D := D) (ci := 2) (v := .int v_rules_sides) (C := RX2) (T := TX2) (N := 8) hx hb hL inlX2 hown hK.1 hP 4 rfl rfl 5 (by decide) w3 (fun _ h9 => h9) rfl dX6_playBack_64 ?_
      refine lv_icmp_ge (tgt := 88) hx hb dX6_playBack_67 (by decide) (fun c67 => ?_) (fun c67 => ?_)
      · have hf := pif_t c67 hf
        exact ret_v (q := q) (wp := fun q => (wdX6_playBack cyI cyJ cyB cyS h0 a_leaf a_ofPair a_open a_rules a_rules_strength a_trial a_trial_first a_trial_second a_value a_column a_ofFirst a_standing a_rules_placeWorth a_rules_choiceWorth a_rules_balls a_rules_wheel a_trial_ending v_depth q.1 q.2.1 v_unwanted v_firstPaying q.2.2.1 q.2.2.2.1 c_open v_rules_sides v_rules_kind v_rules_rounds c_rules_strength v_trial_size c_trial_first c_trial_second q.2.2.2.2)) hQ hf hx hb hr hlocks hP hD hS dX6_playBack_88
      · have hf := pif_f c67 hf
        refine lv_aload_n hx hb dX6_playBack_70 rfl (lv_at hl 0 rfl) ?_
        refine va_get (D := D) (ci := 6) (v := .ref a_value) (C := RX6) (T := TX6) (N := 14) hx hb hL inlX6 hown hK.1 hP 0 rfl rfl 2 (by decide) w4 (fun _ h9 => h9) rfl dX6_playBack_71 ?_
        refine lv_iload_n hx hb dX6_playBack_74 rfl (lv_at hl 1 rfl) ?_
        refine lv_aload_n hx hb dX6_playBack_75 rfl (lv_at hl 0 rfl) ?_
        refine va_get (D := D) (ci := 6) (v := .ref a_leaf) (C := RX6) (T := TX6) (N := 14) hx hb hL inlX6 hown hK.1 hP 0 rfl rfl 0 (by decide) w5 (fun _ h9 => h9) rfl dX6_playBack_76 ?_
        refine lv_iload_n hx hb dX6_playBack_79 rfl (lv_at hl 1 rfl) ?_
        obtain ⟨h80, hf⟩ := pg_some hf
        refine va_lald hx hb hK.1 hP 1 1 rfl rfl h80 dX6_playBack_80 ?_
        obtain ⟨h81, hf⟩ := pg_some hf
        refine va_last hx hb hK.1 hP hD hS 9 1 rfl rfl h81 dX6_playBack_81 (fun H locs hP hD hS => ?_)
        have hP : va_P D vwCl (wdX6_playBack cyI cyJ cyB cyS h0 a_leaf a_ofPair a_open a_rules a_rules_strength a_trial a_trial_first a_trial_second a_value a_column a_ofFirst a_standing a_rules_placeWorth a_rules_choiceWorth a_rules_balls a_rules_wheel a_trial_ending v_depth v_pair v_settled v_unwanted v_firstPaying c_leaf c_ofPair c_open v_rules_sides v_rules_kind v_rules_rounds c_rules_strength v_trial_size c_trial_first c_trial_second (vp_updL c_value x1.toNatClampNeg (c_leaf x1.toNatClampNeg))) H := hP
        have hD : va_D A (wdX6_playBack cyI cyJ cyB cyS h0 a_leaf a_ofPair a_open a_rules a_rules_strength a_trial a_trial_first a_trial_second a_value a_column a_ofFirst a_standing a_rules_placeWorth a_rules_choiceWorth a_rules_balls a_rules_wheel a_trial_ending v_depth v_pair v_settled v_unwanted v_firstPaying c_leaf c_ofPair c_open v_rules_sides v_rules_kind v_rules_rounds c_rules_strength v_trial_size c_trial_first c_trial_second (vp_updL c_value x1.toNatClampNeg (c_leaf x1.toNatClampNeg))) := hD
        refine lv_iinc (v := x1 + 1) (lv' := [(1, .int (x1 + 1)), (0, .ref h0)]) hx hb dX6_playBack_82 hl (k := 1) rfl rfl (by decide) rfl (fun ls hl => ?_)
        refine lv_goto (tgt := 59) hx hb dX6_playBack_85 (by decide) ?_
        exact hk59 (x1 + 1) v_pair v_settled c_leaf c_ofPair (vp_updL c_value x1.toNatClampNeg (c_leaf x1.toNatClampNeg)) H locs ls hf hP hD hS (lv_sub hl [1, 0] rfl)
  have hB7 : ∀ (n : Nat), ∀ (x1 : Int32) (v_pair : Int32) (v_settled : Int32) (c_leaf : Nat → Int64) (c_ofPair : Nat → Int32) (c_value : Nat → Int64) (H : Heap) (locs : List Loc) (ls : Array Slot), fX6_playBack_7 N v_depth c_open v_rules_sides c_rules_strength c_trial_first c_trial_second n x1 v_pair v_settled c_leaf c_ofPair c_value = some q → va_P D vwCl (wdX6_playBack cyI cyJ cyB cyS h0 a_leaf a_ofPair a_open a_rules a_rules_strength a_trial a_trial_first a_trial_second a_value a_column a_ofFirst a_standing a_rules_placeWorth a_rules_choiceWorth a_rules_balls a_rules_wheel a_trial_ending v_depth v_pair v_settled v_unwanted v_firstPaying c_leaf c_ofPair c_open v_rules_sides v_rules_kind v_rules_rounds c_rules_strength v_trial_size c_trial_first c_trial_second c_value) H → va_D A (wdX6_playBack cyI cyJ cyB cyS h0 a_leaf a_ofPair a_open a_rules a_rules_strength a_trial a_trial_first a_trial_second a_value a_column a_ofFirst a_standing a_rules_placeWorth a_rules_choiceWorth a_rules_balls a_rules_wheel a_trial_ending v_depth v_pair v_settled v_unwanted v_firstPaying c_leaf c_ofPair c_open v_rules_sides v_rules_kind v_rules_rounds c_rules_strength v_trial_size c_trial_first c_trial_second c_value) → va_S A s.heap H locs → lv_has ls 3 [(0, .ref h0), (1, .int x1)] → W p l e rmX6_playBack s m av below meth c H locs 0 0 Q (F0 m 7 ls []) := by
    intro n
    induction n with
    | zero => intro x1 v_pair v_settled c_leaf c_ofPair c_value H locs ls hf; exact absurd hf (by simp [fX6_playBack_7])
    | succ n hk7 =>
      intro x1 v_pair v_settled c_leaf c_ofPair c_value H locs ls hf hP hD hS hl
      rw [fX6_playBack_7] at hf
      refine lv_iload_n hx hb dX6_playBack_7 rfl (lv_at hl 1 rfl) ?_
      refine lv_if_lt (tgt := 57) hx hb dX6_playBack_8 (by decide) (fun c8 => ?_) (fun c8 => ?_)
      · have hf := pif_t c8 hf
        refine lv_iconst (v := 0) hx hb dX6_playBack_57 (by decide) ?_
        refine lv_istore_n (lv' := [(1, .int 0), (0, .ref h0)]) hx hb dX6_playBack_58 rfl hl (by decide) rfl (fun ls hl => ?_)
        exact hB59 N 0 v_pair v_settled c_leaf c_ofPair c_value H locs ls hf hP hD hS (lv_sub hl [1, 0] rfl)
      · have hf := pif_f c8 hf
        refine lv_aload_n hx hb dX6_playBack_11 rfl (lv_at hl 0 rfl) ?_
        refine lv_iload_n hx hb dX6_playBack_12 rfl (lv_at hl 1 rfl) ?_
        obtain ⟨q13, e13, hf⟩ := pb_some hf
        refine cs_v (wc := (wdX6_weighPairs cyI cyJ cyB cyS h0 a_ofPair a_open a_rules a_rules_strength a_trial a_trial_first a_trial_second a_leaf a_column a_value a_ofFirst a_standing a_rules_placeWorth a_rules_choiceWorth a_rules_balls a_rules_wheel a_trial_ending v_depth v_pair v_settled v_unwanted v_firstPaying c_ofPair c_open v_rules_sides v_rules_kind v_rules_rounds c_rules_strength v_trial_size c_trial_first c_trial_second)) (w1 := (wdX6_weighPairs cyI cyJ cyB cyS h0 a_ofPair a_open a_rules a_rules_strength a_trial a_trial_first a_trial_second a_leaf a_column a_value a_ofFirst a_standing a_rules_placeWorth a_rules_choiceWorth a_rules_balls a_rules_wheel a_trial_ending v_depth v_pair v_settled v_unwanted v_firstPaying q13 c_open v_rules_sides v_rules_kind v_rules_rounds c_rules_strength v_trial_size c_trial_first c_trial_second)) hP hD hS hA [0, 2, 3, 4, 5, 6, 7, 8] rfl rfl rfl (va_runV (C := RX6) (As := [.int x1]) (rest := []) ⟨hx, hb, hml, hown, hL⟩ (mX6_weighPairs l D cyI cyJ cyB cyS N H.size h0 a_ofPair a_open a_rules a_rules_strength a_trial a_trial_first a_trial_second a_leaf a_column a_value a_ofFirst a_standing a_rules_placeWorth a_rules_choiceWorth a_rules_balls a_rules_wheel a_trial_ending v_depth v_pair v_settled v_unwanted v_firstPaying c_ofPair c_open v_rules_sides v_rules_kind v_rules_rounds c_rules_strength v_trial_size c_trial_first c_trial_second x1 q13 e13) (cwV 1 hL (gV (hR38 6 rfl) (hR38 7 rfl) (hR38 8 rfl) (hR2 7 rfl) (hR38 9 rfl)) rfl rfl rfl (by decide +kernel) ⟨Nat.le_of_ble_eq_true rfl, Nat.le_of_ble_eq_true rfl⟩) (PP_preV (ci := 6) (q0 := 0) hP hD hK [0, 2, 3, 4, 5, 6, 7, 8] rfl rfl rfl rfl) rfl rfl hl.1 rfl (lv_room (Nat.le_of_ble_eq_true rfl)) dX6_playBack_13 ⟨Nat.le_of_ble_eq_true rfl, Nat.le_of_ble_eq_true rfl⟩) (fun H locs hP hD hS => ?_)
        have hP : va_P D vwCl (wdX6_playBack cyI cyJ cyB cyS h0 a_leaf a_ofPair a_open a_rules a_rules_strength a_trial a_trial_first a_trial_second a_value a_column a_ofFirst a_standing a_rules_placeWorth a_rules_choiceWorth a_rules_balls a_rules_wheel a_trial_ending v_depth v_pair v_settled v_unwanted v_firstPaying c_leaf q13 c_open v_rules_sides v_rules_kind v_rules_rounds c_rules_strength v_trial_size c_trial_first c_trial_second c_value) H := hP
        have hD : va_D A (wdX6_playBack cyI cyJ cyB cyS h0 a_leaf a_ofPair a_open a_rules a_rules_strength a_trial a_trial_first a_trial_second a_value a_column a_ofFirst a_standing a_rules_placeWorth a_rules_choiceWorth a_rules_balls a_rules_wheel a_trial_ending v_depth v_pair v_settled v_unwanted v_firstPaying c_leaf q13 c_open v_rules_sides v_rules_kind v_rules_rounds c_rules_strength v_trial_size c_trial_first c_trial_second c_value) := hD
        refine lv_iconst (v := 0) hx hb dX6_playBack_16 (by decide) ?_
        refine lv_istore_n (lv' := [(2, .int 0), (0, .ref h0), (1, .int x1)]) hx hb dX6_playBack_17 rfl hl (by decide) rfl (fun ls hl => ?_)
        exact hB18 (fX6_playBack_7 N v_depth c_open v_rules_sides c_rules_strength c_trial_first c_trial_second n) hk7 N x1 0 v_pair v_settled c_leaf q13 c_value H locs ls hf hP hD hS (lv_sub hl [1, 2, 0] rfl)
  unfold fX6_playBack at hf
  obtain ⟨H, hH⟩ : ∃ H : Heap, H = s.heap := ⟨_, rfl⟩
  obtain ⟨locs, hlo⟩ : ∃ locs : List Loc, locs = [] := ⟨_, rfl⟩
  have hP : va_P D vwCl (wdX6_playBack cyI cyJ cyB cyS h0 a_leaf a_ofPair a_open a_rules a_rules_strength a_trial a_trial_first a_trial_second a_value a_column a_ofFirst a_standing a_rules_placeWorth a_rules_choiceWorth a_rules_balls a_rules_wheel a_trial_ending v_depth v_pair v_settled v_unwanted v_firstPaying c_leaf c_ofPair c_open v_rules_sides v_rules_kind v_rules_rounds c_rules_strength v_trial_size c_trial_first c_trial_second c_value) H := by rw [hH]; exact hP
  have hS : va_S A s.heap H locs := by rw [hH, hlo]; exact hS
  suffices hw : W p l e rmX6_playBack s m av below meth c H locs 0 0 Q (F0 m 0 ls []) by rw [hH, hlo] at hw; exact hw
  refine lv_aload_n hx hb dX6_playBack_0 rfl (lv_at hl 0 rfl) ?_
  refine va_get (D := D) (ci := 6) (v := .int v_depth) (C := RX6) (T := TX6) (N := 14) hx hb hL inlX6 hown hK.1 hP 0 rfl rfl 9 (by decide) w6 (fun _ h9 => h9) rfl dX6_playBack_1 ?_
  refine lv_iconst (v := 1) hx hb dX6_playBack_4 (by decide) ?_
  refine lv_isub hx hb dX6_playBack_5 ?_
  refine lv_istore_n (lv' := [(1, .int (v_depth - 1)), (0, .ref h0)]) hx hb dX6_playBack_6 rfl hl (by decide) rfl (fun ls hl => ?_)
  exact hB7 N (v_depth - 1) v_pair v_settled c_leaf c_ofPair c_value H locs ls hf hP hD hS (lv_sub hl [1, 0] rfl)
