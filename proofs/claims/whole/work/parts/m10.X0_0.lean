abbrev rmX0_add : Room := { frames := 0, cells := 0, slots := 0, locals := 0 }
set_option maxHeartbeats 40000000 in
set_option maxRecDepth 100000 in
theorem mX0_add (l : Launch) (D : va_G) (cyI cyJ cyB cyS : ClassId) (N : Nat) (sz : Nat) (h0 : Nat) (a_ending : Nat) (a_first : Nat) (a_second : Nat) (v_size : Int32) (c_ending : Nat → Int32) (c_first : Nat → Int32) (c_second : Nat → Int32) (x1 : Int32) (x2 : Int32) (q : Int32 × Int32 × (Nat → Int32) × (Nat → Int32) × (Nat → Int32)) (hf : fX0_add N v_size c_ending c_first c_second x1 x2 = some q) : Met l yX0_add (wS yX0_add cX0_add 3 (some .int)) rmX0_add (va_Pc [.ref h0, .int x1, .int x2] (PP D cyI cyJ cyB cyS [(h0, .inr (0, [.ref a_first, .ref a_second, .ref a_ending, .int v_size])), (a_ending, .inl (cyI, 30, .inl c_ending)), (a_first, .inl (cyI, 30, .inl c_first)), (a_second, .inl (cyI, 30, .inl c_second))] sz)) (QI q.1 D [(h0, .inr (0, [.ref a_first, .ref a_second, .ref a_ending, .int q.2.1])), (a_ending, .inl (cyI, 30, .inl q.2.2.1)), (a_first, .inl (cyI, 30, .inl q.2.2.2.1)), (a_second, .inl (cyI, 30, .inl q.2.2.2.2))] (va_A [(h0, .inr (0, [.ref a_first, .ref a_second, .ref a_ending, .int v_size])), (a_ending, .inl (cyI, 30, .inl c_ending)), (a_first, .inl (cyI, 30, .inl c_first)), (a_second, .inl (cyI, 30, .inl c_second))] sz)) 0 0 (va_A [(h0, .inr (0, [.ref a_first, .ref a_second, .ref a_ending, .int v_size])), (a_ending, .inl (cyI, 30, .inl c_ending)), (a_first, .inl (cyI, 30, .inl c_first)), (a_second, .inl (cyI, 30, .inl c_second))] sz) := by
  refine Met.ofW (cc := cX0_add) (maxL := 3) (ret := (some .int)) (by decide) rfl ?_
  intro p e s m args below meth c s₁ B hml hv
  obtain ⟨rfl, hsz, hP, hK, hD0⟩ := hv
  have hx := B.exec
  have hb := B.bytes
  have hr := B.returns
  have hts := atoms_spec (ws := (wS yX0_add cX0_add 3 (some .int))) B.pre
  have hown : s.vm.findClass RX0 = some m.cls := findClass_of_methodNamed B.named
  have hlocks := B.notSynchronized
  subst hsz
  have hD := hD0.self (sz := s.heap.size)
  refine w_nameQ (fun Q hQ => ?_)
  have hl := lv_entry ([.ref h0, .int x1, .int x2] : List Value) (n := 3) (Nat.le_of_ble_eq_true rfl)
  rw [lg_entry_eq]
  generalize (lg_sl ([.ref h0, .int x1, .int x2] : List Value) ++ List.replicate (3 - (lg_sl ([.ref h0, .int x1, .int x2] : List Value)).length) Slot.unset).toArray = ls at hl ⊢
  have hl : lv_has ls 3 [(0, .ref h0), (1, .int x1), (2, .int x2)] := hl
  generalize hAe : va_A [(h0, .inr (0, [.ref a_first, .ref a_second, .ref a_ending, .int v_size])), (a_ending, .inl (cyI, 30, .inl c_ending)), (a_first, .inl (cyI, 30, .inl c_first)), (a_second, .inl (cyI, 30, .inl c_second))] s.heap.size = A at hD hQ
  have hA : ∀ q : Nat, s.heap.size ≤ q → A q := fun q h => by rw [← hAe]; exact Or.inr h
  have hS : va_S A s.heap s.heap [] := va_S.rf
  generalize ([.ref h0, .int x1, .int x2] : List Value).toArray = av at hts hQ ⊢
  have hL : ∀ w ∈ wsL_law, w.before av s = true := fun w h => hts w (List.mem_cons_of_mem _ h)
  have w0 := hL (.fieldLink RX0 21 "LosingLeague$Games" "size" "I") (hR16 4 rfl)
  have w1 := hL (.fieldLink RX0 9 "LosingLeague$Games" "first" "[I") (hR3 5 rfl)
  have w2 := hL (.fieldLink RX0 15 "LosingLeague$Games" "second" "[I") (hR3 6 rfl)
  have w3 := hL (.fieldLink RX0 18 "LosingLeague$Games" "ending" "[I") (hR3 7 rfl)
  unfold fX0_add at hf
  obtain ⟨H, hH⟩ : ∃ H : Heap, H = s.heap := ⟨_, rfl⟩
  obtain ⟨locs, hlo⟩ : ∃ locs : List Loc, locs = [] := ⟨_, rfl⟩
  have hP : va_P D vwCl [(h0, .inr (0, [.ref a_first, .ref a_second, .ref a_ending, .int v_size])), (a_ending, .inl (cyI, 30, .inl c_ending)), (a_first, .inl (cyI, 30, .inl c_first)), (a_second, .inl (cyI, 30, .inl c_second))] H := by rw [hH]; exact hP
  have hS : va_S A s.heap H locs := by rw [hH, hlo]; exact hS
  suffices hw : W p l e rmX0_add s m av below meth c H locs 0 0 Q (F0 m 0 ls []) by rw [hH, hlo] at hw; exact hw
  refine lv_aload_n hx hb dX0_add_0 rfl (lv_at hl 0 rfl) ?_
  refine va_get (D := D) (ci := 0) (v := .int v_size) (C := RX0) (T := TX0) (N := 4) hx hb hL inlX0 hown hK.1 hP 0 rfl rfl 3 (by decide) w0 (fun _ h9 => h9) rfl dX0_add_1 ?_
  refine lv_bipush (v := 30) hx hb dX0_add_4 (by decide) ?_
  refine lv_icmp_lt (tgt := 12) hx hb dX0_add_6 (by decide) (fun c6 => ?_) (fun c6 => ?_)
  · have hf := pif_t c6 hf
    refine lv_aload_n hx hb dX0_add_12 rfl (lv_at hl 0 rfl) ?_
    refine va_get (D := D) (ci := 0) (v := .ref a_first) (C := RX0) (T := TX0) (N := 4) hx hb hL inlX0 hown hK.1 hP 0 rfl rfl 0 (by decide) w1 (fun _ h9 => h9) rfl dX0_add_13 ?_
    refine lv_aload_n hx hb dX0_add_16 rfl (lv_at hl 0 rfl) ?_
    refine va_get (D := D) (ci := 0) (v := .int v_size) (C := RX0) (T := TX0) (N := 4) hx hb hL inlX0 hown hK.1 hP 0 rfl rfl 3 (by decide) w0 (fun _ h9 => h9) rfl dX0_add_17 ?_
    refine lv_iload_n hx hb dX0_add_20 rfl (lv_at hl 1 rfl) ?_
    obtain ⟨h21, hf⟩ := pg_some hf
    refine va_iast hx hb hK.1 hP hD hS 2 0 rfl rfl h21 dX0_add_21 (fun H locs hP hD hS => ?_)
    have hP : va_P D vwCl [(h0, .inr (0, [.ref a_first, .ref a_second, .ref a_ending, .int v_size])), (a_ending, .inl (cyI, 30, .inl c_ending)), (a_first, .inl (cyI, 30, .inl (upd c_first v_size.toNatClampNeg x1))), (a_second, .inl (cyI, 30, .inl c_second))] H := hP
    have hD : va_D A [(h0, .inr (0, [.ref a_first, .ref a_second, .ref a_ending, .int v_size])), (a_ending, .inl (cyI, 30, .inl c_ending)), (a_first, .inl (cyI, 30, .inl (upd c_first v_size.toNatClampNeg x1))), (a_second, .inl (cyI, 30, .inl c_second))] := hD
    refine lv_aload_n hx hb dX0_add_22 rfl (lv_at hl 0 rfl) ?_
    refine va_get (D := D) (ci := 0) (v := .ref a_second) (C := RX0) (T := TX0) (N := 4) hx hb hL inlX0 hown hK.1 hP 0 rfl rfl 1 (by decide) w2 (fun _ h9 => h9) rfl dX0_add_23 ?_
    refine lv_aload_n hx hb dX0_add_26 rfl (lv_at hl 0 rfl) ?_
    refine va_get (D := D) (ci := 0) (v := .int v_size) (C := RX0) (T := TX0) (N := 4) hx hb hL inlX0 hown hK.1 hP 0 rfl rfl 3 (by decide) w0 (fun _ h9 => h9) rfl dX0_add_27 ?_
    refine lv_iload_n hx hb dX0_add_30 rfl (lv_at hl 2 rfl) ?_
    obtain ⟨h31, hf⟩ := pg_some hf
    refine va_iast hx hb hK.1 hP hD hS 3 0 rfl rfl h31 dX0_add_31 (fun H locs hP hD hS => ?_)
    have hP : va_P D vwCl [(h0, .inr (0, [.ref a_first, .ref a_second, .ref a_ending, .int v_size])), (a_ending, .inl (cyI, 30, .inl c_ending)), (a_first, .inl (cyI, 30, .inl (upd c_first v_size.toNatClampNeg x1))), (a_second, .inl (cyI, 30, .inl (upd c_second v_size.toNatClampNeg x2)))] H := hP
    have hD : va_D A [(h0, .inr (0, [.ref a_first, .ref a_second, .ref a_ending, .int v_size])), (a_ending, .inl (cyI, 30, .inl c_ending)), (a_first, .inl (cyI, 30, .inl (upd c_first v_size.toNatClampNeg x1))), (a_second, .inl (cyI, 30, .inl (upd c_second v_size.toNatClampNeg x2)))] := hD
    refine lv_aload_n hx hb dX0_add_32 rfl (lv_at hl 0 rfl) ?_
    refine va_get (D := D) (ci := 0) (v := .ref a_ending) (C := RX0) (T := TX0) (N := 4) hx hb hL inlX0 hown hK.1 hP 0 rfl rfl 2 (by decide) w3 (fun _ h9 => h9) rfl dX0_add_33 ?_
    refine lv_aload_n hx hb dX0_add_36 rfl (lv_at hl 0 rfl) ?_
    refine va_get (D := D) (ci := 0) (v := .int v_size) (C := RX0) (T := TX0) (N := 4) hx hb hL inlX0 hown hK.1 hP 0 rfl rfl 3 (by decide) w0 (fun _ h9 => h9) rfl dX0_add_37 ?_
    refine lv_iconst (v := 2) hx hb dX0_add_40 (by decide) ?_
    obtain ⟨h41, hf⟩ := pg_some hf
    refine va_iast hx hb hK.1 hP hD hS 1 0 rfl rfl h41 dX0_add_41 (fun H locs hP hD hS => ?_)
    have hP : va_P D vwCl [(h0, .inr (0, [.ref a_first, .ref a_second, .ref a_ending, .int v_size])), (a_ending, .inl (cyI, 30, .inl (upd c_ending v_size.toNatClampNeg 2))), (a_first, .inl (cyI, 30, .inl (upd c_first v_size.toNatClampNeg x1))), (a_second, .inl (cyI, 30, .inl (upd c_second v_size.toNatClampNeg x2)))] H := hP
    have hD : va_D A [(h0, .inr (0, [.ref a_first, .ref a_second, .ref a_ending, .int v_size])), (a_ending, .inl (cyI, 30, .inl (upd c_ending v_size.toNatClampNeg 2))), (a_first, .inl (cyI, 30, .inl (upd c_first v_size.toNatClampNeg x1))), (a_second, .inl (cyI, 30, .inl (upd c_second v_size.toNatClampNeg x2)))] := hD
    refine lv_aload_n hx hb dX0_add_42 rfl (lv_at hl 0 rfl) ?_
    refine lv_dup hx hb dX0_add_43 rfl ?_
    refine va_get (D := D) (ci := 0) (v := .int v_size) (C := RX0) (T := TX0) (N := 4) hx hb hL inlX0 hown hK.1 hP 0 rfl rfl 3 (by decide) w0 (fun _ h9 => h9) rfl dX0_add_44 ?_
    refine lv_iconst (v := 1) hx hb dX0_add_47 (by decide) ?_
    refine lv_iadd hx hb dX0_add_48 ?_
    refine va_put (D := D) (ci := 0) (v := .int (v_size + 1)) (ty := .int) (C := RX0) (T := TX0) (N := 4) hx hb hL inlX0 tyX0 tyX0_ok nmX0 hown hK.1 hP hD hS 0 rfl rfl 3 (by decide) w0 (fun _ h9 => h9) rfl (by decide +kernel) rfl rfl (Nat.le_of_ble_eq_true rfl) dX0_add_49 (fun H locs hP hD hS => ?_)
    have hP : va_P D vwCl [(h0, .inr (0, [.ref a_first, .ref a_second, .ref a_ending, .int (v_size + 1)])), (a_ending, .inl (cyI, 30, .inl (upd c_ending v_size.toNatClampNeg 2))), (a_first, .inl (cyI, 30, .inl (upd c_first v_size.toNatClampNeg x1))), (a_second, .inl (cyI, 30, .inl (upd c_second v_size.toNatClampNeg x2)))] H := hP
    have hD : va_D A [(h0, .inr (0, [.ref a_first, .ref a_second, .ref a_ending, .int (v_size + 1)])), (a_ending, .inl (cyI, 30, .inl (upd c_ending v_size.toNatClampNeg 2))), (a_first, .inl (cyI, 30, .inl (upd c_first v_size.toNatClampNeg x1))), (a_second, .inl (cyI, 30, .inl (upd c_second v_size.toNatClampNeg x2)))] := hD
    refine lv_aload_n hx hb dX0_add_52 rfl (lv_at hl 0 rfl) ?_
    refine va_get (D := D) (ci := 0) (v := .int (v_size + 1)) (C := RX0) (T := TX0) (N := 4) hx hb hL inlX0 hown hK.1 hP 0 rfl rfl 3 (by decide) w0 (fun _ h9 => h9) rfl dX0_add_53 ?_
    refine lv_iconst (v := 1) hx hb dX0_add_56 (by decide) ?_
    refine lv_isub hx hb dX0_add_57 ?_
    exact ret_i (q := q) (g := fun q => q.1) (wp := fun q => [(h0, .inr (0, [.ref a_first, .ref a_second, .ref a_ending, .int q.2.1])), (a_ending, .inl (cyI, 30, .inl q.2.2.1)), (a_first, .inl (cyI, 30, .inl q.2.2.2.1)), (a_second, .inl (cyI, 30, .inl q.2.2.2.2))]) hQ hf hx hb hr hlocks hP hD hS dX0_add_58 rfl
  · have hf := pif_f c6 hf
    refine lv_bipush (v := (-3)) hx hb dX0_add_9 (by decide) ?_
    exact ret_i (q := q) (g := fun q => q.1) (wp := fun q => [(h0, .inr (0, [.ref a_first, .ref a_second, .ref a_ending, .int q.2.1])), (a_ending, .inl (cyI, 30, .inl q.2.2.1)), (a_first, .inl (cyI, 30, .inl q.2.2.2.1)), (a_second, .inl (cyI, 30, .inl q.2.2.2.2))]) hQ hf hx hb hr hlocks hP hD hS dX0_add_11 rfl
abbrev rmX0_addRound : Room := { frames := 1, cells := 0, slots := 0, locals := 22 }
set_option maxHeartbeats 40000000 in
set_option maxRecDepth 100000 in
theorem mX0_addRound (l : Launch) (D : va_G) (cyI cyJ cyB cyS : ClassId) (N : Nat) (sz : Nat) (h0 : Nat) (a_ending : Nat) (a_first : Nat) (a_second : Nat) (v_size : Int32) (c_ending : Nat → Int32) (c_first : Nat → Int32) (c_second : Nat → Int32) (x1 : Int32) (q : Int32 × (Nat → Int32) × (Nat → Int32) × (Nat → Int32)) (hf : fX0_addRound N v_size c_ending c_first c_second x1 = some q) : Met l yX0_addRound (wS yX0_addRound cX0_addRound 4 none) rmX0_addRound (va_Pc [.ref h0, .int x1] (PP D cyI cyJ cyB cyS [(h0, .inr (0, [.ref a_first, .ref a_second, .ref a_ending, .int v_size])), (a_ending, .inl (cyI, 30, .inl c_ending)), (a_first, .inl (cyI, 30, .inl c_first)), (a_second, .inl (cyI, 30, .inl c_second))] sz)) (QV D [(h0, .inr (0, [.ref a_first, .ref a_second, .ref a_ending, .int q.1])), (a_ending, .inl (cyI, 30, .inl q.2.1)), (a_first, .inl (cyI, 30, .inl q.2.2.1)), (a_second, .inl (cyI, 30, .inl q.2.2.2))] (va_A [(h0, .inr (0, [.ref a_first, .ref a_second, .ref a_ending, .int v_size])), (a_ending, .inl (cyI, 30, .inl c_ending)), (a_first, .inl (cyI, 30, .inl c_first)), (a_second, .inl (cyI, 30, .inl c_second))] sz)) 0 0 (va_A [(h0, .inr (0, [.ref a_first, .ref a_second, .ref a_ending, .int v_size])), (a_ending, .inl (cyI, 30, .inl c_ending)), (a_first, .inl (cyI, 30, .inl c_first)), (a_second, .inl (cyI, 30, .inl c_second))] sz) := by
  refine Met.ofW (cc := cX0_addRound) (maxL := 4) (ret := none) (by decide) rfl ?_
  intro p e s m args below meth c s₁ B hml hv
  obtain ⟨rfl, hsz, hP, hK, hD0⟩ := hv
  have hx := B.exec
  have hb := B.bytes
  have hr := B.returns
  have hts := atoms_spec (ws := (wS yX0_addRound cX0_addRound 4 none)) B.pre
  have hown : s.vm.findClass RX0 = some m.cls := findClass_of_methodNamed B.named
  have hlocks := B.notSynchronized
  subst hsz
  have hD := hD0.self (sz := s.heap.size)
  refine w_nameQ (fun Q hQ => ?_)
  have hl := lv_entry ([.ref h0, .int x1] : List Value) (n := 4) (Nat.le_of_ble_eq_true rfl)
  rw [lg_entry_eq]
  generalize (lg_sl ([.ref h0, .int x1] : List Value) ++ List.replicate (4 - (lg_sl ([.ref h0, .int x1] : List Value)).length) Slot.unset).toArray = ls at hl ⊢
  have hl : lv_has ls 4 [(0, .ref h0), (1, .int x1)] := hl
  generalize hAe : va_A [(h0, .inr (0, [.ref a_first, .ref a_second, .ref a_ending, .int v_size])), (a_ending, .inl (cyI, 30, .inl c_ending)), (a_first, .inl (cyI, 30, .inl c_first)), (a_second, .inl (cyI, 30, .inl c_second))] s.heap.size = A at hD hQ
  have hA : ∀ q : Nat, s.heap.size ≤ q → A q := fun q h => by rw [← hAe]; exact Or.inr h
  have hS : va_S A s.heap s.heap [] := va_S.rf
  generalize ([.ref h0, .int x1] : List Value).toArray = av at hts hQ ⊢
  have hL : ∀ w ∈ wsL_law, w.before av s = true := fun w h => hts w (List.mem_cons_of_mem _ h)
  have hB11 : ∀ (k2 : Int32 → Int32 → (Nat → Int32) → (Nat → Int32) → (Nat → Int32) → Option (Int32 × (Nat → Int32) × (Nat → Int32) × (Nat → Int32))) (hk2 : ∀ (x2 : Int32) (v_size : Int32) (c_ending : Nat → Int32) (c_first : Nat → Int32) (c_second : Nat → Int32) (H : Heap) (locs : List Loc) (ls : Array Slot), k2 x2 v_size c_ending c_first c_second = some q → va_P D vwCl [(h0, .inr (0, [.ref a_first, .ref a_second, .ref a_ending, .int v_size])), (a_ending, .inl (cyI, 30, .inl c_ending)), (a_first, .inl (cyI, 30, .inl c_first)), (a_second, .inl (cyI, 30, .inl c_second))] H → va_D A [(h0, .inr (0, [.ref a_first, .ref a_second, .ref a_ending, .int v_size])), (a_ending, .inl (cyI, 30, .inl c_ending)), (a_first, .inl (cyI, 30, .inl c_first)), (a_second, .inl (cyI, 30, .inl c_second))] → va_S A s.heap H locs → lv_has ls 4 [(0, .ref h0), (1, .int x1), (2, .int x2)] → W p l e rmX0_addRound s m av below meth c H locs 0 0 Q (F0 m 2 ls [])) (n : Nat), ∀ (x2 : Int32) (x3 : Int32) (v_size : Int32) (c_ending : Nat → Int32) (c_first : Nat → Int32) (c_second : Nat → Int32) (H : Heap) (locs : List Loc) (ls : Array Slot), fX0_addRound_11 N x1 k2 n x2 x3 v_size c_ending c_first c_second = some q → va_P D vwCl [(h0, .inr (0, [.ref a_first, .ref a_second, .ref a_ending, .int v_size])), (a_ending, .inl (cyI, 30, .inl c_ending)), (a_first, .inl (cyI, 30, .inl c_first)), (a_second, .inl (cyI, 30, .inl c_second))] H → va_D A [(h0, .inr (0, [.ref a_first, .ref a_second, .ref a_ending, .int v_size])), (a_ending, .inl (cyI, 30, .inl c_ending)), (a_first, .inl (cyI, 30, .inl c_first)), (a_second, .inl (cyI, 30, .inl c_second))] → va_S A s.heap H locs → lv_has ls 4 [(0, .ref h0), (1, .int x1), (2, .int x2), (3, .int x3)] → W p l e rmX0_addRound s m av below meth c H locs 0 0 Q (F0 m 11 ls []) := by
    intro k2 hk2 n
    induction n with
    | zero => intro x2 x3 v_size c_ending c_first c_second H locs ls hf; exact absurd hf (by simp [fX0_addRound_11])
    | succ n hk11 =>
      intro x2 x3 v_size c_ending c_first c_second H locs ls hf hP hD hS hl
      rw [fX0_addRound_11] at hf
      refine lv_iload_n hx hb dX0_addRound_11 rfl (lv_at hl 3 rfl) ?_
      refine lv_iload_n hx hb dX0_addRound_12 rfl (lv_at hl 1 rfl) ?_
      refine lv_icmp_ge (tgt := 29) hx hb dX0_addRound_13 (by decide) (fun c13 => ?_) (fun c13 => ?_)
      · have hf := pif_t c13 hf
        refine lv_iinc (v := x2 + 1) (lv' := [(2, .int (x2 + 1)), (0, .ref h0), (1, .int x1), (3, .int x3)]) hx hb dX0_addRound_29 hl (k := 2) rfl rfl (by decide) rfl (fun ls hl => ?_)
        refine lv_goto (tgt := 2) hx hb dX0_addRound_32 (by decide) ?_
        exact hk2 (x2 + 1) v_size c_ending c_first c_second H locs ls hf hP hD hS (lv_sub hl [1, 2, 0] rfl)
      · have hf := pif_f c13 hf
        refine lv_aload_n hx hb dX0_addRound_16 rfl (lv_at hl 0 rfl) ?_
        refine lv_iload_n hx hb dX0_addRound_17 rfl (lv_at hl 2 rfl) ?_
        refine lv_iload_n hx hb dX0_addRound_18 rfl (lv_at hl 3 rfl) ?_
        obtain ⟨q19, e19, hf⟩ := pb_some hf
        refine cc_i (wc := [(h0, .inr (0, [.ref a_first, .ref a_second, .ref a_ending, .int v_size])), (a_ending, .inl (cyI, 30, .inl c_ending)), (a_first, .inl (cyI, 30, .inl c_first)), (a_second, .inl (cyI, 30, .inl c_second))]) (wr := []) (w1 := [(h0, .inr (0, [.ref a_first, .ref a_second, .ref a_ending, .int q19.2.1])), (a_ending, .inl (cyI, 30, .inl q19.2.2.1)), (a_first, .inl (cyI, 30, .inl q19.2.2.2.1)), (a_second, .inl (cyI, 30, .inl q19.2.2.2.2))]) (wn := [(h0, .inr (0, [.ref a_first, .ref a_second, .ref a_ending, .int q19.2.1])), (a_ending, .inl (cyI, 30, .inl q19.2.2.1)), (a_first, .inl (cyI, 30, .inl q19.2.2.2.1)), (a_second, .inl (cyI, 30, .inl q19.2.2.2.2))]) hP hD hS hA [0, 1, 2, 3] [] [0, 1, 2, 3] rfl rfl rfl (by decide) rfl rfl (va_runV (C := RX0) (As := [.int x2, .int x3]) (rest := []) ⟨hx, hb, hml, hown, hL⟩ (mX0_add l D cyI cyJ cyB cyS N H.size h0 a_ending a_first a_second v_size c_ending c_first c_second x2 x3 q19 e19) (cwV 2 hL (gV (hR16 0 rfl) (hR16 1 rfl) (hR16 2 rfl) (hR1 19 rfl) (hR16 3 rfl)) rfl rfl rfl (by decide +kernel) ⟨Nat.le_of_ble_eq_true rfl, Nat.le_of_ble_eq_true rfl⟩) (PP_preV (ci := 0) (q0 := 0) hP hD hK [0, 1, 2, 3] rfl rfl rfl rfl) rfl rfl hl.1 rfl (lv_room (Nat.le_of_ble_eq_true rfl)) dX0_addRound_19 ⟨Nat.le_of_ble_eq_true rfl, Nat.le_of_ble_eq_true rfl⟩) (fun H locs hP hD hS => ?_)
        refine lv_pop hx hb dX0_addRound_22 rfl ?_
        refine lv_iinc (v := x3 + 1) (lv' := [(3, .int (x3 + 1)), (0, .ref h0), (1, .int x1), (2, .int x2)]) hx hb dX0_addRound_23 hl (k := 3) rfl rfl (by decide) rfl (fun ls hl => ?_)
        refine lv_goto (tgt := 11) hx hb dX0_addRound_26 (by decide) ?_
        exact hk11 x2 (x3 + 1) q19.2.1 q19.2.2.1 q19.2.2.2.1 q19.2.2.2.2 H locs ls hf hP hD hS (lv_sub hl [1, 2, 3, 0] rfl)
  have hB2 : ∀ (n : Nat), ∀ (x2 : Int32) (v_size : Int32) (c_ending : Nat → Int32) (c_first : Nat → Int32) (c_second : Nat → Int32) (H : Heap) (locs : List Loc) (ls : Array Slot), fX0_addRound_2 N x1 n x2 v_size c_ending c_first c_second = some q → va_P D vwCl [(h0, .inr (0, [.ref a_first, .ref a_second, .ref a_ending, .int v_size])), (a_ending, .inl (cyI, 30, .inl c_ending)), (a_first, .inl (cyI, 30, .inl c_first)), (a_second, .inl (cyI, 30, .inl c_second))] H → va_D A [(h0, .inr (0, [.ref a_first, .ref a_second, .ref a_ending, .int v_size])), (a_ending, .inl (cyI, 30, .inl c_ending)), (a_first, .inl (cyI, 30, .inl c_first)), (a_second, .inl (cyI, 30, .inl c_second))] → va_S A s.heap H locs → lv_has ls 4 [(0, .ref h0), (1, .int x1), (2, .int x2)] → W p l e rmX0_addRound s m av below meth c H locs 0 0 Q (F0 m 2 ls []) := by
    intro n
    induction n with
    | zero => intro x2 v_size c_ending c_first c_second H locs ls hf; exact absurd hf (by simp [fX0_addRound_2])
    | succ n hk2 =>
      intro x2 v_size c_ending c_first c_second H locs ls hf hP hD hS hl
      rw [fX0_addRound_2] at hf
      refine lv_iload_n hx hb dX0_addRound_2 rfl (lv_at hl 2 rfl) ?_
      refine lv_iload_n hx hb dX0_addRound_3 rfl (lv_at hl 1 rfl) ?_
      refine lv_icmp_ge (tgt := 35) hx hb dX0_addRound_4 (by decide) (fun c4 => ?_) (fun c4 => ?_)
      · have hf := pif_t c4 hf
        exact ret_v (q := q) (wp := fun q => [(h0, .inr (0, [.ref a_first, .ref a_second, .ref a_ending, .int q.1])), (a_ending, .inl (cyI, 30, .inl q.2.1)), (a_first, .inl (cyI, 30, .inl q.2.2.1)), (a_second, .inl (cyI, 30, .inl q.2.2.2))]) hQ hf hx hb hr hlocks hP hD hS dX0_addRound_35
      · have hf := pif_f c4 hf
        refine lv_iload_n hx hb dX0_addRound_7 rfl (lv_at hl 2 rfl) ?_
        refine lv_iconst (v := 1) hx hb dX0_addRound_8 (by decide) ?_
        refine lv_iadd hx hb dX0_addRound_9 ?_
        refine lv_istore_n (lv' := [(3, .int (x2 + 1)), (0, .ref h0), (1, .int x1), (2, .int x2)]) hx hb dX0_addRound_10 rfl hl (by decide) rfl (fun ls hl => ?_)
        exact hB11 (fX0_addRound_2 N x1 n) hk2 N x2 (x2 + 1) v_size c_ending c_first c_second H locs ls hf hP hD hS (lv_sub hl [1, 2, 3, 0] rfl)
  unfold fX0_addRound at hf
  obtain ⟨H, hH⟩ : ∃ H : Heap, H = s.heap := ⟨_, rfl⟩
  obtain ⟨locs, hlo⟩ : ∃ locs : List Loc, locs = [] := ⟨_, rfl⟩
  have hP : va_P D vwCl [(h0, .inr (0, [.ref a_first, .ref a_second, .ref a_ending, .int v_size])), (a_ending, .inl (cyI, 30, .inl c_ending)), (a_first, .inl (cyI, 30, .inl c_first)), (a_second, .inl (cyI, 30, .inl c_second))] H := by rw [hH]; exact hP
  have hS : va_S A s.heap H locs := by rw [hH, hlo]; exact hS
  suffices hw : W p l e rmX0_addRound s m av below meth c H locs 0 0 Q (F0 m 0 ls []) by rw [hH, hlo] at hw; exact hw
  refine lv_iconst (v := 0) hx hb dX0_addRound_0 (by decide) ?_
  refine lv_istore_n (lv' := [(2, .int 0), (0, .ref h0), (1, .int x1)]) hx hb dX0_addRound_1 rfl hl (by decide) rfl (fun ls hl => ?_)
  exact hB2 N 0 v_size c_ending c_first c_second H locs ls hf hP hD hS (lv_sub hl [1, 2, 0] rfl)
abbrev rmX0_copyFrom : Room := { frames := 0, cells := 0, slots := 0, locals := 0 }
set_option maxHeartbeats 40000000 in
set_option maxRecDepth 100000 in
theorem mX0_copyFrom (l : Launch) (D : va_G) (cyI cyJ cyB cyS : ClassId) (N : Nat) (sz : Nat) (h0 : Nat) (a_ending : Nat) (a_first : Nat) (a_p1 : Nat) (a_p1_ending : Nat) (a_p1_first : Nat) (a_p1_second : Nat) (a_second : Nat) (v_size : Int32) (c_ending : Nat → Int32) (c_first : Nat → Int32) (v_p1_size : Int32) (c_p1_ending : Nat → Int32) (c_p1_first : Nat → Int32) (c_p1_second : Nat → Int32) (c_second : Nat → Int32) (q : Int32 × (Nat → Int32) × (Nat → Int32) × (Nat → Int32)) (hf : fX0_copyFrom N v_size c_ending c_first v_p1_size c_p1_ending c_p1_first c_p1_second c_second = some q) : Met l yX0_copyFrom (wS yX0_copyFrom cX0_copyFrom 3 none) rmX0_copyFrom (va_Pc [.ref h0, .ref a_p1] (PP D cyI cyJ cyB cyS [(h0, .inr (0, [.ref a_first, .ref a_second, .ref a_ending, .int v_size])), (a_ending, .inl (cyI, 30, .inl c_ending)), (a_first, .inl (cyI, 30, .inl c_first)), (a_p1, .inr (0, [.ref a_p1_first, .ref a_p1_second, .ref a_p1_ending, .int v_p1_size])), (a_p1_ending, .inl (cyI, 30, .inl c_p1_ending)), (a_p1_first, .inl (cyI, 30, .inl c_p1_first)), (a_p1_second, .inl (cyI, 30, .inl c_p1_second)), (a_second, .inl (cyI, 30, .inl c_second))] sz)) (QV D [(h0, .inr (0, [.ref a_first, .ref a_second, .ref a_ending, .int q.1])), (a_ending, .inl (cyI, 30, .inl q.2.1)), (a_first, .inl (cyI, 30, .inl q.2.2.1)), (a_p1, .inr (0, [.ref a_p1_first, .ref a_p1_second, .ref a_p1_ending, .int v_p1_size])), (a_p1_ending, .inl (cyI, 30, .inl c_p1_ending)), (a_p1_first, .inl (cyI, 30, .inl c_p1_first)), (a_p1_second, .inl (cyI, 30, .inl c_p1_second)), (a_second, .inl (cyI, 30, .inl q.2.2.2))] (va_A [(h0, .inr (0, [.ref a_first, .ref a_second, .ref a_ending, .int v_size])), (a_ending, .inl (cyI, 30, .inl c_ending)), (a_first, .inl (cyI, 30, .inl c_first)), (a_p1, .inr (0, [.ref a_p1_first, .ref a_p1_second, .ref a_p1_ending, .int v_p1_size])), (a_p1_ending, .inl (cyI, 30, .inl c_p1_ending)), (a_p1_first, .inl (cyI, 30, .inl c_p1_first)), (a_p1_second, .inl (cyI, 30, .inl c_p1_second)), (a_second, .inl (cyI, 30, .inl c_second))] sz)) 0 0 (va_A [(h0, .inr (0, [.ref a_first, .ref a_second, .ref a_ending, .int v_size])), (a_ending, .inl (cyI, 30, .inl c_ending)), (a_first, .inl (cyI, 30, .inl c_first)), (a_p1, .inr (0, [.ref a_p1_first, .ref a_p1_second, .ref a_p1_ending, .int v_p1_size])), (a_p1_ending, .inl (cyI, 30, .inl c_p1_ending)), (a_p1_first, .inl (cyI, 30, .inl c_p1_first)), (a_p1_second, .inl (cyI, 30, .inl c_p1_second)), (a_second, .inl (cyI, 30, .inl c_second))] sz) := by
  refine Met.ofW (cc := cX0_copyFrom) (maxL := 3) (ret := none) (by decide) rfl ?_
  intro p e s m args below meth c s₁ B hml hv
  obtain ⟨rfl, hsz, hP, hK, hD0⟩ := hv
  have hx := B.exec
  have hb := B.bytes
  have hr := B.returns
  have hts := atoms_spec (ws := (wS yX0_copyFrom cX0_copyFrom 3 none)) B.pre
  have hown : s.vm.findClass RX0 = some m.cls := findClass_of_methodNamed B.named
  have hlocks := B.notSynchronized
  subst hsz
  have hD := hD0.self (sz := s.heap.size)
  refine w_nameQ (fun Q hQ => ?_)
  have hl := lv_entry ([.ref h0, .ref a_p1] : List Value) (n := 3) (Nat.le_of_ble_eq_true rfl)
  rw [lg_entry_eq]
  generalize (lg_sl ([.ref h0, .ref a_p1] : List Value) ++ List.replicate (3 - (lg_sl ([.ref h0, .ref a_p1] : List Value)).length) Slot.unset).toArray = ls at hl ⊢
  have hl : lv_has ls 3 [(0, .ref h0), (1, .ref a_p1)] := hl
  generalize hAe : va_A [(h0, .inr (0, [.ref a_first, .ref a_second, .ref a_ending, .int v_size])), (a_ending, .inl (cyI, 30, .inl c_ending)), (a_first, .inl (cyI, 30, .inl c_first)), (a_p1, .inr (0, [.ref a_p1_first, .ref a_p1_second, .ref a_p1_ending, .int v_p1_size])), (a_p1_ending, .inl (cyI, 30, .inl c_p1_ending)), (a_p1_first, .inl (cyI, 30, .inl c_p1_first)), (a_p1_second, .inl (cyI, 30, .inl c_p1_second)), (a_second, .inl (cyI, 30, .inl c_second))] s.heap.size = A at hD hQ
  have hA : ∀ q : Nat, s.heap.size ≤ q → A q := fun q h => by rw [← hAe]; exact Or.inr h
  have hS : va_S A s.heap s.heap [] := va_S.rf
  generalize ([.ref h0, .ref a_p1] : List Value).toArray = av at hts hQ ⊢
  have hL : ∀ w ∈ wsL_law, w.before av s = true := fun w h => hts w (List.mem_cons_of_mem _ h)
  have w0 := hL (.fieldLink RX0 21 "LosingLeague$Games" "size" "I") (hR16 4 rfl)
  have w1 := hL (.fieldLink RX0 9 "LosingLeague$Games" "first" "[I") (hR3 5 rfl)
  have w2 := hL (.fieldLink RX0 15 "LosingLeague$Games" "second" "[I") (hR3 6 rfl)
  have w3 := hL (.fieldLink RX0 18 "LosingLeague$Games" "ending" "[I") (hR3 7 rfl)
  have hB10 : ∀ (n : Nat), ∀ (x2 : Int32) (v_size : Int32) (c_ending : Nat → Int32) (c_first : Nat → Int32) (c_second : Nat → Int32) (H : Heap) (locs : List Loc) (ls : Array Slot), fX0_copyFrom_10 N v_p1_size c_p1_ending c_p1_first c_p1_second n x2 v_size c_ending c_first c_second = some q → va_P D vwCl [(h0, .inr (0, [.ref a_first, .ref a_second, .ref a_ending, .int v_size])), (a_ending, .inl (cyI, 30, .inl c_ending)), (a_first, .inl (cyI, 30, .inl c_first)), (a_p1, .inr (0, [.ref a_p1_first, .ref a_p1_second, .ref a_p1_ending, .int v_p1_size])), (a_p1_ending, .inl (cyI, 30, .inl c_p1_ending)), (a_p1_first, .inl (cyI, 30, .inl c_p1_first)), (a_p1_second, .inl (cyI, 30, .inl c_p1_second)), (a_second, .inl (cyI, 30, .inl c_second))] H → va_D A [(h0, .inr (0, [.ref a_first, .ref a_second, .ref a_ending, .int v_size])), (a_ending, .inl (cyI, 30, .inl c_ending)), (a_first, .inl (cyI, 30, .inl c_first)), (a_p1, .inr (0, [.ref a_p1_first, .ref a_p1_second, .ref a_p1_ending, .int v_p1_size])), (a_p1_ending, .inl (cyI, 30, .inl c_p1_ending)), (a_p1_first, .inl (cyI, 30, .inl c_p1_first)), (a_p1_second, .inl (cyI, 30, .inl c_p1_second)), (a_second, .inl (cyI, 30, .inl c_second))] → va_S A s.heap H locs → lv_has ls 3 [(0, .ref h0), (1, .ref a_p1), (2, .int x2)] → W p l e rmX0_copyFrom s m av below meth c H locs 0 0 Q (F0 m 10 ls []) := by
    intro n
    induction n with
    | zero => intro x2 v_size c_ending c_first c_second H locs ls hf; exact absurd hf (by simp [fX0_copyFrom_10])
    | succ n hk10 =>
      intro x2 v_size c_ending c_first c_second H locs ls hf hP hD hS hl
      rw [fX0_copyFrom_10] at hf
      refine lv_iload_n hx hb dX0_copyFrom_10 rfl (lv_at hl 2 rfl) ?_
      refine lv_aload_n hx hb dX0_copyFrom_11 rfl (lv_at hl 0 rfl) ?_
      refine va_get (D := D) (ci := 0) (v := .int v_size) (C := RX0) (T := TX0) (N := 4) hx hb hL inlX0 hown hK.1 hP 0 rfl rfl 3 (by decide) w0 (fun _ h9 => h9) rfl dX0_copyFrom_12 ?_
      refine lv_icmp_ge (tgt := 60) hx hb dX0_copyFrom_15 (by decide) (fun c15 => ?_) (fun c15 => ?_)
      · have hf := pif_t c15 hf
        exact ret_v (q := q) (wp := fun q => [(h0, .inr (0, [.ref a_first, .ref a_second, .ref a_ending, .int q.1])), (a_ending, .inl (cyI, 30, .inl q.2.1)), (a_first, .inl (cyI, 30, .inl q.2.2.1)), (a_p1, .inr (0, [.ref a_p1_first, .ref a_p1_second, .ref a_p1_ending, .int v_p1_size])), (a_p1_ending, .inl (cyI, 30, .inl c_p1_ending)), (a_p1_first, .inl (cyI, 30, .inl c_p1_first)), (a_p1_second, .inl (cyI, 30, .inl c_p1_second)), (a_second, .inl (cyI, 30, .inl q.2.2.2))]) hQ hf hx hb hr hlocks hP hD hS dX0_copyFrom_60
      · have hf := pif_f c15 hf
        refine lv_aload_n hx hb dX0_copyFrom_18 rfl (lv_at hl 0 rfl) ?_
        refine va_get (D := D) (ci := 0) (v := .ref a_first) (C := RX0) (T := TX0) (N := 4) hx hb hL inlX0 hown hK.1 hP 0 rfl rfl 0 (by decide) w1 (fun _ h9 => h9) rfl dX0_copyFrom_19 ?_
        refine lv_iload_n hx hb dX0_copyFrom_22 rfl (lv_at hl 2 rfl) ?_
        refine lv_aload_n hx hb dX0_copyFrom_23 rfl (lv_at hl 1 rfl) ?_
        refine va_get (D := D) (ci := 0) (v := .ref a_p1_first) (C := RX0) (T := TX0) (N := 4) hx hb hL inlX0 hown hK.1 hP 3 rfl rfl 0 (by decide) w1 (fun _ h9 => h9) rfl dX0_copyFrom_24 ?_
        refine lv_iload_n hx hb dX0_copyFrom_27 rfl (lv_at hl 2 rfl) ?_
        obtain ⟨h28, hf⟩ := pg_some hf
        refine va_iald hx hb hK.1 hP 5 0 rfl rfl h28 dX0_copyFrom_28 ?_
        obtain ⟨h29, hf⟩ := pg_some hf
        refine va_iast hx hb hK.1 hP hD hS 2 0 rfl rfl h29 dX0_copyFrom_29 (fun H locs hP hD hS => ?_)
        have hP : va_P D vwCl [(h0, .inr (0, [.ref a_first, .ref a_second, .ref a_ending, .int v_size])), (a_ending, .inl (cyI, 30, .inl c_ending)), (a_first, .inl (cyI, 30, .inl (upd c_first x2.toNatClampNeg (c_p1_first x2.toNatClampNeg)))), (a_p1, .inr (0, [.ref a_p1_first, .ref a_p1_second, .ref a_p1_ending, .int v_p1_size])), (a_p1_ending, .inl (cyI, 30, .inl c_p1_ending)), (a_p1_first, .inl (cyI, 30, .inl c_p1_first)), (a_p1_second, .inl (cyI, 30, .inl c_p1_second)), (a_second, .inl (cyI, 30, .inl c_second))] H := hP
        have hD : va_D A [(h0, .inr (0, [.ref a_first, .ref a_second, .ref a_ending, .int v_size])), (a_ending, .inl (cyI, 30, .inl c_ending)), (a_first, .inl (cyI, 30, .inl (upd c_first x2.toNatClampNeg (c_p1_first x2.toNatClampNeg)))), (a_p1, .inr (0, [.ref a_p1_first, .ref a_p1_second, .ref a_p1_ending, .int v_p1_size])), (a_p1_ending, .inl (cyI, 30, .inl c_p1_ending)), (a_p1_first, .inl (cyI, 30, .inl c_p1_first)), (a_p1_second, .inl (cyI, 30, .inl c_p1_second)), (a_second, .inl (cyI, 30, .inl c_second))] := hD
        refine lv_aload_n hx hb dX0_copyFrom_30 rfl (lv_at hl 0 rfl) ?_
        refine va_get (D := D) (ci := 0) (v := .ref a_second) (C := RX0) (T := TX0) (N := 4) hx hb hL inlX0 hown hK.1 hP 0 rfl rfl 1 (by decide) w2 (fun _ h9 => h9) rfl dX0_copyFrom_31 ?_
        refine lv_iload_n hx hb dX0_copyFrom_34 rfl (lv_at hl 2 rfl) ?_
        refine lv_aload_n hx hb dX0_copyFrom_35 rfl (lv_at hl 1 rfl) ?_
        refine va_get (D := D) (ci := 0) (v := .ref a_p1_second) (C := RX0) (T := TX0) (N := 4) hx hb hL inlX0 hown hK.1 hP 3 rfl rfl 1 (by decide) w2 (fun _ h9 => h9) rfl dX0_copyFrom_36 ?_
        refine lv_iload_n hx hb dX0_copyFrom_39 rfl (lv_at hl 2 rfl) ?_
        obtain ⟨h40, hf⟩ := pg_some hf
        refine va_iald hx hb hK.1 hP 6 0 rfl rfl h40 dX0_copyFrom_40 ?_
        obtain ⟨h41, hf⟩ := pg_some hf
        refine va_iast hx hb hK.1 hP hD hS 7 0 rfl rfl h41 dX0_copyFrom_41 (fun H locs hP hD hS => ?_)
        have hP : va_P D vwCl [(h0, .inr (0, [.ref a_first, .ref a_second, .ref a_ending, .int v_size])), (a_ending, .inl (cyI, 30, .inl c_ending)), (a_first, .inl (cyI, 30, .inl (upd c_first x2.toNatClampNeg (c_p1_first x2.toNatClampNeg)))), (a_p1, .inr (0, [.ref a_p1_first, .ref a_p1_second, .ref a_p1_ending, .int v_p1_size])), (a_p1_ending, .inl (cyI, 30, .inl c_p1_ending)), (a_p1_first, .inl (cyI, 30, .inl c_p1_first)), (a_p1_second, .inl (cyI, 30, .inl c_p1_second)), (a_second, .inl (cyI, 30, .inl (upd c_second x2.toNatClampNeg (c_p1_second x2.toNatClampNeg))))] H := hP
        have hD : va_D A [(h0, .inr (0, [.ref a_first, .ref a_second, .ref a_ending, .int v_size])), (a_ending, .inl (cyI, 30, .inl c_ending)), (a_first, .inl (cyI, 30, .inl (upd c_first x2.toNatClampNeg (c_p1_first x2.toNatClampNeg)))), (a_p1, .inr (0, [.ref a_p1_first, .ref a_p1_second, .ref a_p1_ending, .int v_p1_size])), (a_p1_ending, .inl (cyI, 30, .inl c_p1_ending)), (a_p1_first, .inl (cyI, 30, .inl c_p1_first)), (a_p1_second, .inl (cyI, 30, .inl c_p1_second)), (a_second, .inl (cyI, 30, .inl (upd c_second x2.toNatClampNeg (c_p1_second x2.toNatClampNeg))))] := hD
        refine lv_aload_n hx hb dX0_copyFrom_42 rfl (lv_at hl 0 rfl) ?_
        refine va_get (D := D) (ci := 0) (v := .ref a_ending) (C := RX0) (T := TX0) (N := 4) hx hb hL inlX0 hown hK.1 hP 0 rfl rfl 2 (by decide) w3 (fun _ h9 => h9) rfl dX0_copyFrom_43 ?_
        refine lv_iload_n hx hb dX0_copyFrom_46 rfl (lv_at hl 2 rfl) ?_
        refine lv_aload_n hx hb dX0_copyFrom_47 rfl (lv_at hl 1 rfl) ?_
        refine va_get (D := D) (ci := 0) (v := .ref a_p1_ending) (C := RX0) (T := TX0) (N := 4) hx hb hL inlX0 hown hK.1 hP 3 rfl rfl 2 (by decide) w3 (fun _ h9 => h9) rfl dX0_copyFrom_48 ?_
        refine lv_iload_n hx hb dX0_copyFrom_51 rfl (lv_at hl 2 rfl) ?_
        obtain ⟨h52, hf⟩ := pg_some hf
        refine va_iald hx hb hK.1 hP 4 0 rfl rfl h52 dX0_copyFrom_52 ?_
        obtain ⟨h53, hf⟩ := pg_some hf
        refine va_iast hx hb hK.1 hP hD hS 1 0 rfl rfl h53 dX0_copyFrom_53 (fun H locs hP hD hS => ?_)
        have hP : va_P D vwCl [(h0, .inr (0, [.ref a_first, .ref a_second, .ref a_ending, .int v_size])), (a_ending, .inl (cyI, 30, .inl (upd c_ending x2.toNatClampNeg (c_p1_ending x2.toNatClampNeg)))), (a_first, .inl (cyI, 30, .inl (upd c_first x2.toNatClampNeg (c_p1_first x2.toNatClampNeg)))), (a_p1, .inr (0, [.ref a_p1_first, .ref a_p1_second, .ref a_p1_ending, .int v_p1_size])), (a_p1_ending, .inl (cyI, 30, .inl c_p1_ending)), (a_p1_first, .inl (cyI, 30, .inl c_p1_first)), (a_p1_second, .inl (cyI, 30, .inl c_p1_second)), (a_second, .inl (cyI, 30, .inl (upd c_second x2.toNatClampNeg (c_p1_second x2.toNatClampNeg))))] H := hP
        have hD : va_D A [(h0, .inr (0, [.ref a_first, .ref a_second, .ref a_ending, .int v_size])), (a_ending, .inl (cyI, 30, .inl (upd c_ending x2.toNatClampNeg (c_p1_ending x2.toNatClampNeg)))), (a_first, .inl (cyI, 30, .inl (upd c_first x2.toNatClampNeg (c_p1_first x2.toNatClampNeg)))), (a_p1, .inr (0, [.ref a_p1_first, .ref a_p1_second, .ref a_p1_ending, .int v_p1_size])), (a_p1_ending, .inl (cyI, 30, .inl c_p1_ending)), (a_p1_first, .inl (cyI, 30, .inl c_p1_first)), (a_p1_second, .inl (cyI, 30, .inl c_p1_second)), (a_second, .inl (cyI, 30, .inl (upd c_second x2.toNatClampNeg (c_p1_second x2.toNatClampNeg))))] := hD
        refine lv_iinc (v := x2 + 1) (lv' := [(2, .int (x2 + 1)), (0, .ref h0), (1, .ref a_p1)]) hx hb dX0_copyFrom_54 hl (k := 2) rfl rfl (by decide) rfl (fun ls hl => ?_)
        refine lv_goto (tgt := 10) hx hb dX0_copyFrom_57 (by decide) ?_
        exact hk10 (x2 + 1) v_size (upd c_ending x2.toNatClampNeg (c_p1_ending x2.toNatClampNeg)) (upd c_first x2.toNatClampNeg (c_p1_first x2.toNatClampNeg)) (upd c_second x2.toNatClampNeg (c_p1_second x2.toNatClampNeg)) H locs ls hf hP hD hS (lv_sub hl [1, 2, 0] rfl)
  unfold fX0_copyFrom at hf
  obtain ⟨H, hH⟩ : ∃ H : Heap, H = s.heap := ⟨_, rfl⟩
  obtain ⟨locs, hlo⟩ : ∃ locs : List Loc, locs = [] := ⟨_, rfl⟩
  have hP : va_P D vwCl [(h0, .inr (0, [.ref a_first, .ref a_second, .ref a_ending, .int v_size])), (a_ending, .inl (cyI, 30, .inl c_ending)), (a_first, .inl (cyI, 30, .inl c_first)), (a_p1, .inr (0, [.ref a_p1_first, .ref a_p1_second, .ref a_p1_ending, .int v_p1_size])), (a_p1_ending, .inl (cyI, 30, .inl c_p1_ending)), (a_p1_first, .inl (cyI, 30, .inl c_p1_first)), (a_p1_second, .inl (cyI, 30, .inl c_p1_second)), (a_second, .inl (cyI, 30, .inl c_second))] H := by rw [hH]; exact hP
  have hS : va_S A s.heap H locs := by rw [hH, hlo]; exact hS
  suffices hw : W p l e rmX0_copyFrom s m av below meth c H locs 0 0 Q (F0 m 0 ls []) by rw [hH, hlo] at hw; exact hw
  refine lv_aload_n hx hb dX0_copyFrom_0 rfl (lv_at hl 0 rfl) ?_
  refine lv_aload_n hx hb dX0_copyFrom_1 rfl (lv_at hl 1 rfl) ?_
  refine va_get (D := D) (ci := 0) (v := .int v_p1_size) (C := RX0) (T := TX0) (N := 4) hx hb hL inlX0 hown hK.1 hP 3 rfl rfl 3 (by decide) w0 (fun _ h9 => h9) rfl dX0_copyFrom_2 ?_
  refine va_put (D := D) (ci := 0) (v := .int v_p1_size) (ty := .int) (C := RX0) (T := TX0) (N := 4) hx hb hL inlX0 tyX0 tyX0_ok nmX0 hown hK.1 hP hD hS 0 rfl rfl 3 (by decide) w0 (fun _ h9 => h9) rfl (by decide +kernel) rfl rfl (Nat.le_of_ble_eq_true rfl) dX0_copyFrom_5 (fun H locs hP hD hS => ?_)
  have hP : va_P D vwCl [(h0, .inr (0, [.ref a_first, .ref a_second, .ref a_ending, .int v_p1_size])), (a_ending, .inl (cyI, 30, .inl c_ending)), (a_first, .inl (cyI, 30, .inl c_first)), (a_p1, .inr (0, [.ref a_p1_first, .ref a_p1_second, .ref a_p1_ending, .int v_p1_size])), (a_p1_ending, .inl (cyI, 30, .inl c_p1_ending)), (a_p1_first, .inl (cyI, 30, .inl c_p1_first)), (a_p1_second, .inl (cyI, 30, .inl c_p1_second)), (a_second, .inl (cyI, 30, .inl c_second))] H := hP
  have hD : va_D A [(h0, .inr (0, [.ref a_first, .ref a_second, .ref a_ending, .int v_p1_size])), (a_ending, .inl (cyI, 30, .inl c_ending)), (a_first, .inl (cyI, 30, .inl c_first)), (a_p1, .inr (0, [.ref a_p1_first, .ref a_p1_second, .ref a_p1_ending, .int v_p1_size])), (a_p1_ending, .inl (cyI, 30, .inl c_p1_ending)), (a_p1_first, .inl (cyI, 30, .inl c_p1_first)), (a_p1_second, .inl (cyI, 30, .inl c_p1_second)), (a_second, .inl (cyI, 30, .inl c_second))] := hD
  refine lv_iconst (v := 0) hx hb dX0_copyFrom_8 (by decide) ?_
  refine lv_istore_n (lv' := [(2, .int 0), (0, .ref h0), (1, .ref a_p1)]) hx hb dX0_copyFrom_9 rfl hl (by decide) rfl (fun ls hl => ?_)
  exact hB10 N 0 v_p1_size c_ending c_first c_second H locs ls hf hP hD hS (lv_sub hl [1, 2, 0] rfl)
abbrev rmX0_has : Room := { frames := 0, cells := 0, slots := 0, locals := 0 }
set_option maxHeartbeats 40000000 in
set_option maxRecDepth 100000 in
theorem mX0_has (l : Launch) (D : va_G) (cyI cyJ cyB cyS : ClassId) (N : Nat) (sz : Nat) (h0 : Nat) (a_first : Nat) (a_second : Nat) (a_ending : Nat) (v_size : Int32) (x1 : Int32) (q : Int32) (hf : fX0_has N v_size x1 = some q) : Met l yX0_has (wS yX0_has cX0_has 2 (some .boolean)) rmX0_has (va_Pc [.ref h0, .int x1] (PP D cyI cyJ cyB cyS [(h0, .inr (0, [.ref a_first, .ref a_second, .ref a_ending, .int v_size]))] sz)) (QI q D [(h0, .inr (0, [.ref a_first, .ref a_second, .ref a_ending, .int v_size]))] (va_A [(h0, .inr (0, [.ref a_first, .ref a_second, .ref a_ending, .int v_size]))] sz)) 0 0 (va_A [(h0, .inr (0, [.ref a_first, .ref a_second, .ref a_ending, .int v_size]))] sz) := by
  refine Met.ofW (cc := cX0_has) (maxL := 2) (ret := (some .boolean)) (by decide) rfl ?_
  intro p e s m args below meth c s₁ B hml hv
  obtain ⟨rfl, hsz, hP, hK, hD0⟩ := hv
  have hx := B.exec
  have hb := B.bytes
  have hr := B.returns
  have hts := atoms_spec (ws := (wS yX0_has cX0_has 2 (some .boolean))) B.pre
  have hown : s.vm.findClass RX0 = some m.cls := findClass_of_methodNamed B.named
  have hlocks := B.notSynchronized
  subst hsz
  have hD := hD0.self (sz := s.heap.size)
  refine w_nameQ (fun Q hQ => ?_)
  have hl := lv_entry ([.ref h0, .int x1] : List Value) (n := 2) (Nat.le_of_ble_eq_true rfl)
  rw [lg_entry_eq]
  generalize (lg_sl ([.ref h0, .int x1] : List Value) ++ List.replicate (2 - (lg_sl ([.ref h0, .int x1] : List Value)).length) Slot.unset).toArray = ls at hl ⊢
  have hl : lv_has ls 2 [(0, .ref h0), (1, .int x1)] := hl
  generalize hAe : va_A [(h0, .inr (0, [.ref a_first, .ref a_second, .ref a_ending, .int v_size]))] s.heap.size = A at hD hQ
  have hA : ∀ q : Nat, s.heap.size ≤ q → A q := fun q h => by rw [← hAe]; exact Or.inr h
  have hS : va_S A s.heap s.heap [] := va_S.rf
  generalize ([.ref h0, .int x1] : List Value).toArray = av at hts hQ ⊢
  have hL : ∀ w ∈ wsL_law, w.before av s = true := fun w h => hts w (List.mem_cons_of_mem _ h)
  have w0 := hL (.fieldLink RX0 21 "LosingLeague$Games" "size" "I") (hR16 4 rfl)
  have hB17 : ∀ (s0 : Int32) (H : Heap) (locs : List Loc) (ls : Array Slot), fX0_has_17 N v_size x1 s0 = some q → va_P D vwCl [(h0, .inr (0, [.ref a_first, .ref a_second, .ref a_ending, .int v_size]))] H → va_D A [(h0, .inr (0, [.ref a_first, .ref a_second, .ref a_ending, .int v_size]))] → va_S A s.heap H locs → lv_has ls 2 [] → W p l e rmX0_has s m av below meth c H locs 0 0 Q (F0 m 17 ls [.int s0]) := by
    intro s0 H locs ls hf hP hD hS hl
    unfold fX0_has_17 at hf
    obtain ⟨n17, hf⟩ := pg_some hf
    exact ret_z (q := q) (g := fun q => q) (wp := fun q => [(h0, .inr (0, [.ref a_first, .ref a_second, .ref a_ending, .int v_size]))]) hQ hf hx hb hr hlocks (isB_n n17) hP hD hS dX0_has_17 rfl
  have hB16 : ∀ (H : Heap) (locs : List Loc) (ls : Array Slot), fX0_has_16 N v_size x1 = some q → va_P D vwCl [(h0, .inr (0, [.ref a_first, .ref a_second, .ref a_ending, .int v_size]))] H → va_D A [(h0, .inr (0, [.ref a_first, .ref a_second, .ref a_ending, .int v_size]))] → va_S A s.heap H locs → lv_has ls 2 [] → W p l e rmX0_has s m av below meth c H locs 0 0 Q (F0 m 16 ls []) := by
    intro  H locs ls hf hP hD hS hl
    unfold fX0_has_16 at hf
    refine lv_iconst (v := 0) hx hb dX0_has_16 (by decide) ?_
    exact hB17 0 H locs ls hf hP hD hS (lv_sub hl [] rfl)
  unfold fX0_has at hf
  obtain ⟨H, hH⟩ : ∃ H : Heap, H = s.heap := ⟨_, rfl⟩
  obtain ⟨locs, hlo⟩ : ∃ locs : List Loc, locs = [] := ⟨_, rfl⟩
  have hP : va_P D vwCl [(h0, .inr (0, [.ref a_first, .ref a_second, .ref a_ending, .int v_size]))] H := by rw [hH]; exact hP
  have hS : va_S A s.heap H locs := by rw [hH, hlo]; exact hS
  suffices hw : W p l e rmX0_has s m av below meth c H locs 0 0 Q (F0 m 0 ls []) by rw [hH, hlo] at hw; exact hw
  refine lv_iload_n hx hb dX0_has_0 rfl (lv_at hl 1 rfl) ?_
  refine lv_if_lt (tgt := 16) hx hb dX0_has_1 (by decide) (fun c1 => ?_) (fun c1 => ?_)
  · have hf := pif_t c1 hf
    exact hB16 H locs ls hf hP hD hS (lv_sub hl [] rfl)
  · have hf := pif_f c1 hf
    refine lv_iload_n hx hb dX0_has_4 rfl (lv_at hl 1 rfl) ?_
    refine lv_aload_n hx hb dX0_has_5 rfl (lv_at hl 0 rfl) ?_
    refine va_get (D := D) (ci := 0) (v := .int v_size) (C := RX0) (T := TX0) (N := 4) hx hb hL inlX0 hown hK.1 hP 0 rfl rfl 3 (by decide) w0 (fun _ h9 => h9) rfl dX0_has_6 ?_
    refine lv_icmp_ge (tgt := 16) hx hb dX0_has_9 (by decide) (fun c9 => ?_) (fun c9 => ?_)
    · have hf := pif_t c9 hf
      exact hB16 H locs ls hf hP hD hS (lv_sub hl [] rfl)
    · have hf := pif_f c9 hf
      refine lv_iconst (v := 1) hx hb dX0_has_12 (by decide) ?_
      refine lv_goto (tgt := 17) hx hb dX0_has_13 (by decide) ?_
      exact hB17 1 H locs ls hf hP hD hS (lv_sub hl [] rfl)
abbrev rmX0_isOpen : Room := { frames := 1, cells := 0, slots := 0, locals := 21 }
set_option maxHeartbeats 40000000 in
set_option maxRecDepth 100000 in
theorem mX0_isOpen (l : Launch) (D : va_G) (cyI cyJ cyB cyS : ClassId) (N : Nat) (sz : Nat) (h0 : Nat) (a_ending : Nat) (a_first : Nat) (a_second : Nat) (v_size : Int32) (c_ending : Nat → Int32) (x1 : Int32) (q : Int32) (hf : fX0_isOpen N v_size c_ending x1 = some q) : Met l yX0_isOpen (wS yX0_isOpen cX0_isOpen 2 (some .boolean)) rmX0_isOpen (va_Pc [.ref h0, .int x1] (PP D cyI cyJ cyB cyS [(h0, .inr (0, [.ref a_first, .ref a_second, .ref a_ending, .int v_size])), (a_ending, .inl (cyI, 30, .inl c_ending))] sz)) (QI q D [(h0, .inr (0, [.ref a_first, .ref a_second, .ref a_ending, .int v_size])), (a_ending, .inl (cyI, 30, .inl c_ending))] (va_A [(h0, .inr (0, [.ref a_first, .ref a_second, .ref a_ending, .int v_size])), (a_ending, .inl (cyI, 30, .inl c_ending))] sz)) 0 0 (va_A [(h0, .inr (0, [.ref a_first, .ref a_second, .ref a_ending, .int v_size])), (a_ending, .inl (cyI, 30, .inl c_ending))] sz) := by
  refine Met.ofW (cc := cX0_isOpen) (maxL := 2) (ret := (some .boolean)) (by decide) rfl ?_
  intro p e s m args below meth c s₁ B hml hv
  obtain ⟨rfl, hsz, hP, hK, hD0⟩ := hv
  have hx := B.exec
  have hb := B.bytes
  have hr := B.returns
  have hts := atoms_spec (ws := (wS yX0_isOpen cX0_isOpen 2 (some .boolean))) B.pre
  have hown : s.vm.findClass RX0 = some m.cls := findClass_of_methodNamed B.named
  have hlocks := B.notSynchronized
  subst hsz
  have hD := hD0.self (sz := s.heap.size)
  refine w_nameQ (fun Q hQ => ?_)
  have hl := lv_entry ([.ref h0, .int x1] : List Value) (n := 2) (Nat.le_of_ble_eq_true rfl)
  rw [lg_entry_eq]
  generalize (lg_sl ([.ref h0, .int x1] : List Value) ++ List.replicate (2 - (lg_sl ([.ref h0, .int x1] : List Value)).length) Slot.unset).toArray = ls at hl ⊢
  have hl : lv_has ls 2 [(0, .ref h0), (1, .int x1)] := hl
  generalize hAe : va_A [(h0, .inr (0, [.ref a_first, .ref a_second, .ref a_ending, .int v_size])), (a_ending, .inl (cyI, 30, .inl c_ending))] s.heap.size = A at hD hQ
  have hA : ∀ q : Nat, s.heap.size ≤ q → A q := fun q h => by rw [← hAe]; exact Or.inr h
  have hS : va_S A s.heap s.heap [] := va_S.rf
  generalize ([.ref h0, .int x1] : List Value).toArray = av at hts hQ ⊢
  have hL : ∀ w ∈ wsL_law, w.before av s = true := fun w h => hts w (List.mem_cons_of_mem _ h)
  have w0 := hL (.fieldLink RX0 18 "LosingLeague$Games" "ending" "[I") (hR3 7 rfl)
  have hB23 : ∀ (s0 : Int32) (H : Heap) (locs : List Loc) (ls : Array Slot), fX0_isOpen_23 N v_size c_ending x1 s0 = some q → va_P D vwCl [(h0, .inr (0, [.ref a_first, .ref a_second, .ref a_ending, .int v_size])), (a_ending, .inl (cyI, 30, .inl c_ending))] H → va_D A [(h0, .inr (0, [.ref a_first, .ref a_second, .ref a_ending, .int v_size])), (a_ending, .inl (cyI, 30, .inl c_ending))] → va_S A s.heap H locs → lv_has ls 2 [] → W p l e rmX0_isOpen s m av below meth c H locs 0 0 Q (F0 m 23 ls [.int s0]) := by
    intro s0 H locs ls hf hP hD hS hl
    unfold fX0_isOpen_23 at hf
    obtain ⟨n23, hf⟩ := pg_some hf
    exact ret_z (q := q) (g := fun q => q) (wp := fun q => [(h0, .inr (0, [.ref a_first, .ref a_second, .ref a_ending, .int v_size])), (a_ending, .inl (cyI, 30, .inl c_ending))]) hQ hf hx hb hr hlocks (isB_n n23) hP hD hS dX0_isOpen_23 rfl
  have hB22 : ∀ (H : Heap) (locs : List Loc) (ls : Array Slot), fX0_isOpen_22 N v_size c_ending x1 = some q → va_P D vwCl [(h0, .inr (0, [.ref a_first, .ref a_second, .ref a_ending, .int v_size])), (a_ending, .inl (cyI, 30, .inl c_ending))] H → va_D A [(h0, .inr (0, [.ref a_first, .ref a_second, .ref a_ending, .int v_size])), (a_ending, .inl (cyI, 30, .inl c_ending))] → va_S A s.heap H locs → lv_has ls 2 [] → W p l e rmX0_isOpen s m av below meth c H locs 0 0 Q (F0 m 22 ls []) := by
    intro  H locs ls hf hP hD hS hl
    unfold fX0_isOpen_22 at hf
    refine lv_iconst (v := 0) hx hb dX0_isOpen_22 (by decide) ?_
    exact hB23 0 H locs ls hf hP hD hS (lv_sub hl [] rfl)
  unfold fX0_isOpen at hf
  obtain ⟨H, hH⟩ : ∃ H : Heap, H = s.heap := ⟨_, rfl⟩
  obtain ⟨locs, hlo⟩ : ∃ locs : List Loc, locs = [] := ⟨_, rfl⟩
  have hP : va_P D vwCl [(h0, .inr (0, [.ref a_first, .ref a_second, .ref a_ending, .int v_size])), (a_ending, .inl (cyI, 30, .inl c_ending))] H := by rw [hH]; exact hP
  have hS : va_S A s.heap H locs := by rw [hH, hlo]; exact hS
  suffices hw : W p l e rmX0_isOpen s m av below meth c H locs 0 0 Q (F0 m 0 ls []) by rw [hH, hlo] at hw; exact hw
  refine lv_aload_n hx hb dX0_isOpen_0 rfl (lv_at hl 0 rfl) ?_
  refine lv_iload_n hx hb dX0_isOpen_1 rfl (lv_at hl 1 rfl) ?_
  obtain ⟨q2, e2, hf⟩ := pb_some hf
  refine cc_i (wc := [(h0, .inr (0, [.ref a_first, .ref a_second, .ref a_ending, .int v_size]))]) (wr := [(a_ending, .inl (cyI, 30, .inl c_ending))]) (w1 := [(h0, .inr (0, [.ref a_first, .ref a_second, .ref a_ending, .int v_size]))]) (wn := [(h0, .inr (0, [.ref a_first, .ref a_second, .ref a_ending, .int v_size])), (a_ending, .inl (cyI, 30, .inl c_ending))]) hP hD hS hA [0] [1] [1, 0] rfl rfl rfl (by decide) rfl rfl (va_runV (C := RX0) (As := [.int x1]) (rest := []) ⟨hx, hb, hml, hown, hL⟩ (mX0_has l D cyI cyJ cyB cyS N H.size h0 a_first a_second a_ending v_size x1 q2 e2) (cwV 1 hL (gV (hR23 12 rfl) (hR20 16 rfl) (hR20 17 rfl) (hR1 19 rfl) (hR20 18 rfl)) rfl rfl rfl (by decide +kernel) ⟨Nat.le_of_ble_eq_true rfl, Nat.le_of_ble_eq_true rfl⟩) (PP_preV (ci := 0) (q0 := 0) hP hD hK [0] rfl rfl rfl rfl) rfl rfl hl.1 rfl (lv_room (Nat.le_of_ble_eq_true rfl)) dX0_isOpen_2 ⟨Nat.le_of_ble_eq_true rfl, Nat.le_of_ble_eq_true rfl⟩) (fun H locs hP hD hS => ?_)
  refine lv_if_eq (tgt := 22) hx hb dX0_isOpen_5 (by decide) (fun c5 => ?_) (fun c5 => ?_)
  · have hf := pif_t c5 hf
    exact hB22 H locs ls hf hP hD hS (lv_sub hl [] rfl)
  · have hf := pif_f c5 hf
    refine lv_aload_n hx hb dX0_isOpen_8 rfl (lv_at hl 0 rfl) ?_
    refine va_get (D := D) (ci := 0) (v := .ref a_ending) (C := RX0) (T := TX0) (N := 4) hx hb hL inlX0 hown hK.1 hP 0 rfl rfl 2 (by decide) w0 (fun _ h9 => h9) rfl dX0_isOpen_9 ?_
    refine lv_iload_n hx hb dX0_isOpen_12 rfl (lv_at hl 1 rfl) ?_
    obtain ⟨h13, hf⟩ := pg_some hf
    refine va_iald hx hb hK.1 hP 1 0 rfl rfl h13 dX0_isOpen_13 ?_
    refine lv_iconst (v := 2) hx hb dX0_isOpen_14 (by decide) ?_
    refine lv_icmp_ne (tgt := 22) hx hb dX0_isOpen_15 (by decide) (fun c15 => ?_) (fun c15 => ?_)
    · have hf := pif_f c15 hf
      exact hB22 H locs ls hf hP hD hS (lv_sub hl [] rfl)
    · have hf := pif_t c15 hf
      refine lv_iconst (v := 1) hx hb dX0_isOpen_18 (by decide) ?_
      refine lv_goto (tgt := 23) hx hb dX0_isOpen_19 (by decide) ?_
      exact hB23 1 H locs ls hf hP hD hS (lv_sub hl [] rfl)
abbrev rmX0_isOf : Room := { frames := 1, cells := 0, slots := 0, locals := 21 }
set_option maxHeartbeats 40000000 in
set_option maxRecDepth 100000 in
theorem mX0_isOf (l : Launch) (D : va_G) (cyI cyJ cyB cyS : ClassId) (N : Nat) (sz : Nat) (h0 : Nat) (a_first : Nat) (a_second : Nat) (a_ending : Nat) (v_size : Int32) (c_first : Nat → Int32) (c_second : Nat → Int32) (x1 : Int32) (x2 : Int32) (q : Int32) (hf : fX0_isOf N v_size c_first c_second x1 x2 = some q) : Met l yX0_isOf (wS yX0_isOf cX0_isOf 3 (some .boolean)) rmX0_isOf (va_Pc [.ref h0, .int x1, .int x2] (PP D cyI cyJ cyB cyS [(h0, .inr (0, [.ref a_first, .ref a_second, .ref a_ending, .int v_size])), (a_first, .inl (cyI, 30, .inl c_first)), (a_second, .inl (cyI, 30, .inl c_second))] sz)) (QI q D [(h0, .inr (0, [.ref a_first, .ref a_second, .ref a_ending, .int v_size])), (a_first, .inl (cyI, 30, .inl c_first)), (a_second, .inl (cyI, 30, .inl c_second))] (va_A [(h0, .inr (0, [.ref a_first, .ref a_second, .ref a_ending, .int v_size])), (a_first, .inl (cyI, 30, .inl c_first)), (a_second, .inl (cyI, 30, .inl c_second))] sz)) 0 0 (va_A [(h0, .inr (0, [.ref a_first, .ref a_second, .ref a_ending, .int v_size])), (a_first, .inl (cyI, 30, .inl c_first)), (a_second, .inl (cyI, 30, .inl c_second))] sz) := by
  refine Met.ofW (cc := cX0_isOf) (maxL := 3) (ret := (some .boolean)) (by decide) rfl ?_
  intro p e s m args below meth c s₁ B hml hv
  obtain ⟨rfl, hsz, hP, hK, hD0⟩ := hv
  have hx := B.exec
  have hb := B.bytes
  have hr := B.returns
  have hts := atoms_spec (ws := (wS yX0_isOf cX0_isOf 3 (some .boolean))) B.pre
  have hown : s.vm.findClass RX0 = some m.cls := findClass_of_methodNamed B.named
  have hlocks := B.notSynchronized
  subst hsz
  have hD := hD0.self (sz := s.heap.size)
  refine w_nameQ (fun Q hQ => ?_)
  have hl := lv_entry ([.ref h0, .int x1, .int x2] : List Value) (n := 3) (Nat.le_of_ble_eq_true rfl)
  rw [lg_entry_eq]
  generalize (lg_sl ([.ref h0, .int x1, .int x2] : List Value) ++ List.replicate (3 - (lg_sl ([.ref h0, .int x1, .int x2] : List Value)).length) Slot.unset).toArray = ls at hl ⊢
  have hl : lv_has ls 3 [(0, .ref h0), (1, .int x1), (2, .int x2)] := hl
  generalize hAe : va_A [(h0, .inr (0, [.ref a_first, .ref a_second, .ref a_ending, .int v_size])), (a_first, .inl (cyI, 30, .inl c_first)), (a_second, .inl (cyI, 30, .inl c_second))] s.heap.size = A at hD hQ
  have hA : ∀ q : Nat, s.heap.size ≤ q → A q := fun q h => by rw [← hAe]; exact Or.inr h
  have hS : va_S A s.heap s.heap [] := va_S.rf
  generalize ([.ref h0, .int x1, .int x2] : List Value).toArray = av at hts hQ ⊢
  have hL : ∀ w ∈ wsL_law, w.before av s = true := fun w h => hts w (List.mem_cons_of_mem _ h)
  have w0 := hL (.fieldLink RX0 9 "LosingLeague$Games" "first" "[I") (hR3 5 rfl)
  have w1 := hL (.fieldLink RX0 15 "LosingLeague$Games" "second" "[I") (hR3 6 rfl)
  have hB33 : ∀ (s0 : Int32) (H : Heap) (locs : List Loc) (ls : Array Slot), fX0_isOf_33 N v_size c_first c_second x1 x2 s0 = some q → va_P D vwCl [(h0, .inr (0, [.ref a_first, .ref a_second, .ref a_ending, .int v_size])), (a_first, .inl (cyI, 30, .inl c_first)), (a_second, .inl (cyI, 30, .inl c_second))] H → va_D A [(h0, .inr (0, [.ref a_first, .ref a_second, .ref a_ending, .int v_size])), (a_first, .inl (cyI, 30, .inl c_first)), (a_second, .inl (cyI, 30, .inl c_second))] → va_S A s.heap H locs → lv_has ls 3 [] → W p l e rmX0_isOf s m av below meth c H locs 0 0 Q (F0 m 33 ls [.int s0]) := by
    intro s0 H locs ls hf hP hD hS hl
    unfold fX0_isOf_33 at hf
    obtain ⟨n33, hf⟩ := pg_some hf
    exact ret_z (q := q) (g := fun q => q) (wp := fun q => [(h0, .inr (0, [.ref a_first, .ref a_second, .ref a_ending, .int v_size])), (a_first, .inl (cyI, 30, .inl c_first)), (a_second, .inl (cyI, 30, .inl c_second))]) hQ hf hx hb hr hlocks (isB_n n33) hP hD hS dX0_isOf_33 rfl
  have hB28 : ∀ (H : Heap) (locs : List Loc) (ls : Array Slot), fX0_isOf_28 N v_size c_first c_second x1 x2 = some q → va_P D vwCl [(h0, .inr (0, [.ref a_first, .ref a_second, .ref a_ending, .int v_size])), (a_first, .inl (cyI, 30, .inl c_first)), (a_second, .inl (cyI, 30, .inl c_second))] H → va_D A [(h0, .inr (0, [.ref a_first, .ref a_second, .ref a_ending, .int v_size])), (a_first, .inl (cyI, 30, .inl c_first)), (a_second, .inl (cyI, 30, .inl c_second))] → va_S A s.heap H locs → lv_has ls 3 [] → W p l e rmX0_isOf s m av below meth c H locs 0 0 Q (F0 m 28 ls []) := by
    intro  H locs ls hf hP hD hS hl
    unfold fX0_isOf_28 at hf
    refine lv_iconst (v := 1) hx hb dX0_isOf_28 (by decide) ?_
    refine lv_goto (tgt := 33) hx hb dX0_isOf_29 (by decide) ?_
    exact hB33 1 H locs ls hf hP hD hS (lv_sub hl [] rfl)
  have hB32 : ∀ (H : Heap) (locs : List Loc) (ls : Array Slot), fX0_isOf_32 N v_size c_first c_second x1 x2 = some q → va_P D vwCl [(h0, .inr (0, [.ref a_first, .ref a_second, .ref a_ending, .int v_size])), (a_first, .inl (cyI, 30, .inl c_first)), (a_second, .inl (cyI, 30, .inl c_second))] H → va_D A [(h0, .inr (0, [.ref a_first, .ref a_second, .ref a_ending, .int v_size])), (a_first, .inl (cyI, 30, .inl c_first)), (a_second, .inl (cyI, 30, .inl c_second))] → va_S A s.heap H locs → lv_has ls 3 [] → W p l e rmX0_isOf s m av below meth c H locs 0 0 Q (F0 m 32 ls []) := by
    intro  H locs ls hf hP hD hS hl
    unfold fX0_isOf_32 at hf
    refine lv_iconst (v := 0) hx hb dX0_isOf_32 (by decide) ?_
    exact hB33 0 H locs ls hf hP hD hS (lv_sub hl [] rfl)
  unfold fX0_isOf at hf
  obtain ⟨H, hH⟩ : ∃ H : Heap, H = s.heap := ⟨_, rfl⟩
  obtain ⟨locs, hlo⟩ : ∃ locs : List Loc, locs = [] := ⟨_, rfl⟩
  have hP : va_P D vwCl [(h0, .inr (0, [.ref a_first, .ref a_second, .ref a_ending, .int v_size])), (a_first, .inl (cyI, 30, .inl c_first)), (a_second, .inl (cyI, 30, .inl c_second))] H := by rw [hH]; exact hP
  have hS : va_S A s.heap H locs := by rw [hH, hlo]; exact hS
  suffices hw : W p l e rmX0_isOf s m av below meth c H locs 0 0 Q (F0 m 0 ls []) by rw [hH, hlo] at hw; exact hw
  refine lv_aload_n hx hb dX0_isOf_0 rfl (lv_at hl 0 rfl) ?_
  refine lv_iload_n hx hb dX0_isOf_1 rfl (lv_at hl 1 rfl) ?_
  obtain ⟨q2, e2, hf⟩ := pb_some hf
  refine cc_i (wc := [(h0, .inr (0, [.ref a_first, .ref a_second, .ref a_ending, .int v_size]))]) (wr := [(a_first, .inl (cyI, 30, .inl c_first)), (a_second, .inl (cyI, 30, .inl c_second))]) (w1 := [(h0, .inr (0, [.ref a_first, .ref a_second, .ref a_ending, .int v_size]))]) (wn := [(h0, .inr (0, [.ref a_first, .ref a_second, .ref a_ending, .int v_size])), (a_first, .inl (cyI, 30, .inl c_first)), (a_second, .inl (cyI, 30, .inl c_second))]) hP hD hS hA [0] [1, 2] [2, 0, 1] rfl rfl rfl (by decide) rfl rfl (va_runV (C := RX0) (As := [.int x1]) (rest := []) ⟨hx, hb, hml, hown, hL⟩ (mX0_has l D cyI cyJ cyB cyS N H.size h0 a_first a_second a_ending v_size x1 q2 e2) (cwV 1 hL (gV (hR23 12 rfl) (hR20 16 rfl) (hR20 17 rfl) (hR1 19 rfl) (hR20 18 rfl)) rfl rfl rfl (by decide +kernel) ⟨Nat.le_of_ble_eq_true rfl, Nat.le_of_ble_eq_true rfl⟩) (PP_preV (ci := 0) (q0 := 0) hP hD hK [0] rfl rfl rfl rfl) rfl rfl hl.1 rfl (lv_room (Nat.le_of_ble_eq_true rfl)) dX0_isOf_2 ⟨Nat.le_of_ble_eq_true rfl, Nat.le_of_ble_eq_true rfl⟩) (fun H locs hP hD hS => ?_)
  refine lv_if_eq (tgt := 32) hx hb dX0_isOf_5 (by decide) (fun c5 => ?_) (fun c5 => ?_)
  · have hf := pif_t c5 hf
    exact hB32 H locs ls hf hP hD hS (lv_sub hl [] rfl)
  · have hf := pif_f c5 hf
    refine lv_aload_n hx hb dX0_isOf_8 rfl (lv_at hl 0 rfl) ?_
    refine va_get (D := D) (ci := 0) (v := .ref a_first) (C := RX0) (T := TX0) (N := 4) hx hb hL inlX0 hown hK.1 hP 0 rfl rfl 0 (by decide) w0 (fun _ h9 => h9) rfl dX0_isOf_9 ?_
    refine lv_iload_n hx hb dX0_isOf_12 rfl (lv_at hl 1 rfl) ?_
    obtain ⟨h13, hf⟩ := pg_some hf
    refine va_iald hx hb hK.1 hP 1 0 rfl rfl h13 dX0_isOf_13 ?_
    refine lv_iload_n hx hb dX0_isOf_14 rfl (lv_at hl 2 rfl) ?_
    refine lv_icmp_eq (tgt := 28) hx hb dX0_isOf_15 (by decide) (fun c15 => ?_) (fun c15 => ?_)
    · have hf := pif_t c15 hf
      exact hB28 H locs ls hf hP hD hS (lv_sub hl [] rfl)
    · have hf := pif_f c15 hf
      refine lv_aload_n hx hb dX0_isOf_18 rfl (lv_at hl 0 rfl) ?_
      refine va_get (D := D) (ci := 0) (v := .ref a_second) (C := RX0) (T := TX0) (N := 4) hx hb hL inlX0 hown hK.1 hP 0 rfl rfl 1 (by decide) w1 (fun _ h9 => h9) rfl dX0_isOf_19 ?_
      refine lv_iload_n hx hb dX0_isOf_22 rfl (lv_at hl 1 rfl) ?_
      obtain ⟨h23, hf⟩ := pg_some hf
      refine va_iald hx hb hK.1 hP 2 0 rfl rfl h23 dX0_isOf_23 ?_
      refine lv_iload_n hx hb dX0_isOf_24 rfl (lv_at hl 2 rfl) ?_
      refine lv_icmp_ne (tgt := 32) hx hb dX0_isOf_25 (by decide) (fun c25 => ?_) (fun c25 => ?_)
      · have hf := pif_f c25 hf
        exact hB32 H locs ls hf hP hD hS (lv_sub hl [] rfl)
      · have hf := pif_t c25 hf
        exact hB28 H locs ls hf hP hD hS (lv_sub hl [] rfl)
abbrev rmX0_openOnes : Room := { frames := 0, cells := 0, slots := 0, locals := 0 }
set_option maxHeartbeats 40000000 in
set_option maxRecDepth 100000 in
theorem mX0_openOnes (l : Launch) (D : va_G) (cyI cyJ cyB cyS : ClassId) (N : Nat) (sz : Nat) (h0 : Nat) (a_ending : Nat) (a_first : Nat) (a_second : Nat) (v_size : Int32) (c_ending : Nat → Int32) (q : Int32) (hf : fX0_openOnes N v_size c_ending = some q) : Met l yX0_openOnes (wS yX0_openOnes cX0_openOnes 3 (some .int)) rmX0_openOnes (va_Pc [.ref h0] (PP D cyI cyJ cyB cyS [(h0, .inr (0, [.ref a_first, .ref a_second, .ref a_ending, .int v_size])), (a_ending, .inl (cyI, 30, .inl c_ending))] sz)) (QI q D [(h0, .inr (0, [.ref a_first, .ref a_second, .ref a_ending, .int v_size])), (a_ending, .inl (cyI, 30, .inl c_ending))] (va_A [(h0, .inr (0, [.ref a_first, .ref a_second, .ref a_ending, .int v_size])), (a_ending, .inl (cyI, 30, .inl c_ending))] sz)) 0 0 (va_A [(h0, .inr (0, [.ref a_first, .ref a_second, .ref a_ending, .int v_size])), (a_ending, .inl (cyI, 30, .inl c_ending))] sz) := by
  refine Met.ofW (cc := cX0_openOnes) (maxL := 3) (ret := (some .int)) (by decide) rfl ?_
  intro p e s m args below meth c s₁ B hml hv
  obtain ⟨rfl, hsz, hP, hK, hD0⟩ := hv
  have hx := B.exec
  have hb := B.bytes
  have hr := B.returns
  have hts := atoms_spec (ws := (wS yX0_openOnes cX0_openOnes 3 (some .int))) B.pre
  have hown : s.vm.findClass RX0 = some m.cls := findClass_of_methodNamed B.named
  have hlocks := B.notSynchronized
  subst hsz
  have hD := hD0.self (sz := s.heap.size)
  refine w_nameQ (fun Q hQ => ?_)
  have hl := lv_entry ([.ref h0] : List Value) (n := 3) (Nat.le_of_ble_eq_true rfl)
  rw [lg_entry_eq]
  generalize (lg_sl ([.ref h0] : List Value) ++ List.replicate (3 - (lg_sl ([.ref h0] : List Value)).length) Slot.unset).toArray = ls at hl ⊢
  have hl : lv_has ls 3 [(0, .ref h0)] := hl
  generalize hAe : va_A [(h0, .inr (0, [.ref a_first, .ref a_second, .ref a_ending, .int v_size])), (a_ending, .inl (cyI, 30, .inl c_ending))] s.heap.size = A at hD hQ
  have hA : ∀ q : Nat, s.heap.size ≤ q → A q := fun q h => by rw [← hAe]; exact Or.inr h
  have hS : va_S A s.heap s.heap [] := va_S.rf
  generalize ([.ref h0] : List Value).toArray = av at hts hQ ⊢
  have hL : ∀ w ∈ wsL_law, w.before av s = true := fun w h => hts w (List.mem_cons_of_mem _ h)
  have w0 := hL (.fieldLink RX0 21 "LosingLeague$Games" "size" "I") (hR16 4 rfl)
  have w1 := hL (.fieldLink RX0 18 "LosingLeague$Games" "ending" "[I") (hR3 7 rfl)
  have hB25 : ∀ (k4 : Int32 → Int32 → Option (Int32)) (hk4 : ∀ (x1 : Int32) (x2 : Int32) (H : Heap) (locs : List Loc) (ls : Array Slot), k4 x1 x2 = some q → va_P D vwCl [(h0, .inr (0, [.ref a_first, .ref a_second, .ref a_ending, .int v_size])), (a_ending, .inl (cyI, 30, .inl c_ending))] H → va_D A [(h0, .inr (0, [.ref a_first, .ref a_second, .ref a_ending, .int v_size])), (a_ending, .inl (cyI, 30, .inl c_ending))] → va_S A s.heap H locs → lv_has ls 3 [(0, .ref h0), (1, .int x1), (2, .int x2)] → W p l e rmX0_openOnes s m av below meth c H locs 0 0 Q (F0 m 4 ls [])), ∀ (x1 : Int32) (x2 : Int32) (H : Heap) (locs : List Loc) (ls : Array Slot), fX0_openOnes_25 N v_size c_ending k4 x1 x2 = some q → va_P D vwCl [(h0, .inr (0, [.ref a_first, .ref a_second, .ref a_ending, .int v_size])), (a_ending, .inl (cyI, 30, .inl c_ending))] H → va_D A [(h0, .inr (0, [.ref a_first, .ref a_second, .ref a_ending, .int v_size])), (a_ending, .inl (cyI, 30, .inl c_ending))] → va_S A s.heap H locs → lv_has ls 3 [(0, .ref h0), (1, .int x1), (2, .int x2)] → W p l e rmX0_openOnes s m av below meth c H locs 0 0 Q (F0 m 25 ls []) := by
    intro k4 hk4 x1 x2 H locs ls hf hP hD hS hl
    unfold fX0_openOnes_25 at hf
    refine lv_iinc (v := x2 + 1) (lv' := [(2, .int (x2 + 1)), (0, .ref h0), (1, .int x1)]) hx hb dX0_openOnes_25 hl (k := 2) rfl rfl (by decide) rfl (fun ls hl => ?_)
    refine lv_goto (tgt := 4) hx hb dX0_openOnes_28 (by decide) ?_
    exact hk4 x1 (x2 + 1) H locs ls hf hP hD hS (lv_sub hl [1, 2, 0] rfl)
  have hB4 : ∀ (n : Nat), ∀ (x1 : Int32) (x2 : Int32) (H : Heap) (locs : List Loc) (ls : Array Slot), fX0_openOnes_4 N v_size c_ending n x1 x2 = some q → va_P D vwCl [(h0, .inr (0, [.ref a_first, .ref a_second, .ref a_ending, .int v_size])), (a_ending, .inl (cyI, 30, .inl c_ending))] H → va_D A [(h0, .inr (0, [.ref a_first, .ref a_second, .ref a_ending, .int v_size])), (a_ending, .inl (cyI, 30, .inl c_ending))] → va_S A s.heap H locs → lv_has ls 3 [(0, .ref h0), (1, .int x1), (2, .int x2)] → W p l e rmX0_openOnes s m av below meth c H locs 0 0 Q (F0 m 4 ls []) := by
    intro n
    induction n with
    | zero => intro x1 x2 H locs ls hf; exact absurd hf (by simp [fX0_openOnes_4])
    | succ n hk4 =>
      intro x1 x2 H locs ls hf hP hD hS hl
      rw [fX0_openOnes_4] at hf
      refine lv_iload_n hx hb dX0_openOnes_4 rfl (lv_at hl 2 rfl) ?_
      refine lv_aload_n hx hb dX0_openOnes_5 rfl (lv_at hl 0 rfl) ?_
      refine va_get (D := D) (ci := 0) (v := .int v_size) (C := RX0) (T := TX0) (N := 4) hx hb hL inlX0 hown hK.1 hP 0 rfl rfl 3 (by decide) w0 (fun _ h9 => h9) rfl dX0_openOnes_6 ?_
      refine lv_icmp_ge (tgt := 31) hx hb dX0_openOnes_9 (by decide) (fun c9 => ?_) (fun c9 => ?_)
      · have hf := pif_t c9 hf
        refine lv_iload_n hx hb dX0_openOnes_31 rfl (lv_at hl 1 rfl) ?_
        exact ret_i (q := q) (g := fun q => q) (wp := fun q => [(h0, .inr (0, [.ref a_first, .ref a_second, .ref a_ending, .int v_size])), (a_ending, .inl (cyI, 30, .inl c_ending))]) hQ hf hx hb hr hlocks hP hD hS dX0_openOnes_32 rfl
      · have hf := pif_f c9 hf
        refine lv_aload_n hx hb dX0_openOnes_12 rfl (lv_at hl 0 rfl) ?_
        refine va_get (D := D) (ci := 0) (v := .ref a_ending) (C := RX0) (T := TX0) (N := 4) hx hb hL inlX0 hown hK.1 hP 0 rfl rfl 2 (by decide) w1 (fun _ h9 => h9) rfl dX0_openOnes_13 ?_
        refine lv_iload_n hx hb dX0_openOnes_16 rfl (lv_at hl 2 rfl) ?_
        obtain ⟨h17, hf⟩ := pg_some hf
        refine va_iald hx hb hK.1 hP 1 0 rfl rfl h17 dX0_openOnes_17 ?_
        refine lv_iconst (v := 2) hx hb dX0_openOnes_18 (by decide) ?_
        refine lv_icmp_ne (tgt := 25) hx hb dX0_openOnes_19 (by decide) (fun c19 => ?_) (fun c19 => ?_)
        · have hf := pif_f c19 hf
          exact hB25 (fX0_openOnes_4 N v_size c_ending n) hk4 x1 x2 H locs ls hf hP hD hS (lv_sub hl [0, 1, 2] rfl)
        · have hf := pif_t c19 hf
          refine lv_iinc (v := x1 + 1) (lv' := [(1, .int (x1 + 1)), (0, .ref h0), (2, .int x2)]) hx hb dX0_openOnes_22 hl (k := 1) rfl rfl (by decide) rfl (fun ls hl => ?_)
          exact hB25 (fX0_openOnes_4 N v_size c_ending n) hk4 (x1 + 1) x2 H locs ls hf hP hD hS (lv_sub hl [1, 0, 2] rfl)
  unfold fX0_openOnes at hf
  obtain ⟨H, hH⟩ : ∃ H : Heap, H = s.heap := ⟨_, rfl⟩
  obtain ⟨locs, hlo⟩ : ∃ locs : List Loc, locs = [] := ⟨_, rfl⟩
  have hP : va_P D vwCl [(h0, .inr (0, [.ref a_first, .ref a_second, .ref a_ending, .int v_size])), (a_ending, .inl (cyI, 30, .inl c_ending))] H := by rw [hH]; exact hP
  have hS : va_S A s.heap H locs := by rw [hH, hlo]; exact hS
  suffices hw : W p l e rmX0_openOnes s m av below meth c H locs 0 0 Q (F0 m 0 ls []) by rw [hH, hlo] at hw; exact hw
  refine lv_iconst (v := 0) hx hb dX0_openOnes_0 (by decide) ?_
  refine lv_istore_n (lv' := [(1, .int 0), (0, .ref h0)]) hx hb dX0_openOnes_1 rfl hl (by decide) rfl (fun ls hl => ?_)
  refine lv_iconst (v := 0) hx hb dX0_openOnes_2 (by decide) ?_
  refine lv_istore_n (lv' := [(2, .int 0), (1, .int 0), (0, .ref h0)]) hx hb dX0_openOnes_3 rfl hl (by decide) rfl (fun ls hl => ?_)
  exact hB4 N 0 0 H locs ls hf hP hD hS (lv_sub hl [2, 1, 0] rfl)
abbrev rmX0_openOf : Room := { frames := 2, cells := 0, slots := 0, locals := 43 }
set_option maxHeartbeats 40000000 in
set_option maxRecDepth 100000 in
theorem mX0_openOf (l : Launch) (D : va_G) (cyI cyJ cyB cyS : ClassId) (N : Nat) (sz : Nat) (h0 : Nat) (a_ending : Nat) (a_first : Nat) (a_second : Nat) (v_size : Int32) (c_ending : Nat → Int32) (c_first : Nat → Int32) (c_second : Nat → Int32) (x1 : Int32) (q : Int32) (hf : fX0_openOf N v_size c_ending c_first c_second x1 = some q) : Met l yX0_openOf (wS yX0_openOf cX0_openOf 4 (some .int)) rmX0_openOf (va_Pc [.ref h0, .int x1] (PP D cyI cyJ cyB cyS [(h0, .inr (0, [.ref a_first, .ref a_second, .ref a_ending, .int v_size])), (a_ending, .inl (cyI, 30, .inl c_ending)), (a_first, .inl (cyI, 30, .inl c_first)), (a_second, .inl (cyI, 30, .inl c_second))] sz)) (QI q D [(h0, .inr (0, [.ref a_first, .ref a_second, .ref a_ending, .int v_size])), (a_ending, .inl (cyI, 30, .inl c_ending)), (a_first, .inl (cyI, 30, .inl c_first)), (a_second, .inl (cyI, 30, .inl c_second))] (va_A [(h0, .inr (0, [.ref a_first, .ref a_second, .ref a_ending, .int v_size])), (a_ending, .inl (cyI, 30, .inl c_ending)), (a_first, .inl (cyI, 30, .inl c_first)), (a_second, .inl (cyI, 30, .inl c_second))] sz)) 0 0 (va_A [(h0, .inr (0, [.ref a_first, .ref a_second, .ref a_ending, .int v_size])), (a_ending, .inl (cyI, 30, .inl c_ending)), (a_first, .inl (cyI, 30, .inl c_first)), (a_second, .inl (cyI, 30, .inl c_second))] sz) := by
  refine Met.ofW (cc := cX0_openOf) (maxL := 4) (ret := (some .int)) (by decide) rfl ?_
  intro p e s m args below meth c s₁ B hml hv
  obtain ⟨rfl, hsz, hP, hK, hD0⟩ := hv
  have hx := B.exec
  have hb := B.bytes
  have hr := B.returns
  have hts := atoms_spec (ws := (wS yX0_openOf cX0_openOf 4 (some .int))) B.pre
  have hown : s.vm.findClass RX0 = some m.cls := findClass_of_methodNamed B.named
  have hlocks := B.notSynchronized
  subst hsz
  have hD := hD0.self (sz := s.heap.size)
  refine w_nameQ (fun Q hQ => ?_)
  have hl := lv_entry ([.ref h0, .int x1] : List Value) (n := 4) (Nat.le_of_ble_eq_true rfl)
  rw [lg_entry_eq]
  generalize (lg_sl ([.ref h0, .int x1] : List Value) ++ List.replicate (4 - (lg_sl ([.ref h0, .int x1] : List Value)).length) Slot.unset).toArray = ls at hl ⊢
  have hl : lv_has ls 4 [(0, .ref h0), (1, .int x1)] := hl
  generalize hAe : va_A [(h0, .inr (0, [.ref a_first, .ref a_second, .ref a_ending, .int v_size])), (a_ending, .inl (cyI, 30, .inl c_ending)), (a_first, .inl (cyI, 30, .inl c_first)), (a_second, .inl (cyI, 30, .inl c_second))] s.heap.size = A at hD hQ
  have hA : ∀ q : Nat, s.heap.size ≤ q → A q := fun q h => by rw [← hAe]; exact Or.inr h
  have hS : va_S A s.heap s.heap [] := va_S.rf
  generalize ([.ref h0, .int x1] : List Value).toArray = av at hts hQ ⊢
  have hL : ∀ w ∈ wsL_law, w.before av s = true := fun w h => hts w (List.mem_cons_of_mem _ h)
  have w0 := hL (.fieldLink RX0 21 "LosingLeague$Games" "size" "I") (hR16 4 rfl)
  have w1 := hL (.fieldLink RX0 18 "LosingLeague$Games" "ending" "[I") (hR3 7 rfl)
  have hB34 : ∀ (k4 : Int32 → Int32 → Option (Int32)) (hk4 : ∀ (x2 : Int32) (x3 : Int32) (H : Heap) (locs : List Loc) (ls : Array Slot), k4 x2 x3 = some q → va_P D vwCl [(h0, .inr (0, [.ref a_first, .ref a_second, .ref a_ending, .int v_size])), (a_ending, .inl (cyI, 30, .inl c_ending)), (a_first, .inl (cyI, 30, .inl c_first)), (a_second, .inl (cyI, 30, .inl c_second))] H → va_D A [(h0, .inr (0, [.ref a_first, .ref a_second, .ref a_ending, .int v_size])), (a_ending, .inl (cyI, 30, .inl c_ending)), (a_first, .inl (cyI, 30, .inl c_first)), (a_second, .inl (cyI, 30, .inl c_second))] → va_S A s.heap H locs → lv_has ls 4 [(0, .ref h0), (1, .int x1), (2, .int x2), (3, .int x3)] → W p l e rmX0_openOf s m av below meth c H locs 0 0 Q (F0 m 4 ls [])), ∀ (x2 : Int32) (x3 : Int32) (H : Heap) (locs : List Loc) (ls : Array Slot), fX0_openOf_34 N v_size c_ending c_first c_second x1 k4 x2 x3 = some q → va_P D vwCl [(h0, .inr (0, [.ref a_first, .ref a_second, .ref a_ending, .int v_size])), (a_ending, .inl (cyI, 30, .inl c_ending)), (a_first, .inl (cyI, 30, .inl c_first)), (a_second, .inl (cyI, 30, .inl c_second))] H → va_D A [(h0, .inr (0, [.ref a_first, .ref a_second, .ref a_ending, .int v_size])), (a_ending, .inl (cyI, 30, .inl c_ending)), (a_first, .inl (cyI, 30, .inl c_first)), (a_second, .inl (cyI, 30, .inl c_second))] → va_S A s.heap H locs → lv_has ls 4 [(0, .ref h0), (1, .int x1), (2, .int x2), (3, .int x3)] → W p l e rmX0_openOf s m av below meth c H locs 0 0 Q (F0 m 34 ls []) := by
    intro k4 hk4 x2 x3 H locs ls hf hP hD hS hl
    unfold fX0_openOf_34 at hf
    refine lv_iinc (v := x3 + 1) (lv' := [(3, .int (x3 + 1)), (0, .ref h0), (1, .int x1), (2, .int x2)]) hx hb dX0_openOf_34 hl (k := 3) rfl rfl (by decide) rfl (fun ls hl => ?_)
    refine lv_goto (tgt := 4) hx hb dX0_openOf_37 (by decide) ?_
    exact hk4 x2 (x3 + 1) H locs ls hf hP hD hS (lv_sub hl [1, 2, 3, 0] rfl)
  have hB4 : ∀ (n : Nat), ∀ (x2 : Int32) (x3 : Int32) (H : Heap) (locs : List Loc) (ls : Array Slot), fX0_openOf_4 N v_size c_ending c_first c_second x1 n x2 x3 = some q → va_P D vwCl [(h0, .inr (0, [.ref a_first, .ref a_second, .ref a_ending, .int v_size])), (a_ending, .inl (cyI, 30, .inl c_ending)), (a_first, .inl (cyI, 30, .inl c_first)), (a_second, .inl (cyI, 30, .inl c_second))] H → va_D A [(h0, .inr (0, [.ref a_first, .ref a_second, .ref a_ending, .int v_size])), (a_ending, .inl (cyI, 30, .inl c_ending)), (a_first, .inl (cyI, 30, .inl c_first)), (a_second, .inl (cyI, 30, .inl c_second))] → va_S A s.heap H locs → lv_has ls 4 [(0, .ref h0), (1, .int x1), (2, .int x2), (3, .int x3)] → W p l e rmX0_openOf s m av below meth c H locs 0 0 Q (F0 m 4 ls []) := by
    intro n
    induction n with
    | zero => intro x2 x3 H locs ls hf; exact absurd hf (by simp [fX0_openOf_4])
    | succ n hk4 =>
      intro x2 x3 H locs ls hf hP hD hS hl
      rw [fX0_openOf_4] at hf
      refine lv_iload_n hx hb dX0_openOf_4 rfl (lv_at hl 3 rfl) ?_
      refine lv_aload_n hx hb dX0_openOf_5 rfl (lv_at hl 0 rfl) ?_
      refine va_get (D := D) (ci := 0) (v := .int v_size) (C := RX0) (T := TX0) (N := 4) hx hb hL inlX0 hown hK.1 hP 0 rfl rfl 3 (by decide) w0 (fun _ h9 => h9) rfl dX0_openOf_6 ?_
      refine lv_icmp_ge (tgt := 40) hx hb dX0_openOf_9 (by decide) (fun c9 => ?_) (fun c9 => ?_)
      · have hf := pif_t c9 hf
        refine lv_iload_n hx hb dX0_openOf_40 rfl (lv_at hl 2 rfl) ?_
        exact ret_i (q := q) (g := fun q => q) (wp := fun q => [(h0, .inr (0, [.ref a_first, .ref a_second, .ref a_ending, .int v_size])), (a_ending, .inl (cyI, 30, .inl c_ending)), (a_first, .inl (cyI, 30, .inl c_first)), (a_second, .inl (cyI, 30, .inl c_second))]) hQ hf hx hb hr hlocks hP hD hS dX0_openOf_41 rfl
      · have hf := pif_f c9 hf
        refine lv_aload_n hx hb dX0_openOf_12 rfl (lv_at hl 0 rfl) ?_
        refine va_get (D := D) (ci := 0) (v := .ref a_ending) (C := RX0) (T := TX0) (N := 4) hx hb hL inlX0 hown hK.1 hP 0 rfl rfl 2 (by decide) w1 (fun _ h9 => h9) rfl dX0_openOf_13 ?_
        refine lv_iload_n hx hb dX0_openOf_16 rfl (lv_at hl 3 rfl) ?_
        obtain ⟨h17, hf⟩ := pg_some hf
        refine va_iald hx hb hK.1 hP 1 0 rfl rfl h17 dX0_openOf_17 ?_
        refine lv_iconst (v := 2) hx hb dX0_openOf_18 (by decide) ?_
        refine lv_icmp_ne (tgt := 34) hx hb dX0_openOf_19 (by decide) (fun c19 => ?_) (fun c19 => ?_)
        · have hf := pif_f c19 hf
          exact hB34 (fX0_openOf_4 N v_size c_ending c_first c_second x1 n) hk4 x2 x3 H locs ls hf hP hD hS (lv_sub hl [0, 1, 2, 3] rfl)
        · have hf := pif_t c19 hf
          refine lv_aload_n hx hb dX0_openOf_22 rfl (lv_at hl 0 rfl) ?_
          refine lv_iload_n hx hb dX0_openOf_23 rfl (lv_at hl 3 rfl) ?_
          refine lv_iload_n hx hb dX0_openOf_24 rfl (lv_at hl 1 rfl) ?_
          obtain ⟨q25, e25, hf⟩ := pb_some hf
          refine cc_i (wc := [(h0, .inr (0, [.ref a_first, .ref a_second, .ref a_ending, .int v_size])), (a_first, .inl (cyI, 30, .inl c_first)), (a_second, .inl (cyI, 30, .inl c_second))]) (wr := [(a_ending, .inl (cyI, 30, .inl c_ending))]) (w1 := [(h0, .inr (0, [.ref a_first, .ref a_second, .ref a_ending, .int v_size])), (a_first, .inl (cyI, 30, .inl c_first)), (a_second, .inl (cyI, 30, .inl c_second))]) (wn := [(h0, .inr (0, [.ref a_first, .ref a_second, .ref a_ending, .int v_size])), (a_ending, .inl (cyI, 30, .inl c_ending)), (a_first, .inl (cyI, 30, .inl c_first)), (a_second, .inl (cyI, 30, .inl c_second))]) hP hD hS hA [0, 2, 3] [1] [1, 0, 2, 3] rfl rfl rfl (by decide) rfl rfl (va_runV (C := RX0) (As := [.int x3, .int x1]) (rest := []) ⟨hx, hb, hml, hown, hL⟩ (mX0_isOf l D cyI cyJ cyB cyS N H.size h0 a_first a_second a_ending v_size c_first c_second x3 x1 q25 e25) (cwV 2 hL (gV (hR23 8 rfl) (hR23 9 rfl) (hR23 10 rfl) (hR1 19 rfl) (hR23 11 rfl)) rfl rfl rfl (by decide +kernel) ⟨Nat.le_of_ble_eq_true rfl, Nat.le_of_ble_eq_true rfl⟩) (PP_preV (ci := 0) (q0 := 0) hP hD hK [0, 2, 3] rfl rfl rfl rfl) rfl rfl hl.1 rfl (lv_room (Nat.le_of_ble_eq_true rfl)) dX0_openOf_25 ⟨Nat.le_of_ble_eq_true rfl, Nat.le_of_ble_eq_true rfl⟩) (fun H locs hP hD hS => ?_)
          refine lv_if_eq (tgt := 34) hx hb dX0_openOf_28 (by decide) (fun c28 => ?_) (fun c28 => ?_)
          · have hf := pif_t c28 hf
            exact hB34 (fX0_openOf_4 N v_size c_ending c_first c_second x1 n) hk4 x2 x3 H locs ls hf hP hD hS (lv_sub hl [0, 1, 2, 3] rfl)
          · have hf := pif_f c28 hf
            refine lv_iinc (v := x2 + 1) (lv' := [(2, .int (x2 + 1)), (0, .ref h0), (1, .int x1), (3, .int x3)]) hx hb dX0_openOf_31 hl (k := 2) rfl rfl (by decide) rfl (fun ls hl => ?_)
            exact hB34 (fX0_openOf_4 N v_size c_ending c_first c_second x1 n) hk4 (x2 + 1) x3 H locs ls hf hP hD hS (lv_sub hl [1, 2, 0, 3] rfl)
  unfold fX0_openOf at hf
  obtain ⟨H, hH⟩ : ∃ H : Heap, H = s.heap := ⟨_, rfl⟩
  obtain ⟨locs, hlo⟩ : ∃ locs : List Loc, locs = [] := ⟨_, rfl⟩
  have hP : va_P D vwCl [(h0, .inr (0, [.ref a_first, .ref a_second, .ref a_ending, .int v_size])), (a_ending, .inl (cyI, 30, .inl c_ending)), (a_first, .inl (cyI, 30, .inl c_first)), (a_second, .inl (cyI, 30, .inl c_second))] H := by rw [hH]; exact hP
  have hS : va_S A s.heap H locs := by rw [hH, hlo]; exact hS
  suffices hw : W p l e rmX0_openOf s m av below meth c H locs 0 0 Q (F0 m 0 ls []) by rw [hH, hlo] at hw; exact hw
  refine lv_iconst (v := 0) hx hb dX0_openOf_0 (by decide) ?_
  refine lv_istore_n (lv' := [(2, .int 0), (0, .ref h0), (1, .int x1)]) hx hb dX0_openOf_1 rfl hl (by decide) rfl (fun ls hl => ?_)
  refine lv_iconst (v := 0) hx hb dX0_openOf_2 (by decide) ?_
  refine lv_istore_n (lv' := [(3, .int 0), (2, .int 0), (0, .ref h0), (1, .int x1)]) hx hb dX0_openOf_3 rfl hl (by decide) rfl (fun ls hl => ?_)
  exact hB4 N 0 0 H locs ls hf hP hD hS (lv_sub hl [2, 3, 1, 0] rfl)
abbrev rmX0_winner : Room := { frames := 0, cells := 0, slots := 0, locals := 0 }
set_option maxHeartbeats 40000000 in
set_option maxRecDepth 100000 in
theorem mX0_winner (l : Launch) (D : va_G) (cyI cyJ cyB cyS : ClassId) (N : Nat) (sz : Nat) (h0 : Nat) (a_ending : Nat) (a_first : Nat) (a_second : Nat) (v_size : Int32) (c_ending : Nat → Int32) (c_first : Nat → Int32) (c_second : Nat → Int32) (x1 : Int32) (q : Int32) (hf : fX0_winner N c_ending c_first c_second x1 = some q) : Met l yX0_winner (wS yX0_winner cX0_winner 2 (some .int)) rmX0_winner (va_Pc [.ref h0, .int x1] (PP D cyI cyJ cyB cyS [(h0, .inr (0, [.ref a_first, .ref a_second, .ref a_ending, .int v_size])), (a_ending, .inl (cyI, 30, .inl c_ending)), (a_first, .inl (cyI, 30, .inl c_first)), (a_second, .inl (cyI, 30, .inl c_second))] sz)) (QI q D [(h0, .inr (0, [.ref a_first, .ref a_second, .ref a_ending, .int v_size])), (a_ending, .inl (cyI, 30, .inl c_ending)), (a_first, .inl (cyI, 30, .inl c_first)), (a_second, .inl (cyI, 30, .inl c_second))] (va_A [(h0, .inr (0, [.ref a_first, .ref a_second, .ref a_ending, .int v_size])), (a_ending, .inl (cyI, 30, .inl c_ending)), (a_first, .inl (cyI, 30, .inl c_first)), (a_second, .inl (cyI, 30, .inl c_second))] sz)) 0 0 (va_A [(h0, .inr (0, [.ref a_first, .ref a_second, .ref a_ending, .int v_size])), (a_ending, .inl (cyI, 30, .inl c_ending)), (a_first, .inl (cyI, 30, .inl c_first)), (a_second, .inl (cyI, 30, .inl c_second))] sz) := by
  refine Met.ofW (cc := cX0_winner) (maxL := 2) (ret := (some .int)) (by decide) rfl ?_
  intro p e s m args below meth c s₁ B hml hv
  obtain ⟨rfl, hsz, hP, hK, hD0⟩ := hv
  have hx := B.exec
  have hb := B.bytes
  have hr := B.returns
  have hts := atoms_spec (ws := (wS yX0_winner cX0_winner 2 (some .int))) B.pre
  have hown : s.vm.findClass RX0 = some m.cls := findClass_of_methodNamed B.named
  have hlocks := B.notSynchronized
  subst hsz
  have hD := hD0.self (sz := s.heap.size)
  refine w_nameQ (fun Q hQ => ?_)
  have hl := lv_entry ([.ref h0, .int x1] : List Value) (n := 2) (Nat.le_of_ble_eq_true rfl)
  rw [lg_entry_eq]
  generalize (lg_sl ([.ref h0, .int x1] : List Value) ++ List.replicate (2 - (lg_sl ([.ref h0, .int x1] : List Value)).length) Slot.unset).toArray = ls at hl ⊢
  have hl : lv_has ls 2 [(0, .ref h0), (1, .int x1)] := hl
  generalize hAe : va_A [(h0, .inr (0, [.ref a_first, .ref a_second, .ref a_ending, .int v_size])), (a_ending, .inl (cyI, 30, .inl c_ending)), (a_first, .inl (cyI, 30, .inl c_first)), (a_second, .inl (cyI, 30, .inl c_second))] s.heap.size = A at hD hQ
  have hA : ∀ q : Nat, s.heap.size ≤ q → A q := fun q h => by rw [← hAe]; exact Or.inr h
  have hS : va_S A s.heap s.heap [] := va_S.rf
  generalize ([.ref h0, .int x1] : List Value).toArray = av at hts hQ ⊢
  have hL : ∀ w ∈ wsL_law, w.before av s = true := fun w h => hts w (List.mem_cons_of_mem _ h)
  have w0 := hL (.fieldLink RX0 18 "LosingLeague$Games" "ending" "[I") (hR3 7 rfl)
  have w1 := hL (.fieldLink RX0 15 "LosingLeague$Games" "second" "[I") (hR3 6 rfl)
  have w2 := hL (.fieldLink RX0 9 "LosingLeague$Games" "first" "[I") (hR3 5 rfl)
  have hB24 : ∀ (s0 : Int32) (H : Heap) (locs : List Loc) (ls : Array Slot), fX0_winner_24 N c_ending c_first c_second x1 s0 = some q → va_P D vwCl [(h0, .inr (0, [.ref a_first, .ref a_second, .ref a_ending, .int v_size])), (a_ending, .inl (cyI, 30, .inl c_ending)), (a_first, .inl (cyI, 30, .inl c_first)), (a_second, .inl (cyI, 30, .inl c_second))] H → va_D A [(h0, .inr (0, [.ref a_first, .ref a_second, .ref a_ending, .int v_size])), (a_ending, .inl (cyI, 30, .inl c_ending)), (a_first, .inl (cyI, 30, .inl c_first)), (a_second, .inl (cyI, 30, .inl c_second))] → va_S A s.heap H locs → lv_has ls 2 [] → W p l e rmX0_winner s m av below meth c H locs 0 0 Q (F0 m 24 ls [.int s0]) := by
    intro s0 H locs ls hf hP hD hS hl
    unfold fX0_winner_24 at hf
    exact ret_i (q := q) (g := fun q => q) (wp := fun q => [(h0, .inr (0, [.ref a_first, .ref a_second, .ref a_ending, .int v_size])), (a_ending, .inl (cyI, 30, .inl c_ending)), (a_first, .inl (cyI, 30, .inl c_first)), (a_second, .inl (cyI, 30, .inl c_second))]) hQ hf hx hb hr hlocks hP hD hS dX0_winner_24 rfl
  unfold fX0_winner at hf
  obtain ⟨H, hH⟩ : ∃ H : Heap, H = s.heap := ⟨_, rfl⟩
  obtain ⟨locs, hlo⟩ : ∃ locs : List Loc, locs = [] := ⟨_, rfl⟩
  have hP : va_P D vwCl [(h0, .inr (0, [.ref a_first, .ref a_second, .ref a_ending, .int v_size])), (a_ending, .inl (cyI, 30, .inl c_ending)), (a_first, .inl (cyI, 30, .inl c_first)), (a_second, .inl (cyI, 30, .inl c_second))] H := by rw [hH]; exact hP
  have hS : va_S A s.heap H locs := by rw [hH, hlo]; exact hS
  suffices hw : W p l e rmX0_winner s m av below meth c H locs 0 0 Q (F0 m 0 ls []) by rw [hH, hlo] at hw; exact hw
  refine lv_aload_n hx hb dX0_winner_0 rfl (lv_at hl 0 rfl) ?_
  refine va_get (D := D) (ci := 0) (v := .ref a_ending) (C := RX0) (T := TX0) (N := 4) hx hb hL inlX0 hown hK.1 hP 0 rfl rfl 2 (by decide) w0 (fun _ h9 => h9) rfl dX0_winner_1 ?_
  refine lv_iload_n hx hb dX0_winner_4 rfl (lv_at hl 1 rfl) ?_
  obtain ⟨h5, hf⟩ := pg_some hf
  refine va_iald hx hb hK.1 hP 1 0 rfl rfl h5 dX0_winner_5 ?_
  refine lv_if_ne (tgt := 18) hx hb dX0_winner_6 (by decide) (fun c6 => ?_) (fun c6 => ?_)
  · have hf := pif_f c6 hf
    refine lv_aload_n hx hb dX0_winner_18 rfl (lv_at hl 0 rfl) ?_
    refine va_get (D := D) (ci := 0) (v := .ref a_second) (C := RX0) (T := TX0) (N := 4) hx hb hL inlX0 hown hK.1 hP 0 rfl rfl 1 (by decide) w1 (fun _ h9 => h9) rfl dX0_winner_19 ?_
    refine lv_iload_n hx hb dX0_winner_22 rfl (lv_at hl 1 rfl) ?_
    obtain ⟨h23, hf⟩ := pg_some hf
    refine va_iald hx hb hK.1 hP 3 0 rfl rfl h23 dX0_winner_23 ?_
    exact hB24 (c_second x1.toNatClampNeg) H locs ls hf hP hD hS (lv_sub hl [] rfl)
  · have hf := pif_t c6 hf
    refine lv_aload_n hx hb dX0_winner_9 rfl (lv_at hl 0 rfl) ?_
    refine va_get (D := D) (ci := 0) (v := .ref a_first) (C := RX0) (T := TX0) (N := 4) hx hb hL inlX0 hown hK.1 hP 0 rfl rfl 0 (by decide) w2 (fun _ h9 => h9) rfl dX0_winner_10 ?_
    refine lv_iload_n hx hb dX0_winner_13 rfl (lv_at hl 1 rfl) ?_
    obtain ⟨h14, hf⟩ := pg_some hf
    refine va_iald hx hb hK.1 hP 2 0 rfl rfl h14 dX0_winner_14 ?_
    refine lv_goto (tgt := 24) hx hb dX0_winner_15 (by decide) ?_
    exact hB24 (c_first x1.toNatClampNeg) H locs ls hf hP hD hS (lv_sub hl [] rfl)
