abbrev rmX5_put : Room := { frames := 0, cells := 0, slots := 0, locals := 0 }
set_option maxHeartbeats 40000000 in
set_option maxRecDepth 100000 in
theorem mX5_put (l : Launch) (D : va_G) (cyI cyJ cyB cyS : ClassId) (N : Nat) (sz : Nat) (h0 : Nat) (a_bytes : Nat) (a_token : Nat) (a_start : Nat) (a_meaning : Nat) (v_length : Int32) (v_next : Int32) (c_bytes : Nat → Int32) (x1 : Int64) (q : Int32 × (Nat → Int32)) (hf : fX5_put N v_length c_bytes x1 = some q) : Met l yX5_put (wS yX5_put cX5_put 4 none) rmX5_put (va_Pc [.ref h0, .long x1] (PP D cyI cyJ cyB cyS [(h0, .inr (5, [.ref a_token, .ref a_start, .ref a_meaning, .int v_length, .ref a_bytes, .int v_next])), (a_bytes, .inl (cyB, 240, .inl c_bytes))] sz)) (QV D [(h0, .inr (5, [.ref a_token, .ref a_start, .ref a_meaning, .int q.1, .ref a_bytes, .int v_next])), (a_bytes, .inl (cyB, 240, .inl q.2))] (va_A [(h0, .inr (5, [.ref a_token, .ref a_start, .ref a_meaning, .int v_length, .ref a_bytes, .int v_next])), (a_bytes, .inl (cyB, 240, .inl c_bytes))] sz)) 0 0 (va_A [(h0, .inr (5, [.ref a_token, .ref a_start, .ref a_meaning, .int v_length, .ref a_bytes, .int v_next])), (a_bytes, .inl (cyB, 240, .inl c_bytes))] sz) := by
  refine Met.ofW (cc := cX5_put) (maxL := 4) (ret := none) (by decide) rfl ?_
  intro p e s m args below meth c s₁ B hml hv
  obtain ⟨rfl, hsz, hP, hK, hD0⟩ := hv
  have hx := B.exec
  have hb := B.bytes
  have hr := B.returns
  have hts := atoms_spec (ws := (wS yX5_put cX5_put 4 none)) B.pre
  have hown : s.vm.findClass RX5 = some m.cls := findClass_of_methodNamed B.named
  have hlocks := B.notSynchronized
  subst hsz
  have hD := hD0.self (sz := s.heap.size)
  refine w_nameQ (fun Q hQ => ?_)
  have hl := lv_entry ([.ref h0, .long x1] : List Value) (n := 4) (Nat.le_of_ble_eq_true rfl)
  rw [lg_entry_eq]
  generalize (lg_sl ([.ref h0, .long x1] : List Value) ++ List.replicate (4 - (lg_sl ([.ref h0, .long x1] : List Value)).length) Slot.unset).toArray = ls at hl ⊢
  have hl : lv_has ls 4 [(0, .ref h0), (1, .long x1)] := hl
  generalize hAe : va_A [(h0, .inr (5, [.ref a_token, .ref a_start, .ref a_meaning, .int v_length, .ref a_bytes, .int v_next])), (a_bytes, .inl (cyB, 240, .inl c_bytes))] s.heap.size = A at hD hQ
  have hA : ∀ q : Nat, s.heap.size ≤ q → A q := fun q h => by rw [← hAe]; exact Or.inr h
  have hS : va_S A s.heap s.heap [] := va_S.rf
  generalize ([.ref h0, .long x1] : List Value).toArray = av at hts hQ ⊢
  have hL : ∀ w ∈ wsL_law, w.before av s = true := fun w h => hts w (List.mem_cons_of_mem _ h)
  have w0 := hL (.fieldLink RX5 25 "LosingLeague$Tape" "length" "I") (hR7 17 rfl)
  have w1 := hL (.fieldLink RX5 21 "LosingLeague$Tape" "bytes" "[B") (hR4 11 rfl)
  have hB47 : ∀ (v_length : Int32) (c_bytes : Nat → Int32) (H : Heap) (locs : List Loc) (ls : Array Slot), fX5_put_47 N x1 v_length c_bytes = some q → va_P D vwCl [(h0, .inr (5, [.ref a_token, .ref a_start, .ref a_meaning, .int v_length, .ref a_bytes, .int v_next])), (a_bytes, .inl (cyB, 240, .inl c_bytes))] H → va_D A [(h0, .inr (5, [.ref a_token, .ref a_start, .ref a_meaning, .int v_length, .ref a_bytes, .int v_next])), (a_bytes, .inl (cyB, 240, .inl c_bytes))] → va_S A s.heap H locs → lv_has ls 4 [] → W p l e rmX5_put s m av below meth c H locs 0 0 Q (F0 m 47 ls []) := by
    intro v_length c_bytes H locs ls hf hP hD hS hl
    unfold fX5_put_47 at hf
    exact ret_v (q := q) (wp := fun q => [(h0, .inr (5, [.ref a_token, .ref a_start, .ref a_meaning, .int q.1, .ref a_bytes, .int v_next])), (a_bytes, .inl (cyB, 240, .inl q.2))]) hQ hf hx hb hr hlocks hP hD hS dX5_put_47
  have hB3 : ∀ (n : Nat), ∀ (x3 : Int32) (v_length : Int32) (c_bytes : Nat → Int32) (H : Heap) (locs : List Loc) (ls : Array Slot), fX5_put_3 N x1 n x3 v_length c_bytes = some q → va_P D vwCl [(h0, .inr (5, [.ref a_token, .ref a_start, .ref a_meaning, .int v_length, .ref a_bytes, .int v_next])), (a_bytes, .inl (cyB, 240, .inl c_bytes))] H → va_D A [(h0, .inr (5, [.ref a_token, .ref a_start, .ref a_meaning, .int v_length, .ref a_bytes, .int v_next])), (a_bytes, .inl (cyB, 240, .inl c_bytes))] → va_S A s.heap H locs → lv_has ls 4 [(0, .ref h0), (1, .long x1), (3, .int x3)] → W p l e rmX5_put s m av below meth c H locs 0 0 Q (F0 m 3 ls []) := by
    intro n
    induction n with
    | zero => intro x3 v_length c_bytes H locs ls hf; exact absurd hf (by simp [fX5_put_3])
    | succ n hk3 =>
      intro x3 v_length c_bytes H locs ls hf hP hD hS hl
      rw [fX5_put_3] at hf
      refine lv_iload_n hx hb dX5_put_3 rfl (lv_at hl 2 rfl) ?_
      refine lv_if_lt (tgt := 47) hx hb dX5_put_4 (by decide) (fun c4 => ?_) (fun c4 => ?_)
      · have hf := pif_t c4 hf
        exact hB47 v_length c_bytes H locs ls hf hP hD hS (lv_sub hl [] rfl)
      · have hf := pif_f c4 hf
        refine lv_aload_n hx hb dX5_put_7 rfl (lv_at hl 0 rfl) ?_
        refine va_get (D := D) (ci := 5) (v := .int v_length) (C := RX5) (T := TX5) (N := 6) hx hb hL inlX5 hown hK.1 hP 0 rfl rfl 3 (by decide) w0 (fun _ h9 => h9) rfl dX5_put_8 ?_
        refine lv_sipush (v := 240) hx hb dX5_put_11 (by decide) ?_
        refine lv_icmp_ge (tgt := 47) hx hb dX5_put_14 (by decide) (fun c14 => ?_) (fun c14 => ?_)
        · have hf := pif_t c14 hf
          exact hB47 v_length c_bytes H locs ls hf hP hD hS (lv_sub hl [] rfl)
        · have hf := pif_f c14 hf
          refine lv_aload_n hx hb dX5_put_17 rfl (lv_at hl 0 rfl) ?_
          refine va_get (D := D) (ci := 5) (v := .ref a_bytes) (C := RX5) (T := TX5) (N := 6) hx hb hL inlX5 hown hK.1 hP 0 rfl rfl 4 (by decide) w1 (fun _ h9 => h9) rfl dX5_put_18 ?_
          refine lv_aload_n hx hb dX5_put_21 rfl (lv_at hl 0 rfl) ?_
          refine va_get (D := D) (ci := 5) (v := .int v_length) (C := RX5) (T := TX5) (N := 6) hx hb hL inlX5 hown hK.1 hP 0 rfl rfl 3 (by decide) w0 (fun _ h9 => h9) rfl dX5_put_22 ?_
          refine lv_lload_n hx hb dX5_put_25 rfl (lv_at hl 1 rfl) ?_
          refine lv_iload_n hx hb dX5_put_26 rfl (lv_at hl 2 rfl) ?_
          refine lv_lushr hx hb dX5_put_27 rfl ?_
          refine lv_l2i hx hb dX5_put_28 rfl ?_
          refine lv_i2b hx hb dX5_put_29 rfl ?_
          obtain ⟨h30, hf⟩ := pg_some hf
          refine va_bast hx hb hK.1 hP hD hS 1 2 rfl rfl h30 dX5_put_30 (fun H locs hP hD hS => ?_)
          have hP : va_P D vwCl [(h0, .inr (5, [.ref a_token, .ref a_start, .ref a_meaning, .int v_length, .ref a_bytes, .int v_next])), (a_bytes, .inl (cyB, 240, .inl (upd c_bytes v_length.toNatClampNeg (vp_nar .byte ((((x1.toUInt64 >>> ((x3 : Int32).toInt64.toUInt64 &&& Int64.toUInt64 63)).toInt64 : Int64).toInt32 : Int32).toInt8.toInt32)))))] H := hP
          have hD : va_D A [(h0, .inr (5, [.ref a_token, .ref a_start, .ref a_meaning, .int v_length, .ref a_bytes, .int v_next])), (a_bytes, .inl (cyB, 240, .inl (upd c_bytes v_length.toNatClampNeg (vp_nar .byte ((((x1.toUInt64 >>> ((x3 : Int32).toInt64.toUInt64 &&& Int64.toUInt64 63)).toInt64 : Int64).toInt32 : Int32).toInt8.toInt32)))))] := hD
          refine lv_aload_n hx hb dX5_put_31 rfl (lv_at hl 0 rfl) ?_
          refine lv_dup hx hb dX5_put_32 rfl ?_
          refine va_get (D := D) (ci := 5) (v := .int v_length) (C := RX5) (T := TX5) (N := 6) hx hb hL inlX5 hown hK.1 hP 0 rfl rfl 3 (by decide) w0 (fun _ h9 => h9) rfl dX5_put_33 ?_
          refine lv_iconst (v := 1) hx hb dX5_put_36 (by decide) ?_
          refine lv_iadd hx hb dX5_put_37 ?_
          refine va_put (D := D) (ci := 5) (v := .int (v_length + 1)) (ty := .int) (C := RX5) (T := TX5) (N := 6) hx hb hL inlX5 tyX5 tyX5_ok nmX5 hown hK.1 hP hD hS 0 rfl rfl 3 (by decide) w0 (fun _ h9 => h9) rfl (by decide +kernel) rfl rfl (Nat.le_of_ble_eq_true rfl) dX5_put_38 (fun H locs hP hD hS => ?_)
          have hP : va_P D vwCl [(h0, .inr (5, [.ref a_token, .ref a_start, .ref a_meaning, .int (v_length + 1), .ref a_bytes, .int v_next])), (a_bytes, .inl (cyB, 240, .inl (upd c_bytes v_length.toNatClampNeg (vp_nar .byte ((((x1.toUInt64 >>> ((x3 : Int32).toInt64.toUInt64 &&& Int64.toUInt64 63)).toInt64 : Int64).toInt32 : Int32).toInt8.toInt32)))))] H := hP
          have hD : va_D A [(h0, .inr (5, [.ref a_token, .ref a_start, .ref a_meaning, .int (v_length + 1), .ref a_bytes, .int v_next])), (a_bytes, .inl (cyB, 240, .inl (upd c_bytes v_length.toNatClampNeg (vp_nar .byte ((((x1.toUInt64 >>> ((x3 : Int32).toInt64.toUInt64 &&& Int64.toUInt64 63)).toInt64 : Int64).toInt32 : Int32).toInt8.toInt32)))))] := hD
          refine lv_iinc (v := x3 + (-8)) (lv' := [(3, .int (x3 + (-8))), (0, .ref h0), (1, .long x1)]) hx hb dX5_put_41 hl (k := 2) rfl rfl (by decide) rfl (fun ls hl => ?_)
          refine lv_goto (tgt := 3) hx hb dX5_put_44 (by decide) ?_
          exact hk3 (x3 + (-8)) (v_length + 1) (upd c_bytes v_length.toNatClampNeg (vp_nar .byte ((((x1.toUInt64 >>> ((x3 : Int32).toInt64.toUInt64 &&& Int64.toUInt64 63)).toInt64 : Int64).toInt32 : Int32).toInt8.toInt32))) H locs ls hf hP hD hS (lv_sub hl [1, 2, 0] rfl)
  unfold fX5_put at hf
  obtain ⟨H, hH⟩ : ∃ H : Heap, H = s.heap := ⟨_, rfl⟩
  obtain ⟨locs, hlo⟩ : ∃ locs : List Loc, locs = [] := ⟨_, rfl⟩
  have hP : va_P D vwCl [(h0, .inr (5, [.ref a_token, .ref a_start, .ref a_meaning, .int v_length, .ref a_bytes, .int v_next])), (a_bytes, .inl (cyB, 240, .inl c_bytes))] H := by rw [hH]; exact hP
  have hS : va_S A s.heap H locs := by rw [hH, hlo]; exact hS
  suffices hw : W p l e rmX5_put s m av below meth c H locs 0 0 Q (F0 m 0 ls []) by rw [hH, hlo] at hw; exact hw
  refine lv_bipush (v := 56) hx hb dX5_put_0 (by decide) ?_
  refine lv_istore_n (lv' := [(3, .int 56), (0, .ref h0), (1, .long x1)]) hx hb dX5_put_2 rfl hl (by decide) rfl (fun ls hl => ?_)
  exact hB3 N 56 v_length c_bytes H locs ls hf hP hD hS (lv_sub hl [1, 2, 0] rfl)
abbrev rmX5_isLetter : Room := { frames := 0, cells := 0, slots := 0, locals := 0 }
set_option maxHeartbeats 40000000 in
set_option maxRecDepth 100000 in
theorem mX5_isLetter (l : Launch) (D : va_G) (cyI cyJ cyB cyS : ClassId) (N : Nat) (sz : Nat)  (x0 : Int32) (q : Int32) (hf : fX5_isLetter N x0 = some q) : Met l yX5_isLetter (wS yX5_isLetter cX5_isLetter 1 (some .boolean)) rmX5_isLetter (va_Pc [.int x0] (PP D cyI cyJ cyB cyS [] sz)) (QI q D [] (va_A [] sz)) 0 0 (va_A [] sz) := by
  refine Met.ofW (cc := cX5_isLetter) (maxL := 1) (ret := (some .boolean)) (by decide) rfl ?_
  intro p e s m args below meth c s₁ B hml hv
  obtain ⟨rfl, hsz, hP, hK, hD0⟩ := hv
  have hx := B.exec
  have hb := B.bytes
  have hr := B.returns
  have hts := atoms_spec (ws := (wS yX5_isLetter cX5_isLetter 1 (some .boolean))) B.pre
  have hown : s.vm.findClass RX5 = some m.cls := findClass_of_methodNamed B.named
  have hlocks := B.notSynchronized
  subst hsz
  have hD := hD0.self (sz := s.heap.size)
  refine w_nameQ (fun Q hQ => ?_)
  have hl := lv_entry ([.int x0] : List Value) (n := 1) (Nat.le_of_ble_eq_true rfl)
  rw [lg_entry_eq]
  generalize (lg_sl ([.int x0] : List Value) ++ List.replicate (1 - (lg_sl ([.int x0] : List Value)).length) Slot.unset).toArray = ls at hl ⊢
  have hl : lv_has ls 1 [(0, .int x0)] := hl
  generalize hAe : va_A [] s.heap.size = A at hD hQ
  have hA : ∀ q : Nat, s.heap.size ≤ q → A q := fun q h => by rw [← hAe]; exact Or.inr h
  have hS : va_S A s.heap s.heap [] := va_S.rf
  generalize ([.int x0] : List Value).toArray = av at hts hQ ⊢
  have hL : ∀ w ∈ wsL_law, w.before av s = true := fun w h => hts w (List.mem_cons_of_mem _ h)
  have hB17 : ∀ (s0 : Int32) (H : Heap) (locs : List Loc) (ls : Array Slot), fX5_isLetter_17 N x0 s0 = some q → va_P D vwCl [] H → va_D A [] → va_S A s.heap H locs → lv_has ls 1 [] → W p l e rmX5_isLetter s m av below meth c H locs 0 0 Q (F0 m 17 ls [.int s0]) := by
    intro s0 H locs ls hf hP hD hS hl
    unfold fX5_isLetter_17 at hf
    obtain ⟨n17, hf⟩ := pg_some hf
    exact ret_z (q := q) (g := fun q => q) (wp := fun q => []) hQ hf hx hb hr hlocks (isB_n n17) hP hD hS dX5_isLetter_17 rfl
  have hB16 : ∀ (H : Heap) (locs : List Loc) (ls : Array Slot), fX5_isLetter_16 N x0 = some q → va_P D vwCl [] H → va_D A [] → va_S A s.heap H locs → lv_has ls 1 [] → W p l e rmX5_isLetter s m av below meth c H locs 0 0 Q (F0 m 16 ls []) := by
    intro  H locs ls hf hP hD hS hl
    unfold fX5_isLetter_16 at hf
    refine lv_iconst (v := 0) hx hb dX5_isLetter_16 (by decide) ?_
    exact hB17 0 H locs ls hf hP hD hS (lv_sub hl [] rfl)
  unfold fX5_isLetter at hf
  obtain ⟨H, hH⟩ : ∃ H : Heap, H = s.heap := ⟨_, rfl⟩
  obtain ⟨locs, hlo⟩ : ∃ locs : List Loc, locs = [] := ⟨_, rfl⟩
  have hP : va_P D vwCl [] H := by rw [hH]; exact hP
  have hS : va_S A s.heap H locs := by rw [hH, hlo]; exact hS
  suffices hw : W p l e rmX5_isLetter s m av below meth c H locs 0 0 Q (F0 m 0 ls []) by rw [hH, hlo] at hw; exact hw
  refine lv_iload_n hx hb dX5_isLetter_0 rfl (lv_at hl 0 rfl) ?_
  refine lv_bipush (v := 97) hx hb dX5_isLetter_1 (by decide) ?_
  refine lv_icmp_lt (tgt := 16) hx hb dX5_isLetter_3 (by decide) (fun c3 => ?_) (fun c3 => ?_)
  · have hf := pif_t c3 hf
    exact hB16 H locs ls hf hP hD hS (lv_sub hl [] rfl)
  · have hf := pif_f c3 hf
    refine lv_iload_n hx hb dX5_isLetter_6 rfl (lv_at hl 0 rfl) ?_
    refine lv_bipush (v := 122) hx hb dX5_isLetter_7 (by decide) ?_
    refine lv_icmp_gt (tgt := 16) hx hb dX5_isLetter_9 (by decide) (fun c9 => ?_) (fun c9 => ?_)
    · have hf := pif_t c9 hf
      exact hB16 H locs ls hf hP hD hS (lv_sub hl [] rfl)
    · have hf := pif_f c9 hf
      refine lv_iconst (v := 1) hx hb dX5_isLetter_12 (by decide) ?_
      refine lv_goto (tgt := 17) hx hb dX5_isLetter_13 (by decide) ?_
      exact hB17 1 H locs ls hf hP hD hS (lv_sub hl [] rfl)
abbrev rmX5_isFigure : Room := { frames := 0, cells := 0, slots := 0, locals := 0 }
set_option maxHeartbeats 40000000 in
set_option maxRecDepth 100000 in
theorem mX5_isFigure (l : Launch) (D : va_G) (cyI cyJ cyB cyS : ClassId) (N : Nat) (sz : Nat)  (x0 : Int32) (q : Int32) (hf : fX5_isFigure N x0 = some q) : Met l yX5_isFigure (wS yX5_isFigure cX5_isFigure 1 (some .boolean)) rmX5_isFigure (va_Pc [.int x0] (PP D cyI cyJ cyB cyS [] sz)) (QI q D [] (va_A [] sz)) 0 0 (va_A [] sz) := by
  refine Met.ofW (cc := cX5_isFigure) (maxL := 1) (ret := (some .boolean)) (by decide) rfl ?_
  intro p e s m args below meth c s₁ B hml hv
  obtain ⟨rfl, hsz, hP, hK, hD0⟩ := hv
  have hx := B.exec
  have hb := B.bytes
  have hr := B.returns
  have hts := atoms_spec (ws := (wS yX5_isFigure cX5_isFigure 1 (some .boolean))) B.pre
  have hown : s.vm.findClass RX5 = some m.cls := findClass_of_methodNamed B.named
  have hlocks := B.notSynchronized
  subst hsz
  have hD := hD0.self (sz := s.heap.size)
  refine w_nameQ (fun Q hQ => ?_)
  have hl := lv_entry ([.int x0] : List Value) (n := 1) (Nat.le_of_ble_eq_true rfl)
  rw [lg_entry_eq]
  generalize (lg_sl ([.int x0] : List Value) ++ List.replicate (1 - (lg_sl ([.int x0] : List Value)).length) Slot.unset).toArray = ls at hl ⊢
  have hl : lv_has ls 1 [(0, .int x0)] := hl
  generalize hAe : va_A [] s.heap.size = A at hD hQ
  have hA : ∀ q : Nat, s.heap.size ≤ q → A q := fun q h => by rw [← hAe]; exact Or.inr h
  have hS : va_S A s.heap s.heap [] := va_S.rf
  generalize ([.int x0] : List Value).toArray = av at hts hQ ⊢
  have hL : ∀ w ∈ wsL_law, w.before av s = true := fun w h => hts w (List.mem_cons_of_mem _ h)
  have hB17 : ∀ (s0 : Int32) (H : Heap) (locs : List Loc) (ls : Array Slot), fX5_isFigure_17 N x0 s0 = some q → va_P D vwCl [] H → va_D A [] → va_S A s.heap H locs → lv_has ls 1 [] → W p l e rmX5_isFigure s m av below meth c H locs 0 0 Q (F0 m 17 ls [.int s0]) := by
    intro s0 H locs ls hf hP hD hS hl
    unfold fX5_isFigure_17 at hf
    obtain ⟨n17, hf⟩ := pg_some hf
    exact ret_z (q := q) (g := fun q => q) (wp := fun q => []) hQ hf hx hb hr hlocks (isB_n n17) hP hD hS dX5_isFigure_17 rfl
  have hB16 : ∀ (H : Heap) (locs : List Loc) (ls : Array Slot), fX5_isFigure_16 N x0 = some q → va_P D vwCl [] H → va_D A [] → va_S A s.heap H locs → lv_has ls 1 [] → W p l e rmX5_isFigure s m av below meth c H locs 0 0 Q (F0 m 16 ls []) := by
    intro  H locs ls hf hP hD hS hl
    unfold fX5_isFigure_16 at hf
    refine lv_iconst (v := 0) hx hb dX5_isFigure_16 (by decide) ?_
    exact hB17 0 H locs ls hf hP hD hS (lv_sub hl [] rfl)
  unfold fX5_isFigure at hf
  obtain ⟨H, hH⟩ : ∃ H : Heap, H = s.heap := ⟨_, rfl⟩
  obtain ⟨locs, hlo⟩ : ∃ locs : List Loc, locs = [] := ⟨_, rfl⟩
  have hP : va_P D vwCl [] H := by rw [hH]; exact hP
  have hS : va_S A s.heap H locs := by rw [hH, hlo]; exact hS
  suffices hw : W p l e rmX5_isFigure s m av below meth c H locs 0 0 Q (F0 m 0 ls []) by rw [hH, hlo] at hw; exact hw
  refine lv_iload_n hx hb dX5_isFigure_0 rfl (lv_at hl 0 rfl) ?_
  refine lv_bipush (v := 48) hx hb dX5_isFigure_1 (by decide) ?_
  refine lv_icmp_lt (tgt := 16) hx hb dX5_isFigure_3 (by decide) (fun c3 => ?_) (fun c3 => ?_)
  · have hf := pif_t c3 hf
    exact hB16 H locs ls hf hP hD hS (lv_sub hl [] rfl)
  · have hf := pif_f c3 hf
    refine lv_iload_n hx hb dX5_isFigure_6 rfl (lv_at hl 0 rfl) ?_
    refine lv_bipush (v := 57) hx hb dX5_isFigure_7 (by decide) ?_
    refine lv_icmp_gt (tgt := 16) hx hb dX5_isFigure_9 (by decide) (fun c9 => ?_) (fun c9 => ?_)
    · have hf := pif_t c9 hf
      exact hB16 H locs ls hf hP hD hS (lv_sub hl [] rfl)
    · have hf := pif_f c9 hf
      refine lv_iconst (v := 1) hx hb dX5_isFigure_12 (by decide) ?_
      refine lv_goto (tgt := 17) hx hb dX5_isFigure_13 (by decide) ?_
      exact hB17 1 H locs ls hf hP hD hS (lv_sub hl [] rfl)
abbrev rmX5_kindOfNext : Room := { frames := 1, cells := 0, slots := 0, locals := 20 }
set_option maxHeartbeats 40000000 in
set_option maxRecDepth 100000 in
theorem mX5_kindOfNext (l : Launch) (D : va_G) (cyI cyJ cyB cyS : ClassId) (N : Nat) (sz : Nat) (h0 : Nat) (a_bytes : Nat) (a_token : Nat) (a_start : Nat) (a_meaning : Nat) (v_length : Int32) (v_next : Int32) (c_bytes : Nat → Int32) (q : Int32) (hf : fX5_kindOfNext N v_length v_next c_bytes = some q) : Met l yX5_kindOfNext (wS yX5_kindOfNext cX5_kindOfNext 1 (some .int)) rmX5_kindOfNext (va_Pc [.ref h0] (PP D cyI cyJ cyB cyS [(h0, .inr (5, [.ref a_token, .ref a_start, .ref a_meaning, .int v_length, .ref a_bytes, .int v_next])), (a_bytes, .inl (cyB, 240, .inl c_bytes))] sz)) (QI q D [(h0, .inr (5, [.ref a_token, .ref a_start, .ref a_meaning, .int v_length, .ref a_bytes, .int v_next])), (a_bytes, .inl (cyB, 240, .inl c_bytes))] (va_A [(h0, .inr (5, [.ref a_token, .ref a_start, .ref a_meaning, .int v_length, .ref a_bytes, .int v_next])), (a_bytes, .inl (cyB, 240, .inl c_bytes))] sz)) 0 0 (va_A [(h0, .inr (5, [.ref a_token, .ref a_start, .ref a_meaning, .int v_length, .ref a_bytes, .int v_next])), (a_bytes, .inl (cyB, 240, .inl c_bytes))] sz) := by
  refine Met.ofW (cc := cX5_kindOfNext) (maxL := 1) (ret := (some .int)) (by decide) rfl ?_
  intro p e s m args below meth c s₁ B hml hv
  obtain ⟨rfl, hsz, hP, hK, hD0⟩ := hv
  have hx := B.exec
  have hb := B.bytes
  have hr := B.returns
  have hts := atoms_spec (ws := (wS yX5_kindOfNext cX5_kindOfNext 1 (some .int))) B.pre
  have hown : s.vm.findClass RX5 = some m.cls := findClass_of_methodNamed B.named
  have hlocks := B.notSynchronized
  subst hsz
  have hD := hD0.self (sz := s.heap.size)
  refine w_nameQ (fun Q hQ => ?_)
  have hl := lv_entry ([.ref h0] : List Value) (n := 1) (Nat.le_of_ble_eq_true rfl)
  rw [lg_entry_eq]
  generalize (lg_sl ([.ref h0] : List Value) ++ List.replicate (1 - (lg_sl ([.ref h0] : List Value)).length) Slot.unset).toArray = ls at hl ⊢
  have hl : lv_has ls 1 [(0, .ref h0)] := hl
  generalize hAe : va_A [(h0, .inr (5, [.ref a_token, .ref a_start, .ref a_meaning, .int v_length, .ref a_bytes, .int v_next])), (a_bytes, .inl (cyB, 240, .inl c_bytes))] s.heap.size = A at hD hQ
  have hA : ∀ q : Nat, s.heap.size ≤ q → A q := fun q h => by rw [← hAe]; exact Or.inr h
  have hS : va_S A s.heap s.heap [] := va_S.rf
  generalize ([.ref h0] : List Value).toArray = av at hts hQ ⊢
  have hL : ∀ w ∈ wsL_law, w.before av s = true := fun w h => hts w (List.mem_cons_of_mem _ h)
  have w0 := hL (.fieldLink RX5 29 "LosingLeague$Tape" "next" "I") (hR9 12 rfl)
  have w1 := hL (.fieldLink RX5 25 "LosingLeague$Tape" "length" "I") (hR7 17 rfl)
  have w2 := hL (.fieldLink RX5 21 "LosingLeague$Tape" "bytes" "[B") (hR4 11 rfl)
  have w3 := hL (.static yX5_isLetter) (hR9 18 rfl)
  have w4 := hL (.static yX5_isFigure) (hR9 21 rfl)
  have hB66 : ∀ (s0 : Int32) (H : Heap) (locs : List Loc) (ls : Array Slot), fX5_kindOfNext_66 N v_length v_next c_bytes s0 = some q → va_P D vwCl [(h0, .inr (5, [.ref a_token, .ref a_start, .ref a_meaning, .int v_length, .ref a_bytes, .int v_next])), (a_bytes, .inl (cyB, 240, .inl c_bytes))] H → va_D A [(h0, .inr (5, [.ref a_token, .ref a_start, .ref a_meaning, .int v_length, .ref a_bytes, .int v_next])), (a_bytes, .inl (cyB, 240, .inl c_bytes))] → va_S A s.heap H locs → lv_has ls 1 [] → W p l e rmX5_kindOfNext s m av below meth c H locs 0 0 Q (F0 m 66 ls [.int s0]) := by
    intro s0 H locs ls hf hP hD hS hl
    unfold fX5_kindOfNext_66 at hf
    exact ret_i (q := q) (g := fun q => q) (wp := fun q => [(h0, .inr (5, [.ref a_token, .ref a_start, .ref a_meaning, .int v_length, .ref a_bytes, .int v_next])), (a_bytes, .inl (cyB, 240, .inl c_bytes))]) hQ hf hx hb hr hlocks hP hD hS dX5_kindOfNext_66 rfl
  unfold fX5_kindOfNext at hf
  obtain ⟨H, hH⟩ : ∃ H : Heap, H = s.heap := ⟨_, rfl⟩
  obtain ⟨locs, hlo⟩ : ∃ locs : List Loc, locs = [] := ⟨_, rfl⟩
  have hP : va_P D vwCl [(h0, .inr (5, [.ref a_token, .ref a_start, .ref a_meaning, .int v_length, .ref a_bytes, .int v_next])), (a_bytes, .inl (cyB, 240, .inl c_bytes))] H := by rw [hH]; exact hP
  have hS : va_S A s.heap H locs := by rw [hH, hlo]; exact hS
  suffices hw : W p l e rmX5_kindOfNext s m av below meth c H locs 0 0 Q (F0 m 0 ls []) by rw [hH, hlo] at hw; exact hw
  refine lv_aload_n hx hb dX5_kindOfNext_0 rfl (lv_at hl 0 rfl) ?_
  refine va_get (D := D) (ci := 5) (v := .int v_next) (C := RX5) (T := TX5) (N := 6) hx hb hL inlX5 hown hK.1 hP 0 rfl rfl 5 (by decide) w0 (fun _ h9 => h9) rfl dX5_kindOfNext_1 ?_
  refine lv_aload_n hx hb dX5_kindOfNext_4 rfl (lv_at hl 0 rfl) ?_
  refine va_get (D := D) (ci := 5) (v := .int v_length) (C := RX5) (T := TX5) (N := 6) hx hb hL inlX5 hown hK.1 hP 0 rfl rfl 3 (by decide) w1 (fun _ h9 => h9) rfl dX5_kindOfNext_5 ?_
  refine lv_icmp_lt (tgt := 13) hx hb dX5_kindOfNext_8 (by decide) (fun c8 => ?_) (fun c8 => ?_)
  · have hf := pif_t c8 hf
    refine lv_aload_n hx hb dX5_kindOfNext_13 rfl (lv_at hl 0 rfl) ?_
    refine va_get (D := D) (ci := 5) (v := .ref a_bytes) (C := RX5) (T := TX5) (N := 6) hx hb hL inlX5 hown hK.1 hP 0 rfl rfl 4 (by decide) w2 (fun _ h9 => h9) rfl dX5_kindOfNext_14 ?_
    refine lv_aload_n hx hb dX5_kindOfNext_17 rfl (lv_at hl 0 rfl) ?_
    refine va_get (D := D) (ci := 5) (v := .int v_next) (C := RX5) (T := TX5) (N := 6) hx hb hL inlX5 hown hK.1 hP 0 rfl rfl 5 (by decide) w0 (fun _ h9 => h9) rfl dX5_kindOfNext_18 ?_
    obtain ⟨h21, hf⟩ := pg_some hf
    refine va_bald hx hb hK.1 hP 1 2 rfl rfl h21 dX5_kindOfNext_21 ?_
    obtain ⟨q22, e22, hf⟩ := pb_some hf
    refine cc_i (wc := []) (wr := [(h0, .inr (5, [.ref a_token, .ref a_start, .ref a_meaning, .int v_length, .ref a_bytes, .int v_next])), (a_bytes, .inl (cyB, 240, .inl c_bytes))]) (w1 := []) (wn := [(h0, .inr (5, [.ref a_token, .ref a_start, .ref a_meaning, .int v_length, .ref a_bytes, .int v_next])), (a_bytes, .inl (cyB, 240, .inl c_bytes))]) hP hD hS hA [] [0, 1] [0, 1] rfl rfl rfl (by decide) rfl rfl (va_runS (As := [.int (c_bytes v_next.toNatClampNeg)]) (rest := []) ⟨hx, hb, hml, hown, hL⟩ (mX5_isLetter l D cyI cyJ cyB cyS N H.size   (c_bytes v_next.toNatClampNeg) q22 e22) (va_cwS 1 hL (gS (hR9 17 rfl) (hR9 18 rfl) (hR3 23 rfl) (hR9 19 rfl)) rfl rfl rfl (by decide +kernel) ⟨Nat.le_of_ble_eq_true rfl, Nat.le_of_ble_eq_true rfl⟩) (PP_preS hP hD hK [] rfl rfl) rfl rfl hl.1 rfl (lv_room (Nat.le_of_ble_eq_true rfl)) dX5_kindOfNext_22 ⟨Nat.le_of_ble_eq_true rfl, Nat.le_of_ble_eq_true rfl⟩) (fun H locs hP hD hS => ?_)
    refine lv_if_eq (tgt := 30) hx hb dX5_kindOfNext_25 (by decide) (fun c25 => ?_) (fun c25 => ?_)
    · have hf := pif_t c25 hf
      refine lv_aload_n hx hb dX5_kindOfNext_30 rfl (lv_at hl 0 rfl) ?_
      refine va_get (D := D) (ci := 5) (v := .ref a_bytes) (C := RX5) (T := TX5) (N := 6) hx hb hL inlX5 hown hK.1 hP 0 rfl rfl 4 (by decide) w2 (fun _ h9 => h9) rfl dX5_kindOfNext_31 ?_
      refine lv_aload_n hx hb dX5_kindOfNext_34 rfl (lv_at hl 0 rfl) ?_
      refine va_get (D := D) (ci := 5) (v := .int v_next) (C := RX5) (T := TX5) (N := 6) hx hb hL inlX5 hown hK.1 hP 0 rfl rfl 5 (by decide) w0 (fun _ h9 => h9) rfl dX5_kindOfNext_35 ?_
      obtain ⟨h38, hf⟩ := pg_some hf
      refine va_bald hx hb hK.1 hP 1 2 rfl rfl h38 dX5_kindOfNext_38 ?_
      obtain ⟨q39, e39, hf⟩ := pb_some hf
      refine cc_i (wc := []) (wr := [(h0, .inr (5, [.ref a_token, .ref a_start, .ref a_meaning, .int v_length, .ref a_bytes, .int v_next])), (a_bytes, .inl (cyB, 240, .inl c_bytes))]) (w1 := []) (wn := [(h0, .inr (5, [.ref a_token, .ref a_start, .ref a_meaning, .int v_length, .ref a_bytes, .int v_next])), (a_bytes, .inl (cyB, 240, .inl c_bytes))]) hP hD hS hA [] [0, 1] [0, 1] rfl rfl rfl (by decide) rfl rfl (va_runS (As := [.int (c_bytes v_next.toNatClampNeg)]) (rest := []) ⟨hx, hb, hml, hown, hL⟩ (mX5_isFigure l D cyI cyJ cyB cyS N H.size   (c_bytes v_next.toNatClampNeg) q39 e39) (va_cwS 1 hL (gS (hR9 20 rfl) (hR9 21 rfl) (hR3 23 rfl) (hR9 22 rfl)) rfl rfl rfl (by decide +kernel) ⟨Nat.le_of_ble_eq_true rfl, Nat.le_of_ble_eq_true rfl⟩) (PP_preS hP hD hK [] rfl rfl) rfl rfl hl.1 rfl (lv_room (Nat.le_of_ble_eq_true rfl)) dX5_kindOfNext_39 ⟨Nat.le_of_ble_eq_true rfl, Nat.le_of_ble_eq_true rfl⟩) (fun H locs hP hD hS => ?_)
      refine lv_if_eq (tgt := 47) hx hb dX5_kindOfNext_42 (by decide) (fun c42 => ?_) (fun c42 => ?_)
      · have hf := pif_t c42 hf
        refine lv_aload_n hx hb dX5_kindOfNext_47 rfl (lv_at hl 0 rfl) ?_
        refine va_get (D := D) (ci := 5) (v := .ref a_bytes) (C := RX5) (T := TX5) (N := 6) hx hb hL inlX5 hown hK.1 hP 0 rfl rfl 4 (by decide) w2 (fun _ h9 => h9) rfl dX5_kindOfNext_48 ?_
        refine lv_aload_n hx hb dX5_kindOfNext_51 rfl (lv_at hl 0 rfl) ?_
        refine va_get (D := D) (ci := 5) (v := .int v_next) (C := RX5) (T := TX5) (N := 6) hx hb hL inlX5 hown hK.1 hP 0 rfl rfl 5 (by decide) w0 (fun _ h9 => h9) rfl dX5_kindOfNext_52 ?_
        obtain ⟨h55, hf⟩ := pg_some hf
        refine va_bald hx hb hK.1 hP 1 2 rfl rfl h55 dX5_kindOfNext_55 ?_
        refine lv_bipush (v := 59) hx hb dX5_kindOfNext_56 (by decide) ?_
        refine lv_icmp_ne (tgt := 65) hx hb dX5_kindOfNext_58 (by decide) (fun c58 => ?_) (fun c58 => ?_)
        · have hf := pif_f c58 hf
          refine lv_iconst (v := 4) hx hb dX5_kindOfNext_65 (by decide) ?_
          exact hB66 4 H locs ls hf hP hD hS (lv_sub hl [] rfl)
        · have hf := pif_t c58 hf
          refine lv_iconst (v := 3) hx hb dX5_kindOfNext_61 (by decide) ?_
          refine lv_goto (tgt := 66) hx hb dX5_kindOfNext_62 (by decide) ?_
          exact hB66 3 H locs ls hf hP hD hS (lv_sub hl [] rfl)
      · have hf := pif_f c42 hf
        refine lv_iconst (v := 2) hx hb dX5_kindOfNext_45 (by decide) ?_
        exact ret_i (q := q) (g := fun q => q) (wp := fun q => [(h0, .inr (5, [.ref a_token, .ref a_start, .ref a_meaning, .int v_length, .ref a_bytes, .int v_next])), (a_bytes, .inl (cyB, 240, .inl c_bytes))]) hQ hf hx hb hr hlocks hP hD hS dX5_kindOfNext_46 rfl
    · have hf := pif_f c25 hf
      refine lv_iconst (v := 1) hx hb dX5_kindOfNext_28 (by decide) ?_
      exact ret_i (q := q) (g := fun q => q) (wp := fun q => [(h0, .inr (5, [.ref a_token, .ref a_start, .ref a_meaning, .int v_length, .ref a_bytes, .int v_next])), (a_bytes, .inl (cyB, 240, .inl c_bytes))]) hQ hf hx hb hr hlocks hP hD hS dX5_kindOfNext_29 rfl
  · have hf := pif_f c8 hf
    refine lv_iconst (v := 0) hx hb dX5_kindOfNext_11 (by decide) ?_
    exact ret_i (q := q) (g := fun q => q) (wp := fun q => [(h0, .inr (5, [.ref a_token, .ref a_start, .ref a_meaning, .int v_length, .ref a_bytes, .int v_next])), (a_bytes, .inl (cyB, 240, .inl c_bytes))]) hQ hf hx hb hr hlocks hP hD hS dX5_kindOfNext_12 rfl
abbrev rmX5_takeFigures : Room := { frames := 1, cells := 0, slots := 0, locals := 20 }
set_option maxHeartbeats 40000000 in
set_option maxRecDepth 100000 in
theorem mX5_takeFigures (l : Launch) (D : va_G) (cyI cyJ cyB cyS : ClassId) (N : Nat) (sz : Nat) (h0 : Nat) (a_bytes : Nat) (a_meaning : Nat) (a_start : Nat) (a_token : Nat) (v_length : Int32) (v_next : Int32) (c_bytes : Nat → Int32) (c_meaning : Nat → Int32) (c_start : Nat → Int32) (c_token : Nat → Int32) (x1 : Int32) (q : Int32 × (Nat → Int32) × (Nat → Int32)) (hf : fX5_takeFigures N v_length v_next c_bytes c_meaning c_start c_token x1 = some q) : Met l yX5_takeFigures (wS yX5_takeFigures cX5_takeFigures 4 none) rmX5_takeFigures (va_Pc [.ref h0, .int x1] (PP D cyI cyJ cyB cyS [(h0, .inr (5, [.ref a_token, .ref a_start, .ref a_meaning, .int v_length, .ref a_bytes, .int v_next])), (a_bytes, .inl (cyB, 240, .inl c_bytes)), (a_meaning, .inl (cyI, 241, .inl c_meaning)), (a_start, .inl (cyI, 241, .inl c_start)), (a_token, .inl (cyI, 241, .inl c_token))] sz)) (QV D [(h0, .inr (5, [.ref a_token, .ref a_start, .ref a_meaning, .int v_length, .ref a_bytes, .int q.1])), (a_bytes, .inl (cyB, 240, .inl c_bytes)), (a_meaning, .inl (cyI, 241, .inl q.2.1)), (a_start, .inl (cyI, 241, .inl c_start)), (a_token, .inl (cyI, 241, .inl q.2.2))] (va_A [(h0, .inr (5, [.ref a_token, .ref a_start, .ref a_meaning, .int v_length, .ref a_bytes, .int v_next])), (a_bytes, .inl (cyB, 240, .inl c_bytes)), (a_meaning, .inl (cyI, 241, .inl c_meaning)), (a_start, .inl (cyI, 241, .inl c_start)), (a_token, .inl (cyI, 241, .inl c_token))] sz)) 0 0 (va_A [(h0, .inr (5, [.ref a_token, .ref a_start, .ref a_meaning, .int v_length, .ref a_bytes, .int v_next])), (a_bytes, .inl (cyB, 240, .inl c_bytes)), (a_meaning, .inl (cyI, 241, .inl c_meaning)), (a_start, .inl (cyI, 241, .inl c_start)), (a_token, .inl (cyI, 241, .inl c_token))] sz) := by
  refine Met.ofW (cc := cX5_takeFigures) (maxL := 4) (ret := none) (by decide) rfl ?_
  intro p e s m args below meth c s₁ B hml hv
  obtain ⟨rfl, hsz, hP, hK, hD0⟩ := hv
  have hx := B.exec
  have hb := B.bytes
  have hr := B.returns
  have hts := atoms_spec (ws := (wS yX5_takeFigures cX5_takeFigures 4 none)) B.pre
  have hown : s.vm.findClass RX5 = some m.cls := findClass_of_methodNamed B.named
  have hlocks := B.notSynchronized
  subst hsz
  have hD := hD0.self (sz := s.heap.size)
  refine w_nameQ (fun Q hQ => ?_)
  have hl := lv_entry ([.ref h0, .int x1] : List Value) (n := 4) (Nat.le_of_ble_eq_true rfl)
  rw [lg_entry_eq]
  generalize (lg_sl ([.ref h0, .int x1] : List Value) ++ List.replicate (4 - (lg_sl ([.ref h0, .int x1] : List Value)).length) Slot.unset).toArray = ls at hl ⊢
  have hl : lv_has ls 4 [(0, .ref h0), (1, .int x1)] := hl
  generalize hAe : va_A [(h0, .inr (5, [.ref a_token, .ref a_start, .ref a_meaning, .int v_length, .ref a_bytes, .int v_next])), (a_bytes, .inl (cyB, 240, .inl c_bytes)), (a_meaning, .inl (cyI, 241, .inl c_meaning)), (a_start, .inl (cyI, 241, .inl c_start)), (a_token, .inl (cyI, 241, .inl c_token))] s.heap.size = A at hD hQ
  have hA : ∀ q : Nat, s.heap.size ≤ q → A q := fun q h => by rw [← hAe]; exact Or.inr h
  have hS : va_S A s.heap s.heap [] := va_S.rf
  generalize ([.ref h0, .int x1] : List Value).toArray = av at hts hQ ⊢
  have hL : ∀ w ∈ wsL_law, w.before av s = true := fun w h => hts w (List.mem_cons_of_mem _ h)
  have w0 := hL (.fieldLink RX5 18 "LosingLeague$Tape" "meaning" "[I") (hR4 9 rfl)
  have w1 := hL (.fieldLink RX5 9 "LosingLeague$Tape" "token" "[I") (hR4 7 rfl)
  have w2 := hL (.fieldLink RX5 29 "LosingLeague$Tape" "next" "I") (hR9 12 rfl)
  have w3 := hL (.fieldLink RX5 15 "LosingLeague$Tape" "start" "[I") (hR4 8 rfl)
  have w4 := hL (.fieldLink RX5 25 "LosingLeague$Tape" "length" "I") (hR7 17 rfl)
  have w5 := hL (.fieldLink RX5 21 "LosingLeague$Tape" "bytes" "[B") (hR4 11 rfl)
  have w6 := hL (.static yX5_isFigure) (hR9 21 rfl)
  have hB109 : ∀ (s1 : Int32) (s2 : Int32) (v_next : Int32) (c_meaning : Nat → Int32) (c_token : Nat → Int32) (H : Heap) (locs : List Loc) (ls : Array Slot), fX5_takeFigures_109 N v_length c_bytes c_start x1 s1 s2 v_next c_meaning c_token = some q → va_P D vwCl [(h0, .inr (5, [.ref a_token, .ref a_start, .ref a_meaning, .int v_length, .ref a_bytes, .int v_next])), (a_bytes, .inl (cyB, 240, .inl c_bytes)), (a_meaning, .inl (cyI, 241, .inl c_meaning)), (a_start, .inl (cyI, 241, .inl c_start)), (a_token, .inl (cyI, 241, .inl c_token))] H → va_D A [(h0, .inr (5, [.ref a_token, .ref a_start, .ref a_meaning, .int v_length, .ref a_bytes, .int v_next])), (a_bytes, .inl (cyB, 240, .inl c_bytes)), (a_meaning, .inl (cyI, 241, .inl c_meaning)), (a_start, .inl (cyI, 241, .inl c_start)), (a_token, .inl (cyI, 241, .inl c_token))] → va_S A s.heap H locs → lv_has ls 4 [] → W p l e rmX5_takeFigures s m av below meth c H locs 0 0 Q (F0 m 109 ls [.int s2, .int s1, .ref a_meaning]) := by
    intro s1 s2 v_next c_meaning c_token H locs ls hf hP hD hS hl
    unfold fX5_takeFigures_109 at hf
    obtain ⟨h109, hf⟩ := pg_some hf
    refine va_iast hx hb hK.1 hP hD hS 2 0 rfl rfl h109 dX5_takeFigures_109 (fun H locs hP hD hS => ?_)
    have hP : va_P D vwCl [(h0, .inr (5, [.ref a_token, .ref a_start, .ref a_meaning, .int v_length, .ref a_bytes, .int v_next])), (a_bytes, .inl (cyB, 240, .inl c_bytes)), (a_meaning, .inl (cyI, 241, .inl (upd c_meaning s1.toNatClampNeg s2))), (a_start, .inl (cyI, 241, .inl c_start)), (a_token, .inl (cyI, 241, .inl c_token))] H := hP
    have hD : va_D A [(h0, .inr (5, [.ref a_token, .ref a_start, .ref a_meaning, .int v_length, .ref a_bytes, .int v_next])), (a_bytes, .inl (cyB, 240, .inl c_bytes)), (a_meaning, .inl (cyI, 241, .inl (upd c_meaning s1.toNatClampNeg s2))), (a_start, .inl (cyI, 241, .inl c_start)), (a_token, .inl (cyI, 241, .inl c_token))] := hD
    exact ret_v (q := q) (wp := fun q => [(h0, .inr (5, [.ref a_token, .ref a_start, .ref a_meaning, .int v_length, .ref a_bytes, .int q.1])), (a_bytes, .inl (cyB, 240, .inl c_bytes)), (a_meaning, .inl (cyI, 241, .inl q.2.1)), (a_start, .inl (cyI, 241, .inl c_start)), (a_token, .inl (cyI, 241, .inl q.2.2))]) hQ hf hx hb hr hlocks hP hD hS dX5_takeFigures_110
  have hB94 : ∀ (x2 : Int32) (x3 : Int32) (s1 : Int32) (s2 : Int32) (v_next : Int32) (c_meaning : Nat → Int32) (c_token : Nat → Int32) (H : Heap) (locs : List Loc) (ls : Array Slot), fX5_takeFigures_94 N v_length c_bytes c_start x1 x2 x3 s1 s2 v_next c_meaning c_token = some q → va_P D vwCl [(h0, .inr (5, [.ref a_token, .ref a_start, .ref a_meaning, .int v_length, .ref a_bytes, .int v_next])), (a_bytes, .inl (cyB, 240, .inl c_bytes)), (a_meaning, .inl (cyI, 241, .inl c_meaning)), (a_start, .inl (cyI, 241, .inl c_start)), (a_token, .inl (cyI, 241, .inl c_token))] H → va_D A [(h0, .inr (5, [.ref a_token, .ref a_start, .ref a_meaning, .int v_length, .ref a_bytes, .int v_next])), (a_bytes, .inl (cyB, 240, .inl c_bytes)), (a_meaning, .inl (cyI, 241, .inl c_meaning)), (a_start, .inl (cyI, 241, .inl c_start)), (a_token, .inl (cyI, 241, .inl c_token))] → va_S A s.heap H locs → lv_has ls 4 [(0, .ref h0), (1, .int x1), (2, .int x2), (3, .int x3)] → W p l e rmX5_takeFigures s m av below meth c H locs 0 0 Q (F0 m 94 ls [.int s2, .int s1, .ref a_token]) := by
    intro x2 x3 s1 s2 v_next c_meaning c_token H locs ls hf hP hD hS hl
    unfold fX5_takeFigures_94 at hf
    obtain ⟨h94, hf⟩ := pg_some hf
    refine va_iast hx hb hK.1 hP hD hS 4 0 rfl rfl h94 dX5_takeFigures_94 (fun H locs hP hD hS => ?_)
    have hP : va_P D vwCl [(h0, .inr (5, [.ref a_token, .ref a_start, .ref a_meaning, .int v_length, .ref a_bytes, .int v_next])), (a_bytes, .inl (cyB, 240, .inl c_bytes)), (a_meaning, .inl (cyI, 241, .inl c_meaning)), (a_start, .inl (cyI, 241, .inl c_start)), (a_token, .inl (cyI, 241, .inl (upd c_token s1.toNatClampNeg s2)))] H := hP
    have hD : va_D A [(h0, .inr (5, [.ref a_token, .ref a_start, .ref a_meaning, .int v_length, .ref a_bytes, .int v_next])), (a_bytes, .inl (cyB, 240, .inl c_bytes)), (a_meaning, .inl (cyI, 241, .inl c_meaning)), (a_start, .inl (cyI, 241, .inl c_start)), (a_token, .inl (cyI, 241, .inl (upd c_token s1.toNatClampNeg s2)))] := hD
    refine lv_aload_n hx hb dX5_takeFigures_95 rfl (lv_at hl 0 rfl) ?_
    refine va_get (D := D) (ci := 5) (v := .ref a_meaning) (C := RX5) (T := TX5) (N := 6) hx hb hL inlX5 hown hK.1 hP 0 rfl rfl 2 (by decide) w0 (fun _ h9 => h9) rfl dX5_takeFigures_96 ?_
    refine lv_iload_n hx hb dX5_takeFigures_99 rfl (lv_at hl 1 rfl) ?_
    refine lv_iload_n hx hb dX5_takeFigures_100 rfl (lv_at hl 3 rfl) ?_
    refine lv_if_eq (tgt := 108) hx hb dX5_takeFigures_101 (by decide) (fun c101 => ?_) (fun c101 => ?_)
    · have hf := pif_t c101 hf
      refine lv_iload_n hx hb dX5_takeFigures_108 rfl (lv_at hl 2 rfl) ?_
      exact hB109 x1 x2 v_next c_meaning (upd c_token s1.toNatClampNeg s2) H locs ls hf hP hD hS (lv_sub hl [] rfl)
    · have hf := pif_f c101 hf
      refine lv_iconst (v := 0) hx hb dX5_takeFigures_104 (by decide) ?_
      refine lv_goto (tgt := 109) hx hb dX5_takeFigures_105 (by decide) ?_
      exact hB109 x1 0 v_next c_meaning (upd c_token s1.toNatClampNeg s2) H locs ls hf hP hD hS (lv_sub hl [] rfl)
  have hB79 : ∀ (x2 : Int32) (s0 : Int32) (v_next : Int32) (c_meaning : Nat → Int32) (c_token : Nat → Int32) (H : Heap) (locs : List Loc) (ls : Array Slot), fX5_takeFigures_79 N v_length c_bytes c_start x1 x2 s0 v_next c_meaning c_token = some q → va_P D vwCl [(h0, .inr (5, [.ref a_token, .ref a_start, .ref a_meaning, .int v_length, .ref a_bytes, .int v_next])), (a_bytes, .inl (cyB, 240, .inl c_bytes)), (a_meaning, .inl (cyI, 241, .inl c_meaning)), (a_start, .inl (cyI, 241, .inl c_start)), (a_token, .inl (cyI, 241, .inl c_token))] H → va_D A [(h0, .inr (5, [.ref a_token, .ref a_start, .ref a_meaning, .int v_length, .ref a_bytes, .int v_next])), (a_bytes, .inl (cyB, 240, .inl c_bytes)), (a_meaning, .inl (cyI, 241, .inl c_meaning)), (a_start, .inl (cyI, 241, .inl c_start)), (a_token, .inl (cyI, 241, .inl c_token))] → va_S A s.heap H locs → lv_has ls 4 [(0, .ref h0), (1, .int x1), (2, .int x2)] → W p l e rmX5_takeFigures s m av below meth c H locs 0 0 Q (F0 m 79 ls [.int s0]) := by
    intro x2 s0 v_next c_meaning c_token H locs ls hf hP hD hS hl
    unfold fX5_takeFigures_79 at hf
    refine lv_istore_n (lv' := [(3, .int s0), (0, .ref h0), (1, .int x1), (2, .int x2)]) hx hb dX5_takeFigures_79 rfl hl (by decide) rfl (fun ls hl => ?_)
    refine lv_aload_n hx hb dX5_takeFigures_80 rfl (lv_at hl 1 rfl) ?_
    refine va_get (D := D) (ci := 5) (v := .ref a_token) (C := RX5) (T := TX5) (N := 6) hx hb hL inlX5 hown hK.1 hP 0 rfl rfl 0 (by decide) w1 (fun _ h9 => h9) rfl dX5_takeFigures_81 ?_
    refine lv_iload_n hx hb dX5_takeFigures_84 rfl (lv_at hl 2 rfl) ?_
    refine lv_iload_n hx hb dX5_takeFigures_85 rfl (lv_at hl 0 rfl) ?_
    refine lv_if_eq (tgt := 93) hx hb dX5_takeFigures_86 (by decide) (fun c86 => ?_) (fun c86 => ?_)
    · have hf := pif_t c86 hf
      refine lv_iconst (v := 2) hx hb dX5_takeFigures_93 (by decide) ?_
      exact hB94 x2 s0 x1 2 v_next c_meaning c_token H locs ls hf hP hD hS (lv_sub hl [1, 2, 3, 0] rfl)
    · have hf := pif_f c86 hf
      refine lv_iconst (v := 4) hx hb dX5_takeFigures_89 (by decide) ?_
      refine lv_goto (tgt := 94) hx hb dX5_takeFigures_90 (by decide) ?_
      exact hB94 x2 s0 x1 4 v_next c_meaning c_token H locs ls hf hP hD hS (lv_sub hl [1, 2, 3, 0] rfl)
  have hB59 : ∀ (x2 : Int32) (v_next : Int32) (c_meaning : Nat → Int32) (c_token : Nat → Int32) (H : Heap) (locs : List Loc) (ls : Array Slot), fX5_takeFigures_59 N v_length c_bytes c_start x1 x2 v_next c_meaning c_token = some q → va_P D vwCl [(h0, .inr (5, [.ref a_token, .ref a_start, .ref a_meaning, .int v_length, .ref a_bytes, .int v_next])), (a_bytes, .inl (cyB, 240, .inl c_bytes)), (a_meaning, .inl (cyI, 241, .inl c_meaning)), (a_start, .inl (cyI, 241, .inl c_start)), (a_token, .inl (cyI, 241, .inl c_token))] H → va_D A [(h0, .inr (5, [.ref a_token, .ref a_start, .ref a_meaning, .int v_length, .ref a_bytes, .int v_next])), (a_bytes, .inl (cyB, 240, .inl c_bytes)), (a_meaning, .inl (cyI, 241, .inl c_meaning)), (a_start, .inl (cyI, 241, .inl c_start)), (a_token, .inl (cyI, 241, .inl c_token))] → va_S A s.heap H locs → lv_has ls 4 [(0, .ref h0), (1, .int x1), (2, .int x2)] → W p l e rmX5_takeFigures s m av below meth c H locs 0 0 Q (F0 m 59 ls []) := by
    intro x2 v_next c_meaning c_token H locs ls hf hP hD hS hl
    unfold fX5_takeFigures_59 at hf
    refine lv_aload_n hx hb dX5_takeFigures_59 rfl (lv_at hl 0 rfl) ?_
    refine va_get (D := D) (ci := 5) (v := .int v_next) (C := RX5) (T := TX5) (N := 6) hx hb hL inlX5 hown hK.1 hP 0 rfl rfl 5 (by decide) w2 (fun _ h9 => h9) rfl dX5_takeFigures_60 ?_
    refine lv_aload_n hx hb dX5_takeFigures_63 rfl (lv_at hl 0 rfl) ?_
    refine va_get (D := D) (ci := 5) (v := .ref a_start) (C := RX5) (T := TX5) (N := 6) hx hb hL inlX5 hown hK.1 hP 0 rfl rfl 1 (by decide) w3 (fun _ h9 => h9) rfl dX5_takeFigures_64 ?_
    refine lv_iload_n hx hb dX5_takeFigures_67 rfl (lv_at hl 1 rfl) ?_
    obtain ⟨h68, hf⟩ := pg_some hf
    refine va_iald hx hb hK.1 hP 3 0 rfl rfl h68 dX5_takeFigures_68 ?_
    refine lv_isub hx hb dX5_takeFigures_69 ?_
    refine lv_iconst (v := 2) hx hb dX5_takeFigures_70 (by decide) ?_
    refine lv_icmp_le (tgt := 78) hx hb dX5_takeFigures_71 (by decide) (fun c71 => ?_) (fun c71 => ?_)
    · have hf := pif_t c71 hf
      refine lv_iconst (v := 0) hx hb dX5_takeFigures_78 (by decide) ?_
      exact hB79 x2 0 v_next c_meaning c_token H locs ls hf hP hD hS (lv_sub hl [0, 1, 2] rfl)
    · have hf := pif_f c71 hf
      refine lv_iconst (v := 1) hx hb dX5_takeFigures_74 (by decide) ?_
      refine lv_goto (tgt := 79) hx hb dX5_takeFigures_75 (by decide) ?_
      exact hB79 x2 1 v_next c_meaning c_token H locs ls hf hP hD hS (lv_sub hl [0, 1, 2] rfl)
  have hB2 : ∀ (n : Nat), ∀ (x2 : Int32) (v_next : Int32) (c_meaning : Nat → Int32) (c_token : Nat → Int32) (H : Heap) (locs : List Loc) (ls : Array Slot), fX5_takeFigures_2 N v_length c_bytes c_start x1 n x2 v_next c_meaning c_token = some q → va_P D vwCl [(h0, .inr (5, [.ref a_token, .ref a_start, .ref a_meaning, .int v_length, .ref a_bytes, .int v_next])), (a_bytes, .inl (cyB, 240, .inl c_bytes)), (a_meaning, .inl (cyI, 241, .inl c_meaning)), (a_start, .inl (cyI, 241, .inl c_start)), (a_token, .inl (cyI, 241, .inl c_token))] H → va_D A [(h0, .inr (5, [.ref a_token, .ref a_start, .ref a_meaning, .int v_length, .ref a_bytes, .int v_next])), (a_bytes, .inl (cyB, 240, .inl c_bytes)), (a_meaning, .inl (cyI, 241, .inl c_meaning)), (a_start, .inl (cyI, 241, .inl c_start)), (a_token, .inl (cyI, 241, .inl c_token))] → va_S A s.heap H locs → lv_has ls 4 [(0, .ref h0), (1, .int x1), (2, .int x2)] → W p l e rmX5_takeFigures s m av below meth c H locs 0 0 Q (F0 m 2 ls []) := by
    intro n
    induction n with
    | zero => intro x2 v_next c_meaning c_token H locs ls hf; exact absurd hf (by simp [fX5_takeFigures_2])
    | succ n hk2 =>
      intro x2 v_next c_meaning c_token H locs ls hf hP hD hS hl
      rw [fX5_takeFigures_2] at hf
      refine lv_aload_n hx hb dX5_takeFigures_2 rfl (lv_at hl 0 rfl) ?_
      refine va_get (D := D) (ci := 5) (v := .int v_next) (C := RX5) (T := TX5) (N := 6) hx hb hL inlX5 hown hK.1 hP 0 rfl rfl 5 (by decide) w2 (fun _ h9 => h9) rfl dX5_takeFigures_3 ?_
      refine lv_aload_n hx hb dX5_takeFigures_6 rfl (lv_at hl 0 rfl) ?_
      refine va_get (D := D) (ci := 5) (v := .int v_length) (C := RX5) (T := TX5) (N := 6) hx hb hL inlX5 hown hK.1 hP 0 rfl rfl 3 (by decide) w4 (fun _ h9 => h9) rfl dX5_takeFigures_7 ?_
      refine lv_icmp_ge (tgt := 59) hx hb dX5_takeFigures_10 (by decide) (fun c10 => ?_) (fun c10 => ?_)
      · have hf := pif_t c10 hf
        exact hB59 x2 v_next c_meaning c_token H locs ls hf hP hD hS (lv_sub hl [0, 1, 2] rfl)
      · have hf := pif_f c10 hf
        refine lv_aload_n hx hb dX5_takeFigures_13 rfl (lv_at hl 0 rfl) ?_
        refine va_get (D := D) (ci := 5) (v := .ref a_bytes) (C := RX5) (T := TX5) (N := 6) hx hb hL inlX5 hown hK.1 hP 0 rfl rfl 4 (by decide) w5 (fun _ h9 => h9) rfl dX5_takeFigures_14 ?_
        refine lv_aload_n hx hb dX5_takeFigures_17 rfl (lv_at hl 0 rfl) ?_
        refine va_get (D := D) (ci := 5) (v := .int v_next) (C := RX5) (T := TX5) (N := 6) hx hb hL inlX5 hown hK.1 hP 0 rfl rfl 5 (by decide) w2 (fun _ h9 => h9) rfl dX5_takeFigures_18 ?_
        obtain ⟨h21, hf⟩ := pg_some hf
        refine va_bald hx hb hK.1 hP 1 2 rfl rfl h21 dX5_takeFigures_21 ?_
        obtain ⟨q22, e22, hf⟩ := pb_some hf
        refine cc_i (wc := []) (wr := [(h0, .inr (5, [.ref a_token, .ref a_start, .ref a_meaning, .int v_length, .ref a_bytes, .int v_next])), (a_bytes, .inl (cyB, 240, .inl c_bytes)), (a_meaning, .inl (cyI, 241, .inl c_meaning)), (a_start, .inl (cyI, 241, .inl c_start)), (a_token, .inl (cyI, 241, .inl c_token))]) (w1 := []) (wn := [(h0, .inr (5, [.ref a_token, .ref a_start, .ref a_meaning, .int v_length, .ref a_bytes, .int v_next])), (a_bytes, .inl (cyB, 240, .inl c_bytes)), (a_meaning, .inl (cyI, 241, .inl c_meaning)), (a_start, .inl (cyI, 241, .inl c_start)), (a_token, .inl (cyI, 241, .inl c_token))]) hP hD hS hA [] [0, 1, 2, 3, 4] [0, 1, 2, 3, 4] rfl rfl rfl (by decide) rfl rfl (va_runS (As := [.int (c_bytes v_next.toNatClampNeg)]) (rest := []) ⟨hx, hb, hml, hown, hL⟩ (mX5_isFigure l D cyI cyJ cyB cyS N H.size   (c_bytes v_next.toNatClampNeg) q22 e22) (va_cwS 1 hL (gS (hR9 20 rfl) (hR9 21 rfl) (hR3 23 rfl) (hR9 22 rfl)) rfl rfl rfl (by decide +kernel) ⟨Nat.le_of_ble_eq_true rfl, Nat.le_of_ble_eq_true rfl⟩) (PP_preS hP hD hK [] rfl rfl) rfl rfl hl.1 rfl (lv_room (Nat.le_of_ble_eq_true rfl)) dX5_takeFigures_22 ⟨Nat.le_of_ble_eq_true rfl, Nat.le_of_ble_eq_true rfl⟩) (fun H locs hP hD hS => ?_)
        refine lv_if_eq (tgt := 59) hx hb dX5_takeFigures_25 (by decide) (fun c25 => ?_) (fun c25 => ?_)
        · have hf := pif_t c25 hf
          exact hB59 x2 v_next c_meaning c_token H locs ls hf hP hD hS (lv_sub hl [0, 1, 2] rfl)
        · have hf := pif_f c25 hf
          refine lv_iload_n hx hb dX5_takeFigures_28 rfl (lv_at hl 2 rfl) ?_
          refine lv_bipush (v := 10) hx hb dX5_takeFigures_29 (by decide) ?_
          refine lv_imul hx hb dX5_takeFigures_31 ?_
          refine lv_aload_n hx hb dX5_takeFigures_32 rfl (lv_at hl 0 rfl) ?_
          refine va_get (D := D) (ci := 5) (v := .ref a_bytes) (C := RX5) (T := TX5) (N := 6) hx hb hL inlX5 hown hK.1 hP 0 rfl rfl 4 (by decide) w5 (fun _ h9 => h9) rfl dX5_takeFigures_33 ?_
          refine lv_aload_n hx hb dX5_takeFigures_36 rfl (lv_at hl 0 rfl) ?_
          refine va_get (D := D) (ci := 5) (v := .int v_next) (C := RX5) (T := TX5) (N := 6) hx hb hL inlX5 hown hK.1 hP 0 rfl rfl 5 (by decide) w2 (fun _ h9 => h9) rfl dX5_takeFigures_37 ?_
          obtain ⟨h40, hf⟩ := pg_some hf
          refine va_bald hx hb hK.1 hP 1 2 rfl rfl h40 dX5_takeFigures_40 ?_
          refine lv_bipush (v := 48) hx hb dX5_takeFigures_41 (by decide) ?_
          refine lv_isub hx hb dX5_takeFigures_43 ?_
          refine lv_iadd hx hb dX5_takeFigures_44 ?_
          refine lv_istore_n (lv' := [(2, .int ((x2 * 10) + ((c_bytes v_next.toNatClampNeg) - 48))), (0, .ref h0), (1, .int x1)]) hx hb dX5_takeFigures_45 rfl hl (by decide) rfl (fun ls hl => ?_)
          refine lv_aload_n hx hb dX5_takeFigures_46 rfl (lv_at hl 1 rfl) ?_
          refine lv_dup hx hb dX5_takeFigures_47 rfl ?_
          refine va_get (D := D) (ci := 5) (v := .int v_next) (C := RX5) (T := TX5) (N := 6) hx hb hL inlX5 hown hK.1 hP 0 rfl rfl 5 (by decide) w2 (fun _ h9 => h9) rfl dX5_takeFigures_48 ?_
          refine lv_iconst (v := 1) hx hb dX5_takeFigures_51 (by decide) ?_
          refine lv_iadd hx hb dX5_takeFigures_52 ?_
          refine va_put (D := D) (ci := 5) (v := .int (v_next + 1)) (ty := .int) (C := RX5) (T := TX5) (N := 6) hx hb hL inlX5 tyX5 tyX5_ok nmX5 hown hK.1 hP hD hS 0 rfl rfl 5 (by decide) w2 (fun _ h9 => h9) rfl (by decide +kernel) rfl rfl (Nat.le_of_ble_eq_true rfl) dX5_takeFigures_53 (fun H locs hP hD hS => ?_)
          have hP : va_P D vwCl [(h0, .inr (5, [.ref a_token, .ref a_start, .ref a_meaning, .int v_length, .ref a_bytes, .int (v_next + 1)])), (a_bytes, .inl (cyB, 240, .inl c_bytes)), (a_meaning, .inl (cyI, 241, .inl c_meaning)), (a_start, .inl (cyI, 241, .inl c_start)), (a_token, .inl (cyI, 241, .inl c_token))] H := hP
          have hD : va_D A [(h0, .inr (5, [.ref a_token, .ref a_start, .ref a_meaning, .int v_length, .ref a_bytes, .int (v_next + 1)])), (a_bytes, .inl (cyB, 240, .inl c_bytes)), (a_meaning, .inl (cyI, 241, .inl c_meaning)), (a_start, .inl (cyI, 241, .inl c_start)), (a_token, .inl (cyI, 241, .inl c_token))] := hD
          refine lv_goto (tgt := 2) hx hb dX5_takeFigures_56 (by decide) ?_
          exact hk2 ((x2 * 10) + ((c_bytes v_next.toNatClampNeg) - 48)) (v_next + 1) c_meaning c_token H locs ls hf hP hD hS (lv_sub hl [1, 2, 0] rfl)
  unfold fX5_takeFigures at hf
  obtain ⟨H, hH⟩ : ∃ H : Heap, H = s.heap := ⟨_, rfl⟩
  obtain ⟨locs, hlo⟩ : ∃ locs : List Loc, locs = [] := ⟨_, rfl⟩
  have hP : va_P D vwCl [(h0, .inr (5, [.ref a_token, .ref a_start, .ref a_meaning, .int v_length, .ref a_bytes, .int v_next])), (a_bytes, .inl (cyB, 240, .inl c_bytes)), (a_meaning, .inl (cyI, 241, .inl c_meaning)), (a_start, .inl (cyI, 241, .inl c_start)), (a_token, .inl (cyI, 241, .inl c_token))] H := by rw [hH]; exact hP
  have hS : va_S A s.heap H locs := by rw [hH, hlo]; exact hS
  suffices hw : W p l e rmX5_takeFigures s m av below meth c H locs 0 0 Q (F0 m 0 ls []) by rw [hH, hlo] at hw; exact hw
  refine lv_iconst (v := 0) hx hb dX5_takeFigures_0 (by decide) ?_
  refine lv_istore_n (lv' := [(2, .int 0), (0, .ref h0), (1, .int x1)]) hx hb dX5_takeFigures_1 rfl hl (by decide) rfl (fun ls hl => ?_)
  exact hB2 N 0 v_next c_meaning c_token H locs ls hf hP hD hS (lv_sub hl [1, 2, 0] rfl)
abbrev rmX1_fail : Room := { frames := 0, cells := 0, slots := 0, locals := 0 }
set_option maxHeartbeats 40000000 in
set_option maxRecDepth 100000 in
theorem mX1_fail (l : Launch) (D : va_G) (cyI cyJ cyB cyS : ClassId) (N : Nat) (sz : Nat) (h0 : Nat) (a_tape : Nat) (a_tape_start : Nat) (a_draft : Nat) (a_told : Nat) (a_tape_token : Nat) (a_tape_meaning : Nat) (a_tape_bytes : Nat) (v_lines : Int32) (v_flaw : Int32) (v_flawPlace : Int32) (v_at : Int32) (v_tape_length : Int32) (v_tape_next : Int32) (c_tape_start : Nat → Int32) (x1 : Int32) (q : Int32 × Int32 × Int32) (hf : fX1_fail N v_at v_flaw v_flawPlace c_tape_start x1 = some q) : Met l yX1_fail (wS yX1_fail cX1_fail 2 (some .boolean)) rmX1_fail (va_Pc [.ref h0, .int x1] (PP D cyI cyJ cyB cyS [(h0, .inr (1, [.ref a_tape, .ref a_draft, .int v_lines, .int v_flaw, .int v_flawPlace, .ref a_told, .int v_at])), (a_tape, .inr (5, [.ref a_tape_token, .ref a_tape_start, .ref a_tape_meaning, .int v_tape_length, .ref a_tape_bytes, .int v_tape_next])), (a_tape_start, .inl (cyI, 241, .inl c_tape_start))] sz)) (QI q.1 D [(h0, .inr (1, [.ref a_tape, .ref a_draft, .int v_lines, .int q.2.1, .int q.2.2, .ref a_told, .int v_at])), (a_tape, .inr (5, [.ref a_tape_token, .ref a_tape_start, .ref a_tape_meaning, .int v_tape_length, .ref a_tape_bytes, .int v_tape_next])), (a_tape_start, .inl (cyI, 241, .inl c_tape_start))] (va_A [(h0, .inr (1, [.ref a_tape, .ref a_draft, .int v_lines, .int v_flaw, .int v_flawPlace, .ref a_told, .int v_at])), (a_tape, .inr (5, [.ref a_tape_token, .ref a_tape_start, .ref a_tape_meaning, .int v_tape_length, .ref a_tape_bytes, .int v_tape_next])), (a_tape_start, .inl (cyI, 241, .inl c_tape_start))] sz)) 0 0 (va_A [(h0, .inr (1, [.ref a_tape, .ref a_draft, .int v_lines, .int v_flaw, .int v_flawPlace, .ref a_told, .int v_at])), (a_tape, .inr (5, [.ref a_tape_token, .ref a_tape_start, .ref a_tape_meaning, .int v_tape_length, .ref a_tape_bytes, .int v_tape_next])), (a_tape_start, .inl (cyI, 241, .inl c_tape_start))] sz) := by
  refine Met.ofW (cc := cX1_fail) (maxL := 2) (ret := (some .boolean)) (by decide) rfl ?_
  intro p e s m args below meth c s₁ B hml hv
  obtain ⟨rfl, hsz, hP, hK, hD0⟩ := hv
  have hx := B.exec
  have hb := B.bytes
  have hr := B.returns
  have hts := atoms_spec (ws := (wS yX1_fail cX1_fail 2 (some .boolean))) B.pre
  have hown : s.vm.findClass RX1 = some m.cls := findClass_of_methodNamed B.named
  have hlocks := B.notSynchronized
  subst hsz
  have hD := hD0.self (sz := s.heap.size)
  refine w_nameQ (fun Q hQ => ?_)
  have hl := lv_entry ([.ref h0, .int x1] : List Value) (n := 2) (Nat.le_of_ble_eq_true rfl)
  rw [lg_entry_eq]
  generalize (lg_sl ([.ref h0, .int x1] : List Value) ++ List.replicate (2 - (lg_sl ([.ref h0, .int x1] : List Value)).length) Slot.unset).toArray = ls at hl ⊢
  have hl : lv_has ls 2 [(0, .ref h0), (1, .int x1)] := hl
  generalize hAe : va_A [(h0, .inr (1, [.ref a_tape, .ref a_draft, .int v_lines, .int v_flaw, .int v_flawPlace, .ref a_told, .int v_at])), (a_tape, .inr (5, [.ref a_tape_token, .ref a_tape_start, .ref a_tape_meaning, .int v_tape_length, .ref a_tape_bytes, .int v_tape_next])), (a_tape_start, .inl (cyI, 241, .inl c_tape_start))] s.heap.size = A at hD hQ
  have hA : ∀ q : Nat, s.heap.size ≤ q → A q := fun q h => by rw [← hAe]; exact Or.inr h
  have hS : va_S A s.heap s.heap [] := va_S.rf
  generalize ([.ref h0, .int x1] : List Value).toArray = av at hts hQ ⊢
  have hL : ∀ w ∈ wsL_law, w.before av s = true := fun w h => hts w (List.mem_cons_of_mem _ h)
  have w0 := hL (.fieldLink RX1 33 "LosingLeague$Reader" "flaw" "I") (hR9 3 rfl)
  have w1 := hL (.fieldLink RX1 12 "LosingLeague$Reader" "tape" "LLosingLeague$Tape;") (hR4 0 rfl)
  have w2 := hL (.fieldLink RX1 75 "LosingLeague$Tape" "start" "[I") (hR13 14 rfl)
  have w3 := hL (.fieldLink RX1 39 "LosingLeague$Reader" "at" "I") (hR9 5 rfl)
  have w4 := hL (.fieldLink RX1 36 "LosingLeague$Reader" "flawPlace" "I") (hR9 4 rfl)
  unfold fX1_fail at hf
  obtain ⟨H, hH⟩ : ∃ H : Heap, H = s.heap := ⟨_, rfl⟩
  obtain ⟨locs, hlo⟩ : ∃ locs : List Loc, locs = [] := ⟨_, rfl⟩
  have hP : va_P D vwCl [(h0, .inr (1, [.ref a_tape, .ref a_draft, .int v_lines, .int v_flaw, .int v_flawPlace, .ref a_told, .int v_at])), (a_tape, .inr (5, [.ref a_tape_token, .ref a_tape_start, .ref a_tape_meaning, .int v_tape_length, .ref a_tape_bytes, .int v_tape_next])), (a_tape_start, .inl (cyI, 241, .inl c_tape_start))] H := by rw [hH]; exact hP
  have hS : va_S A s.heap H locs := by rw [hH, hlo]; exact hS
  suffices hw : W p l e rmX1_fail s m av below meth c H locs 0 0 Q (F0 m 0 ls []) by rw [hH, hlo] at hw; exact hw
  refine lv_aload_n hx hb dX1_fail_0 rfl (lv_at hl 0 rfl) ?_
  refine lv_iload_n hx hb dX1_fail_1 rfl (lv_at hl 1 rfl) ?_
  refine va_put (D := D) (ci := 1) (v := .int x1) (ty := .int) (C := RX1) (T := TX1) (N := 7) hx hb hL inlX1 tyX1 tyX1_ok nmX1 hown hK.1 hP hD hS 0 rfl rfl 3 (by decide) w0 (fun _ h9 => h9) rfl (by decide +kernel) rfl rfl (Nat.le_of_ble_eq_true rfl) dX1_fail_2 (fun H locs hP hD hS => ?_)
  have hP : va_P D vwCl [(h0, .inr (1, [.ref a_tape, .ref a_draft, .int v_lines, .int x1, .int v_flawPlace, .ref a_told, .int v_at])), (a_tape, .inr (5, [.ref a_tape_token, .ref a_tape_start, .ref a_tape_meaning, .int v_tape_length, .ref a_tape_bytes, .int v_tape_next])), (a_tape_start, .inl (cyI, 241, .inl c_tape_start))] H := hP
  have hD : va_D A [(h0, .inr (1, [.ref a_tape, .ref a_draft, .int v_lines, .int x1, .int v_flawPlace, .ref a_told, .int v_at])), (a_tape, .inr (5, [.ref a_tape_token, .ref a_tape_start, .ref a_tape_meaning, .int v_tape_length, .ref a_tape_bytes, .int v_tape_next])), (a_tape_start, .inl (cyI, 241, .inl c_tape_start))] := hD
  refine lv_aload_n hx hb dX1_fail_5 rfl (lv_at hl 0 rfl) ?_
  refine lv_aload_n hx hb dX1_fail_6 rfl (lv_at hl 0 rfl) ?_
  refine va_get (D := D) (ci := 1) (v := .ref a_tape) (C := RX1) (T := TX1) (N := 7) hx hb hL inlX1 hown hK.1 hP 0 rfl rfl 0 (by decide) w1 (fun _ h9 => h9) rfl dX1_fail_7 ?_
  refine va_get (D := D) (ci := 5) (v := .ref a_tape_start) (C := RX5) (T := TX5) (N := 6) hx hb hL inlX5 hown hK.1 hP 1 rfl rfl 1 (by decide) w2 (fun _ h9 => h9) rfl dX1_fail_10 ?_
  refine lv_aload_n hx hb dX1_fail_13 rfl (lv_at hl 0 rfl) ?_
  refine va_get (D := D) (ci := 1) (v := .int v_at) (C := RX1) (T := TX1) (N := 7) hx hb hL inlX1 hown hK.1 hP 0 rfl rfl 6 (by decide) w3 (fun _ h9 => h9) rfl dX1_fail_14 ?_
  obtain ⟨h17, hf⟩ := pg_some hf
  refine va_iald hx hb hK.1 hP 2 0 rfl rfl h17 dX1_fail_17 ?_
  refine va_put (D := D) (ci := 1) (v := .int (c_tape_start v_at.toNatClampNeg)) (ty := .int) (C := RX1) (T := TX1) (N := 7) hx hb hL inlX1 tyX1 tyX1_ok nmX1 hown hK.1 hP hD hS 0 rfl rfl 4 (by decide) w4 (fun _ h9 => h9) rfl (by decide +kernel) rfl rfl (Nat.le_of_ble_eq_true rfl) dX1_fail_18 (fun H locs hP hD hS => ?_)
  have hP : va_P D vwCl [(h0, .inr (1, [.ref a_tape, .ref a_draft, .int v_lines, .int x1, .int (c_tape_start v_at.toNatClampNeg), .ref a_told, .int v_at])), (a_tape, .inr (5, [.ref a_tape_token, .ref a_tape_start, .ref a_tape_meaning, .int v_tape_length, .ref a_tape_bytes, .int v_tape_next])), (a_tape_start, .inl (cyI, 241, .inl c_tape_start))] H := hP
  have hD : va_D A [(h0, .inr (1, [.ref a_tape, .ref a_draft, .int v_lines, .int x1, .int (c_tape_start v_at.toNatClampNeg), .ref a_told, .int v_at])), (a_tape, .inr (5, [.ref a_tape_token, .ref a_tape_start, .ref a_tape_meaning, .int v_tape_length, .ref a_tape_bytes, .int v_tape_next])), (a_tape_start, .inl (cyI, 241, .inl c_tape_start))] := hD
  refine lv_iconst (v := 0) hx hb dX1_fail_21 (by decide) ?_
  exact ret_z (q := q) (g := fun q => q.1) (wp := fun q => [(h0, .inr (1, [.ref a_tape, .ref a_draft, .int v_lines, .int q.2.1, .int q.2.2, .ref a_told, .int v_at])), (a_tape, .inr (5, [.ref a_tape_token, .ref a_tape_start, .ref a_tape_meaning, .int v_tape_length, .ref a_tape_bytes, .int v_tape_next])), (a_tape_start, .inl (cyI, 241, .inl c_tape_start))]) hQ hf hx hb hr hlocks rfl hP hD hS dX1_fail_22 rfl
abbrev rmX1_fitsTogether : Room := { frames := 2, cells := 0, slots := 0, locals := 42 }
set_option maxHeartbeats 40000000 in
set_option maxRecDepth 100000 in
theorem mX1_fitsTogether (l : Launch) (D : va_G) (cyI cyJ cyB cyS : ClassId) (N : Nat) (sz : Nat) (h0 : Nat) (a_draft : Nat) (a_draft_balls : Nat) (a_draft_wheel : Nat) (a_tape : Nat) (a_tape_start : Nat) (a_told : Nat) (a_draft_strength : Nat) (a_draft_placeWorth : Nat) (a_draft_choiceWorth : Nat) (a_tape_token : Nat) (a_tape_meaning : Nat) (a_tape_bytes : Nat) (v_lines : Int32) (v_flaw : Int32) (v_flawPlace : Int32) (v_at : Int32) (v_draft_sides : Int32) (v_draft_kind : Int32) (v_draft_rounds : Int32) (c_draft_balls : Nat → Int32) (c_draft_wheel : Nat → Int32) (v_tape_length : Int32) (v_tape_next : Int32) (c_tape_start : Nat → Int32) (q : Int32 × Int32 × Int32) (hf : fX1_fitsTogether N v_at v_flaw v_flawPlace v_draft_kind v_draft_sides c_draft_balls c_draft_wheel c_tape_start = some q) : Met l yX1_fitsTogether (wS yX1_fitsTogether cX1_fitsTogether 3 (some .boolean)) rmX1_fitsTogether (va_Pc [.ref h0] (PP D cyI cyJ cyB cyS [(h0, .inr (1, [.ref a_tape, .ref a_draft, .int v_lines, .int v_flaw, .int v_flawPlace, .ref a_told, .int v_at])), (a_draft, .inr (2, [.ref a_draft_strength, .ref a_draft_placeWorth, .ref a_draft_choiceWorth, .ref a_draft_balls, .ref a_draft_wheel, .int v_draft_sides, .int v_draft_kind, .int v_draft_rounds])), (a_draft_balls, .inl (cyI, 6, .inl c_draft_balls)), (a_draft_wheel, .inl (cyI, 6, .inl c_draft_wheel)), (a_tape, .inr (5, [.ref a_tape_token, .ref a_tape_start, .ref a_tape_meaning, .int v_tape_length, .ref a_tape_bytes, .int v_tape_next])), (a_tape_start, .inl (cyI, 241, .inl c_tape_start))] sz)) (QI q.1 D [(h0, .inr (1, [.ref a_tape, .ref a_draft, .int v_lines, .int q.2.1, .int q.2.2, .ref a_told, .int v_at])), (a_draft, .inr (2, [.ref a_draft_strength, .ref a_draft_placeWorth, .ref a_draft_choiceWorth, .ref a_draft_balls, .ref a_draft_wheel, .int v_draft_sides, .int v_draft_kind, .int v_draft_rounds])), (a_draft_balls, .inl (cyI, 6, .inl c_draft_balls)), (a_draft_wheel, .inl (cyI, 6, .inl c_draft_wheel)), (a_tape, .inr (5, [.ref a_tape_token, .ref a_tape_start, .ref a_tape_meaning, .int v_tape_length, .ref a_tape_bytes, .int v_tape_next])), (a_tape_start, .inl (cyI, 241, .inl c_tape_start))] (va_A [(h0, .inr (1, [.ref a_tape, .ref a_draft, .int v_lines, .int v_flaw, .int v_flawPlace, .ref a_told, .int v_at])), (a_draft, .inr (2, [.ref a_draft_strength, .ref a_draft_placeWorth, .ref a_draft_choiceWorth, .ref a_draft_balls, .ref a_draft_wheel, .int v_draft_sides, .int v_draft_kind, .int v_draft_rounds])), (a_draft_balls, .inl (cyI, 6, .inl c_draft_balls)), (a_draft_wheel, .inl (cyI, 6, .inl c_draft_wheel)), (a_tape, .inr (5, [.ref a_tape_token, .ref a_tape_start, .ref a_tape_meaning, .int v_tape_length, .ref a_tape_bytes, .int v_tape_next])), (a_tape_start, .inl (cyI, 241, .inl c_tape_start))] sz)) 0 0 (va_A [(h0, .inr (1, [.ref a_tape, .ref a_draft, .int v_lines, .int v_flaw, .int v_flawPlace, .ref a_told, .int v_at])), (a_draft, .inr (2, [.ref a_draft_strength, .ref a_draft_placeWorth, .ref a_draft_choiceWorth, .ref a_draft_balls, .ref a_draft_wheel, .int v_draft_sides, .int v_draft_kind, .int v_draft_rounds])), (a_draft_balls, .inl (cyI, 6, .inl c_draft_balls)), (a_draft_wheel, .inl (cyI, 6, .inl c_draft_wheel)), (a_tape, .inr (5, [.ref a_tape_token, .ref a_tape_start, .ref a_tape_meaning, .int v_tape_length, .ref a_tape_bytes, .int v_tape_next])), (a_tape_start, .inl (cyI, 241, .inl c_tape_start))] sz) := by
  refine Met.ofW (cc := cX1_fitsTogether) (maxL := 3) (ret := (some .boolean)) (by decide) rfl ?_
  intro p e s m args below meth c s₁ B hml hv
  obtain ⟨rfl, hsz, hP, hK, hD0⟩ := hv
  have hx := B.exec
  have hb := B.bytes
  have hr := B.returns
  have hts := atoms_spec (ws := (wS yX1_fitsTogether cX1_fitsTogether 3 (some .boolean))) B.pre
  have hown : s.vm.findClass RX1 = some m.cls := findClass_of_methodNamed B.named
  have hlocks := B.notSynchronized
  subst hsz
  have hD := hD0.self (sz := s.heap.size)
  refine w_nameQ (fun Q hQ => ?_)
  have hl := lv_entry ([.ref h0] : List Value) (n := 3) (Nat.le_of_ble_eq_true rfl)
  rw [lg_entry_eq]
  generalize (lg_sl ([.ref h0] : List Value) ++ List.replicate (3 - (lg_sl ([.ref h0] : List Value)).length) Slot.unset).toArray = ls at hl ⊢
  have hl : lv_has ls 3 [(0, .ref h0)] := hl
  generalize hAe : va_A [(h0, .inr (1, [.ref a_tape, .ref a_draft, .int v_lines, .int v_flaw, .int v_flawPlace, .ref a_told, .int v_at])), (a_draft, .inr (2, [.ref a_draft_strength, .ref a_draft_placeWorth, .ref a_draft_choiceWorth, .ref a_draft_balls, .ref a_draft_wheel, .int v_draft_sides, .int v_draft_kind, .int v_draft_rounds])), (a_draft_balls, .inl (cyI, 6, .inl c_draft_balls)), (a_draft_wheel, .inl (cyI, 6, .inl c_draft_wheel)), (a_tape, .inr (5, [.ref a_tape_token, .ref a_tape_start, .ref a_tape_meaning, .int v_tape_length, .ref a_tape_bytes, .int v_tape_next])), (a_tape_start, .inl (cyI, 241, .inl c_tape_start))] s.heap.size = A at hD hQ
  have hA : ∀ q : Nat, s.heap.size ≤ q → A q := fun q h => by rw [← hAe]; exact Or.inr h
  have hS : va_S A s.heap s.heap [] := va_S.rf
  generalize ([.ref h0] : List Value).toArray = av at hts hQ ⊢
  have hL : ∀ w ∈ wsL_law, w.before av s = true := fun w h => hts w (List.mem_cons_of_mem _ h)
  have w0 := hL (.fieldLink RX1 21 "LosingLeague$Reader" "draft" "LLosingLeague$Rules;") (hR4 2 rfl)
  have w1 := hL (.fieldLink RX1 61 "LosingLeague$Rules" "kind" "I") (hR14 7 rfl)
  have hB72 : ∀ (s0 : Int32) (v_flaw : Int32) (v_flawPlace : Int32) (H : Heap) (locs : List Loc) (ls : Array Slot), fX1_fitsTogether_72 N v_at v_draft_kind v_draft_sides c_draft_balls c_draft_wheel c_tape_start s0 v_flaw v_flawPlace = some q → va_P D vwCl [(h0, .inr (1, [.ref a_tape, .ref a_draft, .int v_lines, .int v_flaw, .int v_flawPlace, .ref a_told, .int v_at])), (a_draft, .inr (2, [.ref a_draft_strength, .ref a_draft_placeWorth, .ref a_draft_choiceWorth, .ref a_draft_balls, .ref a_draft_wheel, .int v_draft_sides, .int v_draft_kind, .int v_draft_rounds])), (a_draft_balls, .inl (cyI, 6, .inl c_draft_balls)), (a_draft_wheel, .inl (cyI, 6, .inl c_draft_wheel)), (a_tape, .inr (5, [.ref a_tape_token, .ref a_tape_start, .ref a_tape_meaning, .int v_tape_length, .ref a_tape_bytes, .int v_tape_next])), (a_tape_start, .inl (cyI, 241, .inl c_tape_start))] H → va_D A [(h0, .inr (1, [.ref a_tape, .ref a_draft, .int v_lines, .int v_flaw, .int v_flawPlace, .ref a_told, .int v_at])), (a_draft, .inr (2, [.ref a_draft_strength, .ref a_draft_placeWorth, .ref a_draft_choiceWorth, .ref a_draft_balls, .ref a_draft_wheel, .int v_draft_sides, .int v_draft_kind, .int v_draft_rounds])), (a_draft_balls, .inl (cyI, 6, .inl c_draft_balls)), (a_draft_wheel, .inl (cyI, 6, .inl c_draft_wheel)), (a_tape, .inr (5, [.ref a_tape_token, .ref a_tape_start, .ref a_tape_meaning, .int v_tape_length, .ref a_tape_bytes, .int v_tape_next])), (a_tape_start, .inl (cyI, 241, .inl c_tape_start))] → va_S A s.heap H locs → lv_has ls 3 [] → W p l e rmX1_fitsTogether s m av below meth c H locs 0 0 Q (F0 m 72 ls [.int s0]) := by
    intro s0 v_flaw v_flawPlace H locs ls hf hP hD hS hl
    unfold fX1_fitsTogether_72 at hf
    obtain ⟨n72, hf⟩ := pg_some hf
    exact ret_z (q := q) (g := fun q => q.1) (wp := fun q => [(h0, .inr (1, [.ref a_tape, .ref a_draft, .int v_lines, .int q.2.1, .int q.2.2, .ref a_told, .int v_at])), (a_draft, .inr (2, [.ref a_draft_strength, .ref a_draft_placeWorth, .ref a_draft_choiceWorth, .ref a_draft_balls, .ref a_draft_wheel, .int v_draft_sides, .int v_draft_kind, .int v_draft_rounds])), (a_draft_balls, .inl (cyI, 6, .inl c_draft_balls)), (a_draft_wheel, .inl (cyI, 6, .inl c_draft_wheel)), (a_tape, .inr (5, [.ref a_tape_token, .ref a_tape_start, .ref a_tape_meaning, .int v_tape_length, .ref a_tape_bytes, .int v_tape_next])), (a_tape_start, .inl (cyI, 241, .inl c_tape_start))]) hQ hf hx hb hr hlocks (isB_n n72) hP hD hS dX1_fitsTogether_72 rfl
  have hB62 : ∀ (v_flaw : Int32) (v_flawPlace : Int32) (H : Heap) (locs : List Loc) (ls : Array Slot), fX1_fitsTogether_62 N v_at v_draft_kind v_draft_sides c_draft_balls c_draft_wheel c_tape_start v_flaw v_flawPlace = some q → va_P D vwCl [(h0, .inr (1, [.ref a_tape, .ref a_draft, .int v_lines, .int v_flaw, .int v_flawPlace, .ref a_told, .int v_at])), (a_draft, .inr (2, [.ref a_draft_strength, .ref a_draft_placeWorth, .ref a_draft_choiceWorth, .ref a_draft_balls, .ref a_draft_wheel, .int v_draft_sides, .int v_draft_kind, .int v_draft_rounds])), (a_draft_balls, .inl (cyI, 6, .inl c_draft_balls)), (a_draft_wheel, .inl (cyI, 6, .inl c_draft_wheel)), (a_tape, .inr (5, [.ref a_tape_token, .ref a_tape_start, .ref a_tape_meaning, .int v_tape_length, .ref a_tape_bytes, .int v_tape_next])), (a_tape_start, .inl (cyI, 241, .inl c_tape_start))] H → va_D A [(h0, .inr (1, [.ref a_tape, .ref a_draft, .int v_lines, .int v_flaw, .int v_flawPlace, .ref a_told, .int v_at])), (a_draft, .inr (2, [.ref a_draft_strength, .ref a_draft_placeWorth, .ref a_draft_choiceWorth, .ref a_draft_balls, .ref a_draft_wheel, .int v_draft_sides, .int v_draft_kind, .int v_draft_rounds])), (a_draft_balls, .inl (cyI, 6, .inl c_draft_balls)), (a_draft_wheel, .inl (cyI, 6, .inl c_draft_wheel)), (a_tape, .inr (5, [.ref a_tape_token, .ref a_tape_start, .ref a_tape_meaning, .int v_tape_length, .ref a_tape_bytes, .int v_tape_next])), (a_tape_start, .inl (cyI, 241, .inl c_tape_start))] → va_S A s.heap H locs → lv_has ls 3 [(0, .ref h0)] → W p l e rmX1_fitsTogether s m av below meth c H locs 0 0 Q (F0 m 62 ls []) := by
    intro v_flaw v_flawPlace H locs ls hf hP hD hS hl
    unfold fX1_fitsTogether_62 at hf
    refine lv_aload_n hx hb dX1_fitsTogether_62 rfl (lv_at hl 0 rfl) ?_
    refine lv_bipush (v := 6) hx hb dX1_fitsTogether_63 (by decide) ?_
    obtain ⟨q65, e65, hf⟩ := pb_some hf
    refine cc_i (wc := [(h0, .inr (1, [.ref a_tape, .ref a_draft, .int v_lines, .int v_flaw, .int v_flawPlace, .ref a_told, .int v_at])), (a_tape, .inr (5, [.ref a_tape_token, .ref a_tape_start, .ref a_tape_meaning, .int v_tape_length, .ref a_tape_bytes, .int v_tape_next])), (a_tape_start, .inl (cyI, 241, .inl c_tape_start))]) (wr := [(a_draft, .inr (2, [.ref a_draft_strength, .ref a_draft_placeWorth, .ref a_draft_choiceWorth, .ref a_draft_balls, .ref a_draft_wheel, .int v_draft_sides, .int v_draft_kind, .int v_draft_rounds])), (a_draft_balls, .inl (cyI, 6, .inl c_draft_balls)), (a_draft_wheel, .inl (cyI, 6, .inl c_draft_wheel))]) (w1 := [(h0, .inr (1, [.ref a_tape, .ref a_draft, .int v_lines, .int q65.2.1, .int q65.2.2, .ref a_told, .int v_at])), (a_tape, .inr (5, [.ref a_tape_token, .ref a_tape_start, .ref a_tape_meaning, .int v_tape_length, .ref a_tape_bytes, .int v_tape_next])), (a_tape_start, .inl (cyI, 241, .inl c_tape_start))]) (wn := [(h0, .inr (1, [.ref a_tape, .ref a_draft, .int v_lines, .int q65.2.1, .int q65.2.2, .ref a_told, .int v_at])), (a_draft, .inr (2, [.ref a_draft_strength, .ref a_draft_placeWorth, .ref a_draft_choiceWorth, .ref a_draft_balls, .ref a_draft_wheel, .int v_draft_sides, .int v_draft_kind, .int v_draft_rounds])), (a_draft_balls, .inl (cyI, 6, .inl c_draft_balls)), (a_draft_wheel, .inl (cyI, 6, .inl c_draft_wheel)), (a_tape, .inr (5, [.ref a_tape_token, .ref a_tape_start, .ref a_tape_meaning, .int v_tape_length, .ref a_tape_bytes, .int v_tape_next])), (a_tape_start, .inl (cyI, 241, .inl c_tape_start))]) hP hD hS hA [0, 4, 5] [1, 2, 3] [3, 0, 1, 2, 4, 5] rfl rfl rfl (by decide) rfl rfl (va_runV (C := RX1) (As := [.int 6]) (rest := []) ⟨hx, hb, hml, hown, hL⟩ (mX1_fail l D cyI cyJ cyB cyS N H.size h0 a_tape a_tape_start a_draft a_told a_tape_token a_tape_meaning a_tape_bytes v_lines v_flaw v_flawPlace v_at v_tape_length v_tape_next c_tape_start 6 q65 e65) (cwV 1 hL (gV (hR13 10 rfl) (hR13 11 rfl) (hR13 12 rfl) (hR2 3 rfl) (hR13 13 rfl)) rfl rfl rfl (by decide +kernel) ⟨Nat.le_of_ble_eq_true rfl, Nat.le_of_ble_eq_true rfl⟩) (PP_preV (ci := 1) (q0 := 0) hP hD hK [0, 4, 5] rfl rfl rfl rfl) rfl rfl hl.1 rfl (lv_room (Nat.le_of_ble_eq_true rfl)) dX1_fitsTogether_65 ⟨Nat.le_of_ble_eq_true rfl, Nat.le_of_ble_eq_true rfl⟩) (fun H locs hP hD hS => ?_)
    refine lv_goto (tgt := 72) hx hb dX1_fitsTogether_68 (by decide) ?_
    exact hB72 q65.1 q65.2.1 q65.2.2 H locs ls hf hP hD hS (lv_sub hl [] rfl)
  have hB53 : ∀ (x1 : Int32) (s0 : Int32) (v_flaw : Int32) (v_flawPlace : Int32) (H : Heap) (locs : List Loc) (ls : Array Slot), fX1_fitsTogether_53 N v_at v_draft_kind v_draft_sides c_draft_balls c_draft_wheel c_tape_start x1 s0 v_flaw v_flawPlace = some q → va_P D vwCl [(h0, .inr (1, [.ref a_tape, .ref a_draft, .int v_lines, .int v_flaw, .int v_flawPlace, .ref a_told, .int v_at])), (a_draft, .inr (2, [.ref a_draft_strength, .ref a_draft_placeWorth, .ref a_draft_choiceWorth, .ref a_draft_balls, .ref a_draft_wheel, .int v_draft_sides, .int v_draft_kind, .int v_draft_rounds])), (a_draft_balls, .inl (cyI, 6, .inl c_draft_balls)), (a_draft_wheel, .inl (cyI, 6, .inl c_draft_wheel)), (a_tape, .inr (5, [.ref a_tape_token, .ref a_tape_start, .ref a_tape_meaning, .int v_tape_length, .ref a_tape_bytes, .int v_tape_next])), (a_tape_start, .inl (cyI, 241, .inl c_tape_start))] H → va_D A [(h0, .inr (1, [.ref a_tape, .ref a_draft, .int v_lines, .int v_flaw, .int v_flawPlace, .ref a_told, .int v_at])), (a_draft, .inr (2, [.ref a_draft_strength, .ref a_draft_placeWorth, .ref a_draft_choiceWorth, .ref a_draft_balls, .ref a_draft_wheel, .int v_draft_sides, .int v_draft_kind, .int v_draft_rounds])), (a_draft_balls, .inl (cyI, 6, .inl c_draft_balls)), (a_draft_wheel, .inl (cyI, 6, .inl c_draft_wheel)), (a_tape, .inr (5, [.ref a_tape_token, .ref a_tape_start, .ref a_tape_meaning, .int v_tape_length, .ref a_tape_bytes, .int v_tape_next])), (a_tape_start, .inl (cyI, 241, .inl c_tape_start))] → va_S A s.heap H locs → lv_has ls 3 [(0, .ref h0), (1, .int x1)] → W p l e rmX1_fitsTogether s m av below meth c H locs 0 0 Q (F0 m 53 ls [.int s0]) := by
    intro x1 s0 v_flaw v_flawPlace H locs ls hf hP hD hS hl
    unfold fX1_fitsTogether_53 at hf
    refine lv_istore_n (lv' := [(2, .int s0), (0, .ref h0), (1, .int x1)]) hx hb dX1_fitsTogether_53 rfl hl (by decide) rfl (fun ls hl => ?_)
    refine lv_iload_n hx hb dX1_fitsTogether_54 rfl (lv_at hl 2 rfl) ?_
    refine lv_if_ne (tgt := 62) hx hb dX1_fitsTogether_55 (by decide) (fun c55 => ?_) (fun c55 => ?_)
    · have hf := pif_f c55 hf
      exact hB62 v_flaw v_flawPlace H locs ls hf hP hD hS (lv_sub hl [1] rfl)
    · have hf := pif_t c55 hf
      refine lv_iload_n hx hb dX1_fitsTogether_58 rfl (lv_at hl 0 rfl) ?_
      refine lv_if_eq (tgt := 71) hx hb dX1_fitsTogether_59 (by decide) (fun c59 => ?_) (fun c59 => ?_)
      · have hf := pif_t c59 hf
        refine lv_iconst (v := 1) hx hb dX1_fitsTogether_71 (by decide) ?_
        exact hB72 1 v_flaw v_flawPlace H locs ls hf hP hD hS (lv_sub hl [] rfl)
      · have hf := pif_f c59 hf
        exact hB62 v_flaw v_flawPlace H locs ls hf hP hD hS (lv_sub hl [1] rfl)
  have hB52 : ∀ (x1 : Int32) (v_flaw : Int32) (v_flawPlace : Int32) (H : Heap) (locs : List Loc) (ls : Array Slot), fX1_fitsTogether_52 N v_at v_draft_kind v_draft_sides c_draft_balls c_draft_wheel c_tape_start x1 v_flaw v_flawPlace = some q → va_P D vwCl [(h0, .inr (1, [.ref a_tape, .ref a_draft, .int v_lines, .int v_flaw, .int v_flawPlace, .ref a_told, .int v_at])), (a_draft, .inr (2, [.ref a_draft_strength, .ref a_draft_placeWorth, .ref a_draft_choiceWorth, .ref a_draft_balls, .ref a_draft_wheel, .int v_draft_sides, .int v_draft_kind, .int v_draft_rounds])), (a_draft_balls, .inl (cyI, 6, .inl c_draft_balls)), (a_draft_wheel, .inl (cyI, 6, .inl c_draft_wheel)), (a_tape, .inr (5, [.ref a_tape_token, .ref a_tape_start, .ref a_tape_meaning, .int v_tape_length, .ref a_tape_bytes, .int v_tape_next])), (a_tape_start, .inl (cyI, 241, .inl c_tape_start))] H → va_D A [(h0, .inr (1, [.ref a_tape, .ref a_draft, .int v_lines, .int v_flaw, .int v_flawPlace, .ref a_told, .int v_at])), (a_draft, .inr (2, [.ref a_draft_strength, .ref a_draft_placeWorth, .ref a_draft_choiceWorth, .ref a_draft_balls, .ref a_draft_wheel, .int v_draft_sides, .int v_draft_kind, .int v_draft_rounds])), (a_draft_balls, .inl (cyI, 6, .inl c_draft_balls)), (a_draft_wheel, .inl (cyI, 6, .inl c_draft_wheel)), (a_tape, .inr (5, [.ref a_tape_token, .ref a_tape_start, .ref a_tape_meaning, .int v_tape_length, .ref a_tape_bytes, .int v_tape_next])), (a_tape_start, .inl (cyI, 241, .inl c_tape_start))] → va_S A s.heap H locs → lv_has ls 3 [(0, .ref h0), (1, .int x1)] → W p l e rmX1_fitsTogether s m av below meth c H locs 0 0 Q (F0 m 52 ls []) := by
    intro x1 v_flaw v_flawPlace H locs ls hf hP hD hS hl
    unfold fX1_fitsTogether_52 at hf
    refine lv_iconst (v := 0) hx hb dX1_fitsTogether_52 (by decide) ?_
    exact hB53 x1 0 v_flaw v_flawPlace H locs ls hf hP hD hS (lv_sub hl [0, 1] rfl)
  have hB26 : ∀ (s0 : Int32) (v_flaw : Int32) (v_flawPlace : Int32) (H : Heap) (locs : List Loc) (ls : Array Slot), fX1_fitsTogether_26 N v_at v_draft_kind v_draft_sides c_draft_balls c_draft_wheel c_tape_start s0 v_flaw v_flawPlace = some q → va_P D vwCl [(h0, .inr (1, [.ref a_tape, .ref a_draft, .int v_lines, .int v_flaw, .int v_flawPlace, .ref a_told, .int v_at])), (a_draft, .inr (2, [.ref a_draft_strength, .ref a_draft_placeWorth, .ref a_draft_choiceWorth, .ref a_draft_balls, .ref a_draft_wheel, .int v_draft_sides, .int v_draft_kind, .int v_draft_rounds])), (a_draft_balls, .inl (cyI, 6, .inl c_draft_balls)), (a_draft_wheel, .inl (cyI, 6, .inl c_draft_wheel)), (a_tape, .inr (5, [.ref a_tape_token, .ref a_tape_start, .ref a_tape_meaning, .int v_tape_length, .ref a_tape_bytes, .int v_tape_next])), (a_tape_start, .inl (cyI, 241, .inl c_tape_start))] H → va_D A [(h0, .inr (1, [.ref a_tape, .ref a_draft, .int v_lines, .int v_flaw, .int v_flawPlace, .ref a_told, .int v_at])), (a_draft, .inr (2, [.ref a_draft_strength, .ref a_draft_placeWorth, .ref a_draft_choiceWorth, .ref a_draft_balls, .ref a_draft_wheel, .int v_draft_sides, .int v_draft_kind, .int v_draft_rounds])), (a_draft_balls, .inl (cyI, 6, .inl c_draft_balls)), (a_draft_wheel, .inl (cyI, 6, .inl c_draft_wheel)), (a_tape, .inr (5, [.ref a_tape_token, .ref a_tape_start, .ref a_tape_meaning, .int v_tape_length, .ref a_tape_bytes, .int v_tape_next])), (a_tape_start, .inl (cyI, 241, .inl c_tape_start))] → va_S A s.heap H locs → lv_has ls 3 [(0, .ref h0)] → W p l e rmX1_fitsTogether s m av below meth c H locs 0 0 Q (F0 m 26 ls [.int s0]) := by
    intro s0 v_flaw v_flawPlace H locs ls hf hP hD hS hl
    unfold fX1_fitsTogether_26 at hf
    refine lv_istore_n (lv' := [(1, .int s0), (0, .ref h0)]) hx hb dX1_fitsTogether_26 rfl hl (by decide) rfl (fun ls hl => ?_)
    refine lv_aload_n hx hb dX1_fitsTogether_27 rfl (lv_at hl 1 rfl) ?_
    refine va_get (D := D) (ci := 1) (v := .ref a_draft) (C := RX1) (T := TX1) (N := 7) hx hb hL inlX1 hown hK.1 hP 0 rfl rfl 1 (by decide) w0 (fun _ h9 => h9) rfl dX1_fitsTogether_28 ?_
    refine va_get (D := D) (ci := 2) (v := .int v_draft_kind) (C := RX2) (T := TX2) (N := 8) hx hb hL inlX2 hown hK.1 hP 1 rfl rfl 6 (by decide) w1 (fun _ h9 => h9) rfl dX1_fitsTogether_31 ?_
    refine lv_iconst (v := 3) hx hb dX1_fitsTogether_34 (by decide) ?_
    refine lv_icmp_ne (tgt := 52) hx hb dX1_fitsTogether_35 (by decide) (fun c35 => ?_) (fun c35 => ?_)
    · have hf := pif_f c35 hf
      exact hB52 s0 v_flaw v_flawPlace H locs ls hf hP hD hS (lv_sub hl [1, 0] rfl)
    · have hf := pif_t c35 hf
      refine lv_aload_n hx hb dX1_fitsTogether_38 rfl (lv_at hl 1 rfl) ?_
      refine va_get (D := D) (ci := 1) (v := .ref a_draft) (C := RX1) (T := TX1) (N := 7) hx hb hL inlX1 hown hK.1 hP 0 rfl rfl 1 (by decide) w0 (fun _ h9 => h9) rfl dX1_fitsTogether_39 ?_
      obtain ⟨q42, e42, hf⟩ := pb_some hf
      refine cc_i (wc := [(a_draft, .inr (2, [.ref a_draft_strength, .ref a_draft_placeWorth, .ref a_draft_choiceWorth, .ref a_draft_balls, .ref a_draft_wheel, .int v_draft_sides, .int v_draft_kind, .int v_draft_rounds])), (a_draft_wheel, .inl (cyI, 6, .inl c_draft_wheel))]) (wr := [(h0, .inr (1, [.ref a_tape, .ref a_draft, .int v_lines, .int v_flaw, .int v_flawPlace, .ref a_told, .int v_at])), (a_draft_balls, .inl (cyI, 6, .inl c_draft_balls)), (a_tape, .inr (5, [.ref a_tape_token, .ref a_tape_start, .ref a_tape_meaning, .int v_tape_length, .ref a_tape_bytes, .int v_tape_next])), (a_tape_start, .inl (cyI, 241, .inl c_tape_start))]) (w1 := [(a_draft, .inr (2, [.ref a_draft_strength, .ref a_draft_placeWorth, .ref a_draft_choiceWorth, .ref a_draft_balls, .ref a_draft_wheel, .int v_draft_sides, .int v_draft_kind, .int v_draft_rounds])), (a_draft_wheel, .inl (cyI, 6, .inl c_draft_wheel))]) (wn := [(h0, .inr (1, [.ref a_tape, .ref a_draft, .int v_lines, .int v_flaw, .int v_flawPlace, .ref a_told, .int v_at])), (a_draft, .inr (2, [.ref a_draft_strength, .ref a_draft_placeWorth, .ref a_draft_choiceWorth, .ref a_draft_balls, .ref a_draft_wheel, .int v_draft_sides, .int v_draft_kind, .int v_draft_rounds])), (a_draft_balls, .inl (cyI, 6, .inl c_draft_balls)), (a_draft_wheel, .inl (cyI, 6, .inl c_draft_wheel)), (a_tape, .inr (5, [.ref a_tape_token, .ref a_tape_start, .ref a_tape_meaning, .int v_tape_length, .ref a_tape_bytes, .int v_tape_next])), (a_tape_start, .inl (cyI, 241, .inl c_tape_start))]) hP hD hS hA [1, 3] [0, 2, 4, 5] [0, 4, 1, 5, 2, 3] rfl rfl rfl (by decide) rfl rfl (va_runV (C := RX2) (As := []) (rest := []) ⟨hx, hb, hml, hown, hL⟩ (mX2_wheelHasTwice l D cyI cyJ cyB cyS N H.size a_draft a_draft_wheel a_draft_strength a_draft_placeWorth a_draft_choiceWorth a_draft_balls v_draft_sides v_draft_kind v_draft_rounds c_draft_wheel  q42 e42) (cwV 0 hL (gV (hR15 5 rfl) (hR15 6 rfl) (hR15 7 rfl) (hR1 15 rfl) (hR15 8 rfl)) rfl rfl rfl (by decide +kernel) ⟨Nat.le_of_ble_eq_true rfl, Nat.le_of_ble_eq_true rfl⟩) (PP_preV (ci := 2) (q0 := 1) hP hD hK [1, 3] rfl rfl rfl rfl) rfl rfl hl.1 rfl (lv_room (Nat.le_of_ble_eq_true rfl)) dX1_fitsTogether_42 ⟨Nat.le_of_ble_eq_true rfl, Nat.le_of_ble_eq_true rfl⟩) (fun H locs hP hD hS => ?_)
      refine lv_if_eq (tgt := 52) hx hb dX1_fitsTogether_45 (by decide) (fun c45 => ?_) (fun c45 => ?_)
      · have hf := pif_t c45 hf
        exact hB52 s0 v_flaw v_flawPlace H locs ls hf hP hD hS (lv_sub hl [1, 0] rfl)
      · have hf := pif_f c45 hf
        refine lv_iconst (v := 1) hx hb dX1_fitsTogether_48 (by decide) ?_
        refine lv_goto (tgt := 53) hx hb dX1_fitsTogether_49 (by decide) ?_
        exact hB53 s0 1 v_flaw v_flawPlace H locs ls hf hP hD hS (lv_sub hl [1, 0] rfl)
  have hB25 : ∀ (v_flaw : Int32) (v_flawPlace : Int32) (H : Heap) (locs : List Loc) (ls : Array Slot), fX1_fitsTogether_25 N v_at v_draft_kind v_draft_sides c_draft_balls c_draft_wheel c_tape_start v_flaw v_flawPlace = some q → va_P D vwCl [(h0, .inr (1, [.ref a_tape, .ref a_draft, .int v_lines, .int v_flaw, .int v_flawPlace, .ref a_told, .int v_at])), (a_draft, .inr (2, [.ref a_draft_strength, .ref a_draft_placeWorth, .ref a_draft_choiceWorth, .ref a_draft_balls, .ref a_draft_wheel, .int v_draft_sides, .int v_draft_kind, .int v_draft_rounds])), (a_draft_balls, .inl (cyI, 6, .inl c_draft_balls)), (a_draft_wheel, .inl (cyI, 6, .inl c_draft_wheel)), (a_tape, .inr (5, [.ref a_tape_token, .ref a_tape_start, .ref a_tape_meaning, .int v_tape_length, .ref a_tape_bytes, .int v_tape_next])), (a_tape_start, .inl (cyI, 241, .inl c_tape_start))] H → va_D A [(h0, .inr (1, [.ref a_tape, .ref a_draft, .int v_lines, .int v_flaw, .int v_flawPlace, .ref a_told, .int v_at])), (a_draft, .inr (2, [.ref a_draft_strength, .ref a_draft_placeWorth, .ref a_draft_choiceWorth, .ref a_draft_balls, .ref a_draft_wheel, .int v_draft_sides, .int v_draft_kind, .int v_draft_rounds])), (a_draft_balls, .inl (cyI, 6, .inl c_draft_balls)), (a_draft_wheel, .inl (cyI, 6, .inl c_draft_wheel)), (a_tape, .inr (5, [.ref a_tape_token, .ref a_tape_start, .ref a_tape_meaning, .int v_tape_length, .ref a_tape_bytes, .int v_tape_next])), (a_tape_start, .inl (cyI, 241, .inl c_tape_start))] → va_S A s.heap H locs → lv_has ls 3 [(0, .ref h0)] → W p l e rmX1_fitsTogether s m av below meth c H locs 0 0 Q (F0 m 25 ls []) := by
    intro v_flaw v_flawPlace H locs ls hf hP hD hS hl
    unfold fX1_fitsTogether_25 at hf
    refine lv_iconst (v := 0) hx hb dX1_fitsTogether_25 (by decide) ?_
    exact hB26 0 v_flaw v_flawPlace H locs ls hf hP hD hS (lv_sub hl [0] rfl)
  unfold fX1_fitsTogether at hf
  obtain ⟨H, hH⟩ : ∃ H : Heap, H = s.heap := ⟨_, rfl⟩
  obtain ⟨locs, hlo⟩ : ∃ locs : List Loc, locs = [] := ⟨_, rfl⟩
  have hP : va_P D vwCl [(h0, .inr (1, [.ref a_tape, .ref a_draft, .int v_lines, .int v_flaw, .int v_flawPlace, .ref a_told, .int v_at])), (a_draft, .inr (2, [.ref a_draft_strength, .ref a_draft_placeWorth, .ref a_draft_choiceWorth, .ref a_draft_balls, .ref a_draft_wheel, .int v_draft_sides, .int v_draft_kind, .int v_draft_rounds])), (a_draft_balls, .inl (cyI, 6, .inl c_draft_balls)), (a_draft_wheel, .inl (cyI, 6, .inl c_draft_wheel)), (a_tape, .inr (5, [.ref a_tape_token, .ref a_tape_start, .ref a_tape_meaning, .int v_tape_length, .ref a_tape_bytes, .int v_tape_next])), (a_tape_start, .inl (cyI, 241, .inl c_tape_start))] H := by rw [hH]; exact hP
  have hS : va_S A s.heap H locs := by rw [hH, hlo]; exact hS
  suffices hw : W p l e rmX1_fitsTogether s m av below meth c H locs 0 0 Q (F0 m 0 ls []) by rw [hH, hlo] at hw; exact hw
  refine lv_aload_n hx hb dX1_fitsTogether_0 rfl (lv_at hl 0 rfl) ?_
  refine va_get (D := D) (ci := 1) (v := .ref a_draft) (C := RX1) (T := TX1) (N := 7) hx hb hL inlX1 hown hK.1 hP 0 rfl rfl 1 (by decide) w0 (fun _ h9 => h9) rfl dX1_fitsTogether_1 ?_
  refine va_get (D := D) (ci := 2) (v := .int v_draft_kind) (C := RX2) (T := TX2) (N := 8) hx hb hL inlX2 hown hK.1 hP 1 rfl rfl 6 (by decide) w1 (fun _ h9 => h9) rfl dX1_fitsTogether_4 ?_
  refine lv_iconst (v := 1) hx hb dX1_fitsTogether_7 (by decide) ?_
  refine lv_icmp_ne (tgt := 25) hx hb dX1_fitsTogether_8 (by decide) (fun c8 => ?_) (fun c8 => ?_)
  · have hf := pif_f c8 hf
    exact hB25 v_flaw v_flawPlace H locs ls hf hP hD hS (lv_sub hl [0] rfl)
  · have hf := pif_t c8 hf
    refine lv_aload_n hx hb dX1_fitsTogether_11 rfl (lv_at hl 0 rfl) ?_
    refine va_get (D := D) (ci := 1) (v := .ref a_draft) (C := RX1) (T := TX1) (N := 7) hx hb hL inlX1 hown hK.1 hP 0 rfl rfl 1 (by decide) w0 (fun _ h9 => h9) rfl dX1_fitsTogether_12 ?_
    obtain ⟨q15, e15, hf⟩ := pb_some hf
    refine cc_i (wc := [(a_draft, .inr (2, [.ref a_draft_strength, .ref a_draft_placeWorth, .ref a_draft_choiceWorth, .ref a_draft_balls, .ref a_draft_wheel, .int v_draft_sides, .int v_draft_kind, .int v_draft_rounds])), (a_draft_balls, .inl (cyI, 6, .inl c_draft_balls))]) (wr := [(h0, .inr (1, [.ref a_tape, .ref a_draft, .int v_lines, .int v_flaw, .int v_flawPlace, .ref a_told, .int v_at])), (a_draft_wheel, .inl (cyI, 6, .inl c_draft_wheel)), (a_tape, .inr (5, [.ref a_tape_token, .ref a_tape_start, .ref a_tape_meaning, .int v_tape_length, .ref a_tape_bytes, .int v_tape_next])), (a_tape_start, .inl (cyI, 241, .inl c_tape_start))]) (w1 := [(a_draft, .inr (2, [.ref a_draft_strength, .ref a_draft_placeWorth, .ref a_draft_choiceWorth, .ref a_draft_balls, .ref a_draft_wheel, .int v_draft_sides, .int v_draft_kind, .int v_draft_rounds])), (a_draft_balls, .inl (cyI, 6, .inl c_draft_balls))]) (wn := [(h0, .inr (1, [.ref a_tape, .ref a_draft, .int v_lines, .int v_flaw, .int v_flawPlace, .ref a_told, .int v_at])), (a_draft, .inr (2, [.ref a_draft_strength, .ref a_draft_placeWorth, .ref a_draft_choiceWorth, .ref a_draft_balls, .ref a_draft_wheel, .int v_draft_sides, .int v_draft_kind, .int v_draft_rounds])), (a_draft_balls, .inl (cyI, 6, .inl c_draft_balls)), (a_draft_wheel, .inl (cyI, 6, .inl c_draft_wheel)), (a_tape, .inr (5, [.ref a_tape_token, .ref a_tape_start, .ref a_tape_meaning, .int v_tape_length, .ref a_tape_bytes, .int v_tape_next])), (a_tape_start, .inl (cyI, 241, .inl c_tape_start))]) hP hD hS hA [1, 2] [0, 3, 4, 5] [0, 4, 5, 1, 2, 3] rfl rfl rfl (by decide) rfl rfl (va_runV (C := RX2) (As := []) (rest := []) ⟨hx, hb, hml, hown, hL⟩ (mX2_allBalls l D cyI cyJ cyB cyS N H.size a_draft a_draft_balls a_draft_strength a_draft_placeWorth a_draft_choiceWorth a_draft_wheel v_draft_sides v_draft_kind v_draft_rounds c_draft_balls  q15 e15) (cwV 0 hL (gV (hR15 1 rfl) (hR15 2 rfl) (hR15 3 rfl) (hR1 15 rfl) (hR15 4 rfl)) rfl rfl rfl (by decide +kernel) ⟨Nat.le_of_ble_eq_true rfl, Nat.le_of_ble_eq_true rfl⟩) (PP_preV (ci := 2) (q0 := 1) hP hD hK [1, 2] rfl rfl rfl rfl) rfl rfl hl.1 rfl (lv_room (Nat.le_of_ble_eq_true rfl)) dX1_fitsTogether_15 ⟨Nat.le_of_ble_eq_true rfl, Nat.le_of_ble_eq_true rfl⟩) (fun H locs hP hD hS => ?_)
    refine lv_if_ne (tgt := 25) hx hb dX1_fitsTogether_18 (by decide) (fun c18 => ?_) (fun c18 => ?_)
    · have hf := pif_f c18 hf
      exact hB25 v_flaw v_flawPlace H locs ls hf hP hD hS (lv_sub hl [0] rfl)
    · have hf := pif_t c18 hf
      refine lv_iconst (v := 1) hx hb dX1_fitsTogether_21 (by decide) ?_
      refine lv_goto (tgt := 26) hx hb dX1_fitsTogether_22 (by decide) ?_
      exact hB26 1 v_flaw v_flawPlace H locs ls hf hP hD hS (lv_sub hl [0] rfl)
abbrev rmX1_isDue : Room := { frames := 1, cells := 0, slots := 0, locals := 21 }
set_option maxHeartbeats 40000000 in
set_option maxRecDepth 100000 in
theorem mX1_isDue (l : Launch) (D : va_G) (cyI cyJ cyB cyS : ClassId) (N : Nat) (sz : Nat) (h0 : Nat) (a_tape : Nat) (a_tape_start : Nat) (a_tape_token : Nat) (a_draft : Nat) (a_told : Nat) (a_tape_meaning : Nat) (a_tape_bytes : Nat) (v_lines : Int32) (v_flaw : Int32) (v_flawPlace : Int32) (v_at : Int32) (v_tape_length : Int32) (v_tape_next : Int32) (c_tape_start : Nat → Int32) (c_tape_token : Nat → Int32) (x1 : Int32) (q : Int32 × Int32 × Int32) (hf : fX1_isDue N v_at v_flaw v_flawPlace c_tape_start c_tape_token x1 = some q) : Met l yX1_isDue (wS yX1_isDue cX1_isDue 2 (some .boolean)) rmX1_isDue (va_Pc [.ref h0, .int x1] (PP D cyI cyJ cyB cyS [(h0, .inr (1, [.ref a_tape, .ref a_draft, .int v_lines, .int v_flaw, .int v_flawPlace, .ref a_told, .int v_at])), (a_tape, .inr (5, [.ref a_tape_token, .ref a_tape_start, .ref a_tape_meaning, .int v_tape_length, .ref a_tape_bytes, .int v_tape_next])), (a_tape_start, .inl (cyI, 241, .inl c_tape_start)), (a_tape_token, .inl (cyI, 241, .inl c_tape_token))] sz)) (QI q.1 D [(h0, .inr (1, [.ref a_tape, .ref a_draft, .int v_lines, .int q.2.1, .int q.2.2, .ref a_told, .int v_at])), (a_tape, .inr (5, [.ref a_tape_token, .ref a_tape_start, .ref a_tape_meaning, .int v_tape_length, .ref a_tape_bytes, .int v_tape_next])), (a_tape_start, .inl (cyI, 241, .inl c_tape_start)), (a_tape_token, .inl (cyI, 241, .inl c_tape_token))] (va_A [(h0, .inr (1, [.ref a_tape, .ref a_draft, .int v_lines, .int v_flaw, .int v_flawPlace, .ref a_told, .int v_at])), (a_tape, .inr (5, [.ref a_tape_token, .ref a_tape_start, .ref a_tape_meaning, .int v_tape_length, .ref a_tape_bytes, .int v_tape_next])), (a_tape_start, .inl (cyI, 241, .inl c_tape_start)), (a_tape_token, .inl (cyI, 241, .inl c_tape_token))] sz)) 0 0 (va_A [(h0, .inr (1, [.ref a_tape, .ref a_draft, .int v_lines, .int v_flaw, .int v_flawPlace, .ref a_told, .int v_at])), (a_tape, .inr (5, [.ref a_tape_token, .ref a_tape_start, .ref a_tape_meaning, .int v_tape_length, .ref a_tape_bytes, .int v_tape_next])), (a_tape_start, .inl (cyI, 241, .inl c_tape_start)), (a_tape_token, .inl (cyI, 241, .inl c_tape_token))] sz) := by
  refine Met.ofW (cc := cX1_isDue) (maxL := 2) (ret := (some .boolean)) (by decide) rfl ?_
  intro p e s m args below meth c s₁ B hml hv
  obtain ⟨rfl, hsz, hP, hK, hD0⟩ := hv
  have hx := B.exec
  have hb := B.bytes
  have hr := B.returns
  have hts := atoms_spec (ws := (wS yX1_isDue cX1_isDue 2 (some .boolean))) B.pre
  have hown : s.vm.findClass RX1 = some m.cls := findClass_of_methodNamed B.named
  have hlocks := B.notSynchronized
  subst hsz
  have hD := hD0.self (sz := s.heap.size)
  refine w_nameQ (fun Q hQ => ?_)
  have hl := lv_entry ([.ref h0, .int x1] : List Value) (n := 2) (Nat.le_of_ble_eq_true rfl)
  rw [lg_entry_eq]
  generalize (lg_sl ([.ref h0, .int x1] : List Value) ++ List.replicate (2 - (lg_sl ([.ref h0, .int x1] : List Value)).length) Slot.unset).toArray = ls at hl ⊢
  have hl : lv_has ls 2 [(0, .ref h0), (1, .int x1)] := hl
  generalize hAe : va_A [(h0, .inr (1, [.ref a_tape, .ref a_draft, .int v_lines, .int v_flaw, .int v_flawPlace, .ref a_told, .int v_at])), (a_tape, .inr (5, [.ref a_tape_token, .ref a_tape_start, .ref a_tape_meaning, .int v_tape_length, .ref a_tape_bytes, .int v_tape_next])), (a_tape_start, .inl (cyI, 241, .inl c_tape_start)), (a_tape_token, .inl (cyI, 241, .inl c_tape_token))] s.heap.size = A at hD hQ
  have hA : ∀ q : Nat, s.heap.size ≤ q → A q := fun q h => by rw [← hAe]; exact Or.inr h
  have hS : va_S A s.heap s.heap [] := va_S.rf
  generalize ([.ref h0, .int x1] : List Value).toArray = av at hts hQ ⊢
  have hL : ∀ w ∈ wsL_law, w.before av s = true := fun w h => hts w (List.mem_cons_of_mem _ h)
  have w0 := hL (.fieldLink RX1 12 "LosingLeague$Reader" "tape" "LLosingLeague$Tape;") (hR4 0 rfl)
  have w1 := hL (.fieldLink RX1 48 "LosingLeague$Tape" "token" "[I") (hR9 6 rfl)
  have w2 := hL (.fieldLink RX1 39 "LosingLeague$Reader" "at" "I") (hR9 5 rfl)
  have hB51 : ∀ (s0 : Int32) (v_flaw : Int32) (v_flawPlace : Int32) (H : Heap) (locs : List Loc) (ls : Array Slot), fX1_isDue_51 N v_at c_tape_start c_tape_token x1 s0 v_flaw v_flawPlace = some q → va_P D vwCl [(h0, .inr (1, [.ref a_tape, .ref a_draft, .int v_lines, .int v_flaw, .int v_flawPlace, .ref a_told, .int v_at])), (a_tape, .inr (5, [.ref a_tape_token, .ref a_tape_start, .ref a_tape_meaning, .int v_tape_length, .ref a_tape_bytes, .int v_tape_next])), (a_tape_start, .inl (cyI, 241, .inl c_tape_start)), (a_tape_token, .inl (cyI, 241, .inl c_tape_token))] H → va_D A [(h0, .inr (1, [.ref a_tape, .ref a_draft, .int v_lines, .int v_flaw, .int v_flawPlace, .ref a_told, .int v_at])), (a_tape, .inr (5, [.ref a_tape_token, .ref a_tape_start, .ref a_tape_meaning, .int v_tape_length, .ref a_tape_bytes, .int v_tape_next])), (a_tape_start, .inl (cyI, 241, .inl c_tape_start)), (a_tape_token, .inl (cyI, 241, .inl c_tape_token))] → va_S A s.heap H locs → lv_has ls 2 [] → W p l e rmX1_isDue s m av below meth c H locs 0 0 Q (F0 m 51 ls [.int s0]) := by
    intro s0 v_flaw v_flawPlace H locs ls hf hP hD hS hl
    unfold fX1_isDue_51 at hf
    obtain ⟨n51, hf⟩ := pg_some hf
    exact ret_z (q := q) (g := fun q => q.1) (wp := fun q => [(h0, .inr (1, [.ref a_tape, .ref a_draft, .int v_lines, .int q.2.1, .int q.2.2, .ref a_told, .int v_at])), (a_tape, .inr (5, [.ref a_tape_token, .ref a_tape_start, .ref a_tape_meaning, .int v_tape_length, .ref a_tape_bytes, .int v_tape_next])), (a_tape_start, .inl (cyI, 241, .inl c_tape_start)), (a_tape_token, .inl (cyI, 241, .inl c_tape_token))]) hQ hf hx hb hr hlocks (isB_n n51) hP hD hS dX1_isDue_51 rfl
  have hB46 : ∀ (v_flaw : Int32) (v_flawPlace : Int32) (H : Heap) (locs : List Loc) (ls : Array Slot), fX1_isDue_46 N v_at c_tape_start c_tape_token x1 v_flaw v_flawPlace = some q → va_P D vwCl [(h0, .inr (1, [.ref a_tape, .ref a_draft, .int v_lines, .int v_flaw, .int v_flawPlace, .ref a_told, .int v_at])), (a_tape, .inr (5, [.ref a_tape_token, .ref a_tape_start, .ref a_tape_meaning, .int v_tape_length, .ref a_tape_bytes, .int v_tape_next])), (a_tape_start, .inl (cyI, 241, .inl c_tape_start)), (a_tape_token, .inl (cyI, 241, .inl c_tape_token))] H → va_D A [(h0, .inr (1, [.ref a_tape, .ref a_draft, .int v_lines, .int v_flaw, .int v_flawPlace, .ref a_told, .int v_at])), (a_tape, .inr (5, [.ref a_tape_token, .ref a_tape_start, .ref a_tape_meaning, .int v_tape_length, .ref a_tape_bytes, .int v_tape_next])), (a_tape_start, .inl (cyI, 241, .inl c_tape_start)), (a_tape_token, .inl (cyI, 241, .inl c_tape_token))] → va_S A s.heap H locs → lv_has ls 2 [] → W p l e rmX1_isDue s m av below meth c H locs 0 0 Q (F0 m 46 ls []) := by
    intro v_flaw v_flawPlace H locs ls hf hP hD hS hl
    unfold fX1_isDue_46 at hf
    refine lv_iconst (v := 1) hx hb dX1_isDue_46 (by decide) ?_
    refine lv_goto (tgt := 51) hx hb dX1_isDue_47 (by decide) ?_
    exact hB51 1 v_flaw v_flawPlace H locs ls hf hP hD hS (lv_sub hl [] rfl)
  unfold fX1_isDue at hf
  obtain ⟨H, hH⟩ : ∃ H : Heap, H = s.heap := ⟨_, rfl⟩
  obtain ⟨locs, hlo⟩ : ∃ locs : List Loc, locs = [] := ⟨_, rfl⟩
  have hP : va_P D vwCl [(h0, .inr (1, [.ref a_tape, .ref a_draft, .int v_lines, .int v_flaw, .int v_flawPlace, .ref a_told, .int v_at])), (a_tape, .inr (5, [.ref a_tape_token, .ref a_tape_start, .ref a_tape_meaning, .int v_tape_length, .ref a_tape_bytes, .int v_tape_next])), (a_tape_start, .inl (cyI, 241, .inl c_tape_start)), (a_tape_token, .inl (cyI, 241, .inl c_tape_token))] H := by rw [hH]; exact hP
  have hS : va_S A s.heap H locs := by rw [hH, hlo]; exact hS
  suffices hw : W p l e rmX1_isDue s m av below meth c H locs 0 0 Q (F0 m 0 ls []) by rw [hH, hlo] at hw; exact hw
  refine lv_aload_n hx hb dX1_isDue_0 rfl (lv_at hl 0 rfl) ?_
  refine va_get (D := D) (ci := 1) (v := .ref a_tape) (C := RX1) (T := TX1) (N := 7) hx hb hL inlX1 hown hK.1 hP 0 rfl rfl 0 (by decide) w0 (fun _ h9 => h9) rfl dX1_isDue_1 ?_
  refine va_get (D := D) (ci := 5) (v := .ref a_tape_token) (C := RX5) (T := TX5) (N := 6) hx hb hL inlX5 hown hK.1 hP 1 rfl rfl 0 (by decide) w1 (fun _ h9 => h9) rfl dX1_isDue_4 ?_
  refine lv_aload_n hx hb dX1_isDue_7 rfl (lv_at hl 0 rfl) ?_
  refine va_get (D := D) (ci := 1) (v := .int v_at) (C := RX1) (T := TX1) (N := 7) hx hb hL inlX1 hown hK.1 hP 0 rfl rfl 6 (by decide) w2 (fun _ h9 => h9) rfl dX1_isDue_8 ?_
  obtain ⟨h11, hf⟩ := pg_some hf
  refine va_iald hx hb hK.1 hP 3 0 rfl rfl h11 dX1_isDue_11 ?_
  refine lv_iconst (v := 4) hx hb dX1_isDue_12 (by decide) ?_
  refine lv_icmp_ne (tgt := 22) hx hb dX1_isDue_13 (by decide) (fun c13 => ?_) (fun c13 => ?_)
  · have hf := pif_f c13 hf
    refine lv_aload_n hx hb dX1_isDue_22 rfl (lv_at hl 0 rfl) ?_
    refine va_get (D := D) (ci := 1) (v := .ref a_tape) (C := RX1) (T := TX1) (N := 7) hx hb hL inlX1 hown hK.1 hP 0 rfl rfl 0 (by decide) w0 (fun _ h9 => h9) rfl dX1_isDue_23 ?_
    refine va_get (D := D) (ci := 5) (v := .ref a_tape_token) (C := RX5) (T := TX5) (N := 6) hx hb hL inlX5 hown hK.1 hP 1 rfl rfl 0 (by decide) w1 (fun _ h9 => h9) rfl dX1_isDue_26 ?_
    refine lv_aload_n hx hb dX1_isDue_29 rfl (lv_at hl 0 rfl) ?_
    refine va_get (D := D) (ci := 1) (v := .int v_at) (C := RX1) (T := TX1) (N := 7) hx hb hL inlX1 hown hK.1 hP 0 rfl rfl 6 (by decide) w2 (fun _ h9 => h9) rfl dX1_isDue_30 ?_
    obtain ⟨h33, hf⟩ := pg_some hf
    refine va_iald hx hb hK.1 hP 3 0 rfl rfl h33 dX1_isDue_33 ?_
    refine lv_iload_n hx hb dX1_isDue_34 rfl (lv_at hl 1 rfl) ?_
    refine lv_icmp_eq (tgt := 46) hx hb dX1_isDue_35 (by decide) (fun c35 => ?_) (fun c35 => ?_)
    · have hf := pif_t c35 hf
      exact hB46 v_flaw v_flawPlace H locs ls hf hP hD hS (lv_sub hl [] rfl)
    · have hf := pif_f c35 hf
      refine lv_aload_n hx hb dX1_isDue_38 rfl (lv_at hl 0 rfl) ?_
      refine lv_iconst (v := 2) hx hb dX1_isDue_39 (by decide) ?_
      obtain ⟨q40, e40, hf⟩ := pb_some hf
      refine cc_i (wc := [(h0, .inr (1, [.ref a_tape, .ref a_draft, .int v_lines, .int v_flaw, .int v_flawPlace, .ref a_told, .int v_at])), (a_tape, .inr (5, [.ref a_tape_token, .ref a_tape_start, .ref a_tape_meaning, .int v_tape_length, .ref a_tape_bytes, .int v_tape_next])), (a_tape_start, .inl (cyI, 241, .inl c_tape_start))]) (wr := [(a_tape_token, .inl (cyI, 241, .inl c_tape_token))]) (w1 := [(h0, .inr (1, [.ref a_tape, .ref a_draft, .int v_lines, .int q40.2.1, .int q40.2.2, .ref a_told, .int v_at])), (a_tape, .inr (5, [.ref a_tape_token, .ref a_tape_start, .ref a_tape_meaning, .int v_tape_length, .ref a_tape_bytes, .int v_tape_next])), (a_tape_start, .inl (cyI, 241, .inl c_tape_start))]) (wn := [(h0, .inr (1, [.ref a_tape, .ref a_draft, .int v_lines, .int q40.2.1, .int q40.2.2, .ref a_told, .int v_at])), (a_tape, .inr (5, [.ref a_tape_token, .ref a_tape_start, .ref a_tape_meaning, .int v_tape_length, .ref a_tape_bytes, .int v_tape_next])), (a_tape_start, .inl (cyI, 241, .inl c_tape_start)), (a_tape_token, .inl (cyI, 241, .inl c_tape_token))]) hP hD hS hA [0, 1, 2] [3] [1, 2, 3, 0] rfl rfl rfl (by decide) rfl rfl (va_runV (C := RX1) (As := [.int 2]) (rest := []) ⟨hx, hb, hml, hown, hL⟩ (mX1_fail l D cyI cyJ cyB cyS N H.size h0 a_tape a_tape_start a_draft a_told a_tape_token a_tape_meaning a_tape_bytes v_lines v_flaw v_flawPlace v_at v_tape_length v_tape_next c_tape_start 2 q40 e40) (cwV 1 hL (gV (hR13 10 rfl) (hR13 11 rfl) (hR13 12 rfl) (hR2 3 rfl) (hR13 13 rfl)) rfl rfl rfl (by decide +kernel) ⟨Nat.le_of_ble_eq_true rfl, Nat.le_of_ble_eq_true rfl⟩) (PP_preV (ci := 1) (q0 := 0) hP hD hK [0, 1, 2] rfl rfl rfl rfl) rfl rfl hl.1 rfl (lv_room (Nat.le_of_ble_eq_true rfl)) dX1_isDue_40 ⟨Nat.le_of_ble_eq_true rfl, Nat.le_of_ble_eq_true rfl⟩) (fun H locs hP hD hS => ?_)
      refine lv_if_eq (tgt := 50) hx hb dX1_isDue_43 (by decide) (fun c43 => ?_) (fun c43 => ?_)
      · have hf := pif_t c43 hf
        refine lv_iconst (v := 0) hx hb dX1_isDue_50 (by decide) ?_
        exact hB51 0 q40.2.1 q40.2.2 H locs ls hf hP hD hS (lv_sub hl [] rfl)
      · have hf := pif_f c43 hf
        exact hB46 q40.2.1 q40.2.2 H locs ls hf hP hD hS (lv_sub hl [] rfl)
  · have hf := pif_t c13 hf
    refine lv_aload_n hx hb dX1_isDue_16 rfl (lv_at hl 0 rfl) ?_
    refine lv_iconst (v := 1) hx hb dX1_isDue_17 (by decide) ?_
    obtain ⟨q18, e18, hf⟩ := pb_some hf
    refine cc_i (wc := [(h0, .inr (1, [.ref a_tape, .ref a_draft, .int v_lines, .int v_flaw, .int v_flawPlace, .ref a_told, .int v_at])), (a_tape, .inr (5, [.ref a_tape_token, .ref a_tape_start, .ref a_tape_meaning, .int v_tape_length, .ref a_tape_bytes, .int v_tape_next])), (a_tape_start, .inl (cyI, 241, .inl c_tape_start))]) (wr := [(a_tape_token, .inl (cyI, 241, .inl c_tape_token))]) (w1 := [(h0, .inr (1, [.ref a_tape, .ref a_draft, .int v_lines, .int q18.2.1, .int q18.2.2, .ref a_told, .int v_at])), (a_tape, .inr (5, [.ref a_tape_token, .ref a_tape_start, .ref a_tape_meaning, .int v_tape_length, .ref a_tape_bytes, .int v_tape_next])), (a_tape_start, .inl (cyI, 241, .inl c_tape_start))]) (wn := [(h0, .inr (1, [.ref a_tape, .ref a_draft, .int v_lines, .int q18.2.1, .int q18.2.2, .ref a_told, .int v_at])), (a_tape, .inr (5, [.ref a_tape_token, .ref a_tape_start, .ref a_tape_meaning, .int v_tape_length, .ref a_tape_bytes, .int v_tape_next])), (a_tape_start, .inl (cyI, 241, .inl c_tape_start)), (a_tape_token, .inl (cyI, 241, .inl c_tape_token))]) hP hD hS hA [0, 1, 2] [3] [1, 2, 3, 0] rfl rfl rfl (by decide) rfl rfl (va_runV (C := RX1) (As := [.int 1]) (rest := []) ⟨hx, hb, hml, hown, hL⟩ (mX1_fail l D cyI cyJ cyB cyS N H.size h0 a_tape a_tape_start a_draft a_told a_tape_token a_tape_meaning a_tape_bytes v_lines v_flaw v_flawPlace v_at v_tape_length v_tape_next c_tape_start 1 q18 e18) (cwV 1 hL (gV (hR13 10 rfl) (hR13 11 rfl) (hR13 12 rfl) (hR2 3 rfl) (hR13 13 rfl)) rfl rfl rfl (by decide +kernel) ⟨Nat.le_of_ble_eq_true rfl, Nat.le_of_ble_eq_true rfl⟩) (PP_preV (ci := 1) (q0 := 0) hP hD hK [0, 1, 2] rfl rfl rfl rfl) rfl rfl hl.1 rfl (lv_room (Nat.le_of_ble_eq_true rfl)) dX1_isDue_18 ⟨Nat.le_of_ble_eq_true rfl, Nat.le_of_ble_eq_true rfl⟩) (fun H locs hP hD hS => ?_)
    obtain ⟨n21, hf⟩ := pg_some hf
    exact ret_z (q := q) (g := fun q => q.1) (wp := fun q => [(h0, .inr (1, [.ref a_tape, .ref a_draft, .int v_lines, .int q.2.1, .int q.2.2, .ref a_told, .int v_at])), (a_tape, .inr (5, [.ref a_tape_token, .ref a_tape_start, .ref a_tape_meaning, .int v_tape_length, .ref a_tape_bytes, .int v_tape_next])), (a_tape_start, .inl (cyI, 241, .inl c_tape_start)), (a_tape_token, .inl (cyI, 241, .inl c_tape_token))]) hQ hf hx hb hr hlocks (isB_n n21) hP hD hS dX1_isDue_21 rfl
abbrev rmX1_step : Room := { frames := 0, cells := 0, slots := 0, locals := 0 }
set_option maxHeartbeats 40000000 in
set_option maxRecDepth 100000 in
theorem mX1_step (l : Launch) (D : va_G) (cyI cyJ cyB cyS : ClassId) (N : Nat) (sz : Nat) (h0 : Nat) (a_tape : Nat) (a_draft : Nat) (a_told : Nat) (v_lines : Int32) (v_flaw : Int32) (v_flawPlace : Int32) (v_at : Int32) (q : Int32) (hf : fX1_step N v_at = some q) : Met l yX1_step (wS yX1_step cX1_step 1 none) rmX1_step (va_Pc [.ref h0] (PP D cyI cyJ cyB cyS [(h0, .inr (1, [.ref a_tape, .ref a_draft, .int v_lines, .int v_flaw, .int v_flawPlace, .ref a_told, .int v_at]))] sz)) (QV D [(h0, .inr (1, [.ref a_tape, .ref a_draft, .int v_lines, .int v_flaw, .int v_flawPlace, .ref a_told, .int q]))] (va_A [(h0, .inr (1, [.ref a_tape, .ref a_draft, .int v_lines, .int v_flaw, .int v_flawPlace, .ref a_told, .int v_at]))] sz)) 0 0 (va_A [(h0, .inr (1, [.ref a_tape, .ref a_draft, .int v_lines, .int v_flaw, .int v_flawPlace, .ref a_told, .int v_at]))] sz) := by
  refine Met.ofW (cc := cX1_step) (maxL := 1) (ret := none) (by decide) rfl ?_
  intro p e s m args below meth c s₁ B hml hv
  obtain ⟨rfl, hsz, hP, hK, hD0⟩ := hv
  have hx := B.exec
  have hb := B.bytes
  have hr := B.returns
  have hts := atoms_spec (ws := (wS yX1_step cX1_step 1 none)) B.pre
  have hown : s.vm.findClass RX1 = some m.cls := findClass_of_methodNamed B.named
  have hlocks := B.notSynchronized
  subst hsz
  have hD := hD0.self (sz := s.heap.size)
  refine w_nameQ (fun Q hQ => ?_)
  have hl := lv_entry ([.ref h0] : List Value) (n := 1) (Nat.le_of_ble_eq_true rfl)
  rw [lg_entry_eq]
  generalize (lg_sl ([.ref h0] : List Value) ++ List.replicate (1 - (lg_sl ([.ref h0] : List Value)).length) Slot.unset).toArray = ls at hl ⊢
  have hl : lv_has ls 1 [(0, .ref h0)] := hl
  generalize hAe : va_A [(h0, .inr (1, [.ref a_tape, .ref a_draft, .int v_lines, .int v_flaw, .int v_flawPlace, .ref a_told, .int v_at]))] s.heap.size = A at hD hQ
  have hA : ∀ q : Nat, s.heap.size ≤ q → A q := fun q h => by rw [← hAe]; exact Or.inr h
  have hS : va_S A s.heap s.heap [] := va_S.rf
  generalize ([.ref h0] : List Value).toArray = av at hts hQ ⊢
  have hL : ∀ w ∈ wsL_law, w.before av s = true := fun w h => hts w (List.mem_cons_of_mem _ h)
  have w0 := hL (.fieldLink RX1 39 "LosingLeague$Reader" "at" "I") (hR9 5 rfl)
  have hB20 : ∀ (v_at : Int32) (H : Heap) (locs : List Loc) (ls : Array Slot), fX1_step_20 N v_at = some q → va_P D vwCl [(h0, .inr (1, [.ref a_tape, .ref a_draft, .int v_lines, .int v_flaw, .int v_flawPlace, .ref a_told, .int v_at]))] H → va_D A [(h0, .inr (1, [.ref a_tape, .ref a_draft, .int v_lines, .int v_flaw, .int v_flawPlace, .ref a_told, .int v_at]))] → va_S A s.heap H locs → lv_has ls 1 [] → W p l e rmX1_step s m av below meth c H locs 0 0 Q (F0 m 20 ls []) := by
    intro v_at H locs ls hf hP hD hS hl
    unfold fX1_step_20 at hf
    exact ret_v (q := q) (wp := fun q => [(h0, .inr (1, [.ref a_tape, .ref a_draft, .int v_lines, .int v_flaw, .int v_flawPlace, .ref a_told, .int q]))]) hQ hf hx hb hr hlocks hP hD hS dX1_step_20
  unfold fX1_step at hf
  obtain ⟨H, hH⟩ : ∃ H : Heap, H = s.heap := ⟨_, rfl⟩
  obtain ⟨locs, hlo⟩ : ∃ locs : List Loc, locs = [] := ⟨_, rfl⟩
  have hP : va_P D vwCl [(h0, .inr (1, [.ref a_tape, .ref a_draft, .int v_lines, .int v_flaw, .int v_flawPlace, .ref a_told, .int v_at]))] H := by rw [hH]; exact hP
  have hS : va_S A s.heap H locs := by rw [hH, hlo]; exact hS
  suffices hw : W p l e rmX1_step s m av below meth c H locs 0 0 Q (F0 m 0 ls []) by rw [hH, hlo] at hw; exact hw
  refine lv_aload_n hx hb dX1_step_0 rfl (lv_at hl 0 rfl) ?_
  refine va_get (D := D) (ci := 1) (v := .int v_at) (C := RX1) (T := TX1) (N := 7) hx hb hL inlX1 hown hK.1 hP 0 rfl rfl 6 (by decide) w0 (fun _ h9 => h9) rfl dX1_step_1 ?_
  refine lv_sipush (v := 240) hx hb dX1_step_4 (by decide) ?_
  refine lv_icmp_ge (tgt := 20) hx hb dX1_step_7 (by decide) (fun c7 => ?_) (fun c7 => ?_)
  · have hf := pif_t c7 hf
    exact hB20 v_at H locs ls hf hP hD hS (lv_sub hl [] rfl)
  · have hf := pif_f c7 hf
    refine lv_aload_n hx hb dX1_step_10 rfl (lv_at hl 0 rfl) ?_
    refine lv_dup hx hb dX1_step_11 rfl ?_
    refine va_get (D := D) (ci := 1) (v := .int v_at) (C := RX1) (T := TX1) (N := 7) hx hb hL inlX1 hown hK.1 hP 0 rfl rfl 6 (by decide) w0 (fun _ h9 => h9) rfl dX1_step_12 ?_
    refine lv_iconst (v := 1) hx hb dX1_step_15 (by decide) ?_
    refine lv_iadd hx hb dX1_step_16 ?_
    refine va_put (D := D) (ci := 1) (v := .int (v_at + 1)) (ty := .int) (C := RX1) (T := TX1) (N := 7) hx hb hL inlX1 tyX1 tyX1_ok nmX1 hown hK.1 hP hD hS 0 rfl rfl 6 (by decide) w0 (fun _ h9 => h9) rfl (by decide +kernel) rfl rfl (Nat.le_of_ble_eq_true rfl) dX1_step_17 (fun H locs hP hD hS => ?_)
    have hP : va_P D vwCl [(h0, .inr (1, [.ref a_tape, .ref a_draft, .int v_lines, .int v_flaw, .int v_flawPlace, .ref a_told, .int (v_at + 1)]))] H := hP
    have hD : va_D A [(h0, .inr (1, [.ref a_tape, .ref a_draft, .int v_lines, .int v_flaw, .int v_flawPlace, .ref a_told, .int (v_at + 1)]))] := hD
    exact hB20 (v_at + 1) H locs ls hf hP hD hS (lv_sub hl [] rfl)
abbrev rmX1_takeNumber : Room := { frames := 2, cells := 0, slots := 0, locals := 42 }
set_option maxHeartbeats 40000000 in
set_option maxRecDepth 100000 in
theorem mX1_takeNumber (l : Launch) (D : va_G) (cyI cyJ cyB cyS : ClassId) (N : Nat) (sz : Nat) (h0 : Nat) (a_tape : Nat) (a_tape_meaning : Nat) (a_tape_start : Nat) (a_tape_token : Nat) (a_draft : Nat) (a_told : Nat) (a_tape_bytes : Nat) (v_lines : Int32) (v_flaw : Int32) (v_flawPlace : Int32) (v_at : Int32) (v_tape_length : Int32) (v_tape_next : Int32) (c_tape_meaning : Nat → Int32) (c_tape_start : Nat → Int32) (c_tape_token : Nat → Int32) (x1 : Int32) (x2 : Int32) (q : Int32 × Int32 × Int32 × Int32) (hf : fX1_takeNumber N v_at v_flaw v_flawPlace c_tape_meaning c_tape_start c_tape_token x1 x2 = some q) : Met l yX1_takeNumber (wS yX1_takeNumber cX1_takeNumber 4 (some .boolean)) rmX1_takeNumber (va_Pc [.ref h0, .int x1, .int x2] (PP D cyI cyJ cyB cyS [(h0, .inr (1, [.ref a_tape, .ref a_draft, .int v_lines, .int v_flaw, .int v_flawPlace, .ref a_told, .int v_at])), (a_tape, .inr (5, [.ref a_tape_token, .ref a_tape_start, .ref a_tape_meaning, .int v_tape_length, .ref a_tape_bytes, .int v_tape_next])), (a_tape_meaning, .inl (cyI, 241, .inl c_tape_meaning)), (a_tape_start, .inl (cyI, 241, .inl c_tape_start)), (a_tape_token, .inl (cyI, 241, .inl c_tape_token))] sz)) (QI q.1 D [(h0, .inr (1, [.ref a_tape, .ref a_draft, .int v_lines, .int q.2.2.1, .int q.2.2.2, .ref a_told, .int q.2.1])), (a_tape, .inr (5, [.ref a_tape_token, .ref a_tape_start, .ref a_tape_meaning, .int v_tape_length, .ref a_tape_bytes, .int v_tape_next])), (a_tape_meaning, .inl (cyI, 241, .inl c_tape_meaning)), (a_tape_start, .inl (cyI, 241, .inl c_tape_start)), (a_tape_token, .inl (cyI, 241, .inl c_tape_token))] (va_A [(h0, .inr (1, [.ref a_tape, .ref a_draft, .int v_lines, .int v_flaw, .int v_flawPlace, .ref a_told, .int v_at])), (a_tape, .inr (5, [.ref a_tape_token, .ref a_tape_start, .ref a_tape_meaning, .int v_tape_length, .ref a_tape_bytes, .int v_tape_next])), (a_tape_meaning, .inl (cyI, 241, .inl c_tape_meaning)), (a_tape_start, .inl (cyI, 241, .inl c_tape_start)), (a_tape_token, .inl (cyI, 241, .inl c_tape_token))] sz)) 0 0 (va_A [(h0, .inr (1, [.ref a_tape, .ref a_draft, .int v_lines, .int v_flaw, .int v_flawPlace, .ref a_told, .int v_at])), (a_tape, .inr (5, [.ref a_tape_token, .ref a_tape_start, .ref a_tape_meaning, .int v_tape_length, .ref a_tape_bytes, .int v_tape_next])), (a_tape_meaning, .inl (cyI, 241, .inl c_tape_meaning)), (a_tape_start, .inl (cyI, 241, .inl c_tape_start)), (a_tape_token, .inl (cyI, 241, .inl c_tape_token))] sz) := by
  refine Met.ofW (cc := cX1_takeNumber) (maxL := 4) (ret := (some .boolean)) (by decide) rfl ?_
  intro p e s m args below meth c s₁ B hml hv
  obtain ⟨rfl, hsz, hP, hK, hD0⟩ := hv
  have hx := B.exec
  have hb := B.bytes
  have hr := B.returns
  have hts := atoms_spec (ws := (wS yX1_takeNumber cX1_takeNumber 4 (some .boolean))) B.pre
  have hown : s.vm.findClass RX1 = some m.cls := findClass_of_methodNamed B.named
  have hlocks := B.notSynchronized
  subst hsz
  have hD := hD0.self (sz := s.heap.size)
  refine w_nameQ (fun Q hQ => ?_)
  have hl := lv_entry ([.ref h0, .int x1, .int x2] : List Value) (n := 4) (Nat.le_of_ble_eq_true rfl)
  rw [lg_entry_eq]
  generalize (lg_sl ([.ref h0, .int x1, .int x2] : List Value) ++ List.replicate (4 - (lg_sl ([.ref h0, .int x1, .int x2] : List Value)).length) Slot.unset).toArray = ls at hl ⊢
  have hl : lv_has ls 4 [(0, .ref h0), (1, .int x1), (2, .int x2)] := hl
  generalize hAe : va_A [(h0, .inr (1, [.ref a_tape, .ref a_draft, .int v_lines, .int v_flaw, .int v_flawPlace, .ref a_told, .int v_at])), (a_tape, .inr (5, [.ref a_tape_token, .ref a_tape_start, .ref a_tape_meaning, .int v_tape_length, .ref a_tape_bytes, .int v_tape_next])), (a_tape_meaning, .inl (cyI, 241, .inl c_tape_meaning)), (a_tape_start, .inl (cyI, 241, .inl c_tape_start)), (a_tape_token, .inl (cyI, 241, .inl c_tape_token))] s.heap.size = A at hD hQ
  have hA : ∀ q : Nat, s.heap.size ≤ q → A q := fun q h => by rw [← hAe]; exact Or.inr h
  have hS : va_S A s.heap s.heap [] := va_S.rf
  generalize ([.ref h0, .int x1, .int x2] : List Value).toArray = av at hts hQ ⊢
  have hL : ∀ w ∈ wsL_law, w.before av s = true := fun w h => hts w (List.mem_cons_of_mem _ h)
  have w0 := hL (.fieldLink RX1 12 "LosingLeague$Reader" "tape" "LLosingLeague$Tape;") (hR4 0 rfl)
  have w1 := hL (.fieldLink RX1 81 "LosingLeague$Tape" "meaning" "[I") (hR12 23 rfl)
  have w2 := hL (.fieldLink RX1 39 "LosingLeague$Reader" "at" "I") (hR9 5 rfl)
  have hB50 : ∀ (s0 : Int32) (v_at : Int32) (v_flaw : Int32) (v_flawPlace : Int32) (H : Heap) (locs : List Loc) (ls : Array Slot), fX1_takeNumber_50 N c_tape_meaning c_tape_start c_tape_token x1 x2 s0 v_at v_flaw v_flawPlace = some q → va_P D vwCl [(h0, .inr (1, [.ref a_tape, .ref a_draft, .int v_lines, .int v_flaw, .int v_flawPlace, .ref a_told, .int v_at])), (a_tape, .inr (5, [.ref a_tape_token, .ref a_tape_start, .ref a_tape_meaning, .int v_tape_length, .ref a_tape_bytes, .int v_tape_next])), (a_tape_meaning, .inl (cyI, 241, .inl c_tape_meaning)), (a_tape_start, .inl (cyI, 241, .inl c_tape_start)), (a_tape_token, .inl (cyI, 241, .inl c_tape_token))] H → va_D A [(h0, .inr (1, [.ref a_tape, .ref a_draft, .int v_lines, .int v_flaw, .int v_flawPlace, .ref a_told, .int v_at])), (a_tape, .inr (5, [.ref a_tape_token, .ref a_tape_start, .ref a_tape_meaning, .int v_tape_length, .ref a_tape_bytes, .int v_tape_next])), (a_tape_meaning, .inl (cyI, 241, .inl c_tape_meaning)), (a_tape_start, .inl (cyI, 241, .inl c_tape_start)), (a_tape_token, .inl (cyI, 241, .inl c_tape_token))] → va_S A s.heap H locs → lv_has ls 4 [] → W p l e rmX1_takeNumber s m av below meth c H locs 0 0 Q (F0 m 50 ls [.int s0]) := by
    intro s0 v_at v_flaw v_flawPlace H locs ls hf hP hD hS hl
    unfold fX1_takeNumber_50 at hf
    obtain ⟨n50, hf⟩ := pg_some hf
    exact ret_z (q := q) (g := fun q => q.1) (wp := fun q => [(h0, .inr (1, [.ref a_tape, .ref a_draft, .int v_lines, .int q.2.2.1, .int q.2.2.2, .ref a_told, .int q.2.1])), (a_tape, .inr (5, [.ref a_tape_token, .ref a_tape_start, .ref a_tape_meaning, .int v_tape_length, .ref a_tape_bytes, .int v_tape_next])), (a_tape_meaning, .inl (cyI, 241, .inl c_tape_meaning)), (a_tape_start, .inl (cyI, 241, .inl c_tape_start)), (a_tape_token, .inl (cyI, 241, .inl c_tape_token))]) hQ hf hx hb hr hlocks (isB_n n50) hP hD hS dX1_takeNumber_50 rfl
  have hB45 : ∀ (v_at : Int32) (v_flaw : Int32) (v_flawPlace : Int32) (H : Heap) (locs : List Loc) (ls : Array Slot), fX1_takeNumber_45 N c_tape_meaning c_tape_start c_tape_token x1 x2 v_at v_flaw v_flawPlace = some q → va_P D vwCl [(h0, .inr (1, [.ref a_tape, .ref a_draft, .int v_lines, .int v_flaw, .int v_flawPlace, .ref a_told, .int v_at])), (a_tape, .inr (5, [.ref a_tape_token, .ref a_tape_start, .ref a_tape_meaning, .int v_tape_length, .ref a_tape_bytes, .int v_tape_next])), (a_tape_meaning, .inl (cyI, 241, .inl c_tape_meaning)), (a_tape_start, .inl (cyI, 241, .inl c_tape_start)), (a_tape_token, .inl (cyI, 241, .inl c_tape_token))] H → va_D A [(h0, .inr (1, [.ref a_tape, .ref a_draft, .int v_lines, .int v_flaw, .int v_flawPlace, .ref a_told, .int v_at])), (a_tape, .inr (5, [.ref a_tape_token, .ref a_tape_start, .ref a_tape_meaning, .int v_tape_length, .ref a_tape_bytes, .int v_tape_next])), (a_tape_meaning, .inl (cyI, 241, .inl c_tape_meaning)), (a_tape_start, .inl (cyI, 241, .inl c_tape_start)), (a_tape_token, .inl (cyI, 241, .inl c_tape_token))] → va_S A s.heap H locs → lv_has ls 4 [] → W p l e rmX1_takeNumber s m av below meth c H locs 0 0 Q (F0 m 45 ls []) := by
    intro v_at v_flaw v_flawPlace H locs ls hf hP hD hS hl
    unfold fX1_takeNumber_45 at hf
    refine lv_iconst (v := 1) hx hb dX1_takeNumber_45 (by decide) ?_
    refine lv_goto (tgt := 50) hx hb dX1_takeNumber_46 (by decide) ?_
    exact hB50 1 v_at v_flaw v_flawPlace H locs ls hf hP hD hS (lv_sub hl [] rfl)
  have hB37 : ∀ (v_at : Int32) (v_flaw : Int32) (v_flawPlace : Int32) (H : Heap) (locs : List Loc) (ls : Array Slot), fX1_takeNumber_37 N c_tape_meaning c_tape_start c_tape_token x1 x2 v_at v_flaw v_flawPlace = some q → va_P D vwCl [(h0, .inr (1, [.ref a_tape, .ref a_draft, .int v_lines, .int v_flaw, .int v_flawPlace, .ref a_told, .int v_at])), (a_tape, .inr (5, [.ref a_tape_token, .ref a_tape_start, .ref a_tape_meaning, .int v_tape_length, .ref a_tape_bytes, .int v_tape_next])), (a_tape_meaning, .inl (cyI, 241, .inl c_tape_meaning)), (a_tape_start, .inl (cyI, 241, .inl c_tape_start)), (a_tape_token, .inl (cyI, 241, .inl c_tape_token))] H → va_D A [(h0, .inr (1, [.ref a_tape, .ref a_draft, .int v_lines, .int v_flaw, .int v_flawPlace, .ref a_told, .int v_at])), (a_tape, .inr (5, [.ref a_tape_token, .ref a_tape_start, .ref a_tape_meaning, .int v_tape_length, .ref a_tape_bytes, .int v_tape_next])), (a_tape_meaning, .inl (cyI, 241, .inl c_tape_meaning)), (a_tape_start, .inl (cyI, 241, .inl c_tape_start)), (a_tape_token, .inl (cyI, 241, .inl c_tape_token))] → va_S A s.heap H locs → lv_has ls 4 [(0, .ref h0)] → W p l e rmX1_takeNumber s m av below meth c H locs 0 0 Q (F0 m 37 ls []) := by
    intro v_at v_flaw v_flawPlace H locs ls hf hP hD hS hl
    unfold fX1_takeNumber_37 at hf
    refine lv_aload_n hx hb dX1_takeNumber_37 rfl (lv_at hl 0 rfl) ?_
    refine lv_iconst (v := 3) hx hb dX1_takeNumber_38 (by decide) ?_
    obtain ⟨q39, e39, hf⟩ := pb_some hf
    refine cc_i (wc := [(h0, .inr (1, [.ref a_tape, .ref a_draft, .int v_lines, .int v_flaw, .int v_flawPlace, .ref a_told, .int v_at])), (a_tape, .inr (5, [.ref a_tape_token, .ref a_tape_start, .ref a_tape_meaning, .int v_tape_length, .ref a_tape_bytes, .int v_tape_next])), (a_tape_start, .inl (cyI, 241, .inl c_tape_start))]) (wr := [(a_tape_meaning, .inl (cyI, 241, .inl c_tape_meaning)), (a_tape_token, .inl (cyI, 241, .inl c_tape_token))]) (w1 := [(h0, .inr (1, [.ref a_tape, .ref a_draft, .int v_lines, .int q39.2.1, .int q39.2.2, .ref a_told, .int v_at])), (a_tape, .inr (5, [.ref a_tape_token, .ref a_tape_start, .ref a_tape_meaning, .int v_tape_length, .ref a_tape_bytes, .int v_tape_next])), (a_tape_start, .inl (cyI, 241, .inl c_tape_start))]) (wn := [(h0, .inr (1, [.ref a_tape, .ref a_draft, .int v_lines, .int q39.2.1, .int q39.2.2, .ref a_told, .int v_at])), (a_tape, .inr (5, [.ref a_tape_token, .ref a_tape_start, .ref a_tape_meaning, .int v_tape_length, .ref a_tape_bytes, .int v_tape_next])), (a_tape_meaning, .inl (cyI, 241, .inl c_tape_meaning)), (a_tape_start, .inl (cyI, 241, .inl c_tape_start)), (a_tape_token, .inl (cyI, 241, .inl c_tape_token))]) hP hD hS hA [0, 1, 3] [2, 4] [2, 3, 0, 4, 1] rfl rfl rfl (by decide) rfl rfl (va_runV (C := RX1) (As := [.int 3]) (rest := []) ⟨hx, hb, hml, hown, hL⟩ (mX1_fail l D cyI cyJ cyB cyS N H.size h0 a_tape a_tape_start a_draft a_told a_tape_token a_tape_meaning a_tape_bytes v_lines v_flaw v_flawPlace v_at v_tape_length v_tape_next c_tape_start 3 q39 e39) (cwV 1 hL (gV (hR13 10 rfl) (hR13 11 rfl) (hR13 12 rfl) (hR2 3 rfl) (hR13 13 rfl)) rfl rfl rfl (by decide +kernel) ⟨Nat.le_of_ble_eq_true rfl, Nat.le_of_ble_eq_true rfl⟩) (PP_preV (ci := 1) (q0 := 0) hP hD hK [0, 1, 3] rfl rfl rfl rfl) rfl rfl hl.1 rfl (lv_room (Nat.le_of_ble_eq_true rfl)) dX1_takeNumber_39 ⟨Nat.le_of_ble_eq_true rfl, Nat.le_of_ble_eq_true rfl⟩) (fun H locs hP hD hS => ?_)
    refine lv_if_eq (tgt := 49) hx hb dX1_takeNumber_42 (by decide) (fun c42 => ?_) (fun c42 => ?_)
    · have hf := pif_t c42 hf
      refine lv_iconst (v := 0) hx hb dX1_takeNumber_49 (by decide) ?_
      exact hB50 0 v_at q39.2.1 q39.2.2 H locs ls hf hP hD hS (lv_sub hl [] rfl)
    · have hf := pif_f c42 hf
      exact hB45 v_at q39.2.1 q39.2.2 H locs ls hf hP hD hS (lv_sub hl [] rfl)
  unfold fX1_takeNumber at hf
  obtain ⟨H, hH⟩ : ∃ H : Heap, H = s.heap := ⟨_, rfl⟩
  obtain ⟨locs, hlo⟩ : ∃ locs : List Loc, locs = [] := ⟨_, rfl⟩
  have hP : va_P D vwCl [(h0, .inr (1, [.ref a_tape, .ref a_draft, .int v_lines, .int v_flaw, .int v_flawPlace, .ref a_told, .int v_at])), (a_tape, .inr (5, [.ref a_tape_token, .ref a_tape_start, .ref a_tape_meaning, .int v_tape_length, .ref a_tape_bytes, .int v_tape_next])), (a_tape_meaning, .inl (cyI, 241, .inl c_tape_meaning)), (a_tape_start, .inl (cyI, 241, .inl c_tape_start)), (a_tape_token, .inl (cyI, 241, .inl c_tape_token))] H := by rw [hH]; exact hP
  have hS : va_S A s.heap H locs := by rw [hH, hlo]; exact hS
  suffices hw : W p l e rmX1_takeNumber s m av below meth c H locs 0 0 Q (F0 m 0 ls []) by rw [hH, hlo] at hw; exact hw
  refine lv_aload_n hx hb dX1_takeNumber_0 rfl (lv_at hl 0 rfl) ?_
  obtain ⟨q1, e1, hf⟩ := pb_some hf
  refine cc_v (wc := [(h0, .inr (1, [.ref a_tape, .ref a_draft, .int v_lines, .int v_flaw, .int v_flawPlace, .ref a_told, .int v_at]))]) (wr := [(a_tape, .inr (5, [.ref a_tape_token, .ref a_tape_start, .ref a_tape_meaning, .int v_tape_length, .ref a_tape_bytes, .int v_tape_next])), (a_tape_meaning, .inl (cyI, 241, .inl c_tape_meaning)), (a_tape_start, .inl (cyI, 241, .inl c_tape_start)), (a_tape_token, .inl (cyI, 241, .inl c_tape_token))]) (w1 := [(h0, .inr (1, [.ref a_tape, .ref a_draft, .int v_lines, .int v_flaw, .int v_flawPlace, .ref a_told, .int q1]))]) (wn := [(h0, .inr (1, [.ref a_tape, .ref a_draft, .int v_lines, .int v_flaw, .int v_flawPlace, .ref a_told, .int q1])), (a_tape, .inr (5, [.ref a_tape_token, .ref a_tape_start, .ref a_tape_meaning, .int v_tape_length, .ref a_tape_bytes, .int v_tape_next])), (a_tape_meaning, .inl (cyI, 241, .inl c_tape_meaning)), (a_tape_start, .inl (cyI, 241, .inl c_tape_start)), (a_tape_token, .inl (cyI, 241, .inl c_tape_token))]) hP hD hS hA [0] [1, 2, 3, 4] [4, 0, 1, 2, 3] rfl rfl rfl (by decide) rfl rfl (va_runV (C := RX1) (As := []) (rest := []) ⟨hx, hb, hml, hown, hL⟩ (mX1_step l D cyI cyJ cyB cyS N H.size h0 a_tape a_draft a_told v_lines v_flaw v_flawPlace v_at  q1 e1) (cwV 0 hL (gV (hR13 23 rfl) (hR14 0 rfl) (hR14 1 rfl) (hR2 3 rfl) (hR14 2 rfl)) rfl rfl rfl (by decide +kernel) ⟨Nat.le_of_ble_eq_true rfl, Nat.le_of_ble_eq_true rfl⟩) (PP_preV (ci := 1) (q0 := 0) hP hD hK [0] rfl rfl rfl rfl) rfl rfl hl.1 rfl (lv_room (Nat.le_of_ble_eq_true rfl)) dX1_takeNumber_1 ⟨Nat.le_of_ble_eq_true rfl, Nat.le_of_ble_eq_true rfl⟩) (fun H locs hP hD hS => ?_)
  refine lv_aload_n hx hb dX1_takeNumber_4 rfl (lv_at hl 0 rfl) ?_
  refine lv_iconst (v := 2) hx hb dX1_takeNumber_5 (by decide) ?_
  obtain ⟨q6, e6, hf⟩ := pb_some hf
  refine cc_i (wc := [(h0, .inr (1, [.ref a_tape, .ref a_draft, .int v_lines, .int v_flaw, .int v_flawPlace, .ref a_told, .int q1])), (a_tape, .inr (5, [.ref a_tape_token, .ref a_tape_start, .ref a_tape_meaning, .int v_tape_length, .ref a_tape_bytes, .int v_tape_next])), (a_tape_start, .inl (cyI, 241, .inl c_tape_start)), (a_tape_token, .inl (cyI, 241, .inl c_tape_token))]) (wr := [(a_tape_meaning, .inl (cyI, 241, .inl c_tape_meaning))]) (w1 := [(h0, .inr (1, [.ref a_tape, .ref a_draft, .int v_lines, .int q6.2.1, .int q6.2.2, .ref a_told, .int q1])), (a_tape, .inr (5, [.ref a_tape_token, .ref a_tape_start, .ref a_tape_meaning, .int v_tape_length, .ref a_tape_bytes, .int v_tape_next])), (a_tape_start, .inl (cyI, 241, .inl c_tape_start)), (a_tape_token, .inl (cyI, 241, .inl c_tape_token))]) (wn := [(h0, .inr (1, [.ref a_tape, .ref a_draft, .int v_lines, .int q6.2.1, .int q6.2.2, .ref a_told, .int q1])), (a_tape, .inr (5, [.ref a_tape_token, .ref a_tape_start, .ref a_tape_meaning, .int v_tape_length, .ref a_tape_bytes, .int v_tape_next])), (a_tape_meaning, .inl (cyI, 241, .inl c_tape_meaning)), (a_tape_start, .inl (cyI, 241, .inl c_tape_start)), (a_tape_token, .inl (cyI, 241, .inl c_tape_token))]) hP hD hS hA [0, 1, 3, 4] [2] [1, 2, 0, 3, 4] rfl rfl rfl (by decide) rfl rfl (va_runV (C := RX1) (As := [.int 2]) (rest := []) ⟨hx, hb, hml, hown, hL⟩ (mX1_isDue l D cyI cyJ cyB cyS N H.size h0 a_tape a_tape_start a_tape_token a_draft a_told a_tape_meaning a_tape_bytes v_lines v_flaw v_flawPlace q1 v_tape_length v_tape_next c_tape_start c_tape_token 2 q6 e6) (cwV 1 hL (gV (hR13 6 rfl) (hR13 7 rfl) (hR13 8 rfl) (hR2 3 rfl) (hR13 9 rfl)) rfl rfl rfl (by decide +kernel) ⟨Nat.le_of_ble_eq_true rfl, Nat.le_of_ble_eq_true rfl⟩) (PP_preV (ci := 1) (q0 := 0) hP hD hK [0, 1, 3, 4] rfl rfl rfl rfl) rfl rfl hl.1 rfl (lv_room (Nat.le_of_ble_eq_true rfl)) dX1_takeNumber_6 ⟨Nat.le_of_ble_eq_true rfl, Nat.le_of_ble_eq_true rfl⟩) (fun H locs hP hD hS => ?_)
  refine lv_if_ne (tgt := 14) hx hb dX1_takeNumber_9 (by decide) (fun c9 => ?_) (fun c9 => ?_)
  · have hf := pif_f c9 hf
    refine lv_aload_n hx hb dX1_takeNumber_14 rfl (lv_at hl 0 rfl) ?_
    refine va_get (D := D) (ci := 1) (v := .ref a_tape) (C := RX1) (T := TX1) (N := 7) hx hb hL inlX1 hown hK.1 hP 0 rfl rfl 0 (by decide) w0 (fun _ h9 => h9) rfl dX1_takeNumber_15 ?_
    refine va_get (D := D) (ci := 5) (v := .ref a_tape_meaning) (C := RX5) (T := TX5) (N := 6) hx hb hL inlX5 hown hK.1 hP 1 rfl rfl 2 (by decide) w1 (fun _ h9 => h9) rfl dX1_takeNumber_18 ?_
    refine lv_aload_n hx hb dX1_takeNumber_21 rfl (lv_at hl 0 rfl) ?_
    refine va_get (D := D) (ci := 1) (v := .int q1) (C := RX1) (T := TX1) (N := 7) hx hb hL inlX1 hown hK.1 hP 0 rfl rfl 6 (by decide) w2 (fun _ h9 => h9) rfl dX1_takeNumber_22 ?_
    obtain ⟨h25, hf⟩ := pg_some hf
    refine va_iald hx hb hK.1 hP 2 0 rfl rfl h25 dX1_takeNumber_25 ?_
    refine lv_istore_n (lv' := [(3, .int (c_tape_meaning q1.toNatClampNeg)), (0, .ref h0), (1, .int x1), (2, .int x2)]) hx hb dX1_takeNumber_26 rfl hl (by decide) rfl (fun ls hl => ?_)
    refine lv_iload_n hx hb dX1_takeNumber_27 rfl (lv_at hl 0 rfl) ?_
    refine lv_iload_n hx hb dX1_takeNumber_28 rfl (lv_at hl 2 rfl) ?_
    refine lv_icmp_lt (tgt := 37) hx hb dX1_takeNumber_29 (by decide) (fun c29 => ?_) (fun c29 => ?_)
    · have hf := pif_t c29 hf
      exact hB37 q1 q6.2.1 q6.2.2 H locs ls hf hP hD hS (lv_sub hl [1] rfl)
    · have hf := pif_f c29 hf
      refine lv_iload_n hx hb dX1_takeNumber_32 rfl (lv_at hl 0 rfl) ?_
      refine lv_iload_n hx hb dX1_takeNumber_33 rfl (lv_at hl 3 rfl) ?_
      refine lv_icmp_le (tgt := 45) hx hb dX1_takeNumber_34 (by decide) (fun c34 => ?_) (fun c34 => ?_)
      · have hf := pif_t c34 hf
        exact hB45 q1 q6.2.1 q6.2.2 H locs ls hf hP hD hS (lv_sub hl [] rfl)
      · have hf := pif_f c34 hf
        exact hB37 q1 q6.2.1 q6.2.2 H locs ls hf hP hD hS (lv_sub hl [1] rfl)
  · have hf := pif_t c9 hf
    refine lv_iconst (v := 0) hx hb dX1_takeNumber_12 (by decide) ?_
    exact ret_z (q := q) (g := fun q => q.1) (wp := fun q => [(h0, .inr (1, [.ref a_tape, .ref a_draft, .int v_lines, .int q.2.2.1, .int q.2.2.2, .ref a_told, .int q.2.1])), (a_tape, .inr (5, [.ref a_tape_token, .ref a_tape_start, .ref a_tape_meaning, .int v_tape_length, .ref a_tape_bytes, .int v_tape_next])), (a_tape_meaning, .inl (cyI, 241, .inl c_tape_meaning)), (a_tape_start, .inl (cyI, 241, .inl c_tape_start)), (a_tape_token, .inl (cyI, 241, .inl c_tape_token))]) hQ hf hx hb hr hlocks rfl hP hD hS dX1_takeNumber_13 rfl
abbrev rmX1_takeSides : Room := { frames := 3, cells := 0, slots := 0, locals := 65 }
set_option maxHeartbeats 40000000 in
set_option maxRecDepth 100000 in
theorem mX1_takeSides (l : Launch) (D : va_G) (cyI cyJ cyB cyS : ClassId) (N : Nat) (sz : Nat) (h0 : Nat) (a_draft : Nat) (a_tape : Nat) (a_tape_meaning : Nat) (a_tape_start : Nat) (a_tape_token : Nat) (a_told : Nat) (a_draft_strength : Nat) (a_draft_placeWorth : Nat) (a_draft_choiceWorth : Nat) (a_draft_balls : Nat) (a_draft_wheel : Nat) (a_tape_bytes : Nat) (v_lines : Int32) (v_flaw : Int32) (v_flawPlace : Int32) (v_at : Int32) (v_draft_sides : Int32) (v_draft_kind : Int32) (v_draft_rounds : Int32) (v_tape_length : Int32) (v_tape_next : Int32) (c_tape_meaning : Nat → Int32) (c_tape_start : Nat → Int32) (c_tape_token : Nat → Int32) (c_told : Nat → Int32) (q : Int32 × Int32 × Int32 × Int32 × Int32 × (Nat → Int32)) (hf : fX1_takeSides N v_at v_flaw v_flawPlace v_draft_sides c_tape_meaning c_tape_start c_tape_token c_told = some q) : Met l yX1_takeSides (wS yX1_takeSides cX1_takeSides 2 (some .boolean)) rmX1_takeSides (va_Pc [.ref h0] (PP D cyI cyJ cyB cyS [(h0, .inr (1, [.ref a_tape, .ref a_draft, .int v_lines, .int v_flaw, .int v_flawPlace, .ref a_told, .int v_at])), (a_draft, .inr (2, [.ref a_draft_strength, .ref a_draft_placeWorth, .ref a_draft_choiceWorth, .ref a_draft_balls, .ref a_draft_wheel, .int v_draft_sides, .int v_draft_kind, .int v_draft_rounds])), (a_tape, .inr (5, [.ref a_tape_token, .ref a_tape_start, .ref a_tape_meaning, .int v_tape_length, .ref a_tape_bytes, .int v_tape_next])), (a_tape_meaning, .inl (cyI, 241, .inl c_tape_meaning)), (a_tape_start, .inl (cyI, 241, .inl c_tape_start)), (a_tape_token, .inl (cyI, 241, .inl c_tape_token)), (a_told, .inl (cyI, 11, .inl c_told))] sz)) (QI q.1 D [(h0, .inr (1, [.ref a_tape, .ref a_draft, .int v_lines, .int q.2.2.1, .int q.2.2.2.1, .ref a_told, .int q.2.1])), (a_draft, .inr (2, [.ref a_draft_strength, .ref a_draft_placeWorth, .ref a_draft_choiceWorth, .ref a_draft_balls, .ref a_draft_wheel, .int q.2.2.2.2.1, .int v_draft_kind, .int v_draft_rounds])), (a_tape, .inr (5, [.ref a_tape_token, .ref a_tape_start, .ref a_tape_meaning, .int v_tape_length, .ref a_tape_bytes, .int v_tape_next])), (a_tape_meaning, .inl (cyI, 241, .inl c_tape_meaning)), (a_tape_start, .inl (cyI, 241, .inl c_tape_start)), (a_tape_token, .inl (cyI, 241, .inl c_tape_token)), (a_told, .inl (cyI, 11, .inl q.2.2.2.2.2))] (va_A [(h0, .inr (1, [.ref a_tape, .ref a_draft, .int v_lines, .int v_flaw, .int v_flawPlace, .ref a_told, .int v_at])), (a_draft, .inr (2, [.ref a_draft_strength, .ref a_draft_placeWorth, .ref a_draft_choiceWorth, .ref a_draft_balls, .ref a_draft_wheel, .int v_draft_sides, .int v_draft_kind, .int v_draft_rounds])), (a_tape, .inr (5, [.ref a_tape_token, .ref a_tape_start, .ref a_tape_meaning, .int v_tape_length, .ref a_tape_bytes, .int v_tape_next])), (a_tape_meaning, .inl (cyI, 241, .inl c_tape_meaning)), (a_tape_start, .inl (cyI, 241, .inl c_tape_start)), (a_tape_token, .inl (cyI, 241, .inl c_tape_token)), (a_told, .inl (cyI, 11, .inl c_told))] sz)) 0 0 (va_A [(h0, .inr (1, [.ref a_tape, .ref a_draft, .int v_lines, .int v_flaw, .int v_flawPlace, .ref a_told, .int v_at])), (a_draft, .inr (2, [.ref a_draft_strength, .ref a_draft_placeWorth, .ref a_draft_choiceWorth, .ref a_draft_balls, .ref a_draft_wheel, .int v_draft_sides, .int v_draft_kind, .int v_draft_rounds])), (a_tape, .inr (5, [.ref a_tape_token, .ref a_tape_start, .ref a_tape_meaning, .int v_tape_length, .ref a_tape_bytes, .int v_tape_next])), (a_tape_meaning, .inl (cyI, 241, .inl c_tape_meaning)), (a_tape_start, .inl (cyI, 241, .inl c_tape_start)), (a_tape_token, .inl (cyI, 241, .inl c_tape_token)), (a_told, .inl (cyI, 11, .inl c_told))] sz) := by
  refine Met.ofW (cc := cX1_takeSides) (maxL := 2) (ret := (some .boolean)) (by decide) rfl ?_
  intro p e s m args below meth c s₁ B hml hv
  obtain ⟨rfl, hsz, hP, hK, hD0⟩ := hv
  have hx := B.exec
  have hb := B.bytes
  have hr := B.returns
  have hts := atoms_spec (ws := (wS yX1_takeSides cX1_takeSides 2 (some .boolean))) B.pre
  have hown : s.vm.findClass RX1 = some m.cls := findClass_of_methodNamed B.named
  have hlocks := B.notSynchronized
  subst hsz
  have hD := hD0.self (sz := s.heap.size)
  refine w_nameQ (fun Q hQ => ?_)
  have hl := lv_entry ([.ref h0] : List Value) (n := 2) (Nat.le_of_ble_eq_true rfl)
  rw [lg_entry_eq]
  generalize (lg_sl ([.ref h0] : List Value) ++ List.replicate (2 - (lg_sl ([.ref h0] : List Value)).length) Slot.unset).toArray = ls at hl ⊢
  have hl : lv_has ls 2 [(0, .ref h0)] := hl
  generalize hAe : va_A [(h0, .inr (1, [.ref a_tape, .ref a_draft, .int v_lines, .int v_flaw, .int v_flawPlace, .ref a_told, .int v_at])), (a_draft, .inr (2, [.ref a_draft_strength, .ref a_draft_placeWorth, .ref a_draft_choiceWorth, .ref a_draft_balls, .ref a_draft_wheel, .int v_draft_sides, .int v_draft_kind, .int v_draft_rounds])), (a_tape, .inr (5, [.ref a_tape_token, .ref a_tape_start, .ref a_tape_meaning, .int v_tape_length, .ref a_tape_bytes, .int v_tape_next])), (a_tape_meaning, .inl (cyI, 241, .inl c_tape_meaning)), (a_tape_start, .inl (cyI, 241, .inl c_tape_start)), (a_tape_token, .inl (cyI, 241, .inl c_tape_token)), (a_told, .inl (cyI, 11, .inl c_told))] s.heap.size = A at hD hQ
  have hA : ∀ q : Nat, s.heap.size ≤ q → A q := fun q h => by rw [← hAe]; exact Or.inr h
  have hS : va_S A s.heap s.heap [] := va_S.rf
  generalize ([.ref h0] : List Value).toArray = av at hts hQ ⊢
  have hL : ∀ w ∈ wsL_law, w.before av s = true := fun w h => hts w (List.mem_cons_of_mem _ h)
  have w0 := hL (.fieldLink RX1 25 "LosingLeague$Reader" "told" "[I") (hR4 3 rfl)
  have w1 := hL (.fieldLink RX1 21 "LosingLeague$Reader" "draft" "LLosingLeague$Rules;") (hR4 2 rfl)
  have w2 := hL (.fieldLink RX1 12 "LosingLeague$Reader" "tape" "LLosingLeague$Tape;") (hR4 0 rfl)
  have w3 := hL (.fieldLink RX1 81 "LosingLeague$Tape" "meaning" "[I") (hR12 23 rfl)
  have w4 := hL (.fieldLink RX1 39 "LosingLeague$Reader" "at" "I") (hR9 5 rfl)
  have w5 := hL (.fieldLink RX1 112 "LosingLeague$Rules" "sides" "I") (hR13 5 rfl)
  have hB57 : ∀ (v_at : Int32) (v_flaw : Int32) (v_flawPlace : Int32) (v_draft_sides : Int32) (c_told : Nat → Int32) (H : Heap) (locs : List Loc) (ls : Array Slot), fX1_takeSides_57 N c_tape_meaning c_tape_start c_tape_token v_at v_flaw v_flawPlace v_draft_sides c_told = some q → va_P D vwCl [(h0, .inr (1, [.ref a_tape, .ref a_draft, .int v_lines, .int v_flaw, .int v_flawPlace, .ref a_told, .int v_at])), (a_draft, .inr (2, [.ref a_draft_strength, .ref a_draft_placeWorth, .ref a_draft_choiceWorth, .ref a_draft_balls, .ref a_draft_wheel, .int v_draft_sides, .int v_draft_kind, .int v_draft_rounds])), (a_tape, .inr (5, [.ref a_tape_token, .ref a_tape_start, .ref a_tape_meaning, .int v_tape_length, .ref a_tape_bytes, .int v_tape_next])), (a_tape_meaning, .inl (cyI, 241, .inl c_tape_meaning)), (a_tape_start, .inl (cyI, 241, .inl c_tape_start)), (a_tape_token, .inl (cyI, 241, .inl c_tape_token)), (a_told, .inl (cyI, 11, .inl c_told))] H → va_D A [(h0, .inr (1, [.ref a_tape, .ref a_draft, .int v_lines, .int v_flaw, .int v_flawPlace, .ref a_told, .int v_at])), (a_draft, .inr (2, [.ref a_draft_strength, .ref a_draft_placeWorth, .ref a_draft_choiceWorth, .ref a_draft_balls, .ref a_draft_wheel, .int v_draft_sides, .int v_draft_kind, .int v_draft_rounds])), (a_tape, .inr (5, [.ref a_tape_token, .ref a_tape_start, .ref a_tape_meaning, .int v_tape_length, .ref a_tape_bytes, .int v_tape_next])), (a_tape_meaning, .inl (cyI, 241, .inl c_tape_meaning)), (a_tape_start, .inl (cyI, 241, .inl c_tape_start)), (a_tape_token, .inl (cyI, 241, .inl c_tape_token)), (a_told, .inl (cyI, 11, .inl c_told))] → va_S A s.heap H locs → lv_has ls 2 [(0, .ref h0)] → W p l e rmX1_takeSides s m av below meth c H locs 0 0 Q (F0 m 57 ls []) := by
    intro v_at v_flaw v_flawPlace v_draft_sides c_told H locs ls hf hP hD hS hl
    unfold fX1_takeSides_57 at hf
    refine lv_aload_n hx hb dX1_takeSides_57 rfl (lv_at hl 0 rfl) ?_
    refine lv_iconst (v := 4) hx hb dX1_takeSides_58 (by decide) ?_
    obtain ⟨q59, e59, hf⟩ := pb_some hf
    refine cc_i (wc := [(h0, .inr (1, [.ref a_tape, .ref a_draft, .int v_lines, .int v_flaw, .int v_flawPlace, .ref a_told, .int v_at])), (a_tape, .inr (5, [.ref a_tape_token, .ref a_tape_start, .ref a_tape_meaning, .int v_tape_length, .ref a_tape_bytes, .int v_tape_next])), (a_tape_start, .inl (cyI, 241, .inl c_tape_start))]) (wr := [(a_draft, .inr (2, [.ref a_draft_strength, .ref a_draft_placeWorth, .ref a_draft_choiceWorth, .ref a_draft_balls, .ref a_draft_wheel, .int v_draft_sides, .int v_draft_kind, .int v_draft_rounds])), (a_tape_meaning, .inl (cyI, 241, .inl c_tape_meaning)), (a_tape_token, .inl (cyI, 241, .inl c_tape_token)), (a_told, .inl (cyI, 11, .inl c_told))]) (w1 := [(h0, .inr (1, [.ref a_tape, .ref a_draft, .int v_lines, .int q59.2.1, .int q59.2.2, .ref a_told, .int v_at])), (a_tape, .inr (5, [.ref a_tape_token, .ref a_tape_start, .ref a_tape_meaning, .int v_tape_length, .ref a_tape_bytes, .int v_tape_next])), (a_tape_start, .inl (cyI, 241, .inl c_tape_start))]) (wn := [(h0, .inr (1, [.ref a_tape, .ref a_draft, .int v_lines, .int q59.2.1, .int q59.2.2, .ref a_told, .int v_at])), (a_draft, .inr (2, [.ref a_draft_strength, .ref a_draft_placeWorth, .ref a_draft_choiceWorth, .ref a_draft_balls, .ref a_draft_wheel, .int v_draft_sides, .int v_draft_kind, .int v_draft_rounds])), (a_tape, .inr (5, [.ref a_tape_token, .ref a_tape_start, .ref a_tape_meaning, .int v_tape_length, .ref a_tape_bytes, .int v_tape_next])), (a_tape_meaning, .inl (cyI, 241, .inl c_tape_meaning)), (a_tape_start, .inl (cyI, 241, .inl c_tape_start)), (a_tape_token, .inl (cyI, 241, .inl c_tape_token)), (a_told, .inl (cyI, 11, .inl c_told))]) hP hD hS hA [0, 2, 4] [1, 3, 5, 6] [4, 0, 5, 1, 6, 2, 3] rfl rfl rfl (by decide) rfl rfl (va_runV (C := RX1) (As := [.int 4]) (rest := []) ⟨hx, hb, hml, hown, hL⟩ (mX1_fail l D cyI cyJ cyB cyS N H.size h0 a_tape a_tape_start a_draft a_told a_tape_token a_tape_meaning a_tape_bytes v_lines v_flaw v_flawPlace v_at v_tape_length v_tape_next c_tape_start 4 q59 e59) (cwV 1 hL (gV (hR13 10 rfl) (hR13 11 rfl) (hR13 12 rfl) (hR2 3 rfl) (hR13 13 rfl)) rfl rfl rfl (by decide +kernel) ⟨Nat.le_of_ble_eq_true rfl, Nat.le_of_ble_eq_true rfl⟩) (PP_preV (ci := 1) (q0 := 0) hP hD hK [0, 2, 4] rfl rfl rfl rfl) rfl rfl hl.1 rfl (lv_room (Nat.le_of_ble_eq_true rfl)) dX1_takeSides_59 ⟨Nat.le_of_ble_eq_true rfl, Nat.le_of_ble_eq_true rfl⟩) (fun H locs hP hD hS => ?_)
    obtain ⟨n62, hf⟩ := pg_some hf
    exact ret_z (q := q) (g := fun q => q.1) (wp := fun q => [(h0, .inr (1, [.ref a_tape, .ref a_draft, .int v_lines, .int q.2.2.1, .int q.2.2.2.1, .ref a_told, .int q.2.1])), (a_draft, .inr (2, [.ref a_draft_strength, .ref a_draft_placeWorth, .ref a_draft_choiceWorth, .ref a_draft_balls, .ref a_draft_wheel, .int q.2.2.2.2.1, .int v_draft_kind, .int v_draft_rounds])), (a_tape, .inr (5, [.ref a_tape_token, .ref a_tape_start, .ref a_tape_meaning, .int v_tape_length, .ref a_tape_bytes, .int v_tape_next])), (a_tape_meaning, .inl (cyI, 241, .inl c_tape_meaning)), (a_tape_start, .inl (cyI, 241, .inl c_tape_start)), (a_tape_token, .inl (cyI, 241, .inl c_tape_token)), (a_told, .inl (cyI, 11, .inl q.2.2.2.2.2))]) hQ hf hx hb hr hlocks (isB_n n62) hP hD hS dX1_takeSides_62 rfl
  unfold fX1_takeSides at hf
  obtain ⟨H, hH⟩ : ∃ H : Heap, H = s.heap := ⟨_, rfl⟩
  obtain ⟨locs, hlo⟩ : ∃ locs : List Loc, locs = [] := ⟨_, rfl⟩
  have hP : va_P D vwCl [(h0, .inr (1, [.ref a_tape, .ref a_draft, .int v_lines, .int v_flaw, .int v_flawPlace, .ref a_told, .int v_at])), (a_draft, .inr (2, [.ref a_draft_strength, .ref a_draft_placeWorth, .ref a_draft_choiceWorth, .ref a_draft_balls, .ref a_draft_wheel, .int v_draft_sides, .int v_draft_kind, .int v_draft_rounds])), (a_tape, .inr (5, [.ref a_tape_token, .ref a_tape_start, .ref a_tape_meaning, .int v_tape_length, .ref a_tape_bytes, .int v_tape_next])), (a_tape_meaning, .inl (cyI, 241, .inl c_tape_meaning)), (a_tape_start, .inl (cyI, 241, .inl c_tape_start)), (a_tape_token, .inl (cyI, 241, .inl c_tape_token)), (a_told, .inl (cyI, 11, .inl c_told))] H := by rw [hH]; exact hP
  have hS : va_S A s.heap H locs := by rw [hH, hlo]; exact hS
  suffices hw : W p l e rmX1_takeSides s m av below meth c H locs 0 0 Q (F0 m 0 ls []) by rw [hH, hlo] at hw; exact hw
  refine lv_aload_n hx hb dX1_takeSides_0 rfl (lv_at hl 0 rfl) ?_
  refine va_get (D := D) (ci := 1) (v := .ref a_told) (C := RX1) (T := TX1) (N := 7) hx hb hL inlX1 hown hK.1 hP 0 rfl rfl 5 (by decide) w0 (fun _ h9 => h9) rfl dX1_takeSides_1 ?_
  refine lv_iconst (v := 1) hx hb dX1_takeSides_4 (by decide) ?_
  obtain ⟨h5, hf⟩ := pg_some hf
  refine va_iald hx hb hK.1 hP 6 0 rfl rfl h5 dX1_takeSides_5 ?_
  refine lv_aload_n hx hb dX1_takeSides_6 rfl (lv_at hl 0 rfl) ?_
  refine va_get (D := D) (ci := 1) (v := .ref a_told) (C := RX1) (T := TX1) (N := 7) hx hb hL inlX1 hown hK.1 hP 0 rfl rfl 5 (by decide) w0 (fun _ h9 => h9) rfl dX1_takeSides_7 ?_
  refine lv_iconst (v := 2) hx hb dX1_takeSides_10 (by decide) ?_
  obtain ⟨h11, hf⟩ := pg_some hf
  refine va_iald hx hb hK.1 hP 6 0 rfl rfl h11 dX1_takeSides_11 ?_
  refine lv_ior hx hb dX1_takeSides_12 ?_
  refine lv_aload_n hx hb dX1_takeSides_13 rfl (lv_at hl 0 rfl) ?_
  refine va_get (D := D) (ci := 1) (v := .ref a_told) (C := RX1) (T := TX1) (N := 7) hx hb hL inlX1 hown hK.1 hP 0 rfl rfl 5 (by decide) w0 (fun _ h9 => h9) rfl dX1_takeSides_14 ?_
  refine lv_iconst (v := 3) hx hb dX1_takeSides_17 (by decide) ?_
  obtain ⟨h18, hf⟩ := pg_some hf
  refine va_iald hx hb hK.1 hP 6 0 rfl rfl h18 dX1_takeSides_18 ?_
  refine lv_ior hx hb dX1_takeSides_19 ?_
  refine lv_aload_n hx hb dX1_takeSides_20 rfl (lv_at hl 0 rfl) ?_
  refine va_get (D := D) (ci := 1) (v := .ref a_told) (C := RX1) (T := TX1) (N := 7) hx hb hL inlX1 hown hK.1 hP 0 rfl rfl 5 (by decide) w0 (fun _ h9 => h9) rfl dX1_takeSides_21 ?_
  refine lv_iconst (v := 5) hx hb dX1_takeSides_24 (by decide) ?_
  obtain ⟨h25, hf⟩ := pg_some hf
  refine va_iald hx hb hK.1 hP 6 0 rfl rfl h25 dX1_takeSides_25 ?_
  refine lv_ior hx hb dX1_takeSides_26 ?_
  refine lv_aload_n hx hb dX1_takeSides_27 rfl (lv_at hl 0 rfl) ?_
  refine va_get (D := D) (ci := 1) (v := .ref a_told) (C := RX1) (T := TX1) (N := 7) hx hb hL inlX1 hown hK.1 hP 0 rfl rfl 5 (by decide) w0 (fun _ h9 => h9) rfl dX1_takeSides_28 ?_
  refine lv_bipush (v := 6) hx hb dX1_takeSides_31 (by decide) ?_
  obtain ⟨h33, hf⟩ := pg_some hf
  refine va_iald hx hb hK.1 hP 6 0 rfl rfl h33 dX1_takeSides_33 ?_
  refine lv_ior hx hb dX1_takeSides_34 ?_
  refine lv_aload_n hx hb dX1_takeSides_35 rfl (lv_at hl 0 rfl) ?_
  refine va_get (D := D) (ci := 1) (v := .ref a_told) (C := RX1) (T := TX1) (N := 7) hx hb hL inlX1 hown hK.1 hP 0 rfl rfl 5 (by decide) w0 (fun _ h9 => h9) rfl dX1_takeSides_36 ?_
  refine lv_bipush (v := 7) hx hb dX1_takeSides_39 (by decide) ?_
  obtain ⟨h41, hf⟩ := pg_some hf
  refine va_iald hx hb hK.1 hP 6 0 rfl rfl h41 dX1_takeSides_41 ?_
  refine lv_ior hx hb dX1_takeSides_42 ?_
  refine lv_istore_n (lv' := [(1, .int ((((((c_told (1 : Int32).toNatClampNeg) ||| (c_told (2 : Int32).toNatClampNeg)) ||| (c_told (3 : Int32).toNatClampNeg)) ||| (c_told (5 : Int32).toNatClampNeg)) ||| (c_told (6 : Int32).toNatClampNeg)) ||| (c_told (7 : Int32).toNatClampNeg))), (0, .ref h0)]) hx hb dX1_takeSides_43 rfl hl (by decide) rfl (fun ls hl => ?_)
  refine lv_aload_n hx hb dX1_takeSides_44 rfl (lv_at hl 1 rfl) ?_
  refine va_get (D := D) (ci := 1) (v := .ref a_told) (C := RX1) (T := TX1) (N := 7) hx hb hL inlX1 hown hK.1 hP 0 rfl rfl 5 (by decide) w0 (fun _ h9 => h9) rfl dX1_takeSides_45 ?_
  refine lv_iconst (v := 0) hx hb dX1_takeSides_48 (by decide) ?_
  obtain ⟨h49, hf⟩ := pg_some hf
  refine va_iald hx hb hK.1 hP 6 0 rfl rfl h49 dX1_takeSides_49 ?_
  refine lv_if_ne (tgt := 57) hx hb dX1_takeSides_50 (by decide) (fun c50 => ?_) (fun c50 => ?_)
  · have hf := pif_f c50 hf
    exact hB57 v_at v_flaw v_flawPlace v_draft_sides c_told H locs ls hf hP hD hS (lv_sub hl [1] rfl)
  · have hf := pif_t c50 hf
    refine lv_iload_n hx hb dX1_takeSides_53 rfl (lv_at hl 0 rfl) ?_
    refine lv_if_eq (tgt := 63) hx hb dX1_takeSides_54 (by decide) (fun c54 => ?_) (fun c54 => ?_)
    · have hf := pif_t c54 hf
      refine lv_aload_n hx hb dX1_takeSides_63 rfl (lv_at hl 1 rfl) ?_
      refine va_get (D := D) (ci := 1) (v := .ref a_told) (C := RX1) (T := TX1) (N := 7) hx hb hL inlX1 hown hK.1 hP 0 rfl rfl 5 (by decide) w0 (fun _ h9 => h9) rfl dX1_takeSides_64 ?_
      refine lv_iconst (v := 0) hx hb dX1_takeSides_67 (by decide) ?_
      refine lv_iconst (v := 1) hx hb dX1_takeSides_68 (by decide) ?_
      obtain ⟨h69, hf⟩ := pg_some hf
      refine va_iast hx hb hK.1 hP hD hS 6 0 rfl rfl h69 dX1_takeSides_69 (fun H locs hP hD hS => ?_)
      have hP : va_P D vwCl [(h0, .inr (1, [.ref a_tape, .ref a_draft, .int v_lines, .int v_flaw, .int v_flawPlace, .ref a_told, .int v_at])), (a_draft, .inr (2, [.ref a_draft_strength, .ref a_draft_placeWorth, .ref a_draft_choiceWorth, .ref a_draft_balls, .ref a_draft_wheel, .int v_draft_sides, .int v_draft_kind, .int v_draft_rounds])), (a_tape, .inr (5, [.ref a_tape_token, .ref a_tape_start, .ref a_tape_meaning, .int v_tape_length, .ref a_tape_bytes, .int v_tape_next])), (a_tape_meaning, .inl (cyI, 241, .inl c_tape_meaning)), (a_tape_start, .inl (cyI, 241, .inl c_tape_start)), (a_tape_token, .inl (cyI, 241, .inl c_tape_token)), (a_told, .inl (cyI, 11, .inl (upd c_told (0 : Int32).toNatClampNeg 1)))] H := hP
      have hD : va_D A [(h0, .inr (1, [.ref a_tape, .ref a_draft, .int v_lines, .int v_flaw, .int v_flawPlace, .ref a_told, .int v_at])), (a_draft, .inr (2, [.ref a_draft_strength, .ref a_draft_placeWorth, .ref a_draft_choiceWorth, .ref a_draft_balls, .ref a_draft_wheel, .int v_draft_sides, .int v_draft_kind, .int v_draft_rounds])), (a_tape, .inr (5, [.ref a_tape_token, .ref a_tape_start, .ref a_tape_meaning, .int v_tape_length, .ref a_tape_bytes, .int v_tape_next])), (a_tape_meaning, .inl (cyI, 241, .inl c_tape_meaning)), (a_tape_start, .inl (cyI, 241, .inl c_tape_start)), (a_tape_token, .inl (cyI, 241, .inl c_tape_token)), (a_told, .inl (cyI, 11, .inl (upd c_told (0 : Int32).toNatClampNeg 1)))] := hD
      refine lv_aload_n hx hb dX1_takeSides_70 rfl (lv_at hl 1 rfl) ?_
      refine lv_iconst (v := 2) hx hb dX1_takeSides_71 (by decide) ?_
      refine lv_bipush (v := 6) hx hb dX1_takeSides_72 (by decide) ?_
      obtain ⟨q74, e74, hf⟩ := pb_some hf
      refine cc_i (wc := [(h0, .inr (1, [.ref a_tape, .ref a_draft, .int v_lines, .int v_flaw, .int v_flawPlace, .ref a_told, .int v_at])), (a_tape, .inr (5, [.ref a_tape_token, .ref a_tape_start, .ref a_tape_meaning, .int v_tape_length, .ref a_tape_bytes, .int v_tape_next])), (a_tape_meaning, .inl (cyI, 241, .inl c_tape_meaning)), (a_tape_start, .inl (cyI, 241, .inl c_tape_start)), (a_tape_token, .inl (cyI, 241, .inl c_tape_token))]) (wr := [(a_draft, .inr (2, [.ref a_draft_strength, .ref a_draft_placeWorth, .ref a_draft_choiceWorth, .ref a_draft_balls, .ref a_draft_wheel, .int v_draft_sides, .int v_draft_kind, .int v_draft_rounds])), (a_told, .inl (cyI, 11, .inl (upd c_told (0 : Int32).toNatClampNeg 1)))]) (w1 := [(h0, .inr (1, [.ref a_tape, .ref a_draft, .int v_lines, .int q74.2.2.1, .int q74.2.2.2, .ref a_told, .int q74.2.1])), (a_tape, .inr (5, [.ref a_tape_token, .ref a_tape_start, .ref a_tape_meaning, .int v_tape_length, .ref a_tape_bytes, .int v_tape_next])), (a_tape_meaning, .inl (cyI, 241, .inl c_tape_meaning)), (a_tape_start, .inl (cyI, 241, .inl c_tape_start)), (a_tape_token, .inl (cyI, 241, .inl c_tape_token))]) (wn := [(h0, .inr (1, [.ref a_tape, .ref a_draft, .int v_lines, .int q74.2.2.1, .int q74.2.2.2, .ref a_told, .int q74.2.1])), (a_draft, .inr (2, [.ref a_draft_strength, .ref a_draft_placeWorth, .ref a_draft_choiceWorth, .ref a_draft_balls, .ref a_draft_wheel, .int v_draft_sides, .int v_draft_kind, .int v_draft_rounds])), (a_tape, .inr (5, [.ref a_tape_token, .ref a_tape_start, .ref a_tape_meaning, .int v_tape_length, .ref a_tape_bytes, .int v_tape_next])), (a_tape_meaning, .inl (cyI, 241, .inl c_tape_meaning)), (a_tape_start, .inl (cyI, 241, .inl c_tape_start)), (a_tape_token, .inl (cyI, 241, .inl c_tape_token)), (a_told, .inl (cyI, 11, .inl (upd c_told (0 : Int32).toNatClampNeg 1)))]) hP hD hS hA [0, 2, 3, 4, 5] [1, 6] [2, 0, 3, 4, 5, 6, 1] rfl rfl rfl (by decide) rfl rfl (va_runV (C := RX1) (As := [.int 2, .int 6]) (rest := []) ⟨hx, hb, hml, hown, hL⟩ (mX1_takeNumber l D cyI cyJ cyB cyS N H.size h0 a_tape a_tape_meaning a_tape_start a_tape_token a_draft a_told a_tape_bytes v_lines v_flaw v_flawPlace v_at v_tape_length v_tape_next c_tape_meaning c_tape_start c_tape_token 2 6 q74 e74) (cwV 2 hL (gV (hR13 19 rfl) (hR13 20 rfl) (hR13 21 rfl) (hR2 3 rfl) (hR13 22 rfl)) rfl rfl rfl (by decide +kernel) ⟨Nat.le_of_ble_eq_true rfl, Nat.le_of_ble_eq_true rfl⟩) (PP_preV (ci := 1) (q0 := 0) hP hD hK [0, 2, 3, 4, 5] rfl rfl rfl rfl) rfl rfl hl.1 rfl (lv_room (Nat.le_of_ble_eq_true rfl)) dX1_takeSides_74 ⟨Nat.le_of_ble_eq_true rfl, Nat.le_of_ble_eq_true rfl⟩) (fun H locs hP hD hS => ?_)
      refine lv_if_ne (tgt := 82) hx hb dX1_takeSides_77 (by decide) (fun c77 => ?_) (fun c77 => ?_)
      · have hf := pif_f c77 hf
        refine lv_aload_n hx hb dX1_takeSides_82 rfl (lv_at hl 1 rfl) ?_
        refine va_get (D := D) (ci := 1) (v := .ref a_draft) (C := RX1) (T := TX1) (N := 7) hx hb hL inlX1 hown hK.1 hP 0 rfl rfl 1 (by decide) w1 (fun _ h9 => h9) rfl dX1_takeSides_83 ?_
        refine lv_aload_n hx hb dX1_takeSides_86 rfl (lv_at hl 1 rfl) ?_
        refine va_get (D := D) (ci := 1) (v := .ref a_tape) (C := RX1) (T := TX1) (N := 7) hx hb hL inlX1 hown hK.1 hP 0 rfl rfl 0 (by decide) w2 (fun _ h9 => h9) rfl dX1_takeSides_87 ?_
        refine va_get (D := D) (ci := 5) (v := .ref a_tape_meaning) (C := RX5) (T := TX5) (N := 6) hx hb hL inlX5 hown hK.1 hP 2 rfl rfl 2 (by decide) w3 (fun _ h9 => h9) rfl dX1_takeSides_90 ?_
        refine lv_aload_n hx hb dX1_takeSides_93 rfl (lv_at hl 1 rfl) ?_
        refine va_get (D := D) (ci := 1) (v := .int q74.2.1) (C := RX1) (T := TX1) (N := 7) hx hb hL inlX1 hown hK.1 hP 0 rfl rfl 6 (by decide) w4 (fun _ h9 => h9) rfl dX1_takeSides_94 ?_
        obtain ⟨h97, hf⟩ := pg_some hf
        refine va_iald hx hb hK.1 hP 3 0 rfl rfl h97 dX1_takeSides_97 ?_
        refine va_put (D := D) (ci := 2) (v := .int (c_tape_meaning q74.2.1.toNatClampNeg)) (ty := .int) (C := RX2) (T := TX2) (N := 8) hx hb hL inlX2 tyX2 tyX2_ok nmX2 hown hK.1 hP hD hS 1 rfl rfl 5 (by decide) w5 (fun _ h9 => h9) rfl (by decide +kernel) rfl rfl (Nat.le_of_ble_eq_true rfl) dX1_takeSides_98 (fun H locs hP hD hS => ?_)
        have hP : va_P D vwCl [(h0, .inr (1, [.ref a_tape, .ref a_draft, .int v_lines, .int q74.2.2.1, .int q74.2.2.2, .ref a_told, .int q74.2.1])), (a_draft, .inr (2, [.ref a_draft_strength, .ref a_draft_placeWorth, .ref a_draft_choiceWorth, .ref a_draft_balls, .ref a_draft_wheel, .int (c_tape_meaning q74.2.1.toNatClampNeg), .int v_draft_kind, .int v_draft_rounds])), (a_tape, .inr (5, [.ref a_tape_token, .ref a_tape_start, .ref a_tape_meaning, .int v_tape_length, .ref a_tape_bytes, .int v_tape_next])), (a_tape_meaning, .inl (cyI, 241, .inl c_tape_meaning)), (a_tape_start, .inl (cyI, 241, .inl c_tape_start)), (a_tape_token, .inl (cyI, 241, .inl c_tape_token)), (a_told, .inl (cyI, 11, .inl (upd c_told (0 : Int32).toNatClampNeg 1)))] H := hP
        have hD : va_D A [(h0, .inr (1, [.ref a_tape, .ref a_draft, .int v_lines, .int q74.2.2.1, .int q74.2.2.2, .ref a_told, .int q74.2.1])), (a_draft, .inr (2, [.ref a_draft_strength, .ref a_draft_placeWorth, .ref a_draft_choiceWorth, .ref a_draft_balls, .ref a_draft_wheel, .int (c_tape_meaning q74.2.1.toNatClampNeg), .int v_draft_kind, .int v_draft_rounds])), (a_tape, .inr (5, [.ref a_tape_token, .ref a_tape_start, .ref a_tape_meaning, .int v_tape_length, .ref a_tape_bytes, .int v_tape_next])), (a_tape_meaning, .inl (cyI, 241, .inl c_tape_meaning)), (a_tape_start, .inl (cyI, 241, .inl c_tape_start)), (a_tape_token, .inl (cyI, 241, .inl c_tape_token)), (a_told, .inl (cyI, 11, .inl (upd c_told (0 : Int32).toNatClampNeg 1)))] := hD
        refine lv_iconst (v := 1) hx hb dX1_takeSides_101 (by decide) ?_
        exact ret_z (q := q) (g := fun q => q.1) (wp := fun q => [(h0, .inr (1, [.ref a_tape, .ref a_draft, .int v_lines, .int q.2.2.1, .int q.2.2.2.1, .ref a_told, .int q.2.1])), (a_draft, .inr (2, [.ref a_draft_strength, .ref a_draft_placeWorth, .ref a_draft_choiceWorth, .ref a_draft_balls, .ref a_draft_wheel, .int q.2.2.2.2.1, .int v_draft_kind, .int v_draft_rounds])), (a_tape, .inr (5, [.ref a_tape_token, .ref a_tape_start, .ref a_tape_meaning, .int v_tape_length, .ref a_tape_bytes, .int v_tape_next])), (a_tape_meaning, .inl (cyI, 241, .inl c_tape_meaning)), (a_tape_start, .inl (cyI, 241, .inl c_tape_start)), (a_tape_token, .inl (cyI, 241, .inl c_tape_token)), (a_told, .inl (cyI, 11, .inl q.2.2.2.2.2))]) hQ hf hx hb hr hlocks rfl hP hD hS dX1_takeSides_102 rfl
      · have hf := pif_t c77 hf
        refine lv_iconst (v := 0) hx hb dX1_takeSides_80 (by decide) ?_
        exact ret_z (q := q) (g := fun q => q.1) (wp := fun q => [(h0, .inr (1, [.ref a_tape, .ref a_draft, .int v_lines, .int q.2.2.1, .int q.2.2.2.1, .ref a_told, .int q.2.1])), (a_draft, .inr (2, [.ref a_draft_strength, .ref a_draft_placeWorth, .ref a_draft_choiceWorth, .ref a_draft_balls, .ref a_draft_wheel, .int q.2.2.2.2.1, .int v_draft_kind, .int v_draft_rounds])), (a_tape, .inr (5, [.ref a_tape_token, .ref a_tape_start, .ref a_tape_meaning, .int v_tape_length, .ref a_tape_bytes, .int v_tape_next])), (a_tape_meaning, .inl (cyI, 241, .inl c_tape_meaning)), (a_tape_start, .inl (cyI, 241, .inl c_tape_start)), (a_tape_token, .inl (cyI, 241, .inl c_tape_token)), (a_told, .inl (cyI, 11, .inl q.2.2.2.2.2))]) hQ hf hx hb hr hlocks rfl hP hD hS dX1_takeSides_81 rfl
    · have hf := pif_f c54 hf
      exact hB57 v_at v_flaw v_flawPlace v_draft_sides c_told H locs ls hf hP hD hS (lv_sub hl [1] rfl)
abbrev rmX1_takeRule : Room := { frames := 2, cells := 0, slots := 0, locals := 42 }
set_option maxHeartbeats 40000000 in
set_option maxRecDepth 100000 in
theorem mX1_takeRule (l : Launch) (D : va_G) (cyI cyJ cyB cyS : ClassId) (N : Nat) (sz : Nat) (h0 : Nat) (a_draft : Nat) (a_tape : Nat) (a_tape_meaning : Nat) (a_tape_start : Nat) (a_tape_token : Nat) (a_told : Nat) (a_draft_strength : Nat) (a_draft_placeWorth : Nat) (a_draft_choiceWorth : Nat) (a_draft_balls : Nat) (a_draft_wheel : Nat) (a_tape_bytes : Nat) (v_lines : Int32) (v_flaw : Int32) (v_flawPlace : Int32) (v_at : Int32) (v_draft_sides : Int32) (v_draft_kind : Int32) (v_draft_rounds : Int32) (v_tape_length : Int32) (v_tape_next : Int32) (c_tape_meaning : Nat → Int32) (c_tape_start : Nat → Int32) (c_tape_token : Nat → Int32) (c_told : Nat → Int32) (q : Int32 × Int32 × Int32 × Int32 × Int32 × (Nat → Int32)) (hf : fX1_takeRule N v_at v_flaw v_flawPlace v_draft_kind c_tape_meaning c_tape_start c_tape_token c_told = some q) : Met l yX1_takeRule (wS yX1_takeRule cX1_takeRule 1 (some .boolean)) rmX1_takeRule (va_Pc [.ref h0] (PP D cyI cyJ cyB cyS [(h0, .inr (1, [.ref a_tape, .ref a_draft, .int v_lines, .int v_flaw, .int v_flawPlace, .ref a_told, .int v_at])), (a_draft, .inr (2, [.ref a_draft_strength, .ref a_draft_placeWorth, .ref a_draft_choiceWorth, .ref a_draft_balls, .ref a_draft_wheel, .int v_draft_sides, .int v_draft_kind, .int v_draft_rounds])), (a_tape, .inr (5, [.ref a_tape_token, .ref a_tape_start, .ref a_tape_meaning, .int v_tape_length, .ref a_tape_bytes, .int v_tape_next])), (a_tape_meaning, .inl (cyI, 241, .inl c_tape_meaning)), (a_tape_start, .inl (cyI, 241, .inl c_tape_start)), (a_tape_token, .inl (cyI, 241, .inl c_tape_token)), (a_told, .inl (cyI, 11, .inl c_told))] sz)) (QI q.1 D [(h0, .inr (1, [.ref a_tape, .ref a_draft, .int v_lines, .int q.2.2.1, .int q.2.2.2.1, .ref a_told, .int q.2.1])), (a_draft, .inr (2, [.ref a_draft_strength, .ref a_draft_placeWorth, .ref a_draft_choiceWorth, .ref a_draft_balls, .ref a_draft_wheel, .int v_draft_sides, .int q.2.2.2.2.1, .int v_draft_rounds])), (a_tape, .inr (5, [.ref a_tape_token, .ref a_tape_start, .ref a_tape_meaning, .int v_tape_length, .ref a_tape_bytes, .int v_tape_next])), (a_tape_meaning, .inl (cyI, 241, .inl c_tape_meaning)), (a_tape_start, .inl (cyI, 241, .inl c_tape_start)), (a_tape_token, .inl (cyI, 241, .inl c_tape_token)), (a_told, .inl (cyI, 11, .inl q.2.2.2.2.2))] (va_A [(h0, .inr (1, [.ref a_tape, .ref a_draft, .int v_lines, .int v_flaw, .int v_flawPlace, .ref a_told, .int v_at])), (a_draft, .inr (2, [.ref a_draft_strength, .ref a_draft_placeWorth, .ref a_draft_choiceWorth, .ref a_draft_balls, .ref a_draft_wheel, .int v_draft_sides, .int v_draft_kind, .int v_draft_rounds])), (a_tape, .inr (5, [.ref a_tape_token, .ref a_tape_start, .ref a_tape_meaning, .int v_tape_length, .ref a_tape_bytes, .int v_tape_next])), (a_tape_meaning, .inl (cyI, 241, .inl c_tape_meaning)), (a_tape_start, .inl (cyI, 241, .inl c_tape_start)), (a_tape_token, .inl (cyI, 241, .inl c_tape_token)), (a_told, .inl (cyI, 11, .inl c_told))] sz)) 0 0 (va_A [(h0, .inr (1, [.ref a_tape, .ref a_draft, .int v_lines, .int v_flaw, .int v_flawPlace, .ref a_told, .int v_at])), (a_draft, .inr (2, [.ref a_draft_strength, .ref a_draft_placeWorth, .ref a_draft_choiceWorth, .ref a_draft_balls, .ref a_draft_wheel, .int v_draft_sides, .int v_draft_kind, .int v_draft_rounds])), (a_tape, .inr (5, [.ref a_tape_token, .ref a_tape_start, .ref a_tape_meaning, .int v_tape_length, .ref a_tape_bytes, .int v_tape_next])), (a_tape_meaning, .inl (cyI, 241, .inl c_tape_meaning)), (a_tape_start, .inl (cyI, 241, .inl c_tape_start)), (a_tape_token, .inl (cyI, 241, .inl c_tape_token)), (a_told, .inl (cyI, 11, .inl c_told))] sz) := by
  refine Met.ofW (cc := cX1_takeRule) (maxL := 1) (ret := (some .boolean)) (by decide) rfl ?_
  intro p e s m args below meth c s₁ B hml hv
  obtain ⟨rfl, hsz, hP, hK, hD0⟩ := hv
  have hx := B.exec
  have hb := B.bytes
  have hr := B.returns
  have hts := atoms_spec (ws := (wS yX1_takeRule cX1_takeRule 1 (some .boolean))) B.pre
  have hown : s.vm.findClass RX1 = some m.cls := findClass_of_methodNamed B.named
  have hlocks := B.notSynchronized
  subst hsz
  have hD := hD0.self (sz := s.heap.size)
  refine w_nameQ (fun Q hQ => ?_)
  have hl := lv_entry ([.ref h0] : List Value) (n := 1) (Nat.le_of_ble_eq_true rfl)
  rw [lg_entry_eq]
  generalize (lg_sl ([.ref h0] : List Value) ++ List.replicate (1 - (lg_sl ([.ref h0] : List Value)).length) Slot.unset).toArray = ls at hl ⊢
  have hl : lv_has ls 1 [(0, .ref h0)] := hl
  generalize hAe : va_A [(h0, .inr (1, [.ref a_tape, .ref a_draft, .int v_lines, .int v_flaw, .int v_flawPlace, .ref a_told, .int v_at])), (a_draft, .inr (2, [.ref a_draft_strength, .ref a_draft_placeWorth, .ref a_draft_choiceWorth, .ref a_draft_balls, .ref a_draft_wheel, .int v_draft_sides, .int v_draft_kind, .int v_draft_rounds])), (a_tape, .inr (5, [.ref a_tape_token, .ref a_tape_start, .ref a_tape_meaning, .int v_tape_length, .ref a_tape_bytes, .int v_tape_next])), (a_tape_meaning, .inl (cyI, 241, .inl c_tape_meaning)), (a_tape_start, .inl (cyI, 241, .inl c_tape_start)), (a_tape_token, .inl (cyI, 241, .inl c_tape_token)), (a_told, .inl (cyI, 11, .inl c_told))] s.heap.size = A at hD hQ
  have hA : ∀ q : Nat, s.heap.size ≤ q → A q := fun q h => by rw [← hAe]; exact Or.inr h
  have hS : va_S A s.heap s.heap [] := va_S.rf
  generalize ([.ref h0] : List Value).toArray = av at hts hQ ⊢
  have hL : ∀ w ∈ wsL_law, w.before av s = true := fun w h => hts w (List.mem_cons_of_mem _ h)
  have w0 := hL (.fieldLink RX1 25 "LosingLeague$Reader" "told" "[I") (hR4 3 rfl)
  have w1 := hL (.fieldLink RX1 12 "LosingLeague$Reader" "tape" "LLosingLeague$Tape;") (hR4 0 rfl)
  have w2 := hL (.fieldLink RX1 81 "LosingLeague$Tape" "meaning" "[I") (hR12 23 rfl)
  have w3 := hL (.fieldLink RX1 39 "LosingLeague$Reader" "at" "I") (hR9 5 rfl)
  have w4 := hL (.fieldLink RX1 21 "LosingLeague$Reader" "draft" "LLosingLeague$Rules;") (hR4 2 rfl)
  have w5 := hL (.fieldLink RX1 61 "LosingLeague$Rules" "kind" "I") (hR14 7 rfl)
  have hB138 : ∀ (v_at : Int32) (v_flaw : Int32) (v_flawPlace : Int32) (v_draft_kind : Int32) (c_told : Nat → Int32) (H : Heap) (locs : List Loc) (ls : Array Slot), fX1_takeRule_138 N c_tape_meaning c_tape_start c_tape_token v_at v_flaw v_flawPlace v_draft_kind c_told = some q → va_P D vwCl [(h0, .inr (1, [.ref a_tape, .ref a_draft, .int v_lines, .int v_flaw, .int v_flawPlace, .ref a_told, .int v_at])), (a_draft, .inr (2, [.ref a_draft_strength, .ref a_draft_placeWorth, .ref a_draft_choiceWorth, .ref a_draft_balls, .ref a_draft_wheel, .int v_draft_sides, .int v_draft_kind, .int v_draft_rounds])), (a_tape, .inr (5, [.ref a_tape_token, .ref a_tape_start, .ref a_tape_meaning, .int v_tape_length, .ref a_tape_bytes, .int v_tape_next])), (a_tape_meaning, .inl (cyI, 241, .inl c_tape_meaning)), (a_tape_start, .inl (cyI, 241, .inl c_tape_start)), (a_tape_token, .inl (cyI, 241, .inl c_tape_token)), (a_told, .inl (cyI, 11, .inl c_told))] H → va_D A [(h0, .inr (1, [.ref a_tape, .ref a_draft, .int v_lines, .int v_flaw, .int v_flawPlace, .ref a_told, .int v_at])), (a_draft, .inr (2, [.ref a_draft_strength, .ref a_draft_placeWorth, .ref a_draft_choiceWorth, .ref a_draft_balls, .ref a_draft_wheel, .int v_draft_sides, .int v_draft_kind, .int v_draft_rounds])), (a_tape, .inr (5, [.ref a_tape_token, .ref a_tape_start, .ref a_tape_meaning, .int v_tape_length, .ref a_tape_bytes, .int v_tape_next])), (a_tape_meaning, .inl (cyI, 241, .inl c_tape_meaning)), (a_tape_start, .inl (cyI, 241, .inl c_tape_start)), (a_tape_token, .inl (cyI, 241, .inl c_tape_token)), (a_told, .inl (cyI, 11, .inl c_told))] → va_S A s.heap H locs → lv_has ls 1 [(0, .ref h0)] → W p l e rmX1_takeRule s m av below meth c H locs 0 0 Q (F0 m 138 ls []) := by
    intro v_at v_flaw v_flawPlace v_draft_kind c_told H locs ls hf hP hD hS hl
    unfold fX1_takeRule_138 at hf
    refine lv_aload_n hx hb dX1_takeRule_138 rfl (lv_at hl 0 rfl) ?_
    refine lv_iconst (v := 2) hx hb dX1_takeRule_139 (by decide) ?_
    obtain ⟨q140, e140, hf⟩ := pb_some hf
    refine cc_i (wc := [(h0, .inr (1, [.ref a_tape, .ref a_draft, .int v_lines, .int v_flaw, .int v_flawPlace, .ref a_told, .int v_at])), (a_tape, .inr (5, [.ref a_tape_token, .ref a_tape_start, .ref a_tape_meaning, .int v_tape_length, .ref a_tape_bytes, .int v_tape_next])), (a_tape_start, .inl (cyI, 241, .inl c_tape_start))]) (wr := [(a_draft, .inr (2, [.ref a_draft_strength, .ref a_draft_placeWorth, .ref a_draft_choiceWorth, .ref a_draft_balls, .ref a_draft_wheel, .int v_draft_sides, .int v_draft_kind, .int v_draft_rounds])), (a_tape_meaning, .inl (cyI, 241, .inl c_tape_meaning)), (a_tape_token, .inl (cyI, 241, .inl c_tape_token)), (a_told, .inl (cyI, 11, .inl c_told))]) (w1 := [(h0, .inr (1, [.ref a_tape, .ref a_draft, .int v_lines, .int q140.2.1, .int q140.2.2, .ref a_told, .int v_at])), (a_tape, .inr (5, [.ref a_tape_token, .ref a_tape_start, .ref a_tape_meaning, .int v_tape_length, .ref a_tape_bytes, .int v_tape_next])), (a_tape_start, .inl (cyI, 241, .inl c_tape_start))]) (wn := [(h0, .inr (1, [.ref a_tape, .ref a_draft, .int v_lines, .int q140.2.1, .int q140.2.2, .ref a_told, .int v_at])), (a_draft, .inr (2, [.ref a_draft_strength, .ref a_draft_placeWorth, .ref a_draft_choiceWorth, .ref a_draft_balls, .ref a_draft_wheel, .int v_draft_sides, .int v_draft_kind, .int v_draft_rounds])), (a_tape, .inr (5, [.ref a_tape_token, .ref a_tape_start, .ref a_tape_meaning, .int v_tape_length, .ref a_tape_bytes, .int v_tape_next])), (a_tape_meaning, .inl (cyI, 241, .inl c_tape_meaning)), (a_tape_start, .inl (cyI, 241, .inl c_tape_start)), (a_tape_token, .inl (cyI, 241, .inl c_tape_token)), (a_told, .inl (cyI, 11, .inl c_told))]) hP hD hS hA [0, 2, 4] [1, 3, 5, 6] [4, 0, 5, 1, 6, 2, 3] rfl rfl rfl (by decide) rfl rfl (va_runV (C := RX1) (As := [.int 2]) (rest := []) ⟨hx, hb, hml, hown, hL⟩ (mX1_fail l D cyI cyJ cyB cyS N H.size h0 a_tape a_tape_start a_draft a_told a_tape_token a_tape_meaning a_tape_bytes v_lines v_flaw v_flawPlace v_at v_tape_length v_tape_next c_tape_start 2 q140 e140) (cwV 1 hL (gV (hR13 10 rfl) (hR13 11 rfl) (hR13 12 rfl) (hR2 3 rfl) (hR13 13 rfl)) rfl rfl rfl (by decide +kernel) ⟨Nat.le_of_ble_eq_true rfl, Nat.le_of_ble_eq_true rfl⟩) (PP_preV (ci := 1) (q0 := 0) hP hD hK [0, 2, 4] rfl rfl rfl rfl) rfl rfl hl.1 rfl (lv_room (Nat.le_of_ble_eq_true rfl)) dX1_takeRule_140 ⟨Nat.le_of_ble_eq_true rfl, Nat.le_of_ble_eq_true rfl⟩) (fun H locs hP hD hS => ?_)
    obtain ⟨n143, hf⟩ := pg_some hf
    exact ret_z (q := q) (g := fun q => q.1) (wp := fun q => [(h0, .inr (1, [.ref a_tape, .ref a_draft, .int v_lines, .int q.2.2.1, .int q.2.2.2.1, .ref a_told, .int q.2.1])), (a_draft, .inr (2, [.ref a_draft_strength, .ref a_draft_placeWorth, .ref a_draft_choiceWorth, .ref a_draft_balls, .ref a_draft_wheel, .int v_draft_sides, .int q.2.2.2.2.1, .int v_draft_rounds])), (a_tape, .inr (5, [.ref a_tape_token, .ref a_tape_start, .ref a_tape_meaning, .int v_tape_length, .ref a_tape_bytes, .int v_tape_next])), (a_tape_meaning, .inl (cyI, 241, .inl c_tape_meaning)), (a_tape_start, .inl (cyI, 241, .inl c_tape_start)), (a_tape_token, .inl (cyI, 241, .inl c_tape_token)), (a_told, .inl (cyI, 11, .inl q.2.2.2.2.2))]) hQ hf hx hb hr hlocks (isB_n n143) hP hD hS dX1_takeRule_143 rfl
  unfold fX1_takeRule at hf
  obtain ⟨H, hH⟩ : ∃ H : Heap, H = s.heap := ⟨_, rfl⟩
  obtain ⟨locs, hlo⟩ : ∃ locs : List Loc, locs = [] := ⟨_, rfl⟩
  have hP : va_P D vwCl [(h0, .inr (1, [.ref a_tape, .ref a_draft, .int v_lines, .int v_flaw, .int v_flawPlace, .ref a_told, .int v_at])), (a_draft, .inr (2, [.ref a_draft_strength, .ref a_draft_placeWorth, .ref a_draft_choiceWorth, .ref a_draft_balls, .ref a_draft_wheel, .int v_draft_sides, .int v_draft_kind, .int v_draft_rounds])), (a_tape, .inr (5, [.ref a_tape_token, .ref a_tape_start, .ref a_tape_meaning, .int v_tape_length, .ref a_tape_bytes, .int v_tape_next])), (a_tape_meaning, .inl (cyI, 241, .inl c_tape_meaning)), (a_tape_start, .inl (cyI, 241, .inl c_tape_start)), (a_tape_token, .inl (cyI, 241, .inl c_tape_token)), (a_told, .inl (cyI, 11, .inl c_told))] H := by rw [hH]; exact hP
  have hS : va_S A s.heap H locs := by rw [hH, hlo]; exact hS
  suffices hw : W p l e rmX1_takeRule s m av below meth c H locs 0 0 Q (F0 m 0 ls []) by rw [hH, hlo] at hw; exact hw
  refine lv_aload_n hx hb dX1_takeRule_0 rfl (lv_at hl 0 rfl) ?_
  refine va_get (D := D) (ci := 1) (v := .ref a_told) (C := RX1) (T := TX1) (N := 7) hx hb hL inlX1 hown hK.1 hP 0 rfl rfl 5 (by decide) w0 (fun _ h9 => h9) rfl dX1_takeRule_1 ?_
  refine lv_iconst (v := 4) hx hb dX1_takeRule_4 (by decide) ?_
  obtain ⟨h5, hf⟩ := pg_some hf
  refine va_iald hx hb hK.1 hP 6 0 rfl rfl h5 dX1_takeRule_5 ?_
  refine lv_if_eq (tgt := 15) hx hb dX1_takeRule_6 (by decide) (fun c6 => ?_) (fun c6 => ?_)
  · have hf := pif_t c6 hf
    refine lv_aload_n hx hb dX1_takeRule_15 rfl (lv_at hl 0 rfl) ?_
    refine va_get (D := D) (ci := 1) (v := .ref a_told) (C := RX1) (T := TX1) (N := 7) hx hb hL inlX1 hown hK.1 hP 0 rfl rfl 5 (by decide) w0 (fun _ h9 => h9) rfl dX1_takeRule_16 ?_
    refine lv_iconst (v := 4) hx hb dX1_takeRule_19 (by decide) ?_
    refine lv_iconst (v := 1) hx hb dX1_takeRule_20 (by decide) ?_
    obtain ⟨h21, hf⟩ := pg_some hf
    refine va_iast hx hb hK.1 hP hD hS 6 0 rfl rfl h21 dX1_takeRule_21 (fun H locs hP hD hS => ?_)
    have hP : va_P D vwCl [(h0, .inr (1, [.ref a_tape, .ref a_draft, .int v_lines, .int v_flaw, .int v_flawPlace, .ref a_told, .int v_at])), (a_draft, .inr (2, [.ref a_draft_strength, .ref a_draft_placeWorth, .ref a_draft_choiceWorth, .ref a_draft_balls, .ref a_draft_wheel, .int v_draft_sides, .int v_draft_kind, .int v_draft_rounds])), (a_tape, .inr (5, [.ref a_tape_token, .ref a_tape_start, .ref a_tape_meaning, .int v_tape_length, .ref a_tape_bytes, .int v_tape_next])), (a_tape_meaning, .inl (cyI, 241, .inl c_tape_meaning)), (a_tape_start, .inl (cyI, 241, .inl c_tape_start)), (a_tape_token, .inl (cyI, 241, .inl c_tape_token)), (a_told, .inl (cyI, 11, .inl (upd c_told (4 : Int32).toNatClampNeg 1)))] H := hP
    have hD : va_D A [(h0, .inr (1, [.ref a_tape, .ref a_draft, .int v_lines, .int v_flaw, .int v_flawPlace, .ref a_told, .int v_at])), (a_draft, .inr (2, [.ref a_draft_strength, .ref a_draft_placeWorth, .ref a_draft_choiceWorth, .ref a_draft_balls, .ref a_draft_wheel, .int v_draft_sides, .int v_draft_kind, .int v_draft_rounds])), (a_tape, .inr (5, [.ref a_tape_token, .ref a_tape_start, .ref a_tape_meaning, .int v_tape_length, .ref a_tape_bytes, .int v_tape_next])), (a_tape_meaning, .inl (cyI, 241, .inl c_tape_meaning)), (a_tape_start, .inl (cyI, 241, .inl c_tape_start)), (a_tape_token, .inl (cyI, 241, .inl c_tape_token)), (a_told, .inl (cyI, 11, .inl (upd c_told (4 : Int32).toNatClampNeg 1)))] := hD
    refine lv_aload_n hx hb dX1_takeRule_22 rfl (lv_at hl 0 rfl) ?_
    obtain ⟨q23, e23, hf⟩ := pb_some hf
    refine cc_v (wc := [(h0, .inr (1, [.ref a_tape, .ref a_draft, .int v_lines, .int v_flaw, .int v_flawPlace, .ref a_told, .int v_at]))]) (wr := [(a_draft, .inr (2, [.ref a_draft_strength, .ref a_draft_placeWorth, .ref a_draft_choiceWorth, .ref a_draft_balls, .ref a_draft_wheel, .int v_draft_sides, .int v_draft_kind, .int v_draft_rounds])), (a_tape, .inr (5, [.ref a_tape_token, .ref a_tape_start, .ref a_tape_meaning, .int v_tape_length, .ref a_tape_bytes, .int v_tape_next])), (a_tape_meaning, .inl (cyI, 241, .inl c_tape_meaning)), (a_tape_start, .inl (cyI, 241, .inl c_tape_start)), (a_tape_token, .inl (cyI, 241, .inl c_tape_token)), (a_told, .inl (cyI, 11, .inl (upd c_told (4 : Int32).toNatClampNeg 1)))]) (w1 := [(h0, .inr (1, [.ref a_tape, .ref a_draft, .int v_lines, .int v_flaw, .int v_flawPlace, .ref a_told, .int q23]))]) (wn := [(h0, .inr (1, [.ref a_tape, .ref a_draft, .int v_lines, .int v_flaw, .int v_flawPlace, .ref a_told, .int q23])), (a_draft, .inr (2, [.ref a_draft_strength, .ref a_draft_placeWorth, .ref a_draft_choiceWorth, .ref a_draft_balls, .ref a_draft_wheel, .int v_draft_sides, .int v_draft_kind, .int v_draft_rounds])), (a_tape, .inr (5, [.ref a_tape_token, .ref a_tape_start, .ref a_tape_meaning, .int v_tape_length, .ref a_tape_bytes, .int v_tape_next])), (a_tape_meaning, .inl (cyI, 241, .inl c_tape_meaning)), (a_tape_start, .inl (cyI, 241, .inl c_tape_start)), (a_tape_token, .inl (cyI, 241, .inl c_tape_token)), (a_told, .inl (cyI, 11, .inl (upd c_told (4 : Int32).toNatClampNeg 1)))]) hP hD hS hA [0] [1, 2, 3, 4, 5, 6] [6, 0, 1, 2, 3, 4, 5] rfl rfl rfl (by decide) rfl rfl (va_runV (C := RX1) (As := []) (rest := []) ⟨hx, hb, hml, hown, hL⟩ (mX1_step l D cyI cyJ cyB cyS N H.size h0 a_tape a_draft a_told v_lines v_flaw v_flawPlace v_at  q23 e23) (cwV 0 hL (gV (hR13 23 rfl) (hR14 0 rfl) (hR14 1 rfl) (hR2 3 rfl) (hR14 2 rfl)) rfl rfl rfl (by decide +kernel) ⟨Nat.le_of_ble_eq_true rfl, Nat.le_of_ble_eq_true rfl⟩) (PP_preV (ci := 1) (q0 := 0) hP hD hK [0] rfl rfl rfl rfl) rfl rfl hl.1 rfl (lv_room (Nat.le_of_ble_eq_true rfl)) dX1_takeRule_23 ⟨Nat.le_of_ble_eq_true rfl, Nat.le_of_ble_eq_true rfl⟩) (fun H locs hP hD hS => ?_)
    refine lv_aload_n hx hb dX1_takeRule_26 rfl (lv_at hl 0 rfl) ?_
    refine lv_iconst (v := 1) hx hb dX1_takeRule_27 (by decide) ?_
    obtain ⟨q28, e28, hf⟩ := pb_some hf
    refine cc_i (wc := [(h0, .inr (1, [.ref a_tape, .ref a_draft, .int v_lines, .int v_flaw, .int v_flawPlace, .ref a_told, .int q23])), (a_tape, .inr (5, [.ref a_tape_token, .ref a_tape_start, .ref a_tape_meaning, .int v_tape_length, .ref a_tape_bytes, .int v_tape_next])), (a_tape_start, .inl (cyI, 241, .inl c_tape_start)), (a_tape_token, .inl (cyI, 241, .inl c_tape_token))]) (wr := [(a_draft, .inr (2, [.ref a_draft_strength, .ref a_draft_placeWorth, .ref a_draft_choiceWorth, .ref a_draft_balls, .ref a_draft_wheel, .int v_draft_sides, .int v_draft_kind, .int v_draft_rounds])), (a_tape_meaning, .inl (cyI, 241, .inl c_tape_meaning)), (a_told, .inl (cyI, 11, .inl (upd c_told (4 : Int32).toNatClampNeg 1)))]) (w1 := [(h0, .inr (1, [.ref a_tape, .ref a_draft, .int v_lines, .int q28.2.1, .int q28.2.2, .ref a_told, .int q23])), (a_tape, .inr (5, [.ref a_tape_token, .ref a_tape_start, .ref a_tape_meaning, .int v_tape_length, .ref a_tape_bytes, .int v_tape_next])), (a_tape_start, .inl (cyI, 241, .inl c_tape_start)), (a_tape_token, .inl (cyI, 241, .inl c_tape_token))]) (wn := [(h0, .inr (1, [.ref a_tape, .ref a_draft, .int v_lines, .int q28.2.1, .int q28.2.2, .ref a_told, .int q23])), (a_draft, .inr (2, [.ref a_draft_strength, .ref a_draft_placeWorth, .ref a_draft_choiceWorth, .ref a_draft_balls, .ref a_draft_wheel, .int v_draft_sides, .int v_draft_kind, .int v_draft_rounds])), (a_tape, .inr (5, [.ref a_tape_token, .ref a_tape_start, .ref a_tape_meaning, .int v_tape_length, .ref a_tape_bytes, .int v_tape_next])), (a_tape_meaning, .inl (cyI, 241, .inl c_tape_meaning)), (a_tape_start, .inl (cyI, 241, .inl c_tape_start)), (a_tape_token, .inl (cyI, 241, .inl c_tape_token)), (a_told, .inl (cyI, 11, .inl (upd c_told (4 : Int32).toNatClampNeg 1)))]) hP hD hS hA [0, 2, 4, 5] [1, 3, 6] [3, 0, 4, 1, 5, 6, 2] rfl rfl rfl (by decide) rfl rfl (va_runV (C := RX1) (As := [.int 1]) (rest := []) ⟨hx, hb, hml, hown, hL⟩ (mX1_isDue l D cyI cyJ cyB cyS N H.size h0 a_tape a_tape_start a_tape_token a_draft a_told a_tape_meaning a_tape_bytes v_lines v_flaw v_flawPlace q23 v_tape_length v_tape_next c_tape_start c_tape_token 1 q28 e28) (cwV 1 hL (gV (hR13 6 rfl) (hR13 7 rfl) (hR13 8 rfl) (hR2 3 rfl) (hR13 9 rfl)) rfl rfl rfl (by decide +kernel) ⟨Nat.le_of_ble_eq_true rfl, Nat.le_of_ble_eq_true rfl⟩) (PP_preV (ci := 1) (q0 := 0) hP hD hK [0, 2, 4, 5] rfl rfl rfl rfl) rfl rfl hl.1 rfl (lv_room (Nat.le_of_ble_eq_true rfl)) dX1_takeRule_28 ⟨Nat.le_of_ble_eq_true rfl, Nat.le_of_ble_eq_true rfl⟩) (fun H locs hP hD hS => ?_)
    refine lv_if_ne (tgt := 36) hx hb dX1_takeRule_31 (by decide) (fun c31 => ?_) (fun c31 => ?_)
    · have hf := pif_f c31 hf
      refine lv_aload_n hx hb dX1_takeRule_36 rfl (lv_at hl 0 rfl) ?_
      refine va_get (D := D) (ci := 1) (v := .ref a_tape) (C := RX1) (T := TX1) (N := 7) hx hb hL inlX1 hown hK.1 hP 0 rfl rfl 0 (by decide) w1 (fun _ h9 => h9) rfl dX1_takeRule_37 ?_
      refine va_get (D := D) (ci := 5) (v := .ref a_tape_meaning) (C := RX5) (T := TX5) (N := 6) hx hb hL inlX5 hown hK.1 hP 2 rfl rfl 2 (by decide) w2 (fun _ h9 => h9) rfl dX1_takeRule_40 ?_
      refine lv_aload_n hx hb dX1_takeRule_43 rfl (lv_at hl 0 rfl) ?_
      refine va_get (D := D) (ci := 1) (v := .int q23) (C := RX1) (T := TX1) (N := 7) hx hb hL inlX1 hown hK.1 hP 0 rfl rfl 6 (by decide) w3 (fun _ h9 => h9) rfl dX1_takeRule_44 ?_
      obtain ⟨h47, hf⟩ := pg_some hf
      refine va_iald hx hb hK.1 hP 3 0 rfl rfl h47 dX1_takeRule_47 ?_
      rcases Decidable.em ((c_tape_meaning q23.toNatClampNeg) = 5) with z48_0 | z48_0
      · have hf := pif_t z48_0 hf
        refine lv_tableIn (tgt := 98) hx hb dX1_takeRule_48 (by rw [z48_0]; decide) (by rw [z48_0]; decide) (by rw [z48_0]; try rfl) (by decide) ?_
        refine lv_aload_n hx hb dX1_takeRule_98 rfl (lv_at hl 0 rfl) ?_
        refine va_get (D := D) (ci := 1) (v := .ref a_draft) (C := RX1) (T := TX1) (N := 7) hx hb hL inlX1 hown hK.1 hP 0 rfl rfl 1 (by decide) w4 (fun _ h9 => h9) rfl dX1_takeRule_99 ?_
        refine lv_iconst (v := 1) hx hb dX1_takeRule_102 (by decide) ?_
        refine va_put (D := D) (ci := 2) (v := .int 1) (ty := .int) (C := RX2) (T := TX2) (N := 8) hx hb hL inlX2 tyX2 tyX2_ok nmX2 hown hK.1 hP hD hS 1 rfl rfl 6 (by decide) w5 (fun _ h9 => h9) rfl (by decide +kernel) rfl rfl (Nat.le_of_ble_eq_true rfl) dX1_takeRule_103 (fun H locs hP hD hS => ?_)
        have hP : va_P D vwCl [(h0, .inr (1, [.ref a_tape, .ref a_draft, .int v_lines, .int q28.2.1, .int q28.2.2, .ref a_told, .int q23])), (a_draft, .inr (2, [.ref a_draft_strength, .ref a_draft_placeWorth, .ref a_draft_choiceWorth, .ref a_draft_balls, .ref a_draft_wheel, .int v_draft_sides, .int 1, .int v_draft_rounds])), (a_tape, .inr (5, [.ref a_tape_token, .ref a_tape_start, .ref a_tape_meaning, .int v_tape_length, .ref a_tape_bytes, .int v_tape_next])), (a_tape_meaning, .inl (cyI, 241, .inl c_tape_meaning)), (a_tape_start, .inl (cyI, 241, .inl c_tape_start)), (a_tape_token, .inl (cyI, 241, .inl c_tape_token)), (a_told, .inl (cyI, 11, .inl (upd c_told (4 : Int32).toNatClampNeg 1)))] H := hP
        have hD : va_D A [(h0, .inr (1, [.ref a_tape, .ref a_draft, .int v_lines, .int q28.2.1, .int q28.2.2, .ref a_told, .int q23])), (a_draft, .inr (2, [.ref a_draft_strength, .ref a_draft_placeWorth, .ref a_draft_choiceWorth, .ref a_draft_balls, .ref a_draft_wheel, .int v_draft_sides, .int 1, .int v_draft_rounds])), (a_tape, .inr (5, [.ref a_tape_token, .ref a_tape_start, .ref a_tape_meaning, .int v_tape_length, .ref a_tape_bytes, .int v_tape_next])), (a_tape_meaning, .inl (cyI, 241, .inl c_tape_meaning)), (a_tape_start, .inl (cyI, 241, .inl c_tape_start)), (a_tape_token, .inl (cyI, 241, .inl c_tape_token)), (a_told, .inl (cyI, 11, .inl (upd c_told (4 : Int32).toNatClampNeg 1)))] := hD
        refine lv_iconst (v := 1) hx hb dX1_takeRule_106 (by decide) ?_
        exact ret_z (q := q) (g := fun q => q.1) (wp := fun q => [(h0, .inr (1, [.ref a_tape, .ref a_draft, .int v_lines, .int q.2.2.1, .int q.2.2.2.1, .ref a_told, .int q.2.1])), (a_draft, .inr (2, [.ref a_draft_strength, .ref a_draft_placeWorth, .ref a_draft_choiceWorth, .ref a_draft_balls, .ref a_draft_wheel, .int v_draft_sides, .int q.2.2.2.2.1, .int v_draft_rounds])), (a_tape, .inr (5, [.ref a_tape_token, .ref a_tape_start, .ref a_tape_meaning, .int v_tape_length, .ref a_tape_bytes, .int v_tape_next])), (a_tape_meaning, .inl (cyI, 241, .inl c_tape_meaning)), (a_tape_start, .inl (cyI, 241, .inl c_tape_start)), (a_tape_token, .inl (cyI, 241, .inl c_tape_token)), (a_told, .inl (cyI, 11, .inl q.2.2.2.2.2))]) hQ hf hx hb hr hlocks rfl hP hD hS dX1_takeRule_107 rfl
      · have hf := pif_f z48_0 hf
        rcases Decidable.em ((c_tape_meaning q23.toNatClampNeg) = 6) with z48_1 | z48_1
        · have hf := pif_t z48_1 hf
          refine lv_tableIn (tgt := 118) hx hb dX1_takeRule_48 (by rw [z48_1]; decide) (by rw [z48_1]; decide) (by rw [z48_1]; try rfl) (by decide) ?_
          refine lv_aload_n hx hb dX1_takeRule_118 rfl (lv_at hl 0 rfl) ?_
          refine va_get (D := D) (ci := 1) (v := .ref a_draft) (C := RX1) (T := TX1) (N := 7) hx hb hL inlX1 hown hK.1 hP 0 rfl rfl 1 (by decide) w4 (fun _ h9 => h9) rfl dX1_takeRule_119 ?_
          refine lv_iconst (v := 3) hx hb dX1_takeRule_122 (by decide) ?_
          refine va_put (D := D) (ci := 2) (v := .int 3) (ty := .int) (C := RX2) (T := TX2) (N := 8) hx hb hL inlX2 tyX2 tyX2_ok nmX2 hown hK.1 hP hD hS 1 rfl rfl 6 (by decide) w5 (fun _ h9 => h9) rfl (by decide +kernel) rfl rfl (Nat.le_of_ble_eq_true rfl) dX1_takeRule_123 (fun H locs hP hD hS => ?_)
          have hP : va_P D vwCl [(h0, .inr (1, [.ref a_tape, .ref a_draft, .int v_lines, .int q28.2.1, .int q28.2.2, .ref a_told, .int q23])), (a_draft, .inr (2, [.ref a_draft_strength, .ref a_draft_placeWorth, .ref a_draft_choiceWorth, .ref a_draft_balls, .ref a_draft_wheel, .int v_draft_sides, .int 3, .int v_draft_rounds])), (a_tape, .inr (5, [.ref a_tape_token, .ref a_tape_start, .ref a_tape_meaning, .int v_tape_length, .ref a_tape_bytes, .int v_tape_next])), (a_tape_meaning, .inl (cyI, 241, .inl c_tape_meaning)), (a_tape_start, .inl (cyI, 241, .inl c_tape_start)), (a_tape_token, .inl (cyI, 241, .inl c_tape_token)), (a_told, .inl (cyI, 11, .inl (upd c_told (4 : Int32).toNatClampNeg 1)))] H := hP
          have hD : va_D A [(h0, .inr (1, [.ref a_tape, .ref a_draft, .int v_lines, .int q28.2.1, .int q28.2.2, .ref a_told, .int q23])), (a_draft, .inr (2, [.ref a_draft_strength, .ref a_draft_placeWorth, .ref a_draft_choiceWorth, .ref a_draft_balls, .ref a_draft_wheel, .int v_draft_sides, .int 3, .int v_draft_rounds])), (a_tape, .inr (5, [.ref a_tape_token, .ref a_tape_start, .ref a_tape_meaning, .int v_tape_length, .ref a_tape_bytes, .int v_tape_next])), (a_tape_meaning, .inl (cyI, 241, .inl c_tape_meaning)), (a_tape_start, .inl (cyI, 241, .inl c_tape_start)), (a_tape_token, .inl (cyI, 241, .inl c_tape_token)), (a_told, .inl (cyI, 11, .inl (upd c_told (4 : Int32).toNatClampNeg 1)))] := hD
          refine lv_iconst (v := 1) hx hb dX1_takeRule_126 (by decide) ?_
          exact ret_z (q := q) (g := fun q => q.1) (wp := fun q => [(h0, .inr (1, [.ref a_tape, .ref a_draft, .int v_lines, .int q.2.2.1, .int q.2.2.2.1, .ref a_told, .int q.2.1])), (a_draft, .inr (2, [.ref a_draft_strength, .ref a_draft_placeWorth, .ref a_draft_choiceWorth, .ref a_draft_balls, .ref a_draft_wheel, .int v_draft_sides, .int q.2.2.2.2.1, .int v_draft_rounds])), (a_tape, .inr (5, [.ref a_tape_token, .ref a_tape_start, .ref a_tape_meaning, .int v_tape_length, .ref a_tape_bytes, .int v_tape_next])), (a_tape_meaning, .inl (cyI, 241, .inl c_tape_meaning)), (a_tape_start, .inl (cyI, 241, .inl c_tape_start)), (a_tape_token, .inl (cyI, 241, .inl c_tape_token)), (a_told, .inl (cyI, 11, .inl q.2.2.2.2.2))]) hQ hf hx hb hr hlocks rfl hP hD hS dX1_takeRule_127 rfl
        · have hf := pif_f z48_1 hf
          rcases Decidable.em ((c_tape_meaning q23.toNatClampNeg) = 7) with z48_2 | z48_2
          · have hf := pif_t z48_2 hf
            refine lv_tableIn (tgt := 138) hx hb dX1_takeRule_48 (by rw [z48_2]; decide) (by rw [z48_2]; decide) (by rw [z48_2]; try rfl) (by decide) ?_
            exact hB138 q23 q28.2.1 q28.2.2 v_draft_kind (upd c_told (4 : Int32).toNatClampNeg 1) H locs ls hf hP hD hS (lv_sub hl [0] rfl)
          · have hf := pif_f z48_2 hf
            rcases Decidable.em ((c_tape_meaning q23.toNatClampNeg) = 8) with z48_3 | z48_3
            · have hf := pif_t z48_3 hf
              refine lv_tableIn (tgt := 88) hx hb dX1_takeRule_48 (by rw [z48_3]; decide) (by rw [z48_3]; decide) (by rw [z48_3]; try rfl) (by decide) ?_
              refine lv_aload_n hx hb dX1_takeRule_88 rfl (lv_at hl 0 rfl) ?_
              refine va_get (D := D) (ci := 1) (v := .ref a_draft) (C := RX1) (T := TX1) (N := 7) hx hb hL inlX1 hown hK.1 hP 0 rfl rfl 1 (by decide) w4 (fun _ h9 => h9) rfl dX1_takeRule_89 ?_
              refine lv_iconst (v := 0) hx hb dX1_takeRule_92 (by decide) ?_
              refine va_put (D := D) (ci := 2) (v := .int 0) (ty := .int) (C := RX2) (T := TX2) (N := 8) hx hb hL inlX2 tyX2 tyX2_ok nmX2 hown hK.1 hP hD hS 1 rfl rfl 6 (by decide) w5 (fun _ h9 => h9) rfl (by decide +kernel) rfl rfl (Nat.le_of_ble_eq_true rfl) dX1_takeRule_93 (fun H locs hP hD hS => ?_)
              have hP : va_P D vwCl [(h0, .inr (1, [.ref a_tape, .ref a_draft, .int v_lines, .int q28.2.1, .int q28.2.2, .ref a_told, .int q23])), (a_draft, .inr (2, [.ref a_draft_strength, .ref a_draft_placeWorth, .ref a_draft_choiceWorth, .ref a_draft_balls, .ref a_draft_wheel, .int v_draft_sides, .int 0, .int v_draft_rounds])), (a_tape, .inr (5, [.ref a_tape_token, .ref a_tape_start, .ref a_tape_meaning, .int v_tape_length, .ref a_tape_bytes, .int v_tape_next])), (a_tape_meaning, .inl (cyI, 241, .inl c_tape_meaning)), (a_tape_start, .inl (cyI, 241, .inl c_tape_start)), (a_tape_token, .inl (cyI, 241, .inl c_tape_token)), (a_told, .inl (cyI, 11, .inl (upd c_told (4 : Int32).toNatClampNeg 1)))] H := hP
              have hD : va_D A [(h0, .inr (1, [.ref a_tape, .ref a_draft, .int v_lines, .int q28.2.1, .int q28.2.2, .ref a_told, .int q23])), (a_draft, .inr (2, [.ref a_draft_strength, .ref a_draft_placeWorth, .ref a_draft_choiceWorth, .ref a_draft_balls, .ref a_draft_wheel, .int v_draft_sides, .int 0, .int v_draft_rounds])), (a_tape, .inr (5, [.ref a_tape_token, .ref a_tape_start, .ref a_tape_meaning, .int v_tape_length, .ref a_tape_bytes, .int v_tape_next])), (a_tape_meaning, .inl (cyI, 241, .inl c_tape_meaning)), (a_tape_start, .inl (cyI, 241, .inl c_tape_start)), (a_tape_token, .inl (cyI, 241, .inl c_tape_token)), (a_told, .inl (cyI, 11, .inl (upd c_told (4 : Int32).toNatClampNeg 1)))] := hD
              refine lv_iconst (v := 1) hx hb dX1_takeRule_96 (by decide) ?_
              exact ret_z (q := q) (g := fun q => q.1) (wp := fun q => [(h0, .inr (1, [.ref a_tape, .ref a_draft, .int v_lines, .int q.2.2.1, .int q.2.2.2.1, .ref a_told, .int q.2.1])), (a_draft, .inr (2, [.ref a_draft_strength, .ref a_draft_placeWorth, .ref a_draft_choiceWorth, .ref a_draft_balls, .ref a_draft_wheel, .int v_draft_sides, .int q.2.2.2.2.1, .int v_draft_rounds])), (a_tape, .inr (5, [.ref a_tape_token, .ref a_tape_start, .ref a_tape_meaning, .int v_tape_length, .ref a_tape_bytes, .int v_tape_next])), (a_tape_meaning, .inl (cyI, 241, .inl c_tape_meaning)), (a_tape_start, .inl (cyI, 241, .inl c_tape_start)), (a_tape_token, .inl (cyI, 241, .inl c_tape_token)), (a_told, .inl (cyI, 11, .inl q.2.2.2.2.2))]) hQ hf hx hb hr hlocks rfl hP hD hS dX1_takeRule_97 rfl
            · have hf := pif_f z48_3 hf
              rcases Decidable.em ((c_tape_meaning q23.toNatClampNeg) = 9) with z48_4 | z48_4
              · have hf := pif_t z48_4 hf
                refine lv_tableIn (tgt := 108) hx hb dX1_takeRule_48 (by rw [z48_4]; decide) (by rw [z48_4]; decide) (by rw [z48_4]; try rfl) (by decide) ?_
                refine lv_aload_n hx hb dX1_takeRule_108 rfl (lv_at hl 0 rfl) ?_
                refine va_get (D := D) (ci := 1) (v := .ref a_draft) (C := RX1) (T := TX1) (N := 7) hx hb hL inlX1 hown hK.1 hP 0 rfl rfl 1 (by decide) w4 (fun _ h9 => h9) rfl dX1_takeRule_109 ?_
                refine lv_iconst (v := 2) hx hb dX1_takeRule_112 (by decide) ?_
                refine va_put (D := D) (ci := 2) (v := .int 2) (ty := .int) (C := RX2) (T := TX2) (N := 8) hx hb hL inlX2 tyX2 tyX2_ok nmX2 hown hK.1 hP hD hS 1 rfl rfl 6 (by decide) w5 (fun _ h9 => h9) rfl (by decide +kernel) rfl rfl (Nat.le_of_ble_eq_true rfl) dX1_takeRule_113 (fun H locs hP hD hS => ?_)
                have hP : va_P D vwCl [(h0, .inr (1, [.ref a_tape, .ref a_draft, .int v_lines, .int q28.2.1, .int q28.2.2, .ref a_told, .int q23])), (a_draft, .inr (2, [.ref a_draft_strength, .ref a_draft_placeWorth, .ref a_draft_choiceWorth, .ref a_draft_balls, .ref a_draft_wheel, .int v_draft_sides, .int 2, .int v_draft_rounds])), (a_tape, .inr (5, [.ref a_tape_token, .ref a_tape_start, .ref a_tape_meaning, .int v_tape_length, .ref a_tape_bytes, .int v_tape_next])), (a_tape_meaning, .inl (cyI, 241, .inl c_tape_meaning)), (a_tape_start, .inl (cyI, 241, .inl c_tape_start)), (a_tape_token, .inl (cyI, 241, .inl c_tape_token)), (a_told, .inl (cyI, 11, .inl (upd c_told (4 : Int32).toNatClampNeg 1)))] H := hP
                have hD : va_D A [(h0, .inr (1, [.ref a_tape, .ref a_draft, .int v_lines, .int q28.2.1, .int q28.2.2, .ref a_told, .int q23])), (a_draft, .inr (2, [.ref a_draft_strength, .ref a_draft_placeWorth, .ref a_draft_choiceWorth, .ref a_draft_balls, .ref a_draft_wheel, .int v_draft_sides, .int 2, .int v_draft_rounds])), (a_tape, .inr (5, [.ref a_tape_token, .ref a_tape_start, .ref a_tape_meaning, .int v_tape_length, .ref a_tape_bytes, .int v_tape_next])), (a_tape_meaning, .inl (cyI, 241, .inl c_tape_meaning)), (a_tape_start, .inl (cyI, 241, .inl c_tape_start)), (a_tape_token, .inl (cyI, 241, .inl c_tape_token)), (a_told, .inl (cyI, 11, .inl (upd c_told (4 : Int32).toNatClampNeg 1)))] := hD
                refine lv_iconst (v := 1) hx hb dX1_takeRule_116 (by decide) ?_
                exact ret_z (q := q) (g := fun q => q.1) (wp := fun q => [(h0, .inr (1, [.ref a_tape, .ref a_draft, .int v_lines, .int q.2.2.1, .int q.2.2.2.1, .ref a_told, .int q.2.1])), (a_draft, .inr (2, [.ref a_draft_strength, .ref a_draft_placeWorth, .ref a_draft_choiceWorth, .ref a_draft_balls, .ref a_draft_wheel, .int v_draft_sides, .int q.2.2.2.2.1, .int v_draft_rounds])), (a_tape, .inr (5, [.ref a_tape_token, .ref a_tape_start, .ref a_tape_meaning, .int v_tape_length, .ref a_tape_bytes, .int v_tape_next])), (a_tape_meaning, .inl (cyI, 241, .inl c_tape_meaning)), (a_tape_start, .inl (cyI, 241, .inl c_tape_start)), (a_tape_token, .inl (cyI, 241, .inl c_tape_token)), (a_told, .inl (cyI, 11, .inl q.2.2.2.2.2))]) hQ hf hx hb hr hlocks rfl hP hD hS dX1_takeRule_117 rfl
              · have hf := pif_f z48_4 hf
                rcases Decidable.em ((c_tape_meaning q23.toNatClampNeg) = 10) with z48_5 | z48_5
                · have hf := pif_t z48_5 hf
                  refine lv_tableIn (tgt := 128) hx hb dX1_takeRule_48 (by rw [z48_5]; decide) (by rw [z48_5]; decide) (by rw [z48_5]; try rfl) (by decide) ?_
                  refine lv_aload_n hx hb dX1_takeRule_128 rfl (lv_at hl 0 rfl) ?_
                  refine va_get (D := D) (ci := 1) (v := .ref a_draft) (C := RX1) (T := TX1) (N := 7) hx hb hL inlX1 hown hK.1 hP 0 rfl rfl 1 (by decide) w4 (fun _ h9 => h9) rfl dX1_takeRule_129 ?_
                  refine lv_iconst (v := 4) hx hb dX1_takeRule_132 (by decide) ?_
                  refine va_put (D := D) (ci := 2) (v := .int 4) (ty := .int) (C := RX2) (T := TX2) (N := 8) hx hb hL inlX2 tyX2 tyX2_ok nmX2 hown hK.1 hP hD hS 1 rfl rfl 6 (by decide) w5 (fun _ h9 => h9) rfl (by decide +kernel) rfl rfl (Nat.le_of_ble_eq_true rfl) dX1_takeRule_133 (fun H locs hP hD hS => ?_)
                  have hP : va_P D vwCl [(h0, .inr (1, [.ref a_tape, .ref a_draft, .int v_lines, .int q28.2.1, .int q28.2.2, .ref a_told, .int q23])), (a_draft, .inr (2, [.ref a_draft_strength, .ref a_draft_placeWorth, .ref a_draft_choiceWorth, .ref a_draft_balls, .ref a_draft_wheel, .int v_draft_sides, .int 4, .int v_draft_rounds])), (a_tape, .inr (5, [.ref a_tape_token, .ref a_tape_start, .ref a_tape_meaning, .int v_tape_length, .ref a_tape_bytes, .int v_tape_next])), (a_tape_meaning, .inl (cyI, 241, .inl c_tape_meaning)), (a_tape_start, .inl (cyI, 241, .inl c_tape_start)), (a_tape_token, .inl (cyI, 241, .inl c_tape_token)), (a_told, .inl (cyI, 11, .inl (upd c_told (4 : Int32).toNatClampNeg 1)))] H := hP
                  have hD : va_D A [(h0, .inr (1, [.ref a_tape, .ref a_draft, .int v_lines, .int q28.2.1, .int q28.2.2, .ref a_told, .int q23])), (a_draft, .inr (2, [.ref a_draft_strength, .ref a_draft_placeWorth, .ref a_draft_choiceWorth, .ref a_draft_balls, .ref a_draft_wheel, .int v_draft_sides, .int 4, .int v_draft_rounds])), (a_tape, .inr (5, [.ref a_tape_token, .ref a_tape_start, .ref a_tape_meaning, .int v_tape_length, .ref a_tape_bytes, .int v_tape_next])), (a_tape_meaning, .inl (cyI, 241, .inl c_tape_meaning)), (a_tape_start, .inl (cyI, 241, .inl c_tape_start)), (a_tape_token, .inl (cyI, 241, .inl c_tape_token)), (a_told, .inl (cyI, 11, .inl (upd c_told (4 : Int32).toNatClampNeg 1)))] := hD
                  refine lv_iconst (v := 1) hx hb dX1_takeRule_136 (by decide) ?_
                  exact ret_z (q := q) (g := fun q => q.1) (wp := fun q => [(h0, .inr (1, [.ref a_tape, .ref a_draft, .int v_lines, .int q.2.2.1, .int q.2.2.2.1, .ref a_told, .int q.2.1])), (a_draft, .inr (2, [.ref a_draft_strength, .ref a_draft_placeWorth, .ref a_draft_choiceWorth, .ref a_draft_balls, .ref a_draft_wheel, .int v_draft_sides, .int q.2.2.2.2.1, .int v_draft_rounds])), (a_tape, .inr (5, [.ref a_tape_token, .ref a_tape_start, .ref a_tape_meaning, .int v_tape_length, .ref a_tape_bytes, .int v_tape_next])), (a_tape_meaning, .inl (cyI, 241, .inl c_tape_meaning)), (a_tape_start, .inl (cyI, 241, .inl c_tape_start)), (a_tape_token, .inl (cyI, 241, .inl c_tape_token)), (a_told, .inl (cyI, 11, .inl q.2.2.2.2.2))]) hQ hf hx hb hr hlocks rfl hP hD hS dX1_takeRule_137 rfl
                · have hf := pif_f z48_5 hf
                  refine lv_tableOut (tgt := 138) hx hb dX1_takeRule_48 (by have y0 := lv_neT (k := 5) (a := 5) z48_0 rfl; have y1 := lv_neT (k := 6) (a := 6) z48_1 rfl; have y2 := lv_neT (k := 7) (a := 7) z48_2 rfl; have y3 := lv_neT (k := 8) (a := 8) z48_3 rfl; have y4 := lv_neT (k := 9) (a := 9) z48_4 rfl; have y5 := lv_neT (k := 10) (a := 10) z48_5 rfl; omega) (by decide) ?_
                  exact hB138 q23 q28.2.1 q28.2.2 v_draft_kind (upd c_told (4 : Int32).toNatClampNeg 1) H locs ls hf hP hD hS (lv_sub hl [0] rfl)
    · have hf := pif_t c31 hf
      refine lv_iconst (v := 0) hx hb dX1_takeRule_34 (by decide) ?_
      exact ret_z (q := q) (g := fun q => q.1) (wp := fun q => [(h0, .inr (1, [.ref a_tape, .ref a_draft, .int v_lines, .int q.2.2.1, .int q.2.2.2.1, .ref a_told, .int q.2.1])), (a_draft, .inr (2, [.ref a_draft_strength, .ref a_draft_placeWorth, .ref a_draft_choiceWorth, .ref a_draft_balls, .ref a_draft_wheel, .int v_draft_sides, .int q.2.2.2.2.1, .int v_draft_rounds])), (a_tape, .inr (5, [.ref a_tape_token, .ref a_tape_start, .ref a_tape_meaning, .int v_tape_length, .ref a_tape_bytes, .int v_tape_next])), (a_tape_meaning, .inl (cyI, 241, .inl c_tape_meaning)), (a_tape_start, .inl (cyI, 241, .inl c_tape_start)), (a_tape_token, .inl (cyI, 241, .inl c_tape_token)), (a_told, .inl (cyI, 11, .inl q.2.2.2.2.2))]) hQ hf hx hb hr hlocks rfl hP hD hS dX1_takeRule_35 rfl
  · have hf := pif_f c6 hf
    refine lv_aload_n hx hb dX1_takeRule_9 rfl (lv_at hl 0 rfl) ?_
    refine lv_iconst (v := 4) hx hb dX1_takeRule_10 (by decide) ?_
    obtain ⟨q11, e11, hf⟩ := pb_some hf
    refine cc_i (wc := [(h0, .inr (1, [.ref a_tape, .ref a_draft, .int v_lines, .int v_flaw, .int v_flawPlace, .ref a_told, .int v_at])), (a_tape, .inr (5, [.ref a_tape_token, .ref a_tape_start, .ref a_tape_meaning, .int v_tape_length, .ref a_tape_bytes, .int v_tape_next])), (a_tape_start, .inl (cyI, 241, .inl c_tape_start))]) (wr := [(a_draft, .inr (2, [.ref a_draft_strength, .ref a_draft_placeWorth, .ref a_draft_choiceWorth, .ref a_draft_balls, .ref a_draft_wheel, .int v_draft_sides, .int v_draft_kind, .int v_draft_rounds])), (a_tape_meaning, .inl (cyI, 241, .inl c_tape_meaning)), (a_tape_token, .inl (cyI, 241, .inl c_tape_token)), (a_told, .inl (cyI, 11, .inl c_told))]) (w1 := [(h0, .inr (1, [.ref a_tape, .ref a_draft, .int v_lines, .int q11.2.1, .int q11.2.2, .ref a_told, .int v_at])), (a_tape, .inr (5, [.ref a_tape_token, .ref a_tape_start, .ref a_tape_meaning, .int v_tape_length, .ref a_tape_bytes, .int v_tape_next])), (a_tape_start, .inl (cyI, 241, .inl c_tape_start))]) (wn := [(h0, .inr (1, [.ref a_tape, .ref a_draft, .int v_lines, .int q11.2.1, .int q11.2.2, .ref a_told, .int v_at])), (a_draft, .inr (2, [.ref a_draft_strength, .ref a_draft_placeWorth, .ref a_draft_choiceWorth, .ref a_draft_balls, .ref a_draft_wheel, .int v_draft_sides, .int v_draft_kind, .int v_draft_rounds])), (a_tape, .inr (5, [.ref a_tape_token, .ref a_tape_start, .ref a_tape_meaning, .int v_tape_length, .ref a_tape_bytes, .int v_tape_next])), (a_tape_meaning, .inl (cyI, 241, .inl c_tape_meaning)), (a_tape_start, .inl (cyI, 241, .inl c_tape_start)), (a_tape_token, .inl (cyI, 241, .inl c_tape_token)), (a_told, .inl (cyI, 11, .inl c_told))]) hP hD hS hA [0, 2, 4] [1, 3, 5, 6] [4, 0, 5, 1, 6, 2, 3] rfl rfl rfl (by decide) rfl rfl (va_runV (C := RX1) (As := [.int 4]) (rest := []) ⟨hx, hb, hml, hown, hL⟩ (mX1_fail l D cyI cyJ cyB cyS N H.size h0 a_tape a_tape_start a_draft a_told a_tape_token a_tape_meaning a_tape_bytes v_lines v_flaw v_flawPlace v_at v_tape_length v_tape_next c_tape_start 4 q11 e11) (cwV 1 hL (gV (hR13 10 rfl) (hR13 11 rfl) (hR13 12 rfl) (hR2 3 rfl) (hR13 13 rfl)) rfl rfl rfl (by decide +kernel) ⟨Nat.le_of_ble_eq_true rfl, Nat.le_of_ble_eq_true rfl⟩) (PP_preV (ci := 1) (q0 := 0) hP hD hK [0, 2, 4] rfl rfl rfl rfl) rfl rfl hl.1 rfl (lv_room (Nat.le_of_ble_eq_true rfl)) dX1_takeRule_11 ⟨Nat.le_of_ble_eq_true rfl, Nat.le_of_ble_eq_true rfl⟩) (fun H locs hP hD hS => ?_)
    obtain ⟨n14, hf⟩ := pg_some hf
    exact ret_z (q := q) (g := fun q => q.1) (wp := fun q => [(h0, .inr (1, [.ref a_tape, .ref a_draft, .int v_lines, .int q.2.2.1, .int q.2.2.2.1, .ref a_told, .int q.2.1])), (a_draft, .inr (2, [.ref a_draft_strength, .ref a_draft_placeWorth, .ref a_draft_choiceWorth, .ref a_draft_balls, .ref a_draft_wheel, .int v_draft_sides, .int q.2.2.2.2.1, .int v_draft_rounds])), (a_tape, .inr (5, [.ref a_tape_token, .ref a_tape_start, .ref a_tape_meaning, .int v_tape_length, .ref a_tape_bytes, .int v_tape_next])), (a_tape_meaning, .inl (cyI, 241, .inl c_tape_meaning)), (a_tape_start, .inl (cyI, 241, .inl c_tape_start)), (a_tape_token, .inl (cyI, 241, .inl c_tape_token)), (a_told, .inl (cyI, 11, .inl q.2.2.2.2.2))]) hQ hf hx hb hr hlocks (isB_n n14) hP hD hS dX1_takeRule_14 rfl
