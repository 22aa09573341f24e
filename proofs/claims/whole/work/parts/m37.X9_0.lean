/-- the fields of the reference: addresses, whole numbers, longs by their numbers -/
def fl9 (a : Nat → Nat) (i : Nat → Int32) (g : Nat → Int64) : List Value := [.ref (a 1), .int (i 0), .int (i 1), .int (i 2), .int (i 3), .int (i 4), .int (i 5), .int (i 6), .int (i 7), .ref (a 2), .ref (a 3), .ref (a 4), .ref (a 5), .ref (a 6), .int (i 8), .int (i 9), .int (i 10), .ref (a 7), .ref (a 8), .ref (a 9), .ref (a 10), .ref (a 11), .ref (a 12), .int (i 11), .int (i 12), .ref (a 13), .ref (a 14), .ref (a 15), .ref (a 16), .ref (a 17), .ref (a 18), .ref (a 19), .ref (a 20), .ref (a 21), .int (i 13), .long (g 0), .long (g 1), .ref (a 22), .int (i 14), .int (i 15), .long (g 2), .int (i 16), .int (i 17), .int (i 18), .int (i 19), .ref (a 23), .ref (a 24), .int (i 20), .ref (a 25), .ref (a 26), .ref (a 27), .int (i 21)]
theorem fl9_s1 (a : Nat → Nat) (i : Nat → Int32) (g : Nat → Int64) (x : Int32) : (fl9 a i g).set 1 (.int x) = fl9 a (va_up i 0 x) g := rfl
theorem fl9_s2 (a : Nat → Nat) (i : Nat → Int32) (g : Nat → Int64) (x : Int32) : (fl9 a i g).set 2 (.int x) = fl9 a (va_up i 1 x) g := rfl
theorem fl9_s3 (a : Nat → Nat) (i : Nat → Int32) (g : Nat → Int64) (x : Int32) : (fl9 a i g).set 3 (.int x) = fl9 a (va_up i 2 x) g := rfl
theorem fl9_s4 (a : Nat → Nat) (i : Nat → Int32) (g : Nat → Int64) (x : Int32) : (fl9 a i g).set 4 (.int x) = fl9 a (va_up i 3 x) g := rfl
theorem fl9_s5 (a : Nat → Nat) (i : Nat → Int32) (g : Nat → Int64) (x : Int32) : (fl9 a i g).set 5 (.int x) = fl9 a (va_up i 4 x) g := rfl
theorem fl9_s6 (a : Nat → Nat) (i : Nat → Int32) (g : Nat → Int64) (x : Int32) : (fl9 a i g).set 6 (.int x) = fl9 a (va_up i 5 x) g := rfl
theorem fl9_s7 (a : Nat → Nat) (i : Nat → Int32) (g : Nat → Int64) (x : Int32) : (fl9 a i g).set 7 (.int x) = fl9 a (va_up i 6 x) g := rfl
theorem fl9_s8 (a : Nat → Nat) (i : Nat → Int32) (g : Nat → Int64) (x : Int32) : (fl9 a i g).set 8 (.int x) = fl9 a (va_up i 7 x) g := rfl
theorem fl9_s14 (a : Nat → Nat) (i : Nat → Int32) (g : Nat → Int64) (x : Int32) : (fl9 a i g).set 14 (.int x) = fl9 a (va_up i 8 x) g := rfl
theorem fl9_s15 (a : Nat → Nat) (i : Nat → Int32) (g : Nat → Int64) (x : Int32) : (fl9 a i g).set 15 (.int x) = fl9 a (va_up i 9 x) g := rfl
theorem fl9_s16 (a : Nat → Nat) (i : Nat → Int32) (g : Nat → Int64) (x : Int32) : (fl9 a i g).set 16 (.int x) = fl9 a (va_up i 10 x) g := rfl
theorem fl9_s23 (a : Nat → Nat) (i : Nat → Int32) (g : Nat → Int64) (x : Int32) : (fl9 a i g).set 23 (.int x) = fl9 a (va_up i 11 x) g := rfl
theorem fl9_s24 (a : Nat → Nat) (i : Nat → Int32) (g : Nat → Int64) (x : Int32) : (fl9 a i g).set 24 (.int x) = fl9 a (va_up i 12 x) g := rfl
theorem fl9_s34 (a : Nat → Nat) (i : Nat → Int32) (g : Nat → Int64) (x : Int32) : (fl9 a i g).set 34 (.int x) = fl9 a (va_up i 13 x) g := rfl
theorem fl9_s35 (a : Nat → Nat) (i : Nat → Int32) (g : Nat → Int64) (x : Int64) : (fl9 a i g).set 35 (.long x) = fl9 a i (va_up g 0 x) := rfl
theorem fl9_s36 (a : Nat → Nat) (i : Nat → Int32) (g : Nat → Int64) (x : Int64) : (fl9 a i g).set 36 (.long x) = fl9 a i (va_up g 1 x) := rfl
theorem fl9_s38 (a : Nat → Nat) (i : Nat → Int32) (g : Nat → Int64) (x : Int32) : (fl9 a i g).set 38 (.int x) = fl9 a (va_up i 14 x) g := rfl
theorem fl9_s39 (a : Nat → Nat) (i : Nat → Int32) (g : Nat → Int64) (x : Int32) : (fl9 a i g).set 39 (.int x) = fl9 a (va_up i 15 x) g := rfl
theorem fl9_s40 (a : Nat → Nat) (i : Nat → Int32) (g : Nat → Int64) (x : Int64) : (fl9 a i g).set 40 (.long x) = fl9 a i (va_up g 2 x) := rfl
theorem fl9_s41 (a : Nat → Nat) (i : Nat → Int32) (g : Nat → Int64) (x : Int32) : (fl9 a i g).set 41 (.int x) = fl9 a (va_up i 16 x) g := rfl
theorem fl9_s42 (a : Nat → Nat) (i : Nat → Int32) (g : Nat → Int64) (x : Int32) : (fl9 a i g).set 42 (.int x) = fl9 a (va_up i 17 x) g := rfl
theorem fl9_s43 (a : Nat → Nat) (i : Nat → Int32) (g : Nat → Int64) (x : Int32) : (fl9 a i g).set 43 (.int x) = fl9 a (va_up i 18 x) g := rfl
theorem fl9_s44 (a : Nat → Nat) (i : Nat → Int32) (g : Nat → Int64) (x : Int32) : (fl9 a i g).set 44 (.int x) = fl9 a (va_up i 19 x) g := rfl
theorem fl9_s47 (a : Nat → Nat) (i : Nat → Int32) (g : Nat → Int64) (x : Int32) : (fl9 a i g).set 47 (.int x) = fl9 a (va_up i 20 x) g := rfl
theorem fl9_s51 (a : Nat → Nat) (i : Nat → Int32) (g : Nat → Int64) (x : Int32) : (fl9 a i g).set 51 (.int x) = fl9 a (va_up i 21 x) g := rfl
abbrev rmX9_in : Room := { frames := 0, cells := 0, slots := 0, locals := 0 }
set_option maxHeartbeats 40000000 in
set_option maxRecDepth 100000 in
theorem mX9_in (l : Launch) (D : va_G) (cyI cyJ cyB cyS : ClassId) (N : Nat) (sz : Nat)  (x0 : Int64) (x2 : Int64) (x4 : Int64) (q : Int32) (hf : fX9_in N x0 x2 x4 = some q) : Met l yX9_in (wS yX9_in cX9_in 6 (some .boolean)) rmX9_in (va_Pc [.long x0, .long x2, .long x4] (PP D cyI cyJ cyB cyS [] sz)) (QI q D [] (va_A [] sz)) 0 0 (va_A [] sz) := by
  refine Met.ofW (cc := cX9_in) (maxL := 6) (ret := (some .boolean)) (by decide) rfl ?_
  intro p e s m args below meth c s₁ B hml hv
  obtain ⟨rfl, hsz, hP, hK, hD0⟩ := hv
  have hx := B.exec
  have hb := B.bytes
  have hr := B.returns
  have hts := atoms_spec (ws := (wS yX9_in cX9_in 6 (some .boolean))) B.pre
  have hown : s.vm.findClass RX9 = some m.cls := findClass_of_methodNamed B.named
  have hlocks := B.notSynchronized
  subst hsz
  have hD := hD0.self (sz := s.heap.size)
  refine w_nameQ (fun Q hQ => ?_)
  have hl := lv_entry ([.long x0, .long x2, .long x4] : List Value) (n := 6) (Nat.le_of_ble_eq_true rfl)
  rw [lg_entry_eq]
  generalize (lg_sl ([.long x0, .long x2, .long x4] : List Value) ++ List.replicate (6 - (lg_sl ([.long x0, .long x2, .long x4] : List Value)).length) Slot.unset).toArray = ls at hl ⊢
  have hl : lv_has ls 6 [(0, .long x0), (2, .long x2), (4, .long x4)] := hl
  generalize hAe : va_A [] s.heap.size = A at hD hQ
  have hA : ∀ q : Nat, s.heap.size ≤ q → A q := fun q h => by rw [← hAe]; exact Or.inr h
  have hS : va_S A s.heap s.heap [] := va_S.rf
  generalize ([.long x0, .long x2, .long x4] : List Value).toArray = av at hts hQ ⊢
  have hL : ∀ w ∈ wsL_law, w.before av s = true := fun w h => hts w (List.mem_cons_of_mem _ h)
  have hB18 : ∀ (s0 : Int32) (H : Heap) (locs : List Loc) (ls : Array Slot), fX9_in_18 N x0 x2 x4 s0 = some q → va_P D vwCl [] H → va_D A [] → va_S A s.heap H locs → lv_has ls 6 [] → W p l e rmX9_in s m av below meth c H locs 0 0 Q (F0 m 18 ls [.int s0]) := by
    intro s0 H locs ls hf hP hD hS hl
    unfold fX9_in_18 at hf
    obtain ⟨n18, hf⟩ := pg_some hf
    exact ret_z (q := q) (g := fun q => q) (wp := fun q => []) hQ hf hx hb hr hlocks (isB_n n18) hP hD hS dX9_in_18 rfl
  have hB17 : ∀ (H : Heap) (locs : List Loc) (ls : Array Slot), fX9_in_17 N x0 x2 x4 = some q → va_P D vwCl [] H → va_D A [] → va_S A s.heap H locs → lv_has ls 6 [] → W p l e rmX9_in s m av below meth c H locs 0 0 Q (F0 m 17 ls []) := by
    intro  H locs ls hf hP hD hS hl
    unfold fX9_in_17 at hf
    refine lv_iconst (v := 0) hx hb dX9_in_17 (by decide) ?_
    exact hB18 0 H locs ls hf hP hD hS (lv_sub hl [] rfl)
  unfold fX9_in at hf
  obtain ⟨H, hH⟩ : ∃ H : Heap, H = s.heap := ⟨_, rfl⟩
  obtain ⟨locs, hlo⟩ : ∃ locs : List Loc, locs = [] := ⟨_, rfl⟩
  have hP : va_P D vwCl [] H := by rw [hH]; exact hP
  have hS : va_S A s.heap H locs := by rw [hH, hlo]; exact hS
  suffices hw : W p l e rmX9_in s m av below meth c H locs 0 0 Q (F0 m 0 ls []) by rw [hH, hlo] at hw; exact hw
  refine lv_lload_n hx hb dX9_in_0 rfl (lv_at hl 0 rfl) ?_
  refine lv_lload_n hx hb dX9_in_1 rfl (lv_at hl 1 rfl) ?_
  refine W.lcmp hx hb dX9_in_2 ?_
  refine lv_if_lt (tgt := 17) hx hb dX9_in_3 (by decide) (fun c3 => ?_) (fun c3 => ?_)
  · have hf := pif_t c3 hf
    exact hB17 H locs ls hf hP hD hS (lv_sub hl [] rfl)
  · have hf := pif_f c3 hf
    refine lv_lload_n hx hb dX9_in_6 rfl (lv_at hl 0 rfl) ?_
    refine lv_lload hx hb dX9_in_7 (lv_at hl 2 rfl) ?_
    refine W.lcmp hx hb dX9_in_9 ?_
    refine lv_if_gt (tgt := 17) hx hb dX9_in_10 (by decide) (fun c10 => ?_) (fun c10 => ?_)
    · have hf := pif_t c10 hf
      exact hB17 H locs ls hf hP hD hS (lv_sub hl [] rfl)
    · have hf := pif_f c10 hf
      refine lv_iconst (v := 1) hx hb dX9_in_13 (by decide) ?_
      refine lv_goto (tgt := 18) hx hb dX9_in_14 (by decide) ?_
      exact hB18 1 H locs ls hf hP hD hS (lv_sub hl [] rfl)
abbrev rmX9_feed : Room := { frames := 0, cells := 0, slots := 0, locals := 0 }
set_option maxHeartbeats 40000000 in
set_option maxRecDepth 100000 in
theorem mX9_feed (l : Launch) (D : va_G) (cyI cyJ cyB cyS : ClassId) (N : Nat) (sz : Nat) (a9 : Nat → Nat) (i9 : Nat → Int32) (g9 : Nat → Int64) (c_tape : Nat → Int32) (x1 : Int64) (q : Int32 × Int32 × (Nat → Int32)) (hf : fX9_feed N (i9 0) c_tape x1 = some q) : Met l yX9_feed (wS yX9_feed cX9_feed 4 (some .int)) rmX9_feed (va_Pc [.ref (a9 0), .long x1] (PP D cyI cyJ cyB cyS [(a9 0, .inr (9, fl9 a9 i9 g9)), ((a9 1), .inl (cyI, 240, .inl c_tape))] sz)) (QI q.1 D [(a9 0, .inr (9, fl9 a9 (va_up i9 0 q.2.1) g9)), ((a9 1), .inl (cyI, 240, .inl q.2.2))] (va_A [(a9 0, .inr (9, fl9 a9 i9 g9)), ((a9 1), .inl (cyI, 240, .inl c_tape))] sz)) 0 0 (va_A [(a9 0, .inr (9, fl9 a9 i9 g9)), ((a9 1), .inl (cyI, 240, .inl c_tape))] sz) := by
  refine Met.ofW (cc := cX9_feed) (maxL := 4) (ret := (some .int)) (by decide) rfl ?_
  intro p e s m args below meth c s₁ B hml hv
  obtain ⟨rfl, hsz, hP, hK, hD0⟩ := hv
  have hx := B.exec
  have hb := B.bytes
  have hr := B.returns
  have hts := atoms_spec (ws := (wS yX9_feed cX9_feed 4 (some .int))) B.pre
  have hown : s.vm.findClass RX9 = some m.cls := findClass_of_methodNamed B.named
  have hlocks := B.notSynchronized
  subst hsz
  have hD := hD0.self (sz := s.heap.size)
  refine w_nameQ (fun Q hQ => ?_)
  have hl := lv_entry ([.ref (a9 0), .long x1] : List Value) (n := 4) (Nat.le_of_ble_eq_true rfl)
  rw [lg_entry_eq]
  generalize (lg_sl ([.ref (a9 0), .long x1] : List Value) ++ List.replicate (4 - (lg_sl ([.ref (a9 0), .long x1] : List Value)).length) Slot.unset).toArray = ls at hl ⊢
  have hl : lv_has ls 4 [(0, .ref (a9 0)), (1, .long x1)] := hl
  generalize hAe : va_A [(a9 0, .inr (9, fl9 a9 i9 g9)), ((a9 1), .inl (cyI, 240, .inl c_tape))] s.heap.size = A at hD hQ
  have hA : ∀ q : Nat, s.heap.size ≤ q → A q := fun q h => by rw [← hAe]; exact Or.inr h
  have hS : va_S A s.heap s.heap [] := va_S.rf
  generalize ([.ref (a9 0), .long x1] : List Value).toArray = av at hts hQ ⊢
  have hL : ∀ w ∈ wsL_law, w.before av s = true := fun w h => hts w (List.mem_cons_of_mem _ h)
  have w0 := hL (.fieldLink RX9 92 "LosingLeagueModel" "taped" "I") (hR7 22 rfl)
  have w1 := hL (.fieldLink RX9 7 "LosingLeagueModel" "tape" "[I") (hR6 4 rfl)
  have hB19 : ∀ (n : Nat), ∀ (x3 : Int32) (v_taped : Int32) (c_tape : Nat → Int32) (H : Heap) (locs : List Loc) (ls : Array Slot), fX9_feed_19 N x1 n x3 v_taped c_tape = some q → va_P D vwCl [(a9 0, .inr (9, fl9 a9 (va_up i9 0 v_taped) g9)), ((a9 1), .inl (cyI, 240, .inl c_tape))] H → va_D A [(a9 0, .inr (9, fl9 a9 (va_up i9 0 v_taped) g9)), ((a9 1), .inl (cyI, 240, .inl c_tape))] → va_S A s.heap H locs → lv_has ls 4 [(0, .ref (a9 0)), (1, .long x1), (3, .int x3)] → W p l e rmX9_feed s m av below meth c H locs 0 0 Q (F0 m 19 ls []) := by
    intro n
    induction n with
    | zero => intro x3 v_taped c_tape H locs ls hf; exact absurd hf (by simp [fX9_feed_19])
    | succ n hk19 =>
      intro x3 v_taped c_tape H locs ls hf hP hD hS hl
      rw [fX9_feed_19] at hf
      refine lv_iload_n hx hb dX9_feed_19 rfl (lv_at hl 2 rfl) ?_
      refine lv_if_lt (tgt := 56) hx hb dX9_feed_20 (by decide) (fun c20 => ?_) (fun c20 => ?_)
      · have hf := pif_t c20 hf
        refine lv_aload_n hx hb dX9_feed_56 rfl (lv_at hl 0 rfl) ?_
        refine va_get (D := D) (ci := 9) (v := .int v_taped) (C := RX9) (T := TX9) (N := 52) hx hb hL inlX9 hown hK.1 hP 0 rfl rfl 1 (by decide) w0 (fun _ h9 => h9) rfl dX9_feed_57 ?_
        exact ret_i (q := q) (g := fun q => q.1) (wp := fun q => [(a9 0, .inr (9, fl9 a9 (va_up i9 0 q.2.1) g9)), ((a9 1), .inl (cyI, 240, .inl q.2.2))]) hQ hf hx hb hr hlocks hP hD hS dX9_feed_60 rfl
      · have hf := pif_f c20 hf
        refine lv_aload_n hx hb dX9_feed_23 rfl (lv_at hl 0 rfl) ?_
        refine va_get (D := D) (ci := 9) (v := .ref (a9 1)) (C := RX9) (T := TX9) (N := 52) hx hb hL inlX9 hown hK.1 hP 0 rfl rfl 0 (by decide) w1 (fun _ h9 => h9) rfl dX9_feed_24 ?_
        refine lv_aload_n hx hb dX9_feed_27 rfl (lv_at hl 0 rfl) ?_
        refine va_get (D := D) (ci := 9) (v := .int v_taped) (C := RX9) (T := TX9) (N := 52) hx hb hL inlX9 hown hK.1 hP 0 rfl rfl 1 (by decide) w0 (fun _ h9 => h9) rfl dX9_feed_28 ?_
        refine lv_lload_n hx hb dX9_feed_31 rfl (lv_at hl 1 rfl) ?_
        refine lv_iload_n hx hb dX9_feed_32 rfl (lv_at hl 2 rfl) ?_
        refine lv_lshr hx hb dX9_feed_33 rfl ?_
        refine lv_l2i hx hb dX9_feed_34 rfl ?_
        refine lv_sipush (v := 255) hx hb dX9_feed_35 (by decide) ?_
        refine lv_iand hx hb dX9_feed_38 ?_
        obtain ⟨h39, hf⟩ := pg_some hf
        refine va_iast hx hb hK.1 hP hD hS 1 0 rfl rfl h39 dX9_feed_39 (fun H locs hP hD hS => ?_)
        have hP : va_P D vwCl [(a9 0, .inr (9, fl9 a9 (va_up i9 0 v_taped) g9)), ((a9 1), .inl (cyI, 240, .inl (upd c_tape v_taped.toNatClampNeg (((x1 >>> ((x3 : Int32).toInt64 &&& 63) : Int64).toInt32) &&& 255))))] H := hP
        have hD : va_D A [(a9 0, .inr (9, fl9 a9 (va_up i9 0 v_taped) g9)), ((a9 1), .inl (cyI, 240, .inl (upd c_tape v_taped.toNatClampNeg (((x1 >>> ((x3 : Int32).toInt64 &&& 63) : Int64).toInt32) &&& 255))))] := hD
        refine lv_aload_n hx hb dX9_feed_40 rfl (lv_at hl 0 rfl) ?_
        refine lv_dup hx hb dX9_feed_41 rfl ?_
        refine va_get (D := D) (ci := 9) (v := .int v_taped) (C := RX9) (T := TX9) (N := 52) hx hb hL inlX9 hown hK.1 hP 0 rfl rfl 1 (by decide) w0 (fun _ h9 => h9) rfl dX9_feed_42 ?_
        refine lv_iconst (v := 1) hx hb dX9_feed_45 (by decide) ?_
        refine lv_iadd hx hb dX9_feed_46 ?_
        refine va_put (D := D) (ci := 9) (v := .int (v_taped + 1)) (ty := .int) (C := RX9) (T := TX9) (N := 52) hx hb hL inlX9 tyX9 tyX9_ok nmX9 hown hK.1 hP hD hS 0 rfl rfl 1 (by decide) w0 (fun _ h9 => h9) rfl (by decide +kernel) rfl rfl (Nat.le_of_ble_eq_true rfl) dX9_feed_47 (fun H locs hP hD hS => ?_)
        rw [fl9_s1] at hP hD
        have hP : va_P D vwCl [(a9 0, .inr (9, fl9 a9 (va_up (va_up i9 0 v_taped) 0 (v_taped + 1)) g9)), ((a9 1), .inl (cyI, 240, .inl (upd c_tape v_taped.toNatClampNeg (((x1 >>> ((x3 : Int32).toInt64 &&& 63) : Int64).toInt32) &&& 255))))] H := hP
        have hD : va_D A [(a9 0, .inr (9, fl9 a9 (va_up (va_up i9 0 v_taped) 0 (v_taped + 1)) g9)), ((a9 1), .inl (cyI, 240, .inl (upd c_tape v_taped.toNatClampNeg (((x1 >>> ((x3 : Int32).toInt64 &&& 63) : Int64).toInt32) &&& 255))))] := hD
        refine lv_iinc (v := x3 + (-8)) (lv' := [(3, .int (x3 + (-8))), (0, .ref (a9 0)), (1, .long x1)]) hx hb dX9_feed_50 hl (k := 2) rfl rfl (by decide) rfl (fun ls hl => ?_)
        refine lv_goto (tgt := 19) hx hb dX9_feed_53 (by decide) ?_
        exact hk19 (x3 + (-8)) (v_taped + 1) (upd c_tape v_taped.toNatClampNeg (((x1 >>> ((x3 : Int32).toInt64 &&& 63) : Int64).toInt32) &&& 255)) H locs ls hf hP hD hS (lv_sub hl [1, 2, 0] rfl)
  unfold fX9_feed at hf
  obtain ⟨H, hH⟩ : ∃ H : Heap, H = s.heap := ⟨_, rfl⟩
  obtain ⟨locs, hlo⟩ : ∃ locs : List Loc, locs = [] := ⟨_, rfl⟩
  have hP : va_P D vwCl [(a9 0, .inr (9, fl9 a9 i9 g9)), ((a9 1), .inl (cyI, 240, .inl c_tape))] H := by rw [hH]; exact hP
  have hS : va_S A s.heap H locs := by rw [hH, hlo]; exact hS
  suffices hw : W p l e rmX9_feed s m av below meth c H locs 0 0 Q (F0 m 0 ls []) by rw [hH, hlo] at hw; exact hw
  refine lv_aload_n hx hb dX9_feed_0 rfl (lv_at hl 0 rfl) ?_
  refine va_get (D := D) (ci := 9) (v := .int (i9 0)) (C := RX9) (T := TX9) (N := 52) hx hb hL inlX9 hown hK.1 hP 0 rfl rfl 1 (by decide) w0 (fun _ h9 => h9) rfl dX9_feed_1 ?_
  refine lv_bipush (v := 8) hx hb dX9_feed_4 (by decide) ?_
  refine lv_iadd hx hb dX9_feed_6 ?_
  refine lv_sipush (v := 240) hx hb dX9_feed_7 (by decide) ?_
  refine lv_icmp_le (tgt := 16) hx hb dX9_feed_10 (by decide) (fun c10 => ?_) (fun c10 => ?_)
  · have hf := pif_t c10 hf
    refine lv_bipush (v := 56) hx hb dX9_feed_16 (by decide) ?_
    refine lv_istore_n (lv' := [(3, .int 56), (0, .ref (a9 0)), (1, .long x1)]) hx hb dX9_feed_18 rfl hl (by decide) rfl (fun ls hl => ?_)
    exact hB19 N 56 (i9 0) c_tape H locs ls hf hP hD hS (lv_sub hl [1, 2, 0] rfl)
  · have hf := pif_f c10 hf
    refine lv_bipush (v := (-3)) hx hb dX9_feed_13 (by decide) ?_
    exact ret_i (q := q) (g := fun q => q.1) (wp := fun q => [(a9 0, .inr (9, fl9 a9 (va_up i9 0 q.2.1) g9)), ((a9 1), .inl (cyI, 240, .inl q.2.2))]) hQ hf hx hb hr hlocks hP hD hS dX9_feed_15 rfl
abbrev rmX9_end : Room := { frames := 1, cells := 0, slots := 0, locals := 25 }
set_option maxHeartbeats 40000000 in
set_option maxRecDepth 100000 in
theorem mX9_end (l : Launch) (D : va_G) (cyI cyJ cyB cyS : ClassId) (N : Nat) (sz : Nat) (a9 : Nat → Nat) (i9 : Nat → Int32) (g9 : Nat → Int64) (x1 : Int32) (q : Int32 × Int32) (hf : fX9_end N (i9 0) x1 = some q) : Met l yX9_end (wS yX9_end cX9_end 3 (some .int)) rmX9_end (va_Pc [.ref (a9 0), .int x1] (PP D cyI cyJ cyB cyS [(a9 0, .inr (9, fl9 a9 i9 g9))] sz)) (QI q.1 D [(a9 0, .inr (9, fl9 a9 (va_up i9 0 q.2) g9))] (va_A [(a9 0, .inr (9, fl9 a9 i9 g9))] sz)) 0 0 (va_A [(a9 0, .inr (9, fl9 a9 i9 g9))] sz) := by
  refine Met.ofW (cc := cX9_end) (maxL := 3) (ret := (some .int)) (by decide) rfl ?_
  intro p e s m args below meth c s₁ B hml hv
  obtain ⟨rfl, hsz, hP, hK, hD0⟩ := hv
  have hx := B.exec
  have hb := B.bytes
  have hr := B.returns
  have hts := atoms_spec (ws := (wS yX9_end cX9_end 3 (some .int))) B.pre
  have hown : s.vm.findClass RX9 = some m.cls := findClass_of_methodNamed B.named
  have hlocks := B.notSynchronized
  subst hsz
  have hD := hD0.self (sz := s.heap.size)
  refine w_nameQ (fun Q hQ => ?_)
  have hl := lv_entry ([.ref (a9 0), .int x1] : List Value) (n := 3) (Nat.le_of_ble_eq_true rfl)
  rw [lg_entry_eq]
  generalize (lg_sl ([.ref (a9 0), .int x1] : List Value) ++ List.replicate (3 - (lg_sl ([.ref (a9 0), .int x1] : List Value)).length) Slot.unset).toArray = ls at hl ⊢
  have hl : lv_has ls 3 [(0, .ref (a9 0)), (1, .int x1)] := hl
  generalize hAe : va_A [(a9 0, .inr (9, fl9 a9 i9 g9))] s.heap.size = A at hD hQ
  have hA : ∀ q : Nat, s.heap.size ≤ q → A q := fun q h => by rw [← hAe]; exact Or.inr h
  have hS : va_S A s.heap s.heap [] := va_S.rf
  generalize ([.ref (a9 0), .int x1] : List Value).toArray = av at hts hQ ⊢
  have hL : ∀ w ∈ wsL_law, w.before av s = true := fun w h => hts w (List.mem_cons_of_mem _ h)
  have w0 := hL (.fieldLink RX9 92 "LosingLeagueModel" "taped" "I") (hR7 22 rfl)
  have w1 := hL (.static yX9_in) (hR8 8 rfl)
  unfold fX9_end at hf
  obtain ⟨H, hH⟩ : ∃ H : Heap, H = s.heap := ⟨_, rfl⟩
  obtain ⟨locs, hlo⟩ : ∃ locs : List Loc, locs = [] := ⟨_, rfl⟩
  have hP : va_P D vwCl [(a9 0, .inr (9, fl9 a9 i9 g9))] H := by rw [hH]; exact hP
  have hS : va_S A s.heap H locs := by rw [hH, hlo]; exact hS
  suffices hw : W p l e rmX9_end s m av below meth c H locs 0 0 Q (F0 m 0 ls []) by rw [hH, hlo] at hw; exact hw
  refine lv_iload_n hx hb dX9_end_0 rfl (lv_at hl 1 rfl) ?_
  refine lv_i2l hx hb dX9_end_1 rfl ?_
  refine lv_lconst (v := 0) hx hb dX9_end_2 (by decide) ?_
  refine lv_aload_n hx hb dX9_end_3 rfl (lv_at hl 0 rfl) ?_
  refine va_get (D := D) (ci := 9) (v := .int (i9 0)) (C := RX9) (T := TX9) (N := 52) hx hb hL inlX9 hown hK.1 hP 0 rfl rfl 1 (by decide) w0 (fun _ h9 => h9) rfl dX9_end_4 ?_
  refine lv_i2l hx hb dX9_end_7 rfl ?_
  obtain ⟨q8, e8, hf⟩ := pb_some hf
  refine cc_i (wc := []) (wr := [(a9 0, .inr (9, fl9 a9 i9 g9))]) (w1 := []) (wn := [(a9 0, .inr (9, fl9 a9 i9 g9))]) hP hD hS hA [] [0] [0] rfl rfl rfl (by decide) rfl rfl (va_runS (As := [.long ((x1 : Int32).toInt64), .long 0, .long (((i9 0) : Int32).toInt64)]) (rest := []) ⟨hx, hb, hml, hown, hL⟩ (mX9_in l D cyI cyJ cyB cyS N H.size   ((x1 : Int32).toInt64) 0 (((i9 0) : Int32).toInt64) q8 e8) (va_cwS 3 hL (gS (hR8 7 rfl) (hR8 8 rfl) (hR1 5 rfl) (hR8 9 rfl)) rfl rfl rfl (by decide +kernel) ⟨Nat.le_of_ble_eq_true rfl, Nat.le_of_ble_eq_true rfl⟩) (PP_preS hP hD hK [] rfl rfl) rfl rfl hl.1 rfl (lv_room (Nat.le_of_ble_eq_true rfl)) dX9_end_8 ⟨Nat.le_of_ble_eq_true rfl, Nat.le_of_ble_eq_true rfl⟩) (fun H locs hP hD hS => ?_)
  refine lv_if_ne (tgt := 16) hx hb dX9_end_11 (by decide) (fun c11 => ?_) (fun c11 => ?_)
  · have hf := pif_f c11 hf
    refine lv_aload_n hx hb dX9_end_16 rfl (lv_at hl 0 rfl) ?_
    refine va_get (D := D) (ci := 9) (v := .int (i9 0)) (C := RX9) (T := TX9) (N := 52) hx hb hL inlX9 hown hK.1 hP 0 rfl rfl 1 (by decide) w0 (fun _ h9 => h9) rfl dX9_end_17 ?_
    refine lv_istore_n (lv' := [(2, .int (i9 0)), (0, .ref (a9 0)), (1, .int x1)]) hx hb dX9_end_20 rfl hl (by decide) rfl (fun ls hl => ?_)
    refine lv_aload_n hx hb dX9_end_21 rfl (lv_at hl 1 rfl) ?_
    refine lv_iload_n hx hb dX9_end_22 rfl (lv_at hl 2 rfl) ?_
    refine va_put (D := D) (ci := 9) (v := .int x1) (ty := .int) (C := RX9) (T := TX9) (N := 52) hx hb hL inlX9 tyX9 tyX9_ok nmX9 hown hK.1 hP hD hS 0 rfl rfl 1 (by decide) w0 (fun _ h9 => h9) rfl (by decide +kernel) rfl rfl (Nat.le_of_ble_eq_true rfl) dX9_end_23 (fun H locs hP hD hS => ?_)
    rw [fl9_s1] at hP hD
    have hP : va_P D vwCl [(a9 0, .inr (9, fl9 a9 (va_up i9 0 x1) g9))] H := hP
    have hD : va_D A [(a9 0, .inr (9, fl9 a9 (va_up i9 0 x1) g9))] := hD
    refine lv_iload_n hx hb dX9_end_26 rfl (lv_at hl 0 rfl) ?_
    exact ret_i (q := q) (g := fun q => q.1) (wp := fun q => [(a9 0, .inr (9, fl9 a9 (va_up i9 0 q.2) g9))]) hQ hf hx hb hr hlocks hP hD hS dX9_end_27 rfl
  · have hf := pif_t c11 hf
    refine lv_iconst (v := (-1)) hx hb dX9_end_14 (by decide) ?_
    exact ret_i (q := q) (g := fun q => q.1) (wp := fun q => [(a9 0, .inr (9, fl9 a9 (va_up i9 0 q.2) g9))]) hQ hf hx hb hr hlocks hP hD hS dX9_end_15 rfl
abbrev rmX9_byteAt : Room := { frames := 0, cells := 0, slots := 0, locals := 0 }
set_option maxHeartbeats 40000000 in
set_option maxRecDepth 100000 in
theorem mX9_byteAt (l : Launch) (D : va_G) (cyI cyJ cyB cyS : ClassId) (N : Nat) (sz : Nat) (a9 : Nat → Nat) (i9 : Nat → Int32) (g9 : Nat → Int64) (c_tape : Nat → Int32) (x1 : Int32) (q : Int32) (hf : fX9_byteAt N (i9 0) c_tape x1 = some q) : Met l yX9_byteAt (wS yX9_byteAt cX9_byteAt 2 (some .int)) rmX9_byteAt (va_Pc [.ref (a9 0), .int x1] (PP D cyI cyJ cyB cyS [(a9 0, .inr (9, fl9 a9 i9 g9)), ((a9 1), .inl (cyI, 240, .inl c_tape))] sz)) (QI q D [(a9 0, .inr (9, fl9 a9 i9 g9)), ((a9 1), .inl (cyI, 240, .inl c_tape))] (va_A [(a9 0, .inr (9, fl9 a9 i9 g9)), ((a9 1), .inl (cyI, 240, .inl c_tape))] sz)) 0 0 (va_A [(a9 0, .inr (9, fl9 a9 i9 g9)), ((a9 1), .inl (cyI, 240, .inl c_tape))] sz) := by
  refine Met.ofW (cc := cX9_byteAt) (maxL := 2) (ret := (some .int)) (by decide) rfl ?_
  intro p e s m args below meth c s₁ B hml hv
  obtain ⟨rfl, hsz, hP, hK, hD0⟩ := hv
  have hx := B.exec
  have hb := B.bytes
  have hr := B.returns
  have hts := atoms_spec (ws := (wS yX9_byteAt cX9_byteAt 2 (some .int))) B.pre
  have hown : s.vm.findClass RX9 = some m.cls := findClass_of_methodNamed B.named
  have hlocks := B.notSynchronized
  subst hsz
  have hD := hD0.self (sz := s.heap.size)
  refine w_nameQ (fun Q hQ => ?_)
  have hl := lv_entry ([.ref (a9 0), .int x1] : List Value) (n := 2) (Nat.le_of_ble_eq_true rfl)
  rw [lg_entry_eq]
  generalize (lg_sl ([.ref (a9 0), .int x1] : List Value) ++ List.replicate (2 - (lg_sl ([.ref (a9 0), .int x1] : List Value)).length) Slot.unset).toArray = ls at hl ⊢
  have hl : lv_has ls 2 [(0, .ref (a9 0)), (1, .int x1)] := hl
  generalize hAe : va_A [(a9 0, .inr (9, fl9 a9 i9 g9)), ((a9 1), .inl (cyI, 240, .inl c_tape))] s.heap.size = A at hD hQ
  have hA : ∀ q : Nat, s.heap.size ≤ q → A q := fun q h => by rw [← hAe]; exact Or.inr h
  have hS : va_S A s.heap s.heap [] := va_S.rf
  generalize ([.ref (a9 0), .int x1] : List Value).toArray = av at hts hQ ⊢
  have hL : ∀ w ∈ wsL_law, w.before av s = true := fun w h => hts w (List.mem_cons_of_mem _ h)
  have w0 := hL (.fieldLink RX9 92 "LosingLeagueModel" "taped" "I") (hR7 22 rfl)
  have w1 := hL (.fieldLink RX9 7 "LosingLeagueModel" "tape" "[I") (hR6 4 rfl)
  have hB19 : ∀ (s0 : Int32) (H : Heap) (locs : List Loc) (ls : Array Slot), fX9_byteAt_19 N (i9 0) c_tape x1 s0 = some q → va_P D vwCl [(a9 0, .inr (9, fl9 a9 i9 g9)), ((a9 1), .inl (cyI, 240, .inl c_tape))] H → va_D A [(a9 0, .inr (9, fl9 a9 i9 g9)), ((a9 1), .inl (cyI, 240, .inl c_tape))] → va_S A s.heap H locs → lv_has ls 2 [] → W p l e rmX9_byteAt s m av below meth c H locs 0 0 Q (F0 m 19 ls [.int s0]) := by
    intro s0 H locs ls hf hP hD hS hl
    unfold fX9_byteAt_19 at hf
    exact ret_i (q := q) (g := fun q => q) (wp := fun q => [(a9 0, .inr (9, fl9 a9 i9 g9)), ((a9 1), .inl (cyI, 240, .inl c_tape))]) hQ hf hx hb hr hlocks hP hD hS dX9_byteAt_19 rfl
  unfold fX9_byteAt at hf
  obtain ⟨H, hH⟩ : ∃ H : Heap, H = s.heap := ⟨_, rfl⟩
  obtain ⟨locs, hlo⟩ : ∃ locs : List Loc, locs = [] := ⟨_, rfl⟩
  have hP : va_P D vwCl [(a9 0, .inr (9, fl9 a9 i9 g9)), ((a9 1), .inl (cyI, 240, .inl c_tape))] H := by rw [hH]; exact hP
  have hS : va_S A s.heap H locs := by rw [hH, hlo]; exact hS
  suffices hw : W p l e rmX9_byteAt s m av below meth c H locs 0 0 Q (F0 m 0 ls []) by rw [hH, hlo] at hw; exact hw
  refine lv_iload_n hx hb dX9_byteAt_0 rfl (lv_at hl 1 rfl) ?_
  refine lv_aload_n hx hb dX9_byteAt_1 rfl (lv_at hl 0 rfl) ?_
  refine va_get (D := D) (ci := 9) (v := .int (i9 0)) (C := RX9) (T := TX9) (N := 52) hx hb hL inlX9 hown hK.1 hP 0 rfl rfl 1 (by decide) w0 (fun _ h9 => h9) rfl dX9_byteAt_2 ?_
  refine lv_icmp_ge (tgt := 17) hx hb dX9_byteAt_5 (by decide) (fun c5 => ?_) (fun c5 => ?_)
  · have hf := pif_t c5 hf
    refine lv_bipush (v := (-4)) hx hb dX9_byteAt_17 (by decide) ?_
    exact hB19 (-4) H locs ls hf hP hD hS (lv_sub hl [] rfl)
  · have hf := pif_f c5 hf
    refine lv_aload_n hx hb dX9_byteAt_8 rfl (lv_at hl 0 rfl) ?_
    refine va_get (D := D) (ci := 9) (v := .ref (a9 1)) (C := RX9) (T := TX9) (N := 52) hx hb hL inlX9 hown hK.1 hP 0 rfl rfl 0 (by decide) w1 (fun _ h9 => h9) rfl dX9_byteAt_9 ?_
    refine lv_iload_n hx hb dX9_byteAt_12 rfl (lv_at hl 1 rfl) ?_
    obtain ⟨h13, hf⟩ := pg_some hf
    refine va_iald hx hb hK.1 hP 1 0 rfl rfl h13 dX9_byteAt_13 ?_
    refine lv_goto (tgt := 19) hx hb dX9_byteAt_14 (by decide) ?_
    exact hB19 (c_tape x1.toNatClampNeg) H locs ls hf hP hD hS (lv_sub hl [] rfl)
abbrev rmX9_fails : Room := { frames := 0, cells := 0, slots := 0, locals := 0 }
set_option maxHeartbeats 40000000 in
set_option maxRecDepth 100000 in
theorem mX9_fails (l : Launch) (D : va_G) (cyI cyJ cyB cyS : ClassId) (N : Nat) (sz : Nat) (a9 : Nat → Nat) (i9 : Nat → Int32) (g9 : Nat → Int64) (x1 : Int32) (q : Int32 × Int32) (hf : fX9_fails N (i9 5) (i9 2) (i9 3) x1 = some q) : Met l yX9_fails (wS yX9_fails cX9_fails 2 none) rmX9_fails (va_Pc [.ref (a9 0), .int x1] (PP D cyI cyJ cyB cyS [(a9 0, .inr (9, fl9 a9 i9 g9))] sz)) (QV D [(a9 0, .inr (9, fl9 a9 (va_up (va_up i9 2 q.1) 3 q.2) g9))] (va_A [(a9 0, .inr (9, fl9 a9 i9 g9))] sz)) 0 0 (va_A [(a9 0, .inr (9, fl9 a9 i9 g9))] sz) := by
  refine Met.ofW (cc := cX9_fails) (maxL := 2) (ret := none) (by decide) rfl ?_
  intro p e s m args below meth c s₁ B hml hv
  obtain ⟨rfl, hsz, hP, hK, hD0⟩ := hv
  have hx := B.exec
  have hb := B.bytes
  have hr := B.returns
  have hts := atoms_spec (ws := (wS yX9_fails cX9_fails 2 none)) B.pre
  have hown : s.vm.findClass RX9 = some m.cls := findClass_of_methodNamed B.named
  have hlocks := B.notSynchronized
  subst hsz
  have hD := hD0.self (sz := s.heap.size)
  refine w_nameQ (fun Q hQ => ?_)
  have hl := lv_entry ([.ref (a9 0), .int x1] : List Value) (n := 2) (Nat.le_of_ble_eq_true rfl)
  rw [lg_entry_eq]
  generalize (lg_sl ([.ref (a9 0), .int x1] : List Value) ++ List.replicate (2 - (lg_sl ([.ref (a9 0), .int x1] : List Value)).length) Slot.unset).toArray = ls at hl ⊢
  have hl : lv_has ls 2 [(0, .ref (a9 0)), (1, .int x1)] := hl
  generalize hAe : va_A [(a9 0, .inr (9, fl9 a9 i9 g9))] s.heap.size = A at hD hQ
  have hA : ∀ q : Nat, s.heap.size ≤ q → A q := fun q h => by rw [← hAe]; exact Or.inr h
  have hS : va_S A s.heap s.heap [] := va_S.rf
  generalize ([.ref (a9 0), .int x1] : List Value).toArray = av at hts hQ ⊢
  have hL : ∀ w ∈ wsL_law, w.before av s = true := fun w h => hts w (List.mem_cons_of_mem _ h)
  have w0 := hL (.fieldLink RX9 100 "LosingLeagueModel" "wrong" "I") (hR16 9 rfl)
  have w1 := hL (.fieldLink RX9 103 "LosingLeagueModel" "place" "I") (hR16 17 rfl)
  have w2 := hL (.fieldLink RX9 106 "LosingLeagueModel" "wrongAt" "I") (hR16 19 rfl)
  have hB20 : ∀ (v_wrong : Int32) (v_wrongAt : Int32) (H : Heap) (locs : List Loc) (ls : Array Slot), fX9_fails_20 N (i9 5) x1 v_wrong v_wrongAt = some q → va_P D vwCl [(a9 0, .inr (9, fl9 a9 (va_up (va_up i9 2 v_wrong) 3 v_wrongAt) g9))] H → va_D A [(a9 0, .inr (9, fl9 a9 (va_up (va_up i9 2 v_wrong) 3 v_wrongAt) g9))] → va_S A s.heap H locs → lv_has ls 2 [] → W p l e rmX9_fails s m av below meth c H locs 0 0 Q (F0 m 20 ls []) := by
    intro v_wrong v_wrongAt H locs ls hf hP hD hS hl
    unfold fX9_fails_20 at hf
    exact ret_v (q := q) (wp := fun q => [(a9 0, .inr (9, fl9 a9 (va_up (va_up i9 2 q.1) 3 q.2) g9))]) hQ hf hx hb hr hlocks hP hD hS dX9_fails_20
  unfold fX9_fails at hf
  obtain ⟨H, hH⟩ : ∃ H : Heap, H = s.heap := ⟨_, rfl⟩
  obtain ⟨locs, hlo⟩ : ∃ locs : List Loc, locs = [] := ⟨_, rfl⟩
  have hP : va_P D vwCl [(a9 0, .inr (9, fl9 a9 i9 g9))] H := by rw [hH]; exact hP
  have hS : va_S A s.heap H locs := by rw [hH, hlo]; exact hS
  suffices hw : W p l e rmX9_fails s m av below meth c H locs 0 0 Q (F0 m 0 ls []) by rw [hH, hlo] at hw; exact hw
  refine lv_aload_n hx hb dX9_fails_0 rfl (lv_at hl 0 rfl) ?_
  refine va_get (D := D) (ci := 9) (v := .int (i9 2)) (C := RX9) (T := TX9) (N := 52) hx hb hL inlX9 hown hK.1 hP 0 rfl rfl 3 (by decide) w0 (fun _ h9 => h9) rfl dX9_fails_1 ?_
  refine lv_if_ne (tgt := 20) hx hb dX9_fails_4 (by decide) (fun c4 => ?_) (fun c4 => ?_)
  · have hf := pif_f c4 hf
    exact hB20 (i9 2) (i9 3) H locs ls hf hP hD hS (lv_sub hl [] rfl)
  · have hf := pif_t c4 hf
    refine lv_aload_n hx hb dX9_fails_7 rfl (lv_at hl 0 rfl) ?_
    refine lv_iload_n hx hb dX9_fails_8 rfl (lv_at hl 1 rfl) ?_
    refine va_put (D := D) (ci := 9) (v := .int x1) (ty := .int) (C := RX9) (T := TX9) (N := 52) hx hb hL inlX9 tyX9 tyX9_ok nmX9 hown hK.1 hP hD hS 0 rfl rfl 3 (by decide) w0 (fun _ h9 => h9) rfl (by decide +kernel) rfl rfl (Nat.le_of_ble_eq_true rfl) dX9_fails_9 (fun H locs hP hD hS => ?_)
    rw [fl9_s3] at hP hD
    have hP : va_P D vwCl [(a9 0, .inr (9, fl9 a9 (va_up i9 2 x1) g9))] H := hP
    have hD : va_D A [(a9 0, .inr (9, fl9 a9 (va_up i9 2 x1) g9))] := hD
    refine lv_aload_n hx hb dX9_fails_12 rfl (lv_at hl 0 rfl) ?_
    refine lv_aload_n hx hb dX9_fails_13 rfl (lv_at hl 0 rfl) ?_
    refine va_get (D := D) (ci := 9) (v := .int (i9 5)) (C := RX9) (T := TX9) (N := 52) hx hb hL inlX9 hown hK.1 hP 0 rfl rfl 6 (by decide) w1 (fun _ h9 => h9) rfl dX9_fails_14 ?_
    refine va_put (D := D) (ci := 9) (v := .int (i9 5)) (ty := .int) (C := RX9) (T := TX9) (N := 52) hx hb hL inlX9 tyX9 tyX9_ok nmX9 hown hK.1 hP hD hS 0 rfl rfl 4 (by decide) w2 (fun _ h9 => h9) rfl (by decide +kernel) rfl rfl (Nat.le_of_ble_eq_true rfl) dX9_fails_17 (fun H locs hP hD hS => ?_)
    rw [fl9_s4] at hP hD
    have hP : va_P D vwCl [(a9 0, .inr (9, fl9 a9 (va_up (va_up i9 2 x1) 3 (i9 5)) g9))] H := hP
    have hD : va_D A [(a9 0, .inr (9, fl9 a9 (va_up (va_up i9 2 x1) 3 (i9 5)) g9))] := hD
    exact hB20 x1 (i9 5) H locs ls hf hP hD hS (lv_sub hl [] rfl)
abbrev rmX9_nameAt : Room := { frames := 1, cells := 0, slots := 0, locals := 21 }
set_option maxHeartbeats 40000000 in
set_option maxRecDepth 100000 in
theorem mX9_nameAt (l : Launch) (D : va_G) (cyI cyJ cyB cyS : ClassId) (N : Nat) (sz : Nat) (a9 : Nat → Nat) (i9 : Nat → Int32) (g9 : Nat → Int64) (c_cuts : Nat → Int32) (c_letters : Nat → Int32) (c_tape : Nat → Int32) (x1 : Int32) (x2 : Int32) (q : Int32) (hf : fX9_nameAt N (i9 0) c_cuts c_letters c_tape x1 x2 = some q) : Met l yX9_nameAt (wS yX9_nameAt cX9_nameAt 6 (some .int)) rmX9_nameAt (va_Pc [.ref (a9 0), .int x1, .int x2] (PP D cyI cyJ cyB cyS [(a9 0, .inr (9, fl9 a9 i9 g9)), ((a9 2), .inl (cyI, 12, .inl c_cuts)), ((a9 3), .inl (cyI, 56, .inl c_letters)), ((a9 1), .inl (cyI, 240, .inl c_tape))] sz)) (QI q D [(a9 0, .inr (9, fl9 a9 i9 g9)), ((a9 2), .inl (cyI, 12, .inl c_cuts)), ((a9 3), .inl (cyI, 56, .inl c_letters)), ((a9 1), .inl (cyI, 240, .inl c_tape))] (va_A [(a9 0, .inr (9, fl9 a9 i9 g9)), ((a9 2), .inl (cyI, 12, .inl c_cuts)), ((a9 3), .inl (cyI, 56, .inl c_letters)), ((a9 1), .inl (cyI, 240, .inl c_tape))] sz)) 0 0 (va_A [(a9 0, .inr (9, fl9 a9 i9 g9)), ((a9 2), .inl (cyI, 12, .inl c_cuts)), ((a9 3), .inl (cyI, 56, .inl c_letters)), ((a9 1), .inl (cyI, 240, .inl c_tape))] sz) := by
  refine Met.ofW (cc := cX9_nameAt) (maxL := 6) (ret := (some .int)) (by decide) rfl ?_
  intro p e s m args below meth c s₁ B hml hv
  obtain ⟨rfl, hsz, hP, hK, hD0⟩ := hv
  have hx := B.exec
  have hb := B.bytes
  have hr := B.returns
  have hts := atoms_spec (ws := (wS yX9_nameAt cX9_nameAt 6 (some .int))) B.pre
  have hown : s.vm.findClass RX9 = some m.cls := findClass_of_methodNamed B.named
  have hlocks := B.notSynchronized
  subst hsz
  have hD := hD0.self (sz := s.heap.size)
  refine w_nameQ (fun Q hQ => ?_)
  have hl := lv_entry ([.ref (a9 0), .int x1, .int x2] : List Value) (n := 6) (Nat.le_of_ble_eq_true rfl)
  rw [lg_entry_eq]
  generalize (lg_sl ([.ref (a9 0), .int x1, .int x2] : List Value) ++ List.replicate (6 - (lg_sl ([.ref (a9 0), .int x1, .int x2] : List Value)).length) Slot.unset).toArray = ls at hl ⊢
  have hl : lv_has ls 6 [(0, .ref (a9 0)), (1, .int x1), (2, .int x2)] := hl
  generalize hAe : va_A [(a9 0, .inr (9, fl9 a9 i9 g9)), ((a9 2), .inl (cyI, 12, .inl c_cuts)), ((a9 3), .inl (cyI, 56, .inl c_letters)), ((a9 1), .inl (cyI, 240, .inl c_tape))] s.heap.size = A at hD hQ
  have hA : ∀ q : Nat, s.heap.size ≤ q → A q := fun q h => by rw [← hAe]; exact Or.inr h
  have hS : va_S A s.heap s.heap [] := va_S.rf
  generalize ([.ref (a9 0), .int x1, .int x2] : List Value).toArray = av at hts hQ ⊢
  have hL : ∀ w ∈ wsL_law, w.before av s = true := fun w h => hts w (List.mem_cons_of_mem _ h)
  have w0 := hL (.fieldLink RX9 16 "LosingLeagueModel" "letters" "[I") (hR6 6 rfl)
  have w1 := hL (.fieldLink RX9 13 "LosingLeagueModel" "cuts" "[I") (hR6 5 rfl)
  have hB82 : ∀ (k2 : Int32 → Option (Int32)) (hk2 : ∀ (x3 : Int32) (H : Heap) (locs : List Loc) (ls : Array Slot), k2 x3 = some q → va_P D vwCl [(a9 0, .inr (9, fl9 a9 i9 g9)), ((a9 2), .inl (cyI, 12, .inl c_cuts)), ((a9 3), .inl (cyI, 56, .inl c_letters)), ((a9 1), .inl (cyI, 240, .inl c_tape))] H → va_D A [(a9 0, .inr (9, fl9 a9 i9 g9)), ((a9 2), .inl (cyI, 12, .inl c_cuts)), ((a9 3), .inl (cyI, 56, .inl c_letters)), ((a9 1), .inl (cyI, 240, .inl c_tape))] → va_S A s.heap H locs → lv_has ls 6 [(0, .ref (a9 0)), (1, .int x1), (2, .int x2), (3, .int x3)] → W p l e rmX9_nameAt s m av below meth c H locs 0 0 Q (F0 m 2 ls [])) (k39 : Int32 → Int32 → Int32 → Option (Int32)) (hk39 : ∀ (x3 : Int32) (x4 : Int32) (x5 : Int32) (H : Heap) (locs : List Loc) (ls : Array Slot), k39 x3 x4 x5 = some q → va_P D vwCl [(a9 0, .inr (9, fl9 a9 i9 g9)), ((a9 2), .inl (cyI, 12, .inl c_cuts)), ((a9 3), .inl (cyI, 56, .inl c_letters)), ((a9 1), .inl (cyI, 240, .inl c_tape))] H → va_D A [(a9 0, .inr (9, fl9 a9 i9 g9)), ((a9 2), .inl (cyI, 12, .inl c_cuts)), ((a9 3), .inl (cyI, 56, .inl c_letters)), ((a9 1), .inl (cyI, 240, .inl c_tape))] → va_S A s.heap H locs → lv_has ls 6 [(0, .ref (a9 0)), (1, .int x1), (2, .int x2), (3, .int x3), (4, .int x4), (5, .int x5)] → W p l e rmX9_nameAt s m av below meth c H locs 0 0 Q (F0 m 39 ls [])), ∀ (x3 : Int32) (x5 : Int32) (s0 : Int32) (H : Heap) (locs : List Loc) (ls : Array Slot), fX9_nameAt_82 N (i9 0) c_cuts c_letters c_tape x1 x2 k2 k39 x3 x5 s0 = some q → va_P D vwCl [(a9 0, .inr (9, fl9 a9 i9 g9)), ((a9 2), .inl (cyI, 12, .inl c_cuts)), ((a9 3), .inl (cyI, 56, .inl c_letters)), ((a9 1), .inl (cyI, 240, .inl c_tape))] H → va_D A [(a9 0, .inr (9, fl9 a9 i9 g9)), ((a9 2), .inl (cyI, 12, .inl c_cuts)), ((a9 3), .inl (cyI, 56, .inl c_letters)), ((a9 1), .inl (cyI, 240, .inl c_tape))] → va_S A s.heap H locs → lv_has ls 6 [(0, .ref (a9 0)), (1, .int x1), (2, .int x2), (3, .int x3), (5, .int x5)] → W p l e rmX9_nameAt s m av below meth c H locs 0 0 Q (F0 m 82 ls [.int s0]) := by
    intro k2 hk2 k39 hk39 x3 x5 s0 H locs ls hf hP hD hS hl
    unfold fX9_nameAt_82 at hf
    refine lv_istore (lv' := [(4, .int s0), (0, .ref (a9 0)), (1, .int x1), (2, .int x2), (3, .int x3), (5, .int x5)]) hx hb dX9_nameAt_82 hl (by decide) rfl (fun ls hl => ?_)
    refine lv_iinc (v := x5 + 1) (lv' := [(5, .int (x5 + 1)), (4, .int s0), (0, .ref (a9 0)), (1, .int x1), (2, .int x2), (3, .int x3)]) hx hb dX9_nameAt_84 hl (k := 5) rfl rfl (by decide) rfl (fun ls hl => ?_)
    refine lv_goto (tgt := 39) hx hb dX9_nameAt_87 (by decide) ?_
    exact hk39 x3 s0 (x5 + 1) H locs ls hf hP hD hS (lv_sub hl [2, 3, 4, 5, 1, 0] rfl)
  have hB90 : ∀ (k2 : Int32 → Option (Int32)) (hk2 : ∀ (x3 : Int32) (H : Heap) (locs : List Loc) (ls : Array Slot), k2 x3 = some q → va_P D vwCl [(a9 0, .inr (9, fl9 a9 i9 g9)), ((a9 2), .inl (cyI, 12, .inl c_cuts)), ((a9 3), .inl (cyI, 56, .inl c_letters)), ((a9 1), .inl (cyI, 240, .inl c_tape))] H → va_D A [(a9 0, .inr (9, fl9 a9 i9 g9)), ((a9 2), .inl (cyI, 12, .inl c_cuts)), ((a9 3), .inl (cyI, 56, .inl c_letters)), ((a9 1), .inl (cyI, 240, .inl c_tape))] → va_S A s.heap H locs → lv_has ls 6 [(0, .ref (a9 0)), (1, .int x1), (2, .int x2), (3, .int x3)] → W p l e rmX9_nameAt s m av below meth c H locs 0 0 Q (F0 m 2 ls [])), ∀ (x3 : Int32) (x4 : Int32) (H : Heap) (locs : List Loc) (ls : Array Slot), fX9_nameAt_90 N (i9 0) c_cuts c_letters c_tape x1 x2 k2 x3 x4 = some q → va_P D vwCl [(a9 0, .inr (9, fl9 a9 i9 g9)), ((a9 2), .inl (cyI, 12, .inl c_cuts)), ((a9 3), .inl (cyI, 56, .inl c_letters)), ((a9 1), .inl (cyI, 240, .inl c_tape))] H → va_D A [(a9 0, .inr (9, fl9 a9 i9 g9)), ((a9 2), .inl (cyI, 12, .inl c_cuts)), ((a9 3), .inl (cyI, 56, .inl c_letters)), ((a9 1), .inl (cyI, 240, .inl c_tape))] → va_S A s.heap H locs → lv_has ls 6 [(0, .ref (a9 0)), (1, .int x1), (2, .int x2), (3, .int x3), (4, .int x4)] → W p l e rmX9_nameAt s m av below meth c H locs 0 0 Q (F0 m 90 ls []) := by
    intro k2 hk2 x3 x4 H locs ls hf hP hD hS hl
    unfold fX9_nameAt_90 at hf
    refine lv_iload hx hb dX9_nameAt_90 (lv_at hl 4 rfl) ?_
    refine lv_if_eq (tgt := 97) hx hb dX9_nameAt_92 (by decide) (fun c92 => ?_) (fun c92 => ?_)
    · have hf := pif_t c92 hf
      refine lv_iinc (v := x3 + 1) (lv' := [(3, .int (x3 + 1)), (0, .ref (a9 0)), (1, .int x1), (2, .int x2), (4, .int x4)]) hx hb dX9_nameAt_97 hl (k := 3) rfl rfl (by decide) rfl (fun ls hl => ?_)
      refine lv_goto (tgt := 2) hx hb dX9_nameAt_100 (by decide) ?_
      exact hk2 (x3 + 1) H locs ls hf hP hD hS (lv_sub hl [1, 2, 3, 0] rfl)
    · have hf := pif_f c92 hf
      refine lv_iload_n hx hb dX9_nameAt_95 rfl (lv_at hl 3 rfl) ?_
      exact ret_i (q := q) (g := fun q => q) (wp := fun q => [(a9 0, .inr (9, fl9 a9 i9 g9)), ((a9 2), .inl (cyI, 12, .inl c_cuts)), ((a9 3), .inl (cyI, 56, .inl c_letters)), ((a9 1), .inl (cyI, 240, .inl c_tape))]) hQ hf hx hb hr hlocks hP hD hS dX9_nameAt_96 rfl
  have hB39 : ∀ (k2 : Int32 → Option (Int32)) (hk2 : ∀ (x3 : Int32) (H : Heap) (locs : List Loc) (ls : Array Slot), k2 x3 = some q → va_P D vwCl [(a9 0, .inr (9, fl9 a9 i9 g9)), ((a9 2), .inl (cyI, 12, .inl c_cuts)), ((a9 3), .inl (cyI, 56, .inl c_letters)), ((a9 1), .inl (cyI, 240, .inl c_tape))] H → va_D A [(a9 0, .inr (9, fl9 a9 i9 g9)), ((a9 2), .inl (cyI, 12, .inl c_cuts)), ((a9 3), .inl (cyI, 56, .inl c_letters)), ((a9 1), .inl (cyI, 240, .inl c_tape))] → va_S A s.heap H locs → lv_has ls 6 [(0, .ref (a9 0)), (1, .int x1), (2, .int x2), (3, .int x3)] → W p l e rmX9_nameAt s m av below meth c H locs 0 0 Q (F0 m 2 ls [])) (n : Nat), ∀ (x3 : Int32) (x4 : Int32) (x5 : Int32) (H : Heap) (locs : List Loc) (ls : Array Slot), fX9_nameAt_39 N (i9 0) c_cuts c_letters c_tape x1 x2 k2 n x3 x4 x5 = some q → va_P D vwCl [(a9 0, .inr (9, fl9 a9 i9 g9)), ((a9 2), .inl (cyI, 12, .inl c_cuts)), ((a9 3), .inl (cyI, 56, .inl c_letters)), ((a9 1), .inl (cyI, 240, .inl c_tape))] H → va_D A [(a9 0, .inr (9, fl9 a9 i9 g9)), ((a9 2), .inl (cyI, 12, .inl c_cuts)), ((a9 3), .inl (cyI, 56, .inl c_letters)), ((a9 1), .inl (cyI, 240, .inl c_tape))] → va_S A s.heap H locs → lv_has ls 6 [(0, .ref (a9 0)), (1, .int x1), (2, .int x2), (3, .int x3), (4, .int x4), (5, .int x5)] → W p l e rmX9_nameAt s m av below meth c H locs 0 0 Q (F0 m 39 ls []) := by
    intro k2 hk2 n
    induction n with
    | zero => intro x3 x4 x5 H locs ls hf; exact absurd hf (by simp [fX9_nameAt_39])
    | succ n hk39 =>
      intro x3 x4 x5 H locs ls hf hP hD hS hl
      rw [fX9_nameAt_39] at hf
      refine lv_iload hx hb dX9_nameAt_39 (lv_at hl 4 rfl) ?_
      refine lv_if_eq (tgt := 90) hx hb dX9_nameAt_41 (by decide) (fun c41 => ?_) (fun c41 => ?_)
      · have hf := pif_t c41 hf
        exact hB90 k2 hk2 x3 x4 H locs ls hf hP hD hS (lv_sub hl [0, 1, 2, 3, 4] rfl)
      · have hf := pif_f c41 hf
        refine lv_iload hx hb dX9_nameAt_44 (lv_at hl 5 rfl) ?_
        refine lv_iload_n hx hb dX9_nameAt_46 rfl (lv_at hl 2 rfl) ?_
        refine lv_iload_n hx hb dX9_nameAt_47 rfl (lv_at hl 1 rfl) ?_
        refine lv_isub hx hb dX9_nameAt_48 ?_
        refine lv_icmp_ge (tgt := 90) hx hb dX9_nameAt_49 (by decide) (fun c49 => ?_) (fun c49 => ?_)
        · have hf := pif_t c49 hf
          exact hB90 k2 hk2 x3 x4 H locs ls hf hP hD hS (lv_sub hl [0, 1, 2, 3, 4] rfl)
        · have hf := pif_f c49 hf
          refine lv_aload_n hx hb dX9_nameAt_52 rfl (lv_at hl 0 rfl) ?_
          refine lv_iload_n hx hb dX9_nameAt_53 rfl (lv_at hl 1 rfl) ?_
          refine lv_iload hx hb dX9_nameAt_54 (lv_at hl 5 rfl) ?_
          refine lv_iadd hx hb dX9_nameAt_56 ?_
          obtain ⟨q57, e57, hf⟩ := pb_some hf
          refine cc_i (wc := [(a9 0, .inr (9, fl9 a9 i9 g9)), ((a9 1), .inl (cyI, 240, .inl c_tape))]) (wr := [((a9 2), .inl (cyI, 12, .inl c_cuts)), ((a9 3), .inl (cyI, 56, .inl c_letters))]) (w1 := [(a9 0, .inr (9, fl9 a9 i9 g9)), ((a9 1), .inl (cyI, 240, .inl c_tape))]) (wn := [(a9 0, .inr (9, fl9 a9 i9 g9)), ((a9 2), .inl (cyI, 12, .inl c_cuts)), ((a9 3), .inl (cyI, 56, .inl c_letters)), ((a9 1), .inl (cyI, 240, .inl c_tape))]) hP hD hS hA [0, 3] [1, 2] [2, 0, 1, 3] rfl rfl rfl (by decide) rfl rfl (va_runV (C := RX9) (As := [.int (x1 + x5)]) (rest := []) ⟨hx, hb, hml, hown, hL⟩ (mX9_byteAt l D cyI cyJ cyB cyS N H.size a9 i9 g9 c_tape (x1 + x5) q57 e57) (cwV 1 hL (gV (hR17 5 rfl) (hR17 6 rfl) (hR17 7 rfl) (hR1 5 rfl) (hR17 8 rfl)) rfl rfl rfl (by decide +kernel) ⟨Nat.le_of_ble_eq_true rfl, Nat.le_of_ble_eq_true rfl⟩) (PP_preV (ci := 9) (q0 := 0) hP hD hK [0, 3] rfl rfl rfl rfl) rfl rfl hl.1 rfl (lv_room (Nat.le_of_ble_eq_true rfl)) dX9_nameAt_57 ⟨Nat.le_of_ble_eq_true rfl, Nat.le_of_ble_eq_true rfl⟩) (fun H locs hP hD hS => ?_)
          refine lv_aload_n hx hb dX9_nameAt_60 rfl (lv_at hl 0 rfl) ?_
          refine va_get (D := D) (ci := 9) (v := .ref (a9 3)) (C := RX9) (T := TX9) (N := 52) hx hb hL inlX9 hown hK.1 hP 0 rfl rfl 10 (by decide) w0 (fun _ h9 => h9) rfl dX9_nameAt_61 ?_
          refine lv_aload_n hx hb dX9_nameAt_64 rfl (lv_at hl 0 rfl) ?_
          refine va_get (D := D) (ci := 9) (v := .ref (a9 2)) (C := RX9) (T := TX9) (N := 52) hx hb hL inlX9 hown hK.1 hP 0 rfl rfl 9 (by decide) w1 (fun _ h9 => h9) rfl dX9_nameAt_65 ?_
          refine lv_iload_n hx hb dX9_nameAt_68 rfl (lv_at hl 3 rfl) ?_
          obtain ⟨h69, hf⟩ := pg_some hf
          refine va_iald hx hb hK.1 hP 1 0 rfl rfl h69 dX9_nameAt_69 ?_
          refine lv_iload hx hb dX9_nameAt_70 (lv_at hl 5 rfl) ?_
          refine lv_iadd hx hb dX9_nameAt_72 ?_
          obtain ⟨h73, hf⟩ := pg_some hf
          refine va_iald hx hb hK.1 hP 2 0 rfl rfl h73 dX9_nameAt_73 ?_
          refine lv_icmp_ne (tgt := 81) hx hb dX9_nameAt_74 (by decide) (fun c74 => ?_) (fun c74 => ?_)
          · have hf := pif_f c74 hf
            refine lv_iconst (v := 0) hx hb dX9_nameAt_81 (by decide) ?_
            exact hB82 k2 hk2 (fX9_nameAt_39 N (i9 0) c_cuts c_letters c_tape x1 x2 k2 n) hk39 x3 x5 0 H locs ls hf hP hD hS (lv_sub hl [0, 1, 2, 3, 5] rfl)
          · have hf := pif_t c74 hf
            refine lv_iconst (v := 1) hx hb dX9_nameAt_77 (by decide) ?_
            refine lv_goto (tgt := 82) hx hb dX9_nameAt_78 (by decide) ?_
            exact hB82 k2 hk2 (fX9_nameAt_39 N (i9 0) c_cuts c_letters c_tape x1 x2 k2 n) hk39 x3 x5 1 H locs ls hf hP hD hS (lv_sub hl [0, 1, 2, 3, 5] rfl)
  have hB34 : ∀ (k2 : Int32 → Option (Int32)) (hk2 : ∀ (x3 : Int32) (H : Heap) (locs : List Loc) (ls : Array Slot), k2 x3 = some q → va_P D vwCl [(a9 0, .inr (9, fl9 a9 i9 g9)), ((a9 2), .inl (cyI, 12, .inl c_cuts)), ((a9 3), .inl (cyI, 56, .inl c_letters)), ((a9 1), .inl (cyI, 240, .inl c_tape))] H → va_D A [(a9 0, .inr (9, fl9 a9 i9 g9)), ((a9 2), .inl (cyI, 12, .inl c_cuts)), ((a9 3), .inl (cyI, 56, .inl c_letters)), ((a9 1), .inl (cyI, 240, .inl c_tape))] → va_S A s.heap H locs → lv_has ls 6 [(0, .ref (a9 0)), (1, .int x1), (2, .int x2), (3, .int x3)] → W p l e rmX9_nameAt s m av below meth c H locs 0 0 Q (F0 m 2 ls [])), ∀ (x3 : Int32) (s0 : Int32) (H : Heap) (locs : List Loc) (ls : Array Slot), fX9_nameAt_34 N (i9 0) c_cuts c_letters c_tape x1 x2 k2 x3 s0 = some q → va_P D vwCl [(a9 0, .inr (9, fl9 a9 i9 g9)), ((a9 2), .inl (cyI, 12, .inl c_cuts)), ((a9 3), .inl (cyI, 56, .inl c_letters)), ((a9 1), .inl (cyI, 240, .inl c_tape))] H → va_D A [(a9 0, .inr (9, fl9 a9 i9 g9)), ((a9 2), .inl (cyI, 12, .inl c_cuts)), ((a9 3), .inl (cyI, 56, .inl c_letters)), ((a9 1), .inl (cyI, 240, .inl c_tape))] → va_S A s.heap H locs → lv_has ls 6 [(0, .ref (a9 0)), (1, .int x1), (2, .int x2), (3, .int x3)] → W p l e rmX9_nameAt s m av below meth c H locs 0 0 Q (F0 m 34 ls [.int s0]) := by
    intro k2 hk2 x3 s0 H locs ls hf hP hD hS hl
    unfold fX9_nameAt_34 at hf
    refine lv_istore (lv' := [(4, .int s0), (0, .ref (a9 0)), (1, .int x1), (2, .int x2), (3, .int x3)]) hx hb dX9_nameAt_34 hl (by decide) rfl (fun ls hl => ?_)
    refine lv_iconst (v := 0) hx hb dX9_nameAt_36 (by decide) ?_
    refine lv_istore (lv' := [(5, .int 0), (4, .int s0), (0, .ref (a9 0)), (1, .int x1), (2, .int x2), (3, .int x3)]) hx hb dX9_nameAt_37 hl (by decide) rfl (fun ls hl => ?_)
    exact hB39 k2 hk2 N x3 s0 0 H locs ls hf hP hD hS (lv_sub hl [2, 3, 4, 5, 1, 0] rfl)
  have hB2 : ∀ (n : Nat), ∀ (x3 : Int32) (H : Heap) (locs : List Loc) (ls : Array Slot), fX9_nameAt_2 N (i9 0) c_cuts c_letters c_tape x1 x2 n x3 = some q → va_P D vwCl [(a9 0, .inr (9, fl9 a9 i9 g9)), ((a9 2), .inl (cyI, 12, .inl c_cuts)), ((a9 3), .inl (cyI, 56, .inl c_letters)), ((a9 1), .inl (cyI, 240, .inl c_tape))] H → va_D A [(a9 0, .inr (9, fl9 a9 i9 g9)), ((a9 2), .inl (cyI, 12, .inl c_cuts)), ((a9 3), .inl (cyI, 56, .inl c_letters)), ((a9 1), .inl (cyI, 240, .inl c_tape))] → va_S A s.heap H locs → lv_has ls 6 [(0, .ref (a9 0)), (1, .int x1), (2, .int x2), (3, .int x3)] → W p l e rmX9_nameAt s m av below meth c H locs 0 0 Q (F0 m 2 ls []) := by
    intro n
    induction n with
    | zero => intro x3 H locs ls hf; exact absurd hf (by simp [fX9_nameAt_2])
    | succ n hk2 =>
      intro x3 H locs ls hf hP hD hS hl
      rw [fX9_nameAt_2] at hf
      refine lv_iload_n hx hb dX9_nameAt_2 rfl (lv_at hl 3 rfl) ?_
      refine lv_bipush (v := 11) hx hb dX9_nameAt_3 (by decide) ?_
      refine lv_icmp_ge (tgt := 103) hx hb dX9_nameAt_5 (by decide) (fun c5 => ?_) (fun c5 => ?_)
      · have hf := pif_t c5 hf
        refine lv_bipush (v := (-4)) hx hb dX9_nameAt_103 (by decide) ?_
        exact ret_i (q := q) (g := fun q => q) (wp := fun q => [(a9 0, .inr (9, fl9 a9 i9 g9)), ((a9 2), .inl (cyI, 12, .inl c_cuts)), ((a9 3), .inl (cyI, 56, .inl c_letters)), ((a9 1), .inl (cyI, 240, .inl c_tape))]) hQ hf hx hb hr hlocks hP hD hS dX9_nameAt_105 rfl
      · have hf := pif_f c5 hf
        refine lv_iload_n hx hb dX9_nameAt_8 rfl (lv_at hl 2 rfl) ?_
        refine lv_iload_n hx hb dX9_nameAt_9 rfl (lv_at hl 1 rfl) ?_
        refine lv_isub hx hb dX9_nameAt_10 ?_
        refine lv_aload_n hx hb dX9_nameAt_11 rfl (lv_at hl 0 rfl) ?_
        refine va_get (D := D) (ci := 9) (v := .ref (a9 2)) (C := RX9) (T := TX9) (N := 52) hx hb hL inlX9 hown hK.1 hP 0 rfl rfl 9 (by decide) w1 (fun _ h9 => h9) rfl dX9_nameAt_12 ?_
        refine lv_iload_n hx hb dX9_nameAt_15 rfl (lv_at hl 3 rfl) ?_
        refine lv_iconst (v := 1) hx hb dX9_nameAt_16 (by decide) ?_
        refine lv_iadd hx hb dX9_nameAt_17 ?_
        obtain ⟨h18, hf⟩ := pg_some hf
        refine va_iald hx hb hK.1 hP 1 0 rfl rfl h18 dX9_nameAt_18 ?_
        refine lv_aload_n hx hb dX9_nameAt_19 rfl (lv_at hl 0 rfl) ?_
        refine va_get (D := D) (ci := 9) (v := .ref (a9 2)) (C := RX9) (T := TX9) (N := 52) hx hb hL inlX9 hown hK.1 hP 0 rfl rfl 9 (by decide) w1 (fun _ h9 => h9) rfl dX9_nameAt_20 ?_
        refine lv_iload_n hx hb dX9_nameAt_23 rfl (lv_at hl 3 rfl) ?_
        obtain ⟨h24, hf⟩ := pg_some hf
        refine va_iald hx hb hK.1 hP 1 0 rfl rfl h24 dX9_nameAt_24 ?_
        refine lv_isub hx hb dX9_nameAt_25 ?_
        refine lv_icmp_ne (tgt := 33) hx hb dX9_nameAt_26 (by decide) (fun c26 => ?_) (fun c26 => ?_)
        · have hf := pif_f c26 hf
          refine lv_iconst (v := 0) hx hb dX9_nameAt_33 (by decide) ?_
          exact hB34 (fX9_nameAt_2 N (i9 0) c_cuts c_letters c_tape x1 x2 n) hk2 x3 0 H locs ls hf hP hD hS (lv_sub hl [0, 1, 2, 3] rfl)
        · have hf := pif_t c26 hf
          refine lv_iconst (v := 1) hx hb dX9_nameAt_29 (by decide) ?_
          refine lv_goto (tgt := 34) hx hb dX9_nameAt_30 (by decide) ?_
          exact hB34 (fX9_nameAt_2 N (i9 0) c_cuts c_letters c_tape x1 x2 n) hk2 x3 1 H locs ls hf hP hD hS (lv_sub hl [0, 1, 2, 3] rfl)
  unfold fX9_nameAt at hf
  obtain ⟨H, hH⟩ : ∃ H : Heap, H = s.heap := ⟨_, rfl⟩
  obtain ⟨locs, hlo⟩ : ∃ locs : List Loc, locs = [] := ⟨_, rfl⟩
  have hP : va_P D vwCl [(a9 0, .inr (9, fl9 a9 i9 g9)), ((a9 2), .inl (cyI, 12, .inl c_cuts)), ((a9 3), .inl (cyI, 56, .inl c_letters)), ((a9 1), .inl (cyI, 240, .inl c_tape))] H := by rw [hH]; exact hP
  have hS : va_S A s.heap H locs := by rw [hH, hlo]; exact hS
  suffices hw : W p l e rmX9_nameAt s m av below meth c H locs 0 0 Q (F0 m 0 ls []) by rw [hH, hlo] at hw; exact hw
  refine lv_iconst (v := 0) hx hb dX9_nameAt_0 (by decide) ?_
  refine lv_istore_n (lv' := [(3, .int 0), (0, .ref (a9 0)), (1, .int x1), (2, .int x2)]) hx hb dX9_nameAt_1 rfl hl (by decide) rfl (fun ls hl => ?_)
  exact hB2 N 0 H locs ls hf hP hD hS (lv_sub hl [1, 2, 3, 0] rfl)
abbrev rmX9_next : Room := { frames := 2, cells := 0, slots := 0, locals := 46 }
set_option maxHeartbeats 40000000 in
set_option maxRecDepth 100000 in
theorem mX9_next (l : Launch) (D : va_G) (cyI cyJ cyB cyS : ClassId) (N : Nat) (sz : Nat) (a9 : Nat → Nat) (i9 : Nat → Int32) (g9 : Nat → Int64) (c_cuts : Nat → Int32) (c_letters : Nat → Int32) (c_tape : Nat → Int32) (q : Int32 × Int32 × Int32 × Int32 × Int32 × Int32) (hf : fX9_next N (i9 5) (i9 4) (i9 0) (i9 6) (i9 7) (i9 2) (i9 3) c_cuts c_letters c_tape = some q) : Met l yX9_next (wS yX9_next cX9_next 2 none) rmX9_next (va_Pc [.ref (a9 0)] (PP D cyI cyJ cyB cyS [(a9 0, .inr (9, fl9 a9 i9 g9)), ((a9 2), .inl (cyI, 12, .inl c_cuts)), ((a9 3), .inl (cyI, 56, .inl c_letters)), ((a9 1), .inl (cyI, 240, .inl c_tape))] sz)) (QV D [(a9 0, .inr (9, fl9 a9 (va_up (va_up (va_up (va_up (va_up (va_up i9 5 q.1) 4 q.2.1) 6 q.2.2.1) 7 q.2.2.2.1) 2 q.2.2.2.2.1) 3 q.2.2.2.2.2) g9)), ((a9 2), .inl (cyI, 12, .inl c_cuts)), ((a9 3), .inl (cyI, 56, .inl c_letters)), ((a9 1), .inl (cyI, 240, .inl c_tape))] (va_A [(a9 0, .inr (9, fl9 a9 i9 g9)), ((a9 2), .inl (cyI, 12, .inl c_cuts)), ((a9 3), .inl (cyI, 56, .inl c_letters)), ((a9 1), .inl (cyI, 240, .inl c_tape))] sz)) 0 0 (va_A [(a9 0, .inr (9, fl9 a9 i9 g9)), ((a9 2), .inl (cyI, 12, .inl c_cuts)), ((a9 3), .inl (cyI, 56, .inl c_letters)), ((a9 1), .inl (cyI, 240, .inl c_tape))] sz) := by
  refine Met.ofW (cc := cX9_next) (maxL := 2) (ret := none) (by decide) rfl ?_
  intro p e s m args below meth c s₁ B hml hv
  obtain ⟨rfl, hsz, hP, hK, hD0⟩ := hv
  have hx := B.exec
  have hb := B.bytes
  have hr := B.returns
  have hts := atoms_spec (ws := (wS yX9_next cX9_next 2 none)) B.pre
  have hown : s.vm.findClass RX9 = some m.cls := findClass_of_methodNamed B.named
  have hlocks := B.notSynchronized
  subst hsz
  have hD := hD0.self (sz := s.heap.size)
  refine w_nameQ (fun Q hQ => ?_)
  have hl := lv_entry ([.ref (a9 0)] : List Value) (n := 2) (Nat.le_of_ble_eq_true rfl)
  rw [lg_entry_eq]
  generalize (lg_sl ([.ref (a9 0)] : List Value) ++ List.replicate (2 - (lg_sl ([.ref (a9 0)] : List Value)).length) Slot.unset).toArray = ls at hl ⊢
  have hl : lv_has ls 2 [(0, .ref (a9 0))] := hl
  generalize hAe : va_A [(a9 0, .inr (9, fl9 a9 i9 g9)), ((a9 2), .inl (cyI, 12, .inl c_cuts)), ((a9 3), .inl (cyI, 56, .inl c_letters)), ((a9 1), .inl (cyI, 240, .inl c_tape))] s.heap.size = A at hD hQ
  have hA : ∀ q : Nat, s.heap.size ≤ q → A q := fun q h => by rw [← hAe]; exact Or.inr h
  have hS : va_S A s.heap s.heap [] := va_S.rf
  generalize ([.ref (a9 0)] : List Value).toArray = av at hts hQ ⊢
  have hL : ∀ w ∈ wsL_law, w.before av s = true := fun w h => hts w (List.mem_cons_of_mem _ h)
  have w0 := hL (.fieldLink RX9 113 "LosingLeagueModel" "spot" "I") (hR16 10 rfl)
  have w1 := hL (.constantLong RX9 122 97) (hR17 1 rfl)
  have w2 := hL (.constantLong RX9 124 122) (hR17 2 rfl)
  have w3 := hL (.static yX9_in) (hR8 8 rfl)
  have w4 := hL (.fieldLink RX9 119 "LosingLeagueModel" "token" "I") (hR16 16 rfl)
  have w5 := hL (.fieldLink RX9 103 "LosingLeagueModel" "place" "I") (hR16 17 rfl)
  have w6 := hL (.fieldLink RX9 116 "LosingLeagueModel" "value" "I") (hR17 0 rfl)
  have w7 := hL (.constantLong RX9 134 48) (hR17 3 rfl)
  have w8 := hL (.constantLong RX9 136 57) (hR17 4 rfl)
  have w9 := hL (.fieldLink RX9 100 "LosingLeagueModel" "wrong" "I") (hR16 9 rfl)
  have hB299 : ∀ (v_place : Int32) (v_spot : Int32) (v_token : Int32) (v_value : Int32) (v_wrong : Int32) (v_wrongAt : Int32) (H : Heap) (locs : List Loc) (ls : Array Slot), fX9_next_299 N (i9 0) c_cuts c_letters c_tape v_place v_spot v_token v_value v_wrong v_wrongAt = some q → va_P D vwCl [(a9 0, .inr (9, fl9 a9 (va_up (va_up (va_up (va_up (va_up (va_up i9 5 v_place) 4 v_spot) 6 v_token) 7 v_value) 2 v_wrong) 3 v_wrongAt) g9)), ((a9 2), .inl (cyI, 12, .inl c_cuts)), ((a9 3), .inl (cyI, 56, .inl c_letters)), ((a9 1), .inl (cyI, 240, .inl c_tape))] H → va_D A [(a9 0, .inr (9, fl9 a9 (va_up (va_up (va_up (va_up (va_up (va_up i9 5 v_place) 4 v_spot) 6 v_token) 7 v_value) 2 v_wrong) 3 v_wrongAt) g9)), ((a9 2), .inl (cyI, 12, .inl c_cuts)), ((a9 3), .inl (cyI, 56, .inl c_letters)), ((a9 1), .inl (cyI, 240, .inl c_tape))] → va_S A s.heap H locs → lv_has ls 2 [] → W p l e rmX9_next s m av below meth c H locs 0 0 Q (F0 m 299 ls []) := by
    intro v_place v_spot v_token v_value v_wrong v_wrongAt H locs ls hf hP hD hS hl
    unfold fX9_next_299 at hf
    exact ret_v (q := q) (wp := fun q => [(a9 0, .inr (9, fl9 a9 (va_up (va_up (va_up (va_up (va_up (va_up i9 5 q.1) 4 q.2.1) 6 q.2.2.1) 7 q.2.2.2.1) 2 q.2.2.2.2.1) 3 q.2.2.2.2.2) g9)), ((a9 2), .inl (cyI, 12, .inl c_cuts)), ((a9 3), .inl (cyI, 56, .inl c_letters)), ((a9 1), .inl (cyI, 240, .inl c_tape))]) hQ hf hx hb hr hlocks hP hD hS dX9_next_299
  have hB84 : ∀ (n : Nat), ∀ (v_place : Int32) (v_spot : Int32) (v_token : Int32) (v_value : Int32) (v_wrong : Int32) (v_wrongAt : Int32) (H : Heap) (locs : List Loc) (ls : Array Slot), fX9_next_84 N (i9 0) c_cuts c_letters c_tape n v_place v_spot v_token v_value v_wrong v_wrongAt = some q → va_P D vwCl [(a9 0, .inr (9, fl9 a9 (va_up (va_up (va_up (va_up (va_up (va_up i9 5 v_place) 4 v_spot) 6 v_token) 7 v_value) 2 v_wrong) 3 v_wrongAt) g9)), ((a9 2), .inl (cyI, 12, .inl c_cuts)), ((a9 3), .inl (cyI, 56, .inl c_letters)), ((a9 1), .inl (cyI, 240, .inl c_tape))] H → va_D A [(a9 0, .inr (9, fl9 a9 (va_up (va_up (va_up (va_up (va_up (va_up i9 5 v_place) 4 v_spot) 6 v_token) 7 v_value) 2 v_wrong) 3 v_wrongAt) g9)), ((a9 2), .inl (cyI, 12, .inl c_cuts)), ((a9 3), .inl (cyI, 56, .inl c_letters)), ((a9 1), .inl (cyI, 240, .inl c_tape))] → va_S A s.heap H locs → lv_has ls 2 [(0, .ref (a9 0))] → W p l e rmX9_next s m av below meth c H locs 0 0 Q (F0 m 84 ls []) := by
    intro n
    induction n with
    | zero => intro v_place v_spot v_token v_value v_wrong v_wrongAt H locs ls hf; exact absurd hf (by simp [fX9_next_84])
    | succ n hk84 =>
      intro v_place v_spot v_token v_value v_wrong v_wrongAt H locs ls hf hP hD hS hl
      rw [fX9_next_84] at hf
      refine lv_aload_n hx hb dX9_next_84 rfl (lv_at hl 0 rfl) ?_
      refine lv_aload_n hx hb dX9_next_85 rfl (lv_at hl 0 rfl) ?_
      refine va_get (D := D) (ci := 9) (v := .int v_spot) (C := RX9) (T := TX9) (N := 52) hx hb hL inlX9 hown hK.1 hP 0 rfl rfl 5 (by decide) w0 (fun _ h9 => h9) rfl dX9_next_86 ?_
      obtain ⟨q89, e89, hf⟩ := pb_some hf
      refine cc_i (wc := [(a9 0, .inr (9, fl9 a9 (va_up (va_up (va_up (va_up (va_up (va_up i9 5 v_place) 4 v_spot) 6 v_token) 7 v_value) 2 v_wrong) 3 v_wrongAt) g9)), ((a9 1), .inl (cyI, 240, .inl c_tape))]) (wr := [((a9 2), .inl (cyI, 12, .inl c_cuts)), ((a9 3), .inl (cyI, 56, .inl c_letters))]) (w1 := [(a9 0, .inr (9, fl9 a9 (va_up (va_up (va_up (va_up (va_up (va_up i9 5 v_place) 4 v_spot) 6 v_token) 7 v_value) 2 v_wrong) 3 v_wrongAt) g9)), ((a9 1), .inl (cyI, 240, .inl c_tape))]) (wn := [(a9 0, .inr (9, fl9 a9 (va_up (va_up (va_up (va_up (va_up (va_up i9 5 v_place) 4 v_spot) 6 v_token) 7 v_value) 2 v_wrong) 3 v_wrongAt) g9)), ((a9 2), .inl (cyI, 12, .inl c_cuts)), ((a9 3), .inl (cyI, 56, .inl c_letters)), ((a9 1), .inl (cyI, 240, .inl c_tape))]) hP hD hS hA [0, 3] [1, 2] [2, 0, 1, 3] rfl rfl rfl (by decide) rfl rfl (va_runV (C := RX9) (As := [.int v_spot]) (rest := []) ⟨hx, hb, hml, hown, hL⟩ (mX9_byteAt l D cyI cyJ cyB cyS N H.size a9 (va_up (va_up (va_up (va_up (va_up (va_up i9 5 v_place) 4 v_spot) 6 v_token) 7 v_value) 2 v_wrong) 3 v_wrongAt) g9 c_tape v_spot q89 e89) (cwV 1 hL (gV (hR17 5 rfl) (hR17 6 rfl) (hR17 7 rfl) (hR1 5 rfl) (hR17 8 rfl)) rfl rfl rfl (by decide +kernel) ⟨Nat.le_of_ble_eq_true rfl, Nat.le_of_ble_eq_true rfl⟩) (PP_preV (ci := 9) (q0 := 0) hP hD hK [0, 3] rfl rfl rfl rfl) rfl rfl hl.1 rfl (lv_room (Nat.le_of_ble_eq_true rfl)) dX9_next_89 ⟨Nat.le_of_ble_eq_true rfl, Nat.le_of_ble_eq_true rfl⟩) (fun H locs hP hD hS => ?_)
      refine lv_i2l hx hb dX9_next_92 rfl ?_
      refine lv_ldc2 (v := 97) hx hb hown w1 dX9_next_93 ?_
      refine lv_ldc2 (v := 122) hx hb hown w2 dX9_next_96 ?_
      obtain ⟨q99, e99, hf⟩ := pb_some hf
      refine cc_i (wc := []) (wr := [(a9 0, .inr (9, fl9 a9 (va_up (va_up (va_up (va_up (va_up (va_up i9 5 v_place) 4 v_spot) 6 v_token) 7 v_value) 2 v_wrong) 3 v_wrongAt) g9)), ((a9 2), .inl (cyI, 12, .inl c_cuts)), ((a9 3), .inl (cyI, 56, .inl c_letters)), ((a9 1), .inl (cyI, 240, .inl c_tape))]) (w1 := []) (wn := [(a9 0, .inr (9, fl9 a9 (va_up (va_up (va_up (va_up (va_up (va_up i9 5 v_place) 4 v_spot) 6 v_token) 7 v_value) 2 v_wrong) 3 v_wrongAt) g9)), ((a9 2), .inl (cyI, 12, .inl c_cuts)), ((a9 3), .inl (cyI, 56, .inl c_letters)), ((a9 1), .inl (cyI, 240, .inl c_tape))]) hP hD hS hA [] [0, 1, 2, 3] [0, 1, 2, 3] rfl rfl rfl (by decide) rfl rfl (va_runS (As := [.long ((q89 : Int32).toInt64), .long 97, .long 122]) (rest := []) ⟨hx, hb, hml, hown, hL⟩ (mX9_in l D cyI cyJ cyB cyS N H.size   ((q89 : Int32).toInt64) 97 122 q99 e99) (va_cwS 3 hL (gS (hR8 7 rfl) (hR8 8 rfl) (hR1 5 rfl) (hR8 9 rfl)) rfl rfl rfl (by decide +kernel) ⟨Nat.le_of_ble_eq_true rfl, Nat.le_of_ble_eq_true rfl⟩) (PP_preS hP hD hK [] rfl rfl) rfl rfl hl.1 rfl (lv_room (Nat.le_of_ble_eq_true rfl)) dX9_next_99 ⟨Nat.le_of_ble_eq_true rfl, Nat.le_of_ble_eq_true rfl⟩) (fun H locs hP hD hS => ?_)
      refine lv_if_eq (tgt := 118) hx hb dX9_next_102 (by decide) (fun c102 => ?_) (fun c102 => ?_)
      · have hf := pif_t c102 hf
        refine lv_aload_n hx hb dX9_next_118 rfl (lv_at hl 0 rfl) ?_
        refine lv_iconst (v := 1) hx hb dX9_next_119 (by decide) ?_
        refine va_put (D := D) (ci := 9) (v := .int 1) (ty := .int) (C := RX9) (T := TX9) (N := 52) hx hb hL inlX9 tyX9 tyX9_ok nmX9 hown hK.1 hP hD hS 0 rfl rfl 7 (by decide) w4 (fun _ h9 => h9) rfl (by decide +kernel) rfl rfl (Nat.le_of_ble_eq_true rfl) dX9_next_120 (fun H locs hP hD hS => ?_)
        rw [fl9_s7] at hP hD
        have hP : va_P D vwCl [(a9 0, .inr (9, fl9 a9 (va_up (va_up (va_up (va_up (va_up (va_up (va_up i9 5 v_place) 4 v_spot) 6 v_token) 7 v_value) 2 v_wrong) 3 v_wrongAt) 6 1) g9)), ((a9 2), .inl (cyI, 12, .inl c_cuts)), ((a9 3), .inl (cyI, 56, .inl c_letters)), ((a9 1), .inl (cyI, 240, .inl c_tape))] H := hP
        have hD : va_D A [(a9 0, .inr (9, fl9 a9 (va_up (va_up (va_up (va_up (va_up (va_up (va_up i9 5 v_place) 4 v_spot) 6 v_token) 7 v_value) 2 v_wrong) 3 v_wrongAt) 6 1) g9)), ((a9 2), .inl (cyI, 12, .inl c_cuts)), ((a9 3), .inl (cyI, 56, .inl c_letters)), ((a9 1), .inl (cyI, 240, .inl c_tape))] := hD
        refine lv_aload_n hx hb dX9_next_123 rfl (lv_at hl 0 rfl) ?_
        refine lv_aload_n hx hb dX9_next_124 rfl (lv_at hl 0 rfl) ?_
        refine lv_aload_n hx hb dX9_next_125 rfl (lv_at hl 0 rfl) ?_
        refine va_get (D := D) (ci := 9) (v := .int v_place) (C := RX9) (T := TX9) (N := 52) hx hb hL inlX9 hown hK.1 hP 0 rfl rfl 6 (by decide) w5 (fun _ h9 => h9) rfl dX9_next_126 ?_
        refine lv_aload_n hx hb dX9_next_129 rfl (lv_at hl 0 rfl) ?_
        refine va_get (D := D) (ci := 9) (v := .int v_spot) (C := RX9) (T := TX9) (N := 52) hx hb hL inlX9 hown hK.1 hP 0 rfl rfl 5 (by decide) w0 (fun _ h9 => h9) rfl dX9_next_130 ?_
        obtain ⟨q133, e133, hf⟩ := pb_some hf
        refine cc_i (wc := [(a9 0, .inr (9, fl9 a9 (va_up (va_up (va_up (va_up (va_up (va_up (va_up i9 5 v_place) 4 v_spot) 6 v_token) 7 v_value) 2 v_wrong) 3 v_wrongAt) 6 1) g9)), ((a9 2), .inl (cyI, 12, .inl c_cuts)), ((a9 3), .inl (cyI, 56, .inl c_letters)), ((a9 1), .inl (cyI, 240, .inl c_tape))]) (wr := []) (w1 := [(a9 0, .inr (9, fl9 a9 (va_up (va_up (va_up (va_up (va_up (va_up (va_up i9 5 v_place) 4 v_spot) 6 v_token) 7 v_value) 2 v_wrong) 3 v_wrongAt) 6 1) g9)), ((a9 2), .inl (cyI, 12, .inl c_cuts)), ((a9 3), .inl (cyI, 56, .inl c_letters)), ((a9 1), .inl (cyI, 240, .inl c_tape))]) (wn := [(a9 0, .inr (9, fl9 a9 (va_up (va_up (va_up (va_up (va_up (va_up (va_up i9 5 v_place) 4 v_spot) 6 v_token) 7 v_value) 2 v_wrong) 3 v_wrongAt) 6 1) g9)), ((a9 2), .inl (cyI, 12, .inl c_cuts)), ((a9 3), .inl (cyI, 56, .inl c_letters)), ((a9 1), .inl (cyI, 240, .inl c_tape))]) hP hD hS hA [0, 1, 2, 3] [] [0, 1, 2, 3] rfl rfl rfl (by decide) rfl rfl (va_runV (C := RX9) (As := [.int v_place, .int v_spot]) (rest := [.ref (a9 0)]) ⟨hx, hb, hml, hown, hL⟩ (mX9_nameAt l D cyI cyJ cyB cyS N H.size a9 (va_up (va_up (va_up (va_up (va_up (va_up (va_up i9 5 v_place) 4 v_spot) 6 v_token) 7 v_value) 2 v_wrong) 3 v_wrongAt) 6 1) g9 c_cuts c_letters c_tape v_place v_spot q133 e133) (cwV 2 hL (gV (hR17 9 rfl) (hR17 10 rfl) (hR17 11 rfl) (hR1 5 rfl) (hR17 12 rfl)) rfl rfl rfl (by decide +kernel) ⟨Nat.le_of_ble_eq_true rfl, Nat.le_of_ble_eq_true rfl⟩) (PP_preV (ci := 9) (q0 := 0) hP hD hK [0, 1, 2, 3] rfl rfl rfl rfl) rfl rfl hl.1 rfl (lv_room (Nat.le_of_ble_eq_true rfl)) dX9_next_133 ⟨Nat.le_of_ble_eq_true rfl, Nat.le_of_ble_eq_true rfl⟩) (fun H locs hP hD hS => ?_)
        refine va_put (D := D) (ci := 9) (v := .int q133) (ty := .int) (C := RX9) (T := TX9) (N := 52) hx hb hL inlX9 tyX9 tyX9_ok nmX9 hown hK.1 hP hD hS 0 rfl rfl 8 (by decide) w6 (fun _ h9 => h9) rfl (by decide +kernel) rfl rfl (Nat.le_of_ble_eq_true rfl) dX9_next_136 (fun H locs hP hD hS => ?_)
        rw [fl9_s8] at hP hD
        have hP : va_P D vwCl [(a9 0, .inr (9, fl9 a9 (va_up (va_up (va_up (va_up (va_up (va_up (va_up (va_up i9 5 v_place) 4 v_spot) 6 v_token) 7 v_value) 2 v_wrong) 3 v_wrongAt) 6 1) 7 q133) g9)), ((a9 2), .inl (cyI, 12, .inl c_cuts)), ((a9 3), .inl (cyI, 56, .inl c_letters)), ((a9 1), .inl (cyI, 240, .inl c_tape))] H := hP
        have hD : va_D A [(a9 0, .inr (9, fl9 a9 (va_up (va_up (va_up (va_up (va_up (va_up (va_up (va_up i9 5 v_place) 4 v_spot) 6 v_token) 7 v_value) 2 v_wrong) 3 v_wrongAt) 6 1) 7 q133) g9)), ((a9 2), .inl (cyI, 12, .inl c_cuts)), ((a9 3), .inl (cyI, 56, .inl c_letters)), ((a9 1), .inl (cyI, 240, .inl c_tape))] := hD
        refine lv_aload_n hx hb dX9_next_139 rfl (lv_at hl 0 rfl) ?_
        refine va_get (D := D) (ci := 9) (v := .int q133) (C := RX9) (T := TX9) (N := 52) hx hb hL inlX9 hown hK.1 hP 0 rfl rfl 8 (by decide) w6 (fun _ h9 => h9) rfl dX9_next_140 ?_
        refine lv_bipush (v := (-4)) hx hb dX9_next_143 (by decide) ?_
        refine lv_icmp_ne (tgt := 299) hx hb dX9_next_145 (by decide) (fun c145 => ?_) (fun c145 => ?_)
        · have hf := pif_f c145 hf
          exact hB299 v_place v_spot 1 q133 v_wrong v_wrongAt H locs ls hf hP hD hS (lv_sub hl [] rfl)
        · have hf := pif_t c145 hf
          refine lv_aload_n hx hb dX9_next_148 rfl (lv_at hl 0 rfl) ?_
          refine lv_iconst (v := 1) hx hb dX9_next_149 (by decide) ?_
          obtain ⟨q150, e150, hf⟩ := pb_some hf
          refine cc_v (wc := [(a9 0, .inr (9, fl9 a9 (va_up (va_up (va_up (va_up (va_up (va_up (va_up (va_up i9 5 v_place) 4 v_spot) 6 v_token) 7 v_value) 2 v_wrong) 3 v_wrongAt) 6 1) 7 q133) g9))]) (wr := [((a9 2), .inl (cyI, 12, .inl c_cuts)), ((a9 3), .inl (cyI, 56, .inl c_letters)), ((a9 1), .inl (cyI, 240, .inl c_tape))]) (w1 := [(a9 0, .inr (9, fl9 a9 (va_up (va_up (va_up (va_up (va_up (va_up (va_up (va_up (va_up (va_up i9 5 v_place) 4 v_spot) 6 v_token) 7 v_value) 2 v_wrong) 3 v_wrongAt) 6 1) 7 q133) 2 q150.1) 3 q150.2) g9))]) (wn := [(a9 0, .inr (9, fl9 a9 (va_up (va_up (va_up (va_up (va_up (va_up (va_up (va_up (va_up (va_up i9 5 v_place) 4 v_spot) 6 v_token) 7 v_value) 2 v_wrong) 3 v_wrongAt) 6 1) 7 q133) 2 q150.1) 3 q150.2) g9)), ((a9 2), .inl (cyI, 12, .inl c_cuts)), ((a9 3), .inl (cyI, 56, .inl c_letters)), ((a9 1), .inl (cyI, 240, .inl c_tape))]) hP hD hS hA [0] [1, 2, 3] [3, 0, 1, 2] rfl rfl rfl (by decide) rfl rfl (va_runV (C := RX9) (As := [.int 1]) (rest := []) ⟨hx, hb, hml, hown, hL⟩ (mX9_fails l D cyI cyJ cyB cyS N H.size a9 (va_up (va_up (va_up (va_up (va_up (va_up (va_up (va_up i9 5 v_place) 4 v_spot) 6 v_token) 7 v_value) 2 v_wrong) 3 v_wrongAt) 6 1) 7 q133) g9  1 q150 e150) (cwV 1 hL (gV (hR17 13 rfl) (hR17 14 rfl) (hR17 15 rfl) (hR1 5 rfl) (hR17 16 rfl)) rfl rfl rfl (by decide +kernel) ⟨Nat.le_of_ble_eq_true rfl, Nat.le_of_ble_eq_true rfl⟩) (PP_preV (ci := 9) (q0 := 0) hP hD hK [0] rfl rfl rfl rfl) rfl rfl hl.1 rfl (lv_room (Nat.le_of_ble_eq_true rfl)) dX9_next_150 ⟨Nat.le_of_ble_eq_true rfl, Nat.le_of_ble_eq_true rfl⟩) (fun H locs hP hD hS => ?_)
          refine lv_goto (tgt := 299) hx hb dX9_next_153 (by decide) ?_
          exact hB299 v_place v_spot 1 q133 q150.1 q150.2 H locs ls hf hP hD hS (lv_sub hl [] rfl)
      · have hf := pif_f c102 hf
        refine lv_aload_n hx hb dX9_next_105 rfl (lv_at hl 0 rfl) ?_
        refine lv_dup hx hb dX9_next_106 rfl ?_
        refine va_get (D := D) (ci := 9) (v := .int v_spot) (C := RX9) (T := TX9) (N := 52) hx hb hL inlX9 hown hK.1 hP 0 rfl rfl 5 (by decide) w0 (fun _ h9 => h9) rfl dX9_next_107 ?_
        refine lv_iconst (v := 1) hx hb dX9_next_110 (by decide) ?_
        refine lv_iadd hx hb dX9_next_111 ?_
        refine va_put (D := D) (ci := 9) (v := .int (v_spot + 1)) (ty := .int) (C := RX9) (T := TX9) (N := 52) hx hb hL inlX9 tyX9 tyX9_ok nmX9 hown hK.1 hP hD hS 0 rfl rfl 5 (by decide) w0 (fun _ h9 => h9) rfl (by decide +kernel) rfl rfl (Nat.le_of_ble_eq_true rfl) dX9_next_112 (fun H locs hP hD hS => ?_)
        rw [fl9_s5] at hP hD
        have hP : va_P D vwCl [(a9 0, .inr (9, fl9 a9 (va_up (va_up (va_up (va_up (va_up (va_up (va_up i9 5 v_place) 4 v_spot) 6 v_token) 7 v_value) 2 v_wrong) 3 v_wrongAt) 4 (v_spot + 1)) g9)), ((a9 2), .inl (cyI, 12, .inl c_cuts)), ((a9 3), .inl (cyI, 56, .inl c_letters)), ((a9 1), .inl (cyI, 240, .inl c_tape))] H := hP
        have hD : va_D A [(a9 0, .inr (9, fl9 a9 (va_up (va_up (va_up (va_up (va_up (va_up (va_up i9 5 v_place) 4 v_spot) 6 v_token) 7 v_value) 2 v_wrong) 3 v_wrongAt) 4 (v_spot + 1)) g9)), ((a9 2), .inl (cyI, 12, .inl c_cuts)), ((a9 3), .inl (cyI, 56, .inl c_letters)), ((a9 1), .inl (cyI, 240, .inl c_tape))] := hD
        refine lv_goto (tgt := 84) hx hb dX9_next_115 (by decide) ?_
        exact hk84 v_place (v_spot + 1) v_token v_value v_wrong v_wrongAt H locs ls hf hP hD hS (lv_sub hl [0] rfl)
  have hB231 : ∀ (k170 : Int32 → Int32 → Int32 → Int32 → Int32 → Int32 → Option (Int32 × Int32 × Int32 × Int32 × Int32 × Int32)) (hk170 : ∀ (v_place : Int32) (v_spot : Int32) (v_token : Int32) (v_value : Int32) (v_wrong : Int32) (v_wrongAt : Int32) (H : Heap) (locs : List Loc) (ls : Array Slot), k170 v_place v_spot v_token v_value v_wrong v_wrongAt = some q → va_P D vwCl [(a9 0, .inr (9, fl9 a9 (va_up (va_up (va_up (va_up (va_up (va_up i9 5 v_place) 4 v_spot) 6 v_token) 7 v_value) 2 v_wrong) 3 v_wrongAt) g9)), ((a9 2), .inl (cyI, 12, .inl c_cuts)), ((a9 3), .inl (cyI, 56, .inl c_letters)), ((a9 1), .inl (cyI, 240, .inl c_tape))] H → va_D A [(a9 0, .inr (9, fl9 a9 (va_up (va_up (va_up (va_up (va_up (va_up i9 5 v_place) 4 v_spot) 6 v_token) 7 v_value) 2 v_wrong) 3 v_wrongAt) g9)), ((a9 2), .inl (cyI, 12, .inl c_cuts)), ((a9 3), .inl (cyI, 56, .inl c_letters)), ((a9 1), .inl (cyI, 240, .inl c_tape))] → va_S A s.heap H locs → lv_has ls 2 [(0, .ref (a9 0))] → W p l e rmX9_next s m av below meth c H locs 0 0 Q (F0 m 170 ls [])), ∀ (s1 : Int32) (v_place : Int32) (v_spot : Int32) (v_token : Int32) (v_value : Int32) (v_wrong : Int32) (v_wrongAt : Int32) (H : Heap) (locs : List Loc) (ls : Array Slot), fX9_next_231 N (i9 0) c_cuts c_letters c_tape k170 s1 v_place v_spot v_token v_value v_wrong v_wrongAt = some q → va_P D vwCl [(a9 0, .inr (9, fl9 a9 (va_up (va_up (va_up (va_up (va_up (va_up i9 5 v_place) 4 v_spot) 6 v_token) 7 v_value) 2 v_wrong) 3 v_wrongAt) g9)), ((a9 2), .inl (cyI, 12, .inl c_cuts)), ((a9 3), .inl (cyI, 56, .inl c_letters)), ((a9 1), .inl (cyI, 240, .inl c_tape))] H → va_D A [(a9 0, .inr (9, fl9 a9 (va_up (va_up (va_up (va_up (va_up (va_up i9 5 v_place) 4 v_spot) 6 v_token) 7 v_value) 2 v_wrong) 3 v_wrongAt) g9)), ((a9 2), .inl (cyI, 12, .inl c_cuts)), ((a9 3), .inl (cyI, 56, .inl c_letters)), ((a9 1), .inl (cyI, 240, .inl c_tape))] → va_S A s.heap H locs → lv_has ls 2 [(0, .ref (a9 0))] → W p l e rmX9_next s m av below meth c H locs 0 0 Q (F0 m 231 ls [.int s1, .ref (a9 0)]) := by
    intro k170 hk170 s1 v_place v_spot v_token v_value v_wrong v_wrongAt H locs ls hf hP hD hS hl
    unfold fX9_next_231 at hf
    refine va_put (D := D) (ci := 9) (v := .int s1) (ty := .int) (C := RX9) (T := TX9) (N := 52) hx hb hL inlX9 tyX9 tyX9_ok nmX9 hown hK.1 hP hD hS 0 rfl rfl 8 (by decide) w6 (fun _ h9 => h9) rfl (by decide +kernel) rfl rfl (Nat.le_of_ble_eq_true rfl) dX9_next_231 (fun H locs hP hD hS => ?_)
    rw [fl9_s8] at hP hD
    have hP : va_P D vwCl [(a9 0, .inr (9, fl9 a9 (va_up (va_up (va_up (va_up (va_up (va_up (va_up i9 5 v_place) 4 v_spot) 6 v_token) 7 v_value) 2 v_wrong) 3 v_wrongAt) 7 s1) g9)), ((a9 2), .inl (cyI, 12, .inl c_cuts)), ((a9 3), .inl (cyI, 56, .inl c_letters)), ((a9 1), .inl (cyI, 240, .inl c_tape))] H := hP
    have hD : va_D A [(a9 0, .inr (9, fl9 a9 (va_up (va_up (va_up (va_up (va_up (va_up (va_up i9 5 v_place) 4 v_spot) 6 v_token) 7 v_value) 2 v_wrong) 3 v_wrongAt) 7 s1) g9)), ((a9 2), .inl (cyI, 12, .inl c_cuts)), ((a9 3), .inl (cyI, 56, .inl c_letters)), ((a9 1), .inl (cyI, 240, .inl c_tape))] := hD
    refine lv_aload_n hx hb dX9_next_234 rfl (lv_at hl 0 rfl) ?_
    refine lv_dup hx hb dX9_next_235 rfl ?_
    refine va_get (D := D) (ci := 9) (v := .int v_spot) (C := RX9) (T := TX9) (N := 52) hx hb hL inlX9 hown hK.1 hP 0 rfl rfl 5 (by decide) w0 (fun _ h9 => h9) rfl dX9_next_236 ?_
    refine lv_iconst (v := 1) hx hb dX9_next_239 (by decide) ?_
    refine lv_iadd hx hb dX9_next_240 ?_
    refine va_put (D := D) (ci := 9) (v := .int (v_spot + 1)) (ty := .int) (C := RX9) (T := TX9) (N := 52) hx hb hL inlX9 tyX9 tyX9_ok nmX9 hown hK.1 hP hD hS 0 rfl rfl 5 (by decide) w0 (fun _ h9 => h9) rfl (by decide +kernel) rfl rfl (Nat.le_of_ble_eq_true rfl) dX9_next_241 (fun H locs hP hD hS => ?_)
    rw [fl9_s5] at hP hD
    have hP : va_P D vwCl [(a9 0, .inr (9, fl9 a9 (va_up (va_up (va_up (va_up (va_up (va_up (va_up (va_up i9 5 v_place) 4 v_spot) 6 v_token) 7 v_value) 2 v_wrong) 3 v_wrongAt) 7 s1) 4 (v_spot + 1)) g9)), ((a9 2), .inl (cyI, 12, .inl c_cuts)), ((a9 3), .inl (cyI, 56, .inl c_letters)), ((a9 1), .inl (cyI, 240, .inl c_tape))] H := hP
    have hD : va_D A [(a9 0, .inr (9, fl9 a9 (va_up (va_up (va_up (va_up (va_up (va_up (va_up (va_up i9 5 v_place) 4 v_spot) 6 v_token) 7 v_value) 2 v_wrong) 3 v_wrongAt) 7 s1) 4 (v_spot + 1)) g9)), ((a9 2), .inl (cyI, 12, .inl c_cuts)), ((a9 3), .inl (cyI, 56, .inl c_letters)), ((a9 1), .inl (cyI, 240, .inl c_tape))] := hD
    refine lv_goto (tgt := 170) hx hb dX9_next_244 (by decide) ?_
    exact hk170 v_place (v_spot + 1) v_token s1 v_wrong v_wrongAt H locs ls hf hP hD hS (lv_sub hl [0] rfl)
  have hB170 : ∀ (n : Nat), ∀ (v_place : Int32) (v_spot : Int32) (v_token : Int32) (v_value : Int32) (v_wrong : Int32) (v_wrongAt : Int32) (H : Heap) (locs : List Loc) (ls : Array Slot), fX9_next_170 N (i9 0) c_cuts c_letters c_tape n v_place v_spot v_token v_value v_wrong v_wrongAt = some q → va_P D vwCl [(a9 0, .inr (9, fl9 a9 (va_up (va_up (va_up (va_up (va_up (va_up i9 5 v_place) 4 v_spot) 6 v_token) 7 v_value) 2 v_wrong) 3 v_wrongAt) g9)), ((a9 2), .inl (cyI, 12, .inl c_cuts)), ((a9 3), .inl (cyI, 56, .inl c_letters)), ((a9 1), .inl (cyI, 240, .inl c_tape))] H → va_D A [(a9 0, .inr (9, fl9 a9 (va_up (va_up (va_up (va_up (va_up (va_up i9 5 v_place) 4 v_spot) 6 v_token) 7 v_value) 2 v_wrong) 3 v_wrongAt) g9)), ((a9 2), .inl (cyI, 12, .inl c_cuts)), ((a9 3), .inl (cyI, 56, .inl c_letters)), ((a9 1), .inl (cyI, 240, .inl c_tape))] → va_S A s.heap H locs → lv_has ls 2 [(0, .ref (a9 0))] → W p l e rmX9_next s m av below meth c H locs 0 0 Q (F0 m 170 ls []) := by
    intro n
    induction n with
    | zero => intro v_place v_spot v_token v_value v_wrong v_wrongAt H locs ls hf; exact absurd hf (by simp [fX9_next_170])
    | succ n hk170 =>
      intro v_place v_spot v_token v_value v_wrong v_wrongAt H locs ls hf hP hD hS hl
      rw [fX9_next_170] at hf
      refine lv_aload_n hx hb dX9_next_170 rfl (lv_at hl 0 rfl) ?_
      refine lv_aload_n hx hb dX9_next_171 rfl (lv_at hl 0 rfl) ?_
      refine va_get (D := D) (ci := 9) (v := .int v_spot) (C := RX9) (T := TX9) (N := 52) hx hb hL inlX9 hown hK.1 hP 0 rfl rfl 5 (by decide) w0 (fun _ h9 => h9) rfl dX9_next_172 ?_
      obtain ⟨q175, e175, hf⟩ := pb_some hf
      refine cc_i (wc := [(a9 0, .inr (9, fl9 a9 (va_up (va_up (va_up (va_up (va_up (va_up i9 5 v_place) 4 v_spot) 6 v_token) 7 v_value) 2 v_wrong) 3 v_wrongAt) g9)), ((a9 1), .inl (cyI, 240, .inl c_tape))]) (wr := [((a9 2), .inl (cyI, 12, .inl c_cuts)), ((a9 3), .inl (cyI, 56, .inl c_letters))]) (w1 := [(a9 0, .inr (9, fl9 a9 (va_up (va_up (va_up (va_up (va_up (va_up i9 5 v_place) 4 v_spot) 6 v_token) 7 v_value) 2 v_wrong) 3 v_wrongAt) g9)), ((a9 1), .inl (cyI, 240, .inl c_tape))]) (wn := [(a9 0, .inr (9, fl9 a9 (va_up (va_up (va_up (va_up (va_up (va_up i9 5 v_place) 4 v_spot) 6 v_token) 7 v_value) 2 v_wrong) 3 v_wrongAt) g9)), ((a9 2), .inl (cyI, 12, .inl c_cuts)), ((a9 3), .inl (cyI, 56, .inl c_letters)), ((a9 1), .inl (cyI, 240, .inl c_tape))]) hP hD hS hA [0, 3] [1, 2] [2, 0, 1, 3] rfl rfl rfl (by decide) rfl rfl (va_runV (C := RX9) (As := [.int v_spot]) (rest := []) ⟨hx, hb, hml, hown, hL⟩ (mX9_byteAt l D cyI cyJ cyB cyS N H.size a9 (va_up (va_up (va_up (va_up (va_up (va_up i9 5 v_place) 4 v_spot) 6 v_token) 7 v_value) 2 v_wrong) 3 v_wrongAt) g9 c_tape v_spot q175 e175) (cwV 1 hL (gV (hR17 5 rfl) (hR17 6 rfl) (hR17 7 rfl) (hR1 5 rfl) (hR17 8 rfl)) rfl rfl rfl (by decide +kernel) ⟨Nat.le_of_ble_eq_true rfl, Nat.le_of_ble_eq_true rfl⟩) (PP_preV (ci := 9) (q0 := 0) hP hD hK [0, 3] rfl rfl rfl rfl) rfl rfl hl.1 rfl (lv_room (Nat.le_of_ble_eq_true rfl)) dX9_next_175 ⟨Nat.le_of_ble_eq_true rfl, Nat.le_of_ble_eq_true rfl⟩) (fun H locs hP hD hS => ?_)
      refine lv_i2l hx hb dX9_next_178 rfl ?_
      refine lv_ldc2 (v := 48) hx hb hown w7 dX9_next_179 ?_
      refine lv_ldc2 (v := 57) hx hb hown w8 dX9_next_182 ?_
      obtain ⟨q185, e185, hf⟩ := pb_some hf
      refine cc_i (wc := []) (wr := [(a9 0, .inr (9, fl9 a9 (va_up (va_up (va_up (va_up (va_up (va_up i9 5 v_place) 4 v_spot) 6 v_token) 7 v_value) 2 v_wrong) 3 v_wrongAt) g9)), ((a9 2), .inl (cyI, 12, .inl c_cuts)), ((a9 3), .inl (cyI, 56, .inl c_letters)), ((a9 1), .inl (cyI, 240, .inl c_tape))]) (w1 := []) (wn := [(a9 0, .inr (9, fl9 a9 (va_up (va_up (va_up (va_up (va_up (va_up i9 5 v_place) 4 v_spot) 6 v_token) 7 v_value) 2 v_wrong) 3 v_wrongAt) g9)), ((a9 2), .inl (cyI, 12, .inl c_cuts)), ((a9 3), .inl (cyI, 56, .inl c_letters)), ((a9 1), .inl (cyI, 240, .inl c_tape))]) hP hD hS hA [] [0, 1, 2, 3] [0, 1, 2, 3] rfl rfl rfl (by decide) rfl rfl (va_runS (As := [.long ((q175 : Int32).toInt64), .long 48, .long 57]) (rest := []) ⟨hx, hb, hml, hown, hL⟩ (mX9_in l D cyI cyJ cyB cyS N H.size   ((q175 : Int32).toInt64) 48 57 q185 e185) (va_cwS 3 hL (gS (hR8 7 rfl) (hR8 8 rfl) (hR1 5 rfl) (hR8 9 rfl)) rfl rfl rfl (by decide +kernel) ⟨Nat.le_of_ble_eq_true rfl, Nat.le_of_ble_eq_true rfl⟩) (PP_preS hP hD hK [] rfl rfl) rfl rfl hl.1 rfl (lv_room (Nat.le_of_ble_eq_true rfl)) dX9_next_185 ⟨Nat.le_of_ble_eq_true rfl, Nat.le_of_ble_eq_true rfl⟩) (fun H locs hP hD hS => ?_)
      refine lv_if_eq (tgt := 247) hx hb dX9_next_188 (by decide) (fun c188 => ?_) (fun c188 => ?_)
      · have hf := pif_t c188 hf
        refine lv_aload_n hx hb dX9_next_247 rfl (lv_at hl 0 rfl) ?_
        refine lv_iconst (v := 2) hx hb dX9_next_248 (by decide) ?_
        refine va_put (D := D) (ci := 9) (v := .int 2) (ty := .int) (C := RX9) (T := TX9) (N := 52) hx hb hL inlX9 tyX9 tyX9_ok nmX9 hown hK.1 hP hD hS 0 rfl rfl 7 (by decide) w4 (fun _ h9 => h9) rfl (by decide +kernel) rfl rfl (Nat.le_of_ble_eq_true rfl) dX9_next_249 (fun H locs hP hD hS => ?_)
        rw [fl9_s7] at hP hD
        have hP : va_P D vwCl [(a9 0, .inr (9, fl9 a9 (va_up (va_up (va_up (va_up (va_up (va_up (va_up i9 5 v_place) 4 v_spot) 6 v_token) 7 v_value) 2 v_wrong) 3 v_wrongAt) 6 2) g9)), ((a9 2), .inl (cyI, 12, .inl c_cuts)), ((a9 3), .inl (cyI, 56, .inl c_letters)), ((a9 1), .inl (cyI, 240, .inl c_tape))] H := hP
        have hD : va_D A [(a9 0, .inr (9, fl9 a9 (va_up (va_up (va_up (va_up (va_up (va_up (va_up i9 5 v_place) 4 v_spot) 6 v_token) 7 v_value) 2 v_wrong) 3 v_wrongAt) 6 2) g9)), ((a9 2), .inl (cyI, 12, .inl c_cuts)), ((a9 3), .inl (cyI, 56, .inl c_letters)), ((a9 1), .inl (cyI, 240, .inl c_tape))] := hD
        refine lv_aload_n hx hb dX9_next_252 rfl (lv_at hl 0 rfl) ?_
        refine va_get (D := D) (ci := 9) (v := .int v_spot) (C := RX9) (T := TX9) (N := 52) hx hb hL inlX9 hown hK.1 hP 0 rfl rfl 5 (by decide) w0 (fun _ h9 => h9) rfl dX9_next_253 ?_
        refine lv_aload_n hx hb dX9_next_256 rfl (lv_at hl 0 rfl) ?_
        refine va_get (D := D) (ci := 9) (v := .int v_place) (C := RX9) (T := TX9) (N := 52) hx hb hL inlX9 hown hK.1 hP 0 rfl rfl 6 (by decide) w5 (fun _ h9 => h9) rfl dX9_next_257 ?_
        refine lv_isub hx hb dX9_next_260 ?_
        refine lv_iconst (v := 2) hx hb dX9_next_261 (by decide) ?_
        refine lv_icmp_le (tgt := 299) hx hb dX9_next_262 (by decide) (fun c262 => ?_) (fun c262 => ?_)
        · have hf := pif_t c262 hf
          exact hB299 v_place v_spot 2 v_value v_wrong v_wrongAt H locs ls hf hP hD hS (lv_sub hl [] rfl)
        · have hf := pif_f c262 hf
          refine lv_aload_n hx hb dX9_next_265 rfl (lv_at hl 0 rfl) ?_
          refine lv_iconst (v := 1) hx hb dX9_next_266 (by decide) ?_
          obtain ⟨q267, e267, hf⟩ := pb_some hf
          refine cc_v (wc := [(a9 0, .inr (9, fl9 a9 (va_up (va_up (va_up (va_up (va_up (va_up (va_up i9 5 v_place) 4 v_spot) 6 v_token) 7 v_value) 2 v_wrong) 3 v_wrongAt) 6 2) g9))]) (wr := [((a9 2), .inl (cyI, 12, .inl c_cuts)), ((a9 3), .inl (cyI, 56, .inl c_letters)), ((a9 1), .inl (cyI, 240, .inl c_tape))]) (w1 := [(a9 0, .inr (9, fl9 a9 (va_up (va_up (va_up (va_up (va_up (va_up (va_up (va_up (va_up i9 5 v_place) 4 v_spot) 6 v_token) 7 v_value) 2 v_wrong) 3 v_wrongAt) 6 2) 2 q267.1) 3 q267.2) g9))]) (wn := [(a9 0, .inr (9, fl9 a9 (va_up (va_up (va_up (va_up (va_up (va_up (va_up (va_up (va_up i9 5 v_place) 4 v_spot) 6 v_token) 7 v_value) 2 v_wrong) 3 v_wrongAt) 6 2) 2 q267.1) 3 q267.2) g9)), ((a9 2), .inl (cyI, 12, .inl c_cuts)), ((a9 3), .inl (cyI, 56, .inl c_letters)), ((a9 1), .inl (cyI, 240, .inl c_tape))]) hP hD hS hA [0] [1, 2, 3] [3, 0, 1, 2] rfl rfl rfl (by decide) rfl rfl (va_runV (C := RX9) (As := [.int 1]) (rest := []) ⟨hx, hb, hml, hown, hL⟩ (mX9_fails l D cyI cyJ cyB cyS N H.size a9 (va_up (va_up (va_up (va_up (va_up (va_up (va_up i9 5 v_place) 4 v_spot) 6 v_token) 7 v_value) 2 v_wrong) 3 v_wrongAt) 6 2) g9  1 q267 e267) (cwV 1 hL (gV (hR17 13 rfl) (hR17 14 rfl) (hR17 15 rfl) (hR1 5 rfl) (hR17 16 rfl)) rfl rfl rfl (by decide +kernel) ⟨Nat.le_of_ble_eq_true rfl, Nat.le_of_ble_eq_true rfl⟩) (PP_preV (ci := 9) (q0 := 0) hP hD hK [0] rfl rfl rfl rfl) rfl rfl hl.1 rfl (lv_room (Nat.le_of_ble_eq_true rfl)) dX9_next_267 ⟨Nat.le_of_ble_eq_true rfl, Nat.le_of_ble_eq_true rfl⟩) (fun H locs hP hD hS => ?_)
          refine lv_goto (tgt := 299) hx hb dX9_next_270 (by decide) ?_
          exact hB299 v_place v_spot 2 v_value q267.1 q267.2 H locs ls hf hP hD hS (lv_sub hl [] rfl)
      · have hf := pif_f c188 hf
        refine lv_aload_n hx hb dX9_next_191 rfl (lv_at hl 0 rfl) ?_
        refine lv_aload_n hx hb dX9_next_192 rfl (lv_at hl 0 rfl) ?_
        refine va_get (D := D) (ci := 9) (v := .int v_spot) (C := RX9) (T := TX9) (N := 52) hx hb hL inlX9 hown hK.1 hP 0 rfl rfl 5 (by decide) w0 (fun _ h9 => h9) rfl dX9_next_193 ?_
        refine lv_aload_n hx hb dX9_next_196 rfl (lv_at hl 0 rfl) ?_
        refine va_get (D := D) (ci := 9) (v := .int v_place) (C := RX9) (T := TX9) (N := 52) hx hb hL inlX9 hown hK.1 hP 0 rfl rfl 6 (by decide) w5 (fun _ h9 => h9) rfl dX9_next_197 ?_
        refine lv_isub hx hb dX9_next_200 ?_
        refine lv_iconst (v := 2) hx hb dX9_next_201 (by decide) ?_
        refine lv_icmp_ge (tgt := 227) hx hb dX9_next_202 (by decide) (fun c202 => ?_) (fun c202 => ?_)
        · have hf := pif_t c202 hf
          refine lv_aload_n hx hb dX9_next_227 rfl (lv_at hl 0 rfl) ?_
          refine va_get (D := D) (ci := 9) (v := .int v_value) (C := RX9) (T := TX9) (N := 52) hx hb hL inlX9 hown hK.1 hP 0 rfl rfl 8 (by decide) w6 (fun _ h9 => h9) rfl dX9_next_228 ?_
          exact hB231 (fX9_next_170 N (i9 0) c_cuts c_letters c_tape n) hk170 v_value v_place v_spot v_token v_value v_wrong v_wrongAt H locs ls hf hP hD hS (lv_sub hl [0] rfl)
        · have hf := pif_f c202 hf
          refine lv_bipush (v := 10) hx hb dX9_next_205 (by decide) ?_
          refine lv_aload_n hx hb dX9_next_207 rfl (lv_at hl 0 rfl) ?_
          refine va_get (D := D) (ci := 9) (v := .int v_value) (C := RX9) (T := TX9) (N := 52) hx hb hL inlX9 hown hK.1 hP 0 rfl rfl 8 (by decide) w6 (fun _ h9 => h9) rfl dX9_next_208 ?_
          refine lv_imul hx hb dX9_next_211 ?_
          refine lv_aload_n hx hb dX9_next_212 rfl (lv_at hl 0 rfl) ?_
          refine lv_aload_n hx hb dX9_next_213 rfl (lv_at hl 0 rfl) ?_
          refine va_get (D := D) (ci := 9) (v := .int v_spot) (C := RX9) (T := TX9) (N := 52) hx hb hL inlX9 hown hK.1 hP 0 rfl rfl 5 (by decide) w0 (fun _ h9 => h9) rfl dX9_next_214 ?_
          obtain ⟨q217, e217, hf⟩ := pb_some hf
          refine cc_i (wc := [(a9 0, .inr (9, fl9 a9 (va_up (va_up (va_up (va_up (va_up (va_up i9 5 v_place) 4 v_spot) 6 v_token) 7 v_value) 2 v_wrong) 3 v_wrongAt) g9)), ((a9 1), .inl (cyI, 240, .inl c_tape))]) (wr := [((a9 2), .inl (cyI, 12, .inl c_cuts)), ((a9 3), .inl (cyI, 56, .inl c_letters))]) (w1 := [(a9 0, .inr (9, fl9 a9 (va_up (va_up (va_up (va_up (va_up (va_up i9 5 v_place) 4 v_spot) 6 v_token) 7 v_value) 2 v_wrong) 3 v_wrongAt) g9)), ((a9 1), .inl (cyI, 240, .inl c_tape))]) (wn := [(a9 0, .inr (9, fl9 a9 (va_up (va_up (va_up (va_up (va_up (va_up i9 5 v_place) 4 v_spot) 6 v_token) 7 v_value) 2 v_wrong) 3 v_wrongAt) g9)), ((a9 2), .inl (cyI, 12, .inl c_cuts)), ((a9 3), .inl (cyI, 56, .inl c_letters)), ((a9 1), .inl (cyI, 240, .inl c_tape))]) hP hD hS hA [0, 3] [1, 2] [2, 0, 1, 3] rfl rfl rfl (by decide) rfl rfl (va_runV (C := RX9) (As := [.int v_spot]) (rest := [.int (10 * v_value), .ref (a9 0)]) ⟨hx, hb, hml, hown, hL⟩ (mX9_byteAt l D cyI cyJ cyB cyS N H.size a9 (va_up (va_up (va_up (va_up (va_up (va_up i9 5 v_place) 4 v_spot) 6 v_token) 7 v_value) 2 v_wrong) 3 v_wrongAt) g9 c_tape v_spot q217 e217) (cwV 1 hL (gV (hR17 5 rfl) (hR17 6 rfl) (hR17 7 rfl) (hR1 5 rfl) (hR17 8 rfl)) rfl rfl rfl (by decide +kernel) ⟨Nat.le_of_ble_eq_true rfl, Nat.le_of_ble_eq_true rfl⟩) (PP_preV (ci := 9) (q0 := 0) hP hD hK [0, 3] rfl rfl rfl rfl) rfl rfl hl.1 rfl (lv_room (Nat.le_of_ble_eq_true rfl)) dX9_next_217 ⟨Nat.le_of_ble_eq_true rfl, Nat.le_of_ble_eq_true rfl⟩) (fun H locs hP hD hS => ?_)
          refine lv_iadd hx hb dX9_next_220 ?_
          refine lv_bipush (v := 48) hx hb dX9_next_221 (by decide) ?_
          refine lv_isub hx hb dX9_next_223 ?_
          refine lv_goto (tgt := 231) hx hb dX9_next_224 (by decide) ?_
          exact hB231 (fX9_next_170 N (i9 0) c_cuts c_letters c_tape n) hk170 (((10 * v_value) + q217) - 48) v_place v_spot v_token v_value v_wrong v_wrongAt H locs ls hf hP hD hS (lv_sub hl [0] rfl)
  have hB8 : ∀ (n : Nat), ∀ (v_place : Int32) (v_spot : Int32) (v_token : Int32) (v_value : Int32) (v_wrong : Int32) (v_wrongAt : Int32) (H : Heap) (locs : List Loc) (ls : Array Slot), fX9_next_8 N (i9 0) c_cuts c_letters c_tape n v_place v_spot v_token v_value v_wrong v_wrongAt = some q → va_P D vwCl [(a9 0, .inr (9, fl9 a9 (va_up (va_up (va_up (va_up (va_up (va_up i9 5 v_place) 4 v_spot) 6 v_token) 7 v_value) 2 v_wrong) 3 v_wrongAt) g9)), ((a9 2), .inl (cyI, 12, .inl c_cuts)), ((a9 3), .inl (cyI, 56, .inl c_letters)), ((a9 1), .inl (cyI, 240, .inl c_tape))] H → va_D A [(a9 0, .inr (9, fl9 a9 (va_up (va_up (va_up (va_up (va_up (va_up i9 5 v_place) 4 v_spot) 6 v_token) 7 v_value) 2 v_wrong) 3 v_wrongAt) g9)), ((a9 2), .inl (cyI, 12, .inl c_cuts)), ((a9 3), .inl (cyI, 56, .inl c_letters)), ((a9 1), .inl (cyI, 240, .inl c_tape))] → va_S A s.heap H locs → lv_has ls 2 [(0, .ref (a9 0))] → W p l e rmX9_next s m av below meth c H locs 0 0 Q (F0 m 8 ls []) := by
    intro n
    induction n with
    | zero => intro v_place v_spot v_token v_value v_wrong v_wrongAt H locs ls hf; exact absurd hf (by simp [fX9_next_8])
    | succ n hk8 =>
      intro v_place v_spot v_token v_value v_wrong v_wrongAt H locs ls hf hP hD hS hl
      rw [fX9_next_8] at hf
      refine lv_aload_n hx hb dX9_next_8 rfl (lv_at hl 0 rfl) ?_
      refine lv_aload_n hx hb dX9_next_9 rfl (lv_at hl 0 rfl) ?_
      refine va_get (D := D) (ci := 9) (v := .int v_spot) (C := RX9) (T := TX9) (N := 52) hx hb hL inlX9 hown hK.1 hP 0 rfl rfl 5 (by decide) w0 (fun _ h9 => h9) rfl dX9_next_10 ?_
      obtain ⟨q13, e13, hf⟩ := pb_some hf
      refine cc_i (wc := [(a9 0, .inr (9, fl9 a9 (va_up (va_up (va_up (va_up (va_up (va_up i9 5 v_place) 4 v_spot) 6 v_token) 7 v_value) 2 v_wrong) 3 v_wrongAt) g9)), ((a9 1), .inl (cyI, 240, .inl c_tape))]) (wr := [((a9 2), .inl (cyI, 12, .inl c_cuts)), ((a9 3), .inl (cyI, 56, .inl c_letters))]) (w1 := [(a9 0, .inr (9, fl9 a9 (va_up (va_up (va_up (va_up (va_up (va_up i9 5 v_place) 4 v_spot) 6 v_token) 7 v_value) 2 v_wrong) 3 v_wrongAt) g9)), ((a9 1), .inl (cyI, 240, .inl c_tape))]) (wn := [(a9 0, .inr (9, fl9 a9 (va_up (va_up (va_up (va_up (va_up (va_up i9 5 v_place) 4 v_spot) 6 v_token) 7 v_value) 2 v_wrong) 3 v_wrongAt) g9)), ((a9 2), .inl (cyI, 12, .inl c_cuts)), ((a9 3), .inl (cyI, 56, .inl c_letters)), ((a9 1), .inl (cyI, 240, .inl c_tape))]) hP hD hS hA [0, 3] [1, 2] [2, 0, 1, 3] rfl rfl rfl (by decide) rfl rfl (va_runV (C := RX9) (As := [.int v_spot]) (rest := []) ⟨hx, hb, hml, hown, hL⟩ (mX9_byteAt l D cyI cyJ cyB cyS N H.size a9 (va_up (va_up (va_up (va_up (va_up (va_up i9 5 v_place) 4 v_spot) 6 v_token) 7 v_value) 2 v_wrong) 3 v_wrongAt) g9 c_tape v_spot q13 e13) (cwV 1 hL (gV (hR17 5 rfl) (hR17 6 rfl) (hR17 7 rfl) (hR1 5 rfl) (hR17 8 rfl)) rfl rfl rfl (by decide +kernel) ⟨Nat.le_of_ble_eq_true rfl, Nat.le_of_ble_eq_true rfl⟩) (PP_preV (ci := 9) (q0 := 0) hP hD hK [0, 3] rfl rfl rfl rfl) rfl rfl hl.1 rfl (lv_room (Nat.le_of_ble_eq_true rfl)) dX9_next_13 ⟨Nat.le_of_ble_eq_true rfl, Nat.le_of_ble_eq_true rfl⟩) (fun H locs hP hD hS => ?_)
      refine lv_bipush (v := 32) hx hb dX9_next_16 (by decide) ?_
      refine lv_icmp_ne (tgt := 34) hx hb dX9_next_18 (by decide) (fun c18 => ?_) (fun c18 => ?_)
      · have hf := pif_f c18 hf
        refine lv_aload_n hx hb dX9_next_34 rfl (lv_at hl 0 rfl) ?_
        refine lv_aload_n hx hb dX9_next_35 rfl (lv_at hl 0 rfl) ?_
        refine va_get (D := D) (ci := 9) (v := .int v_spot) (C := RX9) (T := TX9) (N := 52) hx hb hL inlX9 hown hK.1 hP 0 rfl rfl 5 (by decide) w0 (fun _ h9 => h9) rfl dX9_next_36 ?_
        refine va_put (D := D) (ci := 9) (v := .int v_spot) (ty := .int) (C := RX9) (T := TX9) (N := 52) hx hb hL inlX9 tyX9 tyX9_ok nmX9 hown hK.1 hP hD hS 0 rfl rfl 6 (by decide) w5 (fun _ h9 => h9) rfl (by decide +kernel) rfl rfl (Nat.le_of_ble_eq_true rfl) dX9_next_39 (fun H locs hP hD hS => ?_)
        rw [fl9_s6] at hP hD
        have hP : va_P D vwCl [(a9 0, .inr (9, fl9 a9 (va_up (va_up (va_up (va_up (va_up (va_up (va_up i9 5 v_place) 4 v_spot) 6 v_token) 7 v_value) 2 v_wrong) 3 v_wrongAt) 5 v_spot) g9)), ((a9 2), .inl (cyI, 12, .inl c_cuts)), ((a9 3), .inl (cyI, 56, .inl c_letters)), ((a9 1), .inl (cyI, 240, .inl c_tape))] H := hP
        have hD : va_D A [(a9 0, .inr (9, fl9 a9 (va_up (va_up (va_up (va_up (va_up (va_up (va_up i9 5 v_place) 4 v_spot) 6 v_token) 7 v_value) 2 v_wrong) 3 v_wrongAt) 5 v_spot) g9)), ((a9 2), .inl (cyI, 12, .inl c_cuts)), ((a9 3), .inl (cyI, 56, .inl c_letters)), ((a9 1), .inl (cyI, 240, .inl c_tape))] := hD
        refine lv_aload_n hx hb dX9_next_42 rfl (lv_at hl 0 rfl) ?_
        refine lv_aload_n hx hb dX9_next_43 rfl (lv_at hl 0 rfl) ?_
        refine va_get (D := D) (ci := 9) (v := .int v_spot) (C := RX9) (T := TX9) (N := 52) hx hb hL inlX9 hown hK.1 hP 0 rfl rfl 5 (by decide) w0 (fun _ h9 => h9) rfl dX9_next_44 ?_
        obtain ⟨q47, e47, hf⟩ := pb_some hf
        refine cc_i (wc := [(a9 0, .inr (9, fl9 a9 (va_up (va_up (va_up (va_up (va_up (va_up (va_up i9 5 v_place) 4 v_spot) 6 v_token) 7 v_value) 2 v_wrong) 3 v_wrongAt) 5 v_spot) g9)), ((a9 1), .inl (cyI, 240, .inl c_tape))]) (wr := [((a9 2), .inl (cyI, 12, .inl c_cuts)), ((a9 3), .inl (cyI, 56, .inl c_letters))]) (w1 := [(a9 0, .inr (9, fl9 a9 (va_up (va_up (va_up (va_up (va_up (va_up (va_up i9 5 v_place) 4 v_spot) 6 v_token) 7 v_value) 2 v_wrong) 3 v_wrongAt) 5 v_spot) g9)), ((a9 1), .inl (cyI, 240, .inl c_tape))]) (wn := [(a9 0, .inr (9, fl9 a9 (va_up (va_up (va_up (va_up (va_up (va_up (va_up i9 5 v_place) 4 v_spot) 6 v_token) 7 v_value) 2 v_wrong) 3 v_wrongAt) 5 v_spot) g9)), ((a9 2), .inl (cyI, 12, .inl c_cuts)), ((a9 3), .inl (cyI, 56, .inl c_letters)), ((a9 1), .inl (cyI, 240, .inl c_tape))]) hP hD hS hA [0, 3] [1, 2] [2, 0, 1, 3] rfl rfl rfl (by decide) rfl rfl (va_runV (C := RX9) (As := [.int v_spot]) (rest := []) ⟨hx, hb, hml, hown, hL⟩ (mX9_byteAt l D cyI cyJ cyB cyS N H.size a9 (va_up (va_up (va_up (va_up (va_up (va_up (va_up i9 5 v_place) 4 v_spot) 6 v_token) 7 v_value) 2 v_wrong) 3 v_wrongAt) 5 v_spot) g9 c_tape v_spot q47 e47) (cwV 1 hL (gV (hR17 5 rfl) (hR17 6 rfl) (hR17 7 rfl) (hR1 5 rfl) (hR17 8 rfl)) rfl rfl rfl (by decide +kernel) ⟨Nat.le_of_ble_eq_true rfl, Nat.le_of_ble_eq_true rfl⟩) (PP_preV (ci := 9) (q0 := 0) hP hD hK [0, 3] rfl rfl rfl rfl) rfl rfl hl.1 rfl (lv_room (Nat.le_of_ble_eq_true rfl)) dX9_next_47 ⟨Nat.le_of_ble_eq_true rfl, Nat.le_of_ble_eq_true rfl⟩) (fun H locs hP hD hS => ?_)
        refine lv_istore_n (lv' := [(1, .int q47), (0, .ref (a9 0))]) hx hb dX9_next_50 rfl hl (by decide) rfl (fun ls hl => ?_)
        refine lv_aload_n hx hb dX9_next_51 rfl (lv_at hl 1 rfl) ?_
        refine lv_iconst (v := 0) hx hb dX9_next_52 (by decide) ?_
        refine va_put (D := D) (ci := 9) (v := .int 0) (ty := .int) (C := RX9) (T := TX9) (N := 52) hx hb hL inlX9 tyX9 tyX9_ok nmX9 hown hK.1 hP hD hS 0 rfl rfl 8 (by decide) w6 (fun _ h9 => h9) rfl (by decide +kernel) rfl rfl (Nat.le_of_ble_eq_true rfl) dX9_next_53 (fun H locs hP hD hS => ?_)
        rw [fl9_s8] at hP hD
        have hP : va_P D vwCl [(a9 0, .inr (9, fl9 a9 (va_up (va_up (va_up (va_up (va_up (va_up (va_up (va_up i9 5 v_place) 4 v_spot) 6 v_token) 7 v_value) 2 v_wrong) 3 v_wrongAt) 5 v_spot) 7 0) g9)), ((a9 2), .inl (cyI, 12, .inl c_cuts)), ((a9 3), .inl (cyI, 56, .inl c_letters)), ((a9 1), .inl (cyI, 240, .inl c_tape))] H := hP
        have hD : va_D A [(a9 0, .inr (9, fl9 a9 (va_up (va_up (va_up (va_up (va_up (va_up (va_up (va_up i9 5 v_place) 4 v_spot) 6 v_token) 7 v_value) 2 v_wrong) 3 v_wrongAt) 5 v_spot) 7 0) g9)), ((a9 2), .inl (cyI, 12, .inl c_cuts)), ((a9 3), .inl (cyI, 56, .inl c_letters)), ((a9 1), .inl (cyI, 240, .inl c_tape))] := hD
        refine lv_iload_n hx hb dX9_next_56 rfl (lv_at hl 0 rfl) ?_
        refine lv_bipush (v := (-4)) hx hb dX9_next_57 (by decide) ?_
        refine lv_icmp_ne (tgt := 70) hx hb dX9_next_59 (by decide) (fun c59 => ?_) (fun c59 => ?_)
        · have hf := pif_f c59 hf
          refine lv_iload_n hx hb dX9_next_70 rfl (lv_at hl 0 rfl) ?_
          refine lv_i2l hx hb dX9_next_71 rfl ?_
          refine lv_ldc2 (v := 97) hx hb hown w1 dX9_next_72 ?_
          refine lv_ldc2 (v := 122) hx hb hown w2 dX9_next_75 ?_
          obtain ⟨q78, e78, hf⟩ := pb_some hf
          refine cc_i (wc := []) (wr := [(a9 0, .inr (9, fl9 a9 (va_up (va_up (va_up (va_up (va_up (va_up (va_up (va_up i9 5 v_place) 4 v_spot) 6 v_token) 7 v_value) 2 v_wrong) 3 v_wrongAt) 5 v_spot) 7 0) g9)), ((a9 2), .inl (cyI, 12, .inl c_cuts)), ((a9 3), .inl (cyI, 56, .inl c_letters)), ((a9 1), .inl (cyI, 240, .inl c_tape))]) (w1 := []) (wn := [(a9 0, .inr (9, fl9 a9 (va_up (va_up (va_up (va_up (va_up (va_up (va_up (va_up i9 5 v_place) 4 v_spot) 6 v_token) 7 v_value) 2 v_wrong) 3 v_wrongAt) 5 v_spot) 7 0) g9)), ((a9 2), .inl (cyI, 12, .inl c_cuts)), ((a9 3), .inl (cyI, 56, .inl c_letters)), ((a9 1), .inl (cyI, 240, .inl c_tape))]) hP hD hS hA [] [0, 1, 2, 3] [0, 1, 2, 3] rfl rfl rfl (by decide) rfl rfl (va_runS (As := [.long ((q47 : Int32).toInt64), .long 97, .long 122]) (rest := []) ⟨hx, hb, hml, hown, hL⟩ (mX9_in l D cyI cyJ cyB cyS N H.size   ((q47 : Int32).toInt64) 97 122 q78 e78) (va_cwS 3 hL (gS (hR8 7 rfl) (hR8 8 rfl) (hR1 5 rfl) (hR8 9 rfl)) rfl rfl rfl (by decide +kernel) ⟨Nat.le_of_ble_eq_true rfl, Nat.le_of_ble_eq_true rfl⟩) (PP_preS hP hD hK [] rfl rfl) rfl rfl hl.1 rfl (lv_room (Nat.le_of_ble_eq_true rfl)) dX9_next_78 ⟨Nat.le_of_ble_eq_true rfl, Nat.le_of_ble_eq_true rfl⟩) (fun H locs hP hD hS => ?_)
          refine lv_if_eq (tgt := 156) hx hb dX9_next_81 (by decide) (fun c81 => ?_) (fun c81 => ?_)
          · have hf := pif_t c81 hf
            refine lv_iload_n hx hb dX9_next_156 rfl (lv_at hl 0 rfl) ?_
            refine lv_i2l hx hb dX9_next_157 rfl ?_
            refine lv_ldc2 (v := 48) hx hb hown w7 dX9_next_158 ?_
            refine lv_ldc2 (v := 57) hx hb hown w8 dX9_next_161 ?_
            obtain ⟨q164, e164, hf⟩ := pb_some hf
            refine cc_i (wc := []) (wr := [(a9 0, .inr (9, fl9 a9 (va_up (va_up (va_up (va_up (va_up (va_up (va_up (va_up i9 5 v_place) 4 v_spot) 6 v_token) 7 v_value) 2 v_wrong) 3 v_wrongAt) 5 v_spot) 7 0) g9)), ((a9 2), .inl (cyI, 12, .inl c_cuts)), ((a9 3), .inl (cyI, 56, .inl c_letters)), ((a9 1), .inl (cyI, 240, .inl c_tape))]) (w1 := []) (wn := [(a9 0, .inr (9, fl9 a9 (va_up (va_up (va_up (va_up (va_up (va_up (va_up (va_up i9 5 v_place) 4 v_spot) 6 v_token) 7 v_value) 2 v_wrong) 3 v_wrongAt) 5 v_spot) 7 0) g9)), ((a9 2), .inl (cyI, 12, .inl c_cuts)), ((a9 3), .inl (cyI, 56, .inl c_letters)), ((a9 1), .inl (cyI, 240, .inl c_tape))]) hP hD hS hA [] [0, 1, 2, 3] [0, 1, 2, 3] rfl rfl rfl (by decide) rfl rfl (va_runS (As := [.long ((q47 : Int32).toInt64), .long 48, .long 57]) (rest := []) ⟨hx, hb, hml, hown, hL⟩ (mX9_in l D cyI cyJ cyB cyS N H.size   ((q47 : Int32).toInt64) 48 57 q164 e164) (va_cwS 3 hL (gS (hR8 7 rfl) (hR8 8 rfl) (hR1 5 rfl) (hR8 9 rfl)) rfl rfl rfl (by decide +kernel) ⟨Nat.le_of_ble_eq_true rfl, Nat.le_of_ble_eq_true rfl⟩) (PP_preS hP hD hK [] rfl rfl) rfl rfl hl.1 rfl (lv_room (Nat.le_of_ble_eq_true rfl)) dX9_next_164 ⟨Nat.le_of_ble_eq_true rfl, Nat.le_of_ble_eq_true rfl⟩) (fun H locs hP hD hS => ?_)
            refine lv_if_eq (tgt := 273) hx hb dX9_next_167 (by decide) (fun c167 => ?_) (fun c167 => ?_)
            · have hf := pif_t c167 hf
              refine lv_aload_n hx hb dX9_next_273 rfl (lv_at hl 1 rfl) ?_
              refine lv_iconst (v := 3) hx hb dX9_next_274 (by decide) ?_
              refine va_put (D := D) (ci := 9) (v := .int 3) (ty := .int) (C := RX9) (T := TX9) (N := 52) hx hb hL inlX9 tyX9 tyX9_ok nmX9 hown hK.1 hP hD hS 0 rfl rfl 7 (by decide) w4 (fun _ h9 => h9) rfl (by decide +kernel) rfl rfl (Nat.le_of_ble_eq_true rfl) dX9_next_275 (fun H locs hP hD hS => ?_)
              rw [fl9_s7] at hP hD
              have hP : va_P D vwCl [(a9 0, .inr (9, fl9 a9 (va_up (va_up (va_up (va_up (va_up (va_up (va_up (va_up (va_up i9 5 v_place) 4 v_spot) 6 v_token) 7 v_value) 2 v_wrong) 3 v_wrongAt) 5 v_spot) 7 0) 6 3) g9)), ((a9 2), .inl (cyI, 12, .inl c_cuts)), ((a9 3), .inl (cyI, 56, .inl c_letters)), ((a9 1), .inl (cyI, 240, .inl c_tape))] H := hP
              have hD : va_D A [(a9 0, .inr (9, fl9 a9 (va_up (va_up (va_up (va_up (va_up (va_up (va_up (va_up (va_up i9 5 v_place) 4 v_spot) 6 v_token) 7 v_value) 2 v_wrong) 3 v_wrongAt) 5 v_spot) 7 0) 6 3) g9)), ((a9 2), .inl (cyI, 12, .inl c_cuts)), ((a9 3), .inl (cyI, 56, .inl c_letters)), ((a9 1), .inl (cyI, 240, .inl c_tape))] := hD
              refine lv_aload_n hx hb dX9_next_278 rfl (lv_at hl 1 rfl) ?_
              refine lv_dup hx hb dX9_next_279 rfl ?_
              refine va_get (D := D) (ci := 9) (v := .int v_spot) (C := RX9) (T := TX9) (N := 52) hx hb hL inlX9 hown hK.1 hP 0 rfl rfl 5 (by decide) w0 (fun _ h9 => h9) rfl dX9_next_280 ?_
              refine lv_iconst (v := 1) hx hb dX9_next_283 (by decide) ?_
              refine lv_iadd hx hb dX9_next_284 ?_
              refine va_put (D := D) (ci := 9) (v := .int (v_spot + 1)) (ty := .int) (C := RX9) (T := TX9) (N := 52) hx hb hL inlX9 tyX9 tyX9_ok nmX9 hown hK.1 hP hD hS 0 rfl rfl 5 (by decide) w0 (fun _ h9 => h9) rfl (by decide +kernel) rfl rfl (Nat.le_of_ble_eq_true rfl) dX9_next_285 (fun H locs hP hD hS => ?_)
              rw [fl9_s5] at hP hD
              have hP : va_P D vwCl [(a9 0, .inr (9, fl9 a9 (va_up (va_up (va_up (va_up (va_up (va_up (va_up (va_up (va_up (va_up i9 5 v_place) 4 v_spot) 6 v_token) 7 v_value) 2 v_wrong) 3 v_wrongAt) 5 v_spot) 7 0) 6 3) 4 (v_spot + 1)) g9)), ((a9 2), .inl (cyI, 12, .inl c_cuts)), ((a9 3), .inl (cyI, 56, .inl c_letters)), ((a9 1), .inl (cyI, 240, .inl c_tape))] H := hP
              have hD : va_D A [(a9 0, .inr (9, fl9 a9 (va_up (va_up (va_up (va_up (va_up (va_up (va_up (va_up (va_up (va_up i9 5 v_place) 4 v_spot) 6 v_token) 7 v_value) 2 v_wrong) 3 v_wrongAt) 5 v_spot) 7 0) 6 3) 4 (v_spot + 1)) g9)), ((a9 2), .inl (cyI, 12, .inl c_cuts)), ((a9 3), .inl (cyI, 56, .inl c_letters)), ((a9 1), .inl (cyI, 240, .inl c_tape))] := hD
              refine lv_iload_n hx hb dX9_next_288 rfl (lv_at hl 0 rfl) ?_
              refine lv_bipush (v := 59) hx hb dX9_next_289 (by decide) ?_
              refine lv_icmp_eq (tgt := 299) hx hb dX9_next_291 (by decide) (fun c291 => ?_) (fun c291 => ?_)
              · have hf := pif_t c291 hf
                exact hB299 v_spot (v_spot + 1) 3 0 v_wrong v_wrongAt H locs ls hf hP hD hS (lv_sub hl [] rfl)
              · have hf := pif_f c291 hf
                refine lv_aload_n hx hb dX9_next_294 rfl (lv_at hl 1 rfl) ?_
                refine lv_iconst (v := 1) hx hb dX9_next_295 (by decide) ?_
                obtain ⟨q296, e296, hf⟩ := pb_some hf
                refine cc_v (wc := [(a9 0, .inr (9, fl9 a9 (va_up (va_up (va_up (va_up (va_up (va_up (va_up (va_up (va_up (va_up i9 5 v_place) 4 v_spot) 6 v_token) 7 v_value) 2 v_wrong) 3 v_wrongAt) 5 v_spot) 7 0) 6 3) 4 (v_spot + 1)) g9))]) (wr := [((a9 2), .inl (cyI, 12, .inl c_cuts)), ((a9 3), .inl (cyI, 56, .inl c_letters)), ((a9 1), .inl (cyI, 240, .inl c_tape))]) (w1 := [(a9 0, .inr (9, fl9 a9 (va_up (va_up (va_up (va_up (va_up (va_up (va_up (va_up (va_up (va_up (va_up (va_up i9 5 v_place) 4 v_spot) 6 v_token) 7 v_value) 2 v_wrong) 3 v_wrongAt) 5 v_spot) 7 0) 6 3) 4 (v_spot + 1)) 2 q296.1) 3 q296.2) g9))]) (wn := [(a9 0, .inr (9, fl9 a9 (va_up (va_up (va_up (va_up (va_up (va_up (va_up (va_up (va_up (va_up (va_up (va_up i9 5 v_place) 4 v_spot) 6 v_token) 7 v_value) 2 v_wrong) 3 v_wrongAt) 5 v_spot) 7 0) 6 3) 4 (v_spot + 1)) 2 q296.1) 3 q296.2) g9)), ((a9 2), .inl (cyI, 12, .inl c_cuts)), ((a9 3), .inl (cyI, 56, .inl c_letters)), ((a9 1), .inl (cyI, 240, .inl c_tape))]) hP hD hS hA [0] [1, 2, 3] [3, 0, 1, 2] rfl rfl rfl (by decide) rfl rfl (va_runV (C := RX9) (As := [.int 1]) (rest := []) ⟨hx, hb, hml, hown, hL⟩ (mX9_fails l D cyI cyJ cyB cyS N H.size a9 (va_up (va_up (va_up (va_up (va_up (va_up (va_up (va_up (va_up (va_up i9 5 v_place) 4 v_spot) 6 v_token) 7 v_value) 2 v_wrong) 3 v_wrongAt) 5 v_spot) 7 0) 6 3) 4 (v_spot + 1)) g9  1 q296 e296) (cwV 1 hL (gV (hR17 13 rfl) (hR17 14 rfl) (hR17 15 rfl) (hR1 5 rfl) (hR17 16 rfl)) rfl rfl rfl (by decide +kernel) ⟨Nat.le_of_ble_eq_true rfl, Nat.le_of_ble_eq_true rfl⟩) (PP_preV (ci := 9) (q0 := 0) hP hD hK [0] rfl rfl rfl rfl) rfl rfl hl.1 rfl (lv_room (Nat.le_of_ble_eq_true rfl)) dX9_next_296 ⟨Nat.le_of_ble_eq_true rfl, Nat.le_of_ble_eq_true rfl⟩) (fun H locs hP hD hS => ?_)
                exact hB299 v_spot (v_spot + 1) 3 0 q296.1 q296.2 H locs ls hf hP hD hS (lv_sub hl [] rfl)
            · have hf := pif_f c167 hf
              exact hB170 N v_spot v_spot v_token 0 v_wrong v_wrongAt H locs ls hf hP hD hS (lv_sub hl [1] rfl)
          · have hf := pif_f c81 hf
            exact hB84 N v_spot v_spot v_token 0 v_wrong v_wrongAt H locs ls hf hP hD hS (lv_sub hl [1] rfl)
        · have hf := pif_t c59 hf
          refine lv_aload_n hx hb dX9_next_62 rfl (lv_at hl 1 rfl) ?_
          refine lv_iconst (v := 0) hx hb dX9_next_63 (by decide) ?_
          refine va_put (D := D) (ci := 9) (v := .int 0) (ty := .int) (C := RX9) (T := TX9) (N := 52) hx hb hL inlX9 tyX9 tyX9_ok nmX9 hown hK.1 hP hD hS 0 rfl rfl 7 (by decide) w4 (fun _ h9 => h9) rfl (by decide +kernel) rfl rfl (Nat.le_of_ble_eq_true rfl) dX9_next_64 (fun H locs hP hD hS => ?_)
          rw [fl9_s7] at hP hD
          have hP : va_P D vwCl [(a9 0, .inr (9, fl9 a9 (va_up (va_up (va_up (va_up (va_up (va_up (va_up (va_up (va_up i9 5 v_place) 4 v_spot) 6 v_token) 7 v_value) 2 v_wrong) 3 v_wrongAt) 5 v_spot) 7 0) 6 0) g9)), ((a9 2), .inl (cyI, 12, .inl c_cuts)), ((a9 3), .inl (cyI, 56, .inl c_letters)), ((a9 1), .inl (cyI, 240, .inl c_tape))] H := hP
          have hD : va_D A [(a9 0, .inr (9, fl9 a9 (va_up (va_up (va_up (va_up (va_up (va_up (va_up (va_up (va_up i9 5 v_place) 4 v_spot) 6 v_token) 7 v_value) 2 v_wrong) 3 v_wrongAt) 5 v_spot) 7 0) 6 0) g9)), ((a9 2), .inl (cyI, 12, .inl c_cuts)), ((a9 3), .inl (cyI, 56, .inl c_letters)), ((a9 1), .inl (cyI, 240, .inl c_tape))] := hD
          refine lv_goto (tgt := 299) hx hb dX9_next_67 (by decide) ?_
          exact hB299 v_spot v_spot 0 0 v_wrong v_wrongAt H locs ls hf hP hD hS (lv_sub hl [] rfl)
      · have hf := pif_t c18 hf
        refine lv_aload_n hx hb dX9_next_21 rfl (lv_at hl 0 rfl) ?_
        refine lv_dup hx hb dX9_next_22 rfl ?_
        refine va_get (D := D) (ci := 9) (v := .int v_spot) (C := RX9) (T := TX9) (N := 52) hx hb hL inlX9 hown hK.1 hP 0 rfl rfl 5 (by decide) w0 (fun _ h9 => h9) rfl dX9_next_23 ?_
        refine lv_iconst (v := 1) hx hb dX9_next_26 (by decide) ?_
        refine lv_iadd hx hb dX9_next_27 ?_
        refine va_put (D := D) (ci := 9) (v := .int (v_spot + 1)) (ty := .int) (C := RX9) (T := TX9) (N := 52) hx hb hL inlX9 tyX9 tyX9_ok nmX9 hown hK.1 hP hD hS 0 rfl rfl 5 (by decide) w0 (fun _ h9 => h9) rfl (by decide +kernel) rfl rfl (Nat.le_of_ble_eq_true rfl) dX9_next_28 (fun H locs hP hD hS => ?_)
        rw [fl9_s5] at hP hD
        have hP : va_P D vwCl [(a9 0, .inr (9, fl9 a9 (va_up (va_up (va_up (va_up (va_up (va_up (va_up i9 5 v_place) 4 v_spot) 6 v_token) 7 v_value) 2 v_wrong) 3 v_wrongAt) 4 (v_spot + 1)) g9)), ((a9 2), .inl (cyI, 12, .inl c_cuts)), ((a9 3), .inl (cyI, 56, .inl c_letters)), ((a9 1), .inl (cyI, 240, .inl c_tape))] H := hP
        have hD : va_D A [(a9 0, .inr (9, fl9 a9 (va_up (va_up (va_up (va_up (va_up (va_up (va_up i9 5 v_place) 4 v_spot) 6 v_token) 7 v_value) 2 v_wrong) 3 v_wrongAt) 4 (v_spot + 1)) g9)), ((a9 2), .inl (cyI, 12, .inl c_cuts)), ((a9 3), .inl (cyI, 56, .inl c_letters)), ((a9 1), .inl (cyI, 240, .inl c_tape))] := hD
        refine lv_goto (tgt := 8) hx hb dX9_next_31 (by decide) ?_
        exact hk8 v_place (v_spot + 1) v_token v_value v_wrong v_wrongAt H locs ls hf hP hD hS (lv_sub hl [0] rfl)
  unfold fX9_next at hf
  obtain ⟨H, hH⟩ : ∃ H : Heap, H = s.heap := ⟨_, rfl⟩
  obtain ⟨locs, hlo⟩ : ∃ locs : List Loc, locs = [] := ⟨_, rfl⟩
  have hP : va_P D vwCl [(a9 0, .inr (9, fl9 a9 i9 g9)), ((a9 2), .inl (cyI, 12, .inl c_cuts)), ((a9 3), .inl (cyI, 56, .inl c_letters)), ((a9 1), .inl (cyI, 240, .inl c_tape))] H := by rw [hH]; exact hP
  have hS : va_S A s.heap H locs := by rw [hH, hlo]; exact hS
  suffices hw : W p l e rmX9_next s m av below meth c H locs 0 0 Q (F0 m 0 ls []) by rw [hH, hlo] at hw; exact hw
  refine lv_aload_n hx hb dX9_next_0 rfl (lv_at hl 0 rfl) ?_
  refine va_get (D := D) (ci := 9) (v := .int (i9 2)) (C := RX9) (T := TX9) (N := 52) hx hb hL inlX9 hown hK.1 hP 0 rfl rfl 3 (by decide) w9 (fun _ h9 => h9) rfl dX9_next_1 ?_
  refine lv_if_le (tgt := 8) hx hb dX9_next_4 (by decide) (fun c4 => ?_) (fun c4 => ?_)
  · have hf := pif_t c4 hf
    exact hB8 N (i9 5) (i9 4) (i9 6) (i9 7) (i9 2) (i9 3) H locs ls hf hP hD hS (lv_sub hl [0] rfl)
  · have hf := pif_f c4 hf
    exact ret_v (q := q) (wp := fun q => [(a9 0, .inr (9, fl9 a9 (va_up (va_up (va_up (va_up (va_up (va_up i9 5 q.1) 4 q.2.1) 6 q.2.2.1) 7 q.2.2.2.1) 2 q.2.2.2.2.1) 3 q.2.2.2.2.2) g9)), ((a9 2), .inl (cyI, 12, .inl c_cuts)), ((a9 3), .inl (cyI, 56, .inl c_letters)), ((a9 1), .inl (cyI, 240, .inl c_tape))]) hQ hf hx hb hr hlocks hP hD hS dX9_next_7
abbrev rmX9_number : Room := { frames := 1, cells := 0, slots := 0, locals := 25 }
set_option maxHeartbeats 40000000 in
set_option maxRecDepth 100000 in
theorem mX9_number (l : Launch) (D : va_G) (cyI cyJ cyB cyS : ClassId) (N : Nat) (sz : Nat) (a9 : Nat → Nat) (i9 : Nat → Int32) (g9 : Nat → Int64) (x1 : Int32) (x2 : Int32) (q : Int32 × Int32 × Int32) (hf : fX9_number N (i9 5) (i9 6) (i9 7) (i9 2) (i9 3) x1 x2 = some q) : Met l yX9_number (wS yX9_number cX9_number 3 (some .int)) rmX9_number (va_Pc [.ref (a9 0), .int x1, .int x2] (PP D cyI cyJ cyB cyS [(a9 0, .inr (9, fl9 a9 i9 g9))] sz)) (QI q.1 D [(a9 0, .inr (9, fl9 a9 (va_up (va_up i9 2 q.2.1) 3 q.2.2) g9))] (va_A [(a9 0, .inr (9, fl9 a9 i9 g9))] sz)) 0 0 (va_A [(a9 0, .inr (9, fl9 a9 i9 g9))] sz) := by
  refine Met.ofW (cc := cX9_number) (maxL := 3) (ret := (some .int)) (by decide) rfl ?_
  intro p e s m args below meth c s₁ B hml hv
  obtain ⟨rfl, hsz, hP, hK, hD0⟩ := hv
  have hx := B.exec
  have hb := B.bytes
  have hr := B.returns
  have hts := atoms_spec (ws := (wS yX9_number cX9_number 3 (some .int))) B.pre
  have hown : s.vm.findClass RX9 = some m.cls := findClass_of_methodNamed B.named
  have hlocks := B.notSynchronized
  subst hsz
  have hD := hD0.self (sz := s.heap.size)
  refine w_nameQ (fun Q hQ => ?_)
  have hl := lv_entry ([.ref (a9 0), .int x1, .int x2] : List Value) (n := 3) (Nat.le_of_ble_eq_true rfl)
  rw [lg_entry_eq]
  generalize (lg_sl ([.ref (a9 0), .int x1, .int x2] : List Value) ++ List.replicate (3 - (lg_sl ([.ref (a9 0), .int x1, .int x2] : List Value)).length) Slot.unset).toArray = ls at hl ⊢
  have hl : lv_has ls 3 [(0, .ref (a9 0)), (1, .int x1), (2, .int x2)] := hl
  generalize hAe : va_A [(a9 0, .inr (9, fl9 a9 i9 g9))] s.heap.size = A at hD hQ
  have hA : ∀ q : Nat, s.heap.size ≤ q → A q := fun q h => by rw [← hAe]; exact Or.inr h
  have hS : va_S A s.heap s.heap [] := va_S.rf
  generalize ([.ref (a9 0), .int x1, .int x2] : List Value).toArray = av at hts hQ ⊢
  have hL : ∀ w ∈ wsL_law, w.before av s = true := fun w h => hts w (List.mem_cons_of_mem _ h)
  have w0 := hL (.fieldLink RX9 100 "LosingLeagueModel" "wrong" "I") (hR16 9 rfl)
  have w1 := hL (.fieldLink RX9 116 "LosingLeagueModel" "value" "I") (hR17 0 rfl)
  have w2 := hL (.static yX9_in) (hR8 8 rfl)
  have w3 := hL (.fieldLink RX9 119 "LosingLeagueModel" "token" "I") (hR16 16 rfl)
  have hB62 : ∀ (s0 : Int32) (v_wrong : Int32) (v_wrongAt : Int32) (H : Heap) (locs : List Loc) (ls : Array Slot), fX9_number_62 N (i9 5) (i9 6) (i9 7) x1 x2 s0 v_wrong v_wrongAt = some q → va_P D vwCl [(a9 0, .inr (9, fl9 a9 (va_up (va_up i9 2 v_wrong) 3 v_wrongAt) g9))] H → va_D A [(a9 0, .inr (9, fl9 a9 (va_up (va_up i9 2 v_wrong) 3 v_wrongAt) g9))] → va_S A s.heap H locs → lv_has ls 3 [] → W p l e rmX9_number s m av below meth c H locs 0 0 Q (F0 m 62 ls [.int s0]) := by
    intro s0 v_wrong v_wrongAt H locs ls hf hP hD hS hl
    unfold fX9_number_62 at hf
    exact ret_i (q := q) (g := fun q => q.1) (wp := fun q => [(a9 0, .inr (9, fl9 a9 (va_up (va_up i9 2 q.2.1) 3 q.2.2) g9))]) hQ hf hx hb hr hlocks hP hD hS dX9_number_62 rfl
  have hB47 : ∀ (v_wrong : Int32) (v_wrongAt : Int32) (H : Heap) (locs : List Loc) (ls : Array Slot), fX9_number_47 N (i9 5) (i9 6) (i9 7) x1 x2 v_wrong v_wrongAt = some q → va_P D vwCl [(a9 0, .inr (9, fl9 a9 (va_up (va_up i9 2 v_wrong) 3 v_wrongAt) g9))] H → va_D A [(a9 0, .inr (9, fl9 a9 (va_up (va_up i9 2 v_wrong) 3 v_wrongAt) g9))] → va_S A s.heap H locs → lv_has ls 3 [(0, .ref (a9 0)), (1, .int x1)] → W p l e rmX9_number s m av below meth c H locs 0 0 Q (F0 m 47 ls []) := by
    intro v_wrong v_wrongAt H locs ls hf hP hD hS hl
    unfold fX9_number_47 at hf
    refine lv_aload_n hx hb dX9_number_47 rfl (lv_at hl 0 rfl) ?_
    refine va_get (D := D) (ci := 9) (v := .int v_wrong) (C := RX9) (T := TX9) (N := 52) hx hb hL inlX9 hown hK.1 hP 0 rfl rfl 3 (by decide) w0 (fun _ h9 => h9) rfl dX9_number_48 ?_
    refine lv_if_ne (tgt := 61) hx hb dX9_number_51 (by decide) (fun c51 => ?_) (fun c51 => ?_)
    · have hf := pif_f c51 hf
      refine lv_iload_n hx hb dX9_number_61 rfl (lv_at hl 1 rfl) ?_
      exact hB62 x1 v_wrong v_wrongAt H locs ls hf hP hD hS (lv_sub hl [] rfl)
    · have hf := pif_t c51 hf
      refine lv_aload_n hx hb dX9_number_54 rfl (lv_at hl 0 rfl) ?_
      refine va_get (D := D) (ci := 9) (v := .int (i9 7)) (C := RX9) (T := TX9) (N := 52) hx hb hL inlX9 hown hK.1 hP 0 rfl rfl 8 (by decide) w1 (fun _ h9 => h9) rfl dX9_number_55 ?_
      refine lv_goto (tgt := 62) hx hb dX9_number_58 (by decide) ?_
      exact hB62 (i9 7) v_wrong v_wrongAt H locs ls hf hP hD hS (lv_sub hl [] rfl)
  have hB20 : ∀ (v_wrong : Int32) (v_wrongAt : Int32) (H : Heap) (locs : List Loc) (ls : Array Slot), fX9_number_20 N (i9 5) (i9 6) (i9 7) x1 x2 v_wrong v_wrongAt = some q → va_P D vwCl [(a9 0, .inr (9, fl9 a9 (va_up (va_up i9 2 v_wrong) 3 v_wrongAt) g9))] H → va_D A [(a9 0, .inr (9, fl9 a9 (va_up (va_up i9 2 v_wrong) 3 v_wrongAt) g9))] → va_S A s.heap H locs → lv_has ls 3 [(0, .ref (a9 0)), (1, .int x1), (2, .int x2)] → W p l e rmX9_number s m av below meth c H locs 0 0 Q (F0 m 20 ls []) := by
    intro v_wrong v_wrongAt H locs ls hf hP hD hS hl
    unfold fX9_number_20 at hf
    refine lv_aload_n hx hb dX9_number_20 rfl (lv_at hl 0 rfl) ?_
    refine va_get (D := D) (ci := 9) (v := .int v_wrong) (C := RX9) (T := TX9) (N := 52) hx hb hL inlX9 hown hK.1 hP 0 rfl rfl 3 (by decide) w0 (fun _ h9 => h9) rfl dX9_number_21 ?_
    refine lv_if_ne (tgt := 47) hx hb dX9_number_24 (by decide) (fun c24 => ?_) (fun c24 => ?_)
    · have hf := pif_f c24 hf
      exact hB47 v_wrong v_wrongAt H locs ls hf hP hD hS (lv_sub hl [0, 1] rfl)
    · have hf := pif_t c24 hf
      refine lv_aload_n hx hb dX9_number_27 rfl (lv_at hl 0 rfl) ?_
      refine va_get (D := D) (ci := 9) (v := .int (i9 7)) (C := RX9) (T := TX9) (N := 52) hx hb hL inlX9 hown hK.1 hP 0 rfl rfl 8 (by decide) w1 (fun _ h9 => h9) rfl dX9_number_28 ?_
      refine lv_i2l hx hb dX9_number_31 rfl ?_
      refine lv_iload_n hx hb dX9_number_32 rfl (lv_at hl 1 rfl) ?_
      refine lv_i2l hx hb dX9_number_33 rfl ?_
      refine lv_iload_n hx hb dX9_number_34 rfl (lv_at hl 2 rfl) ?_
      refine lv_i2l hx hb dX9_number_35 rfl ?_
      obtain ⟨q36, e36, hf⟩ := pb_some hf
      refine cc_i (wc := []) (wr := [(a9 0, .inr (9, fl9 a9 (va_up (va_up i9 2 v_wrong) 3 v_wrongAt) g9))]) (w1 := []) (wn := [(a9 0, .inr (9, fl9 a9 (va_up (va_up i9 2 v_wrong) 3 v_wrongAt) g9))]) hP hD hS hA [] [0] [0] rfl rfl rfl (by decide) rfl rfl (va_runS (As := [.long (((i9 7) : Int32).toInt64), .long ((x1 : Int32).toInt64), .long ((x2 : Int32).toInt64)]) (rest := []) ⟨hx, hb, hml, hown, hL⟩ (mX9_in l D cyI cyJ cyB cyS N H.size   (((i9 7) : Int32).toInt64) ((x1 : Int32).toInt64) ((x2 : Int32).toInt64) q36 e36) (va_cwS 3 hL (gS (hR8 7 rfl) (hR8 8 rfl) (hR1 5 rfl) (hR8 9 rfl)) rfl rfl rfl (by decide +kernel) ⟨Nat.le_of_ble_eq_true rfl, Nat.le_of_ble_eq_true rfl⟩) (PP_preS hP hD hK [] rfl rfl) rfl rfl hl.1 rfl (lv_room (Nat.le_of_ble_eq_true rfl)) dX9_number_36 ⟨Nat.le_of_ble_eq_true rfl, Nat.le_of_ble_eq_true rfl⟩) (fun H locs hP hD hS => ?_)
      refine lv_if_ne (tgt := 47) hx hb dX9_number_39 (by decide) (fun c39 => ?_) (fun c39 => ?_)
      · have hf := pif_f c39 hf
        exact hB47 v_wrong v_wrongAt H locs ls hf hP hD hS (lv_sub hl [0, 1] rfl)
      · have hf := pif_t c39 hf
        refine lv_aload_n hx hb dX9_number_42 rfl (lv_at hl 0 rfl) ?_
        refine lv_iconst (v := 3) hx hb dX9_number_43 (by decide) ?_
        obtain ⟨q44, e44, hf⟩ := pb_some hf
        refine cc_v (wc := [(a9 0, .inr (9, fl9 a9 (va_up (va_up i9 2 v_wrong) 3 v_wrongAt) g9))]) (wr := []) (w1 := [(a9 0, .inr (9, fl9 a9 (va_up (va_up (va_up (va_up i9 2 v_wrong) 3 v_wrongAt) 2 q44.1) 3 q44.2) g9))]) (wn := [(a9 0, .inr (9, fl9 a9 (va_up (va_up (va_up (va_up i9 2 v_wrong) 3 v_wrongAt) 2 q44.1) 3 q44.2) g9))]) hP hD hS hA [0] [] [0] rfl rfl rfl (by decide) rfl rfl (va_runV (C := RX9) (As := [.int 3]) (rest := []) ⟨hx, hb, hml, hown, hL⟩ (mX9_fails l D cyI cyJ cyB cyS N H.size a9 (va_up (va_up i9 2 v_wrong) 3 v_wrongAt) g9  3 q44 e44) (cwV 1 hL (gV (hR17 13 rfl) (hR17 14 rfl) (hR17 15 rfl) (hR1 5 rfl) (hR17 16 rfl)) rfl rfl rfl (by decide +kernel) ⟨Nat.le_of_ble_eq_true rfl, Nat.le_of_ble_eq_true rfl⟩) (PP_preV (ci := 9) (q0 := 0) hP hD hK [0] rfl rfl rfl rfl) rfl rfl hl.1 rfl (lv_room (Nat.le_of_ble_eq_true rfl)) dX9_number_44 ⟨Nat.le_of_ble_eq_true rfl, Nat.le_of_ble_eq_true rfl⟩) (fun H locs hP hD hS => ?_)
        exact hB47 q44.1 q44.2 H locs ls hf hP hD hS (lv_sub hl [0, 1] rfl)
  unfold fX9_number at hf
  obtain ⟨H, hH⟩ : ∃ H : Heap, H = s.heap := ⟨_, rfl⟩
  obtain ⟨locs, hlo⟩ : ∃ locs : List Loc, locs = [] := ⟨_, rfl⟩
  have hP : va_P D vwCl [(a9 0, .inr (9, fl9 a9 i9 g9))] H := by rw [hH]; exact hP
  have hS : va_S A s.heap H locs := by rw [hH, hlo]; exact hS
  suffices hw : W p l e rmX9_number s m av below meth c H locs 0 0 Q (F0 m 0 ls []) by rw [hH, hlo] at hw; exact hw
  refine lv_aload_n hx hb dX9_number_0 rfl (lv_at hl 0 rfl) ?_
  refine va_get (D := D) (ci := 9) (v := .int (i9 2)) (C := RX9) (T := TX9) (N := 52) hx hb hL inlX9 hown hK.1 hP 0 rfl rfl 3 (by decide) w0 (fun _ h9 => h9) rfl dX9_number_1 ?_
  refine lv_if_ne (tgt := 20) hx hb dX9_number_4 (by decide) (fun c4 => ?_) (fun c4 => ?_)
  · have hf := pif_f c4 hf
    exact hB20 (i9 2) (i9 3) H locs ls hf hP hD hS (lv_sub hl [0, 1, 2] rfl)
  · have hf := pif_t c4 hf
    refine lv_aload_n hx hb dX9_number_7 rfl (lv_at hl 0 rfl) ?_
    refine va_get (D := D) (ci := 9) (v := .int (i9 6)) (C := RX9) (T := TX9) (N := 52) hx hb hL inlX9 hown hK.1 hP 0 rfl rfl 7 (by decide) w3 (fun _ h9 => h9) rfl dX9_number_8 ?_
    refine lv_iconst (v := 2) hx hb dX9_number_11 (by decide) ?_
    refine lv_icmp_eq (tgt := 20) hx hb dX9_number_12 (by decide) (fun c12 => ?_) (fun c12 => ?_)
    · have hf := pif_t c12 hf
      exact hB20 (i9 2) (i9 3) H locs ls hf hP hD hS (lv_sub hl [0, 1, 2] rfl)
    · have hf := pif_f c12 hf
      refine lv_aload_n hx hb dX9_number_15 rfl (lv_at hl 0 rfl) ?_
      refine lv_iconst (v := 2) hx hb dX9_number_16 (by decide) ?_
      obtain ⟨q17, e17, hf⟩ := pb_some hf
      refine cc_v (wc := [(a9 0, .inr (9, fl9 a9 i9 g9))]) (wr := []) (w1 := [(a9 0, .inr (9, fl9 a9 (va_up (va_up i9 2 q17.1) 3 q17.2) g9))]) (wn := [(a9 0, .inr (9, fl9 a9 (va_up (va_up i9 2 q17.1) 3 q17.2) g9))]) hP hD hS hA [0] [] [0] rfl rfl rfl (by decide) rfl rfl (va_runV (C := RX9) (As := [.int 2]) (rest := []) ⟨hx, hb, hml, hown, hL⟩ (mX9_fails l D cyI cyJ cyB cyS N H.size a9 i9 g9  2 q17 e17) (cwV 1 hL (gV (hR17 13 rfl) (hR17 14 rfl) (hR17 15 rfl) (hR1 5 rfl) (hR17 16 rfl)) rfl rfl rfl (by decide +kernel) ⟨Nat.le_of_ble_eq_true rfl, Nat.le_of_ble_eq_true rfl⟩) (PP_preV (ci := 9) (q0 := 0) hP hD hK [0] rfl rfl rfl rfl) rfl rfl hl.1 rfl (lv_room (Nat.le_of_ble_eq_true rfl)) dX9_number_17 ⟨Nat.le_of_ble_eq_true rfl, Nat.le_of_ble_eq_true rfl⟩) (fun H locs hP hD hS => ?_)
      exact hB20 q17.1 q17.2 H locs ls hf hP hD hS (lv_sub hl [0, 1, 2] rfl)
abbrev rmX9_readPair : Room := { frames := 3, cells := 0, slots := 0, locals := 67 }
set_option maxHeartbeats 40000000 in
set_option maxRecDepth 100000 in
theorem mX9_readPair (l : Launch) (D : va_G) (cyI cyJ cyB cyS : ClassId) (N : Nat) (sz : Nat) (a9 : Nat → Nat) (i9 : Nat → Int32) (g9 : Nat → Int64) (c_cuts : Nat → Int32) (c_letters : Nat → Int32) (c_reads : Nat → Int32) (c_tape : Nat → Int32) (x1 : Int32) (q : Int32 × Int32 × Int32 × Int32 × Int32 × Int32 × Int32 × (Nat → Int32)) (hf : fX9_readPair N (i9 5) (i9 4) (i9 0) (i9 6) (i9 8) (i9 7) (i9 2) (i9 3) c_cuts c_letters c_reads c_tape x1 = some q) : Met l yX9_readPair (wS yX9_readPair cX9_readPair 5 none) rmX9_readPair (va_Pc [.ref (a9 0), .int x1] (PP D cyI cyJ cyB cyS [(a9 0, .inr (9, fl9 a9 i9 g9)), ((a9 2), .inl (cyI, 12, .inl c_cuts)), ((a9 3), .inl (cyI, 56, .inl c_letters)), ((a9 6), .inl (cyI, 32, .inl c_reads)), ((a9 1), .inl (cyI, 240, .inl c_tape))] sz)) (QV D [(a9 0, .inr (9, fl9 a9 (va_up (va_up (va_up (va_up (va_up (va_up (va_up i9 5 q.1) 4 q.2.1) 6 q.2.2.1) 8 q.2.2.2.1) 7 q.2.2.2.2.1) 2 q.2.2.2.2.2.1) 3 q.2.2.2.2.2.2.1) g9)), ((a9 2), .inl (cyI, 12, .inl c_cuts)), ((a9 3), .inl (cyI, 56, .inl c_letters)), ((a9 6), .inl (cyI, 32, .inl q.2.2.2.2.2.2.2)), ((a9 1), .inl (cyI, 240, .inl c_tape))] (va_A [(a9 0, .inr (9, fl9 a9 i9 g9)), ((a9 2), .inl (cyI, 12, .inl c_cuts)), ((a9 3), .inl (cyI, 56, .inl c_letters)), ((a9 6), .inl (cyI, 32, .inl c_reads)), ((a9 1), .inl (cyI, 240, .inl c_tape))] sz)) 0 0 (va_A [(a9 0, .inr (9, fl9 a9 i9 g9)), ((a9 2), .inl (cyI, 12, .inl c_cuts)), ((a9 3), .inl (cyI, 56, .inl c_letters)), ((a9 6), .inl (cyI, 32, .inl c_reads)), ((a9 1), .inl (cyI, 240, .inl c_tape))] sz) := by
  refine Met.ofW (cc := cX9_readPair) (maxL := 5) (ret := none) (by decide) rfl ?_
  intro p e s m args below meth c s₁ B hml hv
  obtain ⟨rfl, hsz, hP, hK, hD0⟩ := hv
  have hx := B.exec
  have hb := B.bytes
  have hr := B.returns
  have hts := atoms_spec (ws := (wS yX9_readPair cX9_readPair 5 none)) B.pre
  have hown : s.vm.findClass RX9 = some m.cls := findClass_of_methodNamed B.named
  have hlocks := B.notSynchronized
  subst hsz
  have hD := hD0.self (sz := s.heap.size)
  refine w_nameQ (fun Q hQ => ?_)
  have hl := lv_entry ([.ref (a9 0), .int x1] : List Value) (n := 5) (Nat.le_of_ble_eq_true rfl)
  rw [lg_entry_eq]
  generalize (lg_sl ([.ref (a9 0), .int x1] : List Value) ++ List.replicate (5 - (lg_sl ([.ref (a9 0), .int x1] : List Value)).length) Slot.unset).toArray = ls at hl ⊢
  have hl : lv_has ls 5 [(0, .ref (a9 0)), (1, .int x1)] := hl
  generalize hAe : va_A [(a9 0, .inr (9, fl9 a9 i9 g9)), ((a9 2), .inl (cyI, 12, .inl c_cuts)), ((a9 3), .inl (cyI, 56, .inl c_letters)), ((a9 6), .inl (cyI, 32, .inl c_reads)), ((a9 1), .inl (cyI, 240, .inl c_tape))] s.heap.size = A at hD hQ
  have hA : ∀ q : Nat, s.heap.size ≤ q → A q := fun q h => by rw [← hAe]; exact Or.inr h
  have hS : va_S A s.heap s.heap [] := va_S.rf
  generalize ([.ref (a9 0), .int x1] : List Value).toArray = av at hts hQ ⊢
  have hL : ∀ w ∈ wsL_law, w.before av s = true := fun w h => hts w (List.mem_cons_of_mem _ h)
  have w0 := hL (.fieldLink RX9 100 "LosingLeagueModel" "wrong" "I") (hR16 9 rfl)
  have w1 := hL (.fieldLink RX9 25 "LosingLeagueModel" "reads" "[I") (hR6 9 rfl)
  have w2 := hL (.fieldLink RX9 144 "LosingLeagueModel" "toldOnes" "I") (hR16 11 rfl)
  have hB159 : ∀ (v_place : Int32) (v_spot : Int32) (v_token : Int32) (v_toldOnes : Int32) (v_value : Int32) (v_wrong : Int32) (v_wrongAt : Int32) (c_reads : Nat → Int32) (H : Heap) (locs : List Loc) (ls : Array Slot), fX9_readPair_159 N (i9 0) c_cuts c_letters c_tape x1 v_place v_spot v_token v_toldOnes v_value v_wrong v_wrongAt c_reads = some q → va_P D vwCl [(a9 0, .inr (9, fl9 a9 (va_up (va_up (va_up (va_up (va_up (va_up (va_up i9 5 v_place) 4 v_spot) 6 v_token) 8 v_toldOnes) 7 v_value) 2 v_wrong) 3 v_wrongAt) g9)), ((a9 2), .inl (cyI, 12, .inl c_cuts)), ((a9 3), .inl (cyI, 56, .inl c_letters)), ((a9 6), .inl (cyI, 32, .inl c_reads)), ((a9 1), .inl (cyI, 240, .inl c_tape))] H → va_D A [(a9 0, .inr (9, fl9 a9 (va_up (va_up (va_up (va_up (va_up (va_up (va_up i9 5 v_place) 4 v_spot) 6 v_token) 8 v_toldOnes) 7 v_value) 2 v_wrong) 3 v_wrongAt) g9)), ((a9 2), .inl (cyI, 12, .inl c_cuts)), ((a9 3), .inl (cyI, 56, .inl c_letters)), ((a9 6), .inl (cyI, 32, .inl c_reads)), ((a9 1), .inl (cyI, 240, .inl c_tape))] → va_S A s.heap H locs → lv_has ls 5 [(0, .ref (a9 0))] → W p l e rmX9_readPair s m av below meth c H locs 0 0 Q (F0 m 159 ls []) := by
    intro v_place v_spot v_token v_toldOnes v_value v_wrong v_wrongAt c_reads H locs ls hf hP hD hS hl
    unfold fX9_readPair_159 at hf
    refine lv_aload_n hx hb dX9_readPair_159 rfl (lv_at hl 0 rfl) ?_
    obtain ⟨q160, e160, hf⟩ := pb_some hf
    refine cc_v (wc := [(a9 0, .inr (9, fl9 a9 (va_up (va_up (va_up (va_up (va_up (va_up (va_up i9 5 v_place) 4 v_spot) 6 v_token) 8 v_toldOnes) 7 v_value) 2 v_wrong) 3 v_wrongAt) g9)), ((a9 2), .inl (cyI, 12, .inl c_cuts)), ((a9 3), .inl (cyI, 56, .inl c_letters)), ((a9 1), .inl (cyI, 240, .inl c_tape))]) (wr := [((a9 6), .inl (cyI, 32, .inl c_reads))]) (w1 := [(a9 0, .inr (9, fl9 a9 (va_up (va_up (va_up (va_up (va_up (va_up (va_up (va_up (va_up (va_up (va_up (va_up (va_up i9 5 v_place) 4 v_spot) 6 v_token) 8 v_toldOnes) 7 v_value) 2 v_wrong) 3 v_wrongAt) 5 q160.1) 4 q160.2.1) 6 q160.2.2.1) 7 q160.2.2.2.1) 2 q160.2.2.2.2.1) 3 q160.2.2.2.2.2) g9)), ((a9 2), .inl (cyI, 12, .inl c_cuts)), ((a9 3), .inl (cyI, 56, .inl c_letters)), ((a9 1), .inl (cyI, 240, .inl c_tape))]) (wn := [(a9 0, .inr (9, fl9 a9 (va_up (va_up (va_up (va_up (va_up (va_up (va_up (va_up (va_up (va_up (va_up (va_up (va_up i9 5 v_place) 4 v_spot) 6 v_token) 8 v_toldOnes) 7 v_value) 2 v_wrong) 3 v_wrongAt) 5 q160.1) 4 q160.2.1) 6 q160.2.2.1) 7 q160.2.2.2.1) 2 q160.2.2.2.2.1) 3 q160.2.2.2.2.2) g9)), ((a9 2), .inl (cyI, 12, .inl c_cuts)), ((a9 3), .inl (cyI, 56, .inl c_letters)), ((a9 6), .inl (cyI, 32, .inl c_reads)), ((a9 1), .inl (cyI, 240, .inl c_tape))]) hP hD hS hA [0, 1, 2, 4] [3] [1, 2, 3, 0, 4] rfl rfl rfl (by decide) rfl rfl (va_runV (C := RX9) (As := []) (rest := []) ⟨hx, hb, hml, hown, hL⟩ (mX9_next l D cyI cyJ cyB cyS N H.size a9 (va_up (va_up (va_up (va_up (va_up (va_up (va_up i9 5 v_place) 4 v_spot) 6 v_token) 8 v_toldOnes) 7 v_value) 2 v_wrong) 3 v_wrongAt) g9 c_cuts c_letters c_tape  q160 e160) (cwV 0 hL (gV (hR16 20 rfl) (hR16 21 rfl) (hR16 22 rfl) (hR1 5 rfl) (hR16 23 rfl)) rfl rfl rfl (by decide +kernel) ⟨Nat.le_of_ble_eq_true rfl, Nat.le_of_ble_eq_true rfl⟩) (PP_preV (ci := 9) (q0 := 0) hP hD hK [0, 1, 2, 4] rfl rfl rfl rfl) rfl rfl hl.1 rfl (lv_room (Nat.le_of_ble_eq_true rfl)) dX9_readPair_160 ⟨Nat.le_of_ble_eq_true rfl, Nat.le_of_ble_eq_true rfl⟩) (fun H locs hP hD hS => ?_)
    exact ret_v (q := q) (wp := fun q => [(a9 0, .inr (9, fl9 a9 (va_up (va_up (va_up (va_up (va_up (va_up (va_up i9 5 q.1) 4 q.2.1) 6 q.2.2.1) 8 q.2.2.2.1) 7 q.2.2.2.2.1) 2 q.2.2.2.2.2.1) 3 q.2.2.2.2.2.2.1) g9)), ((a9 2), .inl (cyI, 12, .inl c_cuts)), ((a9 3), .inl (cyI, 56, .inl c_letters)), ((a9 6), .inl (cyI, 32, .inl q.2.2.2.2.2.2.2)), ((a9 1), .inl (cyI, 240, .inl c_tape))]) hQ hf hx hb hr hlocks hP hD hS dX9_readPair_163
  have hB137 : ∀ (x2 : Int32) (x3 : Int32) (s1 : Int32) (s2 : Int32) (v_place : Int32) (v_spot : Int32) (v_token : Int32) (v_toldOnes : Int32) (v_value : Int32) (v_wrong : Int32) (v_wrongAt : Int32) (c_reads : Nat → Int32) (H : Heap) (locs : List Loc) (ls : Array Slot), fX9_readPair_137 N (i9 0) c_cuts c_letters c_tape x1 x2 x3 s1 s2 v_place v_spot v_token v_toldOnes v_value v_wrong v_wrongAt c_reads = some q → va_P D vwCl [(a9 0, .inr (9, fl9 a9 (va_up (va_up (va_up (va_up (va_up (va_up (va_up i9 5 v_place) 4 v_spot) 6 v_token) 8 v_toldOnes) 7 v_value) 2 v_wrong) 3 v_wrongAt) g9)), ((a9 2), .inl (cyI, 12, .inl c_cuts)), ((a9 3), .inl (cyI, 56, .inl c_letters)), ((a9 6), .inl (cyI, 32, .inl c_reads)), ((a9 1), .inl (cyI, 240, .inl c_tape))] H → va_D A [(a9 0, .inr (9, fl9 a9 (va_up (va_up (va_up (va_up (va_up (va_up (va_up i9 5 v_place) 4 v_spot) 6 v_token) 8 v_toldOnes) 7 v_value) 2 v_wrong) 3 v_wrongAt) g9)), ((a9 2), .inl (cyI, 12, .inl c_cuts)), ((a9 3), .inl (cyI, 56, .inl c_letters)), ((a9 6), .inl (cyI, 32, .inl c_reads)), ((a9 1), .inl (cyI, 240, .inl c_tape))] → va_S A s.heap H locs → lv_has ls 5 [(0, .ref (a9 0)), (2, .int x2), (3, .int x3)] → W p l e rmX9_readPair s m av below meth c H locs 0 0 Q (F0 m 137 ls [.int s2, .int s1, .ref (a9 0)]) := by
    intro x2 x3 s1 s2 v_place v_spot v_token v_toldOnes v_value v_wrong v_wrongAt c_reads H locs ls hf hP hD hS hl
    unfold fX9_readPair_137 at hf
    obtain ⟨q137, e137, hf⟩ := pb_some hf
    refine cc_i (wc := [(a9 0, .inr (9, fl9 a9 (va_up (va_up (va_up (va_up (va_up (va_up (va_up i9 5 v_place) 4 v_spot) 6 v_token) 8 v_toldOnes) 7 v_value) 2 v_wrong) 3 v_wrongAt) g9))]) (wr := [((a9 2), .inl (cyI, 12, .inl c_cuts)), ((a9 3), .inl (cyI, 56, .inl c_letters)), ((a9 6), .inl (cyI, 32, .inl c_reads)), ((a9 1), .inl (cyI, 240, .inl c_tape))]) (w1 := [(a9 0, .inr (9, fl9 a9 (va_up (va_up (va_up (va_up (va_up (va_up (va_up (va_up (va_up i9 5 v_place) 4 v_spot) 6 v_token) 8 v_toldOnes) 7 v_value) 2 v_wrong) 3 v_wrongAt) 2 q137.2.1) 3 q137.2.2) g9))]) (wn := [(a9 0, .inr (9, fl9 a9 (va_up (va_up (va_up (va_up (va_up (va_up (va_up (va_up (va_up i9 5 v_place) 4 v_spot) 6 v_token) 8 v_toldOnes) 7 v_value) 2 v_wrong) 3 v_wrongAt) 2 q137.2.1) 3 q137.2.2) g9)), ((a9 2), .inl (cyI, 12, .inl c_cuts)), ((a9 3), .inl (cyI, 56, .inl c_letters)), ((a9 6), .inl (cyI, 32, .inl c_reads)), ((a9 1), .inl (cyI, 240, .inl c_tape))]) hP hD hS hA [0] [1, 2, 3, 4] [4, 0, 1, 2, 3] rfl rfl rfl (by decide) rfl rfl (va_runV (C := RX9) (As := [.int s1, .int s2]) (rest := []) ⟨hx, hb, hml, hown, hL⟩ (mX9_number l D cyI cyJ cyB cyS N H.size a9 (va_up (va_up (va_up (va_up (va_up (va_up (va_up i9 5 v_place) 4 v_spot) 6 v_token) 8 v_toldOnes) 7 v_value) 2 v_wrong) 3 v_wrongAt) g9  s1 s2 q137 e137) (cwV 2 hL (gV (hR17 21 rfl) (hR17 22 rfl) (hR17 23 rfl) (hR1 5 rfl) (hR18 0 rfl)) rfl rfl rfl (by decide +kernel) ⟨Nat.le_of_ble_eq_true rfl, Nat.le_of_ble_eq_true rfl⟩) (PP_preV (ci := 9) (q0 := 0) hP hD hK [0] rfl rfl rfl rfl) rfl rfl hl.1 rfl (lv_room (Nat.le_of_ble_eq_true rfl)) dX9_readPair_137 ⟨Nat.le_of_ble_eq_true rfl, Nat.le_of_ble_eq_true rfl⟩) (fun H locs hP hD hS => ?_)
    refine lv_istore (lv' := [(4, .int q137.1), (0, .ref (a9 0)), (2, .int x2), (3, .int x3)]) hx hb dX9_readPair_140 hl (by decide) rfl (fun ls hl => ?_)
    refine lv_aload_n hx hb dX9_readPair_142 rfl (lv_at hl 1 rfl) ?_
    refine va_get (D := D) (ci := 9) (v := .int q137.2.1) (C := RX9) (T := TX9) (N := 52) hx hb hL inlX9 hown hK.1 hP 0 rfl rfl 3 (by decide) w0 (fun _ h9 => h9) rfl dX9_readPair_143 ?_
    refine lv_if_ne (tgt := 159) hx hb dX9_readPair_146 (by decide) (fun c146 => ?_) (fun c146 => ?_)
    · have hf := pif_f c146 hf
      exact hB159 v_place v_spot v_token v_toldOnes v_value q137.2.1 q137.2.2 c_reads H locs ls hf hP hD hS (lv_sub hl [1] rfl)
    · have hf := pif_t c146 hf
      refine lv_aload_n hx hb dX9_readPair_149 rfl (lv_at hl 1 rfl) ?_
      refine va_get (D := D) (ci := 9) (v := .ref (a9 6)) (C := RX9) (T := TX9) (N := 52) hx hb hL inlX9 hown hK.1 hP 0 rfl rfl 13 (by decide) w1 (fun _ h9 => h9) rfl dX9_readPair_150 ?_
      refine lv_iload_n hx hb dX9_readPair_153 rfl (lv_at hl 2 rfl) ?_
      refine lv_iload_n hx hb dX9_readPair_154 rfl (lv_at hl 3 rfl) ?_
      refine lv_iadd hx hb dX9_readPair_155 ?_
      refine lv_iload hx hb dX9_readPair_156 (lv_at hl 0 rfl) ?_
      obtain ⟨h158, hf⟩ := pg_some hf
      refine va_iast hx hb hK.1 hP hD hS 3 0 rfl rfl h158 dX9_readPair_158 (fun H locs hP hD hS => ?_)
      have hP : va_P D vwCl [(a9 0, .inr (9, fl9 a9 (va_up (va_up (va_up (va_up (va_up (va_up (va_up (va_up (va_up i9 5 v_place) 4 v_spot) 6 v_token) 8 v_toldOnes) 7 v_value) 2 v_wrong) 3 v_wrongAt) 2 q137.2.1) 3 q137.2.2) g9)), ((a9 2), .inl (cyI, 12, .inl c_cuts)), ((a9 3), .inl (cyI, 56, .inl c_letters)), ((a9 6), .inl (cyI, 32, .inl (upd c_reads (x2 + x3).toNatClampNeg q137.1))), ((a9 1), .inl (cyI, 240, .inl c_tape))] H := hP
      have hD : va_D A [(a9 0, .inr (9, fl9 a9 (va_up (va_up (va_up (va_up (va_up (va_up (va_up (va_up (va_up i9 5 v_place) 4 v_spot) 6 v_token) 8 v_toldOnes) 7 v_value) 2 v_wrong) 3 v_wrongAt) 2 q137.2.1) 3 q137.2.2) g9)), ((a9 2), .inl (cyI, 12, .inl c_cuts)), ((a9 3), .inl (cyI, 56, .inl c_letters)), ((a9 6), .inl (cyI, 32, .inl (upd c_reads (x2 + x3).toNatClampNeg q137.1))), ((a9 1), .inl (cyI, 240, .inl c_tape))] := hD
      exact hB159 v_place v_spot v_token v_toldOnes v_value q137.2.1 q137.2.2 (upd c_reads (x2 + x3).toNatClampNeg q137.1) H locs ls hf hP hD hS (lv_sub hl [1] rfl)
  have hB97 : ∀ (x2 : Int32) (x3 : Int32) (s1 : Int32) (v_place : Int32) (v_spot : Int32) (v_token : Int32) (v_toldOnes : Int32) (v_value : Int32) (v_wrong : Int32) (v_wrongAt : Int32) (c_reads : Nat → Int32) (H : Heap) (locs : List Loc) (ls : Array Slot), fX9_readPair_97 N (i9 0) c_cuts c_letters c_tape x1 x2 x3 s1 v_place v_spot v_token v_toldOnes v_value v_wrong v_wrongAt c_reads = some q → va_P D vwCl [(a9 0, .inr (9, fl9 a9 (va_up (va_up (va_up (va_up (va_up (va_up (va_up i9 5 v_place) 4 v_spot) 6 v_token) 8 v_toldOnes) 7 v_value) 2 v_wrong) 3 v_wrongAt) g9)), ((a9 2), .inl (cyI, 12, .inl c_cuts)), ((a9 3), .inl (cyI, 56, .inl c_letters)), ((a9 6), .inl (cyI, 32, .inl c_reads)), ((a9 1), .inl (cyI, 240, .inl c_tape))] H → va_D A [(a9 0, .inr (9, fl9 a9 (va_up (va_up (va_up (va_up (va_up (va_up (va_up i9 5 v_place) 4 v_spot) 6 v_token) 8 v_toldOnes) 7 v_value) 2 v_wrong) 3 v_wrongAt) g9)), ((a9 2), .inl (cyI, 12, .inl c_cuts)), ((a9 3), .inl (cyI, 56, .inl c_letters)), ((a9 6), .inl (cyI, 32, .inl c_reads)), ((a9 1), .inl (cyI, 240, .inl c_tape))] → va_S A s.heap H locs → lv_has ls 5 [(0, .ref (a9 0)), (2, .int x2), (3, .int x3)] → W p l e rmX9_readPair s m av below meth c H locs 0 0 Q (F0 m 97 ls [.int s1, .ref (a9 0)]) := by
    intro x2 x3 s1 v_place v_spot v_token v_toldOnes v_value v_wrong v_wrongAt c_reads H locs ls hf hP hD hS hl
    unfold fX9_readPair_97 at hf
    refine lv_iload_n hx hb dX9_readPair_97 rfl (lv_at hl 1 rfl) ?_
    refine lv_iconst (v := 2) hx hb dX9_readPair_98 (by decide) ?_
    refine lv_icmp_ne (tgt := 107) hx hb dX9_readPair_99 (by decide) (fun c99 => ?_) (fun c99 => ?_)
    · have hf := pif_f c99 hf
      refine lv_iload_n hx hb dX9_readPair_107 rfl (lv_at hl 1 rfl) ?_
      refine lv_bipush (v := 20) hx hb dX9_readPair_108 (by decide) ?_
      refine lv_icmp_ne (tgt := 118) hx hb dX9_readPair_110 (by decide) (fun c110 => ?_) (fun c110 => ?_)
      · have hf := pif_f c110 hf
        refine lv_iload_n hx hb dX9_readPair_118 rfl (lv_at hl 1 rfl) ?_
        refine lv_bipush (v := 26) hx hb dX9_readPair_119 (by decide) ?_
        refine lv_icmp_ne (tgt := 135) hx hb dX9_readPair_121 (by decide) (fun c121 => ?_) (fun c121 => ?_)
        · have hf := pif_f c121 hf
          refine lv_bipush (v := 99) hx hb dX9_readPair_135 (by decide) ?_
          exact hB137 x2 x3 s1 99 v_place v_spot v_token v_toldOnes v_value v_wrong v_wrongAt c_reads H locs ls hf hP hD hS (lv_sub hl [0, 1, 2] rfl)
        · have hf := pif_t c121 hf
          refine lv_aload_n hx hb dX9_readPair_124 rfl (lv_at hl 0 rfl) ?_
          refine va_get (D := D) (ci := 9) (v := .ref (a9 6)) (C := RX9) (T := TX9) (N := 52) hx hb hL inlX9 hown hK.1 hP 0 rfl rfl 13 (by decide) w1 (fun _ h9 => h9) rfl dX9_readPair_125 ?_
          refine lv_iconst (v := 0) hx hb dX9_readPair_128 (by decide) ?_
          obtain ⟨h129, hf⟩ := pg_some hf
          refine va_iald hx hb hK.1 hP 3 0 rfl rfl h129 dX9_readPair_129 ?_
          refine lv_iconst (v := 1) hx hb dX9_readPair_130 (by decide) ?_
          refine lv_isub hx hb dX9_readPair_131 ?_
          refine lv_goto (tgt := 137) hx hb dX9_readPair_132 (by decide) ?_
          exact hB137 x2 x3 s1 ((c_reads (0 : Int32).toNatClampNeg) - 1) v_place v_spot v_token v_toldOnes v_value v_wrong v_wrongAt c_reads H locs ls hf hP hD hS (lv_sub hl [0, 1, 2] rfl)
      · have hf := pif_t c110 hf
        refine lv_bipush (v := 20) hx hb dX9_readPair_113 (by decide) ?_
        refine lv_goto (tgt := 137) hx hb dX9_readPair_115 (by decide) ?_
        exact hB137 x2 x3 s1 20 v_place v_spot v_token v_toldOnes v_value v_wrong v_wrongAt c_reads H locs ls hf hP hD hS (lv_sub hl [0, 1, 2] rfl)
    · have hf := pif_t c99 hf
      refine lv_bipush (v := 9) hx hb dX9_readPair_102 (by decide) ?_
      refine lv_goto (tgt := 137) hx hb dX9_readPair_104 (by decide) ?_
      exact hB137 x2 x3 s1 9 v_place v_spot v_token v_toldOnes v_value v_wrong v_wrongAt c_reads H locs ls hf hP hD hS (lv_sub hl [0, 1, 2] rfl)
  have hB78 : ∀ (x2 : Int32) (x3 : Int32) (s1 : Int32) (s2 : Int32) (v_place : Int32) (v_spot : Int32) (v_token : Int32) (v_toldOnes : Int32) (v_value : Int32) (v_wrong : Int32) (v_wrongAt : Int32) (c_reads : Nat → Int32) (H : Heap) (locs : List Loc) (ls : Array Slot), fX9_readPair_78 N (i9 0) c_cuts c_letters c_tape x1 x2 x3 s1 s2 v_place v_spot v_token v_toldOnes v_value v_wrong v_wrongAt c_reads = some q → va_P D vwCl [(a9 0, .inr (9, fl9 a9 (va_up (va_up (va_up (va_up (va_up (va_up (va_up i9 5 v_place) 4 v_spot) 6 v_token) 8 v_toldOnes) 7 v_value) 2 v_wrong) 3 v_wrongAt) g9)), ((a9 2), .inl (cyI, 12, .inl c_cuts)), ((a9 3), .inl (cyI, 56, .inl c_letters)), ((a9 6), .inl (cyI, 32, .inl c_reads)), ((a9 1), .inl (cyI, 240, .inl c_tape))] H → va_D A [(a9 0, .inr (9, fl9 a9 (va_up (va_up (va_up (va_up (va_up (va_up (va_up i9 5 v_place) 4 v_spot) 6 v_token) 8 v_toldOnes) 7 v_value) 2 v_wrong) 3 v_wrongAt) g9)), ((a9 2), .inl (cyI, 12, .inl c_cuts)), ((a9 3), .inl (cyI, 56, .inl c_letters)), ((a9 6), .inl (cyI, 32, .inl c_reads)), ((a9 1), .inl (cyI, 240, .inl c_tape))] → va_S A s.heap H locs → lv_has ls 5 [(0, .ref (a9 0)), (2, .int x2), (3, .int x3)] → W p l e rmX9_readPair s m av below meth c H locs 0 0 Q (F0 m 78 ls [.int s2, .int s1, .ref (a9 0)]) := by
    intro x2 x3 s1 s2 v_place v_spot v_token v_toldOnes v_value v_wrong v_wrongAt c_reads H locs ls hf hP hD hS hl
    unfold fX9_readPair_78 at hf
    refine lv_ior hx hb dX9_readPair_78 ?_
    refine va_put (D := D) (ci := 9) (v := .int (s1 ||| s2)) (ty := .int) (C := RX9) (T := TX9) (N := 52) hx hb hL inlX9 tyX9 tyX9_ok nmX9 hown hK.1 hP hD hS 0 rfl rfl 14 (by decide) w2 (fun _ h9 => h9) rfl (by decide +kernel) rfl rfl (Nat.le_of_ble_eq_true rfl) dX9_readPair_79 (fun H locs hP hD hS => ?_)
    rw [fl9_s14] at hP hD
    have hP : va_P D vwCl [(a9 0, .inr (9, fl9 a9 (va_up (va_up (va_up (va_up (va_up (va_up (va_up (va_up i9 5 v_place) 4 v_spot) 6 v_token) 8 v_toldOnes) 7 v_value) 2 v_wrong) 3 v_wrongAt) 8 (s1 ||| s2)) g9)), ((a9 2), .inl (cyI, 12, .inl c_cuts)), ((a9 3), .inl (cyI, 56, .inl c_letters)), ((a9 6), .inl (cyI, 32, .inl c_reads)), ((a9 1), .inl (cyI, 240, .inl c_tape))] H := hP
    have hD : va_D A [(a9 0, .inr (9, fl9 a9 (va_up (va_up (va_up (va_up (va_up (va_up (va_up (va_up i9 5 v_place) 4 v_spot) 6 v_token) 8 v_toldOnes) 7 v_value) 2 v_wrong) 3 v_wrongAt) 8 (s1 ||| s2)) g9)), ((a9 2), .inl (cyI, 12, .inl c_cuts)), ((a9 3), .inl (cyI, 56, .inl c_letters)), ((a9 6), .inl (cyI, 32, .inl c_reads)), ((a9 1), .inl (cyI, 240, .inl c_tape))] := hD
    refine lv_aload_n hx hb dX9_readPair_82 rfl (lv_at hl 0 rfl) ?_
    obtain ⟨q83, e83, hf⟩ := pb_some hf
    refine cc_v (wc := [(a9 0, .inr (9, fl9 a9 (va_up (va_up (va_up (va_up (va_up (va_up (va_up (va_up i9 5 v_place) 4 v_spot) 6 v_token) 8 v_toldOnes) 7 v_value) 2 v_wrong) 3 v_wrongAt) 8 (s1 ||| s2)) g9)), ((a9 2), .inl (cyI, 12, .inl c_cuts)), ((a9 3), .inl (cyI, 56, .inl c_letters)), ((a9 1), .inl (cyI, 240, .inl c_tape))]) (wr := [((a9 6), .inl (cyI, 32, .inl c_reads))]) (w1 := [(a9 0, .inr (9, fl9 a9 (va_up (va_up (va_up (va_up (va_up (va_up (va_up (va_up (va_up (va_up (va_up (va_up (va_up (va_up i9 5 v_place) 4 v_spot) 6 v_token) 8 v_toldOnes) 7 v_value) 2 v_wrong) 3 v_wrongAt) 8 (s1 ||| s2)) 5 q83.1) 4 q83.2.1) 6 q83.2.2.1) 7 q83.2.2.2.1) 2 q83.2.2.2.2.1) 3 q83.2.2.2.2.2) g9)), ((a9 2), .inl (cyI, 12, .inl c_cuts)), ((a9 3), .inl (cyI, 56, .inl c_letters)), ((a9 1), .inl (cyI, 240, .inl c_tape))]) (wn := [(a9 0, .inr (9, fl9 a9 (va_up (va_up (va_up (va_up (va_up (va_up (va_up (va_up (va_up (va_up (va_up (va_up (va_up (va_up i9 5 v_place) 4 v_spot) 6 v_token) 8 v_toldOnes) 7 v_value) 2 v_wrong) 3 v_wrongAt) 8 (s1 ||| s2)) 5 q83.1) 4 q83.2.1) 6 q83.2.2.1) 7 q83.2.2.2.1) 2 q83.2.2.2.2.1) 3 q83.2.2.2.2.2) g9)), ((a9 2), .inl (cyI, 12, .inl c_cuts)), ((a9 3), .inl (cyI, 56, .inl c_letters)), ((a9 6), .inl (cyI, 32, .inl c_reads)), ((a9 1), .inl (cyI, 240, .inl c_tape))]) hP hD hS hA [0, 1, 2, 4] [3] [1, 2, 3, 0, 4] rfl rfl rfl (by decide) rfl rfl (va_runV (C := RX9) (As := []) (rest := []) ⟨hx, hb, hml, hown, hL⟩ (mX9_next l D cyI cyJ cyB cyS N H.size a9 (va_up (va_up (va_up (va_up (va_up (va_up (va_up (va_up i9 5 v_place) 4 v_spot) 6 v_token) 8 v_toldOnes) 7 v_value) 2 v_wrong) 3 v_wrongAt) 8 (s1 ||| s2)) g9 c_cuts c_letters c_tape  q83 e83) (cwV 0 hL (gV (hR16 20 rfl) (hR16 21 rfl) (hR16 22 rfl) (hR1 5 rfl) (hR16 23 rfl)) rfl rfl rfl (by decide +kernel) ⟨Nat.le_of_ble_eq_true rfl, Nat.le_of_ble_eq_true rfl⟩) (PP_preV (ci := 9) (q0 := 0) hP hD hK [0, 1, 2, 4] rfl rfl rfl rfl) rfl rfl hl.1 rfl (lv_room (Nat.le_of_ble_eq_true rfl)) dX9_readPair_83 ⟨Nat.le_of_ble_eq_true rfl, Nat.le_of_ble_eq_true rfl⟩) (fun H locs hP hD hS => ?_)
    refine lv_aload_n hx hb dX9_readPair_86 rfl (lv_at hl 0 rfl) ?_
    refine lv_iload_n hx hb dX9_readPair_87 rfl (lv_at hl 1 rfl) ?_
    refine lv_iconst (v := 2) hx hb dX9_readPair_88 (by decide) ?_
    refine lv_icmp_ne (tgt := 96) hx hb dX9_readPair_89 (by decide) (fun c89 => ?_) (fun c89 => ?_)
    · have hf := pif_f c89 hf
      refine lv_iconst (v := 0) hx hb dX9_readPair_96 (by decide) ?_
      exact hB97 x2 x3 0 q83.1 q83.2.1 q83.2.2.1 (s1 ||| s2) q83.2.2.2.1 q83.2.2.2.2.1 q83.2.2.2.2.2 c_reads H locs ls hf hP hD hS (lv_sub hl [0, 1, 2] rfl)
    · have hf := pif_t c89 hf
      refine lv_iconst (v := 1) hx hb dX9_readPair_92 (by decide) ?_
      refine lv_goto (tgt := 97) hx hb dX9_readPair_93 (by decide) ?_
      exact hB97 x2 x3 1 q83.1 q83.2.1 q83.2.2.1 (s1 ||| s2) q83.2.2.2.1 q83.2.2.2.2.1 q83.2.2.2.2.2 c_reads H locs ls hf hP hD hS (lv_sub hl [0, 1, 2] rfl)
  have hB55 : ∀ (x2 : Int32) (x3 : Int32) (v_place : Int32) (v_spot : Int32) (v_token : Int32) (v_toldOnes : Int32) (v_value : Int32) (v_wrong : Int32) (v_wrongAt : Int32) (c_reads : Nat → Int32) (H : Heap) (locs : List Loc) (ls : Array Slot), fX9_readPair_55 N (i9 0) c_cuts c_letters c_tape x1 x2 x3 v_place v_spot v_token v_toldOnes v_value v_wrong v_wrongAt c_reads = some q → va_P D vwCl [(a9 0, .inr (9, fl9 a9 (va_up (va_up (va_up (va_up (va_up (va_up (va_up i9 5 v_place) 4 v_spot) 6 v_token) 8 v_toldOnes) 7 v_value) 2 v_wrong) 3 v_wrongAt) g9)), ((a9 2), .inl (cyI, 12, .inl c_cuts)), ((a9 3), .inl (cyI, 56, .inl c_letters)), ((a9 6), .inl (cyI, 32, .inl c_reads)), ((a9 1), .inl (cyI, 240, .inl c_tape))] H → va_D A [(a9 0, .inr (9, fl9 a9 (va_up (va_up (va_up (va_up (va_up (va_up (va_up i9 5 v_place) 4 v_spot) 6 v_token) 8 v_toldOnes) 7 v_value) 2 v_wrong) 3 v_wrongAt) g9)), ((a9 2), .inl (cyI, 12, .inl c_cuts)), ((a9 3), .inl (cyI, 56, .inl c_letters)), ((a9 6), .inl (cyI, 32, .inl c_reads)), ((a9 1), .inl (cyI, 240, .inl c_tape))] → va_S A s.heap H locs → lv_has ls 5 [(0, .ref (a9 0)), (2, .int x2), (3, .int x3)] → W p l e rmX9_readPair s m av below meth c H locs 0 0 Q (F0 m 55 ls []) := by
    intro x2 x3 v_place v_spot v_token v_toldOnes v_value v_wrong v_wrongAt c_reads H locs ls hf hP hD hS hl
    unfold fX9_readPair_55 at hf
    refine lv_aload_n hx hb dX9_readPair_55 rfl (lv_at hl 0 rfl) ?_
    refine lv_dup hx hb dX9_readPair_56 rfl ?_
    refine va_get (D := D) (ci := 9) (v := .int v_toldOnes) (C := RX9) (T := TX9) (N := 52) hx hb hL inlX9 hown hK.1 hP 0 rfl rfl 14 (by decide) w2 (fun _ h9 => h9) rfl dX9_readPair_57 ?_
    refine lv_aload_n hx hb dX9_readPair_60 rfl (lv_at hl 0 rfl) ?_
    refine va_get (D := D) (ci := 9) (v := .int v_wrong) (C := RX9) (T := TX9) (N := 52) hx hb hL inlX9 hown hK.1 hP 0 rfl rfl 3 (by decide) w0 (fun _ h9 => h9) rfl dX9_readPair_61 ?_
    refine lv_if_ne (tgt := 77) hx hb dX9_readPair_64 (by decide) (fun c64 => ?_) (fun c64 => ?_)
    · have hf := pif_f c64 hf
      refine lv_iconst (v := 0) hx hb dX9_readPair_77 (by decide) ?_
      exact hB78 x2 x3 v_toldOnes 0 v_place v_spot v_token v_toldOnes v_value v_wrong v_wrongAt c_reads H locs ls hf hP hD hS (lv_sub hl [0, 1, 2] rfl)
    · have hf := pif_t c64 hf
      refine lv_iconst (v := 1) hx hb dX9_readPair_67 (by decide) ?_
      refine lv_iload_n hx hb dX9_readPair_68 rfl (lv_at hl 1 rfl) ?_
      refine lv_iload_n hx hb dX9_readPair_69 rfl (lv_at hl 2 rfl) ?_
      refine lv_iadd hx hb dX9_readPair_70 ?_
      refine lv_iconst (v := 2) hx hb dX9_readPair_71 (by decide) ?_
      refine lv_isub hx hb dX9_readPair_72 ?_
      refine lv_ishl hx hb dX9_readPair_73 ?_
      refine lv_goto (tgt := 78) hx hb dX9_readPair_74 (by decide) ?_
      exact hB78 x2 x3 v_toldOnes (1 <<< (((x2 + x3) - 2) &&& 31)) v_place v_spot v_token v_toldOnes v_value v_wrong v_wrongAt c_reads H locs ls hf hP hD hS (lv_sub hl [0, 1, 2] rfl)
  unfold fX9_readPair at hf
  obtain ⟨H, hH⟩ : ∃ H : Heap, H = s.heap := ⟨_, rfl⟩
  obtain ⟨locs, hlo⟩ : ∃ locs : List Loc, locs = [] := ⟨_, rfl⟩
  have hP : va_P D vwCl [(a9 0, .inr (9, fl9 a9 i9 g9)), ((a9 2), .inl (cyI, 12, .inl c_cuts)), ((a9 3), .inl (cyI, 56, .inl c_letters)), ((a9 6), .inl (cyI, 32, .inl c_reads)), ((a9 1), .inl (cyI, 240, .inl c_tape))] H := by rw [hH]; exact hP
  have hS : va_S A s.heap H locs := by rw [hH, hlo]; exact hS
  suffices hw : W p l e rmX9_readPair s m av below meth c H locs 0 0 Q (F0 m 0 ls []) by rw [hH, hlo] at hw; exact hw
  refine lv_iconst (v := 2) hx hb dX9_readPair_0 (by decide) ?_
  refine lv_bipush (v := 6) hx hb dX9_readPair_1 (by decide) ?_
  refine lv_iload_n hx hb dX9_readPair_3 rfl (lv_at hl 1 rfl) ?_
  refine lv_iconst (v := 1) hx hb dX9_readPair_4 (by decide) ?_
  refine lv_isub hx hb dX9_readPair_5 ?_
  refine lv_imul hx hb dX9_readPair_6 ?_
  refine lv_iadd hx hb dX9_readPair_7 ?_
  refine lv_istore_n (lv' := [(2, .int (2 + (6 * (x1 - 1)))), (0, .ref (a9 0)), (1, .int x1)]) hx hb dX9_readPair_8 rfl hl (by decide) rfl (fun ls hl => ?_)
  refine lv_aload_n hx hb dX9_readPair_9 rfl (lv_at hl 1 rfl) ?_
  obtain ⟨q10, e10, hf⟩ := pb_some hf
  refine cc_v (wc := [(a9 0, .inr (9, fl9 a9 i9 g9)), ((a9 2), .inl (cyI, 12, .inl c_cuts)), ((a9 3), .inl (cyI, 56, .inl c_letters)), ((a9 1), .inl (cyI, 240, .inl c_tape))]) (wr := [((a9 6), .inl (cyI, 32, .inl c_reads))]) (w1 := [(a9 0, .inr (9, fl9 a9 (va_up (va_up (va_up (va_up (va_up (va_up i9 5 q10.1) 4 q10.2.1) 6 q10.2.2.1) 7 q10.2.2.2.1) 2 q10.2.2.2.2.1) 3 q10.2.2.2.2.2) g9)), ((a9 2), .inl (cyI, 12, .inl c_cuts)), ((a9 3), .inl (cyI, 56, .inl c_letters)), ((a9 1), .inl (cyI, 240, .inl c_tape))]) (wn := [(a9 0, .inr (9, fl9 a9 (va_up (va_up (va_up (va_up (va_up (va_up i9 5 q10.1) 4 q10.2.1) 6 q10.2.2.1) 7 q10.2.2.2.1) 2 q10.2.2.2.2.1) 3 q10.2.2.2.2.2) g9)), ((a9 2), .inl (cyI, 12, .inl c_cuts)), ((a9 3), .inl (cyI, 56, .inl c_letters)), ((a9 6), .inl (cyI, 32, .inl c_reads)), ((a9 1), .inl (cyI, 240, .inl c_tape))]) hP hD hS hA [0, 1, 2, 4] [3] [1, 2, 3, 0, 4] rfl rfl rfl (by decide) rfl rfl (va_runV (C := RX9) (As := []) (rest := []) ⟨hx, hb, hml, hown, hL⟩ (mX9_next l D cyI cyJ cyB cyS N H.size a9 i9 g9 c_cuts c_letters c_tape  q10 e10) (cwV 0 hL (gV (hR16 20 rfl) (hR16 21 rfl) (hR16 22 rfl) (hR1 5 rfl) (hR16 23 rfl)) rfl rfl rfl (by decide +kernel) ⟨Nat.le_of_ble_eq_true rfl, Nat.le_of_ble_eq_true rfl⟩) (PP_preV (ci := 9) (q0 := 0) hP hD hK [0, 1, 2, 4] rfl rfl rfl rfl) rfl rfl hl.1 rfl (lv_room (Nat.le_of_ble_eq_true rfl)) dX9_readPair_10 ⟨Nat.le_of_ble_eq_true rfl, Nat.le_of_ble_eq_true rfl⟩) (fun H locs hP hD hS => ?_)
  refine lv_aload_n hx hb dX9_readPair_13 rfl (lv_at hl 1 rfl) ?_
  refine lv_iconst (v := 0) hx hb dX9_readPair_14 (by decide) ?_
  refine lv_aload_n hx hb dX9_readPair_15 rfl (lv_at hl 1 rfl) ?_
  refine va_get (D := D) (ci := 9) (v := .ref (a9 6)) (C := RX9) (T := TX9) (N := 52) hx hb hL inlX9 hown hK.1 hP 0 rfl rfl 13 (by decide) w1 (fun _ h9 => h9) rfl dX9_readPair_16 ?_
  refine lv_iconst (v := 0) hx hb dX9_readPair_19 (by decide) ?_
  obtain ⟨h20, hf⟩ := pg_some hf
  refine va_iald hx hb hK.1 hP 3 0 rfl rfl h20 dX9_readPair_20 ?_
  refine lv_iconst (v := 1) hx hb dX9_readPair_21 (by decide) ?_
  refine lv_isub hx hb dX9_readPair_22 ?_
  obtain ⟨q23, e23, hf⟩ := pb_some hf
  refine cc_i (wc := [(a9 0, .inr (9, fl9 a9 (va_up (va_up (va_up (va_up (va_up (va_up i9 5 q10.1) 4 q10.2.1) 6 q10.2.2.1) 7 q10.2.2.2.1) 2 q10.2.2.2.2.1) 3 q10.2.2.2.2.2) g9))]) (wr := [((a9 2), .inl (cyI, 12, .inl c_cuts)), ((a9 3), .inl (cyI, 56, .inl c_letters)), ((a9 6), .inl (cyI, 32, .inl c_reads)), ((a9 1), .inl (cyI, 240, .inl c_tape))]) (w1 := [(a9 0, .inr (9, fl9 a9 (va_up (va_up (va_up (va_up (va_up (va_up (va_up (va_up i9 5 q10.1) 4 q10.2.1) 6 q10.2.2.1) 7 q10.2.2.2.1) 2 q10.2.2.2.2.1) 3 q10.2.2.2.2.2) 2 q23.2.1) 3 q23.2.2) g9))]) (wn := [(a9 0, .inr (9, fl9 a9 (va_up (va_up (va_up (va_up (va_up (va_up (va_up (va_up i9 5 q10.1) 4 q10.2.1) 6 q10.2.2.1) 7 q10.2.2.2.1) 2 q10.2.2.2.2.1) 3 q10.2.2.2.2.2) 2 q23.2.1) 3 q23.2.2) g9)), ((a9 2), .inl (cyI, 12, .inl c_cuts)), ((a9 3), .inl (cyI, 56, .inl c_letters)), ((a9 6), .inl (cyI, 32, .inl c_reads)), ((a9 1), .inl (cyI, 240, .inl c_tape))]) hP hD hS hA [0] [1, 2, 3, 4] [4, 0, 1, 2, 3] rfl rfl rfl (by decide) rfl rfl (va_runV (C := RX9) (As := [.int 0, .int ((c_reads (0 : Int32).toNatClampNeg) - 1)]) (rest := []) ⟨hx, hb, hml, hown, hL⟩ (mX9_number l D cyI cyJ cyB cyS N H.size a9 (va_up (va_up (va_up (va_up (va_up (va_up i9 5 q10.1) 4 q10.2.1) 6 q10.2.2.1) 7 q10.2.2.2.1) 2 q10.2.2.2.2.1) 3 q10.2.2.2.2.2) g9  0 ((c_reads (0 : Int32).toNatClampNeg) - 1) q23 e23) (cwV 2 hL (gV (hR17 21 rfl) (hR17 22 rfl) (hR17 23 rfl) (hR1 5 rfl) (hR18 0 rfl)) rfl rfl rfl (by decide +kernel) ⟨Nat.le_of_ble_eq_true rfl, Nat.le_of_ble_eq_true rfl⟩) (PP_preV (ci := 9) (q0 := 0) hP hD hK [0] rfl rfl rfl rfl) rfl rfl hl.1 rfl (lv_room (Nat.le_of_ble_eq_true rfl)) dX9_readPair_23 ⟨Nat.le_of_ble_eq_true rfl, Nat.le_of_ble_eq_true rfl⟩) (fun H locs hP hD hS => ?_)
  refine lv_istore_n (lv' := [(3, .int q23.1), (2, .int (2 + (6 * (x1 - 1)))), (0, .ref (a9 0)), (1, .int x1)]) hx hb dX9_readPair_26 rfl hl (by decide) rfl (fun ls hl => ?_)
  refine lv_aload_n hx hb dX9_readPair_27 rfl (lv_at hl 2 rfl) ?_
  refine va_get (D := D) (ci := 9) (v := .int q23.2.1) (C := RX9) (T := TX9) (N := 52) hx hb hL inlX9 hown hK.1 hP 0 rfl rfl 3 (by decide) w0 (fun _ h9 => h9) rfl dX9_readPair_28 ?_
  refine lv_if_ne (tgt := 55) hx hb dX9_readPair_31 (by decide) (fun c31 => ?_) (fun c31 => ?_)
  · have hf := pif_f c31 hf
    exact hB55 (2 + (6 * (x1 - 1))) q23.1 q10.1 q10.2.1 q10.2.2.1 (i9 8) q10.2.2.2.1 q23.2.1 q23.2.2 c_reads H locs ls hf hP hD hS (lv_sub hl [2, 1, 0] rfl)
  · have hf := pif_t c31 hf
    refine lv_aload_n hx hb dX9_readPair_34 rfl (lv_at hl 2 rfl) ?_
    refine va_get (D := D) (ci := 9) (v := .int (i9 8)) (C := RX9) (T := TX9) (N := 52) hx hb hL inlX9 hown hK.1 hP 0 rfl rfl 14 (by decide) w2 (fun _ h9 => h9) rfl dX9_readPair_35 ?_
    refine lv_iload_n hx hb dX9_readPair_38 rfl (lv_at hl 1 rfl) ?_
    refine lv_iload_n hx hb dX9_readPair_39 rfl (lv_at hl 0 rfl) ?_
    refine lv_iadd hx hb dX9_readPair_40 ?_
    refine lv_iconst (v := 2) hx hb dX9_readPair_41 (by decide) ?_
    refine lv_isub hx hb dX9_readPair_42 ?_
    refine lv_ishr hx hb dX9_readPair_43 ?_
    refine lv_iconst (v := 1) hx hb dX9_readPair_44 (by decide) ?_
    refine lv_iand hx hb dX9_readPair_45 ?_
    refine lv_iconst (v := 1) hx hb dX9_readPair_46 (by decide) ?_
    refine lv_icmp_ne (tgt := 55) hx hb dX9_readPair_47 (by decide) (fun c47 => ?_) (fun c47 => ?_)
    · have hf := pif_f c47 hf
      exact hB55 (2 + (6 * (x1 - 1))) q23.1 q10.1 q10.2.1 q10.2.2.1 (i9 8) q10.2.2.2.1 q23.2.1 q23.2.2 c_reads H locs ls hf hP hD hS (lv_sub hl [2, 1, 0] rfl)
    · have hf := pif_t c47 hf
      refine lv_aload_n hx hb dX9_readPair_50 rfl (lv_at hl 2 rfl) ?_
      refine lv_iconst (v := 4) hx hb dX9_readPair_51 (by decide) ?_
      obtain ⟨q52, e52, hf⟩ := pb_some hf
      refine cc_v (wc := [(a9 0, .inr (9, fl9 a9 (va_up (va_up (va_up (va_up (va_up (va_up (va_up (va_up i9 5 q10.1) 4 q10.2.1) 6 q10.2.2.1) 7 q10.2.2.2.1) 2 q10.2.2.2.2.1) 3 q10.2.2.2.2.2) 2 q23.2.1) 3 q23.2.2) g9))]) (wr := [((a9 2), .inl (cyI, 12, .inl c_cuts)), ((a9 3), .inl (cyI, 56, .inl c_letters)), ((a9 6), .inl (cyI, 32, .inl c_reads)), ((a9 1), .inl (cyI, 240, .inl c_tape))]) (w1 := [(a9 0, .inr (9, fl9 a9 (va_up (va_up (va_up (va_up (va_up (va_up (va_up (va_up (va_up (va_up i9 5 q10.1) 4 q10.2.1) 6 q10.2.2.1) 7 q10.2.2.2.1) 2 q10.2.2.2.2.1) 3 q10.2.2.2.2.2) 2 q23.2.1) 3 q23.2.2) 2 q52.1) 3 q52.2) g9))]) (wn := [(a9 0, .inr (9, fl9 a9 (va_up (va_up (va_up (va_up (va_up (va_up (va_up (va_up (va_up (va_up i9 5 q10.1) 4 q10.2.1) 6 q10.2.2.1) 7 q10.2.2.2.1) 2 q10.2.2.2.2.1) 3 q10.2.2.2.2.2) 2 q23.2.1) 3 q23.2.2) 2 q52.1) 3 q52.2) g9)), ((a9 2), .inl (cyI, 12, .inl c_cuts)), ((a9 3), .inl (cyI, 56, .inl c_letters)), ((a9 6), .inl (cyI, 32, .inl c_reads)), ((a9 1), .inl (cyI, 240, .inl c_tape))]) hP hD hS hA [0] [1, 2, 3, 4] [4, 0, 1, 2, 3] rfl rfl rfl (by decide) rfl rfl (va_runV (C := RX9) (As := [.int 4]) (rest := []) ⟨hx, hb, hml, hown, hL⟩ (mX9_fails l D cyI cyJ cyB cyS N H.size a9 (va_up (va_up (va_up (va_up (va_up (va_up (va_up (va_up i9 5 q10.1) 4 q10.2.1) 6 q10.2.2.1) 7 q10.2.2.2.1) 2 q10.2.2.2.2.1) 3 q10.2.2.2.2.2) 2 q23.2.1) 3 q23.2.2) g9  4 q52 e52) (cwV 1 hL (gV (hR17 13 rfl) (hR17 14 rfl) (hR17 15 rfl) (hR1 5 rfl) (hR17 16 rfl)) rfl rfl rfl (by decide +kernel) ⟨Nat.le_of_ble_eq_true rfl, Nat.le_of_ble_eq_true rfl⟩) (PP_preV (ci := 9) (q0 := 0) hP hD hK [0] rfl rfl rfl rfl) rfl rfl hl.1 rfl (lv_room (Nat.le_of_ble_eq_true rfl)) dX9_readPair_52 ⟨Nat.le_of_ble_eq_true rfl, Nat.le_of_ble_eq_true rfl⟩) (fun H locs hP hD hS => ?_)
      exact hB55 (2 + (6 * (x1 - 1))) q23.1 q10.1 q10.2.1 q10.2.2.1 (i9 8) q10.2.2.2.1 q52.1 q52.2 c_reads H locs ls hf hP hD hS (lv_sub hl [2, 1, 0] rfl)
abbrev rmX9_readRound : Room := { frames := 3, cells := 0, slots := 0, locals := 67 }
set_option maxHeartbeats 40000000 in
set_option maxRecDepth 100000 in
theorem mX9_readRound (l : Launch) (D : va_G) (cyI cyJ cyB cyS : ClassId) (N : Nat) (sz : Nat) (a9 : Nat → Nat) (i9 : Nat → Int32) (g9 : Nat → Int64) (c_cuts : Nat → Int32) (c_letters : Nat → Int32) (c_readFirst : Nat → Int32) (c_readSecond : Nat → Int32) (c_reads : Nat → Int32) (c_tape : Nat → Int32) (q : Int32 × Int32 × Int32 × Int32 × Int32 × Int32 × Int32 × (Nat → Int32) × (Nat → Int32)) (hf : fX9_readRound N (i9 5) (i9 10) (i9 4) (i9 0) (i9 6) (i9 7) (i9 2) (i9 3) c_cuts c_letters c_readFirst c_readSecond c_reads c_tape = some q) : Met l yX9_readRound (wS yX9_readRound cX9_readRound 4 none) rmX9_readRound (va_Pc [.ref (a9 0)] (PP D cyI cyJ cyB cyS [(a9 0, .inr (9, fl9 a9 i9 g9)), ((a9 2), .inl (cyI, 12, .inl c_cuts)), ((a9 3), .inl (cyI, 56, .inl c_letters)), ((a9 7), .inl (cyI, 30, .inl c_readFirst)), ((a9 8), .inl (cyI, 30, .inl c_readSecond)), ((a9 6), .inl (cyI, 32, .inl c_reads)), ((a9 1), .inl (cyI, 240, .inl c_tape))] sz)) (QV D [(a9 0, .inr (9, fl9 a9 (va_up (va_up (va_up (va_up (va_up (va_up (va_up i9 5 q.1) 10 q.2.1) 4 q.2.2.1) 6 q.2.2.2.1) 7 q.2.2.2.2.1) 2 q.2.2.2.2.2.1) 3 q.2.2.2.2.2.2.1) g9)), ((a9 2), .inl (cyI, 12, .inl c_cuts)), ((a9 3), .inl (cyI, 56, .inl c_letters)), ((a9 7), .inl (cyI, 30, .inl q.2.2.2.2.2.2.2.1)), ((a9 8), .inl (cyI, 30, .inl q.2.2.2.2.2.2.2.2)), ((a9 6), .inl (cyI, 32, .inl c_reads)), ((a9 1), .inl (cyI, 240, .inl c_tape))] (va_A [(a9 0, .inr (9, fl9 a9 i9 g9)), ((a9 2), .inl (cyI, 12, .inl c_cuts)), ((a9 3), .inl (cyI, 56, .inl c_letters)), ((a9 7), .inl (cyI, 30, .inl c_readFirst)), ((a9 8), .inl (cyI, 30, .inl c_readSecond)), ((a9 6), .inl (cyI, 32, .inl c_reads)), ((a9 1), .inl (cyI, 240, .inl c_tape))] sz)) 0 0 (va_A [(a9 0, .inr (9, fl9 a9 i9 g9)), ((a9 2), .inl (cyI, 12, .inl c_cuts)), ((a9 3), .inl (cyI, 56, .inl c_letters)), ((a9 7), .inl (cyI, 30, .inl c_readFirst)), ((a9 8), .inl (cyI, 30, .inl c_readSecond)), ((a9 6), .inl (cyI, 32, .inl c_reads)), ((a9 1), .inl (cyI, 240, .inl c_tape))] sz) := by
  refine Met.ofW (cc := cX9_readRound) (maxL := 4) (ret := none) (by decide) rfl ?_
  intro p e s m args below meth c s₁ B hml hv
  obtain ⟨rfl, hsz, hP, hK, hD0⟩ := hv
  have hx := B.exec
  have hb := B.bytes
  have hr := B.returns
  have hts := atoms_spec (ws := (wS yX9_readRound cX9_readRound 4 none)) B.pre
  have hown : s.vm.findClass RX9 = some m.cls := findClass_of_methodNamed B.named
  have hlocks := B.notSynchronized
  subst hsz
  have hD := hD0.self (sz := s.heap.size)
  refine w_nameQ (fun Q hQ => ?_)
  have hl := lv_entry ([.ref (a9 0)] : List Value) (n := 4) (Nat.le_of_ble_eq_true rfl)
  rw [lg_entry_eq]
  generalize (lg_sl ([.ref (a9 0)] : List Value) ++ List.replicate (4 - (lg_sl ([.ref (a9 0)] : List Value)).length) Slot.unset).toArray = ls at hl ⊢
  have hl : lv_has ls 4 [(0, .ref (a9 0))] := hl
  generalize hAe : va_A [(a9 0, .inr (9, fl9 a9 i9 g9)), ((a9 2), .inl (cyI, 12, .inl c_cuts)), ((a9 3), .inl (cyI, 56, .inl c_letters)), ((a9 7), .inl (cyI, 30, .inl c_readFirst)), ((a9 8), .inl (cyI, 30, .inl c_readSecond)), ((a9 6), .inl (cyI, 32, .inl c_reads)), ((a9 1), .inl (cyI, 240, .inl c_tape))] s.heap.size = A at hD hQ
  have hA : ∀ q : Nat, s.heap.size ≤ q → A q := fun q h => by rw [← hAe]; exact Or.inr h
  have hS : va_S A s.heap s.heap [] := va_S.rf
  generalize ([.ref (a9 0)] : List Value).toArray = av at hts hQ ⊢
  have hL : ∀ w ∈ wsL_law, w.before av s = true := fun w h => hts w (List.mem_cons_of_mem _ h)
  have w0 := hL (.fieldLink RX9 28 "LosingLeagueModel" "readFirst" "[I") (hR6 10 rfl)
  have w1 := hL (.fieldLink RX9 147 "LosingLeagueModel" "readGames" "I") (hR16 15 rfl)
  have w2 := hL (.fieldLink RX9 31 "LosingLeagueModel" "readSecond" "[I") (hR6 11 rfl)
  have w3 := hL (.fieldLink RX9 100 "LosingLeagueModel" "wrong" "I") (hR16 9 rfl)
  have w4 := hL (.fieldLink RX9 25 "LosingLeagueModel" "reads" "[I") (hR6 9 rfl)
  have hB47 : ∀ (k31 : Int32 → Int32 → Int32 → Int32 → Int32 → Int32 → Int32 → Int32 → Int32 → (Nat → Int32) → (Nat → Int32) → Option (Int32 × Int32 × Int32 × Int32 × Int32 × Int32 × Int32 × (Nat → Int32) × (Nat → Int32))) (hk31 : ∀ (x1 : Int32) (x2 : Int32) (v_place : Int32) (v_readGames : Int32) (v_spot : Int32) (v_token : Int32) (v_value : Int32) (v_wrong : Int32) (v_wrongAt : Int32) (c_readFirst : Nat → Int32) (c_readSecond : Nat → Int32) (H : Heap) (locs : List Loc) (ls : Array Slot), k31 x1 x2 v_place v_readGames v_spot v_token v_value v_wrong v_wrongAt c_readFirst c_readSecond = some q → va_P D vwCl [(a9 0, .inr (9, fl9 a9 (va_up (va_up (va_up (va_up (va_up (va_up (va_up i9 5 v_place) 10 v_readGames) 4 v_spot) 6 v_token) 7 v_value) 2 v_wrong) 3 v_wrongAt) g9)), ((a9 2), .inl (cyI, 12, .inl c_cuts)), ((a9 3), .inl (cyI, 56, .inl c_letters)), ((a9 7), .inl (cyI, 30, .inl c_readFirst)), ((a9 8), .inl (cyI, 30, .inl c_readSecond)), ((a9 6), .inl (cyI, 32, .inl c_reads)), ((a9 1), .inl (cyI, 240, .inl c_tape))] H → va_D A [(a9 0, .inr (9, fl9 a9 (va_up (va_up (va_up (va_up (va_up (va_up (va_up i9 5 v_place) 10 v_readGames) 4 v_spot) 6 v_token) 7 v_value) 2 v_wrong) 3 v_wrongAt) g9)), ((a9 2), .inl (cyI, 12, .inl c_cuts)), ((a9 3), .inl (cyI, 56, .inl c_letters)), ((a9 7), .inl (cyI, 30, .inl c_readFirst)), ((a9 8), .inl (cyI, 30, .inl c_readSecond)), ((a9 6), .inl (cyI, 32, .inl c_reads)), ((a9 1), .inl (cyI, 240, .inl c_tape))] → va_S A s.heap H locs → lv_has ls 4 [(0, .ref (a9 0)), (1, .int x1), (2, .int x2)] → W p l e rmX9_readRound s m av below meth c H locs 0 0 Q (F0 m 31 ls [])) (n : Nat), ∀ (x1 : Int32) (x2 : Int32) (x3 : Int32) (v_place : Int32) (v_readGames : Int32) (v_spot : Int32) (v_token : Int32) (v_value : Int32) (v_wrong : Int32) (v_wrongAt : Int32) (c_readFirst : Nat → Int32) (c_readSecond : Nat → Int32) (H : Heap) (locs : List Loc) (ls : Array Slot), fX9_readRound_47 N (i9 0) c_cuts c_letters c_reads c_tape k31 n x1 x2 x3 v_place v_readGames v_spot v_token v_value v_wrong v_wrongAt c_readFirst c_readSecond = some q → va_P D vwCl [(a9 0, .inr (9, fl9 a9 (va_up (va_up (va_up (va_up (va_up (va_up (va_up i9 5 v_place) 10 v_readGames) 4 v_spot) 6 v_token) 7 v_value) 2 v_wrong) 3 v_wrongAt) g9)), ((a9 2), .inl (cyI, 12, .inl c_cuts)), ((a9 3), .inl (cyI, 56, .inl c_letters)), ((a9 7), .inl (cyI, 30, .inl c_readFirst)), ((a9 8), .inl (cyI, 30, .inl c_readSecond)), ((a9 6), .inl (cyI, 32, .inl c_reads)), ((a9 1), .inl (cyI, 240, .inl c_tape))] H → va_D A [(a9 0, .inr (9, fl9 a9 (va_up (va_up (va_up (va_up (va_up (va_up (va_up i9 5 v_place) 10 v_readGames) 4 v_spot) 6 v_token) 7 v_value) 2 v_wrong) 3 v_wrongAt) g9)), ((a9 2), .inl (cyI, 12, .inl c_cuts)), ((a9 3), .inl (cyI, 56, .inl c_letters)), ((a9 7), .inl (cyI, 30, .inl c_readFirst)), ((a9 8), .inl (cyI, 30, .inl c_readSecond)), ((a9 6), .inl (cyI, 32, .inl c_reads)), ((a9 1), .inl (cyI, 240, .inl c_tape))] → va_S A s.heap H locs → lv_has ls 4 [(0, .ref (a9 0)), (1, .int x1), (2, .int x2), (3, .int x3)] → W p l e rmX9_readRound s m av below meth c H locs 0 0 Q (F0 m 47 ls []) := by
    intro k31 hk31 n
    induction n with
    | zero => intro x1 x2 x3 v_place v_readGames v_spot v_token v_value v_wrong v_wrongAt c_readFirst c_readSecond H locs ls hf; exact absurd hf (by simp [fX9_readRound_47])
    | succ n hk47 =>
      intro x1 x2 x3 v_place v_readGames v_spot v_token v_value v_wrong v_wrongAt c_readFirst c_readSecond H locs ls hf hP hD hS hl
      rw [fX9_readRound_47] at hf
      refine lv_iload_n hx hb dX9_readRound_47 rfl (lv_at hl 3 rfl) ?_
      refine lv_iload_n hx hb dX9_readRound_48 rfl (lv_at hl 1 rfl) ?_
      refine lv_icmp_ge (tgt := 88) hx hb dX9_readRound_49 (by decide) (fun c49 => ?_) (fun c49 => ?_)
      · have hf := pif_t c49 hf
        refine lv_iinc (v := x2 + 1) (lv' := [(2, .int (x2 + 1)), (0, .ref (a9 0)), (1, .int x1), (3, .int x3)]) hx hb dX9_readRound_88 hl (k := 2) rfl rfl (by decide) rfl (fun ls hl => ?_)
        refine lv_goto (tgt := 31) hx hb dX9_readRound_91 (by decide) ?_
        exact hk31 x1 (x2 + 1) v_place v_readGames v_spot v_token v_value v_wrong v_wrongAt c_readFirst c_readSecond H locs ls hf hP hD hS (lv_sub hl [1, 2, 0] rfl)
      · have hf := pif_f c49 hf
        refine lv_aload_n hx hb dX9_readRound_52 rfl (lv_at hl 0 rfl) ?_
        refine va_get (D := D) (ci := 9) (v := .ref (a9 7)) (C := RX9) (T := TX9) (N := 52) hx hb hL inlX9 hown hK.1 hP 0 rfl rfl 17 (by decide) w0 (fun _ h9 => h9) rfl dX9_readRound_53 ?_
        refine lv_aload_n hx hb dX9_readRound_56 rfl (lv_at hl 0 rfl) ?_
        refine va_get (D := D) (ci := 9) (v := .int v_readGames) (C := RX9) (T := TX9) (N := 52) hx hb hL inlX9 hown hK.1 hP 0 rfl rfl 16 (by decide) w1 (fun _ h9 => h9) rfl dX9_readRound_57 ?_
        refine lv_iload_n hx hb dX9_readRound_60 rfl (lv_at hl 2 rfl) ?_
        obtain ⟨h61, hf⟩ := pg_some hf
        refine va_iast hx hb hK.1 hP hD hS 3 0 rfl rfl h61 dX9_readRound_61 (fun H locs hP hD hS => ?_)
        have hP : va_P D vwCl [(a9 0, .inr (9, fl9 a9 (va_up (va_up (va_up (va_up (va_up (va_up (va_up i9 5 v_place) 10 v_readGames) 4 v_spot) 6 v_token) 7 v_value) 2 v_wrong) 3 v_wrongAt) g9)), ((a9 2), .inl (cyI, 12, .inl c_cuts)), ((a9 3), .inl (cyI, 56, .inl c_letters)), ((a9 7), .inl (cyI, 30, .inl (upd c_readFirst v_readGames.toNatClampNeg x2))), ((a9 8), .inl (cyI, 30, .inl c_readSecond)), ((a9 6), .inl (cyI, 32, .inl c_reads)), ((a9 1), .inl (cyI, 240, .inl c_tape))] H := hP
        have hD : va_D A [(a9 0, .inr (9, fl9 a9 (va_up (va_up (va_up (va_up (va_up (va_up (va_up i9 5 v_place) 10 v_readGames) 4 v_spot) 6 v_token) 7 v_value) 2 v_wrong) 3 v_wrongAt) g9)), ((a9 2), .inl (cyI, 12, .inl c_cuts)), ((a9 3), .inl (cyI, 56, .inl c_letters)), ((a9 7), .inl (cyI, 30, .inl (upd c_readFirst v_readGames.toNatClampNeg x2))), ((a9 8), .inl (cyI, 30, .inl c_readSecond)), ((a9 6), .inl (cyI, 32, .inl c_reads)), ((a9 1), .inl (cyI, 240, .inl c_tape))] := hD
        refine lv_aload_n hx hb dX9_readRound_62 rfl (lv_at hl 0 rfl) ?_
        refine va_get (D := D) (ci := 9) (v := .ref (a9 8)) (C := RX9) (T := TX9) (N := 52) hx hb hL inlX9 hown hK.1 hP 0 rfl rfl 18 (by decide) w2 (fun _ h9 => h9) rfl dX9_readRound_63 ?_
        refine lv_aload_n hx hb dX9_readRound_66 rfl (lv_at hl 0 rfl) ?_
        refine va_get (D := D) (ci := 9) (v := .int v_readGames) (C := RX9) (T := TX9) (N := 52) hx hb hL inlX9 hown hK.1 hP 0 rfl rfl 16 (by decide) w1 (fun _ h9 => h9) rfl dX9_readRound_67 ?_
        refine lv_iload_n hx hb dX9_readRound_70 rfl (lv_at hl 3 rfl) ?_
        obtain ⟨h71, hf⟩ := pg_some hf
        refine va_iast hx hb hK.1 hP hD hS 4 0 rfl rfl h71 dX9_readRound_71 (fun H locs hP hD hS => ?_)
        have hP : va_P D vwCl [(a9 0, .inr (9, fl9 a9 (va_up (va_up (va_up (va_up (va_up (va_up (va_up i9 5 v_place) 10 v_readGames) 4 v_spot) 6 v_token) 7 v_value) 2 v_wrong) 3 v_wrongAt) g9)), ((a9 2), .inl (cyI, 12, .inl c_cuts)), ((a9 3), .inl (cyI, 56, .inl c_letters)), ((a9 7), .inl (cyI, 30, .inl (upd c_readFirst v_readGames.toNatClampNeg x2))), ((a9 8), .inl (cyI, 30, .inl (upd c_readSecond v_readGames.toNatClampNeg x3))), ((a9 6), .inl (cyI, 32, .inl c_reads)), ((a9 1), .inl (cyI, 240, .inl c_tape))] H := hP
        have hD : va_D A [(a9 0, .inr (9, fl9 a9 (va_up (va_up (va_up (va_up (va_up (va_up (va_up i9 5 v_place) 10 v_readGames) 4 v_spot) 6 v_token) 7 v_value) 2 v_wrong) 3 v_wrongAt) g9)), ((a9 2), .inl (cyI, 12, .inl c_cuts)), ((a9 3), .inl (cyI, 56, .inl c_letters)), ((a9 7), .inl (cyI, 30, .inl (upd c_readFirst v_readGames.toNatClampNeg x2))), ((a9 8), .inl (cyI, 30, .inl (upd c_readSecond v_readGames.toNatClampNeg x3))), ((a9 6), .inl (cyI, 32, .inl c_reads)), ((a9 1), .inl (cyI, 240, .inl c_tape))] := hD
        refine lv_aload_n hx hb dX9_readRound_72 rfl (lv_at hl 0 rfl) ?_
        refine lv_dup hx hb dX9_readRound_73 rfl ?_
        refine va_get (D := D) (ci := 9) (v := .int v_readGames) (C := RX9) (T := TX9) (N := 52) hx hb hL inlX9 hown hK.1 hP 0 rfl rfl 16 (by decide) w1 (fun _ h9 => h9) rfl dX9_readRound_74 ?_
        refine lv_iconst (v := 1) hx hb dX9_readRound_77 (by decide) ?_
        refine lv_iadd hx hb dX9_readRound_78 ?_
        refine va_put (D := D) (ci := 9) (v := .int (v_readGames + 1)) (ty := .int) (C := RX9) (T := TX9) (N := 52) hx hb hL inlX9 tyX9 tyX9_ok nmX9 hown hK.1 hP hD hS 0 rfl rfl 16 (by decide) w1 (fun _ h9 => h9) rfl (by decide +kernel) rfl rfl (Nat.le_of_ble_eq_true rfl) dX9_readRound_79 (fun H locs hP hD hS => ?_)
        rw [fl9_s16] at hP hD
        have hP : va_P D vwCl [(a9 0, .inr (9, fl9 a9 (va_up (va_up (va_up (va_up (va_up (va_up (va_up (va_up i9 5 v_place) 10 v_readGames) 4 v_spot) 6 v_token) 7 v_value) 2 v_wrong) 3 v_wrongAt) 10 (v_readGames + 1)) g9)), ((a9 2), .inl (cyI, 12, .inl c_cuts)), ((a9 3), .inl (cyI, 56, .inl c_letters)), ((a9 7), .inl (cyI, 30, .inl (upd c_readFirst v_readGames.toNatClampNeg x2))), ((a9 8), .inl (cyI, 30, .inl (upd c_readSecond v_readGames.toNatClampNeg x3))), ((a9 6), .inl (cyI, 32, .inl c_reads)), ((a9 1), .inl (cyI, 240, .inl c_tape))] H := hP
        have hD : va_D A [(a9 0, .inr (9, fl9 a9 (va_up (va_up (va_up (va_up (va_up (va_up (va_up (va_up i9 5 v_place) 10 v_readGames) 4 v_spot) 6 v_token) 7 v_value) 2 v_wrong) 3 v_wrongAt) 10 (v_readGames + 1)) g9)), ((a9 2), .inl (cyI, 12, .inl c_cuts)), ((a9 3), .inl (cyI, 56, .inl c_letters)), ((a9 7), .inl (cyI, 30, .inl (upd c_readFirst v_readGames.toNatClampNeg x2))), ((a9 8), .inl (cyI, 30, .inl (upd c_readSecond v_readGames.toNatClampNeg x3))), ((a9 6), .inl (cyI, 32, .inl c_reads)), ((a9 1), .inl (cyI, 240, .inl c_tape))] := hD
        refine lv_iinc (v := x3 + 1) (lv' := [(3, .int (x3 + 1)), (0, .ref (a9 0)), (1, .int x1), (2, .int x2)]) hx hb dX9_readRound_82 hl (k := 3) rfl rfl (by decide) rfl (fun ls hl => ?_)
        refine lv_goto (tgt := 47) hx hb dX9_readRound_85 (by decide) ?_
        exact hk47 x1 x2 (x3 + 1) v_place (v_readGames + 1) v_spot v_token v_value v_wrong v_wrongAt (upd c_readFirst v_readGames.toNatClampNeg x2) (upd c_readSecond v_readGames.toNatClampNeg x3) H locs ls hf hP hD hS (lv_sub hl [1, 2, 3, 0] rfl)
  have hB94 : ∀ (v_place : Int32) (v_readGames : Int32) (v_spot : Int32) (v_token : Int32) (v_value : Int32) (v_wrong : Int32) (v_wrongAt : Int32) (c_readFirst : Nat → Int32) (c_readSecond : Nat → Int32) (H : Heap) (locs : List Loc) (ls : Array Slot), fX9_readRound_94 N (i9 0) c_cuts c_letters c_reads c_tape v_place v_readGames v_spot v_token v_value v_wrong v_wrongAt c_readFirst c_readSecond = some q → va_P D vwCl [(a9 0, .inr (9, fl9 a9 (va_up (va_up (va_up (va_up (va_up (va_up (va_up i9 5 v_place) 10 v_readGames) 4 v_spot) 6 v_token) 7 v_value) 2 v_wrong) 3 v_wrongAt) g9)), ((a9 2), .inl (cyI, 12, .inl c_cuts)), ((a9 3), .inl (cyI, 56, .inl c_letters)), ((a9 7), .inl (cyI, 30, .inl c_readFirst)), ((a9 8), .inl (cyI, 30, .inl c_readSecond)), ((a9 6), .inl (cyI, 32, .inl c_reads)), ((a9 1), .inl (cyI, 240, .inl c_tape))] H → va_D A [(a9 0, .inr (9, fl9 a9 (va_up (va_up (va_up (va_up (va_up (va_up (va_up i9 5 v_place) 10 v_readGames) 4 v_spot) 6 v_token) 7 v_value) 2 v_wrong) 3 v_wrongAt) g9)), ((a9 2), .inl (cyI, 12, .inl c_cuts)), ((a9 3), .inl (cyI, 56, .inl c_letters)), ((a9 7), .inl (cyI, 30, .inl c_readFirst)), ((a9 8), .inl (cyI, 30, .inl c_readSecond)), ((a9 6), .inl (cyI, 32, .inl c_reads)), ((a9 1), .inl (cyI, 240, .inl c_tape))] → va_S A s.heap H locs → lv_has ls 4 [(0, .ref (a9 0))] → W p l e rmX9_readRound s m av below meth c H locs 0 0 Q (F0 m 94 ls []) := by
    intro v_place v_readGames v_spot v_token v_value v_wrong v_wrongAt c_readFirst c_readSecond H locs ls hf hP hD hS hl
    unfold fX9_readRound_94 at hf
    refine lv_aload_n hx hb dX9_readRound_94 rfl (lv_at hl 0 rfl) ?_
    obtain ⟨q95, e95, hf⟩ := pb_some hf
    refine cc_v (wc := [(a9 0, .inr (9, fl9 a9 (va_up (va_up (va_up (va_up (va_up (va_up (va_up i9 5 v_place) 10 v_readGames) 4 v_spot) 6 v_token) 7 v_value) 2 v_wrong) 3 v_wrongAt) g9)), ((a9 2), .inl (cyI, 12, .inl c_cuts)), ((a9 3), .inl (cyI, 56, .inl c_letters)), ((a9 1), .inl (cyI, 240, .inl c_tape))]) (wr := [((a9 7), .inl (cyI, 30, .inl c_readFirst)), ((a9 8), .inl (cyI, 30, .inl c_readSecond)), ((a9 6), .inl (cyI, 32, .inl c_reads))]) (w1 := [(a9 0, .inr (9, fl9 a9 (va_up (va_up (va_up (va_up (va_up (va_up (va_up (va_up (va_up (va_up (va_up (va_up (va_up i9 5 v_place) 10 v_readGames) 4 v_spot) 6 v_token) 7 v_value) 2 v_wrong) 3 v_wrongAt) 5 q95.1) 4 q95.2.1) 6 q95.2.2.1) 7 q95.2.2.2.1) 2 q95.2.2.2.2.1) 3 q95.2.2.2.2.2) g9)), ((a9 2), .inl (cyI, 12, .inl c_cuts)), ((a9 3), .inl (cyI, 56, .inl c_letters)), ((a9 1), .inl (cyI, 240, .inl c_tape))]) (wn := [(a9 0, .inr (9, fl9 a9 (va_up (va_up (va_up (va_up (va_up (va_up (va_up (va_up (va_up (va_up (va_up (va_up (va_up i9 5 v_place) 10 v_readGames) 4 v_spot) 6 v_token) 7 v_value) 2 v_wrong) 3 v_wrongAt) 5 q95.1) 4 q95.2.1) 6 q95.2.2.1) 7 q95.2.2.2.1) 2 q95.2.2.2.2.1) 3 q95.2.2.2.2.2) g9)), ((a9 2), .inl (cyI, 12, .inl c_cuts)), ((a9 3), .inl (cyI, 56, .inl c_letters)), ((a9 7), .inl (cyI, 30, .inl c_readFirst)), ((a9 8), .inl (cyI, 30, .inl c_readSecond)), ((a9 6), .inl (cyI, 32, .inl c_reads)), ((a9 1), .inl (cyI, 240, .inl c_tape))]) hP hD hS hA [0, 1, 2, 6] [3, 4, 5] [3, 4, 5, 0, 1, 2, 6] rfl rfl rfl (by decide) rfl rfl (va_runV (C := RX9) (As := []) (rest := []) ⟨hx, hb, hml, hown, hL⟩ (mX9_next l D cyI cyJ cyB cyS N H.size a9 (va_up (va_up (va_up (va_up (va_up (va_up (va_up i9 5 v_place) 10 v_readGames) 4 v_spot) 6 v_token) 7 v_value) 2 v_wrong) 3 v_wrongAt) g9 c_cuts c_letters c_tape  q95 e95) (cwV 0 hL (gV (hR16 20 rfl) (hR16 21 rfl) (hR16 22 rfl) (hR1 5 rfl) (hR16 23 rfl)) rfl rfl rfl (by decide +kernel) ⟨Nat.le_of_ble_eq_true rfl, Nat.le_of_ble_eq_true rfl⟩) (PP_preV (ci := 9) (q0 := 0) hP hD hK [0, 1, 2, 6] rfl rfl rfl rfl) rfl rfl hl.1 rfl (lv_room (Nat.le_of_ble_eq_true rfl)) dX9_readRound_95 ⟨Nat.le_of_ble_eq_true rfl, Nat.le_of_ble_eq_true rfl⟩) (fun H locs hP hD hS => ?_)
    exact ret_v (q := q) (wp := fun q => [(a9 0, .inr (9, fl9 a9 (va_up (va_up (va_up (va_up (va_up (va_up (va_up i9 5 q.1) 10 q.2.1) 4 q.2.2.1) 6 q.2.2.2.1) 7 q.2.2.2.2.1) 2 q.2.2.2.2.2.1) 3 q.2.2.2.2.2.2.1) g9)), ((a9 2), .inl (cyI, 12, .inl c_cuts)), ((a9 3), .inl (cyI, 56, .inl c_letters)), ((a9 7), .inl (cyI, 30, .inl q.2.2.2.2.2.2.2.1)), ((a9 8), .inl (cyI, 30, .inl q.2.2.2.2.2.2.2.2)), ((a9 6), .inl (cyI, 32, .inl c_reads)), ((a9 1), .inl (cyI, 240, .inl c_tape))]) hQ hf hx hb hr hlocks hP hD hS dX9_readRound_98
  have hB31 : ∀ (n : Nat), ∀ (x1 : Int32) (x2 : Int32) (v_place : Int32) (v_readGames : Int32) (v_spot : Int32) (v_token : Int32) (v_value : Int32) (v_wrong : Int32) (v_wrongAt : Int32) (c_readFirst : Nat → Int32) (c_readSecond : Nat → Int32) (H : Heap) (locs : List Loc) (ls : Array Slot), fX9_readRound_31 N (i9 0) c_cuts c_letters c_reads c_tape n x1 x2 v_place v_readGames v_spot v_token v_value v_wrong v_wrongAt c_readFirst c_readSecond = some q → va_P D vwCl [(a9 0, .inr (9, fl9 a9 (va_up (va_up (va_up (va_up (va_up (va_up (va_up i9 5 v_place) 10 v_readGames) 4 v_spot) 6 v_token) 7 v_value) 2 v_wrong) 3 v_wrongAt) g9)), ((a9 2), .inl (cyI, 12, .inl c_cuts)), ((a9 3), .inl (cyI, 56, .inl c_letters)), ((a9 7), .inl (cyI, 30, .inl c_readFirst)), ((a9 8), .inl (cyI, 30, .inl c_readSecond)), ((a9 6), .inl (cyI, 32, .inl c_reads)), ((a9 1), .inl (cyI, 240, .inl c_tape))] H → va_D A [(a9 0, .inr (9, fl9 a9 (va_up (va_up (va_up (va_up (va_up (va_up (va_up i9 5 v_place) 10 v_readGames) 4 v_spot) 6 v_token) 7 v_value) 2 v_wrong) 3 v_wrongAt) g9)), ((a9 2), .inl (cyI, 12, .inl c_cuts)), ((a9 3), .inl (cyI, 56, .inl c_letters)), ((a9 7), .inl (cyI, 30, .inl c_readFirst)), ((a9 8), .inl (cyI, 30, .inl c_readSecond)), ((a9 6), .inl (cyI, 32, .inl c_reads)), ((a9 1), .inl (cyI, 240, .inl c_tape))] → va_S A s.heap H locs → lv_has ls 4 [(0, .ref (a9 0)), (1, .int x1), (2, .int x2)] → W p l e rmX9_readRound s m av below meth c H locs 0 0 Q (F0 m 31 ls []) := by
    intro n
    induction n with
    | zero => intro x1 x2 v_place v_readGames v_spot v_token v_value v_wrong v_wrongAt c_readFirst c_readSecond H locs ls hf; exact absurd hf (by simp [fX9_readRound_31])
    | succ n hk31 =>
      intro x1 x2 v_place v_readGames v_spot v_token v_value v_wrong v_wrongAt c_readFirst c_readSecond H locs ls hf hP hD hS hl
      rw [fX9_readRound_31] at hf
      refine lv_iload_n hx hb dX9_readRound_31 rfl (lv_at hl 2 rfl) ?_
      refine lv_iload_n hx hb dX9_readRound_32 rfl (lv_at hl 1 rfl) ?_
      refine lv_icmp_ge (tgt := 94) hx hb dX9_readRound_33 (by decide) (fun c33 => ?_) (fun c33 => ?_)
      · have hf := pif_t c33 hf
        exact hB94 v_place v_readGames v_spot v_token v_value v_wrong v_wrongAt c_readFirst c_readSecond H locs ls hf hP hD hS (lv_sub hl [0] rfl)
      · have hf := pif_f c33 hf
        refine lv_aload_n hx hb dX9_readRound_36 rfl (lv_at hl 0 rfl) ?_
        refine va_get (D := D) (ci := 9) (v := .int v_wrong) (C := RX9) (T := TX9) (N := 52) hx hb hL inlX9 hown hK.1 hP 0 rfl rfl 3 (by decide) w3 (fun _ h9 => h9) rfl dX9_readRound_37 ?_
        refine lv_if_ne (tgt := 94) hx hb dX9_readRound_40 (by decide) (fun c40 => ?_) (fun c40 => ?_)
        · have hf := pif_f c40 hf
          exact hB94 v_place v_readGames v_spot v_token v_value v_wrong v_wrongAt c_readFirst c_readSecond H locs ls hf hP hD hS (lv_sub hl [0] rfl)
        · have hf := pif_t c40 hf
          refine lv_iload_n hx hb dX9_readRound_43 rfl (lv_at hl 2 rfl) ?_
          refine lv_iconst (v := 1) hx hb dX9_readRound_44 (by decide) ?_
          refine lv_iadd hx hb dX9_readRound_45 ?_
          refine lv_istore_n (lv' := [(3, .int (x2 + 1)), (0, .ref (a9 0)), (1, .int x1), (2, .int x2)]) hx hb dX9_readRound_46 rfl hl (by decide) rfl (fun ls hl => ?_)
          exact hB47 (fX9_readRound_31 N (i9 0) c_cuts c_letters c_reads c_tape n) hk31 N x1 x2 (x2 + 1) v_place v_readGames v_spot v_token v_value v_wrong v_wrongAt c_readFirst c_readSecond H locs ls hf hP hD hS (lv_sub hl [1, 2, 3, 0] rfl)
  have hB29 : ∀ (x1 : Int32) (v_place : Int32) (v_readGames : Int32) (v_spot : Int32) (v_token : Int32) (v_value : Int32) (v_wrong : Int32) (v_wrongAt : Int32) (c_readFirst : Nat → Int32) (c_readSecond : Nat → Int32) (H : Heap) (locs : List Loc) (ls : Array Slot), fX9_readRound_29 N (i9 0) c_cuts c_letters c_reads c_tape x1 v_place v_readGames v_spot v_token v_value v_wrong v_wrongAt c_readFirst c_readSecond = some q → va_P D vwCl [(a9 0, .inr (9, fl9 a9 (va_up (va_up (va_up (va_up (va_up (va_up (va_up i9 5 v_place) 10 v_readGames) 4 v_spot) 6 v_token) 7 v_value) 2 v_wrong) 3 v_wrongAt) g9)), ((a9 2), .inl (cyI, 12, .inl c_cuts)), ((a9 3), .inl (cyI, 56, .inl c_letters)), ((a9 7), .inl (cyI, 30, .inl c_readFirst)), ((a9 8), .inl (cyI, 30, .inl c_readSecond)), ((a9 6), .inl (cyI, 32, .inl c_reads)), ((a9 1), .inl (cyI, 240, .inl c_tape))] H → va_D A [(a9 0, .inr (9, fl9 a9 (va_up (va_up (va_up (va_up (va_up (va_up (va_up i9 5 v_place) 10 v_readGames) 4 v_spot) 6 v_token) 7 v_value) 2 v_wrong) 3 v_wrongAt) g9)), ((a9 2), .inl (cyI, 12, .inl c_cuts)), ((a9 3), .inl (cyI, 56, .inl c_letters)), ((a9 7), .inl (cyI, 30, .inl c_readFirst)), ((a9 8), .inl (cyI, 30, .inl c_readSecond)), ((a9 6), .inl (cyI, 32, .inl c_reads)), ((a9 1), .inl (cyI, 240, .inl c_tape))] → va_S A s.heap H locs → lv_has ls 4 [(0, .ref (a9 0)), (1, .int x1)] → W p l e rmX9_readRound s m av below meth c H locs 0 0 Q (F0 m 29 ls []) := by
    intro x1 v_place v_readGames v_spot v_token v_value v_wrong v_wrongAt c_readFirst c_readSecond H locs ls hf hP hD hS hl
    unfold fX9_readRound_29 at hf
    refine lv_iconst (v := 0) hx hb dX9_readRound_29 (by decide) ?_
    refine lv_istore_n (lv' := [(2, .int 0), (0, .ref (a9 0)), (1, .int x1)]) hx hb dX9_readRound_30 rfl hl (by decide) rfl (fun ls hl => ?_)
    exact hB31 N x1 0 v_place v_readGames v_spot v_token v_value v_wrong v_wrongAt c_readFirst c_readSecond H locs ls hf hP hD hS (lv_sub hl [1, 2, 0] rfl)
  unfold fX9_readRound at hf
  obtain ⟨H, hH⟩ : ∃ H : Heap, H = s.heap := ⟨_, rfl⟩
  obtain ⟨locs, hlo⟩ : ∃ locs : List Loc, locs = [] := ⟨_, rfl⟩
  have hP : va_P D vwCl [(a9 0, .inr (9, fl9 a9 i9 g9)), ((a9 2), .inl (cyI, 12, .inl c_cuts)), ((a9 3), .inl (cyI, 56, .inl c_letters)), ((a9 7), .inl (cyI, 30, .inl c_readFirst)), ((a9 8), .inl (cyI, 30, .inl c_readSecond)), ((a9 6), .inl (cyI, 32, .inl c_reads)), ((a9 1), .inl (cyI, 240, .inl c_tape))] H := by rw [hH]; exact hP
  have hS : va_S A s.heap H locs := by rw [hH, hlo]; exact hS
  suffices hw : W p l e rmX9_readRound s m av below meth c H locs 0 0 Q (F0 m 0 ls []) by rw [hH, hlo] at hw; exact hw
  refine lv_aload_n hx hb dX9_readRound_0 rfl (lv_at hl 0 rfl) ?_
  refine va_get (D := D) (ci := 9) (v := .ref (a9 6)) (C := RX9) (T := TX9) (N := 52) hx hb hL inlX9 hown hK.1 hP 0 rfl rfl 13 (by decide) w4 (fun _ h9 => h9) rfl dX9_readRound_1 ?_
  refine lv_iconst (v := 0) hx hb dX9_readRound_4 (by decide) ?_
  obtain ⟨h5, hf⟩ := pg_some hf
  refine va_iald hx hb hK.1 hP 5 0 rfl rfl h5 dX9_readRound_5 ?_
  refine lv_istore_n (lv' := [(1, .int (c_reads (0 : Int32).toNatClampNeg)), (0, .ref (a9 0))]) hx hb dX9_readRound_6 rfl hl (by decide) rfl (fun ls hl => ?_)
  refine lv_aload_n hx hb dX9_readRound_7 rfl (lv_at hl 1 rfl) ?_
  refine va_get (D := D) (ci := 9) (v := .int (i9 10)) (C := RX9) (T := TX9) (N := 52) hx hb hL inlX9 hown hK.1 hP 0 rfl rfl 16 (by decide) w1 (fun _ h9 => h9) rfl dX9_readRound_8 ?_
  refine lv_iload_n hx hb dX9_readRound_11 rfl (lv_at hl 0 rfl) ?_
  refine lv_iload_n hx hb dX9_readRound_12 rfl (lv_at hl 0 rfl) ?_
  refine lv_iconst (v := 1) hx hb dX9_readRound_13 (by decide) ?_
  refine lv_isub hx hb dX9_readRound_14 ?_
  refine lv_imul hx hb dX9_readRound_15 ?_
  refine lv_iconst (v := 2) hx hb dX9_readRound_16 (by decide) ?_
  refine lv_idiv hx hb dX9_readRound_17 (by decide) ?_
  refine lv_iadd hx hb dX9_readRound_18 ?_
  refine lv_bipush (v := 30) hx hb dX9_readRound_19 (by decide) ?_
  refine lv_icmp_le (tgt := 29) hx hb dX9_readRound_21 (by decide) (fun c21 => ?_) (fun c21 => ?_)
  · have hf := pif_t c21 hf
    exact hB29 (c_reads (0 : Int32).toNatClampNeg) (i9 5) (i9 10) (i9 4) (i9 6) (i9 7) (i9 2) (i9 3) c_readFirst c_readSecond H locs ls hf hP hD hS (lv_sub hl [1, 0] rfl)
  · have hf := pif_f c21 hf
    refine lv_aload_n hx hb dX9_readRound_24 rfl (lv_at hl 1 rfl) ?_
    refine lv_iconst (v := 5) hx hb dX9_readRound_25 (by decide) ?_
    obtain ⟨q26, e26, hf⟩ := pb_some hf
    refine cc_v (wc := [(a9 0, .inr (9, fl9 a9 i9 g9))]) (wr := [((a9 2), .inl (cyI, 12, .inl c_cuts)), ((a9 3), .inl (cyI, 56, .inl c_letters)), ((a9 7), .inl (cyI, 30, .inl c_readFirst)), ((a9 8), .inl (cyI, 30, .inl c_readSecond)), ((a9 6), .inl (cyI, 32, .inl c_reads)), ((a9 1), .inl (cyI, 240, .inl c_tape))]) (w1 := [(a9 0, .inr (9, fl9 a9 (va_up (va_up i9 2 q26.1) 3 q26.2) g9))]) (wn := [(a9 0, .inr (9, fl9 a9 (va_up (va_up i9 2 q26.1) 3 q26.2) g9)), ((a9 2), .inl (cyI, 12, .inl c_cuts)), ((a9 3), .inl (cyI, 56, .inl c_letters)), ((a9 7), .inl (cyI, 30, .inl c_readFirst)), ((a9 8), .inl (cyI, 30, .inl c_readSecond)), ((a9 6), .inl (cyI, 32, .inl c_reads)), ((a9 1), .inl (cyI, 240, .inl c_tape))]) hP hD hS hA [0] [1, 2, 3, 4, 5, 6] [6, 0, 1, 2, 3, 4, 5] rfl rfl rfl (by decide) rfl rfl (va_runV (C := RX9) (As := [.int 5]) (rest := []) ⟨hx, hb, hml, hown, hL⟩ (mX9_fails l D cyI cyJ cyB cyS N H.size a9 i9 g9  5 q26 e26) (cwV 1 hL (gV (hR17 13 rfl) (hR17 14 rfl) (hR17 15 rfl) (hR1 5 rfl) (hR17 16 rfl)) rfl rfl rfl (by decide +kernel) ⟨Nat.le_of_ble_eq_true rfl, Nat.le_of_ble_eq_true rfl⟩) (PP_preV (ci := 9) (q0 := 0) hP hD hK [0] rfl rfl rfl rfl) rfl rfl hl.1 rfl (lv_room (Nat.le_of_ble_eq_true rfl)) dX9_readRound_26 ⟨Nat.le_of_ble_eq_true rfl, Nat.le_of_ble_eq_true rfl⟩) (fun H locs hP hD hS => ?_)
    exact hB29 (c_reads (0 : Int32).toNatClampNeg) (i9 5) (i9 10) (i9 4) (i9 6) (i9 7) q26.1 q26.2 c_readFirst c_readSecond H locs ls hf hP hD hS (lv_sub hl [1, 0] rfl)
