abbrev rmX2_reset : Room := { frames := 0, cells := 0, slots := 0, locals := 0 }
set_option maxHeartbeats 40000000 in
set_option maxRecDepth 100000 in
theorem mX2_reset (l : Launch) (D : va_G) (cyI cyJ cyB cyS : ClassId) (N : Nat) (sz : Nat) (h0 : Nat) (a_balls : Nat) (a_choiceWorth : Nat) (a_placeWorth : Nat) (a_strength : Nat) (a_wheel : Nat) (v_sides : Int32) (v_kind : Int32) (v_rounds : Int32) (c_balls : Nat → Int32) (c_choiceWorth : Nat → Int32) (c_placeWorth : Nat → Int32) (c_strength : Nat → Int32) (c_wheel : Nat → Int32) (q : Int32 × Int32 × Int32 × (Nat → Int32) × (Nat → Int32) × (Nat → Int32) × (Nat → Int32) × (Nat → Int32)) (hf : fX2_reset N v_kind v_rounds v_sides c_balls c_choiceWorth c_placeWorth c_strength c_wheel = some q) : Met l yX2_reset (wS yX2_reset cX2_reset 2 none) rmX2_reset (va_Pc [.ref h0] (PP D cyI cyJ cyB cyS [(h0, .inr (2, [.ref a_strength, .ref a_placeWorth, .ref a_choiceWorth, .ref a_balls, .ref a_wheel, .int v_sides, .int v_kind, .int v_rounds])), (a_balls, .inl (cyI, 6, .inl c_balls)), (a_choiceWorth, .inl (cyI, 6, .inl c_choiceWorth)), (a_placeWorth, .inl (cyI, 6, .inl c_placeWorth)), (a_strength, .inl (cyI, 6, .inl c_strength)), (a_wheel, .inl (cyI, 6, .inl c_wheel))] sz)) (QV D [(h0, .inr (2, [.ref a_strength, .ref a_placeWorth, .ref a_choiceWorth, .ref a_balls, .ref a_wheel, .int q.2.2.1, .int q.1, .int q.2.1])), (a_balls, .inl (cyI, 6, .inl q.2.2.2.1)), (a_choiceWorth, .inl (cyI, 6, .inl q.2.2.2.2.1)), (a_placeWorth, .inl (cyI, 6, .inl q.2.2.2.2.2.1)), (a_strength, .inl (cyI, 6, .inl q.2.2.2.2.2.2.1)), (a_wheel, .inl (cyI, 6, .inl q.2.2.2.2.2.2.2))] (va_A [(h0, .inr (2, [.ref a_strength, .ref a_placeWorth, .ref a_choiceWorth, .ref a_balls, .ref a_wheel, .int v_sides, .int v_kind, .int v_rounds])), (a_balls, .inl (cyI, 6, .inl c_balls)), (a_choiceWorth, .inl (cyI, 6, .inl c_choiceWorth)), (a_placeWorth, .inl (cyI, 6, .inl c_placeWorth)), (a_strength, .inl (cyI, 6, .inl c_strength)), (a_wheel, .inl (cyI, 6, .inl c_wheel))] sz)) 0 0 (va_A [(h0, .inr (2, [.ref a_strength, .ref a_placeWorth, .ref a_choiceWorth, .ref a_balls, .ref a_wheel, .int v_sides, .int v_kind, .int v_rounds])), (a_balls, .inl (cyI, 6, .inl c_balls)), (a_choiceWorth, .inl (cyI, 6, .inl c_choiceWorth)), (a_placeWorth, .inl (cyI, 6, .inl c_placeWorth)), (a_strength, .inl (cyI, 6, .inl c_strength)), (a_wheel, .inl (cyI, 6, .inl c_wheel))] sz) := by
  refine Met.ofW (cc := cX2_reset) (maxL := 2) (ret := none) (by decide) rfl ?_
  intro p e s m args below meth c s₁ B hml hv
  obtain ⟨rfl, hsz, hP, hK, hD0⟩ := hv
  have hx := B.exec
  have hb := B.bytes
  have hr := B.returns
  have hts := atoms_spec (ws := (wS yX2_reset cX2_reset 2 none)) B.pre
  have hown : s.vm.findClass RX2 = some m.cls := findClass_of_methodNamed B.named
  have hlocks := B.notSynchronized
  subst hsz
  have hD := hD0.self (sz := s.heap.size)
  refine w_nameQ (fun Q hQ => ?_)
  have hl := lv_entry ([.ref h0] : List Value) (n := 2) (Nat.le_of_ble_eq_true rfl)
  rw [lg_entry_eq]
  generalize (lg_sl ([.ref h0] : List Value) ++ List.replicate (2 - (lg_sl ([.ref h0] : List Value)).length) Slot.unset).toArray = ls at hl ⊢
  have hl : lv_has ls 2 [(0, .ref h0)] := hl
  generalize hAe : va_A [(h0, .inr (2, [.ref a_strength, .ref a_placeWorth, .ref a_choiceWorth, .ref a_balls, .ref a_wheel, .int v_sides, .int v_kind, .int v_rounds])), (a_balls, .inl (cyI, 6, .inl c_balls)), (a_choiceWorth, .inl (cyI, 6, .inl c_choiceWorth)), (a_placeWorth, .inl (cyI, 6, .inl c_placeWorth)), (a_strength, .inl (cyI, 6, .inl c_strength)), (a_wheel, .inl (cyI, 6, .inl c_wheel))] s.heap.size = A at hD hQ
  have hA : ∀ q : Nat, s.heap.size ≤ q → A q := fun q h => by rw [← hAe]; exact Or.inr h
  have hS : va_S A s.heap s.heap [] := va_S.rf
  generalize ([.ref h0] : List Value).toArray = av at hts hQ ⊢
  have hL : ∀ w ∈ wsL_law, w.before av s = true := fun w h => hts w (List.mem_cons_of_mem _ h)
  have w0 := hL (.fieldLink RX2 9 "LosingLeague$Rules" "strength" "[I") (hR2 21 rfl)
  have w1 := hL (.fieldLink RX2 15 "LosingLeague$Rules" "placeWorth" "[I") (hR2 22 rfl)
  have w2 := hL (.fieldLink RX2 18 "LosingLeague$Rules" "choiceWorth" "[I") (hR2 23 rfl)
  have w3 := hL (.fieldLink RX2 21 "LosingLeague$Rules" "balls" "[I") (hR3 0 rfl)
  have w4 := hL (.fieldLink RX2 24 "LosingLeague$Rules" "wheel" "[I") (hR3 1 rfl)
  have w5 := hL (.fieldLink RX2 27 "LosingLeague$Rules" "sides" "I") (hR5 17 rfl)
  have w6 := hL (.fieldLink RX2 31 "LosingLeague$Rules" "kind" "I") (hR5 18 rfl)
  have w7 := hL (.fieldLink RX2 34 "LosingLeague$Rules" "rounds" "I") (hR5 19 rfl)
  have hB17 : ∀ (n : Nat), ∀ (x1 : Int32) (v_kind : Int32) (v_rounds : Int32) (v_sides : Int32) (c_balls : Nat → Int32) (c_choiceWorth : Nat → Int32) (c_placeWorth : Nat → Int32) (c_strength : Nat → Int32) (c_wheel : Nat → Int32) (H : Heap) (locs : List Loc) (ls : Array Slot), fX2_reset_17 N n x1 v_kind v_rounds v_sides c_balls c_choiceWorth c_placeWorth c_strength c_wheel = some q → va_P D vwCl [(h0, .inr (2, [.ref a_strength, .ref a_placeWorth, .ref a_choiceWorth, .ref a_balls, .ref a_wheel, .int v_sides, .int v_kind, .int v_rounds])), (a_balls, .inl (cyI, 6, .inl c_balls)), (a_choiceWorth, .inl (cyI, 6, .inl c_choiceWorth)), (a_placeWorth, .inl (cyI, 6, .inl c_placeWorth)), (a_strength, .inl (cyI, 6, .inl c_strength)), (a_wheel, .inl (cyI, 6, .inl c_wheel))] H → va_D A [(h0, .inr (2, [.ref a_strength, .ref a_placeWorth, .ref a_choiceWorth, .ref a_balls, .ref a_wheel, .int v_sides, .int v_kind, .int v_rounds])), (a_balls, .inl (cyI, 6, .inl c_balls)), (a_choiceWorth, .inl (cyI, 6, .inl c_choiceWorth)), (a_placeWorth, .inl (cyI, 6, .inl c_placeWorth)), (a_strength, .inl (cyI, 6, .inl c_strength)), (a_wheel, .inl (cyI, 6, .inl c_wheel))] → va_S A s.heap H locs → lv_has ls 2 [(0, .ref h0), (1, .int x1)] → W p l e rmX2_reset s m av below meth c H locs 0 0 Q (F0 m 17 ls []) := by
    intro n
    induction n with
    | zero => intro x1 v_kind v_rounds v_sides c_balls c_choiceWorth c_placeWorth c_strength c_wheel H locs ls hf; exact absurd hf (by simp [fX2_reset_17])
    | succ n hk17 =>
      intro x1 v_kind v_rounds v_sides c_balls c_choiceWorth c_placeWorth c_strength c_wheel H locs ls hf hP hD hS hl
      rw [fX2_reset_17] at hf
      refine lv_iload_n hx hb dX2_reset_17 rfl (lv_at hl 1 rfl) ?_
      refine lv_bipush (v := 6) hx hb dX2_reset_18 (by decide) ?_
      refine lv_icmp_ge (tgt := 64) hx hb dX2_reset_20 (by decide) (fun c20 => ?_) (fun c20 => ?_)
      · have hf := pif_t c20 hf
        exact ret_v (q := q) (wp := fun q => [(h0, .inr (2, [.ref a_strength, .ref a_placeWorth, .ref a_choiceWorth, .ref a_balls, .ref a_wheel, .int q.2.2.1, .int q.1, .int q.2.1])), (a_balls, .inl (cyI, 6, .inl q.2.2.2.1)), (a_choiceWorth, .inl (cyI, 6, .inl q.2.2.2.2.1)), (a_placeWorth, .inl (cyI, 6, .inl q.2.2.2.2.2.1)), (a_strength, .inl (cyI, 6, .inl q.2.2.2.2.2.2.1)), (a_wheel, .inl (cyI, 6, .inl q.2.2.2.2.2.2.2))]) hQ hf hx hb hr hlocks hP hD hS dX2_reset_64
      · have hf := pif_f c20 hf
        refine lv_aload_n hx hb dX2_reset_23 rfl (lv_at hl 0 rfl) ?_
        refine va_get (D := D) (ci := 2) (v := .ref a_strength) (C := RX2) (T := TX2) (N := 8) hx hb hL inlX2 hown hK.1 hP 0 rfl rfl 0 (by decide) w0 (fun _ h9 => h9) rfl dX2_reset_24 ?_
        refine lv_iload_n hx hb dX2_reset_27 rfl (lv_at hl 1 rfl) ?_
        refine lv_iconst (v := 5) hx hb dX2_reset_28 (by decide) ?_
        obtain ⟨h29, hf⟩ := pg_some hf
        refine va_iast hx hb hK.1 hP hD hS 4 0 rfl rfl h29 dX2_reset_29 (fun H locs hP hD hS => ?_)
        have hP : va_P D vwCl [(h0, .inr (2, [.ref a_strength, .ref a_placeWorth, .ref a_choiceWorth, .ref a_balls, .ref a_wheel, .int v_sides, .int v_kind, .int v_rounds])), (a_balls, .inl (cyI, 6, .inl c_balls)), (a_choiceWorth, .inl (cyI, 6, .inl c_choiceWorth)), (a_placeWorth, .inl (cyI, 6, .inl c_placeWorth)), (a_strength, .inl (cyI, 6, .inl (upd c_strength x1.toNatClampNeg 5))), (a_wheel, .inl (cyI, 6, .inl c_wheel))] H := hP
        have hD : va_D A [(h0, .inr (2, [.ref a_strength, .ref a_placeWorth, .ref a_choiceWorth, .ref a_balls, .ref a_wheel, .int v_sides, .int v_kind, .int v_rounds])), (a_balls, .inl (cyI, 6, .inl c_balls)), (a_choiceWorth, .inl (cyI, 6, .inl c_choiceWorth)), (a_placeWorth, .inl (cyI, 6, .inl c_placeWorth)), (a_strength, .inl (cyI, 6, .inl (upd c_strength x1.toNatClampNeg 5))), (a_wheel, .inl (cyI, 6, .inl c_wheel))] := hD
        refine lv_aload_n hx hb dX2_reset_30 rfl (lv_at hl 0 rfl) ?_
        refine va_get (D := D) (ci := 2) (v := .ref a_placeWorth) (C := RX2) (T := TX2) (N := 8) hx hb hL inlX2 hown hK.1 hP 0 rfl rfl 1 (by decide) w1 (fun _ h9 => h9) rfl dX2_reset_31 ?_
        refine lv_iload_n hx hb dX2_reset_34 rfl (lv_at hl 1 rfl) ?_
        refine lv_iconst (v := 0) hx hb dX2_reset_35 (by decide) ?_
        obtain ⟨h36, hf⟩ := pg_some hf
        refine va_iast hx hb hK.1 hP hD hS 3 0 rfl rfl h36 dX2_reset_36 (fun H locs hP hD hS => ?_)
        have hP : va_P D vwCl [(h0, .inr (2, [.ref a_strength, .ref a_placeWorth, .ref a_choiceWorth, .ref a_balls, .ref a_wheel, .int v_sides, .int v_kind, .int v_rounds])), (a_balls, .inl (cyI, 6, .inl c_balls)), (a_choiceWorth, .inl (cyI, 6, .inl c_choiceWorth)), (a_placeWorth, .inl (cyI, 6, .inl (upd c_placeWorth x1.toNatClampNeg 0))), (a_strength, .inl (cyI, 6, .inl (upd c_strength x1.toNatClampNeg 5))), (a_wheel, .inl (cyI, 6, .inl c_wheel))] H := hP
        have hD : va_D A [(h0, .inr (2, [.ref a_strength, .ref a_placeWorth, .ref a_choiceWorth, .ref a_balls, .ref a_wheel, .int v_sides, .int v_kind, .int v_rounds])), (a_balls, .inl (cyI, 6, .inl c_balls)), (a_choiceWorth, .inl (cyI, 6, .inl c_choiceWorth)), (a_placeWorth, .inl (cyI, 6, .inl (upd c_placeWorth x1.toNatClampNeg 0))), (a_strength, .inl (cyI, 6, .inl (upd c_strength x1.toNatClampNeg 5))), (a_wheel, .inl (cyI, 6, .inl c_wheel))] := hD
        refine lv_aload_n hx hb dX2_reset_37 rfl (lv_at hl 0 rfl) ?_
        refine va_get (D := D) (ci := 2) (v := .ref a_choiceWorth) (C := RX2) (T := TX2) (N := 8) hx hb hL inlX2 hown hK.1 hP 0 rfl rfl 2 (by decide) w2 (fun _ h9 => h9) rfl dX2_reset_38 ?_
        refine lv_iload_n hx hb dX2_reset_41 rfl (lv_at hl 1 rfl) ?_
        refine lv_iconst (v := 0) hx hb dX2_reset_42 (by decide) ?_
        obtain ⟨h43, hf⟩ := pg_some hf
        refine va_iast hx hb hK.1 hP hD hS 2 0 rfl rfl h43 dX2_reset_43 (fun H locs hP hD hS => ?_)
        have hP : va_P D vwCl [(h0, .inr (2, [.ref a_strength, .ref a_placeWorth, .ref a_choiceWorth, .ref a_balls, .ref a_wheel, .int v_sides, .int v_kind, .int v_rounds])), (a_balls, .inl (cyI, 6, .inl c_balls)), (a_choiceWorth, .inl (cyI, 6, .inl (upd c_choiceWorth x1.toNatClampNeg 0))), (a_placeWorth, .inl (cyI, 6, .inl (upd c_placeWorth x1.toNatClampNeg 0))), (a_strength, .inl (cyI, 6, .inl (upd c_strength x1.toNatClampNeg 5))), (a_wheel, .inl (cyI, 6, .inl c_wheel))] H := hP
        have hD : va_D A [(h0, .inr (2, [.ref a_strength, .ref a_placeWorth, .ref a_choiceWorth, .ref a_balls, .ref a_wheel, .int v_sides, .int v_kind, .int v_rounds])), (a_balls, .inl (cyI, 6, .inl c_balls)), (a_choiceWorth, .inl (cyI, 6, .inl (upd c_choiceWorth x1.toNatClampNeg 0))), (a_placeWorth, .inl (cyI, 6, .inl (upd c_placeWorth x1.toNatClampNeg 0))), (a_strength, .inl (cyI, 6, .inl (upd c_strength x1.toNatClampNeg 5))), (a_wheel, .inl (cyI, 6, .inl c_wheel))] := hD
        refine lv_aload_n hx hb dX2_reset_44 rfl (lv_at hl 0 rfl) ?_
        refine va_get (D := D) (ci := 2) (v := .ref a_balls) (C := RX2) (T := TX2) (N := 8) hx hb hL inlX2 hown hK.1 hP 0 rfl rfl 3 (by decide) w3 (fun _ h9 => h9) rfl dX2_reset_45 ?_
        refine lv_iload_n hx hb dX2_reset_48 rfl (lv_at hl 1 rfl) ?_
        refine lv_iconst (v := 1) hx hb dX2_reset_49 (by decide) ?_
        obtain ⟨h50, hf⟩ := pg_some hf
        refine va_iast hx hb hK.1 hP hD hS 1 0 rfl rfl h50 dX2_reset_50 (fun H locs hP hD hS => ?_)
        have hP : va_P D vwCl [(h0, .inr (2, [.ref a_strength, .ref a_placeWorth, .ref a_choiceWorth, .ref a_balls, .ref a_wheel, .int v_sides, .int v_kind, .int v_rounds])), (a_balls, .inl (cyI, 6, .inl (upd c_balls x1.toNatClampNeg 1))), (a_choiceWorth, .inl (cyI, 6, .inl (upd c_choiceWorth x1.toNatClampNeg 0))), (a_placeWorth, .inl (cyI, 6, .inl (upd c_placeWorth x1.toNatClampNeg 0))), (a_strength, .inl (cyI, 6, .inl (upd c_strength x1.toNatClampNeg 5))), (a_wheel, .inl (cyI, 6, .inl c_wheel))] H := hP
        have hD : va_D A [(h0, .inr (2, [.ref a_strength, .ref a_placeWorth, .ref a_choiceWorth, .ref a_balls, .ref a_wheel, .int v_sides, .int v_kind, .int v_rounds])), (a_balls, .inl (cyI, 6, .inl (upd c_balls x1.toNatClampNeg 1))), (a_choiceWorth, .inl (cyI, 6, .inl (upd c_choiceWorth x1.toNatClampNeg 0))), (a_placeWorth, .inl (cyI, 6, .inl (upd c_placeWorth x1.toNatClampNeg 0))), (a_strength, .inl (cyI, 6, .inl (upd c_strength x1.toNatClampNeg 5))), (a_wheel, .inl (cyI, 6, .inl c_wheel))] := hD
        refine lv_aload_n hx hb dX2_reset_51 rfl (lv_at hl 0 rfl) ?_
        refine va_get (D := D) (ci := 2) (v := .ref a_wheel) (C := RX2) (T := TX2) (N := 8) hx hb hL inlX2 hown hK.1 hP 0 rfl rfl 4 (by decide) w4 (fun _ h9 => h9) rfl dX2_reset_52 ?_
        refine lv_iload_n hx hb dX2_reset_55 rfl (lv_at hl 1 rfl) ?_
        refine lv_iload_n hx hb dX2_reset_56 rfl (lv_at hl 1 rfl) ?_
        obtain ⟨h57, hf⟩ := pg_some hf
        refine va_iast hx hb hK.1 hP hD hS 5 0 rfl rfl h57 dX2_reset_57 (fun H locs hP hD hS => ?_)
        have hP : va_P D vwCl [(h0, .inr (2, [.ref a_strength, .ref a_placeWorth, .ref a_choiceWorth, .ref a_balls, .ref a_wheel, .int v_sides, .int v_kind, .int v_rounds])), (a_balls, .inl (cyI, 6, .inl (upd c_balls x1.toNatClampNeg 1))), (a_choiceWorth, .inl (cyI, 6, .inl (upd c_choiceWorth x1.toNatClampNeg 0))), (a_placeWorth, .inl (cyI, 6, .inl (upd c_placeWorth x1.toNatClampNeg 0))), (a_strength, .inl (cyI, 6, .inl (upd c_strength x1.toNatClampNeg 5))), (a_wheel, .inl (cyI, 6, .inl (upd c_wheel x1.toNatClampNeg x1)))] H := hP
        have hD : va_D A [(h0, .inr (2, [.ref a_strength, .ref a_placeWorth, .ref a_choiceWorth, .ref a_balls, .ref a_wheel, .int v_sides, .int v_kind, .int v_rounds])), (a_balls, .inl (cyI, 6, .inl (upd c_balls x1.toNatClampNeg 1))), (a_choiceWorth, .inl (cyI, 6, .inl (upd c_choiceWorth x1.toNatClampNeg 0))), (a_placeWorth, .inl (cyI, 6, .inl (upd c_placeWorth x1.toNatClampNeg 0))), (a_strength, .inl (cyI, 6, .inl (upd c_strength x1.toNatClampNeg 5))), (a_wheel, .inl (cyI, 6, .inl (upd c_wheel x1.toNatClampNeg x1)))] := hD
        refine lv_iinc (v := x1 + 1) (lv' := [(1, .int (x1 + 1)), (0, .ref h0)]) hx hb dX2_reset_58 hl (k := 1) rfl rfl (by decide) rfl (fun ls hl => ?_)
        refine lv_goto (tgt := 17) hx hb dX2_reset_61 (by decide) ?_
        exact hk17 (x1 + 1) v_kind v_rounds v_sides (upd c_balls x1.toNatClampNeg 1) (upd c_choiceWorth x1.toNatClampNeg 0) (upd c_placeWorth x1.toNatClampNeg 0) (upd c_strength x1.toNatClampNeg 5) (upd c_wheel x1.toNatClampNeg x1) H locs ls hf hP hD hS (lv_sub hl [1, 0] rfl)
  unfold fX2_reset at hf
  obtain ⟨H, hH⟩ : ∃ H : Heap, H = s.heap := ⟨_, rfl⟩
  obtain ⟨locs, hlo⟩ : ∃ locs : List Loc, locs = [] := ⟨_, rfl⟩
  have hP : va_P D vwCl [(h0, .inr (2, [.ref a_strength, .ref a_placeWorth, .ref a_choiceWorth, .ref a_balls, .ref a_wheel, .int v_sides, .int v_kind, .int v_rounds])), (a_balls, .inl (cyI, 6, .inl c_balls)), (a_choiceWorth, .inl (cyI, 6, .inl c_choiceWorth)), (a_placeWorth, .inl (cyI, 6, .inl c_placeWorth)), (a_strength, .inl (cyI, 6, .inl c_strength)), (a_wheel, .inl (cyI, 6, .inl c_wheel))] H := by rw [hH]; exact hP
  have hS : va_S A s.heap H locs := by rw [hH, hlo]; exact hS
  suffices hw : W p l e rmX2_reset s m av below meth c H locs 0 0 Q (F0 m 0 ls []) by rw [hH, hlo] at hw; exact hw
  refine lv_aload_n hx hb dX2_reset_0 rfl (lv_at hl 0 rfl) ?_
  refine lv_iconst (v := 4) hx hb dX2_reset_1 (by decide) ?_
  refine va_put (D := D) (ci := 2) (v := .int 4) (ty := .int) (C := RX2) (T := TX2) (N := 8) hx hb hL inlX2 tyX2 tyX2_ok nmX2 hown hK.1 hP hD hS 0 rfl rfl 5 (by decide) w5 (fun _ h9 => h9) rfl (by decide +kernel) rfl rfl (Nat.le_of_ble_eq_true rfl) dX2_reset_2 (fun H locs hP hD hS => ?_)
  have hP : va_P D vwCl [(h0, .inr (2, [.ref a_strength, .ref a_placeWorth, .ref a_choiceWorth, .ref a_balls, .ref a_wheel, .int 4, .int v_kind, .int v_rounds])), (a_balls, .inl (cyI, 6, .inl c_balls)), (a_choiceWorth, .inl (cyI, 6, .inl c_choiceWorth)), (a_placeWorth, .inl (cyI, 6, .inl c_placeWorth)), (a_strength, .inl (cyI, 6, .inl c_strength)), (a_wheel, .inl (cyI, 6, .inl c_wheel))] H := hP
  have hD : va_D A [(h0, .inr (2, [.ref a_strength, .ref a_placeWorth, .ref a_choiceWorth, .ref a_balls, .ref a_wheel, .int 4, .int v_kind, .int v_rounds])), (a_balls, .inl (cyI, 6, .inl c_balls)), (a_choiceWorth, .inl (cyI, 6, .inl c_choiceWorth)), (a_placeWorth, .inl (cyI, 6, .inl c_placeWorth)), (a_strength, .inl (cyI, 6, .inl c_strength)), (a_wheel, .inl (cyI, 6, .inl c_wheel))] := hD
  refine lv_aload_n hx hb dX2_reset_5 rfl (lv_at hl 0 rfl) ?_
  refine lv_iconst (v := 0) hx hb dX2_reset_6 (by decide) ?_
  refine va_put (D := D) (ci := 2) (v := .int 0) (ty := .int) (C := RX2) (T := TX2) (N := 8) hx hb hL inlX2 tyX2 tyX2_ok nmX2 hown hK.1 hP hD hS 0 rfl rfl 6 (by decide) w6 (fun _ h9 => h9) rfl (by decide +kernel) rfl rfl (Nat.le_of_ble_eq_true rfl) dX2_reset_7 (fun H locs hP hD hS => ?_)
  have hP : va_P D vwCl [(h0, .inr (2, [.ref a_strength, .ref a_placeWorth, .ref a_choiceWorth, .ref a_balls, .ref a_wheel, .int 4, .int 0, .int v_rounds])), (a_balls, .inl (cyI, 6, .inl c_balls)), (a_choiceWorth, .inl (cyI, 6, .inl c_choiceWorth)), (a_placeWorth, .inl (cyI, 6, .inl c_placeWorth)), (a_strength, .inl (cyI, 6, .inl c_strength)), (a_wheel, .inl (cyI, 6, .inl c_wheel))] H := hP
  have hD : va_D A [(h0, .inr (2, [.ref a_strength, .ref a_placeWorth, .ref a_choiceWorth, .ref a_balls, .ref a_wheel, .int 4, .int 0, .int v_rounds])), (a_balls, .inl (cyI, 6, .inl c_balls)), (a_choiceWorth, .inl (cyI, 6, .inl c_choiceWorth)), (a_placeWorth, .inl (cyI, 6, .inl c_placeWorth)), (a_strength, .inl (cyI, 6, .inl c_strength)), (a_wheel, .inl (cyI, 6, .inl c_wheel))] := hD
  refine lv_aload_n hx hb dX2_reset_10 rfl (lv_at hl 0 rfl) ?_
  refine lv_iconst (v := 0) hx hb dX2_reset_11 (by decide) ?_
  refine va_put (D := D) (ci := 2) (v := .int 0) (ty := .int) (C := RX2) (T := TX2) (N := 8) hx hb hL inlX2 tyX2 tyX2_ok nmX2 hown hK.1 hP hD hS 0 rfl rfl 7 (by decide) w7 (fun _ h9 => h9) rfl (by decide +kernel) rfl rfl (Nat.le_of_ble_eq_true rfl) dX2_reset_12 (fun H locs hP hD hS => ?_)
  have hP : va_P D vwCl [(h0, .inr (2, [.ref a_strength, .ref a_placeWorth, .ref a_choiceWorth, .ref a_balls, .ref a_wheel, .int 4, .int 0, .int 0])), (a_balls, .inl (cyI, 6, .inl c_balls)), (a_choiceWorth, .inl (cyI, 6, .inl c_choiceWorth)), (a_placeWorth, .inl (cyI, 6, .inl c_placeWorth)), (a_strength, .inl (cyI, 6, .inl c_strength)), (a_wheel, .inl (cyI, 6, .inl c_wheel))] H := hP
  have hD : va_D A [(h0, .inr (2, [.ref a_strength, .ref a_placeWorth, .ref a_choiceWorth, .ref a_balls, .ref a_wheel, .int 4, .int 0, .int 0])), (a_balls, .inl (cyI, 6, .inl c_balls)), (a_choiceWorth, .inl (cyI, 6, .inl c_choiceWorth)), (a_placeWorth, .inl (cyI, 6, .inl c_placeWorth)), (a_strength, .inl (cyI, 6, .inl c_strength)), (a_wheel, .inl (cyI, 6, .inl c_wheel))] := hD
  refine lv_iconst (v := 0) hx hb dX2_reset_15 (by decide) ?_
  refine lv_istore_n (lv' := [(1, .int 0), (0, .ref h0)]) hx hb dX2_reset_16 rfl hl (by decide) rfl (fun ls hl => ?_)
  exact hB17 N 0 0 0 4 c_balls c_choiceWorth c_placeWorth c_strength c_wheel H locs ls hf hP hD hS (lv_sub hl [1, 0] rfl)
abbrev rmX2_copyFrom : Room := { frames := 0, cells := 0, slots := 0, locals := 0 }
set_option maxHeartbeats 40000000 in
set_option maxRecDepth 100000 in
theorem mX2_copyFrom (l : Launch) (D : va_G) (cyI cyJ cyB cyS : ClassId) (N : Nat) (sz : Nat) (h0 : Nat) (a_balls : Nat) (a_choiceWorth : Nat) (a_p1 : Nat) (a_p1_balls : Nat) (a_p1_choiceWorth : Nat) (a_p1_placeWorth : Nat) (a_p1_strength : Nat) (a_p1_wheel : Nat) (a_placeWorth : Nat) (a_strength : Nat) (a_wheel : Nat) (v_sides : Int32) (v_kind : Int32) (v_rounds : Int32) (c_balls : Nat → Int32) (c_choiceWorth : Nat → Int32) (v_p1_sides : Int32) (v_p1_kind : Int32) (v_p1_rounds : Int32) (c_p1_balls : Nat → Int32) (c_p1_choiceWorth : Nat → Int32) (c_p1_placeWorth : Nat → Int32) (c_p1_strength : Nat → Int32) (c_p1_wheel : Nat → Int32) (c_placeWorth : Nat → Int32) (c_strength : Nat → Int32) (c_wheel : Nat → Int32) (q : Int32 × Int32 × Int32 × (Nat → Int32) × (Nat → Int32) × (Nat → Int32) × (Nat → Int32) × (Nat → Int32)) (hf : fX2_copyFrom N v_kind v_rounds v_sides c_balls c_choiceWorth v_p1_kind v_p1_rounds v_p1_sides c_p1_balls c_p1_choiceWorth c_p1_placeWorth c_p1_strength c_p1_wheel c_placeWorth c_strength c_wheel = some q) : Met l yX2_copyFrom (wS yX2_copyFrom cX2_copyFrom 3 none) rmX2_copyFrom (va_Pc [.ref h0, .ref a_p1] (PP D cyI cyJ cyB cyS [(h0, .inr (2, [.ref a_strength, .ref a_placeWorth, .ref a_choiceWorth, .ref a_balls, .ref a_wheel, .int v_sides, .int v_kind, .int v_rounds])), (a_balls, .inl (cyI, 6, .inl c_balls)), (a_choiceWorth, .inl (cyI, 6, .inl c_choiceWorth)), (a_p1, .inr (2, [.ref a_p1_strength, .ref a_p1_placeWorth, .ref a_p1_choiceWorth, .ref a_p1_balls, .ref a_p1_wheel, .int v_p1_sides, .int v_p1_kind, .int v_p1_rounds])), (a_p1_balls, .inl (cyI, 6, .inl c_p1_balls)), (a_p1_choiceWorth, .inl (cyI, 6, .inl c_p1_choiceWorth)), (a_p1_placeWorth, .inl (cyI, 6, .inl c_p1_placeWorth)), (a_p1_strength, .inl (cyI, 6, .inl c_p1_strength)), (a_p1_wheel, .inl (cyI, 6, .inl c_p1_wheel)), (a_placeWorth, .inl (cyI, 6, .inl c_placeWorth)), (a_strength, .inl (cyI, 6, .inl c_strength)), (a_wheel, .inl (cyI, 6, .inl c_wheel))] sz)) (QV D [(h0, .inr (2, [.ref a_strength, .ref a_placeWorth, .ref a_choiceWorth, .ref a_balls, .ref a_wheel, .int q.2.2.1, .int q.1, .int q.2.1])), (a_balls, .inl (cyI, 6, .inl q.2.2.2.1)), (a_choiceWorth, .inl (cyI, 6, .inl q.2.2.2.2.1)), (a_p1, .inr (2, [.ref a_p1_strength, .ref a_p1_placeWorth, .ref a_p1_choiceWorth, .ref a_p1_balls, .ref a_p1_wheel, .int v_p1_sides, .int v_p1_kind, .int v_p1_rounds])), (a_p1_balls, .inl (cyI, 6, .inl c_p1_balls)), (a_p1_choiceWorth, .inl (cyI, 6, .inl c_p1_choiceWorth)), (a_p1_placeWorth, .inl (cyI, 6, .inl c_p1_placeWorth)), (a_p1_strength, .inl (cyI, 6, .inl c_p1_strength)), (a_p1_wheel, .inl (cyI, 6, .inl c_p1_wheel)), (a_placeWorth, .inl (cyI, 6, .inl q.2.2.2.2.2.1)), (a_strength, .inl (cyI, 6, .inl q.2.2.2.2.2.2.1)), (a_wheel, .inl (cyI, 6, .inl q.2.2.2.2.2.2.2))] (va_A [(h0, .inr (2, [.ref a_strength, .ref a_placeWorth, .ref a_choiceWorth, .ref a_balls, .ref a_wheel, .int v_sides, .int v_kind, .int v_rounds])), (a_balls, .inl (cyI, 6, .inl c_balls)), (a_choiceWorth, .inl (cyI, 6, .inl c_choiceWorth)), (a_p1, .inr (2, [.ref a_p1_strength, .ref a_p1_placeWorth, .ref a_p1_choiceWorth, .ref a_p1_balls, .ref a_p1_wheel, .int v_p1_sides, .int v_p1_kind, .int v_p1_rounds])), (a_p1_balls, .inl (cyI, 6, .inl c_p1_balls)), (a_p1_choiceWorth, .inl (cyI, 6, .inl c_p1_choiceWorth)), (a_p1_placeWorth, .inl (cyI, 6, .inl c_p1_placeWorth)), (a_p1_strength, .inl (cyI, 6, .inl c_p1_strength)), (a_p1_wheel, .inl (cyI, 6, .inl c_p1_wheel)), (a_placeWorth, .inl (cyI, 6, .inl c_placeWorth)), (a_strength, .inl (cyI, 6, .inl c_strength)), (a_wheel, .inl (cyI, 6, .inl c_wheel))] sz)) 0 0 (va_A [(h0, .inr (2, [.ref a_strength, .ref a_placeWorth, .ref a_choiceWorth, .ref a_balls, .ref a_wheel, .int v_sides, .int v_kind, .int v_rounds])), (a_balls, .inl (cyI, 6, .inl c_balls)), (a_choiceWorth, .inl (cyI, 6, .inl c_choiceWorth)), (a_p1, .inr (2, [.ref a_p1_strength, .ref a_p1_placeWorth, .ref a_p1_choiceWorth, .ref a_p1_balls, .ref a_p1_wheel, .int v_p1_sides, .int v_p1_kind, .int v_p1_rounds])), (a_p1_balls, .inl (cyI, 6, .inl c_p1_balls)), (a_p1_choiceWorth, .inl (cyI, 6, .inl c_p1_choiceWorth)), (a_p1_placeWorth, .inl (cyI, 6, .inl c_p1_placeWorth)), (a_p1_strength, .inl (cyI, 6, .inl c_p1_strength)), (a_p1_wheel, .inl (cyI, 6, .inl c_p1_wheel)), (a_placeWorth, .inl (cyI, 6, .inl c_placeWorth)), (a_strength, .inl (cyI, 6, .inl c_strength)), (a_wheel, .inl (cyI, 6, .inl c_wheel))] sz) := by
  refine Met.ofW (cc := cX2_copyFrom) (maxL := 3) (ret := none) (by decide) rfl ?_
  intro p e s m args below meth c s₁ B hml hv
  obtain ⟨rfl, hsz, hP, hK, hD0⟩ := hv
  have hx := B.exec
  have hb := B.bytes
  have hr := B.returns
  have hts := atoms_spec (ws := (wS yX2_copyFrom cX2_copyFrom 3 none)) B.pre
  have hown : s.vm.findClass RX2 = some m.cls := findClass_of_methodNamed B.named
  have hlocks := B.notSynchronized
  subst hsz
  have hD := hD0.self (sz := s.heap.size)
  refine w_nameQ (fun Q hQ => ?_)
  have hl := lv_entry ([.ref h0, .ref a_p1] : List Value) (n := 3) (Nat.le_of_ble_eq_true rfl)
  rw [lg_entry_eq]
  generalize (lg_sl ([.ref h0, .ref a_p1] : List Value) ++ List.replicate (3 - (lg_sl ([.ref h0, .ref a_p1] : List Value)).length) Slot.unset).toArray = ls at hl ⊢
  have hl : lv_has ls 3 [(0, .ref h0), (1, .ref a_p1)] := hl
  generalize hAe : va_A [(h0, .inr (2, [.ref a_strength, .ref a_placeWorth, .ref a_choiceWorth, .ref a_balls, .ref a_wheel, .int v_sides, .int v_kind, .int v_rounds])), (a_balls, .inl (cyI, 6, .inl c_balls)), (a_choiceWorth, .inl (cyI, 6, .inl c_choiceWorth)), (a_p1, .inr (2, [.ref a_p1_strength, .ref a_p1_placeWorth, .ref a_p1_choiceWorth, .ref a_p1_balls, .ref a_p1_wheel, .int v_p1_sides, .int v_p1_kind, .int v_p1_rounds])), (a_p1_balls, .inl (cyI, 6, .inl c_p1_balls)), (a_p1_choiceWorth, .inl (cyI, 6, .inl c_p1_choiceWorth)), (a_p1_placeWorth, .inl (cyI, 6, .inl c_p1_placeWorth)), (a_p1_strength, .inl (cyI, 6, .inl c_p1_strength)), (a_p1_wheel, .inl (cyI, 6, .inl c_p1_wheel)), (a_placeWorth, .inl (cyI, 6, .inl c_placeWorth)), (a_strength, .inl (cyI, 6, .inl c_strength)), (a_wheel, .inl (cyI, 6, .inl c_wheel))] s.heap.size = A at hD hQ
  have hA : ∀ q : Nat, s.heap.size ≤ q → A q := fun q h => by rw [← hAe]; exact Or.inr h
  have hS : va_S A s.heap s.heap [] := va_S.rf
  generalize ([.ref h0, .ref a_p1] : List Value).toArray = av at hts hQ ⊢
  have hL : ∀ w ∈ wsL_law, w.before av s = true := fun w h => hts w (List.mem_cons_of_mem _ h)
  have w0 := hL (.fieldLink RX2 9 "LosingLeague$Rules" "strength" "[I") (hR2 21 rfl)
  have w1 := hL (.fieldLink RX2 15 "LosingLeague$Rules" "placeWorth" "[I") (hR2 22 rfl)
  have w2 := hL (.fieldLink RX2 18 "LosingLeague$Rules" "choiceWorth" "[I") (hR2 23 rfl)
  have w3 := hL (.fieldLink RX2 21 "LosingLeague$Rules" "balls" "[I") (hR3 0 rfl)
  have w4 := hL (.fieldLink RX2 24 "LosingLeague$Rules" "wheel" "[I") (hR3 1 rfl)
  have w5 := hL (.fieldLink RX2 27 "LosingLeague$Rules" "sides" "I") (hR5 17 rfl)
  have w6 := hL (.fieldLink RX2 31 "LosingLeague$Rules" "kind" "I") (hR5 18 rfl)
  have w7 := hL (.fieldLink RX2 34 "LosingLeague$Rules" "rounds" "I") (hR5 19 rfl)
  have hB26 : ∀ (n : Nat), ∀ (x2 : Int32) (v_kind : Int32) (v_rounds : Int32) (v_sides : Int32) (c_balls : Nat → Int32) (c_choiceWorth : Nat → Int32) (c_placeWorth : Nat → Int32) (c_strength : Nat → Int32) (c_wheel : Nat → Int32) (H : Heap) (locs : List Loc) (ls : Array Slot), fX2_copyFrom_26 N v_p1_kind v_p1_rounds v_p1_sides c_p1_balls c_p1_choiceWorth c_p1_placeWorth c_p1_strength c_p1_wheel n x2 v_kind v_rounds v_sides c_balls c_choiceWorth c_placeWorth c_strength c_wheel = some q → va_P D vwCl [(h0, .inr (2, [.ref a_strength, .ref a_placeWorth, .ref a_choiceWorth, .ref a_balls, .ref a_wheel, .int v_sides, .int v_kind, .int v_rounds])), (a_balls, .inl (cyI, 6, .inl c_balls)), (a_choiceWorth, .inl (cyI, 6, .inl c_choiceWorth)), (a_p1, .inr (2, [.ref a_p1_strength, .ref a_p1_placeWorth, .ref a_p1_choiceWorth, .ref a_p1_balls, .ref a_p1_wheel, .int v_p1_sides, .int v_p1_kind, .int v_p1_rounds])), (a_p1_balls, .inl (cyI, 6, .inl c_p1_balls)), (a_p1_choiceWorth, .inl (cyI, 6, .inl c_p1_choiceWorth)), (a_p1_placeWorth, .inl (cyI, 6, .inl c_p1_placeWorth)), (a_p1_strength, .inl (cyI, 6, .inl c_p1_strength)), (a_p1_wheel, .inl (cyI, 6, .inl c_p1_wheel)), (a_placeWorth, .inl (cyI, 6, .inl c_placeWorth)), (a_strength, .inl (cyI, 6, .inl c_strength)), (a_wheel, .inl (cyI, 6, .inl c_wheel))] H → va_D A [(h0, .inr (2, [.ref a_strength, .ref a_placeWorth, .ref a_choiceWorth, .ref a_balls, .ref a_wheel, .int v_sides, .int v_kind, .int v_rounds])), (a_balls, .inl (cyI, 6, .inl c_balls)), (a_choiceWorth, .inl (cyI, 6, .inl c_choiceWorth)), (a_p1, .inr (2, [.ref a_p1_strength, .ref a_p1_placeWorth, .ref a_p1_choiceWorth, .ref a_p1_balls, .ref a_p1_wheel, .int v_p1_sides, .int v_p1_kind, .int v_p1_rounds])), (a_p1_balls, .inl (cyI, 6, .inl c_p1_balls)), (a_p1_choiceWorth, .inl (cyI, 6, .inl c_p1_choiceWorth)), (a_p1_placeWorth, .inl (cyI, 6, .inl c_p1_placeWorth)), (a_p1_strength, .inl (cyI, 6, .inl c_p1_strength)), (a_p1_wheel, .inl (cyI, 6, .inl c_p1_wheel)), (a_placeWorth, .inl (cyI, 6, .inl c_placeWorth)), (a_strength, .inl (cyI, 6, .inl c_strength)), (a_wheel, .inl (cyI, 6, .inl c_wheel))] → va_S A s.heap H locs → lv_has ls 3 [(0, .ref h0), (1, .ref a_p1), (2, .int x2)] → W p l e rmX2_copyFrom s m av below meth c H locs 0 0 Q (F0 m 26 ls []) := by
    intro n
    induction n with
    | zero => intro x2 v_kind v_rounds v_sides c_balls c_choiceWorth c_placeWorth c_strength c_wheel H locs ls hf; exact absurd hf (by simp [fX2_copyFrom_26])
    | succ n hk26 =>
      intro x2 v_kind v_rounds v_sides c_balls c_choiceWorth c_placeWorth c_strength c_wheel H locs ls hf hP hD hS hl
      rw [fX2_copyFrom_26] at hf
      refine lv_iload_n hx hb dX2_copyFrom_26 rfl (lv_at hl 2 rfl) ?_
      refine lv_bipush (v := 6) hx hb dX2_copyFrom_27 (by decide) ?_
      refine lv_icmp_ge (tgt := 98) hx hb dX2_copyFrom_29 (by decide) (fun c29 => ?_) (fun c29 => ?_)
      · have hf := pif_t c29 hf
        exact ret_v (q := q) (wp := fun q => [(h0, .inr (2, [.ref a_strength, .ref a_placeWorth, .ref a_choiceWorth, .ref a_balls, .ref a_wheel, .int q.2.2.1, .int q.1, .int q.2.1])), (a_balls, .inl (cyI, 6, .inl q.2.2.2.1)), (a_choiceWorth, .inl (cyI, 6, .inl q.2.2.2.2.1)), (a_p1, .inr (2, [.ref a_p1_strength, .ref a_p1_placeWorth, .ref a_p1_choiceWorth, .ref a_p1_balls, .ref a_p1_wheel, .int v_p1_sides, .int v_p1_kind, .int v_p1_rounds])), (a_p1_balls, .inl (cyI, 6, .inl c_p1_balls)), (a_p1_choiceWorth, .inl (cyI, 6, .inl c_p1_choiceWorth)), (a_p1_placeWorth, .inl (cyI, 6, .inl c_p1_placeWorth)), (a_p1_strength, .inl (cyI, 6, .inl c_p1_strength)), (a_p1_wheel, .inl (cyI, 6, .inl c_p1_wheel)), (a_placeWorth, .inl (cyI, 6, .inl q.2.2.2.2.2.1)), (a_strength, .inl (cyI, 6, .inl q.2.2.2.2.2.2.1)), (a_wheel, .inl (cyI, 6, .inl q.2.2.2.2.2.2.2))]) hQ hf hx hb hr hlocks hP hD hS dX2_copyFrom_98
      · have hf := pif_f c29 hf
        refine lv_aload_n hx hb dX2_copyFrom_32 rfl (lv_at hl 0 rfl) ?_
        refine va_get (D := D) (ci := 2) (v := .ref a_strength) (C := RX2) (T := TX2) (N := 8) hx hb hL inlX2 hown hK.1 hP 0 rfl rfl 0 (by decide) w0 (fun _ h9 => h9) rfl dX2_copyFrom_33 ?_
        refine lv_iload_n hx hb dX2_copyFrom_36 rfl (lv_at hl 2 rfl) ?_
        refine lv_aload_n hx hb dX2_copyFrom_37 rfl (lv_at hl 1 rfl) ?_
        refine va_get (D := D) (ci := 2) (v := .ref a_p1_strength) (C := RX2) (T := TX2) (N := 8) hx hb hL inlX2 hown hK.1 hP 3 rfl rfl 0 (by decide) w0 (fun _ h9 => h9) rfl dX2_copyFrom_38 ?_
        refine lv_iload_n hx hb dX2_copyFrom_41 rfl (lv_at hl 2 rfl) ?_
        obtain ⟨h42, hf⟩ := pg_some hf
        refine va_iald hx hb hK.1 hP 7 0 rfl rfl h42 dX2_copyFrom_42 ?_
        obtain ⟨h43, hf⟩ := pg_some hf
        refine va_iast hx hb hK.1 hP hD hS 10 0 rfl rfl h43 dX2_copyFrom_43 (fun H locs hP hD hS => ?_)
        have hP : va_P D vwCl [(h0, .inr (2, [.ref a_strength, .ref a_placeWorth, .ref a_choiceWorth, .ref a_balls, .ref a_wheel, .int v_sides, .int v_kind, .int v_rounds])), (a_balls, .inl (cyI, 6, .inl c_balls)), (a_choiceWorth, .inl (cyI, 6, .inl c_choiceWorth)), (a_p1, .inr (2, [.ref a_p1_strength, .ref a_p1_placeWorth, .ref a_p1_choiceWorth, .ref a_p1_balls, .ref a_p1_wheel, .int v_p1_sides, .int v_p1_kind, .int v_p1_rounds])), (a_p1_balls, .inl (cyI, 6, .inl c_p1_balls)), (a_p1_choiceWorth, .inl (cyI, 6, .inl c_p1_choiceWorth)), (a_p1_placeWorth, .inl (cyI, 6, .inl c_p1_placeWorth)), (a_p1_strength, .inl (cyI, 6, .inl c_p1_strength)), (a_p1_wheel, .inl (cyI, 6, .inl c_p1_wheel)), (a_placeWorth, .inl (cyI, 6, .inl c_placeWorth)), (a_strength, .inl (cyI, 6, .inl (upd c_strength x2.toNatClampNeg (c_p1_strength x2.toNatClampNeg)))), (a_wheel, .inl (cyI, 6, .inl c_wheel))] H := hP
        have hD : va_D A [(h0, .inr (2, [.ref a_strength, .ref a_placeWorth, .ref a_choiceWorth, .ref a_balls, .ref a_wheel, .int v_sides, .int v_kind, .int v_rounds])), (a_balls, .inl (cyI, 6, .inl c_balls)), (a_choiceWorth, .inl (cyI, 6, .inl c_choiceWorth)), (a_p1, .inr (2, [.ref a_p1_strength, .ref a_p1_placeWorth, .ref a_p1_choiceWorth, .ref a_p1_balls, .ref a_p1_wheel, .int v_p1_sides, .int v_p1_kind, .int v_p1_rounds])), (a_p1_balls, .inl (cyI, 6, .inl c_p1_balls)), (a_p1_choiceWorth, .inl (cyI, 6, .inl c_p1_choiceWorth)), (a_p1_placeWorth, .inl (cyI, 6, .inl c_p1_placeWorth)), (a_p1_strength, .inl (cyI, 6, .inl c_p1_strength)), (a_p1_wheel, .inl (cyI, 6, .inl c_p1_wheel)), (a_placeWorth, .inl (cyI, 6, .inl c_placeWorth)), (a_strength, .inl (cyI, 6, .inl (upd c_strength x2.toNatClampNeg (c_p1_strength x2.toNatClampNeg)))), (a_wheel, .inl (cyI, 6, .inl c_wheel))] := hD
        refine lv_aload_n hx hb dX2_copyFrom_44 rfl (lv_at hl 0 rfl) ?_
        refine va_get (D := D) (ci := 2) (v := .ref a_placeWorth) (C := RX2) (T := TX2) (N := 8) hx hb hL inlX2 hown hK.1 hP 0 rfl rfl 1 (by decide) w1 (fun _ h9 => h9) rfl dX2_copyFrom_45 ?_
        refine lv_iload_n hx hb dX2_copyFrom_48 rfl (lv_at hl 2 rfl) ?_
        refine lv_aload_n hx hb dX2_copyFrom_49 rfl (lv_at hl 1 rfl) ?_
        refine va_get (D := D) (ci := 2) (v := .ref a_p1_placeWorth) (C := RX2) (T := TX2) (N := 8) hx hb hL inlX2 hown hK.1 hP 3 rfl rfl 1 (by decide) w1 (fun _ h9 => h9) rfl dX2_copyFrom_50 ?_
        refine lv_iload_n hx hb dX2_copyFrom_53 rfl (lv_at hl 2 rfl) ?_
        obtain ⟨h54, hf⟩ := pg_some hf
        refine va_iald hx hb hK.1 hP 6 0 rfl rfl h54 dX2_copyFrom_54 ?_
        obtain ⟨h55, hf⟩ := pg_some hf
        refine va_iast hx hb hK.1 hP hD hS 9 0 rfl rfl h55 dX2_copyFrom_55 (fun H locs hP hD hS => ?_)
        have hP : va_P D vwCl [(h0, .inr (2, [.ref a_strength, .ref a_placeWorth, .ref a_choiceWorth, .ref a_balls, .ref a_wheel, .int v_sides, .int v_kind, .int v_rounds])), (a_balls, .inl (cyI, 6, .inl c_balls)), (a_choiceWorth, .inl (cyI, 6, .inl c_choiceWorth)), (a_p1, .inr (2, [.ref a_p1_strength, .ref a_p1_placeWorth, .ref a_p1_choiceWorth, .ref a_p1_balls, .ref a_p1_wheel, .int v_p1_sides, .int v_p1_kind, .int v_p1_rounds])), (a_p1_balls, .inl (cyI, 6, .inl c_p1_balls)), (a_p1_choiceWorth, .inl (cyI, 6, .inl c_p1_choiceWorth)), (a_p1_placeWorth, .inl (cyI, 6, .inl c_p1_placeWorth)), (a_p1_strength, .inl (cyI, 6, .inl c_p1_strength)), (a_p1_wheel, .inl (cyI, 6, .inl c_p1_wheel)), (a_placeWorth, .inl (cyI, 6, .inl (upd c_placeWorth x2.toNatClampNeg (c_p1_placeWorth x2.toNatClampNeg)))), (a_strength, .inl (cyI, 6, .inl (upd c_strength x2.toNatClampNeg (c_p1_strength x2.toNatClampNeg)))), (a_wheel, .inl (cyI, 6, .inl c_wheel))] H := hP
        have hD : va_D A [(h0, .inr (2, [.ref a_strength, .ref a_placeWorth, .ref a_choiceWorth, .ref a_balls, .ref a_wheel, .int v_sides, .int v_kind, .int v_rounds])), (a_balls, .inl (cyI, 6, .inl c_balls)), (a_choiceWorth, .inl (cyI, 6, .inl c_choiceWorth)), (a_p1, .inr (2, [.ref a_p1_strength, .ref a_p1_placeWorth, .ref a_p1_choiceWorth, .ref a_p1_balls, .ref a_p1_wheel, .int v_p1_sides, .int v_p1_kind, .int v_p1_rounds])), (a_p1_balls, .inl (cyI, 6, .inl c_p1_balls)), (a_p1_choiceWorth, .inl (cyI, 6, .inl c_p1_choiceWorth)), (a_p1_placeWorth, .inl (cyI, 6, .inl c_p1_placeWorth)), (a_p1_strength, .inl (cyI, 6, .inl c_p1_strength)), (a_p1_wheel, .inl (cyI, 6, .inl c_p1_wheel)), (a_placeWorth, .inl (cyI, 6, .inl (upd c_placeWorth x2.toNatClampNeg (c_p1_placeWorth x2.toNatClampNeg)))), (a_strength, .inl (cyI, 6, .inl (upd c_strength x2.toNatClampNeg (c_p1_strength x2.toNatClampNeg)))), (a_wheel, .inl (cyI, 6, .inl c_wheel))] := hD
        refine lv_aload_n hx hb dX2_copyFrom_56 rfl (lv_at hl 0 rfl) ?_
        refine va_get (D := D) (ci := 2) (v := .ref a_choiceWorth) (C := RX2) (T := TX2) (N := 8) hx hb hL inlX2 hown hK.1 hP 0 rfl rfl 2 (by decide) w2 (fun _ h9 => h9) rfl dX2_copyFrom_57 ?_
        refine lv_iload_n hx hb dX2_copyFrom_60 rfl (lv_at hl 2 rfl) ?_
        refine lv_aload_n hx hb dX2_copyFrom_61 rfl (lv_at hl 1 rfl) ?_
        refine va_get (D := D) (ci := 2) (v := .ref a_p1_choiceWorth) (C := RX2) (T := TX2) (N := 8) hx hb hL inlX2 hown hK.1 hP 3 rfl rfl 2 (by decide) w2 (fun _ h9 => h9) rfl dX2_copyFrom_62 ?_
        refine lv_iload_n hx hb dX2_copyFrom_65 rfl (lv_at hl 2 rfl) ?_
        obtain ⟨h66, hf⟩ := pg_some hf
        refine va_iald hx hb hK.1 hP 5 0 rfl rfl h66 dX2_copyFrom_66 ?_
        obtain ⟨h67, hf⟩ := pg_some hf
        refine va_iast hx hb hK.1 hP hD hS 2 0 rfl rfl h67 dX2_copyFrom_67 (fun H locs hP hD hS => ?_)
        have hP : va_P D vwCl [(h0, .inr (2, [.ref a_strength, .ref a_placeWorth, .ref a_choiceWorth, .ref a_balls, .ref a_wheel, .int v_sides, .int v_kind, .int v_rounds])), (a_balls, .inl (cyI, 6, .inl c_balls)), (a_choiceWorth, .inl (cyI, 6, .inl (upd c_choiceWorth x2.toNatClampNeg (c_p1_choiceWorth x2.toNatClampNeg)))), (a_p1, .inr (2, [.ref a_p1_strength, .ref a_p1_placeWorth, .ref a_p1_choiceWorth, .ref a_p1_balls, .ref a_p1_wheel, .int v_p1_sides, .int v_p1_kind, .int v_p1_rounds])), (a_p1_balls, .inl (cyI, 6, .inl c_p1_balls)), (a_p1_choiceWorth, .inl (cyI, 6, .inl c_p1_choiceWorth)), (a_p1_placeWorth, .inl (cyI, 6, .inl c_p1_placeWorth)), (a_p1_strength, .inl (cyI, 6, .inl c_p1_strength)), (a_p1_wheel, .inl (cyI, 6, .inl c_p1_wheel)), (a_placeWorth, .inl (cyI, 6, .inl (upd c_placeWorth x2.toNatClampNeg (c_p1_placeWorth x2.toNatClampNeg)))), (a_strength, .inl (cyI, 6, .inl (upd c_strength x2.toNatClampNeg (c_p1_strength x2.toNatClampNeg)))), (a_wheel, .inl (cyI, 6, .inl c_wheel))] H := hP
        have hD : va_D A [(h0, .inr (2, [.ref a_strength, .ref a_placeWorth, .ref a_choiceWorth, .ref a_balls, .ref a_wheel, .int v_sides, .int v_kind, .int v_rounds])), (a_balls, .inl (cyI, 6, .inl c_balls)), (a_choiceWorth, .inl (cyI, 6, .inl (upd c_choiceWorth x2.toNatClampNeg (c_p1_choiceWorth x2.toNatClampNeg)))), (a_p1, .inr (2, [.ref a_p1_strength, .ref a_p1_placeWorth, .ref a_p1_choiceWorth, .ref a_p1_balls, .ref a_p1_wheel, .int v_p1_sides, .int v_p1_kind, .int v_p1_rounds])), (a_p1_balls, .inl (cyI, 6, .inl c_p1_balls)), (a_p1_choiceWorth, .inl (cyI, 6, .inl c_p1_choiceWorth)), (a_p1_placeWorth, .inl (cyI, 6, .inl c_p1_placeWorth)), (a_p1_strength, .inl (cyI, 6, .inl c_p1_strength)), (a_p1_wheel, .inl (cyI, 6, .inl c_p1_wheel)), (a_placeWorth, .inl (cyI, 6, .inl (upd c_placeWorth x2.toNatClampNeg (c_p1_placeWorth x2.toNatClampNeg)))), (a_strength, .inl (cyI, 6, .inl (upd c_strength x2.toNatClampNeg (c_p1_strength x2.toNatClampNeg)))), (a_wheel, .inl (cyI, 6, .inl c_wheel))] := hD
        refine lv_aload_n hx hb dX2_copyFrom_68 rfl (lv_at hl 0 rfl) ?_
        refine va_get (D := D) (ci := 2) (v := .ref a_balls) (C := RX2) (T := TX2) (N := 8) hx hb hL inlX2 hown hK.1 hP 0 rfl rfl 3 (by decide) w3 (fun _ h9 => h9) rfl dX2_copyFrom_69 ?_
        refine lv_iload_n hx hb dX2_copyFrom_72 rfl (lv_at hl 2 rfl) ?_
        refine lv_aload_n hx hb dX2_copyFrom_73 rfl (lv_at hl 1 rfl) ?_
        refine va_get (D := D) (ci := 2) (v := .ref a_p1_balls) (C := RX2) (T := TX2) (N := 8) hx hb hL inlX2 hown hK.1 hP 3 rfl rfl 3 (by decide) w3 (fun _ h9 => h9) rfl dX2_copyFrom_74 ?_
        refine lv_iload_n hx hb dX2_copyFrom_77 rfl (lv_at hl 2 rfl) ?_
        obtain ⟨h78, hf⟩ := pg_some hf
        refine va_iald hx hb hK.1 hP 4 0 rfl rfl h78 dX2_copyFrom_78 ?_
        obtain ⟨h79, hf⟩ := pg_some hf
        refine va_iast hx hb hK.1 hP hD hS 1 0 rfl rfl h79 dX2_copyFrom_79 (fun H locs hP hD hS => ?_)
        have hP : va_P D vwCl [(h0, .inr (2, [.ref a_strength, .ref a_placeWorth, .ref a_choiceWorth, .ref a_balls, .ref a_wheel, .int v_sides, .int v_kind, .int v_rounds])), (a_balls, .inl (cyI, 6, .inl (upd c_balls x2.toNatClampNeg (c_p1_balls x2.toNatClampNeg)))), (a_choiceWorth, .inl (cyI, 6, .inl (upd c_choiceWorth x2.toNatClampNeg (c_p1_choiceWorth x2.toNatClampNeg)))), (a_p1, .inr (2, [.ref a_p1_strength, .ref a_p1_placeWorth, .ref a_p1_choiceWorth, .ref a_p1_balls, .ref a_p1_wheel, .int v_p1_sides, .int v_p1_kind, .int v_p1_rounds])), (a_p1_balls, .inl (cyI, 6, .inl c_p1_balls)), (a_p1_choiceWorth, .inl (cyI, 6, .inl c_p1_choiceWorth)), (a_p1_placeWorth, .inl (cyI, 6, .inl c_p1_placeWorth)), (a_p1_strength, .inl (cyI, 6, .inl c_p1_strength)), (a_p1_wheel, .inl (cyI, 6, .inl c_p1_wheel)), (a_placeWorth, .inl (cyI, 6, .inl (upd c_placeWorth x2.toNatClampNeg (c_p1_placeWorth x2.toNatClampNeg)))), (a_strength, .inl (cyI, 6, .inl (upd c_strength x2.toNatClampNeg (c_p1_strength x2.toNatClampNeg)))), (a_wheel, .inl (cyI, 6, .inl c_wheel))] H := hP
        have hD : va_D A [(h0, .inr (2, [.ref a_strength, .ref a_placeWorth, .ref a_choiceWorth, .ref a_balls, .ref a_wheel, .int v_sides, .int v_kind, .int v_rounds])), (a_balls, .inl (cyI, 6, .inl (upd c_balls x2.toNatClampNeg (c_p1_balls x2.toNatClampNeg)))), (a_choiceWorth, .inl (cyI, 6, .inl (upd c_choiceWorth x2.toNatClampNeg (c_p1_choiceWorth x2.toNatClampNeg)))), (a_p1, .inr (2, [.ref a_p1_strength, .ref a_p1_placeWorth, .ref a_p1_choiceWorth, .ref a_p1_balls, .ref a_p1_wheel, .int v_p1_sides, .int v_p1_kind, .int v_p1_rounds])), (a_p1_balls, .inl (cyI, 6, .inl c_p1_balls)), (a_p1_choiceWorth, .inl (cyI, 6, .inl c_p1_choiceWorth)), (a_p1_placeWorth, .inl (cyI, 6, .inl c_p1_placeWorth)), (a_p1_strength, .inl (cyI, 6, .inl c_p1_strength)), (a_p1_wheel, .inl (cyI, 6, .inl c_p1_wheel)), (a_placeWorth, .inl (cyI, 6, .inl (upd c_placeWorth x2.toNatClampNeg (c_p1_placeWorth x2.toNatClampNeg)))), (a_strength, .inl (cyI, 6, .inl (upd c_strength x2.toNatClampNeg (c_p1_strength x2.toNatClampNeg)))), (a_wheel, .inl (cyI, 6, .inl c_wheel))] := hD
        refine lv_aload_n hx hb dX2_copyFrom_80 rfl (lv_at hl 0 rfl) ?_
        refine va_get (D := D) (ci := 2) (v := .ref a_wheel) (C := RX2) (T := TX2) (N := 8) hx hb hL inlX2 hown hK.1 hP 0 rfl rfl 4 (by decide) w4 (fun _ h9 => h9) rfl dX2_copyFrom_81 ?_
        refine lv_iload_n hx hb dX2_copyFrom_84 rfl (lv_at hl 2 rfl) ?_
        refine lv_aload_n hx hb dX2_copyFrom_85 rfl (lv_at hl 1 rfl) ?_
        refine va_get (D := D) (ci := 2) (v := .ref a_p1_wheel) (C := RX2) (T := TX2) (N := 8) hx hb hL inlX2 hown hK.1 hP 3 rfl rfl 4 (by decide) w4 (fun _ h9 => h9) rfl dX2_copyFrom_86 ?_
        refine lv_iload_n hx hb dX2_copyFrom_89 rfl (lv_at hl 2 rfl) ?_
        obtain ⟨h90, hf⟩ := pg_some hf
        refine va_iald hx hb hK.1 hP 8 0 rfl rfl h90 dX2_copyFrom_90 ?_
        obtain ⟨h91, hf⟩ := pg_some hf
        refine va_iast hx hb hK.1 hP hD hS 11 0 rfl rfl h91 dX2_copyFrom_91 (fun H locs hP hD hS => ?_)
        have hP : va_P D vwCl [(h0, .inr (2, [.ref a_strength, .ref a_placeWorth, .ref a_choiceWorth, .ref a_balls, .ref a_wheel, .int v_sides, .int v_kind, .int v_rounds])), (a_balls, .inl (cyI, 6, .inl (upd c_balls x2.toNatClampNeg (c_p1_balls x2.toNatClampNeg)))), (a_choiceWorth, .inl (cyI, 6, .inl (upd c_choiceWorth x2.toNatClampNeg (c_p1_choiceWorth x2.toNatClampNeg)))), (a_p1, .inr (2, [.ref a_p1_strength, .ref a_p1_placeWorth, .ref a_p1_choiceWorth, .ref a_p1_balls, .ref a_p1_wheel, .int v_p1_sides, .int v_p1_kind, .int v_p1_rounds])), (a_p1_balls, .inl (cyI, 6, .inl c_p1_balls)), (a_p1_choiceWorth, .inl (cyI, 6, .inl c_p1_choiceWorth)), (a_p1_placeWorth, .inl (cyI, 6, .inl c_p1_placeWorth)), (a_p1_strength, .inl (cyI, 6, .inl c_p1_strength)), (a_p1_wheel, .inl (cyI, 6, .inl c_p1_wheel)), (a_placeWorth, .inl (cyI, 6, .inl (upd c_placeWorth x2.toNatClampNeg (c_p1_placeWorth x2.toNatClampNeg)))), (a_strength, .inl (cyI, 6, .inl (upd c_strength x2.toNatClampNeg (c_p1_strength x2.toNatClampNeg)))), (a_wheel, .inl (cyI, 6, .inl (upd c_wheel x2.toNatClampNeg (c_p1_wheel x2.toNatClampNeg))))] H := hP
        have hD : va_D A [(h0, .inr (2, [.ref a_strength, .ref a_placeWorth, .ref a_choiceWorth, .ref a_balls, .ref a_wheel, .int v_sides, .int v_kind, .int v_rounds])), (a_balls, .inl (cyI, 6, .inl (upd c_balls x2.toNatClampNeg (c_p1_balls x2.toNatClampNeg)))), (a_choiceWorth, .inl (cyI, 6, .inl (upd c_choiceWorth x2.toNatClampNeg (c_p1_choiceWorth x2.toNatClampNeg)))), (a_p1, .inr (2, [.ref a_p1_strength, .ref a_p1_placeWorth, .ref a_p1_choiceWorth, .ref a_p1_balls, .ref a_p1_wheel, .int v_p1_sides, .int v_p1_kind, .int v_p1_rounds])), (a_p1_balls, .inl (cyI, 6, .inl c_p1_balls)), (a_p1_choiceWorth, .inl (cyI, 6, .inl c_p1_choiceWorth)), (a_p1_placeWorth, .inl (cyI, 6, .inl c_p1_placeWorth)), (a_p1_strength, .inl (cyI, 6, .inl c_p1_strength)), (a_p1_wheel, .inl (cyI, 6, .inl c_p1_wheel)), (a_placeWorth, .inl (cyI, 6, .inl (upd c_placeWorth x2.toNatClampNeg (c_p1_placeWorth x2.toNatClampNeg)))), (a_strength, .inl (cyI, 6, .inl (upd c_strength x2.toNatClampNeg (c_p1_strength x2.toNatClampNeg)))), (a_wheel, .inl (cyI, 6, .inl (upd c_wheel x2.toNatClampNeg (c_p1_wheel x2.toNatClampNeg))))] := hD
        refine lv_iinc (v := x2 + 1) (lv' := [(2, .int (x2 + 1)), (0, .ref h0), (1, .ref a_p1)]) hx hb dX2_copyFrom_92 hl (k := 2) rfl rfl (by decide) rfl (fun ls hl => ?_)
        refine lv_goto (tgt := 26) hx hb dX2_copyFrom_95 (by decide) ?_
        exact hk26 (x2 + 1) v_kind v_rounds v_sides (upd c_balls x2.toNatClampNeg (c_p1_balls x2.toNatClampNeg)) (upd c_choiceWorth x2.toNatClampNeg (c_p1_choiceWorth x2.toNatClampNeg)) (upd c_placeWorth x2.toNatClampNeg (c_p1_placeWorth x2.toNatClampNeg)) (upd c_strength x2.toNatClampNeg (c_p1_strength x2.toNatClampNeg)) (upd c_wheel x2.toNatClampNeg (c_p1_wheel x2.toNatClampNeg)) H locs ls hf hP hD hS (lv_sub hl [1, 2, 0] rfl)
  unfold fX2_copyFrom at hf
  obtain ⟨H, hH⟩ : ∃ H : Heap, H = s.heap := ⟨_, rfl⟩
  obtain ⟨locs, hlo⟩ : ∃ locs : List Loc, locs = [] := ⟨_, rfl⟩
  have hP : va_P D vwCl [(h0, .inr (2, [.ref a_strength, .ref a_placeWorth, .ref a_choiceWorth, .ref a_balls, .ref a_wheel, .int v_sides, .int v_kind, .int v_rounds])), (a_balls, .inl (cyI, 6, .inl c_balls)), (a_choiceWorth, .inl (cyI, 6, .inl c_choiceWorth)), (a_p1, .inr (2, [.ref a_p1_strength, .ref a_p1_placeWorth, .ref a_p1_choiceWorth, .ref a_p1_balls, .ref a_p1_wheel, .int v_p1_sides, .int v_p1_kind, .int v_p1_rounds])), (a_p1_balls, .inl (cyI, 6, .inl c_p1_balls)), (a_p1_choiceWorth, .inl (cyI, 6, .inl c_p1_choiceWorth)), (a_p1_placeWorth, .inl (cyI, 6, .inl c_p1_placeWorth)), (a_p1_strength, .inl (cyI, 6, .inl c_p1_strength)), (a_p1_wheel, .inl (cyI, 6, .inl c_p1_wheel)), (a_placeWorth, .inl (cyI, 6, .inl c_placeWorth)), (a_strength, .inl (cyI, 6, .inl c_strength)), (a_wheel, .inl (cyI, 6, .inl c_wheel))] H := by rw [hH]; exact hP
  have hS : va_S A s.heap H locs := by rw [hH, hlo]; exact hS
  suffices hw : W p l e rmX2_copyFrom s m av below meth c H locs 0 0 Q (F0 m 0 ls []) by rw [hH, hlo] at hw; exact hw
  refine lv_aload_n hx hb dX2_copyFrom_0 rfl (lv_at hl 0 rfl) ?_
  refine lv_aload_n hx hb dX2_copyFrom_1 rfl (lv_at hl 1 rfl) ?_
  refine va_get (D := D) (ci := 2) (v := .int v_p1_sides) (C := RX2) (T := TX2) (N := 8) hx hb hL inlX2 hown hK.1 hP 3 rfl rfl 5 (by decide) w5 (fun _ h9 => h9) rfl dX2_copyFrom_2 ?_
  refine va_put (D := D) (ci := 2) (v := .int v_p1_sides) (ty := .int) (C := RX2) (T := TX2) (N := 8) hx hb hL inlX2 tyX2 tyX2_ok nmX2 hown hK.1 hP hD hS 0 rfl rfl 5 (by decide) w5 (fun _ h9 => h9) rfl (by decide +kernel) rfl rfl (Nat.le_of_ble_eq_true rfl) dX2_copyFrom_5 (fun H locs hP hD hS => ?_)
  have hP : va_P D vwCl [(h0, .inr (2, [.ref a_strength, .ref a_placeWorth, .ref a_choiceWorth, .ref a_balls, .ref a_wheel, .int v_p1_sides, .int v_kind, .int v_rounds])), (a_balls, .inl (cyI, 6, .inl c_balls)), (a_choiceWorth, .inl (cyI, 6, .inl c_choiceWorth)), (a_p1, .inr (2, [.ref a_p1_strength, .ref a_p1_placeWorth, .ref a_p1_choiceWorth, .ref a_p1_balls, .ref a_p1_wheel, .int v_p1_sides, .int v_p1_kind, .int v_p1_rounds])), (a_p1_balls, .inl (cyI, 6, .inl c_p1_balls)), (a_p1_choiceWorth, .inl (cyI, 6, .inl c_p1_choiceWorth)), (a_p1_placeWorth, .inl (cyI, 6, .inl c_p1_placeWorth)), (a_p1_strength, .inl (cyI, 6, .inl c_p1_strength)), (a_p1_wheel, .inl (cyI, 6, .inl c_p1_wheel)), (a_placeWorth, .inl (cyI, 6, .inl c_placeWorth)), (a_strength, .inl (cyI, 6, .inl c_strength)), (a_wheel, .inl (cyI, 6, .inl c_wheel))] H := hP
  have hD : va_D A [(h0, .inr (2, [.ref a_strength, .ref a_placeWorth, .ref a_choiceWorth, .ref a_balls, .ref a_wheel, .int v_p1_sides, .int v_kind, .int v_rounds])), (a_balls, .inl (cyI, 6, .inl c_balls)), (a_choiceWorth, .inl (cyI, 6, .inl c_choiceWorth)), (a_p1, .inr (2, [.ref a_p1_strength, .ref a_p1_placeWorth, .ref a_p1_choiceWorth, .ref a_p1_balls, .ref a_p1_wheel, .int v_p1_sides, .int v_p1_kind, .int v_p1_rounds])), (a_p1_balls, .inl (cyI, 6, .inl c_p1_balls)), (a_p1_choiceWorth, .inl (cyI, 6, .inl c_p1_choiceWorth)), (a_p1_placeWorth, .inl (cyI, 6, .inl c_p1_placeWorth)), (a_p1_strength, .inl (cyI, 6, .inl c_p1_strength)), (a_p1_wheel, .inl (cyI, 6, .inl c_p1_wheel)), (a_placeWorth, .inl (cyI, 6, .inl c_placeWorth)), (a_strength, .inl (cyI, 6, .inl c_strength)), (a_wheel, .inl (cyI, 6, .inl c_wheel))] := hD
  refine lv_aload_n hx hb dX2_copyFrom_8 rfl (lv_at hl 0 rfl) ?_
  refine lv_aload_n hx hb dX2_copyFrom_9 rfl (lv_at hl 1 rfl) ?_
  refine va_get (D := D) (ci := 2) (v := .int v_p1_kind) (C := RX2) (T := TX2) (N := 8) hx hb hL inlX2 hown hK.1 hP 3 rfl rfl 6 (by decide) w6 (fun _ h9 => h9) rfl dX2_copyFrom_10 ?_
  refine va_put (D := D) (ci := 2) (v := .int v_p1_kind) (ty := .int) (C := RX2) (T := TX2) (N := 8) hx hb hL inlX2 tyX2 tyX2_ok nmX2 hown hK.1 hP hD hS 0 rfl rfl 6 (by decide) w6 (fun _ h9 => h9) rfl (by decide +kernel) rfl rfl (Nat.le_of_ble_eq_true rfl) dX2_copyFrom_13 (fun H locs hP hD hS => ?_)
  have hP : va_P D vwCl [(h0, .inr (2, [.ref a_strength, .ref a_placeWorth, .ref a_choiceWorth, .ref a_balls, .ref a_wheel, .int v_p1_sides, .int v_p1_kind, .int v_rounds])), (a_balls, .inl (cyI, 6, .inl c_balls)), (a_choiceWorth, .inl (cyI, 6, .inl c_choiceWorth)), (a_p1, .inr (2, [.ref a_p1_strength, .ref a_p1_placeWorth, .ref a_p1_choiceWorth, .ref a_p1_balls, .ref a_p1_wheel, .int v_p1_sides, .int v_p1_kind, .int v_p1_rounds])), (a_p1_balls, .inl (cyI, 6, .inl c_p1_balls)), (a_p1_choiceWorth, .inl (cyI, 6, .inl c_p1_choiceWorth)), (a_p1_placeWorth, .inl (cyI, 6, .inl c_p1_placeWorth)), (a_p1_strength, .inl (cyI, 6, .inl c_p1_strength)), (a_p1_wheel, .inl (cyI, 6, .inl c_p1_wheel)), (a_placeWorth, .inl (cyI, 6, .inl c_placeWorth)), (a_strength, .inl (cyI, 6, .inl c_strength)), (a_wheel, .inl (cyI, 6, .inl c_wheel))] H := hP
  have hD : va_D A [(h0, .inr (2, [.ref a_strength, .ref a_placeWorth, .ref a_choiceWorth, .ref a_balls, .ref a_wheel, .int v_p1_sides, .int v_p1_kind, .int v_rounds])), (a_balls, .inl (cyI, 6, .inl c_balls)), (a_choiceWorth, .inl (cyI, 6, .inl c_choiceWorth)), (a_p1, .inr (2, [.ref a_p1_strength, .ref a_p1_placeWorth, .ref a_p1_choiceWorth, .ref a_p1_balls, .ref a_p1_wheel, .int v_p1_sides, .int v_p1_kind, .int v_p1_rounds])), (a_p1_balls, .inl (cyI, 6, .inl c_p1_balls)), (a_p1_choiceWorth, .inl (cyI, 6, .inl c_p1_choiceWorth)), (a_p1_placeWorth, .inl (cyI, 6, .inl c_p1_placeWorth)), (a_p1_strength, .inl (cyI, 6, .inl c_p1_strength)), (a_p1_wheel, .inl (cyI, 6, .inl c_p1_wheel)), (a_placeWorth, .inl (cyI, 6, .inl c_placeWorth)), (a_strength, .inl (cyI, 6, .inl c_strength)), (a_wheel, .inl (cyI, 6, .inl c_wheel))] := hD
  refine lv_aload_n hx hb dX2_copyFrom_16 rfl (lv_at hl 0 rfl) ?_
  refine lv_aload_n hx hb dX2_copyFrom_17 rfl (lv_at hl 1 rfl) ?_
  refine va_get (D := D) (ci := 2) (v := .int v_p1_rounds) (C := RX2) (T := TX2) (N := 8) hx hb hL inlX2 hown hK.1 hP 3 rfl rfl 7 (by decide) w7 (fun _ h9 => h9) rfl dX2_copyFrom_18 ?_
  refine va_put (D := D) (ci := 2) (v := .int v_p1_rounds) (ty := .int) (C := RX2) (T := TX2) (N := 8) hx hb hL inlX2 tyX2 tyX2_ok nmX2 hown hK.1 hP hD hS 0 rfl rfl 7 (by decide) w7 (fun _ h9 => h9) rfl (by decide +kernel) rfl rfl (Nat.le_of_ble_eq_true rfl) dX2_copyFrom_21 (fun H locs hP hD hS => ?_)
  have hP : va_P D vwCl [(h0, .inr (2, [.ref a_strength, .ref a_placeWorth, .ref a_choiceWorth, .ref a_balls, .ref a_wheel, .int v_p1_sides, .int v_p1_kind, .int v_p1_rounds])), (a_balls, .inl (cyI, 6, .inl c_balls)), (a_choiceWorth, .inl (cyI, 6, .inl c_choiceWorth)), (a_p1, .inr (2, [.ref a_p1_strength, .ref a_p1_placeWorth, .ref a_p1_choiceWorth, .ref a_p1_balls, .ref a_p1_wheel, .int v_p1_sides, .int v_p1_kind, .int v_p1_rounds])), (a_p1_balls, .inl (cyI, 6, .inl c_p1_balls)), (a_p1_choiceWorth, .inl (cyI, 6, .inl c_p1_choiceWorth)), (a_p1_placeWorth, .inl (cyI, 6, .inl c_p1_placeWorth)), (a_p1_strength, .inl (cyI, 6, .inl c_p1_strength)), (a_p1_wheel, .inl (cyI, 6, .inl c_p1_wheel)), (a_placeWorth, .inl (cyI, 6, .inl c_placeWorth)), (a_strength, .inl (cyI, 6, .inl c_strength)), (a_wheel, .inl (cyI, 6, .inl c_wheel))] H := hP
  have hD : va_D A [(h0, .inr (2, [.ref a_strength, .ref a_placeWorth, .ref a_choiceWorth, .ref a_balls, .ref a_wheel, .int v_p1_sides, .int v_p1_kind, .int v_p1_rounds])), (a_balls, .inl (cyI, 6, .inl c_balls)), (a_choiceWorth, .inl (cyI, 6, .inl c_choiceWorth)), (a_p1, .inr (2, [.ref a_p1_strength, .ref a_p1_placeWorth, .ref a_p1_choiceWorth, .ref a_p1_balls, .ref a_p1_wheel, .int v_p1_sides, .int v_p1_kind, .int v_p1_rounds])), (a_p1_balls, .inl (cyI, 6, .inl c_p1_balls)), (a_p1_choiceWorth, .inl (cyI, 6, .inl c_p1_choiceWorth)), (a_p1_placeWorth, .inl (cyI, 6, .inl c_p1_placeWorth)), (a_p1_strength, .inl (cyI, 6, .inl c_p1_strength)), (a_p1_wheel, .inl (cyI, 6, .inl c_p1_wheel)), (a_placeWorth, .inl (cyI, 6, .inl c_placeWorth)), (a_strength, .inl (cyI, 6, .inl c_strength)), (a_wheel, .inl (cyI, 6, .inl c_wheel))] := hD
  refine lv_iconst (v := 0) hx hb dX2_copyFrom_24 (by decide) ?_
  refine lv_istore_n (lv' := [(2, .int 0), (0, .ref h0), (1, .ref a_p1)]) hx hb dX2_copyFrom_25 rfl hl (by decide) rfl (fun ls hl => ?_)
  exact hB26 N 0 v_p1_kind v_p1_rounds v_p1_sides c_balls c_choiceWorth c_placeWorth c_strength c_wheel H locs ls hf hP hD hS (lv_sub hl [1, 2, 0] rfl)
abbrev rmX2_gamesOfRound : Room := { frames := 0, cells := 0, slots := 0, locals := 0 }
set_option maxHeartbeats 40000000 in
set_option maxRecDepth 100000 in
theorem mX2_gamesOfRound (l : Launch) (D : va_G) (cyI cyJ cyB cyS : ClassId) (N : Nat) (sz : Nat) (h0 : Nat) (a_strength : Nat) (a_placeWorth : Nat) (a_choiceWorth : Nat) (a_balls : Nat) (a_wheel : Nat) (v_sides : Int32) (v_kind : Int32) (v_rounds : Int32) (q : Int32) (hf : fX2_gamesOfRound N v_sides = some q) : Met l yX2_gamesOfRound (wS yX2_gamesOfRound cX2_gamesOfRound 1 (some .int)) rmX2_gamesOfRound (va_Pc [.ref h0] (PP D cyI cyJ cyB cyS [(h0, .inr (2, [.ref a_strength, .ref a_placeWorth, .ref a_choiceWorth, .ref a_balls, .ref a_wheel, .int v_sides, .int v_kind, .int v_rounds]))] sz)) (QI q D [(h0, .inr (2, [.ref a_strength, .ref a_placeWorth, .ref a_choiceWorth, .ref a_balls, .ref a_wheel, .int v_sides, .int v_kind, .int v_rounds]))] (va_A [(h0, .inr (2, [.ref a_strength, .ref a_placeWorth, .ref a_choiceWorth, .ref a_balls, .ref a_wheel, .int v_sides, .int v_kind, .int v_rounds]))] sz)) 0 0 (va_A [(h0, .inr (2, [.ref a_strength, .ref a_placeWorth, .ref a_choiceWorth, .ref a_balls, .ref a_wheel, .int v_sides, .int v_kind, .int v_rounds]))] sz) := by
  refine Met.ofW (cc := cX2_gamesOfRound) (maxL := 1) (ret := (some .int)) (by decide) rfl ?_
  intro p e s m args below meth c s₁ B hml hv
  obtain ⟨rfl, hsz, hP, hK, hD0⟩ := hv
  have hx := B.exec
  have hb := B.bytes
  have hr := B.returns
  have hts := atoms_spec (ws := (wS yX2_gamesOfRound cX2_gamesOfRound 1 (some .int))) B.pre
  have hown : s.vm.findClass RX2 = some m.cls := findClass_of_methodNamed B.named
  have hlocks := B.notSynchronized
  subst hsz
  have hD := hD0.self (sz := s.heap.size)
  refine w_nameQ (fun Q hQ => ?_)
  have hl := lv_entry ([.ref h0] : List Value) (n := 1) (Nat.le_of_ble_eq_true rfl)
  rw [lg_entry_eq]
  generalize (lg_sl ([.ref h0] : List Value) ++ List.replicate (1 - (lg_sl ([.ref h0] : List Value)).length) Slot.unset).toArray = ls at hl ⊢
  have hl : lv_has ls 1 [(0, .ref h0)] := hl
  generalize hAe : va_A [(h0, .inr (2, [.ref a_strength, .ref a_placeWorth, .ref a_choiceWorth, .ref a_balls, .ref a_wheel, .int v_sides, .int v_kind, .int v_rounds]))] s.heap.size = A at hD hQ
  have hA : ∀ q : Nat, s.heap.size ≤ q → A q := fun q h => by rw [← hAe]; exact Or.inr h
  have hS : va_S A s.heap s.heap [] := va_S.rf
  generalize ([.ref h0] : List Value).toArray = av at hts hQ ⊢
  have hL : ∀ w ∈ wsL_law, w.before av s = true := fun w h => hts w (List.mem_cons_of_mem _ h)
  have w0 := hL (.fieldLink RX2 27 "LosingLeague$Rules" "sides" "I") (hR5 17 rfl)
  unfold fX2_gamesOfRound at hf
  obtain ⟨H, hH⟩ : ∃ H : Heap, H = s.heap := ⟨_, rfl⟩
  obtain ⟨locs, hlo⟩ : ∃ locs : List Loc, locs = [] := ⟨_, rfl⟩
  have hP : va_P D vwCl [(h0, .inr (2, [.ref a_strength, .ref a_placeWorth, .ref a_choiceWorth, .ref a_balls, .ref a_wheel, .int v_sides, .int v_kind, .int v_rounds]))] H := by rw [hH]; exact hP
  have hS : va_S A s.heap H locs := by rw [hH, hlo]; exact hS
  suffices hw : W p l e rmX2_gamesOfRound s m av below meth c H locs 0 0 Q (F0 m 0 ls []) by rw [hH, hlo] at hw; exact hw
  refine lv_aload_n hx hb dX2_gamesOfRound_0 rfl (lv_at hl 0 rfl) ?_
  refine va_get (D := D) (ci := 2) (v := .int v_sides) (C := RX2) (T := TX2) (N := 8) hx hb hL inlX2 hown hK.1 hP 0 rfl rfl 5 (by decide) w0 (fun _ h9 => h9) rfl dX2_gamesOfRound_1 ?_
  refine lv_aload_n hx hb dX2_gamesOfRound_4 rfl (lv_at hl 0 rfl) ?_
  refine va_get (D := D) (ci := 2) (v := .int v_sides) (C := RX2) (T := TX2) (N := 8) hx hb hL inlX2 hown hK.1 hP 0 rfl rfl 5 (by decide) w0 (fun _ h9 => h9) rfl dX2_gamesOfRound_5 ?_
  refine lv_iconst (v := 1) hx hb dX2_gamesOfRound_8 (by decide) ?_
  refine lv_isub hx hb dX2_gamesOfRound_9 ?_
  refine lv_imul hx hb dX2_gamesOfRound_10 ?_
  refine lv_iconst (v := 2) hx hb dX2_gamesOfRound_11 (by decide) ?_
  refine lv_idiv hx hb dX2_gamesOfRound_12 (by decide) ?_
  exact ret_i (q := q) (g := fun q => q) (wp := fun q => [(h0, .inr (2, [.ref a_strength, .ref a_placeWorth, .ref a_choiceWorth, .ref a_balls, .ref a_wheel, .int v_sides, .int v_kind, .int v_rounds]))]) hQ hf hx hb hr hlocks hP hD hS dX2_gamesOfRound_13 rfl
abbrev rmX2_allBalls : Room := { frames := 0, cells := 0, slots := 0, locals := 0 }
set_option maxHeartbeats 40000000 in
set_option maxRecDepth 100000 in
theorem mX2_allBalls (l : Launch) (D : va_G) (cyI cyJ cyB cyS : ClassId) (N : Nat) (sz : Nat) (h0 : Nat) (a_balls : Nat) (a_strength : Nat) (a_placeWorth : Nat) (a_choiceWorth : Nat) (a_wheel : Nat) (v_sides : Int32) (v_kind : Int32) (v_rounds : Int32) (c_balls : Nat → Int32) (q : Int32) (hf : fX2_allBalls N v_sides c_balls = some q) : Met l yX2_allBalls (wS yX2_allBalls cX2_allBalls 3 (some .int)) rmX2_allBalls (va_Pc [.ref h0] (PP D cyI cyJ cyB cyS [(h0, .inr (2, [.ref a_strength, .ref a_placeWorth, .ref a_choiceWorth, .ref a_balls, .ref a_wheel, .int v_sides, .int v_kind, .int v_rounds])), (a_balls, .inl (cyI, 6, .inl c_balls))] sz)) (QI q D [(h0, .inr (2, [.ref a_strength, .ref a_placeWorth, .ref a_choiceWorth, .ref a_balls, .ref a_wheel, .int v_sides, .int v_kind, .int v_rounds])), (a_balls, .inl (cyI, 6, .inl c_balls))] (va_A [(h0, .inr (2, [.ref a_strength, .ref a_placeWorth, .ref a_choiceWorth, .ref a_balls, .ref a_wheel, .int v_sides, .int v_kind, .int v_rounds])), (a_balls, .inl (cyI, 6, .inl c_balls))] sz)) 0 0 (va_A [(h0, .inr (2, [.ref a_strength, .ref a_placeWorth, .ref a_choiceWorth, .ref a_balls, .ref a_wheel, .int v_sides, .int v_kind, .int v_rounds])), (a_balls, .inl (cyI, 6, .inl c_balls))] sz) := by
  refine Met.ofW (cc := cX2_allBalls) (maxL := 3) (ret := (some .int)) (by decide) rfl ?_
  intro p e s m args below meth c s₁ B hml hv
  obtain ⟨rfl, hsz, hP, hK, hD0⟩ := hv
  have hx := B.exec
  have hb := B.bytes
  have hr := B.returns
  have hts := atoms_spec (ws := (wS yX2_allBalls cX2_allBalls 3 (some .int))) B.pre
  have hown : s.vm.findClass RX2 = some m.cls := findClass_of_methodNamed B.named
  have hlocks := B.notSynchronized
  subst hsz
  have hD := hD0.self (sz := s.heap.size)
  refine w_nameQ (fun Q hQ => ?_)
  have hl := lv_entry ([.ref h0] : List Value) (n := 3) (Nat.le_of_ble_eq_true rfl)
  rw [lg_entry_eq]
  generalize (lg_sl ([.ref h0] : List Value) ++ List.replicate (3 - (lg_sl ([.ref h0] : List Value)).length) Slot.unset).toArray = ls at hl ⊢
  have hl : lv_has ls 3 [(0, .ref h0)] := hl
  generalize hAe : va_A [(h0, .inr (2, [.ref a_strength, .ref a_placeWorth, .ref a_choiceWorth, .ref a_balls, .ref a_wheel, .int v_sides, .int v_kind, .int v_rounds])), (a_balls, .inl (cyI, 6, .inl c_balls))] s.heap.size = A at hD hQ
  have hA : ∀ q : Nat, s.heap.size ≤ q → A q := fun q h => by rw [← hAe]; exact Or.inr h
  have hS : va_S A s.heap s.heap [] := va_S.rf
  generalize ([.ref h0] : List Value).toArray = av at hts hQ ⊢
  have hL : ∀ w ∈ wsL_law, w.before av s = true := fun w h => hts w (List.mem_cons_of_mem _ h)
  have w0 := hL (.fieldLink RX2 27 "LosingLeague$Rules" "sides" "I") (hR5 17 rfl)
  have w1 := hL (.fieldLink RX2 21 "LosingLeague$Rules" "balls" "[I") (hR3 0 rfl)
  have hB4 : ∀ (n : Nat), ∀ (x1 : Int32) (x2 : Int32) (H : Heap) (locs : List Loc) (ls : Array Slot), fX2_allBalls_4 N v_sides c_balls n x1 x2 = some q → va_P D vwCl [(h0, .inr (2, [.ref a_strength, .ref a_placeWorth, .ref a_choiceWorth, .ref a_balls, .ref a_wheel, .int v_sides, .int v_kind, .int v_rounds])), (a_balls, .inl (cyI, 6, .inl c_balls))] H → va_D A [(h0, .inr (2, [.ref a_strength, .ref a_placeWorth, .ref a_choiceWorth, .ref a_balls, .ref a_wheel, .int v_sides, .int v_kind, .int v_rounds])), (a_balls, .inl (cyI, 6, .inl c_balls))] → va_S A s.heap H locs → lv_has ls 3 [(0, .ref h0), (1, .int x1), (2, .int x2)] → W p l e rmX2_allBalls s m av below meth c H locs 0 0 Q (F0 m 4 ls []) := by
    intro n
    induction n with
    | zero => intro x1 x2 H locs ls hf; exact absurd hf (by simp [fX2_allBalls_4])
    | succ n hk4 =>
      intro x1 x2 H locs ls hf hP hD hS hl
      rw [fX2_allBalls_4] at hf
      refine lv_iload_n hx hb dX2_allBalls_4 rfl (lv_at hl 2 rfl) ?_
      refine lv_aload_n hx hb dX2_allBalls_5 rfl (lv_at hl 0 rfl) ?_
      refine va_get (D := D) (ci := 2) (v := .int v_sides) (C := RX2) (T := TX2) (N := 8) hx hb hL inlX2 hown hK.1 hP 0 rfl rfl 5 (by decide) w0 (fun _ h9 => h9) rfl dX2_allBalls_6 ?_
      refine lv_icmp_ge (tgt := 27) hx hb dX2_allBalls_9 (by decide) (fun c9 => ?_) (fun c9 => ?_)
      · have hf := pif_t c9 hf
        refine lv_iload_n hx hb dX2_allBalls_27 rfl (lv_at hl 1 rfl) ?_
        exact ret_i (q := q) (g := fun q => q) (wp := fun q => [(h0, .inr (2, [.ref a_strength, .ref a_placeWorth, .ref a_choiceWorth, .ref a_balls, .ref a_wheel, .int v_sides, .int v_kind, .int v_rounds])), (a_balls, .inl (cyI, 6, .inl c_balls))]) hQ hf hx hb hr hlocks hP hD hS dX2_allBalls_28 rfl
      · have hf := pif_f c9 hf
        refine lv_iload_n hx hb dX2_allBalls_12 rfl (lv_at hl 1 rfl) ?_
        refine lv_aload_n hx hb dX2_allBalls_13 rfl (lv_at hl 0 rfl) ?_
        refine va_get (D := D) (ci := 2) (v := .ref a_balls) (C := RX2) (T := TX2) (N := 8) hx hb hL inlX2 hown hK.1 hP 0 rfl rfl 3 (by decide) w1 (fun _ h9 => h9) rfl dX2_allBalls_14 ?_
        refine lv_iload_n hx hb dX2_allBalls_17 rfl (lv_at hl 2 rfl) ?_
        obtain ⟨h18, hf⟩ := pg_some hf
        refine va_iald hx hb hK.1 hP 1 0 rfl rfl h18 dX2_allBalls_18 ?_
        refine lv_iadd hx hb dX2_allBalls_19 ?_
        refine lv_istore_n (lv' := [(1, .int (x1 + (c_balls x2.toNatClampNeg))), (0, .ref h0), (2, .int x2)]) hx hb dX2_allBalls_20 rfl hl (by decide) rfl (fun ls hl => ?_)
        refine lv_iinc (v := x2 + 1) (lv' := [(2, .int (x2 + 1)), (1, .int (x1 + (c_balls x2.toNatClampNeg))), (0, .ref h0)]) hx hb dX2_allBalls_21 hl (k := 2) rfl rfl (by decide) rfl (fun ls hl => ?_)
        refine lv_goto (tgt := 4) hx hb dX2_allBalls_24 (by decide) ?_
        exact hk4 (x1 + (c_balls x2.toNatClampNeg)) (x2 + 1) H locs ls hf hP hD hS (lv_sub hl [2, 1, 0] rfl)
  unfold fX2_allBalls at hf
  obtain ⟨H, hH⟩ : ∃ H : Heap, H = s.heap := ⟨_, rfl⟩
  obtain ⟨locs, hlo⟩ : ∃ locs : List Loc, locs = [] := ⟨_, rfl⟩
  have hP : va_P D vwCl [(h0, .inr (2, [.ref a_strength, .ref a_placeWorth, .ref a_choiceWorth, .ref a_balls, .ref a_wheel, .int v_sides, .int v_kind, .int v_rounds])), (a_balls, .inl (cyI, 6, .inl c_balls))] H := by rw [hH]; exact hP
  have hS : va_S A s.heap H locs := by rw [hH, hlo]; exact hS
  suffices hw : W p l e rmX2_allBalls s m av below meth c H locs 0 0 Q (F0 m 0 ls []) by rw [hH, hlo] at hw; exact hw
  refine lv_iconst (v := 0) hx hb dX2_allBalls_0 (by decide) ?_
  refine lv_istore_n (lv' := [(1, .int 0), (0, .ref h0)]) hx hb dX2_allBalls_1 rfl hl (by decide) rfl (fun ls hl => ?_)
  refine lv_iconst (v := 0) hx hb dX2_allBalls_2 (by decide) ?_
  refine lv_istore_n (lv' := [(2, .int 0), (1, .int 0), (0, .ref h0)]) hx hb dX2_allBalls_3 rfl hl (by decide) rfl (fun ls hl => ?_)
  exact hB4 N 0 0 H locs ls hf hP hD hS (lv_sub hl [2, 1, 0] rfl)
abbrev rmX2_allChoices : Room := { frames := 0, cells := 0, slots := 0, locals := 0 }
set_option maxHeartbeats 40000000 in
set_option maxRecDepth 100000 in
theorem mX2_allChoices (l : Launch) (D : va_G) (cyI cyJ cyB cyS : ClassId) (N : Nat) (sz : Nat) (h0 : Nat) (a_choiceWorth : Nat) (a_strength : Nat) (a_placeWorth : Nat) (a_balls : Nat) (a_wheel : Nat) (v_sides : Int32) (v_kind : Int32) (v_rounds : Int32) (c_choiceWorth : Nat → Int32) (q : Int32) (hf : fX2_allChoices N v_sides c_choiceWorth = some q) : Met l yX2_allChoices (wS yX2_allChoices cX2_allChoices 3 (some .int)) rmX2_allChoices (va_Pc [.ref h0] (PP D cyI cyJ cyB cyS [(h0, .inr (2, [.ref a_strength, .ref a_placeWorth, .ref a_choiceWorth, .ref a_balls, .ref a_wheel, .int v_sides, .int v_kind, .int v_rounds])), (a_choiceWorth, .inl (cyI, 6, .inl c_choiceWorth))] sz)) (QI q D [(h0, .inr (2, [.ref a_strength, .ref a_placeWorth, .ref a_choiceWorth, .ref a_balls, .ref a_wheel, .int v_sides, .int v_kind, .int v_rounds])), (a_choiceWorth, .inl (cyI, 6, .inl c_choiceWorth))] (va_A [(h0, .inr (2, [.ref a_strength, .ref a_placeWorth, .ref a_choiceWorth, .ref a_balls, .ref a_wheel, .int v_sides, .int v_kind, .int v_rounds])), (a_choiceWorth, .inl (cyI, 6, .inl c_choiceWorth))] sz)) 0 0 (va_A [(h0, .inr (2, [.ref a_strength, .ref a_placeWorth, .ref a_choiceWorth, .ref a_balls, .ref a_wheel, .int v_sides, .int v_kind, .int v_rounds])), (a_choiceWorth, .inl (cyI, 6, .inl c_choiceWorth))] sz) := by
  refine Met.ofW (cc := cX2_allChoices) (maxL := 3) (ret := (some .int)) (by decide) rfl ?_
  intro p e s m args below meth c s₁ B hml hv
  obtain ⟨rfl, hsz, hP, hK, hD0⟩ := hv
  have hx := B.exec
  have hb := B.bytes
  have hr := B.returns
  have hts := atoms_spec (ws := (wS yX2_allChoices cX2_allChoices 3 (some .int))) B.pre
  have hown : s.vm.findClass RX2 = some m.cls := findClass_of_methodNamed B.named
  have hlocks := B.notSynchronized
  subst hsz
  have hD := hD0.self (sz := s.heap.size)
  refine w_nameQ (fun Q hQ => ?_)
  have hl := lv_entry ([.ref h0] : List Value) (n := 3) (Nat.le_of_ble_eq_true rfl)
  rw [lg_entry_eq]
  generalize (lg_sl ([.ref h0] : List Value) ++ List.replicate (3 - (lg_sl ([.ref h0] : List Value)).length) Slot.unset).toArray = ls at hl ⊢
  have hl : lv_has ls 3 [(0, .ref h0)] := hl
  generalize hAe : va_A [(h0, .inr (2, [.ref a_strength, .ref a_placeWorth, .ref a_choiceWorth, .ref a_balls, .ref a_wheel, .int v_sides, .int v_kind, .int v_rounds])), (a_choiceWorth, .inl (cyI, 6, .inl c_choiceWorth))] s.heap.size = A at hD hQ
  have hA : ∀ q : Nat, s.heap.size ≤ q → A q := fun q h => by rw [← hAe]; exact Or.inr h
  have hS : va_S A s.heap s.heap [] := va_S.rf
  generalize ([.ref h0] : List Value).toArray = av at hts hQ ⊢
  have hL : ∀ w ∈ wsL_law, w.before av s = true := fun w h => hts w (List.mem_cons_of_mem _ h)
  have w0 := hL (.fieldLink RX2 27 "LosingLeague$Rules" "sides" "I") (hR5 17 rfl)
  have w1 := hL (.fieldLink RX2 18 "LosingLeague$Rules" "choiceWorth" "[I") (hR2 23 rfl)
  have hB4 : ∀ (n : Nat), ∀ (x1 : Int32) (x2 : Int32) (H : Heap) (locs : List Loc) (ls : Array Slot), fX2_allChoices_4 N v_sides c_choiceWorth n x1 x2 = some q → va_P D vwCl [(h0, .inr (2, [.ref a_strength, .ref a_placeWorth, .ref a_choiceWorth, .ref a_balls, .ref a_wheel, .int v_sides, .int v_kind, .int v_rounds])), (a_choiceWorth, .inl (cyI, 6, .inl c_choiceWorth))] H → va_D A [(h0, .inr (2, [.ref a_strength, .ref a_placeWorth, .ref a_choiceWorth, .ref a_balls, .ref a_wheel, .int v_sides, .int v_kind, .int v_rounds])), (a_choiceWorth, .inl (cyI, 6, .inl c_choiceWorth))] → va_S A s.heap H locs → lv_has ls 3 [(0, .ref h0), (1, .int x1), (2, .int x2)] → W p l e rmX2_allChoices s m av below meth c H locs 0 0 Q (F0 m 4 ls []) := by
    intro n
    induction n with
    | zero => intro x1 x2 H locs ls hf; exact absurd hf (by simp [fX2_allChoices_4])
    | succ n hk4 =>
      intro x1 x2 H locs ls hf hP hD hS hl
      rw [fX2_allChoices_4] at hf
      refine lv_iload_n hx hb dX2_allChoices_4 rfl (lv_at hl 2 rfl) ?_
      refine lv_aload_n hx hb dX2_allChoices_5 rfl (lv_at hl 0 rfl) ?_
      refine va_get (D := D) (ci := 2) (v := .int v_sides) (C := RX2) (T := TX2) (N := 8) hx hb hL inlX2 hown hK.1 hP 0 rfl rfl 5 (by decide) w0 (fun _ h9 => h9) rfl dX2_allChoices_6 ?_
      refine lv_icmp_ge (tgt := 27) hx hb dX2_allChoices_9 (by decide) (fun c9 => ?_) (fun c9 => ?_)
      · have hf := pif_t c9 hf
        refine lv_iload_n hx hb dX2_allChoices_27 rfl (lv_at hl 1 rfl) ?_
        exact ret_i (q := q) (g := fun q => q) (wp := fun q => [(h0, .inr (2, [.ref a_strength, .ref a_placeWorth, .ref a_choiceWorth, .ref a_balls, .ref a_wheel, .int v_sides, .int v_kind, .int v_rounds])), (a_choiceWorth, .inl (cyI, 6, .inl c_choiceWorth))]) hQ hf hx hb hr hlocks hP hD hS dX2_allChoices_28 rfl
      · have hf := pif_f c9 hf
        refine lv_iload_n hx hb dX2_allChoices_12 rfl (lv_at hl 1 rfl) ?_
        refine lv_aload_n hx hb dX2_allChoices_13 rfl (lv_at hl 0 rfl) ?_
        refine va_get (D := D) (ci := 2) (v := .ref a_choiceWorth) (C := RX2) (T := TX2) (N := 8) hx hb hL inlX2 hown hK.1 hP 0 rfl rfl 2 (by decide) w1 (fun _ h9 => h9) rfl dX2_allChoices_14 ?_
        refine lv_iload_n hx hb dX2_allChoices_17 rfl (lv_at hl 2 rfl) ?_
        obtain ⟨h18, hf⟩ := pg_some hf
        refine va_iald hx hb hK.1 hP 1 0 rfl rfl h18 dX2_allChoices_18 ?_
        refine lv_iadd hx hb dX2_allChoices_19 ?_
        refine lv_istore_n (lv' := [(1, .int (x1 + (c_choiceWorth x2.toNatClampNeg))), (0, .ref h0), (2, .int x2)]) hx hb dX2_allChoices_20 rfl hl (by decide) rfl (fun ls hl => ?_)
        refine lv_iinc (v := x2 + 1) (lv' := [(2, .int (x2 + 1)), (1, .int (x1 + (c_choiceWorth x2.toNatClampNeg))), (0, .ref h0)]) hx hb dX2_allChoices_21 hl (k := 2) rfl rfl (by decide) rfl (fun ls hl => ?_)
        refine lv_goto (tgt := 4) hx hb dX2_allChoices_24 (by decide) ?_
        exact hk4 (x1 + (c_choiceWorth x2.toNatClampNeg)) (x2 + 1) H locs ls hf hP hD hS (lv_sub hl [2, 1, 0] rfl)
  unfold fX2_allChoices at hf
  obtain ⟨H, hH⟩ : ∃ H : Heap, H = s.heap := ⟨_, rfl⟩
  obtain ⟨locs, hlo⟩ : ∃ locs : List Loc, locs = [] := ⟨_, rfl⟩
  have hP : va_P D vwCl [(h0, .inr (2, [.ref a_strength, .ref a_placeWorth, .ref a_choiceWorth, .ref a_balls, .ref a_wheel, .int v_sides, .int v_kind, .int v_rounds])), (a_choiceWorth, .inl (cyI, 6, .inl c_choiceWorth))] H := by rw [hH]; exact hP
  have hS : va_S A s.heap H locs := by rw [hH, hlo]; exact hS
  suffices hw : W p l e rmX2_allChoices s m av below meth c H locs 0 0 Q (F0 m 0 ls []) by rw [hH, hlo] at hw; exact hw
  refine lv_iconst (v := 0) hx hb dX2_allChoices_0 (by decide) ?_
  refine lv_istore_n (lv' := [(1, .int 0), (0, .ref h0)]) hx hb dX2_allChoices_1 rfl hl (by decide) rfl (fun ls hl => ?_)
  refine lv_iconst (v := 0) hx hb dX2_allChoices_2 (by decide) ?_
  refine lv_istore_n (lv' := [(2, .int 0), (1, .int 0), (0, .ref h0)]) hx hb dX2_allChoices_3 rfl hl (by decide) rfl (fun ls hl => ?_)
  exact hB4 N 0 0 H locs ls hf hP hD hS (lv_sub hl [2, 1, 0] rfl)
abbrev rmJ6_bitCount_0f7a4 : Room := { frames := 0, cells := 0, slots := 0, locals := 0 }
set_option maxHeartbeats 40000000 in
set_option maxRecDepth 100000 in
theorem mJ6_bitCount_0f7a4 (l : Launch) (D : va_G) (cyI cyJ cyB cyS : ClassId) (N : Nat) (sz : Nat)  (x0 : Int32) (q : Int32) (hf : fJ6_bitCount_0f7a4 N x0 = some q) : Met l yJ6_bitCount_0f7a4 (wS yJ6_bitCount_0f7a4 cJ6_bitCount_0f7a4 1 (some .int)) rmJ6_bitCount_0f7a4 (va_Pc [.int x0] (PP D cyI cyJ cyB cyS [] sz)) (QI q D [] (va_A [] sz)) 0 0 (va_A [] sz) := by
  refine Met.ofW (cc := cJ6_bitCount_0f7a4) (maxL := 1) (ret := (some .int)) (by decide) rfl ?_
  intro p e s m args below meth c s₁ B hml hv
  obtain ⟨rfl, hsz, hP, hK, hD0⟩ := hv
  have hx := B.exec
  have hb := B.bytes
  have hr := B.returns
  have hts := atoms_spec (ws := (wS yJ6_bitCount_0f7a4 cJ6_bitCount_0f7a4 1 (some .int))) B.pre
  have hown : s.vm.findClass RJ6 = some m.cls := findClass_of_methodNamed B.named
  have hlocks := B.notSynchronized
  subst hsz
  have hD := hD0.self (sz := s.heap.size)
  refine w_nameQ (fun Q hQ => ?_)
  have hl := lv_entry ([.int x0] : List Value) (n := 1) (Nat.le_of_ble_eq_true rfl)
  rw [lg_entry_eq]
  generalize (lg_sl ([.int x0] : List Value) ++ List.replicate (1 - (lg_sl ([.int x0] : List Value)).length) Slot.unset).toArray = ls at hl ⊢
  have hl : lv_has ls 1 [(0, .int x0)] := hl
  generalize hAe : va_A [] s.heap.size = A at hD hQ
  have hA : ∀ q : Nat, s.heap.size ≤ q → A q := fun q h => by rw [← hAe]; exact Or.inr h
  have hS : va_S A s.heap s.heap [] := va_S.rf
  generalize ([.int x0] : List Value).toArray = av at hts hQ ⊢
  have hL : ∀ w ∈ wsL_law, w.before av s = true := fun w h => hts w (List.mem_cons_of_mem _ h)
  have w0 := hL (.constant RJ6 267 252645135) (hR15 15 rfl)
  have w1 := hL (.constant RJ6 266 858993459) (hR15 14 rfl)
  have w2 := hL (.constant RJ6 265 1431655765) (hR15 13 rfl)
  have hB48 : ∀ (x0 : Int32) (H : Heap) (locs : List Loc) (ls : Array Slot), fJ6_bitCount_0f7a4_48 N x0 = some q → va_P D vwCl [] H → va_D A [] → va_S A s.heap H locs → lv_has ls 1 [(0, .int x0)] → W p l e rmJ6_bitCount_0f7a4 s m av below meth c H locs 0 0 Q (F0 m 48 ls []) := by
    intro x0 H locs ls hf hP hD hS hl
    unfold fJ6_bitCount_0f7a4_48 at hf
    refine lv_iload_n hx hb dJ6_bitCount_0f7a4_48 rfl (lv_at hl 0 rfl) ?_
    refine lv_bipush (v := 63) hx hb dJ6_bitCount_0f7a4_49 (by decide) ?_
    refine lv_iand hx hb dJ6_bitCount_0f7a4_51 ?_
    exact ret_i (q := q) (g := fun q => q) (wp := fun q => []) hQ hf hx hb hr hlocks hP hD hS dJ6_bitCount_0f7a4_52 rfl
  have hB41 : ∀ (x0 : Int32) (H : Heap) (locs : List Loc) (ls : Array Slot), fJ6_bitCount_0f7a4_41 N x0 = some q → va_P D vwCl [] H → va_D A [] → va_S A s.heap H locs → lv_has ls 1 [(0, .int x0)] → W p l e rmJ6_bitCount_0f7a4 s m av below meth c H locs 0 0 Q (F0 m 41 ls []) := by
    intro x0 H locs ls hf hP hD hS hl
    unfold fJ6_bitCount_0f7a4_41 at hf
    refine lv_iload_n hx hb dJ6_bitCount_0f7a4_41 rfl (lv_at hl 0 rfl) ?_
    refine lv_iload_n hx hb dJ6_bitCount_0f7a4_42 rfl (lv_at hl 0 rfl) ?_
    refine lv_bipush (v := 16) hx hb dJ6_bitCount_0f7a4_43 (by decide) ?_
    refine lv_iushr hx hb dJ6_bitCount_0f7a4_45 rfl ?_
    refine lv_iadd hx hb dJ6_bitCount_0f7a4_46 ?_
    refine lv_istore_n (lv' := [(0, .int (x0 + ((x0.toUInt32 >>> ((16 : Int32).toUInt32 &&& Int32.toUInt32 31)).toInt32)))]) hx hb dJ6_bitCount_0f7a4_47 rfl hl (by decide) rfl (fun ls hl => ?_)
    exact hB48 (x0 + ((x0.toUInt32 >>> ((16 : Int32).toUInt32 &&& Int32.toUInt32 31)).toInt32)) H locs ls hf hP hD hS (lv_sub hl [0] rfl)
  have hB34 : ∀ (x0 : Int32) (H : Heap) (locs : List Loc) (ls : Array Slot), fJ6_bitCount_0f7a4_34 N x0 = some q → va_P D vwCl [] H → va_D A [] → va_S A s.heap H locs → lv_has ls 1 [(0, .int x0)] → W p l e rmJ6_bitCount_0f7a4 s m av below meth c H locs 0 0 Q (F0 m 34 ls []) := by
    intro x0 H locs ls hf hP hD hS hl
    unfold fJ6_bitCount_0f7a4_34 at hf
    refine lv_iload_n hx hb dJ6_bitCount_0f7a4_34 rfl (lv_at hl 0 rfl) ?_
    refine lv_iload_n hx hb dJ6_bitCount_0f7a4_35 rfl (lv_at hl 0 rfl) ?_
    refine lv_bipush (v := 8) hx hb dJ6_bitCount_0f7a4_36 (by decide) ?_
    refine lv_iushr hx hb dJ6_bitCount_0f7a4_38 rfl ?_
    refine lv_iadd hx hb dJ6_bitCount_0f7a4_39 ?_
    refine lv_istore_n (lv' := [(0, .int (x0 + ((x0.toUInt32 >>> ((8 : Int32).toUInt32 &&& Int32.toUInt32 31)).toInt32)))]) hx hb dJ6_bitCount_0f7a4_40 rfl hl (by decide) rfl (fun ls hl => ?_)
    exact hB41 (x0 + ((x0.toUInt32 >>> ((8 : Int32).toUInt32 &&& Int32.toUInt32 31)).toInt32)) H locs ls hf hP hD hS (lv_sub hl [0] rfl)
  have hB24 : ∀ (x0 : Int32) (H : Heap) (locs : List Loc) (ls : Array Slot), fJ6_bitCount_0f7a4_24 N x0 = some q → va_P D vwCl [] H → va_D A [] → va_S A s.heap H locs → lv_has ls 1 [(0, .int x0)] → W p l e rmJ6_bitCount_0f7a4 s m av below meth c H locs 0 0 Q (F0 m 24 ls []) := by
    intro x0 H locs ls hf hP hD hS hl
    unfold fJ6_bitCount_0f7a4_24 at hf
    refine lv_iload_n hx hb dJ6_bitCount_0f7a4_24 rfl (lv_at hl 0 rfl) ?_
    refine lv_iload_n hx hb dJ6_bitCount_0f7a4_25 rfl (lv_at hl 0 rfl) ?_
    refine lv_iconst (v := 4) hx hb dJ6_bitCount_0f7a4_26 (by decide) ?_
    refine lv_iushr hx hb dJ6_bitCount_0f7a4_27 rfl ?_
    refine lv_iadd hx hb dJ6_bitCount_0f7a4_28 ?_
    refine lv_ldcw (v := 252645135) hx hb hown w0 dJ6_bitCount_0f7a4_29 ?_
    refine lv_iand hx hb dJ6_bitCount_0f7a4_32 ?_
    refine lv_istore_n (lv' := [(0, .int ((x0 + ((x0.toUInt32 >>> ((4 : Int32).toUInt32 &&& Int32.toUInt32 31)).toInt32)) &&& 252645135))]) hx hb dJ6_bitCount_0f7a4_33 rfl hl (by decide) rfl (fun ls hl => ?_)
    exact hB34 ((x0 + ((x0.toUInt32 >>> ((4 : Int32).toUInt32 &&& Int32.toUInt32 31)).toInt32)) &&& 252645135) H locs ls hf hP hD hS (lv_sub hl [0] rfl)
  have hB10 : ∀ (x0 : Int32) (H : Heap) (locs : List Loc) (ls : Array Slot), fJ6_bitCount_0f7a4_10 N x0 = some q → va_P D vwCl [] H → va_D A [] → va_S A s.heap H locs → lv_has ls 1 [(0, .int x0)] → W p l e rmJ6_bitCount_0f7a4 s m av below meth c H locs 0 0 Q (F0 m 10 ls []) := by
    intro x0 H locs ls hf hP hD hS hl
    unfold fJ6_bitCount_0f7a4_10 at hf
    refine lv_iload_n hx hb dJ6_bitCount_0f7a4_10 rfl (lv_at hl 0 rfl) ?_
    refine lv_ldcw (v := 858993459) hx hb hown w1 dJ6_bitCount_0f7a4_11 ?_
    refine lv_iand hx hb dJ6_bitCount_0f7a4_14 ?_
    refine lv_iload_n hx hb dJ6_bitCount_0f7a4_15 rfl (lv_at hl 0 rfl) ?_
    refine lv_iconst (v := 2) hx hb dJ6_bitCount_0f7a4_16 (by decide) ?_
    refine lv_iushr hx hb dJ6_bitCount_0f7a4_17 rfl ?_
    refine lv_ldcw (v := 858993459) hx hb hown w1 dJ6_bitCount_0f7a4_18 ?_
    refine lv_iand hx hb dJ6_bitCount_0f7a4_21 ?_
    refine lv_iadd hx hb dJ6_bitCount_0f7a4_22 ?_
    refine lv_istore_n (lv' := [(0, .int ((x0 &&& 858993459) + (((x0.toUInt32 >>> ((2 : Int32).toUInt32 &&& Int32.toUInt32 31)).toInt32) &&& 858993459)))]) hx hb dJ6_bitCount_0f7a4_23 rfl hl (by decide) rfl (fun ls hl => ?_)
    exact hB24 ((x0 &&& 858993459) + (((x0.toUInt32 >>> ((2 : Int32).toUInt32 &&& Int32.toUInt32 31)).toInt32) &&& 858993459)) H locs ls hf hP hD hS (lv_sub hl [0] rfl)
  unfold fJ6_bitCount_0f7a4 at hf
  obtain ⟨H, hH⟩ : ∃ H : Heap, H = s.heap := ⟨_, rfl⟩
  obtain ⟨locs, hlo⟩ : ∃ locs : List Loc, locs = [] := ⟨_, rfl⟩
  have hP : va_P D vwCl [] H := by rw [hH]; exact hP
  have hS : va_S A s.heap H locs := by rw [hH, hlo]; exact hS
  suffices hw : W p l e rmJ6_bitCount_0f7a4 s m av below meth c H locs 0 0 Q (F0 m 0 ls []) by rw [hH, hlo] at hw; exact hw
  refine lv_iload_n hx hb dJ6_bitCount_0f7a4_0 rfl (lv_at hl 0 rfl) ?_
  refine lv_iload_n hx hb dJ6_bitCount_0f7a4_1 rfl (lv_at hl 0 rfl) ?_
  refine lv_iconst (v := 1) hx hb dJ6_bitCount_0f7a4_2 (by decide) ?_
  refine lv_iushr hx hb dJ6_bitCount_0f7a4_3 rfl ?_
  refine lv_ldcw (v := 1431655765) hx hb hown w2 dJ6_bitCount_0f7a4_4 ?_
  refine lv_iand hx hb dJ6_bitCount_0f7a4_7 ?_
  refine lv_isub hx hb dJ6_bitCount_0f7a4_8 ?_
  refine lv_istore_n (lv' := [(0, .int (x0 - (((x0.toUInt32 >>> ((1 : Int32).toUInt32 &&& Int32.toUInt32 31)).toInt32) &&& 1431655765)))]) hx hb dJ6_bitCount_0f7a4_9 rfl hl (by decide) rfl (fun ls hl => ?_)
  exact hB10 (x0 - (((x0.toUInt32 >>> ((1 : Int32).toUInt32 &&& Int32.toUInt32 31)).toInt32) &&& 1431655765)) H locs ls hf hP hD hS (lv_sub hl [0] rfl)
abbrev rmX2_wheelHasTwice : Room := { frames := 1, cells := 0, slots := 0, locals := 20 }
set_option maxHeartbeats 40000000 in
set_option maxRecDepth 100000 in
theorem mX2_wheelHasTwice (l : Launch) (D : va_G) (cyI cyJ cyB cyS : ClassId) (N : Nat) (sz : Nat) (h0 : Nat) (a_wheel : Nat) (a_strength : Nat) (a_placeWorth : Nat) (a_choiceWorth : Nat) (a_balls : Nat) (v_sides : Int32) (v_kind : Int32) (v_rounds : Int32) (c_wheel : Nat → Int32) (q : Int32) (hf : fX2_wheelHasTwice N v_sides c_wheel = some q) : Met l yX2_wheelHasTwice (wS yX2_wheelHasTwice cX2_wheelHasTwice 3 (some .boolean)) rmX2_wheelHasTwice (va_Pc [.ref h0] (PP D cyI cyJ cyB cyS [(h0, .inr (2, [.ref a_strength, .ref a_placeWorth, .ref a_choiceWorth, .ref a_balls, .ref a_wheel, .int v_sides, .int v_kind, .int v_rounds])), (a_wheel, .inl (cyI, 6, .inl c_wheel))] sz)) (QI q D [(h0, .inr (2, [.ref a_strength, .ref a_placeWorth, .ref a_choiceWorth, .ref a_balls, .ref a_wheel, .int v_sides, .int v_kind, .int v_rounds])), (a_wheel, .inl (cyI, 6, .inl c_wheel))] (va_A [(h0, .inr (2, [.ref a_strength, .ref a_placeWorth, .ref a_choiceWorth, .ref a_balls, .ref a_wheel, .int v_sides, .int v_kind, .int v_rounds])), (a_wheel, .inl (cyI, 6, .inl c_wheel))] sz)) 0 0 (va_A [(h0, .inr (2, [.ref a_strength, .ref a_placeWorth, .ref a_choiceWorth, .ref a_balls, .ref a_wheel, .int v_sides, .int v_kind, .int v_rounds])), (a_wheel, .inl (cyI, 6, .inl c_wheel))] sz) := by
  refine Met.ofW (cc := cX2_wheelHasTwice) (maxL := 3) (ret := (some .boolean)) (by decide) rfl ?_
  intro p e s m args below meth c s₁ B hml hv
  obtain ⟨rfl, hsz, hP, hK, hD0⟩ := hv
  have hx := B.exec
  have hb := B.bytes
  have hr := B.returns
  have hts := atoms_spec (ws := (wS yX2_wheelHasTwice cX2_wheelHasTwice 3 (some .boolean))) B.pre
  have hown : s.vm.findClass RX2 = some m.cls := findClass_of_methodNamed B.named
  have hlocks := B.notSynchronized
  subst hsz
  have hD := hD0.self (sz := s.heap.size)
  refine w_nameQ (fun Q hQ => ?_)
  have hl := lv_entry ([.ref h0] : List Value) (n := 3) (Nat.le_of_ble_eq_true rfl)
  rw [lg_entry_eq]
  generalize (lg_sl ([.ref h0] : List Value) ++ List.replicate (3 - (lg_sl ([.ref h0] : List Value)).length) Slot.unset).toArray = ls at hl ⊢
  have hl : lv_has ls 3 [(0, .ref h0)] := hl
  generalize hAe : va_A [(h0, .inr (2, [.ref a_strength, .ref a_placeWorth, .ref a_choiceWorth, .ref a_balls, .ref a_wheel, .int v_sides, .int v_kind, .int v_rounds])), (a_wheel, .inl (cyI, 6, .inl c_wheel))] s.heap.size = A at hD hQ
  have hA : ∀ q : Nat, s.heap.size ≤ q → A q := fun q h => by rw [← hAe]; exact Or.inr h
  have hS : va_S A s.heap s.heap [] := va_S.rf
  generalize ([.ref h0] : List Value).toArray = av at hts hQ ⊢
  have hL : ∀ w ∈ wsL_law, w.before av s = true := fun w h => hts w (List.mem_cons_of_mem _ h)
  have w0 := hL (.fieldLink RX2 27 "LosingLeague$Rules" "sides" "I") (hR5 17 rfl)
  have w1 := hL (.static yJ6_bitCount_0f7a4) (hR15 10 rfl)
  have w2 := hL (.fieldLink RX2 24 "LosingLeague$Rules" "wheel" "[I") (hR3 1 rfl)
  have hB45 : ∀ (s0 : Int32) (H : Heap) (locs : List Loc) (ls : Array Slot), fX2_wheelHasTwice_45 N v_sides c_wheel s0 = some q → va_P D vwCl [(h0, .inr (2, [.ref a_strength, .ref a_placeWorth, .ref a_choiceWorth, .ref a_balls, .ref a_wheel, .int v_sides, .int v_kind, .int v_rounds])), (a_wheel, .inl (cyI, 6, .inl c_wheel))] H → va_D A [(h0, .inr (2, [.ref a_strength, .ref a_placeWorth, .ref a_choiceWorth, .ref a_balls, .ref a_wheel, .int v_sides, .int v_kind, .int v_rounds])), (a_wheel, .inl (cyI, 6, .inl c_wheel))] → va_S A s.heap H locs → lv_has ls 3 [] → W p l e rmX2_wheelHasTwice s m av below meth c H locs 0 0 Q (F0 m 45 ls [.int s0]) := by
    intro s0 H locs ls hf hP hD hS hl
    unfold fX2_wheelHasTwice_45 at hf
    obtain ⟨n45, hf⟩ := pg_some hf
    exact ret_z (q := q) (g := fun q => q) (wp := fun q => [(h0, .inr (2, [.ref a_strength, .ref a_placeWorth, .ref a_choiceWorth, .ref a_balls, .ref a_wheel, .int v_sides, .int v_kind, .int v_rounds])), (a_wheel, .inl (cyI, 6, .inl c_wheel))]) hQ hf hx hb hr hlocks (isB_n n45) hP hD hS dX2_wheelHasTwice_45 rfl
  have hB4 : ∀ (n : Nat), ∀ (x1 : Int32) (x2 : Int32) (H : Heap) (locs : List Loc) (ls : Array Slot), fX2_wheelHasTwice_4 N v_sides c_wheel n x1 x2 = some q → va_P D vwCl [(h0, .inr (2, [.ref a_strength, .ref a_placeWorth, .ref a_choiceWorth, .ref a_balls, .ref a_wheel, .int v_sides, .int v_kind, .int v_rounds])), (a_wheel, .inl (cyI, 6, .inl c_wheel))] H → va_D A [(h0, .inr (2, [.ref a_strength, .ref a_placeWorth, .ref a_choiceWorth, .ref a_balls, .ref a_wheel, .int v_sides, .int v_kind, .int v_rounds])), (a_wheel, .inl (cyI, 6, .inl c_wheel))] → va_S A s.heap H locs → lv_has ls 3 [(0, .ref h0), (1, .int x1), (2, .int x2)] → W p l e rmX2_wheelHasTwice s m av below meth c H locs 0 0 Q (F0 m 4 ls []) := by
    intro n
    induction n with
    | zero => intro x1 x2 H locs ls hf; exact absurd hf (by simp [fX2_wheelHasTwice_4])
    | succ n hk4 =>
      intro x1 x2 H locs ls hf hP hD hS hl
      rw [fX2_wheelHasTwice_4] at hf
      refine lv_iload_n hx hb dX2_wheelHasTwice_4 rfl (lv_at hl 2 rfl) ?_
      refine lv_aload_n hx hb dX2_wheelHasTwice_5 rfl (lv_at hl 0 rfl) ?_
      refine va_get (D := D) (ci := 2) (v := .int v_sides) (C := RX2) (T := TX2) (N := 8) hx hb hL inlX2 hown hK.1 hP 0 rfl rfl 5 (by decide) w0 (fun _ h9 => h9) rfl dX2_wheelHasTwice_6 ?_
      refine lv_icmp_ge (tgt := 29) hx hb dX2_wheelHasTwice_9 (by decide) (fun c9 => ?_) (fun c9 => ?_)
      · have hf := pif_t c9 hf
        refine lv_iload_n hx hb dX2_wheelHasTwice_29 rfl (lv_at hl 1 rfl) ?_
        obtain ⟨q30, e30, hf⟩ := pb_some hf
        refine cc_i (wc := []) (wr := [(h0, .inr (2, [.ref a_strength, .ref a_placeWorth, .ref a_choiceWorth, .ref a_balls, .ref a_wheel, .int v_sides, .int v_kind, .int v_rounds])), (a_wheel, .inl (cyI, 6, .inl c_wheel))]) (w1 := []) (wn := [(h0, .inr (2, [.ref a_strength, .ref a_placeWorth, .ref a_choiceWorth, .ref a_balls, .ref a_wheel, .int v_sides, .int v_kind, .int v_rounds])), (a_wheel, .inl (cyI, 6, .inl c_wheel))]) hP hD hS hA [] [0, 1] [0, 1] rfl rfl rfl (by decide) rfl rfl (va_runS (As := [.int x1]) (rest := []) ⟨hx, hb, hml, hown, hL⟩ (mJ6_bitCount_0f7a4 l D cyI cyJ cyB cyS N H.size   x1 q30 e30) (va_cwS 1 hL (gS (hR15 9 rfl) (hR15 10 rfl) (hR15 11 rfl) (hR15 12 rfl)) rfl rfl rfl (by decide +kernel) ⟨Nat.le_of_ble_eq_true rfl, Nat.le_of_ble_eq_true rfl⟩) (PP_preS hP hD hK [] rfl rfl) rfl rfl hl.1 rfl (lv_room (Nat.le_of_ble_eq_true rfl)) dX2_wheelHasTwice_30 ⟨Nat.le_of_ble_eq_true rfl, Nat.le_of_ble_eq_true rfl⟩) (fun H locs hP hD hS => ?_)
        refine lv_aload_n hx hb dX2_wheelHasTwice_33 rfl (lv_at hl 0 rfl) ?_
        refine va_get (D := D) (ci := 2) (v := .int v_sides) (C := RX2) (T := TX2) (N := 8) hx hb hL inlX2 hown hK.1 hP 0 rfl rfl 5 (by decide) w0 (fun _ h9 => h9) rfl dX2_wheelHasTwice_34 ?_
        refine lv_icmp_ge (tgt := 44) hx hb dX2_wheelHasTwice_37 (by decide) (fun c37 => ?_) (fun c37 => ?_)
        · have hf := pif_t c37 hf
          refine lv_iconst (v := 0) hx hb dX2_wheelHasTwice_44 (by decide) ?_
          exact hB45 0 H locs ls hf hP hD hS (lv_sub hl [] rfl)
        · have hf := pif_f c37 hf
          refine lv_iconst (v := 1) hx hb dX2_wheelHasTwice_40 (by decide) ?_
          refine lv_goto (tgt := 45) hx hb dX2_wheelHasTwice_41 (by decide) ?_
          exact hB45 1 H locs ls hf hP hD hS (lv_sub hl [] rfl)
      · have hf := pif_f c9 hf
        refine lv_iload_n hx hb dX2_wheelHasTwice_12 rfl (lv_at hl 1 rfl) ?_
        refine lv_iconst (v := 1) hx hb dX2_wheelHasTwice_13 (by decide) ?_
        refine lv_aload_n hx hb dX2_wheelHasTwice_14 rfl (lv_at hl 0 rfl) ?_
        refine va_get (D := D) (ci := 2) (v := .ref a_wheel) (C := RX2) (T := TX2) (N := 8) hx hb hL inlX2 hown hK.1 hP 0 rfl rfl 4 (by decide) w2 (fun _ h9 => h9) rfl dX2_wheelHasTwice_15 ?_
        refine lv_iload_n hx hb dX2_wheelHasTwice_18 rfl (lv_at hl 2 rfl) ?_
        obtain ⟨h19, hf⟩ := pg_some hf
        refine va_iald hx hb hK.1 hP 1 0 rfl rfl h19 dX2_wheelHasTwice_19 ?_
        refine lv_ishl hx hb dX2_wheelHasTwice_20 ?_
        refine lv_ior hx hb dX2_wheelHasTwice_21 ?_
        refine lv_istore_n (lv' := [(1, .int (x1 ||| (1 <<< ((c_wheel x2.toNatClampNeg) &&& 31)))), (0, .ref h0), (2, .int x2)]) hx hb dX2_wheelHasTwice_22 rfl hl (by decide) rfl (fun ls hl => ?_)
        refine lv_iinc (v := x2 + 1) (lv' := [(2, .int (x2 + 1)), (1, .int (x1 ||| (1 <<< ((c_wheel x2.toNatClampNeg) &&& 31)))), (0, .ref h0)]) hx hb dX2_wheelHasTwice_23 hl (k := 2) rfl rfl (by decide) rfl (fun ls hl => ?_)
        refine lv_goto (tgt := 4) hx hb dX2_wheelHasTwice_26 (by decide) ?_
        exact hk4 (x1 ||| (1 <<< ((c_wheel x2.toNatClampNeg) &&& 31))) (x2 + 1) H locs ls hf hP hD hS (lv_sub hl [2, 1, 0] rfl)
  unfold fX2_wheelHasTwice at hf
  obtain ⟨H, hH⟩ : ∃ H : Heap, H = s.heap := ⟨_, rfl⟩
  obtain ⟨locs, hlo⟩ : ∃ locs : List Loc, locs = [] := ⟨_, rfl⟩
  have hP : va_P D vwCl [(h0, .inr (2, [.ref a_strength, .ref a_placeWorth, .ref a_choiceWorth, .ref a_balls, .ref a_wheel, .int v_sides, .int v_kind, .int v_rounds])), (a_wheel, .inl (cyI, 6, .inl c_wheel))] H := by rw [hH]; exact hP
  have hS : va_S A s.heap H locs := by rw [hH, hlo]; exact hS
  suffices hw : W p l e rmX2_wheelHasTwice s m av below meth c H locs 0 0 Q (F0 m 0 ls []) by rw [hH, hlo] at hw; exact hw
  refine lv_iconst (v := 0) hx hb dX2_wheelHasTwice_0 (by decide) ?_
  refine lv_istore_n (lv' := [(1, .int 0), (0, .ref h0)]) hx hb dX2_wheelHasTwice_1 rfl hl (by decide) rfl (fun ls hl => ?_)
  refine lv_iconst (v := 0) hx hb dX2_wheelHasTwice_2 (by decide) ?_
  refine lv_istore_n (lv' := [(2, .int 0), (1, .int 0), (0, .ref h0)]) hx hb dX2_wheelHasTwice_3 rfl hl (by decide) rfl (fun ls hl => ?_)
  exact hB4 N 0 0 H locs ls hf hP hD hS (lv_sub hl [2, 1, 0] rfl)
abbrev rmX2_payUnit : Room := { frames := 1, cells := 0, slots := 0, locals := 22 }
set_option maxHeartbeats 40000000 in
set_option maxRecDepth 100000 in
theorem mX2_payUnit (l : Launch) (D : va_G) (cyI cyJ cyB cyS : ClassId) (N : Nat) (sz : Nat) (h0 : Nat) (a_balls : Nat) (a_strength : Nat) (a_placeWorth : Nat) (a_choiceWorth : Nat) (a_wheel : Nat) (v_sides : Int32) (v_kind : Int32) (v_rounds : Int32) (c_balls : Nat → Int32) (q : Int32) (hf : fX2_payUnit N v_kind v_sides c_balls = some q) : Met l yX2_payUnit (wS yX2_payUnit cX2_payUnit 1 (some .int)) rmX2_payUnit (va_Pc [.ref h0] (PP D cyI cyJ cyB cyS [(h0, .inr (2, [.ref a_strength, .ref a_placeWorth, .ref a_choiceWorth, .ref a_balls, .ref a_wheel, .int v_sides, .int v_kind, .int v_rounds])), (a_balls, .inl (cyI, 6, .inl c_balls))] sz)) (QI q D [(h0, .inr (2, [.ref a_strength, .ref a_placeWorth, .ref a_choiceWorth, .ref a_balls, .ref a_wheel, .int v_sides, .int v_kind, .int v_rounds])), (a_balls, .inl (cyI, 6, .inl c_balls))] (va_A [(h0, .inr (2, [.ref a_strength, .ref a_placeWorth, .ref a_choiceWorth, .ref a_balls, .ref a_wheel, .int v_sides, .int v_kind, .int v_rounds])), (a_balls, .inl (cyI, 6, .inl c_balls))] sz)) 0 0 (va_A [(h0, .inr (2, [.ref a_strength, .ref a_placeWorth, .ref a_choiceWorth, .ref a_balls, .ref a_wheel, .int v_sides, .int v_kind, .int v_rounds])), (a_balls, .inl (cyI, 6, .inl c_balls))] sz) := by
  refine Met.ofW (cc := cX2_payUnit) (maxL := 1) (ret := (some .int)) (by decide) rfl ?_
  intro p e s m args below meth c s₁ B hml hv
  obtain ⟨rfl, hsz, hP, hK, hD0⟩ := hv
  have hx := B.exec
  have hb := B.bytes
  have hr := B.returns
  have hts := atoms_spec (ws := (wS yX2_payUnit cX2_payUnit 1 (some .int))) B.pre
  have hown : s.vm.findClass RX2 = some m.cls := findClass_of_methodNamed B.named
  have hlocks := B.notSynchronized
  subst hsz
  have hD := hD0.self (sz := s.heap.size)
  refine w_nameQ (fun Q hQ => ?_)
  have hl := lv_entry ([.ref h0] : List Value) (n := 1) (Nat.le_of_ble_eq_true rfl)
  rw [lg_entry_eq]
  generalize (lg_sl ([.ref h0] : List Value) ++ List.replicate (1 - (lg_sl ([.ref h0] : List Value)).length) Slot.unset).toArray = ls at hl ⊢
  have hl : lv_has ls 1 [(0, .ref h0)] := hl
  generalize hAe : va_A [(h0, .inr (2, [.ref a_strength, .ref a_placeWorth, .ref a_choiceWorth, .ref a_balls, .ref a_wheel, .int v_sides, .int v_kind, .int v_rounds])), (a_balls, .inl (cyI, 6, .inl c_balls))] s.heap.size = A at hD hQ
  have hA : ∀ q : Nat, s.heap.size ≤ q → A q := fun q h => by rw [← hAe]; exact Or.inr h
  have hS : va_S A s.heap s.heap [] := va_S.rf
  generalize ([.ref h0] : List Value).toArray = av at hts hQ ⊢
  have hL : ∀ w ∈ wsL_law, w.before av s = true := fun w h => hts w (List.mem_cons_of_mem _ h)
  have w0 := hL (.fieldLink RX2 31 "LosingLeague$Rules" "kind" "I") (hR5 18 rfl)
  have w1 := hL (.methodLink RX2 47 Lib.Math.max.name) (hR31 1 rfl)
  have w2 := hL (.static Lib.Math.max.name) (hR21 3 rfl)
  have w3 := hL (.initialized "java/lang/Math") (hR21 0 rfl)
  have w4 := hL (.code Lib.Math.max.name Lib.Math.max.code 2 (some .int)) (hR21 4 rfl)
  have w5 := hL (.fieldLink RX2 27 "LosingLeague$Rules" "sides" "I") (hR5 17 rfl)
  unfold fX2_payUnit at hf
  obtain ⟨H, hH⟩ : ∃ H : Heap, H = s.heap := ⟨_, rfl⟩
  obtain ⟨locs, hlo⟩ : ∃ locs : List Loc, locs = [] := ⟨_, rfl⟩
  have hP : va_P D vwCl [(h0, .inr (2, [.ref a_strength, .ref a_placeWorth, .ref a_choiceWorth, .ref a_balls, .ref a_wheel, .int v_sides, .int v_kind, .int v_rounds])), (a_balls, .inl (cyI, 6, .inl c_balls))] H := by rw [hH]; exact hP
  have hS : va_S A s.heap H locs := by rw [hH, hlo]; exact hS
  suffices hw : W p l e rmX2_payUnit s m av below meth c H locs 0 0 Q (F0 m 0 ls []) by rw [hH, hlo] at hw; exact hw
  refine lv_aload_n hx hb dX2_payUnit_0 rfl (lv_at hl 0 rfl) ?_
  refine va_get (D := D) (ci := 2) (v := .int v_kind) (C := RX2) (T := TX2) (N := 8) hx hb hL inlX2 hown hK.1 hP 0 rfl rfl 6 (by decide) w0 (fun _ h9 => h9) rfl dX2_payUnit_1 ?_
  rcases Decidable.em (v_kind = 1) with z4_0 | z4_0
  · have hf := pif_t z4_0 hf
    refine lv_lookup (off := 28) (tgt := 32) hx hb dX2_payUnit_4 (by decide) (by rw [z4_0]; try rfl) (by decide) ?_
    refine lv_iconst (v := 1) hx hb dX2_payUnit_32 (by decide) ?_
    refine lv_aload_n hx hb dX2_payUnit_33 rfl (lv_at hl 0 rfl) ?_
    obtain ⟨q34, e34, hf⟩ := pb_some hf
    refine cc_i (wc := [(h0, .inr (2, [.ref a_strength, .ref a_placeWorth, .ref a_choiceWorth, .ref a_balls, .ref a_wheel, .int v_sides, .int v_kind, .int v_rounds])), (a_balls, .inl (cyI, 6, .inl c_balls))]) (wr := []) (w1 := [(h0, .inr (2, [.ref a_strength, .ref a_placeWorth, .ref a_choiceWorth, .ref a_balls, .ref a_wheel, .int v_sides, .int v_kind, .int v_rounds])), (a_balls, .inl (cyI, 6, .inl c_balls))]) (wn := [(h0, .inr (2, [.ref a_strength, .ref a_placeWorth, .ref a_choiceWorth, .ref a_balls, .ref a_wheel, .int v_sides, .int v_kind, .int v_rounds])), (a_balls, .inl (cyI, 6, .inl c_balls))]) hP hD hS hA [0, 1] [] [0, 1] rfl rfl rfl (by decide) rfl rfl (va_runV (C := RX2) (As := []) (rest := [.int 1]) ⟨hx, hb, hml, hown, hL⟩ (mX2_allBalls l D cyI cyJ cyB cyS N H.size h0 a_balls a_strength a_placeWorth a_choiceWorth a_wheel v_sides v_kind v_rounds c_balls  q34 e34) (cwV 0 hL (gV (hR31 2 rfl) (hR15 2 rfl) (hR15 3 rfl) (hR1 15 rfl) (hR15 4 rfl)) rfl rfl rfl (by decide +kernel) ⟨Nat.le_of_ble_eq_true rfl, Nat.le_of_ble_eq_true rfl⟩) (PP_preV (ci := 2) (q0 := 0) hP hD hK [0, 1] rfl rfl rfl rfl) rfl rfl hl.1 rfl (lv_room (Nat.le_of_ble_eq_true rfl)) dX2_payUnit_34 ⟨Nat.le_of_ble_eq_true rfl, Nat.le_of_ble_eq_true rfl⟩) (fun H locs hP hD hS => ?_)
    refine va_mmax hx hb (hml.trans hl.1.symm) hown w1 w2 w3 w4 (Nat.le_of_ble_eq_true rfl) (Nat.le_of_ble_eq_true rfl) (Nat.zero_le _) (Nat.zero_le _) dX2_payUnit_37 ?_
    exact ret_i (q := q) (g := fun q => q) (wp := fun q => [(h0, .inr (2, [.ref a_strength, .ref a_placeWorth, .ref a_choiceWorth, .ref a_balls, .ref a_wheel, .int v_sides, .int v_kind, .int v_rounds])), (a_balls, .inl (cyI, 6, .inl c_balls))]) hQ hf hx hb hr hlocks hP hD hS dX2_payUnit_40 rfl
  · have hf := pif_f z4_0 hf
    rcases Decidable.em (v_kind = 4) with z4_1 | z4_1
    · have hf := pif_t z4_1 hf
      refine lv_lookup (off := 37) (tgt := 41) hx hb dX2_payUnit_4 (by decide) (by rw [z4_1]; try rfl) (by decide) ?_
      refine lv_aload_n hx hb dX2_payUnit_41 rfl (lv_at hl 0 rfl) ?_
      refine va_get (D := D) (ci := 2) (v := .int v_sides) (C := RX2) (T := TX2) (N := 8) hx hb hL inlX2 hown hK.1 hP 0 rfl rfl 5 (by decide) w5 (fun _ h9 => h9) rfl dX2_payUnit_42 ?_
      exact ret_i (q := q) (g := fun q => q) (wp := fun q => [(h0, .inr (2, [.ref a_strength, .ref a_placeWorth, .ref a_choiceWorth, .ref a_balls, .ref a_wheel, .int v_sides, .int v_kind, .int v_rounds])), (a_balls, .inl (cyI, 6, .inl c_balls))]) hQ hf hx hb hr hlocks hP hD hS dX2_payUnit_45 rfl
    · have hf := pif_f z4_1 hf
      refine lv_lookup (off := 42) (tgt := 46) hx hb dX2_payUnit_4 (by decide) ((lv_osw z4_0 rfl).trans ((lv_osw z4_1 rfl).trans rfl)) (by decide) ?_
      refine lv_iconst (v := 1) hx hb dX2_payUnit_46 (by decide) ?_
      exact ret_i (q := q) (g := fun q => q) (wp := fun q => [(h0, .inr (2, [.ref a_strength, .ref a_placeWorth, .ref a_choiceWorth, .ref a_balls, .ref a_wheel, .int v_sides, .int v_kind, .int v_rounds])), (a_balls, .inl (cyI, 6, .inl c_balls))]) hQ hf hx hb hr hlocks hP hD hS dX2_payUnit_47 rfl
abbrev rmX3_renew : Room := { frames := 0, cells := 0, slots := 0, locals := 0 }
set_option maxHeartbeats 40000000 in
set_option maxRecDepth 100000 in
theorem mX3_renew (l : Launch) (D : va_G) (cyI cyJ cyB cyS : ClassId) (N : Nat) (sz : Nat) (h0 : Nat) (a_cells : Nat) (v_exists : Int32) (v_lane : Int32) (v_length : Int32) (c_cells : Nat → Int32) (x1 : Int32) (x2 : Int32) (q : Int32 × Int32 × Int32 × (Nat → Int32)) (hf : fX3_renew N v_exists v_lane v_length c_cells x1 x2 = some q) : Met l yX3_renew (wS yX3_renew cX3_renew 4 none) rmX3_renew (va_Pc [.ref h0, .int x1, .int x2] (PP D cyI cyJ cyB cyS [(h0, .inr (3, [.ref a_cells, .int v_exists, .int v_lane, .int v_length])), (a_cells, .inl (cyI, 40, .inl c_cells))] sz)) (QV D [(h0, .inr (3, [.ref a_cells, .int q.1, .int q.2.1, .int q.2.2.1])), (a_cells, .inl (cyI, 40, .inl q.2.2.2))] (va_A [(h0, .inr (3, [.ref a_cells, .int v_exists, .int v_lane, .int v_length])), (a_cells, .inl (cyI, 40, .inl c_cells))] sz)) 0 0 (va_A [(h0, .inr (3, [.ref a_cells, .int v_exists, .int v_lane, .int v_length])), (a_cells, .inl (cyI, 40, .inl c_cells))] sz) := by
  refine Met.ofW (cc := cX3_renew) (maxL := 4) (ret := none) (by decide) rfl ?_
  intro p e s m args below meth c s₁ B hml hv
  obtain ⟨rfl, hsz, hP, hK, hD0⟩ := hv
  have hx := B.exec
  have hb := B.bytes
  have hr := B.returns
  have hts := atoms_spec (ws := (wS yX3_renew cX3_renew 4 none)) B.pre
  have hown : s.vm.findClass RX3 = some m.cls := findClass_of_methodNamed B.named
  have hlocks := B.notSynchronized
  subst hsz
  have hD := hD0.self (sz := s.heap.size)
  refine w_nameQ (fun Q hQ => ?_)
  have hl := lv_entry ([.ref h0, .int x1, .int x2] : List Value) (n := 4) (Nat.le_of_ble_eq_true rfl)
  rw [lg_entry_eq]
  generalize (lg_sl ([.ref h0, .int x1, .int x2] : List Value) ++ List.replicate (4 - (lg_sl ([.ref h0, .int x1, .int x2] : List Value)).length) Slot.unset).toArray = ls at hl ⊢
  have hl : lv_has ls 4 [(0, .ref h0), (1, .int x1), (2, .int x2)] := hl
  generalize hAe : va_A [(h0, .inr (3, [.ref a_cells, .int v_exists, .int v_lane, .int v_length])), (a_cells, .inl (cyI, 40, .inl c_cells))] s.heap.size = A at hD hQ
  have hA : ∀ q : Nat, s.heap.size ≤ q → A q := fun q h => by rw [← hAe]; exact Or.inr h
  have hS : va_S A s.heap s.heap [] := va_S.rf
  generalize ([.ref h0, .int x1, .int x2] : List Value).toArray = av at hts hQ ⊢
  have hL : ∀ w ∈ wsL_law, w.before av s = true := fun w h => hts w (List.mem_cons_of_mem _ h)
  have w0 := hL (.fieldLink RX3 9 "LosingLeague$Sheet" "cells" "[I") (hR5 23 rfl)
  have w1 := hL (.fieldLink RX3 15 "LosingLeague$Sheet" "exists" "Z") (hR46 23 rfl)
  have w2 := hL (.fieldLink RX3 19 "LosingLeague$Sheet" "lane" "I") (hR47 0 rfl)
  have w3 := hL (.fieldLink RX3 23 "LosingLeague$Sheet" "length" "I") (hR47 1 rfl)
  have hB17 : ∀ (n : Nat), ∀ (x3 : Int32) (v_exists : Int32) (v_lane : Int32) (v_length : Int32) (c_cells : Nat → Int32) (H : Heap) (locs : List Loc) (ls : Array Slot), fX3_renew_17 N x1 x2 n x3 v_exists v_lane v_length c_cells = some q → va_P D vwCl [(h0, .inr (3, [.ref a_cells, .int v_exists, .int v_lane, .int v_length])), (a_cells, .inl (cyI, 40, .inl c_cells))] H → va_D A [(h0, .inr (3, [.ref a_cells, .int v_exists, .int v_lane, .int v_length])), (a_cells, .inl (cyI, 40, .inl c_cells))] → va_S A s.heap H locs → lv_has ls 4 [(0, .ref h0), (3, .int x3)] → W p l e rmX3_renew s m av below meth c H locs 0 0 Q (F0 m 17 ls []) := by
    intro n
    induction n with
    | zero => intro x3 v_exists v_lane v_length c_cells H locs ls hf; exact absurd hf (by simp [fX3_renew_17])
    | succ n hk17 =>
      intro x3 v_exists v_lane v_length c_cells H locs ls hf hP hD hS hl
      rw [fX3_renew_17] at hf
      refine lv_iload_n hx hb dX3_renew_17 rfl (lv_at hl 1 rfl) ?_
      refine lv_bipush (v := 40) hx hb dX3_renew_18 (by decide) ?_
      refine lv_icmp_ge (tgt := 36) hx hb dX3_renew_20 (by decide) (fun c20 => ?_) (fun c20 => ?_)
      · have hf := pif_t c20 hf
        exact ret_v (q := q) (wp := fun q => [(h0, .inr (3, [.ref a_cells, .int q.1, .int q.2.1, .int q.2.2.1])), (a_cells, .inl (cyI, 40, .inl q.2.2.2))]) hQ hf hx hb hr hlocks hP hD hS dX3_renew_36
      · have hf := pif_f c20 hf
        refine lv_aload_n hx hb dX3_renew_23 rfl (lv_at hl 0 rfl) ?_
        refine va_get (D := D) (ci := 3) (v := .ref a_cells) (C := RX3) (T := TX3) (N := 4) hx hb hL inlX3 hown hK.1 hP 0 rfl rfl 0 (by decide) w0 (fun _ h9 => h9) rfl dX3_renew_24 ?_
        refine lv_iload_n hx hb dX3_renew_27 rfl (lv_at hl 1 rfl) ?_
        refine lv_iconst (v := 0) hx hb dX3_renew_28 (by decide) ?_
        obtain ⟨h29, hf⟩ := pg_some hf
        refine va_iast hx hb hK.1 hP hD hS 1 0 rfl rfl h29 dX3_renew_29 (fun H locs hP hD hS => ?_)
        have hP : va_P D vwCl [(h0, .inr (3, [.ref a_cells, .int v_exists, .int v_lane, .int v_length])), (a_cells, .inl (cyI, 40, .inl (upd c_cells x3.toNatClampNeg 0)))] H := hP
        have hD : va_D A [(h0, .inr (3, [.ref a_cells, .int v_exists, .int v_lane, .int v_length])), (a_cells, .inl (cyI, 40, .inl (upd c_cells x3.toNatClampNeg 0)))] := hD
        refine lv_iinc (v := x3 + 1) (lv' := [(3, .int (x3 + 1)), (0, .ref h0)]) hx hb dX3_renew_30 hl (k := 1) rfl rfl (by decide) rfl (fun ls hl => ?_)
        refine lv_goto (tgt := 17) hx hb dX3_renew_33 (by decide) ?_
        exact hk17 (x3 + 1) v_exists v_lane v_length (upd c_cells x3.toNatClampNeg 0) H locs ls hf hP hD hS (lv_sub hl [1, 0] rfl)
  unfold fX3_renew at hf
  obtain ⟨H, hH⟩ : ∃ H : Heap, H = s.heap := ⟨_, rfl⟩
  obtain ⟨locs, hlo⟩ : ∃ locs : List Loc, locs = [] := ⟨_, rfl⟩
  have hP : va_P D vwCl [(h0, .inr (3, [.ref a_cells, .int v_exists, .int v_lane, .int v_length])), (a_cells, .inl (cyI, 40, .inl c_cells))] H := by rw [hH]; exact hP
  have hS : va_S A s.heap H locs := by rw [hH, hlo]; exact hS
  suffices hw : W p l e rmX3_renew s m av below meth c H locs 0 0 Q (F0 m 0 ls []) by rw [hH, hlo] at hw; exact hw
  refine lv_aload_n hx hb dX3_renew_0 rfl (lv_at hl 0 rfl) ?_
  refine lv_iconst (v := 1) hx hb dX3_renew_1 (by decide) ?_
  refine va_put (D := D) (ci := 3) (v := .int 1) (ty := .boolean) (C := RX3) (T := TX3) (N := 4) hx hb hL inlX3 tyX3 tyX3_ok nmX3 hown hK.1 hP hD hS 0 rfl rfl 1 (by decide) w1 (fun _ h9 => h9) rfl (by decide +kernel) rfl rfl (Nat.le_of_ble_eq_true rfl) dX3_renew_2 (fun H locs hP hD hS => ?_)
  have hP : va_P D vwCl [(h0, .inr (3, [.ref a_cells, .int 1, .int v_lane, .int v_length])), (a_cells, .inl (cyI, 40, .inl c_cells))] H := hP
  have hD : va_D A [(h0, .inr (3, [.ref a_cells, .int 1, .int v_lane, .int v_length])), (a_cells, .inl (cyI, 40, .inl c_cells))] := hD
  refine lv_aload_n hx hb dX3_renew_5 rfl (lv_at hl 0 rfl) ?_
  refine lv_iload_n hx hb dX3_renew_6 rfl (lv_at hl 1 rfl) ?_
  refine va_put (D := D) (ci := 3) (v := .int x1) (ty := .int) (C := RX3) (T := TX3) (N := 4) hx hb hL inlX3 tyX3 tyX3_ok nmX3 hown hK.1 hP hD hS 0 rfl rfl 2 (by decide) w2 (fun _ h9 => h9) rfl (by decide +kernel) rfl rfl (Nat.le_of_ble_eq_true rfl) dX3_renew_7 (fun H locs hP hD hS => ?_)
  have hP : va_P D vwCl [(h0, .inr (3, [.ref a_cells, .int 1, .int x1, .int v_length])), (a_cells, .inl (cyI, 40, .inl c_cells))] H := hP
  have hD : va_D A [(h0, .inr (3, [.ref a_cells, .int 1, .int x1, .int v_length])), (a_cells, .inl (cyI, 40, .inl c_cells))] := hD
  refine lv_aload_n hx hb dX3_renew_10 rfl (lv_at hl 0 rfl) ?_
  refine lv_iload_n hx hb dX3_renew_11 rfl (lv_at hl 2 rfl) ?_
  refine va_put (D := D) (ci := 3) (v := .int x2) (ty := .int) (C := RX3) (T := TX3) (N := 4) hx hb hL inlX3 tyX3 tyX3_ok nmX3 hown hK.1 hP hD hS 0 rfl rfl 3 (by decide) w3 (fun _ h9 => h9) rfl (by decide +kernel) rfl rfl (Nat.le_of_ble_eq_true rfl) dX3_renew_12 (fun H locs hP hD hS => ?_)
  have hP : va_P D vwCl [(h0, .inr (3, [.ref a_cells, .int 1, .int x1, .int x2])), (a_cells, .inl (cyI, 40, .inl c_cells))] H := hP
  have hD : va_D A [(h0, .inr (3, [.ref a_cells, .int 1, .int x1, .int x2])), (a_cells, .inl (cyI, 40, .inl c_cells))] := hD
  refine lv_iconst (v := 0) hx hb dX3_renew_15 (by decide) ?_
  refine lv_istore_n (lv' := [(3, .int 0), (0, .ref h0), (1, .int x1), (2, .int x2)]) hx hb dX3_renew_16 rfl hl (by decide) rfl (fun ls hl => ?_)
  exact hB17 N 0 1 x1 x2 c_cells H locs ls hf hP hD hS (lv_sub hl [1, 0] rfl)
abbrev rmX3_has : Room := { frames := 0, cells := 0, slots := 0, locals := 0 }
set_option maxHeartbeats 40000000 in
set_option maxRecDepth 100000 in
theorem mX3_has (l : Launch) (D : va_G) (cyI cyJ cyB cyS : ClassId) (N : Nat) (sz : Nat) (h0 : Nat) (a_cells : Nat) (v_exists : Int32) (v_lane : Int32) (v_length : Int32) (x1 : Int32) (q : Int32) (hf : fX3_has N v_length x1 = some q) : Met l yX3_has (wS yX3_has cX3_has 2 (some .boolean)) rmX3_has (va_Pc [.ref h0, .int x1] (PP D cyI cyJ cyB cyS [(h0, .inr (3, [.ref a_cells, .int v_exists, .int v_lane, .int v_length]))] sz)) (QI q D [(h0, .inr (3, [.ref a_cells, .int v_exists, .int v_lane, .int v_length]))] (va_A [(h0, .inr (3, [.ref a_cells, .int v_exists, .int v_lane, .int v_length]))] sz)) 0 0 (va_A [(h0, .inr (3, [.ref a_cells, .int v_exists, .int v_lane, .int v_length]))] sz) := by
  refine Met.ofW (cc := cX3_has) (maxL := 2) (ret := (some .boolean)) (by decide) rfl ?_
  intro p e s m args below meth c s₁ B hml hv
  obtain ⟨rfl, hsz, hP, hK, hD0⟩ := hv
  have hx := B.exec
  have hb := B.bytes
  have hr := B.returns
  have hts := atoms_spec (ws := (wS yX3_has cX3_has 2 (some .boolean))) B.pre
  have hown : s.vm.findClass RX3 = some m.cls := findClass_of_methodNamed B.named
  have hlocks := B.notSynchronized
  subst hsz
  have hD := hD0.self (sz := s.heap.size)
  refine w_nameQ (fun Q hQ => ?_)
  have hl := lv_entry ([.ref h0, .int x1] : List Value) (n := 2) (Nat.le_of_ble_eq_true rfl)
  rw [lg_entry_eq]
  generalize (lg_sl ([.ref h0, .int x1] : List Value) ++ List.replicate (2 - (lg_sl ([.ref h0, .int x1] : List Value)).length) Slot.unset).toArray = ls at hl ⊢
  have hl : lv_has ls 2 [(0, .ref h0), (1, .int x1)] := hl
  generalize hAe : va_A [(h0, .inr (3, [.ref a_cells, .int v_exists, .int v_lane, .int v_length]))] s.heap.size = A at hD hQ
  have hA : ∀ q : Nat, s.heap.size ≤ q → A q := fun q h => by rw [← hAe]; exact Or.inr h
  have hS : va_S A s.heap s.heap [] := va_S.rf
  generalize ([.ref h0, .int x1] : List Value).toArray = av at hts hQ ⊢
  have hL : ∀ w ∈ wsL_law, w.before av s = true := fun w h => hts w (List.mem_cons_of_mem _ h)
  have w0 := hL (.fieldLink RX3 23 "LosingLeague$Sheet" "length" "I") (hR47 1 rfl)
  have hB17 : ∀ (s0 : Int32) (H : Heap) (locs : List Loc) (ls : Array Slot), fX3_has_17 N v_length x1 s0 = some q → va_P D vwCl [(h0, .inr (3, [.ref a_cells, .int v_exists, .int v_lane, .int v_length]))] H → va_D A [(h0, .inr (3, [.ref a_cells, .int v_exists, .int v_lane, .int v_length]))] → va_S A s.heap H locs → lv_has ls 2 [] → W p l e rmX3_has s m av below meth c H locs 0 0 Q (F0 m 17 ls [.int s0]) := by
    intro s0 H locs ls hf hP hD hS hl
    unfold fX3_has_17 at hf
    obtain ⟨n17, hf⟩ := pg_some hf
    exact ret_z (q := q) (g := fun q => q) (wp := fun q => [(h0, .inr (3, [.ref a_cells, .int v_exists, .int v_lane, .int v_length]))]) hQ hf hx hb hr hlocks (isB_n n17) hP hD hS dX3_has_17 rfl
  have hB16 : ∀ (H : Heap) (locs : List Loc) (ls : Array Slot), fX3_has_16 N v_length x1 = some q → va_P D vwCl [(h0, .inr (3, [.ref a_cells, .int v_exists, .int v_lane, .int v_length]))] H → va_D A [(h0, .inr (3, [.ref a_cells, .int v_exists, .int v_lane, .int v_length]))] → va_S A s.heap H locs → lv_has ls 2 [] → W p l e rmX3_has s m av below meth c H locs 0 0 Q (F0 m 16 ls []) := by
    intro  H locs ls hf hP hD hS hl
    unfold fX3_has_16 at hf
    refine lv_iconst (v := 0) hx hb dX3_has_16 (by decide) ?_
    exact hB17 0 H locs ls hf hP hD hS (lv_sub hl [] rfl)
  unfold fX3_has at hf
  obtain ⟨H, hH⟩ : ∃ H : Heap, H = s.heap := ⟨_, rfl⟩
  obtain ⟨locs, hlo⟩ : ∃ locs : List Loc, locs = [] := ⟨_, rfl⟩
  have hP : va_P D vwCl [(h0, .inr (3, [.ref a_cells, .int v_exists, .int v_lane, .int v_length]))] H := by rw [hH]; exact hP
  have hS : va_S A s.heap H locs := by rw [hH, hlo]; exact hS
  suffices hw : W p l e rmX3_has s m av below meth c H locs 0 0 Q (F0 m 0 ls []) by rw [hH, hlo] at hw; exact hw
  refine lv_iload_n hx hb dX3_has_0 rfl (lv_at hl 1 rfl) ?_
  refine lv_if_lt (tgt := 16) hx hb dX3_has_1 (by decide) (fun c1 => ?_) (fun c1 => ?_)
  · have hf := pif_t c1 hf
    exact hB16 H locs ls hf hP hD hS (lv_sub hl [] rfl)
  · have hf := pif_f c1 hf
    refine lv_iload_n hx hb dX3_has_4 rfl (lv_at hl 1 rfl) ?_
    refine lv_aload_n hx hb dX3_has_5 rfl (lv_at hl 0 rfl) ?_
    refine va_get (D := D) (ci := 3) (v := .int v_length) (C := RX3) (T := TX3) (N := 4) hx hb hL inlX3 hown hK.1 hP 0 rfl rfl 3 (by decide) w0 (fun _ h9 => h9) rfl dX3_has_6 ?_
    refine lv_icmp_ge (tgt := 16) hx hb dX3_has_9 (by decide) (fun c9 => ?_) (fun c9 => ?_)
    · have hf := pif_t c9 hf
      exact hB16 H locs ls hf hP hD hS (lv_sub hl [] rfl)
    · have hf := pif_f c9 hf
      refine lv_iconst (v := 1) hx hb dX3_has_12 (by decide) ?_
      refine lv_goto (tgt := 17) hx hb dX3_has_13 (by decide) ?_
      exact hB17 1 H locs ls hf hP hD hS (lv_sub hl [] rfl)
abbrev rmX3_put : Room := { frames := 0, cells := 0, slots := 0, locals := 0 }
set_option maxHeartbeats 40000000 in
set_option maxRecDepth 100000 in
theorem mX3_put (l : Launch) (D : va_G) (cyI cyJ cyB cyS : ClassId) (N : Nat) (sz : Nat) (h0 : Nat) (a_cells : Nat) (v_exists : Int32) (v_lane : Int32) (v_length : Int32) (c_cells : Nat → Int32) (x1 : Int32) (x2 : Int32) (q : (Nat → Int32)) (hf : fX3_put N v_lane c_cells x1 x2 = some q) : Met l yX3_put (wS yX3_put cX3_put 3 none) rmX3_put (va_Pc [.ref h0, .int x1, .int x2] (PP D cyI cyJ cyB cyS [(h0, .inr (3, [.ref a_cells, .int v_exists, .int v_lane, .int v_length])), (a_cells, .inl (cyI, 40, .inl c_cells))] sz)) (QV D [(h0, .inr (3, [.ref a_cells, .int v_exists, .int v_lane, .int v_length])), (a_cells, .inl (cyI, 40, .inl q))] (va_A [(h0, .inr (3, [.ref a_cells, .int v_exists, .int v_lane, .int v_length])), (a_cells, .inl (cyI, 40, .inl c_cells))] sz)) 0 0 (va_A [(h0, .inr (3, [.ref a_cells, .int v_exists, .int v_lane, .int v_length])), (a_cells, .inl (cyI, 40, .inl c_cells))] sz) := by
  refine Met.ofW (cc := cX3_put) (maxL := 3) (ret := none) (by decide) rfl ?_
  intro p e s m args below meth c s₁ B hml hv
  obtain ⟨rfl, hsz, hP, hK, hD0⟩ := hv
  have hx := B.exec
  have hb := B.bytes
  have hr := B.returns
  have hts := atoms_spec (ws := (wS yX3_put cX3_put 3 none)) B.pre
  have hown : s.vm.findClass RX3 = some m.cls := findClass_of_methodNamed B.named
  have hlocks := B.notSynchronized
  subst hsz
  have hD := hD0.self (sz := s.heap.size)
  refine w_nameQ (fun Q hQ => ?_)
  have hl := lv_entry ([.ref h0, .int x1, .int x2] : List Value) (n := 3) (Nat.le_of_ble_eq_true rfl)
  rw [lg_entry_eq]
  generalize (lg_sl ([.ref h0, .int x1, .int x2] : List Value) ++ List.replicate (3 - (lg_sl ([.ref h0, .int x1, .int x2] : List Value)).length) Slot.unset).toArray = ls at hl ⊢
  have hl : lv_has ls 3 [(0, .ref h0), (1, .int x1), (2, .int x2)] := hl
  generalize hAe : va_A [(h0, .inr (3, [.ref a_cells, .int v_exists, .int v_lane, .int v_length])), (a_cells, .inl (cyI, 40, .inl c_cells))] s.heap.size = A at hD hQ
  have hA : ∀ q : Nat, s.heap.size ≤ q → A q := fun q h => by rw [← hAe]; exact Or.inr h
  have hS : va_S A s.heap s.heap [] := va_S.rf
  generalize ([.ref h0, .int x1, .int x2] : List Value).toArray = av at hts hQ ⊢
  have hL : ∀ w ∈ wsL_law, w.before av s = true := fun w h => hts w (List.mem_cons_of_mem _ h)
  have w0 := hL (.fieldLink RX3 19 "LosingLeague$Sheet" "lane" "I") (hR47 0 rfl)
  have w1 := hL (.fieldLink RX3 9 "LosingLeague$Sheet" "cells" "[I") (hR5 23 rfl)
  have hB61 : ∀ (c_cells : Nat → Int32) (H : Heap) (locs : List Loc) (ls : Array Slot), fX3_put_61 N v_lane x1 x2 c_cells = some q → va_P D vwCl [(h0, .inr (3, [.ref a_cells, .int v_exists, .int v_lane, .int v_length])), (a_cells, .inl (cyI, 40, .inl c_cells))] H → va_D A [(h0, .inr (3, [.ref a_cells, .int v_exists, .int v_lane, .int v_length])), (a_cells, .inl (cyI, 40, .inl c_cells))] → va_S A s.heap H locs → lv_has ls 3 [] → W p l e rmX3_put s m av below meth c H locs 0 0 Q (F0 m 61 ls []) := by
    intro c_cells H locs ls hf hP hD hS hl
    unfold fX3_put_61 at hf
    exact ret_v (q := q) (wp := fun q => [(h0, .inr (3, [.ref a_cells, .int v_exists, .int v_lane, .int v_length])), (a_cells, .inl (cyI, 40, .inl q))]) hQ hf hx hb hr hlocks hP hD hS dX3_put_61
  unfold fX3_put at hf
  obtain ⟨H, hH⟩ : ∃ H : Heap, H = s.heap := ⟨_, rfl⟩
  obtain ⟨locs, hlo⟩ : ∃ locs : List Loc, locs = [] := ⟨_, rfl⟩
  have hP : va_P D vwCl [(h0, .inr (3, [.ref a_cells, .int v_exists, .int v_lane, .int v_length])), (a_cells, .inl (cyI, 40, .inl c_cells))] H := by rw [hH]; exact hP
  have hS : va_S A s.heap H locs := by rw [hH, hlo]; exact hS
  suffices hw : W p l e rmX3_put s m av below meth c H locs 0 0 Q (F0 m 0 ls []) by rw [hH, hlo] at hw; exact hw
  refine lv_aload_n hx hb dX3_put_0 rfl (lv_at hl 0 rfl) ?_
  refine va_get (D := D) (ci := 3) (v := .int v_lane) (C := RX3) (T := TX3) (N := 4) hx hb hL inlX3 hown hK.1 hP 0 rfl rfl 2 (by decide) w0 (fun _ h9 => h9) rfl dX3_put_1 ?_
  rcases Decidable.em (v_lane = 0) with z4_0 | z4_0
  · have hf := pif_t z4_0 hf
    refine lv_lookup (off := 28) (tgt := 32) hx hb dX3_put_4 (by decide) (by rw [z4_0]; try rfl) (by decide) ?_
    refine lv_aload_n hx hb dX3_put_32 rfl (lv_at hl 0 rfl) ?_
    refine va_get (D := D) (ci := 3) (v := .ref a_cells) (C := RX3) (T := TX3) (N := 4) hx hb hL inlX3 hown hK.1 hP 0 rfl rfl 0 (by decide) w1 (fun _ h9 => h9) rfl dX3_put_33 ?_
    refine lv_iload_n hx hb dX3_put_36 rfl (lv_at hl 1 rfl) ?_
    refine lv_iload_n hx hb dX3_put_37 rfl (lv_at hl 2 rfl) ?_
    refine lv_i2b hx hb dX3_put_38 rfl ?_
    obtain ⟨h39, hf⟩ := pg_some hf
    refine va_iast hx hb hK.1 hP hD hS 1 0 rfl rfl h39 dX3_put_39 (fun H locs hP hD hS => ?_)
    have hP : va_P D vwCl [(h0, .inr (3, [.ref a_cells, .int v_exists, .int v_lane, .int v_length])), (a_cells, .inl (cyI, 40, .inl (upd c_cells x1.toNatClampNeg ((x2 : Int32).toInt8.toInt32))))] H := hP
    have hD : va_D A [(h0, .inr (3, [.ref a_cells, .int v_exists, .int v_lane, .int v_length])), (a_cells, .inl (cyI, 40, .inl (upd c_cells x1.toNatClampNeg ((x2 : Int32).toInt8.toInt32))))] := hD
    refine lv_goto (tgt := 61) hx hb dX3_put_40 (by decide) ?_
    exact hB61 (upd c_cells x1.toNatClampNeg ((x2 : Int32).toInt8.toInt32)) H locs ls hf hP hD hS (lv_sub hl [] rfl)
  · have hf := pif_f z4_0 hf
    rcases Decidable.em (v_lane = 1) with z4_1 | z4_1
    · have hf := pif_t z4_1 hf
      refine lv_lookup (off := 39) (tgt := 43) hx hb dX3_put_4 (by decide) (by rw [z4_1]; try rfl) (by decide) ?_
      refine lv_aload_n hx hb dX3_put_43 rfl (lv_at hl 0 rfl) ?_
      refine va_get (D := D) (ci := 3) (v := .ref a_cells) (C := RX3) (T := TX3) (N := 4) hx hb hL inlX3 hown hK.1 hP 0 rfl rfl 0 (by decide) w1 (fun _ h9 => h9) rfl dX3_put_44 ?_
      refine lv_iload_n hx hb dX3_put_47 rfl (lv_at hl 1 rfl) ?_
      refine lv_iload_n hx hb dX3_put_48 rfl (lv_at hl 2 rfl) ?_
      refine lv_i2s hx hb dX3_put_49 rfl ?_
      obtain ⟨h50, hf⟩ := pg_some hf
      refine va_iast hx hb hK.1 hP hD hS 1 0 rfl rfl h50 dX3_put_50 (fun H locs hP hD hS => ?_)
      have hP : va_P D vwCl [(h0, .inr (3, [.ref a_cells, .int v_exists, .int v_lane, .int v_length])), (a_cells, .inl (cyI, 40, .inl (upd c_cells x1.toNatClampNeg ((x2 : Int32).toInt16.toInt32))))] H := hP
      have hD : va_D A [(h0, .inr (3, [.ref a_cells, .int v_exists, .int v_lane, .int v_length])), (a_cells, .inl (cyI, 40, .inl (upd c_cells x1.toNatClampNeg ((x2 : Int32).toInt16.toInt32))))] := hD
      refine lv_goto (tgt := 61) hx hb dX3_put_51 (by decide) ?_
      exact hB61 (upd c_cells x1.toNatClampNeg ((x2 : Int32).toInt16.toInt32)) H locs ls hf hP hD hS (lv_sub hl [] rfl)
    · have hf := pif_f z4_1 hf
      refine lv_lookup (off := 50) (tgt := 54) hx hb dX3_put_4 (by decide) ((lv_osw z4_0 rfl).trans ((lv_osw z4_1 rfl).trans rfl)) (by decide) ?_
      refine lv_aload_n hx hb dX3_put_54 rfl (lv_at hl 0 rfl) ?_
      refine va_get (D := D) (ci := 3) (v := .ref a_cells) (C := RX3) (T := TX3) (N := 4) hx hb hL inlX3 hown hK.1 hP 0 rfl rfl 0 (by decide) w1 (fun _ h9 => h9) rfl dX3_put_55 ?_
      refine lv_iload_n hx hb dX3_put_58 rfl (lv_at hl 1 rfl) ?_
      refine lv_iload_n hx hb dX3_put_59 rfl (lv_at hl 2 rfl) ?_
      obtain ⟨h60, hf⟩ := pg_some hf
      refine va_iast hx hb hK.1 hP hD hS 1 0 rfl rfl h60 dX3_put_60 (fun H locs hP hD hS => ?_)
      have hP : va_P D vwCl [(h0, .inr (3, [.ref a_cells, .int v_exists, .int v_lane, .int v_length])), (a_cells, .inl (cyI, 40, .inl (upd c_cells x1.toNatClampNeg x2)))] H := hP
      have hD : va_D A [(h0, .inr (3, [.ref a_cells, .int v_exists, .int v_lane, .int v_length])), (a_cells, .inl (cyI, 40, .inl (upd c_cells x1.toNatClampNeg x2)))] := hD
      exact hB61 (upd c_cells x1.toNatClampNeg x2) H locs ls hf hP hD hS (lv_sub hl [] rfl)
abbrev rmX3_readable : Room := { frames := 1, cells := 0, slots := 0, locals := 21 }
set_option maxHeartbeats 40000000 in
set_option maxRecDepth 100000 in
theorem mX3_readable (l : Launch) (D : va_G) (cyI cyJ cyB cyS : ClassId) (N : Nat) (sz : Nat) (h0 : Nat) (a_cells : Nat) (v_exists : Int32) (v_lane : Int32) (v_length : Int32) (x1 : Int32) (x2 : Int32) (x3 : Int32) (q : Int32) (hf : fX3_readable N v_exists v_lane v_length x1 x2 x3 = some q) : Met l yX3_readable (wS yX3_readable cX3_readable 4 (some .int)) rmX3_readable (va_Pc [.ref h0, .int x1, .int x2, .int x3] (PP D cyI cyJ cyB cyS [(h0, .inr (3, [.ref a_cells, .int v_exists, .int v_lane, .int v_length]))] sz)) (QI q D [(h0, .inr (3, [.ref a_cells, .int v_exists, .int v_lane, .int v_length]))] (va_A [(h0, .inr (3, [.ref a_cells, .int v_exists, .int v_lane, .int v_length]))] sz)) 0 0 (va_A [(h0, .inr (3, [.ref a_cells, .int v_exists, .int v_lane, .int v_length]))] sz) := by
  refine Met.ofW (cc := cX3_readable) (maxL := 4) (ret := (some .int)) (by decide) rfl ?_
  intro p e s m args below meth c s₁ B hml hv
  obtain ⟨rfl, hsz, hP, hK, hD0⟩ := hv
  have hx := B.exec
  have hb := B.bytes
  have hr := B.returns
  have hts := atoms_spec (ws := (wS yX3_readable cX3_readable 4 (some .int))) B.pre
  have hown : s.vm.findClass RX3 = some m.cls := findClass_of_methodNamed B.named
  have hlocks := B.notSynchronized
  subst hsz
  have hD := hD0.self (sz := s.heap.size)
  refine w_nameQ (fun Q hQ => ?_)
  have hl := lv_entry ([.ref h0, .int x1, .int x2, .int x3] : List Value) (n := 4) (Nat.le_of_ble_eq_true rfl)
  rw [lg_entry_eq]
  generalize (lg_sl ([.ref h0, .int x1, .int x2, .int x3] : List Value) ++ List.replicate (4 - (lg_sl ([.ref h0, .int x1, .int x2, .int x3] : List Value)).length) Slot.unset).toArray = ls at hl ⊢
  have hl : lv_has ls 4 [(0, .ref h0), (1, .int x1), (2, .int x2), (3, .int x3)] := hl
  generalize hAe : va_A [(h0, .inr (3, [.ref a_cells, .int v_exists, .int v_lane, .int v_length]))] s.heap.size = A at hD hQ
  have hA : ∀ q : Nat, s.heap.size ≤ q → A q := fun q h => by rw [← hAe]; exact Or.inr h
  have hS : va_S A s.heap s.heap [] := va_S.rf
  generalize ([.ref h0, .int x1, .int x2, .int x3] : List Value).toArray = av at hts hQ ⊢
  have hL : ∀ w ∈ wsL_law, w.before av s = true := fun w h => hts w (List.mem_cons_of_mem _ h)
  have w0 := hL (.fieldLink RX3 15 "LosingLeague$Sheet" "exists" "Z") (hR46 23 rfl)
  have w1 := hL (.fieldLink RX3 19 "LosingLeague$Sheet" "lane" "I") (hR47 0 rfl)
  have w2 := hL (.fieldLink RX3 23 "LosingLeague$Sheet" "length" "I") (hR47 1 rfl)
  have w3 := hL (.methodLink RX3 30 Lib.Math.min.name) (hR48 10 rfl)
  have w4 := hL (.static Lib.Math.min.name) (hR20 23 rfl)
  have w5 := hL (.initialized "java/lang/Math") (hR21 0 rfl)
  have w6 := hL (.code Lib.Math.min.name Lib.Math.min.code 2 (some .int)) (hR21 1 rfl)
  have hB23 : ∀ (H : Heap) (locs : List Loc) (ls : Array Slot), fX3_readable_23 N v_exists v_lane v_length x1 x2 x3 = some q → va_P D vwCl [(h0, .inr (3, [.ref a_cells, .int v_exists, .int v_lane, .int v_length]))] H → va_D A [(h0, .inr (3, [.ref a_cells, .int v_exists, .int v_lane, .int v_length]))] → va_S A s.heap H locs → lv_has ls 4 [] → W p l e rmX3_readable s m av below meth c H locs 0 0 Q (F0 m 23 ls []) := by
    intro  H locs ls hf hP hD hS hl
    unfold fX3_readable_23 at hf
    refine lv_iconst (v := 0) hx hb dX3_readable_23 (by decide) ?_
    exact ret_i (q := q) (g := fun q => q) (wp := fun q => [(h0, .inr (3, [.ref a_cells, .int v_exists, .int v_lane, .int v_length]))]) hQ hf hx hb hr hlocks hP hD hS dX3_readable_24 rfl
  unfold fX3_readable at hf
  obtain ⟨H, hH⟩ : ∃ H : Heap, H = s.heap := ⟨_, rfl⟩
  obtain ⟨locs, hlo⟩ : ∃ locs : List Loc, locs = [] := ⟨_, rfl⟩
  have hP : va_P D vwCl [(h0, .inr (3, [.ref a_cells, .int v_exists, .int v_lane, .int v_length]))] H := by rw [hH]; exact hP
  have hS : va_S A s.heap H locs := by rw [hH, hlo]; exact hS
  suffices hw : W p l e rmX3_readable s m av below meth c H locs 0 0 Q (F0 m 0 ls []) by rw [hH, hlo] at hw; exact hw
  refine lv_aload_n hx hb dX3_readable_0 rfl (lv_at hl 0 rfl) ?_
  refine va_get (D := D) (ci := 3) (v := .int v_exists) (C := RX3) (T := TX3) (N := 4) hx hb hL inlX3 hown hK.1 hP 0 rfl rfl 1 (by decide) w0 (fun _ h9 => h9) rfl dX3_readable_1 ?_
  refine lv_if_eq (tgt := 23) hx hb dX3_readable_4 (by decide) (fun c4 => ?_) (fun c4 => ?_)
  · have hf := pif_t c4 hf
    exact hB23 H locs ls hf hP hD hS (lv_sub hl [] rfl)
  · have hf := pif_f c4 hf
    refine lv_iload_n hx hb dX3_readable_7 rfl (lv_at hl 1 rfl) ?_
    refine lv_aload_n hx hb dX3_readable_8 rfl (lv_at hl 0 rfl) ?_
    refine va_get (D := D) (ci := 3) (v := .int v_lane) (C := RX3) (T := TX3) (N := 4) hx hb hL inlX3 hown hK.1 hP 0 rfl rfl 2 (by decide) w1 (fun _ h9 => h9) rfl dX3_readable_9 ?_
    refine lv_icmp_ne (tgt := 23) hx hb dX3_readable_12 (by decide) (fun c12 => ?_) (fun c12 => ?_)
    · have hf := pif_f c12 hf
      exact hB23 H locs ls hf hP hD hS (lv_sub hl [] rfl)
    · have hf := pif_t c12 hf
      refine lv_aload_n hx hb dX3_readable_15 rfl (lv_at hl 0 rfl) ?_
      refine lv_iload_n hx hb dX3_readable_16 rfl (lv_at hl 2 rfl) ?_
      obtain ⟨q17, e17, hf⟩ := pb_some hf
      refine cc_i (wc := [(h0, .inr (3, [.ref a_cells, .int v_exists, .int v_lane, .int v_length]))]) (wr := []) (w1 := [(h0, .inr (3, [.ref a_cells, .int v_exists, .int v_lane, .int v_length]))]) (wn := [(h0, .inr (3, [.ref a_cells, .int v_exists, .int v_lane, .int v_length]))]) hP hD hS hA [0] [] [0] rfl rfl rfl (by decide) rfl rfl (va_runV (C := RX3) (As := [.int x2]) (rest := []) ⟨hx, hb, hml, hown, hL⟩ (mX3_has l D cyI cyJ cyB cyS N H.size h0 a_cells v_exists v_lane v_length x2 q17 e17) (cwV 1 hL (gV (hR48 11 rfl) (hR47 13 rfl) (hR47 14 rfl) (hR2 16 rfl) (hR47 15 rfl)) rfl rfl rfl (by decide +kernel) ⟨Nat.le_of_ble_eq_true rfl, Nat.le_of_ble_eq_true rfl⟩) (PP_preV (ci := 3) (q0 := 0) hP hD hK [0] rfl rfl rfl rfl) rfl rfl hl.1 rfl (lv_room (Nat.le_of_ble_eq_true rfl)) dX3_readable_17 ⟨Nat.le_of_ble_eq_true rfl, Nat.le_of_ble_eq_true rfl⟩) (fun H locs hP hD hS => ?_)
      refine lv_if_ne (tgt := 25) hx hb dX3_readable_20 (by decide) (fun c20 => ?_) (fun c20 => ?_)
      · have hf := pif_f c20 hf
        refine lv_iload_n hx hb dX3_readable_25 rfl (lv_at hl 3 rfl) ?_
        refine lv_aload_n hx hb dX3_readable_26 rfl (lv_at hl 0 rfl) ?_
        refine va_get (D := D) (ci := 3) (v := .int v_length) (C := RX3) (T := TX3) (N := 4) hx hb hL inlX3 hown hK.1 hP 0 rfl rfl 3 (by decide) w2 (fun _ h9 => h9) rfl dX3_readable_27 ?_
        refine lv_iload_n hx hb dX3_readable_30 rfl (lv_at hl 2 rfl) ?_
        refine lv_isub hx hb dX3_readable_31 ?_
        refine va_mmin hx hb (hml.trans hl.1.symm) hown w3 w4 w5 w6 (Nat.le_of_ble_eq_true rfl) (Nat.le_of_ble_eq_true rfl) (Nat.zero_le _) (Nat.zero_le _) dX3_readable_32 ?_
        exact ret_i (q := q) (g := fun q => q) (wp := fun q => [(h0, .inr (3, [.ref a_cells, .int v_exists, .int v_lane, .int v_length]))]) hQ hf hx hb hr hlocks hP hD hS dX3_readable_35 rfl
      · have hf := pif_t c20 hf
        exact hB23 H locs ls hf hP hD hS (lv_sub hl [] rfl)
abbrev rmX3_machineFault : Room := { frames := 0, cells := 0, slots := 0, locals := 0 }
set_option maxHeartbeats 40000000 in
set_option maxRecDepth 100000 in
theorem mX3_machineFault (l : Launch) (D : va_G) (cyI cyJ cyB cyS : ClassId) (N : Nat) (sz : Nat) (h0 : Nat) (a_cells : Nat) (v_exists : Int32) (v_lane : Int32) (v_length : Int32) (x1 : Int32) (x2 : Int32) (x3 : Int32) (q : Int32) (hf : fX3_machineFault N v_exists v_lane x1 x2 x3 = some q) : Met l yX3_machineFault (wS yX3_machineFault cX3_machineFault 4 (some .int)) rmX3_machineFault (va_Pc [.ref h0, .int x1, .int x2, .int x3] (PP D cyI cyJ cyB cyS [(h0, .inr (3, [.ref a_cells, .int v_exists, .int v_lane, .int v_length]))] sz)) (QI q D [(h0, .inr (3, [.ref a_cells, .int v_exists, .int v_lane, .int v_length]))] (va_A [(h0, .inr (3, [.ref a_cells, .int v_exists, .int v_lane, .int v_length]))] sz)) 0 0 (va_A [(h0, .inr (3, [.ref a_cells, .int v_exists, .int v_lane, .int v_length]))] sz) := by
  refine Met.ofW (cc := cX3_machineFault) (maxL := 4) (ret := (some .int)) (by decide) rfl ?_
  intro p e s m args below meth c s₁ B hml hv
  obtain ⟨rfl, hsz, hP, hK, hD0⟩ := hv
  have hx := B.exec
  have hb := B.bytes
  have hr := B.returns
  have hts := atoms_spec (ws := (wS yX3_machineFault cX3_machineFault 4 (some .int))) B.pre
  have hown : s.vm.findClass RX3 = some m.cls := findClass_of_methodNamed B.named
  have hlocks := B.notSynchronized
  subst hsz
  have hD := hD0.self (sz := s.heap.size)
  refine w_nameQ (fun Q hQ => ?_)
  have hl := lv_entry ([.ref h0, .int x1, .int x2, .int x3] : List Value) (n := 4) (Nat.le_of_ble_eq_true rfl)
  rw [lg_entry_eq]
  generalize (lg_sl ([.ref h0, .int x1, .int x2, .int x3] : List Value) ++ List.replicate (4 - (lg_sl ([.ref h0, .int x1, .int x2, .int x3] : List Value)).length) Slot.unset).toArray = ls at hl ⊢
  have hl : lv_has ls 4 [(0, .ref h0), (1, .int x1), (2, .int x2), (3, .int x3)] := hl
  generalize hAe : va_A [(h0, .inr (3, [.ref a_cells, .int v_exists, .int v_lane, .int v_length]))] s.heap.size = A at hD hQ
  have hA : ∀ q : Nat, s.heap.size ≤ q → A q := fun q h => by rw [← hAe]; exact Or.inr h
  have hS : va_S A s.heap s.heap [] := va_S.rf
  generalize ([.ref h0, .int x1, .int x2, .int x3] : List Value).toArray = av at hts hQ ⊢
  have hL : ∀ w ∈ wsL_law, w.before av s = true := fun w h => hts w (List.mem_cons_of_mem _ h)
  have w0 := hL (.fieldLink RX3 15 "LosingLeague$Sheet" "exists" "Z") (hR46 23 rfl)
  have w1 := hL (.fieldLink RX3 19 "LosingLeague$Sheet" "lane" "I") (hR47 0 rfl)
  have hB29 : ∀ (s0 : Int32) (H : Heap) (locs : List Loc) (ls : Array Slot), fX3_machineFault_29 N v_exists v_lane x1 x2 x3 s0 = some q → va_P D vwCl [(h0, .inr (3, [.ref a_cells, .int v_exists, .int v_lane, .int v_length]))] H → va_D A [(h0, .inr (3, [.ref a_cells, .int v_exists, .int v_lane, .int v_length]))] → va_S A s.heap H locs → lv_has ls 4 [] → W p l e rmX3_machineFault s m av below meth c H locs 0 0 Q (F0 m 29 ls [.int s0]) := by
    intro s0 H locs ls hf hP hD hS hl
    unfold fX3_machineFault_29 at hf
    exact ret_i (q := q) (g := fun q => q) (wp := fun q => [(h0, .inr (3, [.ref a_cells, .int v_exists, .int v_lane, .int v_length]))]) hQ hf hx hb hr hlocks hP hD hS dX3_machineFault_29 rfl
  unfold fX3_machineFault at hf
  obtain ⟨H, hH⟩ : ∃ H : Heap, H = s.heap := ⟨_, rfl⟩
  obtain ⟨locs, hlo⟩ : ∃ locs : List Loc, locs = [] := ⟨_, rfl⟩
  have hP : va_P D vwCl [(h0, .inr (3, [.ref a_cells, .int v_exists, .int v_lane, .int v_length]))] H := by rw [hH]; exact hP
  have hS : va_S A s.heap H locs := by rw [hH, hlo]; exact hS
  suffices hw : W p l e rmX3_machineFault s m av below meth c H locs 0 0 Q (F0 m 0 ls []) by rw [hH, hlo] at hw; exact hw
  refine lv_iload_n hx hb dX3_machineFault_0 rfl (lv_at hl 2 rfl) ?_
  refine lv_iload_n hx hb dX3_machineFault_1 rfl (lv_at hl 3 rfl) ?_
  refine lv_icmp_lt (tgt := 7) hx hb dX3_machineFault_2 (by decide) (fun c2 => ?_) (fun c2 => ?_)
  · have hf := pif_t c2 hf
    refine lv_aload_n hx hb dX3_machineFault_7 rfl (lv_at hl 0 rfl) ?_
    refine va_get (D := D) (ci := 3) (v := .int v_exists) (C := RX3) (T := TX3) (N := 4) hx hb hL inlX3 hown hK.1 hP 0 rfl rfl 1 (by decide) w0 (fun _ h9 => h9) rfl dX3_machineFault_8 ?_
    refine lv_if_ne (tgt := 16) hx hb dX3_machineFault_11 (by decide) (fun c11 => ?_) (fun c11 => ?_)
    · have hf := pif_f c11 hf
      refine lv_iload_n hx hb dX3_machineFault_16 rfl (lv_at hl 1 rfl) ?_
      refine lv_aload_n hx hb dX3_machineFault_17 rfl (lv_at hl 0 rfl) ?_
      refine va_get (D := D) (ci := 3) (v := .int v_lane) (C := RX3) (T := TX3) (N := 4) hx hb hL inlX3 hown hK.1 hP 0 rfl rfl 2 (by decide) w1 (fun _ h9 => h9) rfl dX3_machineFault_18 ?_
      refine lv_icmp_eq (tgt := 28) hx hb dX3_machineFault_21 (by decide) (fun c21 => ?_) (fun c21 => ?_)
      · have hf := pif_t c21 hf
        refine lv_iconst (v := 2) hx hb dX3_machineFault_28 (by decide) ?_
        exact hB29 2 H locs ls hf hP hD hS (lv_sub hl [] rfl)
      · have hf := pif_f c21 hf
        refine lv_iconst (v := 3) hx hb dX3_machineFault_24 (by decide) ?_
        refine lv_goto (tgt := 29) hx hb dX3_machineFault_25 (by decide) ?_
        exact hB29 3 H locs ls hf hP hD hS (lv_sub hl [] rfl)
    · have hf := pif_t c11 hf
      refine lv_iconst (v := 1) hx hb dX3_machineFault_14 (by decide) ?_
      exact ret_i (q := q) (g := fun q => q) (wp := fun q => [(h0, .inr (3, [.ref a_cells, .int v_exists, .int v_lane, .int v_length]))]) hQ hf hx hb hr hlocks hP hD hS dX3_machineFault_15 rfl
  · have hf := pif_f c2 hf
    refine lv_iconst (v := 0) hx hb dX3_machineFault_5 (by decide) ?_
    exact ret_i (q := q) (g := fun q => q) (wp := fun q => [(h0, .inr (3, [.ref a_cells, .int v_exists, .int v_lane, .int v_length]))]) hQ hf hx hb hr hlocks hP hD hS dX3_machineFault_6 rfl
