def fX8_power_5 (N : Nat) (x0 : Int32) (x1 : Int32) : Nat → Int64 → Int32 → Option (Int64)
  | 0, _, _ => none
  | n + 1, x2, x4 => pif (x1 ≤ x4) (some x2) ((fX8_power_5 N x0 x1 n) (x2 * ((x0 : Int32).toInt64)) (x4 + 1))
def fX8_power (N : Nat) (x0 : Int32) (x1 : Int32) : Option (Int64) := fX8_power_5 N x0 x1 N 1 0
abbrev rmX8_power : Room := { frames := 0, cells := 0, slots := 0, locals := 0 }
set_option maxHeartbeats 40000000 in
set_option maxRecDepth 100000 in
theorem mX8_power (l : Launch) (D : va_G) (cyI cyJ cyB cyS : ClassId) (N : Nat) (sz : Nat)  (x0 : Int32) (x1 : Int32) (q : Int64) (hf : fX8_power N x0 x1 = some q) : Met l yX8_power (wS yX8_power cX8_power 5 (some .long)) rmX8_power (va_Pc [.int x0, .int x1] (PP D cyI cyJ cyB cyS [] sz)) (QL q D [] (va_A [] sz)) 0 0 (va_A [] sz) := by
  refine Met.ofW (cc := cX8_power) (maxL := 5) (ret := (some .long)) (by decide) rfl ?_
  intro p e s m args below meth c s₁ B hml hv
  obtain ⟨rfl, hsz, hP, hK, hD0⟩ := hv
  have hx := B.exec
  have hb := B.bytes
  have hr := B.returns
  have hts := atoms_spec (ws := (wS yX8_power cX8_power 5 (some .long))) B.pre
  have hown : s.vm.findClass RX8 = some m.cls := findClass_of_methodNamed B.named
  have hlocks := B.notSynchronized
  subst hsz
  have hD := hD0.self (sz := s.heap.size)
  refine w_nameQ (fun Q hQ => ?_)
  have hl := lv_entry ([.int x0, .int x1] : List Value) (n := 5) (Nat.le_of_ble_eq_true rfl)
  rw [lg_entry_eq]
  generalize (lg_sl ([.int x0, .int x1] : List Value) ++ List.replicate (5 - (lg_sl ([.int x0, .int x1] : List Value)).length) Slot.unset).toArray = ls at hl ⊢
  have hl : lv_has ls 5 [(0, .int x0), (1, .int x1)] := hl
  generalize hAe : va_A [] s.heap.size = A at hD hQ
  have hA : ∀ q : Nat, s.heap.size ≤ q → A q := fun q h => by rw [← hAe]; exact Or.inr h
  have hS : va_S A s.heap s.heap [] := va_S.rf
  generalize ([.int x0, .int x1] : List Value).toArray = av at hts hQ ⊢
  have hL : ∀ w ∈ wsL_law, w.before av s = true := fun w h => hts w (List.mem_cons_of_mem _ h)
  have hB5 : ∀ (n : Nat), ∀ (x2 : Int64) (x4 : Int32) (H : Heap) (locs : List Loc) (ls : Array Slot), fX8_power_5 N x0 x1 n x2 x4 = some q → va_P D vwCl [] H → va_D A [] → va_S A s.heap H locs → lv_has ls 5 [(0, .int x0), (1, .int x1), (2, .long x2), (4, .int x4)] → W p l e rmX8_power s m av below meth c H locs 0 0 Q (F0 m 5 ls []) := by
    intro n
    induction n with
    | zero => intro x2 x4 H locs ls hf; exact absurd hf (by simp [fX8_power_5])
    | succ n hk5 =>
      intro x2 x4 H locs ls hf hP hD hS hl
      rw [fX8_power_5] at hf
      refine lv_iload hx hb dX8_power_5 (lv_at hl 3 rfl) ?_
      refine lv_iload_n hx hb dX8_power_7 rfl (lv_at hl 1 rfl) ?_
      refine lv_icmp_ge (tgt := 22) hx hb dX8_power_8 (by decide) (fun c8 => ?_) (fun c8 => ?_)
      · have hf := pif_t c8 hf
        refine lv_lload_n hx hb dX8_power_22 rfl (lv_at hl 2 rfl) ?_
        exact ret_l (q := q) (g := fun q => q) (wp := fun q => []) hQ hf hx hb hr hlocks hP hD hS dX8_power_23 rfl
      · have hf := pif_f c8 hf
        refine lv_lload_n hx hb dX8_power_11 rfl (lv_at hl 2 rfl) ?_
        refine lv_iload_n hx hb dX8_power_12 rfl (lv_at hl 0 rfl) ?_
        refine lv_i2l hx hb dX8_power_13 rfl ?_
        refine lv_lmul hx hb dX8_power_14 ?_
        refine lv_lstore_n (lv' := [(2, .long (x2 * ((x0 : Int32).toInt64))), (0, .int x0), (1, .int x1), (4, .int x4)]) hx hb dX8_power_15 rfl hl (by decide) rfl (fun ls hl => ?_)
        refine lv_iinc (v := x4 + 1) (lv' := [(4, .int (x4 + 1)), (2, .long (x2 * ((x0 : Int32).toInt64))), (0, .int x0), (1, .int x1)]) hx hb dX8_power_16 hl (k := 3) rfl rfl (by decide) rfl (fun ls hl => ?_)
        refine lv_goto (tgt := 5) hx hb dX8_power_19 (by decide) ?_
        exact hk5 (x2 * ((x0 : Int32).toInt64)) (x4 + 1) H locs ls hf hP hD hS (lv_sub hl [2, 3, 1, 0] rfl)
  unfold fX8_power at hf
  obtain ⟨H, hH⟩ : ∃ H : Heap, H = s.heap := ⟨_, rfl⟩
  obtain ⟨locs, hlo⟩ : ∃ locs : List Loc, locs = [] := ⟨_, rfl⟩
  have hP : va_P D vwCl [] H := by rw [hH]; exact hP
  have hS : va_S A s.heap H locs := by rw [hH, hlo]; exact hS
  suffices hw : W p l e rmX8_power s m av below meth c H locs 0 0 Q (F0 m 0 ls []) by rw [hH, hlo] at hw; exact hw
  refine lv_lconst (v := 1) hx hb dX8_power_0 (by decide) ?_
  refine lv_lstore_n (lv' := [(2, .long 1), (0, .int x0), (1, .int x1)]) hx hb dX8_power_1 rfl hl (by decide) rfl (fun ls hl => ?_)
  refine lv_iconst (v := 0) hx hb dX8_power_2 (by decide) ?_
  refine lv_istore (lv' := [(4, .int 0), (2, .long 1), (0, .int x0), (1, .int x1)]) hx hb dX8_power_3 hl (by decide) rfl (fun ls hl => ?_)
  exact hB5 N 1 0 H locs ls hf hP hD hS (lv_sub hl [2, 3, 1, 0] rfl)
def fX8_restedOrMore_34 (N : Nat) (x0 : Int32) (x1 : Int32) (k8 : Int64 → Int64 → Int32 → Option (Int64)) (x2 : Int64) (x4 : Int64) (x6 : Int32) : Option (Int64) := pg (¬ ((x6 + 1 : Int32).toInt64) = 0) (k8 x2 ((x4 * ((x0 - x6 : Int32).toInt64)) / ((x6 + 1 : Int32).toInt64)) (x6 + 1))
def fX8_restedOrMore_8 (N : Nat) (x0 : Int32) (x1 : Int32) : Nat → Int64 → Int64 → Int32 → Option (Int64)
  | 0, _, _, _ => none
  | n + 1, x2, x4, x6 => pif (x0 < x6) (some x2) (pif (x6 < x1) (fX8_restedOrMore_34 N x0 x1 (fX8_restedOrMore_8 N x0 x1 n) x2 x4 x6) (pb (fX8_power N 5 (x0 - x6)) (fun q28 => fX8_restedOrMore_34 N x0 x1 (fX8_restedOrMore_8 N x0 x1 n) (x2 + (x4 * q28)) x4 x6)))
def fX8_restedOrMore (N : Nat) (x0 : Int32) (x1 : Int32) : Option (Int64) := fX8_restedOrMore_8 N x0 x1 N 0 1 0
abbrev rmX8_restedOrMore : Room := { frames := 1, cells := 0, slots := 0, locals := 24 }
set_option maxHeartbeats 40000000 in
set_option maxRecDepth 100000 in
theorem mX8_restedOrMore (l : Launch) (D : va_G) (cyI cyJ cyB cyS : ClassId) (N : Nat) (sz : Nat)  (x0 : Int32) (x1 : Int32) (q : Int64) (hf : fX8_restedOrMore N x0 x1 = some q) : Met l yX8_restedOrMore (wS yX8_restedOrMore cX8_restedOrMore 7 (some .long)) rmX8_restedOrMore (va_Pc [.int x0, .int x1] (PP D cyI cyJ cyB cyS [] sz)) (QL q D [] (va_A [] sz)) 0 0 (va_A [] sz) := by
  refine Met.ofW (cc := cX8_restedOrMore) (maxL := 7) (ret := (some .long)) (by decide) rfl ?_
  intro p e s m args below meth c s₁ B hml hv
  obtain ⟨rfl, hsz, hP, hK, hD0⟩ := hv
  have hx := B.exec
  have hb := B.bytes
  have hr := B.returns
  have hts := atoms_spec (ws := (wS yX8_restedOrMore cX8_restedOrMore 7 (some .long))) B.pre
  have hown : s.vm.findClass RX8 = some m.cls := findClass_of_methodNamed B.named
  have hlocks := B.notSynchronized
  subst hsz
  have hD := hD0.self (sz := s.heap.size)
  refine w_nameQ (fun Q hQ => ?_)
  have hl := lv_entry ([.int x0, .int x1] : List Value) (n := 7) (Nat.le_of_ble_eq_true rfl)
  rw [lg_entry_eq]
  generalize (lg_sl ([.int x0, .int x1] : List Value) ++ List.replicate (7 - (lg_sl ([.int x0, .int x1] : List Value)).length) Slot.unset).toArray = ls at hl ⊢
  have hl : lv_has ls 7 [(0, .int x0), (1, .int x1)] := hl
  generalize hAe : va_A [] s.heap.size = A at hD hQ
  have hA : ∀ q : Nat, s.heap.size ≤ q → A q := fun q h => by rw [← hAe]; exact Or.inr h
  have hS : va_S A s.heap s.heap [] := va_S.rf
  generalize ([.int x0, .int x1] : List Value).toArray = av at hts hQ ⊢
  have hL : ∀ w ∈ wsL_law, w.before av s = true := fun w h => hts w (List.mem_cons_of_mem _ h)
  have w0 := hL (.static yX8_power) (hR45 9 rfl)
  have hB34 : ∀ (k8 : Int64 → Int64 → Int32 → Option (Int64)) (hk8 : ∀ (x2 : Int64) (x4 : Int64) (x6 : Int32) (H : Heap) (locs : List Loc) (ls : Array Slot), k8 x2 x4 x6 = some q → va_P D vwCl [] H → va_D A [] → va_S A s.heap H locs → lv_has ls 7 [(0, .int x0), (1, .int x1), (2, .long x2), (4, .long x4), (6, .int x6)] → W p l e rmX8_restedOrMore s m av below meth c H locs 0 0 Q (F0 m 8 ls [])), ∀ (x2 : Int64) (x4 : Int64) (x6 : Int32) (H : Heap) (locs : List Loc) (ls : Array Slot), fX8_restedOrMore_34 N x0 x1 k8 x2 x4 x6 = some q → va_P D vwCl [] H → va_D A [] → va_S A s.heap H locs → lv_has ls 7 [(0, .int x0), (1, .int x1), (2, .long x2), (4, .long x4), (6, .int x6)] → W p l e rmX8_restedOrMore s m av below meth c H locs 0 0 Q (F0 m 34 ls []) := by
    intro k8 hk8 x2 x4 x6 H locs ls hf hP hD hS hl
    unfold fX8_restedOrMore_34 at hf
    refine lv_lload hx hb dX8_restedOrMore_34 (lv_at hl 3 rfl) ?_
    refine lv_iload_n hx hb dX8_restedOrMore_36 rfl (lv_at hl 0 rfl) ?_
    refine lv_iload hx hb dX8_restedOrMore_37 (lv_at hl 4 rfl) ?_
    refine lv_isub hx hb dX8_restedOrMore_39 ?_
    refine lv_i2l hx hb dX8_restedOrMore_40 rfl ?_
    refine lv_lmul hx hb dX8_restedOrMore_41 ?_
    refine lv_iload hx hb dX8_restedOrMore_42 (lv_at hl 4 rfl) ?_
    refine lv_iconst (v := 1) hx hb dX8_restedOrMore_44 (by decide) ?_
    refine lv_iadd hx hb dX8_restedOrMore_45 ?_
    refine lv_i2l hx hb dX8_restedOrMore_46 rfl ?_
    obtain ⟨n47, hf⟩ := pg_some hf
    refine lv_ldiv hx hb dX8_restedOrMore_47 n47 ?_
    refine lv_lstore (lv' := [(4, .long ((x4 * ((x0 - x6 : Int32).toInt64)) / ((x6 + 1 : Int32).toInt64))), (0, .int x0), (1, .int x1), (2, .long x2), (6, .int x6)]) hx hb dX8_restedOrMore_48 hl (by decide) rfl (fun ls hl => ?_)
    refine lv_iinc (v := x6 + 1) (lv' := [(6, .int (x6 + 1)), (4, .long ((x4 * ((x0 - x6 : Int32).toInt64)) / ((x6 + 1 : Int32).toInt64))), (0, .int x0), (1, .int x1), (2, .long x2)]) hx hb dX8_restedOrMore_50 hl (k := 4) rfl rfl (by decide) rfl (fun ls hl => ?_)
    refine lv_goto (tgt := 8) hx hb dX8_restedOrMore_53 (by decide) ?_
    exact hk8 x2 ((x4 * ((x0 - x6 : Int32).toInt64)) / ((x6 + 1 : Int32).toInt64)) (x6 + 1) H locs ls hf hP hD hS (lv_sub hl [2, 3, 4, 1, 0] rfl)
  have hB8 : ∀ (n : Nat), ∀ (x2 : Int64) (x4 : Int64) (x6 : Int32) (H : Heap) (locs : List Loc) (ls : Array Slot), fX8_restedOrMore_8 N x0 x1 n x2 x4 x6 = some q → va_P D vwCl [] H → va_D A [] → va_S A s.heap H locs → lv_has ls 7 [(0, .int x0), (1, .int x1), (2, .long x2), (4, .long x4), (6, .int x6)] → W p l e rmX8_restedOrMore s m av below meth c H locs 0 0 Q (F0 m 8 ls []) := by
    intro n
    induction n with
    | zero => intro x2 x4 x6 H locs ls hf; exact absurd hf (by simp [fX8_restedOrMore_8])
    | succ n hk8 =>
      intro x2 x4 x6 H locs ls hf hP hD hS hl
      rw [fX8_restedOrMore_8] at hf
      refine lv_iload hx hb dX8_restedOrMore_8 (lv_at hl 4 rfl) ?_
      refine lv_iload_n hx hb dX8_restedOrMore_10 rfl (lv_at hl 0 rfl) ?_
      refine lv_icmp_gt (tgt := 56) hx hb dX8_restedOrMore_11 (by decide) (fun c11 => ?_) (fun c11 => ?_)
      · have hf := pif_t c11 hf
        refine lv_lload_n hx hb dX8_restedOrMore_56 rfl (lv_at hl 2 rfl) ?_
        exact ret_l (q := q) (g := fun q => q) (wp := fun q => []) hQ hf hx hb hr hlocks hP hD hS dX8_restedOrMore_57 rfl
      · have hf := pif_f c11 hf
        refine lv_iload hx hb dX8_restedOrMore_14 (lv_at hl 4 rfl) ?_
        refine lv_iload_n hx hb dX8_restedOrMore_16 rfl (lv_at hl 1 rfl) ?_
        refine lv_icmp_lt (tgt := 34) hx hb dX8_restedOrMore_17 (by decide) (fun c17 => ?_) (fun c17 => ?_)
        · have hf := pif_t c17 hf
          exact hB34 (fX8_restedOrMore_8 N x0 x1 n) hk8 x2 x4 x6 H locs ls hf hP hD hS (lv_sub hl [0, 1, 2, 3, 4] rfl)
        · have hf := pif_f c17 hf
          refine lv_lload_n hx hb dX8_restedOrMore_20 rfl (lv_at hl 2 rfl) ?_
          refine lv_lload hx hb dX8_restedOrMore_21 (lv_at hl 3 rfl) ?_
          refine lv_iconst (v := 5) hx hb dX8_restedOrMore_23 (by decide) ?_
          refine lv_iload_n hx hb dX8_restedOrMore_24 rfl (lv_at hl 0 rfl) ?_
          refine lv_iload hx hb dX8_restedOrMore_25 (lv_at hl 4 rfl) ?_
          refine lv_isub hx hb dX8_restedOrMore_27 ?_
          obtain ⟨q28, e28, hf⟩ := pb_some hf
          refine cc_l (wc := []) (wr := []) (w1 := []) (wn := []) hP hD hS hA [] [] [] rfl rfl rfl (by decide) rfl rfl (va_runS (As := [.int 5, .int (x0 - x6)]) (rest := [.long x4, .long x2]) ⟨hx, hb, hml, hown, hL⟩ (mX8_power l D cyI cyJ cyB cyS N H.size   5 (x0 - x6) q28 e28) (va_cwS 2 hL (gS (hR45 8 rfl) (hR45 9 rfl) (hR1 2 rfl) (hR45 10 rfl)) rfl rfl rfl (by decide +kernel) ⟨Nat.le_of_ble_eq_true rfl, Nat.le_of_ble_eq_true rfl⟩) (PP_preS hP hD hK [] rfl rfl) rfl rfl hl.1 rfl (lv_room (Nat.le_of_ble_eq_true rfl)) dX8_restedOrMore_28 ⟨Nat.le_of_ble_eq_true rfl, Nat.le_of_ble_eq_true rfl⟩) (fun H locs hP hD hS => ?_)
          refine lv_lmul hx hb dX8_restedOrMore_31 ?_
          refine lv_ladd hx hb dX8_restedOrMore_32 ?_
          refine lv_lstore_n (lv' := [(2, .long (x2 + (x4 * q28))), (0, .int x0), (1, .int x1), (4, .long x4), (6, .int x6)]) hx hb dX8_restedOrMore_33 rfl hl (by decide) rfl (fun ls hl => ?_)
          exact hB34 (fX8_restedOrMore_8 N x0 x1 n) hk8 (x2 + (x4 * q28)) x4 x6 H locs ls hf hP hD hS (lv_sub hl [1, 2, 0, 3, 4] rfl)
  unfold fX8_restedOrMore at hf
  obtain ⟨H, hH⟩ : ∃ H : Heap, H = s.heap := ⟨_, rfl⟩
  obtain ⟨locs, hlo⟩ : ∃ locs : List Loc, locs = [] := ⟨_, rfl⟩
  have hP : va_P D vwCl [] H := by rw [hH]; exact hP
  have hS : va_S A s.heap H locs := by rw [hH, hlo]; exact hS
  suffices hw : W p l e rmX8_restedOrMore s m av below meth c H locs 0 0 Q (F0 m 0 ls []) by rw [hH, hlo] at hw; exact hw
  refine lv_lconst (v := 0) hx hb dX8_restedOrMore_0 (by decide) ?_
  refine lv_lstore_n (lv' := [(2, .long 0), (0, .int x0), (1, .int x1)]) hx hb dX8_restedOrMore_1 rfl hl (by decide) rfl (fun ls hl => ?_)
  refine lv_lconst (v := 1) hx hb dX8_restedOrMore_2 (by decide) ?_
  refine lv_lstore (lv' := [(4, .long 1), (2, .long 0), (0, .int x0), (1, .int x1)]) hx hb dX8_restedOrMore_3 hl (by decide) rfl (fun ls hl => ?_)
  refine lv_iconst (v := 0) hx hb dX8_restedOrMore_5 (by decide) ?_
  refine lv_istore (lv' := [(6, .int 0), (4, .long 1), (2, .long 0), (0, .int x0), (1, .int x1)]) hx hb dX8_restedOrMore_6 hl (by decide) rfl (fun ls hl => ?_)
  exact hB8 N 0 1 0 H locs ls hf hP hD hS (lv_sub hl [3, 4, 2, 1, 0] rfl)
def fX8_thumbs_27 (N : Nat) (x1 : Int32) (x2 : Int32) (x3 : Int32) : Option (Int64) := some (-1)
def fX8_thumbs (N : Nat) (x1 : Int32) (x2 : Int32) (x3 : Int32) : Option (Int64) := pif (x1 < 1) (fX8_thumbs_27 N x1 x2 x3) (pif (20 < x1) (fX8_thumbs_27 N x1 x2 x3) (pif (x2 < 0) (fX8_thumbs_27 N x1 x2 x3) (pif (x1 < x2) (fX8_thumbs_27 N x1 x2 x3) (pb (fX8_isPart N x3) (fun q21 => pif (q21 = 0) (fX8_thumbs_27 N x1 x2 x3) (pb (fX8_restedOrMore N x1 x2) (fun q33 => pb (fX8_power N 6 x1) (fun q39 => pb (fX8_part N q33 q39 x3) (fun q43 => some q43)))))))))
abbrev rmX8_thumbs : Room := { frames := 2, cells := 0, slots := 0, locals := 52 }
set_option maxHeartbeats 40000000 in
set_option maxRecDepth 100000 in
theorem mX8_thumbs (l : Launch) (D : va_G) (cyI cyJ cyB cyS : ClassId) (N : Nat) (sz : Nat) (h0 : Nat) (a_rules : Nat) (a_games : Nat) (a_standing : Nat) (a_reader : Nat) (a_tree : Nat) (a_course : Nat) (a_sheets : Nat) (v_textFault : Int32) (v_readFault : Int32) (x1 : Int32) (x2 : Int32) (x3 : Int32) (q : Int64) (hf : fX8_thumbs N x1 x2 x3 = some q) : Met l yX8_thumbs (wS yX8_thumbs cX8_thumbs 4 (some .long)) rmX8_thumbs (va_Pc [.ref h0, .int x1, .int x2, .int x3] (PP D cyI cyJ cyB cyS [(h0, .inr (8, [.ref a_rules, .ref a_games, .ref a_standing, .ref a_reader, .ref a_tree, .ref a_course, .ref a_sheets, .int v_textFault, .int v_readFault]))] sz)) (QL q D [(h0, .inr (8, [.ref a_rules, .ref a_games, .ref a_standing, .ref a_reader, .ref a_tree, .ref a_course, .ref a_sheets, .int v_textFault, .int v_readFault]))] (va_A [(h0, .inr (8, [.ref a_rules, .ref a_games, .ref a_standing, .ref a_reader, .ref a_tree, .ref a_course, .ref a_sheets, .int v_textFault, .int v_readFault]))] sz)) 0 0 (va_A [(h0, .inr (8, [.ref a_rules, .ref a_games, .ref a_standing, .ref a_reader, .ref a_tree, .ref a_course, .ref a_sheets, .int v_textFault, .int v_readFault]))] sz) := by
  refine Met.ofW (cc := cX8_thumbs) (maxL := 4) (ret := (some .long)) (by decide) rfl ?_
  intro p e s m args below meth c s₁ B hml hv
  obtain ⟨rfl, hsz, hP, hK, hD0⟩ := hv
  have hx := B.exec
  have hb := B.bytes
  have hr := B.returns
  have hts := atoms_spec (ws := (wS yX8_thumbs cX8_thumbs 4 (some .long))) B.pre
  have hown : s.vm.findClass RX8 = some m.cls := findClass_of_methodNamed B.named
  have hlocks := B.notSynchronized
  subst hsz
  have hD := hD0.self (sz := s.heap.size)
  refine w_nameQ (fun Q hQ => ?_)
  have hl := lv_entry ([.ref h0, .int x1, .int x2, .int x3] : List Value) (n := 4) (Nat.le_of_ble_eq_true rfl)
  rw [lg_entry_eq]
  generalize (lg_sl ([.ref h0, .int x1, .int x2, .int x3] : List Value) ++ List.replicate (4 - (lg_sl ([.ref h0, .int x1, .int x2, .int x3] : List Value)).length) Slot.unset).toArray = ls at hl ⊢
  have hl : lv_has ls 4 [(0, .ref h0), (1, .int x1), (2, .int x2), (3, .int x3)] := hl
  generalize hAe : va_A [(h0, .inr (8, [.ref a_rules, .ref a_games, .ref a_standing, .ref a_reader, .ref a_tree, .ref a_course, .ref a_sheets, .int v_textFault, .int v_readFault]))] s.heap.size = A at hD hQ
  have hA : ∀ q : Nat, s.heap.size ≤ q → A q := fun q h => by rw [← hAe]; exact Or.inr h
  have hS : va_S A s.heap s.heap [] := va_S.rf
  generalize ([.ref h0, .int x1, .int x2, .int x3] : List Value).toArray = av at hts hQ ⊢
  have hL : ∀ w ∈ wsL_law, w.before av s = true := fun w h => hts w (List.mem_cons_of_mem _ h)
  have w0 := hL (.constantLong RX8 215 (-1)) (hR33 15 rfl)
  have w1 := hL (.static yX8_isPart) (hR30 10 rfl)
  have w2 := hL (.static yX8_restedOrMore) (hR45 6 rfl)
  have w3 := hL (.static yX8_power) (hR45 9 rfl)
  have w4 := hL (.static yX8_part) (hR32 11 rfl)
  have hB27 : ∀ (H : Heap) (locs : List Loc) (ls : Array Slot), fX8_thumbs_27 N x1 x2 x3 = some q → va_P D vwCl [(h0, .inr (8, [.ref a_rules, .ref a_games, .ref a_standing, .ref a_reader, .ref a_tree, .ref a_course, .ref a_sheets, .int v_textFault, .int v_readFault]))] H → va_D A [(h0, .inr (8, [.ref a_rules, .ref a_games, .ref a_standing, .ref a_reader, .ref a_tree, .ref a_course, .ref a_sheets, .int v_textFault, .int v_readFault]))] → va_S A s.heap H locs → lv_has ls 4 [] → W p l e rmX8_thumbs s m av below meth c H locs 0 0 Q (F0 m 27 ls []) := by
    intro  H locs ls hf hP hD hS hl
    unfold fX8_thumbs_27 at hf
    refine lv_ldc2 (v := (-1)) hx hb hown w0 dX8_thumbs_27 ?_
    exact ret_l (q := q) (g := fun q => q) (wp := fun q => [(h0, .inr (8, [.ref a_rules, .ref a_games, .ref a_standing, .ref a_reader, .ref a_tree, .ref a_course, .ref a_sheets, .int v_textFault, .int v_readFault]))]) hQ hf hx hb hr hlocks hP hD hS dX8_thumbs_30 rfl
  unfold fX8_thumbs at hf
  obtain ⟨H, hH⟩ : ∃ H : Heap, H = s.heap := ⟨_, rfl⟩
  obtain ⟨locs, hlo⟩ : ∃ locs : List Loc, locs = [] := ⟨_, rfl⟩
  have hP : va_P D vwCl [(h0, .inr (8, [.ref a_rules, .ref a_games, .ref a_standing, .ref a_reader, .ref a_tree, .ref a_course, .ref a_sheets, .int v_textFault, .int v_readFault]))] H := by rw [hH]; exact hP
  have hS : va_S A s.heap H locs := by rw [hH, hlo]; exact hS
  suffices hw : W p l e rmX8_thumbs s m av below meth c H locs 0 0 Q (F0 m 0 ls []) by rw [hH, hlo] at hw; exact hw
  refine lv_iload_n hx hb dX8_thumbs_0 rfl (lv_at hl 1 rfl) ?_
  refine lv_iconst (v := 1) hx hb dX8_thumbs_1 (by decide) ?_
  refine lv_icmp_lt (tgt := 27) hx hb dX8_thumbs_2 (by decide) (fun c2 => ?_) (fun c2 => ?_)
  · have hf := pif_t c2 hf
    exact hB27 H locs ls hf hP hD hS (lv_sub hl [] rfl)
  · have hf := pif_f c2 hf
    refine lv_iload_n hx hb dX8_thumbs_5 rfl (lv_at hl 1 rfl) ?_
    refine lv_bipush (v := 20) hx hb dX8_thumbs_6 (by decide) ?_
    refine lv_icmp_gt (tgt := 27) hx hb dX8_thumbs_8 (by decide) (fun c8 => ?_) (fun c8 => ?_)
    · have hf := pif_t c8 hf
      exact hB27 H locs ls hf hP hD hS (lv_sub hl [] rfl)
    · have hf := pif_f c8 hf
      refine lv_iload_n hx hb dX8_thumbs_11 rfl (lv_at hl 2 rfl) ?_
      refine lv_if_lt (tgt := 27) hx hb dX8_thumbs_12 (by decide) (fun c12 => ?_) (fun c12 => ?_)
      · have hf := pif_t c12 hf
        exact hB27 H locs ls hf hP hD hS (lv_sub hl [] rfl)
      · have hf := pif_f c12 hf
        refine lv_iload_n hx hb dX8_thumbs_15 rfl (lv_at hl 2 rfl) ?_
        refine lv_iload_n hx hb dX8_thumbs_16 rfl (lv_at hl 1 rfl) ?_
        refine lv_icmp_gt (tgt := 27) hx hb dX8_thumbs_17 (by decide) (fun c17 => ?_) (fun c17 => ?_)
        · have hf := pif_t c17 hf
          exact hB27 H locs ls hf hP hD hS (lv_sub hl [] rfl)
        · have hf := pif_f c17 hf
          refine lv_iload_n hx hb dX8_thumbs_20 rfl (lv_at hl 3 rfl) ?_
          obtain ⟨q21, e21, hf⟩ := pb_some hf
          refine cc_i (wc := []) (wr := [(h0, .inr (8, [.ref a_rules, .ref a_games, .ref a_standing, .ref a_reader, .ref a_tree, .ref a_course, .ref a_sheets, .int v_textFault, .int v_readFault]))]) (w1 := []) (wn := [(h0, .inr (8, [.ref a_rules, .ref a_games, .ref a_standing, .ref a_reader, .ref a_tree, .ref a_course, .ref a_sheets, .int v_textFault, .int v_readFault]))]) hP hD hS hA [] [0] [0] rfl rfl rfl (by decide) rfl rfl (va_runS (As := [.int x3]) (rest := []) ⟨hx, hb, hml, hown, hL⟩ (mX8_isPart l D cyI cyJ cyB cyS N H.size   x3 q21 e21) (va_cwS 1 hL (gS (hR30 9 rfl) (hR30 10 rfl) (hR1 2 rfl) (hR30 11 rfl)) rfl rfl rfl (by decide +kernel) ⟨Nat.le_of_ble_eq_true rfl, Nat.le_of_ble_eq_true rfl⟩) (PP_preS hP hD hK [] rfl rfl) rfl rfl hl.1 rfl (lv_room (Nat.le_of_ble_eq_true rfl)) dX8_thumbs_21 ⟨Nat.le_of_ble_eq_true rfl, Nat.le_of_ble_eq_true rfl⟩) (fun H locs hP hD hS => ?_)
          refine lv_if_ne (tgt := 31) hx hb dX8_thumbs_24 (by decide) (fun c24 => ?_) (fun c24 => ?_)
          · have hf := pif_f c24 hf
            refine lv_iload_n hx hb dX8_thumbs_31 rfl (lv_at hl 1 rfl) ?_
            refine lv_iload_n hx hb dX8_thumbs_32 rfl (lv_at hl 2 rfl) ?_
            obtain ⟨q33, e33, hf⟩ := pb_some hf
            refine cc_l (wc := []) (wr := [(h0, .inr (8, [.ref a_rules, .ref a_games, .ref a_standing, .ref a_reader, .ref a_tree, .ref a_course, .ref a_sheets, .int v_textFault, .int v_readFault]))]) (w1 := []) (wn := [(h0, .inr (8, [.ref a_rules, .ref a_games, .ref a_standing, .ref a_reader, .ref a_tree, .ref a_course, .ref a_sheets, .int v_textFault, .int v_readFault]))]) hP hD hS hA [] [0] [0] rfl rfl rfl (by decide) rfl rfl (va_runS (As := [.int x1, .int x2]) (rest := []) ⟨hx, hb, hml, hown, hL⟩ (mX8_restedOrMore l D cyI cyJ cyB cyS N H.size   x1 x2 q33 e33) (va_cwS 2 hL (gS (hR45 5 rfl) (hR45 6 rfl) (hR1 2 rfl) (hR45 7 rfl)) rfl rfl rfl (by decide +kernel) ⟨Nat.le_of_ble_eq_true rfl, Nat.le_of_ble_eq_true rfl⟩) (PP_preS hP hD hK [] rfl rfl) rfl rfl hl.1 rfl (lv_room (Nat.le_of_ble_eq_true rfl)) dX8_thumbs_33 ⟨Nat.le_of_ble_eq_true rfl, Nat.le_of_ble_eq_true rfl⟩) (fun H locs hP hD hS => ?_)
            refine lv_bipush (v := 6) hx hb dX8_thumbs_36 (by decide) ?_
            refine lv_iload_n hx hb dX8_thumbs_38 rfl (lv_at hl 1 rfl) ?_
            obtain ⟨q39, e39, hf⟩ := pb_some hf
            refine cc_l (wc := []) (wr := [(h0, .inr (8, [.ref a_rules, .ref a_games, .ref a_standing, .ref a_reader, .ref a_tree, .ref a_course, .ref a_sheets, .int v_textFault, .int v_readFault]))]) (w1 := []) (wn := [(h0, .inr (8, [.ref a_rules, .ref a_games, .ref a_standing, .ref a_reader, .ref a_tree, .ref a_course, .ref a_sheets, .int v_textFault, .int v_readFault]))]) hP hD hS hA [] [0] [0] rfl rfl rfl (by decide) rfl rfl (va_runS (As := [.int 6, .int x1]) (rest := [.long q33]) ⟨hx, hb, hml, hown, hL⟩ (mX8_power l D cyI cyJ cyB cyS N H.size   6 x1 q39 e39) (va_cwS 2 hL (gS (hR45 8 rfl) (hR45 9 rfl) (hR1 2 rfl) (hR45 10 rfl)) rfl rfl rfl (by decide +kernel) ⟨Nat.le_of_ble_eq_true rfl, Nat.le_of_ble_eq_true rfl⟩) (PP_preS hP hD hK [] rfl rfl) rfl rfl hl.1 rfl (lv_room (Nat.le_of_ble_eq_true rfl)) dX8_thumbs_39 ⟨Nat.le_of_ble_eq_true rfl, Nat.le_of_ble_eq_true rfl⟩) (fun H locs hP hD hS => ?_)
            refine lv_iload_n hx hb dX8_thumbs_42 rfl (lv_at hl 3 rfl) ?_
            obtain ⟨q43, e43, hf⟩ := pb_some hf
            refine cc_l (wc := []) (wr := [(h0, .inr (8, [.ref a_rules, .ref a_games, .ref a_standing, .ref a_reader, .ref a_tree, .ref a_course, .ref a_sheets, .int v_textFault, .int v_readFault]))]) (w1 := []) (wn := [(h0, .inr (8, [.ref a_rules, .ref a_games, .ref a_standing, .ref a_reader, .ref a_tree, .ref a_course, .ref a_sheets, .int v_textFault, .int v_readFault]))]) hP hD hS hA [] [0] [0] rfl rfl rfl (by decide) rfl rfl (va_runS (As := [.long q33, .long q39, .int x3]) (rest := []) ⟨hx, hb, hml, hown, hL⟩ (mX8_part l D cyI cyJ cyB cyS N H.size   q33 q39 x3 q43 e43) (va_cwS 3 hL (gS (hR32 10 rfl) (hR32 11 rfl) (hR1 2 rfl) (hR32 12 rfl)) rfl rfl rfl (by decide +kernel) ⟨Nat.le_of_ble_eq_true rfl, Nat.le_of_ble_eq_true rfl⟩) (PP_preS hP hD hK [] rfl rfl) rfl rfl hl.1 rfl (lv_room (Nat.le_of_ble_eq_true rfl)) dX8_thumbs_43 ⟨Nat.le_of_ble_eq_true rfl, Nat.le_of_ble_eq_true rfl⟩) (fun H locs hP hD hS => ?_)
            exact ret_l (q := q) (g := fun q => q) (wp := fun q => [(h0, .inr (8, [.ref a_rules, .ref a_games, .ref a_standing, .ref a_reader, .ref a_tree, .ref a_course, .ref a_sheets, .int v_textFault, .int v_readFault]))]) hQ hf hx hb hr hlocks hP hD hS dX8_thumbs_46 rfl
          · have hf := pif_t c24 hf
            exact hB27 H locs ls hf hP hD hS (lv_sub hl [] rfl)
def fX8_fine_23 (N : Nat) (x1 : Int32) (x2 : Int32) : Option (Int32) := some (-1)
def fX8_fine_35 (N : Nat) (x1 : Int32) (x2 : Int32) : Nat → Int64 → Int32 → Option (Int32)
  | 0, _, _ => none
  | n + 1, x3, x5 => pif (x1 < x5) (some (-4)) (pb (fX8_restedOrMore N x1 x5) (fun q44 => pif (0 < (lg_cmp (q44 * ((x2 : Int32).toInt64)) x3)) ((fX8_fine_35 N x1 x2 n) x3 (x5 + 1)) (some x5)))
def fX8_fine (N : Nat) (x1 : Int32) (x2 : Int32) : Option (Int32) := pif (x1 < 1) (fX8_fine_23 N x1 x2) (pif (20 < x1) (fX8_fine_23 N x1 x2) (pif (x2 < 2) (fX8_fine_23 N x1 x2) (pif (x2 ≤ 1000) (pb (fX8_power N 6 x1) (fun q28 => fX8_fine_35 N x1 x2 N q28 0)) (fX8_fine_23 N x1 x2))))
abbrev rmX8_fine : Room := { frames := 2, cells := 0, slots := 0, locals := 50 }
set_option maxHeartbeats 40000000 in
set_option maxRecDepth 100000 in
theorem mX8_fine (l : Launch) (D : va_G) (cyI cyJ cyB cyS : ClassId) (N : Nat) (sz : Nat) (h0 : Nat) (a_rules : Nat) (a_games : Nat) (a_standing : Nat) (a_reader : Nat) (a_tree : Nat) (a_course : Nat) (a_sheets : Nat) (v_textFault : Int32) (v_readFault : Int32) (x1 : Int32) (x2 : Int32) (q : Int32) (hf : fX8_fine N x1 x2 = some q) : Met l yX8_fine (wS yX8_fine cX8_fine 6 (some .int)) rmX8_fine (va_Pc [.ref h0, .int x1, .int x2] (PP D cyI cyJ cyB cyS [(h0, .inr (8, [.ref a_rules, .ref a_games, .ref a_standing, .ref a_reader, .ref a_tree, .ref a_course, .ref a_sheets, .int v_textFault, .int v_readFault]))] sz)) (QI q D [(h0, .inr (8, [.ref a_rules, .ref a_games, .ref a_standing, .ref a_reader, .ref a_tree, .ref a_course, .ref a_sheets, .int v_textFault, .int v_readFault]))] (va_A [(h0, .inr (8, [.ref a_rules, .ref a_games, .ref a_standing, .ref a_reader, .ref a_tree, .ref a_course, .ref a_sheets, .int v_textFault, .int v_readFault]))] sz)) 0 0 (va_A [(h0, .inr (8, [.ref a_rules, .ref a_games, .ref a_standing, .ref a_reader, .ref a_tree, .ref a_course, .ref a_sheets, .int v_textFault, .int v_readFault]))] sz) := by
  refine Met.ofW (cc := cX8_fine) (maxL := 6) (ret := (some .int)) (by decide) rfl ?_
  intro p e s m args below meth c s₁ B hml hv
  obtain ⟨rfl, hsz, hP, hK, hD0⟩ := hv
  have hx := B.exec
  have hb := B.bytes
  have hr := B.returns
  have hts := atoms_spec (ws := (wS yX8_fine cX8_fine 6 (some .int))) B.pre
  have hown : s.vm.findClass RX8 = some m.cls := findClass_of_methodNamed B.named
  have hlocks := B.notSynchronized
  subst hsz
  have hD := hD0.self (sz := s.heap.size)
  refine w_nameQ (fun Q hQ => ?_)
  have hl := lv_entry ([.ref h0, .int x1, .int x2] : List Value) (n := 6) (Nat.le_of_ble_eq_true rfl)
  rw [lg_entry_eq]
  generalize (lg_sl ([.ref h0, .int x1, .int x2] : List Value) ++ List.replicate (6 - (lg_sl ([.ref h0, .int x1, .int x2] : List Value)).length) Slot.unset).toArray = ls at hl ⊢
  have hl : lv_has ls 6 [(0, .ref h0), (1, .int x1), (2, .int x2)] := hl
  generalize hAe : va_A [(h0, .inr (8, [.ref a_rules, .ref a_games, .ref a_standing, .ref a_reader, .ref a_tree, .ref a_course, .ref a_sheets, .int v_textFault, .int v_readFault]))] s.heap.size = A at hD hQ
  have hA : ∀ q : Nat, s.heap.size ≤ q → A q := fun q h => by rw [← hAe]; exact Or.inr h
  have hS : va_S A s.heap s.heap [] := va_S.rf
  generalize ([.ref h0, .int x1, .int x2] : List Value).toArray = av at hts hQ ⊢
  have hL : ∀ w ∈ wsL_law, w.before av s = true := fun w h => hts w (List.mem_cons_of_mem _ h)
  have w0 := hL (.static yX8_restedOrMore) (hR45 6 rfl)
  have w1 := hL (.static yX8_power) (hR45 9 rfl)
  have hB23 : ∀ (H : Heap) (locs : List Loc) (ls : Array Slot), fX8_fine_23 N x1 x2 = some q → va_P D vwCl [(h0, .inr (8, [.ref a_rules, .ref a_games, .ref a_standing, .ref a_reader, .ref a_tree, .ref a_course, .ref a_sheets, .int v_textFault, .int v_readFault]))] H → va_D A [(h0, .inr (8, [.ref a_rules, .ref a_games, .ref a_standing, .ref a_reader, .ref a_tree, .ref a_course, .ref a_sheets, .int v_textFault, .int v_readFault]))] → va_S A s.heap H locs → lv_has ls 6 [] → W p l e rmX8_fine s m av below meth c H locs 0 0 Q (F0 m 23 ls []) := by
    intro  H locs ls hf hP hD hS hl
    unfold fX8_fine_23 at hf
    refine lv_iconst (v := (-1)) hx hb dX8_fine_23 (by decide) ?_
    exact ret_i (q := q) (g := fun q => q) (wp := fun q => [(h0, .inr (8, [.ref a_rules, .ref a_games, .ref a_standing, .ref a_reader, .ref a_tree, .ref a_course, .ref a_sheets, .int v_textFault, .int v_readFault]))]) hQ hf hx hb hr hlocks hP hD hS dX8_fine_24 rfl
  have hB35 : ∀ (n : Nat), ∀ (x3 : Int64) (x5 : Int32) (H : Heap) (locs : List Loc) (ls : Array Slot), fX8_fine_35 N x1 x2 n x3 x5 = some q → va_P D vwCl [(h0, .inr (8, [.ref a_rules, .ref a_games, .ref a_standing, .ref a_reader, .ref a_tree, .ref a_course, .ref a_sheets, .int v_textFault, .int v_readFault]))] H → va_D A [(h0, .inr (8, [.ref a_rules, .ref a_games, .ref a_standing, .ref a_reader, .ref a_tree, .ref a_course, .ref a_sheets, .int v_textFault, .int v_readFault]))] → va_S A s.heap H locs → lv_has ls 6 [(1, .int x1), (2, .int x2), (3, .long x3), (5, .int x5)] → W p l e rmX8_fine s m av below meth c H locs 0 0 Q (F0 m 35 ls []) := by
    intro n
    induction n with
    | zero => intro x3 x5 H locs ls hf; exact absurd hf (by simp [fX8_fine_35])
    | succ n hk35 =>
      intro x3 x5 H locs ls hf hP hD hS hl
      rw [fX8_fine_35] at hf
      refine lv_iload hx hb dX8_fine_35 (lv_at hl 3 rfl) ?_
      refine lv_iload_n hx hb dX8_fine_37 rfl (lv_at hl 0 rfl) ?_
      refine lv_icmp_gt (tgt := 64) hx hb dX8_fine_38 (by decide) (fun c38 => ?_) (fun c38 => ?_)
      · have hf := pif_t c38 hf
        refine lv_bipush (v := (-4)) hx hb dX8_fine_64 (by decide) ?_
        exact ret_i (q := q) (g := fun q => q) (wp := fun q => [(h0, .inr (8, [.ref a_rules, .ref a_games, .ref a_standing, .ref a_reader, .ref a_tree, .ref a_course, .ref a_sheets, .int v_textFault, .int v_readFault]))]) hQ hf hx hb hr hlocks hP hD hS dX8_fine_66 rfl
      · have hf := pif_f c38 hf
        refine lv_iload_n hx hb dX8_fine_41 rfl (lv_at hl 0 rfl) ?_
        refine lv_iload hx hb dX8_fine_42 (lv_at hl 3 rfl) ?_
        obtain ⟨q44, e44, hf⟩ := pb_some hf
        refine cc_l (wc := []) (wr := [(h0, .inr (8, [.ref a_rules, .ref a_games, .ref a_standing, .ref a_reader, .ref a_tree, .ref a_course, .ref a_sheets, .int v_textFault, .int v_readFault]))]) (w1 := []) (wn := [(h0, .inr (8, [.ref a_rules, .ref a_games, .ref a_standing, .ref a_reader, .ref a_tree, .ref a_course, .ref a_sheets, .int v_textFault, .int v_readFault]))]) hP hD hS hA [] [0] [0] rfl rfl rfl (by decide) rfl rfl (va_runS (As := [.int x1, .int x5]) (rest := []) ⟨hx, hb, hml, hown, hL⟩ (mX8_restedOrMore l D cyI cyJ cyB cyS N H.size   x1 x5 q44 e44) (va_cwS 2 hL (gS (hR45 5 rfl) (hR45 6 rfl) (hR1 2 rfl) (hR45 7 rfl)) rfl rfl rfl (by decide +kernel) ⟨Nat.le_of_ble_eq_true rfl, Nat.le_of_ble_eq_true rfl⟩) (PP_preS hP hD hK [] rfl rfl) rfl rfl hl.1 rfl (lv_room (Nat.le_of_ble_eq_true rfl)) dX8_fine_44 ⟨Nat.le_of_ble_eq_true rfl, Nat.le_of_ble_eq_true rfl⟩) (fun H locs hP hD hS => ?_)
        refine lv_iload_n hx hb dX8_fine_47 rfl (lv_at hl 1 rfl) ?_
        refine lv_i2l hx hb dX8_fine_48 rfl ?_
        refine lv_lmul hx hb dX8_fine_49 ?_
        refine lv_lload_n hx hb dX8_fine_50 rfl (lv_at hl 2 rfl) ?_
        refine W.lcmp hx hb dX8_fine_51 ?_
        refine lv_if_gt (tgt := 58) hx hb dX8_fine_52 (by decide) (fun c52 => ?_) (fun c52 => ?_)
        · have hf := pif_t c52 hf
          refine lv_iinc (v := x5 + 1) (lv' := [(5, .int (x5 + 1)), (1, .int x1), (2, .int x2), (3, .long x3)]) hx hb dX8_fine_58 hl (k := 3) rfl rfl (by decide) rfl (fun ls hl => ?_)
          refine lv_goto (tgt := 35) hx hb dX8_fine_61 (by decide) ?_
          exact hk35 x3 (x5 + 1) H locs ls hf hP hD hS (lv_sub hl [1, 2, 3, 0] rfl)
        · have hf := pif_f c52 hf
          refine lv_iload hx hb dX8_fine_55 (lv_at hl 3 rfl) ?_
          exact ret_i (q := q) (g := fun q => q) (wp := fun q => [(h0, .inr (8, [.ref a_rules, .ref a_games, .ref a_standing, .ref a_reader, .ref a_tree, .ref a_course, .ref a_sheets, .int v_textFault, .int v_readFault]))]) hQ hf hx hb hr hlocks hP hD hS dX8_fine_57 rfl
  unfold fX8_fine at hf
  obtain ⟨H, hH⟩ : ∃ H : Heap, H = s.heap := ⟨_, rfl⟩
  obtain ⟨locs, hlo⟩ : ∃ locs : List Loc, locs = [] := ⟨_, rfl⟩
  have hP : va_P D vwCl [(h0, .inr (8, [.ref a_rules, .ref a_games, .ref a_standing, .ref a_reader, .ref a_tree, .ref a_course, .ref a_sheets, .int v_textFault, .int v_readFault]))] H := by rw [hH]; exact hP
  have hS : va_S A s.heap H locs := by rw [hH, hlo]; exact hS
  suffices hw : W p l e rmX8_fine s m av below meth c H locs 0 0 Q (F0 m 0 ls []) by rw [hH, hlo] at hw; exact hw
  refine lv_iload_n hx hb dX8_fine_0 rfl (lv_at hl 1 rfl) ?_
  refine lv_iconst (v := 1) hx hb dX8_fine_1 (by decide) ?_
  refine lv_icmp_lt (tgt := 23) hx hb dX8_fine_2 (by decide) (fun c2 => ?_) (fun c2 => ?_)
  · have hf := pif_t c2 hf
    exact hB23 H locs ls hf hP hD hS (lv_sub hl [] rfl)
  · have hf := pif_f c2 hf
    refine lv_iload_n hx hb dX8_fine_5 rfl (lv_at hl 1 rfl) ?_
    refine lv_bipush (v := 20) hx hb dX8_fine_6 (by decide) ?_
    refine lv_icmp_gt (tgt := 23) hx hb dX8_fine_8 (by decide) (fun c8 => ?_) (fun c8 => ?_)
    · have hf := pif_t c8 hf
      exact hB23 H locs ls hf hP hD hS (lv_sub hl [] rfl)
    · have hf := pif_f c8 hf
      refine lv_iload_n hx hb dX8_fine_11 rfl (lv_at hl 2 rfl) ?_
      refine lv_iconst (v := 2) hx hb dX8_fine_12 (by decide) ?_
      refine lv_icmp_lt (tgt := 23) hx hb dX8_fine_13 (by decide) (fun c13 => ?_) (fun c13 => ?_)
      · have hf := pif_t c13 hf
        exact hB23 H locs ls hf hP hD hS (lv_sub hl [] rfl)
      · have hf := pif_f c13 hf
        refine lv_iload_n hx hb dX8_fine_16 rfl (lv_at hl 2 rfl) ?_
        refine lv_sipush (v := 1000) hx hb dX8_fine_17 (by decide) ?_
        refine lv_icmp_le (tgt := 25) hx hb dX8_fine_20 (by decide) (fun c20 => ?_) (fun c20 => ?_)
        · have hf := pif_t c20 hf
          refine lv_bipush (v := 6) hx hb dX8_fine_25 (by decide) ?_
          refine lv_iload_n hx hb dX8_fine_27 rfl (lv_at hl 1 rfl) ?_
          obtain ⟨q28, e28, hf⟩ := pb_some hf
          refine cc_l (wc := []) (wr := [(h0, .inr (8, [.ref a_rules, .ref a_games, .ref a_standing, .ref a_reader, .ref a_tree, .ref a_course, .ref a_sheets, .int v_textFault, .int v_readFault]))]) (w1 := []) (wn := [(h0, .inr (8, [.ref a_rules, .ref a_games, .ref a_standing, .ref a_reader, .ref a_tree, .ref a_course, .ref a_sheets, .int v_textFault, .int v_readFault]))]) hP hD hS hA [] [0] [0] rfl rfl rfl (by decide) rfl rfl (va_runS (As := [.int 6, .int x1]) (rest := []) ⟨hx, hb, hml, hown, hL⟩ (mX8_power l D cyI cyJ cyB cyS N H.size   6 x1 q28 e28) (va_cwS 2 hL (gS (hR45 8 rfl) (hR45 9 rfl) (hR1 2 rfl) (hR45 10 rfl)) rfl rfl rfl (by decide +kernel) ⟨Nat.le_of_ble_eq_true rfl, Nat.le_of_ble_eq_true rfl⟩) (PP_preS hP hD hK [] rfl rfl) rfl rfl hl.1 rfl (lv_room (Nat.le_of_ble_eq_true rfl)) dX8_fine_28 ⟨Nat.le_of_ble_eq_true rfl, Nat.le_of_ble_eq_true rfl⟩) (fun H locs hP hD hS => ?_)
          refine lv_lstore_n (lv' := [(3, .long q28), (0, .ref h0), (1, .int x1), (2, .int x2)]) hx hb dX8_fine_31 rfl hl (by decide) rfl (fun ls hl => ?_)
          refine lv_iconst (v := 0) hx hb dX8_fine_32 (by decide) ?_
          refine lv_istore (lv' := [(5, .int 0), (3, .long q28), (0, .ref h0), (1, .int x1), (2, .int x2)]) hx hb dX8_fine_33 hl (by decide) rfl (fun ls hl => ?_)
          exact hB35 N q28 0 H locs ls hf hP hD hS (lv_sub hl [3, 4, 1, 0] rfl)
        · have hf := pif_f c20 hf
          exact hB23 H locs ls hf hP hD hS (lv_sub hl [] rfl)
def fX8_torn (N : Nat) (v_readFault : Int32) : Option (Int32) := some v_readFault
abbrev rmX8_torn : Room := { frames := 0, cells := 0, slots := 0, locals := 0 }
set_option maxHeartbeats 40000000 in
set_option maxRecDepth 100000 in
theorem mX8_torn (l : Launch) (D : va_G) (cyI cyJ cyB cyS : ClassId) (N : Nat) (sz : Nat) (h0 : Nat) (a_rules : Nat) (a_games : Nat) (a_standing : Nat) (a_reader : Nat) (a_tree : Nat) (a_course : Nat) (a_sheets : Nat) (v_textFault : Int32) (v_readFault : Int32) (q : Int32) (hf : fX8_torn N v_readFault = some q) : Met l yX8_torn (wS yX8_torn cX8_torn 1 (some .int)) rmX8_torn (va_Pc [.ref h0] (PP D cyI cyJ cyB cyS [(h0, .inr (8, [.ref a_rules, .ref a_games, .ref a_standing, .ref a_reader, .ref a_tree, .ref a_course, .ref a_sheets, .int v_textFault, .int v_readFault]))] sz)) (QI q D [(h0, .inr (8, [.ref a_rules, .ref a_games, .ref a_standing, .ref a_reader, .ref a_tree, .ref a_course, .ref a_sheets, .int v_textFault, .int v_readFault]))] (va_A [(h0, .inr (8, [.ref a_rules, .ref a_games, .ref a_standing, .ref a_reader, .ref a_tree, .ref a_course, .ref a_sheets, .int v_textFault, .int v_readFault]))] sz)) 0 0 (va_A [(h0, .inr (8, [.ref a_rules, .ref a_games, .ref a_standing, .ref a_reader, .ref a_tree, .ref a_course, .ref a_sheets, .int v_textFault, .int v_readFault]))] sz) := by
  refine Met.ofW (cc := cX8_torn) (maxL := 1) (ret := (some .int)) (by decide) rfl ?_
  intro p e s m args below meth c s₁ B hml hv
  obtain ⟨rfl, hsz, hP, hK, hD0⟩ := hv
  have hx := B.exec
  have hb := B.bytes
  have hr := B.returns
  have hts := atoms_spec (ws := (wS yX8_torn cX8_torn 1 (some .int))) B.pre
  have hown : s.vm.findClass RX8 = some m.cls := findClass_of_methodNamed B.named
  have hlocks := B.notSynchronized
  subst hsz
  have hD := hD0.self (sz := s.heap.size)
  refine w_nameQ (fun Q hQ => ?_)
  have hl := lv_entry ([.ref h0] : List Value) (n := 1) (Nat.le_of_ble_eq_true rfl)
  rw [lg_entry_eq]
  generalize (lg_sl ([.ref h0] : List Value) ++ List.replicate (1 - (lg_sl ([.ref h0] : List Value)).length) Slot.unset).toArray = ls at hl ⊢
  have hl : lv_has ls 1 [(0, .ref h0)] := hl
  generalize hAe : va_A [(h0, .inr (8, [.ref a_rules, .ref a_games, .ref a_standing, .ref a_reader, .ref a_tree, .ref a_course, .ref a_sheets, .int v_textFault, .int v_readFault]))] s.heap.size = A at hD hQ
  have hA : ∀ q : Nat, s.heap.size ≤ q → A q := fun q h => by rw [← hAe]; exact Or.inr h
  have hS : va_S A s.heap s.heap [] := va_S.rf
  generalize ([.ref h0] : List Value).toArray = av at hts hQ ⊢
  have hL : ∀ w ∈ wsL_law, w.before av s = true := fun w h => hts w (List.mem_cons_of_mem _ h)
  have w0 := hL (.fieldLink RX8 336 "LosingLeague" "readFault" "I") (hR48 5 rfl)
  unfold fX8_torn at hf
  obtain ⟨H, hH⟩ : ∃ H : Heap, H = s.heap := ⟨_, rfl⟩
  obtain ⟨locs, hlo⟩ : ∃ locs : List Loc, locs = [] := ⟨_, rfl⟩
  have hP : va_P D vwCl [(h0, .inr (8, [.ref a_rules, .ref a_games, .ref a_standing, .ref a_reader, .ref a_tree, .ref a_course, .ref a_sheets, .int v_textFault, .int v_readFault]))] H := by rw [hH]; exact hP
  have hS : va_S A s.heap H locs := by rw [hH, hlo]; exact hS
  suffices hw : W p l e rmX8_torn s m av below meth c H locs 0 0 Q (F0 m 0 ls []) by rw [hH, hlo] at hw; exact hw
  refine lv_aload_n hx hb dX8_torn_0 rfl (lv_at hl 0 rfl) ?_
  refine va_get (D := D) (ci := 8) (v := .int v_readFault) (C := RX8) (T := TX8) (N := 9) hx hb hL inlX8 hown hK.1 hP 0 rfl rfl 8 (by decide) w0 (fun _ h9 => h9) rfl dX8_torn_1 ?_
  exact ret_i (q := q) (g := fun q => q) (wp := fun q => [(h0, .inr (8, [.ref a_rules, .ref a_games, .ref a_standing, .ref a_reader, .ref a_tree, .ref a_course, .ref a_sheets, .int v_textFault, .int v_readFault]))]) hQ hf hx hb hr hlocks hP hD hS dX8_torn_4 rfl
def fX8_isSheet_14 (N : Nat) (x0 : Int32) (s0 : Int32) : Option (Int32) := pg (isB s0) (some s0)
def fX8_isSheet_13 (N : Nat) (x0 : Int32) : Option (Int32) := fX8_isSheet_14 N x0 0
def fX8_isSheet (N : Nat) (x0 : Int32) : Option (Int32) := pif (x0 < 0) (fX8_isSheet_13 N x0) (pif (4 ≤ x0) (fX8_isSheet_13 N x0) (fX8_isSheet_14 N x0 1))
abbrev rmX8_isSheet : Room := { frames := 0, cells := 0, slots := 0, locals := 0 }
set_option maxHeartbeats 40000000 in
set_option maxRecDepth 100000 in
theorem mX8_isSheet (l : Launch) (D : va_G) (cyI cyJ cyB cyS : ClassId) (N : Nat) (sz : Nat)  (x0 : Int32) (q : Int32) (hf : fX8_isSheet N x0 = some q) : Met l yX8_isSheet (wS yX8_isSheet cX8_isSheet 1 (some .boolean)) rmX8_isSheet (va_Pc [.int x0] (PP D cyI cyJ cyB cyS [] sz)) (QI q D [] (va_A [] sz)) 0 0 (va_A [] sz) := by
  refine Met.ofW (cc := cX8_isSheet) (maxL := 1) (ret := (some .boolean)) (by decide) rfl ?_
  intro p e s m args below meth c s₁ B hml hv
  obtain ⟨rfl, hsz, hP, hK, hD0⟩ := hv
  have hx := B.exec
  have hb := B.bytes
  have hr := B.returns
  have hts := atoms_spec (ws := (wS yX8_isSheet cX8_isSheet 1 (some .boolean))) B.pre
  have hown : s.vm.findClass RX8 = some m.cls := findClass_of_methodNamed B.named
  have hlocks := B.notSynchronized
  subst hsz
  have hD := hD0.self (sz := s.heap.size)
  refine w_nameQ (fun Q hQ => ?_)
  have hl := lv_entry ([.int x0] : List Value) (n := 1) (Nat.le_of_ble_eq_true rfl)
  rw [lg_entry_eq]
  generalize (lg_sl ([.int x0] : List Value) ++ List.replicate (1 - (lg_sl ([.int x0] : List Value)).length) Slot.unset).toArray = ls at hl ⊢
  have hl : lv_has ls 1 [(0, .int x0)] := hl
  generalize hAe : va_A [] s.heap.size = A at hD hQ
  have hA : ∀ q : Nat, s.heap.size ≤ q → A q := fun q h => by rw [← hAe]; exact Or.inr h
  have hS : va_S A s.heap s.heap [] := va_S.rf
  generalize ([.int x0] : List Value).toArray = av at hts hQ ⊢
  have hL : ∀ w ∈ wsL_law, w.before av s = true := fun w h => hts w (List.mem_cons_of_mem _ h)
  have hB14 : ∀ (s0 : Int32) (H : Heap) (locs : List Loc) (ls : Array Slot), fX8_isSheet_14 N x0 s0 = some q → va_P D vwCl [] H → va_D A [] → va_S A s.heap H locs → lv_has ls 1 [] → W p l e rmX8_isSheet s m av below meth c H locs 0 0 Q (F0 m 14 ls [.int s0]) := by
    intro s0 H locs ls hf hP hD hS hl
    unfold fX8_isSheet_14 at hf
    obtain ⟨n14, hf⟩ := pg_some hf
    exact ret_z (q := q) (g := fun q => q) (wp := fun q => []) hQ hf hx hb hr hlocks (isB_n n14) hP hD hS dX8_isSheet_14 rfl
  have hB13 : ∀ (H : Heap) (locs : List Loc) (ls : Array Slot), fX8_isSheet_13 N x0 = some q → va_P D vwCl [] H → va_D A [] → va_S A s.heap H locs → lv_has ls 1 [] → W p l e rmX8_isSheet s m av below meth c H locs 0 0 Q (F0 m 13 ls []) := by
    intro  H locs ls hf hP hD hS hl
    unfold fX8_isSheet_13 at hf
    refine lv_iconst (v := 0) hx hb dX8_isSheet_13 (by decide) ?_
    exact hB14 0 H locs ls hf hP hD hS (lv_sub hl [] rfl)
  unfold fX8_isSheet at hf
  obtain ⟨H, hH⟩ : ∃ H : Heap, H = s.heap := ⟨_, rfl⟩
  obtain ⟨locs, hlo⟩ : ∃ locs : List Loc, locs = [] := ⟨_, rfl⟩
  have hP : va_P D vwCl [] H := by rw [hH]; exact hP
  have hS : va_S A s.heap H locs := by rw [hH, hlo]; exact hS
  suffices hw : W p l e rmX8_isSheet s m av below meth c H locs 0 0 Q (F0 m 0 ls []) by rw [hH, hlo] at hw; exact hw
  refine lv_iload_n hx hb dX8_isSheet_0 rfl (lv_at hl 0 rfl) ?_
  refine lv_if_lt (tgt := 13) hx hb dX8_isSheet_1 (by decide) (fun c1 => ?_) (fun c1 => ?_)
  · have hf := pif_t c1 hf
    exact hB13 H locs ls hf hP hD hS (lv_sub hl [] rfl)
  · have hf := pif_f c1 hf
    refine lv_iload_n hx hb dX8_isSheet_4 rfl (lv_at hl 0 rfl) ?_
    refine lv_iconst (v := 4) hx hb dX8_isSheet_5 (by decide) ?_
    refine lv_icmp_ge (tgt := 13) hx hb dX8_isSheet_6 (by decide) (fun c6 => ?_) (fun c6 => ?_)
    · have hf := pif_t c6 hf
      exact hB13 H locs ls hf hP hD hS (lv_sub hl [] rfl)
    · have hf := pif_f c6 hf
      refine lv_iconst (v := 1) hx hb dX8_isSheet_9 (by decide) ?_
      refine lv_goto (tgt := 14) hx hb dX8_isSheet_10 (by decide) ?_
      exact hB14 1 H locs ls hf hP hD hS (lv_sub hl [] rfl)
def fX8_isLane_14 (N : Nat) (x0 : Int32) (s0 : Int32) : Option (Int32) := pg (isB s0) (some s0)
def fX8_isLane_13 (N : Nat) (x0 : Int32) : Option (Int32) := fX8_isLane_14 N x0 0
def fX8_isLane (N : Nat) (x0 : Int32) : Option (Int32) := pif (x0 < 0) (fX8_isLane_13 N x0) (pif (3 ≤ x0) (fX8_isLane_13 N x0) (fX8_isLane_14 N x0 1))
abbrev rmX8_isLane : Room := { frames := 0, cells := 0, slots := 0, locals := 0 }
set_option maxHeartbeats 40000000 in
set_option maxRecDepth 100000 in
theorem mX8_isLane (l : Launch) (D : va_G) (cyI cyJ cyB cyS : ClassId) (N : Nat) (sz : Nat)  (x0 : Int32) (q : Int32) (hf : fX8_isLane N x0 = some q) : Met l yX8_isLane (wS yX8_isLane cX8_isLane 1 (some .boolean)) rmX8_isLane (va_Pc [.int x0] (PP D cyI cyJ cyB cyS [] sz)) (QI q D [] (va_A [] sz)) 0 0 (va_A [] sz) := by
  refine Met.ofW (cc := cX8_isLane) (maxL := 1) (ret := (some .boolean)) (by decide) rfl ?_
  intro p e s m args below meth c s₁ B hml hv
  obtain ⟨rfl, hsz, hP, hK, hD0⟩ := hv
  have hx := B.exec
  have hb := B.bytes
  have hr := B.returns
  have hts := atoms_spec (ws := (wS yX8_isLane cX8_isLane 1 (some .boolean))) B.pre
  have hown : s.vm.findClass RX8 = some m.cls := findClass_of_methodNamed B.named
  have hlocks := B.notSynchronized
  subst hsz
  have hD := hD0.self (sz := s.heap.size)
  refine w_nameQ (fun Q hQ => ?_)
  have hl := lv_entry ([.int x0] : List Value) (n := 1) (Nat.le_of_ble_eq_true rfl)
  rw [lg_entry_eq]
  generalize (lg_sl ([.int x0] : List Value) ++ List.replicate (1 - (lg_sl ([.int x0] : List Value)).length) Slot.unset).toArray = ls at hl ⊢
  have hl : lv_has ls 1 [(0, .int x0)] := hl
  generalize hAe : va_A [] s.heap.size = A at hD hQ
  have hA : ∀ q : Nat, s.heap.size ≤ q → A q := fun q h => by rw [← hAe]; exact Or.inr h
  have hS : va_S A s.heap s.heap [] := va_S.rf
  generalize ([.int x0] : List Value).toArray = av at hts hQ ⊢
  have hL : ∀ w ∈ wsL_law, w.before av s = true := fun w h => hts w (List.mem_cons_of_mem _ h)
  have hB14 : ∀ (s0 : Int32) (H : Heap) (locs : List Loc) (ls : Array Slot), fX8_isLane_14 N x0 s0 = some q → va_P D vwCl [] H → va_D A [] → va_S A s.heap H locs → lv_has ls 1 [] → W p l e rmX8_isLane s m av below meth c H locs 0 0 Q (F0 m 14 ls [.int s0]) := by
    intro s0 H locs ls hf hP hD hS hl
    unfold fX8_isLane_14 at hf
    obtain ⟨n14, hf⟩ := pg_some hf
    exact ret_z (q := q) (g := fun q => q) (wp := fun q => []) hQ hf hx hb hr hlocks (isB_n n14) hP hD hS dX8_isLane_14 rfl
  have hB13 : ∀ (H : Heap) (locs : List Loc) (ls : Array Slot), fX8_isLane_13 N x0 = some q → va_P D vwCl [] H → va_D A [] → va_S A s.heap H locs → lv_has ls 1 [] → W p l e rmX8_isLane s m av below meth c H locs 0 0 Q (F0 m 13 ls []) := by
    intro  H locs ls hf hP hD hS hl
    unfold fX8_isLane_13 at hf
    refine lv_iconst (v := 0) hx hb dX8_isLane_13 (by decide) ?_
    exact hB14 0 H locs ls hf hP hD hS (lv_sub hl [] rfl)
  unfold fX8_isLane at hf
  obtain ⟨H, hH⟩ : ∃ H : Heap, H = s.heap := ⟨_, rfl⟩
  obtain ⟨locs, hlo⟩ : ∃ locs : List Loc, locs = [] := ⟨_, rfl⟩
  have hP : va_P D vwCl [] H := by rw [hH]; exact hP
  have hS : va_S A s.heap H locs := by rw [hH, hlo]; exact hS
  suffices hw : W p l e rmX8_isLane s m av below meth c H locs 0 0 Q (F0 m 0 ls []) by rw [hH, hlo] at hw; exact hw
  refine lv_iload_n hx hb dX8_isLane_0 rfl (lv_at hl 0 rfl) ?_
  refine lv_if_lt (tgt := 13) hx hb dX8_isLane_1 (by decide) (fun c1 => ?_) (fun c1 => ?_)
  · have hf := pif_t c1 hf
    exact hB13 H locs ls hf hP hD hS (lv_sub hl [] rfl)
  · have hf := pif_f c1 hf
    refine lv_iload_n hx hb dX8_isLane_4 rfl (lv_at hl 0 rfl) ?_
    refine lv_iconst (v := 3) hx hb dX8_isLane_5 (by decide) ?_
    refine lv_icmp_ge (tgt := 13) hx hb dX8_isLane_6 (by decide) (fun c6 => ?_) (fun c6 => ?_)
    · have hf := pif_t c6 hf
      exact hB13 H locs ls hf hP hD hS (lv_sub hl [] rfl)
    · have hf := pif_f c6 hf
      refine lv_iconst (v := 1) hx hb dX8_isLane_9 (by decide) ?_
      refine lv_goto (tgt := 14) hx hb dX8_isLane_10 (by decide) ?_
      exact hB14 1 H locs ls hf hP hD hS (lv_sub hl [] rfl)
def fX8_takeEnds_58 (N : Nat) (c_p1_cells : Nat → Int32) (x2 : Int32) (x3 : Int32) (x4 : Int32) (k6 : Int32 → Int32 → (Nat → Int32) → Option (Int32 × (Nat → Int32))) (x5 : Int32) (x6 : Int32) (c_games_ending : Nat → Int32) : Option (Int32 × (Nat → Int32)) := k6 x5 (x6 + 1) c_games_ending
def fX8_takeEnds_6 (N : Nat) (c_p1_cells : Nat → Int32) (x2 : Int32) (x3 : Int32) (x4 : Int32) : Nat → Int32 → Int32 → (Nat → Int32) → Option (Int32 × (Nat → Int32))
  | 0, _, _, _ => none
  | n + 1, x5, x6, c_games_ending => pif (x4 ≤ x6) (some (x5, c_games_ending)) (pg (inr (x2 + x6) 40) (pg (inr (x3 + x6) 30) (pif ((c_games_ending (x3 + x6).toNatClampNeg) = (c_p1_cells (x2 + x6).toNatClampNeg)) (fX8_takeEnds_58 N c_p1_cells x2 x3 x4 (fX8_takeEnds_6 N c_p1_cells x2 x3 x4 n) x5 x6 c_games_ending) (pg (inr (x3 + x6) 30) (fX8_takeEnds_58 N c_p1_cells x2 x3 x4 (fX8_takeEnds_6 N c_p1_cells x2 x3 x4 n) (x5 + 1) x6 (upd c_games_ending (x3 + x6).toNatClampNeg (c_p1_cells (x2 + x6).toNatClampNeg)))))))
def fX8_takeEnds (N : Nat) (c_games_ending : Nat → Int32) (c_p1_cells : Nat → Int32) (x2 : Int32) (x3 : Int32) (x4 : Int32) : Option (Int32 × (Nat → Int32)) := fX8_takeEnds_6 N c_p1_cells x2 x3 x4 N 0 0 c_games_ending
abbrev rmX8_takeEnds : Room := { frames := 0, cells := 0, slots := 0, locals := 0 }
set_option maxHeartbeats 40000000 in
set_option maxRecDepth 100000 in
theorem mX8_takeEnds (l : Launch) (D : va_G) (cyI cyJ cyB cyS : ClassId) (N : Nat) (sz : Nat) (h0 : Nat) (a_games : Nat) (a_games_ending : Nat) (a_p1 : Nat) (a_p1_cells : Nat) (a_rules : Nat) (a_standing : Nat) (a_reader : Nat) (a_tree : Nat) (a_course : Nat) (a_sheets : Nat) (a_games_first : Nat) (a_games_second : Nat) (v_textFault : Int32) (v_readFault : Int32) (v_games_size : Int32) (c_games_ending : Nat → Int32) (v_p1_exists : Int32) (v_p1_lane : Int32) (v_p1_length : Int32) (c_p1_cells : Nat → Int32) (x2 : Int32) (x3 : Int32) (x4 : Int32) (q : Int32 × (Nat → Int32)) (hf : fX8_takeEnds N c_games_ending c_p1_cells x2 x3 x4 = some q) : Met l yX8_takeEnds (wS yX8_takeEnds cX8_takeEnds 8 (some .int)) rmX8_takeEnds (va_Pc [.ref h0, .ref a_p1, .int x2, .int x3, .int x4] (PP D cyI cyJ cyB cyS [(h0, .inr (8, [.ref a_rules, .ref a_games, .ref a_standing, .ref a_reader, .ref a_tree, .ref a_course, .ref a_sheets, .int v_textFault, .int v_readFault])), (a_games, .inr (0, [.ref a_games_first, .ref a_games_second, .ref a_games_ending, .int v_games_size])), (a_games_ending, .inl (cyI, 30, .inl c_games_ending)), (a_p1, .inr (3, [.ref a_p1_cells, .int v_p1_exists, .int v_p1_lane, .int v_p1_length])), (a_p1_cells, .inl (cyI, 40, .inl c_p1_cells))] sz)) (QI q.1 D [(h0, .inr (8, [.ref a_rules, .ref a_games, .ref a_standing, .ref a_reader, .ref a_tree, .ref a_course, .ref a_sheets, .int v_textFault, .int v_readFault])), (a_games, .inr (0, [.ref a_games_first, .ref a_games_second, .ref a_games_ending, .int v_games_size])), (a_games_ending, .inl (cyI, 30, .inl q.2)), (a_p1, .inr (3, [.ref a_p1_cells, .int v_p1_exists, .int v_p1_lane, .int v_p1_length])), (a_p1_cells, .inl (cyI, 40, .inl c_p1_cells))] (va_A [(h0, .inr (8, [.ref a_rules, .ref a_games, .ref a_standing, .ref a_reader, .ref a_tree, .ref a_course, .ref a_sheets, .int v_textFault, .int v_readFault])), (a_games, .inr (0, [.ref a_games_first, .ref a_games_second, .ref a_games_ending, .int v_games_size])), (a_games_ending, .inl (cyI, 30, .inl c_games_ending)), (a_p1, .inr (3, [.ref a_p1_cells, .int v_p1_exists, .int v_p1_lane, .int v_p1_length])), (a_p1_cells, .inl (cyI, 40, .inl c_p1_cells))] sz)) 0 0 (va_A [(h0, .inr (8, [.ref a_rules, .ref a_games, .ref a_standing, .ref a_reader, .ref a_tree, .ref a_course, .ref a_sheets, .int v_textFault, .int v_readFault])), (a_games, .inr (0, [.ref a_games_first, .ref a_games_second, .ref a_games_ending, .int v_games_size])), (a_games_ending, .inl (cyI, 30, .inl c_games_ending)), (a_p1, .inr (3, [.ref a_p1_cells, .int v_p1_exists, .int v_p1_lane, .int v_p1_length])), (a_p1_cells, .inl (cyI, 40, .inl c_p1_cells))] sz) := by
  refine Met.ofW (cc := cX8_takeEnds) (maxL := 8) (ret := (some .int)) (by decide) rfl ?_
  intro p e s m args below meth c s₁ B hml hv
  obtain ⟨rfl, hsz, hP, hK, hD0⟩ := hv
  have hx := B.exec
  have hb := B.bytes
  have hr := B.returns
  have hts := atoms_spec (ws := (wS yX8_takeEnds cX8_takeEnds 8 (some .int))) B.pre
  have hown : s.vm.findClass RX8 = some m.cls := findClass_of_methodNamed B.named
  have hlocks := B.notSynchronized
  subst hsz
  have hD := hD0.self (sz := s.heap.size)
  refine w_nameQ (fun Q hQ => ?_)
  have hl := lv_entry ([.ref h0, .ref a_p1, .int x2, .int x3, .int x4] : List Value) (n := 8) (Nat.le_of_ble_eq_true rfl)
  rw [lg_entry_eq]
  generalize (lg_sl ([.ref h0, .ref a_p1, .int x2, .int x3, .int x4] : List Value) ++ List.replicate (8 - (lg_sl ([.ref h0, .ref a_p1, .int x2, .int x3, .int x4] : List Value)).length) Slot.unset).toArray = ls at hl ⊢
  have hl : lv_has ls 8 [(0, .ref h0), (1, .ref a_p1), (2, .int x2), (3, .int x3), (4, .int x4)] := hl
  generalize hAe : va_A [(h0, .inr (8, [.ref a_rules, .ref a_games, .ref a_standing, .ref a_reader, .ref a_tree, .ref a_course, .ref a_sheets, .int v_textFault, .int v_readFault])), (a_games, .inr (0, [.ref a_games_first, .ref a_games_second, .ref a_games_ending, .int v_games_size])), (a_games_ending, .inl (cyI, 30, .inl c_games_ending)), (a_p1, .inr (3, [.ref a_p1_cells, .int v_p1_exists, .int v_p1_lane, .int v_p1_length])), (a_p1_cells, .inl (cyI, 40, .inl c_p1_cells))] s.heap.size = A at hD hQ
  have hA : ∀ q : Nat, s.heap.size ≤ q → A q := fun q h => by rw [← hAe]; exact Or.inr h
  have hS : va_S A s.heap s.heap [] := va_S.rf
  generalize ([.ref h0, .ref a_p1, .int x2, .int x3, .int x4] : List Value).toArray = av at hts hQ ⊢
  have hL : ∀ w ∈ wsL_law, w.before av s = true := fun w h => hts w (List.mem_cons_of_mem _ h)
  have w0 := hL (.fieldLink RX8 330 "LosingLeague$Sheet" "cells" "[I") (hR48 4 rfl)
  have w1 := hL (.fieldLink RX8 19 "LosingLeague" "games" "LLosingLeague$Games;") (hR1 20 rfl)
  have w2 := hL (.fieldLink RX8 147 "LosingLeague$Games" "ending" "[I") (hR20 14 rfl)
  have hB58 : ∀ (k6 : Int32 → Int32 → (Nat → Int32) → Option (Int32 × (Nat → Int32))) (hk6 : ∀ (x5 : Int32) (x6 : Int32) (c_games_ending : Nat → Int32) (H : Heap) (locs : List Loc) (ls : Array Slot), k6 x5 x6 c_games_ending = some q → va_P D vwCl [(h0, .inr (8, [.ref a_rules, .ref a_games, .ref a_standing, .ref a_reader, .ref a_tree, .ref a_course, .ref a_sheets, .int v_textFault, .int v_readFault])), (a_games, .inr (0, [.ref a_games_first, .ref a_games_second, .ref a_games_ending, .int v_games_size])), (a_games_ending, .inl (cyI, 30, .inl c_games_ending)), (a_p1, .inr (3, [.ref a_p1_cells, .int v_p1_exists, .int v_p1_lane, .int v_p1_length])), (a_p1_cells, .inl (cyI, 40, .inl c_p1_cells))] H → va_D A [(h0, .inr (8, [.ref a_rules, .ref a_games, .ref a_standing, .ref a_reader, .ref a_tree, .ref a_course, .ref a_sheets, .int v_textFault, .int v_readFault])), (a_games, .inr (0, [.ref a_games_first, .ref a_games_second, .ref a_games_ending, .int v_games_size])), (a_games_ending, .inl (cyI, 30, .inl c_games_ending)), (a_p1, .inr (3, [.ref a_p1_cells, .int v_p1_exists, .int v_p1_lane, .int v_p1_length])), (a_p1_cells, .inl (cyI, 40, .inl c_p1_cells))] → va_S A s.heap H locs → lv_has ls 8 [(0, .ref h0), (1, .ref a_p1), (2, .int x2), (3, .int x3), (4, .int x4), (5, .int x5), (6, .int x6)] → W p l e rmX8_takeEnds s m av below meth c H locs 0 0 Q (F0 m 6 ls [])), ∀ (x5 : Int32) (x6 : Int32) (c_games_ending : Nat → Int32) (H : Heap) (locs : List Loc) (ls : Array Slot), fX8_takeEnds_58 N c_p1_cells x2 x3 x4 k6 x5 x6 c_games_ending = some q → va_P D vwCl [(h0, .inr (8, [.ref a_rules, .ref a_games, .ref a_standing, .ref a_reader, .ref a_tree, .ref a_course, .ref a_sheets, .int v_textFault, .int v_readFault])), (a_games, .inr (0, [.ref a_games_first, .ref a_games_second, .ref a_games_ending, .int v_games_size])), (a_games_ending, .inl (cyI, 30, .inl c_games_ending)), (a_p1, .inr (3, [.ref a_p1_cells, .int v_p1_exists, .int v_p1_lane, .int v_p1_length])), (a_p1_cells, .inl (cyI, 40, .inl c_p1_cells))] H → va_D A [(h0, .inr (8, [.ref a_rules, .ref a_games, .ref a_standing, .ref a_reader, .ref a_tree, .ref a_course, .ref a_sheets, .int v_textFault, .int v_readFault])), (a_games, .inr (0, [.ref a_games_first, .ref a_games_second, .ref a_games_ending, .int v_games_size])), (a_games_ending, .inl (cyI, 30, .inl c_games_ending)), (a_p1, .inr (3, [.ref a_p1_cells, .int v_p1_exists, .int v_p1_lane, .int v_p1_length])), (a_p1_cells, .inl (cyI, 40, .inl c_p1_cells))] → va_S A s.heap H locs → lv_has ls 8 [(0, .ref h0), (1, .ref a_p1), (2, .int x2), (3, .int x3), (4, .int x4), (5, .int x5), (6, .int x6)] → W p l e rmX8_takeEnds s m av below meth c H locs 0 0 Q (F0 m 58 ls []) := by
    intro k6 hk6 x5 x6 c_games_ending H locs ls hf hP hD hS hl
    unfold fX8_takeEnds_58 at hf
    refine lv_iinc (v := x6 + 1) (lv' := [(6, .int (x6 + 1)), (0, .ref h0), (1, .ref a_p1), (2, .int x2), (3, .int x3), (4, .int x4), (5, .int x5)]) hx hb dX8_takeEnds_58 hl (k := 6) rfl rfl (by decide) rfl (fun ls hl => ?_)
    refine lv_goto (tgt := 6) hx hb dX8_takeEnds_61 (by decide) ?_
    exact hk6 x5 (x6 + 1) c_games_ending H locs ls hf hP hD hS (lv_sub hl [1, 2, 3, 4, 5, 6, 0] rfl)
  have hB6 : ∀ (n : Nat), ∀ (x5 : Int32) (x6 : Int32) (c_games_ending : Nat → Int32) (H : Heap) (locs : List Loc) (ls : Array Slot), fX8_takeEnds_6 N c_p1_cells x2 x3 x4 n x5 x6 c_games_ending = some q → va_P D vwCl [(h0, .inr (8, [.ref a_rules, .ref a_games, .ref a_standing, .ref a_reader, .ref a_tree, .ref a_course, .ref a_sheets, .int v_textFault, .int v_readFault])), (a_games, .inr (0, [.ref a_games_first, .ref a_games_second, .ref a_games_ending, .int v_games_size])), (a_games_ending, .inl (cyI, 30, .inl c_games_ending)), (a_p1, .inr (3, [.ref a_p1_cells, .int v_p1_exists, .int v_p1_lane, .int v_p1_length])), (a_p1_cells, .inl (cyI, 40, .inl c_p1_cells))] H → va_D A [(h0, .inr (8, [.ref a_rules, .ref a_games, .ref a_standing, .ref a_reader, .ref a_tree, .ref a_course, .ref a_sheets, .int v_textFault, .int v_readFault])), (a_games, .inr (0, [.ref a_games_first, .ref a_games_second, .ref a_games_ending, .int v_games_size])), (a_games_ending, .inl (cyI, 30, .inl c_games_ending)), (a_p1, .inr (3, [.ref a_p1_cells, .int v_p1_exists, .int v_p1_lane, .int v_p1_length])), (a_p1_cells, .inl (cyI, 40, .inl c_p1_cells))] → va_S A s.heap H locs → lv_has ls 8 [(0, .ref h0), (1, .ref a_p1), (2, .int x2), (3, .int x3), (4, .int x4), (5, .int x5), (6, .int x6)] → W p l e rmX8_takeEnds s m av below meth c H locs 0 0 Q (F0 m 6 ls []) := by
    intro n
    induction n with
    | zero => intro x5 x6 c_games_ending H locs ls hf; exact absurd hf (by simp [fX8_takeEnds_6])
    | succ n hk6 =>
      intro x5 x6 c_games_ending H locs ls hf hP hD hS hl
      rw [fX8_takeEnds_6] at hf
      refine lv_iload hx hb dX8_takeEnds_6 (lv_at hl 6 rfl) ?_
      refine lv_iload hx hb dX8_takeEnds_8 (lv_at hl 4 rfl) ?_
      refine lv_icmp_ge (tgt := 64) hx hb dX8_takeEnds_10 (by decide) (fun c10 => ?_) (fun c10 => ?_)
      · have hf := pif_t c10 hf
        refine lv_iload hx hb dX8_takeEnds_64 (lv_at hl 5 rfl) ?_
        exact ret_i (q := q) (g := fun q => q.1) (wp := fun q => [(h0, .inr (8, [.ref a_rules, .ref a_games, .ref a_standing, .ref a_reader, .ref a_tree, .ref a_course, .ref a_sheets, .int v_textFault, .int v_readFault])), (a_games, .inr (0, [.ref a_games_first, .ref a_games_second, .ref a_games_ending, .int v_games_size])), (a_games_ending, .inl (cyI, 30, .inl q.2)), (a_p1, .inr (3, [.ref a_p1_cells, .int v_p1_exists, .int v_p1_lane, .int v_p1_length])), (a_p1_cells, .inl (cyI, 40, .inl c_p1_cells))]) hQ hf hx hb hr hlocks hP hD hS dX8_takeEnds_66 rfl
      · have hf := pif_f c10 hf
        refine lv_aload_n hx hb dX8_takeEnds_13 rfl (lv_at hl 1 rfl) ?_
        refine va_get (D := D) (ci := 3) (v := .ref a_p1_cells) (C := RX3) (T := TX3) (N := 4) hx hb hL inlX3 hown hK.1 hP 3 rfl rfl 0 (by decide) w0 (fun _ h9 => h9) rfl dX8_takeEnds_14 ?_
        refine lv_iload_n hx hb dX8_takeEnds_17 rfl (lv_at hl 2 rfl) ?_
        refine lv_iload hx hb dX8_takeEnds_18 (lv_at hl 6 rfl) ?_
        refine lv_iadd hx hb dX8_takeEnds_20 ?_
        obtain ⟨h21, hf⟩ := pg_some hf
        refine va_iald hx hb hK.1 hP 4 0 rfl rfl h21 dX8_takeEnds_21 ?_
        refine lv_istore (lv' := [(7, .int (c_p1_cells (x2 + x6).toNatClampNeg)), (0, .ref h0), (1, .ref a_p1), (2, .int x2), (3, .int x3), (4, .int x4), (5, .int x5), (6, .int x6)]) hx hb dX8_takeEnds_22 hl (by decide) rfl (fun ls hl => ?_)
        refine lv_aload_n hx hb dX8_takeEnds_24 rfl (lv_at hl 1 rfl) ?_
        refine va_get (D := D) (ci := 8) (v := .ref a_games) (C := RX8) (T := TX8) (N := 9) hx hb hL inlX8 hown hK.1 hP 0 rfl rfl 1 (by decide) w1 (fun _ h9 => h9) rfl dX8_takeEnds_25 ?_
        refine va_get (D := D) (ci := 0) (v := .ref a_games_ending) (C := RX0) (T := TX0) (N := 4) hx hb hL inlX0 hown hK.1 hP 1 rfl rfl 2 (by decide) w2 (fun _ h9 => h9) rfl dX8_takeEnds_28 ?_
        refine lv_iload_n hx hb dX8_takeEnds_31 rfl (lv_at hl 4 rfl) ?_
        refine lv_iload hx hb dX8_takeEnds_32 (lv_at hl 7 rfl) ?_
        refine lv_iadd hx hb dX8_takeEnds_34 ?_
        obtain ⟨h35, hf⟩ := pg_some hf
        refine va_iald hx hb hK.1 hP 2 0 rfl rfl h35 dX8_takeEnds_35 ?_
        refine lv_iload hx hb dX8_takeEnds_36 (lv_at hl 0 rfl) ?_
        refine lv_icmp_eq (tgt := 58) hx hb dX8_takeEnds_38 (by decide) (fun c38 => ?_) (fun c38 => ?_)
        · have hf := pif_t c38 hf
          exact hB58 (fX8_takeEnds_6 N c_p1_cells x2 x3 x4 n) hk6 x5 x6 c_games_ending H locs ls hf hP hD hS (lv_sub hl [1, 2, 3, 4, 5, 6, 7] rfl)
        · have hf := pif_f c38 hf
          refine lv_aload_n hx hb dX8_takeEnds_41 rfl (lv_at hl 1 rfl) ?_
          refine va_get (D := D) (ci := 8) (v := .ref a_games) (C := RX8) (T := TX8) (N := 9) hx hb hL inlX8 hown hK.1 hP 0 rfl rfl 1 (by decide) w1 (fun _ h9 => h9) rfl dX8_takeEnds_42 ?_
          refine va_get (D := D) (ci := 0) (v := .ref a_games_ending) (C := RX0) (T := TX0) (N := 4) hx hb hL inlX0 hown hK.1 hP 1 rfl rfl 2 (by decide) w2 (fun _ h9 => h9) rfl dX8_takeEnds_45 ?_
          refine lv_iload_n hx hb dX8_takeEnds_48 rfl (lv_at hl 4 rfl) ?_
          refine lv_iload hx hb dX8_takeEnds_49 (lv_at hl 7 rfl) ?_
          refine lv_iadd hx hb dX8_takeEnds_51 ?_
          refine lv_iload hx hb dX8_takeEnds_52 (lv_at hl 0 rfl) ?_
          obtain ⟨h54, hf⟩ := pg_some hf
          refine va_iast hx hb hK.1 hP hD hS 2 0 rfl rfl h54 dX8_takeEnds_54 (fun H locs hP hD hS => ?_)
          have hP : va_P D vwCl [(h0, .inr (8, [.ref a_rules, .ref a_games, .ref a_standing, .ref a_reader, .ref a_tree, .ref a_course, .ref a_sheets, .int v_textFault, .int v_readFault])), (a_games, .inr (0, [.ref a_games_first, .ref a_games_second, .ref a_games_ending, .int v_games_size])), (a_games_ending, .inl (cyI, 30, .inl (upd c_games_ending (x3 + x6).toNatClampNeg (c_p1_cells (x2 + x6).toNatClampNeg)))), (a_p1, .inr (3, [.ref a_p1_cells, .int v_p1_exists, .int v_p1_lane, .int v_p1_length])), (a_p1_cells, .inl (cyI, 40, .inl c_p1_cells))] H := hP
          have hD : va_D A [(h0, .inr (8, [.ref a_rules, .ref a_games, .ref a_standing, .ref a_reader, .ref a_tree, .ref a_course, .ref a_sheets, .int v_textFault, .int v_readFault])), (a_games, .inr (0, [.ref a_games_first, .ref a_games_second, .ref a_games_ending, .int v_games_size])), (a_games_ending, .inl (cyI, 30, .inl (upd c_games_ending (x3 + x6).toNatClampNeg (c_p1_cells (x2 + x6).toNatClampNeg)))), (a_p1, .inr (3, [.ref a_p1_cells, .int v_p1_exists, .int v_p1_lane, .int v_p1_length])), (a_p1_cells, .inl (cyI, 40, .inl c_p1_cells))] := hD
          refine lv_iinc (v := x5 + 1) (lv' := [(5, .int (x5 + 1)), (7, .int (c_p1_cells (x2 + x6).toNatClampNeg)), (0, .ref h0), (1, .ref a_p1), (2, .int x2), (3, .int x3), (4, .int x4), (6, .int x6)]) hx hb dX8_takeEnds_55 hl (k := 6) rfl rfl (by decide) rfl (fun ls hl => ?_)
          exact hB58 (fX8_takeEnds_6 N c_p1_cells x2 x3 x4 n) hk6 (x5 + 1) x6 (upd c_games_ending (x3 + x6).toNatClampNeg (c_p1_cells (x2 + x6).toNatClampNeg)) H locs ls hf hP hD hS (lv_sub hl [2, 3, 4, 5, 6, 0, 7] rfl)
  unfold fX8_takeEnds at hf
  obtain ⟨H, hH⟩ : ∃ H : Heap, H = s.heap := ⟨_, rfl⟩
  obtain ⟨locs, hlo⟩ : ∃ locs : List Loc, locs = [] := ⟨_, rfl⟩
  have hP : va_P D vwCl [(h0, .inr (8, [.ref a_rules, .ref a_games, .ref a_standing, .ref a_reader, .ref a_tree, .ref a_course, .ref a_sheets, .int v_textFault, .int v_readFault])), (a_games, .inr (0, [.ref a_games_first, .ref a_games_second, .ref a_games_ending, .int v_games_size])), (a_games_ending, .inl (cyI, 30, .inl c_games_ending)), (a_p1, .inr (3, [.ref a_p1_cells, .int v_p1_exists, .int v_p1_lane, .int v_p1_length])), (a_p1_cells, .inl (cyI, 40, .inl c_p1_cells))] H := by rw [hH]; exact hP
  have hS : va_S A s.heap H locs := by rw [hH, hlo]; exact hS
  suffices hw : W p l e rmX8_takeEnds s m av below meth c H locs 0 0 Q (F0 m 0 ls []) by rw [hH, hlo] at hw; exact hw
  refine lv_iconst (v := 0) hx hb dX8_takeEnds_0 (by decide) ?_
  refine lv_istore (lv' := [(5, .int 0), (0, .ref h0), (1, .ref a_p1), (2, .int x2), (3, .int x3), (4, .int x4)]) hx hb dX8_takeEnds_1 hl (by decide) rfl (fun ls hl => ?_)
  refine lv_iconst (v := 0) hx hb dX8_takeEnds_3 (by decide) ?_
  refine lv_istore (lv' := [(6, .int 0), (5, .int 0), (0, .ref h0), (1, .ref a_p1), (2, .int x2), (3, .int x3), (4, .int x4)]) hx hb dX8_takeEnds_4 hl (by decide) rfl (fun ls hl => ?_)
  exact hB6 N 0 0 c_games_ending H locs ls hf hP hD hS (lv_sub hl [2, 3, 4, 5, 6, 1, 0] rfl)
