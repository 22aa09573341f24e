abbrev rmX9_thumbs : Room := { frames := 1, cells := 0, slots := 0, locals := 30 }
set_option maxHeartbeats 40000000 in
set_option maxRecDepth 100000 in
theorem mX9_thumbs (l : Launch) (D : va_G) (cyI cyJ cyB cyS : ClassId) (N : Nat) (sz : Nat) (a9 : Nat → Nat) (i9 : Nat → Int32) (g9 : Nat → Int64) (x1 : Int32) (x2 : Int32) (x3 : Int32) (q : Int64) (hf : fX9_thumbs N x1 x2 x3 = some q) : Met l yX9_thumbs (wS yX9_thumbs cX9_thumbs 4 (some .long)) rmX9_thumbs (va_Pc [.ref (a9 0), .int x1, .int x2, .int x3] (PP D cyI cyJ cyB cyS [(a9 0, .inr (9, fl9 a9 i9 g9))] sz)) (QL q D [(a9 0, .inr (9, fl9 a9 i9 g9))] (va_A [(a9 0, .inr (9, fl9 a9 i9 g9))] sz)) 0 0 (va_A [(a9 0, .inr (9, fl9 a9 i9 g9))] sz) := by
  refine Met.ofW (cc := cX9_thumbs) (maxL := 4) (ret := (some .long)) (by decide) rfl ?_
  intro p e s m args below meth c s₁ B hml hv
  obtain ⟨rfl, hsz, hP, hK, hD0⟩ := hv
  have hx := B.exec
  have hb := B.bytes
  have hr := B.returns
  have hts := atoms_spec (ws := (wS yX9_thumbs cX9_thumbs 4 (some .long))) B.pre
  have hown : s.vm.findClass RX9 = some m.cls := findClass_of_methodNamed B.named
  have hlocks := B.notSynchronized
  subst hsz
  have hD := hD0.self (sz := s.heap.size)
  refine w_nameQ (fun Q hQ => ?_)
  have hl := lv_entry ([.ref (a9 0), .int x1, .int x2, .int x3] : List Value) (n := 4) (Nat.le_of_ble_eq_true rfl)
  rw [lg_entry_eq]
  generalize (lg_sl ([.ref (a9 0), .int x1, .int x2, .int x3] : List Value) ++ List.replicate (4 - (lg_sl ([.ref (a9 0), .int x1, .int x2, .int x3] : List Value)).length) Slot.unset).toArray = ls at hl ⊢
  have hl : lv_has ls 4 [(0, .ref (a9 0)), (1, .int x1), (2, .int x2), (3, .int x3)] := hl
  generalize hAe : va_A [(a9 0, .inr (9, fl9 a9 i9 g9))] s.heap.size = A at hD hQ
  have hA : ∀ q : Nat, s.heap.size ≤ q → A q := fun q h => by rw [← hAe]; exact Or.inr h
  have hS : va_S A s.heap s.heap [] := va_S.rf
  generalize ([.ref (a9 0), .int x1, .int x2, .int x3] : List Value).toArray = av at hts hQ ⊢
  have hL : ∀ w ∈ wsL_law, w.before av s = true := fun w h => hts w (List.mem_cons_of_mem _ h)
  have w0 := hL (.constantLong RX9 266 (-1)) (hR33 21 rfl)
  have w1 := hL (.constantLong RX9 342 20) (hR45 15 rfl)
  have w2 := hL (.static yX9_in) (hR8 8 rfl)
  have w3 := hL (.static yX9_thumbUp) (hR45 17 rfl)
  have w4 := hL (.static yX9_sixes) (hR45 21 rfl)
  have w5 := hL (.static yX9_lowest) (hR33 9 rfl)
  have hB52 : ∀ (s0 : Int64) (H : Heap) (locs : List Loc) (ls : Array Slot), fX9_thumbs_52 N x1 x2 x3 s0 = some q → va_P D vwCl [(a9 0, .inr (9, fl9 a9 i9 g9))] H → va_D A [(a9 0, .inr (9, fl9 a9 i9 g9))] → va_S A s.heap H locs → lv_has ls 4 [] → W p l e rmX9_thumbs s m av below meth c H locs 0 0 Q (F0 m 52 ls [.long s0]) := by
    intro s0 H locs ls hf hP hD hS hl
    unfold fX9_thumbs_52 at hf
    exact ret_l (q := q) (g := fun q => q) (wp := fun q => [(a9 0, .inr (9, fl9 a9 i9 g9))]) hQ hf hx hb hr hlocks hP hD hS dX9_thumbs_52 rfl
  have hB49 : ∀ (H : Heap) (locs : List Loc) (ls : Array Slot), fX9_thumbs_49 N x1 x2 x3 = some q → va_P D vwCl [(a9 0, .inr (9, fl9 a9 i9 g9))] H → va_D A [(a9 0, .inr (9, fl9 a9 i9 g9))] → va_S A s.heap H locs → lv_has ls 4 [] → W p l e rmX9_thumbs s m av below meth c H locs 0 0 Q (F0 m 49 ls []) := by
    intro  H locs ls hf hP hD hS hl
    unfold fX9_thumbs_49 at hf
    refine lv_ldc2 (v := (-1)) hx hb hown w0 dX9_thumbs_49 ?_
    exact hB52 (-1) H locs ls hf hP hD hS (lv_sub hl [] rfl)
  unfold fX9_thumbs at hf
  obtain ⟨H, hH⟩ : ∃ H : Heap, H = s.heap := ⟨_, rfl⟩
  obtain ⟨locs, hlo⟩ : ∃ locs : List Loc, locs = [] := ⟨_, rfl⟩
  have hP : va_P D vwCl [(a9 0, .inr (9, fl9 a9 i9 g9))] H := by rw [hH]; exact hP
  have hS : va_S A s.heap H locs := by rw [hH, hlo]; exact hS
  suffices hw : W p l e rmX9_thumbs s m av below meth c H locs 0 0 Q (F0 m 0 ls []) by rw [hH, hlo] at hw; exact hw
  refine lv_iload_n hx hb dX9_thumbs_0 rfl (lv_at hl 1 rfl) ?_
  refine lv_i2l hx hb dX9_thumbs_1 rfl ?_
  refine lv_lconst (v := 1) hx hb dX9_thumbs_2 (by decide) ?_
  refine lv_ldc2 (v := 20) hx hb hown w1 dX9_thumbs_3 ?_
  obtain ⟨q6, e6, hf⟩ := pb_some hf
  refine cc_i (wc := []) (wr := [(a9 0, .inr (9, fl9 a9 i9 g9))]) (w1 := []) (wn := [(a9 0, .inr (9, fl9 a9 i9 g9))]) hP hD hS hA [] [0] [0] rfl rfl rfl (by decide) rfl rfl (va_runS (As := [.long ((x1 : Int32).toInt64), .long 1, .long 20]) (rest := []) ⟨hx, hb, hml, hown, hL⟩ (mX9_in l D cyI cyJ cyB cyS N H.size   ((x1 : Int32).toInt64) 1 20 q6 e6) (va_cwS 3 hL (gS (hR8 7 rfl) (hR8 8 rfl) (hR1 5 rfl) (hR8 9 rfl)) rfl rfl rfl (by decide +kernel) ⟨Nat.le_of_ble_eq_true rfl, Nat.le_of_ble_eq_true rfl⟩) (PP_preS hP hD hK [] rfl rfl) rfl rfl hl.1 rfl (lv_room (Nat.le_of_ble_eq_true rfl)) dX9_thumbs_6 ⟨Nat.le_of_ble_eq_true rfl, Nat.le_of_ble_eq_true rfl⟩) (fun H locs hP hD hS => ?_)
  refine lv_if_eq (tgt := 49) hx hb dX9_thumbs_9 (by decide) (fun c9 => ?_) (fun c9 => ?_)
  · have hf := pif_t c9 hf
    exact hB49 H locs ls hf hP hD hS (lv_sub hl [] rfl)
  · have hf := pif_f c9 hf
    refine lv_iload_n hx hb dX9_thumbs_12 rfl (lv_at hl 2 rfl) ?_
    refine lv_i2l hx hb dX9_thumbs_13 rfl ?_
    refine lv_lconst (v := 0) hx hb dX9_thumbs_14 (by decide) ?_
    refine lv_iload_n hx hb dX9_thumbs_15 rfl (lv_at hl 1 rfl) ?_
    refine lv_i2l hx hb dX9_thumbs_16 rfl ?_
    obtain ⟨q17, e17, hf⟩ := pb_some hf
    refine cc_i (wc := []) (wr := [(a9 0, .inr (9, fl9 a9 i9 g9))]) (w1 := []) (wn := [(a9 0, .inr (9, fl9 a9 i9 g9))]) hP hD hS hA [] [0] [0] rfl rfl rfl (by decide) rfl rfl (va_runS (As := [.long ((x2 : Int32).toInt64), .long 0, .long ((x1 : Int32).toInt64)]) (rest := []) ⟨hx, hb, hml, hown, hL⟩ (mX9_in l D cyI cyJ cyB cyS N H.size   ((x2 : Int32).toInt64) 0 ((x1 : Int32).toInt64) q17 e17) (va_cwS 3 hL (gS (hR8 7 rfl) (hR8 8 rfl) (hR1 5 rfl) (hR8 9 rfl)) rfl rfl rfl (by decide +kernel) ⟨Nat.le_of_ble_eq_true rfl, Nat.le_of_ble_eq_true rfl⟩) (PP_preS hP hD hK [] rfl rfl) rfl rfl hl.1 rfl (lv_room (Nat.le_of_ble_eq_true rfl)) dX9_thumbs_17 ⟨Nat.le_of_ble_eq_true rfl, Nat.le_of_ble_eq_true rfl⟩) (fun H locs hP hD hS => ?_)
    refine lv_if_eq (tgt := 49) hx hb dX9_thumbs_20 (by decide) (fun c20 => ?_) (fun c20 => ?_)
    · have hf := pif_t c20 hf
      exact hB49 H locs ls hf hP hD hS (lv_sub hl [] rfl)
    · have hf := pif_f c20 hf
      refine lv_iload_n hx hb dX9_thumbs_23 rfl (lv_at hl 3 rfl) ?_
      refine lv_i2l hx hb dX9_thumbs_24 rfl ?_
      refine lv_lconst (v := 0) hx hb dX9_thumbs_25 (by decide) ?_
      refine lv_lconst (v := 1) hx hb dX9_thumbs_26 (by decide) ?_
      obtain ⟨q27, e27, hf⟩ := pb_some hf
      refine cc_i (wc := []) (wr := [(a9 0, .inr (9, fl9 a9 i9 g9))]) (w1 := []) (wn := [(a9 0, .inr (9, fl9 a9 i9 g9))]) hP hD hS hA [] [0] [0] rfl rfl rfl (by decide) rfl rfl (va_runS (As := [.long ((x3 : Int32).toInt64), .long 0, .long 1]) (rest := []) ⟨hx, hb, hml, hown, hL⟩ (mX9_in l D cyI cyJ cyB cyS N H.size   ((x3 : Int32).toInt64) 0 1 q27 e27) (va_cwS 3 hL (gS (hR8 7 rfl) (hR8 8 rfl) (hR1 5 rfl) (hR8 9 rfl)) rfl rfl rfl (by decide +kernel) ⟨Nat.le_of_ble_eq_true rfl, Nat.le_of_ble_eq_true rfl⟩) (PP_preS hP hD hK [] rfl rfl) rfl rfl hl.1 rfl (lv_room (Nat.le_of_ble_eq_true rfl)) dX9_thumbs_27 ⟨Nat.le_of_ble_eq_true rfl, Nat.le_of_ble_eq_true rfl⟩) (fun H locs hP hD hS => ?_)
      refine lv_if_eq (tgt := 49) hx hb dX9_thumbs_30 (by decide) (fun c30 => ?_) (fun c30 => ?_)
      · have hf := pif_t c30 hf
        exact hB49 H locs ls hf hP hD hS (lv_sub hl [] rfl)
      · have hf := pif_f c30 hf
        refine lv_iload_n hx hb dX9_thumbs_33 rfl (lv_at hl 1 rfl) ?_
        refine lv_iload_n hx hb dX9_thumbs_34 rfl (lv_at hl 2 rfl) ?_
        obtain ⟨q35, e35, hf⟩ := pb_some hf
        refine cc_l (wc := []) (wr := [(a9 0, .inr (9, fl9 a9 i9 g9))]) (w1 := []) (wn := [(a9 0, .inr (9, fl9 a9 i9 g9))]) hP hD hS hA [] [0] [0] rfl rfl rfl (by decide) rfl rfl (va_runS (As := [.int x1, .int x2]) (rest := []) ⟨hx, hb, hml, hown, hL⟩ (mX9_thumbUp l D cyI cyJ cyB cyS N H.size   x1 x2 q35 e35) (va_cwS 2 hL (gS (hR45 16 rfl) (hR45 17 rfl) (hR1 5 rfl) (hR45 18 rfl)) rfl rfl rfl (by decide +kernel) ⟨Nat.le_of_ble_eq_true rfl, Nat.le_of_ble_eq_true rfl⟩) (PP_preS hP hD hK [] rfl rfl) rfl rfl hl.1 rfl (lv_room (Nat.le_of_ble_eq_true rfl)) dX9_thumbs_35 ⟨Nat.le_of_ble_eq_true rfl, Nat.le_of_ble_eq_true rfl⟩) (fun H locs hP hD hS => ?_)
        refine lv_iload_n hx hb dX9_thumbs_38 rfl (lv_at hl 1 rfl) ?_
        obtain ⟨q39, e39, hf⟩ := pb_some hf
        refine cc_l (wc := []) (wr := [(a9 0, .inr (9, fl9 a9 i9 g9))]) (w1 := []) (wn := [(a9 0, .inr (9, fl9 a9 i9 g9))]) hP hD hS hA [] [0] [0] rfl rfl rfl (by decide) rfl rfl (va_runS (As := [.int x1]) (rest := [.long q35]) ⟨hx, hb, hml, hown, hL⟩ (mX9_sixes l D cyI cyJ cyB cyS N H.size   x1 q39 e39) (va_cwS 1 hL (gS (hR45 20 rfl) (hR45 21 rfl) (hR1 5 rfl) (hR45 22 rfl)) rfl rfl rfl (by decide +kernel) ⟨Nat.le_of_ble_eq_true rfl, Nat.le_of_ble_eq_true rfl⟩) (PP_preS hP hD hK [] rfl rfl) rfl rfl hl.1 rfl (lv_room (Nat.le_of_ble_eq_true rfl)) dX9_thumbs_39 ⟨Nat.le_of_ble_eq_true rfl, Nat.le_of_ble_eq_true rfl⟩) (fun H locs hP hD hS => ?_)
        refine lv_iload_n hx hb dX9_thumbs_42 rfl (lv_at hl 3 rfl) ?_
        obtain ⟨q43, e43, hf⟩ := pb_some hf
        refine cc_l (wc := []) (wr := [(a9 0, .inr (9, fl9 a9 i9 g9))]) (w1 := []) (wn := [(a9 0, .inr (9, fl9 a9 i9 g9))]) hP hD hS hA [] [0] [0] rfl rfl rfl (by decide) rfl rfl (va_runS (As := [.long q35, .long q39, .int x3]) (rest := []) ⟨hx, hb, hml, hown, hL⟩ (mX9_lowest l D cyI cyJ cyB cyS N H.size   q35 q39 x3 q43 e43) (va_cwS 3 hL (gS (hR33 8 rfl) (hR33 9 rfl) (hR1 5 rfl) (hR33 10 rfl)) rfl rfl rfl (by decide +kernel) ⟨Nat.le_of_ble_eq_true rfl, Nat.le_of_ble_eq_true rfl⟩) (PP_preS hP hD hK [] rfl rfl) rfl rfl hl.1 rfl (lv_room (Nat.le_of_ble_eq_true rfl)) dX9_thumbs_43 ⟨Nat.le_of_ble_eq_true rfl, Nat.le_of_ble_eq_true rfl⟩) (fun H locs hP hD hS => ?_)
        refine lv_goto (tgt := 52) hx hb dX9_thumbs_46 (by decide) ?_
        exact hB52 q43 H locs ls hf hP hD hS (lv_sub hl [] rfl)
abbrev rmX9_fine : Room := { frames := 1, cells := 0, slots := 0, locals := 27 }
set_option maxHeartbeats 40000000 in
set_option maxRecDepth 100000 in
theorem mX9_fine (l : Launch) (D : va_G) (cyI cyJ cyB cyS : ClassId) (N : Nat) (sz : Nat) (a9 : Nat → Nat) (i9 : Nat → Int32) (g9 : Nat → Int64) (x1 : Int32) (x2 : Int32) (q : Int32) (hf : fX9_fine N x1 x2 = some q) : Met l yX9_fine (wS yX9_fine cX9_fine 4 (some .int)) rmX9_fine (va_Pc [.ref (a9 0), .int x1, .int x2] (PP D cyI cyJ cyB cyS [(a9 0, .inr (9, fl9 a9 i9 g9))] sz)) (QI q D [(a9 0, .inr (9, fl9 a9 i9 g9))] (va_A [(a9 0, .inr (9, fl9 a9 i9 g9))] sz)) 0 0 (va_A [(a9 0, .inr (9, fl9 a9 i9 g9))] sz) := by
  refine Met.ofW (cc := cX9_fine) (maxL := 4) (ret := (some .int)) (by decide) rfl ?_
  intro p e s m args below meth c s₁ B hml hv
  obtain ⟨rfl, hsz, hP, hK, hD0⟩ := hv
  have hx := B.exec
  have hb := B.bytes
  have hr := B.returns
  have hts := atoms_spec (ws := (wS yX9_fine cX9_fine 4 (some .int))) B.pre
  have hown : s.vm.findClass RX9 = some m.cls := findClass_of_methodNamed B.named
  have hlocks := B.notSynchronized
  subst hsz
  have hD := hD0.self (sz := s.heap.size)
  refine w_nameQ (fun Q hQ => ?_)
  have hl := lv_entry ([.ref (a9 0), .int x1, .int x2] : List Value) (n := 4) (Nat.le_of_ble_eq_true rfl)
  rw [lg_entry_eq]
  generalize (lg_sl ([.ref (a9 0), .int x1, .int x2] : List Value) ++ List.replicate (4 - (lg_sl ([.ref (a9 0), .int x1, .int x2] : List Value)).length) Slot.unset).toArray = ls at hl ⊢
  have hl : lv_has ls 4 [(0, .ref (a9 0)), (1, .int x1), (2, .int x2)] := hl
  generalize hAe : va_A [(a9 0, .inr (9, fl9 a9 i9 g9))] s.heap.size = A at hD hQ
  have hA : ∀ q : Nat, s.heap.size ≤ q → A q := fun q h => by rw [← hAe]; exact Or.inr h
  have hS : va_S A s.heap s.heap [] := va_S.rf
  generalize ([.ref (a9 0), .int x1, .int x2] : List Value).toArray = av at hts hQ ⊢
  have hL : ∀ w ∈ wsL_law, w.before av s = true := fun w h => hts w (List.mem_cons_of_mem _ h)
  have w0 := hL (.static yX9_thumbUp) (hR45 17 rfl)
  have w1 := hL (.static yX9_sixes) (hR45 21 rfl)
  have w2 := hL (.constantLong RX9 342 20) (hR45 15 rfl)
  have w3 := hL (.static yX9_in) (hR8 8 rfl)
  have w4 := hL (.constantLong RX9 196 2) (hR22 10 rfl)
  have w5 := hL (.constantLong RX9 351 1000) (hR46 8 rfl)
  have hB26 : ∀ (H : Heap) (locs : List Loc) (ls : Array Slot), fX9_fine_26 N x1 x2 = some q → va_P D vwCl [(a9 0, .inr (9, fl9 a9 i9 g9))] H → va_D A [(a9 0, .inr (9, fl9 a9 i9 g9))] → va_S A s.heap H locs → lv_has ls 4 [] → W p l e rmX9_fine s m av below meth c H locs 0 0 Q (F0 m 26 ls []) := by
    intro  H locs ls hf hP hD hS hl
    unfold fX9_fine_26 at hf
    refine lv_iconst (v := (-1)) hx hb dX9_fine_26 (by decide) ?_
    exact ret_i (q := q) (g := fun q => q) (wp := fun q => [(a9 0, .inr (9, fl9 a9 i9 g9))]) hQ hf hx hb hr hlocks hP hD hS dX9_fine_27 rfl
  have hB30 : ∀ (n : Nat), ∀ (x3 : Int32) (H : Heap) (locs : List Loc) (ls : Array Slot), fX9_fine_30 N x1 x2 n x3 = some q → va_P D vwCl [(a9 0, .inr (9, fl9 a9 i9 g9))] H → va_D A [(a9 0, .inr (9, fl9 a9 i9 g9))] → va_S A s.heap H locs → lv_has ls 4 [(1, .int x1), (2, .int x2), (3, .int x3)] → W p l e rmX9_fine s m av below meth c H locs 0 0 Q (F0 m 30 ls []) := by
    intro n
    induction n with
    | zero => intro x3 H locs ls hf; exact absurd hf (by simp [fX9_fine_30])
    | succ n hk30 =>
      intro x3 H locs ls hf hP hD hS hl
      rw [fX9_fine_30] at hf
      refine lv_iload_n hx hb dX9_fine_30 rfl (lv_at hl 2 rfl) ?_
      refine lv_iload_n hx hb dX9_fine_31 rfl (lv_at hl 0 rfl) ?_
      refine lv_icmp_gt (tgt := 59) hx hb dX9_fine_32 (by decide) (fun c32 => ?_) (fun c32 => ?_)
      · have hf := pif_t c32 hf
        refine lv_bipush (v := (-4)) hx hb dX9_fine_59 (by decide) ?_
        exact ret_i (q := q) (g := fun q => q) (wp := fun q => [(a9 0, .inr (9, fl9 a9 i9 g9))]) hQ hf hx hb hr hlocks hP hD hS dX9_fine_61 rfl
      · have hf := pif_f c32 hf
        refine lv_iload_n hx hb dX9_fine_35 rfl (lv_at hl 0 rfl) ?_
        refine lv_iload_n hx hb dX9_fine_36 rfl (lv_at hl 2 rfl) ?_
        obtain ⟨q37, e37, hf⟩ := pb_some hf
        refine cc_l (wc := []) (wr := [(a9 0, .inr (9, fl9 a9 i9 g9))]) (w1 := []) (wn := [(a9 0, .inr (9, fl9 a9 i9 g9))]) hP hD hS hA [] [0] [0] rfl rfl rfl (by decide) rfl rfl (va_runS (As := [.int x1, .int x3]) (rest := []) ⟨hx, hb, hml, hown, hL⟩ (mX9_thumbUp l D cyI cyJ cyB cyS N H.size   x1 x3 q37 e37) (va_cwS 2 hL (gS (hR45 16 rfl) (hR45 17 rfl) (hR1 5 rfl) (hR45 18 rfl)) rfl rfl rfl (by decide +kernel) ⟨Nat.le_of_ble_eq_true rfl, Nat.le_of_ble_eq_true rfl⟩) (PP_preS hP hD hK [] rfl rfl) rfl rfl hl.1 rfl (lv_room (Nat.le_of_ble_eq_true rfl)) dX9_fine_37 ⟨Nat.le_of_ble_eq_true rfl, Nat.le_of_ble_eq_true rfl⟩) (fun H locs hP hD hS => ?_)
        refine lv_iload_n hx hb dX9_fine_40 rfl (lv_at hl 1 rfl) ?_
        refine lv_i2l hx hb dX9_fine_41 rfl ?_
        refine lv_lmul hx hb dX9_fine_42 ?_
        refine lv_iload_n hx hb dX9_fine_43 rfl (lv_at hl 0 rfl) ?_
        obtain ⟨q44, e44, hf⟩ := pb_some hf
        refine cc_l (wc := []) (wr := [(a9 0, .inr (9, fl9 a9 i9 g9))]) (w1 := []) (wn := [(a9 0, .inr (9, fl9 a9 i9 g9))]) hP hD hS hA [] [0] [0] rfl rfl rfl (by decide) rfl rfl (va_runS (As := [.int x1]) (rest := [.long (q37 * ((x2 : Int32).toInt64))]) ⟨hx, hb, hml, hown, hL⟩ (mX9_sixes l D cyI cyJ cyB cyS N H.size   x1 q44 e44) (va_cwS 1 hL (gS (hR45 20 rfl) (hR45 21 rfl) (hR1 5 rfl) (hR45 22 rfl)) rfl rfl rfl (by decide +kernel) ⟨Nat.le_of_ble_eq_true rfl, Nat.le_of_ble_eq_true rfl⟩) (PP_preS hP hD hK [] rfl rfl) rfl rfl hl.1 rfl (lv_room (Nat.le_of_ble_eq_true rfl)) dX9_fine_44 ⟨Nat.le_of_ble_eq_true rfl, Nat.le_of_ble_eq_true rfl⟩) (fun H locs hP hD hS => ?_)
        refine W.lcmp hx hb dX9_fine_47 ?_
        refine lv_if_gt (tgt := 53) hx hb dX9_fine_48 (by decide) (fun c48 => ?_) (fun c48 => ?_)
        · have hf := pif_t c48 hf
          refine lv_iinc (v := x3 + 1) (lv' := [(3, .int (x3 + 1)), (1, .int x1), (2, .int x2)]) hx hb dX9_fine_53 hl (k := 2) rfl rfl (by decide) rfl (fun ls hl => ?_)
          refine lv_goto (tgt := 30) hx hb dX9_fine_56 (by decide) ?_
          exact hk30 (x3 + 1) H locs ls hf hP hD hS (lv_sub hl [1, 2, 0] rfl)
        · have hf := pif_f c48 hf
          refine lv_iload_n hx hb dX9_fine_51 rfl (lv_at hl 2 rfl) ?_
          exact ret_i (q := q) (g := fun q => q) (wp := fun q => [(a9 0, .inr (9, fl9 a9 i9 g9))]) hQ hf hx hb hr hlocks hP hD hS dX9_fine_52 rfl
  unfold fX9_fine at hf
  obtain ⟨H, hH⟩ : ∃ H : Heap, H = s.heap := ⟨_, rfl⟩
  obtain ⟨locs, hlo⟩ : ∃ locs : List Loc, locs = [] := ⟨_, rfl⟩
  have hP : va_P D vwCl [(a9 0, .inr (9, fl9 a9 i9 g9))] H := by rw [hH]; exact hP
  have hS : va_S A s.heap H locs := by rw [hH, hlo]; exact hS
  suffices hw : W p l e rmX9_fine s m av below meth c H locs 0 0 Q (F0 m 0 ls []) by rw [hH, hlo] at hw; exact hw
  refine lv_iload_n hx hb dX9_fine_0 rfl (lv_at hl 1 rfl) ?_
  refine lv_i2l hx hb dX9_fine_1 rfl ?_
  refine lv_lconst (v := 1) hx hb dX9_fine_2 (by decide) ?_
  refine lv_ldc2 (v := 20) hx hb hown w2 dX9_fine_3 ?_
  obtain ⟨q6, e6, hf⟩ := pb_some hf
  refine cc_i (wc := []) (wr := [(a9 0, .inr (9, fl9 a9 i9 g9))]) (w1 := []) (wn := [(a9 0, .inr (9, fl9 a9 i9 g9))]) hP hD hS hA [] [0] [0] rfl rfl rfl (by decide) rfl rfl (va_runS (As := [.long ((x1 : Int32).toInt64), .long 1, .long 20]) (rest := []) ⟨hx, hb, hml, hown, hL⟩ (mX9_in l D cyI cyJ cyB cyS N H.size   ((x1 : Int32).toInt64) 1 20 q6 e6) (va_cwS 3 hL (gS (hR8 7 rfl) (hR8 8 rfl) (hR1 5 rfl) (hR8 9 rfl)) rfl rfl rfl (by decide +kernel) ⟨Nat.le_of_ble_eq_true rfl, Nat.le_of_ble_eq_true rfl⟩) (PP_preS hP hD hK [] rfl rfl) rfl rfl hl.1 rfl (lv_room (Nat.le_of_ble_eq_true rfl)) dX9_fine_6 ⟨Nat.le_of_ble_eq_true rfl, Nat.le_of_ble_eq_true rfl⟩) (fun H locs hP hD hS => ?_)
  refine lv_if_eq (tgt := 26) hx hb dX9_fine_9 (by decide) (fun c9 => ?_) (fun c9 => ?_)
  · have hf := pif_t c9 hf
    exact hB26 H locs ls hf hP hD hS (lv_sub hl [] rfl)
  · have hf := pif_f c9 hf
    refine lv_iload_n hx hb dX9_fine_12 rfl (lv_at hl 2 rfl) ?_
    refine lv_i2l hx hb dX9_fine_13 rfl ?_
    refine lv_ldc2 (v := 2) hx hb hown w4 dX9_fine_14 ?_
    refine lv_ldc2 (v := 1000) hx hb hown w5 dX9_fine_17 ?_
    obtain ⟨q20, e20, hf⟩ := pb_some hf
    refine cc_i (wc := []) (wr := [(a9 0, .inr (9, fl9 a9 i9 g9))]) (w1 := []) (wn := [(a9 0, .inr (9, fl9 a9 i9 g9))]) hP hD hS hA [] [0] [0] rfl rfl rfl (by decide) rfl rfl (va_runS (As := [.long ((x2 : Int32).toInt64), .long 2, .long 1000]) (rest := []) ⟨hx, hb, hml, hown, hL⟩ (mX9_in l D cyI cyJ cyB cyS N H.size   ((x2 : Int32).toInt64) 2 1000 q20 e20) (va_cwS 3 hL (gS (hR8 7 rfl) (hR8 8 rfl) (hR1 5 rfl) (hR8 9 rfl)) rfl rfl rfl (by decide +kernel) ⟨Nat.le_of_ble_eq_true rfl, Nat.le_of_ble_eq_true rfl⟩) (PP_preS hP hD hK [] rfl rfl) rfl rfl hl.1 rfl (lv_room (Nat.le_of_ble_eq_true rfl)) dX9_fine_20 ⟨Nat.le_of_ble_eq_true rfl, Nat.le_of_ble_eq_true rfl⟩) (fun H locs hP hD hS => ?_)
    refine lv_if_ne (tgt := 28) hx hb dX9_fine_23 (by decide) (fun c23 => ?_) (fun c23 => ?_)
    · have hf := pif_f c23 hf
      refine lv_iconst (v := 0) hx hb dX9_fine_28 (by decide) ?_
      refine lv_istore_n (lv' := [(3, .int 0), (0, .ref (a9 0)), (1, .int x1), (2, .int x2)]) hx hb dX9_fine_29 rfl hl (by decide) rfl (fun ls hl => ?_)
      exact hB30 N 0 H locs ls hf hP hD hS (lv_sub hl [2, 3, 0] rfl)
    · have hf := pif_t c23 hf
      exact hB26 H locs ls hf hP hD hS (lv_sub hl [] rfl)
abbrev rmX9_sheet : Room := { frames := 1, cells := 0, slots := 0, locals := 25 }
set_option maxHeartbeats 40000000 in
set_option maxRecDepth 100000 in
theorem mX9_sheet (l : Launch) (D : va_G) (cyI cyJ cyB cyS : ClassId) (N : Nat) (sz : Nat) (a9 : Nat → Nat) (i9 : Nat → Int32) (g9 : Nat → Int64) (c_cells : Nat → Int32) (c_lanes : Nat → Int32) (c_lengths : Nat → Int32) (x1 : Int32) (x2 : Int32) (x3 : Int32) (q : Int32 × (Nat → Int32) × (Nat → Int32) × (Nat → Int32)) (hf : fX9_sheet N c_cells c_lanes c_lengths x1 x2 x3 = some q) : Met l yX9_sheet (wS yX9_sheet cX9_sheet 5 (some .int)) rmX9_sheet (va_Pc [.ref (a9 0), .int x1, .int x2, .int x3] (PP D cyI cyJ cyB cyS [(a9 0, .inr (9, fl9 a9 i9 g9)), ((a9 27), .inl (cyI, 160, .inl c_cells)), ((a9 25), .inl (cyI, 4, .inl c_lanes)), ((a9 26), .inl (cyI, 4, .inl c_lengths))] sz)) (QI q.1 D [(a9 0, .inr (9, fl9 a9 i9 g9)), ((a9 27), .inl (cyI, 160, .inl q.2.1)), ((a9 25), .inl (cyI, 4, .inl q.2.2.1)), ((a9 26), .inl (cyI, 4, .inl q.2.2.2))] (va_A [(a9 0, .inr (9, fl9 a9 i9 g9)), ((a9 27), .inl (cyI, 160, .inl c_cells)), ((a9 25), .inl (cyI, 4, .inl c_lanes)), ((a9 26), .inl (cyI, 4, .inl c_lengths))] sz)) 0 0 (va_A [(a9 0, .inr (9, fl9 a9 i9 g9)), ((a9 27), .inl (cyI, 160, .inl c_cells)), ((a9 25), .inl (cyI, 4, .inl c_lanes)), ((a9 26), .inl (cyI, 4, .inl c_lengths))] sz) := by
  refine Met.ofW (cc := cX9_sheet) (maxL := 5) (ret := (some .int)) (by decide) rfl ?_
  intro p e s m args below meth c s₁ B hml hv
  obtain ⟨rfl, hsz, hP, hK, hD0⟩ := hv
  have hx := B.exec
  have hb := B.bytes
  have hr := B.returns
  have hts := atoms_spec (ws := (wS yX9_sheet cX9_sheet 5 (some .int))) B.pre
  have hown : s.vm.findClass RX9 = some m.cls := findClass_of_methodNamed B.named
  have hlocks := B.notSynchronized
  subst hsz
  have hD := hD0.self (sz := s.heap.size)
  refine w_nameQ (fun Q hQ => ?_)
  have hl := lv_entry ([.ref (a9 0), .int x1, .int x2, .int x3] : List Value) (n := 5) (Nat.le_of_ble_eq_true rfl)
  rw [lg_entry_eq]
  generalize (lg_sl ([.ref (a9 0), .int x1, .int x2, .int x3] : List Value) ++ List.replicate (5 - (lg_sl ([.ref (a9 0), .int x1, .int x2, .int x3] : List Value)).length) Slot.unset).toArray = ls at hl ⊢
  have hl : lv_has ls 5 [(0, .ref (a9 0)), (1, .int x1), (2, .int x2), (3, .int x3)] := hl
  generalize hAe : va_A [(a9 0, .inr (9, fl9 a9 i9 g9)), ((a9 27), .inl (cyI, 160, .inl c_cells)), ((a9 25), .inl (cyI, 4, .inl c_lanes)), ((a9 26), .inl (cyI, 4, .inl c_lengths))] s.heap.size = A at hD hQ
  have hA : ∀ q : Nat, s.heap.size ≤ q → A q := fun q h => by rw [← hAe]; exact Or.inr h
  have hS : va_S A s.heap s.heap [] := va_S.rf
  generalize ([.ref (a9 0), .int x1, .int x2, .int x3] : List Value).toArray = av at hts hQ ⊢
  have hL : ∀ w ∈ wsL_law, w.before av s = true := fun w h => hts w (List.mem_cons_of_mem _ h)
  have w0 := hL (.fieldLink RX9 89 "LosingLeagueModel" "cells" "[I") (hR7 6 rfl)
  have w1 := hL (.constantLong RX9 353 3) (hR47 6 rfl)
  have w2 := hL (.static yX9_in) (hR8 8 rfl)
  have w3 := hL (.constantLong RX9 196 2) (hR22 10 rfl)
  have w4 := hL (.fieldLink RX9 83 "LosingLeagueModel" "lanes" "[I") (hR7 4 rfl)
  have w5 := hL (.fieldLink RX9 86 "LosingLeagueModel" "lengths" "[I") (hR7 5 rfl)
  have hB30 : ∀ (c_cells : Nat → Int32) (c_lanes : Nat → Int32) (c_lengths : Nat → Int32) (H : Heap) (locs : List Loc) (ls : Array Slot), fX9_sheet_30 N x1 x2 x3 c_cells c_lanes c_lengths = some q → va_P D vwCl [(a9 0, .inr (9, fl9 a9 i9 g9)), ((a9 27), .inl (cyI, 160, .inl c_cells)), ((a9 25), .inl (cyI, 4, .inl c_lanes)), ((a9 26), .inl (cyI, 4, .inl c_lengths))] H → va_D A [(a9 0, .inr (9, fl9 a9 i9 g9)), ((a9 27), .inl (cyI, 160, .inl c_cells)), ((a9 25), .inl (cyI, 4, .inl c_lanes)), ((a9 26), .inl (cyI, 4, .inl c_lengths))] → va_S A s.heap H locs → lv_has ls 5 [] → W p l e rmX9_sheet s m av below meth c H locs 0 0 Q (F0 m 30 ls []) := by
    intro c_cells c_lanes c_lengths H locs ls hf hP hD hS hl
    unfold fX9_sheet_30 at hf
    refine lv_iconst (v := (-1)) hx hb dX9_sheet_30 (by decide) ?_
    exact ret_i (q := q) (g := fun q => q.1) (wp := fun q => [(a9 0, .inr (9, fl9 a9 i9 g9)), ((a9 27), .inl (cyI, 160, .inl q.2.1)), ((a9 25), .inl (cyI, 4, .inl q.2.2.1)), ((a9 26), .inl (cyI, 4, .inl q.2.2.2))]) hQ hf hx hb hr hlocks hP hD hS dX9_sheet_31 rfl
  have hB56 : ∀ (n : Nat), ∀ (x4 : Int32) (c_cells : Nat → Int32) (c_lanes : Nat → Int32) (c_lengths : Nat → Int32) (H : Heap) (locs : List Loc) (ls : Array Slot), fX9_sheet_56 N x1 x2 x3 n x4 c_cells c_lanes c_lengths = some q → va_P D vwCl [(a9 0, .inr (9, fl9 a9 i9 g9)), ((a9 27), .inl (cyI, 160, .inl c_cells)), ((a9 25), .inl (cyI, 4, .inl c_lanes)), ((a9 26), .inl (cyI, 4, .inl c_lengths))] H → va_D A [(a9 0, .inr (9, fl9 a9 i9 g9)), ((a9 27), .inl (cyI, 160, .inl c_cells)), ((a9 25), .inl (cyI, 4, .inl c_lanes)), ((a9 26), .inl (cyI, 4, .inl c_lengths))] → va_S A s.heap H locs → lv_has ls 5 [(0, .ref (a9 0)), (1, .int x1), (4, .int x4)] → W p l e rmX9_sheet s m av below meth c H locs 0 0 Q (F0 m 56 ls []) := by
    intro n
    induction n with
    | zero => intro x4 c_cells c_lanes c_lengths H locs ls hf; exact absurd hf (by simp [fX9_sheet_56])
    | succ n hk56 =>
      intro x4 c_cells c_lanes c_lengths H locs ls hf hP hD hS hl
      rw [fX9_sheet_56] at hf
      refine lv_iload hx hb dX9_sheet_56 (lv_at hl 2 rfl) ?_
      refine lv_bipush (v := 40) hx hb dX9_sheet_58 (by decide) ?_
      refine lv_icmp_ge (tgt := 82) hx hb dX9_sheet_60 (by decide) (fun c60 => ?_) (fun c60 => ?_)
      · have hf := pif_t c60 hf
        refine lv_iconst (v := 1) hx hb dX9_sheet_82 (by decide) ?_
        exact ret_i (q := q) (g := fun q => q.1) (wp := fun q => [(a9 0, .inr (9, fl9 a9 i9 g9)), ((a9 27), .inl (cyI, 160, .inl q.2.1)), ((a9 25), .inl (cyI, 4, .inl q.2.2.1)), ((a9 26), .inl (cyI, 4, .inl q.2.2.2))]) hQ hf hx hb hr hlocks hP hD hS dX9_sheet_83 rfl
      · have hf := pif_f c60 hf
        refine lv_aload_n hx hb dX9_sheet_63 rfl (lv_at hl 0 rfl) ?_
        refine va_get (D := D) (ci := 9) (v := .ref (a9 27)) (C := RX9) (T := TX9) (N := 52) hx hb hL inlX9 hown hK.1 hP 0 rfl rfl 50 (by decide) w0 (fun _ h9 => h9) rfl dX9_sheet_64 ?_
        refine lv_bipush (v := 40) hx hb dX9_sheet_67 (by decide) ?_
        refine lv_iload_n hx hb dX9_sheet_69 rfl (lv_at hl 1 rfl) ?_
        refine lv_imul hx hb dX9_sheet_70 ?_
        refine lv_iload hx hb dX9_sheet_71 (lv_at hl 2 rfl) ?_
        refine lv_iadd hx hb dX9_sheet_73 ?_
        refine lv_iconst (v := 0) hx hb dX9_sheet_74 (by decide) ?_
        obtain ⟨h75, hf⟩ := pg_some hf
        refine va_iast hx hb hK.1 hP hD hS 1 0 rfl rfl h75 dX9_sheet_75 (fun H locs hP hD hS => ?_)
        have hP : va_P D vwCl [(a9 0, .inr (9, fl9 a9 i9 g9)), ((a9 27), .inl (cyI, 160, .inl (upd c_cells ((40 * x1) + x4).toNatClampNeg 0))), ((a9 25), .inl (cyI, 4, .inl c_lanes)), ((a9 26), .inl (cyI, 4, .inl c_lengths))] H := hP
        have hD : va_D A [(a9 0, .inr (9, fl9 a9 i9 g9)), ((a9 27), .inl (cyI, 160, .inl (upd c_cells ((40 * x1) + x4).toNatClampNeg 0))), ((a9 25), .inl (cyI, 4, .inl c_lanes)), ((a9 26), .inl (cyI, 4, .inl c_lengths))] := hD
        refine lv_iinc (v := x4 + 1) (lv' := [(4, .int (x4 + 1)), (0, .ref (a9 0)), (1, .int x1)]) hx hb dX9_sheet_76 hl (k := 2) rfl rfl (by decide) rfl (fun ls hl => ?_)
        refine lv_goto (tgt := 56) hx hb dX9_sheet_79 (by decide) ?_
        exact hk56 (x4 + 1) (upd c_cells ((40 * x1) + x4).toNatClampNeg 0) c_lanes c_lengths H locs ls hf hP hD hS (lv_sub hl [1, 2, 0] rfl)
  unfold fX9_sheet at hf
  obtain ⟨H, hH⟩ : ∃ H : Heap, H = s.heap := ⟨_, rfl⟩
  obtain ⟨locs, hlo⟩ : ∃ locs : List Loc, locs = [] := ⟨_, rfl⟩
  have hP : va_P D vwCl [(a9 0, .inr (9, fl9 a9 i9 g9)), ((a9 27), .inl (cyI, 160, .inl c_cells)), ((a9 25), .inl (cyI, 4, .inl c_lanes)), ((a9 26), .inl (cyI, 4, .inl c_lengths))] H := by rw [hH]; exact hP
  have hS : va_S A s.heap H locs := by rw [hH, hlo]; exact hS
  suffices hw : W p l e rmX9_sheet s m av below meth c H locs 0 0 Q (F0 m 0 ls []) by rw [hH, hlo] at hw; exact hw
  refine lv_iload_n hx hb dX9_sheet_0 rfl (lv_at hl 1 rfl) ?_
  refine lv_i2l hx hb dX9_sheet_1 rfl ?_
  refine lv_lconst (v := 0) hx hb dX9_sheet_2 (by decide) ?_
  refine lv_ldc2 (v := 3) hx hb hown w1 dX9_sheet_3 ?_
  obtain ⟨q6, e6, hf⟩ := pb_some hf
  refine cc_i (wc := []) (wr := [(a9 0, .inr (9, fl9 a9 i9 g9)), ((a9 27), .inl (cyI, 160, .inl c_cells)), ((a9 25), .inl (cyI, 4, .inl c_lanes)), ((a9 26), .inl (cyI, 4, .inl c_lengths))]) (w1 := []) (wn := [(a9 0, .inr (9, fl9 a9 i9 g9)), ((a9 27), .inl (cyI, 160, .inl c_cells)), ((a9 25), .inl (cyI, 4, .inl c_lanes)), ((a9 26), .inl (cyI, 4, .inl c_lengths))]) hP hD hS hA [] [0, 1, 2, 3] [0, 1, 2, 3] rfl rfl rfl (by decide) rfl rfl (va_runS (As := [.long ((x1 : Int32).toInt64), .long 0, .long 3]) (rest := []) ⟨hx, hb, hml, hown, hL⟩ (mX9_in l D cyI cyJ cyB cyS N H.size   ((x1 : Int32).toInt64) 0 3 q6 e6) (va_cwS 3 hL (gS (hR8 7 rfl) (hR8 8 rfl) (hR1 5 rfl) (hR8 9 rfl)) rfl rfl rfl (by decide +kernel) ⟨Nat.le_of_ble_eq_true rfl, Nat.le_of_ble_eq_true rfl⟩) (PP_preS hP hD hK [] rfl rfl) rfl rfl hl.1 rfl (lv_room (Nat.le_of_ble_eq_true rfl)) dX9_sheet_6 ⟨Nat.le_of_ble_eq_true rfl, Nat.le_of_ble_eq_true rfl⟩) (fun H locs hP hD hS => ?_)
  refine lv_if_eq (tgt := 30) hx hb dX9_sheet_9 (by decide) (fun c9 => ?_) (fun c9 => ?_)
  · have hf := pif_t c9 hf
    exact hB30 c_cells c_lanes c_lengths H locs ls hf hP hD hS (lv_sub hl [] rfl)
  · have hf := pif_f c9 hf
    refine lv_iload_n hx hb dX9_sheet_12 rfl (lv_at hl 2 rfl) ?_
    refine lv_i2l hx hb dX9_sheet_13 rfl ?_
    refine lv_lconst (v := 0) hx hb dX9_sheet_14 (by decide) ?_
    refine lv_ldc2 (v := 2) hx hb hown w3 dX9_sheet_15 ?_
    obtain ⟨q18, e18, hf⟩ := pb_some hf
    refine cc_i (wc := []) (wr := [(a9 0, .inr (9, fl9 a9 i9 g9)), ((a9 27), .inl (cyI, 160, .inl c_cells)), ((a9 25), .inl (cyI, 4, .inl c_lanes)), ((a9 26), .inl (cyI, 4, .inl c_lengths))]) (w1 := []) (wn := [(a9 0, .inr (9, fl9 a9 i9 g9)), ((a9 27), .inl (cyI, 160, .inl c_cells)), ((a9 25), .inl (cyI, 4, .inl c_lanes)), ((a9 26), .inl (cyI, 4, .inl c_lengths))]) hP hD hS hA [] [0, 1, 2, 3] [0, 1, 2, 3] rfl rfl rfl (by decide) rfl rfl (va_runS (As := [.long ((x2 : Int32).toInt64), .long 0, .long 2]) (rest := []) ⟨hx, hb, hml, hown, hL⟩ (mX9_in l D cyI cyJ cyB cyS N H.size   ((x2 : Int32).toInt64) 0 2 q18 e18) (va_cwS 3 hL (gS (hR8 7 rfl) (hR8 8 rfl) (hR1 5 rfl) (hR8 9 rfl)) rfl rfl rfl (by decide +kernel) ⟨Nat.le_of_ble_eq_true rfl, Nat.le_of_ble_eq_true rfl⟩) (PP_preS hP hD hK [] rfl rfl) rfl rfl hl.1 rfl (lv_room (Nat.le_of_ble_eq_true rfl)) dX9_sheet_18 ⟨Nat.le_of_ble_eq_true rfl, Nat.le_of_ble_eq_true rfl⟩) (fun H locs hP hD hS => ?_)
    refine lv_if_eq (tgt := 30) hx hb dX9_sheet_21 (by decide) (fun c21 => ?_) (fun c21 => ?_)
    · have hf := pif_t c21 hf
      exact hB30 c_cells c_lanes c_lengths H locs ls hf hP hD hS (lv_sub hl [] rfl)
    · have hf := pif_f c21 hf
      refine lv_iload_n hx hb dX9_sheet_24 rfl (lv_at hl 3 rfl) ?_
      refine lv_bipush (v := 40) hx hb dX9_sheet_25 (by decide) ?_
      refine lv_icmp_le (tgt := 32) hx hb dX9_sheet_27 (by decide) (fun c27 => ?_) (fun c27 => ?_)
      · have hf := pif_t c27 hf
        refine lv_iload_n hx hb dX9_sheet_32 rfl (lv_at hl 3 rfl) ?_
        refine lv_if_ge (tgt := 39) hx hb dX9_sheet_33 (by decide) (fun c33 => ?_) (fun c33 => ?_)
        · have hf := pif_t c33 hf
          refine lv_aload_n hx hb dX9_sheet_39 rfl (lv_at hl 0 rfl) ?_
          refine va_get (D := D) (ci := 9) (v := .ref (a9 25)) (C := RX9) (T := TX9) (N := 52) hx hb hL inlX9 hown hK.1 hP 0 rfl rfl 48 (by decide) w4 (fun _ h9 => h9) rfl dX9_sheet_40 ?_
          refine lv_iload_n hx hb dX9_sheet_43 rfl (lv_at hl 1 rfl) ?_
          refine lv_iload_n hx hb dX9_sheet_44 rfl (lv_at hl 2 rfl) ?_
          obtain ⟨h45, hf⟩ := pg_some hf
          refine va_iast hx hb hK.1 hP hD hS 2 0 rfl rfl h45 dX9_sheet_45 (fun H locs hP hD hS => ?_)
          have hP : va_P D vwCl [(a9 0, .inr (9, fl9 a9 i9 g9)), ((a9 27), .inl (cyI, 160, .inl c_cells)), ((a9 25), .inl (cyI, 4, .inl (upd c_lanes x1.toNatClampNeg x2))), ((a9 26), .inl (cyI, 4, .inl c_lengths))] H := hP
          have hD : va_D A [(a9 0, .inr (9, fl9 a9 i9 g9)), ((a9 27), .inl (cyI, 160, .inl c_cells)), ((a9 25), .inl (cyI, 4, .inl (upd c_lanes x1.toNatClampNeg x2))), ((a9 26), .inl (cyI, 4, .inl c_lengths))] := hD
          refine lv_aload_n hx hb dX9_sheet_46 rfl (lv_at hl 0 rfl) ?_
          refine va_get (D := D) (ci := 9) (v := .ref (a9 26)) (C := RX9) (T := TX9) (N := 52) hx hb hL inlX9 hown hK.1 hP 0 rfl rfl 49 (by decide) w5 (fun _ h9 => h9) rfl dX9_sheet_47 ?_
          refine lv_iload_n hx hb dX9_sheet_50 rfl (lv_at hl 1 rfl) ?_
          refine lv_iload_n hx hb dX9_sheet_51 rfl (lv_at hl 3 rfl) ?_
          obtain ⟨h52, hf⟩ := pg_some hf
          refine va_iast hx hb hK.1 hP hD hS 3 0 rfl rfl h52 dX9_sheet_52 (fun H locs hP hD hS => ?_)
          have hP : va_P D vwCl [(a9 0, .inr (9, fl9 a9 i9 g9)), ((a9 27), .inl (cyI, 160, .inl c_cells)), ((a9 25), .inl (cyI, 4, .inl (upd c_lanes x1.toNatClampNeg x2))), ((a9 26), .inl (cyI, 4, .inl (upd c_lengths x1.toNatClampNeg x3)))] H := hP
          have hD : va_D A [(a9 0, .inr (9, fl9 a9 i9 g9)), ((a9 27), .inl (cyI, 160, .inl c_cells)), ((a9 25), .inl (cyI, 4, .inl (upd c_lanes x1.toNatClampNeg x2))), ((a9 26), .inl (cyI, 4, .inl (upd c_lengths x1.toNatClampNeg x3)))] := hD
          refine lv_iconst (v := 0) hx hb dX9_sheet_53 (by decide) ?_
          refine lv_istore (lv' := [(4, .int 0), (0, .ref (a9 0)), (1, .int x1), (2, .int x2), (3, .int x3)]) hx hb dX9_sheet_54 hl (by decide) rfl (fun ls hl => ?_)
          exact hB56 N 0 c_cells (upd c_lanes x1.toNatClampNeg x2) (upd c_lengths x1.toNatClampNeg x3) H locs ls hf hP hD hS (lv_sub hl [1, 2, 0] rfl)
        · have hf := pif_f c33 hf
          refine lv_bipush (v := (-14)) hx hb dX9_sheet_36 (by decide) ?_
          exact ret_i (q := q) (g := fun q => q.1) (wp := fun q => [(a9 0, .inr (9, fl9 a9 i9 g9)), ((a9 27), .inl (cyI, 160, .inl q.2.1)), ((a9 25), .inl (cyI, 4, .inl q.2.2.1)), ((a9 26), .inl (cyI, 4, .inl q.2.2.2))]) hQ hf hx hb hr hlocks hP hD hS dX9_sheet_38 rfl
      · have hf := pif_f c27 hf
        exact hB30 c_cells c_lanes c_lengths H locs ls hf hP hD hS (lv_sub hl [] rfl)
abbrev rmX9_lay : Room := { frames := 1, cells := 0, slots := 0, locals := 25 }
set_option maxHeartbeats 40000000 in
set_option maxRecDepth 100000 in
theorem mX9_lay (l : Launch) (D : va_G) (cyI cyJ cyB cyS : ClassId) (N : Nat) (sz : Nat) (a9 : Nat → Nat) (i9 : Nat → Int32) (g9 : Nat → Int64) (c_cells : Nat → Int32) (c_lanes : Nat → Int32) (c_lengths : Nat → Int32) (x1 : Int32) (x2 : Int32) (x3 : Int32) (q : Int32 × (Nat → Int32)) (hf : fX9_lay N c_cells c_lanes c_lengths x1 x2 x3 = some q) : Met l yX9_lay (wS yX9_lay cX9_lay 4 (some .int)) rmX9_lay (va_Pc [.ref (a9 0), .int x1, .int x2, .int x3] (PP D cyI cyJ cyB cyS [(a9 0, .inr (9, fl9 a9 i9 g9)), ((a9 27), .inl (cyI, 160, .inl c_cells)), ((a9 25), .inl (cyI, 4, .inl c_lanes)), ((a9 26), .inl (cyI, 4, .inl c_lengths))] sz)) (QI q.1 D [(a9 0, .inr (9, fl9 a9 i9 g9)), ((a9 27), .inl (cyI, 160, .inl q.2)), ((a9 25), .inl (cyI, 4, .inl c_lanes)), ((a9 26), .inl (cyI, 4, .inl c_lengths))] (va_A [(a9 0, .inr (9, fl9 a9 i9 g9)), ((a9 27), .inl (cyI, 160, .inl c_cells)), ((a9 25), .inl (cyI, 4, .inl c_lanes)), ((a9 26), .inl (cyI, 4, .inl c_lengths))] sz)) 0 0 (va_A [(a9 0, .inr (9, fl9 a9 i9 g9)), ((a9 27), .inl (cyI, 160, .inl c_cells)), ((a9 25), .inl (cyI, 4, .inl c_lanes)), ((a9 26), .inl (cyI, 4, .inl c_lengths))] sz) := by
  refine Met.ofW (cc := cX9_lay) (maxL := 4) (ret := (some .int)) (by decide) rfl ?_
  intro p e s m args below meth c s₁ B hml hv
  obtain ⟨rfl, hsz, hP, hK, hD0⟩ := hv
  have hx := B.exec
  have hb := B.bytes
  have hr := B.returns
  have hts := atoms_spec (ws := (wS yX9_lay cX9_lay 4 (some .int))) B.pre
  have hown : s.vm.findClass RX9 = some m.cls := findClass_of_methodNamed B.named
  have hlocks := B.notSynchronized
  subst hsz
  have hD := hD0.self (sz := s.heap.size)
  refine w_nameQ (fun Q hQ => ?_)
  have hl := lv_entry ([.ref (a9 0), .int x1, .int x2, .int x3] : List Value) (n := 4) (Nat.le_of_ble_eq_true rfl)
  rw [lg_entry_eq]
  generalize (lg_sl ([.ref (a9 0), .int x1, .int x2, .int x3] : List Value) ++ List.replicate (4 - (lg_sl ([.ref (a9 0), .int x1, .int x2, .int x3] : List Value)).length) Slot.unset).toArray = ls at hl ⊢
  have hl : lv_has ls 4 [(0, .ref (a9 0)), (1, .int x1), (2, .int x2), (3, .int x3)] := hl
  generalize hAe : va_A [(a9 0, .inr (9, fl9 a9 i9 g9)), ((a9 27), .inl (cyI, 160, .inl c_cells)), ((a9 25), .inl (cyI, 4, .inl c_lanes)), ((a9 26), .inl (cyI, 4, .inl c_lengths))] s.heap.size = A at hD hQ
  have hA : ∀ q : Nat, s.heap.size ≤ q → A q := fun q h => by rw [← hAe]; exact Or.inr h
  have hS : va_S A s.heap s.heap [] := va_S.rf
  generalize ([.ref (a9 0), .int x1, .int x2, .int x3] : List Value).toArray = av at hts hQ ⊢
  have hL : ∀ w ∈ wsL_law, w.before av s = true := fun w h => hts w (List.mem_cons_of_mem _ h)
  have w0 := hL (.constantLong RX9 353 3) (hR47 6 rfl)
  have w1 := hL (.static yX9_in) (hR8 8 rfl)
  have w2 := hL (.fieldLink RX9 83 "LosingLeagueModel" "lanes" "[I") (hR7 4 rfl)
  have w3 := hL (.fieldLink RX9 86 "LosingLeagueModel" "lengths" "[I") (hR7 5 rfl)
  have w4 := hL (.fieldLink RX9 89 "LosingLeagueModel" "cells" "[I") (hR7 6 rfl)
  have hB99 : ∀ (s1 : Int32) (s2 : Int32) (c_cells : Nat → Int32) (H : Heap) (locs : List Loc) (ls : Array Slot), fX9_lay_99 N c_lanes c_lengths x1 x2 x3 s1 s2 c_cells = some q → va_P D vwCl [(a9 0, .inr (9, fl9 a9 i9 g9)), ((a9 27), .inl (cyI, 160, .inl c_cells)), ((a9 25), .inl (cyI, 4, .inl c_lanes)), ((a9 26), .inl (cyI, 4, .inl c_lengths))] H → va_D A [(a9 0, .inr (9, fl9 a9 i9 g9)), ((a9 27), .inl (cyI, 160, .inl c_cells)), ((a9 25), .inl (cyI, 4, .inl c_lanes)), ((a9 26), .inl (cyI, 4, .inl c_lengths))] → va_S A s.heap H locs → lv_has ls 4 [] → W p l e rmX9_lay s m av below meth c H locs 0 0 Q (F0 m 99 ls [.int s2, .int s1, .ref (a9 27)]) := by
    intro s1 s2 c_cells H locs ls hf hP hD hS hl
    unfold fX9_lay_99 at hf
    obtain ⟨h99, hf⟩ := pg_some hf
    refine va_iast hx hb hK.1 hP hD hS 1 0 rfl rfl h99 dX9_lay_99 (fun H locs hP hD hS => ?_)
    have hP : va_P D vwCl [(a9 0, .inr (9, fl9 a9 i9 g9)), ((a9 27), .inl (cyI, 160, .inl (upd c_cells s1.toNatClampNeg s2))), ((a9 25), .inl (cyI, 4, .inl c_lanes)), ((a9 26), .inl (cyI, 4, .inl c_lengths))] H := hP
    have hD : va_D A [(a9 0, .inr (9, fl9 a9 i9 g9)), ((a9 27), .inl (cyI, 160, .inl (upd c_cells s1.toNatClampNeg s2))), ((a9 25), .inl (cyI, 4, .inl c_lanes)), ((a9 26), .inl (cyI, 4, .inl c_lengths))] := hD
    refine lv_iconst (v := 1) hx hb dX9_lay_100 (by decide) ?_
    exact ret_i (q := q) (g := fun q => q.1) (wp := fun q => [(a9 0, .inr (9, fl9 a9 i9 g9)), ((a9 27), .inl (cyI, 160, .inl q.2)), ((a9 25), .inl (cyI, 4, .inl c_lanes)), ((a9 26), .inl (cyI, 4, .inl c_lengths))]) hQ hf hx hb hr hlocks hP hD hS dX9_lay_101 rfl
  unfold fX9_lay at hf
  obtain ⟨H, hH⟩ : ∃ H : Heap, H = s.heap := ⟨_, rfl⟩
  obtain ⟨locs, hlo⟩ : ∃ locs : List Loc, locs = [] := ⟨_, rfl⟩
  have hP : va_P D vwCl [(a9 0, .inr (9, fl9 a9 i9 g9)), ((a9 27), .inl (cyI, 160, .inl c_cells)), ((a9 25), .inl (cyI, 4, .inl c_lanes)), ((a9 26), .inl (cyI, 4, .inl c_lengths))] H := by rw [hH]; exact hP
  have hS : va_S A s.heap H locs := by rw [hH, hlo]; exact hS
  suffices hw : W p l e rmX9_lay s m av below meth c H locs 0 0 Q (F0 m 0 ls []) by rw [hH, hlo] at hw; exact hw
  refine lv_iload_n hx hb dX9_lay_0 rfl (lv_at hl 1 rfl) ?_
  refine lv_i2l hx hb dX9_lay_1 rfl ?_
  refine lv_lconst (v := 0) hx hb dX9_lay_2 (by decide) ?_
  refine lv_ldc2 (v := 3) hx hb hown w0 dX9_lay_3 ?_
  obtain ⟨q6, e6, hf⟩ := pb_some hf
  refine cc_i (wc := []) (wr := [(a9 0, .inr (9, fl9 a9 i9 g9)), ((a9 27), .inl (cyI, 160, .inl c_cells)), ((a9 25), .inl (cyI, 4, .inl c_lanes)), ((a9 26), .inl (cyI, 4, .inl c_lengths))]) (w1 := []) (wn := [(a9 0, .inr (9, fl9 a9 i9 g9)), ((a9 27), .inl (cyI, 160, .inl c_cells)), ((a9 25), .inl (cyI, 4, .inl c_lanes)), ((a9 26), .inl (cyI, 4, .inl c_lengths))]) hP hD hS hA [] [0, 1, 2, 3] [0, 1, 2, 3] rfl rfl rfl (by decide) rfl rfl (va_runS (As := [.long ((x1 : Int32).toInt64), .long 0, .long 3]) (rest := []) ⟨hx, hb, hml, hown, hL⟩ (mX9_in l D cyI cyJ cyB cyS N H.size   ((x1 : Int32).toInt64) 0 3 q6 e6) (va_cwS 3 hL (gS (hR8 7 rfl) (hR8 8 rfl) (hR1 5 rfl) (hR8 9 rfl)) rfl rfl rfl (by decide +kernel) ⟨Nat.le_of_ble_eq_true rfl, Nat.le_of_ble_eq_true rfl⟩) (PP_preS hP hD hK [] rfl rfl) rfl rfl hl.1 rfl (lv_room (Nat.le_of_ble_eq_true rfl)) dX9_lay_6 ⟨Nat.le_of_ble_eq_true rfl, Nat.le_of_ble_eq_true rfl⟩) (fun H locs hP hD hS => ?_)
  refine lv_if_ne (tgt := 14) hx hb dX9_lay_9 (by decide) (fun c9 => ?_) (fun c9 => ?_)
  · have hf := pif_f c9 hf
    refine lv_aload_n hx hb dX9_lay_14 rfl (lv_at hl 0 rfl) ?_
    refine va_get (D := D) (ci := 9) (v := .ref (a9 25)) (C := RX9) (T := TX9) (N := 52) hx hb hL inlX9 hown hK.1 hP 0 rfl rfl 48 (by decide) w2 (fun _ h9 => h9) rfl dX9_lay_15 ?_
    refine lv_iload_n hx hb dX9_lay_18 rfl (lv_at hl 1 rfl) ?_
    obtain ⟨h19, hf⟩ := pg_some hf
    refine va_iald hx hb hK.1 hP 2 0 rfl rfl h19 dX9_lay_19 ?_
    refine lv_bipush (v := (-4)) hx hb dX9_lay_20 (by decide) ?_
    refine lv_icmp_ne (tgt := 28) hx hb dX9_lay_22 (by decide) (fun c22 => ?_) (fun c22 => ?_)
    · have hf := pif_f c22 hf
      refine lv_iload_n hx hb dX9_lay_28 rfl (lv_at hl 2 rfl) ?_
      refine lv_i2l hx hb dX9_lay_29 rfl ?_
      refine lv_lconst (v := 0) hx hb dX9_lay_30 (by decide) ?_
      refine lv_aload_n hx hb dX9_lay_31 rfl (lv_at hl 0 rfl) ?_
      refine va_get (D := D) (ci := 9) (v := .ref (a9 26)) (C := RX9) (T := TX9) (N := 52) hx hb hL inlX9 hown hK.1 hP 0 rfl rfl 49 (by decide) w3 (fun _ h9 => h9) rfl dX9_lay_32 ?_
      refine lv_iload_n hx hb dX9_lay_35 rfl (lv_at hl 1 rfl) ?_
      obtain ⟨h36, hf⟩ := pg_some hf
      refine va_iald hx hb hK.1 hP 3 0 rfl rfl h36 dX9_lay_36 ?_
      refine lv_iconst (v := 1) hx hb dX9_lay_37 (by decide) ?_
      refine lv_isub hx hb dX9_lay_38 ?_
      refine lv_i2l hx hb dX9_lay_39 rfl ?_
      obtain ⟨q40, e40, hf⟩ := pb_some hf
      refine cc_i (wc := []) (wr := [(a9 0, .inr (9, fl9 a9 i9 g9)), ((a9 27), .inl (cyI, 160, .inl c_cells)), ((a9 25), .inl (cyI, 4, .inl c_lanes)), ((a9 26), .inl (cyI, 4, .inl c_lengths))]) (w1 := []) (wn := [(a9 0, .inr (9, fl9 a9 i9 g9)), ((a9 27), .inl (cyI, 160, .inl c_cells)), ((a9 25), .inl (cyI, 4, .inl c_lanes)), ((a9 26), .inl (cyI, 4, .inl c_lengths))]) hP hD hS hA [] [0, 1, 2, 3] [0, 1, 2, 3] rfl rfl rfl (by decide) rfl rfl (va_runS (As := [.long ((x2 : Int32).toInt64), .long 0, .long (((c_lengths x1.toNatClampNeg) - 1 : Int32).toInt64)]) (rest := []) ⟨hx, hb, hml, hown, hL⟩ (mX9_in l D cyI cyJ cyB cyS N H.size   ((x2 : Int32).toInt64) 0 (((c_lengths x1.toNatClampNeg) - 1 : Int32).toInt64) q40 e40) (va_cwS 3 hL (gS (hR8 7 rfl) (hR8 8 rfl) (hR1 5 rfl) (hR8 9 rfl)) rfl rfl rfl (by decide +kernel) ⟨Nat.le_of_ble_eq_true rfl, Nat.le_of_ble_eq_true rfl⟩) (PP_preS hP hD hK [] rfl rfl) rfl rfl hl.1 rfl (lv_room (Nat.le_of_ble_eq_true rfl)) dX9_lay_40 ⟨Nat.le_of_ble_eq_true rfl, Nat.le_of_ble_eq_true rfl⟩) (fun H locs hP hD hS => ?_)
      refine lv_if_ne (tgt := 49) hx hb dX9_lay_43 (by decide) (fun c43 => ?_) (fun c43 => ?_)
      · have hf := pif_f c43 hf
        refine lv_aload_n hx hb dX9_lay_49 rfl (lv_at hl 0 rfl) ?_
        refine va_get (D := D) (ci := 9) (v := .ref (a9 27)) (C := RX9) (T := TX9) (N := 52) hx hb hL inlX9 hown hK.1 hP 0 rfl rfl 50 (by decide) w4 (fun _ h9 => h9) rfl dX9_lay_50 ?_
        refine lv_bipush (v := 40) hx hb dX9_lay_53 (by decide) ?_
        refine lv_iload_n hx hb dX9_lay_55 rfl (lv_at hl 1 rfl) ?_
        refine lv_imul hx hb dX9_lay_56 ?_
        refine lv_iload_n hx hb dX9_lay_57 rfl (lv_at hl 2 rfl) ?_
        refine lv_iadd hx hb dX9_lay_58 ?_
        refine lv_aload_n hx hb dX9_lay_59 rfl (lv_at hl 0 rfl) ?_
        refine va_get (D := D) (ci := 9) (v := .ref (a9 25)) (C := RX9) (T := TX9) (N := 52) hx hb hL inlX9 hown hK.1 hP 0 rfl rfl 48 (by decide) w2 (fun _ h9 => h9) rfl dX9_lay_60 ?_
        refine lv_iload_n hx hb dX9_lay_63 rfl (lv_at hl 1 rfl) ?_
        obtain ⟨h64, hf⟩ := pg_some hf
        refine va_iald hx hb hK.1 hP 2 0 rfl rfl h64 dX9_lay_64 ?_
        refine lv_if_ne (tgt := 78) hx hb dX9_lay_65 (by decide) (fun c65 => ?_) (fun c65 => ?_)
        · have hf := pif_f c65 hf
          refine lv_aload_n hx hb dX9_lay_78 rfl (lv_at hl 0 rfl) ?_
          refine va_get (D := D) (ci := 9) (v := .ref (a9 25)) (C := RX9) (T := TX9) (N := 52) hx hb hL inlX9 hown hK.1 hP 0 rfl rfl 48 (by decide) w2 (fun _ h9 => h9) rfl dX9_lay_79 ?_
          refine lv_iload_n hx hb dX9_lay_82 rfl (lv_at hl 1 rfl) ?_
          obtain ⟨h83, hf⟩ := pg_some hf
          refine va_iald hx hb hK.1 hP 2 0 rfl rfl h83 dX9_lay_83 ?_
          refine lv_iconst (v := 1) hx hb dX9_lay_84 (by decide) ?_
          refine lv_icmp_ne (tgt := 98) hx hb dX9_lay_85 (by decide) (fun c85 => ?_) (fun c85 => ?_)
          · have hf := pif_f c85 hf
            refine lv_iload_n hx hb dX9_lay_98 rfl (lv_at hl 3 rfl) ?_
            exact hB99 ((40 * x1) + x2) x3 c_cells H locs ls hf hP hD hS (lv_sub hl [] rfl)
          · have hf := pif_t c85 hf
            refine lv_iload_n hx hb dX9_lay_88 rfl (lv_at hl 3 rfl) ?_
            refine lv_bipush (v := 16) hx hb dX9_lay_89 (by decide) ?_
            refine lv_ishl hx hb dX9_lay_91 ?_
            refine lv_bipush (v := 16) hx hb dX9_lay_92 (by decide) ?_
            refine lv_ishr hx hb dX9_lay_94 ?_
            refine lv_goto (tgt := 99) hx hb dX9_lay_95 (by decide) ?_
            exact hB99 ((40 * x1) + x2) ((x3 <<< ((16 : Int32) &&& 31)) >>> ((16 : Int32) &&& 31)) c_cells H locs ls hf hP hD hS (lv_sub hl [] rfl)
        · have hf := pif_t c65 hf
          refine lv_iload_n hx hb dX9_lay_68 rfl (lv_at hl 3 rfl) ?_
          refine lv_bipush (v := 24) hx hb dX9_lay_69 (by decide) ?_
          refine lv_ishl hx hb dX9_lay_71 ?_
          refine lv_bipush (v := 24) hx hb dX9_lay_72 (by decide) ?_
          refine lv_ishr hx hb dX9_lay_74 ?_
          refine lv_goto (tgt := 99) hx hb dX9_lay_75 (by decide) ?_
          exact hB99 ((40 * x1) + x2) ((x3 <<< ((24 : Int32) &&& 31)) >>> ((24 : Int32) &&& 31)) c_cells H locs ls hf hP hD hS (lv_sub hl [] rfl)
      · have hf := pif_t c43 hf
        refine lv_bipush (v := (-12)) hx hb dX9_lay_46 (by decide) ?_
        exact ret_i (q := q) (g := fun q => q.1) (wp := fun q => [(a9 0, .inr (9, fl9 a9 i9 g9)), ((a9 27), .inl (cyI, 160, .inl q.2)), ((a9 25), .inl (cyI, 4, .inl c_lanes)), ((a9 26), .inl (cyI, 4, .inl c_lengths))]) hQ hf hx hb hr hlocks hP hD hS dX9_lay_48 rfl
    · have hf := pif_t c22 hf
      refine lv_bipush (v := (-11)) hx hb dX9_lay_25 (by decide) ?_
      exact ret_i (q := q) (g := fun q => q.1) (wp := fun q => [(a9 0, .inr (9, fl9 a9 i9 g9)), ((a9 27), .inl (cyI, 160, .inl q.2)), ((a9 25), .inl (cyI, 4, .inl c_lanes)), ((a9 26), .inl (cyI, 4, .inl c_lengths))]) hQ hf hx hb hr hlocks hP hD hS dX9_lay_27 rfl
  · have hf := pif_t c9 hf
    refine lv_iconst (v := (-1)) hx hb dX9_lay_12 (by decide) ?_
    exact ret_i (q := q) (g := fun q => q.1) (wp := fun q => [(a9 0, .inr (9, fl9 a9 i9 g9)), ((a9 27), .inl (cyI, 160, .inl q.2)), ((a9 25), .inl (cyI, 4, .inl c_lanes)), ((a9 26), .inl (cyI, 4, .inl c_lengths))]) hQ hf hx hb hr hlocks hP hD hS dX9_lay_13 rfl
abbrev rmX9_read : Room := { frames := 1, cells := 0, slots := 0, locals := 25 }
set_option maxHeartbeats 40000000 in
set_option maxRecDepth 100000 in
theorem mX9_read (l : Launch) (D : va_G) (cyI cyJ cyB cyS : ClassId) (N : Nat) (sz : Nat) (a9 : Nat → Nat) (i9 : Nat → Int32) (g9 : Nat → Int64) (c_cells : Nat → Int32) (c_goes : Nat → Int32) (c_lanes : Nat → Int32) (c_lengths : Nat → Int32) (c_many : Nat → Int32) (x1 : Int32) (x2 : Int32) (x3 : Int32) (x4 : Int32) (x5 : Int32) (q : Int32 × Int32 × (Nat → Int32)) (hf : fX9_read N (i9 21) c_cells c_goes c_lanes c_lengths c_many x1 x2 x3 x4 x5 = some q) : Met l yX9_read (wS yX9_read cX9_read 11 (some .int)) rmX9_read (va_Pc [.ref (a9 0), .int x1, .int x2, .int x3, .int x4, .int x5] (PP D cyI cyJ cyB cyS [(a9 0, .inr (9, fl9 a9 i9 g9)), ((a9 27), .inl (cyI, 160, .inl c_cells)), ((a9 11), .inl (cyI, 60, .inl c_goes)), ((a9 25), .inl (cyI, 4, .inl c_lanes)), ((a9 26), .inl (cyI, 4, .inl c_lengths)), ((a9 12), .inl (cyI, 2, .inl c_many))] sz)) (QI q.1 D [(a9 0, .inr (9, fl9 a9 (va_up i9 21 q.2.1) g9)), ((a9 27), .inl (cyI, 160, .inl c_cells)), ((a9 11), .inl (cyI, 60, .inl q.2.2)), ((a9 25), .inl (cyI, 4, .inl c_lanes)), ((a9 26), .inl (cyI, 4, .inl c_lengths)), ((a9 12), .inl (cyI, 2, .inl c_many))] (va_A [(a9 0, .inr (9, fl9 a9 i9 g9)), ((a9 27), .inl (cyI, 160, .inl c_cells)), ((a9 11), .inl (cyI, 60, .inl c_goes)), ((a9 25), .inl (cyI, 4, .inl c_lanes)), ((a9 26), .inl (cyI, 4, .inl c_lengths)), ((a9 12), .inl (cyI, 2, .inl c_many))] sz)) 0 0 (va_A [(a9 0, .inr (9, fl9 a9 i9 g9)), ((a9 27), .inl (cyI, 160, .inl c_cells)), ((a9 11), .inl (cyI, 60, .inl c_goes)), ((a9 25), .inl (cyI, 4, .inl c_lanes)), ((a9 26), .inl (cyI, 4, .inl c_lengths)), ((a9 12), .inl (cyI, 2, .inl c_many))] sz) := by
  refine Met.ofW (cc := cX9_read) (maxL := 11) (ret := (some .int)) (by decide) rfl ?_
  intro p e s m args below meth c s₁ B hml hv
  obtain ⟨rfl, hsz, hP, hK, hD0⟩ := hv
  have hx := B.exec
  have hb := B.bytes
  have hr := B.returns
  have hts := atoms_spec (ws := (wS yX9_read cX9_read 11 (some .int))) B.pre
  have hown : s.vm.findClass RX9 = some m.cls := findClass_of_methodNamed B.named
  have hlocks := B.notSynchronized
  subst hsz
  have hD := hD0.self (sz := s.heap.size)
  refine w_nameQ (fun Q hQ => ?_)
  have hl := lv_entry ([.ref (a9 0), .int x1, .int x2, .int x3, .int x4, .int x5] : List Value) (n := 11) (Nat.le_of_ble_eq_true rfl)
  rw [lg_entry_eq]
  generalize (lg_sl ([.ref (a9 0), .int x1, .int x2, .int x3, .int x4, .int x5] : List Value) ++ List.replicate (11 - (lg_sl ([.ref (a9 0), .int x1, .int x2, .int x3, .int x4, .int x5] : List Value)).length) Slot.unset).toArray = ls at hl ⊢
  have hl : lv_has ls 11 [(0, .ref (a9 0)), (1, .int x1), (2, .int x2), (3, .int x3), (4, .int x4), (5, .int x5)] := hl
  generalize hAe : va_A [(a9 0, .inr (9, fl9 a9 i9 g9)), ((a9 27), .inl (cyI, 160, .inl c_cells)), ((a9 11), .inl (cyI, 60, .inl c_goes)), ((a9 25), .inl (cyI, 4, .inl c_lanes)), ((a9 26), .inl (cyI, 4, .inl c_lengths)), ((a9 12), .inl (cyI, 2, .inl c_many))] s.heap.size = A at hD hQ
  have hA : ∀ q : Nat, s.heap.size ≤ q → A q := fun q h => by rw [← hAe]; exact Or.inr h
  have hS : va_S A s.heap s.heap [] := va_S.rf
  generalize ([.ref (a9 0), .int x1, .int x2, .int x3, .int x4, .int x5] : List Value).toArray = av at hts hQ ⊢
  have hL : ∀ w ∈ wsL_law, w.before av s = true := fun w h => hts w (List.mem_cons_of_mem _ h)
  have w0 := hL (.fieldLink RX9 89 "LosingLeagueModel" "cells" "[I") (hR7 6 rfl)
  have w1 := hL (.constantLong RX9 196 2) (hR22 10 rfl)
  have w2 := hL (.static yX9_in) (hR8 8 rfl)
  have w3 := hL (.fieldLink RX9 40 "LosingLeagueModel" "goes" "[I") (hR6 14 rfl)
  have w4 := hL (.fieldLink RX9 357 "LosingLeagueModel" "torn" "I") (hR49 1 rfl)
  have w5 := hL (.fieldLink RX9 83 "LosingLeagueModel" "lanes" "[I") (hR7 4 rfl)
  have w6 := hL (.fieldLink RX9 86 "LosingLeagueModel" "lengths" "[I") (hR7 5 rfl)
  have w7 := hL (.constantLong RX9 353 3) (hR47 6 rfl)
  have w8 := hL (.constantLong RX9 355 30) (hR49 0 rfl)
  have w9 := hL (.fieldLink RX9 43 "LosingLeagueModel" "many" "[I") (hR6 15 rfl)
  have hB60 : ∀ (v_torn : Int32) (c_goes : Nat → Int32) (H : Heap) (locs : List Loc) (ls : Array Slot), fX9_read_60 N c_cells c_lanes c_lengths c_many x1 x2 x3 x4 x5 v_torn c_goes = some q → va_P D vwCl [(a9 0, .inr (9, fl9 a9 (va_up i9 21 v_torn) g9)), ((a9 27), .inl (cyI, 160, .inl c_cells)), ((a9 11), .inl (cyI, 60, .inl c_goes)), ((a9 25), .inl (cyI, 4, .inl c_lanes)), ((a9 26), .inl (cyI, 4, .inl c_lengths)), ((a9 12), .inl (cyI, 2, .inl c_many))] H → va_D A [(a9 0, .inr (9, fl9 a9 (va_up i9 21 v_torn) g9)), ((a9 27), .inl (cyI, 160, .inl c_cells)), ((a9 11), .inl (cyI, 60, .inl c_goes)), ((a9 25), .inl (cyI, 4, .inl c_lanes)), ((a9 26), .inl (cyI, 4, .inl c_lengths)), ((a9 12), .inl (cyI, 2, .inl c_many))] → va_S A s.heap H locs → lv_has ls 11 [] → W p l e rmX9_read s m av below meth c H locs 0 0 Q (F0 m 60 ls []) := by
    intro v_torn c_goes H locs ls hf hP hD hS hl
    unfold fX9_read_60 at hf
    refine lv_iconst (v := (-1)) hx hb dX9_read_60 (by decide) ?_
    exact ret_i (q := q) (g := fun q => q.1) (wp := fun q => [(a9 0, .inr (9, fl9 a9 (va_up i9 21 q.2.1) g9)), ((a9 27), .inl (cyI, 160, .inl c_cells)), ((a9 11), .inl (cyI, 60, .inl q.2.2)), ((a9 25), .inl (cyI, 4, .inl c_lanes)), ((a9 26), .inl (cyI, 4, .inl c_lengths)), ((a9 12), .inl (cyI, 2, .inl c_many))]) hQ hf hx hb hr hlocks hP hD hS dX9_read_61 rfl
  have hB189 : ∀ (k71 : Int32 → Int32 → Int32 → Int32 → (Nat → Int32) → Option (Int32 × Int32 × (Nat → Int32))) (hk71 : ∀ (x6 : Int32) (x7 : Int32) (x8 : Int32) (v_torn : Int32) (c_goes : Nat → Int32) (H : Heap) (locs : List Loc) (ls : Array Slot), k71 x6 x7 x8 v_torn c_goes = some q → va_P D vwCl [(a9 0, .inr (9, fl9 a9 (va_up i9 21 v_torn) g9)), ((a9 27), .inl (cyI, 160, .inl c_cells)), ((a9 11), .inl (cyI, 60, .inl c_goes)), ((a9 25), .inl (cyI, 4, .inl c_lanes)), ((a9 26), .inl (cyI, 4, .inl c_lengths)), ((a9 12), .inl (cyI, 2, .inl c_many))] H → va_D A [(a9 0, .inr (9, fl9 a9 (va_up i9 21 v_torn) g9)), ((a9 27), .inl (cyI, 160, .inl c_cells)), ((a9 11), .inl (cyI, 60, .inl c_goes)), ((a9 25), .inl (cyI, 4, .inl c_lanes)), ((a9 26), .inl (cyI, 4, .inl c_lengths)), ((a9 12), .inl (cyI, 2, .inl c_many))] → va_S A s.heap H locs → lv_has ls 11 [(0, .ref (a9 0)), (1, .int x1), (2, .int x2), (3, .int x3), (4, .int x4), (5, .int x5), (6, .int x6), (7, .int x7), (8, .int x8)] → W p l e rmX9_read s m av below meth c H locs 0 0 Q (F0 m 71 ls [])), ∀ (x6 : Int32) (x8 : Int32) (s0 : Int32) (s1 : Int32) (v_torn : Int32) (c_goes : Nat → Int32) (H : Heap) (locs : List Loc) (ls : Array Slot), fX9_read_189 N c_cells c_lanes c_lengths c_many x1 x2 x3 x4 x5 k71 x6 x8 s0 s1 v_torn c_goes = some q → va_P D vwCl [(a9 0, .inr (9, fl9 a9 (va_up i9 21 v_torn) g9)), ((a9 27), .inl (cyI, 160, .inl c_cells)), ((a9 11), .inl (cyI, 60, .inl c_goes)), ((a9 25), .inl (cyI, 4, .inl c_lanes)), ((a9 26), .inl (cyI, 4, .inl c_lengths)), ((a9 12), .inl (cyI, 2, .inl c_many))] H → va_D A [(a9 0, .inr (9, fl9 a9 (va_up i9 21 v_torn) g9)), ((a9 27), .inl (cyI, 160, .inl c_cells)), ((a9 11), .inl (cyI, 60, .inl c_goes)), ((a9 25), .inl (cyI, 4, .inl c_lanes)), ((a9 26), .inl (cyI, 4, .inl c_lengths)), ((a9 12), .inl (cyI, 2, .inl c_many))] → va_S A s.heap H locs → lv_has ls 11 [(0, .ref (a9 0)), (1, .int x1), (2, .int x2), (3, .int x3), (4, .int x4), (5, .int x5), (6, .int x6), (8, .int x8)] → W p l e rmX9_read s m av below meth c H locs 0 0 Q (F0 m 189 ls [.int s1, .int s0]) := by
    intro k71 hk71 x6 x8 s0 s1 v_torn c_goes H locs ls hf hP hD hS hl
    unfold fX9_read_189 at hf
    refine lv_iadd hx hb dX9_read_189 ?_
    refine lv_istore (lv' := [(7, .int (s0 + s1)), (0, .ref (a9 0)), (1, .int x1), (2, .int x2), (3, .int x3), (4, .int x4), (5, .int x5), (6, .int x6), (8, .int x8)]) hx hb dX9_read_190 hl (by decide) rfl (fun ls hl => ?_)
    refine lv_iinc (v := x8 + 1) (lv' := [(8, .int (x8 + 1)), (7, .int (s0 + s1)), (0, .ref (a9 0)), (1, .int x1), (2, .int x2), (3, .int x3), (4, .int x4), (5, .int x5), (6, .int x6)]) hx hb dX9_read_192 hl (k := 8) rfl rfl (by decide) rfl (fun ls hl => ?_)
    refine lv_goto (tgt := 71) hx hb dX9_read_195 (by decide) ?_
    exact hk71 x6 (s0 + s1) (x8 + 1) v_torn c_goes H locs ls hf hP hD hS (lv_sub hl [2, 3, 4, 5, 6, 7, 8, 1, 0] rfl)
  have hB177 : ∀ (k71 : Int32 → Int32 → Int32 → Int32 → (Nat → Int32) → Option (Int32 × Int32 × (Nat → Int32))) (hk71 : ∀ (x6 : Int32) (x7 : Int32) (x8 : Int32) (v_torn : Int32) (c_goes : Nat → Int32) (H : Heap) (locs : List Loc) (ls : Array Slot), k71 x6 x7 x8 v_torn c_goes = some q → va_P D vwCl [(a9 0, .inr (9, fl9 a9 (va_up i9 21 v_torn) g9)), ((a9 27), .inl (cyI, 160, .inl c_cells)), ((a9 11), .inl (cyI, 60, .inl c_goes)), ((a9 25), .inl (cyI, 4, .inl c_lanes)), ((a9 26), .inl (cyI, 4, .inl c_lengths)), ((a9 12), .inl (cyI, 2, .inl c_many))] H → va_D A [(a9 0, .inr (9, fl9 a9 (va_up i9 21 v_torn) g9)), ((a9 27), .inl (cyI, 160, .inl c_cells)), ((a9 11), .inl (cyI, 60, .inl c_goes)), ((a9 25), .inl (cyI, 4, .inl c_lanes)), ((a9 26), .inl (cyI, 4, .inl c_lengths)), ((a9 12), .inl (cyI, 2, .inl c_many))] → va_S A s.heap H locs → lv_has ls 11 [(0, .ref (a9 0)), (1, .int x1), (2, .int x2), (3, .int x3), (4, .int x4), (5, .int x5), (6, .int x6), (7, .int x7), (8, .int x8)] → W p l e rmX9_read s m av below meth c H locs 0 0 Q (F0 m 71 ls [])), ∀ (x6 : Int32) (x7 : Int32) (x8 : Int32) (v_torn : Int32) (c_goes : Nat → Int32) (H : Heap) (locs : List Loc) (ls : Array Slot), fX9_read_177 N c_cells c_lanes c_lengths c_many x1 x2 x3 x4 x5 k71 x6 x7 x8 v_torn c_goes = some q → va_P D vwCl [(a9 0, .inr (9, fl9 a9 (va_up i9 21 v_torn) g9)), ((a9 27), .inl (cyI, 160, .inl c_cells)), ((a9 11), .inl (cyI, 60, .inl c_goes)), ((a9 25), .inl (cyI, 4, .inl c_lanes)), ((a9 26), .inl (cyI, 4, .inl c_lengths)), ((a9 12), .inl (cyI, 2, .inl c_many))] H → va_D A [(a9 0, .inr (9, fl9 a9 (va_up i9 21 v_torn) g9)), ((a9 27), .inl (cyI, 160, .inl c_cells)), ((a9 11), .inl (cyI, 60, .inl c_goes)), ((a9 25), .inl (cyI, 4, .inl c_lanes)), ((a9 26), .inl (cyI, 4, .inl c_lengths)), ((a9 12), .inl (cyI, 2, .inl c_many))] → va_S A s.heap H locs → lv_has ls 11 [(0, .ref (a9 0)), (1, .int x1), (2, .int x2), (3, .int x3), (4, .int x4), (5, .int x5), (6, .int x6), (7, .int x7), (8, .int x8)] → W p l e rmX9_read s m av below meth c H locs 0 0 Q (F0 m 177 ls []) := by
    intro k71 hk71 x6 x7 x8 v_torn c_goes H locs ls hf hP hD hS hl
    unfold fX9_read_177 at hf
    refine lv_iload hx hb dX9_read_177 (lv_at hl 7 rfl) ?_
    refine lv_iload hx hb dX9_read_179 (lv_at hl 6 rfl) ?_
    refine lv_if_ne (tgt := 188) hx hb dX9_read_181 (by decide) (fun c181 => ?_) (fun c181 => ?_)
    · have hf := pif_f c181 hf
      refine lv_iconst (v := 0) hx hb dX9_read_188 (by decide) ?_
      exact hB189 k71 hk71 x6 x8 x7 0 v_torn c_goes H locs ls hf hP hD hS (lv_sub hl [0, 1, 2, 3, 4, 5, 6, 8] rfl)
    · have hf := pif_t c181 hf
      refine lv_iconst (v := 1) hx hb dX9_read_184 (by decide) ?_
      refine lv_goto (tgt := 189) hx hb dX9_read_185 (by decide) ?_
      exact hB189 k71 hk71 x6 x8 x7 1 v_torn c_goes H locs ls hf hP hD hS (lv_sub hl [0, 1, 2, 3, 4, 5, 6, 8] rfl)
  have hB139 : ∀ (k71 : Int32 → Int32 → Int32 → Int32 → (Nat → Int32) → Option (Int32 × Int32 × (Nat → Int32))) (hk71 : ∀ (x6 : Int32) (x7 : Int32) (x8 : Int32) (v_torn : Int32) (c_goes : Nat → Int32) (H : Heap) (locs : List Loc) (ls : Array Slot), k71 x6 x7 x8 v_torn c_goes = some q → va_P D vwCl [(a9 0, .inr (9, fl9 a9 (va_up i9 21 v_torn) g9)), ((a9 27), .inl (cyI, 160, .inl c_cells)), ((a9 11), .inl (cyI, 60, .inl c_goes)), ((a9 25), .inl (cyI, 4, .inl c_lanes)), ((a9 26), .inl (cyI, 4, .inl c_lengths)), ((a9 12), .inl (cyI, 2, .inl c_many))] H → va_D A [(a9 0, .inr (9, fl9 a9 (va_up i9 21 v_torn) g9)), ((a9 27), .inl (cyI, 160, .inl c_cells)), ((a9 11), .inl (cyI, 60, .inl c_goes)), ((a9 25), .inl (cyI, 4, .inl c_lanes)), ((a9 26), .inl (cyI, 4, .inl c_lengths)), ((a9 12), .inl (cyI, 2, .inl c_many))] → va_S A s.heap H locs → lv_has ls 11 [(0, .ref (a9 0)), (1, .int x1), (2, .int x2), (3, .int x3), (4, .int x4), (5, .int x5), (6, .int x6), (7, .int x7), (8, .int x8)] → W p l e rmX9_read s m av below meth c H locs 0 0 Q (F0 m 71 ls [])), ∀ (x7 : Int32) (x8 : Int32) (s0 : Int32) (v_torn : Int32) (c_goes : Nat → Int32) (H : Heap) (locs : List Loc) (ls : Array Slot), fX9_read_139 N c_cells c_lanes c_lengths c_many x1 x2 x3 x4 x5 k71 x7 x8 s0 v_torn c_goes = some q → va_P D vwCl [(a9 0, .inr (9, fl9 a9 (va_up i9 21 v_torn) g9)), ((a9 27), .inl (cyI, 160, .inl c_cells)), ((a9 11), .inl (cyI, 60, .inl c_goes)), ((a9 25), .inl (cyI, 4, .inl c_lanes)), ((a9 26), .inl (cyI, 4, .inl c_lengths)), ((a9 12), .inl (cyI, 2, .inl c_many))] H → va_D A [(a9 0, .inr (9, fl9 a9 (va_up i9 21 v_torn) g9)), ((a9 27), .inl (cyI, 160, .inl c_cells)), ((a9 11), .inl (cyI, 60, .inl c_goes)), ((a9 25), .inl (cyI, 4, .inl c_lanes)), ((a9 26), .inl (cyI, 4, .inl c_lengths)), ((a9 12), .inl (cyI, 2, .inl c_many))] → va_S A s.heap H locs → lv_has ls 11 [(0, .ref (a9 0)), (1, .int x1), (2, .int x2), (3, .int x3), (4, .int x4), (5, .int x5), (7, .int x7), (8, .int x8)] → W p l e rmX9_read s m av below meth c H locs 0 0 Q (F0 m 139 ls [.int s0]) := by
    intro k71 hk71 x7 x8 s0 v_torn c_goes H locs ls hf hP hD hS hl
    unfold fX9_read_139 at hf
    refine lv_istore (lv' := [(6, .int s0), (0, .ref (a9 0)), (1, .int x1), (2, .int x2), (3, .int x3), (4, .int x4), (5, .int x5), (7, .int x7), (8, .int x8)]) hx hb dX9_read_139 hl (by decide) rfl (fun ls hl => ?_)
    refine lv_iload hx hb dX9_read_141 (lv_at hl 0 rfl) ?_
    refine lv_if_ne (tgt := 177) hx hb dX9_read_143 (by decide) (fun c143 => ?_) (fun c143 => ?_)
    · have hf := pif_f c143 hf
      exact hB177 k71 hk71 s0 x7 x8 v_torn c_goes H locs ls hf hP hD hS (lv_sub hl [1, 2, 3, 4, 5, 6, 0, 7, 8] rfl)
    · have hf := pif_t c143 hf
      refine lv_aload_n hx hb dX9_read_146 rfl (lv_at hl 1 rfl) ?_
      refine va_get (D := D) (ci := 9) (v := .ref (a9 27)) (C := RX9) (T := TX9) (N := 52) hx hb hL inlX9 hown hK.1 hP 0 rfl rfl 50 (by decide) w0 (fun _ h9 => h9) rfl dX9_read_147 ?_
      refine lv_bipush (v := 40) hx hb dX9_read_150 (by decide) ?_
      refine lv_iload_n hx hb dX9_read_152 rfl (lv_at hl 2 rfl) ?_
      refine lv_imul hx hb dX9_read_153 ?_
      refine lv_iload_n hx hb dX9_read_154 rfl (lv_at hl 4 rfl) ?_
      refine lv_iadd hx hb dX9_read_155 ?_
      refine lv_iload hx hb dX9_read_156 (lv_at hl 8 rfl) ?_
      refine lv_iadd hx hb dX9_read_158 ?_
      obtain ⟨h159, hf⟩ := pg_some hf
      refine va_iald hx hb hK.1 hP 1 0 rfl rfl h159 dX9_read_159 ?_
      refine lv_i2l hx hb dX9_read_160 rfl ?_
      refine lv_lconst (v := 0) hx hb dX9_read_161 (by decide) ?_
      refine lv_ldc2 (v := 2) hx hb hown w1 dX9_read_162 ?_
      obtain ⟨q165, e165, hf⟩ := pb_some hf
      refine cc_i (wc := []) (wr := [(a9 0, .inr (9, fl9 a9 (va_up i9 21 v_torn) g9)), ((a9 27), .inl (cyI, 160, .inl c_cells)), ((a9 11), .inl (cyI, 60, .inl c_goes)), ((a9 25), .inl (cyI, 4, .inl c_lanes)), ((a9 26), .inl (cyI, 4, .inl c_lengths)), ((a9 12), .inl (cyI, 2, .inl c_many))]) (w1 := []) (wn := [(a9 0, .inr (9, fl9 a9 (va_up i9 21 v_torn) g9)), ((a9 27), .inl (cyI, 160, .inl c_cells)), ((a9 11), .inl (cyI, 60, .inl c_goes)), ((a9 25), .inl (cyI, 4, .inl c_lanes)), ((a9 26), .inl (cyI, 4, .inl c_lengths)), ((a9 12), .inl (cyI, 2, .inl c_many))]) hP hD hS hA [] [0, 1, 2, 3, 4, 5] [0, 1, 2, 3, 4, 5] rfl rfl rfl (by decide) rfl rfl (va_runS (As := [.long ((c_cells (((40 * x1) + x3) + x8).toNatClampNeg : Int32).toInt64), .long 0, .long 2]) (rest := []) ⟨hx, hb, hml, hown, hL⟩ (mX9_in l D cyI cyJ cyB cyS N H.size   ((c_cells (((40 * x1) + x3) + x8).toNatClampNeg : Int32).toInt64) 0 2 q165 e165) (va_cwS 3 hL (gS (hR8 7 rfl) (hR8 8 rfl) (hR1 5 rfl) (hR8 9 rfl)) rfl rfl rfl (by decide +kernel) ⟨Nat.le_of_ble_eq_true rfl, Nat.le_of_ble_eq_true rfl⟩) (PP_preS hP hD hK [] rfl rfl) rfl rfl hl.1 rfl (lv_room (Nat.le_of_ble_eq_true rfl)) dX9_read_165 ⟨Nat.le_of_ble_eq_true rfl, Nat.le_of_ble_eq_true rfl⟩) (fun H locs hP hD hS => ?_)
      refine lv_if_ne (tgt := 177) hx hb dX9_read_168 (by decide) (fun c168 => ?_) (fun c168 => ?_)
      · have hf := pif_f c168 hf
        exact hB177 k71 hk71 s0 x7 x8 v_torn c_goes H locs ls hf hP hD hS (lv_sub hl [1, 2, 3, 4, 5, 6, 0, 7, 8] rfl)
      · have hf := pif_t c168 hf
        refine lv_bipush (v := (-20)) hx hb dX9_read_171 (by decide) ?_
        refine lv_iload hx hb dX9_read_173 (lv_at hl 8 rfl) ?_
        refine lv_isub hx hb dX9_read_175 ?_
        exact ret_i (q := q) (g := fun q => q.1) (wp := fun q => [(a9 0, .inr (9, fl9 a9 (va_up i9 21 q.2.1) g9)), ((a9 27), .inl (cyI, 160, .inl c_cells)), ((a9 11), .inl (cyI, 60, .inl q.2.2)), ((a9 25), .inl (cyI, 4, .inl c_lanes)), ((a9 26), .inl (cyI, 4, .inl c_lengths)), ((a9 12), .inl (cyI, 2, .inl c_many))]) hQ hf hx hb hr hlocks hP hD hS dX9_read_176 rfl
  have hB249 : ∀ (k204 : Int32 → Int32 → Int32 → Int32 → Int32 → (Nat → Int32) → Option (Int32 × Int32 × (Nat → Int32))) (hk204 : ∀ (x6 : Int32) (x7 : Int32) (x8 : Int32) (x9 : Int32) (v_torn : Int32) (c_goes : Nat → Int32) (H : Heap) (locs : List Loc) (ls : Array Slot), k204 x6 x7 x8 x9 v_torn c_goes = some q → va_P D vwCl [(a9 0, .inr (9, fl9 a9 (va_up i9 21 v_torn) g9)), ((a9 27), .inl (cyI, 160, .inl c_cells)), ((a9 11), .inl (cyI, 60, .inl c_goes)), ((a9 25), .inl (cyI, 4, .inl c_lanes)), ((a9 26), .inl (cyI, 4, .inl c_lengths)), ((a9 12), .inl (cyI, 2, .inl c_many))] H → va_D A [(a9 0, .inr (9, fl9 a9 (va_up i9 21 v_torn) g9)), ((a9 27), .inl (cyI, 160, .inl c_cells)), ((a9 11), .inl (cyI, 60, .inl c_goes)), ((a9 25), .inl (cyI, 4, .inl c_lanes)), ((a9 26), .inl (cyI, 4, .inl c_lengths)), ((a9 12), .inl (cyI, 2, .inl c_many))] → va_S A s.heap H locs → lv_has ls 11 [(0, .ref (a9 0)), (1, .int x1), (3, .int x3), (4, .int x4), (6, .int x6), (7, .int x7), (8, .int x8), (9, .int x9)] → W p l e rmX9_read s m av below meth c H locs 0 0 Q (F0 m 204 ls [])), ∀ (x6 : Int32) (x7 : Int32) (x9 : Int32) (x10 : Int32) (s0 : Int32) (s1 : Int32) (v_torn : Int32) (c_goes : Nat → Int32) (H : Heap) (locs : List Loc) (ls : Array Slot), fX9_read_249 N c_cells c_lanes c_lengths c_many x1 x2 x3 x4 x5 k204 x6 x7 x9 x10 s0 s1 v_torn c_goes = some q → va_P D vwCl [(a9 0, .inr (9, fl9 a9 (va_up i9 21 v_torn) g9)), ((a9 27), .inl (cyI, 160, .inl c_cells)), ((a9 11), .inl (cyI, 60, .inl c_goes)), ((a9 25), .inl (cyI, 4, .inl c_lanes)), ((a9 26), .inl (cyI, 4, .inl c_lengths)), ((a9 12), .inl (cyI, 2, .inl c_many))] H → va_D A [(a9 0, .inr (9, fl9 a9 (va_up i9 21 v_torn) g9)), ((a9 27), .inl (cyI, 160, .inl c_cells)), ((a9 11), .inl (cyI, 60, .inl c_goes)), ((a9 25), .inl (cyI, 4, .inl c_lanes)), ((a9 26), .inl (cyI, 4, .inl c_lengths)), ((a9 12), .inl (cyI, 2, .inl c_many))] → va_S A s.heap H locs → lv_has ls 11 [(0, .ref (a9 0)), (1, .int x1), (3, .int x3), (4, .int x4), (6, .int x6), (7, .int x7), (9, .int x9), (10, .int x10)] → W p l e rmX9_read s m av below meth c H locs 0 0 Q (F0 m 249 ls [.int s1, .int s0]) := by
    intro k204 hk204 x6 x7 x9 x10 s0 s1 v_torn c_goes H locs ls hf hP hD hS hl
    unfold fX9_read_249 at hf
    refine lv_iadd hx hb dX9_read_249 ?_
    refine lv_istore (lv' := [(8, .int (s0 + s1)), (0, .ref (a9 0)), (1, .int x1), (3, .int x3), (4, .int x4), (6, .int x6), (7, .int x7), (9, .int x9), (10, .int x10)]) hx hb dX9_read_250 hl (by decide) rfl (fun ls hl => ?_)
    refine lv_aload_n hx hb dX9_read_252 rfl (lv_at hl 1 rfl) ?_
    refine va_get (D := D) (ci := 9) (v := .ref (a9 11)) (C := RX9) (T := TX9) (N := 52) hx hb hL inlX9 hown hK.1 hP 0 rfl rfl 21 (by decide) w3 (fun _ h9 => h9) rfl dX9_read_253 ?_
    refine lv_iload hx hb dX9_read_256 (lv_at hl 4 rfl) ?_
    refine lv_iload hx hb dX9_read_258 (lv_at hl 7 rfl) ?_
    refine lv_iadd hx hb dX9_read_260 ?_
    refine lv_iload hx hb dX9_read_261 (lv_at hl 8 rfl) ?_
    obtain ⟨h263, hf⟩ := pg_some hf
    refine va_iast hx hb hK.1 hP hD hS 2 0 rfl rfl h263 dX9_read_263 (fun H locs hP hD hS => ?_)
    have hP : va_P D vwCl [(a9 0, .inr (9, fl9 a9 (va_up i9 21 v_torn) g9)), ((a9 27), .inl (cyI, 160, .inl c_cells)), ((a9 11), .inl (cyI, 60, .inl (upd c_goes (x4 + x9).toNatClampNeg x10))), ((a9 25), .inl (cyI, 4, .inl c_lanes)), ((a9 26), .inl (cyI, 4, .inl c_lengths)), ((a9 12), .inl (cyI, 2, .inl c_many))] H := hP
    have hD : va_D A [(a9 0, .inr (9, fl9 a9 (va_up i9 21 v_torn) g9)), ((a9 27), .inl (cyI, 160, .inl c_cells)), ((a9 11), .inl (cyI, 60, .inl (upd c_goes (x4 + x9).toNatClampNeg x10))), ((a9 25), .inl (cyI, 4, .inl c_lanes)), ((a9 26), .inl (cyI, 4, .inl c_lengths)), ((a9 12), .inl (cyI, 2, .inl c_many))] := hD
    refine lv_iinc (v := x9 + 1) (lv' := [(9, .int (x9 + 1)), (8, .int (s0 + s1)), (0, .ref (a9 0)), (1, .int x1), (3, .int x3), (4, .int x4), (6, .int x6), (7, .int x7), (10, .int x10)]) hx hb dX9_read_264 hl (k := 7) rfl rfl (by decide) rfl (fun ls hl => ?_)
    refine lv_goto (tgt := 204) hx hb dX9_read_267 (by decide) ?_
    exact hk204 x6 x7 (s0 + s1) (x9 + 1) v_torn (upd c_goes (x4 + x9).toNatClampNeg x10) H locs ls hf hP hD hS (lv_sub hl [2, 3, 4, 5, 6, 7, 1, 0] rfl)
  have hB204 : ∀ (n : Nat), ∀ (x6 : Int32) (x7 : Int32) (x8 : Int32) (x9 : Int32) (v_torn : Int32) (c_goes : Nat → Int32) (H : Heap) (locs : List Loc) (ls : Array Slot), fX9_read_204 N c_cells c_lanes c_lengths c_many x1 x2 x3 x4 x5 n x6 x7 x8 x9 v_torn c_goes = some q → va_P D vwCl [(a9 0, .inr (9, fl9 a9 (va_up i9 21 v_torn) g9)), ((a9 27), .inl (cyI, 160, .inl c_cells)), ((a9 11), .inl (cyI, 60, .inl c_goes)), ((a9 25), .inl (cyI, 4, .inl c_lanes)), ((a9 26), .inl (cyI, 4, .inl c_lengths)), ((a9 12), .inl (cyI, 2, .inl c_many))] H → va_D A [(a9 0, .inr (9, fl9 a9 (va_up i9 21 v_torn) g9)), ((a9 27), .inl (cyI, 160, .inl c_cells)), ((a9 11), .inl (cyI, 60, .inl c_goes)), ((a9 25), .inl (cyI, 4, .inl c_lanes)), ((a9 26), .inl (cyI, 4, .inl c_lengths)), ((a9 12), .inl (cyI, 2, .inl c_many))] → va_S A s.heap H locs → lv_has ls 11 [(0, .ref (a9 0)), (1, .int x1), (3, .int x3), (4, .int x4), (6, .int x6), (7, .int x7), (8, .int x8), (9, .int x9)] → W p l e rmX9_read s m av below meth c H locs 0 0 Q (F0 m 204 ls []) := by
    intro n
    induction n with
    | zero => intro x6 x7 x8 x9 v_torn c_goes H locs ls hf; exact absurd hf (by simp [fX9_read_204])
    | succ n hk204 =>
      intro x6 x7 x8 x9 v_torn c_goes H locs ls hf hP hD hS hl
      rw [fX9_read_204] at hf
      refine lv_iload hx hb dX9_read_204 (lv_at hl 7 rfl) ?_
      refine lv_iload hx hb dX9_read_206 (lv_at hl 5 rfl) ?_
      refine lv_icmp_ge (tgt := 270) hx hb dX9_read_208 (by decide) (fun c208 => ?_) (fun c208 => ?_)
      · have hf := pif_t c208 hf
        refine lv_aload_n hx hb dX9_read_270 rfl (lv_at hl 0 rfl) ?_
        refine lv_iload hx hb dX9_read_271 (lv_at hl 4 rfl) ?_
        refine va_put (D := D) (ci := 9) (v := .int x6) (ty := .int) (C := RX9) (T := TX9) (N := 52) hx hb hL inlX9 tyX9 tyX9_ok nmX9 hown hK.1 hP hD hS 0 rfl rfl 51 (by decide) w4 (fun _ h9 => h9) rfl (by decide +kernel) rfl rfl (Nat.le_of_ble_eq_true rfl) dX9_read_273 (fun H locs hP hD hS => ?_)
        rw [fl9_s51] at hP hD
        have hP : va_P D vwCl [(a9 0, .inr (9, fl9 a9 (va_up (va_up i9 21 v_torn) 21 x6) g9)), ((a9 27), .inl (cyI, 160, .inl c_cells)), ((a9 11), .inl (cyI, 60, .inl c_goes)), ((a9 25), .inl (cyI, 4, .inl c_lanes)), ((a9 26), .inl (cyI, 4, .inl c_lengths)), ((a9 12), .inl (cyI, 2, .inl c_many))] H := hP
        have hD : va_D A [(a9 0, .inr (9, fl9 a9 (va_up (va_up i9 21 v_torn) 21 x6) g9)), ((a9 27), .inl (cyI, 160, .inl c_cells)), ((a9 11), .inl (cyI, 60, .inl c_goes)), ((a9 25), .inl (cyI, 4, .inl c_lanes)), ((a9 26), .inl (cyI, 4, .inl c_lengths)), ((a9 12), .inl (cyI, 2, .inl c_many))] := hD
        refine lv_iload hx hb dX9_read_276 (lv_at hl 6 rfl) ?_
        exact ret_i (q := q) (g := fun q => q.1) (wp := fun q => [(a9 0, .inr (9, fl9 a9 (va_up i9 21 q.2.1) g9)), ((a9 27), .inl (cyI, 160, .inl c_cells)), ((a9 11), .inl (cyI, 60, .inl q.2.2)), ((a9 25), .inl (cyI, 4, .inl c_lanes)), ((a9 26), .inl (cyI, 4, .inl c_lengths)), ((a9 12), .inl (cyI, 2, .inl c_many))]) hQ hf hx hb hr hlocks hP hD hS dX9_read_278 rfl
      · have hf := pif_f c208 hf
        refine lv_aload_n hx hb dX9_read_211 rfl (lv_at hl 0 rfl) ?_
        refine va_get (D := D) (ci := 9) (v := .ref (a9 27)) (C := RX9) (T := TX9) (N := 52) hx hb hL inlX9 hown hK.1 hP 0 rfl rfl 50 (by decide) w0 (fun _ h9 => h9) rfl dX9_read_212 ?_
        refine lv_bipush (v := 40) hx hb dX9_read_215 (by decide) ?_
        refine lv_iload_n hx hb dX9_read_217 rfl (lv_at hl 1 rfl) ?_
        refine lv_imul hx hb dX9_read_218 ?_
        refine lv_iload_n hx hb dX9_read_219 rfl (lv_at hl 2 rfl) ?_
        refine lv_iadd hx hb dX9_read_220 ?_
        refine lv_iload hx hb dX9_read_221 (lv_at hl 7 rfl) ?_
        refine lv_iadd hx hb dX9_read_223 ?_
        obtain ⟨h224, hf⟩ := pg_some hf
        refine va_iald hx hb hK.1 hP 1 0 rfl rfl h224 dX9_read_224 ?_
        refine lv_istore (lv' := [(10, .int (c_cells (((40 * x1) + x3) + x9).toNatClampNeg)), (0, .ref (a9 0)), (1, .int x1), (3, .int x3), (4, .int x4), (6, .int x6), (7, .int x7), (8, .int x8), (9, .int x9)]) hx hb dX9_read_225 hl (by decide) rfl (fun ls hl => ?_)
        refine lv_iload hx hb dX9_read_227 (lv_at hl 7 rfl) ?_
        refine lv_aload_n hx hb dX9_read_229 rfl (lv_at hl 1 rfl) ?_
        refine va_get (D := D) (ci := 9) (v := .ref (a9 11)) (C := RX9) (T := TX9) (N := 52) hx hb hL inlX9 hown hK.1 hP 0 rfl rfl 21 (by decide) w3 (fun _ h9 => h9) rfl dX9_read_230 ?_
        refine lv_iload hx hb dX9_read_233 (lv_at hl 4 rfl) ?_
        refine lv_iload hx hb dX9_read_235 (lv_at hl 8 rfl) ?_
        refine lv_iadd hx hb dX9_read_237 ?_
        obtain ⟨h238, hf⟩ := pg_some hf
        refine va_iald hx hb hK.1 hP 2 0 rfl rfl h238 dX9_read_238 ?_
        refine lv_iload hx hb dX9_read_239 (lv_at hl 0 rfl) ?_
        refine lv_icmp_eq (tgt := 248) hx hb dX9_read_241 (by decide) (fun c241 => ?_) (fun c241 => ?_)
        · have hf := pif_t c241 hf
          refine lv_iconst (v := 0) hx hb dX9_read_248 (by decide) ?_
          exact hB249 (fX9_read_204 N c_cells c_lanes c_lengths c_many x1 x2 x3 x4 x5 n) hk204 x6 x7 x9 (c_cells (((40 * x1) + x3) + x9).toNatClampNeg) x8 0 v_torn c_goes H locs ls hf hP hD hS (lv_sub hl [1, 2, 3, 4, 5, 6, 8, 0] rfl)
        · have hf := pif_f c241 hf
          refine lv_iconst (v := 1) hx hb dX9_read_244 (by decide) ?_
          refine lv_goto (tgt := 249) hx hb dX9_read_245 (by decide) ?_
          exact hB249 (fX9_read_204 N c_cells c_lanes c_lengths c_many x1 x2 x3 x4 x5 n) hk204 x6 x7 x9 (c_cells (((40 * x1) + x3) + x9).toNatClampNeg) x8 1 v_torn c_goes H locs ls hf hP hD hS (lv_sub hl [1, 2, 3, 4, 5, 6, 8, 0] rfl)
  have hB198 : ∀ (x6 : Int32) (x7 : Int32) (v_torn : Int32) (c_goes : Nat → Int32) (H : Heap) (locs : List Loc) (ls : Array Slot), fX9_read_198 N c_cells c_lanes c_lengths c_many x1 x2 x3 x4 x5 x6 x7 v_torn c_goes = some q → va_P D vwCl [(a9 0, .inr (9, fl9 a9 (va_up i9 21 v_torn) g9)), ((a9 27), .inl (cyI, 160, .inl c_cells)), ((a9 11), .inl (cyI, 60, .inl c_goes)), ((a9 25), .inl (cyI, 4, .inl c_lanes)), ((a9 26), .inl (cyI, 4, .inl c_lengths)), ((a9 12), .inl (cyI, 2, .inl c_many))] H → va_D A [(a9 0, .inr (9, fl9 a9 (va_up i9 21 v_torn) g9)), ((a9 27), .inl (cyI, 160, .inl c_cells)), ((a9 11), .inl (cyI, 60, .inl c_goes)), ((a9 25), .inl (cyI, 4, .inl c_lanes)), ((a9 26), .inl (cyI, 4, .inl c_lengths)), ((a9 12), .inl (cyI, 2, .inl c_many))] → va_S A s.heap H locs → lv_has ls 11 [(0, .ref (a9 0)), (1, .int x1), (3, .int x3), (4, .int x4), (6, .int x6), (7, .int x7)] → W p l e rmX9_read s m av below meth c H locs 0 0 Q (F0 m 198 ls []) := by
    intro x6 x7 v_torn c_goes H locs ls hf hP hD hS hl
    unfold fX9_read_198 at hf
    refine lv_iconst (v := 0) hx hb dX9_read_198 (by decide) ?_
    refine lv_istore (lv' := [(8, .int 0), (0, .ref (a9 0)), (1, .int x1), (3, .int x3), (4, .int x4), (6, .int x6), (7, .int x7)]) hx hb dX9_read_199 hl (by decide) rfl (fun ls hl => ?_)
    refine lv_iconst (v := 0) hx hb dX9_read_201 (by decide) ?_
    refine lv_istore (lv' := [(9, .int 0), (8, .int 0), (0, .ref (a9 0)), (1, .int x1), (3, .int x3), (4, .int x4), (6, .int x6), (7, .int x7)]) hx hb dX9_read_202 hl (by decide) rfl (fun ls hl => ?_)
    exact hB204 N x6 x7 0 0 v_torn c_goes H locs ls hf hP hD hS (lv_sub hl [2, 3, 4, 5, 6, 7, 1, 0] rfl)
  have hB71 : ∀ (n : Nat), ∀ (x6 : Int32) (x7 : Int32) (x8 : Int32) (v_torn : Int32) (c_goes : Nat → Int32) (H : Heap) (locs : List Loc) (ls : Array Slot), fX9_read_71 N c_cells c_lanes c_lengths c_many x1 x2 x3 x4 x5 n x6 x7 x8 v_torn c_goes = some q → va_P D vwCl [(a9 0, .inr (9, fl9 a9 (va_up i9 21 v_torn) g9)), ((a9 27), .inl (cyI, 160, .inl c_cells)), ((a9 11), .inl (cyI, 60, .inl c_goes)), ((a9 25), .inl (cyI, 4, .inl c_lanes)), ((a9 26), .inl (cyI, 4, .inl c_lengths)), ((a9 12), .inl (cyI, 2, .inl c_many))] H → va_D A [(a9 0, .inr (9, fl9 a9 (va_up i9 21 v_torn) g9)), ((a9 27), .inl (cyI, 160, .inl c_cells)), ((a9 11), .inl (cyI, 60, .inl c_goes)), ((a9 25), .inl (cyI, 4, .inl c_lanes)), ((a9 26), .inl (cyI, 4, .inl c_lengths)), ((a9 12), .inl (cyI, 2, .inl c_many))] → va_S A s.heap H locs → lv_has ls 11 [(0, .ref (a9 0)), (1, .int x1), (2, .int x2), (3, .int x3), (4, .int x4), (5, .int x5), (6, .int x6), (7, .int x7), (8, .int x8)] → W p l e rmX9_read s m av below meth c H locs 0 0 Q (F0 m 71 ls []) := by
    intro n
    induction n with
    | zero => intro x6 x7 x8 v_torn c_goes H locs ls hf; exact absurd hf (by simp [fX9_read_71])
    | succ n hk71 =>
      intro x6 x7 x8 v_torn c_goes H locs ls hf hP hD hS hl
      rw [fX9_read_71] at hf
      refine lv_iload hx hb dX9_read_71 (lv_at hl 8 rfl) ?_
      refine lv_iload hx hb dX9_read_73 (lv_at hl 5 rfl) ?_
      refine lv_icmp_ge (tgt := 198) hx hb dX9_read_75 (by decide) (fun c75 => ?_) (fun c75 => ?_)
      · have hf := pif_t c75 hf
        exact hB198 x6 x7 v_torn c_goes H locs ls hf hP hD hS (lv_sub hl [0, 1, 3, 4, 6, 7] rfl)
      · have hf := pif_f c75 hf
        refine lv_iload hx hb dX9_read_78 (lv_at hl 6 rfl) ?_
        refine lv_if_ne (tgt := 198) hx hb dX9_read_80 (by decide) (fun c80 => ?_) (fun c80 => ?_)
        · have hf := pif_f c80 hf
          exact hB198 x6 x7 v_torn c_goes H locs ls hf hP hD hS (lv_sub hl [0, 1, 3, 4, 6, 7] rfl)
        · have hf := pif_t c80 hf
          refine lv_aload_n hx hb dX9_read_83 rfl (lv_at hl 0 rfl) ?_
          refine va_get (D := D) (ci := 9) (v := .ref (a9 25)) (C := RX9) (T := TX9) (N := 52) hx hb hL inlX9 hown hK.1 hP 0 rfl rfl 48 (by decide) w5 (fun _ h9 => h9) rfl dX9_read_84 ?_
          refine lv_iload_n hx hb dX9_read_87 rfl (lv_at hl 1 rfl) ?_
          obtain ⟨h88, hf⟩ := pg_some hf
          refine va_iald hx hb hK.1 hP 3 0 rfl rfl h88 dX9_read_88 ?_
          refine lv_bipush (v := (-4)) hx hb dX9_read_89 (by decide) ?_
          refine lv_icmp_ne (tgt := 98) hx hb dX9_read_91 (by decide) (fun c91 => ?_) (fun c91 => ?_)
          · have hf := pif_f c91 hf
            refine lv_aload_n hx hb dX9_read_98 rfl (lv_at hl 0 rfl) ?_
            refine va_get (D := D) (ci := 9) (v := .ref (a9 25)) (C := RX9) (T := TX9) (N := 52) hx hb hL inlX9 hown hK.1 hP 0 rfl rfl 48 (by decide) w5 (fun _ h9 => h9) rfl dX9_read_99 ?_
            refine lv_iload_n hx hb dX9_read_102 rfl (lv_at hl 1 rfl) ?_
            obtain ⟨h103, hf⟩ := pg_some hf
            refine va_iald hx hb hK.1 hP 3 0 rfl rfl h103 dX9_read_103 ?_
            refine lv_iload_n hx hb dX9_read_104 rfl (lv_at hl 2 rfl) ?_
            refine lv_icmp_eq (tgt := 112) hx hb dX9_read_105 (by decide) (fun c105 => ?_) (fun c105 => ?_)
            · have hf := pif_t c105 hf
              refine lv_iload_n hx hb dX9_read_112 rfl (lv_at hl 3 rfl) ?_
              refine lv_i2l hx hb dX9_read_113 rfl ?_
              refine lv_iload hx hb dX9_read_114 (lv_at hl 8 rfl) ?_
              refine lv_i2l hx hb dX9_read_116 rfl ?_
              refine lv_ladd hx hb dX9_read_117 ?_
              refine lv_lconst (v := 0) hx hb dX9_read_118 (by decide) ?_
              refine lv_aload_n hx hb dX9_read_119 rfl (lv_at hl 0 rfl) ?_
              refine va_get (D := D) (ci := 9) (v := .ref (a9 26)) (C := RX9) (T := TX9) (N := 52) hx hb hL inlX9 hown hK.1 hP 0 rfl rfl 49 (by decide) w6 (fun _ h9 => h9) rfl dX9_read_120 ?_
              refine lv_iload_n hx hb dX9_read_123 rfl (lv_at hl 1 rfl) ?_
              obtain ⟨h124, hf⟩ := pg_some hf
              refine va_iald hx hb hK.1 hP 4 0 rfl rfl h124 dX9_read_124 ?_
              refine lv_iconst (v := 1) hx hb dX9_read_125 (by decide) ?_
              refine lv_isub hx hb dX9_read_126 ?_
              refine lv_i2l hx hb dX9_read_127 rfl ?_
              obtain ⟨q128, e128, hf⟩ := pb_some hf
              refine cc_i (wc := []) (wr := [(a9 0, .inr (9, fl9 a9 (va_up i9 21 v_torn) g9)), ((a9 27), .inl (cyI, 160, .inl c_cells)), ((a9 11), .inl (cyI, 60, .inl c_goes)), ((a9 25), .inl (cyI, 4, .inl c_lanes)), ((a9 26), .inl (cyI, 4, .inl c_lengths)), ((a9 12), .inl (cyI, 2, .inl c_many))]) (w1 := []) (wn := [(a9 0, .inr (9, fl9 a9 (va_up i9 21 v_torn) g9)), ((a9 27), .inl (cyI, 160, .inl c_cells)), ((a9 11), .inl (cyI, 60, .inl c_goes)), ((a9 25), .inl (cyI, 4, .inl c_lanes)), ((a9 26), .inl (cyI, 4, .inl c_lengths)), ((a9 12), .inl (cyI, 2, .inl c_many))]) hP hD hS hA [] [0, 1, 2, 3, 4, 5] [0, 1, 2, 3, 4, 5] rfl rfl rfl (by decide) rfl rfl (va_runS (As := [.long (((x3 : Int32).toInt64) + ((x8 : Int32).toInt64)), .long 0, .long (((c_lengths x1.toNatClampNeg) - 1 : Int32).toInt64)]) (rest := []) ⟨hx, hb, hml, hown, hL⟩ (mX9_in l D cyI cyJ cyB cyS N H.size   (((x3 : Int32).toInt64) + ((x8 : Int32).toInt64)) 0 (((c_lengths x1.toNatClampNeg) - 1 : Int32).toInt64) q128 e128) (va_cwS 3 hL (gS (hR8 7 rfl) (hR8 8 rfl) (hR1 5 rfl) (hR8 9 rfl)) rfl rfl rfl (by decide +kernel) ⟨Nat.le_of_ble_eq_true rfl, Nat.le_of_ble_eq_true rfl⟩) (PP_preS hP hD hK [] rfl rfl) rfl rfl hl.1 rfl (lv_room (Nat.le_of_ble_eq_true rfl)) dX9_read_128 ⟨Nat.le_of_ble_eq_true rfl, Nat.le_of_ble_eq_true rfl⟩) (fun H locs hP hD hS => ?_)
              refine lv_if_ne (tgt := 138) hx hb dX9_read_131 (by decide) (fun c131 => ?_) (fun c131 => ?_)
              · have hf := pif_f c131 hf
                refine lv_iconst (v := 0) hx hb dX9_read_138 (by decide) ?_
                exact hB139 (fX9_read_71 N c_cells c_lanes c_lengths c_many x1 x2 x3 x4 x5 n) hk71 x7 x8 0 v_torn c_goes H locs ls hf hP hD hS (lv_sub hl [0, 1, 2, 3, 4, 5, 7, 8] rfl)
              · have hf := pif_t c131 hf
                refine lv_iconst (v := 2) hx hb dX9_read_134 (by decide) ?_
                refine lv_goto (tgt := 139) hx hb dX9_read_135 (by decide) ?_
                exact hB139 (fX9_read_71 N c_cells c_lanes c_lengths c_many x1 x2 x3 x4 x5 n) hk71 x7 x8 2 v_torn c_goes H locs ls hf hP hD hS (lv_sub hl [0, 1, 2, 3, 4, 5, 7, 8] rfl)
            · have hf := pif_f c105 hf
              refine lv_iconst (v := 3) hx hb dX9_read_108 (by decide) ?_
              refine lv_goto (tgt := 139) hx hb dX9_read_109 (by decide) ?_
              exact hB139 (fX9_read_71 N c_cells c_lanes c_lengths c_many x1 x2 x3 x4 x5 n) hk71 x7 x8 3 v_torn c_goes H locs ls hf hP hD hS (lv_sub hl [0, 1, 2, 3, 4, 5, 7, 8] rfl)
          · have hf := pif_t c91 hf
            refine lv_iconst (v := 1) hx hb dX9_read_94 (by decide) ?_
            refine lv_goto (tgt := 139) hx hb dX9_read_95 (by decide) ?_
            exact hB139 (fX9_read_71 N c_cells c_lanes c_lengths c_many x1 x2 x3 x4 x5 n) hk71 x7 x8 1 v_torn c_goes H locs ls hf hP hD hS (lv_sub hl [0, 1, 2, 3, 4, 5, 7, 8] rfl)
  unfold fX9_read at hf
  obtain ⟨H, hH⟩ : ∃ H : Heap, H = s.heap := ⟨_, rfl⟩
  obtain ⟨locs, hlo⟩ : ∃ locs : List Loc, locs = [] := ⟨_, rfl⟩
  have hP : va_P D vwCl [(a9 0, .inr (9, fl9 a9 i9 g9)), ((a9 27), .inl (cyI, 160, .inl c_cells)), ((a9 11), .inl (cyI, 60, .inl c_goes)), ((a9 25), .inl (cyI, 4, .inl c_lanes)), ((a9 26), .inl (cyI, 4, .inl c_lengths)), ((a9 12), .inl (cyI, 2, .inl c_many))] H := by rw [hH]; exact hP
  have hS : va_S A s.heap H locs := by rw [hH, hlo]; exact hS
  suffices hw : W p l e rmX9_read s m av below meth c H locs 0 0 Q (F0 m 0 ls []) by rw [hH, hlo] at hw; exact hw
  refine lv_iload_n hx hb dX9_read_0 rfl (lv_at hl 1 rfl) ?_
  refine lv_i2l hx hb dX9_read_1 rfl ?_
  refine lv_lconst (v := 0) hx hb dX9_read_2 (by decide) ?_
  refine lv_ldc2 (v := 3) hx hb hown w7 dX9_read_3 ?_
  obtain ⟨q6, e6, hf⟩ := pb_some hf
  refine cc_i (wc := []) (wr := [(a9 0, .inr (9, fl9 a9 i9 g9)), ((a9 27), .inl (cyI, 160, .inl c_cells)), ((a9 11), .inl (cyI, 60, .inl c_goes)), ((a9 25), .inl (cyI, 4, .inl c_lanes)), ((a9 26), .inl (cyI, 4, .inl c_lengths)), ((a9 12), .inl (cyI, 2, .inl c_many))]) (w1 := []) (wn := [(a9 0, .inr (9, fl9 a9 i9 g9)), ((a9 27), .inl (cyI, 160, .inl c_cells)), ((a9 11), .inl (cyI, 60, .inl c_goes)), ((a9 25), .inl (cyI, 4, .inl c_lanes)), ((a9 26), .inl (cyI, 4, .inl c_lengths)), ((a9 12), .inl (cyI, 2, .inl c_many))]) hP hD hS hA [] [0, 1, 2, 3, 4, 5] [0, 1, 2, 3, 4, 5] rfl rfl rfl (by decide) rfl rfl (va_runS (As := [.long ((x1 : Int32).toInt64), .long 0, .long 3]) (rest := []) ⟨hx, hb, hml, hown, hL⟩ (mX9_in l D cyI cyJ cyB cyS N H.size   ((x1 : Int32).toInt64) 0 3 q6 e6) (va_cwS 3 hL (gS (hR8 7 rfl) (hR8 8 rfl) (hR1 5 rfl) (hR8 9 rfl)) rfl rfl rfl (by decide +kernel) ⟨Nat.le_of_ble_eq_true rfl, Nat.le_of_ble_eq_true rfl⟩) (PP_preS hP hD hK [] rfl rfl) rfl rfl hl.1 rfl (lv_room (Nat.le_of_ble_eq_true rfl)) dX9_read_6 ⟨Nat.le_of_ble_eq_true rfl, Nat.le_of_ble_eq_true rfl⟩) (fun H locs hP hD hS => ?_)
  refine lv_if_eq (tgt := 60) hx hb dX9_read_9 (by decide) (fun c9 => ?_) (fun c9 => ?_)
  · have hf := pif_t c9 hf
    exact hB60 (i9 21) c_goes H locs ls hf hP hD hS (lv_sub hl [] rfl)
  · have hf := pif_f c9 hf
    refine lv_iload_n hx hb dX9_read_12 rfl (lv_at hl 2 rfl) ?_
    refine lv_i2l hx hb dX9_read_13 rfl ?_
    refine lv_lconst (v := 0) hx hb dX9_read_14 (by decide) ?_
    refine lv_ldc2 (v := 2) hx hb hown w1 dX9_read_15 ?_
    obtain ⟨q18, e18, hf⟩ := pb_some hf
    refine cc_i (wc := []) (wr := [(a9 0, .inr (9, fl9 a9 i9 g9)), ((a9 27), .inl (cyI, 160, .inl c_cells)), ((a9 11), .inl (cyI, 60, .inl c_goes)), ((a9 25), .inl (cyI, 4, .inl c_lanes)), ((a9 26), .inl (cyI, 4, .inl c_lengths)), ((a9 12), .inl (cyI, 2, .inl c_many))]) (w1 := []) (wn := [(a9 0, .inr (9, fl9 a9 i9 g9)), ((a9 27), .inl (cyI, 160, .inl c_cells)), ((a9 11), .inl (cyI, 60, .inl c_goes)), ((a9 25), .inl (cyI, 4, .inl c_lanes)), ((a9 26), .inl (cyI, 4, .inl c_lengths)), ((a9 12), .inl (cyI, 2, .inl c_many))]) hP hD hS hA [] [0, 1, 2, 3, 4, 5] [0, 1, 2, 3, 4, 5] rfl rfl rfl (by decide) rfl rfl (va_runS (As := [.long ((x2 : Int32).toInt64), .long 0, .long 2]) (rest := []) ⟨hx, hb, hml, hown, hL⟩ (mX9_in l D cyI cyJ cyB cyS N H.size   ((x2 : Int32).toInt64) 0 2 q18 e18) (va_cwS 3 hL (gS (hR8 7 rfl) (hR8 8 rfl) (hR1 5 rfl) (hR8 9 rfl)) rfl rfl rfl (by decide +kernel) ⟨Nat.le_of_ble_eq_true rfl, Nat.le_of_ble_eq_true rfl⟩) (PP_preS hP hD hK [] rfl rfl) rfl rfl hl.1 rfl (lv_room (Nat.le_of_ble_eq_true rfl)) dX9_read_18 ⟨Nat.le_of_ble_eq_true rfl, Nat.le_of_ble_eq_true rfl⟩) (fun H locs hP hD hS => ?_)
    refine lv_if_eq (tgt := 60) hx hb dX9_read_21 (by decide) (fun c21 => ?_) (fun c21 => ?_)
    · have hf := pif_t c21 hf
      exact hB60 (i9 21) c_goes H locs ls hf hP hD hS (lv_sub hl [] rfl)
    · have hf := pif_f c21 hf
      refine lv_iload hx hb dX9_read_24 (lv_at hl 5 rfl) ?_
      refine lv_i2l hx hb dX9_read_26 rfl ?_
      refine lv_lconst (v := 0) hx hb dX9_read_27 (by decide) ?_
      refine lv_ldc2 (v := 30) hx hb hown w8 dX9_read_28 ?_
      obtain ⟨q31, e31, hf⟩ := pb_some hf
      refine cc_i (wc := []) (wr := [(a9 0, .inr (9, fl9 a9 i9 g9)), ((a9 27), .inl (cyI, 160, .inl c_cells)), ((a9 11), .inl (cyI, 60, .inl c_goes)), ((a9 25), .inl (cyI, 4, .inl c_lanes)), ((a9 26), .inl (cyI, 4, .inl c_lengths)), ((a9 12), .inl (cyI, 2, .inl c_many))]) (w1 := []) (wn := [(a9 0, .inr (9, fl9 a9 i9 g9)), ((a9 27), .inl (cyI, 160, .inl c_cells)), ((a9 11), .inl (cyI, 60, .inl c_goes)), ((a9 25), .inl (cyI, 4, .inl c_lanes)), ((a9 26), .inl (cyI, 4, .inl c_lengths)), ((a9 12), .inl (cyI, 2, .inl c_many))]) hP hD hS hA [] [0, 1, 2, 3, 4, 5] [0, 1, 2, 3, 4, 5] rfl rfl rfl (by decide) rfl rfl (va_runS (As := [.long ((x5 : Int32).toInt64), .long 0, .long 30]) (rest := []) ⟨hx, hb, hml, hown, hL⟩ (mX9_in l D cyI cyJ cyB cyS N H.size   ((x5 : Int32).toInt64) 0 30 q31 e31) (va_cwS 3 hL (gS (hR8 7 rfl) (hR8 8 rfl) (hR1 5 rfl) (hR8 9 rfl)) rfl rfl rfl (by decide +kernel) ⟨Nat.le_of_ble_eq_true rfl, Nat.le_of_ble_eq_true rfl⟩) (PP_preS hP hD hK [] rfl rfl) rfl rfl hl.1 rfl (lv_room (Nat.le_of_ble_eq_true rfl)) dX9_read_31 ⟨Nat.le_of_ble_eq_true rfl, Nat.le_of_ble_eq_true rfl⟩) (fun H locs hP hD hS => ?_)
      refine lv_if_eq (tgt := 60) hx hb dX9_read_34 (by decide) (fun c34 => ?_) (fun c34 => ?_)
      · have hf := pif_t c34 hf
        exact hB60 (i9 21) c_goes H locs ls hf hP hD hS (lv_sub hl [] rfl)
      · have hf := pif_f c34 hf
        refine lv_iload hx hb dX9_read_37 (lv_at hl 4 rfl) ?_
        refine lv_if_lt (tgt := 60) hx hb dX9_read_39 (by decide) (fun c39 => ?_) (fun c39 => ?_)
        · have hf := pif_t c39 hf
          exact hB60 (i9 21) c_goes H locs ls hf hP hD hS (lv_sub hl [] rfl)
        · have hf := pif_f c39 hf
          refine lv_iload hx hb dX9_read_42 (lv_at hl 4 rfl) ?_
          refine lv_i2l hx hb dX9_read_44 rfl ?_
          refine lv_iload hx hb dX9_read_45 (lv_at hl 5 rfl) ?_
          refine lv_i2l hx hb dX9_read_47 rfl ?_
          refine lv_ladd hx hb dX9_read_48 ?_
          refine lv_aload_n hx hb dX9_read_49 rfl (lv_at hl 0 rfl) ?_
          refine va_get (D := D) (ci := 9) (v := .ref (a9 12)) (C := RX9) (T := TX9) (N := 52) hx hb hL inlX9 hown hK.1 hP 0 rfl rfl 22 (by decide) w9 (fun _ h9 => h9) rfl dX9_read_50 ?_
          refine lv_iconst (v := 0) hx hb dX9_read_53 (by decide) ?_
          obtain ⟨h54, hf⟩ := pg_some hf
          refine va_iald hx hb hK.1 hP 5 0 rfl rfl h54 dX9_read_54 ?_
          refine lv_i2l hx hb dX9_read_55 rfl ?_
          refine W.lcmp hx hb dX9_read_56 ?_
          refine lv_if_le (tgt := 62) hx hb dX9_read_57 (by decide) (fun c57 => ?_) (fun c57 => ?_)
          · have hf := pif_t c57 hf
            refine lv_iconst (v := 0) hx hb dX9_read_62 (by decide) ?_
            refine lv_istore (lv' := [(6, .int 0), (0, .ref (a9 0)), (1, .int x1), (2, .int x2), (3, .int x3), (4, .int x4), (5, .int x5)]) hx hb dX9_read_63 hl (by decide) rfl (fun ls hl => ?_)
            refine lv_iconst (v := 0) hx hb dX9_read_65 (by decide) ?_
            refine lv_istore (lv' := [(7, .int 0), (6, .int 0), (0, .ref (a9 0)), (1, .int x1), (2, .int x2), (3, .int x3), (4, .int x4), (5, .int x5)]) hx hb dX9_read_66 hl (by decide) rfl (fun ls hl => ?_)
            refine lv_iconst (v := 0) hx hb dX9_read_68 (by decide) ?_
            refine lv_istore (lv' := [(8, .int 0), (7, .int 0), (6, .int 0), (0, .ref (a9 0)), (1, .int x1), (2, .int x2), (3, .int x3), (4, .int x4), (5, .int x5)]) hx hb dX9_read_69 hl (by decide) rfl (fun ls hl => ?_)
            exact hB71 N 0 0 0 (i9 21) c_goes H locs ls hf hP hD hS (lv_sub hl [3, 4, 5, 6, 7, 8, 2, 1, 0] rfl)
          · have hf := pif_f c57 hf
            exact hB60 (i9 21) c_goes H locs ls hf hP hD hS (lv_sub hl [] rfl)
abbrev rmX9_torn : Room := { frames := 0, cells := 0, slots := 0, locals := 0 }
set_option maxHeartbeats 40000000 in
set_option maxRecDepth 100000 in
theorem mX9_torn (l : Launch) (D : va_G) (cyI cyJ cyB cyS : ClassId) (N : Nat) (sz : Nat) (a9 : Nat → Nat) (i9 : Nat → Int32) (g9 : Nat → Int64) (q : Int32) (hf : fX9_torn N (i9 21) = some q) : Met l yX9_torn (wS yX9_torn cX9_torn 1 (some .int)) rmX9_torn (va_Pc [.ref (a9 0)] (PP D cyI cyJ cyB cyS [(a9 0, .inr (9, fl9 a9 i9 g9))] sz)) (QI q D [(a9 0, .inr (9, fl9 a9 i9 g9))] (va_A [(a9 0, .inr (9, fl9 a9 i9 g9))] sz)) 0 0 (va_A [(a9 0, .inr (9, fl9 a9 i9 g9))] sz) := by
  refine Met.ofW (cc := cX9_torn) (maxL := 1) (ret := (some .int)) (by decide) rfl ?_
  intro p e s m args below meth c s₁ B hml hv
  obtain ⟨rfl, hsz, hP, hK, hD0⟩ := hv
  have hx := B.exec
  have hb := B.bytes
  have hr := B.returns
  have hts := atoms_spec (ws := (wS yX9_torn cX9_torn 1 (some .int))) B.pre
  have hown : s.vm.findClass RX9 = some m.cls := findClass_of_methodNamed B.named
  have hlocks := B.notSynchronized
  subst hsz
  have hD := hD0.self (sz := s.heap.size)
  refine w_nameQ (fun Q hQ => ?_)
  have hl := lv_entry ([.ref (a9 0)] : List Value) (n := 1) (Nat.le_of_ble_eq_true rfl)
  rw [lg_entry_eq]
  generalize (lg_sl ([.ref (a9 0)] : List Value) ++ List.replicate (1 - (lg_sl ([.ref (a9 0)] : List Value)).length) Slot.unset).toArray = ls at hl ⊢
  have hl : lv_has ls 1 [(0, .ref (a9 0))] := hl
  generalize hAe : va_A [(a9 0, .inr (9, fl9 a9 i9 g9))] s.heap.size = A at hD hQ
  have hA : ∀ q : Nat, s.heap.size ≤ q → A q := fun q h => by rw [← hAe]; exact Or.inr h
  have hS : va_S A s.heap s.heap [] := va_S.rf
  generalize ([.ref (a9 0)] : List Value).toArray = av at hts hQ ⊢
  have hL : ∀ w ∈ wsL_law, w.before av s = true := fun w h => hts w (List.mem_cons_of_mem _ h)
  have w0 := hL (.fieldLink RX9 357 "LosingLeagueModel" "torn" "I") (hR49 1 rfl)
  unfold fX9_torn at hf
  obtain ⟨H, hH⟩ : ∃ H : Heap, H = s.heap := ⟨_, rfl⟩
  obtain ⟨locs, hlo⟩ : ∃ locs : List Loc, locs = [] := ⟨_, rfl⟩
  have hP : va_P D vwCl [(a9 0, .inr (9, fl9 a9 i9 g9))] H := by rw [hH]; exact hP
  have hS : va_S A s.heap H locs := by rw [hH, hlo]; exact hS
  suffices hw : W p l e rmX9_torn s m av below meth c H locs 0 0 Q (F0 m 0 ls []) by rw [hH, hlo] at hw; exact hw
  refine lv_aload_n hx hb dX9_torn_0 rfl (lv_at hl 0 rfl) ?_
  refine va_get (D := D) (ci := 9) (v := .int (i9 21)) (C := RX9) (T := TX9) (N := 52) hx hb hL inlX9 hown hK.1 hP 0 rfl rfl 51 (by decide) w0 (fun _ h9 => h9) rfl dX9_torn_1 ?_
  exact ret_i (q := q) (g := fun q => q) (wp := fun q => [(a9 0, .inr (9, fl9 a9 i9 g9))]) hQ hf hx hb hr hlocks hP hD hS dX9_torn_4 rfl
abbrev rmX9_count : Room := { frames := 2, cells := 0, slots := 0, locals := 42 }
set_option maxHeartbeats 40000000 in
set_option maxRecDepth 100000 in
theorem mX9_count (l : Launch) (D : va_G) (cyI cyJ cyB cyS : ClassId) (N : Nat) (sz : Nat) (a9 : Nat → Nat) (i9 : Nat → Int32) (g9 : Nat → Int64) (c_goes : Nat → Int32) (c_holds : Nat → Int32) (c_lanes : Nat → Int32) (c_lengths : Nat → Int32) (c_many : Nat → Int32) (x1 : Int32) (q : Int32) (hf : fX9_count N (i9 0) c_goes c_holds c_lanes c_lengths c_many x1 = some q) : Met l yX9_count (wS yX9_count cX9_count 2 (some .int)) rmX9_count (va_Pc [.ref (a9 0), .int x1] (PP D cyI cyJ cyB cyS [(a9 0, .inr (9, fl9 a9 i9 g9)), ((a9 11), .inl (cyI, 60, .inl c_goes)), ((a9 5), .inl (cyI, 32, .inl c_holds)), ((a9 25), .inl (cyI, 4, .inl c_lanes)), ((a9 26), .inl (cyI, 4, .inl c_lengths)), ((a9 12), .inl (cyI, 2, .inl c_many))] sz)) (QI q D [(a9 0, .inr (9, fl9 a9 i9 g9)), ((a9 11), .inl (cyI, 60, .inl c_goes)), ((a9 5), .inl (cyI, 32, .inl c_holds)), ((a9 25), .inl (cyI, 4, .inl c_lanes)), ((a9 26), .inl (cyI, 4, .inl c_lengths)), ((a9 12), .inl (cyI, 2, .inl c_many))] (va_A [(a9 0, .inr (9, fl9 a9 i9 g9)), ((a9 11), .inl (cyI, 60, .inl c_goes)), ((a9 5), .inl (cyI, 32, .inl c_holds)), ((a9 25), .inl (cyI, 4, .inl c_lanes)), ((a9 26), .inl (cyI, 4, .inl c_lengths)), ((a9 12), .inl (cyI, 2, .inl c_many))] sz)) 0 0 (va_A [(a9 0, .inr (9, fl9 a9 i9 g9)), ((a9 11), .inl (cyI, 60, .inl c_goes)), ((a9 5), .inl (cyI, 32, .inl c_holds)), ((a9 25), .inl (cyI, 4, .inl c_lanes)), ((a9 26), .inl (cyI, 4, .inl c_lengths)), ((a9 12), .inl (cyI, 2, .inl c_many))] sz) := by
  refine Met.ofW (cc := cX9_count) (maxL := 2) (ret := (some .int)) (by decide) rfl ?_
  intro p e s m args below meth c s₁ B hml hv
  obtain ⟨rfl, hsz, hP, hK, hD0⟩ := hv
  have hx := B.exec
  have hb := B.bytes
  have hr := B.returns
  have hts := atoms_spec (ws := (wS yX9_count cX9_count 2 (some .int))) B.pre
  have hown : s.vm.findClass RX9 = some m.cls := findClass_of_methodNamed B.named
  have hlocks := B.notSynchronized
  subst hsz
  have hD := hD0.self (sz := s.heap.size)
  refine w_nameQ (fun Q hQ => ?_)
  have hl := lv_entry ([.ref (a9 0), .int x1] : List Value) (n := 2) (Nat.le_of_ble_eq_true rfl)
  rw [lg_entry_eq]
  generalize (lg_sl ([.ref (a9 0), .int x1] : List Value) ++ List.replicate (2 - (lg_sl ([.ref (a9 0), .int x1] : List Value)).length) Slot.unset).toArray = ls at hl ⊢
  have hl : lv_has ls 2 [(0, .ref (a9 0)), (1, .int x1)] := hl
  generalize hAe : va_A [(a9 0, .inr (9, fl9 a9 i9 g9)), ((a9 11), .inl (cyI, 60, .inl c_goes)), ((a9 5), .inl (cyI, 32, .inl c_holds)), ((a9 25), .inl (cyI, 4, .inl c_lanes)), ((a9 26), .inl (cyI, 4, .inl c_lengths)), ((a9 12), .inl (cyI, 2, .inl c_many))] s.heap.size = A at hD hQ
  have hA : ∀ q : Nat, s.heap.size ≤ q → A q := fun q h => by rw [← hAe]; exact Or.inr h
  have hS : va_S A s.heap s.heap [] := va_S.rf
  generalize ([.ref (a9 0), .int x1] : List Value).toArray = av at hts hQ ⊢
  have hL : ∀ w ∈ wsL_law, w.before av s = true := fun w h => hts w (List.mem_cons_of_mem _ h)
  have w0 := hL (.fieldLink RX9 43 "LosingLeagueModel" "many" "[I") (hR6 15 rfl)
  have w1 := hL (.fieldLink RX9 92 "LosingLeagueModel" "taped" "I") (hR7 22 rfl)
  have w2 := hL (.fieldLink RX9 83 "LosingLeagueModel" "lanes" "[I") (hR7 4 rfl)
  have w3 := hL (.fieldLink RX9 86 "LosingLeagueModel" "lengths" "[I") (hR7 5 rfl)
  have hB89 : ∀ (s0 : Int32) (H : Heap) (locs : List Loc) (ls : Array Slot), fX9_count_89 N (i9 0) c_goes c_holds c_lanes c_lengths c_many x1 s0 = some q → va_P D vwCl [(a9 0, .inr (9, fl9 a9 i9 g9)), ((a9 11), .inl (cyI, 60, .inl c_goes)), ((a9 5), .inl (cyI, 32, .inl c_holds)), ((a9 25), .inl (cyI, 4, .inl c_lanes)), ((a9 26), .inl (cyI, 4, .inl c_lengths)), ((a9 12), .inl (cyI, 2, .inl c_many))] H → va_D A [(a9 0, .inr (9, fl9 a9 i9 g9)), ((a9 11), .inl (cyI, 60, .inl c_goes)), ((a9 5), .inl (cyI, 32, .inl c_holds)), ((a9 25), .inl (cyI, 4, .inl c_lanes)), ((a9 26), .inl (cyI, 4, .inl c_lengths)), ((a9 12), .inl (cyI, 2, .inl c_many))] → va_S A s.heap H locs → lv_has ls 2 [] → W p l e rmX9_count s m av below meth c H locs 0 0 Q (F0 m 89 ls [.int s0]) := by
    intro s0 H locs ls hf hP hD hS hl
    unfold fX9_count_89 at hf
    exact ret_i (q := q) (g := fun q => q) (wp := fun q => [(a9 0, .inr (9, fl9 a9 i9 g9)), ((a9 11), .inl (cyI, 60, .inl c_goes)), ((a9 5), .inl (cyI, 32, .inl c_holds)), ((a9 25), .inl (cyI, 4, .inl c_lanes)), ((a9 26), .inl (cyI, 4, .inl c_lengths)), ((a9 12), .inl (cyI, 2, .inl c_many))]) hQ hf hx hb hr hlocks hP hD hS dX9_count_89 rfl
  unfold fX9_count at hf
  obtain ⟨H, hH⟩ : ∃ H : Heap, H = s.heap := ⟨_, rfl⟩
  obtain ⟨locs, hlo⟩ : ∃ locs : List Loc, locs = [] := ⟨_, rfl⟩
  have hP : va_P D vwCl [(a9 0, .inr (9, fl9 a9 i9 g9)), ((a9 11), .inl (cyI, 60, .inl c_goes)), ((a9 5), .inl (cyI, 32, .inl c_holds)), ((a9 25), .inl (cyI, 4, .inl c_lanes)), ((a9 26), .inl (cyI, 4, .inl c_lengths)), ((a9 12), .inl (cyI, 2, .inl c_many))] H := by rw [hH]; exact hP
  have hS : va_S A s.heap H locs := by rw [hH, hlo]; exact hS
  suffices hw : W p l e rmX9_count s m av below meth c H locs 0 0 Q (F0 m 0 ls []) by rw [hH, hlo] at hw; exact hw
  refine lv_iload_n hx hb dX9_count_0 rfl (lv_at hl 1 rfl) ?_
  rcases Decidable.em (x1 = 0) with z1_0 | z1_0
  · have hf := pif_t z1_0 hf
    refine lv_tableIn (tgt := 40) hx hb dX9_count_1 (by rw [z1_0]; decide) (by rw [z1_0]; decide) (by rw [z1_0]; try rfl) (by decide) ?_
    refine lv_aload_n hx hb dX9_count_40 rfl (lv_at hl 0 rfl) ?_
    obtain ⟨q41, e41, hf⟩ := pb_some hf
    refine cc_i (wc := [(a9 0, .inr (9, fl9 a9 i9 g9)), ((a9 5), .inl (cyI, 32, .inl c_holds))]) (wr := [((a9 11), .inl (cyI, 60, .inl c_goes)), ((a9 25), .inl (cyI, 4, .inl c_lanes)), ((a9 26), .inl (cyI, 4, .inl c_lengths)), ((a9 12), .inl (cyI, 2, .inl c_many))]) (w1 := [(a9 0, .inr (9, fl9 a9 i9 g9)), ((a9 5), .inl (cyI, 32, .inl c_holds))]) (wn := [(a9 0, .inr (9, fl9 a9 i9 g9)), ((a9 11), .inl (cyI, 60, .inl c_goes)), ((a9 5), .inl (cyI, 32, .inl c_holds)), ((a9 25), .inl (cyI, 4, .inl c_lanes)), ((a9 26), .inl (cyI, 4, .inl c_lengths)), ((a9 12), .inl (cyI, 2, .inl c_many))]) hP hD hS hA [0, 2] [1, 3, 4, 5] [4, 0, 5, 1, 2, 3] rfl rfl rfl (by decide) rfl rfl (va_runV (C := RX9) (As := []) (rest := []) ⟨hx, hb, hml, hown, hL⟩ (mX9_sides l D cyI cyJ cyB cyS N H.size a9 i9 g9 c_holds  q41 e41) (cwV 0 hL (gV (hR19 15 rfl) (hR19 16 rfl) (hR19 17 rfl) (hR1 5 rfl) (hR19 18 rfl)) rfl rfl rfl (by decide +kernel) ⟨Nat.le_of_ble_eq_true rfl, Nat.le_of_ble_eq_true rfl⟩) (PP_preV (ci := 9) (q0 := 0) hP hD hK [0, 2] rfl rfl rfl rfl) rfl rfl hl.1 rfl (lv_room (Nat.le_of_ble_eq_true rfl)) dX9_count_41 ⟨Nat.le_of_ble_eq_true rfl, Nat.le_of_ble_eq_true rfl⟩) (fun H locs hP hD hS => ?_)
    exact ret_i (q := q) (g := fun q => q) (wp := fun q => [(a9 0, .inr (9, fl9 a9 i9 g9)), ((a9 11), .inl (cyI, 60, .inl c_goes)), ((a9 5), .inl (cyI, 32, .inl c_holds)), ((a9 25), .inl (cyI, 4, .inl c_lanes)), ((a9 26), .inl (cyI, 4, .inl c_lengths)), ((a9 12), .inl (cyI, 2, .inl c_many))]) hQ hf hx hb hr hlocks hP hD hS dX9_count_44 rfl
  · have hf := pif_f z1_0 hf
    rcases Decidable.em (x1 = 1) with z1_1 | z1_1
    · have hf := pif_t z1_1 hf
      refine lv_tableIn (tgt := 45) hx hb dX9_count_1 (by rw [z1_1]; decide) (by rw [z1_1]; decide) (by rw [z1_1]; try rfl) (by decide) ?_
      refine lv_aload_n hx hb dX9_count_45 rfl (lv_at hl 0 rfl) ?_
      refine va_get (D := D) (ci := 9) (v := .ref (a9 12)) (C := RX9) (T := TX9) (N := 52) hx hb hL inlX9 hown hK.1 hP 0 rfl rfl 22 (by decide) w0 (fun _ h9 => h9) rfl dX9_count_46 ?_
      refine lv_iconst (v := 0) hx hb dX9_count_49 (by decide) ?_
      obtain ⟨h50, hf⟩ := pg_some hf
      refine va_iald hx hb hK.1 hP 5 0 rfl rfl h50 dX9_count_50 ?_
      exact ret_i (q := q) (g := fun q => q) (wp := fun q => [(a9 0, .inr (9, fl9 a9 i9 g9)), ((a9 11), .inl (cyI, 60, .inl c_goes)), ((a9 5), .inl (cyI, 32, .inl c_holds)), ((a9 25), .inl (cyI, 4, .inl c_lanes)), ((a9 26), .inl (cyI, 4, .inl c_lengths)), ((a9 12), .inl (cyI, 2, .inl c_many))]) hQ hf hx hb hr hlocks hP hD hS dX9_count_51 rfl
    · have hf := pif_f z1_1 hf
      rcases Decidable.em (x1 = 2) with z1_2 | z1_2
      · have hf := pif_t z1_2 hf
        refine lv_tableIn (tgt := 52) hx hb dX9_count_1 (by rw [z1_2]; decide) (by rw [z1_2]; decide) (by rw [z1_2]; try rfl) (by decide) ?_
        refine lv_aload_n hx hb dX9_count_52 rfl (lv_at hl 0 rfl) ?_
        obtain ⟨q53, e53, hf⟩ := pb_some hf
        refine cc_i (wc := [(a9 0, .inr (9, fl9 a9 i9 g9)), ((a9 11), .inl (cyI, 60, .inl c_goes)), ((a9 12), .inl (cyI, 2, .inl c_many))]) (wr := [((a9 5), .inl (cyI, 32, .inl c_holds)), ((a9 25), .inl (cyI, 4, .inl c_lanes)), ((a9 26), .inl (cyI, 4, .inl c_lengths))]) (w1 := [(a9 0, .inr (9, fl9 a9 i9 g9)), ((a9 11), .inl (cyI, 60, .inl c_goes)), ((a9 12), .inl (cyI, 2, .inl c_many))]) (wn := [(a9 0, .inr (9, fl9 a9 i9 g9)), ((a9 11), .inl (cyI, 60, .inl c_goes)), ((a9 5), .inl (cyI, 32, .inl c_holds)), ((a9 25), .inl (cyI, 4, .inl c_lanes)), ((a9 26), .inl (cyI, 4, .inl c_lengths)), ((a9 12), .inl (cyI, 2, .inl c_many))]) hP hD hS hA [0, 1, 5] [2, 3, 4] [3, 4, 0, 1, 2, 5] rfl rfl rfl (by decide) rfl rfl (va_runV (C := RX9) (As := []) (rest := []) ⟨hx, hb, hml, hown, hL⟩ (mX9_openMany l D cyI cyJ cyB cyS N H.size a9 i9 g9 c_goes c_many  q53 e53) (cwV 0 hL (gV (hR26 1 rfl) (hR26 2 rfl) (hR26 3 rfl) (hR1 5 rfl) (hR26 4 rfl)) rfl rfl rfl (by decide +kernel) ⟨Nat.le_of_ble_eq_true rfl, Nat.le_of_ble_eq_true rfl⟩) (PP_preV (ci := 9) (q0 := 0) hP hD hK [0, 1, 5] rfl rfl rfl rfl) rfl rfl hl.1 rfl (lv_room (Nat.le_of_ble_eq_true rfl)) dX9_count_53 ⟨Nat.le_of_ble_eq_true rfl, Nat.le_of_ble_eq_true rfl⟩) (fun H locs hP hD hS => ?_)
        exact ret_i (q := q) (g := fun q => q) (wp := fun q => [(a9 0, .inr (9, fl9 a9 i9 g9)), ((a9 11), .inl (cyI, 60, .inl c_goes)), ((a9 5), .inl (cyI, 32, .inl c_holds)), ((a9 25), .inl (cyI, 4, .inl c_lanes)), ((a9 26), .inl (cyI, 4, .inl c_lengths)), ((a9 12), .inl (cyI, 2, .inl c_many))]) hQ hf hx hb hr hlocks hP hD hS dX9_count_56 rfl
      · have hf := pif_f z1_2 hf
        rcases Decidable.em (x1 = 3) with z1_3 | z1_3
        · have hf := pif_t z1_3 hf
          refine lv_tableIn (tgt := 57) hx hb dX9_count_1 (by rw [z1_3]; decide) (by rw [z1_3]; decide) (by rw [z1_3]; try rfl) (by decide) ?_
          refine lv_aload_n hx hb dX9_count_57 rfl (lv_at hl 0 rfl) ?_
          obtain ⟨q58, e58, hf⟩ := pb_some hf
          refine cc_i (wc := [(a9 0, .inr (9, fl9 a9 i9 g9)), ((a9 5), .inl (cyI, 32, .inl c_holds))]) (wr := [((a9 11), .inl (cyI, 60, .inl c_goes)), ((a9 25), .inl (cyI, 4, .inl c_lanes)), ((a9 26), .inl (cyI, 4, .inl c_lengths)), ((a9 12), .inl (cyI, 2, .inl c_many))]) (w1 := [(a9 0, .inr (9, fl9 a9 i9 g9)), ((a9 5), .inl (cyI, 32, .inl c_holds))]) (wn := [(a9 0, .inr (9, fl9 a9 i9 g9)), ((a9 11), .inl (cyI, 60, .inl c_goes)), ((a9 5), .inl (cyI, 32, .inl c_holds)), ((a9 25), .inl (cyI, 4, .inl c_lanes)), ((a9 26), .inl (cyI, 4, .inl c_lengths)), ((a9 12), .inl (cyI, 2, .inl c_many))]) hP hD hS hA [0, 2] [1, 3, 4, 5] [4, 0, 5, 1, 2, 3] rfl rfl rfl (by decide) rfl rfl (va_runV (C := RX9) (As := []) (rest := []) ⟨hx, hb, hml, hown, hL⟩ (mX9_balls l D cyI cyJ cyB cyS N H.size a9 i9 g9 c_holds  q58 e58) (cwV 0 hL (gV (hR33 4 rfl) (hR33 5 rfl) (hR33 6 rfl) (hR1 5 rfl) (hR33 7 rfl)) rfl rfl rfl (by decide +kernel) ⟨Nat.le_of_ble_eq_true rfl, Nat.le_of_ble_eq_true rfl⟩) (PP_preV (ci := 9) (q0 := 0) hP hD hK [0, 2] rfl rfl rfl rfl) rfl rfl hl.1 rfl (lv_room (Nat.le_of_ble_eq_true rfl)) dX9_count_58 ⟨Nat.le_of_ble_eq_true rfl, Nat.le_of_ble_eq_true rfl⟩) (fun H locs hP hD hS => ?_)
          exact ret_i (q := q) (g := fun q => q) (wp := fun q => [(a9 0, .inr (9, fl9 a9 i9 g9)), ((a9 11), .inl (cyI, 60, .inl c_goes)), ((a9 5), .inl (cyI, 32, .inl c_holds)), ((a9 25), .inl (cyI, 4, .inl c_lanes)), ((a9 26), .inl (cyI, 4, .inl c_lengths)), ((a9 12), .inl (cyI, 2, .inl c_many))]) hQ hf hx hb hr hlocks hP hD hS dX9_count_61 rfl
        · have hf := pif_f z1_3 hf
          rcases Decidable.em (x1 = 4) with z1_4 | z1_4
          · have hf := pif_t z1_4 hf
            refine lv_tableIn (tgt := 62) hx hb dX9_count_1 (by rw [z1_4]; decide) (by rw [z1_4]; decide) (by rw [z1_4]; try rfl) (by decide) ?_
            refine lv_aload_n hx hb dX9_count_62 rfl (lv_at hl 0 rfl) ?_
            refine va_get (D := D) (ci := 9) (v := .int (i9 0)) (C := RX9) (T := TX9) (N := 52) hx hb hL inlX9 hown hK.1 hP 0 rfl rfl 1 (by decide) w1 (fun _ h9 => h9) rfl dX9_count_63 ?_
            exact ret_i (q := q) (g := fun q => q) (wp := fun q => [(a9 0, .inr (9, fl9 a9 i9 g9)), ((a9 11), .inl (cyI, 60, .inl c_goes)), ((a9 5), .inl (cyI, 32, .inl c_holds)), ((a9 25), .inl (cyI, 4, .inl c_lanes)), ((a9 26), .inl (cyI, 4, .inl c_lengths)), ((a9 12), .inl (cyI, 2, .inl c_many))]) hQ hf hx hb hr hlocks hP hD hS dX9_count_66 rfl
          · have hf := pif_f z1_4 hf
            rcases Decidable.em (x1 = 5) with z1_5 | z1_5
            · have hf := pif_t z1_5 hf
              refine lv_tableIn (tgt := 67) hx hb dX9_count_1 (by rw [z1_5]; decide) (by rw [z1_5]; decide) (by rw [z1_5]; try rfl) (by decide) ?_
              refine lv_aload_n hx hb dX9_count_67 rfl (lv_at hl 0 rfl) ?_
              refine va_get (D := D) (ci := 9) (v := .ref (a9 25)) (C := RX9) (T := TX9) (N := 52) hx hb hL inlX9 hown hK.1 hP 0 rfl rfl 48 (by decide) w2 (fun _ h9 => h9) rfl dX9_count_68 ?_
              refine lv_iconst (v := 0) hx hb dX9_count_71 (by decide) ?_
              obtain ⟨h72, hf⟩ := pg_some hf
              refine va_iald hx hb hK.1 hP 3 0 rfl rfl h72 dX9_count_72 ?_
              refine lv_bipush (v := (-4)) hx hb dX9_count_73 (by decide) ?_
              refine lv_icmp_ne (tgt := 83) hx hb dX9_count_75 (by decide) (fun c75 => ?_) (fun c75 => ?_)
              · have hf := pif_f c75 hf
                refine lv_aload_n hx hb dX9_count_83 rfl (lv_at hl 0 rfl) ?_
                refine va_get (D := D) (ci := 9) (v := .ref (a9 26)) (C := RX9) (T := TX9) (N := 52) hx hb hL inlX9 hown hK.1 hP 0 rfl rfl 49 (by decide) w3 (fun _ h9 => h9) rfl dX9_count_84 ?_
                refine lv_iconst (v := 0) hx hb dX9_count_87 (by decide) ?_
                obtain ⟨h88, hf⟩ := pg_some hf
                refine va_iald hx hb hK.1 hP 4 0 rfl rfl h88 dX9_count_88 ?_
                exact hB89 (c_lengths (0 : Int32).toNatClampNeg) H locs ls hf hP hD hS (lv_sub hl [] rfl)
              · have hf := pif_t c75 hf
                refine lv_bipush (v := (-4)) hx hb dX9_count_78 (by decide) ?_
                refine lv_goto (tgt := 89) hx hb dX9_count_80 (by decide) ?_
                exact hB89 (-4) H locs ls hf hP hD hS (lv_sub hl [] rfl)
            · have hf := pif_f z1_5 hf
              refine lv_tableOut (tgt := 90) hx hb dX9_count_1 (by have y0 := lv_neT (k := 0) (a := 0) z1_0 rfl; have y1 := lv_neT (k := 1) (a := 1) z1_1 rfl; have y2 := lv_neT (k := 2) (a := 2) z1_2 rfl; have y3 := lv_neT (k := 3) (a := 3) z1_3 rfl; have y4 := lv_neT (k := 4) (a := 4) z1_4 rfl; have y5 := lv_neT (k := 5) (a := 5) z1_5 rfl; omega) (by decide) ?_
              refine lv_iconst (v := (-1)) hx hb dX9_count_90 (by decide) ?_
              exact ret_i (q := q) (g := fun q => q) (wp := fun q => [(a9 0, .inr (9, fl9 a9 i9 g9)), ((a9 11), .inl (cyI, 60, .inl c_goes)), ((a9 5), .inl (cyI, 32, .inl c_holds)), ((a9 25), .inl (cyI, 4, .inl c_lanes)), ((a9 26), .inl (cyI, 4, .inl c_lengths)), ((a9 12), .inl (cyI, 2, .inl c_many))]) hQ hf hx hb hr hlocks hP hD hS dX9_count_91 rfl
