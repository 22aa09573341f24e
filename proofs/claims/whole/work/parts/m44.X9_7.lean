abbrev rmX9_odds : Room := { frames := 3, cells := 0, slots := 0, locals := 73 }
set_option maxHeartbeats 40000000 in
set_option maxRecDepth 100000 in
theorem mX9_odds (l : Launch) (D : va_G) (cyI cyJ cyB cyS : ClassId) (N : Nat) (sz : Nat) (a9 : Nat → Nat) (i9 : Nat → Int32) (g9 : Nat → Int64) (c_firsts : Nat → Int32) (c_goes : Nat → Int32) (c_holds : Nat → Int32) (c_many : Nat → Int32) (c_opens : Nat → Int32) (c_placeOf : Nat → Int32) (c_seconds : Nat → Int32) (c_sideAt : Nat → Int32) (c_won : Nat → Int32) (x1 : Int32) (x2 : Int32) (x3 : Int32) (q : Int64 × Int32 × (Nat → Int32) × (Nat → Int32) × (Nat → Int32) × (Nat → Int32) × (Nat → Int32)) (hf : fX9_odds N (i9 13) c_firsts c_goes c_holds c_many c_opens c_placeOf c_seconds c_sideAt c_won x1 x2 x3 = some q) : Met l yX9_odds (wS yX9_odds cX9_odds 7 (some .long)) rmX9_odds (va_Pc [.ref (a9 0), .int x1, .int x2, .int x3] (PP D cyI cyJ cyB cyS [(a9 0, .inr (9, fl9 a9 i9 g9)), ((a9 9), .inl (cyI, 60, .inl c_firsts)), ((a9 11), .inl (cyI, 60, .inl c_goes)), ((a9 5), .inl (cyI, 32, .inl c_holds)), ((a9 12), .inl (cyI, 2, .inl c_many)), ((a9 21), .inl (cyI, 30, .inl c_opens)), ((a9 16), .inl (cyI, 6, .inl c_placeOf)), ((a9 10), .inl (cyI, 60, .inl c_seconds)), ((a9 15), .inl (cyI, 6, .inl c_sideAt)), ((a9 14), .inl (cyI, 6, .inl c_won))] sz)) (QL q.1 D [(a9 0, .inr (9, fl9 a9 (va_up i9 13 q.2.1) g9)), ((a9 9), .inl (cyI, 60, .inl c_firsts)), ((a9 11), .inl (cyI, 60, .inl q.2.2.1)), ((a9 5), .inl (cyI, 32, .inl c_holds)), ((a9 12), .inl (cyI, 2, .inl c_many)), ((a9 21), .inl (cyI, 30, .inl q.2.2.2.1)), ((a9 16), .inl (cyI, 6, .inl q.2.2.2.2.1)), ((a9 10), .inl (cyI, 60, .inl c_seconds)), ((a9 15), .inl (cyI, 6, .inl q.2.2.2.2.2.1)), ((a9 14), .inl (cyI, 6, .inl q.2.2.2.2.2.2))] (va_A [(a9 0, .inr (9, fl9 a9 i9 g9)), ((a9 9), .inl (cyI, 60, .inl c_firsts)), ((a9 11), .inl (cyI, 60, .inl c_goes)), ((a9 5), .inl (cyI, 32, .inl c_holds)), ((a9 12), .inl (cyI, 2, .inl c_many)), ((a9 21), .inl (cyI, 30, .inl c_opens)), ((a9 16), .inl (cyI, 6, .inl c_placeOf)), ((a9 10), .inl (cyI, 60, .inl c_seconds)), ((a9 15), .inl (cyI, 6, .inl c_sideAt)), ((a9 14), .inl (cyI, 6, .inl c_won))] sz)) 0 0 (va_A [(a9 0, .inr (9, fl9 a9 i9 g9)), ((a9 9), .inl (cyI, 60, .inl c_firsts)), ((a9 11), .inl (cyI, 60, .inl c_goes)), ((a9 5), .inl (cyI, 32, .inl c_holds)), ((a9 12), .inl (cyI, 2, .inl c_many)), ((a9 21), .inl (cyI, 30, .inl c_opens)), ((a9 16), .inl (cyI, 6, .inl c_placeOf)), ((a9 10), .inl (cyI, 60, .inl c_seconds)), ((a9 15), .inl (cyI, 6, .inl c_sideAt)), ((a9 14), .inl (cyI, 6, .inl c_won))] sz) := by
  refine Met.ofW (cc := cX9_odds) (maxL := 7) (ret := (some .long)) (by decide) rfl ?_
  intro p e s m args below meth c s₁ B hml hv
  obtain ⟨rfl, hsz, hP, hK, hD0⟩ := hv
  have hx := B.exec
  have hb := B.bytes
  have hr := B.returns
  have hts := atoms_spec (ws := (wS yX9_odds cX9_odds 7 (some .long))) B.pre
  have hown : s.vm.findClass RX9 = some m.cls := findClass_of_methodNamed B.named
  have hlocks := B.notSynchronized
  subst hsz
  have hD := hD0.self (sz := s.heap.size)
  refine w_nameQ (fun Q hQ => ?_)
  have hl := lv_entry ([.ref (a9 0), .int x1, .int x2, .int x3] : List Value) (n := 7) (Nat.le_of_ble_eq_true rfl)
  rw [lg_entry_eq]
  generalize (lg_sl ([.ref (a9 0), .int x1, .int x2, .int x3] : List Value) ++ List.replicate (7 - (lg_sl ([.ref (a9 0), .int x1, .int x2, .int x3] : List Value)).length) Slot.unset).toArray = ls at hl ⊢
  have hl : lv_has ls 7 [(0, .ref (a9 0)), (1, .int x1), (2, .int x2), (3, .int x3)] := hl
  generalize hAe : va_A [(a9 0, .inr (9, fl9 a9 i9 g9)), ((a9 9), .inl (cyI, 60, .inl c_firsts)), ((a9 11), .inl (cyI, 60, .inl c_goes)), ((a9 5), .inl (cyI, 32, .inl c_holds)), ((a9 12), .inl (cyI, 2, .inl c_many)), ((a9 21), .inl (cyI, 30, .inl c_opens)), ((a9 16), .inl (cyI, 6, .inl c_placeOf)), ((a9 10), .inl (cyI, 60, .inl c_seconds)), ((a9 15), .inl (cyI, 6, .inl c_sideAt)), ((a9 14), .inl (cyI, 6, .inl c_won))] s.heap.size = A at hD hQ
  have hA : ∀ q : Nat, s.heap.size ≤ q → A q := fun q h => by rw [← hAe]; exact Or.inr h
  have hS : va_S A s.heap s.heap [] := va_S.rf
  generalize ([.ref (a9 0), .int x1, .int x2, .int x3] : List Value).toArray = av at hts hQ ⊢
  have hL : ∀ w ∈ wsL_law, w.before av s = true := fun w h => hts w (List.mem_cons_of_mem _ h)
  have w0 := hL (.constantLong RX9 266 (-1)) (hR33 21 rfl)
  have w1 := hL (.fieldLink RX9 241 "LosingLeagueModel" "open" "I") (hR26 0 rfl)
  have w2 := hL (.static yX9_lowest) (hR33 9 rfl)
  have w3 := hL (.fieldLink RX9 55 "LosingLeagueModel" "placeOf" "[I") (hR6 19 rfl)
  have w4 := hL (.static yX9_in) (hR8 8 rfl)
  have w5 := hL (.constantLong RX9 268 (-2)) (hR33 22 rfl)
  have hB26 : ∀ (v_open : Int32) (c_goes : Nat → Int32) (c_opens : Nat → Int32) (c_placeOf : Nat → Int32) (c_sideAt : Nat → Int32) (c_won : Nat → Int32) (H : Heap) (locs : List Loc) (ls : Array Slot), fX9_odds_26 N c_firsts c_holds c_many c_seconds x1 x2 x3 v_open c_goes c_opens c_placeOf c_sideAt c_won = some q → va_P D vwCl [(a9 0, .inr (9, fl9 a9 (va_up i9 13 v_open) g9)), ((a9 9), .inl (cyI, 60, .inl c_firsts)), ((a9 11), .inl (cyI, 60, .inl c_goes)), ((a9 5), .inl (cyI, 32, .inl c_holds)), ((a9 12), .inl (cyI, 2, .inl c_many)), ((a9 21), .inl (cyI, 30, .inl c_opens)), ((a9 16), .inl (cyI, 6, .inl c_placeOf)), ((a9 10), .inl (cyI, 60, .inl c_seconds)), ((a9 15), .inl (cyI, 6, .inl c_sideAt)), ((a9 14), .inl (cyI, 6, .inl c_won))] H → va_D A [(a9 0, .inr (9, fl9 a9 (va_up i9 13 v_open) g9)), ((a9 9), .inl (cyI, 60, .inl c_firsts)), ((a9 11), .inl (cyI, 60, .inl c_goes)), ((a9 5), .inl (cyI, 32, .inl c_holds)), ((a9 12), .inl (cyI, 2, .inl c_many)), ((a9 21), .inl (cyI, 30, .inl c_opens)), ((a9 16), .inl (cyI, 6, .inl c_placeOf)), ((a9 10), .inl (cyI, 60, .inl c_seconds)), ((a9 15), .inl (cyI, 6, .inl c_sideAt)), ((a9 14), .inl (cyI, 6, .inl c_won))] → va_S A s.heap H locs → lv_has ls 7 [] → W p l e rmX9_odds s m av below meth c H locs 0 0 Q (F0 m 26 ls []) := by
    intro v_open c_goes c_opens c_placeOf c_sideAt c_won H locs ls hf hP hD hS hl
    unfold fX9_odds_26 at hf
    refine lv_ldc2 (v := (-1)) hx hb hown w0 dX9_odds_26 ?_
    exact ret_l (q := q) (g := fun q => q.1) (wp := fun q => [(a9 0, .inr (9, fl9 a9 (va_up i9 13 q.2.1) g9)), ((a9 9), .inl (cyI, 60, .inl c_firsts)), ((a9 11), .inl (cyI, 60, .inl q.2.2.1)), ((a9 5), .inl (cyI, 32, .inl c_holds)), ((a9 12), .inl (cyI, 2, .inl c_many)), ((a9 21), .inl (cyI, 30, .inl q.2.2.2.1)), ((a9 16), .inl (cyI, 6, .inl q.2.2.2.2.1)), ((a9 10), .inl (cyI, 60, .inl c_seconds)), ((a9 15), .inl (cyI, 6, .inl q.2.2.2.2.2.1)), ((a9 14), .inl (cyI, 6, .inl q.2.2.2.2.2.2))]) hQ hf hx hb hr hlocks hP hD hS dX9_odds_29 rfl
  have hB99 : ∀ (k53 : Int64 → Int32 → Int32 → (Nat → Int32) → (Nat → Int32) → (Nat → Int32) → (Nat → Int32) → (Nat → Int32) → Option (Int64 × Int32 × (Nat → Int32) × (Nat → Int32) × (Nat → Int32) × (Nat → Int32) × (Nat → Int32))) (hk53 : ∀ (x4 : Int64) (x6 : Int32) (v_open : Int32) (c_goes : Nat → Int32) (c_opens : Nat → Int32) (c_placeOf : Nat → Int32) (c_sideAt : Nat → Int32) (c_won : Nat → Int32) (H : Heap) (locs : List Loc) (ls : Array Slot), k53 x4 x6 v_open c_goes c_opens c_placeOf c_sideAt c_won = some q → va_P D vwCl [(a9 0, .inr (9, fl9 a9 (va_up i9 13 v_open) g9)), ((a9 9), .inl (cyI, 60, .inl c_firsts)), ((a9 11), .inl (cyI, 60, .inl c_goes)), ((a9 5), .inl (cyI, 32, .inl c_holds)), ((a9 12), .inl (cyI, 2, .inl c_many)), ((a9 21), .inl (cyI, 30, .inl c_opens)), ((a9 16), .inl (cyI, 6, .inl c_placeOf)), ((a9 10), .inl (cyI, 60, .inl c_seconds)), ((a9 15), .inl (cyI, 6, .inl c_sideAt)), ((a9 14), .inl (cyI, 6, .inl c_won))] H → va_D A [(a9 0, .inr (9, fl9 a9 (va_up i9 13 v_open) g9)), ((a9 9), .inl (cyI, 60, .inl c_firsts)), ((a9 11), .inl (cyI, 60, .inl c_goes)), ((a9 5), .inl (cyI, 32, .inl c_holds)), ((a9 12), .inl (cyI, 2, .inl c_many)), ((a9 21), .inl (cyI, 30, .inl c_opens)), ((a9 16), .inl (cyI, 6, .inl c_placeOf)), ((a9 10), .inl (cyI, 60, .inl c_seconds)), ((a9 15), .inl (cyI, 6, .inl c_sideAt)), ((a9 14), .inl (cyI, 6, .inl c_won))] → va_S A s.heap H locs → lv_has ls 7 [(0, .ref (a9 0)), (1, .int x1), (2, .int x2), (3, .int x3), (4, .long x4), (6, .int x6)] → W p l e rmX9_odds s m av below meth c H locs 0 0 Q (F0 m 53 ls [])), ∀ (x6 : Int32) (s0 : Int64) (s1 : Int64) (v_open : Int32) (c_goes : Nat → Int32) (c_opens : Nat → Int32) (c_placeOf : Nat → Int32) (c_sideAt : Nat → Int32) (c_won : Nat → Int32) (H : Heap) (locs : List Loc) (ls : Array Slot), fX9_odds_99 N c_firsts c_holds c_many c_seconds x1 x2 x3 k53 x6 s0 s1 v_open c_goes c_opens c_placeOf c_sideAt c_won = some q → va_P D vwCl [(a9 0, .inr (9, fl9 a9 (va_up i9 13 v_open) g9)), ((a9 9), .inl (cyI, 60, .inl c_firsts)), ((a9 11), .inl (cyI, 60, .inl c_goes)), ((a9 5), .inl (cyI, 32, .inl c_holds)), ((a9 12), .inl (cyI, 2, .inl c_many)), ((a9 21), .inl (cyI, 30, .inl c_opens)), ((a9 16), .inl (cyI, 6, .inl c_placeOf)), ((a9 10), .inl (cyI, 60, .inl c_seconds)), ((a9 15), .inl (cyI, 6, .inl c_sideAt)), ((a9 14), .inl (cyI, 6, .inl c_won))] H → va_D A [(a9 0, .inr (9, fl9 a9 (va_up i9 13 v_open) g9)), ((a9 9), .inl (cyI, 60, .inl c_firsts)), ((a9 11), .inl (cyI, 60, .inl c_goes)), ((a9 5), .inl (cyI, 32, .inl c_holds)), ((a9 12), .inl (cyI, 2, .inl c_many)), ((a9 21), .inl (cyI, 30, .inl c_opens)), ((a9 16), .inl (cyI, 6, .inl c_placeOf)), ((a9 10), .inl (cyI, 60, .inl c_seconds)), ((a9 15), .inl (cyI, 6, .inl c_sideAt)), ((a9 14), .inl (cyI, 6, .inl c_won))] → va_S A s.heap H locs → lv_has ls 7 [(0, .ref (a9 0)), (1, .int x1), (2, .int x2), (3, .int x3), (6, .int x6)] → W p l e rmX9_odds s m av below meth c H locs 0 0 Q (F0 m 99 ls [.long s1, .long s0]) := by
    intro k53 hk53 x6 s0 s1 v_open c_goes c_opens c_placeOf c_sideAt c_won H locs ls hf hP hD hS hl
    unfold fX9_odds_99 at hf
    refine lv_ladd hx hb dX9_odds_99 ?_
    refine lv_lstore (lv' := [(4, .long (s0 + s1)), (0, .ref (a9 0)), (1, .int x1), (2, .int x2), (3, .int x3), (6, .int x6)]) hx hb dX9_odds_100 hl (by decide) rfl (fun ls hl => ?_)
    refine lv_iinc (v := x6 + 1) (lv' := [(6, .int (x6 + 1)), (4, .long (s0 + s1)), (0, .ref (a9 0)), (1, .int x1), (2, .int x2), (3, .int x3)]) hx hb dX9_odds_102 hl (k := 5) rfl rfl (by decide) rfl (fun ls hl => ?_)
    refine lv_goto (tgt := 53) hx hb dX9_odds_105 (by decide) ?_
    exact hk53 (s0 + s1) (x6 + 1) v_open c_goes c_opens c_placeOf c_sideAt c_won H locs ls hf hP hD hS (lv_sub hl [2, 3, 4, 5, 1, 0] rfl)
  have hB53 : ∀ (n : Nat), ∀ (x4 : Int64) (x6 : Int32) (v_open : Int32) (c_goes : Nat → Int32) (c_opens : Nat → Int32) (c_placeOf : Nat → Int32) (c_sideAt : Nat → Int32) (c_won : Nat → Int32) (H : Heap) (locs : List Loc) (ls : Array Slot), fX9_odds_53 N c_firsts c_holds c_many c_seconds x1 x2 x3 n x4 x6 v_open c_goes c_opens c_placeOf c_sideAt c_won = some q → va_P D vwCl [(a9 0, .inr (9, fl9 a9 (va_up i9 13 v_open) g9)), ((a9 9), .inl (cyI, 60, .inl c_firsts)), ((a9 11), .inl (cyI, 60, .inl c_goes)), ((a9 5), .inl (cyI, 32, .inl c_holds)), ((a9 12), .inl (cyI, 2, .inl c_many)), ((a9 21), .inl (cyI, 30, .inl c_opens)), ((a9 16), .inl (cyI, 6, .inl c_placeOf)), ((a9 10), .inl (cyI, 60, .inl c_seconds)), ((a9 15), .inl (cyI, 6, .inl c_sideAt)), ((a9 14), .inl (cyI, 6, .inl c_won))] H → va_D A [(a9 0, .inr (9, fl9 a9 (va_up i9 13 v_open) g9)), ((a9 9), .inl (cyI, 60, .inl c_firsts)), ((a9 11), .inl (cyI, 60, .inl c_goes)), ((a9 5), .inl (cyI, 32, .inl c_holds)), ((a9 12), .inl (cyI, 2, .inl c_many)), ((a9 21), .inl (cyI, 30, .inl c_opens)), ((a9 16), .inl (cyI, 6, .inl c_placeOf)), ((a9 10), .inl (cyI, 60, .inl c_seconds)), ((a9 15), .inl (cyI, 6, .inl c_sideAt)), ((a9 14), .inl (cyI, 6, .inl c_won))] → va_S A s.heap H locs → lv_has ls 7 [(0, .ref (a9 0)), (1, .int x1), (2, .int x2), (3, .int x3), (4, .long x4), (6, .int x6)] → W p l e rmX9_odds s m av below meth c H locs 0 0 Q (F0 m 53 ls []) := by
    intro n
    induction n with
    | zero => intro x4 x6 v_open c_goes c_opens c_placeOf c_sideAt c_won H locs ls hf; exact absurd hf (by simp [fX9_odds_53])
    | succ n hk53 =>
      intro x4 x6 v_open c_goes c_opens c_placeOf c_sideAt c_won H locs ls hf hP hD hS hl
      rw [fX9_odds_53] at hf
      refine lv_iload hx hb dX9_odds_53 (lv_at hl 5 rfl) ?_
      refine lv_iconst (v := 1) hx hb dX9_odds_55 (by decide) ?_
      refine lv_aload_n hx hb dX9_odds_56 rfl (lv_at hl 0 rfl) ?_
      refine va_get (D := D) (ci := 9) (v := .int v_open) (C := RX9) (T := TX9) (N := 52) hx hb hL inlX9 hown hK.1 hP 0 rfl rfl 34 (by decide) w1 (fun _ h9 => h9) rfl dX9_odds_57 ?_
      refine lv_ishl hx hb dX9_odds_60 ?_
      refine lv_icmp_ge (tgt := 108) hx hb dX9_odds_61 (by decide) (fun c61 => ?_) (fun c61 => ?_)
      · have hf := pif_t c61 hf
        refine lv_aload_n hx hb dX9_odds_108 rfl (lv_at hl 0 rfl) ?_
        obtain ⟨q109, e109, hf⟩ := pb_some hf
        refine cc_v (wc := [(a9 0, .inr (9, fl9 a9 (va_up i9 13 v_open) g9)), ((a9 11), .inl (cyI, 60, .inl c_goes)), ((a9 21), .inl (cyI, 30, .inl c_opens))]) (wr := [((a9 9), .inl (cyI, 60, .inl c_firsts)), ((a9 5), .inl (cyI, 32, .inl c_holds)), ((a9 12), .inl (cyI, 2, .inl c_many)), ((a9 16), .inl (cyI, 6, .inl c_placeOf)), ((a9 10), .inl (cyI, 60, .inl c_seconds)), ((a9 15), .inl (cyI, 6, .inl c_sideAt)), ((a9 14), .inl (cyI, 6, .inl c_won))]) (w1 := [(a9 0, .inr (9, fl9 a9 (va_up i9 13 v_open) g9)), ((a9 11), .inl (cyI, 60, .inl q109)), ((a9 21), .inl (cyI, 30, .inl c_opens))]) (wn := [(a9 0, .inr (9, fl9 a9 (va_up i9 13 v_open) g9)), ((a9 9), .inl (cyI, 60, .inl c_firsts)), ((a9 11), .inl (cyI, 60, .inl q109)), ((a9 5), .inl (cyI, 32, .inl c_holds)), ((a9 12), .inl (cyI, 2, .inl c_many)), ((a9 21), .inl (cyI, 30, .inl c_opens)), ((a9 16), .inl (cyI, 6, .inl c_placeOf)), ((a9 10), .inl (cyI, 60, .inl c_seconds)), ((a9 15), .inl (cyI, 6, .inl c_sideAt)), ((a9 14), .inl (cyI, 6, .inl c_won))]) hP hD hS hA [0, 2, 5] [1, 3, 4, 6, 7, 8, 9] [7, 0, 8, 1, 2, 9, 3, 4, 5, 6] rfl rfl rfl (by decide) rfl rfl (va_runV (C := RX9) (As := []) (rest := []) ⟨hx, hb, hml, hown, hL⟩ (mX9_setOpen l D cyI cyJ cyB cyS N H.size a9 (va_up i9 13 v_open) g9 c_goes c_opens  q109 e109) (cwV 0 hL (gV (hR26 13 rfl) (hR26 14 rfl) (hR26 15 rfl) (hR1 5 rfl) (hR26 16 rfl)) rfl rfl rfl (by decide +kernel) ⟨Nat.le_of_ble_eq_true rfl, Nat.le_of_ble_eq_true rfl⟩) (PP_preV (ci := 9) (q0 := 0) hP hD hK [0, 2, 5] rfl rfl rfl rfl) rfl rfl hl.1 rfl (lv_room (Nat.le_of_ble_eq_true rfl)) dX9_odds_109 ⟨Nat.le_of_ble_eq_true rfl, Nat.le_of_ble_eq_true rfl⟩) (fun H locs hP hD hS => ?_)
        refine lv_lload hx hb dX9_odds_112 (lv_at hl 4 rfl) ?_
        refine lv_lconst (v := 1) hx hb dX9_odds_114 (by decide) ?_
        refine lv_iconst (v := 4) hx hb dX9_odds_115 (by decide) ?_
        refine lv_aload_n hx hb dX9_odds_116 rfl (lv_at hl 0 rfl) ?_
        refine va_get (D := D) (ci := 9) (v := .int v_open) (C := RX9) (T := TX9) (N := 52) hx hb hL inlX9 hown hK.1 hP 0 rfl rfl 34 (by decide) w1 (fun _ h9 => h9) rfl dX9_odds_117 ?_
        refine lv_imul hx hb dX9_odds_120 ?_
        refine lv_lshl hx hb dX9_odds_121 rfl ?_
        refine lv_iload_n hx hb dX9_odds_122 rfl (lv_at hl 3 rfl) ?_
        obtain ⟨q123, e123, hf⟩ := pb_some hf
        refine cc_l (wc := []) (wr := [(a9 0, .inr (9, fl9 a9 (va_up i9 13 v_open) g9)), ((a9 9), .inl (cyI, 60, .inl c_firsts)), ((a9 11), .inl (cyI, 60, .inl q109)), ((a9 5), .inl (cyI, 32, .inl c_holds)), ((a9 12), .inl (cyI, 2, .inl c_many)), ((a9 21), .inl (cyI, 30, .inl c_opens)), ((a9 16), .inl (cyI, 6, .inl c_placeOf)), ((a9 10), .inl (cyI, 60, .inl c_seconds)), ((a9 15), .inl (cyI, 6, .inl c_sideAt)), ((a9 14), .inl (cyI, 6, .inl c_won))]) (w1 := []) (wn := [(a9 0, .inr (9, fl9 a9 (va_up i9 13 v_open) g9)), ((a9 9), .inl (cyI, 60, .inl c_firsts)), ((a9 11), .inl (cyI, 60, .inl q109)), ((a9 5), .inl (cyI, 32, .inl c_holds)), ((a9 12), .inl (cyI, 2, .inl c_many)), ((a9 21), .inl (cyI, 30, .inl c_opens)), ((a9 16), .inl (cyI, 6, .inl c_placeOf)), ((a9 10), .inl (cyI, 60, .inl c_seconds)), ((a9 15), .inl (cyI, 6, .inl c_sideAt)), ((a9 14), .inl (cyI, 6, .inl c_won))]) hP hD hS hA [] [0, 1, 2, 3, 4, 5, 6, 7, 8, 9] [0, 1, 2, 3, 4, 5, 6, 7, 8, 9] rfl rfl rfl (by decide) rfl rfl (va_runS (As := [.long x4, .long (1 <<< ((4 * v_open : Int32).toInt64 &&& 63)), .int x3]) (rest := []) ⟨hx, hb, hml, hown, hL⟩ (mX9_lowest l D cyI cyJ cyB cyS N H.size   x4 (1 <<< ((4 * v_open : Int32).toInt64 &&& 63)) x3 q123 e123) (va_cwS 3 hL (gS (hR33 8 rfl) (hR33 9 rfl) (hR1 5 rfl) (hR33 10 rfl)) rfl rfl rfl (by decide +kernel) ⟨Nat.le_of_ble_eq_true rfl, Nat.le_of_ble_eq_true rfl⟩) (PP_preS hP hD hK [] rfl rfl) rfl rfl hl.1 rfl (lv_room (Nat.le_of_ble_eq_true rfl)) dX9_odds_123 ⟨Nat.le_of_ble_eq_true rfl, Nat.le_of_ble_eq_true rfl⟩) (fun H locs hP hD hS => ?_)
        exact ret_l (q := q) (g := fun q => q.1) (wp := fun q => [(a9 0, .inr (9, fl9 a9 (va_up i9 13 q.2.1) g9)), ((a9 9), .inl (cyI, 60, .inl c_firsts)), ((a9 11), .inl (cyI, 60, .inl q.2.2.1)), ((a9 5), .inl (cyI, 32, .inl c_holds)), ((a9 12), .inl (cyI, 2, .inl c_many)), ((a9 21), .inl (cyI, 30, .inl q.2.2.2.1)), ((a9 16), .inl (cyI, 6, .inl q.2.2.2.2.1)), ((a9 10), .inl (cyI, 60, .inl c_seconds)), ((a9 15), .inl (cyI, 6, .inl q.2.2.2.2.2.1)), ((a9 14), .inl (cyI, 6, .inl q.2.2.2.2.2.2))]) hQ hf hx hb hr hlocks hP hD hS dX9_odds_126 rfl
      · have hf := pif_f c61 hf
        refine lv_aload_n hx hb dX9_odds_64 rfl (lv_at hl 0 rfl) ?_
        refine lv_iload hx hb dX9_odds_65 (lv_at hl 5 rfl) ?_
        obtain ⟨q67, e67, hf⟩ := pb_some hf
        refine cc_v (wc := [(a9 0, .inr (9, fl9 a9 (va_up i9 13 v_open) g9)), ((a9 11), .inl (cyI, 60, .inl c_goes)), ((a9 21), .inl (cyI, 30, .inl c_opens))]) (wr := [((a9 9), .inl (cyI, 60, .inl c_firsts)), ((a9 5), .inl (cyI, 32, .inl c_holds)), ((a9 12), .inl (cyI, 2, .inl c_many)), ((a9 16), .inl (cyI, 6, .inl c_placeOf)), ((a9 10), .inl (cyI, 60, .inl c_seconds)), ((a9 15), .inl (cyI, 6, .inl c_sideAt)), ((a9 14), .inl (cyI, 6, .inl c_won))]) (w1 := [(a9 0, .inr (9, fl9 a9 (va_up i9 13 v_open) g9)), ((a9 11), .inl (cyI, 60, .inl q67)), ((a9 21), .inl (cyI, 30, .inl c_opens))]) (wn := [(a9 0, .inr (9, fl9 a9 (va_up i9 13 v_open) g9)), ((a9 9), .inl (cyI, 60, .inl c_firsts)), ((a9 11), .inl (cyI, 60, .inl q67)), ((a9 5), .inl (cyI, 32, .inl c_holds)), ((a9 12), .inl (cyI, 2, .inl c_many)), ((a9 21), .inl (cyI, 30, .inl c_opens)), ((a9 16), .inl (cyI, 6, .inl c_placeOf)), ((a9 10), .inl (cyI, 60, .inl c_seconds)), ((a9 15), .inl (cyI, 6, .inl c_sideAt)), ((a9 14), .inl (cyI, 6, .inl c_won))]) hP hD hS hA [0, 2, 5] [1, 3, 4, 6, 7, 8, 9] [7, 0, 8, 1, 2, 9, 3, 4, 5, 6] rfl rfl rfl (by decide) rfl rfl (va_runV (C := RX9) (As := [.int x6]) (rest := []) ⟨hx, hb, hml, hown, hL⟩ (mX9_setEnds l D cyI cyJ cyB cyS N H.size a9 (va_up i9 13 v_open) g9 c_goes c_opens x6 q67 e67) (cwV 1 hL (gV (hR26 9 rfl) (hR26 10 rfl) (hR26 11 rfl) (hR1 5 rfl) (hR26 12 rfl)) rfl rfl rfl (by decide +kernel) ⟨Nat.le_of_ble_eq_true rfl, Nat.le_of_ble_eq_true rfl⟩) (PP_preV (ci := 9) (q0 := 0) hP hD hK [0, 2, 5] rfl rfl rfl rfl) rfl rfl hl.1 rfl (lv_room (Nat.le_of_ble_eq_true rfl)) dX9_odds_67 ⟨Nat.le_of_ble_eq_true rfl, Nat.le_of_ble_eq_true rfl⟩) (fun H locs hP hD hS => ?_)
        refine lv_aload_n hx hb dX9_odds_70 rfl (lv_at hl 0 rfl) ?_
        refine lv_iconst (v := 0) hx hb dX9_odds_71 (by decide) ?_
        obtain ⟨q72, e72, hf⟩ := pb_some hf
        refine cc_v (wc := [(a9 0, .inr (9, fl9 a9 (va_up i9 13 v_open) g9)), ((a9 9), .inl (cyI, 60, .inl c_firsts)), ((a9 11), .inl (cyI, 60, .inl q67)), ((a9 5), .inl (cyI, 32, .inl c_holds)), ((a9 12), .inl (cyI, 2, .inl c_many)), ((a9 16), .inl (cyI, 6, .inl c_placeOf)), ((a9 10), .inl (cyI, 60, .inl c_seconds)), ((a9 15), .inl (cyI, 6, .inl c_sideAt)), ((a9 14), .inl (cyI, 6, .inl c_won))]) (wr := [((a9 21), .inl (cyI, 30, .inl c_opens))]) (w1 := [(a9 0, .inr (9, fl9 a9 (va_up i9 13 v_open) g9)), ((a9 9), .inl (cyI, 60, .inl c_firsts)), ((a9 11), .inl (cyI, 60, .inl q67)), ((a9 5), .inl (cyI, 32, .inl c_holds)), ((a9 12), .inl (cyI, 2, .inl c_many)), ((a9 16), .inl (cyI, 6, .inl q72.1)), ((a9 10), .inl (cyI, 60, .inl c_seconds)), ((a9 15), .inl (cyI, 6, .inl q72.2.1)), ((a9 14), .inl (cyI, 6, .inl q72.2.2))]) (wn := [(a9 0, .inr (9, fl9 a9 (va_up i9 13 v_open) g9)), ((a9 9), .inl (cyI, 60, .inl c_firsts)), ((a9 11), .inl (cyI, 60, .inl q67)), ((a9 5), .inl (cyI, 32, .inl c_holds)), ((a9 12), .inl (cyI, 2, .inl c_many)), ((a9 21), .inl (cyI, 30, .inl c_opens)), ((a9 16), .inl (cyI, 6, .inl q72.1)), ((a9 10), .inl (cyI, 60, .inl c_seconds)), ((a9 15), .inl (cyI, 6, .inl q72.2.1)), ((a9 14), .inl (cyI, 6, .inl q72.2.2))]) hP hD hS hA [0, 1, 2, 3, 4, 6, 7, 8, 9] [5] [1, 2, 3, 4, 5, 0, 6, 7, 8, 9] rfl rfl rfl (by decide) rfl rfl (va_runV (C := RX9) (As := [.int 0]) (rest := []) ⟨hx, hb, hml, hown, hL⟩ (mX9_layTable l D cyI cyJ cyB cyS N H.size a9 (va_up i9 13 v_open) g9 c_firsts q67 c_holds c_many c_placeOf c_seconds c_sideAt c_won 0 q72 e72) (cwV 1 hL (gV (hR23 17 rfl) (hR23 18 rfl) (hR23 19 rfl) (hR1 5 rfl) (hR23 20 rfl)) rfl rfl rfl (by decide +kernel) ⟨Nat.le_of_ble_eq_true rfl, Nat.le_of_ble_eq_true rfl⟩) (PP_preV (ci := 9) (q0 := 0) hP hD hK [0, 1, 2, 3, 4, 6, 7, 8, 9] rfl rfl rfl rfl) rfl rfl hl.1 rfl (lv_room (Nat.le_of_ble_eq_true rfl)) dX9_odds_72 ⟨Nat.le_of_ble_eq_true rfl, Nat.le_of_ble_eq_true rfl⟩) (fun H locs hP hD hS => ?_)
        refine lv_lload hx hb dX9_odds_75 (lv_at hl 4 rfl) ?_
        refine lv_aload_n hx hb dX9_odds_77 rfl (lv_at hl 0 rfl) ?_
        refine va_get (D := D) (ci := 9) (v := .ref (a9 16)) (C := RX9) (T := TX9) (N := 52) hx hb hL inlX9 hown hK.1 hP 0 rfl rfl 28 (by decide) w3 (fun _ h9 => h9) rfl dX9_odds_78 ?_
        refine lv_iload_n hx hb dX9_odds_81 rfl (lv_at hl 1 rfl) ?_
        obtain ⟨h82, hf⟩ := pg_some hf
        refine va_iald hx hb hK.1 hP 6 0 rfl rfl h82 dX9_odds_82 ?_
        refine lv_iload_n hx hb dX9_odds_83 rfl (lv_at hl 2 rfl) ?_
        refine lv_icmp_ne (tgt := 98) hx hb dX9_odds_84 (by decide) (fun c84 => ?_) (fun c84 => ?_)
        · have hf := pif_f c84 hf
          refine lv_lconst (v := 0) hx hb dX9_odds_98 (by decide) ?_
          exact hB99 (fX9_odds_53 N c_firsts c_holds c_many c_seconds x1 x2 x3 n) hk53 x6 x4 0 v_open q67 c_opens q72.1 q72.2.1 q72.2.2 H locs ls hf hP hD hS (lv_sub hl [0, 1, 2, 3, 5] rfl)
        · have hf := pif_t c84 hf
          refine lv_aload_n hx hb dX9_odds_87 rfl (lv_at hl 0 rfl) ?_
          refine lv_iload hx hb dX9_odds_88 (lv_at hl 5 rfl) ?_
          refine lv_bipush (v := (-4)) hx hb dX9_odds_90 (by decide) ?_
          obtain ⟨q92, e92, hf⟩ := pb_some hf
          refine cc_l (wc := [(a9 0, .inr (9, fl9 a9 (va_up i9 13 v_open) g9)), ((a9 9), .inl (cyI, 60, .inl c_firsts)), ((a9 5), .inl (cyI, 32, .inl c_holds)), ((a9 21), .inl (cyI, 30, .inl c_opens)), ((a9 10), .inl (cyI, 60, .inl c_seconds))]) (wr := [((a9 11), .inl (cyI, 60, .inl q67)), ((a9 12), .inl (cyI, 2, .inl c_many)), ((a9 16), .inl (cyI, 6, .inl q72.1)), ((a9 15), .inl (cyI, 6, .inl q72.2.1)), ((a9 14), .inl (cyI, 6, .inl q72.2.2))]) (w1 := [(a9 0, .inr (9, fl9 a9 (va_up i9 13 v_open) g9)), ((a9 9), .inl (cyI, 60, .inl c_firsts)), ((a9 5), .inl (cyI, 32, .inl c_holds)), ((a9 21), .inl (cyI, 30, .inl c_opens)), ((a9 10), .inl (cyI, 60, .inl c_seconds))]) (wn := [(a9 0, .inr (9, fl9 a9 (va_up i9 13 v_open) g9)), ((a9 9), .inl (cyI, 60, .inl c_firsts)), ((a9 11), .inl (cyI, 60, .inl q67)), ((a9 5), .inl (cyI, 32, .inl c_holds)), ((a9 12), .inl (cyI, 2, .inl c_many)), ((a9 21), .inl (cyI, 30, .inl c_opens)), ((a9 16), .inl (cyI, 6, .inl q72.1)), ((a9 10), .inl (cyI, 60, .inl c_seconds)), ((a9 15), .inl (cyI, 6, .inl q72.2.1)), ((a9 14), .inl (cyI, 6, .inl q72.2.2))]) hP hD hS hA [0, 1, 3, 5, 7] [2, 4, 6, 8, 9] [5, 6, 0, 7, 1, 8, 2, 9, 3, 4] rfl rfl rfl (by decide) rfl rfl (va_runV (C := RX9) (As := [.int x6, .int (-4)]) (rest := [.long x4]) ⟨hx, hb, hml, hown, hL⟩ (mX9_likely l D cyI cyJ cyB cyS N H.size a9 (va_up i9 13 v_open) g9 c_firsts c_holds c_opens c_seconds x6 (-4) q92 e92) (cwV 2 hL (gV (hR34 6 rfl) (hR34 7 rfl) (hR34 8 rfl) (hR1 5 rfl) (hR34 9 rfl)) rfl rfl rfl (by decide +kernel) ⟨Nat.le_of_ble_eq_true rfl, Nat.le_of_ble_eq_true rfl⟩) (PP_preV (ci := 9) (q0 := 0) hP hD hK [0, 1, 3, 5, 7] rfl rfl rfl rfl) rfl rfl hl.1 rfl (lv_room (Nat.le_of_ble_eq_true rfl)) dX9_odds_92 ⟨Nat.le_of_ble_eq_true rfl, Nat.le_of_ble_eq_true rfl⟩) (fun H locs hP hD hS => ?_)
          refine lv_goto (tgt := 99) hx hb dX9_odds_95 (by decide) ?_
          exact hB99 (fX9_odds_53 N c_firsts c_holds c_many c_seconds x1 x2 x3 n) hk53 x6 x4 q92 v_open q67 c_opens q72.1 q72.2.1 q72.2.2 H locs ls hf hP hD hS (lv_sub hl [0, 1, 2, 3, 5] rfl)
  unfold fX9_odds at hf
  obtain ⟨H, hH⟩ : ∃ H : Heap, H = s.heap := ⟨_, rfl⟩
  obtain ⟨locs, hlo⟩ : ∃ locs : List Loc, locs = [] := ⟨_, rfl⟩
  have hP : va_P D vwCl [(a9 0, .inr (9, fl9 a9 i9 g9)), ((a9 9), .inl (cyI, 60, .inl c_firsts)), ((a9 11), .inl (cyI, 60, .inl c_goes)), ((a9 5), .inl (cyI, 32, .inl c_holds)), ((a9 12), .inl (cyI, 2, .inl c_many)), ((a9 21), .inl (cyI, 30, .inl c_opens)), ((a9 16), .inl (cyI, 6, .inl c_placeOf)), ((a9 10), .inl (cyI, 60, .inl c_seconds)), ((a9 15), .inl (cyI, 6, .inl c_sideAt)), ((a9 14), .inl (cyI, 6, .inl c_won))] H := by rw [hH]; exact hP
  have hS : va_S A s.heap H locs := by rw [hH, hlo]; exact hS
  suffices hw : W p l e rmX9_odds s m av below meth c H locs 0 0 Q (F0 m 0 ls []) by rw [hH, hlo] at hw; exact hw
  refine lv_aload_n hx hb dX9_odds_0 rfl (lv_at hl 0 rfl) ?_
  refine lv_iload_n hx hb dX9_odds_1 rfl (lv_at hl 1 rfl) ?_
  obtain ⟨q2, e2, hf⟩ := pb_some hf
  refine cc_i (wc := [(a9 0, .inr (9, fl9 a9 i9 g9)), ((a9 5), .inl (cyI, 32, .inl c_holds))]) (wr := [((a9 9), .inl (cyI, 60, .inl c_firsts)), ((a9 11), .inl (cyI, 60, .inl c_goes)), ((a9 12), .inl (cyI, 2, .inl c_many)), ((a9 21), .inl (cyI, 30, .inl c_opens)), ((a9 16), .inl (cyI, 6, .inl c_placeOf)), ((a9 10), .inl (cyI, 60, .inl c_seconds)), ((a9 15), .inl (cyI, 6, .inl c_sideAt)), ((a9 14), .inl (cyI, 6, .inl c_won))]) (w1 := [(a9 0, .inr (9, fl9 a9 i9 g9)), ((a9 5), .inl (cyI, 32, .inl c_holds))]) (wn := [(a9 0, .inr (9, fl9 a9 i9 g9)), ((a9 9), .inl (cyI, 60, .inl c_firsts)), ((a9 11), .inl (cyI, 60, .inl c_goes)), ((a9 5), .inl (cyI, 32, .inl c_holds)), ((a9 12), .inl (cyI, 2, .inl c_many)), ((a9 21), .inl (cyI, 30, .inl c_opens)), ((a9 16), .inl (cyI, 6, .inl c_placeOf)), ((a9 10), .inl (cyI, 60, .inl c_seconds)), ((a9 15), .inl (cyI, 6, .inl c_sideAt)), ((a9 14), .inl (cyI, 6, .inl c_won))]) hP hD hS hA [0, 3] [1, 2, 4, 5, 6, 7, 8, 9] [8, 0, 1, 9, 2, 3, 4, 5, 6, 7] rfl rfl rfl (by decide) rfl rfl (va_runV (C := RX9) (As := [.int x1]) (rest := []) ⟨hx, hb, hml, hown, hL⟩ (mX9_isSide l D cyI cyJ cyB cyS N H.size a9 i9 g9 c_holds x1 q2 e2) (cwV 1 hL (gV (hR19 11 rfl) (hR19 12 rfl) (hR19 13 rfl) (hR1 5 rfl) (hR19 14 rfl)) rfl rfl rfl (by decide +kernel) ⟨Nat.le_of_ble_eq_true rfl, Nat.le_of_ble_eq_true rfl⟩) (PP_preV (ci := 9) (q0 := 0) hP hD hK [0, 3] rfl rfl rfl rfl) rfl rfl hl.1 rfl (lv_room (Nat.le_of_ble_eq_true rfl)) dX9_odds_2 ⟨Nat.le_of_ble_eq_true rfl, Nat.le_of_ble_eq_true rfl⟩) (fun H locs hP hD hS => ?_)
  refine lv_if_eq (tgt := 26) hx hb dX9_odds_5 (by decide) (fun c5 => ?_) (fun c5 => ?_)
  · have hf := pif_t c5 hf
    exact hB26 (i9 13) c_goes c_opens c_placeOf c_sideAt c_won H locs ls hf hP hD hS (lv_sub hl [] rfl)
  · have hf := pif_f c5 hf
    refine lv_aload_n hx hb dX9_odds_8 rfl (lv_at hl 0 rfl) ?_
    refine lv_iload_n hx hb dX9_odds_9 rfl (lv_at hl 2 rfl) ?_
    obtain ⟨q10, e10, hf⟩ := pb_some hf
    refine cc_i (wc := [(a9 0, .inr (9, fl9 a9 i9 g9)), ((a9 5), .inl (cyI, 32, .inl c_holds))]) (wr := [((a9 9), .inl (cyI, 60, .inl c_firsts)), ((a9 11), .inl (cyI, 60, .inl c_goes)), ((a9 12), .inl (cyI, 2, .inl c_many)), ((a9 21), .inl (cyI, 30, .inl c_opens)), ((a9 16), .inl (cyI, 6, .inl c_placeOf)), ((a9 10), .inl (cyI, 60, .inl c_seconds)), ((a9 15), .inl (cyI, 6, .inl c_sideAt)), ((a9 14), .inl (cyI, 6, .inl c_won))]) (w1 := [(a9 0, .inr (9, fl9 a9 i9 g9)), ((a9 5), .inl (cyI, 32, .inl c_holds))]) (wn := [(a9 0, .inr (9, fl9 a9 i9 g9)), ((a9 9), .inl (cyI, 60, .inl c_firsts)), ((a9 11), .inl (cyI, 60, .inl c_goes)), ((a9 5), .inl (cyI, 32, .inl c_holds)), ((a9 12), .inl (cyI, 2, .inl c_many)), ((a9 21), .inl (cyI, 30, .inl c_opens)), ((a9 16), .inl (cyI, 6, .inl c_placeOf)), ((a9 10), .inl (cyI, 60, .inl c_seconds)), ((a9 15), .inl (cyI, 6, .inl c_sideAt)), ((a9 14), .inl (cyI, 6, .inl c_won))]) hP hD hS hA [0, 3] [1, 2, 4, 5, 6, 7, 8, 9] [8, 0, 1, 9, 2, 3, 4, 5, 6, 7] rfl rfl rfl (by decide) rfl rfl (va_runV (C := RX9) (As := [.int x2]) (rest := []) ⟨hx, hb, hml, hown, hL⟩ (mX9_isSide l D cyI cyJ cyB cyS N H.size a9 i9 g9 c_holds x2 q10 e10) (cwV 1 hL (gV (hR19 11 rfl) (hR19 12 rfl) (hR19 13 rfl) (hR1 5 rfl) (hR19 14 rfl)) rfl rfl rfl (by decide +kernel) ⟨Nat.le_of_ble_eq_true rfl, Nat.le_of_ble_eq_true rfl⟩) (PP_preV (ci := 9) (q0 := 0) hP hD hK [0, 3] rfl rfl rfl rfl) rfl rfl hl.1 rfl (lv_room (Nat.le_of_ble_eq_true rfl)) dX9_odds_10 ⟨Nat.le_of_ble_eq_true rfl, Nat.le_of_ble_eq_true rfl⟩) (fun H locs hP hD hS => ?_)
    refine lv_if_eq (tgt := 26) hx hb dX9_odds_13 (by decide) (fun c13 => ?_) (fun c13 => ?_)
    · have hf := pif_t c13 hf
      exact hB26 (i9 13) c_goes c_opens c_placeOf c_sideAt c_won H locs ls hf hP hD hS (lv_sub hl [] rfl)
    · have hf := pif_f c13 hf
      refine lv_iload_n hx hb dX9_odds_16 rfl (lv_at hl 3 rfl) ?_
      refine lv_i2l hx hb dX9_odds_17 rfl ?_
      refine lv_lconst (v := 0) hx hb dX9_odds_18 (by decide) ?_
      refine lv_lconst (v := 1) hx hb dX9_odds_19 (by decide) ?_
      obtain ⟨q20, e20, hf⟩ := pb_some hf
      refine cc_i (wc := []) (wr := [(a9 0, .inr (9, fl9 a9 i9 g9)), ((a9 9), .inl (cyI, 60, .inl c_firsts)), ((a9 11), .inl (cyI, 60, .inl c_goes)), ((a9 5), .inl (cyI, 32, .inl c_holds)), ((a9 12), .inl (cyI, 2, .inl c_many)), ((a9 21), .inl (cyI, 30, .inl c_opens)), ((a9 16), .inl (cyI, 6, .inl c_placeOf)), ((a9 10), .inl (cyI, 60, .inl c_seconds)), ((a9 15), .inl (cyI, 6, .inl c_sideAt)), ((a9 14), .inl (cyI, 6, .inl c_won))]) (w1 := []) (wn := [(a9 0, .inr (9, fl9 a9 i9 g9)), ((a9 9), .inl (cyI, 60, .inl c_firsts)), ((a9 11), .inl (cyI, 60, .inl c_goes)), ((a9 5), .inl (cyI, 32, .inl c_holds)), ((a9 12), .inl (cyI, 2, .inl c_many)), ((a9 21), .inl (cyI, 30, .inl c_opens)), ((a9 16), .inl (cyI, 6, .inl c_placeOf)), ((a9 10), .inl (cyI, 60, .inl c_seconds)), ((a9 15), .inl (cyI, 6, .inl c_sideAt)), ((a9 14), .inl (cyI, 6, .inl c_won))]) hP hD hS hA [] [0, 1, 2, 3, 4, 5, 6, 7, 8, 9] [0, 1, 2, 3, 4, 5, 6, 7, 8, 9] rfl rfl rfl (by decide) rfl rfl (va_runS (As := [.long ((x3 : Int32).toInt64), .long 0, .long 1]) (rest := []) ⟨hx, hb, hml, hown, hL⟩ (mX9_in l D cyI cyJ cyB cyS N H.size   ((x3 : Int32).toInt64) 0 1 q20 e20) (va_cwS 3 hL (gS (hR8 7 rfl) (hR8 8 rfl) (hR1 5 rfl) (hR8 9 rfl)) rfl rfl rfl (by decide +kernel) ⟨Nat.le_of_ble_eq_true rfl, Nat.le_of_ble_eq_true rfl⟩) (PP_preS hP hD hK [] rfl rfl) rfl rfl hl.1 rfl (lv_room (Nat.le_of_ble_eq_true rfl)) dX9_odds_20 ⟨Nat.le_of_ble_eq_true rfl, Nat.le_of_ble_eq_true rfl⟩) (fun H locs hP hD hS => ?_)
      refine lv_if_ne (tgt := 30) hx hb dX9_odds_23 (by decide) (fun c23 => ?_) (fun c23 => ?_)
      · have hf := pif_f c23 hf
        refine lv_aload_n hx hb dX9_odds_30 rfl (lv_at hl 0 rfl) ?_
        obtain ⟨q31, e31, hf⟩ := pb_some hf
        refine cc_i (wc := [(a9 0, .inr (9, fl9 a9 i9 g9)), ((a9 11), .inl (cyI, 60, .inl c_goes)), ((a9 12), .inl (cyI, 2, .inl c_many))]) (wr := [((a9 9), .inl (cyI, 60, .inl c_firsts)), ((a9 5), .inl (cyI, 32, .inl c_holds)), ((a9 21), .inl (cyI, 30, .inl c_opens)), ((a9 16), .inl (cyI, 6, .inl c_placeOf)), ((a9 10), .inl (cyI, 60, .inl c_seconds)), ((a9 15), .inl (cyI, 6, .inl c_sideAt)), ((a9 14), .inl (cyI, 6, .inl c_won))]) (w1 := [(a9 0, .inr (9, fl9 a9 i9 g9)), ((a9 11), .inl (cyI, 60, .inl c_goes)), ((a9 12), .inl (cyI, 2, .inl c_many))]) (wn := [(a9 0, .inr (9, fl9 a9 i9 g9)), ((a9 9), .inl (cyI, 60, .inl c_firsts)), ((a9 11), .inl (cyI, 60, .inl c_goes)), ((a9 5), .inl (cyI, 32, .inl c_holds)), ((a9 12), .inl (cyI, 2, .inl c_many)), ((a9 21), .inl (cyI, 30, .inl c_opens)), ((a9 16), .inl (cyI, 6, .inl c_placeOf)), ((a9 10), .inl (cyI, 60, .inl c_seconds)), ((a9 15), .inl (cyI, 6, .inl c_sideAt)), ((a9 14), .inl (cyI, 6, .inl c_won))]) hP hD hS hA [0, 2, 4] [1, 3, 5, 6, 7, 8, 9] [7, 0, 8, 1, 9, 2, 3, 4, 5, 6] rfl rfl rfl (by decide) rfl rfl (va_runV (C := RX9) (As := []) (rest := []) ⟨hx, hb, hml, hown, hL⟩ (mX9_openMany l D cyI cyJ cyB cyS N H.size a9 i9 g9 c_goes c_many  q31 e31) (cwV 0 hL (gV (hR26 1 rfl) (hR26 2 rfl) (hR26 3 rfl) (hR1 5 rfl) (hR26 4 rfl)) rfl rfl rfl (by decide +kernel) ⟨Nat.le_of_ble_eq_true rfl, Nat.le_of_ble_eq_true rfl⟩) (PP_preV (ci := 9) (q0 := 0) hP hD hK [0, 2, 4] rfl rfl rfl rfl) rfl rfl hl.1 rfl (lv_room (Nat.le_of_ble_eq_true rfl)) dX9_odds_31 ⟨Nat.le_of_ble_eq_true rfl, Nat.le_of_ble_eq_true rfl⟩) (fun H locs hP hD hS => ?_)
        refine lv_bipush (v := 7) hx hb dX9_odds_34 (by decide) ?_
        refine lv_icmp_le (tgt := 43) hx hb dX9_odds_36 (by decide) (fun c36 => ?_) (fun c36 => ?_)
        · have hf := pif_t c36 hf
          refine lv_aload_n hx hb dX9_odds_43 rfl (lv_at hl 0 rfl) ?_
          obtain ⟨q44, e44, hf⟩ := pb_some hf
          refine cc_v (wc := [(a9 0, .inr (9, fl9 a9 i9 g9)), ((a9 11), .inl (cyI, 60, .inl c_goes)), ((a9 12), .inl (cyI, 2, .inl c_many)), ((a9 21), .inl (cyI, 30, .inl c_opens))]) (wr := [((a9 9), .inl (cyI, 60, .inl c_firsts)), ((a9 5), .inl (cyI, 32, .inl c_holds)), ((a9 16), .inl (cyI, 6, .inl c_placeOf)), ((a9 10), .inl (cyI, 60, .inl c_seconds)), ((a9 15), .inl (cyI, 6, .inl c_sideAt)), ((a9 14), .inl (cyI, 6, .inl c_won))]) (w1 := [(a9 0, .inr (9, fl9 a9 (va_up i9 13 q44.1) g9)), ((a9 11), .inl (cyI, 60, .inl c_goes)), ((a9 12), .inl (cyI, 2, .inl c_many)), ((a9 21), .inl (cyI, 30, .inl q44.2))]) (wn := [(a9 0, .inr (9, fl9 a9 (va_up i9 13 q44.1) g9)), ((a9 9), .inl (cyI, 60, .inl c_firsts)), ((a9 11), .inl (cyI, 60, .inl c_goes)), ((a9 5), .inl (cyI, 32, .inl c_holds)), ((a9 12), .inl (cyI, 2, .inl c_many)), ((a9 21), .inl (cyI, 30, .inl q44.2)), ((a9 16), .inl (cyI, 6, .inl c_placeOf)), ((a9 10), .inl (cyI, 60, .inl c_seconds)), ((a9 15), .inl (cyI, 6, .inl c_sideAt)), ((a9 14), .inl (cyI, 6, .inl c_won))]) hP hD hS hA [0, 2, 4, 5] [1, 3, 6, 7, 8, 9] [6, 0, 7, 1, 8, 9, 2, 3, 4, 5] rfl rfl rfl (by decide) rfl rfl (va_runV (C := RX9) (As := []) (rest := []) ⟨hx, hb, hml, hown, hL⟩ (mX9_layOpens l D cyI cyJ cyB cyS N H.size a9 i9 g9 c_goes c_many c_opens  q44 e44) (cwV 0 hL (gV (hR26 5 rfl) (hR26 6 rfl) (hR26 7 rfl) (hR1 5 rfl) (hR26 8 rfl)) rfl rfl rfl (by decide +kernel) ⟨Nat.le_of_ble_eq_true rfl, Nat.le_of_ble_eq_true rfl⟩) (PP_preV (ci := 9) (q0 := 0) hP hD hK [0, 2, 4, 5] rfl rfl rfl rfl) rfl rfl hl.1 rfl (lv_room (Nat.le_of_ble_eq_true rfl)) dX9_odds_44 ⟨Nat.le_of_ble_eq_true rfl, Nat.le_of_ble_eq_true rfl⟩) (fun H locs hP hD hS => ?_)
          refine lv_lconst (v := 0) hx hb dX9_odds_47 (by decide) ?_
          refine lv_lstore (lv' := [(4, .long 0), (0, .ref (a9 0)), (1, .int x1), (2, .int x2), (3, .int x3)]) hx hb dX9_odds_48 hl (by decide) rfl (fun ls hl => ?_)
          refine lv_iconst (v := 0) hx hb dX9_odds_50 (by decide) ?_
          refine lv_istore (lv' := [(6, .int 0), (4, .long 0), (0, .ref (a9 0)), (1, .int x1), (2, .int x2), (3, .int x3)]) hx hb dX9_odds_51 hl (by decide) rfl (fun ls hl => ?_)
          exact hB53 N 0 0 q44.1 c_goes q44.2 c_placeOf c_sideAt c_won H locs ls hf hP hD hS (lv_sub hl [2, 3, 4, 5, 1, 0] rfl)
        · have hf := pif_f c36 hf
          refine lv_ldc2 (v := (-2)) hx hb hown w5 dX9_odds_39 ?_
          exact ret_l (q := q) (g := fun q => q.1) (wp := fun q => [(a9 0, .inr (9, fl9 a9 (va_up i9 13 q.2.1) g9)), ((a9 9), .inl (cyI, 60, .inl c_firsts)), ((a9 11), .inl (cyI, 60, .inl q.2.2.1)), ((a9 5), .inl (cyI, 32, .inl c_holds)), ((a9 12), .inl (cyI, 2, .inl c_many)), ((a9 21), .inl (cyI, 30, .inl q.2.2.2.1)), ((a9 16), .inl (cyI, 6, .inl q.2.2.2.2.1)), ((a9 10), .inl (cyI, 60, .inl c_seconds)), ((a9 15), .inl (cyI, 6, .inl q.2.2.2.2.2.1)), ((a9 14), .inl (cyI, 6, .inl q.2.2.2.2.2.2))]) hQ hf hx hb hr hlocks hP hD hS dX9_odds_42 rfl
      · have hf := pif_t c23 hf
        exact hB26 (i9 13) c_goes c_opens c_placeOf c_sideAt c_won H locs ls hf hP hD hS (lv_sub hl [] rfl)
abbrev rmX9_layLeaves : Room := { frames := 5, cells := 0, slots := 0, locals := 121 }
set_option maxHeartbeats 40000000 in
set_option maxRecDepth 100000 in
theorem mX9_layLeaves (l : Launch) (D : va_G) (cyI cyJ cyB cyS : ClassId) (N : Nat) (sz : Nat) (a9 : Nat → Nat) (i9 : Nat → Int32) (g9 : Nat → Int64) (c_chooser : Nat → Int32) (c_firsts : Nat → Int32) (c_goes : Nat → Int32) (c_holds : Nat → Int32) (c_later : Nat → Int32) (c_many : Nat → Int32) (c_opens : Nat → Int32) (c_outs : Nat → Int32) (c_payOf : Nat → Int32) (c_placeOf : Nat → Int32) (c_seconds : Nat → Int32) (c_sideAt : Nat → Int32) (c_tree : Nat → Int64) (c_won : Nat → Int32) (q : Int64 × Int32 × (Nat → Int32) × (Nat → Int32) × (Nat → Int32) × (Nat → Int32) × (Nat → Int32) × (Nat → Int32) × (Nat → Int32) × (Nat → Int32) × (Nat → Int64) × (Nat → Int32)) (hf : fX9_layLeaves N (g9 2) (i9 13) c_chooser c_firsts c_goes c_holds c_later c_many c_opens c_outs c_payOf c_placeOf c_seconds c_sideAt c_tree c_won = some q) : Met l yX9_layLeaves (wS yX9_layLeaves cX9_layLeaves 3 none) rmX9_layLeaves (va_Pc [.ref (a9 0)] (PP D cyI cyJ cyB cyS [(a9 0, .inr (9, fl9 a9 i9 g9)), ((a9 17), .inl (cyI, 6, .inl c_chooser)), ((a9 9), .inl (cyI, 60, .inl c_firsts)), ((a9 11), .inl (cyI, 60, .inl c_goes)), ((a9 5), .inl (cyI, 32, .inl c_holds)), ((a9 19), .inl (cyI, 6, .inl c_later)), ((a9 12), .inl (cyI, 2, .inl c_many)), ((a9 21), .inl (cyI, 30, .inl c_opens)), ((a9 18), .inl (cyI, 6, .inl c_outs)), ((a9 20), .inl (cyI, 6, .inl c_payOf)), ((a9 16), .inl (cyI, 6, .inl c_placeOf)), ((a9 10), .inl (cyI, 60, .inl c_seconds)), ((a9 15), .inl (cyI, 6, .inl c_sideAt)), ((a9 22), .inl (cyJ, 768, .inr (.inl c_tree))), ((a9 14), .inl (cyI, 6, .inl c_won))] sz)) (QV D [(a9 0, .inr (9, fl9 a9 (va_up i9 13 q.2.1) (va_up g9 2 q.1))), ((a9 17), .inl (cyI, 6, .inl q.2.2.1)), ((a9 9), .inl (cyI, 60, .inl c_firsts)), ((a9 11), .inl (cyI, 60, .inl q.2.2.2.1)), ((a9 5), .inl (cyI, 32, .inl c_holds)), ((a9 19), .inl (cyI, 6, .inl q.2.2.2.2.1)), ((a9 12), .inl (cyI, 2, .inl c_many)), ((a9 21), .inl (cyI, 30, .inl q.2.2.2.2.2.1)), ((a9 18), .inl (cyI, 6, .inl q.2.2.2.2.2.2.1)), ((a9 20), .inl (cyI, 6, .inl q.2.2.2.2.2.2.2.1)), ((a9 16), .inl (cyI, 6, .inl q.2.2.2.2.2.2.2.2.1)), ((a9 10), .inl (cyI, 60, .inl c_seconds)), ((a9 15), .inl (cyI, 6, .inl q.2.2.2.2.2.2.2.2.2.1)), ((a9 22), .inl (cyJ, 768, .inr (.inl q.2.2.2.2.2.2.2.2.2.2.1))), ((a9 14), .inl (cyI, 6, .inl q.2.2.2.2.2.2.2.2.2.2.2))] (va_A [(a9 0, .inr (9, fl9 a9 i9 g9)), ((a9 17), .inl (cyI, 6, .inl c_chooser)), ((a9 9), .inl (cyI, 60, .inl c_firsts)), ((a9 11), .inl (cyI, 60, .inl c_goes)), ((a9 5), .inl (cyI, 32, .inl c_holds)), ((a9 19), .inl (cyI, 6, .inl c_later)), ((a9 12), .inl (cyI, 2, .inl c_many)), ((a9 21), .inl (cyI, 30, .inl c_opens)), ((a9 18), .inl (cyI, 6, .inl c_outs)), ((a9 20), .inl (cyI, 6, .inl c_payOf)), ((a9 16), .inl (cyI, 6, .inl c_placeOf)), ((a9 10), .inl (cyI, 60, .inl c_seconds)), ((a9 15), .inl (cyI, 6, .inl c_sideAt)), ((a9 22), .inl (cyJ, 768, .inr (.inl c_tree))), ((a9 14), .inl (cyI, 6, .inl c_won))] sz)) 0 0 (va_A [(a9 0, .inr (9, fl9 a9 i9 g9)), ((a9 17), .inl (cyI, 6, .inl c_chooser)), ((a9 9), .inl (cyI, 60, .inl c_firsts)), ((a9 11), .inl (cyI, 60, .inl c_goes)), ((a9 5), .inl (cyI, 32, .inl c_holds)), ((a9 19), .inl (cyI, 6, .inl c_later)), ((a9 12), .inl (cyI, 2, .inl c_many)), ((a9 21), .inl (cyI, 30, .inl c_opens)), ((a9 18), .inl (cyI, 6, .inl c_outs)), ((a9 20), .inl (cyI, 6, .inl c_payOf)), ((a9 16), .inl (cyI, 6, .inl c_placeOf)), ((a9 10), .inl (cyI, 60, .inl c_seconds)), ((a9 15), .inl (cyI, 6, .inl c_sideAt)), ((a9 22), .inl (cyJ, 768, .inr (.inl c_tree))), ((a9 14), .inl (cyI, 6, .inl c_won))] sz) := by
  refine Met.ofW (cc := cX9_layLeaves) (maxL := 3) (ret := none) (by decide) rfl ?_
  intro p e s m args below meth c s₁ B hml hv
  obtain ⟨rfl, hsz, hP, hK, hD0⟩ := hv
  have hx := B.exec
  have hb := B.bytes
  have hr := B.returns
  have hts := atoms_spec (ws := (wS yX9_layLeaves cX9_layLeaves 3 none)) B.pre
  have hown : s.vm.findClass RX9 = some m.cls := findClass_of_methodNamed B.named
  have hlocks := B.notSynchronized
  subst hsz
  have hD := hD0.self (sz := s.heap.size)
  refine w_nameQ (fun Q hQ => ?_)
  have hl := lv_entry ([.ref (a9 0)] : List Value) (n := 3) (Nat.le_of_ble_eq_true rfl)
  rw [lg_entry_eq]
  generalize (lg_sl ([.ref (a9 0)] : List Value) ++ List.replicate (3 - (lg_sl ([.ref (a9 0)] : List Value)).length) Slot.unset).toArray = ls at hl ⊢
  have hl : lv_has ls 3 [(0, .ref (a9 0))] := hl
  generalize hAe : va_A [(a9 0, .inr (9, fl9 a9 i9 g9)), ((a9 17), .inl (cyI, 6, .inl c_chooser)), ((a9 9), .inl (cyI, 60, .inl c_firsts)), ((a9 11), .inl (cyI, 60, .inl c_goes)), ((a9 5), .inl (cyI, 32, .inl c_holds)), ((a9 19), .inl (cyI, 6, .inl c_later)), ((a9 12), .inl (cyI, 2, .inl c_many)), ((a9 21), .inl (cyI, 30, .inl c_opens)), ((a9 18), .inl (cyI, 6, .inl c_outs)), ((a9 20), .inl (cyI, 6, .inl c_payOf)), ((a9 16), .inl (cyI, 6, .inl c_placeOf)), ((a9 10), .inl (cyI, 60, .inl c_seconds)), ((a9 15), .inl (cyI, 6, .inl c_sideAt)), ((a9 22), .inl (cyJ, 768, .inr (.inl c_tree))), ((a9 14), .inl (cyI, 6, .inl c_won))] s.heap.size = A at hD hQ
  have hA : ∀ q : Nat, s.heap.size ≤ q → A q := fun q h => by rw [← hAe]; exact Or.inr h
  have hS : va_S A s.heap s.heap [] := va_S.rf
  generalize ([.ref (a9 0)] : List Value).toArray = av at hts hQ ⊢
  have hL : ∀ w ∈ wsL_law, w.before av s = true := fun w h => hts w (List.mem_cons_of_mem _ h)
  have w0 := hL (.fieldLink RX9 73 "LosingLeagueModel" "tree" "[J") (hR7 1 rfl)
  have w1 := hL (.fieldLink RX9 67 "LosingLeagueModel" "payOf" "[I") (hR6 23 rfl)
  have w2 := hL (.fieldLink RX9 241 "LosingLeagueModel" "open" "I") (hR26 0 rfl)
  have w3 := hL (.fieldLink RX9 283 "LosingLeagueModel" "leaves" "J") (hR39 9 rfl)
  have hB71 : ∀ (k15 : Int32 → Int64 → Int32 → (Nat → Int32) → (Nat → Int32) → (Nat → Int32) → (Nat → Int32) → (Nat → Int32) → (Nat → Int32) → (Nat → Int32) → (Nat → Int32) → (Nat → Int64) → (Nat → Int32) → Option (Int64 × Int32 × (Nat → Int32) × (Nat → Int32) × (Nat → Int32) × (Nat → Int32) × (Nat → Int32) × (Nat → Int32) × (Nat → Int32) × (Nat → Int32) × (Nat → Int64) × (Nat → Int32))) (hk15 : ∀ (x1 : Int32) (v_leaves : Int64) (v_open : Int32) (c_chooser : Nat → Int32) (c_goes : Nat → Int32) (c_later : Nat → Int32) (c_opens : Nat → Int32) (c_outs : Nat → Int32) (c_payOf : Nat → Int32) (c_placeOf : Nat → Int32) (c_sideAt : Nat → Int32) (c_tree : Nat → Int64) (c_won : Nat → Int32) (H : Heap) (locs : List Loc) (ls : Array Slot), k15 x1 v_leaves v_open c_chooser c_goes c_later c_opens c_outs c_payOf c_placeOf c_sideAt c_tree c_won = some q → va_P D vwCl [(a9 0, .inr (9, fl9 a9 (va_up i9 13 v_open) (va_up g9 2 v_leaves))), ((a9 17), .inl (cyI, 6, .inl c_chooser)), ((a9 9), .inl (cyI, 60, .inl c_firsts)), ((a9 11), .inl (cyI, 60, .inl c_goes)), ((a9 5), .inl (cyI, 32, .inl c_holds)), ((a9 19), .inl (cyI, 6, .inl c_later)), ((a9 12), .inl (cyI, 2, .inl c_many)), ((a9 21), .inl (cyI, 30, .inl c_opens)), ((a9 18), .inl (cyI, 6, .inl c_outs)), ((a9 20), .inl (cyI, 6, .inl c_payOf)), ((a9 16), .inl (cyI, 6, .inl c_placeOf)), ((a9 10), .inl (cyI, 60, .inl c_seconds)), ((a9 15), .inl (cyI, 6, .inl c_sideAt)), ((a9 22), .inl (cyJ, 768, .inr (.inl c_tree))), ((a9 14), .inl (cyI, 6, .inl c_won))] H → va_D A [(a9 0, .inr (9, fl9 a9 (va_up i9 13 v_open) (va_up g9 2 v_leaves))), ((a9 17), .inl (cyI, 6, .inl c_chooser)), ((a9 9), .inl (cyI, 60, .inl c_firsts)), ((a9 11), .inl (cyI, 60, .inl c_goes)), ((a9 5), .inl (cyI, 32, .inl c_holds)), ((a9 19), .inl (cyI, 6, .inl c_later)), ((a9 12), .inl (cyI, 2, .inl c_many)), ((a9 21), .inl (cyI, 30, .inl c_opens)), ((a9 18), .inl (cyI, 6, .inl c_outs)), ((a9 20), .inl (cyI, 6, .inl c_payOf)), ((a9 16), .inl (cyI, 6, .inl c_placeOf)), ((a9 10), .inl (cyI, 60, .inl c_seconds)), ((a9 15), .inl (cyI, 6, .inl c_sideAt)), ((a9 22), .inl (cyJ, 768, .inr (.inl c_tree))), ((a9 14), .inl (cyI, 6, .inl c_won))] → va_S A s.heap H locs → lv_has ls 3 [(0, .ref (a9 0)), (1, .int x1)] → W p l e rmX9_layLeaves s m av below meth c H locs 0 0 Q (F0 m 15 ls [])) (k36 : Int32 → Int32 → Int64 → Int32 → (Nat → Int32) → (Nat → Int32) → (Nat → Int32) → (Nat → Int32) → (Nat → Int32) → (Nat → Int32) → (Nat → Int32) → (Nat → Int32) → (Nat → Int64) → (Nat → Int32) → Option (Int64 × Int32 × (Nat → Int32) × (Nat → Int32) × (Nat → Int32) × (Nat → Int32) × (Nat → Int32) × (Nat → Int32) × (Nat → Int32) × (Nat → Int32) × (Nat → Int64) × (Nat → Int32))) (hk36 : ∀ (x1 : Int32) (x2 : Int32) (v_leaves : Int64) (v_open : Int32) (c_chooser : Nat → Int32) (c_goes : Nat → Int32) (c_later : Nat → Int32) (c_opens : Nat → Int32) (c_outs : Nat → Int32) (c_payOf : Nat → Int32) (c_placeOf : Nat → Int32) (c_sideAt : Nat → Int32) (c_tree : Nat → Int64) (c_won : Nat → Int32) (H : Heap) (locs : List Loc) (ls : Array Slot), k36 x1 x2 v_leaves v_open c_chooser c_goes c_later c_opens c_outs c_payOf c_placeOf c_sideAt c_tree c_won = some q → va_P D vwCl [(a9 0, .inr (9, fl9 a9 (va_up i9 13 v_open) (va_up g9 2 v_leaves))), ((a9 17), .inl (cyI, 6, .inl c_chooser)), ((a9 9), .inl (cyI, 60, .inl c_firsts)), ((a9 11), .inl (cyI, 60, .inl c_goes)), ((a9 5), .inl (cyI, 32, .inl c_holds)), ((a9 19), .inl (cyI, 6, .inl c_later)), ((a9 12), .inl (cyI, 2, .inl c_many)), ((a9 21), .inl (cyI, 30, .inl c_opens)), ((a9 18), .inl (cyI, 6, .inl c_outs)), ((a9 20), .inl (cyI, 6, .inl c_payOf)), ((a9 16), .inl (cyI, 6, .inl c_placeOf)), ((a9 10), .inl (cyI, 60, .inl c_seconds)), ((a9 15), .inl (cyI, 6, .inl c_sideAt)), ((a9 22), .inl (cyJ, 768, .inr (.inl c_tree))), ((a9 14), .inl (cyI, 6, .inl c_won))] H → va_D A [(a9 0, .inr (9, fl9 a9 (va_up i9 13 v_open) (va_up g9 2 v_leaves))), ((a9 17), .inl (cyI, 6, .inl c_chooser)), ((a9 9), .inl (cyI, 60, .inl c_firsts)), ((a9 11), .inl (cyI, 60, .inl c_goes)), ((a9 5), .inl (cyI, 32, .inl c_holds)), ((a9 19), .inl (cyI, 6, .inl c_later)), ((a9 12), .inl (cyI, 2, .inl c_many)), ((a9 21), .inl (cyI, 30, .inl c_opens)), ((a9 18), .inl (cyI, 6, .inl c_outs)), ((a9 20), .inl (cyI, 6, .inl c_payOf)), ((a9 16), .inl (cyI, 6, .inl c_placeOf)), ((a9 10), .inl (cyI, 60, .inl c_seconds)), ((a9 15), .inl (cyI, 6, .inl c_sideAt)), ((a9 22), .inl (cyJ, 768, .inr (.inl c_tree))), ((a9 14), .inl (cyI, 6, .inl c_won))] → va_S A s.heap H locs → lv_has ls 3 [(0, .ref (a9 0)), (1, .int x1), (2, .int x2)] → W p l e rmX9_layLeaves s m av below meth c H locs 0 0 Q (F0 m 36 ls [])), ∀ (x1 : Int32) (x2 : Int32) (s1 : Int32) (s2 : Int64) (v_leaves : Int64) (v_open : Int32) (c_chooser : Nat → Int32) (c_goes : Nat → Int32) (c_later : Nat → Int32) (c_opens : Nat → Int32) (c_outs : Nat → Int32) (c_payOf : Nat → Int32) (c_placeOf : Nat → Int32) (c_sideAt : Nat → Int32) (c_tree : Nat → Int64) (c_won : Nat → Int32) (H : Heap) (locs : List Loc) (ls : Array Slot), fX9_layLeaves_71 N c_firsts c_holds c_many c_seconds k15 k36 x1 x2 s1 s2 v_leaves v_open c_chooser c_goes c_later c_opens c_outs c_payOf c_placeOf c_sideAt c_tree c_won = some q → va_P D vwCl [(a9 0, .inr (9, fl9 a9 (va_up i9 13 v_open) (va_up g9 2 v_leaves))), ((a9 17), .inl (cyI, 6, .inl c_chooser)), ((a9 9), .inl (cyI, 60, .inl c_firsts)), ((a9 11), .inl (cyI, 60, .inl c_goes)), ((a9 5), .inl (cyI, 32, .inl c_holds)), ((a9 19), .inl (cyI, 6, .inl c_later)), ((a9 12), .inl (cyI, 2, .inl c_many)), ((a9 21), .inl (cyI, 30, .inl c_opens)), ((a9 18), .inl (cyI, 6, .inl c_outs)), ((a9 20), .inl (cyI, 6, .inl c_payOf)), ((a9 16), .inl (cyI, 6, .inl c_placeOf)), ((a9 10), .inl (cyI, 60, .inl c_seconds)), ((a9 15), .inl (cyI, 6, .inl c_sideAt)), ((a9 22), .inl (cyJ, 768, .inr (.inl c_tree))), ((a9 14), .inl (cyI, 6, .inl c_won))] H → va_D A [(a9 0, .inr (9, fl9 a9 (va_up i9 13 v_open) (va_up g9 2 v_leaves))), ((a9 17), .inl (cyI, 6, .inl c_chooser)), ((a9 9), .inl (cyI, 60, .inl c_firsts)), ((a9 11), .inl (cyI, 60, .inl c_goes)), ((a9 5), .inl (cyI, 32, .inl c_holds)), ((a9 19), .inl (cyI, 6, .inl c_later)), ((a9 12), .inl (cyI, 2, .inl c_many)), ((a9 21), .inl (cyI, 30, .inl c_opens)), ((a9 18), .inl (cyI, 6, .inl c_outs)), ((a9 20), .inl (cyI, 6, .inl c_payOf)), ((a9 16), .inl (cyI, 6, .inl c_placeOf)), ((a9 10), .inl (cyI, 60, .inl c_seconds)), ((a9 15), .inl (cyI, 6, .inl c_sideAt)), ((a9 22), .inl (cyJ, 768, .inr (.inl c_tree))), ((a9 14), .inl (cyI, 6, .inl c_won))] → va_S A s.heap H locs → lv_has ls 3 [(0, .ref (a9 0)), (1, .int x1), (2, .int x2)] → W p l e rmX9_layLeaves s m av below meth c H locs 0 0 Q (F0 m 71 ls [.long s2, .int s1, .ref (a9 22)]) := by
    intro k15 hk15 k36 hk36 x1 x2 s1 s2 v_leaves v_open c_chooser c_goes c_later c_opens c_outs c_payOf c_placeOf c_sideAt c_tree c_won H locs ls hf hP hD hS hl
    unfold fX9_layLeaves_71 at hf
    obtain ⟨h71, hf⟩ := pg_some hf
    refine va_last hx hb hK.1 hP hD hS 13 1 rfl rfl h71 dX9_layLeaves_71 (fun H locs hP hD hS => ?_)
    have hP : va_P D vwCl [(a9 0, .inr (9, fl9 a9 (va_up i9 13 v_open) (va_up g9 2 v_leaves))), ((a9 17), .inl (cyI, 6, .inl c_chooser)), ((a9 9), .inl (cyI, 60, .inl c_firsts)), ((a9 11), .inl (cyI, 60, .inl c_goes)), ((a9 5), .inl (cyI, 32, .inl c_holds)), ((a9 19), .inl (cyI, 6, .inl c_later)), ((a9 12), .inl (cyI, 2, .inl c_many)), ((a9 21), .inl (cyI, 30, .inl c_opens)), ((a9 18), .inl (cyI, 6, .inl c_outs)), ((a9 20), .inl (cyI, 6, .inl c_payOf)), ((a9 16), .inl (cyI, 6, .inl c_placeOf)), ((a9 10), .inl (cyI, 60, .inl c_seconds)), ((a9 15), .inl (cyI, 6, .inl c_sideAt)), ((a9 22), .inl (cyJ, 768, .inr (.inl (vp_updL c_tree s1.toNatClampNeg s2)))), ((a9 14), .inl (cyI, 6, .inl c_won))] H := hP
    have hD : va_D A [(a9 0, .inr (9, fl9 a9 (va_up i9 13 v_open) (va_up g9 2 v_leaves))), ((a9 17), .inl (cyI, 6, .inl c_chooser)), ((a9 9), .inl (cyI, 60, .inl c_firsts)), ((a9 11), .inl (cyI, 60, .inl c_goes)), ((a9 5), .inl (cyI, 32, .inl c_holds)), ((a9 19), .inl (cyI, 6, .inl c_later)), ((a9 12), .inl (cyI, 2, .inl c_many)), ((a9 21), .inl (cyI, 30, .inl c_opens)), ((a9 18), .inl (cyI, 6, .inl c_outs)), ((a9 20), .inl (cyI, 6, .inl c_payOf)), ((a9 16), .inl (cyI, 6, .inl c_placeOf)), ((a9 10), .inl (cyI, 60, .inl c_seconds)), ((a9 15), .inl (cyI, 6, .inl c_sideAt)), ((a9 22), .inl (cyJ, 768, .inr (.inl (vp_updL c_tree s1.toNatClampNeg s2)))), ((a9 14), .inl (cyI, 6, .inl c_won))] := hD
    refine lv_iinc (v := x2 + 1) (lv' := [(2, .int (x2 + 1)), (0, .ref (a9 0)), (1, .int x1)]) hx hb dX9_layLeaves_72 hl (k := 2) rfl rfl (by decide) rfl (fun ls hl => ?_)
    refine lv_goto (tgt := 36) hx hb dX9_layLeaves_75 (by decide) ?_
    exact hk36 x1 (x2 + 1) v_leaves v_open c_chooser c_goes c_later c_opens c_outs c_payOf c_placeOf c_sideAt (vp_updL c_tree s1.toNatClampNeg s2) c_won H locs ls hf hP hD hS (lv_sub hl [1, 2, 0] rfl)
  have hB36 : ∀ (k15 : Int32 → Int64 → Int32 → (Nat → Int32) → (Nat → Int32) → (Nat → Int32) → (Nat → Int32) → (Nat → Int32) → (Nat → Int32) → (Nat → Int32) → (Nat → Int32) → (Nat → Int64) → (Nat → Int32) → Option (Int64 × Int32 × (Nat → Int32) × (Nat → Int32) × (Nat → Int32) × (Nat → Int32) × (Nat → Int32) × (Nat → Int32) × (Nat → Int32) × (Nat → Int32) × (Nat → Int64) × (Nat → Int32))) (hk15 : ∀ (x1 : Int32) (v_leaves : Int64) (v_open : Int32) (c_chooser : Nat → Int32) (c_goes : Nat → Int32) (c_later : Nat → Int32) (c_opens : Nat → Int32) (c_outs : Nat → Int32) (c_payOf : Nat → Int32) (c_placeOf : Nat → Int32) (c_sideAt : Nat → Int32) (c_tree : Nat → Int64) (c_won : Nat → Int32) (H : Heap) (locs : List Loc) (ls : Array Slot), k15 x1 v_leaves v_open c_chooser c_goes c_later c_opens c_outs c_payOf c_placeOf c_sideAt c_tree c_won = some q → va_P D vwCl [(a9 0, .inr (9, fl9 a9 (va_up i9 13 v_open) (va_up g9 2 v_leaves))), ((a9 17), .inl (cyI, 6, .inl c_chooser)), ((a9 9), .inl (cyI, 60, .inl c_firsts)), ((a9 11), .inl (cyI, 60, .inl c_goes)), ((a9 5), .inl (cyI, 32, .inl c_holds)), ((a9 19), .inl (cyI, 6, .inl c_later)), ((a9 12), .inl (cyI, 2, .inl c_many)), ((a9 21), .inl (cyI, 30, .inl c_opens)), ((a9 18), .inl (cyI, 6, .inl c_outs)), ((a9 20), .inl (cyI, 6, .inl c_payOf)), ((a9 16), .inl (cyI, 6, .inl c_placeOf)), ((a9 10), .inl (cyI, 60, .inl c_seconds)), ((a9 15), .inl (cyI, 6, .inl c_sideAt)), ((a9 22), .inl (cyJ, 768, .inr (.inl c_tree))), ((a9 14), .inl (cyI, 6, .inl c_won))] H → va_D A [(a9 0, .inr (9, fl9 a9 (va_up i9 13 v_open) (va_up g9 2 v_leaves))), ((a9 17), .inl (cyI, 6, .inl c_chooser)), ((a9 9), .inl (cyI, 60, .inl c_firsts)), ((a9 11), .inl (cyI, 60, .inl c_goes)), ((a9 5), .inl (cyI, 32, .inl c_holds)), ((a9 19), .inl (cyI, 6, .inl c_later)), ((a9 12), .inl (cyI, 2, .inl c_many)), ((a9 21), .inl (cyI, 30, .inl c_opens)), ((a9 18), .inl (cyI, 6, .inl c_outs)), ((a9 20), .inl (cyI, 6, .inl c_payOf)), ((a9 16), .inl (cyI, 6, .inl c_placeOf)), ((a9 10), .inl (cyI, 60, .inl c_seconds)), ((a9 15), .inl (cyI, 6, .inl c_sideAt)), ((a9 22), .inl (cyJ, 768, .inr (.inl c_tree))), ((a9 14), .inl (cyI, 6, .inl c_won))] → va_S A s.heap H locs → lv_has ls 3 [(0, .ref (a9 0)), (1, .int x1)] → W p l e rmX9_layLeaves s m av below meth c H locs 0 0 Q (F0 m 15 ls [])) (n : Nat), ∀ (x1 : Int32) (x2 : Int32) (v_leaves : Int64) (v_open : Int32) (c_chooser : Nat → Int32) (c_goes : Nat → Int32) (c_later : Nat → Int32) (c_opens : Nat → Int32) (c_outs : Nat → Int32) (c_payOf : Nat → Int32) (c_placeOf : Nat → Int32) (c_sideAt : Nat → Int32) (c_tree : Nat → Int64) (c_won : Nat → Int32) (H : Heap) (locs : List Loc) (ls : Array Slot), fX9_layLeaves_36 N c_firsts c_holds c_many c_seconds k15 n x1 x2 v_leaves v_open c_chooser c_goes c_later c_opens c_outs c_payOf c_placeOf c_sideAt c_tree c_won = some q → va_P D vwCl [(a9 0, .inr (9, fl9 a9 (va_up i9 13 v_open) (va_up g9 2 v_leaves))), ((a9 17), .inl (cyI, 6, .inl c_chooser)), ((a9 9), .inl (cyI, 60, .inl c_firsts)), ((a9 11), .inl (cyI, 60, .inl c_goes)), ((a9 5), .inl (cyI, 32, .inl c_holds)), ((a9 19), .inl (cyI, 6, .inl c_later)), ((a9 12), .inl (cyI, 2, .inl c_many)), ((a9 21), .inl (cyI, 30, .inl c_opens)), ((a9 18), .inl (cyI, 6, .inl c_outs)), ((a9 20), .inl (cyI, 6, .inl c_payOf)), ((a9 16), .inl (cyI, 6, .inl c_placeOf)), ((a9 10), .inl (cyI, 60, .inl c_seconds)), ((a9 15), .inl (cyI, 6, .inl c_sideAt)), ((a9 22), .inl (cyJ, 768, .inr (.inl c_tree))), ((a9 14), .inl (cyI, 6, .inl c_won))] H → va_D A [(a9 0, .inr (9, fl9 a9 (va_up i9 13 v_open) (va_up g9 2 v_leaves))), ((a9 17), .inl (cyI, 6, .inl c_chooser)), ((a9 9), .inl (cyI, 60, .inl c_firsts)), ((a9 11), .inl (cyI, 60, .inl c_goes)), ((a9 5), .inl (cyI, 32, .inl c_holds)), ((a9 19), .inl (cyI, 6, .inl c_later)), ((a9 12), .inl (cyI, 2, .inl c_many)), ((a9 21), .inl (cyI, 30, .inl c_opens)), ((a9 18), .inl (cyI, 6, .inl c_outs)), ((a9 20), .inl (cyI, 6, .inl c_payOf)), ((a9 16), .inl (cyI, 6, .inl c_placeOf)), ((a9 10), .inl (cyI, 60, .inl c_seconds)), ((a9 15), .inl (cyI, 6, .inl c_sideAt)), ((a9 22), .inl (cyJ, 768, .inr (.inl c_tree))), ((a9 14), .inl (cyI, 6, .inl c_won))] → va_S A s.heap H locs → lv_has ls 3 [(0, .ref (a9 0)), (1, .int x1), (2, .int x2)] → W p l e rmX9_layLeaves s m av below meth c H locs 0 0 Q (F0 m 36 ls []) := by
    intro k15 hk15 n
    induction n with
    | zero => intro x1 x2 v_leaves v_open c_chooser c_goes c_later c_opens c_outs c_payOf c_placeOf c_sideAt c_tree c_won H locs ls hf; exact absurd hf (by simp [fX9_layLeaves_36])
    | succ n hk36 =>
      intro x1 x2 v_leaves v_open c_chooser c_goes c_later c_opens c_outs c_payOf c_placeOf c_sideAt c_tree c_won H locs ls hf hP hD hS hl
      rw [fX9_layLeaves_36] at hf
      refine lv_iload_n hx hb dX9_layLeaves_36 rfl (lv_at hl 2 rfl) ?_
      refine lv_bipush (v := 6) hx hb dX9_layLeaves_37 (by decide) ?_
      refine lv_icmp_ge (tgt := 78) hx hb dX9_layLeaves_39 (by decide) (fun c39 => ?_) (fun c39 => ?_)
      · have hf := pif_t c39 hf
        refine lv_iinc (v := x1 + 1) (lv' := [(1, .int (x1 + 1)), (0, .ref (a9 0)), (2, .int x2)]) hx hb dX9_layLeaves_78 hl (k := 1) rfl rfl (by decide) rfl (fun ls hl => ?_)
        refine lv_goto (tgt := 15) hx hb dX9_layLeaves_81 (by decide) ?_
        exact hk15 (x1 + 1) v_leaves v_open c_chooser c_goes c_later c_opens c_outs c_payOf c_placeOf c_sideAt c_tree c_won H locs ls hf hP hD hS (lv_sub hl [1, 0] rfl)
      · have hf := pif_f c39 hf
        refine lv_aload_n hx hb dX9_layLeaves_42 rfl (lv_at hl 0 rfl) ?_
        refine va_get (D := D) (ci := 9) (v := .ref (a9 22)) (C := RX9) (T := TX9) (N := 52) hx hb hL inlX9 hown hK.1 hP 0 rfl rfl 37 (by decide) w0 (fun _ h9 => h9) rfl dX9_layLeaves_43 ?_
        refine lv_bipush (v := 6) hx hb dX9_layLeaves_46 (by decide) ?_
        refine lv_iload_n hx hb dX9_layLeaves_48 rfl (lv_at hl 1 rfl) ?_
        refine lv_imul hx hb dX9_layLeaves_49 ?_
        refine lv_iload_n hx hb dX9_layLeaves_50 rfl (lv_at hl 2 rfl) ?_
        refine lv_iadd hx hb dX9_layLeaves_51 ?_
        refine lv_iload_n hx hb dX9_layLeaves_52 rfl (lv_at hl 2 rfl) ?_
        refine lv_aload_n hx hb dX9_layLeaves_53 rfl (lv_at hl 0 rfl) ?_
        obtain ⟨q54, e54, hf⟩ := pb_some hf
        refine cc_i (wc := [(a9 0, .inr (9, fl9 a9 (va_up i9 13 v_open) (va_up g9 2 v_leaves))), ((a9 5), .inl (cyI, 32, .inl c_holds))]) (wr := [((a9 17), .inl (cyI, 6, .inl c_chooser)), ((a9 9), .inl (cyI, 60, .inl c_firsts)), ((a9 11), .inl (cyI, 60, .inl c_goes)), ((a9 19), .inl (cyI, 6, .inl c_later)), ((a9 12), .inl (cyI, 2, .inl c_many)), ((a9 21), .inl (cyI, 30, .inl c_opens)), ((a9 18), .inl (cyI, 6, .inl c_outs)), ((a9 20), .inl (cyI, 6, .inl c_payOf)), ((a9 16), .inl (cyI, 6, .inl c_placeOf)), ((a9 10), .inl (cyI, 60, .inl c_seconds)), ((a9 15), .inl (cyI, 6, .inl c_sideAt)), ((a9 22), .inl (cyJ, 768, .inr (.inl c_tree))), ((a9 14), .inl (cyI, 6, .inl c_won))]) (w1 := [(a9 0, .inr (9, fl9 a9 (va_up i9 13 v_open) (va_up g9 2 v_leaves))), ((a9 5), .inl (cyI, 32, .inl c_holds))]) (wn := [(a9 0, .inr (9, fl9 a9 (va_up i9 13 v_open) (va_up g9 2 v_leaves))), ((a9 17), .inl (cyI, 6, .inl c_chooser)), ((a9 9), .inl (cyI, 60, .inl c_firsts)), ((a9 11), .inl (cyI, 60, .inl c_goes)), ((a9 5), .inl (cyI, 32, .inl c_holds)), ((a9 19), .inl (cyI, 6, .inl c_later)), ((a9 12), .inl (cyI, 2, .inl c_many)), ((a9 21), .inl (cyI, 30, .inl c_opens)), ((a9 18), .inl (cyI, 6, .inl c_outs)), ((a9 20), .inl (cyI, 6, .inl c_payOf)), ((a9 16), .inl (cyI, 6, .inl c_placeOf)), ((a9 10), .inl (cyI, 60, .inl c_seconds)), ((a9 15), .inl (cyI, 6, .inl c_sideAt)), ((a9 22), .inl (cyJ, 768, .inr (.inl c_tree))), ((a9 14), .inl (cyI, 6, .inl c_won))]) hP hD hS hA [0, 4] [1, 2, 3, 5, 6, 7, 8, 9, 10, 11, 12, 13, 14] [13, 0, 1, 2, 14, 3, 4, 5, 6, 7, 8, 9, 10, 11, 12] rfl rfl rfl (by decide) rfl rfl (va_runV (C := RX9) (As := []) (rest := [.int x2, .int ((6 * x1) + x2), .ref (a9 22)]) ⟨hx, hb, hml, hown, hL⟩ (mX9_sides l D cyI cyJ cyB cyS N H.size a9 (va_up i9 13 v_open) (va_up g9 2 v_leaves) c_holds  q54 e54) (cwV 0 hL (gV (hR19 15 rfl) (hR19 16 rfl) (hR19 17 rfl) (hR1 5 rfl) (hR19 18 rfl)) rfl rfl rfl (by decide +kernel) ⟨Nat.le_of_ble_eq_true rfl, Nat.le_of_ble_eq_true rfl⟩) (PP_preV (ci := 9) (q0 := 0) hP hD hK [0, 4] rfl rfl rfl rfl) rfl rfl hl.1 rfl (lv_room (Nat.le_of_ble_eq_true rfl)) dX9_layLeaves_54 ⟨Nat.le_of_ble_eq_true rfl, Nat.le_of_ble_eq_true rfl⟩) (fun H locs hP hD hS => ?_)
        refine lv_icmp_ge (tgt := 70) hx hb dX9_layLeaves_57 (by decide) (fun c57 => ?_) (fun c57 => ?_)
        · have hf := pif_t c57 hf
          refine lv_lconst (v := 0) hx hb dX9_layLeaves_70 (by decide) ?_
          exact hB71 k15 hk15 (fX9_layLeaves_36 N c_firsts c_holds c_many c_seconds k15 n) hk36 x1 x2 ((6 * x1) + x2) 0 v_leaves v_open c_chooser c_goes c_later c_opens c_outs c_payOf c_placeOf c_sideAt c_tree c_won H locs ls hf hP hD hS (lv_sub hl [0, 1, 2] rfl)
        · have hf := pif_f c57 hf
          refine lv_aload_n hx hb dX9_layLeaves_60 rfl (lv_at hl 0 rfl) ?_
          refine va_get (D := D) (ci := 9) (v := .ref (a9 20)) (C := RX9) (T := TX9) (N := 52) hx hb hL inlX9 hown hK.1 hP 0 rfl rfl 32 (by decide) w1 (fun _ h9 => h9) rfl dX9_layLeaves_61 ?_
          refine lv_iload_n hx hb dX9_layLeaves_64 rfl (lv_at hl 2 rfl) ?_
          obtain ⟨h65, hf⟩ := pg_some hf
          refine va_iald hx hb hK.1 hP 9 0 rfl rfl h65 dX9_layLeaves_65 ?_
          refine lv_i2l hx hb dX9_layLeaves_66 rfl ?_
          refine lv_goto (tgt := 71) hx hb dX9_layLeaves_67 (by decide) ?_
          exact hB71 k15 hk15 (fX9_layLeaves_36 N c_firsts c_holds c_many c_seconds k15 n) hk36 x1 x2 ((6 * x1) + x2) ((c_payOf x2.toNatClampNeg : Int32).toInt64) v_leaves v_open c_chooser c_goes c_later c_opens c_outs c_payOf c_placeOf c_sideAt c_tree c_won H locs ls hf hP hD hS (lv_sub hl [0, 1, 2] rfl)
  have hB15 : ∀ (n : Nat), ∀ (x1 : Int32) (v_leaves : Int64) (v_open : Int32) (c_chooser : Nat → Int32) (c_goes : Nat → Int32) (c_later : Nat → Int32) (c_opens : Nat → Int32) (c_outs : Nat → Int32) (c_payOf : Nat → Int32) (c_placeOf : Nat → Int32) (c_sideAt : Nat → Int32) (c_tree : Nat → Int64) (c_won : Nat → Int32) (H : Heap) (locs : List Loc) (ls : Array Slot), fX9_layLeaves_15 N c_firsts c_holds c_many c_seconds n x1 v_leaves v_open c_chooser c_goes c_later c_opens c_outs c_payOf c_placeOf c_sideAt c_tree c_won = some q → va_P D vwCl [(a9 0, .inr (9, fl9 a9 (va_up i9 13 v_open) (va_up g9 2 v_leaves))), ((a9 17), .inl (cyI, 6, .inl c_chooser)), ((a9 9), .inl (cyI, 60, .inl c_firsts)), ((a9 11), .inl (cyI, 60, .inl c_goes)), ((a9 5), .inl (cyI, 32, .inl c_holds)), ((a9 19), .inl (cyI, 6, .inl c_later)), ((a9 12), .inl (cyI, 2, .inl c_many)), ((a9 21), .inl (cyI, 30, .inl c_opens)), ((a9 18), .inl (cyI, 6, .inl c_outs)), ((a9 20), .inl (cyI, 6, .inl c_payOf)), ((a9 16), .inl (cyI, 6, .inl c_placeOf)), ((a9 10), .inl (cyI, 60, .inl c_seconds)), ((a9 15), .inl (cyI, 6, .inl c_sideAt)), ((a9 22), .inl (cyJ, 768, .inr (.inl c_tree))), ((a9 14), .inl (cyI, 6, .inl c_won))] H → va_D A [(a9 0, .inr (9, fl9 a9 (va_up i9 13 v_open) (va_up g9 2 v_leaves))), ((a9 17), .inl (cyI, 6, .inl c_chooser)), ((a9 9), .inl (cyI, 60, .inl c_firsts)), ((a9 11), .inl (cyI, 60, .inl c_goes)), ((a9 5), .inl (cyI, 32, .inl c_holds)), ((a9 19), .inl (cyI, 6, .inl c_later)), ((a9 12), .inl (cyI, 2, .inl c_many)), ((a9 21), .inl (cyI, 30, .inl c_opens)), ((a9 18), .inl (cyI, 6, .inl c_outs)), ((a9 20), .inl (cyI, 6, .inl c_payOf)), ((a9 16), .inl (cyI, 6, .inl c_placeOf)), ((a9 10), .inl (cyI, 60, .inl c_seconds)), ((a9 15), .inl (cyI, 6, .inl c_sideAt)), ((a9 22), .inl (cyJ, 768, .inr (.inl c_tree))), ((a9 14), .inl (cyI, 6, .inl c_won))] → va_S A s.heap H locs → lv_has ls 3 [(0, .ref (a9 0)), (1, .int x1)] → W p l e rmX9_layLeaves s m av below meth c H locs 0 0 Q (F0 m 15 ls []) := by
    intro n
    induction n with
    | zero => intro x1 v_leaves v_open c_chooser c_goes c_later c_opens c_outs c_payOf c_placeOf c_sideAt c_tree c_won H locs ls hf; exact absurd hf (by simp [fX9_layLeaves_15])
    | succ n hk15 =>
      intro x1 v_leaves v_open c_chooser c_goes c_later c_opens c_outs c_payOf c_placeOf c_sideAt c_tree c_won H locs ls hf hP hD hS hl
      rw [fX9_layLeaves_15] at hf
      refine lv_iload_n hx hb dX9_layLeaves_15 rfl (lv_at hl 1 rfl) ?_
      refine lv_iconst (v := 1) hx hb dX9_layLeaves_16 (by decide) ?_
      refine lv_aload_n hx hb dX9_layLeaves_17 rfl (lv_at hl 0 rfl) ?_
      refine va_get (D := D) (ci := 9) (v := .int v_open) (C := RX9) (T := TX9) (N := 52) hx hb hL inlX9 hown hK.1 hP 0 rfl rfl 34 (by decide) w2 (fun _ h9 => h9) rfl dX9_layLeaves_18 ?_
      refine lv_ishl hx hb dX9_layLeaves_21 ?_
      refine lv_icmp_ge (tgt := 84) hx hb dX9_layLeaves_22 (by decide) (fun c22 => ?_) (fun c22 => ?_)
      · have hf := pif_t c22 hf
        refine lv_aload_n hx hb dX9_layLeaves_84 rfl (lv_at hl 0 rfl) ?_
        obtain ⟨q85, e85, hf⟩ := pb_some hf
        refine cc_v (wc := [(a9 0, .inr (9, fl9 a9 (va_up i9 13 v_open) (va_up g9 2 v_leaves))), ((a9 11), .inl (cyI, 60, .inl c_goes)), ((a9 21), .inl (cyI, 30, .inl c_opens))]) (wr := [((a9 17), .inl (cyI, 6, .inl c_chooser)), ((a9 9), .inl (cyI, 60, .inl c_firsts)), ((a9 5), .inl (cyI, 32, .inl c_holds)), ((a9 19), .inl (cyI, 6, .inl c_later)), ((a9 12), .inl (cyI, 2, .inl c_many)), ((a9 18), .inl (cyI, 6, .inl c_outs)), ((a9 20), .inl (cyI, 6, .inl c_payOf)), ((a9 16), .inl (cyI, 6, .inl c_placeOf)), ((a9 10), .inl (cyI, 60, .inl c_seconds)), ((a9 15), .inl (cyI, 6, .inl c_sideAt)), ((a9 22), .inl (cyJ, 768, .inr (.inl c_tree))), ((a9 14), .inl (cyI, 6, .inl c_won))]) (w1 := [(a9 0, .inr (9, fl9 a9 (va_up i9 13 v_open) (va_up g9 2 v_leaves))), ((a9 11), .inl (cyI, 60, .inl q85)), ((a9 21), .inl (cyI, 30, .inl c_opens))]) (wn := [(a9 0, .inr (9, fl9 a9 (va_up i9 13 v_open) (va_up g9 2 v_leaves))), ((a9 17), .inl (cyI, 6, .inl c_chooser)), ((a9 9), .inl (cyI, 60, .inl c_firsts)), ((a9 11), .inl (cyI, 60, .inl q85)), ((a9 5), .inl (cyI, 32, .inl c_holds)), ((a9 19), .inl (cyI, 6, .inl c_later)), ((a9 12), .inl (cyI, 2, .inl c_many)), ((a9 21), .inl (cyI, 30, .inl c_opens)), ((a9 18), .inl (cyI, 6, .inl c_outs)), ((a9 20), .inl (cyI, 6, .inl c_payOf)), ((a9 16), .inl (cyI, 6, .inl c_placeOf)), ((a9 10), .inl (cyI, 60, .inl c_seconds)), ((a9 15), .inl (cyI, 6, .inl c_sideAt)), ((a9 22), .inl (cyJ, 768, .inr (.inl c_tree))), ((a9 14), .inl (cyI, 6, .inl c_won))]) hP hD hS hA [0, 3, 7] [1, 2, 4, 5, 6, 8, 9, 10, 11, 12, 13, 14] [12, 0, 1, 13, 2, 3, 4, 14, 5, 6, 7, 8, 9, 10, 11] rfl rfl rfl (by decide) rfl rfl (va_runV (C := RX9) (As := []) (rest := []) ⟨hx, hb, hml, hown, hL⟩ (mX9_setOpen l D cyI cyJ cyB cyS N H.size a9 (va_up i9 13 v_open) (va_up g9 2 v_leaves) c_goes c_opens  q85 e85) (cwV 0 hL (gV (hR26 13 rfl) (hR26 14 rfl) (hR26 15 rfl) (hR1 5 rfl) (hR26 16 rfl)) rfl rfl rfl (by decide +kernel) ⟨Nat.le_of_ble_eq_true rfl, Nat.le_of_ble_eq_true rfl⟩) (PP_preV (ci := 9) (q0 := 0) hP hD hK [0, 3, 7] rfl rfl rfl rfl) rfl rfl hl.1 rfl (lv_room (Nat.le_of_ble_eq_true rfl)) dX9_layLeaves_85 ⟨Nat.le_of_ble_eq_true rfl, Nat.le_of_ble_eq_true rfl⟩) (fun H locs hP hD hS => ?_)
        exact ret_v (q := q) (wp := fun q => [(a9 0, .inr (9, fl9 a9 (va_up i9 13 q.2.1) (va_up g9 2 q.1))), ((a9 17), .inl (cyI, 6, .inl q.2.2.1)), ((a9 9), .inl (cyI, 60, .inl c_firsts)), ((a9 11), .inl (cyI, 60, .inl q.2.2.2.1)), ((a9 5), .inl (cyI, 32, .inl c_holds)), ((a9 19), .inl (cyI, 6, .inl q.2.2.2.2.1)), ((a9 12), .inl (cyI, 2, .inl c_many)), ((a9 21), .inl (cyI, 30, .inl q.2.2.2.2.2.1)), ((a9 18), .inl (cyI, 6, .inl q.2.2.2.2.2.2.1)), ((a9 20), .inl (cyI, 6, .inl q.2.2.2.2.2.2.2.1)), ((a9 16), .inl (cyI, 6, .inl q.2.2.2.2.2.2.2.2.1)), ((a9 10), .inl (cyI, 60, .inl c_seconds)), ((a9 15), .inl (cyI, 6, .inl q.2.2.2.2.2.2.2.2.2.1)), ((a9 22), .inl (cyJ, 768, .inr (.inl q.2.2.2.2.2.2.2.2.2.2.1))), ((a9 14), .inl (cyI, 6, .inl q.2.2.2.2.2.2.2.2.2.2.2))]) hQ hf hx hb hr hlocks hP hD hS dX9_layLeaves_88
      · have hf := pif_f c22 hf
        refine lv_aload_n hx hb dX9_layLeaves_25 rfl (lv_at hl 0 rfl) ?_
        refine lv_iload_n hx hb dX9_layLeaves_26 rfl (lv_at hl 1 rfl) ?_
        obtain ⟨q27, e27, hf⟩ := pb_some hf
        refine cc_v (wc := [(a9 0, .inr (9, fl9 a9 (va_up i9 13 v_open) (va_up g9 2 v_leaves))), ((a9 11), .inl (cyI, 60, .inl c_goes)), ((a9 21), .inl (cyI, 30, .inl c_opens))]) (wr := [((a9 17), .inl (cyI, 6, .inl c_chooser)), ((a9 9), .inl (cyI, 60, .inl c_firsts)), ((a9 5), .inl (cyI, 32, .inl c_holds)), ((a9 19), .inl (cyI, 6, .inl c_later)), ((a9 12), .inl (cyI, 2, .inl c_many)), ((a9 18), .inl (cyI, 6, .inl c_outs)), ((a9 20), .inl (cyI, 6, .inl c_payOf)), ((a9 16), .inl (cyI, 6, .inl c_placeOf)), ((a9 10), .inl (cyI, 60, .inl c_seconds)), ((a9 15), .inl (cyI, 6, .inl c_sideAt)), ((a9 22), .inl (cyJ, 768, .inr (.inl c_tree))), ((a9 14), .inl (cyI, 6, .inl c_won))]) (w1 := [(a9 0, .inr (9, fl9 a9 (va_up i9 13 v_open) (va_up g9 2 v_leaves))), ((a9 11), .inl (cyI, 60, .inl q27)), ((a9 21), .inl (cyI, 30, .inl c_opens))]) (wn := [(a9 0, .inr (9, fl9 a9 (va_up i9 13 v_open) (va_up g9 2 v_leaves))), ((a9 17), .inl (cyI, 6, .inl c_chooser)), ((a9 9), .inl (cyI, 60, .inl c_firsts)), ((a9 11), .inl (cyI, 60, .inl q27)), ((a9 5), .inl (cyI, 32, .inl c_holds)), ((a9 19), .inl (cyI, 6, .inl c_later)), ((a9 12), .inl (cyI, 2, .inl c_many)), ((a9 21), .inl (cyI, 30, .inl c_opens)), ((a9 18), .inl (cyI, 6, .inl c_outs)), ((a9 20), .inl (cyI, 6, .inl c_payOf)), ((a9 16), .inl (cyI, 6, .inl c_placeOf)), ((a9 10), .inl (cyI, 60, .inl c_seconds)), ((a9 15), .inl (cyI, 6, .inl c_sideAt)), ((a9 22), .inl (cyJ, 768, .inr (.inl c_tree))), ((a9 14), .inl (cyI, 6, .inl c_won))]) hP hD hS hA [0, 3, 7] [1, 2, 4, 5, 6, 8, 9, 10, 11, 12, 13, 14] [12, 0, 1, 13, 2, 3, 4, 14, 5, 6, 7, 8, 9, 10, 11] rfl rfl rfl (by decide) rfl rfl (va_runV (C := RX9) (As := [.int x1]) (rest := []) ⟨hx, hb, hml, hown, hL⟩ (mX9_setEnds l D cyI cyJ cyB cyS N H.size a9 (va_up i9 13 v_open) (va_up g9 2 v_leaves) c_goes c_opens x1 q27 e27) (cwV 1 hL (gV (hR26 9 rfl) (hR26 10 rfl) (hR26 11 rfl) (hR1 5 rfl) (hR26 12 rfl)) rfl rfl rfl (by decide +kernel) ⟨Nat.le_of_ble_eq_true rfl, Nat.le_of_ble_eq_true rfl⟩) (PP_preV (ci := 9) (q0 := 0) hP hD hK [0, 3, 7] rfl rfl rfl rfl) rfl rfl hl.1 rfl (lv_room (Nat.le_of_ble_eq_true rfl)) dX9_layLeaves_27 ⟨Nat.le_of_ble_eq_true rfl, Nat.le_of_ble_eq_true rfl⟩) (fun H locs hP hD hS => ?_)
        refine lv_aload_n hx hb dX9_layLeaves_30 rfl (lv_at hl 0 rfl) ?_
        obtain ⟨q31, e31, hf⟩ := pb_some hf
        refine cc_v (wc := [(a9 0, .inr (9, fl9 a9 (va_up i9 13 v_open) (va_up g9 2 v_leaves))), ((a9 17), .inl (cyI, 6, .inl c_chooser)), ((a9 9), .inl (cyI, 60, .inl c_firsts)), ((a9 11), .inl (cyI, 60, .inl q27)), ((a9 5), .inl (cyI, 32, .inl c_holds)), ((a9 19), .inl (cyI, 6, .inl c_later)), ((a9 12), .inl (cyI, 2, .inl c_many)), ((a9 18), .inl (cyI, 6, .inl c_outs)), ((a9 20), .inl (cyI, 6, .inl c_payOf)), ((a9 16), .inl (cyI, 6, .inl c_placeOf)), ((a9 10), .inl (cyI, 60, .inl c_seconds)), ((a9 15), .inl (cyI, 6, .inl c_sideAt)), ((a9 14), .inl (cyI, 6, .inl c_won))]) (wr := [((a9 21), .inl (cyI, 30, .inl c_opens)), ((a9 22), .inl (cyJ, 768, .inr (.inl c_tree)))]) (w1 := [(a9 0, .inr (9, fl9 a9 (va_up i9 13 v_open) (va_up g9 2 v_leaves))), ((a9 17), .inl (cyI, 6, .inl q31.1)), ((a9 9), .inl (cyI, 60, .inl c_firsts)), ((a9 11), .inl (cyI, 60, .inl q27)), ((a9 5), .inl (cyI, 32, .inl c_holds)), ((a9 19), .inl (cyI, 6, .inl q31.2.1)), ((a9 12), .inl (cyI, 2, .inl c_many)), ((a9 18), .inl (cyI, 6, .inl q31.2.2.1)), ((a9 20), .inl (cyI, 6, .inl q31.2.2.2.1)), ((a9 16), .inl (cyI, 6, .inl q31.2.2.2.2.1)), ((a9 10), .inl (cyI, 60, .inl c_seconds)), ((a9 15), .inl (cyI, 6, .inl q31.2.2.2.2.2.1)), ((a9 14), .inl (cyI, 6, .inl q31.2.2.2.2.2.2))]) (wn := [(a9 0, .inr (9, fl9 a9 (va_up i9 13 v_open) (va_up g9 2 v_leaves))), ((a9 17), .inl (cyI, 6, .inl q31.1)), ((a9 9), .inl (cyI, 60, .inl c_firsts)), ((a9 11), .inl (cyI, 60, .inl q27)), ((a9 5), .inl (cyI, 32, .inl c_holds)), ((a9 19), .inl (cyI, 6, .inl q31.2.1)), ((a9 12), .inl (cyI, 2, .inl c_many)), ((a9 21), .inl (cyI, 30, .inl c_opens)), ((a9 18), .inl (cyI, 6, .inl q31.2.2.1)), ((a9 20), .inl (cyI, 6, .inl q31.2.2.2.1)), ((a9 16), .inl (cyI, 6, .inl q31.2.2.2.2.1)), ((a9 10), .inl (cyI, 60, .inl c_seconds)), ((a9 15), .inl (cyI, 6, .inl q31.2.2.2.2.2.1)), ((a9 22), .inl (cyJ, 768, .inr (.inl c_tree))), ((a9 14), .inl (cyI, 6, .inl q31.2.2.2.2.2.2))]) hP hD hS hA [0, 1, 2, 3, 4, 5, 6, 8, 9, 10, 11, 12, 14] [7, 13] [2, 3, 4, 5, 6, 7, 8, 0, 9, 10, 11, 12, 13, 1, 14] rfl rfl rfl (by decide) rfl rfl (va_runV (C := RX9) (As := []) (rest := []) ⟨hx, hb, hml, hown, hL⟩ (mX9_layPays l D cyI cyJ cyB cyS N H.size a9 (va_up i9 13 v_open) (va_up g9 2 v_leaves) c_chooser c_firsts q27 c_holds c_later c_many c_outs c_payOf c_placeOf c_seconds c_sideAt c_won  q31 e31) (cwV 0 hL (gV (hR32 20 rfl) (hR32 21 rfl) (hR32 22 rfl) (hR1 5 rfl) (hR32 23 rfl)) rfl rfl rfl (by decide +kernel) ⟨Nat.le_of_ble_eq_true rfl, Nat.le_of_ble_eq_true rfl⟩) (PP_preV (ci := 9) (q0 := 0) hP hD hK [0, 1, 2, 3, 4, 5, 6, 8, 9, 10, 11, 12, 14] rfl rfl rfl rfl) rfl rfl hl.1 rfl (lv_room (Nat.le_of_ble_eq_true rfl)) dX9_layLeaves_31 ⟨Nat.le_of_ble_eq_true rfl, Nat.le_of_ble_eq_true rfl⟩) (fun H locs hP hD hS => ?_)
        refine lv_iconst (v := 0) hx hb dX9_layLeaves_34 (by decide) ?_
        refine lv_istore_n (lv' := [(2, .int 0), (0, .ref (a9 0)), (1, .int x1)]) hx hb dX9_layLeaves_35 rfl hl (by decide) rfl (fun ls hl => ?_)
        exact hB36 (fX9_layLeaves_15 N c_firsts c_holds c_many c_seconds n) hk15 N x1 0 v_leaves v_open q31.1 q27 q31.2.1 c_opens q31.2.2.1 q31.2.2.2.1 q31.2.2.2.2.1 q31.2.2.2.2.2.1 c_tree q31.2.2.2.2.2.2 H locs ls hf hP hD hS (lv_sub hl [1, 2, 0] rfl)
  unfold fX9_layLeaves at hf
  obtain ⟨H, hH⟩ : ∃ H : Heap, H = s.heap := ⟨_, rfl⟩
  obtain ⟨locs, hlo⟩ : ∃ locs : List Loc, locs = [] := ⟨_, rfl⟩
  have hP : va_P D vwCl [(a9 0, .inr (9, fl9 a9 i9 g9)), ((a9 17), .inl (cyI, 6, .inl c_chooser)), ((a9 9), .inl (cyI, 60, .inl c_firsts)), ((a9 11), .inl (cyI, 60, .inl c_goes)), ((a9 5), .inl (cyI, 32, .inl c_holds)), ((a9 19), .inl (cyI, 6, .inl c_later)), ((a9 12), .inl (cyI, 2, .inl c_many)), ((a9 21), .inl (cyI, 30, .inl c_opens)), ((a9 18), .inl (cyI, 6, .inl c_outs)), ((a9 20), .inl (cyI, 6, .inl c_payOf)), ((a9 16), .inl (cyI, 6, .inl c_placeOf)), ((a9 10), .inl (cyI, 60, .inl c_seconds)), ((a9 15), .inl (cyI, 6, .inl c_sideAt)), ((a9 22), .inl (cyJ, 768, .inr (.inl c_tree))), ((a9 14), .inl (cyI, 6, .inl c_won))] H := by rw [hH]; exact hP
  have hS : va_S A s.heap H locs := by rw [hH, hlo]; exact hS
  suffices hw : W p l e rmX9_layLeaves s m av below meth c H locs 0 0 Q (F0 m 0 ls []) by rw [hH, hlo] at hw; exact hw
  refine lv_aload_n hx hb dX9_layLeaves_0 rfl (lv_at hl 0 rfl) ?_
  obtain ⟨q1, e1, hf⟩ := pb_some hf
  refine cc_v (wc := [(a9 0, .inr (9, fl9 a9 i9 g9)), ((a9 11), .inl (cyI, 60, .inl c_goes)), ((a9 12), .inl (cyI, 2, .inl c_many)), ((a9 21), .inl (cyI, 30, .inl c_opens))]) (wr := [((a9 17), .inl (cyI, 6, .inl c_chooser)), ((a9 9), .inl (cyI, 60, .inl c_firsts)), ((a9 5), .inl (cyI, 32, .inl c_holds)), ((a9 19), .inl (cyI, 6, .inl c_later)), ((a9 18), .inl (cyI, 6, .inl c_outs)), ((a9 20), .inl (cyI, 6, .inl c_payOf)), ((a9 16), .inl (cyI, 6, .inl c_placeOf)), ((a9 10), .inl (cyI, 60, .inl c_seconds)), ((a9 15), .inl (cyI, 6, .inl c_sideAt)), ((a9 22), .inl (cyJ, 768, .inr (.inl c_tree))), ((a9 14), .inl (cyI, 6, .inl c_won))]) (w1 := [(a9 0, .inr (9, fl9 a9 (va_up i9 13 q1.1) g9)), ((a9 11), .inl (cyI, 60, .inl c_goes)), ((a9 12), .inl (cyI, 2, .inl c_many)), ((a9 21), .inl (cyI, 30, .inl q1.2))]) (wn := [(a9 0, .inr (9, fl9 a9 (va_up i9 13 q1.1) g9)), ((a9 17), .inl (cyI, 6, .inl c_chooser)), ((a9 9), .inl (cyI, 60, .inl c_firsts)), ((a9 11), .inl (cyI, 60, .inl c_goes)), ((a9 5), .inl (cyI, 32, .inl c_holds)), ((a9 19), .inl (cyI, 6, .inl c_later)), ((a9 12), .inl (cyI, 2, .inl c_many)), ((a9 21), .inl (cyI, 30, .inl q1.2)), ((a9 18), .inl (cyI, 6, .inl c_outs)), ((a9 20), .inl (cyI, 6, .inl c_payOf)), ((a9 16), .inl (cyI, 6, .inl c_placeOf)), ((a9 10), .inl (cyI, 60, .inl c_seconds)), ((a9 15), .inl (cyI, 6, .inl c_sideAt)), ((a9 22), .inl (cyJ, 768, .inr (.inl c_tree))), ((a9 14), .inl (cyI, 6, .inl c_won))]) hP hD hS hA [0, 3, 6, 7] [1, 2, 4, 5, 8, 9, 10, 11, 12, 13, 14] [11, 0, 1, 12, 2, 3, 13, 14, 4, 5, 6, 7, 8, 9, 10] rfl rfl rfl (by decide) rfl rfl (va_runV (C := RX9) (As := []) (rest := []) ⟨hx, hb, hml, hown, hL⟩ (mX9_layOpens l D cyI cyJ cyB cyS N H.size a9 i9 g9 c_goes c_many c_opens  q1 e1) (cwV 0 hL (gV (hR26 5 rfl) (hR26 6 rfl) (hR26 7 rfl) (hR1 5 rfl) (hR26 8 rfl)) rfl rfl rfl (by decide +kernel) ⟨Nat.le_of_ble_eq_true rfl, Nat.le_of_ble_eq_true rfl⟩) (PP_preV (ci := 9) (q0 := 0) hP hD hK [0, 3, 6, 7] rfl rfl rfl rfl) rfl rfl hl.1 rfl (lv_room (Nat.le_of_ble_eq_true rfl)) dX9_layLeaves_1 ⟨Nat.le_of_ble_eq_true rfl, Nat.le_of_ble_eq_true rfl⟩) (fun H locs hP hD hS => ?_)
  refine lv_aload_n hx hb dX9_layLeaves_4 rfl (lv_at hl 0 rfl) ?_
  refine lv_aload_n hx hb dX9_layLeaves_5 rfl (lv_at hl 0 rfl) ?_
  obtain ⟨q6, e6, hf⟩ := pb_some hf
  refine cc_i (wc := [(a9 0, .inr (9, fl9 a9 (va_up i9 13 q1.1) g9)), ((a9 5), .inl (cyI, 32, .inl c_holds))]) (wr := [((a9 17), .inl (cyI, 6, .inl c_chooser)), ((a9 9), .inl (cyI, 60, .inl c_firsts)), ((a9 11), .inl (cyI, 60, .inl c_goes)), ((a9 19), .inl (cyI, 6, .inl c_later)), ((a9 12), .inl (cyI, 2, .inl c_many)), ((a9 21), .inl (cyI, 30, .inl q1.2)), ((a9 18), .inl (cyI, 6, .inl c_outs)), ((a9 20), .inl (cyI, 6, .inl c_payOf)), ((a9 16), .inl (cyI, 6, .inl c_placeOf)), ((a9 10), .inl (cyI, 60, .inl c_seconds)), ((a9 15), .inl (cyI, 6, .inl c_sideAt)), ((a9 22), .inl (cyJ, 768, .inr (.inl c_tree))), ((a9 14), .inl (cyI, 6, .inl c_won))]) (w1 := [(a9 0, .inr (9, fl9 a9 (va_up i9 13 q1.1) g9)), ((a9 5), .inl (cyI, 32, .inl c_holds))]) (wn := [(a9 0, .inr (9, fl9 a9 (va_up i9 13 q1.1) g9)), ((a9 17), .inl (cyI, 6, .inl c_chooser)), ((a9 9), .inl (cyI, 60, .inl c_firsts)), ((a9 11), .inl (cyI, 60, .inl c_goes)), ((a9 5), .inl (cyI, 32, .inl c_holds)), ((a9 19), .inl (cyI, 6, .inl c_later)), ((a9 12), .inl (cyI, 2, .inl c_many)), ((a9 21), .inl (cyI, 30, .inl q1.2)), ((a9 18), .inl (cyI, 6, .inl c_outs)), ((a9 20), .inl (cyI, 6, .inl c_payOf)), ((a9 16), .inl (cyI, 6, .inl c_placeOf)), ((a9 10), .inl (cyI, 60, .inl c_seconds)), ((a9 15), .inl (cyI, 6, .inl c_sideAt)), ((a9 22), .inl (cyJ, 768, .inr (.inl c_tree))), ((a9 14), .inl (cyI, 6, .inl c_won))]) hP hD hS hA [0, 4] [1, 2, 3, 5, 6, 7, 8, 9, 10, 11, 12, 13, 14] [13, 0, 1, 2, 14, 3, 4, 5, 6, 7, 8, 9, 10, 11, 12] rfl rfl rfl (by decide) rfl rfl (va_runV (C := RX9) (As := []) (rest := [.ref (a9 0)]) ⟨hx, hb, hml, hown, hL⟩ (mX9_unit l D cyI cyJ cyB cyS N H.size a9 (va_up i9 13 q1.1) g9 c_holds  q6 e6) (cwV 0 hL (gV (hR33 0 rfl) (hR33 1 rfl) (hR33 2 rfl) (hR1 5 rfl) (hR33 3 rfl)) rfl rfl rfl (by decide +kernel) ⟨Nat.le_of_ble_eq_true rfl, Nat.le_of_ble_eq_true rfl⟩) (PP_preV (ci := 9) (q0 := 0) hP hD hK [0, 4] rfl rfl rfl rfl) rfl rfl hl.1 rfl (lv_room (Nat.le_of_ble_eq_true rfl)) dX9_layLeaves_6 ⟨Nat.le_of_ble_eq_true rfl, Nat.le_of_ble_eq_true rfl⟩) (fun H locs hP hD hS => ?_)
  refine lv_i2l hx hb dX9_layLeaves_9 rfl ?_
  refine va_put (D := D) (ci := 9) (v := .long ((q6 : Int32).toInt64)) (ty := .long) (C := RX9) (T := TX9) (N := 52) hx hb hL inlX9 tyX9 tyX9_ok nmX9 hown hK.1 hP hD hS 0 rfl rfl 40 (by decide) w3 (fun _ h9 => h9) rfl (by decide +kernel) rfl rfl (Nat.le_of_ble_eq_true rfl) dX9_layLeaves_10 (fun H locs hP hD hS => ?_)
  rw [fl9_s40] at hP hD
  have hP : va_P D vwCl [(a9 0, .inr (9, fl9 a9 (va_up i9 13 q1.1) (va_up g9 2 ((q6 : Int32).toInt64)))), ((a9 17), .inl (cyI, 6, .inl c_chooser)), ((a9 9), .inl (cyI, 60, .inl c_firsts)), ((a9 11), .inl (cyI, 60, .inl c_goes)), ((a9 5), .inl (cyI, 32, .inl c_holds)), ((a9 19), .inl (cyI, 6, .inl c_later)), ((a9 12), .inl (cyI, 2, .inl c_many)), ((a9 21), .inl (cyI, 30, .inl q1.2)), ((a9 18), .inl (cyI, 6, .inl c_outs)), ((a9 20), .inl (cyI, 6, .inl c_payOf)), ((a9 16), .inl (cyI, 6, .inl c_placeOf)), ((a9 10), .inl (cyI, 60, .inl c_seconds)), ((a9 15), .inl (cyI, 6, .inl c_sideAt)), ((a9 22), .inl (cyJ, 768, .inr (.inl c_tree))), ((a9 14), .inl (cyI, 6, .inl c_won))] H := hP
  have hD : va_D A [(a9 0, .inr (9, fl9 a9 (va_up i9 13 q1.1) (va_up g9 2 ((q6 : Int32).toInt64)))), ((a9 17), .inl (cyI, 6, .inl c_chooser)), ((a9 9), .inl (cyI, 60, .inl c_firsts)), ((a9 11), .inl (cyI, 60, .inl c_goes)), ((a9 5), .inl (cyI, 32, .inl c_holds)), ((a9 19), .inl (cyI, 6, .inl c_later)), ((a9 12), .inl (cyI, 2, .inl c_many)), ((a9 21), .inl (cyI, 30, .inl q1.2)), ((a9 18), .inl (cyI, 6, .inl c_outs)), ((a9 20), .inl (cyI, 6, .inl c_payOf)), ((a9 16), .inl (cyI, 6, .inl c_placeOf)), ((a9 10), .inl (cyI, 60, .inl c_seconds)), ((a9 15), .inl (cyI, 6, .inl c_sideAt)), ((a9 22), .inl (cyJ, 768, .inr (.inl c_tree))), ((a9 14), .inl (cyI, 6, .inl c_won))] := hD
  refine lv_iconst (v := 0) hx hb dX9_layLeaves_13 (by decide) ?_
  refine lv_istore_n (lv' := [(1, .int 0), (0, .ref (a9 0))]) hx hb dX9_layLeaves_14 rfl hl (by decide) rfl (fun ls hl => ?_)
  exact hB15 N 0 ((q6 : Int32).toInt64) q1.1 c_chooser c_goes c_later q1.2 c_outs c_payOf c_placeOf c_sideAt c_tree c_won H locs ls hf hP hD hS (lv_sub hl [1, 0] rfl)
abbrev rmX9_mean : Room := { frames := 0, cells := 0, slots := 0, locals := 0 }
set_option maxHeartbeats 40000000 in
set_option maxRecDepth 100000 in
theorem mX9_mean (l : Launch) (D : va_G) (cyI cyJ cyB cyS : ClassId) (N : Nat) (sz : Nat) (a9 : Nat → Nat) (i9 : Nat → Int32) (g9 : Nat → Int64) (c_tree : Nat → Int64) (x1 : Int32) (x2 : Int32) (x3 : Int32) (q : Int64) (hf : fX9_mean N c_tree x1 x2 x3 = some q) : Met l yX9_mean (wS yX9_mean cX9_mean 4 (some .long)) rmX9_mean (va_Pc [.ref (a9 0), .int x1, .int x2, .int x3] (PP D cyI cyJ cyB cyS [(a9 0, .inr (9, fl9 a9 i9 g9)), ((a9 22), .inl (cyJ, 768, .inr (.inl c_tree)))] sz)) (QL q D [(a9 0, .inr (9, fl9 a9 i9 g9)), ((a9 22), .inl (cyJ, 768, .inr (.inl c_tree)))] (va_A [(a9 0, .inr (9, fl9 a9 i9 g9)), ((a9 22), .inl (cyJ, 768, .inr (.inl c_tree)))] sz)) 0 0 (va_A [(a9 0, .inr (9, fl9 a9 i9 g9)), ((a9 22), .inl (cyJ, 768, .inr (.inl c_tree)))] sz) := by
  refine Met.ofW (cc := cX9_mean) (maxL := 4) (ret := (some .long)) (by decide) rfl ?_
  intro p e s m args below meth c s₁ B hml hv
  obtain ⟨rfl, hsz, hP, hK, hD0⟩ := hv
  have hx := B.exec
  have hb := B.bytes
  have hr := B.returns
  have hts := atoms_spec (ws := (wS yX9_mean cX9_mean 4 (some .long))) B.pre
  have hown : s.vm.findClass RX9 = some m.cls := findClass_of_methodNamed B.named
  have hlocks := B.notSynchronized
  subst hsz
  have hD := hD0.self (sz := s.heap.size)
  refine w_nameQ (fun Q hQ => ?_)
  have hl := lv_entry ([.ref (a9 0), .int x1, .int x2, .int x3] : List Value) (n := 4) (Nat.le_of_ble_eq_true rfl)
  rw [lg_entry_eq]
  generalize (lg_sl ([.ref (a9 0), .int x1, .int x2, .int x3] : List Value) ++ List.replicate (4 - (lg_sl ([.ref (a9 0), .int x1, .int x2, .int x3] : List Value)).length) Slot.unset).toArray = ls at hl ⊢
  have hl : lv_has ls 4 [(0, .ref (a9 0)), (1, .int x1), (2, .int x2), (3, .int x3)] := hl
  generalize hAe : va_A [(a9 0, .inr (9, fl9 a9 i9 g9)), ((a9 22), .inl (cyJ, 768, .inr (.inl c_tree)))] s.heap.size = A at hD hQ
  have hA : ∀ q : Nat, s.heap.size ≤ q → A q := fun q h => by rw [← hAe]; exact Or.inr h
  have hS : va_S A s.heap s.heap [] := va_S.rf
  generalize ([.ref (a9 0), .int x1, .int x2, .int x3] : List Value).toArray = av at hts hQ ⊢
  have hL : ∀ w ∈ wsL_law, w.before av s = true := fun w h => hts w (List.mem_cons_of_mem _ h)
  have w0 := hL (.fieldLink RX9 73 "LosingLeagueModel" "tree" "[J") (hR7 1 rfl)
  unfold fX9_mean at hf
  obtain ⟨H, hH⟩ : ∃ H : Heap, H = s.heap := ⟨_, rfl⟩
  obtain ⟨locs, hlo⟩ : ∃ locs : List Loc, locs = [] := ⟨_, rfl⟩
  have hP : va_P D vwCl [(a9 0, .inr (9, fl9 a9 i9 g9)), ((a9 22), .inl (cyJ, 768, .inr (.inl c_tree)))] H := by rw [hH]; exact hP
  have hS : va_S A s.heap H locs := by rw [hH, hlo]; exact hS
  suffices hw : W p l e rmX9_mean s m av below meth c H locs 0 0 Q (F0 m 0 ls []) by rw [hH, hlo] at hw; exact hw
  refine lv_iload_n hx hb dX9_mean_0 rfl (lv_at hl 3 rfl) ?_
  refine lv_i2l hx hb dX9_mean_1 rfl ?_
  refine lv_aload_n hx hb dX9_mean_2 rfl (lv_at hl 0 rfl) ?_
  refine va_get (D := D) (ci := 9) (v := .ref (a9 22)) (C := RX9) (T := TX9) (N := 52) hx hb hL inlX9 hown hK.1 hP 0 rfl rfl 37 (by decide) w0 (fun _ h9 => h9) rfl dX9_mean_3 ?_
  refine lv_bipush (v := 6) hx hb dX9_mean_6 (by decide) ?_
  refine lv_iconst (v := 2) hx hb dX9_mean_8 (by decide) ?_
  refine lv_iload_n hx hb dX9_mean_9 rfl (lv_at hl 1 rfl) ?_
  refine lv_imul hx hb dX9_mean_10 ?_
  refine lv_imul hx hb dX9_mean_11 ?_
  refine lv_iload_n hx hb dX9_mean_12 rfl (lv_at hl 2 rfl) ?_
  refine lv_iadd hx hb dX9_mean_13 ?_
  obtain ⟨h14, hf⟩ := pg_some hf
  refine va_lald hx hb hK.1 hP 1 1 rfl rfl h14 dX9_mean_14 ?_
  refine lv_lmul hx hb dX9_mean_15 ?_
  refine lv_bipush (v := 16) hx hb dX9_mean_16 (by decide) ?_
  refine lv_iload_n hx hb dX9_mean_18 rfl (lv_at hl 3 rfl) ?_
  refine lv_isub hx hb dX9_mean_19 ?_
  refine lv_i2l hx hb dX9_mean_20 rfl ?_
  refine lv_aload_n hx hb dX9_mean_21 rfl (lv_at hl 0 rfl) ?_
  refine va_get (D := D) (ci := 9) (v := .ref (a9 22)) (C := RX9) (T := TX9) (N := 52) hx hb hL inlX9 hown hK.1 hP 0 rfl rfl 37 (by decide) w0 (fun _ h9 => h9) rfl dX9_mean_22 ?_
  refine lv_bipush (v := 6) hx hb dX9_mean_25 (by decide) ?_
  refine lv_iconst (v := 2) hx hb dX9_mean_27 (by decide) ?_
  refine lv_iload_n hx hb dX9_mean_28 rfl (lv_at hl 1 rfl) ?_
  refine lv_imul hx hb dX9_mean_29 ?_
  refine lv_iconst (v := 1) hx hb dX9_mean_30 (by decide) ?_
  refine lv_iadd hx hb dX9_mean_31 ?_
  refine lv_imul hx hb dX9_mean_32 ?_
  refine lv_iload_n hx hb dX9_mean_33 rfl (lv_at hl 2 rfl) ?_
  refine lv_iadd hx hb dX9_mean_34 ?_
  obtain ⟨h35, hf⟩ := pg_some hf
  refine va_lald hx hb hK.1 hP 1 1 rfl rfl h35 dX9_mean_35 ?_
  refine lv_lmul hx hb dX9_mean_36 ?_
  refine lv_ladd hx hb dX9_mean_37 ?_
  exact ret_l (q := q) (g := fun q => q) (wp := fun q => [(a9 0, .inr (9, fl9 a9 i9 g9)), ((a9 22), .inl (cyJ, 768, .inr (.inl c_tree)))]) hQ hf hx hb hr hlocks hP hD hS dX9_mean_38 rfl
abbrev rmX9_findPair : Room := { frames := 2, cells := 0, slots := 0, locals := 46 }
set_option maxHeartbeats 40000000 in
set_option maxRecDepth 100000 in
theorem mX9_findPair (l : Launch) (D : va_G) (cyI cyJ cyB cyS : ClassId) (N : Nat) (sz : Nat) (a9 : Nat → Nat) (i9 : Nat → Int32) (g9 : Nat → Int64) (c_firsts : Nat → Int32) (c_holds : Nat → Int32) (c_seconds : Nat → Int32) (c_tree : Nat → Int64) (x1 : Int32) (x2 : Int32) (q : Int32 × Int32) (hf : fX9_findPair N (i9 15) (i9 14) c_firsts c_holds c_seconds c_tree x1 x2 = some q) : Met l yX9_findPair (wS yX9_findPair cX9_findPair 12 none) rmX9_findPair (va_Pc [.ref (a9 0), .int x1, .int x2] (PP D cyI cyJ cyB cyS [(a9 0, .inr (9, fl9 a9 i9 g9)), ((a9 9), .inl (cyI, 60, .inl c_firsts)), ((a9 5), .inl (cyI, 32, .inl c_holds)), ((a9 10), .inl (cyI, 60, .inl c_seconds)), ((a9 22), .inl (cyJ, 768, .inr (.inl c_tree)))] sz)) (QV D [(a9 0, .inr (9, fl9 a9 (va_up (va_up i9 15 q.1) 14 q.2) g9)), ((a9 9), .inl (cyI, 60, .inl c_firsts)), ((a9 5), .inl (cyI, 32, .inl c_holds)), ((a9 10), .inl (cyI, 60, .inl c_seconds)), ((a9 22), .inl (cyJ, 768, .inr (.inl c_tree)))] (va_A [(a9 0, .inr (9, fl9 a9 i9 g9)), ((a9 9), .inl (cyI, 60, .inl c_firsts)), ((a9 5), .inl (cyI, 32, .inl c_holds)), ((a9 10), .inl (cyI, 60, .inl c_seconds)), ((a9 22), .inl (cyJ, 768, .inr (.inl c_tree)))] sz)) 0 0 (va_A [(a9 0, .inr (9, fl9 a9 i9 g9)), ((a9 9), .inl (cyI, 60, .inl c_firsts)), ((a9 5), .inl (cyI, 32, .inl c_holds)), ((a9 10), .inl (cyI, 60, .inl c_seconds)), ((a9 22), .inl (cyJ, 768, .inr (.inl c_tree)))] sz) := by
  refine Met.ofW (cc := cX9_findPair) (maxL := 12) (ret := none) (by decide) rfl ?_
  intro p e s m args below meth c s₁ B hml hv
  obtain ⟨rfl, hsz, hP, hK, hD0⟩ := hv
  have hx := B.exec
  have hb := B.bytes
  have hr := B.returns
  have hts := atoms_spec (ws := (wS yX9_findPair cX9_findPair 12 none)) B.pre
  have hown : s.vm.findClass RX9 = some m.cls := findClass_of_methodNamed B.named
  have hlocks := B.notSynchronized
  subst hsz
  have hD := hD0.self (sz := s.heap.size)
  refine w_nameQ (fun Q hQ => ?_)
  have hl := lv_entry ([.ref (a9 0), .int x1, .int x2] : List Value) (n := 12) (Nat.le_of_ble_eq_true rfl)
  rw [lg_entry_eq]
  generalize (lg_sl ([.ref (a9 0), .int x1, .int x2] : List Value) ++ List.replicate (12 - (lg_sl ([.ref (a9 0), .int x1, .int x2] : List Value)).length) Slot.unset).toArray = ls at hl ⊢
  have hl : lv_has ls 12 [(0, .ref (a9 0)), (1, .int x1), (2, .int x2)] := hl
  generalize hAe : va_A [(a9 0, .inr (9, fl9 a9 i9 g9)), ((a9 9), .inl (cyI, 60, .inl c_firsts)), ((a9 5), .inl (cyI, 32, .inl c_holds)), ((a9 10), .inl (cyI, 60, .inl c_seconds)), ((a9 22), .inl (cyJ, 768, .inr (.inl c_tree)))] s.heap.size = A at hD hQ
  have hA : ∀ q : Nat, s.heap.size ≤ q → A q := fun q h => by rw [← hAe]; exact Or.inr h
  have hS : va_S A s.heap s.heap [] := va_S.rf
  generalize ([.ref (a9 0), .int x1, .int x2] : List Value).toArray = av at hts hQ ⊢
  have hL : ∀ w ∈ wsL_law, w.before av s = true := fun w h => hts w (List.mem_cons_of_mem _ h)
  have w0 := hL (.fieldLink RX9 289 "LosingLeagueModel" "pair" "I") (hR39 3 rfl)
  have w1 := hL (.fieldLink RX9 286 "LosingLeagueModel" "isPair" "Z") (hR39 4 rfl)
  have w2 := hL (.fieldLink RX9 34 "LosingLeagueModel" "firsts" "[I") (hR6 12 rfl)
  have w3 := hL (.fieldLink RX9 37 "LosingLeagueModel" "seconds" "[I") (hR6 13 rfl)
  have hB142 : ∀ (k12 : Int32 → Int32 → Int32 → Option (Int32 × Int32)) (hk12 : ∀ (x3 : Int32) (v_isPair : Int32) (v_pair : Int32) (H : Heap) (locs : List Loc) (ls : Array Slot), k12 x3 v_isPair v_pair = some q → va_P D vwCl [(a9 0, .inr (9, fl9 a9 (va_up (va_up i9 15 v_isPair) 14 v_pair) g9)), ((a9 9), .inl (cyI, 60, .inl c_firsts)), ((a9 5), .inl (cyI, 32, .inl c_holds)), ((a9 10), .inl (cyI, 60, .inl c_seconds)), ((a9 22), .inl (cyJ, 768, .inr (.inl c_tree)))] H → va_D A [(a9 0, .inr (9, fl9 a9 (va_up (va_up i9 15 v_isPair) 14 v_pair) g9)), ((a9 9), .inl (cyI, 60, .inl c_firsts)), ((a9 5), .inl (cyI, 32, .inl c_holds)), ((a9 10), .inl (cyI, 60, .inl c_seconds)), ((a9 22), .inl (cyJ, 768, .inr (.inl c_tree)))] → va_S A s.heap H locs → lv_has ls 12 [(0, .ref (a9 0)), (1, .int x1), (2, .int x2), (3, .int x3)] → W p l e rmX9_findPair s m av below meth c H locs 0 0 Q (F0 m 12 ls [])), ∀ (x3 : Int32) (s1 : Int32) (v_isPair : Int32) (v_pair : Int32) (H : Heap) (locs : List Loc) (ls : Array Slot), fX9_findPair_142 N c_firsts c_holds c_seconds c_tree x1 x2 k12 x3 s1 v_isPair v_pair = some q → va_P D vwCl [(a9 0, .inr (9, fl9 a9 (va_up (va_up i9 15 v_isPair) 14 v_pair) g9)), ((a9 9), .inl (cyI, 60, .inl c_firsts)), ((a9 5), .inl (cyI, 32, .inl c_holds)), ((a9 10), .inl (cyI, 60, .inl c_seconds)), ((a9 22), .inl (cyJ, 768, .inr (.inl c_tree)))] H → va_D A [(a9 0, .inr (9, fl9 a9 (va_up (va_up i9 15 v_isPair) 14 v_pair) g9)), ((a9 9), .inl (cyI, 60, .inl c_firsts)), ((a9 5), .inl (cyI, 32, .inl c_holds)), ((a9 10), .inl (cyI, 60, .inl c_seconds)), ((a9 22), .inl (cyJ, 768, .inr (.inl c_tree)))] → va_S A s.heap H locs → lv_has ls 12 [(0, .ref (a9 0)), (1, .int x1), (2, .int x2), (3, .int x3)] → W p l e rmX9_findPair s m av below meth c H locs 0 0 Q (F0 m 142 ls [.int s1, .ref (a9 0)]) := by
    intro k12 hk12 x3 s1 v_isPair v_pair H locs ls hf hP hD hS hl
    unfold fX9_findPair_142 at hf
    refine va_put (D := D) (ci := 9) (v := .int s1) (ty := .int) (C := RX9) (T := TX9) (N := 52) hx hb hL inlX9 tyX9 tyX9_ok nmX9 hown hK.1 hP hD hS 0 rfl rfl 38 (by decide) w0 (fun _ h9 => h9) rfl (by decide +kernel) rfl rfl (Nat.le_of_ble_eq_true rfl) dX9_findPair_142 (fun H locs hP hD hS => ?_)
    rw [fl9_s38] at hP hD
    have hP : va_P D vwCl [(a9 0, .inr (9, fl9 a9 (va_up (va_up (va_up i9 15 v_isPair) 14 v_pair) 14 s1) g9)), ((a9 9), .inl (cyI, 60, .inl c_firsts)), ((a9 5), .inl (cyI, 32, .inl c_holds)), ((a9 10), .inl (cyI, 60, .inl c_seconds)), ((a9 22), .inl (cyJ, 768, .inr (.inl c_tree)))] H := hP
    have hD : va_D A [(a9 0, .inr (9, fl9 a9 (va_up (va_up (va_up i9 15 v_isPair) 14 v_pair) 14 s1) g9)), ((a9 9), .inl (cyI, 60, .inl c_firsts)), ((a9 5), .inl (cyI, 32, .inl c_holds)), ((a9 10), .inl (cyI, 60, .inl c_seconds)), ((a9 22), .inl (cyJ, 768, .inr (.inl c_tree)))] := hD
    refine lv_iinc (v := x3 + 1) (lv' := [(3, .int (x3 + 1)), (0, .ref (a9 0)), (1, .int x1), (2, .int x2)]) hx hb dX9_findPair_145 hl (k := 3) rfl rfl (by decide) rfl (fun ls hl => ?_)
    refine lv_goto (tgt := 12) hx hb dX9_findPair_148 (by decide) ?_
    exact hk12 (x3 + 1) v_isPair s1 H locs ls hf hP hD hS (lv_sub hl [1, 2, 3, 0] rfl)
  have hB126 : ∀ (k12 : Int32 → Int32 → Int32 → Option (Int32 × Int32)) (hk12 : ∀ (x3 : Int32) (v_isPair : Int32) (v_pair : Int32) (H : Heap) (locs : List Loc) (ls : Array Slot), k12 x3 v_isPair v_pair = some q → va_P D vwCl [(a9 0, .inr (9, fl9 a9 (va_up (va_up i9 15 v_isPair) 14 v_pair) g9)), ((a9 9), .inl (cyI, 60, .inl c_firsts)), ((a9 5), .inl (cyI, 32, .inl c_holds)), ((a9 10), .inl (cyI, 60, .inl c_seconds)), ((a9 22), .inl (cyJ, 768, .inr (.inl c_tree)))] H → va_D A [(a9 0, .inr (9, fl9 a9 (va_up (va_up i9 15 v_isPair) 14 v_pair) g9)), ((a9 9), .inl (cyI, 60, .inl c_firsts)), ((a9 5), .inl (cyI, 32, .inl c_holds)), ((a9 10), .inl (cyI, 60, .inl c_seconds)), ((a9 22), .inl (cyJ, 768, .inr (.inl c_tree)))] → va_S A s.heap H locs → lv_has ls 12 [(0, .ref (a9 0)), (1, .int x1), (2, .int x2), (3, .int x3)] → W p l e rmX9_findPair s m av below meth c H locs 0 0 Q (F0 m 12 ls [])), ∀ (x3 : Int32) (s1 : Int32) (v_isPair : Int32) (v_pair : Int32) (H : Heap) (locs : List Loc) (ls : Array Slot), fX9_findPair_126 N c_firsts c_holds c_seconds c_tree x1 x2 k12 x3 s1 v_isPair v_pair = some q → va_P D vwCl [(a9 0, .inr (9, fl9 a9 (va_up (va_up i9 15 v_isPair) 14 v_pair) g9)), ((a9 9), .inl (cyI, 60, .inl c_firsts)), ((a9 5), .inl (cyI, 32, .inl c_holds)), ((a9 10), .inl (cyI, 60, .inl c_seconds)), ((a9 22), .inl (cyJ, 768, .inr (.inl c_tree)))] H → va_D A [(a9 0, .inr (9, fl9 a9 (va_up (va_up i9 15 v_isPair) 14 v_pair) g9)), ((a9 9), .inl (cyI, 60, .inl c_firsts)), ((a9 5), .inl (cyI, 32, .inl c_holds)), ((a9 10), .inl (cyI, 60, .inl c_seconds)), ((a9 22), .inl (cyJ, 768, .inr (.inl c_tree)))] → va_S A s.heap H locs → lv_has ls 12 [(0, .ref (a9 0)), (1, .int x1), (2, .int x2), (3, .int x3)] → W p l e rmX9_findPair s m av below meth c H locs 0 0 Q (F0 m 126 ls [.int s1, .ref (a9 0)]) := by
    intro k12 hk12 x3 s1 v_isPair v_pair H locs ls hf hP hD hS hl
    unfold fX9_findPair_126 at hf
    obtain ⟨n126, hf⟩ := pg_some hf
    refine va_put (D := D) (ci := 9) (v := .int s1) (ty := .boolean) (C := RX9) (T := TX9) (N := 52) hx hb hL inlX9 tyX9 tyX9_ok nmX9 hown hK.1 hP hD hS 0 rfl rfl 39 (by decide) w1 (fun _ h9 => h9) rfl (by decide +kernel) (isB_n n126) (isB_f n126) (Nat.le_of_ble_eq_true rfl) dX9_findPair_126 (fun H locs hP hD hS => ?_)
    rw [fl9_s39] at hP hD
    have hP : va_P D vwCl [(a9 0, .inr (9, fl9 a9 (va_up (va_up (va_up i9 15 v_isPair) 14 v_pair) 15 s1) g9)), ((a9 9), .inl (cyI, 60, .inl c_firsts)), ((a9 5), .inl (cyI, 32, .inl c_holds)), ((a9 10), .inl (cyI, 60, .inl c_seconds)), ((a9 22), .inl (cyJ, 768, .inr (.inl c_tree)))] H := hP
    have hD : va_D A [(a9 0, .inr (9, fl9 a9 (va_up (va_up (va_up i9 15 v_isPair) 14 v_pair) 15 s1) g9)), ((a9 9), .inl (cyI, 60, .inl c_firsts)), ((a9 5), .inl (cyI, 32, .inl c_holds)), ((a9 10), .inl (cyI, 60, .inl c_seconds)), ((a9 22), .inl (cyJ, 768, .inr (.inl c_tree)))] := hD
    refine lv_aload_n hx hb dX9_findPair_129 rfl (lv_at hl 0 rfl) ?_
    refine lv_aload_n hx hb dX9_findPair_130 rfl (lv_at hl 0 rfl) ?_
    refine va_get (D := D) (ci := 9) (v := .int s1) (C := RX9) (T := TX9) (N := 52) hx hb hL inlX9 hown hK.1 hP 0 rfl rfl 39 (by decide) w1 (fun _ h9 => h9) rfl dX9_findPair_131 ?_
    refine lv_if_eq (tgt := 141) hx hb dX9_findPair_134 (by decide) (fun c134 => ?_) (fun c134 => ?_)
    · have hf := pif_t c134 hf
      refine lv_iconst (v := 0) hx hb dX9_findPair_141 (by decide) ?_
      exact hB142 k12 hk12 x3 0 s1 v_pair H locs ls hf hP hD hS (lv_sub hl [0, 1, 2, 3] rfl)
    · have hf := pif_f c134 hf
      refine lv_iload_n hx hb dX9_findPair_137 rfl (lv_at hl 3 rfl) ?_
      refine lv_goto (tgt := 142) hx hb dX9_findPair_138 (by decide) ?_
      exact hB142 k12 hk12 x3 x3 s1 v_pair H locs ls hf hP hD hS (lv_sub hl [0, 1, 2, 3] rfl)
  have hB125 : ∀ (k12 : Int32 → Int32 → Int32 → Option (Int32 × Int32)) (hk12 : ∀ (x3 : Int32) (v_isPair : Int32) (v_pair : Int32) (H : Heap) (locs : List Loc) (ls : Array Slot), k12 x3 v_isPair v_pair = some q → va_P D vwCl [(a9 0, .inr (9, fl9 a9 (va_up (va_up i9 15 v_isPair) 14 v_pair) g9)), ((a9 9), .inl (cyI, 60, .inl c_firsts)), ((a9 5), .inl (cyI, 32, .inl c_holds)), ((a9 10), .inl (cyI, 60, .inl c_seconds)), ((a9 22), .inl (cyJ, 768, .inr (.inl c_tree)))] H → va_D A [(a9 0, .inr (9, fl9 a9 (va_up (va_up i9 15 v_isPair) 14 v_pair) g9)), ((a9 9), .inl (cyI, 60, .inl c_firsts)), ((a9 5), .inl (cyI, 32, .inl c_holds)), ((a9 10), .inl (cyI, 60, .inl c_seconds)), ((a9 22), .inl (cyJ, 768, .inr (.inl c_tree)))] → va_S A s.heap H locs → lv_has ls 12 [(0, .ref (a9 0)), (1, .int x1), (2, .int x2), (3, .int x3)] → W p l e rmX9_findPair s m av below meth c H locs 0 0 Q (F0 m 12 ls [])), ∀ (x3 : Int32) (v_isPair : Int32) (v_pair : Int32) (H : Heap) (locs : List Loc) (ls : Array Slot), fX9_findPair_125 N c_firsts c_holds c_seconds c_tree x1 x2 k12 x3 v_isPair v_pair = some q → va_P D vwCl [(a9 0, .inr (9, fl9 a9 (va_up (va_up i9 15 v_isPair) 14 v_pair) g9)), ((a9 9), .inl (cyI, 60, .inl c_firsts)), ((a9 5), .inl (cyI, 32, .inl c_holds)), ((a9 10), .inl (cyI, 60, .inl c_seconds)), ((a9 22), .inl (cyJ, 768, .inr (.inl c_tree)))] H → va_D A [(a9 0, .inr (9, fl9 a9 (va_up (va_up i9 15 v_isPair) 14 v_pair) g9)), ((a9 9), .inl (cyI, 60, .inl c_firsts)), ((a9 5), .inl (cyI, 32, .inl c_holds)), ((a9 10), .inl (cyI, 60, .inl c_seconds)), ((a9 22), .inl (cyJ, 768, .inr (.inl c_tree)))] → va_S A s.heap H locs → lv_has ls 12 [(0, .ref (a9 0)), (1, .int x1), (2, .int x2), (3, .int x3)] → W p l e rmX9_findPair s m av below meth c H locs 0 0 Q (F0 m 125 ls [.ref (a9 0)]) := by
    intro k12 hk12 x3 v_isPair v_pair H locs ls hf hP hD hS hl
    unfold fX9_findPair_125 at hf
    refine lv_iconst (v := 0) hx hb dX9_findPair_125 (by decide) ?_
    exact hB126 k12 hk12 x3 0 v_isPair v_pair H locs ls hf hP hD hS (lv_sub hl [0, 1, 2, 3] rfl)
  have hB151 : ∀ (v_isPair : Int32) (v_pair : Int32) (H : Heap) (locs : List Loc) (ls : Array Slot), fX9_findPair_151 N c_firsts c_holds c_seconds c_tree x1 x2 v_isPair v_pair = some q → va_P D vwCl [(a9 0, .inr (9, fl9 a9 (va_up (va_up i9 15 v_isPair) 14 v_pair) g9)), ((a9 9), .inl (cyI, 60, .inl c_firsts)), ((a9 5), .inl (cyI, 32, .inl c_holds)), ((a9 10), .inl (cyI, 60, .inl c_seconds)), ((a9 22), .inl (cyJ, 768, .inr (.inl c_tree)))] H → va_D A [(a9 0, .inr (9, fl9 a9 (va_up (va_up i9 15 v_isPair) 14 v_pair) g9)), ((a9 9), .inl (cyI, 60, .inl c_firsts)), ((a9 5), .inl (cyI, 32, .inl c_holds)), ((a9 10), .inl (cyI, 60, .inl c_seconds)), ((a9 22), .inl (cyJ, 768, .inr (.inl c_tree)))] → va_S A s.heap H locs → lv_has ls 12 [] → W p l e rmX9_findPair s m av below meth c H locs 0 0 Q (F0 m 151 ls []) := by
    intro v_isPair v_pair H locs ls hf hP hD hS hl
    unfold fX9_findPair_151 at hf
    exact ret_v (q := q) (wp := fun q => [(a9 0, .inr (9, fl9 a9 (va_up (va_up i9 15 q.1) 14 q.2) g9)), ((a9 9), .inl (cyI, 60, .inl c_firsts)), ((a9 5), .inl (cyI, 32, .inl c_holds)), ((a9 10), .inl (cyI, 60, .inl c_seconds)), ((a9 22), .inl (cyJ, 768, .inr (.inl c_tree)))]) hQ hf hx hb hr hlocks hP hD hS dX9_findPair_151
  have hB12 : ∀ (n : Nat), ∀ (x3 : Int32) (v_isPair : Int32) (v_pair : Int32) (H : Heap) (locs : List Loc) (ls : Array Slot), fX9_findPair_12 N c_firsts c_holds c_seconds c_tree x1 x2 n x3 v_isPair v_pair = some q → va_P D vwCl [(a9 0, .inr (9, fl9 a9 (va_up (va_up i9 15 v_isPair) 14 v_pair) g9)), ((a9 9), .inl (cyI, 60, .inl c_firsts)), ((a9 5), .inl (cyI, 32, .inl c_holds)), ((a9 10), .inl (cyI, 60, .inl c_seconds)), ((a9 22), .inl (cyJ, 768, .inr (.inl c_tree)))] H → va_D A [(a9 0, .inr (9, fl9 a9 (va_up (va_up i9 15 v_isPair) 14 v_pair) g9)), ((a9 9), .inl (cyI, 60, .inl c_firsts)), ((a9 5), .inl (cyI, 32, .inl c_holds)), ((a9 10), .inl (cyI, 60, .inl c_seconds)), ((a9 22), .inl (cyJ, 768, .inr (.inl c_tree)))] → va_S A s.heap H locs → lv_has ls 12 [(0, .ref (a9 0)), (1, .int x1), (2, .int x2), (3, .int x3)] → W p l e rmX9_findPair s m av below meth c H locs 0 0 Q (F0 m 12 ls []) := by
    intro n
    induction n with
    | zero => intro x3 v_isPair v_pair H locs ls hf; exact absurd hf (by simp [fX9_findPair_12])
    | succ n hk12 =>
      intro x3 v_isPair v_pair H locs ls hf hP hD hS hl
      rw [fX9_findPair_12] at hf
      refine lv_iload_n hx hb dX9_findPair_12 rfl (lv_at hl 3 rfl) ?_
      refine lv_iconst (v := 4) hx hb dX9_findPair_13 (by decide) ?_
      refine lv_icmp_ge (tgt := 151) hx hb dX9_findPair_14 (by decide) (fun c14 => ?_) (fun c14 => ?_)
      · have hf := pif_t c14 hf
        exact hB151 v_isPair v_pair H locs ls hf hP hD hS (lv_sub hl [] rfl)
      · have hf := pif_f c14 hf
        refine lv_aload_n hx hb dX9_findPair_17 rfl (lv_at hl 0 rfl) ?_
        refine va_get (D := D) (ci := 9) (v := .int v_isPair) (C := RX9) (T := TX9) (N := 52) hx hb hL inlX9 hown hK.1 hP 0 rfl rfl 39 (by decide) w1 (fun _ h9 => h9) rfl dX9_findPair_18 ?_
        refine lv_if_ne (tgt := 151) hx hb dX9_findPair_21 (by decide) (fun c21 => ?_) (fun c21 => ?_)
        · have hf := pif_f c21 hf
          exact hB151 v_isPair v_pair H locs ls hf hP hD hS (lv_sub hl [] rfl)
        · have hf := pif_t c21 hf
          refine lv_aload_n hx hb dX9_findPair_24 rfl (lv_at hl 0 rfl) ?_
          refine lv_iload_n hx hb dX9_findPair_25 rfl (lv_at hl 1 rfl) ?_
          refine lv_aload_n hx hb dX9_findPair_26 rfl (lv_at hl 0 rfl) ?_
          refine va_get (D := D) (ci := 9) (v := .ref (a9 9)) (C := RX9) (T := TX9) (N := 52) hx hb hL inlX9 hown hK.1 hP 0 rfl rfl 19 (by decide) w2 (fun _ h9 => h9) rfl dX9_findPair_27 ?_
          refine lv_iload_n hx hb dX9_findPair_30 rfl (lv_at hl 2 rfl) ?_
          obtain ⟨h31, hf⟩ := pg_some hf
          refine va_iald hx hb hK.1 hP 1 0 rfl rfl h31 dX9_findPair_31 ?_
          refine lv_aload_n hx hb dX9_findPair_32 rfl (lv_at hl 0 rfl) ?_
          refine lv_iload_n hx hb dX9_findPair_33 rfl (lv_at hl 2 rfl) ?_
          refine lv_iload_n hx hb dX9_findPair_34 rfl (lv_at hl 3 rfl) ?_
          obtain ⟨q35, e35, hf⟩ := pb_some hf
          refine cc_i (wc := [(a9 0, .inr (9, fl9 a9 (va_up (va_up i9 15 v_isPair) 14 v_pair) g9)), ((a9 9), .inl (cyI, 60, .inl c_firsts)), ((a9 5), .inl (cyI, 32, .inl c_holds)), ((a9 10), .inl (cyI, 60, .inl c_seconds))]) (wr := [((a9 22), .inl (cyJ, 768, .inr (.inl c_tree)))]) (w1 := [(a9 0, .inr (9, fl9 a9 (va_up (va_up i9 15 v_isPair) 14 v_pair) g9)), ((a9 9), .inl (cyI, 60, .inl c_firsts)), ((a9 5), .inl (cyI, 32, .inl c_holds)), ((a9 10), .inl (cyI, 60, .inl c_seconds))]) (wn := [(a9 0, .inr (9, fl9 a9 (va_up (va_up i9 15 v_isPair) 14 v_pair) g9)), ((a9 9), .inl (cyI, 60, .inl c_firsts)), ((a9 5), .inl (cyI, 32, .inl c_holds)), ((a9 10), .inl (cyI, 60, .inl c_seconds)), ((a9 22), .inl (cyJ, 768, .inr (.inl c_tree)))]) hP hD hS hA [0, 1, 2, 3] [4] [1, 2, 3, 4, 0] rfl rfl rfl (by decide) rfl rfl (va_runV (C := RX9) (As := [.int x2, .int x3]) (rest := [.int (c_firsts x2.toNatClampNeg), .int x1, .ref (a9 0)]) ⟨hx, hb, hml, hown, hL⟩ (mX9_oddsBy l D cyI cyJ cyB cyS N H.size a9 (va_up (va_up i9 15 v_isPair) 14 v_pair) g9 c_firsts c_holds c_seconds x2 x3 q35 e35) (cwV 2 hL (gV (hR21 16 rfl) (hR21 17 rfl) (hR21 18 rfl) (hR1 5 rfl) (hR21 19 rfl)) rfl rfl rfl (by decide +kernel) ⟨Nat.le_of_ble_eq_true rfl, Nat.le_of_ble_eq_true rfl⟩) (PP_preV (ci := 9) (q0 := 0) hP hD hK [0, 1, 2, 3] rfl rfl rfl rfl) rfl rfl hl.1 rfl (lv_room (Nat.le_of_ble_eq_true rfl)) dX9_findPair_35 ⟨Nat.le_of_ble_eq_true rfl, Nat.le_of_ble_eq_true rfl⟩) (fun H locs hP hD hS => ?_)
          obtain ⟨q38, e38, hf⟩ := pb_some hf
          refine cc_l (wc := [(a9 0, .inr (9, fl9 a9 (va_up (va_up i9 15 v_isPair) 14 v_pair) g9)), ((a9 22), .inl (cyJ, 768, .inr (.inl c_tree)))]) (wr := [((a9 9), .inl (cyI, 60, .inl c_firsts)), ((a9 5), .inl (cyI, 32, .inl c_holds)), ((a9 10), .inl (cyI, 60, .inl c_seconds))]) (w1 := [(a9 0, .inr (9, fl9 a9 (va_up (va_up i9 15 v_isPair) 14 v_pair) g9)), ((a9 22), .inl (cyJ, 768, .inr (.inl c_tree)))]) (wn := [(a9 0, .inr (9, fl9 a9 (va_up (va_up i9 15 v_isPair) 14 v_pair) g9)), ((a9 9), .inl (cyI, 60, .inl c_firsts)), ((a9 5), .inl (cyI, 32, .inl c_holds)), ((a9 10), .inl (cyI, 60, .inl c_seconds)), ((a9 22), .inl (cyJ, 768, .inr (.inl c_tree)))]) hP hD hS hA [0, 4] [1, 2, 3] [3, 0, 1, 2, 4] rfl rfl rfl (by decide) rfl rfl (va_runV (C := RX9) (As := [.int x1, .int (c_firsts x2.toNatClampNeg), .int q35]) (rest := []) ⟨hx, hb, hml, hown, hL⟩ (mX9_mean l D cyI cyJ cyB cyS N H.size a9 (va_up (va_up i9 15 v_isPair) 14 v_pair) g9 c_tree x1 (c_firsts x2.toNatClampNeg) q35 q38 e38) (cwV 3 hL (gV (hR39 18 rfl) (hR39 19 rfl) (hR39 20 rfl) (hR1 5 rfl) (hR39 21 rfl)) rfl rfl rfl (by decide +kernel) ⟨Nat.le_of_ble_eq_true rfl, Nat.le_of_ble_eq_true rfl⟩) (PP_preV (ci := 9) (q0 := 0) hP hD hK [0, 4] rfl rfl rfl rfl) rfl rfl hl.1 rfl (lv_room (Nat.le_of_ble_eq_true rfl)) dX9_findPair_38 ⟨Nat.le_of_ble_eq_true rfl, Nat.le_of_ble_eq_true rfl⟩) (fun H locs hP hD hS => ?_)
          refine lv_lstore (lv' := [(4, .long q38), (0, .ref (a9 0)), (1, .int x1), (2, .int x2), (3, .int x3)]) hx hb dX9_findPair_41 hl (by decide) rfl (fun ls hl => ?_)
          refine lv_aload_n hx hb dX9_findPair_43 rfl (lv_at hl 1 rfl) ?_
          refine lv_iload_n hx hb dX9_findPair_44 rfl (lv_at hl 2 rfl) ?_
          refine lv_aload_n hx hb dX9_findPair_45 rfl (lv_at hl 1 rfl) ?_
          refine va_get (D := D) (ci := 9) (v := .ref (a9 9)) (C := RX9) (T := TX9) (N := 52) hx hb hL inlX9 hown hK.1 hP 0 rfl rfl 19 (by decide) w2 (fun _ h9 => h9) rfl dX9_findPair_46 ?_
          refine lv_iload_n hx hb dX9_findPair_49 rfl (lv_at hl 3 rfl) ?_
          obtain ⟨h50, hf⟩ := pg_some hf
          refine va_iald hx hb hK.1 hP 1 0 rfl rfl h50 dX9_findPair_50 ?_
          refine lv_aload_n hx hb dX9_findPair_51 rfl (lv_at hl 1 rfl) ?_
          refine lv_iload_n hx hb dX9_findPair_52 rfl (lv_at hl 3 rfl) ?_
          refine lv_iload_n hx hb dX9_findPair_53 rfl (lv_at hl 4 rfl) ?_
          refine lv_iconst (v := 2) hx hb dX9_findPair_54 (by decide) ?_
          refine lv_ixor hx hb dX9_findPair_55 ?_
          obtain ⟨q56, e56, hf⟩ := pb_some hf
          refine cc_i (wc := [(a9 0, .inr (9, fl9 a9 (va_up (va_up i9 15 v_isPair) 14 v_pair) g9)), ((a9 9), .inl (cyI, 60, .inl c_firsts)), ((a9 5), .inl (cyI, 32, .inl c_holds)), ((a9 10), .inl (cyI, 60, .inl c_seconds))]) (wr := [((a9 22), .inl (cyJ, 768, .inr (.inl c_tree)))]) (w1 := [(a9 0, .inr (9, fl9 a9 (va_up (va_up i9 15 v_isPair) 14 v_pair) g9)), ((a9 9), .inl (cyI, 60, .inl c_firsts)), ((a9 5), .inl (cyI, 32, .inl c_holds)), ((a9 10), .inl (cyI, 60, .inl c_seconds))]) (wn := [(a9 0, .inr (9, fl9 a9 (va_up (va_up i9 15 v_isPair) 14 v_pair) g9)), ((a9 9), .inl (cyI, 60, .inl c_firsts)), ((a9 5), .inl (cyI, 32, .inl c_holds)), ((a9 10), .inl (cyI, 60, .inl c_seconds)), ((a9 22), .inl (cyJ, 768, .inr (.inl c_tree)))]) hP hD hS hA [0, 1, 2, 3] [4] [1, 2, 3, 4, 0] rfl rfl rfl (by decide) rfl rfl (va_runV (C := RX9) (As := [.int x2, .int (x3 ^^^ 2)]) (rest := [.int (c_firsts x2.toNatClampNeg), .int x1, .ref (a9 0)]) ⟨hx, hb, hml, hown, hL⟩ (mX9_oddsBy l D cyI cyJ cyB cyS N H.size a9 (va_up (va_up i9 15 v_isPair) 14 v_pair) g9 c_firsts c_holds c_seconds x2 (x3 ^^^ 2) q56 e56) (cwV 2 hL (gV (hR21 16 rfl) (hR21 17 rfl) (hR21 18 rfl) (hR1 5 rfl) (hR21 19 rfl)) rfl rfl rfl (by decide +kernel) ⟨Nat.le_of_ble_eq_true rfl, Nat.le_of_ble_eq_true rfl⟩) (PP_preV (ci := 9) (q0 := 0) hP hD hK [0, 1, 2, 3] rfl rfl rfl rfl) rfl rfl hl.1 rfl (lv_room (Nat.le_of_ble_eq_true rfl)) dX9_findPair_56 ⟨Nat.le_of_ble_eq_true rfl, Nat.le_of_ble_eq_true rfl⟩) (fun H locs hP hD hS => ?_)
          obtain ⟨q59, e59, hf⟩ := pb_some hf
          refine cc_l (wc := [(a9 0, .inr (9, fl9 a9 (va_up (va_up i9 15 v_isPair) 14 v_pair) g9)), ((a9 22), .inl (cyJ, 768, .inr (.inl c_tree)))]) (wr := [((a9 9), .inl (cyI, 60, .inl c_firsts)), ((a9 5), .inl (cyI, 32, .inl c_holds)), ((a9 10), .inl (cyI, 60, .inl c_seconds))]) (w1 := [(a9 0, .inr (9, fl9 a9 (va_up (va_up i9 15 v_isPair) 14 v_pair) g9)), ((a9 22), .inl (cyJ, 768, .inr (.inl c_tree)))]) (wn := [(a9 0, .inr (9, fl9 a9 (va_up (va_up i9 15 v_isPair) 14 v_pair) g9)), ((a9 9), .inl (cyI, 60, .inl c_firsts)), ((a9 5), .inl (cyI, 32, .inl c_holds)), ((a9 10), .inl (cyI, 60, .inl c_seconds)), ((a9 22), .inl (cyJ, 768, .inr (.inl c_tree)))]) hP hD hS hA [0, 4] [1, 2, 3] [3, 0, 1, 2, 4] rfl rfl rfl (by decide) rfl rfl (va_runV (C := RX9) (As := [.int x1, .int (c_firsts x2.toNatClampNeg), .int q56]) (rest := []) ⟨hx, hb, hml, hown, hL⟩ (mX9_mean l D cyI cyJ cyB cyS N H.size a9 (va_up (va_up i9 15 v_isPair) 14 v_pair) g9 c_tree x1 (c_firsts x2.toNatClampNeg) q56 q59 e59) (cwV 3 hL (gV (hR39 18 rfl) (hR39 19 rfl) (hR39 20 rfl) (hR1 5 rfl) (hR39 21 rfl)) rfl rfl rfl (by decide +kernel) ⟨Nat.le_of_ble_eq_true rfl, Nat.le_of_ble_eq_true rfl⟩) (PP_preV (ci := 9) (q0 := 0) hP hD hK [0, 4] rfl rfl rfl rfl) rfl rfl hl.1 rfl (lv_room (Nat.le_of_ble_eq_true rfl)) dX9_findPair_59 ⟨Nat.le_of_ble_eq_true rfl, Nat.le_of_ble_eq_true rfl⟩) (fun H locs hP hD hS => ?_)
          refine lv_lstore (lv' := [(6, .long q59), (4, .long q38), (0, .ref (a9 0)), (1, .int x1), (2, .int x2), (3, .int x3)]) hx hb dX9_findPair_62 hl (by decide) rfl (fun ls hl => ?_)
          refine lv_aload_n hx hb dX9_findPair_64 rfl (lv_at hl 2 rfl) ?_
          refine lv_iload_n hx hb dX9_findPair_65 rfl (lv_at hl 3 rfl) ?_
          refine lv_aload_n hx hb dX9_findPair_66 rfl (lv_at hl 2 rfl) ?_
          refine va_get (D := D) (ci := 9) (v := .ref (a9 10)) (C := RX9) (T := TX9) (N := 52) hx hb hL inlX9 hown hK.1 hP 0 rfl rfl 20 (by decide) w3 (fun _ h9 => h9) rfl dX9_findPair_67 ?_
          refine lv_iload_n hx hb dX9_findPair_70 rfl (lv_at hl 4 rfl) ?_
          obtain ⟨h71, hf⟩ := pg_some hf
          refine va_iald hx hb hK.1 hP 3 0 rfl rfl h71 dX9_findPair_71 ?_
          refine lv_aload_n hx hb dX9_findPair_72 rfl (lv_at hl 2 rfl) ?_
          refine lv_iload_n hx hb dX9_findPair_73 rfl (lv_at hl 4 rfl) ?_
          refine lv_iload_n hx hb dX9_findPair_74 rfl (lv_at hl 5 rfl) ?_
          obtain ⟨q75, e75, hf⟩ := pb_some hf
          refine cc_i (wc := [(a9 0, .inr (9, fl9 a9 (va_up (va_up i9 15 v_isPair) 14 v_pair) g9)), ((a9 9), .inl (cyI, 60, .inl c_firsts)), ((a9 5), .inl (cyI, 32, .inl c_holds)), ((a9 10), .inl (cyI, 60, .inl c_seconds))]) (wr := [((a9 22), .inl (cyJ, 768, .inr (.inl c_tree)))]) (w1 := [(a9 0, .inr (9, fl9 a9 (va_up (va_up i9 15 v_isPair) 14 v_pair) g9)), ((a9 9), .inl (cyI, 60, .inl c_firsts)), ((a9 5), .inl (cyI, 32, .inl c_holds)), ((a9 10), .inl (cyI, 60, .inl c_seconds))]) (wn := [(a9 0, .inr (9, fl9 a9 (va_up (va_up i9 15 v_isPair) 14 v_pair) g9)), ((a9 9), .inl (cyI, 60, .inl c_firsts)), ((a9 5), .inl (cyI, 32, .inl c_holds)), ((a9 10), .inl (cyI, 60, .inl c_seconds)), ((a9 22), .inl (cyJ, 768, .inr (.inl c_tree)))]) hP hD hS hA [0, 1, 2, 3] [4] [1, 2, 3, 4, 0] rfl rfl rfl (by decide) rfl rfl (va_runV (C := RX9) (As := [.int x2, .int x3]) (rest := [.int (c_seconds x2.toNatClampNeg), .int x1, .ref (a9 0)]) ⟨hx, hb, hml, hown, hL⟩ (mX9_oddsBy l D cyI cyJ cyB cyS N H.size a9 (va_up (va_up i9 15 v_isPair) 14 v_pair) g9 c_firsts c_holds c_seconds x2 x3 q75 e75) (cwV 2 hL (gV (hR21 16 rfl) (hR21 17 rfl) (hR21 18 rfl) (hR1 5 rfl) (hR21 19 rfl)) rfl rfl rfl (by decide +kernel) ⟨Nat.le_of_ble_eq_true rfl, Nat.le_of_ble_eq_true rfl⟩) (PP_preV (ci := 9) (q0 := 0) hP hD hK [0, 1, 2, 3] rfl rfl rfl rfl) rfl rfl hl.1 rfl (lv_room (Nat.le_of_ble_eq_true rfl)) dX9_findPair_75 ⟨Nat.le_of_ble_eq_true rfl, Nat.le_of_ble_eq_true rfl⟩) (fun H locs hP hD hS => ?_)
          obtain ⟨q78, e78, hf⟩ := pb_some hf
          refine cc_l (wc := [(a9 0, .inr (9, fl9 a9 (va_up (va_up i9 15 v_isPair) 14 v_pair) g9)), ((a9 22), .inl (cyJ, 768, .inr (.inl c_tree)))]) (wr := [((a9 9), .inl (cyI, 60, .inl c_firsts)), ((a9 5), .inl (cyI, 32, .inl c_holds)), ((a9 10), .inl (cyI, 60, .inl c_seconds))]) (w1 := [(a9 0, .inr (9, fl9 a9 (va_up (va_up i9 15 v_isPair) 14 v_pair) g9)), ((a9 22), .inl (cyJ, 768, .inr (.inl c_tree)))]) (wn := [(a9 0, .inr (9, fl9 a9 (va_up (va_up i9 15 v_isPair) 14 v_pair) g9)), ((a9 9), .inl (cyI, 60, .inl c_firsts)), ((a9 5), .inl (cyI, 32, .inl c_holds)), ((a9 10), .inl (cyI, 60, .inl c_seconds)), ((a9 22), .inl (cyJ, 768, .inr (.inl c_tree)))]) hP hD hS hA [0, 4] [1, 2, 3] [3, 0, 1, 2, 4] rfl rfl rfl (by decide) rfl rfl (va_runV (C := RX9) (As := [.int x1, .int (c_seconds x2.toNatClampNeg), .int q75]) (rest := []) ⟨hx, hb, hml, hown, hL⟩ (mX9_mean l D cyI cyJ cyB cyS N H.size a9 (va_up (va_up i9 15 v_isPair) 14 v_pair) g9 c_tree x1 (c_seconds x2.toNatClampNeg) q75 q78 e78) (cwV 3 hL (gV (hR39 18 rfl) (hR39 19 rfl) (hR39 20 rfl) (hR1 5 rfl) (hR39 21 rfl)) rfl rfl rfl (by decide +kernel) ⟨Nat.le_of_ble_eq_true rfl, Nat.le_of_ble_eq_true rfl⟩) (PP_preV (ci := 9) (q0 := 0) hP hD hK [0, 4] rfl rfl rfl rfl) rfl rfl hl.1 rfl (lv_room (Nat.le_of_ble_eq_true rfl)) dX9_findPair_78 ⟨Nat.le_of_ble_eq_true rfl, Nat.le_of_ble_eq_true rfl⟩) (fun H locs hP hD hS => ?_)
          refine lv_lstore (lv' := [(8, .long q78), (6, .long q59), (4, .long q38), (0, .ref (a9 0)), (1, .int x1), (2, .int x2), (3, .int x3)]) hx hb dX9_findPair_81 hl (by decide) rfl (fun ls hl => ?_)
          refine lv_aload_n hx hb dX9_findPair_83 rfl (lv_at hl 3 rfl) ?_
          refine lv_iload_n hx hb dX9_findPair_84 rfl (lv_at hl 4 rfl) ?_
          refine lv_aload_n hx hb dX9_findPair_85 rfl (lv_at hl 3 rfl) ?_
          refine va_get (D := D) (ci := 9) (v := .ref (a9 10)) (C := RX9) (T := TX9) (N := 52) hx hb hL inlX9 hown hK.1 hP 0 rfl rfl 20 (by decide) w3 (fun _ h9 => h9) rfl dX9_findPair_86 ?_
          refine lv_iload_n hx hb dX9_findPair_89 rfl (lv_at hl 5 rfl) ?_
          obtain ⟨h90, hf⟩ := pg_some hf
          refine va_iald hx hb hK.1 hP 3 0 rfl rfl h90 dX9_findPair_90 ?_
          refine lv_aload_n hx hb dX9_findPair_91 rfl (lv_at hl 3 rfl) ?_
          refine lv_iload_n hx hb dX9_findPair_92 rfl (lv_at hl 5 rfl) ?_
          refine lv_iload_n hx hb dX9_findPair_93 rfl (lv_at hl 6 rfl) ?_
          refine lv_iconst (v := 1) hx hb dX9_findPair_94 (by decide) ?_
          refine lv_ixor hx hb dX9_findPair_95 ?_
          obtain ⟨q96, e96, hf⟩ := pb_some hf
          refine cc_i (wc := [(a9 0, .inr (9, fl9 a9 (va_up (va_up i9 15 v_isPair) 14 v_pair) g9)), ((a9 9), .inl (cyI, 60, .inl c_firsts)), ((a9 5), .inl (cyI, 32, .inl c_holds)), ((a9 10), .inl (cyI, 60, .inl c_seconds))]) (wr := [((a9 22), .inl (cyJ, 768, .inr (.inl c_tree)))]) (w1 := [(a9 0, .inr (9, fl9 a9 (va_up (va_up i9 15 v_isPair) 14 v_pair) g9)), ((a9 9), .inl (cyI, 60, .inl c_firsts)), ((a9 5), .inl (cyI, 32, .inl c_holds)), ((a9 10), .inl (cyI, 60, .inl c_seconds))]) (wn := [(a9 0, .inr (9, fl9 a9 (va_up (va_up i9 15 v_isPair) 14 v_pair) g9)), ((a9 9), .inl (cyI, 60, .inl c_firsts)), ((a9 5), .inl (cyI, 32, .inl c_holds)), ((a9 10), .inl (cyI, 60, .inl c_seconds)), ((a9 22), .inl (cyJ, 768, .inr (.inl c_tree)))]) hP hD hS hA [0, 1, 2, 3] [4] [1, 2, 3, 4, 0] rfl rfl rfl (by decide) rfl rfl (va_runV (C := RX9) (As := [.int x2, .int (x3 ^^^ 1)]) (rest := [.int (c_seconds x2.toNatClampNeg), .int x1, .ref (a9 0)]) ⟨hx, hb, hml, hown, hL⟩ (mX9_oddsBy l D cyI cyJ cyB cyS N H.size a9 (va_up (va_up i9 15 v_isPair) 14 v_pair) g9 c_firsts c_holds c_seconds x2 (x3 ^^^ 1) q96 e96) (cwV 2 hL (gV (hR21 16 rfl) (hR21 17 rfl) (hR21 18 rfl) (hR1 5 rfl) (hR21 19 rfl)) rfl rfl rfl (by decide +kernel) ⟨Nat.le_of_ble_eq_true rfl, Nat.le_of_ble_eq_true rfl⟩) (PP_preV (ci := 9) (q0 := 0) hP hD hK [0, 1, 2, 3] rfl rfl rfl rfl) rfl rfl hl.1 rfl (lv_room (Nat.le_of_ble_eq_true rfl)) dX9_findPair_96 ⟨Nat.le_of_ble_eq_true rfl, Nat.le_of_ble_eq_true rfl⟩) (fun H locs hP hD hS => ?_)
          obtain ⟨q99, e99, hf⟩ := pb_some hf
          refine cc_l (wc := [(a9 0, .inr (9, fl9 a9 (va_up (va_up i9 15 v_isPair) 14 v_pair) g9)), ((a9 22), .inl (cyJ, 768, .inr (.inl c_tree)))]) (wr := [((a9 9), .inl (cyI, 60, .inl c_firsts)), ((a9 5), .inl (cyI, 32, .inl c_holds)), ((a9 10), .inl (cyI, 60, .inl c_seconds))]) (w1 := [(a9 0, .inr (9, fl9 a9 (va_up (va_up i9 15 v_isPair) 14 v_pair) g9)), ((a9 22), .inl (cyJ, 768, .inr (.inl c_tree)))]) (wn := [(a9 0, .inr (9, fl9 a9 (va_up (va_up i9 15 v_isPair) 14 v_pair) g9)), ((a9 9), .inl (cyI, 60, .inl c_firsts)), ((a9 5), .inl (cyI, 32, .inl c_holds)), ((a9 10), .inl (cyI, 60, .inl c_seconds)), ((a9 22), .inl (cyJ, 768, .inr (.inl c_tree)))]) hP hD hS hA [0, 4] [1, 2, 3] [3, 0, 1, 2, 4] rfl rfl rfl (by decide) rfl rfl (va_runV (C := RX9) (As := [.int x1, .int (c_seconds x2.toNatClampNeg), .int q96]) (rest := []) ⟨hx, hb, hml, hown, hL⟩ (mX9_mean l D cyI cyJ cyB cyS N H.size a9 (va_up (va_up i9 15 v_isPair) 14 v_pair) g9 c_tree x1 (c_seconds x2.toNatClampNeg) q96 q99 e99) (cwV 3 hL (gV (hR39 18 rfl) (hR39 19 rfl) (hR39 20 rfl) (hR1 5 rfl) (hR39 21 rfl)) rfl rfl rfl (by decide +kernel) ⟨Nat.le_of_ble_eq_true rfl, Nat.le_of_ble_eq_true rfl⟩) (PP_preV (ci := 9) (q0 := 0) hP hD hK [0, 4] rfl rfl rfl rfl) rfl rfl hl.1 rfl (lv_room (Nat.le_of_ble_eq_true rfl)) dX9_findPair_99 ⟨Nat.le_of_ble_eq_true rfl, Nat.le_of_ble_eq_true rfl⟩) (fun H locs hP hD hS => ?_)
          refine lv_lstore (lv' := [(10, .long q99), (8, .long q78), (6, .long q59), (4, .long q38), (0, .ref (a9 0)), (1, .int x1), (2, .int x2), (3, .int x3)]) hx hb dX9_findPair_102 hl (by decide) rfl (fun ls hl => ?_)
          refine lv_aload_n hx hb dX9_findPair_104 rfl (lv_at hl 4 rfl) ?_
          refine lv_lload hx hb dX9_findPair_105 (lv_at hl 2 rfl) ?_
          refine lv_lload hx hb dX9_findPair_107 (lv_at hl 3 rfl) ?_
          refine W.lcmp hx hb dX9_findPair_109 ?_
          refine lv_if_gt (tgt := 125) hx hb dX9_findPair_110 (by decide) (fun c110 => ?_) (fun c110 => ?_)
          · have hf := pif_t c110 hf
            exact hB125 (fX9_findPair_12 N c_firsts c_holds c_seconds c_tree x1 x2 n) hk12 x3 v_isPair v_pair H locs ls hf hP hD hS (lv_sub hl [4, 5, 6, 7] rfl)
          · have hf := pif_f c110 hf
            refine lv_lload hx hb dX9_findPair_113 (lv_at hl 0 rfl) ?_
            refine lv_lload hx hb dX9_findPair_115 (lv_at hl 1 rfl) ?_
            refine W.lcmp hx hb dX9_findPair_117 ?_
            refine lv_if_gt (tgt := 125) hx hb dX9_findPair_118 (by decide) (fun c118 => ?_) (fun c118 => ?_)
            · have hf := pif_t c118 hf
              exact hB125 (fX9_findPair_12 N c_firsts c_holds c_seconds c_tree x1 x2 n) hk12 x3 v_isPair v_pair H locs ls hf hP hD hS (lv_sub hl [4, 5, 6, 7] rfl)
            · have hf := pif_f c118 hf
              refine lv_iconst (v := 1) hx hb dX9_findPair_121 (by decide) ?_
              refine lv_goto (tgt := 126) hx hb dX9_findPair_122 (by decide) ?_
              exact hB126 (fX9_findPair_12 N c_firsts c_holds c_seconds c_tree x1 x2 n) hk12 x3 1 v_isPair v_pair H locs ls hf hP hD hS (lv_sub hl [4, 5, 6, 7] rfl)
  unfold fX9_findPair at hf
  obtain ⟨H, hH⟩ : ∃ H : Heap, H = s.heap := ⟨_, rfl⟩
  obtain ⟨locs, hlo⟩ : ∃ locs : List Loc, locs = [] := ⟨_, rfl⟩
  have hP : va_P D vwCl [(a9 0, .inr (9, fl9 a9 i9 g9)), ((a9 9), .inl (cyI, 60, .inl c_firsts)), ((a9 5), .inl (cyI, 32, .inl c_holds)), ((a9 10), .inl (cyI, 60, .inl c_seconds)), ((a9 22), .inl (cyJ, 768, .inr (.inl c_tree)))] H := by rw [hH]; exact hP
  have hS : va_S A s.heap H locs := by rw [hH, hlo]; exact hS
  suffices hw : W p l e rmX9_findPair s m av below meth c H locs 0 0 Q (F0 m 0 ls []) by rw [hH, hlo] at hw; exact hw
  refine lv_aload_n hx hb dX9_findPair_0 rfl (lv_at hl 0 rfl) ?_
  refine lv_iconst (v := 0) hx hb dX9_findPair_1 (by decide) ?_
  refine va_put (D := D) (ci := 9) (v := .int 0) (ty := .boolean) (C := RX9) (T := TX9) (N := 52) hx hb hL inlX9 tyX9 tyX9_ok nmX9 hown hK.1 hP hD hS 0 rfl rfl 39 (by decide) w1 (fun _ h9 => h9) rfl (by decide +kernel) rfl rfl (Nat.le_of_ble_eq_true rfl) dX9_findPair_2 (fun H locs hP hD hS => ?_)
  rw [fl9_s39] at hP hD
  have hP : va_P D vwCl [(a9 0, .inr (9, fl9 a9 (va_up i9 15 0) g9)), ((a9 9), .inl (cyI, 60, .inl c_firsts)), ((a9 5), .inl (cyI, 32, .inl c_holds)), ((a9 10), .inl (cyI, 60, .inl c_seconds)), ((a9 22), .inl (cyJ, 768, .inr (.inl c_tree)))] H := hP
  have hD : va_D A [(a9 0, .inr (9, fl9 a9 (va_up i9 15 0) g9)), ((a9 9), .inl (cyI, 60, .inl c_firsts)), ((a9 5), .inl (cyI, 32, .inl c_holds)), ((a9 10), .inl (cyI, 60, .inl c_seconds)), ((a9 22), .inl (cyJ, 768, .inr (.inl c_tree)))] := hD
  refine lv_aload_n hx hb dX9_findPair_5 rfl (lv_at hl 0 rfl) ?_
  refine lv_iconst (v := 0) hx hb dX9_findPair_6 (by decide) ?_
  refine va_put (D := D) (ci := 9) (v := .int 0) (ty := .int) (C := RX9) (T := TX9) (N := 52) hx hb hL inlX9 tyX9 tyX9_ok nmX9 hown hK.1 hP hD hS 0 rfl rfl 38 (by decide) w0 (fun _ h9 => h9) rfl (by decide +kernel) rfl rfl (Nat.le_of_ble_eq_true rfl) dX9_findPair_7 (fun H locs hP hD hS => ?_)
  rw [fl9_s38] at hP hD
  have hP : va_P D vwCl [(a9 0, .inr (9, fl9 a9 (va_up (va_up i9 15 0) 14 0) g9)), ((a9 9), .inl (cyI, 60, .inl c_firsts)), ((a9 5), .inl (cyI, 32, .inl c_holds)), ((a9 10), .inl (cyI, 60, .inl c_seconds)), ((a9 22), .inl (cyJ, 768, .inr (.inl c_tree)))] H := hP
  have hD : va_D A [(a9 0, .inr (9, fl9 a9 (va_up (va_up i9 15 0) 14 0) g9)), ((a9 9), .inl (cyI, 60, .inl c_firsts)), ((a9 5), .inl (cyI, 32, .inl c_holds)), ((a9 10), .inl (cyI, 60, .inl c_seconds)), ((a9 22), .inl (cyJ, 768, .inr (.inl c_tree)))] := hD
  refine lv_iconst (v := 0) hx hb dX9_findPair_10 (by decide) ?_
  refine lv_istore_n (lv' := [(3, .int 0), (0, .ref (a9 0)), (1, .int x1), (2, .int x2)]) hx hb dX9_findPair_11 rfl hl (by decide) rfl (fun ls hl => ?_)
  exact hB12 N 0 0 0 H locs ls hf hP hD hS (lv_sub hl [1, 2, 3, 0] rfl)
abbrev rmX9_lookAt : Room := { frames := 0, cells := 0, slots := 0, locals := 0 }
set_option maxHeartbeats 40000000 in
set_option maxRecDepth 100000 in
theorem mX9_lookAt (l : Launch) (D : va_G) (cyI cyJ cyB cyS : ClassId) (N : Nat) (sz : Nat) (a9 : Nat → Nat) (i9 : Nat → Int32) (g9 : Nat → Int64) (c_firsts : Nat → Int32) (c_seconds : Nat → Int32) (c_tree : Nat → Int64) (x1 : Int32) (x2 : Int32) (q : Int32 × Int32 × Int32) (hf : fX9_lookAt N (i9 16) (i9 18) (i9 17) c_firsts c_seconds c_tree x1 x2 = some q) : Met l yX9_lookAt (wS yX9_lookAt cX9_lookAt 6 none) rmX9_lookAt (va_Pc [.ref (a9 0), .int x1, .int x2] (PP D cyI cyJ cyB cyS [(a9 0, .inr (9, fl9 a9 i9 g9)), ((a9 9), .inl (cyI, 60, .inl c_firsts)), ((a9 10), .inl (cyI, 60, .inl c_seconds)), ((a9 22), .inl (cyJ, 768, .inr (.inl c_tree)))] sz)) (QV D [(a9 0, .inr (9, fl9 a9 (va_up (va_up (va_up i9 16 q.1) 18 q.2.1) 17 q.2.2) g9)), ((a9 9), .inl (cyI, 60, .inl c_firsts)), ((a9 10), .inl (cyI, 60, .inl c_seconds)), ((a9 22), .inl (cyJ, 768, .inr (.inl c_tree)))] (va_A [(a9 0, .inr (9, fl9 a9 i9 g9)), ((a9 9), .inl (cyI, 60, .inl c_firsts)), ((a9 10), .inl (cyI, 60, .inl c_seconds)), ((a9 22), .inl (cyJ, 768, .inr (.inl c_tree)))] sz)) 0 0 (va_A [(a9 0, .inr (9, fl9 a9 i9 g9)), ((a9 9), .inl (cyI, 60, .inl c_firsts)), ((a9 10), .inl (cyI, 60, .inl c_seconds)), ((a9 22), .inl (cyJ, 768, .inr (.inl c_tree)))] sz) := by
  refine Met.ofW (cc := cX9_lookAt) (maxL := 6) (ret := none) (by decide) rfl ?_
  intro p e s m args below meth c s₁ B hml hv
  obtain ⟨rfl, hsz, hP, hK, hD0⟩ := hv
  have hx := B.exec
  have hb := B.bytes
  have hr := B.returns
  have hts := atoms_spec (ws := (wS yX9_lookAt cX9_lookAt 6 none)) B.pre
  have hown : s.vm.findClass RX9 = some m.cls := findClass_of_methodNamed B.named
  have hlocks := B.notSynchronized
  subst hsz
  have hD := hD0.self (sz := s.heap.size)
  refine w_nameQ (fun Q hQ => ?_)
  have hl := lv_entry ([.ref (a9 0), .int x1, .int x2] : List Value) (n := 6) (Nat.le_of_ble_eq_true rfl)
  rw [lg_entry_eq]
  generalize (lg_sl ([.ref (a9 0), .int x1, .int x2] : List Value) ++ List.replicate (6 - (lg_sl ([.ref (a9 0), .int x1, .int x2] : List Value)).length) Slot.unset).toArray = ls at hl ⊢
  have hl : lv_has ls 6 [(0, .ref (a9 0)), (1, .int x1), (2, .int x2)] := hl
  generalize hAe : va_A [(a9 0, .inr (9, fl9 a9 i9 g9)), ((a9 9), .inl (cyI, 60, .inl c_firsts)), ((a9 10), .inl (cyI, 60, .inl c_seconds)), ((a9 22), .inl (cyJ, 768, .inr (.inl c_tree)))] s.heap.size = A at hD hQ
  have hA : ∀ q : Nat, s.heap.size ≤ q → A q := fun q h => by rw [← hAe]; exact Or.inr h
  have hS : va_S A s.heap s.heap [] := va_S.rf
  generalize ([.ref (a9 0), .int x1, .int x2] : List Value).toArray = av at hts hQ ⊢
  have hL : ∀ w ∈ wsL_law, w.before av s = true := fun w h => hts w (List.mem_cons_of_mem _ h)
  have w0 := hL (.fieldLink RX9 311 "LosingLeagueModel" "wantedFirst" "I") (hR40 4 rfl)
  have w1 := hL (.fieldLink RX9 308 "LosingLeagueModel" "wantedMany" "I") (hR40 3 rfl)
  have w2 := hL (.fieldLink RX9 73 "LosingLeagueModel" "tree" "[J") (hR7 1 rfl)
  have w3 := hL (.fieldLink RX9 305 "LosingLeagueModel" "looked" "I") (hR40 2 rfl)
  have w4 := hL (.fieldLink RX9 34 "LosingLeagueModel" "firsts" "[I") (hR6 12 rfl)
  have w5 := hL (.fieldLink RX9 37 "LosingLeagueModel" "seconds" "[I") (hR6 13 rfl)
  have hB139 : ∀ (s1 : Int32) (v_looked : Int32) (v_wantedFirst : Int32) (v_wantedMany : Int32) (H : Heap) (locs : List Loc) (ls : Array Slot), fX9_lookAt_139 N c_firsts c_seconds c_tree x1 x2 s1 v_looked v_wantedFirst v_wantedMany = some q → va_P D vwCl [(a9 0, .inr (9, fl9 a9 (va_up (va_up (va_up i9 16 v_looked) 18 v_wantedFirst) 17 v_wantedMany) g9)), ((a9 9), .inl (cyI, 60, .inl c_firsts)), ((a9 10), .inl (cyI, 60, .inl c_seconds)), ((a9 22), .inl (cyJ, 768, .inr (.inl c_tree)))] H → va_D A [(a9 0, .inr (9, fl9 a9 (va_up (va_up (va_up i9 16 v_looked) 18 v_wantedFirst) 17 v_wantedMany) g9)), ((a9 9), .inl (cyI, 60, .inl c_firsts)), ((a9 10), .inl (cyI, 60, .inl c_seconds)), ((a9 22), .inl (cyJ, 768, .inr (.inl c_tree)))] → va_S A s.heap H locs → lv_has ls 6 [] → W p l e rmX9_lookAt s m av below meth c H locs 0 0 Q (F0 m 139 ls [.int s1, .ref (a9 0)]) := by
    intro s1 v_looked v_wantedFirst v_wantedMany H locs ls hf hP hD hS hl
    unfold fX9_lookAt_139 at hf
    refine va_put (D := D) (ci := 9) (v := .int s1) (ty := .int) (C := RX9) (T := TX9) (N := 52) hx hb hL inlX9 tyX9 tyX9_ok nmX9 hown hK.1 hP hD hS 0 rfl rfl 43 (by decide) w0 (fun _ h9 => h9) rfl (by decide +kernel) rfl rfl (Nat.le_of_ble_eq_true rfl) dX9_lookAt_139 (fun H locs hP hD hS => ?_)
    rw [fl9_s43] at hP hD
    have hP : va_P D vwCl [(a9 0, .inr (9, fl9 a9 (va_up (va_up (va_up (va_up i9 16 v_looked) 18 v_wantedFirst) 17 v_wantedMany) 18 s1) g9)), ((a9 9), .inl (cyI, 60, .inl c_firsts)), ((a9 10), .inl (cyI, 60, .inl c_seconds)), ((a9 22), .inl (cyJ, 768, .inr (.inl c_tree)))] H := hP
    have hD : va_D A [(a9 0, .inr (9, fl9 a9 (va_up (va_up (va_up (va_up i9 16 v_looked) 18 v_wantedFirst) 17 v_wantedMany) 18 s1) g9)), ((a9 9), .inl (cyI, 60, .inl c_firsts)), ((a9 10), .inl (cyI, 60, .inl c_seconds)), ((a9 22), .inl (cyJ, 768, .inr (.inl c_tree)))] := hD
    exact ret_v (q := q) (wp := fun q => [(a9 0, .inr (9, fl9 a9 (va_up (va_up (va_up i9 16 q.1) 18 q.2.1) 17 q.2.2) g9)), ((a9 9), .inl (cyI, 60, .inl c_firsts)), ((a9 10), .inl (cyI, 60, .inl c_seconds)), ((a9 22), .inl (cyJ, 768, .inr (.inl c_tree)))]) hQ hf hx hb hr hlocks hP hD hS dX9_lookAt_142
  have hB111 : ∀ (s0 : Int32) (s1 : Int32) (v_looked : Int32) (v_wantedFirst : Int32) (v_wantedMany : Int32) (H : Heap) (locs : List Loc) (ls : Array Slot), fX9_lookAt_111 N c_firsts c_seconds c_tree x1 x2 s0 s1 v_looked v_wantedFirst v_wantedMany = some q → va_P D vwCl [(a9 0, .inr (9, fl9 a9 (va_up (va_up (va_up i9 16 v_looked) 18 v_wantedFirst) 17 v_wantedMany) g9)), ((a9 9), .inl (cyI, 60, .inl c_firsts)), ((a9 10), .inl (cyI, 60, .inl c_seconds)), ((a9 22), .inl (cyJ, 768, .inr (.inl c_tree)))] H → va_D A [(a9 0, .inr (9, fl9 a9 (va_up (va_up (va_up i9 16 v_looked) 18 v_wantedFirst) 17 v_wantedMany) g9)), ((a9 9), .inl (cyI, 60, .inl c_firsts)), ((a9 10), .inl (cyI, 60, .inl c_seconds)), ((a9 22), .inl (cyJ, 768, .inr (.inl c_tree)))] → va_S A s.heap H locs → lv_has ls 6 [(0, .ref (a9 0)), (2, .int x2)] → W p l e rmX9_lookAt s m av below meth c H locs 0 0 Q (F0 m 111 ls [.int s1, .int s0]) := by
    intro s0 s1 v_looked v_wantedFirst v_wantedMany H locs ls hf hP hD hS hl
    unfold fX9_lookAt_111 at hf
    refine lv_iadd hx hb dX9_lookAt_111 ?_
    refine lv_istore (lv' := [(5, .int (s0 + s1)), (0, .ref (a9 0)), (2, .int x2)]) hx hb dX9_lookAt_112 hl (by decide) rfl (fun ls hl => ?_)
    refine lv_aload_n hx hb dX9_lookAt_114 rfl (lv_at hl 1 rfl) ?_
    refine lv_dup hx hb dX9_lookAt_115 rfl ?_
    refine va_get (D := D) (ci := 9) (v := .int v_wantedMany) (C := RX9) (T := TX9) (N := 52) hx hb hL inlX9 hown hK.1 hP 0 rfl rfl 42 (by decide) w1 (fun _ h9 => h9) rfl dX9_lookAt_116 ?_
    refine lv_iload hx hb dX9_lookAt_119 (lv_at hl 0 rfl) ?_
    refine lv_iadd hx hb dX9_lookAt_121 ?_
    refine va_put (D := D) (ci := 9) (v := .int (v_wantedMany + (s0 + s1))) (ty := .int) (C := RX9) (T := TX9) (N := 52) hx hb hL inlX9 tyX9 tyX9_ok nmX9 hown hK.1 hP hD hS 0 rfl rfl 42 (by decide) w1 (fun _ h9 => h9) rfl (by decide +kernel) rfl rfl (Nat.le_of_ble_eq_true rfl) dX9_lookAt_122 (fun H locs hP hD hS => ?_)
    rw [fl9_s42] at hP hD
    have hP : va_P D vwCl [(a9 0, .inr (9, fl9 a9 (va_up (va_up (va_up (va_up i9 16 v_looked) 18 v_wantedFirst) 17 v_wantedMany) 17 (v_wantedMany + (s0 + s1))) g9)), ((a9 9), .inl (cyI, 60, .inl c_firsts)), ((a9 10), .inl (cyI, 60, .inl c_seconds)), ((a9 22), .inl (cyJ, 768, .inr (.inl c_tree)))] H := hP
    have hD : va_D A [(a9 0, .inr (9, fl9 a9 (va_up (va_up (va_up (va_up i9 16 v_looked) 18 v_wantedFirst) 17 v_wantedMany) 17 (v_wantedMany + (s0 + s1))) g9)), ((a9 9), .inl (cyI, 60, .inl c_firsts)), ((a9 10), .inl (cyI, 60, .inl c_seconds)), ((a9 22), .inl (cyJ, 768, .inr (.inl c_tree)))] := hD
    refine lv_aload_n hx hb dX9_lookAt_125 rfl (lv_at hl 1 rfl) ?_
    refine lv_iload hx hb dX9_lookAt_126 (lv_at hl 0 rfl) ?_
    refine lv_if_le (tgt := 135) hx hb dX9_lookAt_128 (by decide) (fun c128 => ?_) (fun c128 => ?_)
    · have hf := pif_t c128 hf
      refine lv_aload_n hx hb dX9_lookAt_135 rfl (lv_at hl 1 rfl) ?_
      refine va_get (D := D) (ci := 9) (v := .int v_wantedFirst) (C := RX9) (T := TX9) (N := 52) hx hb hL inlX9 hown hK.1 hP 0 rfl rfl 43 (by decide) w0 (fun _ h9 => h9) rfl dX9_lookAt_136 ?_
      exact hB139 v_wantedFirst v_looked v_wantedFirst (v_wantedMany + (s0 + s1)) H locs ls hf hP hD hS (lv_sub hl [] rfl)
    · have hf := pif_f c128 hf
      refine lv_iload_n hx hb dX9_lookAt_131 rfl (lv_at hl 2 rfl) ?_
      refine lv_goto (tgt := 139) hx hb dX9_lookAt_132 (by decide) ?_
      exact hB139 x2 v_looked v_wantedFirst (v_wantedMany + (s0 + s1)) H locs ls hf hP hD hS (lv_sub hl [] rfl)
  have hB67 : ∀ (x4 : Int32) (s0 : Int32) (s1 : Int32) (v_looked : Int32) (v_wantedFirst : Int32) (v_wantedMany : Int32) (H : Heap) (locs : List Loc) (ls : Array Slot), fX9_lookAt_67 N c_firsts c_seconds c_tree x1 x2 x4 s0 s1 v_looked v_wantedFirst v_wantedMany = some q → va_P D vwCl [(a9 0, .inr (9, fl9 a9 (va_up (va_up (va_up i9 16 v_looked) 18 v_wantedFirst) 17 v_wantedMany) g9)), ((a9 9), .inl (cyI, 60, .inl c_firsts)), ((a9 10), .inl (cyI, 60, .inl c_seconds)), ((a9 22), .inl (cyJ, 768, .inr (.inl c_tree)))] H → va_D A [(a9 0, .inr (9, fl9 a9 (va_up (va_up (va_up i9 16 v_looked) 18 v_wantedFirst) 17 v_wantedMany) g9)), ((a9 9), .inl (cyI, 60, .inl c_firsts)), ((a9 10), .inl (cyI, 60, .inl c_seconds)), ((a9 22), .inl (cyJ, 768, .inr (.inl c_tree)))] → va_S A s.heap H locs → lv_has ls 6 [(0, .ref (a9 0)), (1, .int x1), (2, .int x2), (4, .int x4)] → W p l e rmX9_lookAt s m av below meth c H locs 0 0 Q (F0 m 67 ls [.int s1, .int s0]) := by
    intro x4 s0 s1 v_looked v_wantedFirst v_wantedMany H locs ls hf hP hD hS hl
    unfold fX9_lookAt_67 at hf
    refine lv_iadd hx hb dX9_lookAt_67 ?_
    refine lv_istore (lv' := [(5, .int (s0 + s1)), (0, .ref (a9 0)), (1, .int x1), (2, .int x2), (4, .int x4)]) hx hb dX9_lookAt_68 hl (by decide) rfl (fun ls hl => ?_)
    refine lv_iload hx hb dX9_lookAt_70 (lv_at hl 0 rfl) ?_
    refine lv_aload_n hx hb dX9_lookAt_72 rfl (lv_at hl 1 rfl) ?_
    refine va_get (D := D) (ci := 9) (v := .ref (a9 22)) (C := RX9) (T := TX9) (N := 52) hx hb hL inlX9 hown hK.1 hP 0 rfl rfl 37 (by decide) w2 (fun _ h9 => h9) rfl dX9_lookAt_73 ?_
    refine lv_bipush (v := 6) hx hb dX9_lookAt_76 (by decide) ?_
    refine lv_iconst (v := 2) hx hb dX9_lookAt_78 (by decide) ?_
    refine lv_iload_n hx hb dX9_lookAt_79 rfl (lv_at hl 2 rfl) ?_
    refine lv_imul hx hb dX9_lookAt_80 ?_
    refine lv_imul hx hb dX9_lookAt_81 ?_
    refine lv_iload hx hb dX9_lookAt_82 (lv_at hl 4 rfl) ?_
    refine lv_iadd hx hb dX9_lookAt_84 ?_
    obtain ⟨h85, hf⟩ := pg_some hf
    refine va_lald hx hb hK.1 hP 3 1 rfl rfl h85 dX9_lookAt_85 ?_
    refine lv_aload_n hx hb dX9_lookAt_86 rfl (lv_at hl 1 rfl) ?_
    refine va_get (D := D) (ci := 9) (v := .ref (a9 22)) (C := RX9) (T := TX9) (N := 52) hx hb hL inlX9 hown hK.1 hP 0 rfl rfl 37 (by decide) w2 (fun _ h9 => h9) rfl dX9_lookAt_87 ?_
    refine lv_bipush (v := 6) hx hb dX9_lookAt_90 (by decide) ?_
    refine lv_iconst (v := 2) hx hb dX9_lookAt_92 (by decide) ?_
    refine lv_iload_n hx hb dX9_lookAt_93 rfl (lv_at hl 2 rfl) ?_
    refine lv_imul hx hb dX9_lookAt_94 ?_
    refine lv_iconst (v := 1) hx hb dX9_lookAt_95 (by decide) ?_
    refine lv_iadd hx hb dX9_lookAt_96 ?_
    refine lv_imul hx hb dX9_lookAt_97 ?_
    refine lv_iload hx hb dX9_lookAt_98 (lv_at hl 4 rfl) ?_
    refine lv_iadd hx hb dX9_lookAt_100 ?_
    obtain ⟨h101, hf⟩ := pg_some hf
    refine va_lald hx hb hK.1 hP 3 1 rfl rfl h101 dX9_lookAt_101 ?_
    refine W.lcmp hx hb dX9_lookAt_102 ?_
    refine lv_if_le (tgt := 110) hx hb dX9_lookAt_103 (by decide) (fun c103 => ?_) (fun c103 => ?_)
    · have hf := pif_t c103 hf
      refine lv_iconst (v := 0) hx hb dX9_lookAt_110 (by decide) ?_
      exact hB111 (s0 + s1) 0 v_looked v_wantedFirst v_wantedMany H locs ls hf hP hD hS (lv_sub hl [1, 3] rfl)
    · have hf := pif_f c103 hf
      refine lv_iconst (v := 1) hx hb dX9_lookAt_106 (by decide) ?_
      refine lv_goto (tgt := 111) hx hb dX9_lookAt_107 (by decide) ?_
      exact hB111 (s0 + s1) 1 v_looked v_wantedFirst v_wantedMany H locs ls hf hP hD hS (lv_sub hl [1, 3] rfl)
  unfold fX9_lookAt at hf
  obtain ⟨H, hH⟩ : ∃ H : Heap, H = s.heap := ⟨_, rfl⟩
  obtain ⟨locs, hlo⟩ : ∃ locs : List Loc, locs = [] := ⟨_, rfl⟩
  have hP : va_P D vwCl [(a9 0, .inr (9, fl9 a9 i9 g9)), ((a9 9), .inl (cyI, 60, .inl c_firsts)), ((a9 10), .inl (cyI, 60, .inl c_seconds)), ((a9 22), .inl (cyJ, 768, .inr (.inl c_tree)))] H := by rw [hH]; exact hP
  have hS : va_S A s.heap H locs := by rw [hH, hlo]; exact hS
  suffices hw : W p l e rmX9_lookAt s m av below meth c H locs 0 0 Q (F0 m 0 ls []) by rw [hH, hlo] at hw; exact hw
  refine lv_aload_n hx hb dX9_lookAt_0 rfl (lv_at hl 0 rfl) ?_
  refine lv_dup hx hb dX9_lookAt_1 rfl ?_
  refine va_get (D := D) (ci := 9) (v := .int (i9 16)) (C := RX9) (T := TX9) (N := 52) hx hb hL inlX9 hown hK.1 hP 0 rfl rfl 41 (by decide) w3 (fun _ h9 => h9) rfl dX9_lookAt_2 ?_
  refine lv_iconst (v := 1) hx hb dX9_lookAt_5 (by decide) ?_
  refine lv_iadd hx hb dX9_lookAt_6 ?_
  refine va_put (D := D) (ci := 9) (v := .int ((i9 16) + 1)) (ty := .int) (C := RX9) (T := TX9) (N := 52) hx hb hL inlX9 tyX9 tyX9_ok nmX9 hown hK.1 hP hD hS 0 rfl rfl 41 (by decide) w3 (fun _ h9 => h9) rfl (by decide +kernel) rfl rfl (Nat.le_of_ble_eq_true rfl) dX9_lookAt_7 (fun H locs hP hD hS => ?_)
  rw [fl9_s41] at hP hD
  have hP : va_P D vwCl [(a9 0, .inr (9, fl9 a9 (va_up i9 16 ((i9 16) + 1)) g9)), ((a9 9), .inl (cyI, 60, .inl c_firsts)), ((a9 10), .inl (cyI, 60, .inl c_seconds)), ((a9 22), .inl (cyJ, 768, .inr (.inl c_tree)))] H := hP
  have hD : va_D A [(a9 0, .inr (9, fl9 a9 (va_up i9 16 ((i9 16) + 1)) g9)), ((a9 9), .inl (cyI, 60, .inl c_firsts)), ((a9 10), .inl (cyI, 60, .inl c_seconds)), ((a9 22), .inl (cyJ, 768, .inr (.inl c_tree)))] := hD
  refine lv_aload_n hx hb dX9_lookAt_10 rfl (lv_at hl 0 rfl) ?_
  refine va_get (D := D) (ci := 9) (v := .ref (a9 9)) (C := RX9) (T := TX9) (N := 52) hx hb hL inlX9 hown hK.1 hP 0 rfl rfl 19 (by decide) w4 (fun _ h9 => h9) rfl dX9_lookAt_11 ?_
  refine lv_iload_n hx hb dX9_lookAt_14 rfl (lv_at hl 2 rfl) ?_
  obtain ⟨h15, hf⟩ := pg_some hf
  refine va_iald hx hb hK.1 hP 1 0 rfl rfl h15 dX9_lookAt_15 ?_
  refine lv_istore_n (lv' := [(3, .int (c_firsts x2.toNatClampNeg)), (0, .ref (a9 0)), (1, .int x1), (2, .int x2)]) hx hb dX9_lookAt_16 rfl hl (by decide) rfl (fun ls hl => ?_)
  refine lv_aload_n hx hb dX9_lookAt_17 rfl (lv_at hl 1 rfl) ?_
  refine va_get (D := D) (ci := 9) (v := .ref (a9 10)) (C := RX9) (T := TX9) (N := 52) hx hb hL inlX9 hown hK.1 hP 0 rfl rfl 20 (by decide) w5 (fun _ h9 => h9) rfl dX9_lookAt_18 ?_
  refine lv_iload_n hx hb dX9_lookAt_21 rfl (lv_at hl 3 rfl) ?_
  obtain ⟨h22, hf⟩ := pg_some hf
  refine va_iald hx hb hK.1 hP 2 0 rfl rfl h22 dX9_lookAt_22 ?_
  refine lv_istore (lv' := [(4, .int (c_seconds x2.toNatClampNeg)), (3, .int (c_firsts x2.toNatClampNeg)), (0, .ref (a9 0)), (1, .int x1), (2, .int x2)]) hx hb dX9_lookAt_23 hl (by decide) rfl (fun ls hl => ?_)
  refine lv_iconst (v := 0) hx hb dX9_lookAt_25 (by decide) ?_
  refine lv_istore (lv' := [(5, .int 0), (4, .int (c_seconds x2.toNatClampNeg)), (3, .int (c_firsts x2.toNatClampNeg)), (0, .ref (a9 0)), (1, .int x1), (2, .int x2)]) hx hb dX9_lookAt_26 hl (by decide) rfl (fun ls hl => ?_)
  refine lv_iload hx hb dX9_lookAt_28 (lv_at hl 0 rfl) ?_
  refine lv_aload_n hx hb dX9_lookAt_30 rfl (lv_at hl 3 rfl) ?_
  refine va_get (D := D) (ci := 9) (v := .ref (a9 22)) (C := RX9) (T := TX9) (N := 52) hx hb hL inlX9 hown hK.1 hP 0 rfl rfl 37 (by decide) w2 (fun _ h9 => h9) rfl dX9_lookAt_31 ?_
  refine lv_bipush (v := 6) hx hb dX9_lookAt_34 (by decide) ?_
  refine lv_iconst (v := 2) hx hb dX9_lookAt_36 (by decide) ?_
  refine lv_iload_n hx hb dX9_lookAt_37 rfl (lv_at hl 4 rfl) ?_
  refine lv_imul hx hb dX9_lookAt_38 ?_
  refine lv_iconst (v := 1) hx hb dX9_lookAt_39 (by decide) ?_
  refine lv_iadd hx hb dX9_lookAt_40 ?_
  refine lv_imul hx hb dX9_lookAt_41 ?_
  refine lv_iload_n hx hb dX9_lookAt_42 rfl (lv_at hl 2 rfl) ?_
  refine lv_iadd hx hb dX9_lookAt_43 ?_
  obtain ⟨h44, hf⟩ := pg_some hf
  refine va_lald hx hb hK.1 hP 3 1 rfl rfl h44 dX9_lookAt_44 ?_
  refine lv_aload_n hx hb dX9_lookAt_45 rfl (lv_at hl 3 rfl) ?_
  refine va_get (D := D) (ci := 9) (v := .ref (a9 22)) (C := RX9) (T := TX9) (N := 52) hx hb hL inlX9 hown hK.1 hP 0 rfl rfl 37 (by decide) w2 (fun _ h9 => h9) rfl dX9_lookAt_46 ?_
  refine lv_bipush (v := 6) hx hb dX9_lookAt_49 (by decide) ?_
  refine lv_iconst (v := 2) hx hb dX9_lookAt_51 (by decide) ?_
  refine lv_iload_n hx hb dX9_lookAt_52 rfl (lv_at hl 4 rfl) ?_
  refine lv_imul hx hb dX9_lookAt_53 ?_
  refine lv_imul hx hb dX9_lookAt_54 ?_
  refine lv_iload_n hx hb dX9_lookAt_55 rfl (lv_at hl 2 rfl) ?_
  refine lv_iadd hx hb dX9_lookAt_56 ?_
  obtain ⟨h57, hf⟩ := pg_some hf
  refine va_lald hx hb hK.1 hP 3 1 rfl rfl h57 dX9_lookAt_57 ?_
  refine W.lcmp hx hb dX9_lookAt_58 ?_
  refine lv_if_le (tgt := 66) hx hb dX9_lookAt_59 (by decide) (fun c59 => ?_) (fun c59 => ?_)
  · have hf := pif_t c59 hf
    refine lv_iconst (v := 0) hx hb dX9_lookAt_66 (by decide) ?_
    exact hB67 (c_seconds x2.toNatClampNeg) 0 0 ((i9 16) + 1) (i9 18) (i9 17) H locs ls hf hP hD hS (lv_sub hl [3, 4, 5, 1] rfl)
  · have hf := pif_f c59 hf
    refine lv_iconst (v := 1) hx hb dX9_lookAt_62 (by decide) ?_
    refine lv_goto (tgt := 67) hx hb dX9_lookAt_63 (by decide) ?_
    exact hB67 (c_seconds x2.toNatClampNeg) 0 1 ((i9 16) + 1) (i9 18) (i9 17) H locs ls hf hP hD hS (lv_sub hl [3, 4, 5, 1] rfl)
