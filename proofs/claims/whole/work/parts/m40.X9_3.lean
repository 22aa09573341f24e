abbrev rmX9_toCome : Room := { frames := 1, cells := 0, slots := 0, locals := 20 }
set_option maxHeartbeats 40000000 in
set_option maxRecDepth 100000 in
theorem mX9_toCome (l : Launch) (D : va_G) (cyI cyJ cyB cyS : ClassId) (N : Nat) (sz : Nat) (a9 : Nat → Nat) (i9 : Nat → Int32) (g9 : Nat → Int64) (c_firsts : Nat → Int32) (c_goes : Nat → Int32) (c_many : Nat → Int32) (c_seconds : Nat → Int32) (x1 : Int32) (x2 : Int32) (x3 : Int32) (q : Int32) (hf : fX9_toCome N c_firsts c_goes c_many c_seconds x1 x2 x3 = some q) : Met l yX9_toCome (wS yX9_toCome cX9_toCome 8 (some .int)) rmX9_toCome (va_Pc [.ref (a9 0), .int x1, .int x2, .int x3] (PP D cyI cyJ cyB cyS [(a9 0, .inr (9, fl9 a9 i9 g9)), ((a9 9), .inl (cyI, 60, .inl c_firsts)), ((a9 11), .inl (cyI, 60, .inl c_goes)), ((a9 12), .inl (cyI, 2, .inl c_many)), ((a9 10), .inl (cyI, 60, .inl c_seconds))] sz)) (QI q D [(a9 0, .inr (9, fl9 a9 i9 g9)), ((a9 9), .inl (cyI, 60, .inl c_firsts)), ((a9 11), .inl (cyI, 60, .inl c_goes)), ((a9 12), .inl (cyI, 2, .inl c_many)), ((a9 10), .inl (cyI, 60, .inl c_seconds))] (va_A [(a9 0, .inr (9, fl9 a9 i9 g9)), ((a9 9), .inl (cyI, 60, .inl c_firsts)), ((a9 11), .inl (cyI, 60, .inl c_goes)), ((a9 12), .inl (cyI, 2, .inl c_many)), ((a9 10), .inl (cyI, 60, .inl c_seconds))] sz)) 0 0 (va_A [(a9 0, .inr (9, fl9 a9 i9 g9)), ((a9 9), .inl (cyI, 60, .inl c_firsts)), ((a9 11), .inl (cyI, 60, .inl c_goes)), ((a9 12), .inl (cyI, 2, .inl c_many)), ((a9 10), .inl (cyI, 60, .inl c_seconds))] sz) := by
  refine Met.ofW (cc := cX9_toCome) (maxL := 8) (ret := (some .int)) (by decide) rfl ?_
  intro p e s m args below meth c s₁ B hml hv
  obtain ⟨rfl, hsz, hP, hK, hD0⟩ := hv
  have hx := B.exec
  have hb := B.bytes
  have hr := B.returns
  have hts := atoms_spec (ws := (wS yX9_toCome cX9_toCome 8 (some .int))) B.pre
  have hown : s.vm.findClass RX9 = some m.cls := findClass_of_methodNamed B.named
  have hlocks := B.notSynchronized
  subst hsz
  have hD := hD0.self (sz := s.heap.size)
  refine w_nameQ (fun Q hQ => ?_)
  have hl := lv_entry ([.ref (a9 0), .int x1, .int x2, .int x3] : List Value) (n := 8) (Nat.le_of_ble_eq_true rfl)
  rw [lg_entry_eq]
  generalize (lg_sl ([.ref (a9 0), .int x1, .int x2, .int x3] : List Value) ++ List.replicate (8 - (lg_sl ([.ref (a9 0), .int x1, .int x2, .int x3] : List Value)).length) Slot.unset).toArray = ls at hl ⊢
  have hl : lv_has ls 8 [(0, .ref (a9 0)), (1, .int x1), (2, .int x2), (3, .int x3)] := hl
  generalize hAe : va_A [(a9 0, .inr (9, fl9 a9 i9 g9)), ((a9 9), .inl (cyI, 60, .inl c_firsts)), ((a9 11), .inl (cyI, 60, .inl c_goes)), ((a9 12), .inl (cyI, 2, .inl c_many)), ((a9 10), .inl (cyI, 60, .inl c_seconds))] s.heap.size = A at hD hQ
  have hA : ∀ q : Nat, s.heap.size ≤ q → A q := fun q h => by rw [← hAe]; exact Or.inr h
  have hS : va_S A s.heap s.heap [] := va_S.rf
  generalize ([.ref (a9 0), .int x1, .int x2, .int x3] : List Value).toArray = av at hts hQ ⊢
  have hL : ∀ w ∈ wsL_law, w.before av s = true := fun w h => hts w (List.mem_cons_of_mem _ h)
  have w0 := hL (.fieldLink RX9 40 "LosingLeagueModel" "goes" "[I") (hR6 14 rfl)
  have w1 := hL (.fieldLink RX9 43 "LosingLeagueModel" "many" "[I") (hR6 15 rfl)
  have w2 := hL (.static yX9_from) (hR23 22 rfl)
  have w3 := hL (.fieldLink RX9 34 "LosingLeagueModel" "firsts" "[I") (hR6 12 rfl)
  have w4 := hL (.fieldLink RX9 37 "LosingLeagueModel" "seconds" "[I") (hR6 13 rfl)
  have hB84 : ∀ (k6 : Int32 → Int32 → Option (Int32)) (hk6 : ∀ (x4 : Int32) (x5 : Int32) (H : Heap) (locs : List Loc) (ls : Array Slot), k6 x4 x5 = some q → va_P D vwCl [(a9 0, .inr (9, fl9 a9 i9 g9)), ((a9 9), .inl (cyI, 60, .inl c_firsts)), ((a9 11), .inl (cyI, 60, .inl c_goes)), ((a9 12), .inl (cyI, 2, .inl c_many)), ((a9 10), .inl (cyI, 60, .inl c_seconds))] H → va_D A [(a9 0, .inr (9, fl9 a9 i9 g9)), ((a9 9), .inl (cyI, 60, .inl c_firsts)), ((a9 11), .inl (cyI, 60, .inl c_goes)), ((a9 12), .inl (cyI, 2, .inl c_many)), ((a9 10), .inl (cyI, 60, .inl c_seconds))] → va_S A s.heap H locs → lv_has ls 8 [(0, .ref (a9 0)), (1, .int x1), (2, .int x2), (3, .int x3), (4, .int x4), (5, .int x5)] → W p l e rmX9_toCome s m av below meth c H locs 0 0 Q (F0 m 6 ls [])), ∀ (x5 : Int32) (s0 : Int32) (s1 : Int32) (H : Heap) (locs : List Loc) (ls : Array Slot), fX9_toCome_84 N c_firsts c_goes c_many c_seconds x1 x2 x3 k6 x5 s0 s1 = some q → va_P D vwCl [(a9 0, .inr (9, fl9 a9 i9 g9)), ((a9 9), .inl (cyI, 60, .inl c_firsts)), ((a9 11), .inl (cyI, 60, .inl c_goes)), ((a9 12), .inl (cyI, 2, .inl c_many)), ((a9 10), .inl (cyI, 60, .inl c_seconds))] H → va_D A [(a9 0, .inr (9, fl9 a9 i9 g9)), ((a9 9), .inl (cyI, 60, .inl c_firsts)), ((a9 11), .inl (cyI, 60, .inl c_goes)), ((a9 12), .inl (cyI, 2, .inl c_many)), ((a9 10), .inl (cyI, 60, .inl c_seconds))] → va_S A s.heap H locs → lv_has ls 8 [(0, .ref (a9 0)), (1, .int x1), (2, .int x2), (3, .int x3), (5, .int x5)] → W p l e rmX9_toCome s m av below meth c H locs 0 0 Q (F0 m 84 ls [.int s1, .int s0]) := by
    intro k6 hk6 x5 s0 s1 H locs ls hf hP hD hS hl
    unfold fX9_toCome_84 at hf
    refine lv_iadd hx hb dX9_toCome_84 ?_
    refine lv_istore (lv' := [(4, .int (s0 + s1)), (0, .ref (a9 0)), (1, .int x1), (2, .int x2), (3, .int x3), (5, .int x5)]) hx hb dX9_toCome_85 hl (by decide) rfl (fun ls hl => ?_)
    refine lv_iinc (v := x5 + 1) (lv' := [(5, .int (x5 + 1)), (4, .int (s0 + s1)), (0, .ref (a9 0)), (1, .int x1), (2, .int x2), (3, .int x3)]) hx hb dX9_toCome_87 hl (k := 5) rfl rfl (by decide) rfl (fun ls hl => ?_)
    refine lv_goto (tgt := 6) hx hb dX9_toCome_90 (by decide) ?_
    exact hk6 (s0 + s1) (x5 + 1) H locs ls hf hP hD hS (lv_sub hl [2, 3, 4, 5, 1, 0] rfl)
  have hB79 : ∀ (k6 : Int32 → Int32 → Option (Int32)) (hk6 : ∀ (x4 : Int32) (x5 : Int32) (H : Heap) (locs : List Loc) (ls : Array Slot), k6 x4 x5 = some q → va_P D vwCl [(a9 0, .inr (9, fl9 a9 i9 g9)), ((a9 9), .inl (cyI, 60, .inl c_firsts)), ((a9 11), .inl (cyI, 60, .inl c_goes)), ((a9 12), .inl (cyI, 2, .inl c_many)), ((a9 10), .inl (cyI, 60, .inl c_seconds))] H → va_D A [(a9 0, .inr (9, fl9 a9 i9 g9)), ((a9 9), .inl (cyI, 60, .inl c_firsts)), ((a9 11), .inl (cyI, 60, .inl c_goes)), ((a9 12), .inl (cyI, 2, .inl c_many)), ((a9 10), .inl (cyI, 60, .inl c_seconds))] → va_S A s.heap H locs → lv_has ls 8 [(0, .ref (a9 0)), (1, .int x1), (2, .int x2), (3, .int x3), (4, .int x4), (5, .int x5)] → W p l e rmX9_toCome s m av below meth c H locs 0 0 Q (F0 m 6 ls [])), ∀ (x5 : Int32) (s0 : Int32) (H : Heap) (locs : List Loc) (ls : Array Slot), fX9_toCome_79 N c_firsts c_goes c_many c_seconds x1 x2 x3 k6 x5 s0 = some q → va_P D vwCl [(a9 0, .inr (9, fl9 a9 i9 g9)), ((a9 9), .inl (cyI, 60, .inl c_firsts)), ((a9 11), .inl (cyI, 60, .inl c_goes)), ((a9 12), .inl (cyI, 2, .inl c_many)), ((a9 10), .inl (cyI, 60, .inl c_seconds))] H → va_D A [(a9 0, .inr (9, fl9 a9 i9 g9)), ((a9 9), .inl (cyI, 60, .inl c_firsts)), ((a9 11), .inl (cyI, 60, .inl c_goes)), ((a9 12), .inl (cyI, 2, .inl c_many)), ((a9 10), .inl (cyI, 60, .inl c_seconds))] → va_S A s.heap H locs → lv_has ls 8 [(0, .ref (a9 0)), (1, .int x1), (2, .int x2), (3, .int x3), (5, .int x5)] → W p l e rmX9_toCome s m av below meth c H locs 0 0 Q (F0 m 79 ls [.int s0]) := by
    intro k6 hk6 x5 s0 H locs ls hf hP hD hS hl
    unfold fX9_toCome_79 at hf
    refine lv_iconst (v := 1) hx hb dX9_toCome_79 (by decide) ?_
    refine lv_goto (tgt := 84) hx hb dX9_toCome_80 (by decide) ?_
    exact hB84 k6 hk6 x5 s0 1 H locs ls hf hP hD hS (lv_sub hl [0, 1, 2, 3, 4] rfl)
  have hB83 : ∀ (k6 : Int32 → Int32 → Option (Int32)) (hk6 : ∀ (x4 : Int32) (x5 : Int32) (H : Heap) (locs : List Loc) (ls : Array Slot), k6 x4 x5 = some q → va_P D vwCl [(a9 0, .inr (9, fl9 a9 i9 g9)), ((a9 9), .inl (cyI, 60, .inl c_firsts)), ((a9 11), .inl (cyI, 60, .inl c_goes)), ((a9 12), .inl (cyI, 2, .inl c_many)), ((a9 10), .inl (cyI, 60, .inl c_seconds))] H → va_D A [(a9 0, .inr (9, fl9 a9 i9 g9)), ((a9 9), .inl (cyI, 60, .inl c_firsts)), ((a9 11), .inl (cyI, 60, .inl c_goes)), ((a9 12), .inl (cyI, 2, .inl c_many)), ((a9 10), .inl (cyI, 60, .inl c_seconds))] → va_S A s.heap H locs → lv_has ls 8 [(0, .ref (a9 0)), (1, .int x1), (2, .int x2), (3, .int x3), (4, .int x4), (5, .int x5)] → W p l e rmX9_toCome s m av below meth c H locs 0 0 Q (F0 m 6 ls [])), ∀ (x5 : Int32) (s0 : Int32) (H : Heap) (locs : List Loc) (ls : Array Slot), fX9_toCome_83 N c_firsts c_goes c_many c_seconds x1 x2 x3 k6 x5 s0 = some q → va_P D vwCl [(a9 0, .inr (9, fl9 a9 i9 g9)), ((a9 9), .inl (cyI, 60, .inl c_firsts)), ((a9 11), .inl (cyI, 60, .inl c_goes)), ((a9 12), .inl (cyI, 2, .inl c_many)), ((a9 10), .inl (cyI, 60, .inl c_seconds))] H → va_D A [(a9 0, .inr (9, fl9 a9 i9 g9)), ((a9 9), .inl (cyI, 60, .inl c_firsts)), ((a9 11), .inl (cyI, 60, .inl c_goes)), ((a9 12), .inl (cyI, 2, .inl c_many)), ((a9 10), .inl (cyI, 60, .inl c_seconds))] → va_S A s.heap H locs → lv_has ls 8 [(0, .ref (a9 0)), (1, .int x1), (2, .int x2), (3, .int x3), (5, .int x5)] → W p l e rmX9_toCome s m av below meth c H locs 0 0 Q (F0 m 83 ls [.int s0]) := by
    intro k6 hk6 x5 s0 H locs ls hf hP hD hS hl
    unfold fX9_toCome_83 at hf
    refine lv_iconst (v := 0) hx hb dX9_toCome_83 (by decide) ?_
    exact hB84 k6 hk6 x5 s0 0 H locs ls hf hP hD hS (lv_sub hl [0, 1, 2, 3, 4] rfl)
  have hB53 : ∀ (k6 : Int32 → Int32 → Option (Int32)) (hk6 : ∀ (x4 : Int32) (x5 : Int32) (H : Heap) (locs : List Loc) (ls : Array Slot), k6 x4 x5 = some q → va_P D vwCl [(a9 0, .inr (9, fl9 a9 i9 g9)), ((a9 9), .inl (cyI, 60, .inl c_firsts)), ((a9 11), .inl (cyI, 60, .inl c_goes)), ((a9 12), .inl (cyI, 2, .inl c_many)), ((a9 10), .inl (cyI, 60, .inl c_seconds))] H → va_D A [(a9 0, .inr (9, fl9 a9 i9 g9)), ((a9 9), .inl (cyI, 60, .inl c_firsts)), ((a9 11), .inl (cyI, 60, .inl c_goes)), ((a9 12), .inl (cyI, 2, .inl c_many)), ((a9 10), .inl (cyI, 60, .inl c_seconds))] → va_S A s.heap H locs → lv_has ls 8 [(0, .ref (a9 0)), (1, .int x1), (2, .int x2), (3, .int x3), (4, .int x4), (5, .int x5)] → W p l e rmX9_toCome s m av below meth c H locs 0 0 Q (F0 m 6 ls [])), ∀ (x4 : Int32) (x5 : Int32) (x6 : Int32) (s0 : Int32) (H : Heap) (locs : List Loc) (ls : Array Slot), fX9_toCome_53 N c_firsts c_goes c_many c_seconds x1 x2 x3 k6 x4 x5 x6 s0 = some q → va_P D vwCl [(a9 0, .inr (9, fl9 a9 i9 g9)), ((a9 9), .inl (cyI, 60, .inl c_firsts)), ((a9 11), .inl (cyI, 60, .inl c_goes)), ((a9 12), .inl (cyI, 2, .inl c_many)), ((a9 10), .inl (cyI, 60, .inl c_seconds))] H → va_D A [(a9 0, .inr (9, fl9 a9 i9 g9)), ((a9 9), .inl (cyI, 60, .inl c_firsts)), ((a9 11), .inl (cyI, 60, .inl c_goes)), ((a9 12), .inl (cyI, 2, .inl c_many)), ((a9 10), .inl (cyI, 60, .inl c_seconds))] → va_S A s.heap H locs → lv_has ls 8 [(0, .ref (a9 0)), (1, .int x1), (2, .int x2), (3, .int x3), (4, .int x4), (5, .int x5), (6, .int x6)] → W p l e rmX9_toCome s m av below meth c H locs 0 0 Q (F0 m 53 ls [.int s0]) := by
    intro k6 hk6 x4 x5 x6 s0 H locs ls hf hP hD hS hl
    unfold fX9_toCome_53 at hf
    refine lv_istore (lv' := [(7, .int s0), (0, .ref (a9 0)), (1, .int x1), (2, .int x2), (3, .int x3), (4, .int x4), (5, .int x5), (6, .int x6)]) hx hb dX9_toCome_53 hl (by decide) rfl (fun ls hl => ?_)
    refine lv_iload hx hb dX9_toCome_55 (lv_at hl 5 rfl) ?_
    refine lv_iload hx hb dX9_toCome_57 (lv_at hl 0 rfl) ?_
    refine lv_if_eq (tgt := 83) hx hb dX9_toCome_59 (by decide) (fun c59 => ?_) (fun c59 => ?_)
    · have hf := pif_t c59 hf
      exact hB83 k6 hk6 x5 x4 H locs ls hf hP hD hS (lv_sub hl [1, 2, 3, 4, 6] rfl)
    · have hf := pif_f c59 hf
      refine lv_iload hx hb dX9_toCome_62 (lv_at hl 6 rfl) ?_
      refine lv_iload_n hx hb dX9_toCome_64 rfl (lv_at hl 4 rfl) ?_
      refine lv_icmp_gt (tgt := 79) hx hb dX9_toCome_65 (by decide) (fun c65 => ?_) (fun c65 => ?_)
      · have hf := pif_t c65 hf
        exact hB79 k6 hk6 x5 x4 H locs ls hf hP hD hS (lv_sub hl [1, 2, 3, 4, 6] rfl)
      · have hf := pif_f c65 hf
        refine lv_aload_n hx hb dX9_toCome_68 rfl (lv_at hl 1 rfl) ?_
        refine va_get (D := D) (ci := 9) (v := .ref (a9 11)) (C := RX9) (T := TX9) (N := 52) hx hb hL inlX9 hown hK.1 hP 0 rfl rfl 21 (by decide) w0 (fun _ h9 => h9) rfl dX9_toCome_69 ?_
        refine lv_iload hx hb dX9_toCome_72 (lv_at hl 7 rfl) ?_
        obtain ⟨h74, hf⟩ := pg_some hf
        refine va_iald hx hb hK.1 hP 2 0 rfl rfl h74 dX9_toCome_74 ?_
        refine lv_iconst (v := 2) hx hb dX9_toCome_75 (by decide) ?_
        refine lv_icmp_ne (tgt := 83) hx hb dX9_toCome_76 (by decide) (fun c76 => ?_) (fun c76 => ?_)
        · have hf := pif_f c76 hf
          exact hB83 k6 hk6 x5 x4 H locs ls hf hP hD hS (lv_sub hl [1, 2, 3, 4, 6] rfl)
        · have hf := pif_t c76 hf
          exact hB79 k6 hk6 x5 x4 H locs ls hf hP hD hS (lv_sub hl [1, 2, 3, 4, 6] rfl)
  have hB48 : ∀ (k6 : Int32 → Int32 → Option (Int32)) (hk6 : ∀ (x4 : Int32) (x5 : Int32) (H : Heap) (locs : List Loc) (ls : Array Slot), k6 x4 x5 = some q → va_P D vwCl [(a9 0, .inr (9, fl9 a9 i9 g9)), ((a9 9), .inl (cyI, 60, .inl c_firsts)), ((a9 11), .inl (cyI, 60, .inl c_goes)), ((a9 12), .inl (cyI, 2, .inl c_many)), ((a9 10), .inl (cyI, 60, .inl c_seconds))] H → va_D A [(a9 0, .inr (9, fl9 a9 i9 g9)), ((a9 9), .inl (cyI, 60, .inl c_firsts)), ((a9 11), .inl (cyI, 60, .inl c_goes)), ((a9 12), .inl (cyI, 2, .inl c_many)), ((a9 10), .inl (cyI, 60, .inl c_seconds))] → va_S A s.heap H locs → lv_has ls 8 [(0, .ref (a9 0)), (1, .int x1), (2, .int x2), (3, .int x3), (4, .int x4), (5, .int x5)] → W p l e rmX9_toCome s m av below meth c H locs 0 0 Q (F0 m 6 ls [])), ∀ (x4 : Int32) (x5 : Int32) (x6 : Int32) (H : Heap) (locs : List Loc) (ls : Array Slot), fX9_toCome_48 N c_firsts c_goes c_many c_seconds x1 x2 x3 k6 x4 x5 x6 = some q → va_P D vwCl [(a9 0, .inr (9, fl9 a9 i9 g9)), ((a9 9), .inl (cyI, 60, .inl c_firsts)), ((a9 11), .inl (cyI, 60, .inl c_goes)), ((a9 12), .inl (cyI, 2, .inl c_many)), ((a9 10), .inl (cyI, 60, .inl c_seconds))] H → va_D A [(a9 0, .inr (9, fl9 a9 i9 g9)), ((a9 9), .inl (cyI, 60, .inl c_firsts)), ((a9 11), .inl (cyI, 60, .inl c_goes)), ((a9 12), .inl (cyI, 2, .inl c_many)), ((a9 10), .inl (cyI, 60, .inl c_seconds))] → va_S A s.heap H locs → lv_has ls 8 [(0, .ref (a9 0)), (1, .int x1), (2, .int x2), (3, .int x3), (4, .int x4), (5, .int x5), (6, .int x6)] → W p l e rmX9_toCome s m av below meth c H locs 0 0 Q (F0 m 48 ls []) := by
    intro k6 hk6 x4 x5 x6 H locs ls hf hP hD hS hl
    unfold fX9_toCome_48 at hf
    refine lv_iconst (v := 1) hx hb dX9_toCome_48 (by decide) ?_
    refine lv_goto (tgt := 53) hx hb dX9_toCome_49 (by decide) ?_
    exact hB53 k6 hk6 x4 x5 x6 1 H locs ls hf hP hD hS (lv_sub hl [0, 1, 2, 3, 4, 5, 6] rfl)
  have hB6 : ∀ (n : Nat), ∀ (x4 : Int32) (x5 : Int32) (H : Heap) (locs : List Loc) (ls : Array Slot), fX9_toCome_6 N c_firsts c_goes c_many c_seconds x1 x2 x3 n x4 x5 = some q → va_P D vwCl [(a9 0, .inr (9, fl9 a9 i9 g9)), ((a9 9), .inl (cyI, 60, .inl c_firsts)), ((a9 11), .inl (cyI, 60, .inl c_goes)), ((a9 12), .inl (cyI, 2, .inl c_many)), ((a9 10), .inl (cyI, 60, .inl c_seconds))] H → va_D A [(a9 0, .inr (9, fl9 a9 i9 g9)), ((a9 9), .inl (cyI, 60, .inl c_firsts)), ((a9 11), .inl (cyI, 60, .inl c_goes)), ((a9 12), .inl (cyI, 2, .inl c_many)), ((a9 10), .inl (cyI, 60, .inl c_seconds))] → va_S A s.heap H locs → lv_has ls 8 [(0, .ref (a9 0)), (1, .int x1), (2, .int x2), (3, .int x3), (4, .int x4), (5, .int x5)] → W p l e rmX9_toCome s m av below meth c H locs 0 0 Q (F0 m 6 ls []) := by
    intro n
    induction n with
    | zero => intro x4 x5 H locs ls hf; exact absurd hf (by simp [fX9_toCome_6])
    | succ n hk6 =>
      intro x4 x5 H locs ls hf hP hD hS hl
      rw [fX9_toCome_6] at hf
      refine lv_iload hx hb dX9_toCome_6 (lv_at hl 5 rfl) ?_
      refine lv_aload_n hx hb dX9_toCome_8 rfl (lv_at hl 0 rfl) ?_
      refine va_get (D := D) (ci := 9) (v := .ref (a9 12)) (C := RX9) (T := TX9) (N := 52) hx hb hL inlX9 hown hK.1 hP 0 rfl rfl 22 (by decide) w1 (fun _ h9 => h9) rfl dX9_toCome_9 ?_
      refine lv_iload_n hx hb dX9_toCome_12 rfl (lv_at hl 1 rfl) ?_
      obtain ⟨h13, hf⟩ := pg_some hf
      refine va_iald hx hb hK.1 hP 3 0 rfl rfl h13 dX9_toCome_13 ?_
      refine lv_icmp_ge (tgt := 93) hx hb dX9_toCome_14 (by decide) (fun c14 => ?_) (fun c14 => ?_)
      · have hf := pif_t c14 hf
        refine lv_iload hx hb dX9_toCome_93 (lv_at hl 4 rfl) ?_
        exact ret_i (q := q) (g := fun q => q) (wp := fun q => [(a9 0, .inr (9, fl9 a9 i9 g9)), ((a9 9), .inl (cyI, 60, .inl c_firsts)), ((a9 11), .inl (cyI, 60, .inl c_goes)), ((a9 12), .inl (cyI, 2, .inl c_many)), ((a9 10), .inl (cyI, 60, .inl c_seconds))]) hQ hf hx hb hr hlocks hP hD hS dX9_toCome_95 rfl
      · have hf := pif_f c14 hf
        refine lv_iload_n hx hb dX9_toCome_17 rfl (lv_at hl 1 rfl) ?_
        obtain ⟨q18, e18, hf⟩ := pb_some hf
        refine cc_i (wc := []) (wr := [(a9 0, .inr (9, fl9 a9 i9 g9)), ((a9 9), .inl (cyI, 60, .inl c_firsts)), ((a9 11), .inl (cyI, 60, .inl c_goes)), ((a9 12), .inl (cyI, 2, .inl c_many)), ((a9 10), .inl (cyI, 60, .inl c_seconds))]) (w1 := []) (wn := [(a9 0, .inr (9, fl9 a9 i9 g9)), ((a9 9), .inl (cyI, 60, .inl c_firsts)), ((a9 11), .inl (cyI, 60, .inl c_goes)), ((a9 12), .inl (cyI, 2, .inl c_many)), ((a9 10), .inl (cyI, 60, .inl c_seconds))]) hP hD hS hA [] [0, 1, 2, 3, 4] [0, 1, 2, 3, 4] rfl rfl rfl (by decide) rfl rfl (va_runS (As := [.int x1]) (rest := []) ⟨hx, hb, hml, hown, hL⟩ (mX9_from l D cyI cyJ cyB cyS N H.size   x1 q18 e18) (va_cwS 1 hL (gS (hR23 21 rfl) (hR23 22 rfl) (hR1 5 rfl) (hR23 23 rfl)) rfl rfl rfl (by decide +kernel) ⟨Nat.le_of_ble_eq_true rfl, Nat.le_of_ble_eq_true rfl⟩) (PP_preS hP hD hK [] rfl rfl) rfl rfl hl.1 rfl (lv_room (Nat.le_of_ble_eq_true rfl)) dX9_toCome_18 ⟨Nat.le_of_ble_eq_true rfl, Nat.le_of_ble_eq_true rfl⟩) (fun H locs hP hD hS => ?_)
        refine lv_iload hx hb dX9_toCome_21 (lv_at hl 5 rfl) ?_
        refine lv_iadd hx hb dX9_toCome_23 ?_
        refine lv_istore (lv' := [(6, .int (q18 + x5)), (0, .ref (a9 0)), (1, .int x1), (2, .int x2), (3, .int x3), (4, .int x4), (5, .int x5)]) hx hb dX9_toCome_24 hl (by decide) rfl (fun ls hl => ?_)
        refine lv_aload_n hx hb dX9_toCome_26 rfl (lv_at hl 1 rfl) ?_
        refine va_get (D := D) (ci := 9) (v := .ref (a9 9)) (C := RX9) (T := TX9) (N := 52) hx hb hL inlX9 hown hK.1 hP 0 rfl rfl 19 (by decide) w3 (fun _ h9 => h9) rfl dX9_toCome_27 ?_
        refine lv_iload hx hb dX9_toCome_30 (lv_at hl 0 rfl) ?_
        obtain ⟨h32, hf⟩ := pg_some hf
        refine va_iald hx hb hK.1 hP 1 0 rfl rfl h32 dX9_toCome_32 ?_
        refine lv_iload_n hx hb dX9_toCome_33 rfl (lv_at hl 3 rfl) ?_
        refine lv_icmp_eq (tgt := 48) hx hb dX9_toCome_34 (by decide) (fun c34 => ?_) (fun c34 => ?_)
        · have hf := pif_t c34 hf
          exact hB48 (fX9_toCome_6 N c_firsts c_goes c_many c_seconds x1 x2 x3 n) hk6 x4 x5 (q18 + x5) H locs ls hf hP hD hS (lv_sub hl [1, 2, 3, 4, 5, 6, 0] rfl)
        · have hf := pif_f c34 hf
          refine lv_aload_n hx hb dX9_toCome_37 rfl (lv_at hl 1 rfl) ?_
          refine va_get (D := D) (ci := 9) (v := .ref (a9 10)) (C := RX9) (T := TX9) (N := 52) hx hb hL inlX9 hown hK.1 hP 0 rfl rfl 20 (by decide) w4 (fun _ h9 => h9) rfl dX9_toCome_38 ?_
          refine lv_iload hx hb dX9_toCome_41 (lv_at hl 0 rfl) ?_
          obtain ⟨h43, hf⟩ := pg_some hf
          refine va_iald hx hb hK.1 hP 4 0 rfl rfl h43 dX9_toCome_43 ?_
          refine lv_iload_n hx hb dX9_toCome_44 rfl (lv_at hl 3 rfl) ?_
          refine lv_icmp_ne (tgt := 52) hx hb dX9_toCome_45 (by decide) (fun c45 => ?_) (fun c45 => ?_)
          · have hf := pif_f c45 hf
            refine lv_iconst (v := 0) hx hb dX9_toCome_52 (by decide) ?_
            exact hB53 (fX9_toCome_6 N c_firsts c_goes c_many c_seconds x1 x2 x3 n) hk6 x4 x5 (q18 + x5) 0 H locs ls hf hP hD hS (lv_sub hl [1, 2, 3, 4, 5, 6, 0] rfl)
          · have hf := pif_t c45 hf
            exact hB48 (fX9_toCome_6 N c_firsts c_goes c_many c_seconds x1 x2 x3 n) hk6 x4 x5 (q18 + x5) H locs ls hf hP hD hS (lv_sub hl [1, 2, 3, 4, 5, 6, 0] rfl)
  unfold fX9_toCome at hf
  obtain ⟨H, hH⟩ : ∃ H : Heap, H = s.heap := ⟨_, rfl⟩
  obtain ⟨locs, hlo⟩ : ∃ locs : List Loc, locs = [] := ⟨_, rfl⟩
  have hP : va_P D vwCl [(a9 0, .inr (9, fl9 a9 i9 g9)), ((a9 9), .inl (cyI, 60, .inl c_firsts)), ((a9 11), .inl (cyI, 60, .inl c_goes)), ((a9 12), .inl (cyI, 2, .inl c_many)), ((a9 10), .inl (cyI, 60, .inl c_seconds))] H := by rw [hH]; exact hP
  have hS : va_S A s.heap H locs := by rw [hH, hlo]; exact hS
  suffices hw : W p l e rmX9_toCome s m av below meth c H locs 0 0 Q (F0 m 0 ls []) by rw [hH, hlo] at hw; exact hw
  refine lv_iconst (v := 0) hx hb dX9_toCome_0 (by decide) ?_
  refine lv_istore (lv' := [(4, .int 0), (0, .ref (a9 0)), (1, .int x1), (2, .int x2), (3, .int x3)]) hx hb dX9_toCome_1 hl (by decide) rfl (fun ls hl => ?_)
  refine lv_iconst (v := 0) hx hb dX9_toCome_3 (by decide) ?_
  refine lv_istore (lv' := [(5, .int 0), (4, .int 0), (0, .ref (a9 0)), (1, .int x1), (2, .int x2), (3, .int x3)]) hx hb dX9_toCome_4 hl (by decide) rfl (fun ls hl => ?_)
  exact hB6 N 0 0 H locs ls hf hP hD hS (lv_sub hl [2, 3, 4, 5, 1, 0] rfl)
abbrev rmX9_outOf : Room := { frames := 2, cells := 0, slots := 0, locals := 47 }
set_option maxHeartbeats 40000000 in
set_option maxRecDepth 100000 in
theorem mX9_outOf (l : Launch) (D : va_G) (cyI cyJ cyB cyS : ClassId) (N : Nat) (sz : Nat) (a9 : Nat → Nat) (i9 : Nat → Int32) (g9 : Nat → Int64) (c_firsts : Nat → Int32) (c_goes : Nat → Int32) (c_holds : Nat → Int32) (c_many : Nat → Int32) (c_seconds : Nat → Int32) (x1 : Int32) (x2 : Int32) (q : Int32) (hf : fX9_outOf N c_firsts c_goes c_holds c_many c_seconds x1 x2 = some q) : Met l yX9_outOf (wS yX9_outOf cX9_outOf 6 (some .int)) rmX9_outOf (va_Pc [.ref (a9 0), .int x1, .int x2] (PP D cyI cyJ cyB cyS [(a9 0, .inr (9, fl9 a9 i9 g9)), ((a9 9), .inl (cyI, 60, .inl c_firsts)), ((a9 11), .inl (cyI, 60, .inl c_goes)), ((a9 5), .inl (cyI, 32, .inl c_holds)), ((a9 12), .inl (cyI, 2, .inl c_many)), ((a9 10), .inl (cyI, 60, .inl c_seconds))] sz)) (QI q D [(a9 0, .inr (9, fl9 a9 i9 g9)), ((a9 9), .inl (cyI, 60, .inl c_firsts)), ((a9 11), .inl (cyI, 60, .inl c_goes)), ((a9 5), .inl (cyI, 32, .inl c_holds)), ((a9 12), .inl (cyI, 2, .inl c_many)), ((a9 10), .inl (cyI, 60, .inl c_seconds))] (va_A [(a9 0, .inr (9, fl9 a9 i9 g9)), ((a9 9), .inl (cyI, 60, .inl c_firsts)), ((a9 11), .inl (cyI, 60, .inl c_goes)), ((a9 5), .inl (cyI, 32, .inl c_holds)), ((a9 12), .inl (cyI, 2, .inl c_many)), ((a9 10), .inl (cyI, 60, .inl c_seconds))] sz)) 0 0 (va_A [(a9 0, .inr (9, fl9 a9 i9 g9)), ((a9 9), .inl (cyI, 60, .inl c_firsts)), ((a9 11), .inl (cyI, 60, .inl c_goes)), ((a9 5), .inl (cyI, 32, .inl c_holds)), ((a9 12), .inl (cyI, 2, .inl c_many)), ((a9 10), .inl (cyI, 60, .inl c_seconds))] sz) := by
  refine Met.ofW (cc := cX9_outOf) (maxL := 6) (ret := (some .int)) (by decide) rfl ?_
  intro p e s m args below meth c s₁ B hml hv
  obtain ⟨rfl, hsz, hP, hK, hD0⟩ := hv
  have hx := B.exec
  have hb := B.bytes
  have hr := B.returns
  have hts := atoms_spec (ws := (wS yX9_outOf cX9_outOf 6 (some .int))) B.pre
  have hown : s.vm.findClass RX9 = some m.cls := findClass_of_methodNamed B.named
  have hlocks := B.notSynchronized
  subst hsz
  have hD := hD0.self (sz := s.heap.size)
  refine w_nameQ (fun Q hQ => ?_)
  have hl := lv_entry ([.ref (a9 0), .int x1, .int x2] : List Value) (n := 6) (Nat.le_of_ble_eq_true rfl)
  rw [lg_entry_eq]
  generalize (lg_sl ([.ref (a9 0), .int x1, .int x2] : List Value) ++ List.replicate (6 - (lg_sl ([.ref (a9 0), .int x1, .int x2] : List Value)).length) Slot.unset).toArray = ls at hl ⊢
  have hl : lv_has ls 6 [(0, .ref (a9 0)), (1, .int x1), (2, .int x2)] := hl
  generalize hAe : va_A [(a9 0, .inr (9, fl9 a9 i9 g9)), ((a9 9), .inl (cyI, 60, .inl c_firsts)), ((a9 11), .inl (cyI, 60, .inl c_goes)), ((a9 5), .inl (cyI, 32, .inl c_holds)), ((a9 12), .inl (cyI, 2, .inl c_many)), ((a9 10), .inl (cyI, 60, .inl c_seconds))] s.heap.size = A at hD hQ
  have hA : ∀ q : Nat, s.heap.size ≤ q → A q := fun q h => by rw [← hAe]; exact Or.inr h
  have hS : va_S A s.heap s.heap [] := va_S.rf
  generalize ([.ref (a9 0), .int x1, .int x2] : List Value).toArray = av at hts hQ ⊢
  have hL : ∀ w ∈ wsL_law, w.before av s = true := fun w h => hts w (List.mem_cons_of_mem _ h)
  have w0 := hL (.fieldLink RX9 43 "LosingLeagueModel" "many" "[I") (hR6 15 rfl)
  have hB62 : ∀ (k2 : Int32 → Option (Int32)) (hk2 : ∀ (x3 : Int32) (H : Heap) (locs : List Loc) (ls : Array Slot), k2 x3 = some q → va_P D vwCl [(a9 0, .inr (9, fl9 a9 i9 g9)), ((a9 9), .inl (cyI, 60, .inl c_firsts)), ((a9 11), .inl (cyI, 60, .inl c_goes)), ((a9 5), .inl (cyI, 32, .inl c_holds)), ((a9 12), .inl (cyI, 2, .inl c_many)), ((a9 10), .inl (cyI, 60, .inl c_seconds))] H → va_D A [(a9 0, .inr (9, fl9 a9 i9 g9)), ((a9 9), .inl (cyI, 60, .inl c_firsts)), ((a9 11), .inl (cyI, 60, .inl c_goes)), ((a9 5), .inl (cyI, 32, .inl c_holds)), ((a9 12), .inl (cyI, 2, .inl c_many)), ((a9 10), .inl (cyI, 60, .inl c_seconds))] → va_S A s.heap H locs → lv_has ls 6 [(0, .ref (a9 0)), (1, .int x1), (2, .int x2), (3, .int x3)] → W p l e rmX9_outOf s m av below meth c H locs 0 0 Q (F0 m 2 ls [])) (k32 : Int32 → Int32 → Int32 → Option (Int32)) (hk32 : ∀ (x3 : Int32) (x4 : Int32) (x5 : Int32) (H : Heap) (locs : List Loc) (ls : Array Slot), k32 x3 x4 x5 = some q → va_P D vwCl [(a9 0, .inr (9, fl9 a9 i9 g9)), ((a9 9), .inl (cyI, 60, .inl c_firsts)), ((a9 11), .inl (cyI, 60, .inl c_goes)), ((a9 5), .inl (cyI, 32, .inl c_holds)), ((a9 12), .inl (cyI, 2, .inl c_many)), ((a9 10), .inl (cyI, 60, .inl c_seconds))] H → va_D A [(a9 0, .inr (9, fl9 a9 i9 g9)), ((a9 9), .inl (cyI, 60, .inl c_firsts)), ((a9 11), .inl (cyI, 60, .inl c_goes)), ((a9 5), .inl (cyI, 32, .inl c_holds)), ((a9 12), .inl (cyI, 2, .inl c_many)), ((a9 10), .inl (cyI, 60, .inl c_seconds))] → va_S A s.heap H locs → lv_has ls 6 [(0, .ref (a9 0)), (1, .int x1), (2, .int x2), (3, .int x3), (4, .int x4), (5, .int x5)] → W p l e rmX9_outOf s m av below meth c H locs 0 0 Q (F0 m 32 ls [])), ∀ (x3 : Int32) (x4 : Int32) (x5 : Int32) (H : Heap) (locs : List Loc) (ls : Array Slot), fX9_outOf_62 N c_firsts c_goes c_holds c_many c_seconds x1 x2 k2 k32 x3 x4 x5 = some q → va_P D vwCl [(a9 0, .inr (9, fl9 a9 i9 g9)), ((a9 9), .inl (cyI, 60, .inl c_firsts)), ((a9 11), .inl (cyI, 60, .inl c_goes)), ((a9 5), .inl (cyI, 32, .inl c_holds)), ((a9 12), .inl (cyI, 2, .inl c_many)), ((a9 10), .inl (cyI, 60, .inl c_seconds))] H → va_D A [(a9 0, .inr (9, fl9 a9 i9 g9)), ((a9 9), .inl (cyI, 60, .inl c_firsts)), ((a9 11), .inl (cyI, 60, .inl c_goes)), ((a9 5), .inl (cyI, 32, .inl c_holds)), ((a9 12), .inl (cyI, 2, .inl c_many)), ((a9 10), .inl (cyI, 60, .inl c_seconds))] → va_S A s.heap H locs → lv_has ls 6 [(0, .ref (a9 0)), (1, .int x1), (2, .int x2), (3, .int x3), (4, .int x4), (5, .int x5)] → W p l e rmX9_outOf s m av below meth c H locs 0 0 Q (F0 m 62 ls []) := by
    intro k2 hk2 k32 hk32 x3 x4 x5 H locs ls hf hP hD hS hl
    unfold fX9_outOf_62 at hf
    refine lv_iinc (v := x5 + 1) (lv' := [(5, .int (x5 + 1)), (0, .ref (a9 0)), (1, .int x1), (2, .int x2), (3, .int x3), (4, .int x4)]) hx hb dX9_outOf_62 hl (k := 5) rfl rfl (by decide) rfl (fun ls hl => ?_)
    refine lv_goto (tgt := 32) hx hb dX9_outOf_65 (by decide) ?_
    exact hk32 x3 x4 (x5 + 1) H locs ls hf hP hD hS (lv_sub hl [1, 2, 3, 4, 5, 0] rfl)
  have hB32 : ∀ (k2 : Int32 → Option (Int32)) (hk2 : ∀ (x3 : Int32) (H : Heap) (locs : List Loc) (ls : Array Slot), k2 x3 = some q → va_P D vwCl [(a9 0, .inr (9, fl9 a9 i9 g9)), ((a9 9), .inl (cyI, 60, .inl c_firsts)), ((a9 11), .inl (cyI, 60, .inl c_goes)), ((a9 5), .inl (cyI, 32, .inl c_holds)), ((a9 12), .inl (cyI, 2, .inl c_many)), ((a9 10), .inl (cyI, 60, .inl c_seconds))] H → va_D A [(a9 0, .inr (9, fl9 a9 i9 g9)), ((a9 9), .inl (cyI, 60, .inl c_firsts)), ((a9 11), .inl (cyI, 60, .inl c_goes)), ((a9 5), .inl (cyI, 32, .inl c_holds)), ((a9 12), .inl (cyI, 2, .inl c_many)), ((a9 10), .inl (cyI, 60, .inl c_seconds))] → va_S A s.heap H locs → lv_has ls 6 [(0, .ref (a9 0)), (1, .int x1), (2, .int x2), (3, .int x3)] → W p l e rmX9_outOf s m av below meth c H locs 0 0 Q (F0 m 2 ls [])) (n : Nat), ∀ (x3 : Int32) (x4 : Int32) (x5 : Int32) (H : Heap) (locs : List Loc) (ls : Array Slot), fX9_outOf_32 N c_firsts c_goes c_holds c_many c_seconds x1 x2 k2 n x3 x4 x5 = some q → va_P D vwCl [(a9 0, .inr (9, fl9 a9 i9 g9)), ((a9 9), .inl (cyI, 60, .inl c_firsts)), ((a9 11), .inl (cyI, 60, .inl c_goes)), ((a9 5), .inl (cyI, 32, .inl c_holds)), ((a9 12), .inl (cyI, 2, .inl c_many)), ((a9 10), .inl (cyI, 60, .inl c_seconds))] H → va_D A [(a9 0, .inr (9, fl9 a9 i9 g9)), ((a9 9), .inl (cyI, 60, .inl c_firsts)), ((a9 11), .inl (cyI, 60, .inl c_goes)), ((a9 5), .inl (cyI, 32, .inl c_holds)), ((a9 12), .inl (cyI, 2, .inl c_many)), ((a9 10), .inl (cyI, 60, .inl c_seconds))] → va_S A s.heap H locs → lv_has ls 6 [(0, .ref (a9 0)), (1, .int x1), (2, .int x2), (3, .int x3), (4, .int x4), (5, .int x5)] → W p l e rmX9_outOf s m av below meth c H locs 0 0 Q (F0 m 32 ls []) := by
    intro k2 hk2 n
    induction n with
    | zero => intro x3 x4 x5 H locs ls hf; exact absurd hf (by simp [fX9_outOf_32])
    | succ n hk32 =>
      intro x3 x4 x5 H locs ls hf hP hD hS hl
      rw [fX9_outOf_32] at hf
      refine lv_iload hx hb dX9_outOf_32 (lv_at hl 5 rfl) ?_
      refine lv_aload_n hx hb dX9_outOf_34 rfl (lv_at hl 0 rfl) ?_
      obtain ⟨q35, e35, hf⟩ := pb_some hf
      refine cc_i (wc := [(a9 0, .inr (9, fl9 a9 i9 g9)), ((a9 5), .inl (cyI, 32, .inl c_holds))]) (wr := [((a9 9), .inl (cyI, 60, .inl c_firsts)), ((a9 11), .inl (cyI, 60, .inl c_goes)), ((a9 12), .inl (cyI, 2, .inl c_many)), ((a9 10), .inl (cyI, 60, .inl c_seconds))]) (w1 := [(a9 0, .inr (9, fl9 a9 i9 g9)), ((a9 5), .inl (cyI, 32, .inl c_holds))]) (wn := [(a9 0, .inr (9, fl9 a9 i9 g9)), ((a9 9), .inl (cyI, 60, .inl c_firsts)), ((a9 11), .inl (cyI, 60, .inl c_goes)), ((a9 5), .inl (cyI, 32, .inl c_holds)), ((a9 12), .inl (cyI, 2, .inl c_many)), ((a9 10), .inl (cyI, 60, .inl c_seconds))]) hP hD hS hA [0, 3] [1, 2, 4, 5] [4, 0, 1, 5, 2, 3] rfl rfl rfl (by decide) rfl rfl (va_runV (C := RX9) (As := []) (rest := [.int x5]) ⟨hx, hb, hml, hown, hL⟩ (mX9_sides l D cyI cyJ cyB cyS N H.size a9 i9 g9 c_holds  q35 e35) (cwV 0 hL (gV (hR19 15 rfl) (hR19 16 rfl) (hR19 17 rfl) (hR1 5 rfl) (hR19 18 rfl)) rfl rfl rfl (by decide +kernel) ⟨Nat.le_of_ble_eq_true rfl, Nat.le_of_ble_eq_true rfl⟩) (PP_preV (ci := 9) (q0 := 0) hP hD hK [0, 3] rfl rfl rfl rfl) rfl rfl hl.1 rfl (lv_room (Nat.le_of_ble_eq_true rfl)) dX9_outOf_35 ⟨Nat.le_of_ble_eq_true rfl, Nat.le_of_ble_eq_true rfl⟩) (fun H locs hP hD hS => ?_)
      refine lv_icmp_ge (tgt := 68) hx hb dX9_outOf_38 (by decide) (fun c38 => ?_) (fun c38 => ?_)
      · have hf := pif_t c38 hf
        refine lv_iinc (v := x3 + 1) (lv' := [(3, .int (x3 + 1)), (0, .ref (a9 0)), (1, .int x1), (2, .int x2), (4, .int x4), (5, .int x5)]) hx hb dX9_outOf_68 hl (k := 3) rfl rfl (by decide) rfl (fun ls hl => ?_)
        refine lv_goto (tgt := 2) hx hb dX9_outOf_71 (by decide) ?_
        exact hk2 (x3 + 1) H locs ls hf hP hD hS (lv_sub hl [1, 2, 3, 0] rfl)
      · have hf := pif_f c38 hf
        refine lv_iload hx hb dX9_outOf_41 (lv_at hl 5 rfl) ?_
        refine lv_iload_n hx hb dX9_outOf_43 rfl (lv_at hl 2 rfl) ?_
        refine lv_icmp_eq (tgt := 62) hx hb dX9_outOf_44 (by decide) (fun c44 => ?_) (fun c44 => ?_)
        · have hf := pif_t c44 hf
          exact hB62 k2 hk2 (fX9_outOf_32 N c_firsts c_goes c_holds c_many c_seconds x1 x2 k2 n) hk32 x3 x4 x5 H locs ls hf hP hD hS (lv_sub hl [0, 1, 2, 3, 4, 5] rfl)
        · have hf := pif_f c44 hf
          refine lv_iload hx hb dX9_outOf_47 (lv_at hl 4 rfl) ?_
          refine lv_aload_n hx hb dX9_outOf_49 rfl (lv_at hl 0 rfl) ?_
          refine lv_iload_n hx hb dX9_outOf_50 rfl (lv_at hl 1 rfl) ?_
          refine lv_iload hx hb dX9_outOf_51 (lv_at hl 5 rfl) ?_
          refine lv_iload_n hx hb dX9_outOf_53 rfl (lv_at hl 3 rfl) ?_
          obtain ⟨q54, e54, hf⟩ := pb_some hf
          refine cc_i (wc := [(a9 0, .inr (9, fl9 a9 i9 g9)), ((a9 9), .inl (cyI, 60, .inl c_firsts)), ((a9 11), .inl (cyI, 60, .inl c_goes)), ((a9 10), .inl (cyI, 60, .inl c_seconds))]) (wr := [((a9 5), .inl (cyI, 32, .inl c_holds)), ((a9 12), .inl (cyI, 2, .inl c_many))]) (w1 := [(a9 0, .inr (9, fl9 a9 i9 g9)), ((a9 9), .inl (cyI, 60, .inl c_firsts)), ((a9 11), .inl (cyI, 60, .inl c_goes)), ((a9 10), .inl (cyI, 60, .inl c_seconds))]) (wn := [(a9 0, .inr (9, fl9 a9 i9 g9)), ((a9 9), .inl (cyI, 60, .inl c_firsts)), ((a9 11), .inl (cyI, 60, .inl c_goes)), ((a9 5), .inl (cyI, 32, .inl c_holds)), ((a9 12), .inl (cyI, 2, .inl c_many)), ((a9 10), .inl (cyI, 60, .inl c_seconds))]) hP hD hS hA [0, 1, 2, 5] [3, 4] [2, 3, 4, 0, 1, 5] rfl rfl rfl (by decide) rfl rfl (va_runV (C := RX9) (As := [.int x1, .int x5, .int x3]) (rest := [.int x4]) ⟨hx, hb, hml, hown, hL⟩ (mX9_wonUpTo l D cyI cyJ cyB cyS N H.size a9 i9 g9 c_firsts c_goes c_seconds x1 x5 x3 q54 e54) (cwV 3 hL (gV (hR27 21 rfl) (hR27 22 rfl) (hR27 23 rfl) (hR1 5 rfl) (hR28 0 rfl)) rfl rfl rfl (by decide +kernel) ⟨Nat.le_of_ble_eq_true rfl, Nat.le_of_ble_eq_true rfl⟩) (PP_preV (ci := 9) (q0 := 0) hP hD hK [0, 1, 2, 5] rfl rfl rfl rfl) rfl rfl hl.1 rfl (lv_room (Nat.le_of_ble_eq_true rfl)) dX9_outOf_54 ⟨Nat.le_of_ble_eq_true rfl, Nat.le_of_ble_eq_true rfl⟩) (fun H locs hP hD hS => ?_)
          refine lv_icmp_ge (tgt := 62) hx hb dX9_outOf_57 (by decide) (fun c57 => ?_) (fun c57 => ?_)
          · have hf := pif_t c57 hf
            exact hB62 k2 hk2 (fX9_outOf_32 N c_firsts c_goes c_holds c_many c_seconds x1 x2 k2 n) hk32 x3 x4 x5 H locs ls hf hP hD hS (lv_sub hl [0, 1, 2, 3, 4, 5] rfl)
          · have hf := pif_f c57 hf
            refine lv_iload_n hx hb dX9_outOf_60 rfl (lv_at hl 3 rfl) ?_
            exact ret_i (q := q) (g := fun q => q) (wp := fun q => [(a9 0, .inr (9, fl9 a9 i9 g9)), ((a9 9), .inl (cyI, 60, .inl c_firsts)), ((a9 11), .inl (cyI, 60, .inl c_goes)), ((a9 5), .inl (cyI, 32, .inl c_holds)), ((a9 12), .inl (cyI, 2, .inl c_many)), ((a9 10), .inl (cyI, 60, .inl c_seconds))]) hQ hf hx hb hr hlocks hP hD hS dX9_outOf_61 rfl
  have hB2 : ∀ (n : Nat), ∀ (x3 : Int32) (H : Heap) (locs : List Loc) (ls : Array Slot), fX9_outOf_2 N c_firsts c_goes c_holds c_many c_seconds x1 x2 n x3 = some q → va_P D vwCl [(a9 0, .inr (9, fl9 a9 i9 g9)), ((a9 9), .inl (cyI, 60, .inl c_firsts)), ((a9 11), .inl (cyI, 60, .inl c_goes)), ((a9 5), .inl (cyI, 32, .inl c_holds)), ((a9 12), .inl (cyI, 2, .inl c_many)), ((a9 10), .inl (cyI, 60, .inl c_seconds))] H → va_D A [(a9 0, .inr (9, fl9 a9 i9 g9)), ((a9 9), .inl (cyI, 60, .inl c_firsts)), ((a9 11), .inl (cyI, 60, .inl c_goes)), ((a9 5), .inl (cyI, 32, .inl c_holds)), ((a9 12), .inl (cyI, 2, .inl c_many)), ((a9 10), .inl (cyI, 60, .inl c_seconds))] → va_S A s.heap H locs → lv_has ls 6 [(0, .ref (a9 0)), (1, .int x1), (2, .int x2), (3, .int x3)] → W p l e rmX9_outOf s m av below meth c H locs 0 0 Q (F0 m 2 ls []) := by
    intro n
    induction n with
    | zero => intro x3 H locs ls hf; exact absurd hf (by simp [fX9_outOf_2])
    | succ n hk2 =>
      intro x3 H locs ls hf hP hD hS hl
      rw [fX9_outOf_2] at hf
      refine lv_iload_n hx hb dX9_outOf_2 rfl (lv_at hl 3 rfl) ?_
      refine lv_aload_n hx hb dX9_outOf_3 rfl (lv_at hl 0 rfl) ?_
      refine va_get (D := D) (ci := 9) (v := .ref (a9 12)) (C := RX9) (T := TX9) (N := 52) hx hb hL inlX9 hown hK.1 hP 0 rfl rfl 22 (by decide) w0 (fun _ h9 => h9) rfl dX9_outOf_4 ?_
      refine lv_iload_n hx hb dX9_outOf_7 rfl (lv_at hl 1 rfl) ?_
      obtain ⟨h8, hf⟩ := pg_some hf
      refine va_iald hx hb hK.1 hP 4 0 rfl rfl h8 dX9_outOf_8 ?_
      refine lv_icmp_ge (tgt := 74) hx hb dX9_outOf_9 (by decide) (fun c9 => ?_) (fun c9 => ?_)
      · have hf := pif_t c9 hf
        refine lv_bipush (v := (-4)) hx hb dX9_outOf_74 (by decide) ?_
        exact ret_i (q := q) (g := fun q => q) (wp := fun q => [(a9 0, .inr (9, fl9 a9 i9 g9)), ((a9 9), .inl (cyI, 60, .inl c_firsts)), ((a9 11), .inl (cyI, 60, .inl c_goes)), ((a9 5), .inl (cyI, 32, .inl c_holds)), ((a9 12), .inl (cyI, 2, .inl c_many)), ((a9 10), .inl (cyI, 60, .inl c_seconds))]) hQ hf hx hb hr hlocks hP hD hS dX9_outOf_76 rfl
      · have hf := pif_f c9 hf
        refine lv_aload_n hx hb dX9_outOf_12 rfl (lv_at hl 0 rfl) ?_
        refine lv_iload_n hx hb dX9_outOf_13 rfl (lv_at hl 1 rfl) ?_
        refine lv_iload_n hx hb dX9_outOf_14 rfl (lv_at hl 2 rfl) ?_
        refine lv_iload_n hx hb dX9_outOf_15 rfl (lv_at hl 3 rfl) ?_
        obtain ⟨q16, e16, hf⟩ := pb_some hf
        refine cc_i (wc := [(a9 0, .inr (9, fl9 a9 i9 g9)), ((a9 9), .inl (cyI, 60, .inl c_firsts)), ((a9 11), .inl (cyI, 60, .inl c_goes)), ((a9 10), .inl (cyI, 60, .inl c_seconds))]) (wr := [((a9 5), .inl (cyI, 32, .inl c_holds)), ((a9 12), .inl (cyI, 2, .inl c_many))]) (w1 := [(a9 0, .inr (9, fl9 a9 i9 g9)), ((a9 9), .inl (cyI, 60, .inl c_firsts)), ((a9 11), .inl (cyI, 60, .inl c_goes)), ((a9 10), .inl (cyI, 60, .inl c_seconds))]) (wn := [(a9 0, .inr (9, fl9 a9 i9 g9)), ((a9 9), .inl (cyI, 60, .inl c_firsts)), ((a9 11), .inl (cyI, 60, .inl c_goes)), ((a9 5), .inl (cyI, 32, .inl c_holds)), ((a9 12), .inl (cyI, 2, .inl c_many)), ((a9 10), .inl (cyI, 60, .inl c_seconds))]) hP hD hS hA [0, 1, 2, 5] [3, 4] [2, 3, 4, 0, 1, 5] rfl rfl rfl (by decide) rfl rfl (va_runV (C := RX9) (As := [.int x1, .int x2, .int x3]) (rest := []) ⟨hx, hb, hml, hown, hL⟩ (mX9_wonUpTo l D cyI cyJ cyB cyS N H.size a9 i9 g9 c_firsts c_goes c_seconds x1 x2 x3 q16 e16) (cwV 3 hL (gV (hR27 21 rfl) (hR27 22 rfl) (hR27 23 rfl) (hR1 5 rfl) (hR28 0 rfl)) rfl rfl rfl (by decide +kernel) ⟨Nat.le_of_ble_eq_true rfl, Nat.le_of_ble_eq_true rfl⟩) (PP_preV (ci := 9) (q0 := 0) hP hD hK [0, 1, 2, 5] rfl rfl rfl rfl) rfl rfl hl.1 rfl (lv_room (Nat.le_of_ble_eq_true rfl)) dX9_outOf_16 ⟨Nat.le_of_ble_eq_true rfl, Nat.le_of_ble_eq_true rfl⟩) (fun H locs hP hD hS => ?_)
        refine lv_aload_n hx hb dX9_outOf_19 rfl (lv_at hl 0 rfl) ?_
        refine lv_iload_n hx hb dX9_outOf_20 rfl (lv_at hl 1 rfl) ?_
        refine lv_iload_n hx hb dX9_outOf_21 rfl (lv_at hl 2 rfl) ?_
        refine lv_iload_n hx hb dX9_outOf_22 rfl (lv_at hl 3 rfl) ?_
        obtain ⟨q23, e23, hf⟩ := pb_some hf
        refine cc_i (wc := [(a9 0, .inr (9, fl9 a9 i9 g9)), ((a9 9), .inl (cyI, 60, .inl c_firsts)), ((a9 11), .inl (cyI, 60, .inl c_goes)), ((a9 12), .inl (cyI, 2, .inl c_many)), ((a9 10), .inl (cyI, 60, .inl c_seconds))]) (wr := [((a9 5), .inl (cyI, 32, .inl c_holds))]) (w1 := [(a9 0, .inr (9, fl9 a9 i9 g9)), ((a9 9), .inl (cyI, 60, .inl c_firsts)), ((a9 11), .inl (cyI, 60, .inl c_goes)), ((a9 12), .inl (cyI, 2, .inl c_many)), ((a9 10), .inl (cyI, 60, .inl c_seconds))]) (wn := [(a9 0, .inr (9, fl9 a9 i9 g9)), ((a9 9), .inl (cyI, 60, .inl c_firsts)), ((a9 11), .inl (cyI, 60, .inl c_goes)), ((a9 5), .inl (cyI, 32, .inl c_holds)), ((a9 12), .inl (cyI, 2, .inl c_many)), ((a9 10), .inl (cyI, 60, .inl c_seconds))]) hP hD hS hA [0, 1, 2, 4, 5] [3] [1, 2, 3, 0, 4, 5] rfl rfl rfl (by decide) rfl rfl (va_runV (C := RX9) (As := [.int x1, .int x2, .int x3]) (rest := [.int q16]) ⟨hx, hb, hml, hown, hL⟩ (mX9_toCome l D cyI cyJ cyB cyS N H.size a9 i9 g9 c_firsts c_goes c_many c_seconds x1 x2 x3 q23 e23) (cwV 3 hL (gV (hR28 1 rfl) (hR28 2 rfl) (hR28 3 rfl) (hR1 5 rfl) (hR28 4 rfl)) rfl rfl rfl (by decide +kernel) ⟨Nat.le_of_ble_eq_true rfl, Nat.le_of_ble_eq_true rfl⟩) (PP_preV (ci := 9) (q0 := 0) hP hD hK [0, 1, 2, 4, 5] rfl rfl rfl rfl) rfl rfl hl.1 rfl (lv_room (Nat.le_of_ble_eq_true rfl)) dX9_outOf_23 ⟨Nat.le_of_ble_eq_true rfl, Nat.le_of_ble_eq_true rfl⟩) (fun H locs hP hD hS => ?_)
        refine lv_iadd hx hb dX9_outOf_26 ?_
        refine lv_istore (lv' := [(4, .int (q16 + q23)), (0, .ref (a9 0)), (1, .int x1), (2, .int x2), (3, .int x3)]) hx hb dX9_outOf_27 hl (by decide) rfl (fun ls hl => ?_)
        refine lv_iconst (v := 0) hx hb dX9_outOf_29 (by decide) ?_
        refine lv_istore (lv' := [(5, .int 0), (4, .int (q16 + q23)), (0, .ref (a9 0)), (1, .int x1), (2, .int x2), (3, .int x3)]) hx hb dX9_outOf_30 hl (by decide) rfl (fun ls hl => ?_)
        exact hB32 (fX9_outOf_2 N c_firsts c_goes c_holds c_many c_seconds x1 x2 n) hk2 N x3 (q16 + q23) 0 H locs ls hf hP hD hS (lv_sub hl [2, 3, 4, 5, 1, 0] rfl)
  unfold fX9_outOf at hf
  obtain ⟨H, hH⟩ : ∃ H : Heap, H = s.heap := ⟨_, rfl⟩
  obtain ⟨locs, hlo⟩ : ∃ locs : List Loc, locs = [] := ⟨_, rfl⟩
  have hP : va_P D vwCl [(a9 0, .inr (9, fl9 a9 i9 g9)), ((a9 9), .inl (cyI, 60, .inl c_firsts)), ((a9 11), .inl (cyI, 60, .inl c_goes)), ((a9 5), .inl (cyI, 32, .inl c_holds)), ((a9 12), .inl (cyI, 2, .inl c_many)), ((a9 10), .inl (cyI, 60, .inl c_seconds))] H := by rw [hH]; exact hP
  have hS : va_S A s.heap H locs := by rw [hH, hlo]; exact hS
  suffices hw : W p l e rmX9_outOf s m av below meth c H locs 0 0 Q (F0 m 0 ls []) by rw [hH, hlo] at hw; exact hw
  refine lv_iconst (v := 0) hx hb dX9_outOf_0 (by decide) ?_
  refine lv_istore_n (lv' := [(3, .int 0), (0, .ref (a9 0)), (1, .int x1), (2, .int x2)]) hx hb dX9_outOf_1 rfl hl (by decide) rfl (fun ls hl => ?_)
  exact hB2 N 0 H locs ls hf hP hD hS (lv_sub hl [1, 2, 3, 0] rfl)
abbrev rmX9_out : Room := { frames := 3, cells := 0, slots := 0, locals := 72 }
set_option maxHeartbeats 40000000 in
set_option maxRecDepth 100000 in
theorem mX9_out (l : Launch) (D : va_G) (cyI cyJ cyB cyS : ClassId) (N : Nat) (sz : Nat) (a9 : Nat → Nat) (i9 : Nat → Int32) (g9 : Nat → Int64) (c_firsts : Nat → Int32) (c_goes : Nat → Int32) (c_holds : Nat → Int32) (c_many : Nat → Int32) (c_seconds : Nat → Int32) (x1 : Int32) (q : Int32) (hf : fX9_out N c_firsts c_goes c_holds c_many c_seconds x1 = some q) : Met l yX9_out (wS yX9_out cX9_out 2 (some .int)) rmX9_out (va_Pc [.ref (a9 0), .int x1] (PP D cyI cyJ cyB cyS [(a9 0, .inr (9, fl9 a9 i9 g9)), ((a9 9), .inl (cyI, 60, .inl c_firsts)), ((a9 11), .inl (cyI, 60, .inl c_goes)), ((a9 5), .inl (cyI, 32, .inl c_holds)), ((a9 12), .inl (cyI, 2, .inl c_many)), ((a9 10), .inl (cyI, 60, .inl c_seconds))] sz)) (QI q D [(a9 0, .inr (9, fl9 a9 i9 g9)), ((a9 9), .inl (cyI, 60, .inl c_firsts)), ((a9 11), .inl (cyI, 60, .inl c_goes)), ((a9 5), .inl (cyI, 32, .inl c_holds)), ((a9 12), .inl (cyI, 2, .inl c_many)), ((a9 10), .inl (cyI, 60, .inl c_seconds))] (va_A [(a9 0, .inr (9, fl9 a9 i9 g9)), ((a9 9), .inl (cyI, 60, .inl c_firsts)), ((a9 11), .inl (cyI, 60, .inl c_goes)), ((a9 5), .inl (cyI, 32, .inl c_holds)), ((a9 12), .inl (cyI, 2, .inl c_many)), ((a9 10), .inl (cyI, 60, .inl c_seconds))] sz)) 0 0 (va_A [(a9 0, .inr (9, fl9 a9 i9 g9)), ((a9 9), .inl (cyI, 60, .inl c_firsts)), ((a9 11), .inl (cyI, 60, .inl c_goes)), ((a9 5), .inl (cyI, 32, .inl c_holds)), ((a9 12), .inl (cyI, 2, .inl c_many)), ((a9 10), .inl (cyI, 60, .inl c_seconds))] sz) := by
  refine Met.ofW (cc := cX9_out) (maxL := 2) (ret := (some .int)) (by decide) rfl ?_
  intro p e s m args below meth c s₁ B hml hv
  obtain ⟨rfl, hsz, hP, hK, hD0⟩ := hv
  have hx := B.exec
  have hb := B.bytes
  have hr := B.returns
  have hts := atoms_spec (ws := (wS yX9_out cX9_out 2 (some .int))) B.pre
  have hown : s.vm.findClass RX9 = some m.cls := findClass_of_methodNamed B.named
  have hlocks := B.notSynchronized
  subst hsz
  have hD := hD0.self (sz := s.heap.size)
  refine w_nameQ (fun Q hQ => ?_)
  have hl := lv_entry ([.ref (a9 0), .int x1] : List Value) (n := 2) (Nat.le_of_ble_eq_true rfl)
  rw [lg_entry_eq]
  generalize (lg_sl ([.ref (a9 0), .int x1] : List Value) ++ List.replicate (2 - (lg_sl ([.ref (a9 0), .int x1] : List Value)).length) Slot.unset).toArray = ls at hl ⊢
  have hl : lv_has ls 2 [(0, .ref (a9 0)), (1, .int x1)] := hl
  generalize hAe : va_A [(a9 0, .inr (9, fl9 a9 i9 g9)), ((a9 9), .inl (cyI, 60, .inl c_firsts)), ((a9 11), .inl (cyI, 60, .inl c_goes)), ((a9 5), .inl (cyI, 32, .inl c_holds)), ((a9 12), .inl (cyI, 2, .inl c_many)), ((a9 10), .inl (cyI, 60, .inl c_seconds))] s.heap.size = A at hD hQ
  have hA : ∀ q : Nat, s.heap.size ≤ q → A q := fun q h => by rw [← hAe]; exact Or.inr h
  have hS : va_S A s.heap s.heap [] := va_S.rf
  generalize ([.ref (a9 0), .int x1] : List Value).toArray = av at hts hQ ⊢
  have hL : ∀ w ∈ wsL_law, w.before av s = true := fun w h => hts w (List.mem_cons_of_mem _ h)
  have hB18 : ∀ (s0 : Int32) (H : Heap) (locs : List Loc) (ls : Array Slot), fX9_out_18 N c_firsts c_goes c_holds c_many c_seconds x1 s0 = some q → va_P D vwCl [(a9 0, .inr (9, fl9 a9 i9 g9)), ((a9 9), .inl (cyI, 60, .inl c_firsts)), ((a9 11), .inl (cyI, 60, .inl c_goes)), ((a9 5), .inl (cyI, 32, .inl c_holds)), ((a9 12), .inl (cyI, 2, .inl c_many)), ((a9 10), .inl (cyI, 60, .inl c_seconds))] H → va_D A [(a9 0, .inr (9, fl9 a9 i9 g9)), ((a9 9), .inl (cyI, 60, .inl c_firsts)), ((a9 11), .inl (cyI, 60, .inl c_goes)), ((a9 5), .inl (cyI, 32, .inl c_holds)), ((a9 12), .inl (cyI, 2, .inl c_many)), ((a9 10), .inl (cyI, 60, .inl c_seconds))] → va_S A s.heap H locs → lv_has ls 2 [] → W p l e rmX9_out s m av below meth c H locs 0 0 Q (F0 m 18 ls [.int s0]) := by
    intro s0 H locs ls hf hP hD hS hl
    unfold fX9_out_18 at hf
    exact ret_i (q := q) (g := fun q => q) (wp := fun q => [(a9 0, .inr (9, fl9 a9 i9 g9)), ((a9 9), .inl (cyI, 60, .inl c_firsts)), ((a9 11), .inl (cyI, 60, .inl c_goes)), ((a9 5), .inl (cyI, 32, .inl c_holds)), ((a9 12), .inl (cyI, 2, .inl c_many)), ((a9 10), .inl (cyI, 60, .inl c_seconds))]) hQ hf hx hb hr hlocks hP hD hS dX9_out_18 rfl
  unfold fX9_out at hf
  obtain ⟨H, hH⟩ : ∃ H : Heap, H = s.heap := ⟨_, rfl⟩
  obtain ⟨locs, hlo⟩ : ∃ locs : List Loc, locs = [] := ⟨_, rfl⟩
  have hP : va_P D vwCl [(a9 0, .inr (9, fl9 a9 i9 g9)), ((a9 9), .inl (cyI, 60, .inl c_firsts)), ((a9 11), .inl (cyI, 60, .inl c_goes)), ((a9 5), .inl (cyI, 32, .inl c_holds)), ((a9 12), .inl (cyI, 2, .inl c_many)), ((a9 10), .inl (cyI, 60, .inl c_seconds))] H := by rw [hH]; exact hP
  have hS : va_S A s.heap H locs := by rw [hH, hlo]; exact hS
  suffices hw : W p l e rmX9_out s m av below meth c H locs 0 0 Q (F0 m 0 ls []) by rw [hH, hlo] at hw; exact hw
  refine lv_aload_n hx hb dX9_out_0 rfl (lv_at hl 0 rfl) ?_
  refine lv_iload_n hx hb dX9_out_1 rfl (lv_at hl 1 rfl) ?_
  obtain ⟨q2, e2, hf⟩ := pb_some hf
  refine cc_i (wc := [(a9 0, .inr (9, fl9 a9 i9 g9)), ((a9 5), .inl (cyI, 32, .inl c_holds))]) (wr := [((a9 9), .inl (cyI, 60, .inl c_firsts)), ((a9 11), .inl (cyI, 60, .inl c_goes)), ((a9 12), .inl (cyI, 2, .inl c_many)), ((a9 10), .inl (cyI, 60, .inl c_seconds))]) (w1 := [(a9 0, .inr (9, fl9 a9 i9 g9)), ((a9 5), .inl (cyI, 32, .inl c_holds))]) (wn := [(a9 0, .inr (9, fl9 a9 i9 g9)), ((a9 9), .inl (cyI, 60, .inl c_firsts)), ((a9 11), .inl (cyI, 60, .inl c_goes)), ((a9 5), .inl (cyI, 32, .inl c_holds)), ((a9 12), .inl (cyI, 2, .inl c_many)), ((a9 10), .inl (cyI, 60, .inl c_seconds))]) hP hD hS hA [0, 3] [1, 2, 4, 5] [4, 0, 1, 5, 2, 3] rfl rfl rfl (by decide) rfl rfl (va_runV (C := RX9) (As := [.int x1]) (rest := []) ⟨hx, hb, hml, hown, hL⟩ (mX9_isSide l D cyI cyJ cyB cyS N H.size a9 i9 g9 c_holds x1 q2 e2) (cwV 1 hL (gV (hR19 11 rfl) (hR19 12 rfl) (hR19 13 rfl) (hR1 5 rfl) (hR19 14 rfl)) rfl rfl rfl (by decide +kernel) ⟨Nat.le_of_ble_eq_true rfl, Nat.le_of_ble_eq_true rfl⟩) (PP_preV (ci := 9) (q0 := 0) hP hD hK [0, 3] rfl rfl rfl rfl) rfl rfl hl.1 rfl (lv_room (Nat.le_of_ble_eq_true rfl)) dX9_out_2 ⟨Nat.le_of_ble_eq_true rfl, Nat.le_of_ble_eq_true rfl⟩) (fun H locs hP hD hS => ?_)
  refine lv_if_eq (tgt := 17) hx hb dX9_out_5 (by decide) (fun c5 => ?_) (fun c5 => ?_)
  · have hf := pif_t c5 hf
    refine lv_iconst (v := (-1)) hx hb dX9_out_17 (by decide) ?_
    exact hB18 (-1) H locs ls hf hP hD hS (lv_sub hl [] rfl)
  · have hf := pif_f c5 hf
    refine lv_aload_n hx hb dX9_out_8 rfl (lv_at hl 0 rfl) ?_
    refine lv_iconst (v := 0) hx hb dX9_out_9 (by decide) ?_
    refine lv_iload_n hx hb dX9_out_10 rfl (lv_at hl 1 rfl) ?_
    obtain ⟨q11, e11, hf⟩ := pb_some hf
    refine cc_i (wc := [(a9 0, .inr (9, fl9 a9 i9 g9)), ((a9 9), .inl (cyI, 60, .inl c_firsts)), ((a9 11), .inl (cyI, 60, .inl c_goes)), ((a9 5), .inl (cyI, 32, .inl c_holds)), ((a9 12), .inl (cyI, 2, .inl c_many)), ((a9 10), .inl (cyI, 60, .inl c_seconds))]) (wr := []) (w1 := [(a9 0, .inr (9, fl9 a9 i9 g9)), ((a9 9), .inl (cyI, 60, .inl c_firsts)), ((a9 11), .inl (cyI, 60, .inl c_goes)), ((a9 5), .inl (cyI, 32, .inl c_holds)), ((a9 12), .inl (cyI, 2, .inl c_many)), ((a9 10), .inl (cyI, 60, .inl c_seconds))]) (wn := [(a9 0, .inr (9, fl9 a9 i9 g9)), ((a9 9), .inl (cyI, 60, .inl c_firsts)), ((a9 11), .inl (cyI, 60, .inl c_goes)), ((a9 5), .inl (cyI, 32, .inl c_holds)), ((a9 12), .inl (cyI, 2, .inl c_many)), ((a9 10), .inl (cyI, 60, .inl c_seconds))]) hP hD hS hA [0, 1, 2, 3, 4, 5] [] [0, 1, 2, 3, 4, 5] rfl rfl rfl (by decide) rfl rfl (va_runV (C := RX9) (As := [.int 0, .int x1]) (rest := []) ⟨hx, hb, hml, hown, hL⟩ (mX9_outOf l D cyI cyJ cyB cyS N H.size a9 i9 g9 c_firsts c_goes c_holds c_many c_seconds 0 x1 q11 e11) (cwV 2 hL (gV (hR27 17 rfl) (hR27 18 rfl) (hR27 19 rfl) (hR1 5 rfl) (hR27 20 rfl)) rfl rfl rfl (by decide +kernel) ⟨Nat.le_of_ble_eq_true rfl, Nat.le_of_ble_eq_true rfl⟩) (PP_preV (ci := 9) (q0 := 0) hP hD hK [0, 1, 2, 3, 4, 5] rfl rfl rfl rfl) rfl rfl hl.1 rfl (lv_room (Nat.le_of_ble_eq_true rfl)) dX9_out_11 ⟨Nat.le_of_ble_eq_true rfl, Nat.le_of_ble_eq_true rfl⟩) (fun H locs hP hD hS => ?_)
    refine lv_goto (tgt := 18) hx hb dX9_out_14 (by decide) ?_
    exact hB18 q11 H locs ls hf hP hD hS (lv_sub hl [] rfl)
abbrev rmX9_isAhead : Room := { frames := 0, cells := 0, slots := 0, locals := 0 }
set_option maxHeartbeats 40000000 in
set_option maxRecDepth 100000 in
theorem mX9_isAhead (l : Launch) (D : va_G) (cyI cyJ cyB cyS : ClassId) (N : Nat) (sz : Nat) (a9 : Nat → Nat) (i9 : Nat → Int32) (g9 : Nat → Int64) (c_later : Nat → Int32) (c_outs : Nat → Int32) (c_placeOf : Nat → Int32) (x1 : Int32) (x2 : Int32) (q : Int32) (hf : fX9_isAhead N c_later c_outs c_placeOf x1 x2 = some q) : Met l yX9_isAhead (wS yX9_isAhead cX9_isAhead 5 (some .boolean)) rmX9_isAhead (va_Pc [.ref (a9 0), .int x1, .int x2] (PP D cyI cyJ cyB cyS [(a9 0, .inr (9, fl9 a9 i9 g9)), ((a9 19), .inl (cyI, 6, .inl c_later)), ((a9 18), .inl (cyI, 6, .inl c_outs)), ((a9 16), .inl (cyI, 6, .inl c_placeOf))] sz)) (QI q D [(a9 0, .inr (9, fl9 a9 i9 g9)), ((a9 19), .inl (cyI, 6, .inl c_later)), ((a9 18), .inl (cyI, 6, .inl c_outs)), ((a9 16), .inl (cyI, 6, .inl c_placeOf))] (va_A [(a9 0, .inr (9, fl9 a9 i9 g9)), ((a9 19), .inl (cyI, 6, .inl c_later)), ((a9 18), .inl (cyI, 6, .inl c_outs)), ((a9 16), .inl (cyI, 6, .inl c_placeOf))] sz)) 0 0 (va_A [(a9 0, .inr (9, fl9 a9 i9 g9)), ((a9 19), .inl (cyI, 6, .inl c_later)), ((a9 18), .inl (cyI, 6, .inl c_outs)), ((a9 16), .inl (cyI, 6, .inl c_placeOf))] sz) := by
  refine Met.ofW (cc := cX9_isAhead) (maxL := 5) (ret := (some .boolean)) (by decide) rfl ?_
  intro p e s m args below meth c s₁ B hml hv
  obtain ⟨rfl, hsz, hP, hK, hD0⟩ := hv
  have hx := B.exec
  have hb := B.bytes
  have hr := B.returns
  have hts := atoms_spec (ws := (wS yX9_isAhead cX9_isAhead 5 (some .boolean))) B.pre
  have hown : s.vm.findClass RX9 = some m.cls := findClass_of_methodNamed B.named
  have hlocks := B.notSynchronized
  subst hsz
  have hD := hD0.self (sz := s.heap.size)
  refine w_nameQ (fun Q hQ => ?_)
  have hl := lv_entry ([.ref (a9 0), .int x1, .int x2] : List Value) (n := 5) (Nat.le_of_ble_eq_true rfl)
  rw [lg_entry_eq]
  generalize (lg_sl ([.ref (a9 0), .int x1, .int x2] : List Value) ++ List.replicate (5 - (lg_sl ([.ref (a9 0), .int x1, .int x2] : List Value)).length) Slot.unset).toArray = ls at hl ⊢
  have hl : lv_has ls 5 [(0, .ref (a9 0)), (1, .int x1), (2, .int x2)] := hl
  generalize hAe : va_A [(a9 0, .inr (9, fl9 a9 i9 g9)), ((a9 19), .inl (cyI, 6, .inl c_later)), ((a9 18), .inl (cyI, 6, .inl c_outs)), ((a9 16), .inl (cyI, 6, .inl c_placeOf))] s.heap.size = A at hD hQ
  have hA : ∀ q : Nat, s.heap.size ≤ q → A q := fun q h => by rw [← hAe]; exact Or.inr h
  have hS : va_S A s.heap s.heap [] := va_S.rf
  generalize ([.ref (a9 0), .int x1, .int x2] : List Value).toArray = av at hts hQ ⊢
  have hL : ∀ w ∈ wsL_law, w.before av s = true := fun w h => hts w (List.mem_cons_of_mem _ h)
  have w0 := hL (.fieldLink RX9 55 "LosingLeagueModel" "placeOf" "[I") (hR6 19 rfl)
  have w1 := hL (.fieldLink RX9 64 "LosingLeagueModel" "later" "[I") (hR6 22 rfl)
  have w2 := hL (.fieldLink RX9 61 "LosingLeagueModel" "outs" "[I") (hR6 21 rfl)
  have hB105 : ∀ (s0 : Int32) (H : Heap) (locs : List Loc) (ls : Array Slot), fX9_isAhead_105 N c_later c_outs c_placeOf x1 x2 s0 = some q → va_P D vwCl [(a9 0, .inr (9, fl9 a9 i9 g9)), ((a9 19), .inl (cyI, 6, .inl c_later)), ((a9 18), .inl (cyI, 6, .inl c_outs)), ((a9 16), .inl (cyI, 6, .inl c_placeOf))] H → va_D A [(a9 0, .inr (9, fl9 a9 i9 g9)), ((a9 19), .inl (cyI, 6, .inl c_later)), ((a9 18), .inl (cyI, 6, .inl c_outs)), ((a9 16), .inl (cyI, 6, .inl c_placeOf))] → va_S A s.heap H locs → lv_has ls 5 [] → W p l e rmX9_isAhead s m av below meth c H locs 0 0 Q (F0 m 105 ls [.int s0]) := by
    intro s0 H locs ls hf hP hD hS hl
    unfold fX9_isAhead_105 at hf
    obtain ⟨n105, hf⟩ := pg_some hf
    exact ret_z (q := q) (g := fun q => q) (wp := fun q => [(a9 0, .inr (9, fl9 a9 i9 g9)), ((a9 19), .inl (cyI, 6, .inl c_later)), ((a9 18), .inl (cyI, 6, .inl c_outs)), ((a9 16), .inl (cyI, 6, .inl c_placeOf))]) hQ hf hx hb hr hlocks (isB_n n105) hP hD hS dX9_isAhead_105 rfl
  have hB85 : ∀ (H : Heap) (locs : List Loc) (ls : Array Slot), fX9_isAhead_85 N c_later c_outs c_placeOf x1 x2 = some q → va_P D vwCl [(a9 0, .inr (9, fl9 a9 i9 g9)), ((a9 19), .inl (cyI, 6, .inl c_later)), ((a9 18), .inl (cyI, 6, .inl c_outs)), ((a9 16), .inl (cyI, 6, .inl c_placeOf))] H → va_D A [(a9 0, .inr (9, fl9 a9 i9 g9)), ((a9 19), .inl (cyI, 6, .inl c_later)), ((a9 18), .inl (cyI, 6, .inl c_outs)), ((a9 16), .inl (cyI, 6, .inl c_placeOf))] → va_S A s.heap H locs → lv_has ls 5 [(0, .ref (a9 0)), (1, .int x1), (2, .int x2)] → W p l e rmX9_isAhead s m av below meth c H locs 0 0 Q (F0 m 85 ls []) := by
    intro  H locs ls hf hP hD hS hl
    unfold fX9_isAhead_85 at hf
    refine lv_aload_n hx hb dX9_isAhead_85 rfl (lv_at hl 0 rfl) ?_
    refine va_get (D := D) (ci := 9) (v := .ref (a9 16)) (C := RX9) (T := TX9) (N := 52) hx hb hL inlX9 hown hK.1 hP 0 rfl rfl 28 (by decide) w0 (fun _ h9 => h9) rfl dX9_isAhead_86 ?_
    refine lv_iload_n hx hb dX9_isAhead_89 rfl (lv_at hl 1 rfl) ?_
    obtain ⟨h90, hf⟩ := pg_some hf
    refine va_iald hx hb hK.1 hP 3 0 rfl rfl h90 dX9_isAhead_90 ?_
    refine lv_aload_n hx hb dX9_isAhead_91 rfl (lv_at hl 0 rfl) ?_
    refine va_get (D := D) (ci := 9) (v := .ref (a9 16)) (C := RX9) (T := TX9) (N := 52) hx hb hL inlX9 hown hK.1 hP 0 rfl rfl 28 (by decide) w0 (fun _ h9 => h9) rfl dX9_isAhead_92 ?_
    refine lv_iload_n hx hb dX9_isAhead_95 rfl (lv_at hl 2 rfl) ?_
    obtain ⟨h96, hf⟩ := pg_some hf
    refine va_iald hx hb hK.1 hP 3 0 rfl rfl h96 dX9_isAhead_96 ?_
    refine lv_icmp_le (tgt := 104) hx hb dX9_isAhead_97 (by decide) (fun c97 => ?_) (fun c97 => ?_)
    · have hf := pif_t c97 hf
      refine lv_iconst (v := 0) hx hb dX9_isAhead_104 (by decide) ?_
      exact hB105 0 H locs ls hf hP hD hS (lv_sub hl [] rfl)
    · have hf := pif_f c97 hf
      refine lv_iconst (v := 1) hx hb dX9_isAhead_100 (by decide) ?_
      refine lv_goto (tgt := 105) hx hb dX9_isAhead_101 (by decide) ?_
      exact hB105 1 H locs ls hf hP hD hS (lv_sub hl [] rfl)
  have hB33 : ∀ (x3 : Int32) (s0 : Int32) (H : Heap) (locs : List Loc) (ls : Array Slot), fX9_isAhead_33 N c_later c_outs c_placeOf x1 x2 x3 s0 = some q → va_P D vwCl [(a9 0, .inr (9, fl9 a9 i9 g9)), ((a9 19), .inl (cyI, 6, .inl c_later)), ((a9 18), .inl (cyI, 6, .inl c_outs)), ((a9 16), .inl (cyI, 6, .inl c_placeOf))] H → va_D A [(a9 0, .inr (9, fl9 a9 i9 g9)), ((a9 19), .inl (cyI, 6, .inl c_later)), ((a9 18), .inl (cyI, 6, .inl c_outs)), ((a9 16), .inl (cyI, 6, .inl c_placeOf))] → va_S A s.heap H locs → lv_has ls 5 [(0, .ref (a9 0)), (1, .int x1), (2, .int x2), (3, .int x3)] → W p l e rmX9_isAhead s m av below meth c H locs 0 0 Q (F0 m 33 ls [.int s0]) := by
    intro x3 s0 H locs ls hf hP hD hS hl
    unfold fX9_isAhead_33 at hf
    refine lv_istore (lv' := [(4, .int s0), (0, .ref (a9 0)), (1, .int x1), (2, .int x2), (3, .int x3)]) hx hb dX9_isAhead_33 hl (by decide) rfl (fun ls hl => ?_)
    refine lv_iload_n hx hb dX9_isAhead_35 rfl (lv_at hl 4 rfl) ?_
    refine lv_iload hx hb dX9_isAhead_36 (lv_at hl 0 rfl) ?_
    refine lv_icmp_eq (tgt := 43) hx hb dX9_isAhead_38 (by decide) (fun c38 => ?_) (fun c38 => ?_)
    · have hf := pif_t c38 hf
      refine lv_iload_n hx hb dX9_isAhead_43 rfl (lv_at hl 4 rfl) ?_
      refine lv_if_eq (tgt := 85) hx hb dX9_isAhead_44 (by decide) (fun c44 => ?_) (fun c44 => ?_)
      · have hf := pif_t c44 hf
        exact hB85 H locs ls hf hP hD hS (lv_sub hl [1, 2, 3] rfl)
      · have hf := pif_f c44 hf
        refine lv_aload_n hx hb dX9_isAhead_47 rfl (lv_at hl 1 rfl) ?_
        refine va_get (D := D) (ci := 9) (v := .ref (a9 19)) (C := RX9) (T := TX9) (N := 52) hx hb hL inlX9 hown hK.1 hP 0 rfl rfl 31 (by decide) w1 (fun _ h9 => h9) rfl dX9_isAhead_48 ?_
        refine lv_iload_n hx hb dX9_isAhead_51 rfl (lv_at hl 2 rfl) ?_
        obtain ⟨h52, hf⟩ := pg_some hf
        refine va_iald hx hb hK.1 hP 1 0 rfl rfl h52 dX9_isAhead_52 ?_
        refine lv_aload_n hx hb dX9_isAhead_53 rfl (lv_at hl 1 rfl) ?_
        refine va_get (D := D) (ci := 9) (v := .ref (a9 19)) (C := RX9) (T := TX9) (N := 52) hx hb hL inlX9 hown hK.1 hP 0 rfl rfl 31 (by decide) w1 (fun _ h9 => h9) rfl dX9_isAhead_54 ?_
        refine lv_iload_n hx hb dX9_isAhead_57 rfl (lv_at hl 3 rfl) ?_
        obtain ⟨h58, hf⟩ := pg_some hf
        refine va_iald hx hb hK.1 hP 1 0 rfl rfl h58 dX9_isAhead_58 ?_
        refine lv_icmp_eq (tgt := 85) hx hb dX9_isAhead_59 (by decide) (fun c59 => ?_) (fun c59 => ?_)
        · have hf := pif_t c59 hf
          exact hB85 H locs ls hf hP hD hS (lv_sub hl [1, 2, 3] rfl)
        · have hf := pif_f c59 hf
          refine lv_aload_n hx hb dX9_isAhead_62 rfl (lv_at hl 1 rfl) ?_
          refine va_get (D := D) (ci := 9) (v := .ref (a9 19)) (C := RX9) (T := TX9) (N := 52) hx hb hL inlX9 hown hK.1 hP 0 rfl rfl 31 (by decide) w1 (fun _ h9 => h9) rfl dX9_isAhead_63 ?_
          refine lv_iload_n hx hb dX9_isAhead_66 rfl (lv_at hl 2 rfl) ?_
          obtain ⟨h67, hf⟩ := pg_some hf
          refine va_iald hx hb hK.1 hP 1 0 rfl rfl h67 dX9_isAhead_67 ?_
          refine lv_aload_n hx hb dX9_isAhead_68 rfl (lv_at hl 1 rfl) ?_
          refine va_get (D := D) (ci := 9) (v := .ref (a9 19)) (C := RX9) (T := TX9) (N := 52) hx hb hL inlX9 hown hK.1 hP 0 rfl rfl 31 (by decide) w1 (fun _ h9 => h9) rfl dX9_isAhead_69 ?_
          refine lv_iload_n hx hb dX9_isAhead_72 rfl (lv_at hl 3 rfl) ?_
          obtain ⟨h73, hf⟩ := pg_some hf
          refine va_iald hx hb hK.1 hP 1 0 rfl rfl h73 dX9_isAhead_73 ?_
          refine lv_icmp_le (tgt := 81) hx hb dX9_isAhead_74 (by decide) (fun c74 => ?_) (fun c74 => ?_)
          · have hf := pif_t c74 hf
            refine lv_iconst (v := 0) hx hb dX9_isAhead_81 (by decide) ?_
            refine lv_goto (tgt := 105) hx hb dX9_isAhead_82 (by decide) ?_
            exact hB105 0 H locs ls hf hP hD hS (lv_sub hl [] rfl)
          · have hf := pif_f c74 hf
            refine lv_iconst (v := 1) hx hb dX9_isAhead_77 (by decide) ?_
            refine lv_goto (tgt := 105) hx hb dX9_isAhead_78 (by decide) ?_
            exact hB105 1 H locs ls hf hP hD hS (lv_sub hl [] rfl)
    · have hf := pif_f c38 hf
      refine lv_iload_n hx hb dX9_isAhead_41 rfl (lv_at hl 4 rfl) ?_
      obtain ⟨n42, hf⟩ := pg_some hf
      exact ret_z (q := q) (g := fun q => q) (wp := fun q => [(a9 0, .inr (9, fl9 a9 i9 g9)), ((a9 19), .inl (cyI, 6, .inl c_later)), ((a9 18), .inl (cyI, 6, .inl c_outs)), ((a9 16), .inl (cyI, 6, .inl c_placeOf))]) hQ hf hx hb hr hlocks (isB_n n42) hP hD hS dX9_isAhead_42 rfl
  have hB16 : ∀ (s0 : Int32) (H : Heap) (locs : List Loc) (ls : Array Slot), fX9_isAhead_16 N c_later c_outs c_placeOf x1 x2 s0 = some q → va_P D vwCl [(a9 0, .inr (9, fl9 a9 i9 g9)), ((a9 19), .inl (cyI, 6, .inl c_later)), ((a9 18), .inl (cyI, 6, .inl c_outs)), ((a9 16), .inl (cyI, 6, .inl c_placeOf))] H → va_D A [(a9 0, .inr (9, fl9 a9 i9 g9)), ((a9 19), .inl (cyI, 6, .inl c_later)), ((a9 18), .inl (cyI, 6, .inl c_outs)), ((a9 16), .inl (cyI, 6, .inl c_placeOf))] → va_S A s.heap H locs → lv_has ls 5 [(0, .ref (a9 0)), (1, .int x1), (2, .int x2)] → W p l e rmX9_isAhead s m av below meth c H locs 0 0 Q (F0 m 16 ls [.int s0]) := by
    intro s0 H locs ls hf hP hD hS hl
    unfold fX9_isAhead_16 at hf
    refine lv_istore_n (lv' := [(3, .int s0), (0, .ref (a9 0)), (1, .int x1), (2, .int x2)]) hx hb dX9_isAhead_16 rfl hl (by decide) rfl (fun ls hl => ?_)
    refine lv_aload_n hx hb dX9_isAhead_17 rfl (lv_at hl 1 rfl) ?_
    refine va_get (D := D) (ci := 9) (v := .ref (a9 18)) (C := RX9) (T := TX9) (N := 52) hx hb hL inlX9 hown hK.1 hP 0 rfl rfl 30 (by decide) w2 (fun _ h9 => h9) rfl dX9_isAhead_18 ?_
    refine lv_iload_n hx hb dX9_isAhead_21 rfl (lv_at hl 3 rfl) ?_
    obtain ⟨h22, hf⟩ := pg_some hf
    refine va_iald hx hb hK.1 hP 2 0 rfl rfl h22 dX9_isAhead_22 ?_
    refine lv_bipush (v := (-4)) hx hb dX9_isAhead_23 (by decide) ?_
    refine lv_icmp_eq (tgt := 32) hx hb dX9_isAhead_25 (by decide) (fun c25 => ?_) (fun c25 => ?_)
    · have hf := pif_t c25 hf
      refine lv_iconst (v := 0) hx hb dX9_isAhead_32 (by decide) ?_
      exact hB33 s0 0 H locs ls hf hP hD hS (lv_sub hl [1, 2, 3, 0] rfl)
    · have hf := pif_f c25 hf
      refine lv_iconst (v := 1) hx hb dX9_isAhead_28 (by decide) ?_
      refine lv_goto (tgt := 33) hx hb dX9_isAhead_29 (by decide) ?_
      exact hB33 s0 1 H locs ls hf hP hD hS (lv_sub hl [1, 2, 3, 0] rfl)
  unfold fX9_isAhead at hf
  obtain ⟨H, hH⟩ : ∃ H : Heap, H = s.heap := ⟨_, rfl⟩
  obtain ⟨locs, hlo⟩ : ∃ locs : List Loc, locs = [] := ⟨_, rfl⟩
  have hP : va_P D vwCl [(a9 0, .inr (9, fl9 a9 i9 g9)), ((a9 19), .inl (cyI, 6, .inl c_later)), ((a9 18), .inl (cyI, 6, .inl c_outs)), ((a9 16), .inl (cyI, 6, .inl c_placeOf))] H := by rw [hH]; exact hP
  have hS : va_S A s.heap H locs := by rw [hH, hlo]; exact hS
  suffices hw : W p l e rmX9_isAhead s m av below meth c H locs 0 0 Q (F0 m 0 ls []) by rw [hH, hlo] at hw; exact hw
  refine lv_aload_n hx hb dX9_isAhead_0 rfl (lv_at hl 0 rfl) ?_
  refine va_get (D := D) (ci := 9) (v := .ref (a9 18)) (C := RX9) (T := TX9) (N := 52) hx hb hL inlX9 hown hK.1 hP 0 rfl rfl 30 (by decide) w2 (fun _ h9 => h9) rfl dX9_isAhead_1 ?_
  refine lv_iload_n hx hb dX9_isAhead_4 rfl (lv_at hl 1 rfl) ?_
  obtain ⟨h5, hf⟩ := pg_some hf
  refine va_iald hx hb hK.1 hP 2 0 rfl rfl h5 dX9_isAhead_5 ?_
  refine lv_bipush (v := (-4)) hx hb dX9_isAhead_6 (by decide) ?_
  refine lv_icmp_eq (tgt := 15) hx hb dX9_isAhead_8 (by decide) (fun c8 => ?_) (fun c8 => ?_)
  · have hf := pif_t c8 hf
    refine lv_iconst (v := 0) hx hb dX9_isAhead_15 (by decide) ?_
    exact hB16 0 H locs ls hf hP hD hS (lv_sub hl [0, 1, 2] rfl)
  · have hf := pif_f c8 hf
    refine lv_iconst (v := 1) hx hb dX9_isAhead_11 (by decide) ?_
    refine lv_goto (tgt := 16) hx hb dX9_isAhead_12 (by decide) ?_
    exact hB16 1 H locs ls hf hP hD hS (lv_sub hl [0, 1, 2] rfl)
abbrev rmX9_layChoices : Room := { frames := 3, cells := 0, slots := 0, locals := 72 }
set_option maxHeartbeats 40000000 in
set_option maxRecDepth 100000 in
theorem mX9_layChoices (l : Launch) (D : va_G) (cyI cyJ cyB cyS : ClassId) (N : Nat) (sz : Nat) (a9 : Nat → Nat) (i9 : Nat → Int32) (g9 : Nat → Int64) (c_chooser : Nat → Int32) (c_firsts : Nat → Int32) (c_goes : Nat → Int32) (c_holds : Nat → Int32) (c_later : Nat → Int32) (c_many : Nat → Int32) (c_outs : Nat → Int32) (c_placeOf : Nat → Int32) (c_seconds : Nat → Int32) (c_sideAt : Nat → Int32) (c_won : Nat → Int32) (x1 : Int32) (x2 : Int32) (q : (Nat → Int32) × (Nat → Int32) × (Nat → Int32)) (hf : fX9_layChoices N c_chooser c_firsts c_goes c_holds c_later c_many c_outs c_placeOf c_seconds c_sideAt c_won x1 x2 = some q) : Met l yX9_layChoices (wS yX9_layChoices cX9_layChoices 7 none) rmX9_layChoices (va_Pc [.ref (a9 0), .int x1, .int x2] (PP D cyI cyJ cyB cyS [(a9 0, .inr (9, fl9 a9 i9 g9)), ((a9 17), .inl (cyI, 6, .inl c_chooser)), ((a9 9), .inl (cyI, 60, .inl c_firsts)), ((a9 11), .inl (cyI, 60, .inl c_goes)), ((a9 5), .inl (cyI, 32, .inl c_holds)), ((a9 19), .inl (cyI, 6, .inl c_later)), ((a9 12), .inl (cyI, 2, .inl c_many)), ((a9 18), .inl (cyI, 6, .inl c_outs)), ((a9 16), .inl (cyI, 6, .inl c_placeOf)), ((a9 10), .inl (cyI, 60, .inl c_seconds)), ((a9 15), .inl (cyI, 6, .inl c_sideAt)), ((a9 14), .inl (cyI, 6, .inl c_won))] sz)) (QV D [(a9 0, .inr (9, fl9 a9 i9 g9)), ((a9 17), .inl (cyI, 6, .inl q.1)), ((a9 9), .inl (cyI, 60, .inl c_firsts)), ((a9 11), .inl (cyI, 60, .inl c_goes)), ((a9 5), .inl (cyI, 32, .inl c_holds)), ((a9 19), .inl (cyI, 6, .inl q.2.1)), ((a9 12), .inl (cyI, 2, .inl c_many)), ((a9 18), .inl (cyI, 6, .inl q.2.2)), ((a9 16), .inl (cyI, 6, .inl c_placeOf)), ((a9 10), .inl (cyI, 60, .inl c_seconds)), ((a9 15), .inl (cyI, 6, .inl c_sideAt)), ((a9 14), .inl (cyI, 6, .inl c_won))] (va_A [(a9 0, .inr (9, fl9 a9 i9 g9)), ((a9 17), .inl (cyI, 6, .inl c_chooser)), ((a9 9), .inl (cyI, 60, .inl c_firsts)), ((a9 11), .inl (cyI, 60, .inl c_goes)), ((a9 5), .inl (cyI, 32, .inl c_holds)), ((a9 19), .inl (cyI, 6, .inl c_later)), ((a9 12), .inl (cyI, 2, .inl c_many)), ((a9 18), .inl (cyI, 6, .inl c_outs)), ((a9 16), .inl (cyI, 6, .inl c_placeOf)), ((a9 10), .inl (cyI, 60, .inl c_seconds)), ((a9 15), .inl (cyI, 6, .inl c_sideAt)), ((a9 14), .inl (cyI, 6, .inl c_won))] sz)) 0 0 (va_A [(a9 0, .inr (9, fl9 a9 i9 g9)), ((a9 17), .inl (cyI, 6, .inl c_chooser)), ((a9 9), .inl (cyI, 60, .inl c_firsts)), ((a9 11), .inl (cyI, 60, .inl c_goes)), ((a9 5), .inl (cyI, 32, .inl c_holds)), ((a9 19), .inl (cyI, 6, .inl c_later)), ((a9 12), .inl (cyI, 2, .inl c_many)), ((a9 18), .inl (cyI, 6, .inl c_outs)), ((a9 16), .inl (cyI, 6, .inl c_placeOf)), ((a9 10), .inl (cyI, 60, .inl c_seconds)), ((a9 15), .inl (cyI, 6, .inl c_sideAt)), ((a9 14), .inl (cyI, 6, .inl c_won))] sz) := by
  refine Met.ofW (cc := cX9_layChoices) (maxL := 7) (ret := none) (by decide) rfl ?_
  intro p e s m args below meth c s₁ B hml hv
  obtain ⟨rfl, hsz, hP, hK, hD0⟩ := hv
  have hx := B.exec
  have hb := B.bytes
  have hr := B.returns
  have hts := atoms_spec (ws := (wS yX9_layChoices cX9_layChoices 7 none)) B.pre
  have hown : s.vm.findClass RX9 = some m.cls := findClass_of_methodNamed B.named
  have hlocks := B.notSynchronized
  subst hsz
  have hD := hD0.self (sz := s.heap.size)
  refine w_nameQ (fun Q hQ => ?_)
  have hl := lv_entry ([.ref (a9 0), .int x1, .int x2] : List Value) (n := 7) (Nat.le_of_ble_eq_true rfl)
  rw [lg_entry_eq]
  generalize (lg_sl ([.ref (a9 0), .int x1, .int x2] : List Value) ++ List.replicate (7 - (lg_sl ([.ref (a9 0), .int x1, .int x2] : List Value)).length) Slot.unset).toArray = ls at hl ⊢
  have hl : lv_has ls 7 [(0, .ref (a9 0)), (1, .int x1), (2, .int x2)] := hl
  generalize hAe : va_A [(a9 0, .inr (9, fl9 a9 i9 g9)), ((a9 17), .inl (cyI, 6, .inl c_chooser)), ((a9 9), .inl (cyI, 60, .inl c_firsts)), ((a9 11), .inl (cyI, 60, .inl c_goes)), ((a9 5), .inl (cyI, 32, .inl c_holds)), ((a9 19), .inl (cyI, 6, .inl c_later)), ((a9 12), .inl (cyI, 2, .inl c_many)), ((a9 18), .inl (cyI, 6, .inl c_outs)), ((a9 16), .inl (cyI, 6, .inl c_placeOf)), ((a9 10), .inl (cyI, 60, .inl c_seconds)), ((a9 15), .inl (cyI, 6, .inl c_sideAt)), ((a9 14), .inl (cyI, 6, .inl c_won))] s.heap.size = A at hD hQ
  have hA : ∀ q : Nat, s.heap.size ≤ q → A q := fun q h => by rw [← hAe]; exact Or.inr h
  have hS : va_S A s.heap s.heap [] := va_S.rf
  generalize ([.ref (a9 0), .int x1, .int x2] : List Value).toArray = av at hts hQ ⊢
  have hL : ∀ w ∈ wsL_law, w.before av s = true := fun w h => hts w (List.mem_cons_of_mem _ h)
  have w0 := hL (.fieldLink RX9 58 "LosingLeagueModel" "chooser" "[I") (hR6 20 rfl)
  have w1 := hL (.fieldLink RX9 61 "LosingLeagueModel" "outs" "[I") (hR6 21 rfl)
  have w2 := hL (.fieldLink RX9 64 "LosingLeagueModel" "later" "[I") (hR6 22 rfl)
  have w3 := hL (.fieldLink RX9 49 "LosingLeagueModel" "won" "[I") (hR6 17 rfl)
  have w4 := hL (.fieldLink RX9 22 "LosingLeagueModel" "holds" "[I") (hR6 8 rfl)
  have w5 := hL (.fieldLink RX9 52 "LosingLeagueModel" "sideAt" "[I") (hR6 18 rfl)
  have hB54 : ∀ (k8 : Int32 → Int32 → (Nat → Int32) → (Nat → Int32) → (Nat → Int32) → Option ((Nat → Int32) × (Nat → Int32) × (Nat → Int32))) (hk8 : ∀ (x3 : Int32) (x4 : Int32) (c_chooser : Nat → Int32) (c_later : Nat → Int32) (c_outs : Nat → Int32) (H : Heap) (locs : List Loc) (ls : Array Slot), k8 x3 x4 c_chooser c_later c_outs = some q → va_P D vwCl [(a9 0, .inr (9, fl9 a9 i9 g9)), ((a9 17), .inl (cyI, 6, .inl c_chooser)), ((a9 9), .inl (cyI, 60, .inl c_firsts)), ((a9 11), .inl (cyI, 60, .inl c_goes)), ((a9 5), .inl (cyI, 32, .inl c_holds)), ((a9 19), .inl (cyI, 6, .inl c_later)), ((a9 12), .inl (cyI, 2, .inl c_many)), ((a9 18), .inl (cyI, 6, .inl c_outs)), ((a9 16), .inl (cyI, 6, .inl c_placeOf)), ((a9 10), .inl (cyI, 60, .inl c_seconds)), ((a9 15), .inl (cyI, 6, .inl c_sideAt)), ((a9 14), .inl (cyI, 6, .inl c_won))] H → va_D A [(a9 0, .inr (9, fl9 a9 i9 g9)), ((a9 17), .inl (cyI, 6, .inl c_chooser)), ((a9 9), .inl (cyI, 60, .inl c_firsts)), ((a9 11), .inl (cyI, 60, .inl c_goes)), ((a9 5), .inl (cyI, 32, .inl c_holds)), ((a9 19), .inl (cyI, 6, .inl c_later)), ((a9 12), .inl (cyI, 2, .inl c_many)), ((a9 18), .inl (cyI, 6, .inl c_outs)), ((a9 16), .inl (cyI, 6, .inl c_placeOf)), ((a9 10), .inl (cyI, 60, .inl c_seconds)), ((a9 15), .inl (cyI, 6, .inl c_sideAt)), ((a9 14), .inl (cyI, 6, .inl c_won))] → va_S A s.heap H locs → lv_has ls 7 [(0, .ref (a9 0)), (1, .int x1), (2, .int x2), (3, .int x3), (4, .int x4)] → W p l e rmX9_layChoices s m av below meth c H locs 0 0 Q (F0 m 8 ls [])), ∀ (x3 : Int32) (x4 : Int32) (s1 : Int32) (s2 : Int32) (c_chooser : Nat → Int32) (c_later : Nat → Int32) (c_outs : Nat → Int32) (H : Heap) (locs : List Loc) (ls : Array Slot), fX9_layChoices_54 N c_firsts c_goes c_holds c_many c_placeOf c_seconds c_sideAt c_won x1 x2 k8 x3 x4 s1 s2 c_chooser c_later c_outs = some q → va_P D vwCl [(a9 0, .inr (9, fl9 a9 i9 g9)), ((a9 17), .inl (cyI, 6, .inl c_chooser)), ((a9 9), .inl (cyI, 60, .inl c_firsts)), ((a9 11), .inl (cyI, 60, .inl c_goes)), ((a9 5), .inl (cyI, 32, .inl c_holds)), ((a9 19), .inl (cyI, 6, .inl c_later)), ((a9 12), .inl (cyI, 2, .inl c_many)), ((a9 18), .inl (cyI, 6, .inl c_outs)), ((a9 16), .inl (cyI, 6, .inl c_placeOf)), ((a9 10), .inl (cyI, 60, .inl c_seconds)), ((a9 15), .inl (cyI, 6, .inl c_sideAt)), ((a9 14), .inl (cyI, 6, .inl c_won))] H → va_D A [(a9 0, .inr (9, fl9 a9 i9 g9)), ((a9 17), .inl (cyI, 6, .inl c_chooser)), ((a9 9), .inl (cyI, 60, .inl c_firsts)), ((a9 11), .inl (cyI, 60, .inl c_goes)), ((a9 5), .inl (cyI, 32, .inl c_holds)), ((a9 19), .inl (cyI, 6, .inl c_later)), ((a9 12), .inl (cyI, 2, .inl c_many)), ((a9 18), .inl (cyI, 6, .inl c_outs)), ((a9 16), .inl (cyI, 6, .inl c_placeOf)), ((a9 10), .inl (cyI, 60, .inl c_seconds)), ((a9 15), .inl (cyI, 6, .inl c_sideAt)), ((a9 14), .inl (cyI, 6, .inl c_won))] → va_S A s.heap H locs → lv_has ls 7 [(0, .ref (a9 0)), (1, .int x1), (2, .int x2), (3, .int x3), (4, .int x4)] → W p l e rmX9_layChoices s m av below meth c H locs 0 0 Q (F0 m 54 ls [.int s2, .int s1, .ref (a9 17)]) := by
    intro k8 hk8 x3 x4 s1 s2 c_chooser c_later c_outs H locs ls hf hP hD hS hl
    unfold fX9_layChoices_54 at hf
    obtain ⟨h54, hf⟩ := pg_some hf
    refine va_iast hx hb hK.1 hP hD hS 1 0 rfl rfl h54 dX9_layChoices_54 (fun H locs hP hD hS => ?_)
    have hP : va_P D vwCl [(a9 0, .inr (9, fl9 a9 i9 g9)), ((a9 17), .inl (cyI, 6, .inl (upd c_chooser s1.toNatClampNeg s2))), ((a9 9), .inl (cyI, 60, .inl c_firsts)), ((a9 11), .inl (cyI, 60, .inl c_goes)), ((a9 5), .inl (cyI, 32, .inl c_holds)), ((a9 19), .inl (cyI, 6, .inl c_later)), ((a9 12), .inl (cyI, 2, .inl c_many)), ((a9 18), .inl (cyI, 6, .inl c_outs)), ((a9 16), .inl (cyI, 6, .inl c_placeOf)), ((a9 10), .inl (cyI, 60, .inl c_seconds)), ((a9 15), .inl (cyI, 6, .inl c_sideAt)), ((a9 14), .inl (cyI, 6, .inl c_won))] H := hP
    have hD : va_D A [(a9 0, .inr (9, fl9 a9 i9 g9)), ((a9 17), .inl (cyI, 6, .inl (upd c_chooser s1.toNatClampNeg s2))), ((a9 9), .inl (cyI, 60, .inl c_firsts)), ((a9 11), .inl (cyI, 60, .inl c_goes)), ((a9 5), .inl (cyI, 32, .inl c_holds)), ((a9 19), .inl (cyI, 6, .inl c_later)), ((a9 12), .inl (cyI, 2, .inl c_many)), ((a9 18), .inl (cyI, 6, .inl c_outs)), ((a9 16), .inl (cyI, 6, .inl c_placeOf)), ((a9 10), .inl (cyI, 60, .inl c_seconds)), ((a9 15), .inl (cyI, 6, .inl c_sideAt)), ((a9 14), .inl (cyI, 6, .inl c_won))] := hD
    refine lv_iinc (v := x4 + 1) (lv' := [(4, .int (x4 + 1)), (0, .ref (a9 0)), (1, .int x1), (2, .int x2), (3, .int x3)]) hx hb dX9_layChoices_55 hl (k := 4) rfl rfl (by decide) rfl (fun ls hl => ?_)
    refine lv_goto (tgt := 8) hx hb dX9_layChoices_58 (by decide) ?_
    exact hk8 x3 (x4 + 1) (upd c_chooser s1.toNatClampNeg s2) c_later c_outs H locs ls hf hP hD hS (lv_sub hl [1, 2, 3, 4, 0] rfl)
  have hB194 : ∀ (k130 : Int32 → Int32 → (Nat → Int32) → (Nat → Int32) → (Nat → Int32) → Option ((Nat → Int32) × (Nat → Int32) × (Nat → Int32))) (hk130 : ∀ (x3 : Int32) (x4 : Int32) (c_chooser : Nat → Int32) (c_later : Nat → Int32) (c_outs : Nat → Int32) (H : Heap) (locs : List Loc) (ls : Array Slot), k130 x3 x4 c_chooser c_later c_outs = some q → va_P D vwCl [(a9 0, .inr (9, fl9 a9 i9 g9)), ((a9 17), .inl (cyI, 6, .inl c_chooser)), ((a9 9), .inl (cyI, 60, .inl c_firsts)), ((a9 11), .inl (cyI, 60, .inl c_goes)), ((a9 5), .inl (cyI, 32, .inl c_holds)), ((a9 19), .inl (cyI, 6, .inl c_later)), ((a9 12), .inl (cyI, 2, .inl c_many)), ((a9 18), .inl (cyI, 6, .inl c_outs)), ((a9 16), .inl (cyI, 6, .inl c_placeOf)), ((a9 10), .inl (cyI, 60, .inl c_seconds)), ((a9 15), .inl (cyI, 6, .inl c_sideAt)), ((a9 14), .inl (cyI, 6, .inl c_won))] H → va_D A [(a9 0, .inr (9, fl9 a9 i9 g9)), ((a9 17), .inl (cyI, 6, .inl c_chooser)), ((a9 9), .inl (cyI, 60, .inl c_firsts)), ((a9 11), .inl (cyI, 60, .inl c_goes)), ((a9 5), .inl (cyI, 32, .inl c_holds)), ((a9 19), .inl (cyI, 6, .inl c_later)), ((a9 12), .inl (cyI, 2, .inl c_many)), ((a9 18), .inl (cyI, 6, .inl c_outs)), ((a9 16), .inl (cyI, 6, .inl c_placeOf)), ((a9 10), .inl (cyI, 60, .inl c_seconds)), ((a9 15), .inl (cyI, 6, .inl c_sideAt)), ((a9 14), .inl (cyI, 6, .inl c_won))] → va_S A s.heap H locs → lv_has ls 7 [(0, .ref (a9 0)), (1, .int x1), (3, .int x3), (4, .int x4)] → W p l e rmX9_layChoices s m av below meth c H locs 0 0 Q (F0 m 130 ls [])), ∀ (x3 : Int32) (x4 : Int32) (s1 : Int32) (s2 : Int32) (c_chooser : Nat → Int32) (c_later : Nat → Int32) (c_outs : Nat → Int32) (H : Heap) (locs : List Loc) (ls : Array Slot), fX9_layChoices_194 N c_firsts c_goes c_holds c_many c_placeOf c_seconds c_sideAt c_won x1 x2 k130 x3 x4 s1 s2 c_chooser c_later c_outs = some q → va_P D vwCl [(a9 0, .inr (9, fl9 a9 i9 g9)), ((a9 17), .inl (cyI, 6, .inl c_chooser)), ((a9 9), .inl (cyI, 60, .inl c_firsts)), ((a9 11), .inl (cyI, 60, .inl c_goes)), ((a9 5), .inl (cyI, 32, .inl c_holds)), ((a9 19), .inl (cyI, 6, .inl c_later)), ((a9 12), .inl (cyI, 2, .inl c_many)), ((a9 18), .inl (cyI, 6, .inl c_outs)), ((a9 16), .inl (cyI, 6, .inl c_placeOf)), ((a9 10), .inl (cyI, 60, .inl c_seconds)), ((a9 15), .inl (cyI, 6, .inl c_sideAt)), ((a9 14), .inl (cyI, 6, .inl c_won))] H → va_D A [(a9 0, .inr (9, fl9 a9 i9 g9)), ((a9 17), .inl (cyI, 6, .inl c_chooser)), ((a9 9), .inl (cyI, 60, .inl c_firsts)), ((a9 11), .inl (cyI, 60, .inl c_goes)), ((a9 5), .inl (cyI, 32, .inl c_holds)), ((a9 19), .inl (cyI, 6, .inl c_later)), ((a9 12), .inl (cyI, 2, .inl c_many)), ((a9 18), .inl (cyI, 6, .inl c_outs)), ((a9 16), .inl (cyI, 6, .inl c_placeOf)), ((a9 10), .inl (cyI, 60, .inl c_seconds)), ((a9 15), .inl (cyI, 6, .inl c_sideAt)), ((a9 14), .inl (cyI, 6, .inl c_won))] → va_S A s.heap H locs → lv_has ls 7 [(0, .ref (a9 0)), (1, .int x1), (3, .int x3), (4, .int x4)] → W p l e rmX9_layChoices s m av below meth c H locs 0 0 Q (F0 m 194 ls [.int s2, .int s1, .ref (a9 19)]) := by
    intro k130 hk130 x3 x4 s1 s2 c_chooser c_later c_outs H locs ls hf hP hD hS hl
    unfold fX9_layChoices_194 at hf
    obtain ⟨h194, hf⟩ := pg_some hf
    refine va_iast hx hb hK.1 hP hD hS 5 0 rfl rfl h194 dX9_layChoices_194 (fun H locs hP hD hS => ?_)
    have hP : va_P D vwCl [(a9 0, .inr (9, fl9 a9 i9 g9)), ((a9 17), .inl (cyI, 6, .inl c_chooser)), ((a9 9), .inl (cyI, 60, .inl c_firsts)), ((a9 11), .inl (cyI, 60, .inl c_goes)), ((a9 5), .inl (cyI, 32, .inl c_holds)), ((a9 19), .inl (cyI, 6, .inl (upd c_later s1.toNatClampNeg s2))), ((a9 12), .inl (cyI, 2, .inl c_many)), ((a9 18), .inl (cyI, 6, .inl c_outs)), ((a9 16), .inl (cyI, 6, .inl c_placeOf)), ((a9 10), .inl (cyI, 60, .inl c_seconds)), ((a9 15), .inl (cyI, 6, .inl c_sideAt)), ((a9 14), .inl (cyI, 6, .inl c_won))] H := hP
    have hD : va_D A [(a9 0, .inr (9, fl9 a9 i9 g9)), ((a9 17), .inl (cyI, 6, .inl c_chooser)), ((a9 9), .inl (cyI, 60, .inl c_firsts)), ((a9 11), .inl (cyI, 60, .inl c_goes)), ((a9 5), .inl (cyI, 32, .inl c_holds)), ((a9 19), .inl (cyI, 6, .inl (upd c_later s1.toNatClampNeg s2))), ((a9 12), .inl (cyI, 2, .inl c_many)), ((a9 18), .inl (cyI, 6, .inl c_outs)), ((a9 16), .inl (cyI, 6, .inl c_placeOf)), ((a9 10), .inl (cyI, 60, .inl c_seconds)), ((a9 15), .inl (cyI, 6, .inl c_sideAt)), ((a9 14), .inl (cyI, 6, .inl c_won))] := hD
    refine lv_iinc (v := x4 + 1) (lv' := [(4, .int (x4 + 1)), (0, .ref (a9 0)), (1, .int x1), (3, .int x3)]) hx hb dX9_layChoices_195 hl (k := 3) rfl rfl (by decide) rfl (fun ls hl => ?_)
    refine lv_goto (tgt := 130) hx hb dX9_layChoices_198 (by decide) ?_
    exact hk130 x3 (x4 + 1) c_chooser (upd c_later s1.toNatClampNeg s2) c_outs H locs ls hf hP hD hS (lv_sub hl [1, 2, 3, 0] rfl)
  have hB247 : ∀ (k204 : Int32 → Int32 → (Nat → Int32) → (Nat → Int32) → (Nat → Int32) → Option ((Nat → Int32) × (Nat → Int32) × (Nat → Int32))) (hk204 : ∀ (x3 : Int32) (x4 : Int32) (c_chooser : Nat → Int32) (c_later : Nat → Int32) (c_outs : Nat → Int32) (H : Heap) (locs : List Loc) (ls : Array Slot), k204 x3 x4 c_chooser c_later c_outs = some q → va_P D vwCl [(a9 0, .inr (9, fl9 a9 i9 g9)), ((a9 17), .inl (cyI, 6, .inl c_chooser)), ((a9 9), .inl (cyI, 60, .inl c_firsts)), ((a9 11), .inl (cyI, 60, .inl c_goes)), ((a9 5), .inl (cyI, 32, .inl c_holds)), ((a9 19), .inl (cyI, 6, .inl c_later)), ((a9 12), .inl (cyI, 2, .inl c_many)), ((a9 18), .inl (cyI, 6, .inl c_outs)), ((a9 16), .inl (cyI, 6, .inl c_placeOf)), ((a9 10), .inl (cyI, 60, .inl c_seconds)), ((a9 15), .inl (cyI, 6, .inl c_sideAt)), ((a9 14), .inl (cyI, 6, .inl c_won))] H → va_D A [(a9 0, .inr (9, fl9 a9 i9 g9)), ((a9 17), .inl (cyI, 6, .inl c_chooser)), ((a9 9), .inl (cyI, 60, .inl c_firsts)), ((a9 11), .inl (cyI, 60, .inl c_goes)), ((a9 5), .inl (cyI, 32, .inl c_holds)), ((a9 19), .inl (cyI, 6, .inl c_later)), ((a9 12), .inl (cyI, 2, .inl c_many)), ((a9 18), .inl (cyI, 6, .inl c_outs)), ((a9 16), .inl (cyI, 6, .inl c_placeOf)), ((a9 10), .inl (cyI, 60, .inl c_seconds)), ((a9 15), .inl (cyI, 6, .inl c_sideAt)), ((a9 14), .inl (cyI, 6, .inl c_won))] → va_S A s.heap H locs → lv_has ls 7 [(0, .ref (a9 0)), (3, .int x3), (4, .int x4)] → W p l e rmX9_layChoices s m av below meth c H locs 0 0 Q (F0 m 204 ls [])) (k216 : Int32 → Int32 → Int32 → Int32 → (Nat → Int32) → (Nat → Int32) → (Nat → Int32) → Option ((Nat → Int32) × (Nat → Int32) × (Nat → Int32))) (hk216 : ∀ (x3 : Int32) (x4 : Int32) (x5 : Int32) (x6 : Int32) (c_chooser : Nat → Int32) (c_later : Nat → Int32) (c_outs : Nat → Int32) (H : Heap) (locs : List Loc) (ls : Array Slot), k216 x3 x4 x5 x6 c_chooser c_later c_outs = some q → va_P D vwCl [(a9 0, .inr (9, fl9 a9 i9 g9)), ((a9 17), .inl (cyI, 6, .inl c_chooser)), ((a9 9), .inl (cyI, 60, .inl c_firsts)), ((a9 11), .inl (cyI, 60, .inl c_goes)), ((a9 5), .inl (cyI, 32, .inl c_holds)), ((a9 19), .inl (cyI, 6, .inl c_later)), ((a9 12), .inl (cyI, 2, .inl c_many)), ((a9 18), .inl (cyI, 6, .inl c_outs)), ((a9 16), .inl (cyI, 6, .inl c_placeOf)), ((a9 10), .inl (cyI, 60, .inl c_seconds)), ((a9 15), .inl (cyI, 6, .inl c_sideAt)), ((a9 14), .inl (cyI, 6, .inl c_won))] H → va_D A [(a9 0, .inr (9, fl9 a9 i9 g9)), ((a9 17), .inl (cyI, 6, .inl c_chooser)), ((a9 9), .inl (cyI, 60, .inl c_firsts)), ((a9 11), .inl (cyI, 60, .inl c_goes)), ((a9 5), .inl (cyI, 32, .inl c_holds)), ((a9 19), .inl (cyI, 6, .inl c_later)), ((a9 12), .inl (cyI, 2, .inl c_many)), ((a9 18), .inl (cyI, 6, .inl c_outs)), ((a9 16), .inl (cyI, 6, .inl c_placeOf)), ((a9 10), .inl (cyI, 60, .inl c_seconds)), ((a9 15), .inl (cyI, 6, .inl c_sideAt)), ((a9 14), .inl (cyI, 6, .inl c_won))] → va_S A s.heap H locs → lv_has ls 7 [(0, .ref (a9 0)), (3, .int x3), (4, .int x4), (5, .int x5), (6, .int x6)] → W p l e rmX9_layChoices s m av below meth c H locs 0 0 Q (F0 m 216 ls [])), ∀ (x3 : Int32) (x4 : Int32) (x6 : Int32) (s0 : Int32) (s1 : Int32) (c_chooser : Nat → Int32) (c_later : Nat → Int32) (c_outs : Nat → Int32) (H : Heap) (locs : List Loc) (ls : Array Slot), fX9_layChoices_247 N c_firsts c_goes c_holds c_many c_placeOf c_seconds c_sideAt c_won x1 x2 k204 k216 x3 x4 x6 s0 s1 c_chooser c_later c_outs = some q → va_P D vwCl [(a9 0, .inr (9, fl9 a9 i9 g9)), ((a9 17), .inl (cyI, 6, .inl c_chooser)), ((a9 9), .inl (cyI, 60, .inl c_firsts)), ((a9 11), .inl (cyI, 60, .inl c_goes)), ((a9 5), .inl (cyI, 32, .inl c_holds)), ((a9 19), .inl (cyI, 6, .inl c_later)), ((a9 12), .inl (cyI, 2, .inl c_many)), ((a9 18), .inl (cyI, 6, .inl c_outs)), ((a9 16), .inl (cyI, 6, .inl c_placeOf)), ((a9 10), .inl (cyI, 60, .inl c_seconds)), ((a9 15), .inl (cyI, 6, .inl c_sideAt)), ((a9 14), .inl (cyI, 6, .inl c_won))] H → va_D A [(a9 0, .inr (9, fl9 a9 i9 g9)), ((a9 17), .inl (cyI, 6, .inl c_chooser)), ((a9 9), .inl (cyI, 60, .inl c_firsts)), ((a9 11), .inl (cyI, 60, .inl c_goes)), ((a9 5), .inl (cyI, 32, .inl c_holds)), ((a9 19), .inl (cyI, 6, .inl c_later)), ((a9 12), .inl (cyI, 2, .inl c_many)), ((a9 18), .inl (cyI, 6, .inl c_outs)), ((a9 16), .inl (cyI, 6, .inl c_placeOf)), ((a9 10), .inl (cyI, 60, .inl c_seconds)), ((a9 15), .inl (cyI, 6, .inl c_sideAt)), ((a9 14), .inl (cyI, 6, .inl c_won))] → va_S A s.heap H locs → lv_has ls 7 [(0, .ref (a9 0)), (3, .int x3), (4, .int x4), (6, .int x6)] → W p l e rmX9_layChoices s m av below meth c H locs 0 0 Q (F0 m 247 ls [.int s1, .int s0]) := by
    intro k204 hk204 k216 hk216 x3 x4 x6 s0 s1 c_chooser c_later c_outs H locs ls hf hP hD hS hl
    unfold fX9_layChoices_247 at hf
    refine lv_iadd hx hb dX9_layChoices_247 ?_
    refine lv_istore (lv' := [(5, .int (s0 + s1)), (0, .ref (a9 0)), (3, .int x3), (4, .int x4), (6, .int x6)]) hx hb dX9_layChoices_248 hl (by decide) rfl (fun ls hl => ?_)
    refine lv_iinc (v := x6 + 1) (lv' := [(6, .int (x6 + 1)), (5, .int (s0 + s1)), (0, .ref (a9 0)), (3, .int x3), (4, .int x4)]) hx hb dX9_layChoices_250 hl (k := 4) rfl rfl (by decide) rfl (fun ls hl => ?_)
    refine lv_goto (tgt := 216) hx hb dX9_layChoices_253 (by decide) ?_
    exact hk216 x3 x4 (s0 + s1) (x6 + 1) c_chooser c_later c_outs H locs ls hf hP hD hS (lv_sub hl [2, 3, 4, 1, 0] rfl)
  have hB246 : ∀ (k204 : Int32 → Int32 → (Nat → Int32) → (Nat → Int32) → (Nat → Int32) → Option ((Nat → Int32) × (Nat → Int32) × (Nat → Int32))) (hk204 : ∀ (x3 : Int32) (x4 : Int32) (c_chooser : Nat → Int32) (c_later : Nat → Int32) (c_outs : Nat → Int32) (H : Heap) (locs : List Loc) (ls : Array Slot), k204 x3 x4 c_chooser c_later c_outs = some q → va_P D vwCl [(a9 0, .inr (9, fl9 a9 i9 g9)), ((a9 17), .inl (cyI, 6, .inl c_chooser)), ((a9 9), .inl (cyI, 60, .inl c_firsts)), ((a9 11), .inl (cyI, 60, .inl c_goes)), ((a9 5), .inl (cyI, 32, .inl c_holds)), ((a9 19), .inl (cyI, 6, .inl c_later)), ((a9 12), .inl (cyI, 2, .inl c_many)), ((a9 18), .inl (cyI, 6, .inl c_outs)), ((a9 16), .inl (cyI, 6, .inl c_placeOf)), ((a9 10), .inl (cyI, 60, .inl c_seconds)), ((a9 15), .inl (cyI, 6, .inl c_sideAt)), ((a9 14), .inl (cyI, 6, .inl c_won))] H → va_D A [(a9 0, .inr (9, fl9 a9 i9 g9)), ((a9 17), .inl (cyI, 6, .inl c_chooser)), ((a9 9), .inl (cyI, 60, .inl c_firsts)), ((a9 11), .inl (cyI, 60, .inl c_goes)), ((a9 5), .inl (cyI, 32, .inl c_holds)), ((a9 19), .inl (cyI, 6, .inl c_later)), ((a9 12), .inl (cyI, 2, .inl c_many)), ((a9 18), .inl (cyI, 6, .inl c_outs)), ((a9 16), .inl (cyI, 6, .inl c_placeOf)), ((a9 10), .inl (cyI, 60, .inl c_seconds)), ((a9 15), .inl (cyI, 6, .inl c_sideAt)), ((a9 14), .inl (cyI, 6, .inl c_won))] → va_S A s.heap H locs → lv_has ls 7 [(0, .ref (a9 0)), (3, .int x3), (4, .int x4)] → W p l e rmX9_layChoices s m av below meth c H locs 0 0 Q (F0 m 204 ls [])) (k216 : Int32 → Int32 → Int32 → Int32 → (Nat → Int32) → (Nat → Int32) → (Nat → Int32) → Option ((Nat → Int32) × (Nat → Int32) × (Nat → Int32))) (hk216 : ∀ (x3 : Int32) (x4 : Int32) (x5 : Int32) (x6 : Int32) (c_chooser : Nat → Int32) (c_later : Nat → Int32) (c_outs : Nat → Int32) (H : Heap) (locs : List Loc) (ls : Array Slot), k216 x3 x4 x5 x6 c_chooser c_later c_outs = some q → va_P D vwCl [(a9 0, .inr (9, fl9 a9 i9 g9)), ((a9 17), .inl (cyI, 6, .inl c_chooser)), ((a9 9), .inl (cyI, 60, .inl c_firsts)), ((a9 11), .inl (cyI, 60, .inl c_goes)), ((a9 5), .inl (cyI, 32, .inl c_holds)), ((a9 19), .inl (cyI, 6, .inl c_later)), ((a9 12), .inl (cyI, 2, .inl c_many)), ((a9 18), .inl (cyI, 6, .inl c_outs)), ((a9 16), .inl (cyI, 6, .inl c_placeOf)), ((a9 10), .inl (cyI, 60, .inl c_seconds)), ((a9 15), .inl (cyI, 6, .inl c_sideAt)), ((a9 14), .inl (cyI, 6, .inl c_won))] H → va_D A [(a9 0, .inr (9, fl9 a9 i9 g9)), ((a9 17), .inl (cyI, 6, .inl c_chooser)), ((a9 9), .inl (cyI, 60, .inl c_firsts)), ((a9 11), .inl (cyI, 60, .inl c_goes)), ((a9 5), .inl (cyI, 32, .inl c_holds)), ((a9 19), .inl (cyI, 6, .inl c_later)), ((a9 12), .inl (cyI, 2, .inl c_many)), ((a9 18), .inl (cyI, 6, .inl c_outs)), ((a9 16), .inl (cyI, 6, .inl c_placeOf)), ((a9 10), .inl (cyI, 60, .inl c_seconds)), ((a9 15), .inl (cyI, 6, .inl c_sideAt)), ((a9 14), .inl (cyI, 6, .inl c_won))] → va_S A s.heap H locs → lv_has ls 7 [(0, .ref (a9 0)), (3, .int x3), (4, .int x4), (5, .int x5), (6, .int x6)] → W p l e rmX9_layChoices s m av below meth c H locs 0 0 Q (F0 m 216 ls [])), ∀ (x3 : Int32) (x4 : Int32) (x6 : Int32) (s0 : Int32) (c_chooser : Nat → Int32) (c_later : Nat → Int32) (c_outs : Nat → Int32) (H : Heap) (locs : List Loc) (ls : Array Slot), fX9_layChoices_246 N c_firsts c_goes c_holds c_many c_placeOf c_seconds c_sideAt c_won x1 x2 k204 k216 x3 x4 x6 s0 c_chooser c_later c_outs = some q → va_P D vwCl [(a9 0, .inr (9, fl9 a9 i9 g9)), ((a9 17), .inl (cyI, 6, .inl c_chooser)), ((a9 9), .inl (cyI, 60, .inl c_firsts)), ((a9 11), .inl (cyI, 60, .inl c_goes)), ((a9 5), .inl (cyI, 32, .inl c_holds)), ((a9 19), .inl (cyI, 6, .inl c_later)), ((a9 12), .inl (cyI, 2, .inl c_many)), ((a9 18), .inl (cyI, 6, .inl c_outs)), ((a9 16), .inl (cyI, 6, .inl c_placeOf)), ((a9 10), .inl (cyI, 60, .inl c_seconds)), ((a9 15), .inl (cyI, 6, .inl c_sideAt)), ((a9 14), .inl (cyI, 6, .inl c_won))] H → va_D A [(a9 0, .inr (9, fl9 a9 i9 g9)), ((a9 17), .inl (cyI, 6, .inl c_chooser)), ((a9 9), .inl (cyI, 60, .inl c_firsts)), ((a9 11), .inl (cyI, 60, .inl c_goes)), ((a9 5), .inl (cyI, 32, .inl c_holds)), ((a9 19), .inl (cyI, 6, .inl c_later)), ((a9 12), .inl (cyI, 2, .inl c_many)), ((a9 18), .inl (cyI, 6, .inl c_outs)), ((a9 16), .inl (cyI, 6, .inl c_placeOf)), ((a9 10), .inl (cyI, 60, .inl c_seconds)), ((a9 15), .inl (cyI, 6, .inl c_sideAt)), ((a9 14), .inl (cyI, 6, .inl c_won))] → va_S A s.heap H locs → lv_has ls 7 [(0, .ref (a9 0)), (3, .int x3), (4, .int x4), (6, .int x6)] → W p l e rmX9_layChoices s m av below meth c H locs 0 0 Q (F0 m 246 ls [.int s0]) := by
    intro k204 hk204 k216 hk216 x3 x4 x6 s0 c_chooser c_later c_outs H locs ls hf hP hD hS hl
    unfold fX9_layChoices_246 at hf
    refine lv_iconst (v := 0) hx hb dX9_layChoices_246 (by decide) ?_
    exact hB247 k204 hk204 k216 hk216 x3 x4 x6 s0 0 c_chooser c_later c_outs H locs ls hf hP hD hS (lv_sub hl [0, 1, 2, 3] rfl)
  have hB216 : ∀ (k204 : Int32 → Int32 → (Nat → Int32) → (Nat → Int32) → (Nat → Int32) → Option ((Nat → Int32) × (Nat → Int32) × (Nat → Int32))) (hk204 : ∀ (x3 : Int32) (x4 : Int32) (c_chooser : Nat → Int32) (c_later : Nat → Int32) (c_outs : Nat → Int32) (H : Heap) (locs : List Loc) (ls : Array Slot), k204 x3 x4 c_chooser c_later c_outs = some q → va_P D vwCl [(a9 0, .inr (9, fl9 a9 i9 g9)), ((a9 17), .inl (cyI, 6, .inl c_chooser)), ((a9 9), .inl (cyI, 60, .inl c_firsts)), ((a9 11), .inl (cyI, 60, .inl c_goes)), ((a9 5), .inl (cyI, 32, .inl c_holds)), ((a9 19), .inl (cyI, 6, .inl c_later)), ((a9 12), .inl (cyI, 2, .inl c_many)), ((a9 18), .inl (cyI, 6, .inl c_outs)), ((a9 16), .inl (cyI, 6, .inl c_placeOf)), ((a9 10), .inl (cyI, 60, .inl c_seconds)), ((a9 15), .inl (cyI, 6, .inl c_sideAt)), ((a9 14), .inl (cyI, 6, .inl c_won))] H → va_D A [(a9 0, .inr (9, fl9 a9 i9 g9)), ((a9 17), .inl (cyI, 6, .inl c_chooser)), ((a9 9), .inl (cyI, 60, .inl c_firsts)), ((a9 11), .inl (cyI, 60, .inl c_goes)), ((a9 5), .inl (cyI, 32, .inl c_holds)), ((a9 19), .inl (cyI, 6, .inl c_later)), ((a9 12), .inl (cyI, 2, .inl c_many)), ((a9 18), .inl (cyI, 6, .inl c_outs)), ((a9 16), .inl (cyI, 6, .inl c_placeOf)), ((a9 10), .inl (cyI, 60, .inl c_seconds)), ((a9 15), .inl (cyI, 6, .inl c_sideAt)), ((a9 14), .inl (cyI, 6, .inl c_won))] → va_S A s.heap H locs → lv_has ls 7 [(0, .ref (a9 0)), (3, .int x3), (4, .int x4)] → W p l e rmX9_layChoices s m av below meth c H locs 0 0 Q (F0 m 204 ls [])) (n : Nat), ∀ (x3 : Int32) (x4 : Int32) (x5 : Int32) (x6 : Int32) (c_chooser : Nat → Int32) (c_later : Nat → Int32) (c_outs : Nat → Int32) (H : Heap) (locs : List Loc) (ls : Array Slot), fX9_layChoices_216 N c_firsts c_goes c_holds c_many c_placeOf c_seconds c_sideAt c_won x1 x2 k204 n x3 x4 x5 x6 c_chooser c_later c_outs = some q → va_P D vwCl [(a9 0, .inr (9, fl9 a9 i9 g9)), ((a9 17), .inl (cyI, 6, .inl c_chooser)), ((a9 9), .inl (cyI, 60, .inl c_firsts)), ((a9 11), .inl (cyI, 60, .inl c_goes)), ((a9 5), .inl (cyI, 32, .inl c_holds)), ((a9 19), .inl (cyI, 6, .inl c_later)), ((a9 12), .inl (cyI, 2, .inl c_many)), ((a9 18), .inl (cyI, 6, .inl c_outs)), ((a9 16), .inl (cyI, 6, .inl c_placeOf)), ((a9 10), .inl (cyI, 60, .inl c_seconds)), ((a9 15), .inl (cyI, 6, .inl c_sideAt)), ((a9 14), .inl (cyI, 6, .inl c_won))] H → va_D A [(a9 0, .inr (9, fl9 a9 i9 g9)), ((a9 17), .inl (cyI, 6, .inl c_chooser)), ((a9 9), .inl (cyI, 60, .inl c_firsts)), ((a9 11), .inl (cyI, 60, .inl c_goes)), ((a9 5), .inl (cyI, 32, .inl c_holds)), ((a9 19), .inl (cyI, 6, .inl c_later)), ((a9 12), .inl (cyI, 2, .inl c_many)), ((a9 18), .inl (cyI, 6, .inl c_outs)), ((a9 16), .inl (cyI, 6, .inl c_placeOf)), ((a9 10), .inl (cyI, 60, .inl c_seconds)), ((a9 15), .inl (cyI, 6, .inl c_sideAt)), ((a9 14), .inl (cyI, 6, .inl c_won))] → va_S A s.heap H locs → lv_has ls 7 [(0, .ref (a9 0)), (3, .int x3), (4, .int x4), (5, .int x5), (6, .int x6)] → W p l e rmX9_layChoices s m av below meth c H locs 0 0 Q (F0 m 216 ls []) := by
    intro k204 hk204 n
    induction n with
    | zero => intro x3 x4 x5 x6 c_chooser c_later c_outs H locs ls hf; exact absurd hf (by simp [fX9_layChoices_216])
    | succ n hk216 =>
      intro x3 x4 x5 x6 c_chooser c_later c_outs H locs ls hf hP hD hS hl
      rw [fX9_layChoices_216] at hf
      refine lv_iload hx hb dX9_layChoices_216 (lv_at hl 4 rfl) ?_
      refine lv_iload_n hx hb dX9_layChoices_218 rfl (lv_at hl 1 rfl) ?_
      refine lv_icmp_ge (tgt := 256) hx hb dX9_layChoices_219 (by decide) (fun c219 => ?_) (fun c219 => ?_)
      · have hf := pif_t c219 hf
        refine lv_aload_n hx hb dX9_layChoices_256 rfl (lv_at hl 0 rfl) ?_
        refine va_get (D := D) (ci := 9) (v := .ref (a9 17)) (C := RX9) (T := TX9) (N := 52) hx hb hL inlX9 hown hK.1 hP 0 rfl rfl 29 (by decide) w0 (fun _ h9 => h9) rfl dX9_layChoices_257 ?_
        refine lv_iload hx hb dX9_layChoices_260 (lv_at hl 3 rfl) ?_
        refine lv_iload hx hb dX9_layChoices_262 (lv_at hl 2 rfl) ?_
        obtain ⟨h264, hf⟩ := pg_some hf
        refine va_iast hx hb hK.1 hP hD hS 1 0 rfl rfl h264 dX9_layChoices_264 (fun H locs hP hD hS => ?_)
        have hP : va_P D vwCl [(a9 0, .inr (9, fl9 a9 i9 g9)), ((a9 17), .inl (cyI, 6, .inl (upd c_chooser x5.toNatClampNeg x4))), ((a9 9), .inl (cyI, 60, .inl c_firsts)), ((a9 11), .inl (cyI, 60, .inl c_goes)), ((a9 5), .inl (cyI, 32, .inl c_holds)), ((a9 19), .inl (cyI, 6, .inl c_later)), ((a9 12), .inl (cyI, 2, .inl c_many)), ((a9 18), .inl (cyI, 6, .inl c_outs)), ((a9 16), .inl (cyI, 6, .inl c_placeOf)), ((a9 10), .inl (cyI, 60, .inl c_seconds)), ((a9 15), .inl (cyI, 6, .inl c_sideAt)), ((a9 14), .inl (cyI, 6, .inl c_won))] H := hP
        have hD : va_D A [(a9 0, .inr (9, fl9 a9 i9 g9)), ((a9 17), .inl (cyI, 6, .inl (upd c_chooser x5.toNatClampNeg x4))), ((a9 9), .inl (cyI, 60, .inl c_firsts)), ((a9 11), .inl (cyI, 60, .inl c_goes)), ((a9 5), .inl (cyI, 32, .inl c_holds)), ((a9 19), .inl (cyI, 6, .inl c_later)), ((a9 12), .inl (cyI, 2, .inl c_many)), ((a9 18), .inl (cyI, 6, .inl c_outs)), ((a9 16), .inl (cyI, 6, .inl c_placeOf)), ((a9 10), .inl (cyI, 60, .inl c_seconds)), ((a9 15), .inl (cyI, 6, .inl c_sideAt)), ((a9 14), .inl (cyI, 6, .inl c_won))] := hD
        refine lv_iinc (v := x4 + 1) (lv' := [(4, .int (x4 + 1)), (0, .ref (a9 0)), (3, .int x3), (5, .int x5), (6, .int x6)]) hx hb dX9_layChoices_265 hl (k := 2) rfl rfl (by decide) rfl (fun ls hl => ?_)
        refine lv_goto (tgt := 204) hx hb dX9_layChoices_268 (by decide) ?_
        exact hk204 x3 (x4 + 1) (upd c_chooser x5.toNatClampNeg x4) c_later c_outs H locs ls hf hP hD hS (lv_sub hl [1, 2, 0] rfl)
      · have hf := pif_f c219 hf
        refine lv_iload hx hb dX9_layChoices_222 (lv_at hl 3 rfl) ?_
        refine lv_iload hx hb dX9_layChoices_224 (lv_at hl 4 rfl) ?_
        refine lv_iload hx hb dX9_layChoices_226 (lv_at hl 2 rfl) ?_
        refine lv_icmp_eq (tgt := 246) hx hb dX9_layChoices_228 (by decide) (fun c228 => ?_) (fun c228 => ?_)
        · have hf := pif_t c228 hf
          exact hB246 k204 hk204 (fX9_layChoices_216 N c_firsts c_goes c_holds c_many c_placeOf c_seconds c_sideAt c_won x1 x2 k204 n) hk216 x3 x4 x6 x5 c_chooser c_later c_outs H locs ls hf hP hD hS (lv_sub hl [0, 1, 2, 4] rfl)
        · have hf := pif_f c228 hf
          refine lv_aload_n hx hb dX9_layChoices_231 rfl (lv_at hl 0 rfl) ?_
          refine lv_iload hx hb dX9_layChoices_232 (lv_at hl 4 rfl) ?_
          refine lv_iload hx hb dX9_layChoices_234 (lv_at hl 2 rfl) ?_
          obtain ⟨q236, e236, hf⟩ := pb_some hf
          refine cc_i (wc := [(a9 0, .inr (9, fl9 a9 i9 g9)), ((a9 19), .inl (cyI, 6, .inl c_later)), ((a9 18), .inl (cyI, 6, .inl c_outs)), ((a9 16), .inl (cyI, 6, .inl c_placeOf))]) (wr := [((a9 17), .inl (cyI, 6, .inl c_chooser)), ((a9 9), .inl (cyI, 60, .inl c_firsts)), ((a9 11), .inl (cyI, 60, .inl c_goes)), ((a9 5), .inl (cyI, 32, .inl c_holds)), ((a9 12), .inl (cyI, 2, .inl c_many)), ((a9 10), .inl (cyI, 60, .inl c_seconds)), ((a9 15), .inl (cyI, 6, .inl c_sideAt)), ((a9 14), .inl (cyI, 6, .inl c_won))]) (w1 := [(a9 0, .inr (9, fl9 a9 i9 g9)), ((a9 19), .inl (cyI, 6, .inl c_later)), ((a9 18), .inl (cyI, 6, .inl c_outs)), ((a9 16), .inl (cyI, 6, .inl c_placeOf))]) (wn := [(a9 0, .inr (9, fl9 a9 i9 g9)), ((a9 17), .inl (cyI, 6, .inl c_chooser)), ((a9 9), .inl (cyI, 60, .inl c_firsts)), ((a9 11), .inl (cyI, 60, .inl c_goes)), ((a9 5), .inl (cyI, 32, .inl c_holds)), ((a9 19), .inl (cyI, 6, .inl c_later)), ((a9 12), .inl (cyI, 2, .inl c_many)), ((a9 18), .inl (cyI, 6, .inl c_outs)), ((a9 16), .inl (cyI, 6, .inl c_placeOf)), ((a9 10), .inl (cyI, 60, .inl c_seconds)), ((a9 15), .inl (cyI, 6, .inl c_sideAt)), ((a9 14), .inl (cyI, 6, .inl c_won))]) hP hD hS hA [0, 5, 7, 8] [1, 2, 3, 4, 6, 9, 10, 11] [8, 0, 1, 2, 3, 9, 4, 10, 11, 5, 6, 7] rfl rfl rfl (by decide) rfl rfl (va_runV (C := RX9) (As := [.int x6, .int x4]) (rest := [.int x5]) ⟨hx, hb, hml, hown, hL⟩ (mX9_isAhead l D cyI cyJ cyB cyS N H.size a9 i9 g9 c_later c_outs c_placeOf x6 x4 q236 e236) (cwV 2 hL (gV (hR30 1 rfl) (hR30 2 rfl) (hR30 3 rfl) (hR1 5 rfl) (hR30 4 rfl)) rfl rfl rfl (by decide +kernel) ⟨Nat.le_of_ble_eq_true rfl, Nat.le_of_ble_eq_true rfl⟩) (PP_preV (ci := 9) (q0 := 0) hP hD hK [0, 5, 7, 8] rfl rfl rfl rfl) rfl rfl hl.1 rfl (lv_room (Nat.le_of_ble_eq_true rfl)) dX9_layChoices_236 ⟨Nat.le_of_ble_eq_true rfl, Nat.le_of_ble_eq_true rfl⟩) (fun H locs hP hD hS => ?_)
          refine lv_if_eq (tgt := 246) hx hb dX9_layChoices_239 (by decide) (fun c239 => ?_) (fun c239 => ?_)
          · have hf := pif_t c239 hf
            exact hB246 k204 hk204 (fX9_layChoices_216 N c_firsts c_goes c_holds c_many c_placeOf c_seconds c_sideAt c_won x1 x2 k204 n) hk216 x3 x4 x6 x5 c_chooser c_later c_outs H locs ls hf hP hD hS (lv_sub hl [0, 1, 2, 4] rfl)
          · have hf := pif_f c239 hf
            refine lv_iconst (v := 1) hx hb dX9_layChoices_242 (by decide) ?_
            refine lv_goto (tgt := 247) hx hb dX9_layChoices_243 (by decide) ?_
            exact hB247 k204 hk204 (fX9_layChoices_216 N c_firsts c_goes c_holds c_many c_placeOf c_seconds c_sideAt c_won x1 x2 k204 n) hk216 x3 x4 x6 x5 1 c_chooser c_later c_outs H locs ls hf hP hD hS (lv_sub hl [0, 1, 2, 4] rfl)
  have hB271 : ∀ (c_chooser : Nat → Int32) (c_later : Nat → Int32) (c_outs : Nat → Int32) (H : Heap) (locs : List Loc) (ls : Array Slot), fX9_layChoices_271 N c_firsts c_goes c_holds c_many c_placeOf c_seconds c_sideAt c_won x1 x2 c_chooser c_later c_outs = some q → va_P D vwCl [(a9 0, .inr (9, fl9 a9 i9 g9)), ((a9 17), .inl (cyI, 6, .inl c_chooser)), ((a9 9), .inl (cyI, 60, .inl c_firsts)), ((a9 11), .inl (cyI, 60, .inl c_goes)), ((a9 5), .inl (cyI, 32, .inl c_holds)), ((a9 19), .inl (cyI, 6, .inl c_later)), ((a9 12), .inl (cyI, 2, .inl c_many)), ((a9 18), .inl (cyI, 6, .inl c_outs)), ((a9 16), .inl (cyI, 6, .inl c_placeOf)), ((a9 10), .inl (cyI, 60, .inl c_seconds)), ((a9 15), .inl (cyI, 6, .inl c_sideAt)), ((a9 14), .inl (cyI, 6, .inl c_won))] H → va_D A [(a9 0, .inr (9, fl9 a9 i9 g9)), ((a9 17), .inl (cyI, 6, .inl c_chooser)), ((a9 9), .inl (cyI, 60, .inl c_firsts)), ((a9 11), .inl (cyI, 60, .inl c_goes)), ((a9 5), .inl (cyI, 32, .inl c_holds)), ((a9 19), .inl (cyI, 6, .inl c_later)), ((a9 12), .inl (cyI, 2, .inl c_many)), ((a9 18), .inl (cyI, 6, .inl c_outs)), ((a9 16), .inl (cyI, 6, .inl c_placeOf)), ((a9 10), .inl (cyI, 60, .inl c_seconds)), ((a9 15), .inl (cyI, 6, .inl c_sideAt)), ((a9 14), .inl (cyI, 6, .inl c_won))] → va_S A s.heap H locs → lv_has ls 7 [] → W p l e rmX9_layChoices s m av below meth c H locs 0 0 Q (F0 m 271 ls []) := by
    intro c_chooser c_later c_outs H locs ls hf hP hD hS hl
    unfold fX9_layChoices_271 at hf
    exact ret_v (q := q) (wp := fun q => [(a9 0, .inr (9, fl9 a9 i9 g9)), ((a9 17), .inl (cyI, 6, .inl q.1)), ((a9 9), .inl (cyI, 60, .inl c_firsts)), ((a9 11), .inl (cyI, 60, .inl c_goes)), ((a9 5), .inl (cyI, 32, .inl c_holds)), ((a9 19), .inl (cyI, 6, .inl q.2.1)), ((a9 12), .inl (cyI, 2, .inl c_many)), ((a9 18), .inl (cyI, 6, .inl q.2.2)), ((a9 16), .inl (cyI, 6, .inl c_placeOf)), ((a9 10), .inl (cyI, 60, .inl c_seconds)), ((a9 15), .inl (cyI, 6, .inl c_sideAt)), ((a9 14), .inl (cyI, 6, .inl c_won))]) hQ hf hx hb hr hlocks hP hD hS dX9_layChoices_271
  have hB204 : ∀ (n : Nat), ∀ (x3 : Int32) (x4 : Int32) (c_chooser : Nat → Int32) (c_later : Nat → Int32) (c_outs : Nat → Int32) (H : Heap) (locs : List Loc) (ls : Array Slot), fX9_layChoices_204 N c_firsts c_goes c_holds c_many c_placeOf c_seconds c_sideAt c_won x1 x2 n x3 x4 c_chooser c_later c_outs = some q → va_P D vwCl [(a9 0, .inr (9, fl9 a9 i9 g9)), ((a9 17), .inl (cyI, 6, .inl c_chooser)), ((a9 9), .inl (cyI, 60, .inl c_firsts)), ((a9 11), .inl (cyI, 60, .inl c_goes)), ((a9 5), .inl (cyI, 32, .inl c_holds)), ((a9 19), .inl (cyI, 6, .inl c_later)), ((a9 12), .inl (cyI, 2, .inl c_many)), ((a9 18), .inl (cyI, 6, .inl c_outs)), ((a9 16), .inl (cyI, 6, .inl c_placeOf)), ((a9 10), .inl (cyI, 60, .inl c_seconds)), ((a9 15), .inl (cyI, 6, .inl c_sideAt)), ((a9 14), .inl (cyI, 6, .inl c_won))] H → va_D A [(a9 0, .inr (9, fl9 a9 i9 g9)), ((a9 17), .inl (cyI, 6, .inl c_chooser)), ((a9 9), .inl (cyI, 60, .inl c_firsts)), ((a9 11), .inl (cyI, 60, .inl c_goes)), ((a9 5), .inl (cyI, 32, .inl c_holds)), ((a9 19), .inl (cyI, 6, .inl c_later)), ((a9 12), .inl (cyI, 2, .inl c_many)), ((a9 18), .inl (cyI, 6, .inl c_outs)), ((a9 16), .inl (cyI, 6, .inl c_placeOf)), ((a9 10), .inl (cyI, 60, .inl c_seconds)), ((a9 15), .inl (cyI, 6, .inl c_sideAt)), ((a9 14), .inl (cyI, 6, .inl c_won))] → va_S A s.heap H locs → lv_has ls 7 [(0, .ref (a9 0)), (3, .int x3), (4, .int x4)] → W p l e rmX9_layChoices s m av below meth c H locs 0 0 Q (F0 m 204 ls []) := by
    intro n
    induction n with
    | zero => intro x3 x4 c_chooser c_later c_outs H locs ls hf; exact absurd hf (by simp [fX9_layChoices_204])
    | succ n hk204 =>
      intro x3 x4 c_chooser c_later c_outs H locs ls hf hP hD hS hl
      rw [fX9_layChoices_204] at hf
      refine lv_iload hx hb dX9_layChoices_204 (lv_at hl 2 rfl) ?_
      refine lv_iload_n hx hb dX9_layChoices_206 rfl (lv_at hl 1 rfl) ?_
      refine lv_icmp_ge (tgt := 271) hx hb dX9_layChoices_207 (by decide) (fun c207 => ?_) (fun c207 => ?_)
      · have hf := pif_t c207 hf
        exact hB271 c_chooser c_later c_outs H locs ls hf hP hD hS (lv_sub hl [] rfl)
      · have hf := pif_f c207 hf
        refine lv_iconst (v := 0) hx hb dX9_layChoices_210 (by decide) ?_
        refine lv_istore (lv' := [(5, .int 0), (0, .ref (a9 0)), (3, .int x3), (4, .int x4)]) hx hb dX9_layChoices_211 hl (by decide) rfl (fun ls hl => ?_)
        refine lv_iconst (v := 0) hx hb dX9_layChoices_213 (by decide) ?_
        refine lv_istore (lv' := [(6, .int 0), (5, .int 0), (0, .ref (a9 0)), (3, .int x3), (4, .int x4)]) hx hb dX9_layChoices_214 hl (by decide) rfl (fun ls hl => ?_)
        exact hB216 (fX9_layChoices_204 N c_firsts c_goes c_holds c_many c_placeOf c_seconds c_sideAt c_won x1 x2 n) hk204 N x3 x4 0 0 c_chooser c_later c_outs H locs ls hf hP hD hS (lv_sub hl [2, 3, 4, 1, 0] rfl)
  have hB130 : ∀ (n : Nat), ∀ (x3 : Int32) (x4 : Int32) (c_chooser : Nat → Int32) (c_later : Nat → Int32) (c_outs : Nat → Int32) (H : Heap) (locs : List Loc) (ls : Array Slot), fX9_layChoices_130 N c_firsts c_goes c_holds c_many c_placeOf c_seconds c_sideAt c_won x1 x2 n x3 x4 c_chooser c_later c_outs = some q → va_P D vwCl [(a9 0, .inr (9, fl9 a9 i9 g9)), ((a9 17), .inl (cyI, 6, .inl c_chooser)), ((a9 9), .inl (cyI, 60, .inl c_firsts)), ((a9 11), .inl (cyI, 60, .inl c_goes)), ((a9 5), .inl (cyI, 32, .inl c_holds)), ((a9 19), .inl (cyI, 6, .inl c_later)), ((a9 12), .inl (cyI, 2, .inl c_many)), ((a9 18), .inl (cyI, 6, .inl c_outs)), ((a9 16), .inl (cyI, 6, .inl c_placeOf)), ((a9 10), .inl (cyI, 60, .inl c_seconds)), ((a9 15), .inl (cyI, 6, .inl c_sideAt)), ((a9 14), .inl (cyI, 6, .inl c_won))] H → va_D A [(a9 0, .inr (9, fl9 a9 i9 g9)), ((a9 17), .inl (cyI, 6, .inl c_chooser)), ((a9 9), .inl (cyI, 60, .inl c_firsts)), ((a9 11), .inl (cyI, 60, .inl c_goes)), ((a9 5), .inl (cyI, 32, .inl c_holds)), ((a9 19), .inl (cyI, 6, .inl c_later)), ((a9 12), .inl (cyI, 2, .inl c_many)), ((a9 18), .inl (cyI, 6, .inl c_outs)), ((a9 16), .inl (cyI, 6, .inl c_placeOf)), ((a9 10), .inl (cyI, 60, .inl c_seconds)), ((a9 15), .inl (cyI, 6, .inl c_sideAt)), ((a9 14), .inl (cyI, 6, .inl c_won))] → va_S A s.heap H locs → lv_has ls 7 [(0, .ref (a9 0)), (1, .int x1), (3, .int x3), (4, .int x4)] → W p l e rmX9_layChoices s m av below meth c H locs 0 0 Q (F0 m 130 ls []) := by
    intro n
    induction n with
    | zero => intro x3 x4 c_chooser c_later c_outs H locs ls hf; exact absurd hf (by simp [fX9_layChoices_130])
    | succ n hk130 =>
      intro x3 x4 c_chooser c_later c_outs H locs ls hf hP hD hS hl
      rw [fX9_layChoices_130] at hf
      refine lv_iload hx hb dX9_layChoices_130 (lv_at hl 3 rfl) ?_
      refine lv_iload_n hx hb dX9_layChoices_132 rfl (lv_at hl 2 rfl) ?_
      refine lv_icmp_ge (tgt := 201) hx hb dX9_layChoices_133 (by decide) (fun c133 => ?_) (fun c133 => ?_)
      · have hf := pif_t c133 hf
        refine lv_iconst (v := 0) hx hb dX9_layChoices_201 (by decide) ?_
        refine lv_istore (lv' := [(4, .int 0), (0, .ref (a9 0)), (1, .int x1), (3, .int x3)]) hx hb dX9_layChoices_202 hl (by decide) rfl (fun ls hl => ?_)
        exact hB204 N x3 0 c_chooser c_later c_outs H locs ls hf hP hD hS (lv_sub hl [1, 3, 0] rfl)
      · have hf := pif_f c133 hf
        refine lv_aload_n hx hb dX9_layChoices_136 rfl (lv_at hl 0 rfl) ?_
        refine va_get (D := D) (ci := 9) (v := .ref (a9 18)) (C := RX9) (T := TX9) (N := 52) hx hb hL inlX9 hown hK.1 hP 0 rfl rfl 30 (by decide) w1 (fun _ h9 => h9) rfl dX9_layChoices_137 ?_
        refine lv_iload hx hb dX9_layChoices_140 (lv_at hl 3 rfl) ?_
        refine lv_aload_n hx hb dX9_layChoices_142 rfl (lv_at hl 0 rfl) ?_
        refine lv_iload_n hx hb dX9_layChoices_143 rfl (lv_at hl 1 rfl) ?_
        refine lv_iload hx hb dX9_layChoices_144 (lv_at hl 3 rfl) ?_
        obtain ⟨q146, e146, hf⟩ := pb_some hf
        refine cc_i (wc := [(a9 0, .inr (9, fl9 a9 i9 g9)), ((a9 9), .inl (cyI, 60, .inl c_firsts)), ((a9 11), .inl (cyI, 60, .inl c_goes)), ((a9 5), .inl (cyI, 32, .inl c_holds)), ((a9 12), .inl (cyI, 2, .inl c_many)), ((a9 10), .inl (cyI, 60, .inl c_seconds))]) (wr := [((a9 17), .inl (cyI, 6, .inl c_chooser)), ((a9 19), .inl (cyI, 6, .inl c_later)), ((a9 18), .inl (cyI, 6, .inl c_outs)), ((a9 16), .inl (cyI, 6, .inl c_placeOf)), ((a9 15), .inl (cyI, 6, .inl c_sideAt)), ((a9 14), .inl (cyI, 6, .inl c_won))]) (w1 := [(a9 0, .inr (9, fl9 a9 i9 g9)), ((a9 9), .inl (cyI, 60, .inl c_firsts)), ((a9 11), .inl (cyI, 60, .inl c_goes)), ((a9 5), .inl (cyI, 32, .inl c_holds)), ((a9 12), .inl (cyI, 2, .inl c_many)), ((a9 10), .inl (cyI, 60, .inl c_seconds))]) (wn := [(a9 0, .inr (9, fl9 a9 i9 g9)), ((a9 17), .inl (cyI, 6, .inl c_chooser)), ((a9 9), .inl (cyI, 60, .inl c_firsts)), ((a9 11), .inl (cyI, 60, .inl c_goes)), ((a9 5), .inl (cyI, 32, .inl c_holds)), ((a9 19), .inl (cyI, 6, .inl c_later)), ((a9 12), .inl (cyI, 2, .inl c_many)), ((a9 18), .inl (cyI, 6, .inl c_outs)), ((a9 16), .inl (cyI, 6, .inl c_placeOf)), ((a9 10), .inl (cyI, 60, .inl c_seconds)), ((a9 15), .inl (cyI, 6, .inl c_sideAt)), ((a9 14), .inl (cyI, 6, .inl c_won))]) hP hD hS hA [0, 2, 3, 4, 6, 9] [1, 5, 7, 8, 10, 11] [6, 0, 7, 8, 9, 1, 10, 2, 3, 11, 4, 5] rfl rfl rfl (by decide) rfl rfl (va_runV (C := RX9) (As := [.int x1, .int x4]) (rest := [.int x4, .ref (a9 18)]) ⟨hx, hb, hml, hown, hL⟩ (mX9_outOf l D cyI cyJ cyB cyS N H.size a9 i9 g9 c_firsts c_goes c_holds c_many c_seconds x1 x4 q146 e146) (cwV 2 hL (gV (hR27 17 rfl) (hR27 18 rfl) (hR27 19 rfl) (hR1 5 rfl) (hR27 20 rfl)) rfl rfl rfl (by decide +kernel) ⟨Nat.le_of_ble_eq_true rfl, Nat.le_of_ble_eq_true rfl⟩) (PP_preV (ci := 9) (q0 := 0) hP hD hK [0, 2, 3, 4, 6, 9] rfl rfl rfl rfl) rfl rfl hl.1 rfl (lv_room (Nat.le_of_ble_eq_true rfl)) dX9_layChoices_146 ⟨Nat.le_of_ble_eq_true rfl, Nat.le_of_ble_eq_true rfl⟩) (fun H locs hP hD hS => ?_)
        obtain ⟨h149, hf⟩ := pg_some hf
        refine va_iast hx hb hK.1 hP hD hS 7 0 rfl rfl h149 dX9_layChoices_149 (fun H locs hP hD hS => ?_)
        have hP : va_P D vwCl [(a9 0, .inr (9, fl9 a9 i9 g9)), ((a9 17), .inl (cyI, 6, .inl c_chooser)), ((a9 9), .inl (cyI, 60, .inl c_firsts)), ((a9 11), .inl (cyI, 60, .inl c_goes)), ((a9 5), .inl (cyI, 32, .inl c_holds)), ((a9 19), .inl (cyI, 6, .inl c_later)), ((a9 12), .inl (cyI, 2, .inl c_many)), ((a9 18), .inl (cyI, 6, .inl (upd c_outs x4.toNatClampNeg q146))), ((a9 16), .inl (cyI, 6, .inl c_placeOf)), ((a9 10), .inl (cyI, 60, .inl c_seconds)), ((a9 15), .inl (cyI, 6, .inl c_sideAt)), ((a9 14), .inl (cyI, 6, .inl c_won))] H := hP
        have hD : va_D A [(a9 0, .inr (9, fl9 a9 i9 g9)), ((a9 17), .inl (cyI, 6, .inl c_chooser)), ((a9 9), .inl (cyI, 60, .inl c_firsts)), ((a9 11), .inl (cyI, 60, .inl c_goes)), ((a9 5), .inl (cyI, 32, .inl c_holds)), ((a9 19), .inl (cyI, 6, .inl c_later)), ((a9 12), .inl (cyI, 2, .inl c_many)), ((a9 18), .inl (cyI, 6, .inl (upd c_outs x4.toNatClampNeg q146))), ((a9 16), .inl (cyI, 6, .inl c_placeOf)), ((a9 10), .inl (cyI, 60, .inl c_seconds)), ((a9 15), .inl (cyI, 6, .inl c_sideAt)), ((a9 14), .inl (cyI, 6, .inl c_won))] := hD
        refine lv_aload_n hx hb dX9_layChoices_150 rfl (lv_at hl 0 rfl) ?_
        refine va_get (D := D) (ci := 9) (v := .ref (a9 19)) (C := RX9) (T := TX9) (N := 52) hx hb hL inlX9 hown hK.1 hP 0 rfl rfl 31 (by decide) w2 (fun _ h9 => h9) rfl dX9_layChoices_151 ?_
        refine lv_iload hx hb dX9_layChoices_154 (lv_at hl 3 rfl) ?_
        refine lv_aload_n hx hb dX9_layChoices_156 rfl (lv_at hl 0 rfl) ?_
        refine va_get (D := D) (ci := 9) (v := .ref (a9 18)) (C := RX9) (T := TX9) (N := 52) hx hb hL inlX9 hown hK.1 hP 0 rfl rfl 30 (by decide) w1 (fun _ h9 => h9) rfl dX9_layChoices_157 ?_
        refine lv_iload hx hb dX9_layChoices_160 (lv_at hl 3 rfl) ?_
        obtain ⟨h162, hf⟩ := pg_some hf
        refine va_iald hx hb hK.1 hP 7 0 rfl rfl h162 dX9_layChoices_162 ?_
        refine lv_bipush (v := (-4)) hx hb dX9_layChoices_163 (by decide) ?_
        refine lv_icmp_ne (tgt := 172) hx hb dX9_layChoices_165 (by decide) (fun c165 => ?_) (fun c165 => ?_)
        · have hf := pif_f c165 hf
          refine lv_aload_n hx hb dX9_layChoices_172 rfl (lv_at hl 0 rfl) ?_
          refine va_get (D := D) (ci := 9) (v := .ref (a9 14)) (C := RX9) (T := TX9) (N := 52) hx hb hL inlX9 hown hK.1 hP 0 rfl rfl 26 (by decide) w3 (fun _ h9 => h9) rfl dX9_layChoices_173 ?_
          refine lv_iload hx hb dX9_layChoices_176 (lv_at hl 3 rfl) ?_
          obtain ⟨h178, hf⟩ := pg_some hf
          refine va_iald hx hb hK.1 hP 11 0 rfl rfl h178 dX9_layChoices_178 ?_
          refine lv_aload_n hx hb dX9_layChoices_179 rfl (lv_at hl 0 rfl) ?_
          refine lv_iload_n hx hb dX9_layChoices_180 rfl (lv_at hl 1 rfl) ?_
          refine lv_iload hx hb dX9_layChoices_181 (lv_at hl 3 rfl) ?_
          refine lv_aload_n hx hb dX9_layChoices_183 rfl (lv_at hl 0 rfl) ?_
          refine va_get (D := D) (ci := 9) (v := .ref (a9 18)) (C := RX9) (T := TX9) (N := 52) hx hb hL inlX9 hown hK.1 hP 0 rfl rfl 30 (by decide) w1 (fun _ h9 => h9) rfl dX9_layChoices_184 ?_
          refine lv_iload hx hb dX9_layChoices_187 (lv_at hl 3 rfl) ?_
          obtain ⟨h189, hf⟩ := pg_some hf
          refine va_iald hx hb hK.1 hP 7 0 rfl rfl h189 dX9_layChoices_189 ?_
          obtain ⟨q190, e190, hf⟩ := pb_some hf
          refine cc_i (wc := [(a9 0, .inr (9, fl9 a9 i9 g9)), ((a9 9), .inl (cyI, 60, .inl c_firsts)), ((a9 11), .inl (cyI, 60, .inl c_goes)), ((a9 10), .inl (cyI, 60, .inl c_seconds))]) (wr := [((a9 17), .inl (cyI, 6, .inl c_chooser)), ((a9 5), .inl (cyI, 32, .inl c_holds)), ((a9 19), .inl (cyI, 6, .inl c_later)), ((a9 12), .inl (cyI, 2, .inl c_many)), ((a9 18), .inl (cyI, 6, .inl (upd c_outs x4.toNatClampNeg q146))), ((a9 16), .inl (cyI, 6, .inl c_placeOf)), ((a9 15), .inl (cyI, 6, .inl c_sideAt)), ((a9 14), .inl (cyI, 6, .inl c_won))]) (w1 := [(a9 0, .inr (9, fl9 a9 i9 g9)), ((a9 9), .inl (cyI, 60, .inl c_firsts)), ((a9 11), .inl (cyI, 60, .inl c_goes)), ((a9 10), .inl (cyI, 60, .inl c_seconds))]) (wn := [(a9 0, .inr (9, fl9 a9 i9 g9)), ((a9 17), .inl (cyI, 6, .inl c_chooser)), ((a9 9), .inl (cyI, 60, .inl c_firsts)), ((a9 11), .inl (cyI, 60, .inl c_goes)), ((a9 5), .inl (cyI, 32, .inl c_holds)), ((a9 19), .inl (cyI, 6, .inl c_later)), ((a9 12), .inl (cyI, 2, .inl c_many)), ((a9 18), .inl (cyI, 6, .inl (upd c_outs x4.toNatClampNeg q146))), ((a9 16), .inl (cyI, 6, .inl c_placeOf)), ((a9 10), .inl (cyI, 60, .inl c_seconds)), ((a9 15), .inl (cyI, 6, .inl c_sideAt)), ((a9 14), .inl (cyI, 6, .inl c_won))]) hP hD hS hA [0, 2, 3, 9] [1, 4, 5, 6, 7, 8, 10, 11] [8, 0, 9, 10, 1, 2, 3, 4, 5, 11, 6, 7] rfl rfl rfl (by decide) rfl rfl (va_runV (C := RX9) (As := [.int x1, .int x4, .int ((upd c_outs x4.toNatClampNeg q146) x4.toNatClampNeg)]) (rest := [.int (c_won x4.toNatClampNeg), .int x4, .ref (a9 19)]) ⟨hx, hb, hml, hown, hL⟩ (mX9_wonUpTo l D cyI cyJ cyB cyS N H.size a9 i9 g9 c_firsts c_goes c_seconds x1 x4 ((upd c_outs x4.toNatClampNeg q146) x4.toNatClampNeg) q190 e190) (cwV 3 hL (gV (hR27 21 rfl) (hR27 22 rfl) (hR27 23 rfl) (hR1 5 rfl) (hR28 0 rfl)) rfl rfl rfl (by decide +kernel) ⟨Nat.le_of_ble_eq_true rfl, Nat.le_of_ble_eq_true rfl⟩) (PP_preV (ci := 9) (q0 := 0) hP hD hK [0, 2, 3, 9] rfl rfl rfl rfl) rfl rfl hl.1 rfl (lv_room (Nat.le_of_ble_eq_true rfl)) dX9_layChoices_190 ⟨Nat.le_of_ble_eq_true rfl, Nat.le_of_ble_eq_true rfl⟩) (fun H locs hP hD hS => ?_)
          refine lv_isub hx hb dX9_layChoices_193 ?_
          exact hB194 (fX9_layChoices_130 N c_firsts c_goes c_holds c_many c_placeOf c_seconds c_sideAt c_won x1 x2 n) hk130 x3 x4 x4 ((c_won x4.toNatClampNeg) - q190) c_chooser c_later (upd c_outs x4.toNatClampNeg q146) H locs ls hf hP hD hS (lv_sub hl [0, 1, 2, 3] rfl)
        · have hf := pif_t c165 hf
          refine lv_iconst (v := 0) hx hb dX9_layChoices_168 (by decide) ?_
          refine lv_goto (tgt := 194) hx hb dX9_layChoices_169 (by decide) ?_
          exact hB194 (fX9_layChoices_130 N c_firsts c_goes c_holds c_many c_placeOf c_seconds c_sideAt c_won x1 x2 n) hk130 x3 x4 x4 0 c_chooser c_later (upd c_outs x4.toNatClampNeg q146) H locs ls hf hP hD hS (lv_sub hl [0, 1, 2, 3] rfl)
  have hB117 : ∀ (x3 : Int32) (c_chooser : Nat → Int32) (c_later : Nat → Int32) (c_outs : Nat → Int32) (H : Heap) (locs : List Loc) (ls : Array Slot), fX9_layChoices_117 N c_firsts c_goes c_holds c_many c_placeOf c_seconds c_sideAt c_won x1 x2 x3 c_chooser c_later c_outs = some q → va_P D vwCl [(a9 0, .inr (9, fl9 a9 i9 g9)), ((a9 17), .inl (cyI, 6, .inl c_chooser)), ((a9 9), .inl (cyI, 60, .inl c_firsts)), ((a9 11), .inl (cyI, 60, .inl c_goes)), ((a9 5), .inl (cyI, 32, .inl c_holds)), ((a9 19), .inl (cyI, 6, .inl c_later)), ((a9 12), .inl (cyI, 2, .inl c_many)), ((a9 18), .inl (cyI, 6, .inl c_outs)), ((a9 16), .inl (cyI, 6, .inl c_placeOf)), ((a9 10), .inl (cyI, 60, .inl c_seconds)), ((a9 15), .inl (cyI, 6, .inl c_sideAt)), ((a9 14), .inl (cyI, 6, .inl c_won))] H → va_D A [(a9 0, .inr (9, fl9 a9 i9 g9)), ((a9 17), .inl (cyI, 6, .inl c_chooser)), ((a9 9), .inl (cyI, 60, .inl c_firsts)), ((a9 11), .inl (cyI, 60, .inl c_goes)), ((a9 5), .inl (cyI, 32, .inl c_holds)), ((a9 19), .inl (cyI, 6, .inl c_later)), ((a9 12), .inl (cyI, 2, .inl c_many)), ((a9 18), .inl (cyI, 6, .inl c_outs)), ((a9 16), .inl (cyI, 6, .inl c_placeOf)), ((a9 10), .inl (cyI, 60, .inl c_seconds)), ((a9 15), .inl (cyI, 6, .inl c_sideAt)), ((a9 14), .inl (cyI, 6, .inl c_won))] → va_S A s.heap H locs → lv_has ls 7 [(0, .ref (a9 0)), (1, .int x1), (3, .int x3)] → W p l e rmX9_layChoices s m av below meth c H locs 0 0 Q (F0 m 117 ls []) := by
    intro x3 c_chooser c_later c_outs H locs ls hf hP hD hS hl
    unfold fX9_layChoices_117 at hf
    refine lv_aload_n hx hb dX9_layChoices_117 rfl (lv_at hl 0 rfl) ?_
    refine va_get (D := D) (ci := 9) (v := .ref (a9 5)) (C := RX9) (T := TX9) (N := 52) hx hb hL inlX9 hown hK.1 hP 0 rfl rfl 12 (by decide) w4 (fun _ h9 => h9) rfl dX9_layChoices_118 ?_
    refine lv_iconst (v := 1) hx hb dX9_layChoices_121 (by decide) ?_
    obtain ⟨h122, hf⟩ := pg_some hf
    refine va_iald hx hb hK.1 hP 4 0 rfl rfl h122 dX9_layChoices_122 ?_
    refine lv_iconst (v := 2) hx hb dX9_layChoices_123 (by decide) ?_
    refine lv_icmp_ne (tgt := 271) hx hb dX9_layChoices_124 (by decide) (fun c124 => ?_) (fun c124 => ?_)
    · have hf := pif_f c124 hf
      exact hB271 c_chooser c_later c_outs H locs ls hf hP hD hS (lv_sub hl [] rfl)
    · have hf := pif_t c124 hf
      refine lv_iconst (v := 0) hx hb dX9_layChoices_127 (by decide) ?_
      refine lv_istore (lv' := [(4, .int 0), (0, .ref (a9 0)), (1, .int x1), (3, .int x3)]) hx hb dX9_layChoices_128 hl (by decide) rfl (fun ls hl => ?_)
      exact hB130 N x3 0 c_chooser c_later c_outs H locs ls hf hP hD hS (lv_sub hl [1, 2, 3, 0] rfl)
  have hB74 : ∀ (n : Nat), ∀ (x3 : Int32) (x4 : Int32) (c_chooser : Nat → Int32) (c_later : Nat → Int32) (c_outs : Nat → Int32) (H : Heap) (locs : List Loc) (ls : Array Slot), fX9_layChoices_74 N c_firsts c_goes c_holds c_many c_placeOf c_seconds c_sideAt c_won x1 x2 n x3 x4 c_chooser c_later c_outs = some q → va_P D vwCl [(a9 0, .inr (9, fl9 a9 i9 g9)), ((a9 17), .inl (cyI, 6, .inl c_chooser)), ((a9 9), .inl (cyI, 60, .inl c_firsts)), ((a9 11), .inl (cyI, 60, .inl c_goes)), ((a9 5), .inl (cyI, 32, .inl c_holds)), ((a9 19), .inl (cyI, 6, .inl c_later)), ((a9 12), .inl (cyI, 2, .inl c_many)), ((a9 18), .inl (cyI, 6, .inl c_outs)), ((a9 16), .inl (cyI, 6, .inl c_placeOf)), ((a9 10), .inl (cyI, 60, .inl c_seconds)), ((a9 15), .inl (cyI, 6, .inl c_sideAt)), ((a9 14), .inl (cyI, 6, .inl c_won))] H → va_D A [(a9 0, .inr (9, fl9 a9 i9 g9)), ((a9 17), .inl (cyI, 6, .inl c_chooser)), ((a9 9), .inl (cyI, 60, .inl c_firsts)), ((a9 11), .inl (cyI, 60, .inl c_goes)), ((a9 5), .inl (cyI, 32, .inl c_holds)), ((a9 19), .inl (cyI, 6, .inl c_later)), ((a9 12), .inl (cyI, 2, .inl c_many)), ((a9 18), .inl (cyI, 6, .inl c_outs)), ((a9 16), .inl (cyI, 6, .inl c_placeOf)), ((a9 10), .inl (cyI, 60, .inl c_seconds)), ((a9 15), .inl (cyI, 6, .inl c_sideAt)), ((a9 14), .inl (cyI, 6, .inl c_won))] → va_S A s.heap H locs → lv_has ls 7 [(0, .ref (a9 0)), (1, .int x1), (2, .int x2), (3, .int x3), (4, .int x4)] → W p l e rmX9_layChoices s m av below meth c H locs 0 0 Q (F0 m 74 ls []) := by
    intro n
    induction n with
    | zero => intro x3 x4 c_chooser c_later c_outs H locs ls hf; exact absurd hf (by simp [fX9_layChoices_74])
    | succ n hk74 =>
      intro x3 x4 c_chooser c_later c_outs H locs ls hf hP hD hS hl
      rw [fX9_layChoices_74] at hf
      refine lv_iload hx hb dX9_layChoices_74 (lv_at hl 4 rfl) ?_
      refine lv_if_le (tgt := 101) hx hb dX9_layChoices_76 (by decide) (fun c76 => ?_) (fun c76 => ?_)
      · have hf := pif_t c76 hf
        refine lv_aload_n hx hb dX9_layChoices_101 rfl (lv_at hl 0 rfl) ?_
        refine va_get (D := D) (ci := 9) (v := .ref (a9 17)) (C := RX9) (T := TX9) (N := 52) hx hb hL inlX9 hown hK.1 hP 0 rfl rfl 29 (by decide) w0 (fun _ h9 => h9) rfl dX9_layChoices_102 ?_
        refine lv_iconst (v := 0) hx hb dX9_layChoices_105 (by decide) ?_
        refine lv_aload_n hx hb dX9_layChoices_106 rfl (lv_at hl 0 rfl) ?_
        refine va_get (D := D) (ci := 9) (v := .ref (a9 15)) (C := RX9) (T := TX9) (N := 52) hx hb hL inlX9 hown hK.1 hP 0 rfl rfl 27 (by decide) w5 (fun _ h9 => h9) rfl dX9_layChoices_107 ?_
        refine lv_iload_n hx hb dX9_layChoices_110 rfl (lv_at hl 3 rfl) ?_
        refine lv_iconst (v := 1) hx hb dX9_layChoices_111 (by decide) ?_
        refine lv_isub hx hb dX9_layChoices_112 ?_
        refine lv_iload_n hx hb dX9_layChoices_113 rfl (lv_at hl 2 rfl) ?_
        refine lv_isub hx hb dX9_layChoices_114 ?_
        obtain ⟨h115, hf⟩ := pg_some hf
        refine va_iald hx hb hK.1 hP 10 0 rfl rfl h115 dX9_layChoices_115 ?_
        obtain ⟨h116, hf⟩ := pg_some hf
        refine va_iast hx hb hK.1 hP hD hS 1 0 rfl rfl h116 dX9_layChoices_116 (fun H locs hP hD hS => ?_)
        have hP : va_P D vwCl [(a9 0, .inr (9, fl9 a9 i9 g9)), ((a9 17), .inl (cyI, 6, .inl (upd c_chooser (0 : Int32).toNatClampNeg (c_sideAt ((x3 - 1) - x2).toNatClampNeg)))), ((a9 9), .inl (cyI, 60, .inl c_firsts)), ((a9 11), .inl (cyI, 60, .inl c_goes)), ((a9 5), .inl (cyI, 32, .inl c_holds)), ((a9 19), .inl (cyI, 6, .inl c_later)), ((a9 12), .inl (cyI, 2, .inl c_many)), ((a9 18), .inl (cyI, 6, .inl c_outs)), ((a9 16), .inl (cyI, 6, .inl c_placeOf)), ((a9 10), .inl (cyI, 60, .inl c_seconds)), ((a9 15), .inl (cyI, 6, .inl c_sideAt)), ((a9 14), .inl (cyI, 6, .inl c_won))] H := hP
        have hD : va_D A [(a9 0, .inr (9, fl9 a9 i9 g9)), ((a9 17), .inl (cyI, 6, .inl (upd c_chooser (0 : Int32).toNatClampNeg (c_sideAt ((x3 - 1) - x2).toNatClampNeg)))), ((a9 9), .inl (cyI, 60, .inl c_firsts)), ((a9 11), .inl (cyI, 60, .inl c_goes)), ((a9 5), .inl (cyI, 32, .inl c_holds)), ((a9 19), .inl (cyI, 6, .inl c_later)), ((a9 12), .inl (cyI, 2, .inl c_many)), ((a9 18), .inl (cyI, 6, .inl c_outs)), ((a9 16), .inl (cyI, 6, .inl c_placeOf)), ((a9 10), .inl (cyI, 60, .inl c_seconds)), ((a9 15), .inl (cyI, 6, .inl c_sideAt)), ((a9 14), .inl (cyI, 6, .inl c_won))] := hD
        exact hB117 x3 (upd c_chooser (0 : Int32).toNatClampNeg (c_sideAt ((x3 - 1) - x2).toNatClampNeg)) c_later c_outs H locs ls hf hP hD hS (lv_sub hl [0, 1, 3] rfl)
      · have hf := pif_f c76 hf
        refine lv_aload_n hx hb dX9_layChoices_79 rfl (lv_at hl 0 rfl) ?_
        refine va_get (D := D) (ci := 9) (v := .ref (a9 17)) (C := RX9) (T := TX9) (N := 52) hx hb hL inlX9 hown hK.1 hP 0 rfl rfl 29 (by decide) w0 (fun _ h9 => h9) rfl dX9_layChoices_80 ?_
        refine lv_iload hx hb dX9_layChoices_83 (lv_at hl 4 rfl) ?_
        refine lv_aload_n hx hb dX9_layChoices_85 rfl (lv_at hl 0 rfl) ?_
        refine va_get (D := D) (ci := 9) (v := .ref (a9 15)) (C := RX9) (T := TX9) (N := 52) hx hb hL inlX9 hown hK.1 hP 0 rfl rfl 27 (by decide) w5 (fun _ h9 => h9) rfl dX9_layChoices_86 ?_
        refine lv_iload_n hx hb dX9_layChoices_89 rfl (lv_at hl 3 rfl) ?_
        refine lv_iload hx hb dX9_layChoices_90 (lv_at hl 4 rfl) ?_
        refine lv_isub hx hb dX9_layChoices_92 ?_
        obtain ⟨h93, hf⟩ := pg_some hf
        refine va_iald hx hb hK.1 hP 10 0 rfl rfl h93 dX9_layChoices_93 ?_
        obtain ⟨h94, hf⟩ := pg_some hf
        refine va_iast hx hb hK.1 hP hD hS 1 0 rfl rfl h94 dX9_layChoices_94 (fun H locs hP hD hS => ?_)
        have hP : va_P D vwCl [(a9 0, .inr (9, fl9 a9 i9 g9)), ((a9 17), .inl (cyI, 6, .inl (upd c_chooser x4.toNatClampNeg (c_sideAt (x3 - x4).toNatClampNeg)))), ((a9 9), .inl (cyI, 60, .inl c_firsts)), ((a9 11), .inl (cyI, 60, .inl c_goes)), ((a9 5), .inl (cyI, 32, .inl c_holds)), ((a9 19), .inl (cyI, 6, .inl c_later)), ((a9 12), .inl (cyI, 2, .inl c_many)), ((a9 18), .inl (cyI, 6, .inl c_outs)), ((a9 16), .inl (cyI, 6, .inl c_placeOf)), ((a9 10), .inl (cyI, 60, .inl c_seconds)), ((a9 15), .inl (cyI, 6, .inl c_sideAt)), ((a9 14), .inl (cyI, 6, .inl c_won))] H := hP
        have hD : va_D A [(a9 0, .inr (9, fl9 a9 i9 g9)), ((a9 17), .inl (cyI, 6, .inl (upd c_chooser x4.toNatClampNeg (c_sideAt (x3 - x4).toNatClampNeg)))), ((a9 9), .inl (cyI, 60, .inl c_firsts)), ((a9 11), .inl (cyI, 60, .inl c_goes)), ((a9 5), .inl (cyI, 32, .inl c_holds)), ((a9 19), .inl (cyI, 6, .inl c_later)), ((a9 12), .inl (cyI, 2, .inl c_many)), ((a9 18), .inl (cyI, 6, .inl c_outs)), ((a9 16), .inl (cyI, 6, .inl c_placeOf)), ((a9 10), .inl (cyI, 60, .inl c_seconds)), ((a9 15), .inl (cyI, 6, .inl c_sideAt)), ((a9 14), .inl (cyI, 6, .inl c_won))] := hD
        refine lv_iinc (v := x4 + (-1)) (lv' := [(4, .int (x4 + (-1))), (0, .ref (a9 0)), (1, .int x1), (2, .int x2), (3, .int x3)]) hx hb dX9_layChoices_95 hl (k := 4) rfl rfl (by decide) rfl (fun ls hl => ?_)
        refine lv_goto (tgt := 74) hx hb dX9_layChoices_98 (by decide) ?_
        exact hk74 x3 (x4 + (-1)) (upd c_chooser x4.toNatClampNeg (c_sideAt (x3 - x4).toNatClampNeg)) c_later c_outs H locs ls hf hP hD hS (lv_sub hl [1, 2, 3, 4, 0] rfl)
  have hB8 : ∀ (n : Nat), ∀ (x3 : Int32) (x4 : Int32) (c_chooser : Nat → Int32) (c_later : Nat → Int32) (c_outs : Nat → Int32) (H : Heap) (locs : List Loc) (ls : Array Slot), fX9_layChoices_8 N c_firsts c_goes c_holds c_many c_placeOf c_seconds c_sideAt c_won x1 x2 n x3 x4 c_chooser c_later c_outs = some q → va_P D vwCl [(a9 0, .inr (9, fl9 a9 i9 g9)), ((a9 17), .inl (cyI, 6, .inl c_chooser)), ((a9 9), .inl (cyI, 60, .inl c_firsts)), ((a9 11), .inl (cyI, 60, .inl c_goes)), ((a9 5), .inl (cyI, 32, .inl c_holds)), ((a9 19), .inl (cyI, 6, .inl c_later)), ((a9 12), .inl (cyI, 2, .inl c_many)), ((a9 18), .inl (cyI, 6, .inl c_outs)), ((a9 16), .inl (cyI, 6, .inl c_placeOf)), ((a9 10), .inl (cyI, 60, .inl c_seconds)), ((a9 15), .inl (cyI, 6, .inl c_sideAt)), ((a9 14), .inl (cyI, 6, .inl c_won))] H → va_D A [(a9 0, .inr (9, fl9 a9 i9 g9)), ((a9 17), .inl (cyI, 6, .inl c_chooser)), ((a9 9), .inl (cyI, 60, .inl c_firsts)), ((a9 11), .inl (cyI, 60, .inl c_goes)), ((a9 5), .inl (cyI, 32, .inl c_holds)), ((a9 19), .inl (cyI, 6, .inl c_later)), ((a9 12), .inl (cyI, 2, .inl c_many)), ((a9 18), .inl (cyI, 6, .inl c_outs)), ((a9 16), .inl (cyI, 6, .inl c_placeOf)), ((a9 10), .inl (cyI, 60, .inl c_seconds)), ((a9 15), .inl (cyI, 6, .inl c_sideAt)), ((a9 14), .inl (cyI, 6, .inl c_won))] → va_S A s.heap H locs → lv_has ls 7 [(0, .ref (a9 0)), (1, .int x1), (2, .int x2), (3, .int x3), (4, .int x4)] → W p l e rmX9_layChoices s m av below meth c H locs 0 0 Q (F0 m 8 ls []) := by
    intro n
    induction n with
    | zero => intro x3 x4 c_chooser c_later c_outs H locs ls hf; exact absurd hf (by simp [fX9_layChoices_8])
    | succ n hk8 =>
      intro x3 x4 c_chooser c_later c_outs H locs ls hf hP hD hS hl
      rw [fX9_layChoices_8] at hf
      refine lv_iload hx hb dX9_layChoices_8 (lv_at hl 4 rfl) ?_
      refine lv_iload_n hx hb dX9_layChoices_10 rfl (lv_at hl 3 rfl) ?_
      refine lv_icmp_ge (tgt := 61) hx hb dX9_layChoices_11 (by decide) (fun c11 => ?_) (fun c11 => ?_)
      · have hf := pif_t c11 hf
        refine lv_aload_n hx hb dX9_layChoices_61 rfl (lv_at hl 0 rfl) ?_
        refine va_get (D := D) (ci := 9) (v := .ref (a9 5)) (C := RX9) (T := TX9) (N := 52) hx hb hL inlX9 hown hK.1 hP 0 rfl rfl 12 (by decide) w4 (fun _ h9 => h9) rfl dX9_layChoices_62 ?_
        refine lv_iconst (v := 1) hx hb dX9_layChoices_65 (by decide) ?_
        obtain ⟨h66, hf⟩ := pg_some hf
        refine va_iald hx hb hK.1 hP 4 0 rfl rfl h66 dX9_layChoices_66 ?_
        refine lv_iconst (v := 1) hx hb dX9_layChoices_67 (by decide) ?_
        refine lv_icmp_ne (tgt := 117) hx hb dX9_layChoices_68 (by decide) (fun c68 => ?_) (fun c68 => ?_)
        · have hf := pif_f c68 hf
          exact hB117 x3 c_chooser c_later c_outs H locs ls hf hP hD hS (lv_sub hl [0, 1, 3] rfl)
        · have hf := pif_t c68 hf
          refine lv_iload_n hx hb dX9_layChoices_71 rfl (lv_at hl 2 rfl) ?_
          refine lv_istore (lv' := [(4, .int x2), (0, .ref (a9 0)), (1, .int x1), (2, .int x2), (3, .int x3)]) hx hb dX9_layChoices_72 hl (by decide) rfl (fun ls hl => ?_)
          exact hB74 N x3 x2 c_chooser c_later c_outs H locs ls hf hP hD hS (lv_sub hl [1, 2, 3, 4, 0] rfl)
      · have hf := pif_f c11 hf
        refine lv_aload_n hx hb dX9_layChoices_14 rfl (lv_at hl 0 rfl) ?_
        refine va_get (D := D) (ci := 9) (v := .ref (a9 17)) (C := RX9) (T := TX9) (N := 52) hx hb hL inlX9 hown hK.1 hP 0 rfl rfl 29 (by decide) w0 (fun _ h9 => h9) rfl dX9_layChoices_15 ?_
        refine lv_iload hx hb dX9_layChoices_18 (lv_at hl 4 rfl) ?_
        refine lv_aload_n hx hb dX9_layChoices_20 rfl (lv_at hl 0 rfl) ?_
        refine va_get (D := D) (ci := 9) (v := .ref (a9 5)) (C := RX9) (T := TX9) (N := 52) hx hb hL inlX9 hown hK.1 hP 0 rfl rfl 12 (by decide) w4 (fun _ h9 => h9) rfl dX9_layChoices_21 ?_
        refine lv_iconst (v := 1) hx hb dX9_layChoices_24 (by decide) ?_
        obtain ⟨h25, hf⟩ := pg_some hf
        refine va_iald hx hb hK.1 hP 4 0 rfl rfl h25 dX9_layChoices_25 ?_
        refine lv_iconst (v := 3) hx hb dX9_layChoices_26 (by decide) ?_
        refine lv_icmp_ne (tgt := 43) hx hb dX9_layChoices_27 (by decide) (fun c27 => ?_) (fun c27 => ?_)
        · have hf := pif_f c27 hf
          refine lv_aload_n hx hb dX9_layChoices_43 rfl (lv_at hl 0 rfl) ?_
          refine va_get (D := D) (ci := 9) (v := .ref (a9 15)) (C := RX9) (T := TX9) (N := 52) hx hb hL inlX9 hown hK.1 hP 0 rfl rfl 27 (by decide) w5 (fun _ h9 => h9) rfl dX9_layChoices_44 ?_
          refine lv_iload_n hx hb dX9_layChoices_47 rfl (lv_at hl 3 rfl) ?_
          refine lv_iconst (v := 1) hx hb dX9_layChoices_48 (by decide) ?_
          refine lv_isub hx hb dX9_layChoices_49 ?_
          refine lv_iload hx hb dX9_layChoices_50 (lv_at hl 4 rfl) ?_
          refine lv_isub hx hb dX9_layChoices_52 ?_
          obtain ⟨h53, hf⟩ := pg_some hf
          refine va_iald hx hb hK.1 hP 10 0 rfl rfl h53 dX9_layChoices_53 ?_
          exact hB54 (fX9_layChoices_8 N c_firsts c_goes c_holds c_many c_placeOf c_seconds c_sideAt c_won x1 x2 n) hk8 x3 x4 x4 (c_sideAt ((x3 - 1) - x4).toNatClampNeg) c_chooser c_later c_outs H locs ls hf hP hD hS (lv_sub hl [0, 1, 2, 3, 4] rfl)
        · have hf := pif_t c27 hf
          refine lv_aload_n hx hb dX9_layChoices_30 rfl (lv_at hl 0 rfl) ?_
          refine va_get (D := D) (ci := 9) (v := .ref (a9 5)) (C := RX9) (T := TX9) (N := 52) hx hb hL inlX9 hown hK.1 hP 0 rfl rfl 12 (by decide) w4 (fun _ h9 => h9) rfl dX9_layChoices_31 ?_
          refine lv_bipush (v := 26) hx hb dX9_layChoices_34 (by decide) ?_
          refine lv_iload hx hb dX9_layChoices_36 (lv_at hl 4 rfl) ?_
          refine lv_iadd hx hb dX9_layChoices_38 ?_
          obtain ⟨h39, hf⟩ := pg_some hf
          refine va_iald hx hb hK.1 hP 4 0 rfl rfl h39 dX9_layChoices_39 ?_
          refine lv_goto (tgt := 54) hx hb dX9_layChoices_40 (by decide) ?_
          exact hB54 (fX9_layChoices_8 N c_firsts c_goes c_holds c_many c_placeOf c_seconds c_sideAt c_won x1 x2 n) hk8 x3 x4 x4 (c_holds (26 + x4).toNatClampNeg) c_chooser c_later c_outs H locs ls hf hP hD hS (lv_sub hl [0, 1, 2, 3, 4] rfl)
  unfold fX9_layChoices at hf
  obtain ⟨H, hH⟩ : ∃ H : Heap, H = s.heap := ⟨_, rfl⟩
  obtain ⟨locs, hlo⟩ : ∃ locs : List Loc, locs = [] := ⟨_, rfl⟩
  have hP : va_P D vwCl [(a9 0, .inr (9, fl9 a9 i9 g9)), ((a9 17), .inl (cyI, 6, .inl c_chooser)), ((a9 9), .inl (cyI, 60, .inl c_firsts)), ((a9 11), .inl (cyI, 60, .inl c_goes)), ((a9 5), .inl (cyI, 32, .inl c_holds)), ((a9 19), .inl (cyI, 6, .inl c_later)), ((a9 12), .inl (cyI, 2, .inl c_many)), ((a9 18), .inl (cyI, 6, .inl c_outs)), ((a9 16), .inl (cyI, 6, .inl c_placeOf)), ((a9 10), .inl (cyI, 60, .inl c_seconds)), ((a9 15), .inl (cyI, 6, .inl c_sideAt)), ((a9 14), .inl (cyI, 6, .inl c_won))] H := by rw [hH]; exact hP
  have hS : va_S A s.heap H locs := by rw [hH, hlo]; exact hS
  suffices hw : W p l e rmX9_layChoices s m av below meth c H locs 0 0 Q (F0 m 0 ls []) by rw [hH, hlo] at hw; exact hw
  refine lv_aload_n hx hb dX9_layChoices_0 rfl (lv_at hl 0 rfl) ?_
  obtain ⟨q1, e1, hf⟩ := pb_some hf
  refine cc_i (wc := [(a9 0, .inr (9, fl9 a9 i9 g9)), ((a9 5), .inl (cyI, 32, .inl c_holds))]) (wr := [((a9 17), .inl (cyI, 6, .inl c_chooser)), ((a9 9), .inl (cyI, 60, .inl c_firsts)), ((a9 11), .inl (cyI, 60, .inl c_goes)), ((a9 19), .inl (cyI, 6, .inl c_later)), ((a9 12), .inl (cyI, 2, .inl c_many)), ((a9 18), .inl (cyI, 6, .inl c_outs)), ((a9 16), .inl (cyI, 6, .inl c_placeOf)), ((a9 10), .inl (cyI, 60, .inl c_seconds)), ((a9 15), .inl (cyI, 6, .inl c_sideAt)), ((a9 14), .inl (cyI, 6, .inl c_won))]) (w1 := [(a9 0, .inr (9, fl9 a9 i9 g9)), ((a9 5), .inl (cyI, 32, .inl c_holds))]) (wn := [(a9 0, .inr (9, fl9 a9 i9 g9)), ((a9 17), .inl (cyI, 6, .inl c_chooser)), ((a9 9), .inl (cyI, 60, .inl c_firsts)), ((a9 11), .inl (cyI, 60, .inl c_goes)), ((a9 5), .inl (cyI, 32, .inl c_holds)), ((a9 19), .inl (cyI, 6, .inl c_later)), ((a9 12), .inl (cyI, 2, .inl c_many)), ((a9 18), .inl (cyI, 6, .inl c_outs)), ((a9 16), .inl (cyI, 6, .inl c_placeOf)), ((a9 10), .inl (cyI, 60, .inl c_seconds)), ((a9 15), .inl (cyI, 6, .inl c_sideAt)), ((a9 14), .inl (cyI, 6, .inl c_won))]) hP hD hS hA [0, 4] [1, 2, 3, 5, 6, 7, 8, 9, 10, 11] [10, 0, 1, 2, 11, 3, 4, 5, 6, 7, 8, 9] rfl rfl rfl (by decide) rfl rfl (va_runV (C := RX9) (As := []) (rest := []) ⟨hx, hb, hml, hown, hL⟩ (mX9_sides l D cyI cyJ cyB cyS N H.size a9 i9 g9 c_holds  q1 e1) (cwV 0 hL (gV (hR19 15 rfl) (hR19 16 rfl) (hR19 17 rfl) (hR1 5 rfl) (hR19 18 rfl)) rfl rfl rfl (by decide +kernel) ⟨Nat.le_of_ble_eq_true rfl, Nat.le_of_ble_eq_true rfl⟩) (PP_preV (ci := 9) (q0 := 0) hP hD hK [0, 4] rfl rfl rfl rfl) rfl rfl hl.1 rfl (lv_room (Nat.le_of_ble_eq_true rfl)) dX9_layChoices_1 ⟨Nat.le_of_ble_eq_true rfl, Nat.le_of_ble_eq_true rfl⟩) (fun H locs hP hD hS => ?_)
  refine lv_istore_n (lv' := [(3, .int q1), (0, .ref (a9 0)), (1, .int x1), (2, .int x2)]) hx hb dX9_layChoices_4 rfl hl (by decide) rfl (fun ls hl => ?_)
  refine lv_iconst (v := 0) hx hb dX9_layChoices_5 (by decide) ?_
  refine lv_istore (lv' := [(4, .int 0), (3, .int q1), (0, .ref (a9 0)), (1, .int x1), (2, .int x2)]) hx hb dX9_layChoices_6 hl (by decide) rfl (fun ls hl => ?_)
  exact hB8 N q1 0 c_chooser c_later c_outs H locs ls hf hP hD hS (lv_sub hl [2, 3, 4, 1, 0] rfl)
abbrev rmX9_balls : Room := { frames := 1, cells := 0, slots := 0, locals := 20 }
set_option maxHeartbeats 40000000 in
set_option maxRecDepth 100000 in
theorem mX9_balls (l : Launch) (D : va_G) (cyI cyJ cyB cyS : ClassId) (N : Nat) (sz : Nat) (a9 : Nat → Nat) (i9 : Nat → Int32) (g9 : Nat → Int64) (c_holds : Nat → Int32) (q : Int32) (hf : fX9_balls N c_holds = some q) : Met l yX9_balls (wS yX9_balls cX9_balls 3 (some .int)) rmX9_balls (va_Pc [.ref (a9 0)] (PP D cyI cyJ cyB cyS [(a9 0, .inr (9, fl9 a9 i9 g9)), ((a9 5), .inl (cyI, 32, .inl c_holds))] sz)) (QI q D [(a9 0, .inr (9, fl9 a9 i9 g9)), ((a9 5), .inl (cyI, 32, .inl c_holds))] (va_A [(a9 0, .inr (9, fl9 a9 i9 g9)), ((a9 5), .inl (cyI, 32, .inl c_holds))] sz)) 0 0 (va_A [(a9 0, .inr (9, fl9 a9 i9 g9)), ((a9 5), .inl (cyI, 32, .inl c_holds))] sz) := by
  refine Met.ofW (cc := cX9_balls) (maxL := 3) (ret := (some .int)) (by decide) rfl ?_
  intro p e s m args below meth c s₁ B hml hv
  obtain ⟨rfl, hsz, hP, hK, hD0⟩ := hv
  have hx := B.exec
  have hb := B.bytes
  have hr := B.returns
  have hts := atoms_spec (ws := (wS yX9_balls cX9_balls 3 (some .int))) B.pre
  have hown : s.vm.findClass RX9 = some m.cls := findClass_of_methodNamed B.named
  have hlocks := B.notSynchronized
  subst hsz
  have hD := hD0.self (sz := s.heap.size)
  refine w_nameQ (fun Q hQ => ?_)
  have hl := lv_entry ([.ref (a9 0)] : List Value) (n := 3) (Nat.le_of_ble_eq_true rfl)
  rw [lg_entry_eq]
  generalize (lg_sl ([.ref (a9 0)] : List Value) ++ List.replicate (3 - (lg_sl ([.ref (a9 0)] : List Value)).length) Slot.unset).toArray = ls at hl ⊢
  have hl : lv_has ls 3 [(0, .ref (a9 0))] := hl
  generalize hAe : va_A [(a9 0, .inr (9, fl9 a9 i9 g9)), ((a9 5), .inl (cyI, 32, .inl c_holds))] s.heap.size = A at hD hQ
  have hA : ∀ q : Nat, s.heap.size ≤ q → A q := fun q h => by rw [← hAe]; exact Or.inr h
  have hS : va_S A s.heap s.heap [] := va_S.rf
  generalize ([.ref (a9 0)] : List Value).toArray = av at hts hQ ⊢
  have hL : ∀ w ∈ wsL_law, w.before av s = true := fun w h => hts w (List.mem_cons_of_mem _ h)
  have w0 := hL (.fieldLink RX9 22 "LosingLeagueModel" "holds" "[I") (hR6 8 rfl)
  have hB4 : ∀ (n : Nat), ∀ (x1 : Int32) (x2 : Int32) (H : Heap) (locs : List Loc) (ls : Array Slot), fX9_balls_4 N c_holds n x1 x2 = some q → va_P D vwCl [(a9 0, .inr (9, fl9 a9 i9 g9)), ((a9 5), .inl (cyI, 32, .inl c_holds))] H → va_D A [(a9 0, .inr (9, fl9 a9 i9 g9)), ((a9 5), .inl (cyI, 32, .inl c_holds))] → va_S A s.heap H locs → lv_has ls 3 [(0, .ref (a9 0)), (1, .int x1), (2, .int x2)] → W p l e rmX9_balls s m av below meth c H locs 0 0 Q (F0 m 4 ls []) := by
    intro n
    induction n with
    | zero => intro x1 x2 H locs ls hf; exact absurd hf (by simp [fX9_balls_4])
    | succ n hk4 =>
      intro x1 x2 H locs ls hf hP hD hS hl
      rw [fX9_balls_4] at hf
      refine lv_iload_n hx hb dX9_balls_4 rfl (lv_at hl 2 rfl) ?_
      refine lv_aload_n hx hb dX9_balls_5 rfl (lv_at hl 0 rfl) ?_
      obtain ⟨q6, e6, hf⟩ := pb_some hf
      refine cc_i (wc := [(a9 0, .inr (9, fl9 a9 i9 g9)), ((a9 5), .inl (cyI, 32, .inl c_holds))]) (wr := []) (w1 := [(a9 0, .inr (9, fl9 a9 i9 g9)), ((a9 5), .inl (cyI, 32, .inl c_holds))]) (wn := [(a9 0, .inr (9, fl9 a9 i9 g9)), ((a9 5), .inl (cyI, 32, .inl c_holds))]) hP hD hS hA [0, 1] [] [0, 1] rfl rfl rfl (by decide) rfl rfl (va_runV (C := RX9) (As := []) (rest := [.int x2]) ⟨hx, hb, hml, hown, hL⟩ (mX9_sides l D cyI cyJ cyB cyS N H.size a9 i9 g9 c_holds  q6 e6) (cwV 0 hL (gV (hR19 15 rfl) (hR19 16 rfl) (hR19 17 rfl) (hR1 5 rfl) (hR19 18 rfl)) rfl rfl rfl (by decide +kernel) ⟨Nat.le_of_ble_eq_true rfl, Nat.le_of_ble_eq_true rfl⟩) (PP_preV (ci := 9) (q0 := 0) hP hD hK [0, 1] rfl rfl rfl rfl) rfl rfl hl.1 rfl (lv_room (Nat.le_of_ble_eq_true rfl)) dX9_balls_6 ⟨Nat.le_of_ble_eq_true rfl, Nat.le_of_ble_eq_true rfl⟩) (fun H locs hP hD hS => ?_)
      refine lv_icmp_ge (tgt := 30) hx hb dX9_balls_9 (by decide) (fun c9 => ?_) (fun c9 => ?_)
      · have hf := pif_t c9 hf
        refine lv_iload_n hx hb dX9_balls_30 rfl (lv_at hl 1 rfl) ?_
        exact ret_i (q := q) (g := fun q => q) (wp := fun q => [(a9 0, .inr (9, fl9 a9 i9 g9)), ((a9 5), .inl (cyI, 32, .inl c_holds))]) hQ hf hx hb hr hlocks hP hD hS dX9_balls_31 rfl
      · have hf := pif_f c9 hf
        refine lv_iload_n hx hb dX9_balls_12 rfl (lv_at hl 1 rfl) ?_
        refine lv_aload_n hx hb dX9_balls_13 rfl (lv_at hl 0 rfl) ?_
        refine va_get (D := D) (ci := 9) (v := .ref (a9 5)) (C := RX9) (T := TX9) (N := 52) hx hb hL inlX9 hown hK.1 hP 0 rfl rfl 12 (by decide) w0 (fun _ h9 => h9) rfl dX9_balls_14 ?_
        refine lv_bipush (v := 20) hx hb dX9_balls_17 (by decide) ?_
        refine lv_iload_n hx hb dX9_balls_19 rfl (lv_at hl 2 rfl) ?_
        refine lv_iadd hx hb dX9_balls_20 ?_
        obtain ⟨h21, hf⟩ := pg_some hf
        refine va_iald hx hb hK.1 hP 1 0 rfl rfl h21 dX9_balls_21 ?_
        refine lv_iadd hx hb dX9_balls_22 ?_
        refine lv_istore_n (lv' := [(1, .int (x1 + (c_holds (20 + x2).toNatClampNeg))), (0, .ref (a9 0)), (2, .int x2)]) hx hb dX9_balls_23 rfl hl (by decide) rfl (fun ls hl => ?_)
        refine lv_iinc (v := x2 + 1) (lv' := [(2, .int (x2 + 1)), (1, .int (x1 + (c_holds (20 + x2).toNatClampNeg))), (0, .ref (a9 0))]) hx hb dX9_balls_24 hl (k := 2) rfl rfl (by decide) rfl (fun ls hl => ?_)
        refine lv_goto (tgt := 4) hx hb dX9_balls_27 (by decide) ?_
        exact hk4 (x1 + (c_holds (20 + x2).toNatClampNeg)) (x2 + 1) H locs ls hf hP hD hS (lv_sub hl [2, 1, 0] rfl)
  unfold fX9_balls at hf
  obtain ⟨H, hH⟩ : ∃ H : Heap, H = s.heap := ⟨_, rfl⟩
  obtain ⟨locs, hlo⟩ : ∃ locs : List Loc, locs = [] := ⟨_, rfl⟩
  have hP : va_P D vwCl [(a9 0, .inr (9, fl9 a9 i9 g9)), ((a9 5), .inl (cyI, 32, .inl c_holds))] H := by rw [hH]; exact hP
  have hS : va_S A s.heap H locs := by rw [hH, hlo]; exact hS
  suffices hw : W p l e rmX9_balls s m av below meth c H locs 0 0 Q (F0 m 0 ls []) by rw [hH, hlo] at hw; exact hw
  refine lv_iconst (v := 0) hx hb dX9_balls_0 (by decide) ?_
  refine lv_istore_n (lv' := [(1, .int 0), (0, .ref (a9 0))]) hx hb dX9_balls_1 rfl hl (by decide) rfl (fun ls hl => ?_)
  refine lv_iconst (v := 0) hx hb dX9_balls_2 (by decide) ?_
  refine lv_istore_n (lv' := [(2, .int 0), (1, .int 0), (0, .ref (a9 0))]) hx hb dX9_balls_3 rfl hl (by decide) rfl (fun ls hl => ?_)
  exact hB4 N 0 0 H locs ls hf hP hD hS (lv_sub hl [2, 1, 0] rfl)
abbrev rmX9_unit : Room := { frames := 2, cells := 0, slots := 0, locals := 42 }
set_option maxHeartbeats 40000000 in
set_option maxRecDepth 100000 in
theorem mX9_unit (l : Launch) (D : va_G) (cyI cyJ cyB cyS : ClassId) (N : Nat) (sz : Nat) (a9 : Nat → Nat) (i9 : Nat → Int32) (g9 : Nat → Int64) (c_holds : Nat → Int32) (q : Int32) (hf : fX9_unit N c_holds = some q) : Met l yX9_unit (wS yX9_unit cX9_unit 1 (some .int)) rmX9_unit (va_Pc [.ref (a9 0)] (PP D cyI cyJ cyB cyS [(a9 0, .inr (9, fl9 a9 i9 g9)), ((a9 5), .inl (cyI, 32, .inl c_holds))] sz)) (QI q D [(a9 0, .inr (9, fl9 a9 i9 g9)), ((a9 5), .inl (cyI, 32, .inl c_holds))] (va_A [(a9 0, .inr (9, fl9 a9 i9 g9)), ((a9 5), .inl (cyI, 32, .inl c_holds))] sz)) 0 0 (va_A [(a9 0, .inr (9, fl9 a9 i9 g9)), ((a9 5), .inl (cyI, 32, .inl c_holds))] sz) := by
  refine Met.ofW (cc := cX9_unit) (maxL := 1) (ret := (some .int)) (by decide) rfl ?_
  intro p e s m args below meth c s₁ B hml hv
  obtain ⟨rfl, hsz, hP, hK, hD0⟩ := hv
  have hx := B.exec
  have hb := B.bytes
  have hr := B.returns
  have hts := atoms_spec (ws := (wS yX9_unit cX9_unit 1 (some .int))) B.pre
  have hown : s.vm.findClass RX9 = some m.cls := findClass_of_methodNamed B.named
  have hlocks := B.notSynchronized
  subst hsz
  have hD := hD0.self (sz := s.heap.size)
  refine w_nameQ (fun Q hQ => ?_)
  have hl := lv_entry ([.ref (a9 0)] : List Value) (n := 1) (Nat.le_of_ble_eq_true rfl)
  rw [lg_entry_eq]
  generalize (lg_sl ([.ref (a9 0)] : List Value) ++ List.replicate (1 - (lg_sl ([.ref (a9 0)] : List Value)).length) Slot.unset).toArray = ls at hl ⊢
  have hl : lv_has ls 1 [(0, .ref (a9 0))] := hl
  generalize hAe : va_A [(a9 0, .inr (9, fl9 a9 i9 g9)), ((a9 5), .inl (cyI, 32, .inl c_holds))] s.heap.size = A at hD hQ
  have hA : ∀ q : Nat, s.heap.size ≤ q → A q := fun q h => by rw [← hAe]; exact Or.inr h
  have hS : va_S A s.heap s.heap [] := va_S.rf
  generalize ([.ref (a9 0)] : List Value).toArray = av at hts hQ ⊢
  have hL : ∀ w ∈ wsL_law, w.before av s = true := fun w h => hts w (List.mem_cons_of_mem _ h)
  have w0 := hL (.fieldLink RX9 22 "LosingLeagueModel" "holds" "[I") (hR6 8 rfl)
  have hB35 : ∀ (s0 : Int32) (H : Heap) (locs : List Loc) (ls : Array Slot), fX9_unit_35 N c_holds s0 = some q → va_P D vwCl [(a9 0, .inr (9, fl9 a9 i9 g9)), ((a9 5), .inl (cyI, 32, .inl c_holds))] H → va_D A [(a9 0, .inr (9, fl9 a9 i9 g9)), ((a9 5), .inl (cyI, 32, .inl c_holds))] → va_S A s.heap H locs → lv_has ls 1 [] → W p l e rmX9_unit s m av below meth c H locs 0 0 Q (F0 m 35 ls [.int s0]) := by
    intro s0 H locs ls hf hP hD hS hl
    unfold fX9_unit_35 at hf
    exact ret_i (q := q) (g := fun q => q) (wp := fun q => [(a9 0, .inr (9, fl9 a9 i9 g9)), ((a9 5), .inl (cyI, 32, .inl c_holds))]) hQ hf hx hb hr hlocks hP hD hS dX9_unit_35 rfl
  unfold fX9_unit at hf
  obtain ⟨H, hH⟩ : ∃ H : Heap, H = s.heap := ⟨_, rfl⟩
  obtain ⟨locs, hlo⟩ : ∃ locs : List Loc, locs = [] := ⟨_, rfl⟩
  have hP : va_P D vwCl [(a9 0, .inr (9, fl9 a9 i9 g9)), ((a9 5), .inl (cyI, 32, .inl c_holds))] H := by rw [hH]; exact hP
  have hS : va_S A s.heap H locs := by rw [hH, hlo]; exact hS
  suffices hw : W p l e rmX9_unit s m av below meth c H locs 0 0 Q (F0 m 0 ls []) by rw [hH, hlo] at hw; exact hw
  refine lv_aload_n hx hb dX9_unit_0 rfl (lv_at hl 0 rfl) ?_
  refine va_get (D := D) (ci := 9) (v := .ref (a9 5)) (C := RX9) (T := TX9) (N := 52) hx hb hL inlX9 hown hK.1 hP 0 rfl rfl 12 (by decide) w0 (fun _ h9 => h9) rfl dX9_unit_1 ?_
  refine lv_iconst (v := 1) hx hb dX9_unit_4 (by decide) ?_
  obtain ⟨h5, hf⟩ := pg_some hf
  refine va_iald hx hb hK.1 hP 1 0 rfl rfl h5 dX9_unit_5 ?_
  refine lv_iconst (v := 1) hx hb dX9_unit_6 (by decide) ?_
  refine lv_icmp_ne (tgt := 17) hx hb dX9_unit_7 (by decide) (fun c7 => ?_) (fun c7 => ?_)
  · have hf := pif_f c7 hf
    refine lv_aload_n hx hb dX9_unit_17 rfl (lv_at hl 0 rfl) ?_
    refine va_get (D := D) (ci := 9) (v := .ref (a9 5)) (C := RX9) (T := TX9) (N := 52) hx hb hL inlX9 hown hK.1 hP 0 rfl rfl 12 (by decide) w0 (fun _ h9 => h9) rfl dX9_unit_18 ?_
    refine lv_iconst (v := 1) hx hb dX9_unit_21 (by decide) ?_
    obtain ⟨h22, hf⟩ := pg_some hf
    refine va_iald hx hb hK.1 hP 1 0 rfl rfl h22 dX9_unit_22 ?_
    refine lv_iconst (v := 4) hx hb dX9_unit_23 (by decide) ?_
    refine lv_icmp_ne (tgt := 34) hx hb dX9_unit_24 (by decide) (fun c24 => ?_) (fun c24 => ?_)
    · have hf := pif_f c24 hf
      refine lv_iconst (v := 1) hx hb dX9_unit_34 (by decide) ?_
      exact hB35 1 H locs ls hf hP hD hS (lv_sub hl [] rfl)
    · have hf := pif_t c24 hf
      refine lv_aload_n hx hb dX9_unit_27 rfl (lv_at hl 0 rfl) ?_
      obtain ⟨q28, e28, hf⟩ := pb_some hf
      refine cc_i (wc := [(a9 0, .inr (9, fl9 a9 i9 g9)), ((a9 5), .inl (cyI, 32, .inl c_holds))]) (wr := []) (w1 := [(a9 0, .inr (9, fl9 a9 i9 g9)), ((a9 5), .inl (cyI, 32, .inl c_holds))]) (wn := [(a9 0, .inr (9, fl9 a9 i9 g9)), ((a9 5), .inl (cyI, 32, .inl c_holds))]) hP hD hS hA [0, 1] [] [0, 1] rfl rfl rfl (by decide) rfl rfl (va_runV (C := RX9) (As := []) (rest := []) ⟨hx, hb, hml, hown, hL⟩ (mX9_sides l D cyI cyJ cyB cyS N H.size a9 i9 g9 c_holds  q28 e28) (cwV 0 hL (gV (hR19 15 rfl) (hR19 16 rfl) (hR19 17 rfl) (hR1 5 rfl) (hR19 18 rfl)) rfl rfl rfl (by decide +kernel) ⟨Nat.le_of_ble_eq_true rfl, Nat.le_of_ble_eq_true rfl⟩) (PP_preV (ci := 9) (q0 := 0) hP hD hK [0, 1] rfl rfl rfl rfl) rfl rfl hl.1 rfl (lv_room (Nat.le_of_ble_eq_true rfl)) dX9_unit_28 ⟨Nat.le_of_ble_eq_true rfl, Nat.le_of_ble_eq_true rfl⟩) (fun H locs hP hD hS => ?_)
      refine lv_goto (tgt := 35) hx hb dX9_unit_31 (by decide) ?_
      exact hB35 q28 H locs ls hf hP hD hS (lv_sub hl [] rfl)
  · have hf := pif_t c7 hf
    refine lv_aload_n hx hb dX9_unit_10 rfl (lv_at hl 0 rfl) ?_
    obtain ⟨q11, e11, hf⟩ := pb_some hf
    refine cc_i (wc := [(a9 0, .inr (9, fl9 a9 i9 g9)), ((a9 5), .inl (cyI, 32, .inl c_holds))]) (wr := []) (w1 := [(a9 0, .inr (9, fl9 a9 i9 g9)), ((a9 5), .inl (cyI, 32, .inl c_holds))]) (wn := [(a9 0, .inr (9, fl9 a9 i9 g9)), ((a9 5), .inl (cyI, 32, .inl c_holds))]) hP hD hS hA [0, 1] [] [0, 1] rfl rfl rfl (by decide) rfl rfl (va_runV (C := RX9) (As := []) (rest := []) ⟨hx, hb, hml, hown, hL⟩ (mX9_balls l D cyI cyJ cyB cyS N H.size a9 i9 g9 c_holds  q11 e11) (cwV 0 hL (gV (hR33 4 rfl) (hR33 5 rfl) (hR33 6 rfl) (hR1 5 rfl) (hR33 7 rfl)) rfl rfl rfl (by decide +kernel) ⟨Nat.le_of_ble_eq_true rfl, Nat.le_of_ble_eq_true rfl⟩) (PP_preV (ci := 9) (q0 := 0) hP hD hK [0, 1] rfl rfl rfl rfl) rfl rfl hl.1 rfl (lv_room (Nat.le_of_ble_eq_true rfl)) dX9_unit_11 ⟨Nat.le_of_ble_eq_true rfl, Nat.le_of_ble_eq_true rfl⟩) (fun H locs hP hD hS => ?_)
    refine lv_goto (tgt := 35) hx hb dX9_unit_14 (by decide) ?_
    exact hB35 q11 H locs ls hf hP hD hS (lv_sub hl [] rfl)
