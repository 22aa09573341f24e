def fX9_thumbUp_50 (N : Nat) (x0 : Int32) (x1 : Int32) (k5 : Int64 → Int32 → Option (Int64)) : Nat → Int64 → Int32 → Int64 → Int32 → Option (Int64)
  | 0, _, _, _, _ => none
  | n + 1, x2, x4, x5, x7 => pif (x0 ≤ x7) (k5 (x2 + x5) (x4 + 1)) ((fX9_thumbUp_50 N x0 x1 k5 n) x2 x4 (x5 * 5) (x7 + 1))
def fX9_thumbUp_17 (N : Nat) (x0 : Int32) (x1 : Int32) (k5 : Int64 → Int32 → Option (Int64)) : Nat → Int64 → Int32 → Int64 → Int32 → Option (Int64)
  | 0, _, _, _, _ => none
  | n + 1, x2, x4, x5, x7 => pif (x4 ≤ x7) (fX9_thumbUp_50 N x0 x1 k5 N x2 x4 x5 x4) (pg (¬ ((x7 + 1 : Int32).toInt64) = 0) ((fX9_thumbUp_17 N x0 x1 k5 n) x2 x4 ((x5 * ((x0 - x7 : Int32).toInt64)) / ((x7 + 1 : Int32).toInt64)) (x7 + 1)))
def fX9_thumbUp_5 (N : Nat) (x0 : Int32) (x1 : Int32) : Nat → Int64 → Int32 → Option (Int64)
  | 0, _, _ => none
  | n + 1, x2, x4 => pif (x0 < x4) (some x2) (fX9_thumbUp_17 N x0 x1 (fX9_thumbUp_5 N x0 x1 n) N x2 x4 1 0)
def fX9_thumbUp (N : Nat) (x0 : Int32) (x1 : Int32) : Option (Int64) := fX9_thumbUp_5 N x0 x1 N 0 x1
abbrev rmX9_thumbUp : Room := { frames := 0, cells := 0, slots := 0, locals := 0 }
set_option maxHeartbeats 40000000 in
set_option maxRecDepth 100000 in
theorem mX9_thumbUp (l : Launch) (D : va_G) (cyI cyJ cyB cyS : ClassId) (N : Nat) (sz : Nat)  (x0 : Int32) (x1 : Int32) (q : Int64) (hf : fX9_thumbUp N x0 x1 = some q) : Met l yX9_thumbUp (wS yX9_thumbUp cX9_thumbUp 8 (some .long)) rmX9_thumbUp (va_Pc [.int x0, .int x1] (PP D cyI cyJ cyB cyS [] sz)) (QL q D [] (va_A [] sz)) 0 0 (va_A [] sz) := by
  refine Met.ofW (cc := cX9_thumbUp) (maxL := 8) (ret := (some .long)) (by decide) rfl ?_
  intro p e s m args below meth c s₁ B hml hv
  obtain ⟨rfl, hsz, hP, hK, hD0⟩ := hv
  have hx := B.exec
  have hb := B.bytes
  have hr := B.returns
  have hts := atoms_spec (ws := (wS yX9_thumbUp cX9_thumbUp 8 (some .long))) B.pre
  have hown : s.vm.findClass RX9 = some m.cls := findClass_of_methodNamed B.named
  have hlocks := B.notSynchronized
  subst hsz
  have hD := hD0.self (sz := s.heap.size)
  refine w_nameQ (fun Q hQ => ?_)
  have hl := lv_entry ([.int x0, .int x1] : List Value) (n := 8) (Nat.le_of_ble_eq_true rfl)
  rw [lg_entry_eq]
  generalize (lg_sl ([.int x0, .int x1] : List Value) ++ List.replicate (8 - (lg_sl ([.int x0, .int x1] : List Value)).length) Slot.unset).toArray = ls at hl ⊢
  have hl : lv_has ls 8 [(0, .int x0), (1, .int x1)] := hl
  generalize hAe : va_A [] s.heap.size = A at hD hQ
  have hA : ∀ q : Nat, s.heap.size ≤ q → A q := fun q h => by rw [← hAe]; exact Or.inr h
  have hS : va_S A s.heap s.heap [] := va_S.rf
  generalize ([.int x0, .int x1] : List Value).toArray = av at hts hQ ⊢
  have hL : ∀ w ∈ wsL_law, w.before av s = true := fun w h => hts w (List.mem_cons_of_mem _ h)
  have w0 := hL (.constantLong RX9 338 5) (hR45 19 rfl)
  have hB50 : ∀ (k5 : Int64 → Int32 → Option (Int64)) (hk5 : ∀ (x2 : Int64) (x4 : Int32) (H : Heap) (locs : List Loc) (ls : Array Slot), k5 x2 x4 = some q → va_P D vwCl [] H → va_D A [] → va_S A s.heap H locs → lv_has ls 8 [(0, .int x0), (2, .long x2), (4, .int x4)] → W p l e rmX9_thumbUp s m av below meth c H locs 0 0 Q (F0 m 5 ls [])) (n : Nat), ∀ (x2 : Int64) (x4 : Int32) (x5 : Int64) (x7 : Int32) (H : Heap) (locs : List Loc) (ls : Array Slot), fX9_thumbUp_50 N x0 x1 k5 n x2 x4 x5 x7 = some q → va_P D vwCl [] H → va_D A [] → va_S A s.heap H locs → lv_has ls 8 [(0, .int x0), (2, .long x2), (4, .int x4), (5, .long x5), (7, .int x7)] → W p l e rmX9_thumbUp s m av below meth c H locs 0 0 Q (F0 m 50 ls []) := by
    intro k5 hk5 n
    induction n with
    | zero => intro x2 x4 x5 x7 H locs ls hf; exact absurd hf (by simp [fX9_thumbUp_50])
    | succ n hk50 =>
      intro x2 x4 x5 x7 H locs ls hf hP hD hS hl
      rw [fX9_thumbUp_50] at hf
      refine lv_iload hx hb dX9_thumbUp_50 (lv_at hl 4 rfl) ?_
      refine lv_iload_n hx hb dX9_thumbUp_52 rfl (lv_at hl 0 rfl) ?_
      refine lv_icmp_ge (tgt := 70) hx hb dX9_thumbUp_53 (by decide) (fun c53 => ?_) (fun c53 => ?_)
      · have hf := pif_t c53 hf
        refine lv_lload_n hx hb dX9_thumbUp_70 rfl (lv_at hl 1 rfl) ?_
        refine lv_lload hx hb dX9_thumbUp_71 (lv_at hl 3 rfl) ?_
        refine lv_ladd hx hb dX9_thumbUp_73 ?_
        refine lv_lstore_n (lv' := [(2, .long (x2 + x5)), (0, .int x0), (4, .int x4), (5, .long x5), (7, .int x7)]) hx hb dX9_thumbUp_74 rfl hl (by decide) rfl (fun ls hl => ?_)
        refine lv_iinc (v := x4 + 1) (lv' := [(4, .int (x4 + 1)), (2, .long (x2 + x5)), (0, .int x0), (5, .long x5), (7, .int x7)]) hx hb dX9_thumbUp_75 hl (k := 2) rfl rfl (by decide) rfl (fun ls hl => ?_)
        refine lv_goto (tgt := 5) hx hb dX9_thumbUp_78 (by decide) ?_
        exact hk5 (x2 + x5) (x4 + 1) H locs ls hf hP hD hS (lv_sub hl [2, 1, 0] rfl)
      · have hf := pif_f c53 hf
        refine lv_lload hx hb dX9_thumbUp_56 (lv_at hl 3 rfl) ?_
        refine lv_ldc2 (v := 5) hx hb hown w0 dX9_thumbUp_58 ?_
        refine lv_lmul hx hb dX9_thumbUp_61 ?_
        refine lv_lstore (lv' := [(5, .long (x5 * 5)), (0, .int x0), (2, .long x2), (4, .int x4), (7, .int x7)]) hx hb dX9_thumbUp_62 hl (by decide) rfl (fun ls hl => ?_)
        refine lv_iinc (v := x7 + 1) (lv' := [(7, .int (x7 + 1)), (5, .long (x5 * 5)), (0, .int x0), (2, .long x2), (4, .int x4)]) hx hb dX9_thumbUp_64 hl (k := 4) rfl rfl (by decide) rfl (fun ls hl => ?_)
        refine lv_goto (tgt := 50) hx hb dX9_thumbUp_67 (by decide) ?_
        exact hk50 x2 x4 (x5 * 5) (x7 + 1) H locs ls hf hP hD hS (lv_sub hl [2, 3, 4, 1, 0] rfl)
  have hB17 : ∀ (k5 : Int64 → Int32 → Option (Int64)) (hk5 : ∀ (x2 : Int64) (x4 : Int32) (H : Heap) (locs : List Loc) (ls : Array Slot), k5 x2 x4 = some q → va_P D vwCl [] H → va_D A [] → va_S A s.heap H locs → lv_has ls 8 [(0, .int x0), (2, .long x2), (4, .int x4)] → W p l e rmX9_thumbUp s m av below meth c H locs 0 0 Q (F0 m 5 ls [])) (n : Nat), ∀ (x2 : Int64) (x4 : Int32) (x5 : Int64) (x7 : Int32) (H : Heap) (locs : List Loc) (ls : Array Slot), fX9_thumbUp_17 N x0 x1 k5 n x2 x4 x5 x7 = some q → va_P D vwCl [] H → va_D A [] → va_S A s.heap H locs → lv_has ls 8 [(0, .int x0), (2, .long x2), (4, .int x4), (5, .long x5), (7, .int x7)] → W p l e rmX9_thumbUp s m av below meth c H locs 0 0 Q (F0 m 17 ls []) := by
    intro k5 hk5 n
    induction n with
    | zero => intro x2 x4 x5 x7 H locs ls hf; exact absurd hf (by simp [fX9_thumbUp_17])
    | succ n hk17 =>
      intro x2 x4 x5 x7 H locs ls hf hP hD hS hl
      rw [fX9_thumbUp_17] at hf
      refine lv_iload hx hb dX9_thumbUp_17 (lv_at hl 4 rfl) ?_
      refine lv_iload hx hb dX9_thumbUp_19 (lv_at hl 2 rfl) ?_
      refine lv_icmp_ge (tgt := 46) hx hb dX9_thumbUp_21 (by decide) (fun c21 => ?_) (fun c21 => ?_)
      · have hf := pif_t c21 hf
        refine lv_iload hx hb dX9_thumbUp_46 (lv_at hl 2 rfl) ?_
        refine lv_istore (lv' := [(7, .int x4), (0, .int x0), (2, .long x2), (4, .int x4), (5, .long x5)]) hx hb dX9_thumbUp_48 hl (by decide) rfl (fun ls hl => ?_)
        exact hB50 k5 hk5 N x2 x4 x5 x4 H locs ls hf hP hD hS (lv_sub hl [1, 2, 3, 4, 0] rfl)
      · have hf := pif_f c21 hf
        refine lv_lload hx hb dX9_thumbUp_24 (lv_at hl 3 rfl) ?_
        refine lv_iload_n hx hb dX9_thumbUp_26 rfl (lv_at hl 0 rfl) ?_
        refine lv_iload hx hb dX9_thumbUp_27 (lv_at hl 4 rfl) ?_
        refine lv_isub hx hb dX9_thumbUp_29 ?_
        refine lv_i2l hx hb dX9_thumbUp_30 rfl ?_
        refine lv_lmul hx hb dX9_thumbUp_31 ?_
        refine lv_iload hx hb dX9_thumbUp_32 (lv_at hl 4 rfl) ?_
        refine lv_iconst (v := 1) hx hb dX9_thumbUp_34 (by decide) ?_
        refine lv_iadd hx hb dX9_thumbUp_35 ?_
        refine lv_i2l hx hb dX9_thumbUp_36 rfl ?_
        obtain ⟨n37, hf⟩ := pg_some hf
        refine lv_ldiv hx hb dX9_thumbUp_37 n37 ?_
        refine lv_lstore (lv' := [(5, .long ((x5 * ((x0 - x7 : Int32).toInt64)) / ((x7 + 1 : Int32).toInt64))), (0, .int x0), (2, .long x2), (4, .int x4), (7, .int x7)]) hx hb dX9_thumbUp_38 hl (by decide) rfl (fun ls hl => ?_)
        refine lv_iinc (v := x7 + 1) (lv' := [(7, .int (x7 + 1)), (5, .long ((x5 * ((x0 - x7 : Int32).toInt64)) / ((x7 + 1 : Int32).toInt64))), (0, .int x0), (2, .long x2), (4, .int x4)]) hx hb dX9_thumbUp_40 hl (k := 4) rfl rfl (by decide) rfl (fun ls hl => ?_)
        refine lv_goto (tgt := 17) hx hb dX9_thumbUp_43 (by decide) ?_
        exact hk17 x2 x4 ((x5 * ((x0 - x7 : Int32).toInt64)) / ((x7 + 1 : Int32).toInt64)) (x7 + 1) H locs ls hf hP hD hS (lv_sub hl [2, 3, 4, 1, 0] rfl)
  have hB5 : ∀ (n : Nat), ∀ (x2 : Int64) (x4 : Int32) (H : Heap) (locs : List Loc) (ls : Array Slot), fX9_thumbUp_5 N x0 x1 n x2 x4 = some q → va_P D vwCl [] H → va_D A [] → va_S A s.heap H locs → lv_has ls 8 [(0, .int x0), (2, .long x2), (4, .int x4)] → W p l e rmX9_thumbUp s m av below meth c H locs 0 0 Q (F0 m 5 ls []) := by
    intro n
    induction n with
    | zero => intro x2 x4 H locs ls hf; exact absurd hf (by simp [fX9_thumbUp_5])
    | succ n hk5 =>
      intro x2 x4 H locs ls hf hP hD hS hl
      rw [fX9_thumbUp_5] at hf
      refine lv_iload hx hb dX9_thumbUp_5 (lv_at hl 2 rfl) ?_
      refine lv_iload_n hx hb dX9_thumbUp_7 rfl (lv_at hl 0 rfl) ?_
      refine lv_icmp_gt (tgt := 81) hx hb dX9_thumbUp_8 (by decide) (fun c8 => ?_) (fun c8 => ?_)
      · have hf := pif_t c8 hf
        refine lv_lload_n hx hb dX9_thumbUp_81 rfl (lv_at hl 1 rfl) ?_
        exact ret_l (q := q) (g := fun q => q) (wp := fun q => []) hQ hf hx hb hr hlocks hP hD hS dX9_thumbUp_82 rfl
      · have hf := pif_f c8 hf
        refine lv_lconst (v := 1) hx hb dX9_thumbUp_11 (by decide) ?_
        refine lv_lstore (lv' := [(5, .long 1), (0, .int x0), (2, .long x2), (4, .int x4)]) hx hb dX9_thumbUp_12 hl (by decide) rfl (fun ls hl => ?_)
        refine lv_iconst (v := 0) hx hb dX9_thumbUp_14 (by decide) ?_
        refine lv_istore (lv' := [(7, .int 0), (5, .long 1), (0, .int x0), (2, .long x2), (4, .int x4)]) hx hb dX9_thumbUp_15 hl (by decide) rfl (fun ls hl => ?_)
        exact hB17 (fX9_thumbUp_5 N x0 x1 n) hk5 N x2 x4 1 0 H locs ls hf hP hD hS (lv_sub hl [2, 3, 4, 1, 0] rfl)
  unfold fX9_thumbUp at hf
  obtain ⟨H, hH⟩ : ∃ H : Heap, H = s.heap := ⟨_, rfl⟩
  obtain ⟨locs, hlo⟩ : ∃ locs : List Loc, locs = [] := ⟨_, rfl⟩
  have hP : va_P D vwCl [] H := by rw [hH]; exact hP
  have hS : va_S A s.heap H locs := by rw [hH, hlo]; exact hS
  suffices hw : W p l e rmX9_thumbUp s m av below meth c H locs 0 0 Q (F0 m 0 ls []) by rw [hH, hlo] at hw; exact hw
  refine lv_lconst (v := 0) hx hb dX9_thumbUp_0 (by decide) ?_
  refine lv_lstore_n (lv' := [(2, .long 0), (0, .int x0), (1, .int x1)]) hx hb dX9_thumbUp_1 rfl hl (by decide) rfl (fun ls hl => ?_)
  refine lv_iload_n hx hb dX9_thumbUp_2 rfl (lv_at hl 2 rfl) ?_
  refine lv_istore (lv' := [(4, .int x1), (2, .long 0), (0, .int x0), (1, .int x1)]) hx hb dX9_thumbUp_3 hl (by decide) rfl (fun ls hl => ?_)
  exact hB5 N 0 x1 H locs ls hf hP hD hS (lv_sub hl [2, 1, 0] rfl)
def fX9_sixes_4 (N : Nat) (x0 : Int32) : Nat → Int64 → Int32 → Option (Int64)
  | 0, _, _ => none
  | n + 1, x1, x3 => pif (x0 ≤ x3) (some x1) ((fX9_sixes_4 N x0 n) (x1 * 6) (x3 + 1))
def fX9_sixes (N : Nat) (x0 : Int32) : Option (Int64) := fX9_sixes_4 N x0 N 1 0
abbrev rmX9_sixes : Room := { frames := 0, cells := 0, slots := 0, locals := 0 }
set_option maxHeartbeats 40000000 in
set_option maxRecDepth 100000 in
theorem mX9_sixes (l : Launch) (D : va_G) (cyI cyJ cyB cyS : ClassId) (N : Nat) (sz : Nat)  (x0 : Int32) (q : Int64) (hf : fX9_sixes N x0 = some q) : Met l yX9_sixes (wS yX9_sixes cX9_sixes 4 (some .long)) rmX9_sixes (va_Pc [.int x0] (PP D cyI cyJ cyB cyS [] sz)) (QL q D [] (va_A [] sz)) 0 0 (va_A [] sz) := by
  refine Met.ofW (cc := cX9_sixes) (maxL := 4) (ret := (some .long)) (by decide) rfl ?_
  intro p e s m args below meth c s₁ B hml hv
  obtain ⟨rfl, hsz, hP, hK, hD0⟩ := hv
  have hx := B.exec
  have hb := B.bytes
  have hr := B.returns
  have hts := atoms_spec (ws := (wS yX9_sixes cX9_sixes 4 (some .long))) B.pre
  have hown : s.vm.findClass RX9 = some m.cls := findClass_of_methodNamed B.named
  have hlocks := B.notSynchronized
  subst hsz
  have hD := hD0.self (sz := s.heap.size)
  refine w_nameQ (fun Q hQ => ?_)
  have hl := lv_entry ([.int x0] : List Value) (n := 4) (Nat.le_of_ble_eq_true rfl)
  rw [lg_entry_eq]
  generalize (lg_sl ([.int x0] : List Value) ++ List.replicate (4 - (lg_sl ([.int x0] : List Value)).length) Slot.unset).toArray = ls at hl ⊢
  have hl : lv_has ls 4 [(0, .int x0)] := hl
  generalize hAe : va_A [] s.heap.size = A at hD hQ
  have hA : ∀ q : Nat, s.heap.size ≤ q → A q := fun q h => by rw [← hAe]; exact Or.inr h
  have hS : va_S A s.heap s.heap [] := va_S.rf
  generalize ([.int x0] : List Value).toArray = av at hts hQ ⊢
  have hL : ∀ w ∈ wsL_law, w.before av s = true := fun w h => hts w (List.mem_cons_of_mem _ h)
  have w0 := hL (.constantLong RX9 340 6) (hR45 23 rfl)
  have hB4 : ∀ (n : Nat), ∀ (x1 : Int64) (x3 : Int32) (H : Heap) (locs : List Loc) (ls : Array Slot), fX9_sixes_4 N x0 n x1 x3 = some q → va_P D vwCl [] H → va_D A [] → va_S A s.heap H locs → lv_has ls 4 [(0, .int x0), (1, .long x1), (3, .int x3)] → W p l e rmX9_sixes s m av below meth c H locs 0 0 Q (F0 m 4 ls []) := by
    intro n
    induction n with
    | zero => intro x1 x3 H locs ls hf; exact absurd hf (by simp [fX9_sixes_4])
    | succ n hk4 =>
      intro x1 x3 H locs ls hf hP hD hS hl
      rw [fX9_sixes_4] at hf
      refine lv_iload_n hx hb dX9_sixes_4 rfl (lv_at hl 2 rfl) ?_
      refine lv_iload_n hx hb dX9_sixes_5 rfl (lv_at hl 0 rfl) ?_
      refine lv_icmp_ge (tgt := 21) hx hb dX9_sixes_6 (by decide) (fun c6 => ?_) (fun c6 => ?_)
      · have hf := pif_t c6 hf
        refine lv_lload_n hx hb dX9_sixes_21 rfl (lv_at hl 1 rfl) ?_
        exact ret_l (q := q) (g := fun q => q) (wp := fun q => []) hQ hf hx hb hr hlocks hP hD hS dX9_sixes_22 rfl
      · have hf := pif_f c6 hf
        refine lv_lload_n hx hb dX9_sixes_9 rfl (lv_at hl 1 rfl) ?_
        refine lv_ldc2 (v := 6) hx hb hown w0 dX9_sixes_10 ?_
        refine lv_lmul hx hb dX9_sixes_13 ?_
        refine lv_lstore_n (lv' := [(1, .long (x1 * 6)), (0, .int x0), (3, .int x3)]) hx hb dX9_sixes_14 rfl hl (by decide) rfl (fun ls hl => ?_)
        refine lv_iinc (v := x3 + 1) (lv' := [(3, .int (x3 + 1)), (1, .long (x1 * 6)), (0, .int x0)]) hx hb dX9_sixes_15 hl (k := 2) rfl rfl (by decide) rfl (fun ls hl => ?_)
        refine lv_goto (tgt := 4) hx hb dX9_sixes_18 (by decide) ?_
        exact hk4 (x1 * 6) (x3 + 1) H locs ls hf hP hD hS (lv_sub hl [2, 1, 0] rfl)
  unfold fX9_sixes at hf
  obtain ⟨H, hH⟩ : ∃ H : Heap, H = s.heap := ⟨_, rfl⟩
  obtain ⟨locs, hlo⟩ : ∃ locs : List Loc, locs = [] := ⟨_, rfl⟩
  have hP : va_P D vwCl [] H := by rw [hH]; exact hP
  have hS : va_S A s.heap H locs := by rw [hH, hlo]; exact hS
  suffices hw : W p l e rmX9_sixes s m av below meth c H locs 0 0 Q (F0 m 0 ls []) by rw [hH, hlo] at hw; exact hw
  refine lv_lconst (v := 1) hx hb dX9_sixes_0 (by decide) ?_
  refine lv_lstore_n (lv' := [(1, .long 1), (0, .int x0)]) hx hb dX9_sixes_1 rfl hl (by decide) rfl (fun ls hl => ?_)
  refine lv_iconst (v := 0) hx hb dX9_sixes_2 (by decide) ?_
  refine lv_istore_n (lv' := [(3, .int 0), (1, .long 1), (0, .int x0)]) hx hb dX9_sixes_3 rfl hl (by decide) rfl (fun ls hl => ?_)
  exact hB4 N 1 0 H locs ls hf hP hD hS (lv_sub hl [2, 1, 0] rfl)
def fX9_thumbs_52 (N : Nat) (x1 : Int32) (x2 : Int32) (x3 : Int32) (s0 : Int64) : Option (Int64) := some s0
def fX9_thumbs_49 (N : Nat) (x1 : Int32) (x2 : Int32) (x3 : Int32) : Option (Int64) := fX9_thumbs_52 N x1 x2 x3 (-1)
def fX9_thumbs (N : Nat) (x1 : Int32) (x2 : Int32) (x3 : Int32) : Option (Int64) := pb (fX9_in N ((x1 : Int32).toInt64) 1 20) (fun q6 => pif (q6 = 0) (fX9_thumbs_49 N x1 x2 x3) (pb (fX9_in N ((x2 : Int32).toInt64) 0 ((x1 : Int32).toInt64)) (fun q17 => pif (q17 = 0) (fX9_thumbs_49 N x1 x2 x3) (pb (fX9_in N ((x3 : Int32).toInt64) 0 1) (fun q27 => pif (q27 = 0) (fX9_thumbs_49 N x1 x2 x3) (pb (fX9_thumbUp N x1 x2) (fun q35 => pb (fX9_sixes N x1) (fun q39 => pb (fX9_lowest N q35 q39 x3) (fun q43 => fX9_thumbs_52 N x1 x2 x3 q43)))))))))
abbrev rmX9_thumbs : Room := { frames := 1, cells := 0, slots := 0, locals := 30 }
set_option maxHeartbeats 40000000 in
set_option maxRecDepth 100000 in
theorem mX9_thumbs (l : Launch) (D : va_G) (cyI cyJ cyB cyS : ClassId) (N : Nat) (sz : Nat) (h0 : Nat) (a_tape : Nat) (a_cuts : Nat) (a_letters : Nat) (a_kinds : Nat) (a_holds : Nat) (a_reads : Nat) (a_readFirst : Nat) (a_readSecond : Nat) (a_firsts : Nat) (a_seconds : Nat) (a_goes : Nat) (a_many : Nat) (a_force : Nat) (a_won : Nat) (a_sideAt : Nat) (a_placeOf : Nat) (a_chooser : Nat) (a_outs : Nat) (a_later : Nat) (a_payOf : Nat) (a_opens : Nat) (a_tree : Nat) (a_lastOnes : Nat) (a_firstOnes : Nat) (a_lanes : Nat) (a_lengths : Nat) (a_cells : Nat) (v_taped : Int32) (v_fault : Int32) (v_wrong : Int32) (v_wrongAt : Int32) (v_spot : Int32) (v_place : Int32) (v_token : Int32) (v_value : Int32) (v_toldOnes : Int32) (v_isBehind : Int32) (v_readGames : Int32) (v_hasRule : Int32) (v_hasSides : Int32) (v_open : Int32) (v_sumUp : Int64) (v_sumDown : Int64) (v_pair : Int32) (v_isPair : Int32) (v_leaves : Int64) (v_looked : Int32) (v_wantedMany : Int32) (v_wantedFirst : Int32) (v_seed : Int32) (v_widest : Int32) (v_torn : Int32) (x1 : Int32) (x2 : Int32) (x3 : Int32) (q : Int64) (hf : fX9_thumbs N x1 x2 x3 = some q) : Met l yX9_thumbs (wS yX9_thumbs cX9_thumbs 4 (some .long)) rmX9_thumbs (va_Pc [.ref h0, .int x1, .int x2, .int x3] (PP D cyI cyJ cyB cyS [(h0, .inr (9, [.ref a_tape, .int v_taped, .int v_fault, .int v_wrong, .int v_wrongAt, .int v_spot, .int v_place, .int v_token, .int v_value, .ref a_cuts, .ref a_letters, .ref a_kinds, .ref a_holds, .ref a_reads, .int v_toldOnes, .int v_isBehind, .int v_readGames, .ref a_readFirst, .ref a_readSecond, .ref a_firsts, .ref a_seconds, .ref a_goes, .ref a_many, .int v_hasRule, .int v_hasSides, .ref a_force, .ref a_won, .ref a_sideAt, .ref a_placeOf, .ref a_chooser, .ref a_outs, .ref a_later, .ref a_payOf, .ref a_opens, .int v_open, .long v_sumUp, .long v_sumDown, .ref a_tree, .int v_pair, .int v_isPair, .long v_leaves, .int v_looked, .int v_wantedMany, .int v_wantedFirst, .int v_seed, .ref a_lastOnes, .ref a_firstOnes, .int v_widest, .ref a_lanes, .ref a_lengths, .ref a_cells, .int v_torn]))] sz)) (QL q D [(h0, .inr (9, [.ref a_tape, .int v_taped, .int v_fault, .int v_wrong, .int v_wrongAt, .int v_spot, .int v_place, .int v_token, .int v_value, .ref a_cuts, .ref a_letters, .ref a_kinds, .ref a_holds, .ref a_reads, .int v_toldOnes, .int v_isBehind, .int v_readGames, .ref a_readFirst, .ref a_readSecond, .ref a_firsts, .ref a_seconds, .ref a_goes, .ref a_many, .int v_hasRule, .int v_hasSides, .ref a_force, .ref a_won, .ref a_sideAt, .ref a_placeOf, .ref a_chooser, .ref a_outs, .ref a_later, .ref a_payOf, .ref a_opens, .int v_open, .long v_sumUp, .long v_sumDown, .ref a_tree, .int v_pair, .int v_isPair, .long v_leaves, .int v_looked, .int v_wantedMany, .int v_wantedFirst, .int v_seed, .ref a_lastOnes, .ref a_firstOnes, .int v_widest, .ref a_lanes, .ref a_lengths, .ref a_cells, .int v_torn]))] (va_A [(h0, .inr (9, [.ref a_tape, .int v_taped, .int v_fault, .int v_wrong, .int v_wrongAt, .int v_spot, .int v_place, .int v_token, .int v_value, .ref a_cuts, .ref a_letters, .ref a_kinds, .ref a_holds, .ref a_reads, .int v_toldOnes, .int v_isBehind, .int v_readGames, .ref a_readFirst, .ref a_readSecond, .ref a_firsts, .ref a_seconds, .ref a_goes, .ref a_many, .int v_hasRule, .int v_hasSides, .ref a_force, .ref a_won, .ref a_sideAt, .ref a_placeOf, .ref a_chooser, .ref a_outs, .ref a_later, .ref a_payOf, .ref a_opens, .int v_open, .long v_sumUp, .long v_sumDown, .ref a_tree, .int v_pair, .int v_isPair, .long v_leaves, .int v_looked, .int v_wantedMany, .int v_wantedFirst, .int v_seed, .ref a_lastOnes, .ref a_firstOnes, .int v_widest, .ref a_lanes, .ref a_lengths, .ref a_cells, .int v_torn]))] sz)) 0 0 (va_A [(h0, .inr (9, [.ref a_tape, .int v_taped, .int v_fault, .int v_wrong, .int v_wrongAt, .int v_spot, .int v_place, .int v_token, .int v_value, .ref a_cuts, .ref a_letters, .ref a_kinds, .ref a_holds, .ref a_reads, .int v_toldOnes, .int v_isBehind, .int v_readGames, .ref a_readFirst, .ref a_readSecond, .ref a_firsts, .ref a_seconds, .ref a_goes, .ref a_many, .int v_hasRule, .int v_hasSides, .ref a_force, .ref a_won, .ref a_sideAt, .ref a_placeOf, .ref a_chooser, .ref a_outs, .ref a_later, .ref a_payOf, .ref a_opens, .int v_open, .long v_sumUp, .long v_sumDown, .ref a_tree, .int v_pair, .int v_isPair, .long v_leaves, .int v_looked, .int v_wantedMany, .int v_wantedFirst, .int v_seed, .ref a_lastOnes, .ref a_firstOnes, .int v_widest, .ref a_lanes, .ref a_lengths, .ref a_cells, .int v_torn]))] sz) := by
  refine Met.ofW (cc := cX9_thumbs) (maxL := 4) (ret := (some .long)) (by decide) rfl ?_
  intro p e s m args below meth c s₁ B hml hv
  obtain ⟨rfl, hsz, hP, hK, hD0⟩ := hv
  have hx := B.exec
  have hb := B.bytes
  have hr := B.returns
  have hts := atoms_spec (ws := (wS yX9_thumbs cX9_thumbs 4 (some .long))) B.pre
  have hown : s.vm.findClass RX9 = some m.cls := findClass_of_methodNamed B.named
  have hlocks := B.notSynchronized
  subst hsz
  have hD := hD0.self (sz := s.heap.size)
  refine w_nameQ (fun Q hQ => ?_)
  have hl := lv_entry ([.ref h0, .int x1, .int x2, .int x3] : List Value) (n := 4) (Nat.le_of_ble_eq_true rfl)
  rw [lg_entry_eq]
  generalize (lg_sl ([.ref h0, .int x1, .int x2, .int x3] : List Value) ++ List.replicate (4 - (lg_sl ([.ref h0, .int x1, .int x2, .int x3] : List Value)).length) Slot.unset).toArray = ls at hl ⊢
  have hl : lv_has ls 4 [(0, .ref h0), (1, .int x1), (2, .int x2), (3, .int x3)] := hl
  generalize hAe : va_A [(h0, .inr (9, [.ref a_tape, .int v_taped, .int v_fault, .int v_wrong, .int v_wrongAt, .int v_spot, .int v_place, .int v_token, .int v_value, .ref a_cuts, .ref a_letters, .ref a_kinds, .ref a_holds, .ref a_reads, .int v_toldOnes, .int v_isBehind, .int v_readGames, .ref a_readFirst, .ref a_readSecond, .ref a_firsts, .ref a_seconds, .ref a_goes, .ref a_many, .int v_hasRule, .int v_hasSides, .ref a_force, .ref a_won, .ref a_sideAt, .ref a_placeOf, .ref a_chooser, .ref a_outs, .ref a_later, .ref a_payOf, .ref a_opens, .int v_open, .long v_sumUp, .long v_sumDown, .ref a_tree, .int v_pair, .int v_isPair, .long v_leaves, .int v_looked, .int v_wantedMany, .int v_wantedFirst, .int v_seed, .ref a_lastOnes, .ref a_firstOnes, .int v_widest, .ref a_lanes, .ref a_lengths, .ref a_cells, .int v_torn]))] s.heap.size = A at hD hQ
  have hA : ∀ q : Nat, s.heap.size ≤ q → A q := fun q h => by rw [← hAe]; exact Or.inr h
  have hS : va_S A s.heap s.heap [] := va_S.rf
  generalize ([.ref h0, .int x1, .int x2, .int x3] : List Value).toArray = av at hts hQ ⊢
  have hL : ∀ w ∈ wsL_law, w.before av s = true := fun w h => hts w (List.mem_cons_of_mem _ h)
  have w0 := hL (.constantLong RX9 266 (-1)) (hR33 21 rfl)
  have w1 := hL (.constantLong RX9 342 20) (hR45 15 rfl)
  have w2 := hL (.static yX9_in) (hR8 8 rfl)
  have w3 := hL (.static yX9_thumbUp) (hR45 17 rfl)
  have w4 := hL (.static yX9_sixes) (hR45 21 rfl)
  have w5 := hL (.static yX9_lowest) (hR33 9 rfl)
  have hB52 : ∀ (s0 : Int64) (H : Heap) (locs : List Loc) (ls : Array Slot), fX9_thumbs_52 N x1 x2 x3 s0 = some q → va_P D vwCl [(h0, .inr (9, [.ref a_tape, .int v_taped, .int v_fault, .int v_wrong, .int v_wrongAt, .int v_spot, .int v_place, .int v_token, .int v_value, .ref a_cuts, .ref a_letters, .ref a_kinds, .ref a_holds, .ref a_reads, .int v_toldOnes, .int v_isBehind, .int v_readGames, .ref a_readFirst, .ref a_readSecond, .ref a_firsts, .ref a_seconds, .ref a_goes, .ref a_many, .int v_hasRule, .int v_hasSides, .ref a_force, .ref a_won, .ref a_sideAt, .ref a_placeOf, .ref a_chooser, .ref a_outs, .ref a_later, .ref a_payOf, .ref a_opens, .int v_open, .long v_sumUp, .long v_sumDown, .ref a_tree, .int v_pair, .int v_isPair, .long v_leaves, .int v_looked, .int v_wantedMany, .int v_wantedFirst, .int v_seed, .ref a_lastOnes, .ref a_firstOnes, .int v_widest, .ref a_lanes, .ref a_lengths, .ref a_cells, .int v_torn]))] H → va_D A [(h0, .inr (9, [.ref a_tape, .int v_taped, .int v_fault, .int v_wrong, .int v_wrongAt, .int v_spot, .int v_place, .int v_token, .int v_value, .ref a_cuts, .ref a_letters, .ref a_kinds, .ref a_holds, .ref a_reads, .int v_toldOnes, .int v_isBehind, .int v_readGames, .ref a_readFirst, .ref a_readSecond, .ref a_firsts, .ref a_seconds, .ref a_goes, .ref a_many, .int v_hasRule, .int v_hasSides, .ref a_force, .ref a_won, .ref a_sideAt, .ref a_placeOf, .ref a_chooser, .ref a_outs, .ref a_later, .ref a_payOf, .ref a_opens, .int v_open, .long v_sumUp, .long v_sumDown, .ref a_tree, .int v_pair, .int v_isPair, .long v_leaves, .int v_looked, .int v_wantedMany, .int v_wantedFirst, .int v_seed, .ref a_lastOnes, .ref a_firstOnes, .int v_widest, .ref a_lanes, .ref a_lengths, .ref a_cells, .int v_torn]))] → va_S A s.heap H locs → lv_has ls 4 [] → W p l e rmX9_thumbs s m av below meth c H locs 0 0 Q (F0 m 52 ls [.long s0]) := by
    intro s0 H locs ls hf hP hD hS hl
    unfold fX9_thumbs_52 at hf
    exact ret_l (q := q) (g := fun q => q) (wp := fun q => [(h0, .inr (9, [.ref a_tape, .int v_taped, .int v_fault, .int v_wrong, .int v_wrongAt, .int v_spot, .int v_place, .int v_token, .int v_value, .ref a_cuts, .ref a_letters, .ref a_kinds, .ref a_holds, .ref a_reads, .int v_toldOnes, .int v_isBehind, .int v_readGames, .ref a_readFirst, .ref a_readSecond, .ref a_firsts, .ref a_seconds, .ref a_goes, .ref a_many, .int v_hasRule, .int v_hasSides, .ref a_force, .ref a_won, .ref a_sideAt, .ref a_placeOf, .ref a_chooser, .ref a_outs, .ref a_later, .ref a_payOf, .ref a_opens, .int v_open, .long v_sumUp, .long v_sumDown, .ref a_tree, .int v_pair, .int v_isPair, .long v_leaves, .int v_looked, .int v_wantedMany, .int v_wantedFirst, .int v_seed, .ref a_lastOnes, .ref a_firstOnes, .int v_widest, .ref a_lanes, .ref a_lengths, .ref a_cells, .int v_torn]))]) hQ hf hx hb hr hlocks hP hD hS dX9_thumbs_52 rfl
  have hB49 : ∀ (H : Heap) (locs : List Loc) (ls : Array Slot), fX9_thumbs_49 N x1 x2 x3 = some q → va_P D vwCl [(h0, .inr (9, [.ref a_tape, .int v_taped, .int v_fault, .int v_wrong, .int v_wrongAt, .int v_spot, .int v_place, .int v_token, .int v_value, .ref a_cuts, .ref a_letters, .ref a_kinds, .ref a_holds, .ref a_reads, .int v_toldOnes, .int v_isBehind, .int v_readGames, .ref a_readFirst, .ref a_readSecond, .ref a_firsts, .ref a_seconds, .ref a_goes, .ref a_many, .int v_hasRule, .int v_hasSides, .ref a_force, .ref a_won, .ref a_sideAt, .ref a_placeOf, .ref a_chooser, .ref a_outs, .ref a_later, .ref a_payOf, .ref a_opens, .int v_open, .long v_sumUp, .long v_sumDown, .ref a_tree, .int v_pair, .int v_isPair, .long v_leaves, .int v_looked, .int v_wantedMany, .int v_wantedFirst, .int v_seed, .ref a_lastOnes, .ref a_firstOnes, .int v_widest, .ref a_lanes, .ref a_lengths, .ref a_cells, .int v_torn]))] H → va_D A [(h0, .inr (9, [.ref a_tape, .int v_taped, .int v_fault, .int v_wrong, .int v_wrongAt, .int v_spot, .int v_place, .int v_token, .int v_value, .ref a_cuts, .ref a_letters, .ref a_kinds, .ref a_holds, .ref a_reads, .int v_toldOnes, .int v_isBehind, .int v_readGames, .ref a_readFirst, .ref a_readSecond, .ref a_firsts, .ref a_seconds, .ref a_goes, .ref a_many, .int v_hasRule, .int v_hasSides, .ref a_force, .ref a_won, .ref a_sideAt, .ref a_placeOf, .ref a_chooser, .ref a_outs, .ref a_later, .ref a_payOf, .ref a_opens, .int v_open, .long v_sumUp, .long v_sumDown, .ref a_tree, .int v_pair, .int v_isPair, .long v_leaves, .int v_looked, .int v_wantedMany, .int v_wantedFirst, .int v_seed, .ref a_lastOnes, .ref a_firstOnes, .int v_widest, .ref a_lanes, .ref a_lengths, .ref a_cells, .int v_torn]))] → va_S A s.heap H locs → lv_has ls 4 [] → W p l e rmX9_thumbs s m av below meth c H locs 0 0 Q (F0 m 49 ls []) := by
    intro  H locs ls hf hP hD hS hl
    unfold fX9_thumbs_49 at hf
    refine lv_ldc2 (v := (-1)) hx hb hown w0 dX9_thumbs_49 ?_
    exact hB52 (-1) H locs ls hf hP hD hS (lv_sub hl [] rfl)
  unfold fX9_thumbs at hf
  obtain ⟨H, hH⟩ : ∃ H : Heap, H = s.heap := ⟨_, rfl⟩
  obtain ⟨locs, hlo⟩ : ∃ locs : List Loc, locs = [] := ⟨_, rfl⟩
  have hP : va_P D vwCl [(h0, .inr (9, [.ref a_tape, .int v_taped, .int v_fault, .int v_wrong, .int v_wrongAt, .int v_spot, .int v_place, .int v_token, .int v_value, .ref a_cuts, .ref a_letters, .ref a_kinds, .ref a_holds, .ref a_reads, .int v_toldOnes, .int v_isBehind, .int v_readGames, .ref a_readFirst, .ref a_readSecond, .ref a_firsts, .ref a_seconds, .ref a_goes, .ref a_many, .int v_hasRule, .int v_hasSides, .ref a_force, .ref a_won, .ref a_sideAt, .ref a_placeOf, .ref a_chooser, .ref a_outs, .ref a_later, .ref a_payOf, .ref a_opens, .int v_open, .long v_sumUp, .long v_sumDown, .ref a_tree, .int v_pair, .int v_isPair, .long v_leaves, .int v_looked, .int v_wantedMany, .int v_wantedFirst, .int v_seed, .ref a_lastOnes, .ref a_firstOnes, .int v_widest, .ref a_lanes, .ref a_lengths, .ref a_cells, .int v_torn]))] H := by rw [hH]; exact hP
  have hS : va_S A s.heap H locs := by rw [hH, hlo]; exact hS
  suffices hw : W p l e rmX9_thumbs s m av below meth c H locs 0 0 Q (F0 m 0 ls []) by rw [hH, hlo] at hw; exact hw
  refine lv_iload_n hx hb dX9_thumbs_0 rfl (lv_at hl 1 rfl) ?_
  refine lv_i2l hx hb dX9_thumbs_1 rfl ?_
  refine lv_lconst (v := 1) hx hb dX9_thumbs_2 (by decide) ?_
  refine lv_ldc2 (v := 20) hx hb hown w1 dX9_thumbs_3 ?_
  obtain ⟨q6, e6, hf⟩ := pb_some hf
  refine cc_i (wc := []) (wr := [(h0, .inr (9, [.ref a_tape, .int v_taped, .int v_fault, .int v_wrong, .int v_wrongAt, .int v_spot, .int v_place, .int v_token, .int v_value, .ref a_cuts, .ref a_letters, .ref a_kinds, .ref a_holds, .ref a_reads, .int v_toldOnes, .int v_isBehind, .int v_readGames, .ref a_readFirst, .ref a_readSecond, .ref a_firsts, .ref a_seconds, .ref a_goes, .ref a_many, .int v_hasRule, .int v_hasSides, .ref a_force, .ref a_won, .ref a_sideAt, .ref a_placeOf, .ref a_chooser, .ref a_outs, .ref a_later, .ref a_payOf, .ref a_opens, .int v_open, .long v_sumUp, .long v_sumDown, .ref a_tree, .int v_pair, .int v_isPair, .long v_leaves, .int v_looked, .int v_wantedMany, .int v_wantedFirst, .int v_seed, .ref a_lastOnes, .ref a_firstOnes, .int v_widest, .ref a_lanes, .ref a_lengths, .ref a_cells, .int v_torn]))]) (w1 := []) (wn := [(h0, .inr (9, [.ref a_tape, .int v_taped, .int v_fault, .int v_wrong, .int v_wrongAt, .int v_spot, .int v_place, .int v_token, .int v_value, .ref a_cuts, .ref a_letters, .ref a_kinds, .ref a_holds, .ref a_reads, .int v_toldOnes, .int v_isBehind, .int v_readGames, .ref a_readFirst, .ref a_readSecond, .ref a_firsts, .ref a_seconds, .ref a_goes, .ref a_many, .int v_hasRule, .int v_hasSides, .ref a_force, .ref a_won, .ref a_sideAt, .ref a_placeOf, .ref a_chooser, .ref a_outs, .ref a_later, .ref a_payOf, .ref a_opens, .int v_open, .long v_sumUp, .long v_sumDown, .ref a_tree, .int v_pair, .int v_isPair, .long v_leaves, .int v_looked, .int v_wantedMany, .int v_wantedFirst, .int v_seed, .ref a_lastOnes, .ref a_firstOnes, .int v_widest, .ref a_lanes, .ref a_lengths, .ref a_cells, .int v_torn]))]) hP hD hS hA [] [0] [0] rfl rfl rfl (by decide) rfl rfl (va_runS (As := [.long ((x1 : Int32).toInt64), .long 1, .long 20]) (rest := []) ⟨hx, hb, hml, hown, hL⟩ (mX9_in l D cyI cyJ cyB cyS N H.size   ((x1 : Int32).toInt64) 1 20 q6 e6) (va_cwS 3 hL (gS (hR8 7 rfl) (hR8 8 rfl) (hR1 5 rfl) (hR8 9 rfl)) rfl rfl rfl (by decide +kernel) ⟨Nat.le_of_ble_eq_true rfl, Nat.le_of_ble_eq_true rfl⟩) (PP_preS hP hD hK [] rfl rfl) rfl rfl hl.1 rfl (lv_room (Nat.le_of_ble_eq_true rfl)) dX9_thumbs_6 ⟨Nat.le_of_ble_eq_true rfl, Nat.le_of_ble_eq_true rfl⟩) (fun H locs hP hD hS => ?_)
  refine lv_if_eq (tgt := 49) hx hb dX9_thumbs_9 (by decide) (fun c9 => ?_) (fun c9 => ?_)
  · have hf := pif_t c9 hf
    exact hB49 H locs ls hf hP hD hS (lv_sub hl [] rfl)
  · have hf := pif_f c9 hf
    refine lv_iload_n hx hb dX9_thumbs_12 rfl (lv_at hl 2 rfl) ?_
    refine lv_i2l hx hb dX9_thumbs_13 rfl ?_
    refine lv_lconst (v := 0) hx hb dX9_thumbs_14 (by decide) ?_
    refine lv_iload_n hx hb dX9_thumbs_15 rfl (lv_at hl 1 rfl) ?_
    refine lv_i2l hx hb dX9_thumbs_16 rfl ?_
    obtain ⟨q17, e17, hf⟩ := pb_some hf
    refine cc_i (wc := []) (wr := [(h0, .inr (9, [.ref a_tape, .int v_taped, .int v_fault, .int v_wrong, .int v_wrongAt, .int v_spot, .int v_place, .int v_token, .int v_value, .ref a_cuts, .ref a_letters, .ref a_kinds, .ref a_holds, .ref a_reads, .int v_toldOnes, .int v_isBehind, .int v_readGames, .ref a_readFirst, .ref a_readSecond, .ref a_firsts, .ref a_seconds, .ref a_goes, .ref a_many, .int v_hasRule, .int v_hasSides, .ref a_force, .ref a_won, .ref a_sideAt, .ref a_placeOf, .ref a_chooser, .ref a_outs, .ref a_later, .ref a_payOf, .ref a_opens, .int v_open, .long v_sumUp, .long v_sumDown, .ref a_tree, .int v_pair, .int v_isPair, .long v_leaves, .int v_looked, .int v_wantedMany, .int v_wantedFirst, .int v_seed, .ref a_lastOnes, .ref a_firstOnes, .int v_widest, .ref a_lanes, .ref a_lengths, .ref a_cells, .int v_torn]))]) (w1 := []) (wn := [(h0, .inr (9, [.ref a_tape, .int v_taped, .int v_fault, .int v_wrong, .int v_wrongAt, .int v_spot, .int v_place, .int v_token, .int v_value, .ref a_cuts, .ref a_letters, .ref a_kinds, .ref a_holds, .ref a_reads, .int v_toldOnes, .int v_isBehind, .int v_readGames, .ref a_readFirst, .ref a_readSecond, .ref a_firsts, .ref a_seconds, .ref a_goes, .ref a_many, .int v_hasRule, .int v_hasSides, .ref a_force, .ref a_won, .ref a_sideAt, .ref a_placeOf, .ref a_chooser, .ref a_outs, .ref a_later, .ref a_payOf, .ref a_opens, .int v_open, .long v_sumUp, .long v_sumDown, .ref a_tree, .int v_pair, .int v_isPair, .long v_leaves, .int v_looked, .int v_wantedMany, .int v_wantedFirst, .int v_seed, .ref a_lastOnes, .ref a_firstOnes, .int v_widest, .ref a_lanes, .ref a_lengths, .ref a_cells, .int v_torn]))]) hP hD hS hA [] [0] [0] rfl rfl rfl (by decide) rfl rfl (va_runS (As := [.long ((x2 : Int32).toInt64), .long 0, .long ((x1 : Int32).toInt64)]) (rest := []) ⟨hx, hb, hml, hown, hL⟩ (mX9_in l D cyI cyJ cyB cyS N H.size   ((x2 : Int32).toInt64) 0 ((x1 : Int32).toInt64) q17 e17) (va_cwS 3 hL (gS (hR8 7 rfl) (hR8 8 rfl) (hR1 5 rfl) (hR8 9 rfl)) rfl rfl rfl (by decide +kernel) ⟨Nat.le_of_ble_eq_true rfl, Nat.le_of_ble_eq_true rfl⟩) (PP_preS hP hD hK [] rfl rfl) rfl rfl hl.1 rfl (lv_room (Nat.le_of_ble_eq_true rfl)) dX9_thumbs_17 ⟨Nat.le_of_ble_eq_true rfl, Nat.le_of_ble_eq_true rfl⟩) (fun H locs hP hD hS => ?_)
    refine lv_if_eq (tgt := 49) hx hb dX9_thumbs_20 (by decide) (fun c20 => ?_) (fun c20 => ?_)
    · have hf := pif_t c20 hf
      exact hB49 H locs ls hf hP hD hS (lv_sub hl [] rfl)
    · have hf := pif_f c20 hf
      refine lv_iload_n hx hb dX9_thumbs_23 rfl (lv_at hl 3 rfl) ?_
      refine lv_i2l hx hb dX9_thumbs_24 rfl ?_
      refine lv_lconst (v := 0) hx hb dX9_thumbs_25 (by decide) ?_
      refine lv_lconst (v := 1) hx hb dX9_thumbs_26 (by decide) ?_
      obtain ⟨q27, e27, hf⟩ := pb_some hf
      refine cc_i (wc := []) (wr := [(h0, .inr (9, [.ref a_tape, .int v_taped, .int v_fault, .int v_wrong, .int v_wrongAt, .int v_spot, .int v_place, .int v_token, .int v_value, .ref a_cuts, .ref a_letters, .ref a_kinds, .ref a_holds, .ref a_reads, .int v_toldOnes, .int v_isBehind, .int v_readGames, .ref a_readFirst, .ref a_readSecond, .ref a_firsts, .ref a_seconds, .ref a_goes, .ref a_many, .int v_hasRule, .int v_hasSides, .ref a_force, .ref a_won, .ref a_sideAt, .ref a_placeOf, .ref a_chooser, .ref a_outs, .ref a_later, .ref a_payOf, .ref a_opens, .int v_open, .long v_sumUp, .long v_sumDown, .ref a_tree, .int v_pair, .int v_isPair, .long v_leaves, .int v_looked, .int v_wantedMany, .int v_wantedFirst, .int v_seed, .ref a_lastOnes, .ref a_firstOnes, .int v_widest, .ref a_lanes, .ref a_lengths, .ref a_cells, .int v_torn]))]) (w1 := []) (wn := [(h0, .inr (9, [.ref a_tape, .int v_taped, .int v_fault, .int v_wrong, .int v_wrongAt, .int v_spot, .int v_place, .int v_token, .int v_value, .ref a_cuts, .ref a_letters, .ref a_kinds, .ref a_holds, .ref a_reads, .int v_toldOnes, .int v_isBehind, .int v_readGames, .ref a_readFirst, .ref a_readSecond, .ref a_firsts, .ref a_seconds, .ref a_goes, .ref a_many, .int v_hasRule, .int v_hasSides, .ref a_force, .ref a_won, .ref a_sideAt, .ref a_placeOf, .ref a_chooser, .ref a_outs, .ref a_later, .ref a_payOf, .ref a_opens, .int v_open, .long v_sumUp, .long v_sumDown, .ref a_tree, .int v_pair, .int v_isPair, .long v_leaves, .int v_looked, .int v_wantedMany, .int v_wantedFirst, .int v_seed, .ref a_lastOnes, .ref a_firstOnes, .int v_widest, .ref a_lanes, .ref a_lengths, .ref a_cells, .int v_torn]))]) hP hD hS hA [] [0] [0] rfl rfl rfl (by decide) rfl rfl (va_runS (As := [.long ((x3 : Int32).toInt64), .long 0, .long 1]) (rest := []) ⟨hx, hb, hml, hown, hL⟩ (mX9_in l D cyI cyJ cyB cyS N H.size   ((x3 : Int32).toInt64) 0 1 q27 e27) (va_cwS 3 hL (gS (hR8 7 rfl) (hR8 8 rfl) (hR1 5 rfl) (hR8 9 rfl)) rfl rfl rfl (by decide +kernel) ⟨Nat.le_of_ble_eq_true rfl, Nat.le_of_ble_eq_true rfl⟩) (PP_preS hP hD hK [] rfl rfl) rfl rfl hl.1 rfl (lv_room (Nat.le_of_ble_eq_true rfl)) dX9_thumbs_27 ⟨Nat.le_of_ble_eq_true rfl, Nat.le_of_ble_eq_true rfl⟩) (fun H locs hP hD hS => ?_)
      refine lv_if_eq (tgt := 49) hx hb dX9_thumbs_30 (by decide) (fun c30 => ?_) (fun c30 => ?_)
      · have hf := pif_t c30 hf
        exact hB49 H locs ls hf hP hD hS (lv_sub hl [] rfl)
      · have hf := pif_f c30 hf
        refine lv_iload_n hx hb dX9_thumbs_33 rfl (lv_at hl 1 rfl) ?_
        refine lv_iload_n hx hb dX9_thumbs_34 rfl (lv_at hl 2 rfl) ?_
        obtain ⟨q35, e35, hf⟩ := pb_some hf
        refine cc_l (wc := []) (wr := [(h0, .inr (9, [.ref a_tape, .int v_taped, .int v_fault, .int v_wrong, .int v_wrongAt, .int v_spot, .int v_place, .int v_token, .int v_value, .ref a_cuts, .ref a_letters, .ref a_kinds, .ref a_holds, .ref a_reads, .int v_toldOnes, .int v_isBehind, .int v_readGames, .ref a_readFirst, .ref a_readSecond, .ref a_firsts, .ref a_seconds, .ref a_goes, .ref a_many, .int v_hasRule, .int v_hasSides, .ref a_force, .ref a_won, .ref a_sideAt, .ref a_placeOf, .ref a_chooser, .ref a_outs, .ref a_later, .ref a_payOf, .ref a_opens, .int v_open, .long v_sumUp, .long v_sumDown, .ref a_tree, .int v_pair, .int v_isPair, .long v_leaves, .int v_looked, .int v_wantedMany, .int v_wantedFirst, .int v_seed, .ref a_lastOnes, .ref a_firstOnes, .int v_widest, .ref a_lanes, .ref a_lengths, .ref a_cells, .int v_torn]))]) (w1 := []) (wn := [(h0, .inr (9, [.ref a_tape, .int v_taped, .int v_fault, .int v_wrong, .int v_wrongAt, .int v_spot, .int v_place, .int v_token, .int v_value, .ref a_cuts, .ref a_letters, .ref a_kinds, .ref a_holds, .ref a_reads, .int v_toldOnes, .int v_isBehind, .int v_readGames, .ref a_readFirst, .ref a_readSecond, .ref a_firsts, .ref a_seconds, .ref a_goes, .ref a_many, .int v_hasRule, .int v_hasSides, .ref a_force, .ref a_won, .ref a_sideAt, .ref a_placeOf, .ref a_chooser, .ref a_outs, .ref a_later, .ref a_payOf, .ref a_opens, .int v_open, .long v_sumUp, .long v_sumDown, .ref a_tree, .int v_pair, .int v_isPair, .long v_leaves, .int v_looked, .int v_wantedMany, .int v_wantedFirst, .int v_seed, .ref a_lastOnes, .ref a_firstOnes, .int v_widest, .ref a_lanes, .ref a_lengths, .ref a_cells, .int v_torn]))]) hP hD hS hA [] [0] [0] rfl rfl rfl (by decide) rfl rfl (va_runS (As := [.int x1, .int x2]) (rest := []) ⟨hx, hb, hml, hown, hL⟩ (mX9_thumbUp l D cyI cyJ cyB cyS N H.size   x1 x2 q35 e35) (va_cwS 2 hL (gS (hR45 16 rfl) (hR45 17 rfl) (hR1 5 rfl) (hR45 18 rfl)) rfl rfl rfl (by decide +kernel) ⟨Nat.le_of_ble_eq_true rfl, Nat.le_of_ble_eq_true rfl⟩) (PP_preS hP hD hK [] rfl rfl) rfl rfl hl.1 rfl (lv_room (Nat.le_of_ble_eq_true rfl)) dX9_thumbs_35 ⟨Nat.le_of_ble_eq_true rfl, Nat.le_of_ble_eq_true rfl⟩) (fun H locs hP hD hS => ?_)
        refine lv_iload_n hx hb dX9_thumbs_38 rfl (lv_at hl 1 rfl) ?_
        obtain ⟨q39, e39, hf⟩ := pb_some hf
        refine cc_l (wc := []) (wr := [(h0, .inr (9, [.ref a_tape, .int v_taped, .int v_fault, .int v_wrong, .int v_wrongAt, .int v_spot, .int v_place, .int v_token, .int v_value, .ref a_cuts, .ref a_letters, .ref a_kinds, .ref a_holds, .ref a_reads, .int v_toldOnes, .int v_isBehind, .int v_readGames, .ref a_readFirst, .ref a_readSecond, .ref a_firsts, .ref a_seconds, .ref a_goes, .ref a_many, .int v_hasRule, .int v_hasSides, .ref a_force, .ref a_won, .ref a_sideAt, .ref a_placeOf, .ref a_chooser, .ref a_outs, .ref a_later, .ref a_payOf, .ref a_opens, .int v_open, .long v_sumUp, .long v_sumDown, .ref a_tree, .int v_pair, .int v_isPair, .long v_leaves, .int v_looked, .int v_wantedMany, .int v_wantedFirst, .int v_seed, .ref a_lastOnes, .ref a_firstOnes, .int v_widest, .ref a_lanes, .ref a_lengths, .ref a_cells, .int v_torn]))]) (w1 := []) (wn := [(h0, .inr (9, [.ref a_tape, .int v_taped, .int v_fault, .int v_wrong, .int v_wrongAt, .int v_spot, .int v_place, .int v_token, .int v_value, .ref a_cuts, .ref a_letters, .ref a_kinds, .ref a_holds, .ref a_reads, .int v_toldOnes, .int v_isBehind, .int v_readGames, .ref a_readFirst, .ref a_readSecond, .ref a_firsts, .ref a_seconds, .ref a_goes, .ref a_many, .int v_hasRule, .int v_hasSides, .ref a_force, .ref a_won, .ref a_sideAt, .ref a_placeOf, .ref a_chooser, .ref a_outs, .ref a_later, .ref a_payOf, .ref a_opens, .int v_open, .long v_sumUp, .long v_sumDown, .ref a_tree, .int v_pair, .int v_isPair, .long v_leaves, .int v_looked, .int v_wantedMany, .int v_wantedFirst, .int v_seed, .ref a_lastOnes, .ref a_firstOnes, .int v_widest, .ref a_lanes, .ref a_lengths, .ref a_cells, .int v_torn]))]) hP hD hS hA [] [0] [0] rfl rfl rfl (by decide) rfl rfl (va_runS (As := [.int x1]) (rest := [.long q35]) ⟨hx, hb, hml, hown, hL⟩ (mX9_sixes l D cyI cyJ cyB cyS N H.size   x1 q39 e39) (va_cwS 1 hL (gS (hR45 20 rfl) (hR45 21 rfl) (hR1 5 rfl) (hR45 22 rfl)) rfl rfl rfl (by decide +kernel) ⟨Nat.le_of_ble_eq_true rfl, Nat.le_of_ble_eq_true rfl⟩) (PP_preS hP hD hK [] rfl rfl) rfl rfl hl.1 rfl (lv_room (Nat.le_of_ble_eq_true rfl)) dX9_thumbs_39 ⟨Nat.le_of_ble_eq_true rfl, Nat.le_of_ble_eq_true rfl⟩) (fun H locs hP hD hS => ?_)
        refine lv_iload_n hx hb dX9_thumbs_42 rfl (lv_at hl 3 rfl) ?_
        obtain ⟨q43, e43, hf⟩ := pb_some hf
        refine cc_l (wc := []) (wr := [(h0, .inr (9, [.ref a_tape, .int v_taped, .int v_fault, .int v_wrong, .int v_wrongAt, .int v_spot, .int v_place, .int v_token, .int v_value, .ref a_cuts, .ref a_letters, .ref a_kinds, .ref a_holds, .ref a_reads, .int v_toldOnes, .int v_isBehind, .int v_readGames, .ref a_readFirst, .ref a_readSecond, .ref a_firsts, .ref a_seconds, .ref a_goes, .ref a_many, .int v_hasRule, .int v_hasSides, .ref a_force, .ref a_won, .ref a_sideAt, .ref a_placeOf, .ref a_chooser, .ref a_outs, .ref a_later, .ref a_payOf, .ref a_opens, .int v_open, .long v_sumUp, .long v_sumDown, .ref a_tree, .int v_pair, .int v_isPair, .long v_leaves, .int v_looked, .int v_wantedMany, .int v_wantedFirst, .int v_seed, .ref a_lastOnes, .ref a_firstOnes, .int v_widest, .ref a_lanes, .ref a_lengths, .ref a_cells, .int v_torn]))]) (w1 := []) (wn := [(h0, .inr (9, [.ref a_tape, .int v_taped, .int v_fault, .int v_wrong, .int v_wrongAt, .int v_spot, .int v_place, .int v_token, .int v_value, .ref a_cuts, .ref a_letters, .ref a_kinds, .ref a_holds, .ref a_reads, .int v_toldOnes, .int v_isBehind, .int v_readGames, .ref a_readFirst, .ref a_readSecond, .ref a_firsts, .ref a_seconds, .ref a_goes, .ref a_many, .int v_hasRule, .int v_hasSides, .ref a_force, .ref a_won, .ref a_sideAt, .ref a_placeOf, .ref a_chooser, .ref a_outs, .ref a_later, .ref a_payOf, .ref a_opens, .int v_open, .long v_sumUp, .long v_sumDown, .ref a_tree, .int v_pair, .int v_isPair, .long v_leaves, .int v_looked, .int v_wantedMany, .int v_wantedFirst, .int v_seed, .ref a_lastOnes, .ref a_firstOnes, .int v_widest, .ref a_lanes, .ref a_lengths, .ref a_cells, .int v_torn]))]) hP hD hS hA [] [0] [0] rfl rfl rfl (by decide) rfl rfl (va_runS (As := [.long q35, .long q39, .int x3]) (rest := []) ⟨hx, hb, hml, hown, hL⟩ (mX9_lowest l D cyI cyJ cyB cyS N H.size   q35 q39 x3 q43 e43) (va_cwS 3 hL (gS (hR33 8 rfl) (hR33 9 rfl) (hR1 5 rfl) (hR33 10 rfl)) rfl rfl rfl (by decide +kernel) ⟨Nat.le_of_ble_eq_true rfl, Nat.le_of_ble_eq_true rfl⟩) (PP_preS hP hD hK [] rfl rfl) rfl rfl hl.1 rfl (lv_room (Nat.le_of_ble_eq_true rfl)) dX9_thumbs_43 ⟨Nat.le_of_ble_eq_true rfl, Nat.le_of_ble_eq_true rfl⟩) (fun H locs hP hD hS => ?_)
        refine lv_goto (tgt := 52) hx hb dX9_thumbs_46 (by decide) ?_
        exact hB52 q43 H locs ls hf hP hD hS (lv_sub hl [] rfl)
def fX9_fine_26 (N : Nat) (x1 : Int32) (x2 : Int32) : Option (Int32) := some (-1)
def fX9_fine_30 (N : Nat) (x1 : Int32) (x2 : Int32) : Nat → Int32 → Option (Int32)
  | 0, _ => none
  | n + 1, x3 => pif (x1 < x3) (some (-4)) (pb (fX9_thumbUp N x1 x3) (fun q37 => pb (fX9_sixes N x1) (fun q44 => pif (0 < (lg_cmp (q37 * ((x2 : Int32).toInt64)) q44)) ((fX9_fine_30 N x1 x2 n) (x3 + 1)) (some x3))))
def fX9_fine (N : Nat) (x1 : Int32) (x2 : Int32) : Option (Int32) := pb (fX9_in N ((x1 : Int32).toInt64) 1 20) (fun q6 => pif (q6 = 0) (fX9_fine_26 N x1 x2) (pb (fX9_in N ((x2 : Int32).toInt64) 2 1000) (fun q20 => pif (q20 = 0) (fX9_fine_26 N x1 x2) (fX9_fine_30 N x1 x2 N 0))))
abbrev rmX9_fine : Room := { frames := 1, cells := 0, slots := 0, locals := 27 }
set_option maxHeartbeats 40000000 in
set_option maxRecDepth 100000 in
theorem mX9_fine (l : Launch) (D : va_G) (cyI cyJ cyB cyS : ClassId) (N : Nat) (sz : Nat) (h0 : Nat) (a_tape : Nat) (a_cuts : Nat) (a_letters : Nat) (a_kinds : Nat) (a_holds : Nat) (a_reads : Nat) (a_readFirst : Nat) (a_readSecond : Nat) (a_firsts : Nat) (a_seconds : Nat) (a_goes : Nat) (a_many : Nat) (a_force : Nat) (a_won : Nat) (a_sideAt : Nat) (a_placeOf : Nat) (a_chooser : Nat) (a_outs : Nat) (a_later : Nat) (a_payOf : Nat) (a_opens : Nat) (a_tree : Nat) (a_lastOnes : Nat) (a_firstOnes : Nat) (a_lanes : Nat) (a_lengths : Nat) (a_cells : Nat) (v_taped : Int32) (v_fault : Int32) (v_wrong : Int32) (v_wrongAt : Int32) (v_spot : Int32) (v_place : Int32) (v_token : Int32) (v_value : Int32) (v_toldOnes : Int32) (v_isBehind : Int32) (v_readGames : Int32) (v_hasRule : Int32) (v_hasSides : Int32) (v_open : Int32) (v_sumUp : Int64) (v_sumDown : Int64) (v_pair : Int32) (v_isPair : Int32) (v_leaves : Int64) (v_looked : Int32) (v_wantedMany : Int32) (v_wantedFirst : Int32) (v_seed : Int32) (v_widest : Int32) (v_torn : Int32) (x1 : Int32) (x2 : Int32) (q : Int32) (hf : fX9_fine N x1 x2 = some q) : Met l yX9_fine (wS yX9_fine cX9_fine 4 (some .int)) rmX9_fine (va_Pc [.ref h0, .int x1, .int x2] (PP D cyI cyJ cyB cyS [(h0, .inr (9, [.ref a_tape, .int v_taped, .int v_fault, .int v_wrong, .int v_wrongAt, .int v_spot, .int v_place, .int v_token, .int v_value, .ref a_cuts, .ref a_letters, .ref a_kinds, .ref a_holds, .ref a_reads, .int v_toldOnes, .int v_isBehind, .int v_readGames, .ref a_readFirst, .ref a_readSecond, .ref a_firsts, .ref a_seconds, .ref a_goes, .ref a_many, .int v_hasRule, .int v_hasSides, .ref a_force, .ref a_won, .ref a_sideAt, .ref a_placeOf, .ref a_chooser, .ref a_outs, .ref a_later, .ref a_payOf, .ref a_opens, .int v_open, .long v_sumUp, .long v_sumDown, .ref a_tree, .int v_pair, .int v_isPair, .long v_leaves, .int v_looked, .int v_wantedMany, .int v_wantedFirst, .int v_seed, .ref a_lastOnes, .ref a_firstOnes, .int v_widest, .ref a_lanes, .ref a_lengths, .ref a_cells, .int v_torn]))] sz)) (QI q D [(h0, .inr (9, [.ref a_tape, .int v_taped, .int v_fault, .int v_wrong, .int v_wrongAt, .int v_spot, .int v_place, .int v_token, .int v_value, .ref a_cuts, .ref a_letters, .ref a_kinds, .ref a_holds, .ref a_reads, .int v_toldOnes, .int v_isBehind, .int v_readGames, .ref a_readFirst, .ref a_readSecond, .ref a_firsts, .ref a_seconds, .ref a_goes, .ref a_many, .int v_hasRule, .int v_hasSides, .ref a_force, .ref a_won, .ref a_sideAt, .ref a_placeOf, .ref a_chooser, .ref a_outs, .ref a_later, .ref a_payOf, .ref a_opens, .int v_open, .long v_sumUp, .long v_sumDown, .ref a_tree, .int v_pair, .int v_isPair, .long v_leaves, .int v_looked, .int v_wantedMany, .int v_wantedFirst, .int v_seed, .ref a_lastOnes, .ref a_firstOnes, .int v_widest, .ref a_lanes, .ref a_lengths, .ref a_cells, .int v_torn]))] (va_A [(h0, .inr (9, [.ref a_tape, .int v_taped, .int v_fault, .int v_wrong, .int v_wrongAt, .int v_spot, .int v_place, .int v_token, .int v_value, .ref a_cuts, .ref a_letters, .ref a_kinds, .ref a_holds, .ref a_reads, .int v_toldOnes, .int v_isBehind, .int v_readGames, .ref a_readFirst, .ref a_readSecond, .ref a_firsts, .ref a_seconds, .ref a_goes, .ref a_many, .int v_hasRule, .int v_hasSides, .ref a_force, .ref a_won, .ref a_sideAt, .ref a_placeOf, .ref a_chooser, .ref a_outs, .ref a_later, .ref a_payOf, .ref a_opens, .int v_open, .long v_sumUp, .long v_sumDown, .ref a_tree, .int v_pair, .int v_isPair, .long v_leaves, .int v_looked, .int v_wantedMany, .int v_wantedFirst, .int v_seed, .ref a_lastOnes, .ref a_firstOnes, .int v_widest, .ref a_lanes, .ref a_lengths, .ref a_cells, .int v_torn]))] sz)) 0 0 (va_A [(h0, .inr (9, [.ref a_tape, .int v_taped, .int v_fault, .int v_wrong, .int v_wrongAt, .int v_spot, .int v_place, .int v_token, .int v_value, .ref a_cuts, .ref a_letters, .ref a_kinds, .ref a_holds, .ref a_reads, .int v_toldOnes, .int v_isBehind, .int v_readGames, .ref a_readFirst, .ref a_readSecond, .ref a_firsts, .ref a_seconds, .ref a_goes, .ref a_many, .int v_hasRule, .int v_hasSides, .ref a_force, .ref a_won, .ref a_sideAt, .ref a_placeOf, .ref a_chooser, .ref a_outs, .ref a_later, .ref a_payOf, .ref a_opens, .int v_open, .long v_sumUp, .long v_sumDown, .ref a_tree, .int v_pair, .int v_isPair, .long v_leaves, .int v_looked, .int v_wantedMany, .int v_wantedFirst, .int v_seed, .ref a_lastOnes, .ref a_firstOnes, .int v_widest, .ref a_lanes, .ref a_lengths, .ref a_cells, .int v_torn]))] sz) := by
  refine Met.ofW (cc := cX9_fine) (maxL := 4) (ret := (some .int)) (by decide) rfl ?_
  intro p e s m args below meth c s₁ B hml hv
  obtain ⟨rfl, hsz, hP, hK, hD0⟩ := hv
  have hx := B.exec
  have hb := B.bytes
  have hr := B.returns
  have hts := atoms_spec (ws := (wS yX9_fine cX9_fine 4 (some .int))) B.pre
  have hown : s.vm.findClass RX9 = some m.cls := findClass_of_methodNamed B.named
  have hlocks := B.notSynchronized
  subst hsz
  have hD := hD0.self (sz := s.heap.size)
  refine w_nameQ (fun Q hQ => ?_)
  have hl := lv_entry ([.ref h0, .int x1, .int x2] : List Value) (n := 4) (Nat.le_of_ble_eq_true rfl)
  rw [lg_entry_eq]
  generalize (lg_sl ([.ref h0, .int x1, .int x2] : List Value) ++ List.replicate (4 - (lg_sl ([.ref h0, .int x1, .int x2] : List Value)).length) Slot.unset).toArray = ls at hl ⊢
  have hl : lv_has ls 4 [(0, .ref h0), (1, .int x1), (2, .int x2)] := hl
  generalize hAe : va_A [(h0, .inr (9, [.ref a_tape, .int v_taped, .int v_fault, .int v_wrong, .int v_wrongAt, .int v_spot, .int v_place, .int v_token, .int v_value, .ref a_cuts, .ref a_letters, .ref a_kinds, .ref a_holds, .ref a_reads, .int v_toldOnes, .int v_isBehind, .int v_readGames, .ref a_readFirst, .ref a_readSecond, .ref a_firsts, .ref a_seconds, .ref a_goes, .ref a_many, .int v_hasRule, .int v_hasSides, .ref a_force, .ref a_won, .ref a_sideAt, .ref a_placeOf, .ref a_chooser, .ref a_outs, .ref a_later, .ref a_payOf, .ref a_opens, .int v_open, .long v_sumUp, .long v_sumDown, .ref a_tree, .int v_pair, .int v_isPair, .long v_leaves, .int v_looked, .int v_wantedMany, .int v_wantedFirst, .int v_seed, .ref a_lastOnes, .ref a_firstOnes, .int v_widest, .ref a_lanes, .ref a_lengths, .ref a_cells, .int v_torn]))] s.heap.size = A at hD hQ
  have hA : ∀ q : Nat, s.heap.size ≤ q → A q := fun q h => by rw [← hAe]; exact Or.inr h
  have hS : va_S A s.heap s.heap [] := va_S.rf
  generalize ([.ref h0, .int x1, .int x2] : List Value).toArray = av at hts hQ ⊢
  have hL : ∀ w ∈ wsL_law, w.before av s = true := fun w h => hts w (List.mem_cons_of_mem _ h)
  have w0 := hL (.static yX9_thumbUp) (hR45 17 rfl)
  have w1 := hL (.static yX9_sixes) (hR45 21 rfl)
  have w2 := hL (.constantLong RX9 342 20) (hR45 15 rfl)
  have w3 := hL (.static yX9_in) (hR8 8 rfl)
  have w4 := hL (.constantLong RX9 196 2) (hR22 10 rfl)
  have w5 := hL (.constantLong RX9 351 1000) (hR46 8 rfl)
  have hB26 : ∀ (H : Heap) (locs : List Loc) (ls : Array Slot), fX9_fine_26 N x1 x2 = some q → va_P D vwCl [(h0, .inr (9, [.ref a_tape, .int v_taped, .int v_fault, .int v_wrong, .int v_wrongAt, .int v_spot, .int v_place, .int v_token, .int v_value, .ref a_cuts, .ref a_letters, .ref a_kinds, .ref a_holds, .ref a_reads, .int v_toldOnes, .int v_isBehind, .int v_readGames, .ref a_readFirst, .ref a_readSecond, .ref a_firsts, .ref a_seconds, .ref a_goes, .ref a_many, .int v_hasRule, .int v_hasSides, .ref a_force, .ref a_won, .ref a_sideAt, .ref a_placeOf, .ref a_chooser, .ref a_outs, .ref a_later, .ref a_payOf, .ref a_opens, .int v_open, .long v_sumUp, .long v_sumDown, .ref a_tree, .int v_pair, .int v_isPair, .long v_leaves, .int v_looked, .int v_wantedMany, .int v_wantedFirst, .int v_seed, .ref a_lastOnes, .ref a_firstOnes, .int v_widest, .ref a_lanes, .ref a_lengths, .ref a_cells, .int v_torn]))] H → va_D A [(h0, .inr (9, [.ref a_tape, .int v_taped, .int v_fault, .int v_wrong, .int v_wrongAt, .int v_spot, .int v_place, .int v_token, .int v_value, .ref a_cuts, .ref a_letters, .ref a_kinds, .ref a_holds, .ref a_reads, .int v_toldOnes, .int v_isBehind, .int v_readGames, .ref a_readFirst, .ref a_readSecond, .ref a_firsts, .ref a_seconds, .ref a_goes, .ref a_many, .int v_hasRule, .int v_hasSides, .ref a_force, .ref a_won, .ref a_sideAt, .ref a_placeOf, .ref a_chooser, .ref a_outs, .ref a_later, .ref a_payOf, .ref a_opens, .int v_open, .long v_sumUp, .long v_sumDown, .ref a_tree, .int v_pair, .int v_isPair, .long v_leaves, .int v_looked, .int v_wantedMany, .int v_wantedFirst, .int v_seed, .ref a_lastOnes, .ref a_firstOnes, .int v_widest, .ref a_lanes, .ref a_lengths, .ref a_cells, .int v_torn]))] → va_S A s.heap H locs → lv_has ls 4 [] → W p l e rmX9_fine s m av below meth c H locs 0 0 Q (F0 m 26 ls []) := by
    intro  H locs ls hf hP hD hS hl
    unfold fX9_fine_26 at hf
    refine lv_iconst (v := (-1)) hx hb dX9_fine_26 (by decide) ?_
    exact ret_i (q := q) (g := fun q => q) (wp := fun q => [(h0, .inr (9, [.ref a_tape, .int v_taped, .int v_fault, .int v_wrong, .int v_wrongAt, .int v_spot, .int v_place, .int v_token, .int v_value, .ref a_cuts, .ref a_letters, .ref a_kinds, .ref a_holds, .ref a_reads, .int v_toldOnes, .int v_isBehind, .int v_readGames, .ref a_readFirst, .ref a_readSecond, .ref a_firsts, .ref a_seconds, .ref a_goes, .ref a_many, .int v_hasRule, .int v_hasSides, .ref a_force, .ref a_won, .ref a_sideAt, .ref a_placeOf, .ref a_chooser, .ref a_outs, .ref a_later, .ref a_payOf, .ref a_opens, .int v_open, .long v_sumUp, .long v_sumDown, .ref a_tree, .int v_pair, .int v_isPair, .long v_leaves, .int v_looked, .int v_wantedMany, .int v_wantedFirst, .int v_seed, .ref a_lastOnes, .ref a_firstOnes, .int v_widest, .ref a_lanes, .ref a_lengths, .ref a_cells, .int v_torn]))]) hQ hf hx hb hr hlocks hP hD hS dX9_fine_27 rfl
  have hB30 : ∀ (n : Nat), ∀ (x3 : Int32) (H : Heap) (locs : List Loc) (ls : Array Slot), fX9_fine_30 N x1 x2 n x3 = some q → va_P D vwCl [(h0, .inr (9, [.ref a_tape, .int v_taped, .int v_fault, .int v_wrong, .int v_wrongAt, .int v_spot, .int v_place, .int v_token, .int v_value, .ref a_cuts, .ref a_letters, .ref a_kinds, .ref a_holds, .ref a_reads, .int v_toldOnes, .int v_isBehind, .int v_readGames, .ref a_readFirst, .ref a_readSecond, .ref a_firsts, .ref a_seconds, .ref a_goes, .ref a_many, .int v_hasRule, .int v_hasSides, .ref a_force, .ref a_won, .ref a_sideAt, .ref a_placeOf, .ref a_chooser, .ref a_outs, .ref a_later, .ref a_payOf, .ref a_opens, .int v_open, .long v_sumUp, .long v_sumDown, .ref a_tree, .int v_pair, .int v_isPair, .long v_leaves, .int v_looked, .int v_wantedMany, .int v_wantedFirst, .int v_seed, .ref a_lastOnes, .ref a_firstOnes, .int v_widest, .ref a_lanes, .ref a_lengths, .ref a_cells, .int v_torn]))] H → va_D A [(h0, .inr (9, [.ref a_tape, .int v_taped, .int v_fault, .int v_wrong, .int v_wrongAt, .int v_spot, .int v_place, .int v_token, .int v_value, .ref a_cuts, .ref a_letters, .ref a_kinds, .ref a_holds, .ref a_reads, .int v_toldOnes, .int v_isBehind, .int v_readGames, .ref a_readFirst, .ref a_readSecond, .ref a_firsts, .ref a_seconds, .ref a_goes, .ref a_many, .int v_hasRule, .int v_hasSides, .ref a_force, .ref a_won, .ref a_sideAt, .ref a_placeOf, .ref a_chooser, .ref a_outs, .ref a_later, .ref a_payOf, .ref a_opens, .int v_open, .long v_sumUp, .long v_sumDown, .ref a_tree, .int v_pair, .int v_isPair, .long v_leaves, .int v_looked, .int v_wantedMany, .int v_wantedFirst, .int v_seed, .ref a_lastOnes, .ref a_firstOnes, .int v_widest, .ref a_lanes, .ref a_lengths, .ref a_cells, .int v_torn]))] → va_S A s.heap H locs → lv_has ls 4 [(1, .int x1), (2, .int x2), (3, .int x3)] → W p l e rmX9_fine s m av below meth c H locs 0 0 Q (F0 m 30 ls []) := by
    intro n
    induction n with
    | zero => intro x3 H locs ls hf; exact absurd hf (by simp [fX9_fine_30])
    | succ n hk30 =>
      intro x3 H locs ls hf hP hD hS hl
      rw [fX9_fine_30] at hf
      refine lv_iload_n hx hb dX9_fine_30 rfl (lv_at hl 2 rfl) ?_
      refine lv_iload_n hx hb dX9_fine_31 rfl (lv_at hl 0 rfl) ?_
      refine lv_icmp_gt (tgt := 59) hx hb dX9_fine_32 (by decide) (fun c32 => ?_) (fun c32 => ?_)
      · have hf := pif_t c32 hf
        refine lv_bipush (v := (-4)) hx hb dX9_fine_59 (by decide) ?_
        exact ret_i (q := q) (g := fun q => q) (wp := fun q => [(h0, .inr (9, [.ref a_tape, .int v_taped, .int v_fault, .int v_wrong, .int v_wrongAt, .int v_spot, .int v_place, .int v_token, .int v_value, .ref a_cuts, .ref a_letters, .ref a_kinds, .ref a_holds, .ref a_reads, .int v_toldOnes, .int v_isBehind, .int v_readGames, .ref a_readFirst, .ref a_readSecond, .ref a_firsts, .ref a_seconds, .ref a_goes, .ref a_many, .int v_hasRule, .int v_hasSides, .ref a_force, .ref a_won, .ref a_sideAt, .ref a_placeOf, .ref a_chooser, .ref a_outs, .ref a_later, .ref a_payOf, .ref a_opens, .int v_open, .long v_sumUp, .long v_sumDown, .ref a_tree, .int v_pair, .int v_isPair, .long v_leaves, .int v_looked, .int v_wantedMany, .int v_wantedFirst, .int v_seed, .ref a_lastOnes, .ref a_firstOnes, .int v_widest, .ref a_lanes, .ref a_lengths, .ref a_cells, .int v_torn]))]) hQ hf hx hb hr hlocks hP hD hS dX9_fine_61 rfl
      · have hf := pif_f c32 hf
        refine lv_iload_n hx hb dX9_fine_35 rfl (lv_at hl 0 rfl) ?_
        refine lv_iload_n hx hb dX9_fine_36 rfl (lv_at hl 2 rfl) ?_
        obtain ⟨q37, e37, hf⟩ := pb_some hf
        refine cc_l (wc := []) (wr := [(h0, .inr (9, [.ref a_tape, .int v_taped, .int v_fault, .int v_wrong, .int v_wrongAt, .int v_spot, .int v_place, .int v_token, .int v_value, .ref a_cuts, .ref a_letters, .ref a_kinds, .ref a_holds, .ref a_reads, .int v_toldOnes, .int v_isBehind, .int v_readGames, .ref a_readFirst, .ref a_readSecond, .ref a_firsts, .ref a_seconds, .ref a_goes, .ref a_many, .int v_hasRule, .int v_hasSides, .ref a_force, .ref a_won, .ref a_sideAt, .ref a_placeOf, .ref a_chooser, .ref a_outs, .ref a_later, .ref a_payOf, .ref a_opens, .int v_open, .long v_sumUp, .long v_sumDown, .ref a_tree, .int v_pair, .int v_isPair, .long v_leaves, .int v_looked, .int v_wantedMany, .int v_wantedFirst, .int v_seed, .ref a_lastOnes, .ref a_firstOnes, .int v_widest, .ref a_lanes, .ref a_lengths, .ref a_cells, .int v_torn]))]) (w1 := []) (wn := [(h0, .inr (9, [.ref a_tape, .int v_taped, .int v_fault, .int v_wrong, .int v_wrongAt, .int v_spot, .int v_place, .int v_token, .int v_value, .ref a_cuts, .ref a_letters, .ref a_kinds, .ref a_holds, .ref a_reads, .int v_toldOnes, .int v_isBehind, .int v_readGames, .ref a_readFirst, .ref a_readSecond, .ref a_firsts, .ref a_seconds, .ref a_goes, .ref a_many, .int v_hasRule, .int v_hasSides, .ref a_force, .ref a_won, .ref a_sideAt, .ref a_placeOf, .ref a_chooser, .ref a_outs, .ref a_later, .ref a_payOf, .ref a_opens, .int v_open, .long v_sumUp, .long v_sumDown, .ref a_tree, .int v_pair, .int v_isPair, .long v_leaves, .int v_looked, .int v_wantedMany, .int v_wantedFirst, .int v_seed, .ref a_lastOnes, .ref a_firstOnes, .int v_widest, .ref a_lanes, .ref a_lengths, .ref a_cells, .int v_torn]))]) hP hD hS hA [] [0] [0] rfl rfl rfl (by decide) rfl rfl (va_runS (As := [.int x1, .int x3]) (rest := []) ⟨hx, hb, hml, hown, hL⟩ (mX9_thumbUp l D cyI cyJ cyB cyS N H.size   x1 x3 q37 e37) (va_cwS 2 hL (gS (hR45 16 rfl) (hR45 17 rfl) (hR1 5 rfl) (hR45 18 rfl)) rfl rfl rfl (by decide +kernel) ⟨Nat.le_of_ble_eq_true rfl, Nat.le_of_ble_eq_true rfl⟩) (PP_preS hP hD hK [] rfl rfl) rfl rfl hl.1 rfl (lv_room (Nat.le_of_ble_eq_true rfl)) dX9_fine_37 ⟨Nat.le_of_ble_eq_true rfl, Nat.le_of_ble_eq_true rfl⟩) (fun H locs hP hD hS => ?_)
        refine lv_iload_n hx hb dX9_fine_40 rfl (lv_at hl 1 rfl) ?_
        refine lv_i2l hx hb dX9_fine_41 rfl ?_
        refine lv_lmul hx hb dX9_fine_42 ?_
        refine lv_iload_n hx hb dX9_fine_43 rfl (lv_at hl 0 rfl) ?_
        obtain ⟨q44, e44, hf⟩ := pb_some hf
        refine cc_l (wc := []) (wr := [(h0, .inr (9, [.ref a_tape, .int v_taped, .int v_fault, .int v_wrong, .int v_wrongAt, .int v_spot, .int v_place, .int v_token, .int v_value, .ref a_cuts, .ref a_letters, .ref a_kinds, .ref a_holds, .ref a_reads, .int v_toldOnes, .int v_isBehind, .int v_readGames, .ref a_readFirst, .ref a_readSecond, .ref a_firsts, .ref a_seconds, .ref a_goes, .ref a_many, .int v_hasRule, .int v_hasSides, .ref a_force, .ref a_won, .ref a_sideAt, .ref a_placeOf, .ref a_chooser, .ref a_outs, .ref a_later, .ref a_payOf, .ref a_opens, .int v_open, .long v_sumUp, .long v_sumDown, .ref a_tree, .int v_pair, .int v_isPair, .long v_leaves, .int v_looked, .int v_wantedMany, .int v_wantedFirst, .int v_seed, .ref a_lastOnes, .ref a_firstOnes, .int v_widest, .ref a_lanes, .ref a_lengths, .ref a_cells, .int v_torn]))]) (w1 := []) (wn := [(h0, .inr (9, [.ref a_tape, .int v_taped, .int v_fault, .int v_wrong, .int v_wrongAt, .int v_spot, .int v_place, .int v_token, .int v_value, .ref a_cuts, .ref a_letters, .ref a_kinds, .ref a_holds, .ref a_reads, .int v_toldOnes, .int v_isBehind, .int v_readGames, .ref a_readFirst, .ref a_readSecond, .ref a_firsts, .ref a_seconds, .ref a_goes, .ref a_many, .int v_hasRule, .int v_hasSides, .ref a_force, .ref a_won, .ref a_sideAt, .ref a_placeOf, .ref a_chooser, .ref a_outs, .ref a_later, .ref a_payOf, .ref a_opens, .int v_open, .long v_sumUp, .long v_sumDown, .ref a_tree, .int v_pair, .int v_isPair, .long v_leaves, .int v_looked, .int v_wantedMany, .int v_wantedFirst, .int v_seed, .ref a_lastOnes, .ref a_firstOnes, .int v_widest, .ref a_lanes, .ref a_lengths, .ref a_cells, .int v_torn]))]) hP hD hS hA [] [0] [0] rfl rfl rfl (by decide) rfl rfl (va_runS (As := [.int x1]) (rest := [.long (q37 * ((x2 : Int32).toInt64))]) ⟨hx, hb, hml, hown, hL⟩ (mX9_sixes l D cyI cyJ cyB cyS N H.size   x1 q44 e44) (va_cwS 1 hL (gS (hR45 20 rfl) (hR45 21 rfl) (hR1 5 rfl) (hR45 22 rfl)) rfl rfl rfl (by decide +kernel) ⟨Nat.le_of_ble_eq_true rfl, Nat.le_of_ble_eq_true rfl⟩) (PP_preS hP hD hK [] rfl rfl) rfl rfl hl.1 rfl (lv_room (Nat.le_of_ble_eq_true rfl)) dX9_fine_44 ⟨Nat.le_of_ble_eq_true rfl, Nat.le_of_ble_eq_true rfl⟩) (fun H locs hP hD hS => ?_)
        refine W.lcmp hx hb dX9_fine_47 ?_
        refine lv_if_gt (tgt := 53) hx hb dX9_fine_48 (by decide) (fun c48 => ?_) (fun c48 => ?_)
        · have hf := pif_t c48 hf
          refine lv_iinc (v := x3 + 1) (lv' := [(3, .int (x3 + 1)), (1, .int x1), (2, .int x2)]) hx hb dX9_fine_53 hl (k := 2) rfl rfl (by decide) rfl (fun ls hl => ?_)
          refine lv_goto (tgt := 30) hx hb dX9_fine_56 (by decide) ?_
          exact hk30 (x3 + 1) H locs ls hf hP hD hS (lv_sub hl [1, 2, 0] rfl)
        · have hf := pif_f c48 hf
          refine lv_iload_n hx hb dX9_fine_51 rfl (lv_at hl 2 rfl) ?_
          exact ret_i (q := q) (g := fun q => q) (wp := fun q => [(h0, .inr (9, [.ref a_tape, .int v_taped, .int v_fault, .int v_wrong, .int v_wrongAt, .int v_spot, .int v_place, .int v_token, .int v_value, .ref a_cuts, .ref a_letters, .ref a_kinds, .ref a_holds, .ref a_reads, .int v_toldOnes, .int v_isBehind, .int v_readGames, .ref a_readFirst, .ref a_readSecond, .ref a_firsts, .ref a_seconds, .ref a_goes, .ref a_many, .int v_hasRule, .int v_hasSides, .ref a_force, .ref a_won, .ref a_sideAt, .ref a_placeOf, .ref a_chooser, .ref a_outs, .ref a_later, .ref a_payOf, .ref a_opens, .int v_open, .long v_sumUp, .long v_sumDown, .ref a_tree, .int v_pair, .int v_isPair, .long v_leaves, .int v_looked, .int v_wantedMany, .int v_wantedFirst, .int v_seed, .ref a_lastOnes, .ref a_firstOnes, .int v_widest, .ref a_lanes, .ref a_lengths, .ref a_cells, .int v_torn]))]) hQ hf hx hb hr hlocks hP hD hS dX9_fine_52 rfl
  unfold fX9_fine at hf
  obtain ⟨H, hH⟩ : ∃ H : Heap, H = s.heap := ⟨_, rfl⟩
  obtain ⟨locs, hlo⟩ : ∃ locs : List Loc, locs = [] := ⟨_, rfl⟩
  have hP : va_P D vwCl [(h0, .inr (9, [.ref a_tape, .int v_taped, .int v_fault, .int v_wrong, .int v_wrongAt, .int v_spot, .int v_place, .int v_token, .int v_value, .ref a_cuts, .ref a_letters, .ref a_kinds, .ref a_holds, .ref a_reads, .int v_toldOnes, .int v_isBehind, .int v_readGames, .ref a_readFirst, .ref a_readSecond, .ref a_firsts, .ref a_seconds, .ref a_goes, .ref a_many, .int v_hasRule, .int v_hasSides, .ref a_force, .ref a_won, .ref a_sideAt, .ref a_placeOf, .ref a_chooser, .ref a_outs, .ref a_later, .ref a_payOf, .ref a_opens, .int v_open, .long v_sumUp, .long v_sumDown, .ref a_tree, .int v_pair, .int v_isPair, .long v_leaves, .int v_looked, .int v_wantedMany, .int v_wantedFirst, .int v_seed, .ref a_lastOnes, .ref a_firstOnes, .int v_widest, .ref a_lanes, .ref a_lengths, .ref a_cells, .int v_torn]))] H := by rw [hH]; exact hP
  have hS : va_S A s.heap H locs := by rw [hH, hlo]; exact hS
  suffices hw : W p l e rmX9_fine s m av below meth c H locs 0 0 Q (F0 m 0 ls []) by rw [hH, hlo] at hw; exact hw
  refine lv_iload_n hx hb dX9_fine_0 rfl (lv_at hl 1 rfl) ?_
  refine lv_i2l hx hb dX9_fine_1 rfl ?_
  refine lv_lconst (v := 1) hx hb dX9_fine_2 (by decide) ?_
  refine lv_ldc2 (v := 20) hx hb hown w2 dX9_fine_3 ?_
  obtain ⟨q6, e6, hf⟩ := pb_some hf
  refine cc_i (wc := []) (wr := [(h0, .inr (9, [.ref a_tape, .int v_taped, .int v_fault, .int v_wrong, .int v_wrongAt, .int v_spot, .int v_place, .int v_token, .int v_value, .ref a_cuts, .ref a_letters, .ref a_kinds, .ref a_holds, .ref a_reads, .int v_toldOnes, .int v_isBehind, .int v_readGames, .ref a_readFirst, .ref a_readSecond, .ref a_firsts, .ref a_seconds, .ref a_goes, .ref a_many, .int v_hasRule, .int v_hasSides, .ref a_force, .ref a_won, .ref a_sideAt, .ref a_placeOf, .ref a_chooser, .ref a_outs, .ref a_later, .ref a_payOf, .ref a_opens, .int v_open, .long v_sumUp, .long v_sumDown, .ref a_tree, .int v_pair, .int v_isPair, .long v_leaves, .int v_looked, .int v_wantedMany, .int v_wantedFirst, .int v_seed, .ref a_lastOnes, .ref a_firstOnes, .int v_widest, .ref a_lanes, .ref a_lengths, .ref a_cells, .int v_torn]))]) (w1 := []) (wn := [(h0, .inr (9, [.ref a_tape, .int v_taped, .int v_fault, .int v_wrong, .int v_wrongAt, .int v_spot, .int v_place, .int v_token, .int v_value, .ref a_cuts, .ref a_letters, .ref a_kinds, .ref a_holds, .ref a_reads, .int v_toldOnes, .int v_isBehind, .int v_readGames, .ref a_readFirst, .ref a_readSecond, .ref a_firsts, .ref a_seconds, .ref a_goes, .ref a_many, .int v_hasRule, .int v_hasSides, .ref a_force, .ref a_won, .ref a_sideAt, .ref a_placeOf, .ref a_chooser, .ref a_outs, .ref a_later, .ref a_payOf, .ref a_opens, .int v_open, .long v_sumUp, .long v_sumDown, .ref a_tree, .int v_pair, .int v_isPair, .long v_leaves, .int v_looked, .int v_wantedMany, .int v_wantedFirst, .int v_seed, .ref a_lastOnes, .ref a_firstOnes, .int v_widest, .ref a_lanes, .ref a_lengths, .ref a_cells, .int v_torn]))]) hP hD hS hA [] [0] [0] rfl rfl rfl (by decide) rfl rfl (va_runS (As := [.long ((x1 : Int32).toInt64), .long 1, .long 20]) (rest := []) ⟨hx, hb, hml, hown, hL⟩ (mX9_in l D cyI cyJ cyB cyS N H.size   ((x1 : Int32).toInt64) 1 20 q6 e6) (va_cwS 3 hL (gS (hR8 7 rfl) (hR8 8 rfl) (hR1 5 rfl) (hR8 9 rfl)) rfl rfl rfl (by decide +kernel) ⟨Nat.le_of_ble_eq_true rfl, Nat.le_of_ble_eq_true rfl⟩) (PP_preS hP hD hK [] rfl rfl) rfl rfl hl.1 rfl (lv_room (Nat.le_of_ble_eq_true rfl)) dX9_fine_6 ⟨Nat.le_of_ble_eq_true rfl, Nat.le_of_ble_eq_true rfl⟩) (fun H locs hP hD hS => ?_)
  refine lv_if_eq (tgt := 26) hx hb dX9_fine_9 (by decide) (fun c9 => ?_) (fun c9 => ?_)
  · have hf := pif_t c9 hf
    exact hB26 H locs ls hf hP hD hS (lv_sub hl [] rfl)
  · have hf := pif_f c9 hf
    refine lv_iload_n hx hb dX9_fine_12 rfl (lv_at hl 2 rfl) ?_
    refine lv_i2l hx hb dX9_fine_13 rfl ?_
    refine lv_ldc2 (v := 2) hx hb hown w4 dX9_fine_14 ?_
    refine lv_ldc2 (v := 1000) hx hb hown w5 dX9_fine_17 ?_
    obtain ⟨q20, e20, hf⟩ := pb_some hf
    refine cc_i (wc := []) (wr := [(h0, .inr (9, [.ref a_tape, .int v_taped, .int v_fault, .int v_wrong, .int v_wrongAt, .int v_spot, .int v_place, .int v_token, .int v_value, .ref a_cuts, .ref a_letters, .ref a_kinds, .ref a_holds, .ref a_reads, .int v_toldOnes, .int v_isBehind, .int v_readGames, .ref a_readFirst, .ref a_readSecond, .ref a_firsts, .ref a_seconds, .ref a_goes, .ref a_many, .int v_hasRule, .int v_hasSides, .ref a_force, .ref a_won, .ref a_sideAt, .ref a_placeOf, .ref a_chooser, .ref a_outs, .ref a_later, .ref a_payOf, .ref a_opens, .int v_open, .long v_sumUp, .long v_sumDown, .ref a_tree, .int v_pair, .int v_isPair, .long v_leaves, .int v_looked, .int v_wantedMany, .int v_wantedFirst, .int v_seed, .ref a_lastOnes, .ref a_firstOnes, .int v_widest, .ref a_lanes, .ref a_lengths, .ref a_cells, .int v_torn]))]) (w1 := []) (wn := [(h0, .inr (9, [.ref a_tape, .int v_taped, .int v_fault, .int v_wrong, .int v_wrongAt, .int v_spot, .int v_place, .int v_token, .int v_value, .ref a_cuts, .ref a_letters, .ref a_kinds, .ref a_holds, .ref a_reads, .int v_toldOnes, .int v_isBehind, .int v_readGames, .ref a_readFirst, .ref a_readSecond, .ref a_firsts, .ref a_seconds, .ref a_goes, .ref a_many, .int v_hasRule, .int v_hasSides, .ref a_force, .ref a_won, .ref a_sideAt, .ref a_placeOf, .ref a_chooser, .ref a_outs, .ref a_later, .ref a_payOf, .ref a_opens, .int v_open, .long v_sumUp, .long v_sumDown, .ref a_tree, .int v_pair, .int v_isPair, .long v_leaves, .int v_looked, .int v_wantedMany, .int v_wantedFirst, .int v_seed, .ref a_lastOnes, .ref a_firstOnes, .int v_widest, .ref a_lanes, .ref a_lengths, .ref a_cells, .int v_torn]))]) hP hD hS hA [] [0] [0] rfl rfl rfl (by decide) rfl rfl (va_runS (As := [.long ((x2 : Int32).toInt64), .long 2, .long 1000]) (rest := []) ⟨hx, hb, hml, hown, hL⟩ (mX9_in l D cyI cyJ cyB cyS N H.size   ((x2 : Int32).toInt64) 2 1000 q20 e20) (va_cwS 3 hL (gS (hR8 7 rfl) (hR8 8 rfl) (hR1 5 rfl) (hR8 9 rfl)) rfl rfl rfl (by decide +kernel) ⟨Nat.le_of_ble_eq_true rfl, Nat.le_of_ble_eq_true rfl⟩) (PP_preS hP hD hK [] rfl rfl) rfl rfl hl.1 rfl (lv_room (Nat.le_of_ble_eq_true rfl)) dX9_fine_20 ⟨Nat.le_of_ble_eq_true rfl, Nat.le_of_ble_eq_true rfl⟩) (fun H locs hP hD hS => ?_)
    refine lv_if_ne (tgt := 28) hx hb dX9_fine_23 (by decide) (fun c23 => ?_) (fun c23 => ?_)
    · have hf := pif_f c23 hf
      refine lv_iconst (v := 0) hx hb dX9_fine_28 (by decide) ?_
      refine lv_istore_n (lv' := [(3, .int 0), (0, .ref h0), (1, .int x1), (2, .int x2)]) hx hb dX9_fine_29 rfl hl (by decide) rfl (fun ls hl => ?_)
      exact hB30 N 0 H locs ls hf hP hD hS (lv_sub hl [2, 3, 0] rfl)
    · have hf := pif_t c23 hf
      exact hB26 H locs ls hf hP hD hS (lv_sub hl [] rfl)
