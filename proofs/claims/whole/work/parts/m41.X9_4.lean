abbrev rmX9_layPays : Room := { frames := 4, cells := 0, slots := 0, locals := 98 }
set_option maxHeartbeats 40000000 in
set_option maxRecDepth 100000 in
theorem mX9_layPays (l : Launch) (D : va_G) (cyI cyJ cyB cyS : ClassId) (N : Nat) (sz : Nat) (a9 : Nat → Nat) (i9 : Nat → Int32) (g9 : Nat → Int64) (c_chooser : Nat → Int32) (c_firsts : Nat → Int32) (c_goes : Nat → Int32) (c_holds : Nat → Int32) (c_later : Nat → Int32) (c_many : Nat → Int32) (c_outs : Nat → Int32) (c_payOf : Nat → Int32) (c_placeOf : Nat → Int32) (c_seconds : Nat → Int32) (c_sideAt : Nat → Int32) (c_won : Nat → Int32) (q : (Nat → Int32) × (Nat → Int32) × (Nat → Int32) × (Nat → Int32) × (Nat → Int32) × (Nat → Int32) × (Nat → Int32)) (hf : fX9_layPays N c_chooser c_firsts c_goes c_holds c_later c_many c_outs c_payOf c_placeOf c_seconds c_sideAt c_won = some q) : Met l yX9_layPays (wS yX9_layPays cX9_layPays 4 none) rmX9_layPays (va_Pc [.ref (a9 0)] (PP D cyI cyJ cyB cyS [(a9 0, .inr (9, fl9 a9 i9 g9)), ((a9 17), .inl (cyI, 6, .inl c_chooser)), ((a9 9), .inl (cyI, 60, .inl c_firsts)), ((a9 11), .inl (cyI, 60, .inl c_goes)), ((a9 5), .inl (cyI, 32, .inl c_holds)), ((a9 19), .inl (cyI, 6, .inl c_later)), ((a9 12), .inl (cyI, 2, .inl c_many)), ((a9 18), .inl (cyI, 6, .inl c_outs)), ((a9 20), .inl (cyI, 6, .inl c_payOf)), ((a9 16), .inl (cyI, 6, .inl c_placeOf)), ((a9 10), .inl (cyI, 60, .inl c_seconds)), ((a9 15), .inl (cyI, 6, .inl c_sideAt)), ((a9 14), .inl (cyI, 6, .inl c_won))] sz)) (QV D [(a9 0, .inr (9, fl9 a9 i9 g9)), ((a9 17), .inl (cyI, 6, .inl q.1)), ((a9 9), .inl (cyI, 60, .inl c_firsts)), ((a9 11), .inl (cyI, 60, .inl c_goes)), ((a9 5), .inl (cyI, 32, .inl c_holds)), ((a9 19), .inl (cyI, 6, .inl q.2.1)), ((a9 12), .inl (cyI, 2, .inl c_many)), ((a9 18), .inl (cyI, 6, .inl q.2.2.1)), ((a9 20), .inl (cyI, 6, .inl q.2.2.2.1)), ((a9 16), .inl (cyI, 6, .inl q.2.2.2.2.1)), ((a9 10), .inl (cyI, 60, .inl c_seconds)), ((a9 15), .inl (cyI, 6, .inl q.2.2.2.2.2.1)), ((a9 14), .inl (cyI, 6, .inl q.2.2.2.2.2.2))] (va_A [(a9 0, .inr (9, fl9 a9 i9 g9)), ((a9 17), .inl (cyI, 6, .inl c_chooser)), ((a9 9), .inl (cyI, 60, .inl c_firsts)), ((a9 11), .inl (cyI, 60, .inl c_goes)), ((a9 5), .inl (cyI, 32, .inl c_holds)), ((a9 19), .inl (cyI, 6, .inl c_later)), ((a9 12), .inl (cyI, 2, .inl c_many)), ((a9 18), .inl (cyI, 6, .inl c_outs)), ((a9 20), .inl (cyI, 6, .inl c_payOf)), ((a9 16), .inl (cyI, 6, .inl c_placeOf)), ((a9 10), .inl (cyI, 60, .inl c_seconds)), ((a9 15), .inl (cyI, 6, .inl c_sideAt)), ((a9 14), .inl (cyI, 6, .inl c_won))] sz)) 0 0 (va_A [(a9 0, .inr (9, fl9 a9 i9 g9)), ((a9 17), .inl (cyI, 6, .inl c_chooser)), ((a9 9), .inl (cyI, 60, .inl c_firsts)), ((a9 11), .inl (cyI, 60, .inl c_goes)), ((a9 5), .inl (cyI, 32, .inl c_holds)), ((a9 19), .inl (cyI, 6, .inl c_later)), ((a9 12), .inl (cyI, 2, .inl c_many)), ((a9 18), .inl (cyI, 6, .inl c_outs)), ((a9 20), .inl (cyI, 6, .inl c_payOf)), ((a9 16), .inl (cyI, 6, .inl c_placeOf)), ((a9 10), .inl (cyI, 60, .inl c_seconds)), ((a9 15), .inl (cyI, 6, .inl c_sideAt)), ((a9 14), .inl (cyI, 6, .inl c_won))] sz) := by
  refine Met.ofW (cc := cX9_layPays) (maxL := 4) (ret := none) (by decide) rfl ?_
  intro p e s m args below meth c s₁ B hml hv
  obtain ⟨rfl, hsz, hP, hK, hD0⟩ := hv
  have hx := B.exec
  have hb := B.bytes
  have hr := B.returns
  have hts := atoms_spec (ws := (wS yX9_layPays cX9_layPays 4 none)) B.pre
  have hown : s.vm.findClass RX9 = some m.cls := findClass_of_methodNamed B.named
  have hlocks := B.notSynchronized
  subst hsz
  have hD := hD0.self (sz := s.heap.size)
  refine w_nameQ (fun Q hQ => ?_)
  have hl := lv_entry ([.ref (a9 0)] : List Value) (n := 4) (Nat.le_of_ble_eq_true rfl)
  rw [lg_entry_eq]
  generalize (lg_sl ([.ref (a9 0)] : List Value) ++ List.replicate (4 - (lg_sl ([.ref (a9 0)] : List Value)).length) Slot.unset).toArray = ls at hl ⊢
  have hl : lv_has ls 4 [(0, .ref (a9 0))] := hl
  generalize hAe : va_A [(a9 0, .inr (9, fl9 a9 i9 g9)), ((a9 17), .inl (cyI, 6, .inl c_chooser)), ((a9 9), .inl (cyI, 60, .inl c_firsts)), ((a9 11), .inl (cyI, 60, .inl c_goes)), ((a9 5), .inl (cyI, 32, .inl c_holds)), ((a9 19), .inl (cyI, 6, .inl c_later)), ((a9 12), .inl (cyI, 2, .inl c_many)), ((a9 18), .inl (cyI, 6, .inl c_outs)), ((a9 20), .inl (cyI, 6, .inl c_payOf)), ((a9 16), .inl (cyI, 6, .inl c_placeOf)), ((a9 10), .inl (cyI, 60, .inl c_seconds)), ((a9 15), .inl (cyI, 6, .inl c_sideAt)), ((a9 14), .inl (cyI, 6, .inl c_won))] s.heap.size = A at hD hQ
  have hA : ∀ q : Nat, s.heap.size ≤ q → A q := fun q h => by rw [← hAe]; exact Or.inr h
  have hS : va_S A s.heap s.heap [] := va_S.rf
  generalize ([.ref (a9 0)] : List Value).toArray = av at hts hQ ⊢
  have hL : ∀ w ∈ wsL_law, w.before av s = true := fun w h => hts w (List.mem_cons_of_mem _ h)
  have w0 := hL (.fieldLink RX9 67 "LosingLeagueModel" "payOf" "[I") (hR6 23 rfl)
  have w1 := hL (.fieldLink RX9 22 "LosingLeagueModel" "holds" "[I") (hR6 8 rfl)
  have w2 := hL (.fieldLink RX9 58 "LosingLeagueModel" "chooser" "[I") (hR6 20 rfl)
  have w3 := hL (.fieldLink RX9 55 "LosingLeagueModel" "placeOf" "[I") (hR6 19 rfl)
  have hB67 : ∀ (k60 : Int32 → Int32 → (Nat → Int32) → (Nat → Int32) → (Nat → Int32) → (Nat → Int32) → (Nat → Int32) → (Nat → Int32) → (Nat → Int32) → Option ((Nat → Int32) × (Nat → Int32) × (Nat → Int32) × (Nat → Int32) × (Nat → Int32) × (Nat → Int32) × (Nat → Int32))) (hk60 : ∀ (x1 : Int32) (x2 : Int32) (c_chooser : Nat → Int32) (c_later : Nat → Int32) (c_outs : Nat → Int32) (c_payOf : Nat → Int32) (c_placeOf : Nat → Int32) (c_sideAt : Nat → Int32) (c_won : Nat → Int32) (H : Heap) (locs : List Loc) (ls : Array Slot), k60 x1 x2 c_chooser c_later c_outs c_payOf c_placeOf c_sideAt c_won = some q → va_P D vwCl [(a9 0, .inr (9, fl9 a9 i9 g9)), ((a9 17), .inl (cyI, 6, .inl c_chooser)), ((a9 9), .inl (cyI, 60, .inl c_firsts)), ((a9 11), .inl (cyI, 60, .inl c_goes)), ((a9 5), .inl (cyI, 32, .inl c_holds)), ((a9 19), .inl (cyI, 6, .inl c_later)), ((a9 12), .inl (cyI, 2, .inl c_many)), ((a9 18), .inl (cyI, 6, .inl c_outs)), ((a9 20), .inl (cyI, 6, .inl c_payOf)), ((a9 16), .inl (cyI, 6, .inl c_placeOf)), ((a9 10), .inl (cyI, 60, .inl c_seconds)), ((a9 15), .inl (cyI, 6, .inl c_sideAt)), ((a9 14), .inl (cyI, 6, .inl c_won))] H → va_D A [(a9 0, .inr (9, fl9 a9 i9 g9)), ((a9 17), .inl (cyI, 6, .inl c_chooser)), ((a9 9), .inl (cyI, 60, .inl c_firsts)), ((a9 11), .inl (cyI, 60, .inl c_goes)), ((a9 5), .inl (cyI, 32, .inl c_holds)), ((a9 19), .inl (cyI, 6, .inl c_later)), ((a9 12), .inl (cyI, 2, .inl c_many)), ((a9 18), .inl (cyI, 6, .inl c_outs)), ((a9 20), .inl (cyI, 6, .inl c_payOf)), ((a9 16), .inl (cyI, 6, .inl c_placeOf)), ((a9 10), .inl (cyI, 60, .inl c_seconds)), ((a9 15), .inl (cyI, 6, .inl c_sideAt)), ((a9 14), .inl (cyI, 6, .inl c_won))] → va_S A s.heap H locs → lv_has ls 4 [(0, .ref (a9 0)), (1, .int x1), (2, .int x2)] → W p l e rmX9_layPays s m av below meth c H locs 0 0 Q (F0 m 60 ls [])) (n : Nat), ∀ (x1 : Int32) (x2 : Int32) (x3 : Int32) (c_chooser : Nat → Int32) (c_later : Nat → Int32) (c_outs : Nat → Int32) (c_payOf : Nat → Int32) (c_placeOf : Nat → Int32) (c_sideAt : Nat → Int32) (c_won : Nat → Int32) (H : Heap) (locs : List Loc) (ls : Array Slot), fX9_layPays_67 N c_firsts c_goes c_holds c_many c_seconds k60 n x1 x2 x3 c_chooser c_later c_outs c_payOf c_placeOf c_sideAt c_won = some q → va_P D vwCl [(a9 0, .inr (9, fl9 a9 i9 g9)), ((a9 17), .inl (cyI, 6, .inl c_chooser)), ((a9 9), .inl (cyI, 60, .inl c_firsts)), ((a9 11), .inl (cyI, 60, .inl c_goes)), ((a9 5), .inl (cyI, 32, .inl c_holds)), ((a9 19), .inl (cyI, 6, .inl c_later)), ((a9 12), .inl (cyI, 2, .inl c_many)), ((a9 18), .inl (cyI, 6, .inl c_outs)), ((a9 20), .inl (cyI, 6, .inl c_payOf)), ((a9 16), .inl (cyI, 6, .inl c_placeOf)), ((a9 10), .inl (cyI, 60, .inl c_seconds)), ((a9 15), .inl (cyI, 6, .inl c_sideAt)), ((a9 14), .inl (cyI, 6, .inl c_won))] H → va_D A [(a9 0, .inr (9, fl9 a9 i9 g9)), ((a9 17), .inl (cyI, 6, .inl c_chooser)), ((a9 9), .inl (cyI, 60, .inl c_firsts)), ((a9 11), .inl (cyI, 60, .inl c_goes)), ((a9 5), .inl (cyI, 32, .inl c_holds)), ((a9 19), .inl (cyI, 6, .inl c_later)), ((a9 12), .inl (cyI, 2, .inl c_many)), ((a9 18), .inl (cyI, 6, .inl c_outs)), ((a9 20), .inl (cyI, 6, .inl c_payOf)), ((a9 16), .inl (cyI, 6, .inl c_placeOf)), ((a9 10), .inl (cyI, 60, .inl c_seconds)), ((a9 15), .inl (cyI, 6, .inl c_sideAt)), ((a9 14), .inl (cyI, 6, .inl c_won))] → va_S A s.heap H locs → lv_has ls 4 [(0, .ref (a9 0)), (1, .int x1), (2, .int x2), (3, .int x3)] → W p l e rmX9_layPays s m av below meth c H locs 0 0 Q (F0 m 67 ls []) := by
    intro k60 hk60 n
    induction n with
    | zero => intro x1 x2 x3 c_chooser c_later c_outs c_payOf c_placeOf c_sideAt c_won H locs ls hf; exact absurd hf (by simp [fX9_layPays_67])
    | succ n hk67 =>
      intro x1 x2 x3 c_chooser c_later c_outs c_payOf c_placeOf c_sideAt c_won H locs ls hf hP hD hS hl
      rw [fX9_layPays_67] at hf
      refine lv_iload_n hx hb dX9_layPays_67 rfl (lv_at hl 3 rfl) ?_
      refine lv_iload_n hx hb dX9_layPays_68 rfl (lv_at hl 1 rfl) ?_
      refine lv_icmp_ge (tgt := 96) hx hb dX9_layPays_69 (by decide) (fun c69 => ?_) (fun c69 => ?_)
      · have hf := pif_t c69 hf
        refine lv_iinc (v := x2 + 1) (lv' := [(2, .int (x2 + 1)), (0, .ref (a9 0)), (1, .int x1), (3, .int x3)]) hx hb dX9_layPays_96 hl (k := 2) rfl rfl (by decide) rfl (fun ls hl => ?_)
        refine lv_goto (tgt := 60) hx hb dX9_layPays_99 (by decide) ?_
        exact hk60 x1 (x2 + 1) c_chooser c_later c_outs c_payOf c_placeOf c_sideAt c_won H locs ls hf hP hD hS (lv_sub hl [1, 2, 0] rfl)
      · have hf := pif_f c69 hf
        refine lv_aload_n hx hb dX9_layPays_72 rfl (lv_at hl 0 rfl) ?_
        refine va_get (D := D) (ci := 9) (v := .ref (a9 20)) (C := RX9) (T := TX9) (N := 52) hx hb hL inlX9 hown hK.1 hP 0 rfl rfl 32 (by decide) w0 (fun _ h9 => h9) rfl dX9_layPays_73 ?_
        refine lv_iload_n hx hb dX9_layPays_76 rfl (lv_at hl 2 rfl) ?_
        refine lv_dup2_11 hx hb dX9_layPays_77 rfl rfl ?_
        obtain ⟨h78, hf⟩ := pg_some hf
        refine va_iald hx hb hK.1 hP 8 0 rfl rfl h78 dX9_layPays_78 ?_
        refine lv_aload_n hx hb dX9_layPays_79 rfl (lv_at hl 0 rfl) ?_
        refine va_get (D := D) (ci := 9) (v := .ref (a9 5)) (C := RX9) (T := TX9) (N := 52) hx hb hL inlX9 hown hK.1 hP 0 rfl rfl 12 (by decide) w1 (fun _ h9 => h9) rfl dX9_layPays_80 ?_
        refine lv_bipush (v := 14) hx hb dX9_layPays_83 (by decide) ?_
        refine lv_iload_n hx hb dX9_layPays_85 rfl (lv_at hl 3 rfl) ?_
        refine lv_iadd hx hb dX9_layPays_86 ?_
        obtain ⟨h87, hf⟩ := pg_some hf
        refine va_iald hx hb hK.1 hP 4 0 rfl rfl h87 dX9_layPays_87 ?_
        refine lv_iadd hx hb dX9_layPays_88 ?_
        obtain ⟨h89, hf⟩ := pg_some hf
        refine va_iast hx hb hK.1 hP hD hS 8 0 rfl rfl h89 dX9_layPays_89 (fun H locs hP hD hS => ?_)
        have hP : va_P D vwCl [(a9 0, .inr (9, fl9 a9 i9 g9)), ((a9 17), .inl (cyI, 6, .inl c_chooser)), ((a9 9), .inl (cyI, 60, .inl c_firsts)), ((a9 11), .inl (cyI, 60, .inl c_goes)), ((a9 5), .inl (cyI, 32, .inl c_holds)), ((a9 19), .inl (cyI, 6, .inl c_later)), ((a9 12), .inl (cyI, 2, .inl c_many)), ((a9 18), .inl (cyI, 6, .inl c_outs)), ((a9 20), .inl (cyI, 6, .inl (upd c_payOf x2.toNatClampNeg ((c_payOf x2.toNatClampNeg) + (c_holds (14 + x3).toNatClampNeg))))), ((a9 16), .inl (cyI, 6, .inl c_placeOf)), ((a9 10), .inl (cyI, 60, .inl c_seconds)), ((a9 15), .inl (cyI, 6, .inl c_sideAt)), ((a9 14), .inl (cyI, 6, .inl c_won))] H := hP
        have hD : va_D A [(a9 0, .inr (9, fl9 a9 i9 g9)), ((a9 17), .inl (cyI, 6, .inl c_chooser)), ((a9 9), .inl (cyI, 60, .inl c_firsts)), ((a9 11), .inl (cyI, 60, .inl c_goes)), ((a9 5), .inl (cyI, 32, .inl c_holds)), ((a9 19), .inl (cyI, 6, .inl c_later)), ((a9 12), .inl (cyI, 2, .inl c_many)), ((a9 18), .inl (cyI, 6, .inl c_outs)), ((a9 20), .inl (cyI, 6, .inl (upd c_payOf x2.toNatClampNeg ((c_payOf x2.toNatClampNeg) + (c_holds (14 + x3).toNatClampNeg))))), ((a9 16), .inl (cyI, 6, .inl c_placeOf)), ((a9 10), .inl (cyI, 60, .inl c_seconds)), ((a9 15), .inl (cyI, 6, .inl c_sideAt)), ((a9 14), .inl (cyI, 6, .inl c_won))] := hD
        refine lv_iinc (v := x3 + 1) (lv' := [(3, .int (x3 + 1)), (0, .ref (a9 0)), (1, .int x1), (2, .int x2)]) hx hb dX9_layPays_90 hl (k := 3) rfl rfl (by decide) rfl (fun ls hl => ?_)
        refine lv_goto (tgt := 67) hx hb dX9_layPays_93 (by decide) ?_
        exact hk67 x1 x2 (x3 + 1) c_chooser c_later c_outs (upd c_payOf x2.toNatClampNeg ((c_payOf x2.toNatClampNeg) + (c_holds (14 + x3).toNatClampNeg))) c_placeOf c_sideAt c_won H locs ls hf hP hD hS (lv_sub hl [1, 2, 3, 0] rfl)
  have hB198 : ∀ (c_chooser : Nat → Int32) (c_later : Nat → Int32) (c_outs : Nat → Int32) (c_payOf : Nat → Int32) (c_placeOf : Nat → Int32) (c_sideAt : Nat → Int32) (c_won : Nat → Int32) (H : Heap) (locs : List Loc) (ls : Array Slot), fX9_layPays_198 N c_firsts c_goes c_holds c_many c_seconds c_chooser c_later c_outs c_payOf c_placeOf c_sideAt c_won = some q → va_P D vwCl [(a9 0, .inr (9, fl9 a9 i9 g9)), ((a9 17), .inl (cyI, 6, .inl c_chooser)), ((a9 9), .inl (cyI, 60, .inl c_firsts)), ((a9 11), .inl (cyI, 60, .inl c_goes)), ((a9 5), .inl (cyI, 32, .inl c_holds)), ((a9 19), .inl (cyI, 6, .inl c_later)), ((a9 12), .inl (cyI, 2, .inl c_many)), ((a9 18), .inl (cyI, 6, .inl c_outs)), ((a9 20), .inl (cyI, 6, .inl c_payOf)), ((a9 16), .inl (cyI, 6, .inl c_placeOf)), ((a9 10), .inl (cyI, 60, .inl c_seconds)), ((a9 15), .inl (cyI, 6, .inl c_sideAt)), ((a9 14), .inl (cyI, 6, .inl c_won))] H → va_D A [(a9 0, .inr (9, fl9 a9 i9 g9)), ((a9 17), .inl (cyI, 6, .inl c_chooser)), ((a9 9), .inl (cyI, 60, .inl c_firsts)), ((a9 11), .inl (cyI, 60, .inl c_goes)), ((a9 5), .inl (cyI, 32, .inl c_holds)), ((a9 19), .inl (cyI, 6, .inl c_later)), ((a9 12), .inl (cyI, 2, .inl c_many)), ((a9 18), .inl (cyI, 6, .inl c_outs)), ((a9 20), .inl (cyI, 6, .inl c_payOf)), ((a9 16), .inl (cyI, 6, .inl c_placeOf)), ((a9 10), .inl (cyI, 60, .inl c_seconds)), ((a9 15), .inl (cyI, 6, .inl c_sideAt)), ((a9 14), .inl (cyI, 6, .inl c_won))] → va_S A s.heap H locs → lv_has ls 4 [] → W p l e rmX9_layPays s m av below meth c H locs 0 0 Q (F0 m 198 ls []) := by
    intro c_chooser c_later c_outs c_payOf c_placeOf c_sideAt c_won H locs ls hf hP hD hS hl
    unfold fX9_layPays_198 at hf
    exact ret_v (q := q) (wp := fun q => [(a9 0, .inr (9, fl9 a9 i9 g9)), ((a9 17), .inl (cyI, 6, .inl q.1)), ((a9 9), .inl (cyI, 60, .inl c_firsts)), ((a9 11), .inl (cyI, 60, .inl c_goes)), ((a9 5), .inl (cyI, 32, .inl c_holds)), ((a9 19), .inl (cyI, 6, .inl q.2.1)), ((a9 12), .inl (cyI, 2, .inl c_many)), ((a9 18), .inl (cyI, 6, .inl q.2.2.1)), ((a9 20), .inl (cyI, 6, .inl q.2.2.2.1)), ((a9 16), .inl (cyI, 6, .inl q.2.2.2.2.1)), ((a9 10), .inl (cyI, 60, .inl c_seconds)), ((a9 15), .inl (cyI, 6, .inl q.2.2.2.2.2.1)), ((a9 14), .inl (cyI, 6, .inl q.2.2.2.2.2.2))]) hQ hf hx hb hr hlocks hP hD hS dX9_layPays_198
  have hB60 : ∀ (n : Nat), ∀ (x1 : Int32) (x2 : Int32) (c_chooser : Nat → Int32) (c_later : Nat → Int32) (c_outs : Nat → Int32) (c_payOf : Nat → Int32) (c_placeOf : Nat → Int32) (c_sideAt : Nat → Int32) (c_won : Nat → Int32) (H : Heap) (locs : List Loc) (ls : Array Slot), fX9_layPays_60 N c_firsts c_goes c_holds c_many c_seconds n x1 x2 c_chooser c_later c_outs c_payOf c_placeOf c_sideAt c_won = some q → va_P D vwCl [(a9 0, .inr (9, fl9 a9 i9 g9)), ((a9 17), .inl (cyI, 6, .inl c_chooser)), ((a9 9), .inl (cyI, 60, .inl c_firsts)), ((a9 11), .inl (cyI, 60, .inl c_goes)), ((a9 5), .inl (cyI, 32, .inl c_holds)), ((a9 19), .inl (cyI, 6, .inl c_later)), ((a9 12), .inl (cyI, 2, .inl c_many)), ((a9 18), .inl (cyI, 6, .inl c_outs)), ((a9 20), .inl (cyI, 6, .inl c_payOf)), ((a9 16), .inl (cyI, 6, .inl c_placeOf)), ((a9 10), .inl (cyI, 60, .inl c_seconds)), ((a9 15), .inl (cyI, 6, .inl c_sideAt)), ((a9 14), .inl (cyI, 6, .inl c_won))] H → va_D A [(a9 0, .inr (9, fl9 a9 i9 g9)), ((a9 17), .inl (cyI, 6, .inl c_chooser)), ((a9 9), .inl (cyI, 60, .inl c_firsts)), ((a9 11), .inl (cyI, 60, .inl c_goes)), ((a9 5), .inl (cyI, 32, .inl c_holds)), ((a9 19), .inl (cyI, 6, .inl c_later)), ((a9 12), .inl (cyI, 2, .inl c_many)), ((a9 18), .inl (cyI, 6, .inl c_outs)), ((a9 20), .inl (cyI, 6, .inl c_payOf)), ((a9 16), .inl (cyI, 6, .inl c_placeOf)), ((a9 10), .inl (cyI, 60, .inl c_seconds)), ((a9 15), .inl (cyI, 6, .inl c_sideAt)), ((a9 14), .inl (cyI, 6, .inl c_won))] → va_S A s.heap H locs → lv_has ls 4 [(0, .ref (a9 0)), (1, .int x1), (2, .int x2)] → W p l e rmX9_layPays s m av below meth c H locs 0 0 Q (F0 m 60 ls []) := by
    intro n
    induction n with
    | zero => intro x1 x2 c_chooser c_later c_outs c_payOf c_placeOf c_sideAt c_won H locs ls hf; exact absurd hf (by simp [fX9_layPays_60])
    | succ n hk60 =>
      intro x1 x2 c_chooser c_later c_outs c_payOf c_placeOf c_sideAt c_won H locs ls hf hP hD hS hl
      rw [fX9_layPays_60] at hf
      refine lv_iload_n hx hb dX9_layPays_60 rfl (lv_at hl 2 rfl) ?_
      refine lv_iload_n hx hb dX9_layPays_61 rfl (lv_at hl 1 rfl) ?_
      refine lv_icmp_ge (tgt := 102) hx hb dX9_layPays_62 (by decide) (fun c62 => ?_) (fun c62 => ?_)
      · have hf := pif_t c62 hf
        refine lv_goto (tgt := 198) hx hb dX9_layPays_102 (by decide) ?_
        exact hB198 c_chooser c_later c_outs c_payOf c_placeOf c_sideAt c_won H locs ls hf hP hD hS (lv_sub hl [] rfl)
      · have hf := pif_f c62 hf
        refine lv_iconst (v := 0) hx hb dX9_layPays_65 (by decide) ?_
        refine lv_istore_n (lv' := [(3, .int 0), (0, .ref (a9 0)), (1, .int x1), (2, .int x2)]) hx hb dX9_layPays_66 rfl hl (by decide) rfl (fun ls hl => ?_)
        exact hB67 (fX9_layPays_60 N c_firsts c_goes c_holds c_many c_seconds n) hk60 N x1 x2 0 c_chooser c_later c_outs c_payOf c_placeOf c_sideAt c_won H locs ls hf hP hD hS (lv_sub hl [1, 2, 3, 0] rfl)
  have hB183 : ∀ (k107 : Int32 → Int32 → (Nat → Int32) → (Nat → Int32) → (Nat → Int32) → (Nat → Int32) → (Nat → Int32) → (Nat → Int32) → (Nat → Int32) → Option ((Nat → Int32) × (Nat → Int32) × (Nat → Int32) × (Nat → Int32) × (Nat → Int32) × (Nat → Int32) × (Nat → Int32))) (hk107 : ∀ (x1 : Int32) (x2 : Int32) (c_chooser : Nat → Int32) (c_later : Nat → Int32) (c_outs : Nat → Int32) (c_payOf : Nat → Int32) (c_placeOf : Nat → Int32) (c_sideAt : Nat → Int32) (c_won : Nat → Int32) (H : Heap) (locs : List Loc) (ls : Array Slot), k107 x1 x2 c_chooser c_later c_outs c_payOf c_placeOf c_sideAt c_won = some q → va_P D vwCl [(a9 0, .inr (9, fl9 a9 i9 g9)), ((a9 17), .inl (cyI, 6, .inl c_chooser)), ((a9 9), .inl (cyI, 60, .inl c_firsts)), ((a9 11), .inl (cyI, 60, .inl c_goes)), ((a9 5), .inl (cyI, 32, .inl c_holds)), ((a9 19), .inl (cyI, 6, .inl c_later)), ((a9 12), .inl (cyI, 2, .inl c_many)), ((a9 18), .inl (cyI, 6, .inl c_outs)), ((a9 20), .inl (cyI, 6, .inl c_payOf)), ((a9 16), .inl (cyI, 6, .inl c_placeOf)), ((a9 10), .inl (cyI, 60, .inl c_seconds)), ((a9 15), .inl (cyI, 6, .inl c_sideAt)), ((a9 14), .inl (cyI, 6, .inl c_won))] H → va_D A [(a9 0, .inr (9, fl9 a9 i9 g9)), ((a9 17), .inl (cyI, 6, .inl c_chooser)), ((a9 9), .inl (cyI, 60, .inl c_firsts)), ((a9 11), .inl (cyI, 60, .inl c_goes)), ((a9 5), .inl (cyI, 32, .inl c_holds)), ((a9 19), .inl (cyI, 6, .inl c_later)), ((a9 12), .inl (cyI, 2, .inl c_many)), ((a9 18), .inl (cyI, 6, .inl c_outs)), ((a9 20), .inl (cyI, 6, .inl c_payOf)), ((a9 16), .inl (cyI, 6, .inl c_placeOf)), ((a9 10), .inl (cyI, 60, .inl c_seconds)), ((a9 15), .inl (cyI, 6, .inl c_sideAt)), ((a9 14), .inl (cyI, 6, .inl c_won))] → va_S A s.heap H locs → lv_has ls 4 [(0, .ref (a9 0)), (1, .int x1), (2, .int x2)] → W p l e rmX9_layPays s m av below meth c H locs 0 0 Q (F0 m 107 ls [])) (k134 : Int32 → Int32 → Int32 → (Nat → Int32) → (Nat → Int32) → (Nat → Int32) → (Nat → Int32) → (Nat → Int32) → (Nat → Int32) → (Nat → Int32) → Option ((Nat → Int32) × (Nat → Int32) × (Nat → Int32) × (Nat → Int32) × (Nat → Int32) × (Nat → Int32) × (Nat → Int32))) (hk134 : ∀ (x1 : Int32) (x2 : Int32) (x3 : Int32) (c_chooser : Nat → Int32) (c_later : Nat → Int32) (c_outs : Nat → Int32) (c_payOf : Nat → Int32) (c_placeOf : Nat → Int32) (c_sideAt : Nat → Int32) (c_won : Nat → Int32) (H : Heap) (locs : List Loc) (ls : Array Slot), k134 x1 x2 x3 c_chooser c_later c_outs c_payOf c_placeOf c_sideAt c_won = some q → va_P D vwCl [(a9 0, .inr (9, fl9 a9 i9 g9)), ((a9 17), .inl (cyI, 6, .inl c_chooser)), ((a9 9), .inl (cyI, 60, .inl c_firsts)), ((a9 11), .inl (cyI, 60, .inl c_goes)), ((a9 5), .inl (cyI, 32, .inl c_holds)), ((a9 19), .inl (cyI, 6, .inl c_later)), ((a9 12), .inl (cyI, 2, .inl c_many)), ((a9 18), .inl (cyI, 6, .inl c_outs)), ((a9 20), .inl (cyI, 6, .inl c_payOf)), ((a9 16), .inl (cyI, 6, .inl c_placeOf)), ((a9 10), .inl (cyI, 60, .inl c_seconds)), ((a9 15), .inl (cyI, 6, .inl c_sideAt)), ((a9 14), .inl (cyI, 6, .inl c_won))] H → va_D A [(a9 0, .inr (9, fl9 a9 i9 g9)), ((a9 17), .inl (cyI, 6, .inl c_chooser)), ((a9 9), .inl (cyI, 60, .inl c_firsts)), ((a9 11), .inl (cyI, 60, .inl c_goes)), ((a9 5), .inl (cyI, 32, .inl c_holds)), ((a9 19), .inl (cyI, 6, .inl c_later)), ((a9 12), .inl (cyI, 2, .inl c_many)), ((a9 18), .inl (cyI, 6, .inl c_outs)), ((a9 20), .inl (cyI, 6, .inl c_payOf)), ((a9 16), .inl (cyI, 6, .inl c_placeOf)), ((a9 10), .inl (cyI, 60, .inl c_seconds)), ((a9 15), .inl (cyI, 6, .inl c_sideAt)), ((a9 14), .inl (cyI, 6, .inl c_won))] → va_S A s.heap H locs → lv_has ls 4 [(0, .ref (a9 0)), (1, .int x1), (2, .int x2), (3, .int x3)] → W p l e rmX9_layPays s m av below meth c H locs 0 0 Q (F0 m 134 ls [])), ∀ (x1 : Int32) (x2 : Int32) (x3 : Int32) (s1 : Int32) (s2 : Int32) (s3 : Int32) (s4 : Int32) (c_chooser : Nat → Int32) (c_later : Nat → Int32) (c_outs : Nat → Int32) (c_payOf : Nat → Int32) (c_placeOf : Nat → Int32) (c_sideAt : Nat → Int32) (c_won : Nat → Int32) (H : Heap) (locs : List Loc) (ls : Array Slot), fX9_layPays_183 N c_firsts c_goes c_holds c_many c_seconds k107 k134 x1 x2 x3 s1 s2 s3 s4 c_chooser c_later c_outs c_payOf c_placeOf c_sideAt c_won = some q → va_P D vwCl [(a9 0, .inr (9, fl9 a9 i9 g9)), ((a9 17), .inl (cyI, 6, .inl c_chooser)), ((a9 9), .inl (cyI, 60, .inl c_firsts)), ((a9 11), .inl (cyI, 60, .inl c_goes)), ((a9 5), .inl (cyI, 32, .inl c_holds)), ((a9 19), .inl (cyI, 6, .inl c_later)), ((a9 12), .inl (cyI, 2, .inl c_many)), ((a9 18), .inl (cyI, 6, .inl c_outs)), ((a9 20), .inl (cyI, 6, .inl c_payOf)), ((a9 16), .inl (cyI, 6, .inl c_placeOf)), ((a9 10), .inl (cyI, 60, .inl c_seconds)), ((a9 15), .inl (cyI, 6, .inl c_sideAt)), ((a9 14), .inl (cyI, 6, .inl c_won))] H → va_D A [(a9 0, .inr (9, fl9 a9 i9 g9)), ((a9 17), .inl (cyI, 6, .inl c_chooser)), ((a9 9), .inl (cyI, 60, .inl c_firsts)), ((a9 11), .inl (cyI, 60, .inl c_goes)), ((a9 5), .inl (cyI, 32, .inl c_holds)), ((a9 19), .inl (cyI, 6, .inl c_later)), ((a9 12), .inl (cyI, 2, .inl c_many)), ((a9 18), .inl (cyI, 6, .inl c_outs)), ((a9 20), .inl (cyI, 6, .inl c_payOf)), ((a9 16), .inl (cyI, 6, .inl c_placeOf)), ((a9 10), .inl (cyI, 60, .inl c_seconds)), ((a9 15), .inl (cyI, 6, .inl c_sideAt)), ((a9 14), .inl (cyI, 6, .inl c_won))] → va_S A s.heap H locs → lv_has ls 4 [(0, .ref (a9 0)), (1, .int x1), (2, .int x2), (3, .int x3)] → W p l e rmX9_layPays s m av below meth c H locs 0 0 Q (F0 m 183 ls [.int s4, .int s3, .int s2, .int s1, .ref (a9 20)]) := by
    intro k107 hk107 k134 hk134 x1 x2 x3 s1 s2 s3 s4 c_chooser c_later c_outs c_payOf c_placeOf c_sideAt c_won H locs ls hf hP hD hS hl
    unfold fX9_layPays_183 at hf
    refine lv_imul hx hb dX9_layPays_183 ?_
    refine lv_iadd hx hb dX9_layPays_184 ?_
    obtain ⟨h185, hf⟩ := pg_some hf
    refine va_iast hx hb hK.1 hP hD hS 8 0 rfl rfl h185 dX9_layPays_185 (fun H locs hP hD hS => ?_)
    have hP : va_P D vwCl [(a9 0, .inr (9, fl9 a9 i9 g9)), ((a9 17), .inl (cyI, 6, .inl c_chooser)), ((a9 9), .inl (cyI, 60, .inl c_firsts)), ((a9 11), .inl (cyI, 60, .inl c_goes)), ((a9 5), .inl (cyI, 32, .inl c_holds)), ((a9 19), .inl (cyI, 6, .inl c_later)), ((a9 12), .inl (cyI, 2, .inl c_many)), ((a9 18), .inl (cyI, 6, .inl c_outs)), ((a9 20), .inl (cyI, 6, .inl (upd c_payOf s1.toNatClampNeg (s2 + (s3 * s4))))), ((a9 16), .inl (cyI, 6, .inl c_placeOf)), ((a9 10), .inl (cyI, 60, .inl c_seconds)), ((a9 15), .inl (cyI, 6, .inl c_sideAt)), ((a9 14), .inl (cyI, 6, .inl c_won))] H := hP
    have hD : va_D A [(a9 0, .inr (9, fl9 a9 i9 g9)), ((a9 17), .inl (cyI, 6, .inl c_chooser)), ((a9 9), .inl (cyI, 60, .inl c_firsts)), ((a9 11), .inl (cyI, 60, .inl c_goes)), ((a9 5), .inl (cyI, 32, .inl c_holds)), ((a9 19), .inl (cyI, 6, .inl c_later)), ((a9 12), .inl (cyI, 2, .inl c_many)), ((a9 18), .inl (cyI, 6, .inl c_outs)), ((a9 20), .inl (cyI, 6, .inl (upd c_payOf s1.toNatClampNeg (s2 + (s3 * s4))))), ((a9 16), .inl (cyI, 6, .inl c_placeOf)), ((a9 10), .inl (cyI, 60, .inl c_seconds)), ((a9 15), .inl (cyI, 6, .inl c_sideAt)), ((a9 14), .inl (cyI, 6, .inl c_won))] := hD
    refine lv_iinc (v := x3 + 1) (lv' := [(3, .int (x3 + 1)), (0, .ref (a9 0)), (1, .int x1), (2, .int x2)]) hx hb dX9_layPays_186 hl (k := 3) rfl rfl (by decide) rfl (fun ls hl => ?_)
    refine lv_goto (tgt := 134) hx hb dX9_layPays_189 (by decide) ?_
    exact hk134 x1 x2 (x3 + 1) c_chooser c_later c_outs (upd c_payOf s1.toNatClampNeg (s2 + (s3 * s4))) c_placeOf c_sideAt c_won H locs ls hf hP hD hS (lv_sub hl [1, 2, 3, 0] rfl)
  have hB134 : ∀ (k107 : Int32 → Int32 → (Nat → Int32) → (Nat → Int32) → (Nat → Int32) → (Nat → Int32) → (Nat → Int32) → (Nat → Int32) → (Nat → Int32) → Option ((Nat → Int32) × (Nat → Int32) × (Nat → Int32) × (Nat → Int32) × (Nat → Int32) × (Nat → Int32) × (Nat → Int32))) (hk107 : ∀ (x1 : Int32) (x2 : Int32) (c_chooser : Nat → Int32) (c_later : Nat → Int32) (c_outs : Nat → Int32) (c_payOf : Nat → Int32) (c_placeOf : Nat → Int32) (c_sideAt : Nat → Int32) (c_won : Nat → Int32) (H : Heap) (locs : List Loc) (ls : Array Slot), k107 x1 x2 c_chooser c_later c_outs c_payOf c_placeOf c_sideAt c_won = some q → va_P D vwCl [(a9 0, .inr (9, fl9 a9 i9 g9)), ((a9 17), .inl (cyI, 6, .inl c_chooser)), ((a9 9), .inl (cyI, 60, .inl c_firsts)), ((a9 11), .inl (cyI, 60, .inl c_goes)), ((a9 5), .inl (cyI, 32, .inl c_holds)), ((a9 19), .inl (cyI, 6, .inl c_later)), ((a9 12), .inl (cyI, 2, .inl c_many)), ((a9 18), .inl (cyI, 6, .inl c_outs)), ((a9 20), .inl (cyI, 6, .inl c_payOf)), ((a9 16), .inl (cyI, 6, .inl c_placeOf)), ((a9 10), .inl (cyI, 60, .inl c_seconds)), ((a9 15), .inl (cyI, 6, .inl c_sideAt)), ((a9 14), .inl (cyI, 6, .inl c_won))] H → va_D A [(a9 0, .inr (9, fl9 a9 i9 g9)), ((a9 17), .inl (cyI, 6, .inl c_chooser)), ((a9 9), .inl (cyI, 60, .inl c_firsts)), ((a9 11), .inl (cyI, 60, .inl c_goes)), ((a9 5), .inl (cyI, 32, .inl c_holds)), ((a9 19), .inl (cyI, 6, .inl c_later)), ((a9 12), .inl (cyI, 2, .inl c_many)), ((a9 18), .inl (cyI, 6, .inl c_outs)), ((a9 20), .inl (cyI, 6, .inl c_payOf)), ((a9 16), .inl (cyI, 6, .inl c_placeOf)), ((a9 10), .inl (cyI, 60, .inl c_seconds)), ((a9 15), .inl (cyI, 6, .inl c_sideAt)), ((a9 14), .inl (cyI, 6, .inl c_won))] → va_S A s.heap H locs → lv_has ls 4 [(0, .ref (a9 0)), (1, .int x1), (2, .int x2)] → W p l e rmX9_layPays s m av below meth c H locs 0 0 Q (F0 m 107 ls [])) (n : Nat), ∀ (x1 : Int32) (x2 : Int32) (x3 : Int32) (c_chooser : Nat → Int32) (c_later : Nat → Int32) (c_outs : Nat → Int32) (c_payOf : Nat → Int32) (c_placeOf : Nat → Int32) (c_sideAt : Nat → Int32) (c_won : Nat → Int32) (H : Heap) (locs : List Loc) (ls : Array Slot), fX9_layPays_134 N c_firsts c_goes c_holds c_many c_seconds k107 n x1 x2 x3 c_chooser c_later c_outs c_payOf c_placeOf c_sideAt c_won = some q → va_P D vwCl [(a9 0, .inr (9, fl9 a9 i9 g9)), ((a9 17), .inl (cyI, 6, .inl c_chooser)), ((a9 9), .inl (cyI, 60, .inl c_firsts)), ((a9 11), .inl (cyI, 60, .inl c_goes)), ((a9 5), .inl (cyI, 32, .inl c_holds)), ((a9 19), .inl (cyI, 6, .inl c_later)), ((a9 12), .inl (cyI, 2, .inl c_many)), ((a9 18), .inl (cyI, 6, .inl c_outs)), ((a9 20), .inl (cyI, 6, .inl c_payOf)), ((a9 16), .inl (cyI, 6, .inl c_placeOf)), ((a9 10), .inl (cyI, 60, .inl c_seconds)), ((a9 15), .inl (cyI, 6, .inl c_sideAt)), ((a9 14), .inl (cyI, 6, .inl c_won))] H → va_D A [(a9 0, .inr (9, fl9 a9 i9 g9)), ((a9 17), .inl (cyI, 6, .inl c_chooser)), ((a9 9), .inl (cyI, 60, .inl c_firsts)), ((a9 11), .inl (cyI, 60, .inl c_goes)), ((a9 5), .inl (cyI, 32, .inl c_holds)), ((a9 19), .inl (cyI, 6, .inl c_later)), ((a9 12), .inl (cyI, 2, .inl c_many)), ((a9 18), .inl (cyI, 6, .inl c_outs)), ((a9 20), .inl (cyI, 6, .inl c_payOf)), ((a9 16), .inl (cyI, 6, .inl c_placeOf)), ((a9 10), .inl (cyI, 60, .inl c_seconds)), ((a9 15), .inl (cyI, 6, .inl c_sideAt)), ((a9 14), .inl (cyI, 6, .inl c_won))] → va_S A s.heap H locs → lv_has ls 4 [(0, .ref (a9 0)), (1, .int x1), (2, .int x2), (3, .int x3)] → W p l e rmX9_layPays s m av below meth c H locs 0 0 Q (F0 m 134 ls []) := by
    intro k107 hk107 n
    induction n with
    | zero => intro x1 x2 x3 c_chooser c_later c_outs c_payOf c_placeOf c_sideAt c_won H locs ls hf; exact absurd hf (by simp [fX9_layPays_134])
    | succ n hk134 =>
      intro x1 x2 x3 c_chooser c_later c_outs c_payOf c_placeOf c_sideAt c_won H locs ls hf hP hD hS hl
      rw [fX9_layPays_134] at hf
      refine lv_iload_n hx hb dX9_layPays_134 rfl (lv_at hl 3 rfl) ?_
      refine lv_iload_n hx hb dX9_layPays_135 rfl (lv_at hl 1 rfl) ?_
      refine lv_icmp_ge (tgt := 192) hx hb dX9_layPays_136 (by decide) (fun c136 => ?_) (fun c136 => ?_)
      · have hf := pif_t c136 hf
        refine lv_iinc (v := x2 + 1) (lv' := [(2, .int (x2 + 1)), (0, .ref (a9 0)), (1, .int x1), (3, .int x3)]) hx hb dX9_layPays_192 hl (k := 2) rfl rfl (by decide) rfl (fun ls hl => ?_)
        refine lv_goto (tgt := 107) hx hb dX9_layPays_195 (by decide) ?_
        exact hk107 x1 (x2 + 1) c_chooser c_later c_outs c_payOf c_placeOf c_sideAt c_won H locs ls hf hP hD hS (lv_sub hl [1, 2, 0] rfl)
      · have hf := pif_f c136 hf
        refine lv_aload_n hx hb dX9_layPays_139 rfl (lv_at hl 0 rfl) ?_
        refine va_get (D := D) (ci := 9) (v := .ref (a9 20)) (C := RX9) (T := TX9) (N := 52) hx hb hL inlX9 hown hK.1 hP 0 rfl rfl 32 (by decide) w0 (fun _ h9 => h9) rfl dX9_layPays_140 ?_
        refine lv_aload_n hx hb dX9_layPays_143 rfl (lv_at hl 0 rfl) ?_
        refine va_get (D := D) (ci := 9) (v := .ref (a9 17)) (C := RX9) (T := TX9) (N := 52) hx hb hL inlX9 hown hK.1 hP 0 rfl rfl 29 (by decide) w2 (fun _ h9 => h9) rfl dX9_layPays_144 ?_
        refine lv_iload_n hx hb dX9_layPays_147 rfl (lv_at hl 3 rfl) ?_
        obtain ⟨h148, hf⟩ := pg_some hf
        refine va_iald hx hb hK.1 hP 1 0 rfl rfl h148 dX9_layPays_148 ?_
        refine lv_dup2_11 hx hb dX9_layPays_149 rfl rfl ?_
        obtain ⟨h150, hf⟩ := pg_some hf
        refine va_iald hx hb hK.1 hP 8 0 rfl rfl h150 dX9_layPays_150 ?_
        refine lv_aload_n hx hb dX9_layPays_151 rfl (lv_at hl 0 rfl) ?_
        refine va_get (D := D) (ci := 9) (v := .ref (a9 5)) (C := RX9) (T := TX9) (N := 52) hx hb hL inlX9 hown hK.1 hP 0 rfl rfl 12 (by decide) w1 (fun _ h9 => h9) rfl dX9_layPays_152 ?_
        refine lv_bipush (v := 14) hx hb dX9_layPays_155 (by decide) ?_
        refine lv_iload_n hx hb dX9_layPays_157 rfl (lv_at hl 3 rfl) ?_
        refine lv_iadd hx hb dX9_layPays_158 ?_
        obtain ⟨h159, hf⟩ := pg_some hf
        refine va_iald hx hb hK.1 hP 4 0 rfl rfl h159 dX9_layPays_159 ?_
        refine lv_aload_n hx hb dX9_layPays_160 rfl (lv_at hl 0 rfl) ?_
        refine va_get (D := D) (ci := 9) (v := .ref (a9 5)) (C := RX9) (T := TX9) (N := 52) hx hb hL inlX9 hown hK.1 hP 0 rfl rfl 12 (by decide) w1 (fun _ h9 => h9) rfl dX9_layPays_161 ?_
        refine lv_iconst (v := 1) hx hb dX9_layPays_164 (by decide) ?_
        obtain ⟨h165, hf⟩ := pg_some hf
        refine va_iald hx hb hK.1 hP 4 0 rfl rfl h165 dX9_layPays_165 ?_
        refine lv_iconst (v := 1) hx hb dX9_layPays_166 (by decide) ?_
        refine lv_icmp_ne (tgt := 182) hx hb dX9_layPays_167 (by decide) (fun c167 => ?_) (fun c167 => ?_)
        · have hf := pif_f c167 hf
          refine lv_iconst (v := 1) hx hb dX9_layPays_182 (by decide) ?_
          exact hB183 k107 hk107 (fX9_layPays_134 N c_firsts c_goes c_holds c_many c_seconds k107 n) hk134 x1 x2 x3 (c_chooser x3.toNatClampNeg) (c_payOf (c_chooser x3.toNatClampNeg).toNatClampNeg) (c_holds (14 + x3).toNatClampNeg) 1 c_chooser c_later c_outs c_payOf c_placeOf c_sideAt c_won H locs ls hf hP hD hS (lv_sub hl [0, 1, 2, 3] rfl)
        · have hf := pif_t c167 hf
          refine lv_aload_n hx hb dX9_layPays_170 rfl (lv_at hl 0 rfl) ?_
          refine va_get (D := D) (ci := 9) (v := .ref (a9 5)) (C := RX9) (T := TX9) (N := 52) hx hb hL inlX9 hown hK.1 hP 0 rfl rfl 12 (by decide) w1 (fun _ h9 => h9) rfl dX9_layPays_171 ?_
          refine lv_bipush (v := 20) hx hb dX9_layPays_174 (by decide) ?_
          refine lv_iload_n hx hb dX9_layPays_176 rfl (lv_at hl 2 rfl) ?_
          refine lv_iadd hx hb dX9_layPays_177 ?_
          obtain ⟨h178, hf⟩ := pg_some hf
          refine va_iald hx hb hK.1 hP 4 0 rfl rfl h178 dX9_layPays_178 ?_
          refine lv_goto (tgt := 183) hx hb dX9_layPays_179 (by decide) ?_
          exact hB183 k107 hk107 (fX9_layPays_134 N c_firsts c_goes c_holds c_many c_seconds k107 n) hk134 x1 x2 x3 (c_chooser x3.toNatClampNeg) (c_payOf (c_chooser x3.toNatClampNeg).toNatClampNeg) (c_holds (14 + x3).toNatClampNeg) (c_holds (20 + x2).toNatClampNeg) c_chooser c_later c_outs c_payOf c_placeOf c_sideAt c_won H locs ls hf hP hD hS (lv_sub hl [0, 1, 2, 3] rfl)
  have hB123 : ∀ (k107 : Int32 → Int32 → (Nat → Int32) → (Nat → Int32) → (Nat → Int32) → (Nat → Int32) → (Nat → Int32) → (Nat → Int32) → (Nat → Int32) → Option ((Nat → Int32) × (Nat → Int32) × (Nat → Int32) × (Nat → Int32) × (Nat → Int32) × (Nat → Int32) × (Nat → Int32))) (hk107 : ∀ (x1 : Int32) (x2 : Int32) (c_chooser : Nat → Int32) (c_later : Nat → Int32) (c_outs : Nat → Int32) (c_payOf : Nat → Int32) (c_placeOf : Nat → Int32) (c_sideAt : Nat → Int32) (c_won : Nat → Int32) (H : Heap) (locs : List Loc) (ls : Array Slot), k107 x1 x2 c_chooser c_later c_outs c_payOf c_placeOf c_sideAt c_won = some q → va_P D vwCl [(a9 0, .inr (9, fl9 a9 i9 g9)), ((a9 17), .inl (cyI, 6, .inl c_chooser)), ((a9 9), .inl (cyI, 60, .inl c_firsts)), ((a9 11), .inl (cyI, 60, .inl c_goes)), ((a9 5), .inl (cyI, 32, .inl c_holds)), ((a9 19), .inl (cyI, 6, .inl c_later)), ((a9 12), .inl (cyI, 2, .inl c_many)), ((a9 18), .inl (cyI, 6, .inl c_outs)), ((a9 20), .inl (cyI, 6, .inl c_payOf)), ((a9 16), .inl (cyI, 6, .inl c_placeOf)), ((a9 10), .inl (cyI, 60, .inl c_seconds)), ((a9 15), .inl (cyI, 6, .inl c_sideAt)), ((a9 14), .inl (cyI, 6, .inl c_won))] H → va_D A [(a9 0, .inr (9, fl9 a9 i9 g9)), ((a9 17), .inl (cyI, 6, .inl c_chooser)), ((a9 9), .inl (cyI, 60, .inl c_firsts)), ((a9 11), .inl (cyI, 60, .inl c_goes)), ((a9 5), .inl (cyI, 32, .inl c_holds)), ((a9 19), .inl (cyI, 6, .inl c_later)), ((a9 12), .inl (cyI, 2, .inl c_many)), ((a9 18), .inl (cyI, 6, .inl c_outs)), ((a9 20), .inl (cyI, 6, .inl c_payOf)), ((a9 16), .inl (cyI, 6, .inl c_placeOf)), ((a9 10), .inl (cyI, 60, .inl c_seconds)), ((a9 15), .inl (cyI, 6, .inl c_sideAt)), ((a9 14), .inl (cyI, 6, .inl c_won))] → va_S A s.heap H locs → lv_has ls 4 [(0, .ref (a9 0)), (1, .int x1), (2, .int x2)] → W p l e rmX9_layPays s m av below meth c H locs 0 0 Q (F0 m 107 ls [])), ∀ (x1 : Int32) (x2 : Int32) (s0 : Int32) (s1 : Int32) (c_chooser : Nat → Int32) (c_later : Nat → Int32) (c_outs : Nat → Int32) (c_payOf : Nat → Int32) (c_placeOf : Nat → Int32) (c_sideAt : Nat → Int32) (c_won : Nat → Int32) (H : Heap) (locs : List Loc) (ls : Array Slot), fX9_layPays_123 N c_firsts c_goes c_holds c_many c_seconds k107 x1 x2 s0 s1 c_chooser c_later c_outs c_payOf c_placeOf c_sideAt c_won = some q → va_P D vwCl [(a9 0, .inr (9, fl9 a9 i9 g9)), ((a9 17), .inl (cyI, 6, .inl c_chooser)), ((a9 9), .inl (cyI, 60, .inl c_firsts)), ((a9 11), .inl (cyI, 60, .inl c_goes)), ((a9 5), .inl (cyI, 32, .inl c_holds)), ((a9 19), .inl (cyI, 6, .inl c_later)), ((a9 12), .inl (cyI, 2, .inl c_many)), ((a9 18), .inl (cyI, 6, .inl c_outs)), ((a9 20), .inl (cyI, 6, .inl c_payOf)), ((a9 16), .inl (cyI, 6, .inl c_placeOf)), ((a9 10), .inl (cyI, 60, .inl c_seconds)), ((a9 15), .inl (cyI, 6, .inl c_sideAt)), ((a9 14), .inl (cyI, 6, .inl c_won))] H → va_D A [(a9 0, .inr (9, fl9 a9 i9 g9)), ((a9 17), .inl (cyI, 6, .inl c_chooser)), ((a9 9), .inl (cyI, 60, .inl c_firsts)), ((a9 11), .inl (cyI, 60, .inl c_goes)), ((a9 5), .inl (cyI, 32, .inl c_holds)), ((a9 19), .inl (cyI, 6, .inl c_later)), ((a9 12), .inl (cyI, 2, .inl c_many)), ((a9 18), .inl (cyI, 6, .inl c_outs)), ((a9 20), .inl (cyI, 6, .inl c_payOf)), ((a9 16), .inl (cyI, 6, .inl c_placeOf)), ((a9 10), .inl (cyI, 60, .inl c_seconds)), ((a9 15), .inl (cyI, 6, .inl c_sideAt)), ((a9 14), .inl (cyI, 6, .inl c_won))] → va_S A s.heap H locs → lv_has ls 4 [(0, .ref (a9 0)), (1, .int x1), (2, .int x2)] → W p l e rmX9_layPays s m av below meth c H locs 0 0 Q (F0 m 123 ls [.int s1, .int s0]) := by
    intro k107 hk107 x1 x2 s0 s1 c_chooser c_later c_outs c_payOf c_placeOf c_sideAt c_won H locs ls hf hP hD hS hl
    unfold fX9_layPays_123 at hf
    refine lv_icmp_ge (tgt := 198) hx hb dX9_layPays_123 (by decide) (fun c123 => ?_) (fun c123 => ?_)
    · have hf := pif_t c123 hf
      exact hB198 c_chooser c_later c_outs c_payOf c_placeOf c_sideAt c_won H locs ls hf hP hD hS (lv_sub hl [] rfl)
    · have hf := pif_f c123 hf
      refine lv_aload_n hx hb dX9_layPays_126 rfl (lv_at hl 0 rfl) ?_
      refine lv_iconst (v := 0) hx hb dX9_layPays_127 (by decide) ?_
      refine lv_iload_n hx hb dX9_layPays_128 rfl (lv_at hl 2 rfl) ?_
      obtain ⟨q129, e129, hf⟩ := pb_some hf
      refine cc_v (wc := [(a9 0, .inr (9, fl9 a9 i9 g9)), ((a9 17), .inl (cyI, 6, .inl c_chooser)), ((a9 9), .inl (cyI, 60, .inl c_firsts)), ((a9 11), .inl (cyI, 60, .inl c_goes)), ((a9 5), .inl (cyI, 32, .inl c_holds)), ((a9 19), .inl (cyI, 6, .inl c_later)), ((a9 12), .inl (cyI, 2, .inl c_many)), ((a9 18), .inl (cyI, 6, .inl c_outs)), ((a9 16), .inl (cyI, 6, .inl c_placeOf)), ((a9 10), .inl (cyI, 60, .inl c_seconds)), ((a9 15), .inl (cyI, 6, .inl c_sideAt)), ((a9 14), .inl (cyI, 6, .inl c_won))]) (wr := [((a9 20), .inl (cyI, 6, .inl c_payOf))]) (w1 := [(a9 0, .inr (9, fl9 a9 i9 g9)), ((a9 17), .inl (cyI, 6, .inl q129.1)), ((a9 9), .inl (cyI, 60, .inl c_firsts)), ((a9 11), .inl (cyI, 60, .inl c_goes)), ((a9 5), .inl (cyI, 32, .inl c_holds)), ((a9 19), .inl (cyI, 6, .inl q129.2.1)), ((a9 12), .inl (cyI, 2, .inl c_many)), ((a9 18), .inl (cyI, 6, .inl q129.2.2)), ((a9 16), .inl (cyI, 6, .inl c_placeOf)), ((a9 10), .inl (cyI, 60, .inl c_seconds)), ((a9 15), .inl (cyI, 6, .inl c_sideAt)), ((a9 14), .inl (cyI, 6, .inl c_won))]) (wn := [(a9 0, .inr (9, fl9 a9 i9 g9)), ((a9 17), .inl (cyI, 6, .inl q129.1)), ((a9 9), .inl (cyI, 60, .inl c_firsts)), ((a9 11), .inl (cyI, 60, .inl c_goes)), ((a9 5), .inl (cyI, 32, .inl c_holds)), ((a9 19), .inl (cyI, 6, .inl q129.2.1)), ((a9 12), .inl (cyI, 2, .inl c_many)), ((a9 18), .inl (cyI, 6, .inl q129.2.2)), ((a9 20), .inl (cyI, 6, .inl c_payOf)), ((a9 16), .inl (cyI, 6, .inl c_placeOf)), ((a9 10), .inl (cyI, 60, .inl c_seconds)), ((a9 15), .inl (cyI, 6, .inl c_sideAt)), ((a9 14), .inl (cyI, 6, .inl c_won))]) hP hD hS hA [0, 1, 2, 3, 4, 5, 6, 7, 9, 10, 11, 12] [8] [1, 2, 3, 4, 5, 6, 7, 8, 0, 9, 10, 11, 12] rfl rfl rfl (by decide) rfl rfl (va_runV (C := RX9) (As := [.int 0, .int x2]) (rest := []) ⟨hx, hb, hml, hown, hL⟩ (mX9_layChoices l D cyI cyJ cyB cyS N H.size a9 i9 g9 c_chooser c_firsts c_goes c_holds c_later c_many c_outs c_placeOf c_seconds c_sideAt c_won 0 x2 q129 e129) (cwV 2 hL (gV (hR29 21 rfl) (hR29 22 rfl) (hR29 23 rfl) (hR1 5 rfl) (hR30 0 rfl)) rfl rfl rfl (by decide +kernel) ⟨Nat.le_of_ble_eq_true rfl, Nat.le_of_ble_eq_true rfl⟩) (PP_preV (ci := 9) (q0 := 0) hP hD hK [0, 1, 2, 3, 4, 5, 6, 7, 9, 10, 11, 12] rfl rfl rfl rfl) rfl rfl hl.1 rfl (lv_room (Nat.le_of_ble_eq_true rfl)) dX9_layPays_129 ⟨Nat.le_of_ble_eq_true rfl, Nat.le_of_ble_eq_true rfl⟩) (fun H locs hP hD hS => ?_)
      refine lv_iconst (v := 0) hx hb dX9_layPays_132 (by decide) ?_
      refine lv_istore_n (lv' := [(3, .int 0), (0, .ref (a9 0)), (1, .int x1), (2, .int x2)]) hx hb dX9_layPays_133 rfl hl (by decide) rfl (fun ls hl => ?_)
      exact hB134 k107 hk107 N x1 x2 0 q129.1 q129.2.1 q129.2.2 c_payOf c_placeOf c_sideAt c_won H locs ls hf hP hD hS (lv_sub hl [1, 2, 3, 0] rfl)
  have hB107 : ∀ (n : Nat), ∀ (x1 : Int32) (x2 : Int32) (c_chooser : Nat → Int32) (c_later : Nat → Int32) (c_outs : Nat → Int32) (c_payOf : Nat → Int32) (c_placeOf : Nat → Int32) (c_sideAt : Nat → Int32) (c_won : Nat → Int32) (H : Heap) (locs : List Loc) (ls : Array Slot), fX9_layPays_107 N c_firsts c_goes c_holds c_many c_seconds n x1 x2 c_chooser c_later c_outs c_payOf c_placeOf c_sideAt c_won = some q → va_P D vwCl [(a9 0, .inr (9, fl9 a9 i9 g9)), ((a9 17), .inl (cyI, 6, .inl c_chooser)), ((a9 9), .inl (cyI, 60, .inl c_firsts)), ((a9 11), .inl (cyI, 60, .inl c_goes)), ((a9 5), .inl (cyI, 32, .inl c_holds)), ((a9 19), .inl (cyI, 6, .inl c_later)), ((a9 12), .inl (cyI, 2, .inl c_many)), ((a9 18), .inl (cyI, 6, .inl c_outs)), ((a9 20), .inl (cyI, 6, .inl c_payOf)), ((a9 16), .inl (cyI, 6, .inl c_placeOf)), ((a9 10), .inl (cyI, 60, .inl c_seconds)), ((a9 15), .inl (cyI, 6, .inl c_sideAt)), ((a9 14), .inl (cyI, 6, .inl c_won))] H → va_D A [(a9 0, .inr (9, fl9 a9 i9 g9)), ((a9 17), .inl (cyI, 6, .inl c_chooser)), ((a9 9), .inl (cyI, 60, .inl c_firsts)), ((a9 11), .inl (cyI, 60, .inl c_goes)), ((a9 5), .inl (cyI, 32, .inl c_holds)), ((a9 19), .inl (cyI, 6, .inl c_later)), ((a9 12), .inl (cyI, 2, .inl c_many)), ((a9 18), .inl (cyI, 6, .inl c_outs)), ((a9 20), .inl (cyI, 6, .inl c_payOf)), ((a9 16), .inl (cyI, 6, .inl c_placeOf)), ((a9 10), .inl (cyI, 60, .inl c_seconds)), ((a9 15), .inl (cyI, 6, .inl c_sideAt)), ((a9 14), .inl (cyI, 6, .inl c_won))] → va_S A s.heap H locs → lv_has ls 4 [(0, .ref (a9 0)), (1, .int x1), (2, .int x2)] → W p l e rmX9_layPays s m av below meth c H locs 0 0 Q (F0 m 107 ls []) := by
    intro n
    induction n with
    | zero => intro x1 x2 c_chooser c_later c_outs c_payOf c_placeOf c_sideAt c_won H locs ls hf; exact absurd hf (by simp [fX9_layPays_107])
    | succ n hk107 =>
      intro x1 x2 c_chooser c_later c_outs c_payOf c_placeOf c_sideAt c_won H locs ls hf hP hD hS hl
      rw [fX9_layPays_107] at hf
      refine lv_iload_n hx hb dX9_layPays_107 rfl (lv_at hl 2 rfl) ?_
      refine lv_aload_n hx hb dX9_layPays_108 rfl (lv_at hl 0 rfl) ?_
      refine va_get (D := D) (ci := 9) (v := .ref (a9 5)) (C := RX9) (T := TX9) (N := 52) hx hb hL inlX9 hown hK.1 hP 0 rfl rfl 12 (by decide) w1 (fun _ h9 => h9) rfl dX9_layPays_109 ?_
      refine lv_iconst (v := 1) hx hb dX9_layPays_112 (by decide) ?_
      obtain ⟨h113, hf⟩ := pg_some hf
      refine va_iald hx hb hK.1 hP 4 0 rfl rfl h113 dX9_layPays_113 ?_
      refine lv_iconst (v := 1) hx hb dX9_layPays_114 (by decide) ?_
      refine lv_icmp_ne (tgt := 122) hx hb dX9_layPays_115 (by decide) (fun c115 => ?_) (fun c115 => ?_)
      · have hf := pif_f c115 hf
        refine lv_iconst (v := 1) hx hb dX9_layPays_122 (by decide) ?_
        exact hB123 (fX9_layPays_107 N c_firsts c_goes c_holds c_many c_seconds n) hk107 x1 x2 x2 1 c_chooser c_later c_outs c_payOf c_placeOf c_sideAt c_won H locs ls hf hP hD hS (lv_sub hl [0, 1, 2] rfl)
      · have hf := pif_t c115 hf
        refine lv_iload_n hx hb dX9_layPays_118 rfl (lv_at hl 1 rfl) ?_
        refine lv_goto (tgt := 123) hx hb dX9_layPays_119 (by decide) ?_
        exact hB123 (fX9_layPays_107 N c_firsts c_goes c_holds c_many c_seconds n) hk107 x1 x2 x2 x1 c_chooser c_later c_outs c_payOf c_placeOf c_sideAt c_won H locs ls hf hP hD hS (lv_sub hl [0, 1, 2] rfl)
  have hB12 : ∀ (n : Nat), ∀ (x1 : Int32) (x2 : Int32) (c_chooser : Nat → Int32) (c_later : Nat → Int32) (c_outs : Nat → Int32) (c_payOf : Nat → Int32) (c_placeOf : Nat → Int32) (c_sideAt : Nat → Int32) (c_won : Nat → Int32) (H : Heap) (locs : List Loc) (ls : Array Slot), fX9_layPays_12 N c_firsts c_goes c_holds c_many c_seconds n x1 x2 c_chooser c_later c_outs c_payOf c_placeOf c_sideAt c_won = some q → va_P D vwCl [(a9 0, .inr (9, fl9 a9 i9 g9)), ((a9 17), .inl (cyI, 6, .inl c_chooser)), ((a9 9), .inl (cyI, 60, .inl c_firsts)), ((a9 11), .inl (cyI, 60, .inl c_goes)), ((a9 5), .inl (cyI, 32, .inl c_holds)), ((a9 19), .inl (cyI, 6, .inl c_later)), ((a9 12), .inl (cyI, 2, .inl c_many)), ((a9 18), .inl (cyI, 6, .inl c_outs)), ((a9 20), .inl (cyI, 6, .inl c_payOf)), ((a9 16), .inl (cyI, 6, .inl c_placeOf)), ((a9 10), .inl (cyI, 60, .inl c_seconds)), ((a9 15), .inl (cyI, 6, .inl c_sideAt)), ((a9 14), .inl (cyI, 6, .inl c_won))] H → va_D A [(a9 0, .inr (9, fl9 a9 i9 g9)), ((a9 17), .inl (cyI, 6, .inl c_chooser)), ((a9 9), .inl (cyI, 60, .inl c_firsts)), ((a9 11), .inl (cyI, 60, .inl c_goes)), ((a9 5), .inl (cyI, 32, .inl c_holds)), ((a9 19), .inl (cyI, 6, .inl c_later)), ((a9 12), .inl (cyI, 2, .inl c_many)), ((a9 18), .inl (cyI, 6, .inl c_outs)), ((a9 20), .inl (cyI, 6, .inl c_payOf)), ((a9 16), .inl (cyI, 6, .inl c_placeOf)), ((a9 10), .inl (cyI, 60, .inl c_seconds)), ((a9 15), .inl (cyI, 6, .inl c_sideAt)), ((a9 14), .inl (cyI, 6, .inl c_won))] → va_S A s.heap H locs → lv_has ls 4 [(0, .ref (a9 0)), (1, .int x1), (2, .int x2)] → W p l e rmX9_layPays s m av below meth c H locs 0 0 Q (F0 m 12 ls []) := by
    intro n
    induction n with
    | zero => intro x1 x2 c_chooser c_later c_outs c_payOf c_placeOf c_sideAt c_won H locs ls hf; exact absurd hf (by simp [fX9_layPays_12])
    | succ n hk12 =>
      intro x1 x2 c_chooser c_later c_outs c_payOf c_placeOf c_sideAt c_won H locs ls hf hP hD hS hl
      rw [fX9_layPays_12] at hf
      refine lv_iload_n hx hb dX9_layPays_12 rfl (lv_at hl 2 rfl) ?_
      refine lv_iload_n hx hb dX9_layPays_13 rfl (lv_at hl 1 rfl) ?_
      refine lv_icmp_ge (tgt := 48) hx hb dX9_layPays_14 (by decide) (fun c14 => ?_) (fun c14 => ?_)
      · have hf := pif_t c14 hf
        refine lv_aload_n hx hb dX9_layPays_48 rfl (lv_at hl 0 rfl) ?_
        refine va_get (D := D) (ci := 9) (v := .ref (a9 5)) (C := RX9) (T := TX9) (N := 52) hx hb hL inlX9 hown hK.1 hP 0 rfl rfl 12 (by decide) w1 (fun _ h9 => h9) rfl dX9_layPays_49 ?_
        refine lv_iconst (v := 1) hx hb dX9_layPays_52 (by decide) ?_
        obtain ⟨h53, hf⟩ := pg_some hf
        refine va_iald hx hb hK.1 hP 4 0 rfl rfl h53 dX9_layPays_53 ?_
        refine lv_iconst (v := 4) hx hb dX9_layPays_54 (by decide) ?_
        refine lv_icmp_ne (tgt := 105) hx hb dX9_layPays_55 (by decide) (fun c55 => ?_) (fun c55 => ?_)
        · have hf := pif_f c55 hf
          refine lv_iconst (v := 0) hx hb dX9_layPays_105 (by decide) ?_
          refine lv_istore_n (lv' := [(2, .int 0), (0, .ref (a9 0)), (1, .int x1)]) hx hb dX9_layPays_106 rfl hl (by decide) rfl (fun ls hl => ?_)
          exact hB107 N x1 0 c_chooser c_later c_outs c_payOf c_placeOf c_sideAt c_won H locs ls hf hP hD hS (lv_sub hl [1, 2, 0] rfl)
        · have hf := pif_t c55 hf
          refine lv_iconst (v := 0) hx hb dX9_layPays_58 (by decide) ?_
          refine lv_istore_n (lv' := [(2, .int 0), (0, .ref (a9 0)), (1, .int x1)]) hx hb dX9_layPays_59 rfl hl (by decide) rfl (fun ls hl => ?_)
          exact hB60 N x1 0 c_chooser c_later c_outs c_payOf c_placeOf c_sideAt c_won H locs ls hf hP hD hS (lv_sub hl [1, 2, 0] rfl)
      · have hf := pif_f c14 hf
        refine lv_aload_n hx hb dX9_layPays_17 rfl (lv_at hl 0 rfl) ?_
        refine va_get (D := D) (ci := 9) (v := .ref (a9 20)) (C := RX9) (T := TX9) (N := 52) hx hb hL inlX9 hown hK.1 hP 0 rfl rfl 32 (by decide) w0 (fun _ h9 => h9) rfl dX9_layPays_18 ?_
        refine lv_iload_n hx hb dX9_layPays_21 rfl (lv_at hl 2 rfl) ?_
        refine lv_aload_n hx hb dX9_layPays_22 rfl (lv_at hl 0 rfl) ?_
        refine va_get (D := D) (ci := 9) (v := .ref (a9 5)) (C := RX9) (T := TX9) (N := 52) hx hb hL inlX9 hown hK.1 hP 0 rfl rfl 12 (by decide) w1 (fun _ h9 => h9) rfl dX9_layPays_23 ?_
        refine lv_bipush (v := 8) hx hb dX9_layPays_26 (by decide) ?_
        refine lv_aload_n hx hb dX9_layPays_28 rfl (lv_at hl 0 rfl) ?_
        refine va_get (D := D) (ci := 9) (v := .ref (a9 16)) (C := RX9) (T := TX9) (N := 52) hx hb hL inlX9 hown hK.1 hP 0 rfl rfl 28 (by decide) w3 (fun _ h9 => h9) rfl dX9_layPays_29 ?_
        refine lv_iload_n hx hb dX9_layPays_32 rfl (lv_at hl 2 rfl) ?_
        obtain ⟨h33, hf⟩ := pg_some hf
        refine va_iald hx hb hK.1 hP 9 0 rfl rfl h33 dX9_layPays_33 ?_
        refine lv_iadd hx hb dX9_layPays_34 ?_
        obtain ⟨h35, hf⟩ := pg_some hf
        refine va_iald hx hb hK.1 hP 4 0 rfl rfl h35 dX9_layPays_35 ?_
        refine lv_aload_n hx hb dX9_layPays_36 rfl (lv_at hl 0 rfl) ?_
        obtain ⟨q37, e37, hf⟩ := pb_some hf
        refine cc_i (wc := [(a9 0, .inr (9, fl9 a9 i9 g9)), ((a9 5), .inl (cyI, 32, .inl c_holds))]) (wr := [((a9 17), .inl (cyI, 6, .inl c_chooser)), ((a9 9), .inl (cyI, 60, .inl c_firsts)), ((a9 11), .inl (cyI, 60, .inl c_goes)), ((a9 19), .inl (cyI, 6, .inl c_later)), ((a9 12), .inl (cyI, 2, .inl c_many)), ((a9 18), .inl (cyI, 6, .inl c_outs)), ((a9 20), .inl (cyI, 6, .inl c_payOf)), ((a9 16), .inl (cyI, 6, .inl c_placeOf)), ((a9 10), .inl (cyI, 60, .inl c_seconds)), ((a9 15), .inl (cyI, 6, .inl c_sideAt)), ((a9 14), .inl (cyI, 6, .inl c_won))]) (w1 := [(a9 0, .inr (9, fl9 a9 i9 g9)), ((a9 5), .inl (cyI, 32, .inl c_holds))]) (wn := [(a9 0, .inr (9, fl9 a9 i9 g9)), ((a9 17), .inl (cyI, 6, .inl c_chooser)), ((a9 9), .inl (cyI, 60, .inl c_firsts)), ((a9 11), .inl (cyI, 60, .inl c_goes)), ((a9 5), .inl (cyI, 32, .inl c_holds)), ((a9 19), .inl (cyI, 6, .inl c_later)), ((a9 12), .inl (cyI, 2, .inl c_many)), ((a9 18), .inl (cyI, 6, .inl c_outs)), ((a9 20), .inl (cyI, 6, .inl c_payOf)), ((a9 16), .inl (cyI, 6, .inl c_placeOf)), ((a9 10), .inl (cyI, 60, .inl c_seconds)), ((a9 15), .inl (cyI, 6, .inl c_sideAt)), ((a9 14), .inl (cyI, 6, .inl c_won))]) hP hD hS hA [0, 4] [1, 2, 3, 5, 6, 7, 8, 9, 10, 11, 12] [11, 0, 1, 2, 12, 3, 4, 5, 6, 7, 8, 9, 10] rfl rfl rfl (by decide) rfl rfl (va_runV (C := RX9) (As := []) (rest := [.int (c_holds (8 + (c_placeOf x2.toNatClampNeg)).toNatClampNeg), .int x2, .ref (a9 20)]) ⟨hx, hb, hml, hown, hL⟩ (mX9_unit l D cyI cyJ cyB cyS N H.size a9 i9 g9 c_holds  q37 e37) (cwV 0 hL (gV (hR33 0 rfl) (hR33 1 rfl) (hR33 2 rfl) (hR1 5 rfl) (hR33 3 rfl)) rfl rfl rfl (by decide +kernel) ⟨Nat.le_of_ble_eq_true rfl, Nat.le_of_ble_eq_true rfl⟩) (PP_preV (ci := 9) (q0 := 0) hP hD hK [0, 4] rfl rfl rfl rfl) rfl rfl hl.1 rfl (lv_room (Nat.le_of_ble_eq_true rfl)) dX9_layPays_37 ⟨Nat.le_of_ble_eq_true rfl, Nat.le_of_ble_eq_true rfl⟩) (fun H locs hP hD hS => ?_)
        refine lv_imul hx hb dX9_layPays_40 ?_
        obtain ⟨h41, hf⟩ := pg_some hf
        refine va_iast hx hb hK.1 hP hD hS 8 0 rfl rfl h41 dX9_layPays_41 (fun H locs hP hD hS => ?_)
        have hP : va_P D vwCl [(a9 0, .inr (9, fl9 a9 i9 g9)), ((a9 17), .inl (cyI, 6, .inl c_chooser)), ((a9 9), .inl (cyI, 60, .inl c_firsts)), ((a9 11), .inl (cyI, 60, .inl c_goes)), ((a9 5), .inl (cyI, 32, .inl c_holds)), ((a9 19), .inl (cyI, 6, .inl c_later)), ((a9 12), .inl (cyI, 2, .inl c_many)), ((a9 18), .inl (cyI, 6, .inl c_outs)), ((a9 20), .inl (cyI, 6, .inl (upd c_payOf x2.toNatClampNeg ((c_holds (8 + (c_placeOf x2.toNatClampNeg)).toNatClampNeg) * q37)))), ((a9 16), .inl (cyI, 6, .inl c_placeOf)), ((a9 10), .inl (cyI, 60, .inl c_seconds)), ((a9 15), .inl (cyI, 6, .inl c_sideAt)), ((a9 14), .inl (cyI, 6, .inl c_won))] H := hP
        have hD : va_D A [(a9 0, .inr (9, fl9 a9 i9 g9)), ((a9 17), .inl (cyI, 6, .inl c_chooser)), ((a9 9), .inl (cyI, 60, .inl c_firsts)), ((a9 11), .inl (cyI, 60, .inl c_goes)), ((a9 5), .inl (cyI, 32, .inl c_holds)), ((a9 19), .inl (cyI, 6, .inl c_later)), ((a9 12), .inl (cyI, 2, .inl c_many)), ((a9 18), .inl (cyI, 6, .inl c_outs)), ((a9 20), .inl (cyI, 6, .inl (upd c_payOf x2.toNatClampNeg ((c_holds (8 + (c_placeOf x2.toNatClampNeg)).toNatClampNeg) * q37)))), ((a9 16), .inl (cyI, 6, .inl c_placeOf)), ((a9 10), .inl (cyI, 60, .inl c_seconds)), ((a9 15), .inl (cyI, 6, .inl c_sideAt)), ((a9 14), .inl (cyI, 6, .inl c_won))] := hD
        refine lv_iinc (v := x2 + 1) (lv' := [(2, .int (x2 + 1)), (0, .ref (a9 0)), (1, .int x1)]) hx hb dX9_layPays_42 hl (k := 2) rfl rfl (by decide) rfl (fun ls hl => ?_)
        refine lv_goto (tgt := 12) hx hb dX9_layPays_45 (by decide) ?_
        exact hk12 x1 (x2 + 1) c_chooser c_later c_outs (upd c_payOf x2.toNatClampNeg ((c_holds (8 + (c_placeOf x2.toNatClampNeg)).toNatClampNeg) * q37)) c_placeOf c_sideAt c_won H locs ls hf hP hD hS (lv_sub hl [1, 2, 0] rfl)
  unfold fX9_layPays at hf
  obtain ⟨H, hH⟩ : ∃ H : Heap, H = s.heap := ⟨_, rfl⟩
  obtain ⟨locs, hlo⟩ : ∃ locs : List Loc, locs = [] := ⟨_, rfl⟩
  have hP : va_P D vwCl [(a9 0, .inr (9, fl9 a9 i9 g9)), ((a9 17), .inl (cyI, 6, .inl c_chooser)), ((a9 9), .inl (cyI, 60, .inl c_firsts)), ((a9 11), .inl (cyI, 60, .inl c_goes)), ((a9 5), .inl (cyI, 32, .inl c_holds)), ((a9 19), .inl (cyI, 6, .inl c_later)), ((a9 12), .inl (cyI, 2, .inl c_many)), ((a9 18), .inl (cyI, 6, .inl c_outs)), ((a9 20), .inl (cyI, 6, .inl c_payOf)), ((a9 16), .inl (cyI, 6, .inl c_placeOf)), ((a9 10), .inl (cyI, 60, .inl c_seconds)), ((a9 15), .inl (cyI, 6, .inl c_sideAt)), ((a9 14), .inl (cyI, 6, .inl c_won))] H := by rw [hH]; exact hP
  have hS : va_S A s.heap H locs := by rw [hH, hlo]; exact hS
  suffices hw : W p l e rmX9_layPays s m av below meth c H locs 0 0 Q (F0 m 0 ls []) by rw [hH, hlo] at hw; exact hw
  refine lv_aload_n hx hb dX9_layPays_0 rfl (lv_at hl 0 rfl) ?_
  refine lv_iconst (v := 0) hx hb dX9_layPays_1 (by decide) ?_
  obtain ⟨q2, e2, hf⟩ := pb_some hf
  refine cc_v (wc := [(a9 0, .inr (9, fl9 a9 i9 g9)), ((a9 9), .inl (cyI, 60, .inl c_firsts)), ((a9 11), .inl (cyI, 60, .inl c_goes)), ((a9 5), .inl (cyI, 32, .inl c_holds)), ((a9 12), .inl (cyI, 2, .inl c_many)), ((a9 16), .inl (cyI, 6, .inl c_placeOf)), ((a9 10), .inl (cyI, 60, .inl c_seconds)), ((a9 15), .inl (cyI, 6, .inl c_sideAt)), ((a9 14), .inl (cyI, 6, .inl c_won))]) (wr := [((a9 17), .inl (cyI, 6, .inl c_chooser)), ((a9 19), .inl (cyI, 6, .inl c_later)), ((a9 18), .inl (cyI, 6, .inl c_outs)), ((a9 20), .inl (cyI, 6, .inl c_payOf))]) (w1 := [(a9 0, .inr (9, fl9 a9 i9 g9)), ((a9 9), .inl (cyI, 60, .inl c_firsts)), ((a9 11), .inl (cyI, 60, .inl c_goes)), ((a9 5), .inl (cyI, 32, .inl c_holds)), ((a9 12), .inl (cyI, 2, .inl c_many)), ((a9 16), .inl (cyI, 6, .inl q2.1)), ((a9 10), .inl (cyI, 60, .inl c_seconds)), ((a9 15), .inl (cyI, 6, .inl q2.2.1)), ((a9 14), .inl (cyI, 6, .inl q2.2.2))]) (wn := [(a9 0, .inr (9, fl9 a9 i9 g9)), ((a9 17), .inl (cyI, 6, .inl c_chooser)), ((a9 9), .inl (cyI, 60, .inl c_firsts)), ((a9 11), .inl (cyI, 60, .inl c_goes)), ((a9 5), .inl (cyI, 32, .inl c_holds)), ((a9 19), .inl (cyI, 6, .inl c_later)), ((a9 12), .inl (cyI, 2, .inl c_many)), ((a9 18), .inl (cyI, 6, .inl c_outs)), ((a9 20), .inl (cyI, 6, .inl c_payOf)), ((a9 16), .inl (cyI, 6, .inl q2.1)), ((a9 10), .inl (cyI, 60, .inl c_seconds)), ((a9 15), .inl (cyI, 6, .inl q2.2.1)), ((a9 14), .inl (cyI, 6, .inl q2.2.2))]) hP hD hS hA [0, 2, 3, 4, 6, 9, 10, 11, 12] [1, 5, 7, 8] [4, 0, 5, 6, 7, 1, 8, 2, 3, 9, 10, 11, 12] rfl rfl rfl (by decide) rfl rfl (va_runV (C := RX9) (As := [.int 0]) (rest := []) ⟨hx, hb, hml, hown, hL⟩ (mX9_layTable l D cyI cyJ cyB cyS N H.size a9 i9 g9 c_firsts c_goes c_holds c_many c_placeOf c_seconds c_sideAt c_won 0 q2 e2) (cwV 1 hL (gV (hR23 17 rfl) (hR23 18 rfl) (hR23 19 rfl) (hR1 5 rfl) (hR23 20 rfl)) rfl rfl rfl (by decide +kernel) ⟨Nat.le_of_ble_eq_true rfl, Nat.le_of_ble_eq_true rfl⟩) (PP_preV (ci := 9) (q0 := 0) hP hD hK [0, 2, 3, 4, 6, 9, 10, 11, 12] rfl rfl rfl rfl) rfl rfl hl.1 rfl (lv_room (Nat.le_of_ble_eq_true rfl)) dX9_layPays_2 ⟨Nat.le_of_ble_eq_true rfl, Nat.le_of_ble_eq_true rfl⟩) (fun H locs hP hD hS => ?_)
  refine lv_aload_n hx hb dX9_layPays_5 rfl (lv_at hl 0 rfl) ?_
  obtain ⟨q6, e6, hf⟩ := pb_some hf
  refine cc_i (wc := [(a9 0, .inr (9, fl9 a9 i9 g9)), ((a9 5), .inl (cyI, 32, .inl c_holds))]) (wr := [((a9 17), .inl (cyI, 6, .inl c_chooser)), ((a9 9), .inl (cyI, 60, .inl c_firsts)), ((a9 11), .inl (cyI, 60, .inl c_goes)), ((a9 19), .inl (cyI, 6, .inl c_later)), ((a9 12), .inl (cyI, 2, .inl c_many)), ((a9 18), .inl (cyI, 6, .inl c_outs)), ((a9 20), .inl (cyI, 6, .inl c_payOf)), ((a9 16), .inl (cyI, 6, .inl q2.1)), ((a9 10), .inl (cyI, 60, .inl c_seconds)), ((a9 15), .inl (cyI, 6, .inl q2.2.1)), ((a9 14), .inl (cyI, 6, .inl q2.2.2))]) (w1 := [(a9 0, .inr (9, fl9 a9 i9 g9)), ((a9 5), .inl (cyI, 32, .inl c_holds))]) (wn := [(a9 0, .inr (9, fl9 a9 i9 g9)), ((a9 17), .inl (cyI, 6, .inl c_chooser)), ((a9 9), .inl (cyI, 60, .inl c_firsts)), ((a9 11), .inl (cyI, 60, .inl c_goes)), ((a9 5), .inl (cyI, 32, .inl c_holds)), ((a9 19), .inl (cyI, 6, .inl c_later)), ((a9 12), .inl (cyI, 2, .inl c_many)), ((a9 18), .inl (cyI, 6, .inl c_outs)), ((a9 20), .inl (cyI, 6, .inl c_payOf)), ((a9 16), .inl (cyI, 6, .inl q2.1)), ((a9 10), .inl (cyI, 60, .inl c_seconds)), ((a9 15), .inl (cyI, 6, .inl q2.2.1)), ((a9 14), .inl (cyI, 6, .inl q2.2.2))]) hP hD hS hA [0, 4] [1, 2, 3, 5, 6, 7, 8, 9, 10, 11, 12] [11, 0, 1, 2, 12, 3, 4, 5, 6, 7, 8, 9, 10] rfl rfl rfl (by decide) rfl rfl (va_runV (C := RX9) (As := []) (rest := []) ⟨hx, hb, hml, hown, hL⟩ (mX9_sides l D cyI cyJ cyB cyS N H.size a9 i9 g9 c_holds  q6 e6) (cwV 0 hL (gV (hR19 15 rfl) (hR19 16 rfl) (hR19 17 rfl) (hR1 5 rfl) (hR19 18 rfl)) rfl rfl rfl (by decide +kernel) ⟨Nat.le_of_ble_eq_true rfl, Nat.le_of_ble_eq_true rfl⟩) (PP_preV (ci := 9) (q0 := 0) hP hD hK [0, 4] rfl rfl rfl rfl) rfl rfl hl.1 rfl (lv_room (Nat.le_of_ble_eq_true rfl)) dX9_layPays_6 ⟨Nat.le_of_ble_eq_true rfl, Nat.le_of_ble_eq_true rfl⟩) (fun H locs hP hD hS => ?_)
  refine lv_istore_n (lv' := [(1, .int q6), (0, .ref (a9 0))]) hx hb dX9_layPays_9 rfl hl (by decide) rfl (fun ls hl => ?_)
  refine lv_iconst (v := 0) hx hb dX9_layPays_10 (by decide) ?_
  refine lv_istore_n (lv' := [(2, .int 0), (1, .int q6), (0, .ref (a9 0))]) hx hb dX9_layPays_11 rfl hl (by decide) rfl (fun ls hl => ?_)
  exact hB12 N q6 0 c_chooser c_later c_outs c_payOf q2.1 q2.2.1 q2.2.2 H locs ls hf hP hD hS (lv_sub hl [2, 1, 0] rfl)
abbrev rmX9_chooses : Room := { frames := 4, cells := 0, slots := 0, locals := 98 }
set_option maxHeartbeats 40000000 in
set_option maxRecDepth 100000 in
theorem mX9_chooses (l : Launch) (D : va_G) (cyI cyJ cyB cyS : ClassId) (N : Nat) (sz : Nat) (a9 : Nat → Nat) (i9 : Nat → Int32) (g9 : Nat → Int64) (c_chooser : Nat → Int32) (c_firsts : Nat → Int32) (c_goes : Nat → Int32) (c_holds : Nat → Int32) (c_later : Nat → Int32) (c_many : Nat → Int32) (c_outs : Nat → Int32) (c_placeOf : Nat → Int32) (c_seconds : Nat → Int32) (c_sideAt : Nat → Int32) (c_won : Nat → Int32) (x1 : Int32) (x2 : Int32) (q : Int32 × (Nat → Int32) × (Nat → Int32) × (Nat → Int32) × (Nat → Int32) × (Nat → Int32) × (Nat → Int32)) (hf : fX9_chooses N c_chooser c_firsts c_goes c_holds c_later c_many c_outs c_placeOf c_seconds c_sideAt c_won x1 x2 = some q) : Met l yX9_chooses (wS yX9_chooses cX9_chooses 4 (some .int)) rmX9_chooses (va_Pc [.ref (a9 0), .int x1, .int x2] (PP D cyI cyJ cyB cyS [(a9 0, .inr (9, fl9 a9 i9 g9)), ((a9 17), .inl (cyI, 6, .inl c_chooser)), ((a9 9), .inl (cyI, 60, .inl c_firsts)), ((a9 11), .inl (cyI, 60, .inl c_goes)), ((a9 5), .inl (cyI, 32, .inl c_holds)), ((a9 19), .inl (cyI, 6, .inl c_later)), ((a9 12), .inl (cyI, 2, .inl c_many)), ((a9 18), .inl (cyI, 6, .inl c_outs)), ((a9 16), .inl (cyI, 6, .inl c_placeOf)), ((a9 10), .inl (cyI, 60, .inl c_seconds)), ((a9 15), .inl (cyI, 6, .inl c_sideAt)), ((a9 14), .inl (cyI, 6, .inl c_won))] sz)) (QI q.1 D [(a9 0, .inr (9, fl9 a9 i9 g9)), ((a9 17), .inl (cyI, 6, .inl q.2.1)), ((a9 9), .inl (cyI, 60, .inl c_firsts)), ((a9 11), .inl (cyI, 60, .inl c_goes)), ((a9 5), .inl (cyI, 32, .inl c_holds)), ((a9 19), .inl (cyI, 6, .inl q.2.2.1)), ((a9 12), .inl (cyI, 2, .inl c_many)), ((a9 18), .inl (cyI, 6, .inl q.2.2.2.1)), ((a9 16), .inl (cyI, 6, .inl q.2.2.2.2.1)), ((a9 10), .inl (cyI, 60, .inl c_seconds)), ((a9 15), .inl (cyI, 6, .inl q.2.2.2.2.2.1)), ((a9 14), .inl (cyI, 6, .inl q.2.2.2.2.2.2))] (va_A [(a9 0, .inr (9, fl9 a9 i9 g9)), ((a9 17), .inl (cyI, 6, .inl c_chooser)), ((a9 9), .inl (cyI, 60, .inl c_firsts)), ((a9 11), .inl (cyI, 60, .inl c_goes)), ((a9 5), .inl (cyI, 32, .inl c_holds)), ((a9 19), .inl (cyI, 6, .inl c_later)), ((a9 12), .inl (cyI, 2, .inl c_many)), ((a9 18), .inl (cyI, 6, .inl c_outs)), ((a9 16), .inl (cyI, 6, .inl c_placeOf)), ((a9 10), .inl (cyI, 60, .inl c_seconds)), ((a9 15), .inl (cyI, 6, .inl c_sideAt)), ((a9 14), .inl (cyI, 6, .inl c_won))] sz)) 0 0 (va_A [(a9 0, .inr (9, fl9 a9 i9 g9)), ((a9 17), .inl (cyI, 6, .inl c_chooser)), ((a9 9), .inl (cyI, 60, .inl c_firsts)), ((a9 11), .inl (cyI, 60, .inl c_goes)), ((a9 5), .inl (cyI, 32, .inl c_holds)), ((a9 19), .inl (cyI, 6, .inl c_later)), ((a9 12), .inl (cyI, 2, .inl c_many)), ((a9 18), .inl (cyI, 6, .inl c_outs)), ((a9 16), .inl (cyI, 6, .inl c_placeOf)), ((a9 10), .inl (cyI, 60, .inl c_seconds)), ((a9 15), .inl (cyI, 6, .inl c_sideAt)), ((a9 14), .inl (cyI, 6, .inl c_won))] sz) := by
  refine Met.ofW (cc := cX9_chooses) (maxL := 4) (ret := (some .int)) (by decide) rfl ?_
  intro p e s m args below meth c s₁ B hml hv
  obtain ⟨rfl, hsz, hP, hK, hD0⟩ := hv
  have hx := B.exec
  have hb := B.bytes
  have hr := B.returns
  have hts := atoms_spec (ws := (wS yX9_chooses cX9_chooses 4 (some .int))) B.pre
  have hown : s.vm.findClass RX9 = some m.cls := findClass_of_methodNamed B.named
  have hlocks := B.notSynchronized
  subst hsz
  have hD := hD0.self (sz := s.heap.size)
  refine w_nameQ (fun Q hQ => ?_)
  have hl := lv_entry ([.ref (a9 0), .int x1, .int x2] : List Value) (n := 4) (Nat.le_of_ble_eq_true rfl)
  rw [lg_entry_eq]
  generalize (lg_sl ([.ref (a9 0), .int x1, .int x2] : List Value) ++ List.replicate (4 - (lg_sl ([.ref (a9 0), .int x1, .int x2] : List Value)).length) Slot.unset).toArray = ls at hl ⊢
  have hl : lv_has ls 4 [(0, .ref (a9 0)), (1, .int x1), (2, .int x2)] := hl
  generalize hAe : va_A [(a9 0, .inr (9, fl9 a9 i9 g9)), ((a9 17), .inl (cyI, 6, .inl c_chooser)), ((a9 9), .inl (cyI, 60, .inl c_firsts)), ((a9 11), .inl (cyI, 60, .inl c_goes)), ((a9 5), .inl (cyI, 32, .inl c_holds)), ((a9 19), .inl (cyI, 6, .inl c_later)), ((a9 12), .inl (cyI, 2, .inl c_many)), ((a9 18), .inl (cyI, 6, .inl c_outs)), ((a9 16), .inl (cyI, 6, .inl c_placeOf)), ((a9 10), .inl (cyI, 60, .inl c_seconds)), ((a9 15), .inl (cyI, 6, .inl c_sideAt)), ((a9 14), .inl (cyI, 6, .inl c_won))] s.heap.size = A at hD hQ
  have hA : ∀ q : Nat, s.heap.size ≤ q → A q := fun q h => by rw [← hAe]; exact Or.inr h
  have hS : va_S A s.heap s.heap [] := va_S.rf
  generalize ([.ref (a9 0), .int x1, .int x2] : List Value).toArray = av at hts hQ ⊢
  have hL : ∀ w ∈ wsL_law, w.before av s = true := fun w h => hts w (List.mem_cons_of_mem _ h)
  have w0 := hL (.fieldLink RX9 22 "LosingLeagueModel" "holds" "[I") (hR6 8 rfl)
  have w1 := hL (.fieldLink RX9 58 "LosingLeagueModel" "chooser" "[I") (hR6 20 rfl)
  have w2 := hL (.fieldLink RX9 55 "LosingLeagueModel" "placeOf" "[I") (hR6 19 rfl)
  have hB65 : ∀ (x3 : Int32) (c_chooser : Nat → Int32) (c_later : Nat → Int32) (c_outs : Nat → Int32) (c_placeOf : Nat → Int32) (c_sideAt : Nat → Int32) (c_won : Nat → Int32) (H : Heap) (locs : List Loc) (ls : Array Slot), fX9_chooses_65 N c_firsts c_goes c_holds c_many c_seconds x1 x2 x3 c_chooser c_later c_outs c_placeOf c_sideAt c_won = some q → va_P D vwCl [(a9 0, .inr (9, fl9 a9 i9 g9)), ((a9 17), .inl (cyI, 6, .inl c_chooser)), ((a9 9), .inl (cyI, 60, .inl c_firsts)), ((a9 11), .inl (cyI, 60, .inl c_goes)), ((a9 5), .inl (cyI, 32, .inl c_holds)), ((a9 19), .inl (cyI, 6, .inl c_later)), ((a9 12), .inl (cyI, 2, .inl c_many)), ((a9 18), .inl (cyI, 6, .inl c_outs)), ((a9 16), .inl (cyI, 6, .inl c_placeOf)), ((a9 10), .inl (cyI, 60, .inl c_seconds)), ((a9 15), .inl (cyI, 6, .inl c_sideAt)), ((a9 14), .inl (cyI, 6, .inl c_won))] H → va_D A [(a9 0, .inr (9, fl9 a9 i9 g9)), ((a9 17), .inl (cyI, 6, .inl c_chooser)), ((a9 9), .inl (cyI, 60, .inl c_firsts)), ((a9 11), .inl (cyI, 60, .inl c_goes)), ((a9 5), .inl (cyI, 32, .inl c_holds)), ((a9 19), .inl (cyI, 6, .inl c_later)), ((a9 12), .inl (cyI, 2, .inl c_many)), ((a9 18), .inl (cyI, 6, .inl c_outs)), ((a9 16), .inl (cyI, 6, .inl c_placeOf)), ((a9 10), .inl (cyI, 60, .inl c_seconds)), ((a9 15), .inl (cyI, 6, .inl c_sideAt)), ((a9 14), .inl (cyI, 6, .inl c_won))] → va_S A s.heap H locs → lv_has ls 4 [(0, .ref (a9 0)), (1, .int x1), (3, .int x3)] → W p l e rmX9_chooses s m av below meth c H locs 0 0 Q (F0 m 65 ls []) := by
    intro x3 c_chooser c_later c_outs c_placeOf c_sideAt c_won H locs ls hf hP hD hS hl
    unfold fX9_chooses_65 at hf
    refine lv_aload_n hx hb dX9_chooses_65 rfl (lv_at hl 0 rfl) ?_
    obtain ⟨q66, e66, hf⟩ := pb_some hf
    refine cc_i (wc := [(a9 0, .inr (9, fl9 a9 i9 g9)), ((a9 11), .inl (cyI, 60, .inl c_goes)), ((a9 12), .inl (cyI, 2, .inl c_many))]) (wr := [((a9 17), .inl (cyI, 6, .inl c_chooser)), ((a9 9), .inl (cyI, 60, .inl c_firsts)), ((a9 5), .inl (cyI, 32, .inl c_holds)), ((a9 19), .inl (cyI, 6, .inl c_later)), ((a9 18), .inl (cyI, 6, .inl c_outs)), ((a9 16), .inl (cyI, 6, .inl c_placeOf)), ((a9 10), .inl (cyI, 60, .inl c_seconds)), ((a9 15), .inl (cyI, 6, .inl c_sideAt)), ((a9 14), .inl (cyI, 6, .inl c_won))]) (w1 := [(a9 0, .inr (9, fl9 a9 i9 g9)), ((a9 11), .inl (cyI, 60, .inl c_goes)), ((a9 12), .inl (cyI, 2, .inl c_many))]) (wn := [(a9 0, .inr (9, fl9 a9 i9 g9)), ((a9 17), .inl (cyI, 6, .inl c_chooser)), ((a9 9), .inl (cyI, 60, .inl c_firsts)), ((a9 11), .inl (cyI, 60, .inl c_goes)), ((a9 5), .inl (cyI, 32, .inl c_holds)), ((a9 19), .inl (cyI, 6, .inl c_later)), ((a9 12), .inl (cyI, 2, .inl c_many)), ((a9 18), .inl (cyI, 6, .inl c_outs)), ((a9 16), .inl (cyI, 6, .inl c_placeOf)), ((a9 10), .inl (cyI, 60, .inl c_seconds)), ((a9 15), .inl (cyI, 6, .inl c_sideAt)), ((a9 14), .inl (cyI, 6, .inl c_won))]) hP hD hS hA [0, 3, 6] [1, 2, 4, 5, 7, 8, 9, 10, 11] [9, 0, 1, 10, 2, 3, 11, 4, 5, 6, 7, 8] rfl rfl rfl (by decide) rfl rfl (va_runV (C := RX9) (As := []) (rest := []) ⟨hx, hb, hml, hown, hL⟩ (mX9_openMany l D cyI cyJ cyB cyS N H.size a9 i9 g9 c_goes c_many  q66 e66) (cwV 0 hL (gV (hR26 1 rfl) (hR26 2 rfl) (hR26 3 rfl) (hR1 5 rfl) (hR26 4 rfl)) rfl rfl rfl (by decide +kernel) ⟨Nat.le_of_ble_eq_true rfl, Nat.le_of_ble_eq_true rfl⟩) (PP_preV (ci := 9) (q0 := 0) hP hD hK [0, 3, 6] rfl rfl rfl rfl) rfl rfl hl.1 rfl (lv_room (Nat.le_of_ble_eq_true rfl)) dX9_chooses_66 ⟨Nat.le_of_ble_eq_true rfl, Nat.le_of_ble_eq_true rfl⟩) (fun H locs hP hD hS => ?_)
    refine lv_if_le (tgt := 75) hx hb dX9_chooses_69 (by decide) (fun c69 => ?_) (fun c69 => ?_)
    · have hf := pif_t c69 hf
      refine lv_aload_n hx hb dX9_chooses_75 rfl (lv_at hl 0 rfl) ?_
      refine va_get (D := D) (ci := 9) (v := .ref (a9 5)) (C := RX9) (T := TX9) (N := 52) hx hb hL inlX9 hown hK.1 hP 0 rfl rfl 12 (by decide) w0 (fun _ h9 => h9) rfl dX9_chooses_76 ?_
      refine lv_iconst (v := 1) hx hb dX9_chooses_79 (by decide) ?_
      obtain ⟨h80, hf⟩ := pg_some hf
      refine va_iald hx hb hK.1 hP 4 0 rfl rfl h80 dX9_chooses_80 ?_
      refine lv_iconst (v := 4) hx hb dX9_chooses_81 (by decide) ?_
      refine lv_icmp_ne (tgt := 88) hx hb dX9_chooses_82 (by decide) (fun c82 => ?_) (fun c82 => ?_)
      · have hf := pif_f c82 hf
        refine lv_aload_n hx hb dX9_chooses_88 rfl (lv_at hl 0 rfl) ?_
        refine lv_iconst (v := 0) hx hb dX9_chooses_89 (by decide) ?_
        refine lv_iload_n hx hb dX9_chooses_90 rfl (lv_at hl 2 rfl) ?_
        obtain ⟨q91, e91, hf⟩ := pb_some hf
        refine cc_v (wc := [(a9 0, .inr (9, fl9 a9 i9 g9)), ((a9 17), .inl (cyI, 6, .inl c_chooser)), ((a9 9), .inl (cyI, 60, .inl c_firsts)), ((a9 11), .inl (cyI, 60, .inl c_goes)), ((a9 5), .inl (cyI, 32, .inl c_holds)), ((a9 19), .inl (cyI, 6, .inl c_later)), ((a9 12), .inl (cyI, 2, .inl c_many)), ((a9 18), .inl (cyI, 6, .inl c_outs)), ((a9 16), .inl (cyI, 6, .inl c_placeOf)), ((a9 10), .inl (cyI, 60, .inl c_seconds)), ((a9 15), .inl (cyI, 6, .inl c_sideAt)), ((a9 14), .inl (cyI, 6, .inl c_won))]) (wr := []) (w1 := [(a9 0, .inr (9, fl9 a9 i9 g9)), ((a9 17), .inl (cyI, 6, .inl q91.1)), ((a9 9), .inl (cyI, 60, .inl c_firsts)), ((a9 11), .inl (cyI, 60, .inl c_goes)), ((a9 5), .inl (cyI, 32, .inl c_holds)), ((a9 19), .inl (cyI, 6, .inl q91.2.1)), ((a9 12), .inl (cyI, 2, .inl c_many)), ((a9 18), .inl (cyI, 6, .inl q91.2.2)), ((a9 16), .inl (cyI, 6, .inl c_placeOf)), ((a9 10), .inl (cyI, 60, .inl c_seconds)), ((a9 15), .inl (cyI, 6, .inl c_sideAt)), ((a9 14), .inl (cyI, 6, .inl c_won))]) (wn := [(a9 0, .inr (9, fl9 a9 i9 g9)), ((a9 17), .inl (cyI, 6, .inl q91.1)), ((a9 9), .inl (cyI, 60, .inl c_firsts)), ((a9 11), .inl (cyI, 60, .inl c_goes)), ((a9 5), .inl (cyI, 32, .inl c_holds)), ((a9 19), .inl (cyI, 6, .inl q91.2.1)), ((a9 12), .inl (cyI, 2, .inl c_many)), ((a9 18), .inl (cyI, 6, .inl q91.2.2)), ((a9 16), .inl (cyI, 6, .inl c_placeOf)), ((a9 10), .inl (cyI, 60, .inl c_seconds)), ((a9 15), .inl (cyI, 6, .inl c_sideAt)), ((a9 14), .inl (cyI, 6, .inl c_won))]) hP hD hS hA [0, 1, 2, 3, 4, 5, 6, 7, 8, 9, 10, 11] [] [0, 1, 2, 3, 4, 5, 6, 7, 8, 9, 10, 11] rfl rfl rfl (by decide) rfl rfl (va_runV (C := RX9) (As := [.int 0, .int x3]) (rest := []) ⟨hx, hb, hml, hown, hL⟩ (mX9_layChoices l D cyI cyJ cyB cyS N H.size a9 i9 g9 c_chooser c_firsts c_goes c_holds c_later c_many c_outs c_placeOf c_seconds c_sideAt c_won 0 x3 q91 e91) (cwV 2 hL (gV (hR29 21 rfl) (hR29 22 rfl) (hR29 23 rfl) (hR1 5 rfl) (hR30 0 rfl)) rfl rfl rfl (by decide +kernel) ⟨Nat.le_of_ble_eq_true rfl, Nat.le_of_ble_eq_true rfl⟩) (PP_preV (ci := 9) (q0 := 0) hP hD hK [0, 1, 2, 3, 4, 5, 6, 7, 8, 9, 10, 11] rfl rfl rfl rfl) rfl rfl hl.1 rfl (lv_room (Nat.le_of_ble_eq_true rfl)) dX9_chooses_91 ⟨Nat.le_of_ble_eq_true rfl, Nat.le_of_ble_eq_true rfl⟩) (fun H locs hP hD hS => ?_)
        refine lv_aload_n hx hb dX9_chooses_94 rfl (lv_at hl 0 rfl) ?_
        refine va_get (D := D) (ci := 9) (v := .ref (a9 17)) (C := RX9) (T := TX9) (N := 52) hx hb hL inlX9 hown hK.1 hP 0 rfl rfl 29 (by decide) w1 (fun _ h9 => h9) rfl dX9_chooses_95 ?_
        refine lv_iload_n hx hb dX9_chooses_98 rfl (lv_at hl 1 rfl) ?_
        obtain ⟨h99, hf⟩ := pg_some hf
        refine va_iald hx hb hK.1 hP 1 0 rfl rfl h99 dX9_chooses_99 ?_
        exact ret_i (q := q) (g := fun q => q.1) (wp := fun q => [(a9 0, .inr (9, fl9 a9 i9 g9)), ((a9 17), .inl (cyI, 6, .inl q.2.1)), ((a9 9), .inl (cyI, 60, .inl c_firsts)), ((a9 11), .inl (cyI, 60, .inl c_goes)), ((a9 5), .inl (cyI, 32, .inl c_holds)), ((a9 19), .inl (cyI, 6, .inl q.2.2.1)), ((a9 12), .inl (cyI, 2, .inl c_many)), ((a9 18), .inl (cyI, 6, .inl q.2.2.2.1)), ((a9 16), .inl (cyI, 6, .inl q.2.2.2.2.1)), ((a9 10), .inl (cyI, 60, .inl c_seconds)), ((a9 15), .inl (cyI, 6, .inl q.2.2.2.2.2.1)), ((a9 14), .inl (cyI, 6, .inl q.2.2.2.2.2.2))]) hQ hf hx hb hr hlocks hP hD hS dX9_chooses_100 rfl
      · have hf := pif_t c82 hf
        refine lv_bipush (v := (-4)) hx hb dX9_chooses_85 (by decide) ?_
        exact ret_i (q := q) (g := fun q => q.1) (wp := fun q => [(a9 0, .inr (9, fl9 a9 i9 g9)), ((a9 17), .inl (cyI, 6, .inl q.2.1)), ((a9 9), .inl (cyI, 60, .inl c_firsts)), ((a9 11), .inl (cyI, 60, .inl c_goes)), ((a9 5), .inl (cyI, 32, .inl c_holds)), ((a9 19), .inl (cyI, 6, .inl q.2.2.1)), ((a9 12), .inl (cyI, 2, .inl c_many)), ((a9 18), .inl (cyI, 6, .inl q.2.2.2.1)), ((a9 16), .inl (cyI, 6, .inl q.2.2.2.2.1)), ((a9 10), .inl (cyI, 60, .inl c_seconds)), ((a9 15), .inl (cyI, 6, .inl q.2.2.2.2.2.1)), ((a9 14), .inl (cyI, 6, .inl q.2.2.2.2.2.2))]) hQ hf hx hb hr hlocks hP hD hS dX9_chooses_87 rfl
    · have hf := pif_f c69 hf
      refine lv_bipush (v := (-2)) hx hb dX9_chooses_72 (by decide) ?_
      exact ret_i (q := q) (g := fun q => q.1) (wp := fun q => [(a9 0, .inr (9, fl9 a9 i9 g9)), ((a9 17), .inl (cyI, 6, .inl q.2.1)), ((a9 9), .inl (cyI, 60, .inl c_firsts)), ((a9 11), .inl (cyI, 60, .inl c_goes)), ((a9 5), .inl (cyI, 32, .inl c_holds)), ((a9 19), .inl (cyI, 6, .inl q.2.2.1)), ((a9 12), .inl (cyI, 2, .inl c_many)), ((a9 18), .inl (cyI, 6, .inl q.2.2.2.1)), ((a9 16), .inl (cyI, 6, .inl q.2.2.2.2.1)), ((a9 10), .inl (cyI, 60, .inl c_seconds)), ((a9 15), .inl (cyI, 6, .inl q.2.2.2.2.2.1)), ((a9 14), .inl (cyI, 6, .inl q.2.2.2.2.2.2))]) hQ hf hx hb hr hlocks hP hD hS dX9_chooses_74 rfl
  unfold fX9_chooses at hf
  obtain ⟨H, hH⟩ : ∃ H : Heap, H = s.heap := ⟨_, rfl⟩
  obtain ⟨locs, hlo⟩ : ∃ locs : List Loc, locs = [] := ⟨_, rfl⟩
  have hP : va_P D vwCl [(a9 0, .inr (9, fl9 a9 i9 g9)), ((a9 17), .inl (cyI, 6, .inl c_chooser)), ((a9 9), .inl (cyI, 60, .inl c_firsts)), ((a9 11), .inl (cyI, 60, .inl c_goes)), ((a9 5), .inl (cyI, 32, .inl c_holds)), ((a9 19), .inl (cyI, 6, .inl c_later)), ((a9 12), .inl (cyI, 2, .inl c_many)), ((a9 18), .inl (cyI, 6, .inl c_outs)), ((a9 16), .inl (cyI, 6, .inl c_placeOf)), ((a9 10), .inl (cyI, 60, .inl c_seconds)), ((a9 15), .inl (cyI, 6, .inl c_sideAt)), ((a9 14), .inl (cyI, 6, .inl c_won))] H := by rw [hH]; exact hP
  have hS : va_S A s.heap H locs := by rw [hH, hlo]; exact hS
  suffices hw : W p l e rmX9_chooses s m av below meth c H locs 0 0 Q (F0 m 0 ls []) by rw [hH, hlo] at hw; exact hw
  refine lv_aload_n hx hb dX9_chooses_0 rfl (lv_at hl 0 rfl) ?_
  refine lv_iload_n hx hb dX9_chooses_1 rfl (lv_at hl 1 rfl) ?_
  obtain ⟨q2, e2, hf⟩ := pb_some hf
  refine cc_i (wc := [(a9 0, .inr (9, fl9 a9 i9 g9)), ((a9 5), .inl (cyI, 32, .inl c_holds))]) (wr := [((a9 17), .inl (cyI, 6, .inl c_chooser)), ((a9 9), .inl (cyI, 60, .inl c_firsts)), ((a9 11), .inl (cyI, 60, .inl c_goes)), ((a9 19), .inl (cyI, 6, .inl c_later)), ((a9 12), .inl (cyI, 2, .inl c_many)), ((a9 18), .inl (cyI, 6, .inl c_outs)), ((a9 16), .inl (cyI, 6, .inl c_placeOf)), ((a9 10), .inl (cyI, 60, .inl c_seconds)), ((a9 15), .inl (cyI, 6, .inl c_sideAt)), ((a9 14), .inl (cyI, 6, .inl c_won))]) (w1 := [(a9 0, .inr (9, fl9 a9 i9 g9)), ((a9 5), .inl (cyI, 32, .inl c_holds))]) (wn := [(a9 0, .inr (9, fl9 a9 i9 g9)), ((a9 17), .inl (cyI, 6, .inl c_chooser)), ((a9 9), .inl (cyI, 60, .inl c_firsts)), ((a9 11), .inl (cyI, 60, .inl c_goes)), ((a9 5), .inl (cyI, 32, .inl c_holds)), ((a9 19), .inl (cyI, 6, .inl c_later)), ((a9 12), .inl (cyI, 2, .inl c_many)), ((a9 18), .inl (cyI, 6, .inl c_outs)), ((a9 16), .inl (cyI, 6, .inl c_placeOf)), ((a9 10), .inl (cyI, 60, .inl c_seconds)), ((a9 15), .inl (cyI, 6, .inl c_sideAt)), ((a9 14), .inl (cyI, 6, .inl c_won))]) hP hD hS hA [0, 4] [1, 2, 3, 5, 6, 7, 8, 9, 10, 11] [10, 0, 1, 2, 11, 3, 4, 5, 6, 7, 8, 9] rfl rfl rfl (by decide) rfl rfl (va_runV (C := RX9) (As := [.int x1]) (rest := []) ⟨hx, hb, hml, hown, hL⟩ (mX9_isSide l D cyI cyJ cyB cyS N H.size a9 i9 g9 c_holds x1 q2 e2) (cwV 1 hL (gV (hR19 11 rfl) (hR19 12 rfl) (hR19 13 rfl) (hR1 5 rfl) (hR19 14 rfl)) rfl rfl rfl (by decide +kernel) ⟨Nat.le_of_ble_eq_true rfl, Nat.le_of_ble_eq_true rfl⟩) (PP_preV (ci := 9) (q0 := 0) hP hD hK [0, 4] rfl rfl rfl rfl) rfl rfl hl.1 rfl (lv_room (Nat.le_of_ble_eq_true rfl)) dX9_chooses_2 ⟨Nat.le_of_ble_eq_true rfl, Nat.le_of_ble_eq_true rfl⟩) (fun H locs hP hD hS => ?_)
  refine lv_if_ne (tgt := 10) hx hb dX9_chooses_5 (by decide) (fun c5 => ?_) (fun c5 => ?_)
  · have hf := pif_f c5 hf
    refine lv_aload_n hx hb dX9_chooses_10 rfl (lv_at hl 0 rfl) ?_
    refine lv_iconst (v := 0) hx hb dX9_chooses_11 (by decide) ?_
    obtain ⟨q12, e12, hf⟩ := pb_some hf
    refine cc_v (wc := [(a9 0, .inr (9, fl9 a9 i9 g9)), ((a9 9), .inl (cyI, 60, .inl c_firsts)), ((a9 11), .inl (cyI, 60, .inl c_goes)), ((a9 5), .inl (cyI, 32, .inl c_holds)), ((a9 12), .inl (cyI, 2, .inl c_many)), ((a9 16), .inl (cyI, 6, .inl c_placeOf)), ((a9 10), .inl (cyI, 60, .inl c_seconds)), ((a9 15), .inl (cyI, 6, .inl c_sideAt)), ((a9 14), .inl (cyI, 6, .inl c_won))]) (wr := [((a9 17), .inl (cyI, 6, .inl c_chooser)), ((a9 19), .inl (cyI, 6, .inl c_later)), ((a9 18), .inl (cyI, 6, .inl c_outs))]) (w1 := [(a9 0, .inr (9, fl9 a9 i9 g9)), ((a9 9), .inl (cyI, 60, .inl c_firsts)), ((a9 11), .inl (cyI, 60, .inl c_goes)), ((a9 5), .inl (cyI, 32, .inl c_holds)), ((a9 12), .inl (cyI, 2, .inl c_many)), ((a9 16), .inl (cyI, 6, .inl q12.1)), ((a9 10), .inl (cyI, 60, .inl c_seconds)), ((a9 15), .inl (cyI, 6, .inl q12.2.1)), ((a9 14), .inl (cyI, 6, .inl q12.2.2))]) (wn := [(a9 0, .inr (9, fl9 a9 i9 g9)), ((a9 17), .inl (cyI, 6, .inl c_chooser)), ((a9 9), .inl (cyI, 60, .inl c_firsts)), ((a9 11), .inl (cyI, 60, .inl c_goes)), ((a9 5), .inl (cyI, 32, .inl c_holds)), ((a9 19), .inl (cyI, 6, .inl c_later)), ((a9 12), .inl (cyI, 2, .inl c_many)), ((a9 18), .inl (cyI, 6, .inl c_outs)), ((a9 16), .inl (cyI, 6, .inl q12.1)), ((a9 10), .inl (cyI, 60, .inl c_seconds)), ((a9 15), .inl (cyI, 6, .inl q12.2.1)), ((a9 14), .inl (cyI, 6, .inl q12.2.2))]) hP hD hS hA [0, 2, 3, 4, 6, 8, 9, 10, 11] [1, 5, 7] [3, 0, 4, 5, 6, 1, 7, 2, 8, 9, 10, 11] rfl rfl rfl (by decide) rfl rfl (va_runV (C := RX9) (As := [.int 0]) (rest := []) ⟨hx, hb, hml, hown, hL⟩ (mX9_layTable l D cyI cyJ cyB cyS N H.size a9 i9 g9 c_firsts c_goes c_holds c_many c_placeOf c_seconds c_sideAt c_won 0 q12 e12) (cwV 1 hL (gV (hR23 17 rfl) (hR23 18 rfl) (hR23 19 rfl) (hR1 5 rfl) (hR23 20 rfl)) rfl rfl rfl (by decide +kernel) ⟨Nat.le_of_ble_eq_true rfl, Nat.le_of_ble_eq_true rfl⟩) (PP_preV (ci := 9) (q0 := 0) hP hD hK [0, 2, 3, 4, 6, 8, 9, 10, 11] rfl rfl rfl rfl) rfl rfl hl.1 rfl (lv_room (Nat.le_of_ble_eq_true rfl)) dX9_chooses_12 ⟨Nat.le_of_ble_eq_true rfl, Nat.le_of_ble_eq_true rfl⟩) (fun H locs hP hD hS => ?_)
    refine lv_iconst (v := 0) hx hb dX9_chooses_15 (by decide) ?_
    refine lv_istore_n (lv' := [(3, .int 0), (0, .ref (a9 0)), (1, .int x1), (2, .int x2)]) hx hb dX9_chooses_16 rfl hl (by decide) rfl (fun ls hl => ?_)
    refine lv_aload_n hx hb dX9_chooses_17 rfl (lv_at hl 1 rfl) ?_
    refine va_get (D := D) (ci := 9) (v := .ref (a9 5)) (C := RX9) (T := TX9) (N := 52) hx hb hL inlX9 hown hK.1 hP 0 rfl rfl 12 (by decide) w0 (fun _ h9 => h9) rfl dX9_chooses_18 ?_
    refine lv_iconst (v := 1) hx hb dX9_chooses_21 (by decide) ?_
    obtain ⟨h22, hf⟩ := pg_some hf
    refine va_iald hx hb hK.1 hP 4 0 rfl rfl h22 dX9_chooses_22 ?_
    refine lv_iconst (v := 1) hx hb dX9_chooses_23 (by decide) ?_
    refine lv_icmp_ne (tgt := 65) hx hb dX9_chooses_24 (by decide) (fun c24 => ?_) (fun c24 => ?_)
    · have hf := pif_f c24 hf
      exact hB65 0 c_chooser c_later c_outs q12.1 q12.2.1 q12.2.2 H locs ls hf hP hD hS (lv_sub hl [1, 2, 0] rfl)
    · have hf := pif_t c24 hf
      refine lv_aload_n hx hb dX9_chooses_27 rfl (lv_at hl 1 rfl) ?_
      refine lv_iload_n hx hb dX9_chooses_28 rfl (lv_at hl 3 rfl) ?_
      obtain ⟨q29, e29, hf⟩ := pb_some hf
      refine cc_i (wc := [(a9 0, .inr (9, fl9 a9 i9 g9)), ((a9 5), .inl (cyI, 32, .inl c_holds))]) (wr := [((a9 17), .inl (cyI, 6, .inl c_chooser)), ((a9 9), .inl (cyI, 60, .inl c_firsts)), ((a9 11), .inl (cyI, 60, .inl c_goes)), ((a9 19), .inl (cyI, 6, .inl c_later)), ((a9 12), .inl (cyI, 2, .inl c_many)), ((a9 18), .inl (cyI, 6, .inl c_outs)), ((a9 16), .inl (cyI, 6, .inl q12.1)), ((a9 10), .inl (cyI, 60, .inl c_seconds)), ((a9 15), .inl (cyI, 6, .inl q12.2.1)), ((a9 14), .inl (cyI, 6, .inl q12.2.2))]) (w1 := [(a9 0, .inr (9, fl9 a9 i9 g9)), ((a9 5), .inl (cyI, 32, .inl c_holds))]) (wn := [(a9 0, .inr (9, fl9 a9 i9 g9)), ((a9 17), .inl (cyI, 6, .inl c_chooser)), ((a9 9), .inl (cyI, 60, .inl c_firsts)), ((a9 11), .inl (cyI, 60, .inl c_goes)), ((a9 5), .inl (cyI, 32, .inl c_holds)), ((a9 19), .inl (cyI, 6, .inl c_later)), ((a9 12), .inl (cyI, 2, .inl c_many)), ((a9 18), .inl (cyI, 6, .inl c_outs)), ((a9 16), .inl (cyI, 6, .inl q12.1)), ((a9 10), .inl (cyI, 60, .inl c_seconds)), ((a9 15), .inl (cyI, 6, .inl q12.2.1)), ((a9 14), .inl (cyI, 6, .inl q12.2.2))]) hP hD hS hA [0, 4] [1, 2, 3, 5, 6, 7, 8, 9, 10, 11] [10, 0, 1, 2, 11, 3, 4, 5, 6, 7, 8, 9] rfl rfl rfl (by decide) rfl rfl (va_runV (C := RX9) (As := [.int x2]) (rest := []) ⟨hx, hb, hml, hown, hL⟩ (mX9_isSide l D cyI cyJ cyB cyS N H.size a9 i9 g9 c_holds x2 q29 e29) (cwV 1 hL (gV (hR19 11 rfl) (hR19 12 rfl) (hR19 13 rfl) (hR1 5 rfl) (hR19 14 rfl)) rfl rfl rfl (by decide +kernel) ⟨Nat.le_of_ble_eq_true rfl, Nat.le_of_ble_eq_true rfl⟩) (PP_preV (ci := 9) (q0 := 0) hP hD hK [0, 4] rfl rfl rfl rfl) rfl rfl hl.1 rfl (lv_room (Nat.le_of_ble_eq_true rfl)) dX9_chooses_29 ⟨Nat.le_of_ble_eq_true rfl, Nat.le_of_ble_eq_true rfl⟩) (fun H locs hP hD hS => ?_)
      refine lv_if_ne (tgt := 37) hx hb dX9_chooses_32 (by decide) (fun c32 => ?_) (fun c32 => ?_)
      · have hf := pif_f c32 hf
        refine lv_aload_n hx hb dX9_chooses_37 rfl (lv_at hl 1 rfl) ?_
        obtain ⟨q38, e38, hf⟩ := pb_some hf
        refine cc_i (wc := [(a9 0, .inr (9, fl9 a9 i9 g9)), ((a9 5), .inl (cyI, 32, .inl c_holds))]) (wr := [((a9 17), .inl (cyI, 6, .inl c_chooser)), ((a9 9), .inl (cyI, 60, .inl c_firsts)), ((a9 11), .inl (cyI, 60, .inl c_goes)), ((a9 19), .inl (cyI, 6, .inl c_later)), ((a9 12), .inl (cyI, 2, .inl c_many)), ((a9 18), .inl (cyI, 6, .inl c_outs)), ((a9 16), .inl (cyI, 6, .inl q12.1)), ((a9 10), .inl (cyI, 60, .inl c_seconds)), ((a9 15), .inl (cyI, 6, .inl q12.2.1)), ((a9 14), .inl (cyI, 6, .inl q12.2.2))]) (w1 := [(a9 0, .inr (9, fl9 a9 i9 g9)), ((a9 5), .inl (cyI, 32, .inl c_holds))]) (wn := [(a9 0, .inr (9, fl9 a9 i9 g9)), ((a9 17), .inl (cyI, 6, .inl c_chooser)), ((a9 9), .inl (cyI, 60, .inl c_firsts)), ((a9 11), .inl (cyI, 60, .inl c_goes)), ((a9 5), .inl (cyI, 32, .inl c_holds)), ((a9 19), .inl (cyI, 6, .inl c_later)), ((a9 12), .inl (cyI, 2, .inl c_many)), ((a9 18), .inl (cyI, 6, .inl c_outs)), ((a9 16), .inl (cyI, 6, .inl q12.1)), ((a9 10), .inl (cyI, 60, .inl c_seconds)), ((a9 15), .inl (cyI, 6, .inl q12.2.1)), ((a9 14), .inl (cyI, 6, .inl q12.2.2))]) hP hD hS hA [0, 4] [1, 2, 3, 5, 6, 7, 8, 9, 10, 11] [10, 0, 1, 2, 11, 3, 4, 5, 6, 7, 8, 9] rfl rfl rfl (by decide) rfl rfl (va_runV (C := RX9) (As := []) (rest := []) ⟨hx, hb, hml, hown, hL⟩ (mX9_sides l D cyI cyJ cyB cyS N H.size a9 i9 g9 c_holds  q38 e38) (cwV 0 hL (gV (hR19 15 rfl) (hR19 16 rfl) (hR19 17 rfl) (hR1 5 rfl) (hR19 18 rfl)) rfl rfl rfl (by decide +kernel) ⟨Nat.le_of_ble_eq_true rfl, Nat.le_of_ble_eq_true rfl⟩) (PP_preV (ci := 9) (q0 := 0) hP hD hK [0, 4] rfl rfl rfl rfl) rfl rfl hl.1 rfl (lv_room (Nat.le_of_ble_eq_true rfl)) dX9_chooses_38 ⟨Nat.le_of_ble_eq_true rfl, Nat.le_of_ble_eq_true rfl⟩) (fun H locs hP hD hS => ?_)
        refine lv_iconst (v := 1) hx hb dX9_chooses_41 (by decide) ?_
        refine lv_isub hx hb dX9_chooses_42 ?_
        refine lv_aload_n hx hb dX9_chooses_43 rfl (lv_at hl 1 rfl) ?_
        refine va_get (D := D) (ci := 9) (v := .ref (a9 16)) (C := RX9) (T := TX9) (N := 52) hx hb hL inlX9 hown hK.1 hP 0 rfl rfl 28 (by decide) w2 (fun _ h9 => h9) rfl dX9_chooses_44 ?_
        refine lv_iload_n hx hb dX9_chooses_47 rfl (lv_at hl 3 rfl) ?_
        obtain ⟨h48, hf⟩ := pg_some hf
        refine va_iald hx hb hK.1 hP 8 0 rfl rfl h48 dX9_chooses_48 ?_
        refine lv_isub hx hb dX9_chooses_49 ?_
        refine lv_istore_n (lv' := [(3, .int ((q38 - 1) - (q12.1 x2.toNatClampNeg))), (0, .ref (a9 0)), (1, .int x1), (2, .int x2)]) hx hb dX9_chooses_50 rfl hl (by decide) rfl (fun ls hl => ?_)
        refine lv_aload_n hx hb dX9_chooses_51 rfl (lv_at hl 1 rfl) ?_
        refine va_get (D := D) (ci := 9) (v := .ref (a9 5)) (C := RX9) (T := TX9) (N := 52) hx hb hL inlX9 hown hK.1 hP 0 rfl rfl 12 (by decide) w0 (fun _ h9 => h9) rfl dX9_chooses_52 ?_
        refine lv_bipush (v := 20) hx hb dX9_chooses_55 (by decide) ?_
        refine lv_iload_n hx hb dX9_chooses_57 rfl (lv_at hl 0 rfl) ?_
        refine lv_iadd hx hb dX9_chooses_58 ?_
        obtain ⟨h59, hf⟩ := pg_some hf
        refine va_iald hx hb hK.1 hP 4 0 rfl rfl h59 dX9_chooses_59 ?_
        refine lv_if_ne (tgt := 65) hx hb dX9_chooses_60 (by decide) (fun c60 => ?_) (fun c60 => ?_)
        · have hf := pif_f c60 hf
          exact hB65 ((q38 - 1) - (q12.1 x2.toNatClampNeg)) c_chooser c_later c_outs q12.1 q12.2.1 q12.2.2 H locs ls hf hP hD hS (lv_sub hl [1, 2, 0] rfl)
        · have hf := pif_t c60 hf
          refine lv_iconst (v := (-1)) hx hb dX9_chooses_63 (by decide) ?_
          exact ret_i (q := q) (g := fun q => q.1) (wp := fun q => [(a9 0, .inr (9, fl9 a9 i9 g9)), ((a9 17), .inl (cyI, 6, .inl q.2.1)), ((a9 9), .inl (cyI, 60, .inl c_firsts)), ((a9 11), .inl (cyI, 60, .inl c_goes)), ((a9 5), .inl (cyI, 32, .inl c_holds)), ((a9 19), .inl (cyI, 6, .inl q.2.2.1)), ((a9 12), .inl (cyI, 2, .inl c_many)), ((a9 18), .inl (cyI, 6, .inl q.2.2.2.1)), ((a9 16), .inl (cyI, 6, .inl q.2.2.2.2.1)), ((a9 10), .inl (cyI, 60, .inl c_seconds)), ((a9 15), .inl (cyI, 6, .inl q.2.2.2.2.2.1)), ((a9 14), .inl (cyI, 6, .inl q.2.2.2.2.2.2))]) hQ hf hx hb hr hlocks hP hD hS dX9_chooses_64 rfl
      · have hf := pif_t c32 hf
        refine lv_iconst (v := (-1)) hx hb dX9_chooses_35 (by decide) ?_
        exact ret_i (q := q) (g := fun q => q.1) (wp := fun q => [(a9 0, .inr (9, fl9 a9 i9 g9)), ((a9 17), .inl (cyI, 6, .inl q.2.1)), ((a9 9), .inl (cyI, 60, .inl c_firsts)), ((a9 11), .inl (cyI, 60, .inl c_goes)), ((a9 5), .inl (cyI, 32, .inl c_holds)), ((a9 19), .inl (cyI, 6, .inl q.2.2.1)), ((a9 12), .inl (cyI, 2, .inl c_many)), ((a9 18), .inl (cyI, 6, .inl q.2.2.2.1)), ((a9 16), .inl (cyI, 6, .inl q.2.2.2.2.1)), ((a9 10), .inl (cyI, 60, .inl c_seconds)), ((a9 15), .inl (cyI, 6, .inl q.2.2.2.2.2.1)), ((a9 14), .inl (cyI, 6, .inl q.2.2.2.2.2.2))]) hQ hf hx hb hr hlocks hP hD hS dX9_chooses_36 rfl
  · have hf := pif_t c5 hf
    refine lv_iconst (v := (-1)) hx hb dX9_chooses_8 (by decide) ?_
    exact ret_i (q := q) (g := fun q => q.1) (wp := fun q => [(a9 0, .inr (9, fl9 a9 i9 g9)), ((a9 17), .inl (cyI, 6, .inl q.2.1)), ((a9 9), .inl (cyI, 60, .inl c_firsts)), ((a9 11), .inl (cyI, 60, .inl c_goes)), ((a9 5), .inl (cyI, 32, .inl c_holds)), ((a9 19), .inl (cyI, 6, .inl q.2.2.1)), ((a9 12), .inl (cyI, 2, .inl c_many)), ((a9 18), .inl (cyI, 6, .inl q.2.2.2.1)), ((a9 16), .inl (cyI, 6, .inl q.2.2.2.2.1)), ((a9 10), .inl (cyI, 60, .inl c_seconds)), ((a9 15), .inl (cyI, 6, .inl q.2.2.2.2.2.1)), ((a9 14), .inl (cyI, 6, .inl q.2.2.2.2.2.2))]) hQ hf hx hb hr hlocks hP hD hS dX9_chooses_9 rfl
abbrev rmX9_lowest : Room := { frames := 0, cells := 0, slots := 0, locals := 0 }
set_option maxHeartbeats 40000000 in
set_option maxRecDepth 100000 in
theorem mX9_lowest (l : Launch) (D : va_G) (cyI cyJ cyB cyS : ClassId) (N : Nat) (sz : Nat)  (x0 : Int64) (x2 : Int64) (x4 : Int32) (q : Int64) (hf : fX9_lowest N x0 x2 x4 = some q) : Met l yX9_lowest (wS yX9_lowest cX9_lowest 11 (some .long)) rmX9_lowest (va_Pc [.long x0, .long x2, .int x4] (PP D cyI cyJ cyB cyS [] sz)) (QL q D [] (va_A [] sz)) 0 0 (va_A [] sz) := by
  refine Met.ofW (cc := cX9_lowest) (maxL := 11) (ret := (some .long)) (by decide) rfl ?_
  intro p e s m args below meth c s₁ B hml hv
  obtain ⟨rfl, hsz, hP, hK, hD0⟩ := hv
  have hx := B.exec
  have hb := B.bytes
  have hr := B.returns
  have hts := atoms_spec (ws := (wS yX9_lowest cX9_lowest 11 (some .long))) B.pre
  have hown : s.vm.findClass RX9 = some m.cls := findClass_of_methodNamed B.named
  have hlocks := B.notSynchronized
  subst hsz
  have hD := hD0.self (sz := s.heap.size)
  refine w_nameQ (fun Q hQ => ?_)
  have hl := lv_entry ([.long x0, .long x2, .int x4] : List Value) (n := 11) (Nat.le_of_ble_eq_true rfl)
  rw [lg_entry_eq]
  generalize (lg_sl ([.long x0, .long x2, .int x4] : List Value) ++ List.replicate (11 - (lg_sl ([.long x0, .long x2, .int x4] : List Value)).length) Slot.unset).toArray = ls at hl ⊢
  have hl : lv_has ls 11 [(0, .long x0), (2, .long x2), (4, .int x4)] := hl
  generalize hAe : va_A [] s.heap.size = A at hD hQ
  have hA : ∀ q : Nat, s.heap.size ≤ q → A q := fun q h => by rw [← hAe]; exact Or.inr h
  have hS : va_S A s.heap s.heap [] := va_S.rf
  generalize ([.long x0, .long x2, .int x4] : List Value).toArray = av at hts hQ ⊢
  have hL : ∀ w ∈ wsL_law, w.before av s = true := fun w h => hts w (List.mem_cons_of_mem _ h)
  have hB41 : ∀ (x5 : Int64) (s0 : Int64) (H : Heap) (locs : List Loc) (ls : Array Slot), fX9_lowest_41 N x0 x2 x4 x5 s0 = some q → va_P D vwCl [] H → va_D A [] → va_S A s.heap H locs → lv_has ls 11 [(5, .long x5)] → W p l e rmX9_lowest s m av below meth c H locs 0 0 Q (F0 m 41 ls [.long s0]) := by
    intro x5 s0 H locs ls hf hP hD hS hl
    unfold fX9_lowest_41 at hf
    refine lv_lload hx hb dX9_lowest_41 (lv_at hl 0 rfl) ?_
    obtain ⟨n43, hf⟩ := pg_some hf
    refine lv_ldiv hx hb dX9_lowest_43 n43 ?_
    exact ret_l (q := q) (g := fun q => q) (wp := fun q => []) hQ hf hx hb hr hlocks hP hD hS dX9_lowest_44 rfl
  have hB6 : ∀ (n : Nat), ∀ (x5 : Int64) (x7 : Int64) (H : Heap) (locs : List Loc) (ls : Array Slot), fX9_lowest_6 N x0 x2 x4 n x5 x7 = some q → va_P D vwCl [] H → va_D A [] → va_S A s.heap H locs → lv_has ls 11 [(0, .long x0), (2, .long x2), (4, .int x4), (5, .long x5), (7, .long x7)] → W p l e rmX9_lowest s m av below meth c H locs 0 0 Q (F0 m 6 ls []) := by
    intro n
    induction n with
    | zero => intro x5 x7 H locs ls hf; exact absurd hf (by simp [fX9_lowest_6])
    | succ n hk6 =>
      intro x5 x7 H locs ls hf hP hD hS hl
      rw [fX9_lowest_6] at hf
      refine lv_lload hx hb dX9_lowest_6 (lv_at hl 4 rfl) ?_
      refine lv_lconst (v := 0) hx hb dX9_lowest_8 (by decide) ?_
      refine W.lcmp hx hb dX9_lowest_9 ?_
      refine lv_if_eq (tgt := 31) hx hb dX9_lowest_10 (by decide) (fun c10 => ?_) (fun c10 => ?_)
      · have hf := pif_t c10 hf
        refine lv_iload hx hb dX9_lowest_31 (lv_at hl 2 rfl) ?_
        refine lv_if_ne (tgt := 40) hx hb dX9_lowest_33 (by decide) (fun c33 => ?_) (fun c33 => ?_)
        · have hf := pif_f c33 hf
          refine lv_lload_n hx hb dX9_lowest_40 rfl (lv_at hl 1 rfl) ?_
          exact hB41 x5 x2 H locs ls hf hP hD hS (lv_sub hl [3] rfl)
        · have hf := pif_t c33 hf
          refine lv_lload_n hx hb dX9_lowest_36 rfl (lv_at hl 0 rfl) ?_
          refine lv_goto (tgt := 41) hx hb dX9_lowest_37 (by decide) ?_
          exact hB41 x5 x0 H locs ls hf hP hD hS (lv_sub hl [3] rfl)
      · have hf := pif_f c10 hf
        refine lv_lload hx hb dX9_lowest_13 (lv_at hl 3 rfl) ?_
        refine lv_lload hx hb dX9_lowest_15 (lv_at hl 4 rfl) ?_
        obtain ⟨n17, hf⟩ := pg_some hf
        refine lv_lrem hx hb dX9_lowest_17 n17 ?_
        refine lv_lstore (lv' := [(9, .long (x5 - x5 / x7 * x7)), (0, .long x0), (2, .long x2), (4, .int x4), (5, .long x5), (7, .long x7)]) hx hb dX9_lowest_18 hl (by decide) rfl (fun ls hl => ?_)
        refine lv_lload hx hb dX9_lowest_20 (lv_at hl 5 rfl) ?_
        refine lv_lstore (lv' := [(5, .long x7), (9, .long (x5 - x5 / x7 * x7)), (0, .long x0), (2, .long x2), (4, .int x4), (7, .long x7)]) hx hb dX9_lowest_22 hl (by decide) rfl (fun ls hl => ?_)
        refine lv_lload hx hb dX9_lowest_24 (lv_at hl 1 rfl) ?_
        refine lv_lstore (lv' := [(7, .long (x5 - x5 / x7 * x7)), (5, .long x7), (9, .long (x5 - x5 / x7 * x7)), (0, .long x0), (2, .long x2), (4, .int x4)]) hx hb dX9_lowest_26 hl (by decide) rfl (fun ls hl => ?_)
        refine lv_goto (tgt := 6) hx hb dX9_lowest_28 (by decide) ?_
        exact hk6 x7 (x5 - x5 / x7 * x7) H locs ls hf hP hD hS (lv_sub hl [3, 4, 5, 1, 0] rfl)
  unfold fX9_lowest at hf
  obtain ⟨H, hH⟩ : ∃ H : Heap, H = s.heap := ⟨_, rfl⟩
  obtain ⟨locs, hlo⟩ : ∃ locs : List Loc, locs = [] := ⟨_, rfl⟩
  have hP : va_P D vwCl [] H := by rw [hH]; exact hP
  have hS : va_S A s.heap H locs := by rw [hH, hlo]; exact hS
  suffices hw : W p l e rmX9_lowest s m av below meth c H locs 0 0 Q (F0 m 0 ls []) by rw [hH, hlo] at hw; exact hw
  refine lv_lload_n hx hb dX9_lowest_0 rfl (lv_at hl 0 rfl) ?_
  refine lv_lstore (lv' := [(5, .long x0), (0, .long x0), (2, .long x2), (4, .int x4)]) hx hb dX9_lowest_1 hl (by decide) rfl (fun ls hl => ?_)
  refine lv_lload_n hx hb dX9_lowest_3 rfl (lv_at hl 2 rfl) ?_
  refine lv_lstore (lv' := [(7, .long x2), (5, .long x0), (0, .long x0), (2, .long x2), (4, .int x4)]) hx hb dX9_lowest_4 hl (by decide) rfl (fun ls hl => ?_)
  exact hB6 N x0 x2 H locs ls hf hP hD hS (lv_sub hl [2, 3, 4, 1, 0] rfl)
abbrev rmX9_pay : Room := { frames := 5, cells := 0, slots := 0, locals := 121 }
set_option maxHeartbeats 40000000 in
set_option maxRecDepth 100000 in
theorem mX9_pay (l : Launch) (D : va_G) (cyI cyJ cyB cyS : ClassId) (N : Nat) (sz : Nat) (a9 : Nat → Nat) (i9 : Nat → Int32) (g9 : Nat → Int64) (c_chooser : Nat → Int32) (c_firsts : Nat → Int32) (c_goes : Nat → Int32) (c_holds : Nat → Int32) (c_later : Nat → Int32) (c_many : Nat → Int32) (c_outs : Nat → Int32) (c_payOf : Nat → Int32) (c_placeOf : Nat → Int32) (c_seconds : Nat → Int32) (c_sideAt : Nat → Int32) (c_won : Nat → Int32) (x1 : Int32) (x2 : Int32) (q : Int32 × (Nat → Int32) × (Nat → Int32) × (Nat → Int32) × (Nat → Int32) × (Nat → Int32) × (Nat → Int32) × (Nat → Int32)) (hf : fX9_pay N c_chooser c_firsts c_goes c_holds c_later c_many c_outs c_payOf c_placeOf c_seconds c_sideAt c_won x1 x2 = some q) : Met l yX9_pay (wS yX9_pay cX9_pay 3 (some .int)) rmX9_pay (va_Pc [.ref (a9 0), .int x1, .int x2] (PP D cyI cyJ cyB cyS [(a9 0, .inr (9, fl9 a9 i9 g9)), ((a9 17), .inl (cyI, 6, .inl c_chooser)), ((a9 9), .inl (cyI, 60, .inl c_firsts)), ((a9 11), .inl (cyI, 60, .inl c_goes)), ((a9 5), .inl (cyI, 32, .inl c_holds)), ((a9 19), .inl (cyI, 6, .inl c_later)), ((a9 12), .inl (cyI, 2, .inl c_many)), ((a9 18), .inl (cyI, 6, .inl c_outs)), ((a9 20), .inl (cyI, 6, .inl c_payOf)), ((a9 16), .inl (cyI, 6, .inl c_placeOf)), ((a9 10), .inl (cyI, 60, .inl c_seconds)), ((a9 15), .inl (cyI, 6, .inl c_sideAt)), ((a9 14), .inl (cyI, 6, .inl c_won))] sz)) (QI q.1 D [(a9 0, .inr (9, fl9 a9 i9 g9)), ((a9 17), .inl (cyI, 6, .inl q.2.1)), ((a9 9), .inl (cyI, 60, .inl c_firsts)), ((a9 11), .inl (cyI, 60, .inl c_goes)), ((a9 5), .inl (cyI, 32, .inl c_holds)), ((a9 19), .inl (cyI, 6, .inl q.2.2.1)), ((a9 12), .inl (cyI, 2, .inl c_many)), ((a9 18), .inl (cyI, 6, .inl q.2.2.2.1)), ((a9 20), .inl (cyI, 6, .inl q.2.2.2.2.1)), ((a9 16), .inl (cyI, 6, .inl q.2.2.2.2.2.1)), ((a9 10), .inl (cyI, 60, .inl c_seconds)), ((a9 15), .inl (cyI, 6, .inl q.2.2.2.2.2.2.1)), ((a9 14), .inl (cyI, 6, .inl q.2.2.2.2.2.2.2))] (va_A [(a9 0, .inr (9, fl9 a9 i9 g9)), ((a9 17), .inl (cyI, 6, .inl c_chooser)), ((a9 9), .inl (cyI, 60, .inl c_firsts)), ((a9 11), .inl (cyI, 60, .inl c_goes)), ((a9 5), .inl (cyI, 32, .inl c_holds)), ((a9 19), .inl (cyI, 6, .inl c_later)), ((a9 12), .inl (cyI, 2, .inl c_many)), ((a9 18), .inl (cyI, 6, .inl c_outs)), ((a9 20), .inl (cyI, 6, .inl c_payOf)), ((a9 16), .inl (cyI, 6, .inl c_placeOf)), ((a9 10), .inl (cyI, 60, .inl c_seconds)), ((a9 15), .inl (cyI, 6, .inl c_sideAt)), ((a9 14), .inl (cyI, 6, .inl c_won))] sz)) 0 0 (va_A [(a9 0, .inr (9, fl9 a9 i9 g9)), ((a9 17), .inl (cyI, 6, .inl c_chooser)), ((a9 9), .inl (cyI, 60, .inl c_firsts)), ((a9 11), .inl (cyI, 60, .inl c_goes)), ((a9 5), .inl (cyI, 32, .inl c_holds)), ((a9 19), .inl (cyI, 6, .inl c_later)), ((a9 12), .inl (cyI, 2, .inl c_many)), ((a9 18), .inl (cyI, 6, .inl c_outs)), ((a9 20), .inl (cyI, 6, .inl c_payOf)), ((a9 16), .inl (cyI, 6, .inl c_placeOf)), ((a9 10), .inl (cyI, 60, .inl c_seconds)), ((a9 15), .inl (cyI, 6, .inl c_sideAt)), ((a9 14), .inl (cyI, 6, .inl c_won))] sz) := by
  refine Met.ofW (cc := cX9_pay) (maxL := 3) (ret := (some .int)) (by decide) rfl ?_
  intro p e s m args below meth c s₁ B hml hv
  obtain ⟨rfl, hsz, hP, hK, hD0⟩ := hv
  have hx := B.exec
  have hb := B.bytes
  have hr := B.returns
  have hts := atoms_spec (ws := (wS yX9_pay cX9_pay 3 (some .int))) B.pre
  have hown : s.vm.findClass RX9 = some m.cls := findClass_of_methodNamed B.named
  have hlocks := B.notSynchronized
  subst hsz
  have hD := hD0.self (sz := s.heap.size)
  refine w_nameQ (fun Q hQ => ?_)
  have hl := lv_entry ([.ref (a9 0), .int x1, .int x2] : List Value) (n := 3) (Nat.le_of_ble_eq_true rfl)
  rw [lg_entry_eq]
  generalize (lg_sl ([.ref (a9 0), .int x1, .int x2] : List Value) ++ List.replicate (3 - (lg_sl ([.ref (a9 0), .int x1, .int x2] : List Value)).length) Slot.unset).toArray = ls at hl ⊢
  have hl : lv_has ls 3 [(0, .ref (a9 0)), (1, .int x1), (2, .int x2)] := hl
  generalize hAe : va_A [(a9 0, .inr (9, fl9 a9 i9 g9)), ((a9 17), .inl (cyI, 6, .inl c_chooser)), ((a9 9), .inl (cyI, 60, .inl c_firsts)), ((a9 11), .inl (cyI, 60, .inl c_goes)), ((a9 5), .inl (cyI, 32, .inl c_holds)), ((a9 19), .inl (cyI, 6, .inl c_later)), ((a9 12), .inl (cyI, 2, .inl c_many)), ((a9 18), .inl (cyI, 6, .inl c_outs)), ((a9 20), .inl (cyI, 6, .inl c_payOf)), ((a9 16), .inl (cyI, 6, .inl c_placeOf)), ((a9 10), .inl (cyI, 60, .inl c_seconds)), ((a9 15), .inl (cyI, 6, .inl c_sideAt)), ((a9 14), .inl (cyI, 6, .inl c_won))] s.heap.size = A at hD hQ
  have hA : ∀ q : Nat, s.heap.size ≤ q → A q := fun q h => by rw [← hAe]; exact Or.inr h
  have hS : va_S A s.heap s.heap [] := va_S.rf
  generalize ([.ref (a9 0), .int x1, .int x2] : List Value).toArray = av at hts hQ ⊢
  have hL : ∀ w ∈ wsL_law, w.before av s = true := fun w h => hts w (List.mem_cons_of_mem _ h)
  have w0 := hL (.static yX9_in) (hR8 8 rfl)
  have w1 := hL (.fieldLink RX9 67 "LosingLeagueModel" "payOf" "[I") (hR6 23 rfl)
  have w2 := hL (.static yX9_lowest) (hR33 9 rfl)
  have hB18 : ∀ (c_chooser : Nat → Int32) (c_later : Nat → Int32) (c_outs : Nat → Int32) (c_payOf : Nat → Int32) (c_placeOf : Nat → Int32) (c_sideAt : Nat → Int32) (c_won : Nat → Int32) (H : Heap) (locs : List Loc) (ls : Array Slot), fX9_pay_18 N c_firsts c_goes c_holds c_many c_seconds x1 x2 c_chooser c_later c_outs c_payOf c_placeOf c_sideAt c_won = some q → va_P D vwCl [(a9 0, .inr (9, fl9 a9 i9 g9)), ((a9 17), .inl (cyI, 6, .inl c_chooser)), ((a9 9), .inl (cyI, 60, .inl c_firsts)), ((a9 11), .inl (cyI, 60, .inl c_goes)), ((a9 5), .inl (cyI, 32, .inl c_holds)), ((a9 19), .inl (cyI, 6, .inl c_later)), ((a9 12), .inl (cyI, 2, .inl c_many)), ((a9 18), .inl (cyI, 6, .inl c_outs)), ((a9 20), .inl (cyI, 6, .inl c_payOf)), ((a9 16), .inl (cyI, 6, .inl c_placeOf)), ((a9 10), .inl (cyI, 60, .inl c_seconds)), ((a9 15), .inl (cyI, 6, .inl c_sideAt)), ((a9 14), .inl (cyI, 6, .inl c_won))] H → va_D A [(a9 0, .inr (9, fl9 a9 i9 g9)), ((a9 17), .inl (cyI, 6, .inl c_chooser)), ((a9 9), .inl (cyI, 60, .inl c_firsts)), ((a9 11), .inl (cyI, 60, .inl c_goes)), ((a9 5), .inl (cyI, 32, .inl c_holds)), ((a9 19), .inl (cyI, 6, .inl c_later)), ((a9 12), .inl (cyI, 2, .inl c_many)), ((a9 18), .inl (cyI, 6, .inl c_outs)), ((a9 20), .inl (cyI, 6, .inl c_payOf)), ((a9 16), .inl (cyI, 6, .inl c_placeOf)), ((a9 10), .inl (cyI, 60, .inl c_seconds)), ((a9 15), .inl (cyI, 6, .inl c_sideAt)), ((a9 14), .inl (cyI, 6, .inl c_won))] → va_S A s.heap H locs → lv_has ls 3 [] → W p l e rmX9_pay s m av below meth c H locs 0 0 Q (F0 m 18 ls []) := by
    intro c_chooser c_later c_outs c_payOf c_placeOf c_sideAt c_won H locs ls hf hP hD hS hl
    unfold fX9_pay_18 at hf
    refine lv_iconst (v := (-1)) hx hb dX9_pay_18 (by decide) ?_
    exact ret_i (q := q) (g := fun q => q.1) (wp := fun q => [(a9 0, .inr (9, fl9 a9 i9 g9)), ((a9 17), .inl (cyI, 6, .inl q.2.1)), ((a9 9), .inl (cyI, 60, .inl c_firsts)), ((a9 11), .inl (cyI, 60, .inl c_goes)), ((a9 5), .inl (cyI, 32, .inl c_holds)), ((a9 19), .inl (cyI, 6, .inl q.2.2.1)), ((a9 12), .inl (cyI, 2, .inl c_many)), ((a9 18), .inl (cyI, 6, .inl q.2.2.2.1)), ((a9 20), .inl (cyI, 6, .inl q.2.2.2.2.1)), ((a9 16), .inl (cyI, 6, .inl q.2.2.2.2.2.1)), ((a9 10), .inl (cyI, 60, .inl c_seconds)), ((a9 15), .inl (cyI, 6, .inl q.2.2.2.2.2.2.1)), ((a9 14), .inl (cyI, 6, .inl q.2.2.2.2.2.2.2))]) hQ hf hx hb hr hlocks hP hD hS dX9_pay_19 rfl
  unfold fX9_pay at hf
  obtain ⟨H, hH⟩ : ∃ H : Heap, H = s.heap := ⟨_, rfl⟩
  obtain ⟨locs, hlo⟩ : ∃ locs : List Loc, locs = [] := ⟨_, rfl⟩
  have hP : va_P D vwCl [(a9 0, .inr (9, fl9 a9 i9 g9)), ((a9 17), .inl (cyI, 6, .inl c_chooser)), ((a9 9), .inl (cyI, 60, .inl c_firsts)), ((a9 11), .inl (cyI, 60, .inl c_goes)), ((a9 5), .inl (cyI, 32, .inl c_holds)), ((a9 19), .inl (cyI, 6, .inl c_later)), ((a9 12), .inl (cyI, 2, .inl c_many)), ((a9 18), .inl (cyI, 6, .inl c_outs)), ((a9 20), .inl (cyI, 6, .inl c_payOf)), ((a9 16), .inl (cyI, 6, .inl c_placeOf)), ((a9 10), .inl (cyI, 60, .inl c_seconds)), ((a9 15), .inl (cyI, 6, .inl c_sideAt)), ((a9 14), .inl (cyI, 6, .inl c_won))] H := by rw [hH]; exact hP
  have hS : va_S A s.heap H locs := by rw [hH, hlo]; exact hS
  suffices hw : W p l e rmX9_pay s m av below meth c H locs 0 0 Q (F0 m 0 ls []) by rw [hH, hlo] at hw; exact hw
  refine lv_aload_n hx hb dX9_pay_0 rfl (lv_at hl 0 rfl) ?_
  refine lv_iload_n hx hb dX9_pay_1 rfl (lv_at hl 1 rfl) ?_
  obtain ⟨q2, e2, hf⟩ := pb_some hf
  refine cc_i (wc := [(a9 0, .inr (9, fl9 a9 i9 g9)), ((a9 5), .inl (cyI, 32, .inl c_holds))]) (wr := [((a9 17), .inl (cyI, 6, .inl c_chooser)), ((a9 9), .inl (cyI, 60, .inl c_firsts)), ((a9 11), .inl (cyI, 60, .inl c_goes)), ((a9 19), .inl (cyI, 6, .inl c_later)), ((a9 12), .inl (cyI, 2, .inl c_many)), ((a9 18), .inl (cyI, 6, .inl c_outs)), ((a9 20), .inl (cyI, 6, .inl c_payOf)), ((a9 16), .inl (cyI, 6, .inl c_placeOf)), ((a9 10), .inl (cyI, 60, .inl c_seconds)), ((a9 15), .inl (cyI, 6, .inl c_sideAt)), ((a9 14), .inl (cyI, 6, .inl c_won))]) (w1 := [(a9 0, .inr (9, fl9 a9 i9 g9)), ((a9 5), .inl (cyI, 32, .inl c_holds))]) (wn := [(a9 0, .inr (9, fl9 a9 i9 g9)), ((a9 17), .inl (cyI, 6, .inl c_chooser)), ((a9 9), .inl (cyI, 60, .inl c_firsts)), ((a9 11), .inl (cyI, 60, .inl c_goes)), ((a9 5), .inl (cyI, 32, .inl c_holds)), ((a9 19), .inl (cyI, 6, .inl c_later)), ((a9 12), .inl (cyI, 2, .inl c_many)), ((a9 18), .inl (cyI, 6, .inl c_outs)), ((a9 20), .inl (cyI, 6, .inl c_payOf)), ((a9 16), .inl (cyI, 6, .inl c_placeOf)), ((a9 10), .inl (cyI, 60, .inl c_seconds)), ((a9 15), .inl (cyI, 6, .inl c_sideAt)), ((a9 14), .inl (cyI, 6, .inl c_won))]) hP hD hS hA [0, 4] [1, 2, 3, 5, 6, 7, 8, 9, 10, 11, 12] [11, 0, 1, 2, 12, 3, 4, 5, 6, 7, 8, 9, 10] rfl rfl rfl (by decide) rfl rfl (va_runV (C := RX9) (As := [.int x1]) (rest := []) ⟨hx, hb, hml, hown, hL⟩ (mX9_isSide l D cyI cyJ cyB cyS N H.size a9 i9 g9 c_holds x1 q2 e2) (cwV 1 hL (gV (hR19 11 rfl) (hR19 12 rfl) (hR19 13 rfl) (hR1 5 rfl) (hR19 14 rfl)) rfl rfl rfl (by decide +kernel) ⟨Nat.le_of_ble_eq_true rfl, Nat.le_of_ble_eq_true rfl⟩) (PP_preV (ci := 9) (q0 := 0) hP hD hK [0, 4] rfl rfl rfl rfl) rfl rfl hl.1 rfl (lv_room (Nat.le_of_ble_eq_true rfl)) dX9_pay_2 ⟨Nat.le_of_ble_eq_true rfl, Nat.le_of_ble_eq_true rfl⟩) (fun H locs hP hD hS => ?_)
  refine lv_if_eq (tgt := 18) hx hb dX9_pay_5 (by decide) (fun c5 => ?_) (fun c5 => ?_)
  · have hf := pif_t c5 hf
    exact hB18 c_chooser c_later c_outs c_payOf c_placeOf c_sideAt c_won H locs ls hf hP hD hS (lv_sub hl [] rfl)
  · have hf := pif_f c5 hf
    refine lv_iload_n hx hb dX9_pay_8 rfl (lv_at hl 2 rfl) ?_
    refine lv_i2l hx hb dX9_pay_9 rfl ?_
    refine lv_lconst (v := 0) hx hb dX9_pay_10 (by decide) ?_
    refine lv_lconst (v := 1) hx hb dX9_pay_11 (by decide) ?_
    obtain ⟨q12, e12, hf⟩ := pb_some hf
    refine cc_i (wc := []) (wr := [(a9 0, .inr (9, fl9 a9 i9 g9)), ((a9 17), .inl (cyI, 6, .inl c_chooser)), ((a9 9), .inl (cyI, 60, .inl c_firsts)), ((a9 11), .inl (cyI, 60, .inl c_goes)), ((a9 5), .inl (cyI, 32, .inl c_holds)), ((a9 19), .inl (cyI, 6, .inl c_later)), ((a9 12), .inl (cyI, 2, .inl c_many)), ((a9 18), .inl (cyI, 6, .inl c_outs)), ((a9 20), .inl (cyI, 6, .inl c_payOf)), ((a9 16), .inl (cyI, 6, .inl c_placeOf)), ((a9 10), .inl (cyI, 60, .inl c_seconds)), ((a9 15), .inl (cyI, 6, .inl c_sideAt)), ((a9 14), .inl (cyI, 6, .inl c_won))]) (w1 := []) (wn := [(a9 0, .inr (9, fl9 a9 i9 g9)), ((a9 17), .inl (cyI, 6, .inl c_chooser)), ((a9 9), .inl (cyI, 60, .inl c_firsts)), ((a9 11), .inl (cyI, 60, .inl c_goes)), ((a9 5), .inl (cyI, 32, .inl c_holds)), ((a9 19), .inl (cyI, 6, .inl c_later)), ((a9 12), .inl (cyI, 2, .inl c_many)), ((a9 18), .inl (cyI, 6, .inl c_outs)), ((a9 20), .inl (cyI, 6, .inl c_payOf)), ((a9 16), .inl (cyI, 6, .inl c_placeOf)), ((a9 10), .inl (cyI, 60, .inl c_seconds)), ((a9 15), .inl (cyI, 6, .inl c_sideAt)), ((a9 14), .inl (cyI, 6, .inl c_won))]) hP hD hS hA [] [0, 1, 2, 3, 4, 5, 6, 7, 8, 9, 10, 11, 12] [0, 1, 2, 3, 4, 5, 6, 7, 8, 9, 10, 11, 12] rfl rfl rfl (by decide) rfl rfl (va_runS (As := [.long ((x2 : Int32).toInt64), .long 0, .long 1]) (rest := []) ⟨hx, hb, hml, hown, hL⟩ (mX9_in l D cyI cyJ cyB cyS N H.size   ((x2 : Int32).toInt64) 0 1 q12 e12) (va_cwS 3 hL (gS (hR8 7 rfl) (hR8 8 rfl) (hR1 5 rfl) (hR8 9 rfl)) rfl rfl rfl (by decide +kernel) ⟨Nat.le_of_ble_eq_true rfl, Nat.le_of_ble_eq_true rfl⟩) (PP_preS hP hD hK [] rfl rfl) rfl rfl hl.1 rfl (lv_room (Nat.le_of_ble_eq_true rfl)) dX9_pay_12 ⟨Nat.le_of_ble_eq_true rfl, Nat.le_of_ble_eq_true rfl⟩) (fun H locs hP hD hS => ?_)
    refine lv_if_ne (tgt := 20) hx hb dX9_pay_15 (by decide) (fun c15 => ?_) (fun c15 => ?_)
    · have hf := pif_f c15 hf
      refine lv_aload_n hx hb dX9_pay_20 rfl (lv_at hl 0 rfl) ?_
      obtain ⟨q21, e21, hf⟩ := pb_some hf
      refine cc_i (wc := [(a9 0, .inr (9, fl9 a9 i9 g9)), ((a9 11), .inl (cyI, 60, .inl c_goes)), ((a9 12), .inl (cyI, 2, .inl c_many))]) (wr := [((a9 17), .inl (cyI, 6, .inl c_chooser)), ((a9 9), .inl (cyI, 60, .inl c_firsts)), ((a9 5), .inl (cyI, 32, .inl c_holds)), ((a9 19), .inl (cyI, 6, .inl c_later)), ((a9 18), .inl (cyI, 6, .inl c_outs)), ((a9 20), .inl (cyI, 6, .inl c_payOf)), ((a9 16), .inl (cyI, 6, .inl c_placeOf)), ((a9 10), .inl (cyI, 60, .inl c_seconds)), ((a9 15), .inl (cyI, 6, .inl c_sideAt)), ((a9 14), .inl (cyI, 6, .inl c_won))]) (w1 := [(a9 0, .inr (9, fl9 a9 i9 g9)), ((a9 11), .inl (cyI, 60, .inl c_goes)), ((a9 12), .inl (cyI, 2, .inl c_many))]) (wn := [(a9 0, .inr (9, fl9 a9 i9 g9)), ((a9 17), .inl (cyI, 6, .inl c_chooser)), ((a9 9), .inl (cyI, 60, .inl c_firsts)), ((a9 11), .inl (cyI, 60, .inl c_goes)), ((a9 5), .inl (cyI, 32, .inl c_holds)), ((a9 19), .inl (cyI, 6, .inl c_later)), ((a9 12), .inl (cyI, 2, .inl c_many)), ((a9 18), .inl (cyI, 6, .inl c_outs)), ((a9 20), .inl (cyI, 6, .inl c_payOf)), ((a9 16), .inl (cyI, 6, .inl c_placeOf)), ((a9 10), .inl (cyI, 60, .inl c_seconds)), ((a9 15), .inl (cyI, 6, .inl c_sideAt)), ((a9 14), .inl (cyI, 6, .inl c_won))]) hP hD hS hA [0, 3, 6] [1, 2, 4, 5, 7, 8, 9, 10, 11, 12] [10, 0, 1, 11, 2, 3, 12, 4, 5, 6, 7, 8, 9] rfl rfl rfl (by decide) rfl rfl (va_runV (C := RX9) (As := []) (rest := []) ⟨hx, hb, hml, hown, hL⟩ (mX9_openMany l D cyI cyJ cyB cyS N H.size a9 i9 g9 c_goes c_many  q21 e21) (cwV 0 hL (gV (hR26 1 rfl) (hR26 2 rfl) (hR26 3 rfl) (hR1 5 rfl) (hR26 4 rfl)) rfl rfl rfl (by decide +kernel) ⟨Nat.le_of_ble_eq_true rfl, Nat.le_of_ble_eq_true rfl⟩) (PP_preV (ci := 9) (q0 := 0) hP hD hK [0, 3, 6] rfl rfl rfl rfl) rfl rfl hl.1 rfl (lv_room (Nat.le_of_ble_eq_true rfl)) dX9_pay_21 ⟨Nat.le_of_ble_eq_true rfl, Nat.le_of_ble_eq_true rfl⟩) (fun H locs hP hD hS => ?_)
      refine lv_if_le (tgt := 30) hx hb dX9_pay_24 (by decide) (fun c24 => ?_) (fun c24 => ?_)
      · have hf := pif_t c24 hf
        refine lv_aload_n hx hb dX9_pay_30 rfl (lv_at hl 0 rfl) ?_
        obtain ⟨q31, e31, hf⟩ := pb_some hf
        refine cc_v (wc := [(a9 0, .inr (9, fl9 a9 i9 g9)), ((a9 17), .inl (cyI, 6, .inl c_chooser)), ((a9 9), .inl (cyI, 60, .inl c_firsts)), ((a9 11), .inl (cyI, 60, .inl c_goes)), ((a9 5), .inl (cyI, 32, .inl c_holds)), ((a9 19), .inl (cyI, 6, .inl c_later)), ((a9 12), .inl (cyI, 2, .inl c_many)), ((a9 18), .inl (cyI, 6, .inl c_outs)), ((a9 20), .inl (cyI, 6, .inl c_payOf)), ((a9 16), .inl (cyI, 6, .inl c_placeOf)), ((a9 10), .inl (cyI, 60, .inl c_seconds)), ((a9 15), .inl (cyI, 6, .inl c_sideAt)), ((a9 14), .inl (cyI, 6, .inl c_won))]) (wr := []) (w1 := [(a9 0, .inr (9, fl9 a9 i9 g9)), ((a9 17), .inl (cyI, 6, .inl q31.1)), ((a9 9), .inl (cyI, 60, .inl c_firsts)), ((a9 11), .inl (cyI, 60, .inl c_goes)), ((a9 5), .inl (cyI, 32, .inl c_holds)), ((a9 19), .inl (cyI, 6, .inl q31.2.1)), ((a9 12), .inl (cyI, 2, .inl c_many)), ((a9 18), .inl (cyI, 6, .inl q31.2.2.1)), ((a9 20), .inl (cyI, 6, .inl q31.2.2.2.1)), ((a9 16), .inl (cyI, 6, .inl q31.2.2.2.2.1)), ((a9 10), .inl (cyI, 60, .inl c_seconds)), ((a9 15), .inl (cyI, 6, .inl q31.2.2.2.2.2.1)), ((a9 14), .inl (cyI, 6, .inl q31.2.2.2.2.2.2))]) (wn := [(a9 0, .inr (9, fl9 a9 i9 g9)), ((a9 17), .inl (cyI, 6, .inl q31.1)), ((a9 9), .inl (cyI, 60, .inl c_firsts)), ((a9 11), .inl (cyI, 60, .inl c_goes)), ((a9 5), .inl (cyI, 32, .inl c_holds)), ((a9 19), .inl (cyI, 6, .inl q31.2.1)), ((a9 12), .inl (cyI, 2, .inl c_many)), ((a9 18), .inl (cyI, 6, .inl q31.2.2.1)), ((a9 20), .inl (cyI, 6, .inl q31.2.2.2.1)), ((a9 16), .inl (cyI, 6, .inl q31.2.2.2.2.1)), ((a9 10), .inl (cyI, 60, .inl c_seconds)), ((a9 15), .inl (cyI, 6, .inl q31.2.2.2.2.2.1)), ((a9 14), .inl (cyI, 6, .inl q31.2.2.2.2.2.2))]) hP hD hS hA [0, 1, 2, 3, 4, 5, 6, 7, 8, 9, 10, 11, 12] [] [0, 1, 2, 3, 4, 5, 6, 7, 8, 9, 10, 11, 12] rfl rfl rfl (by decide) rfl rfl (va_runV (C := RX9) (As := []) (rest := []) ⟨hx, hb, hml, hown, hL⟩ (mX9_layPays l D cyI cyJ cyB cyS N H.size a9 i9 g9 c_chooser c_firsts c_goes c_holds c_later c_many c_outs c_payOf c_placeOf c_seconds c_sideAt c_won  q31 e31) (cwV 0 hL (gV (hR32 20 rfl) (hR32 21 rfl) (hR32 22 rfl) (hR1 5 rfl) (hR32 23 rfl)) rfl rfl rfl (by decide +kernel) ⟨Nat.le_of_ble_eq_true rfl, Nat.le_of_ble_eq_true rfl⟩) (PP_preV (ci := 9) (q0 := 0) hP hD hK [0, 1, 2, 3, 4, 5, 6, 7, 8, 9, 10, 11, 12] rfl rfl rfl rfl) rfl rfl hl.1 rfl (lv_room (Nat.le_of_ble_eq_true rfl)) dX9_pay_31 ⟨Nat.le_of_ble_eq_true rfl, Nat.le_of_ble_eq_true rfl⟩) (fun H locs hP hD hS => ?_)
        refine lv_aload_n hx hb dX9_pay_34 rfl (lv_at hl 0 rfl) ?_
        refine va_get (D := D) (ci := 9) (v := .ref (a9 20)) (C := RX9) (T := TX9) (N := 52) hx hb hL inlX9 hown hK.1 hP 0 rfl rfl 32 (by decide) w1 (fun _ h9 => h9) rfl dX9_pay_35 ?_
        refine lv_iload_n hx hb dX9_pay_38 rfl (lv_at hl 1 rfl) ?_
        obtain ⟨h39, hf⟩ := pg_some hf
        refine va_iald hx hb hK.1 hP 8 0 rfl rfl h39 dX9_pay_39 ?_
        refine lv_i2l hx hb dX9_pay_40 rfl ?_
        refine lv_aload_n hx hb dX9_pay_41 rfl (lv_at hl 0 rfl) ?_
        obtain ⟨q42, e42, hf⟩ := pb_some hf
        refine cc_i (wc := [(a9 0, .inr (9, fl9 a9 i9 g9)), ((a9 5), .inl (cyI, 32, .inl c_holds))]) (wr := [((a9 17), .inl (cyI, 6, .inl q31.1)), ((a9 9), .inl (cyI, 60, .inl c_firsts)), ((a9 11), .inl (cyI, 60, .inl c_goes)), ((a9 19), .inl (cyI, 6, .inl q31.2.1)), ((a9 12), .inl (cyI, 2, .inl c_many)), ((a9 18), .inl (cyI, 6, .inl q31.2.2.1)), ((a9 20), .inl (cyI, 6, .inl q31.2.2.2.1)), ((a9 16), .inl (cyI, 6, .inl q31.2.2.2.2.1)), ((a9 10), .inl (cyI, 60, .inl c_seconds)), ((a9 15), .inl (cyI, 6, .inl q31.2.2.2.2.2.1)), ((a9 14), .inl (cyI, 6, .inl q31.2.2.2.2.2.2))]) (w1 := [(a9 0, .inr (9, fl9 a9 i9 g9)), ((a9 5), .inl (cyI, 32, .inl c_holds))]) (wn := [(a9 0, .inr (9, fl9 a9 i9 g9)), ((a9 17), .inl (cyI, 6, .inl q31.1)), ((a9 9), .inl (cyI, 60, .inl c_firsts)), ((a9 11), .inl (cyI, 60, .inl c_goes)), ((a9 5), .inl (cyI, 32, .inl c_holds)), ((a9 19), .inl (cyI, 6, .inl q31.2.1)), ((a9 12), .inl (cyI, 2, .inl c_many)), ((a9 18), .inl (cyI, 6, .inl q31.2.2.1)), ((a9 20), .inl (cyI, 6, .inl q31.2.2.2.1)), ((a9 16), .inl (cyI, 6, .inl q31.2.2.2.2.1)), ((a9 10), .inl (cyI, 60, .inl c_seconds)), ((a9 15), .inl (cyI, 6, .inl q31.2.2.2.2.2.1)), ((a9 14), .inl (cyI, 6, .inl q31.2.2.2.2.2.2))]) hP hD hS hA [0, 4] [1, 2, 3, 5, 6, 7, 8, 9, 10, 11, 12] [11, 0, 1, 2, 12, 3, 4, 5, 6, 7, 8, 9, 10] rfl rfl rfl (by decide) rfl rfl (va_runV (C := RX9) (As := []) (rest := [.long ((q31.2.2.2.1 x1.toNatClampNeg : Int32).toInt64)]) ⟨hx, hb, hml, hown, hL⟩ (mX9_unit l D cyI cyJ cyB cyS N H.size a9 i9 g9 c_holds  q42 e42) (cwV 0 hL (gV (hR33 0 rfl) (hR33 1 rfl) (hR33 2 rfl) (hR1 5 rfl) (hR33 3 rfl)) rfl rfl rfl (by decide +kernel) ⟨Nat.le_of_ble_eq_true rfl, Nat.le_of_ble_eq_true rfl⟩) (PP_preV (ci := 9) (q0 := 0) hP hD hK [0, 4] rfl rfl rfl rfl) rfl rfl hl.1 rfl (lv_room (Nat.le_of_ble_eq_true rfl)) dX9_pay_42 ⟨Nat.le_of_ble_eq_true rfl, Nat.le_of_ble_eq_true rfl⟩) (fun H locs hP hD hS => ?_)
        refine lv_i2l hx hb dX9_pay_45 rfl ?_
        refine lv_iload_n hx hb dX9_pay_46 rfl (lv_at hl 2 rfl) ?_
        obtain ⟨q47, e47, hf⟩ := pb_some hf
        refine cc_l (wc := []) (wr := [(a9 0, .inr (9, fl9 a9 i9 g9)), ((a9 17), .inl (cyI, 6, .inl q31.1)), ((a9 9), .inl (cyI, 60, .inl c_firsts)), ((a9 11), .inl (cyI, 60, .inl c_goes)), ((a9 5), .inl (cyI, 32, .inl c_holds)), ((a9 19), .inl (cyI, 6, .inl q31.2.1)), ((a9 12), .inl (cyI, 2, .inl c_many)), ((a9 18), .inl (cyI, 6, .inl q31.2.2.1)), ((a9 20), .inl (cyI, 6, .inl q31.2.2.2.1)), ((a9 16), .inl (cyI, 6, .inl q31.2.2.2.2.1)), ((a9 10), .inl (cyI, 60, .inl c_seconds)), ((a9 15), .inl (cyI, 6, .inl q31.2.2.2.2.2.1)), ((a9 14), .inl (cyI, 6, .inl q31.2.2.2.2.2.2))]) (w1 := []) (wn := [(a9 0, .inr (9, fl9 a9 i9 g9)), ((a9 17), .inl (cyI, 6, .inl q31.1)), ((a9 9), .inl (cyI, 60, .inl c_firsts)), ((a9 11), .inl (cyI, 60, .inl c_goes)), ((a9 5), .inl (cyI, 32, .inl c_holds)), ((a9 19), .inl (cyI, 6, .inl q31.2.1)), ((a9 12), .inl (cyI, 2, .inl c_many)), ((a9 18), .inl (cyI, 6, .inl q31.2.2.1)), ((a9 20), .inl (cyI, 6, .inl q31.2.2.2.1)), ((a9 16), .inl (cyI, 6, .inl q31.2.2.2.2.1)), ((a9 10), .inl (cyI, 60, .inl c_seconds)), ((a9 15), .inl (cyI, 6, .inl q31.2.2.2.2.2.1)), ((a9 14), .inl (cyI, 6, .inl q31.2.2.2.2.2.2))]) hP hD hS hA [] [0, 1, 2, 3, 4, 5, 6, 7, 8, 9, 10, 11, 12] [0, 1, 2, 3, 4, 5, 6, 7, 8, 9, 10, 11, 12] rfl rfl rfl (by decide) rfl rfl (va_runS (As := [.long ((q31.2.2.2.1 x1.toNatClampNeg : Int32).toInt64), .long ((q42 : Int32).toInt64), .int x2]) (rest := []) ⟨hx, hb, hml, hown, hL⟩ (mX9_lowest l D cyI cyJ cyB cyS N H.size   ((q31.2.2.2.1 x1.toNatClampNeg : Int32).toInt64) ((q42 : Int32).toInt64) x2 q47 e47) (va_cwS 3 hL (gS (hR33 8 rfl) (hR33 9 rfl) (hR1 5 rfl) (hR33 10 rfl)) rfl rfl rfl (by decide +kernel) ⟨Nat.le_of_ble_eq_true rfl, Nat.le_of_ble_eq_true rfl⟩) (PP_preS hP hD hK [] rfl rfl) rfl rfl hl.1 rfl (lv_room (Nat.le_of_ble_eq_true rfl)) dX9_pay_47 ⟨Nat.le_of_ble_eq_true rfl, Nat.le_of_ble_eq_true rfl⟩) (fun H locs hP hD hS => ?_)
        refine lv_l2i hx hb dX9_pay_50 rfl ?_
        exact ret_i (q := q) (g := fun q => q.1) (wp := fun q => [(a9 0, .inr (9, fl9 a9 i9 g9)), ((a9 17), .inl (cyI, 6, .inl q.2.1)), ((a9 9), .inl (cyI, 60, .inl c_firsts)), ((a9 11), .inl (cyI, 60, .inl c_goes)), ((a9 5), .inl (cyI, 32, .inl c_holds)), ((a9 19), .inl (cyI, 6, .inl q.2.2.1)), ((a9 12), .inl (cyI, 2, .inl c_many)), ((a9 18), .inl (cyI, 6, .inl q.2.2.2.1)), ((a9 20), .inl (cyI, 6, .inl q.2.2.2.2.1)), ((a9 16), .inl (cyI, 6, .inl q.2.2.2.2.2.1)), ((a9 10), .inl (cyI, 60, .inl c_seconds)), ((a9 15), .inl (cyI, 6, .inl q.2.2.2.2.2.2.1)), ((a9 14), .inl (cyI, 6, .inl q.2.2.2.2.2.2.2))]) hQ hf hx hb hr hlocks hP hD hS dX9_pay_51 rfl
      · have hf := pif_f c24 hf
        refine lv_bipush (v := (-2)) hx hb dX9_pay_27 (by decide) ?_
        exact ret_i (q := q) (g := fun q => q.1) (wp := fun q => [(a9 0, .inr (9, fl9 a9 i9 g9)), ((a9 17), .inl (cyI, 6, .inl q.2.1)), ((a9 9), .inl (cyI, 60, .inl c_firsts)), ((a9 11), .inl (cyI, 60, .inl c_goes)), ((a9 5), .inl (cyI, 32, .inl c_holds)), ((a9 19), .inl (cyI, 6, .inl q.2.2.1)), ((a9 12), .inl (cyI, 2, .inl c_many)), ((a9 18), .inl (cyI, 6, .inl q.2.2.2.1)), ((a9 20), .inl (cyI, 6, .inl q.2.2.2.2.1)), ((a9 16), .inl (cyI, 6, .inl q.2.2.2.2.2.1)), ((a9 10), .inl (cyI, 60, .inl c_seconds)), ((a9 15), .inl (cyI, 6, .inl q.2.2.2.2.2.2.1)), ((a9 14), .inl (cyI, 6, .inl q.2.2.2.2.2.2.2))]) hQ hf hx hb hr hlocks hP hD hS dX9_pay_29 rfl
    · have hf := pif_t c15 hf
      exact hB18 c_chooser c_later c_outs c_payOf c_placeOf c_sideAt c_won H locs ls hf hP hD hS (lv_sub hl [] rfl)
abbrev rmX9_layOpens : Room := { frames := 0, cells := 0, slots := 0, locals := 0 }
set_option maxHeartbeats 40000000 in
set_option maxRecDepth 100000 in
theorem mX9_layOpens (l : Launch) (D : va_G) (cyI cyJ cyB cyS : ClassId) (N : Nat) (sz : Nat) (a9 : Nat → Nat) (i9 : Nat → Int32) (g9 : Nat → Int64) (c_goes : Nat → Int32) (c_many : Nat → Int32) (c_opens : Nat → Int32) (q : Int32 × (Nat → Int32)) (hf : fX9_layOpens N (i9 13) c_goes c_many c_opens = some q) : Met l yX9_layOpens (wS yX9_layOpens cX9_layOpens 2 none) rmX9_layOpens (va_Pc [.ref (a9 0)] (PP D cyI cyJ cyB cyS [(a9 0, .inr (9, fl9 a9 i9 g9)), ((a9 11), .inl (cyI, 60, .inl c_goes)), ((a9 12), .inl (cyI, 2, .inl c_many)), ((a9 21), .inl (cyI, 30, .inl c_opens))] sz)) (QV D [(a9 0, .inr (9, fl9 a9 (va_up i9 13 q.1) g9)), ((a9 11), .inl (cyI, 60, .inl c_goes)), ((a9 12), .inl (cyI, 2, .inl c_many)), ((a9 21), .inl (cyI, 30, .inl q.2))] (va_A [(a9 0, .inr (9, fl9 a9 i9 g9)), ((a9 11), .inl (cyI, 60, .inl c_goes)), ((a9 12), .inl (cyI, 2, .inl c_many)), ((a9 21), .inl (cyI, 30, .inl c_opens))] sz)) 0 0 (va_A [(a9 0, .inr (9, fl9 a9 i9 g9)), ((a9 11), .inl (cyI, 60, .inl c_goes)), ((a9 12), .inl (cyI, 2, .inl c_many)), ((a9 21), .inl (cyI, 30, .inl c_opens))] sz) := by
  refine Met.ofW (cc := cX9_layOpens) (maxL := 2) (ret := none) (by decide) rfl ?_
  intro p e s m args below meth c s₁ B hml hv
  obtain ⟨rfl, hsz, hP, hK, hD0⟩ := hv
  have hx := B.exec
  have hb := B.bytes
  have hr := B.returns
  have hts := atoms_spec (ws := (wS yX9_layOpens cX9_layOpens 2 none)) B.pre
  have hown : s.vm.findClass RX9 = some m.cls := findClass_of_methodNamed B.named
  have hlocks := B.notSynchronized
  subst hsz
  have hD := hD0.self (sz := s.heap.size)
  refine w_nameQ (fun Q hQ => ?_)
  have hl := lv_entry ([.ref (a9 0)] : List Value) (n := 2) (Nat.le_of_ble_eq_true rfl)
  rw [lg_entry_eq]
  generalize (lg_sl ([.ref (a9 0)] : List Value) ++ List.replicate (2 - (lg_sl ([.ref (a9 0)] : List Value)).length) Slot.unset).toArray = ls at hl ⊢
  have hl : lv_has ls 2 [(0, .ref (a9 0))] := hl
  generalize hAe : va_A [(a9 0, .inr (9, fl9 a9 i9 g9)), ((a9 11), .inl (cyI, 60, .inl c_goes)), ((a9 12), .inl (cyI, 2, .inl c_many)), ((a9 21), .inl (cyI, 30, .inl c_opens))] s.heap.size = A at hD hQ
  have hA : ∀ q : Nat, s.heap.size ≤ q → A q := fun q h => by rw [← hAe]; exact Or.inr h
  have hS : va_S A s.heap s.heap [] := va_S.rf
  generalize ([.ref (a9 0)] : List Value).toArray = av at hts hQ ⊢
  have hL : ∀ w ∈ wsL_law, w.before av s = true := fun w h => hts w (List.mem_cons_of_mem _ h)
  have w0 := hL (.fieldLink RX9 43 "LosingLeagueModel" "many" "[I") (hR6 15 rfl)
  have w1 := hL (.fieldLink RX9 40 "LosingLeagueModel" "goes" "[I") (hR6 14 rfl)
  have w2 := hL (.fieldLink RX9 70 "LosingLeagueModel" "opens" "[I") (hR7 0 rfl)
  have w3 := hL (.fieldLink RX9 241 "LosingLeagueModel" "open" "I") (hR26 0 rfl)
  have hB47 : ∀ (k7 : Int32 → Int32 → (Nat → Int32) → Option (Int32 × (Nat → Int32))) (hk7 : ∀ (x1 : Int32) (v_open : Int32) (c_opens : Nat → Int32) (H : Heap) (locs : List Loc) (ls : Array Slot), k7 x1 v_open c_opens = some q → va_P D vwCl [(a9 0, .inr (9, fl9 a9 (va_up i9 13 v_open) g9)), ((a9 11), .inl (cyI, 60, .inl c_goes)), ((a9 12), .inl (cyI, 2, .inl c_many)), ((a9 21), .inl (cyI, 30, .inl c_opens))] H → va_D A [(a9 0, .inr (9, fl9 a9 (va_up i9 13 v_open) g9)), ((a9 11), .inl (cyI, 60, .inl c_goes)), ((a9 12), .inl (cyI, 2, .inl c_many)), ((a9 21), .inl (cyI, 30, .inl c_opens))] → va_S A s.heap H locs → lv_has ls 2 [(0, .ref (a9 0)), (1, .int x1)] → W p l e rmX9_layOpens s m av below meth c H locs 0 0 Q (F0 m 7 ls [])), ∀ (x1 : Int32) (v_open : Int32) (c_opens : Nat → Int32) (H : Heap) (locs : List Loc) (ls : Array Slot), fX9_layOpens_47 N c_goes c_many k7 x1 v_open c_opens = some q → va_P D vwCl [(a9 0, .inr (9, fl9 a9 (va_up i9 13 v_open) g9)), ((a9 11), .inl (cyI, 60, .inl c_goes)), ((a9 12), .inl (cyI, 2, .inl c_many)), ((a9 21), .inl (cyI, 30, .inl c_opens))] H → va_D A [(a9 0, .inr (9, fl9 a9 (va_up i9 13 v_open) g9)), ((a9 11), .inl (cyI, 60, .inl c_goes)), ((a9 12), .inl (cyI, 2, .inl c_many)), ((a9 21), .inl (cyI, 30, .inl c_opens))] → va_S A s.heap H locs → lv_has ls 2 [(0, .ref (a9 0)), (1, .int x1)] → W p l e rmX9_layOpens s m av below meth c H locs 0 0 Q (F0 m 47 ls []) := by
    intro k7 hk7 x1 v_open c_opens H locs ls hf hP hD hS hl
    unfold fX9_layOpens_47 at hf
    refine lv_iinc (v := x1 + 1) (lv' := [(1, .int (x1 + 1)), (0, .ref (a9 0))]) hx hb dX9_layOpens_47 hl (k := 1) rfl rfl (by decide) rfl (fun ls hl => ?_)
    refine lv_goto (tgt := 7) hx hb dX9_layOpens_50 (by decide) ?_
    exact hk7 (x1 + 1) v_open c_opens H locs ls hf hP hD hS (lv_sub hl [1, 0] rfl)
  have hB7 : ∀ (n : Nat), ∀ (x1 : Int32) (v_open : Int32) (c_opens : Nat → Int32) (H : Heap) (locs : List Loc) (ls : Array Slot), fX9_layOpens_7 N c_goes c_many n x1 v_open c_opens = some q → va_P D vwCl [(a9 0, .inr (9, fl9 a9 (va_up i9 13 v_open) g9)), ((a9 11), .inl (cyI, 60, .inl c_goes)), ((a9 12), .inl (cyI, 2, .inl c_many)), ((a9 21), .inl (cyI, 30, .inl c_opens))] H → va_D A [(a9 0, .inr (9, fl9 a9 (va_up i9 13 v_open) g9)), ((a9 11), .inl (cyI, 60, .inl c_goes)), ((a9 12), .inl (cyI, 2, .inl c_many)), ((a9 21), .inl (cyI, 30, .inl c_opens))] → va_S A s.heap H locs → lv_has ls 2 [(0, .ref (a9 0)), (1, .int x1)] → W p l e rmX9_layOpens s m av below meth c H locs 0 0 Q (F0 m 7 ls []) := by
    intro n
    induction n with
    | zero => intro x1 v_open c_opens H locs ls hf; exact absurd hf (by simp [fX9_layOpens_7])
    | succ n hk7 =>
      intro x1 v_open c_opens H locs ls hf hP hD hS hl
      rw [fX9_layOpens_7] at hf
      refine lv_iload_n hx hb dX9_layOpens_7 rfl (lv_at hl 1 rfl) ?_
      refine lv_aload_n hx hb dX9_layOpens_8 rfl (lv_at hl 0 rfl) ?_
      refine va_get (D := D) (ci := 9) (v := .ref (a9 12)) (C := RX9) (T := TX9) (N := 52) hx hb hL inlX9 hown hK.1 hP 0 rfl rfl 22 (by decide) w0 (fun _ h9 => h9) rfl dX9_layOpens_9 ?_
      refine lv_iconst (v := 0) hx hb dX9_layOpens_12 (by decide) ?_
      obtain ⟨h13, hf⟩ := pg_some hf
      refine va_iald hx hb hK.1 hP 2 0 rfl rfl h13 dX9_layOpens_13 ?_
      refine lv_icmp_ge (tgt := 53) hx hb dX9_layOpens_14 (by decide) (fun c14 => ?_) (fun c14 => ?_)
      · have hf := pif_t c14 hf
        exact ret_v (q := q) (wp := fun q => [(a9 0, .inr (9, fl9 a9 (va_up i9 13 q.1) g9)), ((a9 11), .inl (cyI, 60, .inl c_goes)), ((a9 12), .inl (cyI, 2, .inl c_many)), ((a9 21), .inl (cyI, 30, .inl q.2))]) hQ hf hx hb hr hlocks hP hD hS dX9_layOpens_53
      · have hf := pif_f c14 hf
        refine lv_aload_n hx hb dX9_layOpens_17 rfl (lv_at hl 0 rfl) ?_
        refine va_get (D := D) (ci := 9) (v := .ref (a9 11)) (C := RX9) (T := TX9) (N := 52) hx hb hL inlX9 hown hK.1 hP 0 rfl rfl 21 (by decide) w1 (fun _ h9 => h9) rfl dX9_layOpens_18 ?_
        refine lv_iload_n hx hb dX9_layOpens_21 rfl (lv_at hl 1 rfl) ?_
        obtain ⟨h22, hf⟩ := pg_some hf
        refine va_iald hx hb hK.1 hP 1 0 rfl rfl h22 dX9_layOpens_22 ?_
        refine lv_iconst (v := 2) hx hb dX9_layOpens_23 (by decide) ?_
        refine lv_icmp_ne (tgt := 47) hx hb dX9_layOpens_24 (by decide) (fun c24 => ?_) (fun c24 => ?_)
        · have hf := pif_f c24 hf
          exact hB47 (fX9_layOpens_7 N c_goes c_many n) hk7 x1 v_open c_opens H locs ls hf hP hD hS (lv_sub hl [0, 1] rfl)
        · have hf := pif_t c24 hf
          refine lv_aload_n hx hb dX9_layOpens_27 rfl (lv_at hl 0 rfl) ?_
          refine va_get (D := D) (ci := 9) (v := .ref (a9 21)) (C := RX9) (T := TX9) (N := 52) hx hb hL inlX9 hown hK.1 hP 0 rfl rfl 33 (by decide) w2 (fun _ h9 => h9) rfl dX9_layOpens_28 ?_
          refine lv_aload_n hx hb dX9_layOpens_31 rfl (lv_at hl 0 rfl) ?_
          refine va_get (D := D) (ci := 9) (v := .int v_open) (C := RX9) (T := TX9) (N := 52) hx hb hL inlX9 hown hK.1 hP 0 rfl rfl 34 (by decide) w3 (fun _ h9 => h9) rfl dX9_layOpens_32 ?_
          refine lv_iload_n hx hb dX9_layOpens_35 rfl (lv_at hl 1 rfl) ?_
          obtain ⟨h36, hf⟩ := pg_some hf
          refine va_iast hx hb hK.1 hP hD hS 3 0 rfl rfl h36 dX9_layOpens_36 (fun H locs hP hD hS => ?_)
          have hP : va_P D vwCl [(a9 0, .inr (9, fl9 a9 (va_up i9 13 v_open) g9)), ((a9 11), .inl (cyI, 60, .inl c_goes)), ((a9 12), .inl (cyI, 2, .inl c_many)), ((a9 21), .inl (cyI, 30, .inl (upd c_opens v_open.toNatClampNeg x1)))] H := hP
          have hD : va_D A [(a9 0, .inr (9, fl9 a9 (va_up i9 13 v_open) g9)), ((a9 11), .inl (cyI, 60, .inl c_goes)), ((a9 12), .inl (cyI, 2, .inl c_many)), ((a9 21), .inl (cyI, 30, .inl (upd c_opens v_open.toNatClampNeg x1)))] := hD
          refine lv_aload_n hx hb dX9_layOpens_37 rfl (lv_at hl 0 rfl) ?_
          refine lv_dup hx hb dX9_layOpens_38 rfl ?_
          refine va_get (D := D) (ci := 9) (v := .int v_open) (C := RX9) (T := TX9) (N := 52) hx hb hL inlX9 hown hK.1 hP 0 rfl rfl 34 (by decide) w3 (fun _ h9 => h9) rfl dX9_layOpens_39 ?_
          refine lv_iconst (v := 1) hx hb dX9_layOpens_42 (by decide) ?_
          refine lv_iadd hx hb dX9_layOpens_43 ?_
          refine va_put (D := D) (ci := 9) (v := .int (v_open + 1)) (ty := .int) (C := RX9) (T := TX9) (N := 52) hx hb hL inlX9 tyX9 tyX9_ok nmX9 hown hK.1 hP hD hS 0 rfl rfl 34 (by decide) w3 (fun _ h9 => h9) rfl (by decide +kernel) rfl rfl (Nat.le_of_ble_eq_true rfl) dX9_layOpens_44 (fun H locs hP hD hS => ?_)
          rw [fl9_s34] at hP hD
          have hP : va_P D vwCl [(a9 0, .inr (9, fl9 a9 (va_up (va_up i9 13 v_open) 13 (v_open + 1)) g9)), ((a9 11), .inl (cyI, 60, .inl c_goes)), ((a9 12), .inl (cyI, 2, .inl c_many)), ((a9 21), .inl (cyI, 30, .inl (upd c_opens v_open.toNatClampNeg x1)))] H := hP
          have hD : va_D A [(a9 0, .inr (9, fl9 a9 (va_up (va_up i9 13 v_open) 13 (v_open + 1)) g9)), ((a9 11), .inl (cyI, 60, .inl c_goes)), ((a9 12), .inl (cyI, 2, .inl c_many)), ((a9 21), .inl (cyI, 30, .inl (upd c_opens v_open.toNatClampNeg x1)))] := hD
          exact hB47 (fX9_layOpens_7 N c_goes c_many n) hk7 x1 (v_open + 1) (upd c_opens v_open.toNatClampNeg x1) H locs ls hf hP hD hS (lv_sub hl [0, 1] rfl)
  unfold fX9_layOpens at hf
  obtain ⟨H, hH⟩ : ∃ H : Heap, H = s.heap := ⟨_, rfl⟩
  obtain ⟨locs, hlo⟩ : ∃ locs : List Loc, locs = [] := ⟨_, rfl⟩
  have hP : va_P D vwCl [(a9 0, .inr (9, fl9 a9 i9 g9)), ((a9 11), .inl (cyI, 60, .inl c_goes)), ((a9 12), .inl (cyI, 2, .inl c_many)), ((a9 21), .inl (cyI, 30, .inl c_opens))] H := by rw [hH]; exact hP
  have hS : va_S A s.heap H locs := by rw [hH, hlo]; exact hS
  suffices hw : W p l e rmX9_layOpens s m av below meth c H locs 0 0 Q (F0 m 0 ls []) by rw [hH, hlo] at hw; exact hw
  refine lv_aload_n hx hb dX9_layOpens_0 rfl (lv_at hl 0 rfl) ?_
  refine lv_iconst (v := 0) hx hb dX9_layOpens_1 (by decide) ?_
  refine va_put (D := D) (ci := 9) (v := .int 0) (ty := .int) (C := RX9) (T := TX9) (N := 52) hx hb hL inlX9 tyX9 tyX9_ok nmX9 hown hK.1 hP hD hS 0 rfl rfl 34 (by decide) w3 (fun _ h9 => h9) rfl (by decide +kernel) rfl rfl (Nat.le_of_ble_eq_true rfl) dX9_layOpens_2 (fun H locs hP hD hS => ?_)
  rw [fl9_s34] at hP hD
  have hP : va_P D vwCl [(a9 0, .inr (9, fl9 a9 (va_up i9 13 0) g9)), ((a9 11), .inl (cyI, 60, .inl c_goes)), ((a9 12), .inl (cyI, 2, .inl c_many)), ((a9 21), .inl (cyI, 30, .inl c_opens))] H := hP
  have hD : va_D A [(a9 0, .inr (9, fl9 a9 (va_up i9 13 0) g9)), ((a9 11), .inl (cyI, 60, .inl c_goes)), ((a9 12), .inl (cyI, 2, .inl c_many)), ((a9 21), .inl (cyI, 30, .inl c_opens))] := hD
  refine lv_iconst (v := 0) hx hb dX9_layOpens_5 (by decide) ?_
  refine lv_istore_n (lv' := [(1, .int 0), (0, .ref (a9 0))]) hx hb dX9_layOpens_6 rfl hl (by decide) rfl (fun ls hl => ?_)
  exact hB7 N 0 0 c_opens H locs ls hf hP hD hS (lv_sub hl [1, 0] rfl)
abbrev rmX9_setEnds : Room := { frames := 0, cells := 0, slots := 0, locals := 0 }
set_option maxHeartbeats 40000000 in
set_option maxRecDepth 100000 in
theorem mX9_setEnds (l : Launch) (D : va_G) (cyI cyJ cyB cyS : ClassId) (N : Nat) (sz : Nat) (a9 : Nat → Nat) (i9 : Nat → Int32) (g9 : Nat → Int64) (c_goes : Nat → Int32) (c_opens : Nat → Int32) (x1 : Int32) (q : (Nat → Int32)) (hf : fX9_setEnds N (i9 13) c_goes c_opens x1 = some q) : Met l yX9_setEnds (wS yX9_setEnds cX9_setEnds 3 none) rmX9_setEnds (va_Pc [.ref (a9 0), .int x1] (PP D cyI cyJ cyB cyS [(a9 0, .inr (9, fl9 a9 i9 g9)), ((a9 11), .inl (cyI, 60, .inl c_goes)), ((a9 21), .inl (cyI, 30, .inl c_opens))] sz)) (QV D [(a9 0, .inr (9, fl9 a9 i9 g9)), ((a9 11), .inl (cyI, 60, .inl q)), ((a9 21), .inl (cyI, 30, .inl c_opens))] (va_A [(a9 0, .inr (9, fl9 a9 i9 g9)), ((a9 11), .inl (cyI, 60, .inl c_goes)), ((a9 21), .inl (cyI, 30, .inl c_opens))] sz)) 0 0 (va_A [(a9 0, .inr (9, fl9 a9 i9 g9)), ((a9 11), .inl (cyI, 60, .inl c_goes)), ((a9 21), .inl (cyI, 30, .inl c_opens))] sz) := by
  refine Met.ofW (cc := cX9_setEnds) (maxL := 3) (ret := none) (by decide) rfl ?_
  intro p e s m args below meth c s₁ B hml hv
  obtain ⟨rfl, hsz, hP, hK, hD0⟩ := hv
  have hx := B.exec
  have hb := B.bytes
  have hr := B.returns
  have hts := atoms_spec (ws := (wS yX9_setEnds cX9_setEnds 3 none)) B.pre
  have hown : s.vm.findClass RX9 = some m.cls := findClass_of_methodNamed B.named
  have hlocks := B.notSynchronized
  subst hsz
  have hD := hD0.self (sz := s.heap.size)
  refine w_nameQ (fun Q hQ => ?_)
  have hl := lv_entry ([.ref (a9 0), .int x1] : List Value) (n := 3) (Nat.le_of_ble_eq_true rfl)
  rw [lg_entry_eq]
  generalize (lg_sl ([.ref (a9 0), .int x1] : List Value) ++ List.replicate (3 - (lg_sl ([.ref (a9 0), .int x1] : List Value)).length) Slot.unset).toArray = ls at hl ⊢
  have hl : lv_has ls 3 [(0, .ref (a9 0)), (1, .int x1)] := hl
  generalize hAe : va_A [(a9 0, .inr (9, fl9 a9 i9 g9)), ((a9 11), .inl (cyI, 60, .inl c_goes)), ((a9 21), .inl (cyI, 30, .inl c_opens))] s.heap.size = A at hD hQ
  have hA : ∀ q : Nat, s.heap.size ≤ q → A q := fun q h => by rw [← hAe]; exact Or.inr h
  have hS : va_S A s.heap s.heap [] := va_S.rf
  generalize ([.ref (a9 0), .int x1] : List Value).toArray = av at hts hQ ⊢
  have hL : ∀ w ∈ wsL_law, w.before av s = true := fun w h => hts w (List.mem_cons_of_mem _ h)
  have w0 := hL (.fieldLink RX9 241 "LosingLeagueModel" "open" "I") (hR26 0 rfl)
  have w1 := hL (.fieldLink RX9 40 "LosingLeagueModel" "goes" "[I") (hR6 14 rfl)
  have w2 := hL (.fieldLink RX9 70 "LosingLeagueModel" "opens" "[I") (hR7 0 rfl)
  have hB2 : ∀ (n : Nat), ∀ (x2 : Int32) (c_goes : Nat → Int32) (H : Heap) (locs : List Loc) (ls : Array Slot), fX9_setEnds_2 N (i9 13) c_opens x1 n x2 c_goes = some q → va_P D vwCl [(a9 0, .inr (9, fl9 a9 i9 g9)), ((a9 11), .inl (cyI, 60, .inl c_goes)), ((a9 21), .inl (cyI, 30, .inl c_opens))] H → va_D A [(a9 0, .inr (9, fl9 a9 i9 g9)), ((a9 11), .inl (cyI, 60, .inl c_goes)), ((a9 21), .inl (cyI, 30, .inl c_opens))] → va_S A s.heap H locs → lv_has ls 3 [(0, .ref (a9 0)), (1, .int x1), (2, .int x2)] → W p l e rmX9_setEnds s m av below meth c H locs 0 0 Q (F0 m 2 ls []) := by
    intro n
    induction n with
    | zero => intro x2 c_goes H locs ls hf; exact absurd hf (by simp [fX9_setEnds_2])
    | succ n hk2 =>
      intro x2 c_goes H locs ls hf hP hD hS hl
      rw [fX9_setEnds_2] at hf
      refine lv_iload_n hx hb dX9_setEnds_2 rfl (lv_at hl 2 rfl) ?_
      refine lv_aload_n hx hb dX9_setEnds_3 rfl (lv_at hl 0 rfl) ?_
      refine va_get (D := D) (ci := 9) (v := .int (i9 13)) (C := RX9) (T := TX9) (N := 52) hx hb hL inlX9 hown hK.1 hP 0 rfl rfl 34 (by decide) w0 (fun _ h9 => h9) rfl dX9_setEnds_4 ?_
      refine lv_icmp_ge (tgt := 39) hx hb dX9_setEnds_7 (by decide) (fun c7 => ?_) (fun c7 => ?_)
      · have hf := pif_t c7 hf
        exact ret_v (q := q) (wp := fun q => [(a9 0, .inr (9, fl9 a9 i9 g9)), ((a9 11), .inl (cyI, 60, .inl q)), ((a9 21), .inl (cyI, 30, .inl c_opens))]) hQ hf hx hb hr hlocks hP hD hS dX9_setEnds_39
      · have hf := pif_f c7 hf
        refine lv_aload_n hx hb dX9_setEnds_10 rfl (lv_at hl 0 rfl) ?_
        refine va_get (D := D) (ci := 9) (v := .ref (a9 11)) (C := RX9) (T := TX9) (N := 52) hx hb hL inlX9 hown hK.1 hP 0 rfl rfl 21 (by decide) w1 (fun _ h9 => h9) rfl dX9_setEnds_11 ?_
        refine lv_aload_n hx hb dX9_setEnds_14 rfl (lv_at hl 0 rfl) ?_
        refine va_get (D := D) (ci := 9) (v := .ref (a9 21)) (C := RX9) (T := TX9) (N := 52) hx hb hL inlX9 hown hK.1 hP 0 rfl rfl 33 (by decide) w2 (fun _ h9 => h9) rfl dX9_setEnds_15 ?_
        refine lv_iload_n hx hb dX9_setEnds_18 rfl (lv_at hl 2 rfl) ?_
        obtain ⟨h19, hf⟩ := pg_some hf
        refine va_iald hx hb hK.1 hP 2 0 rfl rfl h19 dX9_setEnds_19 ?_
        refine lv_iload_n hx hb dX9_setEnds_20 rfl (lv_at hl 1 rfl) ?_
        refine lv_aload_n hx hb dX9_setEnds_21 rfl (lv_at hl 0 rfl) ?_
        refine va_get (D := D) (ci := 9) (v := .int (i9 13)) (C := RX9) (T := TX9) (N := 52) hx hb hL inlX9 hown hK.1 hP 0 rfl rfl 34 (by decide) w0 (fun _ h9 => h9) rfl dX9_setEnds_22 ?_
        refine lv_iconst (v := 1) hx hb dX9_setEnds_25 (by decide) ?_
        refine lv_isub hx hb dX9_setEnds_26 ?_
        refine lv_iload_n hx hb dX9_setEnds_27 rfl (lv_at hl 2 rfl) ?_
        refine lv_isub hx hb dX9_setEnds_28 ?_
        refine lv_ishr hx hb dX9_setEnds_29 ?_
        refine lv_iconst (v := 1) hx hb dX9_setEnds_30 (by decide) ?_
        refine lv_iand hx hb dX9_setEnds_31 ?_
        obtain ⟨h32, hf⟩ := pg_some hf
        refine va_iast hx hb hK.1 hP hD hS 1 0 rfl rfl h32 dX9_setEnds_32 (fun H locs hP hD hS => ?_)
        have hP : va_P D vwCl [(a9 0, .inr (9, fl9 a9 i9 g9)), ((a9 11), .inl (cyI, 60, .inl (upd c_goes (c_opens x2.toNatClampNeg).toNatClampNeg ((x1 >>> ((((i9 13) - 1) - x2) &&& 31)) &&& 1)))), ((a9 21), .inl (cyI, 30, .inl c_opens))] H := hP
        have hD : va_D A [(a9 0, .inr (9, fl9 a9 i9 g9)), ((a9 11), .inl (cyI, 60, .inl (upd c_goes (c_opens x2.toNatClampNeg).toNatClampNeg ((x1 >>> ((((i9 13) - 1) - x2) &&& 31)) &&& 1)))), ((a9 21), .inl (cyI, 30, .inl c_opens))] := hD
        refine lv_iinc (v := x2 + 1) (lv' := [(2, .int (x2 + 1)), (0, .ref (a9 0)), (1, .int x1)]) hx hb dX9_setEnds_33 hl (k := 2) rfl rfl (by decide) rfl (fun ls hl => ?_)
        refine lv_goto (tgt := 2) hx hb dX9_setEnds_36 (by decide) ?_
        exact hk2 (x2 + 1) (upd c_goes (c_opens x2.toNatClampNeg).toNatClampNeg ((x1 >>> ((((i9 13) - 1) - x2) &&& 31)) &&& 1)) H locs ls hf hP hD hS (lv_sub hl [1, 2, 0] rfl)
  unfold fX9_setEnds at hf
  obtain ⟨H, hH⟩ : ∃ H : Heap, H = s.heap := ⟨_, rfl⟩
  obtain ⟨locs, hlo⟩ : ∃ locs : List Loc, locs = [] := ⟨_, rfl⟩
  have hP : va_P D vwCl [(a9 0, .inr (9, fl9 a9 i9 g9)), ((a9 11), .inl (cyI, 60, .inl c_goes)), ((a9 21), .inl (cyI, 30, .inl c_opens))] H := by rw [hH]; exact hP
  have hS : va_S A s.heap H locs := by rw [hH, hlo]; exact hS
  suffices hw : W p l e rmX9_setEnds s m av below meth c H locs 0 0 Q (F0 m 0 ls []) by rw [hH, hlo] at hw; exact hw
  refine lv_iconst (v := 0) hx hb dX9_setEnds_0 (by decide) ?_
  refine lv_istore_n (lv' := [(2, .int 0), (0, .ref (a9 0)), (1, .int x1)]) hx hb dX9_setEnds_1 rfl hl (by decide) rfl (fun ls hl => ?_)
  exact hB2 N 0 c_goes H locs ls hf hP hD hS (lv_sub hl [1, 2, 0] rfl)
abbrev rmX9_setOpen : Room := { frames := 0, cells := 0, slots := 0, locals := 0 }
set_option maxHeartbeats 40000000 in
set_option maxRecDepth 100000 in
theorem mX9_setOpen (l : Launch) (D : va_G) (cyI cyJ cyB cyS : ClassId) (N : Nat) (sz : Nat) (a9 : Nat → Nat) (i9 : Nat → Int32) (g9 : Nat → Int64) (c_goes : Nat → Int32) (c_opens : Nat → Int32) (q : (Nat → Int32)) (hf : fX9_setOpen N (i9 13) c_goes c_opens = some q) : Met l yX9_setOpen (wS yX9_setOpen cX9_setOpen 2 none) rmX9_setOpen (va_Pc [.ref (a9 0)] (PP D cyI cyJ cyB cyS [(a9 0, .inr (9, fl9 a9 i9 g9)), ((a9 11), .inl (cyI, 60, .inl c_goes)), ((a9 21), .inl (cyI, 30, .inl c_opens))] sz)) (QV D [(a9 0, .inr (9, fl9 a9 i9 g9)), ((a9 11), .inl (cyI, 60, .inl q)), ((a9 21), .inl (cyI, 30, .inl c_opens))] (va_A [(a9 0, .inr (9, fl9 a9 i9 g9)), ((a9 11), .inl (cyI, 60, .inl c_goes)), ((a9 21), .inl (cyI, 30, .inl c_opens))] sz)) 0 0 (va_A [(a9 0, .inr (9, fl9 a9 i9 g9)), ((a9 11), .inl (cyI, 60, .inl c_goes)), ((a9 21), .inl (cyI, 30, .inl c_opens))] sz) := by
  refine Met.ofW (cc := cX9_setOpen) (maxL := 2) (ret := none) (by decide) rfl ?_
  intro p e s m args below meth c s₁ B hml hv
  obtain ⟨rfl, hsz, hP, hK, hD0⟩ := hv
  have hx := B.exec
  have hb := B.bytes
  have hr := B.returns
  have hts := atoms_spec (ws := (wS yX9_setOpen cX9_setOpen 2 none)) B.pre
  have hown : s.vm.findClass RX9 = some m.cls := findClass_of_methodNamed B.named
  have hlocks := B.notSynchronized
  subst hsz
  have hD := hD0.self (sz := s.heap.size)
  refine w_nameQ (fun Q hQ => ?_)
  have hl := lv_entry ([.ref (a9 0)] : List Value) (n := 2) (Nat.le_of_ble_eq_true rfl)
  rw [lg_entry_eq]
  generalize (lg_sl ([.ref (a9 0)] : List Value) ++ List.replicate (2 - (lg_sl ([.ref (a9 0)] : List Value)).length) Slot.unset).toArray = ls at hl ⊢
  have hl : lv_has ls 2 [(0, .ref (a9 0))] := hl
  generalize hAe : va_A [(a9 0, .inr (9, fl9 a9 i9 g9)), ((a9 11), .inl (cyI, 60, .inl c_goes)), ((a9 21), .inl (cyI, 30, .inl c_opens))] s.heap.size = A at hD hQ
  have hA : ∀ q : Nat, s.heap.size ≤ q → A q := fun q h => by rw [← hAe]; exact Or.inr h
  have hS : va_S A s.heap s.heap [] := va_S.rf
  generalize ([.ref (a9 0)] : List Value).toArray = av at hts hQ ⊢
  have hL : ∀ w ∈ wsL_law, w.before av s = true := fun w h => hts w (List.mem_cons_of_mem _ h)
  have w0 := hL (.fieldLink RX9 241 "LosingLeagueModel" "open" "I") (hR26 0 rfl)
  have w1 := hL (.fieldLink RX9 40 "LosingLeagueModel" "goes" "[I") (hR6 14 rfl)
  have w2 := hL (.fieldLink RX9 70 "LosingLeagueModel" "opens" "[I") (hR7 0 rfl)
  have hB2 : ∀ (n : Nat), ∀ (x1 : Int32) (c_goes : Nat → Int32) (H : Heap) (locs : List Loc) (ls : Array Slot), fX9_setOpen_2 N (i9 13) c_opens n x1 c_goes = some q → va_P D vwCl [(a9 0, .inr (9, fl9 a9 i9 g9)), ((a9 11), .inl (cyI, 60, .inl c_goes)), ((a9 21), .inl (cyI, 30, .inl c_opens))] H → va_D A [(a9 0, .inr (9, fl9 a9 i9 g9)), ((a9 11), .inl (cyI, 60, .inl c_goes)), ((a9 21), .inl (cyI, 30, .inl c_opens))] → va_S A s.heap H locs → lv_has ls 2 [(0, .ref (a9 0)), (1, .int x1)] → W p l e rmX9_setOpen s m av below meth c H locs 0 0 Q (F0 m 2 ls []) := by
    intro n
    induction n with
    | zero => intro x1 c_goes H locs ls hf; exact absurd hf (by simp [fX9_setOpen_2])
    | succ n hk2 =>
      intro x1 c_goes H locs ls hf hP hD hS hl
      rw [fX9_setOpen_2] at hf
      refine lv_iload_n hx hb dX9_setOpen_2 rfl (lv_at hl 1 rfl) ?_
      refine lv_aload_n hx hb dX9_setOpen_3 rfl (lv_at hl 0 rfl) ?_
      refine va_get (D := D) (ci := 9) (v := .int (i9 13)) (C := RX9) (T := TX9) (N := 52) hx hb hL inlX9 hown hK.1 hP 0 rfl rfl 34 (by decide) w0 (fun _ h9 => h9) rfl dX9_setOpen_4 ?_
      refine lv_icmp_ge (tgt := 28) hx hb dX9_setOpen_7 (by decide) (fun c7 => ?_) (fun c7 => ?_)
      · have hf := pif_t c7 hf
        exact ret_v (q := q) (wp := fun q => [(a9 0, .inr (9, fl9 a9 i9 g9)), ((a9 11), .inl (cyI, 60, .inl q)), ((a9 21), .inl (cyI, 30, .inl c_opens))]) hQ hf hx hb hr hlocks hP hD hS dX9_setOpen_28
      · have hf := pif_f c7 hf
        refine lv_aload_n hx hb dX9_setOpen_10 rfl (lv_at hl 0 rfl) ?_
        refine va_get (D := D) (ci := 9) (v := .ref (a9 11)) (C := RX9) (T := TX9) (N := 52) hx hb hL inlX9 hown hK.1 hP 0 rfl rfl 21 (by decide) w1 (fun _ h9 => h9) rfl dX9_setOpen_11 ?_
        refine lv_aload_n hx hb dX9_setOpen_14 rfl (lv_at hl 0 rfl) ?_
        refine va_get (D := D) (ci := 9) (v := .ref (a9 21)) (C := RX9) (T := TX9) (N := 52) hx hb hL inlX9 hown hK.1 hP 0 rfl rfl 33 (by decide) w2 (fun _ h9 => h9) rfl dX9_setOpen_15 ?_
        refine lv_iload_n hx hb dX9_setOpen_18 rfl (lv_at hl 1 rfl) ?_
        obtain ⟨h19, hf⟩ := pg_some hf
        refine va_iald hx hb hK.1 hP 2 0 rfl rfl h19 dX9_setOpen_19 ?_
        refine lv_iconst (v := 2) hx hb dX9_setOpen_20 (by decide) ?_
        obtain ⟨h21, hf⟩ := pg_some hf
        refine va_iast hx hb hK.1 hP hD hS 1 0 rfl rfl h21 dX9_setOpen_21 (fun H locs hP hD hS => ?_)
        have hP : va_P D vwCl [(a9 0, .inr (9, fl9 a9 i9 g9)), ((a9 11), .inl (cyI, 60, .inl (upd c_goes (c_opens x1.toNatClampNeg).toNatClampNeg 2))), ((a9 21), .inl (cyI, 30, .inl c_opens))] H := hP
        have hD : va_D A [(a9 0, .inr (9, fl9 a9 i9 g9)), ((a9 11), .inl (cyI, 60, .inl (upd c_goes (c_opens x1.toNatClampNeg).toNatClampNeg 2))), ((a9 21), .inl (cyI, 30, .inl c_opens))] := hD
        refine lv_iinc (v := x1 + 1) (lv' := [(1, .int (x1 + 1)), (0, .ref (a9 0))]) hx hb dX9_setOpen_22 hl (k := 1) rfl rfl (by decide) rfl (fun ls hl => ?_)
        refine lv_goto (tgt := 2) hx hb dX9_setOpen_25 (by decide) ?_
        exact hk2 (x1 + 1) (upd c_goes (c_opens x1.toNatClampNeg).toNatClampNeg 2) H locs ls hf hP hD hS (lv_sub hl [1, 0] rfl)
  unfold fX9_setOpen at hf
  obtain ⟨H, hH⟩ : ∃ H : Heap, H = s.heap := ⟨_, rfl⟩
  obtain ⟨locs, hlo⟩ : ∃ locs : List Loc, locs = [] := ⟨_, rfl⟩
  have hP : va_P D vwCl [(a9 0, .inr (9, fl9 a9 i9 g9)), ((a9 11), .inl (cyI, 60, .inl c_goes)), ((a9 21), .inl (cyI, 30, .inl c_opens))] H := by rw [hH]; exact hP
  have hS : va_S A s.heap H locs := by rw [hH, hlo]; exact hS
  suffices hw : W p l e rmX9_setOpen s m av below meth c H locs 0 0 Q (F0 m 0 ls []) by rw [hH, hlo] at hw; exact hw
  refine lv_iconst (v := 0) hx hb dX9_setOpen_0 (by decide) ?_
  refine lv_istore_n (lv' := [(1, .int 0), (0, .ref (a9 0))]) hx hb dX9_setOpen_1 rfl hl (by decide) rfl (fun ls hl => ?_)
  exact hB2 N 0 c_goes H locs ls hf hP hD hS (lv_sub hl [1, 0] rfl)
