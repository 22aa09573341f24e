/-! Constructors: new arrays of the known classes, a call of a constructor, its frame. -/
/-- the nest's own constructors, by their places -/
def nwL : List (String × Nat × MethodName) := [(RX1, 11, yX5_init), (RX1, 20, yX2_init), (RX6, 33, yX0_init), (RX6, 40, yX4_init), (RX6, 47, yX2_init), (RX7, 20, yX0_init), (RX7, 27, yX4_init), (RX8, 9, yX2_init), (RX8, 18, yX0_init), (RX8, 25, yX4_init), (RX8, 32, yX1_init), (RX8, 39, yX6_init), (RX8, 46, yX7_init), (RX8, 60, yX3_init)]
def KN (U : State) : Prop := (∀ q ∈ nwL, va_Nw (.methodLinkNest q.1 q.2.1 q.2.2 RX8) U) ∧ va_AO "LosingLeague$Sheet" U
theorem KN_warm {s U : State} (hW : s.WarmedH U.vm) (h : KN s) : KN U := ⟨fun q hq => va_Nw.warmM hW (h.1 q hq), va_AO.moved hW.alike h.2⟩
theorem KN_at {U : State} (h : KN U) (i : Nat) {a : String} {b : Nat} {y : MethodName} (hi : nwL[i]? = some (a, b, y)) : va_Nw (.methodLinkNest a b y RX8) U := h.1 _ (List.mem_of_getElem? hi)
def PPn (D : va_G) (cyI cyJ cyB cyS : ClassId) (ws : va_W) (sz : Nat) : State → Prop := fun U => PP D cyI cyJ cyB cyS ws sz U ∧ KN U
theorem PPn_blind {D : va_G} {cyI cyJ cyB cyS : ClassId} {ws : va_W} {sz : Nat} {av : List Value} : FrameBlind (va_Pc av (PPn D cyI cyJ cyB cyS ws sz)) := fun a U g mk q => by
  obtain ⟨q0, q1, qX⟩ := q
  have h1 := PP_blind (av := av) a U g mk ⟨q0, q1⟩
  exact ⟨h1.1, h1.2, fun q hq => va_Nw.same rfl rfl (qX.1 q hq), va_AO.moved (u := U) (U := U.calling g mk a) (Vm.Alike.refl U.vm) qX.2⟩
theorem PPn_preS {D : va_G} {cyI cyJ cyB cyS : ClassId} {ws wc : va_W} {s : State} {H : Heap} {A : Nat → Prop} {As : List Value} (hP : va_P D vwCl ws H) (hD : va_D A ws) (hK : KK D cyI cyJ cyB cyS s) (hN : KN s) (isC : List Nat) (hn : va_nd isC = true) (hC : isC.map (fun i => ws[i]?) = wc.map some) : PreS s H (va_Pc As (PPn D cyI cyJ cyB cyS wc H.size)) As :=
  ⟨PPn_blind, fun U hU hW => ⟨rfl, PP_at hP hD hK isC hn hC U hU hW, KN_warm hW hN⟩⟩
/-- a constructor's end: its world, at new addresses -/
def QN (D : va_G) (wp : (Nat → Nat) → va_W) (A : Nat → Prop) : Array Value → State → Outcome → State → Prop := va_Qv (fun (_ : Nat → Nat) => True) (fun u t => va_P D vwCl (wp u) t.heap ∧ va_D A (wp u)) A
section NW
variable {p : Program} {l : Launch} {e : Env} {R : Room} {s : State} {m : MethodId} {args : Array Value} {below : List Frame} {meth : Method} {c : Code} {H : Heap} {locs : List Loc} {cells slots : Nat} {Q : State → Prop} {D : va_G} {A : Nat → Prop} {pc : Nat} {ls : Array Slot} {st0 rest : List Value} {ws wc wr : va_W} {a : Array Value} {cyI cyJ cyB cyS : ClassId} {cc : ByteArray}
theorem nw_I (hx : p.tables.exec = Jvm.exec) (hb : c.code = cc) (hK : KK D cyI cyJ cyB cyS s) (harr : (Cond.arrayClass .int).before args s = true) (hP : va_P D vwCl ws H) (hD : va_D A ws) (hS : va_S A s.heap H locs) (hA : ∀ q, s.heap.size ≤ q → A q) {n : Int32} {N' : Nat} (hn : ¬ n < 0) (hN : n.toNatClampNeg = N') (hbytes : N' * componentBytes .int ≤ 536870912) (hcells : cells + 1 ≤ R.cells) (hslots : slots + N' ≤ R.slots) (hdg : decode cc pc = .ok (.newarray .int, 2))
    (kk : ∀ (q : Nat) (H1 : Heap), va_P D vwCl (ws ++ [(q, .inl (cyI, N', .inl (fun _ => 0)))]) H1 → va_D A (ws ++ [(q, .inl (cyI, N', .inl (fun _ => 0)))]) → va_S A s.heap H1 locs → W p l e R s m args below meth c H1 locs (cells + 1) (slots + N') Q (F0 m (pc + 2) ls (.ref q :: rest))) : W p l e R s m args below meth c H locs cells slots Q (F0 m pc ls (.int n :: rest)) := by
  refine va_newa hx hb (atype := .int) harr rfl hK.1 hP hD hS hA (a0 := (N', .inl (fun _ => 0))) (fun _ => rfl) hn hN hbytes hcells hslots hdg (fun q cA H1 hK1 hP1 hD1 hS1 => ?_)
  have h1 : s.vm.findClass ("[" ++ FieldType.int.toString) = some cA := (hK1.2 4 (cA, .int) rfl).2
  have h2 : s.vm.findClass ("[" ++ FieldType.int.toString) = some cyI := (hK.1.2 0 (cyI, .int) rfl).2
  obtain rfl : cA = cyI := Option.some.inj (h1.symm.trans h2)
  exact kk q H1 hP1 hD1 hS1
theorem nw_J (hx : p.tables.exec = Jvm.exec) (hb : c.code = cc) (hK : KK D cyI cyJ cyB cyS s) (harr : (Cond.arrayClass .long).before args s = true) (hP : va_P D vwCl ws H) (hD : va_D A ws) (hS : va_S A s.heap H locs) (hA : ∀ q, s.heap.size ≤ q → A q) {n : Int32} {N' : Nat} (hn : ¬ n < 0) (hN : n.toNatClampNeg = N') (hbytes : N' * componentBytes .long ≤ 536870912) (hcells : cells + 1 ≤ R.cells) (hslots : slots + N' ≤ R.slots) (hdg : decode cc pc = .ok (.newarray .long, 2))
    (kk : ∀ (q : Nat) (H1 : Heap), va_P D vwCl (ws ++ [(q, .inl (cyJ, N', .inr (.inl (fun _ => 0))))]) H1 → va_D A (ws ++ [(q, .inl (cyJ, N', .inr (.inl (fun _ => 0))))]) → va_S A s.heap H1 locs → W p l e R s m args below meth c H1 locs (cells + 1) (slots + N') Q (F0 m (pc + 2) ls (.ref q :: rest))) : W p l e R s m args below meth c H locs cells slots Q (F0 m pc ls (.int n :: rest)) := by
  refine va_newa hx hb (atype := .long) harr rfl hK.1 hP hD hS hA (a0 := (N', .inr (.inl (fun _ => 0)))) (fun _ => rfl) hn hN hbytes hcells hslots hdg (fun q cA H1 hK1 hP1 hD1 hS1 => ?_)
  have h1 : s.vm.findClass ("[" ++ FieldType.long.toString) = some cA := (hK1.2 4 (cA, .long) rfl).2
  have h2 : s.vm.findClass ("[" ++ FieldType.long.toString) = some cyJ := (hK.1.2 1 (cyJ, .long) rfl).2
  obtain rfl : cA = cyJ := Option.some.inj (h1.symm.trans h2)
  exact kk q H1 hP1 hD1 hS1
theorem nw_B (hx : p.tables.exec = Jvm.exec) (hb : c.code = cc) (hK : KK D cyI cyJ cyB cyS s) (harr : (Cond.arrayClass .byte).before args s = true) (hP : va_P D vwCl ws H) (hD : va_D A ws) (hS : va_S A s.heap H locs) (hA : ∀ q, s.heap.size ≤ q → A q) {n : Int32} {N' : Nat} (hn : ¬ n < 0) (hN : n.toNatClampNeg = N') (hbytes : N' * componentBytes .byte ≤ 536870912) (hcells : cells + 1 ≤ R.cells) (hslots : slots + N' ≤ R.slots) (hdg : decode cc pc = .ok (.newarray .byte, 2))
    (kk : ∀ (q : Nat) (H1 : Heap), va_P D vwCl (ws ++ [(q, .inl (cyB, N', .inl (fun _ => 0)))]) H1 → va_D A (ws ++ [(q, .inl (cyB, N', .inl (fun _ => 0)))]) → va_S A s.heap H1 locs → W p l e R s m args below meth c H1 locs (cells + 1) (slots + N') Q (F0 m (pc + 2) ls (.ref q :: rest))) : W p l e R s m args below meth c H locs cells slots Q (F0 m pc ls (.int n :: rest)) := by
  refine va_newa hx hb (atype := .byte) harr rfl hK.1 hP hD hS hA (a0 := (N', .inl (fun _ => 0))) (fun _ => rfl) hn hN hbytes hcells hslots hdg (fun q cA H1 hK1 hP1 hD1 hS1 => ?_)
  have h1 : s.vm.findClass ("[" ++ FieldType.byte.toString) = some cA := (hK1.2 4 (cA, .byte) rfl).2
  have h2 : s.vm.findClass ("[" ++ FieldType.byte.toString) = some cyB := (hK.1.2 2 (cyB, .byte) rfl).2
  obtain rfl : cA = cyB := Option.some.inj (h1.symm.trans h2)
  exact kk q H1 hP1 hD1 hS1
theorem nw_S (hx : p.tables.exec = Jvm.exec) (hb : c.code = cc) {own : String} {index : Nat} (hown : s.vm.findClass own = some m.cls) (hclink : (Cond.classLink own index "LosingLeague$Sheet").before args s = true) (hN0 : KN s) (hK : KK D cyI cyJ cyB cyS s) (hP : va_P D vwCl ws H) (hD : va_D A ws) (hS : va_S A s.heap H locs) (hA : ∀ q, s.heap.size ≤ q → A q) {n : Int32} {N' : Nat} (hn : ¬ n < 0) (hN : n.toNatClampNeg = N') (hbytes : N' * 4 ≤ 536870912) (hcells : cells + 1 ≤ R.cells) (hslots : slots + N' ≤ R.slots) (hdg : decode cc pc = .ok (.anewarray index, 3))
    (kk : ∀ (q : Nat) (H1 : Heap), va_P D vwCl (ws ++ [(q, .inl (cyS, N', .inr (.inr (.inr (.inr (fun _ => none))))))]) H1 → va_D A (ws ++ [(q, .inl (cyS, N', .inr (.inr (.inr (.inr (fun _ => none))))))]) → va_S A s.heap H1 locs → W p l e R s m args below meth c H1 locs (cells + 1) (slots + N') Q (F0 m (pc + 3) ls (.ref q :: rest))) : W p l e R s m args below meth c H locs cells slots Q (F0 m pc ls (.int n :: rest)) := by
  refine va_newq hx hb hown hclink hN0.2 hK.1 hP hD hS hA hn hN hbytes hcells hslots hdg (fun q cA H1 hK1 hP1 hD1 hS1 => ?_)
  obtain ⟨k1, c1, x1, x2, x3, h1⟩ := (hK1.2 4 (cA, .object "LosingLeague$Sheet") rfl).2
  obtain ⟨k2, c2, y1, y2, y3, h2⟩ := (hK.1.2 3 (cyS, .object "LosingLeague$Sheet") rfl).2
  obtain rfl : cA = cyS := Option.some.inj (h1.symm.trans h2)
  exact kk q H1 hP1 hD1 hS1
theorem cc_n {mc ms : Nat} {wp : (Nat → Nat) → va_W} (hP : va_P D vwCl ws H) (hD : va_D A ws) (hS : va_S A s.heap H locs) (hA : ∀ q, s.heap.size ≤ q → A q) (isC isR : List Nat) (hC : isC.map (fun i => ws[i]?) = wc.map some) (hR : isR.map (fun i => ws[i]?) = wr.map some) (hn : va_nd isR = true) (hdis : ∀ i ∈ isR, i ∉ isC)
    (hr : va_Run p l e R s m args below meth c H locs cells slots mc ms (F0 m pc ls st0) rest (QN D wp (va_A wc H.size) a) (va_A wc H.size))
    (kk : ∀ (u : Nat → Nat) (H1 : Heap) (locs1 : List Loc), va_P D vwCl (wr ++ wp u) H1 → va_D A (wr ++ wp u) → va_S A s.heap H1 locs1 → W p l e R s m args below meth c H1 locs1 (cells + mc) (slots + ms) Q (F0 m (pc + 3) ls rest)) : W p l e R s m args below meth c H locs cells slots Q (F0 m pc ls st0) := by
  have hF := va_free hD hS hA isC hC
  refine va_callv hr hS (fun q _ h => hF q h) hF (fun u t H1 locs1 ht hvm hw hB hz hk hS1 => ?_)
  obtain ⟨hP1, hD1⟩ := hB
  rw [ht] at hP1
  obtain ⟨hP2, hD2⟩ := va_join hP hD isC isR hC hR hn hdis hk hF hP1 hD1
  exact kk u H1 locs1 hP2 hD2 hS1
end NW
def wnX0 (cyI cyJ cyB cyS : ClassId) (h0 : Nat) (a : Nat → Nat) : va_W := [(h0, .inr (0, [.ref (a 0), .ref (a 1), .ref (a 2), .int 0])), (a 0, .inl (cyI, 30, .inl (fun _ => 0))), (a 1, .inl (cyI, 30, .inl (fun _ => 0))), (a 2, .inl (cyI, 30, .inl (fun _ => 0)))]
abbrev rmX0_init : Room := { frames := 1, cells := 3, slots := 90, locals := 20 }
set_option maxHeartbeats 40000000 in
set_option maxRecDepth 100000 in
theorem nX0 (l : Launch) (D : va_G) (cyI cyJ cyB cyS : ClassId) (sz h0 : Nat) : Met l yX0_init (wS yX0_init cX0_init 1 none) rmX0_init (va_Pc [.ref h0] (PPn D cyI cyJ cyB cyS [(h0, .inr (0, [.null, .null, .null, .int 0]))] sz)) (QN D (wnX0 cyI cyJ cyB cyS h0) (va_A [(h0, .inr (0, [.null, .null, .null, .int 0]))] sz)) 3 90 (va_A [(h0, .inr (0, [.null, .null, .null, .int 0]))] sz) := by
  refine Met.ofW (cc := cX0_init) (maxL := 1) (ret := none) (by decide) rfl ?_
  intro p e s m args below meth c s₁ B hml hv
  obtain ⟨rfl, ⟨hsz, hP, hK, hD0⟩, hN⟩ := hv
  have hx := B.exec
  have hb := B.bytes
  have hr := B.returns
  have hts := atoms_spec (ws := (wS yX0_init cX0_init 1 none)) B.pre
  have hown : s.vm.findClass RX0 = some m.cls := findClass_of_methodNamed B.named
  have hlocks := B.notSynchronized
  have hin : meth.name = "<init>" := (name_of_methodNamed B.named B.method).1
  subst hsz
  have hD := hD0.self (sz := s.heap.size)
  refine w_nameQ (fun Q hQ => ?_)
  have hl := lv_entry ([.ref h0] : List Value) (n := 1) (Nat.le_of_ble_eq_true rfl)
  rw [lg_entry_eq]
  generalize (lg_sl ([.ref h0] : List Value) ++ List.replicate (1 - (lg_sl ([.ref h0] : List Value)).length) Slot.unset).toArray = ls at hl ⊢
  have hl : lv_has ls 1 [(0, .ref h0)] := hl
  generalize hAe : va_A [(h0, .inr (0, [.null, .null, .null, .int 0]))] s.heap.size = A at hD hQ
  have hA : ∀ q : Nat, s.heap.size ≤ q → A q := fun q h => by rw [← hAe]; exact Or.inr h
  have hS : va_S A s.heap s.heap [] := va_S.rf
  generalize ([.ref h0] : List Value).toArray = av at hts hQ ⊢
  have hL : ∀ w ∈ wsL_law, w.before av s = true := fun w h => hts w (List.mem_cons_of_mem _ h)
  have w0 := hL (.methodLink RX0 3 objectInit) (hR3 4 rfl)
  have w1 := hL (.instanceMethod objectInit) (hR1 11 rfl)
  have w2 := hL (.code objectInit ⟨#[0xb1]⟩ 1 none) (hR1 12 rfl)
  have w3 := hL (.arrayClass .int) (hR2 20 rfl)
  have w4 := hL (.fieldLink RX0 9 "LosingLeague$Games" "first" "[I") (hR3 5 rfl)
  have w5 := hL (.fieldLink RX0 15 "LosingLeague$Games" "second" "[I") (hR3 6 rfl)
  have w6 := hL (.fieldLink RX0 18 "LosingLeague$Games" "ending" "[I") (hR3 7 rfl)
  obtain ⟨H, hH⟩ : ∃ H : Heap, H = s.heap := ⟨_, rfl⟩
  obtain ⟨locs, hlo⟩ : ∃ locs : List Loc, locs = [] := ⟨_, rfl⟩
  have hP : va_P D vwCl [(h0, .inr (0, [.null, .null, .null, .int 0]))] H := by rw [hH]; exact hP
  have hS : va_S A s.heap H locs := by rw [hH, hlo]; exact hS
  suffices hw : W p l e rmX0_init s m av below meth c H locs 0 0 Q (F0 m 0 ls []) by rw [hH, hlo] at hw; exact hw
  refine lv_aload_n hx hb dX0_init_0 rfl (lv_at hl 0 rfl) ?_
  refine W.objInit hx hb hown w0 w1 w2 rfl (by rw [hml]; exact hl.1) rfl dX0_init_1 (Nat.le_of_ble_eq_true rfl) (Nat.le_of_ble_eq_true rfl) ?_
  refine W.eq (g2 := F0 m 4 ls []) rfl ?_
  refine lv_aload_n hx hb dX0_init_4 rfl (lv_at hl 0 rfl) ?_
  refine lv_bipush (v := 30) hx hb dX0_init_5 (by decide) ?_
  refine nw_I hx hb hK w3 hP hD hS hA (by decide) (N' := 30) (by decide) (by decide) (Nat.le_of_ble_eq_true rfl) (Nat.le_of_ble_eq_true rfl) dX0_init_7 (fun q7_5 H hP hD hS => ?_)
  have hP : va_P D vwCl [(h0, .inr (0, [.null, .null, .null, .int 0])), (q7_5, .inl (cyI, 30, .inl (fun _ => 0)))] H := hP
  have hD : va_D A [(h0, .inr (0, [.null, .null, .null, .int 0])), (q7_5, .inl (cyI, 30, .inl (fun _ => 0)))] := hD
  refine W.widen (k := 1) (n := 30) (by omega) (by omega) ?_
  refine va_putF (D := D) (ci := 0) (v := .ref q7_5) (ty := (.array .int)) (C := RX0) (T := TX0) (N := 4) hx hb hL inlX0 tyX0 tyX0_ok nmX0 hown hK.1 hP hD hS 0 rfl rfl 0 (by decide) w4 (fun _ h9 => h9) rfl hin rfl (by decide +kernel) rfl rfl (Nat.le_of_ble_eq_true rfl) dX0_init_9 (fun H locs hP hD hS => ?_)
  have hP : va_P D vwCl [(h0, .inr (0, [.ref q7_5, .null, .null, .int 0])), (q7_5, .inl (cyI, 30, .inl (fun _ => 0)))] H := hP
  have hD : va_D A [(h0, .inr (0, [.ref q7_5, .null, .null, .int 0])), (q7_5, .inl (cyI, 30, .inl (fun _ => 0)))] := hD
  refine lv_aload_n hx hb dX0_init_12 rfl (lv_at hl 0 rfl) ?_
  refine lv_bipush (v := 30) hx hb dX0_init_13 (by decide) ?_
  refine nw_I hx hb hK w3 hP hD hS hA (by decide) (N' := 30) (by decide) (by decide) (Nat.le_of_ble_eq_true rfl) (Nat.le_of_ble_eq_true rfl) dX0_init_15 (fun q15_9 H hP hD hS => ?_)
  have hP : va_P D vwCl [(h0, .inr (0, [.ref q7_5, .null, .null, .int 0])), (q7_5, .inl (cyI, 30, .inl (fun _ => 0))), (q15_9, .inl (cyI, 30, .inl (fun _ => 0)))] H := hP
  have hD : va_D A [(h0, .inr (0, [.ref q7_5, .null, .null, .int 0])), (q7_5, .inl (cyI, 30, .inl (fun _ => 0))), (q15_9, .inl (cyI, 30, .inl (fun _ => 0)))] := hD
  refine W.widen (k := 2) (n := 60) (by omega) (by omega) ?_
  refine va_putF (D := D) (ci := 0) (v := .ref q15_9) (ty := (.array .int)) (C := RX0) (T := TX0) (N := 4) hx hb hL inlX0 tyX0 tyX0_ok nmX0 hown hK.1 hP hD hS 0 rfl rfl 1 (by decide) w5 (fun _ h9 => h9) rfl hin rfl (by decide +kernel) rfl rfl (Nat.le_of_ble_eq_true rfl) dX0_init_17 (fun H locs hP hD hS => ?_)
  have hP : va_P D vwCl [(h0, .inr (0, [.ref q7_5, .ref q15_9, .null, .int 0])), (q7_5, .inl (cyI, 30, .inl (fun _ => 0))), (q15_9, .inl (cyI, 30, .inl (fun _ => 0)))] H := hP
  have hD : va_D A [(h0, .inr (0, [.ref q7_5, .ref q15_9, .null, .int 0])), (q7_5, .inl (cyI, 30, .inl (fun _ => 0))), (q15_9, .inl (cyI, 30, .inl (fun _ => 0)))] := hD
  refine lv_aload_n hx hb dX0_init_20 rfl (lv_at hl 0 rfl) ?_
  refine lv_bipush (v := 30) hx hb dX0_init_21 (by decide) ?_
  refine nw_I hx hb hK w3 hP hD hS hA (by decide) (N' := 30) (by decide) (by decide) (Nat.le_of_ble_eq_true rfl) (Nat.le_of_ble_eq_true rfl) dX0_init_23 (fun q23_13 H hP hD hS => ?_)
  have hP : va_P D vwCl [(h0, .inr (0, [.ref q7_5, .ref q15_9, .null, .int 0])), (q7_5, .inl (cyI, 30, .inl (fun _ => 0))), (q15_9, .inl (cyI, 30, .inl (fun _ => 0))), (q23_13, .inl (cyI, 30, .inl (fun _ => 0)))] H := hP
  have hD : va_D A [(h0, .inr (0, [.ref q7_5, .ref q15_9, .null, .int 0])), (q7_5, .inl (cyI, 30, .inl (fun _ => 0))), (q15_9, .inl (cyI, 30, .inl (fun _ => 0))), (q23_13, .inl (cyI, 30, .inl (fun _ => 0)))] := hD
  refine W.widen (k := 3) (n := 90) (by omega) (by omega) ?_
  refine va_putF (D := D) (ci := 0) (v := .ref q23_13) (ty := (.array .int)) (C := RX0) (T := TX0) (N := 4) hx hb hL inlX0 tyX0 tyX0_ok nmX0 hown hK.1 hP hD hS 0 rfl rfl 2 (by decide) w6 (fun _ h9 => h9) rfl hin rfl (by decide +kernel) rfl rfl (Nat.le_of_ble_eq_true rfl) dX0_init_25 (fun H locs hP hD hS => ?_)
  have hP : va_P D vwCl [(h0, .inr (0, [.ref q7_5, .ref q15_9, .ref q23_13, .int 0])), (q7_5, .inl (cyI, 30, .inl (fun _ => 0))), (q15_9, .inl (cyI, 30, .inl (fun _ => 0))), (q23_13, .inl (cyI, 30, .inl (fun _ => 0)))] H := hP
  have hD : va_D A [(h0, .inr (0, [.ref q7_5, .ref q15_9, .ref q23_13, .int 0])), (q7_5, .inl (cyI, 30, .inl (fun _ => 0))), (q15_9, .inl (cyI, 30, .inl (fun _ => 0))), (q23_13, .inl (cyI, 30, .inl (fun _ => 0)))] := hD
  rw [hQ]
  exact W.vret hx hb hr (fun t ht hW => ⟨⟨(fun k => ([q7_5, q15_9, q23_13] : List Nat).getD k 0), rfl, trivial, by rw [ht]; exact hP, hD⟩, hS.F ht⟩) hS.2.2 dX0_init_28
def wnX2 (cyI cyJ cyB cyS : ClassId) (h0 : Nat) (a : Nat → Nat) : va_W := [(h0, .inr (2, [.ref (a 0), .ref (a 1), .ref (a 2), .ref (a 3), .ref (a 4), .int 0, .int 0, .int 0])), (a 0, .inl (cyI, 6, .inl (fun _ => 0))), (a 1, .inl (cyI, 6, .inl (fun _ => 0))), (a 2, .inl (cyI, 6, .inl (fun _ => 0))), (a 3, .inl (cyI, 6, .inl (fun _ => 0))), (a 4, .inl (cyI, 6, .inl (fun _ => 0)))]
abbrev rmX2_init : Room := { frames := 1, cells := 5, slots := 30, locals := 20 }
set_option maxHeartbeats 40000000 in
set_option maxRecDepth 100000 in
theorem nX2 (l : Launch) (D : va_G) (cyI cyJ cyB cyS : ClassId) (sz h0 : Nat) : Met l yX2_init (wS yX2_init cX2_init 1 none) rmX2_init (va_Pc [.ref h0] (PPn D cyI cyJ cyB cyS [(h0, .inr (2, [.null, .null, .null, .null, .null, .int 0, .int 0, .int 0]))] sz)) (QN D (wnX2 cyI cyJ cyB cyS h0) (va_A [(h0, .inr (2, [.null, .null, .null, .null, .null, .int 0, .int 0, .int 0]))] sz)) 5 30 (va_A [(h0, .inr (2, [.null, .null, .null, .null, .null, .int 0, .int 0, .int 0]))] sz) := by
  refine Met.ofW (cc := cX2_init) (maxL := 1) (ret := none) (by decide) rfl ?_
  intro p e s m args below meth c s₁ B hml hv
  obtain ⟨rfl, ⟨hsz, hP, hK, hD0⟩, hN⟩ := hv
  have hx := B.exec
  have hb := B.bytes
  have hr := B.returns
  have hts := atoms_spec (ws := (wS yX2_init cX2_init 1 none)) B.pre
  have hown : s.vm.findClass RX2 = some m.cls := findClass_of_methodNamed B.named
  have hlocks := B.notSynchronized
  have hin : meth.name = "<init>" := (name_of_methodNamed B.named B.method).1
  subst hsz
  have hD := hD0.self (sz := s.heap.size)
  refine w_nameQ (fun Q hQ => ?_)
  have hl := lv_entry ([.ref h0] : List Value) (n := 1) (Nat.le_of_ble_eq_true rfl)
  rw [lg_entry_eq]
  generalize (lg_sl ([.ref h0] : List Value) ++ List.replicate (1 - (lg_sl ([.ref h0] : List Value)).length) Slot.unset).toArray = ls at hl ⊢
  have hl : lv_has ls 1 [(0, .ref h0)] := hl
  generalize hAe : va_A [(h0, .inr (2, [.null, .null, .null, .null, .null, .int 0, .int 0, .int 0]))] s.heap.size = A at hD hQ
  have hA : ∀ q : Nat, s.heap.size ≤ q → A q := fun q h => by rw [← hAe]; exact Or.inr h
  have hS : va_S A s.heap s.heap [] := va_S.rf
  generalize ([.ref h0] : List Value).toArray = av at hts hQ ⊢
  have hL : ∀ w ∈ wsL_law, w.before av s = true := fun w h => hts w (List.mem_cons_of_mem _ h)
  have w0 := hL (.methodLink RX2 3 objectInit) (hR2 19 rfl)
  have w1 := hL (.instanceMethod objectInit) (hR1 11 rfl)
  have w2 := hL (.code objectInit ⟨#[0xb1]⟩ 1 none) (hR1 12 rfl)
  have w3 := hL (.arrayClass .int) (hR2 20 rfl)
  have w4 := hL (.fieldLink RX2 9 "LosingLeague$Rules" "strength" "[I") (hR2 21 rfl)
  have w5 := hL (.fieldLink RX2 15 "LosingLeague$Rules" "placeWorth" "[I") (hR2 22 rfl)
  have w6 := hL (.fieldLink RX2 18 "LosingLeague$Rules" "choiceWorth" "[I") (hR2 23 rfl)
  have w7 := hL (.fieldLink RX2 21 "LosingLeague$Rules" "balls" "[I") (hR3 0 rfl)
  have w8 := hL (.fieldLink RX2 24 "LosingLeague$Rules" "wheel" "[I") (hR3 1 rfl)
  obtain ⟨H, hH⟩ : ∃ H : Heap, H = s.heap := ⟨_, rfl⟩
  obtain ⟨locs, hlo⟩ : ∃ locs : List Loc, locs = [] := ⟨_, rfl⟩
  have hP : va_P D vwCl [(h0, .inr (2, [.null, .null, .null, .null, .null, .int 0, .int 0, .int 0]))] H := by rw [hH]; exact hP
  have hS : va_S A s.heap H locs := by rw [hH, hlo]; exact hS
  suffices hw : W p l e rmX2_init s m av below meth c H locs 0 0 Q (F0 m 0 ls []) by rw [hH, hlo] at hw; exact hw
  refine lv_aload_n hx hb dX2_init_0 rfl (lv_at hl 0 rfl) ?_
  refine W.objInit hx hb hown w0 w1 w2 rfl (by rw [hml]; exact hl.1) rfl dX2_init_1 (Nat.le_of_ble_eq_true rfl) (Nat.le_of_ble_eq_true rfl) ?_
  refine W.eq (g2 := F0 m 4 ls []) rfl ?_
  refine lv_aload_n hx hb dX2_init_4 rfl (lv_at hl 0 rfl) ?_
  refine lv_bipush (v := 6) hx hb dX2_init_5 (by decide) ?_
  refine nw_I hx hb hK w3 hP hD hS hA (by decide) (N' := 6) (by decide) (by decide) (Nat.le_of_ble_eq_true rfl) (Nat.le_of_ble_eq_true rfl) dX2_init_7 (fun q7_5 H hP hD hS => ?_)
  have hP : va_P D vwCl [(h0, .inr (2, [.null, .null, .null, .null, .null, .int 0, .int 0, .int 0])), (q7_5, .inl (cyI, 6, .inl (fun _ => 0)))] H := hP
  have hD : va_D A [(h0, .inr (2, [.null, .null, .null, .null, .null, .int 0, .int 0, .int 0])), (q7_5, .inl (cyI, 6, .inl (fun _ => 0)))] := hD
  refine W.widen (k := 1) (n := 6) (by omega) (by omega) ?_
  refine va_putF (D := D) (ci := 2) (v := .ref q7_5) (ty := (.array .int)) (C := RX2) (T := TX2) (N := 8) hx hb hL inlX2 tyX2 tyX2_ok nmX2 hown hK.1 hP hD hS 0 rfl rfl 0 (by decide) w4 (fun _ h9 => h9) rfl hin rfl (by decide +kernel) rfl rfl (Nat.le_of_ble_eq_true rfl) dX2_init_9 (fun H locs hP hD hS => ?_)
  have hP : va_P D vwCl [(h0, .inr (2, [.ref q7_5, .null, .null, .null, .null, .int 0, .int 0, .int 0])), (q7_5, .inl (cyI, 6, .inl (fun _ => 0)))] H := hP
  have hD : va_D A [(h0, .inr (2, [.ref q7_5, .null, .null, .null, .null, .int 0, .int 0, .int 0])), (q7_5, .inl (cyI, 6, .inl (fun _ => 0)))] := hD
  refine lv_aload_n hx hb dX2_init_12 rfl (lv_at hl 0 rfl) ?_
  refine lv_bipush (v := 6) hx hb dX2_init_13 (by decide) ?_
  refine nw_I hx hb hK w3 hP hD hS hA (by decide) (N' := 6) (by decide) (by decide) (Nat.le_of_ble_eq_true rfl) (Nat.le_of_ble_eq_true rfl) dX2_init_15 (fun q15_9 H hP hD hS => ?_)
  have hP : va_P D vwCl [(h0, .inr (2, [.ref q7_5, .null, .null, .null, .null, .int 0, .int 0, .int 0])), (q7_5, .inl (cyI, 6, .inl (fun _ => 0))), (q15_9, .inl (cyI, 6, .inl (fun _ => 0)))] H := hP
  have hD : va_D A [(h0, .inr (2, [.ref q7_5, .null, .null, .null, .null, .int 0, .int 0, .int 0])), (q7_5, .inl (cyI, 6, .inl (fun _ => 0))), (q15_9, .inl (cyI, 6, .inl (fun _ => 0)))] := hD
  refine W.widen (k := 2) (n := 12) (by omega) (by omega) ?_
  refine va_putF (D := D) (ci := 2) (v := .ref q15_9) (ty := (.array .int)) (C := RX2) (T := TX2) (N := 8) hx hb hL inlX2 tyX2 tyX2_ok nmX2 hown hK.1 hP hD hS 0 rfl rfl 1 (by decide) w5 (fun _ h9 => h9) rfl hin rfl (by decide +kernel) rfl rfl (Nat.le_of_ble_eq_true rfl) dX2_init_17 (fun H locs hP hD hS => ?_)
  have hP : va_P D vwCl [(h0, .inr (2, [.ref q7_5, .ref q15_9, .null, .null, .null, .int 0, .int 0, .int 0])), (q7_5, .inl (cyI, 6, .inl (fun _ => 0))), (q15_9, .inl (cyI, 6, .inl (fun _ => 0)))] H := hP
  have hD : va_D A [(h0, .inr (2, [.ref q7_5, .ref q15_9, .null, .null, .null, .int 0, .int 0, .int 0])), (q7_5, .inl (cyI, 6, .inl (fun _ => 0))), (q15_9, .inl (cyI, 6, .inl (fun _ => 0)))] := hD
  refine lv_aload_n hx hb dX2_init_20 rfl (lv_at hl 0 rfl) ?_
  refine lv_bipush (v := 6) hx hb dX2_init_21 (by decide) ?_
  refine nw_I hx hb hK w3 hP hD hS hA (by decide) (N' := 6) (by decide) (by decide) (Nat.le_of_ble_eq_true rfl) (Nat.le_of_ble_eq_true rfl) dX2_init_23 (fun q23_13 H hP hD hS => ?_)
  have hP : va_P D vwCl [(h0, .inr (2, [.ref q7_5, .ref q15_9, .null, .null, .null, .int 0, .int 0, .int 0])), (q7_5, .inl (cyI, 6, .inl (fun _ => 0))), (q15_9, .inl (cyI, 6, .inl (fun _ => 0))), (q23_13, .inl (cyI, 6, .inl (fun _ => 0)))] H := hP
  have hD : va_D A [(h0, .inr (2, [.ref q7_5, .ref q15_9, .null, .null, .null, .int 0, .int 0, .int 0])), (q7_5, .inl (cyI, 6, .inl (fun _ => 0))), (q15_9, .inl (cyI, 6, .inl (fun _ => 0))), (q23_13, .inl (cyI, 6, .inl (fun _ => 0)))] := hD
  refine W.widen (k := 3) (n := 18) (by omega) (by omega) ?_
  refine va_putF (D := D) (ci := 2) (v := .ref q23_13) (ty := (.array .int)) (C := RX2) (T := TX2) (N := 8) hx hb hL inlX2 tyX2 tyX2_ok nmX2 hown hK.1 hP hD hS 0 rfl rfl 2 (by decide) w6 (fun _ h9 => h9) rfl hin rfl (by decide +kernel) rfl rfl (Nat.le_of_ble_eq_true rfl) dX2_init_25 (fun H locs hP hD hS => ?_)
  have hP : va_P D vwCl [(h0, .inr (2, [.ref q7_5, .ref q15_9, .ref q23_13, .null, .null, .int 0, .int 0, .int 0])), (q7_5, .inl (cyI, 6, .inl (fun _ => 0))), (q15_9, .inl (cyI, 6, .inl (fun _ => 0))), (q23_13, .inl (cyI, 6, .inl (fun _ => 0)))] H := hP
  have hD : va_D A [(h0, .inr (2, [.ref q7_5, .ref q15_9, .ref q23_13, .null, .null, .int 0, .int 0, .int 0])), (q7_5, .inl (cyI, 6, .inl (fun _ => 0))), (q15_9, .inl (cyI, 6, .inl (fun _ => 0))), (q23_13, .inl (cyI, 6, .inl (fun _ => 0)))] := hD
  refine lv_aload_n hx hb dX2_init_28 rfl (lv_at hl 0 rfl) ?_
  refine lv_bipush (v := 6) hx hb dX2_init_29 (by decide) ?_
  refine nw_I hx hb hK w3 hP hD hS hA (by decide) (N' := 6) (by decide) (by decide) (Nat.le_of_ble_eq_true rfl) (Nat.le_of_ble_eq_true rfl) dX2_init_31 (fun q31_17 H hP hD hS => ?_)
  have hP : va_P D vwCl [(h0, .inr (2, [.ref q7_5, .ref q15_9, .ref q23_13, .null, .null, .int 0, .int 0, .int 0])), (q7_5, .inl (cyI, 6, .inl (fun _ => 0))), (q15_9, .inl (cyI, 6, .inl (fun _ => 0))), (q23_13, .inl (cyI, 6, .inl (fun _ => 0))), (q31_17, .inl (cyI, 6, .inl (fun _ => 0)))] H := hP
  have hD : va_D A [(h0, .inr (2, [.ref q7_5, .ref q15_9, .ref q23_13, .null, .null, .int 0, .int 0, .int 0])), (q7_5, .inl (cyI, 6, .inl (fun _ => 0))), (q15_9, .inl (cyI, 6, .inl (fun _ => 0))), (q23_13, .inl (cyI, 6, .inl (fun _ => 0))), (q31_17, .inl (cyI, 6, .inl (fun _ => 0)))] := hD
  refine W.widen (k := 4) (n := 24) (by omega) (by omega) ?_
  refine va_putF (D := D) (ci := 2) (v := .ref q31_17) (ty := (.array .int)) (C := RX2) (T := TX2) (N := 8) hx hb hL inlX2 tyX2 tyX2_ok nmX2 hown hK.1 hP hD hS 0 rfl rfl 3 (by decide) w7 (fun _ h9 => h9) rfl hin rfl (by decide +kernel) rfl rfl (Nat.le_of_ble_eq_true rfl) dX2_init_33 (fun H locs hP hD hS => ?_)
  have hP : va_P D vwCl [(h0, .inr (2, [.ref q7_5, .ref q15_9, .ref q23_13, .ref q31_17, .null, .int 0, .int 0, .int 0])), (q7_5, .inl (cyI, 6, .inl (fun _ => 0))), (q15_9, .inl (cyI, 6, .inl (fun _ => 0))), (q23_13, .inl (cyI, 6, .inl (fun _ => 0))), (q31_17, .inl (cyI, 6, .inl (fun _ => 0)))] H := hP
  have hD : va_D A [(h0, .inr (2, [.ref q7_5, .ref q15_9, .ref q23_13, .ref q31_17, .null, .int 0, .int 0, .int 0])), (q7_5, .inl (cyI, 6, .inl (fun _ => 0))), (q15_9, .inl (cyI, 6, .inl (fun _ => 0))), (q23_13, .inl (cyI, 6, .inl (fun _ => 0))), (q31_17, .inl (cyI, 6, .inl (fun _ => 0)))] := hD
  refine lv_aload_n hx hb dX2_init_36 rfl (lv_at hl 0 rfl) ?_
  refine lv_bipush (v := 6) hx hb dX2_init_37 (by decide) ?_
  refine nw_I hx hb hK w3 hP hD hS hA (by decide) (N' := 6) (by decide) (by decide) (Nat.le_of_ble_eq_true rfl) (Nat.le_of_ble_eq_true rfl) dX2_init_39 (fun q39_21 H hP hD hS => ?_)
  have hP : va_P D vwCl [(h0, .inr (2, [.ref q7_5, .ref q15_9, .ref q23_13, .ref q31_17, .null, .int 0, .int 0, .int 0])), (q7_5, .inl (cyI, 6, .inl (fun _ => 0))), (q15_9, .inl (cyI, 6, .inl (fun _ => 0))), (q23_13, .inl (cyI, 6, .inl (fun _ => 0))), (q31_17, .inl (cyI, 6, .inl (fun _ => 0))), (q39_21, .inl (cyI, 6, .inl (fun _ => 0)))] H := hP
  have hD : va_D A [(h0, .inr (2, [.ref q7_5, .ref q15_9, .ref q23_13, .ref q31_17, .null, .int 0, .int 0, .int 0])), (q7_5, .inl (cyI, 6, .inl (fun _ => 0))), (q15_9, .inl (cyI, 6, .inl (fun _ => 0))), (q23_13, .inl (cyI, 6, .inl (fun _ => 0))), (q31_17, .inl (cyI, 6, .inl (fun _ => 0))), (q39_21, .inl (cyI, 6, .inl (fun _ => 0)))] := hD
  refine W.widen (k := 5) (n := 30) (by omega) (by omega) ?_
  refine va_putF (D := D) (ci := 2) (v := .ref q39_21) (ty := (.array .int)) (C := RX2) (T := TX2) (N := 8) hx hb hL inlX2 tyX2 tyX2_ok nmX2 hown hK.1 hP hD hS 0 rfl rfl 4 (by decide) w8 (fun _ h9 => h9) rfl hin rfl (by decide +kernel) rfl rfl (Nat.le_of_ble_eq_true rfl) dX2_init_41 (fun H locs hP hD hS => ?_)
  have hP : va_P D vwCl [(h0, .inr (2, [.ref q7_5, .ref q15_9, .ref q23_13, .ref q31_17, .ref q39_21, .int 0, .int 0, .int 0])), (q7_5, .inl (cyI, 6, .inl (fun _ => 0))), (q15_9, .inl (cyI, 6, .inl (fun _ => 0))), (q23_13, .inl (cyI, 6, .inl (fun _ => 0))), (q31_17, .inl (cyI, 6, .inl (fun _ => 0))), (q39_21, .inl (cyI, 6, .inl (fun _ => 0)))] H := hP
  have hD : va_D A [(h0, .inr (2, [.ref q7_5, .ref q15_9, .ref q23_13, .ref q31_17, .ref q39_21, .int 0, .int 0, .int 0])), (q7_5, .inl (cyI, 6, .inl (fun _ => 0))), (q15_9, .inl (cyI, 6, .inl (fun _ => 0))), (q23_13, .inl (cyI, 6, .inl (fun _ => 0))), (q31_17, .inl (cyI, 6, .inl (fun _ => 0))), (q39_21, .inl (cyI, 6, .inl (fun _ => 0)))] := hD
  rw [hQ]
  exact W.vret hx hb hr (fun t ht hW => ⟨⟨(fun k => ([q7_5, q15_9, q23_13, q31_17, q39_21] : List Nat).getD k 0), rfl, trivial, by rw [ht]; exact hP, hD⟩, hS.F ht⟩) hS.2.2 dX2_init_44
def wnX3 (cyI cyJ cyB cyS : ClassId) (h0 : Nat) (a : Nat → Nat) : va_W := [(h0, .inr (3, [.ref (a 0), .int 0, .int 0, .int 0])), (a 0, .inl (cyI, 40, .inl (fun _ => 0)))]
abbrev rmX3_init : Room := { frames := 1, cells := 1, slots := 40, locals := 20 }
set_option maxHeartbeats 40000000 in
set_option maxRecDepth 100000 in
theorem nX3 (l : Launch) (D : va_G) (cyI cyJ cyB cyS : ClassId) (sz h0 : Nat) : Met l yX3_init (wS yX3_init cX3_init 1 none) rmX3_init (va_Pc [.ref h0] (PPn D cyI cyJ cyB cyS [(h0, .inr (3, [.null, .int 0, .int 0, .int 0]))] sz)) (QN D (wnX3 cyI cyJ cyB cyS h0) (va_A [(h0, .inr (3, [.null, .int 0, .int 0, .int 0]))] sz)) 1 40 (va_A [(h0, .inr (3, [.null, .int 0, .int 0, .int 0]))] sz) := by
  refine Met.ofW (cc := cX3_init) (maxL := 1) (ret := none) (by decide) rfl ?_
  intro p e s m args below meth c s₁ B hml hv
  obtain ⟨rfl, ⟨hsz, hP, hK, hD0⟩, hN⟩ := hv
  have hx := B.exec
  have hb := B.bytes
  have hr := B.returns
  have hts := atoms_spec (ws := (wS yX3_init cX3_init 1 none)) B.pre
  have hown : s.vm.findClass RX3 = some m.cls := findClass_of_methodNamed B.named
  have hlocks := B.notSynchronized
  have hin : meth.name = "<init>" := (name_of_methodNamed B.named B.method).1
  subst hsz
  have hD := hD0.self (sz := s.heap.size)
  refine w_nameQ (fun Q hQ => ?_)
  have hl := lv_entry ([.ref h0] : List Value) (n := 1) (Nat.le_of_ble_eq_true rfl)
  rw [lg_entry_eq]
  generalize (lg_sl ([.ref h0] : List Value) ++ List.replicate (1 - (lg_sl ([.ref h0] : List Value)).length) Slot.unset).toArray = ls at hl ⊢
  have hl : lv_has ls 1 [(0, .ref h0)] := hl
  generalize hAe : va_A [(h0, .inr (3, [.null, .int 0, .int 0, .int 0]))] s.heap.size = A at hD hQ
  have hA : ∀ q : Nat, s.heap.size ≤ q → A q := fun q h => by rw [← hAe]; exact Or.inr h
  have hS : va_S A s.heap s.heap [] := va_S.rf
  generalize ([.ref h0] : List Value).toArray = av at hts hQ ⊢
  have hL : ∀ w ∈ wsL_law, w.before av s = true := fun w h => hts w (List.mem_cons_of_mem _ h)
  have w0 := hL (.methodLink RX3 3 objectInit) (hR5 22 rfl)
  have w1 := hL (.instanceMethod objectInit) (hR1 11 rfl)
  have w2 := hL (.code objectInit ⟨#[0xb1]⟩ 1 none) (hR1 12 rfl)
  have w3 := hL (.arrayClass .int) (hR2 20 rfl)
  have w4 := hL (.fieldLink RX3 9 "LosingLeague$Sheet" "cells" "[I") (hR5 23 rfl)
  obtain ⟨H, hH⟩ : ∃ H : Heap, H = s.heap := ⟨_, rfl⟩
  obtain ⟨locs, hlo⟩ : ∃ locs : List Loc, locs = [] := ⟨_, rfl⟩
  have hP : va_P D vwCl [(h0, .inr (3, [.null, .int 0, .int 0, .int 0]))] H := by rw [hH]; exact hP
  have hS : va_S A s.heap H locs := by rw [hH, hlo]; exact hS
  suffices hw : W p l e rmX3_init s m av below meth c H locs 0 0 Q (F0 m 0 ls []) by rw [hH, hlo] at hw; exact hw
  refine lv_aload_n hx hb dX3_init_0 rfl (lv_at hl 0 rfl) ?_
  refine W.objInit hx hb hown w0 w1 w2 rfl (by rw [hml]; exact hl.1) rfl dX3_init_1 (Nat.le_of_ble_eq_true rfl) (Nat.le_of_ble_eq_true rfl) ?_
  refine W.eq (g2 := F0 m 4 ls []) rfl ?_
  refine lv_aload_n hx hb dX3_init_4 rfl (lv_at hl 0 rfl) ?_
  refine lv_bipush (v := 40) hx hb dX3_init_5 (by decide) ?_
  refine nw_I hx hb hK w3 hP hD hS hA (by decide) (N' := 40) (by decide) (by decide) (Nat.le_of_ble_eq_true rfl) (Nat.le_of_ble_eq_true rfl) dX3_init_7 (fun q7_5 H hP hD hS => ?_)
  have hP : va_P D vwCl [(h0, .inr (3, [.null, .int 0, .int 0, .int 0])), (q7_5, .inl (cyI, 40, .inl (fun _ => 0)))] H := hP
  have hD : va_D A [(h0, .inr (3, [.null, .int 0, .int 0, .int 0])), (q7_5, .inl (cyI, 40, .inl (fun _ => 0)))] := hD
  refine W.widen (k := 1) (n := 40) (by omega) (by omega) ?_
  refine va_putF (D := D) (ci := 3) (v := .ref q7_5) (ty := (.array .int)) (C := RX3) (T := TX3) (N := 4) hx hb hL inlX3 tyX3 tyX3_ok nmX3 hown hK.1 hP hD hS 0 rfl rfl 0 (by decide) w4 (fun _ h9 => h9) rfl hin rfl (by decide +kernel) rfl rfl (Nat.le_of_ble_eq_true rfl) dX3_init_9 (fun H locs hP hD hS => ?_)
  have hP : va_P D vwCl [(h0, .inr (3, [.ref q7_5, .int 0, .int 0, .int 0])), (q7_5, .inl (cyI, 40, .inl (fun _ => 0)))] H := hP
  have hD : va_D A [(h0, .inr (3, [.ref q7_5, .int 0, .int 0, .int 0])), (q7_5, .inl (cyI, 40, .inl (fun _ => 0)))] := hD
  rw [hQ]
  exact W.vret hx hb hr (fun t ht hW => ⟨⟨(fun k => ([q7_5] : List Nat).getD k 0), rfl, trivial, by rw [ht]; exact hP, hD⟩, hS.F ht⟩) hS.2.2 dX3_init_12
def wnX4 (cyI cyJ cyB cyS : ClassId) (h0 : Nat) (a : Nat → Nat) : va_W := [(h0, .inr (4, [.ref (a 0), .ref (a 1), .ref (a 2), .ref (a 3), .ref (a 4), .ref (a 5), .ref (a 6), .int 0])), (a 0, .inl (cyI, 6, .inl (fun _ => 0))), (a 1, .inl (cyI, 6, .inl (fun _ => 0))), (a 2, .inl (cyI, 6, .inl (fun _ => 0))), (a 3, .inl (cyI, 6, .inl (fun _ => 0))), (a 4, .inl (cyI, 6, .inl (fun _ => 0))), (a 5, .inl (cyI, 6, .inl (fun _ => 0))), (a 6, .inl (cyI, 6, .inl (fun _ => 0)))]
abbrev rmX4_init : Room := { frames := 1, cells := 7, slots := 42, locals := 20 }
set_option maxHeartbeats 40000000 in
set_option maxRecDepth 100000 in
theorem nX4 (l : Launch) (D : va_G) (cyI cyJ cyB cyS : ClassId) (sz h0 : Nat) : Met l yX4_init (wS yX4_init cX4_init 1 none) rmX4_init (va_Pc [.ref h0] (PPn D cyI cyJ cyB cyS [(h0, .inr (4, [.null, .null, .null, .null, .null, .null, .null, .int 0]))] sz)) (QN D (wnX4 cyI cyJ cyB cyS h0) (va_A [(h0, .inr (4, [.null, .null, .null, .null, .null, .null, .null, .int 0]))] sz)) 7 42 (va_A [(h0, .inr (4, [.null, .null, .null, .null, .null, .null, .null, .int 0]))] sz) := by
  refine Met.ofW (cc := cX4_init) (maxL := 1) (ret := none) (by decide) rfl ?_
  intro p e s m args below meth c s₁ B hml hv
  obtain ⟨rfl, ⟨hsz, hP, hK, hD0⟩, hN⟩ := hv
  have hx := B.exec
  have hb := B.bytes
  have hr := B.returns
  have hts := atoms_spec (ws := (wS yX4_init cX4_init 1 none)) B.pre
  have hown : s.vm.findClass RX4 = some m.cls := findClass_of_methodNamed B.named
  have hlocks := B.notSynchronized
  have hin : meth.name = "<init>" := (name_of_methodNamed B.named B.method).1
  subst hsz
  have hD := hD0.self (sz := s.heap.size)
  refine w_nameQ (fun Q hQ => ?_)
  have hl := lv_entry ([.ref h0] : List Value) (n := 1) (Nat.le_of_ble_eq_true rfl)
  rw [lg_entry_eq]
  generalize (lg_sl ([.ref h0] : List Value) ++ List.replicate (1 - (lg_sl ([.ref h0] : List Value)).length) Slot.unset).toArray = ls at hl ⊢
  have hl : lv_has ls 1 [(0, .ref h0)] := hl
  generalize hAe : va_A [(h0, .inr (4, [.null, .null, .null, .null, .null, .null, .null, .int 0]))] s.heap.size = A at hD hQ
  have hA : ∀ q : Nat, s.heap.size ≤ q → A q := fun q h => by rw [← hAe]; exact Or.inr h
  have hS : va_S A s.heap s.heap [] := va_S.rf
  generalize ([.ref h0] : List Value).toArray = av at hts hQ ⊢
  have hL : ∀ w ∈ wsL_law, w.before av s = true := fun w h => hts w (List.mem_cons_of_mem _ h)
  have w0 := hL (.methodLink RX4 3 objectInit) (hR3 10 rfl)
  have w1 := hL (.instanceMethod objectInit) (hR1 11 rfl)
  have w2 := hL (.code objectInit ⟨#[0xb1]⟩ 1 none) (hR1 12 rfl)
  have w3 := hL (.arrayClass .int) (hR2 20 rfl)
  have w4 := hL (.fieldLink RX4 9 "LosingLeague$Standing" "won" "[I") (hR3 11 rfl)
  have w5 := hL (.fieldLink RX4 15 "LosingLeague$Standing" "order" "[I") (hR3 12 rfl)
  have w6 := hL (.fieldLink RX4 18 "LosingLeague$Standing" "seat" "[I") (hR3 13 rfl)
  have w7 := hL (.fieldLink RX4 21 "LosingLeague$Standing" "outAt" "[I") (hR3 14 rfl)
  have w8 := hL (.fieldLink RX4 24 "LosingLeague$Standing" "merit" "[I") (hR3 15 rfl)
  have w9 := hL (.fieldLink RX4 27 "LosingLeague$Standing" "toCome" "[I") (hR3 16 rfl)
  have w10 := hL (.fieldLink RX4 30 "LosingLeague$Standing" "turn" "[I") (hR3 17 rfl)
  obtain ⟨H, hH⟩ : ∃ H : Heap, H = s.heap := ⟨_, rfl⟩
  obtain ⟨locs, hlo⟩ : ∃ locs : List Loc, locs = [] := ⟨_, rfl⟩
  have hP : va_P D vwCl [(h0, .inr (4, [.null, .null, .null, .null, .null, .null, .null, .int 0]))] H := by rw [hH]; exact hP
  have hS : va_S A s.heap H locs := by rw [hH, hlo]; exact hS
  suffices hw : W p l e rmX4_init s m av below meth c H locs 0 0 Q (F0 m 0 ls []) by rw [hH, hlo] at hw; exact hw
  refine lv_aload_n hx hb dX4_init_0 rfl (lv_at hl 0 rfl) ?_
  refine W.objInit hx hb hown w0 w1 w2 rfl (by rw [hml]; exact hl.1) rfl dX4_init_1 (Nat.le_of_ble_eq_true rfl) (Nat.le_of_ble_eq_true rfl) ?_
  refine W.eq (g2 := F0 m 4 ls []) rfl ?_
  refine lv_aload_n hx hb dX4_init_4 rfl (lv_at hl 0 rfl) ?_
  refine lv_bipush (v := 6) hx hb dX4_init_5 (by decide) ?_
  refine nw_I hx hb hK w3 hP hD hS hA (by decide) (N' := 6) (by decide) (by decide) (Nat.le_of_ble_eq_true rfl) (Nat.le_of_ble_eq_true rfl) dX4_init_7 (fun q7_5 H hP hD hS => ?_)
  have hP : va_P D vwCl [(h0, .inr (4, [.null, .null, .null, .null, .null, .null, .null, .int 0])), (q7_5, .inl (cyI, 6, .inl (fun _ => 0)))] H := hP
  have hD : va_D A [(h0, .inr (4, [.null, .null, .null, .null, .null, .null, .null, .int 0])), (q7_5, .inl (cyI, 6, .inl (fun _ => 0)))] := hD
  refine W.widen (k := 1) (n := 6) (by omega) (by omega) ?_
  refine va_putF (D := D) (ci := 4) (v := .ref q7_5) (ty := (.array .int)) (C := RX4) (T := TX4) (N := 8) hx hb hL inlX4 tyX4 tyX4_ok nmX4 hown hK.1 hP hD hS 0 rfl rfl 0 (by decide) w4 (fun _ h9 => h9) rfl hin rfl (by decide +kernel) rfl rfl (Nat.le_of_ble_eq_true rfl) dX4_init_9 (fun H locs hP hD hS => ?_)
  have hP : va_P D vwCl [(h0, .inr (4, [.ref q7_5, .null, .null, .null, .null, .null, .null, .int 0])), (q7_5, .inl (cyI, 6, .inl (fun _ => 0)))] H := hP
  have hD : va_D A [(h0, .inr (4, [.ref q7_5, .null, .null, .null, .null, .null, .null, .int 0])), (q7_5, .inl (cyI, 6, .inl (fun _ => 0)))] := hD
  refine lv_aload_n hx hb dX4_init_12 rfl (lv_at hl 0 rfl) ?_
  refine lv_bipush (v := 6) hx hb dX4_init_13 (by decide) ?_
  refine nw_I hx hb hK w3 hP hD hS hA (by decide) (N' := 6) (by decide) (by decide) (Nat.le_of_ble_eq_true rfl) (Nat.le_of_ble_eq_true rfl) dX4_init_15 (fun q15_9 H hP hD hS => ?_)
  have hP : va_P D vwCl [(h0, .inr (4, [.ref q7_5, .null, .null, .null, .null, .null, .null, .int 0])), (q7_5, .inl (cyI, 6, .inl (fun _ => 0))), (q15_9, .inl (cyI, 6, .inl (fun _ => 0)))] H := hP
  have hD : va_D A [(h0, .inr (4, [.ref q7_5, .null, .null, .null, .null, .null, .null, .int 0])), (q7_5, .inl (cyI, 6, .inl (fun _ => 0))), (q15_9, .inl (cyI, 6, .inl (fun _ => 0)))] := hD
  refine W.widen (k := 2) (n := 12) (by omega) (by omega) ?_
  refine va_putF (D := D) (ci := 4) (v := .ref q15_9) (ty := (.array .int)) (C := RX4) (T := TX4) (N := 8) hx hb hL inlX4 tyX4 tyX4_ok nmX4 hown hK.1 hP hD hS 0 rfl rfl 1 (by decide) w5 (fun _ h9 => h9) rfl hin rfl (by decide +kernel) rfl rfl (Nat.le_of_ble_eq_true rfl) dX4_init_17 (fun H locs hP hD hS => ?_)
  have hP : va_P D vwCl [(h0, .inr (4, [.ref q7_5, .ref q15_9, .null, .null, .null, .null, .null, .int 0])), (q7_5, .inl (cyI, 6, .inl (fun _ => 0))), (q15_9, .inl (cyI, 6, .inl (fun _ => 0)))] H := hP
  have hD : va_D A [(h0, .inr (4, [.ref q7_5, .ref q15_9, .null, .null, .null, .null, .null, .int 0])), (q7_5, .inl (cyI, 6, .inl (fun _ => 0))), (q15_9, .inl (cyI, 6, .inl (fun _ => 0)))] := hD
  refine lv_aload_n hx hb dX4_init_20 rfl (lv_at hl 0 rfl) ?_
  refine lv_bipush (v := 6) hx hb dX4_init_21 (by decide) ?_
  refine nw_I hx hb hK w3 hP hD hS hA (by decide) (N' := 6) (by decide) (by decide) (Nat.le_of_ble_eq_true rfl) (Nat.le_of_ble_eq_true rfl) dX4_init_23 (fun q23_13 H hP hD hS => ?_)
  have hP : va_P D vwCl [(h0, .inr (4, [.ref q7_5, .ref q15_9, .null, .null, .null, .null, .null, .int 0])), (q7_5, .inl (cyI, 6, .inl (fun _ => 0))), (q15_9, .inl (cyI, 6, .inl (fun _ => 0))), (q23_13, .inl (cyI, 6, .inl (fun _ => 0)))] H := hP
  have hD : va_D A [(h0, .inr (4, [.ref q7_5, .ref q15_9, .null, .null, .null, .null, .null, .int 0])), (q7_5, .inl (cyI, 6, .inl (fun _ => 0))), (q15_9, .inl (cyI, 6, .inl (fun _ => 0))), (q23_13, .inl (cyI, 6, .inl (fun _ => 0)))] := hD
  refine W.widen (k := 3) (n := 18) (by omega) (by omega) ?_
  refine va_putF (D := D) (ci := 4) (v := .ref q23_13) (ty := (.array .int)) (C := RX4) (T := TX4) (N := 8) hx hb hL inlX4 tyX4 tyX4_ok nmX4 hown hK.1 hP hD hS 0 rfl rfl 2 (by decide) w6 (fun _ h9 => h9) rfl hin rfl (by decide +kernel) rfl rfl (Nat.le_of_ble_eq_true rfl) dX4_init_25 (fun H locs hP hD hS => ?_)
  have hP : va_P D vwCl [(h0, .inr (4, [.ref q7_5, .ref q15_9, .ref q23_13, .null, .null, .null, .null, .int 0])), (q7_5, .inl (cyI, 6, .inl (fun _ => 0))), (q15_9, .inl (cyI, 6, .inl (fun _ => 0))), (q23_13, .inl (cyI, 6, .inl (fun _ => 0)))] H := hP
  have hD : va_D A [(h0, .inr (4, [.ref q7_5, .ref q15_9, .ref q23_13, .null, .null, .null, .null, .int 0])), (q7_5, .inl (cyI, 6, .inl (fun _ => 0))), (q15_9, .inl (cyI, 6, .inl (fun _ => 0))), (q23_13, .inl (cyI, 6, .inl (fun _ => 0)))] := hD
  refine lv_aload_n hx hb dX4_init_28 rfl (lv_at hl 0 rfl) ?_
  refine lv_bipush (v := 6) hx hb dX4_init_29 (by decide) ?_
  refine nw_I hx hb hK w3 hP hD hS hA (by decide) (N' := 6) (by decide) (by decide) (Nat.le_of_ble_eq_true rfl) (Nat.le_of_ble_eq_true rfl) dX4_init_31 (fun q31_17 H hP hD hS => ?_)
  have hP : va_P D vwCl [(h0, .inr (4, [.ref q7_5, .ref q15_9, .ref q23_13, .null, .null, .null, .null, .int 0])), (q7_5, .inl (cyI, 6, .inl (fun _ => 0))), (q15_9, .inl (cyI, 6, .inl (fun _ => 0))), (q23_13, .inl (cyI, 6, .inl (fun _ => 0))), (q31_17, .inl (cyI, 6, .inl (fun _ => 0)))] H := hP
  have hD : va_D A [(h0, .inr (4, [.ref q7_5, .ref q15_9, .ref q23_13, .null, .null, .null, .null, .int 0])), (q7_5, .inl (cyI, 6, .inl (fun _ => 0))), (q15_9, .inl (cyI, 6, .inl (fun _ => 0))), (q23_13, .inl (cyI, 6, .inl (fun _ => 0))), (q31_17, .inl (cyI, 6, .inl (fun _ => 0)))] := hD
  refine W.widen (k := 4) (n := 24) (by omega) (by omega) ?_
  refine va_putF (D := D) (ci := 4) (v := .ref q31_17) (ty := (.array .int)) (C := RX4) (T := TX4) (N := 8) hx hb hL inlX4 tyX4 tyX4_ok nmX4 hown hK.1 hP hD hS 0 rfl rfl 3 (by decide) w7 (fun _ h9 => h9) rfl hin rfl (by decide +kernel) rfl rfl (Nat.le_of_ble_eq_true rfl) dX4_init_33 (fun H locs hP hD hS => ?_)
  have hP : va_P D vwCl [(h0, .inr (4, [.ref q7_5, .ref q15_9, .ref q23_13, .ref q31_17, .null, .null, .null, .int 0])), (q7_5, .inl (cyI, 6, .inl (fun _ => 0))), (q15_9, .inl (cyI, 6, .inl (fun _ => 0))), (q23_13, .inl (cyI, 6, .inl (fun _ => 0))), (q31_17, .inl (cyI, 6, .inl (fun _ => 0)))] H := hP
  have hD : va_D A [(h0, .inr (4, [.ref q7_5, .ref q15_9, .ref q23_13, .ref q31_17, .null, .null, .null, .int 0])), (q7_5, .inl (cyI, 6, .inl (fun _ => 0))), (q15_9, .inl (cyI, 6, .inl (fun _ => 0))), (q23_13, .inl (cyI, 6, .inl (fun _ => 0))), (q31_17, .inl (cyI, 6, .inl (fun _ => 0)))] := hD
  refine lv_aload_n hx hb dX4_init_36 rfl (lv_at hl 0 rfl) ?_
  refine lv_bipush (v := 6) hx hb dX4_init_37 (by decide) ?_
  refine nw_I hx hb hK w3 hP hD hS hA (by decide) (N' := 6) (by decide) (by decide) (Nat.le_of_ble_eq_true rfl) (Nat.le_of_ble_eq_true rfl) dX4_init_39 (fun q39_21 H hP hD hS => ?_)
  have hP : va_P D vwCl [(h0, .inr (4, [.ref q7_5, .ref q15_9, .ref q23_13, .ref q31_17, .null, .null, .null, .int 0])), (q7_5, .inl (cyI, 6, .inl (fun _ => 0))), (q15_9, .inl (cyI, 6, .inl (fun _ => 0))), (q23_13, .inl (cyI, 6, .inl (fun _ => 0))), (q31_17, .inl (cyI, 6, .inl (fun _ => 0))), (q39_21, .inl (cyI, 6, .inl (fun _ => 0)))] H := hP
  have hD : va_D A [(h0, .inr (4, [.ref q7_5, .ref q15_9, .ref q23_13, .ref q31_17, .null, .null, .null, .int 0])), (q7_5, .inl (cyI, 6, .inl (fun _ => 0))), (q15_9, .inl (cyI, 6, .inl (fun _ => 0))), (q23_13, .inl (cyI, 6, .inl (fun _ => 0))), (q31_17, .inl (cyI, 6, .inl (fun _ => 0))), (q39_21, .inl (cyI, 6, .inl (fun _ => 0)))] := hD
  refine W.widen (k := 5) (n := 30) (by omega) (by omega) ?_
  refine va_putF (D := D) (ci := 4) (v := .ref q39_21) (ty := (.array .int)) (C := RX4) (T := TX4) (N := 8) hx hb hL inlX4 tyX4 tyX4_ok nmX4 hown hK.1 hP hD hS 0 rfl rfl 4 (by decide) w8 (fun _ h9 => h9) rfl hin rfl (by decide +kernel) rfl rfl (Nat.le_of_ble_eq_true rfl) dX4_init_41 (fun H locs hP hD hS => ?_)
  have hP : va_P D vwCl [(h0, .inr (4, [.ref q7_5, .ref q15_9, .ref q23_13, .ref q31_17, .ref q39_21, .null, .null, .int 0])), (q7_5, .inl (cyI, 6, .inl (fun _ => 0))), (q15_9, .inl (cyI, 6, .inl (fun _ => 0))), (q23_13, .inl (cyI, 6, .inl (fun _ => 0))), (q31_17, .inl (cyI, 6, .inl (fun _ => 0))), (q39_21, .inl (cyI, 6, .inl (fun _ => 0)))] H := hP
  have hD : va_D A [(h0, .inr (4, [.ref q7_5, .ref q15_9, .ref q23_13, .ref q31_17, .ref q39_21, .null, .null, .int 0])), (q7_5, .inl (cyI, 6, .inl (fun _ => 0))), (q15_9, .inl (cyI, 6, .inl (fun _ => 0))), (q23_13, .inl (cyI, 6, .inl (fun _ => 0))), (q31_17, .inl (cyI, 6, .inl (fun _ => 0))), (q39_21, .inl (cyI, 6, .inl (fun _ => 0)))] := hD
  refine lv_aload_n hx hb dX4_init_44 rfl (lv_at hl 0 rfl) ?_
  refine lv_bipush (v := 6) hx hb dX4_init_45 (by decide) ?_
  refine nw_I hx hb hK w3 hP hD hS hA (by decide) (N' := 6) (by decide) (by decide) (Nat.le_of_ble_eq_true rfl) (Nat.le_of_ble_eq_true rfl) dX4_init_47 (fun q47_25 H hP hD hS => ?_)
  have hP : va_P D vwCl [(h0, .inr (4, [.ref q7_5, .ref q15_9, .ref q23_13, .ref q31_17, .ref q39_21, .null, .null, .int 0])), (q7_5, .inl (cyI, 6, .inl (fun _ => 0))), (q15_9, .inl (cyI, 6, .inl (fun _ => 0))), (q23_13, .inl (cyI, 6, .inl (fun _ => 0))), (q31_17, .inl (cyI, 6, .inl (fun _ => 0))), (q39_21, .inl (cyI, 6, .inl (fun _ => 0))), (q47_25, .inl (cyI, 6, .inl (fun _ => 0)))] H := hP
  have hD : va_D A [(h0, .inr (4, [.ref q7_5, .ref q15_9, .ref q23_13, .ref q31_17, .ref q39_21, .null, .null, .int 0])), (q7_5, .inl (cyI, 6, .inl (fun _ => 0))), (q15_9, .inl (cyI, 6, .inl (fun _ => 0))), (q23_13, .inl (cyI, 6, .inl (fun _ => 0))), (q31_17, .inl (cyI, 6, .inl (fun _ => 0))), (q39_21, .inl (cyI, 6, .inl (fun _ => 0))), (q47_25, .inl (cyI, 6, .inl (fun _ => 0)))] := hD
  refine W.widen (k := 6) (n := 36) (by omega) (by omega) ?_
  refine va_putF (D := D) (ci := 4) (v := .ref q47_25) (ty := (.array .int)) (C := RX4) (T := TX4) (N := 8) hx hb hL inlX4 tyX4 tyX4_ok nmX4 hown hK.1 hP hD hS 0 rfl rfl 5 (by decide) w9 (fun _ h9 => h9) rfl hin rfl (by decide +kernel) rfl rfl (Nat.le_of_ble_eq_true rfl) dX4_init_49 (fun H locs hP hD hS => ?_)
  have hP : va_P D vwCl [(h0, .inr (4, [.ref q7_5, .ref q15_9, .ref q23_13, .ref q31_17, .ref q39_21, .ref q47_25, .null, .int 0])), (q7_5, .inl (cyI, 6, .inl (fun _ => 0))), (q15_9, .inl (cyI, 6, .inl (fun _ => 0))), (q23_13, .inl (cyI, 6, .inl (fun _ => 0))), (q31_17, .inl (cyI, 6, .inl (fun _ => 0))), (q39_21, .inl (cyI, 6, .inl (fun _ => 0))), (q47_25, .inl (cyI, 6, .inl (fun _ => 0)))] H := hP
  have hD : va_D A [(h0, .inr (4, [.ref q7_5, .ref q15_9, .ref q23_13, .ref q31_17, .ref q39_21, .ref q47_25, .null, .int 0])), (q7_5, .inl (cyI, 6, .inl (fun _ => 0))), (q15_9, .inl (cyI, 6, .inl (fun _ => 0))), (q23_13, .inl (cyI, 6, .inl (fun _ => 0))), (q31_17, .inl (cyI, 6, .inl (fun _ => 0))), (q39_21, .inl (cyI, 6, .inl (fun _ => 0))), (q47_25, .inl (cyI, 6, .inl (fun _ => 0)))] := hD
  refine lv_aload_n hx hb dX4_init_52 rfl (lv_at hl 0 rfl) ?_
  refine lv_bipush (v := 6) hx hb dX4_init_53 (by decide) ?_
  refine nw_I hx hb hK w3 hP hD hS hA (by decide) (N' := 6) (by decide) (by decide) (Nat.le_of_ble_eq_true rfl) (Nat.le_of_ble_eq_true rfl) dX4_init_55 (fun q55_29 H hP hD hS => ?_)
  have hP : va_P D vwCl [(h0, .inr (4, [.ref q7_5, .ref q15_9, .ref q23_13, .ref q31_17, .ref q39_21, .ref q47_25, .null, .int 0])), (q7_5, .inl (cyI, 6, .inl (fun _ => 0))), (q15_9, .inl (cyI, 6, .inl (fun _ => 0))), (q23_13, .inl (cyI, 6, .inl (fun _ => 0))), (q31_17, .inl (cyI, 6, .inl (fun _ => 0))), (q39_21, .inl (cyI, 6, .inl (fun _ => 0))), (q47_25, .inl (cyI, 6, .inl (fun _ => 0))), (q55_29, .inl (cyI, 6, .inl (fun _ => 0)))] H := hP
  have hD : va_D A [(h0, .inr (4, [.ref q7_5, .ref q15_9, .ref q23_13, .ref q31_17, .ref q39_21, .ref q47_25, .null, .int 0])), (q7_5, .inl (cyI, 6, .inl (fun _ => 0))), (q15_9, .inl (cyI, 6, .inl (fun _ => 0))), (q23_13, .inl (cyI, 6, .inl (fun _ => 0))), (q31_17, .inl (cyI, 6, .inl (fun _ => 0))), (q39_21, .inl (cyI, 6, .inl (fun _ => 0))), (q47_25, .inl (cyI, 6, .inl (fun _ => 0))), (q55_29, .inl (cyI, 6, .inl (fun _ => 0)))] := hD
  refine W.widen (k := 7) (n := 42) (by omega) (by omega) ?_
  refine va_putF (D := D) (ci := 4) (v := .ref q55_29) (ty := (.array .int)) (C := RX4) (T := TX4) (N := 8) hx hb hL inlX4 tyX4 tyX4_ok nmX4 hown hK.1 hP hD hS 0 rfl rfl 6 (by decide) w10 (fun _ h9 => h9) rfl hin rfl (by decide +kernel) rfl rfl (Nat.le_of_ble_eq_true rfl) dX4_init_57 (fun H locs hP hD hS => ?_)
  have hP : va_P D vwCl [(h0, .inr (4, [.ref q7_5, .ref q15_9, .ref q23_13, .ref q31_17, .ref q39_21, .ref q47_25, .ref q55_29, .int 0])), (q7_5, .inl (cyI, 6, .inl (fun _ => 0))), (q15_9, .inl (cyI, 6, .inl (fun _ => 0))), (q23_13, .inl (cyI, 6, .inl (fun _ => 0))), (q31_17, .inl (cyI, 6, .inl (fun _ => 0))), (q39_21, .inl (cyI, 6, .inl (fun _ => 0))), (q47_25, .inl (cyI, 6, .inl (fun _ => 0))), (q55_29, .inl (cyI, 6, .inl (fun _ => 0)))] H := hP
  have hD : va_D A [(h0, .inr (4, [.ref q7_5, .ref q15_9, .ref q23_13, .ref q31_17, .ref q39_21, .ref q47_25, .ref q55_29, .int 0])), (q7_5, .inl (cyI, 6, .inl (fun _ => 0))), (q15_9, .inl (cyI, 6, .inl (fun _ => 0))), (q23_13, .inl (cyI, 6, .inl (fun _ => 0))), (q31_17, .inl (cyI, 6, .inl (fun _ => 0))), (q39_21, .inl (cyI, 6, .inl (fun _ => 0))), (q47_25, .inl (cyI, 6, .inl (fun _ => 0))), (q55_29, .inl (cyI, 6, .inl (fun _ => 0)))] := hD
  rw [hQ]
  exact W.vret hx hb hr (fun t ht hW => ⟨⟨(fun k => ([q7_5, q15_9, q23_13, q31_17, q39_21, q47_25, q55_29] : List Nat).getD k 0), rfl, trivial, by rw [ht]; exact hP, hD⟩, hS.F ht⟩) hS.2.2 dX4_init_60
def wnX5 (cyI cyJ cyB cyS : ClassId) (h0 : Nat) (a : Nat → Nat) : va_W := [(h0, .inr (5, [.ref (a 0), .ref (a 1), .ref (a 2), .int 0, .ref (a 3), .int 0])), (a 0, .inl (cyI, 241, .inl (fun _ => 0))), (a 1, .inl (cyI, 241, .inl (fun _ => 0))), (a 2, .inl (cyI, 241, .inl (fun _ => 0))), (a 3, .inl (cyB, 240, .inl (fun _ => 0)))]
abbrev rmX5_init : Room := { frames := 1, cells := 4, slots := 963, locals := 20 }
set_option maxHeartbeats 40000000 in
set_option maxRecDepth 100000 in
theorem nX5 (l : Launch) (D : va_G) (cyI cyJ cyB cyS : ClassId) (sz h0 : Nat) : Met l yX5_init (wS yX5_init cX5_init 1 none) rmX5_init (va_Pc [.ref h0] (PPn D cyI cyJ cyB cyS [(h0, .inr (5, [.null, .null, .null, .int 0, .null, .int 0]))] sz)) (QN D (wnX5 cyI cyJ cyB cyS h0) (va_A [(h0, .inr (5, [.null, .null, .null, .int 0, .null, .int 0]))] sz)) 4 963 (va_A [(h0, .inr (5, [.null, .null, .null, .int 0, .null, .int 0]))] sz) := by
  refine Met.ofW (cc := cX5_init) (maxL := 1) (ret := none) (by decide) rfl ?_
  intro p e s m args below meth c s₁ B hml hv
  obtain ⟨rfl, ⟨hsz, hP, hK, hD0⟩, hN⟩ := hv
  have hx := B.exec
  have hb := B.bytes
  have hr := B.returns
  have hts := atoms_spec (ws := (wS yX5_init cX5_init 1 none)) B.pre
  have hown : s.vm.findClass RX5 = some m.cls := findClass_of_methodNamed B.named
  have hlocks := B.notSynchronized
  have hin : meth.name = "<init>" := (name_of_methodNamed B.named B.method).1
  subst hsz
  have hD := hD0.self (sz := s.heap.size)
  refine w_nameQ (fun Q hQ => ?_)
  have hl := lv_entry ([.ref h0] : List Value) (n := 1) (Nat.le_of_ble_eq_true rfl)
  rw [lg_entry_eq]
  generalize (lg_sl ([.ref h0] : List Value) ++ List.replicate (1 - (lg_sl ([.ref h0] : List Value)).length) Slot.unset).toArray = ls at hl ⊢
  have hl : lv_has ls 1 [(0, .ref h0)] := hl
  generalize hAe : va_A [(h0, .inr (5, [.null, .null, .null, .int 0, .null, .int 0]))] s.heap.size = A at hD hQ
  have hA : ∀ q : Nat, s.heap.size ≤ q → A q := fun q h => by rw [← hAe]; exact Or.inr h
  have hS : va_S A s.heap s.heap [] := va_S.rf
  generalize ([.ref h0] : List Value).toArray = av at hts hQ ⊢
  have hL : ∀ w ∈ wsL_law, w.before av s = true := fun w h => hts w (List.mem_cons_of_mem _ h)
  have w0 := hL (.methodLink RX5 3 objectInit) (hR4 6 rfl)
  have w1 := hL (.instanceMethod objectInit) (hR1 11 rfl)
  have w2 := hL (.code objectInit ⟨#[0xb1]⟩ 1 none) (hR1 12 rfl)
  have w3 := hL (.arrayClass .int) (hR2 20 rfl)
  have w4 := hL (.fieldLink RX5 9 "LosingLeague$Tape" "token" "[I") (hR4 7 rfl)
  have w5 := hL (.fieldLink RX5 15 "LosingLeague$Tape" "start" "[I") (hR4 8 rfl)
  have w6 := hL (.fieldLink RX5 18 "LosingLeague$Tape" "meaning" "[I") (hR4 9 rfl)
  have w7 := hL (.arrayClass .byte) (hR4 10 rfl)
  have w8 := hL (.fieldLink RX5 21 "LosingLeague$Tape" "bytes" "[B") (hR4 11 rfl)
  obtain ⟨H, hH⟩ : ∃ H : Heap, H = s.heap := ⟨_, rfl⟩
  obtain ⟨locs, hlo⟩ : ∃ locs : List Loc, locs = [] := ⟨_, rfl⟩
  have hP : va_P D vwCl [(h0, .inr (5, [.null, .null, .null, .int 0, .null, .int 0]))] H := by rw [hH]; exact hP
  have hS : va_S A s.heap H locs := by rw [hH, hlo]; exact hS
  suffices hw : W p l e rmX5_init s m av below meth c H locs 0 0 Q (F0 m 0 ls []) by rw [hH, hlo] at hw; exact hw
  refine lv_aload_n hx hb dX5_init_0 rfl (lv_at hl 0 rfl) ?_
  refine W.objInit hx hb hown w0 w1 w2 rfl (by rw [hml]; exact hl.1) rfl dX5_init_1 (Nat.le_of_ble_eq_true rfl) (Nat.le_of_ble_eq_true rfl) ?_
  refine W.eq (g2 := F0 m 4 ls []) rfl ?_
  refine lv_aload_n hx hb dX5_init_4 rfl (lv_at hl 0 rfl) ?_
  refine lv_sipush (v := 241) hx hb dX5_init_5 (by decide) ?_
  refine nw_I hx hb hK w3 hP hD hS hA (by decide) (N' := 241) (by decide) (by decide) (Nat.le_of_ble_eq_true rfl) (Nat.le_of_ble_eq_true rfl) dX5_init_8 (fun q8_5 H hP hD hS => ?_)
  have hP : va_P D vwCl [(h0, .inr (5, [.null, .null, .null, .int 0, .null, .int 0])), (q8_5, .inl (cyI, 241, .inl (fun _ => 0)))] H := hP
  have hD : va_D A [(h0, .inr (5, [.null, .null, .null, .int 0, .null, .int 0])), (q8_5, .inl (cyI, 241, .inl (fun _ => 0)))] := hD
  refine W.widen (k := 1) (n := 241) (by omega) (by omega) ?_
  refine va_putF (D := D) (ci := 5) (v := .ref q8_5) (ty := (.array .int)) (C := RX5) (T := TX5) (N := 6) hx hb hL inlX5 tyX5 tyX5_ok nmX5 hown hK.1 hP hD hS 0 rfl rfl 0 (by decide) w4 (fun _ h9 => h9) rfl hin rfl (by decide +kernel) rfl rfl (Nat.le_of_ble_eq_true rfl) dX5_init_10 (fun H locs hP hD hS => ?_)
  have hP : va_P D vwCl [(h0, .inr (5, [.ref q8_5, .null, .null, .int 0, .null, .int 0])), (q8_5, .inl (cyI, 241, .inl (fun _ => 0)))] H := hP
  have hD : va_D A [(h0, .inr (5, [.ref q8_5, .null, .null, .int 0, .null, .int 0])), (q8_5, .inl (cyI, 241, .inl (fun _ => 0)))] := hD
  refine lv_aload_n hx hb dX5_init_13 rfl (lv_at hl 0 rfl) ?_
  refine lv_sipush (v := 241) hx hb dX5_init_14 (by decide) ?_
  refine nw_I hx hb hK w3 hP hD hS hA (by decide) (N' := 241) (by decide) (by decide) (Nat.le_of_ble_eq_true rfl) (Nat.le_of_ble_eq_true rfl) dX5_init_17 (fun q17_9 H hP hD hS => ?_)
  have hP : va_P D vwCl [(h0, .inr (5, [.ref q8_5, .null, .null, .int 0, .null, .int 0])), (q8_5, .inl (cyI, 241, .inl (fun _ => 0))), (q17_9, .inl (cyI, 241, .inl (fun _ => 0)))] H := hP
  have hD : va_D A [(h0, .inr (5, [.ref q8_5, .null, .null, .int 0, .null, .int 0])), (q8_5, .inl (cyI, 241, .inl (fun _ => 0))), (q17_9, .inl (cyI, 241, .inl (fun _ => 0)))] := hD
  refine W.widen (k := 2) (n := 482) (by omega) (by omega) ?_
  refine va_putF (D := D) (ci := 5) (v := .ref q17_9) (ty := (.array .int)) (C := RX5) (T := TX5) (N := 6) hx hb hL inlX5 tyX5 tyX5_ok nmX5 hown hK.1 hP hD hS 0 rfl rfl 1 (by decide) w5 (fun _ h9 => h9) rfl hin rfl (by decide +kernel) rfl rfl (Nat.le_of_ble_eq_true rfl) dX5_init_19 (fun H locs hP hD hS => ?_)
  have hP : va_P D vwCl [(h0, .inr (5, [.ref q8_5, .ref q17_9, .null, .int 0, .null, .int 0])), (q8_5, .inl (cyI, 241, .inl (fun _ => 0))), (q17_9, .inl (cyI, 241, .inl (fun _ => 0)))] H := hP
  have hD : va_D A [(h0, .inr (5, [.ref q8_5, .ref q17_9, .null, .int 0, .null, .int 0])), (q8_5, .inl (cyI, 241, .inl (fun _ => 0))), (q17_9, .inl (cyI, 241, .inl (fun _ => 0)))] := hD
  refine lv_aload_n hx hb dX5_init_22 rfl (lv_at hl 0 rfl) ?_
  refine lv_sipush (v := 241) hx hb dX5_init_23 (by decide) ?_
  refine nw_I hx hb hK w3 hP hD hS hA (by decide) (N' := 241) (by decide) (by decide) (Nat.le_of_ble_eq_true rfl) (Nat.le_of_ble_eq_true rfl) dX5_init_26 (fun q26_13 H hP hD hS => ?_)
  have hP : va_P D vwCl [(h0, .inr (5, [.ref q8_5, .ref q17_9, .null, .int 0, .null, .int 0])), (q8_5, .inl (cyI, 241, .inl (fun _ => 0))), (q17_9, .inl (cyI, 241, .inl (fun _ => 0))), (q26_13, .inl (cyI, 241, .inl (fun _ => 0)))] H := hP
  have hD : va_D A [(h0, .inr (5, [.ref q8_5, .ref q17_9, .null, .int 0, .null, .int 0])), (q8_5, .inl (cyI, 241, .inl (fun _ => 0))), (q17_9, .inl (cyI, 241, .inl (fun _ => 0))), (q26_13, .inl (cyI, 241, .inl (fun _ => 0)))] := hD
  refine W.widen (k := 3) (n := 723) (by omega) (by omega) ?_
  refine va_putF (D := D) (ci := 5) (v := .ref q26_13) (ty := (.array .int)) (C := RX5) (T := TX5) (N := 6) hx hb hL inlX5 tyX5 tyX5_ok nmX5 hown hK.1 hP hD hS 0 rfl rfl 2 (by decide) w6 (fun _ h9 => h9) rfl hin rfl (by decide +kernel) rfl rfl (Nat.le_of_ble_eq_true rfl) dX5_init_28 (fun H locs hP hD hS => ?_)
  have hP : va_P D vwCl [(h0, .inr (5, [.ref q8_5, .ref q17_9, .ref q26_13, .int 0, .null, .int 0])), (q8_5, .inl (cyI, 241, .inl (fun _ => 0))), (q17_9, .inl (cyI, 241, .inl (fun _ => 0))), (q26_13, .inl (cyI, 241, .inl (fun _ => 0)))] H := hP
  have hD : va_D A [(h0, .inr (5, [.ref q8_5, .ref q17_9, .ref q26_13, .int 0, .null, .int 0])), (q8_5, .inl (cyI, 241, .inl (fun _ => 0))), (q17_9, .inl (cyI, 241, .inl (fun _ => 0))), (q26_13, .inl (cyI, 241, .inl (fun _ => 0)))] := hD
  refine lv_aload_n hx hb dX5_init_31 rfl (lv_at hl 0 rfl) ?_
  refine lv_sipush (v := 240) hx hb dX5_init_32 (by decide) ?_
  refine nw_B hx hb hK w7 hP hD hS hA (by decide) (N' := 240) (by decide) (by decide) (Nat.le_of_ble_eq_true rfl) (Nat.le_of_ble_eq_true rfl) dX5_init_35 (fun q35_17 H hP hD hS => ?_)
  have hP : va_P D vwCl [(h0, .inr (5, [.ref q8_5, .ref q17_9, .ref q26_13, .int 0, .null, .int 0])), (q8_5, .inl (cyI, 241, .inl (fun _ => 0))), (q17_9, .inl (cyI, 241, .inl (fun _ => 0))), (q26_13, .inl (cyI, 241, .inl (fun _ => 0))), (q35_17, .inl (cyB, 240, .inl (fun _ => 0)))] H := hP
  have hD : va_D A [(h0, .inr (5, [.ref q8_5, .ref q17_9, .ref q26_13, .int 0, .null, .int 0])), (q8_5, .inl (cyI, 241, .inl (fun _ => 0))), (q17_9, .inl (cyI, 241, .inl (fun _ => 0))), (q26_13, .inl (cyI, 241, .inl (fun _ => 0))), (q35_17, .inl (cyB, 240, .inl (fun _ => 0)))] := hD
  refine W.widen (k := 4) (n := 963) (by omega) (by omega) ?_
  refine va_putF (D := D) (ci := 5) (v := .ref q35_17) (ty := (.array .byte)) (C := RX5) (T := TX5) (N := 6) hx hb hL inlX5 tyX5 tyX5_ok nmX5 hown hK.1 hP hD hS 0 rfl rfl 4 (by decide) w8 (fun _ h9 => h9) rfl hin rfl (by decide +kernel) rfl rfl (Nat.le_of_ble_eq_true rfl) dX5_init_37 (fun H locs hP hD hS => ?_)
  have hP : va_P D vwCl [(h0, .inr (5, [.ref q8_5, .ref q17_9, .ref q26_13, .int 0, .ref q35_17, .int 0])), (q8_5, .inl (cyI, 241, .inl (fun _ => 0))), (q17_9, .inl (cyI, 241, .inl (fun _ => 0))), (q26_13, .inl (cyI, 241, .inl (fun _ => 0))), (q35_17, .inl (cyB, 240, .inl (fun _ => 0)))] H := hP
  have hD : va_D A [(h0, .inr (5, [.ref q8_5, .ref q17_9, .ref q26_13, .int 0, .ref q35_17, .int 0])), (q8_5, .inl (cyI, 241, .inl (fun _ => 0))), (q17_9, .inl (cyI, 241, .inl (fun _ => 0))), (q26_13, .inl (cyI, 241, .inl (fun _ => 0))), (q35_17, .inl (cyB, 240, .inl (fun _ => 0)))] := hD
  rw [hQ]
  exact W.vret hx hb hr (fun t ht hW => ⟨⟨(fun k => ([q8_5, q17_9, q26_13, q35_17] : List Nat).getD k 0), rfl, trivial, by rw [ht]; exact hP, hD⟩, hS.F ht⟩) hS.2.2 dX5_init_40
