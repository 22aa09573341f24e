/-! The texts of Tape.word, and String's own methods on them. -/
def txS (i : Nat) : String := (["sides", "strength", "place", "choice", "rule", "balls", "wheel", "round", "worst", "day", "alike"] : List String).getD i ""
/-- the eleven texts, their places in Tape's pool, String's two statics: none of them lies in A -/
def SX (adK adV : Nat → Nat) (A : Nat → Prop) (U : State) (H : Heap) : Prop := vk_S 11 lenS bytS adK adV A U H ∧ (∀ i : Nat, i < 11 → vk_R RX5 (69 + 2 * i) (txS i) (adK i) U) ∧ va_Z RJ0 "COMPACT_STRINGS" "Z" (.int 1) A U H ∧ va_Zq RJ3 "SIOOBE_FORMATTER" "Ljava/util/function/BiFunction;" A U H
theorem SX_at {adK adV : Nat → Nat} {A B : Nat → Prop} {s : State} {H : Heap} {locs : List Loc} (h : SX adK adV A s s.heap) (hS : va_S A s.heap H locs) (hAB : ∀ q, B q → A q) : ∀ U : State, U.heap = H → s.WarmedH U.vm → SX adK adV B U U.heap := fun U hU hW => by
  rw [hU]
  exact ⟨((h.1.kept hS.2.1).narrow hAB).moved hW.alike, fun i hi => (h.2.1 i hi).warm hW, ((h.2.2.1.kept hS.2.1).narrow hAB).moved hW.alike, ((h.2.2.2.kept hS.2.1).narrow hAB).moved hW.alike⟩
/-- a start with the texts -/
def PPs (D : va_G) (cyI cyJ cyB cyS : ClassId) (adK adV : Nat → Nat) (ws : va_W) (sz : Nat) : State → Prop := fun U => PP D cyI cyJ cyB cyS ws sz U ∧ SX adK adV (va_A ws sz) U U.heap
theorem PPs_blind {D : va_G} {cyI cyJ cyB cyS : ClassId} {adK adV : Nat → Nat} {ws : va_W} {sz : Nat} {av : List Value} : FrameBlind (va_Pc av (PPs D cyI cyJ cyB cyS adK adV ws sz)) := fun a U g mk q => by
  obtain ⟨q0, q1, qX⟩ := q
  have h1 := PP_blind (av := av) a U g mk ⟨q0, q1⟩
  exact ⟨h1.1, h1.2, vk_S.moved (u := U) (U := U.calling g mk a) (Vm.Alike.refl U.vm) qX.1, fun i hi => vk_R.same (u := U) (U := U.calling g mk a) rfl (qX.2.1 i hi), va_Z.moved (u := U) (U := U.calling g mk a) (Vm.Alike.refl U.vm) qX.2.2.1, va_Zq.moved (u := U) (U := U.calling g mk a) (Vm.Alike.refl U.vm) qX.2.2.2⟩
theorem PPs_at {D : va_G} {cyI cyJ cyB cyS : ClassId} {adK adV : Nat → Nat} {ws wc : va_W} {s : State} {H : Heap} {A : Nat → Prop} {locs : List Loc} (hP : va_P D vwCl ws H) (hD : va_D A ws) (hK : KK D cyI cyJ cyB cyS s) (hX : SX adK adV A s s.heap) (hS : va_S A s.heap H locs) (hA : ∀ q, s.heap.size ≤ q → A q) (isC : List Nat) (hn : va_nd isC = true) (hC : isC.map (fun i => ws[i]?) = wc.map some) : ∀ U : State, U.heap = H → s.WarmedH U.vm → PPs D cyI cyJ cyB cyS adK adV wc H.size U :=
  fun U hU hW => ⟨PP_at hP hD hK isC hn hC U hU hW, SX_at hX hS (va_free hD hS hA isC hC) U hU hW⟩
theorem PPs_preV {D : va_G} {cyI cyJ cyB cyS : ClassId} {adK adV : Nat → Nat} {ws wc : va_W} {s : State} {H : Heap} {A : Nat → Prop} {locs : List Loc} {C : String} {T : u_T} {N ci q0 b : Nat} {fs : List Value} {As : List Value} (hP : va_P D vwCl ws H) (hD : va_D A ws) (hK : KK D cyI cyJ cyB cyS s) (hX : SX adK adV A s s.heap) (hS : va_S A s.heap H locs) (hA : ∀ q, s.heap.size ≤ q → A q) (isC : List Nat) (hn : va_nd isC = true) (hC : isC.map (fun i => ws[i]?) = wc.map some) (hc : vwCl[ci]? = some (C, T, N)) (he : ws[q0]? = some (b, .inr (ci, fs))) : PreV s H C b (va_Pc (.ref b :: As) (PPs D cyI cyJ cyB cyS adK adV wc H.size)) As :=
  ⟨PPs_blind, va_recv hK.1 hP hc he, fun U hU hW => ⟨rfl, PPs_at hP hD hK hX hS hA isC hn hC U hU hW⟩⟩
theorem PPs_preT {D : va_G} {cyI cyJ cyB cyS : ClassId} {adK adV : Nat → Nat} {ws wc : va_W} {s : State} {H : Heap} {A : Nat → Prop} {locs : List Loc} {i : Nat} {As : List Value} (hi : i < 11) (hP : va_P D vwCl ws H) (hD : va_D A ws) (hK : KK D cyI cyJ cyB cyS s) (hX : SX adK adV A s s.heap) (hS : va_S A s.heap H locs) (hA : ∀ q, s.heap.size ≤ q → A q) (isC : List Nat) (hn : va_nd isC = true) (hC : isC.map (fun i => ws[i]?) = wc.map some) : PreV s H RJ0 (adK i) (va_Pc (.ref (adK i) :: As) (PPs D cyI cyJ cyB cyS adK adV wc H.size)) As :=
  ⟨PPs_blind, vk_recv hX.1 hi hS, fun U hU hW => ⟨rfl, PPs_at hP hD hK hX hS hA isC hn hC U hU hW⟩⟩
theorem PPs_preS {D : va_G} {cyI cyJ cyB cyS : ClassId} {adK adV : Nat → Nat} {ws wc : va_W} {s : State} {H : Heap} {A : Nat → Prop} {locs : List Loc} {As : List Value} (hP : va_P D vwCl ws H) (hD : va_D A ws) (hK : KK D cyI cyJ cyB cyS s) (hX : SX adK adV A s s.heap) (hS : va_S A s.heap H locs) (hA : ∀ q, s.heap.size ≤ q → A q) (isC : List Nat) (hn : va_nd isC = true) (hC : isC.map (fun i => ws[i]?) = wc.map some) : PreS s H (va_Pc As (PPs D cyI cyJ cyB cyS adK adV wc H.size)) As :=
  ⟨PPs_blind, fun U hU hW => ⟨rfl, PPs_at hP hD hK hX hS hA isC hn hC U hU hW⟩⟩
/-- an answer that is a text -/
def QT (adK : Nat → Nat) (r : Nat) (D : va_G) (w1 : va_W) (A : Nat → Prop) : Array Value → State → Outcome → State → Prop := va_Qr (fun (_ : Unit) => True) (fun _ a t => a = adK r ∧ va_P D vwCl w1 t.heap ∧ va_D A w1) A
section CT
variable {p : Program} {l : Launch} {e : Env} {R : Room} {s : State} {m : MethodId} {args : Array Value} {below : List Frame} {meth : Method} {c : Code} {H : Heap} {locs : List Loc} {cells slots : Nat} {Q : State → Prop} {D : va_G} {A : Nat → Prop} {pc : Nat} {ls : Array Slot} {st0 rest : List Value} {ws wc wr w1 wn : va_W} {a : Array Value} {adK : Nat → Nat}
theorem cc_t {r : Nat} (hP : va_P D vwCl ws H) (hD : va_D A ws) (hS : va_S A s.heap H locs) (hA : ∀ q, s.heap.size ≤ q → A q) (isC isR isN : List Nat) (hC : isC.map (fun i => ws[i]?) = wc.map some) (hR : isR.map (fun i => ws[i]?) = wr.map some) (hn : va_nd isR = true) (hdis : ∀ i ∈ isR, i ∉ isC) (hN : isN.map (fun i => (wr ++ w1)[i]?) = wn.map some) (hnN : va_nd isN = true)
    (hr : va_Run p l e R s m args below meth c H locs cells slots 0 0 (F0 m pc ls st0) rest (QT adK r D w1 (va_A wc H.size) a) (va_A wc H.size))
    (kk : ∀ (H1 : Heap) (locs1 : List Loc), va_P D vwCl wn H1 → va_D A wn → va_S A s.heap H1 locs1 → W p l e R s m args below meth c H1 locs1 cells slots Q (F0 m (pc + 3) ls (.ref (adK r) :: rest))) : W p l e R s m args below meth c H locs cells slots Q (F0 m pc ls st0) := by
  have hF := va_free hD hS hA isC hC
  refine va_callr hr hS (fun q _ h => hF q h) hF (fun u r' t H1 locs1 ht hvm hw hB hz hk hS1 => ?_)
  obtain ⟨e1, hP1, hD1⟩ := hB
  rw [ht] at hP1
  obtain ⟨hP2, hD2⟩ := va_join hP hD isC isR hC hR hn hdis hk hF hP1 hD1
  subst e1
  exact kk H1 locs1 (hP2.sub isN (map_fm hN)) (hD2.sub isN hnN hN) hS1
end CT
abbrev rmJ0_coder_7d493 : Room := { frames := 0, cells := 0, slots := 0, locals := 0 }
set_option maxHeartbeats 4000000 in
set_option maxRecDepth 100000 in
theorem mJ0_coder_7d493 (l : Launch) (D : va_G) (cyI cyJ cyB cyS : ClassId) (adK adV : Nat → Nat) (sz : Nat) (i : Nat) (hi : i < 11) : Met l yJ0_coder_7d493 (wS yJ0_coder_7d493 cJ0_coder_7d493 1 (some .byte)) rmJ0_coder_7d493 (va_Pc [.ref (adK i)] (PPs D cyI cyJ cyB cyS adK adV [] sz)) (QI 0 D [] (va_A [] sz)) 0 0 (va_A [] sz) := by
  refine Met.ofW (cc := cJ0_coder_7d493) (maxL := 1) (ret := (some .byte)) (by decide) rfl ?_
  intro p e s m args below meth c s₁ B hml hv
  obtain ⟨rfl, ⟨hsz, hP, hK, hD0⟩, hX⟩ := hv
  have hx := B.exec
  have hb := B.bytes
  have hr := B.returns
  have hts := atoms_spec (ws := (wS yJ0_coder_7d493 cJ0_coder_7d493 1 (some .byte))) B.pre
  have hown : s.vm.findClass RJ0 = some m.cls := findClass_of_methodNamed B.named
  have hlocks := B.notSynchronized
  subst hsz
  have hD := hD0.self (sz := s.heap.size)
  refine w_nameQ (fun Q hQ => ?_)
  have hl := lv_entry ([.ref (adK i)] : List Value) (n := 1) (Nat.le_of_ble_eq_true rfl)
  rw [lg_entry_eq]
  generalize (lg_sl ([.ref (adK i)] : List Value) ++ List.replicate (1 - (lg_sl ([.ref (adK i)] : List Value)).length) Slot.unset).toArray = ls at hl ⊢
  have hl : lv_has ls 1 [(0, .ref (adK i))] := hl
  generalize hAe : va_A [] s.heap.size = A at hD hQ hX
  have hA : ∀ q : Nat, s.heap.size ≤ q → A q := fun q h => by rw [← hAe]; exact Or.inr h
  have hS : va_S A s.heap s.heap [] := va_S.rf
  generalize ([.ref (adK i)] : List Value).toArray = av at hts hQ ⊢
  have hL : ∀ w ∈ wsL_law, w.before av s = true := fun w h => hts w (List.mem_cons_of_mem _ h)
  have w0 := hL (.fieldLink RJ0 38 "java/lang/String" "COMPACT_STRINGS" "Z") (hR11 0 rfl)
  have w1 := hL (.fieldLink RJ0 15 "java/lang/String" "coder" "B") (hR11 1 rfl)
  obtain ⟨H, hH⟩ : ∃ H : Heap, H = s.heap := ⟨_, rfl⟩
  obtain ⟨locs, hlo⟩ : ∃ locs : List Loc, locs = [] := ⟨_, rfl⟩
  have hP : va_P D vwCl [] H := by rw [hH]; exact hP
  have hS : va_S A s.heap H locs := by rw [hH, hlo]; exact hS
  suffices hw : W p l e rmJ0_coder_7d493 s m av below meth c H locs 0 0 Q (F0 m 0 ls []) by rw [hH, hlo] at hw; exact hw
  refine va_gets hx hb hX.2.2.1 hS hown w0 (fun _ h => h) dJ0_coder_7d493_0 ?_
  refine lv_if_eq (tgt := 13) hx hb dJ0_coder_7d493_3 (by decide) (fun c => absurd c (by decide)) (fun _ => ?_)
  refine lv_aload_n hx hb dJ0_coder_7d493_6 rfl (lv_at hl 0 rfl) ?_
  refine vk_getf hx hb (hX.1.1 i hi).2.1 hS hown w1 (fun _ h => h) dJ0_coder_7d493_7 ?_
  refine lv_goto (tgt := 14) hx hb dJ0_coder_7d493_10 (by decide) ?_
  rw [hQ]
  exact W.zret (ty := .byte) hx hb hr rfl (fun t ht hW => ⟨⟨_, (), rfl, rfl, by rw [ht]; exact hP, hD⟩, hS.F ht⟩) hS.2.2 dJ0_coder_7d493_14
abbrev rmJ0_isLatin1_aae02 : Room := { frames := 0, cells := 0, slots := 0, locals := 0 }
set_option maxHeartbeats 4000000 in
set_option maxRecDepth 100000 in
theorem mJ0_isLatin1_aae02 (l : Launch) (D : va_G) (cyI cyJ cyB cyS : ClassId) (adK adV : Nat → Nat) (sz : Nat) (i : Nat) (hi : i < 11) : Met l yJ0_isLatin1_aae02 (wS yJ0_isLatin1_aae02 cJ0_isLatin1_aae02 1 (some .boolean)) rmJ0_isLatin1_aae02 (va_Pc [.ref (adK i)] (PPs D cyI cyJ cyB cyS adK adV [] sz)) (QI 1 D [] (va_A [] sz)) 0 0 (va_A [] sz) := by
  refine Met.ofW (cc := cJ0_isLatin1_aae02) (maxL := 1) (ret := (some .boolean)) (by decide) rfl ?_
  intro p e s m args below meth c s₁ B hml hv
  obtain ⟨rfl, ⟨hsz, hP, hK, hD0⟩, hX⟩ := hv
  have hx := B.exec
  have hb := B.bytes
  have hr := B.returns
  have hts := atoms_spec (ws := (wS yJ0_isLatin1_aae02 cJ0_isLatin1_aae02 1 (some .boolean))) B.pre
  have hown : s.vm.findClass RJ0 = some m.cls := findClass_of_methodNamed B.named
  have hlocks := B.notSynchronized
  subst hsz
  have hD := hD0.self (sz := s.heap.size)
  refine w_nameQ (fun Q hQ => ?_)
  have hl := lv_entry ([.ref (adK i)] : List Value) (n := 1) (Nat.le_of_ble_eq_true rfl)
  rw [lg_entry_eq]
  generalize (lg_sl ([.ref (adK i)] : List Value) ++ List.replicate (1 - (lg_sl ([.ref (adK i)] : List Value)).length) Slot.unset).toArray = ls at hl ⊢
  have hl : lv_has ls 1 [(0, .ref (adK i))] := hl
  generalize hAe : va_A [] s.heap.size = A at hD hQ hX
  have hA : ∀ q : Nat, s.heap.size ≤ q → A q := fun q h => by rw [← hAe]; exact Or.inr h
  have hS : va_S A s.heap s.heap [] := va_S.rf
  generalize ([.ref (adK i)] : List Value).toArray = av at hts hQ ⊢
  have hL : ∀ w ∈ wsL_law, w.before av s = true := fun w h => hts w (List.mem_cons_of_mem _ h)
  have w0 := hL (.fieldLink RJ0 38 "java/lang/String" "COMPACT_STRINGS" "Z") (hR11 0 rfl)
  have w1 := hL (.fieldLink RJ0 15 "java/lang/String" "coder" "B") (hR11 1 rfl)
  obtain ⟨H, hH⟩ : ∃ H : Heap, H = s.heap := ⟨_, rfl⟩
  obtain ⟨locs, hlo⟩ : ∃ locs : List Loc, locs = [] := ⟨_, rfl⟩
  have hP : va_P D vwCl [] H := by rw [hH]; exact hP
  have hS : va_S A s.heap H locs := by rw [hH, hlo]; exact hS
  suffices hw : W p l e rmJ0_isLatin1_aae02 s m av below meth c H locs 0 0 Q (F0 m 0 ls []) by rw [hH, hlo] at hw; exact hw
  refine va_gets hx hb hX.2.2.1 hS hown w0 (fun _ h => h) dJ0_isLatin1_aae02_0 ?_
  refine lv_if_eq (tgt := 17) hx hb dJ0_isLatin1_aae02_3 (by decide) (fun c => absurd c (by decide)) (fun _ => ?_)
  refine lv_aload_n hx hb dJ0_isLatin1_aae02_6 rfl (lv_at hl 0 rfl) ?_
  refine vk_getf hx hb (hX.1.1 i hi).2.1 hS hown w1 (fun _ h => h) dJ0_isLatin1_aae02_7 ?_
  refine lv_if_ne (tgt := 17) hx hb dJ0_isLatin1_aae02_10 (by decide) (fun c => absurd rfl c) (fun _ => ?_)
  refine lv_iconst (v := 1) hx hb dJ0_isLatin1_aae02_13 (by decide) ?_
  refine lv_goto (tgt := 18) hx hb dJ0_isLatin1_aae02_14 (by decide) ?_
  rw [hQ]
  exact W.zret (ty := .boolean) hx hb hr rfl (fun t ht hW => ⟨⟨_, (), rfl, rfl, by rw [ht]; exact hP, hD⟩, hS.F ht⟩) hS.2.2 dJ0_isLatin1_aae02_18
abbrev rmJ0_length_8abf5 : Room := { frames := 1, cells := 0, slots := 0, locals := 20 }
set_option maxHeartbeats 4000000 in
set_option maxRecDepth 100000 in
theorem mJ0_length_8abf5 (l : Launch) (D : va_G) (cyI cyJ cyB cyS : ClassId) (adK adV : Nat → Nat) (sz : Nat) (i : Nat) (hi : i < 11) : Met l yJ0_length_8abf5 (wS yJ0_length_8abf5 cJ0_length_8abf5 1 (some .int)) rmJ0_length_8abf5 (va_Pc [.ref (adK i)] (PPs D cyI cyJ cyB cyS adK adV [] sz)) (QI (slen i) D [] (va_A [] sz)) 0 0 (va_A [] sz) := by
  refine Met.ofW (cc := cJ0_length_8abf5) (maxL := 1) (ret := (some .int)) (by decide) rfl ?_
  intro p e s m args below meth c s₁ B hml hv
  obtain ⟨rfl, ⟨hsz, hP, hK, hD0⟩, hX⟩ := hv
  have hx := B.exec
  have hb := B.bytes
  have hr := B.returns
  have hts := atoms_spec (ws := (wS yJ0_length_8abf5 cJ0_length_8abf5 1 (some .int))) B.pre
  have hown : s.vm.findClass RJ0 = some m.cls := findClass_of_methodNamed B.named
  have hlocks := B.notSynchronized
  subst hsz
  have hD := hD0.self (sz := s.heap.size)
  refine w_nameQ (fun Q hQ => ?_)
  have hl := lv_entry ([.ref (adK i)] : List Value) (n := 1) (Nat.le_of_ble_eq_true rfl)
  rw [lg_entry_eq]
  generalize (lg_sl ([.ref (adK i)] : List Value) ++ List.replicate (1 - (lg_sl ([.ref (adK i)] : List Value)).length) Slot.unset).toArray = ls at hl ⊢
  have hl : lv_has ls 1 [(0, .ref (adK i))] := hl
  generalize hAe : va_A [] s.heap.size = A at hD hQ hX
  have hA : ∀ q : Nat, s.heap.size ≤ q → A q := fun q h => by rw [← hAe]; exact Or.inr h
  have hS : va_S A s.heap s.heap [] := va_S.rf
  generalize ([.ref (adK i)] : List Value).toArray = av at hts hQ ⊢
  have hL : ∀ w ∈ wsL_law, w.before av s = true := fun w h => hts w (List.mem_cons_of_mem _ h)
  have w0 := hL (.fieldLink RJ0 9 "java/lang/String" "value" "[B") (hR10 19 rfl)
  obtain ⟨H, hH⟩ : ∃ H : Heap, H = s.heap := ⟨_, rfl⟩
  obtain ⟨locs, hlo⟩ : ∃ locs : List Loc, locs = [] := ⟨_, rfl⟩
  have hP : va_P D vwCl [] H := by rw [hH]; exact hP
  have hS : va_S A s.heap H locs := by rw [hH, hlo]; exact hS
  suffices hw : W p l e rmJ0_length_8abf5 s m av below meth c H locs 0 0 Q (F0 m 0 ls []) by rw [hH, hlo] at hw; exact hw
  refine lv_aload_n hx hb dJ0_length_8abf5_0 rfl (lv_at hl 0 rfl) ?_
  refine vk_getf hx hb (hX.1.1 i hi).2.2.1 hS hown w0 (fun _ h => h) dJ0_length_8abf5_1 ?_
  refine va_tlen hx hb (hX.1.1 i hi).2.2.2 hS rfl dJ0_length_8abf5_4 ?_
  refine lv_aload_n hx hb dJ0_length_8abf5_5 rfl (lv_at hl 0 rfl) ?_
  refine cc_i (wc := []) (wr := []) (w1 := []) (wn := []) hP hD hS hA [] [] [] rfl rfl rfl (by decide) rfl rfl (va_runV (C := RJ0) (As := []) (rest := [.int (Int32.ofNat (lenS.getD i 0))]) ⟨hx, hb, hml, hown, hL⟩ (mJ0_coder_7d493 l D cyI cyJ cyB cyS adK adV H.size i hi) (cwV 0 hL (gV (hR10 20 rfl) (hR10 21 rfl) (hR10 22 rfl) (hR10 17 rfl) (hR10 23 rfl)) rfl rfl rfl (by decide +kernel) ⟨Nat.le_of_ble_eq_true rfl, Nat.le_of_ble_eq_true rfl⟩) (PPs_preT hi hP hD hK hX hS hA [] rfl rfl) rfl rfl hl.1 rfl (lv_room (Nat.le_of_ble_eq_true rfl)) dJ0_length_8abf5_6 ⟨Nat.le_of_ble_eq_true rfl, Nat.le_of_ble_eq_true rfl⟩) (fun H locs hP hD hS => ?_)
  refine lv_ishr hx hb dJ0_length_8abf5_9 ?_
  rw [hQ]
  exact W.iret hx hb hr (fun t ht hW => ⟨⟨_, (), rfl, rfl, by rw [ht]; exact hP, hD⟩, hS.F ht⟩) hS.2.2 dJ0_length_8abf5_10
abbrev rmJ3_checkIndex_8e157 : Room := { frames := 0, cells := 0, slots := 0, locals := 0 }
set_option maxHeartbeats 4000000 in
set_option maxRecDepth 100000 in
theorem mJ3_checkIndex_8e157 (l : Launch) (D : va_G) (cyI cyJ cyB cyS : ClassId) (adK adV : Nat → Nat) (sz : Nat) (k n : Int32) (hk : ¬ (k < 0 ∨ False)) (hk2 : k < n) : Met l yJ3_checkIndex_8e157 (wS yJ3_checkIndex_8e157 cJ3_checkIndex_8e157 3 (some .int)) rmJ3_checkIndex_8e157 (va_Pc [.int k, .int n, .null] (PP D cyI cyJ cyB cyS [] sz)) (QI k D [] (va_A [] sz)) 0 0 (va_A [] sz) := by
  refine Met.ofW (cc := cJ3_checkIndex_8e157) (maxL := 3) (ret := (some .int)) (by decide) rfl ?_
  intro p e s m args below meth c s₁ B hml hv
  obtain ⟨rfl, hsz, hP, hK, hD0⟩ := hv
  have hx := B.exec
  have hb := B.bytes
  have hr := B.returns
  have hts := atoms_spec (ws := (wS yJ3_checkIndex_8e157 cJ3_checkIndex_8e157 3 (some .int))) B.pre
  have hown : s.vm.findClass RJ3 = some m.cls := findClass_of_methodNamed B.named
  have hlocks := B.notSynchronized
  subst hsz
  have hD := hD0.self (sz := s.heap.size)
  refine w_nameQ (fun Q hQ => ?_)
  have hl := lv_entry ([.int k, .int n, .null] : List Value) (n := 3) (Nat.le_of_ble_eq_true rfl)
  rw [lg_entry_eq]
  generalize (lg_sl ([.int k, .int n, .null] : List Value) ++ List.replicate (3 - (lg_sl ([.int k, .int n, .null] : List Value)).length) Slot.unset).toArray = ls at hl ⊢
  have hl : lv_has ls 3 [(0, .int k), (1, .int n), (2, .null)] := hl
  generalize hAe : va_A [] s.heap.size = A at hD hQ
  have hA : ∀ q : Nat, s.heap.size ≤ q → A q := fun q h => by rw [← hAe]; exact Or.inr h
  have hS : va_S A s.heap s.heap [] := va_S.rf
  generalize ([.int k, .int n, .null] : List Value).toArray = av at hts hQ ⊢
  have hL : ∀ w ∈ wsL_law, w.before av s = true := fun w h => hts w (List.mem_cons_of_mem _ h)
  obtain ⟨H, hH⟩ : ∃ H : Heap, H = s.heap := ⟨_, rfl⟩
  obtain ⟨locs, hlo⟩ : ∃ locs : List Loc, locs = [] := ⟨_, rfl⟩
  have hP : va_P D vwCl [] H := by rw [hH]; exact hP
  have hS : va_S A s.heap H locs := by rw [hH, hlo]; exact hS
  suffices hw : W p l e rmJ3_checkIndex_8e157 s m av below meth c H locs 0 0 Q (F0 m 0 ls []) by rw [hH, hlo] at hw; exact hw
  refine lv_iload_n hx hb dJ3_checkIndex_8e157_0 rfl (lv_at hl 0 rfl) ?_
  refine lv_if_lt (tgt := 9) hx hb dJ3_checkIndex_8e157_1 (by decide) (fun c => absurd c (fun h => hk (Or.inl h))) (fun _ => ?_)
  refine lv_iload_n hx hb dJ3_checkIndex_8e157_4 rfl (lv_at hl 0 rfl) ?_
  refine lv_iload_n hx hb dJ3_checkIndex_8e157_5 rfl (lv_at hl 1 rfl) ?_
  refine lv_icmp_lt (tgt := 16) hx hb dJ3_checkIndex_8e157_6 (by decide) (fun _ => ?_) (fun c => absurd hk2 c)
  refine lv_iload_n hx hb dJ3_checkIndex_8e157_16 rfl (lv_at hl 0 rfl) ?_
  rw [hQ]
  exact W.iret hx hb hr (fun t ht hW => ⟨⟨_, (), rfl, rfl, by rw [ht]; exact hP, hD⟩, hS.F ht⟩) hS.2.2 dJ3_checkIndex_8e157_17
set_option maxHeartbeats 4000000 in
set_option maxRecDepth 100000 in
theorem mJ3_checkIndex_8e157_r (l : Launch) (D : va_G) (cyI cyJ cyB cyS : ClassId) (adK adV : Nat → Nat) (sz : Nat) (t0 : Nat) (k n : Int32) (hk : ¬ (k < 0 ∨ False)) (hk2 : k < n) : Met l yJ3_checkIndex_8e157 (wS yJ3_checkIndex_8e157 cJ3_checkIndex_8e157 3 (some .int)) rmJ3_checkIndex_8e157 (va_Pc [.int k, .int n, .ref t0] (PP D cyI cyJ cyB cyS [] sz)) (QI k D [] (va_A [] sz)) 0 0 (va_A [] sz) := by
  refine Met.ofW (cc := cJ3_checkIndex_8e157) (maxL := 3) (ret := (some .int)) (by decide) rfl ?_
  intro p e s m args below meth c s₁ B hml hv
  obtain ⟨rfl, hsz, hP, hK, hD0⟩ := hv
  have hx := B.exec
  have hb := B.bytes
  have hr := B.returns
  have hts := atoms_spec (ws := (wS yJ3_checkIndex_8e157 cJ3_checkIndex_8e157 3 (some .int))) B.pre
  have hown : s.vm.findClass RJ3 = some m.cls := findClass_of_methodNamed B.named
  have hlocks := B.notSynchronized
  subst hsz
  have hD := hD0.self (sz := s.heap.size)
  refine w_nameQ (fun Q hQ => ?_)
  have hl := lv_entry ([.int k, .int n, .ref t0] : List Value) (n := 3) (Nat.le_of_ble_eq_true rfl)
  rw [lg_entry_eq]
  generalize (lg_sl ([.int k, .int n, .ref t0] : List Value) ++ List.replicate (3 - (lg_sl ([.int k, .int n, .ref t0] : List Value)).length) Slot.unset).toArray = ls at hl ⊢
  have hl : lv_has ls 3 [(0, .int k), (1, .int n), (2, .ref t0)] := hl
  generalize hAe : va_A [] s.heap.size = A at hD hQ
  have hA : ∀ q : Nat, s.heap.size ≤ q → A q := fun q h => by rw [← hAe]; exact Or.inr h
  have hS : va_S A s.heap s.heap [] := va_S.rf
  generalize ([.int k, .int n, .ref t0] : List Value).toArray = av at hts hQ ⊢
  have hL : ∀ w ∈ wsL_law, w.before av s = true := fun w h => hts w (List.mem_cons_of_mem _ h)
  obtain ⟨H, hH⟩ : ∃ H : Heap, H = s.heap := ⟨_, rfl⟩
  obtain ⟨locs, hlo⟩ : ∃ locs : List Loc, locs = [] := ⟨_, rfl⟩
  have hP : va_P D vwCl [] H := by rw [hH]; exact hP
  have hS : va_S A s.heap H locs := by rw [hH, hlo]; exact hS
  suffices hw : W p l e rmJ3_checkIndex_8e157 s m av below meth c H locs 0 0 Q (F0 m 0 ls []) by rw [hH, hlo] at hw; exact hw
  refine lv_iload_n hx hb dJ3_checkIndex_8e157_0 rfl (lv_at hl 0 rfl) ?_
  refine lv_if_lt (tgt := 9) hx hb dJ3_checkIndex_8e157_1 (by decide) (fun c => absurd c (fun h => hk (Or.inl h))) (fun _ => ?_)
  refine lv_iload_n hx hb dJ3_checkIndex_8e157_4 rfl (lv_at hl 0 rfl) ?_
  refine lv_iload_n hx hb dJ3_checkIndex_8e157_5 rfl (lv_at hl 1 rfl) ?_
  refine lv_icmp_lt (tgt := 16) hx hb dJ3_checkIndex_8e157_6 (by decide) (fun _ => ?_) (fun c => absurd hk2 c)
  refine lv_iload_n hx hb dJ3_checkIndex_8e157_16 rfl (lv_at hl 0 rfl) ?_
  rw [hQ]
  exact W.iret hx hb hr (fun t ht hW => ⟨⟨_, (), rfl, rfl, by rw [ht]; exact hP, hD⟩, hS.F ht⟩) hS.2.2 dJ3_checkIndex_8e157_17
abbrev rmJ0_checkIndex_df160 : Room := { frames := 1, cells := 0, slots := 0, locals := 22 }
set_option maxHeartbeats 4000000 in
set_option maxRecDepth 100000 in
theorem mJ0_checkIndex_df160 (l : Launch) (D : va_G) (cyI cyJ cyB cyS : ClassId) (adK adV : Nat → Nat) (sz : Nat) (k n : Int32) (hk : ¬ (k < 0 ∨ False)) (hk2 : k < n) : Met l yJ0_checkIndex_df160 (wS yJ0_checkIndex_df160 cJ0_checkIndex_df160 2 none) rmJ0_checkIndex_df160 (va_Pc [.int k, .int n] (PPs D cyI cyJ cyB cyS adK adV [] sz)) (QV D [] (va_A [] sz)) 0 0 (va_A [] sz) := by
  refine Met.ofW (cc := cJ0_checkIndex_df160) (maxL := 2) (ret := none) (by decide) rfl ?_
  intro p e s m args below meth c s₁ B hml hv
  obtain ⟨rfl, ⟨hsz, hP, hK, hD0⟩, hX⟩ := hv
  have hx := B.exec
  have hb := B.bytes
  have hr := B.returns
  have hts := atoms_spec (ws := (wS yJ0_checkIndex_df160 cJ0_checkIndex_df160 2 none)) B.pre
  have hown : s.vm.findClass RJ0 = some m.cls := findClass_of_methodNamed B.named
  have hlocks := B.notSynchronized
  subst hsz
  have hD := hD0.self (sz := s.heap.size)
  refine w_nameQ (fun Q hQ => ?_)
  have hl := lv_entry ([.int k, .int n] : List Value) (n := 2) (Nat.le_of_ble_eq_true rfl)
  rw [lg_entry_eq]
  generalize (lg_sl ([.int k, .int n] : List Value) ++ List.replicate (2 - (lg_sl ([.int k, .int n] : List Value)).length) Slot.unset).toArray = ls at hl ⊢
  have hl : lv_has ls 2 [(0, .int k), (1, .int n)] := hl
  generalize hAe : va_A [] s.heap.size = A at hD hQ hX
  have hA : ∀ q : Nat, s.heap.size ≤ q → A q := fun q h => by rw [← hAe]; exact Or.inr h
  have hS : va_S A s.heap s.heap [] := va_S.rf
  generalize ([.int k, .int n] : List Value).toArray = av at hts hQ ⊢
  have hL : ∀ w ∈ wsL_law, w.before av s = true := fun w h => hts w (List.mem_cons_of_mem _ h)
  have w0 := hL (.fieldLink RJ0 1053 "jdk/internal/util/Preconditions" "SIOOBE_FORMATTER" "Ljava/util/function/BiFunction;") (hR11 17 rfl)
  obtain ⟨H, hH⟩ : ∃ H : Heap, H = s.heap := ⟨_, rfl⟩
  obtain ⟨locs, hlo⟩ : ∃ locs : List Loc, locs = [] := ⟨_, rfl⟩
  have hP : va_P D vwCl [] H := by rw [hH]; exact hP
  have hS : va_S A s.heap H locs := by rw [hH, hlo]; exact hS
  suffices hw : W p l e rmJ0_checkIndex_df160 s m av below meth c H locs 0 0 Q (F0 m 0 ls []) by rw [hH, hlo] at hw; exact hw
  refine lv_iload_n hx hb dJ0_checkIndex_df160_0 rfl (lv_at hl 0 rfl) ?_
  refine lv_iload_n hx hb dJ0_checkIndex_df160_1 rfl (lv_at hl 1 rfl) ?_
  rcases hX.2.2.2 with z1 | ⟨t0, z1⟩
  · refine va_gets hx hb z1 hS hown w0 (fun _ h => h) dJ0_checkIndex_df160_2 ?_
    refine cc_i (wc := []) (wr := []) (w1 := []) (wn := []) hP hD hS hA [] [] [] rfl rfl rfl (by decide) rfl rfl (va_runS (As := [.int k, .int n, .null]) (rest := []) ⟨hx, hb, hml, hown, hL⟩ (mJ3_checkIndex_8e157 l D cyI cyJ cyB cyS adK adV H.size k n hk hk2) (va_cwS 3 hL (gS (hR11 18 rfl) (hR11 19 rfl) (hR11 20 rfl) (hR11 21 rfl)) rfl rfl rfl (by decide +kernel) ⟨Nat.le_of_ble_eq_true rfl, Nat.le_of_ble_eq_true rfl⟩) (PP_preS hP hD hK [] rfl rfl) rfl rfl hl.1 rfl (lv_room (Nat.le_of_ble_eq_true rfl)) dJ0_checkIndex_df160_5 ⟨Nat.le_of_ble_eq_true rfl, Nat.le_of_ble_eq_true rfl⟩) (fun H locs hP hD hS => ?_)
    refine lv_pop hx hb dJ0_checkIndex_df160_8 rfl ?_
    rw [hQ]
    exact W.vret hx hb hr (fun t ht hW => ⟨⟨(), rfl, trivial, by rw [ht]; exact hP, hD⟩, hS.F ht⟩) hS.2.2 dJ0_checkIndex_df160_9
  · refine va_gets hx hb z1 hS hown w0 (fun _ h => h) dJ0_checkIndex_df160_2 ?_
    refine cc_i (wc := []) (wr := []) (w1 := []) (wn := []) hP hD hS hA [] [] [] rfl rfl rfl (by decide) rfl rfl (va_runS (As := [.int k, .int n, .ref t0]) (rest := []) ⟨hx, hb, hml, hown, hL⟩ (mJ3_checkIndex_8e157_r l D cyI cyJ cyB cyS adK adV H.size t0 k n hk hk2) (va_cwS 3 hL (gS (hR11 18 rfl) (hR11 19 rfl) (hR11 20 rfl) (hR11 21 rfl)) rfl rfl rfl (by decide +kernel) ⟨Nat.le_of_ble_eq_true rfl, Nat.le_of_ble_eq_true rfl⟩) (PP_preS hP hD hK [] rfl rfl) rfl rfl hl.1 rfl (lv_room (Nat.le_of_ble_eq_true rfl)) dJ0_checkIndex_df160_5 ⟨Nat.le_of_ble_eq_true rfl, Nat.le_of_ble_eq_true rfl⟩) (fun H locs hP hD hS => ?_)
    refine lv_pop hx hb dJ0_checkIndex_df160_8 rfl ?_
    rw [hQ]
    exact W.vret hx hb hr (fun t ht hW => ⟨⟨(), rfl, trivial, by rw [ht]; exact hP, hD⟩, hS.F ht⟩) hS.2.2 dJ0_checkIndex_df160_9
abbrev rmJ1_charAt_3b067 : Room := { frames := 2, cells := 0, slots := 0, locals := 43 }
set_option maxHeartbeats 4000000 in
set_option maxRecDepth 100000 in
theorem mJ1_charAt_3b067 (l : Launch) (D : va_G) (cyI cyJ cyB cyS : ClassId) (adK adV : Nat → Nat) (sz : Nat) (i : Nat) (hi : i < 11) (k : Int32) (hk : inr k (lenS.getD i 0)) (hk2 : k < Int32.ofNat (lenS.getD i 0)) : Met l yJ1_charAt_3b067 (wS yJ1_charAt_3b067 cJ1_charAt_3b067 2 (some .char)) rmJ1_charAt_3b067 (va_Pc [.ref (adV i), .int k] (PPs D cyI cyJ cyB cyS adK adV [] sz)) (QI (schr i k) D [] (va_A [] sz)) 0 0 (va_A [] sz) := by
  refine Met.ofW (cc := cJ1_charAt_3b067) (maxL := 2) (ret := (some .char)) (by decide) rfl ?_
  intro p e s m args below meth c s₁ B hml hv
  obtain ⟨rfl, ⟨hsz, hP, hK, hD0⟩, hX⟩ := hv
  have hx := B.exec
  have hb := B.bytes
  have hr := B.returns
  have hts := atoms_spec (ws := (wS yJ1_charAt_3b067 cJ1_charAt_3b067 2 (some .char))) B.pre
  have hown : s.vm.findClass RJ1 = some m.cls := findClass_of_methodNamed B.named
  have hlocks := B.notSynchronized
  subst hsz
  have hD := hD0.self (sz := s.heap.size)
  refine w_nameQ (fun Q hQ => ?_)
  have hl := lv_entry ([.ref (adV i), .int k] : List Value) (n := 2) (Nat.le_of_ble_eq_true rfl)
  rw [lg_entry_eq]
  generalize (lg_sl ([.ref (adV i), .int k] : List Value) ++ List.replicate (2 - (lg_sl ([.ref (adV i), .int k] : List Value)).length) Slot.unset).toArray = ls at hl ⊢
  have hl : lv_has ls 2 [(0, .ref (adV i)), (1, .int k)] := hl
  generalize hAe : va_A [] s.heap.size = A at hD hQ hX
  have hA : ∀ q : Nat, s.heap.size ≤ q → A q := fun q h => by rw [← hAe]; exact Or.inr h
  have hS : va_S A s.heap s.heap [] := va_S.rf
  generalize ([.ref (adV i), .int k] : List Value).toArray = av at hts hQ ⊢
  have hL : ∀ w ∈ wsL_law, w.before av s = true := fun w h => hts w (List.mem_cons_of_mem _ h)
  obtain ⟨H, hH⟩ : ∃ H : Heap, H = s.heap := ⟨_, rfl⟩
  obtain ⟨locs, hlo⟩ : ∃ locs : List Loc, locs = [] := ⟨_, rfl⟩
  have hP : va_P D vwCl [] H := by rw [hH]; exact hP
  have hS : va_S A s.heap H locs := by rw [hH, hlo]; exact hS
  suffices hw : W p l e rmJ1_charAt_3b067 s m av below meth c H locs 0 0 Q (F0 m 0 ls []) by rw [hH, hlo] at hw; exact hw
  refine lv_iload_n hx hb dJ1_charAt_3b067_0 rfl (lv_at hl 1 rfl) ?_
  refine lv_aload_n hx hb dJ1_charAt_3b067_1 rfl (lv_at hl 0 rfl) ?_
  refine va_tlen hx hb (hX.1.1 i hi).2.2.2 hS rfl dJ1_charAt_3b067_2 ?_
  refine cc_v (wc := []) (wr := []) (w1 := []) (wn := []) hP hD hS hA [] [] [] rfl rfl rfl (by decide) rfl rfl (va_runS (As := [.int k, .int (Int32.ofNat (lenS.getD i 0))]) (rest := []) ⟨hx, hb, hml, hown, hL⟩ (mJ0_checkIndex_df160 l D cyI cyJ cyB cyS adK adV H.size k (Int32.ofNat (lenS.getD i 0)) (fun h => hk (Or.inl (h.resolve_right id))) hk2) (va_cwS 2 hL (gS (hR11 14 rfl) (hR11 15 rfl) (hR10 17 rfl) (hR11 16 rfl)) rfl rfl rfl (by decide +kernel) ⟨Nat.le_of_ble_eq_true rfl, Nat.le_of_ble_eq_true rfl⟩) (PPs_preS hP hD hK hX hS hA [] rfl rfl) rfl rfl hl.1 rfl (lv_room (Nat.le_of_ble_eq_true rfl)) dJ1_charAt_3b067_3 ⟨Nat.le_of_ble_eq_true rfl, Nat.le_of_ble_eq_true rfl⟩) (fun H locs hP hD hS => ?_)
  refine lv_aload_n hx hb dJ1_charAt_3b067_6 rfl (lv_at hl 0 rfl) ?_
  refine lv_iload_n hx hb dJ1_charAt_3b067_7 rfl (lv_at hl 1 rfl) ?_
  refine va_tb hx hb (hX.1.1 i hi).2.2.2 hS hk rfl dJ1_charAt_3b067_8 ?_
  refine lv_sipush (v := 255) hx hb dJ1_charAt_3b067_9 (by decide) ?_
  refine lv_iand hx hb dJ1_charAt_3b067_12 ?_
  refine lv_i2c hx hb dJ1_charAt_3b067_13 rfl ?_
  rw [hQ]
  exact W.zret (ty := .char) hx hb hr (pk_nc _) (fun t ht hW => ⟨⟨_, (), rfl, rfl, by rw [ht]; exact hP, hD⟩, hS.F ht⟩) hS.2.2 dJ1_charAt_3b067_14
abbrev rmJ0_charAt_5068e : Room := { frames := 3, cells := 0, slots := 0, locals := 64 }
set_option maxHeartbeats 4000000 in
set_option maxRecDepth 100000 in
theorem mJ0_charAt_5068e (l : Launch) (D : va_G) (cyI cyJ cyB cyS : ClassId) (adK adV : Nat → Nat) (sz : Nat) (i : Nat) (hi : i < 11) (k : Int32) (hk : inr k (lenS.getD i 0)) (hk2 : k < Int32.ofNat (lenS.getD i 0)) : Met l yJ0_charAt_5068e (wS yJ0_charAt_5068e cJ0_charAt_5068e 2 (some .char)) rmJ0_charAt_5068e (va_Pc [.ref (adK i), .int k] (PPs D cyI cyJ cyB cyS adK adV [] sz)) (QI (schr i k) D [] (va_A [] sz)) 0 0 (va_A [] sz) := by
  refine Met.ofW (cc := cJ0_charAt_5068e) (maxL := 2) (ret := (some .char)) (by decide) rfl ?_
  intro p e s m args below meth c s₁ B hml hv
  obtain ⟨rfl, ⟨hsz, hP, hK, hD0⟩, hX⟩ := hv
  have hx := B.exec
  have hb := B.bytes
  have hr := B.returns
  have hts := atoms_spec (ws := (wS yJ0_charAt_5068e cJ0_charAt_5068e 2 (some .char))) B.pre
  have hown : s.vm.findClass RJ0 = some m.cls := findClass_of_methodNamed B.named
  have hlocks := B.notSynchronized
  subst hsz
  have hD := hD0.self (sz := s.heap.size)
  refine w_nameQ (fun Q hQ => ?_)
  have hl := lv_entry ([.ref (adK i), .int k] : List Value) (n := 2) (Nat.le_of_ble_eq_true rfl)
  rw [lg_entry_eq]
  generalize (lg_sl ([.ref (adK i), .int k] : List Value) ++ List.replicate (2 - (lg_sl ([.ref (adK i), .int k] : List Value)).length) Slot.unset).toArray = ls at hl ⊢
  have hl : lv_has ls 2 [(0, .ref (adK i)), (1, .int k)] := hl
  generalize hAe : va_A [] s.heap.size = A at hD hQ hX
  have hA : ∀ q : Nat, s.heap.size ≤ q → A q := fun q h => by rw [← hAe]; exact Or.inr h
  have hS : va_S A s.heap s.heap [] := va_S.rf
  generalize ([.ref (adK i), .int k] : List Value).toArray = av at hts hQ ⊢
  have hL : ∀ w ∈ wsL_law, w.before av s = true := fun w h => hts w (List.mem_cons_of_mem _ h)
  have w0 := hL (.fieldLink RJ0 9 "java/lang/String" "value" "[B") (hR10 19 rfl)
  obtain ⟨H, hH⟩ : ∃ H : Heap, H = s.heap := ⟨_, rfl⟩
  obtain ⟨locs, hlo⟩ : ∃ locs : List Loc, locs = [] := ⟨_, rfl⟩
  have hP : va_P D vwCl [] H := by rw [hH]; exact hP
  have hS : va_S A s.heap H locs := by rw [hH, hlo]; exact hS
  suffices hw : W p l e rmJ0_charAt_5068e s m av below meth c H locs 0 0 Q (F0 m 0 ls []) by rw [hH, hlo] at hw; exact hw
  refine lv_aload_n hx hb dJ0_charAt_5068e_0 rfl (lv_at hl 0 rfl) ?_
  refine cc_i (wc := []) (wr := []) (w1 := []) (wn := []) hP hD hS hA [] [] [] rfl rfl rfl (by decide) rfl rfl (va_runV (C := RJ0) (As := []) (rest := []) ⟨hx, hb, hml, hown, hL⟩ (mJ0_isLatin1_aae02 l D cyI cyJ cyB cyS adK adV H.size i hi) (cwV 0 hL (gV (hR11 6 rfl) (hR11 7 rfl) (hR11 8 rfl) (hR10 17 rfl) (hR11 9 rfl)) rfl rfl rfl (by decide +kernel) ⟨Nat.le_of_ble_eq_true rfl, Nat.le_of_ble_eq_true rfl⟩) (PPs_preT hi hP hD hK hX hS hA [] rfl rfl) rfl rfl hl.1 rfl (lv_room (Nat.le_of_ble_eq_true rfl)) dJ0_charAt_5068e_1 ⟨Nat.le_of_ble_eq_true rfl, Nat.le_of_ble_eq_true rfl⟩) (fun H locs hP hD hS => ?_)
  refine lv_if_eq (tgt := 16) hx hb dJ0_charAt_5068e_4 (by decide) (fun c => absurd c (by decide)) (fun _ => ?_)
  refine lv_aload_n hx hb dJ0_charAt_5068e_7 rfl (lv_at hl 0 rfl) ?_
  refine vk_getf hx hb (hX.1.1 i hi).2.2.1 hS hown w0 (fun _ h => h) dJ0_charAt_5068e_8 ?_
  refine lv_iload_n hx hb dJ0_charAt_5068e_11 rfl (lv_at hl 1 rfl) ?_
  refine cc_i (wc := []) (wr := []) (w1 := []) (wn := []) hP hD hS hA [] [] [] rfl rfl rfl (by decide) rfl rfl (va_runS (As := [.ref (adV i), .int k]) (rest := []) ⟨hx, hb, hml, hown, hL⟩ (mJ1_charAt_3b067 l D cyI cyJ cyB cyS adK adV H.size i hi k hk hk2) (va_cwS 2 hL (gS (hR11 10 rfl) (hR11 11 rfl) (hR11 12 rfl) (hR11 13 rfl)) rfl rfl rfl (by decide +kernel) ⟨Nat.le_of_ble_eq_true rfl, Nat.le_of_ble_eq_true rfl⟩) (PPs_preS hP hD hK hX hS hA [] rfl rfl) rfl rfl hl.1 rfl (lv_room (Nat.le_of_ble_eq_true rfl)) dJ0_charAt_5068e_12 ⟨Nat.le_of_ble_eq_true rfl, Nat.le_of_ble_eq_true rfl⟩) (fun H locs hP hD hS => ?_)
  rw [hQ]
  exact W.zret (ty := .char) hx hb hr (pk_nc _) (fun t ht hW => ⟨⟨_, (), rfl, rfl, by rw [ht]; exact hP, hD⟩, hS.F ht⟩) hS.2.2 dJ0_charAt_5068e_15
abbrev rmX5_word : Room := { frames := 0, cells := 0, slots := 0, locals := 0 }
set_option maxHeartbeats 4000000 in
set_option maxRecDepth 100000 in
theorem mX5_word (l : Launch) (D : va_G) (cyI cyJ cyB cyS : ClassId) (adK adV : Nat → Nat) (sz : Nat) (x0 : Int32) (q : Nat) (hf : wrd x0 = q) : Met l yX5_word (wS yX5_word cX5_word 1 (some (.object "java/lang/String"))) rmX5_word (va_Pc [.int x0] (PPs D cyI cyJ cyB cyS adK adV [] sz)) (QT adK q D [] (va_A [] sz)) 0 0 (va_A [] sz) := by
  refine Met.ofW (cc := cX5_word) (maxL := 1) (ret := (some (.object "java/lang/String"))) (by decide) rfl ?_
  intro p e s m args below meth c s₁ B hml hv
  obtain ⟨rfl, ⟨hsz, hP, hK, hD0⟩, hX⟩ := hv
  have hx := B.exec
  have hb := B.bytes
  have hr := B.returns
  have hts := atoms_spec (ws := (wS yX5_word cX5_word 1 (some (.object "java/lang/String")))) B.pre
  have hown : s.vm.findClass RX5 = some m.cls := findClass_of_methodNamed B.named
  have hlocks := B.notSynchronized
  subst hsz
  have hD := hD0.self (sz := s.heap.size)
  refine w_nameQ (fun Q hQ => ?_)
  have hl := lv_entry ([.int x0] : List Value) (n := 1) (Nat.le_of_ble_eq_true rfl)
  rw [lg_entry_eq]
  generalize (lg_sl ([.int x0] : List Value) ++ List.replicate (1 - (lg_sl ([.int x0] : List Value)).length) Slot.unset).toArray = ls at hl ⊢
  have hl : lv_has ls 1 [(0, .int x0)] := hl
  generalize hAe : va_A [] s.heap.size = A at hD hQ hX
  have hA : ∀ q : Nat, s.heap.size ≤ q → A q := fun q h => by rw [← hAe]; exact Or.inr h
  have hS : va_S A s.heap s.heap [] := va_S.rf
  generalize ([.int x0] : List Value).toArray = av at hts hQ ⊢
  have hL : ∀ w ∈ wsL_law, w.before av s = true := fun w h => hts w (List.mem_cons_of_mem _ h)
  obtain ⟨H, hH⟩ : ∃ H : Heap, H = s.heap := ⟨_, rfl⟩
  obtain ⟨locs, hlo⟩ : ∃ locs : List Loc, locs = [] := ⟨_, rfl⟩
  have hP : va_P D vwCl [] H := by rw [hH]; exact hP
  have hS : va_S A s.heap H locs := by rw [hH, hlo]; exact hS
  suffices hw : W p l e rmX5_word s m av below meth c H locs 0 0 Q (F0 m 0 ls []) by rw [hH, hlo] at hw; exact hw
  refine lv_iload_n hx hb dX5_word_0 rfl (lv_at hl 0 rfl) ?_
  rcases Decidable.em (x0 = 0) with z0 | z0
  · obtain rfl : 0 = q := by rw [z0] at hf; exact hf
    refine lv_tableIn (tgt := 56) hx hb dX5_word_1 (by rw [z0]; decide) (by rw [z0]; decide) (by rw [z0]; try rfl) (by decide) ?_
    refine va_ldcS (tx := txS 0) hx hb hown (hX.2.1 0 (by decide)) dX5_word_56 ?_
    rw [hQ]
    exact W.aret hx hb hr (Or.inl ⟨_, rfl⟩) (Or.inr ⟨_, rfl⟩) (fun t ht hW => ⟨⟨(), _, rfl, trivial, rfl, by rw [ht]; exact hP, hD⟩, hS.F ht⟩) hS.2.2 dX5_word_58
  · rcases Decidable.em (x0 = 1) with z1 | z1
    · obtain rfl : 1 = q := by rw [z1] at hf; exact hf
      refine lv_tableIn (tgt := 59) hx hb dX5_word_1 (by rw [z1]; decide) (by rw [z1]; decide) (by rw [z1]; try rfl) (by decide) ?_
      refine va_ldcS (tx := txS 1) hx hb hown (hX.2.1 1 (by decide)) dX5_word_59 ?_
      rw [hQ]
      exact W.aret hx hb hr (Or.inl ⟨_, rfl⟩) (Or.inr ⟨_, rfl⟩) (fun t ht hW => ⟨⟨(), _, rfl, trivial, rfl, by rw [ht]; exact hP, hD⟩, hS.F ht⟩) hS.2.2 dX5_word_61
    · rcases Decidable.em (x0 = 2) with z2 | z2
      · obtain rfl : 2 = q := by rw [z2] at hf; exact hf
        refine lv_tableIn (tgt := 62) hx hb dX5_word_1 (by rw [z2]; decide) (by rw [z2]; decide) (by rw [z2]; try rfl) (by decide) ?_
        refine va_ldcS (tx := txS 2) hx hb hown (hX.2.1 2 (by decide)) dX5_word_62 ?_
        rw [hQ]
        exact W.aret hx hb hr (Or.inl ⟨_, rfl⟩) (Or.inr ⟨_, rfl⟩) (fun t ht hW => ⟨⟨(), _, rfl, trivial, rfl, by rw [ht]; exact hP, hD⟩, hS.F ht⟩) hS.2.2 dX5_word_64
      · rcases Decidable.em (x0 = 3) with z3 | z3
        · obtain rfl : 3 = q := by rw [z3] at hf; exact hf
          refine lv_tableIn (tgt := 65) hx hb dX5_word_1 (by rw [z3]; decide) (by rw [z3]; decide) (by rw [z3]; try rfl) (by decide) ?_
          refine va_ldcS (tx := txS 3) hx hb hown (hX.2.1 3 (by decide)) dX5_word_65 ?_
          rw [hQ]
          exact W.aret hx hb hr (Or.inl ⟨_, rfl⟩) (Or.inr ⟨_, rfl⟩) (fun t ht hW => ⟨⟨(), _, rfl, trivial, rfl, by rw [ht]; exact hP, hD⟩, hS.F ht⟩) hS.2.2 dX5_word_67
        · rcases Decidable.em (x0 = 4) with z4 | z4
          · obtain rfl : 4 = q := by rw [z4] at hf; exact hf
            refine lv_tableIn (tgt := 68) hx hb dX5_word_1 (by rw [z4]; decide) (by rw [z4]; decide) (by rw [z4]; try rfl) (by decide) ?_
            refine va_ldcS (tx := txS 4) hx hb hown (hX.2.1 4 (by decide)) dX5_word_68 ?_
            rw [hQ]
            exact W.aret hx hb hr (Or.inl ⟨_, rfl⟩) (Or.inr ⟨_, rfl⟩) (fun t ht hW => ⟨⟨(), _, rfl, trivial, rfl, by rw [ht]; exact hP, hD⟩, hS.F ht⟩) hS.2.2 dX5_word_70
          · rcases Decidable.em (x0 = 5) with z5 | z5
            · obtain rfl : 5 = q := by rw [z5] at hf; exact hf
              refine lv_tableIn (tgt := 71) hx hb dX5_word_1 (by rw [z5]; decide) (by rw [z5]; decide) (by rw [z5]; try rfl) (by decide) ?_
              refine va_ldcS (tx := txS 5) hx hb hown (hX.2.1 5 (by decide)) dX5_word_71 ?_
              rw [hQ]
              exact W.aret hx hb hr (Or.inl ⟨_, rfl⟩) (Or.inr ⟨_, rfl⟩) (fun t ht hW => ⟨⟨(), _, rfl, trivial, rfl, by rw [ht]; exact hP, hD⟩, hS.F ht⟩) hS.2.2 dX5_word_73
            · rcases Decidable.em (x0 = 6) with z6 | z6
              · obtain rfl : 6 = q := by rw [z6] at hf; exact hf
                refine lv_tableIn (tgt := 74) hx hb dX5_word_1 (by rw [z6]; decide) (by rw [z6]; decide) (by rw [z6]; try rfl) (by decide) ?_
                refine va_ldcS (tx := txS 6) hx hb hown (hX.2.1 6 (by decide)) dX5_word_74 ?_
                rw [hQ]
                exact W.aret hx hb hr (Or.inl ⟨_, rfl⟩) (Or.inr ⟨_, rfl⟩) (fun t ht hW => ⟨⟨(), _, rfl, trivial, rfl, by rw [ht]; exact hP, hD⟩, hS.F ht⟩) hS.2.2 dX5_word_76
              · rcases Decidable.em (x0 = 7) with z7 | z7
                · obtain rfl : 7 = q := by rw [z7] at hf; exact hf
                  refine lv_tableIn (tgt := 77) hx hb dX5_word_1 (by rw [z7]; decide) (by rw [z7]; decide) (by rw [z7]; try rfl) (by decide) ?_
                  refine va_ldcS (tx := txS 7) hx hb hown (hX.2.1 7 (by decide)) dX5_word_77 ?_
                  rw [hQ]
                  exact W.aret hx hb hr (Or.inl ⟨_, rfl⟩) (Or.inr ⟨_, rfl⟩) (fun t ht hW => ⟨⟨(), _, rfl, trivial, rfl, by rw [ht]; exact hP, hD⟩, hS.F ht⟩) hS.2.2 dX5_word_79
                · rcases Decidable.em (x0 = 8) with z8 | z8
                  · obtain rfl : 8 = q := by rw [z8] at hf; exact hf
                    refine lv_tableIn (tgt := 80) hx hb dX5_word_1 (by rw [z8]; decide) (by rw [z8]; decide) (by rw [z8]; try rfl) (by decide) ?_
                    refine va_ldcS (tx := txS 8) hx hb hown (hX.2.1 8 (by decide)) dX5_word_80 ?_
                    rw [hQ]
                    exact W.aret hx hb hr (Or.inl ⟨_, rfl⟩) (Or.inr ⟨_, rfl⟩) (fun t ht hW => ⟨⟨(), _, rfl, trivial, rfl, by rw [ht]; exact hP, hD⟩, hS.F ht⟩) hS.2.2 dX5_word_82
                  · rcases Decidable.em (x0 = 9) with z9 | z9
                    · obtain rfl : 9 = q := by rw [z9] at hf; exact hf
                      refine lv_tableIn (tgt := 83) hx hb dX5_word_1 (by rw [z9]; decide) (by rw [z9]; decide) (by rw [z9]; try rfl) (by decide) ?_
                      refine va_ldcS (tx := txS 9) hx hb hown (hX.2.1 9 (by decide)) dX5_word_83 ?_
                      rw [hQ]
                      exact W.aret hx hb hr (Or.inl ⟨_, rfl⟩) (Or.inr ⟨_, rfl⟩) (fun t ht hW => ⟨⟨(), _, rfl, trivial, rfl, by rw [ht]; exact hP, hD⟩, hS.F ht⟩) hS.2.2 dX5_word_85
                    · refine lv_tableOut (tgt := 86) hx hb dX5_word_1 (by have y0 := lv_neT (k := 0) (a := 0) z0 rfl; have y1 := lv_neT (k := 1) (a := 1) z1 rfl; have y2 := lv_neT (k := 2) (a := 2) z2 rfl; have y3 := lv_neT (k := 3) (a := 3) z3 rfl; have y4 := lv_neT (k := 4) (a := 4) z4 rfl; have y5 := lv_neT (k := 5) (a := 5) z5 rfl; have y6 := lv_neT (k := 6) (a := 6) z6 rfl; have y7 := lv_neT (k := 7) (a := 7) z7 rfl; have y8 := lv_neT (k := 8) (a := 8) z8 rfl; have y9 := lv_neT (k := 9) (a := 9) z9 rfl; omega) (by decide) ?_
                      obtain rfl : 10 = q := by simpa [wrd, z0, z1, z2, z3, z4, z5, z6, z7, z8, z9] using hf
                      refine va_ldcS (tx := txS 10) hx hb hown (hX.2.1 10 (by decide)) dX5_word_86 ?_
                      rw [hQ]
                      exact W.aret hx hb hr (Or.inl ⟨_, rfl⟩) (Or.inr ⟨_, rfl⟩) (fun t ht hW => ⟨⟨(), _, rfl, trivial, rfl, by rw [ht]; exact hP, hD⟩, hS.F ht⟩) hS.2.2 dX5_word_88
