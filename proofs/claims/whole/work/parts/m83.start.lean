-- ===== end of PART A; then your names; then what follows =====
/-! THE CLAIM OUT OF ONE WALK OF THE LAW'S BODY. Your part is whole_start (and what it stands on); all else here is the same for every law, but numbers. -/
def R_law : String := "LosingLeagueLaw"
def lw_P (b : Addr) (xs : List Int32) (args : Array Value) (s : State) : Prop := args = #[.ref b] ∧ s.IntsAt b xs ∧ xs.length ≤ 3072 ∧ (Jvm.Cond.and given_1 narrow_1).before args s = true
def lw_Q (_ : Array Value) (s : State) (o : Outcome) (t : State) : Prop := o = .returned (some (.int 1)) ∧ Framed s o t [] 600000 7302250
def lw_Z (below : List Frame) (a : Array Value) (s : State) : State → Prop := fun t => ∃ o, t.status = .running ∧ Ended t below o ∧ lw_Q a s o t
/-- the law's own end, with 1 on the stack, nothing written that was there before, its room as the claim has it -/
theorem lw_ret {p : Program} {l : Launch} {e : Env} {s : State} {m : MethodId} {below : List Frame} {meth : Method} {c : Code} {b : Nat} (hx : p.tables.exec = Jvm.exec) (hb : c.code = code) (hr : meth.sig.returnType = ret) (hlocks : meth.locks = false) {pc : Nat} {H : Heap} {ls : Array Slot} (hdg : decode code pc = .ok (.ireturn, 1)) : W p l e room_1 s m #[Value.ref b] below meth c H [] 600000 7302250 (lw_Z below #[Value.ref b] s) (F0 m pc ls [.int 1]) := by
  intro T hT X
  obtain ⟨fs, hret, hrun, hended, hW, hframe⟩ := X.leave (v := some (.int 1)) (hlocks := hlocks) (fun h => by rw [hr] at h; cases h)
  have hmeth' : T.vm.method? m = some meth := X.method'
  refine ⟨T.setFrames fs, ?_, .returned (some (.int 1)), hrun, hended, rfl, ⟨_, rfl⟩, hW, hframe⟩
  jvm_step X.here [X.here.top, hx, hb, hdg, hmeth', hr, ret, narrow_b1]
  (try refine ⟨rfl, ?_⟩); (try refine ⟨rfl, ?_⟩)
  first | (intro acts; rw [hret _ acts rfl rfl rfl]) | rw [hret _ _ rfl rfl rfl]
  exact Steps.refl _
/-- what holds at the law's entry: the machine, the code, the tables' words (any of lw_tbl by 'hts w (by decide +kernel)'), the script of L ints xs at the cell b, what the Statement gives of the start (any of its parts by flat_of_before) -/
def lw_At (p : Program) (s : State) (m : MethodId) (meth : Method) (c : Code) (b L : Nat) (xs : Nat → Int32) : Prop :=
  p.tables.exec = Jvm.exec ∧ c.code = code ∧ meth.sig.returnType = ret ∧ c.maxLocals = 4 ∧ s.vm.findClass R_law = some m.cls ∧ (∀ w ∈ lw_tbl, w.before #[Value.ref b] s = true) ∧ va_X b L xs s s.heap ∧ b < s.heap.size ∧ meth.locks = false ∧ (Jvm.Cond.and given_1 narrow_1).before #[Value.ref b] s = true
theorem arr_known {args : Array Value} {s : State} {ty : FieldType} (h : (Cond.arrayClass ty).before args s = true) : ∃ cA : ClassId, ArrOfT s cA ty ∧ s.vm.findClass ("[" ++ ty.toString) = some cA := by
  obtain ⟨cA, kA, comp, h1, h2, h3⟩ := Cond.arrayClass_spec h
  exact ⟨cA, fun n z => ⟨(fun k h => by cases h), kA, h2, comp, h3⟩, h1⟩
theorem nwL_in : ∀ q ∈ nwL, Cond.methodLinkNest q.1 q.2.1 q.2.2 RX8 ∈ lw_tbl := by decide +kernel
theorem nw1_in : Cond.methodLinkNest RX6 78 yX8_chance RX8 ∈ lw_tbl := by decide +kernel
theorem nw2_in : Cond.methodLinkNest RX6 164 yX8_rested RX8 ∈ lw_tbl := by decide +kernel
theorem nw3_in : Cond.methodLinkNest RX7 88 yX8_chance RX8 ∈ lw_tbl := by decide +kernel
theorem ao_in : Cond.arrayOver (.object "LosingLeague$Sheet") ∈ lw_tbl := by decide +kernel
theorem st_sr : ∀ i, i < 11 → Cond.stringRef RX5 (69 + 2 * i) (txS i) ∈ lw_tbl := by decide +kernel
theorem st_ex : ∀ i, i < 11 → Cond.exactly (.string RX5 (69 + 2 * i)) "java/lang/String" ∈ flatC (Jvm.Cond.and given_1 narrow_1) := by decide +kernel
theorem st_co : ∀ i, i < 11 → Cond.eq (.field (.string RX5 (69 + 2 * i)) "java/lang/String" "coder" "B") (.int 0) ∈ flatC (Jvm.Cond.and given_1 narrow_1) := by decide +kernel
theorem st_ar : ∀ i, i < 11 → Cond.arrayOf (.field (.string RX5 (69 + 2 * i)) "java/lang/String" "value" "[B") .byte ∈ flatC (Jvm.Cond.and given_1 narrow_1) := by decide +kernel
theorem st_le : ∀ i, i < 11 → Cond.eq (.length (.field (.string RX5 (69 + 2 * i)) "java/lang/String" "value" "[B")) (.int (Int32.ofNat (lenS.getD i 0))) ∈ flatC (Jvm.Cond.and given_1 narrow_1) := by decide +kernel
theorem st_el : ∀ i, i < 11 → ∀ j, j < lenS.getD i 0 → Cond.eq (.elem (.field (.string RX5 (69 + 2 * i)) "java/lang/String" "value" "[B") (.int (Int32.ofNat j))) (.int ((bytS.getD i []).getD j 0)) ∈ flatC (Jvm.Cond.and given_1 narrow_1) := by decide +kernel
theorem st_ne : ∀ i, i < 11 → ∀ j, j < 11 → i ≠ j → (Cond.not (Cond.eq (.string RX5 (69 + 2 * i)) (.string RX5 (69 + 2 * j))) ∈ flatC (Jvm.Cond.and given_1 narrow_1) ∨ Cond.not (Cond.eq (.string RX5 (69 + 2 * j)) (.string RX5 (69 + 2 * i))) ∈ flatC (Jvm.Cond.and given_1 narrow_1)) := by decide +kernel
theorem st_cs : Cond.eq (.static RJ0 "COMPACT_STRINGS" "Z") (.int 1) ∈ flatC (Jvm.Cond.and given_1 narrow_1) := by decide +kernel
theorem st_sf : Cond.isRef (.static RJ3 "SIOOBE_FORMATTER" "Ljava/util/function/BiFunction;") ∈ flatC (Jvm.Cond.and given_1 narrow_1) := by decide +kernel
theorem st_l1 : Cond.laysStatic RJ0 "COMPACT_STRINGS" "Z" ∈ lw_tbl := by decide +kernel
theorem st_l2 : Cond.laysStatic RJ3 "SIOOBE_FORMATTER" "Ljava/util/function/BiFunction;" ∈ lw_tbl := by decide +kernel
set_option maxHeartbeats 40000000 in
set_option maxRecDepth 100000 in
/-- the law from its entry, over the pure run -/
theorem whole_start_open {p : Program} {e : Env} {s : State} {m : MethodId} {below : List Frame} {meth : Method} {c : Code} (l : Launch) {b L : Nat} {xs : Nat → Int32} (N n : Nat) (qr : Int32 × Int32 × Int32 × (Nat → Int32) × (Nat → Int32) × (Nat → Int32) × (Nat → Int32) × (Nat → Int32)) (hqr : fX2_reset N 0 0 0 (fun _ => 0) (fun _ => 0) (fun _ => 0) (fun _ => 0) (fun _ => 0) = some qr) (hpure : fL N L xs n 0 (u0 qr) w0 = some 1) (C0 : lw_At p s m meth c b L xs) : W p l e room_1 s m #[Value.ref b] below meth c s.heap [] 0 0 (lw_Z below #[Value.ref b] s) (entryFrame m ([Value.ref b] : List Value).toArray 4) := by
  obtain ⟨hx, hb, hr, hml, hown, hts, hX0, hbl, hlocks, hgv⟩ := id C0
  have hL : ∀ w ∈ wsL_law, w.before #[Value.ref b] s = true := fun w h => hts w (wsL_law_in w h)
  have hA : ∀ q : Nat, s.heap.size ≤ q → (fun q : Nat => s.heap.size ≤ q) q := fun _ h => h
  have hA' : ∀ a : Nat, a < s.heap.size → ¬ (fun q : Nat => s.heap.size ≤ q) a := fun a h => Nat.not_le.mpr h
  have hbA : ¬ (fun q : Nat => s.heap.size ≤ q) b := Nat.not_le.mpr hbl
  obtain ⟨c0, iS0, hKn0⟩ := u_known (C := RX0) (T := TX0) (N := 4) (n := 4) hL inlX0 (hL (.instantiable RX0 4) (hR1 18 rfl))
  obtain ⟨c1, iS1, hKn1⟩ := u_known (C := RX1) (T := TX1) (N := 7) (n := 7) hL inlX1 (hL (.instantiable RX1 7) (hR2 2 rfl))
  obtain ⟨c2, iS2, hKn2⟩ := u_known (C := RX2) (T := TX2) (N := 8) (n := 8) hL inlX2 (hL (.instantiable RX2 8) (hR1 14 rfl))
  obtain ⟨c3, iS3, hKn3⟩ := u_known (C := RX3) (T := TX3) (N := 4) (n := 4) hL inlX3 (hL (.instantiable RX3 4) (hR2 15 rfl))
  obtain ⟨c4, iS4, hKn4⟩ := u_known (C := RX4) (T := TX4) (N := 8) (n := 8) hL inlX4 (hL (.instantiable RX4 8) (hR1 22 rfl))
  obtain ⟨c5, iS5, hKn5⟩ := u_known (C := RX5) (T := TX5) (N := 6) (n := 6) hL inlX5 (hL (.instantiable RX5 6) (hR3 22 rfl))
  obtain ⟨c6, iS6, hKn6⟩ := u_known (C := RX6) (T := TX6) (N := 14) (n := 14) hL inlX6 (hL (.instantiable RX6 14) (hR2 6 rfl))
  obtain ⟨c7, iS7, hKn7⟩ := u_known (C := RX7) (T := TX7) (N := 10) (n := 10) hL inlX7 (hL (.instantiable RX7 10) (hR2 10 rfl))
  obtain ⟨c8, iS8, hKn8⟩ := u_known (C := RX8) (T := TX8) (N := 9) (n := 9) hL inlX8 (hL (.instantiable RX8 9) (hR1 1 rfl))
  obtain ⟨c9, iS9, hKn9⟩ := u_known (C := RX9) (T := TX9) (N := 52) (n := 52) hL inlX9 (hL (.instantiable RX9 52) (hR1 4 rfl))
  obtain ⟨dC, dI, hKc⟩ : ∃ (dC : Nat → ClassId) (dI : Nat → Nat → Nat), ∀ (k : Nat) (q : vw_C), vwCl[k]? = some q → u_Kn s q.1 q.2.1 q.2.2 (dC k) (dI k) := by
    refine ⟨fun k => ([c0, c1, c2, c3, c4, c5, c6, c7, c8, c9] : List ClassId).getD k c0, fun k => ([iS0, iS1, iS2, iS3, iS4, iS5, iS6, iS7, iS8, iS9] : List (Nat → Nat)).getD k iS0, ?_⟩
    intro k q hq
    match k, hq with
    | 0, hq => cases hq; exact hKn0
    | 1, hq => cases hq; exact hKn1
    | 2, hq => cases hq; exact hKn2
    | 3, hq => cases hq; exact hKn3
    | 4, hq => cases hq; exact hKn4
    | 5, hq => cases hq; exact hKn5
    | 6, hq => cases hq; exact hKn6
    | 7, hq => cases hq; exact hKn7
    | 8, hq => cases hq; exact hKn8
    | 9, hq => cases hq; exact hKn9
    | k + 10, hq => simp [vwCl] at hq
  obtain ⟨cyI, aI, fI⟩ := arr_known (hL (.arrayClass .int) (hR2 20 rfl))
  obtain ⟨cyJ, aJ, fJ⟩ := arr_known (hL (.arrayClass .long) (hR4 15 rfl))
  obtain ⟨cyB, aB, fB⟩ := arr_known (hL (.arrayClass .byte) (hR4 10 rfl))
  obtain ⟨comp, cyS, kS, g1, g2, g3, g4, g5⟩ := Cond.arrayOver_spec (hts _ ao_in)
  have hK : KK (dC, dI) cyI cyJ cyB cyS s := by
    refine ⟨⟨hKc, fun k q h => ?_⟩, va_Nw.of rfl (hts _ nw1_in), va_Nw.of rfl (hts _ nw2_in), va_Nw.of rfl (hts _ nw3_in)⟩
    match k, h with
    | 0, h => cases h; exact ⟨aI, fI⟩
    | 1, h => cases h; exact ⟨aJ, fJ⟩
    | 2, h => cases h; exact ⟨aB, fB⟩
    | 3, h => cases h; exact ⟨fun N z => ⟨(fun k h => by cases h), kS, g3, comp, g4⟩, kS, comp, g3, g4, g1, g5⟩
    | k + 4, h => simp at h
  have hN : KN s := ⟨fun q hq => va_Nw.of rfl (hts _ (nwL_in q hq)), va_AO.of (hts _ ao_in)⟩
  have hs := flat_of_before _ hgv
  obtain ⟨adK, adV, hV, hev⟩ := vk_Sof (args := #[Value.ref b]) (N := 11) (tm := fun i => Term.string RX5 (69 + 2 * i)) (len := lenS) (byt := bytS) (A := (fun q : Nat => s.heap.size ≤ q)) (by decide) (fun i hi => hs _ (st_ex i hi)) (fun i hi => hs _ (st_co i hi)) (fun i hi => hs _ (st_ar i hi)) (fun i hi => hs _ (st_le i hi)) (fun i hi j hj => hs _ (st_el i hi j hj)) (fun i j hi hj hij => (st_ne i hi j hj hij).imp (hs _) (hs _)) hA'
  have hX : SX adK adV (fun q : Nat => s.heap.size ≤ q) s s.heap := ⟨hV, fun i hi => vk_R.of (hts _ (st_sr i hi)) (hev i hi), va_Zof (hts _ st_l1) (hL (.initialized RJ0) (hR10 17 rfl)) (va_eqt (hs _ st_cs)) hA', va_Zqof (hts _ st_l2) (hL (.initialized RJ3) (hR11 20 rfl)) (hs _ st_sf) hA'⟩
  have hS : va_S (fun q : Nat => s.heap.size ≤ q) s.heap s.heap [] := va_S.rf
  have hP : va_P (dC, dI) vwCl [] s.heap := fun k q h => by simp at h
  have hD : va_D (fun q : Nat => s.heap.size ≤ q) [] := ⟨fun i j p q h => by simp at h, fun k q h => by simp at h⟩
  have hl := lv_entry ([.ref b]) (n := 4) (Nat.le_of_ble_eq_true rfl)
  rw [lg_entry_eq]
  generalize (lg_sl ([.ref b]) ++ List.replicate (4 - (lg_sl ([.ref b])).length) Slot.unset).toArray = ls at hl ⊢
  have hl : lv_has ls 4 [(0, .ref b)] := hl
  refine va_new (ci := 8) (fs := [.null, .null, .null, .null, .null, .null, .null, .int 0, .int 0]) (C := RX8) (T := TX8) (N := 9) hx hb hL inlX8 tyX8 tyX8_ok hown (hL (.classLink RL 7 RX8) (hR1 0 rfl)) (hL (.instantiable RX8 9) (hR1 1 rfl)) (hL (.initialized RX8) (hR1 2 rfl)) hK.1 hP hD hS hA rfl (fun j hj => by rcases (show j = 0 ∨ j = 1 ∨ j = 2 ∨ j = 3 ∨ j = 4 ∨ j = 5 ∨ j = 6 ∨ j = 7 ∨ j = 8 by omega) with rfl | rfl | rfl | rfl | rfl | rfl | rfl | rfl | rfl <;> rfl) (Nat.le_of_ble_eq_true rfl) (Nat.le_of_ble_eq_true rfl) dL_law_0 (fun qx H hP hD hS => ?_)
  have hP : va_P (dC, dI) vwCl [(qx, .inr (8, [.null, .null, .null, .null, .null, .null, .null, .int 0, .int 0]))] H := hP
  have hD : va_D (fun q : Nat => s.heap.size ≤ q) [(qx, .inr (8, [.null, .null, .null, .null, .null, .null, .null, .int 0, .int 0]))] := hD
  refine W.widen (k := 1) (n := 9) (by omega) (by omega) ?_
  refine lv_dup hx hb dL_law_3 rfl ?_
  refine cc_n (wc := [(qx, .inr (8, [.null, .null, .null, .null, .null, .null, .null, .int 0, .int 0]))]) (wr := []) hP hD hS hA [0] [] rfl rfl rfl (by decide) (va_runI (As := []) (rest := [.ref qx]) ⟨hx, hb, hml, hown, hL⟩ (nX8 l (dC, dI) cyI cyJ cyB cyS N qr hqr H.size qx) (cwI 0 hL (gN (hR1 9 rfl)) rfl rfl rfl (hL (.initialized RX8) (hR1 2 rfl)) (hL (.methodLink RL 9 yX8_init) (hR1 7 rfl)) (hL (.instanceMethod yX8_init) (hR1 8 rfl)) rfl (by decide +kernel) ⟨Nat.le_of_ble_eq_true rfl, Nat.le_of_ble_eq_true rfl⟩) (PPn_preS hP hD hK hN [0] rfl rfl) rfl rfl hl.1 rfl (lv_room (Nat.le_of_ble_eq_true rfl)) dL_law_4 ⟨Nat.le_of_ble_eq_true rfl, Nat.le_of_ble_eq_true rfl⟩) (fun ux H locs hP hD hS => ?_)
  have hP : va_P (dC, dI) vwCl (wnX8 cyI cyJ cyB cyS qx qr ux) H := hP
  have hD : va_D (fun q : Nat => s.heap.size ≤ q) (wnX8 cyI cyJ cyB cyS qx qr ux) := hD
  refine W.widen (k := 81) (n := 2678) (by omega) (by omega) ?_
  refine lv_astore_n (lv' := [(1, .ref qx), (0, .ref b)]) hx hb dL_law_7 rfl hl (by decide) rfl (fun ls hl => ?_)
  refine va_new (ci := 9) (fs := [.null, .int 0, .int 0, .int 0, .int 0, .int 0, .int 0, .int 0, .int 0, .null, .null, .null, .null, .null, .int 0, .int 0, .int 0, .null, .null, .null, .null, .null, .null, .int 0, .int 0, .null, .null, .null, .null, .null, .null, .null, .null, .null, .int 0, .long 0, .long 0, .null, .int 0, .int 0, .long 0, .int 0, .int 0, .int 0, .int 0, .null, .null, .int 0, .null, .null, .null, .int 0]) (C := RX9) (T := TX9) (N := 52) hx hb hL inlX9 tyX9 tyX9_ok hown (hL (.classLink RL 10 RX9) (hR1 3 rfl)) (hL (.instantiable RX9 52) (hR1 4 rfl)) (hL (.initialized RX9) (hR1 5 rfl)) hK.1 hP hD hS hA rfl (fun j hj => by rcases (show j = 0 ∨ j = 1 ∨ j = 2 ∨ j = 3 ∨ j = 4 ∨ j = 5 ∨ j = 6 ∨ j = 7 ∨ j = 8 ∨ j = 9 ∨ j = 10 ∨ j = 11 ∨ j = 12 ∨ j = 13 ∨ j = 14 ∨ j = 15 ∨ j = 16 ∨ j = 17 ∨ j = 18 ∨ j = 19 ∨ j = 20 ∨ j = 21 ∨ j = 22 ∨ j = 23 ∨ j = 24 ∨ j = 25 ∨ j = 26 ∨ j = 27 ∨ j = 28 ∨ j = 29 ∨ j = 30 ∨ j = 31 ∨ j = 32 ∨ j = 33 ∨ j = 34 ∨ j = 35 ∨ j = 36 ∨ j = 37 ∨ j = 38 ∨ j = 39 ∨ j = 40 ∨ j = 41 ∨ j = 42 ∨ j = 43 ∨ j = 44 ∨ j = 45 ∨ j = 46 ∨ j = 47 ∨ j = 48 ∨ j = 49 ∨ j = 50 ∨ j = 51 by omega) with rfl | rfl | rfl | rfl | rfl | rfl | rfl | rfl | rfl | rfl | rfl | rfl | rfl | rfl | rfl | rfl | rfl | rfl | rfl | rfl | rfl | rfl | rfl | rfl | rfl | rfl | rfl | rfl | rfl | rfl | rfl | rfl | rfl | rfl | rfl | rfl | rfl | rfl | rfl | rfl | rfl | rfl | rfl | rfl | rfl | rfl | rfl | rfl | rfl | rfl | rfl | rfl <;> rfl) (Nat.le_of_ble_eq_true rfl) (Nat.le_of_ble_eq_true rfl) dL_law_8 (fun qm H hP hD hS => ?_)
  refine W.widen (k := 82) (n := 2730) (by omega) (by omega) ?_
  refine lv_dup hx hb dL_law_11 rfl ?_
  refine cc_n (wc := [(qm, .inr (9, [.null, .int 0, .int 0, .int 0, .int 0, .int 0, .int 0, .int 0, .int 0, .null, .null, .null, .null, .null, .int 0, .int 0, .int 0, .null, .null, .null, .null, .null, .null, .int 0, .int 0, .null, .null, .null, .null, .null, .null, .null, .null, .null, .int 0, .long 0, .long 0, .null, .int 0, .int 0, .long 0, .int 0, .int 0, .int 0, .int 0, .null, .null, .int 0, .null, .null, .null, .int 0]))]) (wr := wnX8 cyI cyJ cyB cyS qx qr ux) hP hD hS hA [81] [0, 1, 2, 3, 4, 5, 6, 7, 8, 9, 10, 11, 12, 13, 14, 15, 16, 17, 18, 19, 20, 21, 22, 23, 24, 25, 26, 27, 28, 29, 30, 31, 32, 33, 34, 35, 36, 37, 38, 39, 40, 41, 42, 43, 44, 45, 46, 47, 48, 49, 50, 51, 52, 53, 54, 55, 56, 57, 58, 59, 60, 61, 62, 63, 64, 65, 66, 67, 68, 69, 70, 71, 72, 73, 74, 75, 76, 77, 78, 79, 80] rfl rfl rfl (by decide) (va_runI (As := []) (rest := [.ref qm]) ⟨hx, hb, hml, hown, hL⟩ (nX9 l (dC, dI) cyI cyJ cyB cyS H.size qm) (cwI 0 hL (gN (hR6 2 rfl)) rfl rfl rfl (hL (.initialized RX9) (hR1 5 rfl)) (hL (.methodLink RL 12 yX9_init) (hR6 0 rfl)) (hL (.instanceMethod yX9_init) (hR6 1 rfl)) rfl (by decide +kernel) ⟨Nat.le_of_ble_eq_true rfl, Nat.le_of_ble_eq_true rfl⟩) (PPn_preS hP hD hK hN [81] rfl rfl) rfl rfl hl.1 rfl (lv_room (Nat.le_of_ble_eq_true rfl)) dL_law_12 ⟨Nat.le_of_ble_eq_true rfl, Nat.le_of_ble_eq_true rfl⟩) (fun um H locs hP hD hS => ?_)
  refine W.widen (k := 109) (n := 4449) (by decide) (by decide) ?_
  refine lv_astore_n (lv' := [(2, .ref qm), (1, .ref qx), (0, .ref b)]) hx hb dL_law_15 rfl hl (by decide) rfl (fun ls hl => ?_)
  refine lv_iconst (v := 0) hx hb dL_law_16 (by decide) ?_
  refine lv_istore_n (lv' := [(3, .int 0), (2, .ref qm), (1, .ref qx), (0, .ref b)]) hx hb dL_law_17 rfl hl (by decide) rfl (fun ls hl => ?_)
  have hpl : [0, 1, 2, 3, 4, 5, 6, 7, 8, 9, 10, 11, 12, 13, 14, 15, 16, 17, 18, 19, 20, 21, 22, 23, 24, 25, 26, 27, 28, 29, 30, 31, 32, 33, 34, 35, 36, 37, 38, 39, 40, 41, 42, 43, 44, 45, 46, 47, 48, 49, 50, 51, 52, 53, 54, 55, 56, 57, 58, 59, 60, 61, 62, 63, 64, 65, 66, 67, 68, 69, 70, 71, 72, 73, 74, 75, 76, 77, 78, 79, 80, 81, 82, 83, 84, 85, 86, 87, 88, 89, 90, 91, 92, 93, 94, 95, 96, 97, 98, 99, 100, 101, 102, 103, 104, 105, 106, 107, 108].map (fun i => (wnX8 cyI cyJ cyB cyS qx qr ux ++ wnX9 cyI cyJ cyB cyS qm um)[i]?) = (WX cyI cyJ cyB cyS (fun k => ([qx, ux 0, ux 1, ux 2, ux 3, ux 4, ux 5, ux 6, ux 7, ux 8, ux 9, ux 10, ux 11, ux 12, ux 13, ux 14, ux 15, ux 16, ux 17, ux 18, ux 19, ux 20, ux 21, ux 22, ux 23, ux 24, ux 25, ux 26, ux 27, ux 28, ux 29, ux 30, ux 31, ux 32, ux 33, ux 34, ux 35, ux 36, ux 37, ux 38, ux 39, ux 40, ux 41, ux 42, ux 43, ux 44, ux 45, ux 46, ux 47, ux 48, ux 49, ux 50, ux 51, ux 52, ux 53, ux 54, ux 55, ux 56, ux 57, ux 58, ux 59, ux 60, ux 61, ux 62, ux 63, ux 64, ux 65, ux 66, ux 67, ux 68, ux 69, ux 70, ux 71, ux 72, ux 73, ux 74, ux 75, ux 76, ux 77, ux 78, ux 79] : List Nat).getD k 0) (u0 qr) ++ WM cyI cyJ cyB cyS (fun k => ([qm, um 0, um 1, um 2, um 3, um 4, um 5, um 6, um 7, um 8, um 9, um 10, um 11, um 12, um 13, um 14, um 15, um 16, um 17, um 18, um 19, um 20, um 21, um 22, um 23, um 24, um 25, um 26] : List Nat).getD k 0) w0).map some := rfl
  refine law_loop (N := N) (xs := xs) (L := L) (ax := (fun k => ([qx, ux 0, ux 1, ux 2, ux 3, ux 4, ux 5, ux 6, ux 7, ux 8, ux 9, ux 10, ux 11, ux 12, ux 13, ux 14, ux 15, ux 16, ux 17, ux 18, ux 19, ux 20, ux 21, ux 22, ux 23, ux 24, ux 25, ux 26, ux 27, ux 28, ux 29, ux 30, ux 31, ux 32, ux 33, ux 34, ux 35, ux 36, ux 37, ux 38, ux 39, ux 40, ux 41, ux 42, ux 43, ux 44, ux 45, ux 46, ux 47, ux 48, ux 49, ux 50, ux 51, ux 52, ux 53, ux 54, ux 55, ux 56, ux 57, ux 58, ux 59, ux 60, ux 61, ux 62, ux 63, ux 64, ux 65, ux 66, ux 67, ux 68, ux 69, ux 70, ux 71, ux 72, ux 73, ux 74, ux 75, ux 76, ux 77, ux 78, ux 79] : List Nat).getD k 0)) (am := (fun k => ([qm, um 0, um 1, um 2, um 3, um 4, um 5, um 6, um 7, um 8, um 9, um 10, um 11, um 12, um 13, um 14, um 15, um 16, um 17, um 18, um 19, um 20, um 21, um 22, um 23, um 24, um 25, um 26] : List Nat).getD k 0)) ⟨hx, hb, hml, hown, hL⟩ hX0 hbl hK hX (fun H locs ls hS => ?_) n 0 (u0 qr) w0 H locs ls hpure (hP.sub _ (map_fm hpl)) (hD.sub _ rfl hpl) hS (lv_sub hl [3, 2, 1, 0] rfl)
  refine lv_iconst (v := 1) hx hb dL_law_1138 (by decide) ?_
  refine va_forget (fun q hq => hS.2.2 q hq) ?_
  refine W.widen (k := 600000) (n := 7302250) (by omega) (by omega) ?_
  exact lw_ret hx hb hr hlocks dL_law_1139
