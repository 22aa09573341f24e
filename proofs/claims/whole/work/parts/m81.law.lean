/-! The law: a case of its switch each; its loop. -/
set_option maxHeartbeats 40000000 in
set_option maxRecDepth 100000 in
theorem kX8_sheet {p : Program} {l : Launch} {e : Env} {s : State} {m : MethodId} {av : Array Value} {below : List Frame} {meth : Method} {c : Code} {H : Heap} {locs : List Loc} {cells slots : Nat} {Q : State → Prop} {D : va_G} {A : Nat → Prop} {pc : Nat} {ls : Array Slot} {rest : List Value} {cyI cyJ cyB cyS : ClassId} {N : Nat} {ax am : Nat → Nat} {u w : UX} {x1 : Int32} {x2 : Int32} {x3 : Int32} {r : Int32 × UX} (hf : sX8_sheet N u x1 x2 x3 = some r) (F : CallFix p m c cL_law 4 s av wsL_law RL) (hK : KK D cyI cyJ cyB cyS s) (hP : va_P D vwCl (WX cyI cyJ cyB cyS ax u ++ WM cyI cyJ cyB cyS am w) H) (hD : va_D A (WX cyI cyJ cyB cyS ax u ++ WM cyI cyJ cyB cyS am w)) (hS : va_S A s.heap H locs) (hA : ∀ q, s.heap.size ≤ q → A q) (hls : ls.size = 4) (hro : 2 * (F0 m pc ls (.int x3 :: .int x2 :: .int x1 :: .ref (ax 0) :: rest)).monitorRoom + (rest.map fun v => v.category).sum ≤ 8) (hce : cells + 0 ≤ room_1.cells) (hsl : slots + 0 ≤ room_1.slots) (hdg : decode cL_law pc = .ok (.invokevirtual 119, 3))
    (kk : ∀ (H1 : Heap) (locs1 : List Loc), va_P D vwCl (WX cyI cyJ cyB cyS ax r.2 ++ WM cyI cyJ cyB cyS am w) H1 → va_D A (WX cyI cyJ cyB cyS ax r.2 ++ WM cyI cyJ cyB cyS am w) → va_S A s.heap H1 locs1 → W p l e room_1 s m av below meth c H1 locs1 cells slots Q (F0 m (pc + 3) ls (.int r.1 :: rest))) : W p l e room_1 s m av below meth c H locs cells slots Q (F0 m pc ls (.int x3 :: .int x2 :: .int x1 :: .ref (ax 0) :: rest)) := by
  unfold sX8_sheet at hf
  by_cases h1 : x1 = 1
  · exact kX8_sheet_s1 (pif_t h1 hf) F hK hP hD hS hA hls hro hce hsl hdg kk
  · have hf := pif_f h1 hf
    by_cases h2 : x1 = 2
    · exact kX8_sheet_s2 (pif_t h2 hf) F hK hP hD hS hA hls hro hce hsl hdg kk
    · have hf := pif_f h2 hf
      by_cases h3 : x1 = 3
      · exact kX8_sheet_s3 (pif_t h3 hf) F hK hP hD hS hA hls hro hce hsl hdg kk
      · exact kX8_sheet_s0 (pif_f h3 hf) F hK hP hD hS hA hls hro hce hsl hdg kk
set_option maxHeartbeats 40000000 in
set_option maxRecDepth 100000 in
theorem kX8_lay {p : Program} {l : Launch} {e : Env} {s : State} {m : MethodId} {av : Array Value} {below : List Frame} {meth : Method} {c : Code} {H : Heap} {locs : List Loc} {cells slots : Nat} {Q : State → Prop} {D : va_G} {A : Nat → Prop} {pc : Nat} {ls : Array Slot} {rest : List Value} {cyI cyJ cyB cyS : ClassId} {N : Nat} {ax am : Nat → Nat} {u w : UX} {x1 : Int32} {x2 : Int32} {x3 : Int32} {r : Int32 × UX} (hf : sX8_lay N u x1 x2 x3 = some r) (F : CallFix p m c cL_law 4 s av wsL_law RL) (hK : KK D cyI cyJ cyB cyS s) (hP : va_P D vwCl (WX cyI cyJ cyB cyS ax u ++ WM cyI cyJ cyB cyS am w) H) (hD : va_D A (WX cyI cyJ cyB cyS ax u ++ WM cyI cyJ cyB cyS am w)) (hS : va_S A s.heap H locs) (hA : ∀ q, s.heap.size ≤ q → A q) (hls : ls.size = 4) (hro : 2 * (F0 m pc ls (.int x3 :: .int x2 :: .int x1 :: .ref (ax 0) :: rest)).monitorRoom + (rest.map fun v => v.category).sum ≤ 8) (hce : cells + 0 ≤ room_1.cells) (hsl : slots + 0 ≤ room_1.slots) (hdg : decode cL_law pc = .ok (.invokevirtual 123, 3))
    (kk : ∀ (H1 : Heap) (locs1 : List Loc), va_P D vwCl (WX cyI cyJ cyB cyS ax r.2 ++ WM cyI cyJ cyB cyS am w) H1 → va_D A (WX cyI cyJ cyB cyS ax r.2 ++ WM cyI cyJ cyB cyS am w) → va_S A s.heap H1 locs1 → W p l e room_1 s m av below meth c H1 locs1 cells slots Q (F0 m (pc + 3) ls (.int r.1 :: rest))) : W p l e room_1 s m av below meth c H locs cells slots Q (F0 m pc ls (.int x3 :: .int x2 :: .int x1 :: .ref (ax 0) :: rest)) := by
  unfold sX8_lay at hf
  by_cases h1 : x1 = 1
  · exact kX8_lay_s1 (pif_t h1 hf) F hK hP hD hS hA hls hro hce hsl hdg kk
  · have hf := pif_f h1 hf
    by_cases h2 : x1 = 2
    · exact kX8_lay_s2 (pif_t h2 hf) F hK hP hD hS hA hls hro hce hsl hdg kk
    · have hf := pif_f h2 hf
      by_cases h3 : x1 = 3
      · exact kX8_lay_s3 (pif_t h3 hf) F hK hP hD hS hA hls hro hce hsl hdg kk
      · exact kX8_lay_s0 (pif_f h3 hf) F hK hP hD hS hA hls hro hce hsl hdg kk
set_option maxHeartbeats 40000000 in
set_option maxRecDepth 100000 in
theorem kX8_read {p : Program} {l : Launch} {e : Env} {s : State} {m : MethodId} {av : Array Value} {below : List Frame} {meth : Method} {c : Code} {H : Heap} {locs : List Loc} {cells slots : Nat} {Q : State → Prop} {D : va_G} {A : Nat → Prop} {pc : Nat} {ls : Array Slot} {rest : List Value} {cyI cyJ cyB cyS : ClassId} {N : Nat} {ax am : Nat → Nat} {u w : UX} {x1 : Int32} {x2 : Int32} {x3 : Int32} {x4 : Int32} {x5 : Int32} {r : Int32 × UX} (hf : sX8_read N u x1 x2 x3 x4 x5 = some r) (F : CallFix p m c cL_law 4 s av wsL_law RL) (hK : KK D cyI cyJ cyB cyS s) (hP : va_P D vwCl (WX cyI cyJ cyB cyS ax u ++ WM cyI cyJ cyB cyS am w) H) (hD : va_D A (WX cyI cyJ cyB cyS ax u ++ WM cyI cyJ cyB cyS am w)) (hS : va_S A s.heap H locs) (hA : ∀ q, s.heap.size ≤ q → A q) (hls : ls.size = 4) (hro : 2 * (F0 m pc ls (.int x5 :: .int x4 :: .int x3 :: .int x2 :: .int x1 :: .ref (ax 0) :: rest)).monitorRoom + (rest.map fun v => v.category).sum ≤ 8) (hce : cells + 0 ≤ room_1.cells) (hsl : slots + 0 ≤ room_1.slots) (hdg : decode cL_law pc = .ok (.invokevirtual 127, 3))
    (kk : ∀ (H1 : Heap) (locs1 : List Loc), va_P D vwCl (WX cyI cyJ cyB cyS ax r.2 ++ WM cyI cyJ cyB cyS am w) H1 → va_D A (WX cyI cyJ cyB cyS ax r.2 ++ WM cyI cyJ cyB cyS am w) → va_S A s.heap H1 locs1 → W p l e room_1 s m av below meth c H1 locs1 cells slots Q (F0 m (pc + 3) ls (.int r.1 :: rest))) : W p l e room_1 s m av below meth c H locs cells slots Q (F0 m pc ls (.int x5 :: .int x4 :: .int x3 :: .int x2 :: .int x1 :: .ref (ax 0) :: rest)) := by
  unfold sX8_read at hf
  by_cases h1 : x1 = 1
  · exact kX8_read_s1 (pif_t h1 hf) F hK hP hD hS hA hls hro hce hsl hdg kk
  · have hf := pif_f h1 hf
    by_cases h2 : x1 = 2
    · exact kX8_read_s2 (pif_t h2 hf) F hK hP hD hS hA hls hro hce hsl hdg kk
    · have hf := pif_f h2 hf
      by_cases h3 : x1 = 3
      · exact kX8_read_s3 (pif_t h3 hf) F hK hP hD hS hA hls hro hce hsl hdg kk
      · exact kX8_read_s0 (pif_f h3 hf) F hK hP hD hS hA hls hro hce hsl hdg kk
set_option maxHeartbeats 40000000 in
set_option maxRecDepth 100000 in
theorem law_c0 {p : Program} {l : Launch} {e : Env} {s : State} {m : MethodId} {below : List Frame} {meth : Method} {c : Code} {Q : State → Prop} {D : va_G} {cyI cyJ cyB cyS : ClassId} {b L : Nat} {xs : Nat → Int32} {ax am adK adV : Nat → Nat} {N : Nat} (F : CallFix p m c cL_law 4 s #[Value.ref b] wsL_law RL) (hX0 : va_X b L xs s s.heap) (hbl : b < s.heap.size) (hK : KK D cyI cyJ cyB cyS s) (hX : SX adK adV (fun q : Nat => s.heap.size ≤ q) s s.heap) (k : Int32 → UX → UX → Option Int32) (hk : ∀ (x3 : Int32) (u w : UX) (H : Heap) (locs : List Loc) (ls : Array Slot), k x3 u w = some 1 → va_P D vwCl (WX cyI cyJ cyB cyS ax u ++ WM cyI cyJ cyB cyS am w) H → va_D (fun q : Nat => s.heap.size ≤ q) (WX cyI cyJ cyB cyS ax u ++ WM cyI cyJ cyB cyS am w) → va_S (fun q : Nat => s.heap.size ≤ q) s.heap H locs → lv_has ls 4 [(0, .ref b), (1, .ref (ax 0)), (2, .ref (am 0)), (3, .int x3)] → W p l e room_1 s m #[Value.ref b] below meth c H locs 109 4449 Q (F0 m 18 ls [])) (x3 : Int32) (u w : UX) (H : Heap) (locs : List Loc) (ls : Array Slot) (hf : fL_c0 N L xs k x3 u w = some 1) (hP : va_P D vwCl (WX cyI cyJ cyB cyS ax u ++ WM cyI cyJ cyB cyS am w) H) (hD : va_D (fun q : Nat => s.heap.size ≤ q) (WX cyI cyJ cyB cyS ax u ++ WM cyI cyJ cyB cyS am w)) (hS : va_S (fun q : Nat => s.heap.size ≤ q) s.heap H locs) (hl : lv_has ls 4 [(0, .ref b), (1, .ref (ax 0)), (2, .ref (am 0)), (3, .int x3)]) : W p l e room_1 s m #[Value.ref b] below meth c H locs 109 4449 Q (F0 m 164 ls []) := by
  have hx := F.1
  have hb := F.2.1
  have hA : ∀ q : Nat, s.heap.size ≤ q → (fun q : Nat => s.heap.size ≤ q) q := fun _ h => h
  have hbA : ¬ (fun q : Nat => s.heap.size ≤ q) b := Nat.not_le.mpr hbl
  unfold fL_c0 at hf
  refine lv_aload_n hx hb dL_law_164 rfl (lv_at hl 1 rfl) ?_
  refine lv_aload_n hx hb dL_law_165 rfl (lv_at hl 0 rfl) ?_
  refine lv_iload_n hx hb dL_law_166 rfl (lv_at hl 3 rfl) ?_
  refine lv_iconst (v := 1) hx hb dL_law_167 (by decide) ?_
  refine lv_iadd hx hb dL_law_168 ?_
  obtain ⟨h169, hf⟩ := pg_some hf
  refine va_sld hx hb hX0 hbl hbA hS h169 dL_law_169 ?_
  refine lv_i2l hx hb dL_law_170 rfl ?_
  refine lv_bipush (v := 32) hx hb dL_law_171 (by decide) ?_
  refine lv_lshl hx hb dL_law_173 rfl ?_
  refine lv_aload_n hx hb dL_law_174 rfl (lv_at hl 0 rfl) ?_
  refine lv_iload_n hx hb dL_law_175 rfl (lv_at hl 3 rfl) ?_
  refine lv_iconst (v := 2) hx hb dL_law_176 (by decide) ?_
  refine lv_iadd hx hb dL_law_177 ?_
  obtain ⟨h178, hf⟩ := pg_some hf
  refine va_sld hx hb hX0 hbl hbA hS h178 dL_law_178 ?_
  refine lv_i2l hx hb dL_law_179 rfl ?_
  refine lv_ldc2 (v := 4294967295) hx hb F.2.2.2.1 (F.2.2.2.2 (.constantLong RL 13 4294967295) (hR1 6 rfl)) dL_law_180 ?_
  refine lv_land hx hb dL_law_183 ?_
  refine lv_lor hx hb dL_law_184 ?_
  obtain ⟨r185, e185, hf⟩ := pb_some hf
  refine kX8_feed e185 F hK hP hD hS hA hl.1 (lv_room (Nat.le_of_ble_eq_true rfl)) (Nat.le_of_ble_eq_true rfl) (Nat.le_of_ble_eq_true rfl) dL_law_185 (fun H locs hP hD hS => ?_)
  refine lv_aload_n hx hb dL_law_188 rfl (lv_at hl 2 rfl) ?_
  refine lv_aload_n hx hb dL_law_189 rfl (lv_at hl 0 rfl) ?_
  refine lv_iload_n hx hb dL_law_190 rfl (lv_at hl 3 rfl) ?_
  refine lv_iconst (v := 1) hx hb dL_law_191 (by decide) ?_
  refine lv_iadd hx hb dL_law_192 ?_
  obtain ⟨h193, hf⟩ := pg_some hf
  refine va_sld hx hb hX0 hbl hbA hS h193 dL_law_193 ?_
  refine lv_i2l hx hb dL_law_194 rfl ?_
  refine lv_bipush (v := 32) hx hb dL_law_195 (by decide) ?_
  refine lv_lshl hx hb dL_law_197 rfl ?_
  refine lv_aload_n hx hb dL_law_198 rfl (lv_at hl 0 rfl) ?_
  refine lv_iload_n hx hb dL_law_199 rfl (lv_at hl 3 rfl) ?_
  refine lv_iconst (v := 2) hx hb dL_law_200 (by decide) ?_
  refine lv_iadd hx hb dL_law_201 ?_
  obtain ⟨h202, hf⟩ := pg_some hf
  refine va_sld hx hb hX0 hbl hbA hS h202 dL_law_202 ?_
  refine lv_i2l hx hb dL_law_203 rfl ?_
  refine lv_ldc2 (v := 4294967295) hx hb F.2.2.2.1 (F.2.2.2.2 (.constantLong RL 13 4294967295) (hR1 6 rfl)) dL_law_204 ?_
  refine lv_land hx hb dL_law_207 ?_
  refine lv_lor hx hb dL_law_208 ?_
  obtain ⟨r209, e209, hf⟩ := pb_some hf
  refine kX9_feed e209 F hK hP hD hS hA hl.1 (lv_room (Nat.le_of_ble_eq_true rfl)) (Nat.le_of_ble_eq_true rfl) (Nat.le_of_ble_eq_true rfl) dL_law_209 (fun H locs hP hD hS => ?_)
  refine lv_icmp_eq (tgt := 1132) hx hb dL_law_212 (by decide) (fun c212 => ?_) (fun c212 => ?_)
  · have hf := pif_t c212 hf
    refine lv_iinc (v := x3 + 6) (lv' := [(3, .int (x3 + 6)), (0, .ref b), (1, .ref (ax 0)), (2, .ref (am 0))]) hx hb dL_law_1132 hl (k := 3) rfl rfl (by decide) rfl (fun ls hl => ?_)
    refine lv_goto (tgt := 18) hx hb dL_law_1135 (by decide) ?_
    exact hk (x3 + 6) r185.2 r209.2 _ _ ls hf hP hD hS (lv_sub hl [1, 2, 3, 0] rfl)
  · have hf := pif_f c212 hf
    refine lv_iconst (v := 0) hx hb dL_law_215 (by decide) ?_
    exact absurd (Option.some.inj hf) (by decide)
set_option maxHeartbeats 40000000 in
set_option maxRecDepth 100000 in
theorem law_c1 {p : Program} {l : Launch} {e : Env} {s : State} {m : MethodId} {below : List Frame} {meth : Method} {c : Code} {Q : State → Prop} {D : va_G} {cyI cyJ cyB cyS : ClassId} {b L : Nat} {xs : Nat → Int32} {ax am adK adV : Nat → Nat} {N : Nat} (F : CallFix p m c cL_law 4 s #[Value.ref b] wsL_law RL) (hX0 : va_X b L xs s s.heap) (hbl : b < s.heap.size) (hK : KK D cyI cyJ cyB cyS s) (hX : SX adK adV (fun q : Nat => s.heap.size ≤ q) s s.heap) (k : Int32 → UX → UX → Option Int32) (hk : ∀ (x3 : Int32) (u w : UX) (H : Heap) (locs : List Loc) (ls : Array Slot), k x3 u w = some 1 → va_P D vwCl (WX cyI cyJ cyB cyS ax u ++ WM cyI cyJ cyB cyS am w) H → va_D (fun q : Nat => s.heap.size ≤ q) (WX cyI cyJ cyB cyS ax u ++ WM cyI cyJ cyB cyS am w) → va_S (fun q : Nat => s.heap.size ≤ q) s.heap H locs → lv_has ls 4 [(0, .ref b), (1, .ref (ax 0)), (2, .ref (am 0)), (3, .int x3)] → W p l e room_1 s m #[Value.ref b] below meth c H locs 109 4449 Q (F0 m 18 ls [])) (x3 : Int32) (u w : UX) (H : Heap) (locs : List Loc) (ls : Array Slot) (hf : fL_c1 N L xs k x3 u w = some 1) (hP : va_P D vwCl (WX cyI cyJ cyB cyS ax u ++ WM cyI cyJ cyB cyS am w) H) (hD : va_D (fun q : Nat => s.heap.size ≤ q) (WX cyI cyJ cyB cyS ax u ++ WM cyI cyJ cyB cyS am w)) (hS : va_S (fun q : Nat => s.heap.size ≤ q) s.heap H locs) (hl : lv_has ls 4 [(0, .ref b), (1, .ref (ax 0)), (2, .ref (am 0)), (3, .int x3)]) : W p l e room_1 s m #[Value.ref b] below meth c H locs 109 4449 Q (F0 m 217 ls []) := by
  have hx := F.1
  have hb := F.2.1
  have hA : ∀ q : Nat, s.heap.size ≤ q → (fun q : Nat => s.heap.size ≤ q) q := fun _ h => h
  have hbA : ¬ (fun q : Nat => s.heap.size ≤ q) b := Nat.not_le.mpr hbl
  unfold fL_c1 at hf
  refine lv_aload_n hx hb dL_law_217 rfl (lv_at hl 1 rfl) ?_
  refine lv_aload_n hx hb dL_law_218 rfl (lv_at hl 0 rfl) ?_
  refine lv_iload_n hx hb dL_law_219 rfl (lv_at hl 3 rfl) ?_
  refine lv_iconst (v := 1) hx hb dL_law_220 (by decide) ?_
  refine lv_iadd hx hb dL_law_221 ?_
  obtain ⟨h222, hf⟩ := pg_some hf
  refine va_sld hx hb hX0 hbl hbA hS h222 dL_law_222 ?_
  obtain ⟨r223, e223, hf⟩ := pb_some hf
  refine kX8_end e223 F hK hP hD hS hA hl.1 (lv_room (Nat.le_of_ble_eq_true rfl)) (Nat.le_of_ble_eq_true rfl) (Nat.le_of_ble_eq_true rfl) dL_law_223 (fun H locs hP hD hS => ?_)
  refine lv_aload_n hx hb dL_law_226 rfl (lv_at hl 2 rfl) ?_
  refine lv_aload_n hx hb dL_law_227 rfl (lv_at hl 0 rfl) ?_
  refine lv_iload_n hx hb dL_law_228 rfl (lv_at hl 3 rfl) ?_
  refine lv_iconst (v := 1) hx hb dL_law_229 (by decide) ?_
  refine lv_iadd hx hb dL_law_230 ?_
  obtain ⟨h231, hf⟩ := pg_some hf
  refine va_sld hx hb hX0 hbl hbA hS h231 dL_law_231 ?_
  obtain ⟨r232, e232, hf⟩ := pb_some hf
  refine kX9_end e232 F hK hP hD hS hA hl.1 (lv_room (Nat.le_of_ble_eq_true rfl)) (Nat.le_of_ble_eq_true rfl) (Nat.le_of_ble_eq_true rfl) dL_law_232 (fun H locs hP hD hS => ?_)
  refine lv_icmp_eq (tgt := 1132) hx hb dL_law_235 (by decide) (fun c235 => ?_) (fun c235 => ?_)
  · have hf := pif_t c235 hf
    refine lv_iinc (v := x3 + 6) (lv' := [(3, .int (x3 + 6)), (0, .ref b), (1, .ref (ax 0)), (2, .ref (am 0))]) hx hb dL_law_1132 hl (k := 3) rfl rfl (by decide) rfl (fun ls hl => ?_)
    refine lv_goto (tgt := 18) hx hb dL_law_1135 (by decide) ?_
    exact hk (x3 + 6) r223.2 r232.2 _ _ ls hf hP hD hS (lv_sub hl [1, 2, 3, 0] rfl)
  · have hf := pif_f c235 hf
    refine lv_iconst (v := 0) hx hb dL_law_238 (by decide) ?_
    exact absurd (Option.some.inj hf) (by decide)
set_option maxHeartbeats 40000000 in
set_option maxRecDepth 100000 in
theorem law_c2 {p : Program} {l : Launch} {e : Env} {s : State} {m : MethodId} {below : List Frame} {meth : Method} {c : Code} {Q : State → Prop} {D : va_G} {cyI cyJ cyB cyS : ClassId} {b L : Nat} {xs : Nat → Int32} {ax am adK adV : Nat → Nat} {N : Nat} (F : CallFix p m c cL_law 4 s #[Value.ref b] wsL_law RL) (hX0 : va_X b L xs s s.heap) (hbl : b < s.heap.size) (hK : KK D cyI cyJ cyB cyS s) (hX : SX adK adV (fun q : Nat => s.heap.size ≤ q) s s.heap) (k : Int32 → UX → UX → Option Int32) (hk : ∀ (x3 : Int32) (u w : UX) (H : Heap) (locs : List Loc) (ls : Array Slot), k x3 u w = some 1 → va_P D vwCl (WX cyI cyJ cyB cyS ax u ++ WM cyI cyJ cyB cyS am w) H → va_D (fun q : Nat => s.heap.size ≤ q) (WX cyI cyJ cyB cyS ax u ++ WM cyI cyJ cyB cyS am w) → va_S (fun q : Nat => s.heap.size ≤ q) s.heap H locs → lv_has ls 4 [(0, .ref b), (1, .ref (ax 0)), (2, .ref (am 0)), (3, .int x3)] → W p l e room_1 s m #[Value.ref b] below meth c H locs 109 4449 Q (F0 m 18 ls [])) (x3 : Int32) (u w : UX) (H : Heap) (locs : List Loc) (ls : Array Slot) (hf : fL_c2 N L xs k x3 u w = some 1) (hP : va_P D vwCl (WX cyI cyJ cyB cyS ax u ++ WM cyI cyJ cyB cyS am w) H) (hD : va_D (fun q : Nat => s.heap.size ≤ q) (WX cyI cyJ cyB cyS ax u ++ WM cyI cyJ cyB cyS am w)) (hS : va_S (fun q : Nat => s.heap.size ≤ q) s.heap H locs) (hl : lv_has ls 4 [(0, .ref b), (1, .ref (ax 0)), (2, .ref (am 0)), (3, .int x3)]) : W p l e room_1 s m #[Value.ref b] below meth c H locs 109 4449 Q (F0 m 240 ls []) := by
  have hx := F.1
  have hb := F.2.1
  have hA : ∀ q : Nat, s.heap.size ≤ q → (fun q : Nat => s.heap.size ≤ q) q := fun _ h => h
  have hbA : ¬ (fun q : Nat => s.heap.size ≤ q) b := Nat.not_le.mpr hbl
  unfold fL_c2 at hf
  refine lv_aload_n hx hb dL_law_240 rfl (lv_at hl 1 rfl) ?_
  obtain ⟨r241, e241, hf⟩ := pb_some hf
  refine kX8_text hX e241 F hK hP hD hS hA hl.1 (lv_room (Nat.le_of_ble_eq_true rfl)) (Nat.le_of_ble_eq_true rfl) (Nat.le_of_ble_eq_true rfl) dL_law_241 (fun H locs hP hD hS => ?_)
  refine lv_aload_n hx hb dL_law_244 rfl (lv_at hl 2 rfl) ?_
  obtain ⟨r245, e245, hf⟩ := pb_some hf
  refine kX9_text e245 F hK hP hD hS hA hl.1 (lv_room (Nat.le_of_ble_eq_true rfl)) (Nat.le_of_ble_eq_true rfl) (Nat.le_of_ble_eq_true rfl) dL_law_245 (fun H locs hP hD hS => ?_)
  refine lv_icmp_eq (tgt := 1132) hx hb dL_law_248 (by decide) (fun c248 => ?_) (fun c248 => ?_)
  · have hf := pif_t c248 hf
    refine lv_iinc (v := x3 + 6) (lv' := [(3, .int (x3 + 6)), (0, .ref b), (1, .ref (ax 0)), (2, .ref (am 0))]) hx hb dL_law_1132 hl (k := 3) rfl rfl (by decide) rfl (fun ls hl => ?_)
    refine lv_goto (tgt := 18) hx hb dL_law_1135 (by decide) ?_
    exact hk (x3 + 6) r241.2 r245.2 _ _ ls hf hP hD hS (lv_sub hl [1, 2, 3, 0] rfl)
  · have hf := pif_f c248 hf
    refine lv_iconst (v := 0) hx hb dL_law_251 (by decide) ?_
    exact absurd (Option.some.inj hf) (by decide)
set_option maxHeartbeats 40000000 in
set_option maxRecDepth 100000 in
theorem law_c3 {p : Program} {l : Launch} {e : Env} {s : State} {m : MethodId} {below : List Frame} {meth : Method} {c : Code} {Q : State → Prop} {D : va_G} {cyI cyJ cyB cyS : ClassId} {b L : Nat} {xs : Nat → Int32} {ax am adK adV : Nat → Nat} {N : Nat} (F : CallFix p m c cL_law 4 s #[Value.ref b] wsL_law RL) (hX0 : va_X b L xs s s.heap) (hbl : b < s.heap.size) (hK : KK D cyI cyJ cyB cyS s) (hX : SX adK adV (fun q : Nat => s.heap.size ≤ q) s s.heap) (k : Int32 → UX → UX → Option Int32) (hk : ∀ (x3 : Int32) (u w : UX) (H : Heap) (locs : List Loc) (ls : Array Slot), k x3 u w = some 1 → va_P D vwCl (WX cyI cyJ cyB cyS ax u ++ WM cyI cyJ cyB cyS am w) H → va_D (fun q : Nat => s.heap.size ≤ q) (WX cyI cyJ cyB cyS ax u ++ WM cyI cyJ cyB cyS am w) → va_S (fun q : Nat => s.heap.size ≤ q) s.heap H locs → lv_has ls 4 [(0, .ref b), (1, .ref (ax 0)), (2, .ref (am 0)), (3, .int x3)] → W p l e room_1 s m #[Value.ref b] below meth c H locs 109 4449 Q (F0 m 18 ls [])) (x3 : Int32) (u w : UX) (H : Heap) (locs : List Loc) (ls : Array Slot) (hf : fL_c3 N L xs k x3 u w = some 1) (hP : va_P D vwCl (WX cyI cyJ cyB cyS ax u ++ WM cyI cyJ cyB cyS am w) H) (hD : va_D (fun q : Nat => s.heap.size ≤ q) (WX cyI cyJ cyB cyS ax u ++ WM cyI cyJ cyB cyS am w)) (hS : va_S (fun q : Nat => s.heap.size ≤ q) s.heap H locs) (hl : lv_has ls 4 [(0, .ref b), (1, .ref (ax 0)), (2, .ref (am 0)), (3, .int x3)]) : W p l e room_1 s m #[Value.ref b] below meth c H locs 109 4449 Q (F0 m 253 ls []) := by
  have hx := F.1
  have hb := F.2.1
  have hA : ∀ q : Nat, s.heap.size ≤ q → (fun q : Nat => s.heap.size ≤ q) q := fun _ h => h
  have hbA : ¬ (fun q : Nat => s.heap.size ≤ q) b := Nat.not_le.mpr hbl
  unfold fL_c3 at hf
  refine lv_aload_n hx hb dL_law_253 rfl (lv_at hl 1 rfl) ?_
  obtain ⟨r254, e254, hf⟩ := pb_some hf
  refine kX8_fault e254 F hK hP hD hS hA hl.1 (lv_room (Nat.le_of_ble_eq_true rfl)) (Nat.le_of_ble_eq_true rfl) (Nat.le_of_ble_eq_true rfl) dL_law_254 (fun H locs hP hD hS => ?_)
  refine lv_aload_n hx hb dL_law_257 rfl (lv_at hl 2 rfl) ?_
  obtain ⟨r258, e258, hf⟩ := pb_some hf
  refine kX9_fault e258 F hK hP hD hS hA hl.1 (lv_room (Nat.le_of_ble_eq_true rfl)) (Nat.le_of_ble_eq_true rfl) (Nat.le_of_ble_eq_true rfl) dL_law_258 (fun H locs hP hD hS => ?_)
  refine lv_icmp_eq (tgt := 1132) hx hb dL_law_261 (by decide) (fun c261 => ?_) (fun c261 => ?_)
  · have hf := pif_t c261 hf
    refine lv_iinc (v := x3 + 6) (lv' := [(3, .int (x3 + 6)), (0, .ref b), (1, .ref (ax 0)), (2, .ref (am 0))]) hx hb dL_law_1132 hl (k := 3) rfl rfl (by decide) rfl (fun ls hl => ?_)
    refine lv_goto (tgt := 18) hx hb dL_law_1135 (by decide) ?_
    exact hk (x3 + 6) r254.2 r258.2 _ _ ls hf hP hD hS (lv_sub hl [1, 2, 3, 0] rfl)
  · have hf := pif_f c261 hf
    refine lv_iconst (v := 0) hx hb dL_law_264 (by decide) ?_
    exact absurd (Option.some.inj hf) (by decide)
set_option maxHeartbeats 40000000 in
set_option maxRecDepth 100000 in
theorem law_c4 {p : Program} {l : Launch} {e : Env} {s : State} {m : MethodId} {below : List Frame} {meth : Method} {c : Code} {Q : State → Prop} {D : va_G} {cyI cyJ cyB cyS : ClassId} {b L : Nat} {xs : Nat → Int32} {ax am adK adV : Nat → Nat} {N : Nat} (F : CallFix p m c cL_law 4 s #[Value.ref b] wsL_law RL) (hX0 : va_X b L xs s s.heap) (hbl : b < s.heap.size) (hK : KK D cyI cyJ cyB cyS s) (hX : SX adK adV (fun q : Nat => s.heap.size ≤ q) s s.heap) (k : Int32 → UX → UX → Option Int32) (hk : ∀ (x3 : Int32) (u w : UX) (H : Heap) (locs : List Loc) (ls : Array Slot), k x3 u w = some 1 → va_P D vwCl (WX cyI cyJ cyB cyS ax u ++ WM cyI cyJ cyB cyS am w) H → va_D (fun q : Nat => s.heap.size ≤ q) (WX cyI cyJ cyB cyS ax u ++ WM cyI cyJ cyB cyS am w) → va_S (fun q : Nat => s.heap.size ≤ q) s.heap H locs → lv_has ls 4 [(0, .ref b), (1, .ref (ax 0)), (2, .ref (am 0)), (3, .int x3)] → W p l e room_1 s m #[Value.ref b] below meth c H locs 109 4449 Q (F0 m 18 ls [])) (x3 : Int32) (u w : UX) (H : Heap) (locs : List Loc) (ls : Array Slot) (hf : fL_c4 N L xs k x3 u w = some 1) (hP : va_P D vwCl (WX cyI cyJ cyB cyS ax u ++ WM cyI cyJ cyB cyS am w) H) (hD : va_D (fun q : Nat => s.heap.size ≤ q) (WX cyI cyJ cyB cyS ax u ++ WM cyI cyJ cyB cyS am w)) (hS : va_S (fun q : Nat => s.heap.size ≤ q) s.heap H locs) (hl : lv_has ls 4 [(0, .ref b), (1, .ref (ax 0)), (2, .ref (am 0)), (3, .int x3)]) : W p l e room_1 s m #[Value.ref b] below meth c H locs 109 4449 Q (F0 m 266 ls []) := by
  have hx := F.1
  have hb := F.2.1
  have hA : ∀ q : Nat, s.heap.size ≤ q → (fun q : Nat => s.heap.size ≤ q) q := fun _ h => h
  have hbA : ¬ (fun q : Nat => s.heap.size ≤ q) b := Nat.not_le.mpr hbl
  unfold fL_c4 at hf
  refine lv_aload_n hx hb dL_law_266 rfl (lv_at hl 1 rfl) ?_
  refine lv_aload_n hx hb dL_law_267 rfl (lv_at hl 0 rfl) ?_
  refine lv_iload_n hx hb dL_law_268 rfl (lv_at hl 3 rfl) ?_
  refine lv_iconst (v := 1) hx hb dL_law_269 (by decide) ?_
  refine lv_iadd hx hb dL_law_270 ?_
  obtain ⟨h271, hf⟩ := pg_some hf
  refine va_sld hx hb hX0 hbl hbA hS h271 dL_law_271 ?_
  obtain ⟨r272, e272, hf⟩ := pb_some hf
  refine kX8_rule e272 F hK hP hD hS hA hl.1 (lv_room (Nat.le_of_ble_eq_true rfl)) (Nat.le_of_ble_eq_true rfl) (Nat.le_of_ble_eq_true rfl) dL_law_272 (fun H locs hP hD hS => ?_)
  refine lv_aload_n hx hb dL_law_275 rfl (lv_at hl 2 rfl) ?_
  refine lv_aload_n hx hb dL_law_276 rfl (lv_at hl 0 rfl) ?_
  refine lv_iload_n hx hb dL_law_277 rfl (lv_at hl 3 rfl) ?_
  refine lv_iconst (v := 1) hx hb dL_law_278 (by decide) ?_
  refine lv_iadd hx hb dL_law_279 ?_
  obtain ⟨h280, hf⟩ := pg_some hf
  refine va_sld hx hb hX0 hbl hbA hS h280 dL_law_280 ?_
  obtain ⟨r281, e281, hf⟩ := pb_some hf
  refine kX9_rule e281 F hK hP hD hS hA hl.1 (lv_room (Nat.le_of_ble_eq_true rfl)) (Nat.le_of_ble_eq_true rfl) (Nat.le_of_ble_eq_true rfl) dL_law_281 (fun H locs hP hD hS => ?_)
  refine lv_icmp_eq (tgt := 1132) hx hb dL_law_284 (by decide) (fun c284 => ?_) (fun c284 => ?_)
  · have hf := pif_t c284 hf
    refine lv_iinc (v := x3 + 6) (lv' := [(3, .int (x3 + 6)), (0, .ref b), (1, .ref (ax 0)), (2, .ref (am 0))]) hx hb dL_law_1132 hl (k := 3) rfl rfl (by decide) rfl (fun ls hl => ?_)
    refine lv_goto (tgt := 18) hx hb dL_law_1135 (by decide) ?_
    exact hk (x3 + 6) r272.2 r281.2 _ _ ls hf hP hD hS (lv_sub hl [1, 2, 3, 0] rfl)
  · have hf := pif_f c284 hf
    refine lv_iconst (v := 0) hx hb dL_law_287 (by decide) ?_
    exact absurd (Option.some.inj hf) (by decide)
set_option maxHeartbeats 40000000 in
set_option maxRecDepth 100000 in
theorem law_c5 {p : Program} {l : Launch} {e : Env} {s : State} {m : MethodId} {below : List Frame} {meth : Method} {c : Code} {Q : State → Prop} {D : va_G} {cyI cyJ cyB cyS : ClassId} {b L : Nat} {xs : Nat → Int32} {ax am adK adV : Nat → Nat} {N : Nat} (F : CallFix p m c cL_law 4 s #[Value.ref b] wsL_law RL) (hX0 : va_X b L xs s s.heap) (hbl : b < s.heap.size) (hK : KK D cyI cyJ cyB cyS s) (hX : SX adK adV (fun q : Nat => s.heap.size ≤ q) s s.heap) (k : Int32 → UX → UX → Option Int32) (hk : ∀ (x3 : Int32) (u w : UX) (H : Heap) (locs : List Loc) (ls : Array Slot), k x3 u w = some 1 → va_P D vwCl (WX cyI cyJ cyB cyS ax u ++ WM cyI cyJ cyB cyS am w) H → va_D (fun q : Nat => s.heap.size ≤ q) (WX cyI cyJ cyB cyS ax u ++ WM cyI cyJ cyB cyS am w) → va_S (fun q : Nat => s.heap.size ≤ q) s.heap H locs → lv_has ls 4 [(0, .ref b), (1, .ref (ax 0)), (2, .ref (am 0)), (3, .int x3)] → W p l e room_1 s m #[Value.ref b] below meth c H locs 109 4449 Q (F0 m 18 ls [])) (x3 : Int32) (u w : UX) (H : Heap) (locs : List Loc) (ls : Array Slot) (hf : fL_c5 N L xs k x3 u w = some 1) (hP : va_P D vwCl (WX cyI cyJ cyB cyS ax u ++ WM cyI cyJ cyB cyS am w) H) (hD : va_D (fun q : Nat => s.heap.size ≤ q) (WX cyI cyJ cyB cyS ax u ++ WM cyI cyJ cyB cyS am w)) (hS : va_S (fun q : Nat => s.heap.size ≤ q) s.heap H locs) (hl : lv_has ls 4 [(0, .ref b), (1, .ref (ax 0)), (2, .ref (am 0)), (3, .int x3)]) : W p l e room_1 s m #[Value.ref b] below meth c H locs 109 4449 Q (F0 m 289 ls []) := by
  have hx := F.1
  have hb := F.2.1
  have hA : ∀ q : Nat, s.heap.size ≤ q → (fun q : Nat => s.heap.size ≤ q) q := fun _ h => h
  have hbA : ¬ (fun q : Nat => s.heap.size ≤ q) b := Nat.not_le.mpr hbl
  unfold fL_c5 at hf
  refine lv_aload_n hx hb dL_law_289 rfl (lv_at hl 1 rfl) ?_
  refine lv_aload_n hx hb dL_law_290 rfl (lv_at hl 0 rfl) ?_
  refine lv_iload_n hx hb dL_law_291 rfl (lv_at hl 3 rfl) ?_
  refine lv_iconst (v := 1) hx hb dL_law_292 (by decide) ?_
  refine lv_iadd hx hb dL_law_293 ?_
  obtain ⟨h294, hf⟩ := pg_some hf
  refine va_sld hx hb hX0 hbl hbA hS h294 dL_law_294 ?_
  refine lv_aload_n hx hb dL_law_295 rfl (lv_at hl 0 rfl) ?_
  refine lv_iload_n hx hb dL_law_296 rfl (lv_at hl 3 rfl) ?_
  refine lv_iconst (v := 2) hx hb dL_law_297 (by decide) ?_
  refine lv_iadd hx hb dL_law_298 ?_
  obtain ⟨h299, hf⟩ := pg_some hf
  refine va_sld hx hb hX0 hbl hbA hS h299 dL_law_299 ?_
  obtain ⟨r300, e300, hf⟩ := pb_some hf
  refine kX8_game e300 F hK hP hD hS hA hl.1 (lv_room (Nat.le_of_ble_eq_true rfl)) (Nat.le_of_ble_eq_true rfl) (Nat.le_of_ble_eq_true rfl) dL_law_300 (fun H locs hP hD hS => ?_)
  refine lv_aload_n hx hb dL_law_303 rfl (lv_at hl 2 rfl) ?_
  refine lv_aload_n hx hb dL_law_304 rfl (lv_at hl 0 rfl) ?_
  refine lv_iload_n hx hb dL_law_305 rfl (lv_at hl 3 rfl) ?_
  refine lv_iconst (v := 1) hx hb dL_law_306 (by decide) ?_
  refine lv_iadd hx hb dL_law_307 ?_
  obtain ⟨h308, hf⟩ := pg_some hf
  refine va_sld hx hb hX0 hbl hbA hS h308 dL_law_308 ?_
  refine lv_aload_n hx hb dL_law_309 rfl (lv_at hl 0 rfl) ?_
  refine lv_iload_n hx hb dL_law_310 rfl (lv_at hl 3 rfl) ?_
  refine lv_iconst (v := 2) hx hb dL_law_311 (by decide) ?_
  refine lv_iadd hx hb dL_law_312 ?_
  obtain ⟨h313, hf⟩ := pg_some hf
  refine va_sld hx hb hX0 hbl hbA hS h313 dL_law_313 ?_
  obtain ⟨r314, e314, hf⟩ := pb_some hf
  refine kX9_game e314 F hK hP hD hS hA hl.1 (lv_room (Nat.le_of_ble_eq_true rfl)) (Nat.le_of_ble_eq_true rfl) (Nat.le_of_ble_eq_true rfl) dL_law_314 (fun H locs hP hD hS => ?_)
  refine lv_icmp_eq (tgt := 1132) hx hb dL_law_317 (by decide) (fun c317 => ?_) (fun c317 => ?_)
  · have hf := pif_t c317 hf
    refine lv_iinc (v := x3 + 6) (lv' := [(3, .int (x3 + 6)), (0, .ref b), (1, .ref (ax 0)), (2, .ref (am 0))]) hx hb dL_law_1132 hl (k := 3) rfl rfl (by decide) rfl (fun ls hl => ?_)
    refine lv_goto (tgt := 18) hx hb dL_law_1135 (by decide) ?_
    exact hk (x3 + 6) r300.2 r314.2 _ _ ls hf hP hD hS (lv_sub hl [1, 2, 3, 0] rfl)
  · have hf := pif_f c317 hf
    refine lv_iconst (v := 0) hx hb dL_law_320 (by decide) ?_
    exact absurd (Option.some.inj hf) (by decide)
set_option maxHeartbeats 40000000 in
set_option maxRecDepth 100000 in
theorem law_c6 {p : Program} {l : Launch} {e : Env} {s : State} {m : MethodId} {below : List Frame} {meth : Method} {c : Code} {Q : State → Prop} {D : va_G} {cyI cyJ cyB cyS : ClassId} {b L : Nat} {xs : Nat → Int32} {ax am adK adV : Nat → Nat} {N : Nat} (F : CallFix p m c cL_law 4 s #[Value.ref b] wsL_law RL) (hX0 : va_X b L xs s s.heap) (hbl : b < s.heap.size) (hK : KK D cyI cyJ cyB cyS s) (hX : SX adK adV (fun q : Nat => s.heap.size ≤ q) s s.heap) (k : Int32 → UX → UX → Option Int32) (hk : ∀ (x3 : Int32) (u w : UX) (H : Heap) (locs : List Loc) (ls : Array Slot), k x3 u w = some 1 → va_P D vwCl (WX cyI cyJ cyB cyS ax u ++ WM cyI cyJ cyB cyS am w) H → va_D (fun q : Nat => s.heap.size ≤ q) (WX cyI cyJ cyB cyS ax u ++ WM cyI cyJ cyB cyS am w) → va_S (fun q : Nat => s.heap.size ≤ q) s.heap H locs → lv_has ls 4 [(0, .ref b), (1, .ref (ax 0)), (2, .ref (am 0)), (3, .int x3)] → W p l e room_1 s m #[Value.ref b] below meth c H locs 109 4449 Q (F0 m 18 ls [])) (x3 : Int32) (u w : UX) (H : Heap) (locs : List Loc) (ls : Array Slot) (hf : fL_c6 N L xs k x3 u w = some 1) (hP : va_P D vwCl (WX cyI cyJ cyB cyS ax u ++ WM cyI cyJ cyB cyS am w) H) (hD : va_D (fun q : Nat => s.heap.size ≤ q) (WX cyI cyJ cyB cyS ax u ++ WM cyI cyJ cyB cyS am w)) (hS : va_S (fun q : Nat => s.heap.size ≤ q) s.heap H locs) (hl : lv_has ls 4 [(0, .ref b), (1, .ref (ax 0)), (2, .ref (am 0)), (3, .int x3)]) : W p l e room_1 s m #[Value.ref b] below meth c H locs 109 4449 Q (F0 m 322 ls []) := by
  have hx := F.1
  have hb := F.2.1
  have hA : ∀ q : Nat, s.heap.size ≤ q → (fun q : Nat => s.heap.size ≤ q) q := fun _ h => h
  have hbA : ¬ (fun q : Nat => s.heap.size ≤ q) b := Nat.not_le.mpr hbl
  unfold fL_c6 at hf
  refine lv_aload_n hx hb dL_law_322 rfl (lv_at hl 1 rfl) ?_
  refine lv_aload_n hx hb dL_law_323 rfl (lv_at hl 0 rfl) ?_
  refine lv_iload_n hx hb dL_law_324 rfl (lv_at hl 3 rfl) ?_
  refine lv_iconst (v := 1) hx hb dL_law_325 (by decide) ?_
  refine lv_iadd hx hb dL_law_326 ?_
  obtain ⟨h327, hf⟩ := pg_some hf
  refine va_sld hx hb hX0 hbl hbA hS h327 dL_law_327 ?_
  refine lv_aload_n hx hb dL_law_328 rfl (lv_at hl 0 rfl) ?_
  refine lv_iload_n hx hb dL_law_329 rfl (lv_at hl 3 rfl) ?_
  refine lv_iconst (v := 2) hx hb dL_law_330 (by decide) ?_
  refine lv_iadd hx hb dL_law_331 ?_
  obtain ⟨h332, hf⟩ := pg_some hf
  refine va_sld hx hb hX0 hbl hbA hS h332 dL_law_332 ?_
  obtain ⟨r333, e333, hf⟩ := pb_some hf
  refine kX8_of e333 F hK hP hD hS hA hl.1 (lv_room (Nat.le_of_ble_eq_true rfl)) (Nat.le_of_ble_eq_true rfl) (Nat.le_of_ble_eq_true rfl) dL_law_333 (fun H locs hP hD hS => ?_)
  refine lv_aload_n hx hb dL_law_336 rfl (lv_at hl 2 rfl) ?_
  refine lv_aload_n hx hb dL_law_337 rfl (lv_at hl 0 rfl) ?_
  refine lv_iload_n hx hb dL_law_338 rfl (lv_at hl 3 rfl) ?_
  refine lv_iconst (v := 1) hx hb dL_law_339 (by decide) ?_
  refine lv_iadd hx hb dL_law_340 ?_
  obtain ⟨h341, hf⟩ := pg_some hf
  refine va_sld hx hb hX0 hbl hbA hS h341 dL_law_341 ?_
  refine lv_aload_n hx hb dL_law_342 rfl (lv_at hl 0 rfl) ?_
  refine lv_iload_n hx hb dL_law_343 rfl (lv_at hl 3 rfl) ?_
  refine lv_iconst (v := 2) hx hb dL_law_344 (by decide) ?_
  refine lv_iadd hx hb dL_law_345 ?_
  obtain ⟨h346, hf⟩ := pg_some hf
  refine va_sld hx hb hX0 hbl hbA hS h346 dL_law_346 ?_
  obtain ⟨r347, e347, hf⟩ := pb_some hf
  refine kX9_of e347 F hK hP hD hS hA hl.1 (lv_room (Nat.le_of_ble_eq_true rfl)) (Nat.le_of_ble_eq_true rfl) (Nat.le_of_ble_eq_true rfl) dL_law_347 (fun H locs hP hD hS => ?_)
  refine lv_icmp_eq (tgt := 1132) hx hb dL_law_350 (by decide) (fun c350 => ?_) (fun c350 => ?_)
  · have hf := pif_t c350 hf
    refine lv_iinc (v := x3 + 6) (lv' := [(3, .int (x3 + 6)), (0, .ref b), (1, .ref (ax 0)), (2, .ref (am 0))]) hx hb dL_law_1132 hl (k := 3) rfl rfl (by decide) rfl (fun ls hl => ?_)
    refine lv_goto (tgt := 18) hx hb dL_law_1135 (by decide) ?_
    exact hk (x3 + 6) r333.2 r347.2 _ _ ls hf hP hD hS (lv_sub hl [1, 2, 3, 0] rfl)
  · have hf := pif_f c350 hf
    refine lv_iconst (v := 0) hx hb dL_law_353 (by decide) ?_
    exact absurd (Option.some.inj hf) (by decide)
set_option maxHeartbeats 40000000 in
set_option maxRecDepth 100000 in
theorem law_c7 {p : Program} {l : Launch} {e : Env} {s : State} {m : MethodId} {below : List Frame} {meth : Method} {c : Code} {Q : State → Prop} {D : va_G} {cyI cyJ cyB cyS : ClassId} {b L : Nat} {xs : Nat → Int32} {ax am adK adV : Nat → Nat} {N : Nat} (F : CallFix p m c cL_law 4 s #[Value.ref b] wsL_law RL) (hX0 : va_X b L xs s s.heap) (hbl : b < s.heap.size) (hK : KK D cyI cyJ cyB cyS s) (hX : SX adK adV (fun q : Nat => s.heap.size ≤ q) s s.heap) (k : Int32 → UX → UX → Option Int32) (hk : ∀ (x3 : Int32) (u w : UX) (H : Heap) (locs : List Loc) (ls : Array Slot), k x3 u w = some 1 → va_P D vwCl (WX cyI cyJ cyB cyS ax u ++ WM cyI cyJ cyB cyS am w) H → va_D (fun q : Nat => s.heap.size ≤ q) (WX cyI cyJ cyB cyS ax u ++ WM cyI cyJ cyB cyS am w) → va_S (fun q : Nat => s.heap.size ≤ q) s.heap H locs → lv_has ls 4 [(0, .ref b), (1, .ref (ax 0)), (2, .ref (am 0)), (3, .int x3)] → W p l e room_1 s m #[Value.ref b] below meth c H locs 109 4449 Q (F0 m 18 ls [])) (x3 : Int32) (u w : UX) (H : Heap) (locs : List Loc) (ls : Array Slot) (hf : fL_c7 N L xs k x3 u w = some 1) (hP : va_P D vwCl (WX cyI cyJ cyB cyS ax u ++ WM cyI cyJ cyB cyS am w) H) (hD : va_D (fun q : Nat => s.heap.size ≤ q) (WX cyI cyJ cyB cyS ax u ++ WM cyI cyJ cyB cyS am w)) (hS : va_S (fun q : Nat => s.heap.size ≤ q) s.heap H locs) (hl : lv_has ls 4 [(0, .ref b), (1, .ref (ax 0)), (2, .ref (am 0)), (3, .int x3)]) : W p l e room_1 s m #[Value.ref b] below meth c H locs 109 4449 Q (F0 m 355 ls []) := by
  have hx := F.1
  have hb := F.2.1
  have hA : ∀ q : Nat, s.heap.size ≤ q → (fun q : Nat => s.heap.size ≤ q) q := fun _ h => h
  have hbA : ¬ (fun q : Nat => s.heap.size ≤ q) b := Nat.not_le.mpr hbl
  unfold fL_c7 at hf
  refine lv_aload_n hx hb dL_law_355 rfl (lv_at hl 1 rfl) ?_
  refine lv_aload_n hx hb dL_law_356 rfl (lv_at hl 0 rfl) ?_
  refine lv_iload_n hx hb dL_law_357 rfl (lv_at hl 3 rfl) ?_
  refine lv_iconst (v := 1) hx hb dL_law_358 (by decide) ?_
  refine lv_iadd hx hb dL_law_359 ?_
  obtain ⟨h360, hf⟩ := pg_some hf
  refine va_sld hx hb hX0 hbl hbA hS h360 dL_law_360 ?_
  refine lv_aload_n hx hb dL_law_361 rfl (lv_at hl 0 rfl) ?_
  refine lv_iload_n hx hb dL_law_362 rfl (lv_at hl 3 rfl) ?_
  refine lv_iconst (v := 2) hx hb dL_law_363 (by decide) ?_
  refine lv_iadd hx hb dL_law_364 ?_
  obtain ⟨h365, hf⟩ := pg_some hf
  refine va_sld hx hb hX0 hbl hbA hS h365 dL_law_365 ?_
  obtain ⟨r366, e366, hf⟩ := pb_some hf
  refine kX8_ends e366 F hK hP hD hS hA hl.1 (lv_room (Nat.le_of_ble_eq_true rfl)) (Nat.le_of_ble_eq_true rfl) (Nat.le_of_ble_eq_true rfl) dL_law_366 (fun H locs hP hD hS => ?_)
  refine lv_aload_n hx hb dL_law_369 rfl (lv_at hl 2 rfl) ?_
  refine lv_aload_n hx hb dL_law_370 rfl (lv_at hl 0 rfl) ?_
  refine lv_iload_n hx hb dL_law_371 rfl (lv_at hl 3 rfl) ?_
  refine lv_iconst (v := 1) hx hb dL_law_372 (by decide) ?_
  refine lv_iadd hx hb dL_law_373 ?_
  obtain ⟨h374, hf⟩ := pg_some hf
  refine va_sld hx hb hX0 hbl hbA hS h374 dL_law_374 ?_
  refine lv_aload_n hx hb dL_law_375 rfl (lv_at hl 0 rfl) ?_
  refine lv_iload_n hx hb dL_law_376 rfl (lv_at hl 3 rfl) ?_
  refine lv_iconst (v := 2) hx hb dL_law_377 (by decide) ?_
  refine lv_iadd hx hb dL_law_378 ?_
  obtain ⟨h379, hf⟩ := pg_some hf
  refine va_sld hx hb hX0 hbl hbA hS h379 dL_law_379 ?_
  obtain ⟨r380, e380, hf⟩ := pb_some hf
  refine kX9_ends e380 F hK hP hD hS hA hl.1 (lv_room (Nat.le_of_ble_eq_true rfl)) (Nat.le_of_ble_eq_true rfl) (Nat.le_of_ble_eq_true rfl) dL_law_380 (fun H locs hP hD hS => ?_)
  refine lv_icmp_eq (tgt := 1132) hx hb dL_law_383 (by decide) (fun c383 => ?_) (fun c383 => ?_)
  · have hf := pif_t c383 hf
    refine lv_iinc (v := x3 + 6) (lv' := [(3, .int (x3 + 6)), (0, .ref b), (1, .ref (ax 0)), (2, .ref (am 0))]) hx hb dL_law_1132 hl (k := 3) rfl rfl (by decide) rfl (fun ls hl => ?_)
    refine lv_goto (tgt := 18) hx hb dL_law_1135 (by decide) ?_
    exact hk (x3 + 6) r366.2 r380.2 _ _ ls hf hP hD hS (lv_sub hl [1, 2, 3, 0] rfl)
  · have hf := pif_f c383 hf
    refine lv_iconst (v := 0) hx hb dL_law_386 (by decide) ?_
    exact absurd (Option.some.inj hf) (by decide)
set_option maxHeartbeats 40000000 in
set_option maxRecDepth 100000 in
theorem law_c8 {p : Program} {l : Launch} {e : Env} {s : State} {m : MethodId} {below : List Frame} {meth : Method} {c : Code} {Q : State → Prop} {D : va_G} {cyI cyJ cyB cyS : ClassId} {b L : Nat} {xs : Nat → Int32} {ax am adK adV : Nat → Nat} {N : Nat} (F : CallFix p m c cL_law 4 s #[Value.ref b] wsL_law RL) (hX0 : va_X b L xs s s.heap) (hbl : b < s.heap.size) (hK : KK D cyI cyJ cyB cyS s) (hX : SX adK adV (fun q : Nat => s.heap.size ≤ q) s s.heap) (k : Int32 → UX → UX → Option Int32) (hk : ∀ (x3 : Int32) (u w : UX) (H : Heap) (locs : List Loc) (ls : Array Slot), k x3 u w = some 1 → va_P D vwCl (WX cyI cyJ cyB cyS ax u ++ WM cyI cyJ cyB cyS am w) H → va_D (fun q : Nat => s.heap.size ≤ q) (WX cyI cyJ cyB cyS ax u ++ WM cyI cyJ cyB cyS am w) → va_S (fun q : Nat => s.heap.size ≤ q) s.heap H locs → lv_has ls 4 [(0, .ref b), (1, .ref (ax 0)), (2, .ref (am 0)), (3, .int x3)] → W p l e room_1 s m #[Value.ref b] below meth c H locs 109 4449 Q (F0 m 18 ls [])) (x3 : Int32) (u w : UX) (H : Heap) (locs : List Loc) (ls : Array Slot) (hf : fL_c8 N L xs k x3 u w = some 1) (hP : va_P D vwCl (WX cyI cyJ cyB cyS ax u ++ WM cyI cyJ cyB cyS am w) H) (hD : va_D (fun q : Nat => s.heap.size ≤ q) (WX cyI cyJ cyB cyS ax u ++ WM cyI cyJ cyB cyS am w)) (hS : va_S (fun q : Nat => s.heap.size ≤ q) s.heap H locs) (hl : lv_has ls 4 [(0, .ref b), (1, .ref (ax 0)), (2, .ref (am 0)), (3, .int x3)]) : W p l e room_1 s m #[Value.ref b] below meth c H locs 109 4449 Q (F0 m 388 ls []) := by
  have hx := F.1
  have hb := F.2.1
  have hA : ∀ q : Nat, s.heap.size ≤ q → (fun q : Nat => s.heap.size ≤ q) q := fun _ h => h
  have hbA : ¬ (fun q : Nat => s.heap.size ≤ q) b := Nat.not_le.mpr hbl
  unfold fL_c8 at hf
  refine lv_aload_n hx hb dL_law_388 rfl (lv_at hl 1 rfl) ?_
  refine lv_aload_n hx hb dL_law_389 rfl (lv_at hl 0 rfl) ?_
  refine lv_iload_n hx hb dL_law_390 rfl (lv_at hl 3 rfl) ?_
  refine lv_iconst (v := 1) hx hb dL_law_391 (by decide) ?_
  refine lv_iadd hx hb dL_law_392 ?_
  obtain ⟨h393, hf⟩ := pg_some hf
  refine va_sld hx hb hX0 hbl hbA hS h393 dL_law_393 ?_
  refine lv_aload_n hx hb dL_law_394 rfl (lv_at hl 0 rfl) ?_
  refine lv_iload_n hx hb dL_law_395 rfl (lv_at hl 3 rfl) ?_
  refine lv_iconst (v := 2) hx hb dL_law_396 (by decide) ?_
  refine lv_iadd hx hb dL_law_397 ?_
  obtain ⟨h398, hf⟩ := pg_some hf
  refine va_sld hx hb hX0 hbl hbA hS h398 dL_law_398 ?_
  obtain ⟨r399, e399, hf⟩ := pb_some hf
  refine kX8_table e399 F hK hP hD hS hA hl.1 (lv_room (Nat.le_of_ble_eq_true rfl)) (Nat.le_of_ble_eq_true rfl) (Nat.le_of_ble_eq_true rfl) dL_law_399 (fun H locs hP hD hS => ?_)
  refine lv_aload_n hx hb dL_law_402 rfl (lv_at hl 2 rfl) ?_
  refine lv_aload_n hx hb dL_law_403 rfl (lv_at hl 0 rfl) ?_
  refine lv_iload_n hx hb dL_law_404 rfl (lv_at hl 3 rfl) ?_
  refine lv_iconst (v := 1) hx hb dL_law_405 (by decide) ?_
  refine lv_iadd hx hb dL_law_406 ?_
  obtain ⟨h407, hf⟩ := pg_some hf
  refine va_sld hx hb hX0 hbl hbA hS h407 dL_law_407 ?_
  refine lv_aload_n hx hb dL_law_408 rfl (lv_at hl 0 rfl) ?_
  refine lv_iload_n hx hb dL_law_409 rfl (lv_at hl 3 rfl) ?_
  refine lv_iconst (v := 2) hx hb dL_law_410 (by decide) ?_
  refine lv_iadd hx hb dL_law_411 ?_
  obtain ⟨h412, hf⟩ := pg_some hf
  refine va_sld hx hb hX0 hbl hbA hS h412 dL_law_412 ?_
  obtain ⟨r413, e413, hf⟩ := pb_some hf
  refine kX9_table e413 F hK hP hD hS hA hl.1 (lv_room (Nat.le_of_ble_eq_true rfl)) (Nat.le_of_ble_eq_true rfl) (Nat.le_of_ble_eq_true rfl) dL_law_413 (fun H locs hP hD hS => ?_)
  refine lv_icmp_eq (tgt := 1132) hx hb dL_law_416 (by decide) (fun c416 => ?_) (fun c416 => ?_)
  · have hf := pif_t c416 hf
    refine lv_iinc (v := x3 + 6) (lv' := [(3, .int (x3 + 6)), (0, .ref b), (1, .ref (ax 0)), (2, .ref (am 0))]) hx hb dL_law_1132 hl (k := 3) rfl rfl (by decide) rfl (fun ls hl => ?_)
    refine lv_goto (tgt := 18) hx hb dL_law_1135 (by decide) ?_
    exact hk (x3 + 6) r399.2 r413.2 _ _ ls hf hP hD hS (lv_sub hl [1, 2, 3, 0] rfl)
  · have hf := pif_f c416 hf
    refine lv_iconst (v := 0) hx hb dL_law_419 (by decide) ?_
    exact absurd (Option.some.inj hf) (by decide)
set_option maxHeartbeats 40000000 in
set_option maxRecDepth 100000 in
theorem law_c9 {p : Program} {l : Launch} {e : Env} {s : State} {m : MethodId} {below : List Frame} {meth : Method} {c : Code} {Q : State → Prop} {D : va_G} {cyI cyJ cyB cyS : ClassId} {b L : Nat} {xs : Nat → Int32} {ax am adK adV : Nat → Nat} {N : Nat} (F : CallFix p m c cL_law 4 s #[Value.ref b] wsL_law RL) (hX0 : va_X b L xs s s.heap) (hbl : b < s.heap.size) (hK : KK D cyI cyJ cyB cyS s) (hX : SX adK adV (fun q : Nat => s.heap.size ≤ q) s s.heap) (k : Int32 → UX → UX → Option Int32) (hk : ∀ (x3 : Int32) (u w : UX) (H : Heap) (locs : List Loc) (ls : Array Slot), k x3 u w = some 1 → va_P D vwCl (WX cyI cyJ cyB cyS ax u ++ WM cyI cyJ cyB cyS am w) H → va_D (fun q : Nat => s.heap.size ≤ q) (WX cyI cyJ cyB cyS ax u ++ WM cyI cyJ cyB cyS am w) → va_S (fun q : Nat => s.heap.size ≤ q) s.heap H locs → lv_has ls 4 [(0, .ref b), (1, .ref (ax 0)), (2, .ref (am 0)), (3, .int x3)] → W p l e room_1 s m #[Value.ref b] below meth c H locs 109 4449 Q (F0 m 18 ls [])) (x3 : Int32) (u w : UX) (H : Heap) (locs : List Loc) (ls : Array Slot) (hf : fL_c9 N L xs k x3 u w = some 1) (hP : va_P D vwCl (WX cyI cyJ cyB cyS ax u ++ WM cyI cyJ cyB cyS am w) H) (hD : va_D (fun q : Nat => s.heap.size ≤ q) (WX cyI cyJ cyB cyS ax u ++ WM cyI cyJ cyB cyS am w)) (hS : va_S (fun q : Nat => s.heap.size ≤ q) s.heap H locs) (hl : lv_has ls 4 [(0, .ref b), (1, .ref (ax 0)), (2, .ref (am 0)), (3, .int x3)]) : W p l e room_1 s m #[Value.ref b] below meth c H locs 109 4449 Q (F0 m 421 ls []) := by
  have hx := F.1
  have hb := F.2.1
  have hA : ∀ q : Nat, s.heap.size ≤ q → (fun q : Nat => s.heap.size ≤ q) q := fun _ h => h
  have hbA : ¬ (fun q : Nat => s.heap.size ≤ q) b := Nat.not_le.mpr hbl
  unfold fL_c9 at hf
  refine lv_aload_n hx hb dL_law_421 rfl (lv_at hl 1 rfl) ?_
  refine lv_aload_n hx hb dL_law_422 rfl (lv_at hl 0 rfl) ?_
  refine lv_iload_n hx hb dL_law_423 rfl (lv_at hl 3 rfl) ?_
  refine lv_iconst (v := 1) hx hb dL_law_424 (by decide) ?_
  refine lv_iadd hx hb dL_law_425 ?_
  obtain ⟨h426, hf⟩ := pg_some hf
  refine va_sld hx hb hX0 hbl hbA hS h426 dL_law_426 ?_
  refine lv_aload_n hx hb dL_law_427 rfl (lv_at hl 0 rfl) ?_
  refine lv_iload_n hx hb dL_law_428 rfl (lv_at hl 3 rfl) ?_
  refine lv_iconst (v := 2) hx hb dL_law_429 (by decide) ?_
  refine lv_iadd hx hb dL_law_430 ?_
  obtain ⟨h431, hf⟩ := pg_some hf
  refine va_sld hx hb hX0 hbl hbA hS h431 dL_law_431 ?_
  obtain ⟨r432, e432, hf⟩ := pb_some hf
  refine kX8_may e432 F hK hP hD hS hA hl.1 (lv_room (Nat.le_of_ble_eq_true rfl)) (Nat.le_of_ble_eq_true rfl) (Nat.le_of_ble_eq_true rfl) dL_law_432 (fun H locs hP hD hS => ?_)
  refine lv_aload_n hx hb dL_law_435 rfl (lv_at hl 2 rfl) ?_
  refine lv_aload_n hx hb dL_law_436 rfl (lv_at hl 0 rfl) ?_
  refine lv_iload_n hx hb dL_law_437 rfl (lv_at hl 3 rfl) ?_
  refine lv_iconst (v := 1) hx hb dL_law_438 (by decide) ?_
  refine lv_iadd hx hb dL_law_439 ?_
  obtain ⟨h440, hf⟩ := pg_some hf
  refine va_sld hx hb hX0 hbl hbA hS h440 dL_law_440 ?_
  refine lv_aload_n hx hb dL_law_441 rfl (lv_at hl 0 rfl) ?_
  refine lv_iload_n hx hb dL_law_442 rfl (lv_at hl 3 rfl) ?_
  refine lv_iconst (v := 2) hx hb dL_law_443 (by decide) ?_
  refine lv_iadd hx hb dL_law_444 ?_
  obtain ⟨h445, hf⟩ := pg_some hf
  refine va_sld hx hb hX0 hbl hbA hS h445 dL_law_445 ?_
  obtain ⟨r446, e446, hf⟩ := pb_some hf
  refine kX9_may e446 F hK hP hD hS hA hl.1 (lv_room (Nat.le_of_ble_eq_true rfl)) (Nat.le_of_ble_eq_true rfl) (Nat.le_of_ble_eq_true rfl) dL_law_446 (fun H locs hP hD hS => ?_)
  refine lv_icmp_eq (tgt := 1132) hx hb dL_law_449 (by decide) (fun c449 => ?_) (fun c449 => ?_)
  · have hf := pif_t c449 hf
    refine lv_iinc (v := x3 + 6) (lv' := [(3, .int (x3 + 6)), (0, .ref b), (1, .ref (ax 0)), (2, .ref (am 0))]) hx hb dL_law_1132 hl (k := 3) rfl rfl (by decide) rfl (fun ls hl => ?_)
    refine lv_goto (tgt := 18) hx hb dL_law_1135 (by decide) ?_
    exact hk (x3 + 6) r432.2 r446.2 _ _ ls hf hP hD hS (lv_sub hl [1, 2, 3, 0] rfl)
  · have hf := pif_f c449 hf
    refine lv_iconst (v := 0) hx hb dL_law_452 (by decide) ?_
    exact absurd (Option.some.inj hf) (by decide)
set_option maxHeartbeats 40000000 in
set_option maxRecDepth 100000 in
theorem law_c10 {p : Program} {l : Launch} {e : Env} {s : State} {m : MethodId} {below : List Frame} {meth : Method} {c : Code} {Q : State → Prop} {D : va_G} {cyI cyJ cyB cyS : ClassId} {b L : Nat} {xs : Nat → Int32} {ax am adK adV : Nat → Nat} {N : Nat} (F : CallFix p m c cL_law 4 s #[Value.ref b] wsL_law RL) (hX0 : va_X b L xs s s.heap) (hbl : b < s.heap.size) (hK : KK D cyI cyJ cyB cyS s) (hX : SX adK adV (fun q : Nat => s.heap.size ≤ q) s s.heap) (k : Int32 → UX → UX → Option Int32) (hk : ∀ (x3 : Int32) (u w : UX) (H : Heap) (locs : List Loc) (ls : Array Slot), k x3 u w = some 1 → va_P D vwCl (WX cyI cyJ cyB cyS ax u ++ WM cyI cyJ cyB cyS am w) H → va_D (fun q : Nat => s.heap.size ≤ q) (WX cyI cyJ cyB cyS ax u ++ WM cyI cyJ cyB cyS am w) → va_S (fun q : Nat => s.heap.size ≤ q) s.heap H locs → lv_has ls 4 [(0, .ref b), (1, .ref (ax 0)), (2, .ref (am 0)), (3, .int x3)] → W p l e room_1 s m #[Value.ref b] below meth c H locs 109 4449 Q (F0 m 18 ls [])) (x3 : Int32) (u w : UX) (H : Heap) (locs : List Loc) (ls : Array Slot) (hf : fL_c10 N L xs k x3 u w = some 1) (hP : va_P D vwCl (WX cyI cyJ cyB cyS ax u ++ WM cyI cyJ cyB cyS am w) H) (hD : va_D (fun q : Nat => s.heap.size ≤ q) (WX cyI cyJ cyB cyS ax u ++ WM cyI cyJ cyB cyS am w)) (hS : va_S (fun q : Nat => s.heap.size ≤ q) s.heap H locs) (hl : lv_has ls 4 [(0, .ref b), (1, .ref (ax 0)), (2, .ref (am 0)), (3, .int x3)]) : W p l e room_1 s m #[Value.ref b] below meth c H locs 109 4449 Q (F0 m 454 ls []) := by
  have hx := F.1
  have hb := F.2.1
  have hA : ∀ q : Nat, s.heap.size ≤ q → (fun q : Nat => s.heap.size ≤ q) q := fun _ h => h
  have hbA : ¬ (fun q : Nat => s.heap.size ≤ q) b := Nat.not_le.mpr hbl
  unfold fL_c10 at hf
  refine lv_aload_n hx hb dL_law_454 rfl (lv_at hl 1 rfl) ?_
  refine lv_aload_n hx hb dL_law_455 rfl (lv_at hl 0 rfl) ?_
  refine lv_iload_n hx hb dL_law_456 rfl (lv_at hl 3 rfl) ?_
  refine lv_iconst (v := 1) hx hb dL_law_457 (by decide) ?_
  refine lv_iadd hx hb dL_law_458 ?_
  obtain ⟨h459, hf⟩ := pg_some hf
  refine va_sld hx hb hX0 hbl hbA hS h459 dL_law_459 ?_
  obtain ⟨r460, e460, hf⟩ := pb_some hf
  refine kX8_out e460 F hK hP hD hS hA hl.1 (lv_room (Nat.le_of_ble_eq_true rfl)) (Nat.le_of_ble_eq_true rfl) (Nat.le_of_ble_eq_true rfl) dL_law_460 (fun H locs hP hD hS => ?_)
  refine lv_aload_n hx hb dL_law_463 rfl (lv_at hl 2 rfl) ?_
  refine lv_aload_n hx hb dL_law_464 rfl (lv_at hl 0 rfl) ?_
  refine lv_iload_n hx hb dL_law_465 rfl (lv_at hl 3 rfl) ?_
  refine lv_iconst (v := 1) hx hb dL_law_466 (by decide) ?_
  refine lv_iadd hx hb dL_law_467 ?_
  obtain ⟨h468, hf⟩ := pg_some hf
  refine va_sld hx hb hX0 hbl hbA hS h468 dL_law_468 ?_
  obtain ⟨r469, e469, hf⟩ := pb_some hf
  refine kX9_out e469 F hK hP hD hS hA hl.1 (lv_room (Nat.le_of_ble_eq_true rfl)) (Nat.le_of_ble_eq_true rfl) (Nat.le_of_ble_eq_true rfl) dL_law_469 (fun H locs hP hD hS => ?_)
  refine lv_icmp_eq (tgt := 1132) hx hb dL_law_472 (by decide) (fun c472 => ?_) (fun c472 => ?_)
  · have hf := pif_t c472 hf
    refine lv_iinc (v := x3 + 6) (lv' := [(3, .int (x3 + 6)), (0, .ref b), (1, .ref (ax 0)), (2, .ref (am 0))]) hx hb dL_law_1132 hl (k := 3) rfl rfl (by decide) rfl (fun ls hl => ?_)
    refine lv_goto (tgt := 18) hx hb dL_law_1135 (by decide) ?_
    exact hk (x3 + 6) r460.2 r469.2 _ _ ls hf hP hD hS (lv_sub hl [1, 2, 3, 0] rfl)
  · have hf := pif_f c472 hf
    refine lv_iconst (v := 0) hx hb dL_law_475 (by decide) ?_
    exact absurd (Option.some.inj hf) (by decide)
set_option maxHeartbeats 40000000 in
set_option maxRecDepth 100000 in
theorem law_c11 {p : Program} {l : Launch} {e : Env} {s : State} {m : MethodId} {below : List Frame} {meth : Method} {c : Code} {Q : State → Prop} {D : va_G} {cyI cyJ cyB cyS : ClassId} {b L : Nat} {xs : Nat → Int32} {ax am adK adV : Nat → Nat} {N : Nat} (F : CallFix p m c cL_law 4 s #[Value.ref b] wsL_law RL) (hX0 : va_X b L xs s s.heap) (hbl : b < s.heap.size) (hK : KK D cyI cyJ cyB cyS s) (hX : SX adK adV (fun q : Nat => s.heap.size ≤ q) s s.heap) (k : Int32 → UX → UX → Option Int32) (hk : ∀ (x3 : Int32) (u w : UX) (H : Heap) (locs : List Loc) (ls : Array Slot), k x3 u w = some 1 → va_P D vwCl (WX cyI cyJ cyB cyS ax u ++ WM cyI cyJ cyB cyS am w) H → va_D (fun q : Nat => s.heap.size ≤ q) (WX cyI cyJ cyB cyS ax u ++ WM cyI cyJ cyB cyS am w) → va_S (fun q : Nat => s.heap.size ≤ q) s.heap H locs → lv_has ls 4 [(0, .ref b), (1, .ref (ax 0)), (2, .ref (am 0)), (3, .int x3)] → W p l e room_1 s m #[Value.ref b] below meth c H locs 109 4449 Q (F0 m 18 ls [])) (x3 : Int32) (u w : UX) (H : Heap) (locs : List Loc) (ls : Array Slot) (hf : fL_c11 N L xs k x3 u w = some 1) (hP : va_P D vwCl (WX cyI cyJ cyB cyS ax u ++ WM cyI cyJ cyB cyS am w) H) (hD : va_D (fun q : Nat => s.heap.size ≤ q) (WX cyI cyJ cyB cyS ax u ++ WM cyI cyJ cyB cyS am w)) (hS : va_S (fun q : Nat => s.heap.size ≤ q) s.heap H locs) (hl : lv_has ls 4 [(0, .ref b), (1, .ref (ax 0)), (2, .ref (am 0)), (3, .int x3)]) : W p l e room_1 s m #[Value.ref b] below meth c H locs 109 4449 Q (F0 m 477 ls []) := by
  have hx := F.1
  have hb := F.2.1
  have hA : ∀ q : Nat, s.heap.size ≤ q → (fun q : Nat => s.heap.size ≤ q) q := fun _ h => h
  have hbA : ¬ (fun q : Nat => s.heap.size ≤ q) b := Nat.not_le.mpr hbl
  unfold fL_c11 at hf
  refine lv_aload_n hx hb dL_law_477 rfl (lv_at hl 1 rfl) ?_
  refine lv_aload_n hx hb dL_law_478 rfl (lv_at hl 0 rfl) ?_
  refine lv_iload_n hx hb dL_law_479 rfl (lv_at hl 3 rfl) ?_
  refine lv_iconst (v := 1) hx hb dL_law_480 (by decide) ?_
  refine lv_iadd hx hb dL_law_481 ?_
  obtain ⟨h482, hf⟩ := pg_some hf
  refine va_sld hx hb hX0 hbl hbA hS h482 dL_law_482 ?_
  refine lv_aload_n hx hb dL_law_483 rfl (lv_at hl 0 rfl) ?_
  refine lv_iload_n hx hb dL_law_484 rfl (lv_at hl 3 rfl) ?_
  refine lv_iconst (v := 2) hx hb dL_law_485 (by decide) ?_
  refine lv_iadd hx hb dL_law_486 ?_
  obtain ⟨h487, hf⟩ := pg_some hf
  refine va_sld hx hb hX0 hbl hbA hS h487 dL_law_487 ?_
  obtain ⟨r488, e488, hf⟩ := pb_some hf
  refine kX8_chooses e488 F hK hP hD hS hA hl.1 (lv_room (Nat.le_of_ble_eq_true rfl)) (Nat.le_of_ble_eq_true rfl) (Nat.le_of_ble_eq_true rfl) dL_law_488 (fun H locs hP hD hS => ?_)
  refine lv_aload_n hx hb dL_law_491 rfl (lv_at hl 2 rfl) ?_
  refine lv_aload_n hx hb dL_law_492 rfl (lv_at hl 0 rfl) ?_
  refine lv_iload_n hx hb dL_law_493 rfl (lv_at hl 3 rfl) ?_
  refine lv_iconst (v := 1) hx hb dL_law_494 (by decide) ?_
  refine lv_iadd hx hb dL_law_495 ?_
  obtain ⟨h496, hf⟩ := pg_some hf
  refine va_sld hx hb hX0 hbl hbA hS h496 dL_law_496 ?_
  refine lv_aload_n hx hb dL_law_497 rfl (lv_at hl 0 rfl) ?_
  refine lv_iload_n hx hb dL_law_498 rfl (lv_at hl 3 rfl) ?_
  refine lv_iconst (v := 2) hx hb dL_law_499 (by decide) ?_
  refine lv_iadd hx hb dL_law_500 ?_
  obtain ⟨h501, hf⟩ := pg_some hf
  refine va_sld hx hb hX0 hbl hbA hS h501 dL_law_501 ?_
  obtain ⟨r502, e502, hf⟩ := pb_some hf
  refine kX9_chooses e502 F hK hP hD hS hA hl.1 (lv_room (Nat.le_of_ble_eq_true rfl)) (Nat.le_of_ble_eq_true rfl) (Nat.le_of_ble_eq_true rfl) dL_law_502 (fun H locs hP hD hS => ?_)
  refine lv_icmp_eq (tgt := 1132) hx hb dL_law_505 (by decide) (fun c505 => ?_) (fun c505 => ?_)
  · have hf := pif_t c505 hf
    refine lv_iinc (v := x3 + 6) (lv' := [(3, .int (x3 + 6)), (0, .ref b), (1, .ref (ax 0)), (2, .ref (am 0))]) hx hb dL_law_1132 hl (k := 3) rfl rfl (by decide) rfl (fun ls hl => ?_)
    refine lv_goto (tgt := 18) hx hb dL_law_1135 (by decide) ?_
    exact hk (x3 + 6) r488.2 r502.2 _ _ ls hf hP hD hS (lv_sub hl [1, 2, 3, 0] rfl)
  · have hf := pif_f c505 hf
    refine lv_iconst (v := 0) hx hb dL_law_508 (by decide) ?_
    exact absurd (Option.some.inj hf) (by decide)
set_option maxHeartbeats 40000000 in
set_option maxRecDepth 100000 in
theorem law_c12 {p : Program} {l : Launch} {e : Env} {s : State} {m : MethodId} {below : List Frame} {meth : Method} {c : Code} {Q : State → Prop} {D : va_G} {cyI cyJ cyB cyS : ClassId} {b L : Nat} {xs : Nat → Int32} {ax am adK adV : Nat → Nat} {N : Nat} (F : CallFix p m c cL_law 4 s #[Value.ref b] wsL_law RL) (hX0 : va_X b L xs s s.heap) (hbl : b < s.heap.size) (hK : KK D cyI cyJ cyB cyS s) (hX : SX adK adV (fun q : Nat => s.heap.size ≤ q) s s.heap) (k : Int32 → UX → UX → Option Int32) (hk : ∀ (x3 : Int32) (u w : UX) (H : Heap) (locs : List Loc) (ls : Array Slot), k x3 u w = some 1 → va_P D vwCl (WX cyI cyJ cyB cyS ax u ++ WM cyI cyJ cyB cyS am w) H → va_D (fun q : Nat => s.heap.size ≤ q) (WX cyI cyJ cyB cyS ax u ++ WM cyI cyJ cyB cyS am w) → va_S (fun q : Nat => s.heap.size ≤ q) s.heap H locs → lv_has ls 4 [(0, .ref b), (1, .ref (ax 0)), (2, .ref (am 0)), (3, .int x3)] → W p l e room_1 s m #[Value.ref b] below meth c H locs 109 4449 Q (F0 m 18 ls [])) (x3 : Int32) (u w : UX) (H : Heap) (locs : List Loc) (ls : Array Slot) (hf : fL_c12 N L xs k x3 u w = some 1) (hP : va_P D vwCl (WX cyI cyJ cyB cyS ax u ++ WM cyI cyJ cyB cyS am w) H) (hD : va_D (fun q : Nat => s.heap.size ≤ q) (WX cyI cyJ cyB cyS ax u ++ WM cyI cyJ cyB cyS am w)) (hS : va_S (fun q : Nat => s.heap.size ≤ q) s.heap H locs) (hl : lv_has ls 4 [(0, .ref b), (1, .ref (ax 0)), (2, .ref (am 0)), (3, .int x3)]) : W p l e room_1 s m #[Value.ref b] below meth c H locs 109 4449 Q (F0 m 510 ls []) := by
  have hx := F.1
  have hb := F.2.1
  have hA : ∀ q : Nat, s.heap.size ≤ q → (fun q : Nat => s.heap.size ≤ q) q := fun _ h => h
  have hbA : ¬ (fun q : Nat => s.heap.size ≤ q) b := Nat.not_le.mpr hbl
  unfold fL_c12 at hf
  refine lv_aload_n hx hb dL_law_510 rfl (lv_at hl 1 rfl) ?_
  refine lv_aload_n hx hb dL_law_511 rfl (lv_at hl 0 rfl) ?_
  refine lv_iload_n hx hb dL_law_512 rfl (lv_at hl 3 rfl) ?_
  refine lv_iconst (v := 1) hx hb dL_law_513 (by decide) ?_
  refine lv_iadd hx hb dL_law_514 ?_
  obtain ⟨h515, hf⟩ := pg_some hf
  refine va_sld hx hb hX0 hbl hbA hS h515 dL_law_515 ?_
  refine lv_aload_n hx hb dL_law_516 rfl (lv_at hl 0 rfl) ?_
  refine lv_iload_n hx hb dL_law_517 rfl (lv_at hl 3 rfl) ?_
  refine lv_iconst (v := 2) hx hb dL_law_518 (by decide) ?_
  refine lv_iadd hx hb dL_law_519 ?_
  obtain ⟨h520, hf⟩ := pg_some hf
  refine va_sld hx hb hX0 hbl hbA hS h520 dL_law_520 ?_
  obtain ⟨r521, e521, hf⟩ := pb_some hf
  refine kX8_pay e521 F hK hP hD hS hA hl.1 (lv_room (Nat.le_of_ble_eq_true rfl)) (Nat.le_of_ble_eq_true rfl) (Nat.le_of_ble_eq_true rfl) dL_law_521 (fun H locs hP hD hS => ?_)
  refine lv_aload_n hx hb dL_law_524 rfl (lv_at hl 2 rfl) ?_
  refine lv_aload_n hx hb dL_law_525 rfl (lv_at hl 0 rfl) ?_
  refine lv_iload_n hx hb dL_law_526 rfl (lv_at hl 3 rfl) ?_
  refine lv_iconst (v := 1) hx hb dL_law_527 (by decide) ?_
  refine lv_iadd hx hb dL_law_528 ?_
  obtain ⟨h529, hf⟩ := pg_some hf
  refine va_sld hx hb hX0 hbl hbA hS h529 dL_law_529 ?_
  refine lv_aload_n hx hb dL_law_530 rfl (lv_at hl 0 rfl) ?_
  refine lv_iload_n hx hb dL_law_531 rfl (lv_at hl 3 rfl) ?_
  refine lv_iconst (v := 2) hx hb dL_law_532 (by decide) ?_
  refine lv_iadd hx hb dL_law_533 ?_
  obtain ⟨h534, hf⟩ := pg_some hf
  refine va_sld hx hb hX0 hbl hbA hS h534 dL_law_534 ?_
  obtain ⟨r535, e535, hf⟩ := pb_some hf
  refine kX9_pay e535 F hK hP hD hS hA hl.1 (lv_room (Nat.le_of_ble_eq_true rfl)) (Nat.le_of_ble_eq_true rfl) (Nat.le_of_ble_eq_true rfl) dL_law_535 (fun H locs hP hD hS => ?_)
  refine lv_icmp_eq (tgt := 1132) hx hb dL_law_538 (by decide) (fun c538 => ?_) (fun c538 => ?_)
  · have hf := pif_t c538 hf
    refine lv_iinc (v := x3 + 6) (lv' := [(3, .int (x3 + 6)), (0, .ref b), (1, .ref (ax 0)), (2, .ref (am 0))]) hx hb dL_law_1132 hl (k := 3) rfl rfl (by decide) rfl (fun ls hl => ?_)
    refine lv_goto (tgt := 18) hx hb dL_law_1135 (by decide) ?_
    exact hk (x3 + 6) r521.2 r535.2 _ _ ls hf hP hD hS (lv_sub hl [1, 2, 3, 0] rfl)
  · have hf := pif_f c538 hf
    refine lv_iconst (v := 0) hx hb dL_law_541 (by decide) ?_
    exact absurd (Option.some.inj hf) (by decide)
set_option maxHeartbeats 40000000 in
set_option maxRecDepth 100000 in
theorem law_c13 {p : Program} {l : Launch} {e : Env} {s : State} {m : MethodId} {below : List Frame} {meth : Method} {c : Code} {Q : State → Prop} {D : va_G} {cyI cyJ cyB cyS : ClassId} {b L : Nat} {xs : Nat → Int32} {ax am adK adV : Nat → Nat} {N : Nat} (F : CallFix p m c cL_law 4 s #[Value.ref b] wsL_law RL) (hX0 : va_X b L xs s s.heap) (hbl : b < s.heap.size) (hK : KK D cyI cyJ cyB cyS s) (hX : SX adK adV (fun q : Nat => s.heap.size ≤ q) s s.heap) (k : Int32 → UX → UX → Option Int32) (hk : ∀ (x3 : Int32) (u w : UX) (H : Heap) (locs : List Loc) (ls : Array Slot), k x3 u w = some 1 → va_P D vwCl (WX cyI cyJ cyB cyS ax u ++ WM cyI cyJ cyB cyS am w) H → va_D (fun q : Nat => s.heap.size ≤ q) (WX cyI cyJ cyB cyS ax u ++ WM cyI cyJ cyB cyS am w) → va_S (fun q : Nat => s.heap.size ≤ q) s.heap H locs → lv_has ls 4 [(0, .ref b), (1, .ref (ax 0)), (2, .ref (am 0)), (3, .int x3)] → W p l e room_1 s m #[Value.ref b] below meth c H locs 109 4449 Q (F0 m 18 ls [])) (x3 : Int32) (u w : UX) (H : Heap) (locs : List Loc) (ls : Array Slot) (hf : fL_c13 N L xs k x3 u w = some 1) (hP : va_P D vwCl (WX cyI cyJ cyB cyS ax u ++ WM cyI cyJ cyB cyS am w) H) (hD : va_D (fun q : Nat => s.heap.size ≤ q) (WX cyI cyJ cyB cyS ax u ++ WM cyI cyJ cyB cyS am w)) (hS : va_S (fun q : Nat => s.heap.size ≤ q) s.heap H locs) (hl : lv_has ls 4 [(0, .ref b), (1, .ref (ax 0)), (2, .ref (am 0)), (3, .int x3)]) : W p l e room_1 s m #[Value.ref b] below meth c H locs 109 4449 Q (F0 m 543 ls []) := by
  have hx := F.1
  have hb := F.2.1
  have hA : ∀ q : Nat, s.heap.size ≤ q → (fun q : Nat => s.heap.size ≤ q) q := fun _ h => h
  have hbA : ¬ (fun q : Nat => s.heap.size ≤ q) b := Nat.not_le.mpr hbl
  unfold fL_c13 at hf
  refine lv_aload_n hx hb dL_law_543 rfl (lv_at hl 1 rfl) ?_
  refine lv_aload_n hx hb dL_law_544 rfl (lv_at hl 0 rfl) ?_
  refine lv_iload_n hx hb dL_law_545 rfl (lv_at hl 3 rfl) ?_
  refine lv_iconst (v := 1) hx hb dL_law_546 (by decide) ?_
  refine lv_iadd hx hb dL_law_547 ?_
  obtain ⟨h548, hf⟩ := pg_some hf
  refine va_sld hx hb hX0 hbl hbA hS h548 dL_law_548 ?_
  refine lv_aload_n hx hb dL_law_549 rfl (lv_at hl 0 rfl) ?_
  refine lv_iload_n hx hb dL_law_550 rfl (lv_at hl 3 rfl) ?_
  refine lv_iconst (v := 2) hx hb dL_law_551 (by decide) ?_
  refine lv_iadd hx hb dL_law_552 ?_
  obtain ⟨h553, hf⟩ := pg_some hf
  refine va_sld hx hb hX0 hbl hbA hS h553 dL_law_553 ?_
  obtain ⟨r554, e554, hf⟩ := pb_some hf
  refine kX8_worth e554 F hK hP hD hS hA hl.1 (lv_room (Nat.le_of_ble_eq_true rfl)) (Nat.le_of_ble_eq_true rfl) (Nat.le_of_ble_eq_true rfl) dL_law_554 (fun H locs hP hD hS => ?_)
  refine lv_aload_n hx hb dL_law_557 rfl (lv_at hl 2 rfl) ?_
  refine lv_aload_n hx hb dL_law_558 rfl (lv_at hl 0 rfl) ?_
  refine lv_iload_n hx hb dL_law_559 rfl (lv_at hl 3 rfl) ?_
  refine lv_iconst (v := 1) hx hb dL_law_560 (by decide) ?_
  refine lv_iadd hx hb dL_law_561 ?_
  obtain ⟨h562, hf⟩ := pg_some hf
  refine va_sld hx hb hX0 hbl hbA hS h562 dL_law_562 ?_
  refine lv_aload_n hx hb dL_law_563 rfl (lv_at hl 0 rfl) ?_
  refine lv_iload_n hx hb dL_law_564 rfl (lv_at hl 3 rfl) ?_
  refine lv_iconst (v := 2) hx hb dL_law_565 (by decide) ?_
  refine lv_iadd hx hb dL_law_566 ?_
  obtain ⟨h567, hf⟩ := pg_some hf
  refine va_sld hx hb hX0 hbl hbA hS h567 dL_law_567 ?_
  obtain ⟨r568, e568, hf⟩ := pb_some hf
  refine kX9_worth e568 F hK hP hD hS hA hl.1 (lv_room (Nat.le_of_ble_eq_true rfl)) (Nat.le_of_ble_eq_true rfl) (Nat.le_of_ble_eq_true rfl) dL_law_568 (fun H locs hP hD hS => ?_)
  refine W.lcmp hx hb dL_law_571 ?_
  refine lv_if_eq (tgt := 1132) hx hb dL_law_572 (by decide) (fun c572 => ?_) (fun c572 => ?_)
  · have hf := pif_t c572 hf
    refine lv_iinc (v := x3 + 6) (lv' := [(3, .int (x3 + 6)), (0, .ref b), (1, .ref (ax 0)), (2, .ref (am 0))]) hx hb dL_law_1132 hl (k := 3) rfl rfl (by decide) rfl (fun ls hl => ?_)
    refine lv_goto (tgt := 18) hx hb dL_law_1135 (by decide) ?_
    exact hk (x3 + 6) r554.2 r568.2 _ _ ls hf hP hD hS (lv_sub hl [1, 2, 3, 0] rfl)
  · have hf := pif_f c572 hf
    refine lv_iconst (v := 0) hx hb dL_law_575 (by decide) ?_
    exact absurd (Option.some.inj hf) (by decide)
set_option maxHeartbeats 40000000 in
set_option maxRecDepth 100000 in
theorem law_c14 {p : Program} {l : Launch} {e : Env} {s : State} {m : MethodId} {below : List Frame} {meth : Method} {c : Code} {Q : State → Prop} {D : va_G} {cyI cyJ cyB cyS : ClassId} {b L : Nat} {xs : Nat → Int32} {ax am adK adV : Nat → Nat} {N : Nat} (F : CallFix p m c cL_law 4 s #[Value.ref b] wsL_law RL) (hX0 : va_X b L xs s s.heap) (hbl : b < s.heap.size) (hK : KK D cyI cyJ cyB cyS s) (hX : SX adK adV (fun q : Nat => s.heap.size ≤ q) s s.heap) (k : Int32 → UX → UX → Option Int32) (hk : ∀ (x3 : Int32) (u w : UX) (H : Heap) (locs : List Loc) (ls : Array Slot), k x3 u w = some 1 → va_P D vwCl (WX cyI cyJ cyB cyS ax u ++ WM cyI cyJ cyB cyS am w) H → va_D (fun q : Nat => s.heap.size ≤ q) (WX cyI cyJ cyB cyS ax u ++ WM cyI cyJ cyB cyS am w) → va_S (fun q : Nat => s.heap.size ≤ q) s.heap H locs → lv_has ls 4 [(0, .ref b), (1, .ref (ax 0)), (2, .ref (am 0)), (3, .int x3)] → W p l e room_1 s m #[Value.ref b] below meth c H locs 109 4449 Q (F0 m 18 ls [])) (x3 : Int32) (u w : UX) (H : Heap) (locs : List Loc) (ls : Array Slot) (hf : fL_c14 N L xs k x3 u w = some 1) (hP : va_P D vwCl (WX cyI cyJ cyB cyS ax u ++ WM cyI cyJ cyB cyS am w) H) (hD : va_D (fun q : Nat => s.heap.size ≤ q) (WX cyI cyJ cyB cyS ax u ++ WM cyI cyJ cyB cyS am w)) (hS : va_S (fun q : Nat => s.heap.size ≤ q) s.heap H locs) (hl : lv_has ls 4 [(0, .ref b), (1, .ref (ax 0)), (2, .ref (am 0)), (3, .int x3)]) : W p l e room_1 s m #[Value.ref b] below meth c H locs 109 4449 Q (F0 m 577 ls []) := by
  have hx := F.1
  have hb := F.2.1
  have hA : ∀ q : Nat, s.heap.size ≤ q → (fun q : Nat => s.heap.size ≤ q) q := fun _ h => h
  have hbA : ¬ (fun q : Nat => s.heap.size ≤ q) b := Nat.not_le.mpr hbl
  unfold fL_c14 at hf
  refine lv_aload_n hx hb dL_law_577 rfl (lv_at hl 1 rfl) ?_
  refine lv_aload_n hx hb dL_law_578 rfl (lv_at hl 0 rfl) ?_
  refine lv_iload_n hx hb dL_law_579 rfl (lv_at hl 3 rfl) ?_
  refine lv_iconst (v := 1) hx hb dL_law_580 (by decide) ?_
  refine lv_iadd hx hb dL_law_581 ?_
  obtain ⟨h582, hf⟩ := pg_some hf
  refine va_sld hx hb hX0 hbl hbA hS h582 dL_law_582 ?_
  refine lv_aload_n hx hb dL_law_583 rfl (lv_at hl 0 rfl) ?_
  refine lv_iload_n hx hb dL_law_584 rfl (lv_at hl 3 rfl) ?_
  refine lv_iconst (v := 2) hx hb dL_law_585 (by decide) ?_
  refine lv_iadd hx hb dL_law_586 ?_
  obtain ⟨h587, hf⟩ := pg_some hf
  refine va_sld hx hb hX0 hbl hbA hS h587 dL_law_587 ?_
  refine lv_aload_n hx hb dL_law_588 rfl (lv_at hl 0 rfl) ?_
  refine lv_iload_n hx hb dL_law_589 rfl (lv_at hl 3 rfl) ?_
  refine lv_iconst (v := 3) hx hb dL_law_590 (by decide) ?_
  refine lv_iadd hx hb dL_law_591 ?_
  obtain ⟨h592, hf⟩ := pg_some hf
  refine va_sld hx hb hX0 hbl hbA hS h592 dL_law_592 ?_
  refine lv_if_eq (tgt := 600) hx hb dL_law_593 (by decide) (fun c593 => ?_) (fun c593 => ?_)
  · have hf := pif_t c593 hf
    refine lv_iconst (v := 0) hx hb dL_law_600 (by decide) ?_
    refine lv_aload_n hx hb dL_law_601 rfl (lv_at hl 0 rfl) ?_
    refine lv_iload_n hx hb dL_law_602 rfl (lv_at hl 3 rfl) ?_
    refine lv_iconst (v := 4) hx hb dL_law_603 (by decide) ?_
    refine lv_iadd hx hb dL_law_604 ?_
    obtain ⟨h605, hf⟩ := pg_some hf
    refine va_sld hx hb hX0 hbl hbA hS h605 dL_law_605 ?_
    obtain ⟨r606, e606, hf⟩ := pb_some hf
    refine kX8_worthIf e606 F hK hP hD hS hA hl.1 (lv_room (Nat.le_of_ble_eq_true rfl)) (Nat.le_of_ble_eq_true rfl) (Nat.le_of_ble_eq_true rfl) dL_law_606 (fun H locs hP hD hS => ?_)
    refine lv_aload_n hx hb dL_law_609 rfl (lv_at hl 2 rfl) ?_
    refine lv_aload_n hx hb dL_law_610 rfl (lv_at hl 0 rfl) ?_
    refine lv_iload_n hx hb dL_law_611 rfl (lv_at hl 3 rfl) ?_
    refine lv_iconst (v := 1) hx hb dL_law_612 (by decide) ?_
    refine lv_iadd hx hb dL_law_613 ?_
    obtain ⟨h614, hf⟩ := pg_some hf
    refine va_sld hx hb hX0 hbl hbA hS h614 dL_law_614 ?_
    refine lv_aload_n hx hb dL_law_615 rfl (lv_at hl 0 rfl) ?_
    refine lv_iload_n hx hb dL_law_616 rfl (lv_at hl 3 rfl) ?_
    refine lv_iconst (v := 2) hx hb dL_law_617 (by decide) ?_
    refine lv_iadd hx hb dL_law_618 ?_
    obtain ⟨h619, hf⟩ := pg_some hf
    refine va_sld hx hb hX0 hbl hbA hS h619 dL_law_619 ?_
    refine lv_aload_n hx hb dL_law_620 rfl (lv_at hl 0 rfl) ?_
    refine lv_iload_n hx hb dL_law_621 rfl (lv_at hl 3 rfl) ?_
    refine lv_iconst (v := 3) hx hb dL_law_622 (by decide) ?_
    refine lv_iadd hx hb dL_law_623 ?_
    obtain ⟨h624, hf⟩ := pg_some hf
    refine va_sld hx hb hX0 hbl hbA hS h624 dL_law_624 ?_
    refine lv_if_eq (tgt := 632) hx hb dL_law_625 (by decide) (fun c625 => ?_) (fun c625 => ?_)
    · have hf := pif_t c625 hf
      refine lv_iconst (v := 0) hx hb dL_law_632 (by decide) ?_
      refine lv_aload_n hx hb dL_law_633 rfl (lv_at hl 0 rfl) ?_
      refine lv_iload_n hx hb dL_law_634 rfl (lv_at hl 3 rfl) ?_
      refine lv_iconst (v := 4) hx hb dL_law_635 (by decide) ?_
      refine lv_iadd hx hb dL_law_636 ?_
      obtain ⟨h637, hf⟩ := pg_some hf
      refine va_sld hx hb hX0 hbl hbA hS h637 dL_law_637 ?_
      obtain ⟨r638, e638, hf⟩ := pb_some hf
      refine kX9_worthIf e638 F hK hP hD hS hA hl.1 (lv_room (Nat.le_of_ble_eq_true rfl)) (Nat.le_of_ble_eq_true rfl) (Nat.le_of_ble_eq_true rfl) dL_law_638 (fun H locs hP hD hS => ?_)
      refine W.lcmp hx hb dL_law_641 ?_
      refine lv_if_eq (tgt := 1132) hx hb dL_law_642 (by decide) (fun c642 => ?_) (fun c642 => ?_)
      · have hf := pif_t c642 hf
        refine lv_iinc (v := x3 + 6) (lv' := [(3, .int (x3 + 6)), (0, .ref b), (1, .ref (ax 0)), (2, .ref (am 0))]) hx hb dL_law_1132 hl (k := 3) rfl rfl (by decide) rfl (fun ls hl => ?_)
        refine lv_goto (tgt := 18) hx hb dL_law_1135 (by decide) ?_
        exact hk (x3 + 6) r606.2 r638.2 _ _ ls hf hP hD hS (lv_sub hl [1, 2, 3, 0] rfl)
      · have hf := pif_f c642 hf
        refine lv_iconst (v := 0) hx hb dL_law_645 (by decide) ?_
        exact absurd (Option.some.inj hf) (by decide)
    · have hf := pif_f c625 hf
      refine lv_iconst (v := 1) hx hb dL_law_628 (by decide) ?_
      refine lv_goto (tgt := 633) hx hb dL_law_629 (by decide) ?_
      refine lv_aload_n hx hb dL_law_633 rfl (lv_at hl 0 rfl) ?_
      refine lv_iload_n hx hb dL_law_634 rfl (lv_at hl 3 rfl) ?_
      refine lv_iconst (v := 4) hx hb dL_law_635 (by decide) ?_
      refine lv_iadd hx hb dL_law_636 ?_
      obtain ⟨h637, hf⟩ := pg_some hf
      refine va_sld hx hb hX0 hbl hbA hS h637 dL_law_637 ?_
      obtain ⟨r638, e638, hf⟩ := pb_some hf
      refine kX9_worthIf e638 F hK hP hD hS hA hl.1 (lv_room (Nat.le_of_ble_eq_true rfl)) (Nat.le_of_ble_eq_true rfl) (Nat.le_of_ble_eq_true rfl) dL_law_638 (fun H locs hP hD hS => ?_)
      refine W.lcmp hx hb dL_law_641 ?_
      refine lv_if_eq (tgt := 1132) hx hb dL_law_642 (by decide) (fun c642 => ?_) (fun c642 => ?_)
      · have hf := pif_t c642 hf
        refine lv_iinc (v := x3 + 6) (lv' := [(3, .int (x3 + 6)), (0, .ref b), (1, .ref (ax 0)), (2, .ref (am 0))]) hx hb dL_law_1132 hl (k := 3) rfl rfl (by decide) rfl (fun ls hl => ?_)
        refine lv_goto (tgt := 18) hx hb dL_law_1135 (by decide) ?_
        exact hk (x3 + 6) r606.2 r638.2 _ _ ls hf hP hD hS (lv_sub hl [1, 2, 3, 0] rfl)
      · have hf := pif_f c642 hf
        refine lv_iconst (v := 0) hx hb dL_law_645 (by decide) ?_
        exact absurd (Option.some.inj hf) (by decide)
  · have hf := pif_f c593 hf
    refine lv_iconst (v := 1) hx hb dL_law_596 (by decide) ?_
    refine lv_goto (tgt := 601) hx hb dL_law_597 (by decide) ?_
    refine lv_aload_n hx hb dL_law_601 rfl (lv_at hl 0 rfl) ?_
    refine lv_iload_n hx hb dL_law_602 rfl (lv_at hl 3 rfl) ?_
    refine lv_iconst (v := 4) hx hb dL_law_603 (by decide) ?_
    refine lv_iadd hx hb dL_law_604 ?_
    obtain ⟨h605, hf⟩ := pg_some hf
    refine va_sld hx hb hX0 hbl hbA hS h605 dL_law_605 ?_
    obtain ⟨r606, e606, hf⟩ := pb_some hf
    refine kX8_worthIf e606 F hK hP hD hS hA hl.1 (lv_room (Nat.le_of_ble_eq_true rfl)) (Nat.le_of_ble_eq_true rfl) (Nat.le_of_ble_eq_true rfl) dL_law_606 (fun H locs hP hD hS => ?_)
    refine lv_aload_n hx hb dL_law_609 rfl (lv_at hl 2 rfl) ?_
    refine lv_aload_n hx hb dL_law_610 rfl (lv_at hl 0 rfl) ?_
    refine lv_iload_n hx hb dL_law_611 rfl (lv_at hl 3 rfl) ?_
    refine lv_iconst (v := 1) hx hb dL_law_612 (by decide) ?_
    refine lv_iadd hx hb dL_law_613 ?_
    obtain ⟨h614, hf⟩ := pg_some hf
    refine va_sld hx hb hX0 hbl hbA hS h614 dL_law_614 ?_
    refine lv_aload_n hx hb dL_law_615 rfl (lv_at hl 0 rfl) ?_
    refine lv_iload_n hx hb dL_law_616 rfl (lv_at hl 3 rfl) ?_
    refine lv_iconst (v := 2) hx hb dL_law_617 (by decide) ?_
    refine lv_iadd hx hb dL_law_618 ?_
    obtain ⟨h619, hf⟩ := pg_some hf
    refine va_sld hx hb hX0 hbl hbA hS h619 dL_law_619 ?_
    refine lv_aload_n hx hb dL_law_620 rfl (lv_at hl 0 rfl) ?_
    refine lv_iload_n hx hb dL_law_621 rfl (lv_at hl 3 rfl) ?_
    refine lv_iconst (v := 3) hx hb dL_law_622 (by decide) ?_
    refine lv_iadd hx hb dL_law_623 ?_
    obtain ⟨h624, hf⟩ := pg_some hf
    refine va_sld hx hb hX0 hbl hbA hS h624 dL_law_624 ?_
    refine lv_if_eq (tgt := 632) hx hb dL_law_625 (by decide) (fun c625 => ?_) (fun c625 => ?_)
    · have hf := pif_t c625 hf
      refine lv_iconst (v := 0) hx hb dL_law_632 (by decide) ?_
      refine lv_aload_n hx hb dL_law_633 rfl (lv_at hl 0 rfl) ?_
      refine lv_iload_n hx hb dL_law_634 rfl (lv_at hl 3 rfl) ?_
      refine lv_iconst (v := 4) hx hb dL_law_635 (by decide) ?_
      refine lv_iadd hx hb dL_law_636 ?_
      obtain ⟨h637, hf⟩ := pg_some hf
      refine va_sld hx hb hX0 hbl hbA hS h637 dL_law_637 ?_
      obtain ⟨r638, e638, hf⟩ := pb_some hf
      refine kX9_worthIf e638 F hK hP hD hS hA hl.1 (lv_room (Nat.le_of_ble_eq_true rfl)) (Nat.le_of_ble_eq_true rfl) (Nat.le_of_ble_eq_true rfl) dL_law_638 (fun H locs hP hD hS => ?_)
      refine W.lcmp hx hb dL_law_641 ?_
      refine lv_if_eq (tgt := 1132) hx hb dL_law_642 (by decide) (fun c642 => ?_) (fun c642 => ?_)
      · have hf := pif_t c642 hf
        refine lv_iinc (v := x3 + 6) (lv' := [(3, .int (x3 + 6)), (0, .ref b), (1, .ref (ax 0)), (2, .ref (am 0))]) hx hb dL_law_1132 hl (k := 3) rfl rfl (by decide) rfl (fun ls hl => ?_)
        refine lv_goto (tgt := 18) hx hb dL_law_1135 (by decide) ?_
        exact hk (x3 + 6) r606.2 r638.2 _ _ ls hf hP hD hS (lv_sub hl [1, 2, 3, 0] rfl)
      · have hf := pif_f c642 hf
        refine lv_iconst (v := 0) hx hb dL_law_645 (by decide) ?_
        exact absurd (Option.some.inj hf) (by decide)
    · have hf := pif_f c625 hf
      refine lv_iconst (v := 1) hx hb dL_law_628 (by decide) ?_
      refine lv_goto (tgt := 633) hx hb dL_law_629 (by decide) ?_
      refine lv_aload_n hx hb dL_law_633 rfl (lv_at hl 0 rfl) ?_
      refine lv_iload_n hx hb dL_law_634 rfl (lv_at hl 3 rfl) ?_
      refine lv_iconst (v := 4) hx hb dL_law_635 (by decide) ?_
      refine lv_iadd hx hb dL_law_636 ?_
      obtain ⟨h637, hf⟩ := pg_some hf
      refine va_sld hx hb hX0 hbl hbA hS h637 dL_law_637 ?_
      obtain ⟨r638, e638, hf⟩ := pb_some hf
      refine kX9_worthIf e638 F hK hP hD hS hA hl.1 (lv_room (Nat.le_of_ble_eq_true rfl)) (Nat.le_of_ble_eq_true rfl) (Nat.le_of_ble_eq_true rfl) dL_law_638 (fun H locs hP hD hS => ?_)
      refine W.lcmp hx hb dL_law_641 ?_
      refine lv_if_eq (tgt := 1132) hx hb dL_law_642 (by decide) (fun c642 => ?_) (fun c642 => ?_)
      · have hf := pif_t c642 hf
        refine lv_iinc (v := x3 + 6) (lv' := [(3, .int (x3 + 6)), (0, .ref b), (1, .ref (ax 0)), (2, .ref (am 0))]) hx hb dL_law_1132 hl (k := 3) rfl rfl (by decide) rfl (fun ls hl => ?_)
        refine lv_goto (tgt := 18) hx hb dL_law_1135 (by decide) ?_
        exact hk (x3 + 6) r606.2 r638.2 _ _ ls hf hP hD hS (lv_sub hl [1, 2, 3, 0] rfl)
      · have hf := pif_f c642 hf
        refine lv_iconst (v := 0) hx hb dL_law_645 (by decide) ?_
        exact absurd (Option.some.inj hf) (by decide)
set_option maxHeartbeats 40000000 in
set_option maxRecDepth 100000 in
theorem law_c15 {p : Program} {l : Launch} {e : Env} {s : State} {m : MethodId} {below : List Frame} {meth : Method} {c : Code} {Q : State → Prop} {D : va_G} {cyI cyJ cyB cyS : ClassId} {b L : Nat} {xs : Nat → Int32} {ax am adK adV : Nat → Nat} {N : Nat} (F : CallFix p m c cL_law 4 s #[Value.ref b] wsL_law RL) (hX0 : va_X b L xs s s.heap) (hbl : b < s.heap.size) (hK : KK D cyI cyJ cyB cyS s) (hX : SX adK adV (fun q : Nat => s.heap.size ≤ q) s s.heap) (k : Int32 → UX → UX → Option Int32) (hk : ∀ (x3 : Int32) (u w : UX) (H : Heap) (locs : List Loc) (ls : Array Slot), k x3 u w = some 1 → va_P D vwCl (WX cyI cyJ cyB cyS ax u ++ WM cyI cyJ cyB cyS am w) H → va_D (fun q : Nat => s.heap.size ≤ q) (WX cyI cyJ cyB cyS ax u ++ WM cyI cyJ cyB cyS am w) → va_S (fun q : Nat => s.heap.size ≤ q) s.heap H locs → lv_has ls 4 [(0, .ref b), (1, .ref (ax 0)), (2, .ref (am 0)), (3, .int x3)] → W p l e room_1 s m #[Value.ref b] below meth c H locs 109 4449 Q (F0 m 18 ls [])) (x3 : Int32) (u w : UX) (H : Heap) (locs : List Loc) (ls : Array Slot) (hf : fL_c15 N L xs k x3 u w = some 1) (hP : va_P D vwCl (WX cyI cyJ cyB cyS ax u ++ WM cyI cyJ cyB cyS am w) H) (hD : va_D (fun q : Nat => s.heap.size ≤ q) (WX cyI cyJ cyB cyS ax u ++ WM cyI cyJ cyB cyS am w)) (hS : va_S (fun q : Nat => s.heap.size ≤ q) s.heap H locs) (hl : lv_has ls 4 [(0, .ref b), (1, .ref (ax 0)), (2, .ref (am 0)), (3, .int x3)]) : W p l e room_1 s m #[Value.ref b] below meth c H locs 109 4449 Q (F0 m 647 ls []) := by
  have hx := F.1
  have hb := F.2.1
  have hA : ∀ q : Nat, s.heap.size ≤ q → (fun q : Nat => s.heap.size ≤ q) q := fun _ h => h
  have hbA : ¬ (fun q : Nat => s.heap.size ≤ q) b := Nat.not_le.mpr hbl
  unfold fL_c15 at hf
  refine lv_aload_n hx hb dL_law_647 rfl (lv_at hl 1 rfl) ?_
  refine lv_aload_n hx hb dL_law_648 rfl (lv_at hl 0 rfl) ?_
  refine lv_iload_n hx hb dL_law_649 rfl (lv_at hl 3 rfl) ?_
  refine lv_iconst (v := 1) hx hb dL_law_650 (by decide) ?_
  refine lv_iadd hx hb dL_law_651 ?_
  obtain ⟨h652, hf⟩ := pg_some hf
  refine va_sld hx hb hX0 hbl hbA hS h652 dL_law_652 ?_
  obtain ⟨r653, e653, hf⟩ := pb_some hf
  refine kX8_wants e653 F hK hP hD hS hA hl.1 (lv_room (Nat.le_of_ble_eq_true rfl)) (Nat.le_of_ble_eq_true rfl) (Nat.le_of_ble_eq_true rfl) dL_law_653 (fun H locs hP hD hS => ?_)
  refine lv_aload_n hx hb dL_law_656 rfl (lv_at hl 2 rfl) ?_
  refine lv_aload_n hx hb dL_law_657 rfl (lv_at hl 0 rfl) ?_
  refine lv_iload_n hx hb dL_law_658 rfl (lv_at hl 3 rfl) ?_
  refine lv_iconst (v := 1) hx hb dL_law_659 (by decide) ?_
  refine lv_iadd hx hb dL_law_660 ?_
  obtain ⟨h661, hf⟩ := pg_some hf
  refine va_sld hx hb hX0 hbl hbA hS h661 dL_law_661 ?_
  obtain ⟨r662, e662, hf⟩ := pb_some hf
  refine kX9_wants e662 F hK hP hD hS hA hl.1 (lv_room (Nat.le_of_ble_eq_true rfl)) (Nat.le_of_ble_eq_true rfl) (Nat.le_of_ble_eq_true rfl) dL_law_662 (fun H locs hP hD hS => ?_)
  refine lv_icmp_eq (tgt := 1132) hx hb dL_law_665 (by decide) (fun c665 => ?_) (fun c665 => ?_)
  · have hf := pif_t c665 hf
    refine lv_iinc (v := x3 + 6) (lv' := [(3, .int (x3 + 6)), (0, .ref b), (1, .ref (ax 0)), (2, .ref (am 0))]) hx hb dL_law_1132 hl (k := 3) rfl rfl (by decide) rfl (fun ls hl => ?_)
    refine lv_goto (tgt := 18) hx hb dL_law_1135 (by decide) ?_
    exact hk (x3 + 6) r653.2 r662.2 _ _ ls hf hP hD hS (lv_sub hl [1, 2, 3, 0] rfl)
  · have hf := pif_f c665 hf
    refine lv_iconst (v := 0) hx hb dL_law_668 (by decide) ?_
    exact absurd (Option.some.inj hf) (by decide)
set_option maxHeartbeats 40000000 in
set_option maxRecDepth 100000 in
theorem law_c16 {p : Program} {l : Launch} {e : Env} {s : State} {m : MethodId} {below : List Frame} {meth : Method} {c : Code} {Q : State → Prop} {D : va_G} {cyI cyJ cyB cyS : ClassId} {b L : Nat} {xs : Nat → Int32} {ax am adK adV : Nat → Nat} {N : Nat} (F : CallFix p m c cL_law 4 s #[Value.ref b] wsL_law RL) (hX0 : va_X b L xs s s.heap) (hbl : b < s.heap.size) (hK : KK D cyI cyJ cyB cyS s) (hX : SX adK adV (fun q : Nat => s.heap.size ≤ q) s s.heap) (k : Int32 → UX → UX → Option Int32) (hk : ∀ (x3 : Int32) (u w : UX) (H : Heap) (locs : List Loc) (ls : Array Slot), k x3 u w = some 1 → va_P D vwCl (WX cyI cyJ cyB cyS ax u ++ WM cyI cyJ cyB cyS am w) H → va_D (fun q : Nat => s.heap.size ≤ q) (WX cyI cyJ cyB cyS ax u ++ WM cyI cyJ cyB cyS am w) → va_S (fun q : Nat => s.heap.size ≤ q) s.heap H locs → lv_has ls 4 [(0, .ref b), (1, .ref (ax 0)), (2, .ref (am 0)), (3, .int x3)] → W p l e room_1 s m #[Value.ref b] below meth c H locs 109 4449 Q (F0 m 18 ls [])) (x3 : Int32) (u w : UX) (H : Heap) (locs : List Loc) (ls : Array Slot) (hf : fL_c16 N L xs k x3 u w = some 1) (hP : va_P D vwCl (WX cyI cyJ cyB cyS ax u ++ WM cyI cyJ cyB cyS am w) H) (hD : va_D (fun q : Nat => s.heap.size ≤ q) (WX cyI cyJ cyB cyS ax u ++ WM cyI cyJ cyB cyS am w)) (hS : va_S (fun q : Nat => s.heap.size ≤ q) s.heap H locs) (hl : lv_has ls 4 [(0, .ref b), (1, .ref (ax 0)), (2, .ref (am 0)), (3, .int x3)]) : W p l e room_1 s m #[Value.ref b] below meth c H locs 109 4449 Q (F0 m 670 ls []) := by
  have hx := F.1
  have hb := F.2.1
  have hA : ∀ q : Nat, s.heap.size ≤ q → (fun q : Nat => s.heap.size ≤ q) q := fun _ h => h
  have hbA : ¬ (fun q : Nat => s.heap.size ≤ q) b := Nat.not_le.mpr hbl
  unfold fL_c16 at hf
  refine lv_aload_n hx hb dL_law_670 rfl (lv_at hl 1 rfl) ?_
  refine lv_aload_n hx hb dL_law_671 rfl (lv_at hl 0 rfl) ?_
  refine lv_iload_n hx hb dL_law_672 rfl (lv_at hl 3 rfl) ?_
  refine lv_iconst (v := 1) hx hb dL_law_673 (by decide) ?_
  refine lv_iadd hx hb dL_law_674 ?_
  obtain ⟨h675, hf⟩ := pg_some hf
  refine va_sld hx hb hX0 hbl hbA hS h675 dL_law_675 ?_
  refine lv_aload_n hx hb dL_law_676 rfl (lv_at hl 0 rfl) ?_
  refine lv_iload_n hx hb dL_law_677 rfl (lv_at hl 3 rfl) ?_
  refine lv_iconst (v := 2) hx hb dL_law_678 (by decide) ?_
  refine lv_iadd hx hb dL_law_679 ?_
  obtain ⟨h680, hf⟩ := pg_some hf
  refine va_sld hx hb hX0 hbl hbA hS h680 dL_law_680 ?_
  obtain ⟨r681, e681, hf⟩ := pb_some hf
  refine kX8_lose e681 F hK hP hD hS hA hl.1 (lv_room (Nat.le_of_ble_eq_true rfl)) (Nat.le_of_ble_eq_true rfl) (Nat.le_of_ble_eq_true rfl) dL_law_681 (fun H locs hP hD hS => ?_)
  refine lv_aload_n hx hb dL_law_684 rfl (lv_at hl 2 rfl) ?_
  refine lv_aload_n hx hb dL_law_685 rfl (lv_at hl 0 rfl) ?_
  refine lv_iload_n hx hb dL_law_686 rfl (lv_at hl 3 rfl) ?_
  refine lv_iconst (v := 1) hx hb dL_law_687 (by decide) ?_
  refine lv_iadd hx hb dL_law_688 ?_
  obtain ⟨h689, hf⟩ := pg_some hf
  refine va_sld hx hb hX0 hbl hbA hS h689 dL_law_689 ?_
  refine lv_aload_n hx hb dL_law_690 rfl (lv_at hl 0 rfl) ?_
  refine lv_iload_n hx hb dL_law_691 rfl (lv_at hl 3 rfl) ?_
  refine lv_iconst (v := 2) hx hb dL_law_692 (by decide) ?_
  refine lv_iadd hx hb dL_law_693 ?_
  obtain ⟨h694, hf⟩ := pg_some hf
  refine va_sld hx hb hX0 hbl hbA hS h694 dL_law_694 ?_
  obtain ⟨r695, e695, hf⟩ := pb_some hf
  refine kX9_lose e695 F hK hP hD hS hA hl.1 (lv_room (Nat.le_of_ble_eq_true rfl)) (Nat.le_of_ble_eq_true rfl) (Nat.le_of_ble_eq_true rfl) dL_law_695 (fun H locs hP hD hS => ?_)
  refine lv_icmp_eq (tgt := 1132) hx hb dL_law_698 (by decide) (fun c698 => ?_) (fun c698 => ?_)
  · have hf := pif_t c698 hf
    refine lv_iinc (v := x3 + 6) (lv' := [(3, .int (x3 + 6)), (0, .ref b), (1, .ref (ax 0)), (2, .ref (am 0))]) hx hb dL_law_1132 hl (k := 3) rfl rfl (by decide) rfl (fun ls hl => ?_)
    refine lv_goto (tgt := 18) hx hb dL_law_1135 (by decide) ?_
    exact hk (x3 + 6) r681.2 r695.2 _ _ ls hf hP hD hS (lv_sub hl [1, 2, 3, 0] rfl)
  · have hf := pif_f c698 hf
    refine lv_iconst (v := 0) hx hb dL_law_701 (by decide) ?_
    exact absurd (Option.some.inj hf) (by decide)
set_option maxHeartbeats 40000000 in
set_option maxRecDepth 100000 in
theorem law_c17 {p : Program} {l : Launch} {e : Env} {s : State} {m : MethodId} {below : List Frame} {meth : Method} {c : Code} {Q : State → Prop} {D : va_G} {cyI cyJ cyB cyS : ClassId} {b L : Nat} {xs : Nat → Int32} {ax am adK adV : Nat → Nat} {N : Nat} (F : CallFix p m c cL_law 4 s #[Value.ref b] wsL_law RL) (hX0 : va_X b L xs s s.heap) (hbl : b < s.heap.size) (hK : KK D cyI cyJ cyB cyS s) (hX : SX adK adV (fun q : Nat => s.heap.size ≤ q) s s.heap) (k : Int32 → UX → UX → Option Int32) (hk : ∀ (x3 : Int32) (u w : UX) (H : Heap) (locs : List Loc) (ls : Array Slot), k x3 u w = some 1 → va_P D vwCl (WX cyI cyJ cyB cyS ax u ++ WM cyI cyJ cyB cyS am w) H → va_D (fun q : Nat => s.heap.size ≤ q) (WX cyI cyJ cyB cyS ax u ++ WM cyI cyJ cyB cyS am w) → va_S (fun q : Nat => s.heap.size ≤ q) s.heap H locs → lv_has ls 4 [(0, .ref b), (1, .ref (ax 0)), (2, .ref (am 0)), (3, .int x3)] → W p l e room_1 s m #[Value.ref b] below meth c H locs 109 4449 Q (F0 m 18 ls [])) (x3 : Int32) (u w : UX) (H : Heap) (locs : List Loc) (ls : Array Slot) (hf : fL_c17 N L xs k x3 u w = some 1) (hP : va_P D vwCl (WX cyI cyJ cyB cyS ax u ++ WM cyI cyJ cyB cyS am w) H) (hD : va_D (fun q : Nat => s.heap.size ≤ q) (WX cyI cyJ cyB cyS ax u ++ WM cyI cyJ cyB cyS am w)) (hS : va_S (fun q : Nat => s.heap.size ≤ q) s.heap H locs) (hl : lv_has ls 4 [(0, .ref b), (1, .ref (ax 0)), (2, .ref (am 0)), (3, .int x3)]) : W p l e room_1 s m #[Value.ref b] below meth c H locs 109 4449 Q (F0 m 703 ls []) := by
  have hx := F.1
  have hb := F.2.1
  have hA : ∀ q : Nat, s.heap.size ≤ q → (fun q : Nat => s.heap.size ≤ q) q := fun _ h => h
  have hbA : ¬ (fun q : Nat => s.heap.size ≤ q) b := Nat.not_le.mpr hbl
  unfold fL_c17 at hf
  refine lv_aload_n hx hb dL_law_703 rfl (lv_at hl 1 rfl) ?_
  refine lv_aload_n hx hb dL_law_704 rfl (lv_at hl 0 rfl) ?_
  refine lv_iload_n hx hb dL_law_705 rfl (lv_at hl 3 rfl) ?_
  refine lv_iconst (v := 1) hx hb dL_law_706 (by decide) ?_
  refine lv_iadd hx hb dL_law_707 ?_
  obtain ⟨h708, hf⟩ := pg_some hf
  refine va_sld hx hb hX0 hbl hbA hS h708 dL_law_708 ?_
  refine lv_aload_n hx hb dL_law_709 rfl (lv_at hl 0 rfl) ?_
  refine lv_iload_n hx hb dL_law_710 rfl (lv_at hl 3 rfl) ?_
  refine lv_iconst (v := 2) hx hb dL_law_711 (by decide) ?_
  refine lv_iadd hx hb dL_law_712 ?_
  obtain ⟨h713, hf⟩ := pg_some hf
  refine va_sld hx hb hX0 hbl hbA hS h713 dL_law_713 ?_
  refine lv_aload_n hx hb dL_law_714 rfl (lv_at hl 0 rfl) ?_
  refine lv_iload_n hx hb dL_law_715 rfl (lv_at hl 3 rfl) ?_
  refine lv_iconst (v := 3) hx hb dL_law_716 (by decide) ?_
  refine lv_iadd hx hb dL_law_717 ?_
  obtain ⟨h718, hf⟩ := pg_some hf
  refine va_sld hx hb hX0 hbl hbA hS h718 dL_law_718 ?_
  obtain ⟨r719, e719, hf⟩ := pb_some hf
  refine kX8_odds e719 F hK hP hD hS hA hl.1 (lv_room (Nat.le_of_ble_eq_true rfl)) (Nat.le_of_ble_eq_true rfl) (Nat.le_of_ble_eq_true rfl) dL_law_719 (fun H locs hP hD hS => ?_)
  refine lv_aload_n hx hb dL_law_722 rfl (lv_at hl 2 rfl) ?_
  refine lv_aload_n hx hb dL_law_723 rfl (lv_at hl 0 rfl) ?_
  refine lv_iload_n hx hb dL_law_724 rfl (lv_at hl 3 rfl) ?_
  refine lv_iconst (v := 1) hx hb dL_law_725 (by decide) ?_
  refine lv_iadd hx hb dL_law_726 ?_
  obtain ⟨h727, hf⟩ := pg_some hf
  refine va_sld hx hb hX0 hbl hbA hS h727 dL_law_727 ?_
  refine lv_aload_n hx hb dL_law_728 rfl (lv_at hl 0 rfl) ?_
  refine lv_iload_n hx hb dL_law_729 rfl (lv_at hl 3 rfl) ?_
  refine lv_iconst (v := 2) hx hb dL_law_730 (by decide) ?_
  refine lv_iadd hx hb dL_law_731 ?_
  obtain ⟨h732, hf⟩ := pg_some hf
  refine va_sld hx hb hX0 hbl hbA hS h732 dL_law_732 ?_
  refine lv_aload_n hx hb dL_law_733 rfl (lv_at hl 0 rfl) ?_
  refine lv_iload_n hx hb dL_law_734 rfl (lv_at hl 3 rfl) ?_
  refine lv_iconst (v := 3) hx hb dL_law_735 (by decide) ?_
  refine lv_iadd hx hb dL_law_736 ?_
  obtain ⟨h737, hf⟩ := pg_some hf
  refine va_sld hx hb hX0 hbl hbA hS h737 dL_law_737 ?_
  obtain ⟨r738, e738, hf⟩ := pb_some hf
  refine kX9_odds e738 F hK hP hD hS hA hl.1 (lv_room (Nat.le_of_ble_eq_true rfl)) (Nat.le_of_ble_eq_true rfl) (Nat.le_of_ble_eq_true rfl) dL_law_738 (fun H locs hP hD hS => ?_)
  refine W.lcmp hx hb dL_law_741 ?_
  refine lv_if_eq (tgt := 1132) hx hb dL_law_742 (by decide) (fun c742 => ?_) (fun c742 => ?_)
  · have hf := pif_t c742 hf
    refine lv_iinc (v := x3 + 6) (lv' := [(3, .int (x3 + 6)), (0, .ref b), (1, .ref (ax 0)), (2, .ref (am 0))]) hx hb dL_law_1132 hl (k := 3) rfl rfl (by decide) rfl (fun ls hl => ?_)
    refine lv_goto (tgt := 18) hx hb dL_law_1135 (by decide) ?_
    exact hk (x3 + 6) r719.2 r738.2 _ _ ls hf hP hD hS (lv_sub hl [1, 2, 3, 0] rfl)
  · have hf := pif_f c742 hf
    refine lv_iconst (v := 0) hx hb dL_law_745 (by decide) ?_
    exact absurd (Option.some.inj hf) (by decide)
set_option maxHeartbeats 40000000 in
set_option maxRecDepth 100000 in
theorem law_c18 {p : Program} {l : Launch} {e : Env} {s : State} {m : MethodId} {below : List Frame} {meth : Method} {c : Code} {Q : State → Prop} {D : va_G} {cyI cyJ cyB cyS : ClassId} {b L : Nat} {xs : Nat → Int32} {ax am adK adV : Nat → Nat} {N : Nat} (F : CallFix p m c cL_law 4 s #[Value.ref b] wsL_law RL) (hX0 : va_X b L xs s s.heap) (hbl : b < s.heap.size) (hK : KK D cyI cyJ cyB cyS s) (hX : SX adK adV (fun q : Nat => s.heap.size ≤ q) s s.heap) (k : Int32 → UX → UX → Option Int32) (hk : ∀ (x3 : Int32) (u w : UX) (H : Heap) (locs : List Loc) (ls : Array Slot), k x3 u w = some 1 → va_P D vwCl (WX cyI cyJ cyB cyS ax u ++ WM cyI cyJ cyB cyS am w) H → va_D (fun q : Nat => s.heap.size ≤ q) (WX cyI cyJ cyB cyS ax u ++ WM cyI cyJ cyB cyS am w) → va_S (fun q : Nat => s.heap.size ≤ q) s.heap H locs → lv_has ls 4 [(0, .ref b), (1, .ref (ax 0)), (2, .ref (am 0)), (3, .int x3)] → W p l e room_1 s m #[Value.ref b] below meth c H locs 109 4449 Q (F0 m 18 ls [])) (x3 : Int32) (u w : UX) (H : Heap) (locs : List Loc) (ls : Array Slot) (hf : fL_c18 N L xs k x3 u w = some 1) (hP : va_P D vwCl (WX cyI cyJ cyB cyS ax u ++ WM cyI cyJ cyB cyS am w) H) (hD : va_D (fun q : Nat => s.heap.size ≤ q) (WX cyI cyJ cyB cyS ax u ++ WM cyI cyJ cyB cyS am w)) (hS : va_S (fun q : Nat => s.heap.size ≤ q) s.heap H locs) (hl : lv_has ls 4 [(0, .ref b), (1, .ref (ax 0)), (2, .ref (am 0)), (3, .int x3)]) : W p l e room_1 s m #[Value.ref b] below meth c H locs 109 4449 Q (F0 m 747 ls []) := by
  have hx := F.1
  have hb := F.2.1
  have hA : ∀ q : Nat, s.heap.size ≤ q → (fun q : Nat => s.heap.size ≤ q) q := fun _ h => h
  have hbA : ¬ (fun q : Nat => s.heap.size ≤ q) b := Nat.not_le.mpr hbl
  unfold fL_c18 at hf
  refine lv_aload_n hx hb dL_law_747 rfl (lv_at hl 1 rfl) ?_
  refine lv_aload_n hx hb dL_law_748 rfl (lv_at hl 0 rfl) ?_
  refine lv_iload_n hx hb dL_law_749 rfl (lv_at hl 3 rfl) ?_
  refine lv_iconst (v := 1) hx hb dL_law_750 (by decide) ?_
  refine lv_iadd hx hb dL_law_751 ?_
  obtain ⟨h752, hf⟩ := pg_some hf
  refine va_sld hx hb hX0 hbl hbA hS h752 dL_law_752 ?_
  obtain ⟨r753, e753, hf⟩ := pb_some hf
  refine kX8_play e753 F hK hP hD hS hA hl.1 (lv_room (Nat.le_of_ble_eq_true rfl)) (Nat.le_of_ble_eq_true rfl) (Nat.le_of_ble_eq_true rfl) dL_law_753 (fun H locs hP hD hS => ?_)
  refine lv_aload_n hx hb dL_law_756 rfl (lv_at hl 2 rfl) ?_
  refine lv_aload_n hx hb dL_law_757 rfl (lv_at hl 0 rfl) ?_
  refine lv_iload_n hx hb dL_law_758 rfl (lv_at hl 3 rfl) ?_
  refine lv_iconst (v := 1) hx hb dL_law_759 (by decide) ?_
  refine lv_iadd hx hb dL_law_760 ?_
  obtain ⟨h761, hf⟩ := pg_some hf
  refine va_sld hx hb hX0 hbl hbA hS h761 dL_law_761 ?_
  obtain ⟨r762, e762, hf⟩ := pb_some hf
  refine kX9_play e762 F hK hP hD hS hA hl.1 (lv_room (Nat.le_of_ble_eq_true rfl)) (Nat.le_of_ble_eq_true rfl) (Nat.le_of_ble_eq_true rfl) dL_law_762 (fun H locs hP hD hS => ?_)
  refine lv_icmp_eq (tgt := 1132) hx hb dL_law_765 (by decide) (fun c765 => ?_) (fun c765 => ?_)
  · have hf := pif_t c765 hf
    refine lv_iinc (v := x3 + 6) (lv' := [(3, .int (x3 + 6)), (0, .ref b), (1, .ref (ax 0)), (2, .ref (am 0))]) hx hb dL_law_1132 hl (k := 3) rfl rfl (by decide) rfl (fun ls hl => ?_)
    refine lv_goto (tgt := 18) hx hb dL_law_1135 (by decide) ?_
    exact hk (x3 + 6) r753.2 r762.2 _ _ ls hf hP hD hS (lv_sub hl [1, 2, 3, 0] rfl)
  · have hf := pif_f c765 hf
    refine lv_iconst (v := 0) hx hb dL_law_768 (by decide) ?_
    exact absurd (Option.some.inj hf) (by decide)
set_option maxHeartbeats 40000000 in
set_option maxRecDepth 100000 in
theorem law_c19 {p : Program} {l : Launch} {e : Env} {s : State} {m : MethodId} {below : List Frame} {meth : Method} {c : Code} {Q : State → Prop} {D : va_G} {cyI cyJ cyB cyS : ClassId} {b L : Nat} {xs : Nat → Int32} {ax am adK adV : Nat → Nat} {N : Nat} (F : CallFix p m c cL_law 4 s #[Value.ref b] wsL_law RL) (hX0 : va_X b L xs s s.heap) (hbl : b < s.heap.size) (hK : KK D cyI cyJ cyB cyS s) (hX : SX adK adV (fun q : Nat => s.heap.size ≤ q) s s.heap) (k : Int32 → UX → UX → Option Int32) (hk : ∀ (x3 : Int32) (u w : UX) (H : Heap) (locs : List Loc) (ls : Array Slot), k x3 u w = some 1 → va_P D vwCl (WX cyI cyJ cyB cyS ax u ++ WM cyI cyJ cyB cyS am w) H → va_D (fun q : Nat => s.heap.size ≤ q) (WX cyI cyJ cyB cyS ax u ++ WM cyI cyJ cyB cyS am w) → va_S (fun q : Nat => s.heap.size ≤ q) s.heap H locs → lv_has ls 4 [(0, .ref b), (1, .ref (ax 0)), (2, .ref (am 0)), (3, .int x3)] → W p l e room_1 s m #[Value.ref b] below meth c H locs 109 4449 Q (F0 m 18 ls [])) (x3 : Int32) (u w : UX) (H : Heap) (locs : List Loc) (ls : Array Slot) (hf : fL_c19 N L xs k x3 u w = some 1) (hP : va_P D vwCl (WX cyI cyJ cyB cyS ax u ++ WM cyI cyJ cyB cyS am w) H) (hD : va_D (fun q : Nat => s.heap.size ≤ q) (WX cyI cyJ cyB cyS ax u ++ WM cyI cyJ cyB cyS am w)) (hS : va_S (fun q : Nat => s.heap.size ≤ q) s.heap H locs) (hl : lv_has ls 4 [(0, .ref b), (1, .ref (ax 0)), (2, .ref (am 0)), (3, .int x3)]) : W p l e room_1 s m #[Value.ref b] below meth c H locs 109 4449 Q (F0 m 770 ls []) := by
  have hx := F.1
  have hb := F.2.1
  have hA : ∀ q : Nat, s.heap.size ≤ q → (fun q : Nat => s.heap.size ≤ q) q := fun _ h => h
  have hbA : ¬ (fun q : Nat => s.heap.size ≤ q) b := Nat.not_le.mpr hbl
  unfold fL_c19 at hf
  refine lv_aload_n hx hb dL_law_770 rfl (lv_at hl 1 rfl) ?_
  refine lv_aload_n hx hb dL_law_771 rfl (lv_at hl 0 rfl) ?_
  refine lv_iload_n hx hb dL_law_772 rfl (lv_at hl 3 rfl) ?_
  refine lv_iconst (v := 1) hx hb dL_law_773 (by decide) ?_
  refine lv_iadd hx hb dL_law_774 ?_
  obtain ⟨h775, hf⟩ := pg_some hf
  refine va_sld hx hb hX0 hbl hbA hS h775 dL_law_775 ?_
  refine lv_aload_n hx hb dL_law_776 rfl (lv_at hl 0 rfl) ?_
  refine lv_iload_n hx hb dL_law_777 rfl (lv_at hl 3 rfl) ?_
  refine lv_iconst (v := 2) hx hb dL_law_778 (by decide) ?_
  refine lv_iadd hx hb dL_law_779 ?_
  obtain ⟨h780, hf⟩ := pg_some hf
  refine va_sld hx hb hX0 hbl hbA hS h780 dL_law_780 ?_
  obtain ⟨r781, e781, hf⟩ := pb_some hf
  refine kX8_played e781 F hK hP hD hS hA hl.1 (lv_room (Nat.le_of_ble_eq_true rfl)) (Nat.le_of_ble_eq_true rfl) (Nat.le_of_ble_eq_true rfl) dL_law_781 (fun H locs hP hD hS => ?_)
  refine lv_aload_n hx hb dL_law_784 rfl (lv_at hl 2 rfl) ?_
  refine lv_aload_n hx hb dL_law_785 rfl (lv_at hl 0 rfl) ?_
  refine lv_iload_n hx hb dL_law_786 rfl (lv_at hl 3 rfl) ?_
  refine lv_iconst (v := 1) hx hb dL_law_787 (by decide) ?_
  refine lv_iadd hx hb dL_law_788 ?_
  obtain ⟨h789, hf⟩ := pg_some hf
  refine va_sld hx hb hX0 hbl hbA hS h789 dL_law_789 ?_
  refine lv_aload_n hx hb dL_law_790 rfl (lv_at hl 0 rfl) ?_
  refine lv_iload_n hx hb dL_law_791 rfl (lv_at hl 3 rfl) ?_
  refine lv_iconst (v := 2) hx hb dL_law_792 (by decide) ?_
  refine lv_iadd hx hb dL_law_793 ?_
  obtain ⟨h794, hf⟩ := pg_some hf
  refine va_sld hx hb hX0 hbl hbA hS h794 dL_law_794 ?_
  obtain ⟨r795, e795, hf⟩ := pb_some hf
  refine kX9_played e795 F hK hP hD hS hA hl.1 (lv_room (Nat.le_of_ble_eq_true rfl)) (Nat.le_of_ble_eq_true rfl) (Nat.le_of_ble_eq_true rfl) dL_law_795 (fun H locs hP hD hS => ?_)
  refine W.lcmp hx hb dL_law_798 ?_
  refine lv_if_eq (tgt := 1132) hx hb dL_law_799 (by decide) (fun c799 => ?_) (fun c799 => ?_)
  · have hf := pif_t c799 hf
    refine lv_iinc (v := x3 + 6) (lv' := [(3, .int (x3 + 6)), (0, .ref b), (1, .ref (ax 0)), (2, .ref (am 0))]) hx hb dL_law_1132 hl (k := 3) rfl rfl (by decide) rfl (fun ls hl => ?_)
    refine lv_goto (tgt := 18) hx hb dL_law_1135 (by decide) ?_
    exact hk (x3 + 6) r781.2 r795.2 _ _ ls hf hP hD hS (lv_sub hl [1, 2, 3, 0] rfl)
  · have hf := pif_f c799 hf
    refine lv_iconst (v := 0) hx hb dL_law_802 (by decide) ?_
    exact absurd (Option.some.inj hf) (by decide)
set_option maxHeartbeats 40000000 in
set_option maxRecDepth 100000 in
theorem law_c20 {p : Program} {l : Launch} {e : Env} {s : State} {m : MethodId} {below : List Frame} {meth : Method} {c : Code} {Q : State → Prop} {D : va_G} {cyI cyJ cyB cyS : ClassId} {b L : Nat} {xs : Nat → Int32} {ax am adK adV : Nat → Nat} {N : Nat} (F : CallFix p m c cL_law 4 s #[Value.ref b] wsL_law RL) (hX0 : va_X b L xs s s.heap) (hbl : b < s.heap.size) (hK : KK D cyI cyJ cyB cyS s) (hX : SX adK adV (fun q : Nat => s.heap.size ≤ q) s s.heap) (k : Int32 → UX → UX → Option Int32) (hk : ∀ (x3 : Int32) (u w : UX) (H : Heap) (locs : List Loc) (ls : Array Slot), k x3 u w = some 1 → va_P D vwCl (WX cyI cyJ cyB cyS ax u ++ WM cyI cyJ cyB cyS am w) H → va_D (fun q : Nat => s.heap.size ≤ q) (WX cyI cyJ cyB cyS ax u ++ WM cyI cyJ cyB cyS am w) → va_S (fun q : Nat => s.heap.size ≤ q) s.heap H locs → lv_has ls 4 [(0, .ref b), (1, .ref (ax 0)), (2, .ref (am 0)), (3, .int x3)] → W p l e room_1 s m #[Value.ref b] below meth c H locs 109 4449 Q (F0 m 18 ls [])) (x3 : Int32) (u w : UX) (H : Heap) (locs : List Loc) (ls : Array Slot) (hf : fL_c20 N L xs k x3 u w = some 1) (hP : va_P D vwCl (WX cyI cyJ cyB cyS ax u ++ WM cyI cyJ cyB cyS am w) H) (hD : va_D (fun q : Nat => s.heap.size ≤ q) (WX cyI cyJ cyB cyS ax u ++ WM cyI cyJ cyB cyS am w)) (hS : va_S (fun q : Nat => s.heap.size ≤ q) s.heap H locs) (hl : lv_has ls 4 [(0, .ref b), (1, .ref (ax 0)), (2, .ref (am 0)), (3, .int x3)]) : W p l e room_1 s m #[Value.ref b] below meth c H locs 109 4449 Q (F0 m 804 ls []) := by
  have hx := F.1
  have hb := F.2.1
  have hA : ∀ q : Nat, s.heap.size ≤ q → (fun q : Nat => s.heap.size ≤ q) q := fun _ h => h
  have hbA : ¬ (fun q : Nat => s.heap.size ≤ q) b := Nat.not_le.mpr hbl
  unfold fL_c20 at hf
  refine lv_aload_n hx hb dL_law_804 rfl (lv_at hl 1 rfl) ?_
  refine lv_aload_n hx hb dL_law_805 rfl (lv_at hl 0 rfl) ?_
  refine lv_iload_n hx hb dL_law_806 rfl (lv_at hl 3 rfl) ?_
  refine lv_iconst (v := 1) hx hb dL_law_807 (by decide) ?_
  refine lv_iadd hx hb dL_law_808 ?_
  obtain ⟨h809, hf⟩ := pg_some hf
  refine va_sld hx hb hX0 hbl hbA hS h809 dL_law_809 ?_
  obtain ⟨r810, e810, hf⟩ := pb_some hf
  refine kX8_pays e810 F hK hP hD hS hA hl.1 (lv_room (Nat.le_of_ble_eq_true rfl)) (Nat.le_of_ble_eq_true rfl) (Nat.le_of_ble_eq_true rfl) dL_law_810 (fun H locs hP hD hS => ?_)
  refine lv_aload_n hx hb dL_law_813 rfl (lv_at hl 2 rfl) ?_
  refine lv_aload_n hx hb dL_law_814 rfl (lv_at hl 0 rfl) ?_
  refine lv_iload_n hx hb dL_law_815 rfl (lv_at hl 3 rfl) ?_
  refine lv_iconst (v := 1) hx hb dL_law_816 (by decide) ?_
  refine lv_iadd hx hb dL_law_817 ?_
  obtain ⟨h818, hf⟩ := pg_some hf
  refine va_sld hx hb hX0 hbl hbA hS h818 dL_law_818 ?_
  obtain ⟨r819, e819, hf⟩ := pb_some hf
  refine kX9_pays e819 F hK hP hD hS hA hl.1 (lv_room (Nat.le_of_ble_eq_true rfl)) (Nat.le_of_ble_eq_true rfl) (Nat.le_of_ble_eq_true rfl) dL_law_819 (fun H locs hP hD hS => ?_)
  refine lv_icmp_eq (tgt := 1132) hx hb dL_law_822 (by decide) (fun c822 => ?_) (fun c822 => ?_)
  · have hf := pif_t c822 hf
    refine lv_iinc (v := x3 + 6) (lv' := [(3, .int (x3 + 6)), (0, .ref b), (1, .ref (ax 0)), (2, .ref (am 0))]) hx hb dL_law_1132 hl (k := 3) rfl rfl (by decide) rfl (fun ls hl => ?_)
    refine lv_goto (tgt := 18) hx hb dL_law_1135 (by decide) ?_
    exact hk (x3 + 6) r810.2 r819.2 _ _ ls hf hP hD hS (lv_sub hl [1, 2, 3, 0] rfl)
  · have hf := pif_f c822 hf
    refine lv_iconst (v := 0) hx hb dL_law_825 (by decide) ?_
    exact absurd (Option.some.inj hf) (by decide)
set_option maxHeartbeats 40000000 in
set_option maxRecDepth 100000 in
theorem law_c21 {p : Program} {l : Launch} {e : Env} {s : State} {m : MethodId} {below : List Frame} {meth : Method} {c : Code} {Q : State → Prop} {D : va_G} {cyI cyJ cyB cyS : ClassId} {b L : Nat} {xs : Nat → Int32} {ax am adK adV : Nat → Nat} {N : Nat} (F : CallFix p m c cL_law 4 s #[Value.ref b] wsL_law RL) (hX0 : va_X b L xs s s.heap) (hbl : b < s.heap.size) (hK : KK D cyI cyJ cyB cyS s) (hX : SX adK adV (fun q : Nat => s.heap.size ≤ q) s s.heap) (k : Int32 → UX → UX → Option Int32) (hk : ∀ (x3 : Int32) (u w : UX) (H : Heap) (locs : List Loc) (ls : Array Slot), k x3 u w = some 1 → va_P D vwCl (WX cyI cyJ cyB cyS ax u ++ WM cyI cyJ cyB cyS am w) H → va_D (fun q : Nat => s.heap.size ≤ q) (WX cyI cyJ cyB cyS ax u ++ WM cyI cyJ cyB cyS am w) → va_S (fun q : Nat => s.heap.size ≤ q) s.heap H locs → lv_has ls 4 [(0, .ref b), (1, .ref (ax 0)), (2, .ref (am 0)), (3, .int x3)] → W p l e room_1 s m #[Value.ref b] below meth c H locs 109 4449 Q (F0 m 18 ls [])) (x3 : Int32) (u w : UX) (H : Heap) (locs : List Loc) (ls : Array Slot) (hf : fL_c21 N L xs k x3 u w = some 1) (hP : va_P D vwCl (WX cyI cyJ cyB cyS ax u ++ WM cyI cyJ cyB cyS am w) H) (hD : va_D (fun q : Nat => s.heap.size ≤ q) (WX cyI cyJ cyB cyS ax u ++ WM cyI cyJ cyB cyS am w)) (hS : va_S (fun q : Nat => s.heap.size ≤ q) s.heap H locs) (hl : lv_has ls 4 [(0, .ref b), (1, .ref (ax 0)), (2, .ref (am 0)), (3, .int x3)]) : W p l e room_1 s m #[Value.ref b] below meth c H locs 109 4449 Q (F0 m 827 ls []) := by
  have hx := F.1
  have hb := F.2.1
  have hA : ∀ q : Nat, s.heap.size ≤ q → (fun q : Nat => s.heap.size ≤ q) q := fun _ h => h
  have hbA : ¬ (fun q : Nat => s.heap.size ≤ q) b := Nat.not_le.mpr hbl
  unfold fL_c21 at hf
  refine lv_aload_n hx hb dL_law_827 rfl (lv_at hl 1 rfl) ?_
  refine lv_aload_n hx hb dL_law_828 rfl (lv_at hl 0 rfl) ?_
  refine lv_iload_n hx hb dL_law_829 rfl (lv_at hl 3 rfl) ?_
  refine lv_iconst (v := 1) hx hb dL_law_830 (by decide) ?_
  refine lv_iadd hx hb dL_law_831 ?_
  obtain ⟨h832, hf⟩ := pg_some hf
  refine va_sld hx hb hX0 hbl hbA hS h832 dL_law_832 ?_
  refine lv_aload_n hx hb dL_law_833 rfl (lv_at hl 0 rfl) ?_
  refine lv_iload_n hx hb dL_law_834 rfl (lv_at hl 3 rfl) ?_
  refine lv_iconst (v := 2) hx hb dL_law_835 (by decide) ?_
  refine lv_iadd hx hb dL_law_836 ?_
  obtain ⟨h837, hf⟩ := pg_some hf
  refine va_sld hx hb hX0 hbl hbA hS h837 dL_law_837 ?_
  refine lv_aload_n hx hb dL_law_838 rfl (lv_at hl 0 rfl) ?_
  refine lv_iload_n hx hb dL_law_839 rfl (lv_at hl 3 rfl) ?_
  refine lv_iconst (v := 3) hx hb dL_law_840 (by decide) ?_
  refine lv_iadd hx hb dL_law_841 ?_
  obtain ⟨h842, hf⟩ := pg_some hf
  refine va_sld hx hb hX0 hbl hbA hS h842 dL_law_842 ?_
  obtain ⟨r843, e843, hf⟩ := pb_some hf
  refine kX8_years e843 F hK hP hD hS hA hl.1 (lv_room (Nat.le_of_ble_eq_true rfl)) (Nat.le_of_ble_eq_true rfl) (Nat.le_of_ble_eq_true rfl) dL_law_843 (fun H locs hP hD hS => ?_)
  refine lv_aload_n hx hb dL_law_846 rfl (lv_at hl 2 rfl) ?_
  refine lv_aload_n hx hb dL_law_847 rfl (lv_at hl 0 rfl) ?_
  refine lv_iload_n hx hb dL_law_848 rfl (lv_at hl 3 rfl) ?_
  refine lv_iconst (v := 1) hx hb dL_law_849 (by decide) ?_
  refine lv_iadd hx hb dL_law_850 ?_
  obtain ⟨h851, hf⟩ := pg_some hf
  refine va_sld hx hb hX0 hbl hbA hS h851 dL_law_851 ?_
  refine lv_aload_n hx hb dL_law_852 rfl (lv_at hl 0 rfl) ?_
  refine lv_iload_n hx hb dL_law_853 rfl (lv_at hl 3 rfl) ?_
  refine lv_iconst (v := 2) hx hb dL_law_854 (by decide) ?_
  refine lv_iadd hx hb dL_law_855 ?_
  obtain ⟨h856, hf⟩ := pg_some hf
  refine va_sld hx hb hX0 hbl hbA hS h856 dL_law_856 ?_
  refine lv_aload_n hx hb dL_law_857 rfl (lv_at hl 0 rfl) ?_
  refine lv_iload_n hx hb dL_law_858 rfl (lv_at hl 3 rfl) ?_
  refine lv_iconst (v := 3) hx hb dL_law_859 (by decide) ?_
  refine lv_iadd hx hb dL_law_860 ?_
  obtain ⟨h861, hf⟩ := pg_some hf
  refine va_sld hx hb hX0 hbl hbA hS h861 dL_law_861 ?_
  obtain ⟨r862, e862, hf⟩ := pb_some hf
  refine kX9_years e862 F hK hP hD hS hA hl.1 (lv_room (Nat.le_of_ble_eq_true rfl)) (Nat.le_of_ble_eq_true rfl) (Nat.le_of_ble_eq_true rfl) dL_law_862 (fun H locs hP hD hS => ?_)
  refine lv_icmp_eq (tgt := 1132) hx hb dL_law_865 (by decide) (fun c865 => ?_) (fun c865 => ?_)
  · have hf := pif_t c865 hf
    refine lv_iinc (v := x3 + 6) (lv' := [(3, .int (x3 + 6)), (0, .ref b), (1, .ref (ax 0)), (2, .ref (am 0))]) hx hb dL_law_1132 hl (k := 3) rfl rfl (by decide) rfl (fun ls hl => ?_)
    refine lv_goto (tgt := 18) hx hb dL_law_1135 (by decide) ?_
    exact hk (x3 + 6) r843.2 r862.2 _ _ ls hf hP hD hS (lv_sub hl [1, 2, 3, 0] rfl)
  · have hf := pif_f c865 hf
    refine lv_iconst (v := 0) hx hb dL_law_868 (by decide) ?_
    exact absurd (Option.some.inj hf) (by decide)
set_option maxHeartbeats 40000000 in
set_option maxRecDepth 100000 in
theorem law_c22 {p : Program} {l : Launch} {e : Env} {s : State} {m : MethodId} {below : List Frame} {meth : Method} {c : Code} {Q : State → Prop} {D : va_G} {cyI cyJ cyB cyS : ClassId} {b L : Nat} {xs : Nat → Int32} {ax am adK adV : Nat → Nat} {N : Nat} (F : CallFix p m c cL_law 4 s #[Value.ref b] wsL_law RL) (hX0 : va_X b L xs s s.heap) (hbl : b < s.heap.size) (hK : KK D cyI cyJ cyB cyS s) (hX : SX adK adV (fun q : Nat => s.heap.size ≤ q) s s.heap) (k : Int32 → UX → UX → Option Int32) (hk : ∀ (x3 : Int32) (u w : UX) (H : Heap) (locs : List Loc) (ls : Array Slot), k x3 u w = some 1 → va_P D vwCl (WX cyI cyJ cyB cyS ax u ++ WM cyI cyJ cyB cyS am w) H → va_D (fun q : Nat => s.heap.size ≤ q) (WX cyI cyJ cyB cyS ax u ++ WM cyI cyJ cyB cyS am w) → va_S (fun q : Nat => s.heap.size ≤ q) s.heap H locs → lv_has ls 4 [(0, .ref b), (1, .ref (ax 0)), (2, .ref (am 0)), (3, .int x3)] → W p l e room_1 s m #[Value.ref b] below meth c H locs 109 4449 Q (F0 m 18 ls [])) (x3 : Int32) (u w : UX) (H : Heap) (locs : List Loc) (ls : Array Slot) (hf : fL_c22 N L xs k x3 u w = some 1) (hP : va_P D vwCl (WX cyI cyJ cyB cyS ax u ++ WM cyI cyJ cyB cyS am w) H) (hD : va_D (fun q : Nat => s.heap.size ≤ q) (WX cyI cyJ cyB cyS ax u ++ WM cyI cyJ cyB cyS am w)) (hS : va_S (fun q : Nat => s.heap.size ≤ q) s.heap H locs) (hl : lv_has ls 4 [(0, .ref b), (1, .ref (ax 0)), (2, .ref (am 0)), (3, .int x3)]) : W p l e room_1 s m #[Value.ref b] below meth c H locs 109 4449 Q (F0 m 870 ls []) := by
  have hx := F.1
  have hb := F.2.1
  have hA : ∀ q : Nat, s.heap.size ≤ q → (fun q : Nat => s.heap.size ≤ q) q := fun _ h => h
  have hbA : ¬ (fun q : Nat => s.heap.size ≤ q) b := Nat.not_le.mpr hbl
  unfold fL_c22 at hf
  refine lv_aload_n hx hb dL_law_870 rfl (lv_at hl 1 rfl) ?_
  refine lv_aload_n hx hb dL_law_871 rfl (lv_at hl 0 rfl) ?_
  refine lv_iload_n hx hb dL_law_872 rfl (lv_at hl 3 rfl) ?_
  refine lv_iconst (v := 1) hx hb dL_law_873 (by decide) ?_
  refine lv_iadd hx hb dL_law_874 ?_
  obtain ⟨h875, hf⟩ := pg_some hf
  refine va_sld hx hb hX0 hbl hbA hS h875 dL_law_875 ?_
  refine lv_aload_n hx hb dL_law_876 rfl (lv_at hl 0 rfl) ?_
  refine lv_iload_n hx hb dL_law_877 rfl (lv_at hl 3 rfl) ?_
  refine lv_iconst (v := 2) hx hb dL_law_878 (by decide) ?_
  refine lv_iadd hx hb dL_law_879 ?_
  obtain ⟨h880, hf⟩ := pg_some hf
  refine va_sld hx hb hX0 hbl hbA hS h880 dL_law_880 ?_
  refine lv_aload_n hx hb dL_law_881 rfl (lv_at hl 0 rfl) ?_
  refine lv_iload_n hx hb dL_law_882 rfl (lv_at hl 3 rfl) ?_
  refine lv_iconst (v := 3) hx hb dL_law_883 (by decide) ?_
  refine lv_iadd hx hb dL_law_884 ?_
  obtain ⟨h885, hf⟩ := pg_some hf
  refine va_sld hx hb hX0 hbl hbA hS h885 dL_law_885 ?_
  obtain ⟨r886, e886, hf⟩ := pb_some hf
  refine kX8_thumbs e886 F hK hP hD hS hA hl.1 (lv_room (Nat.le_of_ble_eq_true rfl)) (Nat.le_of_ble_eq_true rfl) (Nat.le_of_ble_eq_true rfl) dL_law_886 (fun H locs hP hD hS => ?_)
  refine lv_aload_n hx hb dL_law_889 rfl (lv_at hl 2 rfl) ?_
  refine lv_aload_n hx hb dL_law_890 rfl (lv_at hl 0 rfl) ?_
  refine lv_iload_n hx hb dL_law_891 rfl (lv_at hl 3 rfl) ?_
  refine lv_iconst (v := 1) hx hb dL_law_892 (by decide) ?_
  refine lv_iadd hx hb dL_law_893 ?_
  obtain ⟨h894, hf⟩ := pg_some hf
  refine va_sld hx hb hX0 hbl hbA hS h894 dL_law_894 ?_
  refine lv_aload_n hx hb dL_law_895 rfl (lv_at hl 0 rfl) ?_
  refine lv_iload_n hx hb dL_law_896 rfl (lv_at hl 3 rfl) ?_
  refine lv_iconst (v := 2) hx hb dL_law_897 (by decide) ?_
  refine lv_iadd hx hb dL_law_898 ?_
  obtain ⟨h899, hf⟩ := pg_some hf
  refine va_sld hx hb hX0 hbl hbA hS h899 dL_law_899 ?_
  refine lv_aload_n hx hb dL_law_900 rfl (lv_at hl 0 rfl) ?_
  refine lv_iload_n hx hb dL_law_901 rfl (lv_at hl 3 rfl) ?_
  refine lv_iconst (v := 3) hx hb dL_law_902 (by decide) ?_
  refine lv_iadd hx hb dL_law_903 ?_
  obtain ⟨h904, hf⟩ := pg_some hf
  refine va_sld hx hb hX0 hbl hbA hS h904 dL_law_904 ?_
  obtain ⟨r905, e905, hf⟩ := pb_some hf
  refine kX9_thumbs e905 F hK hP hD hS hA hl.1 (lv_room (Nat.le_of_ble_eq_true rfl)) (Nat.le_of_ble_eq_true rfl) (Nat.le_of_ble_eq_true rfl) dL_law_905 (fun H locs hP hD hS => ?_)
  refine W.lcmp hx hb dL_law_908 ?_
  refine lv_if_eq (tgt := 1132) hx hb dL_law_909 (by decide) (fun c909 => ?_) (fun c909 => ?_)
  · have hf := pif_t c909 hf
    refine lv_iinc (v := x3 + 6) (lv' := [(3, .int (x3 + 6)), (0, .ref b), (1, .ref (ax 0)), (2, .ref (am 0))]) hx hb dL_law_1132 hl (k := 3) rfl rfl (by decide) rfl (fun ls hl => ?_)
    refine lv_goto (tgt := 18) hx hb dL_law_1135 (by decide) ?_
    exact hk (x3 + 6) r886.2 r905.2 _ _ ls hf hP hD hS (lv_sub hl [1, 2, 3, 0] rfl)
  · have hf := pif_f c909 hf
    refine lv_iconst (v := 0) hx hb dL_law_912 (by decide) ?_
    exact absurd (Option.some.inj hf) (by decide)
set_option maxHeartbeats 40000000 in
set_option maxRecDepth 100000 in
theorem law_c23 {p : Program} {l : Launch} {e : Env} {s : State} {m : MethodId} {below : List Frame} {meth : Method} {c : Code} {Q : State → Prop} {D : va_G} {cyI cyJ cyB cyS : ClassId} {b L : Nat} {xs : Nat → Int32} {ax am adK adV : Nat → Nat} {N : Nat} (F : CallFix p m c cL_law 4 s #[Value.ref b] wsL_law RL) (hX0 : va_X b L xs s s.heap) (hbl : b < s.heap.size) (hK : KK D cyI cyJ cyB cyS s) (hX : SX adK adV (fun q : Nat => s.heap.size ≤ q) s s.heap) (k : Int32 → UX → UX → Option Int32) (hk : ∀ (x3 : Int32) (u w : UX) (H : Heap) (locs : List Loc) (ls : Array Slot), k x3 u w = some 1 → va_P D vwCl (WX cyI cyJ cyB cyS ax u ++ WM cyI cyJ cyB cyS am w) H → va_D (fun q : Nat => s.heap.size ≤ q) (WX cyI cyJ cyB cyS ax u ++ WM cyI cyJ cyB cyS am w) → va_S (fun q : Nat => s.heap.size ≤ q) s.heap H locs → lv_has ls 4 [(0, .ref b), (1, .ref (ax 0)), (2, .ref (am 0)), (3, .int x3)] → W p l e room_1 s m #[Value.ref b] below meth c H locs 109 4449 Q (F0 m 18 ls [])) (x3 : Int32) (u w : UX) (H : Heap) (locs : List Loc) (ls : Array Slot) (hf : fL_c23 N L xs k x3 u w = some 1) (hP : va_P D vwCl (WX cyI cyJ cyB cyS ax u ++ WM cyI cyJ cyB cyS am w) H) (hD : va_D (fun q : Nat => s.heap.size ≤ q) (WX cyI cyJ cyB cyS ax u ++ WM cyI cyJ cyB cyS am w)) (hS : va_S (fun q : Nat => s.heap.size ≤ q) s.heap H locs) (hl : lv_has ls 4 [(0, .ref b), (1, .ref (ax 0)), (2, .ref (am 0)), (3, .int x3)]) : W p l e room_1 s m #[Value.ref b] below meth c H locs 109 4449 Q (F0 m 914 ls []) := by
  have hx := F.1
  have hb := F.2.1
  have hA : ∀ q : Nat, s.heap.size ≤ q → (fun q : Nat => s.heap.size ≤ q) q := fun _ h => h
  have hbA : ¬ (fun q : Nat => s.heap.size ≤ q) b := Nat.not_le.mpr hbl
  unfold fL_c23 at hf
  refine lv_aload_n hx hb dL_law_914 rfl (lv_at hl 1 rfl) ?_
  refine lv_aload_n hx hb dL_law_915 rfl (lv_at hl 0 rfl) ?_
  refine lv_iload_n hx hb dL_law_916 rfl (lv_at hl 3 rfl) ?_
  refine lv_iconst (v := 1) hx hb dL_law_917 (by decide) ?_
  refine lv_iadd hx hb dL_law_918 ?_
  obtain ⟨h919, hf⟩ := pg_some hf
  refine va_sld hx hb hX0 hbl hbA hS h919 dL_law_919 ?_
  refine lv_aload_n hx hb dL_law_920 rfl (lv_at hl 0 rfl) ?_
  refine lv_iload_n hx hb dL_law_921 rfl (lv_at hl 3 rfl) ?_
  refine lv_iconst (v := 2) hx hb dL_law_922 (by decide) ?_
  refine lv_iadd hx hb dL_law_923 ?_
  obtain ⟨h924, hf⟩ := pg_some hf
  refine va_sld hx hb hX0 hbl hbA hS h924 dL_law_924 ?_
  obtain ⟨r925, e925, hf⟩ := pb_some hf
  refine kX8_fine e925 F hK hP hD hS hA hl.1 (lv_room (Nat.le_of_ble_eq_true rfl)) (Nat.le_of_ble_eq_true rfl) (Nat.le_of_ble_eq_true rfl) dL_law_925 (fun H locs hP hD hS => ?_)
  refine lv_aload_n hx hb dL_law_928 rfl (lv_at hl 2 rfl) ?_
  refine lv_aload_n hx hb dL_law_929 rfl (lv_at hl 0 rfl) ?_
  refine lv_iload_n hx hb dL_law_930 rfl (lv_at hl 3 rfl) ?_
  refine lv_iconst (v := 1) hx hb dL_law_931 (by decide) ?_
  refine lv_iadd hx hb dL_law_932 ?_
  obtain ⟨h933, hf⟩ := pg_some hf
  refine va_sld hx hb hX0 hbl hbA hS h933 dL_law_933 ?_
  refine lv_aload_n hx hb dL_law_934 rfl (lv_at hl 0 rfl) ?_
  refine lv_iload_n hx hb dL_law_935 rfl (lv_at hl 3 rfl) ?_
  refine lv_iconst (v := 2) hx hb dL_law_936 (by decide) ?_
  refine lv_iadd hx hb dL_law_937 ?_
  obtain ⟨h938, hf⟩ := pg_some hf
  refine va_sld hx hb hX0 hbl hbA hS h938 dL_law_938 ?_
  obtain ⟨r939, e939, hf⟩ := pb_some hf
  refine kX9_fine e939 F hK hP hD hS hA hl.1 (lv_room (Nat.le_of_ble_eq_true rfl)) (Nat.le_of_ble_eq_true rfl) (Nat.le_of_ble_eq_true rfl) dL_law_939 (fun H locs hP hD hS => ?_)
  refine lv_icmp_eq (tgt := 1132) hx hb dL_law_942 (by decide) (fun c942 => ?_) (fun c942 => ?_)
  · have hf := pif_t c942 hf
    refine lv_iinc (v := x3 + 6) (lv' := [(3, .int (x3 + 6)), (0, .ref b), (1, .ref (ax 0)), (2, .ref (am 0))]) hx hb dL_law_1132 hl (k := 3) rfl rfl (by decide) rfl (fun ls hl => ?_)
    refine lv_goto (tgt := 18) hx hb dL_law_1135 (by decide) ?_
    exact hk (x3 + 6) r925.2 r939.2 _ _ ls hf hP hD hS (lv_sub hl [1, 2, 3, 0] rfl)
  · have hf := pif_f c942 hf
    refine lv_iconst (v := 0) hx hb dL_law_945 (by decide) ?_
    exact absurd (Option.some.inj hf) (by decide)
set_option maxHeartbeats 40000000 in
set_option maxRecDepth 100000 in
theorem law_c24 {p : Program} {l : Launch} {e : Env} {s : State} {m : MethodId} {below : List Frame} {meth : Method} {c : Code} {Q : State → Prop} {D : va_G} {cyI cyJ cyB cyS : ClassId} {b L : Nat} {xs : Nat → Int32} {ax am adK adV : Nat → Nat} {N : Nat} (F : CallFix p m c cL_law 4 s #[Value.ref b] wsL_law RL) (hX0 : va_X b L xs s s.heap) (hbl : b < s.heap.size) (hK : KK D cyI cyJ cyB cyS s) (hX : SX adK adV (fun q : Nat => s.heap.size ≤ q) s s.heap) (k : Int32 → UX → UX → Option Int32) (hk : ∀ (x3 : Int32) (u w : UX) (H : Heap) (locs : List Loc) (ls : Array Slot), k x3 u w = some 1 → va_P D vwCl (WX cyI cyJ cyB cyS ax u ++ WM cyI cyJ cyB cyS am w) H → va_D (fun q : Nat => s.heap.size ≤ q) (WX cyI cyJ cyB cyS ax u ++ WM cyI cyJ cyB cyS am w) → va_S (fun q : Nat => s.heap.size ≤ q) s.heap H locs → lv_has ls 4 [(0, .ref b), (1, .ref (ax 0)), (2, .ref (am 0)), (3, .int x3)] → W p l e room_1 s m #[Value.ref b] below meth c H locs 109 4449 Q (F0 m 18 ls [])) (x3 : Int32) (u w : UX) (H : Heap) (locs : List Loc) (ls : Array Slot) (hf : fL_c24 N L xs k x3 u w = some 1) (hP : va_P D vwCl (WX cyI cyJ cyB cyS ax u ++ WM cyI cyJ cyB cyS am w) H) (hD : va_D (fun q : Nat => s.heap.size ≤ q) (WX cyI cyJ cyB cyS ax u ++ WM cyI cyJ cyB cyS am w)) (hS : va_S (fun q : Nat => s.heap.size ≤ q) s.heap H locs) (hl : lv_has ls 4 [(0, .ref b), (1, .ref (ax 0)), (2, .ref (am 0)), (3, .int x3)]) : W p l e room_1 s m #[Value.ref b] below meth c H locs 109 4449 Q (F0 m 947 ls []) := by
  have hx := F.1
  have hb := F.2.1
  have hA : ∀ q : Nat, s.heap.size ≤ q → (fun q : Nat => s.heap.size ≤ q) q := fun _ h => h
  have hbA : ¬ (fun q : Nat => s.heap.size ≤ q) b := Nat.not_le.mpr hbl
  unfold fL_c24 at hf
  refine lv_aload_n hx hb dL_law_947 rfl (lv_at hl 1 rfl) ?_
  refine lv_aload_n hx hb dL_law_948 rfl (lv_at hl 0 rfl) ?_
  refine lv_iload_n hx hb dL_law_949 rfl (lv_at hl 3 rfl) ?_
  refine lv_iconst (v := 1) hx hb dL_law_950 (by decide) ?_
  refine lv_iadd hx hb dL_law_951 ?_
  obtain ⟨h952, hf⟩ := pg_some hf
  refine va_sld hx hb hX0 hbl hbA hS h952 dL_law_952 ?_
  refine lv_aload_n hx hb dL_law_953 rfl (lv_at hl 0 rfl) ?_
  refine lv_iload_n hx hb dL_law_954 rfl (lv_at hl 3 rfl) ?_
  refine lv_iconst (v := 2) hx hb dL_law_955 (by decide) ?_
  refine lv_iadd hx hb dL_law_956 ?_
  obtain ⟨h957, hf⟩ := pg_some hf
  refine va_sld hx hb hX0 hbl hbA hS h957 dL_law_957 ?_
  refine lv_aload_n hx hb dL_law_958 rfl (lv_at hl 0 rfl) ?_
  refine lv_iload_n hx hb dL_law_959 rfl (lv_at hl 3 rfl) ?_
  refine lv_iconst (v := 3) hx hb dL_law_960 (by decide) ?_
  refine lv_iadd hx hb dL_law_961 ?_
  obtain ⟨h962, hf⟩ := pg_some hf
  refine va_sld hx hb hX0 hbl hbA hS h962 dL_law_962 ?_
  obtain ⟨r963, e963, hf⟩ := pb_some hf
  refine kX8_sheet e963 F hK hP hD hS hA hl.1 (lv_room (Nat.le_of_ble_eq_true rfl)) (Nat.le_of_ble_eq_true rfl) (Nat.le_of_ble_eq_true rfl) dL_law_963 (fun H locs hP hD hS => ?_)
  refine lv_aload_n hx hb dL_law_966 rfl (lv_at hl 2 rfl) ?_
  refine lv_aload_n hx hb dL_law_967 rfl (lv_at hl 0 rfl) ?_
  refine lv_iload_n hx hb dL_law_968 rfl (lv_at hl 3 rfl) ?_
  refine lv_iconst (v := 1) hx hb dL_law_969 (by decide) ?_
  refine lv_iadd hx hb dL_law_970 ?_
  obtain ⟨h971, hf⟩ := pg_some hf
  refine va_sld hx hb hX0 hbl hbA hS h971 dL_law_971 ?_
  refine lv_aload_n hx hb dL_law_972 rfl (lv_at hl 0 rfl) ?_
  refine lv_iload_n hx hb dL_law_973 rfl (lv_at hl 3 rfl) ?_
  refine lv_iconst (v := 2) hx hb dL_law_974 (by decide) ?_
  refine lv_iadd hx hb dL_law_975 ?_
  obtain ⟨h976, hf⟩ := pg_some hf
  refine va_sld hx hb hX0 hbl hbA hS h976 dL_law_976 ?_
  refine lv_aload_n hx hb dL_law_977 rfl (lv_at hl 0 rfl) ?_
  refine lv_iload_n hx hb dL_law_978 rfl (lv_at hl 3 rfl) ?_
  refine lv_iconst (v := 3) hx hb dL_law_979 (by decide) ?_
  refine lv_iadd hx hb dL_law_980 ?_
  obtain ⟨h981, hf⟩ := pg_some hf
  refine va_sld hx hb hX0 hbl hbA hS h981 dL_law_981 ?_
  obtain ⟨r982, e982, hf⟩ := pb_some hf
  refine kX9_sheet e982 F hK hP hD hS hA hl.1 (lv_room (Nat.le_of_ble_eq_true rfl)) (Nat.le_of_ble_eq_true rfl) (Nat.le_of_ble_eq_true rfl) dL_law_982 (fun H locs hP hD hS => ?_)
  refine lv_icmp_eq (tgt := 1132) hx hb dL_law_985 (by decide) (fun c985 => ?_) (fun c985 => ?_)
  · have hf := pif_t c985 hf
    refine lv_iinc (v := x3 + 6) (lv' := [(3, .int (x3 + 6)), (0, .ref b), (1, .ref (ax 0)), (2, .ref (am 0))]) hx hb dL_law_1132 hl (k := 3) rfl rfl (by decide) rfl (fun ls hl => ?_)
    refine lv_goto (tgt := 18) hx hb dL_law_1135 (by decide) ?_
    exact hk (x3 + 6) r963.2 r982.2 _ _ ls hf hP hD hS (lv_sub hl [1, 2, 3, 0] rfl)
  · have hf := pif_f c985 hf
    refine lv_iconst (v := 0) hx hb dL_law_988 (by decide) ?_
    exact absurd (Option.some.inj hf) (by decide)
set_option maxHeartbeats 40000000 in
set_option maxRecDepth 100000 in
theorem law_c25 {p : Program} {l : Launch} {e : Env} {s : State} {m : MethodId} {below : List Frame} {meth : Method} {c : Code} {Q : State → Prop} {D : va_G} {cyI cyJ cyB cyS : ClassId} {b L : Nat} {xs : Nat → Int32} {ax am adK adV : Nat → Nat} {N : Nat} (F : CallFix p m c cL_law 4 s #[Value.ref b] wsL_law RL) (hX0 : va_X b L xs s s.heap) (hbl : b < s.heap.size) (hK : KK D cyI cyJ cyB cyS s) (hX : SX adK adV (fun q : Nat => s.heap.size ≤ q) s s.heap) (k : Int32 → UX → UX → Option Int32) (hk : ∀ (x3 : Int32) (u w : UX) (H : Heap) (locs : List Loc) (ls : Array Slot), k x3 u w = some 1 → va_P D vwCl (WX cyI cyJ cyB cyS ax u ++ WM cyI cyJ cyB cyS am w) H → va_D (fun q : Nat => s.heap.size ≤ q) (WX cyI cyJ cyB cyS ax u ++ WM cyI cyJ cyB cyS am w) → va_S (fun q : Nat => s.heap.size ≤ q) s.heap H locs → lv_has ls 4 [(0, .ref b), (1, .ref (ax 0)), (2, .ref (am 0)), (3, .int x3)] → W p l e room_1 s m #[Value.ref b] below meth c H locs 109 4449 Q (F0 m 18 ls [])) (x3 : Int32) (u w : UX) (H : Heap) (locs : List Loc) (ls : Array Slot) (hf : fL_c25 N L xs k x3 u w = some 1) (hP : va_P D vwCl (WX cyI cyJ cyB cyS ax u ++ WM cyI cyJ cyB cyS am w) H) (hD : va_D (fun q : Nat => s.heap.size ≤ q) (WX cyI cyJ cyB cyS ax u ++ WM cyI cyJ cyB cyS am w)) (hS : va_S (fun q : Nat => s.heap.size ≤ q) s.heap H locs) (hl : lv_has ls 4 [(0, .ref b), (1, .ref (ax 0)), (2, .ref (am 0)), (3, .int x3)]) : W p l e room_1 s m #[Value.ref b] below meth c H locs 109 4449 Q (F0 m 990 ls []) := by
  have hx := F.1
  have hb := F.2.1
  have hA : ∀ q : Nat, s.heap.size ≤ q → (fun q : Nat => s.heap.size ≤ q) q := fun _ h => h
  have hbA : ¬ (fun q : Nat => s.heap.size ≤ q) b := Nat.not_le.mpr hbl
  unfold fL_c25 at hf
  refine lv_aload_n hx hb dL_law_990 rfl (lv_at hl 1 rfl) ?_
  refine lv_aload_n hx hb dL_law_991 rfl (lv_at hl 0 rfl) ?_
  refine lv_iload_n hx hb dL_law_992 rfl (lv_at hl 3 rfl) ?_
  refine lv_iconst (v := 1) hx hb dL_law_993 (by decide) ?_
  refine lv_iadd hx hb dL_law_994 ?_
  obtain ⟨h995, hf⟩ := pg_some hf
  refine va_sld hx hb hX0 hbl hbA hS h995 dL_law_995 ?_
  refine lv_aload_n hx hb dL_law_996 rfl (lv_at hl 0 rfl) ?_
  refine lv_iload_n hx hb dL_law_997 rfl (lv_at hl 3 rfl) ?_
  refine lv_iconst (v := 2) hx hb dL_law_998 (by decide) ?_
  refine lv_iadd hx hb dL_law_999 ?_
  obtain ⟨h1000, hf⟩ := pg_some hf
  refine va_sld hx hb hX0 hbl hbA hS h1000 dL_law_1000 ?_
  refine lv_aload_n hx hb dL_law_1001 rfl (lv_at hl 0 rfl) ?_
  refine lv_iload_n hx hb dL_law_1002 rfl (lv_at hl 3 rfl) ?_
  refine lv_iconst (v := 3) hx hb dL_law_1003 (by decide) ?_
  refine lv_iadd hx hb dL_law_1004 ?_
  obtain ⟨h1005, hf⟩ := pg_some hf
  refine va_sld hx hb hX0 hbl hbA hS h1005 dL_law_1005 ?_
  obtain ⟨r1006, e1006, hf⟩ := pb_some hf
  refine kX8_lay e1006 F hK hP hD hS hA hl.1 (lv_room (Nat.le_of_ble_eq_true rfl)) (Nat.le_of_ble_eq_true rfl) (Nat.le_of_ble_eq_true rfl) dL_law_1006 (fun H locs hP hD hS => ?_)
  refine lv_aload_n hx hb dL_law_1009 rfl (lv_at hl 2 rfl) ?_
  refine lv_aload_n hx hb dL_law_1010 rfl (lv_at hl 0 rfl) ?_
  refine lv_iload_n hx hb dL_law_1011 rfl (lv_at hl 3 rfl) ?_
  refine lv_iconst (v := 1) hx hb dL_law_1012 (by decide) ?_
  refine lv_iadd hx hb dL_law_1013 ?_
  obtain ⟨h1014, hf⟩ := pg_some hf
  refine va_sld hx hb hX0 hbl hbA hS h1014 dL_law_1014 ?_
  refine lv_aload_n hx hb dL_law_1015 rfl (lv_at hl 0 rfl) ?_
  refine lv_iload_n hx hb dL_law_1016 rfl (lv_at hl 3 rfl) ?_
  refine lv_iconst (v := 2) hx hb dL_law_1017 (by decide) ?_
  refine lv_iadd hx hb dL_law_1018 ?_
  obtain ⟨h1019, hf⟩ := pg_some hf
  refine va_sld hx hb hX0 hbl hbA hS h1019 dL_law_1019 ?_
  refine lv_aload_n hx hb dL_law_1020 rfl (lv_at hl 0 rfl) ?_
  refine lv_iload_n hx hb dL_law_1021 rfl (lv_at hl 3 rfl) ?_
  refine lv_iconst (v := 3) hx hb dL_law_1022 (by decide) ?_
  refine lv_iadd hx hb dL_law_1023 ?_
  obtain ⟨h1024, hf⟩ := pg_some hf
  refine va_sld hx hb hX0 hbl hbA hS h1024 dL_law_1024 ?_
  obtain ⟨r1025, e1025, hf⟩ := pb_some hf
  refine kX9_lay e1025 F hK hP hD hS hA hl.1 (lv_room (Nat.le_of_ble_eq_true rfl)) (Nat.le_of_ble_eq_true rfl) (Nat.le_of_ble_eq_true rfl) dL_law_1025 (fun H locs hP hD hS => ?_)
  refine lv_icmp_eq (tgt := 1132) hx hb dL_law_1028 (by decide) (fun c1028 => ?_) (fun c1028 => ?_)
  · have hf := pif_t c1028 hf
    refine lv_iinc (v := x3 + 6) (lv' := [(3, .int (x3 + 6)), (0, .ref b), (1, .ref (ax 0)), (2, .ref (am 0))]) hx hb dL_law_1132 hl (k := 3) rfl rfl (by decide) rfl (fun ls hl => ?_)
    refine lv_goto (tgt := 18) hx hb dL_law_1135 (by decide) ?_
    exact hk (x3 + 6) r1006.2 r1025.2 _ _ ls hf hP hD hS (lv_sub hl [1, 2, 3, 0] rfl)
  · have hf := pif_f c1028 hf
    refine lv_iconst (v := 0) hx hb dL_law_1031 (by decide) ?_
    exact absurd (Option.some.inj hf) (by decide)
set_option maxHeartbeats 40000000 in
set_option maxRecDepth 100000 in
theorem law_c26 {p : Program} {l : Launch} {e : Env} {s : State} {m : MethodId} {below : List Frame} {meth : Method} {c : Code} {Q : State → Prop} {D : va_G} {cyI cyJ cyB cyS : ClassId} {b L : Nat} {xs : Nat → Int32} {ax am adK adV : Nat → Nat} {N : Nat} (F : CallFix p m c cL_law 4 s #[Value.ref b] wsL_law RL) (hX0 : va_X b L xs s s.heap) (hbl : b < s.heap.size) (hK : KK D cyI cyJ cyB cyS s) (hX : SX adK adV (fun q : Nat => s.heap.size ≤ q) s s.heap) (k : Int32 → UX → UX → Option Int32) (hk : ∀ (x3 : Int32) (u w : UX) (H : Heap) (locs : List Loc) (ls : Array Slot), k x3 u w = some 1 → va_P D vwCl (WX cyI cyJ cyB cyS ax u ++ WM cyI cyJ cyB cyS am w) H → va_D (fun q : Nat => s.heap.size ≤ q) (WX cyI cyJ cyB cyS ax u ++ WM cyI cyJ cyB cyS am w) → va_S (fun q : Nat => s.heap.size ≤ q) s.heap H locs → lv_has ls 4 [(0, .ref b), (1, .ref (ax 0)), (2, .ref (am 0)), (3, .int x3)] → W p l e room_1 s m #[Value.ref b] below meth c H locs 109 4449 Q (F0 m 18 ls [])) (x3 : Int32) (u w : UX) (H : Heap) (locs : List Loc) (ls : Array Slot) (hf : fL_c26 N L xs k x3 u w = some 1) (hP : va_P D vwCl (WX cyI cyJ cyB cyS ax u ++ WM cyI cyJ cyB cyS am w) H) (hD : va_D (fun q : Nat => s.heap.size ≤ q) (WX cyI cyJ cyB cyS ax u ++ WM cyI cyJ cyB cyS am w)) (hS : va_S (fun q : Nat => s.heap.size ≤ q) s.heap H locs) (hl : lv_has ls 4 [(0, .ref b), (1, .ref (ax 0)), (2, .ref (am 0)), (3, .int x3)]) : W p l e room_1 s m #[Value.ref b] below meth c H locs 109 4449 Q (F0 m 1033 ls []) := by
  have hx := F.1
  have hb := F.2.1
  have hA : ∀ q : Nat, s.heap.size ≤ q → (fun q : Nat => s.heap.size ≤ q) q := fun _ h => h
  have hbA : ¬ (fun q : Nat => s.heap.size ≤ q) b := Nat.not_le.mpr hbl
  unfold fL_c26 at hf
  refine lv_aload_n hx hb dL_law_1033 rfl (lv_at hl 1 rfl) ?_
  refine lv_aload_n hx hb dL_law_1034 rfl (lv_at hl 0 rfl) ?_
  refine lv_iload_n hx hb dL_law_1035 rfl (lv_at hl 3 rfl) ?_
  refine lv_iconst (v := 1) hx hb dL_law_1036 (by decide) ?_
  refine lv_iadd hx hb dL_law_1037 ?_
  obtain ⟨h1038, hf⟩ := pg_some hf
  refine va_sld hx hb hX0 hbl hbA hS h1038 dL_law_1038 ?_
  refine lv_aload_n hx hb dL_law_1039 rfl (lv_at hl 0 rfl) ?_
  refine lv_iload_n hx hb dL_law_1040 rfl (lv_at hl 3 rfl) ?_
  refine lv_iconst (v := 2) hx hb dL_law_1041 (by decide) ?_
  refine lv_iadd hx hb dL_law_1042 ?_
  obtain ⟨h1043, hf⟩ := pg_some hf
  refine va_sld hx hb hX0 hbl hbA hS h1043 dL_law_1043 ?_
  refine lv_aload_n hx hb dL_law_1044 rfl (lv_at hl 0 rfl) ?_
  refine lv_iload_n hx hb dL_law_1045 rfl (lv_at hl 3 rfl) ?_
  refine lv_iconst (v := 3) hx hb dL_law_1046 (by decide) ?_
  refine lv_iadd hx hb dL_law_1047 ?_
  obtain ⟨h1048, hf⟩ := pg_some hf
  refine va_sld hx hb hX0 hbl hbA hS h1048 dL_law_1048 ?_
  refine lv_aload_n hx hb dL_law_1049 rfl (lv_at hl 0 rfl) ?_
  refine lv_iload_n hx hb dL_law_1050 rfl (lv_at hl 3 rfl) ?_
  refine lv_iconst (v := 4) hx hb dL_law_1051 (by decide) ?_
  refine lv_iadd hx hb dL_law_1052 ?_
  obtain ⟨h1053, hf⟩ := pg_some hf
  refine va_sld hx hb hX0 hbl hbA hS h1053 dL_law_1053 ?_
  refine lv_aload_n hx hb dL_law_1054 rfl (lv_at hl 0 rfl) ?_
  refine lv_iload_n hx hb dL_law_1055 rfl (lv_at hl 3 rfl) ?_
  refine lv_iconst (v := 5) hx hb dL_law_1056 (by decide) ?_
  refine lv_iadd hx hb dL_law_1057 ?_
  obtain ⟨h1058, hf⟩ := pg_some hf
  refine va_sld hx hb hX0 hbl hbA hS h1058 dL_law_1058 ?_
  obtain ⟨r1059, e1059, hf⟩ := pb_some hf
  refine kX8_read e1059 F hK hP hD hS hA hl.1 (lv_room (Nat.le_of_ble_eq_true rfl)) (Nat.le_of_ble_eq_true rfl) (Nat.le_of_ble_eq_true rfl) dL_law_1059 (fun H locs hP hD hS => ?_)
  refine lv_aload_n hx hb dL_law_1062 rfl (lv_at hl 2 rfl) ?_
  refine lv_aload_n hx hb dL_law_1063 rfl (lv_at hl 0 rfl) ?_
  refine lv_iload_n hx hb dL_law_1064 rfl (lv_at hl 3 rfl) ?_
  refine lv_iconst (v := 1) hx hb dL_law_1065 (by decide) ?_
  refine lv_iadd hx hb dL_law_1066 ?_
  obtain ⟨h1067, hf⟩ := pg_some hf
  refine va_sld hx hb hX0 hbl hbA hS h1067 dL_law_1067 ?_
  refine lv_aload_n hx hb dL_law_1068 rfl (lv_at hl 0 rfl) ?_
  refine lv_iload_n hx hb dL_law_1069 rfl (lv_at hl 3 rfl) ?_
  refine lv_iconst (v := 2) hx hb dL_law_1070 (by decide) ?_
  refine lv_iadd hx hb dL_law_1071 ?_
  obtain ⟨h1072, hf⟩ := pg_some hf
  refine va_sld hx hb hX0 hbl hbA hS h1072 dL_law_1072 ?_
  refine lv_aload_n hx hb dL_law_1073 rfl (lv_at hl 0 rfl) ?_
  refine lv_iload_n hx hb dL_law_1074 rfl (lv_at hl 3 rfl) ?_
  refine lv_iconst (v := 3) hx hb dL_law_1075 (by decide) ?_
  refine lv_iadd hx hb dL_law_1076 ?_
  obtain ⟨h1077, hf⟩ := pg_some hf
  refine va_sld hx hb hX0 hbl hbA hS h1077 dL_law_1077 ?_
  refine lv_aload_n hx hb dL_law_1078 rfl (lv_at hl 0 rfl) ?_
  refine lv_iload_n hx hb dL_law_1079 rfl (lv_at hl 3 rfl) ?_
  refine lv_iconst (v := 4) hx hb dL_law_1080 (by decide) ?_
  refine lv_iadd hx hb dL_law_1081 ?_
  obtain ⟨h1082, hf⟩ := pg_some hf
  refine va_sld hx hb hX0 hbl hbA hS h1082 dL_law_1082 ?_
  refine lv_aload_n hx hb dL_law_1083 rfl (lv_at hl 0 rfl) ?_
  refine lv_iload_n hx hb dL_law_1084 rfl (lv_at hl 3 rfl) ?_
  refine lv_iconst (v := 5) hx hb dL_law_1085 (by decide) ?_
  refine lv_iadd hx hb dL_law_1086 ?_
  obtain ⟨h1087, hf⟩ := pg_some hf
  refine va_sld hx hb hX0 hbl hbA hS h1087 dL_law_1087 ?_
  obtain ⟨r1088, e1088, hf⟩ := pb_some hf
  refine kX9_read e1088 F hK hP hD hS hA hl.1 (lv_room (Nat.le_of_ble_eq_true rfl)) (Nat.le_of_ble_eq_true rfl) (Nat.le_of_ble_eq_true rfl) dL_law_1088 (fun H locs hP hD hS => ?_)
  refine lv_icmp_eq (tgt := 1132) hx hb dL_law_1091 (by decide) (fun c1091 => ?_) (fun c1091 => ?_)
  · have hf := pif_t c1091 hf
    refine lv_iinc (v := x3 + 6) (lv' := [(3, .int (x3 + 6)), (0, .ref b), (1, .ref (ax 0)), (2, .ref (am 0))]) hx hb dL_law_1132 hl (k := 3) rfl rfl (by decide) rfl (fun ls hl => ?_)
    refine lv_goto (tgt := 18) hx hb dL_law_1135 (by decide) ?_
    exact hk (x3 + 6) r1059.2 r1088.2 _ _ ls hf hP hD hS (lv_sub hl [1, 2, 3, 0] rfl)
  · have hf := pif_f c1091 hf
    refine lv_iconst (v := 0) hx hb dL_law_1094 (by decide) ?_
    exact absurd (Option.some.inj hf) (by decide)
set_option maxHeartbeats 40000000 in
set_option maxRecDepth 100000 in
theorem law_c27 {p : Program} {l : Launch} {e : Env} {s : State} {m : MethodId} {below : List Frame} {meth : Method} {c : Code} {Q : State → Prop} {D : va_G} {cyI cyJ cyB cyS : ClassId} {b L : Nat} {xs : Nat → Int32} {ax am adK adV : Nat → Nat} {N : Nat} (F : CallFix p m c cL_law 4 s #[Value.ref b] wsL_law RL) (hX0 : va_X b L xs s s.heap) (hbl : b < s.heap.size) (hK : KK D cyI cyJ cyB cyS s) (hX : SX adK adV (fun q : Nat => s.heap.size ≤ q) s s.heap) (k : Int32 → UX → UX → Option Int32) (hk : ∀ (x3 : Int32) (u w : UX) (H : Heap) (locs : List Loc) (ls : Array Slot), k x3 u w = some 1 → va_P D vwCl (WX cyI cyJ cyB cyS ax u ++ WM cyI cyJ cyB cyS am w) H → va_D (fun q : Nat => s.heap.size ≤ q) (WX cyI cyJ cyB cyS ax u ++ WM cyI cyJ cyB cyS am w) → va_S (fun q : Nat => s.heap.size ≤ q) s.heap H locs → lv_has ls 4 [(0, .ref b), (1, .ref (ax 0)), (2, .ref (am 0)), (3, .int x3)] → W p l e room_1 s m #[Value.ref b] below meth c H locs 109 4449 Q (F0 m 18 ls [])) (x3 : Int32) (u w : UX) (H : Heap) (locs : List Loc) (ls : Array Slot) (hf : fL_c27 N L xs k x3 u w = some 1) (hP : va_P D vwCl (WX cyI cyJ cyB cyS ax u ++ WM cyI cyJ cyB cyS am w) H) (hD : va_D (fun q : Nat => s.heap.size ≤ q) (WX cyI cyJ cyB cyS ax u ++ WM cyI cyJ cyB cyS am w)) (hS : va_S (fun q : Nat => s.heap.size ≤ q) s.heap H locs) (hl : lv_has ls 4 [(0, .ref b), (1, .ref (ax 0)), (2, .ref (am 0)), (3, .int x3)]) : W p l e room_1 s m #[Value.ref b] below meth c H locs 109 4449 Q (F0 m 1096 ls []) := by
  have hx := F.1
  have hb := F.2.1
  have hA : ∀ q : Nat, s.heap.size ≤ q → (fun q : Nat => s.heap.size ≤ q) q := fun _ h => h
  have hbA : ¬ (fun q : Nat => s.heap.size ≤ q) b := Nat.not_le.mpr hbl
  unfold fL_c27 at hf
  refine lv_aload_n hx hb dL_law_1096 rfl (lv_at hl 1 rfl) ?_
  obtain ⟨r1097, e1097, hf⟩ := pb_some hf
  refine kX8_torn e1097 F hK hP hD hS hA hl.1 (lv_room (Nat.le_of_ble_eq_true rfl)) (Nat.le_of_ble_eq_true rfl) (Nat.le_of_ble_eq_true rfl) dL_law_1097 (fun H locs hP hD hS => ?_)
  refine lv_aload_n hx hb dL_law_1100 rfl (lv_at hl 2 rfl) ?_
  obtain ⟨r1101, e1101, hf⟩ := pb_some hf
  refine kX9_torn e1101 F hK hP hD hS hA hl.1 (lv_room (Nat.le_of_ble_eq_true rfl)) (Nat.le_of_ble_eq_true rfl) (Nat.le_of_ble_eq_true rfl) dL_law_1101 (fun H locs hP hD hS => ?_)
  refine lv_icmp_eq (tgt := 1132) hx hb dL_law_1104 (by decide) (fun c1104 => ?_) (fun c1104 => ?_)
  · have hf := pif_t c1104 hf
    refine lv_iinc (v := x3 + 6) (lv' := [(3, .int (x3 + 6)), (0, .ref b), (1, .ref (ax 0)), (2, .ref (am 0))]) hx hb dL_law_1132 hl (k := 3) rfl rfl (by decide) rfl (fun ls hl => ?_)
    refine lv_goto (tgt := 18) hx hb dL_law_1135 (by decide) ?_
    exact hk (x3 + 6) r1097.2 r1101.2 _ _ ls hf hP hD hS (lv_sub hl [1, 2, 3, 0] rfl)
  · have hf := pif_f c1104 hf
    refine lv_iconst (v := 0) hx hb dL_law_1107 (by decide) ?_
    exact absurd (Option.some.inj hf) (by decide)
set_option maxHeartbeats 40000000 in
set_option maxRecDepth 100000 in
theorem law_c28 {p : Program} {l : Launch} {e : Env} {s : State} {m : MethodId} {below : List Frame} {meth : Method} {c : Code} {Q : State → Prop} {D : va_G} {cyI cyJ cyB cyS : ClassId} {b L : Nat} {xs : Nat → Int32} {ax am adK adV : Nat → Nat} {N : Nat} (F : CallFix p m c cL_law 4 s #[Value.ref b] wsL_law RL) (hX0 : va_X b L xs s s.heap) (hbl : b < s.heap.size) (hK : KK D cyI cyJ cyB cyS s) (hX : SX adK adV (fun q : Nat => s.heap.size ≤ q) s s.heap) (k : Int32 → UX → UX → Option Int32) (hk : ∀ (x3 : Int32) (u w : UX) (H : Heap) (locs : List Loc) (ls : Array Slot), k x3 u w = some 1 → va_P D vwCl (WX cyI cyJ cyB cyS ax u ++ WM cyI cyJ cyB cyS am w) H → va_D (fun q : Nat => s.heap.size ≤ q) (WX cyI cyJ cyB cyS ax u ++ WM cyI cyJ cyB cyS am w) → va_S (fun q : Nat => s.heap.size ≤ q) s.heap H locs → lv_has ls 4 [(0, .ref b), (1, .ref (ax 0)), (2, .ref (am 0)), (3, .int x3)] → W p l e room_1 s m #[Value.ref b] below meth c H locs 109 4449 Q (F0 m 18 ls [])) (x3 : Int32) (u w : UX) (H : Heap) (locs : List Loc) (ls : Array Slot) (hf : fL_c28 N L xs k x3 u w = some 1) (hP : va_P D vwCl (WX cyI cyJ cyB cyS ax u ++ WM cyI cyJ cyB cyS am w) H) (hD : va_D (fun q : Nat => s.heap.size ≤ q) (WX cyI cyJ cyB cyS ax u ++ WM cyI cyJ cyB cyS am w)) (hS : va_S (fun q : Nat => s.heap.size ≤ q) s.heap H locs) (hl : lv_has ls 4 [(0, .ref b), (1, .ref (ax 0)), (2, .ref (am 0)), (3, .int x3)]) : W p l e room_1 s m #[Value.ref b] below meth c H locs 109 4449 Q (F0 m 1109 ls []) := by
  have hx := F.1
  have hb := F.2.1
  have hA : ∀ q : Nat, s.heap.size ≤ q → (fun q : Nat => s.heap.size ≤ q) q := fun _ h => h
  have hbA : ¬ (fun q : Nat => s.heap.size ≤ q) b := Nat.not_le.mpr hbl
  unfold fL_c28 at hf
  refine lv_aload_n hx hb dL_law_1109 rfl (lv_at hl 1 rfl) ?_
  refine lv_aload_n hx hb dL_law_1110 rfl (lv_at hl 0 rfl) ?_
  refine lv_iload_n hx hb dL_law_1111 rfl (lv_at hl 3 rfl) ?_
  refine lv_iconst (v := 1) hx hb dL_law_1112 (by decide) ?_
  refine lv_iadd hx hb dL_law_1113 ?_
  obtain ⟨h1114, hf⟩ := pg_some hf
  refine va_sld hx hb hX0 hbl hbA hS h1114 dL_law_1114 ?_
  obtain ⟨r1115, e1115, hf⟩ := pb_some hf
  refine kX8_count_s0 e1115 F hK hP hD hS hA hl.1 (lv_room (Nat.le_of_ble_eq_true rfl)) (Nat.le_of_ble_eq_true rfl) (Nat.le_of_ble_eq_true rfl) dL_law_1115 (fun H locs hP hD hS => ?_)
  refine lv_aload_n hx hb dL_law_1118 rfl (lv_at hl 2 rfl) ?_
  refine lv_aload_n hx hb dL_law_1119 rfl (lv_at hl 0 rfl) ?_
  refine lv_iload_n hx hb dL_law_1120 rfl (lv_at hl 3 rfl) ?_
  refine lv_iconst (v := 1) hx hb dL_law_1121 (by decide) ?_
  refine lv_iadd hx hb dL_law_1122 ?_
  obtain ⟨h1123, hf⟩ := pg_some hf
  refine va_sld hx hb hX0 hbl hbA hS h1123 dL_law_1123 ?_
  obtain ⟨r1124, e1124, hf⟩ := pb_some hf
  refine kX9_count e1124 F hK hP hD hS hA hl.1 (lv_room (Nat.le_of_ble_eq_true rfl)) (Nat.le_of_ble_eq_true rfl) (Nat.le_of_ble_eq_true rfl) dL_law_1124 (fun H locs hP hD hS => ?_)
  refine lv_icmp_eq (tgt := 1132) hx hb dL_law_1127 (by decide) (fun c1127 => ?_) (fun c1127 => ?_)
  · have hf := pif_t c1127 hf
    refine lv_iinc (v := x3 + 6) (lv' := [(3, .int (x3 + 6)), (0, .ref b), (1, .ref (ax 0)), (2, .ref (am 0))]) hx hb dL_law_1132 hl (k := 3) rfl rfl (by decide) rfl (fun ls hl => ?_)
    refine lv_goto (tgt := 18) hx hb dL_law_1135 (by decide) ?_
    exact hk (x3 + 6) r1115.2 r1124.2 _ _ ls hf hP hD hS (lv_sub hl [1, 2, 3, 0] rfl)
  · have hf := pif_f c1127 hf
    refine lv_iconst (v := 0) hx hb dL_law_1130 (by decide) ?_
    exact absurd (Option.some.inj hf) (by decide)
set_option maxHeartbeats 40000000 in
set_option maxRecDepth 100000 in
theorem law_loop {p : Program} {l : Launch} {e : Env} {s : State} {m : MethodId} {below : List Frame} {meth : Method} {c : Code} {Q : State → Prop} {D : va_G} {cyI cyJ cyB cyS : ClassId} {b L : Nat} {xs : Nat → Int32} {ax am adK adV : Nat → Nat} {N : Nat} (F : CallFix p m c cL_law 4 s #[Value.ref b] wsL_law RL) (hX0 : va_X b L xs s s.heap) (hbl : b < s.heap.size) (hK : KK D cyI cyJ cyB cyS s) (hX : SX adK adV (fun q : Nat => s.heap.size ≤ q) s s.heap) (hret : ∀ (H : Heap) (locs : List Loc) (ls : Array Slot), va_S (fun q : Nat => s.heap.size ≤ q) s.heap H locs → W p l e room_1 s m #[Value.ref b] below meth c H locs 109 4449 Q (F0 m 1138 ls [])) (n : Nat) : ∀ (x3 : Int32) (u w : UX) (H : Heap) (locs : List Loc) (ls : Array Slot), fL N L xs n x3 u w = some 1 → va_P D vwCl (WX cyI cyJ cyB cyS ax u ++ WM cyI cyJ cyB cyS am w) H → va_D (fun q : Nat => s.heap.size ≤ q) (WX cyI cyJ cyB cyS ax u ++ WM cyI cyJ cyB cyS am w) → va_S (fun q : Nat => s.heap.size ≤ q) s.heap H locs → lv_has ls 4 [(0, .ref b), (1, .ref (ax 0)), (2, .ref (am 0)), (3, .int x3)] → W p l e room_1 s m #[Value.ref b] below meth c H locs 109 4449 Q (F0 m 18 ls []) := by
  have hx := F.1
  have hb := F.2.1
  have hA : ∀ q : Nat, s.heap.size ≤ q → (fun q : Nat => s.heap.size ≤ q) q := fun _ h => h
  have hbA : ¬ (fun q : Nat => s.heap.size ≤ q) b := Nat.not_le.mpr hbl
  induction n with
  | zero => intro x3 u w H locs ls hf; exact absurd hf (by simp [fL])
  | succ n ih =>
    intro x3 u w H locs ls hf hP hD hS hl
    rw [fL] at hf
    refine lv_iload_n hx hb dL_law_18 rfl (lv_at hl 3 rfl) ?_
    refine lv_aload_n hx hb dL_law_19 rfl (lv_at hl 0 rfl) ?_
    refine va_slen hx hb hX0 hbl hbA hS dL_law_20 ?_
    refine lv_bipush (v := 6) hx hb dL_law_21 (by decide) ?_
    refine lv_isub hx hb dL_law_23 ?_
    refine lv_icmp_gt (tgt := 1138) hx hb dL_law_24 (by decide) (fun c24 => ?_) (fun c24 => ?_)
    · exact hret H locs ls hS
    · have hf := pif_f c24 hf
      refine lv_aload_n hx hb dL_law_27 rfl (lv_at hl 0 rfl) ?_
      refine lv_iload_n hx hb dL_law_28 rfl (lv_at hl 3 rfl) ?_
      obtain ⟨h29, hf⟩ := pg_some hf
      refine va_sld hx hb hX0 hbl hbA hS h29 dL_law_29 ?_
      refine lv_bipush (v := 31) hx hb dL_law_30 (by decide) ?_
      refine lv_iand hx hb dL_law_32 ?_
      rcases Decidable.em (xs x3.toNatClampNeg &&& 31 = 0) with z0 | z0
      · have hf := pif_t z0 hf
        refine lv_tableIn (tgt := 164) hx hb dL_law_33 (by rw [z0]; decide) (by rw [z0]; decide) (by rw [z0]; try rfl) (by decide) ?_
        exact law_c0 F hX0 hbl hK hX (fL N L xs n) ih x3 u w H locs ls hf hP hD hS hl
      · have hf := pif_f z0 hf
        rcases Decidable.em (xs x3.toNatClampNeg &&& 31 = 1) with z1 | z1
        · have hf := pif_t z1 hf
          refine lv_tableIn (tgt := 217) hx hb dL_law_33 (by rw [z1]; decide) (by rw [z1]; decide) (by rw [z1]; try rfl) (by decide) ?_
          exact law_c1 F hX0 hbl hK hX (fL N L xs n) ih x3 u w H locs ls hf hP hD hS hl
        · have hf := pif_f z1 hf
          rcases Decidable.em (xs x3.toNatClampNeg &&& 31 = 2) with z2 | z2
          · have hf := pif_t z2 hf
            refine lv_tableIn (tgt := 240) hx hb dL_law_33 (by rw [z2]; decide) (by rw [z2]; decide) (by rw [z2]; try rfl) (by decide) ?_
            exact law_c2 F hX0 hbl hK hX (fL N L xs n) ih x3 u w H locs ls hf hP hD hS hl
          · have hf := pif_f z2 hf
            rcases Decidable.em (xs x3.toNatClampNeg &&& 31 = 3) with z3 | z3
            · have hf := pif_t z3 hf
              refine lv_tableIn (tgt := 253) hx hb dL_law_33 (by rw [z3]; decide) (by rw [z3]; decide) (by rw [z3]; try rfl) (by decide) ?_
              exact law_c3 F hX0 hbl hK hX (fL N L xs n) ih x3 u w H locs ls hf hP hD hS hl
            · have hf := pif_f z3 hf
              rcases Decidable.em (xs x3.toNatClampNeg &&& 31 = 4) with z4 | z4
              · have hf := pif_t z4 hf
                refine lv_tableIn (tgt := 266) hx hb dL_law_33 (by rw [z4]; decide) (by rw [z4]; decide) (by rw [z4]; try rfl) (by decide) ?_
                exact law_c4 F hX0 hbl hK hX (fL N L xs n) ih x3 u w H locs ls hf hP hD hS hl
              · have hf := pif_f z4 hf
                rcases Decidable.em (xs x3.toNatClampNeg &&& 31 = 5) with z5 | z5
                · have hf := pif_t z5 hf
                  refine lv_tableIn (tgt := 289) hx hb dL_law_33 (by rw [z5]; decide) (by rw [z5]; decide) (by rw [z5]; try rfl) (by decide) ?_
                  exact law_c5 F hX0 hbl hK hX (fL N L xs n) ih x3 u w H locs ls hf hP hD hS hl
                · have hf := pif_f z5 hf
                  rcases Decidable.em (xs x3.toNatClampNeg &&& 31 = 6) with z6 | z6
                  · have hf := pif_t z6 hf
                    refine lv_tableIn (tgt := 322) hx hb dL_law_33 (by rw [z6]; decide) (by rw [z6]; decide) (by rw [z6]; try rfl) (by decide) ?_
                    exact law_c6 F hX0 hbl hK hX (fL N L xs n) ih x3 u w H locs ls hf hP hD hS hl
                  · have hf := pif_f z6 hf
                    rcases Decidable.em (xs x3.toNatClampNeg &&& 31 = 7) with z7 | z7
                    · have hf := pif_t z7 hf
                      refine lv_tableIn (tgt := 355) hx hb dL_law_33 (by rw [z7]; decide) (by rw [z7]; decide) (by rw [z7]; try rfl) (by decide) ?_
                      exact law_c7 F hX0 hbl hK hX (fL N L xs n) ih x3 u w H locs ls hf hP hD hS hl
                    · have hf := pif_f z7 hf
                      rcases Decidable.em (xs x3.toNatClampNeg &&& 31 = 8) with z8 | z8
                      · have hf := pif_t z8 hf
                        refine lv_tableIn (tgt := 388) hx hb dL_law_33 (by rw [z8]; decide) (by rw [z8]; decide) (by rw [z8]; try rfl) (by decide) ?_
                        exact law_c8 F hX0 hbl hK hX (fL N L xs n) ih x3 u w H locs ls hf hP hD hS hl
                      · have hf := pif_f z8 hf
                        rcases Decidable.em (xs x3.toNatClampNeg &&& 31 = 9) with z9 | z9
                        · have hf := pif_t z9 hf
                          refine lv_tableIn (tgt := 421) hx hb dL_law_33 (by rw [z9]; decide) (by rw [z9]; decide) (by rw [z9]; try rfl) (by decide) ?_
                          exact law_c9 F hX0 hbl hK hX (fL N L xs n) ih x3 u w H locs ls hf hP hD hS hl
                        · have hf := pif_f z9 hf
                          rcases Decidable.em (xs x3.toNatClampNeg &&& 31 = 10) with z10 | z10
                          · have hf := pif_t z10 hf
                            refine lv_tableIn (tgt := 454) hx hb dL_law_33 (by rw [z10]; decide) (by rw [z10]; decide) (by rw [z10]; try rfl) (by decide) ?_
                            exact law_c10 F hX0 hbl hK hX (fL N L xs n) ih x3 u w H locs ls hf hP hD hS hl
                          · have hf := pif_f z10 hf
                            rcases Decidable.em (xs x3.toNatClampNeg &&& 31 = 11) with z11 | z11
                            · have hf := pif_t z11 hf
                              refine lv_tableIn (tgt := 477) hx hb dL_law_33 (by rw [z11]; decide) (by rw [z11]; decide) (by rw [z11]; try rfl) (by decide) ?_
                              exact law_c11 F hX0 hbl hK hX (fL N L xs n) ih x3 u w H locs ls hf hP hD hS hl
                            · have hf := pif_f z11 hf
                              rcases Decidable.em (xs x3.toNatClampNeg &&& 31 = 12) with z12 | z12
                              · have hf := pif_t z12 hf
                                refine lv_tableIn (tgt := 510) hx hb dL_law_33 (by rw [z12]; decide) (by rw [z12]; decide) (by rw [z12]; try rfl) (by decide) ?_
                                exact law_c12 F hX0 hbl hK hX (fL N L xs n) ih x3 u w H locs ls hf hP hD hS hl
                              · have hf := pif_f z12 hf
                                rcases Decidable.em (xs x3.toNatClampNeg &&& 31 = 13) with z13 | z13
                                · have hf := pif_t z13 hf
                                  refine lv_tableIn (tgt := 543) hx hb dL_law_33 (by rw [z13]; decide) (by rw [z13]; decide) (by rw [z13]; try rfl) (by decide) ?_
                                  exact law_c13 F hX0 hbl hK hX (fL N L xs n) ih x3 u w H locs ls hf hP hD hS hl
                                · have hf := pif_f z13 hf
                                  rcases Decidable.em (xs x3.toNatClampNeg &&& 31 = 14) with z14 | z14
                                  · have hf := pif_t z14 hf
                                    refine lv_tableIn (tgt := 577) hx hb dL_law_33 (by rw [z14]; decide) (by rw [z14]; decide) (by rw [z14]; try rfl) (by decide) ?_
                                    exact law_c14 F hX0 hbl hK hX (fL N L xs n) ih x3 u w H locs ls hf hP hD hS hl
                                  · have hf := pif_f z14 hf
                                    rcases Decidable.em (xs x3.toNatClampNeg &&& 31 = 15) with z15 | z15
                                    · have hf := pif_t z15 hf
                                      refine lv_tableIn (tgt := 647) hx hb dL_law_33 (by rw [z15]; decide) (by rw [z15]; decide) (by rw [z15]; try rfl) (by decide) ?_
                                      exact law_c15 F hX0 hbl hK hX (fL N L xs n) ih x3 u w H locs ls hf hP hD hS hl
                                    · have hf := pif_f z15 hf
                                      rcases Decidable.em (xs x3.toNatClampNeg &&& 31 = 16) with z16 | z16
                                      · have hf := pif_t z16 hf
                                        refine lv_tableIn (tgt := 670) hx hb dL_law_33 (by rw [z16]; decide) (by rw [z16]; decide) (by rw [z16]; try rfl) (by decide) ?_
                                        exact law_c16 F hX0 hbl hK hX (fL N L xs n) ih x3 u w H locs ls hf hP hD hS hl
                                      · have hf := pif_f z16 hf
                                        rcases Decidable.em (xs x3.toNatClampNeg &&& 31 = 17) with z17 | z17
                                        · have hf := pif_t z17 hf
                                          refine lv_tableIn (tgt := 703) hx hb dL_law_33 (by rw [z17]; decide) (by rw [z17]; decide) (by rw [z17]; try rfl) (by decide) ?_
                                          exact law_c17 F hX0 hbl hK hX (fL N L xs n) ih x3 u w H locs ls hf hP hD hS hl
                                        · have hf := pif_f z17 hf
                                          rcases Decidable.em (xs x3.toNatClampNeg &&& 31 = 18) with z18 | z18
                                          · have hf := pif_t z18 hf
                                            refine lv_tableIn (tgt := 747) hx hb dL_law_33 (by rw [z18]; decide) (by rw [z18]; decide) (by rw [z18]; try rfl) (by decide) ?_
                                            exact law_c18 F hX0 hbl hK hX (fL N L xs n) ih x3 u w H locs ls hf hP hD hS hl
                                          · have hf := pif_f z18 hf
                                            rcases Decidable.em (xs x3.toNatClampNeg &&& 31 = 19) with z19 | z19
                                            · have hf := pif_t z19 hf
                                              refine lv_tableIn (tgt := 770) hx hb dL_law_33 (by rw [z19]; decide) (by rw [z19]; decide) (by rw [z19]; try rfl) (by decide) ?_
                                              exact law_c19 F hX0 hbl hK hX (fL N L xs n) ih x3 u w H locs ls hf hP hD hS hl
                                            · have hf := pif_f z19 hf
                                              rcases Decidable.em (xs x3.toNatClampNeg &&& 31 = 20) with z20 | z20
                                              · have hf := pif_t z20 hf
                                                refine lv_tableIn (tgt := 804) hx hb dL_law_33 (by rw [z20]; decide) (by rw [z20]; decide) (by rw [z20]; try rfl) (by decide) ?_
                                                exact law_c20 F hX0 hbl hK hX (fL N L xs n) ih x3 u w H locs ls hf hP hD hS hl
                                              · have hf := pif_f z20 hf
                                                rcases Decidable.em (xs x3.toNatClampNeg &&& 31 = 21) with z21 | z21
                                                · have hf := pif_t z21 hf
                                                  refine lv_tableIn (tgt := 827) hx hb dL_law_33 (by rw [z21]; decide) (by rw [z21]; decide) (by rw [z21]; try rfl) (by decide) ?_
                                                  exact law_c21 F hX0 hbl hK hX (fL N L xs n) ih x3 u w H locs ls hf hP hD hS hl
                                                · have hf := pif_f z21 hf
                                                  rcases Decidable.em (xs x3.toNatClampNeg &&& 31 = 22) with z22 | z22
                                                  · have hf := pif_t z22 hf
                                                    refine lv_tableIn (tgt := 870) hx hb dL_law_33 (by rw [z22]; decide) (by rw [z22]; decide) (by rw [z22]; try rfl) (by decide) ?_
                                                    exact law_c22 F hX0 hbl hK hX (fL N L xs n) ih x3 u w H locs ls hf hP hD hS hl
                                                  · have hf := pif_f z22 hf
                                                    rcases Decidable.em (xs x3.toNatClampNeg &&& 31 = 23) with z23 | z23
                                                    · have hf := pif_t z23 hf
                                                      refine lv_tableIn (tgt := 914) hx hb dL_law_33 (by rw [z23]; decide) (by rw [z23]; decide) (by rw [z23]; try rfl) (by decide) ?_
                                                      exact law_c23 F hX0 hbl hK hX (fL N L xs n) ih x3 u w H locs ls hf hP hD hS hl
                                                    · have hf := pif_f z23 hf
                                                      rcases Decidable.em (xs x3.toNatClampNeg &&& 31 = 24) with z24 | z24
                                                      · have hf := pif_t z24 hf
                                                        refine lv_tableIn (tgt := 947) hx hb dL_law_33 (by rw [z24]; decide) (by rw [z24]; decide) (by rw [z24]; try rfl) (by decide) ?_
                                                        exact law_c24 F hX0 hbl hK hX (fL N L xs n) ih x3 u w H locs ls hf hP hD hS hl
                                                      · have hf := pif_f z24 hf
                                                        rcases Decidable.em (xs x3.toNatClampNeg &&& 31 = 25) with z25 | z25
                                                        · have hf := pif_t z25 hf
                                                          refine lv_tableIn (tgt := 990) hx hb dL_law_33 (by rw [z25]; decide) (by rw [z25]; decide) (by rw [z25]; try rfl) (by decide) ?_
                                                          exact law_c25 F hX0 hbl hK hX (fL N L xs n) ih x3 u w H locs ls hf hP hD hS hl
                                                        · have hf := pif_f z25 hf
                                                          rcases Decidable.em (xs x3.toNatClampNeg &&& 31 = 26) with z26 | z26
                                                          · have hf := pif_t z26 hf
                                                            refine lv_tableIn (tgt := 1033) hx hb dL_law_33 (by rw [z26]; decide) (by rw [z26]; decide) (by rw [z26]; try rfl) (by decide) ?_
                                                            exact law_c26 F hX0 hbl hK hX (fL N L xs n) ih x3 u w H locs ls hf hP hD hS hl
                                                          · have hf := pif_f z26 hf
                                                            rcases Decidable.em (xs x3.toNatClampNeg &&& 31 = 27) with z27 | z27
                                                            · have hf := pif_t z27 hf
                                                              refine lv_tableIn (tgt := 1096) hx hb dL_law_33 (by rw [z27]; decide) (by rw [z27]; decide) (by rw [z27]; try rfl) (by decide) ?_
                                                              exact law_c27 F hX0 hbl hK hX (fL N L xs n) ih x3 u w H locs ls hf hP hD hS hl
                                                            · have hf := pif_f z27 hf
                                                              rcases Decidable.em (xs x3.toNatClampNeg &&& 31 = 28) with z28 | z28
                                                              · have hf := pif_t z28 hf
                                                                refine lv_tableIn (tgt := 1109) hx hb dL_law_33 (by rw [z28]; decide) (by rw [z28]; decide) (by rw [z28]; try rfl) (by decide) ?_
                                                                exact law_c28 F hX0 hbl hK hX (fL N L xs n) ih x3 u w H locs ls hf hP hD hS hl
                                                              · have hf := pif_f z28 hf
                                                                refine lv_tableOut (tgt := 1132) hx hb dL_law_33 (by have y0 := lv_neT (k := 0) (a := 0) z0 rfl; have y1 := lv_neT (k := 1) (a := 1) z1 rfl; have y2 := lv_neT (k := 2) (a := 2) z2 rfl; have y3 := lv_neT (k := 3) (a := 3) z3 rfl; have y4 := lv_neT (k := 4) (a := 4) z4 rfl; have y5 := lv_neT (k := 5) (a := 5) z5 rfl; have y6 := lv_neT (k := 6) (a := 6) z6 rfl; have y7 := lv_neT (k := 7) (a := 7) z7 rfl; have y8 := lv_neT (k := 8) (a := 8) z8 rfl; have y9 := lv_neT (k := 9) (a := 9) z9 rfl; have y10 := lv_neT (k := 10) (a := 10) z10 rfl; have y11 := lv_neT (k := 11) (a := 11) z11 rfl; have y12 := lv_neT (k := 12) (a := 12) z12 rfl; have y13 := lv_neT (k := 13) (a := 13) z13 rfl; have y14 := lv_neT (k := 14) (a := 14) z14 rfl; have y15 := lv_neT (k := 15) (a := 15) z15 rfl; have y16 := lv_neT (k := 16) (a := 16) z16 rfl; have y17 := lv_neT (k := 17) (a := 17) z17 rfl; have y18 := lv_neT (k := 18) (a := 18) z18 rfl; have y19 := lv_neT (k := 19) (a := 19) z19 rfl; have y20 := lv_neT (k := 20) (a := 20) z20 rfl; have y21 := lv_neT (k := 21) (a := 21) z21 rfl; have y22 := lv_neT (k := 22) (a := 22) z22 rfl; have y23 := lv_neT (k := 23) (a := 23) z23 rfl; have y24 := lv_neT (k := 24) (a := 24) z24 rfl; have y25 := lv_neT (k := 25) (a := 25) z25 rfl; have y26 := lv_neT (k := 26) (a := 26) z26 rfl; have y27 := lv_neT (k := 27) (a := 27) z27 rfl; have y28 := lv_neT (k := 28) (a := 28) z28 rfl; omega) (by decide) ?_
                                                                refine lv_iinc (v := x3 + 6) (lv' := [(3, .int (x3 + 6)), (0, .ref b), (1, .ref (ax 0)), (2, .ref (am 0))]) hx hb dL_law_1132 hl (k := 3) rfl rfl (by decide) rfl (fun ls hl => ?_)
                                                                refine lv_goto (tgt := 18) hx hb dL_law_1135 (by decide) ?_
                                                                exact ih (x3 + 6) u w _ _ ls hf hP hD hS (lv_sub hl [1, 2, 3, 0] rfl)
