/-! A call with its frame, in place; a method's end without a substitution. -/
def setAll : va_W → List Nat → va_W → va_W
  | ws, i :: is, c :: cs => setAll (ws.set i c) is cs
  | ws, _, _ => ws
theorem va_nd_cons {i : Nat} {is : List Nat} (h : va_nd (i :: is) = true) : i ∉ is ∧ va_nd is = true := by
  simp [va_nd] at h
  exact h
theorem setAll_get : ∀ (is : List Nat) (cs ws : va_W), va_nd is = true → is.length = cs.length → (∀ i ∈ is, i < ws.length) → ∀ k : Nat, (k ∉ is → (setAll ws is cs)[k]? = ws[k]?) ∧ (∀ j : Nat, is[j]? = some k → (setAll ws is cs)[k]? = cs[j]?)
  | [], cs, ws, _, _, _, k => ⟨fun _ => by simp [setAll], fun j h => by simp at h⟩
  | i :: is, [], ws, _, hl, _, k => by simp at hl
  | i :: is, c :: cs, ws, hn, hl, hb, k => by
    obtain ⟨hi, hn⟩ := va_nd_cons hn
    have hb' : ∀ x ∈ is, x < (ws.set i c).length := fun x hx => by rw [List.length_set]; exact hb x (List.mem_cons_of_mem _ hx)
    have ih := setAll_get is cs (ws.set i c) hn (by simpa using hl) hb' k
    have hil : i < ws.length := hb i List.mem_cons_self
    refine ⟨fun hk => ?_, fun j hj => ?_⟩
    · rw [show setAll ws (i :: is) (c :: cs) = setAll (ws.set i c) is cs from rfl, ih.1 (fun h => hk (List.mem_cons_of_mem _ h))]
      exact List.getElem?_set_ne (fun h : i = k => hk (by rw [h]; exact List.mem_cons_self))
    · rw [show setAll ws (i :: is) (c :: cs) = setAll (ws.set i c) is cs from rfl]
      cases j with
      | zero =>
        have e : i = k := by simpa using hj
        subst e
        rw [ih.1 hi, List.getElem?_set_self hil]
        rfl
      | succ j => exact ih.2 j (by simpa using hj)
theorem idx_of_mem {is : List Nat} {k : Nat} (h : k ∈ is) : ∃ j : Nat, is[j]? = some k := by
  obtain ⟨j, hj, e⟩ := List.mem_iff_getElem.mp h
  exact ⟨j, by rw [List.getElem?_eq_getElem hj, e]⟩
theorem map_get {α β : Type} {f : α → Option β} {is : List α} {ws : List β} (h : is.map f = ws.map some) {j : Nat} {i : α} (hj : is[j]? = some i) : f i = ws[j]? := by
  have h1 : (is.map f)[j]? = (ws.map some)[j]? := by rw [h]
  rw [List.getElem?_map, List.getElem?_map, hj] at h1
  cases e : ws[j]? with
  | none => rw [e] at h1; simp at h1
  | some w => rw [e] at h1; simpa using h1
theorem va_joinS {A0 : Nat → Prop} {D : va_G} {cl : List vw_C} {ws wc w1 : va_W} {H H1 : Heap} (hP : va_P D cl ws H) (hD : va_D A0 ws) (is : List Nat) (hn : va_nd is = true) (hC : is.map (fun i => ws[i]?) = wc.map some) (hl : is.length = w1.length)
    (hk : ∀ q : Nat, q < H.size → ¬ va_A wc H.size q → H1[q]? = H[q]?) (hF : ∀ q, va_A wc H.size q → A0 q) (hP1 : va_P D cl w1 H1) (hD1 : va_D (va_A wc H.size) w1) : va_P D cl (setAll ws is w1) H1 ∧ va_D A0 (setAll ws is w1) := by
  have hin : ∀ (j i : Nat), is[j]? = some i → ws[i]? = wc[j]? := fun j i hj => map_get hC hj
  have hlc : is.length = wc.length := by
    have := congrArg List.length hC
    simpa using this
  have hb : ∀ i ∈ is, i < ws.length := fun i hi => by
    obtain ⟨j, hj⟩ := idx_of_mem hi
    have h1 := hin j i hj
    have hjl : j < wc.length := by rw [← hlc]; exact (List.getElem?_eq_some_iff.mp hj).1
    rw [List.getElem?_eq_getElem hjl] at h1
    exact (List.getElem?_eq_some_iff.mp h1).1
  have hg := setAll_get is w1 ws hn hl hb
  -- a cell that isn't the callee's
  have hout : ∀ (k : Nat) (q : Nat × va_E), k ∉ is → ws[k]? = some q → ¬ va_A wc H.size q.1 := fun k q hki hq h => by
    rcases h with ⟨j, e, hj⟩ | h
    · have hjl : j < is.length := by rw [hlc]; exact (List.getElem?_eq_some_iff.mp hj).1
      have h2 := hin j is[j] (List.getElem?_eq_getElem hjl)
      rw [hj] at h2
      have h3 := hD.1 _ _ _ _ h2 hq rfl
      exact hki (h3 ▸ List.getElem_mem hjl)
    · exact absurd ((hP k q hq).lt) (Nat.not_lt.mpr h)
  refine ⟨fun k q hq => ?_, ⟨fun i j p q hp hq e => ?_, fun k q hq => ?_⟩⟩
  · by_cases hki : k ∈ is
    · obtain ⟨j, hj⟩ := idx_of_mem hki
      rw [(hg k).2 j hj] at hq
      exact hP1 j q hq
    · rw [(hg k).1 hki] at hq
      exact (hP k q hq).kept (hk q.1 (hP k q hq).lt (hout k q hki hq))
  · by_cases hii : i ∈ is
    · obtain ⟨a, ha⟩ := idx_of_mem hii
      rw [(hg i).2 a ha] at hp
      by_cases hjj : j ∈ is
      · obtain ⟨b, hb2⟩ := idx_of_mem hjj
        rw [(hg j).2 b hb2] at hq
        have := hD1.1 _ _ _ _ hp hq e
        subst this
        rw [ha] at hb2
        exact Option.some.inj hb2
      · rw [(hg j).1 hjj] at hq
        exact absurd (e ▸ hD1.2 a p hp) (hout j q hjj hq)
    · rw [(hg i).1 hii] at hp
      by_cases hjj : j ∈ is
      · obtain ⟨b, hb2⟩ := idx_of_mem hjj
        rw [(hg j).2 b hb2] at hq
        exact absurd (e ▸ hD1.2 b q hq) (hout i p hii hp)
      · rw [(hg j).1 hjj] at hq
        exact hD.1 _ _ _ _ hp hq e
  · by_cases hki : k ∈ is
    · obtain ⟨j, hj⟩ := idx_of_mem hki
      rw [(hg k).2 j hj] at hq
      exact hF _ (hD1.2 j q hq)
    · rw [(hg k).1 hki] at hq
      exact hD.2 k q hq
section CS
variable {p : Program} {l : Launch} {e : Env} {R : Room} {s : State} {m : MethodId} {args : Array Value} {below : List Frame} {meth : Method} {c : Code} {H : Heap} {locs : List Loc} {cells slots : Nat} {Q : State → Prop} {D : va_G} {A : Nat → Prop} {pc : Nat} {ls : Array Slot} {st0 rest : List Value} {ws wc w1 : va_W} {a : Array Value}
theorem cs_i {r : Int32} (hP : va_P D vwCl ws H) (hD : va_D A ws) (hS : va_S A s.heap H locs) (hA : ∀ q, s.heap.size ≤ q → A q) (is : List Nat) (hn : va_nd is = true) (hC : is.map (fun i => ws[i]?) = wc.map some) (hl : is.length = w1.length)
    (hr : va_Run p l e R s m args below meth c H locs cells slots 0 0 (F0 m pc ls st0) rest (QI r D w1 (va_A wc H.size) a) (va_A wc H.size))
    (kk : ∀ (H1 : Heap) (locs1 : List Loc), va_P D vwCl (setAll ws is w1) H1 → va_D A (setAll ws is w1) → va_S A s.heap H1 locs1 → W p l e R s m args below meth c H1 locs1 cells slots Q (F0 m (pc + 3) ls (.int r :: rest))) : W p l e R s m args below meth c H locs cells slots Q (F0 m pc ls st0) := by
  have hF := va_free hD hS hA is hC
  refine va_calli hr hS (fun q _ h => hF q h) hF (fun r' u t H1 locs1 ht hvm hw hB hz hk hS1 => ?_)
  obtain ⟨hP1, hD1⟩ := hB
  rw [ht] at hP1
  obtain ⟨hP2, hD2⟩ := va_joinS hP hD is hn hC hl hk hF hP1 hD1
  subst hw
  exact kk H1 locs1 hP2 hD2 hS1
theorem cs_l {r : Int64} (hP : va_P D vwCl ws H) (hD : va_D A ws) (hS : va_S A s.heap H locs) (hA : ∀ q, s.heap.size ≤ q → A q) (is : List Nat) (hn : va_nd is = true) (hC : is.map (fun i => ws[i]?) = wc.map some) (hl : is.length = w1.length)
    (hr : va_Run p l e R s m args below meth c H locs cells slots 0 0 (F0 m pc ls st0) rest (QL r D w1 (va_A wc H.size) a) (va_A wc H.size))
    (kk : ∀ (H1 : Heap) (locs1 : List Loc), va_P D vwCl (setAll ws is w1) H1 → va_D A (setAll ws is w1) → va_S A s.heap H1 locs1 → W p l e R s m args below meth c H1 locs1 cells slots Q (F0 m (pc + 3) ls (.long r :: rest))) : W p l e R s m args below meth c H locs cells slots Q (F0 m pc ls st0) := by
  have hF := va_free hD hS hA is hC
  refine va_calll hr hS (fun q _ h => hF q h) hF (fun r' u t H1 locs1 ht hvm hw hB hz hk hS1 => ?_)
  obtain ⟨hP1, hD1⟩ := hB
  rw [ht] at hP1
  obtain ⟨hP2, hD2⟩ := va_joinS hP hD is hn hC hl hk hF hP1 hD1
  subst hw
  exact kk H1 locs1 hP2 hD2 hS1
theorem cs_v (hP : va_P D vwCl ws H) (hD : va_D A ws) (hS : va_S A s.heap H locs) (hA : ∀ q, s.heap.size ≤ q → A q) (is : List Nat) (hn : va_nd is = true) (hC : is.map (fun i => ws[i]?) = wc.map some) (hl : is.length = w1.length)
    (hr : va_Run p l e R s m args below meth c H locs cells slots 0 0 (F0 m pc ls st0) rest (QV D w1 (va_A wc H.size) a) (va_A wc H.size))
    (kk : ∀ (H1 : Heap) (locs1 : List Loc), va_P D vwCl (setAll ws is w1) H1 → va_D A (setAll ws is w1) → va_S A s.heap H1 locs1 → W p l e R s m args below meth c H1 locs1 cells slots Q (F0 m (pc + 3) ls rest)) : W p l e R s m args below meth c H locs cells slots Q (F0 m pc ls st0) := by
  have hF := va_free hD hS hA is hC
  refine va_callv hr hS (fun q _ h => hF q h) hF (fun u t H1 locs1 ht hvm hw hB hz hk hS1 => ?_)
  obtain ⟨hP1, hD1⟩ := hB
  rw [ht] at hP1
  obtain ⟨hP2, hD2⟩ := va_joinS hP hD is hn hC hl hk hF hP1 hD1
  exact kk H1 locs1 hP2 hD2 hS1
theorem ret_i {T0 : Type} {q t0 : T0} {g : T0 → Int32} {v : Int32} {wp : T0 → va_W} {cc : ByteArray} (hQ : Q = MQ below (QI (g q) D (wp q) A) args s cells slots A) (hf : some t0 = some q) (hx : p.tables.exec = Jvm.exec) (hb : c.code = cc) (hr : meth.sig.returnType = some .int) (hlocks : meth.locks = false) (hP : va_P D vwCl (wp t0) H) (hD : va_D A (wp t0)) (hS : va_S A s.heap H locs) (hd : decode cc pc = .ok (.ireturn, 1)) (hv : g t0 = v) : W p l e R s m args below meth c H locs cells slots Q (F0 m pc ls [.int v]) := by
  subst hv
  obtain rfl := Option.some.inj hf
  rw [hQ]
  exact W.iret hx hb hr (fun t ht hW => ⟨⟨_, (), rfl, rfl, by rw [ht]; exact hP, hD⟩, hS.F ht⟩) hS.2.2 hd
theorem ret_z {T0 : Type} {q t0 : T0} {g : T0 → Int32} {v : Int32} {wp : T0 → va_W} {cc : ByteArray} (hQ : Q = MQ below (QI (g q) D (wp q) A) args s cells slots A) (hf : some t0 = some q) (hx : p.tables.exec = Jvm.exec) (hb : c.code = cc) (hr : meth.sig.returnType = some .boolean) (hlocks : meth.locks = false) (hz : narrow .boolean (.int v) = .int v) (hP : va_P D vwCl (wp t0) H) (hD : va_D A (wp t0)) (hS : va_S A s.heap H locs) (hd : decode cc pc = .ok (.ireturn, 1)) (hv : g t0 = v) : W p l e R s m args below meth c H locs cells slots Q (F0 m pc ls [.int v]) := by
  subst hv
  obtain rfl := Option.some.inj hf
  rw [hQ]
  exact W.zret (ty := .boolean) hx hb hr hz (fun t ht hW => ⟨⟨_, (), rfl, rfl, by rw [ht]; exact hP, hD⟩, hS.F ht⟩) hS.2.2 hd
theorem ret_l {T0 : Type} {q t0 : T0} {g : T0 → Int64} {v : Int64} {wp : T0 → va_W} {cc : ByteArray} (hQ : Q = MQ below (QL (g q) D (wp q) A) args s cells slots A) (hf : some t0 = some q) (hx : p.tables.exec = Jvm.exec) (hb : c.code = cc) (hr : meth.sig.returnType = some .long) (hlocks : meth.locks = false) (hP : va_P D vwCl (wp t0) H) (hD : va_D A (wp t0)) (hS : va_S A s.heap H locs) (hd : decode cc pc = .ok (.lreturn, 1)) (hv : g t0 = v) : W p l e R s m args below meth c H locs cells slots Q (F0 m pc ls [.long v]) := by
  subst hv
  obtain rfl := Option.some.inj hf
  rw [hQ]
  exact W.lret hx hb hr (fun t ht hW => ⟨⟨_, (), rfl, rfl, by rw [ht]; exact hP, hD⟩, hS.F ht⟩) hS.2.2 hd
theorem ret_v {T0 : Type} {q t0 : T0} {wp : T0 → va_W} {cc : ByteArray} (hQ : Q = MQ below (QV D (wp q) A) args s cells slots A) (hf : some t0 = some q) (hx : p.tables.exec = Jvm.exec) (hb : c.code = cc) (hr : meth.sig.returnType = none) (hlocks : meth.locks = false) (hP : va_P D vwCl (wp t0) H) (hD : va_D A (wp t0)) (hS : va_S A s.heap H locs) (hd : decode cc pc = .ok (.return_, 1)) : W p l e R s m args below meth c H locs cells slots Q (F0 m pc ls []) := by
  obtain rfl := Option.some.inj hf
  rw [hQ]
  exact W.vret hx hb hr (fun t ht hW => ⟨⟨(), rfl, trivial, by rw [ht]; exact hP, hD⟩, hS.F ht⟩) hS.2.2 hd
end CS
/-! A call with its frame: the new world given, compared place by place. -/
theorem map_get2 {α β : Type} {f g : α → Option β} {is : List α} (h : is.map f = is.map g) {j : Nat} {i : α} (hj : is[j]? = some i) : f i = g i := by
  have h1 : (is.map f)[j]? = (is.map g)[j]? := by rw [h]
  rw [List.getElem?_map, List.getElem?_map, hj] at h1
  simpa using h1
theorem va_joinT {A0 : Nat → Prop} {D : va_G} {cl : List vw_C} {ws wc w1 wn : va_W} {H H1 : Heap} {n : Nat} (hP : va_P D cl ws H) (hD : va_D A0 ws) (is isR : List Nat) (hn : va_nd is = true) (hC : is.map (fun i => ws[i]?) = wc.map some) (hW : is.map (fun i => wn[i]?) = w1.map some) (hR : isR.map (fun i => ws[i]?) = isR.map (fun i => wn[i]?)) (hl : wn.length = n) (hall : (List.range n).all (fun k => is.contains k || isR.contains k) = true)
    (hk : ∀ q : Nat, q < H.size → ¬ va_A wc H.size q → H1[q]? = H[q]?) (hF : ∀ q, va_A wc H.size q → A0 q) (hP1 : va_P D cl w1 H1) (hD1 : va_D (va_A wc H.size) w1) : va_P D cl wn H1 ∧ va_D A0 wn := by
  have hlw : is.length = w1.length := by
    have := congrArg List.length hW
    simpa using this
  have hlc : is.length = wc.length := by
    have := congrArg List.length hC
    simpa using this
  obtain ⟨hP2, hD2⟩ := va_joinS hP hD is hn hC hlw hk hF hP1 hD1
  have hb : ∀ i ∈ is, i < ws.length := fun i hi => by
    obtain ⟨j, hj⟩ := idx_of_mem hi
    have h1 := map_get hC hj
    have hjl : j < wc.length := by rw [← hlc]; exact (List.getElem?_eq_some_iff.mp hj).1
    rw [List.getElem?_eq_getElem hjl] at h1
    exact (List.getElem?_eq_some_iff.mp h1).1
  have hg := setAll_get is w1 ws hn hlw hb
  have key : ∀ (k : Nat) (q : Nat × va_E), wn[k]? = some q → (setAll ws is w1)[k]? = some q := fun k q hq => by
    have hkn : k < n := by rw [← hl]; exact (List.getElem?_eq_some_iff.mp hq).1
    have h1 := List.all_eq_true.mp hall k (List.mem_range.mpr hkn)
    by_cases hki : k ∈ is
    · obtain ⟨j, hj⟩ := idx_of_mem hki
      rw [(hg k).2 j hj, ← map_get hW hj]
      exact hq
    · have h2 : k ∈ isR := by
        rcases Bool.or_eq_true_iff.mp h1 with h | h
        · exact absurd (List.contains_iff_mem.mp h) hki
        · exact List.contains_iff_mem.mp h
      obtain ⟨j, hj⟩ := idx_of_mem h2
      rw [(hg k).1 hki, map_get2 hR hj]
      exact hq
  exact ⟨fun k q hq => hP2 k q (key k q hq), ⟨fun i j p q hp hq e => hD2.1 i j p q (key i p hp) (key j q hq) e, fun k q hq => hD2.2 k q (key k q hq)⟩⟩
section CT
variable {p : Program} {l : Launch} {e : Env} {R : Room} {s : State} {m : MethodId} {args : Array Value} {below : List Frame} {meth : Method} {c : Code} {H : Heap} {locs : List Loc} {cells slots : Nat} {Q : State → Prop} {D : va_G} {A : Nat → Prop} {pc : Nat} {ls : Array Slot} {st0 rest : List Value} {ws wc w1 wn : va_W} {a : Array Value} {n : Nat}
theorem ct_i {r : Int32} (hP : va_P D vwCl ws H) (hD : va_D A ws) (hS : va_S A s.heap H locs) (hA : ∀ q, s.heap.size ≤ q → A q) (is isR : List Nat) (hn : va_nd is = true) (hC : is.map (fun i => ws[i]?) = wc.map some) (hW : is.map (fun i => wn[i]?) = w1.map some) (hR : isR.map (fun i => ws[i]?) = isR.map (fun i => wn[i]?)) (hl : wn.length = n) (hall : (List.range n).all (fun k => is.contains k || isR.contains k) = true)
    (hr : va_Run p l e R s m args below meth c H locs cells slots 0 0 (F0 m pc ls st0) rest (QI r D w1 (va_A wc H.size) a) (va_A wc H.size))
    (kk : ∀ (H1 : Heap) (locs1 : List Loc), va_P D vwCl wn H1 → va_D A wn → va_S A s.heap H1 locs1 → W p l e R s m args below meth c H1 locs1 cells slots Q (F0 m (pc + 3) ls (.int r :: rest))) : W p l e R s m args below meth c H locs cells slots Q (F0 m pc ls st0) := by
  have hF := va_free hD hS hA is hC
  refine va_calli hr hS (fun q _ h => hF q h) hF (fun r' u t H1 locs1 ht hvm hw hB hz hk hS1 => ?_)
  obtain ⟨hP1, hD1⟩ := hB
  rw [ht] at hP1
  obtain ⟨hP2, hD2⟩ := va_joinT hP hD is isR hn hC hW hR hl hall hk hF hP1 hD1
  subst hw
  exact kk H1 locs1 hP2 hD2 hS1
theorem ct_l {r : Int64} (hP : va_P D vwCl ws H) (hD : va_D A ws) (hS : va_S A s.heap H locs) (hA : ∀ q, s.heap.size ≤ q → A q) (is isR : List Nat) (hn : va_nd is = true) (hC : is.map (fun i => ws[i]?) = wc.map some) (hW : is.map (fun i => wn[i]?) = w1.map some) (hR : isR.map (fun i => ws[i]?) = isR.map (fun i => wn[i]?)) (hl : wn.length = n) (hall : (List.range n).all (fun k => is.contains k || isR.contains k) = true)
    (hr : va_Run p l e R s m args below meth c H locs cells slots 0 0 (F0 m pc ls st0) rest (QL r D w1 (va_A wc H.size) a) (va_A wc H.size))
    (kk : ∀ (H1 : Heap) (locs1 : List Loc), va_P D vwCl wn H1 → va_D A wn → va_S A s.heap H1 locs1 → W p l e R s m args below meth c H1 locs1 cells slots Q (F0 m (pc + 3) ls (.long r :: rest))) : W p l e R s m args below meth c H locs cells slots Q (F0 m pc ls st0) := by
  have hF := va_free hD hS hA is hC
  refine va_calll hr hS (fun q _ h => hF q h) hF (fun r' u t H1 locs1 ht hvm hw hB hz hk hS1 => ?_)
  obtain ⟨hP1, hD1⟩ := hB
  rw [ht] at hP1
  obtain ⟨hP2, hD2⟩ := va_joinT hP hD is isR hn hC hW hR hl hall hk hF hP1 hD1
  subst hw
  exact kk H1 locs1 hP2 hD2 hS1
theorem ct_v (hP : va_P D vwCl ws H) (hD : va_D A ws) (hS : va_S A s.heap H locs) (hA : ∀ q, s.heap.size ≤ q → A q) (is isR : List Nat) (hn : va_nd is = true) (hC : is.map (fun i => ws[i]?) = wc.map some) (hW : is.map (fun i => wn[i]?) = w1.map some) (hR : isR.map (fun i => ws[i]?) = isR.map (fun i => wn[i]?)) (hl : wn.length = n) (hall : (List.range n).all (fun k => is.contains k || isR.contains k) = true)
    (hr : va_Run p l e R s m args below meth c H locs cells slots 0 0 (F0 m pc ls st0) rest (QV D w1 (va_A wc H.size) a) (va_A wc H.size))
    (kk : ∀ (H1 : Heap) (locs1 : List Loc), va_P D vwCl wn H1 → va_D A wn → va_S A s.heap H1 locs1 → W p l e R s m args below meth c H1 locs1 cells slots Q (F0 m (pc + 3) ls rest)) : W p l e R s m args below meth c H locs cells slots Q (F0 m pc ls st0) := by
  have hF := va_free hD hS hA is hC
  refine va_callv hr hS (fun q _ h => hF q h) hF (fun u t H1 locs1 ht hvm hw hB hz hk hS1 => ?_)
  obtain ⟨hP1, hD1⟩ := hB
  rw [ht] at hP1
  obtain ⟨hP2, hD2⟩ := va_joinT hP hD is isR hn hC hW hR hl hall hk hF hP1 hD1
  exact kk H1 locs1 hP2 hD2 hS1
end CT
