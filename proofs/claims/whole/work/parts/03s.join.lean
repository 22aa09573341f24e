/-! A call with its frame: the new world given, compared place by place. -/
theorem map_get2 {α β : Type} {f g : α → Option β} {is : List α} (h : is.map f = is.map g) {j : Nat} {i : α} (hj : is[j]? = some i) : f i = g i := by
  have h1 : (is.map f)[j]? = (is.map g)[j]? := by rw [h]
  rw [List.getElem?_map, List.getElem?_map, hj] at h1
  simpa using h1
theorem va_joinT {A0 : Nat → Prop} {D : va_G} {cl : List vw_C} {ws wc w1 wn : va_W} {H H1 : Heap} {n : Nat} (hP : va_P D cl ws H) (hD : va_D A0 ws) (is isR : List Nat) (hn : va_nd is = true) (hC : is.map (fun i => ws[i]?) = wc.map some) (hW : is.map (fun i => wn[i]?) = w1.map some) (hR : isR.map (fun i => ws[i]?) = isR.map (fun i => wn[i]?)) (hl : wn.length = n) (hall : (List.range n).all (fun k => is.contains k || isR.contains k) = true)
    (hk : ∀ q : Nat, q < H.size → ¬ va_A wc H.size q → H1[q]? = H[q]?) (hF : ∀ q, va_A wc H.size q → A0 q) (hP1 : va_P D cl w1 H1) (hD1 : va_D (va_A wc H.size) w1) : va_P D cl wn H1 ∧ va_D A0 wn := by
  have hlw : is.length = w1.length := by
    have := congrArg List.length hW
    simpa using this
  have hlc : is.length = wc.length := by
    have := congrArg List.length hC
    simpa using this
  obtain ⟨hP2, hD2⟩ := va_joinS hP hD is hn hC hlw hk hF hP1 hD1
  have hb : ∀ i ∈ is, i < ws.length := fun i hi => by
    obtain ⟨j, hj⟩ := idx_of_mem hi
    have h1 := map_get hC hj
    have hjl : j < wc.length := by rw [← hlc]; exact (List.getElem?_eq_some_iff.mp hj).1
    rw [List.getElem?_eq_getElem hjl] at h1
    exact (List.getElem?_eq_some_iff.mp h1).1
  have hg := setAll_get is w1 ws hn hlw hb
  have key : ∀ (k : Nat) (q : Nat × va_E), wn[k]? = some q → (setAll ws is w1)[k]? = some q := fun k q hq => by
    have hkn : k < n := by rw [← hl]; exact (List.getElem?_eq_some_iff.mp hq).1
    have h1 := List.all_eq_true.mp hall k (List.mem_range.mpr hkn)
    by_cases hki : k ∈ is
    · obtain ⟨j, hj⟩ := idx_of_mem hki
      rw [(hg k).2 j hj, ← map_get hW hj]
      exact hq
    · have h2 : k ∈ isR := by
        rcases Bool.or_eq_true_iff.mp h1 with h | h
        · exact absurd (List.contains_iff_mem.mp h) hki
        · exact List.contains_iff_mem.mp h
      obtain ⟨j, hj⟩ := idx_of_mem h2
      rw [(hg k).1 hki, map_get2 hR hj]
      exact hq
  exact ⟨fun k q hq => hP2 k q (key k q hq), ⟨fun i j p q hp hq e => hD2.1 i j p q (key i p hp) (key j q hq) e, fun k q hq => hD2.2 k q (key k q hq)⟩⟩
section CT
variable {p : Program} {l : Launch} {e : Env} {R : Room} {s : State} {m : MethodId} {args : Array Value} {below : List Frame} {meth : Method} {c : Code} {H : Heap} {locs : List Loc} {cells slots : Nat} {Q : State → Prop} {D : va_G} {A : Nat → Prop} {pc : Nat} {ls : Array Slot} {st0 rest : List Value} {ws wc w1 wn : va_W} {a : Array Value} {n : Nat}
theorem ct_i {r : Int32} (hP : va_P D vwCl ws H) (hD : va_D A ws) (hS : va_S A s.heap H locs) (hA : ∀ q, s.heap.size ≤ q → A q) (is isR : List Nat) (hn : va_nd is = true) (hC : is.map (fun i => ws[i]?) = wc.map some) (hW : is.map (fun i => wn[i]?) = w1.map some) (hR : isR.map (fun i => ws[i]?) = isR.map (fun i => wn[i]?)) (hl : wn.length = n) (hall : (List.range n).all (fun k => is.contains k || isR.contains k) = true)
    (hr : va_Run p l e R s m args below meth c H locs cells slots 0 0 (F0 m pc ls st0) rest (QI r D w1 (va_A wc H.size) a) (va_A wc H.size))
    (kk : ∀ (H1 : Heap) (locs1 : List Loc), va_P D vwCl wn H1 → va_D A wn → va_S A s.heap H1 locs1 → W p l e R s m args below meth c H1 locs1 cells slots Q (F0 m (pc + 3) ls (.int r :: rest))) : W p l e R s m args below meth c H locs cells slots Q (F0 m pc ls st0) := by
  have hF := va_free hD hS hA is hC
  refine va_calli hr hS (fun q _ h => hF q h) hF (fun r' u t H1 locs1 ht hvm hw hB hz hk hS1 => ?_)
  obtain ⟨hP1, hD1⟩ := hB
  rw [ht] at hP1
  obtain ⟨hP2, hD2⟩ := va_joinT hP hD is isR hn hC hW hR hl hall hk hF hP1 hD1
  subst hw
  exact kk H1 locs1 hP2 hD2 hS1
theorem ct_l {r : Int64} (hP : va_P D vwCl ws H) (hD : va_D A ws) (hS : va_S A s.heap H locs) (hA : ∀ q, s.heap.size ≤ q → A q) (is isR : List Nat) (hn : va_nd is = true) (hC : is.map (fun i => ws[i]?) = wc.map some) (hW : is.map (fun i => wn[i]?) = w1.map some) (hR : isR.map (fun i => ws[i]?) = isR.map (fun i => wn[i]?)) (hl : wn.length = n) (hall : (List.range n).all (fun k => is.contains k || isR.contains k) = true)
    (hr : va_Run p l e R s m args below meth c H locs cells slots 0 0 (F0 m pc ls st0) rest (QL r D w1 (va_A wc H.size) a) (va_A wc H.size))
    (kk : ∀ (H1 : Heap) (locs1 : List Loc), va_P D vwCl wn H1 → va_D A wn → va_S A s.heap H1 locs1 → W p l e R s m args below meth c H1 locs1 cells slots Q (F0 m (pc + 3) ls (.long r :: rest))) : W p l e R s m args below meth c H locs cells slots Q (F0 m pc ls st0) := by
  have hF := va_free hD hS hA is hC
  refine va_calll hr hS (fun q _ h => hF q h) hF (fun r' u t H1 locs1 ht hvm hw hB hz hk hS1 => ?_)
  obtain ⟨hP1, hD1⟩ := hB
  rw [ht] at hP1
  obtain ⟨hP2, hD2⟩ := va_joinT hP hD is isR hn hC hW hR hl hall hk hF hP1 hD1
  subst hw
  exact kk H1 locs1 hP2 hD2 hS1
theorem ct_v (hP : va_P D vwCl ws H) (hD : va_D A ws) (hS : va_S A s.heap H locs) (hA : ∀ q, s.heap.size ≤ q → A q) (is isR : List Nat) (hn : va_nd is = true) (hC : is.map (fun i => ws[i]?) = wc.map some) (hW : is.map (fun i => wn[i]?) = w1.map some) (hR : isR.map (fun i => ws[i]?) = isR.map (fun i => wn[i]?)) (hl : wn.length = n) (hall : (List.range n).all (fun k => is.contains k || isR.contains k) = true)
    (hr : va_Run p l e R s m args below meth c H locs cells slots 0 0 (F0 m pc ls st0) rest (QV D w1 (va_A wc H.size) a) (va_A wc H.size))
    (kk : ∀ (H1 : Heap) (locs1 : List Loc), va_P D vwCl wn H1 → va_D A wn → va_S A s.heap H1 locs1 → W p l e R s m args below meth c H1 locs1 cells slots Q (F0 m (pc + 3) ls rest)) : W p l e R s m args below meth c H locs cells slots Q (F0 m pc ls st0) := by
  have hF := va_free hD hS hA is hC
  refine va_callv hr hS (fun q _ h => hF q h) hF (fun u t H1 locs1 ht hvm hw hB hz hk hS1 => ?_)
  obtain ⟨hP1, hD1⟩ := hB
  rw [ht] at hP1
  obtain ⟨hP2, hD2⟩ := va_joinT hP hD is isR hn hC hW hR hl hall hk hF hP1 hD1
  exact kk H1 locs1 hP2 hD2 hS1
end CT
