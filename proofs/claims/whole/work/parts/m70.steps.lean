/-! Two worlds side by side: a call on one of them leaves the other. -/
theorem va_P_comm {D : va_G} {cl : List vw_C} {a b : va_W} {H : Heap} (h : va_P D cl (a ++ b) H) : va_P D cl (b ++ a) H := fun k q hk => by
  by_cases hb : k < b.length
  · rw [List.getElem?_append_left hb] at hk
    exact h (a.length + k) q (by rw [List.getElem?_append_right (by omega)]; rw [show a.length + k - a.length = k by omega]; exact hk)
  · rw [List.getElem?_append_right (by omega)] at hk
    exact h (k - b.length) q (by rw [List.getElem?_append_left (List.getElem?_eq_some_iff.mp hk).1]; exact hk)
theorem va_D_comm {A : Nat → Prop} {a b : va_W} (h : va_D A (a ++ b)) : va_D A (b ++ a) := by
  have key : ∀ (k : Nat) (q : Nat × va_E), (b ++ a)[k]? = some q → (a ++ b)[if k < b.length then a.length + k else k - b.length]? = some q := fun k q hk => by
    by_cases hb : k < b.length
    · rw [if_pos hb, List.getElem?_append_right (by omega), show a.length + k - a.length = k by omega]
      rwa [List.getElem?_append_left hb] at hk
    · rw [if_neg hb]
      rw [List.getElem?_append_right (by omega)] at hk
      rw [List.getElem?_append_left (List.getElem?_eq_some_iff.mp hk).1]
      exact hk
  refine ⟨fun i j p q hp hq e => ?_, fun k q hk => h.2 _ q (key k q hk)⟩
  have h1 := h.1 _ _ _ _ (key i p hp) (key j q hq) e
  have hi : i < (b ++ a).length := (List.getElem?_eq_some_iff.mp hp).1
  have hj : j < (b ++ a).length := (List.getElem?_eq_some_iff.mp hq).1
  rw [List.length_append] at hi hj
  by_cases h2 : i < b.length <;> by_cases h3 : j < b.length <;> simp only [h2, h3, if_true, if_false] at h1 <;> omega
theorem va_joinU {A0 : Nat → Prop} {D : va_G} {cl : List vw_C} {X X' M wc w1 wr : va_W} {H H1 : Heap} {n : Nat} (hP : va_P D cl (X ++ M) H) (hD : va_D A0 (X ++ M)) (is isR : List Nat) (hn : va_nd is = true) (hC : is.map (fun i => X[i]?) = wc.map some) (hW : is.map (fun i => X'[i]?) = w1.map some) (hR : isR.map (fun i => X[i]?) = wr.map some) (hR' : isR.map (fun i => X'[i]?) = wr.map some) (hl : X.length = n) (hl' : X'.length = n) (hall : (List.range n).all (fun k => is.contains k || isR.contains k) = true)
    (hk : ∀ q : Nat, q < H.size → ¬ va_A wc H.size q → H1[q]? = H[q]?) (hF : ∀ q, va_A wc H.size q → A0 q) (hP1 : va_P D cl w1 H1) (hD1 : va_D (va_A wc H.size) w1) : va_P D cl (X' ++ M) H1 ∧ va_D A0 (X' ++ M) := by
  have hlw : is.length = w1.length := by
    have := congrArg List.length hW
    simpa using this
  have hlc : is.length = wc.length := by
    have := congrArg List.length hC
    simpa using this
  have hbX : ∀ i ∈ is, i < X.length := fun i hi => by
    obtain ⟨j, hj⟩ := idx_of_mem hi
    have h1 := map_get hC hj
    have hjl : j < wc.length := by rw [← hlc]; exact (List.getElem?_eq_some_iff.mp hj).1
    rw [List.getElem?_eq_getElem hjl] at h1
    exact (List.getElem?_eq_some_iff.mp h1).1
  have hC2 : is.map (fun i => (X ++ M)[i]?) = wc.map some := by
    rw [← hC]
    exact List.map_congr_left (fun i hi => List.getElem?_append_left (hbX i hi))
  obtain ⟨hP2, hD2⟩ := va_joinS hP hD is hn hC2 hlw hk hF hP1 hD1
  have hg := setAll_get is w1 (X ++ M) hn hlw (fun i hi => by rw [List.length_append]; exact Nat.lt_of_lt_of_le (hbX i hi) (Nat.le_add_right _ _))
  have key : ∀ (k : Nat) (q : Nat × va_E), (X' ++ M)[k]? = some q → (setAll (X ++ M) is w1)[k]? = some q := fun k q hq => by
    by_cases hkn : k < n
    · rw [List.getElem?_append_left (by omega)] at hq
      have h1 := List.all_eq_true.mp hall k (List.mem_range.mpr hkn)
      by_cases hki : k ∈ is
      · obtain ⟨j, hj⟩ := idx_of_mem hki
        rw [(hg k).2 j hj, ← map_get hW hj]
        exact hq
      · have h2 : k ∈ isR := by
          rcases Bool.or_eq_true_iff.mp h1 with h | h
          · exact absurd (List.contains_iff_mem.mp h) hki
          · exact List.contains_iff_mem.mp h
        obtain ⟨j, hj⟩ := idx_of_mem h2
        rw [(hg k).1 hki, List.getElem?_append_left (by omega), show X[k]? = X'[k]? from (map_get hR hj).trans (map_get hR' hj).symm]
        exact hq
    · rw [List.getElem?_append_right (by omega), hl'] at hq
      rw [(hg k).1 (fun h => by have := hbX k h; omega), List.getElem?_append_right (by omega), hl]
      exact hq
  exact ⟨fun k q hq => hP2 k q (key k q hq), ⟨fun i j p q hp hq e => hD2.1 i j p q (key i p hp) (key j q hq) e, fun k q hq => hD2.2 k q (key k q hq)⟩⟩
section CU
variable {p : Program} {l : Launch} {e : Env} {R : Room} {s : State} {m : MethodId} {args : Array Value} {below : List Frame} {meth : Method} {c : Code} {H : Heap} {locs : List Loc} {cells slots : Nat} {Q : State → Prop} {D : va_G} {A : Nat → Prop} {pc : Nat} {ls : Array Slot} {st0 rest : List Value} {X X' M wc w1 wr : va_W} {a : Array Value} {n : Nat}
theorem cx_i {r : Int32} (hP : va_P D vwCl (X ++ M) H) (hD : va_D A (X ++ M)) (hS : va_S A s.heap H locs) (hA : ∀ q, s.heap.size ≤ q → A q) (is isR : List Nat) (hn : va_nd is = true) (hC : is.map (fun i => X[i]?) = wc.map some) (hW : is.map (fun i => X'[i]?) = w1.map some) (hR : isR.map (fun i => X[i]?) = wr.map some) (hR' : isR.map (fun i => X'[i]?) = wr.map some) (hl : X.length = n) (hl' : X'.length = n) (hall : (List.range n).all (fun k => is.contains k || isR.contains k) = true)
    (hr : va_Run p l e R s m args below meth c H locs cells slots 0 0 (F0 m pc ls st0) rest (QI r D w1 (va_A wc H.size) a) (va_A wc H.size))
    (kk : ∀ (H1 : Heap) (locs1 : List Loc), va_P D vwCl (X' ++ M) H1 → va_D A (X' ++ M) → va_S A s.heap H1 locs1 → W p l e R s m args below meth c H1 locs1 cells slots Q (F0 m (pc + 3) ls (.int r :: rest))) : W p l e R s m args below meth c H locs cells slots Q (F0 m pc ls st0) := by
  have hlc : is.length = wc.length := by
    have := congrArg List.length hC
    simpa using this
  have hC2 : is.map (fun i => (X ++ M)[i]?) = wc.map some := by
    rw [← hC]
    refine List.map_congr_left (fun i hi => List.getElem?_append_left ?_)
    obtain ⟨j, hj⟩ := idx_of_mem hi
    have h1 := map_get hC hj
    have hjl : j < wc.length := by rw [← hlc]; exact (List.getElem?_eq_some_iff.mp hj).1
    rw [List.getElem?_eq_getElem hjl] at h1
    exact (List.getElem?_eq_some_iff.mp h1).1
  have hF := va_free hD hS hA is hC2
  refine va_calli hr hS (fun q _ h => hF q h) hF (fun r' u t H1 locs1 ht hvm hw hB hz hk hS1 => ?_)
  obtain ⟨hP1, hD1⟩ := hB
  rw [ht] at hP1
  obtain ⟨hP2, hD2⟩ := va_joinU hP hD is isR hn hC hW hR hR' hl hl' hall hk hF hP1 hD1
  subst hw
  exact kk H1 locs1 hP2 hD2 hS1
theorem cx_l {r : Int64} (hP : va_P D vwCl (X ++ M) H) (hD : va_D A (X ++ M)) (hS : va_S A s.heap H locs) (hA : ∀ q, s.heap.size ≤ q → A q) (is isR : List Nat) (hn : va_nd is = true) (hC : is.map (fun i => X[i]?) = wc.map some) (hW : is.map (fun i => X'[i]?) = w1.map some) (hR : isR.map (fun i => X[i]?) = wr.map some) (hR' : isR.map (fun i => X'[i]?) = wr.map some) (hl : X.length = n) (hl' : X'.length = n) (hall : (List.range n).all (fun k => is.contains k || isR.contains k) = true)
    (hr : va_Run p l e R s m args below meth c H locs cells slots 0 0 (F0 m pc ls st0) rest (QL r D w1 (va_A wc H.size) a) (va_A wc H.size))
    (kk : ∀ (H1 : Heap) (locs1 : List Loc), va_P D vwCl (X' ++ M) H1 → va_D A (X' ++ M) → va_S A s.heap H1 locs1 → W p l e R s m args below meth c H1 locs1 cells slots Q (F0 m (pc + 3) ls (.long r :: rest))) : W p l e R s m args below meth c H locs cells slots Q (F0 m pc ls st0) := by
  have hlc : is.length = wc.length := by
    have := congrArg List.length hC
    simpa using this
  have hC2 : is.map (fun i => (X ++ M)[i]?) = wc.map some := by
    rw [← hC]
    refine List.map_congr_left (fun i hi => List.getElem?_append_left ?_)
    obtain ⟨j, hj⟩ := idx_of_mem hi
    have h1 := map_get hC hj
    have hjl : j < wc.length := by rw [← hlc]; exact (List.getElem?_eq_some_iff.mp hj).1
    rw [List.getElem?_eq_getElem hjl] at h1
    exact (List.getElem?_eq_some_iff.mp h1).1
  have hF := va_free hD hS hA is hC2
  refine va_calll hr hS (fun q _ h => hF q h) hF (fun r' u t H1 locs1 ht hvm hw hB hz hk hS1 => ?_)
  obtain ⟨hP1, hD1⟩ := hB
  rw [ht] at hP1
  obtain ⟨hP2, hD2⟩ := va_joinU hP hD is isR hn hC hW hR hR' hl hl' hall hk hF hP1 hD1
  subst hw
  exact kk H1 locs1 hP2 hD2 hS1
theorem cm_i {r : Int32} (hP : va_P D vwCl (M ++ X) H) (hD : va_D A (M ++ X)) (hS : va_S A s.heap H locs) (hA : ∀ q, s.heap.size ≤ q → A q) (is isR : List Nat) (hn : va_nd is = true) (hC : is.map (fun i => X[i]?) = wc.map some) (hW : is.map (fun i => X'[i]?) = w1.map some) (hR : isR.map (fun i => X[i]?) = wr.map some) (hR' : isR.map (fun i => X'[i]?) = wr.map some) (hl : X.length = n) (hl' : X'.length = n) (hall : (List.range n).all (fun k => is.contains k || isR.contains k) = true)
    (hr : va_Run p l e R s m args below meth c H locs cells slots 0 0 (F0 m pc ls st0) rest (QI r D w1 (va_A wc H.size) a) (va_A wc H.size))
    (kk : ∀ (H1 : Heap) (locs1 : List Loc), va_P D vwCl (M ++ X') H1 → va_D A (M ++ X') → va_S A s.heap H1 locs1 → W p l e R s m args below meth c H1 locs1 cells slots Q (F0 m (pc + 3) ls (.int r :: rest))) : W p l e R s m args below meth c H locs cells slots Q (F0 m pc ls st0) := by
  have hP := va_P_comm hP
  have hD := va_D_comm hD
  have hlc : is.length = wc.length := by
    have := congrArg List.length hC
    simpa using this
  have hC2 : is.map (fun i => (X ++ M)[i]?) = wc.map some := by
    rw [← hC]
    refine List.map_congr_left (fun i hi => List.getElem?_append_left ?_)
    obtain ⟨j, hj⟩ := idx_of_mem hi
    have h1 := map_get hC hj
    have hjl : j < wc.length := by rw [← hlc]; exact (List.getElem?_eq_some_iff.mp hj).1
    rw [List.getElem?_eq_getElem hjl] at h1
    exact (List.getElem?_eq_some_iff.mp h1).1
  have hF := va_free hD hS hA is hC2
  refine va_calli hr hS (fun q _ h => hF q h) hF (fun r' u t H1 locs1 ht hvm hw hB hz hk hS1 => ?_)
  obtain ⟨hP1, hD1⟩ := hB
  rw [ht] at hP1
  obtain ⟨hP2, hD2⟩ := va_joinU hP hD is isR hn hC hW hR hR' hl hl' hall hk hF hP1 hD1
  subst hw
  exact kk H1 locs1 (va_P_comm hP2) (va_D_comm hD2) hS1
theorem cm_l {r : Int64} (hP : va_P D vwCl (M ++ X) H) (hD : va_D A (M ++ X)) (hS : va_S A s.heap H locs) (hA : ∀ q, s.heap.size ≤ q → A q) (is isR : List Nat) (hn : va_nd is = true) (hC : is.map (fun i => X[i]?) = wc.map some) (hW : is.map (fun i => X'[i]?) = w1.map some) (hR : isR.map (fun i => X[i]?) = wr.map some) (hR' : isR.map (fun i => X'[i]?) = wr.map some) (hl : X.length = n) (hl' : X'.length = n) (hall : (List.range n).all (fun k => is.contains k || isR.contains k) = true)
    (hr : va_Run p l e R s m args below meth c H locs cells slots 0 0 (F0 m pc ls st0) rest (QL r D w1 (va_A wc H.size) a) (va_A wc H.size))
    (kk : ∀ (H1 : Heap) (locs1 : List Loc), va_P D vwCl (M ++ X') H1 → va_D A (M ++ X') → va_S A s.heap H1 locs1 → W p l e R s m args below meth c H1 locs1 cells slots Q (F0 m (pc + 3) ls (.long r :: rest))) : W p l e R s m args below meth c H locs cells slots Q (F0 m pc ls st0) := by
  have hP := va_P_comm hP
  have hD := va_D_comm hD
  have hlc : is.length = wc.length := by
    have := congrArg List.length hC
    simpa using this
  have hC2 : is.map (fun i => (X ++ M)[i]?) = wc.map some := by
    rw [← hC]
    refine List.map_congr_left (fun i hi => List.getElem?_append_left ?_)
    obtain ⟨j, hj⟩ := idx_of_mem hi
    have h1 := map_get hC hj
    have hjl : j < wc.length := by rw [← hlc]; exact (List.getElem?_eq_some_iff.mp hj).1
    rw [List.getElem?_eq_getElem hjl] at h1
    exact (List.getElem?_eq_some_iff.mp h1).1
  have hF := va_free hD hS hA is hC2
  refine va_calll hr hS (fun q _ h => hF q h) hF (fun r' u t H1 locs1 ht hvm hw hB hz hk hS1 => ?_)
  obtain ⟨hP1, hD1⟩ := hB
  rw [ht] at hP1
  obtain ⟨hP2, hD2⟩ := va_joinU hP hD is isR hn hC hW hR hR' hl hl' hall hk hF hP1 hD1
  subst hw
  exact kk H1 locs1 (va_P_comm hP2) (va_D_comm hD2) hS1
/-- a callee's start, its cells among X's -/
theorem PX_at (is : List Nat) (hC : is.map (fun i => X[i]?) = wc.map some) : is.map (fun i => (X ++ M)[i]?) = wc.map some := by
  rw [← hC]
  have hlc : is.length = wc.length := by
    have := congrArg List.length hC
    simpa using this
  refine List.map_congr_left (fun i hi => List.getElem?_append_left ?_)
  obtain ⟨j, hj⟩ := idx_of_mem hi
  have h1 := map_get hC hj
  have hjl : j < wc.length := by rw [← hlc]; exact (List.getElem?_eq_some_iff.mp hj).1
  rw [List.getElem?_eq_getElem hjl] at h1
  exact (List.getElem?_eq_some_iff.mp h1).1
end CU
/-! A call of each public method out of the law. -/
def shf (a : Nat → Nat) : Nat → Option Nat := va_up (va_up (va_up (va_up (fun _ => none) 0 (some (a 73))) 1 (some (a 75))) 2 (some (a 77))) 3 (some (a 79))
def WX (cyI cyJ cyB cyS : ClassId) (a : Nat → Nat) (u : UX) : va_W := [(a 0, .inr (8, [.ref (a 1), .ref (a 7), .ref (a 11), .ref (a 19), .ref (a 32), .ref (a 57), .ref (a 72), .int (u.1 0), .int (u.1 1)])), (a 1, .inr (2, [.ref (a 2), .ref (a 3), .ref (a 4), .ref (a 5), .ref (a 6), .int (u.1 2), .int (u.1 3), .int (u.1 4)])), (a 2, .inl (cyI, 6, .inl (u.2.1 0))), (a 3, .inl (cyI, 6, .inl (u.2.1 1))), (a 4, .inl (cyI, 6, .inl (u.2.1 2))), (a 5, .inl (cyI, 6, .inl (u.2.1 3))), (a 6, .inl (cyI, 6, .inl (u.2.1 4))), (a 7, .inr (0, [.ref (a 8), .ref (a 9), .ref (a 10), .int (u.1 5)])), (a 8, .inl (cyI, 30, .inl (u.2.1 5))), (a 9, .inl (cyI, 30, .inl (u.2.1 6))), (a 10, .inl (cyI, 30, .inl (u.2.1 7))), (a 11, .inr (4, [.ref (a 12), .ref (a 13), .ref (a 14), .ref (a 15), .ref (a 16), .ref (a 17), .ref (a 18), .int (u.1 6)])), (a 12, .inl (cyI, 6, .inl (u.2.1 8))), (a 13, .inl (cyI, 6, .inl (u.2.1 9))), (a 14, .inl (cyI, 6, .inl (u.2.1 10))), (a 15, .inl (cyI, 6, .inl (u.2.1 11))), (a 16, .inl (cyI, 6, .inl (u.2.1 12))), (a 17, .inl (cyI, 6, .inl (u.2.1 13))), (a 18, .inl (cyI, 6, .inl (u.2.1 14))), (a 19, .inr (1, [.ref (a 20), .ref (a 25), .int (u.1 7), .int (u.1 8), .int (u.1 9), .ref (a 31), .int (u.1 10)])), (a 20, .inr (5, [.ref (a 21), .ref (a 22), .ref (a 23), .int (u.1 11), .ref (a 24), .int (u.1 12)])), (a 21, .inl (cyI, 241, .inl (u.2.1 15))), (a 22, .inl (cyI, 241, .inl (u.2.1 16))), (a 23, .inl (cyI, 241, .inl (u.2.1 17))), (a 24, .inl (cyB, 240, .inl (u.2.1 18))), (a 25, .inr (2, [.ref (a 26), .ref (a 27), .ref (a 28), .ref (a 29), .ref (a 30), .int (u.1 13), .int (u.1 14), .int (u.1 15)])), (a 26, .inl (cyI, 6, .inl (u.2.1 19))), (a 27, .inl (cyI, 6, .inl (u.2.1 20))), (a 28, .inl (cyI, 6, .inl (u.2.1 21))), (a 29, .inl (cyI, 6, .inl (u.2.1 22))), (a 30, .inl (cyI, 6, .inl (u.2.1 23))), (a 31, .inl (cyI, 11, .inl (u.2.1 24))), (a 32, .inr (6, [.ref (a 33), .ref (a 34), .ref (a 35), .ref (a 36), .ref (a 37), .ref (a 38), .ref (a 39), .ref (a 43), .ref (a 51), .int (u.1 16), .int (u.1 17), .int (u.1 18), .int (u.1 19), .int (u.1 20)])), (a 33, .inl (cyJ, 768, .inr (.inl (u.2.2.1 0)))), (a 34, .inl (cyJ, 128, .inr (.inl (u.2.2.1 1)))), (a 35, .inl (cyJ, 6, .inr (.inl (u.2.2.1 2)))), (a 36, .inl (cyI, 7, .inl (u.2.1 25))), (a 37, .inl (cyI, 7, .inl (u.2.1 26))), (a 38, .inl (cyI, 4, .inl (u.2.1 27))), (a 39, .inr (0, [.ref (a 40), .ref (a 41), .ref (a 42), .int (u.1 21)])), (a 40, .inl (cyI, 30, .inl (u.2.1 28))), (a 41, .inl (cyI, 30, .inl (u.2.1 29))), (a 42, .inl (cyI, 30, .inl (u.2.1 30))), (a 43, .inr (4, [.ref (a 44), .ref (a 45), .ref (a 46), .ref (a 47), .ref (a 48), .ref (a 49), .ref (a 50), .int (u.1 22)])), (a 44, .inl (cyI, 6, .inl (u.2.1 31))), (a 45, .inl (cyI, 6, .inl (u.2.1 32))), (a 46, .inl (cyI, 6, .inl (u.2.1 33))), (a 47, .inl (cyI, 6, .inl (u.2.1 34))), (a 48, .inl (cyI, 6, .inl (u.2.1 35))), (a 49, .inl (cyI, 6, .inl (u.2.1 36))), (a 50, .inl (cyI, 6, .inl (u.2.1 37))), (a 51, .inr (2, [.ref (a 52), .ref (a 53), .ref (a 54), .ref (a 55), .ref (a 56), .int (u.1 23), .int (u.1 24), .int (u.1 25)])), (a 52, .inl (cyI, 6, .inl (u.2.1 38))), (a 53, .inl (cyI, 6, .inl (u.2.1 39))), (a 54, .inl (cyI, 6, .inl (u.2.1 40))), (a 55, .inl (cyI, 6, .inl (u.2.1 41))), (a 56, .inl (cyI, 6, .inl (u.2.1 42))), (a 57, .inr (7, [.ref (a 58), .ref (a 59), .ref (a 60), .ref (a 64), .int (u.1 26), .int (u.1 27), .int (u.1 28), .int (u.1 29), .int (u.1 30), .int (u.1 31)])), (a 58, .inl (cyI, 6, .inl (u.2.1 43))), (a 59, .inl (cyI, 6, .inl (u.2.1 44))), (a 60, .inr (0, [.ref (a 61), .ref (a 62), .ref (a 63), .int (u.1 32)])), (a 61, .inl (cyI, 30, .inl (u.2.1 45))), (a 62, .inl (cyI, 30, .inl (u.2.1 46))), (a 63, .inl (cyI, 30, .inl (u.2.1 47))), (a 64, .inr (4, [.ref (a 65), .ref (a 66), .ref (a 67), .ref (a 68), .ref (a 69), .ref (a 70), .ref (a 71), .int (u.1 33)])), (a 65, .inl (cyI, 6, .inl (u.2.1 48))), (a 66, .inl (cyI, 6, .inl (u.2.1 49))), (a 67, .inl (cyI, 6, .inl (u.2.1 50))), (a 68, .inl (cyI, 6, .inl (u.2.1 51))), (a 69, .inl (cyI, 6, .inl (u.2.1 52))), (a 70, .inl (cyI, 6, .inl (u.2.1 53))), (a 71, .inl (cyI, 6, .inl (u.2.1 54))), (a 72, .inl (cyS, 4, .inr (.inr (.inr (.inr (shf a)))))), (a 73, .inr (3, [.ref (a 74), .int (u.1 34), .int (u.1 35), .int (u.1 36)])), (a 74, .inl (cyI, 40, .inl (u.2.1 55))), (a 75, .inr (3, [.ref (a 76), .int (u.1 37), .int (u.1 38), .int (u.1 39)])), (a 76, .inl (cyI, 40, .inl (u.2.1 56))), (a 77, .inr (3, [.ref (a 78), .int (u.1 40), .int (u.1 41), .int (u.1 42)])), (a 78, .inl (cyI, 40, .inl (u.2.1 57))), (a 79, .inr (3, [.ref (a 80), .int (u.1 43), .int (u.1 44), .int (u.1 45)])), (a 80, .inl (cyI, 40, .inl (u.2.1 58)))]
def WM (cyI cyJ cyB cyS : ClassId) (a : Nat → Nat) (u : UX) : va_W := [(a 0, .inr (9, fl9 a u.1 u.2.2.2)), (a 1, .inl (cyI, 240, .inl (u.2.1 0))), (a 2, .inl (cyI, 12, .inl (u.2.1 1))), (a 3, .inl (cyI, 56, .inl (u.2.1 2))), (a 4, .inl (cyI, 11, .inl (u.2.1 3))), (a 5, .inl (cyI, 32, .inl (u.2.1 4))), (a 6, .inl (cyI, 32, .inl (u.2.1 5))), (a 7, .inl (cyI, 30, .inl (u.2.1 6))), (a 8, .inl (cyI, 30, .inl (u.2.1 7))), (a 9, .inl (cyI, 60, .inl (u.2.1 8))), (a 10, .inl (cyI, 60, .inl (u.2.1 9))), (a 11, .inl (cyI, 60, .inl (u.2.1 10))), (a 12, .inl (cyI, 2, .inl (u.2.1 11))), (a 13, .inl (cyI, 6, .inl (u.2.1 12))), (a 14, .inl (cyI, 6, .inl (u.2.1 13))), (a 15, .inl (cyI, 6, .inl (u.2.1 14))), (a 16, .inl (cyI, 6, .inl (u.2.1 15))), (a 17, .inl (cyI, 6, .inl (u.2.1 16))), (a 18, .inl (cyI, 6, .inl (u.2.1 17))), (a 19, .inl (cyI, 6, .inl (u.2.1 18))), (a 20, .inl (cyI, 6, .inl (u.2.1 19))), (a 21, .inl (cyI, 30, .inl (u.2.1 20))), (a 22, .inl (cyJ, 768, .inr (.inl (u.2.2.1 0)))), (a 23, .inl (cyI, 40, .inl (u.2.1 21))), (a 24, .inl (cyI, 40, .inl (u.2.1 22))), (a 25, .inl (cyI, 4, .inl (u.2.1 23))), (a 26, .inl (cyI, 4, .inl (u.2.1 24))), (a 27, .inl (cyI, 160, .inl (u.2.1 25)))]
