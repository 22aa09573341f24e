/-! THE INVARIANT of the two objects. -/
def Inv (u w : UX) : Prop := (∃ (H : Nat → Nat) (z : Nat) (f s e : Nat → Nat), Rk H ∧ Rc H (u.1 3) (u.1 2) (u.2.1 3) (u.2.1 2) (u.2.1 1) (u.2.1 0) (u.2.1 4) ∧ Rm H (w.2.1 4) ∧ Gk (H 0) z f s e ∧ Gc z f s e (u.1 5) (u.2.1 5) (u.2.1 6) (u.2.1 7) ∧ Gm 0 z f s e (w.2.1 11) (w.2.1 8) (w.2.1 9) (w.2.1 10)) ∧ (∃ t tp, Tp t tp (u.1 11) (u.2.1 18) (w.1 0) (w.2.1 0)) ∧ (Cu (w.2.1 1) (w.2.1 2) ∧ ∀ n, n < 11 → w.2.1 3 n = kdN n) ∧ u.1 0 = w.1 1 ∧ u.1 1 = w.1 21 ∧ Sh 0 (u.1 34) (u.1 35) (u.1 36) (u.2.1 55) (w.2.1 23) (w.2.1 24) (w.2.1 25) ∧ Sh 1 (u.1 37) (u.1 38) (u.1 39) (u.2.1 56) (w.2.1 23) (w.2.1 24) (w.2.1 25) ∧ Sh 2 (u.1 40) (u.1 41) (u.1 42) (u.2.1 57) (w.2.1 23) (w.2.1 24) (w.2.1 25) ∧ Sh 3 (u.1 43) (u.1 44) (u.1 45) (u.2.1 58) (w.2.1 23) (w.2.1 24) (w.2.1 25)
/-- both step, answer alike and keep it -/
def StB {ρ : Type} (o8 o9 : Option (ρ × UX)) : Prop := Ok o8 (fun a => Ok o9 (fun b => a.1 = b.1 ∧ Inv a.2 b.2))
theorem st_b {ρ α β : Type} {o8 : Option α} {o9 : Option β} {R : α → β → Prop} {g : α → ρ × UX} {h : β → ρ × UX} (hc : Ok o8 (fun a => Ok o9 (fun b => R a b))) (hr : ∀ a b, R a b → (g a).1 = (h b).1 ∧ Inv (g a).2 (h b).2) : StB (pb o8 (fun q => some (g q))) (pb o9 (fun q => some (h q))) := by
  obtain ⟨a, rfl, b, rfl, hR⟩ := hc
  exact ⟨g a, rfl, h b, rfl, hr a b hR⟩
theorem pif_i {c : Prop} [Decidable c] {x y : Option Int32} (h1 : x = some 1) (h2 : y = some 1) : pif c x y = some 1 := by
  by_cases h : c
  · rw [pif_T h]; exact h1
  · rw [pif_F h]; exact h2
theorem lg_self (x : Int64) : lg_cmp x x = 0 := by
  unfold lg_cmp
  rw [if_neg (show ¬ x > x from fun h => absurd (Int64.lt_iff_toInt_lt.mp h) (by omega)), if_pos rfl]
theorem cmpI {k' : UX → UX → Option Int32} {o8 o9 : Option (Int32 × UX)} (hs : StB o8 o9) (hk : ∀ u w, Inv u w → k' u w = some 1) : pb o8 (fun r => pb o9 (fun r' => pif (r.1 = r'.1) (k' r.2 r'.2) (some 0))) = some 1 := by
  obtain ⟨a, rfl, b, rfl, h1, h2⟩ := hs
  show pif (a.1 = b.1) (k' a.2 b.2) (some 0) = some 1
  rw [pif_T h1]; exact hk _ _ h2
theorem cmpL {k' : UX → UX → Option Int32} {o8 o9 : Option (Int64 × UX)} (hs : StB o8 o9) (hk : ∀ u w, Inv u w → k' u w = some 1) : pb o8 (fun r => pb o9 (fun r' => pif ((lg_cmp r.1 r'.1) = 0) (k' r.2 r'.2) (some 0))) = some 1 := by
  obtain ⟨a, rfl, b, rfl, h1, h2⟩ := hs
  show pif (lg_cmp a.1 b.1 = 0) (k' a.2 b.2) (some 0) = some 1
  rw [pif_T (by rw [h1]; exact lg_self _)]; exact hk _ _ h2
theorem ja_1 (k : Nat) : jI k + 1 = jI (k + 1) := jI_add k 1
theorem ja_2 (k : Nat) : jI k + 2 = jI (k + 2) := jI_add k 2
theorem ja_3 (k : Nat) : jI k + 3 = jI (k + 3) := jI_add k 3
theorem ja_4 (k : Nat) : jI k + 4 = jI (k + 4) := jI_add k 4
theorem ja_5 (k : Nat) : jI k + 5 = jI (k + 5) := jI_add k 5
theorem ja_6 (k : Nat) : jI k + 6 = jI (k + 6) := jI_add k 6
