/-! THE START. -/
theorem Rk_df : Rk dfH := ⟨by decide, by decide, by decide, by decide, by decide, fun h => absurd h (by decide)⟩
theorem w0_h : Rm dfH (w0.2.1 4) := by unfold Rm; decide +kernel
theorem w0_c : Cu (w0.2.1 1) (w0.2.1 2) := by unfold Cu; decide +kernel
theorem w0_k : ∀ n, n < 11 → w0.2.1 3 n = kdN n := by decide +kernel
theorem w0_l : ∀ k, k < 4 → w0.2.1 23 k = gI 4 := by decide +kernel
theorem inv0 {qr : Int32 × Int32 × Int32 × (Nat → Int32) × (Nat → Int32) × (Nat → Int32) × (Nat → Int32) × (Nat → Int32)} (h : Rc dfH qr.1 qr.2.2.1 qr.2.2.2.1 qr.2.2.2.2.1 qr.2.2.2.2.2.1 qr.2.2.2.2.2.2.1 qr.2.2.2.2.2.2.2) : Inv (u0 qr) w0 := by
  refine ⟨⟨dfH, 0, fun _ => 0, fun _ => 0, fun _ => 0, Rk_df, h, w0_h, ⟨by decide, by omega, fun g hg => by omega⟩, ⟨rfl, fun g hg => by omega⟩, ⟨rfl, fun g hg => by omega⟩⟩, ⟨0, fun _ => 0, by omega, rfl, rfl, fun _ _ => (by decide : (0 : Nat) < 256), fun k hk => by omega⟩, ⟨w0_c, w0_k⟩, rfl, rfl, Or.inl ⟨rfl, w0_l 0 (by omega)⟩, Or.inl ⟨rfl, w0_l 1 (by omega)⟩, Or.inl ⟨rfl, w0_l 2 (by omega)⟩, Or.inl ⟨rfl, w0_l 3 (by omega)⟩⟩
theorem run_ok {L : Nat} {xs : Nat → Int32} (hL : L ≤ 3072) : ∃ qr, fX2_reset 1000 0 0 0 (fun _ => 0) (fun _ => 0) (fun _ => 0) (fun _ => 0) (fun _ => 0) = some qr ∧ fL 1000 L xs 600 0 (u0 qr) w0 = some 1 := by
  obtain ⟨qr, e, -, hC⟩ := resetX (N := 1000) (v_kind := 0) (v_rounds := 0) (v_sides := 0) (c_balls := fun _ => 0) (c_choiceWorth := fun _ => 0) (c_placeWorth := fun _ => 0) (c_strength := fun _ => 0) (c_wheel := fun _ => 0) (by omega)
  exact ⟨qr, e, fL_ok (by omega) hL 600 0 (u0 qr) w0 (inv0 hC) (by omega) (by omega)⟩
