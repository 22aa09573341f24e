/-! TEXT: bits told; numbers. -/
theorem jI_or (a b : Nat) : jI a ||| jI b = jI (a ||| b) := by
  apply Int32.toBitVec_inj.mp
  show (jI a).toBitVec ||| (jI b).toBitVec = BitVec.ofNat 32 (a ||| b)
  show BitVec.ofNat 32 a ||| BitVec.ofNat 32 b = BitVec.ofNat 32 (a ||| b)
  apply BitVec.eq_of_getLsbD_eq
  intro i hi
  rw [BitVec.getLsbD_or, BitVec.getLsbD_ofNat, BitVec.getLsbD_ofNat, BitVec.getLsbD_ofNat, Nat.testBit_or]
  simp [hi]
theorem shl30 : ∀ s, s < 30 → jI 1 <<< (jI s &&& jI 31) = jI (2 ^ s) := by decide +kernel
theorem shs30 : ∀ s, s < 32 → (jI s &&& jI 31).toBitVec.smod 32 = BitVec.ofNat 32 s := by decide +kernel
theorem bit1 : ∀ i, i < 32 → (1#32).getLsbD i = decide (i = 0) := by decide
theorem tst30 {B s : Nat} (hs : s < 30) : (jI B >>> (jI s &&& jI 31)) &&& jI 1 = jI (if B.testBit s then 1 else 0) := by
  apply Int32.toBitVec_inj.mp
  rw [Int32.toBitVec_and, Int32.toBitVec_shiftRight, shs30 s (by omega)]
  show (BitVec.ofNat 32 B).sshiftRight' (BitVec.ofNat 32 s) &&& 1#32 = BitVec.ofNat 32 (if B.testBit s then 1 else 0)
  apply BitVec.eq_of_getLsbD_eq
  intro i hi
  rw [BitVec.getLsbD_and, bit1 i hi, BitVec.getLsbD_sshiftRight', BitVec.toNat_ofNat, Nat.mod_eq_of_lt (show s < 2 ^ 32 by omega)]
  by_cases h : i = 0
  · subst h
    rw [if_pos (by omega), BitVec.getLsbD_ofNat, BitVec.getLsbD_ofNat]
    cases B.testBit s <;> simp [show s < 32 by omega]
  · rw [BitVec.getLsbD_ofNat]
    cases B.testBit s
    · simp [h]
    · simp only [h, decide_false, Bool.and_false, if_true]
      rw [bit1 i hi]; simp [h]
theorem tst6 : ∀ m, m < 64 → ∀ w, w < 6 → (jI m &&& (jI 1 <<< (jI w &&& jI 31)) = jI 0) = (m.testBit w = false) := by
  have h : ∀ m, m < 64 → ∀ w, w < 6 → ((jI m &&& (jI 1 <<< (jI w &&& jI 31)) = jI 0) ↔ (m.testBit w = false)) := by decide +kernel
  intro m hm w hw
  exact propext (h m hm w hw)
theorem ps_le (t : Nat) (tp : Nat → Nat) (k : Nat) : ps t tp k ≤ t := by
  induction k with
  | zero => exact Nat.zero_le _
  | succ k ih =>
    show tE t tp (ps t tp k) ≤ t
    by_cases h : tR t tp (ps t tp k) = 0
    · unfold tE; rw [if_pos h]; exact rnE_le ih
    · exact (tE_gt h).2.2
theorem tS_le (t : Nat) (tp : Nat → Nat) (k : Nat) : tS t tp (ps t tp k) ≤ t := rnE_le (ps_le t tp k)
section
variable (t : Nat) (tp : Nat → Nat)
/-- the kind of token k, its number in the class, where it starts -/
def kK (k : Nat) : Nat := tK t tp (ps t tp k)
def kV (k : Nat) : Nat := tV t tp (ps t tp k)
def kR (k : Nat) : Nat := rV t tp (ps t tp k)
def kS (k : Nat) : Nat := tS t tp (ps t tp k)
/-- what is wrong with token k, where a number from lo to hi is due -/
def cN (k lo hi : Nat) : Nat := if kK t tp k = 4 then 1 else if kK t tp k = 2 then (if lo ≤ kV t tp k ∧ kV t tp k ≤ hi then 0 else 3) else 2
/-- where a token of kind x is due -/
def cD (k x : Nat) : Nat := if kK t tp k = 4 then 1 else if kK t tp k = x then 0 else 2
end
theorem nvN_lt {tp : Nat → Nat} (h : ∀ k, k < 240 → tp k < 256) : ∀ a e, a + e ≤ 240 → e ≤ 2 → nvN tp a e < 3000 := by
  intro a e h1 h2
  match e, h2 with
  | 0, _ => simp [nvN]
  | 1, _ =>
    have := h a (by omega)
    simp only [nvN, Nat.add_zero]; omega
  | 2, _ =>
    have := h a (by omega)
    have := h (a + 1) (by omega)
    simp only [nvN, Nat.add_zero]; omega
theorem kV_lt {t : Nat} {tp : Nat → Nat} (ht : t ≤ 240) (h : ∀ k, k < 240 → tp k < 256) (k : Nat) : kV t tp k < 3000 := by
  have h1 := tS_le t tp k
  unfold kV tV
  split
  · split <;> omega
  · split
    · split
      · rename_i h2 h3 h4
        have := (tE_gt (t := t) (tp := tp) (p := ps t tp k) (by omega)).2.2
        refine nvN_lt h _ _ (by omega) h4
      · omega
    · omega
theorem kV_w {t : Nat} {tp : Nat → Nat} {k : Nat} (h : kK t tp k = 1) : kV t tp k < 11 := by
  have h1 : tR t tp (ps t tp k) = 1 ∧ wd tp (tS t tp (ps t tp k)) (tE t tp (ps t tp k)) < 11 := by
    unfold kK tK at h
    have := tR_le t tp (ps t tp k)
    split at h
    · rename_i h2
      split at h
      · rename_i h3; exact ⟨h2, h3⟩
      · omega
    · split at h
      · split at h <;> omega
      · omega
  unfold kV tV
  rw [if_pos h1.1, if_pos h1.2]
  exact h1.2
theorem kR_w {t : Nat} {tp : Nat → Nat} {k : Nat} (h : kK t tp k = 1) : kR t tp k = rwN (kV t tp k) := if_pos h
theorem kR_n {t : Nat} {tp : Nat → Nat} {k : Nat} (h : kK t tp k ≠ 1) : kR t tp k = kV t tp k := if_neg h
theorem kK_le (t : Nat) (tp : Nat → Nat) (k : Nat) : kK t tp k ≤ 4 := tK_le _ _ _
theorem kS_le (t : Nat) (tp : Nat → Nat) (k : Nat) : kS t tp k ≤ t := tS_le _ _ _
