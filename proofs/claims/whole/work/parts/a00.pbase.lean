/-! Partial functions, guards, branches. -/
def pb {α β : Type} (o : Option α) (f : α → Option β) : Option β := match o with
  | none => none
  | some a => f a
theorem pb_some {α β : Type} {o : Option α} {f : α → Option β} {b : β} (h : pb o f = some b) : ∃ a, o = some a ∧ f a = some b := by
  cases o with
  | none => cases h
  | some a => exact ⟨a, rfl, h⟩
def pg {β : Type} (c : Prop) [Decidable c] (x : Option β) : Option β := if c then x else none
theorem pg_some {β : Type} {c : Prop} [Decidable c] {x : Option β} {b : β} (h : pg c x = some b) : c ∧ x = some b := by
  unfold pg at h
  by_cases hc : c
  · rw [if_pos hc] at h; exact ⟨hc, h⟩
  · rw [if_neg hc] at h; cases h
def pif {β : Type} (c : Prop) [Decidable c] (x y : Option β) : Option β := if c then x else y
theorem pif_t {β : Type} {c : Prop} [Decidable c] {x y : Option β} {b : β} (hc : c) (h : pif c x y = some b) : x = some b := by
  unfold pif at h; rw [if_pos hc] at h; exact h
theorem pif_f {β : Type} {c : Prop} [Decidable c] {x y : Option β} {b : β} (hc : ¬ c) (h : pif c x y = some b) : y = some b := by
  unfold pif at h; rw [if_neg hc] at h; exact h
abbrev inr (i : Int32) (n : Nat) : Prop := ¬ (i < 0 ∨ n ≤ i.toNatClampNeg)
abbrev isB (x : Int32) : Prop := x = 0 ∨ x = 1
def lenS : List Nat := [5, 8, 5, 6, 4, 5, 5, 5, 5, 3, 5]
def bytS : List (List Int32) := [[115, 105, 100, 101, 115], [115, 116, 114, 101, 110, 103, 116, 104], [112, 108, 97, 99, 101], [99, 104, 111, 105, 99, 101], [114, 117, 108, 101], [98, 97, 108, 108, 115], [119, 104, 101, 101, 108], [114, 111, 117, 110, 100], [119, 111, 114, 115, 116], [100, 97, 121], [97, 108, 105, 107, 101]]
def slen (i : Nat) : Int32 := Int32.ofNat (lenS.getD i 0) >>> ((0 : Int32) &&& 31)
def schr (i : Nat) (k : Int32) : Int32 := (((bytS.getD i []).getD k.toNatClampNeg 0 &&& 255).toUInt32 % 65536).toInt32
def wrd (x : Int32) : Nat := if x = 0 then 0 else if x = 1 then 1 else if x = 2 then 2 else if x = 3 then 3 else if x = 4 then 4 else if x = 5 then 5 else if x = 6 then 6 else if x = 7 then 7 else if x = 8 then 8 else if x = 9 then 9 else 10
def fX5_word (N : Nat) (x0 : Int32) : Option Nat := some (wrd x0)
