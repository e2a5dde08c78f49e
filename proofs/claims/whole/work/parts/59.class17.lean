/-! the class: the next way -/
def WyX (M : MM) (n : Nat) (W : Nat → Nat) : Prop := ∀ i, i < n → M 92 i = nI (W i) ∧ W i < n
theorem WyX.sw {M : MM} {n : Nat} {W : Nat → Nat} (h : WyX M n W) {a b : Nat} (ha : a < n) (hb : b < n) : WyX (swR M 92 a b) n (swp W a b) := by
  intro i hi
  simp only [swR, swp, if_true]
  by_cases h1 : i = b
  · simp only [if_pos h1]; exact h a ha
  · by_cases h2 : i = a
    · simp only [if_neg h1, if_pos h2]; exact h b hb
    · simp only [if_neg h1, if_neg h2]; exact h i hi
theorem rsW_le (W : Nat → Nat) : ∀ r, rsW W r ≤ r
  | 0 => Nat.le_refl _
  | r + 1 => by
    unfold rsW
    split
    · have := rsW_le W r; omega
    · omega
theorem abW_le (W : Nat → Nat) (p : Nat) : ∀ a, abW W p a ≤ a
  | 0 => Nat.le_refl _
  | a + 1 => by
    unfold abW
    split
    · have := abW_le W p a; omega
    · omega
