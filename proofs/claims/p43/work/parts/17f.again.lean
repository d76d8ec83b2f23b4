def INN (r x lo hi : Int) : Prop := (r = 1 ∧ lo ≤ x ∧ x ≤ hi) ∨ (r = 0 ∧ ¬ (lo ≤ x ∧ x ≤ hi))
theorem two_i5 {P : Nat → Prop} (h0 : P 0) (h1 : P 1) : ∀ i, i < 2 → P i := fun i hi => by
  rcases (show i = 0 ∨ i = 1 by omega) with rfl | rfl
  · exact h0
  · exact h1
