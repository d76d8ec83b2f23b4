/-! what a new object has -/
theorem kr_ra {σ σ1 : oSt} {i j a a' : Nat} {v : Option Nat} (e : σ1 = (σ.1, σ.2.1, σ.2.2.1, σ.2.2.2.1, oUr σ.2.2.2.2 j a' v)) (h : a ≠ a') : σ1.2.2.2.2 i a = σ.2.2.2.2 i a := by
  subst e
  show (if i = j ∧ a = a' then v else σ.2.2.2.2 i a) = σ.2.2.2.2 i a
  rw [if_neg (fun q => h q.2)]
theorem nv_init {σ : oSt} {x P B F A Q R : Nat} (h1 : σ.2.2.2.2 581 x = some P) (h2 : σ.2.2.2.2 582 x = some B) (h3 : σ.2.2.2.2 583 x = some F) (h4 : σ.2.2.2.2 0 F = some P) (h5 : σ.2.2.2.2 585 x = some A) (h6 : σ.2.2.2.2 586 x = some Q) (h7 : P ≠ B) (e327 : σ.1 327 P = 0) (e587 : σ.1 587 x = 0) (e130 : σ.1 130 A = 0) (hR : σ.2.2.2.2 128 A = some R) (hS : ∀ i, i < 10 → ∃ b, σ.2.2.2.2 (4096 + i) R = some b ∧ b ≠ B) (hK : ∀ i, i < 2 → ∃ b, σ.2.2.2.2 (4096 + i) Q = some b ∧ b ≠ B) : NV σ x 0 := by
  refine ⟨P, B, F, A, Q, h1, h2, h3, h4, h5, h6, h7, e327, by rw [e587]; exact ⟨by decide, by decide⟩, ?_, ?_⟩
  · intro i hi s q
    obtain ⟨b, b1, b2⟩ := hK i hi
    rw [Option.some.inj (q.symm.trans b1)]
    refine ⟨b2, fun w => ?_⟩
    rw [e587, kb_0 i hi] at w
    cases w
  · intro i hi R' s q1 q2
    obtain ⟨b, b1, b2⟩ := hS i hi
    rw [Option.some.inj (q1.symm.trans hR)] at q2
    rw [Option.some.inj (q2.symm.trans b1)]
    refine ⟨b2, fun w => ?_⟩
    rw [e130, show (0 : Int32).toNatClampNeg = 0 from by decide] at w
    exact absurd (of_decide_eq_true w) (Nat.not_lt_zero _)
theorem two_i {P : Nat → Prop} (h0 : P 0) (h1 : P 1) : ∀ i, i < 2 → P i := fun i hi => by
  rcases (show i = 0 ∨ i = 1 by omega) with rfl | rfl
  · exact h0
  · exact h1
theorem ten_i {P : Nat → Prop} (h0 : P 0) (h1 : P 1) (h2 : P 2) (h3 : P 3) (h4 : P 4) (h5 : P 5) (h6 : P 6) (h7 : P 7) (h8 : P 8) (h9 : P 9) : ∀ i, i < 10 → P i := fun i hi => by
  rcases (show i = 0 ∨ i = 1 ∨ i = 2 ∨ i = 3 ∨ i = 4 ∨ i = 5 ∨ i = 6 ∨ i = 7 ∨ i = 8 ∨ i = 9 by omega) with rfl | rfl | rfl | rfl | rfl | rfl | rfl | rfl | rfl | rfl <;> assumption
