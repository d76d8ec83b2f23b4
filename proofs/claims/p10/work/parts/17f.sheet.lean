/-! ===== sheet: p10 ===== -/
def gn (v : Int32) : Int32 := if 0 < (if v < 9 then v else 9) then (if v < 9 then v else 9) else 0
def gv (k e : Int32) : Int32 := gn (if k = 0 then e.toInt8.toInt32 else if k = 1 then e.toInt16.toInt32 else e)
def sh (k n f t : Int32) : Nat → Int32
  | 0 => 0
  | h + 1 => sh k n f t h + (if k ≠ 3 ∧ Int32.ofNat h < n then gv k (f + Int32.ofNat h * t) else 0)
def shA (k n f t : Int32) (c : Nat) : Int32 := if ¬ (0 ≤ k ∧ k ≤ 3) ∨ 6 < n then -1 else if k ≠ 3 ∧ n < 0 then -2 else if k = 3 then -3 else sh k n f t c
section SH
variable {k n f t j j' s v x m w : Int32} {c : Nat}
theorem gn_of (em : m = if v < 9 then v else 9) (ew : w = if 0 < m then m else 0) : w = gn v := by
  rw [ew, em]
  rfl
theorem sh_0 (e : s = 0) (ej : j = 0) : s = sh k n f t j.toNatClampNeg := by
  subst e ej
  rfl
theorem sh_step {a b : Int} (h : s = sh k n f t j.toNatClampNeg) (hj : Iv j a b) (h0 : 0 ≤ a) (hb : b ≤ 1000) (e : j'.toInt = j.toInt + 1) (ev : v = s + x) (hx : (k ≠ 3 ∧ j < n ∧ x = gv k (f + j * t)) ∨ (¬ (k ≠ 3 ∧ j < n) ∧ x = 0)) : v = sh k n f t j'.toNatClampNeg := by
  rw [cl_succ hj h0 hb e, sh, ← h, ← cl_of hj h0, ev]
  rcases hx with hx | hx
  · rw [if_pos ⟨hx.1, hx.2.1⟩, hx.2.2]
  · rw [if_neg hx.1, hx.2]
theorem sh_run (h : v = f + j * t) (e : j' = j + 1) (ew : w = v + t) : w = f + j' * t := by
  rw [ew, h, e, Int32.add_mul, Int32.one_mul, Int32.add_assoc]
theorem shA_1 (h : ¬ (0 ≤ k ∧ k ≤ 3) ∨ 6 < n) : (-1 : Int32) = shA k n f t c := by rw [shA, if_pos h]
theorem shA_2 (h : ¬ (¬ (0 ≤ k ∧ k ≤ 3) ∨ 6 < n)) (h2 : k ≠ 3 ∧ n < 0) : (-2 : Int32) = shA k n f t c := by rw [shA, if_neg h, if_pos h2]
theorem shA_3 (h : ¬ (¬ (0 ≤ k ∧ k ≤ 3) ∨ 6 < n)) (h2 : ¬ (k ≠ 3 ∧ n < 0)) (h3 : k = 3) : (-3 : Int32) = shA k n f t c := by rw [shA, if_neg h, if_neg h2, if_pos h3]
theorem shA_4 (h : ¬ (¬ (0 ≤ k ∧ k ≤ 3) ∨ 6 < n)) (h2 : ¬ (k ≠ 3 ∧ n < 0)) (h3 : ¬ k = 3) (e : v = sh k n f t c) : v = shA k n f t c := by rw [shA, if_neg h, if_neg h2, if_neg h3, e]
end SH
def INN (r x lo hi : Int) : Prop := (r = 1 ∧ lo ≤ x ∧ x ≤ hi) ∨ (r = 0 ∧ ¬ (lo ≤ x ∧ x ≤ hi))
theorem two_i5 {P : Nat → Prop} (h0 : P 0) (h1 : P 1) : ∀ i, i < 2 → P i := fun i hi => by
  rcases (show i = 0 ∨ i = 1 by omega) with rfl | rfl
  · exact h0
  · exact h1
