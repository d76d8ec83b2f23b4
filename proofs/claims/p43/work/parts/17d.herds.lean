/-! ===== the meadow's cells that are neither FENCE nor GATE: K, as the text tells them ===== -/
def ku (K : Nat → Bool) (c : Int) : Nat → Bool := fun i => decide ((i : Int) = c) || K i
def mk (T : Nat → Int32) (n : Int) : Nat → Int → Int → Int → Int → Int → (Nat → Bool) → (Nat → Bool)
  | 0, _, _, _, _, _, K => K
  | k + 1, p, x, y, w, g, K =>
    if ((y = 0 ∧ 0 < x) ∨ (y ≠ 0 ∧ x = w)) ∧ tC T n 76 p = -1 then K
    else if ((y = 0 ∧ 0 < x) ∨ (y ≠ 0 ∧ x = w)) ∧ y < 7 ∧ tC T n 76 p = 47 then mk T n k (p + 1) 0 (y + 1) x g K
    else if x < w ∧ g < 6 ∧ tC T n 76 p = 43 then mk T n k (p + 1) (x + 1) y w (g + 1) K
    else if x < w ∧ (tC T n 76 p = 35 ∨ (48 ≤ tC T n 76 p ∧ tC T n 76 p ≤ 57)) then mk T n k (p + 1) (x + 1) y w g (if 48 ≤ tC T n 76 p then ku K (8 * y + x) else K)
    else K
theorem mk_congr {f g : Nat → Int32} {n : Int} (h : ∀ i : Nat, (i : Int) < n → f i = g i) : ∀ (k : Nat) (p x y w m : Int) (K : Nat → Bool), mk f n k p x y w m K = mk g n k p x y w m K
  | 0, _, _, _, _, _, _ => rfl
  | k + 1, p, x, y, w, m, K => by
    rw [mk, mk, tC_congr h, mk_congr h k, mk_congr h k, mk_congr h k]
abbrev mkM (T : Nat → Int32) (n : Int) : Nat → Bool := mk T n 77 0 0 0 8 0 (fun _ => false)
def mkH (T : Nat → Int32) (n : Int) (F : Nat → Bool) (p x y w g : Int) (K : Nat → Bool) : Prop := mk T n (77 - p).toNat p x y (if y = 0 then 8 else w) g K = F
section MK
variable {T : Nat → Int32} {n p x y w g p' x' y' w' g' : Int} {F K K' : Nat → Bool}
theorem mk_0 (e : p = 0 ∧ x = 0 ∧ y = 0 ∧ g = 0) (hK : K = fun _ => false) : mkH T n (mkM T n) p x y w g K := by
  obtain ⟨rfl, rfl, rfl, rfl⟩ := e
  subst hK
  rfl
theorem mk_conv (h : mkH T n F p x y w g K) (e : p' = p ∧ x' = x ∧ y' = y ∧ (y = 0 ∨ w' = w) ∧ g' = g) (hK : K' = K) : mkH T n F p' x' y' w' g' K' := by
  obtain ⟨rfl, rfl, rfl, e, rfl⟩ := e
  subst hK
  unfold mkH at h ⊢
  rcases e with e | e
  · rw [if_pos e] at h ⊢; exact h
  · rw [e]; exact h
theorem mk_end (h : mkH T n F p x y w g K) (hp : p ≤ 76) (hc : ((y = 0 ∧ 0 < x) ∨ (y ≠ 0 ∧ x = w)) ∧ tC T n 76 p = -1) : F = K := by
  unfold mkH at h
  have q := mh_w (y := y) (w := w)
  generalize (if y = 0 then 8 else w) = v at h q
  rw [show (77 - p).toNat = (77 - (p + 1)).toNat + 1 by omega, mk, if_pos (by omega)] at h
  exact h.symm
theorem mk_row (h : mkH T n F p x y w g K) (hp : p ≤ 76) (hc : ((y = 0 ∧ 0 < x) ∨ (y ≠ 0 ∧ x = w)) ∧ 0 ≤ y ∧ y < 7 ∧ tC T n 76 p = 47) (e : p' = p + 1 ∧ x' = 0 ∧ y' = y + 1 ∧ w' = x ∧ g' = g) : mkH T n F p' x' y' w' g' K := by
  obtain ⟨rfl, rfl, rfl, rfl, rfl⟩ := e
  unfold mkH at h ⊢
  have q := mh_w (y := y) (w := w)
  rw [if_neg (by omega : ¬ y + 1 = 0)]
  generalize (if y = 0 then 8 else w) = v at h q
  rw [show (77 - p).toNat = (77 - (p + 1)).toNat + 1 by omega, mk, if_neg (by omega), if_pos (by omega)] at h
  exact h
theorem mk_cell (h : mkH T n F p x y w g K) (hp : p ≤ 76) (hc : ((y = 0 ∧ x < 8) ∨ (y ≠ 0 ∧ x < w)) ∧ (tC T n 76 p = 35 ∨ (48 ≤ tC T n 76 p ∧ tC T n 76 p ≤ 57) ∨ (tC T n 76 p = 43 ∧ g < 6))) (e : p' = p + 1 ∧ x' = x + 1 ∧ y' = y ∧ w' = w ∧ ((tC T n 76 p = 43 ∧ g' = g + 1) ∨ (tC T n 76 p ≠ 43 ∧ g' = g))) (hK : K' = if 48 ≤ tC T n 76 p then ku K (8 * y + x) else K) : mkH T n F p' x' y' w' g' K' := by
  obtain ⟨rfl, rfl, rfl, rfl, e⟩ := e
  subst hK
  unfold mkH at h ⊢
  have q := mh_w (y := y') (w := w')
  generalize (if y' = 0 then 8 else w') = v at h q ⊢
  rcases e with ⟨e1, rfl⟩ | ⟨e1, rfl⟩
  · rw [show (77 - p).toNat = (77 - (p + 1)).toNat + 1 by omega, mk, if_neg (by omega), if_neg (by omega), if_pos (by omega)] at h
    rw [if_neg (by omega)]
    exact h
  · rw [show (77 - p).toNat = (77 - (p + 1)).toNat + 1 by omega, mk, if_neg (by omega), if_neg (by omega), if_neg (by omega), if_pos (by omega)] at h
    exact h
end MK
/-! as the reference writes them down: nk, of the cells that have come -/
def KR (nk : Nat → Int32) (K : Nat → Bool) (x y w : Int) : Prop := ∀ c : Nat, c < 64 → (K c = true ↔ ((((c : Int) / 8 < y ∧ (c : Int) % 8 < w) ∨ ((c : Int) / 8 = y ∧ (c : Int) % 8 < x)) ∧ nk c = 0))
theorem kR_0 {nk : Nat → Int32} {K : Nat → Bool} {x y w : Int} (hK : K = fun _ => false) (h : x = 0 ∧ y = 0) : KR nk K x y w := by
  subst hK
  intro c hc
  exact ⟨fun q => (by cases q), fun q => (by omega)⟩
theorem kR_cell {nk nk' : Nat → Int32} {K : Nat → Bool} {x y w x' w' t : Int} {ix v : Int32} (h : KR nk K x y w) (hx : 0 ≤ x ∧ x < 8 ∧ 0 ≤ y ∧ y < 8 ∧ x' = x + 1 ∧ (y = 0 ∨ w' = w)) (hi : ix.toInt = 8 * y + x) (hn : ∀ i, nk' i = if i = ix.toNatClampNeg then v else nk i) (hv : v = 0 ↔ 48 ≤ t) : KR nk' (if 48 ≤ t then ku K (8 * y + x) else K) x' y w' := by
  intro c hc
  have n1 := nat_of (⟨by omega, by omega⟩ : Iv ix 0 63) (by decide)
  have q := h c hc
  have e : (if 48 ≤ t then ku K (8 * y + x) else K) c = true ↔ ((48 ≤ t ∧ (c : Int) = 8 * y + x) ∨ K c = true) := by
    split
    · rename_i z
      unfold ku
      rw [Bool.or_eq_true, decide_eq_true_iff]
      exact or_congr ⟨fun a => ⟨z, a⟩, fun a => a.2⟩ Iff.rfl
    · rename_i z
      exact ⟨Or.inr, fun a => a.elim (fun b => absurd b.1 z) id⟩
  rw [e, q, hn c]
  by_cases c1 : c = ix.toNatClampNeg
  · rw [if_pos c1, hv]
    constructor
    · rintro (a | a)
      · exact ⟨by omega, a.1⟩
      · omega
    · rintro ⟨a, b⟩
      exact Or.inl ⟨b, by omega⟩
  · rw [if_neg c1]
    constructor
    · rintro (a | ⟨a, b⟩)
      · omega
      · exact ⟨by omega, b⟩
    · rintro ⟨a, b⟩
      exact Or.inr ⟨by omega, b⟩
theorem kR_row {nk : Nat → Int32} {K : Nat → Bool} {x y w x' y' w' : Int} (h : KR nk K x y w) (hc : 0 ≤ y ∧ (y = 0 ∨ x = w)) (e : x' = 0 ∧ y' = y + 1 ∧ w' = x) : KR nk K x' y' w' := by
  obtain ⟨rfl, rfl, rfl⟩ := e
  intro c hc2
  rw [h c hc2]
  exact and_congr ⟨fun a => by omega, fun a => by omega⟩ Iff.rfl
theorem kR_conv {nk nk' : Nat → Int32} {K : Nat → Bool} {x y w x' y' w' : Int} (h : KR nk K x y w) (hn : nk' = nk) (e : x' = x ∧ y' = y ∧ (y = 0 ∨ w' = w)) : KR nk' K x' y' w' := by
  obtain ⟨rfl, rfl, e⟩ := e
  subst hn
  intro c hc2
  rw [h c hc2]
  exact and_congr ⟨fun a => by omega, fun a => by omega⟩ Iff.rfl
/-- what 'take' makes of them -/
def KT (kd nk : Nat → Int32) (co ro : Int) : Prop := ∀ c : Nat, c < 64 → kd c = if (c : Int) % 8 < co ∧ (c : Int) / 8 < ro then nk c else 1
theorem kR_end {nk kd : Nat → Int32} {K : Nat → Bool} {x y w co ro : Int} (h : KR nk K x y w) (hc : 0 ≤ y ∧ (y = 0 ∨ x = w)) (hk : KT kd nk co ro) (e : co = x ∧ ro = y + 1) : ∀ c : Nat, c < 64 → (K c = true ↔ kd c = 0) := by
  obtain ⟨rfl, rfl⟩ := e
  intro c hc2
  rw [h c hc2, hk c hc2]
  by_cases q : (c : Int) % 8 < co ∧ (c : Int) / 8 < y + 1
  · rw [if_pos q]
    exact ⟨fun a => a.2, fun a => ⟨by omega, a⟩⟩
  · rw [if_neg q]
    constructor
    · rintro ⟨a, -⟩
      omega
    · intro a
      exact absurd a (by decide)
/-! ===== the herds' reader: LINE by LINE; k LINES have come, there are h herds ===== -/
def hl (T : Nat → Int32) (n co ro : Int) (K : Nat → Bool) : Nat → Int → Int → Int → Int
  | 0, p, _, _ => -1 - p
  | f + 1, p, k, h =>
    if 6 ≤ h then -1 - p
    else if ¬ (97 ≤ tC T n 76 p ∧ tC T n 76 p ≤ 96 + co) then -1 - p
    else if ¬ (49 ≤ tC T n 76 (p + 1) ∧ tC T n 76 (p + 1) ≤ 48 + ro) then -1 - (p + 1)
    else if K (8 * (tC T n 76 (p + 1) - 49) + (tC T n 76 p - 97)).toNat = false then -1 - (p + 1)
    else if ¬ (48 ≤ tC T n 76 (p + 2) ∧ tC T n 76 (p + 2) ≤ 57) then -1 - (p + 2)
    else if tC T n 76 (p + 3) = 42 then (if tC T n 76 (p + 4) = -1 then k + 1 else if tC T n 76 (p + 4) = 59 then hl T n co ro K f (p + 5) (k + 1) (h + 1) else -1 - (p + 4))
    else (if tC T n 76 (p + 3) = -1 then k + 1 else if tC T n 76 (p + 3) = 59 then hl T n co ro K f (p + 4) (k + 1) (h + 1) else -1 - (p + 3))
theorem hl_congr {f g : Nat → Int32} {n co ro : Int} {K : Nat → Bool} (h : ∀ i : Nat, (i : Int) < n → f i = g i) : ∀ (j : Nat) (p k m : Int), hl f n co ro K j p k m = hl g n co ro K j p k m
  | 0, _, _, _ => rfl
  | j + 1, p, k, m => by
    rw [hl, hl]
    simp only [tC_congr h, hl_congr h j]
/-- one LINE, from p on: it is read to q; or the sign at q can't stand -/
def rdL (T : Nat → Int32) (n co ro : Int) (K : Nat → Bool) (h p : Int) (ok : Prop) (q : Int) : Prop :=
  (ok ∧ h < 6 ∧ (97 ≤ tC T n 76 p ∧ tC T n 76 p ≤ 96 + co) ∧ (49 ≤ tC T n 76 (p + 1) ∧ tC T n 76 (p + 1) ≤ 48 + ro) ∧ K (8 * (tC T n 76 (p + 1) - 49) + (tC T n 76 p - 97)).toNat = true ∧ (48 ≤ tC T n 76 (p + 2) ∧ tC T n 76 (p + 2) ≤ 57) ∧ ((tC T n 76 (p + 3) = 42 ∧ q = p + 4) ∨ (tC T n 76 (p + 3) ≠ 42 ∧ q = p + 3)))
  ∨ (¬ ok ∧ 6 ≤ h ∧ q = p)
  ∨ (¬ ok ∧ h < 6 ∧ ¬ (97 ≤ tC T n 76 p ∧ tC T n 76 p ≤ 96 + co) ∧ q = p)
  ∨ (¬ ok ∧ h < 6 ∧ (97 ≤ tC T n 76 p ∧ tC T n 76 p ≤ 96 + co) ∧ ¬ (49 ≤ tC T n 76 (p + 1) ∧ tC T n 76 (p + 1) ≤ 48 + ro) ∧ q = p + 1)
  ∨ (¬ ok ∧ h < 6 ∧ (97 ≤ tC T n 76 p ∧ tC T n 76 p ≤ 96 + co) ∧ (49 ≤ tC T n 76 (p + 1) ∧ tC T n 76 (p + 1) ≤ 48 + ro) ∧ K (8 * (tC T n 76 (p + 1) - 49) + (tC T n 76 p - 97)).toNat = false ∧ q = p + 1)
  ∨ (¬ ok ∧ h < 6 ∧ (97 ≤ tC T n 76 p ∧ tC T n 76 p ≤ 96 + co) ∧ (49 ≤ tC T n 76 (p + 1) ∧ tC T n 76 (p + 1) ≤ 48 + ro) ∧ K (8 * (tC T n 76 (p + 1) - 49) + (tC T n 76 p - 97)).toNat = true ∧ ¬ (48 ≤ tC T n 76 (p + 2) ∧ tC T n 76 (p + 2) ≤ 57) ∧ q = p + 2)
section RD
variable {T : Nat → Int32} {n co ro h p q : Int} {K : Nat → Bool} {ok : Prop} {r : Int32}
theorem rd_room (no : ¬ ok) (e : 6 ≤ h ∧ q = p) : rdL T n co ro K h p ok q := Or.inr (Or.inl ⟨no, e⟩)
theorem rd_cell (no : ¬ ok) (e : h < 6 ∧ ((¬ (97 ≤ tC T n 76 p ∧ tC T n 76 p ≤ 96 + co) ∧ q = p) ∨ ((97 ≤ tC T n 76 p ∧ tC T n 76 p ≤ 96 + co) ∧ ¬ (49 ≤ tC T n 76 (p + 1) ∧ tC T n 76 (p + 1) ≤ 48 + ro) ∧ q = p + 1))) : rdL T n co ro K h p ok q := by
  rcases e with ⟨e, ⟨e1, e2⟩ | ⟨e1, e2, e3⟩⟩
  · exact Or.inr (Or.inr (Or.inl ⟨no, e, e1, e2⟩))
  · exact Or.inr (Or.inr (Or.inr (Or.inl ⟨no, e, e1, e2, e3⟩)))
theorem rd_kind (no : ¬ ok) (e : h < 6 ∧ (97 ≤ tC T n 76 p ∧ tC T n 76 p ≤ 96 + co) ∧ (49 ≤ tC T n 76 (p + 1) ∧ tC T n 76 (p + 1) ≤ 48 + ro) ∧ r.toInt = 8 * (tC T n 76 (p + 1) - 49) + (tC T n 76 p - 97) ∧ q = p + 1) (k : K r.toNatClampNeg = false) : rdL T n co ro K h p ok q := by
  obtain ⟨e1, e2, e3, e4, e5⟩ := e
  refine Or.inr (Or.inr (Or.inr (Or.inr (Or.inl ⟨no, e1, e2, e3, ?_, e5⟩))))
  rw [← e4]
  exact k
theorem rd_dig (no : ¬ ok) (e : h < 6 ∧ (97 ≤ tC T n 76 p ∧ tC T n 76 p ≤ 96 + co) ∧ (49 ≤ tC T n 76 (p + 1) ∧ tC T n 76 (p + 1) ≤ 48 + ro) ∧ r.toInt = 8 * (tC T n 76 (p + 1) - 49) + (tC T n 76 p - 97) ∧ ¬ (48 ≤ tC T n 76 (p + 2) ∧ tC T n 76 (p + 2) ≤ 57) ∧ q = p + 2) (k : K r.toNatClampNeg = true) : rdL T n co ro K h p ok q := by
  obtain ⟨e1, e2, e3, e4, e5, e6⟩ := e
  refine Or.inr (Or.inr (Or.inr (Or.inr (Or.inr ⟨no, e1, e2, e3, ?_, e5, e6⟩))))
  rw [← e4]
  exact k
theorem rd_ok (yes : ok) (e : h < 6 ∧ (97 ≤ tC T n 76 p ∧ tC T n 76 p ≤ 96 + co) ∧ (49 ≤ tC T n 76 (p + 1) ∧ tC T n 76 (p + 1) ≤ 48 + ro) ∧ r.toInt = 8 * (tC T n 76 (p + 1) - 49) + (tC T n 76 p - 97) ∧ (48 ≤ tC T n 76 (p + 2) ∧ tC T n 76 (p + 2) ≤ 57) ∧ ((tC T n 76 (p + 3) = 42 ∧ q = p + 4) ∨ (tC T n 76 (p + 3) ≠ 42 ∧ q = p + 3))) (k : K r.toNatClampNeg = true) : rdL T n co ro K h p ok q := by
  obtain ⟨e1, e2, e3, e4, e5, e6⟩ := e
  refine Or.inl ⟨yes, e1, e2, e3, ?_, e5, e6⟩
  rw [← e4]
  exact k
theorem rd_q (d : rdL T n co ro K h p ok q) : p ≤ q ∧ q ≤ p + 4 := by
  rcases d with d | d | d | d | d | d
  · obtain ⟨-, -, -, -, -, -, d⟩ := d; omega
  · obtain ⟨-, -, d⟩ := d; omega
  · obtain ⟨-, -, -, d⟩ := d; omega
  · obtain ⟨-, -, -, -, d⟩ := d; omega
  · obtain ⟨-, -, -, -, -, d⟩ := d; omega
  · obtain ⟨-, -, -, -, -, -, d⟩ := d; omega
end RD
def hlG (T : Nat → Int32) (n co ro : Int) (K : Nat → Bool) (R p k h : Int) : Prop := hl T n co ro K (7 - k).toNat p k h = R
/-- what herds() answers -/
def hdM (T : Nat → Int32) (n co ro : Int) (K : Nat → Bool) (h : Int) : Int := if tC T n 76 0 = -1 then 0 else hl T n co ro K 7 0 0 h
theorem hd_0 {T : Nat → Int32} {n co ro h p : Int} {K : Nat → Bool} (e : p = 0 ∧ tC T n 76 p = -1) : hdM T n co ro K h = 0 := by
  obtain ⟨rfl, e⟩ := e
  unfold hdM
  rw [if_pos e]
theorem hd_1 {T : Nat → Int32} {n co ro h p k h' : Int} {K : Nat → Bool} (e : p = 0 ∧ k = 0 ∧ h' = h ∧ tC T n 76 0 ≠ -1) : hlG T n co ro K (hdM T n co ro K h) p k h' := by
  obtain ⟨rfl, rfl, rfl, e⟩ := e
  unfold hlG hdM
  rw [if_neg e]
  rfl
theorem hdM_congr {f g : Nat → Int32} {n co ro h : Int} {K : Nat → Bool} (q : ∀ i : Nat, (i : Int) < n → f i = g i) : hdM f n co ro K h = hdM g n co ro K h := by
  unfold hdM
  rw [tC_congr q, hl_congr q]
section HL
variable {T : Nat → Int32} {n co ro R p k h q p' k' h' : Int} {K : Nat → Bool} {ok : Prop}
theorem hl_bad (g : hlG T n co ro K R p k h) (hk : k ≤ 6) (r : rdL T n co ro K h p ok q) (no : ¬ ok) : R = -1 - q := by
  unfold hlG at g
  rw [show (7 - k).toNat = (7 - (k + 1)).toNat + 1 by omega, hl] at g
  rcases r with r | r | r | r | r | r
  · exact absurd r.1 no
  · rw [if_pos r.2.1] at g; rw [r.2.2]; exact g.symm
  · rw [if_neg (by omega), if_pos r.2.2.1] at g; rw [r.2.2.2]; exact g.symm
  · rw [if_neg (by omega), if_neg (fun z => z r.2.2.1), if_pos r.2.2.2.1] at g; rw [r.2.2.2.2]; exact g.symm
  · rw [if_neg (by omega), if_neg (fun z => z r.2.2.1), if_neg (fun z => z r.2.2.2.1), if_pos r.2.2.2.2.1] at g; rw [r.2.2.2.2.2]; exact g.symm
  · rw [if_neg (by omega), if_neg (fun z => z r.2.2.1), if_neg (fun z => z r.2.2.2.1), if_neg (by rw [r.2.2.2.2.1]; decide), if_pos r.2.2.2.2.2.1] at g; rw [r.2.2.2.2.2.2]; exact g.symm
theorem hl_ok (g : hlG T n co ro K R p k h) (hk : k ≤ 6) (r : rdL T n co ro K h p ok q) (yes : ok) : (tC T n 76 q = -1 ∧ R = k + 1) ∨ (tC T n 76 q = 59 ∧ hlG T n co ro K R (q + 1) (k + 1) (h + 1)) ∨ (tC T n 76 q ≠ -1 ∧ tC T n 76 q ≠ 59 ∧ R = -1 - q) := by
  unfold hlG at g ⊢
  rw [show (7 - k).toNat = (7 - (k + 1)).toNat + 1 by omega, hl] at g
  rcases r with r | r | r | r | r | r
  · obtain ⟨-, r2, r3, r4, r5, r6, r7⟩ := r
    rw [if_neg (by omega), if_neg (fun z => z r3), if_neg (fun z => z r4), if_neg (by rw [r5]; decide), if_neg (fun z => z r6)] at g
    rcases r7 with ⟨a, rfl⟩ | ⟨a, rfl⟩
    · rw [if_pos a] at g
      by_cases c : tC T n 76 (p + 4) = -1
      · rw [if_pos c] at g; exact Or.inl ⟨c, g.symm⟩
      · rw [if_neg c] at g
        by_cases c2 : tC T n 76 (p + 4) = 59
        · rw [if_pos c2] at g; exact Or.inr (Or.inl ⟨c2, by rw [show p + 4 + 1 = p + 5 by omega]; exact g⟩)
        · rw [if_neg c2] at g; exact Or.inr (Or.inr ⟨c, c2, g.symm⟩)
    · rw [if_neg a] at g
      by_cases c : tC T n 76 (p + 3) = -1
      · rw [if_pos c] at g; exact Or.inl ⟨c, g.symm⟩
      · rw [if_neg c] at g
        by_cases c2 : tC T n 76 (p + 3) = 59
        · rw [if_pos c2] at g; exact Or.inr (Or.inl ⟨c2, by rw [show p + 3 + 1 = p + 4 by omega]; exact g⟩)
        · rw [if_neg c2] at g; exact Or.inr (Or.inr ⟨c, c2, g.symm⟩)
  · exact absurd yes r.1
  · exact absurd yes r.1
  · exact absurd yes r.1
  · exact absurd yes r.1
  · exact absurd yes r.1
theorem hl_conv (g : hlG T n co ro K R p k h) (e : p' = p ∧ k' = k ∧ h' = h) : hlG T n co ro K R p' k' h' := by
  obtain ⟨rfl, rfl, rfl⟩ := e
  exact g
theorem hl_room (g : hlG T n co ro K R p k h) (hk : k ≤ 6) (h6 : 6 ≤ h) : R = -1 - p := by
  unfold hlG at g
  rw [show (7 - k).toNat = (7 - (k + 1)).toNat + 1 by omega, hl, if_pos h6] at g
  exact g.symm
end HL
/-! ===== numbers of herds: as they were, or the present's ===== -/
theorem u_tr {f fk g : Nat → Int32} {V W : Int32} (h : ∀ a, fk a = f a ∨ fk a = V) (q : ∀ a, g a = fk a ∨ g a = W) (e : W = V) : ∀ a, g a = f a ∨ g a = V := fun a => by
  rcases q a with z | z
  · rcases h a with y | y
    · exact Or.inl (z.trans y)
    · exact Or.inr (z.trans y)
  · exact Or.inr (z.trans e)
theorem u_self {f fk : Nat → Int32} {a : Nat} (h : ∀ a', fk a' = f a' ∨ fk a' = f a) : fk a = f a := (h a).elim id id
/-- which of the ten states are kept -/
def rw_in (nx sz i : Nat) : Bool := decide ((nx + 9 - i) % 10 < sz)
theorem rw_add : ∀ (nx : Fin 10) (sz : Fin 11) (i : Fin 10), rw_in ((nx.val + 1) % 10) (min 10 (sz.val + 1)) i.val = true → i = nx ∨ rw_in nx.val sz.val i.val = true := by decide +kernel
theorem rw_back : ∀ (nx : Fin 10) (sz : Fin 11) (i : Fin 10), 0 < sz.val → (rw_in nx.val sz.val ((nx.val + 9) % 10) = true ∧ (rw_in ((nx.val + 9) % 10) (sz.val - 1) i.val = true → rw_in nx.val sz.val i.val = true)) := by decide +kernel
/-! Board.has -/
theorem has_n {x u w : Int64} {k : Int32} (hk : Iv k 0 63) (eu : u = (x.toUInt64 >>> (k.toInt64.toUInt64 &&& Int64.toUInt64 63)).toInt64) (ew : w = u &&& 1) : (w = 0 ↔ lb x k.toNatClampNeg = false) := by
  have h := has_b hk eu ew
  constructor
  · intro q
    refine eq_false_of_ne_true (fun z => ?_)
    rw [q] at h
    exact absurd (h.mpr z) (by decide)
  · intro q
    have hc := cl_of hk (by decide)
    have hn := iv_nat hk (by decide)
    have h1 := has_k ⟨k.toNatClampNeg, by omega⟩
    rw [← hc] at h1
    apply lg_get
    intro i hi
    show lb w i = lb 0 i
    rw [ew, lb_and, lb_1, eu, lb_ushr x k _ h1, lb_0]
    by_cases q2 : i = 0
    · subst q2; rw [Nat.add_zero, q]; rfl
    · rw [decide_eq_false q2, Bool.and_false]
theorem lb_bit {v : Int64} {k : Int32} (hk : Iv k 0 63) (e : v = 1 <<< (k.toInt64 &&& 63)) (i : Nat) : lb v i = decide ((i : Int) = k.toInt) := by
  have hc := cl_of hk (by decide)
  have hn := nat_of hk (by decide)
  have h2 := hk.2
  have h1 := shl_k ⟨k.toNatClampNeg, by omega⟩
  rw [← hc] at h1
  rw [e, lb_shl 1 k _ h1, lb_1]
  by_cases q : (i : Int) = k.toInt
  · rw [decide_eq_true q, decide_eq_true (show i < 64 by omega), decide_eq_false (show ¬ i < k.toNatClampNeg by omega), decide_eq_true (show i - k.toNatClampNeg = 0 by omega)]; rfl
  · rw [decide_eq_false q]
    by_cases q2 : i < k.toNatClampNeg
    · rw [decide_eq_true q2]; simp
    · rw [decide_eq_false (show ¬ i - k.toNatClampNeg = 0 by omega)]; simp
/-- long fields stay -/
theorem kl_i {σ σ1 : oSt} {j j' a a' : Nat} {v : Int32} (e : σ1 = (oU σ.1 j' a' v, σ.2)) : σ1.2.1 j a = σ.2.1 j a := by subst e; rfl
theorem kl_s {σ σ1 : oSt} {j a : Nat} {v : Int64} (e : σ1 = (σ.1, oUl σ.2.1 j a v, σ.2.2)) : σ1.2.1 j a = v := by
  subst e
  show (if j = j ∧ a = a then v else σ.2.1 j a) = v
  rw [if_pos ⟨rfl, rfl⟩]
theorem kl_l {σ σ1 : oSt} {j j' a a' : Nat} {v : Int64} (e : σ1 = (σ.1, oUl σ.2.1 j' a' v, σ.2.2)) (h : j ≠ j') : σ1.2.1 j a = σ.2.1 j a := by
  subst e
  show (if j = j' ∧ a = a' then v else σ.2.1 j a) = σ.2.1 j a
  rw [if_neg (fun q => h q.1)]
theorem kl_p {σ σ1 : oSt} {j a a' : Nat} {f : Nat → Int32} (e : σ1 = oPut σ a' f) : σ1.2.1 j a = σ.2.1 j a := by subst e; rfl
theorem kl_q {σ σ1 : oSt} {j a a' : Nat} {f : Nat → Int64} (e : σ1 = oPutL σ a' f) : σ1.2.1 j a = σ.2.1 j a := by subst e; rfl
theorem kl_c {τ : Nat → Nat} {fs ts : List Nat} {σ σ1 : oSt} {j a : Nat} (e : oFr τ fs ts σ σ1) (h : j ∉ fs) : σ1.2.1 j a = σ.2.1 j a := congrFun (e.1 j h).2.1 a
theorem tC_or {T : Nat → Int32} {n m a b : Int} : a ≠ b ∨ tC T n m a = tC T n m b := by
  by_cases h : a = b
  · exact Or.inr (by rw [h])
  · exact Or.inl h
theorem tC_three {g : Nat → Int32} {n m p : Int} (h0 : 0 ≤ p) : (p < n ∧ p < m ∧ 0 ≤ tC (fun i => g i &&& 255) n m p) ∨ (n ≤ p ∧ (p < m ∨ n ≤ m) ∧ tC (fun i => g i &&& 255) n m p = -1) ∨ (m ≤ p ∧ m < n ∧ tC (fun i => g i &&& 255) n m p = -2) := by
  unfold tC
  by_cases h1 : m ≤ p
  · rw [if_pos h1]
    by_cases h2 : m < n
    · rw [if_pos h2]; exact Or.inr (Or.inr ⟨h1, h2, rfl⟩)
    · rw [if_neg h2]; exact Or.inr (Or.inl ⟨by omega, by omega, rfl⟩)
  · rw [if_neg h1]
    by_cases h2 : 0 ≤ p ∧ p < n
    · rw [if_pos h2]; exact Or.inl ⟨h2.2, by omega, (iv_and (v := g _ &&& 255) rfl (⟨by decide, by decide⟩ : Iv 255 255 255) (by decide : (0 : Int) ≤ 255 ∧ (0 : Int) ≤ 0 ∧ (255 : Int) ≤ 255)).1⟩
    · rw [if_neg h2]; exact Or.inr (Or.inl ⟨by omega, by omega, rfl⟩)
/-! the reference's oneOf and passes -/
def O1 (T : Nat → Int32) (n m lo hi w a w' a' r : Int) : Prop := (w ≠ -1 ∧ w' = w ∧ a' = a) ∨ (w = -1 ∧ (lo ≤ tC T n m a ∧ tC T n m a ≤ hi) ∧ w' = -1 ∧ a' = a + 1 ∧ r = tC T n m a - lo) ∨ (w = -1 ∧ ¬ (lo ≤ tC T n m a ∧ tC T n m a ≤ hi) ∧ w' = a ∧ a' = a)
def PS (T : Nat → Int32) (n m c w a a' r : Int) : Prop := (r = 1 ∧ w = -1 ∧ tC T n m a = c ∧ a' = a + 1) ∨ (r = 0 ∧ (w ≠ -1 ∨ tC T n m a ≠ c) ∧ a' = a)
section OP
variable {T T' : Nat → Int32} {n m lo hi w a w' a' r n' m' lo' hi' c c' w1 a1 w2 a2 x y co ro p : Int}
theorem o1_cv (h : O1 T n m lo hi w a w' a' r) (eT : T' = T) (e : n' = n ∧ m' = m ∧ lo' = lo ∧ hi' = hi) : O1 T' n' m' lo' hi' w a w' a' r := by
  obtain ⟨rfl, rfl, rfl, rfl⟩ := e
  subst eT
  exact h
theorem ps_cv (h : PS T n m c w a a' r) (eT : T' = T) (e : n' = n ∧ m' = m ∧ c' = c) : PS T' n' m' c' w a a' r := by
  obtain ⟨rfl, rfl, rfl⟩ := e
  subst eT
  exact h
theorem o_nf (h : O1 T n m lo hi w a w' a' r) (e : w ≠ -1) : w' = w ∧ a' = a := by
  rcases h with h | h | h
  · exact h.2
  · exact absurd h.1 e
  · exact absurd h.1 e
theorem o_ok (h : O1 T n m lo hi w a w' a' r) (e : w = -1) (e2 : w' = -1) (ha : a ≠ -1) : (lo ≤ tC T n m a ∧ tC T n m a ≤ hi) ∧ a' = a + 1 ∧ r = tC T n m a - lo := by
  rcases h with h | h | h
  · exact absurd e h.1
  · exact ⟨h.2.1, h.2.2.2.1, h.2.2.2.2⟩
  · exact absurd (h.2.2.1.symm.trans e2) ha
theorem o_no (h : O1 T n m lo hi w a w' a' r) (e : w = -1) (e2 : w' ≠ -1) : ¬ (lo ≤ tC T n m a ∧ tC T n m a ≤ hi) ∧ w' = a ∧ a' = a := by
  rcases h with h | h | h
  · exact absurd e h.1
  · exact absurd h.2.2.1 e2
  · exact h.2
theorem ps_1 (h : PS T n m c w a a' r) (e : r ≠ 0) : w = -1 ∧ tC T n m a = c ∧ a' = a + 1 := by
  rcases h with h | h
  · exact h.2
  · exact absurd h.1 e
theorem ps_0 (h : PS T n m c w a a' r) (e : r = 0) : (w ≠ -1 ∨ tC T n m a ≠ c) ∧ a' = a := by
  rcases h with h | h
  · exact absurd (h.1.symm.trans e) (by decide)
  · exact h.2
theorem rd5_nf (o1 : O1 T n m 97 (96 + co) w p w1 a1 x) (o2 : O1 T n m 49 (48 + ro) w1 a1 w2 a2 y) (e : w = -1) (e2 : w2 ≠ -1) (hp : 0 ≤ p) : (¬ (97 ≤ tC T n m p ∧ tC T n m p ≤ 96 + co) ∧ w2 = p) ∨ ((97 ≤ tC T n m p ∧ tC T n m p ≤ 96 + co) ∧ ¬ (49 ≤ tC T n m (p + 1) ∧ tC T n m (p + 1) ≤ 48 + ro) ∧ w2 = p + 1) := by
  by_cases c : w1 = -1
  · obtain ⟨h1, h2, -⟩ := o_ok o1 e c (by omega)
    obtain ⟨h3, h4, -⟩ := o_no o2 c e2
    subst h2
    exact Or.inr ⟨h1, h3, h4⟩
  · obtain ⟨h1, h2, -⟩ := o_no o1 e c
    have h3 := o_nf o2 c
    exact Or.inl ⟨h1, h3.1.trans h2⟩
theorem rd5_f (o1 : O1 T n m 97 (96 + co) w p w1 a1 x) (o2 : O1 T n m 49 (48 + ro) w1 a1 w2 a2 y) (e : w = -1) (e2 : w2 = -1) (hp : 0 ≤ p) : (97 ≤ tC T n m p ∧ tC T n m p ≤ 96 + co) ∧ (49 ≤ tC T n m (p + 1) ∧ tC T n m (p + 1) ≤ 48 + ro) ∧ a2 = p + 2 ∧ x = tC T n m p - 97 ∧ y = tC T n m (p + 1) - 49 := by
  by_cases c : w1 = -1
  · obtain ⟨h1, h2, h3⟩ := o_ok o1 e c (by omega)
    subst h2
    obtain ⟨h4, h5, h6⟩ := o_ok o2 c e2 (by omega)
    exact ⟨h1, h4, by omega, h3, h6⟩
  · exact absurd ((o_nf o2 c).1.symm.trans e2) c
end OP
theorem and255_k : ∀ k : Fin 256, (((Int32.ofInt ((k.val : Int) - 128)) &&& 255).toInt = (k.val : Int) - 128 ∧ 128 ≤ k.val) ∨ (((Int32.ofInt ((k.val : Int) - 128)) &&& 255).toInt = (k.val : Int) + 128 ∧ k.val < 128) := by decide +kernel
theorem and255 {x : Int32} (h : Iv x (-128) 127) : (0 ≤ x.toInt ∧ (x &&& 255).toInt = x.toInt) ∨ (x.toInt < 0 ∧ (x &&& 255).toInt = x.toInt + 256) := by
  have h1 := h.1
  have h2 := h.2
  have e : x = Int32.ofInt ((((x.toInt + 128).toNat : Nat) : Int) - 128) := by
    rw [show (((x.toInt + 128).toNat : Nat) : Int) - 128 = x.toInt by omega]
    exact (Int32.ofInt_toInt x).symm
  have q := and255_k ⟨(x.toInt + 128).toNat, by omega⟩
  rw [← e] at q
  have z : ((⟨(x.toInt + 128).toNat, by omega⟩ : Fin 256).val : Int) = x.toInt + 128 := by
    show (((x.toInt + 128).toNat : Nat) : Int) = x.toInt + 128
    omega
  omega
theorem ex_rem2 {v x y : Int32} (e : v = x - x / y * y) {a b : Int} (hx : Iv x a b) (h0 : 0 ≤ a) (hy : y.toInt = 10) : v.toInt = x.toInt % 10 := by
  rw [ex_rem e, hy]
  exact Int.tmod_eq_emod_of_nonneg (by have := hx.1; omega)
theorem ex_min {v x y : Int32} (e : v = if y < x then y else x) : (y.toInt < x.toInt ∧ v.toInt = y.toInt) ∨ (x.toInt ≤ y.toInt ∧ v.toInt = x.toInt) := by
  by_cases h : y < x
  · rw [e, if_pos h]; exact Or.inl ⟨iv_lt.mp h, rfl⟩
  · rw [e, if_neg h]; exact Or.inr ⟨iv_le.mp (iv_nlt h), rfl⟩
/-! ===== the number of herds: of the present, of what is kept, of what can be undone ===== -/
def kb (v : Int32) (i : Nat) : Bool := decide (v.toInt / 2 ^ i % 2 = 1)
theorem kb_sh : ∀ (a : Fin 4) (b : Fin 2), (((Int32.ofNat a.val) >>> ((Int32.ofNat b.val) &&& 31)) &&& 1 = 0 ↔ kb (Int32.ofNat a.val) b.val = false) := by decide +kernel
theorem kb_or : ∀ (a : Fin 4) (b c : Fin 2), (0 ≤ (Int32.ofNat a.val ||| (1 <<< ((Int32.ofNat b.val) &&& 31))).toInt ∧ (Int32.ofNat a.val ||| (1 <<< ((Int32.ofNat b.val) &&& 31))).toInt ≤ 3) ∧ (kb (Int32.ofNat a.val ||| (1 <<< ((Int32.ofNat b.val) &&& 31))) c.val = true ↔ c = b ∨ kb (Int32.ofNat a.val) c.val = true) := by decide +kernel
theorem kb_0 (i : Nat) (h : i < 2) : kb 0 i = false := by
  rcases (show i = 0 ∨ i = 1 by omega) with rfl | rfl <;> decide
theorem kb_test {v k u w : Int32} (hv : Iv v 0 3) (hk : Iv k 0 1) (eu : u = v >>> (k &&& 31)) (ew : w = u &&& 1) : (w = 0 ↔ kb v k.toNatClampNeg = false) := by
  have c1 := cl_of hv (by decide)
  have c2 := cl_of hk (by decide)
  have n1 := nat_of hv (by decide)
  have n2 := nat_of hk (by decide)
  have q := kb_sh ⟨v.toNatClampNeg, by have := hv.2; omega⟩ ⟨k.toNatClampNeg, by have := hk.2; omega⟩
  rw [← c1, ← c2, ← eu, ← ew] at q
  exact q
theorem kb_put {v k u w : Int32} (hv : Iv v 0 3) (hk : Iv k 0 1) (eu : u = 1 <<< (k &&& 31)) (ew : w = v ||| u) : Iv w 0 3 ∧ ∀ i, i < 2 → (kb w i = true ↔ i = k.toNatClampNeg ∨ kb v i = true) := by
  have c1 := cl_of hv (by decide)
  have c2 := cl_of hk (by decide)
  have n1 := nat_of hv (by decide)
  have n2 := nat_of hk (by decide)
  have hb : k.toNatClampNeg < 2 := by have := hk.2; omega
  have q : ∀ (i : Nat) (h : i < 2), (0 ≤ w.toInt ∧ w.toInt ≤ 3) ∧ (kb w i = true ↔ (⟨i, h⟩ : Fin 2) = ⟨k.toNatClampNeg, hb⟩ ∨ kb v i = true) := fun i h => by
    have z := kb_or ⟨v.toNatClampNeg, by have := hv.2; omega⟩ ⟨k.toNatClampNeg, hb⟩ ⟨i, h⟩
    rw [← c1, ← c2, ← eu, ← ew] at z
    exact z
  refine ⟨(q 0 (by decide)).1, fun i h => ?_⟩
  rw [(q i h).2]
  exact or_congr ⟨fun z => congrArg Fin.val z, fun z => Fin.ext z⟩ Iff.rfl
def RG (σ : oSt) (A B : Nat) (V : Int32) : Prop := ∀ i, i < 10 → ∀ R s, σ.2.2.2.2 128 A = some R → σ.2.2.2.2 (4096 + i) R = some s → s ≠ B ∧ (rw_in (σ.1 129 A).toNatClampNeg (σ.1 130 A).toNatClampNeg i = true → σ.1 327 s = V)
def KG (σ : oSt) (x Q B : Nat) (V : Int32) : Prop := ∀ i, i < 2 → ∀ s, σ.2.2.2.2 (4096 + i) Q = some s → s ≠ B ∧ (kb (σ.1 587 x) i = true → σ.1 327 s = V)
def NV (σ : oSt) (x : Nat) (V : Int32) : Prop := ∃ P B F A Q, σ.2.2.2.2 581 x = some P ∧ σ.2.2.2.2 582 x = some B ∧ σ.2.2.2.2 583 x = some F ∧ σ.2.2.2.2 0 F = some P ∧ σ.2.2.2.2 585 x = some A ∧ σ.2.2.2.2 586 x = some Q ∧ P ≠ B ∧ σ.1 327 P = V ∧ Iv (σ.1 587 x) 0 3 ∧ KG σ x Q B V ∧ RG σ A B V
def nvk (X fs : List Nat) : Bool := (fs.all fun j => decide (j < 4096)) && X.all fun j => decide (j ∉ fs)
section NVS
variable {σ σ1 : oSt} {x A B P F Q v R n : Nat} {V V' W : Int32} {τ : Nat → Nat} {fs ts X : List Nat}
theorem nvk_1 (d : nvk X fs = true) {j : Nat} (h : j ∈ X) : j ∉ fs := by
  unfold nvk at d
  rw [Bool.and_eq_true, List.all_eq_true, List.all_eq_true] at d
  exact of_decide_eq_true (d.2 j h)
theorem nvk_2 (d : nvk X fs = true) {j : Nat} (h : 4096 ≤ j) : j ∉ fs := by
  unfold nvk at d
  rw [Bool.and_eq_true, List.all_eq_true, List.all_eq_true] at d
  exact fun hm => absurd (of_decide_eq_true (d.1 j hm)) (by omega)
theorem rg_u (h : RG σ A B V) (r : ∀ j a, (j = 128 ∨ 4096 ≤ j) → σ1.2.2.2.2 j a = σ.2.2.2.2 j a) (e1 : σ1.1 129 A = σ.1 129 A) (e2 : σ1.1 130 A = σ.1 130 A) (u : ∀ a, σ1.1 327 a = σ.1 327 a ∨ σ1.1 327 a = V) : RG σ1 A B V := by
  intro i hi R s h1 h2
  rw [r _ _ (Or.inl rfl)] at h1
  rw [r _ _ (Or.inr (by omega))] at h2
  obtain ⟨q1, q2⟩ := h i hi R s h1 h2
  refine ⟨q1, fun w => ?_⟩
  rw [e1, e2] at w
  rcases u s with y | y
  · rw [y]; exact q2 w
  · exact y
theorem rg_0 (h : RG σ A B V) (r : ∀ j a, (j = 128 ∨ 4096 ≤ j) → σ1.2.2.2.2 j a = σ.2.2.2.2 j a) (e : σ1.1 130 A = 0) : RG σ1 A B V' := by
  intro i hi R s h1 h2
  rw [r _ _ (Or.inl rfl)] at h1
  rw [r _ _ (Or.inr (by omega))] at h2
  refine ⟨(h i hi R s h1 h2).1, fun w => ?_⟩
  rw [e, show (0 : Int32).toNatClampNeg = 0 from by decide] at w
  exact absurd (of_decide_eq_true w) (Nat.not_lt_zero _)
theorem rg_add (h : RG σ A B V) (r : ∀ j a, (j = 128 ∨ 4096 ≤ j) → σ1.2.2.2.2 j a = σ.2.2.2.2 j a) (hR : σ.2.2.2.2 128 A = some R) (hv : σ.2.2.2.2 (4096 + (σ.1 129 A).toNatClampNeg) R = some v) (b1 : Iv (σ.1 129 A) 0 9) (b2 : Iv (σ.1 130 A) 0 10)
    (e1 : (σ1.1 129 A).toInt = ((σ.1 129 A).toInt + 1) % 10) (e2 : ((σ.1 130 A).toInt < 10 ∧ (σ1.1 130 A).toInt = (σ.1 130 A).toInt + 1) ∨ (10 ≤ (σ.1 130 A).toInt ∧ (σ1.1 130 A).toInt = 10)) (ev : σ1.1 327 v = V) (u : ∀ a, σ1.1 327 a = σ.1 327 a ∨ σ1.1 327 a = V) : RG σ1 A B V := by
  intro i hi R' s h1 h2
  rw [r _ _ (Or.inl rfl)] at h1
  rw [r _ _ (Or.inr (by omega))] at h2
  obtain ⟨q1, q2⟩ := h i hi R' s h1 h2
  refine ⟨q1, fun w => ?_⟩
  have n1 := nat_of b1 (by decide)
  have n2 := nat_of b2 (by decide)
  have m1 := b1.1
  have m2 := b1.2
  have m3 := b2.1
  have m4 := b2.2
  have n3 := nat_of (⟨by omega, by omega⟩ : Iv (σ1.1 129 A) 0 9) (by decide)
  have n4 := nat_of (⟨by omega, by omega⟩ : Iv (σ1.1 130 A) 0 10) (by decide)
  rw [show (σ1.1 129 A).toNatClampNeg = ((σ.1 129 A).toNatClampNeg + 1) % 10 by omega, show (σ1.1 130 A).toNatClampNeg = min 10 ((σ.1 130 A).toNatClampNeg + 1) by omega] at w
  rcases rw_add ⟨(σ.1 129 A).toNatClampNeg, by omega⟩ ⟨(σ.1 130 A).toNatClampNeg, by omega⟩ ⟨i, hi⟩ w with z | z
  · have z : i = (σ.1 129 A).toNatClampNeg := congrArg Fin.val z
    rw [z, Option.some.inj (h1.symm.trans hR)] at h2
    rw [Option.some.inj (h2.symm.trans hv)]
    exact ev
  · rcases u s with y | y
    · rw [y]; exact q2 z
    · exact y
theorem rg_at (h : RG σ A B V) (hR : σ.2.2.2.2 128 A = some R) (b1 : Iv (σ.1 129 A) 0 9) (b2 : Iv (σ.1 130 A) 1 10) {m : Int32} (hm : m.toInt = ((σ.1 129 A).toInt + 9) % 10) (hv : σ.2.2.2.2 (4096 + m.toNatClampNeg) R = some v) : σ.1 327 v = V := by
  have n1 := nat_of b1 (by decide)
  have n2 := nat_of b2 (by decide)
  have m1 := b1.1
  have m2 := b1.2
  have m3 := b2.1
  have m4 := b2.2
  have n3 := nat_of (⟨by omega, by omega⟩ : Iv m 0 9) (by decide)
  refine (h m.toNatClampNeg (by omega) R v hR hv).2 ?_
  have z := (rw_back ⟨(σ.1 129 A).toNatClampNeg, by omega⟩ ⟨(σ.1 130 A).toNatClampNeg, by omega⟩ ⟨0, by decide⟩ (show 0 < (σ.1 130 A).toNatClampNeg by omega)).1
  rw [show m.toNatClampNeg = ((σ.1 129 A).toNatClampNeg + 9) % 10 by omega]
  exact z
theorem rg_back (h : RG σ A B V) (r : ∀ j a, (j = 128 ∨ 4096 ≤ j) → σ1.2.2.2.2 j a = σ.2.2.2.2 j a) (b1 : Iv (σ.1 129 A) 0 9) (b2 : Iv (σ.1 130 A) 1 10)
    (e1 : (σ1.1 129 A).toInt = ((σ.1 129 A).toInt + 9) % 10) (e2 : (σ1.1 130 A).toInt = (σ.1 130 A).toInt - 1) (u : ∀ a, σ1.1 327 a = σ.1 327 a ∨ σ1.1 327 a = V) : RG σ1 A B V := by
  intro i hi R' s h1 h2
  rw [r _ _ (Or.inl rfl)] at h1
  rw [r _ _ (Or.inr (by omega))] at h2
  obtain ⟨q1, q2⟩ := h i hi R' s h1 h2
  refine ⟨q1, fun w => ?_⟩
  have n1 := nat_of b1 (by decide)
  have n2 := nat_of b2 (by decide)
  have m1 := b1.1
  have m2 := b1.2
  have m3 := b2.1
  have m4 := b2.2
  have n3 := nat_of (⟨by omega, by omega⟩ : Iv (σ1.1 129 A) 0 9) (by decide)
  have n4 := nat_of (⟨by omega, by omega⟩ : Iv (σ1.1 130 A) 0 10) (by decide)
  rw [show (σ1.1 129 A).toNatClampNeg = ((σ.1 129 A).toNatClampNeg + 9) % 10 by omega, show (σ1.1 130 A).toNatClampNeg = (σ.1 130 A).toNatClampNeg - 1 by omega] at w
  have z := (rw_back ⟨(σ.1 129 A).toNatClampNeg, by omega⟩ ⟨(σ.1 130 A).toNatClampNeg, by omega⟩ ⟨i, hi⟩ (show 0 < (σ.1 130 A).toNatClampNeg by omega)).2 w
  rcases u s with y | y
  · rw [y]; exact q2 z
  · exact y
theorem nv_g (h : NV σ x V) (r : ∀ j a, (j ∈ [0, 581, 582, 583, 585, 586] ∨ 4096 ≤ j) → σ1.2.2.2.2 j a = σ.2.2.2.2 j a) (e : σ1.1 587 x = σ.1 587 x) (u : ∀ a, σ1.1 327 a = σ.1 327 a ∨ σ1.1 327 a = V) (g : ∀ A B, σ.2.2.2.2 585 x = some A → RG σ A B V → RG σ1 A B V) : NV σ1 x V := by
  obtain ⟨P, B, F, A, Q, h1, h2, h3, h4, h5, h6, h7, h8, h9, h10, h11⟩ := h
  refine ⟨P, B, F, A, Q, (r _ _ (Or.inl (by decide))).trans h1, (r _ _ (Or.inl (by decide))).trans h2, (r _ _ (Or.inl (by decide))).trans h3, (r _ _ (Or.inl (by decide))).trans h4, (r _ _ (Or.inl (by decide))).trans h5, (r _ _ (Or.inl (by decide))).trans h6, h7, ?_, by rw [e]; exact h9, ?_, g A B h5 h11⟩
  · rcases u P with y | y
    · rw [y]; exact h8
    · exact y
  · intro i hi s q
    rw [r _ _ (Or.inr (by omega))] at q
    obtain ⟨q1, q2⟩ := h10 i hi s q
    refine ⟨q1, fun w => ?_⟩
    rw [e] at w
    rcases u s with y | y
    · rw [y]; exact q2 w
    · exact y
theorem nv_r6 (fr : oFr τ fs ts σ σ1) (d : nvk X fs = true) (s : ∀ j, j ∈ [0, 581, 582, 583, 585, 586] → j ∈ X) : ∀ j a, (j ∈ [0, 581, 582, 583, 585, 586] ∨ 4096 ≤ j) → σ1.2.2.2.2 j a = σ.2.2.2.2 j a := fun j a hj => congrFun (fr.1 j (hj.elim (fun q => nvk_1 d (s j q)) (nvk_2 d))).2.2 a
theorem nv_r2 (fr : oFr τ fs ts σ σ1) (d : nvk X fs = true) (s : 128 ∈ X) : ∀ j a, (j = 128 ∨ 4096 ≤ j) → σ1.2.2.2.2 j a = σ.2.2.2.2 j a := fun j a hj => congrFun (fr.1 j (hj.elim (fun q => q ▸ nvk_1 d s) (nvk_2 d))).2.2 a
theorem nv_c (h : NV σ x V) (fr : oFr τ fs ts σ σ1) (d : nvk [0, 581, 582, 583, 585, 586, 587, 128, 129, 130] fs = true) (u : ∀ a, σ1.1 327 a = σ.1 327 a ∨ σ1.1 327 a = V) : NV σ1 x V :=
  nv_g h (nv_r6 fr d (by decide)) (congrFun (fr.1 587 (nvk_1 d (by decide))).1 x) u (fun A B _ g => rg_u g (nv_r2 fr d (by decide)) (congrFun (fr.1 129 (nvk_1 d (by decide))).1 A) (congrFun (fr.1 130 (nvk_1 d (by decide))).1 A) u)
theorem nv_0 (h : NV σ x V) (fr : oFr τ fs ts σ σ1) (d : nvk [0, 581, 582, 583, 585, 586, 587, 128, 129, 130, 327] fs = true) : NV σ1 x V := by
  have d2 : nvk [0, 581, 582, 583, 585, 586, 587, 128, 129, 130] fs = true := by
    unfold nvk at d ⊢
    rw [Bool.and_eq_true, List.all_eq_true, List.all_eq_true] at d ⊢
    exact ⟨d.1, fun j hj => d.2 j (by simp only [List.mem_cons, List.not_mem_nil, or_false] at hj ⊢; omega)⟩
  exact nv_c h fr d2 (fun a => Or.inl (congrFun (fr.1 327 (nvk_1 d (by decide))).1 a))
theorem nv_a (h : NV σ x V) (fr : oFr τ fs ts σ σ1) (d : nvk [0, 581, 582, 583, 585, 586, 587] fs = true) (hA : σ.2.2.2.2 585 x = some A) (g : ∀ B, RG σ A B V → RG σ1 A B V) (u : ∀ a, σ1.1 327 a = σ.1 327 a ∨ σ1.1 327 a = V) : NV σ1 x V :=
  nv_g h (nv_r6 fr d (by decide)) (congrFun (fr.1 587 (nvk_1 d (by decide))).1 x) u (fun A' B q g' => by rw [Option.some.inj (q.symm.trans hA)] at g' ⊢; exact g B g')
theorem nv_a2 (h : NV σ x V) (fr : oFr τ fs ts σ σ1) (d : nvk [0, 581, 582, 583, 585, 586, 587] fs = true) (hA : σ.2.2.2.2 585 x = some A) (g : ∀ B, RG σ A B V → (RG σ1 A B V ∧ ∀ a, σ1.1 327 a = σ.1 327 a ∨ σ1.1 327 a = V)) : NV σ1 x V := by
  have u : ∀ a, σ1.1 327 a = σ.1 327 a ∨ σ1.1 327 a = V := by
    obtain ⟨P, B, F, A', Q, h1, h2, h3, h4, h5, h6, h7, h8, h9, h10, h11⟩ := id h
    rw [Option.some.inj (h5.symm.trans hA)] at h11
    exact (g B h11).2
  exact nv_a h fr d hA (fun B q => (g B q).1) u
theorem nv_f (h : NV σ x V) (fr : oFr τ fs ts σ σ1) (d : nvk [0, 581, 582, 583, 585, 586, 587, 128, 327] fs = true) (hA : σ.2.2.2.2 585 x = some A) (e : σ1.1 130 A = 0) : NV σ1 x V :=
  nv_g h (nv_r6 fr d (by decide)) (congrFun (fr.1 587 (nvk_1 d (by decide))).1 x) (fun a => Or.inl (congrFun (fr.1 327 (nvk_1 d (by decide))).1 a)) (fun A' B q g' => by rw [Option.some.inj (q.symm.trans hA)] at g' ⊢; exact rg_0 g' (nv_r2 fr d (by decide)) e)
theorem nv_i {j a : Nat} {w : Int32} (h : NV σ x V) (e : σ1 = (oU σ.1 j a w, σ.2)) (hj : j ∉ [327, 587, 129, 130]) : NV σ1 x V := by
  have q : ∀ i, i ∈ [327, 587, 129, 130] → i ≠ j := fun i hi z => hj (z ▸ hi)
  exact nv_g h (fun _ _ _ => kr_i e) (kp_i e (q _ (by decide))) (fun a => Or.inl (kp_i e (q _ (by decide)))) (fun A B _ g => rg_u g (fun _ _ _ => kr_i e) (kp_i e (q _ (by decide))) (kp_i e (q _ (by decide))) (fun a => Or.inl (kp_i e (q _ (by decide)))))
theorem nv_l {j a : Nat} {w : Int64} (h : NV σ x V) (e : σ1 = (σ.1, oUl σ.2.1 j a w, σ.2.2)) : NV σ1 x V := by subst e; exact h
theorem nv_p {a : Nat} {f : Nat → Int32} (h : NV σ x V) (e : σ1 = oPut σ a f) : NV σ1 x V := by subst e; exact h
theorem nv_q {a : Nat} {f : Nat → Int64} (h : NV σ x V) (e : σ1 = oPutL σ a f) : NV σ1 x V := by subst e; exact h
theorem nv_B (h : NV σ x V) (fr : oFr τ fs ts σ σ1) (d : nvk [0, 581, 582, 583, 585, 586, 587, 128, 129, 130] fs = true) (hB : σ.2.2.2.2 582 x = some B) (u : ∀ a, a ≠ B → σ1.1 327 a = σ.1 327 a) : NV σ1 x V := by
  have r6 := nv_r6 fr d (by decide)
  have r2 := nv_r2 fr d (by decide)
  obtain ⟨P, B', F, A, Q, h1, h2, h3, h4, h5, h6, h7, h8, h9, h10, h11⟩ := h
  have hb := Option.some.inj (h2.symm.trans hB)
  subst hb
  have e := congrFun (fr.1 587 (nvk_1 d (by decide))).1 x
  refine ⟨P, B', F, A, Q, (r6 _ _ (Or.inl (by decide))).trans h1, (r6 _ _ (Or.inl (by decide))).trans h2, (r6 _ _ (Or.inl (by decide))).trans h3, (r6 _ _ (Or.inl (by decide))).trans h4, (r6 _ _ (Or.inl (by decide))).trans h5, (r6 _ _ (Or.inl (by decide))).trans h6, h7, (u P h7).trans h8, by rw [e]; exact h9, ?_, ?_⟩
  · intro i hi s q
    rw [r6 _ _ (Or.inr (by omega))] at q
    obtain ⟨q1, q2⟩ := h10 i hi s q
    exact ⟨q1, fun w => (u s q1).trans (q2 (by rw [e] at w; exact w))⟩
  · intro i hi R s q1 q2
    rw [r2 _ _ (Or.inl rfl)] at q1
    rw [r2 _ _ (Or.inr (by omega))] at q2
    obtain ⟨q3, q4⟩ := h11 i hi R s q1 q2
    exact ⟨q3, fun w => (u s q3).trans (q4 (by rw [congrFun (fr.1 129 (nvk_1 d (by decide))).1 A, congrFun (fr.1 130 (nvk_1 d (by decide))).1 A] at w; exact w))⟩
theorem nv_n (h : NV σ x V) (fr : oFr τ fs ts σ σ1) (d : nvk [0, 581, 582, 583, 585, 586, 128] fs = true) (e : σ1.1 587 x = 0) (hA : σ.2.2.2.2 585 x = some A) (e2 : σ1.1 130 A = 0) (hP : σ.2.2.2.2 581 x = some P) (e3 : σ1.1 327 P = V') : NV σ1 x V' := by
  have r6 := nv_r6 fr d (by decide)
  have r2 := nv_r2 fr d (by decide)
  obtain ⟨P', B, F, A', Q, h1, h2, h3, h4, h5, h6, h7, h8, h9, h10, h11⟩ := h
  have hp := Option.some.inj (h1.symm.trans hP)
  have ha := Option.some.inj (h5.symm.trans hA)
  subst hp
  subst ha
  refine ⟨P', B, F, A', Q, (r6 _ _ (Or.inl (by decide))).trans h1, (r6 _ _ (Or.inl (by decide))).trans h2, (r6 _ _ (Or.inl (by decide))).trans h3, (r6 _ _ (Or.inl (by decide))).trans h4, (r6 _ _ (Or.inl (by decide))).trans h5, (r6 _ _ (Or.inl (by decide))).trans h6, h7, e3, by rw [e]; exact ⟨by decide, by decide⟩, ?_, rg_0 h11 r2 e2⟩
  intro i hi s q
  rw [r6 _ _ (Or.inr (by omega))] at q
  refine ⟨(h10 i hi s q).1, fun w => ?_⟩
  rw [e, kb_0 i hi] at w
  cases w
theorem nv_kb {i : Nat} {w : Int32} (h : NV σ x V) (hQ : σ.2.2.2.2 586 x = some Q) (hv : σ.2.2.2.2 (4096 + i) Q = some v) (ev : σ.1 327 v = V) (e : σ1 = (oU σ.1 587 x w, σ.2)) (hw : Iv w 0 3 ∧ ∀ j, j < 2 → (kb w j = true ↔ j = i ∨ kb (σ.1 587 x) j = true)) : NV σ1 x V := by
  obtain ⟨P, B, F, A, Q', h1, h2, h3, h4, h5, h6, h7, h8, h9, h10, h11⟩ := h
  have hq := Option.some.inj (h6.symm.trans hQ)
  subst hq
  have es : σ1.1 587 x = w := kp_s e
  have e3 : ∀ a, σ1.1 327 a = σ.1 327 a := fun a => kp_i e (by decide)
  refine ⟨P, B, F, A, Q', (kr_i e).trans h1, (kr_i e).trans h2, (kr_i e).trans h3, (kr_i e).trans h4, (kr_i e).trans h5, (kr_i e).trans h6, h7, (e3 P).trans h8, by rw [es]; exact hw.1, ?_, rg_u h11 (fun _ _ _ => kr_i e) (kp_i e (by decide)) (kp_i e (by decide)) (fun a => Or.inl (e3 a))⟩
  intro j hj s q
  rw [kr_i e] at q
  obtain ⟨q1, q2⟩ := h10 j hj s q
  refine ⟨q1, fun z => ?_⟩
  rw [es] at z
  rw [e3]
  rcases (hw.2 j hj).mp z with y | y
  · rw [y] at q; rw [Option.some.inj (q.symm.trans hv)]; exact ev
  · exact q2 y
theorem nv_P (h : NV σ x V) (hP : σ.2.2.2.2 581 x = some P) : σ.1 327 P = V := by
  obtain ⟨P', B, F, A, Q, h1, h2, h3, h4, h5, h6, h7, h8, -⟩ := h
  rw [← Option.some.inj (h1.symm.trans hP)]
  exact h8
theorem nv_F (h : NV σ x V) (hF : σ.2.2.2.2 583 x = some F) (hP : σ.2.2.2.2 581 x = some P) : σ.2.2.2.2 0 F = some P := by
  obtain ⟨P', B, F', A, Q, h1, h2, h3, h4, -⟩ := h
  rw [← Option.some.inj (h1.symm.trans hP), ← Option.some.inj (h3.symm.trans hF)]
  exact h4
theorem nv_b (h : NV σ x V) : Iv (σ.1 587 x) 0 3 := by
  obtain ⟨P', B, F', A, Q, h1, h2, h3, h4, h5, h6, h7, h8, h9, -⟩ := h
  exact h9
theorem nv_ne (h : NV σ x V) (hP : σ.2.2.2.2 581 x = some P) (hB : σ.2.2.2.2 582 x = some B) : P ≠ B := by
  obtain ⟨P', B', F', A, Q, h1, h2, h3, h4, h5, h6, h7, -⟩ := h
  rw [← Option.some.inj (h1.symm.trans hP), ← Option.some.inj (h2.symm.trans hB)]
  exact h7
theorem nv_K (h : NV σ x V) (hQ : σ.2.2.2.2 586 x = some Q) {i : Nat} (hi : i < 2) (hv : σ.2.2.2.2 (4096 + i) Q = some v) (k : kb (σ.1 587 x) i = true) : σ.1 327 v = V := by
  obtain ⟨P', B', F', A, Q', h1, h2, h3, h4, h5, h6, h7, h8, h9, h10, -⟩ := h
  rw [← Option.some.inj (h6.symm.trans hQ)] at hv
  exact (h10 i hi v hv).2 k
theorem u_cp {a0 a1 : Nat} (h : σ1.1 327 a0 = σ.1 327 a1 ∧ ∀ a, a ≠ a0 → σ1.1 327 a = σ.1 327 a) : ∀ a, σ1.1 327 a = σ.1 327 a ∨ σ1.1 327 a = σ.1 327 a1 := fun a => by
  by_cases q : a = a0
  · rw [q]; exact Or.inr h.1
  · exact Or.inl (h.2 a q)
theorem u_v (h : ∀ a, σ1.1 327 a = σ.1 327 a ∨ σ1.1 327 a = W) (e : W = V) : ∀ a, σ1.1 327 a = σ.1 327 a ∨ σ1.1 327 a = V := e ▸ h
theorem u_mv {f g k : Nat → Int32} (h : ∀ a, f a = k a ∨ f a = V) (e : ∀ a, g a = f a) : ∀ a, g a = k a ∨ g a = V := fun a => by rw [e a]; exact h a
theorem kp_a {j a a' : Nat} {w : Int32} (e : σ1 = (oU σ.1 j a' w, σ.2)) (h : a ≠ a') : σ1.1 j a = σ.1 j a := by
  subst e
  show (if j = j ∧ a = a' then w else σ.1 j a) = σ.1 j a
  rw [if_neg (fun q => h q.2)]
end NVS
theorem ku_lay {f f' : Nat → Bool} {t c : Int} (h1 : 48 ≤ t → ∀ i : Nat, f' i = (decide ((i : Int) = c) || f i)) (h2 : t < 48 → f' = f) : f' = if 48 ≤ t then ku f c else f := by
  by_cases q : 48 ≤ t
  · rw [if_pos q]; exact funext (h1 q)
  · rw [if_neg q]; exact h2 (by omega)
theorem mk_lend {T : Nat → Int32} {n R p x y w g : Int} {F K : Nat → Bool} (h : mkH T n F p x y w g K) (m : mdH T n R p x y w g) (hR : 0 < R) (hp : 0 ≤ p ∧ p ≤ 76) (hs : tC T n 76 p = -1 ∨ 76 ≤ p) : F = K := by
  have q := mh_lend m hR hp hs
  by_cases c : tC T n 76 p = -1
  · exact mk_end h hp.2 ⟨q.1, c⟩
  · have c2 := tC_far (f := T) (n := n) (lim := 76) (p := p) (by omega)
    have := mh_bad m hp.2 (by omega)
    omega
theorem fill_5 {f g : Nat → Int32} {k k2 x : Int32} {b : Int} (h : ∀ i : Nat, (i : Int) < k.toInt → f i = g i) (e : k2.toInt = k.toInt + 1) (hk : Iv k 0 b) (hx : x = g k.toNatClampNeg) : ∀ i : Nat, (i : Int) < k2.toInt → upd f k.toNatClampNeg x i = g i := fun i hi => by
  have hn : (k.toNatClampNeg : Int) = k.toInt := nat_of hk (by decide)
  by_cases c : i = k.toNatClampNeg
  · rw [c, pk_us]; exact hx
  · rw [pk_un c]; exact h i (by omega)
section MM
variable {T nk nk' : Nat → Int32} {n R p x y w g p' x' y' w' g' : Int} {F : Nat → Bool}
theorem mm_0 (e : p = 0 ∧ x = 0 ∧ y = 0 ∧ g = 0) : mdH T n (mdM T n) p x y w g ∧ ∃ K, mkH T n (mkM T n) p x y w g K ∧ KR nk K x y w := ⟨mh_0 e, _, mk_0 e rfl, kR_0 rfl ⟨e.2.1, e.2.2.1⟩⟩
theorem mm_conv (h : mdH T n R p x y w g ∧ ∃ K, mkH T n F p x y w g K ∧ KR nk K x y w) (e : p' = p ∧ x' = x ∧ y' = y ∧ (y = 0 ∨ w' = w) ∧ g' = g) (hn : nk' = nk) : mdH T n R p' x' y' w' g' ∧ ∃ K, mkH T n F p' x' y' w' g' K ∧ KR nk' K x' y' w' := by
  obtain ⟨h1, K, h2, h3⟩ := h
  exact ⟨mh_conv h1 e, K, mk_conv h2 e rfl, kR_conv h3 hn ⟨e.2.1, e.2.2.1, e.2.2.2.1⟩⟩
theorem mm_row (h : mdH T n R p x y w g ∧ ∃ K, mkH T n F p x y w g K ∧ KR nk K x y w) (hp : p ≤ 76) (hc : ((y = 0 ∧ 0 < x) ∨ (y ≠ 0 ∧ x = w)) ∧ 0 ≤ y ∧ y < 7 ∧ tC T n 76 p = 47) (e : p' = p + 1 ∧ x' = 0 ∧ y' = y + 1 ∧ w' = x ∧ g' = g) (hn : nk' = nk) : mdH T n R p' x' y' w' g' ∧ ∃ K, mkH T n F p' x' y' w' g' K ∧ KR nk' K x' y' w' := by
  obtain ⟨h1, K, h2, h3⟩ := h
  subst hn
  exact ⟨mh_row h1 hp hc e, K, mk_row h2 hp hc e, kR_row h3 (by omega) ⟨e.2.1, e.2.2.1, e.2.2.2.1⟩⟩
theorem mm_cell {ix v : Int32} (h : mdH T n R p x y w g ∧ ∃ K, mkH T n F p x y w g K ∧ KR nk K x y w) (hp : p ≤ 76) (hc : ((y = 0 ∧ x < 8) ∨ (y ≠ 0 ∧ x < w)) ∧ (tC T n 76 p = 35 ∨ (48 ≤ tC T n 76 p ∧ tC T n 76 p ≤ 57) ∨ (tC T n 76 p = 43 ∧ g < 6))) (e : p' = p + 1 ∧ x' = x + 1 ∧ y' = y ∧ w' = w ∧ ((tC T n 76 p = 43 ∧ g' = g + 1) ∨ (tC T n 76 p ≠ 43 ∧ g' = g)))
    (hb : 0 ≤ x ∧ x < 8 ∧ 0 ≤ y ∧ y < 8) (hi : ix.toInt = 8 * y + x) (hn : nk' = upd nk ix.toNatClampNeg v) (hv : v = 0 ↔ 48 ≤ tC T n 76 p) : mdH T n R p' x' y' w' g' ∧ ∃ K, mkH T n F p' x' y' w' g' K ∧ KR nk' K x' y' w' := by
  obtain ⟨h1, K, h2, h3⟩ := h
  refine ⟨mh_cell h1 hp hc e, _, mk_cell h2 hp hc e rfl, ?_⟩
  have q := kR_cell (x' := x') (w' := w') h3 ⟨hb.1, hb.2.1, hb.2.2.1, hb.2.2.2, e.2.1, Or.inr e.2.2.2.1⟩ hi (nk' := nk') (fun i => by
    rw [hn]
    by_cases c : i = ix.toNatClampNeg
    · rw [if_pos c, c, pk_us]
    · rw [if_neg c, pk_un c]) hv
  rw [e.2.2.1]
  exact q
theorem mm_end {kd : Nat → Int32} {co ro : Int} (h : mdH T n R p x y w g ∧ ∃ K, mkH T n F p x y w g K ∧ KR nk K x y w) (hp : p ≤ 76) (hc : ((y = 0 ∧ 0 < x) ∨ (y ≠ 0 ∧ x = w)) ∧ tC T n 76 p = -1) (hk : KT kd nk' co ro) (hn : nk' = nk) (e : co = x ∧ ro = y + 1) (hy : 0 ≤ y) : ∀ c : Nat, c < 64 → (F c = true ↔ kd c = 0) := by
  obtain ⟨h1, K, h2, h3⟩ := h
  subst hn
  rw [mk_end h2 hp hc]
  exact kR_end h3 (by omega) hk e
end MM
