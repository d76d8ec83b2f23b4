/-! ===== texts: THE TEXT of both, as its readers see it ===== -/
/-- the row to which reference j of a leads -/
def oRw (σ : oSt) (j a : Nat) : Nat → Int32 := match σ.2.2.2.2 j a with
  | some b => σ.2.2.1 b
  | none => fun _ => 0
theorem oRw_s {σ : oSt} {j a b : Nat} (h : σ.2.2.2.2 j a = some b) : oRw σ j a = σ.2.2.1 b := by
  unfold oRw
  rw [h]
theorem oRw_fr {A : Nat → Prop} {L : List Nat} {τ : Nat → Nat} {cy : Nat → ClassId} {D : va_G} {H0 H : Heap} {locs : List Loc} {σ σ1 : oSt} (hw : oI A L τ cy D H0 σ1 H locs) {a u j t : Nat} (ha : oA L τ a u) (ht : oTg u j = some t) {fs ts : List Nat} (f : oFr τ fs ts σ σ1) (h : j ∉ fs ∧ t ∉ ts) : oRw σ1 j a = oRw σ j a := by
  obtain ⟨b, e, hb⟩ := hw.2.2.2.2.2 j a t (by rw [ha.2]; exact ht) ha.1
  rw [oRw_s e, oRw_s ((kr_c f h.1).symm.trans e)]
  exact rw_c f hb h.2
/-- the sign at p, as the class sees it: -1 the end, -2 cut off -/
def tC (f : Nat → Int32) (n lim p : Int) : Int := if lim ≤ p then (if lim < n then -2 else -1) else if 0 ≤ p ∧ p < n then (f p.toNat).toInt else -1
theorem tC_pos {f : Nat → Int32} {n lim p : Int} (h : 0 ≤ tC f n lim p) : 0 ≤ p ∧ p < n ∧ p < lim := by
  unfold tC at h
  split at h
  · split at h <;> omega
  · split at h <;> omega
theorem tC_congr {f g : Nat → Int32} {n lim p : Int} (h : ∀ i : Nat, (i : Int) < n → f i = g i) : tC f n lim p = tC g n lim p := by
  unfold tC
  split
  · rfl
  · split
    · rw [h _ (by omega)]
    · rfl
theorem tC_far {f : Nat → Int32} {n lim p : Int} (h : lim ≤ p) : tC f n lim p = -1 ∨ tC f n lim p = -2 := by
  unfold tC
  rw [if_pos h]
  split
  · exact Or.inr rfl
  · exact Or.inl rfl
theorem tC_at {f : Nat → Int32} {n lim p : Int} {x y : Int32} (h : ¬ lim ≤ p) (h0 : 0 ≤ p ∧ p < n) (hy : y.toInt = p) (e : x = f y.toNatClampNeg) : x.toInt = tC f n lim p := by
  unfold tC
  rw [if_neg h, if_pos h0, e, ← hy]
  rfl
theorem tC_end {f : Nat → Int32} {n lim p : Int} {x : Int32} (hx : x = -1) (h : (lim ≤ p ∧ n ≤ lim) ∨ (p < lim ∧ (p < 0 ∨ n ≤ p))) : x.toInt = tC f n lim p := by
  unfold tC
  have hx : x.toInt = -1 := by rw [hx]; decide
  rcases h with h | h
  · rw [if_pos h.1, if_neg (by omega), hx]
  · rw [if_neg (by omega), if_neg (by omega), hx]
theorem tC_cut {f : Nat → Int32} {n lim p : Int} {x : Int32} (hx : x = -2) (h : lim ≤ p ∧ lim < n) : x.toInt = tC f n lim p := by
  unfold tC
  have hx : x.toInt = -2 := by rw [hx]; decide
  rw [if_pos h.1, if_pos h.2, hx]
/-- as the reference sees it -/
theorem hr_tC {f g : Nat → Int32} {a l t v : Int32} {n p m : Int} (e : v = hr_F f a l t) (ef : f = g) (hl : l.toInt = n) (ht : t.toInt = m) (ha : a.toInt = p) (h0 : 0 ≤ p) :
    (p < n ∧ p < m ∧ v.toInt = tC (fun i => g i &&& 255) n m p ∧ 0 ≤ v.toInt ∧ v.toInt ≤ 255) ∨ (n ≤ p ∧ (p < m ∨ n ≤ m) ∧ v.toInt = -1 ∧ tC (fun i => g i &&& 255) n m p = -1) ∨ (m ≤ p ∧ m < n ∧ v.toInt = -1 ∧ tC (fun i => g i &&& 255) n m p = -2) := by
  subst ef
  have m1 : (-1 : Int32).toInt = -1 := by decide
  by_cases h1 : p < n ∧ p < m
  · refine Or.inl ⟨h1.1, h1.2, ?_⟩
    have e2 : v = f a.toNatClampNeg &&& 255 := by rw [e, hr_F, if_pos ⟨by omega, by omega⟩]
    have i2 : Iv v 0 255 := iv_and e2 (⟨by decide, by decide⟩ : Iv 255 255 255) (by decide)
    exact ⟨tC_at (f := fun i => f i &&& 255) (by omega) ⟨h0, h1.1⟩ ha e2, i2.1, i2.2⟩
  · have e2 : v = -1 := by rw [e, hr_F, if_neg (by omega)]
    have e3 : v.toInt = -1 := by rw [e2]; decide
    by_cases h2 : m ≤ p ∧ m < n
    · exact Or.inr (Or.inr ⟨h2.1, h2.2, e3, by unfold tC; rw [if_pos h2.1, if_pos h2.2]⟩)
    · refine Or.inr (Or.inl ⟨by omega, by omega, e3, ?_⟩)
      unfold tC
      by_cases h3 : m ≤ p
      · rw [if_pos h3, if_neg (by omega)]
      · rw [if_neg h3, if_neg (by omega)]
/-! signs as they come: byte k of an int -/
def tB (v : Int32) (k : Nat) : Int32 := nI (v.toBitVec.toNat / 2 ^ k % 256)
theorem rb_char (x : Int32) : Iv (vp_nar .char x) 0 65535 := by
  rw [vp_nar_char]
  have e : x.toUInt32.toUInt16.toUInt32.toInt32 = nI (x.toBitVec.toNat % 65536) := by
    apply Int32.toBitVec_inj.mp
    apply BitVec.eq_of_toNat_eq
    rw [pk_tn (by omega)]
    show x.toUInt32.toUInt16.toUInt32.toNat = _
    rw [UInt16.toNat_toUInt32, UInt32.toNat_toUInt16]
    rfl
  rw [e, Iv, nI_toInt (by omega)]
  omega
theorem nar_id {ty : FieldType} {x : Int32} (h : narrow ty (.int x) = .int x) : vp_nar ty x = x := by
  unfold vp_nar
  rw [h]
theorem tb_c (v s : Int32) (k : Nat) (hs : ((s.toUInt32 &&& Int32.toUInt32 31).toBitVec % 32).toNat = k) {v9 v10 v11 : Int32} (e9 : v9 = (v.toUInt32 >>> (s.toUInt32 &&& Int32.toUInt32 31)).toInt32) (e10 : v10 = v9 &&& 255) (e11 : v11 = (v10.toUInt32 % 65536).toInt32) : vp_nar .char v11 = tB v k := by
  have h10 : v10 = nI (v.toBitVec.toNat / 2 ^ k % 256) := by rw [e10, pk_and _ 8 (by decide), e9, pk_ushr v s k hs]
  have h11 : v11 = nI (v.toBitVec.toNat / 2 ^ k % 256) := by rw [e11, pk_char, h10, pk_tn (by omega), Nat.mod_eq_of_lt (by omega : v.toBitVec.toNat / 2 ^ k % 256 < 65536)]
  rw [h11, nar_id (pk_charN (by omega)).1]
  rfl
theorem bit255 (i : Nat) (h : ¬ i < 8) : (255 : Int32).toBitVec.getLsbD i = false := by
  have e : (255 : Int32).toBitVec = 255#32 := by decide
  rw [e, BitVec.getLsbD_ofNat, Nat.testBit_lt_two_pow (Nat.lt_of_lt_of_le (by decide : 255 < 2 ^ 8) (Nat.pow_le_pow_right (by decide) (by omega))), Bool.and_false]
theorem tb_r (v s : Int32) (k : Nat) (h1 : ((s &&& 31).toBitVec.smod 32).toNat = k) (h2 : ((s.toUInt32 &&& Int32.toUInt32 31).toBitVec % 32).toNat = k) (hk : k ≤ 24) {w1 w2 : Int32} (e1 : w1 = v >>> (s &&& 31)) (e2 : w2 = w1.toInt8.toInt32) : vp_nar .byte w2 &&& 255 = tB v k := by
  have e3 : tB v k = (v.toUInt32 >>> (s.toUInt32 &&& Int32.toUInt32 31)).toInt32 &&& 255 := by
    rw [pk_and _ 8 (by decide), pk_ushr v s k h2]
    rfl
  rw [e3, vp_nar_byte, e2, e1]
  apply Int32.toBitVec_inj.mp
  apply BitVec.eq_of_getLsbD_eq
  intro i hi
  rw [Int32.toBitVec_and, Int32.toBitVec_and, BitVec.getLsbD_and, BitVec.getLsbD_and]
  by_cases h : i < 8
  · have q1 : ∀ y : Int32, y.toInt8.toInt32.toBitVec.getLsbD i = y.toBitVec.getLsbD i := fun y => by
      rw [Int8.toBitVec_toInt32, BitVec.getLsbD_signExtend, if_pos h, Int32.toBitVec_toInt8, BitVec.getLsbD_signExtend, if_pos hi, decide_eq_true h, decide_eq_true hi, Bool.true_and, Bool.true_and]
    have q2 : (v >>> (s &&& 31)).toBitVec.getLsbD i = v.toBitVec.getLsbD (k + i) := by
      rw [Int32.toBitVec_shiftRight, BitVec.getLsbD_sshiftRight', h1, if_pos (by omega), decide_eq_false (by omega), Bool.not_false, Bool.true_and]
    have q3 : (v.toUInt32 >>> (s.toUInt32 &&& Int32.toUInt32 31)).toInt32.toBitVec.getLsbD i = v.toBitVec.getLsbD (k + i) := by
      show (v.toUInt32 >>> (s.toUInt32 &&& Int32.toUInt32 31)).toBitVec.getLsbD i = _
      rw [UInt32.toBitVec_shiftRight, BitVec.ushiftRight_eq', h2, BitVec.getLsbD_ushiftRight]
      rfl
    rw [q1, q1, q2, q3]
  · rw [bit255 i h, Bool.and_false, Bool.and_false]
/-- (byte) of an int 0 .. 255 -/
theorem ex_i2b {v x : Int32} (e : v = x.toInt8.toInt32) (hx : Iv x 0 255) : (x.toInt < 128 ∧ v.toInt = x.toInt) ∨ (128 ≤ x.toInt ∧ v.toInt = x.toInt - 256) := by
  obtain ⟨n, rfl, en, hn⟩ := iv_nI hx (by omega)
  have h1 := hx.2
  have hn2 : n < 256 := by omega
  rw [← en]
  have h3 : ∀ k : Fin 256, ((k.val < 128 ∧ (nI k.val).toInt8.toInt32.toInt = (k.val : Int)) ∨ (128 ≤ k.val ∧ (nI k.val).toInt8.toInt32.toInt = (k.val : Int) - 256)) := by decide +kernel
  rw [e]
  rcases h3 ⟨n, hn2⟩ with q | q
  · exact Or.inl ⟨by have := q.1; show (n : Int) < 128; have h4 : n < 128 := this; omega, q.2⟩
  · exact Or.inr ⟨by have := q.1; show 128 ≤ (n : Int); have h4 : 128 ≤ n := this; omega, q.2⟩
/-! the meadow's reader: what a text tells: 16 * columns + rows, or -1 - p -/
def md (T : Nat → Int32) (n : Int) : Nat → Int → Int → Int → Int → Int → Int
  | 0, p, _, _, _, _ => -1 - p
  | k + 1, p, x, y, w, g =>
    if ((y = 0 ∧ 0 < x) ∨ (y ≠ 0 ∧ x = w)) ∧ tC T n 76 p = -1 then 16 * x + (y + 1)
    else if ((y = 0 ∧ 0 < x) ∨ (y ≠ 0 ∧ x = w)) ∧ y < 7 ∧ tC T n 76 p = 47 then md T n k (p + 1) 0 (y + 1) x g
    else if x < w ∧ g < 6 ∧ tC T n 76 p = 43 then md T n k (p + 1) (x + 1) y w (g + 1)
    else if x < w ∧ (tC T n 76 p = 35 ∨ (48 ≤ tC T n 76 p ∧ tC T n 76 p ≤ 57)) then md T n k (p + 1) (x + 1) y w g
    else -1 - p
theorem md_congr {f g : Nat → Int32} {n : Int} (h : ∀ i : Nat, (i : Int) < n → f i = g i) : ∀ (k : Nat) (p x y w m : Int), md f n k p x y w m = md g n k p x y w m
  | 0, _, _, _, _, _ => rfl
  | k + 1, p, x, y, w, m => by
    rw [md, md, tC_congr h, md_congr h k, md_congr h k, md_congr h k]
abbrev mdM (T : Nat → Int32) (n : Int) : Int := md T n 77 0 0 0 8 0
def mdG (T : Nat → Int32) (n R p x y w g : Int) : Prop := md T n (77 - p).toNat p x y w g = R
theorem mdG_0 {T : Nat → Int32} {n : Int} {p x y w g : Int} (e : p = 0 ∧ x = 0 ∧ y = 0 ∧ w = 8 ∧ g = 0) : mdG T n (mdM T n) p x y w g := by
  obtain ⟨rfl, rfl, rfl, rfl, rfl⟩ := e
  rfl
section MD
variable {T : Nat → Int32} {n R p x y w g p' x' y' w' g' : Int}
theorem mdG_end (h : mdG T n R p x y w g) (hp : p ≤ 76) (hc : ((y = 0 ∧ 0 < x) ∨ (y ≠ 0 ∧ x = w)) ∧ tC T n 76 p = -1) : R = 16 * x + (y + 1) := by
  unfold mdG at h
  rw [show (77 - p).toNat = (77 - (p + 1)).toNat + 1 by omega, md, if_pos hc] at h
  exact h.symm
theorem mdG_row (h : mdG T n R p x y w g) (hp : p ≤ 76) (hc : ((y = 0 ∧ 0 < x) ∨ (y ≠ 0 ∧ x = w)) ∧ y < 7 ∧ tC T n 76 p = 47) (e : p' = p + 1 ∧ x' = 0 ∧ y' = y + 1 ∧ w' = x ∧ g' = g) : mdG T n R p' x' y' w' g' := by
  obtain ⟨rfl, rfl, rfl, rfl, rfl⟩ := e
  unfold mdG at h ⊢
  rw [show (77 - p).toNat = (77 - (p + 1)).toNat + 1 by omega, md, if_neg (by omega), if_pos hc] at h
  exact h
theorem mdG_gate (h : mdG T n R p x y w g) (hp : p ≤ 76) (hc : x < w ∧ g < 6 ∧ tC T n 76 p = 43) (e : p' = p + 1 ∧ x' = x + 1 ∧ y' = y ∧ w' = w ∧ g' = g + 1) : mdG T n R p' x' y' w' g' := by
  obtain ⟨rfl, rfl, rfl, rfl, rfl⟩ := e
  unfold mdG at h ⊢
  rw [show (77 - p).toNat = (77 - (p + 1)).toNat + 1 by omega, md, if_neg (by omega), if_neg (by omega), if_pos hc] at h
  exact h
theorem mdG_cell (h : mdG T n R p x y w g) (hp : p ≤ 76) (hc : x < w ∧ (tC T n 76 p = 35 ∨ (48 ≤ tC T n 76 p ∧ tC T n 76 p ≤ 57))) (e : p' = p + 1 ∧ x' = x + 1 ∧ y' = y ∧ w' = w ∧ g' = g) : mdG T n R p' x' y' w' g' := by
  obtain ⟨rfl, rfl, rfl, rfl, rfl⟩ := e
  unfold mdG at h ⊢
  rw [show (77 - p).toNat = (77 - (p + 1)).toNat + 1 by omega, md, if_neg (by omega), if_neg (by omega), if_neg (by omega), if_pos hc] at h
  exact h
theorem mdG_bad (h : mdG T n R p x y w g) (hp : p ≤ 76) (hc : ¬ (((y = 0 ∧ 0 < x) ∨ (y ≠ 0 ∧ x = w)) ∧ tC T n 76 p = -1) ∧ ¬ (((y = 0 ∧ 0 < x) ∨ (y ≠ 0 ∧ x = w)) ∧ y < 7 ∧ tC T n 76 p = 47) ∧ ¬ (x < w ∧ g < 6 ∧ tC T n 76 p = 43) ∧ ¬ (x < w ∧ (tC T n 76 p = 35 ∨ (48 ≤ tC T n 76 p ∧ tC T n 76 p ≤ 57)))) : R = -1 - p := by
  unfold mdG at h
  rw [show (77 - p).toNat = (77 - (p + 1)).toNat + 1 by omega, md, if_neg hc.1, if_neg hc.2.1, if_neg hc.2.2.1, if_neg hc.2.2.2] at h
  exact h.symm
theorem mdG_out (h : mdG T n R p x y w g) (hp : p = 77) : R = -1 - p := by
  unfold mdG at h
  rw [show (77 - p).toNat = 0 by omega, md] at h
  exact h.symm
/-- of a text that tells a meadow -/
theorem mdG_lrow (h : mdG T n R p x y w g) (hR : 0 < R) (hp : 0 ≤ p ∧ p ≤ 76) (hs : tC T n 76 p = 47) : ((y = 0 ∧ 0 < x) ∨ (y ≠ 0 ∧ x = w)) ∧ y < 7 ∧ mdG T n R (p + 1) 0 (y + 1) x g := by
  by_cases c : ((y = 0 ∧ 0 < x) ∨ (y ≠ 0 ∧ x = w)) ∧ y < 7
  · exact ⟨c.1, c.2, mdG_row h hp.2 ⟨c.1, c.2, hs⟩ ⟨rfl, rfl, rfl, rfl, rfl⟩⟩
  · have := mdG_bad h hp.2 (by omega)
    omega
theorem mdG_lcell (h : mdG T n R p x y w g) (hR : 0 < R) (hp : 0 ≤ p ∧ p ≤ 76) (hs : tC T n 76 p ≠ 47 ∧ tC T n 76 p ≠ -1) : x < w ∧ ((g < 6 ∧ tC T n 76 p = 43 ∧ mdG T n R (p + 1) (x + 1) y w (g + 1)) ∨ ((tC T n 76 p = 35 ∨ (48 ≤ tC T n 76 p ∧ tC T n 76 p ≤ 57)) ∧ mdG T n R (p + 1) (x + 1) y w g)) := by
  by_cases c : x < w ∧ g < 6 ∧ tC T n 76 p = 43
  · exact ⟨c.1, Or.inl ⟨c.2.1, c.2.2, mdG_gate h hp.2 c ⟨rfl, rfl, rfl, rfl, rfl⟩⟩⟩
  · by_cases c2 : x < w ∧ (tC T n 76 p = 35 ∨ (48 ≤ tC T n 76 p ∧ tC T n 76 p ≤ 57))
    · exact ⟨c2.1, Or.inr ⟨c2.2, mdG_cell h hp.2 c2 ⟨rfl, rfl, rfl, rfl, rfl⟩⟩⟩
    · have := mdG_bad h hp.2 (by omega)
      omega
theorem mdG_lend (h : mdG T n R p x y w g) (hR : 0 < R) (hp : 0 ≤ p ∧ p ≤ 76) (hs : tC T n 76 p = -1 ∨ 76 ≤ p) : ((y = 0 ∧ 0 < x) ∨ (y ≠ 0 ∧ x = w)) ∧ R = 16 * x + (y + 1) := by
  have hs : tC T n 76 p = -1 ∨ tC T n 76 p = -2 := hs.elim Or.inl tC_far
  by_cases c : ((y = 0 ∧ 0 < x) ∨ (y ≠ 0 ∧ x = w)) ∧ tC T n 76 p = -1
  · exact ⟨c.1, mdG_end h hp.2 c⟩
  · have := mdG_bad h hp.2 (by omega)
    omega
/-- as the reference goes: the width is the first row's, once that is there -/
def mdH (T : Nat → Int32) (n R p x y w g : Int) : Prop := mdG T n R p x y (if y = 0 then 8 else w) g
theorem mh_w {y w : Int} : (y = 0 ∧ (if y = 0 then 8 else w) = 8) ∨ (y ≠ 0 ∧ (if y = 0 then 8 else w) = w) := by
  by_cases h : y = 0
  · exact Or.inl ⟨h, if_pos h⟩
  · exact Or.inr ⟨h, if_neg h⟩
theorem mh_cell (h : mdH T n R p x y w g) (hp : p ≤ 76) (hc : ((y = 0 ∧ x < 8) ∨ (y ≠ 0 ∧ x < w)) ∧ (tC T n 76 p = 35 ∨ (48 ≤ tC T n 76 p ∧ tC T n 76 p ≤ 57) ∨ (tC T n 76 p = 43 ∧ g < 6))) (e : p' = p + 1 ∧ x' = x + 1 ∧ y' = y ∧ w' = w ∧ ((tC T n 76 p = 43 ∧ g' = g + 1) ∨ (tC T n 76 p ≠ 43 ∧ g' = g))) : mdH T n R p' x' y' w' g' := by
  obtain ⟨rfl, rfl, rfl, rfl, e⟩ := e
  unfold mdH at h ⊢
  have q := mh_w (y := y') (w := w')
  generalize (if y' = 0 then 8 else w') = v at h q ⊢
  rcases e with e | e
  · exact mdG_gate h hp (by omega) ⟨rfl, rfl, rfl, rfl, e.2⟩
  · exact mdG_cell h hp (by omega) ⟨rfl, rfl, rfl, rfl, e.2⟩
theorem mh_row (h : mdH T n R p x y w g) (hp : p ≤ 76) (hc : ((y = 0 ∧ 0 < x) ∨ (y ≠ 0 ∧ x = w)) ∧ 0 ≤ y ∧ y < 7 ∧ tC T n 76 p = 47) (e : p' = p + 1 ∧ x' = 0 ∧ y' = y + 1 ∧ w' = x ∧ g' = g) : mdH T n R p' x' y' w' g' := by
  obtain ⟨rfl, rfl, rfl, rfl, rfl⟩ := e
  unfold mdH at h ⊢
  have q := mh_w (y := y) (w := w)
  rw [if_neg (by omega)]
  generalize (if y = 0 then 8 else w) = v at h q
  exact mdG_row h hp (by omega) ⟨rfl, rfl, rfl, rfl, rfl⟩
theorem mh_bad (h : mdH T n R p x y w g) (hp : p ≤ 76) (hc : ¬ (((y = 0 ∧ 0 < x) ∨ (y ≠ 0 ∧ x = w)) ∧ tC T n 76 p = -1) ∧ ¬ (((y = 0 ∧ 0 < x) ∨ (y ≠ 0 ∧ x = w)) ∧ y < 7 ∧ tC T n 76 p = 47) ∧ ¬ (((y = 0 ∧ x < 8) ∨ (y ≠ 0 ∧ x < w)) ∧ g < 6 ∧ tC T n 76 p = 43) ∧ ¬ (((y = 0 ∧ x < 8) ∨ (y ≠ 0 ∧ x < w)) ∧ (tC T n 76 p = 35 ∨ (48 ≤ tC T n 76 p ∧ tC T n 76 p ≤ 57)))) : R = -1 - p := by
  unfold mdH at h
  have q := mh_w (y := y) (w := w)
  generalize (if y = 0 then 8 else w) = v at h q
  exact mdG_bad h hp (by omega)
theorem mh_end (h : mdH T n R p x y w g) (hp : p ≤ 76) (hc : ((y = 0 ∧ 0 < x) ∨ (y ≠ 0 ∧ x = w)) ∧ tC T n 76 p = -1) : R = 16 * x + (y + 1) := by
  unfold mdH at h
  have q := mh_w (y := y) (w := w)
  generalize (if y = 0 then 8 else w) = v at h q
  exact mdG_end h hp (by omega)
theorem mh_0 (e : p = 0 ∧ x = 0 ∧ y = 0 ∧ g = 0) : mdH T n (mdM T n) p x y w g := by
  unfold mdH
  rw [if_pos e.2.2.1]
  exact mdG_0 ⟨e.1, e.2.1, e.2.2.1, rfl, e.2.2.2⟩
end MD
/-- what meadow() answers -/
def mdP (R r : Int) : Prop := (R < 0 ∧ r = R) ∨ ∃ c t : Int, 16 * c + t = R ∧ 1 ≤ t ∧ t ≤ 8 ∧ 1 ≤ c ∧ r = c * t
theorem mdP_u {R r r' : Int} (h : mdP R r) (h' : mdP R r') : r = r' := by
  rcases h with h | ⟨c, t, h1, h2, h3, h4, h5⟩ <;> rcases h' with h' | ⟨c', t', h1', h2', h3', h4', h5'⟩
  · omega
  · omega
  · omega
  · have e1 : c = c' := by omega
    have e2 : t = t' := by omega
    rw [h5, h5', e1, e2]
theorem ex_i2c {v x : Int32} (e : v = (x.toUInt32 % 65536).toInt32) (hx : Iv x 0 65535) : v.toInt = x.toInt := by
  obtain ⟨n, rfl, en, hn⟩ := iv_nI hx (by omega)
  have h1 := hx.2
  have hn2 : n < 65536 := by omega
  rw [e, pk_char, pk_tn (by omega), Nat.mod_eq_of_lt hn2]
theorem ex_max {v x y : Int32} (e : v = if x < y then y else x) : (x.toInt < y.toInt ∧ v.toInt = y.toInt) ∨ (y.toInt ≤ x.toInt ∧ v.toInt = x.toInt) := by
  rw [e]
  by_cases q : x < y
  · rw [if_pos q]; exact Or.inl ⟨iv_lt.mp q, rfl⟩
  · rw [if_neg q]; exact Or.inr ⟨iv_le.mp (iv_nlt q), rfl⟩
section MD2
variable {T : Nat → Int32} {n R p x y w g p' x' y' w' g' : Int}
theorem mh_conv (h : mdH T n R p x y w g) (e : p' = p ∧ x' = x ∧ y' = y ∧ (y = 0 ∨ w' = w) ∧ g' = g) : mdH T n R p' x' y' w' g' := by
  obtain ⟨rfl, rfl, rfl, e, rfl⟩ := e
  unfold mdH at h ⊢
  rcases e with e | e
  · rw [if_pos e] at h ⊢; exact h
  · rw [e]; exact h
theorem mh_lrow (h : mdH T n R p x y w g) (hR : 0 < R) (hp : 0 ≤ p ∧ p ≤ 76) (hy : 0 ≤ y) (hs : tC T n 76 p = 47) : ((y = 0 ∧ 0 < x) ∨ (y ≠ 0 ∧ x = w)) ∧ y < 7 ∧ mdH T n R (p + 1) 0 (y + 1) x g := by
  unfold mdH at h ⊢
  have q := mh_w (y := y) (w := w)
  rw [if_neg (by omega : ¬ y + 1 = 0)]
  generalize (if y = 0 then 8 else w) = v at h q
  obtain ⟨h1, h2, h3⟩ := mdG_lrow h hR hp hs
  exact ⟨by omega, h2, h3⟩
theorem mh_lcell (h : mdH T n R p x y w g) (hR : 0 < R) (hp : 0 ≤ p ∧ p ≤ 76) (hs : tC T n 76 p ≠ 47 ∧ tC T n 76 p ≠ -1) : ((y = 0 ∧ x < 8) ∨ (y ≠ 0 ∧ x < w)) ∧ ((g < 6 ∧ tC T n 76 p = 43 ∧ mdH T n R (p + 1) (x + 1) y w (g + 1)) ∨ ((tC T n 76 p = 35 ∨ (48 ≤ tC T n 76 p ∧ tC T n 76 p ≤ 57)) ∧ mdH T n R (p + 1) (x + 1) y w g)) := by
  unfold mdH at h ⊢
  have q := mh_w (y := y) (w := w)
  generalize (if y = 0 then 8 else w) = v at h q ⊢
  obtain ⟨h1, h2⟩ := mdG_lcell h hR hp hs
  exact ⟨by omega, h2⟩
theorem mh_lend (h : mdH T n R p x y w g) (hR : 0 < R) (hp : 0 ≤ p ∧ p ≤ 76) (hs : tC T n 76 p = -1 ∨ 76 ≤ p) : ((y = 0 ∧ 0 < x) ∨ (y ≠ 0 ∧ x = w)) ∧ R = 16 * x + (y + 1) := by
  unfold mdH at h
  have q := mh_w (y := y) (w := w)
  generalize (if y = 0 then 8 else w) = v at h q
  obtain ⟨h1, h2⟩ := mdG_lend h hR hp hs
  exact ⟨by omega, h2⟩
end MD2
/-! four signs come -/
def tApp (f g : Nat → Int32) (n : Int) (v : Int32) : Prop := (∀ i : Nat, (i : Int) < n → g i = f i) ∧ g n.toNat = tB v 24 ∧ g (n.toNat + 1) = tB v 16 ∧ g (n.toNat + 2) = tB v 8 ∧ g (n.toNat + 3) = tB v 0
theorem app4 {f f2 f3 f4 g1 g2 g3 g4 : Nat → Int32} {k1 k2 k3 k4 x1 x2 x3 x4 : Int32} {n : Int} (e1 : g1 = upd f k1.toNatClampNeg x1) (q1 : f2 = g1) (e2 : g2 = upd f2 k2.toNatClampNeg x2) (q2 : f3 = g2) (e3 : g3 = upd f3 k3.toNatClampNeg x3) (q3 : f4 = g3) (e4 : g4 = upd f4 k4.toNatClampNeg x4) (h : 0 ≤ n ∧ k1.toInt = n ∧ k2.toInt = n + 1 ∧ k3.toInt = n + 2 ∧ k4.toInt = n + 3) :
    (∀ i : Nat, (i : Int) < n → g4 i = f i) ∧ g4 n.toNat = x1 ∧ g4 (n.toNat + 1) = x2 ∧ g4 (n.toNat + 2) = x3 ∧ g4 (n.toNat + 3) = x4 := by
  subst q1 q2 q3
  have c1 : k1.toNatClampNeg = n.toNat := by rw [← h.2.1]; rfl
  have c2 : k2.toNatClampNeg = n.toNat + 1 := by show k2.toInt.toNat = _; omega
  have c3 : k3.toNatClampNeg = n.toNat + 2 := by show k3.toInt.toNat = _; omega
  have c4 : k4.toNatClampNeg = n.toNat + 3 := by show k4.toInt.toNat = _; omega
  rw [c1] at e1; rw [c2] at e2; rw [c3] at e3; rw [c4] at e4
  refine ⟨fun i hi => ?_, ?_, ?_, ?_, ?_⟩
  · rw [e4, pk_un (by omega), e3, pk_un (by omega), e2, pk_un (by omega), e1, pk_un (by omega)]
  · rw [e4, pk_un (by omega), e3, pk_un (by omega), e2, pk_un (by omega), e1, pk_us]
  · rw [e4, pk_un (by omega), e3, pk_un (by omega), e2, pk_us]
  · rw [e4, pk_un (by omega), e3, pk_us]
  · rw [e4, pk_us]
def tAppR (f g : Nat → Int32) (n : Int) (v : Int32) : Prop := (∀ i : Nat, (i : Int) < n → g i = f i) ∧ g n.toNat &&& 255 = tB v 24 ∧ g (n.toNat + 1) &&& 255 = tB v 16 ∧ g (n.toNat + 2) &&& 255 = tB v 8 ∧ g (n.toNat + 3) &&& 255 = tB v 0
theorem tApp_of {f g : Nat → Int32} {n : Int} {v x1 x2 x3 x4 : Int32} (h : (∀ i : Nat, (i : Int) < n → g i = f i) ∧ g n.toNat = x1 ∧ g (n.toNat + 1) = x2 ∧ g (n.toNat + 2) = x3 ∧ g (n.toNat + 3) = x4) (h1 : x1 = tB v 24) (h2 : x2 = tB v 16) (h3 : x3 = tB v 8) (h4 : x4 = tB v 0) : tApp f g n v := ⟨h.1, h.2.1.trans h1, h.2.2.1.trans h2, h.2.2.2.1.trans h3, h.2.2.2.2.trans h4⟩
theorem tAppR_of {f g : Nat → Int32} {n : Int} {v x1 x2 x3 x4 : Int32} (h : (∀ i : Nat, (i : Int) < n → g i = f i) ∧ g n.toNat = x1 ∧ g (n.toNat + 1) = x2 ∧ g (n.toNat + 2) = x3 ∧ g (n.toNat + 3) = x4) (h1 : x1 &&& 255 = tB v 24) (h2 : x2 &&& 255 = tB v 16) (h3 : x3 &&& 255 = tB v 8) (h4 : x4 &&& 255 = tB v 0) : tAppR f g n v := ⟨h.1, by rw [h.2.1]; exact h1, by rw [h.2.2.1]; exact h2, by rw [h.2.2.2.1]; exact h3, by rw [h.2.2.2.2]; exact h4⟩
/-- both texts alike -/
def tEq (f g : Nat → Int32) (n : Int) : Prop := ∀ i : Nat, (i : Int) < n → f i = g i &&& 255
theorem tEq_sign {f f' g g' : Nat → Int32} {n n' : Int} {v : Int32} (h : tEq f g n) (h0 : 0 ≤ n) (h1 : tApp f f' n v) (h2 : tAppR g g' n v) (e : n' = n + 4) : tEq f' g' n' := by
  subst e
  intro i hi
  by_cases c : (i : Int) < n
  · rw [h1.1 i c, h2.1 i c]; exact h i c
  · rcases (show i = n.toNat ∨ i = n.toNat + 1 ∨ i = n.toNat + 2 ∨ i = n.toNat + 3 by omega) with q | q | q | q <;> subst q
    · rw [h1.2.1, h2.2.1]
    · rw [h1.2.2.1, h2.2.2.1]
    · rw [h1.2.2.2.1, h2.2.2.2.1]
    · rw [h1.2.2.2.2, h2.2.2.2.2]
theorem tEq_le {f g f' g' : Nat → Int32} {n n' : Int} (h : tEq f g n) (hf : f' = f) (hg : g' = g) (e : n' ≤ n) : tEq f' g' n' := by
  subst hf hg
  exact fun i hi => h i (by omega)
theorem tEq_0 {f g : Nat → Int32} {n : Int} (e : n ≤ 0) : tEq f g n := fun i hi => absurd hi (by omega)
theorem md_tEq {f g : Nat → Int32} {n n' : Int} (h : tEq f g n) (e : n' = n) : mdM f n = mdM (fun i => g i &&& 255) n' := by
  subst e
  exact md_congr h _ _ _ _ _ _
