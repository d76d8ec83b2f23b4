/-! ===== sets of cells as longs ===== -/
theorem lg_ne {v : Int32} {x y : Int64} (e : v = lg_cmp x y) (h : ¬ v = 0) : x ≠ y := by
  intro q
  subst q
  apply h
  rw [e, lg_cmp, if_neg (fun q => by have := Int64.lt_iff_toInt_lt.mp q; omega), if_pos rfl]
theorem lg_eq {v : Int32} {x y : Int64} (e : v = lg_cmp x y) (h : v = 0) : x = y := by
  rw [e, lg_cmp] at h
  by_cases h1 : x > y
  · rw [if_pos h1] at h; exact absurd h (by decide)
  · rw [if_neg h1] at h
    by_cases h2 : x = y
    · exact h2
    · rw [if_neg h2] at h; exact absurd h (by decide)
abbrev lgN (x : Int64) : Nat := x.toBitVec.toNat
theorem lgN_lt (x : Int64) : lgN x < 2 ^ 64 := x.toBitVec.isLt
theorem lg_bv {x y : Int64} (h : x.toBitVec = y.toBitVec) : x = y := Int64.toBitVec_inj.mp h
theorem lg_or_le {a b : Int64} (h : a ||| b = b) : lgN a ≤ lgN b := by
  have e : a.toBitVec ||| b.toBitVec = b.toBitVec := by rw [← Int64.toBitVec_or, h]
  have e2 : a.toBitVec.toNat ||| b.toBitVec.toNat = b.toBitVec.toNat := by rw [← BitVec.toNat_or, e]
  have := Nat.left_le_or (n := a.toBitVec.toNat) (m := b.toBitVec.toNat)
  show a.toBitVec.toNat ≤ b.toBitVec.toNat
  omega
theorem lg_or_lt {a b : Int64} (h : a ||| b = b) (hne : a ≠ b) : lgN a < lgN b := by
  have h1 := lg_or_le h
  rcases Nat.lt_or_eq_of_le h1 with q | q
  · exact q
  · exact absurd (lg_bv (BitVec.eq_of_toNat_eq q)) hne
theorem lg_or_self (a b : Int64) : a ||| (a ||| b) = a ||| b := by
  apply lg_bv
  rw [Int64.toBitVec_or, Int64.toBitVec_or, ← BitVec.or_assoc, BitVec.or_self]
theorem lg_zero_or (a : Int64) : (0 : Int64) ||| a = a := by
  apply lg_bv
  rw [Int64.toBitVec_or]
  exact BitVec.zero_or
theorem lg_zero_and (a : Int64) : (0 : Int64) &&& a = 0 := by
  apply lg_bv
  rw [Int64.toBitVec_and]
  exact BitVec.zero_and
theorem lg_get {x y : Int64} (h : ∀ i, i < 64 → x.toBitVec.getLsbD i = y.toBitVec.getLsbD i) : x = y := lg_bv (BitVec.eq_of_getLsbD_eq (fun i hi => h i hi))
theorem lg_m1 (i : Nat) (h : i < 64) : (-1 : Int64).toBitVec.getLsbD i = true := by
  have : (-1 : Int64).toBitVec = BitVec.allOnes 64 := by decide
  rw [this, BitVec.getLsbD_allOnes]
  simpa using h
/-- the lowest bit of what isn't 0 -/
theorem lg_low {x : Int64} (h : x &&& -x = 0) : x = 0 := by
  apply lg_bv
  have e : x.toBitVec &&& -x.toBitVec = 0#64 := by
    have := congrArg Int64.toBitVec h
    rw [Int64.toBitVec_and, Int64.toBitVec_neg] at this
    exact this
  have e2 := BitVec.add_eq_or_of_and_eq_zero _ _ e
  rw [BitVec.add_right_neg] at e2
  have e3 : x.toBitVec = 0#64 := by
    apply BitVec.eq_of_getLsbD_eq
    intro i hi
    have := congrArg (fun z => BitVec.getLsbD z i) e2
    simp only [BitVec.getLsbD_or, BitVec.getLsbD_zero] at this
    have h2 := Bool.or_eq_false_iff.mp this.symm
    rw [h2.1, BitVec.getLsbD_zero]
  exact e3
/-- what is left of the road behind a piece is less -/
theorem lg_rest {l p l2 w b n : Int64} (hl : l ≠ 0) (hn : n = -l) (hb : b = l &&& n) (hp : (b &&& l) ||| p = p) (hw : w = p ^^^ -1) (h2 : l2 = l &&& w) : lgN l2 < lgN l := by
  refine lg_or_lt ?_ ?_
  · rw [h2]
    apply lg_get
    intro i hi
    rw [Int64.toBitVec_or, Int64.toBitVec_and, BitVec.getLsbD_or, BitVec.getLsbD_and]
    cases l.toBitVec.getLsbD i <;> simp
  · intro q
    apply hl
    apply lg_low
    apply lg_get
    intro i hi
    have e1 := congrArg (fun z => z.toBitVec.getLsbD i) hp
    have e2 := congrArg (fun z => z.toBitVec.getLsbD i) (h2.symm.trans q)
    rw [hw] at e2
    rw [hb, hn] at e1
    simp only [Int64.toBitVec_or, Int64.toBitVec_and, Int64.toBitVec_xor, BitVec.getLsbD_or, BitVec.getLsbD_and, BitVec.getLsbD_xor, lg_m1 i hi] at e1 e2
    rw [Int64.toBitVec_and, BitVec.getLsbD_and]
    have e3 : (0 : Int64).toBitVec.getLsbD i = false := by
      have : (0 : Int64).toBitVec = 0#64 := by decide
      rw [this, BitVec.getLsbD_zero]
    rw [e3]
    cases h3 : l.toBitVec.getLsbD i
    · rfl
    · rw [h3] at e1 e2
      cases h4 : (-l).toBitVec.getLsbD i
      · rfl
      · rw [h4] at e1
        cases h5 : p.toBitVec.getLsbD i
        · rw [h5] at e1; exact absurd e1 (by decide)
        · rw [h5] at e2; exact absurd e2 (by decide)
/-- the spread of a set holds it -/
theorem lg_hold {a b c d : Int64} (h : a ||| b = b) (e : c = b ||| d) : a ||| c = c := by
  rw [e, ← lg_or_self b d]
  apply lg_bv
  have h' := congrArg Int64.toBitVec h
  rw [Int64.toBitVec_or] at h'
  simp only [Int64.toBitVec_or, ← BitVec.or_assoc, h']
theorem lg_or_comm (a b : Int64) : a ||| b = b ||| a := by
  apply lg_bv
  rw [Int64.toBitVec_or, Int64.toBitVec_or, BitVec.or_comm]
theorem lg_or_rf (a : Int64) : a ||| a = a := by
  apply lg_bv
  rw [Int64.toBitVec_or, BitVec.or_self]
/-- what is new isn't among what was seen -/
theorem lg_new {s w b x : Int64} (hw : w = s ^^^ -1) (hb : b = x &&& w) : s &&& b = 0 := by
  apply lg_get
  intro i hi
  have e3 : (0 : Int64).toBitVec.getLsbD i = false := by
    have : (0 : Int64).toBitVec = 0#64 := by decide
    rw [this, BitVec.getLsbD_zero]
  rw [hb, hw, e3]
  simp only [Int64.toBitVec_and, Int64.toBitVec_xor, BitVec.getLsbD_and, BitVec.getLsbD_xor, lg_m1 i hi]
  cases s.toBitVec.getLsbD i <;> simp
theorem lg_seen {s b s2 : Int64} (hb : b ≠ 0) (h : s &&& b = 0) (e : s2 = s ||| b) : lgN s < lgN s2 := by
  refine lg_or_lt ?_ ?_
  · rw [e]; exact lg_or_self s b
  · intro q
    apply hb
    apply lg_get
    intro i hi
    have e1 := congrArg (fun z => z.toBitVec.getLsbD i) h
    have e2 := congrArg (fun z => z.toBitVec.getLsbD i) (q.trans e)
    have e3 : (0 : Int64).toBitVec.getLsbD i = false := by
      have : (0 : Int64).toBitVec = 0#64 := by decide
      rw [this, BitVec.getLsbD_zero]
    simp only [Int64.toBitVec_or, Int64.toBitVec_and, BitVec.getLsbD_or, BitVec.getLsbD_and] at e1 e2
    rw [e3] at e1 ⊢
    revert e1 e2
    cases s.toBitVec.getLsbD i <;> cases b.toBitVec.getLsbD i <;> simp
theorem iv_ushr16 {v x : Int32} (e : v = (x.toUInt32 >>> (Int32.toUInt32 16 &&& Int32.toUInt32 31)).toInt32) : Iv v 0 65535 := by
  have h : (x.toUInt32 >>> (Int32.toUInt32 16 &&& Int32.toUInt32 31)).toNat = x.toUInt32.toNat / 65536 := by
    rw [UInt32.toNat_shiftRight, show (Int32.toUInt32 16 &&& Int32.toUInt32 31).toNat % 32 = 16 by decide, Nat.shiftRight_eq_div_pow]
  have h2 : x.toUInt32.toNat < 2 ^ 32 := x.toUInt32.toBitVec.isLt
  have h3 : v.toInt = ((x.toUInt32.toNat / 65536 : Nat) : Int) := by
    rw [e, ← h]
    show (x.toUInt32 >>> (Int32.toUInt32 16 &&& Int32.toUInt32 31)).toBitVec.toInt = _
    rw [BitVec.toInt_eq_toNat_of_lt (by have : (x.toUInt32 >>> (Int32.toUInt32 16 &&& Int32.toUInt32 31)).toBitVec.toNat = x.toUInt32.toNat / 65536 := h; omega)]
    rfl
  rw [Iv, h3]
  omega
/-- the row of what is drawn -/
theorem dr_row {v x co ro pr q : Int32} (e : v = x - x / pr * pr) {a b : Int} (hx : Iv x a b) (h0 : 0 ≤ a) (hco : Iv co 1 8) (hro : Iv ro 1 8) (ep : pr = co * ro) (eq : q = v / co) (hv : Iv v 0 63) : Iv q 0 7 := by
  have e1 := ex_rem e
  have e2 := ex_mul ep hco hro (by decide)
  have e3 := ex_div eq hv hco (by decide)
  have hp : 0 < pr.toInt := by rw [e2]; exact Int.mul_pos (by have := hco.1; omega) (by have := hro.1; omega)
  rw [Int.tmod_eq_emod_of_nonneg (by have := hx.1; omega)] at e1
  have h9 := Int.emod_lt_of_pos x.toInt hp
  have h10 : v.toInt < co.toInt * 8 := by
    rw [e1]
    refine Int.lt_of_lt_of_le h9 ?_
    rw [e2]
    exact Int.mul_le_mul_of_nonneg_left hro.2 (by have := hco.1; omega)
  have h11 : v.toInt / co.toInt < 8 := Int.ediv_lt_of_lt_mul (by have := hco.1; omega) (by rw [Int.mul_comm]; exact h10)
  exact ⟨by rw [e3]; exact Int.ediv_nonneg hv.1 (by have := hco.1; omega), by omega⟩
/-! ===== the breadth first search of the reference ===== -/
abbrev lb (x : Int64) (i : Nat) : Bool := x.toBitVec.getLsbD i
theorem lb_lt {x : Int64} {i : Nat} (h : lb x i = true) : i < 64 := BitVec.lt_of_getLsbD h
theorem lb_or (x y : Int64) (i : Nat) : lb (x ||| y) i = (lb x i || lb y i) := by show (x ||| y).toBitVec.getLsbD i = _; rw [Int64.toBitVec_or, BitVec.getLsbD_or]
theorem lb_and (x y : Int64) (i : Nat) : lb (x &&& y) i = (lb x i && lb y i) := by show (x &&& y).toBitVec.getLsbD i = _; rw [Int64.toBitVec_and, BitVec.getLsbD_and]
theorem lb_0 (i : Nat) : lb 0 i = false := by
  have : (0 : Int64).toBitVec = 0#64 := by decide
  show (0 : Int64).toBitVec.getLsbD i = false
  rw [this, BitVec.getLsbD_zero]
theorem lb_shl (x : Int64) (k : Int32) (n : Nat) (h : ((k.toInt64 &&& 63).toBitVec.smod 64).toNat = n) (i : Nat) : lb (x <<< (k.toInt64 &&& 63)) i = (decide (i < 64) && !decide (i < n) && lb x (i - n)) := by
  show (x <<< (k.toInt64 &&& 63)).toBitVec.getLsbD i = _
  rw [Int64.toBitVec_shiftLeft, BitVec.shiftLeft_eq', h, BitVec.getLsbD_shiftLeft]
theorem lb_ushr (x : Int64) (k : Int32) (n : Nat) (h : ((k.toInt64.toUInt64 &&& Int64.toUInt64 63).toBitVec % 64).toNat = n) (i : Nat) : lb (x.toUInt64 >>> (k.toInt64.toUInt64 &&& Int64.toUInt64 63)).toInt64 i = lb x (n + i) := by
  show (x.toUInt64 >>> (k.toInt64.toUInt64 &&& Int64.toUInt64 63)).toBitVec.getLsbD i = _
  rw [UInt64.toBitVec_shiftRight, BitVec.ushiftRight_eq', h, BitVec.getLsbD_ushiftRight]
  rfl
/-- the cells beside a set of cells, as it is reckoned -/
def bsd (x : Int64) : Int64 := ((x <<< ((8 : Int32).toInt64 &&& 63) ||| (x.toUInt64 >>> ((8 : Int32).toInt64.toUInt64 &&& Int64.toUInt64 63)).toInt64) ||| (x &&& 9187201950435737471) <<< ((1 : Int32).toInt64 &&& 63)) ||| ((x &&& (-72340172838076674)).toUInt64 >>> ((1 : Int32).toInt64.toUInt64 &&& Int64.toUInt64 63)).toInt64
theorem lb_bsd (x : Int64) (i : Nat) : lb (bsd x) i = ((((decide (i < 64) && !decide (i < 8) && lb x (i - 8)) || lb x (8 + i)) || (decide (i < 64) && !decide (i < 1) && (lb x (i - 1) && lb 9187201950435737471 (i - 1)))) || (lb x (1 + i) && lb (-72340172838076674) (1 + i))) := by
  rw [bsd, lb_or, lb_or, lb_or, lb_shl x 8 8 (by decide), lb_ushr x 8 8 (by decide), lb_shl _ 1 1 (by decide), lb_ushr _ 1 1 (by decide), lb_and, lb_and]
abbrev sg1 (c : Nat) : Int64 := (1 : Int64) <<< ((Int32.ofNat c).toInt64 &&& 63)
theorem aj1 : ∀ c : Fin 64, 8 ≤ c.val → lb (bsd (sg1 c.val)) (c.val - 8) = true := by decide +kernel
theorem aj2 : ∀ c : Fin 64, 8 + c.val < 64 → lb (bsd (sg1 c.val)) (8 + c.val) = true := by decide +kernel
theorem aj3 : ∀ c : Fin 64, 1 ≤ c.val → lb 9187201950435737471 (c.val - 1) = true → lb (bsd (sg1 c.val)) (c.val - 1) = true := by decide +kernel
theorem aj4 : ∀ c : Fin 64, 1 + c.val < 64 → lb (-72340172838076674) (1 + c.val) = true → lb (bsd (sg1 c.val)) (1 + c.val) = true := by decide +kernel
theorem adj_of {x : Int64} {c : Nat} (hc : c < 64) (h : lb (bsd x) c = true) : ∃ i, i < 64 ∧ lb x i = true ∧ lb (bsd (sg1 c)) i = true := by
  rw [lb_bsd] at h
  simp only [Bool.or_eq_true, Bool.and_eq_true, Bool.not_eq_true', decide_eq_true_eq, decide_eq_false_iff_not] at h
  rcases h with ((h | h) | h) | h
  · exact ⟨c - 8, by omega, h.2, aj1 ⟨c, hc⟩ (by show 8 ≤ c; omega)⟩
  · exact ⟨8 + c, lb_lt h, h, aj2 ⟨c, hc⟩ (lb_lt h)⟩
  · exact ⟨c - 1, by omega, h.2.1, aj3 ⟨c, hc⟩ (by show 1 ≤ c; omega) h.2.2⟩
  · exact ⟨1 + c, lb_lt h.1, h.1, aj4 ⟨c, hc⟩ (lb_lt h.1) h.2⟩
/-- how many bits -/
def cn (x : Int64) : Nat → Nat
  | 0 => 0
  | k + 1 => cn x k + (if lb x k = true then 1 else 0)
theorem cn_le (x : Int64) : ∀ k, cn x k ≤ k
  | 0 => Nat.le_refl 0
  | k + 1 => by have := cn_le x k; rw [cn]; split <;> omega
theorem cn_mono {x y : Int64} : ∀ k, (∀ i, i < k → lb x i = true → lb y i = true) → cn x k ≤ cn y k
  | 0, _ => Nat.le_refl 0
  | k + 1, h => by
    have h1 := cn_mono k (fun i hi => h i (by omega))
    rw [cn, cn]
    by_cases q : lb x k = true
    · rw [if_pos q, if_pos (h k (by omega) q)]; omega
    · rw [if_neg q]; omega
theorem cn_lt {x y : Int64} : ∀ k, (∀ i, i < k → lb x i = true → lb y i = true) → (∃ i, i < k ∧ lb y i = true ∧ lb x i = false) → cn x k < cn y k
  | 0, _, ⟨i, hi, _⟩ => absurd hi (Nat.not_lt_zero i)
  | k + 1, h, ⟨i, hi, h1, h2⟩ => by
    rw [cn, cn]
    by_cases q : i = k
    · subst q
      have h3 := cn_mono i (fun j hj => h j (by omega))
      rw [h1, h2]
      simp only [if_true, Bool.false_eq_true, if_false]
      omega
    · have h3 := cn_lt k (fun j hj => h j (by omega)) ⟨i, by omega, h1, h2⟩
      by_cases q2 : lb x k = true
      · rw [if_pos q2, if_pos (h k (by omega) q2)]; omega
      · rw [if_neg q2]; omega
theorem lb_ex {x : Int64} (h : x ≠ 0) : ∃ i, i < 64 ∧ lb x i = true := by
  rcases Classical.em (∃ i, i < 64 ∧ lb x i = true) with q | q
  · exact q
  · exact absurd (lg_get (fun i hi => by
      have : lb x i = false := by
        cases h2 : lb x i
        · rfl
        · exact absurd ⟨i, hi, h2⟩ q
      show lb x i = lb 0 i
      rw [this, lb_0])) h
/-- a reckoned distance has a cell beside it that is one less -/
def fa_c (F : Nat → Int32) (S : Int64) (c : Nat) (v : Int32) : Prop := v = 0 ∨ ∃ i, i < 64 ∧ lb S i = true ∧ lb (bsd (sg1 c)) i = true ∧ F i = v - 1
def bf (F : Nat → Int32) (n : Int32) (bits seen : Int64) : Prop :=
  (∀ c, c < 64 → lb seen c = false → F c = 100000000) ∧ (∀ c, c < 64 → lb seen c = true → (0 ≤ (F c).toInt ∧ (F c).toInt < 64) ∧ fa_c F seen c (F c)) ∧ (∀ c, c < 64 → lb bits c = true → fa_c F seen c n) ∧ 0 ≤ n.toInt ∧ n.toInt ≤ (cn seen 64 : Int)
def bg (F : Nat → Int32) (n : Int32) (bits seen : Int64) (k : Nat) : Prop :=
  (∀ c, c < 64 → lb seen c = false → (lb bits c = true → ¬ c < k) → F c = 100000000) ∧ (∀ c, c < 64 → lb seen c = true → (0 ≤ (F c).toInt ∧ (F c).toInt < 64) ∧ fa_c F seen c (F c)) ∧ (∀ c, c < 64 → lb bits c = true → fa_c F seen c n) ∧ (∀ c, c < 64 → c < k → lb bits c = true → F c = n) ∧ 0 ≤ n.toInt ∧ n.toInt ≤ (cn seen 64 : Int)
def fa (F : Nat → Int32) : Prop := ∀ c, c < 64 → F c = 100000000 ∨ ((0 ≤ (F c).toInt ∧ (F c).toInt < 64) ∧ (F c = 0 ∨ ∃ i, i < 64 ∧ lb (bsd (sg1 c)) i = true ∧ F i = F c - 1))
theorem bf_0 {F : Nat → Int32} {b : Int64} (h : ∀ c, c < 64 → F c = 100000000) : bf F 0 b 0 :=
  ⟨fun c hc _ => h c hc, fun c hc q => (by rw [lb_0] at q; cases q), fun _ _ _ => Or.inl rfl, by decide, by have : (0 : Int32).toInt = 0 := by decide
                                                                                                            omega⟩
theorem bg_0 {F : Nat → Int32} {n : Int32} {b s : Int64} (h : bf F n b s) : bg F n b s 0 :=
  ⟨fun c hc q _ => h.1 c hc q, h.2.1, h.2.2.1, fun c _ q => absurd q (Nat.not_lt_zero c), h.2.2.2⟩
theorem lb_dis {s b : Int64} (h : s &&& b = 0) {i : Nat} (h1 : lb s i = true) (h2 : lb b i = true) : False := by
  have h3 := lb_and s b i
  rw [h, lb_0, h1, h2] at h3
  cases h3
theorem bg_set {F : Nat → Int32} {n : Int32} {b s : Int64} {k : Nat} (hd : s &&& b = 0) (h : bg F n b s k) (hk : k < 64) (hb : lb b k = true) : bg (upd F k n) n b s (k + 1) := by
  obtain ⟨h1, h2, h3, h4, h5⟩ := h
  have hns : ∀ i, lb s i = true → i ≠ k := fun i hi q => by subst q; exact lb_dis hd hi hb
  have hfa : ∀ c v, fa_c F s c v → fa_c (upd F k n) s c v := fun c v q => by
    rcases q with q | ⟨i, q1, q2, q3, q4⟩
    · exact Or.inl q
    · exact Or.inr ⟨i, q1, q2, q3, by rw [pk_un (hns i q2)]; exact q4⟩
  refine ⟨fun c hc q1 q2 => ?_, fun c hc q => ?_, fun c hc q => hfa c n (h3 c hc q), fun c hc q1 q2 => ?_, h5⟩
  · have hck : c ≠ k := fun q => by subst q; exact absurd (Nat.lt_succ_self c) (q2 hb)
    rw [pk_un hck]
    exact h1 c hc q1 (fun q3 q4 => q2 q3 (by omega))
  · rw [pk_un (hns c q)]
    exact ⟨(h2 c hc q).1, hfa c _ (h2 c hc q).2⟩
  · by_cases hck : c = k
    · subst hck; rw [pk_us]
    · rw [pk_un hck]; exact h4 c hc (by omega) q2
theorem bg_skip {F : Nat → Int32} {n : Int32} {b s : Int64} {k : Nat} (h : bg F n b s k) (hb : lb b k = false) : bg F n b s (k + 1) := by
  obtain ⟨h1, h2, h3, h4, h5⟩ := h
  refine ⟨fun c hc q1 q2 => h1 c hc q1 (fun q3 q4 => q2 q3 (by omega)), h2, h3, fun c hc q1 q2 => ?_, h5⟩
  by_cases hck : c = k
  · subst hck; rw [hb] at q2; cases q2
  · exact h4 c hc (by omega) q2
theorem i32_cancel (n : Int32) : n + 1 - 1 = n := by
  apply Int32.toBitVec_inj.mp
  rw [Int32.toBitVec_sub, Int32.toBitVec_add, BitVec.add_sub_cancel]
theorem bg_end {F : Nat → Int32} {n n' : Int32} {b s s' b' x w : Int64} {y : Int64} (hd : s &&& b = 0) (hne : b ≠ 0) (h : bg F n b s 64) (es : s' = s ||| b) (en : n' = n + 1) (ey : y = bsd b) (ex : x = y &&& w) {z : Int64} (eb : b' = x &&& z) : bf F n' b' s' := by
  obtain ⟨h1, h2, h3, h4, h5, h6⟩ := h
  have hor : ∀ i, lb s' i = (lb s i || lb b i) := fun i => by rw [es, lb_or]
  have hsub : ∀ i, lb s i = true → lb s' i = true := fun i q => by rw [hor, q]; rfl
  have hfa : ∀ c v, fa_c F s c v → fa_c F s' c v := fun c v q => by
    rcases q with q | ⟨i, q1, q2, q3, q4⟩
    · exact Or.inl q
    · exact Or.inr ⟨i, q1, hsub i q2, q3, q4⟩
  obtain ⟨i0, hi0, hb0⟩ := lb_ex hne
  have hs0 : lb s i0 = false := by
    cases q : lb s i0
    · rfl
    · exact absurd (lb_dis hd q hb0) id
  have hcn : cn s 64 < cn s' 64 := cn_lt 64 (fun i _ q => hsub i q) ⟨i0, hi0, by rw [hor, hb0]; cases lb s i0 <;> rfl, hs0⟩
  have hcl := cn_le s' 64
  have en2 : n'.toInt = n.toInt + 1 := by
    refine (ex_add (y := 1) (c := 1) (d := 1) en (⟨h5, by omega⟩ : Iv n 0 64) ⟨by decide, by decide⟩ (by decide)).trans ?_
    have : (1 : Int32).toInt = 1 := by decide
    omega
  refine ⟨fun c hc q => ?_, fun c hc q => ?_, fun c hc q => ?_, by omega, by omega⟩
  · rw [hor] at q
    have q2 := Bool.or_eq_false_iff.mp q
    exact h1 c hc q2.1 (fun q3 => by rw [q2.2] at q3; cases q3)
  · cases q2 : lb s c
    · have q3 : lb b c = true := by rw [hor, q2] at q; exact q
      have q4 := h4 c hc hc q3
      rw [q4]
      exact ⟨⟨h5, by omega⟩, hfa c n (h3 c hc q3)⟩
    · exact ⟨(h2 c hc q2).1, hfa c _ (h2 c hc q2).2⟩
  · rw [eb, lb_and, ex, lb_and, ey] at q
    have q2 : lb (bsd b) c = true := by
      cases q3 : lb (bsd b) c
      · rw [q3] at q; cases q
      · rfl
    obtain ⟨i, hi, hbi, hai⟩ := adj_of hc q2
    exact Or.inr ⟨i, hi, by rw [hor, hbi]; cases lb s i <;> rfl, hai, by rw [h4 i hi hi hbi, en, i32_cancel]⟩
theorem bf_fa {F : Nat → Int32} {n : Int32} {b s : Int64} (h : bf F n b s) : fa F := fun c hc => by
  cases q : lb s c
  · exact Or.inl (h.1 c hc q)
  · obtain ⟨h1, h2⟩ := h.2.1 c hc q
    refine Or.inr ⟨h1, ?_⟩
    rcases h2 with h2 | ⟨i, q1, q2, q3, q4⟩
    · exact Or.inl h2
    · exact Or.inr ⟨i, q1, q3, q4⟩
/-- 'has' of a bit -/
theorem has_k : ∀ k : Fin 64, (((Int32.ofNat k.val).toInt64.toUInt64 &&& Int64.toUInt64 63).toBitVec % 64).toNat = k.val := by decide +kernel
theorem shl_k : ∀ k : Fin 64, (((Int32.ofNat k.val).toInt64 &&& 63).toBitVec.smod 64).toNat = k.val := by decide +kernel
theorem lb_1 (i : Nat) : lb 1 i = decide (i = 0) := by
  have : (1 : Int64).toBitVec = 1#64 := by decide
  show (1 : Int64).toBitVec.getLsbD i = _
  rw [this, BitVec.getLsbD_one]
  simp
theorem cl_of {k : Int32} {a b : Int} (h : Iv k a b) (h0 : 0 ≤ a) : k = Int32.ofNat k.toNatClampNeg := by
  obtain ⟨n, hn, e, hl⟩ := iv_nI h h0
  subst hn
  rw [nI_clamp hl]
  rfl
theorem has_b {x u w : Int64} {k : Int32} (hk : Iv k 0 63) (eu : u = (x.toUInt64 >>> (k.toInt64.toUInt64 &&& Int64.toUInt64 63)).toInt64) (ew : w = u &&& 1) : (w = 1 ↔ lb x k.toNatClampNeg = true) := by
  have hc := cl_of hk (by decide)
  have hn := iv_nat hk (by decide)
  have h1 := has_k ⟨k.toNatClampNeg, by omega⟩
  rw [← hc] at h1
  have h2 : ∀ i, lb w i = (lb x (k.toNatClampNeg + i) && decide (i = 0)) := fun i => by rw [ew, lb_and, lb_1, eu, lb_ushr x k _ h1]
  constructor
  · intro q
    have h3 := h2 0
    rw [q, lb_1] at h3
    simpa using h3.symm
  · intro q
    apply lg_get
    intro i hi
    show lb w i = lb 1 i
    rw [h2, lb_1]
    by_cases q2 : i = 0
    · subst q2; simpa using q
    · simp [q2]
theorem cl_succ {h h' : Int32} {a b : Int} (hh : Iv h a b) (h0 : 0 ≤ a) (hb : b ≤ 1000) (e : h'.toInt = h.toInt + 1) : h'.toNatClampNeg = h.toNatClampNeg + 1 := by
  have h1 := nat_of hh h0
  have h2 := nat_of (⟨by have := hh.1; omega, by have := hh.2; omega⟩ : Iv h' 0 1001) (by decide)
  omega
theorem ha_step {r : Nat → Int32} {c bits v w h h' ix x : Int32} (hb : bits = ha_F r c h.toNatClampNeg) (hh : Iv h 0 5) (e : h'.toInt = h.toInt + 1) (ei : ix.toInt = h.toInt + 320) (hx : x = r ix.toNatClampNeg) (ew : w = if x = c then 1 <<< (h &&& 31) else 0) (ev : v = bits ||| w) : v = ha_F r c h'.toNatClampNeg := by
  have h1 := cl_succ hh (by decide) (by decide) e
  have h2 : ix.toNatClampNeg = 320 + h.toNatClampNeg := by
    have h3 := nat_of hh (by decide)
    have h4 := nat_of (⟨by have := hh.1; omega, by have := hh.2; omega⟩ : Iv ix 320 325) (by decide)
    omega
  rw [h1, ha_F, ← hb, ← h2, ← hx, ← cl_of hh (by decide), ← ew, ev]
theorem i32_eq {x y : Int32} (h : x.toInt = y.toInt) : x = y := Int32.toInt_inj.mp h
theorem sm_nz {a : Int64} (h : ∃ x : Int32, a = x.toInt64 ∧ Iv x 0 63) (hn : a ≠ 0) : ∃ x : Int32, a = x.toInt64 ∧ Iv x 1 63 := by
  obtain ⟨x, e, i1, i2⟩ := h
  refine ⟨x, e, ?_, i2⟩
  have : x.toInt ≠ 0 := fun q => hn (by
    have : x = 0 := Int32.toInt_inj.mp (q.trans (by decide))
    rw [e, this]; decide)
  omega
theorem sm_l2i {a : Int64} {v : Int32} (h : ∃ x : Int32, a = x.toInt64 ∧ Iv x 1 63) (e : v = a.toInt32) : Iv v 1 63 := by
  obtain ⟨x, rfl, i⟩ := h
  rw [Int32.toInt32_toInt64] at e
  rw [e]; exact i
/-- the search for the next cell of a cart's way -/
def ct (F : Nat → Int32) (nx : Int64) (v : Int32) (k : Int) : Prop := ∃ i : Nat, k ≤ (i : Int) ∧ i < 64 ∧ lb nx i = true ∧ F i = v
theorem ct_0 {F : Nat → Int32} (h : fa F) {c : Int32} (hc : Iv c 0 63) {x d v : Int32} (hx : x = F c.toNatClampNeg) (hx2 : Iv x 1 63) {o nx : Int64} (eo : o = 1 <<< (c.toInt64 &&& 63)) (en : nx = bsd o) (ev : v = x - d) (ed : d = 1) : ct F nx v 0 := by
  have hn := iv_nat hc (by decide)
  rcases h c.toNatClampNeg (by omega) with q | ⟨_, q | ⟨i, q1, q2, q3⟩⟩
  · rw [← hx] at q; rw [q] at hx2; exact absurd hx2.2 (by decide)
  · rw [← hx] at q; rw [q] at hx2; exact absurd hx2.1 (by decide)
  · refine ⟨i, by omega, q1, ?_, ?_⟩
    · rw [en, eo, cl_of hc (by decide)]; exact q2
    · rw [q3, ev, ed, hx]
theorem ct_lt {F : Nat → Int32} {nx : Int64} {v k : Int32} (h : ct F nx v k.toInt) (h0 : 0 ≤ k.toInt) : Iv k 0 63 := by
  obtain ⟨i, h1, h2, _⟩ := h
  exact ⟨h0, by omega⟩
theorem ct_no1 {F : Nat → Int32} {nx : Int64} {v k k' : Int32} (h : ct F nx v k.toInt) (hk : Iv k 0 63) (hn : ¬ lb nx k.toNatClampNeg = true) (e : k'.toInt = k.toInt + 1) : ct F nx v k'.toInt := by
  obtain ⟨i, h1, h2, h3, h4⟩ := h
  have h5 := nat_of hk (by decide)
  have : i ≠ k.toNatClampNeg := fun q => hn (by rw [← q]; exact h3)
  exact ⟨i, by omega, h2, h3, h4⟩
theorem ct_no2 {F : Nat → Int32} {nx : Int64} {v k k' x : Int32} (h : ct F nx v k.toInt) (hk : Iv k 0 63) (hx : x = F k.toNatClampNeg) (hn : ¬ x = v) (e : k'.toInt = k.toInt + 1) : ct F nx v k'.toInt := by
  obtain ⟨i, h1, h2, h3, h4⟩ := h
  have h5 := nat_of hk (by decide)
  have : i ≠ k.toNatClampNeg := fun q => hn (by rw [hx, ← q]; exact h4)
  exact ⟨i, by omega, h2, h3, h4⟩
theorem fa_iv {F : Nat → Int32} (h : fa F) {c x : Int32} (hc : Iv c 0 63) (hx : x = F c.toNatClampNeg) (hn : ¬ x = 100000000) : Iv x 0 63 := by
  have hk := iv_nat hc (by decide)
  rcases h c.toNatClampNeg (by omega) with q | ⟨q, _⟩
  · exact absurd (hx.trans q) hn
  · rw [← hx] at q; exact ⟨q.1, by omega⟩
/-! rows that stay -/
theorem rw_s {σ σ1 : oSt} {a : Nat} {f : Nat → Int32} (e : σ1 = oPut σ a f) : σ1.2.2.1 a = f := by subst e; simp only [oPut, va_up, if_true]
theorem rw_n {σ σ1 : oSt} {a b : Nat} {f : Nat → Int32} (e : σ1 = oPut σ a f) (h : b ≠ a) : σ1.2.2.1 b = σ.2.2.1 b := by subst e; simp only [oPut, va_up, if_neg h]
theorem rw_ne {L : List Nat} {τ : Nat → Nat} {a b t u : Nat} (h : oA L τ b t) (h2 : oA L τ a u) (q : t ≠ u) : b ≠ a := fun e => q (by rw [← h.2, ← h2.2, e])
theorem rw_i {σ σ1 : oSt} {j a b : Nat} {v : Int32} (e : σ1 = (oU σ.1 j a v, σ.2)) : σ1.2.2.1 b = σ.2.2.1 b := by subst e; rfl
theorem rw_l {σ σ1 : oSt} {j a b : Nat} {v : Int64} (e : σ1 = (σ.1, oUl σ.2.1 j a v, σ.2.2)) : σ1.2.2.1 b = σ.2.2.1 b := by subst e; rfl
theorem rw_q {σ σ1 : oSt} {a b : Nat} {f : Nat → Int64} (e : σ1 = oPutL σ a f) : σ1.2.2.1 b = σ.2.2.1 b := by subst e; rfl
theorem rw_r {σ σ1 : oSt} {j a b : Nat} {v : Option Nat} (e : σ1 = (σ.1, σ.2.1, σ.2.2.1, σ.2.2.2.1, oUr σ.2.2.2.2 j a v)) : σ1.2.2.1 b = σ.2.2.1 b := by subst e; rfl
theorem rw_c {L : List Nat} {τ : Nat → Nat} {fs ts : List Nat} {σ σ1 : oSt} {b t : Nat} (e : oFr τ fs ts σ σ1) (h : oA L τ b t) (q : t ∉ ts) : σ1.2.2.1 b = σ.2.2.1 b := (e.2 b (by rw [h.2]; exact q)).1
theorem fill_s {F : Nat → Int32} {k k' v : Int32} (h : ∀ c : Nat, c < 64 → (c : Int) < k.toInt → F c = v) (hk : Iv k 0 63) (e : k'.toInt = k.toInt + 1) : ∀ c : Nat, c < 64 → (c : Int) < k'.toInt → upd F k.toNatClampNeg v c = v := fun c hc q => by
  have h1 := nat_of hk (by decide)
  by_cases hck : c = k.toNatClampNeg
  · subst hck; rw [pk_us]
  · rw [pk_un hck]; exact h c hc (by omega)
theorem put_at {σ σ1 : oSt} {a k : Nat} {f : Nat → Int32} {x : Int32} (e : σ1 = oPut σ a (upd f k x)) : σ1.2.2.1 a k = x := by rw [rw_s e]; exact pk_us
/-- the sign that is read, exactly -/
def hr_F (F : Nat → Int32) (a l t : Int32) : Int32 := if a.toInt < l.toInt ∧ a.toInt < t.toInt then F a.toNatClampNeg &&& 255 else -1
/-- how many gates -/
def gx (F : Nat → Int32) (w : Int) : Nat → Nat
  | 0 => 0
  | c + 1 => gx F w c + (if (c : Int) % 8 < w ∧ F c = 2 then 1 else 0)
def gt (F : Nat → Int32) (w t : Int) : Nat → Nat
  | 0 => 0
  | c + 1 => gt F w t c + (if (c : Int) % 8 < w ∧ (c : Int) / 8 < t ∧ F c = 2 then 1 else 0)
theorem gt_mono (F : Nat → Int32) (w t : Int) (k : Nat) : ∀ n, gt F w t k ≤ gt F w t (k + n)
  | 0 => Nat.le_refl _
  | n + 1 => by have := gt_mono F w t k n; rw [← Nat.add_assoc, gt]; omega
theorem gx_cong {F G : Nat → Int32} {w : Int} : ∀ n, (∀ c, c < n → F c = G c) → gx F w n = gx G w n
  | 0, _ => rfl
  | n + 1, h => by rw [gx, gx, gx_cong n (fun c hc => h c (by omega)), h n (by omega)]
theorem gx_skip {F : Nat → Int32} {w : Int} (a : Nat) : ∀ n, (∀ c : Nat, a ≤ c → c < a + n → ¬ (c : Int) % 8 < w) → gx F w (a + n) = gx F w a
  | 0, _ => rfl
  | n + 1, h => by rw [← Nat.add_assoc, gx, gx_skip a n (fun c h1 h2 => h c h1 (by omega)), if_neg (fun q => h (a + n) (by omega) (by omega) q.1)]; omega
theorem gx_first {F : Nat → Int32} {w w2 : Int} : ∀ n : Nat, (∀ c : Nat, c < n → (c : Int) % 8 < w ∧ (c : Int) % 8 < w2) → gx F w n = gx F w2 n
  | 0, _ => rfl
  | n + 1, h => by
    rw [gx, gx, gx_first n (fun c hc => h c (by omega))]
    have h1 := h n (by omega)
    by_cases q : F n = 2
    · rw [if_pos ⟨h1.1, q⟩, if_pos ⟨h1.2, q⟩]
    · rw [if_neg (fun z => q z.2), if_neg (fun z => q z.2)]
theorem gt_gx {F : Nat → Int32} {w t : Int} : ∀ n : Nat, gt F w t n = gx F w (if (n : Int) ≤ 8 * t then n else (8 * t).toNat)
  | 0 => by
    by_cases q : ((0 : Nat) : Int) ≤ 8 * t
    · rw [if_pos q]; rfl
    · rw [if_neg q, show (8 * t).toNat = 0 by omega]; rfl
  | n + 1 => by
    rw [gt, gt_gx n]
    by_cases q : ((n + 1 : Nat) : Int) ≤ 8 * t
    · rw [if_pos q, if_pos (by omega), gx]
      by_cases h : (n : Int) % 8 < w ∧ F n = 2
      · rw [if_pos h, if_pos ⟨h.1, by omega, h.2⟩]
      · rw [if_neg h, if_neg (fun z => h ⟨z.1, z.2.2⟩)]
    · rw [if_neg q, if_neg (show ¬ ((n : Int) % 8 < w ∧ (n : Int) / 8 < t ∧ F n = 2) from fun z => by omega)]
      by_cases q2 : (n : Int) ≤ 8 * t
      · rw [if_pos q2, show (8 * t).toNat = n by omega]; omega
      · rw [if_neg q2]; omega
/-- the gates at the head of a row, at a cell -/
def gm (F : Nat → Int32) (wide tall x many : Int) : Prop := (gx F (if tall = 0 then 8 else wide) (8 * tall + x).toNat : Int) = many
theorem gm_row {F : Nat → Int32} {wide tall x many w2 : Int} (h : gm F wide tall x many) (ht : 0 ≤ tall ∧ tall ≤ 7) (hx : 0 ≤ x ∧ x ≤ 8) (hw : (tall = 0 ∧ w2 = x) ∨ (tall > 0 ∧ w2 = wide ∧ x = wide)) : gm F w2 (tall + 1) 0 many := by
  rw [gm] at h ⊢
  rw [if_neg (by omega), ← h]
  congr 1
  rcases hw with ⟨h1, h2⟩ | ⟨h1, h2, h3⟩
  · rw [if_pos h1]
    subst h2
    rw [show (8 * (tall + 1) + 0).toNat = w2.toNat + (8 - w2.toNat) by omega, gx_skip w2.toNat (8 - w2.toNat) (fun c q1 q2 => by omega), show (8 * tall + w2).toNat = w2.toNat by omega]
    exact (gx_first w2.toNat (fun c hc => by omega))
  · rw [if_neg (by omega)]
    subst h2
    rw [show (8 * (tall + 1) + 0).toNat = (8 * tall + x).toNat + (8 - x.toNat) by omega, gx_skip (8 * tall + x).toNat (8 - x.toNat) (fun c q1 q2 => by omega)]
theorem gm_cell {F : Nat → Int32} {wide tall x many many2 x2 : Int} {c v : Int32} (h : gm F wide tall x many) (ht : 0 ≤ tall ∧ tall ≤ 7) (hx : 0 ≤ x ∧ x < 8) (hw : x < (if tall = 0 then 8 else wide)) (hc : c.toInt = 8 * tall + x) (e : x2 = x + 1) (hm : (v = 2 ∧ many2 = many + 1) ∨ (¬ v = 2 ∧ many2 = many)) : gm (upd F c.toNatClampNeg v) wide tall x2 many2 := by
  rw [gm] at h ⊢
  generalize (if tall = 0 then (8 : Int) else wide) = W at h hw ⊢
  have hc2 : c.toNatClampNeg = (8 * tall + x).toNat := by
    have := nat_of (⟨by omega, by omega⟩ : Iv c 0 63) (by decide)
    omega
  rw [e, show (8 * tall + (x + 1)).toNat = (8 * tall + x).toNat + 1 by omega, gx, gx_cong (G := F) (8 * tall + x).toNat (fun i hi => pk_un (by omega)), hc2, pk_us]
  rcases hm with ⟨h1, h2⟩ | ⟨h1, h2⟩
  · rw [if_pos ⟨by omega, h1⟩]; omega
  · rw [if_neg (fun z => h1 z.2)]; omega
theorem gm_take {F : Nat → Int32} {w t many : Int} (h : gm F w t 0 many) (ht : 1 ≤ t ∧ t ≤ 8) (hm : many ≤ 6) : gt F w t 64 ≤ 6 := by
  rw [gm, if_neg (by omega)] at h
  rw [gt_gx]
  by_cases q : ((64 : Nat) : Int) ≤ 8 * t
  · rw [if_pos q, show (64 : Nat) = (8 * t + 0).toNat by omega]; omega
  · rw [if_neg q, show (8 * t).toNat = (8 * t + 0).toNat by omega]; omega
theorem gt_step {F : Nat → Int32} {w t : Int} {c g g2 : Int32} (h : g.toInt = (gt F w t c.toNatClampNeg : Int)) (hc : Iv c 0 63) {c2 : Int32} (e : c2.toInt = c.toInt + 1) (hh : (c.toInt % 8 < w ∧ c.toInt / 8 < t ∧ F c.toNatClampNeg = 2 ∧ g2.toInt = g.toInt + 1) ∨ (¬ (c.toInt % 8 < w ∧ c.toInt / 8 < t ∧ F c.toNatClampNeg = 2) ∧ g2.toInt = g.toInt)) : g2.toInt = (gt F w t c2.toNatClampNeg : Int) := by
  have h1 := cl_succ hc (by decide) (by decide) e
  have h2 := nat_of hc (by decide)
  rw [h1, gt, h2]
  rcases hh with ⟨q1, q2, q3, q4⟩ | ⟨q1, q2⟩
  · rw [if_pos ⟨q1, q2, q3⟩]; omega
  · rw [if_neg q1]; omega
theorem gt_room {F : Nat → Int32} {w t : Int} {c g : Int32} (h : g.toInt = (gt F w t c.toNatClampNeg : Int)) (hc : Iv c 0 63) (h6 : gt F w t 64 ≤ 6) (q1 : c.toInt % 8 < w) (q2 : c.toInt / 8 < t) (q3 : F c.toNatClampNeg = 2) : Iv g 0 5 := by
  have h2 := nat_of hc (by decide)
  have h3 := gt_mono F w t (c.toNatClampNeg + 1) (64 - (c.toNatClampNeg + 1))
  have h4 := hc.2
  rw [show c.toNatClampNeg + 1 + (64 - (c.toNatClampNeg + 1)) = 64 by omega, gt, h2, if_pos ⟨q1, q2, q3⟩] at h3
  exact ⟨by omega, by omega⟩
