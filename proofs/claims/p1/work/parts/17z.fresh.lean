/-! ===== fresh objects: p1 ===== -/
def HZ (L : List Nat) (τ : Nat → Nat) (σ : oSt) : Prop := ∀ g, oA L τ g 1 → σ.2.1 68 g = 0 ∧ σ.2.1 69 g = 0
theorem hz_fr {L : List Nat} {τ : Nat → Nat} {σ σ1 : oSt} {fs ts : List Nat} (h : HZ L τ σ) (fr : oFr τ fs ts σ σ1) (d : 68 ∉ fs ∧ 69 ∉ fs) : HZ L τ σ1 := fun g hg => ⟨(kl_c fr d.1).trans (h g hg).1, (kl_c fr d.2).trans (h g hg).2⟩
theorem has_0 {v : Int64} {r c : Int32} (h : Iv c 0 63 → (¬ r = 0 ↔ lb v c.toNatClampNeg = true)) (hi : ¬ r = 0 → Iv c 0 63) (e : v = 0) : Iv r 0 0 := by
  by_cases q : r = 0
  · rw [q]; exact ⟨by decide, by decide⟩
  · have z := (h (hi q)).mp q
    rw [e, lb_0] at z
    cases z
theorem tC_e {T : Nat → Int32} {n m p : Int} (h : n ≤ 0 ∧ 0 ≤ m) : tC T n m p = -1 := by
  unfold tC
  by_cases c : m ≤ p
  · rw [if_pos c, if_neg (by omega)]
  · rw [if_neg c, if_neg (by omega)]
theorem md_e {T : Nat → Int32} {n : Int} (h : n ≤ 0) : mdM T n = -1 := by
  have t : tC T n 76 0 = -1 := tC_e ⟨h, by decide⟩
  show md T n 77 0 0 0 8 0 = -1
  rw [md, t]
  simp
theorem iv_and0 {v x y : Int32} (e : v = x &&& y) (hx : Iv x 0 0) : Iv v 0 0 := by
  have h : x = 0 := i32_eq (by have := hx.1; have := hx.2; have : (0 : Int32).toInt = 0 := (by decide); omega)
  rw [e, h, Int32.zero_and]
  exact ⟨by decide, by decide⟩
theorem lg_and_zero (a : Int64) : a &&& (0 : Int64) = 0 := by
  rw [Int64.and_comm]
  exact lg_zero_and a
theorem iv_shr_0 {v x y : Int32} (e : v = x >>> (y &&& 31)) (hx : Iv x 0 0) : Iv v 0 0 := by
  have h : x = 0 := i32_eq (by have := hx.1; have := hx.2; have : (0 : Int32).toInt = 0 := (by decide); omega)
  rw [e, h, Int32.zero_shiftRight]
  exact ⟨by decide, by decide⟩
theorem vp_lt {i : Int32} {n : Nat} (h : vp_in i n) : i.toNatClampNeg < n := Nat.lt_of_not_le (fun q => h (Or.inr q))
theorem oTg_71 (t3 j : Nat) : oTg t3 j ≠ some 71 := by
  intro q9
  unfold oTg at q9
  split at q9 <;> first | (split at q9 <;> first | (injection q9 with q9; omega) | (cases q9)) | (cases q9)
/-- fresh: no cell is there; grass, now, isKept are 0 (every object of these tags) -/
def HQ (L : List Nat) (τ : Nat → Nat) (σ : oSt) : Prop := ∀ g, g ∈ L → ((τ g = 1 ∨ τ g = 17) → σ.2.1 68 g = 0 ∧ σ.2.1 69 g = 0) ∧ ((τ g = 32 ∨ τ g = 48 ∨ τ g = 60) → ∀ i, σ.2.2.1 g i = 0)
theorem hq_0 {τ : Nat → Nat} {σ : oSt} : HQ [] τ σ := fun g h => by cases h
theorem hq_hz {L : List Nat} {τ : Nat → Nat} {σ : oSt} (h : HQ L τ σ) : HZ L τ σ := fun g hg => (h g hg.1).1 (Or.inl hg.2)
theorem hq_g {L L1 : List Nat} {τ τ1 : Nat → Nat} {σ σ1 : oSt} {q t : Nat} (h : HQ L τ σ) (g : oG L τ σ q t L1 τ1 σ1) : HQ L1 τ1 σ1 := by
  intro a ha
  by_cases e : a = q
  · subst e
    exact ⟨fun _ => ⟨oG_zl g, oG_zl g⟩, fun _ i => congrFun (oG_zw g) i⟩
  · have h1 : a ∈ L := by
      rw [g.1] at ha
      rcases List.mem_append.mp ha with h4 | h4
      · exact h4
      · exact absurd (List.mem_singleton.mp h4) e
    have b1 : oA L τ a (τ a) := ⟨h1, rfl⟩
    have z := h a h1
    rw [← (oG_a g b1).2] at z
    exact ⟨fun q9 => ⟨(oG_l g b1).trans (z.1 q9).1, (oG_l g b1).trans (z.1 q9).2⟩, fun q9 i => (congrFun (oG_w g b1) i).trans (z.2 q9 i)⟩
theorem hq_i {L : List Nat} {τ : Nat → Nat} {σ σ1 : oSt} {j a : Nat} {v : Int32} (h : HQ L τ σ) (e : σ1 = (oU σ.1 j a v, σ.2)) : HQ L τ σ1 := by
  subst e; exact h
theorem hq_r {L : List Nat} {τ : Nat → Nat} {σ σ1 : oSt} {j a : Nat} {v : Option Nat} (h : HQ L τ σ) (e : σ1 = (σ.1, σ.2.1, σ.2.2.1, σ.2.2.2.1, oUr σ.2.2.2.2 j a v)) : HQ L τ σ1 := by
  subst e; exact h
theorem hq_c {L : List Nat} {τ : Nat → Nat} {σ σ1 : oSt} {fs ts : List Nat} (h : HQ L τ σ) (f : oFr τ fs ts σ σ1) (d : 68 ∉ fs ∧ 69 ∉ fs ∧ 32 ∉ ts ∧ 48 ∉ ts ∧ 60 ∉ ts) : HQ L τ σ1 := by
  intro g hg
  have z := h g hg
  refine ⟨fun q9 => ⟨(kl_c f d.1).trans (z.1 q9).1, (kl_c f d.2.1).trans (z.1 q9).2⟩, fun q9 i => ?_⟩
  rw [(f.2 g (by rcases q9 with q9 | q9 | q9 <;> rw [q9] <;> first | exact d.2.2.1 | exact d.2.2.2.1 | exact d.2.2.2.2)).1]
  exact z.2 q9 i
theorem hq_d {L : List Nat} {τ τ1 : Nat → Nat} {σ : oSt} {a t u : Nat} (h : HQ L τ σ) (d : oD τ a t τ1) (ha : oA L τ a u) (k : t ≠ 32 ∧ t ≠ 48 ∧ t ≠ 60 ∧ t ≠ 17 ∧ (t = 1 → u = 17)) : HQ L τ1 σ := by
  intro g hg
  by_cases e : g = a
  · subst e
    have z := (oD_q d ha).2
    refine ⟨fun q9 => (h g hg).1 (Or.inr ?_), fun q9 => ?_⟩
    · rw [z] at q9
      rw [ha.2]
      rcases q9 with q9 | q9
      · exact k.2.2.2.2 q9
      · exact absurd q9 k.2.2.2.1
    · rw [z] at q9
      rcases q9 with q9 | q9 | q9
      · exact absurd q9 k.1
      · exact absurd q9 k.2.1
      · exact absurd q9 k.2.2.1
  · have z := h g hg
    rw [← (oD_a d (⟨hg, rfl⟩ : oA L τ g (τ g)) e).2] at z
    exact z
/-- a row of zeros behind a reference, one call on -/
theorem hq_row {A : Nat → Prop} {L : List Nat} {τ : Nat → Nat} {cy : Nat → ClassId} {D : va_G} {H0 H : Heap} {σ σ1 : oSt} {locs : List Loc} {fs ts : List Nat} {j a ci t : Nat} (h : HQ L τ σ) (f : oFr τ fs ts σ σ1) (hw : oI A L τ cy D H0 σ1 H locs) (ha : oA L τ a ci) (hj : oTg ci j = some t) (ht : t = 32 ∨ t = 48 ∨ t = 60) (d : t ∉ ts) : ∀ b, σ1.2.2.2.2 j a = some b → ∀ i, σ1.2.2.1 b i = 0 := by
  intro b q i
  obtain ⟨b9, e9, h9⟩ := hw.2.2.2.2.2 j a t (by rw [ha.2]; exact hj) ha.1
  have e8 : b = b9 := Option.some.inj (q.symm.trans e9)
  rw [← e8] at h9
  rw [rw_c f h9 d]
  exact (h b h9.1).2 (by rw [h9.2]; exact ht) i
/-- what holds of both at the law's one call -/
def lF (L : List Nat) (τ : Nat → Nat) (σ : oSt) (x k : Nat) : Prop := HQ L τ σ ∧ (∀ b, σ.2.2.2.2 576 x = some b → Iv (σ.1 385 b) 0 0) ∧ (∀ b, σ.2.2.2.2 585 x = some b → Iv (σ.1 130 b) 0 0) ∧ (∀ b, σ.2.2.2.2 581 x = some b → Iv (σ.1 330 b) 0 0) ∧ (∀ b, σ.2.2.2.2 581 x = some b → Iv (σ.1 329 b) 0 0) ∧ (∀ b, σ.2.2.2.2 581 x = some b → Iv (σ.1 331 b) 0 0) ∧ (∀ b, σ.2.2.2.2 580 x = some b → Iv (σ.1 514 b) 12 12) ∧ (∀ b, σ.2.2.2.2 580 x = some b → Iv (σ.1 515 b) 6 6) ∧ (∀ b, σ.2.2.2.2 577 x = some b → Iv (σ.1 193 b) 0 0) ∧ Iv (σ.1 587 x) 0 0 ∧ Iv (σ.1 588 x) 0 0 ∧ Iv (σ.1 655 k) 0 0 ∧ Iv (σ.1 672 k) 0 0 ∧ Iv (σ.1 653 k) 0 0 ∧ Iv (σ.1 650 k) 12 12 ∧ Iv (σ.1 651 k) 6 6 ∧ Iv (σ.1 657 k) 0 0
