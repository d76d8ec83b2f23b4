/-! ===== the rule's reader: an automaton; w: 1 a thing is wanted, 0 a binding, 2 and 3 behind one and two digits; S: for each open EXPRESSION, the inmost first, whether it has its < > = ===== -/
def ra (T : Nat → Int32) (n : Int) : Nat → Int → Int → List Bool → Int
  | 0, p, _, _ => -1 - p
  | k + 1, p, w, S =>
    if w = 1 then
      if tC T n 40 p = 45 then ra T n k (p + 1) 1 S
      else if tC T n 40 p = 40 ∧ S.length ≤ 4 then ra T n k (p + 1) 1 (false :: S)
      else if 48 ≤ tC T n 40 p ∧ tC T n 40 p ≤ 57 then ra T n k (p + 1) 2 S
      else if tC T n 40 p = 103 ∨ tC T n 40 p = 115 ∨ tC T n 40 p = 116 ∨ tC T n 40 p = 114 ∨ tC T n 40 p = 109 ∨ tC T n 40 p = 111 ∨ tC T n 40 p = 101 ∨ tC T n 40 p = 105 ∨ tC T n 40 p = 107 then ra T n k (p + 1) 0 S
      else -1 - p
    else if (48 ≤ tC T n 40 p ∧ tC T n 40 p ≤ 57) ∧ w = 2 then ra T n k (p + 1) 3 S
    else if (48 ≤ tC T n 40 p ∧ tC T n 40 p ≤ 57) ∧ w = 3 then ra T n k (p + 1) 0 S
    else if S.tail = [] ∧ tC T n 40 p = -1 then 0
    else if S.tail ≠ [] ∧ tC T n 40 p = 41 then ra T n k (p + 1) 0 S.tail
    else if (tC T n 40 p = 60 ∨ tC T n 40 p = 61 ∨ tC T n 40 p = 62) ∧ S.headD true = false then ra T n k (p + 1) 1 (true :: S.tail)
    else if tC T n 40 p = 42 ∨ tC T n 40 p = 43 ∨ tC T n 40 p = 45 ∨ tC T n 40 p = 47 then ra T n k (p + 1) 1 S
    else -1 - p
theorem ra_congr {f g : Nat → Int32} {n : Int} (h : ∀ i : Nat, (i : Int) < n → f i = g i) : ∀ (k : Nat) (p w : Int) (S : List Bool), ra f n k p w S = ra g n k p w S
  | 0, _, _, _ => rfl
  | k + 1, p, w, S => by
    rw [ra, ra, tC_congr h]
    simp only [ra_congr h k]
def raG (T : Nat → Int32) (n p w : Int) (S : List Bool) : Int := ra T n (41 - p).toNat p w S
abbrev raM (T : Nat → Int32) (n : Int) : Int := raG T n 0 1 [false]
theorem raM_congr {f g : Nat → Int32} {n n' : Int} (h : tEq f g n) (e : n' = n) : raM f n = raM (fun i => g i &&& 255) n' := by
  subst e
  exact ra_congr h _ _ _ _
section RA
variable {T : Nat → Int32} {n p w p' : Int} {S : List Bool}
theorem ra_u (hp : p ≤ 40) : (41 - p).toNat = (41 - (p + 1)).toNat + 1 := by omega
theorem ra_neg (hp : p ≤ 40) (h : tC T n 40 p = 45) (e : p' = p + 1) : raG T n p 1 S = raG T n p' 1 S := by
  subst e
  unfold raG
  rw [ra_u hp, ra, if_pos rfl, if_pos h]
theorem ra_open (hp : p ≤ 40) (h : tC T n 40 p = 40) (hS : S.length ≤ 4) (e : p' = p + 1) : raG T n p 1 S = raG T n p' 1 (false :: S) := by
  subst e
  unfold raG
  rw [ra_u hp, ra, if_pos rfl, if_neg (by omega), if_pos ⟨h, hS⟩]
theorem ra_dig (hp : p ≤ 40) (h : 48 ≤ tC T n 40 p ∧ tC T n 40 p ≤ 57) (e : p' = p + 1) : raG T n p 1 S = raG T n p' 2 S := by
  subst e
  unfold raG
  rw [ra_u hp, ra, if_pos rfl, if_neg (by omega), if_neg (by omega), if_pos h]
theorem ra_let (hp : p ≤ 40) (h : tC T n 40 p = 103 ∨ tC T n 40 p = 115 ∨ tC T n 40 p = 116 ∨ tC T n 40 p = 114 ∨ tC T n 40 p = 109 ∨ tC T n 40 p = 111 ∨ tC T n 40 p = 101 ∨ tC T n 40 p = 105 ∨ tC T n 40 p = 107) (e : p' = p + 1) : raG T n p 1 S = raG T n p' 0 S := by
  subst e
  unfold raG
  rw [ra_u hp, ra, if_pos rfl, if_neg (by omega), if_neg (by omega), if_neg (by omega), if_pos h]
theorem ra_bad1 (hp : p ≤ 40) (h : tC T n 40 p ≠ 45 ∧ (tC T n 40 p = 40 → 4 < S.length) ∧ ¬ (48 ≤ tC T n 40 p ∧ tC T n 40 p ≤ 57) ∧ ¬ (tC T n 40 p = 103 ∨ tC T n 40 p = 115 ∨ tC T n 40 p = 116 ∨ tC T n 40 p = 114 ∨ tC T n 40 p = 109 ∨ tC T n 40 p = 111 ∨ tC T n 40 p = 101 ∨ tC T n 40 p = 105 ∨ tC T n 40 p = 107)) : raG T n p 1 S = -1 - p := by
  unfold raG
  rw [ra_u hp, ra, if_pos rfl, if_neg h.1, if_neg (fun q => by have := h.2.1 q.1; omega), if_neg h.2.2.1, if_neg h.2.2.2]
theorem ra_num2 (hp : p ≤ 40) (h : 48 ≤ tC T n 40 p ∧ tC T n 40 p ≤ 57) (e : p' = p + 1) : raG T n p 2 S = raG T n p' 3 S := by
  subst e
  unfold raG
  rw [ra_u hp, ra, if_neg (by decide), if_pos ⟨h, rfl⟩]
theorem ra_num3 (hp : p ≤ 40) (h : 48 ≤ tC T n 40 p ∧ tC T n 40 p ≤ 57) (e : p' = p + 1) : raG T n p 3 S = raG T n p' 0 S := by
  subst e
  unfold raG
  rw [ra_u hp, ra, if_neg (by decide), if_neg (fun q => absurd q.2 (by decide)), if_pos ⟨h, rfl⟩]
theorem ra_w (hp : p ≤ 40) (hw : w ≠ 1) (h : ¬ (48 ≤ tC T n 40 p ∧ tC T n 40 p ≤ 57) ∨ (w ≠ 2 ∧ w ≠ 3)) : raG T n p w S = (if S.tail = [] ∧ tC T n 40 p = -1 then 0
    else if S.tail ≠ [] ∧ tC T n 40 p = 41 then raG T n (p + 1) 0 S.tail
    else if (tC T n 40 p = 60 ∨ tC T n 40 p = 61 ∨ tC T n 40 p = 62) ∧ S.headD true = false then raG T n (p + 1) 1 (true :: S.tail)
    else if tC T n 40 p = 42 ∨ tC T n 40 p = 43 ∨ tC T n 40 p = 45 ∨ tC T n 40 p = 47 then raG T n (p + 1) 1 S
    else -1 - p) := by
  unfold raG
  rw [ra_u hp, ra, if_neg hw, if_neg (fun q => h.elim (fun z => z q.1) (fun z => z.1 q.2)), if_neg (fun q => h.elim (fun z => z q.1) (fun z => z.2 q.2))]
theorem ra_non2 (hp : p ≤ 40) (h : ¬ (48 ≤ tC T n 40 p ∧ tC T n 40 p ≤ 57)) : raG T n p 2 S = raG T n p 0 S := (ra_w hp (by decide) (Or.inl h)).trans (ra_w hp (by decide) (Or.inl h)).symm
theorem ra_non3 (hp : p ≤ 40) (h : ¬ (48 ≤ tC T n 40 p ∧ tC T n 40 p ≤ 57)) : raG T n p 3 S = raG T n p 0 S := (ra_w hp (by decide) (Or.inl h)).trans (ra_w hp (by decide) (Or.inl h)).symm
theorem ra_0 (hp : p ≤ 40) : raG T n p 0 S = (if S.tail = [] ∧ tC T n 40 p = -1 then 0
    else if S.tail ≠ [] ∧ tC T n 40 p = 41 then raG T n (p + 1) 0 S.tail
    else if (tC T n 40 p = 60 ∨ tC T n 40 p = 61 ∨ tC T n 40 p = 62) ∧ S.headD true = false then raG T n (p + 1) 1 (true :: S.tail)
    else if tC T n 40 p = 42 ∨ tC T n 40 p = 43 ∨ tC T n 40 p = 45 ∨ tC T n 40 p = 47 then raG T n (p + 1) 1 S
    else -1 - p) := ra_w hp (by decide) (Or.inr ⟨by decide, by decide⟩)
theorem ra_end (hp : p ≤ 40) (h : tC T n 40 p = -1) (hS : S.tail = []) : raG T n p 0 S = 0 := by rw [ra_0 hp, if_pos ⟨hS, h⟩]
theorem ra_close (hp : p ≤ 40) (h : tC T n 40 p = 41) (hS : S.tail ≠ []) (e : p' = p + 1) : raG T n p 0 S = raG T n p' 0 S.tail := by
  subst e
  rw [ra_0 hp, if_neg (fun q => hS q.1), if_pos ⟨hS, h⟩]
theorem ra_cmp (hp : p ≤ 40) (h : tC T n 40 p = 60 ∨ tC T n 40 p = 61 ∨ tC T n 40 p = 62) (hS : S.headD true = false) (e : p' = p + 1) : raG T n p 0 S = raG T n p' 1 (true :: S.tail) := by
  subst e
  rw [ra_0 hp, if_neg (fun q => by have := q.2; omega), if_neg (fun q => by have := q.2; omega), if_pos ⟨h, hS⟩]
theorem ra_op (hp : p ≤ 40) (h : tC T n 40 p = 42 ∨ tC T n 40 p = 43 ∨ tC T n 40 p = 45 ∨ tC T n 40 p = 47) (e : p' = p + 1) : raG T n p 0 S = raG T n p' 1 S := by
  subst e
  rw [ra_0 hp, if_neg (fun q => by have := q.2; omega), if_neg (fun q => by have := q.2; omega), if_neg (fun q => by have := q.1; omega), if_pos h]
theorem ra_bad0 (hp : p ≤ 40) (h : ¬ (tC T n 40 p = 42 ∨ tC T n 40 p = 43 ∨ tC T n 40 p = 45 ∨ tC T n 40 p = 47)) (h1 : tC T n 40 p = -1 → S.tail ≠ []) (h2 : tC T n 40 p = 41 → S.tail = []) (h3 : tC T n 40 p = 60 ∨ tC T n 40 p = 61 ∨ tC T n 40 p = 62 → S.headD true = true) : raG T n p 0 S = -1 - p := by
  rw [ra_0 hp, if_neg (fun q => h1 q.2 q.1), if_neg (fun q => q.1 (h2 q.2)), if_neg (fun q => by have := h3 q.1; rw [q.2] at this; cases this), if_neg h]
end RA
/-! the reference: what each of its readers does; T is what it reads -/
/-- a thing, at the depth d -/
def rqT (T : Nat → Int32) (n d p p' wr : Int) : Prop := ∀ S : List Bool, (S.length : Int) = d + 1 → (wr = -1 ∧ raG T n p' 0 S = raG T n p 1 S) ∨ (wr ≠ -1 ∧ raG T n p 1 S = -1 - wr)
/-- an EXPRESSION -/
def rqH (T : Nat → Int32) (n d p p' wr : Int) : Prop := ∀ S : List Bool, (S.length : Int) = d + 1 → S.headD true = false → (wr = -1 ∧ ∃ b : Bool, raG T n p' 0 (b :: S.tail) = raG T n p 1 S ∧ (b = false → ¬ (tC T n 40 p' = 60 ∨ tC T n 40 p' = 61 ∨ tC T n 40 p' = 62)) ∧ ¬ (tC T n 40 p' = 42 ∨ tC T n 40 p' = 43 ∨ tC T n 40 p' = 45 ∨ tC T n 40 p' = 47)) ∨ (wr ≠ -1 ∧ raG T n p 1 S = -1 - wr)
section RQ
variable {T : Nat → Int32} {n d p q p' wr wr' : Int}
/-- a thing, a binding, and things again -/
theorem rqT_op (h : rqT T n d p q (-1)) (hq : q ≤ 40) (hs : tC T n 40 q = 42 ∨ tC T n 40 q = 43 ∨ tC T n 40 q = 45 ∨ tC T n 40 q = 47) (h2 : rqT T n d (q + 1) p' wr) : rqT T n d p p' wr := fun S hS => by
  rcases h S hS with ⟨-, e⟩ | ⟨e, -⟩
  · have e2 := ra_op (S := S) hq hs (p' := q + 1) rfl
    rcases h2 S hS with ⟨a, b⟩ | ⟨a, b⟩
    · exact Or.inl ⟨a, by rw [b, ← e2, e]⟩
    · exact Or.inr ⟨a, by rw [← e, e2, b]⟩
  · exact absurd rfl e
theorem rqT_neg (hq : p ≤ 40) (hs : tC T n 40 p = 45) (h2 : rqT T n d (p + 1) p' wr) : rqT T n d p p' wr := fun S hS => by
  rw [ra_neg (S := S) hq hs (p' := p + 1) rfl]
  exact h2 S hS
theorem rqT_let (hq : p ≤ 40) (hs : tC T n 40 p = 103 ∨ tC T n 40 p = 115 ∨ tC T n 40 p = 116 ∨ tC T n 40 p = 114 ∨ tC T n 40 p = 109 ∨ tC T n 40 p = 111 ∨ tC T n 40 p = 101 ∨ tC T n 40 p = 105 ∨ tC T n 40 p = 107) (e : p' = p + 1 ∧ wr = -1) : rqT T n d p p' wr := fun S _ => Or.inl ⟨e.2, (ra_let hq hs e.1).symm⟩
theorem rqT_bad (hq : p ≤ 40) (hs : tC T n 40 p ≠ 45 ∧ (tC T n 40 p = 40 → 4 ≤ d) ∧ ¬ (48 ≤ tC T n 40 p ∧ tC T n 40 p ≤ 57) ∧ ¬ (tC T n 40 p = 103 ∨ tC T n 40 p = 115 ∨ tC T n 40 p = 116 ∨ tC T n 40 p = 114 ∨ tC T n 40 p = 109 ∨ tC T n 40 p = 111 ∨ tC T n 40 p = 101 ∨ tC T n 40 p = 105 ∨ tC T n 40 p = 107)) (e : wr = p ∧ 0 ≤ p) : rqT T n d p p' wr := fun S hS => Or.inr ⟨by omega, by rw [ra_bad1 hq ⟨hs.1, fun q => by have := hs.2.1 q; omega, hs.2.2.1, hs.2.2.2⟩, e.1]⟩
/-- digits: one, two, three -/
theorem rqT_num (hq : p ≤ 40) (hs : 48 ≤ tC T n 40 p ∧ tC T n 40 p ≤ 57) (e : wr = -1 ∧ ((p' = p + 1 ∧ p + 1 ≤ 40 ∧ ¬ (48 ≤ tC T n 40 (p + 1) ∧ tC T n 40 (p + 1) ≤ 57)) ∨ (p' = p + 2 ∧ p + 2 ≤ 40 ∧ (48 ≤ tC T n 40 (p + 1) ∧ tC T n 40 (p + 1) ≤ 57) ∧ ¬ (48 ≤ tC T n 40 (p + 2) ∧ tC T n 40 (p + 2) ≤ 57)) ∨ (p' = p + 3 ∧ p + 2 ≤ 40 ∧ (48 ≤ tC T n 40 (p + 1) ∧ tC T n 40 (p + 1) ≤ 57) ∧ (48 ≤ tC T n 40 (p + 2) ∧ tC T n 40 (p + 2) ≤ 57)))) : rqT T n d p p' wr := fun S _ => by
  refine Or.inl ⟨e.1, ?_⟩
  rw [ra_dig hq hs (p' := p + 1) rfl]
  rcases e.2 with ⟨rfl, h1, h2⟩ | ⟨rfl, h1, h2, h3⟩ | ⟨rfl, h1, h2, h3⟩
  · exact (ra_non2 h1 h2).symm
  · rw [ra_num2 (by omega) h2 (p' := p + 2) (by omega), ra_non3 h1 h3]
  · rw [ra_num2 (by omega) h2 (p' := p + 2) (by omega), ra_num3 h1 h3 (p' := p + 3) (by omega)]
/-- in ( ) -/
theorem rqT_in (hq : p ≤ 40) (hs : tC T n 40 p = 40) (hd : 0 ≤ d ∧ d < 4) (h : rqH T n (d + 1) (p + 1) q wr) (hq2 : q ≤ 40) (e : (wr = -1 ∧ tC T n 40 q = 41 ∧ p' = q + 1 ∧ wr' = -1) ∨ (wr = -1 ∧ tC T n 40 q ≠ 41 ∧ wr' = q ∧ 0 ≤ q) ∨ (wr ≠ -1 ∧ wr' = wr)) : rqT T n d p p' wr' := fun S hS => by
  have hl : ((false :: S).length : Int) = d + 1 + 1 := by rw [List.length_cons]; omega
  have hn : (S : List Bool) ≠ [] := fun q => by rw [q] at hS; simp at hS; omega
  rw [ra_open hq hs (by omega) (p' := p + 1) rfl]
  rcases h (false :: S) hl rfl with ⟨a, b, e1, e2, e3⟩ | ⟨a, e1⟩
  · rcases e with ⟨f1, f2, f3, f4⟩ | ⟨f1, f2, f3, f4⟩ | ⟨f1, f2⟩
    · refine Or.inl ⟨f4, ?_⟩
      rw [← e1]
      exact (ra_close hq2 f2 (S := b :: S) hn f3).symm
    · refine Or.inr ⟨by omega, ?_⟩
      rw [← e1, f3]
      refine ra_bad0 hq2 e3 (fun _ => hn) (fun q => absurd q f2) (fun q => ?_)
      cases b
      · exact absurd q (e2 rfl)
      · rfl
    · exact absurd a f1
  · rcases e with ⟨f1, -⟩ | ⟨f1, -⟩ | ⟨f1, f2⟩
    · exact absurd f1 a
    · exact absurd f1 a
    · exact Or.inr ⟨by omega, by rw [e1, f2]⟩
/-- an EXPRESSION: a sum alone -/
theorem rqH_one (h : rqT T n d p p' wr) (hs : wr = -1 → ¬ (tC T n 40 p' = 60 ∨ tC T n 40 p' = 61 ∨ tC T n 40 p' = 62) ∧ ¬ (tC T n 40 p' = 42 ∨ tC T n 40 p' = 43 ∨ tC T n 40 p' = 45 ∨ tC T n 40 p' = 47)) (hd : 0 ≤ d) : rqH T n d p p' wr := fun S hS hf => by
  rcases h S hS with ⟨a, b⟩ | ⟨a, b⟩
  · refine Or.inl ⟨a, false, ?_, fun _ => (hs a).1, (hs a).2⟩
    cases S with
    | nil => simp at hS; omega
    | cons x S => rw [← b]; have hf : x = false := hf; rw [hf]; rfl
  · exact Or.inr ⟨a, b⟩
/-- two sums -/
theorem rqH_two (h : rqT T n d p q (-1)) (hq : q ≤ 40) (hs : tC T n 40 q = 60 ∨ tC T n 40 q = 61 ∨ tC T n 40 q = 62) (h2 : rqT T n d (q + 1) p' wr) (h3 : wr = -1 → ¬ (tC T n 40 p' = 42 ∨ tC T n 40 p' = 43 ∨ tC T n 40 p' = 45 ∨ tC T n 40 p' = 47)) (hd : 0 ≤ d) : rqH T n d p p' wr := fun S hS hf => by
  have hn : (S : List Bool) ≠ [] := fun q => by rw [q] at hS; simp at hS; omega
  have hl : ((true :: S.tail).length : Int) = d + 1 := by
    rw [List.length_cons, List.length_tail]
    have : S.length ≠ 0 := fun q => hn (List.eq_nil_of_length_eq_zero q)
    omega
  rcases h S hS with ⟨-, e⟩ | ⟨e, -⟩
  · have e2 := ra_cmp (S := S) hq hs hf (p' := q + 1) rfl
    rcases h2 (true :: S.tail) hl with ⟨a, b⟩ | ⟨a, b⟩
    · exact Or.inl ⟨a, true, by rw [b, ← e2, e], fun q => absurd q (by decide), h3 a⟩
    · exact Or.inr ⟨a, by rw [← e, e2, b]⟩
  · exact absurd rfl e
theorem rqT_conv {T' : Nat → Int32} {n' d' q' : Int} (h : rqT T n d p p' wr) (eT : T' = T) (e : n' = n ∧ d' = d ∧ q = p ∧ q' = p' ∧ wr' = wr) : rqT T' n' d' q q' wr' := by
  obtain ⟨rfl, rfl, rfl, rfl, rfl⟩ := e
  subst eT
  exact h
theorem rqH_conv {T' : Nat → Int32} {n' d' q' : Int} (h : rqH T n d p p' wr) (eT : T' = T) (e : n' = n ∧ d' = d ∧ q = p ∧ q' = p' ∧ wr' = wr) : rqH T' n' d' q q' wr' := by
  obtain ⟨rfl, rfl, rfl, rfl, rfl⟩ := e
  subst eT
  exact h
/-- the whole rule -/
theorem rq_rule (hT : ∀ i, 0 ≤ (T i).toInt) (h : rqH T n 0 0 q wr) (hq : 0 ≤ q ∧ q ≤ 40) (e : (wr = -1 ∧ q < n ∧ wr' = q) ∨ (wr = -1 ∧ n ≤ q ∧ wr' = -1) ∨ (wr ≠ -1 ∧ wr' = wr)) (hw : wr = -1 ∨ 0 ≤ wr) : (wr' = -1 ∧ raM T n = 0) ∨ (wr' ≠ -1 ∧ raM T n = -1 - wr') := by
  rcases h [false] rfl rfl with ⟨a, b, e1, e2, e3⟩ | ⟨a, e1⟩
  · rcases e with ⟨f1, f2, f3⟩ | ⟨f1, f2, f3⟩ | ⟨f1, f2⟩
    · refine Or.inr ⟨by omega, ?_⟩
      show raG T n 0 1 [false] = _
      rw [← e1, f3]
      refine ra_bad0 hq.2 e3 (fun z => ?_) (fun _ => rfl) (fun z => ?_)
      · unfold tC at z
        split at z
        · rw [if_pos (by omega)] at z; omega
        · rw [if_pos ⟨hq.1, f2⟩] at z
          have := hT q.toNat
          omega
      · cases b
        · exact absurd z (e2 rfl)
        · rfl
    · refine Or.inl ⟨f3, ?_⟩
      show raG T n 0 1 [false] = _
      rw [← e1]
      refine ra_end hq.2 ?_ rfl
      unfold tC
      by_cases c : 40 ≤ q
      · rw [if_pos c, if_neg (by omega)]
      · rw [if_neg c, if_neg (by omega)]
    · exact absurd a f1
  · rcases e with ⟨f1, -⟩ | ⟨f1, -⟩ | ⟨f1, f2⟩
    · exact absurd f1 a
    · exact absurd f1 a
    · exact Or.inr ⟨by omega, by show raG T n 0 1 [false] = _; rw [e1, f2]⟩
end RQ
theorem iv_i2c2 {v x : Int32} (e : v = (x.toUInt32 % 65536).toInt32) {a b lo hi : Int} (hx : Iv x a b) (h : 0 ≤ a ∧ b ≤ 65535 ∧ lo ≤ a ∧ b ≤ hi) : Iv v lo hi := by
  have q := ex_i2c e (iv_w hx ⟨h.1, h.2.1⟩)
  exact ⟨by have := hx.1; omega, by have := hx.2; omega⟩
theorem rb_char2 {x : Int32} (h : Iv x 0 255) : Iv (vp_nar .char x) 0 255 := by
  obtain ⟨n, rfl, en, hn⟩ := iv_nI h (by omega)
  have h1 := h.2
  rw [nar_id (pk_charN (by omega)).1]
  exact h
/-! the class: bits of 'compared' -/
abbrev cb (c : Int32) (j : Nat) : Bool := c.toBitVec.getLsbD j
theorem cb_and : ∀ (c : Fin 32) (d j : Fin 5), cb (nI c.val &&& ((1 <<< (nI d.val &&& 31)) ^^^ (-1))) j.val = (if j = d then false else cb (nI c.val) j.val) := by decide +kernel
theorem cb_and_r : ∀ (c : Fin 32) (d : Fin 5), 0 ≤ (nI c.val &&& ((1 <<< (nI d.val &&& 31)) ^^^ (-1))).toInt ∧ (nI c.val &&& ((1 <<< (nI d.val &&& 31)) ^^^ (-1))).toInt ≤ 31 := by decide +kernel
theorem cb_or : ∀ (c : Fin 32) (d j : Fin 5), cb (nI c.val ||| (1 <<< (nI d.val &&& 31))) j.val = (if j = d then true else cb (nI c.val) j.val) := by decide +kernel
theorem cb_or_r : ∀ (c : Fin 32) (d : Fin 5), 0 ≤ (nI c.val ||| (1 <<< (nI d.val &&& 31))).toInt ∧ (nI c.val ||| (1 <<< (nI d.val &&& 31))).toInt ≤ 31 := by decide +kernel
theorem cb_tst : ∀ (c : Fin 32) (d : Fin 5), ((nI c.val >>> (nI d.val &&& 31)) &&& 1 = 0 ∧ cb (nI c.val) d.val = false) ∨ ((nI c.val >>> (nI d.val &&& 31)) &&& 1 = 1 ∧ cb (nI c.val) d.val = true) := by decide +kernel
def rA (c d : Int32) (S : List Bool) : Prop := (S.length : Int) = d.toInt + 1 ∧ ∀ i : Nat, i < S.length → S.getD i true = cb c (d.toInt.toNat - i)
section RB
variable {c d c' d' x y v u : Int32} {S : List Bool}
theorem fn_of {c : Int32} {a b : Int} {k : Nat} (h : Iv c a b) (h2 : 0 ≤ a ∧ b < (k : Int)) (hk : k ≤ 1000) : ∃ q : Fin k, c = nI q.val ∧ c.toInt = (q.val : Int) := by
  obtain ⟨n, rfl, en, hn⟩ := iv_nI h (by omega)
  have e : (nI n).toInt = (n : Int) := nI_toInt (by omega)
  exact ⟨⟨n, by have := h.2; rw [e] at this; omega⟩, rfl, e⟩
theorem iv_cl (hc : Iv c 0 31) (hd : Iv d 0 4) (ex : x = 1 <<< (d &&& 31)) (ey : y = x ^^^ (-1)) (ev : v = c &&& y) : Iv v 0 31 := by
  obtain ⟨q, e1, -⟩ := fn_of (k := 32) hc (by decide) (by decide)
  obtain ⟨r, e2, -⟩ := fn_of (k := 5) hd (by decide) (by decide)
  subst e1 e2 ex ey ev
  exact cb_and_r q r
theorem iv_co (hc : Iv c 0 31) (hd : Iv d 0 4) (ex : x = 1 <<< (d &&& 31)) (ev : v = c ||| x) : Iv v 0 31 := by
  obtain ⟨q, e1, -⟩ := fn_of (k := 32) hc (by decide) (by decide)
  obtain ⟨r, e2, -⟩ := fn_of (k := 5) hd (by decide) (by decide)
  subst e1 e2 ex ev
  exact cb_or_r q r
theorem rA_0 (hc : c.toInt = 0) (hd : d.toInt = 0) : rA c d [false] := by
  have e : c = 0 := i32_eq (hc.trans (by decide))
  subst e
  refine ⟨by rw [hd]; rfl, fun i hi => ?_⟩
  have hi : i = 0 := by simp at hi; exact hi
  subst hi
  rw [hd]
  decide
theorem rA_head (h : rA c d S) (hd : Iv d 0 4) : S.headD true = cb c d.toInt.toNat := by
  cases S with
  | nil => have := h.1; simp at this; have := hd.1; omega
  | cons b S => exact h.2 0 (by simp)
theorem rA_tst (h : rA c d S) (hc : Iv c 0 31) (hd : Iv d 0 4) (ex : x = c >>> (d &&& 31)) (ev : v = x &&& 1) : (v.toInt = 0 ∧ S.headD true = false) ∨ (v.toInt = 1 ∧ S.headD true = true) := by
  rw [rA_head h hd]
  obtain ⟨q, e1, -⟩ := fn_of (k := 32) hc (by decide) (by decide)
  obtain ⟨r, e2, e3⟩ := fn_of (k := 5) hd (by decide) (by decide)
  rw [show d.toInt.toNat = r.val by omega]
  subst e1 e2 ex ev
  rcases cb_tst q r with ⟨a, b⟩ | ⟨a, b⟩
  · exact Or.inl ⟨by rw [a]; decide, b⟩
  · exact Or.inr ⟨by rw [a]; decide, b⟩
theorem rA_open (h : rA c d S) (hc : Iv c 0 31) (hd : Iv d 0 3) (ed : d'.toInt = d.toInt + 1) (ex : x = 1 <<< (d' &&& 31)) (ey : y = x ^^^ (-1)) (ev : v = c &&& y) (e : c' = v) : rA c' d' (false :: S) := by
  have hd' : Iv d' 0 4 := ⟨by have := hd.1; omega, by have := hd.2; omega⟩
  obtain ⟨q, e1, -⟩ := fn_of (k := 32) hc (by decide) (by decide)
  obtain ⟨r, e2, e3⟩ := fn_of (k := 5) hd' (by decide) (by decide)
  have hb : ∀ j : Nat, j < 5 → cb c' j = (if j = d'.toInt.toNat then false else cb c j) := fun j hj => by
    have := cb_and q r ⟨j, hj⟩
    rw [e, ev, ey, ex, e1, e2, this]
    by_cases z : j = r.val
    · rw [if_pos (Fin.ext z), if_pos (by rw [← e2, e3]; omega)]
    · rw [if_neg (fun z2 => z (congrArg Fin.val z2)), if_neg (by rw [← e2, e3]; omega)]
  have hr := r.isLt
  refine ⟨by rw [List.length_cons]; have := h.1; omega, fun i hi => ?_⟩
  cases i with
  | zero => rw [hb _ (by omega), if_pos (by omega)]; rfl
  | succ i =>
    rw [List.length_cons] at hi
    have h1 := h.1
    rw [hb _ (by omega), if_neg (by omega), show d'.toInt.toNat - (i + 1) = d.toInt.toNat - i by omega, ← h.2 i (by omega)]
    rfl
theorem rA_cmp (h : rA c d S) (hc : Iv c 0 31) (hd : Iv d 0 4) (ex : x = 1 <<< (d &&& 31)) (ev : v = c ||| x) (e : c' = v) : rA c' d (true :: S.tail) := by
  obtain ⟨q, e1, -⟩ := fn_of (k := 32) hc (by decide) (by decide)
  obtain ⟨r, e2, e3⟩ := fn_of (k := 5) hd (by decide) (by decide)
  have hb : ∀ j : Nat, j < 5 → cb c' j = (if j = d.toInt.toNat then true else cb c j) := fun j hj => by
    have := cb_or q r ⟨j, hj⟩
    rw [e, ev, ex, e1, e2, this]
    by_cases z : j = r.val
    · rw [if_pos (Fin.ext z), if_pos (by rw [← e2, e3]; omega)]
    · rw [if_neg (fun z2 => z (congrArg Fin.val z2)), if_neg (by rw [← e2, e3]; omega)]
  have hr := r.isLt
  have h1 := h.1
  cases S with
  | nil => simp at h1; have := hd.1; omega
  | cons b S =>
    rw [List.length_cons] at h1
    refine ⟨by rw [List.length_cons]; exact h1, fun i hi => ?_⟩
    cases i with
    | zero => rw [hb _ (by omega), if_pos (by omega)]; rfl
    | succ i =>
      rw [List.length_cons] at hi
      have hi : i < S.length := by simpa using hi
      rw [hb _ (by omega), if_neg (by omega), ← h.2 (i + 1) (by rw [List.length_cons]; omega)]
      rfl
theorem rA_close (h : rA c d S) (hd : Iv d 1 4) (ed : d'.toInt = d.toInt - 1) (e : c' = c) : S.tail ≠ [] ∧ rA c' d' S.tail := by
  have h1 := h.1
  have h2 := hd.1
  cases S with
  | nil => simp at h1; omega
  | cons b S =>
    rw [List.length_cons] at h1
    refine ⟨fun q => by have q : S = [] := q; rw [q] at h1; simp at h1; omega, by show (S.length : Int) = _; omega, fun i hi => ?_⟩
    have hi : i < S.length := hi
    have := h.2 (i + 1) (by rw [List.length_cons]; omega)
    rw [e, show d'.toInt.toNat - i = d.toInt.toNat - (i + 1) by omega, ← this]
    rfl
theorem rA_len (h : rA c d S) : (S.length : Int) = d.toInt + 1 := h.1
theorem rA_tail0 (h : rA c d S) (hd : d.toInt = 0) : S.tail = [] := by
  have h1 := h.1
  cases S with
  | nil => rfl
  | cons b S => rw [List.length_cons] at h1; exact List.eq_nil_of_length_eq_zero (by show S.length = 0; omega)
theorem rA_eq (h : rA c d S) (e1 : c' = c) (e2 : d' = d) : rA c' d' S := by rw [e1, e2]; exact h
end RB
/-- what stands behind a step of the class: a stack that fits, from which the automaton goes to the same end -/
def rK (T : Nat → Int32) (n R p w : Int) (c d : Int32) : Prop := ∃ S : List Bool, rA c d S ∧ raG T n p w S = R
section RK
variable {T : Nat → Int32} {n R p w p' w' : Int} {c d c' d' x y v u : Int32}
theorem rK_eq (h : rK T n R p w c d) (e1 : c' = c) (e2 : d' = d) (e3 : p' = p ∧ w' = w) : rK T n R p' w' c' d' := by
  obtain ⟨rfl, rfl⟩ := e3
  rw [e1, e2]
  exact h
theorem rK_0 (hc : c.toInt = 0) (hd : d.toInt = 0) (e : p = 0 ∧ w = 1) : rK T n (raM T n) p w c d := by
  obtain ⟨rfl, rfl⟩ := e
  exact ⟨[false], rA_0 hc hd, rfl⟩
theorem rK_neg (h : rK T n R p 1 c d) (hp : p ≤ 40) (hs : tC T n 40 p = 45) : rK T n R (p + 1) 1 c d := by
  obtain ⟨S, h1, h2⟩ := h
  exact ⟨S, h1, by rw [← h2]; exact (ra_neg hp hs rfl).symm⟩
theorem rK_open (h : rK T n R p 1 c d) (hp : p ≤ 40) (hs : tC T n 40 p = 40) (hc : Iv c 0 31) (hd : Iv d 0 3) (ed : d'.toInt = d.toInt + 1) (ex : x = 1 <<< (d' &&& 31)) (ey : y = x ^^^ (-1)) (ev : v = c &&& y) : rK T n R (p + 1) 1 v d' := by
  obtain ⟨S, h1, h2⟩ := h
  refine ⟨false :: S, rA_open h1 hc hd ed ex ey ev rfl, ?_⟩
  rw [← h2]
  exact (ra_open hp hs (by have := h1.1; have := hd.2; omega) rfl).symm
theorem rK_let (h : rK T n R p 1 c d) (hp : p ≤ 40) (hs : tC T n 40 p = 103 ∨ tC T n 40 p = 115 ∨ tC T n 40 p = 116 ∨ tC T n 40 p = 114 ∨ tC T n 40 p = 109 ∨ tC T n 40 p = 111 ∨ tC T n 40 p = 101 ∨ tC T n 40 p = 105 ∨ tC T n 40 p = 107) : rK T n R (p + 1) 0 c d := by
  obtain ⟨S, h1, h2⟩ := h
  exact ⟨S, h1, by rw [← h2]; exact (ra_let hp hs rfl).symm⟩
theorem rK_num (h : rK T n R p 1 c d) (hp : p ≤ 40) (hs : 48 ≤ tC T n 40 p ∧ tC T n 40 p ≤ 57) (e : ((p' = p + 1 ∧ p + 1 ≤ 40 ∧ ¬ (48 ≤ tC T n 40 (p + 1) ∧ tC T n 40 (p + 1) ≤ 57)) ∨ (p' = p + 2 ∧ p + 2 ≤ 40 ∧ (48 ≤ tC T n 40 (p + 1) ∧ tC T n 40 (p + 1) ≤ 57) ∧ ¬ (48 ≤ tC T n 40 (p + 2) ∧ tC T n 40 (p + 2) ≤ 57)) ∨ (p' = p + 3 ∧ p + 2 ≤ 40 ∧ (48 ≤ tC T n 40 (p + 1) ∧ tC T n 40 (p + 1) ≤ 57) ∧ (48 ≤ tC T n 40 (p + 2) ∧ tC T n 40 (p + 2) ≤ 57)))) : rK T n R p' 0 c d := by
  obtain ⟨S, h1, h2⟩ := h
  refine ⟨S, h1, ?_⟩
  rw [← h2]
  rcases rqT_num (d := d.toInt) (wr := -1) hp hs ⟨rfl, e⟩ S h1.1 with q | q
  · exact q.2
  · exact absurd rfl q.1
theorem rK_bad1 (h : rK T n R p 1 c d) (hp : p ≤ 40) (hs : tC T n 40 p ≠ 45 ∧ (tC T n 40 p = 40 → 4 ≤ d.toInt) ∧ ¬ (48 ≤ tC T n 40 p ∧ tC T n 40 p ≤ 57) ∧ ¬ (tC T n 40 p = 103 ∨ tC T n 40 p = 115 ∨ tC T n 40 p = 116 ∨ tC T n 40 p = 114 ∨ tC T n 40 p = 109 ∨ tC T n 40 p = 111 ∨ tC T n 40 p = 101 ∨ tC T n 40 p = 105 ∨ tC T n 40 p = 107)) : R = -1 - p := by
  obtain ⟨S, h1, h2⟩ := h
  rw [← h2]
  exact ra_bad1 hp ⟨hs.1, fun q => by have := hs.2.1 q; have := h1.1; omega, hs.2.2.1, hs.2.2.2⟩
theorem rK_end (h : rK T n R p 0 c d) (hp : p ≤ 40) (hs : tC T n 40 p = -1) (hd : d.toInt = 0) : R = 0 := by
  obtain ⟨S, h1, h2⟩ := h
  rw [← h2]
  exact ra_end hp hs (rA_tail0 h1 hd)
theorem rK_close (h : rK T n R p 0 c d) (hp : p ≤ 40) (hs : tC T n 40 p = 41) (hd : Iv d 1 4) (ed : d'.toInt = d.toInt - 1) : rK T n R (p + 1) 0 c d' := by
  obtain ⟨S, h1, h2⟩ := h
  obtain ⟨h3, h4⟩ := rA_close h1 hd ed rfl
  exact ⟨S.tail, h4, by rw [← h2]; exact (ra_close hp hs h3 rfl).symm⟩
theorem rK_cmp (h : rK T n R p 0 c d) (hp : p ≤ 40) (hs : tC T n 40 p = 60 ∨ tC T n 40 p = 61 ∨ tC T n 40 p = 62) (hc : Iv c 0 31) (hd : Iv d 0 4) (e1 : x = c >>> (d &&& 31)) (e2 : y = x &&& 1) (hy : y.toInt = 0) (ex : u = 1 <<< (d &&& 31)) (ev : v = c ||| u) : rK T n R (p + 1) 1 v d := by
  obtain ⟨S, h1, h2⟩ := h
  have ht : S.headD true = false := by
    rcases rA_tst h1 hc hd e1 e2 with q | q
    · exact q.2
    · have := q.1; omega
  exact ⟨true :: S.tail, rA_cmp h1 hc hd ex ev rfl, by rw [← h2]; exact (ra_cmp hp hs ht rfl).symm⟩
theorem rK_op (h : rK T n R p 0 c d) (hp : p ≤ 40) (hs : tC T n 40 p = 42 ∨ tC T n 40 p = 43 ∨ tC T n 40 p = 45 ∨ tC T n 40 p = 47) : rK T n R (p + 1) 1 c d := by
  obtain ⟨S, h1, h2⟩ := h
  exact ⟨S, h1, by rw [← h2]; exact (ra_op hp hs rfl).symm⟩
theorem rK_bad0 (h : rK T n R p 0 c d) (hp : p ≤ 40) (hd : 0 ≤ d.toInt) (hs : ¬ (tC T n 40 p = 42 ∨ tC T n 40 p = 43 ∨ tC T n 40 p = 45 ∨ tC T n 40 p = 47)) (h9 : ¬ (tC T n 40 p = 60 ∨ tC T n 40 p = 61 ∨ tC T n 40 p = 62)) (h1 : tC T n 40 p = -1 → d.toInt ≠ 0) (h2 : tC T n 40 p = 41 → d.toInt = 0) : R = -1 - p := by
  obtain ⟨S, a1, a2⟩ := h
  rw [← a2]
  refine ra_bad0 hp hs (fun q => ?_) (fun q => rA_tail0 a1 (h2 q)) (fun q => absurd q h9)
  have h3 := h1 q
  intro z
  have h4 := a1.1
  cases S with
  | nil => simp at h4; omega
  | cons b S => have z : S = [] := z; rw [z] at h4; simp at h4; omega
theorem rK_bad2 (h : rK T n R p 0 c d) (hp : p ≤ 40) (hs : tC T n 40 p = 60 ∨ tC T n 40 p = 61 ∨ tC T n 40 p = 62) (hc : Iv c 0 31) (hd : Iv d 0 4) (e1 : x = c >>> (d &&& 31)) (e2 : y = x &&& 1) (hy : y.toInt ≠ 0) : R = -1 - p := by
  obtain ⟨S, a1, a2⟩ := h
  rw [← a2]
  have ht : S.headD true = true := by
    rcases rA_tst a1 hc hd e1 e2 with q | q
    · exact absurd q.1 hy
    · exact q.2
  exact ra_bad0 hp (by omega) (fun q => by omega) (fun q => by omega) (fun _ => ht)
end RK
/-! the rule that is there at first -/
theorem ch_id {a v u r : Int32} (h : Iv a 0 12) (e1 : v = (oByt.getD 0 []).getD a.toNatClampNeg 0) (e2 : u = v &&& 255) (e3 : r = (u.toUInt32 % 65536).toInt32) : r = (fun i => (oByt.getD 0 []).getD i 0) a.toNatClampNeg := by
  obtain ⟨q, e, -⟩ := fn_of (k := 13) h (by decide) (by decide)
  subst e1 e2 e3 e
  exact (by decide +kernel : ∀ q : Fin 13, (((oByt.getD 0 []).getD (nI q.val).toNatClampNeg 0 &&& 255).toUInt32 % 65536).toInt32 = (oByt.getD 0 []).getD (nI q.val).toNatClampNeg 0) q
theorem ch_nar {a r : Int32} (h : Iv a 0 12) (e : r = (fun i => (oByt.getD 0 []).getD i 0) a.toNatClampNeg) : vp_nar .char r = (fun i => (oByt.getD 0 []).getD i 0) a.toNatClampNeg := by
  obtain ⟨q, e1, -⟩ := fn_of (k := 13) h (by decide) (by decide)
  subst e e1
  exact (by decide +kernel : ∀ q : Fin 13, vp_nar .char ((oByt.getD 0 []).getD (nI q.val).toNatClampNeg 0) = (oByt.getD 0 []).getD (nI q.val).toNatClampNeg 0) q
theorem fill_t {f g : Nat → Int32} {k k2 x : Int32} {b : Int} (h : ∀ i : Nat, (i : Int) < k.toInt → f i = g i) (e : k2.toInt = k.toInt + 1) (hk : Iv k 0 b) (hx : x = g k.toNatClampNeg) : ∀ i : Nat, (i : Int) < k2.toInt → upd f k.toNatClampNeg x i = g i := fun i hi => by
  have hn : (k.toNatClampNeg : Int) = k.toInt := nat_of hk (by decide)
  by_cases c : i = k.toNatClampNeg
  · rw [c, pk_us]; exact hx
  · rw [pk_un c]; exact h i (by omega)
theorem ra_plain0 : raM (fun i => (oByt.getD 0 []).getD i 0) 13 = 0 := by decide +kernel
theorem ra_plain {f : Nat → Int32} (h : ∀ i : Nat, (i : Int) < 13 → f i = (fun i => (oByt.getD 0 []).getD i 0) i) : raM f 13 = 0 := (ra_congr h _ _ _ _).trans ra_plain0
theorem hr_two {f g : Nat → Int32} {a l t v : Int32} {n p m : Int} (e : v = hr_F f a l t) (ef : f = g) (hl : l.toInt = n) (ht : t.toInt = m) (ha : a.toInt = p) (h0 : 0 ≤ p) :
    (v.toInt = tC (fun i => g i &&& 255) n m p ∧ 0 ≤ v.toInt ∧ v.toInt ≤ 255 ∧ p < n ∧ p < m) ∨ (v.toInt = -1 ∧ tC (fun i => g i &&& 255) n m p < 0) := by
  rcases hr_tC e ef hl ht ha h0 with h | h | h
  · exact Or.inl ⟨h.2.2.1, h.2.2.2.1, h.2.2.2.2, h.1, h.2.1⟩
  · exact Or.inr ⟨h.2.2.1, by omega⟩
  · exact Or.inr ⟨h.2.2.1, by omega⟩
/-! the reference's oneOf and passes -/
def O1 (T : Nat → Int32) (n m lo hi w a w' a' r : Int) : Prop := (w ≠ -1 ∧ w' = w ∧ a' = a) ∨ (w = -1 ∧ (lo ≤ tC T n m a ∧ tC T n m a ≤ hi) ∧ w' = -1 ∧ a' = a + 1 ∧ r = tC T n m a - lo) ∨ (w = -1 ∧ ¬ (lo ≤ tC T n m a ∧ tC T n m a ≤ hi) ∧ w' = a ∧ a' = a)
def PS (T : Nat → Int32) (n m c w a a' r : Int) : Prop := (r = 1 ∧ w = -1 ∧ tC T n m a = c ∧ a' = a + 1) ∨ (r = 0 ∧ (w ≠ -1 ∨ tC T n m a ≠ c) ∧ a' = a)
section OP
variable {T T' : Nat → Int32} {n m lo hi w a w' a' r n' m' lo' hi' c c' w1 a1 w2 a2 x y co ro p : Int}
theorem o1_cv (h : O1 T n m lo hi w a w' a' r) (eT : T' = T) (e : n' = n ∧ m' = m ∧ lo' = lo ∧ hi' = hi) : O1 T' n' m' lo' hi' w a w' a' r := by
  obtain ⟨rfl, rfl, rfl, rfl⟩ := e
  subst eT
  exact h
theorem ps_cv (h : PS T n m c w a a' r) (eT : T' = T) (e : n' = n ∧ m' = m ∧ c' = c) : PS T' n' m' c' w a a' r := by
  obtain ⟨rfl, rfl, rfl⟩ := e
  subst eT
  exact h
theorem o_nf (h : O1 T n m lo hi w a w' a' r) (e : w ≠ -1) : w' = w ∧ a' = a := by
  rcases h with h | h | h
  · exact h.2
  · exact absurd h.1 e
  · exact absurd h.1 e
theorem o_ok (h : O1 T n m lo hi w a w' a' r) (e : w = -1) (e2 : w' = -1) (ha : a ≠ -1) : (lo ≤ tC T n m a ∧ tC T n m a ≤ hi) ∧ a' = a + 1 ∧ r = tC T n m a - lo := by
  rcases h with h | h | h
  · exact absurd e h.1
  · exact ⟨h.2.1, h.2.2.2.1, h.2.2.2.2⟩
  · exact absurd (h.2.2.1.symm.trans e2) ha
theorem o_no (h : O1 T n m lo hi w a w' a' r) (e : w = -1) (e2 : w' ≠ -1) : ¬ (lo ≤ tC T n m a ∧ tC T n m a ≤ hi) ∧ w' = a ∧ a' = a := by
  rcases h with h | h | h
  · exact absurd e h.1
  · exact absurd h.2.2.1 e2
  · exact h.2
theorem ps_1 (h : PS T n m c w a a' r) (e : r ≠ 0) : w = -1 ∧ tC T n m a = c ∧ a' = a + 1 := by
  rcases h with h | h
  · exact h.2
  · exact absurd h.1 e
theorem ps_0 (h : PS T n m c w a a' r) (e : r = 0) : (w ≠ -1 ∨ tC T n m a ≠ c) ∧ a' = a := by
  rcases h with h | h
  · exact absurd (h.1.symm.trans e) (by decide)
  · exact h.2
theorem rd5_nf (o1 : O1 T n m 97 (96 + co) w p w1 a1 x) (o2 : O1 T n m 49 (48 + ro) w1 a1 w2 a2 y) (e : w = -1) (e2 : w2 ≠ -1) (hp : 0 ≤ p) : (¬ (97 ≤ tC T n m p ∧ tC T n m p ≤ 96 + co) ∧ w2 = p) ∨ ((97 ≤ tC T n m p ∧ tC T n m p ≤ 96 + co) ∧ ¬ (49 ≤ tC T n m (p + 1) ∧ tC T n m (p + 1) ≤ 48 + ro) ∧ w2 = p + 1) := by
  by_cases c : w1 = -1
  · obtain ⟨h1, h2, -⟩ := o_ok o1 e c (by omega)
    obtain ⟨h3, h4, -⟩ := o_no o2 c e2
    subst h2
    exact Or.inr ⟨h1, h3, h4⟩
  · obtain ⟨h1, h2, -⟩ := o_no o1 e c
    have h3 := o_nf o2 c
    exact Or.inl ⟨h1, h3.1.trans h2⟩
theorem rd5_f (o1 : O1 T n m 97 (96 + co) w p w1 a1 x) (o2 : O1 T n m 49 (48 + ro) w1 a1 w2 a2 y) (e : w = -1) (e2 : w2 = -1) (hp : 0 ≤ p) : (97 ≤ tC T n m p ∧ tC T n m p ≤ 96 + co) ∧ (49 ≤ tC T n m (p + 1) ∧ tC T n m (p + 1) ≤ 48 + ro) ∧ a2 = p + 2 ∧ x = tC T n m p - 97 ∧ y = tC T n m (p + 1) - 49 := by
  by_cases c : w1 = -1
  · obtain ⟨h1, h2, h3⟩ := o_ok o1 e c (by omega)
    subst h2
    obtain ⟨h4, h5, h6⟩ := o_ok o2 c e2 (by omega)
    exact ⟨h1, h4, by omega, h3, h6⟩
  · exact absurd ((o_nf o2 c).1.symm.trans e2) c
end OP
theorem and255_k : ∀ k : Fin 256, (((Int32.ofInt ((k.val : Int) - 128)) &&& 255).toInt = (k.val : Int) - 128 ∧ 128 ≤ k.val) ∨ (((Int32.ofInt ((k.val : Int) - 128)) &&& 255).toInt = (k.val : Int) + 128 ∧ k.val < 128) := by decide +kernel
theorem and255 {x : Int32} (h : Iv x (-128) 127) : (0 ≤ x.toInt ∧ (x &&& 255).toInt = x.toInt) ∨ (x.toInt < 0 ∧ (x &&& 255).toInt = x.toInt + 256) := by
  have h1 := h.1
  have h2 := h.2
  have e : x = Int32.ofInt ((((x.toInt + 128).toNat : Nat) : Int) - 128) := by
    rw [show (((x.toInt + 128).toNat : Nat) : Int) - 128 = x.toInt by omega]
    exact (Int32.ofInt_toInt x).symm
  have q := and255_k ⟨(x.toInt + 128).toNat, by omega⟩
  rw [← e] at q
  have z : ((⟨(x.toInt + 128).toNat, by omega⟩ : Fin 256).val : Int) = x.toInt + 128 := by
    show (((x.toInt + 128).toNat : Nat) : Int) = x.toInt + 128
    omega
  omega
section OP
variable {T T' : Nat → Int32} {n m lo hi w a w' a' r n' m' lo' hi' c c' w1 a1 w2 a2 x y co ro p : Int}
theorem o_or (h : O1 T n m lo hi w a w' a' r) : w = -1 ∨ (w' = w ∧ a' = a) := by
  rcases h with h | h | h
  · exact Or.inr h.2
  · exact Or.inl h.1
  · exact Or.inl h.1
theorem o_in (h : O1 T n 40 41 41 w a w' a' r) (h0 : 0 ≤ a) : (w = -1 ∧ tC T n 40 a = 41 ∧ a' = a + 1 ∧ w' = -1) ∨ (w = -1 ∧ tC T n 40 a ≠ 41 ∧ w' = a ∧ 0 ≤ a) ∨ (w ≠ -1 ∧ w' = w) := by
  rcases h with h | h | h
  · exact Or.inr (Or.inr ⟨h.1, h.2.1⟩)
  · exact Or.inl ⟨h.1, by omega, h.2.2.2.1, h.2.2.1⟩
  · exact Or.inr (Or.inl ⟨h.1, by omega, h.2.2.1, h0⟩)
theorem o_yes (h : O1 T n m lo hi w a w' a' r) (e : w = -1) (i : lo ≤ tC T n m a ∧ tC T n m a ≤ hi) : w' = -1 ∧ a' = a + 1 := by
  rcases h with h | h | h
  · exact absurd e h.1
  · exact ⟨h.2.2.1, h.2.2.2.1⟩
  · exact absurd i h.2.1
end OP
theorem no4 {t : Int} (h : t ≠ 42 ∧ t ≠ 43 ∧ t ≠ 45 ∧ t ≠ 47) : ¬ (t = 42 ∨ t = 43 ∨ t = 45 ∨ t = 47) := by omega
theorem no3 {t : Int} (h1 : t ≠ 60) (h2 : t ≠ 62) (h3 : t ≠ 61) : ¬ (t = 60 ∨ t = 61 ∨ t = 62) := by omega
