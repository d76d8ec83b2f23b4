/-! ===== the making of objects and rows ===== -/
theorem oMb_hi {j : Nat} {x : Int32} (h : 704 ≤ j) : oMb j x := by
  unfold oMb
  split <;> first | trivial | (exfalso; omega)
theorem oRb_0 (t i : Nat) : oRb t i 0 := by
  unfold oRb
  split <;> first | trivial | exact ⟨by decide, by decide⟩ | (intro _; exact ⟨by decide, by decide⟩) | (intro _ _; exact ⟨by decide, by decide⟩)
def oZ (σ : oSt) (q : Nat) : oSt := (fun j b => if b = q then 0 else σ.1 j b, fun j b => if b = q then 0 else σ.2.1 j b, fun b => if b = q then (fun _ => 0) else σ.2.2.1 b, fun b => if b = q then (fun _ => 0) else σ.2.2.2.1 b, fun j b => if b = q then none else σ.2.2.2.2 j b)
/-- the world with one more at q, of the tag t, all zero -/
def oG (L : List Nat) (τ : Nat → Nat) (σ : oSt) (q t : Nat) (L1 : List Nat) (τ1 : Nat → Nat) (σ1 : oSt) : Prop := L1 = L ++ [q] ∧ q ∉ L ∧ τ1 = va_up τ q t ∧ σ1 = oZ σ q
def oDf (c : Nat) : Value := if c = 0 then .int 0 else if c = 1 then .long 0 else .null
theorem oZ_vs (σ : oSt) (q : Nat) : ∀ (cs : List Nat) (j : Nat), oVs (oZ σ q) q j cs = cs.map oDf
  | [], _ => rfl
  | c :: cs, j => by
    simp only [oVs, List.map_cons, oZ_vs σ q cs (j + 1)]
    congr 1
    simp only [oV, oZ, oDf, if_true]
    rfl
theorem oE_same {cy : Nat → ClassId} {τ τ' : Nat → Nat} {σ σ' : oSt} {b : Nat} (ht : τ' b = τ b) (h1 : ∀ j, σ'.1 j b = σ.1 j b) (h2 : ∀ j, σ'.2.1 j b = σ.2.1 j b) (h3 : σ'.2.2.1 b = σ.2.2.1 b) (h4 : σ'.2.2.2.1 b = σ.2.2.2.1 b) (h5 : ∀ j, σ'.2.2.2.2 j b = σ.2.2.2.2 j b) : oE cy τ' σ' b = oE cy τ σ b := by
  rw [show oE cy τ' σ' b = oE cy τ σ' b by simp only [oE, ht]]
  exact oE_other h1 h2 h3 h4 h5
section MK
variable {p : Program} {l : Launch} {e : Env} {R : Room} {s : State} {m : MethodId} {args : Array Value} {below : List Frame} {meth : Method} {c : Code} {H : Heap} {locs : List Loc} {cells slots : Nat} {Q : State → Prop}
variable {cc : ByteArray} {nL pc : Nat} {ls : Array Slot} {rest : List Value} {A : Nat → Prop} {L L1 L2 : List Nat} {τ τ1 τ2 : Nat → Nat} {cy : Nat → ClassId} {D : va_G} {K : (Nat → Nat) × (Nat → Nat)} {H0 : Heap} {σ σ1 σ2 : oSt} {own ref C : String} {T : u_T} {N index : Nat} {a b q t u j : Nat}
theorem oG_ne (g : oG L τ σ q t L1 τ1 σ1) (h : oA L τ b u) : b ≠ q := fun e => g.2.1 (by rw [← e]; exact h.1)
theorem oG_a (g : oG L τ σ q t L1 τ1 σ1) (h : oA L τ b u) : oA L1 τ1 b u := by
  have hn := oG_ne g h
  obtain ⟨rfl, -, rfl, -⟩ := g
  exact ⟨List.mem_append_left _ h.1, by rw [va_up, if_neg hn]; exact h.2⟩
theorem oG_q (g : oG L τ σ q t L1 τ1 σ1) : oA L1 τ1 q t := by
  obtain ⟨rfl, -, rfl, -⟩ := g
  exact ⟨List.mem_append_right _ (List.mem_singleton.mpr rfl), by rw [va_up, if_pos rfl]⟩
theorem oG_i (g : oG L τ σ q t L1 τ1 σ1) (h : oA L τ b u) : σ1.1 j b = σ.1 j b := by
  have hn := oG_ne g h
  rw [g.2.2.2]; simp only [oZ, if_neg hn]
theorem oG_l (g : oG L τ σ q t L1 τ1 σ1) (h : oA L τ b u) : σ1.2.1 j b = σ.2.1 j b := by
  have hn := oG_ne g h
  rw [g.2.2.2]; simp only [oZ, if_neg hn]
theorem oG_r (g : oG L τ σ q t L1 τ1 σ1) (h : oA L τ b u) : σ1.2.2.2.2 j b = σ.2.2.2.2 j b := by
  have hn := oG_ne g h
  rw [g.2.2.2]; simp only [oZ, if_neg hn]
theorem oG_w (g : oG L τ σ q t L1 τ1 σ1) (h : oA L τ b u) : σ1.2.2.1 b = σ.2.2.1 b := by
  have hn := oG_ne g h
  rw [g.2.2.2]; simp only [oZ, if_neg hn]
theorem oG_zi (g : oG L τ σ q t L1 τ1 σ1) : σ1.1 j q = 0 := by rw [g.2.2.2]; simp only [oZ, if_true]
theorem oG_zl (g : oG L τ σ q t L1 τ1 σ1) : σ1.2.1 j q = 0 := by rw [g.2.2.2]; simp only [oZ, if_true]
theorem oG_zw (g : oG L τ σ q t L1 τ1 σ1) : σ1.2.2.1 q = fun _ => 0 := by rw [g.2.2.2]; simp only [oZ, if_true]
theorem oG_pl (g : oG L τ σ q t L1 τ1 σ1) : oPl cy L1 τ1 σ1 = oPl cy L τ σ ++ [(q, oE cy τ1 σ1 q)] := by
  have hm : ∀ b ∈ L, oE cy τ1 σ1 b = oE cy τ σ b := fun b hb => by
    have h : oA L τ b (τ b) := ⟨hb, rfl⟩
    refine oE_same (oG_a g h).2 (fun _ => oG_i g h) (fun _ => oG_l g h) (oG_w g h) ?_ (fun _ => oG_r g h)
    have hn := oG_ne g h
    rw [g.2.2.2]; simp only [oZ, if_neg hn]
  show va_pl L1 _ = _
  rw [g.1]
  simp only [va_pl, List.map_append, List.map_cons, List.map_nil]
  congr 1
  exact List.map_congr_left (fun b hb => by rw [hm b hb])
theorem oG_I (g : oG L τ σ q t L1 τ1 σ1) (hw : oI A L τ cy D H0 σ H locs) {H1 : Heap} (hP : va_P D vwCl (oPl cy L τ σ ++ [(q, oE cy τ1 σ1 q)]) H1) (hD : va_D A (oPl cy L τ σ ++ [(q, oE cy τ1 σ1 q)])) (hS : va_S A H0 H1 locs) (ht : 11 ≤ t) (htg : ∀ j, oTg t j = none) : oI A L1 τ1 cy D H0 σ1 H1 locs := by
  rw [← oG_pl g] at hP hD
  have hq := oG_q g
  refine ⟨hP, hD, hS, fun j a ha => ?_, fun a i => ?_, fun j a t2 h1 h2 => ?_⟩
  · by_cases h : a = q
    · subst h; rw [hq.2] at ha; exact oMb_hi (by omega)
    · have e1 : σ1.1 j a = σ.1 j a := by rw [g.2.2.2]; simp only [oZ, if_neg h]
      have e2 : τ1 a = τ a := by rw [g.2.2.1, va_up, if_neg h]
      rw [e1]; exact hw.2.2.2.1 j a (by rw [← e2]; exact ha)
  · by_cases h : a = q
    · subst h; rw [oG_zw g]; exact oRb_0 _ _
    · have e1 : σ1.2.2.1 a = σ.2.2.1 a := by rw [g.2.2.2]; simp only [oZ, if_neg h]
      have e2 : τ1 a = τ a := by rw [g.2.2.1, va_up, if_neg h]
      rw [e1, e2]; exact hw.2.2.2.2.1 a i
  · by_cases h : a = q
    · subst h; rw [hq.2, htg] at h1; cases h1
    · have e2 : τ1 a = τ a := by rw [g.2.2.1, va_up, if_neg h]
      have h3 : a ∈ L := by
        rw [g.1] at h2
        rcases List.mem_append.mp h2 with h4 | h4
        · exact h4
        · exact absurd (List.mem_singleton.mp h4) h
      obtain ⟨b, h5, h6⟩ := hw.2.2.2.2.2 j a t2 (by rw [← e2]; exact h1) h3
      exact ⟨b, (oG_r g (⟨h3, rfl⟩ : oA L τ a (τ a))).trans h5, oG_a g h6⟩
theorem oTg_raw (h : 16 ≤ t) (h2 : t < 32) (j : Nat) : oTg t j = none := by
  unfold oTg
  split <;> first | rfl | (exfalso; omega)
/-- 'new' of a class -/
theorem o_new (cx : oCx p s m args c cc nL own cy D A K) (hA : ∀ q, s.heap.size ≤ q → A q) (hw : oI A L τ cy D s.heap σ H locs) (ci : Nat) (hci : ci < 11) (hc : vwCl[ci]? = some (C, T, N)) (hin : ∀ w ∈ u_ws C T N, w ∈ oTT) (ty : Nat → FieldType) (hty : ∀ k, k < N → parseFieldDescriptor (T k).2.2.1 = some (ty k)) (hdf : ∀ j, j < N → defaultValue (ty j) = vp_V ((oFty ci).map oDf) j) (hcl : Cond.classLink own index C ∈ oTT) (hinst : Cond.instantiable C N ∈ oTT) (hini : Cond.initialized C ∈ oTT) (hcells : cells + 1 ≤ R.cells) (hslots : slots + N ≤ R.slots) (hdg : decode cc pc = .ok (.new index, 3))
    (kk : ∀ (q : Nat) (L1 : List Nat) (τ1 : Nat → Nat) (σ1 : oSt) (H1 : Heap), oG L τ σ q (16 + ci) L1 τ1 σ1 → oI A L1 τ1 cy D s.heap σ1 H1 locs → W p l e R s m args below meth c H1 locs (cells + 1) (slots + N) Q (F0 m (pc + 3) ls (.ref q :: rest))) : W p l e R s m args below meth c H locs cells slots Q (F0 m pc ls rest) := by
  obtain ⟨⟨hx, hb, hml, hown, hts⟩, hK, hXs⟩ := cx
  refine va_new hx hb hts hin ty hty hown (hts _ hcl) (hts _ hinst) (hts _ hini) hK hw.1 hw.2.1 hw.2.2.1 hA hc (fs := (oFty ci).map oDf) hdf hcells hslots hdg (fun q H1 hP1 hD1 hS1 => ?_)
  have hq : q ∉ L := va_pl_fresh2 (X := []) hD1
  have g : oG L τ σ q (16 + ci) (L ++ [q]) (va_up τ q (16 + ci)) (oZ σ q) := ⟨rfl, hq, rfl, rfl⟩
  have he : oE cy (va_up τ q (16 + ci)) (oZ σ q) q = .inr (ci, (oFty ci).map oDf) := by
    rw [oE_ob (oG_q g).2 (by omega) (show oKd (16 + ci) = ci by rw [oKd, if_neg (by omega)]; omega), oZ_vs]
  rw [← he] at hP1 hD1
  exact kk q _ _ _ H1 g (oG_I g hw hP1 hD1 hS1 (by omega) (oTg_raw (by omega) (by omega)))
theorem cy_eq {ty : FieldType} {cA : ClassId} (el : Nat) (hK : va_K D vwCl (oTy cy ++ [(cA, ty)]) s) (h : (oTy cy ++ [(cA, ty)])[el]? = some (cy el, ty)) (hr : ∀ x, va_RA s x ty = (s.vm.findClass ("[" ++ ty.toString) = some x)) : cA = cy el := by
  have h1 := (hK.2 6 (cA, ty) rfl).2
  have h2 := (hK.2 el _ h).2
  rw [hr] at h1 h2
  exact Option.some.inj (h1.symm.trans h2)
/-- a row of ints (chars, bytes, booleans) is made -/
theorem o_newi (cx : oCx p s m args c cc nL own cy D A K) (hA : ∀ q, s.heap.size ≤ q → A q) (hw : oI A L τ cy D s.heap σ H locs) (t : Nat) (ht : 32 ≤ t) (htg : ∀ j, oTg t j = none) {atype : ArrayType} {ty : FieldType} (hty : newarray.typeOf atype = ty) (harr : Cond.arrayClass ty ∈ oTT) (hel : (oTy cy)[oEl t]? = some (cy (oEl t), ty)) (hr : ∀ x, va_RA s x ty = (s.vm.findClass ("[" ++ ty.toString) = some x)) (h3 : oEl t ≠ 3) (h5 : oEl t ≠ 5) (hdv : ∀ cA : ClassId, vp_cell cA (oLn t, .inl (fun _ => 0)) = arrV cA (oLn t) (fun _ => defaultValue ty)) {n : Int32} (hn : ¬ n < 0) (hN : n.toNatClampNeg = oLn t) (hbytes : oLn t * componentBytes ty ≤ 536870912) (hcells : cells + 1 ≤ R.cells) (hslots : slots + oLn t ≤ R.slots) (hdg : decode cc pc = .ok (.newarray atype, 2))
    (kk : ∀ (q : Nat) (L1 : List Nat) (τ1 : Nat → Nat) (σ1 : oSt) (H1 : Heap), oG L τ σ q t L1 τ1 σ1 → oI A L1 τ1 cy D s.heap σ1 H1 locs → W p l e R s m args below meth c H1 locs (cells + 1) (slots + oLn t) Q (F0 m (pc + 2) ls (.ref q :: rest))) : W p l e R s m args below meth c H locs cells slots Q (F0 m pc ls (.int n :: rest)) := by
  obtain ⟨⟨hx, hb, hml, hown, hts⟩, hK, hXs⟩ := cx
  subst hty
  refine va_newa hx hb (hts _ harr) rfl hK hw.1 hw.2.1 hw.2.2.1 hA (a0 := (oLn t, .inl (fun _ => 0))) hdv hn hN hbytes hcells hslots hdg (fun q cA H1 hK1 hP1 hD1 hS1 => ?_)
  have hcy : cA = cy (oEl t) := cy_eq (oEl t) hK1 (by rw [List.getElem?_append_left (List.getElem?_eq_some_iff.mp hel).1]; exact hel) hr
  subst hcy
  have hq : q ∉ L := va_pl_fresh2 (X := []) hD1
  have g : oG L τ σ q t (L ++ [q]) (va_up τ q t) (oZ σ q) := ⟨rfl, hq, rfl, rfl⟩
  have he : oE cy (va_up τ q t) (oZ σ q) q = .inl (cy (oEl t), oLn t, .inl (fun _ => 0)) := by
    rw [oE_ar (oG_q g).2 (by omega), oRow, if_neg h3, if_neg h5]
    simp only [oZ, if_true]
  rw [← he] at hP1 hD1
  exact kk q _ _ _ H1 g (oG_I g hw hP1 hD1 hS1 (by omega) htg)
theorem o_newl (cx : oCx p s m args c cc nL own cy D A K) (hA : ∀ q, s.heap.size ≤ q → A q) (hw : oI A L τ cy D s.heap σ H locs) (t : Nat) (ht : 32 ≤ t) (htg : ∀ j, oTg t j = none) (h3 : oEl t = 3) {n : Int32} (hn : ¬ n < 0) (hN : n.toNatClampNeg = oLn t) (hbytes : oLn t * 8 ≤ 536870912) (hcells : cells + 1 ≤ R.cells) (hslots : slots + oLn t ≤ R.slots) (hdg : decode cc pc = .ok (.newarray .long, 2))
    (kk : ∀ (q : Nat) (L1 : List Nat) (τ1 : Nat → Nat) (σ1 : oSt) (H1 : Heap), oG L τ σ q t L1 τ1 σ1 → oI A L1 τ1 cy D s.heap σ1 H1 locs → W p l e R s m args below meth c H1 locs (cells + 1) (slots + oLn t) Q (F0 m (pc + 2) ls (.ref q :: rest))) : W p l e R s m args below meth c H locs cells slots Q (F0 m pc ls (.int n :: rest)) := by
  obtain ⟨⟨hx, hb, hml, hown, hts⟩, hK, hXs⟩ := cx
  refine va_newa (atype := .long) hx hb (hts _ k_a_long) (ty := .long) rfl hK hw.1 hw.2.1 hw.2.2.1 hA (a0 := (oLn t, .inr (.inl (fun _ => 0)))) (fun _ => rfl) hn hN hbytes hcells hslots hdg (fun q cA H1 hK1 hP1 hD1 hS1 => ?_)
  have hcy : cA = cy 3 := cy_eq 3 hK1 rfl (fun _ => rfl)
  subst hcy
  have hq : q ∉ L := va_pl_fresh2 (X := []) hD1
  have g : oG L τ σ q t (L ++ [q]) (va_up τ q t) (oZ σ q) := ⟨rfl, hq, rfl, rfl⟩
  have he : oE cy (va_up τ q t) (oZ σ q) q = .inl (cy 3, oLn t, .inr (.inl (fun _ => 0))) := by
    rw [oE_ar (oG_q g).2 (by omega), h3, oRow, if_pos rfl]
    simp only [oZ, if_true]
  rw [← he] at hP1 hD1
  exact kk q _ _ _ H1 g (oG_I g hw hP1 hD1 hS1 (by omega) htg)
/-- a row of States -/
theorem o_newq (cx : oCx p s m args c cc nL own cy D A K) (hA : ∀ q, s.heap.size ≤ q → A q) (hw : oI A L τ cy D s.heap σ H locs) (t : Nat) (ht : 32 ≤ t) (htg : ∀ j, oTg t j = none) (h5 : oEl t = 5) (hcl : Cond.classLink own index "RoadsByCows$State" ∈ oTT) {n : Int32} (hn : ¬ n < 0) (hN : n.toNatClampNeg = oLn t) (hbytes : oLn t * 4 ≤ 536870912) (hcells : cells + 1 ≤ R.cells) (hslots : slots + oLn t ≤ R.slots) (hdg : decode cc pc = .ok (.anewarray index, 3))
    (kk : ∀ (q : Nat) (L1 : List Nat) (τ1 : Nat → Nat) (σ1 : oSt) (H1 : Heap), oG L τ σ q t L1 τ1 σ1 → oI A L1 τ1 cy D s.heap σ1 H1 locs → W p l e R s m args below meth c H1 locs (cells + 1) (slots + oLn t) Q (F0 m (pc + 3) ls (.ref q :: rest))) : W p l e R s m args below meth c H locs cells slots Q (F0 m pc ls (.int n :: rest)) := by
  obtain ⟨⟨hx, hb, hml, hown, hts⟩, hK, hXs⟩ := cx
  refine va_newq hx hb hown (hts _ hcl) hXs.2.2.2.2.2.2.1 hK hw.1 hw.2.1 hw.2.2.1 hA hn hN hbytes hcells hslots hdg (fun q cA H1 hK1 hP1 hD1 hS1 => ?_)
  have hcy : cA = cy 5 := by
    have h1 := (hK1.2 6 (cA, .object "RoadsByCows$State") rfl).2
    have h2 := (hK1.2 5 (cy 5, .object "RoadsByCows$State") rfl).2
    obtain ⟨_, _, -, -, -, h3⟩ := h1
    obtain ⟨_, _, -, -, -, h4⟩ := h2
    exact Option.some.inj (h3.symm.trans h4)
  subst hcy
  have hq : q ∉ L := va_pl_fresh2 (X := []) hD1
  have g : oG L τ σ q t (L ++ [q]) (va_up τ q t) (oZ σ q) := ⟨rfl, hq, rfl, rfl⟩
  have he : oE cy (va_up τ q t) (oZ σ q) q = .inl (cy 5, oLn t, .inr (.inr (.inr (.inr (fun _ => none))))) := by
    rw [oE_ar (oG_q g).2 (by omega), h5, oRow, if_neg (by decide), if_pos rfl]
    simp only [oZ, if_true]
  rw [← he] at hP1 hD1
  exact kk q _ _ _ H1 g (oG_I g hw hP1 hD1 hS1 (by omega) htg)
/-- the tag changes: what was being made is finished -/
def oD (τ : Nat → Nat) (a t : Nat) (τ1 : Nat → Nat) : Prop := τ1 = va_up τ a t
theorem oD_a (d : oD τ a t τ1) (h : oA L τ b u) (hn : b ≠ a) : oA L τ1 b u := ⟨h.1, by rw [d, va_up, if_neg hn]; exact h.2⟩
theorem oD_q (d : oD τ a t τ1) (h : oA L τ a u) : oA L τ1 a t := ⟨h.1, by rw [d, va_up, if_pos rfl]⟩
theorem oD_I (d : oD τ a t τ1) (hw : oI A L τ cy D H0 σ H locs) (ha : oA L τ a u) (hs : (t < 32 ∧ u < 32 ∧ oKd t = oKd u) ∨ (¬ t < 32 ∧ ¬ u < 32 ∧ oEl t = oEl u ∧ oLn t = oLn u)) (hm : ∀ j, t = j / 64 → oMb j (σ.1 j a)) (hr : ∀ i, oRb t i (σ.2.2.1 a i)) (hf : ∀ j t2, oTg t j = some t2 → ∃ b, σ.2.2.2.2 j a = some b ∧ oA L τ b t2 ∧ b ≠ a) (hu : ∀ t3 j, oTg t3 j ≠ some u) : oI A L τ1 cy D H0 σ H locs := by
  have hE : ∀ b, oE cy τ1 σ b = oE cy τ σ b := fun b => by
    by_cases h : b = a
    · subst h
      have e1 : τ1 b = t := by rw [d, va_up, if_pos rfl]
      rcases hs with ⟨h1, h2, h3⟩ | ⟨h1, h2, h3, h4⟩
      · rw [oE_ob e1 h1 rfl, oE_ob ha.2 h2 rfl, h3]
      · rw [oE_ar e1 h1, oE_ar ha.2 h2, h3, h4]
    · have e1 : τ1 b = τ b := by rw [d, va_up, if_neg h]
      simp only [oE, e1]
  have e9 : oPl cy L τ1 σ = oPl cy L τ σ := va_pl_congr hE
  refine ⟨by rw [e9]; exact hw.1, by rw [e9]; exact hw.2.1, hw.2.2.1, fun j b hb => ?_, fun b i => ?_, fun j b t2 h1 h2 => ?_⟩
  · by_cases h : b = a
    · subst h; exact hm j (by rw [← hb, d, va_up, if_pos rfl])
    · exact hw.2.2.2.1 j b (by rw [← hb, d, va_up, if_neg h])
  · by_cases h : b = a
    · subst h; rw [d, va_up, if_pos rfl]; exact hr i
    · rw [d, va_up, if_neg h]; exact hw.2.2.2.2.1 b i
  · by_cases h : b = a
    · subst h
      rw [d, va_up, if_pos rfl] at h1
      obtain ⟨b2, h3, h4, h5⟩ := hf j t2 h1
      exact ⟨b2, h3, oD_a d h4 h5⟩
    · rw [d, va_up, if_neg h] at h1
      obtain ⟨b2, h3, h4⟩ := hw.2.2.2.2.2 j b t2 h1 h2
      refine ⟨b2, h3, oD_a d h4 (fun q9 => ?_)⟩
      subst q9
      exact hu (τ b) j (by rw [h1, ← h4.2, ha.2])
theorem oTg_no (h : (16 ≤ u ∧ u < 32) ∨ u = 42 ∨ u = 43) (t3 j : Nat) : oTg t3 j ≠ some u := by
  intro q9
  unfold oTg at q9
  split at q9 <;> first | (split at q9 <;> first | (injection q9 with q9; omega) | (cases q9)) | (cases q9)
/-- a reference is written into what is being made (a final field too) -/
theorem o_putrF (cx : oCx p s m args c cc nL own cy D A K) (hw : oI A L τ cy D H0 σ H locs) (ci k : Nat) (hc : vwCl[ci]? = some (C, T, N)) (hin : ∀ w ∈ u_ws C T N, w ∈ oTT) (ty0 : Nat → FieldType) (hty : ∀ k, k < N → parseFieldDescriptor (T k).2.2.1 = some (ty0 k)) (hnm : ∀ a, a < N → ∀ b, b < N → a ≠ b → (T a).2.1 ≠ (T b).2.1) (ha : oA L τ a t) (ht0 : 16 ≤ t) (ht : t < 32) (hk2 : oKd t = ci) (hk : k < N) (hf : (oFty ci)[k]? = some 2) (href : (T k).1 = ref) (hro : ref = own) (hfin : (T k).2.2.2 = true) (hin2 : meth.name = "<init>") {v : Nat} (hn : narrow (ty0 k) (.ref v) = .ref v) (hfit : fits (ty0 k) (.ref v) = true) (hlink : Cond.fieldLink own index ref (T k).2.1 (T k).2.2.1 ∈ oTT) (hdg : decode cc pc = .ok (.putfield index, 3))
    (kk : ∀ (σ1 : oSt) (H1 : Heap) (locs1 : List Loc), σ1 = (σ.1, σ.2.1, σ.2.2.1, σ.2.2.2.1, oUr σ.2.2.2.2 (64 * ci + k) a (some v)) → oI A L τ cy D H0 σ1 H1 locs1 → W p l e R s m args below meth c H1 locs1 cells slots Q (F0 m (pc + 3) ls rest)) : W p l e R s m args below meth c H locs cells slots Q (F0 m pc ls (.ref v :: .ref a :: rest)) := by
  obtain ⟨⟨hx, hb, hml, hown, hts⟩, hK, hXs⟩ := cx
  subst href
  obtain ⟨q, hq⟩ := va_pl_get (X := []) (f := oE cy τ σ) ha.1
  have hq0 := hq
  rw [oE_ob ha.2 ht hk2] at hq
  obtain ⟨hP, hD, hS, hM, hR, hF⟩ := hw
  have hl : k < (oVs σ a (64 * ci) (oFty ci)).length := by rw [oVs_len]; exact (List.getElem?_eq_some_iff.mp hf).1
  refine va_putF hx hb hts hin ty0 hty hnm hown hK hP hD hS q hq hc k hk (hts _ hlink) (fun _ h => h) hfin hin2 hro (hty k hk) hn hfit hl hdg (fun H1 locs1 hP1 hD1 hS1 => ?_)
  have e1 : (oPl cy L τ σ).set q (a, .inr (ci, (oVs σ a (64 * ci) (oFty ci)).set k (.ref v))) = oPl cy L τ (σ.1, σ.2.1, σ.2.2.1, σ.2.2.2.1, oUr σ.2.2.2.2 (64 * ci + k) a (some v)) := by
    refine (va_pl_set (X := []) hD ha.1 hq0).trans (va_pl_congr (fun z => ?_))
    by_cases h : z = a
    · subst h
      rw [oE_ob ha.2 ht hk2, oVs_set σ (σ.1, σ.2.1, σ.2.2.1, σ.2.2.2.1, oUr σ.2.2.2.2 (64 * ci + k) z (some v)) z (.ref v) 2 (oFty ci) (64 * ci) k hf (by simp only [oV, oUr_s]; rfl) (fun i hi c => by simp only [oV, oUr_j hi])]
      simp only [va_up, if_true]
    · simp only [va_up, if_neg h]
      exact (oE_other (σ := σ) (σ' := (σ.1, σ.2.1, σ.2.2.1, σ.2.2.2.1, oUr σ.2.2.2.2 (64 * ci + k) a (some v))) (fun _ => rfl) (fun _ => rfl) rfl rfl (fun j => oUr_a h)).symm
  rw [e1] at hP1 hD1
  refine kk _ H1 locs1 rfl ⟨hP1, hD1, hS1, hM, hR, fun j z t9 hj hz => ?_⟩
  have hn9 : z ≠ a := fun q9 => by subst q9; rw [ha.2, oTg_raw ht0 ht] at hj; cases hj
  obtain ⟨b9, h9, h10⟩ := hF j z t9 hj hz
  exact ⟨b9, (oUr_a hn9).trans h9, h10⟩
/-- a State is put into a row that is being filled -/
theorem o_astq (cx : oCx p s m args c cc nL own cy D A K) (hw : oI A L τ cy D H0 σ H locs) (ha : oA L τ a t) (ht : ¬ t < 32) (h5 : oEl t = 5) (htg : ∀ j, oTg t j = none) {v : Nat} (hv : oA L τ v 5) {i : Int32} (hi : vp_in i (oLn t)) (hdg : decode cc pc = .ok (.aastore, 1))
    (kk : ∀ (σ1 : oSt) (H1 : Heap) (locs1 : List Loc), σ1 = (σ.1, σ.2.1, σ.2.2.1, σ.2.2.2.1, oUr σ.2.2.2.2 (4096 + i.toNatClampNeg) a (some v)) → oI A L τ cy D H0 σ1 H1 locs1 → W p l e R s m args below meth c H1 locs1 cells slots Q (F0 m (pc + 1) ls rest)) : W p l e R s m args below meth c H locs cells slots Q (F0 m pc ls (.ref v :: .int i :: .ref a :: rest)) := by
  obtain ⟨q, hq0, hq⟩ := oAr (cy := cy) (σ := σ) ha ht h5
  obtain ⟨qv, hqv⟩ := va_pl_get (X := []) (f := oE cy τ σ) hv.1
  rw [oE_ob (ci := 5) hv.2 (by decide) rfl] at hqv
  have hq2 : (oPl cy L τ σ)[q]? = some (a, .inl (cy 5, oLn t, .inr (.inr (.inr (.inr (fun i => σ.2.2.2.2 (4096 + i) a)))))) := hq
  refine va_astq cx.1.1 cx.1.2.1 cx.2.1 hw.1 hw.2.1 hw.2.2.1 q 5 qv 5 hq2 (r := (RX6, TX6, 12)) rfl hqv rfl hi hdg (fun H1 locs1 hP1 hD1 hS1 => ?_)
  have e1 : (oPl cy L τ σ).set q (a, .inl (cy 5, oLn t, .inr (.inr (.inr (.inr (va_up (fun i => σ.2.2.2.2 (4096 + i) a) i.toNatClampNeg (some v))))))) = oPl cy L τ (σ.1, σ.2.1, σ.2.2.1, σ.2.2.2.1, oUr σ.2.2.2.2 (4096 + i.toNatClampNeg) a (some v)) := by
    refine (va_pl_set (X := []) hw.2.1 ha.1 hq0).trans (va_pl_congr (fun z => ?_))
    by_cases h : z = a
    · subst h
      rw [oE_ar ha.2 ht, h5, oRow, if_neg (by decide), if_pos rfl]
      simp only [va_up, if_true]
      congr 7
      funext k
      by_cases h2 : k = i.toNatClampNeg
      · subst h2; simp only [va_up, oUr, if_true, and_self]
      · rw [va_up, if_neg h2, oUr, if_neg (fun q9 => h2 (by omega))]
    · simp only [va_up, if_neg h]
      exact (oE_other (σ := σ) (σ' := (σ.1, σ.2.1, σ.2.2.1, σ.2.2.2.1, oUr σ.2.2.2.2 (4096 + i.toNatClampNeg) a (some v))) (fun _ => rfl) (fun _ => rfl) rfl rfl (fun j => oUr_a h)).symm
  rw [e1] at hP1 hD1
  refine kk _ H1 locs1 rfl ⟨hP1, hD1, hS1, hw.2.2.2.1, hw.2.2.2.2.1, fun j z t9 hj hz => ?_⟩
  have hn9 : z ≠ a := fun q9 => by subst q9; rw [ha.2, htg] at hj; cases hj
  obtain ⟨b9, h9, h10⟩ := hw.2.2.2.2.2 j z t9 hj hz
  exact ⟨b9, (oUr_a hn9).trans h9, h10⟩
end MK
/-- what a constructor keeps: all that was there but the object itself, rows' contents apart -/
def oX (L : List Nat) (τ : Nat → Nat) (σ : oSt) (a : Nat) (L1 : List Nat) (τ1 : Nat → Nat) (σ1 : oSt) : Prop := (∃ M, L1 = L ++ M) ∧ ∀ b ∈ L, b ≠ a → τ1 b = τ b ∧ ∀ j, σ1.1 j b = σ.1 j b ∧ σ1.2.1 j b = σ.2.1 j b ∧ σ1.2.2.2.2 j b = σ.2.2.2.2 j b
section MX
variable {L L0 L1 : List Nat} {τ τ0 τ1 : Nat → Nat} {σ σ0 σ1 : oSt} {a b q t u j : Nat} {ts : List Nat}
theorem oX_rf : oX L τ σ a L τ σ := ⟨⟨[], (List.append_nil L).symm⟩, fun _ _ _ => ⟨rfl, fun _ => ⟨rfl, rfl, rfl⟩⟩⟩
theorem oX_mem (x : oX L0 τ0 σ0 a L τ σ) (h : b ∈ L0) : b ∈ L := by obtain ⟨M, hM⟩ := x.1; rw [hM]; exact List.mem_append_left _ h
theorem oX_new (x : oX L0 τ0 σ0 a L τ σ) (g : oG L τ σ q t L1 τ1 σ1) : q ∉ L0 := fun h => g.2.1 (oX_mem x h)
theorem oX_g (x : oX L0 τ0 σ0 a L τ σ) (g : oG L τ σ q t L1 τ1 σ1) : oX L0 τ0 σ0 a L1 τ1 σ1 := by
  refine ⟨?_, fun b hb hn => ?_⟩
  · obtain ⟨M, hM⟩ := x.1; exact ⟨M ++ [q], by rw [g.1, hM, List.append_assoc]⟩
  · have h : oA L τ b (τ b) := ⟨oX_mem x hb, rfl⟩
    have h2 := x.2 b hb hn
    exact ⟨(oG_a g h).2.trans h2.1, fun j => ⟨(oG_i g h).trans (h2.2 j).1, (oG_l g h).trans (h2.2 j).2.1, (oG_r g h).trans (h2.2 j).2.2⟩⟩
theorem oX_i {v : Int32} (x : oX L0 τ0 σ0 a L τ σ) (e : σ1 = (oU σ.1 j a v, σ.2)) : oX L0 τ0 σ0 a L τ σ1 := by
  subst e
  exact ⟨x.1, fun b hb hn => ⟨(x.2 b hb hn).1, fun i => ⟨(oU_a hn).trans ((x.2 b hb hn).2 i).1, ((x.2 b hb hn).2 i).2⟩⟩⟩
theorem oX_ra {v : Option Nat} (x : oX L0 τ0 σ0 a L τ σ) (e : σ1 = (σ.1, σ.2.1, σ.2.2.1, σ.2.2.2.1, oUr σ.2.2.2.2 j a v)) : oX L0 τ0 σ0 a L τ σ1 := by
  subst e
  exact ⟨x.1, fun b hb hn => ⟨(x.2 b hb hn).1, fun i => ⟨((x.2 b hb hn).2 i).1, ((x.2 b hb hn).2 i).2.1, (oUr_a hn).trans ((x.2 b hb hn).2 i).2.2⟩⟩⟩
theorem oX_rn {v : Option Nat} (x : oX L0 τ0 σ0 a L τ σ) (e : σ1 = (σ.1, σ.2.1, σ.2.2.1, σ.2.2.2.1, oUr σ.2.2.2.2 j q v)) (hq : q ∉ L0) : oX L0 τ0 σ0 a L τ σ1 := by
  subst e
  exact ⟨x.1, fun b hb hn => ⟨(x.2 b hb hn).1, fun i => ⟨((x.2 b hb hn).2 i).1, ((x.2 b hb hn).2 i).2.1, (oUr_a (fun e9 => hq (by rw [← e9]; exact hb))).trans ((x.2 b hb hn).2 i).2.2⟩⟩⟩
theorem oX_da (x : oX L0 τ0 σ0 a L τ σ) (d : oD τ a t τ1) : oX L0 τ0 σ0 a L τ1 σ := ⟨x.1, fun b hb hn => ⟨by rw [d, va_up, if_neg hn]; exact (x.2 b hb hn).1, (x.2 b hb hn).2⟩⟩
theorem oX_dn (x : oX L0 τ0 σ0 a L τ σ) (d : oD τ q t τ1) (hq : q ∉ L0) : oX L0 τ0 σ0 a L τ1 σ := ⟨x.1, fun b hb hn => ⟨by rw [d, va_up, if_neg (fun e9 => hq (by rw [← e9]; exact hb))]; exact (x.2 b hb hn).1, (x.2 b hb hn).2⟩⟩
theorem oX_x (x : oX L0 τ0 σ0 a L τ σ) (y : oX L τ σ q L1 τ1 σ1) (hq : q ∉ L0) : oX L0 τ0 σ0 a L1 τ1 σ1 := by
  refine ⟨?_, fun b hb hn => ?_⟩
  · obtain ⟨M, hM⟩ := x.1; obtain ⟨M2, hM2⟩ := y.1; exact ⟨M ++ M2, by rw [hM2, hM, List.append_assoc]⟩
  · have h2 := x.2 b hb hn
    have h3 := y.2 b (oX_mem x hb) (fun e9 => hq (by rw [← e9]; exact hb))
    exact ⟨h3.1.trans h2.1, fun j => ⟨((h3.2 j).1).trans (h2.2 j).1, ((h3.2 j).2.1).trans (h2.2 j).2.1, ((h3.2 j).2.2).trans (h2.2 j).2.2⟩⟩
theorem oX_c (x : oX L0 τ0 σ0 a L τ σ) (f : oFr τ [] ts σ σ1) : oX L0 τ0 σ0 a L τ σ1 := ⟨x.1, fun b hb hn => ⟨(x.2 b hb hn).1, fun j => ⟨(congrFun (f.1 j List.not_mem_nil).1 b).trans ((x.2 b hb hn).2 j).1, (congrFun (f.1 j List.not_mem_nil).2.1 b).trans ((x.2 b hb hn).2 j).2.1, (congrFun (f.1 j List.not_mem_nil).2.2 b).trans ((x.2 b hb hn).2 j).2.2⟩⟩⟩
theorem oX_a (y : oX L τ σ q L1 τ1 σ1) (h : oA L τ b u) (hn : b ≠ q) : oA L1 τ1 b u := ⟨oX_mem y h.1, (y.2 b h.1 hn).1.trans h.2⟩
theorem oX_q (y : oX L τ σ q L1 τ1 σ1) (h : oA L τ q u) (ht : τ1 q = t) : oA L1 τ1 q t := ⟨oX_mem y h.1, ht⟩
theorem oX_ki (y : oX L τ σ q L1 τ1 σ1) (h : oA L τ b u) (hn : b ≠ q) : σ1.1 j b = σ.1 j b := ((y.2 b h.1 hn).2 j).1
theorem oX_kr (y : oX L τ σ q L1 τ1 σ1) (h : oA L τ b u) (hn : b ≠ q) : σ1.2.2.2.2 j b = σ.2.2.2.2 j b := ((y.2 b h.1 hn).2 j).2.2
theorem oRb_lo {i : Nat} {x : Int32} (h : t < 32) : oRb t i x := by
  unfold oRb
  split <;> first | trivial | (exfalso; omega)
end MX
/-! contracts of constructors -/
abbrev oMetI (l : Launch) (A : Nat → Prop) (L : List Nat) (τ : Nat → Nat) (cy : Nat → ClassId) (D : va_G) (K : (Nat → Nat) × (Nat → Nat)) (y : MethodName) (cc : ByteArray) (n fr lo mc ms : Nat) (av : List Value) (σ : oSt) (Qc : Array Value → State → Outcome → State → Prop) : Prop :=
  Met l y (oWd y cc n none) ({ frames := fr, cells := mc, slots := ms, locals := lo } : Room) (va_Pc av (oPre A L τ cy D K σ)) Qc mc ms A
theorem oMkI {l : Launch} {A : Nat → Prop} {L : List Nat} {τ : Nat → Nat} {cy : Nat → ClassId} {D : va_G} {K : (Nat → Nat) × (Nat → Nat)} {y : MethodName} {cc : ByteArray} {n fr lo mc ms : Nat} {av : List Value} {σ : oSt} {Qc : Array Value → State → Outcome → State → Prop} {lv : List (Nat × Value)} (hy : plainName y.cls = true) (hn : (lg_sl av).length ≤ n) (hlv : lv_args 0 av = lv) (hyn : y.name = "<init>")
    (body : ∀ (p : Program) (e : Env) (s : State) (m : MethodId) (args : Array Value) (below : List Frame) (meth : Method) (c : Code) (ls : Array Slot), oCx p s m args c cc n y.cls cy D A K → oRx meth none → meth.name = "<init>" → (∀ q, s.heap.size ≤ q → A q) → oI A L τ cy D s.heap σ s.heap [] → lv_has ls n lv →
      W p l e ({ frames := fr, cells := mc, slots := ms, locals := lo } : Room) s m args below meth c s.heap [] 0 0 (MQ below Qc args s mc ms A) (F0 m 0 ls [])) : oMetI l A L τ cy D K y cc n fr lo mc ms av σ Qc := by
  refine Met.ofW (cc := cc) (maxL := n) (ret := none) hy rfl ?_
  intro p e s m args below meth c s₁ B hml hv
  obtain ⟨rfl, hK, hA, hI, hX⟩ := hv
  have hts := atoms_spec (ws := oWd y cc n none) B.pre
  have hin : meth.name = "<init>" := ((name_of_methodNamed B.named B.method).1).trans hyn
  rw [lg_entry_eq]
  have hl := lv_entry av hn
  rw [hlv] at hl
  exact body p e s m av.toArray below meth c _ ⟨⟨B.exec, B.bytes, hml, findClass_of_methodNamed B.named, fun w h => hts w (List.mem_cons_of_mem _ h)⟩, hK, hX⟩ ⟨B.returns, B.notSynchronized⟩ hin hA hI hl
abbrev oW3 : Type := List Nat × (Nat → Nat) × oSt
abbrev oPo3 (A : Nat → Prop) (cy : Nat → ClassId) (D : va_G) : oW3 → State → Prop := fun u t => oPo A u.1 u.2.1 cy D u.2.2 t
def oMi (y : MethodName) (cc : ByteArray) (n : Nat) (k : Nat) : Prop := Cond.code y cc n none ∈ oTT ∧ Cond.initialized y.cls ∈ oTT ∧ Cond.instanceMethod y ∈ oTT ∧ y.name = "<init>" ∧ y.cls ≠ "java/lang/invoke/MethodHandle" ∧ y.cls ≠ "java/lang/invoke/VarHandle" ∧ (parseMethodDescriptor y.desc).map (fun d => d.parameters.length) = some k
section MC
variable {p : Program} {l : Launch} {e : Env} {R : Room} {s : State} {m : MethodId} {args : Array Value} {below : List Frame} {meth : Method} {c : Code} {H : Heap} {locs : List Loc} {cells slots : Nat} {Q : State → Prop}
variable {cc : ByteArray} {nL pc : Nat} {ls : Array Slot} {rest st : List Value} {A : Nat → Prop} {L : List Nat} {τ : Nat → Nat} {cy : Nat → ClassId} {D : va_G} {K : (Nat → Nat) × (Nat → Nat)} {H0 : Heap} {σ : oSt} {own host : String} {index b : Nat} {y : MethodName} {bytes : ByteArray} {maxL n mc ms fr lo : Nat} {As : List Value} {Qc : Array Value → State → Outcome → State → Prop}
theorem oRunI (cx : oCx p s m args c cc nL own cy D A K) (hA : ∀ q, s.heap.size ≤ q → A q) (hw : oI A L τ cy D s.heap σ H locs) (hm : oMi y bytes maxL n) (hl : Cond.methodLink own index y ∈ oTT)
    (hM : Met l y (oWd y bytes maxL none) ({ frames := fr, cells := mc, slots := ms, locals := lo } : Room) (va_Pc (.ref b :: As) (oPre A L τ cy D K σ)) Qc mc ms A)
    (hR : fr + 1 ≤ R.frames ∧ 8 + (maxL + 11) + lo ≤ R.locals) (hn : As.length = n) (hsize : ls.size = nL) (hst : st = As.reverse ++ .ref b :: rest) (h8 : (rest.map fun v => v.category).sum ≤ 8) (hdg : decode cc pc = .ok (.invokespecial index, 3)) (hf : cells + mc ≤ R.cells ∧ slots + ms ≤ R.slots) :
    va_Run p l e R s m args below meth c H locs cells slots mc ms (F0 m pc ls st) rest (Qc (Value.ref b :: As).toArray) A := by
  obtain ⟨h1, h2, h3, h4, h6, h7, h8'⟩ := hm
  have hts := cx.1.2.2.2.2
  exact va_runI cx.1 hM ⟨callB_of n hts (oWd_good h1) rfl rfl rfl (hts _ h2) (hts _ hl) ⟨h6, h7, h8'⟩ hR, h4, hts _ h3⟩ ⟨oPre_blind, fun U hU hW => oPre_at cx hA hw U hU hW⟩ rfl hn hsize hst (lv_room h8) hdg hf
theorem oRunIN (cx : oCx p s m args c cc nL own cy D A K) (hA : ∀ q, s.heap.size ≤ q → A q) (hw : oI A L τ cy D s.heap σ H locs) (hm : oMi y bytes maxL n) (hl : va_Nw (.methodLinkNest own index y host) s)
    (hM : Met l y (oWd y bytes maxL none) ({ frames := fr, cells := mc, slots := ms, locals := lo } : Room) (va_Pc (.ref b :: As) (oPre A L τ cy D K σ)) Qc mc ms A)
    (hR : fr + 1 ≤ R.frames ∧ 8 + (maxL + 11) + lo ≤ R.locals) (hn : As.length = n) (hsize : ls.size = nL) (hst : st = As.reverse ++ .ref b :: rest) (h8 : (rest.map fun v => v.category).sum ≤ 8) (hdg : decode cc pc = .ok (.invokespecial index, 3)) (hf : cells + mc ≤ R.cells ∧ slots + ms ≤ R.slots) :
    va_Run p l e R s m args below meth c H locs cells slots mc ms (F0 m pc ls st) rest (Qc (Value.ref b :: As).toArray) A := by
  obtain ⟨h1, h2, h3, h4, h6, h7, h8'⟩ := hm
  have hts := cx.1.2.2.2.2
  exact va_runIN cx.1 hM ⟨va_cnB n hts (oWd_good h1) rfl rfl rfl hl (hts _ h2) ⟨h6, h7, h8'⟩ hR, h4, hts _ h3⟩ ⟨oPre_blind, fun U hU hW => oPre_at cx hA hw U hU hW⟩ rfl hn hsize hst (lv_room h8) hdg hf
theorem o_cI {post : oW3 → Prop} {a : Array Value} (hw : oI A L τ cy D H0 σ H locs) (hr : va_Run p l e R s m args below meth c H locs cells slots mc ms (F0 m pc ls st) rest (va_Qv post (oPo3 A cy D) A a) A)
    (kk : ∀ (L1 : List Nat) (τ1 : Nat → Nat) (σ1 : oSt) (H1 : Heap) (locs1 : List Loc), post (L1, τ1, σ1) → oI A L1 τ1 cy D H0 σ1 H1 locs1 → W p l e R s m args below meth c H1 locs1 (cells + mc) (slots + ms) Q (F0 m (pc + 3) ls rest)) : W p l e R s m args below meth c H locs cells slots Q (F0 m pc ls st) :=
  va_callv hr hw.2.2.1 (fun _ _ h => h) (fun _ h => h) (fun u t H1 locs1 ht _ hp hB _ _ hS => kk u.1 u.2.1 u.2.2 H1 locs1 hp (oPo_w ht hB hS))
theorem o_rI {post : oW3 → Prop} (cx : oCx p s m args c cc nL own cy D A K) (rx : oRx meth none) (hw : oI A L τ cy D s.heap σ H locs) (hdg : decode cc pc = .ok (.return_, 1)) (hp : post (L, τ, σ)) : W p l e R s m args below meth c H locs cells slots (MQ below (va_Qv post (oPo3 A cy D) A) args s cells slots A) (F0 m pc ls []) :=
  W.vret cx.1.1 cx.1.2.1 rx.1 (fun t ht hW => ⟨⟨(L, τ, σ), rfl, hp, by show va_P D vwCl (oPl cy L τ σ) t.heap; rw [ht]; exact hw.1, hw.2.1, hw.2.2.2⟩, hw.2.2.1.F ht⟩) hw.2.2.1.2.2 hdg rx.2
end MC
