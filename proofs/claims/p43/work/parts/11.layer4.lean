theorem iv_max {v x y : Int32} (e : v = if x < y then y else x) {a b c d lo hi : Int} (hx : Iv x a b) (hy : Iv y c d) (h : (lo ≤ a ∨ lo ≤ c) ∧ b ≤ hi ∧ d ≤ hi) : Iv v lo hi := by
  obtain ⟨h1, h2⟩ := hx; obtain ⟨h3, h4⟩ := hy
  rw [e]
  by_cases q : x < y
  · rw [if_pos q]; have q := iv_lt.mp q; exact ⟨by omega, by omega⟩
  · rw [if_neg q]; have q := iv_le.mp (iv_nlt q); exact ⟨by omega, by omega⟩
theorem iv_lcmp {v : Int32} {x y : Int64} (e : v = lg_cmp x y) : Iv v (-1) 1 := by
  rw [e, lg_cmp]
  split
  · exact ⟨by decide, by decide⟩
  · split
    · exact ⟨by decide, by decide⟩
    · exact ⟨by decide, by decide⟩
theorem iv_nt {x y : Int32} (h : ¬ x = y) {k : Int} (hk : y.toInt = k) : x.toInt ≠ k := fun q => h (Int32.toInt_inj.mp (q.trans hk.symm))
theorem iv_nat {i : Int32} {a b : Int} (h : Iv i a b) (h0 : 0 ≤ a) : a ≤ (i.toNatClampNeg : Int) ∧ (i.toNatClampNeg : Int) ≤ b := by
  obtain ⟨j, hj, rfl⟩ := nI_of (x := i) (by rw [iv_lt, show (0 : Int32).toInt = 0 by decide]; have := h.1; omega)
  obtain ⟨h1, h2⟩ := h
  rw [nI_toInt hj] at h1 h2
  rw [nI_clamp hj]
  exact ⟨h1, h2⟩
theorem rb_now {i x : Int32} {a b : Int} (h : oRb 48 i.toNatClampNeg x) (hi : Iv i a b) (h2 : 320 ≤ a ∧ b ≤ 325) : Iv x 0 63 := by
  have h3 := iv_nat hi (by omega)
  exact h (by omega) (by omega)
theorem rb_lo {i x : Int32} {a b : Int} (hi : Iv i a b) (h2 : 0 ≤ a ∧ b < 320) : oRb 48 i.toNatClampNeg x := by
  have h3 := iv_nat hi (by omega)
  intro h4 h5
  omega
theorem rb_hi {i x : Int32} {a b : Int} (hi : Iv i a b) (h2 : 0 ≤ a ∧ 325 < a) : oRb 48 i.toNatClampNeg x := by
  have h3 := iv_nat hi (by omega)
  intro h4 h5
  omega
theorem rb_byte (x : Int32) : Iv (vp_nar .byte x) (-128) 127 := by
  rw [vp_nar_byte]
  have h1 := Int8.le_toInt x.toInt8; have h2 := Int8.toInt_lt x.toInt8
  rw [Iv, Int8.toInt_toInt32]
  exact ⟨by omega, by omega⟩
theorem iv_nzl {x : Int32} {a b : Int} (h : Iv x a b) (h2 : 0 < a ∨ b < 0) : ¬ x.toInt64 = 0 := by
  intro e
  have e2 : x.toInt64.toInt = (0 : Int64).toInt := by rw [e]
  rw [Int32.toInt_toInt64, show (0 : Int64).toInt = 0 by decide] at e2
  obtain ⟨h1, h3⟩ := h
  omega
section OK4
variable {p : Program} {l : Launch} {e : Env} {R : Room} {s : State} {m : MethodId} {args : Array Value} {below : List Frame} {meth : Method} {c : Code} {H : Heap} {locs : List Loc} {cells slots : Nat} {Q : State → Prop}
variable {cc : ByteArray} {nL pc : Nat} {ls : Array Slot} {rest : List Value} {A : Nat → Prop} {L : List Nat} {τ : Nat → Nat} {cy : Nat → ClassId} {D : va_G} {K : (Nat → Nat) × (Nat → Nat)} {H0 : Heap} {σ : oSt} {own : String} {index : Nat} {a b t : Nat}
theorem o_copyi (cx : oCx p s m args c cc nL own cy D A K) (hw : oI A L τ cy D H0 σ H locs) (ha : oA L τ a t) (hb : oA L τ b t) (ht : ¬ t < 32) (he : oEl t = 2) {n : Int32} (hn : n = Int32.ofNat (oLn t) ∧ oLn t < 2147483648) (hlink : Cond.methodLink own index arraycopyName ∈ oTT) (hsz : ls.size = nL) (hfr : 1 ≤ R.frames) (hlo : (rest.map fun v => v.category).sum + (nativeFrameWords "java/lang/System" "arraycopy" 5 + 11) ≤ R.locals) (hdg : decode cc pc = .ok (.invokestatic index, 3))
    (kk : ∀ (σ1 : oSt) (H1 : Heap) (locs1 : List Loc), σ1 = oPut σ b (va_cpy (σ.2.2.1 a) (σ.2.2.1 b) 0 0 (oLn t)) → oI A L τ cy D H0 σ1 H1 locs1 → W p l e R s m args below meth c H1 locs1 cells slots Q (F0 m (pc + 3) ls rest)) : W p l e R s m args below meth c H locs cells slots Q (F0 m pc ls (.int n :: .int 0 :: .ref b :: .int 0 :: .ref a :: rest)) := by
  obtain ⟨qa, -, hqa⟩ := oAr (cy := cy) (σ := σ) ha ht he
  obtain ⟨qb, hqb0, hqb⟩ := oAr (cy := cy) (σ := σ) hb ht he
  obtain ⟨⟨hx, hbc, hml, hown, hts⟩, hK, hXs⟩ := cx
  have hn2 : n.toNatClampNeg = oLn t := by rw [hn.1]; exact nI_clamp (n := oLn t) (by have := hn.2; omega)
  have z0 : (0 : Int32).toNatClampNeg = 0 := by decide
  refine va_copyi hx hbc (hml.trans hsz.symm) hown (hts _ hlink) (hts _ k_nat_arraycopy) (hts _ k_sta_arraycopy) (hts _ k_i_J10) hK hw.1 hw.2.1 hw.2.2.1 qa qb 2 2 hqa hqb rfl rfl rfl (by decide) (by decide) ?_ ?_ ?_ (fun i _ => rfl) hfr hlo hdg (fun H1 locs1 hP1 hD1 hS1 => kk _ H1 locs1 rfl ?_)
  · rw [hn.1]; exact nI_pos (n := oLn t) (by have := hn.2; omega)
  · rw [hn2, z0]; omega
  · rw [hn2, z0]; omega
  · rw [hn2, z0] at hP1 hD1
    refine oPut_w hw hb ht he (by decide) (by decide) hqb0 (fun i => ?_) hP1 hD1 hS1
    by_cases h : i < oLn t
    · rw [sb_cpy0 h]; have h2 := hw.2.2.2.2.1 a i; rw [ha.2] at h2; exact h2
    · rw [pk_cpy_out (Or.inr (by omega))]; have h2 := hw.2.2.2.2.1 b i; rw [hb.2] at h2; exact h2
theorem o_copyl (cx : oCx p s m args c cc nL own cy D A K) (hw : oI A L τ cy D H0 σ H locs) (ha : oA L τ a t) (hb : oA L τ b t) (ht : ¬ t < 32) (he : oEl t = 3) {n : Int32} (hn : n = Int32.ofNat (oLn t) ∧ oLn t < 2147483648) (hlink : Cond.methodLink own index arraycopyName ∈ oTT) (hsz : ls.size = nL) (hfr : 1 ≤ R.frames) (hlo : (rest.map fun v => v.category).sum + (nativeFrameWords "java/lang/System" "arraycopy" 5 + 11) ≤ R.locals) (hdg : decode cc pc = .ok (.invokestatic index, 3))
    (kk : ∀ (σ1 : oSt) (H1 : Heap) (locs1 : List Loc), σ1 = oPutL σ b (va_cpy (σ.2.2.2.1 a) (σ.2.2.2.1 b) 0 0 (oLn t)) → oI A L τ cy D H0 σ1 H1 locs1 → W p l e R s m args below meth c H1 locs1 cells slots Q (F0 m (pc + 3) ls rest)) : W p l e R s m args below meth c H locs cells slots Q (F0 m pc ls (.int n :: .int 0 :: .ref b :: .int 0 :: .ref a :: rest)) := by
  obtain ⟨qa, -, hqa⟩ := oAr (cy := cy) (σ := σ) ha ht he
  obtain ⟨qb, hqb0, hqb⟩ := oAr (cy := cy) (σ := σ) hb ht he
  obtain ⟨⟨hx, hbc, hml, hown, hts⟩, hK, hXs⟩ := cx
  have hn2 : n.toNatClampNeg = oLn t := by rw [hn.1]; exact nI_clamp (n := oLn t) (by have := hn.2; omega)
  have z0 : (0 : Int32).toNatClampNeg = 0 := by decide
  refine va_copyl hx hbc (hml.trans hsz.symm) hown (hts _ hlink) (hts _ k_nat_arraycopy) (hts _ k_sta_arraycopy) (hts _ k_i_J10) hK hw.1 hw.2.1 hw.2.2.1 qa qb 3 3 hqa hqb rfl rfl rfl (by decide) (by decide) ?_ ?_ ?_ (fun i _ => rfl) hfr hlo hdg (fun H1 locs1 hP1 hD1 hS1 => kk _ H1 locs1 rfl ?_)
  · rw [hn.1]; exact nI_pos (n := oLn t) (by have := hn.2; omega)
  · rw [hn2, z0]; omega
  · rw [hn2, z0]; omega
  · rw [hn2, z0] at hP1 hD1
    exact oPutL_w hw hb ht he hqb0 hP1 hD1 hS1
end OK4
theorem iv_min {v x y : Int32} (e : v = if y < x then y else x) {a b c d lo hi : Int} (hx : Iv x a b) (hy : Iv y c d) (h : (lo ≤ a ∧ lo ≤ c) ∧ (b ≤ hi ∨ d ≤ hi)) : Iv v lo hi := by
  obtain ⟨h1, h2⟩ := hx; obtain ⟨h3, h4⟩ := hy
  rw [e]
  by_cases q : y < x
  · rw [if_pos q]; have q := iv_lt.mp q; exact ⟨by omega, by omega⟩
  · rw [if_neg q]; have q := iv_le.mp (iv_nlt q); exact ⟨by omega, by omega⟩
/-! what stays in the store -/
theorem kp_s {σ σ1 : oSt} {j a : Nat} {v : Int32} (e : σ1 = (oU σ.1 j a v, σ.2)) : σ1.1 j a = v := by subst e; exact oU_s
theorem kp_i {σ σ1 : oSt} {j j' a a' : Nat} {v : Int32} (e : σ1 = (oU σ.1 j' a' v, σ.2)) (h : j ≠ j') : σ1.1 j a = σ.1 j a := by subst e; exact oU_j h
theorem kp_l {σ σ1 : oSt} {j j' a a' : Nat} {v : Int64} (e : σ1 = (σ.1, oUl σ.2.1 j' a' v, σ.2.2)) : σ1.1 j a = σ.1 j a := by subst e; rfl
theorem kp_p {σ σ1 : oSt} {j a a' : Nat} {f : Nat → Int32} (e : σ1 = oPut σ a' f) : σ1.1 j a = σ.1 j a := by subst e; rfl
theorem kp_q {σ σ1 : oSt} {j a a' : Nat} {f : Nat → Int64} (e : σ1 = oPutL σ a' f) : σ1.1 j a = σ.1 j a := by subst e; rfl
theorem kp_c {τ : Nat → Nat} {fs ts : List Nat} {σ σ1 : oSt} {j a : Nat} (e : oFr τ fs ts σ σ1) (h : j ∉ fs) : σ1.1 j a = σ.1 j a := congrFun (e.1 j h).1 a
theorem kr_i {σ σ1 : oSt} {j j' a a' : Nat} {v : Int32} (e : σ1 = (oU σ.1 j' a' v, σ.2)) : σ1.2.2.2.2 j a = σ.2.2.2.2 j a := by subst e; rfl
theorem kr_l {σ σ1 : oSt} {j j' a a' : Nat} {v : Int64} (e : σ1 = (σ.1, oUl σ.2.1 j' a' v, σ.2.2)) : σ1.2.2.2.2 j a = σ.2.2.2.2 j a := by subst e; rfl
theorem kr_p {σ σ1 : oSt} {j a a' : Nat} {f : Nat → Int32} (e : σ1 = oPut σ a' f) : σ1.2.2.2.2 j a = σ.2.2.2.2 j a := by subst e; rfl
theorem kr_q {σ σ1 : oSt} {j a a' : Nat} {f : Nat → Int64} (e : σ1 = oPutL σ a' f) : σ1.2.2.2.2 j a = σ.2.2.2.2 j a := by subst e; rfl
theorem kr_c {τ : Nat → Nat} {fs ts : List Nat} {σ σ1 : oSt} {j a : Nat} (e : oFr τ fs ts σ σ1) (h : j ∉ fs) : σ1.2.2.2.2 j a = σ.2.2.2.2 j a := congrFun (e.1 j h).2.2 a
theorem iv_lin {v x : Int32} {off : Int} (e : v.toInt = x.toInt + off) {c d a b lo hi : Int} (hv : Iv v c d) (hx : Iv x a b) (h : (lo ≤ a ∨ lo ≤ c - off) ∧ (b ≤ hi ∨ d - off ≤ hi)) : Iv x lo hi := by
  obtain ⟨h1, h2⟩ := hv; obtain ⟨h3, h4⟩ := hx
  exact ⟨by omega, by omega⟩
theorem rem8_hi {v x : Int32} (e : v = x - x / 8 * 8) {a c d : Int} (hx : Iv x a 63) (hv : Iv v c d) (h : 0 ≤ a ∧ d ≤ 6) : Iv x a 62 := by
  have e2 := ex_rem e
  obtain ⟨h1, h2⟩ := hx; obtain ⟨h3, h4⟩ := hv; obtain ⟨h5, h6⟩ := h
  rw [show (8 : Int32).toInt = 8 by decide, Int.tmod_eq_emod_of_nonneg (by omega)] at e2
  exact ⟨h1, by omega⟩
theorem rem8_lo {v x : Int32} (e : v = x - x / 8 * 8) {b c d : Int} (hx : Iv x 0 b) (hv : Iv v c d) (h : 1 ≤ c) : Iv x 1 b := by
  have e2 := ex_rem e
  obtain ⟨h1, h2⟩ := hx; obtain ⟨h3, h4⟩ := hv
  rw [show (8 : Int32).toInt = 8 by decide, Int.tmod_eq_emod_of_nonneg (by omega)] at e2
  exact ⟨by omega, h2⟩
theorem iv_rel {x y z : Int32} (h : y ≤ x ∧ x ≤ z) {a b c d : Int} (hy : Iv y a b) (hz : Iv z c d) : Iv x a d := by
  have h1 := iv_le.mp h.1; have h2 := iv_le.mp h.2
  exact ⟨Int.le_trans hy.1 h1, Int.le_trans h2 hz.2⟩
theorem kn_iv {x v : Int32} {lo hi : Int} (h : x = v) (i : Iv v lo hi) : Iv x lo hi := by rw [h]; exact i
theorem iv_leh {x y : Int32} {off : Int} (h : x.toInt ≤ y.toInt + off) {a b c d b' : Int} (hx : Iv x a b) (hy : Iv y c d) (hb : d + off ≤ b') : Iv x a b' := ⟨hx.1, by have := hy.2; omega⟩
theorem le_iv {x y : Int32} {off a b c d : Int} (hx : Iv x a b) (hy : Iv y c d) (h : b ≤ c + off) : x.toInt ≤ y.toInt + off := by have := hx.2; have := hy.1; omega
theorem le_same {x y z : Int32} {dx dy off : Int} (ex : x.toInt = z.toInt + dx) (ey : y.toInt = z.toInt + dy) (h : dx ≤ dy + off) : x.toInt ≤ y.toInt + off := by omega
theorem le_lin {x y z w : Int32} {dx dy o2 off : Int} (ex : x.toInt = z.toInt + dx) (ey : y.toInt = w.toInt + dy) (h2 : z.toInt ≤ w.toInt + o2) (h : dx + o2 ≤ dy + off) : x.toInt ≤ y.toInt + off := by omega
theorem iv_lel {x y : Int32} {off : Int} (h : x.toInt ≤ y.toInt + off) {a b c d a' : Int} (hx : Iv x a b) (hy : Iv y c d) (hb : a' ≤ a - off) : Iv y a' d := ⟨by have := hx.1; omega, hy.2⟩
theorem le_of {x y : Int32} (h : x ≤ y) : x.toInt ≤ y.toInt + 0 := by have := iv_le.mp h; omega
theorem le_cl {x v y : Int32} {off : Int} (e : x = v) (h : v.toInt ≤ y.toInt + off) : x.toInt ≤ y.toInt + off := by rw [e]; exact h
theorem le_cr {x v y : Int32} {off : Int} (e : y = v) (h : x.toInt ≤ v.toInt + off) : x.toInt ≤ y.toInt + off := by rw [e]; exact h
theorem fin_eq {y v z : Int32} {d : Int} (h : y = v) (x : v.toInt = z.toInt + d) : y.toInt = z.toInt + d := by rw [h]; exact x
theorem fin_tr {y v z : Int32} {d : Int} (x : y.toInt = z.toInt + d) (h : z = v) : y.toInt = v.toInt + d := by rw [← h]; exact x
theorem iv_fin {y z : Int32} {d a b lo hi : Int} (x : y.toInt = z.toInt + d) (i : Iv z a b) (h : lo ≤ a + d ∧ b + d ≤ hi) : Iv y lo hi := by obtain ⟨h1, h2⟩ := i; exact ⟨by omega, by omega⟩
theorem nat_of {i : Int32} {a b : Int} (h : Iv i a b) (h0 : 0 ≤ a) : (i.toNatClampNeg : Int) = i.toInt := by
  obtain ⟨j, hj, rfl⟩ := nI_of (x := i) (by rw [iv_lt, show (0 : Int32).toInt = 0 by decide]; have := h.1; omega)
  rw [nI_toInt hj, nI_clamp hj]
/-- what is copied among rows of the kind 'now' keeps its bounds -/
theorem rb_cp {x y z : Int32} {a b c d : Int} (hy : Iv y a b) (hz : Iv z c d) (h : 0 ≤ a ∧ 0 ≤ c ∧ b < 334) (hb : oRb 56 z.toNatClampNeg x) (e : z.toInt % 334 = y.toInt) : oRb 48 y.toNatClampNeg x := by
  have h1 := nat_of hy h.1; have h2 := nat_of hz h.2.1
  intro h3 h4
  exact hb (by omega) (by omega)
theorem rb_pc {x y z : Int32} {a b c d : Int} (hy : Iv y a b) (hz : Iv z c d) (h : 0 ≤ a ∧ 0 ≤ c ∧ d < 334) (hb : oRb 48 z.toNatClampNeg x) (e : y.toInt % 334 = z.toInt) : oRb 56 y.toNatClampNeg x := by
  have h1 := nat_of hy h.1; have h2 := nat_of hz h.2.1
  intro h3 h4
  exact hb (by omega) (by omega)
theorem rb_pp {x y z : Int32} {a b c d : Int} (hy : Iv y a b) (hz : Iv z c d) (h : 0 ≤ a ∧ 0 ≤ c) (hb : oRb 56 z.toNatClampNeg x) (e : z.toInt % 334 = y.toInt % 334) : oRb 56 y.toNatClampNeg x := by
  have h1 := nat_of hy h.1; have h2 := nat_of hz h.2
  intro h3 h4
  exact hb (by omega) (by omega)
theorem rb_nn {x y z : Int32} {a b c d : Int} (hy : Iv y a b) (hz : Iv z c d) (h : 0 ≤ a ∧ 0 ≤ c) (hb : oRb 48 z.toNatClampNeg x) (e : y.toInt = z.toInt) : oRb 48 y.toNatClampNeg x := by
  have h1 := nat_of hy h.1; have h2 := nat_of hz h.2
  intro h3 h4
  exact hb (by omega) (by omega)
section OQ
variable {p : Program} {l : Launch} {e : Env} {R : Room} {s : State} {m : MethodId} {args : Array Value} {below : List Frame} {meth : Method} {c : Code} {H : Heap} {locs : List Loc} {cells slots : Nat} {Q : State → Prop}
variable {cc : ByteArray} {nL pc : Nat} {ls : Array Slot} {rest : List Value} {A : Nat → Prop} {L : List Nat} {τ : Nat → Nat} {cy : Nat → ClassId} {D : va_G} {K : (Nat → Nat) × (Nat → Nat)} {H0 : Heap} {σ : oSt} {own : String} {index : Nat} {a b t : Nat}
/-- the model's 'read' -/
theorem g_659 (cx : oCx p s m args c cc nL own cy D A K) (hw : oI A L τ cy D H0 σ H locs) (ha : oA L τ a 10) (hF : σ.2.2.2.2 659 a = some b) (hlink : Cond.fieldLink own index "RoadsByCowsModel" "read" "[B" ∈ oTT) (hdg : decode cc pc = .ok (.getfield index, 3))
    (kk : W p l e R s m args below meth c H locs cells slots Q (F0 m (pc + 3) ls (.ref b :: rest))) : W p l e R s m args below meth c H locs cells slots Q (F0 m pc ls (.ref a :: rest)) := by
  refine o_getr cx hw 10 19 rfl fiX11 ha (by decide) rfl (by decide) rfl rfl hlink hdg ?_
  show W p l e R s m args below meth c H locs cells slots Q (F0 m (pc + 3) ls (va_rf (σ.2.2.2.2 659 a) :: rest))
  rw [hF]
  exact kk
theorem oUr_s {f : Nat → Nat → Option Nat} {j a : Nat} {v : Option Nat} : oUr f j a v j a = v := if_pos ⟨rfl, rfl⟩
theorem oUr_j {f : Nat → Nat → Option Nat} {j a i b : Nat} {v : Option Nat} (h : i ≠ j) : oUr f j a v i b = f i b := if_neg (fun q => h q.1)
theorem oUr_a {f : Nat → Nat → Option Nat} {j a i b : Nat} {v : Option Nat} (h : b ≠ a) : oUr f j a v i b = f i b := if_neg (fun q => h q.2)
theorem oTg_659 (t : Nat) : oTg t 659 = none := by unfold oTg; split <;> rfl
theorem p_659 (cx : oCx p s m args c cc nL own cy D A K) (hw : oI A L τ cy D H0 σ H locs) (ha : oA L τ a 10) (hb : oA L τ b t) (hlink : Cond.fieldLink own index "RoadsByCowsModel" "read" "[B" ∈ oTT) (hdg : decode cc pc = .ok (.putfield index, 3))
    (kk : ∀ (σ1 : oSt) (H1 : Heap) (locs1 : List Loc), σ1 = (σ.1, σ.2.1, σ.2.2.1, σ.2.2.2.1, oUr σ.2.2.2.2 659 a (some b)) → oI A L τ cy D H0 σ1 H1 locs1 → W p l e R s m args below meth c H1 locs1 cells slots Q (F0 m (pc + 3) ls rest)) : W p l e R s m args below meth c H locs cells slots Q (F0 m pc ls (.ref b :: .ref a :: rest)) := by
  obtain ⟨⟨hx, hbc, hml, hown, hts⟩, hK, hXs⟩ := cx
  obtain ⟨q, hq⟩ := va_pl_get (X := []) (f := oE cy τ σ) ha.1
  have hq0 := hq
  rw [oE_ob (ci := 10) ha.2 (by decide) rfl] at hq
  obtain ⟨hP, hD, hS, hM, hR, hF⟩ := hw
  have hl : 19 < (oVs σ a (64 * 10) (oFty 10)).length := by rw [oVs_len]; decide
  refine va_put hx hbc hts fiX11 tyX11 tyX11_ok nmX11 hown hK hP hD hS q hq rfl 19 (by decide) (hts _ hlink) (fun _ h => h) rfl (tyX11_ok 19 (by decide)) rfl rfl hl hdg (fun H1 locs1 hP1 hD1 hS1 => ?_)
  have e1 : (oPl cy L τ σ).set q (a, .inr (10, (oVs σ a (64 * 10) (oFty 10)).set 19 (.ref b))) = oPl cy L τ (σ.1, σ.2.1, σ.2.2.1, σ.2.2.2.1, oUr σ.2.2.2.2 659 a (some b)) := by
    refine (va_pl_set (X := []) hD ha.1 hq0).trans (va_pl_congr (fun z => ?_))
    by_cases h : z = a
    · subst h
      rw [oE_ob (ci := 10) ha.2 (by decide) rfl, oVs_set σ (σ.1, σ.2.1, σ.2.2.1, σ.2.2.2.1, oUr σ.2.2.2.2 659 z (some b)) z (.ref b) 2 (oFty 10) (64 * 10) 19 rfl (by simp only [oV, oUr_s]; rfl) (fun i hi c => by simp only [oV, oUr_j (show i ≠ 659 from hi)])]
      simp only [va_up, if_true]
    · simp only [va_up, if_neg h]
      exact (oE_other (σ := σ) (σ' := (σ.1, σ.2.1, σ.2.2.1, σ.2.2.2.1, oUr σ.2.2.2.2 659 a (some b))) (fun _ => rfl) (fun _ => rfl) rfl rfl (fun j => oUr_a h)).symm
  rw [e1] at hP1 hD1
  refine kk _ H1 locs1 rfl ⟨hP1, hD1, hS1, hM, hR, fun j z t9 hj hz => ?_⟩
  have hn : j ≠ 659 := fun q9 => by rw [q9, oTg_659] at hj; cases hj
  obtain ⟨b9, h9, h10⟩ := hF j z t9 hj hz
  exact ⟨b9, (oUr_j hn).trans h9, h10⟩
end OQ
theorem oFr_r {τ : Nat → Nat} {fs ts : List Nat} {σ σ1 σ2 : oSt} {j a : Nat} {v : Option Nat} (h : oFr τ fs ts σ σ1) (e : σ2 = (σ1.1, σ1.2.1, σ1.2.2.1, σ1.2.2.2.1, oUr σ1.2.2.2.2 j a v)) (hj : j ∈ fs) : oFr τ fs ts σ σ2 := by
  subst e
  exact ⟨fun i hi => ⟨(h.1 i hi).1, (h.1 i hi).2.1, (funext fun b => oUr_j (i := i) (j := j) (fun q => hi (by rw [q]; exact hj))).trans (h.1 i hi).2.2⟩, h.2⟩
theorem kp_r {σ σ1 : oSt} {i j a a' : Nat} {v : Option Nat} (e : σ1 = (σ.1, σ.2.1, σ.2.2.1, σ.2.2.2.1, oUr σ.2.2.2.2 j a' v)) : σ1.1 i a = σ.1 i a := by subst e; rfl
theorem kr_s {σ σ1 : oSt} {j a : Nat} {v : Option Nat} (e : σ1 = (σ.1, σ.2.1, σ.2.2.1, σ.2.2.2.1, oUr σ.2.2.2.2 j a v)) : σ1.2.2.2.2 j a = v := by subst e; exact oUr_s
theorem kr_r {σ σ1 : oSt} {i j a a' : Nat} {v : Option Nat} (e : σ1 = (σ.1, σ.2.1, σ.2.2.1, σ.2.2.2.1, oUr σ.2.2.2.2 j a' v)) (h : i ≠ j) : σ1.2.2.2.2 i a = σ.2.2.2.2 i a := by subst e; exact oUr_j h
theorem ge0_iv {x : Int32} {a b : Int} (h : Iv x a b) (h0 : 0 ≤ a) : 0 ≤ x := by rw [iv_le, show (0 : Int32).toInt = 0 by decide]; have := h.1; omega
theorem kn_iv2 {x v : Int32} {lo hi : Int} (h : x = v) (i : Iv x lo hi) : Iv v lo hi := by rw [← h]; exact i
theorem iv_lt0 {r x : Int32} (h : 0 ≤ r.toInt ∧ (r.toInt = 0 ∨ r.toInt < x.toInt)) {a b hi : Int} (hx : Iv x a b) (h2 : 0 ≤ hi ∧ b - 1 ≤ hi) : Iv r 0 hi := by
  obtain ⟨h3, h4⟩ := hx
  exact ⟨h.1, by omega⟩
theorem o_fb {A : Nat → Prop} {L : List Nat} {τ : Nat → Nat} {cy : Nat → ClassId} {D : va_G} {H0 H : Heap} {σ : oSt} {locs : List Loc} {j a ci : Nat} (hw : oI A L τ cy D H0 σ H locs) (ha : oA L τ a ci) (h : j / 64 = ci) : oMb j (σ.1 j a) := hw.2.2.2.1 j a (by rw [ha.2, h])
theorem by_and {x v : Int32} (e : v = x &&& 255) (hx : Iv x (-128) 127) : v.toInt = x.toInt ∨ v.toInt = x.toInt + 256 := by
  obtain ⟨h1, h2⟩ := hx
  rw [e, pk_and x 8 (by decide), nI_toInt (by omega)]
  have hb : x.toInt = if 2 * x.toBitVec.toNat < 2 ^ 32 then (x.toBitVec.toNat : Int) else (x.toBitVec.toNat : Int) - 2 ^ 32 := BitVec.toInt_eq_toNat_cond x.toBitVec
  split at hb <;> omega
theorem o_alenl {p : Program} {l : Launch} {e : Env} {R : Room} {s : State} {m : MethodId} {args : Array Value} {below : List Frame} {meth : Method} {c : Code} {H : Heap} {locs : List Loc} {cells slots : Nat} {Q : State → Prop} {cc : ByteArray} {nL pc : Nat} {ls : Array Slot} {rest : List Value} {A : Nat → Prop} {L : List Nat} {τ : Nat → Nat} {cy : Nat → ClassId} {D : va_G} {K : (Nat → Nat) × (Nat → Nat)} {H0 : Heap} {σ : oSt} {own : String} {a t : Nat} (cx : oCx p s m args c cc nL own cy D A K) (hw : oI A L τ cy D H0 σ H locs) (ha : oA L τ a t) (ht : ¬ t < 32) (he : oEl t = 3) {v : Int32} (hv : Int32.ofNat (oLn t) = v) (hdg : decode cc pc = .ok (.arraylength, 1))
    (kk : W p l e R s m args below meth c H locs cells slots Q (F0 m (pc + 1) ls (.int v :: rest))) : W p l e R s m args below meth c H locs cells slots Q (F0 m pc ls (.ref a :: rest)) := by
  obtain ⟨q, -, hq⟩ := oAr (cy := cy) (σ := σ) ha ht he
  exact va_alen cx.1.1 cx.1.2.1 cx.2.1 hw.1 q 3 hq rfl hv hdg kk
theorem nI_or (a b : Nat) : nI a ||| nI b = nI (a ||| b) := by
  apply Int32.toBitVec_inj.mp
  show BitVec.ofNat 32 a ||| BitVec.ofNat 32 b = BitVec.ofNat 32 (a ||| b)
  rw [BitVec.ofNat_or]
theorem iv_nI {x : Int32} {a b : Int} (h : Iv x a b) (h0 : 0 ≤ a) : ∃ n : Nat, x = nI n ∧ (n : Int) = x.toInt ∧ n < 2 ^ 31 := by
  obtain ⟨j, hj, rfl⟩ := nI_of (x := x) (by rw [iv_lt, show (0 : Int32).toInt = 0 by decide]; have := h.1; omega)
  exact ⟨j, rfl, (nI_toInt hj).symm, hj⟩
theorem iv_or {v x y : Int32} (e : v = x ||| y) {a b c d : Int} (hx : Iv x a b) (hy : Iv y c d) (k : Nat) {lo hi : Int} (h : 0 ≤ a ∧ 0 ≤ c ∧ b < 2 ^ k ∧ d < 2 ^ k ∧ k ≤ 30 ∧ (2 : Int) ^ k - 1 ≤ hi ∧ lo ≤ 0) : Iv v lo hi := by
  obtain ⟨h1, h2, h3, h4, h5, h10, h11⟩ := h
  obtain ⟨m, rfl, em, hm⟩ := iv_nI hx h1
  obtain ⟨n, rfl, en, hn⟩ := iv_nI hy h2
  have hm2 : m < 2 ^ k := by have := hx.2; rw [← em] at this; exact_mod_cast (Int.lt_of_le_of_lt this h3)
  have hn2 : n < 2 ^ k := by have := hy.2; rw [← en] at this; exact_mod_cast (Int.lt_of_le_of_lt this h4)
  have h6 : m ||| n < 2 ^ k := Nat.or_lt_two_pow hm2 hn2
  have h7 : (2 : Nat) ^ k ≤ 2 ^ 30 := Nat.pow_le_pow_right (by decide) h5
  have h8 : ((m ||| n : Nat) : Int) < 2 ^ k := by exact_mod_cast h6
  rw [e, nI_or, Iv, nI_toInt (by omega)]
  exact ⟨by omega, by omega⟩
theorem iv_shl1 {v y : Int32} (e : v = 1 <<< (y &&& 31)) {c d : Int} (hy : Iv y c d) (h : 0 ≤ c ∧ d ≤ 5) : Iv v 1 32 := by
  obtain ⟨n, rfl, en, hn⟩ := iv_nI hy h.1
  have h2 : n < 6 := by have := hy.2; omega
  rw [e]
  have h3 : ∀ k : Fin 6, Iv (1 <<< (nI k.val &&& 31)) 1 32 := by
    intro k
    have := k.isLt
    match k with
    | 0 => exact ⟨by decide, by decide⟩
    | 1 => exact ⟨by decide, by decide⟩
    | 2 => exact ⟨by decide, by decide⟩
    | 3 => exact ⟨by decide, by decide⟩
    | 4 => exact ⟨by decide, by decide⟩
    | 5 => exact ⟨by decide, by decide⟩
  exact h3 ⟨n, h2⟩
theorem iv_i2c {v x : Int32} (e : v = (x.toUInt32 % 65536).toInt32) : Iv v 0 65535 := by
  rw [e, pk_char, Iv, nI_toInt (by omega)]
  omega
theorem oRunK {p : Program} {l : Launch} {e : Env} {R : Room} {s : State} {m : MethodId} {args : Array Value} {below : List Frame} {meth : Method} {c : Code} {H : Heap} {locs : List Loc} {cells slots : Nat} {cc : ByteArray} {nL pc : Nat} {ls : Array Slot} {rest st : List Value} {A : Nat → Prop} {L : List Nat} {τ : Nat → Nat} {cy : Nat → ClassId} {D : va_G} {K : (Nat → Nat) × (Nat → Nat)} {σ : oSt} {own : String} {index : Nat} {y : MethodName} {bytes : ByteArray} {maxL n mc ms fr lo : Nat} {ret : Option FieldType} {As : List Value} {Qc : Array Value → State → Outcome → State → Prop} (cx : oCx p s m args c cc nL own cy D A K) (hA : ∀ q, s.heap.size ≤ q → A q) (hw : oI A L τ cy D s.heap σ H locs) (hm : oMv RJ0 y bytes maxL ret n) (hl : Cond.methodLink own index y ∈ oTT) (i : Nat) (hi : i < 4)
    (hM : Met l y (oWd y bytes maxL ret) ({ frames := fr, cells := mc, slots := ms, locals := lo } : Room) (va_Pc (.ref (K.1 i) :: As) (oPre A L τ cy D K σ)) Qc mc ms A)
    (hR : fr + 1 ≤ R.frames ∧ 8 + (maxL + 11) + lo ≤ R.locals) (hn : As.length = n) (hsize : ls.size = nL) (hst : st = As.reverse ++ .ref (K.1 i) :: rest) (h8 : (rest.map fun v => v.category).sum ≤ 8) (hdg : decode cc pc = .ok (.invokevirtual index, 3)) (hf : cells + mc ≤ R.cells ∧ slots + ms ≤ R.slots) :
    va_Run p l e R s m args below meth c H locs cells slots mc ms (F0 m pc ls st) rest (Qc (Value.ref (K.1 i) :: As).toArray) A := by
  obtain ⟨h1, h2, h3, h4, h5, h6, h7, h8'⟩ := hm
  have hts := cx.1.2.2.2.2
  exact va_runV cx.1 hM ⟨callB_of n hts (oWd_good h1) rfl rfl rfl (hts _ h2) (hts _ hl) ⟨h6, h7, h8'⟩ hR, hts _ h3, hts _ h4⟩ ⟨oPre_blind, vk_recv cx.2.2.1 hi hw.2.2.1, fun U hU hW => oPre_at cx hA hw U hU hW⟩ rfl hn hsize hst (lv_room h8) hdg hf
theorem iv_shr0 {v x y : Int32} (e : v = x >>> (y &&& 31)) {a b : Int} (hx : Iv x a b) (hy : Iv y 0 0) : Iv v a b := by
  have h : y = 0 := Int32.toInt_inj.mp (by have h1 := hy.1; have h2 := hy.2; rw [show (0 : Int32).toInt = 0 by decide]; omega)
  rw [e, h, sb_shr0]
  exact hx
theorem va_ldcSw {p : Program} {l : Launch} {e : Env} {R : Room} {s : State} {m : MethodId} {args : Array Value} {below : List Frame} {meth : Method} {c : Code} {H : Heap} {locs : List Loc} {cells slots : Nat} {Q : State → Prop} {cc : ByteArray} {pc : Nat} {ls : Array Slot} {rest : List Value} (hexec : p.tables.exec = Jvm.exec) (hb : c.code = cc) {own tx : String} {index q : Nat} (hown : s.vm.findClass own = some m.cls) (hZ : vk_R own index tx q s) (hdg : decode cc pc = .ok (.ldc_w index, 3))
    (k : W p l e R s m args below meth c H locs cells slots Q (F0 m (pc + 3) ls (.ref q :: rest))) : W p l e R s m args below meth c H locs cells slots Q (F0 m pc ls rest) := by
  intro T hT X
  obtain ⟨t, a1, b1⟩ := k T hT X
  exact ⟨t, X.ldcStringW hexec hown (text := tx) (a := q) hZ.1 hZ.2 (g := F0 m pc ls rest) rfl (by rw [hb]; exact hdg) t a1, b1⟩
/-! Integer.numberOfTrailingZeros, as it is reckoned -/
abbrev nz_u (i k : Int32) : Int32 := (i.toUInt32 >>> (k.toUInt32 &&& Int32.toUInt32 31)).toInt32
def nz_4 (n i : Int32) : Int32 := n + nz_u i 1
def nz_3 (n i : Int32) : Int32 := if i ≤ 4 then nz_4 n i else nz_4 (n + 2) (nz_u i 2)
def nz_2 (n i : Int32) : Int32 := if i ≤ 16 then nz_3 n i else nz_3 (n + 4) (nz_u i 4)
def nz_1 (n i : Int32) : Int32 := if i ≤ 256 then nz_2 n i else nz_2 (n + 8) (nz_u i 8)
def nz_0 (n i : Int32) : Int32 := if i ≤ 65536 then nz_1 n i else nz_1 (n + 16) (nz_u i 16)
def nz_F (x : Int32) : Int32 := if 0 < (x ^^^ (-1)) &&& (x - 1) then nz_0 1 ((x ^^^ (-1)) &&& (x - 1)) else ((x ^^^ (-1)) &&& (x - 1)) &&& 32
theorem nz_ok {x r : Int32} (e : r = nz_F x) {a b : Int} (hx : Iv x a b) (h : 1 ≤ a ∧ b ≤ 63) : Iv r 0 5 := by
  obtain ⟨n, rfl, en, hn⟩ := iv_nI hx (by omega)
  have h1 := hx.1; have h2 := hx.2
  have h3 : ∀ k : Fin 64, 1 ≤ k.val → (0 ≤ (nz_F (nI k.val)).toInt ∧ (nz_F (nI k.val)).toInt ≤ 5) := by decide +kernel
  rw [e]
  exact h3 ⟨n, by omega⟩ (by show 1 ≤ n; omega)
theorem nz_ti {r : Int32} (h : ¬ r = 0) : r.toInt ≠ 0 := fun q => h (Int32.toInt_inj.mp (q.trans (by decide)))
theorem z_ti {r : Int32} (h : r = 0) : r.toInt = 0 := by rw [h]; decide
theorem in_t {v a b : Int32} (h1 : a ≤ v) (h2 : v ≤ b) : (1 : Int32) = if a ≤ v ∧ v ≤ b then 1 else 0 := by rw [if_pos ⟨h1, h2⟩]
theorem in_f1 {v a b : Int32} (h1 : v < a) : (0 : Int32) = if a ≤ v ∧ v ≤ b then 1 else 0 := by rw [if_neg (fun q => by have := iv_lt.mp h1; have := iv_le.mp q.1; omega)]
theorem in_f2 {v a b : Int32} (h1 : b < v) : (0 : Int32) = if a ≤ v ∧ v ≤ b then 1 else 0 := by rw [if_neg (fun q => by have := iv_lt.mp h1; have := iv_le.mp q.2; omega)]
def lt_F (x : Int32) : Int32 := if x.toInt = 101 then 6 else if x.toInt = 103 then 0 else if x.toInt = 105 then 7 else if x.toInt = 107 then 8 else if x.toInt = 109 then 4 else if x.toInt = 111 then 5 else if x.toInt = 114 then 3 else if x.toInt = 115 then 1 else if x.toInt = 116 then 2 else -1
/-- a cell's neighbour, as the reference reckons it -/
def bs_x (c k : Int32) : Int32 := c - c / 8 * 8 + (if k = 1 then 1 else if k = 3 then -1 else 0)
def bs_y (c k : Int32) : Int32 := c / 8 + (if k = 0 then -1 else if k = 2 then 1 else 0)
def bs_F (co ro c k : Int32) : Int32 := if (if 0 ≤ bs_x c k ∧ bs_x c k ≤ co - 1 then (1 : Int32) else 0) = 0 then -1 else if (if 0 ≤ bs_y c k ∧ bs_y c k ≤ ro - 1 then (1 : Int32) else 0) = 0 then -1 else 8 * bs_y c k + bs_x c k
/-- the herds at a cell, as bits -/
def ha_F (r : Nat → Int32) (c : Int32) : Nat → Int32
  | 0 => 0
  | h + 1 => ha_F r c h ||| (if r (320 + h) = c then 1 <<< (Int32.ofNat h &&& 31) else 0)
theorem iv_cap {x : Int32} {a b c d lo hi : Int} (h : Iv x a b) (h2 : Iv x c d) (q : (lo ≤ a ∨ lo ≤ c) ∧ (b ≤ hi ∨ d ≤ hi)) : Iv x lo hi := by
  obtain ⟨h3, h4⟩ := h; obtain ⟨h5, h6⟩ := h2
  exact ⟨by omega, by omega⟩
