/-! ===== intervals ===== -/
theorem iv_top (x : Int32) : Iv x (-2147483648) 2147483647 := by
  have h1 := Int32.le_toInt x; have h2 := Int32.toInt_lt x
  exact ⟨by omega, by omega⟩
theorem iv_w {x : Int32} {a b a' b' : Int} (h : Iv x a b) (h2 : a' ≤ a ∧ b ≤ b') : Iv x a' b' := ⟨Int.le_trans h2.1 h.1, Int.le_trans h.2 h2.2⟩
theorem iv_lt {a b : Int32} : a < b ↔ a.toInt < b.toInt := Int32.lt_iff_toInt_lt
theorem iv_le {a b : Int32} : a ≤ b ↔ a.toInt ≤ b.toInt := Int32.le_iff_toInt_le
theorem ex_add {v x y : Int32} (e : v = x + y) {a b c d : Int} (hx : Iv x a b) (hy : Iv y c d) (h : -2147483648 ≤ a + c ∧ b + d ≤ 2147483647) : v.toInt = x.toInt + y.toInt := by
  obtain ⟨h1, h2⟩ := hx; obtain ⟨h3, h4⟩ := hy
  rw [e, Int32.toInt_add]
  exact Int.bmod_eq_of_le (by omega) (by omega)
theorem ex_sub {v x y : Int32} (e : v = x - y) {a b c d : Int} (hx : Iv x a b) (hy : Iv y c d) (h : -2147483648 ≤ a - d ∧ b - c ≤ 2147483647) : v.toInt = x.toInt - y.toInt := by
  obtain ⟨h1, h2⟩ := hx; obtain ⟨h3, h4⟩ := hy
  rw [e, Int32.toInt_sub]
  exact Int.bmod_eq_of_le (by omega) (by omega)
theorem iv_add {v x y : Int32} (e : v = x + y) {a b c d lo hi : Int} (hx : Iv x a b) (hy : Iv y c d) (h : (-2147483648 ≤ a + c ∧ b + d ≤ 2147483647) ∧ lo ≤ a + c ∧ b + d ≤ hi) : Iv v lo hi := by
  have e2 := ex_add e hx hy h.1
  obtain ⟨h1, h2⟩ := hx; obtain ⟨h3, h4⟩ := hy
  exact ⟨by rw [e2]; omega, by rw [e2]; omega⟩
theorem iv_sub {v x y : Int32} (e : v = x - y) {a b c d lo hi : Int} (hx : Iv x a b) (hy : Iv y c d) (h : (-2147483648 ≤ a - d ∧ b - c ≤ 2147483647) ∧ lo ≤ a - d ∧ b - c ≤ hi) : Iv v lo hi := by
  have e2 := ex_sub e hx hy h.1
  obtain ⟨h1, h2⟩ := hx; obtain ⟨h3, h4⟩ := hy
  exact ⟨by rw [e2]; omega, by rw [e2]; omega⟩
theorem ex_mul {v x y : Int32} (e : v = x * y) {a b c d : Int} (hx : Iv x a b) (hy : Iv y c d) (h : 0 ≤ a ∧ 0 ≤ c ∧ b * d ≤ 2147483647) : v.toInt = x.toInt * y.toInt := by
  obtain ⟨h1, h2⟩ := hx; obtain ⟨h3, h4⟩ := hy; obtain ⟨h5, h6, h7⟩ := h
  rw [e, Int32.toInt_mul]
  have hx0 : 0 ≤ x.toInt := by omega
  have hy0 : 0 ≤ y.toInt := by omega
  have hm : x.toInt * y.toInt ≤ b * d := Int.mul_le_mul h2 h4 hy0 (by omega)
  have hp : 0 ≤ x.toInt * y.toInt := Int.mul_nonneg hx0 hy0
  exact Int.bmod_eq_of_le (by omega) (by omega)
theorem iv_mul {v x y : Int32} (e : v = x * y) {a b c d lo hi : Int} (hx : Iv x a b) (hy : Iv y c d) (h : (0 ≤ a ∧ 0 ≤ c ∧ b * d ≤ 2147483647) ∧ lo ≤ a * c ∧ b * d ≤ hi) : Iv v lo hi := by
  have e2 := ex_mul e hx hy h.1
  obtain ⟨h1, h2⟩ := hx; obtain ⟨h3, h4⟩ := hy; obtain ⟨⟨h5, h6, h7⟩, h8, h9⟩ := h
  have hx0 : 0 ≤ x.toInt := by omega
  have hy0 : 0 ≤ y.toInt := by omega
  have hm : x.toInt * y.toInt ≤ b * d := Int.mul_le_mul h2 h4 hy0 (by omega)
  have hm2 : a * c ≤ x.toInt * y.toInt := Int.mul_le_mul h1 h3 h6 hx0
  exact ⟨by rw [e2]; omega, by rw [e2]; omega⟩
theorem ex_rem {v x y : Int32} (e : v = x - x / y * y) : v.toInt = x.toInt.tmod y.toInt := by rw [e]; exact rem_toInt x y
theorem iv_rem {v x y : Int32} (e : v = x - x / y * y) {a b c d lo hi : Int} (hx : Iv x a b) (hy : Iv y c d) (h : 0 ≤ a ∧ 0 < c ∧ lo ≤ 0 ∧ d - 1 ≤ hi) : Iv v lo hi := by
  have e2 := ex_rem e
  obtain ⟨h1, h2⟩ := hx; obtain ⟨h3, h4⟩ := hy; obtain ⟨h5, h6, h7, h8⟩ := h
  rw [Int.tmod_eq_emod_of_nonneg (by omega)] at e2
  have h9 := Int.emod_nonneg x.toInt (by omega : y.toInt ≠ 0)
  have h10 := Int.emod_lt_of_pos x.toInt (by omega : 0 < y.toInt)
  exact ⟨by omega, by omega⟩
theorem iv_remA {v x y : Int32} (e : v = x - x / y * y) {c d lo hi : Int} (hy : Iv y c d) (h : 0 < c ∧ lo ≤ 1 - d ∧ d - 1 ≤ hi) : Iv v lo hi := by
  have e2 := ex_rem e
  obtain ⟨h3, h4⟩ := hy; obtain ⟨h6, h7, h8⟩ := h
  have h9 := tmod_bounds (a := x.toInt) (M := y.toInt) (by omega)
  exact ⟨by omega, by omega⟩
theorem ex_div {v x y : Int32} (e : v = x / y) {a b c d : Int} (hx : Iv x a b) (hy : Iv y c d) (h : 0 ≤ a ∧ 0 < c) : v.toInt = x.toInt / y.toInt := by
  obtain ⟨h1, h2⟩ := hx; obtain ⟨h3, h4⟩ := hy
  have hm : x ≠ Int32.minValue := fun q => by
    rw [q, show Int32.minValue.toInt = -2147483648 by decide] at h1
    omega
  rw [e, Int32.toInt_div_of_ne_left _ _ hm]
  exact Int.tdiv_eq_ediv_of_nonneg (by omega)
theorem iv_div {v x y : Int32} (e : v = x / y) {a b c d lo hi : Int} (hx : Iv x a b) (hy : Iv y c d) (h : (0 ≤ a ∧ 0 < c) ∧ lo ≤ 0 ∧ b ≤ hi) : Iv v lo hi := by
  have e2 := ex_div e hx hy h.1
  obtain ⟨h1, h2⟩ := hx; obtain ⟨h3, h4⟩ := hy
  have h5 : 0 ≤ x.toInt / y.toInt := Int.ediv_nonneg (by omega) (by omega)
  have h6 : x.toInt / y.toInt ≤ x.toInt := Int.ediv_le_self _ (by omega)
  exact ⟨by omega, by omega⟩
theorem iv_divc {v x y : Int32} (e : v = x / y) {a b c lo hi : Int} (hx : Iv x a b) (hy : Iv y c c) (h : (0 ≤ a ∧ 0 < c) ∧ lo ≤ a / c ∧ b / c ≤ hi) : Iv v lo hi := by
  have e2 := ex_div e hx hy h.1
  have hyc : y.toInt = c := Int.le_antisymm hy.2 hy.1
  rw [hyc] at e2
  have h5 := Int.ediv_le_ediv h.1.2 hx.1
  have h6 := Int.ediv_le_ediv h.1.2 hx.2
  exact ⟨by omega, by omega⟩
theorem iv_and {v x y : Int32} (e : v = x &&& y) {c d lo hi : Int} (hy : Iv y c d) (h : 0 ≤ c ∧ lo ≤ 0 ∧ d ≤ hi) : Iv v lo hi := by
  obtain ⟨h3, h4⟩ := hy
  obtain ⟨n, hn, rfl⟩ := nI_of (x := y) (by rw [iv_lt]; show ¬ y.toInt < (0 : Int32).toInt; rw [show (0 : Int32).toInt = 0 by decide]; omega)
  rw [nI_toInt hn] at h3 h4
  have h5 : (x &&& nI n).toBitVec.toNat ≤ n := by
    rw [Int32.toBitVec_and, BitVec.toNat_and]
    have := pk_tn (n := n) (by omega)
    rw [this]; exact Nat.and_le_right
  have h6 : (x &&& nI n).toInt = ((x &&& nI n).toBitVec.toNat : Int) := by
    show (x &&& nI n).toBitVec.toInt = _
    rw [BitVec.toInt_eq_toNat_of_lt (by omega)]
  rw [e]
  exact ⟨by rw [h6]; omega, by rw [h6]; omega⟩
theorem iv_lt1 {x y : Int32} (h : x < y) {a b c d b' : Int} (hx : Iv x a b) (hy : Iv y c d) (hb : b ≤ b' ∨ d - 1 ≤ b') : Iv x a b' := by
  have h := iv_lt.mp h; obtain ⟨h1, h2⟩ := hx; obtain ⟨h3, h4⟩ := hy
  exact ⟨h1, by omega⟩
theorem iv_lt2 {x y : Int32} (h : x < y) {a b c d c' : Int} (hx : Iv x a b) (hy : Iv y c d) (hb : c' ≤ c ∨ c' ≤ a + 1) : Iv y c' d := by
  have h := iv_lt.mp h; obtain ⟨h1, h2⟩ := hx; obtain ⟨h3, h4⟩ := hy
  exact ⟨by omega, h4⟩
theorem iv_le1 {x y : Int32} (h : x ≤ y) {a b c d b' : Int} (hx : Iv x a b) (hy : Iv y c d) (hb : b ≤ b' ∨ d ≤ b') : Iv x a b' := by
  have h := iv_le.mp h; obtain ⟨h1, h2⟩ := hx; obtain ⟨h3, h4⟩ := hy
  exact ⟨h1, by omega⟩
theorem iv_le2 {x y : Int32} (h : x ≤ y) {a b c d c' : Int} (hx : Iv x a b) (hy : Iv y c d) (hb : c' ≤ c ∨ c' ≤ a) : Iv y c' d := by
  have h := iv_le.mp h; obtain ⟨h1, h2⟩ := hx; obtain ⟨h3, h4⟩ := hy
  exact ⟨by omega, h4⟩
theorem iv_nlt {x y : Int32} (h : ¬ x < y) : y ≤ x := by rw [iv_lt] at h; rw [iv_le]; omega
theorem iv_nle {x y : Int32} (h : ¬ x ≤ y) : y < x := by rw [iv_le] at h; rw [iv_lt]; omega
theorem iv_ne1 {x y : Int32} (h : ¬ x = y) {a b c : Int} (hx : Iv x a b) (hy : Iv y c c) (hc : a = c) : Iv x (a + 1) b := by
  have e : x.toInt ≠ y.toInt := fun q => h (Int32.toInt_inj.mp q)
  obtain ⟨h1, h2⟩ := hx; obtain ⟨h3, h4⟩ := hy
  exact ⟨by omega, h2⟩
theorem iv_ne2 {x y : Int32} (h : ¬ x = y) {a b c : Int} (hx : Iv x a b) (hy : Iv y c c) (hc : b = c) : Iv x a (b - 1) := by
  have e : x.toInt ≠ y.toInt := fun q => h (Int32.toInt_inj.mp q)
  obtain ⟨h1, h2⟩ := hx; obtain ⟨h3, h4⟩ := hy
  exact ⟨h1, by omega⟩
theorem iv_eq1 {x y : Int32} (h : x = y) {a b c d lo hi : Int} (hx : Iv x a b) (hy : Iv y c d) (hb : (lo ≤ a ∨ lo ≤ c) ∧ (b ≤ hi ∨ d ≤ hi)) : Iv x lo hi := by
  subst h; obtain ⟨h1, h2⟩ := hx; obtain ⟨h3, h4⟩ := hy
  exact ⟨by omega, by omega⟩
theorem iv_no {x : Int32} {a b : Int} {P : Prop} (h : Iv x a b) (hb : b < a) : P := absurd (Int.le_trans h.1 h.2) (by omega)
theorem iv_in {i : Int32} {a b : Int} {n : Nat} (h : Iv i a b) (h2 : 0 ≤ a ∧ b < n) : vp_in i n := vp_in_iff.mpr ⟨by have := h.1; omega, by have := h.2; omega⟩
theorem iv_nz {y : Int32} {a b : Int} (h : Iv y a b) (h2 : 0 < a ∨ b < 0) : ¬ y = 0 := by
  intro e; subst e; obtain ⟨h1, h3⟩ := h
  rw [show (0 : Int32).toInt = 0 by decide] at h1 h3
  omega
theorem iv_01 {v : Int32} (h : Iv v 0 1) : v = 0 ∨ v = 1 := by
  obtain ⟨h1, h2⟩ := h
  have e0 : (0 : Int32).toInt = 0 := by decide
  have e1 : (1 : Int32).toInt = 1 := by decide
  rcases (show v.toInt = 0 ∨ v.toInt = 1 by omega) with h | h
  · exact Or.inl (Int32.toInt_inj.mp (h.trans e0.symm))
  · exact Or.inr (Int32.toInt_inj.mp (h.trans e1.symm))
theorem iv_nz01 {v : Int32} (h : Iv v 0 1) : narrow .boolean (.int v) = .int v := by rcases iv_01 h with e | e <;> subst e <;> decide
theorem iv_fz01 {v : Int32} (h : Iv v 0 1) : fits .boolean (.int v) = true := by rcases iv_01 h with e | e <;> subst e <;> decide
/-- a measure that falls -/
theorem ms_up {i j : Int32} {d hi : Int} {n : Nat} (e : j.toInt = i.toInt + d) (hd : 0 < d) (hj : j.toInt ≤ hi) (h : (hi - i.toInt).toNat < n + 1) : (hi - j.toInt).toNat < n := by omega
theorem ms_dn {i j : Int32} {d lo : Int} {n : Nat} (e : j.toInt = i.toInt + d) (hd : d < 0) (hj : lo ≤ j.toInt) (h : (i.toInt - lo).toNat < n + 1) : (j.toInt - lo).toNat < n := by omega
/-- what a call may have changed: the fields fs, the rows with the tags ts -/
def oFr (τ : Nat → Nat) (fs ts : List Nat) (σ σ1 : oSt) : Prop := (∀ j, j ∉ fs → σ1.1 j = σ.1 j ∧ σ1.2.1 j = σ.2.1 j ∧ σ1.2.2.2.2 j = σ.2.2.2.2 j) ∧ ∀ b, τ b ∉ ts → σ1.2.2.1 b = σ.2.2.1 b ∧ σ1.2.2.2.1 b = σ.2.2.2.1 b
theorem oFr_rf {τ : Nat → Nat} {fs ts : List Nat} {σ : oSt} : oFr τ fs ts σ σ := ⟨fun _ _ => ⟨rfl, rfl, rfl⟩, fun _ _ => ⟨rfl, rfl⟩⟩
theorem oFr_tr {τ : Nat → Nat} {fs ts fs' ts' : List Nat} {σ σ1 σ2 : oSt} (h : oFr τ fs ts σ σ1) (h2 : oFr τ fs' ts' σ1 σ2) (h3 : (∀ j ∈ fs', j ∈ fs) ∧ ∀ j ∈ ts', j ∈ ts) : oFr τ fs ts σ σ2 :=
  ⟨fun j hj => have a := h.1 j hj; have b := h2.1 j (fun q => hj (h3.1 j q)); ⟨b.1.trans a.1, b.2.1.trans a.2.1, b.2.2.trans a.2.2⟩, fun j hj => have a := h.2 j hj; have b := h2.2 j (fun q => hj (h3.2 _ q)); ⟨b.1.trans a.1, b.2.trans a.2⟩⟩
theorem oFr_i {τ : Nat → Nat} {fs ts : List Nat} {σ σ1 σ2 : oSt} {j a : Nat} {v : Int32} (h : oFr τ fs ts σ σ1) (e : σ2 = (oU σ1.1 j a v, σ1.2)) (hj : j ∈ fs) : oFr τ fs ts σ σ2 := by
  subst e
  exact ⟨fun i hi => ⟨(funext fun b => oU_j (i := i) (j := j) (fun q => hi (by rw [q]; exact hj))).trans (h.1 i hi).1, (h.1 i hi).2⟩, h.2⟩
theorem oFr_l {τ : Nat → Nat} {fs ts : List Nat} {σ σ1 σ2 : oSt} {j a : Nat} {v : Int64} (h : oFr τ fs ts σ σ1) (e : σ2 = (σ1.1, oUl σ1.2.1 j a v, σ1.2.2)) (hj : j ∈ fs) : oFr τ fs ts σ σ2 := by
  subst e
  exact ⟨fun i hi => ⟨(h.1 i hi).1, (funext fun b => oUl_j (i := i) (j := j) (fun q => hi (by rw [q]; exact hj))).trans (h.1 i hi).2.1, (h.1 i hi).2.2⟩, h.2⟩
theorem oFr_p {τ : Nat → Nat} {fs ts : List Nat} {σ σ1 σ2 : oSt} {L : List Nat} {a t : Nat} {f : Nat → Int32} (h : oFr τ fs ts σ σ1) (e : σ2 = oPut σ1 a f) (ha : oA L τ a t) (hj : t ∈ ts) : oFr τ fs ts σ σ2 := by
  subst e
  exact ⟨h.1, fun b hb => ⟨by simp only [oPut, va_up, if_neg (show b ≠ a from fun q => hb (by rw [q, ha.2]; exact hj))]; exact (h.2 b hb).1, (h.2 b hb).2⟩⟩
theorem oFr_q {τ : Nat → Nat} {fs ts : List Nat} {σ σ1 σ2 : oSt} {L : List Nat} {a t : Nat} {f : Nat → Int64} (h : oFr τ fs ts σ σ1) (e : σ2 = oPutL σ1 a f) (ha : oA L τ a t) (hj : t ∈ ts) : oFr τ fs ts σ σ2 := by
  subst e
  exact ⟨h.1, fun b hb => ⟨(h.2 b hb).1, by simp only [oPutL, va_up, if_neg (show b ≠ a from fun q => hb (by rw [q, ha.2]; exact hj))]; exact (h.2 b hb).2⟩⟩
/-! ===== a contract out of a walk of the body ===== -/
abbrev oMet (l : Launch) (A : Nat → Prop) (L : List Nat) (τ : Nat → Nat) (cy : Nat → ClassId) (D : va_G) (K : (Nat → Nat) × (Nat → Nat)) (y : MethodName) (cc : ByteArray) (n : Nat) (r : Option FieldType) (fr lo : Nat) (av : List Value) (σ : oSt) (Qc : Array Value → State → Outcome → State → Prop) : Prop :=
  Met l y (oWd y cc n r) ({ frames := fr, cells := 0, slots := 0, locals := lo } : Room) (va_Pc av (oPre A L τ cy D K σ)) Qc 0 0 A
theorem oMk {l : Launch} {A : Nat → Prop} {L : List Nat} {τ : Nat → Nat} {cy : Nat → ClassId} {D : va_G} {K : (Nat → Nat) × (Nat → Nat)} {y : MethodName} {cc : ByteArray} {n : Nat} {r : Option FieldType} {fr lo : Nat} {av : List Value} {σ : oSt} {Qc : Array Value → State → Outcome → State → Prop} {lv : List (Nat × Value)} (hy : plainName y.cls = true) (hn : (lg_sl av).length ≤ n) (hlv : lv_args 0 av = lv)
    (body : ∀ (p : Program) (e : Env) (s : State) (m : MethodId) (args : Array Value) (below : List Frame) (meth : Method) (c : Code) (ls : Array Slot), oCx p s m args c cc n y.cls cy D A K → oRx meth r → (∀ q, s.heap.size ≤ q → A q) → oI A L τ cy D s.heap σ s.heap [] → lv_has ls n lv →
      W p l e ({ frames := fr, cells := 0, slots := 0, locals := lo } : Room) s m args below meth c s.heap [] 0 0 (MQ below Qc args s 0 0 A) (F0 m 0 ls [])) : oMet l A L τ cy D K y cc n r fr lo av σ Qc := by
  refine Met.ofW (cc := cc) (maxL := n) (ret := r) hy rfl ?_
  intro p e s m args below meth c s₁ B hml hv
  obtain ⟨rfl, hK, hA, hI, hX⟩ := hv
  have hts := atoms_spec (ws := oWd y cc n r) B.pre
  rw [lg_entry_eq]
  have hl := lv_entry av hn
  rw [hlv] at hl
  exact body p e s m av.toArray below meth c _ ⟨⟨B.exec, B.bytes, hml, findClass_of_methodNamed B.named, fun w h => hts w (List.mem_cons_of_mem _ h)⟩, hK, hX⟩ ⟨B.returns, B.notSynchronized⟩ hA hI hl
section OG
variable {p : Program} {l : Launch} {e : Env} {R : Room} {s : State} {m : MethodId} {args : Array Value} {below : List Frame} {meth : Method} {c : Code} {H : Heap} {locs : List Loc} {cells slots : Nat} {Q : State → Prop}
variable {cc : ByteArray} {nL pc : Nat} {ls : Array Slot} {rest : List Value} {A : Nat → Prop} {L : List Nat} {τ : Nat → Nat} {cy : Nat → ClassId} {D : va_G} {K : (Nat → Nat) × (Nat → Nat)} {H0 : Heap} {σ : oSt} {own ref C : String} {T : u_T} {N index : Nat} {a t : Nat}
theorem o_getR (cx : oCx p s m args c cc nL own cy D A K) (hw : oI A L τ cy D H0 σ H locs) (ci k : Nat) (hc : vwCl[ci]? = some (C, T, N)) (hin : ∀ w ∈ u_ws C T N, w ∈ oTT) (ha : oA L τ a ci) (ht : ci < 16) (hk : k < N) (hf : (oFty ci)[k]? = some 2) (htg : oTg ci (64 * ci + k) = some t) (href : (T k).1 = ref) (hlink : Cond.fieldLink own index ref (T k).2.1 (T k).2.2.1 ∈ oTT) (hdg : decode cc pc = .ok (.getfield index, 3))
    (kk : ∀ b : Nat, σ.2.2.2.2 (64 * ci + k) a = some b → oA L τ b t → W p l e R s m args below meth c H locs cells slots Q (F0 m (pc + 3) ls (.ref b :: rest))) : W p l e R s m args below meth c H locs cells slots Q (F0 m pc ls (.ref a :: rest)) := by
  obtain ⟨b, hb, hA⟩ := hw.2.2.2.2.2 (64 * ci + k) a t (by rw [ha.2]; exact htg) ha.1
  refine o_getr cx hw ci k hc hin ha (by omega) (if_pos ht) hk hf href hlink hdg ?_
  rw [hb]
  exact kk b hb hA
end OG
