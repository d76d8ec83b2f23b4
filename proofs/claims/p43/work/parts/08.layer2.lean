section OL2
variable {p : Program} {l : Launch} {e : Env} {R : Room} {s : State} {m : MethodId} {args : Array Value} {below : List Frame} {meth : Method} {c : Code} {H : Heap} {locs : List Loc} {cells slots : Nat} {Q : State → Prop}
variable {cc : ByteArray} {nL pc : Nat} {ls : Array Slot} {rest : List Value} {A : Nat → Prop} {L : List Nat} {τ : Nat → Nat} {cy : Nat → ClassId} {D : va_G} {K : (Nat → Nat) × (Nat → Nat)} {H0 : Heap} {σ : oSt} {own : String} {a t : Nat}
theorem oAr {el : Nat} (ha : oA L τ a t) (ht : ¬ t < 32) (he : oEl t = el) : ∃ q : Nat, (oPl cy L τ σ)[q]? = some (a, oE cy τ σ a) ∧ (oPl cy L τ σ)[q]? = some (a, .inl (cy el, oLn t, oRow el σ a)) := by
  obtain ⟨q, hq⟩ := va_pl_get (X := []) (f := oE cy τ σ) ha.1
  refine ⟨q, hq, ?_⟩
  have hq' := hq
  rw [oE_ar ha.2 ht, he] at hq'
  exact hq'
/-- an element of an int row is read -/
theorem o_iald (cx : oCx p s m args c cc nL own cy D A K) (hw : oI A L τ cy D H0 σ H locs) (ha : oA L τ a t) (ht : ¬ t < 32) (he : oEl t = 2) {i : Int32} (hi : vp_in i (oLn t)) (hdg : decode cc pc = .ok (.iaload, 1))
    (kk : ∀ x : Int32, x = σ.2.2.1 a i.toNatClampNeg → oRb t i.toNatClampNeg x → W p l e R s m args below meth c H locs cells slots Q (F0 m (pc + 1) ls (.int x :: rest))) : W p l e R s m args below meth c H locs cells slots Q (F0 m pc ls (.int i :: .ref a :: rest)) := by
  obtain ⟨q, -, hq⟩ := oAr (cy := cy) (σ := σ) ha ht he
  exact va_iald cx.1.1 cx.1.2.1 cx.2.1 hw.1 q 2 hq rfl hi hdg (kk _ rfl (by have h := hw.2.2.2.2.1 a i.toNatClampNeg; rw [ha.2] at h; exact h))
theorem o_cald (cx : oCx p s m args c cc nL own cy D A K) (hw : oI A L τ cy D H0 σ H locs) (ha : oA L τ a t) (ht : ¬ t < 32) (he : oEl t = 1) {i : Int32} (hi : vp_in i (oLn t)) (hdg : decode cc pc = .ok (.caload, 1))
    (kk : ∀ x : Int32, x = σ.2.2.1 a i.toNatClampNeg → oRb t i.toNatClampNeg x → W p l e R s m args below meth c H locs cells slots Q (F0 m (pc + 1) ls (.int x :: rest))) : W p l e R s m args below meth c H locs cells slots Q (F0 m pc ls (.int i :: .ref a :: rest)) := by
  obtain ⟨q, -, hq⟩ := oAr (cy := cy) (σ := σ) ha ht he
  exact va_cald cx.1.1 cx.1.2.1 cx.2.1 hw.1 q 1 hq rfl hi hdg (kk _ rfl (by have h := hw.2.2.2.2.1 a i.toNatClampNeg; rw [ha.2] at h; exact h))
theorem o_bald (cx : oCx p s m args c cc nL own cy D A K) (hw : oI A L τ cy D H0 σ H locs) (ha : oA L τ a t) (ht : ¬ t < 32) (he : oEl t = 0) {i : Int32} (hi : vp_in i (oLn t)) (hdg : decode cc pc = .ok (.baload, 1))
    (kk : ∀ x : Int32, x = σ.2.2.1 a i.toNatClampNeg → oRb t i.toNatClampNeg x → W p l e R s m args below meth c H locs cells slots Q (F0 m (pc + 1) ls (.int x :: rest))) : W p l e R s m args below meth c H locs cells slots Q (F0 m pc ls (.int i :: .ref a :: rest)) := by
  obtain ⟨q, -, hq⟩ := oAr (cy := cy) (σ := σ) ha ht he
  exact va_bald cx.1.1 cx.1.2.1 cx.2.1 hw.1 q 0 hq rfl hi hdg (kk _ rfl (by have h := hw.2.2.2.2.1 a i.toNatClampNeg; rw [ha.2] at h; exact h))
theorem o_zald (cx : oCx p s m args c cc nL own cy D A K) (hw : oI A L τ cy D H0 σ H locs) (ha : oA L τ a t) (ht : ¬ t < 32) (he : oEl t = 4) {i : Int32} (hi : vp_in i (oLn t)) (hdg : decode cc pc = .ok (.baload, 1))
    (kk : ∀ x : Int32, x = σ.2.2.1 a i.toNatClampNeg → oRb t i.toNatClampNeg x → W p l e R s m args below meth c H locs cells slots Q (F0 m (pc + 1) ls (.int x :: rest))) : W p l e R s m args below meth c H locs cells slots Q (F0 m pc ls (.int i :: .ref a :: rest)) := by
  obtain ⟨q, -, hq⟩ := oAr (cy := cy) (σ := σ) ha ht he
  exact va_zald cx.1.1 cx.1.2.1 cx.2.1 hw.1 q 4 hq rfl hi hdg (kk _ rfl (by have h := hw.2.2.2.2.1 a i.toNatClampNeg; rw [ha.2] at h; exact h))
theorem o_lald (cx : oCx p s m args c cc nL own cy D A K) (hw : oI A L τ cy D H0 σ H locs) (ha : oA L τ a t) (ht : ¬ t < 32) (he : oEl t = 3) {i : Int32} (hi : vp_in i (oLn t)) (hdg : decode cc pc = .ok (.laload, 1))
    (kk : ∀ x : Int64, x = σ.2.2.2.1 a i.toNatClampNeg → W p l e R s m args below meth c H locs cells slots Q (F0 m (pc + 1) ls (.long x :: rest))) : W p l e R s m args below meth c H locs cells slots Q (F0 m pc ls (.int i :: .ref a :: rest)) := by
  obtain ⟨q, -, hq⟩ := oAr (cy := cy) (σ := σ) ha ht he
  exact va_lald cx.1.1 cx.1.2.1 cx.2.1 hw.1 q 3 hq rfl hi hdg (kk _ rfl)
/-- an element of a row of States is read -/
theorem o_aald (cx : oCx p s m args c cc nL own cy D A K) (hw : oI A L τ cy D H0 σ H locs) (ha : oA L τ a t) (ht : ¬ t < 32) (he : oEl t = 5) {i : Int32} (hi : vp_in i (oLn t)) (htg : ∀ k, k < oLn t → oTg t (4096 + k) = some 5) (hdg : decode cc pc = .ok (.aaload, 1))
    (kk : ∀ b : Nat, σ.2.2.2.2 (4096 + i.toNatClampNeg) a = some b → oA L τ b 5 → W p l e R s m args below meth c H locs cells slots Q (F0 m (pc + 1) ls (.ref b :: rest))) : W p l e R s m args below meth c H locs cells slots Q (F0 m pc ls (.int i :: .ref a :: rest)) := by
  obtain ⟨q, -, hq⟩ := oAr (cy := cy) (σ := σ) ha ht he
  have hi2 : i.toNatClampNeg < oLn t := Nat.lt_of_not_le (fun h => hi (Or.inr h))
  obtain ⟨b, hb, hA⟩ := hw.2.2.2.2.2 (4096 + i.toNatClampNeg) a 5 (by rw [ha.2]; exact htg _ hi2) ha.1
  refine va_aldq cx.1.1 cx.1.2.1 cx.2.1 hw.1 q 5 hq rfl hi hdg ?_
  show W p l e R s m args below meth c H locs cells slots Q (F0 m (pc + 1) ls (va_rf (σ.2.2.2.2 (4096 + i.toNatClampNeg) a) :: rest))
  rw [hb]
  exact kk b hb hA
theorem o_alen (cx : oCx p s m args c cc nL own cy D A K) (hw : oI A L τ cy D H0 σ H locs) (ha : oA L τ a t) (ht : ¬ t < 32) (he : oEl t = 2) {v : Int32} (hv : Int32.ofNat (oLn t) = v) (hdg : decode cc pc = .ok (.arraylength, 1))
    (kk : W p l e R s m args below meth c H locs cells slots Q (F0 m (pc + 1) ls (.int v :: rest))) : W p l e R s m args below meth c H locs cells slots Q (F0 m pc ls (.ref a :: rest)) := by
  obtain ⟨q, -, hq⟩ := oAr (cy := cy) (σ := σ) ha ht he
  exact va_alen cx.1.1 cx.1.2.1 cx.2.1 hw.1 q 2 hq rfl hv hdg kk
def oPut (σ : oSt) (a : Nat) (f : Nat → Int32) : oSt := (σ.1, σ.2.1, va_up σ.2.2.1 a f, σ.2.2.2)
def oPutL (σ : oSt) (a : Nat) (f : Nat → Int64) : oSt := (σ.1, σ.2.1, σ.2.2.1, va_up σ.2.2.2.1 a f, σ.2.2.2.2)
/-- the world with a row's contents changed -/
theorem oPut_pl {el : Nat} (hD : va_D A (oPl cy L τ σ)) (ha : oA L τ a t) (ht : ¬ t < 32) (he : oEl t = el) (h3 : el ≠ 3) (h5 : el ≠ 5) {q : Nat} (hq : (oPl cy L τ σ)[q]? = some (a, oE cy τ σ a)) (f : Nat → Int32) : (oPl cy L τ σ).set q (a, .inl (cy el, oLn t, .inl f)) = oPl cy L τ (oPut σ a f) := by
  refine (va_pl_set (X := []) hD ha.1 hq).trans (va_pl_congr (fun b => ?_))
  by_cases h : b = a
  · subst h
    rw [oE_ar ha.2 ht, he]
    simp only [va_up, if_true, oRow, if_neg h3, if_neg h5, oPut]
  · simp only [va_up, if_neg h]
    exact (oE_other (σ := σ) (σ' := oPut σ a f) (fun _ => rfl) (fun _ => rfl) (by simp only [oPut, va_up, if_neg h]) rfl (fun _ => rfl)).symm
theorem oPutL_pl (hD : va_D A (oPl cy L τ σ)) (ha : oA L τ a t) (ht : ¬ t < 32) (he : oEl t = 3) {q : Nat} (hq : (oPl cy L τ σ)[q]? = some (a, oE cy τ σ a)) (f : Nat → Int64) : (oPl cy L τ σ).set q (a, .inl (cy 3, oLn t, .inr (.inl f))) = oPl cy L τ (oPutL σ a f) := by
  refine (va_pl_set (X := []) hD ha.1 hq).trans (va_pl_congr (fun b => ?_))
  by_cases h : b = a
  · subst h
    rw [oE_ar ha.2 ht, he]
    simp only [va_up, if_true, oRow, oPutL]
  · simp only [va_up, if_neg h]
    exact (oE_other (σ := σ) (σ' := oPutL σ a f) (fun _ => rfl) (fun _ => rfl) rfl (by simp only [oPutL, va_up, if_neg h]) (fun _ => rfl)).symm
theorem oPut_w {el : Nat} (hw : oI A L τ cy D H0 σ H locs) (ha : oA L τ a t) (ht : ¬ t < 32) (he : oEl t = el) (h3 : el ≠ 3) (h5 : el ≠ 5) {q : Nat} (hq : (oPl cy L τ σ)[q]? = some (a, oE cy τ σ a)) {f : Nat → Int32} (hf : ∀ i, oRb t i (f i)) {H1 : Heap} {locs1 : List Loc} (hP1 : va_P D vwCl ((oPl cy L τ σ).set q (a, .inl (cy el, oLn t, .inl f))) H1) (hD1 : va_D A ((oPl cy L τ σ).set q (a, .inl (cy el, oLn t, .inl f)))) (hS1 : va_S A H0 H1 locs1) : oI A L τ cy D H0 (oPut σ a f) H1 locs1 := by
  rw [oPut_pl hw.2.1 ha ht he h3 h5 hq] at hP1 hD1
  refine ⟨hP1, hD1, hS1, hw.2.2.2.1, fun b i => ?_, hw.2.2.2.2.2⟩
  show oRb (τ b) i (va_up σ.2.2.1 a f b i)
  by_cases h : b = a
  · subst h; rw [ha.2]; simp only [va_up, if_true]; exact hf i
  · simp only [va_up, if_neg h]; exact hw.2.2.2.2.1 b i
theorem oPutL_w (hw : oI A L τ cy D H0 σ H locs) (ha : oA L τ a t) (ht : ¬ t < 32) (he : oEl t = 3) {q : Nat} (hq : (oPl cy L τ σ)[q]? = some (a, oE cy τ σ a)) {f : Nat → Int64} {H1 : Heap} {locs1 : List Loc} (hP1 : va_P D vwCl ((oPl cy L τ σ).set q (a, .inl (cy 3, oLn t, .inr (.inl f)))) H1) (hD1 : va_D A ((oPl cy L τ σ).set q (a, .inl (cy 3, oLn t, .inr (.inl f))))) (hS1 : va_S A H0 H1 locs1) : oI A L τ cy D H0 (oPutL σ a f) H1 locs1 := by
  rw [oPutL_pl hw.2.1 ha ht he hq] at hP1 hD1
  exact ⟨hP1, hD1, hS1, hw.2.2.2.1, hw.2.2.2.2.1, hw.2.2.2.2.2⟩
theorem oRb_up (hw : oI A L τ cy D H0 σ H locs) (ha : oA L τ a t) {k : Nat} {x : Int32} (hx : oRb t k x) : ∀ i, oRb t i (upd (σ.2.2.1 a) k x i) := fun i => by
  by_cases h : i = k
  · subst h; rw [pk_us]; exact hx
  · rw [pk_un h]; have h2 := hw.2.2.2.2.1 a i; rw [ha.2] at h2; exact h2
theorem o_iast (cx : oCx p s m args c cc nL own cy D A K) (hw : oI A L τ cy D H0 σ H locs) (ha : oA L τ a t) (ht : ¬ t < 32) (he : oEl t = 2) {i x : Int32} (hi : vp_in i (oLn t)) (hx : oRb t i.toNatClampNeg x) (hdg : decode cc pc = .ok (.iastore, 1))
    (kk : ∀ (σ1 : oSt) (H1 : Heap) (locs1 : List Loc), σ1 = oPut σ a (upd (σ.2.2.1 a) i.toNatClampNeg x) → oI A L τ cy D H0 σ1 H1 locs1 → W p l e R s m args below meth c H1 locs1 cells slots Q (F0 m (pc + 1) ls rest)) : W p l e R s m args below meth c H locs cells slots Q (F0 m pc ls (.int x :: .int i :: .ref a :: rest)) := by
  obtain ⟨q, hq0, hq⟩ := oAr (cy := cy) (σ := σ) ha ht he
  exact va_iast cx.1.1 cx.1.2.1 cx.2.1 hw.1 hw.2.1 hw.2.2.1 q 2 hq rfl hi hdg (fun H1 locs1 hP1 hD1 hS1 => kk _ H1 locs1 rfl (oPut_w hw ha ht he (by decide) (by decide) hq0 (oRb_up hw ha hx) hP1 hD1 hS1))
theorem o_cast (cx : oCx p s m args c cc nL own cy D A K) (hw : oI A L τ cy D H0 σ H locs) (ha : oA L τ a t) (ht : ¬ t < 32) (he : oEl t = 1) {i x : Int32} (hi : vp_in i (oLn t)) (hx : oRb t i.toNatClampNeg (vp_nar .char x)) (hdg : decode cc pc = .ok (.castore, 1))
    (kk : ∀ (σ1 : oSt) (H1 : Heap) (locs1 : List Loc), σ1 = oPut σ a (upd (σ.2.2.1 a) i.toNatClampNeg (vp_nar .char x)) → oI A L τ cy D H0 σ1 H1 locs1 → W p l e R s m args below meth c H1 locs1 cells slots Q (F0 m (pc + 1) ls rest)) : W p l e R s m args below meth c H locs cells slots Q (F0 m pc ls (.int x :: .int i :: .ref a :: rest)) := by
  obtain ⟨q, hq0, hq⟩ := oAr (cy := cy) (σ := σ) ha ht he
  exact va_cast cx.1.1 cx.1.2.1 cx.2.1 hw.1 hw.2.1 hw.2.2.1 q 1 hq rfl hi hdg (fun H1 locs1 hP1 hD1 hS1 => kk _ H1 locs1 rfl (oPut_w hw ha ht he (by decide) (by decide) hq0 (oRb_up hw ha hx) hP1 hD1 hS1))
theorem o_bast (cx : oCx p s m args c cc nL own cy D A K) (hw : oI A L τ cy D H0 σ H locs) (ha : oA L τ a t) (ht : ¬ t < 32) (he : oEl t = 0) {i x : Int32} (hi : vp_in i (oLn t)) (hx : oRb t i.toNatClampNeg (vp_nar .byte x)) (hdg : decode cc pc = .ok (.bastore, 1))
    (kk : ∀ (σ1 : oSt) (H1 : Heap) (locs1 : List Loc), σ1 = oPut σ a (upd (σ.2.2.1 a) i.toNatClampNeg (vp_nar .byte x)) → oI A L τ cy D H0 σ1 H1 locs1 → W p l e R s m args below meth c H1 locs1 cells slots Q (F0 m (pc + 1) ls rest)) : W p l e R s m args below meth c H locs cells slots Q (F0 m pc ls (.int x :: .int i :: .ref a :: rest)) := by
  obtain ⟨q, hq0, hq⟩ := oAr (cy := cy) (σ := σ) ha ht he
  exact va_bast cx.1.1 cx.1.2.1 cx.2.1 hw.1 hw.2.1 hw.2.2.1 q 0 hq rfl hi hdg (fun H1 locs1 hP1 hD1 hS1 => kk _ H1 locs1 rfl (oPut_w hw ha ht he (by decide) (by decide) hq0 (oRb_up hw ha hx) hP1 hD1 hS1))
theorem o_zast (cx : oCx p s m args c cc nL own cy D A K) (hw : oI A L τ cy D H0 σ H locs) (ha : oA L τ a t) (ht : ¬ t < 32) (he : oEl t = 4) {i x : Int32} (hi : vp_in i (oLn t)) (hx : oRb t i.toNatClampNeg (vp_nar .boolean x)) (hdg : decode cc pc = .ok (.bastore, 1))
    (kk : ∀ (σ1 : oSt) (H1 : Heap) (locs1 : List Loc), σ1 = oPut σ a (upd (σ.2.2.1 a) i.toNatClampNeg (vp_nar .boolean x)) → oI A L τ cy D H0 σ1 H1 locs1 → W p l e R s m args below meth c H1 locs1 cells slots Q (F0 m (pc + 1) ls rest)) : W p l e R s m args below meth c H locs cells slots Q (F0 m pc ls (.int x :: .int i :: .ref a :: rest)) := by
  obtain ⟨q, hq0, hq⟩ := oAr (cy := cy) (σ := σ) ha ht he
  exact va_zast cx.1.1 cx.1.2.1 cx.2.1 hw.1 hw.2.1 hw.2.2.1 q 4 hq rfl hi hdg (fun H1 locs1 hP1 hD1 hS1 => kk _ H1 locs1 rfl (oPut_w hw ha ht he (by decide) (by decide) hq0 (oRb_up hw ha hx) hP1 hD1 hS1))
theorem o_last (cx : oCx p s m args c cc nL own cy D A K) (hw : oI A L τ cy D H0 σ H locs) (ha : oA L τ a t) (ht : ¬ t < 32) (he : oEl t = 3) {i : Int32} {x : Int64} (hi : vp_in i (oLn t)) (hdg : decode cc pc = .ok (.lastore, 1))
    (kk : ∀ (σ1 : oSt) (H1 : Heap) (locs1 : List Loc), σ1 = oPutL σ a (vp_updL (σ.2.2.2.1 a) i.toNatClampNeg x) → oI A L τ cy D H0 σ1 H1 locs1 → W p l e R s m args below meth c H1 locs1 cells slots Q (F0 m (pc + 1) ls rest)) : W p l e R s m args below meth c H locs cells slots Q (F0 m pc ls (.long x :: .int i :: .ref a :: rest)) := by
  obtain ⟨q, hq0, hq⟩ := oAr (cy := cy) (σ := σ) ha ht he
  exact va_last cx.1.1 cx.1.2.1 cx.2.1 hw.1 hw.2.1 hw.2.2.1 q 3 hq rfl hi hdg (fun H1 locs1 hP1 hD1 hS1 => kk _ H1 locs1 rfl (oPutL_w hw ha ht he hq0 hP1 hD1 hS1))
end OL2
/-! ===== contracts ===== -/
/-- a method's start: the classes, room above the heap, the world -/
def oPre (A : Nat → Prop) (L : List Nat) (τ : Nat → Nat) (cy : Nat → ClassId) (D : va_G) (K : (Nat → Nat) × (Nat → Nat)) (σ : oSt) (U : State) : Prop := va_K D vwCl (oTy cy) U ∧ (∀ q, U.heap.size ≤ q → A q) ∧ oI A L τ cy D U.heap σ U.heap [] ∧ oSX A K U U.heap
/-- its end -/
def oPo (A : Nat → Prop) (L : List Nat) (τ : Nat → Nat) (cy : Nat → ClassId) (D : va_G) (σ : oSt) (t : State) : Prop := va_P D vwCl (oPl cy L τ σ) t.heap ∧ va_D A (oPl cy L τ σ) ∧ oGM τ σ ∧ oGR τ σ ∧ oGF L τ σ
abbrev oWd (y : MethodName) (cc : ByteArray) (n : Nat) (r : Option FieldType) : List Cond := .code y cc n r :: oTT
theorem oPre_blind {av : List Value} {A : Nat → Prop} {L : List Nat} {τ : Nat → Nat} {cy : Nat → ClassId} {D : va_G} {K : (Nat → Nat) × (Nat → Nat)} {σ : oSt} : FrameBlind (va_Pc av (oPre A L τ cy D K σ)) := fun a U g mk q => by
  obtain ⟨q0, q1, q2, q3, q4⟩ := q
  exact ⟨q0, va_K.moved (u := U) (U := U.calling g mk a) (Vm.Alike.refl U.vm) q1, q2, q3, oSX.same (u := U) (U := U.calling g mk a) rfl q4⟩
/-- what a call of y needs of the tables -/
def oMv (C : String) (y : MethodName) (cc : ByteArray) (n : Nat) (r : Option FieldType) (k : Nat) : Prop := Cond.code y cc n r ∈ oTT ∧ Cond.initialized y.cls ∈ oTT ∧ Cond.instanceMethod y ∈ oTT ∧ Cond.selects C y y ∈ oTT ∧ y.cls = C ∧ y.cls ≠ "java/lang/invoke/MethodHandle" ∧ y.cls ≠ "java/lang/invoke/VarHandle" ∧ (parseMethodDescriptor y.desc).map (fun d => d.parameters.length) = some k
def oMs (y : MethodName) (cc : ByteArray) (n : Nat) (r : Option FieldType) (k : Nat) : Prop := Cond.code y cc n r ∈ oTT ∧ Cond.initialized y.cls ∈ oTT ∧ Cond.static y ∈ oTT ∧ y.cls ≠ "java/lang/invoke/MethodHandle" ∧ y.cls ≠ "java/lang/invoke/VarHandle" ∧ (parseMethodDescriptor y.desc).map (fun d => d.parameters.length) = some k
theorem oWd_good {y : MethodName} {cc : ByteArray} {n : Nat} {r : Option FieldType} (h : Cond.code y cc n r ∈ oTT) : GoodIn oTT (oWd y cc n r) := fun w hw => by
  rcases List.mem_cons.mp hw with e | e
  · subst e; exact ⟨h, oT_good _ h⟩
  · exact ⟨e, oT_good _ e⟩
section OC
variable {p : Program} {l : Launch} {e : Env} {R : Room} {s : State} {m : MethodId} {args : Array Value} {below : List Frame} {meth : Method} {c : Code} {H : Heap} {locs : List Loc} {cells slots : Nat} {Q : State → Prop}
variable {cc : ByteArray} {nL pc : Nat} {ls : Array Slot} {rest st : List Value} {A : Nat → Prop} {L : List Nat} {τ : Nat → Nat} {cy : Nat → ClassId} {D : va_G} {K : (Nat → Nat) × (Nat → Nat)} {H0 : Heap} {σ : oSt} {own C : String} {index : Nat} {b : Nat} {y : MethodName} {bytes : ByteArray} {maxL n mc ms fr lo : Nat} {ret : Option FieldType} {As : List Value} {T : u_T} {N ci : Nat} {Qc : Array Value → State → Outcome → State → Prop}
theorem oPre_at (cx : oCx p s m args c cc nL own cy D A K) (hA : ∀ q, s.heap.size ≤ q → A q) (hw : oI A L τ cy D s.heap σ H locs) {av : List Value} (U : State) (hU : U.heap = H) (hW : s.WarmedH U.vm) : va_Pc av (oPre A L τ cy D K σ) av.toArray U := by
  refine ⟨rfl, va_K.moved hW.alike cx.2.1, fun q h => hA q ?_, ?_, ?_⟩
  · rw [hU] at h; exact Nat.le_trans hw.2.2.1.1 h
  · rw [hU]; exact ⟨hw.1, hw.2.1, va_S.rf, hw.2.2.2⟩
  · rw [hU]; exact (cx.2.2.kept hw.2.2.1.2.1).warm hW
theorem oRunV (cx : oCx p s m args c cc nL own cy D A K) (hA : ∀ q, s.heap.size ≤ q → A q) (hw : oI A L τ cy D s.heap σ H locs) (hm : oMv C y bytes maxL ret n) (hl : Cond.methodLink own index y ∈ oTT) (hc : vwCl[ci]? = some (C, T, N)) (hb : oA L τ b ci) (hci : ci < 16)
    (hM : Met l y (oWd y bytes maxL ret) ({ frames := fr, cells := mc, slots := ms, locals := lo } : Room) (va_Pc (.ref b :: As) (oPre A L τ cy D K σ)) Qc mc ms A)
    (hR : fr + 1 ≤ R.frames ∧ 8 + (maxL + 11) + lo ≤ R.locals) (hn : As.length = n) (hsize : ls.size = nL) (hst : st = As.reverse ++ .ref b :: rest) (h8 : (rest.map fun v => v.category).sum ≤ 8) (hdg : decode cc pc = .ok (.invokevirtual index, 3)) (hf : cells + mc ≤ R.cells ∧ slots + ms ≤ R.slots) :
    va_Run p l e R s m args below meth c H locs cells slots mc ms (F0 m pc ls st) rest (Qc (Value.ref b :: As).toArray) A := by
  obtain ⟨h1, h2, h3, h4, h5, h6, h7, h8'⟩ := hm
  obtain ⟨q, hq⟩ := va_pl_get (X := []) (f := oE cy τ σ) hb.1
  rw [oE_ob hb.2 (by omega) (if_pos hci)] at hq
  have hts := cx.1.2.2.2.2
  exact va_runV cx.1 hM ⟨callB_of n hts (oWd_good h1) rfl rfl rfl (hts _ h2) (hts _ hl) ⟨h6, h7, h8'⟩ hR, hts _ h3, hts _ h4⟩ ⟨oPre_blind, va_recv cx.2.1 hw.1 hc hq, fun U hU hW => oPre_at cx hA hw U hU hW⟩ rfl hn hsize hst (lv_room h8) hdg hf
theorem oRunS (cx : oCx p s m args c cc nL own cy D A K) (hA : ∀ q, s.heap.size ≤ q → A q) (hw : oI A L τ cy D s.heap σ H locs) (hm : oMs y bytes maxL ret n) (hl : Cond.methodLink own index y ∈ oTT)
    (hM : Met l y (oWd y bytes maxL ret) ({ frames := fr, cells := mc, slots := ms, locals := lo } : Room) (va_Pc As (oPre A L τ cy D K σ)) Qc mc ms A)
    (hR : fr + 1 ≤ R.frames ∧ 8 + (maxL + 11) + lo ≤ R.locals) (hn : As.length = n) (hsize : ls.size = nL) (hst : st = As.reverse ++ rest) (h8 : (rest.map fun v => v.category).sum ≤ 8) (hdg : decode cc pc = .ok (.invokestatic index, 3)) (hf : cells + mc ≤ R.cells ∧ slots + ms ≤ R.slots) :
    va_Run p l e R s m args below meth c H locs cells slots mc ms (F0 m pc ls st) rest (Qc As.toArray) A := by
  obtain ⟨h1, h2, h3, h6, h7, h8'⟩ := hm
  have hts := cx.1.2.2.2.2
  exact va_runS cx.1 hM ⟨callB_of n hts (oWd_good h1) rfl rfl rfl (hts _ h2) (hts _ hl) ⟨h6, h7, h8'⟩ hR, hts _ h3⟩ ⟨oPre_blind, fun U hU hW => oPre_at cx hA hw U hU hW⟩ rfl hn hsize hst (lv_room h8) hdg hf
theorem oPo_w {t : State} {σ1 : oSt} {H1 : Heap} {locs1 : List Loc} (ht : t.heap = H1) (hB : oPo A L τ cy D σ1 t) (hS : va_S A H0 H1 locs1) : oI A L τ cy D H0 σ1 H1 locs1 := by
  obtain ⟨h1, h2, h3⟩ := hB
  rw [ht] at h1
  exact ⟨h1, h2, hS, h3⟩
theorem o_ci {post : Int32 → oSt → Prop} {a : Array Value} (hw : oI A L τ cy D H0 σ H locs) (hr : va_Run p l e R s m args below meth c H locs cells slots 0 0 (F0 m pc ls st) rest (va_Qi post (oPo A L τ cy D) A a) A)
    (kk : ∀ (r : Int32) (σ1 : oSt) (H1 : Heap) (locs1 : List Loc), post r σ1 → oI A L τ cy D H0 σ1 H1 locs1 → W p l e R s m args below meth c H1 locs1 cells slots Q (F0 m (pc + 3) ls (.int r :: rest))) : W p l e R s m args below meth c H locs cells slots Q (F0 m pc ls st) :=
  va_calli hr hw.2.2.1 (fun _ _ h => h) (fun _ h => h) (fun r u t H1 locs1 ht _ hp hB _ _ hS => kk r u H1 locs1 hp (oPo_w ht hB hS))
theorem o_cl {post : Int64 → oSt → Prop} {a : Array Value} (hw : oI A L τ cy D H0 σ H locs) (hr : va_Run p l e R s m args below meth c H locs cells slots 0 0 (F0 m pc ls st) rest (va_Ql post (oPo A L τ cy D) A a) A)
    (kk : ∀ (r : Int64) (σ1 : oSt) (H1 : Heap) (locs1 : List Loc), post r σ1 → oI A L τ cy D H0 σ1 H1 locs1 → W p l e R s m args below meth c H1 locs1 cells slots Q (F0 m (pc + 3) ls (.long r :: rest))) : W p l e R s m args below meth c H locs cells slots Q (F0 m pc ls st) :=
  va_calll hr hw.2.2.1 (fun _ _ h => h) (fun _ h => h) (fun r u t H1 locs1 ht _ hp hB _ _ hS => kk r u H1 locs1 hp (oPo_w ht hB hS))
theorem o_cv {post : oSt → Prop} {a : Array Value} (hw : oI A L τ cy D H0 σ H locs) (hr : va_Run p l e R s m args below meth c H locs cells slots 0 0 (F0 m pc ls st) rest (va_Qv post (oPo A L τ cy D) A a) A)
    (kk : ∀ (σ1 : oSt) (H1 : Heap) (locs1 : List Loc), post σ1 → oI A L τ cy D H0 σ1 H1 locs1 → W p l e R s m args below meth c H1 locs1 cells slots Q (F0 m (pc + 3) ls rest)) : W p l e R s m args below meth c H locs cells slots Q (F0 m pc ls st) :=
  va_callv hr hw.2.2.1 (fun _ _ h => h) (fun _ h => h) (fun u t H1 locs1 ht _ hp hB _ _ hS => kk u H1 locs1 hp (oPo_w ht hB hS))
/-- a call that answers a State -/
theorem o_cr {post : oSt × Nat → Prop} {a : Array Value} (hw : oI A L τ cy D H0 σ H locs) (hr : va_Run p l e R s m args below meth c H locs cells slots 0 0 (F0 m pc ls st) rest (va_Qr post (fun u ra t => oPo A L τ cy D u.1 t ∧ ra = u.2) A a) A)
    (kk : ∀ (r : Nat) (σ1 : oSt) (H1 : Heap) (locs1 : List Loc), post (σ1, r) → oI A L τ cy D H0 σ1 H1 locs1 → W p l e R s m args below meth c H1 locs1 cells slots Q (F0 m (pc + 3) ls (.ref r :: rest))) : W p l e R s m args below meth c H locs cells slots Q (F0 m pc ls st) :=
  va_callr hr hw.2.2.1 (fun _ _ h => h) (fun _ h => h) (fun u ra t H1 locs1 ht _ hp hB _ _ hS => by
    obtain ⟨hB, rfl⟩ := hB
    exact kk u.2 u.1 H1 locs1 hp (oPo_w ht hB hS))
/-- the ends -/
abbrev oRx (meth : Method) (ret : Option FieldType) : Prop := meth.sig.returnType = ret ∧ meth.locks = false
theorem o_ri {post : Int32 → oSt → Prop} {v : Int32} (cx : oCx p s m args c cc nL own cy D A K) (rx : oRx meth (some .int)) (hw : oI A L τ cy D s.heap σ H locs) (hdg : decode cc pc = .ok (.ireturn, 1)) (hp : post v σ) : W p l e R s m args below meth c H locs cells slots (MQ below (va_Qi post (oPo A L τ cy D) A) args s cells slots A) (F0 m pc ls [.int v]) :=
  W.iret (v := v) cx.1.1 cx.1.2.1 rx.1 (fun t ht hW => ⟨⟨v, σ, rfl, hp, by rw [ht]; exact hw.1, hw.2.1, hw.2.2.2⟩, hw.2.2.1.F ht⟩) hw.2.2.1.2.2 hdg rx.2
theorem o_rz {post : Int32 → oSt → Prop} {v : Int32} {ty : FieldType} (cx : oCx p s m args c cc nL own cy D A K) (rx : oRx meth (some ty)) (hw : oI A L τ cy D s.heap σ H locs) (hn : narrow ty (.int v) = .int v) (hdg : decode cc pc = .ok (.ireturn, 1)) (hp : post v σ) : W p l e R s m args below meth c H locs cells slots (MQ below (va_Qi post (oPo A L τ cy D) A) args s cells slots A) (F0 m pc ls [.int v]) :=
  W.zret (v := v) cx.1.1 cx.1.2.1 rx.1 hn (fun t ht hW => ⟨⟨v, σ, rfl, hp, by rw [ht]; exact hw.1, hw.2.1, hw.2.2.2⟩, hw.2.2.1.F ht⟩) hw.2.2.1.2.2 hdg rx.2
theorem o_rl {post : Int64 → oSt → Prop} {v : Int64} (cx : oCx p s m args c cc nL own cy D A K) (rx : oRx meth (some .long)) (hw : oI A L τ cy D s.heap σ H locs) (hdg : decode cc pc = .ok (.lreturn, 1)) (hp : post v σ) : W p l e R s m args below meth c H locs cells slots (MQ below (va_Ql post (oPo A L τ cy D) A) args s cells slots A) (F0 m pc ls [.long v]) :=
  W.lret (v := v) cx.1.1 cx.1.2.1 rx.1 (fun t ht hW => ⟨⟨v, σ, rfl, hp, by rw [ht]; exact hw.1, hw.2.1, hw.2.2.2⟩, hw.2.2.1.F ht⟩) hw.2.2.1.2.2 hdg rx.2
theorem o_rv {post : oSt → Prop} (cx : oCx p s m args c cc nL own cy D A K) (rx : oRx meth none) (hw : oI A L τ cy D s.heap σ H locs) (hdg : decode cc pc = .ok (.return_, 1)) (hp : post σ) : W p l e R s m args below meth c H locs cells slots (MQ below (va_Qv post (oPo A L τ cy D) A) args s cells slots A) (F0 m pc ls []) :=
  W.vret cx.1.1 cx.1.2.1 rx.1 (fun t ht hW => ⟨⟨σ, rfl, hp, by rw [ht]; exact hw.1, hw.2.1, hw.2.2.2⟩, hw.2.2.1.F ht⟩) hw.2.2.1.2.2 hdg rx.2
theorem o_ra {post : oSt × Nat → Prop} {v : Nat} {C9 : String} (cx : oCx p s m args c cc nL own cy D A K) (rx : oRx meth (some (.object C9))) (hw : oI A L τ cy D s.heap σ H locs) (hdg : decode cc pc = .ok (.areturn, 1)) (hp : post (σ, v)) : W p l e R s m args below meth c H locs cells slots (MQ below (va_Qr post (fun u ra t => oPo A L τ cy D u.1 t ∧ ra = u.2) A) args s cells slots A) (F0 m pc ls [.ref v]) :=
  W.aret (v := .ref v) cx.1.1 cx.1.2.1 rx.1 (Or.inl ⟨_, rfl⟩) (Or.inr ⟨_, rfl⟩) (fun t ht hW => ⟨⟨(σ, v), v, rfl, hp, ⟨by rw [ht]; exact hw.1, hw.2.1, hw.2.2.2⟩, rfl⟩, hw.2.2.1.F ht⟩) hw.2.2.1.2.2 hdg rx.2
end OC
