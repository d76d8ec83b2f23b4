/-! ===== the store: int fields, long fields, int rows, long rows, references; by field number (64 * class + slot) and address ===== -/
abbrev oSt : Type := (Nat → Nat → Int32) × (Nat → Nat → Int64) × (Nat → Nat → Int32) × (Nat → Nat → Int64) × (Nat → Nat → Option Nat)
/-- what a slot holds, by its code (0 int, 1 long, else a reference) -/
def oV (c : Nat) (σ : oSt) (j a : Nat) : Value := if c = 0 then .int (σ.1 j a) else if c = 1 then .long (σ.2.1 j a) else va_rf (σ.2.2.2.2 j a)
def oVs (σ : oSt) (a : Nat) : Nat → List Nat → List Value
  | _, [] => []
  | j, c :: cs => oV c σ j a :: oVs σ a (j + 1) cs
theorem oVs_len (σ : oSt) (a : Nat) : ∀ (cs : List Nat) (j : Nat), (oVs σ a j cs).length = cs.length
  | [], _ => rfl
  | _ :: cs, j => by simp only [oVs, List.length_cons, oVs_len σ a cs (j + 1)]
theorem oVs_get (σ : oSt) (a : Nat) : ∀ (cs : List Nat) (j k c : Nat), cs[k]? = some c → (oVs σ a j cs)[k]? = some (oV c σ (j + k) a)
  | [], _, _, _, h => by simp at h
  | d :: cs, j, 0, c, h => by
    simp only [List.getElem?_cons_zero, Option.some.injEq] at h
    simp only [oVs, List.getElem?_cons_zero, h, Nat.add_zero]
  | d :: cs, j, k + 1, c, h => by
    simp only [List.getElem?_cons_succ] at h
    simp only [oVs, List.getElem?_cons_succ]
    rw [oVs_get σ a cs (j + 1) k c h, show j + 1 + k = j + (k + 1) by omega]
theorem oVs_same (σ σ' : oSt) (a : Nat) : ∀ (cs : List Nat) (j : Nat), (∀ i, j ≤ i → ∀ c, oV c σ' i a = oV c σ i a) → oVs σ' a j cs = oVs σ a j cs
  | [], _, _ => rfl
  | c :: cs, j, h => by
    simp only [oVs]
    rw [h j (Nat.le_refl j) c, oVs_same σ σ' a cs (j + 1) (fun i hi => h i (by omega))]
theorem oVs_set (σ σ' : oSt) (a : Nat) (v : Value) (c0 : Nat) : ∀ (cs : List Nat) (j k : Nat), cs[k]? = some c0 → oV c0 σ' (j + k) a = v → (∀ i, i ≠ j + k → ∀ c, oV c σ' i a = oV c σ i a) → oVs σ' a j cs = (oVs σ a j cs).set k v
  | [], _, _, h, _, _ => by simp at h
  | c :: cs, j, 0, h, hv, hn => by
    simp only [List.getElem?_cons_zero, Option.some.injEq] at h
    subst h
    simp only [oVs, List.set_cons_zero]
    rw [oVs_same σ σ' a cs (j + 1) (fun i hi => hn i (by omega))]
    exact congrArg (· :: oVs σ a (j + 1) cs) hv
  | c :: cs, j, k + 1, h, hv, hn => by
    simp only [List.getElem?_cons_succ] at h
    simp only [oVs, List.set_cons_succ]
    rw [hn j (by omega) c, oVs_set σ σ' a v c0 cs (j + 1) k h (by rw [show j + 1 + k = j + (k + 1) by omega]; exact hv) (fun i hi => hn i (by omega))]
/-- the class of an object's tag: finished 0 .. 15, being made 16 .. 31 -/
def oKd (t : Nat) : Nat := if t < 16 then t else t - 16
def oRow (el : Nat) (σ : oSt) (a : Nat) : (Nat → Int32) ⊕ (Nat → Int64) ⊕ (Nat → UInt32) ⊕ (Nat → UInt64) ⊕ (Nat → Option Nat) :=
  if el = 3 then .inr (.inl (σ.2.2.2.1 a)) else if el = 5 then .inr (.inr (.inr (.inr (fun i => σ.2.2.2.2 (4096 + i) a)))) else .inl (σ.2.2.1 a)
def oE (cy : Nat → ClassId) (τ : Nat → Nat) (σ : oSt) (a : Nat) : va_E :=
  if τ a < 32 then .inr (oKd (τ a), oVs σ a (64 * oKd (τ a)) (oFty (oKd (τ a)))) else .inl (cy (oEl (τ a)), oLn (τ a), oRow (oEl (τ a)) σ a)
abbrev oPl (cy : Nat → ClassId) (L : List Nat) (τ : Nat → Nat) (σ : oSt) : va_W := va_pl L (oE cy τ σ)
/-- the array classes -/
abbrev oTy (cy : Nat → ClassId) : List (ClassId × FieldType) := [(cy 0, .byte), (cy 1, .char), (cy 2, .int), (cy 3, .long), (cy 4, .boolean), (cy 5, .object "RoadsByCows$State")]
/-- the address a is of the world, with the tag t -/
def oA (L : List Nat) (τ : Nat → Nat) (a t : Nat) : Prop := a ∈ L ∧ τ a = t
def oGM (τ : Nat → Nat) (σ : oSt) : Prop := ∀ j a, τ a = j / 64 → oMb j (σ.1 j a)
def oGR (τ : Nat → Nat) (σ : oSt) : Prop := ∀ a i, oRb (τ a) i (σ.2.2.1 a i)
def oGF (L : List Nat) (τ : Nat → Nat) (σ : oSt) : Prop := ∀ j a t, oTg (τ a) j = some t → a ∈ L → ∃ b, σ.2.2.2.2 j a = some b ∧ oA L τ b t
/-- the world at heap H: the cells, apart and in A; nothing outside A has changed since H0; the fields' and rows' bounds; the references -/
def oI (A : Nat → Prop) (L : List Nat) (τ : Nat → Nat) (cy : Nat → ClassId) (D : va_G) (H0 : Heap) (σ : oSt) (H : Heap) (locs : List Loc) : Prop :=
  va_P D vwCl (oPl cy L τ σ) H ∧ va_D A (oPl cy L τ σ) ∧ va_S A H0 H locs ∧ oGM τ σ ∧ oGR τ σ ∧ oGF L τ σ
def oU (f : Nat → Nat → Int32) (j a : Nat) (v : Int32) : Nat → Nat → Int32 := fun i b => if i = j ∧ b = a then v else f i b
def oUl (f : Nat → Nat → Int64) (j a : Nat) (v : Int64) : Nat → Nat → Int64 := fun i b => if i = j ∧ b = a then v else f i b
def oUr (f : Nat → Nat → Option Nat) (j a : Nat) (v : Option Nat) : Nat → Nat → Option Nat := fun i b => if i = j ∧ b = a then v else f i b
theorem oU_s {f : Nat → Nat → Int32} {j a : Nat} {v : Int32} : oU f j a v j a = v := if_pos ⟨rfl, rfl⟩
theorem oU_j {f : Nat → Nat → Int32} {j a i b : Nat} {v : Int32} (h : i ≠ j) : oU f j a v i b = f i b := if_neg (fun q => h q.1)
theorem oU_a {f : Nat → Nat → Int32} {j a i b : Nat} {v : Int32} (h : b ≠ a) : oU f j a v i b = f i b := if_neg (fun q => h q.2)
theorem oUl_s {f : Nat → Nat → Int64} {j a : Nat} {v : Int64} : oUl f j a v j a = v := if_pos ⟨rfl, rfl⟩
theorem oUl_j {f : Nat → Nat → Int64} {j a i b : Nat} {v : Int64} (h : i ≠ j) : oUl f j a v i b = f i b := if_neg (fun q => h q.1)
theorem oUl_a {f : Nat → Nat → Int64} {j a i b : Nat} {v : Int64} (h : b ≠ a) : oUl f j a v i b = f i b := if_neg (fun q => h q.2)
/-- the cells of another address stay -/
theorem oE_other {cy : Nat → ClassId} {τ : Nat → Nat} {σ σ' : oSt} {b : Nat} (h1 : ∀ j, σ'.1 j b = σ.1 j b) (h2 : ∀ j, σ'.2.1 j b = σ.2.1 j b) (h3 : σ'.2.2.1 b = σ.2.2.1 b) (h4 : σ'.2.2.2.1 b = σ.2.2.2.1 b) (h5 : ∀ j, σ'.2.2.2.2 j b = σ.2.2.2.2 j b) : oE cy τ σ' b = oE cy τ σ b := by
  have hv : ∀ j c, oV c σ' j b = oV c σ j b := fun j c => by simp only [oV, h1, h2, h5]
  have hr : ∀ el, oRow el σ' b = oRow el σ b := fun el => by simp only [oRow, h3, h4, h5]
  simp only [oE, hr, oVs_same σ σ' b _ _ (fun i _ c => hv i c)]
theorem oE_ob {cy : Nat → ClassId} {τ : Nat → Nat} {σ : oSt} {a t ci : Nat} (h : τ a = t) (ht : t < 32) (hc : oKd t = ci) : oE cy τ σ a = .inr (ci, oVs σ a (64 * ci) (oFty ci)) := by
  simp only [oE, h, if_pos ht, hc]
theorem oE_ar {cy : Nat → ClassId} {τ : Nat → Nat} {σ : oSt} {a t : Nat} (h : τ a = t) (ht : ¬ t < 32) : oE cy τ σ a = .inl (cy (oEl t), oLn t, oRow (oEl t) σ a) := by
  simp only [oE, h, if_neg ht]
/-- the texts that the class names, and what the library's own methods read of its statics: outside A, so they stay -/
def oLen : List Nat := [13, 9, 11, 6]
def oByt : List (List Int32) := [[103, 42, 50, 43, 115, 42, 53, 45, 116, 42, 51, 45, 114], [103, 115, 116, 114, 109, 111, 101, 105, 107], [48, 49, 50, 51, 52, 53, 54, 55, 56, 57, 35], [104, 115, 116, 111, 99, 100]]
def oTx (K : (Nat → Nat) × (Nat → Nat)) (U : State) : Prop := vk_R RX10 83 "g*2+s*5-t*3-\x72" (K.1 0) U ∧ vk_R RX5 92 "gstrmoeik" (K.1 1) U ∧ vk_R RX2 29 "0123456789#" (K.1 2) U ∧ vk_R RX10 329 "hstocd" (K.1 3) U ∧ vk_R RX10 140 "no such cell, or nothing such of it" (K.1 4) U ∧ vk_R RX10 181 "no such herd, or nothing such of it" (K.1 5) U ∧ vk_R RX10 470 "no such number in the ROW" (K.1 6) U
/-- links to private constructors, and the class of rows of States: words that aren't among the good ones, but stay all the same -/
def oNw (U : State) : Prop := va_AO "RoadsByCows$State" U ∧ va_Nw (.methodLinkNest RX10 9 yX7_init RX10) U ∧ va_Nw (.methodLinkNest RX10 18 yX4_init RX10) U ∧ va_Nw (.methodLinkNest RX10 25 yX2_init RX10) U ∧ va_Nw (.methodLinkNest RX10 32 yX5_init RX10) U ∧ va_Nw (.methodLinkNest RX10 67 yX8_init RX10) U ∧ va_Nw (.declares ⟨"java/lang/RuntimeException", "<init>", "(Ljava/lang/String;)V"⟩) U ∧ va_Nw (.declares ⟨"java/lang/Exception", "<init>", "(Ljava/lang/String;)V"⟩) U ∧ va_Nw (.declares ⟨"java/lang/Throwable", "<init>", "(Ljava/lang/String;)V"⟩) U ∧ va_Nw (.castable "java/util/NoSuchElementException" "java/util/NoSuchElementException") U
theorem oNw.same {u U : State} (hv : U.vm = u.vm) (h : oNw u) : oNw U := ⟨va_AO.moved (by rw [hv]; exact Vm.Alike.refl _) h.1, va_Nw.same rfl hv.symm h.2.1, va_Nw.same rfl hv.symm h.2.2.1, va_Nw.same rfl hv.symm h.2.2.2.1, va_Nw.same rfl hv.symm h.2.2.2.2.1, va_Nw.same rfl hv.symm h.2.2.2.2.2.1, va_Nw.same rfl hv.symm h.2.2.2.2.2.2.1, va_Nw.same rfl hv.symm h.2.2.2.2.2.2.2.1, va_Nw.same rfl hv.symm h.2.2.2.2.2.2.2.2.1, va_Nw.same rfl hv.symm h.2.2.2.2.2.2.2.2.2⟩
theorem oNw.warm {s U : State} (hW : s.WarmedH U.vm) (h : oNw s) : oNw U := ⟨va_AO.moved hW.alike h.1, va_Nw.warmM hW h.2.1, va_Nw.warmM hW h.2.2.1, va_Nw.warmM hW h.2.2.2.1, va_Nw.warmM hW h.2.2.2.2.1, va_Nw.warmM hW h.2.2.2.2.2.1, va_Nw.warmD hW h.2.2.2.2.2.2.1, va_Nw.warmD hW h.2.2.2.2.2.2.2.1, va_Nw.warmD hW h.2.2.2.2.2.2.2.2.1, va_Nw.warmC hW h.2.2.2.2.2.2.2.2.2⟩
def oSX (A : Nat → Prop) (K : (Nat → Nat) × (Nat → Nat)) (U : State) (H : Heap) : Prop :=
  vk_S 4 oLen oByt K.1 K.2 A U H ∧ oTx K U ∧ va_Z "java/lang/String" "COMPACT_STRINGS" "Z" (.int 1) A U H ∧ va_Zq "jdk/internal/util/Preconditions" "SIOOBE_FORMATTER" "Ljava/util/function/BiFunction;" A U H ∧ vx_Zq Bundle.tN "UNASSIGNED_STACK" Bundle.steD A U H ∧ vx_Zq Bundle.tN "SUPPRESSED_SENTINEL" Bundle.listD A U H ∧ oNw U
theorem oTx.same {K : (Nat → Nat) × (Nat → Nat)} {u U : State} (hv : U.vm = u.vm) (h : oTx K u) : oTx K U := ⟨h.1.same hv, h.2.1.same hv, h.2.2.1.same hv, h.2.2.2.1.same hv, h.2.2.2.2.1.same hv, h.2.2.2.2.2.1.same hv, h.2.2.2.2.2.2.same hv⟩
theorem oTx.warm {K : (Nat → Nat) × (Nat → Nat)} {s U : State} (hW : s.WarmedH U.vm) (h : oTx K s) : oTx K U := ⟨h.1.warm hW, h.2.1.warm hW, h.2.2.1.warm hW, h.2.2.2.1.warm hW, h.2.2.2.2.1.warm hW, h.2.2.2.2.2.1.warm hW, h.2.2.2.2.2.2.warm hW⟩
theorem oSX.warm {A : Nat → Prop} {K : (Nat → Nat) × (Nat → Nat)} {s U : State} {H : Heap} (hW : s.WarmedH U.vm) (h : oSX A K s H) : oSX A K U H :=
  ⟨h.1.moved hW.alike, h.2.1.warm hW, va_Z.moved hW.alike h.2.2.1, va_Zq.moved hW.alike h.2.2.2.1, vx_Zq.moved hW.alike h.2.2.2.2.1, vx_Zq.moved hW.alike h.2.2.2.2.2.1, h.2.2.2.2.2.2.warm hW⟩
theorem oSX.kept {A : Nat → Prop} {K : (Nat → Nat) × (Nat → Nat)} {U : State} {H H1 : Heap} (h : oSX A K U H) (hq : ∀ a : Nat, a < H.size → ¬ A a → H1[a]? = H[a]?) : oSX A K U H1 :=
  ⟨h.1.kept hq, h.2.1, h.2.2.1.kept hq, va_Zq.kept h.2.2.2.1 hq, h.2.2.2.2.1.kept hq, h.2.2.2.2.2.1.kept hq, h.2.2.2.2.2.2⟩
theorem oSX.same {A : Nat → Prop} {K : (Nat → Nat) × (Nat → Nat)} {u U : State} {H : Heap} (hv : U.vm = u.vm) (h : oSX A K u H) : oSX A K U H := by
  have hal : u.vm.Alike U.vm := by rw [hv]; exact Vm.Alike.refl _
  exact ⟨h.1.moved hal, h.2.1.same hv, va_Z.moved hal h.2.2.1, va_Zq.moved hal h.2.2.2.1, vx_Zq.moved hal h.2.2.2.2.1, vx_Zq.moved hal h.2.2.2.2.2.1, h.2.2.2.2.2.2.same hv⟩
/-- the context of a method's body: its bytes, its class, the words, the classes -/
abbrev oCx (p : Program) (s : State) (m : MethodId) (args : Array Value) (c : Code) (cc : ByteArray) (nL : Nat) (own : String) (cy : Nat → ClassId) (D : va_G) (A : Nat → Prop) (K : (Nat → Nat) × (Nat → Nat)) : Prop :=
  CallFix p m c cc nL s args oTT own ∧ va_K D vwCl (oTy cy) s ∧ oSX A K s s.heap
section OL
variable {p : Program} {l : Launch} {e : Env} {R : Room} {s : State} {m : MethodId} {args : Array Value} {below : List Frame} {meth : Method} {c : Code} {H : Heap} {locs : List Loc} {cells slots : Nat} {Q : State → Prop}
variable {cc : ByteArray} {nL pc : Nat} {ls : Array Slot} {rest : List Value} {A : Nat → Prop} {L : List Nat} {τ : Nat → Nat} {cy : Nat → ClassId} {D : va_G} {K : (Nat → Nat) × (Nat → Nat)} {H0 : Heap} {σ : oSt} {own ref C : String} {T : u_T} {N index : Nat} {a t : Nat}
/-- an int field is read -/
theorem o_geti (cx : oCx p s m args c cc nL own cy D A K) (hw : oI A L τ cy D H0 σ H locs) (ci k : Nat) (hc : vwCl[ci]? = some (C, T, N)) (hin : ∀ w ∈ u_ws C T N, w ∈ oTT) (ha : oA L τ a ci) (ht : ci < 16) (hk : k < N) (hk6 : k < 64) (hf : (oFty ci)[k]? = some 0) (href : (T k).1 = ref) (hlink : Cond.fieldLink own index ref (T k).2.1 (T k).2.2.1 ∈ oTT) (hdg : decode cc pc = .ok (.getfield index, 3))
    (kk : ∀ x : Int32, x = σ.1 (64 * ci + k) a → oMb (64 * ci + k) x → W p l e R s m args below meth c H locs cells slots Q (F0 m (pc + 3) ls (.int x :: rest))) : W p l e R s m args below meth c H locs cells slots Q (F0 m pc ls (.ref a :: rest)) := by
  obtain ⟨⟨hx, hb, hml, hown, hts⟩, hK, hXs⟩ := cx
  subst href
  obtain ⟨q, hq⟩ := va_pl_get (X := []) (f := oE cy τ σ) ha.1
  rw [oE_ob ha.2 (by omega) (if_pos ht)] at hq
  have hv := oVs_get σ a (oFty ci) (64 * ci) k 0 hf
  exact va_get hx hb hts hin hown hK hw.1 q hq hc k hk (hts _ hlink) (fun _ h => h) hv hdg (kk _ rfl (hw.2.2.2.1 _ _ (by rw [ha.2]; omega)))
/-- a long field is read -/
theorem o_getl (cx : oCx p s m args c cc nL own cy D A K) (hw : oI A L τ cy D H0 σ H locs) (ci k : Nat) (hc : vwCl[ci]? = some (C, T, N)) (hin : ∀ w ∈ u_ws C T N, w ∈ oTT) (ha : oA L τ a t) (ht : t < 32) (hk2 : oKd t = ci) (hk : k < N) (hf : (oFty ci)[k]? = some 1) (href : (T k).1 = ref) (hlink : Cond.fieldLink own index ref (T k).2.1 (T k).2.2.1 ∈ oTT) (hdg : decode cc pc = .ok (.getfield index, 3))
    (kk : ∀ x : Int64, x = σ.2.1 (64 * ci + k) a → W p l e R s m args below meth c H locs cells slots Q (F0 m (pc + 3) ls (.long x :: rest))) : W p l e R s m args below meth c H locs cells slots Q (F0 m pc ls (.ref a :: rest)) := by
  obtain ⟨⟨hx, hb, hml, hown, hts⟩, hK, hXs⟩ := cx
  subst href
  obtain ⟨q, hq⟩ := va_pl_get (X := []) (f := oE cy τ σ) ha.1
  rw [oE_ob ha.2 ht hk2] at hq
  have hv := oVs_get σ a (oFty ci) (64 * ci) k 1 hf
  exact va_get hx hb hts hin hown hK hw.1 q hq hc k hk (hts _ hlink) (fun _ h => h) hv hdg (kk _ rfl)
/-- a reference is read (one that is set) -/
theorem o_getr (cx : oCx p s m args c cc nL own cy D A K) (hw : oI A L τ cy D H0 σ H locs) (ci k : Nat) (hc : vwCl[ci]? = some (C, T, N)) (hin : ∀ w ∈ u_ws C T N, w ∈ oTT) (ha : oA L τ a t) (ht : t < 32) (hk2 : oKd t = ci) (hk : k < N) (hf : (oFty ci)[k]? = some 2) (href : (T k).1 = ref) (hlink : Cond.fieldLink own index ref (T k).2.1 (T k).2.2.1 ∈ oTT) (hdg : decode cc pc = .ok (.getfield index, 3))
    (kk : W p l e R s m args below meth c H locs cells slots Q (F0 m (pc + 3) ls (va_rf (σ.2.2.2.2 (64 * ci + k) a) :: rest))) : W p l e R s m args below meth c H locs cells slots Q (F0 m pc ls (.ref a :: rest)) := by
  obtain ⟨⟨hx, hb, hml, hown, hts⟩, hK, hXs⟩ := cx
  subst href
  obtain ⟨q, hq⟩ := va_pl_get (X := []) (f := oE cy τ σ) ha.1
  rw [oE_ob ha.2 ht hk2] at hq
  have hv := oVs_get σ a (oFty ci) (64 * ci) k 2 hf
  exact va_get hx hb hts hin hown hK hw.1 q hq hc k hk (hts _ hlink) (fun _ h => h) hv hdg kk
/-- an int field is written -/
theorem o_puti (cx : oCx p s m args c cc nL own cy D A K) (hw : oI A L τ cy D H0 σ H locs) (ci k : Nat) (hc : vwCl[ci]? = some (C, T, N)) (hin : ∀ w ∈ u_ws C T N, w ∈ oTT) (ty0 : Nat → FieldType) (hty : ∀ k, k < N → parseFieldDescriptor (T k).2.2.1 = some (ty0 k)) (hnm : ∀ a, a < N → ∀ b, b < N → a ≠ b → (T a).2.1 ≠ (T b).2.1) (ha : oA L τ a t) (ht : t < 32) (hk2 : oKd t = ci) (hk : k < N) (hf : (oFty ci)[k]? = some 0) (href : (T k).1 = ref) (hfin : (T k).2.2.2 = false) {v : Int32} (hn : narrow (ty0 k) (.int v) = .int v) (hfit : fits (ty0 k) (.int v) = true) (hk6 : k < 64) (hbd : t = ci → oMb (64 * ci + k) v) (hlink : Cond.fieldLink own index ref (T k).2.1 (T k).2.2.1 ∈ oTT) (hdg : decode cc pc = .ok (.putfield index, 3))
    (kk : ∀ (σ1 : oSt) (H1 : Heap) (locs1 : List Loc), σ1 = (oU σ.1 (64 * ci + k) a v, σ.2) → oI A L τ cy D H0 σ1 H1 locs1 → W p l e R s m args below meth c H1 locs1 cells slots Q (F0 m (pc + 3) ls rest)) : W p l e R s m args below meth c H locs cells slots Q (F0 m pc ls (.int v :: .ref a :: rest)) := by
  obtain ⟨⟨hx, hb, hml, hown, hts⟩, hK, hXs⟩ := cx
  subst href
  obtain ⟨q, hq⟩ := va_pl_get (X := []) (f := oE cy τ σ) ha.1
  have hq0 := hq
  rw [oE_ob ha.2 ht hk2] at hq
  obtain ⟨hP, hD, hS, hM, hR, hF⟩ := hw
  have hl : k < (oVs σ a (64 * ci) (oFty ci)).length := by rw [oVs_len]; exact (List.getElem?_eq_some_iff.mp hf).1
  refine va_put hx hb hts hin ty0 hty hnm hown hK hP hD hS q hq hc k hk (hts _ hlink) (fun _ h => h) hfin (hty k hk) hn hfit hl hdg (fun H1 locs1 hP1 hD1 hS1 => ?_)
  have e1 : (oPl cy L τ σ).set q (a, .inr (ci, (oVs σ a (64 * ci) (oFty ci)).set k (.int v))) = oPl cy L τ (oU σ.1 (64 * ci + k) a v, σ.2) := by
    refine (va_pl_set (X := []) hD ha.1 hq0).trans (va_pl_congr (fun b => ?_))
    by_cases h : b = a
    · subst h
      rw [oE_ob ha.2 ht hk2, oVs_set σ (oU σ.1 (64 * ci + k) b v, σ.2) b (.int v) 0 (oFty ci) (64 * ci) k hf (by simp only [oV, oU_s]; rfl) (fun i hi c => by simp only [oV, oU_j hi])]
      simp only [va_up, if_true]
    · simp only [va_up, if_neg h]
      exact (oE_other (σ := σ) (σ' := (oU σ.1 (64 * ci + k) a v, σ.2)) (fun j => oU_a h) (fun _ => rfl) rfl rfl (fun _ => rfl)).symm
  rw [e1] at hP1 hD1
  refine kk _ H1 locs1 rfl ⟨hP1, hD1, hS1, fun j b hj => ?_, hR, hF⟩
  show oMb j (oU σ.1 (64 * ci + k) a v j b)
  by_cases h : j = 64 * ci + k ∧ b = a
  · rw [h.1, h.2, oU_s]
    rw [h.1, h.2, ha.2] at hj
    exact hbd (by omega)
  · rw [oU, if_neg h]; exact hM j b hj
/-- a long field is written -/
theorem o_putl (cx : oCx p s m args c cc nL own cy D A K) (hw : oI A L τ cy D H0 σ H locs) (ci k : Nat) (hc : vwCl[ci]? = some (C, T, N)) (hin : ∀ w ∈ u_ws C T N, w ∈ oTT) (ty0 : Nat → FieldType) (hty : ∀ k, k < N → parseFieldDescriptor (T k).2.2.1 = some (ty0 k)) (hnm : ∀ a, a < N → ∀ b, b < N → a ≠ b → (T a).2.1 ≠ (T b).2.1) (ha : oA L τ a t) (ht : t < 32) (hk2 : oKd t = ci) (hk : k < N) (hf : (oFty ci)[k]? = some 1) (href : (T k).1 = ref) (hfin : (T k).2.2.2 = false) {v : Int64} (hn : narrow (ty0 k) (.long v) = .long v) (hfit : fits (ty0 k) (.long v) = true) (hlink : Cond.fieldLink own index ref (T k).2.1 (T k).2.2.1 ∈ oTT) (hdg : decode cc pc = .ok (.putfield index, 3))
    (kk : ∀ (σ1 : oSt) (H1 : Heap) (locs1 : List Loc), σ1 = (σ.1, oUl σ.2.1 (64 * ci + k) a v, σ.2.2) → oI A L τ cy D H0 σ1 H1 locs1 → W p l e R s m args below meth c H1 locs1 cells slots Q (F0 m (pc + 3) ls rest)) : W p l e R s m args below meth c H locs cells slots Q (F0 m pc ls (.long v :: .ref a :: rest)) := by
  obtain ⟨⟨hx, hb, hml, hown, hts⟩, hK, hXs⟩ := cx
  subst href
  obtain ⟨q, hq⟩ := va_pl_get (X := []) (f := oE cy τ σ) ha.1
  have hq0 := hq
  rw [oE_ob ha.2 ht hk2] at hq
  obtain ⟨hP, hD, hS, hM, hR, hF⟩ := hw
  have hl : k < (oVs σ a (64 * ci) (oFty ci)).length := by rw [oVs_len]; exact (List.getElem?_eq_some_iff.mp hf).1
  refine va_put hx hb hts hin ty0 hty hnm hown hK hP hD hS q hq hc k hk (hts _ hlink) (fun _ h => h) hfin (hty k hk) hn hfit hl hdg (fun H1 locs1 hP1 hD1 hS1 => ?_)
  have e1 : (oPl cy L τ σ).set q (a, .inr (ci, (oVs σ a (64 * ci) (oFty ci)).set k (.long v))) = oPl cy L τ (σ.1, oUl σ.2.1 (64 * ci + k) a v, σ.2.2) := by
    refine (va_pl_set (X := []) hD ha.1 hq0).trans (va_pl_congr (fun b => ?_))
    by_cases h : b = a
    · subst h
      rw [oE_ob ha.2 ht hk2, oVs_set σ (σ.1, oUl σ.2.1 (64 * ci + k) b v, σ.2.2) b (.long v) 1 (oFty ci) (64 * ci) k hf (by simp only [oV, oUl_s]; rfl) (fun i hi c => by simp only [oV, oUl_j hi])]
      simp only [va_up, if_true]
    · simp only [va_up, if_neg h]
      exact (oE_other (σ := σ) (σ' := (σ.1, oUl σ.2.1 (64 * ci + k) a v, σ.2.2)) (fun _ => rfl) (fun j => oUl_a h) rfl rfl (fun _ => rfl)).symm
  rw [e1] at hP1 hD1
  exact kk _ H1 locs1 rfl ⟨hP1, hD1, hS1, hM, hR, hF⟩
end OL
