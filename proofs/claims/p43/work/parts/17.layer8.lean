/-! ===== what throws ===== -/
abbrev NSE : String := "java/util/NoSuchElementException"
abbrev nseN : List String := ["java/lang/RuntimeException", "java/lang/Exception"]
abbrev iS (c : String) : MethodName := ⟨c, "<init>", "(Ljava/lang/String;)V"⟩
def nseB : List Cond := [.declares (iS "java/lang/RuntimeException"), .declares (iS "java/lang/Exception"), .declares (iS "java/lang/Throwable"), .castable NSE NSE]
abbrev nseA : List Cond := (Bundle.ownAtomsX RX10 142 NSE 13 cNS nseN).filter vx_no
theorem nse_tbl : ∀ w ∈ nseA.filter goodWord, w ∈ lw_tbl := by decide +kernel
theorem nse_in : ∀ w ∈ nseA.filter goodWord, w ∈ oTT := fun w h => oT_m (nse_tbl w h) (List.mem_filter.mp h).2
theorem nse_bad : ∀ w ∈ nseA.filter (fun w => !goodWord w), w ∈ nseB := by decide +kernel
theorem nse_ot : ∀ w ∈ Cond.classLink RX10 138 NSE :: Cond.initialized NSE :: nseA, vx_ot w = true := by decide +kernel
theorem nse_hat {args : Array Value} {s : State} (hts : ∀ w ∈ oTT, w.before args s = true) (hn : oNw s) : ∀ w ∈ nseA, w.before args s = true :=
  vx_hat (B := nseB) (fun w h => hts w (nse_in w h)) nse_bad (vx_c (va_Nw.use rfl hn.2.2.2.2.2.2.1) (vx_c (va_Nw.use rfl hn.2.2.2.2.2.2.2.1) (vx_c (va_Nw.use rfl hn.2.2.2.2.2.2.2.2.1) (vx_c (va_Nw.use rfl hn.2.2.2.2.2.2.2.2.2) vx_n))))
section NSX
variable {p : Program} {l : Launch} {e : Env} {R : Room} {s : State} {m₀ : MethodId} {args : Array Value} {below : List Frame} {meth : Method} {c : Code} {W9 : State} {locs : List Loc} {cells slots : Nat}
set_option maxHeartbeats 4000000 in
/-- the constructor of NoSuchElementException (its own link to its superclass's stands at 13), and the throw: by the library's laws of the chain of constructors -/
theorem nse_ctor (X : Stand p l e R s m₀ args below meth c W9 locs cells slots) (hexec : p.tables.exec = Jvm.exec) (htr : e.platform.stackTraces = false) (hown : s.vm.findClass RX10 = some m₀.cls)
    (h : ∀ a ∈ Bundle.ownAtomsX RX10 142 NSE 13 cNS nseN, a.before args s = true) (hlocs : ∀ x ∈ locs, ∀ cell, s.heap[x.base]? = some cell → cell.vm.isStatics = false)
    {a : Addr} {cX : ClassId} {kX : Class} (hfoundX : s.vm.findClass NSE = some cX) (hkX : s.vm.classes[cX]? = some kX) (hcell : W9.heap[a]? = some (freshCell cX kX)) (hnew : s.heap.size ≤ a) {msg : Value} (hmsg : msg.isRef = true)
    {g : JFrame} (hg : g.method = m₀) (hsize : g.locals.size = c.maxLocals) (hlocked : g.locked = none) (hentered : g.entered = []) {rest : List Value} (hstack : g.stack = msg :: .ref a :: .ref a :: rest)
    (hd6 : decode c.code g.pc = .ok (.invokespecial 142, 3)) (hd9 : decode c.code (g.pc + 3) = .ok (.athrow, 1)) (hout : ∀ x ∈ c.exceptionTable.toList, covers x (g.pc + 3) = false)
    (hRframes : 5 < R.frames) (hRlocals : 2 * g.monitorRoom + ((Value.ref a :: rest).map fun v => v.category).sum + 81 ≤ R.locals) (hlocks : meth.locks = false) :
    ∃ U : State, Steps p.tables e below (W9.setTop g) U ∧ U.status = .running ∧ Ended U below (.threw a) ∧ s.WarmedH U.vm ∧ s.sameButNew ({ U with vm := s.vm } : State) locs cells slots ∧ ∃ ce : Cell, U.heap[a]? = some ce ∧ ce.vm = .none ∧ s.vm.findClass NSE = some ce.cls := by
  have howns : e.platform.frameOwnsMonitors = true := by rw [X.admits.platform]
  have hfin : e.platform.finalization = false := by rw [X.admits.platform]
  have hpl : e.platform.magicAccessors = ({} : Platform).magicAccessors := by rw [X.admits.platform]
  have a' : ∀ x, x ∈ Bundle.ownAtomsX RX10 142 NSE 13 cNS nseN → x.holds args s none s [] = true := fun x hx => h x hx
  obtain ⟨T, Z0, L, -, Y⟩ := ThrowableC.of_atoms (args := args) howns hfin hpl (fun x hx => h x (by simp [Bundle.ownAtomsX, hx]))
  obtain ⟨Z, M, LZ, LM, hnZ⟩ := Init0T.ofS_atoms (args := args) hpl L Y (fun x hx => h x (by simp [Bundle.ownAtomsX, hx]))
  obtain ⟨P1, Ps, hlen, L1, hL, hP1m, hlink1, hlink⟩ := Bundle.chainSX (args := args) hpl hnZ (ix := 13) (rx := cNS) (by decide +kernel) (by decide +kernel) (by decide +kernel) (by decide +kernel) nseN NSE (by decide) (by decide) (fun x hx => h x (by simp [Bundle.ownAtomsX, hx]))
  have hfound : s.vm.findClass NSE = some P1.m.cls := findClass_of_methodNamed hP1m
  cases Option.some.inj (hfoundX.symm.trans hfound)
  obtain ⟨c1, kX', hc1, hk, hord, -, -, hn6⟩ := Cond.instantiable_spec (a' (.instantiable NSE 6) (by simp [Bundle.ownAtomsX]))
  cases Option.some.inj (hc1.symm.trans hfound)
  cases Option.some.inj (hkX.symm.trans hk)
  have hsel0 : selectMethod e.platform s.vm P1.m.cls T.fill0 = .method T.fill0 := by
    obtain ⟨c2, r2, m2, q1, q2, q3, q4, -⟩ := Cond.selects_spec (a' (.selects NSE Bundle.tFill0 Bundle.tFill0) (by simp [Bundle.ownAtomsX]))
    cases Option.some.inj (q1.symm.trans hfound)
    cases Option.some.inj (q2.symm.trans (State.methodFound?_of_named Y.fill0 (by decide)))
    cases Option.some.inj (q3.symm.trans Y.fill0)
    rw [Launch.admits_selectMethod X.admits]; exact q4
  have hselF : selectMethod e.platform s.vm P1.m.cls T.fill = .method T.fill := by
    obtain ⟨c2, r2, m2, q1, q2, q3, q4, -⟩ := Cond.selects_spec (a' (.selects NSE Bundle.tFill Bundle.tFill) (by simp [Bundle.ownAtomsX]))
    cases Option.some.inj (q1.symm.trans hfound)
    cases Option.some.inj (q2.symm.trans (State.methodFound?_of_named Y.fill (by decide)))
    cases Option.some.inj (q3.symm.trans Y.fill)
    rw [Launch.admits_selectMethod X.admits]; exact q4
  obtain ⟨cellS0, hcS0, hiss⟩ := Y.statics
  obtain ⟨u0, hu0⟩ := Cond.staticRefV Y.unassigned L.unassignedStatic L.statics hcS0 hiss (a' (.isRef (.static Bundle.tN "UNASSIGNED_STACK" Bundle.steD)) (by simp [Bundle.ownAtomsX]))
  obtain ⟨sen, hsen⟩ := Cond.staticRefV Y.sentinel L.sentinelStatic L.statics hcS0 hiss (a' (.isRef (.static Bundle.tN "SUPPRESSED_SENTINEL" Bundle.listD)) (by simp [Bundle.ownAtomsX]))
  obtain ⟨ci198, i198, fB, hk198, hg198, ha198, hsB, -, hnB, htB, hffB⟩ := Cond.ownField (t := .object "java/lang/Object") Y.found L.cls (by decide +kernel) (a' (.fieldLink Bundle.tN 198 Bundle.tN "backtrace" "Ljava/lang/Object;") (by simp [Bundle.ownAtomsX])) (a' (.lays Bundle.tN Bundle.tN "backtrace" "Ljava/lang/Object;") (by simp [Bundle.ownAtomsX])) e.platform hpl
  obtain ⟨cellS, hcellS, heS, -, hkeep⟩ := X.same.2.2.2.2.2 T.aS cellS0 hcS0
  have hcellS : W9.heap[T.aS]? = some cellS := hcellS
  have hout' : ∀ i, (⟨T.aS, i⟩ : Loc) ∉ locs := fun i hmem => by
    have h9 := hlocs _ hmem cellS0 hcS0
    rw [hiss] at h9; cases h9
  have hknownS : cellS.vm ≠ .unknown := by
    rw [heS]; intro hu
    rw [show cellS0.vm = .unknown from hu] at hiss
    cases hiss
  have hneS : T.aS ≠ a := Nat.ne_of_lt (Nat.lt_of_lt_of_le (Array.getElem?_eq_some_iff.mp hcS0).1 hnew)
  obtain ⟨iM, hffM⟩ := Y.msg
  obtain ⟨tyC, dC, hdC, hdnC⟩ := Cond.laysAt hfound hk Y.cause (a' (.lays NSE Bundle.tN "cause" "Ljava/lang/Throwable;") (by simp [Bundle.ownAtomsX]))
  obtain ⟨tyS, dS, hdS, hdnS⟩ := Cond.laysAt hfound hk Y.stack (a' (.lays NSE Bundle.tN "stackTrace" Bundle.steD) (by simp [Bundle.ownAtomsX]))
  obtain ⟨tyP, dP, hdP, hdnP⟩ := Cond.laysAt hfound hk Y.supp (a' (.lays NSE Bundle.tN "suppressedExceptions" Bundle.listD) (by simp [Bundle.ownAtomsX]))
  obtain ⟨tyM, dM, hdM, hdnM⟩ := Cond.laysAt hfound hk hffM (a' (.lays NSE Bundle.tN "detailMessage" "Ljava/lang/String;") (by simp [Bundle.ownAtomsX]))
  obtain ⟨tyB, dB, hdB, hdnB⟩ := Cond.laysAt hfound hk hffB (a' (.lays NSE Bundle.tN "backtrace" "Ljava/lang/Object;") (by simp [Bundle.ownAtomsX]))
  have bC := Cond.laysApart hdB hdC hdnB hdnC (by rw [hnB, Y.causeName]; decide)
  have bS := Cond.laysApart hdB hdS hdnB hdnS (by rw [hnB, Y.stackName]; decide)
  have bP := Cond.laysApart hdB hdP hdnB hdnP (by rw [hnB, Y.suppName]; decide)
  have hskip : SkipFacts T e.platform s (fun u => u) u0 ((preparedCellV T.toThrowableT (freshCell P1.m.cls kX) a u0 sen).withEntry W9.cur) :=
    ⟨{ ci198 := ci198, i198 := i198, fBack := fB }, ⟨hk198, hg198, ha198, hsB⟩, by
      have h9 := fresh_default (c := P1.m.cls) tyB
      rw [htB] at h9
      simpa [preparedCellV, Cell.setSlot, Cell.withEntry, Array.getElem?_setIfInBounds, bC, bS, bP, bC.symm, bS.symm, bP.symm, defaultValue] using h9, fun _ _ => rfl⟩
  obtain ⟨tm, methC, cdC, kC, vm₁, hnC, -, -, -, -, -, -, -, hW₁, st1⟩ := Steps.initColdS (tb := p.tables) (e := e) (below := below) (s := s) (U := W9) X.here hexec X.warmed hpl hown (t := iS NSE) rfl rfl (by decide)
    (a' (.methodLink RX10 142 (iS NSE)) (by simp [Bundle.ownAtomsX, Bundle.initS])) (h (.instanceMethod (iS NSE)) (by simp [Bundle.ownAtomsX, Bundle.chainSAtomsX, Bundle.passSAtoms, Bundle.initS])) (bytes := cNS) (maxL := 2) (h (.code (iS NSE) cNS 2 none) (by simp [Bundle.ownAtomsX, Bundle.chainSAtomsX, Bundle.passSAtoms, Bundle.initS]))
    (f := g) hg (a := a) (msg := msg) (rest := .ref a :: rest) hstack hd6
  cases Option.some.inj (hnC.symm.trans hP1m)
  have X₁ := X.noted hW₁
  obtain ⟨vm₂, X₂, st2⟩ := X₁.ctorMessageOffV hexec (g := { g with stack := .ref a :: rest }) hg hsize T L Z LZ M LM (P1 :: Ps)
    (fun P hP => by rcases List.mem_cons.mp hP with rfl | hP; exact L1; exact hL P hP) ⟨hlink1, hlink⟩ (u0 := u0) (sen := sen) (self := a) hmsg (cell := freshCell P1.m.cls kX) (cellS := cellS)
    hcell (fun _ => by simp) (by simp) rfl rfl hsel0 hselF hcellS hneS hknownS (by rw [hkeep _ (hout' _)]; exact hu0) (by rw [hkeep _ (hout' _)]; exact hsen)
    (Takes.of_laid hk hord tyC (by rw [Y.causeType]; rfl)) (Takes.of_laid hk hord tyS (by rw [Y.stackType]; exact fits_refV_array _ u0)) (Takes.of_laid hk hord tyP (by rw [Y.suppType]; exact fits_refV_object _ sen))
    (Takes.of_laid hk hord tyM (by rw [Y.msgType]; exact fits_refV_object _ ⟨msg, hmsg⟩)) Y.objLocals hskip htr [] hd6
    (by simp only [List.length_cons, hlen]; show 2 + 1 + 2 < R.frames; omega) (by simp only [List.length_cons, hlen]; exact hRlocals)
  obtain ⟨hwalk, hrun, hended, hWU, hsame⟩ := X₂.athrowLeaves hexec (g := { g with stack := .ref a :: rest, pc := g.pc + 3 }) hg hlocked hentered hout (a := a) (rest := rest) rfl hd9
  have hlt : a < ((W9.setVm vm₁).setVm vm₂).heap.size := (Array.getElem?_eq_some_iff.mp hcell).1
  have hU := heapAt_setCell_self (s := (W9.setVm vm₁).setVm vm₂) (plainBareV T.toThrowableT (freshCell P1.m.cls kX) a u0 sen msg) hlt
  refine ⟨_, st1 _ (fun acts => ?_), hrun, hended, hWU, hsame.weaken (fun y hy hlt' => ?_) (Nat.le_refl _) (Nat.le_refl _), _, hU, rfl, hfound⟩
  · rw [doInvoke_state]
    exact st2 _ hwalk
  · rcases List.mem_append.mp hy with h1 | h1
    · exact h1
    · exfalso
      have hb : y.base = a := by
        simp only [List.mem_cons, List.not_mem_nil, or_false] at h1
        rcases h1 with rfl | rfl | rfl | rfl | rfl <;> rfl
      rw [hb] at hlt'
      exact Nat.not_lt.mpr hnew hlt'
end NSX
abbrev oXC (A : Nat → Prop) (L : List Nat) (τ : Nat → Nat) (cy : Nat → ClassId) (D : va_G) (σ : oSt) : String → State → State → Prop := vx_X (fun σ1 : oSt => σ1 = σ) (fun E σ1 t => E = NSE ∧ oPo A L τ cy D σ1 t) A
abbrev oMetX (l : Launch) (A : Nat → Prop) (L : List Nat) (τ : Nat → Nat) (cy : Nat → ClassId) (D : va_G) (K : (Nat → Nat) × (Nat → Nat)) (y : MethodName) (cc : ByteArray) (n : Nat) (r : Option FieldType) (fr lo : Nat) (av : List Value) (σ : oSt) (Qc : Array Value → State → Outcome → State → Prop) : Prop :=
  vx_Met l y (oWd y cc n r) ({ frames := fr, cells := 1, slots := 6, locals := lo } : Room) (va_Pc av (oPre A L τ cy D K σ)) Qc (oXC A L τ cy D σ) 1 6 A
theorem oMkX {l : Launch} {A : Nat → Prop} {L : List Nat} {τ : Nat → Nat} {cy : Nat → ClassId} {D : va_G} {K : (Nat → Nat) × (Nat → Nat)} {y : MethodName} {cc : ByteArray} {n : Nat} {r : Option FieldType} {fr lo : Nat} {av : List Value} {σ : oSt} {Qc : Array Value → State → Outcome → State → Prop} {lv : List (Nat × Value)} (hy : plainName y.cls = true) (hn : (lg_sl av).length ≤ n) (hlv : lv_args 0 av = lv)
    (body : ∀ (p : Program) (e : Env) (s : State) (m : MethodId) (args : Array Value) (below : List Frame) (meth : Method) (c : Code) (ls : Array Slot), oCx p s m args c cc n y.cls cy D A K → oRx meth r → (∀ x ∈ c.exceptionTable.toList, False) → (∀ q, s.heap.size ≤ q → A q) → oI A L τ cy D s.heap σ s.heap [] → lv_has ls n lv →
      W p l e ({ frames := fr, cells := 1, slots := 6, locals := lo } : Room) s m args below meth c s.heap [] 0 0 (vx_MQ below Qc (oXC A L τ cy D σ) args s 1 6 A) (F0 m 0 ls [])) : oMetX l A L τ cy D K y cc n r fr lo av σ Qc := by
  refine vx_ofW (cc := cc) (maxL := n) (ret := r) hy rfl ?_
  intro p e s m args below meth c s₁ B hml ht hv
  obtain ⟨rfl, hK, hA, hI, hX⟩ := hv
  have hts := atoms_spec (ws := oWd y cc n r) B.pre
  rw [lg_entry_eq]
  have hl := lv_entry av hn
  rw [hlv] at hl
  exact body p e s m av.toArray below meth c _ ⟨⟨B.exec, B.bytes, hml, findClass_of_methodNamed B.named, fun w h => hts w (List.mem_cons_of_mem _ h)⟩, hK, hX⟩ ⟨B.returns, B.notSynchronized⟩ ht hA hI hl
section OXX
variable {p : Program} {l : Launch} {e : Env} {R : Room} {s : State} {m : MethodId} {args : Array Value} {below : List Frame} {meth : Method} {c : Code} {H : Heap} {locs : List Loc} {cells slots : Nat} {Q : State → Prop}
variable {cc : ByteArray} {nL pc : Nat} {ls : Array Slot} {rest st : List Value} {A : Nat → Prop} {L : List Nat} {τ : Nat → Nat} {cy : Nat → ClassId} {D : va_G} {K : (Nat → Nat) × (Nat → Nat)} {H0 : Heap} {σ : oSt} {own : String} {index b : Nat} {Qc : Array Value → State → Outcome → State → Prop} {rt : Option FieldType}
theorem oXC_of (hw : oI A L τ cy D s.heap σ H locs) (t : State) (hal : s.vm.Alike t.vm) (h1 : H.size ≤ t.heap.size) (h2 : ∀ q : Nat, q < H.size → t.heap[q]? = H[q]?) : oXC A L τ cy D σ NSE s t :=
  ⟨σ, rfl, ⟨rfl, hw.1.kept (fun k q hk => h2 q.1 (vx_lt hw.1 hk)), hw.2.1, hw.2.2.2⟩, Nat.le_trans hw.2.2.1.1 h1, fun q h3 h4 => (h2 q (Nat.lt_of_lt_of_le h3 hw.2.2.1.1)).trans (hw.2.2.1.2.1 q h3 h4)⟩
theorem o_throwS (cx : oCx p s m args c cc nL RX10 cy D A K) (hfl : l.stackTraces = false) (rx : oRx meth rt) (ht : ∀ x ∈ c.exceptionTable.toList, False) (hw : oI A L τ cy D s.heap σ H locs) (hA : ∀ q, s.heap.size ≤ q → A q) (hsz : ls.size = nL) {is sa : Nat} {text : String} (hstr : vk_R RX10 is text sa s) (hR : 5 < R.frames ∧ 82 ≤ R.locals) (hcs : R.cells = 1 ∧ R.slots = 6)
    (d0 : decode cc pc = .ok (.new 138, 3)) (d3 : decode cc (pc + 3) = .ok (.dup, 1)) (d4 : decode cc (pc + 4) = .ok (.ldc is, 2)) (d6 : decode cc (pc + 6) = .ok (.invokespecial 142, 3)) (d9 : decode cc (pc + 9) = .ok (.athrow, 1)) :
    W p l e R s m args below meth c H locs 0 0 (vx_MQ below Qc (oXC A L τ cy D σ) args s 1 6 A) (F0 m pc ls []) := by
  obtain ⟨⟨hx, hb, hml, hown, hts⟩, hK, hXs⟩ := cx
  have hS := hw.2.2.1
  intro T hT X
  have htr : e.platform.stackTraces = false := (show e.platform.stackTraces = l.stackTraces by rw [X.admits.platform]).trans hfl
  have Y := vx_rebase X (R' := { frames := R.frames, locals := R.locals, cells := 1, slots := 6 }) (Nat.le_refl _) (Nat.le_refl _) (by rw [hcs.1]; exact Nat.le_refl 1) (by rw [hcs.2]; exact Nat.le_refl 6)
  obtain ⟨s', hA9⟩ : ∃ z, z = (T.setVm s.vm).setFrames (.invoking m args :: below) := ⟨_, rfl⟩
  rw [← hA9] at Y
  have hvm : s'.vm = s.vm := by rw [hA9]; rfl
  have hhp : s'.heap = H := by rw [hA9]; exact hT
  have hW0 : s.WarmedH s'.vm := by rw [hvm]; exact State.WarmedH.refl s
  have hat' : ∀ w ∈ nseA, w.before args s' = true := fun w hw => vx_ot_at hW0 hvm.symm (nse_ot w (List.mem_cons_of_mem _ (List.mem_cons_of_mem _ hw))) (nse_hat hts hXs.2.2.2.2.2.2 w hw)
  have hk' : (Cond.classLink RX10 138 NSE).before args s' = true := vx_ot_at hW0 hvm.symm (nse_ot _ List.mem_cons_self) (hts _ k_c_X10_138)
  have hini' : (Cond.initialized NSE).before args s' = true := vx_ot_at hW0 hvm.symm (nse_ot _ (List.mem_cons_of_mem _ List.mem_cons_self)) (hts _ k_i_java_util_NoSuchElementException)
  have hU' : vx_Zq Bundle.tN "UNASSIGNED_STACK" Bundle.steD A s' s'.heap := by rw [hhp]; exact vx_Zq.moved hW0.alike (hXs.2.2.2.2.1.kept hS.2.1)
  have hN' : vx_Zq Bundle.tN "SUPPRESSED_SENTINEL" Bundle.listD A s' s'.heap := by rw [hhp]; exact vx_Zq.moved hW0.alike (hXs.2.2.2.2.2.1.kept hS.2.1)
  have h : ∀ w ∈ Bundle.ownAtomsX RX10 142 NSE 13 cNS nseN, w.before args s' = true := vx_own hat' (vx_isRefq hU'.1) (vx_isRefq hN'.1) hU'.2.word hN'.2.word
  have hown' : s'.vm.findClass RX10 = some m.cls := by rw [hvm]; exact hown
  have hins : (Cond.instantiable NSE 6).before args s' = true := h _ (by simp [Bundle.ownAtomsX])
  obtain ⟨vm₁, cX, kX, hfX, hkX, -, -, X₁, st1⟩ := Y.newCold hx (own := RX10) (C := NSE) (index := 138) (n := 6) hown' hk' hins hini'
    (g := F0 m pc ls []) rfl (by rw [hb]; exact d0) (Nat.le_refl _) (Nat.le_refl _)
  generalize hT1 : (T.setVm vm₁).pushCell { cls := cX, slots := kX.instanceTypes.map defaultValue, vm := .none } = T1 at X₁ st1
  have hcat : (Value.ref T.heap.size).category = 1 := rfl
  have hcellA : T1.heap[T.heap.size]? = some (freshCell cX kX) := by rw [← hT1]; exact State.heap_pushCell_size _ _
  have d3' : decode c.code (pc + 3) = .ok (.dup, 1) := by rw [hb]; exact d3
  have d4' : decode c.code (pc + 4) = .ok (.ldc is, 2) := by rw [hb]; exact d4
  have hstr' : vk_R RX10 is text sa s' := vk_R.warm hW0 hstr
  obtain ⟨U, hsteps, hrun, hend, hW, hsame, ce, hce, hcv, hcl0⟩ := nse_ctor X₁ hx htr hown' h (fun x hx => nomatch hx) hfX hkX hcellA (by rw [hhp, hT]; exact Nat.le_refl _) (msg := .ref sa) rfl
    (g := { method := m, pc := pc + 6, locals := ls, stack := .ref sa :: .ref T.heap.size :: .ref T.heap.size :: [], locked := none }) rfl (hsz.trans hml.symm) rfl rfl (rest := []) rfl
    (by rw [hb]; exact d6) (by rw [hb]; exact d9) (fun x h => (ht x h).elim) hR.1 (by simp only [List.map_cons, List.map_nil, List.sum_cons, List.sum_nil, hcat]; have := hR.2; show 2 * 0 + (1 + 0) + 81 ≤ R.locals; omega) rx.2
  obtain ⟨f1, f2⟩ := vx_frame hsame
  rw [hhp] at f1 f2
  have hWs : s.WarmedH U.vm := State.WarmedH.trans hW0 hW
  have hcl : s.vm.findClass NSE = some ce.cls := by
    have h9 := hcl0
    rw [hvm] at h9
    exact h9
  have hall : s.sameButNew ({ U with vm := s.vm } : State) locs 1 6 := by
    subst hA9
    obtain ⟨e1, e2⟩ := hsame
    rw [State.setFrames_setFrames] at e1
    have h2 : (T.setVm s.vm).sameButNew ({ U with vm := s.vm } : State) [] (0 + 1) (0 + 6) := ⟨e1, e2⟩
    have h3 := X.same.trans h2
    rw [List.append_nil] at h3
    exact h3.mono (by decide) (by decide)
  refine ⟨U, ?_, .threw T.heap.size, hrun, hend, Or.inr ⟨T.heap.size, rfl, NSE, ce, locs, oXC_of hw U hWs.alike f1 (fun q hq => f2 q hq (fun z hz => nomatch hz)), hce, hcv, hcl, hWs, hall, hS.2.2⟩⟩
  refine st1 _ ?_
  show Steps p.tables e below (T1.setTop { method := m, pc := pc + 3, locals := ls, stack := .ref T.heap.size :: [], locked := none }) _
  jvm_step X₁.here [X₁.here.top, hx, d3', Value.category]
  exact X₁.ldcString hx (own := RX10) (text := text) (index := is) (a := sa) hown' hstr'.1 hstr'.2
    (g := { method := m, pc := pc + 4, locals := ls, stack := .ref T.heap.size :: .ref T.heap.size :: [], locked := none }) rfl d4' _ hsteps
theorem o_throwSW (cx : oCx p s m args c cc nL RX10 cy D A K) (hfl : l.stackTraces = false) (rx : oRx meth rt) (ht : ∀ x ∈ c.exceptionTable.toList, False) (hw : oI A L τ cy D s.heap σ H locs) (hA : ∀ q, s.heap.size ≤ q → A q) (hsz : ls.size = nL) {is sa : Nat} {text : String} (hstr : vk_R RX10 is text sa s) (hR : 5 < R.frames ∧ 82 ≤ R.locals) (hcs : R.cells = 1 ∧ R.slots = 6)
    (d0 : decode cc pc = .ok (.new 138, 3)) (d3 : decode cc (pc + 3) = .ok (.dup, 1)) (d4 : decode cc (pc + 4) = .ok (.ldc_w is, 3)) (d6 : decode cc (pc + 7) = .ok (.invokespecial 142, 3)) (d9 : decode cc (pc + 10) = .ok (.athrow, 1)) :
    W p l e R s m args below meth c H locs 0 0 (vx_MQ below Qc (oXC A L τ cy D σ) args s 1 6 A) (F0 m pc ls []) := by
  obtain ⟨⟨hx, hb, hml, hown, hts⟩, hK, hXs⟩ := cx
  have hS := hw.2.2.1
  intro T hT X
  have htr : e.platform.stackTraces = false := (show e.platform.stackTraces = l.stackTraces by rw [X.admits.platform]).trans hfl
  have Y := vx_rebase X (R' := { frames := R.frames, locals := R.locals, cells := 1, slots := 6 }) (Nat.le_refl _) (Nat.le_refl _) (by rw [hcs.1]; exact Nat.le_refl 1) (by rw [hcs.2]; exact Nat.le_refl 6)
  obtain ⟨s', hA9⟩ : ∃ z, z = (T.setVm s.vm).setFrames (.invoking m args :: below) := ⟨_, rfl⟩
  rw [← hA9] at Y
  have hvm : s'.vm = s.vm := by rw [hA9]; rfl
  have hhp : s'.heap = H := by rw [hA9]; exact hT
  have hW0 : s.WarmedH s'.vm := by rw [hvm]; exact State.WarmedH.refl s
  have hat' : ∀ w ∈ nseA, w.before args s' = true := fun w hw => vx_ot_at hW0 hvm.symm (nse_ot w (List.mem_cons_of_mem _ (List.mem_cons_of_mem _ hw))) (nse_hat hts hXs.2.2.2.2.2.2 w hw)
  have hk' : (Cond.classLink RX10 138 NSE).before args s' = true := vx_ot_at hW0 hvm.symm (nse_ot _ List.mem_cons_self) (hts _ k_c_X10_138)
  have hini' : (Cond.initialized NSE).before args s' = true := vx_ot_at hW0 hvm.symm (nse_ot _ (List.mem_cons_of_mem _ List.mem_cons_self)) (hts _ k_i_java_util_NoSuchElementException)
  have hU' : vx_Zq Bundle.tN "UNASSIGNED_STACK" Bundle.steD A s' s'.heap := by rw [hhp]; exact vx_Zq.moved hW0.alike (hXs.2.2.2.2.1.kept hS.2.1)
  have hN' : vx_Zq Bundle.tN "SUPPRESSED_SENTINEL" Bundle.listD A s' s'.heap := by rw [hhp]; exact vx_Zq.moved hW0.alike (hXs.2.2.2.2.2.1.kept hS.2.1)
  have h : ∀ w ∈ Bundle.ownAtomsX RX10 142 NSE 13 cNS nseN, w.before args s' = true := vx_own hat' (vx_isRefq hU'.1) (vx_isRefq hN'.1) hU'.2.word hN'.2.word
  have hown' : s'.vm.findClass RX10 = some m.cls := by rw [hvm]; exact hown
  have hins : (Cond.instantiable NSE 6).before args s' = true := h _ (by simp [Bundle.ownAtomsX])
  obtain ⟨vm₁, cX, kX, hfX, hkX, -, -, X₁, st1⟩ := Y.newCold hx (own := RX10) (C := NSE) (index := 138) (n := 6) hown' hk' hins hini'
    (g := F0 m pc ls []) rfl (by rw [hb]; exact d0) (Nat.le_refl _) (Nat.le_refl _)
  generalize hT1 : (T.setVm vm₁).pushCell { cls := cX, slots := kX.instanceTypes.map defaultValue, vm := .none } = T1 at X₁ st1
  have hcat : (Value.ref T.heap.size).category = 1 := rfl
  have hcellA : T1.heap[T.heap.size]? = some (freshCell cX kX) := by rw [← hT1]; exact State.heap_pushCell_size _ _
  have d3' : decode c.code (pc + 3) = .ok (.dup, 1) := by rw [hb]; exact d3
  have d4' : decode c.code (pc + 4) = .ok (.ldc_w is, 3) := by rw [hb]; exact d4
  have hstr' : vk_R RX10 is text sa s' := vk_R.warm hW0 hstr
  obtain ⟨U, hsteps, hrun, hend, hW, hsame, ce, hce, hcv, hcl0⟩ := nse_ctor X₁ hx htr hown' h (fun x hx => nomatch hx) hfX hkX hcellA (by rw [hhp, hT]; exact Nat.le_refl _) (msg := .ref sa) rfl
    (g := { method := m, pc := pc + 7, locals := ls, stack := .ref sa :: .ref T.heap.size :: .ref T.heap.size :: [], locked := none }) rfl (hsz.trans hml.symm) rfl rfl (rest := []) rfl
    (by rw [hb]; exact d6) (by rw [hb]; exact d9) (fun x h => (ht x h).elim) hR.1 (by simp only [List.map_cons, List.map_nil, List.sum_cons, List.sum_nil, hcat]; have := hR.2; show 2 * 0 + (1 + 0) + 81 ≤ R.locals; omega) rx.2
  obtain ⟨f1, f2⟩ := vx_frame hsame
  rw [hhp] at f1 f2
  have hWs : s.WarmedH U.vm := State.WarmedH.trans hW0 hW
  have hcl : s.vm.findClass NSE = some ce.cls := by
    have h9 := hcl0
    rw [hvm] at h9
    exact h9
  have hall : s.sameButNew ({ U with vm := s.vm } : State) locs 1 6 := by
    subst hA9
    obtain ⟨e1, e2⟩ := hsame
    rw [State.setFrames_setFrames] at e1
    have h2 : (T.setVm s.vm).sameButNew ({ U with vm := s.vm } : State) [] (0 + 1) (0 + 6) := ⟨e1, e2⟩
    have h3 := X.same.trans h2
    rw [List.append_nil] at h3
    exact h3.mono (by decide) (by decide)
  refine ⟨U, ?_, .threw T.heap.size, hrun, hend, Or.inr ⟨T.heap.size, rfl, NSE, ce, locs, oXC_of hw U hWs.alike f1 (fun q hq => f2 q hq (fun z hz => nomatch hz)), hce, hcv, hcl, hWs, hall, hS.2.2⟩⟩
  refine st1 _ ?_
  show Steps p.tables e below (T1.setTop { method := m, pc := pc + 3, locals := ls, stack := .ref T.heap.size :: [], locked := none }) _
  jvm_step X₁.here [X₁.here.top, hx, d3', Value.category]
  exact X₁.ldcStringW hx (own := RX10) (text := text) (index := is) (a := sa) hown' hstr'.1 hstr'.2
    (g := { method := m, pc := pc + 4, locals := ls, stack := .ref T.heap.size :: .ref T.heap.size :: [], locked := none }) rfl d4' _ hsteps
end OXX
/-! the law's helpers: with a handler -/
abbrev oWh (y : MethodName) (cc : ByteArray) (n : Nat) (r : Option FieldType) (hh : List (Nat × Nat × Nat × Nat)) : List Cond := .codeWith y cc n r hh :: oTT
abbrev oMetH (l : Launch) (A : Nat → Prop) (L : List Nat) (τ : Nat → Nat) (cy : Nat → ClassId) (D : va_G) (K : (Nat → Nat) × (Nat → Nat)) (y : MethodName) (cc : ByteArray) (n : Nat) (r : Option FieldType) (hh : List (Nat × Nat × Nat × Nat)) (fr lo : Nat) (av : List Value) (σ : oSt) (Qc : Array Value → State → Outcome → State → Prop) : Prop :=
  Met l y (oWh y cc n r hh) ({ frames := fr, cells := 1, slots := 6, locals := lo } : Room) (va_Pc av (oPre A L τ cy D K σ)) Qc 1 6 A
theorem oMkH {l : Launch} {A : Nat → Prop} {L : List Nat} {τ : Nat → Nat} {cy : Nat → ClassId} {D : va_G} {K : (Nat → Nat) × (Nat → Nat)} {y : MethodName} {cc : ByteArray} {n : Nat} {r : Option FieldType} {hh : List (Nat × Nat × Nat × Nat)} {fr lo : Nat} {av : List Value} {σ : oSt} {Qc : Array Value → State → Outcome → State → Prop} {lv : List (Nat × Value)} (hy : plainName y.cls = true) (hn : (lg_sl av).length ≤ n) (hlv : lv_args 0 av = lv)
    (body : ∀ (p : Program) (e : Env) (s : State) (m : MethodId) (args : Array Value) (below : List Frame) (meth : Method) (c : Code) (ls : Array Slot), oCx p s m args c cc n y.cls cy D A K → oRx meth r → c.exceptionTable.toList = tableOf hh → (∀ q, s.heap.size ≤ q → A q) → oI A L τ cy D s.heap σ s.heap [] → lv_has ls n lv →
      W p l e ({ frames := fr, cells := 1, slots := 6, locals := lo } : Room) s m args below meth c s.heap [] 0 0 (MQ below Qc args s 1 6 A) (F0 m 0 ls [])) : oMetH l A L τ cy D K y cc n r hh fr lo av σ Qc := by
  refine va_MetW (cc := cc) (maxL := n) (ret := r) hy rfl ?_
  intro p e s m args below meth c s₁ B hml hv
  obtain ⟨rfl, hK, hA, hI, hX⟩ := hv
  have hts := atoms_spec (ws := oWh y cc n r hh) B.pre
  have htb := vx_table (x := y) B (hts _ List.mem_cons_self)
  rw [lg_entry_eq]
  have hl := lv_entry av hn
  rw [hlv] at hl
  exact body p e s m av.toArray below meth c _ ⟨⟨B.exec, B.bytes, hml, findClass_of_methodNamed B.named, fun w h => hts w (List.mem_cons_of_mem _ h)⟩, hK, hX⟩ ⟨B.returns, B.notSynchronized⟩ htb hA hI hl
section OXH
variable {p : Program} {l : Launch} {e : Env} {R : Room} {s : State} {m : MethodId} {args : Array Value} {below : List Frame} {meth : Method} {c : Code} {H : Heap} {locs : List Loc} {cells slots : Nat} {Q : State → Prop}
variable {cc : ByteArray} {nL pc : Nat} {ls : Array Slot} {rest st : List Value} {A : Nat → Prop} {L : List Nat} {τ : Nat → Nat} {cy : Nat → ClassId} {D : va_G} {K : (Nat → Nat) × (Nat → Nat)} {H0 : Heap} {σ : oSt} {own C : String} {index b ci : Nat} {y : MethodName} {bytes : ByteArray} {maxL n mc ms fr lo : Nat} {ret : Option FieldType} {As : List Value} {T : u_T} {N : Nat} {Qc : Array Value → State → Outcome → State → Prop} {XC : String → State → State → Prop}
theorem oRunX (cx : oCx p s m args c cc nL own cy D A K) (hA : ∀ q, s.heap.size ≤ q → A q) (hw : oI A L τ cy D s.heap σ H locs) (hm : oMv C y bytes maxL ret n) (hl : Cond.methodLink own index y ∈ oTT) (hc : vwCl[ci]? = some (C, T, N)) (hb : oA L τ b ci) (hci : ci < 16)
    (hM : vx_Met l y (oWd y bytes maxL ret) ({ frames := fr, cells := mc, slots := ms, locals := lo } : Room) (va_Pc (.ref b :: As) (oPre A L τ cy D K σ)) Qc XC mc ms A)
    (hR : fr + 1 ≤ R.frames ∧ 8 + (maxL + 11) + lo ≤ R.locals) (hn : As.length = n) (hsize : ls.size = nL) (hst : st = As.reverse ++ .ref b :: rest) (h8 : (rest.map fun v => v.category).sum ≤ 8) (hdg : decode cc pc = .ok (.invokevirtual index, 3)) (hf : cells + mc ≤ R.cells ∧ slots + ms ≤ R.slots) :
    vx_Run p l e R s m args below meth c H locs cells slots mc ms (F0 m pc ls st) rest (Qc (Value.ref b :: As).toArray) XC A := by
  obtain ⟨h1, h2, h3, h4, h5, h6, h7, h8'⟩ := hm
  obtain ⟨q, hq⟩ := va_pl_get (X := []) (f := oE cy τ σ) hb.1
  rw [oE_ob hb.2 (by omega) (if_pos hci)] at hq
  have hts := cx.1.2.2.2.2
  exact vx_runV cx.1 hM ⟨callB_of n hts (oWd_good h1) rfl rfl rfl (hts _ h2) (hts _ hl) ⟨h6, h7, h8'⟩ hR, hts _ h3, hts _ h4⟩ ⟨oPre_blind, va_recv cx.2.1 hw.1 hc hq, fun U hU hW => oPre_at cx hA hw U hU hW⟩ rfl hn hsize hst (lv_room h8) hdg hf
theorem o_xi {post : Int32 → oSt → Prop} {a : Array Value} (cx : oCx p s m args c cc nL own cy D A K) (hw : oI A L τ cy D s.heap σ H locs) (hr : vx_Run p l e R s m args below meth c H locs cells slots 1 6 (F0 m pc ls st) rest (va_Qi post (oPo A L τ cy D) A a) (oXC A L τ cy D σ) A) {hh : List (Nat × Nat × Nat × Nat)} (htb : c.exceptionTable.toList = tableOf hh) (x : ExceptionTableEntry) (hx : tableOf hh = [x]) (hcv : covers x pc = true) (h0 : x.catchType ≠ 0) (hlk : Cond.classLink own x.catchType NSE ∈ oTT) 
    (kx : ∀ (q : Nat) (H1 : Heap) (locs1 : List Loc), oI A L τ cy D s.heap σ H1 locs1 → W p l e R s m args below meth c H1 locs1 (cells + 1) (slots + 6) Q (F0 m x.handlerPc ls [.ref q]))
    (kk : ∀ (r : Int32) (σ1 : oSt) (H1 : Heap) (locs1 : List Loc), post r σ1 → oI A L τ cy D s.heap σ1 H1 locs1 → W p l e R s m args below meth c H1 locs1 (cells + 1) (slots + 6) Q (F0 m (pc + 3) ls (.int r :: rest))) : W p l e R s m args below meth c H locs cells slots Q (F0 m pc ls st) := by
  have hts := cx.1.2.2.2.2
  refine vx_calli hr hw.2.2.1 (fun _ _ h => h) (fun _ h => h) (fun _ _ h => h) (fun E ce q9 u t H1 locs1 ht hal hp hB _ _ hS hc1 hc2 hc3 => ?_) (fun r u t H1 locs1 ht _ hp hB _ _ hS => kk r u H1 locs1 hp (oPo_w ht hB hS))
  obtain ⟨rfl, hB⟩ := hB
  subst hp
  exact vx_catch cx.1.2.2.2.1 [] x [] (by rw [htb, hx]; rfl) (fun z hz => nomatch hz) hcv h0 (hts _ hlk) (va_Nw.use rfl cx.2.2.2.2.2.2.2.2.2.2.2.2.2.2.2.2.2) hc1 hc2 hc3 (kx q9 H1 locs1 (oPo_w ht hB hS))
theorem o_xl {post : Int64 → oSt → Prop} {a : Array Value} (cx : oCx p s m args c cc nL own cy D A K) (hw : oI A L τ cy D s.heap σ H locs) (hr : vx_Run p l e R s m args below meth c H locs cells slots 1 6 (F0 m pc ls st) rest (va_Ql post (oPo A L τ cy D) A a) (oXC A L τ cy D σ) A) {hh : List (Nat × Nat × Nat × Nat)} (htb : c.exceptionTable.toList = tableOf hh) (x : ExceptionTableEntry) (hx : tableOf hh = [x]) (hcv : covers x pc = true) (h0 : x.catchType ≠ 0) (hlk : Cond.classLink own x.catchType NSE ∈ oTT) 
    (kx : ∀ (q : Nat) (H1 : Heap) (locs1 : List Loc), oI A L τ cy D s.heap σ H1 locs1 → W p l e R s m args below meth c H1 locs1 (cells + 1) (slots + 6) Q (F0 m x.handlerPc ls [.ref q]))
    (kk : ∀ (r : Int64) (σ1 : oSt) (H1 : Heap) (locs1 : List Loc), post r σ1 → oI A L τ cy D s.heap σ1 H1 locs1 → W p l e R s m args below meth c H1 locs1 (cells + 1) (slots + 6) Q (F0 m (pc + 3) ls (.long r :: rest))) : W p l e R s m args below meth c H locs cells slots Q (F0 m pc ls st) := by
  have hts := cx.1.2.2.2.2
  refine vx_calll hr hw.2.2.1 (fun _ _ h => h) (fun _ h => h) (fun _ _ h => h) (fun E ce q9 u t H1 locs1 ht hal hp hB _ _ hS hc1 hc2 hc3 => ?_) (fun r u t H1 locs1 ht _ hp hB _ _ hS => kk r u H1 locs1 hp (oPo_w ht hB hS))
  obtain ⟨rfl, hB⟩ := hB
  subst hp
  exact vx_catch cx.1.2.2.2.1 [] x [] (by rw [htb, hx]; rfl) (fun z hz => nomatch hz) hcv h0 (hts _ hlk) (va_Nw.use rfl cx.2.2.2.2.2.2.2.2.2.2.2.2.2.2.2.2.2) hc1 hc2 hc3 (kx q9 H1 locs1 (oPo_w ht hB hS))
end OXH
