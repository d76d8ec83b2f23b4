/-! ===== the law's walk ===== -/
section OLW
variable {p : Program} {l : Launch} {e : Env} {R : Room} {s : State} {m : MethodId} {args : Array Value} {below : List Frame} {meth : Method} {c : Code} {H : Heap} {locs : List Loc} {cells slots : Nat} {Q : State → Prop}
variable {cc : ByteArray} {nL pc : Nat} {ls : Array Slot} {rest st : List Value} {A : Nat → Prop} {L : List Nat} {τ : Nat → Nat} {cy : Nat → ClassId} {D : va_G} {K : (Nat → Nat) × (Nat → Nat)} {H0 : Heap} {σ : oSt} {own : String} {index : Nat} {y : MethodName} {bytes : ByteArray} {maxL n mc ms fr lo : Nat} {ret0 : Option FieldType} {hh : List (Nat × Nat × Nat × Nat)} {As : List Value} {Qc : Array Value → State → Outcome → State → Prop}
def oMh (y : MethodName) (cc : ByteArray) (n : Nat) (r : Option FieldType) (hh : List (Nat × Nat × Nat × Nat)) (k : Nat) : Prop := Cond.codeWith y cc n r hh ∈ oTT ∧ Cond.initialized y.cls ∈ oTT ∧ Cond.static y ∈ oTT ∧ y.cls ≠ "java/lang/invoke/MethodHandle" ∧ y.cls ≠ "java/lang/invoke/VarHandle" ∧ (parseMethodDescriptor y.desc).map (fun d => d.parameters.length) = some k
theorem oRunH (cx : oCx p s m args c cc nL own cy D A K) (hA : ∀ q, s.heap.size ≤ q → A q) (hw : oI A L τ cy D s.heap σ H locs) (hm : oMh y bytes maxL ret0 hh n) (hl : Cond.methodLink own index y ∈ oTT)
    (hM : Met l y (oWh y bytes maxL ret0 hh) ({ frames := fr, cells := mc, slots := ms, locals := lo } : Room) (va_Pc As (oPre A L τ cy D K σ)) Qc mc ms A)
    (hR : fr + 1 ≤ R.frames ∧ 8 + (maxL + 11) + lo ≤ R.locals) (hn : As.length = n) (hsize : ls.size = nL) (hst : st = As.reverse ++ rest) (h8 : (rest.map fun v => v.category).sum ≤ 8) (hdg : decode cc pc = .ok (.invokestatic index, 3)) (hf : cells + mc ≤ R.cells ∧ slots + ms ≤ R.slots) :
    va_Run p l e R s m args below meth c H locs cells slots mc ms (F0 m pc ls st) rest (Qc As.toArray) A := by
  obtain ⟨h1, h2, h3, h6, h7, h8'⟩ := hm
  have hts := cx.1.2.2.2.2
  have hG : GoodIn oTT (va_wsS own index y (oWh y bytes maxL ret0 hh)) := fun w hw => by
    have hm : w ∈ oTT := by
      unfold va_wsS at hw
      rcases List.mem_append.mp hw with h | h
      · rcases List.mem_cons.mp h with rfl | h
        · exact hl
        rcases List.mem_cons.mp h with rfl | h
        · exact h3
        rcases List.mem_cons.mp h with rfl | h
        · exact h2
        · cases h
      · rcases List.mem_cons.mp h with rfl | h
        · exact h1
        · exact h
    exact ⟨hm, oT_good w hm⟩
  exact vx_runSW (hh := hh) cx.1 hM (vx_cwSW n hts hG rfl rfl rfl ⟨h6, h7, h8'⟩ hR) ⟨oPre_blind, fun U hU hW => oPre_at cx hA hw U hU hW⟩ rfl hn hsize hst (lv_room h8) hdg hf
theorem o_cih {post : Int32 → oSt → Prop} {a : Array Value} (hw : oI A L τ cy D H0 σ H locs) (hr : va_Run p l e R s m args below meth c H locs cells slots 1 6 (F0 m pc ls st) rest (va_Qi post (oPo A L τ cy D) A a) A)
    (kk : ∀ (r : Int32) (σ1 : oSt) (H1 : Heap) (locs1 : List Loc), post r σ1 → oI A L τ cy D H0 σ1 H1 locs1 → W p l e R s m args below meth c H1 locs1 (cells + 1) (slots + 6) Q (F0 m (pc + 3) ls (.int r :: rest))) : W p l e R s m args below meth c H locs cells slots Q (F0 m pc ls st) :=
  va_calli hr hw.2.2.1 (fun _ _ h => h) (fun _ h => h) (fun r u t H1 locs1 ht _ hp hB _ _ hS => kk r u H1 locs1 hp (oPo_w ht hB hS))
end OLW
/-- what the law's loop keeps of both: THE TEXT's length, KEEPS, GROWS; and the reference's rows -/
def lT (σ : oSt) (t w k : Nat) : Prop := (σ.1 385 t).toInt = (σ.1 655 k).toInt ∧ (σ.1 514 w).toInt = (σ.1 650 k).toInt ∧ (σ.1 515 w).toInt = (σ.1 651 k).toInt ∧ ((σ.1 641 k).toInt = 0 ∨ 1 ≤ (σ.1 642 k).toInt)
def lI (L : List Nat) (τ : Nat → Nat) (σ : oSt) (x k o t w : Nat) : Prop := oA L τ x 9 ∧ oA L τ k 10 ∧ oA L τ o 62 ∧ σ.2.2.2.2 576 x = some t ∧ σ.2.2.2.2 580 x = some w ∧ lT σ t w k
theorem lx_in {i c : Int32} {N : Nat} (h0 : 0 ≤ i.toInt) (h5 : i.toInt + 5 ≤ (N : Int)) (hN : N ≤ 2560) (hc : 0 ≤ c.toInt ∧ c.toInt < 5) : vp_in (i + c) N := by
  have e := ex_add (v := i + c) (x := i) (y := c) rfl (a := 0) (b := 2560) (c := 0) (d := 4) ⟨h0, by omega⟩ ⟨hc.1, by omega⟩ (by decide)
  exact vp_in_iff.mpr ⟨by omega, by omega⟩
theorem lx_in0 {i : Int32} {N : Nat} (h0 : 0 ≤ i.toInt) (h5 : i.toInt + 5 ≤ (N : Int)) : vp_in i N := vp_in_iff.mpr ⟨h0, by omega⟩
def lZ : oSt := (fun _ _ => 0, fun _ _ => 0, fun _ _ => 0, fun _ _ => 0, fun _ _ => none)
theorem lZ_I {A : Nat → Prop} {cy : Nat → ClassId} {D : va_G} {H : Heap} : oI A [] (fun _ => 31) cy D H lZ H [] :=
  ⟨fun k q h => by simp [oPl, va_pl] at h, ⟨fun i j p q h => by simp [oPl, va_pl] at h, fun k q h => by simp [oPl, va_pl] at h⟩, va_S.rf, fun j a hj => oMb_hi (by have hj : 31 = j / 64 := hj; omega), fun a i => oRb_lo (show 31 < 32 by decide), fun j a t h ha => by cases ha⟩
def lX (L : List Nat) (τ : Nat → Nat) (σ : oSt) (t k tu tv : Nat) : Prop := σ.2.2.2.2 384 t = some tu ∧ oA L τ tu 35 ∧ σ.2.2.2.2 654 k = some tv ∧ oA L τ tv 51 ∧ tEq (σ.2.2.1 tu) (σ.2.2.1 tv) (σ.1 655 k).toInt
