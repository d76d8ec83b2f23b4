/-! ===== the law's walk ===== -/
section OLW
variable {p : Program} {l : Launch} {e : Env} {R : Room} {s : State} {m : MethodId} {args : Array Value} {below : List Frame} {meth : Method} {c : Code} {H : Heap} {locs : List Loc} {cells slots : Nat} {Q : State → Prop}
variable {cc : ByteArray} {nL pc : Nat} {ls : Array Slot} {rest st : List Value} {A : Nat → Prop} {L : List Nat} {τ : Nat → Nat} {cy : Nat → ClassId} {D : va_G} {K : (Nat → Nat) × (Nat → Nat)} {H0 : Heap} {σ : oSt} {own : String} {index : Nat} {y : MethodName} {bytes : ByteArray} {maxL n mc ms fr lo : Nat} {ret0 : Option FieldType} {hh : List (Nat × Nat × Nat × Nat)} {As : List Value} {Qc : Array Value → State → Outcome → State → Prop}
def oMh (y : MethodName) (cc : ByteArray) (n : Nat) (r : Option FieldType) (hh : List (Nat × Nat × Nat × Nat)) (k : Nat) : Prop := Cond.codeWith y cc n r hh ∈ oTT ∧ Cond.initialized y.cls ∈ oTT ∧ Cond.static y ∈ oTT ∧ y.cls ≠ "java/lang/invoke/MethodHandle" ∧ y.cls ≠ "java/lang/invoke/VarHandle" ∧ (parseMethodDescriptor y.desc).map (fun d => d.parameters.length) = some k
theorem oRunH (cx : oCx p s m args c cc nL own cy D A K) (hA : ∀ q, s.heap.size ≤ q → A q) (hw : oI A L τ cy D s.heap σ H locs) (hm : oMh y bytes maxL ret0 hh n) (hl : Cond.methodLink own index y ∈ oTT)
    (hM : Met l y (oWh y bytes maxL ret0 hh) ({ frames := fr, cells := mc, slots := ms, locals := lo } : Room) (va_Pc As (oPre A L τ cy D K σ)) Qc mc ms A)
    (hR : fr + 1 ≤ R.frames ∧ 8 + (maxL + 11) + lo ≤ R.locals) (hn : As.length = n) (hsize : ls.size = nL) (hst : st = As.reverse ++ rest) (h8 : (rest.map fun v => v.category).sum ≤ 8) (hdg : decode cc pc = .ok (.invokestatic index, 3)) (hf : cells + mc ≤ R.cells ∧ slots + ms ≤ R.slots) :
    va_Run p l e R s m args below meth c H locs cells slots mc ms (F0 m pc ls st) rest (Qc As.toArray) A := by
  obtain ⟨h1, h2, h3, h6, h7, h8'⟩ := hm
  have hts := cx.1.2.2.2.2
  have hG : GoodIn oTT (va_wsS own index y (oWh y bytes maxL ret0 hh)) := fun w hw => by
    have hm : w ∈ oTT := by
      unfold va_wsS at hw
      rcases List.mem_append.mp hw with h | h
      · rcases List.mem_cons.mp h with rfl | h
        · exact hl
        rcases List.mem_cons.mp h with rfl | h
        · exact h3
        rcases List.mem_cons.mp h with rfl | h
        · exact h2
        · cases h
      · rcases List.mem_cons.mp h with rfl | h
        · exact h1
        · exact h
    exact ⟨hm, oT_good w hm⟩
  exact vx_runSW (hh := hh) cx.1 hM (vx_cwSW n hts hG rfl rfl rfl ⟨h6, h7, h8'⟩ hR) ⟨oPre_blind, fun U hU hW => oPre_at cx hA hw U hU hW⟩ rfl hn hsize hst (lv_room h8) hdg hf
theorem o_cih {post : Int32 → oSt → Prop} {a : Array Value} (hw : oI A L τ cy D H0 σ H locs) (hr : va_Run p l e R s m args below meth c H locs cells slots 1 6 (F0 m pc ls st) rest (va_Qi post (oPo A L τ cy D) A a) A)
    (kk : ∀ (r : Int32) (σ1 : oSt) (H1 : Heap) (locs1 : List Loc), post r σ1 → oI A L τ cy D H0 σ1 H1 locs1 → W p l e R s m args below meth c H1 locs1 (cells + 1) (slots + 6) Q (F0 m (pc + 3) ls (.int r :: rest))) : W p l e R s m args below meth c H locs cells slots Q (F0 m pc ls st) :=
  va_calli hr hw.2.2.1 (fun _ _ h => h) (fun _ h => h) (fun r u t H1 locs1 ht _ hp hB _ _ hS => kk r u H1 locs1 hp (oPo_w ht hB hS))
end OLW
/-- what the law's loop keeps of both: THE TEXT's length, KEEPS, GROWS; and the reference's rows -/
def lT (σ : oSt) (t w k : Nat) : Prop := (σ.1 385 t).toInt = (σ.1 655 k).toInt ∧ (σ.1 514 w).toInt = (σ.1 650 k).toInt ∧ (σ.1 515 w).toInt = (σ.1 651 k).toInt ∧ ((σ.1 641 k).toInt = 0 ∨ 1 ≤ (σ.1 642 k).toInt)
def lI (L : List Nat) (τ : Nat → Nat) (σ : oSt) (x k o t w : Nat) : Prop := oA L τ x 9 ∧ oA L τ k 10 ∧ oA L τ o 62 ∧ σ.2.2.2.2 576 x = some t ∧ σ.2.2.2.2 580 x = some w ∧ lT σ t w k
theorem lx_in {i c : Int32} {N : Nat} (h0 : 0 ≤ i.toInt) (h5 : i.toInt + 5 ≤ (N : Int)) (hN : N ≤ 2560) (hc : 0 ≤ c.toInt ∧ c.toInt < 5) : vp_in (i + c) N := by
  have e := ex_add (v := i + c) (x := i) (y := c) rfl (a := 0) (b := 2560) (c := 0) (d := 4) ⟨h0, by omega⟩ ⟨hc.1, by omega⟩ (by decide)
  exact vp_in_iff.mpr ⟨by omega, by omega⟩
theorem lx_in0 {i : Int32} {N : Nat} (h0 : 0 ≤ i.toInt) (h5 : i.toInt + 5 ≤ (N : Int)) : vp_in i N := vp_in_iff.mpr ⟨h0, by omega⟩
def lZ : oSt := (fun _ _ => 0, fun _ _ => 0, fun _ _ => 0, fun _ _ => 0, fun _ _ => none)
theorem lZ_I {A : Nat → Prop} {cy : Nat → ClassId} {D : va_G} {H : Heap} : oI A [] (fun _ => 31) cy D H lZ H [] :=
  ⟨fun k q h => by simp [oPl, va_pl] at h, ⟨fun i j p q h => by simp [oPl, va_pl] at h, fun k q h => by simp [oPl, va_pl] at h⟩, va_S.rf, fun j a hj => oMb_hi (by have hj : 31 = j / 64 := hj; omega), fun a i => oRb_lo (show 31 < 32 by decide), fun j a t h ha => by cases ha⟩
def lX (L : List Nat) (τ : Nat → Nat) (σ : oSt) (t k tu tv : Nat) : Prop := σ.2.2.2.2 384 t = some tu ∧ oA L τ tu 35 ∧ σ.2.2.2.2 654 k = some tv ∧ oA L τ tv 51 ∧ tEq (σ.2.2.1 tu) (σ.2.2.1 tv) (σ.1 655 k).toInt
/-! ===== the law: herds ===== -/
def lY (L : List Nat) (τ : Nat → Nat) (σ : oSt) (x k gg kv : Nat) : Prop := NV σ x (σ.1 647 k) ∧ σ.2.2.2.2 578 x = some gg ∧ oA L τ gg 1 ∧ σ.2.2.2.2 643 k = some kv ∧ oA L τ kv 49 ∧ σ.1 64 gg = σ.1 641 k ∧ σ.1 65 gg = σ.1 642 k ∧ ((σ.1 64 gg).toInt = 0 ∨ ∀ c : Nat, c < 64 → (lb (σ.2.1 69 gg) c = true ↔ σ.2.2.1 kv c = 0))
theorem nv_ex {σ : oSt} {x : Nat} {V : Int32} (h : NV σ x V) : ∃ P, σ.2.2.2.2 581 x = some P ∧ σ.1 327 P = V := by
  obtain ⟨P, B, F, A, Q, h1, h2, h3, h4, h5, h6, h7, h8, -⟩ := h
  exact ⟨P, h1, h8⟩
theorem nv_V {σ : oSt} {x : Nat} {V V' : Int32} (h : NV σ x V) (e : V'.toInt = V.toInt) : NV σ x V' := by
  rw [i32_eq e]
  exact h
theorem hdM_K {T : Nat → Int32} {n co ro h : Int} {K K' : Nat → Bool} (hk : co = 0 ∨ K = K') : hdM T n co ro K h = hdM T n co ro K' h := by
  rcases hk with hk | hk
  · have z : ∀ K : Nat → Bool, hl T n co ro K 7 0 0 h = -1 - 0 := fun K => by
      rw [hl]
      by_cases c : 6 ≤ h
      · rw [if_pos c]
      · rw [if_neg c, if_pos (by omega)]
    unfold hdM
    rw [z, z]
  · rw [hk]
theorem hd_tie {f g : Nat → Int32} {n n' : Int} {co ro h co' ro' h' : Int32} {p : Int64} {kr : Nat → Int32} (hn : n = n') (hT : tEq f g n') (h80 : n' ≤ 80) (e1 : co = co') (e2 : ro = ro') (e3 : h = h') (hk : co.toInt = 0 ∨ ∀ c : Nat, c < 64 → (lb p c = true ↔ kr c = 0)) : hdM f n co.toInt ro.toInt (fun i => lb p i) h.toInt = hdM (fun i => g i &&& 255) n' co'.toInt ro'.toInt (fun i => decide (i < 64 ∧ kr i = 0)) h'.toInt := by
  subst hn e1 e2 e3
  rw [hdM_congr (g := fun i => g i &&& 255) (fun i hi => hT i hi)]
  refine hdM_K (hk.imp id (fun q => funext fun i => ?_))
  by_cases c : i < 64
  · by_cases z : kr i = 0
    · rw [decide_eq_true ⟨c, z⟩]; exact (q i c).mpr z
    · rw [decide_eq_false (fun y => z y.2)]; exact eq_false_of_ne_true (fun y => z ((q i c).mp y))
  · rw [decide_eq_false (fun y => c y.1)]; exact eq_false_of_ne_true (fun y => c (lb_lt y))
theorem mk_tie {f g : Nat → Int32} {n n' : Int} (hn : n = n') (hT : tEq f g n') : mkM f n = mkM (fun i => g i &&& 255) n' := by
  subst hn
  exact mk_congr (fun i hi => hT i hi) _ _ _ _ _ _ _
theorem nv_old {σ σ1 : oSt} {x : Nat} {V : Int32} {L : List Nat} {τ : Nat → Nat} (h : NV σ x V) (hx : oA L τ x 9) (hw : oGF L τ σ) (e : ∀ b ∈ L, (∀ j, σ1.1 j b = σ.1 j b) ∧ ∀ j, σ1.2.2.2.2 j b = σ.2.2.2.2 j b) : NV σ1 x V := by
  obtain ⟨P, B, F, A, Q, h1, h2, h3, h4, h5, h6, h7, h8, h9, h10, h11⟩ := h
  have go : ∀ {j a t u b : Nat}, oA L τ a u → oTg u j = some t → σ.2.2.2.2 j a = some b → oA L τ b t := fun {j a t u b} ha ht hb => by
    obtain ⟨b', q1, q2⟩ := hw j a t (by rw [ha.2]; exact ht) ha.1
    rw [Option.some.inj (hb.symm.trans q1)]
    exact q2
  have aP := go hx (show oTg 9 581 = some 5 from rfl) h1
  have aF := go hx (show oTg 9 583 = some 0 from rfl) h3
  have aA := go hx (show oTg 9 585 = some 2 from rfl) h5
  have aQ := go hx (show oTg 9 586 = some 41 from rfl) h6
  refine ⟨P, B, F, A, Q, ((e x hx.1).2 _).trans h1, ((e x hx.1).2 _).trans h2, ((e x hx.1).2 _).trans h3, ((e F aF.1).2 _).trans h4, ((e x hx.1).2 _).trans h5, ((e x hx.1).2 _).trans h6, h7, ((e P aP.1).1 _).trans h8, by rw [(e x hx.1).1]; exact h9, ?_, ?_⟩
  · intro i hi s q
    rw [(e Q aQ.1).2] at q
    have aS := go aQ (show oTg 41 (4096 + i) = some 5 from if_pos ⟨Nat.le_add_right _ _, by omega⟩) q
    obtain ⟨q1, q2⟩ := h10 i hi s q
    exact ⟨q1, fun w => ((e s aS.1).1 _).trans (q2 (by rw [(e x hx.1).1] at w; exact w))⟩
  · intro i hi R s q q'
    rw [(e A aA.1).2] at q
    have aR := go aA (show oTg 2 128 = some 40 from rfl) q
    rw [(e R aR.1).2] at q'
    have aS := go aR (show oTg 40 (4096 + i) = some 5 from if_pos ⟨Nat.le_add_right _ _, by omega⟩) q'
    obtain ⟨q1, q2⟩ := h11 i hi R s q q'
    exact ⟨q1, fun w => ((e s aS.1).1 _).trans (q2 (by rw [(e A aA.1).1, (e A aA.1).1] at w; exact w))⟩
/-! ===== again: p43 ===== -/
def lK (L : List Nat) (τ : Nat → Nat) (σ : oSt) (x k ik kc : Nat) (b : Int) : Prop := σ.2.2.2.2 683 k = some ik ∧ oA L τ ik 60 ∧ σ.2.2.2.2 684 k = some kc ∧ oA L τ kc 61 ∧ 0 ≤ (σ.1 681 k).toInt ∧ (σ.1 681 k).toInt ≤ b ∧ ∀ i, i < 2 → ((σ.2.2.1 kc i).toInt ≤ (σ.1 681 k).toInt ∧ (kb (σ.1 587 x) i = true ↔ (σ.2.2.1 ik i ≠ 0 ∧ σ.2.2.1 kc i = σ.1 681 k)))
section LK
variable {L : List Nat} {τ : Nat → Nat} {σ σ1 : oSt} {x k ik kc : Nat} {b b' : Int}
theorem lk_same (h : lK L τ σ x k ik kc b) (r1 : σ1.2.2.2.2 683 k = some ik) (r2 : σ1.2.2.2.2 684 k = some kc) (e1 : σ1.1 681 k = σ.1 681 k) (e2 : σ1.1 587 x = σ.1 587 x) (e3 : σ1.2.2.1 ik = σ.2.2.1 ik) (e4 : σ1.2.2.1 kc = σ.2.2.1 kc) (hb : b ≤ b') : lK L τ σ1 x k ik kc b' := by
  obtain ⟨h1, h2, h3, h4, h5, h6, h7⟩ := h
  refine ⟨r1, h2, r2, h4, by rw [e1]; exact h5, by rw [e1]; omega, ?_⟩
  rw [e1, e2, e3, e4]
  exact h7
theorem lk_mono (h : lK L τ σ x k ik kc b) (hb : b ≤ b') : lK L τ σ x k ik kc b' := by
  obtain ⟨h1, h2, h3, h4, h5, h6, h7⟩ := h
  exact ⟨h1, h2, h3, h4, h5, by omega, h7⟩
/-- kept: the place a -/
theorem lk_keep {a : Nat} (h : lK L τ σ x k ik kc b) (r1 : σ1.2.2.2.2 683 k = some ik) (r2 : σ1.2.2.2.2 684 k = some kc) (e1 : σ1.1 681 k = σ.1 681 k) (e2 : ∀ i, i < 2 → (kb (σ1.1 587 x) i = true ↔ i = a ∨ kb (σ.1 587 x) i = true)) (e3 : σ1.2.2.1 ik = upd (σ.2.2.1 ik) a 1) (e4 : σ1.2.2.1 kc = upd (σ.2.2.1 kc) a (σ.1 681 k)) (hb : b ≤ b') : lK L τ σ1 x k ik kc b' := by
  obtain ⟨h1, h2, h3, h4, h5, h6, h7⟩ := h
  refine ⟨r1, h2, r2, h4, by rw [e1]; exact h5, by rw [e1]; omega, fun i hi => ?_⟩
  obtain ⟨q1, q2⟩ := h7 i hi
  rw [e1, e3, e4]
  by_cases c : i = a
  · subst c
    rw [pk_us, pk_us]
    exact ⟨Int.le_refl _, ⟨fun _ => ⟨by decide, rfl⟩, fun _ => (e2 i hi).mpr (Or.inl rfl)⟩⟩
  · rw [pk_un c, pk_un c]
    refine ⟨q1, ?_⟩
    rw [e2 i hi]
    exact ⟨fun z => q2.mp (z.resolve_left c), fun z => Or.inr (q2.mpr z)⟩
/-- forgotten: nothing is kept now -/
theorem lk_none (h : lK L τ σ x k ik kc b) (r1 : σ1.2.2.2.2 683 k = some ik) (r2 : σ1.2.2.2.2 684 k = some kc) (e2 : σ1.1 587 x = 0) (e4 : σ1.2.2.1 kc = σ.2.2.1 kc) (hc : (σ1.1 681 k = σ.1 681 k ∧ ∀ i, i < 2 → σ1.2.2.1 ik i = 0) ∨ (σ1.1 681 k = σ.1 681 k + 1)) (hl : b ≤ 100000) (hb : b + 1 ≤ b') : lK L τ σ1 x k ik kc b' := by
  obtain ⟨h1, h2, h3, h4, h5, h6, h7⟩ := h
  have e1 : (σ1.1 681 k).toInt = (σ.1 681 k).toInt ∨ (σ1.1 681 k).toInt = (σ.1 681 k).toInt + 1 := by
    rcases hc with hc | hc
    · exact Or.inl (congrArg Int32.toInt hc.1)
    · have z := ex_add hc (⟨h5, by omega⟩ : Iv (σ.1 681 k) 0 100000) (⟨by decide, by decide⟩ : Iv 1 1 1) (by decide)
      exact Or.inr z
  refine ⟨r1, h2, r2, h4, by omega, by omega, fun i hi => ?_⟩
  obtain ⟨q1, q2⟩ := h7 i hi
  rw [e2, kb_0 i hi, e4]
  refine ⟨by omega, ⟨fun z => (by cases z), fun z => ?_⟩⟩
  rcases hc with hc | hc
  · exact absurd (hc.2 i hi) z.1
  · have w := congrArg Int32.toInt z.2
    have y := ex_add hc (⟨h5, by omega⟩ : Iv (σ.1 681 k) 0 100000) (⟨by decide, by decide⟩ : Iv 1 1 1) (by decide)
    have : (1 : Int32).toInt = 1 := by decide
    omega
end LK
