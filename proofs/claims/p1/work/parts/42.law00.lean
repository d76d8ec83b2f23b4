section LAW
variable {p : Program} {l : Launch} {e : Env} {s : State} {m : MethodId} {args : Array Value} {below : List Frame} {meth : Method} {c : Code} {H : Heap} {locs : List Loc} {cells slots : Nat} {Q : State → Prop}
variable {ls : Array Slot} {A : Nat → Prop} {L : List Nat} {τ : Nat → Nat} {cy : Nat → ClassId} {D : va_G} {K : (Nat → Nat) × (Nat → Nat)} {σ : oSt} {b N x k o t w : Nat} {xs : Nat → Int32} {i : Int32}
abbrev fs_law : List Nat := [129, 130, 193, 257, 259, 261, 263, 264, 265, 327, 328, 329, 330, 331, 385, 386, 387, 514, 515, 517, 587, 588, 589, 650, 651, 652, 653, 655, 657, 658, 659, 660, 661, 662, 663, 668, 669, 672, 675]
abbrev ts_law : List Nat := [32, 33, 34, 35, 36, 37, 48, 51, 52, 53, 56, 57, 58, 59, 60, 61, 62, 66, 67, 68, 70]
set_option maxHeartbeats 4000000 in
set_option maxRecDepth 100000 in
theorem lc_0 (cx : oCx p s m args c cL_law 8 RL cy D A K) (hA : ∀ q, s.heap.size ≤ q → A q) (hfl : l.stackTraces = false) (hX : va_X b N xs s s.heap) (hbl : b < s.heap.size) (hbA : ¬ A b) (hN : N ≤ 2560) (h0 : 0 ≤ i.toInt) (h5 : i.toInt + 5 ≤ (N : Int)) (hw : oI A L τ cy D s.heap σ H locs) (I : lI L τ σ x k o t w) (F : lF L τ σ x k) (hl : lv_has ls 8 [(4, .int i), (3, .ref o), (2, .ref k), (1, .ref x), (0, .ref b)]) (hf0 : cells + 0 ≤ room_1.cells ∧ slots + 0 ≤ room_1.slots) (hf1 : cells + 1 ≤ room_1.cells ∧ slots + 6 ≤ room_1.slots) (hf2 : cells + 1 + 0 ≤ room_1.cells ∧ slots + 6 + 0 ≤ room_1.slots)
    (kk : ∀ (σ1 : oSt) (H1 : Heap) (locs1 : List Loc) (ls1 : Array Slot), oI A L τ cy D s.heap σ1 H1 locs1 → lv_has ls1 8 [(4, .int i), (3, .ref o), (2, .ref k), (1, .ref x), (0, .ref b)] → W p l e room_1 s m args below meth c H1 locs1 (cells + 1) (slots + 6) Q (F0 m 1516 ls1 [])) : W p l e room_1 s m args below meth c H locs cells slots Q (F0 m 228 ls []) := by
  have hx := cx.1.1
  have hb := cx.1.2.1
  have hml := cx.1.2.2.1
  have hown := cx.1.2.2.2.1
  have hts := cx.1.2.2.2.2
  have fr : oFr τ fs_law ts_law σ σ := oFr_rf
  obtain ⟨t1, t2, t3, t4⟩ := id I.2.2.2.2.2
  have i641 : Iv (σ.1 641 k) 0 0 := o_fb (j := 641) hw I.2.1 rfl
  have i642 : Iv (σ.1 642 k) 0 0 := o_fb (j := 642) hw I.2.1 rfl
  obtain ⟨hq, b_576_385, b_585_130, b_581_330, b_581_329, b_581_331, b_580_514, b_580_515, b_577_193, f587, f588, f655, f672, f653, f650, f651, f657⟩ := id F
  have hz := hq_hz hq
  have f385 := b_576_385 t I.2.2.2.1
  have f514 := b_580_514 w I.2.2.2.2.1
  have f515 := b_580_515 w I.2.2.2.2.1
  have hw0 := hw
  refine lv_aload_n hx hb dL_law_228 rfl (lv_at hl 3 rfl) ?_
  refine lv_aload_n hx hb dL_law_229 rfl (lv_at hl 4 rfl) ?_
  refine lv_iload hx hb dL_law_230 (lv_at hl 0 rfl) ?_
  refine lv_iconst (v := 1) hx hb dL_law_232 (by decide) ?_
  refine lv_iadd hx hb dL_law_233 ?_
  refine va_sld hx hb hX hbl hbA hw.2.2.1 (lx_in h0 h5 hN (by decide)) dL_law_234 ?_
  refine lv_topi (fun v1 e1 => ?_)
  refine o_ci hw (oRunV cx hA hw q_X10_sign k_m_L_26 rfl I.1 (by decide) (As := [.int v1]) (c_X10_sign x I.1 v1) (by decide) rfl hl.1 rfl (Nat.le_of_ble_eq_true rfl) dL_law_235 hf0) (fun v3 σ2 H locs hp hw => ?_)
  obtain ⟨p3_0, p3_1, p3_2, p3_3⟩ := hp
  have fr := oFr_tr fr p3_0 (by decide)
  have z4 := p3_2 t (I.2.2.2.1)
  have z5 := p3_3 t (I.2.2.2.1)
  refine lv_aload_n hx hb dL_law_238 rfl (lv_at hl 2 rfl) ?_
  refine lv_aload_n hx hb dL_law_239 rfl (lv_at hl 4 rfl) ?_
  refine lv_iload hx hb dL_law_240 (lv_at hl 0 rfl) ?_
  refine lv_iconst (v := 1) hx hb dL_law_242 (by decide) ?_
  refine lv_iadd hx hb dL_law_243 ?_
  refine va_sld hx hb hX hbl hbA hw.2.2.1 (lx_in h0 h5 hN (by decide)) dL_law_244 ?_
  refine lv_topi (fun v6 e6 => ?_)
  rw [show v6 = v1 from e6.trans e1.symm]
  have z7 : (σ2.1 514 w).toInt = ((σ.1 514 w) : Int32).toInt := congrArg Int32.toInt (show σ2.1 514 w = (σ.1 514 w) from ((kp_c p3_0 (by decide)).trans rfl))
  have z8 : (σ2.1 515 w).toInt = ((σ.1 515 w) : Int32).toInt := congrArg Int32.toInt (show σ2.1 515 w = (σ.1 515 w) from ((kp_c p3_0 (by decide)).trans rfl))
  have z9 : (σ2.1 655 k).toInt = ((σ.1 655 k) : Int32).toInt := congrArg Int32.toInt (show σ2.1 655 k = (σ.1 655 k) from ((kp_c p3_0 (by decide)).trans rfl))
  have z10 : (σ2.1 650 k).toInt = ((σ.1 650 k) : Int32).toInt := congrArg Int32.toInt (show σ2.1 650 k = (σ.1 650 k) from ((kp_c p3_0 (by decide)).trans rfl))
  have z11 : (σ2.1 651 k).toInt = ((σ.1 651 k) : Int32).toInt := congrArg Int32.toInt (show σ2.1 651 k = (σ.1 651 k) from ((kp_c p3_0 (by decide)).trans rfl))
  have z12 : (σ2.1 641 k).toInt = ((σ.1 641 k) : Int32).toInt := congrArg Int32.toInt (show σ2.1 641 k = (σ.1 641 k) from ((kp_c p3_0 (by decide)).trans rfl))
  have z13 : (σ2.1 642 k).toInt = ((σ.1 642 k) : Int32).toInt := congrArg Int32.toInt (show σ2.1 642 k = (σ.1 642 k) from ((kp_c p3_0 (by decide)).trans rfl))
  have z14 : (σ2.1 655 k).toInt = ((σ.1 655 k) : Int32).toInt := congrArg Int32.toInt (show σ2.1 655 k = (σ.1 655 k) from ((kp_c p3_0 (by decide)).trans rfl))
  refine o_ci hw (oRunV cx hA hw q_X11_sign k_m_L_30 rfl I.2.1 (by decide) (As := [.int v1]) (c_X11_sign k I.2.1 v1) (by decide) rfl hl.1 rfl (Nat.le_of_ble_eq_true rfl) dL_law_245 hf0) (fun v16 σ15 H locs hp hw => ?_)
  obtain ⟨p16_0, p16_1, p16_2, p16_3⟩ := hp
  have fr := oFr_tr fr p16_0 (by decide)
  have i17 : Iv (σ15.1 655 k) 0 80 := o_fb (j := 655) hw I.2.1 rfl
  refine lv_icmp_eq (tgt := 1516) hx hb dL_law_248 (by decide) (fun c18 => ?_) (fun c18 => absurd (i32_eq (by have := (f514).1; have := (f514).2; have := (f515).1; have := (f515).2; have := (f587).1; have := (f587).2; have := (f588).1; have := (f588).2; have := (f672).1; have := (f672).2; have := (f653).1; have := (f653).2; have := (f650).1; have := (f650).2; have := (f651).1; have := (f651).2; have := (f657).1; have := (f657).2; have := (i641).1; have := (i641).2; have := (i642).1; have := (i642).2; have := (i17).1; have := (i17).2; have := (p3_1).1; have := (p3_1).2; have := (p16_1).1; have := (p16_1).2; have := (f385).1; have := (f385).2; have := (f655).1; have := (f655).2; have : (σ15.1 514 w).toInt = ((σ.1 514 w) : Int32).toInt := congrArg Int32.toInt (show σ15.1 514 w = (σ.1 514 w) from ((kp_c p16_0 (by decide)).trans ((kp_c p3_0 (by decide)).trans rfl))); have : (σ15.1 515 w).toInt = ((σ.1 515 w) : Int32).toInt := congrArg Int32.toInt (show σ15.1 515 w = (σ.1 515 w) from ((kp_c p16_0 (by decide)).trans ((kp_c p3_0 (by decide)).trans rfl))); have : (σ15.1 587 x).toInt = ((σ.1 587 x) : Int32).toInt := congrArg Int32.toInt (show σ15.1 587 x = (σ.1 587 x) from ((kp_c p16_0 (by decide)).trans ((kp_c p3_0 (by decide)).trans rfl))); have : (σ15.1 588 x).toInt = ((σ.1 588 x) : Int32).toInt := congrArg Int32.toInt (show σ15.1 588 x = (σ.1 588 x) from ((kp_c p16_0 (by decide)).trans ((kp_c p3_0 (by decide)).trans rfl))); have : (σ15.1 672 k).toInt = ((σ.1 672 k) : Int32).toInt := congrArg Int32.toInt (show σ15.1 672 k = (σ.1 672 k) from ((kp_c p16_0 (by decide)).trans ((kp_c p3_0 (by decide)).trans rfl))); have : (σ15.1 653 k).toInt = ((σ.1 653 k) : Int32).toInt := congrArg Int32.toInt (show σ15.1 653 k = (σ.1 653 k) from ((kp_c p16_0 (by decide)).trans ((kp_c p3_0 (by decide)).trans rfl))); have : (σ15.1 650 k).toInt = ((σ.1 650 k) : Int32).toInt := congrArg Int32.toInt (show σ15.1 650 k = (σ.1 650 k) from ((kp_c p16_0 (by decide)).trans ((kp_c p3_0 (by decide)).trans rfl))); have : (σ15.1 651 k).toInt = ((σ.1 651 k) : Int32).toInt := congrArg Int32.toInt (show σ15.1 651 k = (σ.1 651 k) from ((kp_c p16_0 (by decide)).trans ((kp_c p3_0 (by decide)).trans rfl))); have : (σ15.1 657 k).toInt = ((σ.1 657 k) : Int32).toInt := congrArg Int32.toInt (show σ15.1 657 k = (σ.1 657 k) from ((kp_c p16_0 (by decide)).trans ((kp_c p3_0 (by decide)).trans rfl))); have : (σ15.1 641 k).toInt = ((σ.1 641 k) : Int32).toInt := congrArg Int32.toInt (show σ15.1 641 k = (σ.1 641 k) from ((kp_c p16_0 (by decide)).trans ((kp_c p3_0 (by decide)).trans rfl))); have : (σ15.1 642 k).toInt = ((σ.1 642 k) : Int32).toInt := congrArg Int32.toInt (show σ15.1 642 k = (σ.1 642 k) from ((kp_c p16_0 (by decide)).trans ((kp_c p3_0 (by decide)).trans rfl))); have : (σ15.1 385 t).toInt = ((σ2.1 385 t) : Int32).toInt := congrArg Int32.toInt (show σ15.1 385 t = (σ2.1 385 t) from ((kp_c p16_0 (by decide)).trans rfl)); omega)) c18)
  refine W.widen (k := cells + 1) (n := slots + 6) (by omega) (by omega) ?_
  exact kk σ15 H locs ls hw (lv_sub hl [0, 1, 2, 3, 4] rfl)
set_option maxHeartbeats 4000000 in
set_option maxRecDepth 100000 in
theorem lc_1 (cx : oCx p s m args c cL_law 8 RL cy D A K) (hA : ∀ q, s.heap.size ≤ q → A q) (hfl : l.stackTraces = false) (hX : va_X b N xs s s.heap) (hbl : b < s.heap.size) (hbA : ¬ A b) (hN : N ≤ 2560) (h0 : 0 ≤ i.toInt) (h5 : i.toInt + 5 ≤ (N : Int)) (hw : oI A L τ cy D s.heap σ H locs) (I : lI L τ σ x k o t w) (F : lF L τ σ x k) (hl : lv_has ls 8 [(4, .int i), (3, .ref o), (2, .ref k), (1, .ref x), (0, .ref b)]) (hf0 : cells + 0 ≤ room_1.cells ∧ slots + 0 ≤ room_1.slots) (hf1 : cells + 1 ≤ room_1.cells ∧ slots + 6 ≤ room_1.slots) (hf2 : cells + 1 + 0 ≤ room_1.cells ∧ slots + 6 + 0 ≤ room_1.slots)
    (kk : ∀ (σ1 : oSt) (H1 : Heap) (locs1 : List Loc) (ls1 : Array Slot), oI A L τ cy D s.heap σ1 H1 locs1 → lv_has ls1 8 [(4, .int i), (3, .ref o), (2, .ref k), (1, .ref x), (0, .ref b)] → W p l e room_1 s m args below meth c H1 locs1 (cells + 1) (slots + 6) Q (F0 m 1516 ls1 [])) : W p l e room_1 s m args below meth c H locs cells slots Q (F0 m 253 ls []) := by
  have hx := cx.1.1
  have hb := cx.1.2.1
  have hml := cx.1.2.2.1
  have hown := cx.1.2.2.2.1
  have hts := cx.1.2.2.2.2
  have fr : oFr τ fs_law ts_law σ σ := oFr_rf
  obtain ⟨t1, t2, t3, t4⟩ := id I.2.2.2.2.2
  have i641 : Iv (σ.1 641 k) 0 0 := o_fb (j := 641) hw I.2.1 rfl
  have i642 : Iv (σ.1 642 k) 0 0 := o_fb (j := 642) hw I.2.1 rfl
  obtain ⟨hq, b_576_385, b_585_130, b_581_330, b_581_329, b_581_331, b_580_514, b_580_515, b_577_193, f587, f588, f655, f672, f653, f650, f651, f657⟩ := id F
  have hz := hq_hz hq
  have f385 := b_576_385 t I.2.2.2.1
  have f514 := b_580_514 w I.2.2.2.2.1
  have f515 := b_580_515 w I.2.2.2.2.1
  have hw0 := hw
  refine lv_aload_n hx hb dL_law_253 rfl (lv_at hl 3 rfl) ?_
  refine lv_aload_n hx hb dL_law_254 rfl (lv_at hl 4 rfl) ?_
  refine lv_iload hx hb dL_law_255 (lv_at hl 0 rfl) ?_
  refine lv_iconst (v := 1) hx hb dL_law_257 (by decide) ?_
  refine lv_iadd hx hb dL_law_258 ?_
  refine va_sld hx hb hX hbl hbA hw.2.2.1 (lx_in h0 h5 hN (by decide)) dL_law_259 ?_
  refine lv_topi (fun v1 e1 => ?_)
  refine o_ci hw (oRunV cx hA hw q_X10_end k_m_L_31 rfl I.1 (by decide) (As := [.int v1]) (c_X10_end x I.1 v1) (by decide) rfl hl.1 rfl (Nat.le_of_ble_eq_true rfl) dL_law_260 hf0) (fun v3 σ2 H locs hp hw => ?_)
  obtain ⟨p3_0, p3_1, p3_2⟩ := hp
  have fr := oFr_tr fr p3_0 (by decide)
  have z4 := p3_2 t (I.2.2.2.1)
  refine lv_aload_n hx hb dL_law_263 rfl (lv_at hl 2 rfl) ?_
  refine lv_aload_n hx hb dL_law_264 rfl (lv_at hl 4 rfl) ?_
  refine lv_iload hx hb dL_law_265 (lv_at hl 0 rfl) ?_
  refine lv_iconst (v := 1) hx hb dL_law_267 (by decide) ?_
  refine lv_iadd hx hb dL_law_268 ?_
  refine va_sld hx hb hX hbl hbA hw.2.2.1 (lx_in h0 h5 hN (by decide)) dL_law_269 ?_
  refine lv_topi (fun v5 e5 => ?_)
  rw [show v5 = v1 from e5.trans e1.symm]
  have z6 : (σ2.1 514 w).toInt = ((σ.1 514 w) : Int32).toInt := congrArg Int32.toInt (show σ2.1 514 w = (σ.1 514 w) from ((kp_c p3_0 (by decide)).trans rfl))
  have z7 : (σ2.1 515 w).toInt = ((σ.1 515 w) : Int32).toInt := congrArg Int32.toInt (show σ2.1 515 w = (σ.1 515 w) from ((kp_c p3_0 (by decide)).trans rfl))
  have z8 : (σ2.1 655 k).toInt = ((σ.1 655 k) : Int32).toInt := congrArg Int32.toInt (show σ2.1 655 k = (σ.1 655 k) from ((kp_c p3_0 (by decide)).trans rfl))
  have z9 : (σ2.1 650 k).toInt = ((σ.1 650 k) : Int32).toInt := congrArg Int32.toInt (show σ2.1 650 k = (σ.1 650 k) from ((kp_c p3_0 (by decide)).trans rfl))
  have z10 : (σ2.1 651 k).toInt = ((σ.1 651 k) : Int32).toInt := congrArg Int32.toInt (show σ2.1 651 k = (σ.1 651 k) from ((kp_c p3_0 (by decide)).trans rfl))
  have z11 : (σ2.1 641 k).toInt = ((σ.1 641 k) : Int32).toInt := congrArg Int32.toInt (show σ2.1 641 k = (σ.1 641 k) from ((kp_c p3_0 (by decide)).trans rfl))
  have z12 : (σ2.1 642 k).toInt = ((σ.1 642 k) : Int32).toInt := congrArg Int32.toInt (show σ2.1 642 k = (σ.1 642 k) from ((kp_c p3_0 (by decide)).trans rfl))
  have z13 : (σ2.1 655 k).toInt = ((σ.1 655 k) : Int32).toInt := congrArg Int32.toInt (show σ2.1 655 k = (σ.1 655 k) from ((kp_c p3_0 (by decide)).trans rfl))
  refine o_ci hw (oRunV cx hA hw q_X11_end k_m_L_35 rfl I.2.1 (by decide) (As := [.int v1]) (c_X11_end k I.2.1 v1) (by decide) rfl hl.1 rfl (Nat.le_of_ble_eq_true rfl) dL_law_270 hf0) (fun v15 σ14 H locs hp hw => ?_)
  obtain ⟨p15_0, p15_1, p15_2⟩ := hp
  have fr := oFr_tr fr p15_0 (by decide)
  have i16 : Iv (σ14.1 655 k) 0 80 := o_fb (j := 655) hw I.2.1 rfl
  refine lv_icmp_eq (tgt := 1516) hx hb dL_law_273 (by decide) (fun c17 => ?_) (fun c17 => absurd (i32_eq (by have := (f514).1; have := (f514).2; have := (f515).1; have := (f515).2; have := (f587).1; have := (f587).2; have := (f588).1; have := (f588).2; have := (f672).1; have := (f672).2; have := (f653).1; have := (f653).2; have := (f650).1; have := (f650).2; have := (f651).1; have := (f651).2; have := (f657).1; have := (f657).2; have := (i641).1; have := (i641).2; have := (i642).1; have := (i642).2; have := (i16).1; have := (i16).2; have := (p3_1).1; have := (p3_1).2; have := (p15_1).1; have := (p15_1).2; have := (f385).1; have := (f385).2; have := (f655).1; have := (f655).2; have : (σ14.1 514 w).toInt = ((σ.1 514 w) : Int32).toInt := congrArg Int32.toInt (show σ14.1 514 w = (σ.1 514 w) from ((kp_c p15_0 (by decide)).trans ((kp_c p3_0 (by decide)).trans rfl))); have : (σ14.1 515 w).toInt = ((σ.1 515 w) : Int32).toInt := congrArg Int32.toInt (show σ14.1 515 w = (σ.1 515 w) from ((kp_c p15_0 (by decide)).trans ((kp_c p3_0 (by decide)).trans rfl))); have : (σ14.1 587 x).toInt = ((σ.1 587 x) : Int32).toInt := congrArg Int32.toInt (show σ14.1 587 x = (σ.1 587 x) from ((kp_c p15_0 (by decide)).trans ((kp_c p3_0 (by decide)).trans rfl))); have : (σ14.1 588 x).toInt = ((σ.1 588 x) : Int32).toInt := congrArg Int32.toInt (show σ14.1 588 x = (σ.1 588 x) from ((kp_c p15_0 (by decide)).trans ((kp_c p3_0 (by decide)).trans rfl))); have : (σ14.1 672 k).toInt = ((σ.1 672 k) : Int32).toInt := congrArg Int32.toInt (show σ14.1 672 k = (σ.1 672 k) from ((kp_c p15_0 (by decide)).trans ((kp_c p3_0 (by decide)).trans rfl))); have : (σ14.1 653 k).toInt = ((σ.1 653 k) : Int32).toInt := congrArg Int32.toInt (show σ14.1 653 k = (σ.1 653 k) from ((kp_c p15_0 (by decide)).trans ((kp_c p3_0 (by decide)).trans rfl))); have : (σ14.1 650 k).toInt = ((σ.1 650 k) : Int32).toInt := congrArg Int32.toInt (show σ14.1 650 k = (σ.1 650 k) from ((kp_c p15_0 (by decide)).trans ((kp_c p3_0 (by decide)).trans rfl))); have : (σ14.1 651 k).toInt = ((σ.1 651 k) : Int32).toInt := congrArg Int32.toInt (show σ14.1 651 k = (σ.1 651 k) from ((kp_c p15_0 (by decide)).trans ((kp_c p3_0 (by decide)).trans rfl))); have : (σ14.1 657 k).toInt = ((σ.1 657 k) : Int32).toInt := congrArg Int32.toInt (show σ14.1 657 k = (σ.1 657 k) from ((kp_c p15_0 (by decide)).trans ((kp_c p3_0 (by decide)).trans rfl))); have : (σ14.1 641 k).toInt = ((σ.1 641 k) : Int32).toInt := congrArg Int32.toInt (show σ14.1 641 k = (σ.1 641 k) from ((kp_c p15_0 (by decide)).trans ((kp_c p3_0 (by decide)).trans rfl))); have : (σ14.1 642 k).toInt = ((σ.1 642 k) : Int32).toInt := congrArg Int32.toInt (show σ14.1 642 k = (σ.1 642 k) from ((kp_c p15_0 (by decide)).trans ((kp_c p3_0 (by decide)).trans rfl))); have : (σ14.1 385 t).toInt = ((σ2.1 385 t) : Int32).toInt := congrArg Int32.toInt (show σ14.1 385 t = (σ2.1 385 t) from ((kp_c p15_0 (by decide)).trans rfl)); omega)) c17)
  refine W.widen (k := cells + 1) (n := slots + 6) (by omega) (by omega) ?_
  exact kk σ14 H locs ls hw (lv_sub hl [0, 1, 2, 3, 4] rfl)
set_option maxHeartbeats 4000000 in
set_option maxRecDepth 100000 in
theorem lc_2 (cx : oCx p s m args c cL_law 8 RL cy D A K) (hA : ∀ q, s.heap.size ≤ q → A q) (hfl : l.stackTraces = false) (hX : va_X b N xs s s.heap) (hbl : b < s.heap.size) (hbA : ¬ A b) (hN : N ≤ 2560) (h0 : 0 ≤ i.toInt) (h5 : i.toInt + 5 ≤ (N : Int)) (hw : oI A L τ cy D s.heap σ H locs) (I : lI L τ σ x k o t w) (F : lF L τ σ x k) (hl : lv_has ls 8 [(4, .int i), (3, .ref o), (2, .ref k), (1, .ref x), (0, .ref b)]) (hf0 : cells + 0 ≤ room_1.cells ∧ slots + 0 ≤ room_1.slots) (hf1 : cells + 1 ≤ room_1.cells ∧ slots + 6 ≤ room_1.slots) (hf2 : cells + 1 + 0 ≤ room_1.cells ∧ slots + 6 + 0 ≤ room_1.slots)
    (kk : ∀ (σ1 : oSt) (H1 : Heap) (locs1 : List Loc) (ls1 : Array Slot), oI A L τ cy D s.heap σ1 H1 locs1 → lv_has ls1 8 [(4, .int i), (3, .ref o), (2, .ref k), (1, .ref x), (0, .ref b)] → W p l e room_1 s m args below meth c H1 locs1 (cells + 1) (slots + 6) Q (F0 m 1516 ls1 [])) : W p l e room_1 s m args below meth c H locs cells slots Q (F0 m 278 ls []) := by
  have hx := cx.1.1
  have hb := cx.1.2.1
  have hml := cx.1.2.2.1
  have hown := cx.1.2.2.2.1
  have hts := cx.1.2.2.2.2
  have fr : oFr τ fs_law ts_law σ σ := oFr_rf
  obtain ⟨t1, t2, t3, t4⟩ := id I.2.2.2.2.2
  have i641 : Iv (σ.1 641 k) 0 0 := o_fb (j := 641) hw I.2.1 rfl
  have i642 : Iv (σ.1 642 k) 0 0 := o_fb (j := 642) hw I.2.1 rfl
  obtain ⟨hq, b_576_385, b_585_130, b_581_330, b_581_329, b_581_331, b_580_514, b_580_515, b_577_193, f587, f588, f655, f672, f653, f650, f651, f657⟩ := id F
  have hz := hq_hz hq
  have f385 := b_576_385 t I.2.2.2.1
  have f514 := b_580_514 w I.2.2.2.2.1
  have f515 := b_580_515 w I.2.2.2.2.1
  have hw0 := hw
  refine lv_aload_n hx hb dL_law_278 rfl (lv_at hl 3 rfl) ?_
  refine o_ci hw (oRunV cx hA hw q_X10_meadow k_m_L_36 rfl I.1 (by decide) (As := []) (c_X10_meadow x I.1 b_576_385) (by decide) rfl hl.1 rfl (Nat.le_of_ble_eq_true rfl) dL_law_279 hf0) (fun v2 σ1 H locs hp hw => ?_)
  obtain ⟨p2_0, p2_1, p2_2⟩ := hp
  have fr := oFr_tr fr p2_0 (by decide)
  have z3 := p2_2 t (I.2.2.2.1)
  have z4 := z3.1
  have z5 := z3.2
  refine lv_aload_n hx hb dL_law_282 rfl (lv_at hl 2 rfl) ?_
  have z6 : (σ1.1 514 w).toInt = ((σ.1 514 w) : Int32).toInt := congrArg Int32.toInt (show σ1.1 514 w = (σ.1 514 w) from ((kp_c p2_0 (by decide)).trans rfl))
  have z7 : (σ1.1 515 w).toInt = ((σ.1 515 w) : Int32).toInt := congrArg Int32.toInt (show σ1.1 515 w = (σ.1 515 w) from ((kp_c p2_0 (by decide)).trans rfl))
  have z8 : (σ1.1 655 k).toInt = ((σ.1 655 k) : Int32).toInt := congrArg Int32.toInt (show σ1.1 655 k = (σ.1 655 k) from ((kp_c p2_0 (by decide)).trans rfl))
  have z9 : (σ1.1 650 k).toInt = ((σ.1 650 k) : Int32).toInt := congrArg Int32.toInt (show σ1.1 650 k = (σ.1 650 k) from ((kp_c p2_0 (by decide)).trans rfl))
  have z10 : (σ1.1 651 k).toInt = ((σ.1 651 k) : Int32).toInt := congrArg Int32.toInt (show σ1.1 651 k = (σ.1 651 k) from ((kp_c p2_0 (by decide)).trans rfl))
  have z11 : (σ1.1 641 k).toInt = ((σ.1 641 k) : Int32).toInt := congrArg Int32.toInt (show σ1.1 641 k = (σ.1 641 k) from ((kp_c p2_0 (by decide)).trans rfl))
  have z12 : (σ1.1 642 k).toInt = ((σ.1 642 k) : Int32).toInt := congrArg Int32.toInt (show σ1.1 642 k = (σ.1 642 k) from ((kp_c p2_0 (by decide)).trans rfl))
  refine o_ci hw (oRunV cx hA hw q_X11_meadow k_m_L_40 rfl I.2.1 (by decide) (As := []) (c_X11_meadow k I.2.1 (kn_iv (((kp_c p2_0 (by decide)).trans rfl)) (iv_w f655 (by decide)))) (by decide) rfl hl.1 rfl (Nat.le_of_ble_eq_true rfl) dL_law_283 hf0) (fun v14 σ13 H locs hp hw => ?_)
  obtain ⟨p14_0, p14_1⟩ := hp
  have fr := oFr_tr fr p14_0 (by decide)
  refine lv_icmp_eq (tgt := 1516) hx hb dL_law_286 (by decide) (fun c15 => ?_) (fun c15 => absurd (i32_eq (by have := (f514).1; have := (f514).2; have := (f515).1; have := (f515).2; have := (f587).1; have := (f587).2; have := (f588).1; have := (f588).2; have := (f672).1; have := (f672).2; have := (f653).1; have := (f653).2; have := (f650).1; have := (f650).2; have := (f651).1; have := (f651).2; have := (f657).1; have := (f657).2; have := (i641).1; have := (i641).2; have := (i642).1; have := (i642).2; have := (p2_1).1; have := (p2_1).2; have := (p14_1).1; have := (p14_1).2; have := (f385).1; have := (f385).2; have := (f655).1; have := (f655).2; have : (σ13.1 514 w).toInt = ((σ.1 514 w) : Int32).toInt := congrArg Int32.toInt (show σ13.1 514 w = (σ.1 514 w) from ((kp_c p14_0 (by decide)).trans ((kp_c p2_0 (by decide)).trans rfl))); have : (σ13.1 515 w).toInt = ((σ.1 515 w) : Int32).toInt := congrArg Int32.toInt (show σ13.1 515 w = (σ.1 515 w) from ((kp_c p14_0 (by decide)).trans ((kp_c p2_0 (by decide)).trans rfl))); have : (σ13.1 587 x).toInt = ((σ.1 587 x) : Int32).toInt := congrArg Int32.toInt (show σ13.1 587 x = (σ.1 587 x) from ((kp_c p14_0 (by decide)).trans ((kp_c p2_0 (by decide)).trans rfl))); have : (σ13.1 588 x).toInt = ((σ.1 588 x) : Int32).toInt := congrArg Int32.toInt (show σ13.1 588 x = (σ.1 588 x) from ((kp_c p14_0 (by decide)).trans ((kp_c p2_0 (by decide)).trans rfl))); have : (σ13.1 672 k).toInt = ((σ.1 672 k) : Int32).toInt := congrArg Int32.toInt (show σ13.1 672 k = (σ.1 672 k) from ((kp_c p14_0 (by decide)).trans ((kp_c p2_0 (by decide)).trans rfl))); have : (σ13.1 653 k).toInt = ((σ.1 653 k) : Int32).toInt := congrArg Int32.toInt (show σ13.1 653 k = (σ.1 653 k) from ((kp_c p14_0 (by decide)).trans ((kp_c p2_0 (by decide)).trans rfl))); have : (σ13.1 650 k).toInt = ((σ.1 650 k) : Int32).toInt := congrArg Int32.toInt (show σ13.1 650 k = (σ.1 650 k) from ((kp_c p14_0 (by decide)).trans ((kp_c p2_0 (by decide)).trans rfl))); have : (σ13.1 651 k).toInt = ((σ.1 651 k) : Int32).toInt := congrArg Int32.toInt (show σ13.1 651 k = (σ.1 651 k) from ((kp_c p14_0 (by decide)).trans ((kp_c p2_0 (by decide)).trans rfl))); have : (σ13.1 657 k).toInt = ((σ.1 657 k) : Int32).toInt := congrArg Int32.toInt (show σ13.1 657 k = (σ.1 657 k) from ((kp_c p14_0 (by decide)).trans ((kp_c p2_0 (by decide)).trans rfl))); have : (σ13.1 641 k).toInt = ((σ.1 641 k) : Int32).toInt := congrArg Int32.toInt (show σ13.1 641 k = (σ.1 641 k) from ((kp_c p14_0 (by decide)).trans ((kp_c p2_0 (by decide)).trans rfl))); have : (σ13.1 642 k).toInt = ((σ.1 642 k) : Int32).toInt := congrArg Int32.toInt (show σ13.1 642 k = (σ.1 642 k) from ((kp_c p14_0 (by decide)).trans ((kp_c p2_0 (by decide)).trans rfl))); have : (σ13.1 385 t).toInt = ((σ1.1 385 t) : Int32).toInt := congrArg Int32.toInt (show σ13.1 385 t = (σ1.1 385 t) from ((kp_c p14_0 (by decide)).trans rfl)); omega)) c15)
  refine W.widen (k := cells + 1) (n := slots + 6) (by omega) (by omega) ?_
  exact kk σ13 H locs ls hw (lv_sub hl [0, 1, 2, 3, 4] rfl)
set_option maxHeartbeats 4000000 in
set_option maxRecDepth 100000 in
theorem lc_3 (cx : oCx p s m args c cL_law 8 RL cy D A K) (hA : ∀ q, s.heap.size ≤ q → A q) (hfl : l.stackTraces = false) (hX : va_X b N xs s s.heap) (hbl : b < s.heap.size) (hbA : ¬ A b) (hN : N ≤ 2560) (h0 : 0 ≤ i.toInt) (h5 : i.toInt + 5 ≤ (N : Int)) (hw : oI A L τ cy D s.heap σ H locs) (I : lI L τ σ x k o t w) (F : lF L τ σ x k) (hl : lv_has ls 8 [(4, .int i), (3, .ref o), (2, .ref k), (1, .ref x), (0, .ref b)]) (hf0 : cells + 0 ≤ room_1.cells ∧ slots + 0 ≤ room_1.slots) (hf1 : cells + 1 ≤ room_1.cells ∧ slots + 6 ≤ room_1.slots) (hf2 : cells + 1 + 0 ≤ room_1.cells ∧ slots + 6 + 0 ≤ room_1.slots)
    (kk : ∀ (σ1 : oSt) (H1 : Heap) (locs1 : List Loc) (ls1 : Array Slot), oI A L τ cy D s.heap σ1 H1 locs1 → lv_has ls1 8 [(4, .int i), (3, .ref o), (2, .ref k), (1, .ref x), (0, .ref b)] → W p l e room_1 s m args below meth c H1 locs1 (cells + 1) (slots + 6) Q (F0 m 1516 ls1 [])) : W p l e room_1 s m args below meth c H locs cells slots Q (F0 m 291 ls []) := by
  have hx := cx.1.1
  have hb := cx.1.2.1
  have hml := cx.1.2.2.1
  have hown := cx.1.2.2.2.1
  have hts := cx.1.2.2.2.2
  have fr : oFr τ fs_law ts_law σ σ := oFr_rf
  obtain ⟨t1, t2, t3, t4⟩ := id I.2.2.2.2.2
  have i641 : Iv (σ.1 641 k) 0 0 := o_fb (j := 641) hw I.2.1 rfl
  have i642 : Iv (σ.1 642 k) 0 0 := o_fb (j := 642) hw I.2.1 rfl
  obtain ⟨hq, b_576_385, b_585_130, b_581_330, b_581_329, b_581_331, b_580_514, b_580_515, b_577_193, f587, f588, f655, f672, f653, f650, f651, f657⟩ := id F
  have hz := hq_hz hq
  have f385 := b_576_385 t I.2.2.2.1
  have f514 := b_580_514 w I.2.2.2.2.1
  have f515 := b_580_515 w I.2.2.2.2.1
  have hw0 := hw
  refine lv_aload_n hx hb dL_law_291 rfl (lv_at hl 3 rfl) ?_
  refine o_ci hw (oRunV cx hA hw q_X10_herds k_m_L_41 rfl I.1 (by decide) (As := []) (c_X10_herds x I.1 hz b_576_385) (by decide) rfl hl.1 rfl (Nat.le_of_ble_eq_true rfl) dL_law_292 hf0) (fun v2 σ1 H locs hp hw => ?_)
  obtain ⟨p2_0, p2_1, p2_2⟩ := hp
  have fr := oFr_tr fr p2_0 (by decide)
  have z3 := p2_2 t (I.2.2.2.1)
  have z4 := z3.1
  have z5 := z3.2
  refine lv_aload_n hx hb dL_law_295 rfl (lv_at hl 2 rfl) ?_
  have z6 : (σ1.1 514 w).toInt = ((σ.1 514 w) : Int32).toInt := congrArg Int32.toInt (show σ1.1 514 w = (σ.1 514 w) from ((kp_c p2_0 (by decide)).trans rfl))
  have z7 : (σ1.1 515 w).toInt = ((σ.1 515 w) : Int32).toInt := congrArg Int32.toInt (show σ1.1 515 w = (σ.1 515 w) from ((kp_c p2_0 (by decide)).trans rfl))
  have z8 : (σ1.1 655 k).toInt = ((σ.1 655 k) : Int32).toInt := congrArg Int32.toInt (show σ1.1 655 k = (σ.1 655 k) from ((kp_c p2_0 (by decide)).trans rfl))
  have z9 : (σ1.1 650 k).toInt = ((σ.1 650 k) : Int32).toInt := congrArg Int32.toInt (show σ1.1 650 k = (σ.1 650 k) from ((kp_c p2_0 (by decide)).trans rfl))
  have z10 : (σ1.1 651 k).toInt = ((σ.1 651 k) : Int32).toInt := congrArg Int32.toInt (show σ1.1 651 k = (σ.1 651 k) from ((kp_c p2_0 (by decide)).trans rfl))
  have z11 : (σ1.1 641 k).toInt = ((σ.1 641 k) : Int32).toInt := congrArg Int32.toInt (show σ1.1 641 k = (σ.1 641 k) from ((kp_c p2_0 (by decide)).trans rfl))
  have z12 : (σ1.1 642 k).toInt = ((σ.1 642 k) : Int32).toInt := congrArg Int32.toInt (show σ1.1 642 k = (σ.1 642 k) from ((kp_c p2_0 (by decide)).trans rfl))
  refine o_ci hw (oRunV cx hA hw q_X11_herds k_m_L_44 rfl I.2.1 (by decide) (As := []) (c_X11_herds k I.2.1 (kn_iv (((kp_c p2_0 (by decide)).trans rfl)) (iv_w f655 (by decide)))) (by decide) rfl hl.1 rfl (Nat.le_of_ble_eq_true rfl) dL_law_296 hf0) (fun v14 σ13 H locs hp hw => ?_)
  obtain ⟨p14_0, p14_1⟩ := hp
  have fr := oFr_tr fr p14_0 (by decide)
  refine lv_icmp_eq (tgt := 1516) hx hb dL_law_299 (by decide) (fun c15 => ?_) (fun c15 => absurd (i32_eq (by have := (f514).1; have := (f514).2; have := (f515).1; have := (f515).2; have := (f587).1; have := (f587).2; have := (f588).1; have := (f588).2; have := (f672).1; have := (f672).2; have := (f653).1; have := (f653).2; have := (f650).1; have := (f650).2; have := (f651).1; have := (f651).2; have := (f657).1; have := (f657).2; have := (i641).1; have := (i641).2; have := (i642).1; have := (i642).2; have := (p2_1).1; have := (p2_1).2; have := (p14_1).1; have := (p14_1).2; have := (f385).1; have := (f385).2; have := (f655).1; have := (f655).2; have : (σ13.1 514 w).toInt = ((σ.1 514 w) : Int32).toInt := congrArg Int32.toInt (show σ13.1 514 w = (σ.1 514 w) from ((kp_c p14_0 (by decide)).trans ((kp_c p2_0 (by decide)).trans rfl))); have : (σ13.1 515 w).toInt = ((σ.1 515 w) : Int32).toInt := congrArg Int32.toInt (show σ13.1 515 w = (σ.1 515 w) from ((kp_c p14_0 (by decide)).trans ((kp_c p2_0 (by decide)).trans rfl))); have : (σ13.1 587 x).toInt = ((σ.1 587 x) : Int32).toInt := congrArg Int32.toInt (show σ13.1 587 x = (σ.1 587 x) from ((kp_c p14_0 (by decide)).trans ((kp_c p2_0 (by decide)).trans rfl))); have : (σ13.1 588 x).toInt = ((σ.1 588 x) : Int32).toInt := congrArg Int32.toInt (show σ13.1 588 x = (σ.1 588 x) from ((kp_c p14_0 (by decide)).trans ((kp_c p2_0 (by decide)).trans rfl))); have : (σ13.1 672 k).toInt = ((σ.1 672 k) : Int32).toInt := congrArg Int32.toInt (show σ13.1 672 k = (σ.1 672 k) from ((kp_c p14_0 (by decide)).trans ((kp_c p2_0 (by decide)).trans rfl))); have : (σ13.1 653 k).toInt = ((σ.1 653 k) : Int32).toInt := congrArg Int32.toInt (show σ13.1 653 k = (σ.1 653 k) from ((kp_c p14_0 (by decide)).trans ((kp_c p2_0 (by decide)).trans rfl))); have : (σ13.1 650 k).toInt = ((σ.1 650 k) : Int32).toInt := congrArg Int32.toInt (show σ13.1 650 k = (σ.1 650 k) from ((kp_c p14_0 (by decide)).trans ((kp_c p2_0 (by decide)).trans rfl))); have : (σ13.1 651 k).toInt = ((σ.1 651 k) : Int32).toInt := congrArg Int32.toInt (show σ13.1 651 k = (σ.1 651 k) from ((kp_c p14_0 (by decide)).trans ((kp_c p2_0 (by decide)).trans rfl))); have : (σ13.1 657 k).toInt = ((σ.1 657 k) : Int32).toInt := congrArg Int32.toInt (show σ13.1 657 k = (σ.1 657 k) from ((kp_c p14_0 (by decide)).trans ((kp_c p2_0 (by decide)).trans rfl))); have : (σ13.1 641 k).toInt = ((σ.1 641 k) : Int32).toInt := congrArg Int32.toInt (show σ13.1 641 k = (σ.1 641 k) from ((kp_c p14_0 (by decide)).trans ((kp_c p2_0 (by decide)).trans rfl))); have : (σ13.1 642 k).toInt = ((σ.1 642 k) : Int32).toInt := congrArg Int32.toInt (show σ13.1 642 k = (σ.1 642 k) from ((kp_c p14_0 (by decide)).trans ((kp_c p2_0 (by decide)).trans rfl))); have : (σ13.1 385 t).toInt = ((σ1.1 385 t) : Int32).toInt := congrArg Int32.toInt (show σ13.1 385 t = (σ1.1 385 t) from ((kp_c p14_0 (by decide)).trans rfl)); omega)) c15)
  refine W.widen (k := cells + 1) (n := slots + 6) (by omega) (by omega) ?_
  exact kk σ13 H locs ls hw (lv_sub hl [0, 1, 2, 3, 4] rfl)
set_option maxHeartbeats 4000000 in
set_option maxRecDepth 100000 in
theorem lc_4 (cx : oCx p s m args c cL_law 8 RL cy D A K) (hA : ∀ q, s.heap.size ≤ q → A q) (hfl : l.stackTraces = false) (hX : va_X b N xs s s.heap) (hbl : b < s.heap.size) (hbA : ¬ A b) (hN : N ≤ 2560) (h0 : 0 ≤ i.toInt) (h5 : i.toInt + 5 ≤ (N : Int)) (hw : oI A L τ cy D s.heap σ H locs) (I : lI L τ σ x k o t w) (F : lF L τ σ x k) (hl : lv_has ls 8 [(4, .int i), (3, .ref o), (2, .ref k), (1, .ref x), (0, .ref b)]) (hf0 : cells + 0 ≤ room_1.cells ∧ slots + 0 ≤ room_1.slots) (hf1 : cells + 1 ≤ room_1.cells ∧ slots + 6 ≤ room_1.slots) (hf2 : cells + 1 + 0 ≤ room_1.cells ∧ slots + 6 + 0 ≤ room_1.slots)
    (kk : ∀ (σ1 : oSt) (H1 : Heap) (locs1 : List Loc) (ls1 : Array Slot), oI A L τ cy D s.heap σ1 H1 locs1 → lv_has ls1 8 [(4, .int i), (3, .ref o), (2, .ref k), (1, .ref x), (0, .ref b)] → W p l e room_1 s m args below meth c H1 locs1 (cells + 1) (slots + 6) Q (F0 m 1516 ls1 [])) : W p l e room_1 s m args below meth c H locs cells slots Q (F0 m 304 ls []) := by
  have hx := cx.1.1
  have hb := cx.1.2.1
  have hml := cx.1.2.2.1
  have hown := cx.1.2.2.2.1
  have hts := cx.1.2.2.2.2
  have fr : oFr τ fs_law ts_law σ σ := oFr_rf
  obtain ⟨t1, t2, t3, t4⟩ := id I.2.2.2.2.2
  have i641 : Iv (σ.1 641 k) 0 0 := o_fb (j := 641) hw I.2.1 rfl
  have i642 : Iv (σ.1 642 k) 0 0 := o_fb (j := 642) hw I.2.1 rfl
  obtain ⟨hq, b_576_385, b_585_130, b_581_330, b_581_329, b_581_331, b_580_514, b_580_515, b_577_193, f587, f588, f655, f672, f653, f650, f651, f657⟩ := id F
  have hz := hq_hz hq
  have f385 := b_576_385 t I.2.2.2.1
  have f514 := b_580_514 w I.2.2.2.2.1
  have f515 := b_580_515 w I.2.2.2.2.1
  have hw0 := hw
  refine lv_aload_n hx hb dL_law_304 rfl (lv_at hl 3 rfl) ?_
  refine o_ci hw (oRunV cx hA hw q_X10_rule k_m_L_45 rfl I.1 (by decide) (As := []) (c_X10_rule x I.1 b_576_385) (by decide) rfl hl.1 rfl (Nat.le_of_ble_eq_true rfl) dL_law_305 hf0) (fun v2 σ1 H locs hp hw => ?_)
  obtain ⟨p2_0, p2_1, p2_2⟩ := hp
  have fr := oFr_tr fr p2_0 (by decide)
  have z3 := p2_1 t (I.2.2.2.1)
  have z4 := z3.1
  have z5 := z3.2
  have z6 := p2_2 t (I.2.2.2.1)
  refine lv_aload_n hx hb dL_law_308 rfl (lv_at hl 2 rfl) ?_
  have z7 : (σ1.1 514 w).toInt = ((σ.1 514 w) : Int32).toInt := congrArg Int32.toInt (show σ1.1 514 w = (σ.1 514 w) from ((kp_c p2_0 (by decide)).trans rfl))
  have z8 : (σ1.1 515 w).toInt = ((σ.1 515 w) : Int32).toInt := congrArg Int32.toInt (show σ1.1 515 w = (σ.1 515 w) from ((kp_c p2_0 (by decide)).trans rfl))
  have z9 : (σ1.1 655 k).toInt = ((σ.1 655 k) : Int32).toInt := congrArg Int32.toInt (show σ1.1 655 k = (σ.1 655 k) from ((kp_c p2_0 (by decide)).trans rfl))
  have z10 : (σ1.1 650 k).toInt = ((σ.1 650 k) : Int32).toInt := congrArg Int32.toInt (show σ1.1 650 k = (σ.1 650 k) from ((kp_c p2_0 (by decide)).trans rfl))
  have z11 : (σ1.1 651 k).toInt = ((σ.1 651 k) : Int32).toInt := congrArg Int32.toInt (show σ1.1 651 k = (σ.1 651 k) from ((kp_c p2_0 (by decide)).trans rfl))
  have z12 : (σ1.1 641 k).toInt = ((σ.1 641 k) : Int32).toInt := congrArg Int32.toInt (show σ1.1 641 k = (σ.1 641 k) from ((kp_c p2_0 (by decide)).trans rfl))
  have z13 : (σ1.1 642 k).toInt = ((σ.1 642 k) : Int32).toInt := congrArg Int32.toInt (show σ1.1 642 k = (σ.1 642 k) from ((kp_c p2_0 (by decide)).trans rfl))
  refine o_ci hw (oRunV cx hA hw q_X11_rule k_m_L_48 rfl I.2.1 (by decide) (As := []) (c_X11_rule k I.2.1 (kn_iv (((kp_c p2_0 (by decide)).trans rfl)) (iv_w f655 (by decide)))) (by decide) rfl hl.1 rfl (Nat.le_of_ble_eq_true rfl) dL_law_309 hf0) (fun v15 σ14 H locs hp hw => ?_)
  obtain ⟨p15_0, p15_1⟩ := hp
  have fr := oFr_tr fr p15_0 (by decide)
  refine lv_icmp_eq (tgt := 1516) hx hb dL_law_312 (by decide) (fun c16 => ?_) (fun c16 => absurd (i32_eq (by have := (f514).1; have := (f514).2; have := (f515).1; have := (f515).2; have := (f587).1; have := (f587).2; have := (f588).1; have := (f588).2; have := (f672).1; have := (f672).2; have := (f653).1; have := (f653).2; have := (f650).1; have := (f650).2; have := (f651).1; have := (f651).2; have := (f657).1; have := (f657).2; have := (i641).1; have := (i641).2; have := (i642).1; have := (i642).2; have := (p15_1).1; have := (p15_1).2; have := (f385).1; have := (f385).2; have := (f655).1; have := (f655).2; have : (σ14.1 514 w).toInt = ((σ.1 514 w) : Int32).toInt := congrArg Int32.toInt (show σ14.1 514 w = (σ.1 514 w) from ((kp_c p15_0 (by decide)).trans ((kp_c p2_0 (by decide)).trans rfl))); have : (σ14.1 515 w).toInt = ((σ.1 515 w) : Int32).toInt := congrArg Int32.toInt (show σ14.1 515 w = (σ.1 515 w) from ((kp_c p15_0 (by decide)).trans ((kp_c p2_0 (by decide)).trans rfl))); have : (σ14.1 587 x).toInt = ((σ.1 587 x) : Int32).toInt := congrArg Int32.toInt (show σ14.1 587 x = (σ.1 587 x) from ((kp_c p15_0 (by decide)).trans ((kp_c p2_0 (by decide)).trans rfl))); have : (σ14.1 588 x).toInt = ((σ.1 588 x) : Int32).toInt := congrArg Int32.toInt (show σ14.1 588 x = (σ.1 588 x) from ((kp_c p15_0 (by decide)).trans ((kp_c p2_0 (by decide)).trans rfl))); have : (σ14.1 672 k).toInt = ((σ.1 672 k) : Int32).toInt := congrArg Int32.toInt (show σ14.1 672 k = (σ.1 672 k) from ((kp_c p15_0 (by decide)).trans ((kp_c p2_0 (by decide)).trans rfl))); have : (σ14.1 653 k).toInt = ((σ.1 653 k) : Int32).toInt := congrArg Int32.toInt (show σ14.1 653 k = (σ.1 653 k) from ((kp_c p15_0 (by decide)).trans ((kp_c p2_0 (by decide)).trans rfl))); have : (σ14.1 650 k).toInt = ((σ.1 650 k) : Int32).toInt := congrArg Int32.toInt (show σ14.1 650 k = (σ.1 650 k) from ((kp_c p15_0 (by decide)).trans ((kp_c p2_0 (by decide)).trans rfl))); have : (σ14.1 651 k).toInt = ((σ.1 651 k) : Int32).toInt := congrArg Int32.toInt (show σ14.1 651 k = (σ.1 651 k) from ((kp_c p15_0 (by decide)).trans ((kp_c p2_0 (by decide)).trans rfl))); have : (σ14.1 657 k).toInt = ((σ.1 657 k) : Int32).toInt := congrArg Int32.toInt (show σ14.1 657 k = (σ.1 657 k) from ((kp_c p15_0 (by decide)).trans ((kp_c p2_0 (by decide)).trans rfl))); have : (σ14.1 641 k).toInt = ((σ.1 641 k) : Int32).toInt := congrArg Int32.toInt (show σ14.1 641 k = (σ.1 641 k) from ((kp_c p15_0 (by decide)).trans ((kp_c p2_0 (by decide)).trans rfl))); have : (σ14.1 642 k).toInt = ((σ.1 642 k) : Int32).toInt := congrArg Int32.toInt (show σ14.1 642 k = (σ.1 642 k) from ((kp_c p15_0 (by decide)).trans ((kp_c p2_0 (by decide)).trans rfl))); have : (σ14.1 385 t).toInt = ((σ1.1 385 t) : Int32).toInt := congrArg Int32.toInt (show σ14.1 385 t = (σ1.1 385 t) from ((kp_c p15_0 (by decide)).trans rfl)); omega)) c16)
  refine W.widen (k := cells + 1) (n := slots + 6) (by omega) (by omega) ?_
  exact kk σ14 H locs ls hw (lv_sub hl [0, 1, 2, 3, 4] rfl)
set_option maxHeartbeats 4000000 in
set_option maxRecDepth 100000 in
theorem lc_5 (cx : oCx p s m args c cL_law 8 RL cy D A K) (hA : ∀ q, s.heap.size ≤ q → A q) (hfl : l.stackTraces = false) (hX : va_X b N xs s s.heap) (hbl : b < s.heap.size) (hbA : ¬ A b) (hN : N ≤ 2560) (h0 : 0 ≤ i.toInt) (h5 : i.toInt + 5 ≤ (N : Int)) (hw : oI A L τ cy D s.heap σ H locs) (I : lI L τ σ x k o t w) (F : lF L τ σ x k) (hl : lv_has ls 8 [(4, .int i), (3, .ref o), (2, .ref k), (1, .ref x), (0, .ref b)]) (hf0 : cells + 0 ≤ room_1.cells ∧ slots + 0 ≤ room_1.slots) (hf1 : cells + 1 ≤ room_1.cells ∧ slots + 6 ≤ room_1.slots) (hf2 : cells + 1 + 0 ≤ room_1.cells ∧ slots + 6 + 0 ≤ room_1.slots)
    (kk : ∀ (σ1 : oSt) (H1 : Heap) (locs1 : List Loc) (ls1 : Array Slot), oI A L τ cy D s.heap σ1 H1 locs1 → lv_has ls1 8 [(4, .int i), (3, .ref o), (2, .ref k), (1, .ref x), (0, .ref b)] → W p l e room_1 s m args below meth c H1 locs1 (cells + 1) (slots + 6) Q (F0 m 1516 ls1 [])) : W p l e room_1 s m args below meth c H locs cells slots Q (F0 m 317 ls []) := by
  have hx := cx.1.1
  have hb := cx.1.2.1
  have hml := cx.1.2.2.1
  have hown := cx.1.2.2.2.1
  have hts := cx.1.2.2.2.2
  have fr : oFr τ fs_law ts_law σ σ := oFr_rf
  obtain ⟨t1, t2, t3, t4⟩ := id I.2.2.2.2.2
  have i641 : Iv (σ.1 641 k) 0 0 := o_fb (j := 641) hw I.2.1 rfl
  have i642 : Iv (σ.1 642 k) 0 0 := o_fb (j := 642) hw I.2.1 rfl
  obtain ⟨hq, b_576_385, b_585_130, b_581_330, b_581_329, b_581_331, b_580_514, b_580_515, b_577_193, f587, f588, f655, f672, f653, f650, f651, f657⟩ := id F
  have hz := hq_hz hq
  have f385 := b_576_385 t I.2.2.2.1
  have f514 := b_580_514 w I.2.2.2.2.1
  have f515 := b_580_515 w I.2.2.2.2.1
  have hw0 := hw
  refine lv_aload_n hx hb dL_law_317 rfl (lv_at hl 3 rfl) ?_
  refine lv_aload_n hx hb dL_law_318 rfl (lv_at hl 4 rfl) ?_
  refine lv_iload hx hb dL_law_319 (lv_at hl 0 rfl) ?_
  refine lv_iconst (v := 1) hx hb dL_law_321 (by decide) ?_
  refine lv_iadd hx hb dL_law_322 ?_
  refine va_sld hx hb hX hbl hbA hw.2.2.1 (lx_in h0 h5 hN (by decide)) dL_law_323 ?_
  refine lv_topi (fun v1 e1 => ?_)
  refine lv_aload_n hx hb dL_law_324 rfl (lv_at hl 4 rfl) ?_
  refine lv_iload hx hb dL_law_325 (lv_at hl 0 rfl) ?_
  refine lv_iconst (v := 2) hx hb dL_law_327 (by decide) ?_
  refine lv_iadd hx hb dL_law_328 ?_
  refine va_sld hx hb hX hbl hbA hw.2.2.1 (lx_in h0 h5 hN (by decide)) dL_law_329 ?_
  refine lv_topi (fun v2 e2 => ?_)
  refine lv_aload_n hx hb dL_law_330 rfl (lv_at hl 1 rfl) ?_
  refine o_cih hw (oRunH cx hA hw qh_L_cell k_m_L_49 (As := [.ref x, .int v1, .int v2, .ref o]) (c_L_cell hfl x I.1 v1 v2 o I.2.2.1 hz) (by decide) rfl hl.1 rfl (Nat.le_of_ble_eq_true rfl) dL_law_331 hf1) (fun v4 σ3 H locs hp hw => ?_)
  obtain ⟨p4_0, p4_1⟩ := hp
  have fr := oFr_tr fr p4_0 (by decide)
  refine lv_istore (lv' := [(5, .int v4), (4, .int i), (3, .ref o), (2, .ref k), (1, .ref x), (0, .ref b)]) hx hb dL_law_334 hl (by decide) rfl (fun ls hl => ?_)
  refine lv_aload_n hx hb dL_law_336 rfl (lv_at hl 3 rfl) ?_
  refine lv_aload_n hx hb dL_law_337 rfl (lv_at hl 5 rfl) ?_
  refine lv_iload hx hb dL_law_338 (lv_at hl 1 rfl) ?_
  refine lv_iconst (v := 1) hx hb dL_law_340 (by decide) ?_
  refine lv_iadd hx hb dL_law_341 ?_
  refine va_sld hx hb hX hbl hbA hw.2.2.1 (lx_in h0 h5 hN (by decide)) dL_law_342 ?_
  refine lv_topi (fun v5 e5 => ?_)
  rw [show v5 = v1 from e5.trans e1.symm]
  refine lv_aload_n hx hb dL_law_343 rfl (lv_at hl 5 rfl) ?_
  refine lv_iload hx hb dL_law_344 (lv_at hl 1 rfl) ?_
  refine lv_iconst (v := 2) hx hb dL_law_346 (by decide) ?_
  refine lv_iadd hx hb dL_law_347 ?_
  refine va_sld hx hb hX hbl hbA hw.2.2.1 (lx_in h0 h5 hN (by decide)) dL_law_348 ?_
  refine lv_topi (fun v6 e6 => ?_)
  rw [show v6 = v2 from e6.trans e2.symm]
  have z7 : (σ3.1 385 t).toInt = ((σ.1 385 t) : Int32).toInt := congrArg Int32.toInt (show σ3.1 385 t = (σ.1 385 t) from ((kp_c p4_0 (by decide)).trans rfl))
  have z8 : (σ3.1 514 w).toInt = ((σ.1 514 w) : Int32).toInt := congrArg Int32.toInt (show σ3.1 514 w = (σ.1 514 w) from ((kp_c p4_0 (by decide)).trans rfl))
  have z9 : (σ3.1 515 w).toInt = ((σ.1 515 w) : Int32).toInt := congrArg Int32.toInt (show σ3.1 515 w = (σ.1 515 w) from ((kp_c p4_0 (by decide)).trans rfl))
  have z10 : (σ3.1 655 k).toInt = ((σ.1 655 k) : Int32).toInt := congrArg Int32.toInt (show σ3.1 655 k = (σ.1 655 k) from ((kp_c p4_0 (by decide)).trans rfl))
  have z11 : (σ3.1 650 k).toInt = ((σ.1 650 k) : Int32).toInt := congrArg Int32.toInt (show σ3.1 650 k = (σ.1 650 k) from ((kp_c p4_0 (by decide)).trans rfl))
  have z12 : (σ3.1 651 k).toInt = ((σ.1 651 k) : Int32).toInt := congrArg Int32.toInt (show σ3.1 651 k = (σ.1 651 k) from ((kp_c p4_0 (by decide)).trans rfl))
  have z13 : (σ3.1 641 k).toInt = ((σ.1 641 k) : Int32).toInt := congrArg Int32.toInt (show σ3.1 641 k = (σ.1 641 k) from ((kp_c p4_0 (by decide)).trans rfl))
  have z14 : (σ3.1 642 k).toInt = ((σ.1 642 k) : Int32).toInt := congrArg Int32.toInt (show σ3.1 642 k = (σ.1 642 k) from ((kp_c p4_0 (by decide)).trans rfl))
  refine o_ci hw (oRunV cx hA hw q_X11_cell k_m_L_54 rfl I.2.1 (by decide) (As := [.int v1, .int v2]) (c_X11_cell k I.2.1 v1 v2) (by decide) rfl hl.1 rfl (Nat.le_of_ble_eq_true rfl) dL_law_349 hf2) (fun v16 σ15 H locs hp hw => ?_)
  obtain ⟨p16_0, p16_1, p16_2⟩ := hp
  have fr := oFr_tr fr p16_0 (by decide)
  refine lv_istore (lv' := [(6, .int v16), (5, .int v4), (4, .int i), (3, .ref o), (2, .ref k), (1, .ref x), (0, .ref b)]) hx hb dL_law_352 hl (by decide) rfl (fun ls hl => ?_)
  refine lv_aload_n hx hb dL_law_354 rfl (lv_at hl 4 rfl) ?_
  have z17 : (σ15.1 385 t).toInt = ((σ.1 385 t) : Int32).toInt := congrArg Int32.toInt (show σ15.1 385 t = (σ.1 385 t) from ((kp_c p16_0 (by decide)).trans ((kp_c p4_0 (by decide)).trans rfl)))
  have z18 : (σ15.1 514 w).toInt = ((σ.1 514 w) : Int32).toInt := congrArg Int32.toInt (show σ15.1 514 w = (σ.1 514 w) from ((kp_c p16_0 (by decide)).trans ((kp_c p4_0 (by decide)).trans rfl)))
  have z19 : (σ15.1 515 w).toInt = ((σ.1 515 w) : Int32).toInt := congrArg Int32.toInt (show σ15.1 515 w = (σ.1 515 w) from ((kp_c p16_0 (by decide)).trans ((kp_c p4_0 (by decide)).trans rfl)))
  have z20 : (σ15.1 655 k).toInt = ((σ.1 655 k) : Int32).toInt := congrArg Int32.toInt (show σ15.1 655 k = (σ.1 655 k) from ((kp_c p16_0 (by decide)).trans ((kp_c p4_0 (by decide)).trans rfl)))
  have z21 : (σ15.1 650 k).toInt = ((σ.1 650 k) : Int32).toInt := congrArg Int32.toInt (show σ15.1 650 k = (σ.1 650 k) from ((kp_c p16_0 (by decide)).trans ((kp_c p4_0 (by decide)).trans rfl)))
  have z22 : (σ15.1 651 k).toInt = ((σ.1 651 k) : Int32).toInt := congrArg Int32.toInt (show σ15.1 651 k = (σ.1 651 k) from ((kp_c p16_0 (by decide)).trans ((kp_c p4_0 (by decide)).trans rfl)))
  have z23 : (σ15.1 641 k).toInt = ((σ.1 641 k) : Int32).toInt := congrArg Int32.toInt (show σ15.1 641 k = (σ.1 641 k) from ((kp_c p16_0 (by decide)).trans ((kp_c p4_0 (by decide)).trans rfl)))
  have z24 : (σ15.1 642 k).toInt = ((σ.1 642 k) : Int32).toInt := congrArg Int32.toInt (show σ15.1 642 k = (σ.1 642 k) from ((kp_c p16_0 (by decide)).trans ((kp_c p4_0 (by decide)).trans rfl)))
  refine o_ci hw (oRunV cx hA hw q_X11_thrown k_m_L_55 rfl I.2.1 (by decide) (As := []) (c_X11_thrown k I.2.1) (by decide) rfl hl.1 rfl (Nat.le_of_ble_eq_true rfl) dL_law_355 hf2) (fun v26 σ25 H locs hp hw => ?_)
  obtain ⟨p26_0, p26_1⟩ := hp
  rw [p26_0] at hw
  have z27 := congrArg Int32.toInt p26_1
  have i28 : Iv v26 1 1 := (by have := (p4_1).1; have := (p4_1).2; have := (p16_1).1; have := (p16_1).2; have := (f385).1; have := (f385).2; have := (f514).1; have := (f514).2; have := (f515).1; have := (f515).2; have := (f587).1; have := (f587).2; have := (f588).1; have := (f588).2; have := (f655).1; have := (f655).2; have := (f672).1; have := (f672).2; have := (f653).1; have := (f653).2; have := (f650).1; have := (f650).2; have := (f651).1; have := (f651).2; have := (f657).1; have := (f657).2; have := (i641).1; have := (i641).2; have := (i642).1; have := (i642).2; have := (p16_2).1; have := (p16_2).2; have : (σ15.1 385 t).toInt = ((σ.1 385 t) : Int32).toInt := congrArg Int32.toInt (show σ15.1 385 t = (σ.1 385 t) from ((kp_c p16_0 (by decide)).trans ((kp_c p4_0 (by decide)).trans rfl))); have : (σ15.1 514 w).toInt = ((σ.1 514 w) : Int32).toInt := congrArg Int32.toInt (show σ15.1 514 w = (σ.1 514 w) from ((kp_c p16_0 (by decide)).trans ((kp_c p4_0 (by decide)).trans rfl))); have : (σ15.1 515 w).toInt = ((σ.1 515 w) : Int32).toInt := congrArg Int32.toInt (show σ15.1 515 w = (σ.1 515 w) from ((kp_c p16_0 (by decide)).trans ((kp_c p4_0 (by decide)).trans rfl))); have : (σ15.1 587 x).toInt = ((σ.1 587 x) : Int32).toInt := congrArg Int32.toInt (show σ15.1 587 x = (σ.1 587 x) from ((kp_c p16_0 (by decide)).trans ((kp_c p4_0 (by decide)).trans rfl))); have : (σ15.1 588 x).toInt = ((σ.1 588 x) : Int32).toInt := congrArg Int32.toInt (show σ15.1 588 x = (σ.1 588 x) from ((kp_c p16_0 (by decide)).trans ((kp_c p4_0 (by decide)).trans rfl))); have : (σ15.1 655 k).toInt = ((σ.1 655 k) : Int32).toInt := congrArg Int32.toInt (show σ15.1 655 k = (σ.1 655 k) from ((kp_c p16_0 (by decide)).trans ((kp_c p4_0 (by decide)).trans rfl))); have : (σ15.1 672 k).toInt = ((σ.1 672 k) : Int32).toInt := congrArg Int32.toInt (show σ15.1 672 k = (σ.1 672 k) from ((kp_c p16_0 (by decide)).trans ((kp_c p4_0 (by decide)).trans rfl))); have : (σ15.1 653 k).toInt = ((σ.1 653 k) : Int32).toInt := congrArg Int32.toInt (show σ15.1 653 k = (σ.1 653 k) from ((kp_c p16_0 (by decide)).trans ((kp_c p4_0 (by decide)).trans rfl))); have : (σ15.1 650 k).toInt = ((σ.1 650 k) : Int32).toInt := congrArg Int32.toInt (show σ15.1 650 k = (σ.1 650 k) from ((kp_c p16_0 (by decide)).trans ((kp_c p4_0 (by decide)).trans rfl))); have : (σ15.1 651 k).toInt = ((σ.1 651 k) : Int32).toInt := congrArg Int32.toInt (show σ15.1 651 k = (σ.1 651 k) from ((kp_c p16_0 (by decide)).trans ((kp_c p4_0 (by decide)).trans rfl))); have : (σ15.1 657 k).toInt = ((σ.1 657 k) : Int32).toInt := congrArg Int32.toInt (show σ15.1 657 k = (σ.1 657 k) from ((kp_c p16_0 (by decide)).trans ((kp_c p4_0 (by decide)).trans rfl))); have : (σ15.1 641 k).toInt = ((σ.1 641 k) : Int32).toInt := congrArg Int32.toInt (show σ15.1 641 k = (σ.1 641 k) from ((kp_c p16_0 (by decide)).trans ((kp_c p4_0 (by decide)).trans rfl))); have : (σ15.1 642 k).toInt = ((σ.1 642 k) : Int32).toInt := congrArg Int32.toInt (show σ15.1 642 k = (σ.1 642 k) from ((kp_c p16_0 (by decide)).trans ((kp_c p4_0 (by decide)).trans rfl))); exact ⟨by omega, by omega⟩)
  refine lv_iload hx hb dL_law_358 (lv_at hl 1 rfl) ?_
  refine lv_icmp_eq (tgt := 365) hx hb dL_law_360 (by decide) (fun c29 => ?_) (fun c29 => absurd (i32_eq (by have := (p4_1).1; have := (p4_1).2; have := (p16_1).1; have := (p16_1).2; have := (f385).1; have := (f385).2; have := (f514).1; have := (f514).2; have := (f515).1; have := (f515).2; have := (f587).1; have := (f587).2; have := (f588).1; have := (f588).2; have := (f655).1; have := (f655).2; have := (f672).1; have := (f672).2; have := (f653).1; have := (f653).2; have := (f650).1; have := (f650).2; have := (f651).1; have := (f651).2; have := (f657).1; have := (f657).2; have := (i641).1; have := (i641).2; have := (i642).1; have := (i642).2; have := (p16_2).1; have := (p16_2).2; have := (i28).1; have := (i28).2; have : (σ15.1 385 t).toInt = ((σ.1 385 t) : Int32).toInt := congrArg Int32.toInt (show σ15.1 385 t = (σ.1 385 t) from ((kp_c p16_0 (by decide)).trans ((kp_c p4_0 (by decide)).trans rfl))); have : (σ15.1 514 w).toInt = ((σ.1 514 w) : Int32).toInt := congrArg Int32.toInt (show σ15.1 514 w = (σ.1 514 w) from ((kp_c p16_0 (by decide)).trans ((kp_c p4_0 (by decide)).trans rfl))); have : (σ15.1 515 w).toInt = ((σ.1 515 w) : Int32).toInt := congrArg Int32.toInt (show σ15.1 515 w = (σ.1 515 w) from ((kp_c p16_0 (by decide)).trans ((kp_c p4_0 (by decide)).trans rfl))); have : (σ15.1 587 x).toInt = ((σ.1 587 x) : Int32).toInt := congrArg Int32.toInt (show σ15.1 587 x = (σ.1 587 x) from ((kp_c p16_0 (by decide)).trans ((kp_c p4_0 (by decide)).trans rfl))); have : (σ15.1 588 x).toInt = ((σ.1 588 x) : Int32).toInt := congrArg Int32.toInt (show σ15.1 588 x = (σ.1 588 x) from ((kp_c p16_0 (by decide)).trans ((kp_c p4_0 (by decide)).trans rfl))); have : (σ15.1 655 k).toInt = ((σ.1 655 k) : Int32).toInt := congrArg Int32.toInt (show σ15.1 655 k = (σ.1 655 k) from ((kp_c p16_0 (by decide)).trans ((kp_c p4_0 (by decide)).trans rfl))); have : (σ15.1 672 k).toInt = ((σ.1 672 k) : Int32).toInt := congrArg Int32.toInt (show σ15.1 672 k = (σ.1 672 k) from ((kp_c p16_0 (by decide)).trans ((kp_c p4_0 (by decide)).trans rfl))); have : (σ15.1 653 k).toInt = ((σ.1 653 k) : Int32).toInt := congrArg Int32.toInt (show σ15.1 653 k = (σ.1 653 k) from ((kp_c p16_0 (by decide)).trans ((kp_c p4_0 (by decide)).trans rfl))); have : (σ15.1 650 k).toInt = ((σ.1 650 k) : Int32).toInt := congrArg Int32.toInt (show σ15.1 650 k = (σ.1 650 k) from ((kp_c p16_0 (by decide)).trans ((kp_c p4_0 (by decide)).trans rfl))); have : (σ15.1 651 k).toInt = ((σ.1 651 k) : Int32).toInt := congrArg Int32.toInt (show σ15.1 651 k = (σ.1 651 k) from ((kp_c p16_0 (by decide)).trans ((kp_c p4_0 (by decide)).trans rfl))); have : (σ15.1 657 k).toInt = ((σ.1 657 k) : Int32).toInt := congrArg Int32.toInt (show σ15.1 657 k = (σ.1 657 k) from ((kp_c p16_0 (by decide)).trans ((kp_c p4_0 (by decide)).trans rfl))); have : (σ15.1 641 k).toInt = ((σ.1 641 k) : Int32).toInt := congrArg Int32.toInt (show σ15.1 641 k = (σ.1 641 k) from ((kp_c p16_0 (by decide)).trans ((kp_c p4_0 (by decide)).trans rfl))); have : (σ15.1 642 k).toInt = ((σ.1 642 k) : Int32).toInt := congrArg Int32.toInt (show σ15.1 642 k = (σ.1 642 k) from ((kp_c p16_0 (by decide)).trans ((kp_c p4_0 (by decide)).trans rfl))); omega)) c29)
  refine lv_iload hx hb dL_law_365 (lv_at hl 1 rfl) ?_
  refine lv_if_ne (tgt := 382) hx hb dL_law_367 (by decide) (fun c30 => ?_) (fun c30 => absurd c30 (iv_nz p4_1 (by decide)))
  refine lv_goto (tgt := 1516) hx hb dL_law_382 (by decide) ?_
  exact kk σ15 H locs ls hw (lv_sub hl [2, 3, 4, 5, 6] rfl)
set_option maxHeartbeats 4000000 in
set_option maxRecDepth 100000 in
theorem lc_6 (cx : oCx p s m args c cL_law 8 RL cy D A K) (hA : ∀ q, s.heap.size ≤ q → A q) (hfl : l.stackTraces = false) (hX : va_X b N xs s s.heap) (hbl : b < s.heap.size) (hbA : ¬ A b) (hN : N ≤ 2560) (h0 : 0 ≤ i.toInt) (h5 : i.toInt + 5 ≤ (N : Int)) (hw : oI A L τ cy D s.heap σ H locs) (I : lI L τ σ x k o t w) (F : lF L τ σ x k) (hl : lv_has ls 8 [(4, .int i), (3, .ref o), (2, .ref k), (1, .ref x), (0, .ref b)]) (hf0 : cells + 0 ≤ room_1.cells ∧ slots + 0 ≤ room_1.slots) (hf1 : cells + 1 ≤ room_1.cells ∧ slots + 6 ≤ room_1.slots) (hf2 : cells + 1 + 0 ≤ room_1.cells ∧ slots + 6 + 0 ≤ room_1.slots)
    (kk : ∀ (σ1 : oSt) (H1 : Heap) (locs1 : List Loc) (ls1 : Array Slot), oI A L τ cy D s.heap σ1 H1 locs1 → lv_has ls1 8 [(4, .int i), (3, .ref o), (2, .ref k), (1, .ref x), (0, .ref b)] → W p l e room_1 s m args below meth c H1 locs1 (cells + 1) (slots + 6) Q (F0 m 1516 ls1 [])) : W p l e room_1 s m args below meth c H locs cells slots Q (F0 m 385 ls []) := by
  have hx := cx.1.1
  have hb := cx.1.2.1
  have hml := cx.1.2.2.1
  have hown := cx.1.2.2.2.1
  have hts := cx.1.2.2.2.2
  have fr : oFr τ fs_law ts_law σ σ := oFr_rf
  obtain ⟨t1, t2, t3, t4⟩ := id I.2.2.2.2.2
  have i641 : Iv (σ.1 641 k) 0 0 := o_fb (j := 641) hw I.2.1 rfl
  have i642 : Iv (σ.1 642 k) 0 0 := o_fb (j := 642) hw I.2.1 rfl
  obtain ⟨hq, b_576_385, b_585_130, b_581_330, b_581_329, b_581_331, b_580_514, b_580_515, b_577_193, f587, f588, f655, f672, f653, f650, f651, f657⟩ := id F
  have hz := hq_hz hq
  have f385 := b_576_385 t I.2.2.2.1
  have f514 := b_580_514 w I.2.2.2.2.1
  have f515 := b_580_515 w I.2.2.2.2.1
  have hw0 := hw
  refine lv_aload_n hx hb dL_law_385 rfl (lv_at hl 3 rfl) ?_
  refine lv_aload_n hx hb dL_law_386 rfl (lv_at hl 4 rfl) ?_
  refine lv_iload hx hb dL_law_387 (lv_at hl 0 rfl) ?_
  refine lv_iconst (v := 1) hx hb dL_law_389 (by decide) ?_
  refine lv_iadd hx hb dL_law_390 ?_
  refine va_sld hx hb hX hbl hbA hw.2.2.1 (lx_in h0 h5 hN (by decide)) dL_law_391 ?_
  refine lv_topi (fun v1 e1 => ?_)
  refine lv_aload_n hx hb dL_law_392 rfl (lv_at hl 4 rfl) ?_
  refine lv_iload hx hb dL_law_393 (lv_at hl 0 rfl) ?_
  refine lv_iconst (v := 2) hx hb dL_law_395 (by decide) ?_
  refine lv_iadd hx hb dL_law_396 ?_
  refine va_sld hx hb hX hbl hbA hw.2.2.1 (lx_in h0 h5 hN (by decide)) dL_law_397 ?_
  refine lv_topi (fun v2 e2 => ?_)
  refine lv_aload_n hx hb dL_law_398 rfl (lv_at hl 1 rfl) ?_
  refine o_cih hw (oRunH cx hA hw qh_L_herd k_m_L_58 (As := [.ref x, .int v1, .int v2, .ref o]) (c_L_herd hfl x I.1 v1 v2 o I.2.2.1) (by decide) rfl hl.1 rfl (Nat.le_of_ble_eq_true rfl) dL_law_399 hf1) (fun v4 σ3 H locs hp hw => ?_)
  obtain ⟨p4_0, p4_1⟩ := hp
  have fr := oFr_tr fr p4_0 (by decide)
  refine lv_istore (lv' := [(5, .int v4), (4, .int i), (3, .ref o), (2, .ref k), (1, .ref x), (0, .ref b)]) hx hb dL_law_402 hl (by decide) rfl (fun ls hl => ?_)
  refine lv_aload_n hx hb dL_law_404 rfl (lv_at hl 3 rfl) ?_
  refine lv_aload_n hx hb dL_law_405 rfl (lv_at hl 5 rfl) ?_
  refine lv_iload hx hb dL_law_406 (lv_at hl 1 rfl) ?_
  refine lv_iconst (v := 1) hx hb dL_law_408 (by decide) ?_
  refine lv_iadd hx hb dL_law_409 ?_
  refine va_sld hx hb hX hbl hbA hw.2.2.1 (lx_in h0 h5 hN (by decide)) dL_law_410 ?_
  refine lv_topi (fun v5 e5 => ?_)
  rw [show v5 = v1 from e5.trans e1.symm]
  refine lv_aload_n hx hb dL_law_411 rfl (lv_at hl 5 rfl) ?_
  refine lv_iload hx hb dL_law_412 (lv_at hl 1 rfl) ?_
  refine lv_iconst (v := 2) hx hb dL_law_414 (by decide) ?_
  refine lv_iadd hx hb dL_law_415 ?_
  refine va_sld hx hb hX hbl hbA hw.2.2.1 (lx_in h0 h5 hN (by decide)) dL_law_416 ?_
  refine lv_topi (fun v6 e6 => ?_)
  rw [show v6 = v2 from e6.trans e2.symm]
  have z7 : (σ3.1 385 t).toInt = ((σ.1 385 t) : Int32).toInt := congrArg Int32.toInt (show σ3.1 385 t = (σ.1 385 t) from ((kp_c p4_0 (by decide)).trans rfl))
  have z8 : (σ3.1 514 w).toInt = ((σ.1 514 w) : Int32).toInt := congrArg Int32.toInt (show σ3.1 514 w = (σ.1 514 w) from ((kp_c p4_0 (by decide)).trans rfl))
  have z9 : (σ3.1 515 w).toInt = ((σ.1 515 w) : Int32).toInt := congrArg Int32.toInt (show σ3.1 515 w = (σ.1 515 w) from ((kp_c p4_0 (by decide)).trans rfl))
  have z10 : (σ3.1 655 k).toInt = ((σ.1 655 k) : Int32).toInt := congrArg Int32.toInt (show σ3.1 655 k = (σ.1 655 k) from ((kp_c p4_0 (by decide)).trans rfl))
  have z11 : (σ3.1 650 k).toInt = ((σ.1 650 k) : Int32).toInt := congrArg Int32.toInt (show σ3.1 650 k = (σ.1 650 k) from ((kp_c p4_0 (by decide)).trans rfl))
  have z12 : (σ3.1 651 k).toInt = ((σ.1 651 k) : Int32).toInt := congrArg Int32.toInt (show σ3.1 651 k = (σ.1 651 k) from ((kp_c p4_0 (by decide)).trans rfl))
  have z13 : (σ3.1 641 k).toInt = ((σ.1 641 k) : Int32).toInt := congrArg Int32.toInt (show σ3.1 641 k = (σ.1 641 k) from ((kp_c p4_0 (by decide)).trans rfl))
  have z14 : (σ3.1 642 k).toInt = ((σ.1 642 k) : Int32).toInt := congrArg Int32.toInt (show σ3.1 642 k = (σ.1 642 k) from ((kp_c p4_0 (by decide)).trans rfl))
  refine o_ci hw (oRunV cx hA hw q_X11_herd k_m_L_60 rfl I.2.1 (by decide) (As := [.int v1, .int v2]) (c_X11_herd k I.2.1 v1 v2) (by decide) rfl hl.1 rfl (Nat.le_of_ble_eq_true rfl) dL_law_417 hf2) (fun v16 σ15 H locs hp hw => ?_)
  obtain ⟨p16_0, p16_1, p16_2⟩ := hp
  have fr := oFr_tr fr p16_0 (by decide)
  refine lv_istore (lv' := [(6, .int v16), (5, .int v4), (4, .int i), (3, .ref o), (2, .ref k), (1, .ref x), (0, .ref b)]) hx hb dL_law_420 hl (by decide) rfl (fun ls hl => ?_)
  refine lv_aload_n hx hb dL_law_422 rfl (lv_at hl 4 rfl) ?_
  have z17 : (σ15.1 385 t).toInt = ((σ.1 385 t) : Int32).toInt := congrArg Int32.toInt (show σ15.1 385 t = (σ.1 385 t) from ((kp_c p16_0 (by decide)).trans ((kp_c p4_0 (by decide)).trans rfl)))
  have z18 : (σ15.1 514 w).toInt = ((σ.1 514 w) : Int32).toInt := congrArg Int32.toInt (show σ15.1 514 w = (σ.1 514 w) from ((kp_c p16_0 (by decide)).trans ((kp_c p4_0 (by decide)).trans rfl)))
  have z19 : (σ15.1 515 w).toInt = ((σ.1 515 w) : Int32).toInt := congrArg Int32.toInt (show σ15.1 515 w = (σ.1 515 w) from ((kp_c p16_0 (by decide)).trans ((kp_c p4_0 (by decide)).trans rfl)))
  have z20 : (σ15.1 655 k).toInt = ((σ.1 655 k) : Int32).toInt := congrArg Int32.toInt (show σ15.1 655 k = (σ.1 655 k) from ((kp_c p16_0 (by decide)).trans ((kp_c p4_0 (by decide)).trans rfl)))
  have z21 : (σ15.1 650 k).toInt = ((σ.1 650 k) : Int32).toInt := congrArg Int32.toInt (show σ15.1 650 k = (σ.1 650 k) from ((kp_c p16_0 (by decide)).trans ((kp_c p4_0 (by decide)).trans rfl)))
  have z22 : (σ15.1 651 k).toInt = ((σ.1 651 k) : Int32).toInt := congrArg Int32.toInt (show σ15.1 651 k = (σ.1 651 k) from ((kp_c p16_0 (by decide)).trans ((kp_c p4_0 (by decide)).trans rfl)))
  have z23 : (σ15.1 641 k).toInt = ((σ.1 641 k) : Int32).toInt := congrArg Int32.toInt (show σ15.1 641 k = (σ.1 641 k) from ((kp_c p16_0 (by decide)).trans ((kp_c p4_0 (by decide)).trans rfl)))
  have z24 : (σ15.1 642 k).toInt = ((σ.1 642 k) : Int32).toInt := congrArg Int32.toInt (show σ15.1 642 k = (σ.1 642 k) from ((kp_c p16_0 (by decide)).trans ((kp_c p4_0 (by decide)).trans rfl)))
  refine o_ci hw (oRunV cx hA hw q_X11_thrown k_m_L_55 rfl I.2.1 (by decide) (As := []) (c_X11_thrown k I.2.1) (by decide) rfl hl.1 rfl (Nat.le_of_ble_eq_true rfl) dL_law_423 hf2) (fun v26 σ25 H locs hp hw => ?_)
  obtain ⟨p26_0, p26_1⟩ := hp
  rw [p26_0] at hw
  have z27 := congrArg Int32.toInt p26_1
  have i28 : Iv v26 1 1 := (by have := (p4_1).1; have := (p4_1).2; have := (p16_1).1; have := (p16_1).2; have := (f385).1; have := (f385).2; have := (f514).1; have := (f514).2; have := (f515).1; have := (f515).2; have := (f587).1; have := (f587).2; have := (f588).1; have := (f588).2; have := (f655).1; have := (f655).2; have := (f672).1; have := (f672).2; have := (f653).1; have := (f653).2; have := (f650).1; have := (f650).2; have := (f651).1; have := (f651).2; have := (f657).1; have := (f657).2; have := (i641).1; have := (i641).2; have := (i642).1; have := (i642).2; have := (p16_2).1; have := (p16_2).2; have : (σ15.1 385 t).toInt = ((σ.1 385 t) : Int32).toInt := congrArg Int32.toInt (show σ15.1 385 t = (σ.1 385 t) from ((kp_c p16_0 (by decide)).trans ((kp_c p4_0 (by decide)).trans rfl))); have : (σ15.1 514 w).toInt = ((σ.1 514 w) : Int32).toInt := congrArg Int32.toInt (show σ15.1 514 w = (σ.1 514 w) from ((kp_c p16_0 (by decide)).trans ((kp_c p4_0 (by decide)).trans rfl))); have : (σ15.1 515 w).toInt = ((σ.1 515 w) : Int32).toInt := congrArg Int32.toInt (show σ15.1 515 w = (σ.1 515 w) from ((kp_c p16_0 (by decide)).trans ((kp_c p4_0 (by decide)).trans rfl))); have : (σ15.1 587 x).toInt = ((σ.1 587 x) : Int32).toInt := congrArg Int32.toInt (show σ15.1 587 x = (σ.1 587 x) from ((kp_c p16_0 (by decide)).trans ((kp_c p4_0 (by decide)).trans rfl))); have : (σ15.1 588 x).toInt = ((σ.1 588 x) : Int32).toInt := congrArg Int32.toInt (show σ15.1 588 x = (σ.1 588 x) from ((kp_c p16_0 (by decide)).trans ((kp_c p4_0 (by decide)).trans rfl))); have : (σ15.1 655 k).toInt = ((σ.1 655 k) : Int32).toInt := congrArg Int32.toInt (show σ15.1 655 k = (σ.1 655 k) from ((kp_c p16_0 (by decide)).trans ((kp_c p4_0 (by decide)).trans rfl))); have : (σ15.1 672 k).toInt = ((σ.1 672 k) : Int32).toInt := congrArg Int32.toInt (show σ15.1 672 k = (σ.1 672 k) from ((kp_c p16_0 (by decide)).trans ((kp_c p4_0 (by decide)).trans rfl))); have : (σ15.1 653 k).toInt = ((σ.1 653 k) : Int32).toInt := congrArg Int32.toInt (show σ15.1 653 k = (σ.1 653 k) from ((kp_c p16_0 (by decide)).trans ((kp_c p4_0 (by decide)).trans rfl))); have : (σ15.1 650 k).toInt = ((σ.1 650 k) : Int32).toInt := congrArg Int32.toInt (show σ15.1 650 k = (σ.1 650 k) from ((kp_c p16_0 (by decide)).trans ((kp_c p4_0 (by decide)).trans rfl))); have : (σ15.1 651 k).toInt = ((σ.1 651 k) : Int32).toInt := congrArg Int32.toInt (show σ15.1 651 k = (σ.1 651 k) from ((kp_c p16_0 (by decide)).trans ((kp_c p4_0 (by decide)).trans rfl))); have : (σ15.1 657 k).toInt = ((σ.1 657 k) : Int32).toInt := congrArg Int32.toInt (show σ15.1 657 k = (σ.1 657 k) from ((kp_c p16_0 (by decide)).trans ((kp_c p4_0 (by decide)).trans rfl))); have : (σ15.1 641 k).toInt = ((σ.1 641 k) : Int32).toInt := congrArg Int32.toInt (show σ15.1 641 k = (σ.1 641 k) from ((kp_c p16_0 (by decide)).trans ((kp_c p4_0 (by decide)).trans rfl))); have : (σ15.1 642 k).toInt = ((σ.1 642 k) : Int32).toInt := congrArg Int32.toInt (show σ15.1 642 k = (σ.1 642 k) from ((kp_c p16_0 (by decide)).trans ((kp_c p4_0 (by decide)).trans rfl))); exact ⟨by omega, by omega⟩)
  refine lv_iload hx hb dL_law_426 (lv_at hl 1 rfl) ?_
  refine lv_icmp_eq (tgt := 433) hx hb dL_law_428 (by decide) (fun c29 => ?_) (fun c29 => absurd (i32_eq (by have := (p4_1).1; have := (p4_1).2; have := (p16_1).1; have := (p16_1).2; have := (f385).1; have := (f385).2; have := (f514).1; have := (f514).2; have := (f515).1; have := (f515).2; have := (f587).1; have := (f587).2; have := (f588).1; have := (f588).2; have := (f655).1; have := (f655).2; have := (f672).1; have := (f672).2; have := (f653).1; have := (f653).2; have := (f650).1; have := (f650).2; have := (f651).1; have := (f651).2; have := (f657).1; have := (f657).2; have := (i641).1; have := (i641).2; have := (i642).1; have := (i642).2; have := (p16_2).1; have := (p16_2).2; have := (i28).1; have := (i28).2; have : (σ15.1 385 t).toInt = ((σ.1 385 t) : Int32).toInt := congrArg Int32.toInt (show σ15.1 385 t = (σ.1 385 t) from ((kp_c p16_0 (by decide)).trans ((kp_c p4_0 (by decide)).trans rfl))); have : (σ15.1 514 w).toInt = ((σ.1 514 w) : Int32).toInt := congrArg Int32.toInt (show σ15.1 514 w = (σ.1 514 w) from ((kp_c p16_0 (by decide)).trans ((kp_c p4_0 (by decide)).trans rfl))); have : (σ15.1 515 w).toInt = ((σ.1 515 w) : Int32).toInt := congrArg Int32.toInt (show σ15.1 515 w = (σ.1 515 w) from ((kp_c p16_0 (by decide)).trans ((kp_c p4_0 (by decide)).trans rfl))); have : (σ15.1 587 x).toInt = ((σ.1 587 x) : Int32).toInt := congrArg Int32.toInt (show σ15.1 587 x = (σ.1 587 x) from ((kp_c p16_0 (by decide)).trans ((kp_c p4_0 (by decide)).trans rfl))); have : (σ15.1 588 x).toInt = ((σ.1 588 x) : Int32).toInt := congrArg Int32.toInt (show σ15.1 588 x = (σ.1 588 x) from ((kp_c p16_0 (by decide)).trans ((kp_c p4_0 (by decide)).trans rfl))); have : (σ15.1 655 k).toInt = ((σ.1 655 k) : Int32).toInt := congrArg Int32.toInt (show σ15.1 655 k = (σ.1 655 k) from ((kp_c p16_0 (by decide)).trans ((kp_c p4_0 (by decide)).trans rfl))); have : (σ15.1 672 k).toInt = ((σ.1 672 k) : Int32).toInt := congrArg Int32.toInt (show σ15.1 672 k = (σ.1 672 k) from ((kp_c p16_0 (by decide)).trans ((kp_c p4_0 (by decide)).trans rfl))); have : (σ15.1 653 k).toInt = ((σ.1 653 k) : Int32).toInt := congrArg Int32.toInt (show σ15.1 653 k = (σ.1 653 k) from ((kp_c p16_0 (by decide)).trans ((kp_c p4_0 (by decide)).trans rfl))); have : (σ15.1 650 k).toInt = ((σ.1 650 k) : Int32).toInt := congrArg Int32.toInt (show σ15.1 650 k = (σ.1 650 k) from ((kp_c p16_0 (by decide)).trans ((kp_c p4_0 (by decide)).trans rfl))); have : (σ15.1 651 k).toInt = ((σ.1 651 k) : Int32).toInt := congrArg Int32.toInt (show σ15.1 651 k = (σ.1 651 k) from ((kp_c p16_0 (by decide)).trans ((kp_c p4_0 (by decide)).trans rfl))); have : (σ15.1 657 k).toInt = ((σ.1 657 k) : Int32).toInt := congrArg Int32.toInt (show σ15.1 657 k = (σ.1 657 k) from ((kp_c p16_0 (by decide)).trans ((kp_c p4_0 (by decide)).trans rfl))); have : (σ15.1 641 k).toInt = ((σ.1 641 k) : Int32).toInt := congrArg Int32.toInt (show σ15.1 641 k = (σ.1 641 k) from ((kp_c p16_0 (by decide)).trans ((kp_c p4_0 (by decide)).trans rfl))); have : (σ15.1 642 k).toInt = ((σ.1 642 k) : Int32).toInt := congrArg Int32.toInt (show σ15.1 642 k = (σ.1 642 k) from ((kp_c p16_0 (by decide)).trans ((kp_c p4_0 (by decide)).trans rfl))); omega)) c29)
  refine lv_iload hx hb dL_law_433 (lv_at hl 1 rfl) ?_
  refine lv_if_ne (tgt := 450) hx hb dL_law_435 (by decide) (fun c30 => ?_) (fun c30 => absurd c30 (iv_nz p4_1 (by decide)))
  refine lv_goto (tgt := 1516) hx hb dL_law_450 (by decide) ?_
  exact kk σ15 H locs ls hw (lv_sub hl [2, 3, 4, 5, 6] rfl)
set_option maxHeartbeats 4000000 in
set_option maxRecDepth 100000 in
theorem lc_7 (cx : oCx p s m args c cL_law 8 RL cy D A K) (hA : ∀ q, s.heap.size ≤ q → A q) (hfl : l.stackTraces = false) (hX : va_X b N xs s s.heap) (hbl : b < s.heap.size) (hbA : ¬ A b) (hN : N ≤ 2560) (h0 : 0 ≤ i.toInt) (h5 : i.toInt + 5 ≤ (N : Int)) (hw : oI A L τ cy D s.heap σ H locs) (I : lI L τ σ x k o t w) (F : lF L τ σ x k) (hl : lv_has ls 8 [(4, .int i), (3, .ref o), (2, .ref k), (1, .ref x), (0, .ref b)]) (hf0 : cells + 0 ≤ room_1.cells ∧ slots + 0 ≤ room_1.slots) (hf1 : cells + 1 ≤ room_1.cells ∧ slots + 6 ≤ room_1.slots) (hf2 : cells + 1 + 0 ≤ room_1.cells ∧ slots + 6 + 0 ≤ room_1.slots)
    (kk : ∀ (σ1 : oSt) (H1 : Heap) (locs1 : List Loc) (ls1 : Array Slot), oI A L τ cy D s.heap σ1 H1 locs1 → lv_has ls1 8 [(4, .int i), (3, .ref o), (2, .ref k), (1, .ref x), (0, .ref b)] → W p l e room_1 s m args below meth c H1 locs1 (cells + 1) (slots + 6) Q (F0 m 1516 ls1 [])) : W p l e room_1 s m args below meth c H locs cells slots Q (F0 m 453 ls []) := by
  have hx := cx.1.1
  have hb := cx.1.2.1
  have hml := cx.1.2.2.1
  have hown := cx.1.2.2.2.1
  have hts := cx.1.2.2.2.2
  have fr : oFr τ fs_law ts_law σ σ := oFr_rf
  obtain ⟨t1, t2, t3, t4⟩ := id I.2.2.2.2.2
  have i641 : Iv (σ.1 641 k) 0 0 := o_fb (j := 641) hw I.2.1 rfl
  have i642 : Iv (σ.1 642 k) 0 0 := o_fb (j := 642) hw I.2.1 rfl
  obtain ⟨hq, b_576_385, b_585_130, b_581_330, b_581_329, b_581_331, b_580_514, b_580_515, b_577_193, f587, f588, f655, f672, f653, f650, f651, f657⟩ := id F
  have hz := hq_hz hq
  have f385 := b_576_385 t I.2.2.2.1
  have f514 := b_580_514 w I.2.2.2.2.1
  have f515 := b_580_515 w I.2.2.2.2.1
  have hw0 := hw
  refine lv_aload_n hx hb dL_law_453 rfl (lv_at hl 3 rfl) ?_
  refine lv_aload_n hx hb dL_law_454 rfl (lv_at hl 4 rfl) ?_
  refine lv_iload hx hb dL_law_455 (lv_at hl 0 rfl) ?_
  refine lv_iconst (v := 1) hx hb dL_law_457 (by decide) ?_
  refine lv_iadd hx hb dL_law_458 ?_
  refine va_sld hx hb hX hbl hbA hw.2.2.1 (lx_in h0 h5 hN (by decide)) dL_law_459 ?_
  refine lv_topi (fun v1 e1 => ?_)
  refine lv_aload_n hx hb dL_law_460 rfl (lv_at hl 4 rfl) ?_
  refine lv_iload hx hb dL_law_461 (lv_at hl 0 rfl) ?_
  refine lv_iconst (v := 2) hx hb dL_law_463 (by decide) ?_
  refine lv_iadd hx hb dL_law_464 ?_
  refine va_sld hx hb hX hbl hbA hw.2.2.1 (lx_in h0 h5 hN (by decide)) dL_law_465 ?_
  refine lv_topi (fun v2 e2 => ?_)
  refine o_ci hw (oRunV cx hA hw q_X10_set k_m_L_61 rfl I.1 (by decide) (As := [.int v1, .int v2]) (c_X10_set x I.1 v1 v2) (by decide) rfl hl.1 rfl (Nat.le_of_ble_eq_true rfl) dL_law_466 hf0) (fun v4 σ3 H locs hp hw => ?_)
  obtain ⟨p4_0, p4_1⟩ := hp
  have fr := oFr_tr fr p4_0 (by decide)
  have z5 := p4_1 w (I.2.2.2.2.1)
  refine lv_aload_n hx hb dL_law_469 rfl (lv_at hl 2 rfl) ?_
  refine lv_aload_n hx hb dL_law_470 rfl (lv_at hl 4 rfl) ?_
  refine lv_iload hx hb dL_law_471 (lv_at hl 0 rfl) ?_
  refine lv_iconst (v := 1) hx hb dL_law_473 (by decide) ?_
  refine lv_iadd hx hb dL_law_474 ?_
  refine va_sld hx hb hX hbl hbA hw.2.2.1 (lx_in h0 h5 hN (by decide)) dL_law_475 ?_
  refine lv_topi (fun v6 e6 => ?_)
  rw [show v6 = v1 from e6.trans e1.symm]
  refine lv_aload_n hx hb dL_law_476 rfl (lv_at hl 4 rfl) ?_
  refine lv_iload hx hb dL_law_477 (lv_at hl 0 rfl) ?_
  refine lv_iconst (v := 2) hx hb dL_law_479 (by decide) ?_
  refine lv_iadd hx hb dL_law_480 ?_
  refine va_sld hx hb hX hbl hbA hw.2.2.1 (lx_in h0 h5 hN (by decide)) dL_law_481 ?_
  refine lv_topi (fun v7 e7 => ?_)
  rw [show v7 = v2 from e7.trans e2.symm]
  have z8 : (σ3.1 385 t).toInt = ((σ.1 385 t) : Int32).toInt := congrArg Int32.toInt (show σ3.1 385 t = (σ.1 385 t) from ((kp_c p4_0 (by decide)).trans rfl))
  have z9 : (σ3.1 655 k).toInt = ((σ.1 655 k) : Int32).toInt := congrArg Int32.toInt (show σ3.1 655 k = (σ.1 655 k) from ((kp_c p4_0 (by decide)).trans rfl))
  have z10 : (σ3.1 650 k).toInt = ((σ.1 650 k) : Int32).toInt := congrArg Int32.toInt (show σ3.1 650 k = (σ.1 650 k) from ((kp_c p4_0 (by decide)).trans rfl))
  have z11 : (σ3.1 651 k).toInt = ((σ.1 651 k) : Int32).toInt := congrArg Int32.toInt (show σ3.1 651 k = (σ.1 651 k) from ((kp_c p4_0 (by decide)).trans rfl))
  have z12 : (σ3.1 641 k).toInt = ((σ.1 641 k) : Int32).toInt := congrArg Int32.toInt (show σ3.1 641 k = (σ.1 641 k) from ((kp_c p4_0 (by decide)).trans rfl))
  have z13 : (σ3.1 642 k).toInt = ((σ.1 642 k) : Int32).toInt := congrArg Int32.toInt (show σ3.1 642 k = (σ.1 642 k) from ((kp_c p4_0 (by decide)).trans rfl))
  have z14 : (σ3.1 650 k).toInt = ((σ.1 650 k) : Int32).toInt := congrArg Int32.toInt (show σ3.1 650 k = (σ.1 650 k) from ((kp_c p4_0 (by decide)).trans rfl))
  have z15 : (σ3.1 651 k).toInt = ((σ.1 651 k) : Int32).toInt := congrArg Int32.toInt (show σ3.1 651 k = (σ.1 651 k) from ((kp_c p4_0 (by decide)).trans rfl))
  refine o_ci hw (oRunV cx hA hw q_X11_set k_m_L_64 rfl I.2.1 (by decide) (As := [.int v1, .int v2]) (c_X11_set k I.2.1 v1 v2) (by decide) rfl hl.1 rfl (Nat.le_of_ble_eq_true rfl) dL_law_482 hf0) (fun v17 σ16 H locs hp hw => ?_)
  obtain ⟨p17_0, p17_1⟩ := hp
  have fr := oFr_tr fr p17_0 (by decide)
  have i18 : Iv (σ16.1 651 k) 1 99 := o_fb (j := 651) hw I.2.1 rfl
  refine lv_icmp_eq (tgt := 1516) hx hb dL_law_485 (by decide) (fun c19 => ?_) (fun c19 => absurd (i32_eq (by have := (f385).1; have := (f385).2; have := (f587).1; have := (f587).2; have := (f588).1; have := (f588).2; have := (f655).1; have := (f655).2; have := (f672).1; have := (f672).2; have := (f653).1; have := (f653).2; have := (f657).1; have := (f657).2; have := (i641).1; have := (i641).2; have := (i642).1; have := (i642).2; have := (i18).1; have := (i18).2; have : (σ16.1 385 t).toInt = ((σ.1 385 t) : Int32).toInt := congrArg Int32.toInt (show σ16.1 385 t = (σ.1 385 t) from ((kp_c p17_0 (by decide)).trans ((kp_c p4_0 (by decide)).trans rfl))); have : (σ16.1 587 x).toInt = ((σ.1 587 x) : Int32).toInt := congrArg Int32.toInt (show σ16.1 587 x = (σ.1 587 x) from ((kp_c p17_0 (by decide)).trans ((kp_c p4_0 (by decide)).trans rfl))); have : (σ16.1 588 x).toInt = ((σ.1 588 x) : Int32).toInt := congrArg Int32.toInt (show σ16.1 588 x = (σ.1 588 x) from ((kp_c p17_0 (by decide)).trans ((kp_c p4_0 (by decide)).trans rfl))); have : (σ16.1 655 k).toInt = ((σ.1 655 k) : Int32).toInt := congrArg Int32.toInt (show σ16.1 655 k = (σ.1 655 k) from ((kp_c p17_0 (by decide)).trans ((kp_c p4_0 (by decide)).trans rfl))); have : (σ16.1 672 k).toInt = ((σ.1 672 k) : Int32).toInt := congrArg Int32.toInt (show σ16.1 672 k = (σ.1 672 k) from ((kp_c p17_0 (by decide)).trans ((kp_c p4_0 (by decide)).trans rfl))); have : (σ16.1 653 k).toInt = ((σ.1 653 k) : Int32).toInt := congrArg Int32.toInt (show σ16.1 653 k = (σ.1 653 k) from ((kp_c p17_0 (by decide)).trans ((kp_c p4_0 (by decide)).trans rfl))); have : (σ16.1 657 k).toInt = ((σ.1 657 k) : Int32).toInt := congrArg Int32.toInt (show σ16.1 657 k = (σ.1 657 k) from ((kp_c p17_0 (by decide)).trans ((kp_c p4_0 (by decide)).trans rfl))); have : (σ16.1 641 k).toInt = ((σ.1 641 k) : Int32).toInt := congrArg Int32.toInt (show σ16.1 641 k = (σ.1 641 k) from ((kp_c p17_0 (by decide)).trans ((kp_c p4_0 (by decide)).trans rfl))); have : (σ16.1 642 k).toInt = ((σ.1 642 k) : Int32).toInt := congrArg Int32.toInt (show σ16.1 642 k = (σ.1 642 k) from ((kp_c p17_0 (by decide)).trans ((kp_c p4_0 (by decide)).trans rfl))); have : (σ16.1 514 w).toInt = ((σ3.1 514 w) : Int32).toInt := congrArg Int32.toInt (show σ16.1 514 w = (σ3.1 514 w) from ((kp_c p17_0 (by decide)).trans rfl)); have : (σ16.1 515 w).toInt = ((σ3.1 515 w) : Int32).toInt := congrArg Int32.toInt (show σ16.1 515 w = (σ3.1 515 w) from ((kp_c p17_0 (by decide)).trans rfl)); omega)) c19)
  refine W.widen (k := cells + 1) (n := slots + 6) (by omega) (by omega) ?_
  exact kk σ16 H locs ls hw (lv_sub hl [0, 1, 2, 3, 4] rfl)
end LAW
