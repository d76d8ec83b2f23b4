section LAW
variable {p : Program} {l : Launch} {e : Env} {s : State} {m : MethodId} {args : Array Value} {below : List Frame} {meth : Method} {c : Code} {H : Heap} {locs : List Loc} {cells slots : Nat} {Q : State → Prop}
variable {ls : Array Slot} {A : Nat → Prop} {L : List Nat} {τ : Nat → Nat} {cy : Nat → ClassId} {D : va_G} {K : (Nat → Nat) × (Nat → Nat)} {σ : oSt} {b N x k o t w : Nat} {xs : Nat → Int32} {i : Int32}
set_option maxHeartbeats 4000000 in
set_option maxRecDepth 100000 in
theorem lc_40 (cx : oCx p s m args c cL_law 8 RL cy D A K) (hA : ∀ q, s.heap.size ≤ q → A q) (hfl : l.stackTraces = false) (hX : va_X b N xs s s.heap) (hbl : b < s.heap.size) (hbA : ¬ A b) (hN : N ≤ 2560) (h0 : 0 ≤ i.toInt) (h5 : i.toInt + 5 ≤ (N : Int)) (hw : oI A L τ cy D s.heap σ H locs) (I : lI L τ σ x k o t w) (F : lF L τ σ x k) (hl : lv_has ls 8 [(4, .int i), (3, .ref o), (2, .ref k), (1, .ref x), (0, .ref b)]) (hf0 : cells + 0 ≤ room_1.cells ∧ slots + 0 ≤ room_1.slots) (hf1 : cells + 1 ≤ room_1.cells ∧ slots + 6 ≤ room_1.slots) (hf2 : cells + 1 + 0 ≤ room_1.cells ∧ slots + 6 + 0 ≤ room_1.slots)
    (kk : ∀ (σ1 : oSt) (H1 : Heap) (locs1 : List Loc) (ls1 : Array Slot), oI A L τ cy D s.heap σ1 H1 locs1 → lv_has ls1 8 [(4, .int i), (3, .ref o), (2, .ref k), (1, .ref x), (0, .ref b)] → W p l e room_1 s m args below meth c H1 locs1 (cells + 1) (slots + 6) Q (F0 m 1516 ls1 [])) : W p l e room_1 s m args below meth c H locs cells slots Q (F0 m 1386 ls []) := by
  have hx := cx.1.1
  have hb := cx.1.2.1
  have hml := cx.1.2.2.1
  have hown := cx.1.2.2.2.1
  have hts := cx.1.2.2.2.2
  have fr : oFr τ fs_law ts_law σ σ := oFr_rf
  obtain ⟨t1, t2, t3, t4⟩ := id I.2.2.2.2.2
  have i641 : Iv (σ.1 641 k) 0 0 := o_fb (j := 641) hw I.2.1 rfl
  have i642 : Iv (σ.1 642 k) 0 0 := o_fb (j := 642) hw I.2.1 rfl
  obtain ⟨hq, b_576_385, b_585_130, b_581_330, b_581_329, b_581_331, b_580_514, b_580_515, b_577_193, f587, f588, f655, f672, f653, f650, f651, f657⟩ := id F
  have hz := hq_hz hq
  have f385 := b_576_385 t I.2.2.2.1
  have f514 := b_580_514 w I.2.2.2.2.1
  have f515 := b_580_515 w I.2.2.2.2.1
  have hw0 := hw
  refine lv_aload_n hx hb dL_law_1386 rfl (lv_at hl 3 rfl) ?_
  refine lv_aload_n hx hb dL_law_1387 rfl (lv_at hl 4 rfl) ?_
  refine lv_iload hx hb dL_law_1388 (lv_at hl 0 rfl) ?_
  refine lv_iconst (v := 1) hx hb dL_law_1390 (by decide) ?_
  refine lv_iadd hx hb dL_law_1391 ?_
  refine va_sld hx hb hX hbl hbA hw.2.2.1 (lx_in h0 h5 hN (by decide)) dL_law_1392 ?_
  refine lv_topi (fun v1 e1 => ?_)
  refine o_ci hw (oRunV cx hA hw q_X10_keep k_m_L_195 rfl I.1 (by decide) (As := [.int v1]) (c_X10_keep x I.1 v1) (by decide) rfl hl.1 rfl (Nat.le_of_ble_eq_true rfl) dL_law_1393 hf0) (fun v3 σ2 H locs hp hw => ?_)
  obtain ⟨p3_0, p3_1, p3_2⟩ := hp
  have fr := oFr_tr fr p3_0 (by decide)
  refine lv_aload_n hx hb dL_law_1396 rfl (lv_at hl 2 rfl) ?_
  refine lv_aload_n hx hb dL_law_1397 rfl (lv_at hl 4 rfl) ?_
  refine lv_iload hx hb dL_law_1398 (lv_at hl 0 rfl) ?_
  refine lv_iconst (v := 1) hx hb dL_law_1400 (by decide) ?_
  refine lv_iadd hx hb dL_law_1401 ?_
  refine va_sld hx hb hX hbl hbA hw.2.2.1 (lx_in h0 h5 hN (by decide)) dL_law_1402 ?_
  refine lv_topi (fun v4 e4 => ?_)
  rw [show v4 = v1 from e4.trans e1.symm]
  have z5 : (σ2.1 385 t).toInt = ((σ.1 385 t) : Int32).toInt := congrArg Int32.toInt (show σ2.1 385 t = (σ.1 385 t) from ((kp_c p3_0 (by decide)).trans rfl))
  have z6 : (σ2.1 514 w).toInt = ((σ.1 514 w) : Int32).toInt := congrArg Int32.toInt (show σ2.1 514 w = (σ.1 514 w) from ((kp_c p3_0 (by decide)).trans rfl))
  have z7 : (σ2.1 515 w).toInt = ((σ.1 515 w) : Int32).toInt := congrArg Int32.toInt (show σ2.1 515 w = (σ.1 515 w) from ((kp_c p3_0 (by decide)).trans rfl))
  have z8 : (σ2.1 655 k).toInt = ((σ.1 655 k) : Int32).toInt := congrArg Int32.toInt (show σ2.1 655 k = (σ.1 655 k) from ((kp_c p3_0 (by decide)).trans rfl))
  have z9 : (σ2.1 650 k).toInt = ((σ.1 650 k) : Int32).toInt := congrArg Int32.toInt (show σ2.1 650 k = (σ.1 650 k) from ((kp_c p3_0 (by decide)).trans rfl))
  have z10 : (σ2.1 651 k).toInt = ((σ.1 651 k) : Int32).toInt := congrArg Int32.toInt (show σ2.1 651 k = (σ.1 651 k) from ((kp_c p3_0 (by decide)).trans rfl))
  have z11 : (σ2.1 641 k).toInt = ((σ.1 641 k) : Int32).toInt := congrArg Int32.toInt (show σ2.1 641 k = (σ.1 641 k) from ((kp_c p3_0 (by decide)).trans rfl))
  have z12 : (σ2.1 642 k).toInt = ((σ.1 642 k) : Int32).toInt := congrArg Int32.toInt (show σ2.1 642 k = (σ.1 642 k) from ((kp_c p3_0 (by decide)).trans rfl))
  refine o_ci hw (oRunV cx hA hw q_X11_keep k_m_L_198 rfl I.2.1 (by decide) (As := [.int v1]) (c_X11_keep k I.2.1 v1) (by decide) rfl hl.1 rfl (Nat.le_of_ble_eq_true rfl) dL_law_1403 hf0) (fun v14 σ13 H locs hp hw => ?_)
  obtain ⟨p14_0, p14_1, p14_2⟩ := hp
  have fr := oFr_tr fr p14_0 (by decide)
  refine lv_icmp_eq (tgt := 1516) hx hb dL_law_1406 (by decide) (fun c15 => ?_) (fun c15 => absurd (i32_eq (by have := (f385).1; have := (f385).2; have := (f514).1; have := (f514).2; have := (f515).1; have := (f515).2; have := (f588).1; have := (f588).2; have := (f655).1; have := (f655).2; have := (f672).1; have := (f672).2; have := (f653).1; have := (f653).2; have := (f650).1; have := (f650).2; have := (f651).1; have := (f651).2; have := (f657).1; have := (f657).2; have := (i641).1; have := (i641).2; have := (i642).1; have := (i642).2; have := (p3_1).1; have := (p3_1).2; have := (p14_1).1; have := (p14_1).2; have : (σ13.1 385 t).toInt = ((σ.1 385 t) : Int32).toInt := congrArg Int32.toInt (show σ13.1 385 t = (σ.1 385 t) from ((kp_c p14_0 (by decide)).trans ((kp_c p3_0 (by decide)).trans rfl))); have : (σ13.1 514 w).toInt = ((σ.1 514 w) : Int32).toInt := congrArg Int32.toInt (show σ13.1 514 w = (σ.1 514 w) from ((kp_c p14_0 (by decide)).trans ((kp_c p3_0 (by decide)).trans rfl))); have : (σ13.1 515 w).toInt = ((σ.1 515 w) : Int32).toInt := congrArg Int32.toInt (show σ13.1 515 w = (σ.1 515 w) from ((kp_c p14_0 (by decide)).trans ((kp_c p3_0 (by decide)).trans rfl))); have : (σ13.1 588 x).toInt = ((σ.1 588 x) : Int32).toInt := congrArg Int32.toInt (show σ13.1 588 x = (σ.1 588 x) from ((kp_c p14_0 (by decide)).trans ((kp_c p3_0 (by decide)).trans rfl))); have : (σ13.1 655 k).toInt = ((σ.1 655 k) : Int32).toInt := congrArg Int32.toInt (show σ13.1 655 k = (σ.1 655 k) from ((kp_c p14_0 (by decide)).trans ((kp_c p3_0 (by decide)).trans rfl))); have : (σ13.1 672 k).toInt = ((σ.1 672 k) : Int32).toInt := congrArg Int32.toInt (show σ13.1 672 k = (σ.1 672 k) from ((kp_c p14_0 (by decide)).trans ((kp_c p3_0 (by decide)).trans rfl))); have : (σ13.1 653 k).toInt = ((σ.1 653 k) : Int32).toInt := congrArg Int32.toInt (show σ13.1 653 k = (σ.1 653 k) from ((kp_c p14_0 (by decide)).trans ((kp_c p3_0 (by decide)).trans rfl))); have : (σ13.1 650 k).toInt = ((σ.1 650 k) : Int32).toInt := congrArg Int32.toInt (show σ13.1 650 k = (σ.1 650 k) from ((kp_c p14_0 (by decide)).trans ((kp_c p3_0 (by decide)).trans rfl))); have : (σ13.1 651 k).toInt = ((σ.1 651 k) : Int32).toInt := congrArg Int32.toInt (show σ13.1 651 k = (σ.1 651 k) from ((kp_c p14_0 (by decide)).trans ((kp_c p3_0 (by decide)).trans rfl))); have : (σ13.1 657 k).toInt = ((σ.1 657 k) : Int32).toInt := congrArg Int32.toInt (show σ13.1 657 k = (σ.1 657 k) from ((kp_c p14_0 (by decide)).trans ((kp_c p3_0 (by decide)).trans rfl))); have : (σ13.1 641 k).toInt = ((σ.1 641 k) : Int32).toInt := congrArg Int32.toInt (show σ13.1 641 k = (σ.1 641 k) from ((kp_c p14_0 (by decide)).trans ((kp_c p3_0 (by decide)).trans rfl))); have : (σ13.1 642 k).toInt = ((σ.1 642 k) : Int32).toInt := congrArg Int32.toInt (show σ13.1 642 k = (σ.1 642 k) from ((kp_c p14_0 (by decide)).trans ((kp_c p3_0 (by decide)).trans rfl))); omega)) c15)
  refine W.widen (k := cells + 1) (n := slots + 6) (by omega) (by omega) ?_
  exact kk σ13 H locs ls hw (lv_sub hl [0, 1, 2, 3, 4] rfl)
set_option maxHeartbeats 4000000 in
set_option maxRecDepth 100000 in
theorem lc_41 (cx : oCx p s m args c cL_law 8 RL cy D A K) (hA : ∀ q, s.heap.size ≤ q → A q) (hfl : l.stackTraces = false) (hX : va_X b N xs s s.heap) (hbl : b < s.heap.size) (hbA : ¬ A b) (hN : N ≤ 2560) (h0 : 0 ≤ i.toInt) (h5 : i.toInt + 5 ≤ (N : Int)) (hw : oI A L τ cy D s.heap σ H locs) (I : lI L τ σ x k o t w) (F : lF L τ σ x k) (hl : lv_has ls 8 [(4, .int i), (3, .ref o), (2, .ref k), (1, .ref x), (0, .ref b)]) (hf0 : cells + 0 ≤ room_1.cells ∧ slots + 0 ≤ room_1.slots) (hf1 : cells + 1 ≤ room_1.cells ∧ slots + 6 ≤ room_1.slots) (hf2 : cells + 1 + 0 ≤ room_1.cells ∧ slots + 6 + 0 ≤ room_1.slots)
    (kk : ∀ (σ1 : oSt) (H1 : Heap) (locs1 : List Loc) (ls1 : Array Slot), oI A L τ cy D s.heap σ1 H1 locs1 → lv_has ls1 8 [(4, .int i), (3, .ref o), (2, .ref k), (1, .ref x), (0, .ref b)] → W p l e room_1 s m args below meth c H1 locs1 (cells + 1) (slots + 6) Q (F0 m 1516 ls1 [])) : W p l e room_1 s m args below meth c H locs cells slots Q (F0 m 1411 ls []) := by
  have hx := cx.1.1
  have hb := cx.1.2.1
  have hml := cx.1.2.2.1
  have hown := cx.1.2.2.2.1
  have hts := cx.1.2.2.2.2
  have fr : oFr τ fs_law ts_law σ σ := oFr_rf
  obtain ⟨t1, t2, t3, t4⟩ := id I.2.2.2.2.2
  have i641 : Iv (σ.1 641 k) 0 0 := o_fb (j := 641) hw I.2.1 rfl
  have i642 : Iv (σ.1 642 k) 0 0 := o_fb (j := 642) hw I.2.1 rfl
  obtain ⟨hq, b_576_385, b_585_130, b_581_330, b_581_329, b_581_331, b_580_514, b_580_515, b_577_193, f587, f588, f655, f672, f653, f650, f651, f657⟩ := id F
  have hz := hq_hz hq
  have f385 := b_576_385 t I.2.2.2.1
  have f514 := b_580_514 w I.2.2.2.2.1
  have f515 := b_580_515 w I.2.2.2.2.1
  have hw0 := hw
  refine lv_aload_n hx hb dL_law_1411 rfl (lv_at hl 3 rfl) ?_
  refine lv_aload_n hx hb dL_law_1412 rfl (lv_at hl 4 rfl) ?_
  refine lv_iload hx hb dL_law_1413 (lv_at hl 0 rfl) ?_
  refine lv_iconst (v := 1) hx hb dL_law_1415 (by decide) ?_
  refine lv_iadd hx hb dL_law_1416 ?_
  refine va_sld hx hb hX hbl hbA hw.2.2.1 (lx_in h0 h5 hN (by decide)) dL_law_1417 ?_
  refine lv_topi (fun v1 e1 => ?_)
  refine o_ci hw (oRunV cx hA hw q_X10_again k_m_L_199 rfl I.1 (by decide) (As := [.int v1]) (c_X10_again x I.1 v1 (kn_iv (rfl) (iv_w f587 (by decide)))) (by decide) rfl hl.1 rfl (Nat.le_of_ble_eq_true rfl) dL_law_1418 hf0) (fun v3 σ2 H locs hp hw => ?_)
  obtain ⟨p3_0, p3_1⟩ := hp
  rw [p3_0] at hw
  refine lv_aload_n hx hb dL_law_1421 rfl (lv_at hl 2 rfl) ?_
  refine lv_aload_n hx hb dL_law_1422 rfl (lv_at hl 4 rfl) ?_
  refine lv_iload hx hb dL_law_1423 (lv_at hl 0 rfl) ?_
  refine lv_iconst (v := 1) hx hb dL_law_1425 (by decide) ?_
  refine lv_iadd hx hb dL_law_1426 ?_
  refine va_sld hx hb hX hbl hbA hw.2.2.1 (lx_in h0 h5 hN (by decide)) dL_law_1427 ?_
  refine lv_topi (fun v4 e4 => ?_)
  rw [show v4 = v1 from e4.trans e1.symm]
  refine o_ci hw (oRunV cx hA hw q_X11_again k_m_L_202 rfl I.2.1 (by decide) (As := [.int v1]) (c_X11_again k I.2.1 v1 (fun b9 q9 i9 _ => hq_row hq (show oFr τ [] [] σ σ from oFr_rf) hw I.2.1 (j := 683) (t := 60) rfl (by decide) (by decide) b9 q9 i9)) (by decide) rfl hl.1 rfl (Nat.le_of_ble_eq_true rfl) dL_law_1428 hf0) (fun v6 σ5 H locs hp hw => ?_)
  obtain ⟨p6_0, p6_1⟩ := hp
  have fr := oFr_tr fr p6_0 (by decide)
  refine lv_icmp_eq (tgt := 1516) hx hb dL_law_1431 (by decide) (fun c7 => ?_) (fun c7 => absurd (i32_eq (by have := (f385).1; have := (f385).2; have := (f514).1; have := (f514).2; have := (f515).1; have := (f515).2; have := (f587).1; have := (f587).2; have := (f588).1; have := (f588).2; have := (f655).1; have := (f655).2; have := (f672).1; have := (f672).2; have := (f653).1; have := (f653).2; have := (f650).1; have := (f650).2; have := (f651).1; have := (f651).2; have := (f657).1; have := (f657).2; have := (i641).1; have := (i641).2; have := (i642).1; have := (i642).2; have := (p3_1).1; have := (p3_1).2; have := (p6_1).1; have := (p6_1).2; have : (σ5.1 385 t).toInt = ((σ.1 385 t) : Int32).toInt := congrArg Int32.toInt (show σ5.1 385 t = (σ.1 385 t) from ((kp_c p6_0 (by decide)).trans rfl)); have : (σ5.1 514 w).toInt = ((σ.1 514 w) : Int32).toInt := congrArg Int32.toInt (show σ5.1 514 w = (σ.1 514 w) from ((kp_c p6_0 (by decide)).trans rfl)); have : (σ5.1 515 w).toInt = ((σ.1 515 w) : Int32).toInt := congrArg Int32.toInt (show σ5.1 515 w = (σ.1 515 w) from ((kp_c p6_0 (by decide)).trans rfl)); have : (σ5.1 587 x).toInt = ((σ.1 587 x) : Int32).toInt := congrArg Int32.toInt (show σ5.1 587 x = (σ.1 587 x) from ((kp_c p6_0 (by decide)).trans rfl)); have : (σ5.1 588 x).toInt = ((σ.1 588 x) : Int32).toInt := congrArg Int32.toInt (show σ5.1 588 x = (σ.1 588 x) from ((kp_c p6_0 (by decide)).trans rfl)); have : (σ5.1 655 k).toInt = ((σ.1 655 k) : Int32).toInt := congrArg Int32.toInt (show σ5.1 655 k = (σ.1 655 k) from ((kp_c p6_0 (by decide)).trans rfl)); have : (σ5.1 672 k).toInt = ((σ.1 672 k) : Int32).toInt := congrArg Int32.toInt (show σ5.1 672 k = (σ.1 672 k) from ((kp_c p6_0 (by decide)).trans rfl)); have : (σ5.1 653 k).toInt = ((σ.1 653 k) : Int32).toInt := congrArg Int32.toInt (show σ5.1 653 k = (σ.1 653 k) from ((kp_c p6_0 (by decide)).trans rfl)); have : (σ5.1 650 k).toInt = ((σ.1 650 k) : Int32).toInt := congrArg Int32.toInt (show σ5.1 650 k = (σ.1 650 k) from ((kp_c p6_0 (by decide)).trans rfl)); have : (σ5.1 651 k).toInt = ((σ.1 651 k) : Int32).toInt := congrArg Int32.toInt (show σ5.1 651 k = (σ.1 651 k) from ((kp_c p6_0 (by decide)).trans rfl)); have : (σ5.1 657 k).toInt = ((σ.1 657 k) : Int32).toInt := congrArg Int32.toInt (show σ5.1 657 k = (σ.1 657 k) from ((kp_c p6_0 (by decide)).trans rfl)); have : (σ5.1 641 k).toInt = ((σ.1 641 k) : Int32).toInt := congrArg Int32.toInt (show σ5.1 641 k = (σ.1 641 k) from ((kp_c p6_0 (by decide)).trans rfl)); have : (σ5.1 642 k).toInt = ((σ.1 642 k) : Int32).toInt := congrArg Int32.toInt (show σ5.1 642 k = (σ.1 642 k) from ((kp_c p6_0 (by decide)).trans rfl)); omega)) c7)
  refine W.widen (k := cells + 1) (n := slots + 6) (by omega) (by omega) ?_
  exact kk σ5 H locs ls hw (lv_sub hl [0, 1, 2, 3, 4] rfl)
set_option maxHeartbeats 4000000 in
set_option maxRecDepth 100000 in
theorem lc_42 (cx : oCx p s m args c cL_law 8 RL cy D A K) (hA : ∀ q, s.heap.size ≤ q → A q) (hfl : l.stackTraces = false) (hX : va_X b N xs s s.heap) (hbl : b < s.heap.size) (hbA : ¬ A b) (hN : N ≤ 2560) (h0 : 0 ≤ i.toInt) (h5 : i.toInt + 5 ≤ (N : Int)) (hw : oI A L τ cy D s.heap σ H locs) (I : lI L τ σ x k o t w) (F : lF L τ σ x k) (hl : lv_has ls 8 [(4, .int i), (3, .ref o), (2, .ref k), (1, .ref x), (0, .ref b)]) (hf0 : cells + 0 ≤ room_1.cells ∧ slots + 0 ≤ room_1.slots) (hf1 : cells + 1 ≤ room_1.cells ∧ slots + 6 ≤ room_1.slots) (hf2 : cells + 1 + 0 ≤ room_1.cells ∧ slots + 6 + 0 ≤ room_1.slots)
    (kk : ∀ (σ1 : oSt) (H1 : Heap) (locs1 : List Loc) (ls1 : Array Slot), oI A L τ cy D s.heap σ1 H1 locs1 → lv_has ls1 8 [(4, .int i), (3, .ref o), (2, .ref k), (1, .ref x), (0, .ref b)] → W p l e room_1 s m args below meth c H1 locs1 (cells + 1) (slots + 6) Q (F0 m 1516 ls1 [])) : W p l e room_1 s m args below meth c H locs cells slots Q (F0 m 1436 ls []) := by
  have hx := cx.1.1
  have hb := cx.1.2.1
  have hml := cx.1.2.2.1
  have hown := cx.1.2.2.2.1
  have hts := cx.1.2.2.2.2
  have fr : oFr τ fs_law ts_law σ σ := oFr_rf
  obtain ⟨t1, t2, t3, t4⟩ := id I.2.2.2.2.2
  have i641 : Iv (σ.1 641 k) 0 0 := o_fb (j := 641) hw I.2.1 rfl
  have i642 : Iv (σ.1 642 k) 0 0 := o_fb (j := 642) hw I.2.1 rfl
  obtain ⟨hq, b_576_385, b_585_130, b_581_330, b_581_329, b_581_331, b_580_514, b_580_515, b_577_193, f587, f588, f655, f672, f653, f650, f651, f657⟩ := id F
  have hz := hq_hz hq
  have f385 := b_576_385 t I.2.2.2.1
  have f514 := b_580_514 w I.2.2.2.2.1
  have f515 := b_580_515 w I.2.2.2.2.1
  have hw0 := hw
  refine lv_aload_n hx hb dL_law_1436 rfl (lv_at hl 3 rfl) ?_
  refine lv_aload_n hx hb dL_law_1437 rfl (lv_at hl 4 rfl) ?_
  refine lv_iload hx hb dL_law_1438 (lv_at hl 0 rfl) ?_
  refine lv_iconst (v := 1) hx hb dL_law_1440 (by decide) ?_
  refine lv_iadd hx hb dL_law_1441 ?_
  refine va_sld hx hb hX hbl hbA hw.2.2.1 (lx_in h0 h5 hN (by decide)) dL_law_1442 ?_
  refine lv_topi (fun v1 e1 => ?_)
  refine o_ci hw (oRunV cx hA hw q_X10_count k_m_L_203 rfl I.1 (by decide) (As := [.int v1]) (c_X10_count x I.1 v1 (fun p9 q9 b9 w9 i9 _ => by obtain ⟨p8, e8, h8⟩ := hw.2.2.2.2.2 581 x 5 (by rw [I.1.2]; rfl) I.1.1; have z8 : p9 = p8 := Option.some.inj (q9.symm.trans e8); rw [← z8] at h8; exact hq_row hq (show oFr τ [] [] σ σ from oFr_rf) hw h8 (j := 320) (t := 32) rfl (by decide) (by decide) b9 w9 i9) b_581_330 b_581_329 b_581_331 b_580_514 b_580_515 b_585_130 b_577_193 b_576_385) (by decide) rfl hl.1 rfl (Nat.le_of_ble_eq_true rfl) dL_law_1443 hf0) (fun v3 σ2 H locs hp hw => ?_)
  obtain ⟨p3_0, p3_1, p3_2⟩ := hp
  rw [p3_0] at hw
  refine lv_aload_n hx hb dL_law_1446 rfl (lv_at hl 2 rfl) ?_
  refine lv_aload_n hx hb dL_law_1447 rfl (lv_at hl 4 rfl) ?_
  refine lv_iload hx hb dL_law_1448 (lv_at hl 0 rfl) ?_
  refine lv_iconst (v := 1) hx hb dL_law_1450 (by decide) ?_
  refine lv_iadd hx hb dL_law_1451 ?_
  refine va_sld hx hb hX hbl hbA hw.2.2.1 (lx_in h0 h5 hN (by decide)) dL_law_1452 ?_
  refine lv_topi (fun v4 e4 => ?_)
  rw [show v4 = v1 from e4.trans e1.symm]
  refine o_ci hw (oRunV cx hA hw q_X11_count k_m_L_206 rfl I.2.1 (by decide) (As := [.int v1]) (c_X11_count k I.2.1 v1 (fun b9 q9 i9 _ => hq_row hq (show oFr τ [] [] σ σ from oFr_rf) hw I.2.1 (j := 640) (t := 48) rfl (by decide) (by decide) b9 q9 i9) (kn_iv (rfl) (iv_w f650 (by decide))) (kn_iv (rfl) (iv_w f651 (by decide))) (kn_iv (rfl) (iv_w f672 (by decide))) (kn_iv (rfl) (iv_w f657 (by decide))) (kn_iv (rfl) (iv_w f655 (by decide)))) (by decide) rfl hl.1 rfl (Nat.le_of_ble_eq_true rfl) dL_law_1453 hf0) (fun v6 σ5 H locs hp hw => ?_)
  obtain ⟨p6_0, p6_1, p6_2⟩ := hp
  have fr := oFr_tr fr p6_0 (by decide)
  refine lv_icmp_eq (tgt := 1516) hx hb dL_law_1456 (by decide) (fun c7 => ?_) (fun c7 => absurd (i32_eq (by have := (f385).1; have := (f385).2; have := (f514).1; have := (f514).2; have := (f515).1; have := (f515).2; have := (f587).1; have := (f587).2; have := (f588).1; have := (f588).2; have := (f655).1; have := (f655).2; have := (f672).1; have := (f672).2; have := (f653).1; have := (f653).2; have := (f650).1; have := (f650).2; have := (f651).1; have := (f651).2; have := (f657).1; have := (f657).2; have := (i641).1; have := (i641).2; have := (i642).1; have := (i642).2; have := (p3_1).1; have := (p3_1).2; have := (p6_1).1; have := (p6_1).2; have : (σ5.1 385 t).toInt = ((σ.1 385 t) : Int32).toInt := congrArg Int32.toInt (show σ5.1 385 t = (σ.1 385 t) from ((kp_c p6_0 (by decide)).trans rfl)); have : (σ5.1 514 w).toInt = ((σ.1 514 w) : Int32).toInt := congrArg Int32.toInt (show σ5.1 514 w = (σ.1 514 w) from ((kp_c p6_0 (by decide)).trans rfl)); have : (σ5.1 515 w).toInt = ((σ.1 515 w) : Int32).toInt := congrArg Int32.toInt (show σ5.1 515 w = (σ.1 515 w) from ((kp_c p6_0 (by decide)).trans rfl)); have : (σ5.1 587 x).toInt = ((σ.1 587 x) : Int32).toInt := congrArg Int32.toInt (show σ5.1 587 x = (σ.1 587 x) from ((kp_c p6_0 (by decide)).trans rfl)); have : (σ5.1 588 x).toInt = ((σ.1 588 x) : Int32).toInt := congrArg Int32.toInt (show σ5.1 588 x = (σ.1 588 x) from ((kp_c p6_0 (by decide)).trans rfl)); have : (σ5.1 655 k).toInt = ((σ.1 655 k) : Int32).toInt := congrArg Int32.toInt (show σ5.1 655 k = (σ.1 655 k) from ((kp_c p6_0 (by decide)).trans rfl)); have : (σ5.1 672 k).toInt = ((σ.1 672 k) : Int32).toInt := congrArg Int32.toInt (show σ5.1 672 k = (σ.1 672 k) from ((kp_c p6_0 (by decide)).trans rfl)); have : (σ5.1 653 k).toInt = ((σ.1 653 k) : Int32).toInt := congrArg Int32.toInt (show σ5.1 653 k = (σ.1 653 k) from ((kp_c p6_0 (by decide)).trans rfl)); have : (σ5.1 650 k).toInt = ((σ.1 650 k) : Int32).toInt := congrArg Int32.toInt (show σ5.1 650 k = (σ.1 650 k) from ((kp_c p6_0 (by decide)).trans rfl)); have : (σ5.1 651 k).toInt = ((σ.1 651 k) : Int32).toInt := congrArg Int32.toInt (show σ5.1 651 k = (σ.1 651 k) from ((kp_c p6_0 (by decide)).trans rfl)); have : (σ5.1 657 k).toInt = ((σ.1 657 k) : Int32).toInt := congrArg Int32.toInt (show σ5.1 657 k = (σ.1 657 k) from ((kp_c p6_0 (by decide)).trans rfl)); have : (σ5.1 641 k).toInt = ((σ.1 641 k) : Int32).toInt := congrArg Int32.toInt (show σ5.1 641 k = (σ.1 641 k) from ((kp_c p6_0 (by decide)).trans rfl)); have : (σ5.1 642 k).toInt = ((σ.1 642 k) : Int32).toInt := congrArg Int32.toInt (show σ5.1 642 k = (σ.1 642 k) from ((kp_c p6_0 (by decide)).trans rfl)); omega)) c7)
  refine W.widen (k := cells + 1) (n := slots + 6) (by omega) (by omega) ?_
  exact kk σ5 H locs ls hw (lv_sub hl [0, 1, 2, 3, 4] rfl)
set_option maxHeartbeats 4000000 in
set_option maxRecDepth 100000 in
theorem lc_43 (cx : oCx p s m args c cL_law 8 RL cy D A K) (hA : ∀ q, s.heap.size ≤ q → A q) (hfl : l.stackTraces = false) (hX : va_X b N xs s s.heap) (hbl : b < s.heap.size) (hbA : ¬ A b) (hN : N ≤ 2560) (h0 : 0 ≤ i.toInt) (h5 : i.toInt + 5 ≤ (N : Int)) (hw : oI A L τ cy D s.heap σ H locs) (I : lI L τ σ x k o t w) (F : lF L τ σ x k) (hl : lv_has ls 8 [(4, .int i), (3, .ref o), (2, .ref k), (1, .ref x), (0, .ref b)]) (hf0 : cells + 0 ≤ room_1.cells ∧ slots + 0 ≤ room_1.slots) (hf1 : cells + 1 ≤ room_1.cells ∧ slots + 6 ≤ room_1.slots) (hf2 : cells + 1 + 0 ≤ room_1.cells ∧ slots + 6 + 0 ≤ room_1.slots)
    (kk : ∀ (σ1 : oSt) (H1 : Heap) (locs1 : List Loc) (ls1 : Array Slot), oI A L τ cy D s.heap σ1 H1 locs1 → lv_has ls1 8 [(4, .int i), (3, .ref o), (2, .ref k), (1, .ref x), (0, .ref b)] → W p l e room_1 s m args below meth c H1 locs1 (cells + 1) (slots + 6) Q (F0 m 1516 ls1 [])) : W p l e room_1 s m args below meth c H locs cells slots Q (F0 m 1461 ls []) := by
  have hx := cx.1.1
  have hb := cx.1.2.1
  have hml := cx.1.2.2.1
  have hown := cx.1.2.2.2.1
  have hts := cx.1.2.2.2.2
  have fr : oFr τ fs_law ts_law σ σ := oFr_rf
  obtain ⟨t1, t2, t3, t4⟩ := id I.2.2.2.2.2
  have i641 : Iv (σ.1 641 k) 0 0 := o_fb (j := 641) hw I.2.1 rfl
  have i642 : Iv (σ.1 642 k) 0 0 := o_fb (j := 642) hw I.2.1 rfl
  obtain ⟨hq, b_576_385, b_585_130, b_581_330, b_581_329, b_581_331, b_580_514, b_580_515, b_577_193, f587, f588, f655, f672, f653, f650, f651, f657⟩ := id F
  have hz := hq_hz hq
  have f385 := b_576_385 t I.2.2.2.1
  have f514 := b_580_514 w I.2.2.2.2.1
  have f515 := b_580_515 w I.2.2.2.2.1
  have hw0 := hw
  refine lv_aload_n hx hb dL_law_1461 rfl (lv_at hl 3 rfl) ?_
  refine lv_aload_n hx hb dL_law_1462 rfl (lv_at hl 4 rfl) ?_
  refine lv_iload hx hb dL_law_1463 (lv_at hl 0 rfl) ?_
  refine lv_iconst (v := 1) hx hb dL_law_1465 (by decide) ?_
  refine lv_iadd hx hb dL_law_1466 ?_
  refine va_sld hx hb hX hbl hbA hw.2.2.1 (lx_in h0 h5 hN (by decide)) dL_law_1467 ?_
  refine lv_topi (fun v1 e1 => ?_)
  refine lv_aload_n hx hb dL_law_1468 rfl (lv_at hl 1 rfl) ?_
  refine o_cih hw (oRunH cx hA hw qh_L_row k_m_L_207 (As := [.ref x, .int v1, .ref o]) (c_L_row hfl x I.1 v1 o I.2.2.1 b_577_193) (by decide) rfl hl.1 rfl (Nat.le_of_ble_eq_true rfl) dL_law_1469 hf1) (fun v3 σ2 H locs hp hw => ?_)
  obtain ⟨p3_0, p3_1⟩ := hp
  have fr := oFr_tr fr p3_0 (by decide)
  refine lv_istore (lv' := [(5, .int v3), (4, .int i), (3, .ref o), (2, .ref k), (1, .ref x), (0, .ref b)]) hx hb dL_law_1472 hl (by decide) rfl (fun ls hl => ?_)
  refine lv_aload_n hx hb dL_law_1474 rfl (lv_at hl 3 rfl) ?_
  refine lv_aload_n hx hb dL_law_1475 rfl (lv_at hl 5 rfl) ?_
  refine lv_iload hx hb dL_law_1476 (lv_at hl 1 rfl) ?_
  refine lv_iconst (v := 1) hx hb dL_law_1478 (by decide) ?_
  refine lv_iadd hx hb dL_law_1479 ?_
  refine va_sld hx hb hX hbl hbA hw.2.2.1 (lx_in h0 h5 hN (by decide)) dL_law_1480 ?_
  refine lv_topi (fun v4 e4 => ?_)
  rw [show v4 = v1 from e4.trans e1.symm]
  have z5 : (σ2.1 385 t).toInt = ((σ.1 385 t) : Int32).toInt := congrArg Int32.toInt (show σ2.1 385 t = (σ.1 385 t) from ((kp_c p3_0 (by decide)).trans rfl))
  have z6 : (σ2.1 514 w).toInt = ((σ.1 514 w) : Int32).toInt := congrArg Int32.toInt (show σ2.1 514 w = (σ.1 514 w) from ((kp_c p3_0 (by decide)).trans rfl))
  have z7 : (σ2.1 515 w).toInt = ((σ.1 515 w) : Int32).toInt := congrArg Int32.toInt (show σ2.1 515 w = (σ.1 515 w) from ((kp_c p3_0 (by decide)).trans rfl))
  have z8 : (σ2.1 655 k).toInt = ((σ.1 655 k) : Int32).toInt := congrArg Int32.toInt (show σ2.1 655 k = (σ.1 655 k) from ((kp_c p3_0 (by decide)).trans rfl))
  have z9 : (σ2.1 650 k).toInt = ((σ.1 650 k) : Int32).toInt := congrArg Int32.toInt (show σ2.1 650 k = (σ.1 650 k) from ((kp_c p3_0 (by decide)).trans rfl))
  have z10 : (σ2.1 651 k).toInt = ((σ.1 651 k) : Int32).toInt := congrArg Int32.toInt (show σ2.1 651 k = (σ.1 651 k) from ((kp_c p3_0 (by decide)).trans rfl))
  have z11 : (σ2.1 641 k).toInt = ((σ.1 641 k) : Int32).toInt := congrArg Int32.toInt (show σ2.1 641 k = (σ.1 641 k) from ((kp_c p3_0 (by decide)).trans rfl))
  have z12 : (σ2.1 642 k).toInt = ((σ.1 642 k) : Int32).toInt := congrArg Int32.toInt (show σ2.1 642 k = (σ.1 642 k) from ((kp_c p3_0 (by decide)).trans rfl))
  refine o_cl hw (oRunV cx hA hw q_X11_row k_m_L_210 rfl I.2.1 (by decide) (As := [.int v1]) (c_X11_row k I.2.1 v1 (kn_iv (((kp_c p3_0 (by decide)).trans rfl)) (iv_w f657 (by decide)))) (by decide) rfl hl.1 rfl (Nat.le_of_ble_eq_true rfl) dL_law_1481 hf2) (fun v14 σ13 H locs hp hw => ?_)
  obtain ⟨p14_0, p14_1⟩ := hp
  have fr := oFr_tr fr p14_0 (by decide)
  refine lv_lstore (lv' := [(6, .long v14), (5, .int v3), (4, .int i), (3, .ref o), (2, .ref k), (1, .ref x), (0, .ref b)]) hx hb dL_law_1484 hl (by decide) rfl (fun ls hl => ?_)
  refine lv_aload_n hx hb dL_law_1486 rfl (lv_at hl 4 rfl) ?_
  have z15 : (σ13.1 385 t).toInt = ((σ.1 385 t) : Int32).toInt := congrArg Int32.toInt (show σ13.1 385 t = (σ.1 385 t) from ((kp_c p14_0 (by decide)).trans ((kp_c p3_0 (by decide)).trans rfl)))
  have z16 : (σ13.1 514 w).toInt = ((σ.1 514 w) : Int32).toInt := congrArg Int32.toInt (show σ13.1 514 w = (σ.1 514 w) from ((kp_c p14_0 (by decide)).trans ((kp_c p3_0 (by decide)).trans rfl)))
  have z17 : (σ13.1 515 w).toInt = ((σ.1 515 w) : Int32).toInt := congrArg Int32.toInt (show σ13.1 515 w = (σ.1 515 w) from ((kp_c p14_0 (by decide)).trans ((kp_c p3_0 (by decide)).trans rfl)))
  have z18 : (σ13.1 655 k).toInt = ((σ.1 655 k) : Int32).toInt := congrArg Int32.toInt (show σ13.1 655 k = (σ.1 655 k) from ((kp_c p14_0 (by decide)).trans ((kp_c p3_0 (by decide)).trans rfl)))
  have z19 : (σ13.1 650 k).toInt = ((σ.1 650 k) : Int32).toInt := congrArg Int32.toInt (show σ13.1 650 k = (σ.1 650 k) from ((kp_c p14_0 (by decide)).trans ((kp_c p3_0 (by decide)).trans rfl)))
  have z20 : (σ13.1 651 k).toInt = ((σ.1 651 k) : Int32).toInt := congrArg Int32.toInt (show σ13.1 651 k = (σ.1 651 k) from ((kp_c p14_0 (by decide)).trans ((kp_c p3_0 (by decide)).trans rfl)))
  have z21 : (σ13.1 641 k).toInt = ((σ.1 641 k) : Int32).toInt := congrArg Int32.toInt (show σ13.1 641 k = (σ.1 641 k) from ((kp_c p14_0 (by decide)).trans ((kp_c p3_0 (by decide)).trans rfl)))
  have z22 : (σ13.1 642 k).toInt = ((σ.1 642 k) : Int32).toInt := congrArg Int32.toInt (show σ13.1 642 k = (σ.1 642 k) from ((kp_c p14_0 (by decide)).trans ((kp_c p3_0 (by decide)).trans rfl)))
  refine o_ci hw (oRunV cx hA hw q_X11_thrown k_m_L_55 rfl I.2.1 (by decide) (As := []) (c_X11_thrown k I.2.1) (by decide) rfl hl.1 rfl (Nat.le_of_ble_eq_true rfl) dL_law_1487 hf2) (fun v24 σ23 H locs hp hw => ?_)
  obtain ⟨p24_0, p24_1⟩ := hp
  rw [p24_0] at hw
  have z25 := congrArg Int32.toInt p24_1
  have i26 : Iv v24 1 1 := (by have := (p3_1).1; have := (p3_1).2; have := (f385).1; have := (f385).2; have := (f514).1; have := (f514).2; have := (f515).1; have := (f515).2; have := (f587).1; have := (f587).2; have := (f588).1; have := (f588).2; have := (f655).1; have := (f655).2; have := (f672).1; have := (f672).2; have := (f653).1; have := (f653).2; have := (f650).1; have := (f650).2; have := (f651).1; have := (f651).2; have := (f657).1; have := (f657).2; have := (i641).1; have := (i641).2; have := (i642).1; have := (i642).2; have := (p14_1).1; have := (p14_1).2; have : (σ13.1 385 t).toInt = ((σ.1 385 t) : Int32).toInt := congrArg Int32.toInt (show σ13.1 385 t = (σ.1 385 t) from ((kp_c p14_0 (by decide)).trans ((kp_c p3_0 (by decide)).trans rfl))); have : (σ13.1 514 w).toInt = ((σ.1 514 w) : Int32).toInt := congrArg Int32.toInt (show σ13.1 514 w = (σ.1 514 w) from ((kp_c p14_0 (by decide)).trans ((kp_c p3_0 (by decide)).trans rfl))); have : (σ13.1 515 w).toInt = ((σ.1 515 w) : Int32).toInt := congrArg Int32.toInt (show σ13.1 515 w = (σ.1 515 w) from ((kp_c p14_0 (by decide)).trans ((kp_c p3_0 (by decide)).trans rfl))); have : (σ13.1 587 x).toInt = ((σ.1 587 x) : Int32).toInt := congrArg Int32.toInt (show σ13.1 587 x = (σ.1 587 x) from ((kp_c p14_0 (by decide)).trans ((kp_c p3_0 (by decide)).trans rfl))); have : (σ13.1 588 x).toInt = ((σ.1 588 x) : Int32).toInt := congrArg Int32.toInt (show σ13.1 588 x = (σ.1 588 x) from ((kp_c p14_0 (by decide)).trans ((kp_c p3_0 (by decide)).trans rfl))); have : (σ13.1 655 k).toInt = ((σ.1 655 k) : Int32).toInt := congrArg Int32.toInt (show σ13.1 655 k = (σ.1 655 k) from ((kp_c p14_0 (by decide)).trans ((kp_c p3_0 (by decide)).trans rfl))); have : (σ13.1 672 k).toInt = ((σ.1 672 k) : Int32).toInt := congrArg Int32.toInt (show σ13.1 672 k = (σ.1 672 k) from ((kp_c p14_0 (by decide)).trans ((kp_c p3_0 (by decide)).trans rfl))); have : (σ13.1 653 k).toInt = ((σ.1 653 k) : Int32).toInt := congrArg Int32.toInt (show σ13.1 653 k = (σ.1 653 k) from ((kp_c p14_0 (by decide)).trans ((kp_c p3_0 (by decide)).trans rfl))); have : (σ13.1 650 k).toInt = ((σ.1 650 k) : Int32).toInt := congrArg Int32.toInt (show σ13.1 650 k = (σ.1 650 k) from ((kp_c p14_0 (by decide)).trans ((kp_c p3_0 (by decide)).trans rfl))); have : (σ13.1 651 k).toInt = ((σ.1 651 k) : Int32).toInt := congrArg Int32.toInt (show σ13.1 651 k = (σ.1 651 k) from ((kp_c p14_0 (by decide)).trans ((kp_c p3_0 (by decide)).trans rfl))); have : (σ13.1 657 k).toInt = ((σ.1 657 k) : Int32).toInt := congrArg Int32.toInt (show σ13.1 657 k = (σ.1 657 k) from ((kp_c p14_0 (by decide)).trans ((kp_c p3_0 (by decide)).trans rfl))); have : (σ13.1 641 k).toInt = ((σ.1 641 k) : Int32).toInt := congrArg Int32.toInt (show σ13.1 641 k = (σ.1 641 k) from ((kp_c p14_0 (by decide)).trans ((kp_c p3_0 (by decide)).trans rfl))); have : (σ13.1 642 k).toInt = ((σ.1 642 k) : Int32).toInt := congrArg Int32.toInt (show σ13.1 642 k = (σ.1 642 k) from ((kp_c p14_0 (by decide)).trans ((kp_c p3_0 (by decide)).trans rfl))); exact ⟨by omega, by omega⟩)
  refine lv_iload hx hb dL_law_1490 (lv_at hl 1 rfl) ?_
  refine lv_icmp_eq (tgt := 1497) hx hb dL_law_1492 (by decide) (fun c27 => ?_) (fun c27 => absurd (i32_eq (by have := (p3_1).1; have := (p3_1).2; have := (f385).1; have := (f385).2; have := (f514).1; have := (f514).2; have := (f515).1; have := (f515).2; have := (f587).1; have := (f587).2; have := (f588).1; have := (f588).2; have := (f655).1; have := (f655).2; have := (f672).1; have := (f672).2; have := (f653).1; have := (f653).2; have := (f650).1; have := (f650).2; have := (f651).1; have := (f651).2; have := (f657).1; have := (f657).2; have := (i641).1; have := (i641).2; have := (i642).1; have := (i642).2; have := (p14_1).1; have := (p14_1).2; have := (i26).1; have := (i26).2; have : (σ13.1 385 t).toInt = ((σ.1 385 t) : Int32).toInt := congrArg Int32.toInt (show σ13.1 385 t = (σ.1 385 t) from ((kp_c p14_0 (by decide)).trans ((kp_c p3_0 (by decide)).trans rfl))); have : (σ13.1 514 w).toInt = ((σ.1 514 w) : Int32).toInt := congrArg Int32.toInt (show σ13.1 514 w = (σ.1 514 w) from ((kp_c p14_0 (by decide)).trans ((kp_c p3_0 (by decide)).trans rfl))); have : (σ13.1 515 w).toInt = ((σ.1 515 w) : Int32).toInt := congrArg Int32.toInt (show σ13.1 515 w = (σ.1 515 w) from ((kp_c p14_0 (by decide)).trans ((kp_c p3_0 (by decide)).trans rfl))); have : (σ13.1 587 x).toInt = ((σ.1 587 x) : Int32).toInt := congrArg Int32.toInt (show σ13.1 587 x = (σ.1 587 x) from ((kp_c p14_0 (by decide)).trans ((kp_c p3_0 (by decide)).trans rfl))); have : (σ13.1 588 x).toInt = ((σ.1 588 x) : Int32).toInt := congrArg Int32.toInt (show σ13.1 588 x = (σ.1 588 x) from ((kp_c p14_0 (by decide)).trans ((kp_c p3_0 (by decide)).trans rfl))); have : (σ13.1 655 k).toInt = ((σ.1 655 k) : Int32).toInt := congrArg Int32.toInt (show σ13.1 655 k = (σ.1 655 k) from ((kp_c p14_0 (by decide)).trans ((kp_c p3_0 (by decide)).trans rfl))); have : (σ13.1 672 k).toInt = ((σ.1 672 k) : Int32).toInt := congrArg Int32.toInt (show σ13.1 672 k = (σ.1 672 k) from ((kp_c p14_0 (by decide)).trans ((kp_c p3_0 (by decide)).trans rfl))); have : (σ13.1 653 k).toInt = ((σ.1 653 k) : Int32).toInt := congrArg Int32.toInt (show σ13.1 653 k = (σ.1 653 k) from ((kp_c p14_0 (by decide)).trans ((kp_c p3_0 (by decide)).trans rfl))); have : (σ13.1 650 k).toInt = ((σ.1 650 k) : Int32).toInt := congrArg Int32.toInt (show σ13.1 650 k = (σ.1 650 k) from ((kp_c p14_0 (by decide)).trans ((kp_c p3_0 (by decide)).trans rfl))); have : (σ13.1 651 k).toInt = ((σ.1 651 k) : Int32).toInt := congrArg Int32.toInt (show σ13.1 651 k = (σ.1 651 k) from ((kp_c p14_0 (by decide)).trans ((kp_c p3_0 (by decide)).trans rfl))); have : (σ13.1 657 k).toInt = ((σ.1 657 k) : Int32).toInt := congrArg Int32.toInt (show σ13.1 657 k = (σ.1 657 k) from ((kp_c p14_0 (by decide)).trans ((kp_c p3_0 (by decide)).trans rfl))); have : (σ13.1 641 k).toInt = ((σ.1 641 k) : Int32).toInt := congrArg Int32.toInt (show σ13.1 641 k = (σ.1 641 k) from ((kp_c p14_0 (by decide)).trans ((kp_c p3_0 (by decide)).trans rfl))); have : (σ13.1 642 k).toInt = ((σ.1 642 k) : Int32).toInt := congrArg Int32.toInt (show σ13.1 642 k = (σ.1 642 k) from ((kp_c p14_0 (by decide)).trans ((kp_c p3_0 (by decide)).trans rfl))); omega)) c27)
  refine lv_iload hx hb dL_law_1497 (lv_at hl 1 rfl) ?_
  refine lv_if_ne (tgt := 1513) hx hb dL_law_1499 (by decide) (fun c28 => ?_) (fun c28 => absurd c28 (iv_nz p3_1 (by decide)))
  refine lv_goto (tgt := 1516) hx hb dL_law_1513 (by decide) ?_
  exact kk σ13 H locs ls hw (lv_sub hl [2, 3, 4, 5, 6] rfl)
end LAW
