section LAW
variable {p : Program} {l : Launch} {e : Env} {s : State} {m : MethodId} {args : Array Value} {below : List Frame} {meth : Method} {c : Code} {H : Heap} {locs : List Loc} {cells slots : Nat} {Q : State → Prop}
variable {ls : Array Slot} {A : Nat → Prop} {L : List Nat} {τ : Nat → Nat} {cy : Nat → ClassId} {D : va_G} {K : (Nat → Nat) × (Nat → Nat)} {σ : oSt} {b N x k o t w : Nat} {xs : Nat → Int32} {i : Int32}
set_option maxHeartbeats 4000000 in
set_option maxRecDepth 100000 in
theorem lc_8 (cx : oCx p s m args c cL_law 8 RL cy D A K) (hA : ∀ q, s.heap.size ≤ q → A q) (hfl : l.stackTraces = false) (hX : va_X b N xs s s.heap) (hbl : b < s.heap.size) (hbA : ¬ A b) (hN : N ≤ 2560) (h0 : 0 ≤ i.toInt) (h5 : i.toInt + 5 ≤ (N : Int)) (hw : oI A L τ cy D s.heap σ H locs) (I : lI L τ σ x k o t w) (F : lF L τ σ x k) (hl : lv_has ls 8 [(4, .int i), (3, .ref o), (2, .ref k), (1, .ref x), (0, .ref b)]) (hf0 : cells + 0 ≤ room_1.cells ∧ slots + 0 ≤ room_1.slots) (hf1 : cells + 1 ≤ room_1.cells ∧ slots + 6 ≤ room_1.slots) (hf2 : cells + 1 + 0 ≤ room_1.cells ∧ slots + 6 + 0 ≤ room_1.slots)
    (kk : ∀ (σ1 : oSt) (H1 : Heap) (locs1 : List Loc) (ls1 : Array Slot), oI A L τ cy D s.heap σ1 H1 locs1 → lv_has ls1 8 [(4, .int i), (3, .ref o), (2, .ref k), (1, .ref x), (0, .ref b)] → W p l e room_1 s m args below meth c H1 locs1 (cells + 1) (slots + 6) Q (F0 m 1516 ls1 [])) : W p l e room_1 s m args below meth c H locs cells slots Q (F0 m 490 ls []) := by
  have hx := cx.1.1
  have hb := cx.1.2.1
  have hml := cx.1.2.2.1
  have hown := cx.1.2.2.2.1
  have hts := cx.1.2.2.2.2
  have fr : oFr τ fs_law ts_law σ σ := oFr_rf
  obtain ⟨t1, t2, t3, t4⟩ := id I.2.2.2.2.2
  have i641 : Iv (σ.1 641 k) 0 0 := o_fb (j := 641) hw I.2.1 rfl
  have i642 : Iv (σ.1 642 k) 0 0 := o_fb (j := 642) hw I.2.1 rfl
  obtain ⟨hq, b_576_385, b_585_130, b_581_330, b_581_329, b_581_331, b_580_514, b_580_515, b_577_193, f587, f588, f655, f672, f653, f650, f651, f657⟩ := id F
  have hz := hq_hz hq
  have f385 := b_576_385 t I.2.2.2.1
  have f514 := b_580_514 w I.2.2.2.2.1
  have f515 := b_580_515 w I.2.2.2.2.1
  have hw0 := hw
  refine lv_aload_n hx hb dL_law_490 rfl (lv_at hl 3 rfl) ?_
  refine lv_aload_n hx hb dL_law_491 rfl (lv_at hl 4 rfl) ?_
  refine lv_iload hx hb dL_law_492 (lv_at hl 0 rfl) ?_
  refine lv_iconst (v := 1) hx hb dL_law_494 (by decide) ?_
  refine lv_iadd hx hb dL_law_495 ?_
  refine va_sld hx hb hX hbl hbA hw.2.2.1 (lx_in h0 h5 hN (by decide)) dL_law_496 ?_
  refine lv_topi (fun v1 e1 => ?_)
  refine lv_aload_n hx hb dL_law_497 rfl (lv_at hl 4 rfl) ?_
  refine lv_iload hx hb dL_law_498 (lv_at hl 0 rfl) ?_
  refine lv_iconst (v := 2) hx hb dL_law_500 (by decide) ?_
  refine lv_iadd hx hb dL_law_501 ?_
  refine va_sld hx hb hX hbl hbA hw.2.2.1 (lx_in h0 h5 hN (by decide)) dL_law_502 ?_
  refine lv_topi (fun v2 e2 => ?_)
  refine lv_aload_n hx hb dL_law_503 rfl (lv_at hl 4 rfl) ?_
  refine lv_iload hx hb dL_law_504 (lv_at hl 0 rfl) ?_
  refine lv_iconst (v := 3) hx hb dL_law_506 (by decide) ?_
  refine lv_iadd hx hb dL_law_507 ?_
  refine va_sld hx hb hX hbl hbA hw.2.2.1 (lx_in h0 h5 hN (by decide)) dL_law_508 ?_
  refine lv_topi (fun v3 e3 => ?_)
  refine lv_aload_n hx hb dL_law_509 rfl (lv_at hl 4 rfl) ?_
  refine lv_iload hx hb dL_law_510 (lv_at hl 0 rfl) ?_
  refine lv_iconst (v := 4) hx hb dL_law_512 (by decide) ?_
  refine lv_iadd hx hb dL_law_513 ?_
  refine va_sld hx hb hX hbl hbA hw.2.2.1 (lx_in h0 h5 hN (by decide)) dL_law_514 ?_
  refine lv_topi (fun v4 e4 => ?_)
  refine o_ci hw (oRunV cx hA hw q_X10_sheet k_m_L_65 rfl I.1 (by decide) (As := [.int v1, .int v2, .int v3, .int v4]) (c_X10_sheet x I.1 v1 v2 v3 v4) (by decide) rfl hl.1 rfl (Nat.le_of_ble_eq_true rfl) dL_law_515 hf0) (fun v6 σ5 H locs hp hw => ?_)
  obtain ⟨p6_0, p6_1, p6_2⟩ := hp
  rw [p6_0] at hw
  refine lv_aload_n hx hb dL_law_518 rfl (lv_at hl 2 rfl) ?_
  refine lv_aload_n hx hb dL_law_519 rfl (lv_at hl 4 rfl) ?_
  refine lv_iload hx hb dL_law_520 (lv_at hl 0 rfl) ?_
  refine lv_iconst (v := 1) hx hb dL_law_522 (by decide) ?_
  refine lv_iadd hx hb dL_law_523 ?_
  refine va_sld hx hb hX hbl hbA hw.2.2.1 (lx_in h0 h5 hN (by decide)) dL_law_524 ?_
  refine lv_topi (fun v7 e7 => ?_)
  rw [show v7 = v1 from e7.trans e1.symm]
  refine lv_aload_n hx hb dL_law_525 rfl (lv_at hl 4 rfl) ?_
  refine lv_iload hx hb dL_law_526 (lv_at hl 0 rfl) ?_
  refine lv_iconst (v := 2) hx hb dL_law_528 (by decide) ?_
  refine lv_iadd hx hb dL_law_529 ?_
  refine va_sld hx hb hX hbl hbA hw.2.2.1 (lx_in h0 h5 hN (by decide)) dL_law_530 ?_
  refine lv_topi (fun v8 e8 => ?_)
  rw [show v8 = v2 from e8.trans e2.symm]
  refine lv_aload_n hx hb dL_law_531 rfl (lv_at hl 4 rfl) ?_
  refine lv_iload hx hb dL_law_532 (lv_at hl 0 rfl) ?_
  refine lv_iconst (v := 3) hx hb dL_law_534 (by decide) ?_
  refine lv_iadd hx hb dL_law_535 ?_
  refine va_sld hx hb hX hbl hbA hw.2.2.1 (lx_in h0 h5 hN (by decide)) dL_law_536 ?_
  refine lv_topi (fun v9 e9 => ?_)
  rw [show v9 = v3 from e9.trans e3.symm]
  refine lv_aload_n hx hb dL_law_537 rfl (lv_at hl 4 rfl) ?_
  refine lv_iload hx hb dL_law_538 (lv_at hl 0 rfl) ?_
  refine lv_iconst (v := 4) hx hb dL_law_540 (by decide) ?_
  refine lv_iadd hx hb dL_law_541 ?_
  refine va_sld hx hb hX hbl hbA hw.2.2.1 (lx_in h0 h5 hN (by decide)) dL_law_542 ?_
  refine lv_topi (fun v10 e10 => ?_)
  rw [show v10 = v4 from e10.trans e4.symm]
  refine o_ci hw (oRunV cx hA hw q_X11_sheet k_m_L_69 rfl I.2.1 (by decide) (As := [.int v1, .int v2, .int v3, .int v4]) (c_X11_sheet k I.2.1 v1 v2 v3 v4) (by decide) rfl hl.1 rfl (Nat.le_of_ble_eq_true rfl) dL_law_543 hf0) (fun v12 σ11 H locs hp hw => ?_)
  obtain ⟨p12_0, p12_1, p12_2⟩ := hp
  have fr := oFr_tr fr p12_0 (by decide)
  refine lv_icmp_eq (tgt := 1516) hx hb dL_law_546 (by decide) (fun c13 => ?_) (fun c13 => absurd (i32_eq (by have := (f385).1; have := (f385).2; have := (f514).1; have := (f514).2; have := (f515).1; have := (f515).2; have := (f587).1; have := (f587).2; have := (f588).1; have := (f588).2; have := (f655).1; have := (f655).2; have := (f672).1; have := (f672).2; have := (f653).1; have := (f653).2; have := (f650).1; have := (f650).2; have := (f651).1; have := (f651).2; have := (f657).1; have := (f657).2; have := (i641).1; have := (i641).2; have := (i642).1; have := (i642).2; have := (p6_1).1; have := (p6_1).2; have := (p12_1).1; have := (p12_1).2; have : (σ11.1 385 t).toInt = ((σ.1 385 t) : Int32).toInt := congrArg Int32.toInt (show σ11.1 385 t = (σ.1 385 t) from ((kp_c p12_0 (by decide)).trans rfl)); have : (σ11.1 514 w).toInt = ((σ.1 514 w) : Int32).toInt := congrArg Int32.toInt (show σ11.1 514 w = (σ.1 514 w) from ((kp_c p12_0 (by decide)).trans rfl)); have : (σ11.1 515 w).toInt = ((σ.1 515 w) : Int32).toInt := congrArg Int32.toInt (show σ11.1 515 w = (σ.1 515 w) from ((kp_c p12_0 (by decide)).trans rfl)); have : (σ11.1 587 x).toInt = ((σ.1 587 x) : Int32).toInt := congrArg Int32.toInt (show σ11.1 587 x = (σ.1 587 x) from ((kp_c p12_0 (by decide)).trans rfl)); have : (σ11.1 588 x).toInt = ((σ.1 588 x) : Int32).toInt := congrArg Int32.toInt (show σ11.1 588 x = (σ.1 588 x) from ((kp_c p12_0 (by decide)).trans rfl)); have : (σ11.1 655 k).toInt = ((σ.1 655 k) : Int32).toInt := congrArg Int32.toInt (show σ11.1 655 k = (σ.1 655 k) from ((kp_c p12_0 (by decide)).trans rfl)); have : (σ11.1 672 k).toInt = ((σ.1 672 k) : Int32).toInt := congrArg Int32.toInt (show σ11.1 672 k = (σ.1 672 k) from ((kp_c p12_0 (by decide)).trans rfl)); have : (σ11.1 653 k).toInt = ((σ.1 653 k) : Int32).toInt := congrArg Int32.toInt (show σ11.1 653 k = (σ.1 653 k) from ((kp_c p12_0 (by decide)).trans rfl)); have : (σ11.1 650 k).toInt = ((σ.1 650 k) : Int32).toInt := congrArg Int32.toInt (show σ11.1 650 k = (σ.1 650 k) from ((kp_c p12_0 (by decide)).trans rfl)); have : (σ11.1 651 k).toInt = ((σ.1 651 k) : Int32).toInt := congrArg Int32.toInt (show σ11.1 651 k = (σ.1 651 k) from ((kp_c p12_0 (by decide)).trans rfl)); have : (σ11.1 657 k).toInt = ((σ.1 657 k) : Int32).toInt := congrArg Int32.toInt (show σ11.1 657 k = (σ.1 657 k) from ((kp_c p12_0 (by decide)).trans rfl)); have : (σ11.1 641 k).toInt = ((σ.1 641 k) : Int32).toInt := congrArg Int32.toInt (show σ11.1 641 k = (σ.1 641 k) from ((kp_c p12_0 (by decide)).trans rfl)); have : (σ11.1 642 k).toInt = ((σ.1 642 k) : Int32).toInt := congrArg Int32.toInt (show σ11.1 642 k = (σ.1 642 k) from ((kp_c p12_0 (by decide)).trans rfl)); omega)) c13)
  refine W.widen (k := cells + 1) (n := slots + 6) (by omega) (by omega) ?_
  exact kk σ11 H locs ls hw (lv_sub hl [0, 1, 2, 3, 4] rfl)
set_option maxHeartbeats 4000000 in
set_option maxRecDepth 100000 in
theorem lc_9 (cx : oCx p s m args c cL_law 8 RL cy D A K) (hA : ∀ q, s.heap.size ≤ q → A q) (hfl : l.stackTraces = false) (hX : va_X b N xs s s.heap) (hbl : b < s.heap.size) (hbA : ¬ A b) (hN : N ≤ 2560) (h0 : 0 ≤ i.toInt) (h5 : i.toInt + 5 ≤ (N : Int)) (hw : oI A L τ cy D s.heap σ H locs) (I : lI L τ σ x k o t w) (F : lF L τ σ x k) (hl : lv_has ls 8 [(4, .int i), (3, .ref o), (2, .ref k), (1, .ref x), (0, .ref b)]) (hf0 : cells + 0 ≤ room_1.cells ∧ slots + 0 ≤ room_1.slots) (hf1 : cells + 1 ≤ room_1.cells ∧ slots + 6 ≤ room_1.slots) (hf2 : cells + 1 + 0 ≤ room_1.cells ∧ slots + 6 + 0 ≤ room_1.slots)
    (kk : ∀ (σ1 : oSt) (H1 : Heap) (locs1 : List Loc) (ls1 : Array Slot), oI A L τ cy D s.heap σ1 H1 locs1 → lv_has ls1 8 [(4, .int i), (3, .ref o), (2, .ref k), (1, .ref x), (0, .ref b)] → W p l e room_1 s m args below meth c H1 locs1 (cells + 1) (slots + 6) Q (F0 m 1516 ls1 [])) : W p l e room_1 s m args below meth c H locs cells slots Q (F0 m 551 ls []) := by
  have hx := cx.1.1
  have hb := cx.1.2.1
  have hml := cx.1.2.2.1
  have hown := cx.1.2.2.2.1
  have hts := cx.1.2.2.2.2
  have fr : oFr τ fs_law ts_law σ σ := oFr_rf
  obtain ⟨t1, t2, t3, t4⟩ := id I.2.2.2.2.2
  have i641 : Iv (σ.1 641 k) 0 0 := o_fb (j := 641) hw I.2.1 rfl
  have i642 : Iv (σ.1 642 k) 0 0 := o_fb (j := 642) hw I.2.1 rfl
  obtain ⟨hq, b_576_385, b_585_130, b_581_330, b_581_329, b_581_331, b_580_514, b_580_515, b_577_193, f587, f588, f655, f672, f653, f650, f651, f657⟩ := id F
  have hz := hq_hz hq
  have f385 := b_576_385 t I.2.2.2.1
  have f514 := b_580_514 w I.2.2.2.2.1
  have f515 := b_580_515 w I.2.2.2.2.1
  have hw0 := hw
  refine lv_aload_n hx hb dL_law_551 rfl (lv_at hl 3 rfl) ?_
  refine lv_aload_n hx hb dL_law_552 rfl (lv_at hl 4 rfl) ?_
  refine lv_iload hx hb dL_law_553 (lv_at hl 0 rfl) ?_
  refine lv_iconst (v := 1) hx hb dL_law_555 (by decide) ?_
  refine lv_iadd hx hb dL_law_556 ?_
  refine va_sld hx hb hX hbl hbA hw.2.2.1 (lx_in h0 h5 hN (by decide)) dL_law_557 ?_
  refine lv_topi (fun v1 e1 => ?_)
  refine lv_aload_n hx hb dL_law_558 rfl (lv_at hl 4 rfl) ?_
  refine lv_iload hx hb dL_law_559 (lv_at hl 0 rfl) ?_
  refine lv_iconst (v := 2) hx hb dL_law_561 (by decide) ?_
  refine lv_iadd hx hb dL_law_562 ?_
  refine va_sld hx hb hX hbl hbA hw.2.2.1 (lx_in h0 h5 hN (by decide)) dL_law_563 ?_
  refine lv_topi (fun v2 e2 => ?_)
  refine o_ci hw (oRunV cx hA hw q_X10_salt k_m_L_70 rfl I.1 (by decide) (As := [.int v1, .int v2]) (c_X10_salt x I.1 v1 v2 hz) (by decide) rfl hl.1 rfl (Nat.le_of_ble_eq_true rfl) dL_law_564 hf0) (fun v4 σ3 H locs hp hw => ?_)
  obtain ⟨p4_0, p4_1⟩ := hp
  have fr := oFr_tr fr p4_0 (by decide)
  refine lv_aload_n hx hb dL_law_567 rfl (lv_at hl 2 rfl) ?_
  refine lv_aload_n hx hb dL_law_568 rfl (lv_at hl 4 rfl) ?_
  refine lv_iload hx hb dL_law_569 (lv_at hl 0 rfl) ?_
  refine lv_iconst (v := 1) hx hb dL_law_571 (by decide) ?_
  refine lv_iadd hx hb dL_law_572 ?_
  refine va_sld hx hb hX hbl hbA hw.2.2.1 (lx_in h0 h5 hN (by decide)) dL_law_573 ?_
  refine lv_topi (fun v5 e5 => ?_)
  rw [show v5 = v1 from e5.trans e1.symm]
  refine lv_aload_n hx hb dL_law_574 rfl (lv_at hl 4 rfl) ?_
  refine lv_iload hx hb dL_law_575 (lv_at hl 0 rfl) ?_
  refine lv_iconst (v := 2) hx hb dL_law_577 (by decide) ?_
  refine lv_iadd hx hb dL_law_578 ?_
  refine va_sld hx hb hX hbl hbA hw.2.2.1 (lx_in h0 h5 hN (by decide)) dL_law_579 ?_
  refine lv_topi (fun v6 e6 => ?_)
  rw [show v6 = v2 from e6.trans e2.symm]
  have z7 : (σ3.1 385 t).toInt = ((σ.1 385 t) : Int32).toInt := congrArg Int32.toInt (show σ3.1 385 t = (σ.1 385 t) from ((kp_c p4_0 (by decide)).trans rfl))
  have z8 : (σ3.1 514 w).toInt = ((σ.1 514 w) : Int32).toInt := congrArg Int32.toInt (show σ3.1 514 w = (σ.1 514 w) from ((kp_c p4_0 (by decide)).trans rfl))
  have z9 : (σ3.1 515 w).toInt = ((σ.1 515 w) : Int32).toInt := congrArg Int32.toInt (show σ3.1 515 w = (σ.1 515 w) from ((kp_c p4_0 (by decide)).trans rfl))
  have z10 : (σ3.1 655 k).toInt = ((σ.1 655 k) : Int32).toInt := congrArg Int32.toInt (show σ3.1 655 k = (σ.1 655 k) from ((kp_c p4_0 (by decide)).trans rfl))
  have z11 : (σ3.1 650 k).toInt = ((σ.1 650 k) : Int32).toInt := congrArg Int32.toInt (show σ3.1 650 k = (σ.1 650 k) from ((kp_c p4_0 (by decide)).trans rfl))
  have z12 : (σ3.1 651 k).toInt = ((σ.1 651 k) : Int32).toInt := congrArg Int32.toInt (show σ3.1 651 k = (σ.1 651 k) from ((kp_c p4_0 (by decide)).trans rfl))
  have z13 : (σ3.1 641 k).toInt = ((σ.1 641 k) : Int32).toInt := congrArg Int32.toInt (show σ3.1 641 k = (σ.1 641 k) from ((kp_c p4_0 (by decide)).trans rfl))
  have z14 : (σ3.1 642 k).toInt = ((σ.1 642 k) : Int32).toInt := congrArg Int32.toInt (show σ3.1 642 k = (σ.1 642 k) from ((kp_c p4_0 (by decide)).trans rfl))
  refine o_ci hw (oRunV cx hA hw q_X11_salt k_m_L_73 rfl I.2.1 (by decide) (As := [.int v1, .int v2]) (c_X11_salt k I.2.1 v1 v2) (by decide) rfl hl.1 rfl (Nat.le_of_ble_eq_true rfl) dL_law_580 hf0) (fun v16 σ15 H locs hp hw => ?_)
  obtain ⟨p16_0, p16_1⟩ := hp
  have fr := oFr_tr fr p16_0 (by decide)
  refine lv_icmp_eq (tgt := 1516) hx hb dL_law_583 (by decide) (fun c17 => ?_) (fun c17 => absurd (i32_eq (by have := (f385).1; have := (f385).2; have := (f514).1; have := (f514).2; have := (f515).1; have := (f515).2; have := (f587).1; have := (f587).2; have := (f588).1; have := (f588).2; have := (f655).1; have := (f655).2; have := (f672).1; have := (f672).2; have := (f653).1; have := (f653).2; have := (f650).1; have := (f650).2; have := (f651).1; have := (f651).2; have := (f657).1; have := (f657).2; have := (i641).1; have := (i641).2; have := (i642).1; have := (i642).2; have := (p4_1).1; have := (p4_1).2; have := (p16_1).1; have := (p16_1).2; have : (σ15.1 385 t).toInt = ((σ.1 385 t) : Int32).toInt := congrArg Int32.toInt (show σ15.1 385 t = (σ.1 385 t) from ((kp_c p16_0 (by decide)).trans ((kp_c p4_0 (by decide)).trans rfl))); have : (σ15.1 514 w).toInt = ((σ.1 514 w) : Int32).toInt := congrArg Int32.toInt (show σ15.1 514 w = (σ.1 514 w) from ((kp_c p16_0 (by decide)).trans ((kp_c p4_0 (by decide)).trans rfl))); have : (σ15.1 515 w).toInt = ((σ.1 515 w) : Int32).toInt := congrArg Int32.toInt (show σ15.1 515 w = (σ.1 515 w) from ((kp_c p16_0 (by decide)).trans ((kp_c p4_0 (by decide)).trans rfl))); have : (σ15.1 587 x).toInt = ((σ.1 587 x) : Int32).toInt := congrArg Int32.toInt (show σ15.1 587 x = (σ.1 587 x) from ((kp_c p16_0 (by decide)).trans ((kp_c p4_0 (by decide)).trans rfl))); have : (σ15.1 588 x).toInt = ((σ.1 588 x) : Int32).toInt := congrArg Int32.toInt (show σ15.1 588 x = (σ.1 588 x) from ((kp_c p16_0 (by decide)).trans ((kp_c p4_0 (by decide)).trans rfl))); have : (σ15.1 655 k).toInt = ((σ.1 655 k) : Int32).toInt := congrArg Int32.toInt (show σ15.1 655 k = (σ.1 655 k) from ((kp_c p16_0 (by decide)).trans ((kp_c p4_0 (by decide)).trans rfl))); have : (σ15.1 672 k).toInt = ((σ.1 672 k) : Int32).toInt := congrArg Int32.toInt (show σ15.1 672 k = (σ.1 672 k) from ((kp_c p16_0 (by decide)).trans ((kp_c p4_0 (by decide)).trans rfl))); have : (σ15.1 653 k).toInt = ((σ.1 653 k) : Int32).toInt := congrArg Int32.toInt (show σ15.1 653 k = (σ.1 653 k) from ((kp_c p16_0 (by decide)).trans ((kp_c p4_0 (by decide)).trans rfl))); have : (σ15.1 650 k).toInt = ((σ.1 650 k) : Int32).toInt := congrArg Int32.toInt (show σ15.1 650 k = (σ.1 650 k) from ((kp_c p16_0 (by decide)).trans ((kp_c p4_0 (by decide)).trans rfl))); have : (σ15.1 651 k).toInt = ((σ.1 651 k) : Int32).toInt := congrArg Int32.toInt (show σ15.1 651 k = (σ.1 651 k) from ((kp_c p16_0 (by decide)).trans ((kp_c p4_0 (by decide)).trans rfl))); have : (σ15.1 657 k).toInt = ((σ.1 657 k) : Int32).toInt := congrArg Int32.toInt (show σ15.1 657 k = (σ.1 657 k) from ((kp_c p16_0 (by decide)).trans ((kp_c p4_0 (by decide)).trans rfl))); have : (σ15.1 641 k).toInt = ((σ.1 641 k) : Int32).toInt := congrArg Int32.toInt (show σ15.1 641 k = (σ.1 641 k) from ((kp_c p16_0 (by decide)).trans ((kp_c p4_0 (by decide)).trans rfl))); have : (σ15.1 642 k).toInt = ((σ.1 642 k) : Int32).toInt := congrArg Int32.toInt (show σ15.1 642 k = (σ.1 642 k) from ((kp_c p16_0 (by decide)).trans ((kp_c p4_0 (by decide)).trans rfl))); omega)) c17)
  refine W.widen (k := cells + 1) (n := slots + 6) (by omega) (by omega) ?_
  exact kk σ15 H locs ls hw (lv_sub hl [0, 1, 2, 3, 4] rfl)
set_option maxHeartbeats 4000000 in
set_option maxRecDepth 100000 in
theorem lc_10 (cx : oCx p s m args c cL_law 8 RL cy D A K) (hA : ∀ q, s.heap.size ≤ q → A q) (hfl : l.stackTraces = false) (hX : va_X b N xs s s.heap) (hbl : b < s.heap.size) (hbA : ¬ A b) (hN : N ≤ 2560) (h0 : 0 ≤ i.toInt) (h5 : i.toInt + 5 ≤ (N : Int)) (hw : oI A L τ cy D s.heap σ H locs) (I : lI L τ σ x k o t w) (F : lF L τ σ x k) (hl : lv_has ls 8 [(4, .int i), (3, .ref o), (2, .ref k), (1, .ref x), (0, .ref b)]) (hf0 : cells + 0 ≤ room_1.cells ∧ slots + 0 ≤ room_1.slots) (hf1 : cells + 1 ≤ room_1.cells ∧ slots + 6 ≤ room_1.slots) (hf2 : cells + 1 + 0 ≤ room_1.cells ∧ slots + 6 + 0 ≤ room_1.slots)
    (kk : ∀ (σ1 : oSt) (H1 : Heap) (locs1 : List Loc) (ls1 : Array Slot), oI A L τ cy D s.heap σ1 H1 locs1 → lv_has ls1 8 [(4, .int i), (3, .ref o), (2, .ref k), (1, .ref x), (0, .ref b)] → W p l e room_1 s m args below meth c H1 locs1 (cells + 1) (slots + 6) Q (F0 m 1516 ls1 [])) : W p l e room_1 s m args below meth c H locs cells slots Q (F0 m 588 ls []) := by
  have hx := cx.1.1
  have hb := cx.1.2.1
  have hml := cx.1.2.2.1
  have hown := cx.1.2.2.2.1
  have hts := cx.1.2.2.2.2
  have fr : oFr τ fs_law ts_law σ σ := oFr_rf
  obtain ⟨t1, t2, t3, t4⟩ := id I.2.2.2.2.2
  have i641 : Iv (σ.1 641 k) 0 0 := o_fb (j := 641) hw I.2.1 rfl
  have i642 : Iv (σ.1 642 k) 0 0 := o_fb (j := 642) hw I.2.1 rfl
  obtain ⟨hq, b_576_385, b_585_130, b_581_330, b_581_329, b_581_331, b_580_514, b_580_515, b_577_193, f587, f588, f655, f672, f653, f650, f651, f657⟩ := id F
  have hz := hq_hz hq
  have f385 := b_576_385 t I.2.2.2.1
  have f514 := b_580_514 w I.2.2.2.2.1
  have f515 := b_580_515 w I.2.2.2.2.1
  have hw0 := hw
  refine lv_aload_n hx hb dL_law_588 rfl (lv_at hl 3 rfl) ?_
  refine lv_aload_n hx hb dL_law_589 rfl (lv_at hl 4 rfl) ?_
  refine lv_iload hx hb dL_law_590 (lv_at hl 0 rfl) ?_
  refine lv_iconst (v := 1) hx hb dL_law_592 (by decide) ?_
  refine lv_iadd hx hb dL_law_593 ?_
  refine va_sld hx hb hX hbl hbA hw.2.2.1 (lx_in h0 h5 hN (by decide)) dL_law_594 ?_
  refine lv_topi (fun v1 e1 => ?_)
  refine lv_aload_n hx hb dL_law_595 rfl (lv_at hl 4 rfl) ?_
  refine lv_iload hx hb dL_law_596 (lv_at hl 0 rfl) ?_
  refine lv_iconst (v := 2) hx hb dL_law_598 (by decide) ?_
  refine lv_iadd hx hb dL_law_599 ?_
  refine va_sld hx hb hX hbl hbA hw.2.2.1 (lx_in h0 h5 hN (by decide)) dL_law_600 ?_
  refine lv_topi (fun v2 e2 => ?_)
  refine o_ci hw (oRunV cx hA hw q_X10_thistles k_m_L_74 rfl I.1 (by decide) (As := [.int v1, .int v2]) (c_X10_thistles x I.1 v1 v2 hz) (by decide) rfl hl.1 rfl (Nat.le_of_ble_eq_true rfl) dL_law_601 hf0) (fun v4 σ3 H locs hp hw => ?_)
  obtain ⟨p4_0, p4_1⟩ := hp
  have fr := oFr_tr fr p4_0 (by decide)
  refine lv_aload_n hx hb dL_law_604 rfl (lv_at hl 2 rfl) ?_
  refine lv_aload_n hx hb dL_law_605 rfl (lv_at hl 4 rfl) ?_
  refine lv_iload hx hb dL_law_606 (lv_at hl 0 rfl) ?_
  refine lv_iconst (v := 1) hx hb dL_law_608 (by decide) ?_
  refine lv_iadd hx hb dL_law_609 ?_
  refine va_sld hx hb hX hbl hbA hw.2.2.1 (lx_in h0 h5 hN (by decide)) dL_law_610 ?_
  refine lv_topi (fun v5 e5 => ?_)
  rw [show v5 = v1 from e5.trans e1.symm]
  refine lv_aload_n hx hb dL_law_611 rfl (lv_at hl 4 rfl) ?_
  refine lv_iload hx hb dL_law_612 (lv_at hl 0 rfl) ?_
  refine lv_iconst (v := 2) hx hb dL_law_614 (by decide) ?_
  refine lv_iadd hx hb dL_law_615 ?_
  refine va_sld hx hb hX hbl hbA hw.2.2.1 (lx_in h0 h5 hN (by decide)) dL_law_616 ?_
  refine lv_topi (fun v6 e6 => ?_)
  rw [show v6 = v2 from e6.trans e2.symm]
  have z7 : (σ3.1 385 t).toInt = ((σ.1 385 t) : Int32).toInt := congrArg Int32.toInt (show σ3.1 385 t = (σ.1 385 t) from ((kp_c p4_0 (by decide)).trans rfl))
  have z8 : (σ3.1 514 w).toInt = ((σ.1 514 w) : Int32).toInt := congrArg Int32.toInt (show σ3.1 514 w = (σ.1 514 w) from ((kp_c p4_0 (by decide)).trans rfl))
  have z9 : (σ3.1 515 w).toInt = ((σ.1 515 w) : Int32).toInt := congrArg Int32.toInt (show σ3.1 515 w = (σ.1 515 w) from ((kp_c p4_0 (by decide)).trans rfl))
  have z10 : (σ3.1 655 k).toInt = ((σ.1 655 k) : Int32).toInt := congrArg Int32.toInt (show σ3.1 655 k = (σ.1 655 k) from ((kp_c p4_0 (by decide)).trans rfl))
  have z11 : (σ3.1 650 k).toInt = ((σ.1 650 k) : Int32).toInt := congrArg Int32.toInt (show σ3.1 650 k = (σ.1 650 k) from ((kp_c p4_0 (by decide)).trans rfl))
  have z12 : (σ3.1 651 k).toInt = ((σ.1 651 k) : Int32).toInt := congrArg Int32.toInt (show σ3.1 651 k = (σ.1 651 k) from ((kp_c p4_0 (by decide)).trans rfl))
  have z13 : (σ3.1 641 k).toInt = ((σ.1 641 k) : Int32).toInt := congrArg Int32.toInt (show σ3.1 641 k = (σ.1 641 k) from ((kp_c p4_0 (by decide)).trans rfl))
  have z14 : (σ3.1 642 k).toInt = ((σ.1 642 k) : Int32).toInt := congrArg Int32.toInt (show σ3.1 642 k = (σ.1 642 k) from ((kp_c p4_0 (by decide)).trans rfl))
  refine o_ci hw (oRunV cx hA hw q_X11_thistles k_m_L_77 rfl I.2.1 (by decide) (As := [.int v1, .int v2]) (c_X11_thistles k I.2.1 v1 v2) (by decide) rfl hl.1 rfl (Nat.le_of_ble_eq_true rfl) dL_law_617 hf0) (fun v16 σ15 H locs hp hw => ?_)
  obtain ⟨p16_0, p16_1⟩ := hp
  have fr := oFr_tr fr p16_0 (by decide)
  refine lv_icmp_eq (tgt := 1516) hx hb dL_law_620 (by decide) (fun c17 => ?_) (fun c17 => absurd (i32_eq (by have := (f385).1; have := (f385).2; have := (f514).1; have := (f514).2; have := (f515).1; have := (f515).2; have := (f587).1; have := (f587).2; have := (f588).1; have := (f588).2; have := (f655).1; have := (f655).2; have := (f672).1; have := (f672).2; have := (f653).1; have := (f653).2; have := (f650).1; have := (f650).2; have := (f651).1; have := (f651).2; have := (f657).1; have := (f657).2; have := (i641).1; have := (i641).2; have := (i642).1; have := (i642).2; have := (p4_1).1; have := (p4_1).2; have := (p16_1).1; have := (p16_1).2; have : (σ15.1 385 t).toInt = ((σ.1 385 t) : Int32).toInt := congrArg Int32.toInt (show σ15.1 385 t = (σ.1 385 t) from ((kp_c p16_0 (by decide)).trans ((kp_c p4_0 (by decide)).trans rfl))); have : (σ15.1 514 w).toInt = ((σ.1 514 w) : Int32).toInt := congrArg Int32.toInt (show σ15.1 514 w = (σ.1 514 w) from ((kp_c p16_0 (by decide)).trans ((kp_c p4_0 (by decide)).trans rfl))); have : (σ15.1 515 w).toInt = ((σ.1 515 w) : Int32).toInt := congrArg Int32.toInt (show σ15.1 515 w = (σ.1 515 w) from ((kp_c p16_0 (by decide)).trans ((kp_c p4_0 (by decide)).trans rfl))); have : (σ15.1 587 x).toInt = ((σ.1 587 x) : Int32).toInt := congrArg Int32.toInt (show σ15.1 587 x = (σ.1 587 x) from ((kp_c p16_0 (by decide)).trans ((kp_c p4_0 (by decide)).trans rfl))); have : (σ15.1 588 x).toInt = ((σ.1 588 x) : Int32).toInt := congrArg Int32.toInt (show σ15.1 588 x = (σ.1 588 x) from ((kp_c p16_0 (by decide)).trans ((kp_c p4_0 (by decide)).trans rfl))); have : (σ15.1 655 k).toInt = ((σ.1 655 k) : Int32).toInt := congrArg Int32.toInt (show σ15.1 655 k = (σ.1 655 k) from ((kp_c p16_0 (by decide)).trans ((kp_c p4_0 (by decide)).trans rfl))); have : (σ15.1 672 k).toInt = ((σ.1 672 k) : Int32).toInt := congrArg Int32.toInt (show σ15.1 672 k = (σ.1 672 k) from ((kp_c p16_0 (by decide)).trans ((kp_c p4_0 (by decide)).trans rfl))); have : (σ15.1 653 k).toInt = ((σ.1 653 k) : Int32).toInt := congrArg Int32.toInt (show σ15.1 653 k = (σ.1 653 k) from ((kp_c p16_0 (by decide)).trans ((kp_c p4_0 (by decide)).trans rfl))); have : (σ15.1 650 k).toInt = ((σ.1 650 k) : Int32).toInt := congrArg Int32.toInt (show σ15.1 650 k = (σ.1 650 k) from ((kp_c p16_0 (by decide)).trans ((kp_c p4_0 (by decide)).trans rfl))); have : (σ15.1 651 k).toInt = ((σ.1 651 k) : Int32).toInt := congrArg Int32.toInt (show σ15.1 651 k = (σ.1 651 k) from ((kp_c p16_0 (by decide)).trans ((kp_c p4_0 (by decide)).trans rfl))); have : (σ15.1 657 k).toInt = ((σ.1 657 k) : Int32).toInt := congrArg Int32.toInt (show σ15.1 657 k = (σ.1 657 k) from ((kp_c p16_0 (by decide)).trans ((kp_c p4_0 (by decide)).trans rfl))); have : (σ15.1 641 k).toInt = ((σ.1 641 k) : Int32).toInt := congrArg Int32.toInt (show σ15.1 641 k = (σ.1 641 k) from ((kp_c p16_0 (by decide)).trans ((kp_c p4_0 (by decide)).trans rfl))); have : (σ15.1 642 k).toInt = ((σ.1 642 k) : Int32).toInt := congrArg Int32.toInt (show σ15.1 642 k = (σ.1 642 k) from ((kp_c p16_0 (by decide)).trans ((kp_c p4_0 (by decide)).trans rfl))); omega)) c17)
  refine W.widen (k := cells + 1) (n := slots + 6) (by omega) (by omega) ?_
  exact kk σ15 H locs ls hw (lv_sub hl [0, 1, 2, 3, 4] rfl)
set_option maxHeartbeats 4000000 in
set_option maxRecDepth 100000 in
theorem lc_11 (cx : oCx p s m args c cL_law 8 RL cy D A K) (hA : ∀ q, s.heap.size ≤ q → A q) (hfl : l.stackTraces = false) (hX : va_X b N xs s s.heap) (hbl : b < s.heap.size) (hbA : ¬ A b) (hN : N ≤ 2560) (h0 : 0 ≤ i.toInt) (h5 : i.toInt + 5 ≤ (N : Int)) (hw : oI A L τ cy D s.heap σ H locs) (I : lI L τ σ x k o t w) (F : lF L τ σ x k) (hl : lv_has ls 8 [(4, .int i), (3, .ref o), (2, .ref k), (1, .ref x), (0, .ref b)]) (hf0 : cells + 0 ≤ room_1.cells ∧ slots + 0 ≤ room_1.slots) (hf1 : cells + 1 ≤ room_1.cells ∧ slots + 6 ≤ room_1.slots) (hf2 : cells + 1 + 0 ≤ room_1.cells ∧ slots + 6 + 0 ≤ room_1.slots)
    (kk : ∀ (σ1 : oSt) (H1 : Heap) (locs1 : List Loc) (ls1 : Array Slot), oI A L τ cy D s.heap σ1 H1 locs1 → lv_has ls1 8 [(4, .int i), (3, .ref o), (2, .ref k), (1, .ref x), (0, .ref b)] → W p l e room_1 s m args below meth c H1 locs1 (cells + 1) (slots + 6) Q (F0 m 1516 ls1 [])) : W p l e room_1 s m args below meth c H locs cells slots Q (F0 m 625 ls []) := by
  have hx := cx.1.1
  have hb := cx.1.2.1
  have hml := cx.1.2.2.1
  have hown := cx.1.2.2.2.1
  have hts := cx.1.2.2.2.2
  have fr : oFr τ fs_law ts_law σ σ := oFr_rf
  obtain ⟨t1, t2, t3, t4⟩ := id I.2.2.2.2.2
  have i641 : Iv (σ.1 641 k) 0 0 := o_fb (j := 641) hw I.2.1 rfl
  have i642 : Iv (σ.1 642 k) 0 0 := o_fb (j := 642) hw I.2.1 rfl
  obtain ⟨hq, b_576_385, b_585_130, b_581_330, b_581_329, b_581_331, b_580_514, b_580_515, b_577_193, f587, f588, f655, f672, f653, f650, f651, f657⟩ := id F
  have hz := hq_hz hq
  have f385 := b_576_385 t I.2.2.2.1
  have f514 := b_580_514 w I.2.2.2.2.1
  have f515 := b_580_515 w I.2.2.2.2.1
  have hw0 := hw
  refine lv_aload_n hx hb dL_law_625 rfl (lv_at hl 3 rfl) ?_
  refine lv_aload_n hx hb dL_law_626 rfl (lv_at hl 4 rfl) ?_
  refine lv_iload hx hb dL_law_627 (lv_at hl 0 rfl) ?_
  refine lv_iconst (v := 1) hx hb dL_law_629 (by decide) ?_
  refine lv_iadd hx hb dL_law_630 ?_
  refine va_sld hx hb hX hbl hbA hw.2.2.1 (lx_in h0 h5 hN (by decide)) dL_law_631 ?_
  refine lv_topi (fun v1 e1 => ?_)
  refine lv_aload_n hx hb dL_law_632 rfl (lv_at hl 4 rfl) ?_
  refine lv_iload hx hb dL_law_633 (lv_at hl 0 rfl) ?_
  refine lv_iconst (v := 2) hx hb dL_law_635 (by decide) ?_
  refine lv_iadd hx hb dL_law_636 ?_
  refine va_sld hx hb hX hbl hbA hw.2.2.1 (lx_in h0 h5 hN (by decide)) dL_law_637 ?_
  refine lv_topi (fun v2 e2 => ?_)
  refine o_ci hw (oRunV cx hA hw q_X10_gate k_m_L_78 rfl I.1 (by decide) (As := [.int v1, .int v2]) (c_X10_gate x I.1 v1 v2) (by decide) rfl hl.1 rfl (Nat.le_of_ble_eq_true rfl) dL_law_638 hf0) (fun v4 σ3 H locs hp hw => ?_)
  obtain ⟨p4_0, p4_1⟩ := hp
  have fr := oFr_tr fr p4_0 (by decide)
  refine lv_aload_n hx hb dL_law_641 rfl (lv_at hl 2 rfl) ?_
  refine lv_aload_n hx hb dL_law_642 rfl (lv_at hl 4 rfl) ?_
  refine lv_iload hx hb dL_law_643 (lv_at hl 0 rfl) ?_
  refine lv_iconst (v := 1) hx hb dL_law_645 (by decide) ?_
  refine lv_iadd hx hb dL_law_646 ?_
  refine va_sld hx hb hX hbl hbA hw.2.2.1 (lx_in h0 h5 hN (by decide)) dL_law_647 ?_
  refine lv_topi (fun v5 e5 => ?_)
  rw [show v5 = v1 from e5.trans e1.symm]
  refine lv_aload_n hx hb dL_law_648 rfl (lv_at hl 4 rfl) ?_
  refine lv_iload hx hb dL_law_649 (lv_at hl 0 rfl) ?_
  refine lv_iconst (v := 2) hx hb dL_law_651 (by decide) ?_
  refine lv_iadd hx hb dL_law_652 ?_
  refine va_sld hx hb hX hbl hbA hw.2.2.1 (lx_in h0 h5 hN (by decide)) dL_law_653 ?_
  refine lv_topi (fun v6 e6 => ?_)
  rw [show v6 = v2 from e6.trans e2.symm]
  have z7 : (σ3.1 385 t).toInt = ((σ.1 385 t) : Int32).toInt := congrArg Int32.toInt (show σ3.1 385 t = (σ.1 385 t) from ((kp_c p4_0 (by decide)).trans rfl))
  have z8 : (σ3.1 514 w).toInt = ((σ.1 514 w) : Int32).toInt := congrArg Int32.toInt (show σ3.1 514 w = (σ.1 514 w) from ((kp_c p4_0 (by decide)).trans rfl))
  have z9 : (σ3.1 515 w).toInt = ((σ.1 515 w) : Int32).toInt := congrArg Int32.toInt (show σ3.1 515 w = (σ.1 515 w) from ((kp_c p4_0 (by decide)).trans rfl))
  have z10 : (σ3.1 655 k).toInt = ((σ.1 655 k) : Int32).toInt := congrArg Int32.toInt (show σ3.1 655 k = (σ.1 655 k) from ((kp_c p4_0 (by decide)).trans rfl))
  have z11 : (σ3.1 650 k).toInt = ((σ.1 650 k) : Int32).toInt := congrArg Int32.toInt (show σ3.1 650 k = (σ.1 650 k) from ((kp_c p4_0 (by decide)).trans rfl))
  have z12 : (σ3.1 651 k).toInt = ((σ.1 651 k) : Int32).toInt := congrArg Int32.toInt (show σ3.1 651 k = (σ.1 651 k) from ((kp_c p4_0 (by decide)).trans rfl))
  have z13 : (σ3.1 641 k).toInt = ((σ.1 641 k) : Int32).toInt := congrArg Int32.toInt (show σ3.1 641 k = (σ.1 641 k) from ((kp_c p4_0 (by decide)).trans rfl))
  have z14 : (σ3.1 642 k).toInt = ((σ.1 642 k) : Int32).toInt := congrArg Int32.toInt (show σ3.1 642 k = (σ.1 642 k) from ((kp_c p4_0 (by decide)).trans rfl))
  refine o_ci hw (oRunV cx hA hw q_X11_gate k_m_L_81 rfl I.2.1 (by decide) (As := [.int v1, .int v2]) (c_X11_gate k I.2.1 v1 v2) (by decide) rfl hl.1 rfl (Nat.le_of_ble_eq_true rfl) dL_law_654 hf0) (fun v16 σ15 H locs hp hw => ?_)
  obtain ⟨p16_0, p16_1⟩ := hp
  have fr := oFr_tr fr p16_0 (by decide)
  refine lv_icmp_eq (tgt := 1516) hx hb dL_law_657 (by decide) (fun c17 => ?_) (fun c17 => absurd (i32_eq (by have := (f385).1; have := (f385).2; have := (f514).1; have := (f514).2; have := (f515).1; have := (f515).2; have := (f587).1; have := (f587).2; have := (f588).1; have := (f588).2; have := (f655).1; have := (f655).2; have := (f672).1; have := (f672).2; have := (f653).1; have := (f653).2; have := (f650).1; have := (f650).2; have := (f651).1; have := (f651).2; have := (f657).1; have := (f657).2; have := (i641).1; have := (i641).2; have := (i642).1; have := (i642).2; have := (p4_1).1; have := (p4_1).2; have := (p16_1).1; have := (p16_1).2; have : (σ15.1 385 t).toInt = ((σ.1 385 t) : Int32).toInt := congrArg Int32.toInt (show σ15.1 385 t = (σ.1 385 t) from ((kp_c p16_0 (by decide)).trans ((kp_c p4_0 (by decide)).trans rfl))); have : (σ15.1 514 w).toInt = ((σ.1 514 w) : Int32).toInt := congrArg Int32.toInt (show σ15.1 514 w = (σ.1 514 w) from ((kp_c p16_0 (by decide)).trans ((kp_c p4_0 (by decide)).trans rfl))); have : (σ15.1 515 w).toInt = ((σ.1 515 w) : Int32).toInt := congrArg Int32.toInt (show σ15.1 515 w = (σ.1 515 w) from ((kp_c p16_0 (by decide)).trans ((kp_c p4_0 (by decide)).trans rfl))); have : (σ15.1 587 x).toInt = ((σ.1 587 x) : Int32).toInt := congrArg Int32.toInt (show σ15.1 587 x = (σ.1 587 x) from ((kp_c p16_0 (by decide)).trans ((kp_c p4_0 (by decide)).trans rfl))); have : (σ15.1 588 x).toInt = ((σ.1 588 x) : Int32).toInt := congrArg Int32.toInt (show σ15.1 588 x = (σ.1 588 x) from ((kp_c p16_0 (by decide)).trans ((kp_c p4_0 (by decide)).trans rfl))); have : (σ15.1 655 k).toInt = ((σ.1 655 k) : Int32).toInt := congrArg Int32.toInt (show σ15.1 655 k = (σ.1 655 k) from ((kp_c p16_0 (by decide)).trans ((kp_c p4_0 (by decide)).trans rfl))); have : (σ15.1 672 k).toInt = ((σ.1 672 k) : Int32).toInt := congrArg Int32.toInt (show σ15.1 672 k = (σ.1 672 k) from ((kp_c p16_0 (by decide)).trans ((kp_c p4_0 (by decide)).trans rfl))); have : (σ15.1 653 k).toInt = ((σ.1 653 k) : Int32).toInt := congrArg Int32.toInt (show σ15.1 653 k = (σ.1 653 k) from ((kp_c p16_0 (by decide)).trans ((kp_c p4_0 (by decide)).trans rfl))); have : (σ15.1 650 k).toInt = ((σ.1 650 k) : Int32).toInt := congrArg Int32.toInt (show σ15.1 650 k = (σ.1 650 k) from ((kp_c p16_0 (by decide)).trans ((kp_c p4_0 (by decide)).trans rfl))); have : (σ15.1 651 k).toInt = ((σ.1 651 k) : Int32).toInt := congrArg Int32.toInt (show σ15.1 651 k = (σ.1 651 k) from ((kp_c p16_0 (by decide)).trans ((kp_c p4_0 (by decide)).trans rfl))); have : (σ15.1 657 k).toInt = ((σ.1 657 k) : Int32).toInt := congrArg Int32.toInt (show σ15.1 657 k = (σ.1 657 k) from ((kp_c p16_0 (by decide)).trans ((kp_c p4_0 (by decide)).trans rfl))); have : (σ15.1 641 k).toInt = ((σ.1 641 k) : Int32).toInt := congrArg Int32.toInt (show σ15.1 641 k = (σ.1 641 k) from ((kp_c p16_0 (by decide)).trans ((kp_c p4_0 (by decide)).trans rfl))); have : (σ15.1 642 k).toInt = ((σ.1 642 k) : Int32).toInt := congrArg Int32.toInt (show σ15.1 642 k = (σ.1 642 k) from ((kp_c p16_0 (by decide)).trans ((kp_c p4_0 (by decide)).trans rfl))); omega)) c17)
  refine W.widen (k := cells + 1) (n := slots + 6) (by omega) (by omega) ?_
  exact kk σ15 H locs ls hw (lv_sub hl [0, 1, 2, 3, 4] rfl)
set_option maxHeartbeats 4000000 in
set_option maxRecDepth 100000 in
theorem lc_12 (cx : oCx p s m args c cL_law 8 RL cy D A K) (hA : ∀ q, s.heap.size ≤ q → A q) (hfl : l.stackTraces = false) (hX : va_X b N xs s s.heap) (hbl : b < s.heap.size) (hbA : ¬ A b) (hN : N ≤ 2560) (h0 : 0 ≤ i.toInt) (h5 : i.toInt + 5 ≤ (N : Int)) (hw : oI A L τ cy D s.heap σ H locs) (I : lI L τ σ x k o t w) (F : lF L τ σ x k) (hl : lv_has ls 8 [(4, .int i), (3, .ref o), (2, .ref k), (1, .ref x), (0, .ref b)]) (hf0 : cells + 0 ≤ room_1.cells ∧ slots + 0 ≤ room_1.slots) (hf1 : cells + 1 ≤ room_1.cells ∧ slots + 6 ≤ room_1.slots) (hf2 : cells + 1 + 0 ≤ room_1.cells ∧ slots + 6 + 0 ≤ room_1.slots)
    (kk : ∀ (σ1 : oSt) (H1 : Heap) (locs1 : List Loc) (ls1 : Array Slot), oI A L τ cy D s.heap σ1 H1 locs1 → lv_has ls1 8 [(4, .int i), (3, .ref o), (2, .ref k), (1, .ref x), (0, .ref b)] → W p l e room_1 s m args below meth c H1 locs1 (cells + 1) (slots + 6) Q (F0 m 1516 ls1 [])) : W p l e room_1 s m args below meth c H locs cells slots Q (F0 m 662 ls []) := by
  have hx := cx.1.1
  have hb := cx.1.2.1
  have hml := cx.1.2.2.1
  have hown := cx.1.2.2.2.1
  have hts := cx.1.2.2.2.2
  have fr : oFr τ fs_law ts_law σ σ := oFr_rf
  obtain ⟨t1, t2, t3, t4⟩ := id I.2.2.2.2.2
  have i641 : Iv (σ.1 641 k) 0 0 := o_fb (j := 641) hw I.2.1 rfl
  have i642 : Iv (σ.1 642 k) 0 0 := o_fb (j := 642) hw I.2.1 rfl
  obtain ⟨hq, b_576_385, b_585_130, b_581_330, b_581_329, b_581_331, b_580_514, b_580_515, b_577_193, f587, f588, f655, f672, f653, f650, f651, f657⟩ := id F
  have hz := hq_hz hq
  have f385 := b_576_385 t I.2.2.2.1
  have f514 := b_580_514 w I.2.2.2.2.1
  have f515 := b_580_515 w I.2.2.2.2.1
  have hw0 := hw
  refine lv_aload_n hx hb dL_law_662 rfl (lv_at hl 3 rfl) ?_
  refine lv_aload_n hx hb dL_law_663 rfl (lv_at hl 4 rfl) ?_
  refine lv_iload hx hb dL_law_664 (lv_at hl 0 rfl) ?_
  refine lv_iconst (v := 1) hx hb dL_law_666 (by decide) ?_
  refine lv_iadd hx hb dL_law_667 ?_
  refine va_sld hx hb hX hbl hbA hw.2.2.1 (lx_in h0 h5 hN (by decide)) dL_law_668 ?_
  refine lv_topi (fun v1 e1 => ?_)
  refine lv_aload_n hx hb dL_law_669 rfl (lv_at hl 4 rfl) ?_
  refine lv_iload hx hb dL_law_670 (lv_at hl 0 rfl) ?_
  refine lv_iconst (v := 2) hx hb dL_law_672 (by decide) ?_
  refine lv_iadd hx hb dL_law_673 ?_
  refine va_sld hx hb hX hbl hbA hw.2.2.1 (lx_in h0 h5 hN (by decide)) dL_law_674 ?_
  refine lv_topi (fun v2 e2 => ?_)
  refine o_ci hw (oRunV cx hA hw q_X10_drive k_m_L_82 rfl I.1 (by decide) (As := [.int v1, .int v2]) (c_X10_drive x I.1 v1 v2 hz) (by decide) rfl hl.1 rfl (Nat.le_of_ble_eq_true rfl) dL_law_675 hf0) (fun v4 σ3 H locs hp hw => ?_)
  obtain ⟨p4_0, p4_1⟩ := hp
  have fr := oFr_tr fr p4_0 (by decide)
  refine lv_aload_n hx hb dL_law_678 rfl (lv_at hl 2 rfl) ?_
  refine lv_aload_n hx hb dL_law_679 rfl (lv_at hl 4 rfl) ?_
  refine lv_iload hx hb dL_law_680 (lv_at hl 0 rfl) ?_
  refine lv_iconst (v := 1) hx hb dL_law_682 (by decide) ?_
  refine lv_iadd hx hb dL_law_683 ?_
  refine va_sld hx hb hX hbl hbA hw.2.2.1 (lx_in h0 h5 hN (by decide)) dL_law_684 ?_
  refine lv_topi (fun v5 e5 => ?_)
  rw [show v5 = v1 from e5.trans e1.symm]
  refine lv_aload_n hx hb dL_law_685 rfl (lv_at hl 4 rfl) ?_
  refine lv_iload hx hb dL_law_686 (lv_at hl 0 rfl) ?_
  refine lv_iconst (v := 2) hx hb dL_law_688 (by decide) ?_
  refine lv_iadd hx hb dL_law_689 ?_
  refine va_sld hx hb hX hbl hbA hw.2.2.1 (lx_in h0 h5 hN (by decide)) dL_law_690 ?_
  refine lv_topi (fun v6 e6 => ?_)
  rw [show v6 = v2 from e6.trans e2.symm]
  have z7 : (σ3.1 385 t).toInt = ((σ.1 385 t) : Int32).toInt := congrArg Int32.toInt (show σ3.1 385 t = (σ.1 385 t) from ((kp_c p4_0 (by decide)).trans rfl))
  have z8 : (σ3.1 514 w).toInt = ((σ.1 514 w) : Int32).toInt := congrArg Int32.toInt (show σ3.1 514 w = (σ.1 514 w) from ((kp_c p4_0 (by decide)).trans rfl))
  have z9 : (σ3.1 515 w).toInt = ((σ.1 515 w) : Int32).toInt := congrArg Int32.toInt (show σ3.1 515 w = (σ.1 515 w) from ((kp_c p4_0 (by decide)).trans rfl))
  have z10 : (σ3.1 655 k).toInt = ((σ.1 655 k) : Int32).toInt := congrArg Int32.toInt (show σ3.1 655 k = (σ.1 655 k) from ((kp_c p4_0 (by decide)).trans rfl))
  have z11 : (σ3.1 650 k).toInt = ((σ.1 650 k) : Int32).toInt := congrArg Int32.toInt (show σ3.1 650 k = (σ.1 650 k) from ((kp_c p4_0 (by decide)).trans rfl))
  have z12 : (σ3.1 651 k).toInt = ((σ.1 651 k) : Int32).toInt := congrArg Int32.toInt (show σ3.1 651 k = (σ.1 651 k) from ((kp_c p4_0 (by decide)).trans rfl))
  have z13 : (σ3.1 641 k).toInt = ((σ.1 641 k) : Int32).toInt := congrArg Int32.toInt (show σ3.1 641 k = (σ.1 641 k) from ((kp_c p4_0 (by decide)).trans rfl))
  have z14 : (σ3.1 642 k).toInt = ((σ.1 642 k) : Int32).toInt := congrArg Int32.toInt (show σ3.1 642 k = (σ.1 642 k) from ((kp_c p4_0 (by decide)).trans rfl))
  refine o_ci hw (oRunV cx hA hw q_X11_drive k_m_L_85 rfl I.2.1 (by decide) (As := [.int v1, .int v2]) (c_X11_drive k I.2.1 v1 v2) (by decide) rfl hl.1 rfl (Nat.le_of_ble_eq_true rfl) dL_law_691 hf0) (fun v16 σ15 H locs hp hw => ?_)
  obtain ⟨p16_0, p16_1⟩ := hp
  have fr := oFr_tr fr p16_0 (by decide)
  refine lv_icmp_eq (tgt := 1516) hx hb dL_law_694 (by decide) (fun c17 => ?_) (fun c17 => absurd (i32_eq (by have := (f385).1; have := (f385).2; have := (f514).1; have := (f514).2; have := (f515).1; have := (f515).2; have := (f587).1; have := (f587).2; have := (f588).1; have := (f588).2; have := (f655).1; have := (f655).2; have := (f672).1; have := (f672).2; have := (f653).1; have := (f653).2; have := (f650).1; have := (f650).2; have := (f651).1; have := (f651).2; have := (f657).1; have := (f657).2; have := (i641).1; have := (i641).2; have := (i642).1; have := (i642).2; have := (p4_1).1; have := (p4_1).2; have := (p16_1).1; have := (p16_1).2; have : (σ15.1 385 t).toInt = ((σ.1 385 t) : Int32).toInt := congrArg Int32.toInt (show σ15.1 385 t = (σ.1 385 t) from ((kp_c p16_0 (by decide)).trans ((kp_c p4_0 (by decide)).trans rfl))); have : (σ15.1 514 w).toInt = ((σ.1 514 w) : Int32).toInt := congrArg Int32.toInt (show σ15.1 514 w = (σ.1 514 w) from ((kp_c p16_0 (by decide)).trans ((kp_c p4_0 (by decide)).trans rfl))); have : (σ15.1 515 w).toInt = ((σ.1 515 w) : Int32).toInt := congrArg Int32.toInt (show σ15.1 515 w = (σ.1 515 w) from ((kp_c p16_0 (by decide)).trans ((kp_c p4_0 (by decide)).trans rfl))); have : (σ15.1 587 x).toInt = ((σ.1 587 x) : Int32).toInt := congrArg Int32.toInt (show σ15.1 587 x = (σ.1 587 x) from ((kp_c p16_0 (by decide)).trans ((kp_c p4_0 (by decide)).trans rfl))); have : (σ15.1 588 x).toInt = ((σ.1 588 x) : Int32).toInt := congrArg Int32.toInt (show σ15.1 588 x = (σ.1 588 x) from ((kp_c p16_0 (by decide)).trans ((kp_c p4_0 (by decide)).trans rfl))); have : (σ15.1 655 k).toInt = ((σ.1 655 k) : Int32).toInt := congrArg Int32.toInt (show σ15.1 655 k = (σ.1 655 k) from ((kp_c p16_0 (by decide)).trans ((kp_c p4_0 (by decide)).trans rfl))); have : (σ15.1 672 k).toInt = ((σ.1 672 k) : Int32).toInt := congrArg Int32.toInt (show σ15.1 672 k = (σ.1 672 k) from ((kp_c p16_0 (by decide)).trans ((kp_c p4_0 (by decide)).trans rfl))); have : (σ15.1 653 k).toInt = ((σ.1 653 k) : Int32).toInt := congrArg Int32.toInt (show σ15.1 653 k = (σ.1 653 k) from ((kp_c p16_0 (by decide)).trans ((kp_c p4_0 (by decide)).trans rfl))); have : (σ15.1 650 k).toInt = ((σ.1 650 k) : Int32).toInt := congrArg Int32.toInt (show σ15.1 650 k = (σ.1 650 k) from ((kp_c p16_0 (by decide)).trans ((kp_c p4_0 (by decide)).trans rfl))); have : (σ15.1 651 k).toInt = ((σ.1 651 k) : Int32).toInt := congrArg Int32.toInt (show σ15.1 651 k = (σ.1 651 k) from ((kp_c p16_0 (by decide)).trans ((kp_c p4_0 (by decide)).trans rfl))); have : (σ15.1 657 k).toInt = ((σ.1 657 k) : Int32).toInt := congrArg Int32.toInt (show σ15.1 657 k = (σ.1 657 k) from ((kp_c p16_0 (by decide)).trans ((kp_c p4_0 (by decide)).trans rfl))); have : (σ15.1 641 k).toInt = ((σ.1 641 k) : Int32).toInt := congrArg Int32.toInt (show σ15.1 641 k = (σ.1 641 k) from ((kp_c p16_0 (by decide)).trans ((kp_c p4_0 (by decide)).trans rfl))); have : (σ15.1 642 k).toInt = ((σ.1 642 k) : Int32).toInt := congrArg Int32.toInt (show σ15.1 642 k = (σ.1 642 k) from ((kp_c p16_0 (by decide)).trans ((kp_c p4_0 (by decide)).trans rfl))); omega)) c17)
  refine W.widen (k := cells + 1) (n := slots + 6) (by omega) (by omega) ?_
  exact kk σ15 H locs ls hw (lv_sub hl [0, 1, 2, 3, 4] rfl)
set_option maxHeartbeats 4000000 in
set_option maxRecDepth 100000 in
theorem lc_13 (cx : oCx p s m args c cL_law 8 RL cy D A K) (hA : ∀ q, s.heap.size ≤ q → A q) (hfl : l.stackTraces = false) (hX : va_X b N xs s s.heap) (hbl : b < s.heap.size) (hbA : ¬ A b) (hN : N ≤ 2560) (h0 : 0 ≤ i.toInt) (h5 : i.toInt + 5 ≤ (N : Int)) (hw : oI A L τ cy D s.heap σ H locs) (I : lI L τ σ x k o t w) (F : lF L τ σ x k) (hl : lv_has ls 8 [(4, .int i), (3, .ref o), (2, .ref k), (1, .ref x), (0, .ref b)]) (hf0 : cells + 0 ≤ room_1.cells ∧ slots + 0 ≤ room_1.slots) (hf1 : cells + 1 ≤ room_1.cells ∧ slots + 6 ≤ room_1.slots) (hf2 : cells + 1 + 0 ≤ room_1.cells ∧ slots + 6 + 0 ≤ room_1.slots)
    (kk : ∀ (σ1 : oSt) (H1 : Heap) (locs1 : List Loc) (ls1 : Array Slot), oI A L τ cy D s.heap σ1 H1 locs1 → lv_has ls1 8 [(4, .int i), (3, .ref o), (2, .ref k), (1, .ref x), (0, .ref b)] → W p l e room_1 s m args below meth c H1 locs1 (cells + 1) (slots + 6) Q (F0 m 1516 ls1 [])) : W p l e room_1 s m args below meth c H locs cells slots Q (F0 m 699 ls []) := by
  have hx := cx.1.1
  have hb := cx.1.2.1
  have hml := cx.1.2.2.1
  have hown := cx.1.2.2.2.1
  have hts := cx.1.2.2.2.2
  have fr : oFr τ fs_law ts_law σ σ := oFr_rf
  obtain ⟨t1, t2, t3, t4⟩ := id I.2.2.2.2.2
  have i641 : Iv (σ.1 641 k) 0 0 := o_fb (j := 641) hw I.2.1 rfl
  have i642 : Iv (σ.1 642 k) 0 0 := o_fb (j := 642) hw I.2.1 rfl
  obtain ⟨hq, b_576_385, b_585_130, b_581_330, b_581_329, b_581_331, b_580_514, b_580_515, b_577_193, f587, f588, f655, f672, f653, f650, f651, f657⟩ := id F
  have hz := hq_hz hq
  have f385 := b_576_385 t I.2.2.2.1
  have f514 := b_580_514 w I.2.2.2.2.1
  have f515 := b_580_515 w I.2.2.2.2.1
  have hw0 := hw
  refine lv_aload_n hx hb dL_law_699 rfl (lv_at hl 3 rfl) ?_
  refine o_ci hw (oRunV cx hA hw q_X10_hour k_m_L_86 rfl I.1 (by decide) (As := []) (c_X10_hour x I.1 hz) (by decide) rfl hl.1 rfl (Nat.le_of_ble_eq_true rfl) dL_law_700 hf0) (fun v2 σ1 H locs hp hw => ?_)
  obtain ⟨p2_0, p2_1⟩ := hp
  have fr := oFr_tr fr p2_0 (by decide)
  refine lv_aload_n hx hb dL_law_703 rfl (lv_at hl 2 rfl) ?_
  have z3 : (σ1.1 385 t).toInt = ((σ.1 385 t) : Int32).toInt := congrArg Int32.toInt (show σ1.1 385 t = (σ.1 385 t) from ((kp_c p2_0 (by decide)).trans rfl))
  have z4 : (σ1.1 514 w).toInt = ((σ.1 514 w) : Int32).toInt := congrArg Int32.toInt (show σ1.1 514 w = (σ.1 514 w) from ((kp_c p2_0 (by decide)).trans rfl))
  have z5 : (σ1.1 515 w).toInt = ((σ.1 515 w) : Int32).toInt := congrArg Int32.toInt (show σ1.1 515 w = (σ.1 515 w) from ((kp_c p2_0 (by decide)).trans rfl))
  have z6 : (σ1.1 655 k).toInt = ((σ.1 655 k) : Int32).toInt := congrArg Int32.toInt (show σ1.1 655 k = (σ.1 655 k) from ((kp_c p2_0 (by decide)).trans rfl))
  have z7 : (σ1.1 650 k).toInt = ((σ.1 650 k) : Int32).toInt := congrArg Int32.toInt (show σ1.1 650 k = (σ.1 650 k) from ((kp_c p2_0 (by decide)).trans rfl))
  have z8 : (σ1.1 651 k).toInt = ((σ.1 651 k) : Int32).toInt := congrArg Int32.toInt (show σ1.1 651 k = (σ.1 651 k) from ((kp_c p2_0 (by decide)).trans rfl))
  have z9 : (σ1.1 641 k).toInt = ((σ.1 641 k) : Int32).toInt := congrArg Int32.toInt (show σ1.1 641 k = (σ.1 641 k) from ((kp_c p2_0 (by decide)).trans rfl))
  have z10 : (σ1.1 642 k).toInt = ((σ.1 642 k) : Int32).toInt := congrArg Int32.toInt (show σ1.1 642 k = (σ.1 642 k) from ((kp_c p2_0 (by decide)).trans rfl))
  refine o_ci hw (oRunV cx hA hw q_X11_hour k_m_L_89 rfl I.2.1 (by decide) (As := []) (c_X11_hour k I.2.1) (by decide) rfl hl.1 rfl (Nat.le_of_ble_eq_true rfl) dL_law_704 hf0) (fun v12 σ11 H locs hp hw => ?_)
  obtain ⟨p12_0, p12_1, p12_2⟩ := hp
  have fr := oFr_tr fr p12_0 (by decide)
  refine lv_icmp_eq (tgt := 1516) hx hb dL_law_707 (by decide) (fun c13 => ?_) (fun c13 => absurd (i32_eq (by have := (f385).1; have := (f385).2; have := (f514).1; have := (f514).2; have := (f515).1; have := (f515).2; have := (f587).1; have := (f587).2; have := (f588).1; have := (f588).2; have := (f655).1; have := (f655).2; have := (f653).1; have := (f653).2; have := (f650).1; have := (f650).2; have := (f651).1; have := (f651).2; have := (i641).1; have := (i641).2; have := (i642).1; have := (i642).2; have := (p2_1).1; have := (p2_1).2; have := (p12_1).1; have := (p12_1).2; have : (σ11.1 385 t).toInt = ((σ.1 385 t) : Int32).toInt := congrArg Int32.toInt (show σ11.1 385 t = (σ.1 385 t) from ((kp_c p12_0 (by decide)).trans ((kp_c p2_0 (by decide)).trans rfl))); have : (σ11.1 514 w).toInt = ((σ.1 514 w) : Int32).toInt := congrArg Int32.toInt (show σ11.1 514 w = (σ.1 514 w) from ((kp_c p12_0 (by decide)).trans ((kp_c p2_0 (by decide)).trans rfl))); have : (σ11.1 515 w).toInt = ((σ.1 515 w) : Int32).toInt := congrArg Int32.toInt (show σ11.1 515 w = (σ.1 515 w) from ((kp_c p12_0 (by decide)).trans ((kp_c p2_0 (by decide)).trans rfl))); have : (σ11.1 587 x).toInt = ((σ.1 587 x) : Int32).toInt := congrArg Int32.toInt (show σ11.1 587 x = (σ.1 587 x) from ((kp_c p12_0 (by decide)).trans ((kp_c p2_0 (by decide)).trans rfl))); have : (σ11.1 588 x).toInt = ((σ.1 588 x) : Int32).toInt := congrArg Int32.toInt (show σ11.1 588 x = (σ.1 588 x) from ((kp_c p12_0 (by decide)).trans ((kp_c p2_0 (by decide)).trans rfl))); have : (σ11.1 655 k).toInt = ((σ.1 655 k) : Int32).toInt := congrArg Int32.toInt (show σ11.1 655 k = (σ.1 655 k) from ((kp_c p12_0 (by decide)).trans ((kp_c p2_0 (by decide)).trans rfl))); have : (σ11.1 653 k).toInt = ((σ.1 653 k) : Int32).toInt := congrArg Int32.toInt (show σ11.1 653 k = (σ.1 653 k) from ((kp_c p12_0 (by decide)).trans ((kp_c p2_0 (by decide)).trans rfl))); have : (σ11.1 650 k).toInt = ((σ.1 650 k) : Int32).toInt := congrArg Int32.toInt (show σ11.1 650 k = (σ.1 650 k) from ((kp_c p12_0 (by decide)).trans ((kp_c p2_0 (by decide)).trans rfl))); have : (σ11.1 651 k).toInt = ((σ.1 651 k) : Int32).toInt := congrArg Int32.toInt (show σ11.1 651 k = (σ.1 651 k) from ((kp_c p12_0 (by decide)).trans ((kp_c p2_0 (by decide)).trans rfl))); have : (σ11.1 641 k).toInt = ((σ.1 641 k) : Int32).toInt := congrArg Int32.toInt (show σ11.1 641 k = (σ.1 641 k) from ((kp_c p12_0 (by decide)).trans ((kp_c p2_0 (by decide)).trans rfl))); have : (σ11.1 642 k).toInt = ((σ.1 642 k) : Int32).toInt := congrArg Int32.toInt (show σ11.1 642 k = (σ.1 642 k) from ((kp_c p12_0 (by decide)).trans ((kp_c p2_0 (by decide)).trans rfl))); omega)) c13)
  refine W.widen (k := cells + 1) (n := slots + 6) (by omega) (by omega) ?_
  exact kk σ11 H locs ls hw (lv_sub hl [0, 1, 2, 3, 4] rfl)
set_option maxHeartbeats 4000000 in
set_option maxRecDepth 100000 in
theorem lc_14 (cx : oCx p s m args c cL_law 8 RL cy D A K) (hA : ∀ q, s.heap.size ≤ q → A q) (hfl : l.stackTraces = false) (hX : va_X b N xs s s.heap) (hbl : b < s.heap.size) (hbA : ¬ A b) (hN : N ≤ 2560) (h0 : 0 ≤ i.toInt) (h5 : i.toInt + 5 ≤ (N : Int)) (hw : oI A L τ cy D s.heap σ H locs) (I : lI L τ σ x k o t w) (F : lF L τ σ x k) (hl : lv_has ls 8 [(4, .int i), (3, .ref o), (2, .ref k), (1, .ref x), (0, .ref b)]) (hf0 : cells + 0 ≤ room_1.cells ∧ slots + 0 ≤ room_1.slots) (hf1 : cells + 1 ≤ room_1.cells ∧ slots + 6 ≤ room_1.slots) (hf2 : cells + 1 + 0 ≤ room_1.cells ∧ slots + 6 + 0 ≤ room_1.slots)
    (kk : ∀ (σ1 : oSt) (H1 : Heap) (locs1 : List Loc) (ls1 : Array Slot), oI A L τ cy D s.heap σ1 H1 locs1 → lv_has ls1 8 [(4, .int i), (3, .ref o), (2, .ref k), (1, .ref x), (0, .ref b)] → W p l e room_1 s m args below meth c H1 locs1 (cells + 1) (slots + 6) Q (F0 m 1516 ls1 [])) : W p l e room_1 s m args below meth c H locs cells slots Q (F0 m 712 ls []) := by
  have hx := cx.1.1
  have hb := cx.1.2.1
  have hml := cx.1.2.2.1
  have hown := cx.1.2.2.2.1
  have hts := cx.1.2.2.2.2
  have fr : oFr τ fs_law ts_law σ σ := oFr_rf
  obtain ⟨t1, t2, t3, t4⟩ := id I.2.2.2.2.2
  have i641 : Iv (σ.1 641 k) 0 0 := o_fb (j := 641) hw I.2.1 rfl
  have i642 : Iv (σ.1 642 k) 0 0 := o_fb (j := 642) hw I.2.1 rfl
  obtain ⟨hq, b_576_385, b_585_130, b_581_330, b_581_329, b_581_331, b_580_514, b_580_515, b_577_193, f587, f588, f655, f672, f653, f650, f651, f657⟩ := id F
  have hz := hq_hz hq
  have f385 := b_576_385 t I.2.2.2.1
  have f514 := b_580_514 w I.2.2.2.2.1
  have f515 := b_580_515 w I.2.2.2.2.1
  have hw0 := hw
  refine lv_aload_n hx hb dL_law_712 rfl (lv_at hl 3 rfl) ?_
  refine lv_aload_n hx hb dL_law_713 rfl (lv_at hl 4 rfl) ?_
  refine lv_iload hx hb dL_law_714 (lv_at hl 0 rfl) ?_
  refine lv_iconst (v := 1) hx hb dL_law_716 (by decide) ?_
  refine lv_iadd hx hb dL_law_717 ?_
  refine va_sld hx hb hX hbl hbA hw.2.2.1 (lx_in h0 h5 hN (by decide)) dL_law_718 ?_
  refine lv_topi (fun v1 e1 => ?_)
  refine o_ci hw (oRunV cx hA hw q_X10_hours k_m_L_90 rfl I.1 (by decide) (As := [.int v1]) (c_X10_hours x I.1 v1 hz) (by decide) rfl hl.1 rfl (Nat.le_of_ble_eq_true rfl) dL_law_719 hf0) (fun v3 σ2 H locs hp hw => ?_)
  obtain ⟨p3_0, p3_1, p3_2⟩ := hp
  have fr := oFr_tr fr p3_0 (by decide)
  refine lv_aload_n hx hb dL_law_722 rfl (lv_at hl 2 rfl) ?_
  refine lv_aload_n hx hb dL_law_723 rfl (lv_at hl 4 rfl) ?_
  refine lv_iload hx hb dL_law_724 (lv_at hl 0 rfl) ?_
  refine lv_iconst (v := 1) hx hb dL_law_726 (by decide) ?_
  refine lv_iadd hx hb dL_law_727 ?_
  refine va_sld hx hb hX hbl hbA hw.2.2.1 (lx_in h0 h5 hN (by decide)) dL_law_728 ?_
  refine lv_topi (fun v4 e4 => ?_)
  rw [show v4 = v1 from e4.trans e1.symm]
  have z5 : (σ2.1 385 t).toInt = ((σ.1 385 t) : Int32).toInt := congrArg Int32.toInt (show σ2.1 385 t = (σ.1 385 t) from ((kp_c p3_0 (by decide)).trans rfl))
  have z6 : (σ2.1 514 w).toInt = ((σ.1 514 w) : Int32).toInt := congrArg Int32.toInt (show σ2.1 514 w = (σ.1 514 w) from ((kp_c p3_0 (by decide)).trans rfl))
  have z7 : (σ2.1 515 w).toInt = ((σ.1 515 w) : Int32).toInt := congrArg Int32.toInt (show σ2.1 515 w = (σ.1 515 w) from ((kp_c p3_0 (by decide)).trans rfl))
  have z8 : (σ2.1 655 k).toInt = ((σ.1 655 k) : Int32).toInt := congrArg Int32.toInt (show σ2.1 655 k = (σ.1 655 k) from ((kp_c p3_0 (by decide)).trans rfl))
  have z9 : (σ2.1 650 k).toInt = ((σ.1 650 k) : Int32).toInt := congrArg Int32.toInt (show σ2.1 650 k = (σ.1 650 k) from ((kp_c p3_0 (by decide)).trans rfl))
  have z10 : (σ2.1 651 k).toInt = ((σ.1 651 k) : Int32).toInt := congrArg Int32.toInt (show σ2.1 651 k = (σ.1 651 k) from ((kp_c p3_0 (by decide)).trans rfl))
  have z11 : (σ2.1 641 k).toInt = ((σ.1 641 k) : Int32).toInt := congrArg Int32.toInt (show σ2.1 641 k = (σ.1 641 k) from ((kp_c p3_0 (by decide)).trans rfl))
  have z12 : (σ2.1 642 k).toInt = ((σ.1 642 k) : Int32).toInt := congrArg Int32.toInt (show σ2.1 642 k = (σ.1 642 k) from ((kp_c p3_0 (by decide)).trans rfl))
  refine o_ci hw (oRunV cx hA hw q_X11_hours k_m_L_93 rfl I.2.1 (by decide) (As := [.int v1]) (c_X11_hours k I.2.1 v1) (by decide) rfl hl.1 rfl (Nat.le_of_ble_eq_true rfl) dL_law_729 hf0) (fun v14 σ13 H locs hp hw => ?_)
  obtain ⟨p14_0, p14_1, p14_2⟩ := hp
  have fr := oFr_tr fr p14_0 (by decide)
  refine lv_icmp_eq (tgt := 1516) hx hb dL_law_732 (by decide) (fun c15 => ?_) (fun c15 => absurd (i32_eq (by have := (f385).1; have := (f385).2; have := (f514).1; have := (f514).2; have := (f515).1; have := (f515).2; have := (f587).1; have := (f587).2; have := (f588).1; have := (f588).2; have := (f655).1; have := (f655).2; have := (f653).1; have := (f653).2; have := (f650).1; have := (f650).2; have := (f651).1; have := (f651).2; have := (i641).1; have := (i641).2; have := (i642).1; have := (i642).2; have := (p3_1).1; have := (p3_1).2; have := (p14_1).1; have := (p14_1).2; have : (σ13.1 385 t).toInt = ((σ.1 385 t) : Int32).toInt := congrArg Int32.toInt (show σ13.1 385 t = (σ.1 385 t) from ((kp_c p14_0 (by decide)).trans ((kp_c p3_0 (by decide)).trans rfl))); have : (σ13.1 514 w).toInt = ((σ.1 514 w) : Int32).toInt := congrArg Int32.toInt (show σ13.1 514 w = (σ.1 514 w) from ((kp_c p14_0 (by decide)).trans ((kp_c p3_0 (by decide)).trans rfl))); have : (σ13.1 515 w).toInt = ((σ.1 515 w) : Int32).toInt := congrArg Int32.toInt (show σ13.1 515 w = (σ.1 515 w) from ((kp_c p14_0 (by decide)).trans ((kp_c p3_0 (by decide)).trans rfl))); have : (σ13.1 587 x).toInt = ((σ.1 587 x) : Int32).toInt := congrArg Int32.toInt (show σ13.1 587 x = (σ.1 587 x) from ((kp_c p14_0 (by decide)).trans ((kp_c p3_0 (by decide)).trans rfl))); have : (σ13.1 588 x).toInt = ((σ.1 588 x) : Int32).toInt := congrArg Int32.toInt (show σ13.1 588 x = (σ.1 588 x) from ((kp_c p14_0 (by decide)).trans ((kp_c p3_0 (by decide)).trans rfl))); have : (σ13.1 655 k).toInt = ((σ.1 655 k) : Int32).toInt := congrArg Int32.toInt (show σ13.1 655 k = (σ.1 655 k) from ((kp_c p14_0 (by decide)).trans ((kp_c p3_0 (by decide)).trans rfl))); have : (σ13.1 653 k).toInt = ((σ.1 653 k) : Int32).toInt := congrArg Int32.toInt (show σ13.1 653 k = (σ.1 653 k) from ((kp_c p14_0 (by decide)).trans ((kp_c p3_0 (by decide)).trans rfl))); have : (σ13.1 650 k).toInt = ((σ.1 650 k) : Int32).toInt := congrArg Int32.toInt (show σ13.1 650 k = (σ.1 650 k) from ((kp_c p14_0 (by decide)).trans ((kp_c p3_0 (by decide)).trans rfl))); have : (σ13.1 651 k).toInt = ((σ.1 651 k) : Int32).toInt := congrArg Int32.toInt (show σ13.1 651 k = (σ.1 651 k) from ((kp_c p14_0 (by decide)).trans ((kp_c p3_0 (by decide)).trans rfl))); have : (σ13.1 641 k).toInt = ((σ.1 641 k) : Int32).toInt := congrArg Int32.toInt (show σ13.1 641 k = (σ.1 641 k) from ((kp_c p14_0 (by decide)).trans ((kp_c p3_0 (by decide)).trans rfl))); have : (σ13.1 642 k).toInt = ((σ.1 642 k) : Int32).toInt := congrArg Int32.toInt (show σ13.1 642 k = (σ.1 642 k) from ((kp_c p14_0 (by decide)).trans ((kp_c p3_0 (by decide)).trans rfl))); omega)) c15)
  refine W.widen (k := cells + 1) (n := slots + 6) (by omega) (by omega) ?_
  exact kk σ13 H locs ls hw (lv_sub hl [0, 1, 2, 3, 4] rfl)
set_option maxHeartbeats 4000000 in
set_option maxRecDepth 100000 in
theorem lc_15 (cx : oCx p s m args c cL_law 8 RL cy D A K) (hA : ∀ q, s.heap.size ≤ q → A q) (hfl : l.stackTraces = false) (hX : va_X b N xs s s.heap) (hbl : b < s.heap.size) (hbA : ¬ A b) (hN : N ≤ 2560) (h0 : 0 ≤ i.toInt) (h5 : i.toInt + 5 ≤ (N : Int)) (hw : oI A L τ cy D s.heap σ H locs) (I : lI L τ σ x k o t w) (F : lF L τ σ x k) (hl : lv_has ls 8 [(4, .int i), (3, .ref o), (2, .ref k), (1, .ref x), (0, .ref b)]) (hf0 : cells + 0 ≤ room_1.cells ∧ slots + 0 ≤ room_1.slots) (hf1 : cells + 1 ≤ room_1.cells ∧ slots + 6 ≤ room_1.slots) (hf2 : cells + 1 + 0 ≤ room_1.cells ∧ slots + 6 + 0 ≤ room_1.slots)
    (kk : ∀ (σ1 : oSt) (H1 : Heap) (locs1 : List Loc) (ls1 : Array Slot), oI A L τ cy D s.heap σ1 H1 locs1 → lv_has ls1 8 [(4, .int i), (3, .ref o), (2, .ref k), (1, .ref x), (0, .ref b)] → W p l e room_1 s m args below meth c H1 locs1 (cells + 1) (slots + 6) Q (F0 m 1516 ls1 [])) : W p l e room_1 s m args below meth c H locs cells slots Q (F0 m 737 ls []) := by
  have hx := cx.1.1
  have hb := cx.1.2.1
  have hml := cx.1.2.2.1
  have hown := cx.1.2.2.2.1
  have hts := cx.1.2.2.2.2
  have fr : oFr τ fs_law ts_law σ σ := oFr_rf
  obtain ⟨t1, t2, t3, t4⟩ := id I.2.2.2.2.2
  have i641 : Iv (σ.1 641 k) 0 0 := o_fb (j := 641) hw I.2.1 rfl
  have i642 : Iv (σ.1 642 k) 0 0 := o_fb (j := 642) hw I.2.1 rfl
  obtain ⟨hq, b_576_385, b_585_130, b_581_330, b_581_329, b_581_331, b_580_514, b_580_515, b_577_193, f587, f588, f655, f672, f653, f650, f651, f657⟩ := id F
  have hz := hq_hz hq
  have f385 := b_576_385 t I.2.2.2.1
  have f514 := b_580_514 w I.2.2.2.2.1
  have f515 := b_580_515 w I.2.2.2.2.1
  have hw0 := hw
  refine lv_aload_n hx hb dL_law_737 rfl (lv_at hl 3 rfl) ?_
  refine o_ci hw (oRunV cx hA hw q_X10_day k_m_L_94 rfl I.1 (by decide) (As := []) (c_X10_day x I.1 hz b_576_385) (by decide) rfl hl.1 rfl (Nat.le_of_ble_eq_true rfl) dL_law_738 hf0) (fun v2 σ1 H locs hp hw => ?_)
  obtain ⟨p2_0, p2_1, p2_2⟩ := hp
  have fr := oFr_tr fr p2_0 (by decide)
  have z3 := p2_2 t (I.2.2.2.1)
  have z4 := z3.1
  have z5 := z3.2
  refine lv_aload_n hx hb dL_law_741 rfl (lv_at hl 2 rfl) ?_
  have z6 : (σ1.1 514 w).toInt = ((σ.1 514 w) : Int32).toInt := congrArg Int32.toInt (show σ1.1 514 w = (σ.1 514 w) from ((kp_c p2_0 (by decide)).trans rfl))
  have z7 : (σ1.1 515 w).toInt = ((σ.1 515 w) : Int32).toInt := congrArg Int32.toInt (show σ1.1 515 w = (σ.1 515 w) from ((kp_c p2_0 (by decide)).trans rfl))
  have z8 : (σ1.1 655 k).toInt = ((σ.1 655 k) : Int32).toInt := congrArg Int32.toInt (show σ1.1 655 k = (σ.1 655 k) from ((kp_c p2_0 (by decide)).trans rfl))
  have z9 : (σ1.1 650 k).toInt = ((σ.1 650 k) : Int32).toInt := congrArg Int32.toInt (show σ1.1 650 k = (σ.1 650 k) from ((kp_c p2_0 (by decide)).trans rfl))
  have z10 : (σ1.1 651 k).toInt = ((σ.1 651 k) : Int32).toInt := congrArg Int32.toInt (show σ1.1 651 k = (σ.1 651 k) from ((kp_c p2_0 (by decide)).trans rfl))
  have z11 : (σ1.1 641 k).toInt = ((σ.1 641 k) : Int32).toInt := congrArg Int32.toInt (show σ1.1 641 k = (σ.1 641 k) from ((kp_c p2_0 (by decide)).trans rfl))
  have z12 : (σ1.1 642 k).toInt = ((σ.1 642 k) : Int32).toInt := congrArg Int32.toInt (show σ1.1 642 k = (σ.1 642 k) from ((kp_c p2_0 (by decide)).trans rfl))
  refine o_ci hw (oRunV cx hA hw q_X11_day k_m_L_97 rfl I.2.1 (by decide) (As := []) (c_X11_day k I.2.1 (kn_iv (((kp_c p2_0 (by decide)).trans rfl)) (iv_w f655 (by decide)))) (by decide) rfl hl.1 rfl (Nat.le_of_ble_eq_true rfl) dL_law_742 hf0) (fun v14 σ13 H locs hp hw => ?_)
  obtain ⟨p14_0, p14_1⟩ := hp
  have fr := oFr_tr fr p14_0 (by decide)
  refine lv_icmp_eq (tgt := 1516) hx hb dL_law_745 (by decide) (fun c15 => ?_) (fun c15 => absurd (i32_eq (by have := (f514).1; have := (f514).2; have := (f515).1; have := (f515).2; have := (f587).1; have := (f587).2; have := (f588).1; have := (f588).2; have := (f672).1; have := (f672).2; have := (f653).1; have := (f653).2; have := (f650).1; have := (f650).2; have := (f651).1; have := (f651).2; have := (i641).1; have := (i641).2; have := (i642).1; have := (i642).2; have := (p2_1).1; have := (p2_1).2; have := (p14_1).1; have := (p14_1).2; have := (f385).1; have := (f385).2; have := (f655).1; have := (f655).2; have : (σ13.1 514 w).toInt = ((σ.1 514 w) : Int32).toInt := congrArg Int32.toInt (show σ13.1 514 w = (σ.1 514 w) from ((kp_c p14_0 (by decide)).trans ((kp_c p2_0 (by decide)).trans rfl))); have : (σ13.1 515 w).toInt = ((σ.1 515 w) : Int32).toInt := congrArg Int32.toInt (show σ13.1 515 w = (σ.1 515 w) from ((kp_c p14_0 (by decide)).trans ((kp_c p2_0 (by decide)).trans rfl))); have : (σ13.1 587 x).toInt = ((σ.1 587 x) : Int32).toInt := congrArg Int32.toInt (show σ13.1 587 x = (σ.1 587 x) from ((kp_c p14_0 (by decide)).trans ((kp_c p2_0 (by decide)).trans rfl))); have : (σ13.1 588 x).toInt = ((σ.1 588 x) : Int32).toInt := congrArg Int32.toInt (show σ13.1 588 x = (σ.1 588 x) from ((kp_c p14_0 (by decide)).trans ((kp_c p2_0 (by decide)).trans rfl))); have : (σ13.1 672 k).toInt = ((σ.1 672 k) : Int32).toInt := congrArg Int32.toInt (show σ13.1 672 k = (σ.1 672 k) from ((kp_c p14_0 (by decide)).trans ((kp_c p2_0 (by decide)).trans rfl))); have : (σ13.1 653 k).toInt = ((σ.1 653 k) : Int32).toInt := congrArg Int32.toInt (show σ13.1 653 k = (σ.1 653 k) from ((kp_c p14_0 (by decide)).trans ((kp_c p2_0 (by decide)).trans rfl))); have : (σ13.1 650 k).toInt = ((σ.1 650 k) : Int32).toInt := congrArg Int32.toInt (show σ13.1 650 k = (σ.1 650 k) from ((kp_c p14_0 (by decide)).trans ((kp_c p2_0 (by decide)).trans rfl))); have : (σ13.1 651 k).toInt = ((σ.1 651 k) : Int32).toInt := congrArg Int32.toInt (show σ13.1 651 k = (σ.1 651 k) from ((kp_c p14_0 (by decide)).trans ((kp_c p2_0 (by decide)).trans rfl))); have : (σ13.1 641 k).toInt = ((σ.1 641 k) : Int32).toInt := congrArg Int32.toInt (show σ13.1 641 k = (σ.1 641 k) from ((kp_c p14_0 (by decide)).trans ((kp_c p2_0 (by decide)).trans rfl))); have : (σ13.1 642 k).toInt = ((σ.1 642 k) : Int32).toInt := congrArg Int32.toInt (show σ13.1 642 k = (σ.1 642 k) from ((kp_c p14_0 (by decide)).trans ((kp_c p2_0 (by decide)).trans rfl))); have : (σ13.1 385 t).toInt = ((σ1.1 385 t) : Int32).toInt := congrArg Int32.toInt (show σ13.1 385 t = (σ1.1 385 t) from ((kp_c p14_0 (by decide)).trans rfl)); omega)) c15)
  refine W.widen (k := cells + 1) (n := slots + 6) (by omega) (by omega) ?_
  exact kk σ13 H locs ls hw (lv_sub hl [0, 1, 2, 3, 4] rfl)
end LAW
