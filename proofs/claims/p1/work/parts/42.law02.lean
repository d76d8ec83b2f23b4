section LAW
variable {p : Program} {l : Launch} {e : Env} {s : State} {m : MethodId} {args : Array Value} {below : List Frame} {meth : Method} {c : Code} {H : Heap} {locs : List Loc} {cells slots : Nat} {Q : State → Prop}
variable {ls : Array Slot} {A : Nat → Prop} {L : List Nat} {τ : Nat → Nat} {cy : Nat → ClassId} {D : va_G} {K : (Nat → Nat) × (Nat → Nat)} {σ : oSt} {b N x k o t w : Nat} {xs : Nat → Int32} {i : Int32}
set_option maxHeartbeats 4000000 in
set_option maxRecDepth 100000 in
theorem lc_16 (cx : oCx p s m args c cL_law 8 RL cy D A K) (hA : ∀ q, s.heap.size ≤ q → A q) (hfl : l.stackTraces = false) (hX : va_X b N xs s s.heap) (hbl : b < s.heap.size) (hbA : ¬ A b) (hN : N ≤ 2560) (h0 : 0 ≤ i.toInt) (h5 : i.toInt + 5 ≤ (N : Int)) (hw : oI A L τ cy D s.heap σ H locs) (I : lI L τ σ x k o t w) (F : lF L τ σ x k) (hl : lv_has ls 8 [(4, .int i), (3, .ref o), (2, .ref k), (1, .ref x), (0, .ref b)]) (hf0 : cells + 0 ≤ room_1.cells ∧ slots + 0 ≤ room_1.slots) (hf1 : cells + 1 ≤ room_1.cells ∧ slots + 6 ≤ room_1.slots) (hf2 : cells + 1 + 0 ≤ room_1.cells ∧ slots + 6 + 0 ≤ room_1.slots)
    (kk : ∀ (σ1 : oSt) (H1 : Heap) (locs1 : List Loc) (ls1 : Array Slot), oI A L τ cy D s.heap σ1 H1 locs1 → lv_has ls1 8 [(4, .int i), (3, .ref o), (2, .ref k), (1, .ref x), (0, .ref b)] → W p l e room_1 s m args below meth c H1 locs1 (cells + 1) (slots + 6) Q (F0 m 1516 ls1 [])) : W p l e room_1 s m args below meth c H locs cells slots Q (F0 m 750 ls []) := by
  have hx := cx.1.1
  have hb := cx.1.2.1
  have hml := cx.1.2.2.1
  have hown := cx.1.2.2.2.1
  have hts := cx.1.2.2.2.2
  have fr : oFr τ fs_law ts_law σ σ := oFr_rf
  obtain ⟨t1, t2, t3, t4⟩ := id I.2.2.2.2.2
  have i641 : Iv (σ.1 641 k) 0 0 := o_fb (j := 641) hw I.2.1 rfl
  have i642 : Iv (σ.1 642 k) 0 0 := o_fb (j := 642) hw I.2.1 rfl
  obtain ⟨hq, b_576_385, b_585_130, b_581_330, b_581_329, b_581_331, b_580_514, b_580_515, b_577_193, f587, f588, f655, f672, f653, f650, f651, f657⟩ := id F
  have hz := hq_hz hq
  have f385 := b_576_385 t I.2.2.2.1
  have f514 := b_580_514 w I.2.2.2.2.1
  have f515 := b_580_515 w I.2.2.2.2.1
  have hw0 := hw
  refine lv_aload_n hx hb dL_law_750 rfl (lv_at hl 3 rfl) ?_
  refine o_ci hw (oRunV cx hA hw q_X10_undo k_m_L_98 rfl I.1 (by decide) (As := []) (c_X10_undo x I.1 b_585_130) (by decide) rfl hl.1 rfl (Nat.le_of_ble_eq_true rfl) dL_law_751 hf0) (fun v2 σ1 H locs hp hw => ?_)
  obtain ⟨p2_0, p2_1⟩ := hp
  rw [p2_0] at hw
  refine lv_aload_n hx hb dL_law_754 rfl (lv_at hl 2 rfl) ?_
  refine o_ci hw (oRunV cx hA hw q_X11_undo k_m_L_101 rfl I.2.1 (by decide) (As := []) (c_X11_undo k I.2.1 (kn_iv (rfl) (iv_w f672 (by decide)))) (by decide) rfl hl.1 rfl (Nat.le_of_ble_eq_true rfl) dL_law_755 hf0) (fun v4 σ3 H locs hp hw => ?_)
  obtain ⟨p4_0, p4_1⟩ := hp
  have fr := oFr_tr fr p4_0 (by decide)
  refine lv_icmp_eq (tgt := 1516) hx hb dL_law_758 (by decide) (fun c5 => ?_) (fun c5 => absurd (i32_eq (by have := (f385).1; have := (f385).2; have := (f514).1; have := (f514).2; have := (f515).1; have := (f515).2; have := (f587).1; have := (f587).2; have := (f588).1; have := (f588).2; have := (f655).1; have := (f655).2; have := (f672).1; have := (f672).2; have := (f653).1; have := (f653).2; have := (f650).1; have := (f650).2; have := (f651).1; have := (f651).2; have := (f657).1; have := (f657).2; have := (i641).1; have := (i641).2; have := (i642).1; have := (i642).2; have := (p2_1).1; have := (p2_1).2; have := (p4_1).1; have := (p4_1).2; have : (σ3.1 385 t).toInt = ((σ.1 385 t) : Int32).toInt := congrArg Int32.toInt (show σ3.1 385 t = (σ.1 385 t) from ((kp_c p4_0 (by decide)).trans rfl)); have : (σ3.1 514 w).toInt = ((σ.1 514 w) : Int32).toInt := congrArg Int32.toInt (show σ3.1 514 w = (σ.1 514 w) from ((kp_c p4_0 (by decide)).trans rfl)); have : (σ3.1 515 w).toInt = ((σ.1 515 w) : Int32).toInt := congrArg Int32.toInt (show σ3.1 515 w = (σ.1 515 w) from ((kp_c p4_0 (by decide)).trans rfl)); have : (σ3.1 587 x).toInt = ((σ.1 587 x) : Int32).toInt := congrArg Int32.toInt (show σ3.1 587 x = (σ.1 587 x) from ((kp_c p4_0 (by decide)).trans rfl)); have : (σ3.1 588 x).toInt = ((σ.1 588 x) : Int32).toInt := congrArg Int32.toInt (show σ3.1 588 x = (σ.1 588 x) from ((kp_c p4_0 (by decide)).trans rfl)); have : (σ3.1 655 k).toInt = ((σ.1 655 k) : Int32).toInt := congrArg Int32.toInt (show σ3.1 655 k = (σ.1 655 k) from ((kp_c p4_0 (by decide)).trans rfl)); have : (σ3.1 672 k).toInt = ((σ.1 672 k) : Int32).toInt := congrArg Int32.toInt (show σ3.1 672 k = (σ.1 672 k) from ((kp_c p4_0 (by decide)).trans rfl)); have : (σ3.1 653 k).toInt = ((σ.1 653 k) : Int32).toInt := congrArg Int32.toInt (show σ3.1 653 k = (σ.1 653 k) from ((kp_c p4_0 (by decide)).trans rfl)); have : (σ3.1 650 k).toInt = ((σ.1 650 k) : Int32).toInt := congrArg Int32.toInt (show σ3.1 650 k = (σ.1 650 k) from ((kp_c p4_0 (by decide)).trans rfl)); have : (σ3.1 651 k).toInt = ((σ.1 651 k) : Int32).toInt := congrArg Int32.toInt (show σ3.1 651 k = (σ.1 651 k) from ((kp_c p4_0 (by decide)).trans rfl)); have : (σ3.1 657 k).toInt = ((σ.1 657 k) : Int32).toInt := congrArg Int32.toInt (show σ3.1 657 k = (σ.1 657 k) from ((kp_c p4_0 (by decide)).trans rfl)); have : (σ3.1 641 k).toInt = ((σ.1 641 k) : Int32).toInt := congrArg Int32.toInt (show σ3.1 641 k = (σ.1 641 k) from ((kp_c p4_0 (by decide)).trans rfl)); have : (σ3.1 642 k).toInt = ((σ.1 642 k) : Int32).toInt := congrArg Int32.toInt (show σ3.1 642 k = (σ.1 642 k) from ((kp_c p4_0 (by decide)).trans rfl)); omega)) c5)
  refine W.widen (k := cells + 1) (n := slots + 6) (by omega) (by omega) ?_
  exact kk σ3 H locs ls hw (lv_sub hl [0, 1, 2, 3, 4] rfl)
set_option maxHeartbeats 4000000 in
set_option maxRecDepth 100000 in
theorem lc_17 (cx : oCx p s m args c cL_law 8 RL cy D A K) (hA : ∀ q, s.heap.size ≤ q → A q) (hfl : l.stackTraces = false) (hX : va_X b N xs s s.heap) (hbl : b < s.heap.size) (hbA : ¬ A b) (hN : N ≤ 2560) (h0 : 0 ≤ i.toInt) (h5 : i.toInt + 5 ≤ (N : Int)) (hw : oI A L τ cy D s.heap σ H locs) (I : lI L τ σ x k o t w) (F : lF L τ σ x k) (hl : lv_has ls 8 [(4, .int i), (3, .ref o), (2, .ref k), (1, .ref x), (0, .ref b)]) (hf0 : cells + 0 ≤ room_1.cells ∧ slots + 0 ≤ room_1.slots) (hf1 : cells + 1 ≤ room_1.cells ∧ slots + 6 ≤ room_1.slots) (hf2 : cells + 1 + 0 ≤ room_1.cells ∧ slots + 6 + 0 ≤ room_1.slots)
    (kk : ∀ (σ1 : oSt) (H1 : Heap) (locs1 : List Loc) (ls1 : Array Slot), oI A L τ cy D s.heap σ1 H1 locs1 → lv_has ls1 8 [(4, .int i), (3, .ref o), (2, .ref k), (1, .ref x), (0, .ref b)] → W p l e room_1 s m args below meth c H1 locs1 (cells + 1) (slots + 6) Q (F0 m 1516 ls1 [])) : W p l e room_1 s m args below meth c H locs cells slots Q (F0 m 763 ls []) := by
  have hx := cx.1.1
  have hb := cx.1.2.1
  have hml := cx.1.2.2.1
  have hown := cx.1.2.2.2.1
  have hts := cx.1.2.2.2.2
  have fr : oFr τ fs_law ts_law σ σ := oFr_rf
  obtain ⟨t1, t2, t3, t4⟩ := id I.2.2.2.2.2
  have i641 : Iv (σ.1 641 k) 0 0 := o_fb (j := 641) hw I.2.1 rfl
  have i642 : Iv (σ.1 642 k) 0 0 := o_fb (j := 642) hw I.2.1 rfl
  obtain ⟨hq, b_576_385, b_585_130, b_581_330, b_581_329, b_581_331, b_580_514, b_580_515, b_577_193, f587, f588, f655, f672, f653, f650, f651, f657⟩ := id F
  have hz := hq_hz hq
  have f385 := b_576_385 t I.2.2.2.1
  have f514 := b_580_514 w I.2.2.2.2.1
  have f515 := b_580_515 w I.2.2.2.2.1
  have hw0 := hw
  refine lv_aload_n hx hb dL_law_763 rfl (lv_at hl 3 rfl) ?_
  refine o_ci hw (oRunV cx hA hw q_X10_road k_m_L_102 rfl I.1 (by decide) (As := []) (c_X10_road x I.1) (by decide) rfl hl.1 rfl (Nat.le_of_ble_eq_true rfl) dL_law_764 hf0) (fun v2 σ1 H locs hp hw => ?_)
  obtain ⟨p2_0, p2_1⟩ := hp
  have fr := oFr_tr fr p2_0 (by decide)
  refine lv_aload_n hx hb dL_law_767 rfl (lv_at hl 2 rfl) ?_
  have z3 : (σ1.1 385 t).toInt = ((σ.1 385 t) : Int32).toInt := congrArg Int32.toInt (show σ1.1 385 t = (σ.1 385 t) from ((kp_c p2_0 (by decide)).trans rfl))
  have z4 : (σ1.1 514 w).toInt = ((σ.1 514 w) : Int32).toInt := congrArg Int32.toInt (show σ1.1 514 w = (σ.1 514 w) from ((kp_c p2_0 (by decide)).trans rfl))
  have z5 : (σ1.1 515 w).toInt = ((σ.1 515 w) : Int32).toInt := congrArg Int32.toInt (show σ1.1 515 w = (σ.1 515 w) from ((kp_c p2_0 (by decide)).trans rfl))
  have z6 : (σ1.1 655 k).toInt = ((σ.1 655 k) : Int32).toInt := congrArg Int32.toInt (show σ1.1 655 k = (σ.1 655 k) from ((kp_c p2_0 (by decide)).trans rfl))
  have z7 : (σ1.1 650 k).toInt = ((σ.1 650 k) : Int32).toInt := congrArg Int32.toInt (show σ1.1 650 k = (σ.1 650 k) from ((kp_c p2_0 (by decide)).trans rfl))
  have z8 : (σ1.1 651 k).toInt = ((σ.1 651 k) : Int32).toInt := congrArg Int32.toInt (show σ1.1 651 k = (σ.1 651 k) from ((kp_c p2_0 (by decide)).trans rfl))
  have z9 : (σ1.1 641 k).toInt = ((σ.1 641 k) : Int32).toInt := congrArg Int32.toInt (show σ1.1 641 k = (σ.1 641 k) from ((kp_c p2_0 (by decide)).trans rfl))
  have z10 : (σ1.1 642 k).toInt = ((σ.1 642 k) : Int32).toInt := congrArg Int32.toInt (show σ1.1 642 k = (σ.1 642 k) from ((kp_c p2_0 (by decide)).trans rfl))
  refine o_ci hw (oRunV cx hA hw q_X11_road k_m_L_105 rfl I.2.1 (by decide) (As := []) (c_X11_road k I.2.1) (by decide) rfl hl.1 rfl (Nat.le_of_ble_eq_true rfl) dL_law_768 hf0) (fun v12 σ11 H locs hp hw => ?_)
  obtain ⟨p12_0, p12_1⟩ := hp
  have fr := oFr_tr fr p12_0 (by decide)
  refine lv_icmp_eq (tgt := 1516) hx hb dL_law_771 (by decide) (fun c13 => ?_) (fun c13 => absurd (i32_eq (by have := (f385).1; have := (f385).2; have := (f514).1; have := (f514).2; have := (f515).1; have := (f515).2; have := (f587).1; have := (f587).2; have := (f588).1; have := (f588).2; have := (f655).1; have := (f655).2; have := (f672).1; have := (f672).2; have := (f653).1; have := (f653).2; have := (f650).1; have := (f650).2; have := (f651).1; have := (f651).2; have := (i641).1; have := (i641).2; have := (i642).1; have := (i642).2; have := (p2_1).1; have := (p2_1).2; have := (p12_1).1; have := (p12_1).2; have : (σ11.1 385 t).toInt = ((σ.1 385 t) : Int32).toInt := congrArg Int32.toInt (show σ11.1 385 t = (σ.1 385 t) from ((kp_c p12_0 (by decide)).trans ((kp_c p2_0 (by decide)).trans rfl))); have : (σ11.1 514 w).toInt = ((σ.1 514 w) : Int32).toInt := congrArg Int32.toInt (show σ11.1 514 w = (σ.1 514 w) from ((kp_c p12_0 (by decide)).trans ((kp_c p2_0 (by decide)).trans rfl))); have : (σ11.1 515 w).toInt = ((σ.1 515 w) : Int32).toInt := congrArg Int32.toInt (show σ11.1 515 w = (σ.1 515 w) from ((kp_c p12_0 (by decide)).trans ((kp_c p2_0 (by decide)).trans rfl))); have : (σ11.1 587 x).toInt = ((σ.1 587 x) : Int32).toInt := congrArg Int32.toInt (show σ11.1 587 x = (σ.1 587 x) from ((kp_c p12_0 (by decide)).trans ((kp_c p2_0 (by decide)).trans rfl))); have : (σ11.1 588 x).toInt = ((σ.1 588 x) : Int32).toInt := congrArg Int32.toInt (show σ11.1 588 x = (σ.1 588 x) from ((kp_c p12_0 (by decide)).trans ((kp_c p2_0 (by decide)).trans rfl))); have : (σ11.1 655 k).toInt = ((σ.1 655 k) : Int32).toInt := congrArg Int32.toInt (show σ11.1 655 k = (σ.1 655 k) from ((kp_c p12_0 (by decide)).trans ((kp_c p2_0 (by decide)).trans rfl))); have : (σ11.1 672 k).toInt = ((σ.1 672 k) : Int32).toInt := congrArg Int32.toInt (show σ11.1 672 k = (σ.1 672 k) from ((kp_c p12_0 (by decide)).trans ((kp_c p2_0 (by decide)).trans rfl))); have : (σ11.1 653 k).toInt = ((σ.1 653 k) : Int32).toInt := congrArg Int32.toInt (show σ11.1 653 k = (σ.1 653 k) from ((kp_c p12_0 (by decide)).trans ((kp_c p2_0 (by decide)).trans rfl))); have : (σ11.1 650 k).toInt = ((σ.1 650 k) : Int32).toInt := congrArg Int32.toInt (show σ11.1 650 k = (σ.1 650 k) from ((kp_c p12_0 (by decide)).trans ((kp_c p2_0 (by decide)).trans rfl))); have : (σ11.1 651 k).toInt = ((σ.1 651 k) : Int32).toInt := congrArg Int32.toInt (show σ11.1 651 k = (σ.1 651 k) from ((kp_c p12_0 (by decide)).trans ((kp_c p2_0 (by decide)).trans rfl))); have : (σ11.1 641 k).toInt = ((σ.1 641 k) : Int32).toInt := congrArg Int32.toInt (show σ11.1 641 k = (σ.1 641 k) from ((kp_c p12_0 (by decide)).trans ((kp_c p2_0 (by decide)).trans rfl))); have : (σ11.1 642 k).toInt = ((σ.1 642 k) : Int32).toInt := congrArg Int32.toInt (show σ11.1 642 k = (σ.1 642 k) from ((kp_c p12_0 (by decide)).trans ((kp_c p2_0 (by decide)).trans rfl))); omega)) c13)
  refine W.widen (k := cells + 1) (n := slots + 6) (by omega) (by omega) ?_
  exact kk σ11 H locs ls hw (lv_sub hl [0, 1, 2, 3, 4] rfl)
set_option maxHeartbeats 4000000 in
set_option maxRecDepth 100000 in
theorem lc_18 (cx : oCx p s m args c cL_law 8 RL cy D A K) (hA : ∀ q, s.heap.size ≤ q → A q) (hfl : l.stackTraces = false) (hX : va_X b N xs s s.heap) (hbl : b < s.heap.size) (hbA : ¬ A b) (hN : N ≤ 2560) (h0 : 0 ≤ i.toInt) (h5 : i.toInt + 5 ≤ (N : Int)) (hw : oI A L τ cy D s.heap σ H locs) (I : lI L τ σ x k o t w) (F : lF L τ σ x k) (hl : lv_has ls 8 [(4, .int i), (3, .ref o), (2, .ref k), (1, .ref x), (0, .ref b)]) (hf0 : cells + 0 ≤ room_1.cells ∧ slots + 0 ≤ room_1.slots) (hf1 : cells + 1 ≤ room_1.cells ∧ slots + 6 ≤ room_1.slots) (hf2 : cells + 1 + 0 ≤ room_1.cells ∧ slots + 6 + 0 ≤ room_1.slots)
    (kk : ∀ (σ1 : oSt) (H1 : Heap) (locs1 : List Loc) (ls1 : Array Slot), oI A L τ cy D s.heap σ1 H1 locs1 → lv_has ls1 8 [(4, .int i), (3, .ref o), (2, .ref k), (1, .ref x), (0, .ref b)] → W p l e room_1 s m args below meth c H1 locs1 (cells + 1) (slots + 6) Q (F0 m 1516 ls1 [])) : W p l e room_1 s m args below meth c H locs cells slots Q (F0 m 776 ls []) := by
  have hx := cx.1.1
  have hb := cx.1.2.1
  have hml := cx.1.2.2.1
  have hown := cx.1.2.2.2.1
  have hts := cx.1.2.2.2.2
  have fr : oFr τ fs_law ts_law σ σ := oFr_rf
  obtain ⟨t1, t2, t3, t4⟩ := id I.2.2.2.2.2
  have i641 : Iv (σ.1 641 k) 0 0 := o_fb (j := 641) hw I.2.1 rfl
  have i642 : Iv (σ.1 642 k) 0 0 := o_fb (j := 642) hw I.2.1 rfl
  obtain ⟨hq, b_576_385, b_585_130, b_581_330, b_581_329, b_581_331, b_580_514, b_580_515, b_577_193, f587, f588, f655, f672, f653, f650, f651, f657⟩ := id F
  have hz := hq_hz hq
  have f385 := b_576_385 t I.2.2.2.1
  have f514 := b_580_514 w I.2.2.2.2.1
  have f515 := b_580_515 w I.2.2.2.2.1
  have hw0 := hw
  refine lv_aload_n hx hb dL_law_776 rfl (lv_at hl 3 rfl) ?_
  refine o_ci hw (oRunV cx hA hw q_X10_squares k_m_L_106 rfl I.1 (by decide) (As := []) (c_X10_squares x I.1) (by decide) rfl hl.1 rfl (Nat.le_of_ble_eq_true rfl) dL_law_777 hf0) (fun v2 σ1 H locs hp hw => ?_)
  obtain ⟨p2_0, p2_1⟩ := hp
  have fr := oFr_tr fr p2_0 (by decide)
  refine lv_aload_n hx hb dL_law_780 rfl (lv_at hl 2 rfl) ?_
  have z3 : (σ1.1 385 t).toInt = ((σ.1 385 t) : Int32).toInt := congrArg Int32.toInt (show σ1.1 385 t = (σ.1 385 t) from ((kp_c p2_0 (by decide)).trans rfl))
  have z4 : (σ1.1 514 w).toInt = ((σ.1 514 w) : Int32).toInt := congrArg Int32.toInt (show σ1.1 514 w = (σ.1 514 w) from ((kp_c p2_0 (by decide)).trans rfl))
  have z5 : (σ1.1 515 w).toInt = ((σ.1 515 w) : Int32).toInt := congrArg Int32.toInt (show σ1.1 515 w = (σ.1 515 w) from ((kp_c p2_0 (by decide)).trans rfl))
  have z6 : (σ1.1 655 k).toInt = ((σ.1 655 k) : Int32).toInt := congrArg Int32.toInt (show σ1.1 655 k = (σ.1 655 k) from ((kp_c p2_0 (by decide)).trans rfl))
  have z7 : (σ1.1 650 k).toInt = ((σ.1 650 k) : Int32).toInt := congrArg Int32.toInt (show σ1.1 650 k = (σ.1 650 k) from ((kp_c p2_0 (by decide)).trans rfl))
  have z8 : (σ1.1 651 k).toInt = ((σ.1 651 k) : Int32).toInt := congrArg Int32.toInt (show σ1.1 651 k = (σ.1 651 k) from ((kp_c p2_0 (by decide)).trans rfl))
  have z9 : (σ1.1 641 k).toInt = ((σ.1 641 k) : Int32).toInt := congrArg Int32.toInt (show σ1.1 641 k = (σ.1 641 k) from ((kp_c p2_0 (by decide)).trans rfl))
  have z10 : (σ1.1 642 k).toInt = ((σ.1 642 k) : Int32).toInt := congrArg Int32.toInt (show σ1.1 642 k = (σ.1 642 k) from ((kp_c p2_0 (by decide)).trans rfl))
  refine o_ci hw (oRunV cx hA hw q_X11_squares k_m_L_109 rfl I.2.1 (by decide) (As := []) (c_X11_squares k I.2.1) (by decide) rfl hl.1 rfl (Nat.le_of_ble_eq_true rfl) dL_law_781 hf0) (fun v12 σ11 H locs hp hw => ?_)
  obtain ⟨p12_0, p12_1⟩ := hp
  have fr := oFr_tr fr p12_0 (by decide)
  refine lv_icmp_eq (tgt := 1516) hx hb dL_law_784 (by decide) (fun c13 => ?_) (fun c13 => absurd (i32_eq (by have := (f385).1; have := (f385).2; have := (f514).1; have := (f514).2; have := (f515).1; have := (f515).2; have := (f587).1; have := (f587).2; have := (f588).1; have := (f588).2; have := (f655).1; have := (f655).2; have := (f672).1; have := (f672).2; have := (f653).1; have := (f653).2; have := (f650).1; have := (f650).2; have := (f651).1; have := (f651).2; have := (i641).1; have := (i641).2; have := (i642).1; have := (i642).2; have := (p2_1).1; have := (p2_1).2; have := (p12_1).1; have := (p12_1).2; have : (σ11.1 385 t).toInt = ((σ.1 385 t) : Int32).toInt := congrArg Int32.toInt (show σ11.1 385 t = (σ.1 385 t) from ((kp_c p12_0 (by decide)).trans ((kp_c p2_0 (by decide)).trans rfl))); have : (σ11.1 514 w).toInt = ((σ.1 514 w) : Int32).toInt := congrArg Int32.toInt (show σ11.1 514 w = (σ.1 514 w) from ((kp_c p12_0 (by decide)).trans ((kp_c p2_0 (by decide)).trans rfl))); have : (σ11.1 515 w).toInt = ((σ.1 515 w) : Int32).toInt := congrArg Int32.toInt (show σ11.1 515 w = (σ.1 515 w) from ((kp_c p12_0 (by decide)).trans ((kp_c p2_0 (by decide)).trans rfl))); have : (σ11.1 587 x).toInt = ((σ.1 587 x) : Int32).toInt := congrArg Int32.toInt (show σ11.1 587 x = (σ.1 587 x) from ((kp_c p12_0 (by decide)).trans ((kp_c p2_0 (by decide)).trans rfl))); have : (σ11.1 588 x).toInt = ((σ.1 588 x) : Int32).toInt := congrArg Int32.toInt (show σ11.1 588 x = (σ.1 588 x) from ((kp_c p12_0 (by decide)).trans ((kp_c p2_0 (by decide)).trans rfl))); have : (σ11.1 655 k).toInt = ((σ.1 655 k) : Int32).toInt := congrArg Int32.toInt (show σ11.1 655 k = (σ.1 655 k) from ((kp_c p12_0 (by decide)).trans ((kp_c p2_0 (by decide)).trans rfl))); have : (σ11.1 672 k).toInt = ((σ.1 672 k) : Int32).toInt := congrArg Int32.toInt (show σ11.1 672 k = (σ.1 672 k) from ((kp_c p12_0 (by decide)).trans ((kp_c p2_0 (by decide)).trans rfl))); have : (σ11.1 653 k).toInt = ((σ.1 653 k) : Int32).toInt := congrArg Int32.toInt (show σ11.1 653 k = (σ.1 653 k) from ((kp_c p12_0 (by decide)).trans ((kp_c p2_0 (by decide)).trans rfl))); have : (σ11.1 650 k).toInt = ((σ.1 650 k) : Int32).toInt := congrArg Int32.toInt (show σ11.1 650 k = (σ.1 650 k) from ((kp_c p12_0 (by decide)).trans ((kp_c p2_0 (by decide)).trans rfl))); have : (σ11.1 651 k).toInt = ((σ.1 651 k) : Int32).toInt := congrArg Int32.toInt (show σ11.1 651 k = (σ.1 651 k) from ((kp_c p12_0 (by decide)).trans ((kp_c p2_0 (by decide)).trans rfl))); have : (σ11.1 641 k).toInt = ((σ.1 641 k) : Int32).toInt := congrArg Int32.toInt (show σ11.1 641 k = (σ.1 641 k) from ((kp_c p12_0 (by decide)).trans ((kp_c p2_0 (by decide)).trans rfl))); have : (σ11.1 642 k).toInt = ((σ.1 642 k) : Int32).toInt := congrArg Int32.toInt (show σ11.1 642 k = (σ.1 642 k) from ((kp_c p12_0 (by decide)).trans ((kp_c p2_0 (by decide)).trans rfl))); omega)) c13)
  refine W.widen (k := cells + 1) (n := slots + 6) (by omega) (by omega) ?_
  exact kk σ11 H locs ls hw (lv_sub hl [0, 1, 2, 3, 4] rfl)
set_option maxHeartbeats 4000000 in
set_option maxRecDepth 100000 in
theorem lc_19 (cx : oCx p s m args c cL_law 8 RL cy D A K) (hA : ∀ q, s.heap.size ≤ q → A q) (hfl : l.stackTraces = false) (hX : va_X b N xs s s.heap) (hbl : b < s.heap.size) (hbA : ¬ A b) (hN : N ≤ 2560) (h0 : 0 ≤ i.toInt) (h5 : i.toInt + 5 ≤ (N : Int)) (hw : oI A L τ cy D s.heap σ H locs) (I : lI L τ σ x k o t w) (F : lF L τ σ x k) (hl : lv_has ls 8 [(4, .int i), (3, .ref o), (2, .ref k), (1, .ref x), (0, .ref b)]) (hf0 : cells + 0 ≤ room_1.cells ∧ slots + 0 ≤ room_1.slots) (hf1 : cells + 1 ≤ room_1.cells ∧ slots + 6 ≤ room_1.slots) (hf2 : cells + 1 + 0 ≤ room_1.cells ∧ slots + 6 + 0 ≤ room_1.slots)
    (kk : ∀ (σ1 : oSt) (H1 : Heap) (locs1 : List Loc) (ls1 : Array Slot), oI A L τ cy D s.heap σ1 H1 locs1 → lv_has ls1 8 [(4, .int i), (3, .ref o), (2, .ref k), (1, .ref x), (0, .ref b)] → W p l e room_1 s m args below meth c H1 locs1 (cells + 1) (slots + 6) Q (F0 m 1516 ls1 [])) : W p l e room_1 s m args below meth c H locs cells slots Q (F0 m 789 ls []) := by
  have hx := cx.1.1
  have hb := cx.1.2.1
  have hml := cx.1.2.2.1
  have hown := cx.1.2.2.2.1
  have hts := cx.1.2.2.2.2
  have fr : oFr τ fs_law ts_law σ σ := oFr_rf
  obtain ⟨t1, t2, t3, t4⟩ := id I.2.2.2.2.2
  have i641 : Iv (σ.1 641 k) 0 0 := o_fb (j := 641) hw I.2.1 rfl
  have i642 : Iv (σ.1 642 k) 0 0 := o_fb (j := 642) hw I.2.1 rfl
  obtain ⟨hq, b_576_385, b_585_130, b_581_330, b_581_329, b_581_331, b_580_514, b_580_515, b_577_193, f587, f588, f655, f672, f653, f650, f651, f657⟩ := id F
  have hz := hq_hz hq
  have f385 := b_576_385 t I.2.2.2.1
  have f514 := b_580_514 w I.2.2.2.2.1
  have f515 := b_580_515 w I.2.2.2.2.1
  have hw0 := hw
  refine lv_aload_n hx hb dL_law_789 rfl (lv_at hl 3 rfl) ?_
  refine lv_aload_n hx hb dL_law_790 rfl (lv_at hl 4 rfl) ?_
  refine lv_iload hx hb dL_law_791 (lv_at hl 0 rfl) ?_
  refine lv_iconst (v := 1) hx hb dL_law_793 (by decide) ?_
  refine lv_iadd hx hb dL_law_794 ?_
  refine va_sld hx hb hX hbl hbA hw.2.2.1 (lx_in h0 h5 hN (by decide)) dL_law_795 ?_
  refine lv_topi (fun v1 e1 => ?_)
  refine lv_aload_n hx hb dL_law_796 rfl (lv_at hl 4 rfl) ?_
  refine lv_iload hx hb dL_law_797 (lv_at hl 0 rfl) ?_
  refine lv_iconst (v := 2) hx hb dL_law_799 (by decide) ?_
  refine lv_iadd hx hb dL_law_800 ?_
  refine va_sld hx hb hX hbl hbA hw.2.2.1 (lx_in h0 h5 hN (by decide)) dL_law_801 ?_
  refine lv_topi (fun v2 e2 => ?_)
  refine o_ci hw (oRunV cx hA hw q_X10_cart k_m_L_110 rfl I.1 (by decide) (As := [.int v1, .int v2]) (c_X10_cart x I.1 v1 v2 hz) (by decide) rfl hl.1 rfl (Nat.le_of_ble_eq_true rfl) dL_law_802 hf0) (fun v4 σ3 H locs hp hw => ?_)
  obtain ⟨p4_0, p4_1⟩ := hp
  rw [p4_0] at hw
  refine lv_aload_n hx hb dL_law_805 rfl (lv_at hl 2 rfl) ?_
  refine lv_aload_n hx hb dL_law_806 rfl (lv_at hl 4 rfl) ?_
  refine lv_iload hx hb dL_law_807 (lv_at hl 0 rfl) ?_
  refine lv_iconst (v := 1) hx hb dL_law_809 (by decide) ?_
  refine lv_iadd hx hb dL_law_810 ?_
  refine va_sld hx hb hX hbl hbA hw.2.2.1 (lx_in h0 h5 hN (by decide)) dL_law_811 ?_
  refine lv_topi (fun v5 e5 => ?_)
  rw [show v5 = v1 from e5.trans e1.symm]
  refine lv_aload_n hx hb dL_law_812 rfl (lv_at hl 4 rfl) ?_
  refine lv_iload hx hb dL_law_813 (lv_at hl 0 rfl) ?_
  refine lv_iconst (v := 2) hx hb dL_law_815 (by decide) ?_
  refine lv_iadd hx hb dL_law_816 ?_
  refine va_sld hx hb hX hbl hbA hw.2.2.1 (lx_in h0 h5 hN (by decide)) dL_law_817 ?_
  refine lv_topi (fun v6 e6 => ?_)
  rw [show v6 = v2 from e6.trans e2.symm]
  refine o_ci hw (oRunV cx hA hw q_X11_cart k_m_L_113 rfl I.2.1 (by decide) (As := [.int v1, .int v2]) (c_X11_cart k I.2.1 v1 v2) (by decide) rfl hl.1 rfl (Nat.le_of_ble_eq_true rfl) dL_law_818 hf0) (fun v8 σ7 H locs hp hw => ?_)
  obtain ⟨p8_0, p8_1⟩ := hp
  have fr := oFr_tr fr p8_0 (by decide)
  refine lv_icmp_eq (tgt := 1516) hx hb dL_law_821 (by decide) (fun c9 => ?_) (fun c9 => absurd (i32_eq (by have := (f385).1; have := (f385).2; have := (f514).1; have := (f514).2; have := (f515).1; have := (f515).2; have := (f587).1; have := (f587).2; have := (f588).1; have := (f588).2; have := (f655).1; have := (f655).2; have := (f672).1; have := (f672).2; have := (f653).1; have := (f653).2; have := (f650).1; have := (f650).2; have := (f651).1; have := (f651).2; have := (f657).1; have := (f657).2; have := (i641).1; have := (i641).2; have := (i642).1; have := (i642).2; have := (p4_1).1; have := (p4_1).2; have := (p8_1).1; have := (p8_1).2; have : (σ7.1 385 t).toInt = ((σ.1 385 t) : Int32).toInt := congrArg Int32.toInt (show σ7.1 385 t = (σ.1 385 t) from ((kp_c p8_0 (by decide)).trans rfl)); have : (σ7.1 514 w).toInt = ((σ.1 514 w) : Int32).toInt := congrArg Int32.toInt (show σ7.1 514 w = (σ.1 514 w) from ((kp_c p8_0 (by decide)).trans rfl)); have : (σ7.1 515 w).toInt = ((σ.1 515 w) : Int32).toInt := congrArg Int32.toInt (show σ7.1 515 w = (σ.1 515 w) from ((kp_c p8_0 (by decide)).trans rfl)); have : (σ7.1 587 x).toInt = ((σ.1 587 x) : Int32).toInt := congrArg Int32.toInt (show σ7.1 587 x = (σ.1 587 x) from ((kp_c p8_0 (by decide)).trans rfl)); have : (σ7.1 588 x).toInt = ((σ.1 588 x) : Int32).toInt := congrArg Int32.toInt (show σ7.1 588 x = (σ.1 588 x) from ((kp_c p8_0 (by decide)).trans rfl)); have : (σ7.1 655 k).toInt = ((σ.1 655 k) : Int32).toInt := congrArg Int32.toInt (show σ7.1 655 k = (σ.1 655 k) from ((kp_c p8_0 (by decide)).trans rfl)); have : (σ7.1 672 k).toInt = ((σ.1 672 k) : Int32).toInt := congrArg Int32.toInt (show σ7.1 672 k = (σ.1 672 k) from ((kp_c p8_0 (by decide)).trans rfl)); have : (σ7.1 653 k).toInt = ((σ.1 653 k) : Int32).toInt := congrArg Int32.toInt (show σ7.1 653 k = (σ.1 653 k) from ((kp_c p8_0 (by decide)).trans rfl)); have : (σ7.1 650 k).toInt = ((σ.1 650 k) : Int32).toInt := congrArg Int32.toInt (show σ7.1 650 k = (σ.1 650 k) from ((kp_c p8_0 (by decide)).trans rfl)); have : (σ7.1 651 k).toInt = ((σ.1 651 k) : Int32).toInt := congrArg Int32.toInt (show σ7.1 651 k = (σ.1 651 k) from ((kp_c p8_0 (by decide)).trans rfl)); have : (σ7.1 657 k).toInt = ((σ.1 657 k) : Int32).toInt := congrArg Int32.toInt (show σ7.1 657 k = (σ.1 657 k) from ((kp_c p8_0 (by decide)).trans rfl)); have : (σ7.1 641 k).toInt = ((σ.1 641 k) : Int32).toInt := congrArg Int32.toInt (show σ7.1 641 k = (σ.1 641 k) from ((kp_c p8_0 (by decide)).trans rfl)); have : (σ7.1 642 k).toInt = ((σ.1 642 k) : Int32).toInt := congrArg Int32.toInt (show σ7.1 642 k = (σ.1 642 k) from ((kp_c p8_0 (by decide)).trans rfl)); omega)) c9)
  refine W.widen (k := cells + 1) (n := slots + 6) (by omega) (by omega) ?_
  exact kk σ7 H locs ls hw (lv_sub hl [0, 1, 2, 3, 4] rfl)
set_option maxHeartbeats 4000000 in
set_option maxRecDepth 100000 in
theorem lc_20 (cx : oCx p s m args c cL_law 8 RL cy D A K) (hA : ∀ q, s.heap.size ≤ q → A q) (hfl : l.stackTraces = false) (hX : va_X b N xs s s.heap) (hbl : b < s.heap.size) (hbA : ¬ A b) (hN : N ≤ 2560) (h0 : 0 ≤ i.toInt) (h5 : i.toInt + 5 ≤ (N : Int)) (hw : oI A L τ cy D s.heap σ H locs) (I : lI L τ σ x k o t w) (F : lF L τ σ x k) (hl : lv_has ls 8 [(4, .int i), (3, .ref o), (2, .ref k), (1, .ref x), (0, .ref b)]) (hf0 : cells + 0 ≤ room_1.cells ∧ slots + 0 ≤ room_1.slots) (hf1 : cells + 1 ≤ room_1.cells ∧ slots + 6 ≤ room_1.slots) (hf2 : cells + 1 + 0 ≤ room_1.cells ∧ slots + 6 + 0 ≤ room_1.slots)
    (kk : ∀ (σ1 : oSt) (H1 : Heap) (locs1 : List Loc) (ls1 : Array Slot), oI A L τ cy D s.heap σ1 H1 locs1 → lv_has ls1 8 [(4, .int i), (3, .ref o), (2, .ref k), (1, .ref x), (0, .ref b)] → W p l e room_1 s m args below meth c H1 locs1 (cells + 1) (slots + 6) Q (F0 m 1516 ls1 [])) : W p l e room_1 s m args below meth c H locs cells slots Q (F0 m 826 ls []) := by
  have hx := cx.1.1
  have hb := cx.1.2.1
  have hml := cx.1.2.2.1
  have hown := cx.1.2.2.2.1
  have hts := cx.1.2.2.2.2
  have fr : oFr τ fs_law ts_law σ σ := oFr_rf
  obtain ⟨t1, t2, t3, t4⟩ := id I.2.2.2.2.2
  have i641 : Iv (σ.1 641 k) 0 0 := o_fb (j := 641) hw I.2.1 rfl
  have i642 : Iv (σ.1 642 k) 0 0 := o_fb (j := 642) hw I.2.1 rfl
  obtain ⟨hq, b_576_385, b_585_130, b_581_330, b_581_329, b_581_331, b_580_514, b_580_515, b_577_193, f587, f588, f655, f672, f653, f650, f651, f657⟩ := id F
  have hz := hq_hz hq
  have f385 := b_576_385 t I.2.2.2.1
  have f514 := b_580_514 w I.2.2.2.2.1
  have f515 := b_580_515 w I.2.2.2.2.1
  have hw0 := hw
  refine lv_aload_n hx hb dL_law_826 rfl (lv_at hl 3 rfl) ?_
  refine lv_aload_n hx hb dL_law_827 rfl (lv_at hl 4 rfl) ?_
  refine lv_iload hx hb dL_law_828 (lv_at hl 0 rfl) ?_
  refine lv_iconst (v := 1) hx hb dL_law_830 (by decide) ?_
  refine lv_iadd hx hb dL_law_831 ?_
  refine va_sld hx hb hX hbl hbA hw.2.2.1 (lx_in h0 h5 hN (by decide)) dL_law_832 ?_
  refine lv_topi (fun v1 e1 => ?_)
  refine o_ci hw (oRunV cx hA hw q_X10_joined k_m_L_114 rfl I.1 (by decide) (As := [.int v1]) (c_X10_joined x I.1 v1) (by decide) rfl hl.1 rfl (Nat.le_of_ble_eq_true rfl) dL_law_833 hf0) (fun v3 σ2 H locs hp hw => ?_)
  obtain ⟨p3_0, p3_1⟩ := hp
  rw [p3_0] at hw
  refine lv_aload_n hx hb dL_law_836 rfl (lv_at hl 2 rfl) ?_
  refine lv_aload_n hx hb dL_law_837 rfl (lv_at hl 4 rfl) ?_
  refine lv_iload hx hb dL_law_838 (lv_at hl 0 rfl) ?_
  refine lv_iconst (v := 1) hx hb dL_law_840 (by decide) ?_
  refine lv_iadd hx hb dL_law_841 ?_
  refine va_sld hx hb hX hbl hbA hw.2.2.1 (lx_in h0 h5 hN (by decide)) dL_law_842 ?_
  refine lv_topi (fun v4 e4 => ?_)
  rw [show v4 = v1 from e4.trans e1.symm]
  refine o_ci hw (oRunV cx hA hw q_X11_joined k_m_L_117 rfl I.2.1 (by decide) (As := [.int v1]) (c_X11_joined k I.2.1 v1) (by decide) rfl hl.1 rfl (Nat.le_of_ble_eq_true rfl) dL_law_843 hf0) (fun v6 σ5 H locs hp hw => ?_)
  obtain ⟨p6_0, p6_1⟩ := hp
  have fr := oFr_tr fr p6_0 (by decide)
  refine lv_icmp_eq (tgt := 1516) hx hb dL_law_846 (by decide) (fun c7 => ?_) (fun c7 => absurd (i32_eq (by have := (f385).1; have := (f385).2; have := (f514).1; have := (f514).2; have := (f515).1; have := (f515).2; have := (f587).1; have := (f587).2; have := (f588).1; have := (f588).2; have := (f655).1; have := (f655).2; have := (f672).1; have := (f672).2; have := (f653).1; have := (f653).2; have := (f650).1; have := (f650).2; have := (f651).1; have := (f651).2; have := (f657).1; have := (f657).2; have := (i641).1; have := (i641).2; have := (i642).1; have := (i642).2; have := (p3_1).1; have := (p3_1).2; have := (p6_1).1; have := (p6_1).2; have : (σ5.1 385 t).toInt = ((σ.1 385 t) : Int32).toInt := congrArg Int32.toInt (show σ5.1 385 t = (σ.1 385 t) from ((kp_c p6_0 (by decide)).trans rfl)); have : (σ5.1 514 w).toInt = ((σ.1 514 w) : Int32).toInt := congrArg Int32.toInt (show σ5.1 514 w = (σ.1 514 w) from ((kp_c p6_0 (by decide)).trans rfl)); have : (σ5.1 515 w).toInt = ((σ.1 515 w) : Int32).toInt := congrArg Int32.toInt (show σ5.1 515 w = (σ.1 515 w) from ((kp_c p6_0 (by decide)).trans rfl)); have : (σ5.1 587 x).toInt = ((σ.1 587 x) : Int32).toInt := congrArg Int32.toInt (show σ5.1 587 x = (σ.1 587 x) from ((kp_c p6_0 (by decide)).trans rfl)); have : (σ5.1 588 x).toInt = ((σ.1 588 x) : Int32).toInt := congrArg Int32.toInt (show σ5.1 588 x = (σ.1 588 x) from ((kp_c p6_0 (by decide)).trans rfl)); have : (σ5.1 655 k).toInt = ((σ.1 655 k) : Int32).toInt := congrArg Int32.toInt (show σ5.1 655 k = (σ.1 655 k) from ((kp_c p6_0 (by decide)).trans rfl)); have : (σ5.1 672 k).toInt = ((σ.1 672 k) : Int32).toInt := congrArg Int32.toInt (show σ5.1 672 k = (σ.1 672 k) from ((kp_c p6_0 (by decide)).trans rfl)); have : (σ5.1 653 k).toInt = ((σ.1 653 k) : Int32).toInt := congrArg Int32.toInt (show σ5.1 653 k = (σ.1 653 k) from ((kp_c p6_0 (by decide)).trans rfl)); have : (σ5.1 650 k).toInt = ((σ.1 650 k) : Int32).toInt := congrArg Int32.toInt (show σ5.1 650 k = (σ.1 650 k) from ((kp_c p6_0 (by decide)).trans rfl)); have : (σ5.1 651 k).toInt = ((σ.1 651 k) : Int32).toInt := congrArg Int32.toInt (show σ5.1 651 k = (σ.1 651 k) from ((kp_c p6_0 (by decide)).trans rfl)); have : (σ5.1 657 k).toInt = ((σ.1 657 k) : Int32).toInt := congrArg Int32.toInt (show σ5.1 657 k = (σ.1 657 k) from ((kp_c p6_0 (by decide)).trans rfl)); have : (σ5.1 641 k).toInt = ((σ.1 641 k) : Int32).toInt := congrArg Int32.toInt (show σ5.1 641 k = (σ.1 641 k) from ((kp_c p6_0 (by decide)).trans rfl)); have : (σ5.1 642 k).toInt = ((σ.1 642 k) : Int32).toInt := congrArg Int32.toInt (show σ5.1 642 k = (σ.1 642 k) from ((kp_c p6_0 (by decide)).trans rfl)); omega)) c7)
  refine W.widen (k := cells + 1) (n := slots + 6) (by omega) (by omega) ?_
  exact kk σ5 H locs ls hw (lv_sub hl [0, 1, 2, 3, 4] rfl)
set_option maxHeartbeats 4000000 in
set_option maxRecDepth 100000 in
theorem lc_21 (cx : oCx p s m args c cL_law 8 RL cy D A K) (hA : ∀ q, s.heap.size ≤ q → A q) (hfl : l.stackTraces = false) (hX : va_X b N xs s s.heap) (hbl : b < s.heap.size) (hbA : ¬ A b) (hN : N ≤ 2560) (h0 : 0 ≤ i.toInt) (h5 : i.toInt + 5 ≤ (N : Int)) (hw : oI A L τ cy D s.heap σ H locs) (I : lI L τ σ x k o t w) (F : lF L τ σ x k) (hl : lv_has ls 8 [(4, .int i), (3, .ref o), (2, .ref k), (1, .ref x), (0, .ref b)]) (hf0 : cells + 0 ≤ room_1.cells ∧ slots + 0 ≤ room_1.slots) (hf1 : cells + 1 ≤ room_1.cells ∧ slots + 6 ≤ room_1.slots) (hf2 : cells + 1 + 0 ≤ room_1.cells ∧ slots + 6 + 0 ≤ room_1.slots)
    (kk : ∀ (σ1 : oSt) (H1 : Heap) (locs1 : List Loc) (ls1 : Array Slot), oI A L τ cy D s.heap σ1 H1 locs1 → lv_has ls1 8 [(4, .int i), (3, .ref o), (2, .ref k), (1, .ref x), (0, .ref b)] → W p l e room_1 s m args below meth c H1 locs1 (cells + 1) (slots + 6) Q (F0 m 1516 ls1 [])) : W p l e room_1 s m args below meth c H locs cells slots Q (F0 m 851 ls []) := by
  have hx := cx.1.1
  have hb := cx.1.2.1
  have hml := cx.1.2.2.1
  have hown := cx.1.2.2.2.1
  have hts := cx.1.2.2.2.2
  have fr : oFr τ fs_law ts_law σ σ := oFr_rf
  obtain ⟨t1, t2, t3, t4⟩ := id I.2.2.2.2.2
  have i641 : Iv (σ.1 641 k) 0 0 := o_fb (j := 641) hw I.2.1 rfl
  have i642 : Iv (σ.1 642 k) 0 0 := o_fb (j := 642) hw I.2.1 rfl
  obtain ⟨hq, b_576_385, b_585_130, b_581_330, b_581_329, b_581_331, b_580_514, b_580_515, b_577_193, f587, f588, f655, f672, f653, f650, f651, f657⟩ := id F
  have hz := hq_hz hq
  have f385 := b_576_385 t I.2.2.2.1
  have f514 := b_580_514 w I.2.2.2.2.1
  have f515 := b_580_515 w I.2.2.2.2.1
  have hw0 := hw
  refine lv_aload_n hx hb dL_law_851 rfl (lv_at hl 3 rfl) ?_
  refine o_ci hw (oRunV cx hA hw q_X10_owners k_m_L_118 rfl I.1 (by decide) (As := []) (c_X10_owners x I.1) (by decide) rfl hl.1 rfl (Nat.le_of_ble_eq_true rfl) dL_law_852 hf0) (fun v2 σ1 H locs hp hw => ?_)
  obtain ⟨p2_0, p2_1⟩ := hp
  rw [p2_0] at hw
  refine lv_aload_n hx hb dL_law_855 rfl (lv_at hl 2 rfl) ?_
  refine o_ci hw (oRunV cx hA hw q_X11_owners k_m_L_121 rfl I.2.1 (by decide) (As := []) (c_X11_owners k I.2.1) (by decide) rfl hl.1 rfl (Nat.le_of_ble_eq_true rfl) dL_law_856 hf0) (fun v4 σ3 H locs hp hw => ?_)
  obtain ⟨p4_0, p4_1⟩ := hp
  have fr := oFr_tr fr p4_0 (by decide)
  refine lv_icmp_eq (tgt := 1516) hx hb dL_law_859 (by decide) (fun c5 => ?_) (fun c5 => absurd (i32_eq (by have := (f385).1; have := (f385).2; have := (f514).1; have := (f514).2; have := (f515).1; have := (f515).2; have := (f587).1; have := (f587).2; have := (f588).1; have := (f588).2; have := (f655).1; have := (f655).2; have := (f672).1; have := (f672).2; have := (f653).1; have := (f653).2; have := (f650).1; have := (f650).2; have := (f651).1; have := (f651).2; have := (f657).1; have := (f657).2; have := (i641).1; have := (i641).2; have := (i642).1; have := (i642).2; have := (p2_1).1; have := (p2_1).2; have := (p4_1).1; have := (p4_1).2; have : (σ3.1 385 t).toInt = ((σ.1 385 t) : Int32).toInt := congrArg Int32.toInt (show σ3.1 385 t = (σ.1 385 t) from ((kp_c p4_0 (by decide)).trans rfl)); have : (σ3.1 514 w).toInt = ((σ.1 514 w) : Int32).toInt := congrArg Int32.toInt (show σ3.1 514 w = (σ.1 514 w) from ((kp_c p4_0 (by decide)).trans rfl)); have : (σ3.1 515 w).toInt = ((σ.1 515 w) : Int32).toInt := congrArg Int32.toInt (show σ3.1 515 w = (σ.1 515 w) from ((kp_c p4_0 (by decide)).trans rfl)); have : (σ3.1 587 x).toInt = ((σ.1 587 x) : Int32).toInt := congrArg Int32.toInt (show σ3.1 587 x = (σ.1 587 x) from ((kp_c p4_0 (by decide)).trans rfl)); have : (σ3.1 588 x).toInt = ((σ.1 588 x) : Int32).toInt := congrArg Int32.toInt (show σ3.1 588 x = (σ.1 588 x) from ((kp_c p4_0 (by decide)).trans rfl)); have : (σ3.1 655 k).toInt = ((σ.1 655 k) : Int32).toInt := congrArg Int32.toInt (show σ3.1 655 k = (σ.1 655 k) from ((kp_c p4_0 (by decide)).trans rfl)); have : (σ3.1 672 k).toInt = ((σ.1 672 k) : Int32).toInt := congrArg Int32.toInt (show σ3.1 672 k = (σ.1 672 k) from ((kp_c p4_0 (by decide)).trans rfl)); have : (σ3.1 653 k).toInt = ((σ.1 653 k) : Int32).toInt := congrArg Int32.toInt (show σ3.1 653 k = (σ.1 653 k) from ((kp_c p4_0 (by decide)).trans rfl)); have : (σ3.1 650 k).toInt = ((σ.1 650 k) : Int32).toInt := congrArg Int32.toInt (show σ3.1 650 k = (σ.1 650 k) from ((kp_c p4_0 (by decide)).trans rfl)); have : (σ3.1 651 k).toInt = ((σ.1 651 k) : Int32).toInt := congrArg Int32.toInt (show σ3.1 651 k = (σ.1 651 k) from ((kp_c p4_0 (by decide)).trans rfl)); have : (σ3.1 657 k).toInt = ((σ.1 657 k) : Int32).toInt := congrArg Int32.toInt (show σ3.1 657 k = (σ.1 657 k) from ((kp_c p4_0 (by decide)).trans rfl)); have : (σ3.1 641 k).toInt = ((σ.1 641 k) : Int32).toInt := congrArg Int32.toInt (show σ3.1 641 k = (σ.1 641 k) from ((kp_c p4_0 (by decide)).trans rfl)); have : (σ3.1 642 k).toInt = ((σ.1 642 k) : Int32).toInt := congrArg Int32.toInt (show σ3.1 642 k = (σ.1 642 k) from ((kp_c p4_0 (by decide)).trans rfl)); omega)) c5)
  refine W.widen (k := cells + 1) (n := slots + 6) (by omega) (by omega) ?_
  exact kk σ3 H locs ls hw (lv_sub hl [0, 1, 2, 3, 4] rfl)
set_option maxHeartbeats 4000000 in
set_option maxRecDepth 100000 in
theorem lc_22 (cx : oCx p s m args c cL_law 8 RL cy D A K) (hA : ∀ q, s.heap.size ≤ q → A q) (hfl : l.stackTraces = false) (hX : va_X b N xs s s.heap) (hbl : b < s.heap.size) (hbA : ¬ A b) (hN : N ≤ 2560) (h0 : 0 ≤ i.toInt) (h5 : i.toInt + 5 ≤ (N : Int)) (hw : oI A L τ cy D s.heap σ H locs) (I : lI L τ σ x k o t w) (F : lF L τ σ x k) (hl : lv_has ls 8 [(4, .int i), (3, .ref o), (2, .ref k), (1, .ref x), (0, .ref b)]) (hf0 : cells + 0 ≤ room_1.cells ∧ slots + 0 ≤ room_1.slots) (hf1 : cells + 1 ≤ room_1.cells ∧ slots + 6 ≤ room_1.slots) (hf2 : cells + 1 + 0 ≤ room_1.cells ∧ slots + 6 + 0 ≤ room_1.slots)
    (kk : ∀ (σ1 : oSt) (H1 : Heap) (locs1 : List Loc) (ls1 : Array Slot), oI A L τ cy D s.heap σ1 H1 locs1 → lv_has ls1 8 [(4, .int i), (3, .ref o), (2, .ref k), (1, .ref x), (0, .ref b)] → W p l e room_1 s m args below meth c H1 locs1 (cells + 1) (slots + 6) Q (F0 m 1516 ls1 [])) : W p l e room_1 s m args below meth c H locs cells slots Q (F0 m 864 ls []) := by
  have hx := cx.1.1
  have hb := cx.1.2.1
  have hml := cx.1.2.2.1
  have hown := cx.1.2.2.2.1
  have hts := cx.1.2.2.2.2
  have fr : oFr τ fs_law ts_law σ σ := oFr_rf
  obtain ⟨t1, t2, t3, t4⟩ := id I.2.2.2.2.2
  have i641 : Iv (σ.1 641 k) 0 0 := o_fb (j := 641) hw I.2.1 rfl
  have i642 : Iv (σ.1 642 k) 0 0 := o_fb (j := 642) hw I.2.1 rfl
  obtain ⟨hq, b_576_385, b_585_130, b_581_330, b_581_329, b_581_331, b_580_514, b_580_515, b_577_193, f587, f588, f655, f672, f653, f650, f651, f657⟩ := id F
  have hz := hq_hz hq
  have f385 := b_576_385 t I.2.2.2.1
  have f514 := b_580_514 w I.2.2.2.2.1
  have f515 := b_580_515 w I.2.2.2.2.1
  have hw0 := hw
  refine lv_aload_n hx hb dL_law_864 rfl (lv_at hl 3 rfl) ?_
  refine o_ci hw (oRunV cx hA hw q_X10_least k_m_L_122 rfl I.1 (by decide) (As := []) (c_X10_least x I.1) (by decide) rfl hl.1 rfl (Nat.le_of_ble_eq_true rfl) dL_law_865 hf0) (fun v2 σ1 H locs hp hw => ?_)
  obtain ⟨p2_0, p2_1⟩ := hp
  rw [p2_0] at hw
  refine lv_aload_n hx hb dL_law_868 rfl (lv_at hl 2 rfl) ?_
  refine o_ci hw (oRunV cx hA hw q_X11_least k_m_L_125 rfl I.2.1 (by decide) (As := []) (c_X11_least k I.2.1) (by decide) rfl hl.1 rfl (Nat.le_of_ble_eq_true rfl) dL_law_869 hf0) (fun v4 σ3 H locs hp hw => ?_)
  obtain ⟨p4_0, p4_1, p4_2⟩ := hp
  have fr := oFr_tr fr p4_0 (by decide)
  have z5 := congrArg Int32.toInt p4_2
  refine lv_icmp_eq (tgt := 1516) hx hb dL_law_872 (by decide) (fun c6 => ?_) (fun c6 => absurd (i32_eq (by have := (f385).1; have := (f385).2; have := (f514).1; have := (f514).2; have := (f515).1; have := (f515).2; have := (f587).1; have := (f587).2; have := (f588).1; have := (f588).2; have := (f655).1; have := (f655).2; have := (f672).1; have := (f672).2; have := (f653).1; have := (f653).2; have := (f651).1; have := (f651).2; have := (f657).1; have := (f657).2; have := (i641).1; have := (i641).2; have := (i642).1; have := (i642).2; have := (p2_1).1; have := (p2_1).2; have := (p4_1).1; have := (p4_1).2; have : (σ3.1 385 t).toInt = ((σ.1 385 t) : Int32).toInt := congrArg Int32.toInt (show σ3.1 385 t = (σ.1 385 t) from ((kp_c p4_0 (by decide)).trans rfl)); have : (σ3.1 514 w).toInt = ((σ.1 514 w) : Int32).toInt := congrArg Int32.toInt (show σ3.1 514 w = (σ.1 514 w) from ((kp_c p4_0 (by decide)).trans rfl)); have : (σ3.1 515 w).toInt = ((σ.1 515 w) : Int32).toInt := congrArg Int32.toInt (show σ3.1 515 w = (σ.1 515 w) from ((kp_c p4_0 (by decide)).trans rfl)); have : (σ3.1 587 x).toInt = ((σ.1 587 x) : Int32).toInt := congrArg Int32.toInt (show σ3.1 587 x = (σ.1 587 x) from ((kp_c p4_0 (by decide)).trans rfl)); have : (σ3.1 588 x).toInt = ((σ.1 588 x) : Int32).toInt := congrArg Int32.toInt (show σ3.1 588 x = (σ.1 588 x) from ((kp_c p4_0 (by decide)).trans rfl)); have : (σ3.1 655 k).toInt = ((σ.1 655 k) : Int32).toInt := congrArg Int32.toInt (show σ3.1 655 k = (σ.1 655 k) from ((kp_c p4_0 (by decide)).trans rfl)); have : (σ3.1 672 k).toInt = ((σ.1 672 k) : Int32).toInt := congrArg Int32.toInt (show σ3.1 672 k = (σ.1 672 k) from ((kp_c p4_0 (by decide)).trans rfl)); have : (σ3.1 653 k).toInt = ((σ.1 653 k) : Int32).toInt := congrArg Int32.toInt (show σ3.1 653 k = (σ.1 653 k) from ((kp_c p4_0 (by decide)).trans rfl)); have : (σ3.1 651 k).toInt = ((σ.1 651 k) : Int32).toInt := congrArg Int32.toInt (show σ3.1 651 k = (σ.1 651 k) from ((kp_c p4_0 (by decide)).trans rfl)); have : (σ3.1 657 k).toInt = ((σ.1 657 k) : Int32).toInt := congrArg Int32.toInt (show σ3.1 657 k = (σ.1 657 k) from ((kp_c p4_0 (by decide)).trans rfl)); have : (σ3.1 641 k).toInt = ((σ.1 641 k) : Int32).toInt := congrArg Int32.toInt (show σ3.1 641 k = (σ.1 641 k) from ((kp_c p4_0 (by decide)).trans rfl)); have : (σ3.1 642 k).toInt = ((σ.1 642 k) : Int32).toInt := congrArg Int32.toInt (show σ3.1 642 k = (σ.1 642 k) from ((kp_c p4_0 (by decide)).trans rfl)); omega)) c6)
  refine W.widen (k := cells + 1) (n := slots + 6) (by omega) (by omega) ?_
  exact kk σ3 H locs ls hw (lv_sub hl [0, 1, 2, 3, 4] rfl)
set_option maxHeartbeats 4000000 in
set_option maxRecDepth 100000 in
theorem lc_23 (cx : oCx p s m args c cL_law 8 RL cy D A K) (hA : ∀ q, s.heap.size ≤ q → A q) (hfl : l.stackTraces = false) (hX : va_X b N xs s s.heap) (hbl : b < s.heap.size) (hbA : ¬ A b) (hN : N ≤ 2560) (h0 : 0 ≤ i.toInt) (h5 : i.toInt + 5 ≤ (N : Int)) (hw : oI A L τ cy D s.heap σ H locs) (I : lI L τ σ x k o t w) (F : lF L τ σ x k) (hl : lv_has ls 8 [(4, .int i), (3, .ref o), (2, .ref k), (1, .ref x), (0, .ref b)]) (hf0 : cells + 0 ≤ room_1.cells ∧ slots + 0 ≤ room_1.slots) (hf1 : cells + 1 ≤ room_1.cells ∧ slots + 6 ≤ room_1.slots) (hf2 : cells + 1 + 0 ≤ room_1.cells ∧ slots + 6 + 0 ≤ room_1.slots)
    (kk : ∀ (σ1 : oSt) (H1 : Heap) (locs1 : List Loc) (ls1 : Array Slot), oI A L τ cy D s.heap σ1 H1 locs1 → lv_has ls1 8 [(4, .int i), (3, .ref o), (2, .ref k), (1, .ref x), (0, .ref b)] → W p l e room_1 s m args below meth c H1 locs1 (cells + 1) (slots + 6) Q (F0 m 1516 ls1 [])) : W p l e room_1 s m args below meth c H locs cells slots Q (F0 m 877 ls []) := by
  have hx := cx.1.1
  have hb := cx.1.2.1
  have hml := cx.1.2.2.1
  have hown := cx.1.2.2.2.1
  have hts := cx.1.2.2.2.2
  have fr : oFr τ fs_law ts_law σ σ := oFr_rf
  obtain ⟨t1, t2, t3, t4⟩ := id I.2.2.2.2.2
  have i641 : Iv (σ.1 641 k) 0 0 := o_fb (j := 641) hw I.2.1 rfl
  have i642 : Iv (σ.1 642 k) 0 0 := o_fb (j := 642) hw I.2.1 rfl
  obtain ⟨hq, b_576_385, b_585_130, b_581_330, b_581_329, b_581_331, b_580_514, b_580_515, b_577_193, f587, f588, f655, f672, f653, f650, f651, f657⟩ := id F
  have hz := hq_hz hq
  have f385 := b_576_385 t I.2.2.2.1
  have f514 := b_580_514 w I.2.2.2.2.1
  have f515 := b_580_515 w I.2.2.2.2.1
  have hw0 := hw
  refine lv_aload_n hx hb dL_law_877 rfl (lv_at hl 3 rfl) ?_
  refine lv_aload_n hx hb dL_law_878 rfl (lv_at hl 4 rfl) ?_
  refine lv_iload hx hb dL_law_879 (lv_at hl 0 rfl) ?_
  refine lv_iconst (v := 1) hx hb dL_law_881 (by decide) ?_
  refine lv_iadd hx hb dL_law_882 ?_
  refine va_sld hx hb hX hbl hbA hw.2.2.1 (lx_in h0 h5 hN (by decide)) dL_law_883 ?_
  refine lv_topi (fun v1 e1 => ?_)
  refine o_ci hw (oRunV cx hA hw q_X10_furthest k_m_L_126 rfl I.1 (by decide) (As := [.int v1]) (c_X10_furthest x I.1 v1 hz) (by decide) rfl hl.1 rfl (Nat.le_of_ble_eq_true rfl) dL_law_884 hf0) (fun v3 σ2 H locs hp hw => ?_)
  obtain ⟨p3_0, p3_1⟩ := hp
  rw [p3_0] at hw
  refine lv_aload_n hx hb dL_law_887 rfl (lv_at hl 2 rfl) ?_
  refine lv_aload_n hx hb dL_law_888 rfl (lv_at hl 4 rfl) ?_
  refine lv_iload hx hb dL_law_889 (lv_at hl 0 rfl) ?_
  refine lv_iconst (v := 1) hx hb dL_law_891 (by decide) ?_
  refine lv_iadd hx hb dL_law_892 ?_
  refine va_sld hx hb hX hbl hbA hw.2.2.1 (lx_in h0 h5 hN (by decide)) dL_law_893 ?_
  refine lv_topi (fun v4 e4 => ?_)
  rw [show v4 = v1 from e4.trans e1.symm]
  refine o_ci hw (oRunV cx hA hw q_X11_furthest k_m_L_129 rfl I.2.1 (by decide) (As := [.int v1]) (c_X11_furthest k I.2.1 v1) (by decide) rfl hl.1 rfl (Nat.le_of_ble_eq_true rfl) dL_law_894 hf0) (fun v6 σ5 H locs hp hw => ?_)
  obtain ⟨p6_0, p6_1⟩ := hp
  have fr := oFr_tr fr p6_0 (by decide)
  refine lv_icmp_eq (tgt := 1516) hx hb dL_law_897 (by decide) (fun c7 => ?_) (fun c7 => absurd (i32_eq (by have := (f385).1; have := (f385).2; have := (f514).1; have := (f514).2; have := (f515).1; have := (f515).2; have := (f587).1; have := (f587).2; have := (f588).1; have := (f588).2; have := (f655).1; have := (f655).2; have := (f672).1; have := (f672).2; have := (f653).1; have := (f653).2; have := (f650).1; have := (f650).2; have := (f651).1; have := (f651).2; have := (f657).1; have := (f657).2; have := (i641).1; have := (i641).2; have := (i642).1; have := (i642).2; have := (p3_1).1; have := (p3_1).2; have := (p6_1).1; have := (p6_1).2; have : (σ5.1 385 t).toInt = ((σ.1 385 t) : Int32).toInt := congrArg Int32.toInt (show σ5.1 385 t = (σ.1 385 t) from ((kp_c p6_0 (by decide)).trans rfl)); have : (σ5.1 514 w).toInt = ((σ.1 514 w) : Int32).toInt := congrArg Int32.toInt (show σ5.1 514 w = (σ.1 514 w) from ((kp_c p6_0 (by decide)).trans rfl)); have : (σ5.1 515 w).toInt = ((σ.1 515 w) : Int32).toInt := congrArg Int32.toInt (show σ5.1 515 w = (σ.1 515 w) from ((kp_c p6_0 (by decide)).trans rfl)); have : (σ5.1 587 x).toInt = ((σ.1 587 x) : Int32).toInt := congrArg Int32.toInt (show σ5.1 587 x = (σ.1 587 x) from ((kp_c p6_0 (by decide)).trans rfl)); have : (σ5.1 588 x).toInt = ((σ.1 588 x) : Int32).toInt := congrArg Int32.toInt (show σ5.1 588 x = (σ.1 588 x) from ((kp_c p6_0 (by decide)).trans rfl)); have : (σ5.1 655 k).toInt = ((σ.1 655 k) : Int32).toInt := congrArg Int32.toInt (show σ5.1 655 k = (σ.1 655 k) from ((kp_c p6_0 (by decide)).trans rfl)); have : (σ5.1 672 k).toInt = ((σ.1 672 k) : Int32).toInt := congrArg Int32.toInt (show σ5.1 672 k = (σ.1 672 k) from ((kp_c p6_0 (by decide)).trans rfl)); have : (σ5.1 653 k).toInt = ((σ.1 653 k) : Int32).toInt := congrArg Int32.toInt (show σ5.1 653 k = (σ.1 653 k) from ((kp_c p6_0 (by decide)).trans rfl)); have : (σ5.1 650 k).toInt = ((σ.1 650 k) : Int32).toInt := congrArg Int32.toInt (show σ5.1 650 k = (σ.1 650 k) from ((kp_c p6_0 (by decide)).trans rfl)); have : (σ5.1 651 k).toInt = ((σ.1 651 k) : Int32).toInt := congrArg Int32.toInt (show σ5.1 651 k = (σ.1 651 k) from ((kp_c p6_0 (by decide)).trans rfl)); have : (σ5.1 657 k).toInt = ((σ.1 657 k) : Int32).toInt := congrArg Int32.toInt (show σ5.1 657 k = (σ.1 657 k) from ((kp_c p6_0 (by decide)).trans rfl)); have : (σ5.1 641 k).toInt = ((σ.1 641 k) : Int32).toInt := congrArg Int32.toInt (show σ5.1 641 k = (σ.1 641 k) from ((kp_c p6_0 (by decide)).trans rfl)); have : (σ5.1 642 k).toInt = ((σ.1 642 k) : Int32).toInt := congrArg Int32.toInt (show σ5.1 642 k = (σ.1 642 k) from ((kp_c p6_0 (by decide)).trans rfl)); omega)) c7)
  refine W.widen (k := cells + 1) (n := slots + 6) (by omega) (by omega) ?_
  exact kk σ5 H locs ls hw (lv_sub hl [0, 1, 2, 3, 4] rfl)
end LAW
