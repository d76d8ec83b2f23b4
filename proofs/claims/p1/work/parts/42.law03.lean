section LAW
variable {p : Program} {l : Launch} {e : Env} {s : State} {m : MethodId} {args : Array Value} {below : List Frame} {meth : Method} {c : Code} {H : Heap} {locs : List Loc} {cells slots : Nat} {Q : State → Prop}
variable {ls : Array Slot} {A : Nat → Prop} {L : List Nat} {τ : Nat → Nat} {cy : Nat → ClassId} {D : va_G} {K : (Nat → Nat) × (Nat → Nat)} {σ : oSt} {b N x k o t w : Nat} {xs : Nat → Int32} {i : Int32}
set_option maxHeartbeats 4000000 in
set_option maxRecDepth 100000 in
theorem lc_24 (cx : oCx p s m args c cL_law 8 RL cy D A K) (hA : ∀ q, s.heap.size ≤ q → A q) (hfl : l.stackTraces = false) (hX : va_X b N xs s s.heap) (hbl : b < s.heap.size) (hbA : ¬ A b) (hN : N ≤ 2560) (h0 : 0 ≤ i.toInt) (h5 : i.toInt + 5 ≤ (N : Int)) (hw : oI A L τ cy D s.heap σ H locs) (I : lI L τ σ x k o t w) (F : lF L τ σ x k) (hl : lv_has ls 8 [(4, .int i), (3, .ref o), (2, .ref k), (1, .ref x), (0, .ref b)]) (hf0 : cells + 0 ≤ room_1.cells ∧ slots + 0 ≤ room_1.slots) (hf1 : cells + 1 ≤ room_1.cells ∧ slots + 6 ≤ room_1.slots) (hf2 : cells + 1 + 0 ≤ room_1.cells ∧ slots + 6 + 0 ≤ room_1.slots)
    (kk : ∀ (σ1 : oSt) (H1 : Heap) (locs1 : List Loc) (ls1 : Array Slot), oI A L τ cy D s.heap σ1 H1 locs1 → lv_has ls1 8 [(4, .int i), (3, .ref o), (2, .ref k), (1, .ref x), (0, .ref b)] → W p l e room_1 s m args below meth c H1 locs1 (cells + 1) (slots + 6) Q (F0 m 1516 ls1 [])) : W p l e room_1 s m args below meth c H locs cells slots Q (F0 m 902 ls []) := by
  have hx := cx.1.1
  have hb := cx.1.2.1
  have hml := cx.1.2.2.1
  have hown := cx.1.2.2.2.1
  have hts := cx.1.2.2.2.2
  have fr : oFr τ fs_law ts_law σ σ := oFr_rf
  obtain ⟨t1, t2, t3, t4⟩ := id I.2.2.2.2.2
  have i641 : Iv (σ.1 641 k) 0 0 := o_fb (j := 641) hw I.2.1 rfl
  have i642 : Iv (σ.1 642 k) 0 0 := o_fb (j := 642) hw I.2.1 rfl
  obtain ⟨hq, b_576_385, b_585_130, b_581_330, b_581_329, b_581_331, b_580_514, b_580_515, b_577_193, f587, f588, f655, f672, f653, f650, f651, f657⟩ := id F
  have hz := hq_hz hq
  have f385 := b_576_385 t I.2.2.2.1
  have f514 := b_580_514 w I.2.2.2.2.1
  have f515 := b_580_515 w I.2.2.2.2.1
  have hw0 := hw
  refine lv_aload_n hx hb dL_law_902 rfl (lv_at hl 3 rfl) ?_
  refine lv_aload_n hx hb dL_law_903 rfl (lv_at hl 4 rfl) ?_
  refine lv_iload hx hb dL_law_904 (lv_at hl 0 rfl) ?_
  refine lv_iconst (v := 1) hx hb dL_law_906 (by decide) ?_
  refine lv_iadd hx hb dL_law_907 ?_
  refine va_sld hx hb hX hbl hbA hw.2.2.1 (lx_in h0 h5 hN (by decide)) dL_law_908 ?_
  refine lv_topi (fun v1 e1 => ?_)
  refine lv_aload_n hx hb dL_law_909 rfl (lv_at hl 4 rfl) ?_
  refine lv_iload hx hb dL_law_910 (lv_at hl 0 rfl) ?_
  refine lv_iconst (v := 2) hx hb dL_law_912 (by decide) ?_
  refine lv_iadd hx hb dL_law_913 ?_
  refine va_sld hx hb hX hbl hbA hw.2.2.1 (lx_in h0 h5 hN (by decide)) dL_law_914 ?_
  refine lv_topi (fun v2 e2 => ?_)
  refine o_ci hw (oRunV cx hA hw q_X10_where k_m_L_130 rfl I.1 (by decide) (As := [.int v1, .int v2]) (c_X10_where x I.1 v1 v2 hz) (by decide) rfl hl.1 rfl (Nat.le_of_ble_eq_true rfl) dL_law_915 hf0) (fun v4 σ3 H locs hp hw => ?_)
  obtain ⟨p4_0, p4_1⟩ := hp
  rw [p4_0] at hw
  refine lv_aload_n hx hb dL_law_918 rfl (lv_at hl 2 rfl) ?_
  refine lv_aload_n hx hb dL_law_919 rfl (lv_at hl 4 rfl) ?_
  refine lv_iload hx hb dL_law_920 (lv_at hl 0 rfl) ?_
  refine lv_iconst (v := 1) hx hb dL_law_922 (by decide) ?_
  refine lv_iadd hx hb dL_law_923 ?_
  refine va_sld hx hb hX hbl hbA hw.2.2.1 (lx_in h0 h5 hN (by decide)) dL_law_924 ?_
  refine lv_topi (fun v5 e5 => ?_)
  rw [show v5 = v1 from e5.trans e1.symm]
  refine lv_aload_n hx hb dL_law_925 rfl (lv_at hl 4 rfl) ?_
  refine lv_iload hx hb dL_law_926 (lv_at hl 0 rfl) ?_
  refine lv_iconst (v := 2) hx hb dL_law_928 (by decide) ?_
  refine lv_iadd hx hb dL_law_929 ?_
  refine va_sld hx hb hX hbl hbA hw.2.2.1 (lx_in h0 h5 hN (by decide)) dL_law_930 ?_
  refine lv_topi (fun v6 e6 => ?_)
  rw [show v6 = v2 from e6.trans e2.symm]
  refine o_ci hw (oRunV cx hA hw q_X11_where k_m_L_133 rfl I.2.1 (by decide) (As := [.int v1, .int v2]) (c_X11_where k I.2.1 v1 v2) (by decide) rfl hl.1 rfl (Nat.le_of_ble_eq_true rfl) dL_law_931 hf0) (fun v8 σ7 H locs hp hw => ?_)
  obtain ⟨p8_0, p8_1⟩ := hp
  have fr := oFr_tr fr p8_0 (by decide)
  refine lv_icmp_eq (tgt := 1516) hx hb dL_law_934 (by decide) (fun c9 => ?_) (fun c9 => absurd (i32_eq (by have := (f385).1; have := (f385).2; have := (f514).1; have := (f514).2; have := (f515).1; have := (f515).2; have := (f587).1; have := (f587).2; have := (f588).1; have := (f588).2; have := (f655).1; have := (f655).2; have := (f672).1; have := (f672).2; have := (f653).1; have := (f653).2; have := (f650).1; have := (f650).2; have := (f651).1; have := (f651).2; have := (f657).1; have := (f657).2; have := (i641).1; have := (i641).2; have := (i642).1; have := (i642).2; have := (p4_1).1; have := (p4_1).2; have := (p8_1).1; have := (p8_1).2; have : (σ7.1 385 t).toInt = ((σ.1 385 t) : Int32).toInt := congrArg Int32.toInt (show σ7.1 385 t = (σ.1 385 t) from ((kp_c p8_0 (by decide)).trans rfl)); have : (σ7.1 514 w).toInt = ((σ.1 514 w) : Int32).toInt := congrArg Int32.toInt (show σ7.1 514 w = (σ.1 514 w) from ((kp_c p8_0 (by decide)).trans rfl)); have : (σ7.1 515 w).toInt = ((σ.1 515 w) : Int32).toInt := congrArg Int32.toInt (show σ7.1 515 w = (σ.1 515 w) from ((kp_c p8_0 (by decide)).trans rfl)); have : (σ7.1 587 x).toInt = ((σ.1 587 x) : Int32).toInt := congrArg Int32.toInt (show σ7.1 587 x = (σ.1 587 x) from ((kp_c p8_0 (by decide)).trans rfl)); have : (σ7.1 588 x).toInt = ((σ.1 588 x) : Int32).toInt := congrArg Int32.toInt (show σ7.1 588 x = (σ.1 588 x) from ((kp_c p8_0 (by decide)).trans rfl)); have : (σ7.1 655 k).toInt = ((σ.1 655 k) : Int32).toInt := congrArg Int32.toInt (show σ7.1 655 k = (σ.1 655 k) from ((kp_c p8_0 (by decide)).trans rfl)); have : (σ7.1 672 k).toInt = ((σ.1 672 k) : Int32).toInt := congrArg Int32.toInt (show σ7.1 672 k = (σ.1 672 k) from ((kp_c p8_0 (by decide)).trans rfl)); have : (σ7.1 653 k).toInt = ((σ.1 653 k) : Int32).toInt := congrArg Int32.toInt (show σ7.1 653 k = (σ.1 653 k) from ((kp_c p8_0 (by decide)).trans rfl)); have : (σ7.1 650 k).toInt = ((σ.1 650 k) : Int32).toInt := congrArg Int32.toInt (show σ7.1 650 k = (σ.1 650 k) from ((kp_c p8_0 (by decide)).trans rfl)); have : (σ7.1 651 k).toInt = ((σ.1 651 k) : Int32).toInt := congrArg Int32.toInt (show σ7.1 651 k = (σ.1 651 k) from ((kp_c p8_0 (by decide)).trans rfl)); have : (σ7.1 657 k).toInt = ((σ.1 657 k) : Int32).toInt := congrArg Int32.toInt (show σ7.1 657 k = (σ.1 657 k) from ((kp_c p8_0 (by decide)).trans rfl)); have : (σ7.1 641 k).toInt = ((σ.1 641 k) : Int32).toInt := congrArg Int32.toInt (show σ7.1 641 k = (σ.1 641 k) from ((kp_c p8_0 (by decide)).trans rfl)); have : (σ7.1 642 k).toInt = ((σ.1 642 k) : Int32).toInt := congrArg Int32.toInt (show σ7.1 642 k = (σ.1 642 k) from ((kp_c p8_0 (by decide)).trans rfl)); omega)) c9)
  refine W.widen (k := cells + 1) (n := slots + 6) (by omega) (by omega) ?_
  exact kk σ7 H locs ls hw (lv_sub hl [0, 1, 2, 3, 4] rfl)
set_option maxHeartbeats 4000000 in
set_option maxRecDepth 100000 in
theorem lc_25 (cx : oCx p s m args c cL_law 8 RL cy D A K) (hA : ∀ q, s.heap.size ≤ q → A q) (hfl : l.stackTraces = false) (hX : va_X b N xs s s.heap) (hbl : b < s.heap.size) (hbA : ¬ A b) (hN : N ≤ 2560) (h0 : 0 ≤ i.toInt) (h5 : i.toInt + 5 ≤ (N : Int)) (hw : oI A L τ cy D s.heap σ H locs) (I : lI L τ σ x k o t w) (F : lF L τ σ x k) (hl : lv_has ls 8 [(4, .int i), (3, .ref o), (2, .ref k), (1, .ref x), (0, .ref b)]) (hf0 : cells + 0 ≤ room_1.cells ∧ slots + 0 ≤ room_1.slots) (hf1 : cells + 1 ≤ room_1.cells ∧ slots + 6 ≤ room_1.slots) (hf2 : cells + 1 + 0 ≤ room_1.cells ∧ slots + 6 + 0 ≤ room_1.slots)
    (kk : ∀ (σ1 : oSt) (H1 : Heap) (locs1 : List Loc) (ls1 : Array Slot), oI A L τ cy D s.heap σ1 H1 locs1 → lv_has ls1 8 [(4, .int i), (3, .ref o), (2, .ref k), (1, .ref x), (0, .ref b)] → W p l e room_1 s m args below meth c H1 locs1 (cells + 1) (slots + 6) Q (F0 m 1516 ls1 [])) : W p l e room_1 s m args below meth c H locs cells slots Q (F0 m 939 ls []) := by
  have hx := cx.1.1
  have hb := cx.1.2.1
  have hml := cx.1.2.2.1
  have hown := cx.1.2.2.2.1
  have hts := cx.1.2.2.2.2
  have fr : oFr τ fs_law ts_law σ σ := oFr_rf
  obtain ⟨t1, t2, t3, t4⟩ := id I.2.2.2.2.2
  have i641 : Iv (σ.1 641 k) 0 0 := o_fb (j := 641) hw I.2.1 rfl
  have i642 : Iv (σ.1 642 k) 0 0 := o_fb (j := 642) hw I.2.1 rfl
  obtain ⟨hq, b_576_385, b_585_130, b_581_330, b_581_329, b_581_331, b_580_514, b_580_515, b_577_193, f587, f588, f655, f672, f653, f650, f651, f657⟩ := id F
  have hz := hq_hz hq
  have f385 := b_576_385 t I.2.2.2.1
  have f514 := b_580_514 w I.2.2.2.2.1
  have f515 := b_580_515 w I.2.2.2.2.1
  have hw0 := hw
  refine lv_aload_n hx hb dL_law_939 rfl (lv_at hl 3 rfl) ?_
  refine lv_aload_n hx hb dL_law_940 rfl (lv_at hl 4 rfl) ?_
  refine lv_iload hx hb dL_law_941 (lv_at hl 0 rfl) ?_
  refine lv_iconst (v := 1) hx hb dL_law_943 (by decide) ?_
  refine lv_iadd hx hb dL_law_944 ?_
  refine va_sld hx hb hX hbl hbA hw.2.2.1 (lx_in h0 h5 hN (by decide)) dL_law_945 ?_
  refine lv_topi (fun v1 e1 => ?_)
  refine o_ci hw (oRunV cx hA hw q_X10_roadin k_m_L_134 rfl I.1 (by decide) (As := [.int v1]) (c_X10_roadin x I.1 v1 hz) (by decide) rfl hl.1 rfl (Nat.le_of_ble_eq_true rfl) dL_law_946 hf0) (fun v3 σ2 H locs hp hw => ?_)
  obtain ⟨p3_0, p3_1, p3_2⟩ := hp
  have fr := oFr_tr fr p3_0 (by decide)
  refine lv_aload_n hx hb dL_law_949 rfl (lv_at hl 2 rfl) ?_
  refine lv_aload_n hx hb dL_law_950 rfl (lv_at hl 4 rfl) ?_
  refine lv_iload hx hb dL_law_951 (lv_at hl 0 rfl) ?_
  refine lv_iconst (v := 1) hx hb dL_law_953 (by decide) ?_
  refine lv_iadd hx hb dL_law_954 ?_
  refine va_sld hx hb hX hbl hbA hw.2.2.1 (lx_in h0 h5 hN (by decide)) dL_law_955 ?_
  refine lv_topi (fun v4 e4 => ?_)
  rw [show v4 = v1 from e4.trans e1.symm]
  have z5 : (σ2.1 385 t).toInt = ((σ.1 385 t) : Int32).toInt := congrArg Int32.toInt (show σ2.1 385 t = (σ.1 385 t) from ((kp_c p3_0 (by decide)).trans rfl))
  have z6 : (σ2.1 514 w).toInt = ((σ.1 514 w) : Int32).toInt := congrArg Int32.toInt (show σ2.1 514 w = (σ.1 514 w) from ((kp_c p3_0 (by decide)).trans rfl))
  have z7 : (σ2.1 515 w).toInt = ((σ.1 515 w) : Int32).toInt := congrArg Int32.toInt (show σ2.1 515 w = (σ.1 515 w) from ((kp_c p3_0 (by decide)).trans rfl))
  have z8 : (σ2.1 655 k).toInt = ((σ.1 655 k) : Int32).toInt := congrArg Int32.toInt (show σ2.1 655 k = (σ.1 655 k) from ((kp_c p3_0 (by decide)).trans rfl))
  have z9 : (σ2.1 650 k).toInt = ((σ.1 650 k) : Int32).toInt := congrArg Int32.toInt (show σ2.1 650 k = (σ.1 650 k) from ((kp_c p3_0 (by decide)).trans rfl))
  have z10 : (σ2.1 651 k).toInt = ((σ.1 651 k) : Int32).toInt := congrArg Int32.toInt (show σ2.1 651 k = (σ.1 651 k) from ((kp_c p3_0 (by decide)).trans rfl))
  have z11 : (σ2.1 641 k).toInt = ((σ.1 641 k) : Int32).toInt := congrArg Int32.toInt (show σ2.1 641 k = (σ.1 641 k) from ((kp_c p3_0 (by decide)).trans rfl))
  have z12 : (σ2.1 642 k).toInt = ((σ.1 642 k) : Int32).toInt := congrArg Int32.toInt (show σ2.1 642 k = (σ.1 642 k) from ((kp_c p3_0 (by decide)).trans rfl))
  refine o_ci hw (oRunV cx hA hw q_X11_roadin k_m_L_137 rfl I.2.1 (by decide) (As := [.int v1]) (c_X11_roadin k I.2.1 v1) (by decide) rfl hl.1 rfl (Nat.le_of_ble_eq_true rfl) dL_law_956 hf0) (fun v14 σ13 H locs hp hw => ?_)
  obtain ⟨p14_0, p14_1, p14_2⟩ := hp
  have fr := oFr_tr fr p14_0 (by decide)
  refine lv_icmp_eq (tgt := 1516) hx hb dL_law_959 (by decide) (fun c15 => ?_) (fun c15 => absurd (i32_eq (by have := (f385).1; have := (f385).2; have := (f514).1; have := (f514).2; have := (f515).1; have := (f515).2; have := (f587).1; have := (f587).2; have := (f588).1; have := (f588).2; have := (f655).1; have := (f655).2; have := (f672).1; have := (f672).2; have := (f653).1; have := (f653).2; have := (f650).1; have := (f650).2; have := (f651).1; have := (f651).2; have := (i641).1; have := (i641).2; have := (i642).1; have := (i642).2; have := (p3_1).1; have := (p3_1).2; have := (p14_1).1; have := (p14_1).2; have : (σ13.1 385 t).toInt = ((σ.1 385 t) : Int32).toInt := congrArg Int32.toInt (show σ13.1 385 t = (σ.1 385 t) from ((kp_c p14_0 (by decide)).trans ((kp_c p3_0 (by decide)).trans rfl))); have : (σ13.1 514 w).toInt = ((σ.1 514 w) : Int32).toInt := congrArg Int32.toInt (show σ13.1 514 w = (σ.1 514 w) from ((kp_c p14_0 (by decide)).trans ((kp_c p3_0 (by decide)).trans rfl))); have : (σ13.1 515 w).toInt = ((σ.1 515 w) : Int32).toInt := congrArg Int32.toInt (show σ13.1 515 w = (σ.1 515 w) from ((kp_c p14_0 (by decide)).trans ((kp_c p3_0 (by decide)).trans rfl))); have : (σ13.1 587 x).toInt = ((σ.1 587 x) : Int32).toInt := congrArg Int32.toInt (show σ13.1 587 x = (σ.1 587 x) from ((kp_c p14_0 (by decide)).trans ((kp_c p3_0 (by decide)).trans rfl))); have : (σ13.1 588 x).toInt = ((σ.1 588 x) : Int32).toInt := congrArg Int32.toInt (show σ13.1 588 x = (σ.1 588 x) from ((kp_c p14_0 (by decide)).trans ((kp_c p3_0 (by decide)).trans rfl))); have : (σ13.1 655 k).toInt = ((σ.1 655 k) : Int32).toInt := congrArg Int32.toInt (show σ13.1 655 k = (σ.1 655 k) from ((kp_c p14_0 (by decide)).trans ((kp_c p3_0 (by decide)).trans rfl))); have : (σ13.1 672 k).toInt = ((σ.1 672 k) : Int32).toInt := congrArg Int32.toInt (show σ13.1 672 k = (σ.1 672 k) from ((kp_c p14_0 (by decide)).trans ((kp_c p3_0 (by decide)).trans rfl))); have : (σ13.1 653 k).toInt = ((σ.1 653 k) : Int32).toInt := congrArg Int32.toInt (show σ13.1 653 k = (σ.1 653 k) from ((kp_c p14_0 (by decide)).trans ((kp_c p3_0 (by decide)).trans rfl))); have : (σ13.1 650 k).toInt = ((σ.1 650 k) : Int32).toInt := congrArg Int32.toInt (show σ13.1 650 k = (σ.1 650 k) from ((kp_c p14_0 (by decide)).trans ((kp_c p3_0 (by decide)).trans rfl))); have : (σ13.1 651 k).toInt = ((σ.1 651 k) : Int32).toInt := congrArg Int32.toInt (show σ13.1 651 k = (σ.1 651 k) from ((kp_c p14_0 (by decide)).trans ((kp_c p3_0 (by decide)).trans rfl))); have : (σ13.1 641 k).toInt = ((σ.1 641 k) : Int32).toInt := congrArg Int32.toInt (show σ13.1 641 k = (σ.1 641 k) from ((kp_c p14_0 (by decide)).trans ((kp_c p3_0 (by decide)).trans rfl))); have : (σ13.1 642 k).toInt = ((σ.1 642 k) : Int32).toInt := congrArg Int32.toInt (show σ13.1 642 k = (σ.1 642 k) from ((kp_c p14_0 (by decide)).trans ((kp_c p3_0 (by decide)).trans rfl))); omega)) c15)
  refine W.widen (k := cells + 1) (n := slots + 6) (by omega) (by omega) ?_
  exact kk σ13 H locs ls hw (lv_sub hl [0, 1, 2, 3, 4] rfl)
set_option maxHeartbeats 4000000 in
set_option maxRecDepth 100000 in
theorem lc_26 (cx : oCx p s m args c cL_law 8 RL cy D A K) (hA : ∀ q, s.heap.size ≤ q → A q) (hfl : l.stackTraces = false) (hX : va_X b N xs s s.heap) (hbl : b < s.heap.size) (hbA : ¬ A b) (hN : N ≤ 2560) (h0 : 0 ≤ i.toInt) (h5 : i.toInt + 5 ≤ (N : Int)) (hw : oI A L τ cy D s.heap σ H locs) (I : lI L τ σ x k o t w) (F : lF L τ σ x k) (hl : lv_has ls 8 [(4, .int i), (3, .ref o), (2, .ref k), (1, .ref x), (0, .ref b)]) (hf0 : cells + 0 ≤ room_1.cells ∧ slots + 0 ≤ room_1.slots) (hf1 : cells + 1 ≤ room_1.cells ∧ slots + 6 ≤ room_1.slots) (hf2 : cells + 1 + 0 ≤ room_1.cells ∧ slots + 6 + 0 ≤ room_1.slots)
    (kk : ∀ (σ1 : oSt) (H1 : Heap) (locs1 : List Loc) (ls1 : Array Slot), oI A L τ cy D s.heap σ1 H1 locs1 → lv_has ls1 8 [(4, .int i), (3, .ref o), (2, .ref k), (1, .ref x), (0, .ref b)] → W p l e room_1 s m args below meth c H1 locs1 (cells + 1) (slots + 6) Q (F0 m 1516 ls1 [])) : W p l e room_1 s m args below meth c H locs cells slots Q (F0 m 964 ls []) := by
  have hx := cx.1.1
  have hb := cx.1.2.1
  have hml := cx.1.2.2.1
  have hown := cx.1.2.2.2.1
  have hts := cx.1.2.2.2.2
  have fr : oFr τ fs_law ts_law σ σ := oFr_rf
  obtain ⟨t1, t2, t3, t4⟩ := id I.2.2.2.2.2
  have i641 : Iv (σ.1 641 k) 0 0 := o_fb (j := 641) hw I.2.1 rfl
  have i642 : Iv (σ.1 642 k) 0 0 := o_fb (j := 642) hw I.2.1 rfl
  obtain ⟨hq, b_576_385, b_585_130, b_581_330, b_581_329, b_581_331, b_580_514, b_580_515, b_577_193, f587, f588, f655, f672, f653, f650, f651, f657⟩ := id F
  have hz := hq_hz hq
  have f385 := b_576_385 t I.2.2.2.1
  have f514 := b_580_514 w I.2.2.2.2.1
  have f515 := b_580_515 w I.2.2.2.2.1
  have hw0 := hw
  refine lv_aload_n hx hb dL_law_964 rfl (lv_at hl 3 rfl) ?_
  refine lv_aload_n hx hb dL_law_965 rfl (lv_at hl 4 rfl) ?_
  refine lv_iload hx hb dL_law_966 (lv_at hl 0 rfl) ?_
  refine lv_iconst (v := 1) hx hb dL_law_968 (by decide) ?_
  refine lv_iadd hx hb dL_law_969 ?_
  refine va_sld hx hb hX hbl hbA hw.2.2.1 (lx_in h0 h5 hN (by decide)) dL_law_970 ?_
  refine lv_topi (fun v1 e1 => ?_)
  refine lv_aload_n hx hb dL_law_971 rfl (lv_at hl 4 rfl) ?_
  refine lv_iload hx hb dL_law_972 (lv_at hl 0 rfl) ?_
  refine lv_iconst (v := 2) hx hb dL_law_974 (by decide) ?_
  refine lv_iadd hx hb dL_law_975 ?_
  refine va_sld hx hb hX hbl hbA hw.2.2.1 (lx_in h0 h5 hN (by decide)) dL_law_976 ?_
  refine lv_topi (fun v2 e2 => ?_)
  refine o_ci hw (oRunV cx hA hw q_X10_market k_m_L_138 rfl I.1 (by decide) (As := [.int v1, .int v2]) (c_X10_market x I.1 v1 v2 hz) (by decide) rfl hl.1 rfl (Nat.le_of_ble_eq_true rfl) dL_law_977 hf0) (fun v4 σ3 H locs hp hw => ?_)
  obtain ⟨p4_0, p4_1⟩ := hp
  rw [p4_0] at hw
  refine lv_aload_n hx hb dL_law_980 rfl (lv_at hl 2 rfl) ?_
  refine lv_aload_n hx hb dL_law_981 rfl (lv_at hl 4 rfl) ?_
  refine lv_iload hx hb dL_law_982 (lv_at hl 0 rfl) ?_
  refine lv_iconst (v := 1) hx hb dL_law_984 (by decide) ?_
  refine lv_iadd hx hb dL_law_985 ?_
  refine va_sld hx hb hX hbl hbA hw.2.2.1 (lx_in h0 h5 hN (by decide)) dL_law_986 ?_
  refine lv_topi (fun v5 e5 => ?_)
  rw [show v5 = v1 from e5.trans e1.symm]
  refine lv_aload_n hx hb dL_law_987 rfl (lv_at hl 4 rfl) ?_
  refine lv_iload hx hb dL_law_988 (lv_at hl 0 rfl) ?_
  refine lv_iconst (v := 2) hx hb dL_law_990 (by decide) ?_
  refine lv_iadd hx hb dL_law_991 ?_
  refine va_sld hx hb hX hbl hbA hw.2.2.1 (lx_in h0 h5 hN (by decide)) dL_law_992 ?_
  refine lv_topi (fun v6 e6 => ?_)
  rw [show v6 = v2 from e6.trans e2.symm]
  refine o_ci hw (oRunV cx hA hw q_X11_market k_m_L_141 rfl I.2.1 (by decide) (As := [.int v1, .int v2]) (c_X11_market k I.2.1 v1 v2) (by decide) rfl hl.1 rfl (Nat.le_of_ble_eq_true rfl) dL_law_993 hf0) (fun v8 σ7 H locs hp hw => ?_)
  obtain ⟨p8_0, p8_1⟩ := hp
  have fr := oFr_tr fr p8_0 (by decide)
  refine lv_icmp_eq (tgt := 1516) hx hb dL_law_996 (by decide) (fun c9 => ?_) (fun c9 => absurd (i32_eq (by have := (f385).1; have := (f385).2; have := (f514).1; have := (f514).2; have := (f515).1; have := (f515).2; have := (f587).1; have := (f587).2; have := (f588).1; have := (f588).2; have := (f655).1; have := (f655).2; have := (f672).1; have := (f672).2; have := (f653).1; have := (f653).2; have := (f650).1; have := (f650).2; have := (f651).1; have := (f651).2; have := (f657).1; have := (f657).2; have := (i641).1; have := (i641).2; have := (i642).1; have := (i642).2; have := (p4_1).1; have := (p4_1).2; have := (p8_1).1; have := (p8_1).2; have : (σ7.1 385 t).toInt = ((σ.1 385 t) : Int32).toInt := congrArg Int32.toInt (show σ7.1 385 t = (σ.1 385 t) from ((kp_c p8_0 (by decide)).trans rfl)); have : (σ7.1 514 w).toInt = ((σ.1 514 w) : Int32).toInt := congrArg Int32.toInt (show σ7.1 514 w = (σ.1 514 w) from ((kp_c p8_0 (by decide)).trans rfl)); have : (σ7.1 515 w).toInt = ((σ.1 515 w) : Int32).toInt := congrArg Int32.toInt (show σ7.1 515 w = (σ.1 515 w) from ((kp_c p8_0 (by decide)).trans rfl)); have : (σ7.1 587 x).toInt = ((σ.1 587 x) : Int32).toInt := congrArg Int32.toInt (show σ7.1 587 x = (σ.1 587 x) from ((kp_c p8_0 (by decide)).trans rfl)); have : (σ7.1 588 x).toInt = ((σ.1 588 x) : Int32).toInt := congrArg Int32.toInt (show σ7.1 588 x = (σ.1 588 x) from ((kp_c p8_0 (by decide)).trans rfl)); have : (σ7.1 655 k).toInt = ((σ.1 655 k) : Int32).toInt := congrArg Int32.toInt (show σ7.1 655 k = (σ.1 655 k) from ((kp_c p8_0 (by decide)).trans rfl)); have : (σ7.1 672 k).toInt = ((σ.1 672 k) : Int32).toInt := congrArg Int32.toInt (show σ7.1 672 k = (σ.1 672 k) from ((kp_c p8_0 (by decide)).trans rfl)); have : (σ7.1 653 k).toInt = ((σ.1 653 k) : Int32).toInt := congrArg Int32.toInt (show σ7.1 653 k = (σ.1 653 k) from ((kp_c p8_0 (by decide)).trans rfl)); have : (σ7.1 650 k).toInt = ((σ.1 650 k) : Int32).toInt := congrArg Int32.toInt (show σ7.1 650 k = (σ.1 650 k) from ((kp_c p8_0 (by decide)).trans rfl)); have : (σ7.1 651 k).toInt = ((σ.1 651 k) : Int32).toInt := congrArg Int32.toInt (show σ7.1 651 k = (σ.1 651 k) from ((kp_c p8_0 (by decide)).trans rfl)); have : (σ7.1 657 k).toInt = ((σ.1 657 k) : Int32).toInt := congrArg Int32.toInt (show σ7.1 657 k = (σ.1 657 k) from ((kp_c p8_0 (by decide)).trans rfl)); have : (σ7.1 641 k).toInt = ((σ.1 641 k) : Int32).toInt := congrArg Int32.toInt (show σ7.1 641 k = (σ.1 641 k) from ((kp_c p8_0 (by decide)).trans rfl)); have : (σ7.1 642 k).toInt = ((σ.1 642 k) : Int32).toInt := congrArg Int32.toInt (show σ7.1 642 k = (σ.1 642 k) from ((kp_c p8_0 (by decide)).trans rfl)); omega)) c9)
  refine W.widen (k := cells + 1) (n := slots + 6) (by omega) (by omega) ?_
  exact kk σ7 H locs ls hw (lv_sub hl [0, 1, 2, 3, 4] rfl)
set_option maxHeartbeats 4000000 in
set_option maxRecDepth 100000 in
theorem lc_27 (cx : oCx p s m args c cL_law 8 RL cy D A K) (hA : ∀ q, s.heap.size ≤ q → A q) (hfl : l.stackTraces = false) (hX : va_X b N xs s s.heap) (hbl : b < s.heap.size) (hbA : ¬ A b) (hN : N ≤ 2560) (h0 : 0 ≤ i.toInt) (h5 : i.toInt + 5 ≤ (N : Int)) (hw : oI A L τ cy D s.heap σ H locs) (I : lI L τ σ x k o t w) (F : lF L τ σ x k) (hl : lv_has ls 8 [(4, .int i), (3, .ref o), (2, .ref k), (1, .ref x), (0, .ref b)]) (hf0 : cells + 0 ≤ room_1.cells ∧ slots + 0 ≤ room_1.slots) (hf1 : cells + 1 ≤ room_1.cells ∧ slots + 6 ≤ room_1.slots) (hf2 : cells + 1 + 0 ≤ room_1.cells ∧ slots + 6 + 0 ≤ room_1.slots)
    (kk : ∀ (σ1 : oSt) (H1 : Heap) (locs1 : List Loc) (ls1 : Array Slot), oI A L τ cy D s.heap σ1 H1 locs1 → lv_has ls1 8 [(4, .int i), (3, .ref o), (2, .ref k), (1, .ref x), (0, .ref b)] → W p l e room_1 s m args below meth c H1 locs1 (cells + 1) (slots + 6) Q (F0 m 1516 ls1 [])) : W p l e room_1 s m args below meth c H locs cells slots Q (F0 m 1001 ls []) := by
  have hx := cx.1.1
  have hb := cx.1.2.1
  have hml := cx.1.2.2.1
  have hown := cx.1.2.2.2.1
  have hts := cx.1.2.2.2.2
  have fr : oFr τ fs_law ts_law σ σ := oFr_rf
  obtain ⟨t1, t2, t3, t4⟩ := id I.2.2.2.2.2
  have i641 : Iv (σ.1 641 k) 0 0 := o_fb (j := 641) hw I.2.1 rfl
  have i642 : Iv (σ.1 642 k) 0 0 := o_fb (j := 642) hw I.2.1 rfl
  obtain ⟨hq, b_576_385, b_585_130, b_581_330, b_581_329, b_581_331, b_580_514, b_580_515, b_577_193, f587, f588, f655, f672, f653, f650, f651, f657⟩ := id F
  have hz := hq_hz hq
  have f385 := b_576_385 t I.2.2.2.1
  have f514 := b_580_514 w I.2.2.2.2.1
  have f515 := b_580_515 w I.2.2.2.2.1
  have hw0 := hw
  refine lv_aload_n hx hb dL_law_1001 rfl (lv_at hl 3 rfl) ?_
  refine lv_aload_n hx hb dL_law_1002 rfl (lv_at hl 4 rfl) ?_
  refine lv_iload hx hb dL_law_1003 (lv_at hl 0 rfl) ?_
  refine lv_iconst (v := 1) hx hb dL_law_1005 (by decide) ?_
  refine lv_iadd hx hb dL_law_1006 ?_
  refine va_sld hx hb hX hbl hbA hw.2.2.1 (lx_in h0 h5 hN (by decide)) dL_law_1007 ?_
  refine lv_topi (fun v1 e1 => ?_)
  refine o_ci hw (oRunV cx hA hw q_X10_trodden k_m_L_142 rfl I.1 (by decide) (As := [.int v1]) (c_X10_trodden x I.1 v1 hz) (by decide) rfl hl.1 rfl (Nat.le_of_ble_eq_true rfl) dL_law_1008 hf0) (fun v3 σ2 H locs hp hw => ?_)
  obtain ⟨p3_0, p3_1⟩ := hp
  rw [p3_0] at hw
  refine lv_aload_n hx hb dL_law_1011 rfl (lv_at hl 2 rfl) ?_
  refine lv_aload_n hx hb dL_law_1012 rfl (lv_at hl 4 rfl) ?_
  refine lv_iload hx hb dL_law_1013 (lv_at hl 0 rfl) ?_
  refine lv_iconst (v := 1) hx hb dL_law_1015 (by decide) ?_
  refine lv_iadd hx hb dL_law_1016 ?_
  refine va_sld hx hb hX hbl hbA hw.2.2.1 (lx_in h0 h5 hN (by decide)) dL_law_1017 ?_
  refine lv_topi (fun v4 e4 => ?_)
  rw [show v4 = v1 from e4.trans e1.symm]
  refine o_ci hw (oRunV cx hA hw q_X11_trodden k_m_L_145 rfl I.2.1 (by decide) (As := [.int v1]) (c_X11_trodden k I.2.1 v1) (by decide) rfl hl.1 rfl (Nat.le_of_ble_eq_true rfl) dL_law_1018 hf0) (fun v6 σ5 H locs hp hw => ?_)
  obtain ⟨p6_0, p6_1⟩ := hp
  have fr := oFr_tr fr p6_0 (by decide)
  refine lv_icmp_eq (tgt := 1516) hx hb dL_law_1021 (by decide) (fun c7 => ?_) (fun c7 => absurd (i32_eq (by have := (f385).1; have := (f385).2; have := (f514).1; have := (f514).2; have := (f515).1; have := (f515).2; have := (f587).1; have := (f587).2; have := (f588).1; have := (f588).2; have := (f655).1; have := (f655).2; have := (f672).1; have := (f672).2; have := (f653).1; have := (f653).2; have := (f650).1; have := (f650).2; have := (f651).1; have := (f651).2; have := (f657).1; have := (f657).2; have := (i641).1; have := (i641).2; have := (i642).1; have := (i642).2; have := (p3_1).1; have := (p3_1).2; have := (p6_1).1; have := (p6_1).2; have : (σ5.1 385 t).toInt = ((σ.1 385 t) : Int32).toInt := congrArg Int32.toInt (show σ5.1 385 t = (σ.1 385 t) from ((kp_c p6_0 (by decide)).trans rfl)); have : (σ5.1 514 w).toInt = ((σ.1 514 w) : Int32).toInt := congrArg Int32.toInt (show σ5.1 514 w = (σ.1 514 w) from ((kp_c p6_0 (by decide)).trans rfl)); have : (σ5.1 515 w).toInt = ((σ.1 515 w) : Int32).toInt := congrArg Int32.toInt (show σ5.1 515 w = (σ.1 515 w) from ((kp_c p6_0 (by decide)).trans rfl)); have : (σ5.1 587 x).toInt = ((σ.1 587 x) : Int32).toInt := congrArg Int32.toInt (show σ5.1 587 x = (σ.1 587 x) from ((kp_c p6_0 (by decide)).trans rfl)); have : (σ5.1 588 x).toInt = ((σ.1 588 x) : Int32).toInt := congrArg Int32.toInt (show σ5.1 588 x = (σ.1 588 x) from ((kp_c p6_0 (by decide)).trans rfl)); have : (σ5.1 655 k).toInt = ((σ.1 655 k) : Int32).toInt := congrArg Int32.toInt (show σ5.1 655 k = (σ.1 655 k) from ((kp_c p6_0 (by decide)).trans rfl)); have : (σ5.1 672 k).toInt = ((σ.1 672 k) : Int32).toInt := congrArg Int32.toInt (show σ5.1 672 k = (σ.1 672 k) from ((kp_c p6_0 (by decide)).trans rfl)); have : (σ5.1 653 k).toInt = ((σ.1 653 k) : Int32).toInt := congrArg Int32.toInt (show σ5.1 653 k = (σ.1 653 k) from ((kp_c p6_0 (by decide)).trans rfl)); have : (σ5.1 650 k).toInt = ((σ.1 650 k) : Int32).toInt := congrArg Int32.toInt (show σ5.1 650 k = (σ.1 650 k) from ((kp_c p6_0 (by decide)).trans rfl)); have : (σ5.1 651 k).toInt = ((σ.1 651 k) : Int32).toInt := congrArg Int32.toInt (show σ5.1 651 k = (σ.1 651 k) from ((kp_c p6_0 (by decide)).trans rfl)); have : (σ5.1 657 k).toInt = ((σ.1 657 k) : Int32).toInt := congrArg Int32.toInt (show σ5.1 657 k = (σ.1 657 k) from ((kp_c p6_0 (by decide)).trans rfl)); have : (σ5.1 641 k).toInt = ((σ.1 641 k) : Int32).toInt := congrArg Int32.toInt (show σ5.1 641 k = (σ.1 641 k) from ((kp_c p6_0 (by decide)).trans rfl)); have : (σ5.1 642 k).toInt = ((σ.1 642 k) : Int32).toInt := congrArg Int32.toInt (show σ5.1 642 k = (σ.1 642 k) from ((kp_c p6_0 (by decide)).trans rfl)); omega)) c7)
  refine W.widen (k := cells + 1) (n := slots + 6) (by omega) (by omega) ?_
  exact kk σ5 H locs ls hw (lv_sub hl [0, 1, 2, 3, 4] rfl)
set_option maxHeartbeats 4000000 in
set_option maxRecDepth 100000 in
theorem lc_28 (cx : oCx p s m args c cL_law 8 RL cy D A K) (hA : ∀ q, s.heap.size ≤ q → A q) (hfl : l.stackTraces = false) (hX : va_X b N xs s s.heap) (hbl : b < s.heap.size) (hbA : ¬ A b) (hN : N ≤ 2560) (h0 : 0 ≤ i.toInt) (h5 : i.toInt + 5 ≤ (N : Int)) (hw : oI A L τ cy D s.heap σ H locs) (I : lI L τ σ x k o t w) (F : lF L τ σ x k) (hl : lv_has ls 8 [(4, .int i), (3, .ref o), (2, .ref k), (1, .ref x), (0, .ref b)]) (hf0 : cells + 0 ≤ room_1.cells ∧ slots + 0 ≤ room_1.slots) (hf1 : cells + 1 ≤ room_1.cells ∧ slots + 6 ≤ room_1.slots) (hf2 : cells + 1 + 0 ≤ room_1.cells ∧ slots + 6 + 0 ≤ room_1.slots)
    (kk : ∀ (σ1 : oSt) (H1 : Heap) (locs1 : List Loc) (ls1 : Array Slot), oI A L τ cy D s.heap σ1 H1 locs1 → lv_has ls1 8 [(4, .int i), (3, .ref o), (2, .ref k), (1, .ref x), (0, .ref b)] → W p l e room_1 s m args below meth c H1 locs1 (cells + 1) (slots + 6) Q (F0 m 1516 ls1 [])) : W p l e room_1 s m args below meth c H locs cells slots Q (F0 m 1026 ls []) := by
  have hx := cx.1.1
  have hb := cx.1.2.1
  have hml := cx.1.2.2.1
  have hown := cx.1.2.2.2.1
  have hts := cx.1.2.2.2.2
  have fr : oFr τ fs_law ts_law σ σ := oFr_rf
  obtain ⟨t1, t2, t3, t4⟩ := id I.2.2.2.2.2
  have i641 : Iv (σ.1 641 k) 0 0 := o_fb (j := 641) hw I.2.1 rfl
  have i642 : Iv (σ.1 642 k) 0 0 := o_fb (j := 642) hw I.2.1 rfl
  obtain ⟨hq, b_576_385, b_585_130, b_581_330, b_581_329, b_581_331, b_580_514, b_580_515, b_577_193, f587, f588, f655, f672, f653, f650, f651, f657⟩ := id F
  have hz := hq_hz hq
  have f385 := b_576_385 t I.2.2.2.1
  have f514 := b_580_514 w I.2.2.2.2.1
  have f515 := b_580_515 w I.2.2.2.2.1
  have hw0 := hw
  refine lv_aload_n hx hb dL_law_1026 rfl (lv_at hl 3 rfl) ?_
  refine o_ci hw (oRunV cx hA hw q_X10_meets k_m_L_146 rfl I.1 (by decide) (As := []) (c_X10_meets x I.1 hz) (by decide) rfl hl.1 rfl (Nat.le_of_ble_eq_true rfl) dL_law_1027 hf0) (fun v2 σ1 H locs hp hw => ?_)
  obtain ⟨p2_0, p2_1⟩ := hp
  have fr := oFr_tr fr p2_0 (by decide)
  refine lv_aload_n hx hb dL_law_1030 rfl (lv_at hl 2 rfl) ?_
  have z3 : (σ1.1 385 t).toInt = ((σ.1 385 t) : Int32).toInt := congrArg Int32.toInt (show σ1.1 385 t = (σ.1 385 t) from ((kp_c p2_0 (by decide)).trans rfl))
  have z4 : (σ1.1 514 w).toInt = ((σ.1 514 w) : Int32).toInt := congrArg Int32.toInt (show σ1.1 514 w = (σ.1 514 w) from ((kp_c p2_0 (by decide)).trans rfl))
  have z5 : (σ1.1 515 w).toInt = ((σ.1 515 w) : Int32).toInt := congrArg Int32.toInt (show σ1.1 515 w = (σ.1 515 w) from ((kp_c p2_0 (by decide)).trans rfl))
  have z6 : (σ1.1 655 k).toInt = ((σ.1 655 k) : Int32).toInt := congrArg Int32.toInt (show σ1.1 655 k = (σ.1 655 k) from ((kp_c p2_0 (by decide)).trans rfl))
  have z7 : (σ1.1 650 k).toInt = ((σ.1 650 k) : Int32).toInt := congrArg Int32.toInt (show σ1.1 650 k = (σ.1 650 k) from ((kp_c p2_0 (by decide)).trans rfl))
  have z8 : (σ1.1 651 k).toInt = ((σ.1 651 k) : Int32).toInt := congrArg Int32.toInt (show σ1.1 651 k = (σ.1 651 k) from ((kp_c p2_0 (by decide)).trans rfl))
  have z9 : (σ1.1 641 k).toInt = ((σ.1 641 k) : Int32).toInt := congrArg Int32.toInt (show σ1.1 641 k = (σ.1 641 k) from ((kp_c p2_0 (by decide)).trans rfl))
  have z10 : (σ1.1 642 k).toInt = ((σ.1 642 k) : Int32).toInt := congrArg Int32.toInt (show σ1.1 642 k = (σ.1 642 k) from ((kp_c p2_0 (by decide)).trans rfl))
  refine o_ci hw (oRunV cx hA hw q_X11_meets k_m_L_149 rfl I.2.1 (by decide) (As := []) (c_X11_meets k I.2.1) (by decide) rfl hl.1 rfl (Nat.le_of_ble_eq_true rfl) dL_law_1031 hf0) (fun v12 σ11 H locs hp hw => ?_)
  obtain ⟨p12_0, p12_1⟩ := hp
  have fr := oFr_tr fr p12_0 (by decide)
  refine lv_icmp_eq (tgt := 1516) hx hb dL_law_1034 (by decide) (fun c13 => ?_) (fun c13 => absurd (i32_eq (by have := (f385).1; have := (f385).2; have := (f514).1; have := (f514).2; have := (f515).1; have := (f515).2; have := (f587).1; have := (f587).2; have := (f588).1; have := (f588).2; have := (f655).1; have := (f655).2; have := (f672).1; have := (f672).2; have := (f653).1; have := (f653).2; have := (f650).1; have := (f650).2; have := (f651).1; have := (f651).2; have := (f657).1; have := (f657).2; have := (i641).1; have := (i641).2; have := (i642).1; have := (i642).2; have := (p2_1).1; have := (p2_1).2; have := (p12_1).1; have := (p12_1).2; have : (σ11.1 385 t).toInt = ((σ.1 385 t) : Int32).toInt := congrArg Int32.toInt (show σ11.1 385 t = (σ.1 385 t) from ((kp_c p12_0 (by decide)).trans ((kp_c p2_0 (by decide)).trans rfl))); have : (σ11.1 514 w).toInt = ((σ.1 514 w) : Int32).toInt := congrArg Int32.toInt (show σ11.1 514 w = (σ.1 514 w) from ((kp_c p12_0 (by decide)).trans ((kp_c p2_0 (by decide)).trans rfl))); have : (σ11.1 515 w).toInt = ((σ.1 515 w) : Int32).toInt := congrArg Int32.toInt (show σ11.1 515 w = (σ.1 515 w) from ((kp_c p12_0 (by decide)).trans ((kp_c p2_0 (by decide)).trans rfl))); have : (σ11.1 587 x).toInt = ((σ.1 587 x) : Int32).toInt := congrArg Int32.toInt (show σ11.1 587 x = (σ.1 587 x) from ((kp_c p12_0 (by decide)).trans ((kp_c p2_0 (by decide)).trans rfl))); have : (σ11.1 588 x).toInt = ((σ.1 588 x) : Int32).toInt := congrArg Int32.toInt (show σ11.1 588 x = (σ.1 588 x) from ((kp_c p12_0 (by decide)).trans ((kp_c p2_0 (by decide)).trans rfl))); have : (σ11.1 655 k).toInt = ((σ.1 655 k) : Int32).toInt := congrArg Int32.toInt (show σ11.1 655 k = (σ.1 655 k) from ((kp_c p12_0 (by decide)).trans ((kp_c p2_0 (by decide)).trans rfl))); have : (σ11.1 672 k).toInt = ((σ.1 672 k) : Int32).toInt := congrArg Int32.toInt (show σ11.1 672 k = (σ.1 672 k) from ((kp_c p12_0 (by decide)).trans ((kp_c p2_0 (by decide)).trans rfl))); have : (σ11.1 653 k).toInt = ((σ.1 653 k) : Int32).toInt := congrArg Int32.toInt (show σ11.1 653 k = (σ.1 653 k) from ((kp_c p12_0 (by decide)).trans ((kp_c p2_0 (by decide)).trans rfl))); have : (σ11.1 650 k).toInt = ((σ.1 650 k) : Int32).toInt := congrArg Int32.toInt (show σ11.1 650 k = (σ.1 650 k) from ((kp_c p12_0 (by decide)).trans ((kp_c p2_0 (by decide)).trans rfl))); have : (σ11.1 651 k).toInt = ((σ.1 651 k) : Int32).toInt := congrArg Int32.toInt (show σ11.1 651 k = (σ.1 651 k) from ((kp_c p12_0 (by decide)).trans ((kp_c p2_0 (by decide)).trans rfl))); have : (σ11.1 657 k).toInt = ((σ.1 657 k) : Int32).toInt := congrArg Int32.toInt (show σ11.1 657 k = (σ.1 657 k) from ((kp_c p12_0 (by decide)).trans ((kp_c p2_0 (by decide)).trans rfl))); have : (σ11.1 641 k).toInt = ((σ.1 641 k) : Int32).toInt := congrArg Int32.toInt (show σ11.1 641 k = (σ.1 641 k) from ((kp_c p12_0 (by decide)).trans ((kp_c p2_0 (by decide)).trans rfl))); have : (σ11.1 642 k).toInt = ((σ.1 642 k) : Int32).toInt := congrArg Int32.toInt (show σ11.1 642 k = (σ.1 642 k) from ((kp_c p12_0 (by decide)).trans ((kp_c p2_0 (by decide)).trans rfl))); omega)) c13)
  refine W.widen (k := cells + 1) (n := slots + 6) (by omega) (by omega) ?_
  exact kk σ11 H locs ls hw (lv_sub hl [0, 1, 2, 3, 4] rfl)
set_option maxHeartbeats 4000000 in
set_option maxRecDepth 100000 in
theorem lc_29 (cx : oCx p s m args c cL_law 8 RL cy D A K) (hA : ∀ q, s.heap.size ≤ q → A q) (hfl : l.stackTraces = false) (hX : va_X b N xs s s.heap) (hbl : b < s.heap.size) (hbA : ¬ A b) (hN : N ≤ 2560) (h0 : 0 ≤ i.toInt) (h5 : i.toInt + 5 ≤ (N : Int)) (hw : oI A L τ cy D s.heap σ H locs) (I : lI L τ σ x k o t w) (F : lF L τ σ x k) (hl : lv_has ls 8 [(4, .int i), (3, .ref o), (2, .ref k), (1, .ref x), (0, .ref b)]) (hf0 : cells + 0 ≤ room_1.cells ∧ slots + 0 ≤ room_1.slots) (hf1 : cells + 1 ≤ room_1.cells ∧ slots + 6 ≤ room_1.slots) (hf2 : cells + 1 + 0 ≤ room_1.cells ∧ slots + 6 + 0 ≤ room_1.slots)
    (kk : ∀ (σ1 : oSt) (H1 : Heap) (locs1 : List Loc) (ls1 : Array Slot), oI A L τ cy D s.heap σ1 H1 locs1 → lv_has ls1 8 [(4, .int i), (3, .ref o), (2, .ref k), (1, .ref x), (0, .ref b)] → W p l e room_1 s m args below meth c H1 locs1 (cells + 1) (slots + 6) Q (F0 m 1516 ls1 [])) : W p l e room_1 s m args below meth c H locs cells slots Q (F0 m 1039 ls []) := by
  have hx := cx.1.1
  have hb := cx.1.2.1
  have hml := cx.1.2.2.1
  have hown := cx.1.2.2.2.1
  have hts := cx.1.2.2.2.2
  have fr : oFr τ fs_law ts_law σ σ := oFr_rf
  obtain ⟨t1, t2, t3, t4⟩ := id I.2.2.2.2.2
  have i641 : Iv (σ.1 641 k) 0 0 := o_fb (j := 641) hw I.2.1 rfl
  have i642 : Iv (σ.1 642 k) 0 0 := o_fb (j := 642) hw I.2.1 rfl
  obtain ⟨hq, b_576_385, b_585_130, b_581_330, b_581_329, b_581_331, b_580_514, b_580_515, b_577_193, f587, f588, f655, f672, f653, f650, f651, f657⟩ := id F
  have hz := hq_hz hq
  have f385 := b_576_385 t I.2.2.2.1
  have f514 := b_580_514 w I.2.2.2.2.1
  have f515 := b_580_515 w I.2.2.2.2.1
  have hw0 := hw
  refine lv_aload_n hx hb dL_law_1039 rfl (lv_at hl 3 rfl) ?_
  refine lv_aload_n hx hb dL_law_1040 rfl (lv_at hl 4 rfl) ?_
  refine lv_iload hx hb dL_law_1041 (lv_at hl 0 rfl) ?_
  refine lv_iconst (v := 1) hx hb dL_law_1043 (by decide) ?_
  refine lv_iadd hx hb dL_law_1044 ?_
  refine va_sld hx hb hX hbl hbA hw.2.2.1 (lx_in h0 h5 hN (by decide)) dL_law_1045 ?_
  refine lv_topi (fun v1 e1 => ?_)
  refine o_ci hw (oRunV cx hA hw q_X10_round k_m_L_150 rfl I.1 (by decide) (As := [.int v1]) (c_X10_round x I.1 v1 hz) (by decide) rfl hl.1 rfl (Nat.le_of_ble_eq_true rfl) dL_law_1046 hf0) (fun v3 σ2 H locs hp hw => ?_)
  obtain ⟨p3_0, p3_1⟩ := hp
  rw [p3_0] at hw
  refine lv_aload_n hx hb dL_law_1049 rfl (lv_at hl 2 rfl) ?_
  refine lv_aload_n hx hb dL_law_1050 rfl (lv_at hl 4 rfl) ?_
  refine lv_iload hx hb dL_law_1051 (lv_at hl 0 rfl) ?_
  refine lv_iconst (v := 1) hx hb dL_law_1053 (by decide) ?_
  refine lv_iadd hx hb dL_law_1054 ?_
  refine va_sld hx hb hX hbl hbA hw.2.2.1 (lx_in h0 h5 hN (by decide)) dL_law_1055 ?_
  refine lv_topi (fun v4 e4 => ?_)
  rw [show v4 = v1 from e4.trans e1.symm]
  refine o_ci hw (oRunV cx hA hw q_X11_round k_m_L_153 rfl I.2.1 (by decide) (As := [.int v1]) (c_X11_round k I.2.1 v1) (by decide) rfl hl.1 rfl (Nat.le_of_ble_eq_true rfl) dL_law_1056 hf0) (fun v6 σ5 H locs hp hw => ?_)
  obtain ⟨p6_0, p6_1⟩ := hp
  have fr := oFr_tr fr p6_0 (by decide)
  refine lv_icmp_eq (tgt := 1516) hx hb dL_law_1059 (by decide) (fun c7 => ?_) (fun c7 => absurd (i32_eq (by have := (f385).1; have := (f385).2; have := (f514).1; have := (f514).2; have := (f515).1; have := (f515).2; have := (f587).1; have := (f587).2; have := (f588).1; have := (f588).2; have := (f655).1; have := (f655).2; have := (f672).1; have := (f672).2; have := (f653).1; have := (f653).2; have := (f650).1; have := (f650).2; have := (f651).1; have := (f651).2; have := (f657).1; have := (f657).2; have := (i641).1; have := (i641).2; have := (i642).1; have := (i642).2; have := (p3_1).1; have := (p3_1).2; have := (p6_1).1; have := (p6_1).2; have : (σ5.1 385 t).toInt = ((σ.1 385 t) : Int32).toInt := congrArg Int32.toInt (show σ5.1 385 t = (σ.1 385 t) from ((kp_c p6_0 (by decide)).trans rfl)); have : (σ5.1 514 w).toInt = ((σ.1 514 w) : Int32).toInt := congrArg Int32.toInt (show σ5.1 514 w = (σ.1 514 w) from ((kp_c p6_0 (by decide)).trans rfl)); have : (σ5.1 515 w).toInt = ((σ.1 515 w) : Int32).toInt := congrArg Int32.toInt (show σ5.1 515 w = (σ.1 515 w) from ((kp_c p6_0 (by decide)).trans rfl)); have : (σ5.1 587 x).toInt = ((σ.1 587 x) : Int32).toInt := congrArg Int32.toInt (show σ5.1 587 x = (σ.1 587 x) from ((kp_c p6_0 (by decide)).trans rfl)); have : (σ5.1 588 x).toInt = ((σ.1 588 x) : Int32).toInt := congrArg Int32.toInt (show σ5.1 588 x = (σ.1 588 x) from ((kp_c p6_0 (by decide)).trans rfl)); have : (σ5.1 655 k).toInt = ((σ.1 655 k) : Int32).toInt := congrArg Int32.toInt (show σ5.1 655 k = (σ.1 655 k) from ((kp_c p6_0 (by decide)).trans rfl)); have : (σ5.1 672 k).toInt = ((σ.1 672 k) : Int32).toInt := congrArg Int32.toInt (show σ5.1 672 k = (σ.1 672 k) from ((kp_c p6_0 (by decide)).trans rfl)); have : (σ5.1 653 k).toInt = ((σ.1 653 k) : Int32).toInt := congrArg Int32.toInt (show σ5.1 653 k = (σ.1 653 k) from ((kp_c p6_0 (by decide)).trans rfl)); have : (σ5.1 650 k).toInt = ((σ.1 650 k) : Int32).toInt := congrArg Int32.toInt (show σ5.1 650 k = (σ.1 650 k) from ((kp_c p6_0 (by decide)).trans rfl)); have : (σ5.1 651 k).toInt = ((σ.1 651 k) : Int32).toInt := congrArg Int32.toInt (show σ5.1 651 k = (σ.1 651 k) from ((kp_c p6_0 (by decide)).trans rfl)); have : (σ5.1 657 k).toInt = ((σ.1 657 k) : Int32).toInt := congrArg Int32.toInt (show σ5.1 657 k = (σ.1 657 k) from ((kp_c p6_0 (by decide)).trans rfl)); have : (σ5.1 641 k).toInt = ((σ.1 641 k) : Int32).toInt := congrArg Int32.toInt (show σ5.1 641 k = (σ.1 641 k) from ((kp_c p6_0 (by decide)).trans rfl)); have : (σ5.1 642 k).toInt = ((σ.1 642 k) : Int32).toInt := congrArg Int32.toInt (show σ5.1 642 k = (σ.1 642 k) from ((kp_c p6_0 (by decide)).trans rfl)); omega)) c7)
  refine W.widen (k := cells + 1) (n := slots + 6) (by omega) (by omega) ?_
  exact kk σ5 H locs ls hw (lv_sub hl [0, 1, 2, 3, 4] rfl)
set_option maxHeartbeats 4000000 in
set_option maxRecDepth 100000 in
theorem lc_30 (cx : oCx p s m args c cL_law 8 RL cy D A K) (hA : ∀ q, s.heap.size ≤ q → A q) (hfl : l.stackTraces = false) (hX : va_X b N xs s s.heap) (hbl : b < s.heap.size) (hbA : ¬ A b) (hN : N ≤ 2560) (h0 : 0 ≤ i.toInt) (h5 : i.toInt + 5 ≤ (N : Int)) (hw : oI A L τ cy D s.heap σ H locs) (I : lI L τ σ x k o t w) (F : lF L τ σ x k) (hl : lv_has ls 8 [(4, .int i), (3, .ref o), (2, .ref k), (1, .ref x), (0, .ref b)]) (hf0 : cells + 0 ≤ room_1.cells ∧ slots + 0 ≤ room_1.slots) (hf1 : cells + 1 ≤ room_1.cells ∧ slots + 6 ≤ room_1.slots) (hf2 : cells + 1 + 0 ≤ room_1.cells ∧ slots + 6 + 0 ≤ room_1.slots)
    (kk : ∀ (σ1 : oSt) (H1 : Heap) (locs1 : List Loc) (ls1 : Array Slot), oI A L τ cy D s.heap σ1 H1 locs1 → lv_has ls1 8 [(4, .int i), (3, .ref o), (2, .ref k), (1, .ref x), (0, .ref b)] → W p l e room_1 s m args below meth c H1 locs1 (cells + 1) (slots + 6) Q (F0 m 1516 ls1 [])) : W p l e room_1 s m args below meth c H locs cells slots Q (F0 m 1064 ls []) := by
  have hx := cx.1.1
  have hb := cx.1.2.1
  have hml := cx.1.2.2.1
  have hown := cx.1.2.2.2.1
  have hts := cx.1.2.2.2.2
  have fr : oFr τ fs_law ts_law σ σ := oFr_rf
  obtain ⟨t1, t2, t3, t4⟩ := id I.2.2.2.2.2
  have i641 : Iv (σ.1 641 k) 0 0 := o_fb (j := 641) hw I.2.1 rfl
  have i642 : Iv (σ.1 642 k) 0 0 := o_fb (j := 642) hw I.2.1 rfl
  obtain ⟨hq, b_576_385, b_585_130, b_581_330, b_581_329, b_581_331, b_580_514, b_580_515, b_577_193, f587, f588, f655, f672, f653, f650, f651, f657⟩ := id F
  have hz := hq_hz hq
  have f385 := b_576_385 t I.2.2.2.1
  have f514 := b_580_514 w I.2.2.2.2.1
  have f515 := b_580_515 w I.2.2.2.2.1
  have hw0 := hw
  refine lv_aload_n hx hb dL_law_1064 rfl (lv_at hl 3 rfl) ?_
  refine lv_aload_n hx hb dL_law_1065 rfl (lv_at hl 4 rfl) ?_
  refine lv_iload hx hb dL_law_1066 (lv_at hl 0 rfl) ?_
  refine lv_iconst (v := 1) hx hb dL_law_1068 (by decide) ?_
  refine lv_iadd hx hb dL_law_1069 ?_
  refine va_sld hx hb hX hbl hbA hw.2.2.1 (lx_in h0 h5 hN (by decide)) dL_law_1070 ?_
  refine lv_topi (fun v1 e1 => ?_)
  refine lv_aload_n hx hb dL_law_1071 rfl (lv_at hl 4 rfl) ?_
  refine lv_iload hx hb dL_law_1072 (lv_at hl 0 rfl) ?_
  refine lv_iconst (v := 2) hx hb dL_law_1074 (by decide) ?_
  refine lv_iadd hx hb dL_law_1075 ?_
  refine va_sld hx hb hX hbl hbA hw.2.2.1 (lx_in h0 h5 hN (by decide)) dL_law_1076 ?_
  refine lv_topi (fun v2 e2 => ?_)
  refine o_ci hw (oRunV cx hA hw q_X10_lure k_m_L_154 rfl I.1 (by decide) (As := [.int v1, .int v2]) (c_X10_lure x I.1 v1 v2 hz) (by decide) rfl hl.1 rfl (Nat.le_of_ble_eq_true rfl) dL_law_1077 hf0) (fun v4 σ3 H locs hp hw => ?_)
  obtain ⟨p4_0, p4_1⟩ := hp
  rw [p4_0] at hw
  refine lv_aload_n hx hb dL_law_1080 rfl (lv_at hl 2 rfl) ?_
  refine lv_aload_n hx hb dL_law_1081 rfl (lv_at hl 4 rfl) ?_
  refine lv_iload hx hb dL_law_1082 (lv_at hl 0 rfl) ?_
  refine lv_iconst (v := 1) hx hb dL_law_1084 (by decide) ?_
  refine lv_iadd hx hb dL_law_1085 ?_
  refine va_sld hx hb hX hbl hbA hw.2.2.1 (lx_in h0 h5 hN (by decide)) dL_law_1086 ?_
  refine lv_topi (fun v5 e5 => ?_)
  rw [show v5 = v1 from e5.trans e1.symm]
  refine lv_aload_n hx hb dL_law_1087 rfl (lv_at hl 4 rfl) ?_
  refine lv_iload hx hb dL_law_1088 (lv_at hl 0 rfl) ?_
  refine lv_iconst (v := 2) hx hb dL_law_1090 (by decide) ?_
  refine lv_iadd hx hb dL_law_1091 ?_
  refine va_sld hx hb hX hbl hbA hw.2.2.1 (lx_in h0 h5 hN (by decide)) dL_law_1092 ?_
  refine lv_topi (fun v6 e6 => ?_)
  rw [show v6 = v2 from e6.trans e2.symm]
  refine o_ci hw (oRunV cx hA hw q_X11_lure k_m_L_157 rfl I.2.1 (by decide) (As := [.int v1, .int v2]) (c_X11_lure k I.2.1 v1 v2) (by decide) rfl hl.1 rfl (Nat.le_of_ble_eq_true rfl) dL_law_1093 hf0) (fun v8 σ7 H locs hp hw => ?_)
  obtain ⟨p8_0, p8_1⟩ := hp
  have fr := oFr_tr fr p8_0 (by decide)
  refine lv_icmp_eq (tgt := 1516) hx hb dL_law_1096 (by decide) (fun c9 => ?_) (fun c9 => absurd (i32_eq (by have := (f385).1; have := (f385).2; have := (f514).1; have := (f514).2; have := (f515).1; have := (f515).2; have := (f587).1; have := (f587).2; have := (f588).1; have := (f588).2; have := (f655).1; have := (f655).2; have := (f672).1; have := (f672).2; have := (f653).1; have := (f653).2; have := (f650).1; have := (f650).2; have := (f651).1; have := (f651).2; have := (f657).1; have := (f657).2; have := (i641).1; have := (i641).2; have := (i642).1; have := (i642).2; have := (p4_1).1; have := (p4_1).2; have := (p8_1).1; have := (p8_1).2; have : (σ7.1 385 t).toInt = ((σ.1 385 t) : Int32).toInt := congrArg Int32.toInt (show σ7.1 385 t = (σ.1 385 t) from ((kp_c p8_0 (by decide)).trans rfl)); have : (σ7.1 514 w).toInt = ((σ.1 514 w) : Int32).toInt := congrArg Int32.toInt (show σ7.1 514 w = (σ.1 514 w) from ((kp_c p8_0 (by decide)).trans rfl)); have : (σ7.1 515 w).toInt = ((σ.1 515 w) : Int32).toInt := congrArg Int32.toInt (show σ7.1 515 w = (σ.1 515 w) from ((kp_c p8_0 (by decide)).trans rfl)); have : (σ7.1 587 x).toInt = ((σ.1 587 x) : Int32).toInt := congrArg Int32.toInt (show σ7.1 587 x = (σ.1 587 x) from ((kp_c p8_0 (by decide)).trans rfl)); have : (σ7.1 588 x).toInt = ((σ.1 588 x) : Int32).toInt := congrArg Int32.toInt (show σ7.1 588 x = (σ.1 588 x) from ((kp_c p8_0 (by decide)).trans rfl)); have : (σ7.1 655 k).toInt = ((σ.1 655 k) : Int32).toInt := congrArg Int32.toInt (show σ7.1 655 k = (σ.1 655 k) from ((kp_c p8_0 (by decide)).trans rfl)); have : (σ7.1 672 k).toInt = ((σ.1 672 k) : Int32).toInt := congrArg Int32.toInt (show σ7.1 672 k = (σ.1 672 k) from ((kp_c p8_0 (by decide)).trans rfl)); have : (σ7.1 653 k).toInt = ((σ.1 653 k) : Int32).toInt := congrArg Int32.toInt (show σ7.1 653 k = (σ.1 653 k) from ((kp_c p8_0 (by decide)).trans rfl)); have : (σ7.1 650 k).toInt = ((σ.1 650 k) : Int32).toInt := congrArg Int32.toInt (show σ7.1 650 k = (σ.1 650 k) from ((kp_c p8_0 (by decide)).trans rfl)); have : (σ7.1 651 k).toInt = ((σ.1 651 k) : Int32).toInt := congrArg Int32.toInt (show σ7.1 651 k = (σ.1 651 k) from ((kp_c p8_0 (by decide)).trans rfl)); have : (σ7.1 657 k).toInt = ((σ.1 657 k) : Int32).toInt := congrArg Int32.toInt (show σ7.1 657 k = (σ.1 657 k) from ((kp_c p8_0 (by decide)).trans rfl)); have : (σ7.1 641 k).toInt = ((σ.1 641 k) : Int32).toInt := congrArg Int32.toInt (show σ7.1 641 k = (σ.1 641 k) from ((kp_c p8_0 (by decide)).trans rfl)); have : (σ7.1 642 k).toInt = ((σ.1 642 k) : Int32).toInt := congrArg Int32.toInt (show σ7.1 642 k = (σ.1 642 k) from ((kp_c p8_0 (by decide)).trans rfl)); omega)) c9)
  refine W.widen (k := cells + 1) (n := slots + 6) (by omega) (by omega) ?_
  exact kk σ7 H locs ls hw (lv_sub hl [0, 1, 2, 3, 4] rfl)
set_option maxHeartbeats 4000000 in
set_option maxRecDepth 100000 in
theorem lc_31 (cx : oCx p s m args c cL_law 8 RL cy D A K) (hA : ∀ q, s.heap.size ≤ q → A q) (hfl : l.stackTraces = false) (hX : va_X b N xs s s.heap) (hbl : b < s.heap.size) (hbA : ¬ A b) (hN : N ≤ 2560) (h0 : 0 ≤ i.toInt) (h5 : i.toInt + 5 ≤ (N : Int)) (hw : oI A L τ cy D s.heap σ H locs) (I : lI L τ σ x k o t w) (F : lF L τ σ x k) (hl : lv_has ls 8 [(4, .int i), (3, .ref o), (2, .ref k), (1, .ref x), (0, .ref b)]) (hf0 : cells + 0 ≤ room_1.cells ∧ slots + 0 ≤ room_1.slots) (hf1 : cells + 1 ≤ room_1.cells ∧ slots + 6 ≤ room_1.slots) (hf2 : cells + 1 + 0 ≤ room_1.cells ∧ slots + 6 + 0 ≤ room_1.slots)
    (kk : ∀ (σ1 : oSt) (H1 : Heap) (locs1 : List Loc) (ls1 : Array Slot), oI A L τ cy D s.heap σ1 H1 locs1 → lv_has ls1 8 [(4, .int i), (3, .ref o), (2, .ref k), (1, .ref x), (0, .ref b)] → W p l e room_1 s m args below meth c H1 locs1 (cells + 1) (slots + 6) Q (F0 m 1516 ls1 [])) : W p l e room_1 s m args below meth c H locs cells slots Q (F0 m 1101 ls []) := by
  have hx := cx.1.1
  have hb := cx.1.2.1
  have hml := cx.1.2.2.1
  have hown := cx.1.2.2.2.1
  have hts := cx.1.2.2.2.2
  have fr : oFr τ fs_law ts_law σ σ := oFr_rf
  obtain ⟨t1, t2, t3, t4⟩ := id I.2.2.2.2.2
  have i641 : Iv (σ.1 641 k) 0 0 := o_fb (j := 641) hw I.2.1 rfl
  have i642 : Iv (σ.1 642 k) 0 0 := o_fb (j := 642) hw I.2.1 rfl
  obtain ⟨hq, b_576_385, b_585_130, b_581_330, b_581_329, b_581_331, b_580_514, b_580_515, b_577_193, f587, f588, f655, f672, f653, f650, f651, f657⟩ := id F
  have hz := hq_hz hq
  have f385 := b_576_385 t I.2.2.2.1
  have f514 := b_580_514 w I.2.2.2.2.1
  have f515 := b_580_515 w I.2.2.2.2.1
  have hw0 := hw
  refine lv_aload_n hx hb dL_law_1101 rfl (lv_at hl 3 rfl) ?_
  refine lv_aload_n hx hb dL_law_1102 rfl (lv_at hl 4 rfl) ?_
  refine lv_iload hx hb dL_law_1103 (lv_at hl 0 rfl) ?_
  refine lv_iconst (v := 1) hx hb dL_law_1105 (by decide) ?_
  refine lv_iadd hx hb dL_law_1106 ?_
  refine va_sld hx hb hX hbl hbA hw.2.2.1 (lx_in h0 h5 hN (by decide)) dL_law_1107 ?_
  refine lv_topi (fun v1 e1 => ?_)
  refine lv_aload_n hx hb dL_law_1108 rfl (lv_at hl 4 rfl) ?_
  refine lv_iload hx hb dL_law_1109 (lv_at hl 0 rfl) ?_
  refine lv_iconst (v := 2) hx hb dL_law_1111 (by decide) ?_
  refine lv_iadd hx hb dL_law_1112 ?_
  refine va_sld hx hb hX hbl hbA hw.2.2.1 (lx_in h0 h5 hN (by decide)) dL_law_1113 ?_
  refine lv_topi (fun v2 e2 => ?_)
  refine o_ci hw (oRunV cx hA hw q_X10_hedge k_m_L_158 rfl I.1 (by decide) (As := [.int v1, .int v2]) (c_X10_hedge x I.1 v1 v2 hz) (by decide) rfl hl.1 rfl (Nat.le_of_ble_eq_true rfl) dL_law_1114 hf0) (fun v4 σ3 H locs hp hw => ?_)
  obtain ⟨p4_0, p4_1⟩ := hp
  rw [p4_0] at hw
  refine lv_aload_n hx hb dL_law_1117 rfl (lv_at hl 2 rfl) ?_
  refine lv_aload_n hx hb dL_law_1118 rfl (lv_at hl 4 rfl) ?_
  refine lv_iload hx hb dL_law_1119 (lv_at hl 0 rfl) ?_
  refine lv_iconst (v := 1) hx hb dL_law_1121 (by decide) ?_
  refine lv_iadd hx hb dL_law_1122 ?_
  refine va_sld hx hb hX hbl hbA hw.2.2.1 (lx_in h0 h5 hN (by decide)) dL_law_1123 ?_
  refine lv_topi (fun v5 e5 => ?_)
  rw [show v5 = v1 from e5.trans e1.symm]
  refine lv_aload_n hx hb dL_law_1124 rfl (lv_at hl 4 rfl) ?_
  refine lv_iload hx hb dL_law_1125 (lv_at hl 0 rfl) ?_
  refine lv_iconst (v := 2) hx hb dL_law_1127 (by decide) ?_
  refine lv_iadd hx hb dL_law_1128 ?_
  refine va_sld hx hb hX hbl hbA hw.2.2.1 (lx_in h0 h5 hN (by decide)) dL_law_1129 ?_
  refine lv_topi (fun v6 e6 => ?_)
  rw [show v6 = v2 from e6.trans e2.symm]
  refine o_ci hw (oRunV cx hA hw q_X11_hedge k_m_L_161 rfl I.2.1 (by decide) (As := [.int v1, .int v2]) (c_X11_hedge k I.2.1 v1 v2) (by decide) rfl hl.1 rfl (Nat.le_of_ble_eq_true rfl) dL_law_1130 hf0) (fun v8 σ7 H locs hp hw => ?_)
  obtain ⟨p8_0, p8_1⟩ := hp
  have fr := oFr_tr fr p8_0 (by decide)
  refine lv_icmp_eq (tgt := 1516) hx hb dL_law_1133 (by decide) (fun c9 => ?_) (fun c9 => absurd (i32_eq (by have := (f385).1; have := (f385).2; have := (f514).1; have := (f514).2; have := (f515).1; have := (f515).2; have := (f587).1; have := (f587).2; have := (f588).1; have := (f588).2; have := (f655).1; have := (f655).2; have := (f672).1; have := (f672).2; have := (f653).1; have := (f653).2; have := (f650).1; have := (f650).2; have := (f651).1; have := (f651).2; have := (f657).1; have := (f657).2; have := (i641).1; have := (i641).2; have := (i642).1; have := (i642).2; have := (p4_1).1; have := (p4_1).2; have := (p8_1).1; have := (p8_1).2; have : (σ7.1 385 t).toInt = ((σ.1 385 t) : Int32).toInt := congrArg Int32.toInt (show σ7.1 385 t = (σ.1 385 t) from ((kp_c p8_0 (by decide)).trans rfl)); have : (σ7.1 514 w).toInt = ((σ.1 514 w) : Int32).toInt := congrArg Int32.toInt (show σ7.1 514 w = (σ.1 514 w) from ((kp_c p8_0 (by decide)).trans rfl)); have : (σ7.1 515 w).toInt = ((σ.1 515 w) : Int32).toInt := congrArg Int32.toInt (show σ7.1 515 w = (σ.1 515 w) from ((kp_c p8_0 (by decide)).trans rfl)); have : (σ7.1 587 x).toInt = ((σ.1 587 x) : Int32).toInt := congrArg Int32.toInt (show σ7.1 587 x = (σ.1 587 x) from ((kp_c p8_0 (by decide)).trans rfl)); have : (σ7.1 588 x).toInt = ((σ.1 588 x) : Int32).toInt := congrArg Int32.toInt (show σ7.1 588 x = (σ.1 588 x) from ((kp_c p8_0 (by decide)).trans rfl)); have : (σ7.1 655 k).toInt = ((σ.1 655 k) : Int32).toInt := congrArg Int32.toInt (show σ7.1 655 k = (σ.1 655 k) from ((kp_c p8_0 (by decide)).trans rfl)); have : (σ7.1 672 k).toInt = ((σ.1 672 k) : Int32).toInt := congrArg Int32.toInt (show σ7.1 672 k = (σ.1 672 k) from ((kp_c p8_0 (by decide)).trans rfl)); have : (σ7.1 653 k).toInt = ((σ.1 653 k) : Int32).toInt := congrArg Int32.toInt (show σ7.1 653 k = (σ.1 653 k) from ((kp_c p8_0 (by decide)).trans rfl)); have : (σ7.1 650 k).toInt = ((σ.1 650 k) : Int32).toInt := congrArg Int32.toInt (show σ7.1 650 k = (σ.1 650 k) from ((kp_c p8_0 (by decide)).trans rfl)); have : (σ7.1 651 k).toInt = ((σ.1 651 k) : Int32).toInt := congrArg Int32.toInt (show σ7.1 651 k = (σ.1 651 k) from ((kp_c p8_0 (by decide)).trans rfl)); have : (σ7.1 657 k).toInt = ((σ.1 657 k) : Int32).toInt := congrArg Int32.toInt (show σ7.1 657 k = (σ.1 657 k) from ((kp_c p8_0 (by decide)).trans rfl)); have : (σ7.1 641 k).toInt = ((σ.1 641 k) : Int32).toInt := congrArg Int32.toInt (show σ7.1 641 k = (σ.1 641 k) from ((kp_c p8_0 (by decide)).trans rfl)); have : (σ7.1 642 k).toInt = ((σ.1 642 k) : Int32).toInt := congrArg Int32.toInt (show σ7.1 642 k = (σ.1 642 k) from ((kp_c p8_0 (by decide)).trans rfl)); omega)) c9)
  refine W.widen (k := cells + 1) (n := slots + 6) (by omega) (by omega) ?_
  exact kk σ7 H locs ls hw (lv_sub hl [0, 1, 2, 3, 4] rfl)
end LAW
