section OM
variable {l : Launch} {A : Nat → Prop} {L : List Nat} {τ : Nat → Nat} {cy : Nat → ClassId} {D : va_G} {K : (Nat → Nat) × (Nat → Nat)} {σ : oSt}
set_option maxHeartbeats 4000000 in
set_option maxRecDepth 100000 in
theorem c_X11_isGround (a0 : Int32) (a1 : Int32) : oMet l A L τ cy D K yX11_isGround cX11_isGround 2 (some .boolean) 1 22 [.int a0, .int a1] σ (va_Qi (fun r σ1 => σ1 = σ ∧ Iv r 0 1 ∧ (¬ r = 0 → Iv a0 35 57) ∧ ((r.toInt = 1 ∧ ((48 ≤ a0.toInt ∧ a0.toInt ≤ 57) ∨ a0.toInt = 35 ∨ (a0.toInt = 43 ∧ a1.toInt < 6))) ∨ (r.toInt = 0 ∧ ¬ ((48 ≤ a0.toInt ∧ a0.toInt ≤ 57) ∨ a0.toInt = 35 ∨ (a0.toInt = 43 ∧ a1.toInt < 6))))) (oPo A L τ cy D) A) := by
  refine oMk (by decide) (Nat.le_of_ble_eq_true rfl) rfl ?_
  intro p e s m args below meth c ls cx rx hA hw hl
  generalize hQ : MQ below _ args s 0 0 A = Q
  have hx := cx.1.1
  have hb := cx.1.2.1
  have hml := cx.1.2.2.1
  have hown := cx.1.2.2.2.1
  have hts := cx.1.2.2.2.2
  have hl : lv_has ls 2 [(0, .int a0), (1, .int a1)] := hl
  refine lv_iload_n hx hb dX11_isGround_0 rfl (lv_at hl 0 rfl) ?_
  refine lv_bipush (v := 48) hx hb dX11_isGround_1 (by decide) ?_
  refine lv_bipush (v := 57) hx hb dX11_isGround_3 (by decide) ?_
  refine o_ci hw (oRunS cx hA hw q_X11_in k_m_X11_95 (As := [.int a0, .int 48, .int 57]) (c_X11_in a0 48 57) (by decide) rfl hl.1 rfl (Nat.le_of_ble_eq_true rfl) dX11_isGround_5 (by decide)) (fun v2 σ1 H locs hp hw => ?_)
  obtain ⟨p2_0, p2_1, p2_2, p2_3, p2_4⟩ := hp
  rw [p2_0] at hw
  refine lv_if_ne (tgt := 29) hx hb dX11_isGround_8 (by decide) (fun c3 => ?_) (fun c3 => ?_)
  · --
    have i4 : Iv v2 1 1 := iv_ne1 c3 p2_1 (⟨by decide, by decide⟩ : Iv 0 0 0) (by decide)
    have i5 : Iv a0 48 57 := (fun h => iv_rel (p2_2 h) (⟨by decide, by decide⟩ : Iv 48 48 48) (⟨by decide, by decide⟩ : Iv 57 57 57)) c3
    refine lv_iconst (v := 1) hx hb dX11_isGround_29 (by decide) ?_
    refine lv_goto (tgt := 34) hx hb dX11_isGround_30 (by decide) ?_
    rw [← hQ]
    exact o_rz cx rx hw (iv_nz01 (iv_w (⟨by decide, by decide⟩ : Iv 1 1 1) (by decide))) dX11_isGround_34 ⟨rfl, (iv_w (⟨by decide, by decide⟩ : Iv 1 1 1) (by decide)), (fun _ => iv_w i5 (by decide)), (by exact (by have := (i5).1; have := (i5).2; have := (i4).1; have := (i4).2; have : (1 : Int32).toInt = 1 := (by decide); have : (48 : Int32).toInt = 48 := (by decide); have : (57 : Int32).toInt = 57 := (by decide); omega))⟩
  · --
    have i6 : Iv v2 0 0 := iv_eq1 c3 p2_1 (⟨by decide, by decide⟩ : Iv 0 0 0) (by decide)
    refine lv_iload_n hx hb dX11_isGround_11 rfl (lv_at hl 0 rfl) ?_
    refine lv_bipush (v := 35) hx hb dX11_isGround_12 (by decide) ?_
    refine lv_icmp_eq (tgt := 29) hx hb dX11_isGround_14 (by decide) (fun c7 => ?_) (fun c7 => ?_)
    · --
      have i8 : Iv a0 35 35 := iv_eq1 c7 (iv_top a0) (⟨by decide, by decide⟩ : Iv 35 35 35) (by decide)
      refine lv_iconst (v := 1) hx hb dX11_isGround_29 (by decide) ?_
      refine lv_goto (tgt := 34) hx hb dX11_isGround_30 (by decide) ?_
      rw [← hQ]
      exact o_rz cx rx hw (iv_nz01 (iv_w (⟨by decide, by decide⟩ : Iv 1 1 1) (by decide))) dX11_isGround_34 ⟨rfl, (iv_w (⟨by decide, by decide⟩ : Iv 1 1 1) (by decide)), (fun _ => iv_w i8 (by decide)), (by exact (by have := (i8).1; have := (i8).2; have := (i6).1; have := (i6).2; have : (v2 : Int32).toInt = (0 : Int32).toInt := congrArg Int32.toInt c3; have : (a0 : Int32).toInt = (35 : Int32).toInt := congrArg Int32.toInt c7; have : (0 : Int32).toInt = 0 := (by decide); have : (1 : Int32).toInt = 1 := (by decide); have : (35 : Int32).toInt = 35 := (by decide); have : (48 : Int32).toInt = 48 := (by decide); have : (57 : Int32).toInt = 57 := (by decide); omega))⟩
    · --
      refine lv_iload_n hx hb dX11_isGround_17 rfl (lv_at hl 0 rfl) ?_
      refine lv_bipush (v := 43) hx hb dX11_isGround_18 (by decide) ?_
      refine lv_icmp_ne (tgt := 33) hx hb dX11_isGround_20 (by decide) (fun c9 => ?_) (fun c9 => ?_)
      · --
        refine lv_iconst (v := 0) hx hb dX11_isGround_33 (by decide) ?_
        rw [← hQ]
        exact o_rz cx rx hw (iv_nz01 (iv_w (⟨by decide, by decide⟩ : Iv 0 0 0) (by decide))) dX11_isGround_34 ⟨rfl, (iv_w (⟨by decide, by decide⟩ : Iv 0 0 0) (by decide)), (fun h => absurd rfl h), (by exact (by have := (i6).1; have := (i6).2; have : (v2 : Int32).toInt = (0 : Int32).toInt := congrArg Int32.toInt c3; have : (a0 : Int32).toInt ≠ (35 : Int32).toInt := fun q => c7 (Int32.toInt_inj.mp q); have : (a0 : Int32).toInt ≠ (43 : Int32).toInt := fun q => c9 (Int32.toInt_inj.mp q); have : (0 : Int32).toInt = 0 := (by decide); have : (35 : Int32).toInt = 35 := (by decide); have : (43 : Int32).toInt = 43 := (by decide); have : (48 : Int32).toInt = 48 := (by decide); have : (57 : Int32).toInt = 57 := (by decide); omega))⟩
      · --
        have i10 : Iv a0 43 43 := iv_eq1 c9 (iv_top a0) (⟨by decide, by decide⟩ : Iv 43 43 43) (by decide)
        refine lv_iload_n hx hb dX11_isGround_23 rfl (lv_at hl 1 rfl) ?_
        refine lv_bipush (v := 6) hx hb dX11_isGround_24 (by decide) ?_
        refine lv_icmp_ge (tgt := 33) hx hb dX11_isGround_26 (by decide) (fun c11 => ?_) (fun c11 => ?_)
        · --
          have i12 : Iv a1 6 2147483647 := iv_le2 c11 (⟨by decide, by decide⟩ : Iv 6 6 6) (iv_top a1) (by decide)
          refine lv_iconst (v := 0) hx hb dX11_isGround_33 (by decide) ?_
          rw [← hQ]
          exact o_rz cx rx hw (iv_nz01 (iv_w (⟨by decide, by decide⟩ : Iv 0 0 0) (by decide))) dX11_isGround_34 ⟨rfl, (iv_w (⟨by decide, by decide⟩ : Iv 0 0 0) (by decide)), (fun h => absurd rfl h), (by exact (by have := (i10).1; have := (i10).2; have := (i12).1; have := (i12).2; have := (i6).1; have := (i6).2; have : (v2 : Int32).toInt = (0 : Int32).toInt := congrArg Int32.toInt c3; have : (a0 : Int32).toInt ≠ (35 : Int32).toInt := fun q => c7 (Int32.toInt_inj.mp q); have : (a0 : Int32).toInt = (43 : Int32).toInt := congrArg Int32.toInt c9; have : (6 : Int32).toInt ≤ (a1 : Int32).toInt := iv_le.mp c11; have : (0 : Int32).toInt = 0 := (by decide); have : (35 : Int32).toInt = 35 := (by decide); have : (43 : Int32).toInt = 43 := (by decide); have : (48 : Int32).toInt = 48 := (by decide); have : (57 : Int32).toInt = 57 := (by decide); have : (6 : Int32).toInt = 6 := (by decide); omega))⟩
        · --
          have i13 : Iv a1 (-2147483648) 5 := iv_lt1 (iv_nle c11) (iv_top a1) (⟨by decide, by decide⟩ : Iv 6 6 6) (by decide)
          refine lv_iconst (v := 1) hx hb dX11_isGround_29 (by decide) ?_
          refine lv_goto (tgt := 34) hx hb dX11_isGround_30 (by decide) ?_
          rw [← hQ]
          exact o_rz cx rx hw (iv_nz01 (iv_w (⟨by decide, by decide⟩ : Iv 1 1 1) (by decide))) dX11_isGround_34 ⟨rfl, (iv_w (⟨by decide, by decide⟩ : Iv 1 1 1) (by decide)), (fun _ => iv_w i10 (by decide)), (by exact (by have := (i10).1; have := (i10).2; have := (i13).1; have := (i13).2; have := (i6).1; have := (i6).2; have : (v2 : Int32).toInt = (0 : Int32).toInt := congrArg Int32.toInt c3; have : (a0 : Int32).toInt ≠ (35 : Int32).toInt := fun q => c7 (Int32.toInt_inj.mp q); have : (a0 : Int32).toInt = (43 : Int32).toInt := congrArg Int32.toInt c9; have : (a1 : Int32).toInt < (6 : Int32).toInt := iv_lt.mp (iv_nle c11); have : (0 : Int32).toInt = 0 := (by decide); have : (1 : Int32).toInt = 1 := (by decide); have : (35 : Int32).toInt = 35 := (by decide); have : (43 : Int32).toInt = 43 := (by decide); have : (48 : Int32).toInt = 48 := (by decide); have : (57 : Int32).toInt = 57 := (by decide); have : (6 : Int32).toInt = 6 := (by decide); omega))⟩
abbrev fs_X11_readHerd : List Nat := [662, 663]
abbrev ts_X11_readHerd : List Nat := [53]
set_option maxHeartbeats 4000000 in
set_option maxRecDepth 100000 in
theorem c_X11_readHerd (a0 : Nat) (ha0 : oA L τ a0 10) (a1 : Int32) (ia1 : Iv a1 0 15) (b0 : Nat) (hF0 : σ.2.2.2.2 659 a0 = some b0) (hb0 : oA L τ b0 51) (hf660 : Iv (σ.1 660 a0) 0 0) : oMet l A L τ cy D K yX11_readHerd cX11_readHerd 5 none 3 63 [.ref a0, .int a1] σ (va_Qv (fun σ1 => oFr τ fs_X11_readHerd ts_X11_readHerd σ σ1 ∧ ((σ.1 662 a0).toInt ≤ (σ1.1 662 a0).toInt) ∧ ((σ.1 662 a0).toInt ≤ (σ.1 661 a0).toInt → (σ1.1 662 a0).toInt ≤ (σ.1 661 a0).toInt)) (oPo A L τ cy D) A) := by
  refine oMk (by decide) (Nat.le_of_ble_eq_true rfl) rfl ?_
  intro p e s m args below meth c ls cx rx hA hw hl
  generalize hQ : MQ below _ args s 0 0 A = Q
  have hx := cx.1.1
  have hb := cx.1.2.1
  have hml := cx.1.2.2.1
  have hown := cx.1.2.2.2.1
  have hts := cx.1.2.2.2.2
  have hl : lv_has ls 5 [(0, .ref a0), (1, .int a1)] := hl
  have fr : oFr τ fs_X11_readHerd ts_X11_readHerd σ σ := oFr_rf
  refine lv_aload_n hx hb dX11_readHerd_0 rfl (lv_at hl 0 rfl) ?_
  refine lv_bipush (v := 97) hx hb dX11_readHerd_1 (by decide) ?_
  refine lv_aload_n hx hb dX11_readHerd_3 rfl (lv_at hl 0 rfl) ?_
  refine g_641 cx hw ha0 k_f_X11_99 dX11_readHerd_4 (fun v1 e1 i1 => ?_)
  have z1 : v1.toInt = (σ.1 641 a0).toInt := congrArg Int32.toInt e1
  have i2 : Iv (σ.1 662 a0) 0 200 := o_fb (j := 662) hw ha0 rfl
  have i3 : Iv (σ.1 663 a0) (-1) 200 := o_fb (j := 663) hw ha0 rfl
  have i4 : Iv (σ.1 661 a0) 0 80 := o_fb (j := 661) hw ha0 rfl
  refine o_ci hw (oRunV cx hA hw q_X11_oneOf k_m_X11_171 rfl ha0 (by decide) (As := [.int 97, .int v1]) (c_X11_oneOfT a0 ha0 97 (iv_w (⟨by decide, by decide⟩ : Iv 97 97 97) (by decide)) v1 (iv_w i1 (by decide)) b0 (hF0) hb0 (kn_iv (rfl) (iv_w hf660 (by decide)))) (by decide) rfl hl.1 rfl (Nat.le_of_ble_eq_true rfl) dX11_readHerd_7 (by decide)) (fun v6 σ5 H locs hp hw => ?_)
  obtain ⟨p6_0, p6_1, p6_2, p6_3, p6_4, p6_5, p6_6, p6_7⟩ := hp
  have fr := oFr_tr fr p6_0 (by decide)
  have i7 : Iv (σ5.1 662 a0) 0 200 := o_fb (j := 662) hw ha0 rfl
  have i8 : Iv (σ5.1 663 a0) (-1) 200 := o_fb (j := 663) hw ha0 rfl
  have i9 : Iv v6 0 0 := iv_lt0 p6_2 i1 (by decide)
  refine lv_istore_n (lv' := [(2, .int v6), (0, .ref a0), (1, .int a1)]) hx hb dX11_readHerd_10 rfl hl (by decide) rfl (fun ls hl => ?_)
  refine lv_aload_n hx hb dX11_readHerd_11 rfl (lv_at hl 1 rfl) ?_
  refine lv_bipush (v := 49) hx hb dX11_readHerd_12 (by decide) ?_
  refine lv_aload_n hx hb dX11_readHerd_14 rfl (lv_at hl 1 rfl) ?_
  refine g_642 cx hw ha0 k_f_X11_102 dX11_readHerd_15 (fun v10 e10 i10 => ?_)
  have z10 : v10.toInt = (σ5.1 642 a0).toInt := congrArg Int32.toInt e10
  have z11 : (σ5.1 660 a0).toInt = ((σ.1 660 a0) : Int32).toInt := congrArg Int32.toInt (show σ5.1 660 a0 = (σ.1 660 a0) from ((kp_c p6_0 (by decide)).trans rfl))
  have z12 : (σ5.1 661 a0).toInt = ((σ.1 661 a0) : Int32).toInt := congrArg Int32.toInt (show σ5.1 661 a0 = (σ.1 661 a0) from ((kp_c p6_0 (by decide)).trans rfl))
  refine o_ci hw (oRunV cx hA hw q_X11_oneOf k_m_X11_171 rfl ha0 (by decide) (As := [.int 49, .int v10]) (c_X11_oneOfT a0 ha0 49 (iv_w (⟨by decide, by decide⟩ : Iv 49 49 49) (by decide)) v10 (iv_w i10 (by decide)) b0 (((kr_c p6_0 (by decide)).trans hF0)) hb0 (kn_iv (((kp_c p6_0 (by decide)).trans rfl)) (iv_w hf660 (by decide)))) (by decide) rfl hl.1 rfl (Nat.le_of_ble_eq_true rfl) dX11_readHerd_18 (by decide)) (fun v14 σ13 H locs hp hw => ?_)
  obtain ⟨p14_0, p14_1, p14_2, p14_3, p14_4, p14_5, p14_6, p14_7⟩ := hp
  have fr := oFr_tr fr p14_0 (by decide)
  have i15 : Iv (σ13.1 662 a0) 0 200 := o_fb (j := 662) hw ha0 rfl
  have i16 : Iv (σ13.1 663 a0) (-1) 200 := o_fb (j := 663) hw ha0 rfl
  have i17 : Iv v14 0 0 := iv_lt0 p14_2 i10 (by decide)
  refine lv_istore_n (lv' := [(3, .int v14), (2, .int v6), (0, .ref a0), (1, .int a1)]) hx hb dX11_readHerd_21 rfl hl (by decide) rfl (fun ls hl => ?_)
  refine lv_bipush (v := 8) hx hb dX11_readHerd_22 (by decide) ?_
  refine lv_iload_n hx hb dX11_readHerd_24 rfl (lv_at hl 0 rfl) ?_
  refine lv_imul hx hb dX11_readHerd_25 ?_
  refine lv_topi (fun v18 e18 => ?_)
  have i18 : Iv v18 0 0 := iv_mul e18 (⟨by decide, by decide⟩ : Iv 8 8 8) i17 (by decide)
  refine lv_iload_n hx hb dX11_readHerd_26 rfl (lv_at hl 1 rfl) ?_
  refine lv_iadd hx hb dX11_readHerd_27 ?_
  refine lv_topi (fun v19 e19 => ?_)
  have i19 : Iv v19 0 0 := iv_add e19 i18 i9 (by decide)
  have x19 : v19.toInt = v18.toInt + v6.toInt := ex_add e19 i18 i9 (by decide)
  refine lv_istore (lv' := [(4, .int v19), (3, .int v14), (2, .int v6), (0, .ref a0), (1, .int a1)]) hx hb dX11_readHerd_28 hl (by decide) rfl (fun ls hl => ?_)
  refine lv_aload_n hx hb dX11_readHerd_30 rfl (lv_at hl 3 rfl) ?_
  refine o_ci hw (oRunV cx hA hw q_X11_fine k_m_X11_126 rfl ha0 (by decide) (As := []) (c_X11_fine a0 ha0) (by decide) rfl hl.1 rfl (Nat.le_of_ble_eq_true rfl) dX11_readHerd_31 (by decide)) (fun v21 σ20 H locs hp hw => ?_)
  obtain ⟨p21_0, p21_1, p21_2⟩ := hp
  rw [p21_0] at hw
  have frE_57 := fr
  have J_57 : ∀ (σ_57 : oSt) (H : Heap) (locs : List Loc), oI A L τ cy D s.heap σ_57 H locs → oFr τ fs_X11_readHerd ts_X11_readHerd σ σ_57 → Iv (σ_57.1 662 a0) 0 200 → Iv (σ_57.1 663 a0) (-1) 200 → ((σ.1 662 a0).toInt ≤ (σ_57.1 662 a0).toInt) → ((σ.1 662 a0).toInt ≤ (σ.1 661 a0).toInt → (σ_57.1 662 a0).toInt ≤ (σ.1 661 a0).toInt) → ∀ (ls : Array Slot), lv_has ls 5 [(0, .ref a0), (1, .int a1), (2, .int v6), (3, .int v14), (4, .int v19)] → W p l e ({ frames := 3, cells := 0, slots := 0, locals := 63 } : Room) s m args below meth c H locs 0 0 Q (F0 m 57 ls []) := by
    intro  σ_57 H locs hw fr f57_662_a0 f57_663_a0   mo_57 to_57  ls hl
    have fr_57 := fr
    refine lv_aload_n hx hb dX11_readHerd_57 rfl (lv_at hl 0 rfl) ?_
    refine g_666 cx hw ha0 k_f_X11_46 dX11_readHerd_58 (fun v22 e22 h22 => ?_)
    refine lv_iload_n hx hb dX11_readHerd_61 rfl (lv_at hl 1 rfl) ?_
    refine lv_iload hx hb dX11_readHerd_62 (lv_at hl 4 rfl) ?_
    refine o_iast cx hw h22 (by decide) rfl (iv_in ia1 (by decide)) (fun _ => iv_w i19 (by decide)) dX11_readHerd_64 (fun σ23 H locs eσ23 hw => ?_)
    have fr := oFr_p fr eσ23 h22 (by decide)
    refine lv_aload_n hx hb dX11_readHerd_65 rfl (lv_at hl 0 rfl) ?_
    refine g_666 cx hw ha0 k_f_X11_46 dX11_readHerd_66 (fun v24 e24 h24 => ?_)
    rw [show v24 = v22 from Option.some.inj (e24.symm.trans (((kr_p eσ23).trans e22)))]
    refine lv_iload_n hx hb dX11_readHerd_69 rfl (lv_at hl 1 rfl) ?_
    refine lv_iconst (v := 1) hx hb dX11_readHerd_70 (by decide) ?_
    refine lv_iadd hx hb dX11_readHerd_71 ?_
    refine lv_topi (fun v25 e25 => ?_)
    have i25 : Iv v25 1 16 := iv_add e25 ia1 (⟨by decide, by decide⟩ : Iv 1 1 1) (by decide)
    have x25 : v25.toInt = a1.toInt + 1 := ex_add e25 ia1 (⟨by decide, by decide⟩ : Iv 1 1 1) (by decide)
    refine lv_aload_n hx hb dX11_readHerd_72 rfl (lv_at hl 0 rfl) ?_
    refine lv_bipush (v := 48) hx hb dX11_readHerd_73 (by decide) ?_
    refine lv_bipush (v := 10) hx hb dX11_readHerd_75 (by decide) ?_
    have z26 : (σ23.1 662 a0).toInt = ((σ_57.1 662 a0) : Int32).toInt := congrArg Int32.toInt (show σ23.1 662 a0 = (σ_57.1 662 a0) from ((kp_p eσ23).trans rfl))
    have z27 : (σ23.1 660 a0).toInt = ((σ.1 660 a0) : Int32).toInt := congrArg Int32.toInt (show σ23.1 660 a0 = (σ.1 660 a0) from ((kp_p eσ23).trans (kp_c fr_57 (by decide))))
    have z28 : (σ23.1 663 a0).toInt = ((σ_57.1 663 a0) : Int32).toInt := congrArg Int32.toInt (show σ23.1 663 a0 = (σ_57.1 663 a0) from ((kp_p eσ23).trans rfl))
    have z29 : (σ23.1 661 a0).toInt = ((σ.1 661 a0) : Int32).toInt := congrArg Int32.toInt (show σ23.1 661 a0 = (σ.1 661 a0) from ((kp_p eσ23).trans ((kp_c fr_57 (by decide)).trans ((kp_c frE_57 (by decide)).symm.trans (((kp_c p14_0 (by decide)).trans ((kp_c p6_0 (by decide)).trans rfl)))))))
    refine o_ci hw (oRunV cx hA hw q_X11_oneOf k_m_X11_171 rfl ha0 (by decide) (As := [.int 48, .int 10]) (c_X11_oneOfT a0 ha0 48 (iv_w (⟨by decide, by decide⟩ : Iv 48 48 48) (by decide)) 10 (iv_w (⟨by decide, by decide⟩ : Iv 10 10 10) (by decide)) b0 (((kr_p eσ23).trans ((kr_c fr_57 (by decide)).trans ((kr_c frE_57 (by decide)).symm.trans (((kr_c p14_0 (by decide)).trans ((kr_c p6_0 (by decide)).trans hF0))))))) hb0 (kn_iv (((kp_p eσ23).trans (kp_c fr_57 (by decide)))) (iv_w hf660 (by decide)))) (by decide) rfl hl.1 rfl (Nat.le_of_ble_eq_true rfl) dX11_readHerd_77 (by decide)) (fun v31 σ30 H locs hp hw => ?_)
    obtain ⟨p31_0, p31_1, p31_2, p31_3, p31_4, p31_5, p31_6, p31_7⟩ := hp
    have fr := oFr_tr fr p31_0 (by decide)
    have i32 : Iv (σ30.1 662 a0) 0 200 := o_fb (j := 662) hw ha0 rfl
    have i33 : Iv (σ30.1 663 a0) (-1) 200 := o_fb (j := 663) hw ha0 rfl
    have i34 : Iv v31 0 9 := iv_lt0 p31_2 (⟨by decide, by decide⟩ : Iv 10 10 10) (by decide)
    refine o_iast cx hw h22 (by decide) rfl (iv_in i25 (by decide)) (fun _ => iv_w i34 (by decide)) dX11_readHerd_80 (fun σ35 H locs eσ35 hw => ?_)
    have fr := oFr_p fr eσ35 h22 (by decide)
    refine lv_aload_n hx hb dX11_readHerd_81 rfl (lv_at hl 0 rfl) ?_
    refine g_666 cx hw ha0 k_f_X11_46 dX11_readHerd_82 (fun v36 e36 h36 => ?_)
    rw [show v36 = v22 from Option.some.inj (e36.symm.trans (((kr_p eσ35).trans ((kr_c p31_0 (by decide)).trans ((kr_p eσ23).trans e22)))))]
    refine lv_iload_n hx hb dX11_readHerd_85 rfl (lv_at hl 1 rfl) ?_
    refine lv_iconst (v := 2) hx hb dX11_readHerd_86 (by decide) ?_
    refine lv_iadd hx hb dX11_readHerd_87 ?_
    refine lv_topi (fun v37 e37 => ?_)
    have i37 : Iv v37 2 17 := iv_add e37 ia1 (⟨by decide, by decide⟩ : Iv 2 2 2) (by decide)
    have x37 : v37.toInt = a1.toInt + 2 := ex_add e37 ia1 (⟨by decide, by decide⟩ : Iv 2 2 2) (by decide)
    refine lv_aload_n hx hb dX11_readHerd_88 rfl (lv_at hl 0 rfl) ?_
    refine lv_bipush (v := 42) hx hb dX11_readHerd_89 (by decide) ?_
    have z38 : (σ35.1 662 a0).toInt = ((σ30.1 662 a0) : Int32).toInt := congrArg Int32.toInt (show σ35.1 662 a0 = (σ30.1 662 a0) from ((kp_p eσ35).trans rfl))
    have z39 : (σ35.1 660 a0).toInt = ((σ.1 660 a0) : Int32).toInt := congrArg Int32.toInt (show σ35.1 660 a0 = (σ.1 660 a0) from ((kp_p eσ35).trans ((kp_c p31_0 (by decide)).trans ((kp_p eσ23).trans (kp_c fr_57 (by decide))))))
    have z40 : (σ35.1 661 a0).toInt = ((σ.1 661 a0) : Int32).toInt := congrArg Int32.toInt (show σ35.1 661 a0 = (σ.1 661 a0) from ((kp_p eσ35).trans ((kp_c p31_0 (by decide)).trans ((kp_p eσ23).trans ((kp_c fr_57 (by decide)).trans ((kp_c frE_57 (by decide)).symm.trans (((kp_c p14_0 (by decide)).trans ((kp_c p6_0 (by decide)).trans rfl)))))))))
    refine o_ci hw (oRunV cx hA hw q_X11_passes k_m_X11_134 rfl ha0 (by decide) (As := [.int 42]) (c_X11_passesT a0 ha0 42 (iv_w (⟨by decide, by decide⟩ : Iv 42 42 42) (by decide)) b0 (((kr_p eσ35).trans ((kr_c p31_0 (by decide)).trans ((kr_p eσ23).trans ((kr_c fr_57 (by decide)).trans ((kr_c frE_57 (by decide)).symm.trans (((kr_c p14_0 (by decide)).trans ((kr_c p6_0 (by decide)).trans hF0))))))))) hb0 (kn_iv (((kp_p eσ35).trans ((kp_c p31_0 (by decide)).trans ((kp_p eσ23).trans (kp_c fr_57 (by decide)))))) (iv_w hf660 (by decide)))) (by decide) rfl hl.1 rfl (Nat.le_of_ble_eq_true rfl) dX11_readHerd_91 (by decide)) (fun v42 σ41 H locs hp hw => ?_)
    obtain ⟨p42_0, p42_1, p42_2, p42_3, p42_4, p42_5⟩ := hp
    rw [p42_0] at hw
    refine lv_if_eq (tgt := 101) hx hb dX11_readHerd_94 (by decide) (fun c43 => ?_) (fun c43 => ?_)
    · --
      refine lv_iconst (v := 0) hx hb dX11_readHerd_101 (by decide) ?_
      refine o_iast cx hw h22 (by decide) rfl (iv_in i37 (by decide)) (fun _ => iv_w (⟨by decide, by decide⟩ : Iv 0 0 0) (by decide)) dX11_readHerd_102 (fun σ44 H locs eσ44 hw => ?_)
      have fr := oFr_p fr eσ44 h22 (by decide)
      rw [← hQ]
      exact o_rv cx rx hw dX11_readHerd_103 ⟨fr, (by exact (by have := (ia1).1; have := (ia1).2; have := (i9).1; have := (i9).2; have := (i17).1; have := (i17).2; have := (i19).1; have := (i19).2; have := (hf660).1; have := (hf660).2; have := (i1).1; have := (i1).2; have := (i4).1; have := (i4).2; have := (i10).1; have := (i10).2; have := (i32).1; have := (i32).2; have := (i33).1; have := (i33).2; have := (i2).1; have := (i2).2; have := (i3).1; have := (i3).2; have := (i7).1; have := (i7).2; have := (i8).1; have := (i8).2; have := (i15).1; have := (i15).2; have := (i16).1; have := (i16).2; have := (i18).1; have := (i18).2; have := (p21_1).1; have := (p21_1).2; have := (i25).1; have := (i25).2; have := (i34).1; have := (i34).2; have := (i37).1; have := (i37).2; have := (p42_1).1; have := (p42_1).2; have : (σ44.1 660 a0).toInt = ((σ.1 660 a0) : Int32).toInt := congrArg Int32.toInt (show σ44.1 660 a0 = (σ.1 660 a0) from ((kp_p eσ44).trans ((kp_p eσ35).trans ((kp_c p31_0 (by decide)).trans ((kp_p eσ23).trans (kp_c fr_57 (by decide))))))); have : (σ44.1 641 a0).toInt = (v1 : Int32).toInt := congrArg Int32.toInt (show σ44.1 641 a0 = v1 from ((kp_p eσ44).trans ((kp_p eσ35).trans ((kp_c p31_0 (by decide)).trans ((kp_p eσ23).trans ((kp_c fr_57 (by decide)).trans ((kp_c frE_57 (by decide)).symm.trans (((kp_c p14_0 (by decide)).trans ((kp_c p6_0 (by decide)).trans e1.symm)))))))))); have : (σ44.1 661 a0).toInt = ((σ.1 661 a0) : Int32).toInt := congrArg Int32.toInt (show σ44.1 661 a0 = (σ.1 661 a0) from ((kp_p eσ44).trans ((kp_p eσ35).trans ((kp_c p31_0 (by decide)).trans ((kp_p eσ23).trans ((kp_c fr_57 (by decide)).trans ((kp_c frE_57 (by decide)).symm.trans (((kp_c p14_0 (by decide)).trans ((kp_c p6_0 (by decide)).trans rfl)))))))))); have : (σ44.1 642 a0).toInt = (v10 : Int32).toInt := congrArg Int32.toInt (show σ44.1 642 a0 = v10 from ((kp_p eσ44).trans ((kp_p eσ35).trans ((kp_c p31_0 (by decide)).trans ((kp_p eσ23).trans ((kp_c fr_57 (by decide)).trans ((kp_c frE_57 (by decide)).symm.trans (((kp_c p14_0 (by decide)).trans e10.symm))))))))); have : (σ44.1 662 a0).toInt = ((σ30.1 662 a0) : Int32).toInt := congrArg Int32.toInt (show σ44.1 662 a0 = (σ30.1 662 a0) from ((kp_p eσ44).trans ((kp_p eσ35).trans rfl))); have : (σ44.1 663 a0).toInt = ((σ30.1 663 a0) : Int32).toInt := congrArg Int32.toInt (show σ44.1 663 a0 = (σ30.1 663 a0) from ((kp_p eσ44).trans ((kp_p eσ35).trans rfl))); have : (v42 : Int32).toInt = (0 : Int32).toInt := congrArg Int32.toInt c43; have : (0 : Int32).toInt = 0 := (by decide); have : (10 : Int32).toInt = 10 := (by decide); have : (42 : Int32).toInt = 42 := (by decide); have : (48 : Int32).toInt = 48 := (by decide); have : (49 : Int32).toInt = 49 := (by decide); have : (97 : Int32).toInt = 97 := (by decide); omega)), (by exact (by have := (ia1).1; have := (ia1).2; have := (i9).1; have := (i9).2; have := (i17).1; have := (i17).2; have := (i19).1; have := (i19).2; have := (hf660).1; have := (hf660).2; have := (i1).1; have := (i1).2; have := (i4).1; have := (i4).2; have := (i10).1; have := (i10).2; have := (i32).1; have := (i32).2; have := (i33).1; have := (i33).2; have := (i2).1; have := (i2).2; have := (i3).1; have := (i3).2; have := (i7).1; have := (i7).2; have := (i8).1; have := (i8).2; have := (i15).1; have := (i15).2; have := (i16).1; have := (i16).2; have := (i18).1; have := (i18).2; have := (p21_1).1; have := (p21_1).2; have := (i25).1; have := (i25).2; have := (i34).1; have := (i34).2; have := (i37).1; have := (i37).2; have := (p42_1).1; have := (p42_1).2; have : (σ44.1 660 a0).toInt = ((σ.1 660 a0) : Int32).toInt := congrArg Int32.toInt (show σ44.1 660 a0 = (σ.1 660 a0) from ((kp_p eσ44).trans ((kp_p eσ35).trans ((kp_c p31_0 (by decide)).trans ((kp_p eσ23).trans (kp_c fr_57 (by decide))))))); have : (σ44.1 641 a0).toInt = (v1 : Int32).toInt := congrArg Int32.toInt (show σ44.1 641 a0 = v1 from ((kp_p eσ44).trans ((kp_p eσ35).trans ((kp_c p31_0 (by decide)).trans ((kp_p eσ23).trans ((kp_c fr_57 (by decide)).trans ((kp_c frE_57 (by decide)).symm.trans (((kp_c p14_0 (by decide)).trans ((kp_c p6_0 (by decide)).trans e1.symm)))))))))); have : (σ44.1 661 a0).toInt = ((σ.1 661 a0) : Int32).toInt := congrArg Int32.toInt (show σ44.1 661 a0 = (σ.1 661 a0) from ((kp_p eσ44).trans ((kp_p eσ35).trans ((kp_c p31_0 (by decide)).trans ((kp_p eσ23).trans ((kp_c fr_57 (by decide)).trans ((kp_c frE_57 (by decide)).symm.trans (((kp_c p14_0 (by decide)).trans ((kp_c p6_0 (by decide)).trans rfl)))))))))); have : (σ44.1 642 a0).toInt = (v10 : Int32).toInt := congrArg Int32.toInt (show σ44.1 642 a0 = v10 from ((kp_p eσ44).trans ((kp_p eσ35).trans ((kp_c p31_0 (by decide)).trans ((kp_p eσ23).trans ((kp_c fr_57 (by decide)).trans ((kp_c frE_57 (by decide)).symm.trans (((kp_c p14_0 (by decide)).trans e10.symm))))))))); have : (σ44.1 662 a0).toInt = ((σ30.1 662 a0) : Int32).toInt := congrArg Int32.toInt (show σ44.1 662 a0 = (σ30.1 662 a0) from ((kp_p eσ44).trans ((kp_p eσ35).trans rfl))); have : (σ44.1 663 a0).toInt = ((σ30.1 663 a0) : Int32).toInt := congrArg Int32.toInt (show σ44.1 663 a0 = (σ30.1 663 a0) from ((kp_p eσ44).trans ((kp_p eσ35).trans rfl))); have : (v42 : Int32).toInt = (0 : Int32).toInt := congrArg Int32.toInt c43; have : (0 : Int32).toInt = 0 := (by decide); have : (10 : Int32).toInt = 10 := (by decide); have : (42 : Int32).toInt = 42 := (by decide); have : (48 : Int32).toInt = 48 := (by decide); have : (49 : Int32).toInt = 49 := (by decide); have : (97 : Int32).toInt = 97 := (by decide); omega))⟩
    · --
      exact iv_no (iv_ne1 c43 p42_1 (⟨by decide, by decide⟩ : Iv 0 0 0) (by decide)) (by decide)
  refine lv_if_eq (tgt := 57) hx hb dX11_readHerd_34 (by decide) (fun c45 => ?_) (fun c45 => ?_)
  · --
    have i46 : Iv (σ13.1 663 a0) 0 200 := (fun h => (by have := z_ti h; have := (ia1).1; have := (ia1).2; have := (i9).1; have := (i9).2; have := (i17).1; have := (i17).2; have := (i19).1; have := (i19).2; have := (p21_1).1; have := (p21_1).2; have := (hf660).1; have := (hf660).2; have := (i1).1; have := (i1).2; have := (i4).1; have := (i4).2; have := (i10).1; have := (i10).2; have := (i15).1; have := (i15).2; have := (i16).1; have := (i16).2; have := (i2).1; have := (i2).2; have := (i3).1; have := (i3).2; have := (i7).1; have := (i7).2; have := (i8).1; have := (i8).2; have := (i18).1; have := (i18).2; have : (σ13.1 660 a0).toInt = ((σ.1 660 a0) : Int32).toInt := congrArg Int32.toInt (show σ13.1 660 a0 = (σ.1 660 a0) from ((kp_c p14_0 (by decide)).trans ((kp_c p6_0 (by decide)).trans rfl))); have : (σ13.1 641 a0).toInt = (v1 : Int32).toInt := congrArg Int32.toInt (show σ13.1 641 a0 = v1 from ((kp_c p14_0 (by decide)).trans ((kp_c p6_0 (by decide)).trans e1.symm))); have : (σ13.1 661 a0).toInt = ((σ.1 661 a0) : Int32).toInt := congrArg Int32.toInt (show σ13.1 661 a0 = (σ.1 661 a0) from ((kp_c p14_0 (by decide)).trans ((kp_c p6_0 (by decide)).trans rfl))); have : (σ13.1 642 a0).toInt = (v10 : Int32).toInt := congrArg Int32.toInt (show σ13.1 642 a0 = v10 from ((kp_c p14_0 (by decide)).trans e10.symm)); have : (49 : Int32).toInt = 49 := (by decide); have : (97 : Int32).toInt = 97 := (by decide); exact ⟨by omega, by omega⟩)) c45
    have i47 : Iv v21 0 0 := iv_eq1 c45 p21_1 (⟨by decide, by decide⟩ : Iv 0 0 0) (by decide)
    exact J_57 σ13 _ _ hw fr (kn_iv (rfl) (iv_w i15 (by decide))) (kn_iv (rfl) (iv_w i46 (by decide))) (by have := (ia1).1; have := (ia1).2; have := (i9).1; have := (i9).2; have := (i17).1; have := (i17).2; have := (i19).1; have := (i19).2; have := (hf660).1; have := (hf660).2; have := (i1).1; have := (i1).2; have := (i4).1; have := (i4).2; have := (i10).1; have := (i10).2; have := (i15).1; have := (i15).2; have := (i46).1; have := (i46).2; have := (i2).1; have := (i2).2; have := (i3).1; have := (i3).2; have := (i7).1; have := (i7).2; have := (i8).1; have := (i8).2; have := (i18).1; have := (i18).2; have := (i47).1; have := (i47).2; have : (σ13.1 660 a0).toInt = ((σ.1 660 a0) : Int32).toInt := congrArg Int32.toInt (show σ13.1 660 a0 = (σ.1 660 a0) from ((kp_c p14_0 (by decide)).trans ((kp_c p6_0 (by decide)).trans rfl))); have : (σ13.1 641 a0).toInt = (v1 : Int32).toInt := congrArg Int32.toInt (show σ13.1 641 a0 = v1 from ((kp_c p14_0 (by decide)).trans ((kp_c p6_0 (by decide)).trans e1.symm))); have : (σ13.1 661 a0).toInt = ((σ.1 661 a0) : Int32).toInt := congrArg Int32.toInt (show σ13.1 661 a0 = (σ.1 661 a0) from ((kp_c p14_0 (by decide)).trans ((kp_c p6_0 (by decide)).trans rfl))); have : (σ13.1 642 a0).toInt = (v10 : Int32).toInt := congrArg Int32.toInt (show σ13.1 642 a0 = v10 from ((kp_c p14_0 (by decide)).trans e10.symm)); have : (v21 : Int32).toInt = (0 : Int32).toInt := congrArg Int32.toInt c45; have : (0 : Int32).toInt = 0 := (by decide); have : (49 : Int32).toInt = 49 := (by decide); have : (97 : Int32).toInt = 97 := (by decide); omega) (by have := (ia1).1; have := (ia1).2; have := (i9).1; have := (i9).2; have := (i17).1; have := (i17).2; have := (i19).1; have := (i19).2; have := (hf660).1; have := (hf660).2; have := (i1).1; have := (i1).2; have := (i4).1; have := (i4).2; have := (i10).1; have := (i10).2; have := (i15).1; have := (i15).2; have := (i46).1; have := (i46).2; have := (i2).1; have := (i2).2; have := (i3).1; have := (i3).2; have := (i7).1; have := (i7).2; have := (i8).1; have := (i8).2; have := (i18).1; have := (i18).2; have := (i47).1; have := (i47).2; have : (σ13.1 660 a0).toInt = ((σ.1 660 a0) : Int32).toInt := congrArg Int32.toInt (show σ13.1 660 a0 = (σ.1 660 a0) from ((kp_c p14_0 (by decide)).trans ((kp_c p6_0 (by decide)).trans rfl))); have : (σ13.1 641 a0).toInt = (v1 : Int32).toInt := congrArg Int32.toInt (show σ13.1 641 a0 = v1 from ((kp_c p14_0 (by decide)).trans ((kp_c p6_0 (by decide)).trans e1.symm))); have : (σ13.1 661 a0).toInt = ((σ.1 661 a0) : Int32).toInt := congrArg Int32.toInt (show σ13.1 661 a0 = (σ.1 661 a0) from ((kp_c p14_0 (by decide)).trans ((kp_c p6_0 (by decide)).trans rfl))); have : (σ13.1 642 a0).toInt = (v10 : Int32).toInt := congrArg Int32.toInt (show σ13.1 642 a0 = v10 from ((kp_c p14_0 (by decide)).trans e10.symm)); have : (v21 : Int32).toInt = (0 : Int32).toInt := congrArg Int32.toInt c45; have : (0 : Int32).toInt = 0 := (by decide); have : (49 : Int32).toInt = 49 := (by decide); have : (97 : Int32).toInt = 97 := (by decide); omega) _ (lv_sub hl [3, 4, 2, 1, 0] rfl)
  · --
    have i48 : Iv v21 1 1 := iv_ne1 c45 p21_1 (⟨by decide, by decide⟩ : Iv 0 0 0) (by decide)
    have i49 : Iv (σ13.1 663 a0) (-1) (-1) := (fun h => (by have := nz_ti h; have := (ia1).1; have := (ia1).2; have := (i9).1; have := (i9).2; have := (i17).1; have := (i17).2; have := (i19).1; have := (i19).2; have := (p21_1).1; have := (p21_1).2; have := (hf660).1; have := (hf660).2; have := (i1).1; have := (i1).2; have := (i4).1; have := (i4).2; have := (i10).1; have := (i10).2; have := (i15).1; have := (i15).2; have := (i16).1; have := (i16).2; have := (i2).1; have := (i2).2; have := (i3).1; have := (i3).2; have := (i7).1; have := (i7).2; have := (i8).1; have := (i8).2; have := (i18).1; have := (i18).2; have : (σ13.1 660 a0).toInt = ((σ.1 660 a0) : Int32).toInt := congrArg Int32.toInt (show σ13.1 660 a0 = (σ.1 660 a0) from ((kp_c p14_0 (by decide)).trans ((kp_c p6_0 (by decide)).trans rfl))); have : (σ13.1 641 a0).toInt = (v1 : Int32).toInt := congrArg Int32.toInt (show σ13.1 641 a0 = v1 from ((kp_c p14_0 (by decide)).trans ((kp_c p6_0 (by decide)).trans e1.symm))); have : (σ13.1 661 a0).toInt = ((σ.1 661 a0) : Int32).toInt := congrArg Int32.toInt (show σ13.1 661 a0 = (σ.1 661 a0) from ((kp_c p14_0 (by decide)).trans ((kp_c p6_0 (by decide)).trans rfl))); have : (σ13.1 642 a0).toInt = (v10 : Int32).toInt := congrArg Int32.toInt (show σ13.1 642 a0 = v10 from ((kp_c p14_0 (by decide)).trans e10.symm)); have : (49 : Int32).toInt = 49 := (by decide); have : (97 : Int32).toInt = 97 := (by decide); exact ⟨by omega, by omega⟩)) c45
    refine lv_aload_n hx hb dX11_readHerd_37 rfl (lv_at hl 3 rfl) ?_
    refine g_643 cx hw ha0 k_f_X11_13 dX11_readHerd_38 (fun v50 e50 h50 => ?_)
    refine lv_iload hx hb dX11_readHerd_41 (lv_at hl 0 rfl) ?_
    refine o_iald cx hw h50 (by decide) rfl (iv_in i19 (by decide)) dX11_readHerd_43 (fun v51 e51 b51 => ?_)
    refine lv_if_eq (tgt := 57) hx hb dX11_readHerd_44 (by decide) (fun c52 => ?_) (fun c52 => ?_)
    · --
      have i53 : Iv v51 0 0 := iv_eq1 c52 (iv_top v51) (⟨by decide, by decide⟩ : Iv 0 0 0) (by decide)
      exact J_57 σ13 _ _ hw fr (kn_iv (rfl) (iv_w i15 (by decide))) (kn_iv (rfl) (iv_w i49 (by decide))) (by have := (ia1).1; have := (ia1).2; have := (i9).1; have := (i9).2; have := (i17).1; have := (i17).2; have := (i19).1; have := (i19).2; have := (hf660).1; have := (hf660).2; have := (i1).1; have := (i1).2; have := (i4).1; have := (i4).2; have := (i10).1; have := (i10).2; have := (i15).1; have := (i15).2; have := (i49).1; have := (i49).2; have := (i2).1; have := (i2).2; have := (i3).1; have := (i3).2; have := (i7).1; have := (i7).2; have := (i8).1; have := (i8).2; have := (i18).1; have := (i18).2; have := (i48).1; have := (i48).2; have := (i53).1; have := (i53).2; have : (σ13.1 660 a0).toInt = ((σ.1 660 a0) : Int32).toInt := congrArg Int32.toInt (show σ13.1 660 a0 = (σ.1 660 a0) from ((kp_c p14_0 (by decide)).trans ((kp_c p6_0 (by decide)).trans rfl))); have : (σ13.1 641 a0).toInt = (v1 : Int32).toInt := congrArg Int32.toInt (show σ13.1 641 a0 = v1 from ((kp_c p14_0 (by decide)).trans ((kp_c p6_0 (by decide)).trans e1.symm))); have : (σ13.1 661 a0).toInt = ((σ.1 661 a0) : Int32).toInt := congrArg Int32.toInt (show σ13.1 661 a0 = (σ.1 661 a0) from ((kp_c p14_0 (by decide)).trans ((kp_c p6_0 (by decide)).trans rfl))); have : (σ13.1 642 a0).toInt = (v10 : Int32).toInt := congrArg Int32.toInt (show σ13.1 642 a0 = v10 from ((kp_c p14_0 (by decide)).trans e10.symm)); have : (v51 : Int32).toInt = (0 : Int32).toInt := congrArg Int32.toInt c52; have : (0 : Int32).toInt = 0 := (by decide); have : (49 : Int32).toInt = 49 := (by decide); have : (97 : Int32).toInt = 97 := (by decide); omega) (by have := (ia1).1; have := (ia1).2; have := (i9).1; have := (i9).2; have := (i17).1; have := (i17).2; have := (i19).1; have := (i19).2; have := (hf660).1; have := (hf660).2; have := (i1).1; have := (i1).2; have := (i4).1; have := (i4).2; have := (i10).1; have := (i10).2; have := (i15).1; have := (i15).2; have := (i49).1; have := (i49).2; have := (i2).1; have := (i2).2; have := (i3).1; have := (i3).2; have := (i7).1; have := (i7).2; have := (i8).1; have := (i8).2; have := (i18).1; have := (i18).2; have := (i48).1; have := (i48).2; have := (i53).1; have := (i53).2; have : (σ13.1 660 a0).toInt = ((σ.1 660 a0) : Int32).toInt := congrArg Int32.toInt (show σ13.1 660 a0 = (σ.1 660 a0) from ((kp_c p14_0 (by decide)).trans ((kp_c p6_0 (by decide)).trans rfl))); have : (σ13.1 641 a0).toInt = (v1 : Int32).toInt := congrArg Int32.toInt (show σ13.1 641 a0 = v1 from ((kp_c p14_0 (by decide)).trans ((kp_c p6_0 (by decide)).trans e1.symm))); have : (σ13.1 661 a0).toInt = ((σ.1 661 a0) : Int32).toInt := congrArg Int32.toInt (show σ13.1 661 a0 = (σ.1 661 a0) from ((kp_c p14_0 (by decide)).trans ((kp_c p6_0 (by decide)).trans rfl))); have : (σ13.1 642 a0).toInt = (v10 : Int32).toInt := congrArg Int32.toInt (show σ13.1 642 a0 = v10 from ((kp_c p14_0 (by decide)).trans e10.symm)); have : (v51 : Int32).toInt = (0 : Int32).toInt := congrArg Int32.toInt c52; have : (0 : Int32).toInt = 0 := (by decide); have : (49 : Int32).toInt = 49 := (by decide); have : (97 : Int32).toInt = 97 := (by decide); omega) _ (lv_sub hl [3, 4, 2, 1, 0] rfl)
    · --
      refine lv_aload_n hx hb dX11_readHerd_47 rfl (lv_at hl 3 rfl) ?_
      refine lv_aload_n hx hb dX11_readHerd_48 rfl (lv_at hl 3 rfl) ?_
      refine g_662 cx hw ha0 k_f_X11_120 dX11_readHerd_49 (fun v54 e54 i54 => ?_)
      rw [show v54 = (σ13.1 662 a0) from e54.trans rfl]
      refine lv_iconst (v := 1) hx hb dX11_readHerd_52 (by decide) ?_
      refine lv_isub hx hb dX11_readHerd_53 ?_
      refine lv_topi (fun v55 e55 => ?_)
      have i55 : Iv v55 (-1) 199 := iv_sub e55 i15 (⟨by decide, by decide⟩ : Iv 1 1 1) (by decide)
      have x55 : v55.toInt = (σ13.1 662 a0).toInt + (-1) := ex_sub e55 i15 (⟨by decide, by decide⟩ : Iv 1 1 1) (by decide)
      refine o_cv hw (oRunV cx hA hw q_X11_fault k_m_X11_138 rfl ha0 (by decide) (As := [.int v55]) (c_X11_fault a0 ha0 v55 (iv_w i55 (by decide))) (by decide) rfl hl.1 rfl (Nat.le_of_ble_eq_true rfl) dX11_readHerd_54 (by decide)) (fun σ56 H locs hp hw => ?_)
      obtain ⟨p57_0, p57_1⟩ := hp
      have fr := oFr_tr fr p57_0 (by decide)
      have i58 : Iv (σ56.1 663 a0) (-1) 200 := o_fb (j := 663) hw ha0 rfl
      exact J_57 σ56 _ _ hw fr (kn_iv (((kp_c p57_0 (by decide)).trans rfl)) (iv_w i15 (by decide))) (kn_iv (rfl) (iv_w i58 (by decide))) (by have := (ia1).1; have := (ia1).2; have := (i9).1; have := (i9).2; have := (i17).1; have := (i17).2; have := (i19).1; have := (i19).2; have := (hf660).1; have := (hf660).2; have := (i1).1; have := (i1).2; have := (i4).1; have := (i4).2; have := (i10).1; have := (i10).2; have := (i15).1; have := (i15).2; have := (i58).1; have := (i58).2; have := (i2).1; have := (i2).2; have := (i3).1; have := (i3).2; have := (i7).1; have := (i7).2; have := (i8).1; have := (i8).2; have := (i49).1; have := (i49).2; have := (i18).1; have := (i18).2; have := (i48).1; have := (i48).2; have := (i55).1; have := (i55).2; have : (σ56.1 660 a0).toInt = ((σ.1 660 a0) : Int32).toInt := congrArg Int32.toInt (show σ56.1 660 a0 = (σ.1 660 a0) from ((kp_c p57_0 (by decide)).trans ((kp_c p14_0 (by decide)).trans ((kp_c p6_0 (by decide)).trans rfl)))); have : (σ56.1 641 a0).toInt = (v1 : Int32).toInt := congrArg Int32.toInt (show σ56.1 641 a0 = v1 from ((kp_c p57_0 (by decide)).trans ((kp_c p14_0 (by decide)).trans ((kp_c p6_0 (by decide)).trans e1.symm)))); have : (σ56.1 661 a0).toInt = ((σ.1 661 a0) : Int32).toInt := congrArg Int32.toInt (show σ56.1 661 a0 = (σ.1 661 a0) from ((kp_c p57_0 (by decide)).trans ((kp_c p14_0 (by decide)).trans ((kp_c p6_0 (by decide)).trans rfl)))); have : (σ56.1 642 a0).toInt = (v10 : Int32).toInt := congrArg Int32.toInt (show σ56.1 642 a0 = v10 from ((kp_c p57_0 (by decide)).trans ((kp_c p14_0 (by decide)).trans e10.symm))); have : (σ56.1 662 a0).toInt = ((σ13.1 662 a0) : Int32).toInt := congrArg Int32.toInt (show σ56.1 662 a0 = (σ13.1 662 a0) from ((kp_c p57_0 (by decide)).trans rfl)); have : (v51 : Int32).toInt ≠ (0 : Int32).toInt := fun q => c52 (Int32.toInt_inj.mp q); have : (0 : Int32).toInt = 0 := (by decide); have : (49 : Int32).toInt = 49 := (by decide); have : (97 : Int32).toInt = 97 := (by decide); omega) (by have := (ia1).1; have := (ia1).2; have := (i9).1; have := (i9).2; have := (i17).1; have := (i17).2; have := (i19).1; have := (i19).2; have := (hf660).1; have := (hf660).2; have := (i1).1; have := (i1).2; have := (i4).1; have := (i4).2; have := (i10).1; have := (i10).2; have := (i15).1; have := (i15).2; have := (i58).1; have := (i58).2; have := (i2).1; have := (i2).2; have := (i3).1; have := (i3).2; have := (i7).1; have := (i7).2; have := (i8).1; have := (i8).2; have := (i49).1; have := (i49).2; have := (i18).1; have := (i18).2; have := (i48).1; have := (i48).2; have := (i55).1; have := (i55).2; have : (σ56.1 660 a0).toInt = ((σ.1 660 a0) : Int32).toInt := congrArg Int32.toInt (show σ56.1 660 a0 = (σ.1 660 a0) from ((kp_c p57_0 (by decide)).trans ((kp_c p14_0 (by decide)).trans ((kp_c p6_0 (by decide)).trans rfl)))); have : (σ56.1 641 a0).toInt = (v1 : Int32).toInt := congrArg Int32.toInt (show σ56.1 641 a0 = v1 from ((kp_c p57_0 (by decide)).trans ((kp_c p14_0 (by decide)).trans ((kp_c p6_0 (by decide)).trans e1.symm)))); have : (σ56.1 661 a0).toInt = ((σ.1 661 a0) : Int32).toInt := congrArg Int32.toInt (show σ56.1 661 a0 = (σ.1 661 a0) from ((kp_c p57_0 (by decide)).trans ((kp_c p14_0 (by decide)).trans ((kp_c p6_0 (by decide)).trans rfl)))); have : (σ56.1 642 a0).toInt = (v10 : Int32).toInt := congrArg Int32.toInt (show σ56.1 642 a0 = v10 from ((kp_c p57_0 (by decide)).trans ((kp_c p14_0 (by decide)).trans e10.symm))); have : (σ56.1 662 a0).toInt = ((σ13.1 662 a0) : Int32).toInt := congrArg Int32.toInt (show σ56.1 662 a0 = (σ13.1 662 a0) from ((kp_c p57_0 (by decide)).trans rfl)); have : (v51 : Int32).toInt ≠ (0 : Int32).toInt := fun q => c52 (Int32.toInt_inj.mp q); have : (0 : Int32).toInt = 0 := (by decide); have : (49 : Int32).toInt = 49 := (by decide); have : (97 : Int32).toInt = 97 := (by decide); omega) _ (lv_sub hl [3, 4, 2, 1, 0] rfl)
abbrev fs_X11_tread : List Nat := []
abbrev ts_X11_tread : List Nat := [48]
set_option maxHeartbeats 4000000 in
set_option maxRecDepth 100000 in
theorem c_X11_tread (a0 : Nat) (ha0 : oA L τ a0 48) (a1 : Int32) (ia1 : Iv a1 0 5) : oMet l A L τ cy D K yX11_tread cX11_tread 2 none 0 0 [.ref a0, .int a1] σ (va_Qv (fun σ1 => oFr τ fs_X11_tread ts_X11_tread σ σ1) (oPo A L τ cy D) A) := by
  refine oMk (by decide) (Nat.le_of_ble_eq_true rfl) rfl ?_
  intro p e s m args below meth c ls cx rx hA hw hl
  generalize hQ : MQ below _ args s 0 0 A = Q
  have hx := cx.1.1
  have hb := cx.1.2.1
  have hml := cx.1.2.2.1
  have hown := cx.1.2.2.2.1
  have hts := cx.1.2.2.2.2
  have hl : lv_has ls 2 [(0, .ref a0), (1, .int a1)] := hl
  have fr : oFr τ fs_X11_tread ts_X11_tread σ σ := oFr_rf
  refine lv_aload_n hx hb dX11_tread_0 rfl (lv_at hl 0 rfl) ?_
  refine lv_sipush (v := 192) hx hb dX11_tread_1 (by decide) ?_
  refine lv_aload_n hx hb dX11_tread_4 rfl (lv_at hl 0 rfl) ?_
  refine lv_sipush (v := 320) hx hb dX11_tread_5 (by decide) ?_
  refine lv_iload_n hx hb dX11_tread_8 rfl (lv_at hl 1 rfl) ?_
  refine lv_iadd hx hb dX11_tread_9 ?_
  refine lv_topi (fun v1 e1 => ?_)
  have i1 : Iv v1 320 325 := iv_add e1 (⟨by decide, by decide⟩ : Iv 320 320 320) ia1 (by decide)
  have x1 : v1.toInt = a1.toInt + 320 := (ex_add e1 (⟨by decide, by decide⟩ : Iv 320 320 320) ia1 (by decide)).trans (Int.add_comm _ _)
  refine o_iald cx hw ha0 (by decide) rfl (iv_in i1 (by decide)) dX11_tread_10 (fun v2 e2 b2 => ?_)
  have i2 : Iv v2 0 63 := rb_now b2 i1 (by decide)
  refine lv_iadd hx hb dX11_tread_11 ?_
  refine lv_topi (fun v3 e3 => ?_)
  have i3 : Iv v3 192 255 := iv_add e3 (⟨by decide, by decide⟩ : Iv 192 192 192) i2 (by decide)
  have x3 : v3.toInt = v2.toInt + 192 := (ex_add e3 (⟨by decide, by decide⟩ : Iv 192 192 192) i2 (by decide)).trans (Int.add_comm _ _)
  refine lv_aload_n hx hb dX11_tread_12 rfl (lv_at hl 0 rfl) ?_
  refine lv_sipush (v := 333) hx hb dX11_tread_13 (by decide) ?_
  refine o_iald cx hw ha0 (by decide) rfl (iv_in (⟨by decide, by decide⟩ : Iv 333 333 333) (by decide)) dX11_tread_16 (fun v4 e4 b4 => ?_)
  refine o_iast cx hw ha0 (by decide) rfl (iv_in i3 (by decide)) (rb_lo i3 (by decide)) dX11_tread_17 (fun σ5 H locs eσ5 hw => ?_)
  have fr := oFr_p fr eσ5 ha0 (by decide)
  refine lv_aload_n hx hb dX11_tread_18 rfl (lv_at hl 0 rfl) ?_
  refine lv_sipush (v := 256) hx hb dX11_tread_19 (by decide) ?_
  refine lv_aload_n hx hb dX11_tread_22 rfl (lv_at hl 0 rfl) ?_
  refine lv_sipush (v := 320) hx hb dX11_tread_23 (by decide) ?_
  refine lv_iload_n hx hb dX11_tread_26 rfl (lv_at hl 1 rfl) ?_
  refine lv_iadd hx hb dX11_tread_27 ?_
  refine lv_topi (fun v6 e6 => ?_)
  have i6 : Iv v6 320 325 := iv_add e6 (⟨by decide, by decide⟩ : Iv 320 320 320) ia1 (by decide)
  have x6 : v6.toInt = a1.toInt + 320 := (ex_add e6 (⟨by decide, by decide⟩ : Iv 320 320 320) ia1 (by decide)).trans (Int.add_comm _ _)
  refine o_iald cx hw ha0 (by decide) rfl (iv_in i6 (by decide)) dX11_tread_28 (fun v7 e7 b7 => ?_)
  have i7 : Iv v7 0 63 := rb_now b7 i6 (by decide)
  refine lv_iadd hx hb dX11_tread_29 ?_
  refine lv_topi (fun v8 e8 => ?_)
  have i8 : Iv v8 256 319 := iv_add e8 (⟨by decide, by decide⟩ : Iv 256 256 256) i7 (by decide)
  have x8 : v8.toInt = v7.toInt + 256 := (ex_add e8 (⟨by decide, by decide⟩ : Iv 256 256 256) i7 (by decide)).trans (Int.add_comm _ _)
  refine lv_iload_n hx hb dX11_tread_30 rfl (lv_at hl 1 rfl) ?_
  refine o_iast cx hw ha0 (by decide) rfl (iv_in i8 (by decide)) (fun _ _ => iv_w ia1 (by decide)) dX11_tread_31 (fun σ9 H locs eσ9 hw => ?_)
  have fr := oFr_p fr eσ9 ha0 (by decide)
  rw [← hQ]
  exact o_rv cx rx hw dX11_tread_32 fr
set_option maxHeartbeats 4000000 in
set_option maxRecDepth 100000 in
theorem c_X11_letterOf (a0 : Int32) : oMet l A L τ cy D K yX11_letterOf cX11_letterOf 1 (some .int) 0 0 [.int a0] σ (va_Qi (fun r σ1 => σ1 = σ ∧ Iv r (-1) 8 ∧ (0 ≤ r → Iv a0 101 116) ∧ ((r.toInt = -1 ∧ ¬ (a0.toInt = 103 ∨ a0.toInt = 115 ∨ a0.toInt = 116 ∨ a0.toInt = 114 ∨ a0.toInt = 109 ∨ a0.toInt = 111 ∨ a0.toInt = 101 ∨ a0.toInt = 105 ∨ a0.toInt = 107)) ∨ (0 ≤ r.toInt ∧ (a0.toInt = 103 ∨ a0.toInt = 115 ∨ a0.toInt = 116 ∨ a0.toInt = 114 ∨ a0.toInt = 109 ∨ a0.toInt = 111 ∨ a0.toInt = 101 ∨ a0.toInt = 105 ∨ a0.toInt = 107))) ∧ (r = lt_F a0)) (oPo A L τ cy D) A) := by
  refine oMk (by decide) (Nat.le_of_ble_eq_true rfl) rfl ?_
  intro p e s m args below meth c ls cx rx hA hw hl
  generalize hQ : MQ below _ args s 0 0 A = Q
  have hx := cx.1.1
  have hb := cx.1.2.1
  have hml := cx.1.2.2.1
  have hown := cx.1.2.2.2.1
  have hts := cx.1.2.2.2.2
  have hl : lv_has ls 1 [(0, .int a0)] := hl
  refine lv_iload_n hx hb dX11_letterOf_0 rfl (lv_at hl 0 rfl) ?_
  by_cases q1 : a0 = 101
  · --
    refine lv_tableIn (tgt := 92) hx hb dX11_letterOf_1 (by rw [q1]; decide) (by rw [q1]; decide) (by rw [q1]; rfl) (by decide) ?_
    have i2 : Iv a0 101 101 := iv_eq1 q1 (iv_top a0) (⟨by decide, by decide⟩ : Iv 101 101 101) (by decide)
    refine lv_bipush (v := 6) hx hb dX11_letterOf_92 (by decide) ?_
    rw [← hQ]
    exact o_ri cx rx hw dX11_letterOf_94 ⟨rfl, (iv_w (⟨by decide, by decide⟩ : Iv 6 6 6) (by decide)), (fun _ => iv_w i2 (by decide)), (by exact (by have := (i2).1; have := (i2).2; have : (6 : Int32).toInt = 6 := (by decide); omega)), (by rw [q1]; decide)⟩
  by_cases q3 : a0 = 102
  · --
    refine lv_tableIn (tgt := 101) hx hb dX11_letterOf_1 (by rw [q3]; decide) (by rw [q3]; decide) (by rw [q3]; rfl) (by decide) ?_
    have i4 : Iv a0 102 102 := iv_eq1 q3 (iv_top a0) (⟨by decide, by decide⟩ : Iv 102 102 102) (by decide)
    refine lv_iconst (v := (-1)) hx hb dX11_letterOf_101 (by decide) ?_
    rw [← hQ]
    exact o_ri cx rx hw dX11_letterOf_102 ⟨rfl, (iv_w (⟨by decide, by decide⟩ : Iv (-1) (-1) (-1)) (by decide)), (fun h => iv_no (iv_le1 (b' := -1) h (⟨by decide, by decide⟩ : Iv 0 0 0) (⟨by decide, by decide⟩ : Iv (-1) (-1) (-1)) (by decide)) (by decide)), (by exact (by have := (i4).1; have := (i4).2; have : ((-1) : Int32).toInt = (-1) := (by decide); omega)), (by rw [q3]; decide)⟩
  by_cases q5 : a0 = 103
  · --
    refine lv_tableIn (tgt := 80) hx hb dX11_letterOf_1 (by rw [q5]; decide) (by rw [q5]; decide) (by rw [q5]; rfl) (by decide) ?_
    have i6 : Iv a0 103 103 := iv_eq1 q5 (iv_top a0) (⟨by decide, by decide⟩ : Iv 103 103 103) (by decide)
    refine lv_iconst (v := 0) hx hb dX11_letterOf_80 (by decide) ?_
    rw [← hQ]
    exact o_ri cx rx hw dX11_letterOf_81 ⟨rfl, (iv_w (⟨by decide, by decide⟩ : Iv 0 0 0) (by decide)), (fun _ => iv_w i6 (by decide)), (by exact (by have := (i6).1; have := (i6).2; have : (0 : Int32).toInt = 0 := (by decide); omega)), (by rw [q5]; decide)⟩
  by_cases q7 : a0 = 104
  · --
    refine lv_tableIn (tgt := 101) hx hb dX11_letterOf_1 (by rw [q7]; decide) (by rw [q7]; decide) (by rw [q7]; rfl) (by decide) ?_
    have i8 : Iv a0 104 104 := iv_eq1 q7 (iv_top a0) (⟨by decide, by decide⟩ : Iv 104 104 104) (by decide)
    refine lv_iconst (v := (-1)) hx hb dX11_letterOf_101 (by decide) ?_
    rw [← hQ]
    exact o_ri cx rx hw dX11_letterOf_102 ⟨rfl, (iv_w (⟨by decide, by decide⟩ : Iv (-1) (-1) (-1)) (by decide)), (fun h => iv_no (iv_le1 (b' := -1) h (⟨by decide, by decide⟩ : Iv 0 0 0) (⟨by decide, by decide⟩ : Iv (-1) (-1) (-1)) (by decide)) (by decide)), (by exact (by have := (i8).1; have := (i8).2; have : ((-1) : Int32).toInt = (-1) := (by decide); omega)), (by rw [q7]; decide)⟩
  by_cases q9 : a0 = 105
  · --
    refine lv_tableIn (tgt := 95) hx hb dX11_letterOf_1 (by rw [q9]; decide) (by rw [q9]; decide) (by rw [q9]; rfl) (by decide) ?_
    have i10 : Iv a0 105 105 := iv_eq1 q9 (iv_top a0) (⟨by decide, by decide⟩ : Iv 105 105 105) (by decide)
    refine lv_bipush (v := 7) hx hb dX11_letterOf_95 (by decide) ?_
    rw [← hQ]
    exact o_ri cx rx hw dX11_letterOf_97 ⟨rfl, (iv_w (⟨by decide, by decide⟩ : Iv 7 7 7) (by decide)), (fun _ => iv_w i10 (by decide)), (by exact (by have := (i10).1; have := (i10).2; have : (7 : Int32).toInt = 7 := (by decide); omega)), (by rw [q9]; decide)⟩
  by_cases q11 : a0 = 106
  · --
    refine lv_tableIn (tgt := 101) hx hb dX11_letterOf_1 (by rw [q11]; decide) (by rw [q11]; decide) (by rw [q11]; rfl) (by decide) ?_
    have i12 : Iv a0 106 106 := iv_eq1 q11 (iv_top a0) (⟨by decide, by decide⟩ : Iv 106 106 106) (by decide)
    refine lv_iconst (v := (-1)) hx hb dX11_letterOf_101 (by decide) ?_
    rw [← hQ]
    exact o_ri cx rx hw dX11_letterOf_102 ⟨rfl, (iv_w (⟨by decide, by decide⟩ : Iv (-1) (-1) (-1)) (by decide)), (fun h => iv_no (iv_le1 (b' := -1) h (⟨by decide, by decide⟩ : Iv 0 0 0) (⟨by decide, by decide⟩ : Iv (-1) (-1) (-1)) (by decide)) (by decide)), (by exact (by have := (i12).1; have := (i12).2; have : ((-1) : Int32).toInt = (-1) := (by decide); omega)), (by rw [q11]; decide)⟩
  by_cases q13 : a0 = 107
  · --
    refine lv_tableIn (tgt := 98) hx hb dX11_letterOf_1 (by rw [q13]; decide) (by rw [q13]; decide) (by rw [q13]; rfl) (by decide) ?_
    have i14 : Iv a0 107 107 := iv_eq1 q13 (iv_top a0) (⟨by decide, by decide⟩ : Iv 107 107 107) (by decide)
    refine lv_bipush (v := 8) hx hb dX11_letterOf_98 (by decide) ?_
    rw [← hQ]
    exact o_ri cx rx hw dX11_letterOf_100 ⟨rfl, (iv_w (⟨by decide, by decide⟩ : Iv 8 8 8) (by decide)), (fun _ => iv_w i14 (by decide)), (by exact (by have := (i14).1; have := (i14).2; have : (8 : Int32).toInt = 8 := (by decide); omega)), (by rw [q13]; decide)⟩
  by_cases q15 : a0 = 108
  · --
    refine lv_tableIn (tgt := 101) hx hb dX11_letterOf_1 (by rw [q15]; decide) (by rw [q15]; decide) (by rw [q15]; rfl) (by decide) ?_
    have i16 : Iv a0 108 108 := iv_eq1 q15 (iv_top a0) (⟨by decide, by decide⟩ : Iv 108 108 108) (by decide)
    refine lv_iconst (v := (-1)) hx hb dX11_letterOf_101 (by decide) ?_
    rw [← hQ]
    exact o_ri cx rx hw dX11_letterOf_102 ⟨rfl, (iv_w (⟨by decide, by decide⟩ : Iv (-1) (-1) (-1)) (by decide)), (fun h => iv_no (iv_le1 (b' := -1) h (⟨by decide, by decide⟩ : Iv 0 0 0) (⟨by decide, by decide⟩ : Iv (-1) (-1) (-1)) (by decide)) (by decide)), (by exact (by have := (i16).1; have := (i16).2; have : ((-1) : Int32).toInt = (-1) := (by decide); omega)), (by rw [q15]; decide)⟩
  by_cases q17 : a0 = 109
  · --
    refine lv_tableIn (tgt := 88) hx hb dX11_letterOf_1 (by rw [q17]; decide) (by rw [q17]; decide) (by rw [q17]; rfl) (by decide) ?_
    have i18 : Iv a0 109 109 := iv_eq1 q17 (iv_top a0) (⟨by decide, by decide⟩ : Iv 109 109 109) (by decide)
    refine lv_iconst (v := 4) hx hb dX11_letterOf_88 (by decide) ?_
    rw [← hQ]
    exact o_ri cx rx hw dX11_letterOf_89 ⟨rfl, (iv_w (⟨by decide, by decide⟩ : Iv 4 4 4) (by decide)), (fun _ => iv_w i18 (by decide)), (by exact (by have := (i18).1; have := (i18).2; have : (4 : Int32).toInt = 4 := (by decide); omega)), (by rw [q17]; decide)⟩
  by_cases q19 : a0 = 110
  · --
    refine lv_tableIn (tgt := 101) hx hb dX11_letterOf_1 (by rw [q19]; decide) (by rw [q19]; decide) (by rw [q19]; rfl) (by decide) ?_
    have i20 : Iv a0 110 110 := iv_eq1 q19 (iv_top a0) (⟨by decide, by decide⟩ : Iv 110 110 110) (by decide)
    refine lv_iconst (v := (-1)) hx hb dX11_letterOf_101 (by decide) ?_
    rw [← hQ]
    exact o_ri cx rx hw dX11_letterOf_102 ⟨rfl, (iv_w (⟨by decide, by decide⟩ : Iv (-1) (-1) (-1)) (by decide)), (fun h => iv_no (iv_le1 (b' := -1) h (⟨by decide, by decide⟩ : Iv 0 0 0) (⟨by decide, by decide⟩ : Iv (-1) (-1) (-1)) (by decide)) (by decide)), (by exact (by have := (i20).1; have := (i20).2; have : ((-1) : Int32).toInt = (-1) := (by decide); omega)), (by rw [q19]; decide)⟩
  by_cases q21 : a0 = 111
  · --
    refine lv_tableIn (tgt := 90) hx hb dX11_letterOf_1 (by rw [q21]; decide) (by rw [q21]; decide) (by rw [q21]; rfl) (by decide) ?_
    have i22 : Iv a0 111 111 := iv_eq1 q21 (iv_top a0) (⟨by decide, by decide⟩ : Iv 111 111 111) (by decide)
    refine lv_iconst (v := 5) hx hb dX11_letterOf_90 (by decide) ?_
    rw [← hQ]
    exact o_ri cx rx hw dX11_letterOf_91 ⟨rfl, (iv_w (⟨by decide, by decide⟩ : Iv 5 5 5) (by decide)), (fun _ => iv_w i22 (by decide)), (by exact (by have := (i22).1; have := (i22).2; have : (5 : Int32).toInt = 5 := (by decide); omega)), (by rw [q21]; decide)⟩
  by_cases q23 : a0 = 112
  · --
    refine lv_tableIn (tgt := 101) hx hb dX11_letterOf_1 (by rw [q23]; decide) (by rw [q23]; decide) (by rw [q23]; rfl) (by decide) ?_
    have i24 : Iv a0 112 112 := iv_eq1 q23 (iv_top a0) (⟨by decide, by decide⟩ : Iv 112 112 112) (by decide)
    refine lv_iconst (v := (-1)) hx hb dX11_letterOf_101 (by decide) ?_
    rw [← hQ]
    exact o_ri cx rx hw dX11_letterOf_102 ⟨rfl, (iv_w (⟨by decide, by decide⟩ : Iv (-1) (-1) (-1)) (by decide)), (fun h => iv_no (iv_le1 (b' := -1) h (⟨by decide, by decide⟩ : Iv 0 0 0) (⟨by decide, by decide⟩ : Iv (-1) (-1) (-1)) (by decide)) (by decide)), (by exact (by have := (i24).1; have := (i24).2; have : ((-1) : Int32).toInt = (-1) := (by decide); omega)), (by rw [q23]; decide)⟩
  by_cases q25 : a0 = 113
  · --
    refine lv_tableIn (tgt := 101) hx hb dX11_letterOf_1 (by rw [q25]; decide) (by rw [q25]; decide) (by rw [q25]; rfl) (by decide) ?_
    have i26 : Iv a0 113 113 := iv_eq1 q25 (iv_top a0) (⟨by decide, by decide⟩ : Iv 113 113 113) (by decide)
    refine lv_iconst (v := (-1)) hx hb dX11_letterOf_101 (by decide) ?_
    rw [← hQ]
    exact o_ri cx rx hw dX11_letterOf_102 ⟨rfl, (iv_w (⟨by decide, by decide⟩ : Iv (-1) (-1) (-1)) (by decide)), (fun h => iv_no (iv_le1 (b' := -1) h (⟨by decide, by decide⟩ : Iv 0 0 0) (⟨by decide, by decide⟩ : Iv (-1) (-1) (-1)) (by decide)) (by decide)), (by exact (by have := (i26).1; have := (i26).2; have : ((-1) : Int32).toInt = (-1) := (by decide); omega)), (by rw [q25]; decide)⟩
  by_cases q27 : a0 = 114
  · --
    refine lv_tableIn (tgt := 86) hx hb dX11_letterOf_1 (by rw [q27]; decide) (by rw [q27]; decide) (by rw [q27]; rfl) (by decide) ?_
    have i28 : Iv a0 114 114 := iv_eq1 q27 (iv_top a0) (⟨by decide, by decide⟩ : Iv 114 114 114) (by decide)
    refine lv_iconst (v := 3) hx hb dX11_letterOf_86 (by decide) ?_
    rw [← hQ]
    exact o_ri cx rx hw dX11_letterOf_87 ⟨rfl, (iv_w (⟨by decide, by decide⟩ : Iv 3 3 3) (by decide)), (fun _ => iv_w i28 (by decide)), (by exact (by have := (i28).1; have := (i28).2; have : (3 : Int32).toInt = 3 := (by decide); omega)), (by rw [q27]; decide)⟩
  by_cases q29 : a0 = 115
  · --
    refine lv_tableIn (tgt := 82) hx hb dX11_letterOf_1 (by rw [q29]; decide) (by rw [q29]; decide) (by rw [q29]; rfl) (by decide) ?_
    have i30 : Iv a0 115 115 := iv_eq1 q29 (iv_top a0) (⟨by decide, by decide⟩ : Iv 115 115 115) (by decide)
    refine lv_iconst (v := 1) hx hb dX11_letterOf_82 (by decide) ?_
    rw [← hQ]
    exact o_ri cx rx hw dX11_letterOf_83 ⟨rfl, (iv_w (⟨by decide, by decide⟩ : Iv 1 1 1) (by decide)), (fun _ => iv_w i30 (by decide)), (by exact (by have := (i30).1; have := (i30).2; have : (1 : Int32).toInt = 1 := (by decide); omega)), (by rw [q29]; decide)⟩
  by_cases q31 : a0 = 116
  · --
    refine lv_tableIn (tgt := 84) hx hb dX11_letterOf_1 (by rw [q31]; decide) (by rw [q31]; decide) (by rw [q31]; rfl) (by decide) ?_
    have i32 : Iv a0 116 116 := iv_eq1 q31 (iv_top a0) (⟨by decide, by decide⟩ : Iv 116 116 116) (by decide)
    refine lv_iconst (v := 2) hx hb dX11_letterOf_84 (by decide) ?_
    rw [← hQ]
    exact o_ri cx rx hw dX11_letterOf_85 ⟨rfl, (iv_w (⟨by decide, by decide⟩ : Iv 2 2 2) (by decide)), (fun _ => iv_w i32 (by decide)), (by exact (by have := (i32).1; have := (i32).2; have : (2 : Int32).toInt = 2 := (by decide); omega)), (by rw [q31]; decide)⟩
  have q1 := iv_nt q1 (k := 101) (by decide)
  have q3 := iv_nt q3 (k := 102) (by decide)
  have q5 := iv_nt q5 (k := 103) (by decide)
  have q7 := iv_nt q7 (k := 104) (by decide)
  have q9 := iv_nt q9 (k := 105) (by decide)
  have q11 := iv_nt q11 (k := 106) (by decide)
  have q13 := iv_nt q13 (k := 107) (by decide)
  have q15 := iv_nt q15 (k := 108) (by decide)
  have q17 := iv_nt q17 (k := 109) (by decide)
  have q19 := iv_nt q19 (k := 110) (by decide)
  have q21 := iv_nt q21 (k := 111) (by decide)
  have q23 := iv_nt q23 (k := 112) (by decide)
  have q25 := iv_nt q25 (k := 113) (by decide)
  have q27 := iv_nt q27 (k := 114) (by decide)
  have q29 := iv_nt q29 (k := 115) (by decide)
  have q31 := iv_nt q31 (k := 116) (by decide)
  refine lv_tableOut (tgt := 101) hx hb dX11_letterOf_1 (by omega) (by decide) ?_
  refine lv_iconst (v := (-1)) hx hb dX11_letterOf_101 (by decide) ?_
  rw [← hQ]
  exact o_ri cx rx hw dX11_letterOf_102 ⟨rfl, (iv_w (⟨by decide, by decide⟩ : Iv (-1) (-1) (-1)) (by decide)), (fun h => iv_no (iv_le1 (b' := -1) h (⟨by decide, by decide⟩ : Iv 0 0 0) (⟨by decide, by decide⟩ : Iv (-1) (-1) (-1)) (by decide)) (by decide)), (by exact (by have : ((-1) : Int32).toInt = (-1) := (by decide); omega)), (by rw [lt_F, if_neg q1, if_neg q5, if_neg q9, if_neg q13, if_neg q17, if_neg q21, if_neg q27, if_neg q29, if_neg q31])⟩
end OM
