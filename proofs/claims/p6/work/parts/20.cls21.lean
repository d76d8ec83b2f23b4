section OM
variable {l : Launch} {A : Nat → Prop} {L : List Nat} {τ : Nat → Nat} {cy : Nat → ClassId} {D : va_G} {K : (Nat → Nat) × (Nat → Nat)} {σ : oSt}
abbrev fs_X10_meadow : List Nat := [64, 65, 66, 68, 69, 70, 130, 327, 328, 329, 330, 331, 385, 386, 387, 587, 588]
abbrev ts_X10_meadow : List Nat := [32, 34]
set_option maxHeartbeats 4000000 in
set_option maxRecDepth 100000 in
theorem c_X10_meadow (a0 : Nat) (ha0 : oA L τ a0 9) : oMet l A L τ cy D K yX10_meadow cX10_meadow 2 (some .int) 6 155 [.ref a0] σ (va_Qi (fun r σ1 => oFr τ fs_X10_meadow ts_X10_meadow σ σ1 ∧ (∀ b, σ.2.2.2.2 576 a0 = some b → Iv (σ1.1 385 b) 0 0) ∧ (∀ b, σ.2.2.2.2 576 a0 = some b → mdP (mdM (oRw σ 384 b) (σ.1 385 b).toInt) r.toInt)) (oPo A L τ cy D) A) := by
  refine oMk (by decide) (Nat.le_of_ble_eq_true rfl) rfl ?_
  intro p e s m args below meth c ls cx rx hA hw hl
  generalize hQ : MQ below _ args s 0 0 A = Q
  have hx := cx.1.1
  have hb := cx.1.2.1
  have hml := cx.1.2.2.1
  have hown := cx.1.2.2.2.1
  have hts := cx.1.2.2.2.2
  have hl : lv_has ls 2 [(0, .ref a0)] := hl
  have fr : oFr τ fs_X10_meadow ts_X10_meadow σ σ := oFr_rf
  obtain ⟨b576, hF576, hb576⟩ := hw.2.2.2.2.2 576 a0 6 (by rw [ha0.2]; rfl) ha0.1
  refine lv_aload_n hx hb dX10_meadow_0 rfl (lv_at hl 0 rfl) ?_
  refine g_578 cx hw ha0 k_f_X10_26 dX10_meadow_1 (fun v1 e1 h1 => ?_)
  refine lv_aload_n hx hb dX10_meadow_4 rfl (lv_at hl 0 rfl) ?_
  refine g_576 cx hw ha0 k_f_X10_10 dX10_meadow_5 (fun v2 e2 h2 => ?_)
  rw [show v2 = b576 from Option.some.inj (e2.symm.trans (hF576))]
  have i3 : Iv (σ.1 385 b576) 0 80 := o_fb (j := 385) hw hb576 rfl
  refine o_ci hw (oRunV cx hA hw q_X2_faultIn k_m_X10_104 rfl h1 (by decide) (As := [.ref b576]) (c_X2_faultIn v1 h1 b576 hb576) (by decide) rfl hl.1 rfl (Nat.le_of_ble_eq_true rfl) dX10_meadow_8 (by decide)) (fun v5 σ4 H locs hp hw => ?_)
  obtain ⟨p5_0, p5_1⟩ := hp
  have fr := oFr_tr fr p5_0 (by decide)
  refine lv_istore_n (lv' := [(1, .int v5), (0, .ref a0)]) hx hb dX10_meadow_11 rfl hl (by decide) rfl (fun ls hl => ?_)
  refine lv_iload_n hx hb dX10_meadow_12 rfl (lv_at hl 0 rfl) ?_
  refine lv_if_ne (tgt := 48) hx hb dX10_meadow_13 (by decide) (fun c6 => ?_) (fun c6 => ?_)
  · --
    refine lv_aload_n hx hb dX10_meadow_48 rfl (lv_at hl 1 rfl) ?_
    refine g_576 cx hw ha0 k_f_X10_10 dX10_meadow_49 (fun v7 e7 h7 => ?_)
    rw [show v7 = b576 from Option.some.inj (e7.symm.trans (((kr_c p5_0 (by decide)).trans hF576)))]
    refine o_cv hw (oRunV cx hA hw q_X7_empty k_m_X10_93 rfl hb576 (by decide) (As := []) (c_X7_empty b576 hb576) (by decide) rfl hl.1 rfl (Nat.le_of_ble_eq_true rfl) dX10_meadow_52 (by decide)) (fun σ8 H locs hp hw => ?_)
    obtain ⟨p9_0, p9_1⟩ := hp
    have fr := oFr_tr fr p9_0 (by decide)
    refine lv_iload_n hx hb dX10_meadow_55 rfl (lv_at hl 0 rfl) ?_
    refine lv_if_ne (tgt := 77) hx hb dX10_meadow_56 (by decide) (fun c10 => ?_) (fun c10 => ?_)
    · --
      refine lv_iload_n hx hb dX10_meadow_77 rfl (lv_at hl 0 rfl) ?_
      rw [← hQ]
      exact o_ri cx rx hw dX10_meadow_78 ⟨fr, (by intro b hb9; rw [show b = b576 from Option.some.inj (hb9.symm.trans ((kr_c fr (by decide)).symm.trans (((kr_c p9_0 (by decide)).trans ((kr_c p5_0 (by decide)).trans hF576)))))]; exact (kn_iv (rfl) (iv_w p9_1 (by decide)))), (by intro b hb9; rw [show b = b576 from Option.some.inj (hb9.symm.trans ((kr_c fr (by decide)).symm.trans (((kr_c p9_0 (by decide)).trans ((kr_c p5_0 (by decide)).trans hF576)))))]; exact (Or.inl (by have := (p9_1).1; have := (p9_1).2; have := (i3).1; have := (i3).2; have : (v5 : Int32).toInt ≠ (0 : Int32).toInt := fun q => c6 (Int32.toInt_inj.mp q); have : (v5 : Int32).toInt ≠ (0 : Int32).toInt := fun q => c10 (Int32.toInt_inj.mp q); have : (0 : Int32).toInt = 0 := (by decide); omega)))⟩
    · --
      have i11 : Iv v5 0 0 := iv_eq1 c10 (iv_top v5) (⟨by decide, by decide⟩ : Iv 0 0 0) (by decide)
      refine lv_aload_n hx hb dX10_meadow_59 rfl (lv_at hl 1 rfl) ?_
      refine g_578 cx hw ha0 k_f_X10_26 dX10_meadow_60 (fun v12 e12 h12 => ?_)
      rw [show v12 = v1 from Option.some.inj (e12.symm.trans (((kr_c p9_0 (by decide)).trans ((kr_c p5_0 (by decide)).trans e1))))]
      refine g_64 cx hw h1 k_f_X10_121 dX10_meadow_63 (fun v13 e13 => ?_)
      have z13 : v13.toInt = (σ8.1 64 v1).toInt := congrArg Int32.toInt e13
      refine lv_aload_n hx hb dX10_meadow_66 rfl (lv_at hl 1 rfl) ?_
      refine g_578 cx hw ha0 k_f_X10_26 dX10_meadow_67 (fun v14 e14 h14 => ?_)
      rw [show v14 = v1 from Option.some.inj (e14.symm.trans (((kr_c p9_0 (by decide)).trans ((kr_c p5_0 (by decide)).trans e1))))]
      refine g_65 cx hw h1 k_f_X10_124 dX10_meadow_70 (fun v15 e15 => ?_)
      have z15 : v15.toInt = (σ8.1 65 v1).toInt := congrArg Int32.toInt e15
      have i16 : Iv v15 1 8 := (by have := (i11).1; have := (i11).2; have := (p9_1).1; have := (p9_1).2; have := (i3).1; have := (i3).2; have : (σ8.1 64 v1).toInt = (v13 : Int32).toInt := congrArg Int32.toInt (show σ8.1 64 v1 = v13 from e13.symm); have : (σ8.1 65 v1).toInt = (v15 : Int32).toInt := congrArg Int32.toInt (show σ8.1 65 v1 = v15 from e15.symm); have : (v5 : Int32).toInt ≠ (0 : Int32).toInt := fun q => c6 (Int32.toInt_inj.mp q); have : (v5 : Int32).toInt = (0 : Int32).toInt := congrArg Int32.toInt c10; have : (0 : Int32).toInt = 0 := (by decide); exact ⟨by omega, by omega⟩)
      have i17 : Iv v13 1 8 := (by have := (i11).1; have := (i11).2; have := (i16).1; have := (i16).2; have := (p9_1).1; have := (p9_1).2; have := (i3).1; have := (i3).2; have : (σ8.1 64 v1).toInt = (v13 : Int32).toInt := congrArg Int32.toInt (show σ8.1 64 v1 = v13 from e13.symm); have : (σ8.1 65 v1).toInt = (v15 : Int32).toInt := congrArg Int32.toInt (show σ8.1 65 v1 = v15 from e15.symm); have : (v5 : Int32).toInt ≠ (0 : Int32).toInt := fun q => c6 (Int32.toInt_inj.mp q); have : (v5 : Int32).toInt = (0 : Int32).toInt := congrArg Int32.toInt c10; have : (0 : Int32).toInt = 0 := (by decide); exact ⟨by omega, by omega⟩)
      refine lv_imul hx hb dX10_meadow_73 ?_
      refine lv_topi (fun v18 e18 => ?_)
      have i18 : Iv v18 1 64 := iv_mul e18 i17 i16 (by decide)
      refine lv_goto (tgt := 78) hx hb dX10_meadow_74 (by decide) ?_
      rw [← hQ]
      exact o_ri cx rx hw dX10_meadow_78 ⟨fr, (by intro b hb9; rw [show b = b576 from Option.some.inj (hb9.symm.trans ((kr_c fr (by decide)).symm.trans (((kr_c p9_0 (by decide)).trans ((kr_c p5_0 (by decide)).trans hF576)))))]; exact (kn_iv (rfl) (iv_w p9_1 (by decide)))), (by intro b hb9; rw [show b = b576 from Option.some.inj (hb9.symm.trans ((kr_c fr (by decide)).symm.trans (((kr_c p9_0 (by decide)).trans ((kr_c p5_0 (by decide)).trans hF576)))))]; exact (Or.inr ⟨(v13 : Int32).toInt, (v15 : Int32).toInt, (by have := (i11).1; have := (i11).2; have := (i18).1; have := (i18).2; have := (p9_1).1; have := (p9_1).2; have := (i17).1; have := (i17).2; have := (i16).1; have := (i16).2; have := (i3).1; have := (i3).2; have : (σ8.1 64 v1).toInt = (v13 : Int32).toInt := congrArg Int32.toInt (show σ8.1 64 v1 = v13 from e13.symm); have : (σ8.1 65 v1).toInt = (v15 : Int32).toInt := congrArg Int32.toInt (show σ8.1 65 v1 = v15 from e15.symm); have : (v5 : Int32).toInt ≠ (0 : Int32).toInt := fun q => c6 (Int32.toInt_inj.mp q); have : (v5 : Int32).toInt = (0 : Int32).toInt := congrArg Int32.toInt c10; have : (0 : Int32).toInt = 0 := (by decide); omega), (by have := (i11).1; have := (i11).2; have := (i18).1; have := (i18).2; have := (p9_1).1; have := (p9_1).2; have := (i17).1; have := (i17).2; have := (i16).1; have := (i16).2; have := (i3).1; have := (i3).2; have : (σ8.1 64 v1).toInt = (v13 : Int32).toInt := congrArg Int32.toInt (show σ8.1 64 v1 = v13 from e13.symm); have : (σ8.1 65 v1).toInt = (v15 : Int32).toInt := congrArg Int32.toInt (show σ8.1 65 v1 = v15 from e15.symm); have : (v5 : Int32).toInt ≠ (0 : Int32).toInt := fun q => c6 (Int32.toInt_inj.mp q); have : (v5 : Int32).toInt = (0 : Int32).toInt := congrArg Int32.toInt c10; have : (0 : Int32).toInt = 0 := (by decide); omega), (by have := (i11).1; have := (i11).2; have := (i18).1; have := (i18).2; have := (p9_1).1; have := (p9_1).2; have := (i17).1; have := (i17).2; have := (i16).1; have := (i16).2; have := (i3).1; have := (i3).2; have : (σ8.1 64 v1).toInt = (v13 : Int32).toInt := congrArg Int32.toInt (show σ8.1 64 v1 = v13 from e13.symm); have : (σ8.1 65 v1).toInt = (v15 : Int32).toInt := congrArg Int32.toInt (show σ8.1 65 v1 = v15 from e15.symm); have : (v5 : Int32).toInt ≠ (0 : Int32).toInt := fun q => c6 (Int32.toInt_inj.mp q); have : (v5 : Int32).toInt = (0 : Int32).toInt := congrArg Int32.toInt c10; have : (0 : Int32).toInt = 0 := (by decide); omega), (by have := (i11).1; have := (i11).2; have := (i18).1; have := (i18).2; have := (p9_1).1; have := (p9_1).2; have := (i17).1; have := (i17).2; have := (i16).1; have := (i16).2; have := (i3).1; have := (i3).2; have : (σ8.1 64 v1).toInt = (v13 : Int32).toInt := congrArg Int32.toInt (show σ8.1 64 v1 = v13 from e13.symm); have : (σ8.1 65 v1).toInt = (v15 : Int32).toInt := congrArg Int32.toInt (show σ8.1 65 v1 = v15 from e15.symm); have : (v5 : Int32).toInt ≠ (0 : Int32).toInt := fun q => c6 (Int32.toInt_inj.mp q); have : (v5 : Int32).toInt = (0 : Int32).toInt := congrArg Int32.toInt c10; have : (0 : Int32).toInt = 0 := (by decide); omega), ex_mul e18 i17 i16 (by decide)⟩))⟩
  · --
    have i19 : Iv v5 0 0 := iv_eq1 c6 (iv_top v5) (⟨by decide, by decide⟩ : Iv 0 0 0) (by decide)
    refine lv_aload_n hx hb dX10_meadow_16 rfl (lv_at hl 1 rfl) ?_
    refine g_578 cx hw ha0 k_f_X10_26 dX10_meadow_17 (fun v20 e20 h20 => ?_)
    rw [show v20 = v1 from Option.some.inj (e20.symm.trans (((kr_c p5_0 (by decide)).trans e1)))]
    refine lv_aload_n hx hb dX10_meadow_20 rfl (lv_at hl 1 rfl) ?_
    refine g_576 cx hw ha0 k_f_X10_10 dX10_meadow_21 (fun v21 e21 h21 => ?_)
    rw [show v21 = b576 from Option.some.inj (e21.symm.trans (((kr_c p5_0 (by decide)).trans hF576)))]
    refine lv_aload_n hx hb dX10_meadow_24 rfl (lv_at hl 1 rfl) ?_
    refine g_581 cx hw ha0 k_f_X10_49 dX10_meadow_25 (fun v22 e22 h22 => ?_)
    have z23 : (σ4.1 385 b576).toInt = ((σ.1 385 b576) : Int32).toInt := congrArg Int32.toInt (show σ4.1 385 b576 = (σ.1 385 b576) from ((kp_c p5_0 (by decide)).trans rfl))
    have em9 : mdM (oRw σ4 384 b576) (σ4.1 385 b576).toInt = mdM (oRw σ 384 b576) (σ.1 385 b576).toInt := by rw [oRw_fr hw hb576 rfl fr (by decide), show σ4.1 385 b576 = σ.1 385 b576 from ((kp_c p5_0 (by decide)).trans rfl)]
    refine o_cv hw (oRunV cx hA hw q_X2_lay k_m_X10_107 rfl h1 (by decide) (As := [.ref b576, .ref v22]) (c_X2_lay v1 h1 b576 hb576 v22 h22 (by rw [em9]; exact (by have := (i19).1; have := (i19).2; have := (i3).1; have := (i3).2; have : (σ4.1 385 b576).toInt = ((σ.1 385 b576) : Int32).toInt := congrArg Int32.toInt (show σ4.1 385 b576 = (σ.1 385 b576) from ((kp_c p5_0 (by decide)).trans rfl)); have : (v5 : Int32).toInt = (0 : Int32).toInt := congrArg Int32.toInt c6; have : (0 : Int32).toInt = 0 := (by decide); omega))) (by decide) rfl hl.1 rfl (Nat.le_of_ble_eq_true rfl) dX10_meadow_28 (by decide)) (fun σ24 H locs hp hw => ?_)
    obtain ⟨p25_0, p25_1⟩ := hp
    have fr := oFr_tr fr p25_0 (by decide)
    refine lv_aload_n hx hb dX10_meadow_31 rfl (lv_at hl 1 rfl) ?_
    refine g_585 cx hw ha0 k_f_X10_75 dX10_meadow_32 (fun v26 e26 h26 => ?_)
    refine o_cv hw (oRunV cx hA hw q_X3_forget k_m_X10_111 rfl h26 (by decide) (As := []) (c_X3_forget v26 h26) (by decide) rfl hl.1 rfl (Nat.le_of_ble_eq_true rfl) dX10_meadow_35 (by decide)) (fun σ27 H locs hp hw => ?_)
    have p28_0 := hp
    have fr := oFr_tr fr p28_0 (by decide)
    refine lv_aload_n hx hb dX10_meadow_38 rfl (lv_at hl 1 rfl) ?_
    refine lv_iconst (v := 0) hx hb dX10_meadow_39 (by decide) ?_
    refine p_587 cx hw ha0 k_f_X10_114 dX10_meadow_40 (fun σ29 H locs eσ29 hw => ?_)
    have fr := oFr_i fr eσ29 (by decide)
    refine lv_aload_n hx hb dX10_meadow_43 rfl (lv_at hl 1 rfl) ?_
    refine lv_iconst (v := 0) hx hb dX10_meadow_44 (by decide) ?_
    refine p_588 cx hw ha0 (iv_w (⟨by decide, by decide⟩ : Iv 0 0 0) (by decide)) k_f_X10_117 dX10_meadow_45 (fun σ30 H locs eσ30 hw => ?_)
    have fr := oFr_i fr eσ30 (by decide)
    refine lv_aload_n hx hb dX10_meadow_48 rfl (lv_at hl 1 rfl) ?_
    refine g_576 cx hw ha0 k_f_X10_10 dX10_meadow_49 (fun v31 e31 h31 => ?_)
    rw [show v31 = b576 from Option.some.inj (e31.symm.trans (((kr_i eσ30).trans ((kr_i eσ29).trans ((kr_c p28_0 (by decide)).trans ((kr_c p25_0 (by decide)).trans ((kr_c p5_0 (by decide)).trans hF576)))))))]
    refine o_cv hw (oRunV cx hA hw q_X7_empty k_m_X10_93 rfl hb576 (by decide) (As := []) (c_X7_empty b576 hb576) (by decide) rfl hl.1 rfl (Nat.le_of_ble_eq_true rfl) dX10_meadow_52 (by decide)) (fun σ32 H locs hp hw => ?_)
    obtain ⟨p33_0, p33_1⟩ := hp
    have fr := oFr_tr fr p33_0 (by decide)
    refine lv_iload_n hx hb dX10_meadow_55 rfl (lv_at hl 0 rfl) ?_
    refine lv_if_ne (tgt := 77) hx hb dX10_meadow_56 (by decide) (fun c34 => ?_) (fun c34 => ?_)
    · --
      exact iv_no (iv_ne1 c34 i19 (⟨by decide, by decide⟩ : Iv 0 0 0) (by decide)) (by decide)
    · --
      refine lv_aload_n hx hb dX10_meadow_59 rfl (lv_at hl 1 rfl) ?_
      refine g_578 cx hw ha0 k_f_X10_26 dX10_meadow_60 (fun v35 e35 h35 => ?_)
      rw [show v35 = v1 from Option.some.inj (e35.symm.trans (((kr_c p33_0 (by decide)).trans ((kr_i eσ30).trans ((kr_i eσ29).trans ((kr_c p28_0 (by decide)).trans ((kr_c p25_0 (by decide)).trans ((kr_c p5_0 (by decide)).trans e1))))))))]
      refine g_64 cx hw h1 k_f_X10_121 dX10_meadow_63 (fun v36 e36 => ?_)
      rw [show v36 = (σ24.1 64 v1) from e36.trans ((kp_c p33_0 (by decide)).trans ((kp_i eσ30 (by decide)).trans ((kp_i eσ29 (by decide)).trans ((kp_c p28_0 (by decide)).trans rfl))))]
      refine lv_aload_n hx hb dX10_meadow_66 rfl (lv_at hl 1 rfl) ?_
      refine g_578 cx hw ha0 k_f_X10_26 dX10_meadow_67 (fun v37 e37 h37 => ?_)
      rw [show v37 = v1 from Option.some.inj (e37.symm.trans (((kr_c p33_0 (by decide)).trans ((kr_i eσ30).trans ((kr_i eσ29).trans ((kr_c p28_0 (by decide)).trans ((kr_c p25_0 (by decide)).trans ((kr_c p5_0 (by decide)).trans e1))))))))]
      refine g_65 cx hw h1 k_f_X10_124 dX10_meadow_70 (fun v38 e38 => ?_)
      rw [show v38 = (σ24.1 65 v1) from e38.trans ((kp_c p33_0 (by decide)).trans ((kp_i eσ30 (by decide)).trans ((kp_i eσ29 (by decide)).trans ((kp_c p28_0 (by decide)).trans rfl))))]
      have i39 : Iv (σ24.1 65 v1) 1 8 := (by have := (i19).1; have := (i19).2; have := (p33_1).1; have := (p33_1).2; have := (i3).1; have := (i3).2; have : (σ32.1 64 v1).toInt = ((σ24.1 64 v1) : Int32).toInt := congrArg Int32.toInt (show σ32.1 64 v1 = (σ24.1 64 v1) from ((kp_c p33_0 (by decide)).trans ((kp_i eσ30 (by decide)).trans ((kp_i eσ29 (by decide)).trans ((kp_c p28_0 (by decide)).trans rfl))))); have : (σ32.1 65 v1).toInt = ((σ24.1 65 v1) : Int32).toInt := congrArg Int32.toInt (show σ32.1 65 v1 = (σ24.1 65 v1) from ((kp_c p33_0 (by decide)).trans ((kp_i eσ30 (by decide)).trans ((kp_i eσ29 (by decide)).trans ((kp_c p28_0 (by decide)).trans rfl))))); have : (σ32.1 587 a0).toInt = (0 : Int32).toInt := congrArg Int32.toInt (show σ32.1 587 a0 = 0 from ((kp_c p33_0 (by decide)).trans ((kp_i eσ30 (by decide)).trans (kp_s eσ29)))); have : (σ32.1 588 a0).toInt = (0 : Int32).toInt := congrArg Int32.toInt (show σ32.1 588 a0 = 0 from ((kp_c p33_0 (by decide)).trans (kp_s eσ30))); have : (v5 : Int32).toInt = (0 : Int32).toInt := congrArg Int32.toInt c6; have : (v5 : Int32).toInt = (0 : Int32).toInt := congrArg Int32.toInt c34; have : (0 : Int32).toInt = 0 := (by decide); exact ⟨by omega, by omega⟩)
      have i40 : Iv (σ24.1 64 v1) 1 8 := (by have := (i19).1; have := (i19).2; have := (i39).1; have := (i39).2; have := (p33_1).1; have := (p33_1).2; have := (i3).1; have := (i3).2; have : (σ32.1 64 v1).toInt = ((σ24.1 64 v1) : Int32).toInt := congrArg Int32.toInt (show σ32.1 64 v1 = (σ24.1 64 v1) from ((kp_c p33_0 (by decide)).trans ((kp_i eσ30 (by decide)).trans ((kp_i eσ29 (by decide)).trans ((kp_c p28_0 (by decide)).trans rfl))))); have : (σ32.1 65 v1).toInt = ((σ24.1 65 v1) : Int32).toInt := congrArg Int32.toInt (show σ32.1 65 v1 = (σ24.1 65 v1) from ((kp_c p33_0 (by decide)).trans ((kp_i eσ30 (by decide)).trans ((kp_i eσ29 (by decide)).trans ((kp_c p28_0 (by decide)).trans rfl))))); have : (σ32.1 587 a0).toInt = (0 : Int32).toInt := congrArg Int32.toInt (show σ32.1 587 a0 = 0 from ((kp_c p33_0 (by decide)).trans ((kp_i eσ30 (by decide)).trans (kp_s eσ29)))); have : (σ32.1 588 a0).toInt = (0 : Int32).toInt := congrArg Int32.toInt (show σ32.1 588 a0 = 0 from ((kp_c p33_0 (by decide)).trans (kp_s eσ30))); have : (v5 : Int32).toInt = (0 : Int32).toInt := congrArg Int32.toInt c6; have : (v5 : Int32).toInt = (0 : Int32).toInt := congrArg Int32.toInt c34; have : (0 : Int32).toInt = 0 := (by decide); exact ⟨by omega, by omega⟩)
      refine lv_imul hx hb dX10_meadow_73 ?_
      refine lv_topi (fun v41 e41 => ?_)
      have i41 : Iv v41 1 64 := iv_mul e41 i40 i39 (by decide)
      refine lv_goto (tgt := 78) hx hb dX10_meadow_74 (by decide) ?_
      rw [← hQ]
      exact o_ri cx rx hw dX10_meadow_78 ⟨fr, (by intro b hb9; rw [show b = b576 from Option.some.inj (hb9.symm.trans ((kr_c fr (by decide)).symm.trans (((kr_c p33_0 (by decide)).trans ((kr_i eσ30).trans ((kr_i eσ29).trans ((kr_c p28_0 (by decide)).trans ((kr_c p25_0 (by decide)).trans ((kr_c p5_0 (by decide)).trans hF576)))))))))]; exact (kn_iv (rfl) (iv_w p33_1 (by decide)))), (by intro b hb9; rw [show b = b576 from Option.some.inj (hb9.symm.trans ((kr_c fr (by decide)).symm.trans (((kr_c p33_0 (by decide)).trans ((kr_i eσ30).trans ((kr_i eσ29).trans ((kr_c p28_0 (by decide)).trans ((kr_c p25_0 (by decide)).trans ((kr_c p5_0 (by decide)).trans hF576)))))))))]; exact (Or.inr ⟨((σ24.1 64 v1) : Int32).toInt, ((σ24.1 65 v1) : Int32).toInt, (by have := (i19).1; have := (i19).2; have := (i41).1; have := (i41).2; have := (i40).1; have := (i40).2; have := (i39).1; have := (i39).2; have := (p33_1).1; have := (p33_1).2; have := (i3).1; have := (i3).2; have : (σ32.1 64 v1).toInt = ((σ24.1 64 v1) : Int32).toInt := congrArg Int32.toInt (show σ32.1 64 v1 = (σ24.1 64 v1) from ((kp_c p33_0 (by decide)).trans ((kp_i eσ30 (by decide)).trans ((kp_i eσ29 (by decide)).trans ((kp_c p28_0 (by decide)).trans rfl))))); have : (σ32.1 65 v1).toInt = ((σ24.1 65 v1) : Int32).toInt := congrArg Int32.toInt (show σ32.1 65 v1 = (σ24.1 65 v1) from ((kp_c p33_0 (by decide)).trans ((kp_i eσ30 (by decide)).trans ((kp_i eσ29 (by decide)).trans ((kp_c p28_0 (by decide)).trans rfl))))); have : (σ32.1 587 a0).toInt = (0 : Int32).toInt := congrArg Int32.toInt (show σ32.1 587 a0 = 0 from ((kp_c p33_0 (by decide)).trans ((kp_i eσ30 (by decide)).trans (kp_s eσ29)))); have : (σ32.1 588 a0).toInt = (0 : Int32).toInt := congrArg Int32.toInt (show σ32.1 588 a0 = 0 from ((kp_c p33_0 (by decide)).trans (kp_s eσ30))); have : (v5 : Int32).toInt = (0 : Int32).toInt := congrArg Int32.toInt c6; have : (v5 : Int32).toInt = (0 : Int32).toInt := congrArg Int32.toInt c34; have : (0 : Int32).toInt = 0 := (by decide); omega), (by have := (i19).1; have := (i19).2; have := (i41).1; have := (i41).2; have := (i40).1; have := (i40).2; have := (i39).1; have := (i39).2; have := (p33_1).1; have := (p33_1).2; have := (i3).1; have := (i3).2; have : (σ32.1 64 v1).toInt = ((σ24.1 64 v1) : Int32).toInt := congrArg Int32.toInt (show σ32.1 64 v1 = (σ24.1 64 v1) from ((kp_c p33_0 (by decide)).trans ((kp_i eσ30 (by decide)).trans ((kp_i eσ29 (by decide)).trans ((kp_c p28_0 (by decide)).trans rfl))))); have : (σ32.1 65 v1).toInt = ((σ24.1 65 v1) : Int32).toInt := congrArg Int32.toInt (show σ32.1 65 v1 = (σ24.1 65 v1) from ((kp_c p33_0 (by decide)).trans ((kp_i eσ30 (by decide)).trans ((kp_i eσ29 (by decide)).trans ((kp_c p28_0 (by decide)).trans rfl))))); have : (σ32.1 587 a0).toInt = (0 : Int32).toInt := congrArg Int32.toInt (show σ32.1 587 a0 = 0 from ((kp_c p33_0 (by decide)).trans ((kp_i eσ30 (by decide)).trans (kp_s eσ29)))); have : (σ32.1 588 a0).toInt = (0 : Int32).toInt := congrArg Int32.toInt (show σ32.1 588 a0 = 0 from ((kp_c p33_0 (by decide)).trans (kp_s eσ30))); have : (v5 : Int32).toInt = (0 : Int32).toInt := congrArg Int32.toInt c6; have : (v5 : Int32).toInt = (0 : Int32).toInt := congrArg Int32.toInt c34; have : (0 : Int32).toInt = 0 := (by decide); omega), (by have := (i19).1; have := (i19).2; have := (i41).1; have := (i41).2; have := (i40).1; have := (i40).2; have := (i39).1; have := (i39).2; have := (p33_1).1; have := (p33_1).2; have := (i3).1; have := (i3).2; have : (σ32.1 64 v1).toInt = ((σ24.1 64 v1) : Int32).toInt := congrArg Int32.toInt (show σ32.1 64 v1 = (σ24.1 64 v1) from ((kp_c p33_0 (by decide)).trans ((kp_i eσ30 (by decide)).trans ((kp_i eσ29 (by decide)).trans ((kp_c p28_0 (by decide)).trans rfl))))); have : (σ32.1 65 v1).toInt = ((σ24.1 65 v1) : Int32).toInt := congrArg Int32.toInt (show σ32.1 65 v1 = (σ24.1 65 v1) from ((kp_c p33_0 (by decide)).trans ((kp_i eσ30 (by decide)).trans ((kp_i eσ29 (by decide)).trans ((kp_c p28_0 (by decide)).trans rfl))))); have : (σ32.1 587 a0).toInt = (0 : Int32).toInt := congrArg Int32.toInt (show σ32.1 587 a0 = 0 from ((kp_c p33_0 (by decide)).trans ((kp_i eσ30 (by decide)).trans (kp_s eσ29)))); have : (σ32.1 588 a0).toInt = (0 : Int32).toInt := congrArg Int32.toInt (show σ32.1 588 a0 = 0 from ((kp_c p33_0 (by decide)).trans (kp_s eσ30))); have : (v5 : Int32).toInt = (0 : Int32).toInt := congrArg Int32.toInt c6; have : (v5 : Int32).toInt = (0 : Int32).toInt := congrArg Int32.toInt c34; have : (0 : Int32).toInt = 0 := (by decide); omega), (by have := (i19).1; have := (i19).2; have := (i41).1; have := (i41).2; have := (i40).1; have := (i40).2; have := (i39).1; have := (i39).2; have := (p33_1).1; have := (p33_1).2; have := (i3).1; have := (i3).2; have : (σ32.1 64 v1).toInt = ((σ24.1 64 v1) : Int32).toInt := congrArg Int32.toInt (show σ32.1 64 v1 = (σ24.1 64 v1) from ((kp_c p33_0 (by decide)).trans ((kp_i eσ30 (by decide)).trans ((kp_i eσ29 (by decide)).trans ((kp_c p28_0 (by decide)).trans rfl))))); have : (σ32.1 65 v1).toInt = ((σ24.1 65 v1) : Int32).toInt := congrArg Int32.toInt (show σ32.1 65 v1 = (σ24.1 65 v1) from ((kp_c p33_0 (by decide)).trans ((kp_i eσ30 (by decide)).trans ((kp_i eσ29 (by decide)).trans ((kp_c p28_0 (by decide)).trans rfl))))); have : (σ32.1 587 a0).toInt = (0 : Int32).toInt := congrArg Int32.toInt (show σ32.1 587 a0 = 0 from ((kp_c p33_0 (by decide)).trans ((kp_i eσ30 (by decide)).trans (kp_s eσ29)))); have : (σ32.1 588 a0).toInt = (0 : Int32).toInt := congrArg Int32.toInt (show σ32.1 588 a0 = 0 from ((kp_c p33_0 (by decide)).trans (kp_s eσ30))); have : (v5 : Int32).toInt = (0 : Int32).toInt := congrArg Int32.toInt c6; have : (v5 : Int32).toInt = (0 : Int32).toInt := congrArg Int32.toInt c34; have : (0 : Int32).toInt = 0 := (by decide); omega), ex_mul e41 i40 i39 (by decide)⟩))⟩
abbrev fs_X10_herds : List Nat := [130, 327, 328, 329, 330, 331, 385, 386, 387, 587]
abbrev ts_X10_herds : List Nat := [32, 33, 34]
set_option maxHeartbeats 4000000 in
set_option maxRecDepth 100000 in
theorem c_X10_herds (a0 : Nat) (ha0 : oA L τ a0 9) : oMet l A L τ cy D K yX10_herds cX10_herds 2 (some .int) 6 133 [.ref a0] σ (va_Qi (fun r σ1 => oFr τ fs_X10_herds ts_X10_herds σ σ1 ∧ (∀ b, σ.2.2.2.2 576 a0 = some b → Iv (σ1.1 385 b) 0 0)) (oPo A L τ cy D) A) := by
  refine oMk (by decide) (Nat.le_of_ble_eq_true rfl) rfl ?_
  intro p e s m args below meth c ls cx rx hA hw hl
  generalize hQ : MQ below _ args s 0 0 A = Q
  have hx := cx.1.1
  have hb := cx.1.2.1
  have hml := cx.1.2.2.1
  have hown := cx.1.2.2.2.1
  have hts := cx.1.2.2.2.2
  have hl : lv_has ls 2 [(0, .ref a0)] := hl
  have fr : oFr τ fs_X10_herds ts_X10_herds σ σ := oFr_rf
  obtain ⟨b576, hF576, hb576⟩ := hw.2.2.2.2.2 576 a0 6 (by rw [ha0.2]; rfl) ha0.1
  refine lv_aload_n hx hb dX10_herds_0 rfl (lv_at hl 0 rfl) ?_
  refine o_ci hw (oRunV cx hA hw q_X10_readHerds k_m_X10_127 rfl ha0 (by decide) (As := []) (c_X10_readHerds a0 ha0) (by decide) rfl hl.1 rfl (Nat.le_of_ble_eq_true rfl) dX10_herds_1 (by decide)) (fun v2 σ1 H locs hp hw => ?_)
  have p2_0 := hp
  have fr := oFr_tr fr p2_0 (by decide)
  refine lv_istore_n (lv' := [(1, .int v2), (0, .ref a0)]) hx hb dX10_herds_4 rfl hl (by decide) rfl (fun ls hl => ?_)
  refine lv_iload_n hx hb dX10_herds_5 rfl (lv_at hl 0 rfl) ?_
  have frE_32 := fr
  have J_32 : ∀ (σ_32 : oSt) (H : Heap) (locs : List Loc), oI A L τ cy D s.heap σ_32 H locs → oFr τ fs_X10_herds ts_X10_herds σ σ_32 → ∀ (ls : Array Slot), lv_has ls 2 [(0, .ref a0), (1, .int v2)] → W p l e ({ frames := 6, cells := 0, slots := 0, locals := 133 } : Room) s m args below meth c H locs 0 0 Q (F0 m 32 ls []) := by
    intro  σ_32 H locs hw fr      ls hl
    have fr_32 := fr
    refine lv_aload_n hx hb dX10_herds_32 rfl (lv_at hl 0 rfl) ?_
    refine g_576 cx hw ha0 k_f_X10_10 dX10_herds_33 (fun v3 e3 h3 => ?_)
    rw [show v3 = b576 from Option.some.inj (e3.symm.trans (((kr_c fr_32 (by decide)).trans hF576)))]
    refine o_cv hw (oRunV cx hA hw q_X7_empty k_m_X10_93 rfl hb576 (by decide) (As := []) (c_X7_empty b576 hb576) (by decide) rfl hl.1 rfl (Nat.le_of_ble_eq_true rfl) dX10_herds_36 (by decide)) (fun σ4 H locs hp hw => ?_)
    obtain ⟨p5_0, p5_1⟩ := hp
    have fr := oFr_tr fr p5_0 (by decide)
    refine lv_iload_n hx hb dX10_herds_39 rfl (lv_at hl 1 rfl) ?_
    rw [← hQ]
    exact o_ri cx rx hw dX10_herds_40 ⟨fr, (by intro b hb9; rw [show b = b576 from Option.some.inj (hb9.symm.trans ((kr_c fr (by decide)).symm.trans (((kr_c p5_0 (by decide)).trans ((kr_c fr_32 (by decide)).trans hF576)))))]; exact (kn_iv (rfl) (iv_w p5_1 (by decide))))⟩
  refine lv_if_le (tgt := 32) hx hb dX10_herds_6 (by decide) (fun c6 => ?_) (fun c6 => ?_)
  · --
    have i7 : Iv v2 (-2147483648) 0 := iv_le1 c6 (iv_top v2) (⟨by decide, by decide⟩ : Iv 0 0 0) (by decide)
    exact J_32 σ1 _ _ hw fr _ (lv_sub hl [1, 0] rfl)
  · --
    have i8 : Iv v2 1 2147483647 := iv_lt2 (iv_nle c6) (⟨by decide, by decide⟩ : Iv 0 0 0) (iv_top v2) (by decide)
    refine lv_aload_n hx hb dX10_herds_9 rfl (lv_at hl 1 rfl) ?_
    refine g_581 cx hw ha0 k_f_X10_49 dX10_herds_10 (fun v9 e9 h9 => ?_)
    refine lv_aload_n hx hb dX10_herds_13 rfl (lv_at hl 1 rfl) ?_
    refine g_582 cx hw ha0 k_f_X10_53 dX10_herds_14 (fun v10 e10 h10 => ?_)
    refine o_cv hw (oRunV cx hA hw q_X6_copyFrom k_m_X10_131 rfl h9 (by decide) (As := [.ref v10]) (c_X6_copyFrom v9 h9 v10 h10) (by decide) rfl hl.1 rfl (Nat.le_of_ble_eq_true rfl) dX10_herds_17 (by decide)) (fun σ11 H locs hp hw => ?_)
    have p12_0 := hp
    have fr := oFr_tr fr p12_0 (by decide)
    refine lv_aload_n hx hb dX10_herds_20 rfl (lv_at hl 1 rfl) ?_
    refine g_585 cx hw ha0 k_f_X10_75 dX10_herds_21 (fun v13 e13 h13 => ?_)
    refine o_cv hw (oRunV cx hA hw q_X3_forget k_m_X10_111 rfl h13 (by decide) (As := []) (c_X3_forget v13 h13) (by decide) rfl hl.1 rfl (Nat.le_of_ble_eq_true rfl) dX10_herds_24 (by decide)) (fun σ14 H locs hp hw => ?_)
    have p15_0 := hp
    have fr := oFr_tr fr p15_0 (by decide)
    refine lv_aload_n hx hb dX10_herds_27 rfl (lv_at hl 1 rfl) ?_
    refine lv_iconst (v := 0) hx hb dX10_herds_28 (by decide) ?_
    refine p_587 cx hw ha0 k_f_X10_114 dX10_herds_29 (fun σ16 H locs eσ16 hw => ?_)
    have fr := oFr_i fr eσ16 (by decide)
    exact J_32 σ16 _ _ hw fr _ (lv_sub hl [1, 0] rfl)
abbrev fs_X10_rule : List Nat := [257, 259, 261, 263, 264, 265, 385, 386, 387]
abbrev ts_X10_rule : List Nat := [35, 37]
set_option maxHeartbeats 4000000 in
set_option maxRecDepth 100000 in
theorem c_X10_rule (a0 : Nat) (ha0 : oA L τ a0 9) : oMet l A L τ cy D K yX10_rule cX10_rule 2 (some .int) 7 174 [.ref a0] σ (va_Qi (fun r σ1 => oFr τ fs_X10_rule ts_X10_rule σ σ1 ∧ (∀ b, σ.2.2.2.2 576 a0 = some b → Iv (σ1.1 385 b) 0 0) ∧ (∀ b, σ.2.2.2.2 576 a0 = some b → ((σ.1 385 b).toInt = 0 ∧ r.toInt = 0) ∨ (0 < (σ.1 385 b).toInt ∧ r.toInt = raM (oRw σ 384 b) (σ.1 385 b).toInt))) (oPo A L τ cy D) A) := by
  refine oMk (by decide) (Nat.le_of_ble_eq_true rfl) rfl ?_
  intro p e s m args below meth c ls cx rx hA hw hl
  generalize hQ : MQ below _ args s 0 0 A = Q
  have hx := cx.1.1
  have hb := cx.1.2.1
  have hml := cx.1.2.2.1
  have hown := cx.1.2.2.2.1
  have hts := cx.1.2.2.2.2
  have hl : lv_has ls 2 [(0, .ref a0)] := hl
  have fr : oFr τ fs_X10_rule ts_X10_rule σ σ := oFr_rf
  obtain ⟨b576, hF576, hb576⟩ := hw.2.2.2.2.2 576 a0 6 (by rw [ha0.2]; rfl) ha0.1
  have iz385 : Iv (σ.1 385 b576) (0) 80 := o_fb (j := 385) hw hb576 rfl
  refine lv_aload_n hx hb dX10_rule_0 rfl (lv_at hl 0 rfl) ?_
  refine g_576 cx hw ha0 k_f_X10_10 dX10_rule_1 (fun v1 e1 h1 => ?_)
  rw [show v1 = b576 from Option.some.inj (e1.symm.trans (hF576))]
  refine g_385 cx hw hb576 k_f_X10_100 dX10_rule_4 (fun v2 e2 i2 => ?_)
  rw [show v2 = (σ.1 385 b576) from e2.trans rfl]
  refine lv_if_ne (tgt := 19) hx hb dX10_rule_7 (by decide) (fun c3 => ?_) (fun c3 => ?_)
  · --
    have i4 : Iv (σ.1 385 b576) 1 80 := iv_ne1 c3 iz385 (⟨by decide, by decide⟩ : Iv 0 0 0) (by decide)
    refine lv_aload_n hx hb dX10_rule_19 rfl (lv_at hl 0 rfl) ?_
    refine g_579 cx hw ha0 k_f_X10_33 dX10_rule_20 (fun v5 e5 h5 => ?_)
    refine lv_aload_n hx hb dX10_rule_23 rfl (lv_at hl 0 rfl) ?_
    refine g_576 cx hw ha0 k_f_X10_10 dX10_rule_24 (fun v6 e6 h6 => ?_)
    rw [show v6 = b576 from Option.some.inj (e6.symm.trans (hF576))]
    refine o_ci hw (oRunV cx hA hw q_X5_learn k_m_X10_89 rfl h5 (by decide) (As := [.ref b576]) (c_X5_learn v5 h5 b576 hb576) (by decide) rfl hl.1 rfl (Nat.le_of_ble_eq_true rfl) dX10_rule_27 (by decide)) (fun v8 σ7 H locs hp hw => ?_)
    obtain ⟨p8_0, p8_1⟩ := hp
    have fr := oFr_tr fr p8_0 (by decide)
    refine lv_istore_n (lv' := [(1, .int v8), (0, .ref a0)]) hx hb dX10_rule_30 rfl hl (by decide) rfl (fun ls hl => ?_)
    refine lv_aload_n hx hb dX10_rule_31 rfl (lv_at hl 1 rfl) ?_
    refine g_576 cx hw ha0 k_f_X10_10 dX10_rule_32 (fun v9 e9 h9 => ?_)
    rw [show v9 = b576 from Option.some.inj (e9.symm.trans (((kr_c p8_0 (by decide)).trans hF576)))]
    refine o_cv hw (oRunV cx hA hw q_X7_empty k_m_X10_93 rfl hb576 (by decide) (As := []) (c_X7_empty b576 hb576) (by decide) rfl hl.1 rfl (Nat.le_of_ble_eq_true rfl) dX10_rule_35 (by decide)) (fun σ10 H locs hp hw => ?_)
    obtain ⟨p11_0, p11_1⟩ := hp
    have fr := oFr_tr fr p11_0 (by decide)
    refine lv_iload_n hx hb dX10_rule_38 rfl (lv_at hl 0 rfl) ?_
    rw [← hQ]
    exact o_ri cx rx hw dX10_rule_39 ⟨fr, (by intro b hb9; rw [show b = b576 from Option.some.inj (hb9.symm.trans ((kr_c fr (by decide)).symm.trans (((kr_c p11_0 (by decide)).trans ((kr_c p8_0 (by decide)).trans hF576)))))]; exact (kn_iv (rfl) (iv_w p11_1 (by decide)))), (by intro b hb9; rw [show b = b576 from Option.some.inj (hb9.symm.trans ((kr_c fr (by decide)).symm.trans (((kr_c p11_0 (by decide)).trans ((kr_c p8_0 (by decide)).trans hF576)))))]; exact (Or.inr ⟨(by have := (p11_1).1; have := (p11_1).2; have := (i4).1; have := (i4).2; omega), p8_1⟩))⟩
  · --
    have i12 : Iv (σ.1 385 b576) 0 0 := iv_eq1 c3 iz385 (⟨by decide, by decide⟩ : Iv 0 0 0) (by decide)
    refine lv_aload_n hx hb dX10_rule_10 rfl (lv_at hl 0 rfl) ?_
    refine g_576 cx hw ha0 k_f_X10_10 dX10_rule_11 (fun v13 e13 h13 => ?_)
    rw [show v13 = b576 from Option.some.inj (e13.symm.trans (hF576))]
    refine va_ldcS hx hb hown cx.2.2.2.1.1 dX10_rule_14 ?_
    refine o_cv hw (oRunV cx hA hw q_X7_tell k_m_X10_85 rfl hb576 (by decide) (As := [.ref (K.1 0)]) (c_X7_tell b576 hb576) (by decide) rfl hl.1 rfl (Nat.le_of_ble_eq_true rfl) dX10_rule_16 (by decide)) (fun σ14 H locs hp hw => ?_)
    obtain ⟨p15_0, p15_1⟩ := hp
    have fr := oFr_tr fr p15_0 (by decide)
    have i16 : Iv (σ14.1 385 b576) 0 80 := o_fb (j := 385) hw hb576 rfl
    refine lv_aload_n hx hb dX10_rule_19 rfl (lv_at hl 0 rfl) ?_
    refine g_579 cx hw ha0 k_f_X10_33 dX10_rule_20 (fun v17 e17 h17 => ?_)
    refine lv_aload_n hx hb dX10_rule_23 rfl (lv_at hl 0 rfl) ?_
    refine g_576 cx hw ha0 k_f_X10_10 dX10_rule_24 (fun v18 e18 h18 => ?_)
    rw [show v18 = b576 from Option.some.inj (e18.symm.trans (((kr_c p15_0 (by decide)).trans hF576)))]
    refine o_ci hw (oRunV cx hA hw q_X5_learn k_m_X10_89 rfl h17 (by decide) (As := [.ref b576]) (c_X5_learn v17 h17 b576 hb576) (by decide) rfl hl.1 rfl (Nat.le_of_ble_eq_true rfl) dX10_rule_27 (by decide)) (fun v20 σ19 H locs hp hw => ?_)
    obtain ⟨p20_0, p20_1⟩ := hp
    have fr := oFr_tr fr p20_0 (by decide)
    refine lv_istore_n (lv' := [(1, .int v20), (0, .ref a0)]) hx hb dX10_rule_30 rfl hl (by decide) rfl (fun ls hl => ?_)
    refine lv_aload_n hx hb dX10_rule_31 rfl (lv_at hl 1 rfl) ?_
    refine g_576 cx hw ha0 k_f_X10_10 dX10_rule_32 (fun v21 e21 h21 => ?_)
    rw [show v21 = b576 from Option.some.inj (e21.symm.trans (((kr_c p20_0 (by decide)).trans ((kr_c p15_0 (by decide)).trans hF576))))]
    refine o_cv hw (oRunV cx hA hw q_X7_empty k_m_X10_93 rfl hb576 (by decide) (As := []) (c_X7_empty b576 hb576) (by decide) rfl hl.1 rfl (Nat.le_of_ble_eq_true rfl) dX10_rule_35 (by decide)) (fun σ22 H locs hp hw => ?_)
    obtain ⟨p23_0, p23_1⟩ := hp
    have fr := oFr_tr fr p23_0 (by decide)
    refine lv_iload_n hx hb dX10_rule_38 rfl (lv_at hl 0 rfl) ?_
    rw [← hQ]
    exact o_ri cx rx hw dX10_rule_39 ⟨fr, (by intro b hb9; rw [show b = b576 from Option.some.inj (hb9.symm.trans ((kr_c fr (by decide)).symm.trans (((kr_c p23_0 (by decide)).trans ((kr_c p20_0 (by decide)).trans ((kr_c p15_0 (by decide)).trans hF576))))))]; exact (kn_iv (rfl) (iv_w p23_1 (by decide)))), (by intro b hb9; rw [show b = b576 from Option.some.inj (hb9.symm.trans ((kr_c fr (by decide)).symm.trans (((kr_c p23_0 (by decide)).trans ((kr_c p20_0 (by decide)).trans ((kr_c p15_0 (by decide)).trans hF576))))))]; exact (Or.inl ⟨(by have := (p23_1).1; have := (p23_1).2; have := (i12).1; have := (i12).2; have := (i16).1; have := (i16).2; have : ((σ.1 385 b576) : Int32).toInt = (0 : Int32).toInt := congrArg Int32.toInt c3; have : (0 : Int32).toInt = 0 := (by decide); omega), by rw [p20_1, p15_1.1, ra_plain p15_1.2]⟩))⟩
abbrev fs_X10_set : List Nat := [514, 515]
abbrev ts_X10_set : List Nat := []
set_option maxHeartbeats 4000000 in
set_option maxRecDepth 100000 in
theorem c_X10_set (a0 : Nat) (ha0 : oA L τ a0 9) (a1 : Int32) (a2 : Int32) : oMet l A L τ cy D K yX10_set cX10_set 4 (some .int) 0 0 [.ref a0, .int a1, .int a2] σ (va_Qi (fun r σ1 => oFr τ fs_X10_set ts_X10_set σ σ1 ∧ (∀ b, σ.2.2.2.2 580 a0 = some b → (a1.toInt = 0 ∧ 0 ≤ a2.toInt ∧ a2.toInt ≤ 99 ∧ r.toInt = (σ.1 514 b).toInt ∧ (σ1.1 514 b).toInt = a2.toInt ∧ (σ1.1 515 b).toInt = (σ.1 515 b).toInt) ∨ (a1.toInt = 1 ∧ 1 ≤ a2.toInt ∧ a2.toInt ≤ 99 ∧ r.toInt = (σ.1 515 b).toInt ∧ (σ1.1 515 b).toInt = a2.toInt ∧ (σ1.1 514 b).toInt = (σ.1 514 b).toInt) ∨ (¬ (a1.toInt = 0 ∧ 0 ≤ a2.toInt ∧ a2.toInt ≤ 99) ∧ ¬ (a1.toInt = 1 ∧ 1 ≤ a2.toInt ∧ a2.toInt ≤ 99) ∧ r.toInt = -1 ∧ (σ1.1 514 b).toInt = (σ.1 514 b).toInt ∧ (σ1.1 515 b).toInt = (σ.1 515 b).toInt))) (oPo A L τ cy D) A) := by
  refine oMk (by decide) (Nat.le_of_ble_eq_true rfl) rfl ?_
  intro p e s m args below meth c ls cx rx hA hw hl
  generalize hQ : MQ below _ args s 0 0 A = Q
  have hx := cx.1.1
  have hb := cx.1.2.1
  have hml := cx.1.2.2.1
  have hown := cx.1.2.2.2.1
  have hts := cx.1.2.2.2.2
  have hl : lv_has ls 4 [(0, .ref a0), (1, .int a1), (2, .int a2)] := hl
  have fr : oFr τ fs_X10_set ts_X10_set σ σ := oFr_rf
  obtain ⟨b580, hF580, hb580⟩ := hw.2.2.2.2.2 580 a0 8 (by rw [ha0.2]; rfl) ha0.1
  refine lv_iconst (v := (-1)) hx hb dX10_set_0 (by decide) ?_
  refine lv_istore_n (lv' := [(3, .int (-1)), (0, .ref a0), (1, .int a1), (2, .int a2)]) hx hb dX10_set_1 rfl hl (by decide) rfl (fun ls hl => ?_)
  refine lv_iload_n hx hb dX10_set_2 rfl (lv_at hl 2 rfl) ?_
  refine lv_if_ne (tgt := 35) hx hb dX10_set_3 (by decide) (fun c1 => ?_) (fun c1 => ?_)
  · --
    refine lv_iload_n hx hb dX10_set_35 rfl (lv_at hl 2 rfl) ?_
    refine lv_iconst (v := 1) hx hb dX10_set_36 (by decide) ?_
    refine lv_icmp_ne (tgt := 67) hx hb dX10_set_37 (by decide) (fun c2 => ?_) (fun c2 => ?_)
    · --
      refine lv_iload_n hx hb dX10_set_67 rfl (lv_at hl 0 rfl) ?_
      rw [← hQ]
      exact o_ri cx rx hw dX10_set_68 ⟨fr, (by intro b hb9; rw [show b = b580 from Option.some.inj (hb9.symm.trans ((kr_c fr (by decide)).symm.trans (hF580)))]; exact (by have : (a1 : Int32).toInt ≠ (0 : Int32).toInt := fun q => c1 (Int32.toInt_inj.mp q); have : (a1 : Int32).toInt ≠ (1 : Int32).toInt := fun q => c2 (Int32.toInt_inj.mp q); have : ((-1) : Int32).toInt = (-1) := (by decide); have : (0 : Int32).toInt = 0 := (by decide); have : (1 : Int32).toInt = 1 := (by decide); omega))⟩
    · --
      have i3 : Iv a1 1 1 := iv_eq1 c2 (iv_top a1) (⟨by decide, by decide⟩ : Iv 1 1 1) (by decide)
      refine lv_iload_n hx hb dX10_set_40 rfl (lv_at hl 3 rfl) ?_
      refine lv_iconst (v := 1) hx hb dX10_set_41 (by decide) ?_
      refine lv_icmp_lt (tgt := 67) hx hb dX10_set_42 (by decide) (fun c4 => ?_) (fun c4 => ?_)
      · --
        have i5 : Iv a2 (-2147483648) 0 := iv_lt1 c4 (iv_top a2) (⟨by decide, by decide⟩ : Iv 1 1 1) (by decide)
        refine lv_iload_n hx hb dX10_set_67 rfl (lv_at hl 0 rfl) ?_
        rw [← hQ]
        exact o_ri cx rx hw dX10_set_68 ⟨fr, (by intro b hb9; rw [show b = b580 from Option.some.inj (hb9.symm.trans ((kr_c fr (by decide)).symm.trans (hF580)))]; exact (by have := (i3).1; have := (i3).2; have := (i5).1; have := (i5).2; have : (a1 : Int32).toInt ≠ (0 : Int32).toInt := fun q => c1 (Int32.toInt_inj.mp q); have : (a1 : Int32).toInt = (1 : Int32).toInt := congrArg Int32.toInt c2; have : (a2 : Int32).toInt < (1 : Int32).toInt := iv_lt.mp c4; have : ((-1) : Int32).toInt = (-1) := (by decide); have : (0 : Int32).toInt = 0 := (by decide); have : (1 : Int32).toInt = 1 := (by decide); omega))⟩
      · --
        have i6 : Iv a2 1 2147483647 := iv_le2 (iv_nlt c4) (⟨by decide, by decide⟩ : Iv 1 1 1) (iv_top a2) (by decide)
        refine lv_iload_n hx hb dX10_set_45 rfl (lv_at hl 3 rfl) ?_
        refine lv_bipush (v := 99) hx hb dX10_set_46 (by decide) ?_
        refine lv_icmp_gt (tgt := 67) hx hb dX10_set_48 (by decide) (fun c7 => ?_) (fun c7 => ?_)
        · --
          have i8 : Iv a2 100 2147483647 := iv_lt2 c7 (⟨by decide, by decide⟩ : Iv 99 99 99) i6 (by decide)
          refine lv_iload_n hx hb dX10_set_67 rfl (lv_at hl 0 rfl) ?_
          rw [← hQ]
          exact o_ri cx rx hw dX10_set_68 ⟨fr, (by intro b hb9; rw [show b = b580 from Option.some.inj (hb9.symm.trans ((kr_c fr (by decide)).symm.trans (hF580)))]; exact (by have := (i3).1; have := (i3).2; have := (i8).1; have := (i8).2; have : (a1 : Int32).toInt ≠ (0 : Int32).toInt := fun q => c1 (Int32.toInt_inj.mp q); have : (a1 : Int32).toInt = (1 : Int32).toInt := congrArg Int32.toInt c2; have : (1 : Int32).toInt ≤ (a2 : Int32).toInt := iv_le.mp (iv_nlt c4); have : (99 : Int32).toInt < (a2 : Int32).toInt := iv_lt.mp c7; have : ((-1) : Int32).toInt = (-1) := (by decide); have : (0 : Int32).toInt = 0 := (by decide); have : (1 : Int32).toInt = 1 := (by decide); have : (99 : Int32).toInt = 99 := (by decide); omega))⟩
        · --
          have i9 : Iv a2 1 99 := iv_le1 (iv_nlt c7) i6 (⟨by decide, by decide⟩ : Iv 99 99 99) (by decide)
          refine lv_aload_n hx hb dX10_set_51 rfl (lv_at hl 1 rfl) ?_
          refine g_580 cx hw ha0 k_f_X10_42 dX10_set_52 (fun v10 e10 h10 => ?_)
          rw [show v10 = b580 from Option.some.inj (e10.symm.trans (hF580))]
          refine g_515 cx hw hb580 k_f_X10_203 dX10_set_55 (fun v11 e11 => ?_)
          rw [show v11 = (σ.1 515 b580) from e11.trans rfl]
          refine lv_istore_n (lv' := [(3, .int (σ.1 515 b580)), (0, .ref a0), (1, .int a1), (2, .int a2)]) hx hb dX10_set_58 rfl hl (by decide) rfl (fun ls hl => ?_)
          refine lv_aload_n hx hb dX10_set_59 rfl (lv_at hl 1 rfl) ?_
          refine g_580 cx hw ha0 k_f_X10_42 dX10_set_60 (fun v12 e12 h12 => ?_)
          rw [show v12 = b580 from Option.some.inj (e12.symm.trans (hF580))]
          refine lv_iload_n hx hb dX10_set_63 rfl (lv_at hl 3 rfl) ?_
          refine p_515 cx hw hb580 k_f_X10_203 dX10_set_64 (fun σ13 H locs eσ13 hw => ?_)
          have fr := oFr_i fr eσ13 (by decide)
          refine lv_iload_n hx hb dX10_set_67 rfl (lv_at hl 0 rfl) ?_
          rw [← hQ]
          exact o_ri cx rx hw dX10_set_68 ⟨fr, (by intro b hb9; rw [show b = b580 from Option.some.inj (hb9.symm.trans ((kr_c fr (by decide)).symm.trans (((kr_i eσ13).trans hF580))))]; exact (by have := (i3).1; have := (i3).2; have := (i9).1; have := (i9).2; have : (σ13.1 514 b580).toInt = ((σ.1 514 b580) : Int32).toInt := congrArg Int32.toInt (show σ13.1 514 b580 = (σ.1 514 b580) from ((kp_i eσ13 (by decide)).trans rfl)); have : (σ13.1 515 b580).toInt = (a2 : Int32).toInt := congrArg Int32.toInt (show σ13.1 515 b580 = a2 from (kp_s eσ13)); have : (a1 : Int32).toInt ≠ (0 : Int32).toInt := fun q => c1 (Int32.toInt_inj.mp q); have : (a1 : Int32).toInt = (1 : Int32).toInt := congrArg Int32.toInt c2; have : (1 : Int32).toInt ≤ (a2 : Int32).toInt := iv_le.mp (iv_nlt c4); have : (a2 : Int32).toInt ≤ (99 : Int32).toInt := iv_le.mp (iv_nlt c7); have : (0 : Int32).toInt = 0 := (by decide); have : (1 : Int32).toInt = 1 := (by decide); have : (99 : Int32).toInt = 99 := (by decide); omega))⟩
  · --
    have i14 : Iv a1 0 0 := iv_eq1 c1 (iv_top a1) (⟨by decide, by decide⟩ : Iv 0 0 0) (by decide)
    refine lv_iload_n hx hb dX10_set_6 rfl (lv_at hl 3 rfl) ?_
    refine lv_if_lt (tgt := 35) hx hb dX10_set_7 (by decide) (fun c15 => ?_) (fun c15 => ?_)
    · --
      have i16 : Iv a2 (-2147483648) (-1) := iv_lt1 c15 (iv_top a2) (⟨by decide, by decide⟩ : Iv 0 0 0) (by decide)
      refine lv_iload_n hx hb dX10_set_35 rfl (lv_at hl 2 rfl) ?_
      refine lv_iconst (v := 1) hx hb dX10_set_36 (by decide) ?_
      refine lv_icmp_ne (tgt := 67) hx hb dX10_set_37 (by decide) (fun c17 => ?_) (fun c17 => ?_)
      · --
        refine lv_iload_n hx hb dX10_set_67 rfl (lv_at hl 0 rfl) ?_
        rw [← hQ]
        exact o_ri cx rx hw dX10_set_68 ⟨fr, (by intro b hb9; rw [show b = b580 from Option.some.inj (hb9.symm.trans ((kr_c fr (by decide)).symm.trans (hF580)))]; exact (by have := (i14).1; have := (i14).2; have := (i16).1; have := (i16).2; have : (a1 : Int32).toInt = (0 : Int32).toInt := congrArg Int32.toInt c1; have : (a2 : Int32).toInt < (0 : Int32).toInt := iv_lt.mp c15; have : ((-1) : Int32).toInt = (-1) := (by decide); have : (0 : Int32).toInt = 0 := (by decide); omega))⟩
      · --
        exact iv_no (iv_eq1 (lo := 1) (hi := 0) c17 i14 (⟨by decide, by decide⟩ : Iv 1 1 1) (by decide)) (by decide)
    · --
      have i18 : Iv a2 0 2147483647 := iv_le2 (iv_nlt c15) (⟨by decide, by decide⟩ : Iv 0 0 0) (iv_top a2) (by decide)
      refine lv_iload_n hx hb dX10_set_10 rfl (lv_at hl 3 rfl) ?_
      refine lv_bipush (v := 99) hx hb dX10_set_11 (by decide) ?_
      refine lv_icmp_gt (tgt := 35) hx hb dX10_set_13 (by decide) (fun c19 => ?_) (fun c19 => ?_)
      · --
        have i20 : Iv a2 100 2147483647 := iv_lt2 c19 (⟨by decide, by decide⟩ : Iv 99 99 99) i18 (by decide)
        refine lv_iload_n hx hb dX10_set_35 rfl (lv_at hl 2 rfl) ?_
        refine lv_iconst (v := 1) hx hb dX10_set_36 (by decide) ?_
        refine lv_icmp_ne (tgt := 67) hx hb dX10_set_37 (by decide) (fun c21 => ?_) (fun c21 => ?_)
        · --
          refine lv_iload_n hx hb dX10_set_67 rfl (lv_at hl 0 rfl) ?_
          rw [← hQ]
          exact o_ri cx rx hw dX10_set_68 ⟨fr, (by intro b hb9; rw [show b = b580 from Option.some.inj (hb9.symm.trans ((kr_c fr (by decide)).symm.trans (hF580)))]; exact (by have := (i14).1; have := (i14).2; have := (i20).1; have := (i20).2; have : (a1 : Int32).toInt = (0 : Int32).toInt := congrArg Int32.toInt c1; have : (0 : Int32).toInt ≤ (a2 : Int32).toInt := iv_le.mp (iv_nlt c15); have : (99 : Int32).toInt < (a2 : Int32).toInt := iv_lt.mp c19; have : ((-1) : Int32).toInt = (-1) := (by decide); have : (0 : Int32).toInt = 0 := (by decide); have : (99 : Int32).toInt = 99 := (by decide); omega))⟩
        · --
          exact iv_no (iv_eq1 (lo := 1) (hi := 0) c21 i14 (⟨by decide, by decide⟩ : Iv 1 1 1) (by decide)) (by decide)
      · --
        have i22 : Iv a2 0 99 := iv_le1 (iv_nlt c19) i18 (⟨by decide, by decide⟩ : Iv 99 99 99) (by decide)
        refine lv_aload_n hx hb dX10_set_16 rfl (lv_at hl 1 rfl) ?_
        refine g_580 cx hw ha0 k_f_X10_42 dX10_set_17 (fun v23 e23 h23 => ?_)
        rw [show v23 = b580 from Option.some.inj (e23.symm.trans (hF580))]
        refine g_514 cx hw hb580 k_f_X10_167 dX10_set_20 (fun v24 e24 => ?_)
        rw [show v24 = (σ.1 514 b580) from e24.trans rfl]
        refine lv_istore_n (lv' := [(3, .int (σ.1 514 b580)), (0, .ref a0), (1, .int a1), (2, .int a2)]) hx hb dX10_set_23 rfl hl (by decide) rfl (fun ls hl => ?_)
        refine lv_aload_n hx hb dX10_set_24 rfl (lv_at hl 1 rfl) ?_
        refine g_580 cx hw ha0 k_f_X10_42 dX10_set_25 (fun v25 e25 h25 => ?_)
        rw [show v25 = b580 from Option.some.inj (e25.symm.trans (hF580))]
        refine lv_iload_n hx hb dX10_set_28 rfl (lv_at hl 3 rfl) ?_
        refine p_514 cx hw hb580 k_f_X10_167 dX10_set_29 (fun σ26 H locs eσ26 hw => ?_)
        have fr := oFr_i fr eσ26 (by decide)
        refine lv_goto (tgt := 67) hx hb dX10_set_32 (by decide) ?_
        refine lv_iload_n hx hb dX10_set_67 rfl (lv_at hl 0 rfl) ?_
        rw [← hQ]
        exact o_ri cx rx hw dX10_set_68 ⟨fr, (by intro b hb9; rw [show b = b580 from Option.some.inj (hb9.symm.trans ((kr_c fr (by decide)).symm.trans (((kr_i eσ26).trans hF580))))]; exact (by have := (i14).1; have := (i14).2; have := (i22).1; have := (i22).2; have : (σ26.1 515 b580).toInt = ((σ.1 515 b580) : Int32).toInt := congrArg Int32.toInt (show σ26.1 515 b580 = (σ.1 515 b580) from ((kp_i eσ26 (by decide)).trans rfl)); have : (σ26.1 514 b580).toInt = (a2 : Int32).toInt := congrArg Int32.toInt (show σ26.1 514 b580 = a2 from (kp_s eσ26)); have : (a1 : Int32).toInt = (0 : Int32).toInt := congrArg Int32.toInt c1; have : (0 : Int32).toInt ≤ (a2 : Int32).toInt := iv_le.mp (iv_nlt c15); have : (a2 : Int32).toInt ≤ (99 : Int32).toInt := iv_le.mp (iv_nlt c19); have : (0 : Int32).toInt = 0 := (by decide); have : (99 : Int32).toInt = 99 := (by decide); omega))⟩
abbrev fs_X10_sheet : List Nat := []
abbrev ts_X10_sheet : List Nat := [34]
set_option maxHeartbeats 4000000 in
set_option maxRecDepth 100000 in
theorem c_X10_sheet (a0 : Nat) (ha0 : oA L τ a0 9) (a1 : Int32) (a2 : Int32) (a3 : Int32) (a4 : Int32) : oMet l A L τ cy D K yX10_sheet cX10_sheet 8 (some .int) 2 62 [.ref a0, .int a1, .int a2, .int a3, .int a4] σ (va_Qi (fun r σ1 => oFr τ fs_X10_sheet ts_X10_sheet σ σ1) (oPo A L τ cy D) A) := by
  refine oMk (by decide) (Nat.le_of_ble_eq_true rfl) rfl ?_
  intro p e s m args below meth c ls cx rx hA hw hl
  generalize hQ : MQ below _ args s 0 0 A = Q
  have hx := cx.1.1
  have hb := cx.1.2.1
  have hml := cx.1.2.2.1
  have hown := cx.1.2.2.2.1
  have hts := cx.1.2.2.2.2
  have hl : lv_has ls 8 [(0, .ref a0), (1, .int a1), (2, .int a2), (3, .int a3), (4, .int a4)] := hl
  have fr : oFr τ fs_X10_sheet ts_X10_sheet σ σ := oFr_rf
  refine lv_iload_n hx hb dX10_sheet_0 rfl (lv_at hl 1 rfl) ?_
  refine lv_if_lt (tgt := 15) hx hb dX10_sheet_1 (by decide) (fun c1 => ?_) (fun c1 => ?_)
  · --
    have i2 : Iv a1 (-2147483648) (-1) := iv_lt1 c1 (iv_top a1) (⟨by decide, by decide⟩ : Iv 0 0 0) (by decide)
    refine lv_iconst (v := (-1)) hx hb dX10_sheet_15 (by decide) ?_
    rw [← hQ]
    exact o_ri cx rx hw dX10_sheet_16 fr
  · --
    have i3 : Iv a1 0 2147483647 := iv_le2 (iv_nlt c1) (⟨by decide, by decide⟩ : Iv 0 0 0) (iv_top a1) (by decide)
    refine lv_iload_n hx hb dX10_sheet_4 rfl (lv_at hl 1 rfl) ?_
    refine lv_iconst (v := 3) hx hb dX10_sheet_5 (by decide) ?_
    refine lv_icmp_gt (tgt := 15) hx hb dX10_sheet_6 (by decide) (fun c4 => ?_) (fun c4 => ?_)
    · --
      have i5 : Iv a1 4 2147483647 := iv_lt2 c4 (⟨by decide, by decide⟩ : Iv 3 3 3) i3 (by decide)
      refine lv_iconst (v := (-1)) hx hb dX10_sheet_15 (by decide) ?_
      rw [← hQ]
      exact o_ri cx rx hw dX10_sheet_16 fr
    · --
      have i6 : Iv a1 0 3 := iv_le1 (iv_nlt c4) i3 (⟨by decide, by decide⟩ : Iv 3 3 3) (by decide)
      refine lv_iload_n hx hb dX10_sheet_9 rfl (lv_at hl 2 rfl) ?_
      refine lv_bipush (v := 6) hx hb dX10_sheet_10 (by decide) ?_
      refine lv_icmp_le (tgt := 17) hx hb dX10_sheet_12 (by decide) (fun c7 => ?_) (fun c7 => ?_)
      · --
        have i8 : Iv a2 (-2147483648) 6 := iv_le1 c7 (iv_top a2) (⟨by decide, by decide⟩ : Iv 6 6 6) (by decide)
        refine lv_iload_n hx hb dX10_sheet_17 rfl (lv_at hl 1 rfl) ?_
        refine lv_iconst (v := 3) hx hb dX10_sheet_18 (by decide) ?_
        have J_29 : ∀ (H : Heap) (locs : List Loc), oI A L τ cy D s.heap σ H locs → ∀ (ls : Array Slot), lv_has ls 8 [(0, .ref a0), (1, .int a1), (2, .int a2), (3, .int a3), (4, .int a4)] → W p l e ({ frames := 2, cells := 0, slots := 0, locals := 62 } : Room) s m args below meth c H locs 0 0 Q (F0 m 29 ls []) := by
          intro  H locs hw     ls hl
          refine lv_iconst (v := 0) hx hb dX10_sheet_29 (by decide) ?_
          refine lv_istore (lv' := [(5, .int 0), (0, .ref a0), (1, .int a1), (2, .int a2), (3, .int a3), (4, .int a4)]) hx hb dX10_sheet_30 hl (by decide) rfl (fun ls hl => ?_)
          refine lv_iconst (v := 0) hx hb dX10_sheet_32 (by decide) ?_
          refine lv_istore (lv' := [(6, .int 0), (5, .int 0), (0, .ref a0), (1, .int a1), (2, .int a2), (3, .int a3), (4, .int a4)]) hx hb dX10_sheet_33 hl (by decide) rfl (fun ls hl => ?_)
          have frE_35 := fr
          have J_35 : ∀ n35 : Nat, ∀ (j35_5 : Int32) (j35_6 : Int32) (ij35_6 : Iv j35_6 0 6), ∀ (σ_35 : oSt) (H : Heap) (locs : List Loc), oI A L τ cy D s.heap σ_35 H locs → oFr τ fs_X10_sheet ts_X10_sheet σ σ_35 → (6 - j35_6.toInt).toNat < n35 → ∀ (ls : Array Slot), lv_has ls 8 [(0, .ref a0), (1, .int a1), (2, .int a2), (3, .int a3), (4, .int a4), (5, .int j35_5), (6, .int j35_6)] → W p l e ({ frames := 2, cells := 0, slots := 0, locals := 62 } : Room) s m args below meth c H locs 0 0 Q (F0 m 35 ls []) := by
            intro n35
            induction n35 with
            | zero => intro j35_5 j35_6 ij35_6 σ_35 H locs hw fr   hn_35   ls hl; exact absurd hn_35 (Nat.not_lt_zero _)
            | succ n35 ih_35 =>
              intro j35_5 j35_6 ij35_6 σ_35 H locs hw fr   hn_35   ls hl
              have fr_35 := fr
              refine lv_iload hx hb dX10_sheet_35 (lv_at hl 6 rfl) ?_
              refine lv_aload_n hx hb dX10_sheet_37 rfl (lv_at hl 0 rfl) ?_
              refine g_581 cx hw ha0 k_f_X10_49 dX10_sheet_38 (fun v9 e9 h9 => ?_)
              refine g_327 cx hw h9 k_f_X10_206 dX10_sheet_41 (fun v10 e10 i10 => ?_)
              refine lv_icmp_ge (tgt := 116) hx hb dX10_sheet_44 (by decide) (fun c11 => ?_) (fun c11 => ?_)
              · --
                refine lv_iload_n hx hb dX10_sheet_116 rfl (lv_at hl 1 rfl) ?_
                refine lv_iconst (v := 3) hx hb dX10_sheet_117 (by decide) ?_
                refine lv_icmp_ne (tgt := 126) hx hb dX10_sheet_118 (by decide) (fun c12 => ?_) (fun c12 => ?_)
                · --
                  have i13 : Iv a1 0 2 := iv_ne2 c12 i6 (⟨by decide, by decide⟩ : Iv 3 3 3) (by decide)
                  refine lv_iload hx hb dX10_sheet_126 (lv_at hl 5 rfl) ?_
                  rw [← hQ]
                  exact o_ri cx rx hw dX10_sheet_128 fr
                · --
                  have i14 : Iv a1 3 3 := iv_eq1 c12 i6 (⟨by decide, by decide⟩ : Iv 3 3 3) (by decide)
                  refine lv_bipush (v := (-3)) hx hb dX10_sheet_121 (by decide) ?_
                  refine lv_goto (tgt := 128) hx hb dX10_sheet_123 (by decide) ?_
                  rw [← hQ]
                  exact o_ri cx rx hw dX10_sheet_128 fr
              · --
                have i15 : Iv j35_6 0 5 := iv_lt1 (iv_nle c11) ij35_6 i10 (by decide)
                have i16 : Iv v10 1 6 := iv_lt2 (iv_nle c11) ij35_6 i10 (by decide)
                refine lv_iload_n hx hb dX10_sheet_47 rfl (lv_at hl 1 rfl) ?_
                refine lv_iconst (v := 3) hx hb dX10_sheet_48 (by decide) ?_
                have J_63 : ∀ (k63_0 : Int32) (ik63_0 : Iv k63_0 0 1), ∀ (H : Heap) (locs : List Loc), oI A L τ cy D s.heap σ_35 H locs → ∀ (ls : Array Slot), lv_has ls 8 [(0, .ref a0), (1, .int a1), (2, .int a2), (3, .int a3), (4, .int a4), (5, .int j35_5), (6, .int j35_6)] → W p l e ({ frames := 2, cells := 0, slots := 0, locals := 62 } : Room) s m args below meth c H locs 0 0 Q (F0 m 63 ls [.int k63_0]) := by
                  intro k63_0 ik63_0 H locs hw     ls hl
                  refine lv_istore (lv' := [(7, .int k63_0), (0, .ref a0), (1, .int a1), (2, .int a2), (3, .int a3), (4, .int a4), (5, .int j35_5), (6, .int j35_6)]) hx hb dX10_sheet_63 hl (by decide) rfl (fun ls hl => ?_)
                  refine lv_aload_n hx hb dX10_sheet_65 rfl (lv_at hl 1 rfl) ?_
                  refine g_581 cx hw ha0 k_f_X10_49 dX10_sheet_66 (fun v17 e17 h17 => ?_)
                  rw [show v17 = v9 from Option.some.inj (e17.symm.trans (e9))]
                  refine g_326 cx hw h9 k_f_X10_186 dX10_sheet_69 (fun v18 e18 h18 => ?_)
                  refine lv_iload hx hb dX10_sheet_72 (lv_at hl 7 rfl) ?_
                  refine lv_iload hx hb dX10_sheet_74 (lv_at hl 0 rfl) ?_
                  have J_94 : ∀ (k94_2 : Int32) (ik94_2 : Iv k94_2 0 9), ∀ (H : Heap) (locs : List Loc), oI A L τ cy D s.heap σ_35 H locs → ∀ (ls : Array Slot), lv_has ls 8 [(0, .ref a0), (1, .int a1), (2, .int a2), (3, .int a3), (4, .int a4), (5, .int j35_5), (6, .int j35_6), (7, .int k63_0)] → W p l e ({ frames := 2, cells := 0, slots := 0, locals := 62 } : Room) s m args below meth c H locs 0 0 Q (F0 m 94 ls [.int k94_2, .int j35_6, .ref v18]) := by
                    intro k94_2 ik94_2 H locs hw     ls hl
                    refine o_iast cx hw h18 (by decide) rfl (iv_in i15 (by decide)) trivial dX10_sheet_94 (fun σ19 H locs eσ19 hw => ?_)
                    have fr := oFr_p fr eσ19 h18 (by decide)
                    refine lv_iload hx hb dX10_sheet_95 (lv_at hl 5 rfl) ?_
                    refine lv_aload_n hx hb dX10_sheet_97 rfl (lv_at hl 0 rfl) ?_
                    refine g_581 cx hw ha0 k_f_X10_49 dX10_sheet_98 (fun v20 e20 h20 => ?_)
                    rw [show v20 = v9 from Option.some.inj (e20.symm.trans (((kr_p eσ19).trans e9)))]
                    refine g_326 cx hw h9 k_f_X10_186 dX10_sheet_101 (fun v21 e21 h21 => ?_)
                    rw [show v21 = v18 from Option.some.inj (e21.symm.trans (((kr_p eσ19).trans e18)))]
                    refine lv_iload hx hb dX10_sheet_104 (lv_at hl 6 rfl) ?_
                    refine o_iald cx hw h18 (by decide) rfl (iv_in i15 (by decide)) dX10_sheet_106 (fun v22 e22 b22 => ?_)
                    refine lv_iadd hx hb dX10_sheet_107 ?_
                    refine lv_topi (fun v23 e23 => ?_)
                    refine lv_istore (lv' := [(5, .int v23), (0, .ref a0), (1, .int a1), (2, .int a2), (3, .int a3), (4, .int a4), (6, .int j35_6), (7, .int k63_0)]) hx hb dX10_sheet_108 hl (by decide) rfl (fun ls hl => ?_)
                    obtain ⟨v24, e24⟩ : ∃ y : Int32, y = j35_6 + 1 := ⟨_, rfl⟩
                    have i24 : Iv v24 1 6 := iv_add e24 i15 (⟨by decide, by decide⟩ : Iv 1 1 1) (by decide)
                    have x24 : v24.toInt = j35_6.toInt + 1 := ex_add e24 i15 (⟨by decide, by decide⟩ : Iv 1 1 1) (by decide)
                    refine lv_iinc (v := v24) (lv' := [(6, .int v24), (5, .int v23), (0, .ref a0), (1, .int a1), (2, .int a2), (3, .int a3), (4, .int a4), (7, .int k63_0)]) hx hb dX10_sheet_110 hl (k := 6) rfl (by rw [e24]; rfl) (by decide) rfl (fun ls hl => ?_)
                    refine lv_goto (tgt := 35) hx hb dX10_sheet_113 (by decide) ?_
                    exact ih_35 v23 v24 (iv_w i24 (by decide)) σ19 _ _ hw fr (ms_up x24 (by decide) (iv_w (a' := 0) (b' := 6) i24 (by decide)).2 hn_35) _ (lv_sub hl [2, 3, 4, 5, 6, 1, 0] rfl)
                  refine lv_if_eq (tgt := 93) hx hb dX10_sheet_76 (by decide) (fun c25 => ?_) (fun c25 => ?_)
                  · --
                    have i26 : Iv k63_0 0 0 := iv_eq1 c25 ik63_0 (⟨by decide, by decide⟩ : Iv 0 0 0) (by decide)
                    refine lv_iconst (v := 0) hx hb dX10_sheet_93 (by decide) ?_
                    exact J_94 0 (iv_w (⟨by decide, by decide⟩ : Iv 0 0 0) (by decide)) _ _ hw _ (lv_sub hl [1, 2, 3, 4, 5, 6, 7, 0] rfl)
                  · --
                    have i27 : Iv k63_0 1 1 := iv_ne1 c25 ik63_0 (⟨by decide, by decide⟩ : Iv 0 0 0) (by decide)
                    refine lv_iload_n hx hb dX10_sheet_79 rfl (lv_at hl 2 rfl) ?_
                    refine lv_iload_n hx hb dX10_sheet_80 rfl (lv_at hl 4 rfl) ?_
                    refine lv_iload hx hb dX10_sheet_81 (lv_at hl 7 rfl) ?_
                    refine lv_iload hx hb dX10_sheet_83 (lv_at hl 5 rfl) ?_
                    refine lv_imul hx hb dX10_sheet_85 ?_
                    refine lv_topi (fun v28 e28 => ?_)
                    refine lv_iadd hx hb dX10_sheet_86 ?_
                    refine lv_topi (fun v29 e29 => ?_)
                    refine o_ci hw (oRunS cx hA hw q_X10_greedOf k_m_X10_209 (As := [.int a1, .int v29]) (c_X10_greedOf a1 v29) (by decide) rfl hl.1 rfl (Nat.le_of_ble_eq_true rfl) dX10_sheet_87 (by decide)) (fun v31 σ30 H locs hp hw => ?_)
                    obtain ⟨p31_0, p31_1⟩ := hp
                    rw [p31_0] at hw
                    refine lv_goto (tgt := 94) hx hb dX10_sheet_90 (by decide) ?_
                    exact J_94 v31 p31_1 _ _ hw _ (lv_sub hl [1, 2, 3, 4, 5, 6, 7, 0] rfl)
                have J_62 : ∀ (H : Heap) (locs : List Loc), oI A L τ cy D s.heap σ_35 H locs → ∀ (ls : Array Slot), lv_has ls 8 [(0, .ref a0), (1, .int a1), (2, .int a2), (3, .int a3), (4, .int a4), (5, .int j35_5), (6, .int j35_6)] → W p l e ({ frames := 2, cells := 0, slots := 0, locals := 62 } : Room) s m args below meth c H locs 0 0 Q (F0 m 62 ls []) := by
                  intro  H locs hw     ls hl
                  refine lv_iconst (v := 0) hx hb dX10_sheet_62 (by decide) ?_
                  exact J_63 0 (iv_w (⟨by decide, by decide⟩ : Iv 0 0 0) (by decide)) _ _ hw _ (lv_sub hl [0, 1, 2, 3, 4, 5, 6] rfl)
                refine lv_icmp_eq (tgt := 62) hx hb dX10_sheet_49 (by decide) (fun c32 => ?_) (fun c32 => ?_)
                · --
                  have i33 : Iv a1 3 3 := iv_eq1 c32 i6 (⟨by decide, by decide⟩ : Iv 3 3 3) (by decide)
                  exact J_62 _ _ hw _ (lv_sub hl [0, 1, 2, 3, 4, 5, 6] rfl)
                · --
                  have i34 : Iv a1 0 2 := iv_ne2 c32 i6 (⟨by decide, by decide⟩ : Iv 3 3 3) (by decide)
                  refine lv_iload hx hb dX10_sheet_52 (lv_at hl 6 rfl) ?_
                  refine lv_iload_n hx hb dX10_sheet_54 rfl (lv_at hl 2 rfl) ?_
                  refine lv_icmp_ge (tgt := 62) hx hb dX10_sheet_55 (by decide) (fun c35 => ?_) (fun c35 => ?_)
                  · --
                    have i36 : Iv a2 (-2147483648) 5 := iv_le1 c35 i8 i15 (by decide)
                    exact J_62 _ _ hw _ (lv_sub hl [0, 1, 2, 3, 4, 5, 6] rfl)
                  · --
                    have i37 : Iv a2 1 6 := iv_lt2 (iv_nle c35) i15 i8 (by decide)
                    refine lv_iconst (v := 1) hx hb dX10_sheet_58 (by decide) ?_
                    refine lv_goto (tgt := 63) hx hb dX10_sheet_59 (by decide) ?_
                    exact J_63 1 (iv_w (⟨by decide, by decide⟩ : Iv 1 1 1) (by decide)) _ _ hw _ (lv_sub hl [0, 1, 2, 3, 4, 5, 6] rfl)
          exact J_35 _ 0 0 (iv_w (⟨by decide, by decide⟩ : Iv 0 0 0) (by decide)) σ _ _ hw fr (Nat.lt_succ_self _) _ (lv_sub hl [2, 3, 4, 5, 6, 1, 0] rfl)
        refine lv_icmp_eq (tgt := 29) hx hb dX10_sheet_19 (by decide) (fun c38 => ?_) (fun c38 => ?_)
        · --
          have i39 : Iv a1 3 3 := iv_eq1 c38 i6 (⟨by decide, by decide⟩ : Iv 3 3 3) (by decide)
          exact J_29 _ _ hw _ (lv_sub hl [0, 1, 2, 3, 4] rfl)
        · --
          have i40 : Iv a1 0 2 := iv_ne2 c38 i6 (⟨by decide, by decide⟩ : Iv 3 3 3) (by decide)
          refine lv_iload_n hx hb dX10_sheet_22 rfl (lv_at hl 2 rfl) ?_
          refine lv_if_ge (tgt := 29) hx hb dX10_sheet_23 (by decide) (fun c41 => ?_) (fun c41 => ?_)
          · --
            have i42 : Iv a2 0 6 := iv_le2 c41 (⟨by decide, by decide⟩ : Iv 0 0 0) i8 (by decide)
            exact J_29 _ _ hw _ (lv_sub hl [0, 1, 2, 3, 4] rfl)
          · --
            have i43 : Iv a2 (-2147483648) (-1) := iv_lt1 (iv_nle c41) i8 (⟨by decide, by decide⟩ : Iv 0 0 0) (by decide)
            refine lv_bipush (v := (-2)) hx hb dX10_sheet_26 (by decide) ?_
            rw [← hQ]
            exact o_ri cx rx hw dX10_sheet_28 fr
      · --
        have i44 : Iv a2 7 2147483647 := iv_lt2 (iv_nle c7) (⟨by decide, by decide⟩ : Iv 6 6 6) (iv_top a2) (by decide)
        refine lv_iconst (v := (-1)) hx hb dX10_sheet_15 (by decide) ?_
        rw [← hQ]
        exact o_ri cx rx hw dX10_sheet_16 fr
abbrev fs_X10_salt : List Nat := [129, 130, 327, 328, 329, 330, 331]
abbrev ts_X10_salt : List Nat := [32, 33, 34]
set_option maxHeartbeats 4000000 in
set_option maxRecDepth 100000 in
theorem c_X10_salt (a0 : Nat) (ha0 : oA L τ a0 9) (a1 : Int32) (a2 : Int32) : oMet l A L τ cy D K yX10_salt cX10_salt 3 (some .int) 4 123 [.ref a0, .int a1, .int a2] σ (va_Qi (fun r σ1 => oFr τ fs_X10_salt ts_X10_salt σ σ1) (oPo A L τ cy D) A) := by
  refine oMk (by decide) (Nat.le_of_ble_eq_true rfl) rfl ?_
  intro p e s m args below meth c ls cx rx hA hw hl
  generalize hQ : MQ below _ args s 0 0 A = Q
  have hx := cx.1.1
  have hb := cx.1.2.1
  have hml := cx.1.2.2.1
  have hown := cx.1.2.2.2.1
  have hts := cx.1.2.2.2.2
  have hl : lv_has ls 3 [(0, .ref a0), (1, .int a1), (2, .int a2)] := hl
  have fr : oFr τ fs_X10_salt ts_X10_salt σ σ := oFr_rf
  refine lv_aload_n hx hb dX10_salt_0 rfl (lv_at hl 0 rfl) ?_
  refine g_582 cx hw ha0 k_f_X10_53 dX10_salt_1 (fun v1 e1 h1 => ?_)
  refine lv_aload_n hx hb dX10_salt_4 rfl (lv_at hl 0 rfl) ?_
  refine g_581 cx hw ha0 k_f_X10_49 dX10_salt_5 (fun v2 e2 h2 => ?_)
  refine o_cv hw (oRunV cx hA hw q_X6_copyFrom k_m_X10_131 rfl h1 (by decide) (As := [.ref v2]) (c_X6_copyFrom v1 h1 v2 h2) (by decide) rfl hl.1 rfl (Nat.le_of_ble_eq_true rfl) dX10_salt_8 (by decide)) (fun σ3 H locs hp hw => ?_)
  have p4_0 := hp
  have fr := oFr_tr fr p4_0 (by decide)
  refine lv_aload_n hx hb dX10_salt_11 rfl (lv_at hl 0 rfl) ?_
  refine lv_aload_n hx hb dX10_salt_12 rfl (lv_at hl 0 rfl) ?_
  refine lv_aload_n hx hb dX10_salt_13 rfl (lv_at hl 0 rfl) ?_
  refine g_581 cx hw ha0 k_f_X10_49 dX10_salt_14 (fun v5 e5 h5 => ?_)
  rw [show v5 = v2 from Option.some.inj (e5.symm.trans (((kr_c p4_0 (by decide)).trans e2)))]
  refine g_321 cx hw h2 k_f_X10_148 dX10_salt_17 (fun v6 e6 h6 => ?_)
  refine lv_iload_n hx hb dX10_salt_20 rfl (lv_at hl 1 rfl) ?_
  refine lv_iload_n hx hb dX10_salt_21 rfl (lv_at hl 2 rfl) ?_
  refine o_ci hw (oRunV cx hA hw q_X10_lay k_m_X10_257 rfl ha0 (by decide) (As := [.ref v6, .int a1, .int a2]) (c_X10_lay a0 ha0 v6 h6 a1 a2) (by decide) rfl hl.1 rfl (Nat.le_of_ble_eq_true rfl) dX10_salt_22 (by decide)) (fun v8 σ7 H locs hp hw => ?_)
  have p8_0 := hp
  have fr := oFr_tr fr p8_0 (by decide)
  refine o_ci hw (oRunV cx hA hw q_X10_remembered k_m_X10_260 rfl ha0 (by decide) (As := [.int v8]) (c_X10_remembered a0 ha0 v8) (by decide) rfl hl.1 rfl (Nat.le_of_ble_eq_true rfl) dX10_salt_25 (by decide)) (fun v10 σ9 H locs hp hw => ?_)
  have p10_0 := hp
  have fr := oFr_tr fr p10_0 (by decide)
  rw [← hQ]
  exact o_ri cx rx hw dX10_salt_28 fr
abbrev fs_X10_thistles : List Nat := [129, 130, 327, 328, 329, 330, 331]
abbrev ts_X10_thistles : List Nat := [32, 33, 34]
set_option maxHeartbeats 4000000 in
set_option maxRecDepth 100000 in
theorem c_X10_thistles (a0 : Nat) (ha0 : oA L τ a0 9) (a1 : Int32) (a2 : Int32) : oMet l A L τ cy D K yX10_thistles cX10_thistles 3 (some .int) 4 123 [.ref a0, .int a1, .int a2] σ (va_Qi (fun r σ1 => oFr τ fs_X10_thistles ts_X10_thistles σ σ1) (oPo A L τ cy D) A) := by
  refine oMk (by decide) (Nat.le_of_ble_eq_true rfl) rfl ?_
  intro p e s m args below meth c ls cx rx hA hw hl
  generalize hQ : MQ below _ args s 0 0 A = Q
  have hx := cx.1.1
  have hb := cx.1.2.1
  have hml := cx.1.2.2.1
  have hown := cx.1.2.2.2.1
  have hts := cx.1.2.2.2.2
  have hl : lv_has ls 3 [(0, .ref a0), (1, .int a1), (2, .int a2)] := hl
  have fr : oFr τ fs_X10_thistles ts_X10_thistles σ σ := oFr_rf
  refine lv_aload_n hx hb dX10_thistles_0 rfl (lv_at hl 0 rfl) ?_
  refine g_582 cx hw ha0 k_f_X10_53 dX10_thistles_1 (fun v1 e1 h1 => ?_)
  refine lv_aload_n hx hb dX10_thistles_4 rfl (lv_at hl 0 rfl) ?_
  refine g_581 cx hw ha0 k_f_X10_49 dX10_thistles_5 (fun v2 e2 h2 => ?_)
  refine o_cv hw (oRunV cx hA hw q_X6_copyFrom k_m_X10_131 rfl h1 (by decide) (As := [.ref v2]) (c_X6_copyFrom v1 h1 v2 h2) (by decide) rfl hl.1 rfl (Nat.le_of_ble_eq_true rfl) dX10_thistles_8 (by decide)) (fun σ3 H locs hp hw => ?_)
  have p4_0 := hp
  have fr := oFr_tr fr p4_0 (by decide)
  refine lv_aload_n hx hb dX10_thistles_11 rfl (lv_at hl 0 rfl) ?_
  refine lv_aload_n hx hb dX10_thistles_12 rfl (lv_at hl 0 rfl) ?_
  refine lv_aload_n hx hb dX10_thistles_13 rfl (lv_at hl 0 rfl) ?_
  refine g_581 cx hw ha0 k_f_X10_49 dX10_thistles_14 (fun v5 e5 h5 => ?_)
  rw [show v5 = v2 from Option.some.inj (e5.symm.trans (((kr_c p4_0 (by decide)).trans e2)))]
  refine g_322 cx hw h2 k_f_X10_151 dX10_thistles_17 (fun v6 e6 h6 => ?_)
  refine lv_iload_n hx hb dX10_thistles_20 rfl (lv_at hl 1 rfl) ?_
  refine lv_iload_n hx hb dX10_thistles_21 rfl (lv_at hl 2 rfl) ?_
  refine o_ci hw (oRunV cx hA hw q_X10_lay k_m_X10_257 rfl ha0 (by decide) (As := [.ref v6, .int a1, .int a2]) (c_X10_lay a0 ha0 v6 h6 a1 a2) (by decide) rfl hl.1 rfl (Nat.le_of_ble_eq_true rfl) dX10_thistles_22 (by decide)) (fun v8 σ7 H locs hp hw => ?_)
  have p8_0 := hp
  have fr := oFr_tr fr p8_0 (by decide)
  refine o_ci hw (oRunV cx hA hw q_X10_remembered k_m_X10_260 rfl ha0 (by decide) (As := [.int v8]) (c_X10_remembered a0 ha0 v8) (by decide) rfl hl.1 rfl (Nat.le_of_ble_eq_true rfl) dX10_thistles_25 (by decide)) (fun v10 σ9 H locs hp hw => ?_)
  have p10_0 := hp
  have fr := oFr_tr fr p10_0 (by decide)
  rw [← hQ]
  exact o_ri cx rx hw dX10_thistles_28 fr
abbrev fs_X10_gate : List Nat := [129, 130, 327, 328, 329, 330, 331]
abbrev ts_X10_gate : List Nat := [32, 33, 34]
set_option maxHeartbeats 4000000 in
set_option maxRecDepth 100000 in
theorem c_X10_gate (a0 : Nat) (ha0 : oA L τ a0 9) (a1 : Int32) (a2 : Int32) : oMet l A L τ cy D K yX10_gate cX10_gate 3 (some .int) 4 123 [.ref a0, .int a1, .int a2] σ (va_Qi (fun r σ1 => oFr τ fs_X10_gate ts_X10_gate σ σ1) (oPo A L τ cy D) A) := by
  refine oMk (by decide) (Nat.le_of_ble_eq_true rfl) rfl ?_
  intro p e s m args below meth c ls cx rx hA hw hl
  generalize hQ : MQ below _ args s 0 0 A = Q
  have hx := cx.1.1
  have hb := cx.1.2.1
  have hml := cx.1.2.2.1
  have hown := cx.1.2.2.2.1
  have hts := cx.1.2.2.2.2
  have hl : lv_has ls 3 [(0, .ref a0), (1, .int a1), (2, .int a2)] := hl
  have fr : oFr τ fs_X10_gate ts_X10_gate σ σ := oFr_rf
  refine lv_aload_n hx hb dX10_gate_0 rfl (lv_at hl 0 rfl) ?_
  refine g_582 cx hw ha0 k_f_X10_53 dX10_gate_1 (fun v1 e1 h1 => ?_)
  refine lv_aload_n hx hb dX10_gate_4 rfl (lv_at hl 0 rfl) ?_
  refine g_581 cx hw ha0 k_f_X10_49 dX10_gate_5 (fun v2 e2 h2 => ?_)
  refine o_cv hw (oRunV cx hA hw q_X6_copyFrom k_m_X10_131 rfl h1 (by decide) (As := [.ref v2]) (c_X6_copyFrom v1 h1 v2 h2) (by decide) rfl hl.1 rfl (Nat.le_of_ble_eq_true rfl) dX10_gate_8 (by decide)) (fun σ3 H locs hp hw => ?_)
  have p4_0 := hp
  have fr := oFr_tr fr p4_0 (by decide)
  refine lv_aload_n hx hb dX10_gate_11 rfl (lv_at hl 0 rfl) ?_
  refine lv_aload_n hx hb dX10_gate_12 rfl (lv_at hl 0 rfl) ?_
  refine lv_iload_n hx hb dX10_gate_13 rfl (lv_at hl 1 rfl) ?_
  refine lv_iload_n hx hb dX10_gate_14 rfl (lv_at hl 2 rfl) ?_
  refine o_ci hw (oRunV cx hA hw q_X10_turn k_m_X10_263 rfl ha0 (by decide) (As := [.int a1, .int a2]) (c_X10_turn a0 ha0 a1 a2) (by decide) rfl hl.1 rfl (Nat.le_of_ble_eq_true rfl) dX10_gate_15 (by decide)) (fun v6 σ5 H locs hp hw => ?_)
  obtain ⟨p6_0, p6_1⟩ := hp
  have fr := oFr_tr fr p6_0 (by decide)
  refine o_ci hw (oRunV cx hA hw q_X10_remembered k_m_X10_260 rfl ha0 (by decide) (As := [.int v6]) (c_X10_remembered a0 ha0 v6) (by decide) rfl hl.1 rfl (Nat.le_of_ble_eq_true rfl) dX10_gate_18 (by decide)) (fun v8 σ7 H locs hp hw => ?_)
  have p8_0 := hp
  have fr := oFr_tr fr p8_0 (by decide)
  rw [← hQ]
  exact o_ri cx rx hw dX10_gate_21 fr
abbrev fs_X10_drive : List Nat := [129, 130, 327, 328, 329, 330, 331]
abbrev ts_X10_drive : List Nat := [32, 33, 34]
set_option maxHeartbeats 4000000 in
set_option maxRecDepth 100000 in
theorem c_X10_drive (a0 : Nat) (ha0 : oA L τ a0 9) (a1 : Int32) (a2 : Int32) : oMet l A L τ cy D K yX10_drive cX10_drive 3 (some .int) 4 123 [.ref a0, .int a1, .int a2] σ (va_Qi (fun r σ1 => oFr τ fs_X10_drive ts_X10_drive σ σ1) (oPo A L τ cy D) A) := by
  refine oMk (by decide) (Nat.le_of_ble_eq_true rfl) rfl ?_
  intro p e s m args below meth c ls cx rx hA hw hl
  generalize hQ : MQ below _ args s 0 0 A = Q
  have hx := cx.1.1
  have hb := cx.1.2.1
  have hml := cx.1.2.2.1
  have hown := cx.1.2.2.2.1
  have hts := cx.1.2.2.2.2
  have hl : lv_has ls 3 [(0, .ref a0), (1, .int a1), (2, .int a2)] := hl
  have fr : oFr τ fs_X10_drive ts_X10_drive σ σ := oFr_rf
  refine lv_aload_n hx hb dX10_drive_0 rfl (lv_at hl 0 rfl) ?_
  refine g_582 cx hw ha0 k_f_X10_53 dX10_drive_1 (fun v1 e1 h1 => ?_)
  refine lv_aload_n hx hb dX10_drive_4 rfl (lv_at hl 0 rfl) ?_
  refine g_581 cx hw ha0 k_f_X10_49 dX10_drive_5 (fun v2 e2 h2 => ?_)
  refine o_cv hw (oRunV cx hA hw q_X6_copyFrom k_m_X10_131 rfl h1 (by decide) (As := [.ref v2]) (c_X6_copyFrom v1 h1 v2 h2) (by decide) rfl hl.1 rfl (Nat.le_of_ble_eq_true rfl) dX10_drive_8 (by decide)) (fun σ3 H locs hp hw => ?_)
  have p4_0 := hp
  have fr := oFr_tr fr p4_0 (by decide)
  refine lv_aload_n hx hb dX10_drive_11 rfl (lv_at hl 0 rfl) ?_
  refine lv_aload_n hx hb dX10_drive_12 rfl (lv_at hl 0 rfl) ?_
  refine lv_iload_n hx hb dX10_drive_13 rfl (lv_at hl 1 rfl) ?_
  refine lv_iload_n hx hb dX10_drive_14 rfl (lv_at hl 2 rfl) ?_
  refine o_ci hw (oRunV cx hA hw q_X10_chase k_m_X10_266 rfl ha0 (by decide) (As := [.int a1, .int a2]) (c_X10_chase a0 ha0 a1 a2) (by decide) rfl hl.1 rfl (Nat.le_of_ble_eq_true rfl) dX10_drive_15 (by decide)) (fun v6 σ5 H locs hp hw => ?_)
  obtain ⟨p6_0, p6_1⟩ := hp
  have fr := oFr_tr fr p6_0 (by decide)
  refine o_ci hw (oRunV cx hA hw q_X10_remembered k_m_X10_260 rfl ha0 (by decide) (As := [.int v6]) (c_X10_remembered a0 ha0 v6) (by decide) rfl hl.1 rfl (Nat.le_of_ble_eq_true rfl) dX10_drive_18 (by decide)) (fun v8 σ7 H locs hp hw => ?_)
  have p8_0 := hp
  have fr := oFr_tr fr p8_0 (by decide)
  rw [← hQ]
  exact o_ri cx rx hw dX10_drive_21 fr
abbrev fs_X10_hour : List Nat := [129, 130, 193, 327, 328, 329, 330, 331, 517]
abbrev ts_X10_hour : List Nat := [32, 33, 34, 36, 37, 38]
set_option maxHeartbeats 4000000 in
set_option maxRecDepth 100000 in
theorem c_X10_hour (a0 : Nat) (ha0 : oA L τ a0 9) : oMet l A L τ cy D K yX10_hour cX10_hour 2 (some .int) 4 123 [.ref a0] σ (va_Qi (fun r σ1 => oFr τ fs_X10_hour ts_X10_hour σ σ1) (oPo A L τ cy D) A) := by
  refine oMk (by decide) (Nat.le_of_ble_eq_true rfl) rfl ?_
  intro p e s m args below meth c ls cx rx hA hw hl
  generalize hQ : MQ below _ args s 0 0 A = Q
  have hx := cx.1.1
  have hb := cx.1.2.1
  have hml := cx.1.2.2.1
  have hown := cx.1.2.2.2.1
  have hts := cx.1.2.2.2.2
  have hl : lv_has ls 2 [(0, .ref a0)] := hl
  have fr : oFr τ fs_X10_hour ts_X10_hour σ σ := oFr_rf
  refine lv_aload_n hx hb dX10_hour_0 rfl (lv_at hl 0 rfl) ?_
  refine g_582 cx hw ha0 k_f_X10_53 dX10_hour_1 (fun v1 e1 h1 => ?_)
  refine lv_aload_n hx hb dX10_hour_4 rfl (lv_at hl 0 rfl) ?_
  refine g_581 cx hw ha0 k_f_X10_49 dX10_hour_5 (fun v2 e2 h2 => ?_)
  refine o_cv hw (oRunV cx hA hw q_X6_copyFrom k_m_X10_131 rfl h1 (by decide) (As := [.ref v2]) (c_X6_copyFrom v1 h1 v2 h2) (by decide) rfl hl.1 rfl (Nat.le_of_ble_eq_true rfl) dX10_hour_8 (by decide)) (fun σ3 H locs hp hw => ?_)
  have p4_0 := hp
  have fr := oFr_tr fr p4_0 (by decide)
  refine lv_aload_n hx hb dX10_hour_11 rfl (lv_at hl 0 rfl) ?_
  refine g_580 cx hw ha0 k_f_X10_42 dX10_hour_12 (fun v5 e5 h5 => ?_)
  refine lv_aload_n hx hb dX10_hour_15 rfl (lv_at hl 0 rfl) ?_
  refine g_581 cx hw ha0 k_f_X10_49 dX10_hour_16 (fun v6 e6 h6 => ?_)
  rw [show v6 = v2 from Option.some.inj (e6.symm.trans (((kr_c p4_0 (by decide)).trans e2)))]
  refine o_ci hw (oRunV cx hA hw q_X9_pass k_m_X10_269 rfl h5 (by decide) (As := [.ref v2]) (c_X9_pass v5 h5 v2 h2) (by decide) rfl hl.1 rfl (Nat.le_of_ble_eq_true rfl) dX10_hour_19 (by decide)) (fun v8 σ7 H locs hp hw => ?_)
  have p8_0 := hp
  have fr := oFr_tr fr p8_0 (by decide)
  refine lv_istore_n (lv' := [(1, .int v8), (0, .ref a0)]) hx hb dX10_hour_22 rfl hl (by decide) rfl (fun ls hl => ?_)
  refine lv_aload_n hx hb dX10_hour_23 rfl (lv_at hl 1 rfl) ?_
  refine lv_aload_n hx hb dX10_hour_24 rfl (lv_at hl 1 rfl) ?_
  refine g_581 cx hw ha0 k_f_X10_49 dX10_hour_25 (fun v9 e9 h9 => ?_)
  rw [show v9 = v2 from Option.some.inj (e9.symm.trans (((kr_c p8_0 (by decide)).trans ((kr_c p4_0 (by decide)).trans e2))))]
  refine o_cv hw (oRunV cx hA hw q_X10_tellPlaces k_m_X10_273 rfl ha0 (by decide) (As := [.ref v2]) (c_X10_tellPlaces a0 ha0 v2 h2) (by decide) rfl hl.1 rfl (Nat.le_of_ble_eq_true rfl) dX10_hour_28 (by decide)) (fun σ10 H locs hp hw => ?_)
  have p11_0 := hp
  have fr := oFr_tr fr p11_0 (by decide)
  refine lv_aload_n hx hb dX10_hour_31 rfl (lv_at hl 1 rfl) ?_
  refine lv_iload_n hx hb dX10_hour_32 rfl (lv_at hl 0 rfl) ?_
  refine o_ci hw (oRunV cx hA hw q_X10_remembered k_m_X10_260 rfl ha0 (by decide) (As := [.int v8]) (c_X10_remembered a0 ha0 v8) (by decide) rfl hl.1 rfl (Nat.le_of_ble_eq_true rfl) dX10_hour_33 (by decide)) (fun v13 σ12 H locs hp hw => ?_)
  have p13_0 := hp
  have fr := oFr_tr fr p13_0 (by decide)
  rw [← hQ]
  exact o_ri cx rx hw dX10_hour_36 fr
abbrev fs_X10_hours : List Nat := [129, 130, 193, 327, 328, 329, 330, 331, 517]
abbrev ts_X10_hours : List Nat := [32, 33, 34, 36, 37, 38]
set_option maxHeartbeats 4000000 in
set_option maxRecDepth 100000 in
theorem c_X10_hours (a0 : Nat) (ha0 : oA L τ a0 9) (a1 : Int32) : oMet l A L τ cy D K yX10_hours cX10_hours 3 (some .int) 5 130 [.ref a0, .int a1] σ (va_Qi (fun r σ1 => oFr τ fs_X10_hours ts_X10_hours σ σ1) (oPo A L τ cy D) A) := by
  refine oMk (by decide) (Nat.le_of_ble_eq_true rfl) rfl ?_
  intro p e s m args below meth c ls cx rx hA hw hl
  generalize hQ : MQ below _ args s 0 0 A = Q
  have hx := cx.1.1
  have hb := cx.1.2.1
  have hml := cx.1.2.2.1
  have hown := cx.1.2.2.2.1
  have hts := cx.1.2.2.2.2
  have hl : lv_has ls 3 [(0, .ref a0), (1, .int a1)] := hl
  have fr : oFr τ fs_X10_hours ts_X10_hours σ σ := oFr_rf
  refine lv_iload_n hx hb dX10_hours_0 rfl (lv_at hl 1 rfl) ?_
  refine lv_if_lt (tgt := 10) hx hb dX10_hours_1 (by decide) (fun c1 => ?_) (fun c1 => ?_)
  · --
    have i2 : Iv a1 (-2147483648) (-1) := iv_lt1 c1 (iv_top a1) (⟨by decide, by decide⟩ : Iv 0 0 0) (by decide)
    refine lv_iconst (v := (-1)) hx hb dX10_hours_10 (by decide) ?_
    rw [← hQ]
    exact o_ri cx rx hw dX10_hours_11 fr
  · --
    have i3 : Iv a1 0 2147483647 := iv_le2 (iv_nlt c1) (⟨by decide, by decide⟩ : Iv 0 0 0) (iv_top a1) (by decide)
    refine lv_iload_n hx hb dX10_hours_4 rfl (lv_at hl 1 rfl) ?_
    refine lv_bipush (v := 60) hx hb dX10_hours_5 (by decide) ?_
    refine lv_icmp_le (tgt := 12) hx hb dX10_hours_7 (by decide) (fun c4 => ?_) (fun c4 => ?_)
    · --
      have i5 : Iv a1 0 60 := iv_le1 c4 i3 (⟨by decide, by decide⟩ : Iv 60 60 60) (by decide)
      refine lv_aload_n hx hb dX10_hours_12 rfl (lv_at hl 0 rfl) ?_
      refine g_582 cx hw ha0 k_f_X10_53 dX10_hours_13 (fun v6 e6 h6 => ?_)
      refine lv_aload_n hx hb dX10_hours_16 rfl (lv_at hl 0 rfl) ?_
      refine g_581 cx hw ha0 k_f_X10_49 dX10_hours_17 (fun v7 e7 h7 => ?_)
      refine o_cv hw (oRunV cx hA hw q_X6_copyFrom k_m_X10_131 rfl h6 (by decide) (As := [.ref v7]) (c_X6_copyFrom v6 h6 v7 h7) (by decide) rfl hl.1 rfl (Nat.le_of_ble_eq_true rfl) dX10_hours_20 (by decide)) (fun σ8 H locs hp hw => ?_)
      have p9_0 := hp
      have fr := oFr_tr fr p9_0 (by decide)
      refine lv_aload_n hx hb dX10_hours_23 rfl (lv_at hl 0 rfl) ?_
      refine g_580 cx hw ha0 k_f_X10_42 dX10_hours_24 (fun v10 e10 h10 => ?_)
      refine lv_aload_n hx hb dX10_hours_27 rfl (lv_at hl 0 rfl) ?_
      refine g_581 cx hw ha0 k_f_X10_49 dX10_hours_28 (fun v11 e11 h11 => ?_)
      rw [show v11 = v7 from Option.some.inj (e11.symm.trans (((kr_c p9_0 (by decide)).trans e7)))]
      refine lv_iload_n hx hb dX10_hours_31 rfl (lv_at hl 1 rfl) ?_
      refine o_ci hw (oRunV cx hA hw q_X9_passMany k_m_X10_276 rfl h10 (by decide) (As := [.ref v7, .int a1]) (c_X9_passMany v10 h10 v7 h7 a1) (by decide) rfl hl.1 rfl (Nat.le_of_ble_eq_true rfl) dX10_hours_32 (by decide)) (fun v13 σ12 H locs hp hw => ?_)
      have p13_0 := hp
      have fr := oFr_tr fr p13_0 (by decide)
      refine lv_istore_n (lv' := [(2, .int v13), (0, .ref a0), (1, .int a1)]) hx hb dX10_hours_35 rfl hl (by decide) rfl (fun ls hl => ?_)
      refine lv_aload_n hx hb dX10_hours_36 rfl (lv_at hl 1 rfl) ?_
      refine lv_aload_n hx hb dX10_hours_37 rfl (lv_at hl 1 rfl) ?_
      refine g_581 cx hw ha0 k_f_X10_49 dX10_hours_38 (fun v14 e14 h14 => ?_)
      rw [show v14 = v7 from Option.some.inj (e14.symm.trans (((kr_c p13_0 (by decide)).trans ((kr_c p9_0 (by decide)).trans e7))))]
      refine o_cv hw (oRunV cx hA hw q_X10_tellPlaces k_m_X10_273 rfl ha0 (by decide) (As := [.ref v7]) (c_X10_tellPlaces a0 ha0 v7 h7) (by decide) rfl hl.1 rfl (Nat.le_of_ble_eq_true rfl) dX10_hours_41 (by decide)) (fun σ15 H locs hp hw => ?_)
      have p16_0 := hp
      have fr := oFr_tr fr p16_0 (by decide)
      refine lv_iload_n hx hb dX10_hours_44 rfl (lv_at hl 2 rfl) ?_
      refine lv_if_ne (tgt := 52) hx hb dX10_hours_45 (by decide) (fun c17 => ?_) (fun c17 => ?_)
      · --
        have i18 : Iv a1 1 60 := iv_ne1 c17 i5 (⟨by decide, by decide⟩ : Iv 0 0 0) (by decide)
        refine lv_aload_n hx hb dX10_hours_52 rfl (lv_at hl 1 rfl) ?_
        refine lv_iload_n hx hb dX10_hours_53 rfl (lv_at hl 0 rfl) ?_
        refine o_ci hw (oRunV cx hA hw q_X10_remembered k_m_X10_260 rfl ha0 (by decide) (As := [.int v13]) (c_X10_remembered a0 ha0 v13) (by decide) rfl hl.1 rfl (Nat.le_of_ble_eq_true rfl) dX10_hours_54 (by decide)) (fun v20 σ19 H locs hp hw => ?_)
        have p20_0 := hp
        have fr := oFr_tr fr p20_0 (by decide)
        rw [← hQ]
        exact o_ri cx rx hw dX10_hours_57 fr
      · --
        have i21 : Iv a1 0 0 := iv_eq1 c17 i5 (⟨by decide, by decide⟩ : Iv 0 0 0) (by decide)
        refine lv_iload_n hx hb dX10_hours_48 rfl (lv_at hl 0 rfl) ?_
        refine lv_goto (tgt := 57) hx hb dX10_hours_49 (by decide) ?_
        rw [← hQ]
        exact o_ri cx rx hw dX10_hours_57 fr
    · --
      have i22 : Iv a1 61 2147483647 := iv_lt2 (iv_nle c4) (⟨by decide, by decide⟩ : Iv 60 60 60) i3 (by decide)
      refine lv_iconst (v := (-1)) hx hb dX10_hours_10 (by decide) ?_
      rw [← hQ]
      exact o_ri cx rx hw dX10_hours_11 fr
abbrev fs_X10_day : List Nat := [129, 130, 193, 327, 328, 329, 330, 331, 385, 386, 387, 517]
abbrev ts_X10_day : List Nat := [32, 33, 34, 36, 37, 38]
set_option maxHeartbeats 4000000 in
set_option maxRecDepth 100000 in
theorem c_X10_day (a0 : Nat) (ha0 : oA L τ a0 9) : oMet l A L τ cy D K yX10_day cX10_day 7 (some .int) 7 172 [.ref a0] σ (va_Qi (fun r σ1 => oFr τ fs_X10_day ts_X10_day σ σ1 ∧ (∀ b, σ.2.2.2.2 576 a0 = some b → Iv (σ1.1 385 b) 0 0)) (oPo A L τ cy D) A) := by
  refine oMk (by decide) (Nat.le_of_ble_eq_true rfl) rfl ?_
  intro p e s m args below meth c ls cx rx hA hw hl
  generalize hQ : MQ below _ args s 0 0 A = Q
  have hx := cx.1.1
  have hb := cx.1.2.1
  have hml := cx.1.2.2.1
  have hown := cx.1.2.2.2.1
  have hts := cx.1.2.2.2.2
  have hl : lv_has ls 7 [(0, .ref a0)] := hl
  have fr : oFr τ fs_X10_day ts_X10_day σ σ := oFr_rf
  obtain ⟨b576, hF576, hb576⟩ := hw.2.2.2.2.2 576 a0 6 (by rw [ha0.2]; rfl) ha0.1
  refine lv_aload_n hx hb dX10_day_0 rfl (lv_at hl 0 rfl) ?_
  refine o_ci hw (oRunV cx hA hw q_X10_faultOfDay k_m_X10_280 rfl ha0 (by decide) (As := []) (c_X10_faultOfDay a0 ha0) (by decide) rfl hl.1 rfl (Nat.le_of_ble_eq_true rfl) dX10_day_1 (by decide)) (fun v2 σ1 H locs hp hw => ?_)
  have p2_0 := hp
  have fr := oFr_tr fr p2_0 (by decide)
  refine lv_istore_n (lv' := [(1, .int v2), (0, .ref a0)]) hx hb dX10_day_4 rfl hl (by decide) rfl (fun ls hl => ?_)
  refine lv_iload_n hx hb dX10_day_5 rfl (lv_at hl 0 rfl) ?_
  refine lv_if_eq (tgt := 18) hx hb dX10_day_6 (by decide) (fun c3 => ?_) (fun c3 => ?_)
  · --
    have i4 : Iv v2 0 0 := iv_eq1 c3 (iv_top v2) (⟨by decide, by decide⟩ : Iv 0 0 0) (by decide)
    refine lv_aload_n hx hb dX10_day_18 rfl (lv_at hl 1 rfl) ?_
    refine g_582 cx hw ha0 k_f_X10_53 dX10_day_19 (fun v5 e5 h5 => ?_)
    refine lv_aload_n hx hb dX10_day_22 rfl (lv_at hl 1 rfl) ?_
    refine g_581 cx hw ha0 k_f_X10_49 dX10_day_23 (fun v6 e6 h6 => ?_)
    refine o_cv hw (oRunV cx hA hw q_X6_copyFrom k_m_X10_131 rfl h5 (by decide) (As := [.ref v6]) (c_X6_copyFrom v5 h5 v6 h6) (by decide) rfl hl.1 rfl (Nat.le_of_ble_eq_true rfl) dX10_day_26 (by decide)) (fun σ7 H locs hp hw => ?_)
    have p8_0 := hp
    have fr := oFr_tr fr p8_0 (by decide)
    refine lv_aload_n hx hb dX10_day_29 rfl (lv_at hl 1 rfl) ?_
    refine g_576 cx hw ha0 k_f_X10_10 dX10_day_30 (fun v9 e9 h9 => ?_)
    rw [show v9 = b576 from Option.some.inj (e9.symm.trans (((kr_c p8_0 (by decide)).trans ((kr_c p2_0 (by decide)).trans hF576))))]
    refine lv_bipush (v := 60) hx hb dX10_day_33 (by decide) ?_
    refine o_cv hw (oRunV cx hA hw q_X7_begin k_m_X10_220 rfl hb576 (by decide) (As := [.int 60]) (c_X7_begin b576 hb576 60) (by decide) rfl hl.1 rfl (Nat.le_of_ble_eq_true rfl) dX10_day_35 (by decide)) (fun σ10 H locs hp hw => ?_)
    obtain ⟨p11_0, p11_1⟩ := hp
    have fr := oFr_tr fr p11_0 (by decide)
    refine lv_iconst (v := 0) hx hb dX10_day_38 (by decide) ?_
    refine lv_istore_n (lv' := [(2, .int 0), (1, .int v2), (0, .ref a0)]) hx hb dX10_day_39 rfl hl (by decide) rfl (fun ls hl => ?_)
    refine lv_iconst (v := 0) hx hb dX10_day_40 (by decide) ?_
    refine lv_istore_n (lv' := [(3, .int 0), (2, .int 0), (1, .int v2), (0, .ref a0)]) hx hb dX10_day_41 rfl hl (by decide) rfl (fun ls hl => ?_)
    refine lv_iconst (v := 0) hx hb dX10_day_42 (by decide) ?_
    refine lv_istore (lv' := [(4, .int 0), (3, .int 0), (2, .int 0), (1, .int v2), (0, .ref a0)]) hx hb dX10_day_43 hl (by decide) rfl (fun ls hl => ?_)
    refine lv_iconst (v := 0) hx hb dX10_day_45 (by decide) ?_
    refine lv_istore (lv' := [(5, .int 0), (4, .int 0), (3, .int 0), (2, .int 0), (1, .int v2), (0, .ref a0)]) hx hb dX10_day_46 hl (by decide) rfl (fun ls hl => ?_)
    have frE_48 := fr
    have J_48 : ∀ n48 : Nat, ∀ (j48_2 : Int32) (j48_3 : Int32) (j48_4 : Int32) (ij48_4 : Iv j48_4 0 1) (j48_5 : Int32) (ij48_5 : Iv j48_5 0 60), ∀ (σ_48 : oSt) (H : Heap) (locs : List Loc), oI A L τ cy D s.heap σ_48 H locs → oFr τ fs_X10_day ts_X10_day σ σ_48 → (60 - j48_5.toInt).toNat < n48 → ∀ (ls : Array Slot), lv_has ls 7 [(0, .ref a0), (1, .int v2), (2, .int j48_2), (3, .int j48_3), (4, .int j48_4), (5, .int j48_5)] → W p l e ({ frames := 7, cells := 0, slots := 0, locals := 172 } : Room) s m args below meth c H locs 0 0 Q (F0 m 48 ls []) := by
      intro n48
      induction n48 with
      | zero => intro j48_2 j48_3 j48_4 ij48_4 j48_5 ij48_5 σ_48 H locs hw fr   hn_48   ls hl; exact absurd hn_48 (Nat.not_lt_zero _)
      | succ n48 ih_48 =>
        intro j48_2 j48_3 j48_4 ij48_4 j48_5 ij48_5 σ_48 H locs hw fr   hn_48   ls hl
        have fr_48 := fr
        refine lv_iload hx hb dX10_day_48 (lv_at hl 5 rfl) ?_
        refine lv_bipush (v := 60) hx hb dX10_day_50 (by decide) ?_
        have J_121 : ∀ (H : Heap) (locs : List Loc), oI A L τ cy D s.heap σ_48 H locs → ∀ (ls : Array Slot), lv_has ls 7 [(0, .ref a0), (1, .int v2), (2, .int j48_2), (3, .int j48_3), (4, .int j48_4), (5, .int j48_5)] → W p l e ({ frames := 7, cells := 0, slots := 0, locals := 172 } : Room) s m args below meth c H locs 0 0 Q (F0 m 121 ls []) := by
          intro  H locs hw     ls hl
          refine lv_iload_n hx hb dX10_day_121 rfl (lv_at hl 2 rfl) ?_
          have frE_136 := fr
          have J_136 : ∀ (σ_136 : oSt) (H : Heap) (locs : List Loc), oI A L τ cy D s.heap σ_136 H locs → oFr τ fs_X10_day ts_X10_day σ σ_136 → ∀ (ls : Array Slot), lv_has ls 7 [(0, .ref a0), (1, .int v2), (2, .int j48_2), (3, .int j48_3), (4, .int j48_4), (5, .int j48_5)] → W p l e ({ frames := 7, cells := 0, slots := 0, locals := 172 } : Room) s m args below meth c H locs 0 0 Q (F0 m 136 ls []) := by
            intro  σ_136 H locs hw fr      ls hl
            have fr_136 := fr
            refine lv_aload_n hx hb dX10_day_136 rfl (lv_at hl 0 rfl) ?_
            refine g_576 cx hw ha0 k_f_X10_10 dX10_day_137 (fun v12 e12 h12 => ?_)
            rw [show v12 = b576 from Option.some.inj (e12.symm.trans (((kr_c fr_136 (by decide)).trans hF576)))]
            refine o_cv hw (oRunV cx hA hw q_X7_empty k_m_X10_93 rfl hb576 (by decide) (As := []) (c_X7_empty b576 hb576) (by decide) rfl hl.1 rfl (Nat.le_of_ble_eq_true rfl) dX10_day_140 (by decide)) (fun σ13 H locs hp hw => ?_)
            obtain ⟨p14_0, p14_1⟩ := hp
            have fr := oFr_tr fr p14_0 (by decide)
            refine lv_aload_n hx hb dX10_day_143 rfl (lv_at hl 0 rfl) ?_
            refine g_577 cx hw ha0 k_f_X10_19 dX10_day_144 (fun v15 e15 h15 => ?_)
            refine o_cv hw (oRunV cx hA hw q_X4_start k_m_X10_292 rfl h15 (by decide) (As := []) (c_X4_start v15 h15) (by decide) rfl hl.1 rfl (Nat.le_of_ble_eq_true rfl) dX10_day_147 (by decide)) (fun σ16 H locs hp hw => ?_)
            have p17_0 := hp
            have fr := oFr_tr fr p17_0 (by decide)
            refine lv_aload_n hx hb dX10_day_150 rfl (lv_at hl 0 rfl) ?_
            refine g_577 cx hw ha0 k_f_X10_19 dX10_day_151 (fun v18 e18 h18 => ?_)
            rw [show v18 = v15 from Option.some.inj (e18.symm.trans (((kr_c p17_0 (by decide)).trans e15)))]
            refine lv_iload hx hb dX10_day_154 (lv_at hl 4 rfl) ?_
            have J_164 : ∀ (k164_1 : Int64), ∀ (H : Heap) (locs : List Loc), oI A L τ cy D s.heap σ16 H locs → ∀ (ls : Array Slot), lv_has ls 7 [(0, .ref a0), (1, .int v2), (2, .int j48_2), (3, .int j48_3), (4, .int j48_4), (5, .int j48_5)] → W p l e ({ frames := 7, cells := 0, slots := 0, locals := 172 } : Room) s m args below meth c H locs 0 0 Q (F0 m 164 ls [.long k164_1, .ref v15]) := by
              intro k164_1 H locs hw     ls hl
              refine o_cv hw (oRunV cx hA hw q_X4_put k_m_X10_295 rfl h15 (by decide) (As := [.long k164_1]) (c_X4_put v15 h15 k164_1) (by decide) rfl hl.1 rfl (Nat.le_of_ble_eq_true rfl) dX10_day_164 (by decide)) (fun σ19 H locs hp hw => ?_)
              have p20_0 := hp
              have fr := oFr_tr fr p20_0 (by decide)
              refine lv_aload_n hx hb dX10_day_167 rfl (lv_at hl 0 rfl) ?_
              refine g_577 cx hw ha0 k_f_X10_19 dX10_day_168 (fun v21 e21 h21 => ?_)
              rw [show v21 = v15 from Option.some.inj (e21.symm.trans (((kr_c p20_0 (by decide)).trans ((kr_c p17_0 (by decide)).trans e15))))]
              refine lv_iload_n hx hb dX10_day_171 rfl (lv_at hl 3 rfl) ?_
              refine lv_i2l hx hb dX10_day_172 rfl ?_
              refine lv_topl (fun v22 e22 => ?_)
              refine o_cv hw (oRunV cx hA hw q_X4_put k_m_X10_295 rfl h15 (by decide) (As := [.long v22]) (c_X4_put v15 h15 v22) (by decide) rfl hl.1 rfl (Nat.le_of_ble_eq_true rfl) dX10_day_173 (by decide)) (fun σ23 H locs hp hw => ?_)
              have p24_0 := hp
              have fr := oFr_tr fr p24_0 (by decide)
              refine lv_iload_n hx hb dX10_day_176 rfl (lv_at hl 2 rfl) ?_
              rw [← hQ]
              exact o_ri cx rx hw dX10_day_177 ⟨fr, (by intro b hb9; rw [show b = b576 from Option.some.inj (hb9.symm.trans ((kr_c fr (by decide)).symm.trans (((kr_c p24_0 (by decide)).trans ((kr_c p20_0 (by decide)).trans ((kr_c p17_0 (by decide)).trans ((kr_c p14_0 (by decide)).trans ((kr_c fr_136 (by decide)).trans hF576))))))))]; exact (kn_iv (((kp_c p24_0 (by decide)).trans ((kp_c p20_0 (by decide)).trans ((kp_c p17_0 (by decide)).trans rfl)))) (iv_w p14_1 (by decide))))⟩
            refine lv_if_eq (tgt := 163) hx hb dX10_day_156 (by decide) (fun c25 => ?_) (fun c25 => ?_)
            · --
              have i26 : Iv j48_4 0 0 := iv_eq1 c25 ij48_4 (⟨by decide, by decide⟩ : Iv 0 0 0) (by decide)
              refine lv_lconst (v := 0) hx hb dX10_day_163 (by decide) ?_
              exact J_164 0 _ _ hw _ (lv_sub hl [0, 1, 2, 3, 4, 5] rfl)
            · --
              have i27 : Iv j48_4 1 1 := iv_ne1 c25 ij48_4 (⟨by decide, by decide⟩ : Iv 0 0 0) (by decide)
              refine lv_lconst (v := 1) hx hb dX10_day_159 (by decide) ?_
              refine lv_goto (tgt := 164) hx hb dX10_day_160 (by decide) ?_
              exact J_164 1 _ _ hw _ (lv_sub hl [0, 1, 2, 3, 4, 5] rfl)
          refine lv_if_le (tgt := 136) hx hb dX10_day_122 (by decide) (fun c28 => ?_) (fun c28 => ?_)
          · --
            have i29 : Iv j48_2 (-2147483648) 0 := iv_le1 c28 (iv_top j48_2) (⟨by decide, by decide⟩ : Iv 0 0 0) (by decide)
            exact J_136 σ_48 _ _ hw fr _ (lv_sub hl [0, 1, 2, 3, 4, 5] rfl)
          · --
            have i30 : Iv j48_2 1 2147483647 := iv_lt2 (iv_nle c28) (⟨by decide, by decide⟩ : Iv 0 0 0) (iv_top j48_2) (by decide)
            refine lv_aload_n hx hb dX10_day_125 rfl (lv_at hl 0 rfl) ?_
            refine g_585 cx hw ha0 k_f_X10_75 dX10_day_126 (fun v31 e31 h31 => ?_)
            refine lv_aload_n hx hb dX10_day_129 rfl (lv_at hl 0 rfl) ?_
            refine g_582 cx hw ha0 k_f_X10_53 dX10_day_130 (fun v32 e32 h32 => ?_)
            rw [show v32 = v5 from Option.some.inj (e32.symm.trans (((kr_c fr_48 (by decide)).trans ((kr_c frE_48 (by decide)).symm.trans (((kr_c p11_0 (by decide)).trans ((kr_c p8_0 (by decide)).trans e5)))))))]
            refine o_cv hw (oRunV cx hA hw q_X3_add k_m_X10_289 rfl h31 (by decide) (As := [.ref v5]) (c_X3_add v31 h31 v5 h5) (by decide) rfl hl.1 rfl (Nat.le_of_ble_eq_true rfl) dX10_day_133 (by decide)) (fun σ33 H locs hp hw => ?_)
            have p34_0 := hp
            have fr := oFr_tr fr p34_0 (by decide)
            exact J_136 σ33 _ _ hw fr _ (lv_sub hl [0, 1, 2, 3, 4, 5] rfl)
        refine lv_icmp_ge (tgt := 121) hx hb dX10_day_52 (by decide) (fun c35 => ?_) (fun c35 => ?_)
        · --
          have i36 : Iv j48_5 60 60 := iv_le2 c35 (⟨by decide, by decide⟩ : Iv 60 60 60) ij48_5 (by decide)
          exact J_121 _ _ hw _ (lv_sub hl [0, 1, 2, 3, 4, 5] rfl)
        · --
          have i37 : Iv j48_5 0 59 := iv_lt1 (iv_nle c35) ij48_5 (⟨by decide, by decide⟩ : Iv 60 60 60) (by decide)
          refine lv_iload hx hb dX10_day_55 (lv_at hl 4 rfl) ?_
          refine lv_if_ne (tgt := 121) hx hb dX10_day_57 (by decide) (fun c38 => ?_) (fun c38 => ?_)
          · --
            have i39 : Iv j48_4 1 1 := iv_ne1 c38 ij48_4 (⟨by decide, by decide⟩ : Iv 0 0 0) (by decide)
            exact J_121 _ _ hw _ (lv_sub hl [0, 1, 2, 3, 4, 5] rfl)
          · --
            have i40 : Iv j48_4 0 0 := iv_eq1 c38 ij48_4 (⟨by decide, by decide⟩ : Iv 0 0 0) (by decide)
            refine lv_aload_n hx hb dX10_day_60 rfl (lv_at hl 0 rfl) ?_
            refine g_576 cx hw ha0 k_f_X10_10 dX10_day_61 (fun v41 e41 h41 => ?_)
            rw [show v41 = b576 from Option.some.inj (e41.symm.trans (((kr_c fr_48 (by decide)).trans hF576)))]
            have i42 : Iv (σ_48.1 385 b576) 0 80 := o_fb (j := 385) hw hb576 rfl
            refine o_ci hw (oRunV cx hA hw q_X7_isAtEnd k_m_X10_224 rfl hb576 (by decide) (As := []) (c_X7_isAtEnd b576 hb576) (by decide) rfl hl.1 rfl (Nat.le_of_ble_eq_true rfl) dX10_day_64 (by decide)) (fun v44 σ43 H locs hp hw => ?_)
            obtain ⟨p44_0, p44_1, p44_2⟩ := hp
            rw [p44_0] at hw
            refine lv_if_ne (tgt := 121) hx hb dX10_day_67 (by decide) (fun c45 => ?_) (fun c45 => ?_)
            · --
              have i46 : Iv v44 1 1 := iv_ne1 c45 p44_1 (⟨by decide, by decide⟩ : Iv 0 0 0) (by decide)
              exact J_121 _ _ hw _ (lv_sub hl [0, 1, 2, 3, 4, 5] rfl)
            · --
              have i47 : Iv v44 0 0 := iv_eq1 c45 p44_1 (⟨by decide, by decide⟩ : Iv 0 0 0) (by decide)
              refine lv_aload_n hx hb dX10_day_70 rfl (lv_at hl 0 rfl) ?_
              refine lv_aload_n hx hb dX10_day_71 rfl (lv_at hl 0 rfl) ?_
              refine o_ci hw (oRunV cx hA hw q_X10_readAct k_m_X10_283 rfl ha0 (by decide) (As := []) (c_X10_readAct a0 ha0) (by decide) rfl hl.1 rfl (Nat.le_of_ble_eq_true rfl) dX10_day_72 (by decide)) (fun v49 σ48 H locs hp hw => ?_)
              have p49_0 := hp
              have fr := oFr_tr fr p49_0 (by decide)
              refine o_ci hw (oRunV cx hA hw q_X10_perform k_m_X10_286 rfl ha0 (by decide) (As := [.int v49]) (c_X10_perform a0 ha0 v49) (by decide) rfl hl.1 rfl (Nat.le_of_ble_eq_true rfl) dX10_day_75 (by decide)) (fun v51 σ50 H locs hp hw => ?_)
              have p51_0 := hp
              have fr := oFr_tr fr p51_0 (by decide)
              refine lv_istore (lv' := [(6, .int v51), (0, .ref a0), (1, .int v2), (2, .int j48_2), (3, .int j48_3), (4, .int j48_4), (5, .int j48_5)]) hx hb dX10_day_78 hl (by decide) rfl (fun ls hl => ?_)
              refine lv_iload hx hb dX10_day_80 (lv_at hl 0 rfl) ?_
              have J_90 : ∀ (k90_0 : Int32) (ik90_0 : Iv k90_0 0 1), ∀ (H : Heap) (locs : List Loc), oI A L τ cy D s.heap σ50 H locs → ∀ (ls : Array Slot), lv_has ls 7 [(0, .ref a0), (1, .int v2), (2, .int j48_2), (3, .int j48_3), (4, .int j48_4), (5, .int j48_5), (6, .int v51)] → W p l e ({ frames := 7, cells := 0, slots := 0, locals := 172 } : Room) s m args below meth c H locs 0 0 Q (F0 m 90 ls [.int k90_0]) := by
                intro k90_0 ik90_0 H locs hw     ls hl
                refine lv_istore (lv' := [(4, .int k90_0), (0, .ref a0), (1, .int v2), (2, .int j48_2), (3, .int j48_3), (5, .int j48_5), (6, .int v51)]) hx hb dX10_day_90 hl (by decide) rfl (fun ls hl => ?_)
                refine lv_iload hx hb dX10_day_92 (lv_at hl 0 rfl) ?_
                have frE_115 := fr
                have J_115 : ∀ (j115_2 : Int32) (j115_3 : Int32), ∀ (σ_115 : oSt) (H : Heap) (locs : List Loc), oI A L τ cy D s.heap σ_115 H locs → oFr τ fs_X10_day ts_X10_day σ σ_115 → ∀ (ls : Array Slot), lv_has ls 7 [(0, .ref a0), (1, .int v2), (2, .int j115_2), (3, .int j115_3), (4, .int k90_0), (5, .int j48_5), (6, .int v51)] → W p l e ({ frames := 7, cells := 0, slots := 0, locals := 172 } : Room) s m args below meth c H locs 0 0 Q (F0 m 115 ls []) := by
                  intro j115_2 j115_3 σ_115 H locs hw fr      ls hl
                  have fr_115 := fr
                  obtain ⟨v52, e52⟩ : ∃ y : Int32, y = j48_5 + 1 := ⟨_, rfl⟩
                  have i52 : Iv v52 1 60 := iv_add e52 i37 (⟨by decide, by decide⟩ : Iv 1 1 1) (by decide)
                  have x52 : v52.toInt = j48_5.toInt + 1 := ex_add e52 i37 (⟨by decide, by decide⟩ : Iv 1 1 1) (by decide)
                  refine lv_iinc (v := v52) (lv' := [(5, .int v52), (0, .ref a0), (1, .int v2), (2, .int j115_2), (3, .int j115_3), (4, .int k90_0), (6, .int v51)]) hx hb dX10_day_115 hl (k := 5) rfl (by rw [e52]; rfl) (by decide) rfl (fun ls hl => ?_)
                  refine lv_goto (tgt := 48) hx hb dX10_day_118 (by decide) ?_
                  exact ih_48 j115_2 j115_3 k90_0 ik90_0 v52 (iv_w i52 (by decide)) σ_115 _ _ hw fr (ms_up x52 (by decide) (iv_w (a' := 0) (b' := 60) i52 (by decide)).2 hn_48) _ (lv_sub hl [1, 2, 3, 4, 5, 0] rfl)
                refine lv_if_ne (tgt := 115) hx hb dX10_day_94 (by decide) (fun c53 => ?_) (fun c53 => ?_)
                · --
                  have i54 : Iv k90_0 1 1 := iv_ne1 c53 ik90_0 (⟨by decide, by decide⟩ : Iv 0 0 0) (by decide)
                  exact J_115 j48_2 j48_3 σ50 _ _ hw fr _ (lv_sub hl [1, 2, 3, 4, 0, 5, 6] rfl)
                · --
                  have i55 : Iv k90_0 0 0 := iv_eq1 c53 ik90_0 (⟨by decide, by decide⟩ : Iv 0 0 0) (by decide)
                  obtain ⟨v56, e56⟩ : ∃ y : Int32, y = j48_2 + 1 := ⟨_, rfl⟩
                  refine lv_iinc (v := v56) (lv' := [(2, .int v56), (4, .int k90_0), (0, .ref a0), (1, .int v2), (3, .int j48_3), (5, .int j48_5), (6, .int v51)]) hx hb dX10_day_97 hl (k := 3) rfl (by rw [e56]; rfl) (by decide) rfl (fun ls hl => ?_)
                  refine lv_iload_n hx hb dX10_day_100 rfl (lv_at hl 4 rfl) ?_
                  refine lv_iload hx hb dX10_day_101 (lv_at hl 6 rfl) ?_
                  refine lv_iadd hx hb dX10_day_103 ?_
                  refine lv_topi (fun v57 e57 => ?_)
                  refine lv_istore_n (lv' := [(3, .int v57), (2, .int v56), (4, .int k90_0), (0, .ref a0), (1, .int v2), (5, .int j48_5), (6, .int v51)]) hx hb dX10_day_104 rfl hl (by decide) rfl (fun ls hl => ?_)
                  refine lv_aload_n hx hb dX10_day_105 rfl (lv_at hl 3 rfl) ?_
                  refine g_576 cx hw ha0 k_f_X10_10 dX10_day_106 (fun v58 e58 h58 => ?_)
                  rw [show v58 = b576 from Option.some.inj (e58.symm.trans (((kr_c p51_0 (by decide)).trans ((kr_c p49_0 (by decide)).trans ((kr_c fr_48 (by decide)).trans hF576)))))]
                  refine lv_bipush (v := 59) hx hb dX10_day_109 (by decide) ?_
                  have z59 : (σ50.1 385 b576).toInt = ((σ_48.1 385 b576) : Int32).toInt := congrArg Int32.toInt (show σ50.1 385 b576 = (σ_48.1 385 b576) from ((kp_c p51_0 (by decide)).trans ((kp_c p49_0 (by decide)).trans rfl)))
                  have z60 : (σ50.1 387 b576).toInt = ((σ_48.1 387 b576) : Int32).toInt := congrArg Int32.toInt (show σ50.1 387 b576 = (σ_48.1 387 b576) from ((kp_c p51_0 (by decide)).trans ((kp_c p49_0 (by decide)).trans rfl)))
                  refine o_ci hw (oRunV cx hA hw q_X7_take k_m_X10_234 rfl hb576 (by decide) (As := [.int 59]) (c_X7_take b576 hb576 59 (iv_w (⟨by decide, by decide⟩ : Iv 59 59 59) (by decide))) (by decide) rfl hl.1 rfl (Nat.le_of_ble_eq_true rfl) dX10_day_111 (by decide)) (fun v62 σ61 H locs hp hw => ?_)
                  obtain ⟨p62_0, p62_1, p62_2⟩ := hp
                  have fr := oFr_tr fr p62_0 (by decide)
                  refine lv_pop hx hb dX10_day_114 rfl ?_
                  exact J_115 v56 v57 σ61 _ _ hw fr _ (lv_sub hl [3, 4, 1, 0, 2, 5, 6] rfl)
              refine lv_if_ge (tgt := 89) hx hb dX10_day_82 (by decide) (fun c63 => ?_) (fun c63 => ?_)
              · --
                have i64 : Iv v51 0 2147483647 := iv_le2 c63 (⟨by decide, by decide⟩ : Iv 0 0 0) (iv_top v51) (by decide)
                refine lv_iconst (v := 0) hx hb dX10_day_89 (by decide) ?_
                exact J_90 0 (iv_w (⟨by decide, by decide⟩ : Iv 0 0 0) (by decide)) _ _ hw _ (lv_sub hl [1, 2, 3, 4, 5, 6, 0] rfl)
              · --
                have i65 : Iv v51 (-2147483648) (-1) := iv_lt1 (iv_nle c63) (iv_top v51) (⟨by decide, by decide⟩ : Iv 0 0 0) (by decide)
                refine lv_iconst (v := 1) hx hb dX10_day_85 (by decide) ?_
                refine lv_goto (tgt := 90) hx hb dX10_day_86 (by decide) ?_
                exact J_90 1 (iv_w (⟨by decide, by decide⟩ : Iv 1 1 1) (by decide)) _ _ hw _ (lv_sub hl [1, 2, 3, 4, 5, 6, 0] rfl)
    exact J_48 _ 0 0 0 (iv_w (⟨by decide, by decide⟩ : Iv 0 0 0) (by decide)) 0 (iv_w (⟨by decide, by decide⟩ : Iv 0 0 0) (by decide)) σ10 _ _ hw fr (Nat.lt_succ_self _) _ (lv_sub hl [5, 4, 3, 2, 1, 0] rfl)
  · --
    refine lv_aload_n hx hb dX10_day_9 rfl (lv_at hl 1 rfl) ?_
    refine g_576 cx hw ha0 k_f_X10_10 dX10_day_10 (fun v66 e66 h66 => ?_)
    rw [show v66 = b576 from Option.some.inj (e66.symm.trans (((kr_c p2_0 (by decide)).trans hF576)))]
    refine o_cv hw (oRunV cx hA hw q_X7_empty k_m_X10_93 rfl hb576 (by decide) (As := []) (c_X7_empty b576 hb576) (by decide) rfl hl.1 rfl (Nat.le_of_ble_eq_true rfl) dX10_day_13 (by decide)) (fun σ67 H locs hp hw => ?_)
    obtain ⟨p68_0, p68_1⟩ := hp
    have fr := oFr_tr fr p68_0 (by decide)
    refine lv_iload_n hx hb dX10_day_16 rfl (lv_at hl 0 rfl) ?_
    rw [← hQ]
    exact o_ri cx rx hw dX10_day_17 ⟨fr, (by intro b hb9; rw [show b = b576 from Option.some.inj (hb9.symm.trans ((kr_c fr (by decide)).symm.trans (((kr_c p68_0 (by decide)).trans ((kr_c p2_0 (by decide)).trans hF576)))))]; exact (kn_iv (rfl) (iv_w p68_1 (by decide))))⟩
abbrev fs_X10_undo : List Nat := [129, 130, 327, 328, 329, 330, 331]
abbrev ts_X10_undo : List Nat := [32, 33, 34]
set_option maxHeartbeats 4000000 in
set_option maxRecDepth 100000 in
theorem c_X10_undo (a0 : Nat) (ha0 : oA L τ a0 9) : oMet l A L τ cy D K yX10_undo cX10_undo 1 (some .int) 3 102 [.ref a0] σ (va_Qi (fun r σ1 => oFr τ fs_X10_undo ts_X10_undo σ σ1 ∧ Iv r (-1) 10) (oPo A L τ cy D) A) := by
  refine oMk (by decide) (Nat.le_of_ble_eq_true rfl) rfl ?_
  intro p e s m args below meth c ls cx rx hA hw hl
  generalize hQ : MQ below _ args s 0 0 A = Q
  have hx := cx.1.1
  have hb := cx.1.2.1
  have hml := cx.1.2.2.1
  have hown := cx.1.2.2.2.1
  have hts := cx.1.2.2.2.2
  have hl : lv_has ls 1 [(0, .ref a0)] := hl
  have fr : oFr τ fs_X10_undo ts_X10_undo σ σ := oFr_rf
  refine lv_aload_n hx hb dX10_undo_0 rfl (lv_at hl 0 rfl) ?_
  refine g_585 cx hw ha0 k_f_X10_75 dX10_undo_1 (fun v1 e1 h1 => ?_)
  refine lv_aload_n hx hb dX10_undo_4 rfl (lv_at hl 0 rfl) ?_
  refine g_581 cx hw ha0 k_f_X10_49 dX10_undo_5 (fun v2 e2 h2 => ?_)
  refine o_ci hw (oRunV cx hA hw q_X3_bringBack k_m_X10_299 rfl h1 (by decide) (As := [.ref v2]) (c_X3_bringBack v1 h1 v2 h2) (by decide) rfl hl.1 rfl (Nat.le_of_ble_eq_true rfl) dX10_undo_8 (by decide)) (fun v4 σ3 H locs hp hw => ?_)
  obtain ⟨p4_0, p4_1⟩ := hp
  have fr := oFr_tr fr p4_0 (by decide)
  refine lv_if_eq (tgt := 24) hx hb dX10_undo_11 (by decide) (fun c5 => ?_) (fun c5 => ?_)
  · --
    have i6 : Iv v4 0 0 := iv_eq1 c5 p4_1 (⟨by decide, by decide⟩ : Iv 0 0 0) (by decide)
    refine lv_iconst (v := (-1)) hx hb dX10_undo_24 (by decide) ?_
    rw [← hQ]
    exact o_ri cx rx hw dX10_undo_25 ⟨fr, (iv_w (⟨by decide, by decide⟩ : Iv (-1) (-1) (-1)) (by decide))⟩
  · --
    have i7 : Iv v4 1 1 := iv_ne1 c5 p4_1 (⟨by decide, by decide⟩ : Iv 0 0 0) (by decide)
    refine lv_aload_n hx hb dX10_undo_14 rfl (lv_at hl 0 rfl) ?_
    refine g_585 cx hw ha0 k_f_X10_75 dX10_undo_15 (fun v8 e8 h8 => ?_)
    rw [show v8 = v1 from Option.some.inj (e8.symm.trans (((kr_c p4_0 (by decide)).trans e1)))]
    refine g_130 cx hw h1 k_f_X10_303 dX10_undo_18 (fun v9 e9 i9 => ?_)
    refine lv_goto (tgt := 25) hx hb dX10_undo_21 (by decide) ?_
    rw [← hQ]
    exact o_ri cx rx hw dX10_undo_25 ⟨fr, (iv_w i9 (by decide))⟩
abbrev fs_X10_road : List Nat := [193]
abbrev ts_X10_road : List Nat := [36]
set_option maxHeartbeats 4000000 in
set_option maxRecDepth 100000 in
theorem c_X10_road (a0 : Nat) (ha0 : oA L τ a0 9) : oMet l A L τ cy D K yX10_road cX10_road 10 (some .int) 3 66 [.ref a0] σ (va_Qi (fun r σ1 => oFr τ fs_X10_road ts_X10_road σ σ1 ∧ Iv r 0 127) (oPo A L τ cy D) A) := by
  refine oMk (by decide) (Nat.le_of_ble_eq_true rfl) rfl ?_
  intro p e s m args below meth c ls cx rx hA hw hl
  generalize hQ : MQ below _ args s 0 0 A = Q
  have hx := cx.1.1
  have hb := cx.1.2.1
  have hml := cx.1.2.2.1
  have hown := cx.1.2.2.2.1
  have hts := cx.1.2.2.2.2
  have hl : lv_has ls 10 [(0, .ref a0)] := hl
  have fr : oFr τ fs_X10_road ts_X10_road σ σ := oFr_rf
  refine lv_aload_n hx hb dX10_road_0 rfl (lv_at hl 0 rfl) ?_
  refine o_cl hw (oRunV cx hA hw q_X10_roadNow k_m_X10_335 rfl ha0 (by decide) (As := []) (c_X10_roadNow a0 ha0) (by decide) rfl hl.1 rfl (Nat.le_of_ble_eq_true rfl) dX10_road_1 (by decide)) (fun v2 σ1 H locs hp hw => ?_)
  have p2_0 := hp
  rw [p2_0] at hw
  refine lv_lstore_n (lv' := [(1, .long v2), (0, .ref a0)]) hx hb dX10_road_4 rfl hl (by decide) rfl (fun ls hl => ?_)
  refine lv_iconst (v := 0) hx hb dX10_road_5 (by decide) ?_
  refine lv_istore_n (lv' := [(3, .int 0), (1, .long v2), (0, .ref a0)]) hx hb dX10_road_6 rfl hl (by decide) rfl (fun ls hl => ?_)
  refine lv_iconst (v := 0) hx hb dX10_road_7 (by decide) ?_
  refine lv_istore (lv' := [(4, .int 0), (3, .int 0), (1, .long v2), (0, .ref a0)]) hx hb dX10_road_8 hl (by decide) rfl (fun ls hl => ?_)
  refine lv_lload_n hx hb dX10_road_10 rfl (lv_at hl 2 rfl) ?_
  refine lv_lstore (lv' := [(5, .long v2), (4, .int 0), (3, .int 0), (1, .long v2), (0, .ref a0)]) hx hb dX10_road_11 hl (by decide) rfl (fun ls hl => ?_)
  refine lv_iconst (v := 0) hx hb dX10_road_13 (by decide) ?_
  refine lv_istore (lv' := [(7, .int 0), (5, .long v2), (4, .int 0), (3, .int 0), (1, .long v2), (0, .ref a0)]) hx hb dX10_road_14 hl (by decide) rfl (fun ls hl => ?_)
  have J_16 : ∀ n16 : Nat, ∀ (j16_3 : Int32) (j16_4 : Int32) (ij16_4 : Iv j16_4 0 127) (j16_5 : Int64) (j16_7 : Int32) (ij16_7 : Iv j16_7 0 64), ∀ (H : Heap) (locs : List Loc), oI A L τ cy D s.heap σ H locs → (64 - j16_7.toInt).toNat < n16 → ∀ (ls : Array Slot), lv_has ls 10 [(0, .ref a0), (1, .long v2), (3, .int j16_3), (4, .int j16_4), (5, .long j16_5), (7, .int j16_7)] → W p l e ({ frames := 3, cells := 0, slots := 0, locals := 66 } : Room) s m args below meth c H locs 0 0 Q (F0 m 16 ls []) := by
    intro n16
    induction n16 with
    | zero => intro j16_3 j16_4 ij16_4 j16_5 j16_7 ij16_7 H locs hw  hn_16   ls hl; exact absurd hn_16 (Nat.not_lt_zero _)
    | succ n16 ih_16 =>
      intro j16_3 j16_4 ij16_4 j16_5 j16_7 ij16_7 H locs hw  hn_16   ls hl
      refine lv_iload hx hb dX10_road_16 (lv_at hl 5 rfl) ?_
      refine lv_bipush (v := 64) hx hb dX10_road_18 (by decide) ?_
      have J_74 : ∀ (H : Heap) (locs : List Loc), oI A L τ cy D s.heap σ H locs → ∀ (ls : Array Slot), lv_has ls 10 [(0, .ref a0), (1, .long v2), (3, .int j16_3), (4, .int j16_4), (5, .long j16_5), (7, .int j16_7)] → W p l e ({ frames := 3, cells := 0, slots := 0, locals := 66 } : Room) s m args below meth c H locs 0 0 Q (F0 m 74 ls []) := by
        intro  H locs hw     ls hl
        refine lv_aload_n hx hb dX10_road_74 rfl (lv_at hl 0 rfl) ?_
        refine g_577 cx hw ha0 k_f_X10_19 dX10_road_75 (fun v3 e3 h3 => ?_)
        refine o_cv hw (oRunV cx hA hw q_X4_start k_m_X10_292 rfl h3 (by decide) (As := []) (c_X4_start v3 h3) (by decide) rfl hl.1 rfl (Nat.le_of_ble_eq_true rfl) dX10_road_78 (by decide)) (fun σ4 H locs hp hw => ?_)
        have p5_0 := hp
        have fr := oFr_tr fr p5_0 (by decide)
        refine lv_aload_n hx hb dX10_road_81 rfl (lv_at hl 0 rfl) ?_
        refine g_577 cx hw ha0 k_f_X10_19 dX10_road_82 (fun v6 e6 h6 => ?_)
        rw [show v6 = v3 from Option.some.inj (e6.symm.trans (((kr_c p5_0 (by decide)).trans e3)))]
        refine lv_lload_n hx hb dX10_road_85 rfl (lv_at hl 1 rfl) ?_
        refine o_cv hw (oRunV cx hA hw q_X4_put k_m_X10_295 rfl h3 (by decide) (As := [.long v2]) (c_X4_put v3 h3 v2) (by decide) rfl hl.1 rfl (Nat.le_of_ble_eq_true rfl) dX10_road_86 (by decide)) (fun σ7 H locs hp hw => ?_)
        have p8_0 := hp
        have fr := oFr_tr fr p8_0 (by decide)
        refine lv_aload_n hx hb dX10_road_89 rfl (lv_at hl 0 rfl) ?_
        refine g_577 cx hw ha0 k_f_X10_19 dX10_road_90 (fun v9 e9 h9 => ?_)
        rw [show v9 = v3 from Option.some.inj (e9.symm.trans (((kr_c p8_0 (by decide)).trans ((kr_c p5_0 (by decide)).trans e3))))]
        refine lv_iload_n hx hb dX10_road_93 rfl (lv_at hl 2 rfl) ?_
        refine lv_i2l hx hb dX10_road_94 rfl ?_
        refine lv_topl (fun v10 e10 => ?_)
        refine o_cv hw (oRunV cx hA hw q_X4_put k_m_X10_295 rfl h3 (by decide) (As := [.long v10]) (c_X4_put v3 h3 v10) (by decide) rfl hl.1 rfl (Nat.le_of_ble_eq_true rfl) dX10_road_95 (by decide)) (fun σ11 H locs hp hw => ?_)
        have p12_0 := hp
        have fr := oFr_tr fr p12_0 (by decide)
        refine lv_aload_n hx hb dX10_road_98 rfl (lv_at hl 0 rfl) ?_
        refine g_577 cx hw ha0 k_f_X10_19 dX10_road_99 (fun v13 e13 h13 => ?_)
        rw [show v13 = v3 from Option.some.inj (e13.symm.trans (((kr_c p12_0 (by decide)).trans ((kr_c p8_0 (by decide)).trans ((kr_c p5_0 (by decide)).trans e3)))))]
        refine lv_iload hx hb dX10_road_102 (lv_at hl 3 rfl) ?_
        refine lv_i2l hx hb dX10_road_104 rfl ?_
        refine lv_topl (fun v14 e14 => ?_)
        refine o_cv hw (oRunV cx hA hw q_X4_put k_m_X10_295 rfl h3 (by decide) (As := [.long v14]) (c_X4_put v3 h3 v14) (by decide) rfl hl.1 rfl (Nat.le_of_ble_eq_true rfl) dX10_road_105 (by decide)) (fun σ15 H locs hp hw => ?_)
        have p16_0 := hp
        have fr := oFr_tr fr p16_0 (by decide)
        refine lv_lload_n hx hb dX10_road_108 rfl (lv_at hl 1 rfl) ?_
        refine o_ci hw (oRunS cx hA hw q_J13_bitCount_95d88 k_m_X10_349 (As := [.long v2]) (c_J13_bitCount_95d88 v2) (by decide) rfl hl.1 rfl (Nat.le_of_ble_eq_true rfl) dX10_road_109 (by decide)) (fun v18 σ17 H locs hp hw => ?_)
        obtain ⟨p18_0, p18_1⟩ := hp
        rw [p18_0] at hw
        rw [← hQ]
        exact o_ri cx rx hw dX10_road_112 ⟨fr, (iv_w p18_1 (by decide))⟩
      refine lv_icmp_ge (tgt := 74) hx hb dX10_road_20 (by decide) (fun c19 => ?_) (fun c19 => ?_)
      · --
        have i20 : Iv j16_7 64 64 := iv_le2 c19 (⟨by decide, by decide⟩ : Iv 64 64 64) ij16_7 (by decide)
        exact J_74 _ _ hw _ (lv_sub hl [0, 1, 2, 3, 4, 5] rfl)
      · --
        have i21 : Iv j16_7 0 63 := iv_lt1 (iv_nle c19) ij16_7 (⟨by decide, by decide⟩ : Iv 64 64 64) (by decide)
        refine lv_lload hx hb dX10_road_23 (lv_at hl 4 rfl) ?_
        refine lv_lconst (v := 0) hx hb dX10_road_25 (by decide) ?_
        refine W.lcmp hx hb dX10_road_26 ?_
        refine lv_topi (fun v22 e22 => ?_)
        have i22 : Iv v22 (-1) 1 := iv_lcmp e22
        refine lv_if_eq (tgt := 74) hx hb dX10_road_27 (by decide) (fun c23 => ?_) (fun c23 => ?_)
        · --
          have i24 : Iv v22 0 0 := iv_eq1 c23 i22 (⟨by decide, by decide⟩ : Iv 0 0 0) (by decide)
          exact J_74 _ _ hw _ (lv_sub hl [0, 1, 2, 3, 4, 5] rfl)
        · --
          refine lv_lload hx hb dX10_road_30 (lv_at hl 4 rfl) ?_
          refine lv_lload hx hb dX10_road_32 (lv_at hl 4 rfl) ?_
          refine o_ci hw (oRunS cx hA hw q_X0_firstOf k_m_X10_339 (As := [.long j16_5]) (c_X0_firstOf j16_5) (by decide) rfl hl.1 rfl (Nat.le_of_ble_eq_true rfl) dX10_road_34 (by decide)) (fun v26 σ25 H locs hp hw => ?_)
          have p26_0 := hp
          rw [p26_0] at hw
          refine o_cl hw (oRunS cx hA hw q_X0_pieceOf k_m_X10_343 (As := [.long j16_5, .int v26]) (c_X0_pieceOf j16_5 v26) (by decide) rfl hl.1 rfl (Nat.le_of_ble_eq_true rfl) dX10_road_37 (by decide)) (fun v28 σ27 H locs hp hw => ?_)
          have p28_0 := hp
          rw [p28_0] at hw
          refine lv_lstore (lv' := [(8, .long v28), (0, .ref a0), (1, .long v2), (3, .int j16_3), (4, .int j16_4), (5, .long j16_5), (7, .int j16_7)]) hx hb dX10_road_40 hl (by decide) rfl (fun ls hl => ?_)
          refine lv_lload hx hb dX10_road_42 (lv_at hl 5 rfl) ?_
          refine lv_lload hx hb dX10_road_44 (lv_at hl 0 rfl) ?_
          refine lv_ldc2 (v := (-1)) hx hb hown (hts _ k_k_X10_347) dX10_road_46 ?_
          refine lv_lxor hx hb dX10_road_49 ?_
          refine lv_topl (fun v29 e29 => ?_)
          refine lv_land hx hb dX10_road_50 ?_
          refine lv_topl (fun v30 e30 => ?_)
          refine lv_lstore (lv' := [(5, .long v30), (8, .long v28), (0, .ref a0), (1, .long v2), (3, .int j16_3), (4, .int j16_4), (7, .int j16_7)]) hx hb dX10_road_51 hl (by decide) rfl (fun ls hl => ?_)
          obtain ⟨v31, e31⟩ : ∃ y : Int32, y = j16_3 + 1 := ⟨_, rfl⟩
          refine lv_iinc (v := v31) (lv' := [(3, .int v31), (5, .long v30), (8, .long v28), (0, .ref a0), (1, .long v2), (4, .int j16_4), (7, .int j16_7)]) hx hb dX10_road_53 hl (k := 4) rfl (by rw [e31]; rfl) (by decide) rfl (fun ls hl => ?_)
          refine lv_iload hx hb dX10_road_56 (lv_at hl 5 rfl) ?_
          refine lv_lload hx hb dX10_road_58 (lv_at hl 2 rfl) ?_
          refine o_ci hw (oRunS cx hA hw q_J13_bitCount_95d88 k_m_X10_349 (As := [.long v28]) (c_J13_bitCount_95d88 v28) (by decide) rfl hl.1 rfl (Nat.le_of_ble_eq_true rfl) dX10_road_60 (by decide)) (fun v33 σ32 H locs hp hw => ?_)
          obtain ⟨p33_0, p33_1⟩ := hp
          rw [p33_0] at hw
          refine va_mmax hx hb (hml.trans hl.1.symm) hown (hts _ k_m_X10_217) (hts _ k_s_J9_max_7cf53) (hts _ k_i_J9) (hts _ k_code_J9_max_7cf53) (by decide) (Nat.le_of_ble_eq_true rfl) (by decide) (by decide) dX10_road_63 ?_
          refine lv_topi (fun v34 e34 => ?_)
          have i34 : Iv v34 0 127 := iv_max e34 ij16_4 p33_1 (by decide)
          refine lv_istore (lv' := [(4, .int v34), (3, .int v31), (5, .long v30), (8, .long v28), (0, .ref a0), (1, .long v2), (7, .int j16_7)]) hx hb dX10_road_66 hl (by decide) rfl (fun ls hl => ?_)
          obtain ⟨v35, e35⟩ : ∃ y : Int32, y = j16_7 + 1 := ⟨_, rfl⟩
          have i35 : Iv v35 1 64 := iv_add e35 i21 (⟨by decide, by decide⟩ : Iv 1 1 1) (by decide)
          have x35 : v35.toInt = j16_7.toInt + 1 := ex_add e35 i21 (⟨by decide, by decide⟩ : Iv 1 1 1) (by decide)
          refine lv_iinc (v := v35) (lv' := [(7, .int v35), (4, .int v34), (3, .int v31), (5, .long v30), (8, .long v28), (0, .ref a0), (1, .long v2)]) hx hb dX10_road_68 hl (k := 6) rfl (by rw [e35]; rfl) (by decide) rfl (fun ls hl => ?_)
          refine lv_goto (tgt := 16) hx hb dX10_road_71 (by decide) ?_
          exact ih_16 v31 v34 i34 v30 v35 (iv_w i35 (by decide)) _ _ hw (ms_up x35 (by decide) (iv_w (a' := 0) (b' := 64) i35 (by decide)).2 hn_16) _ (lv_sub hl [5, 6, 2, 1, 3, 0] rfl)
  exact J_16 _ 0 0 (iv_w (⟨by decide, by decide⟩ : Iv 0 0 0) (by decide)) v2 0 (iv_w (⟨by decide, by decide⟩ : Iv 0 0 0) (by decide)) _ _ hw (Nat.lt_succ_self _) _ (lv_sub hl [5, 4, 3, 2, 1, 0] rfl)
abbrev fs_X10_squares : List Nat := [193]
abbrev ts_X10_squares : List Nat := [36]
set_option maxHeartbeats 4000000 in
set_option maxRecDepth 100000 in
theorem c_X10_squares (a0 : Nat) (ha0 : oA L τ a0 9) : oMet l A L τ cy D K yX10_squares cX10_squares 8 (some .int) 3 66 [.ref a0] σ (va_Qi (fun r σ1 => oFr τ fs_X10_squares ts_X10_squares σ σ1 ∧ Iv r 0 127) (oPo A L τ cy D) A) := by
  refine oMk (by decide) (Nat.le_of_ble_eq_true rfl) rfl ?_
  intro p e s m args below meth c ls cx rx hA hw hl
  generalize hQ : MQ below _ args s 0 0 A = Q
  have hx := cx.1.1
  have hb := cx.1.2.1
  have hml := cx.1.2.2.1
  have hown := cx.1.2.2.2.1
  have hts := cx.1.2.2.2.2
  have hl : lv_has ls 8 [(0, .ref a0)] := hl
  have fr : oFr τ fs_X10_squares ts_X10_squares σ σ := oFr_rf
  refine lv_aload_n hx hb dX10_squares_0 rfl (lv_at hl 0 rfl) ?_
  refine o_cl hw (oRunV cx hA hw q_X10_roadNow k_m_X10_335 rfl ha0 (by decide) (As := []) (c_X10_roadNow a0 ha0) (by decide) rfl hl.1 rfl (Nat.le_of_ble_eq_true rfl) dX10_squares_1 (by decide)) (fun v2 σ1 H locs hp hw => ?_)
  have p2_0 := hp
  rw [p2_0] at hw
  refine lv_lstore_n (lv' := [(1, .long v2), (0, .ref a0)]) hx hb dX10_squares_4 rfl hl (by decide) rfl (fun ls hl => ?_)
  refine lv_lconst (v := 0) hx hb dX10_squares_5 (by decide) ?_
  refine lv_lstore_n (lv' := [(3, .long 0), (1, .long v2), (0, .ref a0)]) hx hb dX10_squares_6 rfl hl (by decide) rfl (fun ls hl => ?_)
  refine lv_iconst (v := 0) hx hb dX10_squares_7 (by decide) ?_
  refine lv_istore (lv' := [(5, .int 0), (3, .long 0), (1, .long v2), (0, .ref a0)]) hx hb dX10_squares_8 hl (by decide) rfl (fun ls hl => ?_)
  have J_10 : ∀ n10 : Nat, ∀ (j10_3 : Int64) (j10_5 : Int32) (ij10_5 : Iv j10_5 0 64), ∀ (H : Heap) (locs : List Loc), oI A L τ cy D s.heap σ H locs → (64 - j10_5.toInt).toNat < n10 → ∀ (ls : Array Slot), lv_has ls 8 [(0, .ref a0), (1, .long v2), (3, .long j10_3), (5, .int j10_5)] → W p l e ({ frames := 3, cells := 0, slots := 0, locals := 66 } : Room) s m args below meth c H locs 0 0 Q (F0 m 10 ls []) := by
    intro n10
    induction n10 with
    | zero => intro j10_3 j10_5 ij10_5 H locs hw  hn_10   ls hl; exact absurd hn_10 (Nat.not_lt_zero _)
    | succ n10 ih_10 =>
      intro j10_3 j10_5 ij10_5 H locs hw  hn_10   ls hl
      refine lv_iload hx hb dX10_squares_10 (lv_at hl 3 rfl) ?_
      refine lv_bipush (v := 64) hx hb dX10_squares_12 (by decide) ?_
      refine lv_icmp_ge (tgt := 58) hx hb dX10_squares_14 (by decide) (fun c3 => ?_) (fun c3 => ?_)
      · --
        have i4 : Iv j10_5 64 64 := iv_le2 c3 (⟨by decide, by decide⟩ : Iv 64 64 64) ij10_5 (by decide)
        refine lv_aload_n hx hb dX10_squares_58 rfl (lv_at hl 0 rfl) ?_
        refine g_577 cx hw ha0 k_f_X10_19 dX10_squares_59 (fun v5 e5 h5 => ?_)
        refine o_cv hw (oRunV cx hA hw q_X4_start k_m_X10_292 rfl h5 (by decide) (As := []) (c_X4_start v5 h5) (by decide) rfl hl.1 rfl (Nat.le_of_ble_eq_true rfl) dX10_squares_62 (by decide)) (fun σ6 H locs hp hw => ?_)
        have p7_0 := hp
        have fr := oFr_tr fr p7_0 (by decide)
        refine lv_aload_n hx hb dX10_squares_65 rfl (lv_at hl 0 rfl) ?_
        refine g_577 cx hw ha0 k_f_X10_19 dX10_squares_66 (fun v8 e8 h8 => ?_)
        rw [show v8 = v5 from Option.some.inj (e8.symm.trans (((kr_c p7_0 (by decide)).trans e5)))]
        refine lv_lload_n hx hb dX10_squares_69 rfl (lv_at hl 2 rfl) ?_
        refine o_cv hw (oRunV cx hA hw q_X4_put k_m_X10_295 rfl h5 (by decide) (As := [.long j10_3]) (c_X4_put v5 h5 j10_3) (by decide) rfl hl.1 rfl (Nat.le_of_ble_eq_true rfl) dX10_squares_70 (by decide)) (fun σ9 H locs hp hw => ?_)
        have p10_0 := hp
        have fr := oFr_tr fr p10_0 (by decide)
        refine lv_lload_n hx hb dX10_squares_73 rfl (lv_at hl 2 rfl) ?_
        refine o_ci hw (oRunS cx hA hw q_J13_bitCount_95d88 k_m_X10_349 (As := [.long j10_3]) (c_J13_bitCount_95d88 j10_3) (by decide) rfl hl.1 rfl (Nat.le_of_ble_eq_true rfl) dX10_squares_74 (by decide)) (fun v12 σ11 H locs hp hw => ?_)
        obtain ⟨p12_0, p12_1⟩ := hp
        rw [p12_0] at hw
        rw [← hQ]
        exact o_ri cx rx hw dX10_squares_77 ⟨fr, (iv_w p12_1 (by decide))⟩
      · --
        have i13 : Iv j10_5 0 63 := iv_lt1 (iv_nle c3) ij10_5 (⟨by decide, by decide⟩ : Iv 64 64 64) (by decide)
        refine lv_iload hx hb dX10_squares_17 (lv_at hl 3 rfl) ?_
        refine o_cl hw (oRunS cx hA hw q_X0_bit k_m_X10_312 (As := [.int j10_5]) (c_X0_bit j10_5) (by decide) rfl hl.1 rfl (Nat.le_of_ble_eq_true rfl) dX10_squares_19 (by decide)) (fun v15 σ14 H locs hp hw => ?_)
        have p15_0 := hp
        rw [p15_0] at hw
        refine lv_lstore (lv' := [(6, .long v15), (0, .ref a0), (1, .long v2), (3, .long j10_3), (5, .int j10_5)]) hx hb dX10_squares_22 hl (by decide) rfl (fun ls hl => ?_)
        refine lv_lload_n hx hb dX10_squares_24 rfl (lv_at hl 2 rfl) ?_
        refine lv_lload hx hb dX10_squares_25 (lv_at hl 0 rfl) ?_
        refine lv_land hx hb dX10_squares_27 ?_
        refine lv_topl (fun v16 e16 => ?_)
        refine lv_lconst (v := 0) hx hb dX10_squares_28 (by decide) ?_
        refine W.lcmp hx hb dX10_squares_29 ?_
        refine lv_topi (fun v17 e17 => ?_)
        have i17 : Iv v17 (-1) 1 := iv_lcmp e17
        have J_52 : ∀ (j52_3 : Int64), ∀ (H : Heap) (locs : List Loc), oI A L τ cy D s.heap σ H locs → ∀ (ls : Array Slot), lv_has ls 8 [(0, .ref a0), (1, .long v2), (3, .long j52_3), (5, .int j10_5), (6, .long v15)] → W p l e ({ frames := 3, cells := 0, slots := 0, locals := 66 } : Room) s m args below meth c H locs 0 0 Q (F0 m 52 ls []) := by
          intro j52_3 H locs hw     ls hl
          obtain ⟨v18, e18⟩ : ∃ y : Int32, y = j10_5 + 1 := ⟨_, rfl⟩
          have i18 : Iv v18 1 64 := iv_add e18 i13 (⟨by decide, by decide⟩ : Iv 1 1 1) (by decide)
          have x18 : v18.toInt = j10_5.toInt + 1 := ex_add e18 i13 (⟨by decide, by decide⟩ : Iv 1 1 1) (by decide)
          refine lv_iinc (v := v18) (lv' := [(5, .int v18), (0, .ref a0), (1, .long v2), (3, .long j52_3), (6, .long v15)]) hx hb dX10_squares_52 hl (k := 3) rfl (by rw [e18]; rfl) (by decide) rfl (fun ls hl => ?_)
          refine lv_goto (tgt := 10) hx hb dX10_squares_55 (by decide) ?_
          exact ih_10 j52_3 v18 (iv_w i18 (by decide)) _ _ hw (ms_up x18 (by decide) (iv_w (a' := 0) (b' := 64) i18 (by decide)).2 hn_10) _ (lv_sub hl [1, 2, 3, 0] rfl)
        refine lv_if_eq (tgt := 52) hx hb dX10_squares_30 (by decide) (fun c19 => ?_) (fun c19 => ?_)
        · --
          have i20 : Iv v17 0 0 := iv_eq1 c19 i17 (⟨by decide, by decide⟩ : Iv 0 0 0) (by decide)
          exact J_52 j10_3 _ _ hw _ (lv_sub hl [1, 2, 3, 4, 0] rfl)
        · --
          refine lv_lload hx hb dX10_squares_33 (lv_at hl 0 rfl) ?_
          refine o_cl hw (oRunS cx hA hw q_X0_beside k_m_X10_317 (As := [.long v15]) (c_X0_beside v15) (by decide) rfl hl.1 rfl (Nat.le_of_ble_eq_true rfl) dX10_squares_35 (by decide)) (fun v22 σ21 H locs hp hw => ?_)
          have p22_0 := hp
          rw [p22_0] at hw
          refine lv_lload_n hx hb dX10_squares_38 rfl (lv_at hl 2 rfl) ?_
          refine lv_land hx hb dX10_squares_39 ?_
          refine lv_topl (fun v23 e23 => ?_)
          refine o_ci hw (oRunS cx hA hw q_J13_bitCount_95d88 k_m_X10_349 (As := [.long v23]) (c_J13_bitCount_95d88 v23) (by decide) rfl hl.1 rfl (Nat.le_of_ble_eq_true rfl) dX10_squares_40 (by decide)) (fun v25 σ24 H locs hp hw => ?_)
          obtain ⟨p25_0, p25_1⟩ := hp
          rw [p25_0] at hw
          refine lv_iconst (v := 3) hx hb dX10_squares_43 (by decide) ?_
          refine lv_icmp_lt (tgt := 52) hx hb dX10_squares_44 (by decide) (fun c26 => ?_) (fun c26 => ?_)
          · --
            have i27 : Iv v25 0 2 := iv_lt1 c26 p25_1 (⟨by decide, by decide⟩ : Iv 3 3 3) (by decide)
            exact J_52 j10_3 _ _ hw _ (lv_sub hl [1, 2, 3, 4, 0] rfl)
          · --
            have i28 : Iv v25 3 127 := iv_le2 (iv_nlt c26) (⟨by decide, by decide⟩ : Iv 3 3 3) p25_1 (by decide)
            refine lv_lload_n hx hb dX10_squares_47 rfl (lv_at hl 3 rfl) ?_
            refine lv_lload hx hb dX10_squares_48 (lv_at hl 0 rfl) ?_
            refine lv_lor hx hb dX10_squares_50 ?_
            refine lv_topl (fun v29 e29 => ?_)
            refine lv_lstore_n (lv' := [(3, .long v29), (6, .long v15), (0, .ref a0), (1, .long v2), (5, .int j10_5)]) hx hb dX10_squares_51 rfl hl (by decide) rfl (fun ls hl => ?_)
            exact J_52 v29 _ _ hw _ (lv_sub hl [2, 3, 0, 4, 1] rfl)
  exact J_10 _ 0 0 (iv_w (⟨by decide, by decide⟩ : Iv 0 0 0) (by decide)) _ _ hw (Nat.lt_succ_self _) _ (lv_sub hl [3, 2, 1, 0] rfl)
abbrev fs_X10_cart : List Nat := [193]
abbrev ts_X10_cart : List Nat := [32, 36]
set_option maxHeartbeats 4000000 in
set_option maxRecDepth 100000 in
theorem c_X10_cart (a0 : Nat) (ha0 : oA L τ a0 9) (a1 : Int32) (a2 : Int32) : oMet l A L τ cy D K yX10_cart cX10_cart 8 (some .int) 3 66 [.ref a0, .int a1, .int a2] σ (va_Qi (fun r σ1 => oFr τ fs_X10_cart ts_X10_cart σ σ1) (oPo A L τ cy D) A) := by
  refine oMk (by decide) (Nat.le_of_ble_eq_true rfl) rfl ?_
  intro p e s m args below meth c ls cx rx hA hw hl
  generalize hQ : MQ below _ args s 0 0 A = Q
  have hx := cx.1.1
  have hb := cx.1.2.1
  have hml := cx.1.2.2.1
  have hown := cx.1.2.2.2.1
  have hts := cx.1.2.2.2.2
  have hl : lv_has ls 8 [(0, .ref a0), (1, .int a1), (2, .int a2)] := hl
  have fr : oFr τ fs_X10_cart ts_X10_cart σ σ := oFr_rf
  refine lv_aload_n hx hb dX10_cart_0 rfl (lv_at hl 0 rfl) ?_
  refine g_578 cx hw ha0 k_f_X10_26 dX10_cart_1 (fun v1 e1 h1 => ?_)
  refine lv_iload_n hx hb dX10_cart_4 rfl (lv_at hl 1 rfl) ?_
  refine o_ci hw (oRunV cx hA hw q_X2_isThere k_m_X10_135 rfl h1 (by decide) (As := [.int a1]) (c_X2_isThere v1 h1 a1) (by decide) rfl hl.1 rfl (Nat.le_of_ble_eq_true rfl) dX10_cart_5 (by decide)) (fun v3 σ2 H locs hp hw => ?_)
  obtain ⟨p3_0, p3_1, p3_2⟩ := hp
  rw [p3_0] at hw
  refine lv_if_eq (tgt := 22) hx hb dX10_cart_8 (by decide) (fun c4 => ?_) (fun c4 => ?_)
  · --
    have i5 : Iv v3 0 0 := iv_eq1 c4 p3_1 (⟨by decide, by decide⟩ : Iv 0 0 0) (by decide)
    refine lv_iconst (v := (-1)) hx hb dX10_cart_22 (by decide) ?_
    rw [← hQ]
    exact o_ri cx rx hw dX10_cart_23 fr
  · --
    have i6 : Iv v3 1 1 := iv_ne1 c4 p3_1 (⟨by decide, by decide⟩ : Iv 0 0 0) (by decide)
    have i7 : Iv a1 0 63 := p3_2 c4
    refine lv_aload_n hx hb dX10_cart_11 rfl (lv_at hl 0 rfl) ?_
    refine g_578 cx hw ha0 k_f_X10_26 dX10_cart_12 (fun v8 e8 h8 => ?_)
    rw [show v8 = v1 from Option.some.inj (e8.symm.trans (e1))]
    refine lv_iload_n hx hb dX10_cart_15 rfl (lv_at hl 2 rfl) ?_
    refine o_ci hw (oRunV cx hA hw q_X2_isThere k_m_X10_135 rfl h1 (by decide) (As := [.int a2]) (c_X2_isThere v1 h1 a2) (by decide) rfl hl.1 rfl (Nat.le_of_ble_eq_true rfl) dX10_cart_16 (by decide)) (fun v10 σ9 H locs hp hw => ?_)
    obtain ⟨p10_0, p10_1, p10_2⟩ := hp
    rw [p10_0] at hw
    refine lv_if_ne (tgt := 24) hx hb dX10_cart_19 (by decide) (fun c11 => ?_) (fun c11 => ?_)
    · --
      have i12 : Iv v10 1 1 := iv_ne1 c11 p10_1 (⟨by decide, by decide⟩ : Iv 0 0 0) (by decide)
      have i13 : Iv a2 0 63 := p10_2 c11
      refine lv_aload_n hx hb dX10_cart_24 rfl (lv_at hl 0 rfl) ?_
      refine o_cl hw (oRunV cx hA hw q_X10_roadNow k_m_X10_335 rfl ha0 (by decide) (As := []) (c_X10_roadNow a0 ha0) (by decide) rfl hl.1 rfl (Nat.le_of_ble_eq_true rfl) dX10_cart_25 (by decide)) (fun v15 σ14 H locs hp hw => ?_)
      have p15_0 := hp
      rw [p15_0] at hw
      refine lv_lstore_n (lv' := [(3, .long v15), (0, .ref a0), (1, .int a1), (2, .int a2)]) hx hb dX10_cart_28 rfl hl (by decide) rfl (fun ls hl => ?_)
      refine lv_aload_n hx hb dX10_cart_29 rfl (lv_at hl 1 rfl) ?_
      refine g_584 cx hw ha0 k_f_X10_68 dX10_cart_30 (fun v16 e16 h16 => ?_)
      refine lv_lload_n hx hb dX10_cart_33 rfl (lv_at hl 0 rfl) ?_
      refine lv_iload_n hx hb dX10_cart_34 rfl (lv_at hl 3 rfl) ?_
      refine o_cv hw (oRunV cx hA hw q_X8_measure k_m_X10_354 rfl h16 (by decide) (As := [.long v15, .int a2]) (c_X8_measure v16 h16 v15 a2) (by decide) rfl hl.1 rfl (Nat.le_of_ble_eq_true rfl) dX10_cart_35 (by decide)) (fun σ17 H locs hp hw => ?_)
      have p18_0 := hp
      have fr := oFr_tr fr p18_0 (by decide)
      refine lv_aload_n hx hb dX10_cart_38 rfl (lv_at hl 1 rfl) ?_
      refine g_584 cx hw ha0 k_f_X10_68 dX10_cart_39 (fun v19 e19 h19 => ?_)
      rw [show v19 = v16 from Option.some.inj (e19.symm.trans (((kr_c p18_0 (by decide)).trans e16)))]
      refine g_448 cx hw h16 k_f_X10_358 dX10_cart_42 (fun v20 e20 h20 => ?_)
      refine lv_iload_n hx hb dX10_cart_45 rfl (lv_at hl 2 rfl) ?_
      refine o_iald cx hw h20 (by decide) rfl (iv_in i7 (by decide)) dX10_cart_46 (fun v21 e21 b21 => ?_)
      refine lv_istore (lv' := [(5, .int v21), (3, .long v15), (0, .ref a0), (1, .int a1), (2, .int a2)]) hx hb dX10_cart_47 hl (by decide) rfl (fun ls hl => ?_)
      refine lv_iload hx hb dX10_cart_49 (lv_at hl 0 rfl) ?_
      refine lv_iconst (v := (-1)) hx hb dX10_cart_51 (by decide) ?_
      refine lv_icmp_ne (tgt := 58) hx hb dX10_cart_52 (by decide) (fun c22 => ?_) (fun c22 => ?_)
      · --
        refine lv_aload_n hx hb dX10_cart_58 rfl (lv_at hl 2 rfl) ?_
        refine g_577 cx hw ha0 k_f_X10_19 dX10_cart_59 (fun v23 e23 h23 => ?_)
        refine o_cv hw (oRunV cx hA hw q_X4_start k_m_X10_292 rfl h23 (by decide) (As := []) (c_X4_start v23 h23) (by decide) rfl hl.1 rfl (Nat.le_of_ble_eq_true rfl) dX10_cart_62 (by decide)) (fun σ24 H locs hp hw => ?_)
        have p25_0 := hp
        have fr := oFr_tr fr p25_0 (by decide)
        refine lv_aload_n hx hb dX10_cart_65 rfl (lv_at hl 2 rfl) ?_
        refine g_577 cx hw ha0 k_f_X10_19 dX10_cart_66 (fun v26 e26 h26 => ?_)
        rw [show v26 = v23 from Option.some.inj (e26.symm.trans (((kr_c p25_0 (by decide)).trans e23)))]
        refine lv_iload_n hx hb dX10_cart_69 rfl (lv_at hl 3 rfl) ?_
        refine lv_i2l hx hb dX10_cart_70 rfl ?_
        refine lv_topl (fun v27 e27 => ?_)
        refine o_cv hw (oRunV cx hA hw q_X4_put k_m_X10_295 rfl h23 (by decide) (As := [.long v27]) (c_X4_put v23 h23 v27) (by decide) rfl hl.1 rfl (Nat.le_of_ble_eq_true rfl) dX10_cart_71 (by decide)) (fun σ28 H locs hp hw => ?_)
        have p29_0 := hp
        have fr := oFr_tr fr p29_0 (by decide)
        refine lv_iload_n hx hb dX10_cart_74 rfl (lv_at hl 3 rfl) ?_
        refine lv_istore (lv' := [(6, .int a1), (5, .int v21), (3, .long v15), (0, .ref a0), (1, .int a1), (2, .int a2)]) hx hb dX10_cart_75 hl (by decide) rfl (fun ls hl => ?_)
        refine lv_iload hx hb dX10_cart_77 (lv_at hl 1 rfl) ?_
        refine lv_iconst (v := 1) hx hb dX10_cart_79 (by decide) ?_
        refine lv_isub hx hb dX10_cart_80 ?_
        refine lv_topi (fun v30 e30 => ?_)
        refine lv_istore (lv' := [(7, .int v30), (6, .int a1), (5, .int v21), (3, .long v15), (0, .ref a0), (1, .int a1), (2, .int a2)]) hx hb dX10_cart_81 hl (by decide) rfl (fun ls hl => ?_)
        have frE_83 := fr
        have J_83 : ∀ n83 : Nat, ∀ (j83_6 : Int32) (j83_7 : Int32), ∀ (σ_83 : oSt) (H : Heap) (locs : List Loc), oI A L τ cy D s.heap σ_83 H locs → oFr τ fs_X10_cart ts_X10_cart σ σ_83 → (j83_7.toInt - (-2147483648)).toNat < n83 → ∀ (ls : Array Slot), lv_has ls 8 [(0, .ref a0), (1, .int a1), (2, .int a2), (3, .long v15), (5, .int v21), (6, .int j83_6), (7, .int j83_7)] → W p l e ({ frames := 3, cells := 0, slots := 0, locals := 66 } : Room) s m args below meth c H locs 0 0 Q (F0 m 83 ls []) := by
          intro n83
          induction n83 with
          | zero => intro j83_6 j83_7 σ_83 H locs hw fr   hn_83   ls hl; exact absurd hn_83 (Nat.not_lt_zero _)
          | succ n83 ih_83 =>
            intro j83_6 j83_7 σ_83 H locs hw fr   hn_83   ls hl
            have fr_83 := fr
            refine lv_iload hx hb dX10_cart_83 (lv_at hl 6 rfl) ?_
            refine lv_if_lt (tgt := 117) hx hb dX10_cart_85 (by decide) (fun c31 => ?_) (fun c31 => ?_)
            · --
              have i32 : Iv j83_7 (-2147483648) (-1) := iv_lt1 c31 (iv_top j83_7) (⟨by decide, by decide⟩ : Iv 0 0 0) (by decide)
              refine lv_iload hx hb dX10_cart_117 (lv_at hl 4 rfl) ?_
              rw [← hQ]
              exact o_ri cx rx hw dX10_cart_119 fr
            · --
              have i33 : Iv j83_7 0 2147483647 := iv_le2 (iv_nlt c31) (⟨by decide, by decide⟩ : Iv 0 0 0) (iv_top j83_7) (by decide)
              refine lv_aload_n hx hb dX10_cart_88 rfl (lv_at hl 0 rfl) ?_
              refine g_584 cx hw ha0 k_f_X10_68 dX10_cart_89 (fun v34 e34 h34 => ?_)
              rw [show v34 = v16 from Option.some.inj (e34.symm.trans (((kr_c fr_83 (by decide)).trans ((kr_c frE_83 (by decide)).symm.trans (((kr_c p29_0 (by decide)).trans ((kr_c p25_0 (by decide)).trans ((kr_c p18_0 (by decide)).trans e16))))))))]
              refine lv_iload hx hb dX10_cart_92 (lv_at hl 5 rfl) ?_
              refine lv_iload hx hb dX10_cart_94 (lv_at hl 6 rfl) ?_
              refine o_ci hw (oRunV cx hA hw q_X8_leastBeside k_m_X10_361 rfl h16 (by decide) (As := [.int j83_6, .int j83_7]) (c_X8_leastBeside v16 h16 j83_6 j83_7) (by decide) rfl hl.1 rfl (Nat.le_of_ble_eq_true rfl) dX10_cart_96 (by decide)) (fun v36 σ35 H locs hp hw => ?_)
              have p36_0 := hp
              rw [p36_0] at hw
              refine lv_istore (lv' := [(6, .int v36), (0, .ref a0), (1, .int a1), (2, .int a2), (3, .long v15), (5, .int v21), (7, .int j83_7)]) hx hb dX10_cart_99 hl (by decide) rfl (fun ls hl => ?_)
              refine lv_aload_n hx hb dX10_cart_101 rfl (lv_at hl 1 rfl) ?_
              refine g_577 cx hw ha0 k_f_X10_19 dX10_cart_102 (fun v37 e37 h37 => ?_)
              rw [show v37 = v23 from Option.some.inj (e37.symm.trans (((kr_c fr_83 (by decide)).trans ((kr_c frE_83 (by decide)).symm.trans (((kr_c p29_0 (by decide)).trans ((kr_c p25_0 (by decide)).trans e23)))))))]
              refine lv_iload hx hb dX10_cart_105 (lv_at hl 0 rfl) ?_
              refine lv_i2l hx hb dX10_cart_107 rfl ?_
              refine lv_topl (fun v38 e38 => ?_)
              refine o_cv hw (oRunV cx hA hw q_X4_put k_m_X10_295 rfl h23 (by decide) (As := [.long v38]) (c_X4_put v23 h23 v38) (by decide) rfl hl.1 rfl (Nat.le_of_ble_eq_true rfl) dX10_cart_108 (by decide)) (fun σ39 H locs hp hw => ?_)
              have p40_0 := hp
              have fr := oFr_tr fr p40_0 (by decide)
              obtain ⟨v41, e41⟩ : ∃ y : Int32, y = j83_7 + (-1) := ⟨_, rfl⟩
              have i41 : Iv v41 (-1) 2147483646 := iv_add e41 i33 (⟨by decide, by decide⟩ : Iv (-1) (-1) (-1)) (by decide)
              have x41 : v41.toInt = j83_7.toInt + (-1) := ex_add e41 i33 (⟨by decide, by decide⟩ : Iv (-1) (-1) (-1)) (by decide)
              refine lv_iinc (v := v41) (lv' := [(7, .int v41), (6, .int v36), (0, .ref a0), (1, .int a1), (2, .int a2), (3, .long v15), (5, .int v21)]) hx hb dX10_cart_111 hl (k := 6) rfl (by rw [e41]; rfl) (by decide) rfl (fun ls hl => ?_)
              refine lv_goto (tgt := 83) hx hb dX10_cart_114 (by decide) ?_
              exact ih_83 v36 v41 σ39 _ _ hw fr (ms_dn x41 (by decide) (iv_w (a' := (-2147483648)) (b' := 2147483647) i41 (by decide)).1 hn_83) _ (lv_sub hl [2, 3, 4, 5, 6, 1, 0] rfl)
        exact J_83 _ a1 v30 σ28 _ _ hw fr (Nat.lt_succ_self _) _ (lv_sub hl [4, 5, 6, 3, 2, 1, 0] rfl)
      · --
        have i42 : Iv v21 (-1) (-1) := iv_eq1 c22 (iv_top v21) (⟨by decide, by decide⟩ : Iv (-1) (-1) (-1)) (by decide)
        refine lv_bipush (v := (-2)) hx hb dX10_cart_55 (by decide) ?_
        rw [← hQ]
        exact o_ri cx rx hw dX10_cart_57 fr
    · --
      have i43 : Iv v10 0 0 := iv_eq1 c11 p10_1 (⟨by decide, by decide⟩ : Iv 0 0 0) (by decide)
      refine lv_iconst (v := (-1)) hx hb dX10_cart_22 (by decide) ?_
      rw [← hQ]
      exact o_ri cx rx hw dX10_cart_23 fr
end OM
