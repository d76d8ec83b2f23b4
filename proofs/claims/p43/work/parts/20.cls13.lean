section OM
variable {l : Launch} {A : Nat → Prop} {L : List Nat} {τ : Nat → Nat} {cy : Nat → ClassId} {D : va_G} {K : (Nat → Nat) × (Nat → Nat)} {σ : oSt}
abbrev fs_X10_meadow : List Nat := [64, 65, 66, 68, 69, 70, 130, 327, 328, 329, 330, 331, 385, 386, 387, 587, 588]
abbrev ts_X10_meadow : List Nat := [32, 34]
set_option maxHeartbeats 4000000 in
set_option maxRecDepth 100000 in
theorem c_X10_meadow (a0 : Nat) (ha0 : oA L τ a0 9) : oMet l A L τ cy D K yX10_meadow cX10_meadow 2 (some .int) 6 155 [.ref a0] σ (va_Qi (fun r σ1 => oFr τ fs_X10_meadow ts_X10_meadow σ σ1 ∧ (∀ b, σ.2.2.2.2 576 a0 = some b → Iv (σ1.1 385 b) 0 0) ∧ (∀ V, NV σ a0 V → (r.toInt < 0 → NV σ1 a0 V) ∧ (0 ≤ r.toInt → NV σ1 a0 0)) ∧ (∀ g, σ.2.2.2.2 578 a0 = some g → ∀ b, σ.2.2.2.2 576 a0 = some b → (r.toInt < 0 ∧ mdM (oRw σ 384 b) (σ.1 385 b).toInt < 0 ∧ σ1.1 64 g = σ.1 64 g ∧ σ1.1 65 g = σ.1 65 g ∧ σ1.2.1 69 g = σ.2.1 69 g) ∨ (0 ≤ r.toInt ∧ 16 * (σ1.1 64 g).toInt + (σ1.1 65 g).toInt = mdM (oRw σ 384 b) (σ.1 385 b).toInt ∧ 1 ≤ (σ1.1 65 g).toInt ∧ (σ1.1 65 g).toInt ≤ 8 ∧ ∀ i : Nat, lb (σ1.2.1 69 g) i = mkM (oRw σ 384 b) (σ.1 385 b).toInt i)) ∧ ((r.toInt < 0 ∧ σ1.1 587 a0 = σ.1 587 a0) ∨ (0 ≤ r.toInt ∧ σ1.1 587 a0 = 0))) (oPo A L τ cy D) A) := by
  refine oMk (by decide) (Nat.le_of_ble_eq_true rfl) rfl ?_
  intro p e s m args below meth c ls cx rx hA hw hl
  generalize hQ : MQ below _ args s 0 0 A = Q
  have hx := cx.1.1
  have hb := cx.1.2.1
  have hml := cx.1.2.2.1
  have hown := cx.1.2.2.2.1
  have hts := cx.1.2.2.2.2
  have hl : lv_has ls 2 [(0, .ref a0)] := hl
  have fr : oFr τ fs_X10_meadow ts_X10_meadow σ σ := oFr_rf
  obtain ⟨b576, hF576, hb576⟩ := hw.2.2.2.2.2 576 a0 6 (by rw [ha0.2]; rfl) ha0.1
  obtain ⟨b576, hF576, hb576⟩ := hw.2.2.2.2.2 576 a0 6 (by rw [ha0.2]; rfl) ha0.1
  obtain ⟨b578, hF578, hb578⟩ := hw.2.2.2.2.2 578 a0 1 (by rw [ha0.2]; rfl) ha0.1
  obtain ⟨b581, hF581, hb581⟩ := hw.2.2.2.2.2 581 a0 5 (by rw [ha0.2]; rfl) ha0.1
  obtain ⟨b582, hF582, hb582⟩ := hw.2.2.2.2.2 582 a0 5 (by rw [ha0.2]; rfl) ha0.1
  obtain ⟨b583, hF583, hb583⟩ := hw.2.2.2.2.2 583 a0 0 (by rw [ha0.2]; rfl) ha0.1
  obtain ⟨b585, hF585, hb585⟩ := hw.2.2.2.2.2 585 a0 2 (by rw [ha0.2]; rfl) ha0.1
  obtain ⟨b586, hF586, hb586⟩ := hw.2.2.2.2.2 586 a0 41 (by rw [ha0.2]; rfl) ha0.1
  have iz385 : Iv (σ.1 385 b576) (0) 80 := o_fb (j := 385) hw hb576 rfl
  refine lv_aload_n hx hb dX10_meadow_0 rfl (lv_at hl 0 rfl) ?_
  refine g_578 cx hw ha0 k_f_X10_26 dX10_meadow_1 (fun v1 e1 h1 => ?_)
  rw [show v1 = b578 from Option.some.inj (e1.symm.trans (hF578))]
  refine lv_aload_n hx hb dX10_meadow_4 rfl (lv_at hl 0 rfl) ?_
  refine g_576 cx hw ha0 k_f_X10_10 dX10_meadow_5 (fun v2 e2 h2 => ?_)
  rw [show v2 = b576 from Option.some.inj (e2.symm.trans (hF576))]
  refine o_ci hw (oRunV cx hA hw q_X2_faultIn k_m_X10_104 rfl hb578 (by decide) (As := [.ref b576]) (c_X2_faultIn b578 hb578 b576 hb576) (by decide) rfl hl.1 rfl (Nat.le_of_ble_eq_true rfl) dX10_meadow_8 (by decide)) (fun v4 σ3 H locs hp hw => ?_)
  obtain ⟨p4_0, p4_1⟩ := hp
  have fr := oFr_tr fr p4_0 (by decide)
  refine lv_istore_n (lv' := [(1, .int v4), (0, .ref a0)]) hx hb dX10_meadow_11 rfl hl (by decide) rfl (fun ls hl => ?_)
  refine lv_iload_n hx hb dX10_meadow_12 rfl (lv_at hl 0 rfl) ?_
  refine lv_if_ne (tgt := 48) hx hb dX10_meadow_13 (by decide) (fun c5 => ?_) (fun c5 => ?_)
  · --
    refine lv_aload_n hx hb dX10_meadow_48 rfl (lv_at hl 1 rfl) ?_
    refine g_576 cx hw ha0 k_f_X10_10 dX10_meadow_49 (fun v6 e6 h6 => ?_)
    rw [show v6 = b576 from Option.some.inj (e6.symm.trans (((kr_c p4_0 (by decide)).trans hF576)))]
    refine o_cv hw (oRunV cx hA hw q_X7_empty k_m_X10_93 rfl hb576 (by decide) (As := []) (c_X7_empty b576 hb576) (by decide) rfl hl.1 rfl (Nat.le_of_ble_eq_true rfl) dX10_meadow_52 (by decide)) (fun σ7 H locs hp hw => ?_)
    obtain ⟨p8_0, p8_1⟩ := hp
    have fr := oFr_tr fr p8_0 (by decide)
    refine lv_iload_n hx hb dX10_meadow_55 rfl (lv_at hl 0 rfl) ?_
    refine lv_if_ne (tgt := 77) hx hb dX10_meadow_56 (by decide) (fun c9 => ?_) (fun c9 => ?_)
    · --
      refine lv_iload_n hx hb dX10_meadow_77 rfl (lv_at hl 0 rfl) ?_
      rw [← hQ]
      exact o_ri cx rx hw dX10_meadow_78 ⟨fr, (by intro b hb9; rw [show b = b576 from Option.some.inj (hb9.symm.trans ((kr_c fr (by decide)).symm.trans (((kr_c p8_0 (by decide)).trans ((kr_c p4_0 (by decide)).trans hF576)))))]; exact (kn_iv (rfl) (iv_w p8_1 (by decide)))), (by intro V h; exact ⟨fun _ => (nv_0 (nv_0 h p4_0 (by decide +kernel)) p8_0 (by decide +kernel)), fun h9 => absurd h9 (by have := (p8_1).1; have := (p8_1).2; have := (iz385).1; have := (iz385).2; have : (v4 : Int32).toInt ≠ (0 : Int32).toInt := fun q => c5 (Int32.toInt_inj.mp q); have : (v4 : Int32).toInt ≠ (0 : Int32).toInt := fun q => c9 (Int32.toInt_inj.mp q); have : (0 : Int32).toInt = 0 := (by decide); omega)⟩), (by intro g hg9 b hb9; rw [show b = b576 from Option.some.inj (hb9.symm.trans hF576), show g = b578 from Option.some.inj (hg9.symm.trans hF578)]; exact Or.inl ⟨(by have := (p8_1).1; have := (p8_1).2; have := (iz385).1; have := (iz385).2; have : (v4 : Int32).toInt ≠ (0 : Int32).toInt := fun q => c5 (Int32.toInt_inj.mp q); have : (v4 : Int32).toInt ≠ (0 : Int32).toInt := fun q => c9 (Int32.toInt_inj.mp q); have : (0 : Int32).toInt = 0 := (by decide); omega), (by have := (p8_1).1; have := (p8_1).2; have := (iz385).1; have := (iz385).2; have : (v4 : Int32).toInt ≠ (0 : Int32).toInt := fun q => c5 (Int32.toInt_inj.mp q); have : (v4 : Int32).toInt ≠ (0 : Int32).toInt := fun q => c9 (Int32.toInt_inj.mp q); have : (0 : Int32).toInt = 0 := (by decide); omega), ((kp_c p8_0 (by decide)).trans ((kp_c p4_0 (by decide)).trans rfl)), ((kp_c p8_0 (by decide)).trans ((kp_c p4_0 (by decide)).trans rfl)), ((kl_c p8_0 (by decide)).trans ((kl_c p4_0 (by decide)).trans rfl))⟩), (by exact Or.inl ⟨(by have := (p8_1).1; have := (p8_1).2; have := (iz385).1; have := (iz385).2; have : (v4 : Int32).toInt ≠ (0 : Int32).toInt := fun q => c5 (Int32.toInt_inj.mp q); have : (v4 : Int32).toInt ≠ (0 : Int32).toInt := fun q => c9 (Int32.toInt_inj.mp q); have : (0 : Int32).toInt = 0 := (by decide); omega), ((kp_c p8_0 (by decide)).trans ((kp_c p4_0 (by decide)).trans rfl))⟩)⟩
    · --
      have i10 : Iv v4 0 0 := iv_eq1 c9 (iv_top v4) (⟨by decide, by decide⟩ : Iv 0 0 0) (by decide)
      refine lv_aload_n hx hb dX10_meadow_59 rfl (lv_at hl 1 rfl) ?_
      refine g_578 cx hw ha0 k_f_X10_26 dX10_meadow_60 (fun v11 e11 h11 => ?_)
      rw [show v11 = b578 from Option.some.inj (e11.symm.trans (((kr_c p8_0 (by decide)).trans ((kr_c p4_0 (by decide)).trans hF578))))]
      refine g_64 cx hw hb578 k_f_X10_121 dX10_meadow_63 (fun v12 e12 i12 => ?_)
      have z12 : v12.toInt = (σ7.1 64 b578).toInt := congrArg Int32.toInt e12
      refine lv_aload_n hx hb dX10_meadow_66 rfl (lv_at hl 1 rfl) ?_
      refine g_578 cx hw ha0 k_f_X10_26 dX10_meadow_67 (fun v13 e13 h13 => ?_)
      rw [show v13 = b578 from Option.some.inj (e13.symm.trans (((kr_c p8_0 (by decide)).trans ((kr_c p4_0 (by decide)).trans hF578))))]
      refine g_65 cx hw hb578 k_f_X10_124 dX10_meadow_70 (fun v14 e14 i14 => ?_)
      have z14 : v14.toInt = (σ7.1 65 b578).toInt := congrArg Int32.toInt e14
      have i15 : Iv v14 1 8 := (by have := (i10).1; have := (i10).2; have := (i12).1; have := (i12).2; have := (i14).1; have := (i14).2; have := (p8_1).1; have := (p8_1).2; have := (iz385).1; have := (iz385).2; have : (σ7.1 64 b578).toInt = (v12 : Int32).toInt := congrArg Int32.toInt (show σ7.1 64 b578 = v12 from e12.symm); have : (σ7.1 65 b578).toInt = (v14 : Int32).toInt := congrArg Int32.toInt (show σ7.1 65 b578 = v14 from e14.symm); have : (v4 : Int32).toInt ≠ (0 : Int32).toInt := fun q => c5 (Int32.toInt_inj.mp q); have : (v4 : Int32).toInt = (0 : Int32).toInt := congrArg Int32.toInt c9; have : (0 : Int32).toInt = 0 := (by decide); exact ⟨by omega, by omega⟩)
      have i16 : Iv v12 1 8 := (by have := (i10).1; have := (i10).2; have := (i12).1; have := (i12).2; have := (i15).1; have := (i15).2; have := (p8_1).1; have := (p8_1).2; have := (iz385).1; have := (iz385).2; have : (σ7.1 64 b578).toInt = (v12 : Int32).toInt := congrArg Int32.toInt (show σ7.1 64 b578 = v12 from e12.symm); have : (σ7.1 65 b578).toInt = (v14 : Int32).toInt := congrArg Int32.toInt (show σ7.1 65 b578 = v14 from e14.symm); have : (v4 : Int32).toInt ≠ (0 : Int32).toInt := fun q => c5 (Int32.toInt_inj.mp q); have : (v4 : Int32).toInt = (0 : Int32).toInt := congrArg Int32.toInt c9; have : (0 : Int32).toInt = 0 := (by decide); exact ⟨by omega, by omega⟩)
      refine lv_imul hx hb dX10_meadow_73 ?_
      refine lv_topi (fun v17 e17 => ?_)
      have i17 : Iv v17 1 64 := iv_mul e17 i16 i15 (by decide)
      refine lv_goto (tgt := 78) hx hb dX10_meadow_74 (by decide) ?_
      rw [← hQ]
      exact o_ri cx rx hw dX10_meadow_78 ⟨fr, (by intro b hb9; rw [show b = b576 from Option.some.inj (hb9.symm.trans ((kr_c fr (by decide)).symm.trans (((kr_c p8_0 (by decide)).trans ((kr_c p4_0 (by decide)).trans hF576)))))]; exact (kn_iv (rfl) (iv_w p8_1 (by decide)))), (by intro V h; exact ⟨fun _ => (nv_0 (nv_0 h p4_0 (by decide +kernel)) p8_0 (by decide +kernel)), fun h9 => absurd h9 (by have := (i10).1; have := (i10).2; have := (i17).1; have := (i17).2; have := (p8_1).1; have := (p8_1).2; have := (i16).1; have := (i16).2; have := (i15).1; have := (i15).2; have := (iz385).1; have := (iz385).2; have : (σ7.1 64 b578).toInt = (v12 : Int32).toInt := congrArg Int32.toInt (show σ7.1 64 b578 = v12 from e12.symm); have : (σ7.1 65 b578).toInt = (v14 : Int32).toInt := congrArg Int32.toInt (show σ7.1 65 b578 = v14 from e14.symm); have : (v4 : Int32).toInt ≠ (0 : Int32).toInt := fun q => c5 (Int32.toInt_inj.mp q); have : (v4 : Int32).toInt = (0 : Int32).toInt := congrArg Int32.toInt c9; have : (0 : Int32).toInt = 0 := (by decide); omega)⟩), (by intro g hg9 b hb9; rw [show b = b576 from Option.some.inj (hb9.symm.trans hF576), show g = b578 from Option.some.inj (hg9.symm.trans hF578)]; exact Or.inl ⟨(by have := (i10).1; have := (i10).2; have := (i17).1; have := (i17).2; have := (p8_1).1; have := (p8_1).2; have := (i16).1; have := (i16).2; have := (i15).1; have := (i15).2; have := (iz385).1; have := (iz385).2; have : (σ7.1 64 b578).toInt = (v12 : Int32).toInt := congrArg Int32.toInt (show σ7.1 64 b578 = v12 from e12.symm); have : (σ7.1 65 b578).toInt = (v14 : Int32).toInt := congrArg Int32.toInt (show σ7.1 65 b578 = v14 from e14.symm); have : (v4 : Int32).toInt ≠ (0 : Int32).toInt := fun q => c5 (Int32.toInt_inj.mp q); have : (v4 : Int32).toInt = (0 : Int32).toInt := congrArg Int32.toInt c9; have : (0 : Int32).toInt = 0 := (by decide); omega), (by have := (i10).1; have := (i10).2; have := (i17).1; have := (i17).2; have := (p8_1).1; have := (p8_1).2; have := (i16).1; have := (i16).2; have := (i15).1; have := (i15).2; have := (iz385).1; have := (iz385).2; have : (σ7.1 64 b578).toInt = (v12 : Int32).toInt := congrArg Int32.toInt (show σ7.1 64 b578 = v12 from e12.symm); have : (σ7.1 65 b578).toInt = (v14 : Int32).toInt := congrArg Int32.toInt (show σ7.1 65 b578 = v14 from e14.symm); have : (v4 : Int32).toInt ≠ (0 : Int32).toInt := fun q => c5 (Int32.toInt_inj.mp q); have : (v4 : Int32).toInt = (0 : Int32).toInt := congrArg Int32.toInt c9; have : (0 : Int32).toInt = 0 := (by decide); omega), ((kp_c p8_0 (by decide)).trans ((kp_c p4_0 (by decide)).trans rfl)), ((kp_c p8_0 (by decide)).trans ((kp_c p4_0 (by decide)).trans rfl)), ((kl_c p8_0 (by decide)).trans ((kl_c p4_0 (by decide)).trans rfl))⟩), (by exact Or.inl ⟨(by have := (i10).1; have := (i10).2; have := (i17).1; have := (i17).2; have := (p8_1).1; have := (p8_1).2; have := (i16).1; have := (i16).2; have := (i15).1; have := (i15).2; have := (iz385).1; have := (iz385).2; have : (σ7.1 64 b578).toInt = (v12 : Int32).toInt := congrArg Int32.toInt (show σ7.1 64 b578 = v12 from e12.symm); have : (σ7.1 65 b578).toInt = (v14 : Int32).toInt := congrArg Int32.toInt (show σ7.1 65 b578 = v14 from e14.symm); have : (v4 : Int32).toInt ≠ (0 : Int32).toInt := fun q => c5 (Int32.toInt_inj.mp q); have : (v4 : Int32).toInt = (0 : Int32).toInt := congrArg Int32.toInt c9; have : (0 : Int32).toInt = 0 := (by decide); omega), ((kp_c p8_0 (by decide)).trans ((kp_c p4_0 (by decide)).trans rfl))⟩)⟩
  · --
    have i18 : Iv v4 0 0 := iv_eq1 c5 (iv_top v4) (⟨by decide, by decide⟩ : Iv 0 0 0) (by decide)
    refine lv_aload_n hx hb dX10_meadow_16 rfl (lv_at hl 1 rfl) ?_
    refine g_578 cx hw ha0 k_f_X10_26 dX10_meadow_17 (fun v19 e19 h19 => ?_)
    rw [show v19 = b578 from Option.some.inj (e19.symm.trans (((kr_c p4_0 (by decide)).trans hF578)))]
    refine lv_aload_n hx hb dX10_meadow_20 rfl (lv_at hl 1 rfl) ?_
    refine g_576 cx hw ha0 k_f_X10_10 dX10_meadow_21 (fun v20 e20 h20 => ?_)
    rw [show v20 = b576 from Option.some.inj (e20.symm.trans (((kr_c p4_0 (by decide)).trans hF576)))]
    refine lv_aload_n hx hb dX10_meadow_24 rfl (lv_at hl 1 rfl) ?_
    refine g_581 cx hw ha0 k_f_X10_49 dX10_meadow_25 (fun v21 e21 h21 => ?_)
    rw [show v21 = b581 from Option.some.inj (e21.symm.trans (((kr_c p4_0 (by decide)).trans hF581)))]
    have i22 : Iv (σ3.1 64 b578) 0 8 := o_fb (j := 64) hw hb578 rfl
    have i23 : Iv (σ3.1 65 b578) 0 8 := o_fb (j := 65) hw hb578 rfl
    have z24 : (σ3.1 385 b576).toInt = ((σ.1 385 b576) : Int32).toInt := congrArg Int32.toInt (show σ3.1 385 b576 = (σ.1 385 b576) from ((kp_c p4_0 (by decide)).trans rfl))
    have em9 : mdM (oRw σ3 384 b576) (σ3.1 385 b576).toInt = mdM (oRw σ 384 b576) (σ.1 385 b576).toInt := by rw [oRw_fr hw hb576 rfl fr (by decide), show σ3.1 385 b576 = σ.1 385 b576 from ((kp_c p4_0 (by decide)).trans rfl)]
    have ek9 : mkM (oRw σ3 384 b576) (σ3.1 385 b576).toInt = mkM (oRw σ 384 b576) (σ.1 385 b576).toInt := by rw [oRw_fr hw hb576 rfl fr (by decide), show σ3.1 385 b576 = σ.1 385 b576 from ((kp_c p4_0 (by decide)).trans rfl)]
    refine o_cv hw (oRunV cx hA hw q_X2_lay k_m_X10_107 rfl hb578 (by decide) (As := [.ref b576, .ref b581]) (c_X2_lay b578 hb578 b576 hb576 b581 hb581 (by rw [em9]; exact (by have := (i18).1; have := (i18).2; have := (iz385).1; have := (iz385).2; have : (σ3.1 385 b576).toInt = ((σ.1 385 b576) : Int32).toInt := congrArg Int32.toInt (show σ3.1 385 b576 = (σ.1 385 b576) from ((kp_c p4_0 (by decide)).trans rfl)); have : (v4 : Int32).toInt = (0 : Int32).toInt := congrArg Int32.toInt c5; have : (0 : Int32).toInt = 0 := (by decide); omega))) (by decide) rfl hl.1 rfl (Nat.le_of_ble_eq_true rfl) dX10_meadow_28 (by decide)) (fun σ25 H locs hp hw => ?_)
    obtain ⟨p26_0, p26_1, p26_2, p26_3⟩ := hp
    have fr := oFr_tr fr p26_0 (by decide)
    have i27 : Iv (σ25.1 64 b578) 0 8 := o_fb (j := 64) hw hb578 rfl
    have i28 : Iv (σ25.1 65 b578) 0 8 := o_fb (j := 65) hw hb578 rfl
    refine lv_aload_n hx hb dX10_meadow_31 rfl (lv_at hl 1 rfl) ?_
    refine g_585 cx hw ha0 k_f_X10_75 dX10_meadow_32 (fun v29 e29 h29 => ?_)
    rw [show v29 = b585 from Option.some.inj (e29.symm.trans (((kr_c p26_0 (by decide)).trans ((kr_c p4_0 (by decide)).trans hF585))))]
    refine o_cv hw (oRunV cx hA hw q_X3_forget k_m_X10_111 rfl hb585 (by decide) (As := []) (c_X3_forget b585 hb585) (by decide) rfl hl.1 rfl (Nat.le_of_ble_eq_true rfl) dX10_meadow_35 (by decide)) (fun σ30 H locs hp hw => ?_)
    obtain ⟨p31_0, p31_1⟩ := hp
    have fr := oFr_tr fr p31_0 (by decide)
    refine lv_aload_n hx hb dX10_meadow_38 rfl (lv_at hl 1 rfl) ?_
    refine lv_iconst (v := 0) hx hb dX10_meadow_39 (by decide) ?_
    refine p_587 cx hw ha0 k_f_X10_114 dX10_meadow_40 (fun σ32 H locs eσ32 hw => ?_)
    have fr := oFr_i fr eσ32 (by decide)
    refine lv_aload_n hx hb dX10_meadow_43 rfl (lv_at hl 1 rfl) ?_
    refine lv_iconst (v := 0) hx hb dX10_meadow_44 (by decide) ?_
    refine p_588 cx hw ha0 (iv_w (⟨by decide, by decide⟩ : Iv 0 0 0) (by decide)) k_f_X10_117 dX10_meadow_45 (fun σ33 H locs eσ33 hw => ?_)
    have fr := oFr_i fr eσ33 (by decide)
    refine lv_aload_n hx hb dX10_meadow_48 rfl (lv_at hl 1 rfl) ?_
    refine g_576 cx hw ha0 k_f_X10_10 dX10_meadow_49 (fun v34 e34 h34 => ?_)
    rw [show v34 = b576 from Option.some.inj (e34.symm.trans (((kr_i eσ33).trans ((kr_i eσ32).trans ((kr_c p31_0 (by decide)).trans ((kr_c p26_0 (by decide)).trans ((kr_c p4_0 (by decide)).trans hF576)))))))]
    refine o_cv hw (oRunV cx hA hw q_X7_empty k_m_X10_93 rfl hb576 (by decide) (As := []) (c_X7_empty b576 hb576) (by decide) rfl hl.1 rfl (Nat.le_of_ble_eq_true rfl) dX10_meadow_52 (by decide)) (fun σ35 H locs hp hw => ?_)
    obtain ⟨p36_0, p36_1⟩ := hp
    have fr := oFr_tr fr p36_0 (by decide)
    refine lv_iload_n hx hb dX10_meadow_55 rfl (lv_at hl 0 rfl) ?_
    refine lv_if_ne (tgt := 77) hx hb dX10_meadow_56 (by decide) (fun c37 => ?_) (fun c37 => ?_)
    · --
      exact iv_no (iv_ne1 c37 i18 (⟨by decide, by decide⟩ : Iv 0 0 0) (by decide)) (by decide)
    · --
      refine lv_aload_n hx hb dX10_meadow_59 rfl (lv_at hl 1 rfl) ?_
      refine g_578 cx hw ha0 k_f_X10_26 dX10_meadow_60 (fun v38 e38 h38 => ?_)
      rw [show v38 = b578 from Option.some.inj (e38.symm.trans (((kr_c p36_0 (by decide)).trans ((kr_i eσ33).trans ((kr_i eσ32).trans ((kr_c p31_0 (by decide)).trans ((kr_c p26_0 (by decide)).trans ((kr_c p4_0 (by decide)).trans hF578))))))))]
      refine g_64 cx hw hb578 k_f_X10_121 dX10_meadow_63 (fun v39 e39 i39 => ?_)
      rw [show v39 = (σ25.1 64 b578) from e39.trans ((kp_c p36_0 (by decide)).trans ((kp_i eσ33 (by decide)).trans ((kp_i eσ32 (by decide)).trans ((kp_c p31_0 (by decide)).trans rfl))))]
      refine lv_aload_n hx hb dX10_meadow_66 rfl (lv_at hl 1 rfl) ?_
      refine g_578 cx hw ha0 k_f_X10_26 dX10_meadow_67 (fun v40 e40 h40 => ?_)
      rw [show v40 = b578 from Option.some.inj (e40.symm.trans (((kr_c p36_0 (by decide)).trans ((kr_i eσ33).trans ((kr_i eσ32).trans ((kr_c p31_0 (by decide)).trans ((kr_c p26_0 (by decide)).trans ((kr_c p4_0 (by decide)).trans hF578))))))))]
      refine g_65 cx hw hb578 k_f_X10_124 dX10_meadow_70 (fun v41 e41 i41 => ?_)
      rw [show v41 = (σ25.1 65 b578) from e41.trans ((kp_c p36_0 (by decide)).trans ((kp_i eσ33 (by decide)).trans ((kp_i eσ32 (by decide)).trans ((kp_c p31_0 (by decide)).trans rfl))))]
      have i42 : Iv (σ25.1 65 b578) 1 8 := (by have := (i18).1; have := (i18).2; have := (i27).1; have := (i27).2; have := (i28).1; have := (i28).2; have := (p36_1).1; have := (p36_1).2; have := (iz385).1; have := (iz385).2; have := (i22).1; have := (i22).2; have := (i23).1; have := (i23).2; have : (σ35.1 64 b578).toInt = ((σ25.1 64 b578) : Int32).toInt := congrArg Int32.toInt (show σ35.1 64 b578 = (σ25.1 64 b578) from ((kp_c p36_0 (by decide)).trans ((kp_i eσ33 (by decide)).trans ((kp_i eσ32 (by decide)).trans ((kp_c p31_0 (by decide)).trans rfl))))); have : (σ35.1 65 b578).toInt = ((σ25.1 65 b578) : Int32).toInt := congrArg Int32.toInt (show σ35.1 65 b578 = (σ25.1 65 b578) from ((kp_c p36_0 (by decide)).trans ((kp_i eσ33 (by decide)).trans ((kp_i eσ32 (by decide)).trans ((kp_c p31_0 (by decide)).trans rfl))))); have : (σ35.1 587 a0).toInt = (0 : Int32).toInt := congrArg Int32.toInt (show σ35.1 587 a0 = 0 from ((kp_c p36_0 (by decide)).trans ((kp_i eσ33 (by decide)).trans (kp_s eσ32)))); have : (σ35.1 588 a0).toInt = (0 : Int32).toInt := congrArg Int32.toInt (show σ35.1 588 a0 = 0 from ((kp_c p36_0 (by decide)).trans (kp_s eσ33))); have : (v4 : Int32).toInt = (0 : Int32).toInt := congrArg Int32.toInt c5; have : (v4 : Int32).toInt = (0 : Int32).toInt := congrArg Int32.toInt c37; have : (0 : Int32).toInt = 0 := (by decide); exact ⟨by omega, by omega⟩)
      have i43 : Iv (σ25.1 64 b578) 1 8 := (by have := (i18).1; have := (i18).2; have := (i27).1; have := (i27).2; have := (i42).1; have := (i42).2; have := (p36_1).1; have := (p36_1).2; have := (iz385).1; have := (iz385).2; have := (i22).1; have := (i22).2; have := (i23).1; have := (i23).2; have : (σ35.1 64 b578).toInt = ((σ25.1 64 b578) : Int32).toInt := congrArg Int32.toInt (show σ35.1 64 b578 = (σ25.1 64 b578) from ((kp_c p36_0 (by decide)).trans ((kp_i eσ33 (by decide)).trans ((kp_i eσ32 (by decide)).trans ((kp_c p31_0 (by decide)).trans rfl))))); have : (σ35.1 65 b578).toInt = ((σ25.1 65 b578) : Int32).toInt := congrArg Int32.toInt (show σ35.1 65 b578 = (σ25.1 65 b578) from ((kp_c p36_0 (by decide)).trans ((kp_i eσ33 (by decide)).trans ((kp_i eσ32 (by decide)).trans ((kp_c p31_0 (by decide)).trans rfl))))); have : (σ35.1 587 a0).toInt = (0 : Int32).toInt := congrArg Int32.toInt (show σ35.1 587 a0 = 0 from ((kp_c p36_0 (by decide)).trans ((kp_i eσ33 (by decide)).trans (kp_s eσ32)))); have : (σ35.1 588 a0).toInt = (0 : Int32).toInt := congrArg Int32.toInt (show σ35.1 588 a0 = 0 from ((kp_c p36_0 (by decide)).trans (kp_s eσ33))); have : (v4 : Int32).toInt = (0 : Int32).toInt := congrArg Int32.toInt c5; have : (v4 : Int32).toInt = (0 : Int32).toInt := congrArg Int32.toInt c37; have : (0 : Int32).toInt = 0 := (by decide); exact ⟨by omega, by omega⟩)
      refine lv_imul hx hb dX10_meadow_73 ?_
      refine lv_topi (fun v44 e44 => ?_)
      have i44 : Iv v44 1 64 := iv_mul e44 i43 i42 (by decide)
      refine lv_goto (tgt := 78) hx hb dX10_meadow_74 (by decide) ?_
      rw [← hQ]
      exact o_ri cx rx hw dX10_meadow_78 ⟨fr, (by intro b hb9; rw [show b = b576 from Option.some.inj (hb9.symm.trans ((kr_c fr (by decide)).symm.trans (((kr_c p36_0 (by decide)).trans ((kr_i eσ33).trans ((kr_i eσ32).trans ((kr_c p31_0 (by decide)).trans ((kr_c p26_0 (by decide)).trans ((kr_c p4_0 (by decide)).trans hF576)))))))))]; exact (kn_iv (rfl) (iv_w p36_1 (by decide)))), (by intro V h; exact ⟨fun h9 => absurd h9 (by have := (i18).1; have := (i18).2; have := (i44).1; have := (i44).2; have := (i43).1; have := (i43).2; have := (i42).1; have := (i42).2; have := (p36_1).1; have := (p36_1).2; have := (iz385).1; have := (iz385).2; have := (i22).1; have := (i22).2; have := (i23).1; have := (i23).2; have : (σ35.1 64 b578).toInt = ((σ25.1 64 b578) : Int32).toInt := congrArg Int32.toInt (show σ35.1 64 b578 = (σ25.1 64 b578) from ((kp_c p36_0 (by decide)).trans ((kp_i eσ33 (by decide)).trans ((kp_i eσ32 (by decide)).trans ((kp_c p31_0 (by decide)).trans rfl))))); have : (σ35.1 65 b578).toInt = ((σ25.1 65 b578) : Int32).toInt := congrArg Int32.toInt (show σ35.1 65 b578 = (σ25.1 65 b578) from ((kp_c p36_0 (by decide)).trans ((kp_i eσ33 (by decide)).trans ((kp_i eσ32 (by decide)).trans ((kp_c p31_0 (by decide)).trans rfl))))); have : (σ35.1 587 a0).toInt = (0 : Int32).toInt := congrArg Int32.toInt (show σ35.1 587 a0 = 0 from ((kp_c p36_0 (by decide)).trans ((kp_i eσ33 (by decide)).trans (kp_s eσ32)))); have : (σ35.1 588 a0).toInt = (0 : Int32).toInt := congrArg Int32.toInt (show σ35.1 588 a0 = 0 from ((kp_c p36_0 (by decide)).trans (kp_s eσ33))); have : (v4 : Int32).toInt = (0 : Int32).toInt := congrArg Int32.toInt c5; have : (v4 : Int32).toInt = (0 : Int32).toInt := congrArg Int32.toInt c37; have : (0 : Int32).toInt = 0 := (by decide); omega), fun _ => nv_n h fr (by decide +kernel) (((kp_c p36_0 (by decide)).trans ((kp_i eσ33 (by decide)).trans (kp_s eσ32)))) hF585 ((((kp_c p36_0 (by decide)).trans ((kp_i eσ33 (by decide)).trans ((kp_i eσ32 (by decide)).trans rfl)))).trans p31_1) hF581 ((((kp_c p36_0 (by decide)).trans ((kp_i eσ33 (by decide)).trans ((kp_i eσ32 (by decide)).trans ((kp_c p31_0 (by decide)).trans rfl))))).trans p26_2)⟩), (by intro g hg9 b hb9; rw [show b = b576 from Option.some.inj (hb9.symm.trans hF576), show g = b578 from Option.some.inj (hg9.symm.trans hF578)]; refine Or.inr ⟨(by have := (i18).1; have := (i18).2; have := (i44).1; have := (i44).2; have := (i43).1; have := (i43).2; have := (i42).1; have := (i42).2; have := (p36_1).1; have := (p36_1).2; have := (iz385).1; have := (iz385).2; have := (i22).1; have := (i22).2; have := (i23).1; have := (i23).2; have : (σ35.1 64 b578).toInt = ((σ25.1 64 b578) : Int32).toInt := congrArg Int32.toInt (show σ35.1 64 b578 = (σ25.1 64 b578) from ((kp_c p36_0 (by decide)).trans ((kp_i eσ33 (by decide)).trans ((kp_i eσ32 (by decide)).trans ((kp_c p31_0 (by decide)).trans rfl))))); have : (σ35.1 65 b578).toInt = ((σ25.1 65 b578) : Int32).toInt := congrArg Int32.toInt (show σ35.1 65 b578 = (σ25.1 65 b578) from ((kp_c p36_0 (by decide)).trans ((kp_i eσ33 (by decide)).trans ((kp_i eσ32 (by decide)).trans ((kp_c p31_0 (by decide)).trans rfl))))); have : (σ35.1 587 a0).toInt = (0 : Int32).toInt := congrArg Int32.toInt (show σ35.1 587 a0 = 0 from ((kp_c p36_0 (by decide)).trans ((kp_i eσ33 (by decide)).trans (kp_s eσ32)))); have : (σ35.1 588 a0).toInt = (0 : Int32).toInt := congrArg Int32.toInt (show σ35.1 588 a0 = 0 from ((kp_c p36_0 (by decide)).trans (kp_s eσ33))); have : (v4 : Int32).toInt = (0 : Int32).toInt := congrArg Int32.toInt c5; have : (v4 : Int32).toInt = (0 : Int32).toInt := congrArg Int32.toInt c37; have : (0 : Int32).toInt = 0 := (by decide); omega), (by have := (i18).1; have := (i18).2; have := (i44).1; have := (i44).2; have := (i43).1; have := (i43).2; have := (i42).1; have := (i42).2; have := (p36_1).1; have := (p36_1).2; have := (iz385).1; have := (iz385).2; have := (i22).1; have := (i22).2; have := (i23).1; have := (i23).2; have : (σ35.1 64 b578).toInt = ((σ25.1 64 b578) : Int32).toInt := congrArg Int32.toInt (show σ35.1 64 b578 = (σ25.1 64 b578) from ((kp_c p36_0 (by decide)).trans ((kp_i eσ33 (by decide)).trans ((kp_i eσ32 (by decide)).trans ((kp_c p31_0 (by decide)).trans rfl))))); have : (σ35.1 65 b578).toInt = ((σ25.1 65 b578) : Int32).toInt := congrArg Int32.toInt (show σ35.1 65 b578 = (σ25.1 65 b578) from ((kp_c p36_0 (by decide)).trans ((kp_i eσ33 (by decide)).trans ((kp_i eσ32 (by decide)).trans ((kp_c p31_0 (by decide)).trans rfl))))); have : (σ35.1 587 a0).toInt = (0 : Int32).toInt := congrArg Int32.toInt (show σ35.1 587 a0 = 0 from ((kp_c p36_0 (by decide)).trans ((kp_i eσ33 (by decide)).trans (kp_s eσ32)))); have : (σ35.1 588 a0).toInt = (0 : Int32).toInt := congrArg Int32.toInt (show σ35.1 588 a0 = 0 from ((kp_c p36_0 (by decide)).trans (kp_s eσ33))); have : (v4 : Int32).toInt = (0 : Int32).toInt := congrArg Int32.toInt c5; have : (v4 : Int32).toInt = (0 : Int32).toInt := congrArg Int32.toInt c37; have : (0 : Int32).toInt = 0 := (by decide); omega), (by have := (i18).1; have := (i18).2; have := (i44).1; have := (i44).2; have := (i43).1; have := (i43).2; have := (i42).1; have := (i42).2; have := (p36_1).1; have := (p36_1).2; have := (iz385).1; have := (iz385).2; have := (i22).1; have := (i22).2; have := (i23).1; have := (i23).2; have : (σ35.1 64 b578).toInt = ((σ25.1 64 b578) : Int32).toInt := congrArg Int32.toInt (show σ35.1 64 b578 = (σ25.1 64 b578) from ((kp_c p36_0 (by decide)).trans ((kp_i eσ33 (by decide)).trans ((kp_i eσ32 (by decide)).trans ((kp_c p31_0 (by decide)).trans rfl))))); have : (σ35.1 65 b578).toInt = ((σ25.1 65 b578) : Int32).toInt := congrArg Int32.toInt (show σ35.1 65 b578 = (σ25.1 65 b578) from ((kp_c p36_0 (by decide)).trans ((kp_i eσ33 (by decide)).trans ((kp_i eσ32 (by decide)).trans ((kp_c p31_0 (by decide)).trans rfl))))); have : (σ35.1 587 a0).toInt = (0 : Int32).toInt := congrArg Int32.toInt (show σ35.1 587 a0 = 0 from ((kp_c p36_0 (by decide)).trans ((kp_i eσ33 (by decide)).trans (kp_s eσ32)))); have : (σ35.1 588 a0).toInt = (0 : Int32).toInt := congrArg Int32.toInt (show σ35.1 588 a0 = 0 from ((kp_c p36_0 (by decide)).trans (kp_s eσ33))); have : (v4 : Int32).toInt = (0 : Int32).toInt := congrArg Int32.toInt c5; have : (v4 : Int32).toInt = (0 : Int32).toInt := congrArg Int32.toInt c37; have : (0 : Int32).toInt = 0 := (by decide); omega), (by have := (i18).1; have := (i18).2; have := (i44).1; have := (i44).2; have := (i43).1; have := (i43).2; have := (i42).1; have := (i42).2; have := (p36_1).1; have := (p36_1).2; have := (iz385).1; have := (iz385).2; have := (i22).1; have := (i22).2; have := (i23).1; have := (i23).2; have : (σ35.1 64 b578).toInt = ((σ25.1 64 b578) : Int32).toInt := congrArg Int32.toInt (show σ35.1 64 b578 = (σ25.1 64 b578) from ((kp_c p36_0 (by decide)).trans ((kp_i eσ33 (by decide)).trans ((kp_i eσ32 (by decide)).trans ((kp_c p31_0 (by decide)).trans rfl))))); have : (σ35.1 65 b578).toInt = ((σ25.1 65 b578) : Int32).toInt := congrArg Int32.toInt (show σ35.1 65 b578 = (σ25.1 65 b578) from ((kp_c p36_0 (by decide)).trans ((kp_i eσ33 (by decide)).trans ((kp_i eσ32 (by decide)).trans ((kp_c p31_0 (by decide)).trans rfl))))); have : (σ35.1 587 a0).toInt = (0 : Int32).toInt := congrArg Int32.toInt (show σ35.1 587 a0 = 0 from ((kp_c p36_0 (by decide)).trans ((kp_i eσ33 (by decide)).trans (kp_s eσ32)))); have : (σ35.1 588 a0).toInt = (0 : Int32).toInt := congrArg Int32.toInt (show σ35.1 588 a0 = 0 from ((kp_c p36_0 (by decide)).trans (kp_s eσ33))); have : (v4 : Int32).toInt = (0 : Int32).toInt := congrArg Int32.toInt c5; have : (v4 : Int32).toInt = (0 : Int32).toInt := congrArg Int32.toInt c37; have : (0 : Int32).toInt = 0 := (by decide); omega), fun i => ?_⟩; rw [show σ35.2.1 69 b578 = σ25.2.1 69 b578 from ((kl_c p36_0 (by decide)).trans ((kl_i eσ33).trans ((kl_i eσ32).trans ((kl_c p31_0 (by decide)).trans rfl)))), p26_3 i, ek9]), (by exact Or.inr ⟨(by have := (i18).1; have := (i18).2; have := (i44).1; have := (i44).2; have := (i43).1; have := (i43).2; have := (i42).1; have := (i42).2; have := (p36_1).1; have := (p36_1).2; have := (iz385).1; have := (iz385).2; have := (i22).1; have := (i22).2; have := (i23).1; have := (i23).2; have : (σ35.1 64 b578).toInt = ((σ25.1 64 b578) : Int32).toInt := congrArg Int32.toInt (show σ35.1 64 b578 = (σ25.1 64 b578) from ((kp_c p36_0 (by decide)).trans ((kp_i eσ33 (by decide)).trans ((kp_i eσ32 (by decide)).trans ((kp_c p31_0 (by decide)).trans rfl))))); have : (σ35.1 65 b578).toInt = ((σ25.1 65 b578) : Int32).toInt := congrArg Int32.toInt (show σ35.1 65 b578 = (σ25.1 65 b578) from ((kp_c p36_0 (by decide)).trans ((kp_i eσ33 (by decide)).trans ((kp_i eσ32 (by decide)).trans ((kp_c p31_0 (by decide)).trans rfl))))); have : (σ35.1 587 a0).toInt = (0 : Int32).toInt := congrArg Int32.toInt (show σ35.1 587 a0 = 0 from ((kp_c p36_0 (by decide)).trans ((kp_i eσ33 (by decide)).trans (kp_s eσ32)))); have : (σ35.1 588 a0).toInt = (0 : Int32).toInt := congrArg Int32.toInt (show σ35.1 588 a0 = 0 from ((kp_c p36_0 (by decide)).trans (kp_s eσ33))); have : (v4 : Int32).toInt = (0 : Int32).toInt := congrArg Int32.toInt c5; have : (v4 : Int32).toInt = (0 : Int32).toInt := congrArg Int32.toInt c37; have : (0 : Int32).toInt = 0 := (by decide); omega), (((kp_c p36_0 (by decide)).trans ((kp_i eσ33 (by decide)).trans (kp_s eσ32))))⟩)⟩
abbrev fs_X10_herds : List Nat := [130, 327, 328, 329, 330, 331, 385, 386, 387, 587]
abbrev ts_X10_herds : List Nat := [32, 33, 34]
set_option maxHeartbeats 4000000 in
set_option maxRecDepth 100000 in
theorem c_X10_herds (a0 : Nat) (ha0 : oA L τ a0 9) : oMet l A L τ cy D K yX10_herds cX10_herds 2 (some .int) 6 133 [.ref a0] σ (va_Qi (fun r σ1 => oFr τ fs_X10_herds ts_X10_herds σ σ1 ∧ (∀ b, σ.2.2.2.2 576 a0 = some b → Iv (σ1.1 385 b) 0 0) ∧ (∀ b, σ.2.2.2.2 576 a0 = some b → ∀ g, σ.2.2.2.2 578 a0 = some g → ∀ q, σ.2.2.2.2 581 a0 = some q → r.toInt = hdM (oRw σ 384 b) (σ.1 385 b).toInt (σ.1 64 g).toInt (σ.1 65 g).toInt (fun i => lb (σ.2.1 69 g) i) (σ.1 327 q).toInt) ∧ (∀ V, NV σ a0 V → (r.toInt ≤ 0 → NV σ1 a0 V) ∧ (0 < r.toInt → ∃ V', V'.toInt = V.toInt + r.toInt ∧ NV σ1 a0 V')) ∧ ((r.toInt ≤ 0 ∧ σ1.1 587 a0 = σ.1 587 a0) ∨ (0 < r.toInt ∧ σ1.1 587 a0 = 0))) (oPo A L τ cy D) A) := by
  refine oMk (by decide) (Nat.le_of_ble_eq_true rfl) rfl ?_
  intro p e s m args below meth c ls cx rx hA hw hl
  generalize hQ : MQ below _ args s 0 0 A = Q
  have hx := cx.1.1
  have hb := cx.1.2.1
  have hml := cx.1.2.2.1
  have hown := cx.1.2.2.2.1
  have hts := cx.1.2.2.2.2
  have hl : lv_has ls 2 [(0, .ref a0)] := hl
  have fr : oFr τ fs_X10_herds ts_X10_herds σ σ := oFr_rf
  obtain ⟨b576, hF576, hb576⟩ := hw.2.2.2.2.2 576 a0 6 (by rw [ha0.2]; rfl) ha0.1
  obtain ⟨b576, hF576, hb576⟩ := hw.2.2.2.2.2 576 a0 6 (by rw [ha0.2]; rfl) ha0.1
  obtain ⟨b578, hF578, hb578⟩ := hw.2.2.2.2.2 578 a0 1 (by rw [ha0.2]; rfl) ha0.1
  obtain ⟨b581, hF581, hb581⟩ := hw.2.2.2.2.2 581 a0 5 (by rw [ha0.2]; rfl) ha0.1
  obtain ⟨b582, hF582, hb582⟩ := hw.2.2.2.2.2 582 a0 5 (by rw [ha0.2]; rfl) ha0.1
  obtain ⟨b583, hF583, hb583⟩ := hw.2.2.2.2.2 583 a0 0 (by rw [ha0.2]; rfl) ha0.1
  obtain ⟨b585, hF585, hb585⟩ := hw.2.2.2.2.2 585 a0 2 (by rw [ha0.2]; rfl) ha0.1
  obtain ⟨b586, hF586, hb586⟩ := hw.2.2.2.2.2 586 a0 41 (by rw [ha0.2]; rfl) ha0.1
  refine lv_aload_n hx hb dX10_herds_0 rfl (lv_at hl 0 rfl) ?_
  refine o_ci hw (oRunV cx hA hw q_X10_readHerds k_m_X10_127 rfl ha0 (by decide) (As := []) (c_X10_readHerds a0 ha0) (by decide) rfl hl.1 rfl (Nat.le_of_ble_eq_true rfl) dX10_herds_1 (by decide)) (fun v2 σ1 H locs hp hw => ?_)
  obtain ⟨p2_0, p2_1, p2_2⟩ := hp
  have fr := oFr_tr fr p2_0 (by decide)
  refine lv_istore_n (lv' := [(1, .int v2), (0, .ref a0)]) hx hb dX10_herds_4 rfl hl (by decide) rfl (fun ls hl => ?_)
  refine lv_iload_n hx hb dX10_herds_5 rfl (lv_at hl 0 rfl) ?_
  refine lv_if_le (tgt := 32) hx hb dX10_herds_6 (by decide) (fun c3 => ?_) (fun c3 => ?_)
  · --
    have i4 : Iv v2 (-2147483648) 0 := iv_le1 c3 (iv_top v2) (⟨by decide, by decide⟩ : Iv 0 0 0) (by decide)
    refine lv_aload_n hx hb dX10_herds_32 rfl (lv_at hl 1 rfl) ?_
    refine g_576 cx hw ha0 k_f_X10_10 dX10_herds_33 (fun v5 e5 h5 => ?_)
    rw [show v5 = b576 from Option.some.inj (e5.symm.trans (((kr_c p2_0 (by decide)).trans hF576)))]
    refine o_cv hw (oRunV cx hA hw q_X7_empty k_m_X10_93 rfl hb576 (by decide) (As := []) (c_X7_empty b576 hb576) (by decide) rfl hl.1 rfl (Nat.le_of_ble_eq_true rfl) dX10_herds_36 (by decide)) (fun σ6 H locs hp hw => ?_)
    obtain ⟨p7_0, p7_1⟩ := hp
    have fr := oFr_tr fr p7_0 (by decide)
    refine lv_iload_n hx hb dX10_herds_39 rfl (lv_at hl 0 rfl) ?_
    rw [← hQ]
    exact o_ri cx rx hw dX10_herds_40 ⟨fr, (by intro b hb9; rw [show b = b576 from Option.some.inj (hb9.symm.trans ((kr_c fr (by decide)).symm.trans (((kr_c p7_0 (by decide)).trans ((kr_c p2_0 (by decide)).trans hF576)))))]; exact (kn_iv (rfl) (iv_w p7_1 (by decide)))), (by exact p2_1), (by intro V h; exact ⟨fun _ => (nv_0 (nv_B h p2_0 (by decide +kernel) hF582 (p2_2 b582 hF582 b581 hF581).1) p7_0 (by decide +kernel)), fun h9 => absurd h9 (by have := (i4).1; have := (i4).2; have := (p7_1).1; have := (p7_1).2; have : (v2 : Int32).toInt ≤ (0 : Int32).toInt := iv_le.mp c3; have : (0 : Int32).toInt = 0 := (by decide); omega)⟩), (by exact Or.inl ⟨(by have := (i4).1; have := (i4).2; have := (p7_1).1; have := (p7_1).2; have : (v2 : Int32).toInt ≤ (0 : Int32).toInt := iv_le.mp c3; have : (0 : Int32).toInt = 0 := (by decide); omega), ((kp_c p7_0 (by decide)).trans ((kp_c p2_0 (by decide)).trans rfl))⟩)⟩
  · --
    have i8 : Iv v2 1 2147483647 := iv_lt2 (iv_nle c3) (⟨by decide, by decide⟩ : Iv 0 0 0) (iv_top v2) (by decide)
    refine lv_aload_n hx hb dX10_herds_9 rfl (lv_at hl 1 rfl) ?_
    refine g_581 cx hw ha0 k_f_X10_49 dX10_herds_10 (fun v9 e9 h9 => ?_)
    rw [show v9 = b581 from Option.some.inj (e9.symm.trans (((kr_c p2_0 (by decide)).trans hF581)))]
    refine lv_aload_n hx hb dX10_herds_13 rfl (lv_at hl 1 rfl) ?_
    refine g_582 cx hw ha0 k_f_X10_53 dX10_herds_14 (fun v10 e10 h10 => ?_)
    rw [show v10 = b582 from Option.some.inj (e10.symm.trans (((kr_c p2_0 (by decide)).trans hF582)))]
    have i11 : Iv (σ1.1 327 b581) 0 6 := o_fb (j := 327) hw hb581 rfl
    have i12 : Iv (σ1.1 327 b582) 0 6 := o_fb (j := 327) hw hb582 rfl
    refine o_cv hw (oRunV cx hA hw q_X6_copyFrom k_m_X10_131 rfl hb581 (by decide) (As := [.ref b582]) (c_X6_copyFrom b581 hb581 b582 hb582) (by decide) rfl hl.1 rfl (Nat.le_of_ble_eq_true rfl) dX10_herds_17 (by decide)) (fun σ13 H locs hp hw => ?_)
    obtain ⟨p14_0, p14_1⟩ := hp
    have fr := oFr_tr fr p14_0 (by decide)
    have i15 : Iv (σ13.1 327 b581) 0 6 := o_fb (j := 327) hw hb581 rfl
    have i16 : Iv (σ13.1 327 b582) 0 6 := o_fb (j := 327) hw hb582 rfl
    refine lv_aload_n hx hb dX10_herds_20 rfl (lv_at hl 1 rfl) ?_
    refine g_585 cx hw ha0 k_f_X10_75 dX10_herds_21 (fun v17 e17 h17 => ?_)
    rw [show v17 = b585 from Option.some.inj (e17.symm.trans (((kr_c p14_0 (by decide)).trans ((kr_c p2_0 (by decide)).trans hF585))))]
    refine o_cv hw (oRunV cx hA hw q_X3_forget k_m_X10_111 rfl hb585 (by decide) (As := []) (c_X3_forget b585 hb585) (by decide) rfl hl.1 rfl (Nat.le_of_ble_eq_true rfl) dX10_herds_24 (by decide)) (fun σ18 H locs hp hw => ?_)
    obtain ⟨p19_0, p19_1⟩ := hp
    have fr := oFr_tr fr p19_0 (by decide)
    refine lv_aload_n hx hb dX10_herds_27 rfl (lv_at hl 1 rfl) ?_
    refine lv_iconst (v := 0) hx hb dX10_herds_28 (by decide) ?_
    refine p_587 cx hw ha0 k_f_X10_114 dX10_herds_29 (fun σ20 H locs eσ20 hw => ?_)
    have fr := oFr_i fr eσ20 (by decide)
    refine lv_aload_n hx hb dX10_herds_32 rfl (lv_at hl 1 rfl) ?_
    refine g_576 cx hw ha0 k_f_X10_10 dX10_herds_33 (fun v21 e21 h21 => ?_)
    rw [show v21 = b576 from Option.some.inj (e21.symm.trans (((kr_i eσ20).trans ((kr_c p19_0 (by decide)).trans ((kr_c p14_0 (by decide)).trans ((kr_c p2_0 (by decide)).trans hF576))))))]
    refine o_cv hw (oRunV cx hA hw q_X7_empty k_m_X10_93 rfl hb576 (by decide) (As := []) (c_X7_empty b576 hb576) (by decide) rfl hl.1 rfl (Nat.le_of_ble_eq_true rfl) dX10_herds_36 (by decide)) (fun σ22 H locs hp hw => ?_)
    obtain ⟨p23_0, p23_1⟩ := hp
    have fr := oFr_tr fr p23_0 (by decide)
    refine lv_iload_n hx hb dX10_herds_39 rfl (lv_at hl 0 rfl) ?_
    rw [← hQ]
    exact o_ri cx rx hw dX10_herds_40 ⟨fr, (by intro b hb9; rw [show b = b576 from Option.some.inj (hb9.symm.trans ((kr_c fr (by decide)).symm.trans (((kr_c p23_0 (by decide)).trans ((kr_i eσ20).trans ((kr_c p19_0 (by decide)).trans ((kr_c p14_0 (by decide)).trans ((kr_c p2_0 (by decide)).trans hF576))))))))]; exact (kn_iv (rfl) (iv_w p23_1 (by decide)))), (by exact p2_1), (by intro V h; refine ⟨fun h9 => absurd h9 (by have := (i8).1; have := (i8).2; have := (i15).1; have := (i15).2; have := (i16).1; have := (i16).2; have := (p23_1).1; have := (p23_1).2; have := (i11).1; have := (i11).2; have := (i12).1; have := (i12).2; have : (σ22.1 327 b581).toInt = ((σ13.1 327 b581) : Int32).toInt := congrArg Int32.toInt (show σ22.1 327 b581 = (σ13.1 327 b581) from ((kp_c p23_0 (by decide)).trans ((kp_i eσ20 (by decide)).trans ((kp_c p19_0 (by decide)).trans rfl)))); have : (σ22.1 327 b582).toInt = ((σ13.1 327 b582) : Int32).toInt := congrArg Int32.toInt (show σ22.1 327 b582 = (σ13.1 327 b582) from ((kp_c p23_0 (by decide)).trans ((kp_i eσ20 (by decide)).trans ((kp_c p19_0 (by decide)).trans rfl)))); have : (σ22.1 587 a0).toInt = (0 : Int32).toInt := congrArg Int32.toInt (show σ22.1 587 a0 = 0 from ((kp_c p23_0 (by decide)).trans (kp_s eσ20))); have : (0 : Int32).toInt < (v2 : Int32).toInt := iv_lt.mp (iv_nle c3); have : (0 : Int32).toInt = 0 := (by decide); omega), fun _ => ⟨σ22.1 327 b581, ?_, nv_n h fr (by decide +kernel) (((kp_c p23_0 (by decide)).trans (kp_s eσ20))) hF585 ((((kp_c p23_0 (by decide)).trans ((kp_i eσ20 (by decide)).trans rfl))).trans p19_1) hF581 rfl⟩⟩; rw [show σ22.1 327 b581 = σ1.1 327 b582 from (((kp_c p23_0 (by decide)).trans ((kp_i eσ20 (by decide)).trans ((kp_c p19_0 (by decide)).trans rfl)))).trans (p14_1.1.trans (rfl))]; have q9 := (p2_2 b582 hF582 b581 hF581).2 (by have := (i8).1; have := (i8).2; have := (i15).1; have := (i15).2; have := (i16).1; have := (i16).2; have := (p23_1).1; have := (p23_1).2; have := (i11).1; have := (i11).2; have := (i12).1; have := (i12).2; have : (σ22.1 327 b581).toInt = ((σ13.1 327 b581) : Int32).toInt := congrArg Int32.toInt (show σ22.1 327 b581 = (σ13.1 327 b581) from ((kp_c p23_0 (by decide)).trans ((kp_i eσ20 (by decide)).trans ((kp_c p19_0 (by decide)).trans rfl)))); have : (σ22.1 327 b582).toInt = ((σ13.1 327 b582) : Int32).toInt := congrArg Int32.toInt (show σ22.1 327 b582 = (σ13.1 327 b582) from ((kp_c p23_0 (by decide)).trans ((kp_i eσ20 (by decide)).trans ((kp_c p19_0 (by decide)).trans rfl)))); have : (σ22.1 587 a0).toInt = (0 : Int32).toInt := congrArg Int32.toInt (show σ22.1 587 a0 = 0 from ((kp_c p23_0 (by decide)).trans (kp_s eσ20))); have : (0 : Int32).toInt < (v2 : Int32).toInt := iv_lt.mp (iv_nle c3); have : (0 : Int32).toInt = 0 := (by decide); omega); rw [nv_P h hF581] at q9; exact q9), (by exact Or.inr ⟨(by have := (i8).1; have := (i8).2; have := (i15).1; have := (i15).2; have := (i16).1; have := (i16).2; have := (p23_1).1; have := (p23_1).2; have := (i11).1; have := (i11).2; have := (i12).1; have := (i12).2; have : (σ22.1 327 b581).toInt = ((σ13.1 327 b581) : Int32).toInt := congrArg Int32.toInt (show σ22.1 327 b581 = (σ13.1 327 b581) from ((kp_c p23_0 (by decide)).trans ((kp_i eσ20 (by decide)).trans ((kp_c p19_0 (by decide)).trans rfl)))); have : (σ22.1 327 b582).toInt = ((σ13.1 327 b582) : Int32).toInt := congrArg Int32.toInt (show σ22.1 327 b582 = (σ13.1 327 b582) from ((kp_c p23_0 (by decide)).trans ((kp_i eσ20 (by decide)).trans ((kp_c p19_0 (by decide)).trans rfl)))); have : (σ22.1 587 a0).toInt = (0 : Int32).toInt := congrArg Int32.toInt (show σ22.1 587 a0 = 0 from ((kp_c p23_0 (by decide)).trans (kp_s eσ20))); have : (0 : Int32).toInt < (v2 : Int32).toInt := iv_lt.mp (iv_nle c3); have : (0 : Int32).toInt = 0 := (by decide); omega), (((kp_c p23_0 (by decide)).trans (kp_s eσ20)))⟩)⟩
abbrev fs_X10_rule : List Nat := [257, 259, 261, 263, 264, 265, 385, 386, 387]
abbrev ts_X10_rule : List Nat := [35, 37]
set_option maxHeartbeats 4000000 in
set_option maxRecDepth 100000 in
theorem c_X10_rule (a0 : Nat) (ha0 : oA L τ a0 9) : oMet l A L τ cy D K yX10_rule cX10_rule 2 (some .int) 7 174 [.ref a0] σ (va_Qi (fun r σ1 => oFr τ fs_X10_rule ts_X10_rule σ σ1 ∧ (∀ b, σ.2.2.2.2 576 a0 = some b → Iv (σ1.1 385 b) 0 0)) (oPo A L τ cy D) A) := by
  refine oMk (by decide) (Nat.le_of_ble_eq_true rfl) rfl ?_
  intro p e s m args below meth c ls cx rx hA hw hl
  generalize hQ : MQ below _ args s 0 0 A = Q
  have hx := cx.1.1
  have hb := cx.1.2.1
  have hml := cx.1.2.2.1
  have hown := cx.1.2.2.2.1
  have hts := cx.1.2.2.2.2
  have hl : lv_has ls 2 [(0, .ref a0)] := hl
  have fr : oFr τ fs_X10_rule ts_X10_rule σ σ := oFr_rf
  obtain ⟨b576, hF576, hb576⟩ := hw.2.2.2.2.2 576 a0 6 (by rw [ha0.2]; rfl) ha0.1
  refine lv_aload_n hx hb dX10_rule_0 rfl (lv_at hl 0 rfl) ?_
  refine g_576 cx hw ha0 k_f_X10_10 dX10_rule_1 (fun v1 e1 h1 => ?_)
  rw [show v1 = b576 from Option.some.inj (e1.symm.trans (hF576))]
  refine g_385 cx hw hb576 k_f_X10_100 dX10_rule_4 (fun v2 e2 i2 => ?_)
  have z2 : v2.toInt = (σ.1 385 b576).toInt := congrArg Int32.toInt e2
  have frE_19 := fr
  have J_19 : ∀ (σ_19 : oSt) (H : Heap) (locs : List Loc), oI A L τ cy D s.heap σ_19 H locs → oFr τ fs_X10_rule ts_X10_rule σ σ_19 → ∀ (ls : Array Slot), lv_has ls 2 [(0, .ref a0)] → W p l e ({ frames := 7, cells := 0, slots := 0, locals := 174 } : Room) s m args below meth c H locs 0 0 Q (F0 m 19 ls []) := by
    intro  σ_19 H locs hw fr      ls hl
    have fr_19 := fr
    refine lv_aload_n hx hb dX10_rule_19 rfl (lv_at hl 0 rfl) ?_
    refine g_579 cx hw ha0 k_f_X10_33 dX10_rule_20 (fun v3 e3 h3 => ?_)
    refine lv_aload_n hx hb dX10_rule_23 rfl (lv_at hl 0 rfl) ?_
    refine g_576 cx hw ha0 k_f_X10_10 dX10_rule_24 (fun v4 e4 h4 => ?_)
    rw [show v4 = b576 from Option.some.inj (e4.symm.trans (((kr_c fr_19 (by decide)).trans hF576)))]
    refine o_ci hw (oRunV cx hA hw q_X5_learn k_m_X10_89 rfl h3 (by decide) (As := [.ref b576]) (c_X5_learn v3 h3 b576 hb576) (by decide) rfl hl.1 rfl (Nat.le_of_ble_eq_true rfl) dX10_rule_27 (by decide)) (fun v6 σ5 H locs hp hw => ?_)
    have p6_0 := hp
    have fr := oFr_tr fr p6_0 (by decide)
    refine lv_istore_n (lv' := [(1, .int v6), (0, .ref a0)]) hx hb dX10_rule_30 rfl hl (by decide) rfl (fun ls hl => ?_)
    refine lv_aload_n hx hb dX10_rule_31 rfl (lv_at hl 1 rfl) ?_
    refine g_576 cx hw ha0 k_f_X10_10 dX10_rule_32 (fun v7 e7 h7 => ?_)
    rw [show v7 = b576 from Option.some.inj (e7.symm.trans (((kr_c p6_0 (by decide)).trans ((kr_c fr_19 (by decide)).trans hF576))))]
    refine o_cv hw (oRunV cx hA hw q_X7_empty k_m_X10_93 rfl hb576 (by decide) (As := []) (c_X7_empty b576 hb576) (by decide) rfl hl.1 rfl (Nat.le_of_ble_eq_true rfl) dX10_rule_35 (by decide)) (fun σ8 H locs hp hw => ?_)
    obtain ⟨p9_0, p9_1⟩ := hp
    have fr := oFr_tr fr p9_0 (by decide)
    refine lv_iload_n hx hb dX10_rule_38 rfl (lv_at hl 0 rfl) ?_
    rw [← hQ]
    exact o_ri cx rx hw dX10_rule_39 ⟨fr, (by intro b hb9; rw [show b = b576 from Option.some.inj (hb9.symm.trans ((kr_c fr (by decide)).symm.trans (((kr_c p9_0 (by decide)).trans ((kr_c p6_0 (by decide)).trans ((kr_c fr_19 (by decide)).trans hF576))))))]; exact (kn_iv (rfl) (iv_w p9_1 (by decide))))⟩
  refine lv_if_ne (tgt := 19) hx hb dX10_rule_7 (by decide) (fun c10 => ?_) (fun c10 => ?_)
  · --
    have i11 : Iv v2 1 80 := iv_ne1 c10 i2 (⟨by decide, by decide⟩ : Iv 0 0 0) (by decide)
    exact J_19 σ _ _ hw fr _ (lv_sub hl [0] rfl)
  · --
    have i12 : Iv v2 0 0 := iv_eq1 c10 i2 (⟨by decide, by decide⟩ : Iv 0 0 0) (by decide)
    refine lv_aload_n hx hb dX10_rule_10 rfl (lv_at hl 0 rfl) ?_
    refine g_576 cx hw ha0 k_f_X10_10 dX10_rule_11 (fun v13 e13 h13 => ?_)
    rw [show v13 = b576 from Option.some.inj (e13.symm.trans (hF576))]
    refine va_ldcS hx hb hown cx.2.2.2.1.1 dX10_rule_14 ?_
    refine o_cv hw (oRunV cx hA hw q_X7_tell k_m_X10_85 rfl hb576 (by decide) (As := [.ref (K.1 0)]) (c_X7_tell b576 hb576) (by decide) rfl hl.1 rfl (Nat.le_of_ble_eq_true rfl) dX10_rule_16 (by decide)) (fun σ14 H locs hp hw => ?_)
    have p15_0 := hp
    have fr := oFr_tr fr p15_0 (by decide)
    exact J_19 σ14 _ _ hw fr _ (lv_sub hl [0] rfl)
abbrev fs_X10_set : List Nat := [514, 515]
abbrev ts_X10_set : List Nat := []
set_option maxHeartbeats 4000000 in
set_option maxRecDepth 100000 in
theorem c_X10_set (a0 : Nat) (ha0 : oA L τ a0 9) (a1 : Int32) (a2 : Int32) : oMet l A L τ cy D K yX10_set cX10_set 4 (some .int) 0 0 [.ref a0, .int a1, .int a2] σ (va_Qi (fun r σ1 => oFr τ fs_X10_set ts_X10_set σ σ1 ∧ (∀ b, σ.2.2.2.2 580 a0 = some b → (a1.toInt = 0 ∧ 0 ≤ a2.toInt ∧ a2.toInt ≤ 99 ∧ r.toInt = (σ.1 514 b).toInt ∧ (σ1.1 514 b).toInt = a2.toInt ∧ (σ1.1 515 b).toInt = (σ.1 515 b).toInt) ∨ (a1.toInt = 1 ∧ 1 ≤ a2.toInt ∧ a2.toInt ≤ 99 ∧ r.toInt = (σ.1 515 b).toInt ∧ (σ1.1 515 b).toInt = a2.toInt ∧ (σ1.1 514 b).toInt = (σ.1 514 b).toInt) ∨ (¬ (a1.toInt = 0 ∧ 0 ≤ a2.toInt ∧ a2.toInt ≤ 99) ∧ ¬ (a1.toInt = 1 ∧ 1 ≤ a2.toInt ∧ a2.toInt ≤ 99) ∧ r.toInt = -1 ∧ (σ1.1 514 b).toInt = (σ.1 514 b).toInt ∧ (σ1.1 515 b).toInt = (σ.1 515 b).toInt))) (oPo A L τ cy D) A) := by
  refine oMk (by decide) (Nat.le_of_ble_eq_true rfl) rfl ?_
  intro p e s m args below meth c ls cx rx hA hw hl
  generalize hQ : MQ below _ args s 0 0 A = Q
  have hx := cx.1.1
  have hb := cx.1.2.1
  have hml := cx.1.2.2.1
  have hown := cx.1.2.2.2.1
  have hts := cx.1.2.2.2.2
  have hl : lv_has ls 4 [(0, .ref a0), (1, .int a1), (2, .int a2)] := hl
  have fr : oFr τ fs_X10_set ts_X10_set σ σ := oFr_rf
  obtain ⟨b580, hF580, hb580⟩ := hw.2.2.2.2.2 580 a0 8 (by rw [ha0.2]; rfl) ha0.1
  refine lv_iconst (v := (-1)) hx hb dX10_set_0 (by decide) ?_
  refine lv_istore_n (lv' := [(3, .int (-1)), (0, .ref a0), (1, .int a1), (2, .int a2)]) hx hb dX10_set_1 rfl hl (by decide) rfl (fun ls hl => ?_)
  refine lv_iload_n hx hb dX10_set_2 rfl (lv_at hl 2 rfl) ?_
  refine lv_if_ne (tgt := 35) hx hb dX10_set_3 (by decide) (fun c1 => ?_) (fun c1 => ?_)
  · --
    refine lv_iload_n hx hb dX10_set_35 rfl (lv_at hl 2 rfl) ?_
    refine lv_iconst (v := 1) hx hb dX10_set_36 (by decide) ?_
    refine lv_icmp_ne (tgt := 67) hx hb dX10_set_37 (by decide) (fun c2 => ?_) (fun c2 => ?_)
    · --
      refine lv_iload_n hx hb dX10_set_67 rfl (lv_at hl 0 rfl) ?_
      rw [← hQ]
      exact o_ri cx rx hw dX10_set_68 ⟨fr, (by intro b hb9; rw [show b = b580 from Option.some.inj (hb9.symm.trans ((kr_c fr (by decide)).symm.trans (hF580)))]; exact (by have : (a1 : Int32).toInt ≠ (0 : Int32).toInt := fun q => c1 (Int32.toInt_inj.mp q); have : (a1 : Int32).toInt ≠ (1 : Int32).toInt := fun q => c2 (Int32.toInt_inj.mp q); have : ((-1) : Int32).toInt = (-1) := (by decide); have : (0 : Int32).toInt = 0 := (by decide); have : (1 : Int32).toInt = 1 := (by decide); omega))⟩
    · --
      have i3 : Iv a1 1 1 := iv_eq1 c2 (iv_top a1) (⟨by decide, by decide⟩ : Iv 1 1 1) (by decide)
      refine lv_iload_n hx hb dX10_set_40 rfl (lv_at hl 3 rfl) ?_
      refine lv_iconst (v := 1) hx hb dX10_set_41 (by decide) ?_
      refine lv_icmp_lt (tgt := 67) hx hb dX10_set_42 (by decide) (fun c4 => ?_) (fun c4 => ?_)
      · --
        have i5 : Iv a2 (-2147483648) 0 := iv_lt1 c4 (iv_top a2) (⟨by decide, by decide⟩ : Iv 1 1 1) (by decide)
        refine lv_iload_n hx hb dX10_set_67 rfl (lv_at hl 0 rfl) ?_
        rw [← hQ]
        exact o_ri cx rx hw dX10_set_68 ⟨fr, (by intro b hb9; rw [show b = b580 from Option.some.inj (hb9.symm.trans ((kr_c fr (by decide)).symm.trans (hF580)))]; exact (by have := (i3).1; have := (i3).2; have := (i5).1; have := (i5).2; have : (a1 : Int32).toInt ≠ (0 : Int32).toInt := fun q => c1 (Int32.toInt_inj.mp q); have : (a1 : Int32).toInt = (1 : Int32).toInt := congrArg Int32.toInt c2; have : (a2 : Int32).toInt < (1 : Int32).toInt := iv_lt.mp c4; have : ((-1) : Int32).toInt = (-1) := (by decide); have : (0 : Int32).toInt = 0 := (by decide); have : (1 : Int32).toInt = 1 := (by decide); omega))⟩
      · --
        have i6 : Iv a2 1 2147483647 := iv_le2 (iv_nlt c4) (⟨by decide, by decide⟩ : Iv 1 1 1) (iv_top a2) (by decide)
        refine lv_iload_n hx hb dX10_set_45 rfl (lv_at hl 3 rfl) ?_
        refine lv_bipush (v := 99) hx hb dX10_set_46 (by decide) ?_
        refine lv_icmp_gt (tgt := 67) hx hb dX10_set_48 (by decide) (fun c7 => ?_) (fun c7 => ?_)
        · --
          have i8 : Iv a2 100 2147483647 := iv_lt2 c7 (⟨by decide, by decide⟩ : Iv 99 99 99) i6 (by decide)
          refine lv_iload_n hx hb dX10_set_67 rfl (lv_at hl 0 rfl) ?_
          rw [← hQ]
          exact o_ri cx rx hw dX10_set_68 ⟨fr, (by intro b hb9; rw [show b = b580 from Option.some.inj (hb9.symm.trans ((kr_c fr (by decide)).symm.trans (hF580)))]; exact (by have := (i3).1; have := (i3).2; have := (i8).1; have := (i8).2; have : (a1 : Int32).toInt ≠ (0 : Int32).toInt := fun q => c1 (Int32.toInt_inj.mp q); have : (a1 : Int32).toInt = (1 : Int32).toInt := congrArg Int32.toInt c2; have : (1 : Int32).toInt ≤ (a2 : Int32).toInt := iv_le.mp (iv_nlt c4); have : (99 : Int32).toInt < (a2 : Int32).toInt := iv_lt.mp c7; have : ((-1) : Int32).toInt = (-1) := (by decide); have : (0 : Int32).toInt = 0 := (by decide); have : (1 : Int32).toInt = 1 := (by decide); have : (99 : Int32).toInt = 99 := (by decide); omega))⟩
        · --
          have i9 : Iv a2 1 99 := iv_le1 (iv_nlt c7) i6 (⟨by decide, by decide⟩ : Iv 99 99 99) (by decide)
          refine lv_aload_n hx hb dX10_set_51 rfl (lv_at hl 1 rfl) ?_
          refine g_580 cx hw ha0 k_f_X10_42 dX10_set_52 (fun v10 e10 h10 => ?_)
          rw [show v10 = b580 from Option.some.inj (e10.symm.trans (hF580))]
          refine g_515 cx hw hb580 k_f_X10_203 dX10_set_55 (fun v11 e11 => ?_)
          rw [show v11 = (σ.1 515 b580) from e11.trans rfl]
          refine lv_istore_n (lv' := [(3, .int (σ.1 515 b580)), (0, .ref a0), (1, .int a1), (2, .int a2)]) hx hb dX10_set_58 rfl hl (by decide) rfl (fun ls hl => ?_)
          refine lv_aload_n hx hb dX10_set_59 rfl (lv_at hl 1 rfl) ?_
          refine g_580 cx hw ha0 k_f_X10_42 dX10_set_60 (fun v12 e12 h12 => ?_)
          rw [show v12 = b580 from Option.some.inj (e12.symm.trans (hF580))]
          refine lv_iload_n hx hb dX10_set_63 rfl (lv_at hl 3 rfl) ?_
          refine p_515 cx hw hb580 k_f_X10_203 dX10_set_64 (fun σ13 H locs eσ13 hw => ?_)
          have fr := oFr_i fr eσ13 (by decide)
          refine lv_iload_n hx hb dX10_set_67 rfl (lv_at hl 0 rfl) ?_
          rw [← hQ]
          exact o_ri cx rx hw dX10_set_68 ⟨fr, (by intro b hb9; rw [show b = b580 from Option.some.inj (hb9.symm.trans ((kr_c fr (by decide)).symm.trans (((kr_i eσ13).trans hF580))))]; exact (by have := (i3).1; have := (i3).2; have := (i9).1; have := (i9).2; have : (σ13.1 514 b580).toInt = ((σ.1 514 b580) : Int32).toInt := congrArg Int32.toInt (show σ13.1 514 b580 = (σ.1 514 b580) from ((kp_i eσ13 (by decide)).trans rfl)); have : (σ13.1 515 b580).toInt = (a2 : Int32).toInt := congrArg Int32.toInt (show σ13.1 515 b580 = a2 from (kp_s eσ13)); have : (a1 : Int32).toInt ≠ (0 : Int32).toInt := fun q => c1 (Int32.toInt_inj.mp q); have : (a1 : Int32).toInt = (1 : Int32).toInt := congrArg Int32.toInt c2; have : (1 : Int32).toInt ≤ (a2 : Int32).toInt := iv_le.mp (iv_nlt c4); have : (a2 : Int32).toInt ≤ (99 : Int32).toInt := iv_le.mp (iv_nlt c7); have : (0 : Int32).toInt = 0 := (by decide); have : (1 : Int32).toInt = 1 := (by decide); have : (99 : Int32).toInt = 99 := (by decide); omega))⟩
  · --
    have i14 : Iv a1 0 0 := iv_eq1 c1 (iv_top a1) (⟨by decide, by decide⟩ : Iv 0 0 0) (by decide)
    refine lv_iload_n hx hb dX10_set_6 rfl (lv_at hl 3 rfl) ?_
    refine lv_if_lt (tgt := 35) hx hb dX10_set_7 (by decide) (fun c15 => ?_) (fun c15 => ?_)
    · --
      have i16 : Iv a2 (-2147483648) (-1) := iv_lt1 c15 (iv_top a2) (⟨by decide, by decide⟩ : Iv 0 0 0) (by decide)
      refine lv_iload_n hx hb dX10_set_35 rfl (lv_at hl 2 rfl) ?_
      refine lv_iconst (v := 1) hx hb dX10_set_36 (by decide) ?_
      refine lv_icmp_ne (tgt := 67) hx hb dX10_set_37 (by decide) (fun c17 => ?_) (fun c17 => ?_)
      · --
        refine lv_iload_n hx hb dX10_set_67 rfl (lv_at hl 0 rfl) ?_
        rw [← hQ]
        exact o_ri cx rx hw dX10_set_68 ⟨fr, (by intro b hb9; rw [show b = b580 from Option.some.inj (hb9.symm.trans ((kr_c fr (by decide)).symm.trans (hF580)))]; exact (by have := (i14).1; have := (i14).2; have := (i16).1; have := (i16).2; have : (a1 : Int32).toInt = (0 : Int32).toInt := congrArg Int32.toInt c1; have : (a2 : Int32).toInt < (0 : Int32).toInt := iv_lt.mp c15; have : ((-1) : Int32).toInt = (-1) := (by decide); have : (0 : Int32).toInt = 0 := (by decide); omega))⟩
      · --
        exact iv_no (iv_eq1 (lo := 1) (hi := 0) c17 i14 (⟨by decide, by decide⟩ : Iv 1 1 1) (by decide)) (by decide)
    · --
      have i18 : Iv a2 0 2147483647 := iv_le2 (iv_nlt c15) (⟨by decide, by decide⟩ : Iv 0 0 0) (iv_top a2) (by decide)
      refine lv_iload_n hx hb dX10_set_10 rfl (lv_at hl 3 rfl) ?_
      refine lv_bipush (v := 99) hx hb dX10_set_11 (by decide) ?_
      refine lv_icmp_gt (tgt := 35) hx hb dX10_set_13 (by decide) (fun c19 => ?_) (fun c19 => ?_)
      · --
        have i20 : Iv a2 100 2147483647 := iv_lt2 c19 (⟨by decide, by decide⟩ : Iv 99 99 99) i18 (by decide)
        refine lv_iload_n hx hb dX10_set_35 rfl (lv_at hl 2 rfl) ?_
        refine lv_iconst (v := 1) hx hb dX10_set_36 (by decide) ?_
        refine lv_icmp_ne (tgt := 67) hx hb dX10_set_37 (by decide) (fun c21 => ?_) (fun c21 => ?_)
        · --
          refine lv_iload_n hx hb dX10_set_67 rfl (lv_at hl 0 rfl) ?_
          rw [← hQ]
          exact o_ri cx rx hw dX10_set_68 ⟨fr, (by intro b hb9; rw [show b = b580 from Option.some.inj (hb9.symm.trans ((kr_c fr (by decide)).symm.trans (hF580)))]; exact (by have := (i14).1; have := (i14).2; have := (i20).1; have := (i20).2; have : (a1 : Int32).toInt = (0 : Int32).toInt := congrArg Int32.toInt c1; have : (0 : Int32).toInt ≤ (a2 : Int32).toInt := iv_le.mp (iv_nlt c15); have : (99 : Int32).toInt < (a2 : Int32).toInt := iv_lt.mp c19; have : ((-1) : Int32).toInt = (-1) := (by decide); have : (0 : Int32).toInt = 0 := (by decide); have : (99 : Int32).toInt = 99 := (by decide); omega))⟩
        · --
          exact iv_no (iv_eq1 (lo := 1) (hi := 0) c21 i14 (⟨by decide, by decide⟩ : Iv 1 1 1) (by decide)) (by decide)
      · --
        have i22 : Iv a2 0 99 := iv_le1 (iv_nlt c19) i18 (⟨by decide, by decide⟩ : Iv 99 99 99) (by decide)
        refine lv_aload_n hx hb dX10_set_16 rfl (lv_at hl 1 rfl) ?_
        refine g_580 cx hw ha0 k_f_X10_42 dX10_set_17 (fun v23 e23 h23 => ?_)
        rw [show v23 = b580 from Option.some.inj (e23.symm.trans (hF580))]
        refine g_514 cx hw hb580 k_f_X10_167 dX10_set_20 (fun v24 e24 => ?_)
        rw [show v24 = (σ.1 514 b580) from e24.trans rfl]
        refine lv_istore_n (lv' := [(3, .int (σ.1 514 b580)), (0, .ref a0), (1, .int a1), (2, .int a2)]) hx hb dX10_set_23 rfl hl (by decide) rfl (fun ls hl => ?_)
        refine lv_aload_n hx hb dX10_set_24 rfl (lv_at hl 1 rfl) ?_
        refine g_580 cx hw ha0 k_f_X10_42 dX10_set_25 (fun v25 e25 h25 => ?_)
        rw [show v25 = b580 from Option.some.inj (e25.symm.trans (hF580))]
        refine lv_iload_n hx hb dX10_set_28 rfl (lv_at hl 3 rfl) ?_
        refine p_514 cx hw hb580 k_f_X10_167 dX10_set_29 (fun σ26 H locs eσ26 hw => ?_)
        have fr := oFr_i fr eσ26 (by decide)
        refine lv_goto (tgt := 67) hx hb dX10_set_32 (by decide) ?_
        refine lv_iload_n hx hb dX10_set_67 rfl (lv_at hl 0 rfl) ?_
        rw [← hQ]
        exact o_ri cx rx hw dX10_set_68 ⟨fr, (by intro b hb9; rw [show b = b580 from Option.some.inj (hb9.symm.trans ((kr_c fr (by decide)).symm.trans (((kr_i eσ26).trans hF580))))]; exact (by have := (i14).1; have := (i14).2; have := (i22).1; have := (i22).2; have : (σ26.1 515 b580).toInt = ((σ.1 515 b580) : Int32).toInt := congrArg Int32.toInt (show σ26.1 515 b580 = (σ.1 515 b580) from ((kp_i eσ26 (by decide)).trans rfl)); have : (σ26.1 514 b580).toInt = (a2 : Int32).toInt := congrArg Int32.toInt (show σ26.1 514 b580 = a2 from (kp_s eσ26)); have : (a1 : Int32).toInt = (0 : Int32).toInt := congrArg Int32.toInt c1; have : (0 : Int32).toInt ≤ (a2 : Int32).toInt := iv_le.mp (iv_nlt c15); have : (a2 : Int32).toInt ≤ (99 : Int32).toInt := iv_le.mp (iv_nlt c19); have : (0 : Int32).toInt = 0 := (by decide); have : (99 : Int32).toInt = 99 := (by decide); omega))⟩
abbrev fs_X10_sheet : List Nat := []
abbrev ts_X10_sheet : List Nat := [34]
set_option maxHeartbeats 4000000 in
set_option maxRecDepth 100000 in
theorem c_X10_sheet (a0 : Nat) (ha0 : oA L τ a0 9) (a1 : Int32) (a2 : Int32) (a3 : Int32) (a4 : Int32) : oMet l A L τ cy D K yX10_sheet cX10_sheet 8 (some .int) 2 62 [.ref a0, .int a1, .int a2, .int a3, .int a4] σ (va_Qi (fun r σ1 => oFr τ fs_X10_sheet ts_X10_sheet σ σ1) (oPo A L τ cy D) A) := by
  refine oMk (by decide) (Nat.le_of_ble_eq_true rfl) rfl ?_
  intro p e s m args below meth c ls cx rx hA hw hl
  generalize hQ : MQ below _ args s 0 0 A = Q
  have hx := cx.1.1
  have hb := cx.1.2.1
  have hml := cx.1.2.2.1
  have hown := cx.1.2.2.2.1
  have hts := cx.1.2.2.2.2
  have hl : lv_has ls 8 [(0, .ref a0), (1, .int a1), (2, .int a2), (3, .int a3), (4, .int a4)] := hl
  have fr : oFr τ fs_X10_sheet ts_X10_sheet σ σ := oFr_rf
  refine lv_iload_n hx hb dX10_sheet_0 rfl (lv_at hl 1 rfl) ?_
  refine lv_if_lt (tgt := 15) hx hb dX10_sheet_1 (by decide) (fun c1 => ?_) (fun c1 => ?_)
  · --
    have i2 : Iv a1 (-2147483648) (-1) := iv_lt1 c1 (iv_top a1) (⟨by decide, by decide⟩ : Iv 0 0 0) (by decide)
    refine lv_iconst (v := (-1)) hx hb dX10_sheet_15 (by decide) ?_
    rw [← hQ]
    exact o_ri cx rx hw dX10_sheet_16 fr
  · --
    have i3 : Iv a1 0 2147483647 := iv_le2 (iv_nlt c1) (⟨by decide, by decide⟩ : Iv 0 0 0) (iv_top a1) (by decide)
    refine lv_iload_n hx hb dX10_sheet_4 rfl (lv_at hl 1 rfl) ?_
    refine lv_iconst (v := 3) hx hb dX10_sheet_5 (by decide) ?_
    refine lv_icmp_gt (tgt := 15) hx hb dX10_sheet_6 (by decide) (fun c4 => ?_) (fun c4 => ?_)
    · --
      have i5 : Iv a1 4 2147483647 := iv_lt2 c4 (⟨by decide, by decide⟩ : Iv 3 3 3) i3 (by decide)
      refine lv_iconst (v := (-1)) hx hb dX10_sheet_15 (by decide) ?_
      rw [← hQ]
      exact o_ri cx rx hw dX10_sheet_16 fr
    · --
      have i6 : Iv a1 0 3 := iv_le1 (iv_nlt c4) i3 (⟨by decide, by decide⟩ : Iv 3 3 3) (by decide)
      refine lv_iload_n hx hb dX10_sheet_9 rfl (lv_at hl 2 rfl) ?_
      refine lv_bipush (v := 6) hx hb dX10_sheet_10 (by decide) ?_
      refine lv_icmp_le (tgt := 17) hx hb dX10_sheet_12 (by decide) (fun c7 => ?_) (fun c7 => ?_)
      · --
        have i8 : Iv a2 (-2147483648) 6 := iv_le1 c7 (iv_top a2) (⟨by decide, by decide⟩ : Iv 6 6 6) (by decide)
        refine lv_iload_n hx hb dX10_sheet_17 rfl (lv_at hl 1 rfl) ?_
        refine lv_iconst (v := 3) hx hb dX10_sheet_18 (by decide) ?_
        have J_29 : ∀ (H : Heap) (locs : List Loc), oI A L τ cy D s.heap σ H locs → ∀ (ls : Array Slot), lv_has ls 8 [(0, .ref a0), (1, .int a1), (2, .int a2), (3, .int a3), (4, .int a4)] → W p l e ({ frames := 2, cells := 0, slots := 0, locals := 62 } : Room) s m args below meth c H locs 0 0 Q (F0 m 29 ls []) := by
          intro  H locs hw     ls hl
          refine lv_iconst (v := 0) hx hb dX10_sheet_29 (by decide) ?_
          refine lv_istore (lv' := [(5, .int 0), (0, .ref a0), (1, .int a1), (2, .int a2), (3, .int a3), (4, .int a4)]) hx hb dX10_sheet_30 hl (by decide) rfl (fun ls hl => ?_)
          refine lv_iconst (v := 0) hx hb dX10_sheet_32 (by decide) ?_
          refine lv_istore (lv' := [(6, .int 0), (5, .int 0), (0, .ref a0), (1, .int a1), (2, .int a2), (3, .int a3), (4, .int a4)]) hx hb dX10_sheet_33 hl (by decide) rfl (fun ls hl => ?_)
          have frE_35 := fr
          have J_35 : ∀ n35 : Nat, ∀ (j35_5 : Int32) (j35_6 : Int32) (ij35_6 : Iv j35_6 0 6), ∀ (σ_35 : oSt) (H : Heap) (locs : List Loc), oI A L τ cy D s.heap σ_35 H locs → oFr τ fs_X10_sheet ts_X10_sheet σ σ_35 → (6 - j35_6.toInt).toNat < n35 → ∀ (ls : Array Slot), lv_has ls 8 [(0, .ref a0), (1, .int a1), (2, .int a2), (3, .int a3), (4, .int a4), (5, .int j35_5), (6, .int j35_6)] → W p l e ({ frames := 2, cells := 0, slots := 0, locals := 62 } : Room) s m args below meth c H locs 0 0 Q (F0 m 35 ls []) := by
            intro n35
            induction n35 with
            | zero => intro j35_5 j35_6 ij35_6 σ_35 H locs hw fr   hn_35   ls hl; exact absurd hn_35 (Nat.not_lt_zero _)
            | succ n35 ih_35 =>
              intro j35_5 j35_6 ij35_6 σ_35 H locs hw fr   hn_35   ls hl
              have fr_35 := fr
              refine lv_iload hx hb dX10_sheet_35 (lv_at hl 6 rfl) ?_
              refine lv_aload_n hx hb dX10_sheet_37 rfl (lv_at hl 0 rfl) ?_
              refine g_581 cx hw ha0 k_f_X10_49 dX10_sheet_38 (fun v9 e9 h9 => ?_)
              refine g_327 cx hw h9 k_f_X10_206 dX10_sheet_41 (fun v10 e10 i10 => ?_)
              refine lv_icmp_ge (tgt := 116) hx hb dX10_sheet_44 (by decide) (fun c11 => ?_) (fun c11 => ?_)
              · --
                refine lv_iload_n hx hb dX10_sheet_116 rfl (lv_at hl 1 rfl) ?_
                refine lv_iconst (v := 3) hx hb dX10_sheet_117 (by decide) ?_
                refine lv_icmp_ne (tgt := 126) hx hb dX10_sheet_118 (by decide) (fun c12 => ?_) (fun c12 => ?_)
                · --
                  have i13 : Iv a1 0 2 := iv_ne2 c12 i6 (⟨by decide, by decide⟩ : Iv 3 3 3) (by decide)
                  refine lv_iload hx hb dX10_sheet_126 (lv_at hl 5 rfl) ?_
                  rw [← hQ]
                  exact o_ri cx rx hw dX10_sheet_128 fr
                · --
                  have i14 : Iv a1 3 3 := iv_eq1 c12 i6 (⟨by decide, by decide⟩ : Iv 3 3 3) (by decide)
                  refine lv_bipush (v := (-3)) hx hb dX10_sheet_121 (by decide) ?_
                  refine lv_goto (tgt := 128) hx hb dX10_sheet_123 (by decide) ?_
                  rw [← hQ]
                  exact o_ri cx rx hw dX10_sheet_128 fr
              · --
                have i15 : Iv j35_6 0 5 := iv_lt1 (iv_nle c11) ij35_6 i10 (by decide)
                have i16 : Iv v10 1 6 := iv_lt2 (iv_nle c11) ij35_6 i10 (by decide)
                refine lv_iload_n hx hb dX10_sheet_47 rfl (lv_at hl 1 rfl) ?_
                refine lv_iconst (v := 3) hx hb dX10_sheet_48 (by decide) ?_
                have J_63 : ∀ (k63_0 : Int32) (ik63_0 : Iv k63_0 0 1), ∀ (H : Heap) (locs : List Loc), oI A L τ cy D s.heap σ_35 H locs → ∀ (ls : Array Slot), lv_has ls 8 [(0, .ref a0), (1, .int a1), (2, .int a2), (3, .int a3), (4, .int a4), (5, .int j35_5), (6, .int j35_6)] → W p l e ({ frames := 2, cells := 0, slots := 0, locals := 62 } : Room) s m args below meth c H locs 0 0 Q (F0 m 63 ls [.int k63_0]) := by
                  intro k63_0 ik63_0 H locs hw     ls hl
                  refine lv_istore (lv' := [(7, .int k63_0), (0, .ref a0), (1, .int a1), (2, .int a2), (3, .int a3), (4, .int a4), (5, .int j35_5), (6, .int j35_6)]) hx hb dX10_sheet_63 hl (by decide) rfl (fun ls hl => ?_)
                  refine lv_aload_n hx hb dX10_sheet_65 rfl (lv_at hl 1 rfl) ?_
                  refine g_581 cx hw ha0 k_f_X10_49 dX10_sheet_66 (fun v17 e17 h17 => ?_)
                  rw [show v17 = v9 from Option.some.inj (e17.symm.trans (e9))]
                  refine g_326 cx hw h9 k_f_X10_186 dX10_sheet_69 (fun v18 e18 h18 => ?_)
                  refine lv_iload hx hb dX10_sheet_72 (lv_at hl 7 rfl) ?_
                  refine lv_iload hx hb dX10_sheet_74 (lv_at hl 0 rfl) ?_
                  have J_94 : ∀ (k94_2 : Int32) (ik94_2 : Iv k94_2 0 9), ∀ (H : Heap) (locs : List Loc), oI A L τ cy D s.heap σ_35 H locs → ∀ (ls : Array Slot), lv_has ls 8 [(0, .ref a0), (1, .int a1), (2, .int a2), (3, .int a3), (4, .int a4), (5, .int j35_5), (6, .int j35_6), (7, .int k63_0)] → W p l e ({ frames := 2, cells := 0, slots := 0, locals := 62 } : Room) s m args below meth c H locs 0 0 Q (F0 m 94 ls [.int k94_2, .int j35_6, .ref v18]) := by
                    intro k94_2 ik94_2 H locs hw     ls hl
                    refine o_iast cx hw h18 (by decide) rfl (iv_in i15 (by decide)) trivial dX10_sheet_94 (fun σ19 H locs eσ19 hw => ?_)
                    have fr := oFr_p fr eσ19 h18 (by decide)
                    refine lv_iload hx hb dX10_sheet_95 (lv_at hl 5 rfl) ?_
                    refine lv_aload_n hx hb dX10_sheet_97 rfl (lv_at hl 0 rfl) ?_
                    refine g_581 cx hw ha0 k_f_X10_49 dX10_sheet_98 (fun v20 e20 h20 => ?_)
                    rw [show v20 = v9 from Option.some.inj (e20.symm.trans (((kr_p eσ19).trans e9)))]
                    refine g_326 cx hw h9 k_f_X10_186 dX10_sheet_101 (fun v21 e21 h21 => ?_)
                    rw [show v21 = v18 from Option.some.inj (e21.symm.trans (((kr_p eσ19).trans e18)))]
                    refine lv_iload hx hb dX10_sheet_104 (lv_at hl 6 rfl) ?_
                    refine o_iald cx hw h18 (by decide) rfl (iv_in i15 (by decide)) dX10_sheet_106 (fun v22 e22 b22 => ?_)
                    refine lv_iadd hx hb dX10_sheet_107 ?_
                    refine lv_topi (fun v23 e23 => ?_)
                    refine lv_istore (lv' := [(5, .int v23), (0, .ref a0), (1, .int a1), (2, .int a2), (3, .int a3), (4, .int a4), (6, .int j35_6), (7, .int k63_0)]) hx hb dX10_sheet_108 hl (by decide) rfl (fun ls hl => ?_)
                    obtain ⟨v24, e24⟩ : ∃ y : Int32, y = j35_6 + 1 := ⟨_, rfl⟩
                    have i24 : Iv v24 1 6 := iv_add e24 i15 (⟨by decide, by decide⟩ : Iv 1 1 1) (by decide)
                    have x24 : v24.toInt = j35_6.toInt + 1 := ex_add e24 i15 (⟨by decide, by decide⟩ : Iv 1 1 1) (by decide)
                    refine lv_iinc (v := v24) (lv' := [(6, .int v24), (5, .int v23), (0, .ref a0), (1, .int a1), (2, .int a2), (3, .int a3), (4, .int a4), (7, .int k63_0)]) hx hb dX10_sheet_110 hl (k := 6) rfl (by rw [e24]; rfl) (by decide) rfl (fun ls hl => ?_)
                    refine lv_goto (tgt := 35) hx hb dX10_sheet_113 (by decide) ?_
                    exact ih_35 v23 v24 (iv_w i24 (by decide)) σ19 _ _ hw fr (ms_up x24 (by decide) (iv_w (a' := 0) (b' := 6) i24 (by decide)).2 hn_35) _ (lv_sub hl [2, 3, 4, 5, 6, 1, 0] rfl)
                  refine lv_if_eq (tgt := 93) hx hb dX10_sheet_76 (by decide) (fun c25 => ?_) (fun c25 => ?_)
                  · --
                    have i26 : Iv k63_0 0 0 := iv_eq1 c25 ik63_0 (⟨by decide, by decide⟩ : Iv 0 0 0) (by decide)
                    refine lv_iconst (v := 0) hx hb dX10_sheet_93 (by decide) ?_
                    exact J_94 0 (iv_w (⟨by decide, by decide⟩ : Iv 0 0 0) (by decide)) _ _ hw _ (lv_sub hl [1, 2, 3, 4, 5, 6, 7, 0] rfl)
                  · --
                    have i27 : Iv k63_0 1 1 := iv_ne1 c25 ik63_0 (⟨by decide, by decide⟩ : Iv 0 0 0) (by decide)
                    refine lv_iload_n hx hb dX10_sheet_79 rfl (lv_at hl 2 rfl) ?_
                    refine lv_iload_n hx hb dX10_sheet_80 rfl (lv_at hl 4 rfl) ?_
                    refine lv_iload hx hb dX10_sheet_81 (lv_at hl 7 rfl) ?_
                    refine lv_iload hx hb dX10_sheet_83 (lv_at hl 5 rfl) ?_
                    refine lv_imul hx hb dX10_sheet_85 ?_
                    refine lv_topi (fun v28 e28 => ?_)
                    refine lv_iadd hx hb dX10_sheet_86 ?_
                    refine lv_topi (fun v29 e29 => ?_)
                    refine o_ci hw (oRunS cx hA hw q_X10_greedOf k_m_X10_209 (As := [.int a1, .int v29]) (c_X10_greedOf a1 v29) (by decide) rfl hl.1 rfl (Nat.le_of_ble_eq_true rfl) dX10_sheet_87 (by decide)) (fun v31 σ30 H locs hp hw => ?_)
                    obtain ⟨p31_0, p31_1⟩ := hp
                    rw [p31_0] at hw
                    refine lv_goto (tgt := 94) hx hb dX10_sheet_90 (by decide) ?_
                    exact J_94 v31 p31_1 _ _ hw _ (lv_sub hl [1, 2, 3, 4, 5, 6, 7, 0] rfl)
                have J_62 : ∀ (H : Heap) (locs : List Loc), oI A L τ cy D s.heap σ_35 H locs → ∀ (ls : Array Slot), lv_has ls 8 [(0, .ref a0), (1, .int a1), (2, .int a2), (3, .int a3), (4, .int a4), (5, .int j35_5), (6, .int j35_6)] → W p l e ({ frames := 2, cells := 0, slots := 0, locals := 62 } : Room) s m args below meth c H locs 0 0 Q (F0 m 62 ls []) := by
                  intro  H locs hw     ls hl
                  refine lv_iconst (v := 0) hx hb dX10_sheet_62 (by decide) ?_
                  exact J_63 0 (iv_w (⟨by decide, by decide⟩ : Iv 0 0 0) (by decide)) _ _ hw _ (lv_sub hl [0, 1, 2, 3, 4, 5, 6] rfl)
                refine lv_icmp_eq (tgt := 62) hx hb dX10_sheet_49 (by decide) (fun c32 => ?_) (fun c32 => ?_)
                · --
                  have i33 : Iv a1 3 3 := iv_eq1 c32 i6 (⟨by decide, by decide⟩ : Iv 3 3 3) (by decide)
                  exact J_62 _ _ hw _ (lv_sub hl [0, 1, 2, 3, 4, 5, 6] rfl)
                · --
                  have i34 : Iv a1 0 2 := iv_ne2 c32 i6 (⟨by decide, by decide⟩ : Iv 3 3 3) (by decide)
                  refine lv_iload hx hb dX10_sheet_52 (lv_at hl 6 rfl) ?_
                  refine lv_iload_n hx hb dX10_sheet_54 rfl (lv_at hl 2 rfl) ?_
                  refine lv_icmp_ge (tgt := 62) hx hb dX10_sheet_55 (by decide) (fun c35 => ?_) (fun c35 => ?_)
                  · --
                    have i36 : Iv a2 (-2147483648) 5 := iv_le1 c35 i8 i15 (by decide)
                    exact J_62 _ _ hw _ (lv_sub hl [0, 1, 2, 3, 4, 5, 6] rfl)
                  · --
                    have i37 : Iv a2 1 6 := iv_lt2 (iv_nle c35) i15 i8 (by decide)
                    refine lv_iconst (v := 1) hx hb dX10_sheet_58 (by decide) ?_
                    refine lv_goto (tgt := 63) hx hb dX10_sheet_59 (by decide) ?_
                    exact J_63 1 (iv_w (⟨by decide, by decide⟩ : Iv 1 1 1) (by decide)) _ _ hw _ (lv_sub hl [0, 1, 2, 3, 4, 5, 6] rfl)
          exact J_35 _ 0 0 (iv_w (⟨by decide, by decide⟩ : Iv 0 0 0) (by decide)) σ _ _ hw fr (Nat.lt_succ_self _) _ (lv_sub hl [2, 3, 4, 5, 6, 1, 0] rfl)
        refine lv_icmp_eq (tgt := 29) hx hb dX10_sheet_19 (by decide) (fun c38 => ?_) (fun c38 => ?_)
        · --
          have i39 : Iv a1 3 3 := iv_eq1 c38 i6 (⟨by decide, by decide⟩ : Iv 3 3 3) (by decide)
          exact J_29 _ _ hw _ (lv_sub hl [0, 1, 2, 3, 4] rfl)
        · --
          have i40 : Iv a1 0 2 := iv_ne2 c38 i6 (⟨by decide, by decide⟩ : Iv 3 3 3) (by decide)
          refine lv_iload_n hx hb dX10_sheet_22 rfl (lv_at hl 2 rfl) ?_
          refine lv_if_ge (tgt := 29) hx hb dX10_sheet_23 (by decide) (fun c41 => ?_) (fun c41 => ?_)
          · --
            have i42 : Iv a2 0 6 := iv_le2 c41 (⟨by decide, by decide⟩ : Iv 0 0 0) i8 (by decide)
            exact J_29 _ _ hw _ (lv_sub hl [0, 1, 2, 3, 4] rfl)
          · --
            have i43 : Iv a2 (-2147483648) (-1) := iv_lt1 (iv_nle c41) i8 (⟨by decide, by decide⟩ : Iv 0 0 0) (by decide)
            refine lv_bipush (v := (-2)) hx hb dX10_sheet_26 (by decide) ?_
            rw [← hQ]
            exact o_ri cx rx hw dX10_sheet_28 fr
      · --
        have i44 : Iv a2 7 2147483647 := iv_lt2 (iv_nle c7) (⟨by decide, by decide⟩ : Iv 6 6 6) (iv_top a2) (by decide)
        refine lv_iconst (v := (-1)) hx hb dX10_sheet_15 (by decide) ?_
        rw [← hQ]
        exact o_ri cx rx hw dX10_sheet_16 fr
abbrev fs_X10_salt : List Nat := [129, 130, 327, 328, 329, 330, 331]
abbrev ts_X10_salt : List Nat := [32, 33, 34]
set_option maxHeartbeats 4000000 in
set_option maxRecDepth 100000 in
theorem c_X10_salt (a0 : Nat) (ha0 : oA L τ a0 9) (a1 : Int32) (a2 : Int32) : oMet l A L τ cy D K yX10_salt cX10_salt 3 (some .int) 4 123 [.ref a0, .int a1, .int a2] σ (va_Qi (fun r σ1 => oFr τ fs_X10_salt ts_X10_salt σ σ1 ∧ (∀ V, NV σ a0 V → NV σ1 a0 V)) (oPo A L τ cy D) A) := by
  refine oMk (by decide) (Nat.le_of_ble_eq_true rfl) rfl ?_
  intro p e s m args below meth c ls cx rx hA hw hl
  generalize hQ : MQ below _ args s 0 0 A = Q
  have hx := cx.1.1
  have hb := cx.1.2.1
  have hml := cx.1.2.2.1
  have hown := cx.1.2.2.2.1
  have hts := cx.1.2.2.2.2
  have hl : lv_has ls 3 [(0, .ref a0), (1, .int a1), (2, .int a2)] := hl
  have fr : oFr τ fs_X10_salt ts_X10_salt σ σ := oFr_rf
  obtain ⟨b581, hF581, hb581⟩ := hw.2.2.2.2.2 581 a0 5 (by rw [ha0.2]; rfl) ha0.1
  obtain ⟨b582, hF582, hb582⟩ := hw.2.2.2.2.2 582 a0 5 (by rw [ha0.2]; rfl) ha0.1
  obtain ⟨b583, hF583, hb583⟩ := hw.2.2.2.2.2 583 a0 0 (by rw [ha0.2]; rfl) ha0.1
  obtain ⟨b585, hF585, hb585⟩ := hw.2.2.2.2.2 585 a0 2 (by rw [ha0.2]; rfl) ha0.1
  obtain ⟨b586, hF586, hb586⟩ := hw.2.2.2.2.2 586 a0 41 (by rw [ha0.2]; rfl) ha0.1
  refine lv_aload_n hx hb dX10_salt_0 rfl (lv_at hl 0 rfl) ?_
  refine g_582 cx hw ha0 k_f_X10_53 dX10_salt_1 (fun v1 e1 h1 => ?_)
  rw [show v1 = b582 from Option.some.inj (e1.symm.trans (hF582))]
  refine lv_aload_n hx hb dX10_salt_4 rfl (lv_at hl 0 rfl) ?_
  refine g_581 cx hw ha0 k_f_X10_49 dX10_salt_5 (fun v2 e2 h2 => ?_)
  rw [show v2 = b581 from Option.some.inj (e2.symm.trans (hF581))]
  have i3 : Iv (σ.1 327 b582) 0 6 := o_fb (j := 327) hw hb582 rfl
  have i4 : Iv (σ.1 327 b581) 0 6 := o_fb (j := 327) hw hb581 rfl
  refine o_cv hw (oRunV cx hA hw q_X6_copyFrom k_m_X10_131 rfl hb582 (by decide) (As := [.ref b581]) (c_X6_copyFrom b582 hb582 b581 hb581) (by decide) rfl hl.1 rfl (Nat.le_of_ble_eq_true rfl) dX10_salt_8 (by decide)) (fun σ5 H locs hp hw => ?_)
  obtain ⟨p6_0, p6_1⟩ := hp
  have fr := oFr_tr fr p6_0 (by decide)
  have i7 : Iv (σ5.1 327 b582) 0 6 := o_fb (j := 327) hw hb582 rfl
  have i8 : Iv (σ5.1 327 b581) 0 6 := o_fb (j := 327) hw hb581 rfl
  have bb9 : ∀ V, NV σ a0 V → σ5.1 327 b582 = V := fun V h => by
    have h1 : NV σ a0 V := h
    exact p6_1.1.trans (nv_P h1 (hF581))
  have nn10 : ∀ V, NV σ a0 V → NV σ5 a0 V := fun V h => by
    have h1 : NV σ a0 V := h
    exact nv_c h1 p6_0 (by decide +kernel) (u_v (u_cp p6_1) (nv_P h1 (hF581)))
  refine lv_aload_n hx hb dX10_salt_11 rfl (lv_at hl 0 rfl) ?_
  refine lv_aload_n hx hb dX10_salt_12 rfl (lv_at hl 0 rfl) ?_
  refine lv_aload_n hx hb dX10_salt_13 rfl (lv_at hl 0 rfl) ?_
  refine g_581 cx hw ha0 k_f_X10_49 dX10_salt_14 (fun v11 e11 h11 => ?_)
  rw [show v11 = b581 from Option.some.inj (e11.symm.trans (((kr_c p6_0 (by decide)).trans hF581)))]
  refine g_321 cx hw hb581 k_f_X10_148 dX10_salt_17 (fun v12 e12 h12 => ?_)
  refine lv_iload_n hx hb dX10_salt_20 rfl (lv_at hl 1 rfl) ?_
  refine lv_iload_n hx hb dX10_salt_21 rfl (lv_at hl 2 rfl) ?_
  refine o_ci hw (oRunV cx hA hw q_X10_lay k_m_X10_257 rfl ha0 (by decide) (As := [.ref v12, .int a1, .int a2]) (c_X10_lay a0 ha0 v12 h12 a1 a2) (by decide) rfl hl.1 rfl (Nat.le_of_ble_eq_true rfl) dX10_salt_22 (by decide)) (fun v14 σ13 H locs hp hw => ?_)
  have p14_0 := hp
  have fr := oFr_tr fr p14_0 (by decide)
  refine o_ci hw (oRunV cx hA hw q_X10_remembered k_m_X10_260 rfl ha0 (by decide) (As := [.int v14]) (c_X10_remembered a0 ha0 v14) (by decide) rfl hl.1 rfl (Nat.le_of_ble_eq_true rfl) dX10_salt_25 (by decide)) (fun v16 σ15 H locs hp hw => ?_)
  obtain ⟨p16_0, p16_1⟩ := hp
  have fr := oFr_tr fr p16_0 (by decide)
  have nn17 : ∀ V, NV σ a0 V → NV σ15 a0 V := fun V h => by
    have h1 : NV σ13 a0 V := (nv_0 (nn10 V h) p14_0 (by decide +kernel))
    exact p16_1 V h1 (fun b q => by rw [show b = b582 from Option.some.inj (q.symm.trans (((kr_c p14_0 (by decide)).trans ((kr_c p6_0 (by decide)).trans hF582))))]; exact ((((kp_c p14_0 (by decide)).trans rfl)).trans (bb9 V h)))
  rw [← hQ]
  exact o_ri cx rx hw dX10_salt_28 ⟨fr, (by intro V h; exact (nn17 V h))⟩
abbrev fs_X10_thistles : List Nat := [129, 130, 327, 328, 329, 330, 331]
abbrev ts_X10_thistles : List Nat := [32, 33, 34]
set_option maxHeartbeats 4000000 in
set_option maxRecDepth 100000 in
theorem c_X10_thistles (a0 : Nat) (ha0 : oA L τ a0 9) (a1 : Int32) (a2 : Int32) : oMet l A L τ cy D K yX10_thistles cX10_thistles 3 (some .int) 4 123 [.ref a0, .int a1, .int a2] σ (va_Qi (fun r σ1 => oFr τ fs_X10_thistles ts_X10_thistles σ σ1 ∧ (∀ V, NV σ a0 V → NV σ1 a0 V)) (oPo A L τ cy D) A) := by
  refine oMk (by decide) (Nat.le_of_ble_eq_true rfl) rfl ?_
  intro p e s m args below meth c ls cx rx hA hw hl
  generalize hQ : MQ below _ args s 0 0 A = Q
  have hx := cx.1.1
  have hb := cx.1.2.1
  have hml := cx.1.2.2.1
  have hown := cx.1.2.2.2.1
  have hts := cx.1.2.2.2.2
  have hl : lv_has ls 3 [(0, .ref a0), (1, .int a1), (2, .int a2)] := hl
  have fr : oFr τ fs_X10_thistles ts_X10_thistles σ σ := oFr_rf
  obtain ⟨b581, hF581, hb581⟩ := hw.2.2.2.2.2 581 a0 5 (by rw [ha0.2]; rfl) ha0.1
  obtain ⟨b582, hF582, hb582⟩ := hw.2.2.2.2.2 582 a0 5 (by rw [ha0.2]; rfl) ha0.1
  obtain ⟨b583, hF583, hb583⟩ := hw.2.2.2.2.2 583 a0 0 (by rw [ha0.2]; rfl) ha0.1
  obtain ⟨b585, hF585, hb585⟩ := hw.2.2.2.2.2 585 a0 2 (by rw [ha0.2]; rfl) ha0.1
  obtain ⟨b586, hF586, hb586⟩ := hw.2.2.2.2.2 586 a0 41 (by rw [ha0.2]; rfl) ha0.1
  refine lv_aload_n hx hb dX10_thistles_0 rfl (lv_at hl 0 rfl) ?_
  refine g_582 cx hw ha0 k_f_X10_53 dX10_thistles_1 (fun v1 e1 h1 => ?_)
  rw [show v1 = b582 from Option.some.inj (e1.symm.trans (hF582))]
  refine lv_aload_n hx hb dX10_thistles_4 rfl (lv_at hl 0 rfl) ?_
  refine g_581 cx hw ha0 k_f_X10_49 dX10_thistles_5 (fun v2 e2 h2 => ?_)
  rw [show v2 = b581 from Option.some.inj (e2.symm.trans (hF581))]
  have i3 : Iv (σ.1 327 b582) 0 6 := o_fb (j := 327) hw hb582 rfl
  have i4 : Iv (σ.1 327 b581) 0 6 := o_fb (j := 327) hw hb581 rfl
  refine o_cv hw (oRunV cx hA hw q_X6_copyFrom k_m_X10_131 rfl hb582 (by decide) (As := [.ref b581]) (c_X6_copyFrom b582 hb582 b581 hb581) (by decide) rfl hl.1 rfl (Nat.le_of_ble_eq_true rfl) dX10_thistles_8 (by decide)) (fun σ5 H locs hp hw => ?_)
  obtain ⟨p6_0, p6_1⟩ := hp
  have fr := oFr_tr fr p6_0 (by decide)
  have i7 : Iv (σ5.1 327 b582) 0 6 := o_fb (j := 327) hw hb582 rfl
  have i8 : Iv (σ5.1 327 b581) 0 6 := o_fb (j := 327) hw hb581 rfl
  have bb9 : ∀ V, NV σ a0 V → σ5.1 327 b582 = V := fun V h => by
    have h1 : NV σ a0 V := h
    exact p6_1.1.trans (nv_P h1 (hF581))
  have nn10 : ∀ V, NV σ a0 V → NV σ5 a0 V := fun V h => by
    have h1 : NV σ a0 V := h
    exact nv_c h1 p6_0 (by decide +kernel) (u_v (u_cp p6_1) (nv_P h1 (hF581)))
  refine lv_aload_n hx hb dX10_thistles_11 rfl (lv_at hl 0 rfl) ?_
  refine lv_aload_n hx hb dX10_thistles_12 rfl (lv_at hl 0 rfl) ?_
  refine lv_aload_n hx hb dX10_thistles_13 rfl (lv_at hl 0 rfl) ?_
  refine g_581 cx hw ha0 k_f_X10_49 dX10_thistles_14 (fun v11 e11 h11 => ?_)
  rw [show v11 = b581 from Option.some.inj (e11.symm.trans (((kr_c p6_0 (by decide)).trans hF581)))]
  refine g_322 cx hw hb581 k_f_X10_151 dX10_thistles_17 (fun v12 e12 h12 => ?_)
  refine lv_iload_n hx hb dX10_thistles_20 rfl (lv_at hl 1 rfl) ?_
  refine lv_iload_n hx hb dX10_thistles_21 rfl (lv_at hl 2 rfl) ?_
  refine o_ci hw (oRunV cx hA hw q_X10_lay k_m_X10_257 rfl ha0 (by decide) (As := [.ref v12, .int a1, .int a2]) (c_X10_lay a0 ha0 v12 h12 a1 a2) (by decide) rfl hl.1 rfl (Nat.le_of_ble_eq_true rfl) dX10_thistles_22 (by decide)) (fun v14 σ13 H locs hp hw => ?_)
  have p14_0 := hp
  have fr := oFr_tr fr p14_0 (by decide)
  refine o_ci hw (oRunV cx hA hw q_X10_remembered k_m_X10_260 rfl ha0 (by decide) (As := [.int v14]) (c_X10_remembered a0 ha0 v14) (by decide) rfl hl.1 rfl (Nat.le_of_ble_eq_true rfl) dX10_thistles_25 (by decide)) (fun v16 σ15 H locs hp hw => ?_)
  obtain ⟨p16_0, p16_1⟩ := hp
  have fr := oFr_tr fr p16_0 (by decide)
  have nn17 : ∀ V, NV σ a0 V → NV σ15 a0 V := fun V h => by
    have h1 : NV σ13 a0 V := (nv_0 (nn10 V h) p14_0 (by decide +kernel))
    exact p16_1 V h1 (fun b q => by rw [show b = b582 from Option.some.inj (q.symm.trans (((kr_c p14_0 (by decide)).trans ((kr_c p6_0 (by decide)).trans hF582))))]; exact ((((kp_c p14_0 (by decide)).trans rfl)).trans (bb9 V h)))
  rw [← hQ]
  exact o_ri cx rx hw dX10_thistles_28 ⟨fr, (by intro V h; exact (nn17 V h))⟩
abbrev fs_X10_gate : List Nat := [129, 130, 327, 328, 329, 330, 331]
abbrev ts_X10_gate : List Nat := [32, 33, 34]
set_option maxHeartbeats 4000000 in
set_option maxRecDepth 100000 in
theorem c_X10_gate (a0 : Nat) (ha0 : oA L τ a0 9) (a1 : Int32) (a2 : Int32) : oMet l A L τ cy D K yX10_gate cX10_gate 3 (some .int) 4 123 [.ref a0, .int a1, .int a2] σ (va_Qi (fun r σ1 => oFr τ fs_X10_gate ts_X10_gate σ σ1 ∧ (∀ V, NV σ a0 V → NV σ1 a0 V)) (oPo A L τ cy D) A) := by
  refine oMk (by decide) (Nat.le_of_ble_eq_true rfl) rfl ?_
  intro p e s m args below meth c ls cx rx hA hw hl
  generalize hQ : MQ below _ args s 0 0 A = Q
  have hx := cx.1.1
  have hb := cx.1.2.1
  have hml := cx.1.2.2.1
  have hown := cx.1.2.2.2.1
  have hts := cx.1.2.2.2.2
  have hl : lv_has ls 3 [(0, .ref a0), (1, .int a1), (2, .int a2)] := hl
  have fr : oFr τ fs_X10_gate ts_X10_gate σ σ := oFr_rf
  obtain ⟨b581, hF581, hb581⟩ := hw.2.2.2.2.2 581 a0 5 (by rw [ha0.2]; rfl) ha0.1
  obtain ⟨b582, hF582, hb582⟩ := hw.2.2.2.2.2 582 a0 5 (by rw [ha0.2]; rfl) ha0.1
  obtain ⟨b583, hF583, hb583⟩ := hw.2.2.2.2.2 583 a0 0 (by rw [ha0.2]; rfl) ha0.1
  obtain ⟨b585, hF585, hb585⟩ := hw.2.2.2.2.2 585 a0 2 (by rw [ha0.2]; rfl) ha0.1
  obtain ⟨b586, hF586, hb586⟩ := hw.2.2.2.2.2 586 a0 41 (by rw [ha0.2]; rfl) ha0.1
  refine lv_aload_n hx hb dX10_gate_0 rfl (lv_at hl 0 rfl) ?_
  refine g_582 cx hw ha0 k_f_X10_53 dX10_gate_1 (fun v1 e1 h1 => ?_)
  rw [show v1 = b582 from Option.some.inj (e1.symm.trans (hF582))]
  refine lv_aload_n hx hb dX10_gate_4 rfl (lv_at hl 0 rfl) ?_
  refine g_581 cx hw ha0 k_f_X10_49 dX10_gate_5 (fun v2 e2 h2 => ?_)
  rw [show v2 = b581 from Option.some.inj (e2.symm.trans (hF581))]
  have i3 : Iv (σ.1 327 b582) 0 6 := o_fb (j := 327) hw hb582 rfl
  have i4 : Iv (σ.1 327 b581) 0 6 := o_fb (j := 327) hw hb581 rfl
  refine o_cv hw (oRunV cx hA hw q_X6_copyFrom k_m_X10_131 rfl hb582 (by decide) (As := [.ref b581]) (c_X6_copyFrom b582 hb582 b581 hb581) (by decide) rfl hl.1 rfl (Nat.le_of_ble_eq_true rfl) dX10_gate_8 (by decide)) (fun σ5 H locs hp hw => ?_)
  obtain ⟨p6_0, p6_1⟩ := hp
  have fr := oFr_tr fr p6_0 (by decide)
  have i7 : Iv (σ5.1 327 b582) 0 6 := o_fb (j := 327) hw hb582 rfl
  have i8 : Iv (σ5.1 327 b581) 0 6 := o_fb (j := 327) hw hb581 rfl
  have bb9 : ∀ V, NV σ a0 V → σ5.1 327 b582 = V := fun V h => by
    have h1 : NV σ a0 V := h
    exact p6_1.1.trans (nv_P h1 (hF581))
  have nn10 : ∀ V, NV σ a0 V → NV σ5 a0 V := fun V h => by
    have h1 : NV σ a0 V := h
    exact nv_c h1 p6_0 (by decide +kernel) (u_v (u_cp p6_1) (nv_P h1 (hF581)))
  refine lv_aload_n hx hb dX10_gate_11 rfl (lv_at hl 0 rfl) ?_
  refine lv_aload_n hx hb dX10_gate_12 rfl (lv_at hl 0 rfl) ?_
  refine lv_iload_n hx hb dX10_gate_13 rfl (lv_at hl 1 rfl) ?_
  refine lv_iload_n hx hb dX10_gate_14 rfl (lv_at hl 2 rfl) ?_
  refine o_ci hw (oRunV cx hA hw q_X10_turn k_m_X10_263 rfl ha0 (by decide) (As := [.int a1, .int a2]) (c_X10_turn a0 ha0 a1 a2) (by decide) rfl hl.1 rfl (Nat.le_of_ble_eq_true rfl) dX10_gate_15 (by decide)) (fun v12 σ11 H locs hp hw => ?_)
  obtain ⟨p12_0, p12_1⟩ := hp
  have fr := oFr_tr fr p12_0 (by decide)
  refine o_ci hw (oRunV cx hA hw q_X10_remembered k_m_X10_260 rfl ha0 (by decide) (As := [.int v12]) (c_X10_remembered a0 ha0 v12) (by decide) rfl hl.1 rfl (Nat.le_of_ble_eq_true rfl) dX10_gate_18 (by decide)) (fun v14 σ13 H locs hp hw => ?_)
  obtain ⟨p14_0, p14_1⟩ := hp
  have fr := oFr_tr fr p14_0 (by decide)
  have nn15 : ∀ V, NV σ a0 V → NV σ13 a0 V := fun V h => by
    have h1 : NV σ11 a0 V := (nv_0 (nn10 V h) p12_0 (by decide +kernel))
    exact p14_1 V h1 (fun b q => by rw [show b = b582 from Option.some.inj (q.symm.trans (((kr_c p12_0 (by decide)).trans ((kr_c p6_0 (by decide)).trans hF582))))]; exact ((((kp_c p12_0 (by decide)).trans rfl)).trans (bb9 V h)))
  rw [← hQ]
  exact o_ri cx rx hw dX10_gate_21 ⟨fr, (by intro V h; exact (nn15 V h))⟩
abbrev fs_X10_drive : List Nat := [129, 130, 327, 328, 329, 330, 331]
abbrev ts_X10_drive : List Nat := [32, 33, 34]
set_option maxHeartbeats 4000000 in
set_option maxRecDepth 100000 in
theorem c_X10_drive (a0 : Nat) (ha0 : oA L τ a0 9) (a1 : Int32) (a2 : Int32) : oMet l A L τ cy D K yX10_drive cX10_drive 3 (some .int) 4 123 [.ref a0, .int a1, .int a2] σ (va_Qi (fun r σ1 => oFr τ fs_X10_drive ts_X10_drive σ σ1 ∧ (∀ V, NV σ a0 V → NV σ1 a0 V)) (oPo A L τ cy D) A) := by
  refine oMk (by decide) (Nat.le_of_ble_eq_true rfl) rfl ?_
  intro p e s m args below meth c ls cx rx hA hw hl
  generalize hQ : MQ below _ args s 0 0 A = Q
  have hx := cx.1.1
  have hb := cx.1.2.1
  have hml := cx.1.2.2.1
  have hown := cx.1.2.2.2.1
  have hts := cx.1.2.2.2.2
  have hl : lv_has ls 3 [(0, .ref a0), (1, .int a1), (2, .int a2)] := hl
  have fr : oFr τ fs_X10_drive ts_X10_drive σ σ := oFr_rf
  obtain ⟨b581, hF581, hb581⟩ := hw.2.2.2.2.2 581 a0 5 (by rw [ha0.2]; rfl) ha0.1
  obtain ⟨b582, hF582, hb582⟩ := hw.2.2.2.2.2 582 a0 5 (by rw [ha0.2]; rfl) ha0.1
  obtain ⟨b583, hF583, hb583⟩ := hw.2.2.2.2.2 583 a0 0 (by rw [ha0.2]; rfl) ha0.1
  obtain ⟨b585, hF585, hb585⟩ := hw.2.2.2.2.2 585 a0 2 (by rw [ha0.2]; rfl) ha0.1
  obtain ⟨b586, hF586, hb586⟩ := hw.2.2.2.2.2 586 a0 41 (by rw [ha0.2]; rfl) ha0.1
  refine lv_aload_n hx hb dX10_drive_0 rfl (lv_at hl 0 rfl) ?_
  refine g_582 cx hw ha0 k_f_X10_53 dX10_drive_1 (fun v1 e1 h1 => ?_)
  rw [show v1 = b582 from Option.some.inj (e1.symm.trans (hF582))]
  refine lv_aload_n hx hb dX10_drive_4 rfl (lv_at hl 0 rfl) ?_
  refine g_581 cx hw ha0 k_f_X10_49 dX10_drive_5 (fun v2 e2 h2 => ?_)
  rw [show v2 = b581 from Option.some.inj (e2.symm.trans (hF581))]
  have i3 : Iv (σ.1 327 b582) 0 6 := o_fb (j := 327) hw hb582 rfl
  have i4 : Iv (σ.1 327 b581) 0 6 := o_fb (j := 327) hw hb581 rfl
  refine o_cv hw (oRunV cx hA hw q_X6_copyFrom k_m_X10_131 rfl hb582 (by decide) (As := [.ref b581]) (c_X6_copyFrom b582 hb582 b581 hb581) (by decide) rfl hl.1 rfl (Nat.le_of_ble_eq_true rfl) dX10_drive_8 (by decide)) (fun σ5 H locs hp hw => ?_)
  obtain ⟨p6_0, p6_1⟩ := hp
  have fr := oFr_tr fr p6_0 (by decide)
  have i7 : Iv (σ5.1 327 b582) 0 6 := o_fb (j := 327) hw hb582 rfl
  have i8 : Iv (σ5.1 327 b581) 0 6 := o_fb (j := 327) hw hb581 rfl
  have bb9 : ∀ V, NV σ a0 V → σ5.1 327 b582 = V := fun V h => by
    have h1 : NV σ a0 V := h
    exact p6_1.1.trans (nv_P h1 (hF581))
  have nn10 : ∀ V, NV σ a0 V → NV σ5 a0 V := fun V h => by
    have h1 : NV σ a0 V := h
    exact nv_c h1 p6_0 (by decide +kernel) (u_v (u_cp p6_1) (nv_P h1 (hF581)))
  refine lv_aload_n hx hb dX10_drive_11 rfl (lv_at hl 0 rfl) ?_
  refine lv_aload_n hx hb dX10_drive_12 rfl (lv_at hl 0 rfl) ?_
  refine lv_iload_n hx hb dX10_drive_13 rfl (lv_at hl 1 rfl) ?_
  refine lv_iload_n hx hb dX10_drive_14 rfl (lv_at hl 2 rfl) ?_
  refine o_ci hw (oRunV cx hA hw q_X10_chase k_m_X10_266 rfl ha0 (by decide) (As := [.int a1, .int a2]) (c_X10_chase a0 ha0 a1 a2) (by decide) rfl hl.1 rfl (Nat.le_of_ble_eq_true rfl) dX10_drive_15 (by decide)) (fun v12 σ11 H locs hp hw => ?_)
  obtain ⟨p12_0, p12_1⟩ := hp
  have fr := oFr_tr fr p12_0 (by decide)
  refine o_ci hw (oRunV cx hA hw q_X10_remembered k_m_X10_260 rfl ha0 (by decide) (As := [.int v12]) (c_X10_remembered a0 ha0 v12) (by decide) rfl hl.1 rfl (Nat.le_of_ble_eq_true rfl) dX10_drive_18 (by decide)) (fun v14 σ13 H locs hp hw => ?_)
  obtain ⟨p14_0, p14_1⟩ := hp
  have fr := oFr_tr fr p14_0 (by decide)
  have nn15 : ∀ V, NV σ a0 V → NV σ13 a0 V := fun V h => by
    have h1 : NV σ11 a0 V := (nv_0 (nn10 V h) p12_0 (by decide +kernel))
    exact p14_1 V h1 (fun b q => by rw [show b = b582 from Option.some.inj (q.symm.trans (((kr_c p12_0 (by decide)).trans ((kr_c p6_0 (by decide)).trans hF582))))]; exact ((((kp_c p12_0 (by decide)).trans rfl)).trans (bb9 V h)))
  rw [← hQ]
  exact o_ri cx rx hw dX10_drive_21 ⟨fr, (by intro V h; exact (nn15 V h))⟩
abbrev fs_X10_hour : List Nat := [129, 130, 193, 327, 328, 329, 330, 331, 517]
abbrev ts_X10_hour : List Nat := [32, 33, 34, 36, 37, 38]
set_option maxHeartbeats 4000000 in
set_option maxRecDepth 100000 in
theorem c_X10_hour (a0 : Nat) (ha0 : oA L τ a0 9) : oMet l A L τ cy D K yX10_hour cX10_hour 2 (some .int) 4 123 [.ref a0] σ (va_Qi (fun r σ1 => oFr τ fs_X10_hour ts_X10_hour σ σ1 ∧ (∀ V, NV σ a0 V → NV σ1 a0 V)) (oPo A L τ cy D) A) := by
  refine oMk (by decide) (Nat.le_of_ble_eq_true rfl) rfl ?_
  intro p e s m args below meth c ls cx rx hA hw hl
  generalize hQ : MQ below _ args s 0 0 A = Q
  have hx := cx.1.1
  have hb := cx.1.2.1
  have hml := cx.1.2.2.1
  have hown := cx.1.2.2.2.1
  have hts := cx.1.2.2.2.2
  have hl : lv_has ls 2 [(0, .ref a0)] := hl
  have fr : oFr τ fs_X10_hour ts_X10_hour σ σ := oFr_rf
  obtain ⟨b581, hF581, hb581⟩ := hw.2.2.2.2.2 581 a0 5 (by rw [ha0.2]; rfl) ha0.1
  obtain ⟨b582, hF582, hb582⟩ := hw.2.2.2.2.2 582 a0 5 (by rw [ha0.2]; rfl) ha0.1
  obtain ⟨b583, hF583, hb583⟩ := hw.2.2.2.2.2 583 a0 0 (by rw [ha0.2]; rfl) ha0.1
  obtain ⟨b585, hF585, hb585⟩ := hw.2.2.2.2.2 585 a0 2 (by rw [ha0.2]; rfl) ha0.1
  obtain ⟨b586, hF586, hb586⟩ := hw.2.2.2.2.2 586 a0 41 (by rw [ha0.2]; rfl) ha0.1
  refine lv_aload_n hx hb dX10_hour_0 rfl (lv_at hl 0 rfl) ?_
  refine g_582 cx hw ha0 k_f_X10_53 dX10_hour_1 (fun v1 e1 h1 => ?_)
  rw [show v1 = b582 from Option.some.inj (e1.symm.trans (hF582))]
  refine lv_aload_n hx hb dX10_hour_4 rfl (lv_at hl 0 rfl) ?_
  refine g_581 cx hw ha0 k_f_X10_49 dX10_hour_5 (fun v2 e2 h2 => ?_)
  rw [show v2 = b581 from Option.some.inj (e2.symm.trans (hF581))]
  have i3 : Iv (σ.1 327 b582) 0 6 := o_fb (j := 327) hw hb582 rfl
  have i4 : Iv (σ.1 327 b581) 0 6 := o_fb (j := 327) hw hb581 rfl
  refine o_cv hw (oRunV cx hA hw q_X6_copyFrom k_m_X10_131 rfl hb582 (by decide) (As := [.ref b581]) (c_X6_copyFrom b582 hb582 b581 hb581) (by decide) rfl hl.1 rfl (Nat.le_of_ble_eq_true rfl) dX10_hour_8 (by decide)) (fun σ5 H locs hp hw => ?_)
  obtain ⟨p6_0, p6_1⟩ := hp
  have fr := oFr_tr fr p6_0 (by decide)
  have i7 : Iv (σ5.1 327 b582) 0 6 := o_fb (j := 327) hw hb582 rfl
  have i8 : Iv (σ5.1 327 b581) 0 6 := o_fb (j := 327) hw hb581 rfl
  have bb9 : ∀ V, NV σ a0 V → σ5.1 327 b582 = V := fun V h => by
    have h1 : NV σ a0 V := h
    exact p6_1.1.trans (nv_P h1 (hF581))
  have nn10 : ∀ V, NV σ a0 V → NV σ5 a0 V := fun V h => by
    have h1 : NV σ a0 V := h
    exact nv_c h1 p6_0 (by decide +kernel) (u_v (u_cp p6_1) (nv_P h1 (hF581)))
  refine lv_aload_n hx hb dX10_hour_11 rfl (lv_at hl 0 rfl) ?_
  refine g_580 cx hw ha0 k_f_X10_42 dX10_hour_12 (fun v11 e11 h11 => ?_)
  refine lv_aload_n hx hb dX10_hour_15 rfl (lv_at hl 0 rfl) ?_
  refine g_581 cx hw ha0 k_f_X10_49 dX10_hour_16 (fun v12 e12 h12 => ?_)
  rw [show v12 = b581 from Option.some.inj (e12.symm.trans (((kr_c p6_0 (by decide)).trans hF581)))]
  refine o_ci hw (oRunV cx hA hw q_X9_pass k_m_X10_269 rfl h11 (by decide) (As := [.ref b581]) (c_X9_pass v11 h11 b581 hb581) (by decide) rfl hl.1 rfl (Nat.le_of_ble_eq_true rfl) dX10_hour_19 (by decide)) (fun v14 σ13 H locs hp hw => ?_)
  have p14_0 := hp
  have fr := oFr_tr fr p14_0 (by decide)
  refine lv_istore_n (lv' := [(1, .int v14), (0, .ref a0)]) hx hb dX10_hour_22 rfl hl (by decide) rfl (fun ls hl => ?_)
  refine lv_aload_n hx hb dX10_hour_23 rfl (lv_at hl 1 rfl) ?_
  refine lv_aload_n hx hb dX10_hour_24 rfl (lv_at hl 1 rfl) ?_
  refine g_581 cx hw ha0 k_f_X10_49 dX10_hour_25 (fun v15 e15 h15 => ?_)
  rw [show v15 = b581 from Option.some.inj (e15.symm.trans (((kr_c p14_0 (by decide)).trans ((kr_c p6_0 (by decide)).trans hF581))))]
  refine o_cv hw (oRunV cx hA hw q_X10_tellPlaces k_m_X10_273 rfl ha0 (by decide) (As := [.ref b581]) (c_X10_tellPlaces a0 ha0 b581 hb581) (by decide) rfl hl.1 rfl (Nat.le_of_ble_eq_true rfl) dX10_hour_28 (by decide)) (fun σ16 H locs hp hw => ?_)
  have p17_0 := hp
  have fr := oFr_tr fr p17_0 (by decide)
  refine lv_aload_n hx hb dX10_hour_31 rfl (lv_at hl 1 rfl) ?_
  refine lv_iload_n hx hb dX10_hour_32 rfl (lv_at hl 0 rfl) ?_
  refine o_ci hw (oRunV cx hA hw q_X10_remembered k_m_X10_260 rfl ha0 (by decide) (As := [.int v14]) (c_X10_remembered a0 ha0 v14) (by decide) rfl hl.1 rfl (Nat.le_of_ble_eq_true rfl) dX10_hour_33 (by decide)) (fun v19 σ18 H locs hp hw => ?_)
  obtain ⟨p19_0, p19_1⟩ := hp
  have fr := oFr_tr fr p19_0 (by decide)
  have nn20 : ∀ V, NV σ a0 V → NV σ18 a0 V := fun V h => by
    have h1 : NV σ16 a0 V := (nv_0 (nv_0 (nn10 V h) p14_0 (by decide +kernel)) p17_0 (by decide +kernel))
    exact p19_1 V h1 (fun b q => by rw [show b = b582 from Option.some.inj (q.symm.trans (((kr_c p17_0 (by decide)).trans ((kr_c p14_0 (by decide)).trans ((kr_c p6_0 (by decide)).trans hF582)))))]; exact ((((kp_c p17_0 (by decide)).trans ((kp_c p14_0 (by decide)).trans rfl))).trans (bb9 V h)))
  rw [← hQ]
  exact o_ri cx rx hw dX10_hour_36 ⟨fr, (by intro V h; exact (nn20 V h))⟩
abbrev fs_X10_hours : List Nat := [129, 130, 193, 327, 328, 329, 330, 331, 517]
abbrev ts_X10_hours : List Nat := [32, 33, 34, 36, 37, 38]
set_option maxHeartbeats 4000000 in
set_option maxRecDepth 100000 in
theorem c_X10_hours (a0 : Nat) (ha0 : oA L τ a0 9) (a1 : Int32) : oMet l A L τ cy D K yX10_hours cX10_hours 3 (some .int) 5 130 [.ref a0, .int a1] σ (va_Qi (fun r σ1 => oFr τ fs_X10_hours ts_X10_hours σ σ1 ∧ (∀ V, NV σ a0 V → NV σ1 a0 V)) (oPo A L τ cy D) A) := by
  refine oMk (by decide) (Nat.le_of_ble_eq_true rfl) rfl ?_
  intro p e s m args below meth c ls cx rx hA hw hl
  generalize hQ : MQ below _ args s 0 0 A = Q
  have hx := cx.1.1
  have hb := cx.1.2.1
  have hml := cx.1.2.2.1
  have hown := cx.1.2.2.2.1
  have hts := cx.1.2.2.2.2
  have hl : lv_has ls 3 [(0, .ref a0), (1, .int a1)] := hl
  have fr : oFr τ fs_X10_hours ts_X10_hours σ σ := oFr_rf
  obtain ⟨b581, hF581, hb581⟩ := hw.2.2.2.2.2 581 a0 5 (by rw [ha0.2]; rfl) ha0.1
  obtain ⟨b582, hF582, hb582⟩ := hw.2.2.2.2.2 582 a0 5 (by rw [ha0.2]; rfl) ha0.1
  obtain ⟨b583, hF583, hb583⟩ := hw.2.2.2.2.2 583 a0 0 (by rw [ha0.2]; rfl) ha0.1
  obtain ⟨b585, hF585, hb585⟩ := hw.2.2.2.2.2 585 a0 2 (by rw [ha0.2]; rfl) ha0.1
  obtain ⟨b586, hF586, hb586⟩ := hw.2.2.2.2.2 586 a0 41 (by rw [ha0.2]; rfl) ha0.1
  refine lv_iload_n hx hb dX10_hours_0 rfl (lv_at hl 1 rfl) ?_
  refine lv_if_lt (tgt := 10) hx hb dX10_hours_1 (by decide) (fun c1 => ?_) (fun c1 => ?_)
  · --
    have i2 : Iv a1 (-2147483648) (-1) := iv_lt1 c1 (iv_top a1) (⟨by decide, by decide⟩ : Iv 0 0 0) (by decide)
    refine lv_iconst (v := (-1)) hx hb dX10_hours_10 (by decide) ?_
    rw [← hQ]
    exact o_ri cx rx hw dX10_hours_11 ⟨fr, (by intro V h; exact h)⟩
  · --
    have i3 : Iv a1 0 2147483647 := iv_le2 (iv_nlt c1) (⟨by decide, by decide⟩ : Iv 0 0 0) (iv_top a1) (by decide)
    refine lv_iload_n hx hb dX10_hours_4 rfl (lv_at hl 1 rfl) ?_
    refine lv_bipush (v := 60) hx hb dX10_hours_5 (by decide) ?_
    refine lv_icmp_le (tgt := 12) hx hb dX10_hours_7 (by decide) (fun c4 => ?_) (fun c4 => ?_)
    · --
      have i5 : Iv a1 0 60 := iv_le1 c4 i3 (⟨by decide, by decide⟩ : Iv 60 60 60) (by decide)
      refine lv_aload_n hx hb dX10_hours_12 rfl (lv_at hl 0 rfl) ?_
      refine g_582 cx hw ha0 k_f_X10_53 dX10_hours_13 (fun v6 e6 h6 => ?_)
      rw [show v6 = b582 from Option.some.inj (e6.symm.trans (hF582))]
      refine lv_aload_n hx hb dX10_hours_16 rfl (lv_at hl 0 rfl) ?_
      refine g_581 cx hw ha0 k_f_X10_49 dX10_hours_17 (fun v7 e7 h7 => ?_)
      rw [show v7 = b581 from Option.some.inj (e7.symm.trans (hF581))]
      have i8 : Iv (σ.1 327 b582) 0 6 := o_fb (j := 327) hw hb582 rfl
      have i9 : Iv (σ.1 327 b581) 0 6 := o_fb (j := 327) hw hb581 rfl
      refine o_cv hw (oRunV cx hA hw q_X6_copyFrom k_m_X10_131 rfl hb582 (by decide) (As := [.ref b581]) (c_X6_copyFrom b582 hb582 b581 hb581) (by decide) rfl hl.1 rfl (Nat.le_of_ble_eq_true rfl) dX10_hours_20 (by decide)) (fun σ10 H locs hp hw => ?_)
      obtain ⟨p11_0, p11_1⟩ := hp
      have fr := oFr_tr fr p11_0 (by decide)
      have i12 : Iv (σ10.1 327 b582) 0 6 := o_fb (j := 327) hw hb582 rfl
      have i13 : Iv (σ10.1 327 b581) 0 6 := o_fb (j := 327) hw hb581 rfl
      have bb14 : ∀ V, NV σ a0 V → σ10.1 327 b582 = V := fun V h => by
        have h1 : NV σ a0 V := h
        exact p11_1.1.trans (nv_P h1 (hF581))
      have nn15 : ∀ V, NV σ a0 V → NV σ10 a0 V := fun V h => by
        have h1 : NV σ a0 V := h
        exact nv_c h1 p11_0 (by decide +kernel) (u_v (u_cp p11_1) (nv_P h1 (hF581)))
      refine lv_aload_n hx hb dX10_hours_23 rfl (lv_at hl 0 rfl) ?_
      refine g_580 cx hw ha0 k_f_X10_42 dX10_hours_24 (fun v16 e16 h16 => ?_)
      refine lv_aload_n hx hb dX10_hours_27 rfl (lv_at hl 0 rfl) ?_
      refine g_581 cx hw ha0 k_f_X10_49 dX10_hours_28 (fun v17 e17 h17 => ?_)
      rw [show v17 = b581 from Option.some.inj (e17.symm.trans (((kr_c p11_0 (by decide)).trans hF581)))]
      refine lv_iload_n hx hb dX10_hours_31 rfl (lv_at hl 1 rfl) ?_
      refine o_ci hw (oRunV cx hA hw q_X9_passMany k_m_X10_276 rfl h16 (by decide) (As := [.ref b581, .int a1]) (c_X9_passMany v16 h16 b581 hb581 a1) (by decide) rfl hl.1 rfl (Nat.le_of_ble_eq_true rfl) dX10_hours_32 (by decide)) (fun v19 σ18 H locs hp hw => ?_)
      have p19_0 := hp
      have fr := oFr_tr fr p19_0 (by decide)
      refine lv_istore_n (lv' := [(2, .int v19), (0, .ref a0), (1, .int a1)]) hx hb dX10_hours_35 rfl hl (by decide) rfl (fun ls hl => ?_)
      refine lv_aload_n hx hb dX10_hours_36 rfl (lv_at hl 1 rfl) ?_
      refine lv_aload_n hx hb dX10_hours_37 rfl (lv_at hl 1 rfl) ?_
      refine g_581 cx hw ha0 k_f_X10_49 dX10_hours_38 (fun v20 e20 h20 => ?_)
      rw [show v20 = b581 from Option.some.inj (e20.symm.trans (((kr_c p19_0 (by decide)).trans ((kr_c p11_0 (by decide)).trans hF581))))]
      refine o_cv hw (oRunV cx hA hw q_X10_tellPlaces k_m_X10_273 rfl ha0 (by decide) (As := [.ref b581]) (c_X10_tellPlaces a0 ha0 b581 hb581) (by decide) rfl hl.1 rfl (Nat.le_of_ble_eq_true rfl) dX10_hours_41 (by decide)) (fun σ21 H locs hp hw => ?_)
      have p22_0 := hp
      have fr := oFr_tr fr p22_0 (by decide)
      refine lv_iload_n hx hb dX10_hours_44 rfl (lv_at hl 2 rfl) ?_
      refine lv_if_ne (tgt := 52) hx hb dX10_hours_45 (by decide) (fun c23 => ?_) (fun c23 => ?_)
      · --
        have i24 : Iv a1 1 60 := iv_ne1 c23 i5 (⟨by decide, by decide⟩ : Iv 0 0 0) (by decide)
        refine lv_aload_n hx hb dX10_hours_52 rfl (lv_at hl 1 rfl) ?_
        refine lv_iload_n hx hb dX10_hours_53 rfl (lv_at hl 0 rfl) ?_
        refine o_ci hw (oRunV cx hA hw q_X10_remembered k_m_X10_260 rfl ha0 (by decide) (As := [.int v19]) (c_X10_remembered a0 ha0 v19) (by decide) rfl hl.1 rfl (Nat.le_of_ble_eq_true rfl) dX10_hours_54 (by decide)) (fun v26 σ25 H locs hp hw => ?_)
        obtain ⟨p26_0, p26_1⟩ := hp
        have fr := oFr_tr fr p26_0 (by decide)
        have nn27 : ∀ V, NV σ a0 V → NV σ25 a0 V := fun V h => by
          have h1 : NV σ21 a0 V := (nv_0 (nv_0 (nn15 V h) p19_0 (by decide +kernel)) p22_0 (by decide +kernel))
          exact p26_1 V h1 (fun b q => by rw [show b = b582 from Option.some.inj (q.symm.trans (((kr_c p22_0 (by decide)).trans ((kr_c p19_0 (by decide)).trans ((kr_c p11_0 (by decide)).trans hF582)))))]; exact ((((kp_c p22_0 (by decide)).trans ((kp_c p19_0 (by decide)).trans rfl))).trans (bb14 V h)))
        rw [← hQ]
        exact o_ri cx rx hw dX10_hours_57 ⟨fr, (by intro V h; exact (nn27 V h))⟩
      · --
        have i28 : Iv a1 0 0 := iv_eq1 c23 i5 (⟨by decide, by decide⟩ : Iv 0 0 0) (by decide)
        refine lv_iload_n hx hb dX10_hours_48 rfl (lv_at hl 0 rfl) ?_
        refine lv_goto (tgt := 57) hx hb dX10_hours_49 (by decide) ?_
        rw [← hQ]
        exact o_ri cx rx hw dX10_hours_57 ⟨fr, (by intro V h; exact (nv_0 (nv_0 (nn15 V h) p19_0 (by decide +kernel)) p22_0 (by decide +kernel)))⟩
    · --
      have i29 : Iv a1 61 2147483647 := iv_lt2 (iv_nle c4) (⟨by decide, by decide⟩ : Iv 60 60 60) i3 (by decide)
      refine lv_iconst (v := (-1)) hx hb dX10_hours_10 (by decide) ?_
      rw [← hQ]
      exact o_ri cx rx hw dX10_hours_11 ⟨fr, (by intro V h; exact h)⟩
abbrev fs_X10_day : List Nat := [129, 130, 193, 327, 328, 329, 330, 331, 385, 386, 387, 517]
abbrev ts_X10_day : List Nat := [32, 33, 34, 36, 37, 38]
set_option maxHeartbeats 4000000 in
set_option maxRecDepth 100000 in
theorem c_X10_day (a0 : Nat) (ha0 : oA L τ a0 9) : oMet l A L τ cy D K yX10_day cX10_day 7 (some .int) 7 172 [.ref a0] σ (va_Qi (fun r σ1 => oFr τ fs_X10_day ts_X10_day σ σ1 ∧ (∀ b, σ.2.2.2.2 576 a0 = some b → Iv (σ1.1 385 b) 0 0) ∧ (∀ V, NV σ a0 V → NV σ1 a0 V)) (oPo A L τ cy D) A) := by
  refine oMk (by decide) (Nat.le_of_ble_eq_true rfl) rfl ?_
  intro p e s m args below meth c ls cx rx hA hw hl
  generalize hQ : MQ below _ args s 0 0 A = Q
  have hx := cx.1.1
  have hb := cx.1.2.1
  have hml := cx.1.2.2.1
  have hown := cx.1.2.2.2.1
  have hts := cx.1.2.2.2.2
  have hl : lv_has ls 7 [(0, .ref a0)] := hl
  have fr : oFr τ fs_X10_day ts_X10_day σ σ := oFr_rf
  obtain ⟨b576, hF576, hb576⟩ := hw.2.2.2.2.2 576 a0 6 (by rw [ha0.2]; rfl) ha0.1
  obtain ⟨b581, hF581, hb581⟩ := hw.2.2.2.2.2 581 a0 5 (by rw [ha0.2]; rfl) ha0.1
  obtain ⟨b582, hF582, hb582⟩ := hw.2.2.2.2.2 582 a0 5 (by rw [ha0.2]; rfl) ha0.1
  obtain ⟨b583, hF583, hb583⟩ := hw.2.2.2.2.2 583 a0 0 (by rw [ha0.2]; rfl) ha0.1
  obtain ⟨b585, hF585, hb585⟩ := hw.2.2.2.2.2 585 a0 2 (by rw [ha0.2]; rfl) ha0.1
  obtain ⟨b586, hF586, hb586⟩ := hw.2.2.2.2.2 586 a0 41 (by rw [ha0.2]; rfl) ha0.1
  refine lv_aload_n hx hb dX10_day_0 rfl (lv_at hl 0 rfl) ?_
  refine o_ci hw (oRunV cx hA hw q_X10_faultOfDay k_m_X10_280 rfl ha0 (by decide) (As := []) (c_X10_faultOfDay a0 ha0) (by decide) rfl hl.1 rfl (Nat.le_of_ble_eq_true rfl) dX10_day_1 (by decide)) (fun v2 σ1 H locs hp hw => ?_)
  have p2_0 := hp
  have fr := oFr_tr fr p2_0 (by decide)
  refine lv_istore_n (lv' := [(1, .int v2), (0, .ref a0)]) hx hb dX10_day_4 rfl hl (by decide) rfl (fun ls hl => ?_)
  refine lv_iload_n hx hb dX10_day_5 rfl (lv_at hl 0 rfl) ?_
  refine lv_if_eq (tgt := 18) hx hb dX10_day_6 (by decide) (fun c3 => ?_) (fun c3 => ?_)
  · --
    have i4 : Iv v2 0 0 := iv_eq1 c3 (iv_top v2) (⟨by decide, by decide⟩ : Iv 0 0 0) (by decide)
    refine lv_aload_n hx hb dX10_day_18 rfl (lv_at hl 1 rfl) ?_
    refine g_582 cx hw ha0 k_f_X10_53 dX10_day_19 (fun v5 e5 h5 => ?_)
    rw [show v5 = b582 from Option.some.inj (e5.symm.trans (((kr_c p2_0 (by decide)).trans hF582)))]
    refine lv_aload_n hx hb dX10_day_22 rfl (lv_at hl 1 rfl) ?_
    refine g_581 cx hw ha0 k_f_X10_49 dX10_day_23 (fun v6 e6 h6 => ?_)
    rw [show v6 = b581 from Option.some.inj (e6.symm.trans (((kr_c p2_0 (by decide)).trans hF581)))]
    have i7 : Iv (σ1.1 327 b582) 0 6 := o_fb (j := 327) hw hb582 rfl
    have i8 : Iv (σ1.1 327 b581) 0 6 := o_fb (j := 327) hw hb581 rfl
    refine o_cv hw (oRunV cx hA hw q_X6_copyFrom k_m_X10_131 rfl hb582 (by decide) (As := [.ref b581]) (c_X6_copyFrom b582 hb582 b581 hb581) (by decide) rfl hl.1 rfl (Nat.le_of_ble_eq_true rfl) dX10_day_26 (by decide)) (fun σ9 H locs hp hw => ?_)
    obtain ⟨p10_0, p10_1⟩ := hp
    have fr := oFr_tr fr p10_0 (by decide)
    have i11 : Iv (σ9.1 327 b582) 0 6 := o_fb (j := 327) hw hb582 rfl
    have i12 : Iv (σ9.1 327 b581) 0 6 := o_fb (j := 327) hw hb581 rfl
    have bb13 : ∀ V, NV σ a0 V → σ9.1 327 b582 = V := fun V h => by
      have h1 : NV σ1 a0 V := (nv_0 h p2_0 (by decide +kernel))
      exact p10_1.1.trans (nv_P h1 (((kr_c p2_0 (by decide)).trans hF581)))
    have nn14 : ∀ V, NV σ a0 V → NV σ9 a0 V := fun V h => by
      have h1 : NV σ1 a0 V := (nv_0 h p2_0 (by decide +kernel))
      exact nv_c h1 p10_0 (by decide +kernel) (u_v (u_cp p10_1) (nv_P h1 (((kr_c p2_0 (by decide)).trans hF581))))
    refine lv_aload_n hx hb dX10_day_29 rfl (lv_at hl 1 rfl) ?_
    refine g_576 cx hw ha0 k_f_X10_10 dX10_day_30 (fun v15 e15 h15 => ?_)
    rw [show v15 = b576 from Option.some.inj (e15.symm.trans (((kr_c p10_0 (by decide)).trans ((kr_c p2_0 (by decide)).trans hF576))))]
    refine lv_bipush (v := 60) hx hb dX10_day_33 (by decide) ?_
    refine o_cv hw (oRunV cx hA hw q_X7_begin k_m_X10_220 rfl hb576 (by decide) (As := [.int 60]) (c_X7_begin b576 hb576 60) (by decide) rfl hl.1 rfl (Nat.le_of_ble_eq_true rfl) dX10_day_35 (by decide)) (fun σ16 H locs hp hw => ?_)
    obtain ⟨p17_0, p17_1⟩ := hp
    have fr := oFr_tr fr p17_0 (by decide)
    refine lv_iconst (v := 0) hx hb dX10_day_38 (by decide) ?_
    refine lv_istore_n (lv' := [(2, .int 0), (1, .int v2), (0, .ref a0)]) hx hb dX10_day_39 rfl hl (by decide) rfl (fun ls hl => ?_)
    refine lv_iconst (v := 0) hx hb dX10_day_40 (by decide) ?_
    refine lv_istore_n (lv' := [(3, .int 0), (2, .int 0), (1, .int v2), (0, .ref a0)]) hx hb dX10_day_41 rfl hl (by decide) rfl (fun ls hl => ?_)
    refine lv_iconst (v := 0) hx hb dX10_day_42 (by decide) ?_
    refine lv_istore (lv' := [(4, .int 0), (3, .int 0), (2, .int 0), (1, .int v2), (0, .ref a0)]) hx hb dX10_day_43 hl (by decide) rfl (fun ls hl => ?_)
    refine lv_iconst (v := 0) hx hb dX10_day_45 (by decide) ?_
    refine lv_istore (lv' := [(5, .int 0), (4, .int 0), (3, .int 0), (2, .int 0), (1, .int v2), (0, .ref a0)]) hx hb dX10_day_46 hl (by decide) rfl (fun ls hl => ?_)
    have frE_48 := fr
    have J_48 : ∀ n48 : Nat, ∀ (j48_2 : Int32) (j48_3 : Int32) (j48_4 : Int32) (ij48_4 : Iv j48_4 0 1) (j48_5 : Int32) (ij48_5 : Iv j48_5 0 60), ∀ (σ_48 : oSt) (H : Heap) (locs : List Loc), oI A L τ cy D s.heap σ_48 H locs → oFr τ fs_X10_day ts_X10_day σ σ_48 → (60 - j48_5.toInt).toNat < n48 → (∀ V, NV σ a0 V → σ_48.1 327 b582 = V) → (∀ V, NV σ a0 V → NV σ_48 a0 V) → ∀ (ls : Array Slot), lv_has ls 7 [(0, .ref a0), (1, .int v2), (2, .int j48_2), (3, .int j48_3), (4, .int j48_4), (5, .int j48_5)] → W p l e ({ frames := 7, cells := 0, slots := 0, locals := 172 } : Room) s m args below meth c H locs 0 0 Q (F0 m 48 ls []) := by
      intro n48
      induction n48 with
      | zero => intro j48_2 j48_3 j48_4 ij48_4 j48_5 ij48_5 σ_48 H locs hw fr   hn_48 bb_48 nv_48  ls hl; exact absurd hn_48 (Nat.not_lt_zero _)
      | succ n48 ih_48 =>
        intro j48_2 j48_3 j48_4 ij48_4 j48_5 ij48_5 σ_48 H locs hw fr   hn_48 bb_48 nv_48  ls hl
        have fr_48 := fr
        refine lv_iload hx hb dX10_day_48 (lv_at hl 5 rfl) ?_
        refine lv_bipush (v := 60) hx hb dX10_day_50 (by decide) ?_
        have J_121 : ∀ (H : Heap) (locs : List Loc), oI A L τ cy D s.heap σ_48 H locs → (∀ V, NV σ a0 V → σ_48.1 327 b582 = V) → (∀ V, NV σ a0 V → NV σ_48 a0 V) → ∀ (ls : Array Slot), lv_has ls 7 [(0, .ref a0), (1, .int v2), (2, .int j48_2), (3, .int j48_3), (4, .int j48_4), (5, .int j48_5)] → W p l e ({ frames := 7, cells := 0, slots := 0, locals := 172 } : Room) s m args below meth c H locs 0 0 Q (F0 m 121 ls []) := by
          intro  H locs hw   bb_121 nv_121  ls hl
          refine lv_iload_n hx hb dX10_day_121 rfl (lv_at hl 2 rfl) ?_
          have frE_136 := fr
          have J_136 : ∀ (σ_136 : oSt) (H : Heap) (locs : List Loc), oI A L τ cy D s.heap σ_136 H locs → oFr τ fs_X10_day ts_X10_day σ σ_136 → (∀ V, NV σ a0 V → NV σ_136 a0 V) → ∀ (ls : Array Slot), lv_has ls 7 [(0, .ref a0), (1, .int v2), (2, .int j48_2), (3, .int j48_3), (4, .int j48_4), (5, .int j48_5)] → W p l e ({ frames := 7, cells := 0, slots := 0, locals := 172 } : Room) s m args below meth c H locs 0 0 Q (F0 m 136 ls []) := by
            intro  σ_136 H locs hw fr    nv_136  ls hl
            have fr_136 := fr
            refine lv_aload_n hx hb dX10_day_136 rfl (lv_at hl 0 rfl) ?_
            refine g_576 cx hw ha0 k_f_X10_10 dX10_day_137 (fun v18 e18 h18 => ?_)
            rw [show v18 = b576 from Option.some.inj (e18.symm.trans (((kr_c fr_136 (by decide)).trans hF576)))]
            refine o_cv hw (oRunV cx hA hw q_X7_empty k_m_X10_93 rfl hb576 (by decide) (As := []) (c_X7_empty b576 hb576) (by decide) rfl hl.1 rfl (Nat.le_of_ble_eq_true rfl) dX10_day_140 (by decide)) (fun σ19 H locs hp hw => ?_)
            obtain ⟨p20_0, p20_1⟩ := hp
            have fr := oFr_tr fr p20_0 (by decide)
            refine lv_aload_n hx hb dX10_day_143 rfl (lv_at hl 0 rfl) ?_
            refine g_577 cx hw ha0 k_f_X10_19 dX10_day_144 (fun v21 e21 h21 => ?_)
            refine o_cv hw (oRunV cx hA hw q_X4_start k_m_X10_292 rfl h21 (by decide) (As := []) (c_X4_start v21 h21) (by decide) rfl hl.1 rfl (Nat.le_of_ble_eq_true rfl) dX10_day_147 (by decide)) (fun σ22 H locs hp hw => ?_)
            have p23_0 := hp
            have fr := oFr_tr fr p23_0 (by decide)
            refine lv_aload_n hx hb dX10_day_150 rfl (lv_at hl 0 rfl) ?_
            refine g_577 cx hw ha0 k_f_X10_19 dX10_day_151 (fun v24 e24 h24 => ?_)
            rw [show v24 = v21 from Option.some.inj (e24.symm.trans (((kr_c p23_0 (by decide)).trans e21)))]
            refine lv_iload hx hb dX10_day_154 (lv_at hl 4 rfl) ?_
            have J_164 : ∀ (k164_1 : Int64), ∀ (H : Heap) (locs : List Loc), oI A L τ cy D s.heap σ22 H locs → (∀ V, NV σ a0 V → NV σ22 a0 V) → ∀ (ls : Array Slot), lv_has ls 7 [(0, .ref a0), (1, .int v2), (2, .int j48_2), (3, .int j48_3), (4, .int j48_4), (5, .int j48_5)] → W p l e ({ frames := 7, cells := 0, slots := 0, locals := 172 } : Room) s m args below meth c H locs 0 0 Q (F0 m 164 ls [.long k164_1, .ref v21]) := by
              intro k164_1 H locs hw   nv_164  ls hl
              refine o_cv hw (oRunV cx hA hw q_X4_put k_m_X10_295 rfl h21 (by decide) (As := [.long k164_1]) (c_X4_put v21 h21 k164_1) (by decide) rfl hl.1 rfl (Nat.le_of_ble_eq_true rfl) dX10_day_164 (by decide)) (fun σ25 H locs hp hw => ?_)
              have p26_0 := hp
              have fr := oFr_tr fr p26_0 (by decide)
              refine lv_aload_n hx hb dX10_day_167 rfl (lv_at hl 0 rfl) ?_
              refine g_577 cx hw ha0 k_f_X10_19 dX10_day_168 (fun v27 e27 h27 => ?_)
              rw [show v27 = v21 from Option.some.inj (e27.symm.trans (((kr_c p26_0 (by decide)).trans ((kr_c p23_0 (by decide)).trans e21))))]
              refine lv_iload_n hx hb dX10_day_171 rfl (lv_at hl 3 rfl) ?_
              refine lv_i2l hx hb dX10_day_172 rfl ?_
              refine lv_topl (fun v28 e28 => ?_)
              refine o_cv hw (oRunV cx hA hw q_X4_put k_m_X10_295 rfl h21 (by decide) (As := [.long v28]) (c_X4_put v21 h21 v28) (by decide) rfl hl.1 rfl (Nat.le_of_ble_eq_true rfl) dX10_day_173 (by decide)) (fun σ29 H locs hp hw => ?_)
              have p30_0 := hp
              have fr := oFr_tr fr p30_0 (by decide)
              refine lv_iload_n hx hb dX10_day_176 rfl (lv_at hl 2 rfl) ?_
              rw [← hQ]
              exact o_ri cx rx hw dX10_day_177 ⟨fr, (by intro b hb9; rw [show b = b576 from Option.some.inj (hb9.symm.trans ((kr_c fr (by decide)).symm.trans (((kr_c p30_0 (by decide)).trans ((kr_c p26_0 (by decide)).trans ((kr_c p23_0 (by decide)).trans ((kr_c p20_0 (by decide)).trans ((kr_c fr_136 (by decide)).trans hF576))))))))]; exact (kn_iv (((kp_c p30_0 (by decide)).trans ((kp_c p26_0 (by decide)).trans ((kp_c p23_0 (by decide)).trans rfl)))) (iv_w p20_1 (by decide)))), (by intro V h; exact (nv_0 (nv_0 (nv_164 V h) p26_0 (by decide +kernel)) p30_0 (by decide +kernel)))⟩
            refine lv_if_eq (tgt := 163) hx hb dX10_day_156 (by decide) (fun c31 => ?_) (fun c31 => ?_)
            · --
              have i32 : Iv j48_4 0 0 := iv_eq1 c31 ij48_4 (⟨by decide, by decide⟩ : Iv 0 0 0) (by decide)
              refine lv_lconst (v := 0) hx hb dX10_day_163 (by decide) ?_
              exact J_164 0 _ _ hw (fun V h => (nv_0 (nv_0 (nv_136 V h) p20_0 (by decide +kernel)) p23_0 (by decide +kernel))) _ (lv_sub hl [0, 1, 2, 3, 4, 5] rfl)
            · --
              have i33 : Iv j48_4 1 1 := iv_ne1 c31 ij48_4 (⟨by decide, by decide⟩ : Iv 0 0 0) (by decide)
              refine lv_lconst (v := 1) hx hb dX10_day_159 (by decide) ?_
              refine lv_goto (tgt := 164) hx hb dX10_day_160 (by decide) ?_
              exact J_164 1 _ _ hw (fun V h => (nv_0 (nv_0 (nv_136 V h) p20_0 (by decide +kernel)) p23_0 (by decide +kernel))) _ (lv_sub hl [0, 1, 2, 3, 4, 5] rfl)
          refine lv_if_le (tgt := 136) hx hb dX10_day_122 (by decide) (fun c34 => ?_) (fun c34 => ?_)
          · --
            have i35 : Iv j48_2 (-2147483648) 0 := iv_le1 c34 (iv_top j48_2) (⟨by decide, by decide⟩ : Iv 0 0 0) (by decide)
            exact J_136 σ_48 _ _ hw fr (fun V h => (nv_121 V h)) _ (lv_sub hl [0, 1, 2, 3, 4, 5] rfl)
          · --
            have i36 : Iv j48_2 1 2147483647 := iv_lt2 (iv_nle c34) (⟨by decide, by decide⟩ : Iv 0 0 0) (iv_top j48_2) (by decide)
            refine lv_aload_n hx hb dX10_day_125 rfl (lv_at hl 0 rfl) ?_
            refine g_585 cx hw ha0 k_f_X10_75 dX10_day_126 (fun v37 e37 h37 => ?_)
            rw [show v37 = b585 from Option.some.inj (e37.symm.trans (((kr_c fr_48 (by decide)).trans hF585)))]
            refine lv_aload_n hx hb dX10_day_129 rfl (lv_at hl 0 rfl) ?_
            refine g_582 cx hw ha0 k_f_X10_53 dX10_day_130 (fun v38 e38 h38 => ?_)
            rw [show v38 = b582 from Option.some.inj (e38.symm.trans (((kr_c fr_48 (by decide)).trans hF582)))]
            refine o_cv hw (oRunV cx hA hw q_X3_add k_m_X10_289 rfl hb585 (by decide) (As := [.ref b582]) (c_X3_add b585 hb585 b582 hb582) (by decide) rfl hl.1 rfl (Nat.le_of_ble_eq_true rfl) dX10_day_133 (by decide)) (fun σ39 H locs hp hw => ?_)
            obtain ⟨p40_0, p40_1⟩ := hp
            have fr := oFr_tr fr p40_0 (by decide)
            have nn41 : ∀ V, NV σ a0 V → NV σ39 a0 V := fun V h => by
              have h1 : NV σ_48 a0 V := (nv_121 V h)
              exact (by have p9 := p40_1; rw [show σ_48.1 327 b582 = V from ((rfl).trans (bb_121 V h))] at p9; exact nv_a2 h1 p40_0 (by decide +kernel) (((kr_c fr_48 (by decide)).trans hF585)) (fun B q => ⟨p9.1 B q, p9.2⟩))
            exact J_136 σ39 _ _ hw fr (fun V h => (nn41 V h)) _ (lv_sub hl [0, 1, 2, 3, 4, 5] rfl)
        refine lv_icmp_ge (tgt := 121) hx hb dX10_day_52 (by decide) (fun c42 => ?_) (fun c42 => ?_)
        · --
          have i43 : Iv j48_5 60 60 := iv_le2 c42 (⟨by decide, by decide⟩ : Iv 60 60 60) ij48_5 (by decide)
          exact J_121 _ _ hw (fun V h => (rfl).trans (bb_48 V h)) (fun V h => (nv_48 V h)) _ (lv_sub hl [0, 1, 2, 3, 4, 5] rfl)
        · --
          have i44 : Iv j48_5 0 59 := iv_lt1 (iv_nle c42) ij48_5 (⟨by decide, by decide⟩ : Iv 60 60 60) (by decide)
          refine lv_iload hx hb dX10_day_55 (lv_at hl 4 rfl) ?_
          refine lv_if_ne (tgt := 121) hx hb dX10_day_57 (by decide) (fun c45 => ?_) (fun c45 => ?_)
          · --
            have i46 : Iv j48_4 1 1 := iv_ne1 c45 ij48_4 (⟨by decide, by decide⟩ : Iv 0 0 0) (by decide)
            exact J_121 _ _ hw (fun V h => (rfl).trans (bb_48 V h)) (fun V h => (nv_48 V h)) _ (lv_sub hl [0, 1, 2, 3, 4, 5] rfl)
          · --
            have i47 : Iv j48_4 0 0 := iv_eq1 c45 ij48_4 (⟨by decide, by decide⟩ : Iv 0 0 0) (by decide)
            refine lv_aload_n hx hb dX10_day_60 rfl (lv_at hl 0 rfl) ?_
            refine g_576 cx hw ha0 k_f_X10_10 dX10_day_61 (fun v48 e48 h48 => ?_)
            rw [show v48 = b576 from Option.some.inj (e48.symm.trans (((kr_c fr_48 (by decide)).trans hF576)))]
            have i49 : Iv (σ_48.1 385 b576) 0 80 := o_fb (j := 385) hw hb576 rfl
            refine o_ci hw (oRunV cx hA hw q_X7_isAtEnd k_m_X10_224 rfl hb576 (by decide) (As := []) (c_X7_isAtEnd b576 hb576) (by decide) rfl hl.1 rfl (Nat.le_of_ble_eq_true rfl) dX10_day_64 (by decide)) (fun v51 σ50 H locs hp hw => ?_)
            obtain ⟨p51_0, p51_1, p51_2⟩ := hp
            rw [p51_0] at hw
            refine lv_if_ne (tgt := 121) hx hb dX10_day_67 (by decide) (fun c52 => ?_) (fun c52 => ?_)
            · --
              have i53 : Iv v51 1 1 := iv_ne1 c52 p51_1 (⟨by decide, by decide⟩ : Iv 0 0 0) (by decide)
              exact J_121 _ _ hw (fun V h => (rfl).trans (bb_48 V h)) (fun V h => (nv_48 V h)) _ (lv_sub hl [0, 1, 2, 3, 4, 5] rfl)
            · --
              have i54 : Iv v51 0 0 := iv_eq1 c52 p51_1 (⟨by decide, by decide⟩ : Iv 0 0 0) (by decide)
              refine lv_aload_n hx hb dX10_day_70 rfl (lv_at hl 0 rfl) ?_
              refine lv_aload_n hx hb dX10_day_71 rfl (lv_at hl 0 rfl) ?_
              refine o_ci hw (oRunV cx hA hw q_X10_readAct k_m_X10_283 rfl ha0 (by decide) (As := []) (c_X10_readAct a0 ha0) (by decide) rfl hl.1 rfl (Nat.le_of_ble_eq_true rfl) dX10_day_72 (by decide)) (fun v56 σ55 H locs hp hw => ?_)
              have p56_0 := hp
              have fr := oFr_tr fr p56_0 (by decide)
              refine o_ci hw (oRunV cx hA hw q_X10_perform k_m_X10_286 rfl ha0 (by decide) (As := [.int v56]) (c_X10_perform a0 ha0 v56) (by decide) rfl hl.1 rfl (Nat.le_of_ble_eq_true rfl) dX10_day_75 (by decide)) (fun v58 σ57 H locs hp hw => ?_)
              have p58_0 := hp
              have fr := oFr_tr fr p58_0 (by decide)
              refine lv_istore (lv' := [(6, .int v58), (0, .ref a0), (1, .int v2), (2, .int j48_2), (3, .int j48_3), (4, .int j48_4), (5, .int j48_5)]) hx hb dX10_day_78 hl (by decide) rfl (fun ls hl => ?_)
              refine lv_iload hx hb dX10_day_80 (lv_at hl 0 rfl) ?_
              have J_90 : ∀ (k90_0 : Int32) (ik90_0 : Iv k90_0 0 1), ∀ (H : Heap) (locs : List Loc), oI A L τ cy D s.heap σ57 H locs → (∀ V, NV σ a0 V → σ57.1 327 b582 = V) → (∀ V, NV σ a0 V → NV σ57 a0 V) → ∀ (ls : Array Slot), lv_has ls 7 [(0, .ref a0), (1, .int v2), (2, .int j48_2), (3, .int j48_3), (4, .int j48_4), (5, .int j48_5), (6, .int v58)] → W p l e ({ frames := 7, cells := 0, slots := 0, locals := 172 } : Room) s m args below meth c H locs 0 0 Q (F0 m 90 ls [.int k90_0]) := by
                intro k90_0 ik90_0 H locs hw   bb_90 nv_90  ls hl
                refine lv_istore (lv' := [(4, .int k90_0), (0, .ref a0), (1, .int v2), (2, .int j48_2), (3, .int j48_3), (5, .int j48_5), (6, .int v58)]) hx hb dX10_day_90 hl (by decide) rfl (fun ls hl => ?_)
                refine lv_iload hx hb dX10_day_92 (lv_at hl 0 rfl) ?_
                have frE_115 := fr
                have J_115 : ∀ (j115_2 : Int32) (j115_3 : Int32), ∀ (σ_115 : oSt) (H : Heap) (locs : List Loc), oI A L τ cy D s.heap σ_115 H locs → oFr τ fs_X10_day ts_X10_day σ σ_115 → (∀ V, NV σ a0 V → σ_115.1 327 b582 = V) → (∀ V, NV σ a0 V → NV σ_115 a0 V) → ∀ (ls : Array Slot), lv_has ls 7 [(0, .ref a0), (1, .int v2), (2, .int j115_2), (3, .int j115_3), (4, .int k90_0), (5, .int j48_5), (6, .int v58)] → W p l e ({ frames := 7, cells := 0, slots := 0, locals := 172 } : Room) s m args below meth c H locs 0 0 Q (F0 m 115 ls []) := by
                  intro j115_2 j115_3 σ_115 H locs hw fr    bb_115 nv_115  ls hl
                  have fr_115 := fr
                  obtain ⟨v59, e59⟩ : ∃ y : Int32, y = j48_5 + 1 := ⟨_, rfl⟩
                  have i59 : Iv v59 1 60 := iv_add e59 i44 (⟨by decide, by decide⟩ : Iv 1 1 1) (by decide)
                  have x59 : v59.toInt = j48_5.toInt + 1 := ex_add e59 i44 (⟨by decide, by decide⟩ : Iv 1 1 1) (by decide)
                  refine lv_iinc (v := v59) (lv' := [(5, .int v59), (0, .ref a0), (1, .int v2), (2, .int j115_2), (3, .int j115_3), (4, .int k90_0), (6, .int v58)]) hx hb dX10_day_115 hl (k := 5) rfl (by rw [e59]; rfl) (by decide) rfl (fun ls hl => ?_)
                  refine lv_goto (tgt := 48) hx hb dX10_day_118 (by decide) ?_
                  exact ih_48 j115_2 j115_3 k90_0 ik90_0 v59 (iv_w i59 (by decide)) σ_115 _ _ hw fr (ms_up x59 (by decide) (iv_w (a' := 0) (b' := 60) i59 (by decide)).2 hn_48) (fun V h => (rfl).trans (bb_115 V h)) (fun V h => (nv_115 V h)) _ (lv_sub hl [1, 2, 3, 4, 5, 0] rfl)
                refine lv_if_ne (tgt := 115) hx hb dX10_day_94 (by decide) (fun c60 => ?_) (fun c60 => ?_)
                · --
                  have i61 : Iv k90_0 1 1 := iv_ne1 c60 ik90_0 (⟨by decide, by decide⟩ : Iv 0 0 0) (by decide)
                  exact J_115 j48_2 j48_3 σ57 _ _ hw fr (fun V h => (rfl).trans (bb_90 V h)) (fun V h => (nv_90 V h)) _ (lv_sub hl [1, 2, 3, 4, 0, 5, 6] rfl)
                · --
                  have i62 : Iv k90_0 0 0 := iv_eq1 c60 ik90_0 (⟨by decide, by decide⟩ : Iv 0 0 0) (by decide)
                  obtain ⟨v63, e63⟩ : ∃ y : Int32, y = j48_2 + 1 := ⟨_, rfl⟩
                  refine lv_iinc (v := v63) (lv' := [(2, .int v63), (4, .int k90_0), (0, .ref a0), (1, .int v2), (3, .int j48_3), (5, .int j48_5), (6, .int v58)]) hx hb dX10_day_97 hl (k := 3) rfl (by rw [e63]; rfl) (by decide) rfl (fun ls hl => ?_)
                  refine lv_iload_n hx hb dX10_day_100 rfl (lv_at hl 4 rfl) ?_
                  refine lv_iload hx hb dX10_day_101 (lv_at hl 6 rfl) ?_
                  refine lv_iadd hx hb dX10_day_103 ?_
                  refine lv_topi (fun v64 e64 => ?_)
                  refine lv_istore_n (lv' := [(3, .int v64), (2, .int v63), (4, .int k90_0), (0, .ref a0), (1, .int v2), (5, .int j48_5), (6, .int v58)]) hx hb dX10_day_104 rfl hl (by decide) rfl (fun ls hl => ?_)
                  refine lv_aload_n hx hb dX10_day_105 rfl (lv_at hl 3 rfl) ?_
                  refine g_576 cx hw ha0 k_f_X10_10 dX10_day_106 (fun v65 e65 h65 => ?_)
                  rw [show v65 = b576 from Option.some.inj (e65.symm.trans (((kr_c p58_0 (by decide)).trans ((kr_c p56_0 (by decide)).trans ((kr_c fr_48 (by decide)).trans hF576)))))]
                  refine lv_bipush (v := 59) hx hb dX10_day_109 (by decide) ?_
                  have z66 : (σ57.1 385 b576).toInt = ((σ_48.1 385 b576) : Int32).toInt := congrArg Int32.toInt (show σ57.1 385 b576 = (σ_48.1 385 b576) from ((kp_c p58_0 (by decide)).trans ((kp_c p56_0 (by decide)).trans rfl)))
                  have z67 : (σ57.1 387 b576).toInt = ((σ_48.1 387 b576) : Int32).toInt := congrArg Int32.toInt (show σ57.1 387 b576 = (σ_48.1 387 b576) from ((kp_c p58_0 (by decide)).trans ((kp_c p56_0 (by decide)).trans rfl)))
                  refine o_ci hw (oRunV cx hA hw q_X7_take k_m_X10_234 rfl hb576 (by decide) (As := [.int 59]) (c_X7_take b576 hb576 59 (iv_w (⟨by decide, by decide⟩ : Iv 59 59 59) (by decide))) (by decide) rfl hl.1 rfl (Nat.le_of_ble_eq_true rfl) dX10_day_111 (by decide)) (fun v69 σ68 H locs hp hw => ?_)
                  obtain ⟨p69_0, p69_1, p69_2⟩ := hp
                  have fr := oFr_tr fr p69_0 (by decide)
                  refine lv_pop hx hb dX10_day_114 rfl ?_
                  exact J_115 v63 v64 σ68 _ _ hw fr (fun V h => (((kp_c p69_0 (by decide)).trans rfl)).trans (bb_90 V h)) (fun V h => (nv_0 (nv_90 V h) p69_0 (by decide +kernel))) _ (lv_sub hl [3, 4, 1, 0, 2, 5, 6] rfl)
              refine lv_if_ge (tgt := 89) hx hb dX10_day_82 (by decide) (fun c70 => ?_) (fun c70 => ?_)
              · --
                have i71 : Iv v58 0 2147483647 := iv_le2 c70 (⟨by decide, by decide⟩ : Iv 0 0 0) (iv_top v58) (by decide)
                refine lv_iconst (v := 0) hx hb dX10_day_89 (by decide) ?_
                exact J_90 0 (iv_w (⟨by decide, by decide⟩ : Iv 0 0 0) (by decide)) _ _ hw (fun V h => (((kp_c p58_0 (by decide)).trans ((kp_c p56_0 (by decide)).trans rfl))).trans (bb_48 V h)) (fun V h => (nv_0 (nv_0 (nv_48 V h) p56_0 (by decide +kernel)) p58_0 (by decide +kernel))) _ (lv_sub hl [1, 2, 3, 4, 5, 6, 0] rfl)
              · --
                have i72 : Iv v58 (-2147483648) (-1) := iv_lt1 (iv_nle c70) (iv_top v58) (⟨by decide, by decide⟩ : Iv 0 0 0) (by decide)
                refine lv_iconst (v := 1) hx hb dX10_day_85 (by decide) ?_
                refine lv_goto (tgt := 90) hx hb dX10_day_86 (by decide) ?_
                exact J_90 1 (iv_w (⟨by decide, by decide⟩ : Iv 1 1 1) (by decide)) _ _ hw (fun V h => (((kp_c p58_0 (by decide)).trans ((kp_c p56_0 (by decide)).trans rfl))).trans (bb_48 V h)) (fun V h => (nv_0 (nv_0 (nv_48 V h) p56_0 (by decide +kernel)) p58_0 (by decide +kernel))) _ (lv_sub hl [1, 2, 3, 4, 5, 6, 0] rfl)
    exact J_48 _ 0 0 0 (iv_w (⟨by decide, by decide⟩ : Iv 0 0 0) (by decide)) 0 (iv_w (⟨by decide, by decide⟩ : Iv 0 0 0) (by decide)) σ16 _ _ hw fr (Nat.lt_succ_self _) (fun V h => (((kp_c p17_0 (by decide)).trans rfl)).trans (bb13 V h)) (fun V h => (nv_0 (nn14 V h) p17_0 (by decide +kernel))) _ (lv_sub hl [5, 4, 3, 2, 1, 0] rfl)
  · --
    refine lv_aload_n hx hb dX10_day_9 rfl (lv_at hl 1 rfl) ?_
    refine g_576 cx hw ha0 k_f_X10_10 dX10_day_10 (fun v73 e73 h73 => ?_)
    rw [show v73 = b576 from Option.some.inj (e73.symm.trans (((kr_c p2_0 (by decide)).trans hF576)))]
    refine o_cv hw (oRunV cx hA hw q_X7_empty k_m_X10_93 rfl hb576 (by decide) (As := []) (c_X7_empty b576 hb576) (by decide) rfl hl.1 rfl (Nat.le_of_ble_eq_true rfl) dX10_day_13 (by decide)) (fun σ74 H locs hp hw => ?_)
    obtain ⟨p75_0, p75_1⟩ := hp
    have fr := oFr_tr fr p75_0 (by decide)
    refine lv_iload_n hx hb dX10_day_16 rfl (lv_at hl 0 rfl) ?_
    rw [← hQ]
    exact o_ri cx rx hw dX10_day_17 ⟨fr, (by intro b hb9; rw [show b = b576 from Option.some.inj (hb9.symm.trans ((kr_c fr (by decide)).symm.trans (((kr_c p75_0 (by decide)).trans ((kr_c p2_0 (by decide)).trans hF576)))))]; exact (kn_iv (rfl) (iv_w p75_1 (by decide)))), (by intro V h; exact (nv_0 (nv_0 h p2_0 (by decide +kernel)) p75_0 (by decide +kernel)))⟩
abbrev fs_X10_undo : List Nat := [129, 130, 327, 328, 329, 330, 331]
abbrev ts_X10_undo : List Nat := [32, 33, 34]
set_option maxHeartbeats 4000000 in
set_option maxRecDepth 100000 in
theorem c_X10_undo (a0 : Nat) (ha0 : oA L τ a0 9) : oMet l A L τ cy D K yX10_undo cX10_undo 1 (some .int) 3 102 [.ref a0] σ (va_Qi (fun r σ1 => oFr τ fs_X10_undo ts_X10_undo σ σ1 ∧ Iv r (-1) 10 ∧ (∀ V, NV σ a0 V → NV σ1 a0 V)) (oPo A L τ cy D) A) := by
  refine oMk (by decide) (Nat.le_of_ble_eq_true rfl) rfl ?_
  intro p e s m args below meth c ls cx rx hA hw hl
  generalize hQ : MQ below _ args s 0 0 A = Q
  have hx := cx.1.1
  have hb := cx.1.2.1
  have hml := cx.1.2.2.1
  have hown := cx.1.2.2.2.1
  have hts := cx.1.2.2.2.2
  have hl : lv_has ls 1 [(0, .ref a0)] := hl
  have fr : oFr τ fs_X10_undo ts_X10_undo σ σ := oFr_rf
  obtain ⟨b581, hF581, hb581⟩ := hw.2.2.2.2.2 581 a0 5 (by rw [ha0.2]; rfl) ha0.1
  obtain ⟨b582, hF582, hb582⟩ := hw.2.2.2.2.2 582 a0 5 (by rw [ha0.2]; rfl) ha0.1
  obtain ⟨b583, hF583, hb583⟩ := hw.2.2.2.2.2 583 a0 0 (by rw [ha0.2]; rfl) ha0.1
  obtain ⟨b585, hF585, hb585⟩ := hw.2.2.2.2.2 585 a0 2 (by rw [ha0.2]; rfl) ha0.1
  obtain ⟨b586, hF586, hb586⟩ := hw.2.2.2.2.2 586 a0 41 (by rw [ha0.2]; rfl) ha0.1
  refine lv_aload_n hx hb dX10_undo_0 rfl (lv_at hl 0 rfl) ?_
  refine g_585 cx hw ha0 k_f_X10_75 dX10_undo_1 (fun v1 e1 h1 => ?_)
  rw [show v1 = b585 from Option.some.inj (e1.symm.trans (hF585))]
  refine lv_aload_n hx hb dX10_undo_4 rfl (lv_at hl 0 rfl) ?_
  refine g_581 cx hw ha0 k_f_X10_49 dX10_undo_5 (fun v2 e2 h2 => ?_)
  rw [show v2 = b581 from Option.some.inj (e2.symm.trans (hF581))]
  refine o_ci hw (oRunV cx hA hw q_X3_bringBack k_m_X10_299 rfl hb585 (by decide) (As := [.ref b581]) (c_X3_bringBack b585 hb585 b581 hb581) (by decide) rfl hl.1 rfl (Nat.le_of_ble_eq_true rfl) dX10_undo_8 (by decide)) (fun v4 σ3 H locs hp hw => ?_)
  obtain ⟨p4_0, p4_1, p4_2⟩ := hp
  have fr := oFr_tr fr p4_0 (by decide)
  have nn5 : ∀ V, NV σ a0 V → NV σ3 a0 V := fun V h => by
    have h1 : NV σ a0 V := h
    exact nv_a2 h1 p4_0 (by decide +kernel) (hF585) (fun B q => p4_2 V B q)
  refine lv_if_eq (tgt := 24) hx hb dX10_undo_11 (by decide) (fun c6 => ?_) (fun c6 => ?_)
  · --
    have i7 : Iv v4 0 0 := iv_eq1 c6 p4_1 (⟨by decide, by decide⟩ : Iv 0 0 0) (by decide)
    refine lv_iconst (v := (-1)) hx hb dX10_undo_24 (by decide) ?_
    rw [← hQ]
    exact o_ri cx rx hw dX10_undo_25 ⟨fr, (iv_w (⟨by decide, by decide⟩ : Iv (-1) (-1) (-1)) (by decide)), (by intro V h; exact (nn5 V h))⟩
  · --
    have i8 : Iv v4 1 1 := iv_ne1 c6 p4_1 (⟨by decide, by decide⟩ : Iv 0 0 0) (by decide)
    refine lv_aload_n hx hb dX10_undo_14 rfl (lv_at hl 0 rfl) ?_
    refine g_585 cx hw ha0 k_f_X10_75 dX10_undo_15 (fun v9 e9 h9 => ?_)
    rw [show v9 = b585 from Option.some.inj (e9.symm.trans (((kr_c p4_0 (by decide)).trans hF585)))]
    refine g_130 cx hw hb585 k_f_X10_303 dX10_undo_18 (fun v10 e10 i10 => ?_)
    have z10 : v10.toInt = (σ3.1 130 b585).toInt := congrArg Int32.toInt e10
    refine lv_goto (tgt := 25) hx hb dX10_undo_21 (by decide) ?_
    rw [← hQ]
    exact o_ri cx rx hw dX10_undo_25 ⟨fr, (iv_w i10 (by decide)), (by intro V h; exact (nn5 V h))⟩
abbrev fs_X10_road : List Nat := [193]
abbrev ts_X10_road : List Nat := [36]
set_option maxHeartbeats 4000000 in
set_option maxRecDepth 100000 in
theorem c_X10_road (a0 : Nat) (ha0 : oA L τ a0 9) : oMet l A L τ cy D K yX10_road cX10_road 10 (some .int) 3 66 [.ref a0] σ (va_Qi (fun r σ1 => oFr τ fs_X10_road ts_X10_road σ σ1 ∧ Iv r 0 127) (oPo A L τ cy D) A) := by
  refine oMk (by decide) (Nat.le_of_ble_eq_true rfl) rfl ?_
  intro p e s m args below meth c ls cx rx hA hw hl
  generalize hQ : MQ below _ args s 0 0 A = Q
  have hx := cx.1.1
  have hb := cx.1.2.1
  have hml := cx.1.2.2.1
  have hown := cx.1.2.2.2.1
  have hts := cx.1.2.2.2.2
  have hl : lv_has ls 10 [(0, .ref a0)] := hl
  have fr : oFr τ fs_X10_road ts_X10_road σ σ := oFr_rf
  refine lv_aload_n hx hb dX10_road_0 rfl (lv_at hl 0 rfl) ?_
  refine o_cl hw (oRunV cx hA hw q_X10_roadNow k_m_X10_335 rfl ha0 (by decide) (As := []) (c_X10_roadNow a0 ha0) (by decide) rfl hl.1 rfl (Nat.le_of_ble_eq_true rfl) dX10_road_1 (by decide)) (fun v2 σ1 H locs hp hw => ?_)
  have p2_0 := hp
  rw [p2_0] at hw
  refine lv_lstore_n (lv' := [(1, .long v2), (0, .ref a0)]) hx hb dX10_road_4 rfl hl (by decide) rfl (fun ls hl => ?_)
  refine lv_iconst (v := 0) hx hb dX10_road_5 (by decide) ?_
  refine lv_istore_n (lv' := [(3, .int 0), (1, .long v2), (0, .ref a0)]) hx hb dX10_road_6 rfl hl (by decide) rfl (fun ls hl => ?_)
  refine lv_iconst (v := 0) hx hb dX10_road_7 (by decide) ?_
  refine lv_istore (lv' := [(4, .int 0), (3, .int 0), (1, .long v2), (0, .ref a0)]) hx hb dX10_road_8 hl (by decide) rfl (fun ls hl => ?_)
  refine lv_lload_n hx hb dX10_road_10 rfl (lv_at hl 2 rfl) ?_
  refine lv_lstore (lv' := [(5, .long v2), (4, .int 0), (3, .int 0), (1, .long v2), (0, .ref a0)]) hx hb dX10_road_11 hl (by decide) rfl (fun ls hl => ?_)
  refine lv_iconst (v := 0) hx hb dX10_road_13 (by decide) ?_
  refine lv_istore (lv' := [(7, .int 0), (5, .long v2), (4, .int 0), (3, .int 0), (1, .long v2), (0, .ref a0)]) hx hb dX10_road_14 hl (by decide) rfl (fun ls hl => ?_)
  have J_16 : ∀ n16 : Nat, ∀ (j16_3 : Int32) (j16_4 : Int32) (ij16_4 : Iv j16_4 0 127) (j16_5 : Int64) (j16_7 : Int32) (ij16_7 : Iv j16_7 0 64), ∀ (H : Heap) (locs : List Loc), oI A L τ cy D s.heap σ H locs → (64 - j16_7.toInt).toNat < n16 → ∀ (ls : Array Slot), lv_has ls 10 [(0, .ref a0), (1, .long v2), (3, .int j16_3), (4, .int j16_4), (5, .long j16_5), (7, .int j16_7)] → W p l e ({ frames := 3, cells := 0, slots := 0, locals := 66 } : Room) s m args below meth c H locs 0 0 Q (F0 m 16 ls []) := by
    intro n16
    induction n16 with
    | zero => intro j16_3 j16_4 ij16_4 j16_5 j16_7 ij16_7 H locs hw  hn_16   ls hl; exact absurd hn_16 (Nat.not_lt_zero _)
    | succ n16 ih_16 =>
      intro j16_3 j16_4 ij16_4 j16_5 j16_7 ij16_7 H locs hw  hn_16   ls hl
      refine lv_iload hx hb dX10_road_16 (lv_at hl 5 rfl) ?_
      refine lv_bipush (v := 64) hx hb dX10_road_18 (by decide) ?_
      have J_74 : ∀ (H : Heap) (locs : List Loc), oI A L τ cy D s.heap σ H locs → ∀ (ls : Array Slot), lv_has ls 10 [(0, .ref a0), (1, .long v2), (3, .int j16_3), (4, .int j16_4), (5, .long j16_5), (7, .int j16_7)] → W p l e ({ frames := 3, cells := 0, slots := 0, locals := 66 } : Room) s m args below meth c H locs 0 0 Q (F0 m 74 ls []) := by
        intro  H locs hw     ls hl
        refine lv_aload_n hx hb dX10_road_74 rfl (lv_at hl 0 rfl) ?_
        refine g_577 cx hw ha0 k_f_X10_19 dX10_road_75 (fun v3 e3 h3 => ?_)
        refine o_cv hw (oRunV cx hA hw q_X4_start k_m_X10_292 rfl h3 (by decide) (As := []) (c_X4_start v3 h3) (by decide) rfl hl.1 rfl (Nat.le_of_ble_eq_true rfl) dX10_road_78 (by decide)) (fun σ4 H locs hp hw => ?_)
        have p5_0 := hp
        have fr := oFr_tr fr p5_0 (by decide)
        refine lv_aload_n hx hb dX10_road_81 rfl (lv_at hl 0 rfl) ?_
        refine g_577 cx hw ha0 k_f_X10_19 dX10_road_82 (fun v6 e6 h6 => ?_)
        rw [show v6 = v3 from Option.some.inj (e6.symm.trans (((kr_c p5_0 (by decide)).trans e3)))]
        refine lv_lload_n hx hb dX10_road_85 rfl (lv_at hl 1 rfl) ?_
        refine o_cv hw (oRunV cx hA hw q_X4_put k_m_X10_295 rfl h3 (by decide) (As := [.long v2]) (c_X4_put v3 h3 v2) (by decide) rfl hl.1 rfl (Nat.le_of_ble_eq_true rfl) dX10_road_86 (by decide)) (fun σ7 H locs hp hw => ?_)
        have p8_0 := hp
        have fr := oFr_tr fr p8_0 (by decide)
        refine lv_aload_n hx hb dX10_road_89 rfl (lv_at hl 0 rfl) ?_
        refine g_577 cx hw ha0 k_f_X10_19 dX10_road_90 (fun v9 e9 h9 => ?_)
        rw [show v9 = v3 from Option.some.inj (e9.symm.trans (((kr_c p8_0 (by decide)).trans ((kr_c p5_0 (by decide)).trans e3))))]
        refine lv_iload_n hx hb dX10_road_93 rfl (lv_at hl 2 rfl) ?_
        refine lv_i2l hx hb dX10_road_94 rfl ?_
        refine lv_topl (fun v10 e10 => ?_)
        refine o_cv hw (oRunV cx hA hw q_X4_put k_m_X10_295 rfl h3 (by decide) (As := [.long v10]) (c_X4_put v3 h3 v10) (by decide) rfl hl.1 rfl (Nat.le_of_ble_eq_true rfl) dX10_road_95 (by decide)) (fun σ11 H locs hp hw => ?_)
        have p12_0 := hp
        have fr := oFr_tr fr p12_0 (by decide)
        refine lv_aload_n hx hb dX10_road_98 rfl (lv_at hl 0 rfl) ?_
        refine g_577 cx hw ha0 k_f_X10_19 dX10_road_99 (fun v13 e13 h13 => ?_)
        rw [show v13 = v3 from Option.some.inj (e13.symm.trans (((kr_c p12_0 (by decide)).trans ((kr_c p8_0 (by decide)).trans ((kr_c p5_0 (by decide)).trans e3)))))]
        refine lv_iload hx hb dX10_road_102 (lv_at hl 3 rfl) ?_
        refine lv_i2l hx hb dX10_road_104 rfl ?_
        refine lv_topl (fun v14 e14 => ?_)
        refine o_cv hw (oRunV cx hA hw q_X4_put k_m_X10_295 rfl h3 (by decide) (As := [.long v14]) (c_X4_put v3 h3 v14) (by decide) rfl hl.1 rfl (Nat.le_of_ble_eq_true rfl) dX10_road_105 (by decide)) (fun σ15 H locs hp hw => ?_)
        have p16_0 := hp
        have fr := oFr_tr fr p16_0 (by decide)
        refine lv_lload_n hx hb dX10_road_108 rfl (lv_at hl 1 rfl) ?_
        refine o_ci hw (oRunS cx hA hw q_J13_bitCount_95d88 k_m_X10_349 (As := [.long v2]) (c_J13_bitCount_95d88 v2) (by decide) rfl hl.1 rfl (Nat.le_of_ble_eq_true rfl) dX10_road_109 (by decide)) (fun v18 σ17 H locs hp hw => ?_)
        obtain ⟨p18_0, p18_1⟩ := hp
        rw [p18_0] at hw
        rw [← hQ]
        exact o_ri cx rx hw dX10_road_112 ⟨fr, (iv_w p18_1 (by decide))⟩
      refine lv_icmp_ge (tgt := 74) hx hb dX10_road_20 (by decide) (fun c19 => ?_) (fun c19 => ?_)
      · --
        have i20 : Iv j16_7 64 64 := iv_le2 c19 (⟨by decide, by decide⟩ : Iv 64 64 64) ij16_7 (by decide)
        exact J_74 _ _ hw _ (lv_sub hl [0, 1, 2, 3, 4, 5] rfl)
      · --
        have i21 : Iv j16_7 0 63 := iv_lt1 (iv_nle c19) ij16_7 (⟨by decide, by decide⟩ : Iv 64 64 64) (by decide)
        refine lv_lload hx hb dX10_road_23 (lv_at hl 4 rfl) ?_
        refine lv_lconst (v := 0) hx hb dX10_road_25 (by decide) ?_
        refine W.lcmp hx hb dX10_road_26 ?_
        refine lv_topi (fun v22 e22 => ?_)
        have i22 : Iv v22 (-1) 1 := iv_lcmp e22
        refine lv_if_eq (tgt := 74) hx hb dX10_road_27 (by decide) (fun c23 => ?_) (fun c23 => ?_)
        · --
          have i24 : Iv v22 0 0 := iv_eq1 c23 i22 (⟨by decide, by decide⟩ : Iv 0 0 0) (by decide)
          exact J_74 _ _ hw _ (lv_sub hl [0, 1, 2, 3, 4, 5] rfl)
        · --
          refine lv_lload hx hb dX10_road_30 (lv_at hl 4 rfl) ?_
          refine lv_lload hx hb dX10_road_32 (lv_at hl 4 rfl) ?_
          refine o_ci hw (oRunS cx hA hw q_X0_firstOf k_m_X10_339 (As := [.long j16_5]) (c_X0_firstOf j16_5) (by decide) rfl hl.1 rfl (Nat.le_of_ble_eq_true rfl) dX10_road_34 (by decide)) (fun v26 σ25 H locs hp hw => ?_)
          have p26_0 := hp
          rw [p26_0] at hw
          refine o_cl hw (oRunS cx hA hw q_X0_pieceOf k_m_X10_343 (As := [.long j16_5, .int v26]) (c_X0_pieceOf j16_5 v26) (by decide) rfl hl.1 rfl (Nat.le_of_ble_eq_true rfl) dX10_road_37 (by decide)) (fun v28 σ27 H locs hp hw => ?_)
          have p28_0 := hp
          rw [p28_0] at hw
          refine lv_lstore (lv' := [(8, .long v28), (0, .ref a0), (1, .long v2), (3, .int j16_3), (4, .int j16_4), (5, .long j16_5), (7, .int j16_7)]) hx hb dX10_road_40 hl (by decide) rfl (fun ls hl => ?_)
          refine lv_lload hx hb dX10_road_42 (lv_at hl 5 rfl) ?_
          refine lv_lload hx hb dX10_road_44 (lv_at hl 0 rfl) ?_
          refine lv_ldc2 (v := (-1)) hx hb hown (hts _ k_k_X10_347) dX10_road_46 ?_
          refine lv_lxor hx hb dX10_road_49 ?_
          refine lv_topl (fun v29 e29 => ?_)
          refine lv_land hx hb dX10_road_50 ?_
          refine lv_topl (fun v30 e30 => ?_)
          refine lv_lstore (lv' := [(5, .long v30), (8, .long v28), (0, .ref a0), (1, .long v2), (3, .int j16_3), (4, .int j16_4), (7, .int j16_7)]) hx hb dX10_road_51 hl (by decide) rfl (fun ls hl => ?_)
          obtain ⟨v31, e31⟩ : ∃ y : Int32, y = j16_3 + 1 := ⟨_, rfl⟩
          refine lv_iinc (v := v31) (lv' := [(3, .int v31), (5, .long v30), (8, .long v28), (0, .ref a0), (1, .long v2), (4, .int j16_4), (7, .int j16_7)]) hx hb dX10_road_53 hl (k := 4) rfl (by rw [e31]; rfl) (by decide) rfl (fun ls hl => ?_)
          refine lv_iload hx hb dX10_road_56 (lv_at hl 5 rfl) ?_
          refine lv_lload hx hb dX10_road_58 (lv_at hl 2 rfl) ?_
          refine o_ci hw (oRunS cx hA hw q_J13_bitCount_95d88 k_m_X10_349 (As := [.long v28]) (c_J13_bitCount_95d88 v28) (by decide) rfl hl.1 rfl (Nat.le_of_ble_eq_true rfl) dX10_road_60 (by decide)) (fun v33 σ32 H locs hp hw => ?_)
          obtain ⟨p33_0, p33_1⟩ := hp
          rw [p33_0] at hw
          refine va_mmax hx hb (hml.trans hl.1.symm) hown (hts _ k_m_X10_217) (hts _ k_s_J9_max_7cf53) (hts _ k_i_J9) (hts _ k_code_J9_max_7cf53) (by decide) (Nat.le_of_ble_eq_true rfl) (by decide) (by decide) dX10_road_63 ?_
          refine lv_topi (fun v34 e34 => ?_)
          have i34 : Iv v34 0 127 := iv_max e34 ij16_4 p33_1 (by decide)
          refine lv_istore (lv' := [(4, .int v34), (3, .int v31), (5, .long v30), (8, .long v28), (0, .ref a0), (1, .long v2), (7, .int j16_7)]) hx hb dX10_road_66 hl (by decide) rfl (fun ls hl => ?_)
          obtain ⟨v35, e35⟩ : ∃ y : Int32, y = j16_7 + 1 := ⟨_, rfl⟩
          have i35 : Iv v35 1 64 := iv_add e35 i21 (⟨by decide, by decide⟩ : Iv 1 1 1) (by decide)
          have x35 : v35.toInt = j16_7.toInt + 1 := ex_add e35 i21 (⟨by decide, by decide⟩ : Iv 1 1 1) (by decide)
          refine lv_iinc (v := v35) (lv' := [(7, .int v35), (4, .int v34), (3, .int v31), (5, .long v30), (8, .long v28), (0, .ref a0), (1, .long v2)]) hx hb dX10_road_68 hl (k := 6) rfl (by rw [e35]; rfl) (by decide) rfl (fun ls hl => ?_)
          refine lv_goto (tgt := 16) hx hb dX10_road_71 (by decide) ?_
          exact ih_16 v31 v34 i34 v30 v35 (iv_w i35 (by decide)) _ _ hw (ms_up x35 (by decide) (iv_w (a' := 0) (b' := 64) i35 (by decide)).2 hn_16) _ (lv_sub hl [5, 6, 2, 1, 3, 0] rfl)
  exact J_16 _ 0 0 (iv_w (⟨by decide, by decide⟩ : Iv 0 0 0) (by decide)) v2 0 (iv_w (⟨by decide, by decide⟩ : Iv 0 0 0) (by decide)) _ _ hw (Nat.lt_succ_self _) _ (lv_sub hl [5, 4, 3, 2, 1, 0] rfl)
abbrev fs_X10_squares : List Nat := [193]
abbrev ts_X10_squares : List Nat := [36]
set_option maxHeartbeats 4000000 in
set_option maxRecDepth 100000 in
theorem c_X10_squares (a0 : Nat) (ha0 : oA L τ a0 9) : oMet l A L τ cy D K yX10_squares cX10_squares 8 (some .int) 3 66 [.ref a0] σ (va_Qi (fun r σ1 => oFr τ fs_X10_squares ts_X10_squares σ σ1 ∧ Iv r 0 127) (oPo A L τ cy D) A) := by
  refine oMk (by decide) (Nat.le_of_ble_eq_true rfl) rfl ?_
  intro p e s m args below meth c ls cx rx hA hw hl
  generalize hQ : MQ below _ args s 0 0 A = Q
  have hx := cx.1.1
  have hb := cx.1.2.1
  have hml := cx.1.2.2.1
  have hown := cx.1.2.2.2.1
  have hts := cx.1.2.2.2.2
  have hl : lv_has ls 8 [(0, .ref a0)] := hl
  have fr : oFr τ fs_X10_squares ts_X10_squares σ σ := oFr_rf
  refine lv_aload_n hx hb dX10_squares_0 rfl (lv_at hl 0 rfl) ?_
  refine o_cl hw (oRunV cx hA hw q_X10_roadNow k_m_X10_335 rfl ha0 (by decide) (As := []) (c_X10_roadNow a0 ha0) (by decide) rfl hl.1 rfl (Nat.le_of_ble_eq_true rfl) dX10_squares_1 (by decide)) (fun v2 σ1 H locs hp hw => ?_)
  have p2_0 := hp
  rw [p2_0] at hw
  refine lv_lstore_n (lv' := [(1, .long v2), (0, .ref a0)]) hx hb dX10_squares_4 rfl hl (by decide) rfl (fun ls hl => ?_)
  refine lv_lconst (v := 0) hx hb dX10_squares_5 (by decide) ?_
  refine lv_lstore_n (lv' := [(3, .long 0), (1, .long v2), (0, .ref a0)]) hx hb dX10_squares_6 rfl hl (by decide) rfl (fun ls hl => ?_)
  refine lv_iconst (v := 0) hx hb dX10_squares_7 (by decide) ?_
  refine lv_istore (lv' := [(5, .int 0), (3, .long 0), (1, .long v2), (0, .ref a0)]) hx hb dX10_squares_8 hl (by decide) rfl (fun ls hl => ?_)
  have J_10 : ∀ n10 : Nat, ∀ (j10_3 : Int64) (j10_5 : Int32) (ij10_5 : Iv j10_5 0 64), ∀ (H : Heap) (locs : List Loc), oI A L τ cy D s.heap σ H locs → (64 - j10_5.toInt).toNat < n10 → ∀ (ls : Array Slot), lv_has ls 8 [(0, .ref a0), (1, .long v2), (3, .long j10_3), (5, .int j10_5)] → W p l e ({ frames := 3, cells := 0, slots := 0, locals := 66 } : Room) s m args below meth c H locs 0 0 Q (F0 m 10 ls []) := by
    intro n10
    induction n10 with
    | zero => intro j10_3 j10_5 ij10_5 H locs hw  hn_10   ls hl; exact absurd hn_10 (Nat.not_lt_zero _)
    | succ n10 ih_10 =>
      intro j10_3 j10_5 ij10_5 H locs hw  hn_10   ls hl
      refine lv_iload hx hb dX10_squares_10 (lv_at hl 3 rfl) ?_
      refine lv_bipush (v := 64) hx hb dX10_squares_12 (by decide) ?_
      refine lv_icmp_ge (tgt := 58) hx hb dX10_squares_14 (by decide) (fun c3 => ?_) (fun c3 => ?_)
      · --
        have i4 : Iv j10_5 64 64 := iv_le2 c3 (⟨by decide, by decide⟩ : Iv 64 64 64) ij10_5 (by decide)
        refine lv_aload_n hx hb dX10_squares_58 rfl (lv_at hl 0 rfl) ?_
        refine g_577 cx hw ha0 k_f_X10_19 dX10_squares_59 (fun v5 e5 h5 => ?_)
        refine o_cv hw (oRunV cx hA hw q_X4_start k_m_X10_292 rfl h5 (by decide) (As := []) (c_X4_start v5 h5) (by decide) rfl hl.1 rfl (Nat.le_of_ble_eq_true rfl) dX10_squares_62 (by decide)) (fun σ6 H locs hp hw => ?_)
        have p7_0 := hp
        have fr := oFr_tr fr p7_0 (by decide)
        refine lv_aload_n hx hb dX10_squares_65 rfl (lv_at hl 0 rfl) ?_
        refine g_577 cx hw ha0 k_f_X10_19 dX10_squares_66 (fun v8 e8 h8 => ?_)
        rw [show v8 = v5 from Option.some.inj (e8.symm.trans (((kr_c p7_0 (by decide)).trans e5)))]
        refine lv_lload_n hx hb dX10_squares_69 rfl (lv_at hl 2 rfl) ?_
        refine o_cv hw (oRunV cx hA hw q_X4_put k_m_X10_295 rfl h5 (by decide) (As := [.long j10_3]) (c_X4_put v5 h5 j10_3) (by decide) rfl hl.1 rfl (Nat.le_of_ble_eq_true rfl) dX10_squares_70 (by decide)) (fun σ9 H locs hp hw => ?_)
        have p10_0 := hp
        have fr := oFr_tr fr p10_0 (by decide)
        refine lv_lload_n hx hb dX10_squares_73 rfl (lv_at hl 2 rfl) ?_
        refine o_ci hw (oRunS cx hA hw q_J13_bitCount_95d88 k_m_X10_349 (As := [.long j10_3]) (c_J13_bitCount_95d88 j10_3) (by decide) rfl hl.1 rfl (Nat.le_of_ble_eq_true rfl) dX10_squares_74 (by decide)) (fun v12 σ11 H locs hp hw => ?_)
        obtain ⟨p12_0, p12_1⟩ := hp
        rw [p12_0] at hw
        rw [← hQ]
        exact o_ri cx rx hw dX10_squares_77 ⟨fr, (iv_w p12_1 (by decide))⟩
      · --
        have i13 : Iv j10_5 0 63 := iv_lt1 (iv_nle c3) ij10_5 (⟨by decide, by decide⟩ : Iv 64 64 64) (by decide)
        refine lv_iload hx hb dX10_squares_17 (lv_at hl 3 rfl) ?_
        refine o_cl hw (oRunS cx hA hw q_X0_bit k_m_X10_312 (As := [.int j10_5]) (c_X0_bit j10_5) (by decide) rfl hl.1 rfl (Nat.le_of_ble_eq_true rfl) dX10_squares_19 (by decide)) (fun v15 σ14 H locs hp hw => ?_)
        obtain ⟨p15_0, p15_1⟩ := hp
        rw [p15_0] at hw
        refine lv_lstore (lv' := [(6, .long v15), (0, .ref a0), (1, .long v2), (3, .long j10_3), (5, .int j10_5)]) hx hb dX10_squares_22 hl (by decide) rfl (fun ls hl => ?_)
        refine lv_lload_n hx hb dX10_squares_24 rfl (lv_at hl 2 rfl) ?_
        refine lv_lload hx hb dX10_squares_25 (lv_at hl 0 rfl) ?_
        refine lv_land hx hb dX10_squares_27 ?_
        refine lv_topl (fun v16 e16 => ?_)
        refine lv_lconst (v := 0) hx hb dX10_squares_28 (by decide) ?_
        refine W.lcmp hx hb dX10_squares_29 ?_
        refine lv_topi (fun v17 e17 => ?_)
        have i17 : Iv v17 (-1) 1 := iv_lcmp e17
        have J_52 : ∀ (j52_3 : Int64), ∀ (H : Heap) (locs : List Loc), oI A L τ cy D s.heap σ H locs → ∀ (ls : Array Slot), lv_has ls 8 [(0, .ref a0), (1, .long v2), (3, .long j52_3), (5, .int j10_5), (6, .long v15)] → W p l e ({ frames := 3, cells := 0, slots := 0, locals := 66 } : Room) s m args below meth c H locs 0 0 Q (F0 m 52 ls []) := by
          intro j52_3 H locs hw     ls hl
          obtain ⟨v18, e18⟩ : ∃ y : Int32, y = j10_5 + 1 := ⟨_, rfl⟩
          have i18 : Iv v18 1 64 := iv_add e18 i13 (⟨by decide, by decide⟩ : Iv 1 1 1) (by decide)
          have x18 : v18.toInt = j10_5.toInt + 1 := ex_add e18 i13 (⟨by decide, by decide⟩ : Iv 1 1 1) (by decide)
          refine lv_iinc (v := v18) (lv' := [(5, .int v18), (0, .ref a0), (1, .long v2), (3, .long j52_3), (6, .long v15)]) hx hb dX10_squares_52 hl (k := 3) rfl (by rw [e18]; rfl) (by decide) rfl (fun ls hl => ?_)
          refine lv_goto (tgt := 10) hx hb dX10_squares_55 (by decide) ?_
          exact ih_10 j52_3 v18 (iv_w i18 (by decide)) _ _ hw (ms_up x18 (by decide) (iv_w (a' := 0) (b' := 64) i18 (by decide)).2 hn_10) _ (lv_sub hl [1, 2, 3, 0] rfl)
        refine lv_if_eq (tgt := 52) hx hb dX10_squares_30 (by decide) (fun c19 => ?_) (fun c19 => ?_)
        · --
          have i20 : Iv v17 0 0 := iv_eq1 c19 i17 (⟨by decide, by decide⟩ : Iv 0 0 0) (by decide)
          exact J_52 j10_3 _ _ hw _ (lv_sub hl [1, 2, 3, 4, 0] rfl)
        · --
          refine lv_lload hx hb dX10_squares_33 (lv_at hl 0 rfl) ?_
          refine o_cl hw (oRunS cx hA hw q_X0_beside k_m_X10_317 (As := [.long v15]) (c_X0_beside v15) (by decide) rfl hl.1 rfl (Nat.le_of_ble_eq_true rfl) dX10_squares_35 (by decide)) (fun v22 σ21 H locs hp hw => ?_)
          have p22_0 := hp
          rw [p22_0] at hw
          refine lv_lload_n hx hb dX10_squares_38 rfl (lv_at hl 2 rfl) ?_
          refine lv_land hx hb dX10_squares_39 ?_
          refine lv_topl (fun v23 e23 => ?_)
          refine o_ci hw (oRunS cx hA hw q_J13_bitCount_95d88 k_m_X10_349 (As := [.long v23]) (c_J13_bitCount_95d88 v23) (by decide) rfl hl.1 rfl (Nat.le_of_ble_eq_true rfl) dX10_squares_40 (by decide)) (fun v25 σ24 H locs hp hw => ?_)
          obtain ⟨p25_0, p25_1⟩ := hp
          rw [p25_0] at hw
          refine lv_iconst (v := 3) hx hb dX10_squares_43 (by decide) ?_
          refine lv_icmp_lt (tgt := 52) hx hb dX10_squares_44 (by decide) (fun c26 => ?_) (fun c26 => ?_)
          · --
            have i27 : Iv v25 0 2 := iv_lt1 c26 p25_1 (⟨by decide, by decide⟩ : Iv 3 3 3) (by decide)
            exact J_52 j10_3 _ _ hw _ (lv_sub hl [1, 2, 3, 4, 0] rfl)
          · --
            have i28 : Iv v25 3 127 := iv_le2 (iv_nlt c26) (⟨by decide, by decide⟩ : Iv 3 3 3) p25_1 (by decide)
            refine lv_lload_n hx hb dX10_squares_47 rfl (lv_at hl 3 rfl) ?_
            refine lv_lload hx hb dX10_squares_48 (lv_at hl 0 rfl) ?_
            refine lv_lor hx hb dX10_squares_50 ?_
            refine lv_topl (fun v29 e29 => ?_)
            refine lv_lstore_n (lv' := [(3, .long v29), (6, .long v15), (0, .ref a0), (1, .long v2), (5, .int j10_5)]) hx hb dX10_squares_51 rfl hl (by decide) rfl (fun ls hl => ?_)
            exact J_52 v29 _ _ hw _ (lv_sub hl [2, 3, 0, 4, 1] rfl)
  exact J_10 _ 0 0 (iv_w (⟨by decide, by decide⟩ : Iv 0 0 0) (by decide)) _ _ hw (Nat.lt_succ_self _) _ (lv_sub hl [3, 2, 1, 0] rfl)
end OM
