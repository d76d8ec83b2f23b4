section OM
variable {l : Launch} {A : Nat → Prop} {L : List Nat} {τ : Nat → Nat} {cy : Nat → ClassId} {D : va_G} {K : (Nat → Nat) × (Nat → Nat)} {σ : oSt}
abbrev fs_X2_layCell : List Nat := [66, 68, 69, 70, 386]
abbrev ts_X2_layCell : List Nat := [32, 34]
set_option maxHeartbeats 4000000 in
set_option maxRecDepth 100000 in
theorem c_X2_layCell (a0 : Nat) (ha0 : oA L τ a0 1) (a1 : Int32) (a2 : Nat) (ha2 : oA L τ a2 6) (a3 : Nat) (ha3 : oA L τ a3 5) : oMet l A L τ cy D K yX2_layCell cX2_layCell 4 none 3 66 [.ref a0, .int a1, .ref a2, .ref a3] σ (va_Qv (fun σ1 => oFr τ fs_X2_layCell ts_X2_layCell σ σ1 ∧ ((0 ≤ a1.toInt ∧ a1.toInt ≤ 63 ∧ (tC (oRw σ 384 a2) (σ.1 385 a2).toInt (σ.1 387 a2).toInt (σ.1 386 a2).toInt = 35 ∨ (tC (oRw σ 384 a2) (σ.1 385 a2).toInt (σ.1 387 a2).toInt (σ.1 386 a2).toInt = 43 ∧ (σ.1 66 a0).toInt < 6) ∨ (48 ≤ tC (oRw σ 384 a2) (σ.1 385 a2).toInt (σ.1 387 a2).toInt (σ.1 386 a2).toInt ∧ tC (oRw σ 384 a2) (σ.1 385 a2).toInt (σ.1 387 a2).toInt (σ.1 386 a2).toInt ≤ 57))) → ((σ1.1 386 a2).toInt = (σ.1 386 a2).toInt + 1 ∧ ((tC (oRw σ 384 a2) (σ.1 385 a2).toInt (σ.1 387 a2).toInt (σ.1 386 a2).toInt = 43 ∧ (σ1.1 66 a0).toInt = (σ.1 66 a0).toInt + 1) ∨ (tC (oRw σ 384 a2) (σ.1 385 a2).toInt (σ.1 387 a2).toInt (σ.1 386 a2).toInt ≠ 43 ∧ (σ1.1 66 a0).toInt = (σ.1 66 a0).toInt))))) (oPo A L τ cy D) A) := by
  refine oMk (by decide) (Nat.le_of_ble_eq_true rfl) rfl ?_
  intro p e s m args below meth c ls cx rx hA hw hl
  generalize hQ : MQ below _ args s 0 0 A = Q
  have hx := cx.1.1
  have hb := cx.1.2.1
  have hml := cx.1.2.2.1
  have hown := cx.1.2.2.2.1
  have hts := cx.1.2.2.2.2
  have hl : lv_has ls 4 [(0, .ref a0), (1, .int a1), (2, .ref a2), (3, .ref a3)] := hl
  have fr : oFr τ fs_X2_layCell ts_X2_layCell σ σ := oFr_rf
  have iz385 : Iv (σ.1 385 a2) (0) 80 := o_fb (j := 385) hw ha2 rfl
  have iz66 : Iv (σ.1 66 a0) (0) 6 := o_fb (j := 66) hw ha0 rfl
  refine lv_iload_n hx hb dX2_layCell_0 rfl (lv_at hl 1 rfl) ?_
  refine lv_if_lt (tgt := 10) hx hb dX2_layCell_1 (by decide) (fun c1 => ?_) (fun c1 => ?_)
  · --
    have i2 : Iv a1 (-2147483648) (-1) := iv_lt1 c1 (iv_top a1) (⟨by decide, by decide⟩ : Iv 0 0 0) (by decide)
    rw [← hQ]
    exact o_rv cx rx hw dX2_layCell_10 ⟨fr, (by exact (by have := (i2).1; have := (i2).2; have := (iz385).1; have := (iz385).2; have := (iz66).1; have := (iz66).2; have : (a1 : Int32).toInt < (0 : Int32).toInt := iv_lt.mp c1; have : (0 : Int32).toInt = 0 := (by decide); omega))⟩
  · --
    have i3 : Iv a1 0 2147483647 := iv_le2 (iv_nlt c1) (⟨by decide, by decide⟩ : Iv 0 0 0) (iv_top a1) (by decide)
    refine lv_iload_n hx hb dX2_layCell_4 rfl (lv_at hl 1 rfl) ?_
    refine lv_bipush (v := 64) hx hb dX2_layCell_5 (by decide) ?_
    refine lv_icmp_lt (tgt := 11) hx hb dX2_layCell_7 (by decide) (fun c4 => ?_) (fun c4 => ?_)
    · --
      have i5 : Iv a1 0 63 := iv_lt1 c4 i3 (⟨by decide, by decide⟩ : Iv 64 64 64) (by decide)
      refine lv_aload_n hx hb dX2_layCell_11 rfl (lv_at hl 0 rfl) ?_
      refine lv_dup hx hb dX2_layCell_12 rfl ?_
      refine g_68 cx hw ha0 k_f_X2_44 dX2_layCell_13 (fun v6 e6 => ?_)
      refine lv_iload_n hx hb dX2_layCell_16 rfl (lv_at hl 1 rfl) ?_
      refine o_cl hw (oRunS cx hA hw q_X0_bit k_m_X2_74 (As := [.int a1]) (c_X0_bit a1) (by decide) rfl hl.1 rfl (Nat.le_of_ble_eq_true rfl) dX2_layCell_17 (by decide)) (fun v8 σ7 H locs hp hw => ?_)
      have p8_0 := hp
      rw [p8_0] at hw
      refine lv_lor hx hb dX2_layCell_20 ?_
      refine lv_topl (fun v9 e9 => ?_)
      refine p_68 cx hw ha0 k_f_X2_44 dX2_layCell_21 (fun σ10 H locs eσ10 hw => ?_)
      have fr := oFr_l fr eσ10 (by decide)
      refine lv_aload_n hx hb dX2_layCell_24 rfl (lv_at hl 2 rfl) ?_
      refine lv_bipush (v := 35) hx hb dX2_layCell_25 (by decide) ?_
      have z11 : (σ10.1 385 a2).toInt = ((σ.1 385 a2) : Int32).toInt := congrArg Int32.toInt (show σ10.1 385 a2 = (σ.1 385 a2) from ((kp_l eσ10).trans rfl))
      have z12 : (σ10.1 386 a2).toInt = ((σ.1 386 a2) : Int32).toInt := congrArg Int32.toInt (show σ10.1 386 a2 = (σ.1 386 a2) from ((kp_l eσ10).trans rfl))
      have z13 : (σ10.1 387 a2).toInt = ((σ.1 387 a2) : Int32).toInt := congrArg Int32.toInt (show σ10.1 387 a2 = (σ.1 387 a2) from ((kp_l eσ10).trans rfl))
      have tq14 : tC (oRw σ10 384 a2) (σ10.1 385 a2).toInt (σ10.1 387 a2).toInt (σ10.1 386 a2).toInt = tC (oRw σ 384 a2) (σ.1 385 a2).toInt (σ.1 387 a2).toInt (σ.1 386 a2).toInt := by rw [show oRw σ10 384 a2 = oRw σ 384 a2 from oRw_fr hw ha2 rfl fr (by decide), show (σ10.1 385 a2).toInt = (σ.1 385 a2).toInt from congrArg Int32.toInt (kp_c fr (by decide)), show (σ10.1 387 a2).toInt = (σ.1 387 a2).toInt from (by have := (i5).1; have := (i5).2; have := (iz385).1; have := (iz385).2; have := (iz66).1; have := (iz66).2; have : (σ10.1 385 a2).toInt = ((σ.1 385 a2) : Int32).toInt := congrArg Int32.toInt (show σ10.1 385 a2 = (σ.1 385 a2) from ((kp_l eσ10).trans rfl)); have : (σ10.1 386 a2).toInt = ((σ.1 386 a2) : Int32).toInt := congrArg Int32.toInt (show σ10.1 386 a2 = (σ.1 386 a2) from ((kp_l eσ10).trans rfl)); have : (σ10.1 387 a2).toInt = ((σ.1 387 a2) : Int32).toInt := congrArg Int32.toInt (show σ10.1 387 a2 = (σ.1 387 a2) from ((kp_l eσ10).trans rfl)); have : (σ10.1 66 a0).toInt = ((σ.1 66 a0) : Int32).toInt := congrArg Int32.toInt (show σ10.1 66 a0 = (σ.1 66 a0) from ((kp_l eσ10).trans rfl)); have : (0 : Int32).toInt ≤ (a1 : Int32).toInt := iv_le.mp (iv_nlt c1); have : (a1 : Int32).toInt < (64 : Int32).toInt := iv_lt.mp c4; have : (0 : Int32).toInt = 0 := (by decide); have : (35 : Int32).toInt = 35 := (by decide); have : (64 : Int32).toInt = 64 := (by decide); omega), show (σ10.1 386 a2).toInt = (σ.1 386 a2).toInt from (by have := (i5).1; have := (i5).2; have := (iz385).1; have := (iz385).2; have := (iz66).1; have := (iz66).2; have : (σ10.1 385 a2).toInt = ((σ.1 385 a2) : Int32).toInt := congrArg Int32.toInt (show σ10.1 385 a2 = (σ.1 385 a2) from ((kp_l eσ10).trans rfl)); have : (σ10.1 386 a2).toInt = ((σ.1 386 a2) : Int32).toInt := congrArg Int32.toInt (show σ10.1 386 a2 = (σ.1 386 a2) from ((kp_l eσ10).trans rfl)); have : (σ10.1 387 a2).toInt = ((σ.1 387 a2) : Int32).toInt := congrArg Int32.toInt (show σ10.1 387 a2 = (σ.1 387 a2) from ((kp_l eσ10).trans rfl)); have : (σ10.1 66 a0).toInt = ((σ.1 66 a0) : Int32).toInt := congrArg Int32.toInt (show σ10.1 66 a0 = (σ.1 66 a0) from ((kp_l eσ10).trans rfl)); have : (0 : Int32).toInt ≤ (a1 : Int32).toInt := iv_le.mp (iv_nlt c1); have : (a1 : Int32).toInt < (64 : Int32).toInt := iv_lt.mp c4; have : (0 : Int32).toInt = 0 := (by decide); have : (35 : Int32).toInt = 35 := (by decide); have : (64 : Int32).toInt = 64 := (by decide); omega)]
      refine o_ci hw (oRunV cx hA hw q_X7_take k_m_X2_25 rfl ha2 (by decide) (As := [.int 35]) (c_X7_take a2 ha2 35 (iv_w (⟨by decide, by decide⟩ : Iv 35 35 35) (by decide))) (by decide) rfl hl.1 rfl (Nat.le_of_ble_eq_true rfl) dX2_layCell_27 (by decide)) (fun v16 σ15 H locs hp hw => ?_)
      obtain ⟨p16_0, p16_1, p16_2⟩ := hp
      have fr := oFr_tr fr p16_0 (by decide)
      refine lv_if_eq (tgt := 49) hx hb dX2_layCell_30 (by decide) (fun c17 => ?_) (fun c17 => ?_)
      · --
        have i18 : Iv v16 0 0 := iv_eq1 c17 p16_1 (⟨by decide, by decide⟩ : Iv 0 0 0) (by decide)
        refine lv_aload_n hx hb dX2_layCell_49 rfl (lv_at hl 0 rfl) ?_
        refine g_66 cx hw ha0 k_f_X2_54 dX2_layCell_50 (fun v19 e19 i19 => ?_)
        rw [show v19 = (σ.1 66 a0) from e19.trans ((kp_c p16_0 (by decide)).trans ((kp_l eσ10).trans rfl))]
        refine lv_bipush (v := 6) hx hb dX2_layCell_53 (by decide) ?_
        refine lv_icmp_ge (tgt := 90) hx hb dX2_layCell_55 (by decide) (fun c20 => ?_) (fun c20 => ?_)
        · --
          have i21 : Iv (σ.1 66 a0) 6 6 := iv_le2 c20 (⟨by decide, by decide⟩ : Iv 6 6 6) iz66 (by decide)
          refine lv_aload_n hx hb dX2_layCell_90 rfl (lv_at hl 0 rfl) ?_
          refine lv_dup hx hb dX2_layCell_91 rfl ?_
          refine g_69 cx hw ha0 k_f_X2_48 dX2_layCell_92 (fun v22 e22 => ?_)
          refine lv_iload_n hx hb dX2_layCell_95 rfl (lv_at hl 1 rfl) ?_
          refine o_cl hw (oRunS cx hA hw q_X0_bit k_m_X2_74 (As := [.int a1]) (c_X0_bit a1) (by decide) rfl hl.1 rfl (Nat.le_of_ble_eq_true rfl) dX2_layCell_96 (by decide)) (fun v24 σ23 H locs hp hw => ?_)
          have p24_0 := hp
          rw [p24_0] at hw
          refine lv_lor hx hb dX2_layCell_99 ?_
          refine lv_topl (fun v25 e25 => ?_)
          refine p_69 cx hw ha0 k_f_X2_48 dX2_layCell_100 (fun σ26 H locs eσ26 hw => ?_)
          have fr := oFr_l fr eσ26 (by decide)
          refine lv_aload_n hx hb dX2_layCell_103 rfl (lv_at hl 3 rfl) ?_
          refine g_320 cx hw ha3 k_f_X2_80 dX2_layCell_104 (fun v27 e27 h27 => ?_)
          refine lv_iload_n hx hb dX2_layCell_107 rfl (lv_at hl 1 rfl) ?_
          refine lv_iconst (v := 0) hx hb dX2_layCell_108 (by decide) ?_
          refine lv_aload_n hx hb dX2_layCell_109 rfl (lv_at hl 2 rfl) ?_
          refine lv_iconst (v := 0) hx hb dX2_layCell_110 (by decide) ?_
          refine lv_bipush (v := 9) hx hb dX2_layCell_111 (by decide) ?_
          have z28 : (σ26.1 385 a2).toInt = ((σ.1 385 a2) : Int32).toInt := congrArg Int32.toInt (show σ26.1 385 a2 = (σ.1 385 a2) from ((kp_l eσ26).trans ((kp_c p16_0 (by decide)).trans ((kp_l eσ10).trans rfl))))
          have z29 : (σ26.1 386 a2).toInt = ((σ15.1 386 a2) : Int32).toInt := congrArg Int32.toInt (show σ26.1 386 a2 = (σ15.1 386 a2) from ((kp_l eσ26).trans rfl))
          have z30 : (σ26.1 387 a2).toInt = ((σ.1 387 a2) : Int32).toInt := congrArg Int32.toInt (show σ26.1 387 a2 = (σ.1 387 a2) from ((kp_l eσ26).trans ((kp_c p16_0 (by decide)).trans ((kp_l eσ10).trans rfl))))
          have tq31 : tC (oRw σ26 384 a2) (σ26.1 385 a2).toInt (σ26.1 387 a2).toInt (σ26.1 386 a2).toInt = tC (oRw σ 384 a2) (σ.1 385 a2).toInt (σ.1 387 a2).toInt (σ.1 386 a2).toInt := by rw [show oRw σ26 384 a2 = oRw σ 384 a2 from oRw_fr hw ha2 rfl fr (by decide), show (σ26.1 385 a2).toInt = (σ.1 385 a2).toInt from congrArg Int32.toInt (kp_c fr (by decide)), show (σ26.1 387 a2).toInt = (σ.1 387 a2).toInt from (by have := (i5).1; have := (i5).2; have := (iz385).1; have := (iz385).2; have := (i21).1; have := (i21).2; have := (i18).1; have := (i18).2; have : (σ26.1 385 a2).toInt = ((σ.1 385 a2) : Int32).toInt := congrArg Int32.toInt (show σ26.1 385 a2 = (σ.1 385 a2) from ((kp_l eσ26).trans ((kp_c p16_0 (by decide)).trans ((kp_l eσ10).trans rfl)))); have : (σ26.1 387 a2).toInt = ((σ.1 387 a2) : Int32).toInt := congrArg Int32.toInt (show σ26.1 387 a2 = (σ.1 387 a2) from ((kp_l eσ26).trans ((kp_c p16_0 (by decide)).trans ((kp_l eσ10).trans rfl)))); have : (σ26.1 66 a0).toInt = ((σ.1 66 a0) : Int32).toInt := congrArg Int32.toInt (show σ26.1 66 a0 = (σ.1 66 a0) from ((kp_l eσ26).trans ((kp_c p16_0 (by decide)).trans ((kp_l eσ10).trans rfl)))); have : (σ26.1 386 a2).toInt = ((σ15.1 386 a2) : Int32).toInt := congrArg Int32.toInt (show σ26.1 386 a2 = (σ15.1 386 a2) from ((kp_l eσ26).trans rfl)); have : (0 : Int32).toInt ≤ (a1 : Int32).toInt := iv_le.mp (iv_nlt c1); have : (a1 : Int32).toInt < (64 : Int32).toInt := iv_lt.mp c4; have : (v16 : Int32).toInt = (0 : Int32).toInt := congrArg Int32.toInt c17; have : (6 : Int32).toInt ≤ ((σ.1 66 a0) : Int32).toInt := iv_le.mp c20; have : (0 : Int32).toInt = 0 := (by decide); have : (35 : Int32).toInt = 35 := (by decide); have : (6 : Int32).toInt = 6 := (by decide); have : (64 : Int32).toInt = 64 := (by decide); have : (9 : Int32).toInt = 9 := (by decide); omega), show (σ26.1 386 a2).toInt = (σ.1 386 a2).toInt from (by have := (i5).1; have := (i5).2; have := (iz385).1; have := (iz385).2; have := (i21).1; have := (i21).2; have := (i18).1; have := (i18).2; have : (σ26.1 385 a2).toInt = ((σ.1 385 a2) : Int32).toInt := congrArg Int32.toInt (show σ26.1 385 a2 = (σ.1 385 a2) from ((kp_l eσ26).trans ((kp_c p16_0 (by decide)).trans ((kp_l eσ10).trans rfl)))); have : (σ26.1 387 a2).toInt = ((σ.1 387 a2) : Int32).toInt := congrArg Int32.toInt (show σ26.1 387 a2 = (σ.1 387 a2) from ((kp_l eσ26).trans ((kp_c p16_0 (by decide)).trans ((kp_l eσ10).trans rfl)))); have : (σ26.1 66 a0).toInt = ((σ.1 66 a0) : Int32).toInt := congrArg Int32.toInt (show σ26.1 66 a0 = (σ.1 66 a0) from ((kp_l eσ26).trans ((kp_c p16_0 (by decide)).trans ((kp_l eσ10).trans rfl)))); have : (σ26.1 386 a2).toInt = ((σ15.1 386 a2) : Int32).toInt := congrArg Int32.toInt (show σ26.1 386 a2 = (σ15.1 386 a2) from ((kp_l eσ26).trans rfl)); have : (0 : Int32).toInt ≤ (a1 : Int32).toInt := iv_le.mp (iv_nlt c1); have : (a1 : Int32).toInt < (64 : Int32).toInt := iv_lt.mp c4; have : (v16 : Int32).toInt = (0 : Int32).toInt := congrArg Int32.toInt c17; have : (6 : Int32).toInt ≤ ((σ.1 66 a0) : Int32).toInt := iv_le.mp c20; have : (0 : Int32).toInt = 0 := (by decide); have : (35 : Int32).toInt = 35 := (by decide); have : (6 : Int32).toInt = 6 := (by decide); have : (64 : Int32).toInt = 64 := (by decide); have : (9 : Int32).toInt = 9 := (by decide); omega)]
          refine o_ci hw (oRunV cx hA hw q_X7_digit k_m_X2_83 rfl ha2 (by decide) (As := [.int 0, .int 9]) (c_X7_digit a2 ha2 0 (iv_w (⟨by decide, by decide⟩ : Iv 0 0 0) (by decide)) 9) (by decide) rfl hl.1 rfl (Nat.le_of_ble_eq_true rfl) dX2_layCell_113 (by decide)) (fun v33 σ32 H locs hp hw => ?_)
          obtain ⟨p33_0, p33_1, p33_2⟩ := hp
          have fr := oFr_tr fr p33_0 (by decide)
          refine va_mmax hx hb (hml.trans hl.1.symm) hown (hts _ k_m_X2_68) (hts _ k_s_J9_max_7cf53) (hts _ k_i_J9) (hts _ k_code_J9_max_7cf53) (by decide) (Nat.le_of_ble_eq_true rfl) (by decide) (by decide) dX2_layCell_116 ?_
          refine lv_topi (fun v34 e34 => ?_)
          have i34 : Iv v34 0 207 := iv_max e34 (⟨by decide, by decide⟩ : Iv 0 0 0) p33_1 (by decide)
          refine o_iast cx hw h27 (by decide) rfl (iv_in i5 (by decide)) trivial dX2_layCell_119 (fun σ35 H locs eσ35 hw => ?_)
          have fr := oFr_p fr eσ35 h27 (by decide)
          rw [← hQ]
          exact o_rv cx rx hw dX2_layCell_120 ⟨fr, (by exact (by have := (i5).1; have := (i5).2; have := (iz385).1; have := (iz385).2; have := (i21).1; have := (i21).2; have := (i18).1; have := (i18).2; have := (p33_1).1; have := (p33_1).2; have := (i34).1; have := (i34).2; have : (σ35.1 385 a2).toInt = ((σ.1 385 a2) : Int32).toInt := congrArg Int32.toInt (show σ35.1 385 a2 = (σ.1 385 a2) from ((kp_p eσ35).trans ((kp_c p33_0 (by decide)).trans ((kp_l eσ26).trans ((kp_c p16_0 (by decide)).trans ((kp_l eσ10).trans rfl)))))); have : (σ35.1 387 a2).toInt = ((σ.1 387 a2) : Int32).toInt := congrArg Int32.toInt (show σ35.1 387 a2 = (σ.1 387 a2) from ((kp_p eσ35).trans ((kp_c p33_0 (by decide)).trans ((kp_l eσ26).trans ((kp_c p16_0 (by decide)).trans ((kp_l eσ10).trans rfl)))))); have : (σ35.1 66 a0).toInt = ((σ.1 66 a0) : Int32).toInt := congrArg Int32.toInt (show σ35.1 66 a0 = (σ.1 66 a0) from ((kp_p eσ35).trans ((kp_c p33_0 (by decide)).trans ((kp_l eσ26).trans ((kp_c p16_0 (by decide)).trans ((kp_l eσ10).trans rfl)))))); have : (σ35.1 386 a2).toInt = ((σ32.1 386 a2) : Int32).toInt := congrArg Int32.toInt (show σ35.1 386 a2 = (σ32.1 386 a2) from ((kp_p eσ35).trans rfl)); have : (0 : Int32).toInt ≤ (a1 : Int32).toInt := iv_le.mp (iv_nlt c1); have : (a1 : Int32).toInt < (64 : Int32).toInt := iv_lt.mp c4; have : (v16 : Int32).toInt = (0 : Int32).toInt := congrArg Int32.toInt c17; have : (6 : Int32).toInt ≤ ((σ.1 66 a0) : Int32).toInt := iv_le.mp c20; have : (0 : Int32).toInt = 0 := (by decide); have : (35 : Int32).toInt = 35 := (by decide); have : (6 : Int32).toInt = 6 := (by decide); have : (64 : Int32).toInt = 64 := (by decide); have : (9 : Int32).toInt = 9 := (by decide); omega))⟩
        · --
          have i36 : Iv (σ.1 66 a0) 0 5 := iv_lt1 (iv_nle c20) iz66 (⟨by decide, by decide⟩ : Iv 6 6 6) (by decide)
          refine lv_aload_n hx hb dX2_layCell_58 rfl (lv_at hl 2 rfl) ?_
          refine lv_bipush (v := 43) hx hb dX2_layCell_59 (by decide) ?_
          have z37 : (σ15.1 385 a2).toInt = ((σ.1 385 a2) : Int32).toInt := congrArg Int32.toInt (show σ15.1 385 a2 = (σ.1 385 a2) from ((kp_c p16_0 (by decide)).trans ((kp_l eσ10).trans rfl)))
          have z38 : (σ15.1 387 a2).toInt = ((σ.1 387 a2) : Int32).toInt := congrArg Int32.toInt (show σ15.1 387 a2 = (σ.1 387 a2) from ((kp_c p16_0 (by decide)).trans ((kp_l eσ10).trans rfl)))
          have tq39 : tC (oRw σ15 384 a2) (σ15.1 385 a2).toInt (σ15.1 387 a2).toInt (σ15.1 386 a2).toInt = tC (oRw σ 384 a2) (σ.1 385 a2).toInt (σ.1 387 a2).toInt (σ.1 386 a2).toInt := by rw [show oRw σ15 384 a2 = oRw σ 384 a2 from oRw_fr hw ha2 rfl fr (by decide), show (σ15.1 385 a2).toInt = (σ.1 385 a2).toInt from congrArg Int32.toInt (kp_c fr (by decide)), show (σ15.1 387 a2).toInt = (σ.1 387 a2).toInt from (by have := (i5).1; have := (i5).2; have := (iz385).1; have := (iz385).2; have := (i36).1; have := (i36).2; have := (i18).1; have := (i18).2; have : (σ15.1 385 a2).toInt = ((σ.1 385 a2) : Int32).toInt := congrArg Int32.toInt (show σ15.1 385 a2 = (σ.1 385 a2) from ((kp_c p16_0 (by decide)).trans ((kp_l eσ10).trans rfl))); have : (σ15.1 387 a2).toInt = ((σ.1 387 a2) : Int32).toInt := congrArg Int32.toInt (show σ15.1 387 a2 = (σ.1 387 a2) from ((kp_c p16_0 (by decide)).trans ((kp_l eσ10).trans rfl))); have : (σ15.1 66 a0).toInt = ((σ.1 66 a0) : Int32).toInt := congrArg Int32.toInt (show σ15.1 66 a0 = (σ.1 66 a0) from ((kp_c p16_0 (by decide)).trans ((kp_l eσ10).trans rfl))); have : (0 : Int32).toInt ≤ (a1 : Int32).toInt := iv_le.mp (iv_nlt c1); have : (a1 : Int32).toInt < (64 : Int32).toInt := iv_lt.mp c4; have : (v16 : Int32).toInt = (0 : Int32).toInt := congrArg Int32.toInt c17; have : ((σ.1 66 a0) : Int32).toInt < (6 : Int32).toInt := iv_lt.mp (iv_nle c20); have : (0 : Int32).toInt = 0 := (by decide); have : (35 : Int32).toInt = 35 := (by decide); have : (43 : Int32).toInt = 43 := (by decide); have : (6 : Int32).toInt = 6 := (by decide); have : (64 : Int32).toInt = 64 := (by decide); omega), show (σ15.1 386 a2).toInt = (σ.1 386 a2).toInt from (by have := (i5).1; have := (i5).2; have := (iz385).1; have := (iz385).2; have := (i36).1; have := (i36).2; have := (i18).1; have := (i18).2; have : (σ15.1 385 a2).toInt = ((σ.1 385 a2) : Int32).toInt := congrArg Int32.toInt (show σ15.1 385 a2 = (σ.1 385 a2) from ((kp_c p16_0 (by decide)).trans ((kp_l eσ10).trans rfl))); have : (σ15.1 387 a2).toInt = ((σ.1 387 a2) : Int32).toInt := congrArg Int32.toInt (show σ15.1 387 a2 = (σ.1 387 a2) from ((kp_c p16_0 (by decide)).trans ((kp_l eσ10).trans rfl))); have : (σ15.1 66 a0).toInt = ((σ.1 66 a0) : Int32).toInt := congrArg Int32.toInt (show σ15.1 66 a0 = (σ.1 66 a0) from ((kp_c p16_0 (by decide)).trans ((kp_l eσ10).trans rfl))); have : (0 : Int32).toInt ≤ (a1 : Int32).toInt := iv_le.mp (iv_nlt c1); have : (a1 : Int32).toInt < (64 : Int32).toInt := iv_lt.mp c4; have : (v16 : Int32).toInt = (0 : Int32).toInt := congrArg Int32.toInt c17; have : ((σ.1 66 a0) : Int32).toInt < (6 : Int32).toInt := iv_lt.mp (iv_nle c20); have : (0 : Int32).toInt = 0 := (by decide); have : (35 : Int32).toInt = 35 := (by decide); have : (43 : Int32).toInt = 43 := (by decide); have : (6 : Int32).toInt = 6 := (by decide); have : (64 : Int32).toInt = 64 := (by decide); omega)]
          refine o_ci hw (oRunV cx hA hw q_X7_take k_m_X2_25 rfl ha2 (by decide) (As := [.int 43]) (c_X7_take a2 ha2 43 (iv_w (⟨by decide, by decide⟩ : Iv 43 43 43) (by decide))) (by decide) rfl hl.1 rfl (Nat.le_of_ble_eq_true rfl) dX2_layCell_61 (by decide)) (fun v41 σ40 H locs hp hw => ?_)
          obtain ⟨p41_0, p41_1, p41_2⟩ := hp
          have fr := oFr_tr fr p41_0 (by decide)
          refine lv_if_eq (tgt := 90) hx hb dX2_layCell_64 (by decide) (fun c42 => ?_) (fun c42 => ?_)
          · --
            have i43 : Iv v41 0 0 := iv_eq1 c42 p41_1 (⟨by decide, by decide⟩ : Iv 0 0 0) (by decide)
            refine lv_aload_n hx hb dX2_layCell_90 rfl (lv_at hl 0 rfl) ?_
            refine lv_dup hx hb dX2_layCell_91 rfl ?_
            refine g_69 cx hw ha0 k_f_X2_48 dX2_layCell_92 (fun v44 e44 => ?_)
            refine lv_iload_n hx hb dX2_layCell_95 rfl (lv_at hl 1 rfl) ?_
            refine o_cl hw (oRunS cx hA hw q_X0_bit k_m_X2_74 (As := [.int a1]) (c_X0_bit a1) (by decide) rfl hl.1 rfl (Nat.le_of_ble_eq_true rfl) dX2_layCell_96 (by decide)) (fun v46 σ45 H locs hp hw => ?_)
            have p46_0 := hp
            rw [p46_0] at hw
            refine lv_lor hx hb dX2_layCell_99 ?_
            refine lv_topl (fun v47 e47 => ?_)
            refine p_69 cx hw ha0 k_f_X2_48 dX2_layCell_100 (fun σ48 H locs eσ48 hw => ?_)
            have fr := oFr_l fr eσ48 (by decide)
            refine lv_aload_n hx hb dX2_layCell_103 rfl (lv_at hl 3 rfl) ?_
            refine g_320 cx hw ha3 k_f_X2_80 dX2_layCell_104 (fun v49 e49 h49 => ?_)
            refine lv_iload_n hx hb dX2_layCell_107 rfl (lv_at hl 1 rfl) ?_
            refine lv_iconst (v := 0) hx hb dX2_layCell_108 (by decide) ?_
            refine lv_aload_n hx hb dX2_layCell_109 rfl (lv_at hl 2 rfl) ?_
            refine lv_iconst (v := 0) hx hb dX2_layCell_110 (by decide) ?_
            refine lv_bipush (v := 9) hx hb dX2_layCell_111 (by decide) ?_
            have z50 : (σ48.1 385 a2).toInt = ((σ.1 385 a2) : Int32).toInt := congrArg Int32.toInt (show σ48.1 385 a2 = (σ.1 385 a2) from ((kp_l eσ48).trans ((kp_c p41_0 (by decide)).trans ((kp_c p16_0 (by decide)).trans ((kp_l eσ10).trans rfl)))))
            have z51 : (σ48.1 386 a2).toInt = ((σ40.1 386 a2) : Int32).toInt := congrArg Int32.toInt (show σ48.1 386 a2 = (σ40.1 386 a2) from ((kp_l eσ48).trans rfl))
            have z52 : (σ48.1 387 a2).toInt = ((σ.1 387 a2) : Int32).toInt := congrArg Int32.toInt (show σ48.1 387 a2 = (σ.1 387 a2) from ((kp_l eσ48).trans ((kp_c p41_0 (by decide)).trans ((kp_c p16_0 (by decide)).trans ((kp_l eσ10).trans rfl)))))
            have tq53 : tC (oRw σ48 384 a2) (σ48.1 385 a2).toInt (σ48.1 387 a2).toInt (σ48.1 386 a2).toInt = tC (oRw σ 384 a2) (σ.1 385 a2).toInt (σ.1 387 a2).toInt (σ.1 386 a2).toInt := by rw [show oRw σ48 384 a2 = oRw σ 384 a2 from oRw_fr hw ha2 rfl fr (by decide), show (σ48.1 385 a2).toInt = (σ.1 385 a2).toInt from congrArg Int32.toInt (kp_c fr (by decide)), show (σ48.1 387 a2).toInt = (σ.1 387 a2).toInt from (by have := (i5).1; have := (i5).2; have := (iz385).1; have := (iz385).2; have := (i36).1; have := (i36).2; have := (i18).1; have := (i18).2; have := (i43).1; have := (i43).2; have : (σ48.1 385 a2).toInt = ((σ.1 385 a2) : Int32).toInt := congrArg Int32.toInt (show σ48.1 385 a2 = (σ.1 385 a2) from ((kp_l eσ48).trans ((kp_c p41_0 (by decide)).trans ((kp_c p16_0 (by decide)).trans ((kp_l eσ10).trans rfl))))); have : (σ48.1 387 a2).toInt = ((σ.1 387 a2) : Int32).toInt := congrArg Int32.toInt (show σ48.1 387 a2 = (σ.1 387 a2) from ((kp_l eσ48).trans ((kp_c p41_0 (by decide)).trans ((kp_c p16_0 (by decide)).trans ((kp_l eσ10).trans rfl))))); have : (σ48.1 66 a0).toInt = ((σ.1 66 a0) : Int32).toInt := congrArg Int32.toInt (show σ48.1 66 a0 = (σ.1 66 a0) from ((kp_l eσ48).trans ((kp_c p41_0 (by decide)).trans ((kp_c p16_0 (by decide)).trans ((kp_l eσ10).trans rfl))))); have : (σ48.1 386 a2).toInt = ((σ40.1 386 a2) : Int32).toInt := congrArg Int32.toInt (show σ48.1 386 a2 = (σ40.1 386 a2) from ((kp_l eσ48).trans rfl)); have : (0 : Int32).toInt ≤ (a1 : Int32).toInt := iv_le.mp (iv_nlt c1); have : (a1 : Int32).toInt < (64 : Int32).toInt := iv_lt.mp c4; have : (v16 : Int32).toInt = (0 : Int32).toInt := congrArg Int32.toInt c17; have : ((σ.1 66 a0) : Int32).toInt < (6 : Int32).toInt := iv_lt.mp (iv_nle c20); have : (v41 : Int32).toInt = (0 : Int32).toInt := congrArg Int32.toInt c42; have : (0 : Int32).toInt = 0 := (by decide); have : (35 : Int32).toInt = 35 := (by decide); have : (43 : Int32).toInt = 43 := (by decide); have : (6 : Int32).toInt = 6 := (by decide); have : (64 : Int32).toInt = 64 := (by decide); have : (9 : Int32).toInt = 9 := (by decide); omega), show (σ48.1 386 a2).toInt = (σ.1 386 a2).toInt from (by have := (i5).1; have := (i5).2; have := (iz385).1; have := (iz385).2; have := (i36).1; have := (i36).2; have := (i18).1; have := (i18).2; have := (i43).1; have := (i43).2; have : (σ48.1 385 a2).toInt = ((σ.1 385 a2) : Int32).toInt := congrArg Int32.toInt (show σ48.1 385 a2 = (σ.1 385 a2) from ((kp_l eσ48).trans ((kp_c p41_0 (by decide)).trans ((kp_c p16_0 (by decide)).trans ((kp_l eσ10).trans rfl))))); have : (σ48.1 387 a2).toInt = ((σ.1 387 a2) : Int32).toInt := congrArg Int32.toInt (show σ48.1 387 a2 = (σ.1 387 a2) from ((kp_l eσ48).trans ((kp_c p41_0 (by decide)).trans ((kp_c p16_0 (by decide)).trans ((kp_l eσ10).trans rfl))))); have : (σ48.1 66 a0).toInt = ((σ.1 66 a0) : Int32).toInt := congrArg Int32.toInt (show σ48.1 66 a0 = (σ.1 66 a0) from ((kp_l eσ48).trans ((kp_c p41_0 (by decide)).trans ((kp_c p16_0 (by decide)).trans ((kp_l eσ10).trans rfl))))); have : (σ48.1 386 a2).toInt = ((σ40.1 386 a2) : Int32).toInt := congrArg Int32.toInt (show σ48.1 386 a2 = (σ40.1 386 a2) from ((kp_l eσ48).trans rfl)); have : (0 : Int32).toInt ≤ (a1 : Int32).toInt := iv_le.mp (iv_nlt c1); have : (a1 : Int32).toInt < (64 : Int32).toInt := iv_lt.mp c4; have : (v16 : Int32).toInt = (0 : Int32).toInt := congrArg Int32.toInt c17; have : ((σ.1 66 a0) : Int32).toInt < (6 : Int32).toInt := iv_lt.mp (iv_nle c20); have : (v41 : Int32).toInt = (0 : Int32).toInt := congrArg Int32.toInt c42; have : (0 : Int32).toInt = 0 := (by decide); have : (35 : Int32).toInt = 35 := (by decide); have : (43 : Int32).toInt = 43 := (by decide); have : (6 : Int32).toInt = 6 := (by decide); have : (64 : Int32).toInt = 64 := (by decide); have : (9 : Int32).toInt = 9 := (by decide); omega)]
            refine o_ci hw (oRunV cx hA hw q_X7_digit k_m_X2_83 rfl ha2 (by decide) (As := [.int 0, .int 9]) (c_X7_digit a2 ha2 0 (iv_w (⟨by decide, by decide⟩ : Iv 0 0 0) (by decide)) 9) (by decide) rfl hl.1 rfl (Nat.le_of_ble_eq_true rfl) dX2_layCell_113 (by decide)) (fun v55 σ54 H locs hp hw => ?_)
            obtain ⟨p55_0, p55_1, p55_2⟩ := hp
            have fr := oFr_tr fr p55_0 (by decide)
            refine va_mmax hx hb (hml.trans hl.1.symm) hown (hts _ k_m_X2_68) (hts _ k_s_J9_max_7cf53) (hts _ k_i_J9) (hts _ k_code_J9_max_7cf53) (by decide) (Nat.le_of_ble_eq_true rfl) (by decide) (by decide) dX2_layCell_116 ?_
            refine lv_topi (fun v56 e56 => ?_)
            have i56 : Iv v56 0 207 := iv_max e56 (⟨by decide, by decide⟩ : Iv 0 0 0) p55_1 (by decide)
            refine o_iast cx hw h49 (by decide) rfl (iv_in i5 (by decide)) trivial dX2_layCell_119 (fun σ57 H locs eσ57 hw => ?_)
            have fr := oFr_p fr eσ57 h49 (by decide)
            rw [← hQ]
            exact o_rv cx rx hw dX2_layCell_120 ⟨fr, (by exact (by have := (i5).1; have := (i5).2; have := (iz385).1; have := (iz385).2; have := (i36).1; have := (i36).2; have := (i18).1; have := (i18).2; have := (i43).1; have := (i43).2; have := (p55_1).1; have := (p55_1).2; have := (i56).1; have := (i56).2; have : (σ57.1 385 a2).toInt = ((σ.1 385 a2) : Int32).toInt := congrArg Int32.toInt (show σ57.1 385 a2 = (σ.1 385 a2) from ((kp_p eσ57).trans ((kp_c p55_0 (by decide)).trans ((kp_l eσ48).trans ((kp_c p41_0 (by decide)).trans ((kp_c p16_0 (by decide)).trans ((kp_l eσ10).trans rfl))))))); have : (σ57.1 387 a2).toInt = ((σ.1 387 a2) : Int32).toInt := congrArg Int32.toInt (show σ57.1 387 a2 = (σ.1 387 a2) from ((kp_p eσ57).trans ((kp_c p55_0 (by decide)).trans ((kp_l eσ48).trans ((kp_c p41_0 (by decide)).trans ((kp_c p16_0 (by decide)).trans ((kp_l eσ10).trans rfl))))))); have : (σ57.1 66 a0).toInt = ((σ.1 66 a0) : Int32).toInt := congrArg Int32.toInt (show σ57.1 66 a0 = (σ.1 66 a0) from ((kp_p eσ57).trans ((kp_c p55_0 (by decide)).trans ((kp_l eσ48).trans ((kp_c p41_0 (by decide)).trans ((kp_c p16_0 (by decide)).trans ((kp_l eσ10).trans rfl))))))); have : (σ57.1 386 a2).toInt = ((σ54.1 386 a2) : Int32).toInt := congrArg Int32.toInt (show σ57.1 386 a2 = (σ54.1 386 a2) from ((kp_p eσ57).trans rfl)); have : (0 : Int32).toInt ≤ (a1 : Int32).toInt := iv_le.mp (iv_nlt c1); have : (a1 : Int32).toInt < (64 : Int32).toInt := iv_lt.mp c4; have : (v16 : Int32).toInt = (0 : Int32).toInt := congrArg Int32.toInt c17; have : ((σ.1 66 a0) : Int32).toInt < (6 : Int32).toInt := iv_lt.mp (iv_nle c20); have : (v41 : Int32).toInt = (0 : Int32).toInt := congrArg Int32.toInt c42; have : (0 : Int32).toInt = 0 := (by decide); have : (35 : Int32).toInt = 35 := (by decide); have : (43 : Int32).toInt = 43 := (by decide); have : (6 : Int32).toInt = 6 := (by decide); have : (64 : Int32).toInt = 64 := (by decide); have : (9 : Int32).toInt = 9 := (by decide); omega))⟩
          · --
            have i58 : Iv v41 1 1 := iv_ne1 c42 p41_1 (⟨by decide, by decide⟩ : Iv 0 0 0) (by decide)
            refine lv_aload_n hx hb dX2_layCell_67 rfl (lv_at hl 0 rfl) ?_
            refine g_67 cx hw ha0 k_f_X2_9 dX2_layCell_68 (fun v59 e59 h59 => ?_)
            refine lv_aload_n hx hb dX2_layCell_71 rfl (lv_at hl 0 rfl) ?_
            refine g_66 cx hw ha0 k_f_X2_54 dX2_layCell_72 (fun v60 e60 i60 => ?_)
            rw [show v60 = (σ.1 66 a0) from e60.trans ((kp_c p41_0 (by decide)).trans ((kp_c p16_0 (by decide)).trans ((kp_l eσ10).trans rfl)))]
            refine lv_iload_n hx hb dX2_layCell_75 rfl (lv_at hl 1 rfl) ?_
            refine o_iast cx hw h59 (by decide) rfl (iv_in i36 (by decide)) trivial dX2_layCell_76 (fun σ61 H locs eσ61 hw => ?_)
            have fr := oFr_p fr eσ61 h59 (by decide)
            refine lv_aload_n hx hb dX2_layCell_77 rfl (lv_at hl 0 rfl) ?_
            refine lv_dup hx hb dX2_layCell_78 rfl ?_
            refine g_66 cx hw ha0 k_f_X2_54 dX2_layCell_79 (fun v62 e62 i62 => ?_)
            rw [show v62 = (σ.1 66 a0) from e62.trans ((kp_p eσ61).trans ((kp_c p41_0 (by decide)).trans ((kp_c p16_0 (by decide)).trans ((kp_l eσ10).trans rfl))))]
            refine lv_iconst (v := 1) hx hb dX2_layCell_82 (by decide) ?_
            refine lv_iadd hx hb dX2_layCell_83 ?_
            refine lv_topi (fun v63 e63 => ?_)
            have i63 : Iv v63 1 6 := iv_add e63 i36 (⟨by decide, by decide⟩ : Iv 1 1 1) (by decide)
            have x63 : v63.toInt = (σ.1 66 a0).toInt + 1 := ex_add e63 i36 (⟨by decide, by decide⟩ : Iv 1 1 1) (by decide)
            refine p_66 cx hw ha0 (iv_w i63 (by decide)) k_f_X2_54 dX2_layCell_84 (fun σ64 H locs eσ64 hw => ?_)
            have fr := oFr_i fr eσ64 (by decide)
            refine lv_goto (tgt := 120) hx hb dX2_layCell_87 (by decide) ?_
            rw [← hQ]
            exact o_rv cx rx hw dX2_layCell_120 ⟨fr, (by exact (by have := (i5).1; have := (i5).2; have := (iz385).1; have := (iz385).2; have := (i63).1; have := (i63).2; have := (i36).1; have := (i36).2; have := (i18).1; have := (i18).2; have := (i58).1; have := (i58).2; have : (σ64.1 385 a2).toInt = ((σ.1 385 a2) : Int32).toInt := congrArg Int32.toInt (show σ64.1 385 a2 = (σ.1 385 a2) from ((kp_i eσ64 (by decide)).trans ((kp_p eσ61).trans ((kp_c p41_0 (by decide)).trans ((kp_c p16_0 (by decide)).trans ((kp_l eσ10).trans rfl)))))); have : (σ64.1 387 a2).toInt = ((σ.1 387 a2) : Int32).toInt := congrArg Int32.toInt (show σ64.1 387 a2 = (σ.1 387 a2) from ((kp_i eσ64 (by decide)).trans ((kp_p eσ61).trans ((kp_c p41_0 (by decide)).trans ((kp_c p16_0 (by decide)).trans ((kp_l eσ10).trans rfl)))))); have : (σ64.1 386 a2).toInt = ((σ40.1 386 a2) : Int32).toInt := congrArg Int32.toInt (show σ64.1 386 a2 = (σ40.1 386 a2) from ((kp_i eσ64 (by decide)).trans ((kp_p eσ61).trans rfl))); have : (σ64.1 66 a0).toInt = (v63 : Int32).toInt := congrArg Int32.toInt (show σ64.1 66 a0 = v63 from (kp_s eσ64)); have : (0 : Int32).toInt ≤ (a1 : Int32).toInt := iv_le.mp (iv_nlt c1); have : (a1 : Int32).toInt < (64 : Int32).toInt := iv_lt.mp c4; have : (v16 : Int32).toInt = (0 : Int32).toInt := congrArg Int32.toInt c17; have : ((σ.1 66 a0) : Int32).toInt < (6 : Int32).toInt := iv_lt.mp (iv_nle c20); have : (0 : Int32).toInt = 0 := (by decide); have : (35 : Int32).toInt = 35 := (by decide); have : (43 : Int32).toInt = 43 := (by decide); have : (6 : Int32).toInt = 6 := (by decide); have : (64 : Int32).toInt = 64 := (by decide); omega))⟩
      · --
        have i65 : Iv v16 1 1 := iv_ne1 c17 p16_1 (⟨by decide, by decide⟩ : Iv 0 0 0) (by decide)
        refine lv_aload_n hx hb dX2_layCell_33 rfl (lv_at hl 0 rfl) ?_
        refine lv_dup hx hb dX2_layCell_34 rfl ?_
        refine g_70 cx hw ha0 k_f_X2_51 dX2_layCell_35 (fun v66 e66 => ?_)
        refine lv_iload_n hx hb dX2_layCell_38 rfl (lv_at hl 1 rfl) ?_
        refine o_cl hw (oRunS cx hA hw q_X0_bit k_m_X2_74 (As := [.int a1]) (c_X0_bit a1) (by decide) rfl hl.1 rfl (Nat.le_of_ble_eq_true rfl) dX2_layCell_39 (by decide)) (fun v68 σ67 H locs hp hw => ?_)
        have p68_0 := hp
        rw [p68_0] at hw
        refine lv_lor hx hb dX2_layCell_42 ?_
        refine lv_topl (fun v69 e69 => ?_)
        refine p_70 cx hw ha0 k_f_X2_51 dX2_layCell_43 (fun σ70 H locs eσ70 hw => ?_)
        have fr := oFr_l fr eσ70 (by decide)
        refine lv_goto (tgt := 120) hx hb dX2_layCell_46 (by decide) ?_
        rw [← hQ]
        exact o_rv cx rx hw dX2_layCell_120 ⟨fr, (by exact (by have := (i5).1; have := (i5).2; have := (iz385).1; have := (iz385).2; have := (iz66).1; have := (iz66).2; have := (i65).1; have := (i65).2; have : (σ70.1 385 a2).toInt = ((σ.1 385 a2) : Int32).toInt := congrArg Int32.toInt (show σ70.1 385 a2 = (σ.1 385 a2) from ((kp_l eσ70).trans ((kp_c p16_0 (by decide)).trans ((kp_l eσ10).trans rfl)))); have : (σ70.1 387 a2).toInt = ((σ.1 387 a2) : Int32).toInt := congrArg Int32.toInt (show σ70.1 387 a2 = (σ.1 387 a2) from ((kp_l eσ70).trans ((kp_c p16_0 (by decide)).trans ((kp_l eσ10).trans rfl)))); have : (σ70.1 66 a0).toInt = ((σ.1 66 a0) : Int32).toInt := congrArg Int32.toInt (show σ70.1 66 a0 = (σ.1 66 a0) from ((kp_l eσ70).trans ((kp_c p16_0 (by decide)).trans ((kp_l eσ10).trans rfl)))); have : (σ70.1 386 a2).toInt = ((σ15.1 386 a2) : Int32).toInt := congrArg Int32.toInt (show σ70.1 386 a2 = (σ15.1 386 a2) from ((kp_l eσ70).trans rfl)); have : (0 : Int32).toInt ≤ (a1 : Int32).toInt := iv_le.mp (iv_nlt c1); have : (a1 : Int32).toInt < (64 : Int32).toInt := iv_lt.mp c4; have : (0 : Int32).toInt = 0 := (by decide); have : (35 : Int32).toInt = 35 := (by decide); have : (64 : Int32).toInt = 64 := (by decide); omega))⟩
    · --
      have i71 : Iv a1 64 2147483647 := iv_le2 (iv_nlt c4) (⟨by decide, by decide⟩ : Iv 64 64 64) i3 (by decide)
      rw [← hQ]
      exact o_rv cx rx hw dX2_layCell_10 ⟨fr, (by exact (by have := (i71).1; have := (i71).2; have := (iz385).1; have := (iz385).2; have := (iz66).1; have := (iz66).2; have : (0 : Int32).toInt ≤ (a1 : Int32).toInt := iv_le.mp (iv_nlt c1); have : (64 : Int32).toInt ≤ (a1 : Int32).toInt := iv_le.mp (iv_nlt c4); have : (0 : Int32).toInt = 0 := (by decide); have : (64 : Int32).toInt = 64 := (by decide); omega))⟩
abbrev fs_X2_lay : List Nat := [64, 65, 66, 68, 69, 70, 327, 328, 329, 330, 331, 386, 387]
abbrev ts_X2_lay : List Nat := [32, 34]
set_option maxHeartbeats 4000000 in
set_option maxRecDepth 100000 in
theorem c_X2_lay (a0 : Nat) (ha0 : oA L τ a0 1) (a1 : Nat) (ha1 : oA L τ a1 6) (a2 : Nat) (ha2 : oA L τ a2 5) (hmd : 0 < mdM (oRw σ 384 a1) (σ.1 385 a1).toInt) : oMet l A L τ cy D K yX2_lay cX2_lay 5 none 4 89 [.ref a0, .ref a1, .ref a2] σ (va_Qv (fun σ1 => oFr τ fs_X2_lay ts_X2_lay σ σ1 ∧ (16 * (σ1.1 64 a0).toInt + (σ1.1 65 a0).toInt = mdM (oRw σ 384 a1) (σ.1 385 a1).toInt ∧ 1 ≤ (σ1.1 64 a0).toInt ∧ (σ1.1 64 a0).toInt ≤ 8 ∧ 1 ≤ (σ1.1 65 a0).toInt ∧ (σ1.1 65 a0).toInt ≤ 8)) (oPo A L τ cy D) A) := by
  refine oMk (by decide) (Nat.le_of_ble_eq_true rfl) rfl ?_
  intro p e s m args below meth c ls cx rx hA hw hl
  generalize hQ : MQ below _ args s 0 0 A = Q
  have hx := cx.1.1
  have hb := cx.1.2.1
  have hml := cx.1.2.2.1
  have hown := cx.1.2.2.2.1
  have hts := cx.1.2.2.2.2
  have hl : lv_has ls 5 [(0, .ref a0), (1, .ref a1), (2, .ref a2)] := hl
  have fr : oFr τ fs_X2_lay ts_X2_lay σ σ := oFr_rf
  have iz385 : Iv (σ.1 385 a1) (0) 80 := o_fb (j := 385) hw ha1 rfl
  refine lv_aload_n hx hb dX2_lay_0 rfl (lv_at hl 2 rfl) ?_
  refine o_cv hw (oRunV cx hA hw q_X6_clear k_m_X2_39 rfl ha2 (by decide) (As := []) (c_X6_clear a2 ha2) (by decide) rfl hl.1 rfl (Nat.le_of_ble_eq_true rfl) dX2_lay_1 (by decide)) (fun σ1 H locs hp hw => ?_)
  have p2_0 := hp
  have fr := oFr_tr fr p2_0 (by decide)
  refine lv_aload_n hx hb dX2_lay_4 rfl (lv_at hl 0 rfl) ?_
  refine lv_lconst (v := 0) hx hb dX2_lay_5 (by decide) ?_
  refine p_68 cx hw ha0 k_f_X2_44 dX2_lay_6 (fun σ3 H locs eσ3 hw => ?_)
  have fr := oFr_l fr eσ3 (by decide)
  refine lv_aload_n hx hb dX2_lay_9 rfl (lv_at hl 0 rfl) ?_
  refine lv_lconst (v := 0) hx hb dX2_lay_10 (by decide) ?_
  refine p_69 cx hw ha0 k_f_X2_48 dX2_lay_11 (fun σ4 H locs eσ4 hw => ?_)
  have fr := oFr_l fr eσ4 (by decide)
  refine lv_aload_n hx hb dX2_lay_14 rfl (lv_at hl 0 rfl) ?_
  refine lv_lconst (v := 0) hx hb dX2_lay_15 (by decide) ?_
  refine p_70 cx hw ha0 k_f_X2_51 dX2_lay_16 (fun σ5 H locs eσ5 hw => ?_)
  have fr := oFr_l fr eσ5 (by decide)
  refine lv_aload_n hx hb dX2_lay_19 rfl (lv_at hl 0 rfl) ?_
  refine lv_iconst (v := 0) hx hb dX2_lay_20 (by decide) ?_
  refine p_66 cx hw ha0 (iv_w (⟨by decide, by decide⟩ : Iv 0 0 0) (by decide)) k_f_X2_54 dX2_lay_21 (fun σ6 H locs eσ6 hw => ?_)
  have fr := oFr_i fr eσ6 (by decide)
  refine lv_aload_n hx hb dX2_lay_24 rfl (lv_at hl 0 rfl) ?_
  refine lv_iconst (v := 0) hx hb dX2_lay_25 (by decide) ?_
  refine p_64 cx hw ha0 k_f_X2_58 dX2_lay_26 (fun σ7 H locs eσ7 hw => ?_)
  have fr := oFr_i fr eσ7 (by decide)
  refine lv_aload_n hx hb dX2_lay_29 rfl (lv_at hl 0 rfl) ?_
  refine lv_iconst (v := 1) hx hb dX2_lay_30 (by decide) ?_
  refine p_65 cx hw ha0 k_f_X2_61 dX2_lay_31 (fun σ8 H locs eσ8 hw => ?_)
  have fr := oFr_i fr eσ8 (by decide)
  refine lv_iconst (v := 0) hx hb dX2_lay_34 (by decide) ?_
  refine lv_istore_n (lv' := [(3, .int 0), (0, .ref a0), (1, .ref a1), (2, .ref a2)]) hx hb dX2_lay_35 rfl hl (by decide) rfl (fun ls hl => ?_)
  refine lv_aload_n hx hb dX2_lay_36 rfl (lv_at hl 2 rfl) ?_
  refine lv_bipush (v := 76) hx hb dX2_lay_37 (by decide) ?_
  refine o_cv hw (oRunV cx hA hw q_X7_begin k_m_X2_15 rfl ha1 (by decide) (As := [.int 76]) (c_X7_begin a1 ha1 76) (by decide) rfl hl.1 rfl (Nat.le_of_ble_eq_true rfl) dX2_lay_39 (by decide)) (fun σ9 H locs hp hw => ?_)
  obtain ⟨p10_0, p10_1⟩ := hp
  have fr := oFr_tr fr p10_0 (by decide)
  refine lv_iconst (v := 0) hx hb dX2_lay_42 (by decide) ?_
  refine lv_istore (lv' := [(4, .int 0), (3, .int 0), (0, .ref a0), (1, .ref a1), (2, .ref a2)]) hx hb dX2_lay_43 hl (by decide) rfl (fun ls hl => ?_)
  have frE_45 := fr
  have J_45 : ∀ n45 : Nat, ∀ (j45_3 : Int32) (ij45_3 : Iv j45_3 0 8) (j45_4 : Int32) (ij45_4 : Iv j45_4 0 76), ∀ (σ_45 : oSt) (H : Heap) (locs : List Loc), oI A L τ cy D s.heap σ_45 H locs → oFr τ fs_X2_lay ts_X2_lay σ σ_45 → Iv (σ_45.1 64 a0) 0 8 → Iv (σ_45.1 65 a0) 1 9 → Iv (σ_45.1 66 a0) 0 6 → Iv (σ_45.1 386 a1) (-2147483648) 2147483647 → Iv (σ_45.1 387 a1) (-2147483648) 2147483647 → (76 - j45_4.toInt).toNat < n45 → (mdH (oRw σ 384 a1) (σ.1 385 a1).toInt (mdM (oRw σ 384 a1) (σ.1 385 a1).toInt) (j45_4 : Int32).toInt (j45_3 : Int32).toInt ((σ_45.1 65 a0).toInt - 1) (σ_45.1 64 a0).toInt (σ_45.1 66 a0).toInt) → ((σ_45.1 386 a1).toInt = (j45_4 : Int32).toInt) → ((σ_45.1 387 a1).toInt = 76) → (1 ≤ (σ_45.1 65 a0).toInt ∧ (σ_45.1 65 a0).toInt ≤ 8 ∧ 0 ≤ (j45_3 : Int32).toInt ∧ (j45_3 : Int32).toInt ≤ 8) → (((σ_45.1 65 a0).toInt = 1 ∧ (σ_45.1 64 a0).toInt = (j45_3 : Int32).toInt) ∨ ((σ_45.1 65 a0).toInt ≠ 1 ∧ (j45_3 : Int32).toInt ≤ (σ_45.1 64 a0).toInt ∧ 1 ≤ (σ_45.1 64 a0).toInt ∧ (σ_45.1 64 a0).toInt ≤ 8)) → ∀ (ls : Array Slot), lv_has ls 5 [(0, .ref a0), (1, .ref a1), (2, .ref a2), (3, .int j45_3), (4, .int j45_4)] → W p l e ({ frames := 4, cells := 0, slots := 0, locals := 89 } : Room) s m args below meth c H locs 0 0 Q (F0 m 45 ls []) := by
    intro n45
    induction n45 with
    | zero => intro j45_3 ij45_3 j45_4 ij45_4 σ_45 H locs hw fr f45_64_a0 f45_65_a0 f45_66_a0 f45_386_a1 f45_387_a1  hn_45 gh q386_45 q387_45 q3 q4  ls hl; exact absurd hn_45 (Nat.not_lt_zero _)
    | succ n45 ih_45 =>
      intro j45_3 ij45_3 j45_4 ij45_4 σ_45 H locs hw fr f45_64_a0 f45_65_a0 f45_66_a0 f45_386_a1 f45_387_a1  hn_45 gh q386_45 q387_45 q3 q4  ls hl
      have fr_45 := fr
      refine lv_iload hx hb dX2_lay_45 (lv_at hl 4 rfl) ?_
      refine lv_bipush (v := 76) hx hb dX2_lay_47 (by decide) ?_
      refine lv_icmp_ge (tgt := 121) hx hb dX2_lay_49 (by decide) (fun c11 => ?_) (fun c11 => ?_)
      · --
        have i12 : Iv j45_4 76 76 := iv_le2 c11 (⟨by decide, by decide⟩ : Iv 76 76 76) ij45_4 (by decide)
        rw [← hQ]
        exact o_rv cx rx hw dX2_lay_121 ⟨fr, (by have q9 := mh_lend gh hmd (by have := (ij45_3).1; have := (ij45_3).2; have := (i12).1; have := (i12).2; have := (iz385).1; have := (iz385).2; have := (f45_66_a0).1; have := (f45_66_a0).2; have := (f45_64_a0).1; have := (f45_64_a0).2; have := (f45_65_a0).1; have := (f45_65_a0).2; have := (f45_386_a1).1; have := (f45_386_a1).2; have := (f45_387_a1).1; have := (f45_387_a1).2; have : (σ_45.1 385 a1).toInt = ((σ.1 385 a1) : Int32).toInt := congrArg Int32.toInt (show σ_45.1 385 a1 = (σ.1 385 a1) from ((kp_c fr_45 (by decide)).trans ((kp_c frE_45 (by decide)).symm.trans (((kp_c p10_0 (by decide)).trans ((kp_i eσ8 (by decide)).trans ((kp_i eσ7 (by decide)).trans ((kp_i eσ6 (by decide)).trans ((kp_l eσ5).trans ((kp_l eσ4).trans ((kp_l eσ3).trans ((kp_c p2_0 (by decide)).trans rfl)))))))))))); have : (76 : Int32).toInt ≤ (j45_4 : Int32).toInt := iv_le.mp c11; have : (76 : Int32).toInt = 76 := (by decide); omega) (by have := (ij45_3).1; have := (ij45_3).2; have := (i12).1; have := (i12).2; have := (iz385).1; have := (iz385).2; have := (f45_66_a0).1; have := (f45_66_a0).2; have := (f45_64_a0).1; have := (f45_64_a0).2; have := (f45_65_a0).1; have := (f45_65_a0).2; have := (f45_386_a1).1; have := (f45_386_a1).2; have := (f45_387_a1).1; have := (f45_387_a1).2; have : (σ_45.1 385 a1).toInt = ((σ.1 385 a1) : Int32).toInt := congrArg Int32.toInt (show σ_45.1 385 a1 = (σ.1 385 a1) from ((kp_c fr_45 (by decide)).trans ((kp_c frE_45 (by decide)).symm.trans (((kp_c p10_0 (by decide)).trans ((kp_i eσ8 (by decide)).trans ((kp_i eσ7 (by decide)).trans ((kp_i eσ6 (by decide)).trans ((kp_l eσ5).trans ((kp_l eσ4).trans ((kp_l eσ3).trans ((kp_c p2_0 (by decide)).trans rfl)))))))))))); have : (76 : Int32).toInt ≤ (j45_4 : Int32).toInt := iv_le.mp c11; have : (76 : Int32).toInt = 76 := (by decide); omega); exact (by have := (ij45_3).1; have := (ij45_3).2; have := (i12).1; have := (i12).2; have := (iz385).1; have := (iz385).2; have := (f45_66_a0).1; have := (f45_66_a0).2; have := (f45_64_a0).1; have := (f45_64_a0).2; have := (f45_65_a0).1; have := (f45_65_a0).2; have := (f45_386_a1).1; have := (f45_386_a1).2; have := (f45_387_a1).1; have := (f45_387_a1).2; have : (σ_45.1 385 a1).toInt = ((σ.1 385 a1) : Int32).toInt := congrArg Int32.toInt (show σ_45.1 385 a1 = (σ.1 385 a1) from ((kp_c fr_45 (by decide)).trans ((kp_c frE_45 (by decide)).symm.trans (((kp_c p10_0 (by decide)).trans ((kp_i eσ8 (by decide)).trans ((kp_i eσ7 (by decide)).trans ((kp_i eσ6 (by decide)).trans ((kp_l eσ5).trans ((kp_l eσ4).trans ((kp_l eσ3).trans ((kp_c p2_0 (by decide)).trans rfl)))))))))))); have : (76 : Int32).toInt ≤ (j45_4 : Int32).toInt := iv_le.mp c11; have : (76 : Int32).toInt = 76 := (by decide); omega))⟩
      · --
        have i13 : Iv j45_4 0 75 := iv_lt1 (iv_nle c11) ij45_4 (⟨by decide, by decide⟩ : Iv 76 76 76) (by decide)
        have i14 : Iv (σ_45.1 65 a0) 1 8 := (by have := (ij45_3).1; have := (ij45_3).2; have := (i13).1; have := (i13).2; have := (iz385).1; have := (iz385).2; have := (f45_66_a0).1; have := (f45_66_a0).2; have := (f45_64_a0).1; have := (f45_64_a0).2; have := (f45_65_a0).1; have := (f45_65_a0).2; have := (f45_386_a1).1; have := (f45_386_a1).2; have := (f45_387_a1).1; have := (f45_387_a1).2; have : (σ_45.1 385 a1).toInt = ((σ.1 385 a1) : Int32).toInt := congrArg Int32.toInt (show σ_45.1 385 a1 = (σ.1 385 a1) from ((kp_c fr_45 (by decide)).trans ((kp_c frE_45 (by decide)).symm.trans (((kp_c p10_0 (by decide)).trans ((kp_i eσ8 (by decide)).trans ((kp_i eσ7 (by decide)).trans ((kp_i eσ6 (by decide)).trans ((kp_l eσ5).trans ((kp_l eσ4).trans ((kp_l eσ3).trans ((kp_c p2_0 (by decide)).trans rfl)))))))))))); have : (j45_4 : Int32).toInt < (76 : Int32).toInt := iv_lt.mp (iv_nle c11); have : (76 : Int32).toInt = 76 := (by decide); exact ⟨by omega, by omega⟩)
        refine lv_aload_n hx hb dX2_lay_52 rfl (lv_at hl 1 rfl) ?_
        have z15 : (σ_45.1 385 a1).toInt = ((σ.1 385 a1) : Int32).toInt := congrArg Int32.toInt (show σ_45.1 385 a1 = (σ.1 385 a1) from ((kp_c fr_45 (by decide)).trans ((kp_c frE_45 (by decide)).symm.trans (((kp_c p10_0 (by decide)).trans ((kp_i eσ8 (by decide)).trans ((kp_i eσ7 (by decide)).trans ((kp_i eσ6 (by decide)).trans ((kp_l eσ5).trans ((kp_l eσ4).trans ((kp_l eσ3).trans ((kp_c p2_0 (by decide)).trans rfl))))))))))))
        have tq16 : tC (oRw σ_45 384 a1) (σ_45.1 385 a1).toInt (σ_45.1 387 a1).toInt (σ_45.1 386 a1).toInt = tC (oRw σ 384 a1) (σ.1 385 a1).toInt 76 (j45_4 : Int32).toInt := by rw [show oRw σ_45 384 a1 = oRw σ 384 a1 from oRw_fr hw ha1 rfl fr (by decide), show (σ_45.1 385 a1).toInt = (σ.1 385 a1).toInt from congrArg Int32.toInt (kp_c fr (by decide)), show (σ_45.1 387 a1).toInt = 76 from (by have := (ij45_3).1; have := (ij45_3).2; have := (i13).1; have := (i13).2; have := (iz385).1; have := (iz385).2; have := (f45_66_a0).1; have := (f45_66_a0).2; have := (f45_64_a0).1; have := (f45_64_a0).2; have := (i14).1; have := (i14).2; have := (f45_386_a1).1; have := (f45_386_a1).2; have := (f45_387_a1).1; have := (f45_387_a1).2; have : (σ_45.1 385 a1).toInt = ((σ.1 385 a1) : Int32).toInt := congrArg Int32.toInt (show σ_45.1 385 a1 = (σ.1 385 a1) from ((kp_c fr_45 (by decide)).trans ((kp_c frE_45 (by decide)).symm.trans (((kp_c p10_0 (by decide)).trans ((kp_i eσ8 (by decide)).trans ((kp_i eσ7 (by decide)).trans ((kp_i eσ6 (by decide)).trans ((kp_l eσ5).trans ((kp_l eσ4).trans ((kp_l eσ3).trans ((kp_c p2_0 (by decide)).trans rfl)))))))))))); have : (j45_4 : Int32).toInt < (76 : Int32).toInt := iv_lt.mp (iv_nle c11); have : (76 : Int32).toInt = 76 := (by decide); omega), show (σ_45.1 386 a1).toInt = (j45_4 : Int32).toInt from (by have := (ij45_3).1; have := (ij45_3).2; have := (i13).1; have := (i13).2; have := (iz385).1; have := (iz385).2; have := (f45_66_a0).1; have := (f45_66_a0).2; have := (f45_64_a0).1; have := (f45_64_a0).2; have := (i14).1; have := (i14).2; have := (f45_386_a1).1; have := (f45_386_a1).2; have := (f45_387_a1).1; have := (f45_387_a1).2; have : (σ_45.1 385 a1).toInt = ((σ.1 385 a1) : Int32).toInt := congrArg Int32.toInt (show σ_45.1 385 a1 = (σ.1 385 a1) from ((kp_c fr_45 (by decide)).trans ((kp_c frE_45 (by decide)).symm.trans (((kp_c p10_0 (by decide)).trans ((kp_i eσ8 (by decide)).trans ((kp_i eσ7 (by decide)).trans ((kp_i eσ6 (by decide)).trans ((kp_l eσ5).trans ((kp_l eσ4).trans ((kp_l eσ3).trans ((kp_c p2_0 (by decide)).trans rfl)))))))))))); have : (j45_4 : Int32).toInt < (76 : Int32).toInt := iv_lt.mp (iv_nle c11); have : (76 : Int32).toInt = 76 := (by decide); omega)]
        refine o_ci hw (oRunV cx hA hw q_X7_isAtEnd k_m_X2_21 rfl ha1 (by decide) (As := []) (c_X7_isAtEnd a1 ha1) (by decide) rfl hl.1 rfl (Nat.le_of_ble_eq_true rfl) dX2_lay_53 (by decide)) (fun v18 σ17 H locs hp hw => ?_)
        obtain ⟨p18_0, p18_1, p18_2⟩ := hp
        rw [p18_0] at hw
        refine lv_if_ne (tgt := 121) hx hb dX2_lay_56 (by decide) (fun c19 => ?_) (fun c19 => ?_)
        · --
          have i20 : Iv v18 1 1 := iv_ne1 c19 p18_1 (⟨by decide, by decide⟩ : Iv 0 0 0) (by decide)
          rw [← hQ]
          exact o_rv cx rx hw dX2_lay_121 ⟨fr, (by have q9 := mh_lend gh hmd (by have := (ij45_3).1; have := (ij45_3).2; have := (i13).1; have := (i13).2; have := (iz385).1; have := (iz385).2; have := (f45_66_a0).1; have := (f45_66_a0).2; have := (f45_64_a0).1; have := (f45_64_a0).2; have := (i14).1; have := (i14).2; have := (f45_386_a1).1; have := (f45_386_a1).2; have := (f45_387_a1).1; have := (f45_387_a1).2; have := (i20).1; have := (i20).2; have : (σ_45.1 385 a1).toInt = ((σ.1 385 a1) : Int32).toInt := congrArg Int32.toInt (show σ_45.1 385 a1 = (σ.1 385 a1) from ((kp_c fr_45 (by decide)).trans ((kp_c frE_45 (by decide)).symm.trans (((kp_c p10_0 (by decide)).trans ((kp_i eσ8 (by decide)).trans ((kp_i eσ7 (by decide)).trans ((kp_i eσ6 (by decide)).trans ((kp_l eσ5).trans ((kp_l eσ4).trans ((kp_l eσ3).trans ((kp_c p2_0 (by decide)).trans rfl)))))))))))); have : (j45_4 : Int32).toInt < (76 : Int32).toInt := iv_lt.mp (iv_nle c11); have : (76 : Int32).toInt = 76 := (by decide); omega) (by have := (ij45_3).1; have := (ij45_3).2; have := (i13).1; have := (i13).2; have := (iz385).1; have := (iz385).2; have := (f45_66_a0).1; have := (f45_66_a0).2; have := (f45_64_a0).1; have := (f45_64_a0).2; have := (i14).1; have := (i14).2; have := (f45_386_a1).1; have := (f45_386_a1).2; have := (f45_387_a1).1; have := (f45_387_a1).2; have := (i20).1; have := (i20).2; have : (σ_45.1 385 a1).toInt = ((σ.1 385 a1) : Int32).toInt := congrArg Int32.toInt (show σ_45.1 385 a1 = (σ.1 385 a1) from ((kp_c fr_45 (by decide)).trans ((kp_c frE_45 (by decide)).symm.trans (((kp_c p10_0 (by decide)).trans ((kp_i eσ8 (by decide)).trans ((kp_i eσ7 (by decide)).trans ((kp_i eσ6 (by decide)).trans ((kp_l eσ5).trans ((kp_l eσ4).trans ((kp_l eσ3).trans ((kp_c p2_0 (by decide)).trans rfl)))))))))))); have : (j45_4 : Int32).toInt < (76 : Int32).toInt := iv_lt.mp (iv_nle c11); have : (76 : Int32).toInt = 76 := (by decide); omega); exact (by have := (ij45_3).1; have := (ij45_3).2; have := (i13).1; have := (i13).2; have := (iz385).1; have := (iz385).2; have := (f45_66_a0).1; have := (f45_66_a0).2; have := (f45_64_a0).1; have := (f45_64_a0).2; have := (i14).1; have := (i14).2; have := (f45_386_a1).1; have := (f45_386_a1).2; have := (f45_387_a1).1; have := (f45_387_a1).2; have := (i20).1; have := (i20).2; have : (σ_45.1 385 a1).toInt = ((σ.1 385 a1) : Int32).toInt := congrArg Int32.toInt (show σ_45.1 385 a1 = (σ.1 385 a1) from ((kp_c fr_45 (by decide)).trans ((kp_c frE_45 (by decide)).symm.trans (((kp_c p10_0 (by decide)).trans ((kp_i eσ8 (by decide)).trans ((kp_i eσ7 (by decide)).trans ((kp_i eσ6 (by decide)).trans ((kp_l eσ5).trans ((kp_l eσ4).trans ((kp_l eσ3).trans ((kp_c p2_0 (by decide)).trans rfl)))))))))))); have : (j45_4 : Int32).toInt < (76 : Int32).toInt := iv_lt.mp (iv_nle c11); have : (76 : Int32).toInt = 76 := (by decide); omega))⟩
        · --
          have i21 : Iv v18 0 0 := iv_eq1 c19 p18_1 (⟨by decide, by decide⟩ : Iv 0 0 0) (by decide)
          refine lv_aload_n hx hb dX2_lay_59 rfl (lv_at hl 1 rfl) ?_
          refine lv_bipush (v := 47) hx hb dX2_lay_60 (by decide) ?_
          have z22 : (σ_45.1 385 a1).toInt = ((σ.1 385 a1) : Int32).toInt := congrArg Int32.toInt (show σ_45.1 385 a1 = (σ.1 385 a1) from ((kp_c fr_45 (by decide)).trans ((kp_c frE_45 (by decide)).symm.trans (((kp_c p10_0 (by decide)).trans ((kp_i eσ8 (by decide)).trans ((kp_i eσ7 (by decide)).trans ((kp_i eσ6 (by decide)).trans ((kp_l eσ5).trans ((kp_l eσ4).trans ((kp_l eσ3).trans ((kp_c p2_0 (by decide)).trans rfl))))))))))))
          have tq23 : tC (oRw σ_45 384 a1) (σ_45.1 385 a1).toInt (σ_45.1 387 a1).toInt (σ_45.1 386 a1).toInt = tC (oRw σ 384 a1) (σ.1 385 a1).toInt 76 (j45_4 : Int32).toInt := by rw [show oRw σ_45 384 a1 = oRw σ 384 a1 from oRw_fr hw ha1 rfl fr (by decide), show (σ_45.1 385 a1).toInt = (σ.1 385 a1).toInt from congrArg Int32.toInt (kp_c fr (by decide)), show (σ_45.1 387 a1).toInt = 76 from (by have := (ij45_3).1; have := (ij45_3).2; have := (i13).1; have := (i13).2; have := (iz385).1; have := (iz385).2; have := (f45_66_a0).1; have := (f45_66_a0).2; have := (f45_64_a0).1; have := (f45_64_a0).2; have := (i14).1; have := (i14).2; have := (f45_386_a1).1; have := (f45_386_a1).2; have := (f45_387_a1).1; have := (f45_387_a1).2; have := (i21).1; have := (i21).2; have : (σ_45.1 385 a1).toInt = ((σ.1 385 a1) : Int32).toInt := congrArg Int32.toInt (show σ_45.1 385 a1 = (σ.1 385 a1) from ((kp_c fr_45 (by decide)).trans ((kp_c frE_45 (by decide)).symm.trans (((kp_c p10_0 (by decide)).trans ((kp_i eσ8 (by decide)).trans ((kp_i eσ7 (by decide)).trans ((kp_i eσ6 (by decide)).trans ((kp_l eσ5).trans ((kp_l eσ4).trans ((kp_l eσ3).trans ((kp_c p2_0 (by decide)).trans rfl)))))))))))); have : (j45_4 : Int32).toInt < (76 : Int32).toInt := iv_lt.mp (iv_nle c11); have : (v18 : Int32).toInt = (0 : Int32).toInt := congrArg Int32.toInt c19; have : (0 : Int32).toInt = 0 := (by decide); have : (47 : Int32).toInt = 47 := (by decide); have : (76 : Int32).toInt = 76 := (by decide); omega), show (σ_45.1 386 a1).toInt = (j45_4 : Int32).toInt from (by have := (ij45_3).1; have := (ij45_3).2; have := (i13).1; have := (i13).2; have := (iz385).1; have := (iz385).2; have := (f45_66_a0).1; have := (f45_66_a0).2; have := (f45_64_a0).1; have := (f45_64_a0).2; have := (i14).1; have := (i14).2; have := (f45_386_a1).1; have := (f45_386_a1).2; have := (f45_387_a1).1; have := (f45_387_a1).2; have := (i21).1; have := (i21).2; have : (σ_45.1 385 a1).toInt = ((σ.1 385 a1) : Int32).toInt := congrArg Int32.toInt (show σ_45.1 385 a1 = (σ.1 385 a1) from ((kp_c fr_45 (by decide)).trans ((kp_c frE_45 (by decide)).symm.trans (((kp_c p10_0 (by decide)).trans ((kp_i eσ8 (by decide)).trans ((kp_i eσ7 (by decide)).trans ((kp_i eσ6 (by decide)).trans ((kp_l eσ5).trans ((kp_l eσ4).trans ((kp_l eσ3).trans ((kp_c p2_0 (by decide)).trans rfl)))))))))))); have : (j45_4 : Int32).toInt < (76 : Int32).toInt := iv_lt.mp (iv_nle c11); have : (v18 : Int32).toInt = (0 : Int32).toInt := congrArg Int32.toInt c19; have : (0 : Int32).toInt = 0 := (by decide); have : (47 : Int32).toInt = 47 := (by decide); have : (76 : Int32).toInt = 76 := (by decide); omega)]
          refine o_ci hw (oRunV cx hA hw q_X7_take k_m_X2_25 rfl ha1 (by decide) (As := [.int 47]) (c_X7_take a1 ha1 47 (iv_w (⟨by decide, by decide⟩ : Iv 47 47 47) (by decide))) (by decide) rfl hl.1 rfl (Nat.le_of_ble_eq_true rfl) dX2_lay_62 (by decide)) (fun v25 σ24 H locs hp hw => ?_)
          obtain ⟨p25_0, p25_1, p25_2⟩ := hp
          have fr := oFr_tr fr p25_0 (by decide)
          refine lv_if_eq (tgt := 83) hx hb dX2_lay_65 (by decide) (fun c26 => ?_) (fun c26 => ?_)
          · --
            have i27 : Iv v25 0 0 := iv_eq1 c26 p25_1 (⟨by decide, by decide⟩ : Iv 0 0 0) (by decide)
            obtain ⟨lc1, lc2⟩ := mh_lcell gh hmd (by have := (ij45_3).1; have := (ij45_3).2; have := (i13).1; have := (i13).2; have := (iz385).1; have := (iz385).2; have := (f45_66_a0).1; have := (f45_66_a0).2; have := (f45_64_a0).1; have := (f45_64_a0).2; have := (i14).1; have := (i14).2; have := (f45_387_a1).1; have := (f45_387_a1).2; have := (i21).1; have := (i21).2; have := (i27).1; have := (i27).2; have : (σ24.1 385 a1).toInt = ((σ.1 385 a1) : Int32).toInt := congrArg Int32.toInt (show σ24.1 385 a1 = (σ.1 385 a1) from ((kp_c p25_0 (by decide)).trans ((kp_c fr_45 (by decide)).trans ((kp_c frE_45 (by decide)).symm.trans (((kp_c p10_0 (by decide)).trans ((kp_i eσ8 (by decide)).trans ((kp_i eσ7 (by decide)).trans ((kp_i eσ6 (by decide)).trans ((kp_l eσ5).trans ((kp_l eσ4).trans ((kp_l eσ3).trans ((kp_c p2_0 (by decide)).trans rfl))))))))))))); have : (σ24.1 66 a0).toInt = ((σ_45.1 66 a0) : Int32).toInt := congrArg Int32.toInt (show σ24.1 66 a0 = (σ_45.1 66 a0) from ((kp_c p25_0 (by decide)).trans rfl)); have : (σ24.1 64 a0).toInt = ((σ_45.1 64 a0) : Int32).toInt := congrArg Int32.toInt (show σ24.1 64 a0 = (σ_45.1 64 a0) from ((kp_c p25_0 (by decide)).trans rfl)); have : (σ24.1 65 a0).toInt = ((σ_45.1 65 a0) : Int32).toInt := congrArg Int32.toInt (show σ24.1 65 a0 = (σ_45.1 65 a0) from ((kp_c p25_0 (by decide)).trans rfl)); have : (σ24.1 387 a1).toInt = ((σ_45.1 387 a1) : Int32).toInt := congrArg Int32.toInt (show σ24.1 387 a1 = (σ_45.1 387 a1) from ((kp_c p25_0 (by decide)).trans rfl)); have : (j45_4 : Int32).toInt < (76 : Int32).toInt := iv_lt.mp (iv_nle c11); have : (v18 : Int32).toInt = (0 : Int32).toInt := congrArg Int32.toInt c19; have : (v25 : Int32).toInt = (0 : Int32).toInt := congrArg Int32.toInt c26; have : (0 : Int32).toInt = 0 := (by decide); have : (47 : Int32).toInt = 47 := (by decide); have : (76 : Int32).toInt = 76 := (by decide); omega) (by have := (ij45_3).1; have := (ij45_3).2; have := (i13).1; have := (i13).2; have := (iz385).1; have := (iz385).2; have := (f45_66_a0).1; have := (f45_66_a0).2; have := (f45_64_a0).1; have := (f45_64_a0).2; have := (i14).1; have := (i14).2; have := (f45_387_a1).1; have := (f45_387_a1).2; have := (i21).1; have := (i21).2; have := (i27).1; have := (i27).2; have : (σ24.1 385 a1).toInt = ((σ.1 385 a1) : Int32).toInt := congrArg Int32.toInt (show σ24.1 385 a1 = (σ.1 385 a1) from ((kp_c p25_0 (by decide)).trans ((kp_c fr_45 (by decide)).trans ((kp_c frE_45 (by decide)).symm.trans (((kp_c p10_0 (by decide)).trans ((kp_i eσ8 (by decide)).trans ((kp_i eσ7 (by decide)).trans ((kp_i eσ6 (by decide)).trans ((kp_l eσ5).trans ((kp_l eσ4).trans ((kp_l eσ3).trans ((kp_c p2_0 (by decide)).trans rfl))))))))))))); have : (σ24.1 66 a0).toInt = ((σ_45.1 66 a0) : Int32).toInt := congrArg Int32.toInt (show σ24.1 66 a0 = (σ_45.1 66 a0) from ((kp_c p25_0 (by decide)).trans rfl)); have : (σ24.1 64 a0).toInt = ((σ_45.1 64 a0) : Int32).toInt := congrArg Int32.toInt (show σ24.1 64 a0 = (σ_45.1 64 a0) from ((kp_c p25_0 (by decide)).trans rfl)); have : (σ24.1 65 a0).toInt = ((σ_45.1 65 a0) : Int32).toInt := congrArg Int32.toInt (show σ24.1 65 a0 = (σ_45.1 65 a0) from ((kp_c p25_0 (by decide)).trans rfl)); have : (σ24.1 387 a1).toInt = ((σ_45.1 387 a1) : Int32).toInt := congrArg Int32.toInt (show σ24.1 387 a1 = (σ_45.1 387 a1) from ((kp_c p25_0 (by decide)).trans rfl)); have : (j45_4 : Int32).toInt < (76 : Int32).toInt := iv_lt.mp (iv_nle c11); have : (v18 : Int32).toInt = (0 : Int32).toInt := congrArg Int32.toInt c19; have : (v25 : Int32).toInt = (0 : Int32).toInt := congrArg Int32.toInt c26; have : (0 : Int32).toInt = 0 := (by decide); have : (47 : Int32).toInt = 47 := (by decide); have : (76 : Int32).toInt = 76 := (by decide); omega)
            refine lv_aload_n hx hb dX2_lay_83 rfl (lv_at hl 0 rfl) ?_
            refine lv_bipush (v := 8) hx hb dX2_lay_84 (by decide) ?_
            refine lv_aload_n hx hb dX2_lay_86 rfl (lv_at hl 0 rfl) ?_
            refine g_65 cx hw ha0 k_f_X2_61 dX2_lay_87 (fun v28 e28 => ?_)
            rw [show v28 = (σ_45.1 65 a0) from e28.trans ((kp_c p25_0 (by decide)).trans rfl)]
            refine lv_iconst (v := 1) hx hb dX2_lay_90 (by decide) ?_
            refine lv_isub hx hb dX2_lay_91 ?_
            refine lv_topi (fun v29 e29 => ?_)
            have i29 : Iv v29 0 7 := iv_sub e29 i14 (⟨by decide, by decide⟩ : Iv 1 1 1) (by decide)
            have x29 : v29.toInt = (σ_45.1 65 a0).toInt + (-1) := ex_sub e29 i14 (⟨by decide, by decide⟩ : Iv 1 1 1) (by decide)
            refine lv_imul hx hb dX2_lay_92 ?_
            refine lv_topi (fun v30 e30 => ?_)
            have i30 : Iv v30 0 56 := iv_mul e30 (⟨by decide, by decide⟩ : Iv 8 8 8) i29 (by decide)
            have i31 : Iv j45_3 0 7 := (by have := (ij45_3).1; have := (ij45_3).2; have := (i13).1; have := (i13).2; have := (i30).1; have := (i30).2; have := (iz385).1; have := (iz385).2; have := (f45_66_a0).1; have := (f45_66_a0).2; have := (f45_64_a0).1; have := (f45_64_a0).2; have := (i14).1; have := (i14).2; have := (f45_387_a1).1; have := (f45_387_a1).2; have := (i21).1; have := (i21).2; have := (i27).1; have := (i27).2; have := (i29).1; have := (i29).2; have : (σ24.1 385 a1).toInt = ((σ.1 385 a1) : Int32).toInt := congrArg Int32.toInt (show σ24.1 385 a1 = (σ.1 385 a1) from ((kp_c p25_0 (by decide)).trans ((kp_c fr_45 (by decide)).trans ((kp_c frE_45 (by decide)).symm.trans (((kp_c p10_0 (by decide)).trans ((kp_i eσ8 (by decide)).trans ((kp_i eσ7 (by decide)).trans ((kp_i eσ6 (by decide)).trans ((kp_l eσ5).trans ((kp_l eσ4).trans ((kp_l eσ3).trans ((kp_c p2_0 (by decide)).trans rfl))))))))))))); have : (σ24.1 66 a0).toInt = ((σ_45.1 66 a0) : Int32).toInt := congrArg Int32.toInt (show σ24.1 66 a0 = (σ_45.1 66 a0) from ((kp_c p25_0 (by decide)).trans rfl)); have : (σ24.1 64 a0).toInt = ((σ_45.1 64 a0) : Int32).toInt := congrArg Int32.toInt (show σ24.1 64 a0 = (σ_45.1 64 a0) from ((kp_c p25_0 (by decide)).trans rfl)); have : (σ24.1 65 a0).toInt = ((σ_45.1 65 a0) : Int32).toInt := congrArg Int32.toInt (show σ24.1 65 a0 = (σ_45.1 65 a0) from ((kp_c p25_0 (by decide)).trans rfl)); have : (σ24.1 387 a1).toInt = ((σ_45.1 387 a1) : Int32).toInt := congrArg Int32.toInt (show σ24.1 387 a1 = (σ_45.1 387 a1) from ((kp_c p25_0 (by decide)).trans rfl)); have : (j45_4 : Int32).toInt < (76 : Int32).toInt := iv_lt.mp (iv_nle c11); have : (v18 : Int32).toInt = (0 : Int32).toInt := congrArg Int32.toInt c19; have : (v25 : Int32).toInt = (0 : Int32).toInt := congrArg Int32.toInt c26; have : (0 : Int32).toInt = 0 := (by decide); have : (47 : Int32).toInt = 47 := (by decide); have : (76 : Int32).toInt = 76 := (by decide); exact ⟨by omega, by omega⟩)
            refine lv_iload_n hx hb dX2_lay_93 rfl (lv_at hl 3 rfl) ?_
            refine lv_iadd hx hb dX2_lay_94 ?_
            refine lv_topi (fun v32 e32 => ?_)
            have i32 : Iv v32 0 63 := iv_add e32 i30 i31 (by decide)
            have x32 : v32.toInt = v30.toInt + j45_3.toInt := ex_add e32 i30 i31 (by decide)
            refine lv_aload_n hx hb dX2_lay_95 rfl (lv_at hl 1 rfl) ?_
            refine lv_aload_n hx hb dX2_lay_96 rfl (lv_at hl 2 rfl) ?_
            have z33 : (σ24.1 66 a0).toInt = ((σ_45.1 66 a0) : Int32).toInt := congrArg Int32.toInt (show σ24.1 66 a0 = (σ_45.1 66 a0) from ((kp_c p25_0 (by decide)).trans rfl))
            have z34 : (σ24.1 385 a1).toInt = ((σ.1 385 a1) : Int32).toInt := congrArg Int32.toInt (show σ24.1 385 a1 = (σ.1 385 a1) from ((kp_c p25_0 (by decide)).trans ((kp_c fr_45 (by decide)).trans ((kp_c frE_45 (by decide)).symm.trans (((kp_c p10_0 (by decide)).trans ((kp_i eσ8 (by decide)).trans ((kp_i eσ7 (by decide)).trans ((kp_i eσ6 (by decide)).trans ((kp_l eσ5).trans ((kp_l eσ4).trans ((kp_l eσ3).trans ((kp_c p2_0 (by decide)).trans rfl)))))))))))))
            have z35 : (σ24.1 387 a1).toInt = ((σ_45.1 387 a1) : Int32).toInt := congrArg Int32.toInt (show σ24.1 387 a1 = (σ_45.1 387 a1) from ((kp_c p25_0 (by decide)).trans rfl))
            have tq36 : tC (oRw σ24 384 a1) (σ24.1 385 a1).toInt (σ24.1 387 a1).toInt (σ24.1 386 a1).toInt = tC (oRw σ 384 a1) (σ.1 385 a1).toInt 76 (j45_4 : Int32).toInt := by rw [show oRw σ24 384 a1 = oRw σ 384 a1 from oRw_fr hw ha1 rfl fr (by decide), show (σ24.1 385 a1).toInt = (σ.1 385 a1).toInt from congrArg Int32.toInt (kp_c fr (by decide)), show (σ24.1 387 a1).toInt = 76 from (by have := (i31).1; have := (i31).2; have := (i13).1; have := (i13).2; have := (iz385).1; have := (iz385).2; have := (f45_66_a0).1; have := (f45_66_a0).2; have := (f45_64_a0).1; have := (f45_64_a0).2; have := (i14).1; have := (i14).2; have := (f45_387_a1).1; have := (f45_387_a1).2; have := (i21).1; have := (i21).2; have := (i27).1; have := (i27).2; have := (i29).1; have := (i29).2; have := (i30).1; have := (i30).2; have := (i32).1; have := (i32).2; have : (σ24.1 385 a1).toInt = ((σ.1 385 a1) : Int32).toInt := congrArg Int32.toInt (show σ24.1 385 a1 = (σ.1 385 a1) from ((kp_c p25_0 (by decide)).trans ((kp_c fr_45 (by decide)).trans ((kp_c frE_45 (by decide)).symm.trans (((kp_c p10_0 (by decide)).trans ((kp_i eσ8 (by decide)).trans ((kp_i eσ7 (by decide)).trans ((kp_i eσ6 (by decide)).trans ((kp_l eσ5).trans ((kp_l eσ4).trans ((kp_l eσ3).trans ((kp_c p2_0 (by decide)).trans rfl))))))))))))); have : (σ24.1 66 a0).toInt = ((σ_45.1 66 a0) : Int32).toInt := congrArg Int32.toInt (show σ24.1 66 a0 = (σ_45.1 66 a0) from ((kp_c p25_0 (by decide)).trans rfl)); have : (σ24.1 64 a0).toInt = ((σ_45.1 64 a0) : Int32).toInt := congrArg Int32.toInt (show σ24.1 64 a0 = (σ_45.1 64 a0) from ((kp_c p25_0 (by decide)).trans rfl)); have : (σ24.1 65 a0).toInt = ((σ_45.1 65 a0) : Int32).toInt := congrArg Int32.toInt (show σ24.1 65 a0 = (σ_45.1 65 a0) from ((kp_c p25_0 (by decide)).trans rfl)); have : (σ24.1 387 a1).toInt = ((σ_45.1 387 a1) : Int32).toInt := congrArg Int32.toInt (show σ24.1 387 a1 = (σ_45.1 387 a1) from ((kp_c p25_0 (by decide)).trans rfl)); have : (j45_4 : Int32).toInt < (76 : Int32).toInt := iv_lt.mp (iv_nle c11); have : (v18 : Int32).toInt = (0 : Int32).toInt := congrArg Int32.toInt c19; have : (v25 : Int32).toInt = (0 : Int32).toInt := congrArg Int32.toInt c26; have : (0 : Int32).toInt = 0 := (by decide); have : (47 : Int32).toInt = 47 := (by decide); have : (76 : Int32).toInt = 76 := (by decide); omega), show (σ24.1 386 a1).toInt = (j45_4 : Int32).toInt from (by have := (i31).1; have := (i31).2; have := (i13).1; have := (i13).2; have := (iz385).1; have := (iz385).2; have := (f45_66_a0).1; have := (f45_66_a0).2; have := (f45_64_a0).1; have := (f45_64_a0).2; have := (i14).1; have := (i14).2; have := (f45_387_a1).1; have := (f45_387_a1).2; have := (i21).1; have := (i21).2; have := (i27).1; have := (i27).2; have := (i29).1; have := (i29).2; have := (i30).1; have := (i30).2; have := (i32).1; have := (i32).2; have : (σ24.1 385 a1).toInt = ((σ.1 385 a1) : Int32).toInt := congrArg Int32.toInt (show σ24.1 385 a1 = (σ.1 385 a1) from ((kp_c p25_0 (by decide)).trans ((kp_c fr_45 (by decide)).trans ((kp_c frE_45 (by decide)).symm.trans (((kp_c p10_0 (by decide)).trans ((kp_i eσ8 (by decide)).trans ((kp_i eσ7 (by decide)).trans ((kp_i eσ6 (by decide)).trans ((kp_l eσ5).trans ((kp_l eσ4).trans ((kp_l eσ3).trans ((kp_c p2_0 (by decide)).trans rfl))))))))))))); have : (σ24.1 66 a0).toInt = ((σ_45.1 66 a0) : Int32).toInt := congrArg Int32.toInt (show σ24.1 66 a0 = (σ_45.1 66 a0) from ((kp_c p25_0 (by decide)).trans rfl)); have : (σ24.1 64 a0).toInt = ((σ_45.1 64 a0) : Int32).toInt := congrArg Int32.toInt (show σ24.1 64 a0 = (σ_45.1 64 a0) from ((kp_c p25_0 (by decide)).trans rfl)); have : (σ24.1 65 a0).toInt = ((σ_45.1 65 a0) : Int32).toInt := congrArg Int32.toInt (show σ24.1 65 a0 = (σ_45.1 65 a0) from ((kp_c p25_0 (by decide)).trans rfl)); have : (σ24.1 387 a1).toInt = ((σ_45.1 387 a1) : Int32).toInt := congrArg Int32.toInt (show σ24.1 387 a1 = (σ_45.1 387 a1) from ((kp_c p25_0 (by decide)).trans rfl)); have : (j45_4 : Int32).toInt < (76 : Int32).toInt := iv_lt.mp (iv_nle c11); have : (v18 : Int32).toInt = (0 : Int32).toInt := congrArg Int32.toInt c19; have : (v25 : Int32).toInt = (0 : Int32).toInt := congrArg Int32.toInt c26; have : (0 : Int32).toInt = 0 := (by decide); have : (47 : Int32).toInt = 47 := (by decide); have : (76 : Int32).toInt = 76 := (by decide); omega)]
            refine o_cv hw (oRunV cx hA hw q_X2_layCell k_m_X2_64 rfl ha0 (by decide) (As := [.int v32, .ref a1, .ref a2]) (c_X2_layCell a0 ha0 v32 a1 ha1 a2 ha2) (by decide) rfl hl.1 rfl (Nat.le_of_ble_eq_true rfl) dX2_lay_97 (by decide)) (fun σ37 H locs hp hw => ?_)
            obtain ⟨p38_0, p38_1⟩ := hp
            have fr := oFr_tr fr p38_0 (by decide)
            have i39 : Iv (σ37.1 66 a0) 0 6 := o_fb (j := 66) hw ha0 rfl
            obtain ⟨v40, e40⟩ : ∃ y : Int32, y = j45_3 + 1 := ⟨_, rfl⟩
            have i40 : Iv v40 1 8 := iv_add e40 i31 (⟨by decide, by decide⟩ : Iv 1 1 1) (by decide)
            have x40 : v40.toInt = j45_3.toInt + 1 := ex_add e40 i31 (⟨by decide, by decide⟩ : Iv 1 1 1) (by decide)
            refine lv_iinc (v := v40) (lv' := [(3, .int v40), (0, .ref a0), (1, .ref a1), (2, .ref a2), (4, .int j45_4)]) hx hb dX2_lay_100 hl (k := 3) rfl (by rw [e40]; rfl) (by decide) rfl (fun ls hl => ?_)
            refine lv_aload_n hx hb dX2_lay_103 rfl (lv_at hl 1 rfl) ?_
            refine lv_aload_n hx hb dX2_lay_104 rfl (lv_at hl 1 rfl) ?_
            refine g_64 cx hw ha0 k_f_X2_58 dX2_lay_105 (fun v41 e41 => ?_)
            rw [show v41 = (σ_45.1 64 a0) from e41.trans ((kp_c p38_0 (by decide)).trans ((kp_c p25_0 (by decide)).trans rfl))]
            refine lv_iload_n hx hb dX2_lay_108 rfl (lv_at hl 0 rfl) ?_
            refine va_mmax hx hb (hml.trans hl.1.symm) hown (hts _ k_m_X2_68) (hts _ k_s_J9_max_7cf53) (hts _ k_i_J9) (hts _ k_code_J9_max_7cf53) (by decide) (Nat.le_of_ble_eq_true rfl) (by decide) (by decide) dX2_lay_109 ?_
            refine lv_topi (fun v42 e42 => ?_)
            have i42 : Iv v42 1 8 := iv_max e42 f45_64_a0 i40 (by decide)
            have mx9 := ex_max e42
            refine p_64 cx hw ha0 k_f_X2_58 dX2_lay_112 (fun σ43 H locs eσ43 hw => ?_)
            have fr := oFr_i fr eσ43 (by decide)
            obtain ⟨v44, e44⟩ : ∃ y : Int32, y = j45_4 + 1 := ⟨_, rfl⟩
            have i44 : Iv v44 1 76 := iv_add e44 i13 (⟨by decide, by decide⟩ : Iv 1 1 1) (by decide)
            have x44 : v44.toInt = j45_4.toInt + 1 := ex_add e44 i13 (⟨by decide, by decide⟩ : Iv 1 1 1) (by decide)
            refine lv_iinc (v := v44) (lv' := [(4, .int v44), (3, .int v40), (0, .ref a0), (1, .ref a1), (2, .ref a2)]) hx hb dX2_lay_115 hl (k := 4) rfl (by rw [e44]; rfl) (by decide) rfl (fun ls hl => ?_)
            refine lv_goto (tgt := 45) hx hb dX2_lay_118 (by decide) ?_
            exact ih_45 v40 (iv_w i40 (by decide)) v44 (iv_w i44 (by decide)) σ43 _ _ hw fr (kn_iv ((kp_s eσ43)) (iv_w i42 (by decide))) (kn_iv (((kp_i eσ43 (by decide)).trans ((kp_c p38_0 (by decide)).trans ((kp_c p25_0 (by decide)).trans rfl)))) (iv_w i14 (by decide))) (kn_iv (((kp_i eσ43 (by decide)).trans rfl)) (iv_w i39 (by decide))) (kn_iv (((kp_i eσ43 (by decide)).trans rfl)) (iv_w (iv_top (σ37.1 386 a1)) (by decide))) (kn_iv (((kp_i eσ43 (by decide)).trans ((kp_c p38_0 (by decide)).trans ((kp_c p25_0 (by decide)).trans rfl)))) (iv_w f45_387_a1 (by decide))) (ms_up x44 (by decide) (iv_w (a' := 0) (b' := 76) i44 (by decide)).2 hn_45) (by rcases lc2 with ⟨q1, q2, q3⟩ | ⟨q1, q2⟩; exact mh_conv q3 (by have := (i40).1; have := (i40).2; have := (i44).1; have := (i44).2; have := (iz385).1; have := (iz385).2; have := (i14).1; have := (i14).2; have := (f45_387_a1).1; have := (f45_387_a1).2; have := (i39).1; have := (i39).2; have := (i42).1; have := (i42).2; have := (i13).1; have := (i13).2; have := (i21).1; have := (i21).2; have := (i27).1; have := (i27).2; have := (i29).1; have := (i29).2; have := (i30).1; have := (i30).2; have := (i31).1; have := (i31).2; have := (i32).1; have := (i32).2; have : (σ43.1 385 a1).toInt = ((σ.1 385 a1) : Int32).toInt := congrArg Int32.toInt (show σ43.1 385 a1 = (σ.1 385 a1) from ((kp_i eσ43 (by decide)).trans ((kp_c p38_0 (by decide)).trans ((kp_c p25_0 (by decide)).trans ((kp_c fr_45 (by decide)).trans ((kp_c frE_45 (by decide)).symm.trans (((kp_c p10_0 (by decide)).trans ((kp_i eσ8 (by decide)).trans ((kp_i eσ7 (by decide)).trans ((kp_i eσ6 (by decide)).trans ((kp_l eσ5).trans ((kp_l eσ4).trans ((kp_l eσ3).trans ((kp_c p2_0 (by decide)).trans rfl))))))))))))))); have : (σ43.1 65 a0).toInt = ((σ_45.1 65 a0) : Int32).toInt := congrArg Int32.toInt (show σ43.1 65 a0 = (σ_45.1 65 a0) from ((kp_i eσ43 (by decide)).trans ((kp_c p38_0 (by decide)).trans ((kp_c p25_0 (by decide)).trans rfl)))); have : (σ43.1 387 a1).toInt = ((σ_45.1 387 a1) : Int32).toInt := congrArg Int32.toInt (show σ43.1 387 a1 = (σ_45.1 387 a1) from ((kp_i eσ43 (by decide)).trans ((kp_c p38_0 (by decide)).trans ((kp_c p25_0 (by decide)).trans rfl)))); have : (σ43.1 66 a0).toInt = ((σ37.1 66 a0) : Int32).toInt := congrArg Int32.toInt (show σ43.1 66 a0 = (σ37.1 66 a0) from ((kp_i eσ43 (by decide)).trans rfl)); have : (σ43.1 386 a1).toInt = ((σ37.1 386 a1) : Int32).toInt := congrArg Int32.toInt (show σ43.1 386 a1 = (σ37.1 386 a1) from ((kp_i eσ43 (by decide)).trans rfl)); have : (σ43.1 64 a0).toInt = (v42 : Int32).toInt := congrArg Int32.toInt (show σ43.1 64 a0 = v42 from (kp_s eσ43)); have : (j45_4 : Int32).toInt < (76 : Int32).toInt := iv_lt.mp (iv_nle c11); have : (v18 : Int32).toInt = (0 : Int32).toInt := congrArg Int32.toInt c19; have : (v25 : Int32).toInt = (0 : Int32).toInt := congrArg Int32.toInt c26; have : (0 : Int32).toInt = 0 := (by decide); have : (47 : Int32).toInt = 47 := (by decide); have : (76 : Int32).toInt = 76 := (by decide); omega); exact mh_conv q2 (by have := (i40).1; have := (i40).2; have := (i44).1; have := (i44).2; have := (iz385).1; have := (iz385).2; have := (i14).1; have := (i14).2; have := (f45_387_a1).1; have := (f45_387_a1).2; have := (i39).1; have := (i39).2; have := (i42).1; have := (i42).2; have := (i13).1; have := (i13).2; have := (i21).1; have := (i21).2; have := (i27).1; have := (i27).2; have := (i29).1; have := (i29).2; have := (i30).1; have := (i30).2; have := (i31).1; have := (i31).2; have := (i32).1; have := (i32).2; have : (σ43.1 385 a1).toInt = ((σ.1 385 a1) : Int32).toInt := congrArg Int32.toInt (show σ43.1 385 a1 = (σ.1 385 a1) from ((kp_i eσ43 (by decide)).trans ((kp_c p38_0 (by decide)).trans ((kp_c p25_0 (by decide)).trans ((kp_c fr_45 (by decide)).trans ((kp_c frE_45 (by decide)).symm.trans (((kp_c p10_0 (by decide)).trans ((kp_i eσ8 (by decide)).trans ((kp_i eσ7 (by decide)).trans ((kp_i eσ6 (by decide)).trans ((kp_l eσ5).trans ((kp_l eσ4).trans ((kp_l eσ3).trans ((kp_c p2_0 (by decide)).trans rfl))))))))))))))); have : (σ43.1 65 a0).toInt = ((σ_45.1 65 a0) : Int32).toInt := congrArg Int32.toInt (show σ43.1 65 a0 = (σ_45.1 65 a0) from ((kp_i eσ43 (by decide)).trans ((kp_c p38_0 (by decide)).trans ((kp_c p25_0 (by decide)).trans rfl)))); have : (σ43.1 387 a1).toInt = ((σ_45.1 387 a1) : Int32).toInt := congrArg Int32.toInt (show σ43.1 387 a1 = (σ_45.1 387 a1) from ((kp_i eσ43 (by decide)).trans ((kp_c p38_0 (by decide)).trans ((kp_c p25_0 (by decide)).trans rfl)))); have : (σ43.1 66 a0).toInt = ((σ37.1 66 a0) : Int32).toInt := congrArg Int32.toInt (show σ43.1 66 a0 = (σ37.1 66 a0) from ((kp_i eσ43 (by decide)).trans rfl)); have : (σ43.1 386 a1).toInt = ((σ37.1 386 a1) : Int32).toInt := congrArg Int32.toInt (show σ43.1 386 a1 = (σ37.1 386 a1) from ((kp_i eσ43 (by decide)).trans rfl)); have : (σ43.1 64 a0).toInt = (v42 : Int32).toInt := congrArg Int32.toInt (show σ43.1 64 a0 = v42 from (kp_s eσ43)); have : (j45_4 : Int32).toInt < (76 : Int32).toInt := iv_lt.mp (iv_nle c11); have : (v18 : Int32).toInt = (0 : Int32).toInt := congrArg Int32.toInt c19; have : (v25 : Int32).toInt = (0 : Int32).toInt := congrArg Int32.toInt c26; have : (0 : Int32).toInt = 0 := (by decide); have : (47 : Int32).toInt = 47 := (by decide); have : (76 : Int32).toInt = 76 := (by decide); omega)) (by have := (i40).1; have := (i40).2; have := (i44).1; have := (i44).2; have := (iz385).1; have := (iz385).2; have := (i14).1; have := (i14).2; have := (f45_387_a1).1; have := (f45_387_a1).2; have := (i39).1; have := (i39).2; have := (i42).1; have := (i42).2; have := (i13).1; have := (i13).2; have := (i21).1; have := (i21).2; have := (i27).1; have := (i27).2; have := (i29).1; have := (i29).2; have := (i30).1; have := (i30).2; have := (i31).1; have := (i31).2; have := (i32).1; have := (i32).2; have : (σ43.1 385 a1).toInt = ((σ.1 385 a1) : Int32).toInt := congrArg Int32.toInt (show σ43.1 385 a1 = (σ.1 385 a1) from ((kp_i eσ43 (by decide)).trans ((kp_c p38_0 (by decide)).trans ((kp_c p25_0 (by decide)).trans ((kp_c fr_45 (by decide)).trans ((kp_c frE_45 (by decide)).symm.trans (((kp_c p10_0 (by decide)).trans ((kp_i eσ8 (by decide)).trans ((kp_i eσ7 (by decide)).trans ((kp_i eσ6 (by decide)).trans ((kp_l eσ5).trans ((kp_l eσ4).trans ((kp_l eσ3).trans ((kp_c p2_0 (by decide)).trans rfl))))))))))))))); have : (σ43.1 65 a0).toInt = ((σ_45.1 65 a0) : Int32).toInt := congrArg Int32.toInt (show σ43.1 65 a0 = (σ_45.1 65 a0) from ((kp_i eσ43 (by decide)).trans ((kp_c p38_0 (by decide)).trans ((kp_c p25_0 (by decide)).trans rfl)))); have : (σ43.1 387 a1).toInt = ((σ_45.1 387 a1) : Int32).toInt := congrArg Int32.toInt (show σ43.1 387 a1 = (σ_45.1 387 a1) from ((kp_i eσ43 (by decide)).trans ((kp_c p38_0 (by decide)).trans ((kp_c p25_0 (by decide)).trans rfl)))); have : (σ43.1 66 a0).toInt = ((σ37.1 66 a0) : Int32).toInt := congrArg Int32.toInt (show σ43.1 66 a0 = (σ37.1 66 a0) from ((kp_i eσ43 (by decide)).trans rfl)); have : (σ43.1 386 a1).toInt = ((σ37.1 386 a1) : Int32).toInt := congrArg Int32.toInt (show σ43.1 386 a1 = (σ37.1 386 a1) from ((kp_i eσ43 (by decide)).trans rfl)); have : (σ43.1 64 a0).toInt = (v42 : Int32).toInt := congrArg Int32.toInt (show σ43.1 64 a0 = v42 from (kp_s eσ43)); have : (j45_4 : Int32).toInt < (76 : Int32).toInt := iv_lt.mp (iv_nle c11); have : (v18 : Int32).toInt = (0 : Int32).toInt := congrArg Int32.toInt c19; have : (v25 : Int32).toInt = (0 : Int32).toInt := congrArg Int32.toInt c26; have : (0 : Int32).toInt = 0 := (by decide); have : (47 : Int32).toInt = 47 := (by decide); have : (76 : Int32).toInt = 76 := (by decide); omega) (by have := (i40).1; have := (i40).2; have := (i44).1; have := (i44).2; have := (iz385).1; have := (iz385).2; have := (i14).1; have := (i14).2; have := (f45_387_a1).1; have := (f45_387_a1).2; have := (i39).1; have := (i39).2; have := (i42).1; have := (i42).2; have := (i13).1; have := (i13).2; have := (i21).1; have := (i21).2; have := (i27).1; have := (i27).2; have := (i29).1; have := (i29).2; have := (i30).1; have := (i30).2; have := (i31).1; have := (i31).2; have := (i32).1; have := (i32).2; have : (σ43.1 385 a1).toInt = ((σ.1 385 a1) : Int32).toInt := congrArg Int32.toInt (show σ43.1 385 a1 = (σ.1 385 a1) from ((kp_i eσ43 (by decide)).trans ((kp_c p38_0 (by decide)).trans ((kp_c p25_0 (by decide)).trans ((kp_c fr_45 (by decide)).trans ((kp_c frE_45 (by decide)).symm.trans (((kp_c p10_0 (by decide)).trans ((kp_i eσ8 (by decide)).trans ((kp_i eσ7 (by decide)).trans ((kp_i eσ6 (by decide)).trans ((kp_l eσ5).trans ((kp_l eσ4).trans ((kp_l eσ3).trans ((kp_c p2_0 (by decide)).trans rfl))))))))))))))); have : (σ43.1 65 a0).toInt = ((σ_45.1 65 a0) : Int32).toInt := congrArg Int32.toInt (show σ43.1 65 a0 = (σ_45.1 65 a0) from ((kp_i eσ43 (by decide)).trans ((kp_c p38_0 (by decide)).trans ((kp_c p25_0 (by decide)).trans rfl)))); have : (σ43.1 387 a1).toInt = ((σ_45.1 387 a1) : Int32).toInt := congrArg Int32.toInt (show σ43.1 387 a1 = (σ_45.1 387 a1) from ((kp_i eσ43 (by decide)).trans ((kp_c p38_0 (by decide)).trans ((kp_c p25_0 (by decide)).trans rfl)))); have : (σ43.1 66 a0).toInt = ((σ37.1 66 a0) : Int32).toInt := congrArg Int32.toInt (show σ43.1 66 a0 = (σ37.1 66 a0) from ((kp_i eσ43 (by decide)).trans rfl)); have : (σ43.1 386 a1).toInt = ((σ37.1 386 a1) : Int32).toInt := congrArg Int32.toInt (show σ43.1 386 a1 = (σ37.1 386 a1) from ((kp_i eσ43 (by decide)).trans rfl)); have : (σ43.1 64 a0).toInt = (v42 : Int32).toInt := congrArg Int32.toInt (show σ43.1 64 a0 = v42 from (kp_s eσ43)); have : (j45_4 : Int32).toInt < (76 : Int32).toInt := iv_lt.mp (iv_nle c11); have : (v18 : Int32).toInt = (0 : Int32).toInt := congrArg Int32.toInt c19; have : (v25 : Int32).toInt = (0 : Int32).toInt := congrArg Int32.toInt c26; have : (0 : Int32).toInt = 0 := (by decide); have : (47 : Int32).toInt = 47 := (by decide); have : (76 : Int32).toInt = 76 := (by decide); omega) (by have := (i40).1; have := (i40).2; have := (i44).1; have := (i44).2; have := (iz385).1; have := (iz385).2; have := (i14).1; have := (i14).2; have := (f45_387_a1).1; have := (f45_387_a1).2; have := (i39).1; have := (i39).2; have := (i42).1; have := (i42).2; have := (i13).1; have := (i13).2; have := (i21).1; have := (i21).2; have := (i27).1; have := (i27).2; have := (i29).1; have := (i29).2; have := (i30).1; have := (i30).2; have := (i31).1; have := (i31).2; have := (i32).1; have := (i32).2; have : (σ43.1 385 a1).toInt = ((σ.1 385 a1) : Int32).toInt := congrArg Int32.toInt (show σ43.1 385 a1 = (σ.1 385 a1) from ((kp_i eσ43 (by decide)).trans ((kp_c p38_0 (by decide)).trans ((kp_c p25_0 (by decide)).trans ((kp_c fr_45 (by decide)).trans ((kp_c frE_45 (by decide)).symm.trans (((kp_c p10_0 (by decide)).trans ((kp_i eσ8 (by decide)).trans ((kp_i eσ7 (by decide)).trans ((kp_i eσ6 (by decide)).trans ((kp_l eσ5).trans ((kp_l eσ4).trans ((kp_l eσ3).trans ((kp_c p2_0 (by decide)).trans rfl))))))))))))))); have : (σ43.1 65 a0).toInt = ((σ_45.1 65 a0) : Int32).toInt := congrArg Int32.toInt (show σ43.1 65 a0 = (σ_45.1 65 a0) from ((kp_i eσ43 (by decide)).trans ((kp_c p38_0 (by decide)).trans ((kp_c p25_0 (by decide)).trans rfl)))); have : (σ43.1 387 a1).toInt = ((σ_45.1 387 a1) : Int32).toInt := congrArg Int32.toInt (show σ43.1 387 a1 = (σ_45.1 387 a1) from ((kp_i eσ43 (by decide)).trans ((kp_c p38_0 (by decide)).trans ((kp_c p25_0 (by decide)).trans rfl)))); have : (σ43.1 66 a0).toInt = ((σ37.1 66 a0) : Int32).toInt := congrArg Int32.toInt (show σ43.1 66 a0 = (σ37.1 66 a0) from ((kp_i eσ43 (by decide)).trans rfl)); have : (σ43.1 386 a1).toInt = ((σ37.1 386 a1) : Int32).toInt := congrArg Int32.toInt (show σ43.1 386 a1 = (σ37.1 386 a1) from ((kp_i eσ43 (by decide)).trans rfl)); have : (σ43.1 64 a0).toInt = (v42 : Int32).toInt := congrArg Int32.toInt (show σ43.1 64 a0 = v42 from (kp_s eσ43)); have : (j45_4 : Int32).toInt < (76 : Int32).toInt := iv_lt.mp (iv_nle c11); have : (v18 : Int32).toInt = (0 : Int32).toInt := congrArg Int32.toInt c19; have : (v25 : Int32).toInt = (0 : Int32).toInt := congrArg Int32.toInt c26; have : (0 : Int32).toInt = 0 := (by decide); have : (47 : Int32).toInt = 47 := (by decide); have : (76 : Int32).toInt = 76 := (by decide); omega) (by have := (i40).1; have := (i40).2; have := (i44).1; have := (i44).2; have := (iz385).1; have := (iz385).2; have := (i14).1; have := (i14).2; have := (f45_387_a1).1; have := (f45_387_a1).2; have := (i39).1; have := (i39).2; have := (i42).1; have := (i42).2; have := (i13).1; have := (i13).2; have := (i21).1; have := (i21).2; have := (i27).1; have := (i27).2; have := (i29).1; have := (i29).2; have := (i30).1; have := (i30).2; have := (i31).1; have := (i31).2; have := (i32).1; have := (i32).2; have : (σ43.1 385 a1).toInt = ((σ.1 385 a1) : Int32).toInt := congrArg Int32.toInt (show σ43.1 385 a1 = (σ.1 385 a1) from ((kp_i eσ43 (by decide)).trans ((kp_c p38_0 (by decide)).trans ((kp_c p25_0 (by decide)).trans ((kp_c fr_45 (by decide)).trans ((kp_c frE_45 (by decide)).symm.trans (((kp_c p10_0 (by decide)).trans ((kp_i eσ8 (by decide)).trans ((kp_i eσ7 (by decide)).trans ((kp_i eσ6 (by decide)).trans ((kp_l eσ5).trans ((kp_l eσ4).trans ((kp_l eσ3).trans ((kp_c p2_0 (by decide)).trans rfl))))))))))))))); have : (σ43.1 65 a0).toInt = ((σ_45.1 65 a0) : Int32).toInt := congrArg Int32.toInt (show σ43.1 65 a0 = (σ_45.1 65 a0) from ((kp_i eσ43 (by decide)).trans ((kp_c p38_0 (by decide)).trans ((kp_c p25_0 (by decide)).trans rfl)))); have : (σ43.1 387 a1).toInt = ((σ_45.1 387 a1) : Int32).toInt := congrArg Int32.toInt (show σ43.1 387 a1 = (σ_45.1 387 a1) from ((kp_i eσ43 (by decide)).trans ((kp_c p38_0 (by decide)).trans ((kp_c p25_0 (by decide)).trans rfl)))); have : (σ43.1 66 a0).toInt = ((σ37.1 66 a0) : Int32).toInt := congrArg Int32.toInt (show σ43.1 66 a0 = (σ37.1 66 a0) from ((kp_i eσ43 (by decide)).trans rfl)); have : (σ43.1 386 a1).toInt = ((σ37.1 386 a1) : Int32).toInt := congrArg Int32.toInt (show σ43.1 386 a1 = (σ37.1 386 a1) from ((kp_i eσ43 (by decide)).trans rfl)); have : (σ43.1 64 a0).toInt = (v42 : Int32).toInt := congrArg Int32.toInt (show σ43.1 64 a0 = v42 from (kp_s eσ43)); have : (j45_4 : Int32).toInt < (76 : Int32).toInt := iv_lt.mp (iv_nle c11); have : (v18 : Int32).toInt = (0 : Int32).toInt := congrArg Int32.toInt c19; have : (v25 : Int32).toInt = (0 : Int32).toInt := congrArg Int32.toInt c26; have : (0 : Int32).toInt = 0 := (by decide); have : (47 : Int32).toInt = 47 := (by decide); have : (76 : Int32).toInt = 76 := (by decide); omega) _ (lv_sub hl [2, 3, 4, 1, 0] rfl)
          · --
            have i45 : Iv v25 1 1 := iv_ne1 c26 p25_1 (⟨by decide, by decide⟩ : Iv 0 0 0) (by decide)
            obtain ⟨lr1, lr2, lr3⟩ := mh_lrow gh hmd (by have := (ij45_3).1; have := (ij45_3).2; have := (i13).1; have := (i13).2; have := (iz385).1; have := (iz385).2; have := (f45_66_a0).1; have := (f45_66_a0).2; have := (f45_64_a0).1; have := (f45_64_a0).2; have := (i14).1; have := (i14).2; have := (f45_387_a1).1; have := (f45_387_a1).2; have := (i21).1; have := (i21).2; have := (i45).1; have := (i45).2; have : (σ24.1 385 a1).toInt = ((σ.1 385 a1) : Int32).toInt := congrArg Int32.toInt (show σ24.1 385 a1 = (σ.1 385 a1) from ((kp_c p25_0 (by decide)).trans ((kp_c fr_45 (by decide)).trans ((kp_c frE_45 (by decide)).symm.trans (((kp_c p10_0 (by decide)).trans ((kp_i eσ8 (by decide)).trans ((kp_i eσ7 (by decide)).trans ((kp_i eσ6 (by decide)).trans ((kp_l eσ5).trans ((kp_l eσ4).trans ((kp_l eσ3).trans ((kp_c p2_0 (by decide)).trans rfl))))))))))))); have : (σ24.1 66 a0).toInt = ((σ_45.1 66 a0) : Int32).toInt := congrArg Int32.toInt (show σ24.1 66 a0 = (σ_45.1 66 a0) from ((kp_c p25_0 (by decide)).trans rfl)); have : (σ24.1 64 a0).toInt = ((σ_45.1 64 a0) : Int32).toInt := congrArg Int32.toInt (show σ24.1 64 a0 = (σ_45.1 64 a0) from ((kp_c p25_0 (by decide)).trans rfl)); have : (σ24.1 65 a0).toInt = ((σ_45.1 65 a0) : Int32).toInt := congrArg Int32.toInt (show σ24.1 65 a0 = (σ_45.1 65 a0) from ((kp_c p25_0 (by decide)).trans rfl)); have : (σ24.1 387 a1).toInt = ((σ_45.1 387 a1) : Int32).toInt := congrArg Int32.toInt (show σ24.1 387 a1 = (σ_45.1 387 a1) from ((kp_c p25_0 (by decide)).trans rfl)); have : (j45_4 : Int32).toInt < (76 : Int32).toInt := iv_lt.mp (iv_nle c11); have : (v18 : Int32).toInt = (0 : Int32).toInt := congrArg Int32.toInt c19; have : (0 : Int32).toInt = 0 := (by decide); have : (47 : Int32).toInt = 47 := (by decide); have : (76 : Int32).toInt = 76 := (by decide); omega) (by have := (ij45_3).1; have := (ij45_3).2; have := (i13).1; have := (i13).2; have := (iz385).1; have := (iz385).2; have := (f45_66_a0).1; have := (f45_66_a0).2; have := (f45_64_a0).1; have := (f45_64_a0).2; have := (i14).1; have := (i14).2; have := (f45_387_a1).1; have := (f45_387_a1).2; have := (i21).1; have := (i21).2; have := (i45).1; have := (i45).2; have : (σ24.1 385 a1).toInt = ((σ.1 385 a1) : Int32).toInt := congrArg Int32.toInt (show σ24.1 385 a1 = (σ.1 385 a1) from ((kp_c p25_0 (by decide)).trans ((kp_c fr_45 (by decide)).trans ((kp_c frE_45 (by decide)).symm.trans (((kp_c p10_0 (by decide)).trans ((kp_i eσ8 (by decide)).trans ((kp_i eσ7 (by decide)).trans ((kp_i eσ6 (by decide)).trans ((kp_l eσ5).trans ((kp_l eσ4).trans ((kp_l eσ3).trans ((kp_c p2_0 (by decide)).trans rfl))))))))))))); have : (σ24.1 66 a0).toInt = ((σ_45.1 66 a0) : Int32).toInt := congrArg Int32.toInt (show σ24.1 66 a0 = (σ_45.1 66 a0) from ((kp_c p25_0 (by decide)).trans rfl)); have : (σ24.1 64 a0).toInt = ((σ_45.1 64 a0) : Int32).toInt := congrArg Int32.toInt (show σ24.1 64 a0 = (σ_45.1 64 a0) from ((kp_c p25_0 (by decide)).trans rfl)); have : (σ24.1 65 a0).toInt = ((σ_45.1 65 a0) : Int32).toInt := congrArg Int32.toInt (show σ24.1 65 a0 = (σ_45.1 65 a0) from ((kp_c p25_0 (by decide)).trans rfl)); have : (σ24.1 387 a1).toInt = ((σ_45.1 387 a1) : Int32).toInt := congrArg Int32.toInt (show σ24.1 387 a1 = (σ_45.1 387 a1) from ((kp_c p25_0 (by decide)).trans rfl)); have : (j45_4 : Int32).toInt < (76 : Int32).toInt := iv_lt.mp (iv_nle c11); have : (v18 : Int32).toInt = (0 : Int32).toInt := congrArg Int32.toInt c19; have : (0 : Int32).toInt = 0 := (by decide); have : (47 : Int32).toInt = 47 := (by decide); have : (76 : Int32).toInt = 76 := (by decide); omega) (by have := (ij45_3).1; have := (ij45_3).2; have := (i13).1; have := (i13).2; have := (iz385).1; have := (iz385).2; have := (f45_66_a0).1; have := (f45_66_a0).2; have := (f45_64_a0).1; have := (f45_64_a0).2; have := (i14).1; have := (i14).2; have := (f45_387_a1).1; have := (f45_387_a1).2; have := (i21).1; have := (i21).2; have := (i45).1; have := (i45).2; have : (σ24.1 385 a1).toInt = ((σ.1 385 a1) : Int32).toInt := congrArg Int32.toInt (show σ24.1 385 a1 = (σ.1 385 a1) from ((kp_c p25_0 (by decide)).trans ((kp_c fr_45 (by decide)).trans ((kp_c frE_45 (by decide)).symm.trans (((kp_c p10_0 (by decide)).trans ((kp_i eσ8 (by decide)).trans ((kp_i eσ7 (by decide)).trans ((kp_i eσ6 (by decide)).trans ((kp_l eσ5).trans ((kp_l eσ4).trans ((kp_l eσ3).trans ((kp_c p2_0 (by decide)).trans rfl))))))))))))); have : (σ24.1 66 a0).toInt = ((σ_45.1 66 a0) : Int32).toInt := congrArg Int32.toInt (show σ24.1 66 a0 = (σ_45.1 66 a0) from ((kp_c p25_0 (by decide)).trans rfl)); have : (σ24.1 64 a0).toInt = ((σ_45.1 64 a0) : Int32).toInt := congrArg Int32.toInt (show σ24.1 64 a0 = (σ_45.1 64 a0) from ((kp_c p25_0 (by decide)).trans rfl)); have : (σ24.1 65 a0).toInt = ((σ_45.1 65 a0) : Int32).toInt := congrArg Int32.toInt (show σ24.1 65 a0 = (σ_45.1 65 a0) from ((kp_c p25_0 (by decide)).trans rfl)); have : (σ24.1 387 a1).toInt = ((σ_45.1 387 a1) : Int32).toInt := congrArg Int32.toInt (show σ24.1 387 a1 = (σ_45.1 387 a1) from ((kp_c p25_0 (by decide)).trans rfl)); have : (j45_4 : Int32).toInt < (76 : Int32).toInt := iv_lt.mp (iv_nle c11); have : (v18 : Int32).toInt = (0 : Int32).toInt := congrArg Int32.toInt c19; have : (0 : Int32).toInt = 0 := (by decide); have : (47 : Int32).toInt = 47 := (by decide); have : (76 : Int32).toInt = 76 := (by decide); omega)
            refine lv_aload_n hx hb dX2_lay_68 rfl (lv_at hl 0 rfl) ?_
            refine lv_dup hx hb dX2_lay_69 rfl ?_
            refine g_65 cx hw ha0 k_f_X2_61 dX2_lay_70 (fun v46 e46 => ?_)
            rw [show v46 = (σ_45.1 65 a0) from e46.trans ((kp_c p25_0 (by decide)).trans rfl)]
            refine lv_iconst (v := 1) hx hb dX2_lay_73 (by decide) ?_
            refine lv_iadd hx hb dX2_lay_74 ?_
            refine lv_topi (fun v47 e47 => ?_)
            have i47 : Iv v47 2 9 := iv_add e47 i14 (⟨by decide, by decide⟩ : Iv 1 1 1) (by decide)
            have x47 : v47.toInt = (σ_45.1 65 a0).toInt + 1 := ex_add e47 i14 (⟨by decide, by decide⟩ : Iv 1 1 1) (by decide)
            refine p_65 cx hw ha0 k_f_X2_61 dX2_lay_75 (fun σ48 H locs eσ48 hw => ?_)
            have fr := oFr_i fr eσ48 (by decide)
            refine lv_iconst (v := 0) hx hb dX2_lay_78 (by decide) ?_
            refine lv_istore_n (lv' := [(3, .int 0), (0, .ref a0), (1, .ref a1), (2, .ref a2), (4, .int j45_4)]) hx hb dX2_lay_79 rfl hl (by decide) rfl (fun ls hl => ?_)
            refine lv_goto (tgt := 115) hx hb dX2_lay_80 (by decide) ?_
            obtain ⟨v49, e49⟩ : ∃ y : Int32, y = j45_4 + 1 := ⟨_, rfl⟩
            have i49 : Iv v49 1 76 := iv_add e49 i13 (⟨by decide, by decide⟩ : Iv 1 1 1) (by decide)
            have x49 : v49.toInt = j45_4.toInt + 1 := ex_add e49 i13 (⟨by decide, by decide⟩ : Iv 1 1 1) (by decide)
            refine lv_iinc (v := v49) (lv' := [(4, .int v49), (3, .int 0), (0, .ref a0), (1, .ref a1), (2, .ref a2)]) hx hb dX2_lay_115 hl (k := 4) rfl (by rw [e49]; rfl) (by decide) rfl (fun ls hl => ?_)
            refine lv_goto (tgt := 45) hx hb dX2_lay_118 (by decide) ?_
            exact ih_45 0 (iv_w (⟨by decide, by decide⟩ : Iv 0 0 0) (by decide)) v49 (iv_w i49 (by decide)) σ48 _ _ hw fr (kn_iv (((kp_i eσ48 (by decide)).trans ((kp_c p25_0 (by decide)).trans rfl))) (iv_w f45_64_a0 (by decide))) (kn_iv ((kp_s eσ48)) (iv_w i47 (by decide))) (kn_iv (((kp_i eσ48 (by decide)).trans ((kp_c p25_0 (by decide)).trans rfl))) (iv_w f45_66_a0 (by decide))) (kn_iv (((kp_i eσ48 (by decide)).trans rfl)) (iv_w (iv_top (σ24.1 386 a1)) (by decide))) (kn_iv (((kp_i eσ48 (by decide)).trans ((kp_c p25_0 (by decide)).trans rfl))) (iv_w f45_387_a1 (by decide))) (ms_up x49 (by decide) (iv_w (a' := 0) (b' := 76) i49 (by decide)).2 hn_45) (mh_conv lr3 (by have := (i49).1; have := (i49).2; have := (iz385).1; have := (iz385).2; have := (f45_66_a0).1; have := (f45_66_a0).2; have := (f45_64_a0).1; have := (f45_64_a0).2; have := (f45_387_a1).1; have := (f45_387_a1).2; have := (i47).1; have := (i47).2; have := (i13).1; have := (i13).2; have := (i14).1; have := (i14).2; have := (i21).1; have := (i21).2; have := (i45).1; have := (i45).2; have : (σ48.1 385 a1).toInt = ((σ.1 385 a1) : Int32).toInt := congrArg Int32.toInt (show σ48.1 385 a1 = (σ.1 385 a1) from ((kp_i eσ48 (by decide)).trans ((kp_c p25_0 (by decide)).trans ((kp_c fr_45 (by decide)).trans ((kp_c frE_45 (by decide)).symm.trans (((kp_c p10_0 (by decide)).trans ((kp_i eσ8 (by decide)).trans ((kp_i eσ7 (by decide)).trans ((kp_i eσ6 (by decide)).trans ((kp_l eσ5).trans ((kp_l eσ4).trans ((kp_l eσ3).trans ((kp_c p2_0 (by decide)).trans rfl)))))))))))))); have : (σ48.1 66 a0).toInt = ((σ_45.1 66 a0) : Int32).toInt := congrArg Int32.toInt (show σ48.1 66 a0 = (σ_45.1 66 a0) from ((kp_i eσ48 (by decide)).trans ((kp_c p25_0 (by decide)).trans rfl))); have : (σ48.1 64 a0).toInt = ((σ_45.1 64 a0) : Int32).toInt := congrArg Int32.toInt (show σ48.1 64 a0 = (σ_45.1 64 a0) from ((kp_i eσ48 (by decide)).trans ((kp_c p25_0 (by decide)).trans rfl))); have : (σ48.1 387 a1).toInt = ((σ_45.1 387 a1) : Int32).toInt := congrArg Int32.toInt (show σ48.1 387 a1 = (σ_45.1 387 a1) from ((kp_i eσ48 (by decide)).trans ((kp_c p25_0 (by decide)).trans rfl))); have : (σ48.1 386 a1).toInt = ((σ24.1 386 a1) : Int32).toInt := congrArg Int32.toInt (show σ48.1 386 a1 = (σ24.1 386 a1) from ((kp_i eσ48 (by decide)).trans rfl)); have : (σ48.1 65 a0).toInt = (v47 : Int32).toInt := congrArg Int32.toInt (show σ48.1 65 a0 = v47 from (kp_s eσ48)); have : (j45_4 : Int32).toInt < (76 : Int32).toInt := iv_lt.mp (iv_nle c11); have : (v18 : Int32).toInt = (0 : Int32).toInt := congrArg Int32.toInt c19; have : (0 : Int32).toInt = 0 := (by decide); have : (47 : Int32).toInt = 47 := (by decide); have : (76 : Int32).toInt = 76 := (by decide); omega)) (by have := (i49).1; have := (i49).2; have := (iz385).1; have := (iz385).2; have := (f45_66_a0).1; have := (f45_66_a0).2; have := (f45_64_a0).1; have := (f45_64_a0).2; have := (f45_387_a1).1; have := (f45_387_a1).2; have := (i47).1; have := (i47).2; have := (i13).1; have := (i13).2; have := (i14).1; have := (i14).2; have := (i21).1; have := (i21).2; have := (i45).1; have := (i45).2; have : (σ48.1 385 a1).toInt = ((σ.1 385 a1) : Int32).toInt := congrArg Int32.toInt (show σ48.1 385 a1 = (σ.1 385 a1) from ((kp_i eσ48 (by decide)).trans ((kp_c p25_0 (by decide)).trans ((kp_c fr_45 (by decide)).trans ((kp_c frE_45 (by decide)).symm.trans (((kp_c p10_0 (by decide)).trans ((kp_i eσ8 (by decide)).trans ((kp_i eσ7 (by decide)).trans ((kp_i eσ6 (by decide)).trans ((kp_l eσ5).trans ((kp_l eσ4).trans ((kp_l eσ3).trans ((kp_c p2_0 (by decide)).trans rfl)))))))))))))); have : (σ48.1 66 a0).toInt = ((σ_45.1 66 a0) : Int32).toInt := congrArg Int32.toInt (show σ48.1 66 a0 = (σ_45.1 66 a0) from ((kp_i eσ48 (by decide)).trans ((kp_c p25_0 (by decide)).trans rfl))); have : (σ48.1 64 a0).toInt = ((σ_45.1 64 a0) : Int32).toInt := congrArg Int32.toInt (show σ48.1 64 a0 = (σ_45.1 64 a0) from ((kp_i eσ48 (by decide)).trans ((kp_c p25_0 (by decide)).trans rfl))); have : (σ48.1 387 a1).toInt = ((σ_45.1 387 a1) : Int32).toInt := congrArg Int32.toInt (show σ48.1 387 a1 = (σ_45.1 387 a1) from ((kp_i eσ48 (by decide)).trans ((kp_c p25_0 (by decide)).trans rfl))); have : (σ48.1 386 a1).toInt = ((σ24.1 386 a1) : Int32).toInt := congrArg Int32.toInt (show σ48.1 386 a1 = (σ24.1 386 a1) from ((kp_i eσ48 (by decide)).trans rfl)); have : (σ48.1 65 a0).toInt = (v47 : Int32).toInt := congrArg Int32.toInt (show σ48.1 65 a0 = v47 from (kp_s eσ48)); have : (j45_4 : Int32).toInt < (76 : Int32).toInt := iv_lt.mp (iv_nle c11); have : (v18 : Int32).toInt = (0 : Int32).toInt := congrArg Int32.toInt c19; have : (0 : Int32).toInt = 0 := (by decide); have : (47 : Int32).toInt = 47 := (by decide); have : (76 : Int32).toInt = 76 := (by decide); omega) (by have := (i49).1; have := (i49).2; have := (iz385).1; have := (iz385).2; have := (f45_66_a0).1; have := (f45_66_a0).2; have := (f45_64_a0).1; have := (f45_64_a0).2; have := (f45_387_a1).1; have := (f45_387_a1).2; have := (i47).1; have := (i47).2; have := (i13).1; have := (i13).2; have := (i14).1; have := (i14).2; have := (i21).1; have := (i21).2; have := (i45).1; have := (i45).2; have : (σ48.1 385 a1).toInt = ((σ.1 385 a1) : Int32).toInt := congrArg Int32.toInt (show σ48.1 385 a1 = (σ.1 385 a1) from ((kp_i eσ48 (by decide)).trans ((kp_c p25_0 (by decide)).trans ((kp_c fr_45 (by decide)).trans ((kp_c frE_45 (by decide)).symm.trans (((kp_c p10_0 (by decide)).trans ((kp_i eσ8 (by decide)).trans ((kp_i eσ7 (by decide)).trans ((kp_i eσ6 (by decide)).trans ((kp_l eσ5).trans ((kp_l eσ4).trans ((kp_l eσ3).trans ((kp_c p2_0 (by decide)).trans rfl)))))))))))))); have : (σ48.1 66 a0).toInt = ((σ_45.1 66 a0) : Int32).toInt := congrArg Int32.toInt (show σ48.1 66 a0 = (σ_45.1 66 a0) from ((kp_i eσ48 (by decide)).trans ((kp_c p25_0 (by decide)).trans rfl))); have : (σ48.1 64 a0).toInt = ((σ_45.1 64 a0) : Int32).toInt := congrArg Int32.toInt (show σ48.1 64 a0 = (σ_45.1 64 a0) from ((kp_i eσ48 (by decide)).trans ((kp_c p25_0 (by decide)).trans rfl))); have : (σ48.1 387 a1).toInt = ((σ_45.1 387 a1) : Int32).toInt := congrArg Int32.toInt (show σ48.1 387 a1 = (σ_45.1 387 a1) from ((kp_i eσ48 (by decide)).trans ((kp_c p25_0 (by decide)).trans rfl))); have : (σ48.1 386 a1).toInt = ((σ24.1 386 a1) : Int32).toInt := congrArg Int32.toInt (show σ48.1 386 a1 = (σ24.1 386 a1) from ((kp_i eσ48 (by decide)).trans rfl)); have : (σ48.1 65 a0).toInt = (v47 : Int32).toInt := congrArg Int32.toInt (show σ48.1 65 a0 = v47 from (kp_s eσ48)); have : (j45_4 : Int32).toInt < (76 : Int32).toInt := iv_lt.mp (iv_nle c11); have : (v18 : Int32).toInt = (0 : Int32).toInt := congrArg Int32.toInt c19; have : (0 : Int32).toInt = 0 := (by decide); have : (47 : Int32).toInt = 47 := (by decide); have : (76 : Int32).toInt = 76 := (by decide); omega) (by have := (i49).1; have := (i49).2; have := (iz385).1; have := (iz385).2; have := (f45_66_a0).1; have := (f45_66_a0).2; have := (f45_64_a0).1; have := (f45_64_a0).2; have := (f45_387_a1).1; have := (f45_387_a1).2; have := (i47).1; have := (i47).2; have := (i13).1; have := (i13).2; have := (i14).1; have := (i14).2; have := (i21).1; have := (i21).2; have := (i45).1; have := (i45).2; have : (σ48.1 385 a1).toInt = ((σ.1 385 a1) : Int32).toInt := congrArg Int32.toInt (show σ48.1 385 a1 = (σ.1 385 a1) from ((kp_i eσ48 (by decide)).trans ((kp_c p25_0 (by decide)).trans ((kp_c fr_45 (by decide)).trans ((kp_c frE_45 (by decide)).symm.trans (((kp_c p10_0 (by decide)).trans ((kp_i eσ8 (by decide)).trans ((kp_i eσ7 (by decide)).trans ((kp_i eσ6 (by decide)).trans ((kp_l eσ5).trans ((kp_l eσ4).trans ((kp_l eσ3).trans ((kp_c p2_0 (by decide)).trans rfl)))))))))))))); have : (σ48.1 66 a0).toInt = ((σ_45.1 66 a0) : Int32).toInt := congrArg Int32.toInt (show σ48.1 66 a0 = (σ_45.1 66 a0) from ((kp_i eσ48 (by decide)).trans ((kp_c p25_0 (by decide)).trans rfl))); have : (σ48.1 64 a0).toInt = ((σ_45.1 64 a0) : Int32).toInt := congrArg Int32.toInt (show σ48.1 64 a0 = (σ_45.1 64 a0) from ((kp_i eσ48 (by decide)).trans ((kp_c p25_0 (by decide)).trans rfl))); have : (σ48.1 387 a1).toInt = ((σ_45.1 387 a1) : Int32).toInt := congrArg Int32.toInt (show σ48.1 387 a1 = (σ_45.1 387 a1) from ((kp_i eσ48 (by decide)).trans ((kp_c p25_0 (by decide)).trans rfl))); have : (σ48.1 386 a1).toInt = ((σ24.1 386 a1) : Int32).toInt := congrArg Int32.toInt (show σ48.1 386 a1 = (σ24.1 386 a1) from ((kp_i eσ48 (by decide)).trans rfl)); have : (σ48.1 65 a0).toInt = (v47 : Int32).toInt := congrArg Int32.toInt (show σ48.1 65 a0 = v47 from (kp_s eσ48)); have : (j45_4 : Int32).toInt < (76 : Int32).toInt := iv_lt.mp (iv_nle c11); have : (v18 : Int32).toInt = (0 : Int32).toInt := congrArg Int32.toInt c19; have : (0 : Int32).toInt = 0 := (by decide); have : (47 : Int32).toInt = 47 := (by decide); have : (76 : Int32).toInt = 76 := (by decide); omega) (by have := (i49).1; have := (i49).2; have := (iz385).1; have := (iz385).2; have := (f45_66_a0).1; have := (f45_66_a0).2; have := (f45_64_a0).1; have := (f45_64_a0).2; have := (f45_387_a1).1; have := (f45_387_a1).2; have := (i47).1; have := (i47).2; have := (i13).1; have := (i13).2; have := (i14).1; have := (i14).2; have := (i21).1; have := (i21).2; have := (i45).1; have := (i45).2; have : (σ48.1 385 a1).toInt = ((σ.1 385 a1) : Int32).toInt := congrArg Int32.toInt (show σ48.1 385 a1 = (σ.1 385 a1) from ((kp_i eσ48 (by decide)).trans ((kp_c p25_0 (by decide)).trans ((kp_c fr_45 (by decide)).trans ((kp_c frE_45 (by decide)).symm.trans (((kp_c p10_0 (by decide)).trans ((kp_i eσ8 (by decide)).trans ((kp_i eσ7 (by decide)).trans ((kp_i eσ6 (by decide)).trans ((kp_l eσ5).trans ((kp_l eσ4).trans ((kp_l eσ3).trans ((kp_c p2_0 (by decide)).trans rfl)))))))))))))); have : (σ48.1 66 a0).toInt = ((σ_45.1 66 a0) : Int32).toInt := congrArg Int32.toInt (show σ48.1 66 a0 = (σ_45.1 66 a0) from ((kp_i eσ48 (by decide)).trans ((kp_c p25_0 (by decide)).trans rfl))); have : (σ48.1 64 a0).toInt = ((σ_45.1 64 a0) : Int32).toInt := congrArg Int32.toInt (show σ48.1 64 a0 = (σ_45.1 64 a0) from ((kp_i eσ48 (by decide)).trans ((kp_c p25_0 (by decide)).trans rfl))); have : (σ48.1 387 a1).toInt = ((σ_45.1 387 a1) : Int32).toInt := congrArg Int32.toInt (show σ48.1 387 a1 = (σ_45.1 387 a1) from ((kp_i eσ48 (by decide)).trans ((kp_c p25_0 (by decide)).trans rfl))); have : (σ48.1 386 a1).toInt = ((σ24.1 386 a1) : Int32).toInt := congrArg Int32.toInt (show σ48.1 386 a1 = (σ24.1 386 a1) from ((kp_i eσ48 (by decide)).trans rfl)); have : (σ48.1 65 a0).toInt = (v47 : Int32).toInt := congrArg Int32.toInt (show σ48.1 65 a0 = v47 from (kp_s eσ48)); have : (j45_4 : Int32).toInt < (76 : Int32).toInt := iv_lt.mp (iv_nle c11); have : (v18 : Int32).toInt = (0 : Int32).toInt := congrArg Int32.toInt c19; have : (0 : Int32).toInt = 0 := (by decide); have : (47 : Int32).toInt = 47 := (by decide); have : (76 : Int32).toInt = 76 := (by decide); omega) _ (lv_sub hl [2, 3, 4, 1, 0] rfl)
  exact J_45 _ 0 (iv_w (⟨by decide, by decide⟩ : Iv 0 0 0) (by decide)) 0 (iv_w (⟨by decide, by decide⟩ : Iv 0 0 0) (by decide)) σ9 _ _ hw fr (kn_iv (((kp_c p10_0 (by decide)).trans ((kp_i eσ8 (by decide)).trans (kp_s eσ7)))) (iv_w (⟨by decide, by decide⟩ : Iv 0 0 0) (by decide))) (kn_iv (((kp_c p10_0 (by decide)).trans (kp_s eσ8))) (iv_w (⟨by decide, by decide⟩ : Iv 1 1 1) (by decide))) (kn_iv (((kp_c p10_0 (by decide)).trans ((kp_i eσ8 (by decide)).trans ((kp_i eσ7 (by decide)).trans (kp_s eσ6))))) (iv_w (⟨by decide, by decide⟩ : Iv 0 0 0) (by decide))) (kn_iv (rfl) (iv_w (iv_top (σ9.1 386 a1)) (by decide))) (kn_iv (rfl) (iv_w (iv_top (σ9.1 387 a1)) (by decide))) (Nat.lt_succ_self _) (mh_0 (by have := (iz385).1; have := (iz385).2; have : (σ9.1 385 a1).toInt = ((σ.1 385 a1) : Int32).toInt := congrArg Int32.toInt (show σ9.1 385 a1 = (σ.1 385 a1) from ((kp_c p10_0 (by decide)).trans ((kp_i eσ8 (by decide)).trans ((kp_i eσ7 (by decide)).trans ((kp_i eσ6 (by decide)).trans ((kp_l eσ5).trans ((kp_l eσ4).trans ((kp_l eσ3).trans ((kp_c p2_0 (by decide)).trans rfl))))))))); have : (σ9.1 66 a0).toInt = (0 : Int32).toInt := congrArg Int32.toInt (show σ9.1 66 a0 = 0 from ((kp_c p10_0 (by decide)).trans ((kp_i eσ8 (by decide)).trans ((kp_i eσ7 (by decide)).trans (kp_s eσ6))))); have : (σ9.1 64 a0).toInt = (0 : Int32).toInt := congrArg Int32.toInt (show σ9.1 64 a0 = 0 from ((kp_c p10_0 (by decide)).trans ((kp_i eσ8 (by decide)).trans (kp_s eσ7)))); have : (σ9.1 65 a0).toInt = (1 : Int32).toInt := congrArg Int32.toInt (show σ9.1 65 a0 = 1 from ((kp_c p10_0 (by decide)).trans (kp_s eσ8))); have : (0 : Int32).toInt = 0 := (by decide); have : (1 : Int32).toInt = 1 := (by decide); have : (76 : Int32).toInt = 76 := (by decide); omega)) (by have := (iz385).1; have := (iz385).2; have : (σ9.1 385 a1).toInt = ((σ.1 385 a1) : Int32).toInt := congrArg Int32.toInt (show σ9.1 385 a1 = (σ.1 385 a1) from ((kp_c p10_0 (by decide)).trans ((kp_i eσ8 (by decide)).trans ((kp_i eσ7 (by decide)).trans ((kp_i eσ6 (by decide)).trans ((kp_l eσ5).trans ((kp_l eσ4).trans ((kp_l eσ3).trans ((kp_c p2_0 (by decide)).trans rfl))))))))); have : (σ9.1 66 a0).toInt = (0 : Int32).toInt := congrArg Int32.toInt (show σ9.1 66 a0 = 0 from ((kp_c p10_0 (by decide)).trans ((kp_i eσ8 (by decide)).trans ((kp_i eσ7 (by decide)).trans (kp_s eσ6))))); have : (σ9.1 64 a0).toInt = (0 : Int32).toInt := congrArg Int32.toInt (show σ9.1 64 a0 = 0 from ((kp_c p10_0 (by decide)).trans ((kp_i eσ8 (by decide)).trans (kp_s eσ7)))); have : (σ9.1 65 a0).toInt = (1 : Int32).toInt := congrArg Int32.toInt (show σ9.1 65 a0 = 1 from ((kp_c p10_0 (by decide)).trans (kp_s eσ8))); have : (0 : Int32).toInt = 0 := (by decide); have : (1 : Int32).toInt = 1 := (by decide); have : (76 : Int32).toInt = 76 := (by decide); omega) (by have := (iz385).1; have := (iz385).2; have : (σ9.1 385 a1).toInt = ((σ.1 385 a1) : Int32).toInt := congrArg Int32.toInt (show σ9.1 385 a1 = (σ.1 385 a1) from ((kp_c p10_0 (by decide)).trans ((kp_i eσ8 (by decide)).trans ((kp_i eσ7 (by decide)).trans ((kp_i eσ6 (by decide)).trans ((kp_l eσ5).trans ((kp_l eσ4).trans ((kp_l eσ3).trans ((kp_c p2_0 (by decide)).trans rfl))))))))); have : (σ9.1 66 a0).toInt = (0 : Int32).toInt := congrArg Int32.toInt (show σ9.1 66 a0 = 0 from ((kp_c p10_0 (by decide)).trans ((kp_i eσ8 (by decide)).trans ((kp_i eσ7 (by decide)).trans (kp_s eσ6))))); have : (σ9.1 64 a0).toInt = (0 : Int32).toInt := congrArg Int32.toInt (show σ9.1 64 a0 = 0 from ((kp_c p10_0 (by decide)).trans ((kp_i eσ8 (by decide)).trans (kp_s eσ7)))); have : (σ9.1 65 a0).toInt = (1 : Int32).toInt := congrArg Int32.toInt (show σ9.1 65 a0 = 1 from ((kp_c p10_0 (by decide)).trans (kp_s eσ8))); have : (0 : Int32).toInt = 0 := (by decide); have : (1 : Int32).toInt = 1 := (by decide); have : (76 : Int32).toInt = 76 := (by decide); omega) (by have := (iz385).1; have := (iz385).2; have : (σ9.1 385 a1).toInt = ((σ.1 385 a1) : Int32).toInt := congrArg Int32.toInt (show σ9.1 385 a1 = (σ.1 385 a1) from ((kp_c p10_0 (by decide)).trans ((kp_i eσ8 (by decide)).trans ((kp_i eσ7 (by decide)).trans ((kp_i eσ6 (by decide)).trans ((kp_l eσ5).trans ((kp_l eσ4).trans ((kp_l eσ3).trans ((kp_c p2_0 (by decide)).trans rfl))))))))); have : (σ9.1 66 a0).toInt = (0 : Int32).toInt := congrArg Int32.toInt (show σ9.1 66 a0 = 0 from ((kp_c p10_0 (by decide)).trans ((kp_i eσ8 (by decide)).trans ((kp_i eσ7 (by decide)).trans (kp_s eσ6))))); have : (σ9.1 64 a0).toInt = (0 : Int32).toInt := congrArg Int32.toInt (show σ9.1 64 a0 = 0 from ((kp_c p10_0 (by decide)).trans ((kp_i eσ8 (by decide)).trans (kp_s eσ7)))); have : (σ9.1 65 a0).toInt = (1 : Int32).toInt := congrArg Int32.toInt (show σ9.1 65 a0 = 1 from ((kp_c p10_0 (by decide)).trans (kp_s eσ8))); have : (0 : Int32).toInt = 0 := (by decide); have : (1 : Int32).toInt = 1 := (by decide); have : (76 : Int32).toInt = 76 := (by decide); omega) (by have := (iz385).1; have := (iz385).2; have : (σ9.1 385 a1).toInt = ((σ.1 385 a1) : Int32).toInt := congrArg Int32.toInt (show σ9.1 385 a1 = (σ.1 385 a1) from ((kp_c p10_0 (by decide)).trans ((kp_i eσ8 (by decide)).trans ((kp_i eσ7 (by decide)).trans ((kp_i eσ6 (by decide)).trans ((kp_l eσ5).trans ((kp_l eσ4).trans ((kp_l eσ3).trans ((kp_c p2_0 (by decide)).trans rfl))))))))); have : (σ9.1 66 a0).toInt = (0 : Int32).toInt := congrArg Int32.toInt (show σ9.1 66 a0 = 0 from ((kp_c p10_0 (by decide)).trans ((kp_i eσ8 (by decide)).trans ((kp_i eσ7 (by decide)).trans (kp_s eσ6))))); have : (σ9.1 64 a0).toInt = (0 : Int32).toInt := congrArg Int32.toInt (show σ9.1 64 a0 = 0 from ((kp_c p10_0 (by decide)).trans ((kp_i eσ8 (by decide)).trans (kp_s eσ7)))); have : (σ9.1 65 a0).toInt = (1 : Int32).toInt := congrArg Int32.toInt (show σ9.1 65 a0 = 1 from ((kp_c p10_0 (by decide)).trans (kp_s eσ8))); have : (0 : Int32).toInt = 0 := (by decide); have : (1 : Int32).toInt = 1 := (by decide); have : (76 : Int32).toInt = 76 := (by decide); omega) _ (lv_sub hl [2, 3, 4, 1, 0] rfl)
abbrev fs_X3_forget : List Nat := [130]
abbrev ts_X3_forget : List Nat := []
set_option maxHeartbeats 4000000 in
set_option maxRecDepth 100000 in
theorem c_X3_forget (a0 : Nat) (ha0 : oA L τ a0 2) : oMet l A L τ cy D K yX3_forget cX3_forget 1 none 0 0 [.ref a0] σ (va_Qv (fun σ1 => oFr τ fs_X3_forget ts_X3_forget σ σ1) (oPo A L τ cy D) A) := by
  refine oMk (by decide) (Nat.le_of_ble_eq_true rfl) rfl ?_
  intro p e s m args below meth c ls cx rx hA hw hl
  generalize hQ : MQ below _ args s 0 0 A = Q
  have hx := cx.1.1
  have hb := cx.1.2.1
  have hml := cx.1.2.2.1
  have hown := cx.1.2.2.2.1
  have hts := cx.1.2.2.2.2
  have hl : lv_has ls 1 [(0, .ref a0)] := hl
  have fr : oFr τ fs_X3_forget ts_X3_forget σ σ := oFr_rf
  refine lv_aload_n hx hb dX3_forget_0 rfl (lv_at hl 0 rfl) ?_
  refine lv_iconst (v := 0) hx hb dX3_forget_1 (by decide) ?_
  refine p_130 cx hw ha0 (iv_w (⟨by decide, by decide⟩ : Iv 0 0 0) (by decide)) k_f_X3_16 dX3_forget_2 (fun σ1 H locs eσ1 hw => ?_)
  have fr := oFr_i fr eσ1 (by decide)
  rw [← hQ]
  exact o_rv cx rx hw dX3_forget_5 fr
abbrev fs_X7_empty : List Nat := [385]
abbrev ts_X7_empty : List Nat := []
set_option maxHeartbeats 4000000 in
set_option maxRecDepth 100000 in
theorem c_X7_empty (a0 : Nat) (ha0 : oA L τ a0 6) : oMet l A L τ cy D K yX7_empty cX7_empty 1 none 0 0 [.ref a0] σ (va_Qv (fun σ1 => oFr τ fs_X7_empty ts_X7_empty σ σ1 ∧ Iv (σ1.1 385 a0) 0 0) (oPo A L τ cy D) A) := by
  refine oMk (by decide) (Nat.le_of_ble_eq_true rfl) rfl ?_
  intro p e s m args below meth c ls cx rx hA hw hl
  generalize hQ : MQ below _ args s 0 0 A = Q
  have hx := cx.1.1
  have hb := cx.1.2.1
  have hml := cx.1.2.2.1
  have hown := cx.1.2.2.2.1
  have hts := cx.1.2.2.2.2
  have hl : lv_has ls 1 [(0, .ref a0)] := hl
  have fr : oFr τ fs_X7_empty ts_X7_empty σ σ := oFr_rf
  refine lv_aload_n hx hb dX7_empty_0 rfl (lv_at hl 0 rfl) ?_
  refine lv_iconst (v := 0) hx hb dX7_empty_1 (by decide) ?_
  refine p_385 cx hw ha0 (iv_w (⟨by decide, by decide⟩ : Iv 0 0 0) (by decide)) k_f_X7_19 dX7_empty_2 (fun σ1 H locs eσ1 hw => ?_)
  have fr := oFr_i fr eσ1 (by decide)
  rw [← hQ]
  exact o_rv cx rx hw dX7_empty_5 ⟨fr, (kn_iv ((kp_s eσ1)) (iv_w (⟨by decide, by decide⟩ : Iv 0 0 0) (by decide)))⟩
abbrev fs_X6_copyFrom : List Nat := [327, 328, 329, 330, 331]
abbrev ts_X6_copyFrom : List Nat := [32, 33, 34]
set_option maxHeartbeats 4000000 in
set_option maxRecDepth 100000 in
theorem c_X6_copyFrom (a0 : Nat) (ha0 : oA L τ a0 5) (a1 : Nat) (ha1 : oA L τ a1 5) : oMet l A L τ cy D K yX6_copyFrom cX6_copyFrom 2 none 1 60 [.ref a0, .ref a1] σ (va_Qv (fun σ1 => oFr τ fs_X6_copyFrom ts_X6_copyFrom σ σ1) (oPo A L τ cy D) A) := by
  refine oMk (by decide) (Nat.le_of_ble_eq_true rfl) rfl ?_
  intro p e s m args below meth c ls cx rx hA hw hl
  generalize hQ : MQ below _ args s 0 0 A = Q
  have hx := cx.1.1
  have hb := cx.1.2.1
  have hml := cx.1.2.2.1
  have hown := cx.1.2.2.2.1
  have hts := cx.1.2.2.2.2
  have hl : lv_has ls 2 [(0, .ref a0), (1, .ref a1)] := hl
  have fr : oFr τ fs_X6_copyFrom ts_X6_copyFrom σ σ := oFr_rf
  refine lv_aload_n hx hb dX6_copyFrom_0 rfl (lv_at hl 1 rfl) ?_
  refine g_320 cx hw ha1 k_f_X6_9 dX6_copyFrom_1 (fun v1 e1 h1 => ?_)
  refine lv_iconst (v := 0) hx hb dX6_copyFrom_4 (by decide) ?_
  refine lv_aload_n hx hb dX6_copyFrom_5 rfl (lv_at hl 0 rfl) ?_
  refine g_320 cx hw ha0 k_f_X6_9 dX6_copyFrom_6 (fun v2 e2 h2 => ?_)
  refine lv_iconst (v := 0) hx hb dX6_copyFrom_9 (by decide) ?_
  refine lv_bipush (v := 64) hx hb dX6_copyFrom_10 (by decide) ?_
  refine o_copyi cx hw h1 h2 (by decide) rfl (by decide) k_m_X6_55 hl.1 (by decide) (Nat.le_of_ble_eq_true rfl) dX6_copyFrom_12 (fun σ3 H locs eσ3 hw => ?_)
  have fr := oFr_p fr eσ3 h2 (by decide)
  refine lv_aload_n hx hb dX6_copyFrom_15 rfl (lv_at hl 1 rfl) ?_
  refine g_321 cx hw ha1 k_f_X6_15 dX6_copyFrom_16 (fun v4 e4 h4 => ?_)
  refine lv_iconst (v := 0) hx hb dX6_copyFrom_19 (by decide) ?_
  refine lv_aload_n hx hb dX6_copyFrom_20 rfl (lv_at hl 0 rfl) ?_
  refine g_321 cx hw ha0 k_f_X6_15 dX6_copyFrom_21 (fun v5 e5 h5 => ?_)
  refine lv_iconst (v := 0) hx hb dX6_copyFrom_24 (by decide) ?_
  refine lv_bipush (v := 64) hx hb dX6_copyFrom_25 (by decide) ?_
  refine o_copyi cx hw h4 h5 (by decide) rfl (by decide) k_m_X6_55 hl.1 (by decide) (Nat.le_of_ble_eq_true rfl) dX6_copyFrom_27 (fun σ6 H locs eσ6 hw => ?_)
  have fr := oFr_p fr eσ6 h5 (by decide)
  refine lv_aload_n hx hb dX6_copyFrom_30 rfl (lv_at hl 1 rfl) ?_
  refine g_322 cx hw ha1 k_f_X6_18 dX6_copyFrom_31 (fun v7 e7 h7 => ?_)
  refine lv_iconst (v := 0) hx hb dX6_copyFrom_34 (by decide) ?_
  refine lv_aload_n hx hb dX6_copyFrom_35 rfl (lv_at hl 0 rfl) ?_
  refine g_322 cx hw ha0 k_f_X6_18 dX6_copyFrom_36 (fun v8 e8 h8 => ?_)
  refine lv_iconst (v := 0) hx hb dX6_copyFrom_39 (by decide) ?_
  refine lv_bipush (v := 64) hx hb dX6_copyFrom_40 (by decide) ?_
  refine o_copyi cx hw h7 h8 (by decide) rfl (by decide) k_m_X6_55 hl.1 (by decide) (Nat.le_of_ble_eq_true rfl) dX6_copyFrom_42 (fun σ9 H locs eσ9 hw => ?_)
  have fr := oFr_p fr eσ9 h8 (by decide)
  refine lv_aload_n hx hb dX6_copyFrom_45 rfl (lv_at hl 1 rfl) ?_
  refine g_323 cx hw ha1 k_f_X6_21 dX6_copyFrom_46 (fun v10 e10 h10 => ?_)
  refine lv_iconst (v := 0) hx hb dX6_copyFrom_49 (by decide) ?_
  refine lv_aload_n hx hb dX6_copyFrom_50 rfl (lv_at hl 0 rfl) ?_
  refine g_323 cx hw ha0 k_f_X6_21 dX6_copyFrom_51 (fun v11 e11 h11 => ?_)
  refine lv_iconst (v := 0) hx hb dX6_copyFrom_54 (by decide) ?_
  refine lv_bipush (v := 64) hx hb dX6_copyFrom_55 (by decide) ?_
  refine o_copyi cx hw h10 h11 (by decide) rfl (by decide) k_m_X6_55 hl.1 (by decide) (Nat.le_of_ble_eq_true rfl) dX6_copyFrom_57 (fun σ12 H locs eσ12 hw => ?_)
  have fr := oFr_p fr eσ12 h11 (by decide)
  refine lv_aload_n hx hb dX6_copyFrom_60 rfl (lv_at hl 1 rfl) ?_
  refine g_324 cx hw ha1 k_f_X6_24 dX6_copyFrom_61 (fun v13 e13 h13 => ?_)
  refine lv_iconst (v := 0) hx hb dX6_copyFrom_64 (by decide) ?_
  refine lv_aload_n hx hb dX6_copyFrom_65 rfl (lv_at hl 0 rfl) ?_
  refine g_324 cx hw ha0 k_f_X6_24 dX6_copyFrom_66 (fun v14 e14 h14 => ?_)
  refine lv_iconst (v := 0) hx hb dX6_copyFrom_69 (by decide) ?_
  refine lv_bipush (v := 64) hx hb dX6_copyFrom_70 (by decide) ?_
  refine o_copyi cx hw h13 h14 (by decide) rfl (by decide) k_m_X6_55 hl.1 (by decide) (Nat.le_of_ble_eq_true rfl) dX6_copyFrom_72 (fun σ15 H locs eσ15 hw => ?_)
  have fr := oFr_p fr eσ15 h14 (by decide)
  refine lv_aload_n hx hb dX6_copyFrom_75 rfl (lv_at hl 1 rfl) ?_
  refine g_325 cx hw ha1 k_f_X6_27 dX6_copyFrom_76 (fun v16 e16 h16 => ?_)
  refine lv_iconst (v := 0) hx hb dX6_copyFrom_79 (by decide) ?_
  refine lv_aload_n hx hb dX6_copyFrom_80 rfl (lv_at hl 0 rfl) ?_
  refine g_325 cx hw ha0 k_f_X6_27 dX6_copyFrom_81 (fun v17 e17 h17 => ?_)
  refine lv_iconst (v := 0) hx hb dX6_copyFrom_84 (by decide) ?_
  refine lv_bipush (v := 6) hx hb dX6_copyFrom_85 (by decide) ?_
  refine o_copyi cx hw h16 h17 (by decide) rfl (by decide) k_m_X6_55 hl.1 (by decide) (Nat.le_of_ble_eq_true rfl) dX6_copyFrom_87 (fun σ18 H locs eσ18 hw => ?_)
  have fr := oFr_p fr eσ18 h17 (by decide)
  refine lv_aload_n hx hb dX6_copyFrom_90 rfl (lv_at hl 1 rfl) ?_
  refine g_326 cx hw ha1 k_f_X6_30 dX6_copyFrom_91 (fun v19 e19 h19 => ?_)
  refine lv_iconst (v := 0) hx hb dX6_copyFrom_94 (by decide) ?_
  refine lv_aload_n hx hb dX6_copyFrom_95 rfl (lv_at hl 0 rfl) ?_
  refine g_326 cx hw ha0 k_f_X6_30 dX6_copyFrom_96 (fun v20 e20 h20 => ?_)
  refine lv_iconst (v := 0) hx hb dX6_copyFrom_99 (by decide) ?_
  refine lv_bipush (v := 6) hx hb dX6_copyFrom_100 (by decide) ?_
  refine o_copyi cx hw h19 h20 (by decide) rfl (by decide) k_m_X6_55 hl.1 (by decide) (Nat.le_of_ble_eq_true rfl) dX6_copyFrom_102 (fun σ21 H locs eσ21 hw => ?_)
  have fr := oFr_p fr eσ21 h20 (by decide)
  refine lv_aload_n hx hb dX6_copyFrom_105 rfl (lv_at hl 0 rfl) ?_
  refine lv_aload_n hx hb dX6_copyFrom_106 rfl (lv_at hl 1 rfl) ?_
  refine g_327 cx hw ha1 k_f_X6_39 dX6_copyFrom_107 (fun v22 e22 i22 => ?_)
  refine p_327 cx hw ha0 (iv_w i22 (by decide)) k_f_X6_39 dX6_copyFrom_110 (fun σ23 H locs eσ23 hw => ?_)
  have fr := oFr_i fr eσ23 (by decide)
  refine lv_aload_n hx hb dX6_copyFrom_113 rfl (lv_at hl 0 rfl) ?_
  refine lv_aload_n hx hb dX6_copyFrom_114 rfl (lv_at hl 1 rfl) ?_
  refine g_328 cx hw ha1 k_f_X6_43 dX6_copyFrom_115 (fun v24 e24 => ?_)
  refine p_328 cx hw ha0 k_f_X6_43 dX6_copyFrom_118 (fun σ25 H locs eσ25 hw => ?_)
  have fr := oFr_i fr eσ25 (by decide)
  refine lv_aload_n hx hb dX6_copyFrom_121 rfl (lv_at hl 0 rfl) ?_
  refine lv_aload_n hx hb dX6_copyFrom_122 rfl (lv_at hl 1 rfl) ?_
  refine g_329 cx hw ha1 k_f_X6_46 dX6_copyFrom_123 (fun v26 e26 => ?_)
  refine p_329 cx hw ha0 k_f_X6_46 dX6_copyFrom_126 (fun σ27 H locs eσ27 hw => ?_)
  have fr := oFr_i fr eσ27 (by decide)
  refine lv_aload_n hx hb dX6_copyFrom_129 rfl (lv_at hl 0 rfl) ?_
  refine lv_aload_n hx hb dX6_copyFrom_130 rfl (lv_at hl 1 rfl) ?_
  refine g_330 cx hw ha1 k_f_X6_49 dX6_copyFrom_131 (fun v28 e28 => ?_)
  refine p_330 cx hw ha0 k_f_X6_49 dX6_copyFrom_134 (fun σ29 H locs eσ29 hw => ?_)
  have fr := oFr_i fr eσ29 (by decide)
  refine lv_aload_n hx hb dX6_copyFrom_137 rfl (lv_at hl 0 rfl) ?_
  refine lv_aload_n hx hb dX6_copyFrom_138 rfl (lv_at hl 1 rfl) ?_
  refine g_331 cx hw ha1 k_f_X6_52 dX6_copyFrom_139 (fun v30 e30 => ?_)
  refine p_331 cx hw ha0 k_f_X6_52 dX6_copyFrom_142 (fun σ31 H locs eσ31 hw => ?_)
  have fr := oFr_i fr eσ31 (by decide)
  rw [← hQ]
  exact o_rv cx rx hw dX6_copyFrom_145 fr
abbrev fs_X7_column : List Nat := [386]
abbrev ts_X7_column : List Nat := []
set_option maxHeartbeats 4000000 in
set_option maxRecDepth 100000 in
theorem c_X7_column (a0 : Nat) (ha0 : oA L τ a0 6) (a1 : Int32) : oMet l A L τ cy D K yX7_column cX7_column 2 (some .int) 2 44 [.ref a0, .int a1] σ (va_Qi (fun r σ1 => oFr τ fs_X7_column ts_X7_column σ σ1 ∧ Iv r (-1) 207) (oPo A L τ cy D) A) := by
  refine oMk (by decide) (Nat.le_of_ble_eq_true rfl) rfl ?_
  intro p e s m args below meth c ls cx rx hA hw hl
  generalize hQ : MQ below _ args s 0 0 A = Q
  have hx := cx.1.1
  have hb := cx.1.2.1
  have hml := cx.1.2.2.1
  have hown := cx.1.2.2.2.1
  have hts := cx.1.2.2.2.2
  have hl : lv_has ls 2 [(0, .ref a0), (1, .int a1)] := hl
  have fr : oFr τ fs_X7_column ts_X7_column σ σ := oFr_rf
  refine lv_aload_n hx hb dX7_column_0 rfl (lv_at hl 0 rfl) ?_
  refine lv_bipush (v := 97) hx hb dX7_column_1 (by decide) ?_
  refine lv_iconst (v := 0) hx hb dX7_column_3 (by decide) ?_
  refine lv_iload_n hx hb dX7_column_4 rfl (lv_at hl 1 rfl) ?_
  refine lv_iconst (v := 1) hx hb dX7_column_5 (by decide) ?_
  refine lv_isub hx hb dX7_column_6 ?_
  refine lv_topi (fun v1 e1 => ?_)
  have i2 : Iv (σ.1 385 a0) 0 80 := o_fb (j := 385) hw ha0 rfl
  refine o_ci hw (oRunV cx hA hw q_X7_takeFrom k_m_X7_50 rfl ha0 (by decide) (As := [.int 97, .int 0, .int v1]) (c_X7_takeFrom a0 ha0 97 (iv_w (⟨by decide, by decide⟩ : Iv 97 97 97) (by decide)) 0 (iv_w (⟨by decide, by decide⟩ : Iv 0 0 0) (by decide)) v1) (by decide) rfl hl.1 rfl (Nat.le_of_ble_eq_true rfl) dX7_column_7 (by decide)) (fun v4 σ3 H locs hp hw => ?_)
  obtain ⟨p4_0, p4_1, p4_2⟩ := hp
  have fr := oFr_tr fr p4_0 (by decide)
  rw [← hQ]
  exact o_ri cx rx hw dX7_column_10 ⟨fr, (iv_w p4_1 (by decide))⟩
abbrev fs_X10_readCell : List Nat := [386]
abbrev ts_X10_readCell : List Nat := []
set_option maxHeartbeats 4000000 in
set_option maxRecDepth 100000 in
theorem c_X10_readCell (a0 : Nat) (ha0 : oA L τ a0 9) (a1 : Int32) (a2 : Int32) : oMet l A L τ cy D K yX10_readCell cX10_readCell 5 (some .int) 3 66 [.ref a0, .int a1, .int a2] σ (va_Qi (fun r σ1 => oFr τ fs_X10_readCell ts_X10_readCell σ σ1) (oPo A L τ cy D) A) := by
  refine oMk (by decide) (Nat.le_of_ble_eq_true rfl) rfl ?_
  intro p e s m args below meth c ls cx rx hA hw hl
  generalize hQ : MQ below _ args s 0 0 A = Q
  have hx := cx.1.1
  have hb := cx.1.2.1
  have hml := cx.1.2.2.1
  have hown := cx.1.2.2.2.1
  have hts := cx.1.2.2.2.2
  have hl : lv_has ls 5 [(0, .ref a0), (1, .int a1), (2, .int a2)] := hl
  have fr : oFr τ fs_X10_readCell ts_X10_readCell σ σ := oFr_rf
  refine lv_aload_n hx hb dX10_readCell_0 rfl (lv_at hl 0 rfl) ?_
  refine g_576 cx hw ha0 k_f_X10_10 dX10_readCell_1 (fun v1 e1 h1 => ?_)
  refine lv_iload_n hx hb dX10_readCell_4 rfl (lv_at hl 1 rfl) ?_
  refine o_ci hw (oRunV cx hA hw q_X7_column k_m_X10_254 rfl h1 (by decide) (As := [.int a1]) (c_X7_column v1 h1 a1) (by decide) rfl hl.1 rfl (Nat.le_of_ble_eq_true rfl) dX10_readCell_5 (by decide)) (fun v3 σ2 H locs hp hw => ?_)
  obtain ⟨p3_0, p3_1⟩ := hp
  have fr := oFr_tr fr p3_0 (by decide)
  refine lv_istore_n (lv' := [(3, .int v3), (0, .ref a0), (1, .int a1), (2, .int a2)]) hx hb dX10_readCell_8 rfl hl (by decide) rfl (fun ls hl => ?_)
  refine lv_iload_n hx hb dX10_readCell_9 rfl (lv_at hl 0 rfl) ?_
  refine lv_iconst (v := (-1)) hx hb dX10_readCell_10 (by decide) ?_
  refine lv_icmp_ne (tgt := 16) hx hb dX10_readCell_11 (by decide) (fun c4 => ?_) (fun c4 => ?_)
  · --
    have i5 : Iv v3 0 207 := iv_ne1 c4 p3_1 (⟨by decide, by decide⟩ : Iv (-1) (-1) (-1)) (by decide)
    refine lv_aload_n hx hb dX10_readCell_16 rfl (lv_at hl 1 rfl) ?_
    refine g_576 cx hw ha0 k_f_X10_10 dX10_readCell_17 (fun v6 e6 h6 => ?_)
    rw [show v6 = v1 from Option.some.inj (e6.symm.trans (((kr_c p3_0 (by decide)).trans e1)))]
    refine lv_iconst (v := 1) hx hb dX10_readCell_20 (by decide) ?_
    refine lv_iload_n hx hb dX10_readCell_21 rfl (lv_at hl 3 rfl) ?_
    have i7 : Iv (σ2.1 385 v1) 0 80 := o_fb (j := 385) hw h1 rfl
    refine o_ci hw (oRunV cx hA hw q_X7_digit k_m_X10_247 rfl h1 (by decide) (As := [.int 1, .int a2]) (c_X7_digit v1 h1 1 (iv_w (⟨by decide, by decide⟩ : Iv 1 1 1) (by decide)) a2) (by decide) rfl hl.1 rfl (Nat.le_of_ble_eq_true rfl) dX10_readCell_22 (by decide)) (fun v9 σ8 H locs hp hw => ?_)
    obtain ⟨p9_0, p9_1, p9_2⟩ := hp
    have fr := oFr_tr fr p9_0 (by decide)
    refine lv_istore (lv' := [(4, .int v9), (3, .int v3), (0, .ref a0), (1, .int a1), (2, .int a2)]) hx hb dX10_readCell_25 hl (by decide) rfl (fun ls hl => ?_)
    refine lv_iload hx hb dX10_readCell_27 (lv_at hl 0 rfl) ?_
    refine lv_iconst (v := (-1)) hx hb dX10_readCell_29 (by decide) ?_
    refine lv_icmp_ne (tgt := 37) hx hb dX10_readCell_30 (by decide) (fun c10 => ?_) (fun c10 => ?_)
    · --
      have i11 : Iv v9 0 207 := iv_ne1 c10 p9_1 (⟨by decide, by decide⟩ : Iv (-1) (-1) (-1)) (by decide)
      refine lv_bipush (v := 8) hx hb dX10_readCell_37 (by decide) ?_
      refine lv_iload hx hb dX10_readCell_39 (lv_at hl 0 rfl) ?_
      refine lv_iconst (v := 1) hx hb dX10_readCell_41 (by decide) ?_
      refine lv_isub hx hb dX10_readCell_42 ?_
      refine lv_topi (fun v12 e12 => ?_)
      have i12 : Iv v12 (-1) 206 := iv_sub e12 i11 (⟨by decide, by decide⟩ : Iv 1 1 1) (by decide)
      have x12 : v12.toInt = v9.toInt + (-1) := ex_sub e12 i11 (⟨by decide, by decide⟩ : Iv 1 1 1) (by decide)
      refine lv_imul hx hb dX10_readCell_43 ?_
      refine lv_topi (fun v13 e13 => ?_)
      refine lv_iload_n hx hb dX10_readCell_44 rfl (lv_at hl 1 rfl) ?_
      refine lv_iadd hx hb dX10_readCell_45 ?_
      refine lv_topi (fun v14 e14 => ?_)
      rw [← hQ]
      exact o_ri cx rx hw dX10_readCell_46 fr
    · --
      have i15 : Iv v9 (-1) (-1) := iv_eq1 c10 p9_1 (⟨by decide, by decide⟩ : Iv (-1) (-1) (-1)) (by decide)
      refine lv_iconst (v := (-1)) hx hb dX10_readCell_33 (by decide) ?_
      refine lv_goto (tgt := 46) hx hb dX10_readCell_34 (by decide) ?_
      rw [← hQ]
      exact o_ri cx rx hw dX10_readCell_46 fr
  · --
    have i16 : Iv v3 (-1) (-1) := iv_eq1 c4 p3_1 (⟨by decide, by decide⟩ : Iv (-1) (-1) (-1)) (by decide)
    refine lv_iconst (v := (-1)) hx hb dX10_readCell_14 (by decide) ?_
    rw [← hQ]
    exact o_ri cx rx hw dX10_readCell_15 fr
set_option maxHeartbeats 4000000 in
set_option maxRecDepth 100000 in
theorem c_X0_has (a0 : Int64) (a1 : Int32) : oMet l A L τ cy D K yX0_has cX0_has 3 (some .boolean) 0 0 [.long a0, .int a1] σ (va_Qi (fun r σ1 => σ1 = σ ∧ Iv r 0 1 ∧ (¬ r = 0 → Iv a1 0 63)) (oPo A L τ cy D) A) := by
  refine oMk (by decide) (Nat.le_of_ble_eq_true rfl) rfl ?_
  intro p e s m args below meth c ls cx rx hA hw hl
  generalize hQ : MQ below _ args s 0 0 A = Q
  have hx := cx.1.1
  have hb := cx.1.2.1
  have hml := cx.1.2.2.1
  have hown := cx.1.2.2.2.1
  have hts := cx.1.2.2.2.2
  have hl : lv_has ls 3 [(0, .long a0), (2, .int a1)] := hl
  refine lv_iload_n hx hb dX0_has_0 rfl (lv_at hl 1 rfl) ?_
  refine lv_if_lt (tgt := 24) hx hb dX0_has_1 (by decide) (fun c1 => ?_) (fun c1 => ?_)
  · --
    have i2 : Iv a1 (-2147483648) (-1) := iv_lt1 c1 (iv_top a1) (⟨by decide, by decide⟩ : Iv 0 0 0) (by decide)
    refine lv_iconst (v := 0) hx hb dX0_has_24 (by decide) ?_
    rw [← hQ]
    exact o_rz cx rx hw (iv_nz01 (iv_w (⟨by decide, by decide⟩ : Iv 0 0 0) (by decide))) dX0_has_25 ⟨rfl, (iv_w (⟨by decide, by decide⟩ : Iv 0 0 0) (by decide)), (fun h => absurd rfl h)⟩
  · --
    have i3 : Iv a1 0 2147483647 := iv_le2 (iv_nlt c1) (⟨by decide, by decide⟩ : Iv 0 0 0) (iv_top a1) (by decide)
    refine lv_iload_n hx hb dX0_has_4 rfl (lv_at hl 1 rfl) ?_
    refine lv_bipush (v := 64) hx hb dX0_has_5 (by decide) ?_
    refine lv_icmp_ge (tgt := 24) hx hb dX0_has_7 (by decide) (fun c4 => ?_) (fun c4 => ?_)
    · --
      have i5 : Iv a1 64 2147483647 := iv_le2 c4 (⟨by decide, by decide⟩ : Iv 64 64 64) i3 (by decide)
      refine lv_iconst (v := 0) hx hb dX0_has_24 (by decide) ?_
      rw [← hQ]
      exact o_rz cx rx hw (iv_nz01 (iv_w (⟨by decide, by decide⟩ : Iv 0 0 0) (by decide))) dX0_has_25 ⟨rfl, (iv_w (⟨by decide, by decide⟩ : Iv 0 0 0) (by decide)), (fun h => absurd rfl h)⟩
    · --
      have i6 : Iv a1 0 63 := iv_lt1 (iv_nle c4) i3 (⟨by decide, by decide⟩ : Iv 64 64 64) (by decide)
      refine lv_lload_n hx hb dX0_has_10 rfl (lv_at hl 0 rfl) ?_
      refine lv_iload_n hx hb dX0_has_11 rfl (lv_at hl 1 rfl) ?_
      refine lv_lushr hx hb dX0_has_12 rfl ?_
      refine lv_topl (fun v7 e7 => ?_)
      refine lv_lconst (v := 1) hx hb dX0_has_13 (by decide) ?_
      refine lv_land hx hb dX0_has_14 ?_
      refine lv_topl (fun v8 e8 => ?_)
      refine lv_lconst (v := 0) hx hb dX0_has_15 (by decide) ?_
      refine W.lcmp hx hb dX0_has_16 ?_
      refine lv_topi (fun v9 e9 => ?_)
      have i9 : Iv v9 (-1) 1 := iv_lcmp e9
      refine lv_if_eq (tgt := 24) hx hb dX0_has_17 (by decide) (fun c10 => ?_) (fun c10 => ?_)
      · --
        have i11 : Iv v9 0 0 := iv_eq1 c10 i9 (⟨by decide, by decide⟩ : Iv 0 0 0) (by decide)
        refine lv_iconst (v := 0) hx hb dX0_has_24 (by decide) ?_
        rw [← hQ]
        exact o_rz cx rx hw (iv_nz01 (iv_w (⟨by decide, by decide⟩ : Iv 0 0 0) (by decide))) dX0_has_25 ⟨rfl, (iv_w (⟨by decide, by decide⟩ : Iv 0 0 0) (by decide)), (fun h => absurd rfl h)⟩
      · --
        refine lv_iconst (v := 1) hx hb dX0_has_20 (by decide) ?_
        refine lv_goto (tgt := 25) hx hb dX0_has_21 (by decide) ?_
        rw [← hQ]
        exact o_rz cx rx hw (iv_nz01 (iv_w (⟨by decide, by decide⟩ : Iv 1 1 1) (by decide))) dX0_has_25 ⟨rfl, (iv_w (⟨by decide, by decide⟩ : Iv 1 1 1) (by decide)), (fun _ => iv_w i6 (by decide))⟩
set_option maxHeartbeats 4000000 in
set_option maxRecDepth 100000 in
theorem c_X2_isPlain (a0 : Nat) (ha0 : oA L τ a0 1) (a1 : Int32) : oMet l A L τ cy D K yX2_isPlain cX2_isPlain 2 (some .boolean) 1 22 [.ref a0, .int a1] σ (va_Qi (fun r σ1 => σ1 = σ ∧ Iv r 0 1 ∧ (¬ r = 0 → Iv a1 0 63)) (oPo A L τ cy D) A) := by
  refine oMk (by decide) (Nat.le_of_ble_eq_true rfl) rfl ?_
  intro p e s m args below meth c ls cx rx hA hw hl
  generalize hQ : MQ below _ args s 0 0 A = Q
  have hx := cx.1.1
  have hb := cx.1.2.1
  have hml := cx.1.2.2.1
  have hown := cx.1.2.2.2.1
  have hts := cx.1.2.2.2.2
  have hl : lv_has ls 2 [(0, .ref a0), (1, .int a1)] := hl
  refine lv_aload_n hx hb dX2_isPlain_0 rfl (lv_at hl 0 rfl) ?_
  refine g_69 cx hw ha0 k_f_X2_48 dX2_isPlain_1 (fun v1 e1 => ?_)
  refine lv_iload_n hx hb dX2_isPlain_4 rfl (lv_at hl 1 rfl) ?_
  refine o_ci hw (oRunS cx hA hw q_X0_has k_m_X2_86 (As := [.long v1, .int a1]) (c_X0_has v1 a1) (by decide) rfl hl.1 rfl (Nat.le_of_ble_eq_true rfl) dX2_isPlain_5 (by decide)) (fun v3 σ2 H locs hp hw => ?_)
  obtain ⟨p3_0, p3_1, p3_2⟩ := hp
  rw [p3_0] at hw
  rw [← hQ]
  exact o_rz cx rx hw (iv_nz01 (iv_w p3_1 (by decide))) dX2_isPlain_8 ⟨rfl, (iv_w p3_1 (by decide)), (fun h => iv_w (p3_2 h) (by decide))⟩
abbrev fs_X7_stepBack : List Nat := [386]
abbrev ts_X7_stepBack : List Nat := []
set_option maxHeartbeats 4000000 in
set_option maxRecDepth 100000 in
theorem c_X7_stepBack (a0 : Nat) (ha0 : oA L τ a0 6) : oMet l A L τ cy D K yX7_stepBack cX7_stepBack 1 none 0 0 [.ref a0] σ (va_Qv (fun σ1 => oFr τ fs_X7_stepBack ts_X7_stepBack σ σ1) (oPo A L τ cy D) A) := by
  refine oMk (by decide) (Nat.le_of_ble_eq_true rfl) rfl ?_
  intro p e s m args below meth c ls cx rx hA hw hl
  generalize hQ : MQ below _ args s 0 0 A = Q
  have hx := cx.1.1
  have hb := cx.1.2.1
  have hml := cx.1.2.2.1
  have hown := cx.1.2.2.2.1
  have hts := cx.1.2.2.2.2
  have hl : lv_has ls 1 [(0, .ref a0)] := hl
  have fr : oFr τ fs_X7_stepBack ts_X7_stepBack σ σ := oFr_rf
  refine lv_aload_n hx hb dX7_stepBack_0 rfl (lv_at hl 0 rfl) ?_
  refine lv_dup hx hb dX7_stepBack_1 rfl ?_
  refine g_386 cx hw ha0 k_f_X7_37 dX7_stepBack_2 (fun v1 e1 => ?_)
  refine lv_iconst (v := 1) hx hb dX7_stepBack_5 (by decide) ?_
  refine lv_isub hx hb dX7_stepBack_6 ?_
  refine lv_topi (fun v2 e2 => ?_)
  refine p_386 cx hw ha0 k_f_X7_37 dX7_stepBack_7 (fun σ3 H locs eσ3 hw => ?_)
  have fr := oFr_i fr eσ3 (by decide)
  rw [← hQ]
  exact o_rv cx rx hw dX7_stepBack_10 fr
abbrev fs_X6_tread : List Nat := [329]
abbrev ts_X6_tread : List Nat := [32, 33]
set_option maxHeartbeats 4000000 in
set_option maxRecDepth 100000 in
theorem c_X6_tread (a0 : Nat) (ha0 : oA L τ a0 5) (a1 : Int32) (ia1 : Iv a1 0 5) (a2 : Int32) (ia2 : Iv a2 0 63) : oMet l A L τ cy D K yX6_tread cX6_tread 3 none 0 0 [.ref a0, .int a1, .int a2] σ (va_Qv (fun σ1 => oFr τ fs_X6_tread ts_X6_tread σ σ1) (oPo A L τ cy D) A) := by
  refine oMk (by decide) (Nat.le_of_ble_eq_true rfl) rfl ?_
  intro p e s m args below meth c ls cx rx hA hw hl
  generalize hQ : MQ below _ args s 0 0 A = Q
  have hx := cx.1.1
  have hb := cx.1.2.1
  have hml := cx.1.2.2.1
  have hown := cx.1.2.2.2.1
  have hts := cx.1.2.2.2.2
  have hl : lv_has ls 3 [(0, .ref a0), (1, .int a1), (2, .int a2)] := hl
  have fr : oFr τ fs_X6_tread ts_X6_tread σ σ := oFr_rf
  refine lv_aload_n hx hb dX6_tread_0 rfl (lv_at hl 0 rfl) ?_
  refine g_325 cx hw ha0 k_f_X6_27 dX6_tread_1 (fun v1 e1 h1 => ?_)
  refine lv_iload_n hx hb dX6_tread_4 rfl (lv_at hl 1 rfl) ?_
  refine lv_iload_n hx hb dX6_tread_5 rfl (lv_at hl 2 rfl) ?_
  refine o_iast cx hw h1 (by decide) rfl (iv_in ia1 (by decide)) (iv_w ia2 (by decide)) dX6_tread_6 (fun σ2 H locs eσ2 hw => ?_)
  have fr := oFr_p fr eσ2 h1 (by decide)
  refine lv_aload_n hx hb dX6_tread_7 rfl (lv_at hl 0 rfl) ?_
  refine g_323 cx hw ha0 k_f_X6_21 dX6_tread_8 (fun v3 e3 h3 => ?_)
  refine lv_iload_n hx hb dX6_tread_11 rfl (lv_at hl 2 rfl) ?_
  refine lv_aload_n hx hb dX6_tread_12 rfl (lv_at hl 0 rfl) ?_
  refine g_331 cx hw ha0 k_f_X6_52 dX6_tread_13 (fun v4 e4 => ?_)
  refine o_iast cx hw h3 (by decide) rfl (iv_in ia2 (by decide)) trivial dX6_tread_16 (fun σ5 H locs eσ5 hw => ?_)
  have fr := oFr_p fr eσ5 h3 (by decide)
  refine lv_aload_n hx hb dX6_tread_17 rfl (lv_at hl 0 rfl) ?_
  refine g_324 cx hw ha0 k_f_X6_24 dX6_tread_18 (fun v6 e6 h6 => ?_)
  refine lv_iload_n hx hb dX6_tread_21 rfl (lv_at hl 2 rfl) ?_
  refine lv_iload_n hx hb dX6_tread_22 rfl (lv_at hl 1 rfl) ?_
  refine o_iast cx hw h6 (by decide) rfl (iv_in ia2 (by decide)) trivial dX6_tread_23 (fun σ7 H locs eσ7 hw => ?_)
  have fr := oFr_p fr eσ7 h6 (by decide)
  refine lv_aload_n hx hb dX6_tread_24 rfl (lv_at hl 0 rfl) ?_
  refine lv_dup hx hb dX6_tread_25 rfl ?_
  refine g_329 cx hw ha0 k_f_X6_46 dX6_tread_26 (fun v8 e8 => ?_)
  refine lv_iconst (v := 1) hx hb dX6_tread_29 (by decide) ?_
  refine lv_iload_n hx hb dX6_tread_30 rfl (lv_at hl 1 rfl) ?_
  refine lv_ishl hx hb dX6_tread_31 ?_
  refine lv_topi (fun v9 e9 => ?_)
  have i9 : Iv v9 1 32 := iv_shl1 e9 ia1 (by decide)
  refine lv_iconst (v := (-1)) hx hb dX6_tread_32 (by decide) ?_
  refine lv_ixor hx hb dX6_tread_33 ?_
  refine lv_topi (fun v10 e10 => ?_)
  refine lv_iand hx hb dX6_tread_34 ?_
  refine lv_topi (fun v11 e11 => ?_)
  refine p_329 cx hw ha0 k_f_X6_46 dX6_tread_35 (fun σ12 H locs eσ12 hw => ?_)
  have fr := oFr_i fr eσ12 (by decide)
  rw [← hQ]
  exact o_rv cx rx hw dX6_tread_38 fr
abbrev fs_X6_addHerd : List Nat := [327, 328, 329]
abbrev ts_X6_addHerd : List Nat := [32, 33, 34]
set_option maxHeartbeats 4000000 in
set_option maxRecDepth 100000 in
theorem c_X6_addHerd (a0 : Nat) (ha0 : oA L τ a0 5) (a1 : Int32) (ia1 : Iv a1 0 63) (a2 : Int32) (a3 : Int32) (ia3 : Iv a3 0 1) : oMet l A L τ cy D K yX6_addHerd cX6_addHerd 5 none 1 22 [.ref a0, .int a1, .int a2, .int a3] σ (va_Qv (fun σ1 => oFr τ fs_X6_addHerd ts_X6_addHerd σ σ1) (oPo A L τ cy D) A) := by
  refine oMk (by decide) (Nat.le_of_ble_eq_true rfl) rfl ?_
  intro p e s m args below meth c ls cx rx hA hw hl
  generalize hQ : MQ below _ args s 0 0 A = Q
  have hx := cx.1.1
  have hb := cx.1.2.1
  have hml := cx.1.2.2.1
  have hown := cx.1.2.2.2.1
  have hts := cx.1.2.2.2.2
  have hl : lv_has ls 5 [(0, .ref a0), (1, .int a1), (2, .int a2), (3, .int a3)] := hl
  have fr : oFr τ fs_X6_addHerd ts_X6_addHerd σ σ := oFr_rf
  refine lv_aload_n hx hb dX6_addHerd_0 rfl (lv_at hl 0 rfl) ?_
  refine g_327 cx hw ha0 k_f_X6_39 dX6_addHerd_1 (fun v1 e1 i1 => ?_)
  refine lv_bipush (v := 6) hx hb dX6_addHerd_4 (by decide) ?_
  refine lv_icmp_lt (tgt := 10) hx hb dX6_addHerd_6 (by decide) (fun c2 => ?_) (fun c2 => ?_)
  · --
    have i3 : Iv v1 0 5 := iv_lt1 c2 i1 (⟨by decide, by decide⟩ : Iv 6 6 6) (by decide)
    refine lv_aload_n hx hb dX6_addHerd_10 rfl (lv_at hl 0 rfl) ?_
    refine g_327 cx hw ha0 k_f_X6_39 dX6_addHerd_11 (fun v4 e4 i4 => ?_)
    rw [show v4 = v1 from e4.trans e1.symm]
    refine lv_istore (lv' := [(4, .int v1), (0, .ref a0), (1, .int a1), (2, .int a2), (3, .int a3)]) hx hb dX6_addHerd_14 hl (by decide) rfl (fun ls hl => ?_)
    refine lv_aload_n hx hb dX6_addHerd_16 rfl (lv_at hl 1 rfl) ?_
    refine lv_dup hx hb dX6_addHerd_17 rfl ?_
    refine g_327 cx hw ha0 k_f_X6_39 dX6_addHerd_18 (fun v5 e5 i5 => ?_)
    rw [show v5 = v1 from e5.trans e1.symm]
    refine lv_iconst (v := 1) hx hb dX6_addHerd_21 (by decide) ?_
    refine lv_iadd hx hb dX6_addHerd_22 ?_
    refine lv_topi (fun v6 e6 => ?_)
    have i6 : Iv v6 1 6 := iv_add e6 i3 (⟨by decide, by decide⟩ : Iv 1 1 1) (by decide)
    have x6 : v6.toInt = v1.toInt + 1 := ex_add e6 i3 (⟨by decide, by decide⟩ : Iv 1 1 1) (by decide)
    refine p_327 cx hw ha0 (iv_w i6 (by decide)) k_f_X6_39 dX6_addHerd_23 (fun σ7 H locs eσ7 hw => ?_)
    have fr := oFr_i fr eσ7 (by decide)
    refine lv_aload_n hx hb dX6_addHerd_26 rfl (lv_at hl 1 rfl) ?_
    refine g_326 cx hw ha0 k_f_X6_30 dX6_addHerd_27 (fun v8 e8 h8 => ?_)
    refine lv_iload hx hb dX6_addHerd_30 (lv_at hl 0 rfl) ?_
    refine lv_iload_n hx hb dX6_addHerd_32 rfl (lv_at hl 3 rfl) ?_
    refine o_iast cx hw h8 (by decide) rfl (iv_in i3 (by decide)) trivial dX6_addHerd_33 (fun σ9 H locs eσ9 hw => ?_)
    have fr := oFr_p fr eσ9 h8 (by decide)
    refine lv_aload_n hx hb dX6_addHerd_34 rfl (lv_at hl 1 rfl) ?_
    refine lv_dup hx hb dX6_addHerd_35 rfl ?_
    refine g_328 cx hw ha0 k_f_X6_43 dX6_addHerd_36 (fun v10 e10 => ?_)
    refine lv_iload_n hx hb dX6_addHerd_39 rfl (lv_at hl 4 rfl) ?_
    have J_51 : ∀ (k51_2 : Int32) (ik51_2 : Iv k51_2 0 32), ∀ (H : Heap) (locs : List Loc), oI A L τ cy D s.heap σ9 H locs → ∀ (ls : Array Slot), lv_has ls 5 [(0, .ref a0), (1, .int a1), (2, .int a2), (3, .int a3), (4, .int v1)] → W p l e ({ frames := 1, cells := 0, slots := 0, locals := 22 } : Room) s m args below meth c H locs 0 0 Q (F0 m 51 ls [.int k51_2, .int v10, .ref a0]) := by
      intro k51_2 ik51_2 H locs hw     ls hl
      refine lv_ior hx hb dX6_addHerd_51 ?_
      refine lv_topi (fun v11 e11 => ?_)
      refine p_328 cx hw ha0 k_f_X6_43 dX6_addHerd_52 (fun σ12 H locs eσ12 hw => ?_)
      have fr := oFr_i fr eσ12 (by decide)
      refine lv_aload_n hx hb dX6_addHerd_55 rfl (lv_at hl 0 rfl) ?_
      refine lv_iload hx hb dX6_addHerd_56 (lv_at hl 4 rfl) ?_
      refine lv_iload_n hx hb dX6_addHerd_58 rfl (lv_at hl 1 rfl) ?_
      refine o_cv hw (oRunV cx hA hw q_X6_tread k_m_X6_61 rfl ha0 (by decide) (As := [.int v1, .int a1]) (c_X6_tread a0 ha0 v1 (iv_w i3 (by decide)) a1 (iv_w ia1 (by decide))) (by decide) rfl hl.1 rfl (Nat.le_of_ble_eq_true rfl) dX6_addHerd_59 (by decide)) (fun σ13 H locs hp hw => ?_)
      have p14_0 := hp
      have fr := oFr_tr fr p14_0 (by decide)
      refine lv_aload_n hx hb dX6_addHerd_62 rfl (lv_at hl 0 rfl) ?_
      refine lv_dup hx hb dX6_addHerd_63 rfl ?_
      refine g_329 cx hw ha0 k_f_X6_46 dX6_addHerd_64 (fun v15 e15 => ?_)
      refine lv_iconst (v := 1) hx hb dX6_addHerd_67 (by decide) ?_
      refine lv_iload hx hb dX6_addHerd_68 (lv_at hl 4 rfl) ?_
      refine lv_ishl hx hb dX6_addHerd_70 ?_
      refine lv_topi (fun v16 e16 => ?_)
      have i16 : Iv v16 1 32 := iv_shl1 e16 i3 (by decide)
      refine lv_ior hx hb dX6_addHerd_71 ?_
      refine lv_topi (fun v17 e17 => ?_)
      refine p_329 cx hw ha0 k_f_X6_46 dX6_addHerd_72 (fun σ18 H locs eσ18 hw => ?_)
      have fr := oFr_i fr eσ18 (by decide)
      rw [← hQ]
      exact o_rv cx rx hw dX6_addHerd_75 fr
    refine lv_if_eq (tgt := 50) hx hb dX6_addHerd_40 (by decide) (fun c19 => ?_) (fun c19 => ?_)
    · --
      have i20 : Iv a3 0 0 := iv_eq1 c19 ia3 (⟨by decide, by decide⟩ : Iv 0 0 0) (by decide)
      refine lv_iconst (v := 0) hx hb dX6_addHerd_50 (by decide) ?_
      exact J_51 0 (iv_w (⟨by decide, by decide⟩ : Iv 0 0 0) (by decide)) _ _ hw _ (lv_sub hl [1, 2, 3, 4, 0] rfl)
    · --
      have i21 : Iv a3 1 1 := iv_ne1 c19 ia3 (⟨by decide, by decide⟩ : Iv 0 0 0) (by decide)
      refine lv_iconst (v := 1) hx hb dX6_addHerd_43 (by decide) ?_
      refine lv_iload hx hb dX6_addHerd_44 (lv_at hl 0 rfl) ?_
      refine lv_ishl hx hb dX6_addHerd_46 ?_
      refine lv_topi (fun v22 e22 => ?_)
      have i22 : Iv v22 1 32 := iv_shl1 e22 i3 (by decide)
      refine lv_goto (tgt := 51) hx hb dX6_addHerd_47 (by decide) ?_
      exact J_51 v22 (iv_w i22 (by decide)) _ _ hw _ (lv_sub hl [1, 2, 3, 4, 0] rfl)
  · --
    have i23 : Iv v1 6 6 := iv_le2 (iv_nlt c2) (⟨by decide, by decide⟩ : Iv 6 6 6) i1 (by decide)
    rw [← hQ]
    exact o_rv cx rx hw dX6_addHerd_9 fr
abbrev fs_X10_readHerd : List Nat := [327, 328, 329, 386]
abbrev ts_X10_readHerd : List Nat := [32, 33, 34]
set_option maxHeartbeats 4000000 in
set_option maxRecDepth 100000 in
theorem c_X10_readHerd (a0 : Nat) (ha0 : oA L τ a0 9) : oMet l A L τ cy D K yX10_readHerd cX10_readHerd 3 (some .boolean) 4 90 [.ref a0] σ (va_Qi (fun r σ1 => oFr τ fs_X10_readHerd ts_X10_readHerd σ σ1 ∧ Iv r 0 1) (oPo A L τ cy D) A) := by
  refine oMk (by decide) (Nat.le_of_ble_eq_true rfl) rfl ?_
  intro p e s m args below meth c ls cx rx hA hw hl
  generalize hQ : MQ below _ args s 0 0 A = Q
  have hx := cx.1.1
  have hb := cx.1.2.1
  have hml := cx.1.2.2.1
  have hown := cx.1.2.2.2.1
  have hts := cx.1.2.2.2.2
  have hl : lv_has ls 3 [(0, .ref a0)] := hl
  have fr : oFr τ fs_X10_readHerd ts_X10_readHerd σ σ := oFr_rf
  refine lv_aload_n hx hb dX10_readHerd_0 rfl (lv_at hl 0 rfl) ?_
  refine g_582 cx hw ha0 k_f_X10_53 dX10_readHerd_1 (fun v1 e1 h1 => ?_)
  refine g_327 cx hw h1 k_f_X10_206 dX10_readHerd_4 (fun v2 e2 i2 => ?_)
  refine lv_bipush (v := 6) hx hb dX10_readHerd_7 (by decide) ?_
  refine lv_icmp_lt (tgt := 14) hx hb dX10_readHerd_9 (by decide) (fun c3 => ?_) (fun c3 => ?_)
  · --
    have i4 : Iv v2 0 5 := iv_lt1 c3 i2 (⟨by decide, by decide⟩ : Iv 6 6 6) (by decide)
    refine lv_aload_n hx hb dX10_readHerd_14 rfl (lv_at hl 0 rfl) ?_
    refine lv_aload_n hx hb dX10_readHerd_15 rfl (lv_at hl 0 rfl) ?_
    refine g_578 cx hw ha0 k_f_X10_26 dX10_readHerd_16 (fun v5 e5 h5 => ?_)
    refine g_64 cx hw h5 k_f_X10_121 dX10_readHerd_19 (fun v6 e6 => ?_)
    refine lv_aload_n hx hb dX10_readHerd_22 rfl (lv_at hl 0 rfl) ?_
    refine g_578 cx hw ha0 k_f_X10_26 dX10_readHerd_23 (fun v7 e7 h7 => ?_)
    rw [show v7 = v5 from Option.some.inj (e7.symm.trans (e5))]
    refine g_65 cx hw h5 k_f_X10_124 dX10_readHerd_26 (fun v8 e8 => ?_)
    refine o_ci hw (oRunV cx hA hw q_X10_readCell k_m_X10_238 rfl ha0 (by decide) (As := [.int v6, .int v8]) (c_X10_readCell a0 ha0 v6 v8) (by decide) rfl hl.1 rfl (Nat.le_of_ble_eq_true rfl) dX10_readHerd_29 (by decide)) (fun v10 σ9 H locs hp hw => ?_)
    have p10_0 := hp
    have fr := oFr_tr fr p10_0 (by decide)
    refine lv_istore_n (lv' := [(1, .int v10), (0, .ref a0)]) hx hb dX10_readHerd_32 rfl hl (by decide) rfl (fun ls hl => ?_)
    refine lv_iload_n hx hb dX10_readHerd_33 rfl (lv_at hl 0 rfl) ?_
    refine lv_iconst (v := (-1)) hx hb dX10_readHerd_34 (by decide) ?_
    refine lv_icmp_ne (tgt := 40) hx hb dX10_readHerd_35 (by decide) (fun c11 => ?_) (fun c11 => ?_)
    · --
      refine lv_aload_n hx hb dX10_readHerd_40 rfl (lv_at hl 1 rfl) ?_
      refine g_578 cx hw ha0 k_f_X10_26 dX10_readHerd_41 (fun v12 e12 h12 => ?_)
      rw [show v12 = v5 from Option.some.inj (e12.symm.trans (((kr_c p10_0 (by decide)).trans e5)))]
      refine lv_iload_n hx hb dX10_readHerd_44 rfl (lv_at hl 0 rfl) ?_
      refine o_ci hw (oRunV cx hA hw q_X2_isPlain k_m_X10_241 rfl h5 (by decide) (As := [.int v10]) (c_X2_isPlain v5 h5 v10) (by decide) rfl hl.1 rfl (Nat.le_of_ble_eq_true rfl) dX10_readHerd_45 (by decide)) (fun v14 σ13 H locs hp hw => ?_)
      obtain ⟨p14_0, p14_1, p14_2⟩ := hp
      rw [p14_0] at hw
      refine lv_if_ne (tgt := 60) hx hb dX10_readHerd_48 (by decide) (fun c15 => ?_) (fun c15 => ?_)
      · --
        have i16 : Iv v14 1 1 := iv_ne1 c15 p14_1 (⟨by decide, by decide⟩ : Iv 0 0 0) (by decide)
        have i17 : Iv v10 0 63 := p14_2 c15
        refine lv_aload_n hx hb dX10_readHerd_60 rfl (lv_at hl 1 rfl) ?_
        refine g_576 cx hw ha0 k_f_X10_10 dX10_readHerd_61 (fun v18 e18 h18 => ?_)
        refine lv_iconst (v := 0) hx hb dX10_readHerd_64 (by decide) ?_
        refine lv_bipush (v := 9) hx hb dX10_readHerd_65 (by decide) ?_
        have i19 : Iv (σ9.1 385 v18) 0 80 := o_fb (j := 385) hw h18 rfl
        refine o_ci hw (oRunV cx hA hw q_X7_digit k_m_X10_247 rfl h18 (by decide) (As := [.int 0, .int 9]) (c_X7_digit v18 h18 0 (iv_w (⟨by decide, by decide⟩ : Iv 0 0 0) (by decide)) 9) (by decide) rfl hl.1 rfl (Nat.le_of_ble_eq_true rfl) dX10_readHerd_67 (by decide)) (fun v21 σ20 H locs hp hw => ?_)
        obtain ⟨p21_0, p21_1, p21_2⟩ := hp
        have fr := oFr_tr fr p21_0 (by decide)
        refine lv_istore_n (lv' := [(2, .int v21), (1, .int v10), (0, .ref a0)]) hx hb dX10_readHerd_70 rfl hl (by decide) rfl (fun ls hl => ?_)
        refine lv_iload_n hx hb dX10_readHerd_71 rfl (lv_at hl 0 rfl) ?_
        refine lv_iconst (v := (-1)) hx hb dX10_readHerd_72 (by decide) ?_
        refine lv_icmp_ne (tgt := 78) hx hb dX10_readHerd_73 (by decide) (fun c22 => ?_) (fun c22 => ?_)
        · --
          have i23 : Iv v21 0 207 := iv_ne1 c22 p21_1 (⟨by decide, by decide⟩ : Iv (-1) (-1) (-1)) (by decide)
          refine lv_aload_n hx hb dX10_readHerd_78 rfl (lv_at hl 2 rfl) ?_
          refine g_582 cx hw ha0 k_f_X10_53 dX10_readHerd_79 (fun v24 e24 h24 => ?_)
          rw [show v24 = v1 from Option.some.inj (e24.symm.trans (((kr_c p21_0 (by decide)).trans ((kr_c p10_0 (by decide)).trans e1))))]
          refine lv_iload_n hx hb dX10_readHerd_82 rfl (lv_at hl 1 rfl) ?_
          refine lv_iload_n hx hb dX10_readHerd_83 rfl (lv_at hl 0 rfl) ?_
          refine lv_aload_n hx hb dX10_readHerd_84 rfl (lv_at hl 2 rfl) ?_
          refine g_576 cx hw ha0 k_f_X10_10 dX10_readHerd_85 (fun v25 e25 h25 => ?_)
          rw [show v25 = v18 from Option.some.inj (e25.symm.trans (((kr_c p21_0 (by decide)).trans e18)))]
          refine lv_bipush (v := 42) hx hb dX10_readHerd_88 (by decide) ?_
          have z26 : (σ20.1 385 v18).toInt = ((σ9.1 385 v18) : Int32).toInt := congrArg Int32.toInt (show σ20.1 385 v18 = (σ9.1 385 v18) from ((kp_c p21_0 (by decide)).trans rfl))
          have z27 : (σ20.1 387 v18).toInt = ((σ9.1 387 v18) : Int32).toInt := congrArg Int32.toInt (show σ20.1 387 v18 = (σ9.1 387 v18) from ((kp_c p21_0 (by decide)).trans rfl))
          refine o_ci hw (oRunV cx hA hw q_X7_take k_m_X10_234 rfl h18 (by decide) (As := [.int 42]) (c_X7_take v18 h18 42 (iv_w (⟨by decide, by decide⟩ : Iv 42 42 42) (by decide))) (by decide) rfl hl.1 rfl (Nat.le_of_ble_eq_true rfl) dX10_readHerd_90 (by decide)) (fun v29 σ28 H locs hp hw => ?_)
          obtain ⟨p29_0, p29_1, p29_2⟩ := hp
          have fr := oFr_tr fr p29_0 (by decide)
          refine o_cv hw (oRunV cx hA hw q_X6_addHerd k_m_X10_250 rfl h1 (by decide) (As := [.int v10, .int v21, .int v29]) (c_X6_addHerd v1 h1 v10 (iv_w i17 (by decide)) v21 v29 (iv_w p29_1 (by decide))) (by decide) rfl hl.1 rfl (Nat.le_of_ble_eq_true rfl) dX10_readHerd_93 (by decide)) (fun σ30 H locs hp hw => ?_)
          have p31_0 := hp
          have fr := oFr_tr fr p31_0 (by decide)
          refine lv_iconst (v := 1) hx hb dX10_readHerd_96 (by decide) ?_
          rw [← hQ]
          exact o_rz cx rx hw (iv_nz01 (iv_w (⟨by decide, by decide⟩ : Iv 1 1 1) (by decide))) dX10_readHerd_97 ⟨fr, (iv_w (⟨by decide, by decide⟩ : Iv 1 1 1) (by decide))⟩
        · --
          have i32 : Iv v21 (-1) (-1) := iv_eq1 c22 p21_1 (⟨by decide, by decide⟩ : Iv (-1) (-1) (-1)) (by decide)
          refine lv_iconst (v := 0) hx hb dX10_readHerd_76 (by decide) ?_
          rw [← hQ]
          exact o_rz cx rx hw (iv_nz01 (iv_w (⟨by decide, by decide⟩ : Iv 0 0 0) (by decide))) dX10_readHerd_77 ⟨fr, (iv_w (⟨by decide, by decide⟩ : Iv 0 0 0) (by decide))⟩
      · --
        have i33 : Iv v14 0 0 := iv_eq1 c15 p14_1 (⟨by decide, by decide⟩ : Iv 0 0 0) (by decide)
        refine lv_aload_n hx hb dX10_readHerd_51 rfl (lv_at hl 1 rfl) ?_
        refine g_576 cx hw ha0 k_f_X10_10 dX10_readHerd_52 (fun v34 e34 h34 => ?_)
        refine o_cv hw (oRunV cx hA hw q_X7_stepBack k_m_X10_244 rfl h34 (by decide) (As := []) (c_X7_stepBack v34 h34) (by decide) rfl hl.1 rfl (Nat.le_of_ble_eq_true rfl) dX10_readHerd_55 (by decide)) (fun σ35 H locs hp hw => ?_)
        have p36_0 := hp
        have fr := oFr_tr fr p36_0 (by decide)
        refine lv_iconst (v := 0) hx hb dX10_readHerd_58 (by decide) ?_
        rw [← hQ]
        exact o_rz cx rx hw (iv_nz01 (iv_w (⟨by decide, by decide⟩ : Iv 0 0 0) (by decide))) dX10_readHerd_59 ⟨fr, (iv_w (⟨by decide, by decide⟩ : Iv 0 0 0) (by decide))⟩
    · --
      have i37 : Iv v10 (-1) (-1) := iv_eq1 c11 (iv_top v10) (⟨by decide, by decide⟩ : Iv (-1) (-1) (-1)) (by decide)
      refine lv_iconst (v := 0) hx hb dX10_readHerd_38 (by decide) ?_
      rw [← hQ]
      exact o_rz cx rx hw (iv_nz01 (iv_w (⟨by decide, by decide⟩ : Iv 0 0 0) (by decide))) dX10_readHerd_39 ⟨fr, (iv_w (⟨by decide, by decide⟩ : Iv 0 0 0) (by decide))⟩
  · --
    have i38 : Iv v2 6 6 := iv_le2 (iv_nlt c3) (⟨by decide, by decide⟩ : Iv 6 6 6) i2 (by decide)
    refine lv_iconst (v := 0) hx hb dX10_readHerd_12 (by decide) ?_
    rw [← hQ]
    exact o_rz cx rx hw (iv_nz01 (iv_w (⟨by decide, by decide⟩ : Iv 0 0 0) (by decide))) dX10_readHerd_13 ⟨fr, (iv_w (⟨by decide, by decide⟩ : Iv 0 0 0) (by decide))⟩
abbrev fs_X10_readHerds : List Nat := [327, 328, 329, 330, 331, 386, 387]
abbrev ts_X10_readHerds : List Nat := [32, 33, 34]
set_option maxHeartbeats 4000000 in
set_option maxRecDepth 100000 in
theorem c_X10_readHerds (a0 : Nat) (ha0 : oA L τ a0 9) : oMet l A L τ cy D K yX10_readHerds cX10_readHerds 2 (some .int) 5 112 [.ref a0] σ (va_Qi (fun r σ1 => oFr τ fs_X10_readHerds ts_X10_readHerds σ σ1) (oPo A L τ cy D) A) := by
  refine oMk (by decide) (Nat.le_of_ble_eq_true rfl) rfl ?_
  intro p e s m args below meth c ls cx rx hA hw hl
  generalize hQ : MQ below _ args s 0 0 A = Q
  have hx := cx.1.1
  have hb := cx.1.2.1
  have hml := cx.1.2.2.1
  have hown := cx.1.2.2.2.1
  have hts := cx.1.2.2.2.2
  have hl : lv_has ls 2 [(0, .ref a0)] := hl
  have fr : oFr τ fs_X10_readHerds ts_X10_readHerds σ σ := oFr_rf
  refine lv_aload_n hx hb dX10_readHerds_0 rfl (lv_at hl 0 rfl) ?_
  refine g_576 cx hw ha0 k_f_X10_10 dX10_readHerds_1 (fun v1 e1 h1 => ?_)
  refine lv_bipush (v := 76) hx hb dX10_readHerds_4 (by decide) ?_
  refine o_cv hw (oRunV cx hA hw q_X7_begin k_m_X10_220 rfl h1 (by decide) (As := [.int 76]) (c_X7_begin v1 h1 76) (by decide) rfl hl.1 rfl (Nat.le_of_ble_eq_true rfl) dX10_readHerds_6 (by decide)) (fun σ2 H locs hp hw => ?_)
  obtain ⟨p3_0, p3_1⟩ := hp
  have fr := oFr_tr fr p3_0 (by decide)
  refine lv_aload_n hx hb dX10_readHerds_9 rfl (lv_at hl 0 rfl) ?_
  refine g_576 cx hw ha0 k_f_X10_10 dX10_readHerds_10 (fun v4 e4 h4 => ?_)
  rw [show v4 = v1 from Option.some.inj (e4.symm.trans (((kr_c p3_0 (by decide)).trans e1)))]
  have i5 : Iv (σ2.1 385 v1) 0 80 := o_fb (j := 385) hw h1 rfl
  refine o_ci hw (oRunV cx hA hw q_X7_isAtEnd k_m_X10_224 rfl h1 (by decide) (As := []) (c_X7_isAtEnd v1 h1) (by decide) rfl hl.1 rfl (Nat.le_of_ble_eq_true rfl) dX10_readHerds_13 (by decide)) (fun v7 σ6 H locs hp hw => ?_)
  obtain ⟨p7_0, p7_1, p7_2⟩ := hp
  rw [p7_0] at hw
  refine lv_if_eq (tgt := 21) hx hb dX10_readHerds_16 (by decide) (fun c8 => ?_) (fun c8 => ?_)
  · --
    have i9 : Iv v7 0 0 := iv_eq1 c8 p7_1 (⟨by decide, by decide⟩ : Iv 0 0 0) (by decide)
    refine lv_aload_n hx hb dX10_readHerds_21 rfl (lv_at hl 0 rfl) ?_
    refine g_582 cx hw ha0 k_f_X10_53 dX10_readHerds_22 (fun v10 e10 h10 => ?_)
    refine lv_aload_n hx hb dX10_readHerds_25 rfl (lv_at hl 0 rfl) ?_
    refine g_581 cx hw ha0 k_f_X10_49 dX10_readHerds_26 (fun v11 e11 h11 => ?_)
    refine o_cv hw (oRunV cx hA hw q_X6_copyFrom k_m_X10_131 rfl h10 (by decide) (As := [.ref v11]) (c_X6_copyFrom v10 h10 v11 h11) (by decide) rfl hl.1 rfl (Nat.le_of_ble_eq_true rfl) dX10_readHerds_29 (by decide)) (fun σ12 H locs hp hw => ?_)
    have p13_0 := hp
    have fr := oFr_tr fr p13_0 (by decide)
    refine lv_iconst (v := 1) hx hb dX10_readHerds_32 (by decide) ?_
    refine lv_istore_n (lv' := [(1, .int 1), (0, .ref a0)]) hx hb dX10_readHerds_33 rfl hl (by decide) rfl (fun ls hl => ?_)
    have frE_34 := fr
    have J_34 : ∀ n34 : Nat, ∀ (j34_1 : Int32) (ij34_1 : Iv j34_1 1 7), ∀ (σ_34 : oSt) (H : Heap) (locs : List Loc), oI A L τ cy D s.heap σ_34 H locs → oFr τ fs_X10_readHerds ts_X10_readHerds σ σ_34 → (7 - j34_1.toInt).toNat < n34 → ∀ (ls : Array Slot), lv_has ls 2 [(0, .ref a0), (1, .int j34_1)] → W p l e ({ frames := 5, cells := 0, slots := 0, locals := 112 } : Room) s m args below meth c H locs 0 0 Q (F0 m 34 ls []) := by
      intro n34
      induction n34 with
      | zero => intro j34_1 ij34_1 σ_34 H locs hw fr   hn_34   ls hl; exact absurd hn_34 (Nat.not_lt_zero _)
      | succ n34 ih_34 =>
        intro j34_1 ij34_1 σ_34 H locs hw fr   hn_34   ls hl
        have fr_34 := fr
        refine lv_iload_n hx hb dX10_readHerds_34 rfl (lv_at hl 1 rfl) ?_
        refine lv_bipush (v := 6) hx hb dX10_readHerds_35 (by decide) ?_
        refine lv_icmp_gt (tgt := 93) hx hb dX10_readHerds_37 (by decide) (fun c14 => ?_) (fun c14 => ?_)
        · --
          have i15 : Iv j34_1 7 7 := iv_lt2 c14 (⟨by decide, by decide⟩ : Iv 6 6 6) ij34_1 (by decide)
          refine lv_aload_n hx hb dX10_readHerds_93 rfl (lv_at hl 0 rfl) ?_
          refine g_576 cx hw ha0 k_f_X10_10 dX10_readHerds_94 (fun v16 e16 h16 => ?_)
          rw [show v16 = v1 from Option.some.inj (e16.symm.trans (((kr_c fr_34 (by decide)).trans ((kr_c frE_34 (by decide)).symm.trans (((kr_c p13_0 (by decide)).trans ((kr_c p3_0 (by decide)).trans e1)))))))]
          refine o_ci hw (oRunV cx hA hw q_X7_fault k_m_X10_231 rfl h1 (by decide) (As := []) (c_X7_fault v1 h1) (by decide) rfl hl.1 rfl (Nat.le_of_ble_eq_true rfl) dX10_readHerds_97 (by decide)) (fun v18 σ17 H locs hp hw => ?_)
          obtain ⟨p18_0, p18_1⟩ := hp
          rw [p18_0] at hw
          rw [← hQ]
          exact o_ri cx rx hw dX10_readHerds_100 fr
        · --
          have i19 : Iv j34_1 1 6 := iv_le1 (iv_nlt c14) ij34_1 (⟨by decide, by decide⟩ : Iv 6 6 6) (by decide)
          refine lv_aload_n hx hb dX10_readHerds_40 rfl (lv_at hl 0 rfl) ?_
          refine o_ci hw (oRunV cx hA hw q_X10_readHerd k_m_X10_228 rfl ha0 (by decide) (As := []) (c_X10_readHerd a0 ha0) (by decide) rfl hl.1 rfl (Nat.le_of_ble_eq_true rfl) dX10_readHerds_41 (by decide)) (fun v21 σ20 H locs hp hw => ?_)
          obtain ⟨p21_0, p21_1⟩ := hp
          have fr := oFr_tr fr p21_0 (by decide)
          refine lv_if_ne (tgt := 55) hx hb dX10_readHerds_44 (by decide) (fun c22 => ?_) (fun c22 => ?_)
          · --
            have i23 : Iv v21 1 1 := iv_ne1 c22 p21_1 (⟨by decide, by decide⟩ : Iv 0 0 0) (by decide)
            refine lv_aload_n hx hb dX10_readHerds_55 rfl (lv_at hl 0 rfl) ?_
            refine g_576 cx hw ha0 k_f_X10_10 dX10_readHerds_56 (fun v24 e24 h24 => ?_)
            rw [show v24 = v1 from Option.some.inj (e24.symm.trans (((kr_c p21_0 (by decide)).trans ((kr_c fr_34 (by decide)).trans ((kr_c frE_34 (by decide)).symm.trans (((kr_c p13_0 (by decide)).trans ((kr_c p3_0 (by decide)).trans e1))))))))]
            have z25 : (σ20.1 385 v1).toInt = ((σ2.1 385 v1) : Int32).toInt := congrArg Int32.toInt (show σ20.1 385 v1 = (σ2.1 385 v1) from ((kp_c p21_0 (by decide)).trans ((kp_c fr_34 (by decide)).trans ((kp_c frE_34 (by decide)).symm.trans (((kp_c p13_0 (by decide)).trans rfl))))))
            refine o_ci hw (oRunV cx hA hw q_X7_isAtEnd k_m_X10_224 rfl h1 (by decide) (As := []) (c_X7_isAtEnd v1 h1) (by decide) rfl hl.1 rfl (Nat.le_of_ble_eq_true rfl) dX10_readHerds_59 (by decide)) (fun v27 σ26 H locs hp hw => ?_)
            obtain ⟨p27_0, p27_1, p27_2⟩ := hp
            rw [p27_0] at hw
            refine lv_if_eq (tgt := 67) hx hb dX10_readHerds_62 (by decide) (fun c28 => ?_) (fun c28 => ?_)
            · --
              have i29 : Iv v27 0 0 := iv_eq1 c28 p27_1 (⟨by decide, by decide⟩ : Iv 0 0 0) (by decide)
              refine lv_aload_n hx hb dX10_readHerds_67 rfl (lv_at hl 0 rfl) ?_
              refine g_576 cx hw ha0 k_f_X10_10 dX10_readHerds_68 (fun v30 e30 h30 => ?_)
              rw [show v30 = v1 from Option.some.inj (e30.symm.trans (((kr_c p21_0 (by decide)).trans ((kr_c fr_34 (by decide)).trans ((kr_c frE_34 (by decide)).symm.trans (((kr_c p13_0 (by decide)).trans ((kr_c p3_0 (by decide)).trans e1))))))))]
              refine lv_bipush (v := 59) hx hb dX10_readHerds_71 (by decide) ?_
              have z31 : (σ20.1 385 v1).toInt = ((σ2.1 385 v1) : Int32).toInt := congrArg Int32.toInt (show σ20.1 385 v1 = (σ2.1 385 v1) from ((kp_c p21_0 (by decide)).trans ((kp_c fr_34 (by decide)).trans ((kp_c frE_34 (by decide)).symm.trans (((kp_c p13_0 (by decide)).trans rfl))))))
              refine o_ci hw (oRunV cx hA hw q_X7_take k_m_X10_234 rfl h1 (by decide) (As := [.int 59]) (c_X7_take v1 h1 59 (iv_w (⟨by decide, by decide⟩ : Iv 59 59 59) (by decide))) (by decide) rfl hl.1 rfl (Nat.le_of_ble_eq_true rfl) dX10_readHerds_73 (by decide)) (fun v33 σ32 H locs hp hw => ?_)
              obtain ⟨p33_0, p33_1, p33_2⟩ := hp
              have fr := oFr_tr fr p33_0 (by decide)
              refine lv_if_ne (tgt := 87) hx hb dX10_readHerds_76 (by decide) (fun c34 => ?_) (fun c34 => ?_)
              · --
                have i35 : Iv v33 1 1 := iv_ne1 c34 p33_1 (⟨by decide, by decide⟩ : Iv 0 0 0) (by decide)
                obtain ⟨v36, e36⟩ : ∃ y : Int32, y = j34_1 + 1 := ⟨_, rfl⟩
                have i36 : Iv v36 2 7 := iv_add e36 i19 (⟨by decide, by decide⟩ : Iv 1 1 1) (by decide)
                have x36 : v36.toInt = j34_1.toInt + 1 := ex_add e36 i19 (⟨by decide, by decide⟩ : Iv 1 1 1) (by decide)
                refine lv_iinc (v := v36) (lv' := [(1, .int v36), (0, .ref a0)]) hx hb dX10_readHerds_87 hl (k := 1) rfl (by rw [e36]; rfl) (by decide) rfl (fun ls hl => ?_)
                refine lv_goto (tgt := 34) hx hb dX10_readHerds_90 (by decide) ?_
                exact ih_34 v36 (iv_w i36 (by decide)) σ32 _ _ hw fr (ms_up x36 (by decide) (iv_w (a' := 1) (b' := 7) i36 (by decide)).2 hn_34) _ (lv_sub hl [1, 0] rfl)
              · --
                have i37 : Iv v33 0 0 := iv_eq1 c34 p33_1 (⟨by decide, by decide⟩ : Iv 0 0 0) (by decide)
                refine lv_aload_n hx hb dX10_readHerds_79 rfl (lv_at hl 0 rfl) ?_
                refine g_576 cx hw ha0 k_f_X10_10 dX10_readHerds_80 (fun v38 e38 h38 => ?_)
                rw [show v38 = v1 from Option.some.inj (e38.symm.trans (((kr_c p33_0 (by decide)).trans ((kr_c p21_0 (by decide)).trans ((kr_c fr_34 (by decide)).trans ((kr_c frE_34 (by decide)).symm.trans (((kr_c p13_0 (by decide)).trans ((kr_c p3_0 (by decide)).trans e1)))))))))]
                refine o_ci hw (oRunV cx hA hw q_X7_fault k_m_X10_231 rfl h1 (by decide) (As := []) (c_X7_fault v1 h1) (by decide) rfl hl.1 rfl (Nat.le_of_ble_eq_true rfl) dX10_readHerds_83 (by decide)) (fun v40 σ39 H locs hp hw => ?_)
                obtain ⟨p40_0, p40_1⟩ := hp
                rw [p40_0] at hw
                rw [← hQ]
                exact o_ri cx rx hw dX10_readHerds_86 fr
            · --
              have i41 : Iv v27 1 1 := iv_ne1 c28 p27_1 (⟨by decide, by decide⟩ : Iv 0 0 0) (by decide)
              refine lv_iload_n hx hb dX10_readHerds_65 rfl (lv_at hl 1 rfl) ?_
              rw [← hQ]
              exact o_ri cx rx hw dX10_readHerds_66 fr
          · --
            have i42 : Iv v21 0 0 := iv_eq1 c22 p21_1 (⟨by decide, by decide⟩ : Iv 0 0 0) (by decide)
            refine lv_aload_n hx hb dX10_readHerds_47 rfl (lv_at hl 0 rfl) ?_
            refine g_576 cx hw ha0 k_f_X10_10 dX10_readHerds_48 (fun v43 e43 h43 => ?_)
            rw [show v43 = v1 from Option.some.inj (e43.symm.trans (((kr_c p21_0 (by decide)).trans ((kr_c fr_34 (by decide)).trans ((kr_c frE_34 (by decide)).symm.trans (((kr_c p13_0 (by decide)).trans ((kr_c p3_0 (by decide)).trans e1))))))))]
            refine o_ci hw (oRunV cx hA hw q_X7_fault k_m_X10_231 rfl h1 (by decide) (As := []) (c_X7_fault v1 h1) (by decide) rfl hl.1 rfl (Nat.le_of_ble_eq_true rfl) dX10_readHerds_51 (by decide)) (fun v45 σ44 H locs hp hw => ?_)
            obtain ⟨p45_0, p45_1⟩ := hp
            rw [p45_0] at hw
            rw [← hQ]
            exact o_ri cx rx hw dX10_readHerds_54 fr
    exact J_34 _ 1 (iv_w (⟨by decide, by decide⟩ : Iv 1 1 1) (by decide)) σ12 _ _ hw fr (Nat.lt_succ_self _) _ (lv_sub hl [1, 0] rfl)
  · --
    have i46 : Iv v7 1 1 := iv_ne1 c8 p7_1 (⟨by decide, by decide⟩ : Iv 0 0 0) (by decide)
    refine lv_iconst (v := 0) hx hb dX10_readHerds_19 (by decide) ?_
    rw [← hQ]
    exact o_ri cx rx hw dX10_readHerds_20 fr
set_option maxHeartbeats 4000000 in
set_option maxRecDepth 100000 in
theorem c_J3_checkIndex_8e157 (a0 : Int32) (ia0 : Iv a0 0 12) (a1 : Int32) (ia1 : Iv a1 13 13) (a2 : Nat) : oMet l A L τ cy D K yJ3_checkIndex_8e157 cJ3_checkIndex_8e157 3 (some .int) 0 0 [.int a0, .int a1, .ref a2] σ (va_Qi (fun r σ1 => σ1 = σ ∧ Iv r 0 12) (oPo A L τ cy D) A) := by
  refine oMk (by decide) (Nat.le_of_ble_eq_true rfl) rfl ?_
  intro p e s m args below meth c ls cx rx hA hw hl
  generalize hQ : MQ below _ args s 0 0 A = Q
  have hx := cx.1.1
  have hb := cx.1.2.1
  have hml := cx.1.2.2.1
  have hown := cx.1.2.2.2.1
  have hts := cx.1.2.2.2.2
  have hl : lv_has ls 3 [(0, .int a0), (1, .int a1), (2, .ref a2)] := hl
  refine lv_iload_n hx hb dJ3_checkIndex_8e157_0 rfl (lv_at hl 0 rfl) ?_
  refine lv_if_lt (tgt := 9) hx hb dJ3_checkIndex_8e157_1 (by decide) (fun c1 => ?_) (fun c1 => ?_)
  · --
    exact iv_no (iv_lt1 (b' := (-1)) c1 ia0 (⟨by decide, by decide⟩ : Iv 0 0 0) (by decide)) (by decide)
  · --
    refine lv_iload_n hx hb dJ3_checkIndex_8e157_4 rfl (lv_at hl 0 rfl) ?_
    refine lv_iload_n hx hb dJ3_checkIndex_8e157_5 rfl (lv_at hl 1 rfl) ?_
    refine lv_icmp_lt (tgt := 16) hx hb dJ3_checkIndex_8e157_6 (by decide) (fun c2 => ?_) (fun c2 => ?_)
    · --
      refine lv_iload_n hx hb dJ3_checkIndex_8e157_16 rfl (lv_at hl 0 rfl) ?_
      rw [← hQ]
      exact o_ri cx rx hw dJ3_checkIndex_8e157_17 ⟨rfl, (iv_w ia0 (by decide))⟩
    · --
      exact iv_no (iv_le1 (b' := 12) (iv_nlt c2) ia1 ia0 (by decide)) (by decide)
set_option maxHeartbeats 4000000 in
set_option maxRecDepth 100000 in
theorem cN_J3_checkIndex_8e157 (a0 : Int32) (ia0 : Iv a0 0 12) (a1 : Int32) (ia1 : Iv a1 13 13) : oMet l A L τ cy D K yJ3_checkIndex_8e157 cJ3_checkIndex_8e157 3 (some .int) 0 0 [.int a0, .int a1, .null] σ (va_Qi (fun r σ1 => σ1 = σ ∧ Iv r 0 12) (oPo A L τ cy D) A) := by
  refine oMk (by decide) (Nat.le_of_ble_eq_true rfl) rfl ?_
  intro p e s m args below meth c ls cx rx hA hw hl
  generalize hQ : MQ below _ args s 0 0 A = Q
  have hx := cx.1.1
  have hb := cx.1.2.1
  have hml := cx.1.2.2.1
  have hown := cx.1.2.2.2.1
  have hts := cx.1.2.2.2.2
  have hl : lv_has ls 3 [(0, .int a0), (1, .int a1), (2, .null)] := hl
  refine lv_iload_n hx hb dJ3_checkIndex_8e157_0 rfl (lv_at hl 0 rfl) ?_
  refine lv_if_lt (tgt := 9) hx hb dJ3_checkIndex_8e157_1 (by decide) (fun c1 => ?_) (fun c1 => ?_)
  · --
    exact iv_no (iv_lt1 (b' := (-1)) c1 ia0 (⟨by decide, by decide⟩ : Iv 0 0 0) (by decide)) (by decide)
  · --
    refine lv_iload_n hx hb dJ3_checkIndex_8e157_4 rfl (lv_at hl 0 rfl) ?_
    refine lv_iload_n hx hb dJ3_checkIndex_8e157_5 rfl (lv_at hl 1 rfl) ?_
    refine lv_icmp_lt (tgt := 16) hx hb dJ3_checkIndex_8e157_6 (by decide) (fun c2 => ?_) (fun c2 => ?_)
    · --
      refine lv_iload_n hx hb dJ3_checkIndex_8e157_16 rfl (lv_at hl 0 rfl) ?_
      rw [← hQ]
      exact o_ri cx rx hw dJ3_checkIndex_8e157_17 ⟨rfl, (iv_w ia0 (by decide))⟩
    · --
      exact iv_no (iv_le1 (b' := 12) (iv_nlt c2) ia1 ia0 (by decide)) (by decide)
set_option maxHeartbeats 4000000 in
set_option maxRecDepth 100000 in
theorem c_J0_checkIndex_df160 (a0 : Int32) (ia0 : Iv a0 0 12) (a1 : Int32) (ia1 : Iv a1 13 13) : oMet l A L τ cy D K yJ0_checkIndex_df160 cJ0_checkIndex_df160 2 none 1 22 [.int a0, .int a1] σ (va_Qv (fun σ1 => σ1 = σ) (oPo A L τ cy D) A) := by
  refine oMk (by decide) (Nat.le_of_ble_eq_true rfl) rfl ?_
  intro p e s m args below meth c ls cx rx hA hw hl
  generalize hQ : MQ below _ args s 0 0 A = Q
  have hx := cx.1.1
  have hb := cx.1.2.1
  have hml := cx.1.2.2.1
  have hown := cx.1.2.2.2.1
  have hts := cx.1.2.2.2.2
  have hl : lv_has ls 2 [(0, .int a0), (1, .int a1)] := hl
  refine lv_iload_n hx hb dJ0_checkIndex_df160_0 rfl (lv_at hl 0 rfl) ?_
  refine lv_iload_n hx hb dJ0_checkIndex_df160_1 rfl (lv_at hl 1 rfl) ?_
  rcases cx.2.2.2.2.2.1 with zt1 | ⟨t1, zt1⟩
  · refine va_gets hx hb zt1 hw.2.2.1 hown (hts _ k_f_J0_1053) (fun _ h => h) dJ0_checkIndex_df160_2 ?_
    refine o_ci hw (oRunS cx hA hw q_J3_checkIndex_8e157 k_m_J0_1059 (As := [.int a0, .int a1, .null]) (cN_J3_checkIndex_8e157 a0 (iv_w ia0 (by decide)) a1 (iv_w ia1 (by decide))) (by decide) rfl hl.1 rfl (Nat.le_of_ble_eq_true rfl) dJ0_checkIndex_df160_5 (by decide)) (fun v3 σ2 H locs hp hw => ?_)
    obtain ⟨p3_0, p3_1⟩ := hp
    rw [p3_0] at hw
    refine lv_pop hx hb dJ0_checkIndex_df160_8 rfl ?_
    rw [← hQ]
    exact o_rv cx rx hw dJ0_checkIndex_df160_9 rfl
  · refine va_gets hx hb zt1 hw.2.2.1 hown (hts _ k_f_J0_1053) (fun _ h => h) dJ0_checkIndex_df160_2 ?_
    refine o_ci hw (oRunS cx hA hw q_J3_checkIndex_8e157 k_m_J0_1059 (As := [.int a0, .int a1, .ref t1]) (c_J3_checkIndex_8e157 a0 (iv_w ia0 (by decide)) a1 (iv_w ia1 (by decide)) t1) (by decide) rfl hl.1 rfl (Nat.le_of_ble_eq_true rfl) dJ0_checkIndex_df160_5 (by decide)) (fun v3 σ2 H locs hp hw => ?_)
    obtain ⟨p3_0, p3_1⟩ := hp
    rw [p3_0] at hw
    refine lv_pop hx hb dJ0_checkIndex_df160_8 rfl ?_
    rw [← hQ]
    exact o_rv cx rx hw dJ0_checkIndex_df160_9 rfl
set_option maxHeartbeats 4000000 in
set_option maxRecDepth 100000 in
theorem c_J1_charAt_3b067 (a1 : Int32) (ia1 : Iv a1 0 12) : oMet l A L τ cy D K yJ1_charAt_3b067 cJ1_charAt_3b067 2 (some .char) 2 43 [.ref (K.2 0), .int a1] σ (va_Qi (fun r σ1 => σ1 = σ ∧ Iv r 0 255 ∧ narrow .char (.int r) = .int r ∧ (r = (fun i => (oByt.getD 0 []).getD i 0) a1.toNatClampNeg)) (oPo A L τ cy D) A) := by
  refine oMk (by decide) (Nat.le_of_ble_eq_true rfl) rfl ?_
  intro p e s m args below meth c ls cx rx hA hw hl
  generalize hQ : MQ below _ args s 0 0 A = Q
  have hx := cx.1.1
  have hb := cx.1.2.1
  have hml := cx.1.2.2.1
  have hown := cx.1.2.2.2.1
  have hts := cx.1.2.2.2.2
  have hl : lv_has ls 2 [(0, .ref (K.2 0)), (1, .int a1)] := hl
  refine lv_iload_n hx hb dJ1_charAt_3b067_0 rfl (lv_at hl 1 rfl) ?_
  refine lv_aload_n hx hb dJ1_charAt_3b067_1 rfl (lv_at hl 0 rfl) ?_
  refine va_tlen (v := 13) hx hb (cx.2.2.1.1 0 (by decide)).2.2.2 hw.2.2.1 (by decide) dJ1_charAt_3b067_2 ?_
  refine o_cv hw (oRunS cx hA hw q_J0_checkIndex_df160 k_m_J1_9 (As := [.int a1, .int 13]) (c_J0_checkIndex_df160 a1 (iv_w ia1 (by decide)) 13 (iv_w (⟨by decide, by decide⟩ : Iv 13 13 13) (by decide))) (by decide) rfl hl.1 rfl (Nat.le_of_ble_eq_true rfl) dJ1_charAt_3b067_3 (by decide)) (fun σ1 H locs hp hw => ?_)
  have p2_0 := hp
  rw [p2_0] at hw
  refine lv_aload_n hx hb dJ1_charAt_3b067_6 rfl (lv_at hl 0 rfl) ?_
  refine lv_iload_n hx hb dJ1_charAt_3b067_7 rfl (lv_at hl 1 rfl) ?_
  refine va_tb hx hb (cx.2.2.1.1 0 (by decide)).2.2.2 hw.2.2.1 (iv_in ia1 (by decide)) rfl dJ1_charAt_3b067_8 ?_
  refine lv_topi (fun v3 e3 => ?_)
  refine lv_sipush (v := 255) hx hb dJ1_charAt_3b067_9 (by decide) ?_
  refine lv_iand hx hb dJ1_charAt_3b067_12 ?_
  refine lv_topi (fun v4 e4 => ?_)
  have i4 : Iv v4 0 255 := iv_and e4 (⟨by decide, by decide⟩ : Iv 255 255 255) (by decide)
  refine lv_i2c hx hb dJ1_charAt_3b067_13 rfl ?_
  refine lv_topi (fun v5 e5 => ?_)
  have i5 : Iv v5 0 255 := iv_i2c2 e5 i4 (by decide)
  rw [← hQ]
  exact o_rz cx rx hw (by rw [e5]; exact pk_nc _) dJ1_charAt_3b067_14 ⟨rfl, (iv_w i5 (by decide)), (by rw [e5]; exact pk_nc _), (by exact ch_id ia1 e3 e4 e5)⟩
set_option maxHeartbeats 4000000 in
set_option maxRecDepth 100000 in
theorem c_J0_charAt_5068e (a1 : Int32) (ia1 : Iv a1 0 12) : oMet l A L τ cy D K yJ0_charAt_5068e cJ0_charAt_5068e 2 (some .char) 3 64 [.ref (K.1 0), .int a1] σ (va_Qi (fun r σ1 => σ1 = σ ∧ Iv r 0 255 ∧ narrow .char (.int r) = .int r ∧ (r = (fun i => (oByt.getD 0 []).getD i 0) a1.toNatClampNeg)) (oPo A L τ cy D) A) := by
  refine oMk (by decide) (Nat.le_of_ble_eq_true rfl) rfl ?_
  intro p e s m args below meth c ls cx rx hA hw hl
  generalize hQ : MQ below _ args s 0 0 A = Q
  have hx := cx.1.1
  have hb := cx.1.2.1
  have hml := cx.1.2.2.1
  have hown := cx.1.2.2.2.1
  have hts := cx.1.2.2.2.2
  have hl : lv_has ls 2 [(0, .ref (K.1 0)), (1, .int a1)] := hl
  refine lv_aload_n hx hb dJ0_charAt_5068e_0 rfl (lv_at hl 0 rfl) ?_
  refine o_ci hw (oRunK cx hA hw q_J0_isLatin1_aae02 k_m_J0_492 0 (by decide) (As := []) (c_J0_isLatin1_aae02_0 ) (by decide) rfl hl.1 rfl (Nat.le_of_ble_eq_true rfl) dJ0_charAt_5068e_1 (by decide)) (fun v2 σ1 H locs hp hw => ?_)
  obtain ⟨p2_0, p2_1⟩ := hp
  rw [p2_0] at hw
  refine lv_if_eq (tgt := 16) hx hb dJ0_charAt_5068e_4 (by decide) (fun c3 => ?_) (fun c3 => ?_)
  · --
    exact iv_no (iv_eq1 (lo := 1) (hi := 0) c3 p2_1 (⟨by decide, by decide⟩ : Iv 0 0 0) (by decide)) (by decide)
  · --
    refine lv_aload_n hx hb dJ0_charAt_5068e_7 rfl (lv_at hl 0 rfl) ?_
    refine vk_getf hx hb (cx.2.2.1.1 0 (by decide)).2.2.1 hw.2.2.1 hown (hts _ k_f_J0_9) (fun _ h => h) dJ0_charAt_5068e_8 ?_
    refine lv_iload_n hx hb dJ0_charAt_5068e_11 rfl (lv_at hl 1 rfl) ?_
    refine o_ci hw (oRunS cx hA hw q_J1_charAt_3b067 k_m_J0_495 (As := [.ref (K.2 0), .int a1]) (c_J1_charAt_3b067 a1 (iv_w ia1 (by decide))) (by decide) rfl hl.1 rfl (Nat.le_of_ble_eq_true rfl) dJ0_charAt_5068e_12 (by decide)) (fun v5 σ4 H locs hp hw => ?_)
    obtain ⟨p5_0, p5_1, p5_2, p5_3⟩ := hp
    rw [p5_0] at hw
    rw [← hQ]
    exact o_rz cx rx hw p5_2 dJ0_charAt_5068e_15 ⟨rfl, (iv_w p5_1 (by decide)), p5_2, (by exact p5_3)⟩
abbrev fs_X7_tell : List Nat := [385]
abbrev ts_X7_tell : List Nat := [35]
set_option maxHeartbeats 4000000 in
set_option maxRecDepth 100000 in
theorem c_X7_tell (a0 : Nat) (ha0 : oA L τ a0 6) : oMet l A L τ cy D K yX7_tell cX7_tell 3 none 4 85 [.ref a0, .ref (K.1 0)] σ (va_Qv (fun σ1 => oFr τ fs_X7_tell ts_X7_tell σ σ1 ∧ ((σ1.1 385 a0).toInt = 13 ∧ ∀ i : Nat, (i : Int) < 13 → oRw σ1 384 a0 i = (fun i => (oByt.getD 0 []).getD i 0) i)) (oPo A L τ cy D) A) := by
  refine oMk (by decide) (Nat.le_of_ble_eq_true rfl) rfl ?_
  intro p e s m args below meth c ls cx rx hA hw hl
  generalize hQ : MQ below _ args s 0 0 A = Q
  have hx := cx.1.1
  have hb := cx.1.2.1
  have hml := cx.1.2.2.1
  have hown := cx.1.2.2.2.1
  have hts := cx.1.2.2.2.2
  have hl : lv_has ls 3 [(0, .ref a0), (1, .ref (K.1 0))] := hl
  have fr : oFr τ fs_X7_tell ts_X7_tell σ σ := oFr_rf
  obtain ⟨b384, hF384, hb384⟩ := hw.2.2.2.2.2 384 a0 35 (by rw [ha0.2]; rfl) ha0.1
  refine lv_aload_n hx hb dX7_tell_0 rfl (lv_at hl 0 rfl) ?_
  refine lv_bipush (v := 80) hx hb dX7_tell_1 (by decide) ?_
  refine lv_aload_n hx hb dX7_tell_3 rfl (lv_at hl 1 rfl) ?_
  refine o_ci hw (oRunK cx hA hw q_J0_length_8abf5 k_m_X7_22 0 (by decide) (As := []) (c_J0_length_8abf5_0 ) (by decide) rfl hl.1 rfl (Nat.le_of_ble_eq_true rfl) dX7_tell_4 (by decide)) (fun v2 σ1 H locs hp hw => ?_)
  obtain ⟨p2_0, p2_1⟩ := hp
  rw [p2_0] at hw
  refine va_mmin hx hb (hml.trans hl.1.symm) hown (hts _ k_m_X7_27) (hts _ k_s_J9_min_7cf53) (hts _ k_i_J9) (hts _ k_code_J9_min_7cf53) (by decide) (Nat.le_of_ble_eq_true rfl) (by decide) (by decide) dX7_tell_7 ?_
  refine lv_topi (fun v3 e3 => ?_)
  have i3 : Iv v3 13 13 := iv_min e3 (⟨by decide, by decide⟩ : Iv 80 80 80) p2_1 (by decide)
  refine p_385 cx hw ha0 (iv_w i3 (by decide)) k_f_X7_19 dX7_tell_10 (fun σ4 H locs eσ4 hw => ?_)
  have fr := oFr_i fr eσ4 (by decide)
  refine lv_iconst (v := 0) hx hb dX7_tell_13 (by decide) ?_
  refine lv_istore_n (lv' := [(2, .int 0), (0, .ref a0), (1, .ref (K.1 0))]) hx hb dX7_tell_14 rfl hl (by decide) rfl (fun ls hl => ?_)
  have frE_15 := fr
  have J_15 : ∀ n15 : Nat, ∀ (j15_2 : Int32) (ij15_2 : Iv j15_2 0 79), ∀ (σ_15 : oSt) (H : Heap) (locs : List Loc), oI A L τ cy D s.heap σ_15 H locs → oFr τ fs_X7_tell ts_X7_tell σ σ_15 → Iv (σ_15.1 385 a0) 13 13 → (79 - j15_2.toInt).toNat < n15 → (∀ i : Nat, (i : Int) < (j15_2 : Int32).toInt → σ_15.2.2.1 b384 i = (fun i => (oByt.getD 0 []).getD i 0) i) → ∀ (ls : Array Slot), lv_has ls 3 [(0, .ref a0), (1, .ref (K.1 0)), (2, .int j15_2)] → W p l e ({ frames := 4, cells := 0, slots := 0, locals := 85 } : Room) s m args below meth c H locs 0 0 Q (F0 m 15 ls []) := by
    intro n15
    induction n15 with
    | zero => intro j15_2 ij15_2 σ_15 H locs hw fr f15_385_a0  hn_15 h15  ls hl; exact absurd hn_15 (Nat.not_lt_zero _)
    | succ n15 ih_15 =>
      intro j15_2 ij15_2 σ_15 H locs hw fr f15_385_a0  hn_15 h15  ls hl
      have fr_15 := fr
      refine lv_iload_n hx hb dX7_tell_15 rfl (lv_at hl 2 rfl) ?_
      refine lv_aload_n hx hb dX7_tell_16 rfl (lv_at hl 0 rfl) ?_
      refine g_385 cx hw ha0 k_f_X7_19 dX7_tell_17 (fun v5 e5 i5 => ?_)
      rw [show v5 = (σ_15.1 385 a0) from e5.trans rfl]
      refine lv_icmp_ge (tgt := 40) hx hb dX7_tell_20 (by decide) (fun c6 => ?_) (fun c6 => ?_)
      · --
        have i7 : Iv j15_2 13 79 := iv_le2 c6 f15_385_a0 ij15_2 (by decide)
        rw [← hQ]
        exact o_rv cx rx hw dX7_tell_40 ⟨fr, (by refine ⟨(by have := (i7).1; have := (i7).2; have := (f15_385_a0).1; have := (f15_385_a0).2; have := (p2_1).1; have := (p2_1).2; have := (i3).1; have := (i3).2; have : ((σ_15.1 385 a0) : Int32).toInt ≤ (j15_2 : Int32).toInt := iv_le.mp c6; omega), fun i hi => ?_⟩; rw [oRw_s (((kr_c fr_15 (by decide)).trans hF384))]; exact h15 i (by have := (i7).1; have := (i7).2; have := (f15_385_a0).1; have := (f15_385_a0).2; have := (p2_1).1; have := (p2_1).2; have := (i3).1; have := (i3).2; have : ((σ_15.1 385 a0) : Int32).toInt ≤ (j15_2 : Int32).toInt := iv_le.mp c6; omega))⟩
      · --
        have i8 : Iv j15_2 0 12 := iv_lt1 (iv_nle c6) ij15_2 f15_385_a0 (by decide)
        refine lv_aload_n hx hb dX7_tell_23 rfl (lv_at hl 0 rfl) ?_
        refine g_384 cx hw ha0 k_f_X7_11 dX7_tell_24 (fun v9 e9 h9 => ?_)
        rw [show v9 = b384 from Option.some.inj (e9.symm.trans (((kr_c fr_15 (by decide)).trans hF384)))]
        refine lv_iload_n hx hb dX7_tell_27 rfl (lv_at hl 2 rfl) ?_
        refine lv_aload_n hx hb dX7_tell_28 rfl (lv_at hl 1 rfl) ?_
        refine lv_iload_n hx hb dX7_tell_29 rfl (lv_at hl 2 rfl) ?_
        refine o_ci hw (oRunK cx hA hw q_J0_charAt_5068e k_m_X7_33 0 (by decide) (As := [.int j15_2]) (c_J0_charAt_5068e j15_2 (iv_w i8 (by decide))) (by decide) rfl hl.1 rfl (Nat.le_of_ble_eq_true rfl) dX7_tell_30 (by decide)) (fun v11 σ10 H locs hp hw => ?_)
        obtain ⟨p11_0, p11_1, p11_2, p11_3⟩ := hp
        rw [p11_0] at hw
        refine o_cast cx hw hb384 (by decide) rfl (iv_in i8 (by decide)) (rb_char2 (iv_w p11_1 (by decide))) dX7_tell_33 (fun σ12 H locs eσ12 hw => ?_)
        have fr := oFr_p fr eσ12 hb384 (by decide)
        obtain ⟨v13, e13⟩ : ∃ y : Int32, y = j15_2 + 1 := ⟨_, rfl⟩
        have i13 : Iv v13 1 13 := iv_add e13 i8 (⟨by decide, by decide⟩ : Iv 1 1 1) (by decide)
        have x13 : v13.toInt = j15_2.toInt + 1 := ex_add e13 i8 (⟨by decide, by decide⟩ : Iv 1 1 1) (by decide)
        refine lv_iinc (v := v13) (lv' := [(2, .int v13), (0, .ref a0), (1, .ref (K.1 0))]) hx hb dX7_tell_34 hl (k := 2) rfl (by rw [e13]; rfl) (by decide) rfl (fun ls hl => ?_)
        refine lv_goto (tgt := 15) hx hb dX7_tell_37 (by decide) ?_
        exact ih_15 v13 (iv_w i13 (by decide)) σ12 _ _ hw fr (kn_iv (((kp_p eσ12).trans rfl)) (iv_w f15_385_a0 (by decide))) (ms_up x13 (by decide) (iv_w (a' := 0) (b' := 79) i13 (by decide)).2 hn_15) (by rw [rw_s eσ12]; exact fill_t h15 x13 i8 (ch_nar i8 p11_3)) _ (lv_sub hl [1, 2, 0] rfl)
  exact J_15 _ 0 (iv_w (⟨by decide, by decide⟩ : Iv 0 0 0) (by decide)) σ4 _ _ hw fr (kn_iv ((kp_s eσ4)) (iv_w i3 (by decide))) (Nat.lt_succ_self _) (fun i hi => absurd hi (by have : (0 : Int32).toInt = 0 := (by decide); omega)) _ (lv_sub hl [1, 2, 0] rfl)
set_option maxHeartbeats 4000000 in
set_option maxRecDepth 100000 in
theorem c_X5_strengthOf (a0 : Int32) : oMet l A L τ cy D K yX5_strengthOf cX5_strengthOf 1 (some .int) 0 0 [.int a0] σ (va_Qi (fun r σ1 => σ1 = σ ∧ Iv r 0 4 ∧ ((r.toInt = 1 ∧ (a0.toInt = 60 ∨ a0.toInt = 61 ∨ a0.toInt = 62)) ∨ (r.toInt = 2 ∧ (a0.toInt = 43 ∨ a0.toInt = 45)) ∨ (r.toInt = 3 ∧ (a0.toInt = 42 ∨ a0.toInt = 47)) ∨ (r.toInt = 4 ∧ a0.toInt = 256) ∨ (r.toInt = 0 ∧ ¬ (a0.toInt = 60 ∨ a0.toInt = 61 ∨ a0.toInt = 62 ∨ a0.toInt = 43 ∨ a0.toInt = 45 ∨ a0.toInt = 42 ∨ a0.toInt = 47 ∨ a0.toInt = 256)))) (oPo A L τ cy D) A) := by
  refine oMk (by decide) (Nat.le_of_ble_eq_true rfl) rfl ?_
  intro p e s m args below meth c ls cx rx hA hw hl
  generalize hQ : MQ below _ args s 0 0 A = Q
  have hx := cx.1.1
  have hb := cx.1.2.1
  have hml := cx.1.2.2.1
  have hown := cx.1.2.2.2.1
  have hts := cx.1.2.2.2.2
  have hl : lv_has ls 1 [(0, .int a0)] := hl
  refine lv_iload_n hx hb dX5_strengthOf_0 rfl (lv_at hl 0 rfl) ?_
  by_cases q1 : a0 = 42
  · --
    refine lv_lookup (off := 79) (tgt := 80) hx hb dX5_strengthOf_1 (by decide) (by rw [q1] <;> decide) (by decide) ?_
    have i2 : Iv a0 42 42 := iv_eq1 q1 (iv_top a0) (⟨by decide, by decide⟩ : Iv 42 42 42) (by decide)
    refine lv_iconst (v := 3) hx hb dX5_strengthOf_80 (by decide) ?_
    rw [← hQ]
    exact o_ri cx rx hw dX5_strengthOf_81 ⟨rfl, (iv_w (⟨by decide, by decide⟩ : Iv 3 3 3) (by decide)), (by exact (by have := (i2).1; have := (i2).2; have : (3 : Int32).toInt = 3 := (by decide); omega))⟩
  by_cases q3 : a0 = 43
  · --
    refine lv_lookup (off := 77) (tgt := 78) hx hb dX5_strengthOf_1 (by decide) (by rw [q3] <;> decide) (by decide) ?_
    have i4 : Iv a0 43 43 := iv_eq1 q3 (iv_top a0) (⟨by decide, by decide⟩ : Iv 43 43 43) (by decide)
    refine lv_iconst (v := 2) hx hb dX5_strengthOf_78 (by decide) ?_
    rw [← hQ]
    exact o_ri cx rx hw dX5_strengthOf_79 ⟨rfl, (iv_w (⟨by decide, by decide⟩ : Iv 2 2 2) (by decide)), (by exact (by have := (i4).1; have := (i4).2; have : (2 : Int32).toInt = 2 := (by decide); omega))⟩
  by_cases q5 : a0 = 45
  · --
    refine lv_lookup (off := 77) (tgt := 78) hx hb dX5_strengthOf_1 (by decide) (by rw [q5] <;> decide) (by decide) ?_
    have i6 : Iv a0 45 45 := iv_eq1 q5 (iv_top a0) (⟨by decide, by decide⟩ : Iv 45 45 45) (by decide)
    refine lv_iconst (v := 2) hx hb dX5_strengthOf_78 (by decide) ?_
    rw [← hQ]
    exact o_ri cx rx hw dX5_strengthOf_79 ⟨rfl, (iv_w (⟨by decide, by decide⟩ : Iv 2 2 2) (by decide)), (by exact (by have := (i6).1; have := (i6).2; have : (2 : Int32).toInt = 2 := (by decide); omega))⟩
  by_cases q7 : a0 = 47
  · --
    refine lv_lookup (off := 79) (tgt := 80) hx hb dX5_strengthOf_1 (by decide) (by rw [q7] <;> decide) (by decide) ?_
    have i8 : Iv a0 47 47 := iv_eq1 q7 (iv_top a0) (⟨by decide, by decide⟩ : Iv 47 47 47) (by decide)
    refine lv_iconst (v := 3) hx hb dX5_strengthOf_80 (by decide) ?_
    rw [← hQ]
    exact o_ri cx rx hw dX5_strengthOf_81 ⟨rfl, (iv_w (⟨by decide, by decide⟩ : Iv 3 3 3) (by decide)), (by exact (by have := (i8).1; have := (i8).2; have : (3 : Int32).toInt = 3 := (by decide); omega))⟩
  by_cases q9 : a0 = 60
  · --
    refine lv_lookup (off := 75) (tgt := 76) hx hb dX5_strengthOf_1 (by decide) (by rw [q9] <;> decide) (by decide) ?_
    have i10 : Iv a0 60 60 := iv_eq1 q9 (iv_top a0) (⟨by decide, by decide⟩ : Iv 60 60 60) (by decide)
    refine lv_iconst (v := 1) hx hb dX5_strengthOf_76 (by decide) ?_
    rw [← hQ]
    exact o_ri cx rx hw dX5_strengthOf_77 ⟨rfl, (iv_w (⟨by decide, by decide⟩ : Iv 1 1 1) (by decide)), (by exact (by have := (i10).1; have := (i10).2; have : (1 : Int32).toInt = 1 := (by decide); omega))⟩
  by_cases q11 : a0 = 61
  · --
    refine lv_lookup (off := 75) (tgt := 76) hx hb dX5_strengthOf_1 (by decide) (by rw [q11] <;> decide) (by decide) ?_
    have i12 : Iv a0 61 61 := iv_eq1 q11 (iv_top a0) (⟨by decide, by decide⟩ : Iv 61 61 61) (by decide)
    refine lv_iconst (v := 1) hx hb dX5_strengthOf_76 (by decide) ?_
    rw [← hQ]
    exact o_ri cx rx hw dX5_strengthOf_77 ⟨rfl, (iv_w (⟨by decide, by decide⟩ : Iv 1 1 1) (by decide)), (by exact (by have := (i12).1; have := (i12).2; have : (1 : Int32).toInt = 1 := (by decide); omega))⟩
  by_cases q13 : a0 = 62
  · --
    refine lv_lookup (off := 75) (tgt := 76) hx hb dX5_strengthOf_1 (by decide) (by rw [q13] <;> decide) (by decide) ?_
    have i14 : Iv a0 62 62 := iv_eq1 q13 (iv_top a0) (⟨by decide, by decide⟩ : Iv 62 62 62) (by decide)
    refine lv_iconst (v := 1) hx hb dX5_strengthOf_76 (by decide) ?_
    rw [← hQ]
    exact o_ri cx rx hw dX5_strengthOf_77 ⟨rfl, (iv_w (⟨by decide, by decide⟩ : Iv 1 1 1) (by decide)), (by exact (by have := (i14).1; have := (i14).2; have : (1 : Int32).toInt = 1 := (by decide); omega))⟩
  by_cases q15 : a0 = 256
  · --
    refine lv_lookup (off := 81) (tgt := 82) hx hb dX5_strengthOf_1 (by decide) (by rw [q15] <;> decide) (by decide) ?_
    have i16 : Iv a0 256 256 := iv_eq1 q15 (iv_top a0) (⟨by decide, by decide⟩ : Iv 256 256 256) (by decide)
    refine lv_iconst (v := 4) hx hb dX5_strengthOf_82 (by decide) ?_
    rw [← hQ]
    exact o_ri cx rx hw dX5_strengthOf_83 ⟨rfl, (iv_w (⟨by decide, by decide⟩ : Iv 4 4 4) (by decide)), (by exact (by have := (i16).1; have := (i16).2; have : (4 : Int32).toInt = 4 := (by decide); omega))⟩
  have q1 := iv_nt q1 (k := 42) (by decide)
  have q3 := iv_nt q3 (k := 43) (by decide)
  have q5 := iv_nt q5 (k := 45) (by decide)
  have q7 := iv_nt q7 (k := 47) (by decide)
  have q9 := iv_nt q9 (k := 60) (by decide)
  have q11 := iv_nt q11 (k := 61) (by decide)
  have q13 := iv_nt q13 (k := 62) (by decide)
  have q15 := iv_nt q15 (k := 256) (by decide)
  refine lv_lookup (off := 83) (tgt := 84) hx hb dX5_strengthOf_1 (by decide) (by simp [Op.lookupswitch.offset, q1, Ne.symm q1, q3, Ne.symm q3, q5, Ne.symm q5, q7, Ne.symm q7, q9, Ne.symm q9, q11, Ne.symm q11, q13, Ne.symm q13, q15, Ne.symm q15]) (by decide) ?_
  refine lv_iconst (v := 0) hx hb dX5_strengthOf_84 (by decide) ?_
  rw [← hQ]
  exact o_ri cx rx hw dX5_strengthOf_85 ⟨rfl, (iv_w (⟨by decide, by decide⟩ : Iv 0 0 0) (by decide)), (by exact (by have : (0 : Int32).toInt = 0 := (by decide); omega))⟩
abbrev fs_X5_write : List Nat := [259]
abbrev ts_X5_write : List Nat := [37]
set_option maxHeartbeats 4000000 in
set_option maxRecDepth 100000 in
theorem c_X5_write (a0 : Nat) (ha0 : oA L τ a0 4) (a1 : Int32) : oMet l A L τ cy D K yX5_write cX5_write 2 none 0 0 [.ref a0, .int a1] σ (va_Qv (fun σ1 => oFr τ fs_X5_write ts_X5_write σ σ1) (oPo A L τ cy D) A) := by
  refine oMk (by decide) (Nat.le_of_ble_eq_true rfl) rfl ?_
  intro p e s m args below meth c ls cx rx hA hw hl
  generalize hQ : MQ below _ args s 0 0 A = Q
  have hx := cx.1.1
  have hb := cx.1.2.1
  have hml := cx.1.2.2.1
  have hown := cx.1.2.2.2.1
  have hts := cx.1.2.2.2.2
  have hl : lv_has ls 2 [(0, .ref a0), (1, .int a1)] := hl
  have fr : oFr τ fs_X5_write ts_X5_write σ σ := oFr_rf
  refine lv_aload_n hx hb dX5_write_0 rfl (lv_at hl 0 rfl) ?_
  refine g_259 cx hw ha0 k_f_X5_30 dX5_write_1 (fun v1 e1 i1 => ?_)
  refine lv_bipush (v := 40) hx hb dX5_write_4 (by decide) ?_
  refine lv_icmp_ge (tgt := 29) hx hb dX5_write_6 (by decide) (fun c2 => ?_) (fun c2 => ?_)
  · --
    have i3 : Iv v1 40 40 := iv_le2 c2 (⟨by decide, by decide⟩ : Iv 40 40 40) i1 (by decide)
    rw [← hQ]
    exact o_rv cx rx hw dX5_write_29 fr
  · --
    have i4 : Iv v1 0 39 := iv_lt1 (iv_nle c2) i1 (⟨by decide, by decide⟩ : Iv 40 40 40) (by decide)
    refine lv_aload_n hx hb dX5_write_9 rfl (lv_at hl 0 rfl) ?_
    refine g_258 cx hw ha0 k_f_X5_15 dX5_write_10 (fun v5 e5 h5 => ?_)
    refine lv_aload_n hx hb dX5_write_13 rfl (lv_at hl 0 rfl) ?_
    refine g_259 cx hw ha0 k_f_X5_30 dX5_write_14 (fun v6 e6 i6 => ?_)
    rw [show v6 = v1 from e6.trans e1.symm]
    refine lv_iload_n hx hb dX5_write_17 rfl (lv_at hl 1 rfl) ?_
    refine o_iast cx hw h5 (by decide) rfl (iv_in i4 (by decide)) trivial dX5_write_18 (fun σ7 H locs eσ7 hw => ?_)
    have fr := oFr_p fr eσ7 h5 (by decide)
    refine lv_aload_n hx hb dX5_write_19 rfl (lv_at hl 0 rfl) ?_
    refine lv_dup hx hb dX5_write_20 rfl ?_
    refine g_259 cx hw ha0 k_f_X5_30 dX5_write_21 (fun v8 e8 i8 => ?_)
    rw [show v8 = v1 from e8.trans ((kp_p eσ7).trans e1.symm)]
    refine lv_iconst (v := 1) hx hb dX5_write_24 (by decide) ?_
    refine lv_iadd hx hb dX5_write_25 ?_
    refine lv_topi (fun v9 e9 => ?_)
    have i9 : Iv v9 1 40 := iv_add e9 i4 (⟨by decide, by decide⟩ : Iv 1 1 1) (by decide)
    have x9 : v9.toInt = v1.toInt + 1 := ex_add e9 i4 (⟨by decide, by decide⟩ : Iv 1 1 1) (by decide)
    refine p_259 cx hw ha0 (iv_w i9 (by decide)) k_f_X5_30 dX5_write_26 (fun σ10 H locs eσ10 hw => ?_)
    have fr := oFr_i fr eσ10 (by decide)
    rw [← hQ]
    exact o_rv cx rx hw dX5_write_29 fr
abbrev fs_X5_release : List Nat := [259, 261]
abbrev ts_X5_release : List Nat := [37]
set_option maxHeartbeats 4000000 in
set_option maxRecDepth 100000 in
theorem c_X5_release (a0 : Nat) (ha0 : oA L τ a0 4) (a1 : Int32) : oMet l A L τ cy D K yX5_release cX5_release 3 none 1 21 [.ref a0, .int a1] σ (va_Qv (fun σ1 => oFr τ fs_X5_release ts_X5_release σ σ1) (oPo A L τ cy D) A) := by
  refine oMk (by decide) (Nat.le_of_ble_eq_true rfl) rfl ?_
  intro p e s m args below meth c ls cx rx hA hw hl
  generalize hQ : MQ below _ args s 0 0 A = Q
  have hx := cx.1.1
  have hb := cx.1.2.1
  have hml := cx.1.2.2.1
  have hown := cx.1.2.2.2.1
  have hts := cx.1.2.2.2.2
  have hl : lv_has ls 3 [(0, .ref a0), (1, .int a1)] := hl
  have fr : oFr τ fs_X5_release ts_X5_release σ σ := oFr_rf
  refine lv_aload_n hx hb dX5_release_0 rfl (lv_at hl 0 rfl) ?_
  refine g_261 cx hw ha0 k_f_X5_34 dX5_release_1 (fun v1 e1 i1 => ?_)
  refine lv_iconst (v := 1) hx hb dX5_release_4 (by decide) ?_
  refine lv_isub hx hb dX5_release_5 ?_
  refine lv_topi (fun v2 e2 => ?_)
  have i2 : Iv v2 (-1) 39 := iv_sub e2 i1 (⟨by decide, by decide⟩ : Iv 1 1 1) (by decide)
  have x2 : v2.toInt = v1.toInt + (-1) := ex_sub e2 i1 (⟨by decide, by decide⟩ : Iv 1 1 1) (by decide)
  refine lv_istore_n (lv' := [(2, .int v2), (0, .ref a0), (1, .int a1)]) hx hb dX5_release_6 rfl hl (by decide) rfl (fun ls hl => ?_)
  have frE_7 := fr
  have J_7 : ∀ n7 : Nat, ∀ (j7_2 : Int32) (ij7_2 : Iv j7_2 (-1) 39), ∀ (σ_7 : oSt) (H : Heap) (locs : List Loc), oI A L τ cy D s.heap σ_7 H locs → oFr τ fs_X5_release ts_X5_release σ σ_7 → (j7_2.toInt - (-1)).toNat < n7 → ∀ (ls : Array Slot), lv_has ls 3 [(0, .ref a0), (1, .int a1), (2, .int j7_2)] → W p l e ({ frames := 1, cells := 0, slots := 0, locals := 21 } : Room) s m args below meth c H locs 0 0 Q (F0 m 7 ls []) := by
    intro n7
    induction n7 with
    | zero => intro j7_2 ij7_2 σ_7 H locs hw fr   hn_7   ls hl; exact absurd hn_7 (Nat.not_lt_zero _)
    | succ n7 ih_7 =>
      intro j7_2 ij7_2 σ_7 H locs hw fr   hn_7   ls hl
      have fr_7 := fr
      refine lv_iload_n hx hb dX5_release_7 rfl (lv_at hl 2 rfl) ?_
      refine lv_if_lt (tgt := 45) hx hb dX5_release_8 (by decide) (fun c3 => ?_) (fun c3 => ?_)
      · --
        have i4 : Iv j7_2 (-1) (-1) := iv_lt1 c3 ij7_2 (⟨by decide, by decide⟩ : Iv 0 0 0) (by decide)
        rw [← hQ]
        exact o_rv cx rx hw dX5_release_45 fr
      · --
        have i5 : Iv j7_2 0 39 := iv_le2 (iv_nlt c3) (⟨by decide, by decide⟩ : Iv 0 0 0) ij7_2 (by decide)
        refine lv_aload_n hx hb dX5_release_11 rfl (lv_at hl 0 rfl) ?_
        refine g_260 cx hw ha0 k_f_X5_18 dX5_release_12 (fun v6 e6 h6 => ?_)
        refine lv_iload_n hx hb dX5_release_15 rfl (lv_at hl 2 rfl) ?_
        refine o_iald cx hw h6 (by decide) rfl (iv_in i5 (by decide)) dX5_release_16 (fun v7 e7 b7 => ?_)
        refine o_ci hw (oRunS cx hA hw q_X5_strengthOf k_m_X5_110 (As := [.int v7]) (c_X5_strengthOf v7) (by decide) rfl hl.1 rfl (Nat.le_of_ble_eq_true rfl) dX5_release_17 (by decide)) (fun v9 σ8 H locs hp hw => ?_)
        obtain ⟨p9_0, p9_1, p9_2⟩ := hp
        rw [p9_0] at hw
        refine lv_iload_n hx hb dX5_release_20 rfl (lv_at hl 1 rfl) ?_
        refine lv_icmp_lt (tgt := 45) hx hb dX5_release_21 (by decide) (fun c10 => ?_) (fun c10 => ?_)
        · --
          have i11 : Iv a1 1 2147483647 := iv_lt2 c10 p9_1 (iv_top a1) (by decide)
          rw [← hQ]
          exact o_rv cx rx hw dX5_release_45 fr
        · --
          have i12 : Iv a1 (-2147483648) 4 := iv_le1 (iv_nlt c10) (iv_top a1) p9_1 (by decide)
          refine lv_aload_n hx hb dX5_release_24 rfl (lv_at hl 0 rfl) ?_
          refine lv_aload_n hx hb dX5_release_25 rfl (lv_at hl 0 rfl) ?_
          refine g_260 cx hw ha0 k_f_X5_18 dX5_release_26 (fun v13 e13 h13 => ?_)
          rw [show v13 = v6 from Option.some.inj (e13.symm.trans (e6))]
          refine lv_iload_n hx hb dX5_release_29 rfl (lv_at hl 2 rfl) ?_
          refine o_iald cx hw h6 (by decide) rfl (iv_in i5 (by decide)) dX5_release_30 (fun v14 e14 b14 => ?_)
          refine o_cv hw (oRunV cx hA hw q_X5_write k_m_X5_89 rfl ha0 (by decide) (As := [.int v14]) (c_X5_write a0 ha0 v14) (by decide) rfl hl.1 rfl (Nat.le_of_ble_eq_true rfl) dX5_release_31 (by decide)) (fun σ15 H locs hp hw => ?_)
          have p16_0 := hp
          have fr := oFr_tr fr p16_0 (by decide)
          refine lv_aload_n hx hb dX5_release_34 rfl (lv_at hl 0 rfl) ?_
          refine lv_iload_n hx hb dX5_release_35 rfl (lv_at hl 2 rfl) ?_
          refine p_261 cx hw ha0 (iv_w i5 (by decide)) k_f_X5_34 dX5_release_36 (fun σ17 H locs eσ17 hw => ?_)
          have fr := oFr_i fr eσ17 (by decide)
          obtain ⟨v18, e18⟩ : ∃ y : Int32, y = j7_2 + (-1) := ⟨_, rfl⟩
          have i18 : Iv v18 (-1) 38 := iv_add e18 i5 (⟨by decide, by decide⟩ : Iv (-1) (-1) (-1)) (by decide)
          have x18 : v18.toInt = j7_2.toInt + (-1) := ex_add e18 i5 (⟨by decide, by decide⟩ : Iv (-1) (-1) (-1)) (by decide)
          refine lv_iinc (v := v18) (lv' := [(2, .int v18), (0, .ref a0), (1, .int a1)]) hx hb dX5_release_39 hl (k := 2) rfl (by rw [e18]; rfl) (by decide) rfl (fun ls hl => ?_)
          refine lv_goto (tgt := 7) hx hb dX5_release_42 (by decide) ?_
          exact ih_7 v18 (iv_w i18 (by decide)) σ17 _ _ hw fr (ms_dn x18 (by decide) (iv_w (a' := (-1)) (b' := 39) i18 (by decide)).1 hn_7) _ (lv_sub hl [1, 2, 0] rfl)
  exact J_7 _ v2 i2 σ _ _ hw fr (Nat.lt_succ_self _) _ (lv_sub hl [1, 2, 0] rfl)
end OM
