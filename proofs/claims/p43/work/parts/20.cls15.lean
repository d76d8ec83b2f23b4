section OM
variable {l : Launch} {A : Nat → Prop} {L : List Nat} {τ : Nat → Nat} {cy : Nat → ClassId} {D : va_G} {K : (Nat → Nat) × (Nat → Nat)} {σ : oSt}
abbrev fs_X10_hedge : List Nat := [6, 7, 193, 327, 328, 329, 330, 331, 517]
abbrev ts_X10_hedge : List Nat := [32, 33, 34, 36, 37, 38, 39]
set_option maxHeartbeats 4000000 in
set_option maxRecDepth 100000 in
theorem c_X10_hedge (a0 : Nat) (ha0 : oA L τ a0 9) (a1 : Int32) (a2 : Int32) : oMet l A L τ cy D K yX10_hedge cX10_hedge 3 (some .int) 8 195 [.ref a0, .int a1, .int a2] σ (va_Qi (fun r σ1 => oFr τ fs_X10_hedge ts_X10_hedge σ σ1 ∧ Iv r (-2) 2 ∧ (∀ V, NV σ a0 V → NV σ1 a0 V)) (oPo A L τ cy D) A) := by
  refine oMk (by decide) (Nat.le_of_ble_eq_true rfl) rfl ?_
  intro p e s m args below meth c ls cx rx hA hw hl
  generalize hQ : MQ below _ args s 0 0 A = Q
  have hx := cx.1.1
  have hb := cx.1.2.1
  have hml := cx.1.2.2.1
  have hown := cx.1.2.2.2.1
  have hts := cx.1.2.2.2.2
  have hl : lv_has ls 3 [(0, .ref a0), (1, .int a1), (2, .int a2)] := hl
  have fr : oFr τ fs_X10_hedge ts_X10_hedge σ σ := oFr_rf
  obtain ⟨b581, hF581, hb581⟩ := hw.2.2.2.2.2 581 a0 5 (by rw [ha0.2]; rfl) ha0.1
  obtain ⟨b582, hF582, hb582⟩ := hw.2.2.2.2.2 582 a0 5 (by rw [ha0.2]; rfl) ha0.1
  obtain ⟨b583, hF583, hb583⟩ := hw.2.2.2.2.2 583 a0 0 (by rw [ha0.2]; rfl) ha0.1
  obtain ⟨b585, hF585, hb585⟩ := hw.2.2.2.2.2 585 a0 2 (by rw [ha0.2]; rfl) ha0.1
  obtain ⟨b586, hF586, hb586⟩ := hw.2.2.2.2.2 586 a0 41 (by rw [ha0.2]; rfl) ha0.1
  refine lv_aload_n hx hb dX10_hedge_0 rfl (lv_at hl 0 rfl) ?_
  refine g_578 cx hw ha0 k_f_X10_26 dX10_hedge_1 (fun v1 e1 h1 => ?_)
  refine lv_iload_n hx hb dX10_hedge_4 rfl (lv_at hl 1 rfl) ?_
  refine o_ci hw (oRunV cx hA hw q_X2_isThere k_m_X10_135 rfl h1 (by decide) (As := [.int a1]) (c_X2_isThere v1 h1 a1) (by decide) rfl hl.1 rfl (Nat.le_of_ble_eq_true rfl) dX10_hedge_5 (by decide)) (fun v3 σ2 H locs hp hw => ?_)
  obtain ⟨p3_0, p3_1, p3_2⟩ := hp
  rw [p3_0] at hw
  refine lv_if_eq (tgt := 22) hx hb dX10_hedge_8 (by decide) (fun c4 => ?_) (fun c4 => ?_)
  · --
    have i5 : Iv v3 0 0 := iv_eq1 c4 p3_1 (⟨by decide, by decide⟩ : Iv 0 0 0) (by decide)
    refine lv_iconst (v := (-1)) hx hb dX10_hedge_22 (by decide) ?_
    rw [← hQ]
    exact o_ri cx rx hw dX10_hedge_23 ⟨fr, (iv_w (⟨by decide, by decide⟩ : Iv (-1) (-1) (-1)) (by decide)), (by intro V h; exact h)⟩
  · --
    have i6 : Iv v3 1 1 := iv_ne1 c4 p3_1 (⟨by decide, by decide⟩ : Iv 0 0 0) (by decide)
    have i7 : Iv a1 0 63 := p3_2 c4
    refine lv_iload_n hx hb dX10_hedge_11 rfl (lv_at hl 2 rfl) ?_
    refine lv_iconst (v := 1) hx hb dX10_hedge_12 (by decide) ?_
    refine lv_icmp_lt (tgt := 22) hx hb dX10_hedge_13 (by decide) (fun c8 => ?_) (fun c8 => ?_)
    · --
      have i9 : Iv a2 (-2147483648) 0 := iv_lt1 c8 (iv_top a2) (⟨by decide, by decide⟩ : Iv 1 1 1) (by decide)
      refine lv_iconst (v := (-1)) hx hb dX10_hedge_22 (by decide) ?_
      rw [← hQ]
      exact o_ri cx rx hw dX10_hedge_23 ⟨fr, (iv_w (⟨by decide, by decide⟩ : Iv (-1) (-1) (-1)) (by decide)), (by intro V h; exact h)⟩
    · --
      have i10 : Iv a2 1 2147483647 := iv_le2 (iv_nlt c8) (⟨by decide, by decide⟩ : Iv 1 1 1) (iv_top a2) (by decide)
      refine lv_iload_n hx hb dX10_hedge_16 rfl (lv_at hl 2 rfl) ?_
      refine lv_bipush (v := 100) hx hb dX10_hedge_17 (by decide) ?_
      refine lv_icmp_le (tgt := 24) hx hb dX10_hedge_19 (by decide) (fun c11 => ?_) (fun c11 => ?_)
      · --
        have i12 : Iv a2 1 100 := iv_le1 c11 i10 (⟨by decide, by decide⟩ : Iv 100 100 100) (by decide)
        refine lv_aload_n hx hb dX10_hedge_24 rfl (lv_at hl 0 rfl) ?_
        refine g_583 cx hw ha0 k_f_X10_61 dX10_hedge_25 (fun v13 e13 h13 => ?_)
        rw [show v13 = b583 from Option.some.inj (e13.symm.trans (hF583))]
        refine o_cr hw (oRunV cx hA hw q_X1_begin k_m_X10_377 rfl hb583 (by decide) (As := []) (c_X1_begin b583 hb583) (by decide) rfl hl.1 rfl (Nat.le_of_ble_eq_true rfl) dX10_hedge_28 (by decide)) (fun v15 σ14 H locs hp hw => ?_)
        obtain ⟨p15_0, p15_1, p15_2⟩ := hp
        have fr := oFr_tr fr p15_0 (by decide)
        have nn16 : ∀ V, NV σ a0 V → NV σ14 a0 V := fun V h => by
          have h1 : NV σ a0 V := h
          exact nv_c h1 p15_0 (by decide +kernel) (u_v (p15_2 b581 (nv_F h1 (hF583) (hF581))) (nv_P h1 (hF581)))
        refine lv_pop hx hb dX10_hedge_31 rfl ?_
        refine lv_aload_n hx hb dX10_hedge_32 rfl (lv_at hl 0 rfl) ?_
        refine g_583 cx hw ha0 k_f_X10_61 dX10_hedge_33 (fun v17 e17 h17 => ?_)
        rw [show v17 = b583 from Option.some.inj (e17.symm.trans (((kr_c p15_0 (by decide)).trans hF583)))]
        refine lv_iload_n hx hb dX10_hedge_36 rfl (lv_at hl 1 rfl) ?_
        refine lv_iload_n hx hb dX10_hedge_37 rfl (lv_at hl 2 rfl) ?_
        refine o_ci hw (oRunV cx hA hw q_X1_hourOfComing k_m_X10_380 rfl hb583 (by decide) (As := [.int a1, .int a2]) (c_X1_hourOfComing b583 hb583 a1 a2 (iv_w i12 (by decide))) (by decide) rfl hl.1 rfl (Nat.le_of_ble_eq_true rfl) dX10_hedge_38 (by decide)) (fun v19 σ18 H locs hp hw => ?_)
        obtain ⟨p19_0, p19_1⟩ := hp
        have fr := oFr_tr fr p19_0 (by decide)
        refine lv_iconst (v := (-1)) hx hb dX10_hedge_41 (by decide) ?_
        refine lv_icmp_ne (tgt := 54) hx hb dX10_hedge_42 (by decide) (fun c20 => ?_) (fun c20 => ?_)
        · --
          have i21 : Iv v19 0 100 := iv_ne1 c20 p19_1 (⟨by decide, by decide⟩ : Iv (-1) (-1) (-1)) (by decide)
          refine lv_aload_n hx hb dX10_hedge_54 rfl (lv_at hl 0 rfl) ?_
          refine g_583 cx hw ha0 k_f_X10_61 dX10_hedge_55 (fun v22 e22 h22 => ?_)
          rw [show v22 = b583 from Option.some.inj (e22.symm.trans (((kr_c p19_0 (by decide)).trans ((kr_c p15_0 (by decide)).trans hF583))))]
          refine lv_iload_n hx hb dX10_hedge_58 rfl (lv_at hl 1 rfl) ?_
          refine lv_iload_n hx hb dX10_hedge_59 rfl (lv_at hl 2 rfl) ?_
          refine o_ci hw (oRunV cx hA hw q_X1_isHedgedByOne k_m_X10_401 rfl hb583 (by decide) (As := [.int a1, .int a2]) (c_X1_isHedgedByOne b583 hb583 a1 a2 (iv_w i12 (by decide))) (by decide) rfl hl.1 rfl (Nat.le_of_ble_eq_true rfl) dX10_hedge_60 (by decide)) (fun v24 σ23 H locs hp hw => ?_)
          obtain ⟨p24_0, p24_1, p24_2⟩ := hp
          have fr := oFr_tr fr p24_0 (by decide)
          have nn25 : ∀ V, NV σ a0 V → NV σ23 a0 V := fun V h => by
            have h1 : NV σ18 a0 V := (nv_0 (nn16 V h) p19_0 (by decide +kernel))
            exact nv_c h1 p24_0 (by decide +kernel) (u_v (p24_2 b581 (nv_F h1 (((kr_c p19_0 (by decide)).trans ((kr_c p15_0 (by decide)).trans hF583))) (((kr_c p19_0 (by decide)).trans ((kr_c p15_0 (by decide)).trans hF581))))) (nv_P h1 (((kr_c p19_0 (by decide)).trans ((kr_c p15_0 (by decide)).trans hF581)))))
          refine lv_if_eq (tgt := 90) hx hb dX10_hedge_63 (by decide) (fun c26 => ?_) (fun c26 => ?_)
          · --
            have i27 : Iv v24 0 0 := iv_eq1 c26 p24_1 (⟨by decide, by decide⟩ : Iv 0 0 0) (by decide)
            refine lv_aload_n hx hb dX10_hedge_90 rfl (lv_at hl 0 rfl) ?_
            refine g_583 cx hw ha0 k_f_X10_61 dX10_hedge_91 (fun v28 e28 h28 => ?_)
            rw [show v28 = b583 from Option.some.inj (e28.symm.trans (((kr_c p24_0 (by decide)).trans ((kr_c p19_0 (by decide)).trans ((kr_c p15_0 (by decide)).trans hF583)))))]
            refine lv_iload_n hx hb dX10_hedge_94 rfl (lv_at hl 1 rfl) ?_
            refine lv_iload_n hx hb dX10_hedge_95 rfl (lv_at hl 2 rfl) ?_
            refine o_ci hw (oRunV cx hA hw q_X1_isHedgedByTwo k_m_X10_404 rfl hb583 (by decide) (As := [.int a1, .int a2]) (c_X1_isHedgedByTwo b583 hb583 a1 a2 (iv_w i12 (by decide))) (by decide) rfl hl.1 rfl (Nat.le_of_ble_eq_true rfl) dX10_hedge_96 (by decide)) (fun v30 σ29 H locs hp hw => ?_)
            obtain ⟨p30_0, p30_1, p30_2⟩ := hp
            have fr := oFr_tr fr p30_0 (by decide)
            have nn31 : ∀ V, NV σ a0 V → NV σ29 a0 V := fun V h => by
              have h1 : NV σ23 a0 V := (nn25 V h)
              exact nv_c h1 p30_0 (by decide +kernel) (u_v (p30_2 b581 (nv_F h1 (((kr_c p24_0 (by decide)).trans ((kr_c p19_0 (by decide)).trans ((kr_c p15_0 (by decide)).trans hF583)))) (((kr_c p24_0 (by decide)).trans ((kr_c p19_0 (by decide)).trans ((kr_c p15_0 (by decide)).trans hF581)))))) (nv_P h1 (((kr_c p24_0 (by decide)).trans ((kr_c p19_0 (by decide)).trans ((kr_c p15_0 (by decide)).trans hF581))))))
            refine lv_if_eq (tgt := 141) hx hb dX10_hedge_99 (by decide) (fun c32 => ?_) (fun c32 => ?_)
            · --
              have i33 : Iv v30 0 0 := iv_eq1 c32 p30_1 (⟨by decide, by decide⟩ : Iv 0 0 0) (by decide)
              refine lv_bipush (v := (-2)) hx hb dX10_hedge_141 (by decide) ?_
              rw [← hQ]
              exact o_ri cx rx hw dX10_hedge_143 ⟨fr, (iv_w (⟨by decide, by decide⟩ : Iv (-2) (-2) (-2)) (by decide)), (by intro V h; exact (nn31 V h))⟩
            · --
              have i34 : Iv v30 1 1 := iv_ne1 c32 p30_1 (⟨by decide, by decide⟩ : Iv 0 0 0) (by decide)
              refine lv_aload_n hx hb dX10_hedge_102 rfl (lv_at hl 0 rfl) ?_
              refine g_577 cx hw ha0 k_f_X10_19 dX10_hedge_103 (fun v35 e35 h35 => ?_)
              refine o_cv hw (oRunV cx hA hw q_X4_start k_m_X10_292 rfl h35 (by decide) (As := []) (c_X4_start v35 h35) (by decide) rfl hl.1 rfl (Nat.le_of_ble_eq_true rfl) dX10_hedge_106 (by decide)) (fun σ36 H locs hp hw => ?_)
              have p37_0 := hp
              have fr := oFr_tr fr p37_0 (by decide)
              refine lv_aload_n hx hb dX10_hedge_109 rfl (lv_at hl 0 rfl) ?_
              refine g_577 cx hw ha0 k_f_X10_19 dX10_hedge_110 (fun v38 e38 h38 => ?_)
              rw [show v38 = v35 from Option.some.inj (e38.symm.trans (((kr_c p37_0 (by decide)).trans e35)))]
              refine lv_aload_n hx hb dX10_hedge_113 rfl (lv_at hl 0 rfl) ?_
              refine g_583 cx hw ha0 k_f_X10_61 dX10_hedge_114 (fun v39 e39 h39 => ?_)
              rw [show v39 = b583 from Option.some.inj (e39.symm.trans (((kr_c p37_0 (by decide)).trans ((kr_c p30_0 (by decide)).trans ((kr_c p24_0 (by decide)).trans ((kr_c p19_0 (by decide)).trans ((kr_c p15_0 (by decide)).trans hF583)))))))]
              refine g_6 cx hw hb583 k_f_X10_398 dX10_hedge_117 (fun v40 e40 => ?_)
              have z40 : v40.toInt = (σ36.1 6 b583).toInt := congrArg Int32.toInt e40
              refine lv_i2l hx hb dX10_hedge_120 rfl ?_
              refine lv_topl (fun v41 e41 => ?_)
              refine o_cv hw (oRunV cx hA hw q_X4_put k_m_X10_295 rfl h35 (by decide) (As := [.long v41]) (c_X4_put v35 h35 v41) (by decide) rfl hl.1 rfl (Nat.le_of_ble_eq_true rfl) dX10_hedge_121 (by decide)) (fun σ42 H locs hp hw => ?_)
              have p43_0 := hp
              have fr := oFr_tr fr p43_0 (by decide)
              refine lv_aload_n hx hb dX10_hedge_124 rfl (lv_at hl 0 rfl) ?_
              refine g_577 cx hw ha0 k_f_X10_19 dX10_hedge_125 (fun v44 e44 h44 => ?_)
              rw [show v44 = v35 from Option.some.inj (e44.symm.trans (((kr_c p43_0 (by decide)).trans ((kr_c p37_0 (by decide)).trans e35))))]
              refine lv_aload_n hx hb dX10_hedge_128 rfl (lv_at hl 0 rfl) ?_
              refine g_583 cx hw ha0 k_f_X10_61 dX10_hedge_129 (fun v45 e45 h45 => ?_)
              rw [show v45 = b583 from Option.some.inj (e45.symm.trans (((kr_c p43_0 (by decide)).trans ((kr_c p37_0 (by decide)).trans ((kr_c p30_0 (by decide)).trans ((kr_c p24_0 (by decide)).trans ((kr_c p19_0 (by decide)).trans ((kr_c p15_0 (by decide)).trans hF583))))))))]
              refine g_7 cx hw hb583 k_f_X10_407 dX10_hedge_132 (fun v46 e46 => ?_)
              have z46 : v46.toInt = (σ42.1 7 b583).toInt := congrArg Int32.toInt e46
              refine lv_i2l hx hb dX10_hedge_135 rfl ?_
              refine lv_topl (fun v47 e47 => ?_)
              refine o_cv hw (oRunV cx hA hw q_X4_put k_m_X10_295 rfl h35 (by decide) (As := [.long v47]) (c_X4_put v35 h35 v47) (by decide) rfl hl.1 rfl (Nat.le_of_ble_eq_true rfl) dX10_hedge_136 (by decide)) (fun σ48 H locs hp hw => ?_)
              have p49_0 := hp
              have fr := oFr_tr fr p49_0 (by decide)
              refine lv_iconst (v := 2) hx hb dX10_hedge_139 (by decide) ?_
              rw [← hQ]
              exact o_ri cx rx hw dX10_hedge_140 ⟨fr, (iv_w (⟨by decide, by decide⟩ : Iv 2 2 2) (by decide)), (by intro V h; exact (nv_0 (nv_0 (nv_0 (nn31 V h) p37_0 (by decide +kernel)) p43_0 (by decide +kernel)) p49_0 (by decide +kernel)))⟩
          · --
            have i50 : Iv v24 1 1 := iv_ne1 c26 p24_1 (⟨by decide, by decide⟩ : Iv 0 0 0) (by decide)
            refine lv_aload_n hx hb dX10_hedge_66 rfl (lv_at hl 0 rfl) ?_
            refine g_577 cx hw ha0 k_f_X10_19 dX10_hedge_67 (fun v51 e51 h51 => ?_)
            refine o_cv hw (oRunV cx hA hw q_X4_start k_m_X10_292 rfl h51 (by decide) (As := []) (c_X4_start v51 h51) (by decide) rfl hl.1 rfl (Nat.le_of_ble_eq_true rfl) dX10_hedge_70 (by decide)) (fun σ52 H locs hp hw => ?_)
            have p53_0 := hp
            have fr := oFr_tr fr p53_0 (by decide)
            refine lv_aload_n hx hb dX10_hedge_73 rfl (lv_at hl 0 rfl) ?_
            refine g_577 cx hw ha0 k_f_X10_19 dX10_hedge_74 (fun v54 e54 h54 => ?_)
            rw [show v54 = v51 from Option.some.inj (e54.symm.trans (((kr_c p53_0 (by decide)).trans e51)))]
            refine lv_aload_n hx hb dX10_hedge_77 rfl (lv_at hl 0 rfl) ?_
            refine g_583 cx hw ha0 k_f_X10_61 dX10_hedge_78 (fun v55 e55 h55 => ?_)
            rw [show v55 = b583 from Option.some.inj (e55.symm.trans (((kr_c p53_0 (by decide)).trans ((kr_c p24_0 (by decide)).trans ((kr_c p19_0 (by decide)).trans ((kr_c p15_0 (by decide)).trans hF583))))))]
            refine g_6 cx hw hb583 k_f_X10_398 dX10_hedge_81 (fun v56 e56 => ?_)
            have z56 : v56.toInt = (σ52.1 6 b583).toInt := congrArg Int32.toInt e56
            refine lv_i2l hx hb dX10_hedge_84 rfl ?_
            refine lv_topl (fun v57 e57 => ?_)
            refine o_cv hw (oRunV cx hA hw q_X4_put k_m_X10_295 rfl h51 (by decide) (As := [.long v57]) (c_X4_put v51 h51 v57) (by decide) rfl hl.1 rfl (Nat.le_of_ble_eq_true rfl) dX10_hedge_85 (by decide)) (fun σ58 H locs hp hw => ?_)
            have p59_0 := hp
            have fr := oFr_tr fr p59_0 (by decide)
            refine lv_iconst (v := 1) hx hb dX10_hedge_88 (by decide) ?_
            rw [← hQ]
            exact o_ri cx rx hw dX10_hedge_89 ⟨fr, (iv_w (⟨by decide, by decide⟩ : Iv 1 1 1) (by decide)), (by intro V h; exact (nv_0 (nv_0 (nn25 V h) p53_0 (by decide +kernel)) p59_0 (by decide +kernel)))⟩
        · --
          have i60 : Iv v19 (-1) (-1) := iv_eq1 c20 p19_1 (⟨by decide, by decide⟩ : Iv (-1) (-1) (-1)) (by decide)
          refine lv_aload_n hx hb dX10_hedge_45 rfl (lv_at hl 0 rfl) ?_
          refine g_577 cx hw ha0 k_f_X10_19 dX10_hedge_46 (fun v61 e61 h61 => ?_)
          refine o_cv hw (oRunV cx hA hw q_X4_start k_m_X10_292 rfl h61 (by decide) (As := []) (c_X4_start v61 h61) (by decide) rfl hl.1 rfl (Nat.le_of_ble_eq_true rfl) dX10_hedge_49 (by decide)) (fun σ62 H locs hp hw => ?_)
          have p63_0 := hp
          have fr := oFr_tr fr p63_0 (by decide)
          refine lv_iconst (v := 0) hx hb dX10_hedge_52 (by decide) ?_
          rw [← hQ]
          exact o_ri cx rx hw dX10_hedge_53 ⟨fr, (iv_w (⟨by decide, by decide⟩ : Iv 0 0 0) (by decide)), (by intro V h; exact (nv_0 (nv_0 (nn16 V h) p19_0 (by decide +kernel)) p63_0 (by decide +kernel)))⟩
      · --
        have i64 : Iv a2 101 2147483647 := iv_lt2 (iv_nle c11) (⟨by decide, by decide⟩ : Iv 100 100 100) i10 (by decide)
        refine lv_iconst (v := (-1)) hx hb dX10_hedge_22 (by decide) ?_
        rw [← hQ]
        exact o_ri cx rx hw dX10_hedge_23 ⟨fr, (iv_w (⟨by decide, by decide⟩ : Iv (-1) (-1) (-1)) (by decide)), (by intro V h; exact h)⟩
abbrev fs_X10_gates : List Nat := [193, 327, 328, 329, 330, 331, 517]
abbrev ts_X10_gates : List Nat := [32, 33, 34, 36, 37, 38]
set_option maxHeartbeats 4000000 in
set_option maxRecDepth 100000 in
theorem c_X10_gates (a0 : Nat) (ha0 : oA L τ a0 9) (a1 : Int32) (a2 : Int32) (a3 : Int32) : oMet l A L τ cy D K yX10_gates cX10_gates 10 (some .int) 6 154 [.ref a0, .int a1, .int a2, .int a3] σ (va_Qi (fun r σ1 => oFr τ fs_X10_gates ts_X10_gates σ σ1 ∧ (∀ V, NV σ a0 V → NV σ1 a0 V)) (oPo A L τ cy D) A) := by
  refine oMk (by decide) (Nat.le_of_ble_eq_true rfl) rfl ?_
  intro p e s m args below meth c ls cx rx hA hw hl
  generalize hQ : MQ below _ args s 0 0 A = Q
  have hx := cx.1.1
  have hb := cx.1.2.1
  have hml := cx.1.2.2.1
  have hown := cx.1.2.2.2.1
  have hts := cx.1.2.2.2.2
  have hl : lv_has ls 10 [(0, .ref a0), (1, .int a1), (2, .int a2), (3, .int a3)] := hl
  have fr : oFr τ fs_X10_gates ts_X10_gates σ σ := oFr_rf
  obtain ⟨b581, hF581, hb581⟩ := hw.2.2.2.2.2 581 a0 5 (by rw [ha0.2]; rfl) ha0.1
  obtain ⟨b582, hF582, hb582⟩ := hw.2.2.2.2.2 582 a0 5 (by rw [ha0.2]; rfl) ha0.1
  obtain ⟨b583, hF583, hb583⟩ := hw.2.2.2.2.2 583 a0 0 (by rw [ha0.2]; rfl) ha0.1
  obtain ⟨b585, hF585, hb585⟩ := hw.2.2.2.2.2 585 a0 2 (by rw [ha0.2]; rfl) ha0.1
  obtain ⟨b586, hF586, hb586⟩ := hw.2.2.2.2.2 586 a0 41 (by rw [ha0.2]; rfl) ha0.1
  refine lv_aload_n hx hb dX10_gates_0 rfl (lv_at hl 0 rfl) ?_
  refine g_581 cx hw ha0 k_f_X10_49 dX10_gates_1 (fun v1 e1 h1 => ?_)
  rw [show v1 = b581 from Option.some.inj (e1.symm.trans (hF581))]
  refine lv_iload_n hx hb dX10_gates_4 rfl (lv_at hl 1 rfl) ?_
  refine o_ci hw (oRunV cx hA hw q_X6_hasHerd k_m_X10_178 rfl hb581 (by decide) (As := [.int a1]) (c_X6_hasHerd b581 hb581 a1) (by decide) rfl hl.1 rfl (Nat.le_of_ble_eq_true rfl) dX10_gates_5 (by decide)) (fun v3 σ2 H locs hp hw => ?_)
  obtain ⟨p3_0, p3_1, p3_2⟩ := hp
  rw [p3_0] at hw
  refine lv_if_eq (tgt := 33) hx hb dX10_gates_8 (by decide) (fun c4 => ?_) (fun c4 => ?_)
  · --
    have i5 : Iv v3 0 0 := iv_eq1 c4 p3_1 (⟨by decide, by decide⟩ : Iv 0 0 0) (by decide)
    refine lv_iconst (v := (-1)) hx hb dX10_gates_33 (by decide) ?_
    rw [← hQ]
    exact o_ri cx rx hw dX10_gates_34 ⟨fr, (by intro V h; exact h)⟩
  · --
    have i6 : Iv v3 1 1 := iv_ne1 c4 p3_1 (⟨by decide, by decide⟩ : Iv 0 0 0) (by decide)
    have i7 : Iv a1 0 5 := p3_2 c4
    refine lv_aload_n hx hb dX10_gates_11 rfl (lv_at hl 0 rfl) ?_
    refine g_578 cx hw ha0 k_f_X10_26 dX10_gates_12 (fun v8 e8 h8 => ?_)
    refine lv_iload_n hx hb dX10_gates_15 rfl (lv_at hl 2 rfl) ?_
    refine o_ci hw (oRunV cx hA hw q_X2_isThere k_m_X10_135 rfl h8 (by decide) (As := [.int a2]) (c_X2_isThere v8 h8 a2) (by decide) rfl hl.1 rfl (Nat.le_of_ble_eq_true rfl) dX10_gates_16 (by decide)) (fun v10 σ9 H locs hp hw => ?_)
    obtain ⟨p10_0, p10_1, p10_2⟩ := hp
    rw [p10_0] at hw
    refine lv_if_eq (tgt := 33) hx hb dX10_gates_19 (by decide) (fun c11 => ?_) (fun c11 => ?_)
    · --
      have i12 : Iv v10 0 0 := iv_eq1 c11 p10_1 (⟨by decide, by decide⟩ : Iv 0 0 0) (by decide)
      refine lv_iconst (v := (-1)) hx hb dX10_gates_33 (by decide) ?_
      rw [← hQ]
      exact o_ri cx rx hw dX10_gates_34 ⟨fr, (by intro V h; exact h)⟩
    · --
      have i13 : Iv v10 1 1 := iv_ne1 c11 p10_1 (⟨by decide, by decide⟩ : Iv 0 0 0) (by decide)
      have i14 : Iv a2 0 63 := p10_2 c11
      refine lv_iload_n hx hb dX10_gates_22 rfl (lv_at hl 3 rfl) ?_
      refine lv_iconst (v := 1) hx hb dX10_gates_23 (by decide) ?_
      refine lv_icmp_lt (tgt := 33) hx hb dX10_gates_24 (by decide) (fun c15 => ?_) (fun c15 => ?_)
      · --
        have i16 : Iv a3 (-2147483648) 0 := iv_lt1 c15 (iv_top a3) (⟨by decide, by decide⟩ : Iv 1 1 1) (by decide)
        refine lv_iconst (v := (-1)) hx hb dX10_gates_33 (by decide) ?_
        rw [← hQ]
        exact o_ri cx rx hw dX10_gates_34 ⟨fr, (by intro V h; exact h)⟩
      · --
        have i17 : Iv a3 1 2147483647 := iv_le2 (iv_nlt c15) (⟨by decide, by decide⟩ : Iv 1 1 1) (iv_top a3) (by decide)
        refine lv_iload_n hx hb dX10_gates_27 rfl (lv_at hl 3 rfl) ?_
        refine lv_bipush (v := 100) hx hb dX10_gates_28 (by decide) ?_
        refine lv_icmp_le (tgt := 35) hx hb dX10_gates_30 (by decide) (fun c18 => ?_) (fun c18 => ?_)
        · --
          have i19 : Iv a3 1 100 := iv_le1 c18 i17 (⟨by decide, by decide⟩ : Iv 100 100 100) (by decide)
          refine lv_aload_n hx hb dX10_gates_35 rfl (lv_at hl 0 rfl) ?_
          refine g_578 cx hw ha0 k_f_X10_26 dX10_gates_36 (fun v20 e20 h20 => ?_)
          rw [show v20 = v8 from Option.some.inj (e20.symm.trans (e8))]
          refine lv_aload_n hx hb dX10_gates_39 rfl (lv_at hl 0 rfl) ?_
          refine g_581 cx hw ha0 k_f_X10_49 dX10_gates_40 (fun v21 e21 h21 => ?_)
          rw [show v21 = b581 from Option.some.inj (e21.symm.trans (hF581))]
          refine o_cl hw (oRunV cx hA hw q_X6_herdCells k_m_X10_410 rfl hb581 (by decide) (As := []) (c_X6_herdCells b581 hb581) (by decide) rfl hl.1 rfl (Nat.le_of_ble_eq_true rfl) dX10_gates_43 (by decide)) (fun v23 σ22 H locs hp hw => ?_)
          have p23_0 := hp
          rw [p23_0] at hw
          refine o_ci hw (oRunV cx hA hw q_X2_gatesIn k_m_X10_413 rfl h8 (by decide) (As := [.long v23]) (c_X2_gatesIn v8 h8 v23) (by decide) rfl hl.1 rfl (Nat.le_of_ble_eq_true rfl) dX10_gates_46 (by decide)) (fun v25 σ24 H locs hp hw => ?_)
          obtain ⟨p25_0, p25_1⟩ := hp
          rw [p25_0] at hw
          refine lv_istore (lv' := [(4, .int v25), (0, .ref a0), (1, .int a1), (2, .int a2), (3, .int a3)]) hx hb dX10_gates_49 hl (by decide) rfl (fun ls hl => ?_)
          refine lv_iconst (v := 0) hx hb dX10_gates_51 (by decide) ?_
          refine lv_istore (lv' := [(5, .int 0), (4, .int v25), (0, .ref a0), (1, .int a1), (2, .int a2), (3, .int a3)]) hx hb dX10_gates_52 hl (by decide) rfl (fun ls hl => ?_)
          refine lv_iconst (v := (-1)) hx hb dX10_gates_54 (by decide) ?_
          refine lv_istore (lv' := [(6, .int (-1)), (5, .int 0), (4, .int v25), (0, .ref a0), (1, .int a1), (2, .int a2), (3, .int a3)]) hx hb dX10_gates_55 hl (by decide) rfl (fun ls hl => ?_)
          refine lv_iconst (v := (-1)) hx hb dX10_gates_57 (by decide) ?_
          refine lv_istore (lv' := [(7, .int (-1)), (6, .int (-1)), (5, .int 0), (4, .int v25), (0, .ref a0), (1, .int a1), (2, .int a2), (3, .int a3)]) hx hb dX10_gates_58 hl (by decide) rfl (fun ls hl => ?_)
          refine lv_iconst (v := 0) hx hb dX10_gates_60 (by decide) ?_
          refine lv_istore (lv' := [(8, .int 0), (7, .int (-1)), (6, .int (-1)), (5, .int 0), (4, .int v25), (0, .ref a0), (1, .int a1), (2, .int a2), (3, .int a3)]) hx hb dX10_gates_61 hl (by decide) rfl (fun ls hl => ?_)
          have frE_63 := fr
          have J_63 : ∀ n63 : Nat, ∀ (j63_5 : Int32) (j63_6 : Int32) (ij63_6 : Iv j63_6 (-1) 2147483647) (j63_7 : Int32) (ij63_7 : Iv j63_7 (-1) 2147483647) (j63_8 : Int32) (ij63_8 : Iv j63_8 0 2147483647), ∀ (σ_63 : oSt) (H : Heap) (locs : List Loc), oI A L τ cy D s.heap σ_63 H locs → oFr τ fs_X10_gates ts_X10_gates σ σ_63 → (2147483647 - j63_8.toInt).toNat < n63 → (∀ V, NV σ a0 V → NV σ_63 a0 V) → ∀ (ls : Array Slot), lv_has ls 10 [(0, .ref a0), (1, .int a1), (2, .int a2), (3, .int a3), (4, .int v25), (5, .int j63_5), (6, .int j63_6), (7, .int j63_7), (8, .int j63_8)] → W p l e ({ frames := 6, cells := 0, slots := 0, locals := 154 } : Room) s m args below meth c H locs 0 0 Q (F0 m 63 ls []) := by
            intro n63
            induction n63 with
            | zero => intro j63_5 j63_6 ij63_6 j63_7 ij63_7 j63_8 ij63_8 σ_63 H locs hw fr   hn_63 nv_63  ls hl; exact absurd hn_63 (Nat.not_lt_zero _)
            | succ n63 ih_63 =>
              intro j63_5 j63_6 ij63_6 j63_7 ij63_7 j63_8 ij63_8 σ_63 H locs hw fr   hn_63 nv_63  ls hl
              have fr_63 := fr
              refine lv_iload hx hb dX10_gates_63 (lv_at hl 8 rfl) ?_
              refine lv_iconst (v := 1) hx hb dX10_gates_65 (by decide) ?_
              refine lv_aload_n hx hb dX10_gates_66 rfl (lv_at hl 0 rfl) ?_
              refine g_578 cx hw ha0 k_f_X10_26 dX10_gates_67 (fun v26 e26 h26 => ?_)
              rw [show v26 = v8 from Option.some.inj (e26.symm.trans (((kr_c fr_63 (by decide)).trans ((kr_c frE_63 (by decide)).symm.trans (e8)))))]
              refine g_66 cx hw h8 k_f_X10_306 dX10_gates_70 (fun v27 e27 i27 => ?_)
              have z27 : v27.toInt = (σ_63.1 66 v8).toInt := congrArg Int32.toInt e27
              refine lv_ishl hx hb dX10_gates_73 ?_
              refine lv_topi (fun v28 e28 => ?_)
              refine lv_icmp_ge (tgt := 158) hx hb dX10_gates_74 (by decide) (fun c29 => ?_) (fun c29 => ?_)
              · --
                refine lv_aload_n hx hb dX10_gates_158 rfl (lv_at hl 0 rfl) ?_
                refine g_577 cx hw ha0 k_f_X10_19 dX10_gates_159 (fun v30 e30 h30 => ?_)
                refine o_cv hw (oRunV cx hA hw q_X4_start k_m_X10_292 rfl h30 (by decide) (As := []) (c_X4_start v30 h30) (by decide) rfl hl.1 rfl (Nat.le_of_ble_eq_true rfl) dX10_gates_162 (by decide)) (fun σ31 H locs hp hw => ?_)
                have p32_0 := hp
                have fr := oFr_tr fr p32_0 (by decide)
                refine lv_aload_n hx hb dX10_gates_165 rfl (lv_at hl 0 rfl) ?_
                refine g_577 cx hw ha0 k_f_X10_19 dX10_gates_166 (fun v33 e33 h33 => ?_)
                rw [show v33 = v30 from Option.some.inj (e33.symm.trans (((kr_c p32_0 (by decide)).trans e30)))]
                refine lv_iload hx hb dX10_gates_169 (lv_at hl 6 rfl) ?_
                refine lv_i2l hx hb dX10_gates_171 rfl ?_
                refine lv_topl (fun v34 e34 => ?_)
                refine o_cv hw (oRunV cx hA hw q_X4_put k_m_X10_295 rfl h30 (by decide) (As := [.long v34]) (c_X4_put v30 h30 v34) (by decide) rfl hl.1 rfl (Nat.le_of_ble_eq_true rfl) dX10_gates_172 (by decide)) (fun σ35 H locs hp hw => ?_)
                have p36_0 := hp
                have fr := oFr_tr fr p36_0 (by decide)
                refine lv_aload_n hx hb dX10_gates_175 rfl (lv_at hl 0 rfl) ?_
                refine g_577 cx hw ha0 k_f_X10_19 dX10_gates_176 (fun v37 e37 h37 => ?_)
                rw [show v37 = v30 from Option.some.inj (e37.symm.trans (((kr_c p36_0 (by decide)).trans ((kr_c p32_0 (by decide)).trans e30))))]
                refine lv_iload hx hb dX10_gates_179 (lv_at hl 5 rfl) ?_
                have J_191 : ∀ (k191_1 : Int64), ∀ (H : Heap) (locs : List Loc), oI A L τ cy D s.heap σ35 H locs → (∀ V, NV σ a0 V → NV σ35 a0 V) → ∀ (ls : Array Slot), lv_has ls 10 [(0, .ref a0), (1, .int a1), (2, .int a2), (3, .int a3), (4, .int v25), (5, .int j63_5), (6, .int j63_6), (7, .int j63_7), (8, .int j63_8)] → W p l e ({ frames := 6, cells := 0, slots := 0, locals := 154 } : Room) s m args below meth c H locs 0 0 Q (F0 m 191 ls [.long k191_1, .ref v30]) := by
                  intro k191_1 H locs hw   nv_191  ls hl
                  refine o_cv hw (oRunV cx hA hw q_X4_put k_m_X10_295 rfl h30 (by decide) (As := [.long k191_1]) (c_X4_put v30 h30 k191_1) (by decide) rfl hl.1 rfl (Nat.le_of_ble_eq_true rfl) dX10_gates_191 (by decide)) (fun σ38 H locs hp hw => ?_)
                  have p39_0 := hp
                  have fr := oFr_tr fr p39_0 (by decide)
                  refine lv_iload hx hb dX10_gates_194 (lv_at hl 5 rfl) ?_
                  rw [← hQ]
                  exact o_ri cx rx hw dX10_gates_196 ⟨fr, (by intro V h; exact (nv_0 (nv_191 V h) p39_0 (by decide +kernel)))⟩
                refine lv_if_ne (tgt := 188) hx hb dX10_gates_181 (by decide) (fun c40 => ?_) (fun c40 => ?_)
                · --
                  refine lv_iload hx hb dX10_gates_188 (lv_at hl 7 rfl) ?_
                  refine lv_i2l hx hb dX10_gates_190 rfl ?_
                  refine lv_topl (fun v41 e41 => ?_)
                  exact J_191 v41 _ _ hw (fun V h => (nv_0 (nv_0 (nv_63 V h) p32_0 (by decide +kernel)) p36_0 (by decide +kernel))) _ (lv_sub hl [0, 1, 2, 3, 4, 5, 6, 7, 8] rfl)
                · --
                  have i42 : Iv j63_5 0 0 := iv_eq1 c40 (iv_top j63_5) (⟨by decide, by decide⟩ : Iv 0 0 0) (by decide)
                  refine lv_lconst (v := 0) hx hb dX10_gates_184 (by decide) ?_
                  refine lv_goto (tgt := 191) hx hb dX10_gates_185 (by decide) ?_
                  exact J_191 0 _ _ hw (fun V h => (nv_0 (nv_0 (nv_63 V h) p32_0 (by decide +kernel)) p36_0 (by decide +kernel))) _ (lv_sub hl [0, 1, 2, 3, 4, 5, 6, 7, 8] rfl)
              · --
                have i43 : Iv j63_8 0 2147483646 := iv_lt1 (iv_nle c29) ij63_8 (iv_top v28) (by decide)
                have i44 : Iv v28 1 2147483647 := iv_lt2 (iv_nle c29) ij63_8 (iv_top v28) (by decide)
                refine lv_iload hx hb dX10_gates_77 (lv_at hl 8 rfl) ?_
                refine lv_iload hx hb dX10_gates_79 (lv_at hl 4 rfl) ?_
                refine lv_iand hx hb dX10_gates_81 ?_
                refine lv_topi (fun v45 e45 => ?_)
                have i45 : Iv v45 0 63 := iv_and e45 p25_1 (by decide)
                refine lv_iload hx hb dX10_gates_82 (lv_at hl 4 rfl) ?_
                have frE_152 := fr
                have J_152 : ∀ (j152_5 : Int32) (j152_6 : Int32) (ij152_6 : Iv j152_6 (-1) 2147483647) (j152_7 : Int32) (ij152_7 : Iv j152_7 (-1) 2147483647), ∀ (σ_152 : oSt) (H : Heap) (locs : List Loc), oI A L τ cy D s.heap σ_152 H locs → oFr τ fs_X10_gates ts_X10_gates σ σ_152 → (∀ V, NV σ a0 V → NV σ_152 a0 V) → ∀ (ls : Array Slot), lv_has ls 10 [(0, .ref a0), (1, .int a1), (2, .int a2), (3, .int a3), (4, .int v25), (5, .int j152_5), (6, .int j152_6), (7, .int j152_7), (8, .int j63_8)] → W p l e ({ frames := 6, cells := 0, slots := 0, locals := 154 } : Room) s m args below meth c H locs 0 0 Q (F0 m 152 ls []) := by
                  intro j152_5 j152_6 ij152_6 j152_7 ij152_7 σ_152 H locs hw fr    nv_152  ls hl
                  have fr_152 := fr
                  obtain ⟨v46, e46⟩ : ∃ y : Int32, y = j63_8 + 1 := ⟨_, rfl⟩
                  have i46 : Iv v46 1 2147483647 := iv_add e46 i43 (⟨by decide, by decide⟩ : Iv 1 1 1) (by decide)
                  have x46 : v46.toInt = j63_8.toInt + 1 := ex_add e46 i43 (⟨by decide, by decide⟩ : Iv 1 1 1) (by decide)
                  refine lv_iinc (v := v46) (lv' := [(8, .int v46), (0, .ref a0), (1, .int a1), (2, .int a2), (3, .int a3), (4, .int v25), (5, .int j152_5), (6, .int j152_6), (7, .int j152_7)]) hx hb dX10_gates_152 hl (k := 8) rfl (by rw [e46]; rfl) (by decide) rfl (fun ls hl => ?_)
                  refine lv_goto (tgt := 63) hx hb dX10_gates_155 (by decide) ?_
                  exact ih_63 j152_5 j152_6 ij152_6 j152_7 ij152_7 v46 (iv_w i46 (by decide)) σ_152 _ _ hw fr (ms_up x46 (by decide) (iv_w (a' := 0) (b' := 2147483647) i46 (by decide)).2 hn_63) (fun V h => (nv_152 V h)) _ (lv_sub hl [1, 2, 3, 4, 5, 6, 7, 8, 0] rfl)
                refine lv_icmp_ne (tgt := 152) hx hb dX10_gates_84 (by decide) (fun c47 => ?_) (fun c47 => ?_)
                · --
                  exact J_152 j63_5 j63_6 ij63_6 j63_7 ij63_7 σ_63 _ _ hw fr (fun V h => (nv_63 V h)) _ (lv_sub hl [0, 1, 2, 3, 4, 5, 6, 7, 8] rfl)
                · --
                  refine lv_aload_n hx hb dX10_gates_87 rfl (lv_at hl 0 rfl) ?_
                  refine g_583 cx hw ha0 k_f_X10_61 dX10_gates_88 (fun v48 e48 h48 => ?_)
                  rw [show v48 = b583 from Option.some.inj (e48.symm.trans (((kr_c fr_63 (by decide)).trans hF583)))]
                  refine lv_iload hx hb dX10_gates_91 (lv_at hl 8 rfl) ?_
                  refine lv_iload_n hx hb dX10_gates_93 rfl (lv_at hl 1 rfl) ?_
                  refine lv_iload_n hx hb dX10_gates_94 rfl (lv_at hl 2 rfl) ?_
                  refine lv_iload_n hx hb dX10_gates_95 rfl (lv_at hl 3 rfl) ?_
                  refine o_ci hw (oRunV cx hA hw q_X1_isAtWith k_m_X10_416 rfl hb583 (by decide) (As := [.int j63_8, .int a1, .int a2, .int a3]) (c_X1_isAtWith b583 hb583 j63_8 a1 (iv_w i7 (by decide)) a2 a3) (by decide) rfl hl.1 rfl (Nat.le_of_ble_eq_true rfl) dX10_gates_96 (by decide)) (fun v50 σ49 H locs hp hw => ?_)
                  obtain ⟨p50_0, p50_1, p50_2⟩ := hp
                  have fr := oFr_tr fr p50_0 (by decide)
                  have nn51 : ∀ V, NV σ a0 V → NV σ49 a0 V := fun V h => by
                    have h1 : NV σ_63 a0 V := (nv_63 V h)
                    exact nv_c h1 p50_0 (by decide +kernel) (u_v (p50_2 b581 (nv_F h1 (((kr_c fr_63 (by decide)).trans hF583)) (((kr_c fr_63 (by decide)).trans hF581)))) (nv_P h1 (((kr_c fr_63 (by decide)).trans hF581))))
                  refine lv_if_eq (tgt := 152) hx hb dX10_gates_99 (by decide) (fun c52 => ?_) (fun c52 => ?_)
                  · --
                    have i53 : Iv v50 0 0 := iv_eq1 c52 p50_1 (⟨by decide, by decide⟩ : Iv 0 0 0) (by decide)
                    exact J_152 j63_5 j63_6 ij63_6 j63_7 ij63_7 σ49 _ _ hw fr (fun V h => (nn51 V h)) _ (lv_sub hl [0, 1, 2, 3, 4, 5, 6, 7, 8] rfl)
                  · --
                    have i54 : Iv v50 1 1 := iv_ne1 c52 p50_1 (⟨by decide, by decide⟩ : Iv 0 0 0) (by decide)
                    obtain ⟨v55, e55⟩ : ∃ y : Int32, y = j63_5 + 1 := ⟨_, rfl⟩
                    refine lv_iinc (v := v55) (lv' := [(5, .int v55), (0, .ref a0), (1, .int a1), (2, .int a2), (3, .int a3), (4, .int v25), (6, .int j63_6), (7, .int j63_7), (8, .int j63_8)]) hx hb dX10_gates_102 hl (k := 5) rfl (by rw [e55]; rfl) (by decide) rfl (fun ls hl => ?_)
                    refine lv_iload hx hb dX10_gates_105 (lv_at hl 7 rfl) ?_
                    refine lv_iload hx hb dX10_gates_107 (lv_at hl 8 rfl) ?_
                    refine lv_iand hx hb dX10_gates_109 ?_
                    refine lv_topi (fun v56 e56 => ?_)
                    have i56 : Iv v56 0 2147483646 := iv_and e56 i43 (by decide)
                    refine lv_istore (lv' := [(7, .int v56), (5, .int v55), (0, .ref a0), (1, .int a1), (2, .int a2), (3, .int a3), (4, .int v25), (6, .int j63_6), (8, .int j63_8)]) hx hb dX10_gates_110 hl (by decide) rfl (fun ls hl => ?_)
                    refine lv_iload hx hb dX10_gates_112 (lv_at hl 1 rfl) ?_
                    refine lv_iconst (v := 1) hx hb dX10_gates_114 (by decide) ?_
                    have J_136 : ∀ (k136_0 : Int32) (ik136_0 : Iv k136_0 0 1), ∀ (H : Heap) (locs : List Loc), oI A L τ cy D s.heap σ49 H locs → (∀ V, NV σ a0 V → NV σ49 a0 V) → ∀ (ls : Array Slot), lv_has ls 10 [(0, .ref a0), (1, .int a1), (2, .int a2), (3, .int a3), (4, .int v25), (5, .int v55), (6, .int j63_6), (7, .int v56), (8, .int j63_8)] → W p l e ({ frames := 6, cells := 0, slots := 0, locals := 154 } : Room) s m args below meth c H locs 0 0 Q (F0 m 136 ls [.int k136_0]) := by
                      intro k136_0 ik136_0 H locs hw   nv_136  ls hl
                      refine lv_istore (lv' := [(9, .int k136_0), (0, .ref a0), (1, .int a1), (2, .int a2), (3, .int a3), (4, .int v25), (5, .int v55), (6, .int j63_6), (7, .int v56), (8, .int j63_8)]) hx hb dX10_gates_136 hl (by decide) rfl (fun ls hl => ?_)
                      refine lv_iload hx hb dX10_gates_138 (lv_at hl 0 rfl) ?_
                      have J_150 : ∀ (k150_0 : Int32) (ik150_0 : Iv k150_0 (-1) 2147483647), ∀ (H : Heap) (locs : List Loc), oI A L τ cy D s.heap σ49 H locs → (∀ V, NV σ a0 V → NV σ49 a0 V) → ∀ (ls : Array Slot), lv_has ls 10 [(0, .ref a0), (1, .int a1), (2, .int a2), (3, .int a3), (4, .int v25), (5, .int v55), (6, .int j63_6), (7, .int v56), (8, .int j63_8), (9, .int k136_0)] → W p l e ({ frames := 6, cells := 0, slots := 0, locals := 154 } : Room) s m args below meth c H locs 0 0 Q (F0 m 150 ls [.int k150_0]) := by
                        intro k150_0 ik150_0 H locs hw   nv_150  ls hl
                        refine lv_istore (lv' := [(6, .int k150_0), (0, .ref a0), (1, .int a1), (2, .int a2), (3, .int a3), (4, .int v25), (5, .int v55), (7, .int v56), (8, .int j63_8), (9, .int k136_0)]) hx hb dX10_gates_150 hl (by decide) rfl (fun ls hl => ?_)
                        exact J_152 v55 k150_0 ik150_0 v56 (iv_w i56 (by decide)) σ49 _ _ hw fr (fun V h => (nv_150 V h)) _ (lv_sub hl [1, 2, 3, 4, 5, 6, 0, 7, 8] rfl)
                      refine lv_if_eq (tgt := 148) hx hb dX10_gates_140 (by decide) (fun c57 => ?_) (fun c57 => ?_)
                      · --
                        have i58 : Iv k136_0 0 0 := iv_eq1 c57 ik136_0 (⟨by decide, by decide⟩ : Iv 0 0 0) (by decide)
                        refine lv_iload hx hb dX10_gates_148 (lv_at hl 7 rfl) ?_
                        exact J_150 j63_6 ij63_6 _ _ hw (fun V h => (nv_136 V h)) _ (lv_sub hl [1, 2, 3, 4, 5, 6, 7, 8, 9, 0] rfl)
                      · --
                        have i59 : Iv k136_0 1 1 := iv_ne1 c57 ik136_0 (⟨by decide, by decide⟩ : Iv 0 0 0) (by decide)
                        refine lv_iload hx hb dX10_gates_143 (lv_at hl 9 rfl) ?_
                        refine lv_goto (tgt := 150) hx hb dX10_gates_145 (by decide) ?_
                        exact J_150 j63_8 (iv_w i43 (by decide)) _ _ hw (fun V h => (nv_136 V h)) _ (lv_sub hl [1, 2, 3, 4, 5, 6, 7, 8, 9, 0] rfl)
                    have J_131 : ∀ (H : Heap) (locs : List Loc), oI A L τ cy D s.heap σ49 H locs → (∀ V, NV σ a0 V → NV σ49 a0 V) → ∀ (ls : Array Slot), lv_has ls 10 [(0, .ref a0), (1, .int a1), (2, .int a2), (3, .int a3), (4, .int v25), (5, .int v55), (6, .int j63_6), (7, .int v56), (8, .int j63_8)] → W p l e ({ frames := 6, cells := 0, slots := 0, locals := 154 } : Room) s m args below meth c H locs 0 0 Q (F0 m 131 ls []) := by
                      intro  H locs hw   nv_131  ls hl
                      refine lv_iconst (v := 1) hx hb dX10_gates_131 (by decide) ?_
                      refine lv_goto (tgt := 136) hx hb dX10_gates_132 (by decide) ?_
                      exact J_136 1 (iv_w (⟨by decide, by decide⟩ : Iv 1 1 1) (by decide)) _ _ hw (fun V h => (nv_131 V h)) _ (lv_sub hl [0, 1, 2, 3, 4, 5, 6, 7, 8] rfl)
                    refine lv_icmp_eq (tgt := 131) hx hb dX10_gates_115 (by decide) (fun c60 => ?_) (fun c60 => ?_)
                    · --
                      have i61 : Iv v55 1 1 := iv_eq1 c60 (iv_top v55) (⟨by decide, by decide⟩ : Iv 1 1 1) (by decide)
                      exact J_131 _ _ hw (fun V h => (nn51 V h)) _ (lv_sub hl [2, 3, 4, 5, 6, 1, 7, 0, 8] rfl)
                    · --
                      refine lv_iload hx hb dX10_gates_118 (lv_at hl 8 rfl) ?_
                      refine o_ci hw (oRunS cx hA hw q_J6_bitCount_0f7a4 k_m_X10_420 (As := [.int j63_8]) (c_J6_bitCount_0f7a4 j63_8) (by decide) rfl hl.1 rfl (Nat.le_of_ble_eq_true rfl) dX10_gates_120 (by decide)) (fun v63 σ62 H locs hp hw => ?_)
                      obtain ⟨p63_0, p63_1⟩ := hp
                      rw [p63_0] at hw
                      refine lv_iload hx hb dX10_gates_123 (lv_at hl 7 rfl) ?_
                      refine o_ci hw (oRunS cx hA hw q_J6_bitCount_0f7a4 k_m_X10_420 (As := [.int j63_6]) (c_J6_bitCount_0f7a4 j63_6) (by decide) rfl hl.1 rfl (Nat.le_of_ble_eq_true rfl) dX10_gates_125 (by decide)) (fun v65 σ64 H locs hp hw => ?_)
                      obtain ⟨p65_0, p65_1⟩ := hp
                      rw [p65_0] at hw
                      refine lv_icmp_ge (tgt := 135) hx hb dX10_gates_128 (by decide) (fun c66 => ?_) (fun c66 => ?_)
                      · --
                        refine lv_iconst (v := 0) hx hb dX10_gates_135 (by decide) ?_
                        exact J_136 0 (iv_w (⟨by decide, by decide⟩ : Iv 0 0 0) (by decide)) _ _ hw (fun V h => (nn51 V h)) _ (lv_sub hl [2, 3, 4, 5, 6, 1, 7, 0, 8] rfl)
                      · --
                        have i67 : Iv v63 0 62 := iv_lt1 (iv_nle c66) p63_1 p65_1 (by decide)
                        have i68 : Iv v65 1 63 := iv_lt2 (iv_nle c66) p63_1 p65_1 (by decide)
                        exact J_131 _ _ hw (fun V h => (nn51 V h)) _ (lv_sub hl [2, 3, 4, 5, 6, 1, 7, 0, 8] rfl)
          exact J_63 _ 0 (-1) (iv_w (⟨by decide, by decide⟩ : Iv (-1) (-1) (-1)) (by decide)) (-1) (iv_w (⟨by decide, by decide⟩ : Iv (-1) (-1) (-1)) (by decide)) 0 (iv_w (⟨by decide, by decide⟩ : Iv 0 0 0) (by decide)) σ _ _ hw fr (Nat.lt_succ_self _) (fun V h => h) _ (lv_sub hl [5, 6, 7, 8, 4, 3, 2, 1, 0] rfl)
        · --
          have i69 : Iv a3 101 2147483647 := iv_lt2 (iv_nle c18) (⟨by decide, by decide⟩ : Iv 100 100 100) i17 (by decide)
          refine lv_iconst (v := (-1)) hx hb dX10_gates_33 (by decide) ?_
          rw [← hQ]
          exact o_ri cx rx hw dX10_gates_34 ⟨fr, (by intro V h; exact h)⟩
abbrev fs_X10_ways : List Nat := [193]
abbrev ts_X10_ways : List Nat := [36, 39]
set_option maxHeartbeats 4000000 in
set_option maxRecDepth 100000 in
theorem c_X10_ways (a0 : Nat) (ha0 : oA L τ a0 9) (a1 : Int32) (a2 : Int32) (a3 : Int32) : oMet l A L τ cy D K yX10_ways cX10_ways 7 (some .int) 3 111 [.ref a0, .int a1, .int a2, .int a3] σ (va_Qi (fun r σ1 => oFr τ fs_X10_ways ts_X10_ways σ σ1) (oPo A L τ cy D) A) := by
  refine oMk (by decide) (Nat.le_of_ble_eq_true rfl) rfl ?_
  intro p e s m args below meth c ls cx rx hA hw hl
  generalize hQ : MQ below _ args s 0 0 A = Q
  have hx := cx.1.1
  have hb := cx.1.2.1
  have hml := cx.1.2.2.1
  have hown := cx.1.2.2.2.1
  have hts := cx.1.2.2.2.2
  have hl : lv_has ls 7 [(0, .ref a0), (1, .int a1), (2, .int a2), (3, .int a3)] := hl
  have fr : oFr τ fs_X10_ways ts_X10_ways σ σ := oFr_rf
  refine lv_aload_n hx hb dX10_ways_0 rfl (lv_at hl 0 rfl) ?_
  refine g_578 cx hw ha0 k_f_X10_26 dX10_ways_1 (fun v1 e1 h1 => ?_)
  refine lv_iload_n hx hb dX10_ways_4 rfl (lv_at hl 1 rfl) ?_
  refine o_ci hw (oRunV cx hA hw q_X2_isThere k_m_X10_135 rfl h1 (by decide) (As := [.int a1]) (c_X2_isThere v1 h1 a1) (by decide) rfl hl.1 rfl (Nat.le_of_ble_eq_true rfl) dX10_ways_5 (by decide)) (fun v3 σ2 H locs hp hw => ?_)
  obtain ⟨p3_0, p3_1, p3_2⟩ := hp
  rw [p3_0] at hw
  refine lv_if_eq (tgt := 32) hx hb dX10_ways_8 (by decide) (fun c4 => ?_) (fun c4 => ?_)
  · --
    have i5 : Iv v3 0 0 := iv_eq1 c4 p3_1 (⟨by decide, by decide⟩ : Iv 0 0 0) (by decide)
    refine lv_iconst (v := (-1)) hx hb dX10_ways_32 (by decide) ?_
    rw [← hQ]
    exact o_ri cx rx hw dX10_ways_33 fr
  · --
    have i6 : Iv v3 1 1 := iv_ne1 c4 p3_1 (⟨by decide, by decide⟩ : Iv 0 0 0) (by decide)
    have i7 : Iv a1 0 63 := p3_2 c4
    refine lv_aload_n hx hb dX10_ways_11 rfl (lv_at hl 0 rfl) ?_
    refine g_578 cx hw ha0 k_f_X10_26 dX10_ways_12 (fun v8 e8 h8 => ?_)
    rw [show v8 = v1 from Option.some.inj (e8.symm.trans (e1))]
    refine lv_iload_n hx hb dX10_ways_15 rfl (lv_at hl 2 rfl) ?_
    refine o_ci hw (oRunV cx hA hw q_X2_isThere k_m_X10_135 rfl h1 (by decide) (As := [.int a2]) (c_X2_isThere v1 h1 a2) (by decide) rfl hl.1 rfl (Nat.le_of_ble_eq_true rfl) dX10_ways_16 (by decide)) (fun v10 σ9 H locs hp hw => ?_)
    obtain ⟨p10_0, p10_1, p10_2⟩ := hp
    rw [p10_0] at hw
    refine lv_if_eq (tgt := 32) hx hb dX10_ways_19 (by decide) (fun c11 => ?_) (fun c11 => ?_)
    · --
      have i12 : Iv v10 0 0 := iv_eq1 c11 p10_1 (⟨by decide, by decide⟩ : Iv 0 0 0) (by decide)
      refine lv_iconst (v := (-1)) hx hb dX10_ways_32 (by decide) ?_
      rw [← hQ]
      exact o_ri cx rx hw dX10_ways_33 fr
    · --
      have i13 : Iv v10 1 1 := iv_ne1 c11 p10_1 (⟨by decide, by decide⟩ : Iv 0 0 0) (by decide)
      have i14 : Iv a2 0 63 := p10_2 c11
      refine lv_iload_n hx hb dX10_ways_22 rfl (lv_at hl 3 rfl) ?_
      refine lv_if_lt (tgt := 32) hx hb dX10_ways_23 (by decide) (fun c15 => ?_) (fun c15 => ?_)
      · --
        have i16 : Iv a3 (-2147483648) (-1) := iv_lt1 c15 (iv_top a3) (⟨by decide, by decide⟩ : Iv 0 0 0) (by decide)
        refine lv_iconst (v := (-1)) hx hb dX10_ways_32 (by decide) ?_
        rw [← hQ]
        exact o_ri cx rx hw dX10_ways_33 fr
      · --
        have i17 : Iv a3 0 2147483647 := iv_le2 (iv_nlt c15) (⟨by decide, by decide⟩ : Iv 0 0 0) (iv_top a3) (by decide)
        refine lv_iload_n hx hb dX10_ways_26 rfl (lv_at hl 3 rfl) ?_
        refine lv_bipush (v := 20) hx hb dX10_ways_27 (by decide) ?_
        refine lv_icmp_le (tgt := 34) hx hb dX10_ways_29 (by decide) (fun c18 => ?_) (fun c18 => ?_)
        · --
          have i19 : Iv a3 0 20 := iv_le1 c18 i17 (⟨by decide, by decide⟩ : Iv 20 20 20) (by decide)
          refine lv_aload_n hx hb dX10_ways_34 rfl (lv_at hl 0 rfl) ?_
          refine o_cl hw (oRunV cx hA hw q_X10_roadNow k_m_X10_335 rfl ha0 (by decide) (As := []) (c_X10_roadNow a0 ha0) (by decide) rfl hl.1 rfl (Nat.le_of_ble_eq_true rfl) dX10_ways_35 (by decide)) (fun v21 σ20 H locs hp hw => ?_)
          have p21_0 := hp
          rw [p21_0] at hw
          refine lv_lstore (lv' := [(4, .long v21), (0, .ref a0), (1, .int a1), (2, .int a2), (3, .int a3)]) hx hb dX10_ways_38 hl (by decide) rfl (fun ls hl => ?_)
          refine lv_iconst (v := (-1)) hx hb dX10_ways_40 (by decide) ?_
          refine lv_istore (lv' := [(6, .int (-1)), (4, .long v21), (0, .ref a0), (1, .int a1), (2, .int a2), (3, .int a3)]) hx hb dX10_ways_41 hl (by decide) rfl (fun ls hl => ?_)
          refine lv_iload_n hx hb dX10_ways_43 rfl (lv_at hl 5 rfl) ?_
          have frE_79 := fr
          have J_79 : ∀ (j79_6 : Int32) (ij79_6 : Iv j79_6 (-1) 63), ∀ (σ_79 : oSt) (H : Heap) (locs : List Loc), oI A L τ cy D s.heap σ_79 H locs → oFr τ fs_X10_ways ts_X10_ways σ σ_79 → ∀ (ls : Array Slot), lv_has ls 7 [(0, .ref a0), (1, .int a1), (2, .int a2), (3, .int a3), (4, .long v21), (6, .int j79_6)] → W p l e ({ frames := 3, cells := 0, slots := 0, locals := 111 } : Room) s m args below meth c H locs 0 0 Q (F0 m 79 ls []) := by
            intro j79_6 ij79_6 σ_79 H locs hw fr      ls hl
            have fr_79 := fr
            refine lv_aload_n hx hb dX10_ways_79 rfl (lv_at hl 0 rfl) ?_
            refine g_584 cx hw ha0 k_f_X10_68 dX10_ways_80 (fun v22 e22 h22 => ?_)
            refine lv_lload hx hb dX10_ways_83 (lv_at hl 4 rfl) ?_
            refine lv_iload_n hx hb dX10_ways_85 rfl (lv_at hl 2 rfl) ?_
            refine lv_iload_n hx hb dX10_ways_86 rfl (lv_at hl 3 rfl) ?_
            refine o_cv hw (oRunV cx hA hw q_X8_countWays k_m_X10_424 rfl h22 (by decide) (As := [.long v21, .int a2, .int a3]) (c_X8_countWays v22 h22 v21 a2 a3) (by decide) rfl hl.1 rfl (Nat.le_of_ble_eq_true rfl) dX10_ways_87 (by decide)) (fun σ23 H locs hp hw => ?_)
            have p24_0 := hp
            have fr := oFr_tr fr p24_0 (by decide)
            refine lv_aload_n hx hb dX10_ways_90 rfl (lv_at hl 0 rfl) ?_
            refine g_577 cx hw ha0 k_f_X10_19 dX10_ways_91 (fun v25 e25 h25 => ?_)
            refine o_cv hw (oRunV cx hA hw q_X4_start k_m_X10_292 rfl h25 (by decide) (As := []) (c_X4_start v25 h25) (by decide) rfl hl.1 rfl (Nat.le_of_ble_eq_true rfl) dX10_ways_94 (by decide)) (fun σ26 H locs hp hw => ?_)
            have p27_0 := hp
            have fr := oFr_tr fr p27_0 (by decide)
            refine lv_aload_n hx hb dX10_ways_97 rfl (lv_at hl 0 rfl) ?_
            refine g_577 cx hw ha0 k_f_X10_19 dX10_ways_98 (fun v28 e28 h28 => ?_)
            rw [show v28 = v25 from Option.some.inj (e28.symm.trans (((kr_c p27_0 (by decide)).trans e25)))]
            refine lv_iload hx hb dX10_ways_101 (lv_at hl 5 rfl) ?_
            refine lv_i2l hx hb dX10_ways_103 rfl ?_
            refine lv_topl (fun v29 e29 => ?_)
            refine o_cv hw (oRunV cx hA hw q_X4_put k_m_X10_295 rfl h25 (by decide) (As := [.long v29]) (c_X4_put v25 h25 v29) (by decide) rfl hl.1 rfl (Nat.le_of_ble_eq_true rfl) dX10_ways_104 (by decide)) (fun σ30 H locs hp hw => ?_)
            have p31_0 := hp
            have fr := oFr_tr fr p31_0 (by decide)
            refine lv_aload_n hx hb dX10_ways_107 rfl (lv_at hl 0 rfl) ?_
            refine g_584 cx hw ha0 k_f_X10_68 dX10_ways_108 (fun v32 e32 h32 => ?_)
            rw [show v32 = v22 from Option.some.inj (e32.symm.trans (((kr_c p31_0 (by decide)).trans ((kr_c p27_0 (by decide)).trans ((kr_c p24_0 (by decide)).trans e22)))))]
            refine g_449 cx hw h22 k_f_X10_431 dX10_ways_111 (fun v33 e33 h33 => ?_)
            refine lv_iload_n hx hb dX10_ways_114 rfl (lv_at hl 1 rfl) ?_
            refine o_lald cx hw h33 (by decide) rfl (iv_in i7 (by decide)) dX10_ways_115 (fun v34 e34 => ?_)
            refine lv_l2i hx hb dX10_ways_116 rfl ?_
            refine lv_topi (fun v35 e35 => ?_)
            rw [← hQ]
            exact o_ri cx rx hw dX10_ways_117 fr
          refine lv_if_le (tgt := 79) hx hb dX10_ways_44 (by decide) (fun c36 => ?_) (fun c36 => ?_)
          · --
            have i37 : Iv a3 0 0 := iv_le1 c36 i19 (⟨by decide, by decide⟩ : Iv 0 0 0) (by decide)
            exact J_79 (-1) (iv_w (⟨by decide, by decide⟩ : Iv (-1) (-1) (-1)) (by decide)) σ _ _ hw fr _ (lv_sub hl [2, 3, 4, 5, 1, 0] rfl)
          · --
            have i38 : Iv a3 1 20 := iv_lt2 (iv_nle c36) (⟨by decide, by decide⟩ : Iv 0 0 0) i19 (by decide)
            refine lv_lload hx hb dX10_ways_47 (lv_at hl 1 rfl) ?_
            refine lv_iload_n hx hb dX10_ways_49 rfl (lv_at hl 3 rfl) ?_
            refine o_ci hw (oRunS cx hA hw q_X0_has k_m_X10_321 (As := [.long v21, .int a1]) (c_X0_has v21 a1) (by decide) rfl hl.1 rfl (Nat.le_of_ble_eq_true rfl) dX10_ways_50 (by decide)) (fun v40 σ39 H locs hp hw => ?_)
            obtain ⟨p40_0, p40_1, p40_2, p40_3⟩ := hp
            rw [p40_0] at hw
            refine lv_if_eq (tgt := 79) hx hb dX10_ways_53 (by decide) (fun c41 => ?_) (fun c41 => ?_)
            · --
              have i42 : Iv v40 0 0 := iv_eq1 c41 p40_1 (⟨by decide, by decide⟩ : Iv 0 0 0) (by decide)
              exact J_79 (-1) (iv_w (⟨by decide, by decide⟩ : Iv (-1) (-1) (-1)) (by decide)) σ _ _ hw fr _ (lv_sub hl [2, 3, 4, 5, 1, 0] rfl)
            · --
              have i43 : Iv v40 1 1 := iv_ne1 c41 p40_1 (⟨by decide, by decide⟩ : Iv 0 0 0) (by decide)
              have i44 : Iv a1 0 63 := p40_2 c41
              refine lv_aload_n hx hb dX10_ways_56 rfl (lv_at hl 2 rfl) ?_
              refine g_584 cx hw ha0 k_f_X10_68 dX10_ways_57 (fun v45 e45 h45 => ?_)
              refine lv_lload hx hb dX10_ways_60 (lv_at hl 1 rfl) ?_
              refine lv_iload_n hx hb dX10_ways_62 rfl (lv_at hl 4 rfl) ?_
              refine lv_iload_n hx hb dX10_ways_63 rfl (lv_at hl 5 rfl) ?_
              refine lv_iconst (v := 1) hx hb dX10_ways_64 (by decide) ?_
              refine lv_isub hx hb dX10_ways_65 ?_
              refine lv_topi (fun v46 e46 => ?_)
              have i46 : Iv v46 0 19 := iv_sub e46 i38 (⟨by decide, by decide⟩ : Iv 1 1 1) (by decide)
              have x46 : v46.toInt = a3.toInt + (-1) := ex_sub e46 i38 (⟨by decide, by decide⟩ : Iv 1 1 1) (by decide)
              refine o_cv hw (oRunV cx hA hw q_X8_countWays k_m_X10_424 rfl h45 (by decide) (As := [.long v21, .int a2, .int v46]) (c_X8_countWays v45 h45 v21 a2 v46) (by decide) rfl hl.1 rfl (Nat.le_of_ble_eq_true rfl) dX10_ways_66 (by decide)) (fun σ47 H locs hp hw => ?_)
              have p48_0 := hp
              have fr := oFr_tr fr p48_0 (by decide)
              refine lv_aload_n hx hb dX10_ways_69 rfl (lv_at hl 2 rfl) ?_
              refine g_584 cx hw ha0 k_f_X10_68 dX10_ways_70 (fun v49 e49 h49 => ?_)
              rw [show v49 = v45 from Option.some.inj (e49.symm.trans (((kr_c p48_0 (by decide)).trans e45)))]
              refine lv_iload_n hx hb dX10_ways_73 rfl (lv_at hl 3 rfl) ?_
              refine o_ci hw (oRunV cx hA hw q_X8_leastWithWay k_m_X10_428 rfl h45 (by decide) (As := [.int a1]) (c_X8_leastWithWay v45 h45 a1) (by decide) rfl hl.1 rfl (Nat.le_of_ble_eq_true rfl) dX10_ways_74 (by decide)) (fun v51 σ50 H locs hp hw => ?_)
              obtain ⟨p51_0, p51_1⟩ := hp
              rw [p51_0] at hw
              refine lv_istore (lv' := [(6, .int v51), (4, .long v21), (0, .ref a0), (1, .int a1), (2, .int a2), (3, .int a3)]) hx hb dX10_ways_77 hl (by decide) rfl (fun ls hl => ?_)
              exact J_79 v51 p51_1 σ47 _ _ hw fr _ (lv_sub hl [2, 3, 4, 5, 1, 0] rfl)
        · --
          have i52 : Iv a3 21 2147483647 := iv_lt2 (iv_nle c18) (⟨by decide, by decide⟩ : Iv 20 20 20) i17 (by decide)
          refine lv_iconst (v := (-1)) hx hb dX10_ways_32 (by decide) ?_
          rw [← hQ]
          exact o_ri cx rx hw dX10_ways_33 fr
abbrev fs_X10_bride : List Nat := [193, 385, 386, 387]
abbrev ts_X10_bride : List Nat := [32, 36, 39]
set_option maxHeartbeats 4000000 in
set_option maxRecDepth 100000 in
theorem c_X10_bride (a0 : Nat) (ha0 : oA L τ a0 9) : oMet l A L τ cy D K yX10_bride cX10_bride 3 (some .int) 5 140 [.ref a0] σ (va_Qi (fun r σ1 => oFr τ fs_X10_bride ts_X10_bride σ σ1 ∧ (∀ b, σ.2.2.2.2 576 a0 = some b → Iv (σ1.1 385 b) 0 0)) (oPo A L τ cy D) A) := by
  refine oMk (by decide) (Nat.le_of_ble_eq_true rfl) rfl ?_
  intro p e s m args below meth c ls cx rx hA hw hl
  generalize hQ : MQ below _ args s 0 0 A = Q
  have hx := cx.1.1
  have hb := cx.1.2.1
  have hml := cx.1.2.2.1
  have hown := cx.1.2.2.2.1
  have hts := cx.1.2.2.2.2
  have hl : lv_has ls 3 [(0, .ref a0)] := hl
  have fr : oFr τ fs_X10_bride ts_X10_bride σ σ := oFr_rf
  obtain ⟨b576, hF576, hb576⟩ := hw.2.2.2.2.2 576 a0 6 (by rw [ha0.2]; rfl) ha0.1
  refine lv_aload_n hx hb dX10_bride_0 rfl (lv_at hl 0 rfl) ?_
  refine g_576 cx hw ha0 k_f_X10_10 dX10_bride_1 (fun v1 e1 h1 => ?_)
  rw [show v1 = b576 from Option.some.inj (e1.symm.trans (hF576))]
  refine lv_bipush (v := 80) hx hb dX10_bride_4 (by decide) ?_
  refine o_cv hw (oRunV cx hA hw q_X7_begin k_m_X10_220 rfl hb576 (by decide) (As := [.int 80]) (c_X7_begin b576 hb576 80) (by decide) rfl hl.1 rfl (Nat.le_of_ble_eq_true rfl) dX10_bride_6 (by decide)) (fun σ2 H locs hp hw => ?_)
  obtain ⟨p3_0, p3_1⟩ := hp
  have fr := oFr_tr fr p3_0 (by decide)
  refine lv_aload_n hx hb dX10_bride_9 rfl (lv_at hl 0 rfl) ?_
  refine o_ci hw (oRunV cx hA hw q_X10_faultOfSightings k_m_X10_435 rfl ha0 (by decide) (As := []) (c_X10_faultOfSightings a0 ha0) (by decide) rfl hl.1 rfl (Nat.le_of_ble_eq_true rfl) dX10_bride_10 (by decide)) (fun v5 σ4 H locs hp hw => ?_)
  have p5_0 := hp
  have fr := oFr_tr fr p5_0 (by decide)
  refine lv_istore_n (lv' := [(1, .int v5), (0, .ref a0)]) hx hb dX10_bride_13 rfl hl (by decide) rfl (fun ls hl => ?_)
  refine lv_iload_n hx hb dX10_bride_14 rfl (lv_at hl 0 rfl) ?_
  have frE_26 := fr
  have J_26 : ∀ (k26_0 : Int32), ∀ (σ_26 : oSt) (H : Heap) (locs : List Loc), oI A L τ cy D s.heap σ_26 H locs → oFr τ fs_X10_bride ts_X10_bride σ σ_26 → ∀ (ls : Array Slot), lv_has ls 3 [(0, .ref a0), (1, .int v5)] → W p l e ({ frames := 5, cells := 0, slots := 0, locals := 140 } : Room) s m args below meth c H locs 0 0 Q (F0 m 26 ls [.int k26_0]) := by
    intro k26_0 σ_26 H locs hw fr      ls hl
    have fr_26 := fr
    refine lv_istore_n (lv' := [(2, .int k26_0), (0, .ref a0), (1, .int v5)]) hx hb dX10_bride_26 rfl hl (by decide) rfl (fun ls hl => ?_)
    refine lv_aload_n hx hb dX10_bride_27 rfl (lv_at hl 1 rfl) ?_
    refine g_576 cx hw ha0 k_f_X10_10 dX10_bride_28 (fun v6 e6 h6 => ?_)
    rw [show v6 = b576 from Option.some.inj (e6.symm.trans (((kr_c fr_26 (by decide)).trans hF576)))]
    refine o_cv hw (oRunV cx hA hw q_X7_empty k_m_X10_93 rfl hb576 (by decide) (As := []) (c_X7_empty b576 hb576) (by decide) rfl hl.1 rfl (Nat.le_of_ble_eq_true rfl) dX10_bride_31 (by decide)) (fun σ7 H locs hp hw => ?_)
    obtain ⟨p8_0, p8_1⟩ := hp
    have fr := oFr_tr fr p8_0 (by decide)
    refine lv_iload_n hx hb dX10_bride_34 rfl (lv_at hl 0 rfl) ?_
    rw [← hQ]
    exact o_ri cx rx hw dX10_bride_35 ⟨fr, (by intro b hb9; rw [show b = b576 from Option.some.inj (hb9.symm.trans ((kr_c fr (by decide)).symm.trans (((kr_c p8_0 (by decide)).trans ((kr_c fr_26 (by decide)).trans hF576)))))]; exact (kn_iv (rfl) (iv_w p8_1 (by decide))))⟩
  refine lv_if_ne (tgt := 25) hx hb dX10_bride_15 (by decide) (fun c9 => ?_) (fun c9 => ?_)
  · --
    refine lv_iload_n hx hb dX10_bride_25 rfl (lv_at hl 0 rfl) ?_
    exact J_26 v5 σ4 _ _ hw fr _ (lv_sub hl [1, 0] rfl)
  · --
    have i10 : Iv v5 0 0 := iv_eq1 c9 (iv_top v5) (⟨by decide, by decide⟩ : Iv 0 0 0) (by decide)
    refine lv_aload_n hx hb dX10_bride_18 rfl (lv_at hl 1 rfl) ?_
    refine o_ci hw (oRunV cx hA hw q_X10_followSightings k_m_X10_438 rfl ha0 (by decide) (As := []) (c_X10_followSightings a0 ha0) (by decide) rfl hl.1 rfl (Nat.le_of_ble_eq_true rfl) dX10_bride_19 (by decide)) (fun v12 σ11 H locs hp hw => ?_)
    have p12_0 := hp
    have fr := oFr_tr fr p12_0 (by decide)
    refine lv_goto (tgt := 26) hx hb dX10_bride_22 (by decide) ?_
    exact J_26 v12 σ11 _ _ hw fr _ (lv_sub hl [1, 0] rfl)
abbrev fs_X10_lost : List Nat := [193]
abbrev ts_X10_lost : List Nat := [36, 39]
set_option maxHeartbeats 4000000 in
set_option maxRecDepth 100000 in
theorem c_X10_lost (a0 : Nat) (ha0 : oA L τ a0 9) (a1 : Int32) (a2 : Int32) (a3 : Int32) : oMet l A L τ cy D K yX10_lost cX10_lost 6 (some .int) 3 86 [.ref a0, .int a1, .int a2, .int a3] σ (va_Qi (fun r σ1 => oFr τ fs_X10_lost ts_X10_lost σ σ1) (oPo A L τ cy D) A) := by
  refine oMk (by decide) (Nat.le_of_ble_eq_true rfl) rfl ?_
  intro p e s m args below meth c ls cx rx hA hw hl
  generalize hQ : MQ below _ args s 0 0 A = Q
  have hx := cx.1.1
  have hb := cx.1.2.1
  have hml := cx.1.2.2.1
  have hown := cx.1.2.2.2.1
  have hts := cx.1.2.2.2.2
  have hl : lv_has ls 6 [(0, .ref a0), (1, .int a1), (2, .int a2), (3, .int a3)] := hl
  have fr : oFr τ fs_X10_lost ts_X10_lost σ σ := oFr_rf
  refine lv_aload_n hx hb dX10_lost_0 rfl (lv_at hl 0 rfl) ?_
  refine g_578 cx hw ha0 k_f_X10_26 dX10_lost_1 (fun v1 e1 h1 => ?_)
  refine lv_iload_n hx hb dX10_lost_4 rfl (lv_at hl 1 rfl) ?_
  refine o_ci hw (oRunV cx hA hw q_X2_isThere k_m_X10_135 rfl h1 (by decide) (As := [.int a1]) (c_X2_isThere v1 h1 a1) (by decide) rfl hl.1 rfl (Nat.le_of_ble_eq_true rfl) dX10_lost_5 (by decide)) (fun v3 σ2 H locs hp hw => ?_)
  obtain ⟨p3_0, p3_1, p3_2⟩ := hp
  rw [p3_0] at hw
  refine lv_if_eq (tgt := 32) hx hb dX10_lost_8 (by decide) (fun c4 => ?_) (fun c4 => ?_)
  · --
    have i5 : Iv v3 0 0 := iv_eq1 c4 p3_1 (⟨by decide, by decide⟩ : Iv 0 0 0) (by decide)
    refine lv_iconst (v := (-1)) hx hb dX10_lost_32 (by decide) ?_
    rw [← hQ]
    exact o_ri cx rx hw dX10_lost_33 fr
  · --
    have i6 : Iv v3 1 1 := iv_ne1 c4 p3_1 (⟨by decide, by decide⟩ : Iv 0 0 0) (by decide)
    have i7 : Iv a1 0 63 := p3_2 c4
    refine lv_aload_n hx hb dX10_lost_11 rfl (lv_at hl 0 rfl) ?_
    refine g_578 cx hw ha0 k_f_X10_26 dX10_lost_12 (fun v8 e8 h8 => ?_)
    rw [show v8 = v1 from Option.some.inj (e8.symm.trans (e1))]
    refine lv_iload_n hx hb dX10_lost_15 rfl (lv_at hl 2 rfl) ?_
    refine o_ci hw (oRunV cx hA hw q_X2_isThere k_m_X10_135 rfl h1 (by decide) (As := [.int a2]) (c_X2_isThere v1 h1 a2) (by decide) rfl hl.1 rfl (Nat.le_of_ble_eq_true rfl) dX10_lost_16 (by decide)) (fun v10 σ9 H locs hp hw => ?_)
    obtain ⟨p10_0, p10_1, p10_2⟩ := hp
    rw [p10_0] at hw
    refine lv_if_eq (tgt := 32) hx hb dX10_lost_19 (by decide) (fun c11 => ?_) (fun c11 => ?_)
    · --
      have i12 : Iv v10 0 0 := iv_eq1 c11 p10_1 (⟨by decide, by decide⟩ : Iv 0 0 0) (by decide)
      refine lv_iconst (v := (-1)) hx hb dX10_lost_32 (by decide) ?_
      rw [← hQ]
      exact o_ri cx rx hw dX10_lost_33 fr
    · --
      have i13 : Iv v10 1 1 := iv_ne1 c11 p10_1 (⟨by decide, by decide⟩ : Iv 0 0 0) (by decide)
      have i14 : Iv a2 0 63 := p10_2 c11
      refine lv_iload_n hx hb dX10_lost_22 rfl (lv_at hl 3 rfl) ?_
      refine lv_if_lt (tgt := 32) hx hb dX10_lost_23 (by decide) (fun c15 => ?_) (fun c15 => ?_)
      · --
        have i16 : Iv a3 (-2147483648) (-1) := iv_lt1 c15 (iv_top a3) (⟨by decide, by decide⟩ : Iv 0 0 0) (by decide)
        refine lv_iconst (v := (-1)) hx hb dX10_lost_32 (by decide) ?_
        rw [← hQ]
        exact o_ri cx rx hw dX10_lost_33 fr
      · --
        have i17 : Iv a3 0 2147483647 := iv_le2 (iv_nlt c15) (⟨by decide, by decide⟩ : Iv 0 0 0) (iv_top a3) (by decide)
        refine lv_iload_n hx hb dX10_lost_26 rfl (lv_at hl 3 rfl) ?_
        refine lv_bipush (v := 40) hx hb dX10_lost_27 (by decide) ?_
        refine lv_icmp_le (tgt := 34) hx hb dX10_lost_29 (by decide) (fun c18 => ?_) (fun c18 => ?_)
        · --
          have i19 : Iv a3 0 40 := iv_le1 c18 i17 (⟨by decide, by decide⟩ : Iv 40 40 40) (by decide)
          refine lv_aload_n hx hb dX10_lost_34 rfl (lv_at hl 0 rfl) ?_
          refine g_578 cx hw ha0 k_f_X10_26 dX10_lost_35 (fun v20 e20 h20 => ?_)
          rw [show v20 = v1 from Option.some.inj (e20.symm.trans (e1))]
          refine lv_aload_n hx hb dX10_lost_38 rfl (lv_at hl 0 rfl) ?_
          refine g_581 cx hw ha0 k_f_X10_49 dX10_lost_39 (fun v21 e21 h21 => ?_)
          refine g_330 cx hw h21 k_f_X10_154 dX10_lost_42 (fun v22 e22 => ?_)
          refine o_cl hw (oRunV cx hA hw q_X2_openTo k_m_X10_195 rfl h1 (by decide) (As := [.int v22]) (c_X2_openTo v1 h1 v22) (by decide) rfl hl.1 rfl (Nat.le_of_ble_eq_true rfl) dX10_lost_45 (by decide)) (fun v24 σ23 H locs hp hw => ?_)
          have p24_0 := hp
          rw [p24_0] at hw
          refine lv_lstore (lv' := [(4, .long v24), (0, .ref a0), (1, .int a1), (2, .int a2), (3, .int a3)]) hx hb dX10_lost_48 hl (by decide) rfl (fun ls hl => ?_)
          refine lv_lload hx hb dX10_lost_50 (lv_at hl 0 rfl) ?_
          refine lv_iload_n hx hb dX10_lost_52 rfl (lv_at hl 2 rfl) ?_
          refine o_ci hw (oRunS cx hA hw q_X0_has k_m_X10_321 (As := [.long v24, .int a1]) (c_X0_has v24 a1) (by decide) rfl hl.1 rfl (Nat.le_of_ble_eq_true rfl) dX10_lost_53 (by decide)) (fun v26 σ25 H locs hp hw => ?_)
          obtain ⟨p26_0, p26_1, p26_2, p26_3⟩ := hp
          rw [p26_0] at hw
          refine lv_if_ne (tgt := 61) hx hb dX10_lost_56 (by decide) (fun c27 => ?_) (fun c27 => ?_)
          · --
            have i28 : Iv v26 1 1 := iv_ne1 c27 p26_1 (⟨by decide, by decide⟩ : Iv 0 0 0) (by decide)
            have i29 : Iv a1 0 63 := p26_2 c27
            refine lv_aload_n hx hb dX10_lost_61 rfl (lv_at hl 1 rfl) ?_
            refine g_584 cx hw ha0 k_f_X10_68 dX10_lost_62 (fun v30 e30 h30 => ?_)
            refine lv_lload hx hb dX10_lost_65 (lv_at hl 0 rfl) ?_
            refine lv_iload_n hx hb dX10_lost_67 rfl (lv_at hl 2 rfl) ?_
            refine lv_iload_n hx hb dX10_lost_68 rfl (lv_at hl 4 rfl) ?_
            refine o_cv hw (oRunV cx hA hw q_X8_stray k_m_X10_441 rfl h30 (by decide) (As := [.long v24, .int a1, .int a3]) (c_X8_stray v30 h30 v24 a1 a3) (by decide) rfl hl.1 rfl (Nat.le_of_ble_eq_true rfl) dX10_lost_69 (by decide)) (fun σ31 H locs hp hw => ?_)
            have p32_0 := hp
            have fr := oFr_tr fr p32_0 (by decide)
            refine lv_aload_n hx hb dX10_lost_72 rfl (lv_at hl 1 rfl) ?_
            refine g_577 cx hw ha0 k_f_X10_19 dX10_lost_73 (fun v33 e33 h33 => ?_)
            refine o_cv hw (oRunV cx hA hw q_X4_start k_m_X10_292 rfl h33 (by decide) (As := []) (c_X4_start v33 h33) (by decide) rfl hl.1 rfl (Nat.le_of_ble_eq_true rfl) dX10_lost_76 (by decide)) (fun σ34 H locs hp hw => ?_)
            have p35_0 := hp
            have fr := oFr_tr fr p35_0 (by decide)
            refine lv_aload_n hx hb dX10_lost_79 rfl (lv_at hl 1 rfl) ?_
            refine g_577 cx hw ha0 k_f_X10_19 dX10_lost_80 (fun v36 e36 h36 => ?_)
            rw [show v36 = v33 from Option.some.inj (e36.symm.trans (((kr_c p35_0 (by decide)).trans e33)))]
            refine lv_aload_n hx hb dX10_lost_83 rfl (lv_at hl 1 rfl) ?_
            refine g_584 cx hw ha0 k_f_X10_68 dX10_lost_84 (fun v37 e37 h37 => ?_)
            rw [show v37 = v30 from Option.some.inj (e37.symm.trans (((kr_c p35_0 (by decide)).trans ((kr_c p32_0 (by decide)).trans e30))))]
            refine o_ci hw (oRunV cx hA hw q_X8_likeliest k_m_X10_444 rfl h30 (by decide) (As := []) (c_X8_likeliest v30 h30) (by decide) rfl hl.1 rfl (Nat.le_of_ble_eq_true rfl) dX10_lost_87 (by decide)) (fun v39 σ38 H locs hp hw => ?_)
            obtain ⟨p39_0, p39_1⟩ := hp
            rw [p39_0] at hw
            refine lv_i2l hx hb dX10_lost_90 rfl ?_
            refine lv_topl (fun v40 e40 => ?_)
            refine o_cv hw (oRunV cx hA hw q_X4_put k_m_X10_295 rfl h33 (by decide) (As := [.long v40]) (c_X4_put v33 h33 v40) (by decide) rfl hl.1 rfl (Nat.le_of_ble_eq_true rfl) dX10_lost_91 (by decide)) (fun σ41 H locs hp hw => ?_)
            have p42_0 := hp
            have fr := oFr_tr fr p42_0 (by decide)
            refine lv_aload_n hx hb dX10_lost_94 rfl (lv_at hl 1 rfl) ?_
            refine g_584 cx hw ha0 k_f_X10_68 dX10_lost_95 (fun v43 e43 h43 => ?_)
            rw [show v43 = v30 from Option.some.inj (e43.symm.trans (((kr_c p42_0 (by decide)).trans ((kr_c p35_0 (by decide)).trans ((kr_c p32_0 (by decide)).trans e30)))))]
            refine g_449 cx hw h30 k_f_X10_431 dX10_lost_98 (fun v44 e44 h44 => ?_)
            refine lv_iload_n hx hb dX10_lost_101 rfl (lv_at hl 3 rfl) ?_
            refine o_lald cx hw h44 (by decide) rfl (iv_in i14 (by decide)) dX10_lost_102 (fun v45 e45 => ?_)
            refine lv_l2i hx hb dX10_lost_103 rfl ?_
            refine lv_topi (fun v46 e46 => ?_)
            rw [← hQ]
            exact o_ri cx rx hw dX10_lost_104 fr
          · --
            have i47 : Iv v26 0 0 := iv_eq1 c27 p26_1 (⟨by decide, by decide⟩ : Iv 0 0 0) (by decide)
            refine lv_iconst (v := (-1)) hx hb dX10_lost_59 (by decide) ?_
            rw [← hQ]
            exact o_ri cx rx hw dX10_lost_60 fr
        · --
          have i48 : Iv a3 41 2147483647 := iv_lt2 (iv_nle c18) (⟨by decide, by decide⟩ : Iv 40 40 40) i17 (by decide)
          refine lv_iconst (v := (-1)) hx hb dX10_lost_32 (by decide) ?_
          rw [← hQ]
          exact o_ri cx rx hw dX10_lost_33 fr
abbrev fs_X10_letter : List Nat := [193, 327, 328, 329, 330, 331, 517]
abbrev ts_X10_letter : List Nat := [32, 33, 34, 36, 37, 38]
set_option maxHeartbeats 4000000 in
set_option maxRecDepth 100000 in
theorem c_X10_letter (a0 : Nat) (ha0 : oA L τ a0 9) (a1 : Int32) : oMet l A L τ cy D K yX10_letter cX10_letter 5 (some .int) 4 106 [.ref a0, .int a1] σ (va_Qi (fun r σ1 => oFr τ fs_X10_letter ts_X10_letter σ σ1 ∧ Iv r (-2) 100 ∧ (∀ V, NV σ a0 V → NV σ1 a0 V)) (oPo A L τ cy D) A) := by
  refine oMk (by decide) (Nat.le_of_ble_eq_true rfl) rfl ?_
  intro p e s m args below meth c ls cx rx hA hw hl
  generalize hQ : MQ below _ args s 0 0 A = Q
  have hx := cx.1.1
  have hb := cx.1.2.1
  have hml := cx.1.2.2.1
  have hown := cx.1.2.2.2.1
  have hts := cx.1.2.2.2.2
  have hl : lv_has ls 5 [(0, .ref a0), (1, .int a1)] := hl
  have fr : oFr τ fs_X10_letter ts_X10_letter σ σ := oFr_rf
  obtain ⟨b581, hF581, hb581⟩ := hw.2.2.2.2.2 581 a0 5 (by rw [ha0.2]; rfl) ha0.1
  obtain ⟨b582, hF582, hb582⟩ := hw.2.2.2.2.2 582 a0 5 (by rw [ha0.2]; rfl) ha0.1
  obtain ⟨b583, hF583, hb583⟩ := hw.2.2.2.2.2 583 a0 0 (by rw [ha0.2]; rfl) ha0.1
  obtain ⟨b585, hF585, hb585⟩ := hw.2.2.2.2.2 585 a0 2 (by rw [ha0.2]; rfl) ha0.1
  obtain ⟨b586, hF586, hb586⟩ := hw.2.2.2.2.2 586 a0 41 (by rw [ha0.2]; rfl) ha0.1
  refine lv_aload_n hx hb dX10_letter_0 rfl (lv_at hl 0 rfl) ?_
  refine g_578 cx hw ha0 k_f_X10_26 dX10_letter_1 (fun v1 e1 h1 => ?_)
  refine lv_iload_n hx hb dX10_letter_4 rfl (lv_at hl 1 rfl) ?_
  refine o_ci hw (oRunV cx hA hw q_X2_isThere k_m_X10_135 rfl h1 (by decide) (As := [.int a1]) (c_X2_isThere v1 h1 a1) (by decide) rfl hl.1 rfl (Nat.le_of_ble_eq_true rfl) dX10_letter_5 (by decide)) (fun v3 σ2 H locs hp hw => ?_)
  obtain ⟨p3_0, p3_1, p3_2⟩ := hp
  rw [p3_0] at hw
  refine lv_if_ne (tgt := 13) hx hb dX10_letter_8 (by decide) (fun c4 => ?_) (fun c4 => ?_)
  · --
    have i5 : Iv v3 1 1 := iv_ne1 c4 p3_1 (⟨by decide, by decide⟩ : Iv 0 0 0) (by decide)
    have i6 : Iv a1 0 63 := p3_2 c4
    refine lv_aload_n hx hb dX10_letter_13 rfl (lv_at hl 0 rfl) ?_
    refine g_583 cx hw ha0 k_f_X10_61 dX10_letter_14 (fun v7 e7 h7 => ?_)
    rw [show v7 = b583 from Option.some.inj (e7.symm.trans (hF583))]
    refine o_cr hw (oRunV cx hA hw q_X1_begin k_m_X10_377 rfl hb583 (by decide) (As := []) (c_X1_begin b583 hb583) (by decide) rfl hl.1 rfl (Nat.le_of_ble_eq_true rfl) dX10_letter_17 (by decide)) (fun v9 σ8 H locs hp hw => ?_)
    obtain ⟨p9_0, p9_1, p9_2⟩ := hp
    have fr := oFr_tr fr p9_0 (by decide)
    have nn10 : ∀ V, NV σ a0 V → NV σ8 a0 V := fun V h => by
      have h1 : NV σ a0 V := h
      exact nv_c h1 p9_0 (by decide +kernel) (u_v (p9_2 b581 (nv_F h1 (hF583) (hF581))) (nv_P h1 (hF581)))
    refine lv_astore_n (lv' := [(2, .ref v9), (0, .ref a0), (1, .int a1)]) hx hb dX10_letter_20 rfl hl (by decide) rfl (fun ls hl => ?_)
    refine lv_aload_n hx hb dX10_letter_21 rfl (lv_at hl 0 rfl) ?_
    refine lv_iload_n hx hb dX10_letter_22 rfl (lv_at hl 2 rfl) ?_
    refine o_ci hw (oRunV cx hA hw q_X6_firstHerdAt k_m_X10_383 rfl p9_1 (by decide) (As := [.int a1]) (c_X6_firstHerdAt v9 p9_1 a1) (by decide) rfl hl.1 rfl (Nat.le_of_ble_eq_true rfl) dX10_letter_23 (by decide)) (fun v12 σ11 H locs hp hw => ?_)
    obtain ⟨p12_0, p12_1⟩ := hp
    rw [p12_0] at hw
    refine lv_istore_n (lv' := [(3, .int v12), (2, .ref v9), (0, .ref a0), (1, .int a1)]) hx hb dX10_letter_26 rfl hl (by decide) rfl (fun ls hl => ?_)
    refine lv_iconst (v := 1) hx hb dX10_letter_27 (by decide) ?_
    refine lv_istore (lv' := [(4, .int 1), (3, .int v12), (2, .ref v9), (0, .ref a0), (1, .int a1)]) hx hb dX10_letter_28 hl (by decide) rfl (fun ls hl => ?_)
    have frE_30 := fr
    have J_30 : ∀ n30 : Nat, ∀ (j30_3 : Int32) (ij30_3 : Iv j30_3 (-1) 5) (j30_4 : Int32) (ij30_4 : Iv j30_4 1 101), ∀ (σ_30 : oSt) (H : Heap) (locs : List Loc), oI A L τ cy D s.heap σ_30 H locs → oFr τ fs_X10_letter ts_X10_letter σ σ_30 → (101 - j30_4.toInt).toNat < n30 → (∀ V, NV σ a0 V → NV σ_30 a0 V) → ∀ (ls : Array Slot), lv_has ls 5 [(0, .ref a0), (1, .int a1), (2, .ref v9), (3, .int j30_3), (4, .int j30_4)] → W p l e ({ frames := 4, cells := 0, slots := 0, locals := 106 } : Room) s m args below meth c H locs 0 0 Q (F0 m 30 ls []) := by
      intro n30
      induction n30 with
      | zero => intro j30_3 ij30_3 j30_4 ij30_4 σ_30 H locs hw fr   hn_30 nv_30  ls hl; exact absurd hn_30 (Nat.not_lt_zero _)
      | succ n30 ih_30 =>
        intro j30_3 ij30_3 j30_4 ij30_4 σ_30 H locs hw fr   hn_30 nv_30  ls hl
        have fr_30 := fr
        refine lv_iload hx hb dX10_letter_30 (lv_at hl 4 rfl) ?_
        refine lv_bipush (v := 100) hx hb dX10_letter_32 (by decide) ?_
        refine lv_icmp_gt (tgt := 110) hx hb dX10_letter_34 (by decide) (fun c13 => ?_) (fun c13 => ?_)
        · --
          have i14 : Iv j30_4 101 101 := iv_lt2 c13 (⟨by decide, by decide⟩ : Iv 100 100 100) ij30_4 (by decide)
          refine lv_bipush (v := (-2)) hx hb dX10_letter_110 (by decide) ?_
          rw [← hQ]
          exact o_ri cx rx hw dX10_letter_112 ⟨fr, (iv_w (⟨by decide, by decide⟩ : Iv (-2) (-2) (-2)) (by decide)), (by intro V h; exact (nv_30 V h))⟩
        · --
          have i15 : Iv j30_4 1 100 := iv_le1 (iv_nlt c13) ij30_4 (⟨by decide, by decide⟩ : Iv 100 100 100) (by decide)
          refine lv_aload_n hx hb dX10_letter_37 rfl (lv_at hl 0 rfl) ?_
          refine g_580 cx hw ha0 k_f_X10_42 dX10_letter_38 (fun v16 e16 h16 => ?_)
          refine lv_aload_n hx hb dX10_letter_41 rfl (lv_at hl 2 rfl) ?_
          refine o_ci hw (oRunV cx hA hw q_X9_pass k_m_X10_269 rfl h16 (by decide) (As := [.ref v9]) (c_X9_pass v16 h16 v9 p9_1) (by decide) rfl hl.1 rfl (Nat.le_of_ble_eq_true rfl) dX10_letter_42 (by decide)) (fun v18 σ17 H locs hp hw => ?_)
          have p18_0 := hp
          have fr := oFr_tr fr p18_0 (by decide)
          refine lv_pop hx hb dX10_letter_45 rfl ?_
          refine lv_iload_n hx hb dX10_letter_46 rfl (lv_at hl 3 rfl) ?_
          refine lv_iconst (v := (-1)) hx hb dX10_letter_47 (by decide) ?_
          have J_104 : ∀ (j104_3 : Int32) (ij104_3 : Iv j104_3 (-1) 5), ∀ (H : Heap) (locs : List Loc), oI A L τ cy D s.heap σ17 H locs → (∀ V, NV σ a0 V → NV σ17 a0 V) → ∀ (ls : Array Slot), lv_has ls 5 [(0, .ref a0), (1, .int a1), (2, .ref v9), (3, .int j104_3), (4, .int j30_4)] → W p l e ({ frames := 4, cells := 0, slots := 0, locals := 106 } : Room) s m args below meth c H locs 0 0 Q (F0 m 104 ls []) := by
            intro j104_3 ij104_3 H locs hw   nv_104  ls hl
            obtain ⟨v19, e19⟩ : ∃ y : Int32, y = j30_4 + 1 := ⟨_, rfl⟩
            have i19 : Iv v19 2 101 := iv_add e19 i15 (⟨by decide, by decide⟩ : Iv 1 1 1) (by decide)
            have x19 : v19.toInt = j30_4.toInt + 1 := ex_add e19 i15 (⟨by decide, by decide⟩ : Iv 1 1 1) (by decide)
            refine lv_iinc (v := v19) (lv' := [(4, .int v19), (0, .ref a0), (1, .int a1), (2, .ref v9), (3, .int j104_3)]) hx hb dX10_letter_104 hl (k := 4) rfl (by rw [e19]; rfl) (by decide) rfl (fun ls hl => ?_)
            refine lv_goto (tgt := 30) hx hb dX10_letter_107 (by decide) ?_
            exact ih_30 j104_3 ij104_3 v19 (iv_w i19 (by decide)) σ17 _ _ hw fr (ms_up x19 (by decide) (iv_w (a' := 1) (b' := 101) i19 (by decide)).2 hn_30) (fun V h => (nv_104 V h)) _ (lv_sub hl [1, 2, 3, 4, 0] rfl)
          refine lv_icmp_ne (tgt := 60) hx hb dX10_letter_48 (by decide) (fun c20 => ?_) (fun c20 => ?_)
          · --
            have i21 : Iv j30_3 0 5 := iv_ne1 c20 ij30_3 (⟨by decide, by decide⟩ : Iv (-1) (-1) (-1)) (by decide)
            refine lv_aload_n hx hb dX10_letter_60 rfl (lv_at hl 2 rfl) ?_
            refine g_329 cx hw p9_1 k_f_X10_192 dX10_letter_61 (fun v22 e22 => ?_)
            have z22 : v22.toInt = (σ17.1 329 v9).toInt := congrArg Int32.toInt e22
            refine lv_iload_n hx hb dX10_letter_64 rfl (lv_at hl 3 rfl) ?_
            refine lv_ishr hx hb dX10_letter_65 ?_
            refine lv_topi (fun v23 e23 => ?_)
            refine lv_iconst (v := 1) hx hb dX10_letter_66 (by decide) ?_
            refine lv_iand hx hb dX10_letter_67 ?_
            refine lv_topi (fun v24 e24 => ?_)
            have i24 : Iv v24 0 1 := iv_and e24 (⟨by decide, by decide⟩ : Iv 1 1 1) (by decide)
            refine lv_if_eq (tgt := 104) hx hb dX10_letter_68 (by decide) (fun c25 => ?_) (fun c25 => ?_)
            · --
              have i26 : Iv v24 0 0 := iv_eq1 c25 i24 (⟨by decide, by decide⟩ : Iv 0 0 0) (by decide)
              exact J_104 j30_3 (iv_w i21 (by decide)) _ _ hw (fun V h => (nv_0 (nv_30 V h) p18_0 (by decide +kernel))) _ (lv_sub hl [0, 1, 2, 3, 4] rfl)
            · --
              have i27 : Iv v24 1 1 := iv_ne1 c25 i24 (⟨by decide, by decide⟩ : Iv 0 0 0) (by decide)
              refine lv_aload_n hx hb dX10_letter_71 rfl (lv_at hl 0 rfl) ?_
              refine g_577 cx hw ha0 k_f_X10_19 dX10_letter_72 (fun v28 e28 h28 => ?_)
              refine o_cv hw (oRunV cx hA hw q_X4_start k_m_X10_292 rfl h28 (by decide) (As := []) (c_X4_start v28 h28) (by decide) rfl hl.1 rfl (Nat.le_of_ble_eq_true rfl) dX10_letter_75 (by decide)) (fun σ29 H locs hp hw => ?_)
              have p30_0 := hp
              have fr := oFr_tr fr p30_0 (by decide)
              refine lv_aload_n hx hb dX10_letter_78 rfl (lv_at hl 0 rfl) ?_
              refine g_577 cx hw ha0 k_f_X10_19 dX10_letter_79 (fun v31 e31 h31 => ?_)
              rw [show v31 = v28 from Option.some.inj (e31.symm.trans (((kr_c p30_0 (by decide)).trans e28)))]
              refine lv_iload_n hx hb dX10_letter_82 rfl (lv_at hl 3 rfl) ?_
              refine lv_i2l hx hb dX10_letter_83 rfl ?_
              refine lv_topl (fun v32 e32 => ?_)
              refine o_cv hw (oRunV cx hA hw q_X4_put k_m_X10_295 rfl h28 (by decide) (As := [.long v32]) (c_X4_put v28 h28 v32) (by decide) rfl hl.1 rfl (Nat.le_of_ble_eq_true rfl) dX10_letter_84 (by decide)) (fun σ33 H locs hp hw => ?_)
              have p34_0 := hp
              have fr := oFr_tr fr p34_0 (by decide)
              refine lv_aload_n hx hb dX10_letter_87 rfl (lv_at hl 0 rfl) ?_
              refine g_577 cx hw ha0 k_f_X10_19 dX10_letter_88 (fun v35 e35 h35 => ?_)
              rw [show v35 = v28 from Option.some.inj (e35.symm.trans (((kr_c p34_0 (by decide)).trans ((kr_c p30_0 (by decide)).trans e28))))]
              refine lv_aload_n hx hb dX10_letter_91 rfl (lv_at hl 2 rfl) ?_
              refine g_325 cx hw p9_1 k_f_X10_183 dX10_letter_92 (fun v36 e36 h36 => ?_)
              refine lv_iload_n hx hb dX10_letter_95 rfl (lv_at hl 3 rfl) ?_
              refine o_iald cx hw h36 (by decide) rfl (iv_in i21 (by decide)) dX10_letter_96 (fun v37 e37 b37 => ?_)
              have i37 : Iv v37 0 63 := b37
              refine lv_i2l hx hb dX10_letter_97 rfl ?_
              refine lv_topl (fun v38 e38 => ?_)
              refine o_cv hw (oRunV cx hA hw q_X4_put k_m_X10_295 rfl h28 (by decide) (As := [.long v38]) (c_X4_put v28 h28 v38) (by decide) rfl hl.1 rfl (Nat.le_of_ble_eq_true rfl) dX10_letter_98 (by decide)) (fun σ39 H locs hp hw => ?_)
              have p40_0 := hp
              have fr := oFr_tr fr p40_0 (by decide)
              refine lv_iload hx hb dX10_letter_101 (lv_at hl 4 rfl) ?_
              rw [← hQ]
              exact o_ri cx rx hw dX10_letter_103 ⟨fr, (iv_w i15 (by decide)), (by intro V h; exact (nv_0 (nv_0 (nv_0 (nv_0 (nv_30 V h) p18_0 (by decide +kernel)) p30_0 (by decide +kernel)) p34_0 (by decide +kernel)) p40_0 (by decide +kernel)))⟩
          · --
            have i41 : Iv j30_3 (-1) (-1) := iv_eq1 c20 ij30_3 (⟨by decide, by decide⟩ : Iv (-1) (-1) (-1)) (by decide)
            refine lv_aload_n hx hb dX10_letter_51 rfl (lv_at hl 2 rfl) ?_
            refine lv_iload_n hx hb dX10_letter_52 rfl (lv_at hl 1 rfl) ?_
            refine o_ci hw (oRunV cx hA hw q_X6_firstHerdAt k_m_X10_383 rfl p9_1 (by decide) (As := [.int a1]) (c_X6_firstHerdAt v9 p9_1 a1) (by decide) rfl hl.1 rfl (Nat.le_of_ble_eq_true rfl) dX10_letter_53 (by decide)) (fun v43 σ42 H locs hp hw => ?_)
            obtain ⟨p43_0, p43_1⟩ := hp
            rw [p43_0] at hw
            refine lv_istore_n (lv' := [(3, .int v43), (0, .ref a0), (1, .int a1), (2, .ref v9), (4, .int j30_4)]) hx hb dX10_letter_56 rfl hl (by decide) rfl (fun ls hl => ?_)
            refine lv_goto (tgt := 104) hx hb dX10_letter_57 (by decide) ?_
            exact J_104 v43 p43_1 _ _ hw (fun V h => (nv_0 (nv_30 V h) p18_0 (by decide +kernel))) _ (lv_sub hl [1, 2, 3, 0, 4] rfl)
    exact J_30 _ v12 p12_1 1 (iv_w (⟨by decide, by decide⟩ : Iv 1 1 1) (by decide)) σ8 _ _ hw fr (Nat.lt_succ_self _) (fun V h => (nn10 V h)) _ (lv_sub hl [3, 4, 2, 1, 0] rfl)
  · --
    have i44 : Iv v3 0 0 := iv_eq1 c4 p3_1 (⟨by decide, by decide⟩ : Iv 0 0 0) (by decide)
    refine lv_iconst (v := (-1)) hx hb dX10_letter_11 (by decide) ?_
    rw [← hQ]
    exact o_ri cx rx hw dX10_letter_12 ⟨fr, (iv_w (⟨by decide, by decide⟩ : Iv (-1) (-1) (-1)) (by decide)), (by intro V h; exact h)⟩
abbrev fs_X10_snow : List Nat := [588, 589]
abbrev ts_X10_snow : List Nat := []
set_option maxHeartbeats 4000000 in
set_option maxRecDepth 100000 in
theorem c_X10_snow (a0 : Nat) (ha0 : oA L τ a0 9) : oMet l A L τ cy D K yX10_snow cX10_snow 1 (some .int) 3 66 [.ref a0] σ (va_Qi (fun r σ1 => oFr τ fs_X10_snow ts_X10_snow σ σ1 ∧ Iv r 0 127) (oPo A L τ cy D) A) := by
  refine oMk (by decide) (Nat.le_of_ble_eq_true rfl) rfl ?_
  intro p e s m args below meth c ls cx rx hA hw hl
  generalize hQ : MQ below _ args s 0 0 A = Q
  have hx := cx.1.1
  have hb := cx.1.2.1
  have hml := cx.1.2.2.1
  have hown := cx.1.2.2.2.1
  have hts := cx.1.2.2.2.2
  have hl : lv_has ls 1 [(0, .ref a0)] := hl
  have fr : oFr τ fs_X10_snow ts_X10_snow σ σ := oFr_rf
  refine lv_aload_n hx hb dX10_snow_0 rfl (lv_at hl 0 rfl) ?_
  refine lv_iconst (v := 1) hx hb dX10_snow_1 (by decide) ?_
  refine p_588 cx hw ha0 (iv_w (⟨by decide, by decide⟩ : Iv 1 1 1) (by decide)) k_f_X10_117 dX10_snow_2 (fun σ1 H locs eσ1 hw => ?_)
  have fr := oFr_i fr eσ1 (by decide)
  refine lv_aload_n hx hb dX10_snow_5 rfl (lv_at hl 0 rfl) ?_
  refine lv_aload_n hx hb dX10_snow_6 rfl (lv_at hl 0 rfl) ?_
  refine o_cl hw (oRunV cx hA hw q_X10_roadNow k_m_X10_335 rfl ha0 (by decide) (As := []) (c_X10_roadNow a0 ha0) (by decide) rfl hl.1 rfl (Nat.le_of_ble_eq_true rfl) dX10_snow_7 (by decide)) (fun v3 σ2 H locs hp hw => ?_)
  have p3_0 := hp
  rw [p3_0] at hw
  refine p_589 cx hw ha0 k_f_X10_452 dX10_snow_10 (fun σ4 H locs eσ4 hw => ?_)
  have fr := oFr_l fr eσ4 (by decide)
  refine lv_aload_n hx hb dX10_snow_13 rfl (lv_at hl 0 rfl) ?_
  refine g_589 cx hw ha0 k_f_X10_452 dX10_snow_14 (fun v5 e5 => ?_)
  refine o_ci hw (oRunS cx hA hw q_J13_bitCount_95d88 k_m_X10_349 (As := [.long v5]) (c_J13_bitCount_95d88 v5) (by decide) rfl hl.1 rfl (Nat.le_of_ble_eq_true rfl) dX10_snow_17 (by decide)) (fun v7 σ6 H locs hp hw => ?_)
  obtain ⟨p7_0, p7_1⟩ := hp
  rw [p7_0] at hw
  rw [← hQ]
  exact o_ri cx rx hw dX10_snow_20 ⟨fr, (iv_w p7_1 (by decide))⟩
abbrev fs_X10_thaw : List Nat := [193]
abbrev ts_X10_thaw : List Nat := [36]
set_option maxHeartbeats 4000000 in
set_option maxRecDepth 100000 in
theorem c_X10_thaw (a0 : Nat) (ha0 : oA L τ a0 9) : oMet l A L τ cy D K yX10_thaw cX10_thaw 3 (some .int) 3 66 [.ref a0] σ (va_Qi (fun r σ1 => oFr τ fs_X10_thaw ts_X10_thaw σ σ1 ∧ Iv r (-2) 127) (oPo A L τ cy D) A) := by
  refine oMk (by decide) (Nat.le_of_ble_eq_true rfl) rfl ?_
  intro p e s m args below meth c ls cx rx hA hw hl
  generalize hQ : MQ below _ args s 0 0 A = Q
  have hx := cx.1.1
  have hb := cx.1.2.1
  have hml := cx.1.2.2.1
  have hown := cx.1.2.2.2.1
  have hts := cx.1.2.2.2.2
  have hl : lv_has ls 3 [(0, .ref a0)] := hl
  have fr : oFr τ fs_X10_thaw ts_X10_thaw σ σ := oFr_rf
  refine lv_aload_n hx hb dX10_thaw_0 rfl (lv_at hl 0 rfl) ?_
  refine g_588 cx hw ha0 k_f_X10_117 dX10_thaw_1 (fun v1 e1 => ?_)
  refine lv_if_ne (tgt := 10) hx hb dX10_thaw_4 (by decide) (fun c2 => ?_) (fun c2 => ?_)
  · --
    refine lv_aload_n hx hb dX10_thaw_10 rfl (lv_at hl 0 rfl) ?_
    refine o_cl hw (oRunV cx hA hw q_X10_roadNow k_m_X10_335 rfl ha0 (by decide) (As := []) (c_X10_roadNow a0 ha0) (by decide) rfl hl.1 rfl (Nat.le_of_ble_eq_true rfl) dX10_thaw_11 (by decide)) (fun v4 σ3 H locs hp hw => ?_)
    have p4_0 := hp
    rw [p4_0] at hw
    refine lv_lstore_n (lv' := [(1, .long v4), (0, .ref a0)]) hx hb dX10_thaw_14 rfl hl (by decide) rfl (fun ls hl => ?_)
    refine lv_aload_n hx hb dX10_thaw_15 rfl (lv_at hl 1 rfl) ?_
    refine g_577 cx hw ha0 k_f_X10_19 dX10_thaw_16 (fun v5 e5 h5 => ?_)
    refine o_cv hw (oRunV cx hA hw q_X4_start k_m_X10_292 rfl h5 (by decide) (As := []) (c_X4_start v5 h5) (by decide) rfl hl.1 rfl (Nat.le_of_ble_eq_true rfl) dX10_thaw_19 (by decide)) (fun σ6 H locs hp hw => ?_)
    have p7_0 := hp
    have fr := oFr_tr fr p7_0 (by decide)
    refine lv_aload_n hx hb dX10_thaw_22 rfl (lv_at hl 1 rfl) ?_
    refine g_577 cx hw ha0 k_f_X10_19 dX10_thaw_23 (fun v8 e8 h8 => ?_)
    rw [show v8 = v5 from Option.some.inj (e8.symm.trans (((kr_c p7_0 (by decide)).trans e5)))]
    refine lv_aload_n hx hb dX10_thaw_26 rfl (lv_at hl 1 rfl) ?_
    refine g_589 cx hw ha0 k_f_X10_452 dX10_thaw_27 (fun v9 e9 => ?_)
    refine lv_lload_n hx hb dX10_thaw_30 rfl (lv_at hl 0 rfl) ?_
    refine lv_ldc2 (v := (-1)) hx hb hown (hts _ k_k_X10_347) dX10_thaw_31 ?_
    refine lv_lxor hx hb dX10_thaw_34 ?_
    refine lv_topl (fun v10 e10 => ?_)
    refine lv_land hx hb dX10_thaw_35 ?_
    refine lv_topl (fun v11 e11 => ?_)
    refine o_cv hw (oRunV cx hA hw q_X4_put k_m_X10_295 rfl h5 (by decide) (As := [.long v11]) (c_X4_put v5 h5 v11) (by decide) rfl hl.1 rfl (Nat.le_of_ble_eq_true rfl) dX10_thaw_36 (by decide)) (fun σ12 H locs hp hw => ?_)
    have p13_0 := hp
    have fr := oFr_tr fr p13_0 (by decide)
    refine lv_aload_n hx hb dX10_thaw_39 rfl (lv_at hl 1 rfl) ?_
    refine g_577 cx hw ha0 k_f_X10_19 dX10_thaw_40 (fun v14 e14 h14 => ?_)
    rw [show v14 = v5 from Option.some.inj (e14.symm.trans (((kr_c p13_0 (by decide)).trans ((kr_c p7_0 (by decide)).trans e5))))]
    refine lv_lload_n hx hb dX10_thaw_43 rfl (lv_at hl 0 rfl) ?_
    refine lv_aload_n hx hb dX10_thaw_44 rfl (lv_at hl 1 rfl) ?_
    refine g_589 cx hw ha0 k_f_X10_452 dX10_thaw_45 (fun v15 e15 => ?_)
    refine lv_ldc2 (v := (-1)) hx hb hown (hts _ k_k_X10_347) dX10_thaw_48 ?_
    refine lv_lxor hx hb dX10_thaw_51 ?_
    refine lv_topl (fun v16 e16 => ?_)
    refine lv_land hx hb dX10_thaw_52 ?_
    refine lv_topl (fun v17 e17 => ?_)
    refine o_cv hw (oRunV cx hA hw q_X4_put k_m_X10_295 rfl h5 (by decide) (As := [.long v17]) (c_X4_put v5 h5 v17) (by decide) rfl hl.1 rfl (Nat.le_of_ble_eq_true rfl) dX10_thaw_53 (by decide)) (fun σ18 H locs hp hw => ?_)
    have p19_0 := hp
    have fr := oFr_tr fr p19_0 (by decide)
    refine lv_aload_n hx hb dX10_thaw_56 rfl (lv_at hl 1 rfl) ?_
    refine g_589 cx hw ha0 k_f_X10_452 dX10_thaw_57 (fun v20 e20 => ?_)
    refine lv_lload_n hx hb dX10_thaw_60 rfl (lv_at hl 0 rfl) ?_
    refine lv_ldc2 (v := (-1)) hx hb hown (hts _ k_k_X10_347) dX10_thaw_61 ?_
    refine lv_lxor hx hb dX10_thaw_64 ?_
    refine lv_topl (fun v21 e21 => ?_)
    refine lv_land hx hb dX10_thaw_65 ?_
    refine lv_topl (fun v22 e22 => ?_)
    refine o_ci hw (oRunS cx hA hw q_J13_bitCount_95d88 k_m_X10_349 (As := [.long v22]) (c_J13_bitCount_95d88 v22) (by decide) rfl hl.1 rfl (Nat.le_of_ble_eq_true rfl) dX10_thaw_66 (by decide)) (fun v24 σ23 H locs hp hw => ?_)
    obtain ⟨p24_0, p24_1⟩ := hp
    rw [p24_0] at hw
    rw [← hQ]
    exact o_ri cx rx hw dX10_thaw_69 ⟨fr, (iv_w p24_1 (by decide))⟩
  · --
    have i25 : Iv v1 0 0 := iv_eq1 c2 (iv_top v1) (⟨by decide, by decide⟩ : Iv 0 0 0) (by decide)
    refine lv_bipush (v := (-2)) hx hb dX10_thaw_7 (by decide) ?_
    rw [← hQ]
    exact o_ri cx rx hw dX10_thaw_9 ⟨fr, (iv_w (⟨by decide, by decide⟩ : Iv (-2) (-2) (-2)) (by decide))⟩
abbrev fs_X10_season : List Nat := [193, 327, 328, 329, 330, 331, 517]
abbrev ts_X10_season : List Nat := [32, 33, 34, 36, 37, 38]
set_option maxHeartbeats 4000000 in
set_option maxRecDepth 100000 in
theorem c_X10_season (a0 : Nat) (ha0 : oA L τ a0 9) (a1 : Int32) (a2 : Int32) : oMet l A L τ cy D K yX10_season cX10_season 8 (some .int) 5 130 [.ref a0, .int a1, .int a2] σ (va_Qi (fun r σ1 => oFr τ fs_X10_season ts_X10_season σ σ1 ∧ (∀ V, NV σ a0 V → NV σ1 a0 V)) (oPo A L τ cy D) A) := by
  refine oMk (by decide) (Nat.le_of_ble_eq_true rfl) rfl ?_
  intro p e s m args below meth c ls cx rx hA hw hl
  generalize hQ : MQ below _ args s 0 0 A = Q
  have hx := cx.1.1
  have hb := cx.1.2.1
  have hml := cx.1.2.2.1
  have hown := cx.1.2.2.2.1
  have hts := cx.1.2.2.2.2
  have hl : lv_has ls 8 [(0, .ref a0), (1, .int a1), (2, .int a2)] := hl
  have fr : oFr τ fs_X10_season ts_X10_season σ σ := oFr_rf
  obtain ⟨b581, hF581, hb581⟩ := hw.2.2.2.2.2 581 a0 5 (by rw [ha0.2]; rfl) ha0.1
  obtain ⟨b582, hF582, hb582⟩ := hw.2.2.2.2.2 582 a0 5 (by rw [ha0.2]; rfl) ha0.1
  obtain ⟨b583, hF583, hb583⟩ := hw.2.2.2.2.2 583 a0 0 (by rw [ha0.2]; rfl) ha0.1
  obtain ⟨b585, hF585, hb585⟩ := hw.2.2.2.2.2 585 a0 2 (by rw [ha0.2]; rfl) ha0.1
  obtain ⟨b586, hF586, hb586⟩ := hw.2.2.2.2.2 586 a0 41 (by rw [ha0.2]; rfl) ha0.1
  refine lv_aload_n hx hb dX10_season_0 rfl (lv_at hl 0 rfl) ?_
  refine g_578 cx hw ha0 k_f_X10_26 dX10_season_1 (fun v1 e1 h1 => ?_)
  refine g_64 cx hw h1 k_f_X10_121 dX10_season_4 (fun v2 e2 i2 => ?_)
  have z2 : v2.toInt = (σ.1 64 v1).toInt := congrArg Int32.toInt e2
  refine lv_aload_n hx hb dX10_season_7 rfl (lv_at hl 0 rfl) ?_
  refine g_578 cx hw ha0 k_f_X10_26 dX10_season_8 (fun v3 e3 h3 => ?_)
  rw [show v3 = v1 from Option.some.inj (e3.symm.trans (e1))]
  refine g_65 cx hw h1 k_f_X10_124 dX10_season_11 (fun v4 e4 i4 => ?_)
  have z4 : v4.toInt = (σ.1 65 v1).toInt := congrArg Int32.toInt e4
  refine lv_imul hx hb dX10_season_14 ?_
  refine lv_topi (fun v5 e5 => ?_)
  have i5 : Iv v5 0 64 := iv_mul e5 i2 i4 (by decide)
  refine lv_istore_n (lv' := [(3, .int v5), (0, .ref a0), (1, .int a1), (2, .int a2)]) hx hb dX10_season_15 rfl hl (by decide) rfl (fun ls hl => ?_)
  refine lv_iload_n hx hb dX10_season_16 rfl (lv_at hl 3 rfl) ?_
  refine lv_iconst (v := 1) hx hb dX10_season_17 (by decide) ?_
  refine lv_icmp_lt (tgt := 32) hx hb dX10_season_18 (by decide) (fun c6 => ?_) (fun c6 => ?_)
  · --
    have i7 : Iv a2 (-2147483648) 0 := iv_lt1 c6 (iv_top a2) (⟨by decide, by decide⟩ : Iv 1 1 1) (by decide)
    refine lv_iconst (v := (-1)) hx hb dX10_season_32 (by decide) ?_
    rw [← hQ]
    exact o_ri cx rx hw dX10_season_33 ⟨fr, (by intro V h; exact h)⟩
  · --
    have i8 : Iv a2 1 2147483647 := iv_le2 (iv_nlt c6) (⟨by decide, by decide⟩ : Iv 1 1 1) (iv_top a2) (by decide)
    refine lv_iload_n hx hb dX10_season_21 rfl (lv_at hl 3 rfl) ?_
    refine lv_bipush (v := 60) hx hb dX10_season_22 (by decide) ?_
    refine lv_icmp_gt (tgt := 32) hx hb dX10_season_24 (by decide) (fun c9 => ?_) (fun c9 => ?_)
    · --
      have i10 : Iv a2 61 2147483647 := iv_lt2 c9 (⟨by decide, by decide⟩ : Iv 60 60 60) i8 (by decide)
      refine lv_iconst (v := (-1)) hx hb dX10_season_32 (by decide) ?_
      rw [← hQ]
      exact o_ri cx rx hw dX10_season_33 ⟨fr, (by intro V h; exact h)⟩
    · --
      have i11 : Iv a2 1 60 := iv_le1 (iv_nlt c9) i8 (⟨by decide, by decide⟩ : Iv 60 60 60) (by decide)
      refine lv_iload_n hx hb dX10_season_27 rfl (lv_at hl 0 rfl) ?_
      refine lv_iconst (v := 1) hx hb dX10_season_28 (by decide) ?_
      refine lv_icmp_ge (tgt := 34) hx hb dX10_season_29 (by decide) (fun c12 => ?_) (fun c12 => ?_)
      · --
        have i13 : Iv v5 1 64 := iv_le2 c12 (⟨by decide, by decide⟩ : Iv 1 1 1) i5 (by decide)
        refine lv_aload_n hx hb dX10_season_34 rfl (lv_at hl 1 rfl) ?_
        refine g_583 cx hw ha0 k_f_X10_61 dX10_season_35 (fun v14 e14 h14 => ?_)
        rw [show v14 = b583 from Option.some.inj (e14.symm.trans (hF583))]
        refine o_cr hw (oRunV cx hA hw q_X1_begin k_m_X10_377 rfl hb583 (by decide) (As := []) (c_X1_begin b583 hb583) (by decide) rfl hl.1 rfl (Nat.le_of_ble_eq_true rfl) dX10_season_38 (by decide)) (fun v16 σ15 H locs hp hw => ?_)
        obtain ⟨p16_0, p16_1, p16_2⟩ := hp
        have fr := oFr_tr fr p16_0 (by decide)
        have nn17 : ∀ V, NV σ a0 V → NV σ15 a0 V := fun V h => by
          have h1 : NV σ a0 V := h
          exact nv_c h1 p16_0 (by decide +kernel) (u_v (p16_2 b581 (nv_F h1 (hF583) (hF581))) (nv_P h1 (hF581)))
        refine lv_astore (lv' := [(4, .ref v16), (3, .int v5), (0, .ref a0), (1, .int a1), (2, .int a2)]) hx hb dX10_season_41 hl (by decide) rfl (fun ls hl => ?_)
        refine lv_iload_n hx hb dX10_season_43 rfl (lv_at hl 3 rfl) ?_
        refine lv_istore (lv' := [(5, .int a1), (4, .ref v16), (3, .int v5), (0, .ref a0), (1, .int a1), (2, .int a2)]) hx hb dX10_season_44 hl (by decide) rfl (fun ls hl => ?_)
        refine lv_iconst (v := 0) hx hb dX10_season_46 (by decide) ?_
        refine lv_istore (lv' := [(6, .int 0), (5, .int a1), (4, .ref v16), (3, .int v5), (0, .ref a0), (1, .int a1), (2, .int a2)]) hx hb dX10_season_47 hl (by decide) rfl (fun ls hl => ?_)
        refine lv_iconst (v := 0) hx hb dX10_season_49 (by decide) ?_
        refine lv_istore (lv' := [(7, .int 0), (6, .int 0), (5, .int a1), (4, .ref v16), (3, .int v5), (0, .ref a0), (1, .int a1), (2, .int a2)]) hx hb dX10_season_50 hl (by decide) rfl (fun ls hl => ?_)
        have frE_52 := fr
        have J_52 : ∀ n52 : Nat, ∀ (j52_5 : Int32) (j52_6 : Int32) (j52_7 : Int32) (ij52_7 : Iv j52_7 0 60), ∀ (σ_52 : oSt) (H : Heap) (locs : List Loc), oI A L τ cy D s.heap σ_52 H locs → oFr τ fs_X10_season ts_X10_season σ σ_52 → (60 - j52_7.toInt).toNat < n52 → (∀ V, NV σ a0 V → NV σ_52 a0 V) → ∀ (ls : Array Slot), lv_has ls 8 [(0, .ref a0), (1, .int a1), (2, .int a2), (3, .int v5), (4, .ref v16), (5, .int j52_5), (6, .int j52_6), (7, .int j52_7)] → W p l e ({ frames := 5, cells := 0, slots := 0, locals := 130 } : Room) s m args below meth c H locs 0 0 Q (F0 m 52 ls []) := by
          intro n52
          induction n52 with
          | zero => intro j52_5 j52_6 j52_7 ij52_7 σ_52 H locs hw fr   hn_52 nv_52  ls hl; exact absurd hn_52 (Nat.not_lt_zero _)
          | succ n52 ih_52 =>
            intro j52_5 j52_6 j52_7 ij52_7 σ_52 H locs hw fr   hn_52 nv_52  ls hl
            have fr_52 := fr
            refine lv_iload hx hb dX10_season_52 (lv_at hl 7 rfl) ?_
            refine lv_iload_n hx hb dX10_season_54 rfl (lv_at hl 2 rfl) ?_
            refine lv_icmp_ge (tgt := 101) hx hb dX10_season_55 (by decide) (fun c18 => ?_) (fun c18 => ?_)
            · --
              have i19 : Iv j52_7 1 60 := iv_le2 c18 i11 ij52_7 (by decide)
              refine lv_aload_n hx hb dX10_season_101 rfl (lv_at hl 0 rfl) ?_
              refine lv_aload hx hb dX10_season_102 (lv_at hl 4 rfl) ?_
              refine o_cv hw (oRunV cx hA hw q_X10_tellPlaces k_m_X10_273 rfl ha0 (by decide) (As := [.ref v16]) (c_X10_tellPlaces a0 ha0 v16 p16_1) (by decide) rfl hl.1 rfl (Nat.le_of_ble_eq_true rfl) dX10_season_104 (by decide)) (fun σ20 H locs hp hw => ?_)
              have p21_0 := hp
              have fr := oFr_tr fr p21_0 (by decide)
              refine lv_iload hx hb dX10_season_107 (lv_at hl 6 rfl) ?_
              rw [← hQ]
              exact o_ri cx rx hw dX10_season_109 ⟨fr, (by intro V h; exact (nv_0 (nv_52 V h) p21_0 (by decide +kernel)))⟩
            · --
              have i22 : Iv j52_7 0 59 := iv_lt1 (iv_nle c18) ij52_7 i11 (by decide)
              refine lv_iload hx hb dX10_season_58 (lv_at hl 5 rfl) ?_
              refine lv_ldcw (v := 1103515245) hx hb hown (hts _ k_k_X10_456) dX10_season_60 ?_
              refine lv_imul hx hb dX10_season_63 ?_
              refine lv_topi (fun v23 e23 => ?_)
              refine lv_sipush (v := 12345) hx hb dX10_season_64 (by decide) ?_
              refine lv_iadd hx hb dX10_season_67 ?_
              refine lv_topi (fun v24 e24 => ?_)
              refine lv_istore (lv' := [(5, .int v24), (0, .ref a0), (1, .int a1), (2, .int a2), (3, .int v5), (4, .ref v16), (6, .int j52_6), (7, .int j52_7)]) hx hb dX10_season_68 hl (by decide) rfl (fun ls hl => ?_)
              refine lv_iload hx hb dX10_season_70 (lv_at hl 6 rfl) ?_
              refine lv_aload_n hx hb dX10_season_72 rfl (lv_at hl 1 rfl) ?_
              refine lv_aload hx hb dX10_season_73 (lv_at hl 5 rfl) ?_
              refine lv_aload_n hx hb dX10_season_75 rfl (lv_at hl 1 rfl) ?_
              refine g_578 cx hw ha0 k_f_X10_26 dX10_season_76 (fun v25 e25 h25 => ?_)
              rw [show v25 = v1 from Option.some.inj (e25.symm.trans (((kr_c fr_52 (by decide)).trans ((kr_c frE_52 (by decide)).symm.trans (((kr_c p16_0 (by decide)).trans e1))))))]
              refine lv_iload hx hb dX10_season_79 (lv_at hl 0 rfl) ?_
              refine lv_bipush (v := 16) hx hb dX10_season_81 (by decide) ?_
              refine lv_iushr hx hb dX10_season_83 rfl ?_
              refine lv_topi (fun v26 e26 => ?_)
              have i26 : Iv v26 0 65535 := iv_ushr16 e26
              refine lv_iload_n hx hb dX10_season_84 rfl (lv_at hl 4 rfl) ?_
              refine lv_irem hx hb dX10_season_85 (iv_nz i13 (by decide)) ?_
              refine lv_topi (fun v27 e27 => ?_)
              have i27 : Iv v27 0 63 := iv_rem e27 i26 i13 (by decide)
              refine o_ci hw (oRunV cx hA hw q_X2_cellToldAs k_m_X10_457 rfl h1 (by decide) (As := [.int v27]) (c_X2_cellToldAs v1 h1 v27) (by decide) rfl hl.1 rfl (Nat.le_of_ble_eq_true rfl) dX10_season_86 (by decide)) (fun v29 σ28 H locs hp hw => ?_)
              have p29_0 := hp
              rw [p29_0] at hw
              refine o_ci hw (oRunV cx hA hw q_X10_passWithFlies k_m_X10_460 rfl ha0 (by decide) (As := [.ref v16, .int v29]) (c_X10_passWithFlies a0 ha0 v16 p16_1 v29) (by decide) rfl hl.1 rfl (Nat.le_of_ble_eq_true rfl) dX10_season_89 (by decide)) (fun v31 σ30 H locs hp hw => ?_)
              have p31_0 := hp
              have fr := oFr_tr fr p31_0 (by decide)
              refine lv_iadd hx hb dX10_season_92 ?_
              refine lv_topi (fun v32 e32 => ?_)
              refine lv_istore (lv' := [(6, .int v32), (5, .int v24), (0, .ref a0), (1, .int a1), (2, .int a2), (3, .int v5), (4, .ref v16), (7, .int j52_7)]) hx hb dX10_season_93 hl (by decide) rfl (fun ls hl => ?_)
              obtain ⟨v33, e33⟩ : ∃ y : Int32, y = j52_7 + 1 := ⟨_, rfl⟩
              have i33 : Iv v33 1 60 := iv_add e33 i22 (⟨by decide, by decide⟩ : Iv 1 1 1) (by decide)
              have x33 : v33.toInt = j52_7.toInt + 1 := ex_add e33 i22 (⟨by decide, by decide⟩ : Iv 1 1 1) (by decide)
              refine lv_iinc (v := v33) (lv' := [(7, .int v33), (6, .int v32), (5, .int v24), (0, .ref a0), (1, .int a1), (2, .int a2), (3, .int v5), (4, .ref v16)]) hx hb dX10_season_95 hl (k := 7) rfl (by rw [e33]; rfl) (by decide) rfl (fun ls hl => ?_)
              refine lv_goto (tgt := 52) hx hb dX10_season_98 (by decide) ?_
              exact ih_52 v24 v32 v33 (iv_w i33 (by decide)) σ30 _ _ hw fr (ms_up x33 (by decide) (iv_w (a' := 0) (b' := 60) i33 (by decide)).2 hn_52) (fun V h => (nv_0 (nv_52 V h) p31_0 (by decide +kernel))) _ (lv_sub hl [3, 4, 5, 6, 7, 2, 1, 0] rfl)
        exact J_52 _ a1 0 0 (iv_w (⟨by decide, by decide⟩ : Iv 0 0 0) (by decide)) σ15 _ _ hw fr (Nat.lt_succ_self _) (fun V h => (nn17 V h)) _ (lv_sub hl [5, 6, 7, 4, 3, 2, 1, 0] rfl)
      · --
        have i34 : Iv v5 0 0 := iv_lt1 (iv_nle c12) i5 (⟨by decide, by decide⟩ : Iv 1 1 1) (by decide)
        refine lv_iconst (v := (-1)) hx hb dX10_season_32 (by decide) ?_
        rw [← hQ]
        exact o_ri cx rx hw dX10_season_33 ⟨fr, (by intro V h; exact h)⟩
abbrev fs_X10_keep : List Nat := [327, 328, 329, 330, 331, 587]
abbrev ts_X10_keep : List Nat := [32, 33, 34]
set_option maxHeartbeats 4000000 in
set_option maxRecDepth 100000 in
theorem c_X10_keep (a0 : Nat) (ha0 : oA L τ a0 9) (a1 : Int32) : oMet l A L τ cy D K yX10_keep cX10_keep 2 (some .boolean) 2 81 [.ref a0, .int a1] σ (va_Qi (fun r σ1 => oFr τ fs_X10_keep ts_X10_keep σ σ1 ∧ Iv r 0 1 ∧ ((0 ≤ a1.toInt ∧ a1.toInt ≤ 1 ∧ r.toInt = 1) ∨ ((a1.toInt < 0 ∨ 1 < a1.toInt) ∧ r.toInt = 0)) ∧ (∀ V, NV σ a0 V → NV σ1 a0 V) ∧ (∀ V, NV σ a0 V → ((r.toInt = 0 ∧ (a1.toInt < 0 ∨ 2 ≤ a1.toInt) ∧ σ1.1 587 a0 = σ.1 587 a0) ∨ (r.toInt = 1 ∧ Iv a1 0 1 ∧ ∀ i, i < 2 → (kb (σ1.1 587 a0) i = true ↔ i = a1.toNatClampNeg ∨ kb (σ.1 587 a0) i = true))))) (oPo A L τ cy D) A) := by
  refine oMk (by decide) (Nat.le_of_ble_eq_true rfl) rfl ?_
  intro p e s m args below meth c ls cx rx hA hw hl
  generalize hQ : MQ below _ args s 0 0 A = Q
  have hx := cx.1.1
  have hb := cx.1.2.1
  have hml := cx.1.2.2.1
  have hown := cx.1.2.2.2.1
  have hts := cx.1.2.2.2.2
  have hl : lv_has ls 2 [(0, .ref a0), (1, .int a1)] := hl
  have fr : oFr τ fs_X10_keep ts_X10_keep σ σ := oFr_rf
  obtain ⟨b581, hF581, hb581⟩ := hw.2.2.2.2.2 581 a0 5 (by rw [ha0.2]; rfl) ha0.1
  obtain ⟨b582, hF582, hb582⟩ := hw.2.2.2.2.2 582 a0 5 (by rw [ha0.2]; rfl) ha0.1
  obtain ⟨b583, hF583, hb583⟩ := hw.2.2.2.2.2 583 a0 0 (by rw [ha0.2]; rfl) ha0.1
  obtain ⟨b585, hF585, hb585⟩ := hw.2.2.2.2.2 585 a0 2 (by rw [ha0.2]; rfl) ha0.1
  obtain ⟨b586, hF586, hb586⟩ := hw.2.2.2.2.2 586 a0 41 (by rw [ha0.2]; rfl) ha0.1
  refine lv_iload_n hx hb dX10_keep_0 rfl (lv_at hl 1 rfl) ?_
  refine lv_if_lt (tgt := 9) hx hb dX10_keep_1 (by decide) (fun c1 => ?_) (fun c1 => ?_)
  · --
    have i2 : Iv a1 (-2147483648) (-1) := iv_lt1 c1 (iv_top a1) (⟨by decide, by decide⟩ : Iv 0 0 0) (by decide)
    refine lv_iconst (v := 0) hx hb dX10_keep_9 (by decide) ?_
    rw [← hQ]
    exact o_rz cx rx hw (iv_nz01 (iv_w (⟨by decide, by decide⟩ : Iv 0 0 0) (by decide))) dX10_keep_10 ⟨fr, (iv_w (⟨by decide, by decide⟩ : Iv 0 0 0) (by decide)), (by exact (by have := (i2).1; have := (i2).2; have : (a1 : Int32).toInt < (0 : Int32).toInt := iv_lt.mp c1; have : (0 : Int32).toInt = 0 := (by decide); omega)), (by intro V h; exact h), (by intro V h; exact Or.inl ⟨(by have : (0 : Int32).toInt = 0 := (by decide); have : (1 : Int32).toInt = 1 := (by decide); have : (2 : Int32).toInt = 2 := (by decide); have := (i2).1; have := (i2).2; have : (a1 : Int32).toInt < (0 : Int32).toInt := iv_lt.mp c1; have : (0 : Int32).toInt = 0 := (by decide); omega), (by have : (0 : Int32).toInt = 0 := (by decide); have : (1 : Int32).toInt = 1 := (by decide); have : (2 : Int32).toInt = 2 := (by decide); have := (i2).1; have := (i2).2; have : (a1 : Int32).toInt < (0 : Int32).toInt := iv_lt.mp c1; have : (0 : Int32).toInt = 0 := (by decide); omega), rfl⟩)⟩
  · --
    have i3 : Iv a1 0 2147483647 := iv_le2 (iv_nlt c1) (⟨by decide, by decide⟩ : Iv 0 0 0) (iv_top a1) (by decide)
    refine lv_iload_n hx hb dX10_keep_4 rfl (lv_at hl 1 rfl) ?_
    refine lv_iconst (v := 2) hx hb dX10_keep_5 (by decide) ?_
    refine lv_icmp_lt (tgt := 11) hx hb dX10_keep_6 (by decide) (fun c4 => ?_) (fun c4 => ?_)
    · --
      have i5 : Iv a1 0 1 := iv_lt1 c4 i3 (⟨by decide, by decide⟩ : Iv 2 2 2) (by decide)
      refine lv_aload_n hx hb dX10_keep_11 rfl (lv_at hl 0 rfl) ?_
      refine g_586 cx hw ha0 k_f_X10_79 dX10_keep_12 (fun v6 e6 h6 => ?_)
      rw [show v6 = b586 from Option.some.inj (e6.symm.trans (hF586))]
      refine lv_iload_n hx hb dX10_keep_15 rfl (lv_at hl 1 rfl) ?_
      refine o_aald cx hw hb586 (by decide) rfl (iv_in i5 (by decide)) (by decide) dX10_keep_16 (fun v7 e7 h7 => ?_)
      refine lv_aload_n hx hb dX10_keep_17 rfl (lv_at hl 0 rfl) ?_
      refine g_581 cx hw ha0 k_f_X10_49 dX10_keep_18 (fun v8 e8 h8 => ?_)
      rw [show v8 = b581 from Option.some.inj (e8.symm.trans (hF581))]
      have i9 : Iv (σ.1 327 v7) 0 6 := o_fb (j := 327) hw h7 rfl
      have i10 : Iv (σ.1 327 b581) 0 6 := o_fb (j := 327) hw hb581 rfl
      refine o_cv hw (oRunV cx hA hw q_X6_copyFrom k_m_X10_131 rfl h7 (by decide) (As := [.ref b581]) (c_X6_copyFrom v7 h7 b581 hb581) (by decide) rfl hl.1 rfl (Nat.le_of_ble_eq_true rfl) dX10_keep_21 (by decide)) (fun σ11 H locs hp hw => ?_)
      obtain ⟨p12_0, p12_1⟩ := hp
      have fr := oFr_tr fr p12_0 (by decide)
      have i13 : Iv (σ11.1 327 v7) 0 6 := o_fb (j := 327) hw h7 rfl
      have i14 : Iv (σ11.1 327 b581) 0 6 := o_fb (j := 327) hw hb581 rfl
      have bb15 : ∀ V, NV σ a0 V → σ11.1 327 v7 = V := fun V h => by
        have h1 : NV σ a0 V := h
        exact p12_1.1.trans (nv_P h1 (hF581))
      have nn16 : ∀ V, NV σ a0 V → NV σ11 a0 V := fun V h => by
        have h1 : NV σ a0 V := h
        exact nv_c h1 p12_0 (by decide +kernel) (u_v (u_cp p12_1) (nv_P h1 (hF581)))
      refine lv_aload_n hx hb dX10_keep_24 rfl (lv_at hl 0 rfl) ?_
      refine lv_dup hx hb dX10_keep_25 rfl ?_
      refine g_587 cx hw ha0 k_f_X10_114 dX10_keep_26 (fun v17 e17 => ?_)
      rw [show v17 = (σ.1 587 a0) from e17.trans ((kp_c p12_0 (by decide)).trans rfl)]
      refine lv_iconst (v := 1) hx hb dX10_keep_29 (by decide) ?_
      refine lv_iload_n hx hb dX10_keep_30 rfl (lv_at hl 1 rfl) ?_
      refine lv_ishl hx hb dX10_keep_31 ?_
      refine lv_topi (fun v18 e18 => ?_)
      have i18 : Iv v18 1 32 := iv_shl1 e18 i5 (by decide)
      refine lv_ior hx hb dX10_keep_32 ?_
      refine lv_topi (fun v19 e19 => ?_)
      refine p_587 cx hw ha0 k_f_X10_114 dX10_keep_33 (fun σ20 H locs eσ20 hw => ?_)
      have fr := oFr_i fr eσ20 (by decide)
      refine lv_iconst (v := 1) hx hb dX10_keep_36 (by decide) ?_
      rw [← hQ]
      exact o_rz cx rx hw (iv_nz01 (iv_w (⟨by decide, by decide⟩ : Iv 1 1 1) (by decide))) dX10_keep_37 ⟨fr, (iv_w (⟨by decide, by decide⟩ : Iv 1 1 1) (by decide)), (by exact (by have := (i5).1; have := (i5).2; have := (i13).1; have := (i13).2; have := (i14).1; have := (i14).2; have := (i9).1; have := (i9).2; have := (i10).1; have := (i10).2; have := (i18).1; have := (i18).2; have : (σ20.1 327 v7).toInt = ((σ11.1 327 v7) : Int32).toInt := congrArg Int32.toInt (show σ20.1 327 v7 = (σ11.1 327 v7) from ((kp_i eσ20 (by decide)).trans rfl)); have : (σ20.1 327 b581).toInt = ((σ11.1 327 b581) : Int32).toInt := congrArg Int32.toInt (show σ20.1 327 b581 = (σ11.1 327 b581) from ((kp_i eσ20 (by decide)).trans rfl)); have : (σ20.1 587 a0).toInt = (v19 : Int32).toInt := congrArg Int32.toInt (show σ20.1 587 a0 = v19 from (kp_s eσ20)); have : (0 : Int32).toInt ≤ (a1 : Int32).toInt := iv_le.mp (iv_nlt c1); have : (a1 : Int32).toInt < (2 : Int32).toInt := iv_lt.mp c4; have : (0 : Int32).toInt = 0 := (by decide); have : (1 : Int32).toInt = 1 := (by decide); have : (2 : Int32).toInt = 2 := (by decide); omega)), (by intro V h; have h1 := (nn16 V h); have b9 := bb15 V h; have kb9 := kb_put (nv_b h) i5 e18 e19; exact (nv_kb h1 (((kr_c p12_0 (by decide)).trans hF586)) ((congrFun (p12_0.1 _ (nvk_2 (X := []) (by decide +kernel) (Nat.le_add_right _ _))).2.2 _).trans e7) ((rfl).trans b9) eσ20 ⟨kb9.1, fun j hj => by rw [show σ11.1 587 a0 = σ.1 587 a0 from ((kp_c p12_0 (by decide)).trans rfl)]; exact kb9.2 j hj⟩)), (by intro V h; have kb9 := kb_put (nv_b h) i5 e18 e19; refine Or.inr ⟨(by have : (0 : Int32).toInt = 0 := (by decide); have : (1 : Int32).toInt = 1 := (by decide); have : (2 : Int32).toInt = 2 := (by decide); have := (i5).1; have := (i5).2; have := (i13).1; have := (i13).2; have := (i14).1; have := (i14).2; have := (i9).1; have := (i9).2; have := (i10).1; have := (i10).2; have := (i18).1; have := (i18).2; have : (σ20.1 327 v7).toInt = ((σ11.1 327 v7) : Int32).toInt := congrArg Int32.toInt (show σ20.1 327 v7 = (σ11.1 327 v7) from ((kp_i eσ20 (by decide)).trans rfl)); have : (σ20.1 327 b581).toInt = ((σ11.1 327 b581) : Int32).toInt := congrArg Int32.toInt (show σ20.1 327 b581 = (σ11.1 327 b581) from ((kp_i eσ20 (by decide)).trans rfl)); have : (σ20.1 587 a0).toInt = (v19 : Int32).toInt := congrArg Int32.toInt (show σ20.1 587 a0 = v19 from (kp_s eσ20)); have : (0 : Int32).toInt ≤ (a1 : Int32).toInt := iv_le.mp (iv_nlt c1); have : (a1 : Int32).toInt < (2 : Int32).toInt := iv_lt.mp c4; have : (0 : Int32).toInt = 0 := (by decide); have : (1 : Int32).toInt = 1 := (by decide); have : (2 : Int32).toInt = 2 := (by decide); omega), i5, fun i hi => ?_⟩; rw [show σ20.1 587 a0 = v19 from (kp_s eσ20)]; exact kb9.2 i hi)⟩
    · --
      have i21 : Iv a1 2 2147483647 := iv_le2 (iv_nlt c4) (⟨by decide, by decide⟩ : Iv 2 2 2) i3 (by decide)
      refine lv_iconst (v := 0) hx hb dX10_keep_9 (by decide) ?_
      rw [← hQ]
      exact o_rz cx rx hw (iv_nz01 (iv_w (⟨by decide, by decide⟩ : Iv 0 0 0) (by decide))) dX10_keep_10 ⟨fr, (iv_w (⟨by decide, by decide⟩ : Iv 0 0 0) (by decide)), (by exact (by have := (i21).1; have := (i21).2; have : (0 : Int32).toInt ≤ (a1 : Int32).toInt := iv_le.mp (iv_nlt c1); have : (2 : Int32).toInt ≤ (a1 : Int32).toInt := iv_le.mp (iv_nlt c4); have : (0 : Int32).toInt = 0 := (by decide); have : (2 : Int32).toInt = 2 := (by decide); omega)), (by intro V h; exact h), (by intro V h; exact Or.inl ⟨(by have : (0 : Int32).toInt = 0 := (by decide); have : (1 : Int32).toInt = 1 := (by decide); have : (2 : Int32).toInt = 2 := (by decide); have := (i21).1; have := (i21).2; have : (0 : Int32).toInt ≤ (a1 : Int32).toInt := iv_le.mp (iv_nlt c1); have : (2 : Int32).toInt ≤ (a1 : Int32).toInt := iv_le.mp (iv_nlt c4); have : (0 : Int32).toInt = 0 := (by decide); have : (2 : Int32).toInt = 2 := (by decide); omega), (by have : (0 : Int32).toInt = 0 := (by decide); have : (1 : Int32).toInt = 1 := (by decide); have : (2 : Int32).toInt = 2 := (by decide); have := (i21).1; have := (i21).2; have : (0 : Int32).toInt ≤ (a1 : Int32).toInt := iv_le.mp (iv_nlt c1); have : (2 : Int32).toInt ≤ (a1 : Int32).toInt := iv_le.mp (iv_nlt c4); have : (0 : Int32).toInt = 0 := (by decide); have : (2 : Int32).toInt = 2 := (by decide); omega), rfl⟩)⟩
abbrev fs_X10_again : List Nat := [130, 327, 328, 329, 330, 331]
abbrev ts_X10_again : List Nat := [32, 33, 34]
set_option maxHeartbeats 4000000 in
set_option maxRecDepth 100000 in
theorem c_X10_again (a0 : Nat) (ha0 : oA L τ a0 9) (a1 : Int32) : oMet l A L τ cy D K yX10_again cX10_again 2 (some .boolean) 2 81 [.ref a0, .int a1] σ (va_Qi (fun r σ1 => oFr τ fs_X10_again ts_X10_again σ σ1 ∧ Iv r 0 1 ∧ (∀ V, NV σ a0 V → NV σ1 a0 V) ∧ (∀ V, NV σ a0 V → ((r.toInt = 1 ∧ Iv a1 0 1 ∧ kb (σ.1 587 a0) a1.toNatClampNeg = true) ∨ (r.toInt = 0 ∧ ¬ (Iv a1 0 1 ∧ kb (σ.1 587 a0) a1.toNatClampNeg = true))))) (oPo A L τ cy D) A) := by
  refine oMk (by decide) (Nat.le_of_ble_eq_true rfl) rfl ?_
  intro p e s m args below meth c ls cx rx hA hw hl
  generalize hQ : MQ below _ args s 0 0 A = Q
  have hx := cx.1.1
  have hb := cx.1.2.1
  have hml := cx.1.2.2.1
  have hown := cx.1.2.2.2.1
  have hts := cx.1.2.2.2.2
  have hl : lv_has ls 2 [(0, .ref a0), (1, .int a1)] := hl
  have fr : oFr τ fs_X10_again ts_X10_again σ σ := oFr_rf
  obtain ⟨b581, hF581, hb581⟩ := hw.2.2.2.2.2 581 a0 5 (by rw [ha0.2]; rfl) ha0.1
  obtain ⟨b582, hF582, hb582⟩ := hw.2.2.2.2.2 582 a0 5 (by rw [ha0.2]; rfl) ha0.1
  obtain ⟨b583, hF583, hb583⟩ := hw.2.2.2.2.2 583 a0 0 (by rw [ha0.2]; rfl) ha0.1
  obtain ⟨b585, hF585, hb585⟩ := hw.2.2.2.2.2 585 a0 2 (by rw [ha0.2]; rfl) ha0.1
  obtain ⟨b586, hF586, hb586⟩ := hw.2.2.2.2.2 586 a0 41 (by rw [ha0.2]; rfl) ha0.1
  refine lv_iload_n hx hb dX10_again_0 rfl (lv_at hl 1 rfl) ?_
  refine lv_if_lt (tgt := 20) hx hb dX10_again_1 (by decide) (fun c1 => ?_) (fun c1 => ?_)
  · --
    have i2 : Iv a1 (-2147483648) (-1) := iv_lt1 c1 (iv_top a1) (⟨by decide, by decide⟩ : Iv 0 0 0) (by decide)
    refine lv_iconst (v := 0) hx hb dX10_again_20 (by decide) ?_
    rw [← hQ]
    exact o_rz cx rx hw (iv_nz01 (iv_w (⟨by decide, by decide⟩ : Iv 0 0 0) (by decide))) dX10_again_21 ⟨fr, (iv_w (⟨by decide, by decide⟩ : Iv 0 0 0) (by decide)), (by intro V h; exact h), (by intro V h; exact Or.inr ⟨(by have : (0 : Int32).toInt = 0 := (by decide); have : (1 : Int32).toInt = 1 := (by decide); have : (2 : Int32).toInt = 2 := (by decide); have := (i2).1; have := (i2).2; have : (a1 : Int32).toInt < (0 : Int32).toInt := iv_lt.mp c1; have : (0 : Int32).toInt = 0 := (by decide); omega), fun z => by have z1 := z.1.1; have z2 := z.1.2; exact absurd z1 (by have : (0 : Int32).toInt = 0 := (by decide); have : (1 : Int32).toInt = 1 := (by decide); have : (2 : Int32).toInt = 2 := (by decide); have := (i2).1; have := (i2).2; have : (a1 : Int32).toInt < (0 : Int32).toInt := iv_lt.mp c1; have : (0 : Int32).toInt = 0 := (by decide); omega)⟩)⟩
  · --
    have i3 : Iv a1 0 2147483647 := iv_le2 (iv_nlt c1) (⟨by decide, by decide⟩ : Iv 0 0 0) (iv_top a1) (by decide)
    refine lv_iload_n hx hb dX10_again_4 rfl (lv_at hl 1 rfl) ?_
    refine lv_iconst (v := 2) hx hb dX10_again_5 (by decide) ?_
    refine lv_icmp_ge (tgt := 20) hx hb dX10_again_6 (by decide) (fun c4 => ?_) (fun c4 => ?_)
    · --
      have i5 : Iv a1 2 2147483647 := iv_le2 c4 (⟨by decide, by decide⟩ : Iv 2 2 2) i3 (by decide)
      refine lv_iconst (v := 0) hx hb dX10_again_20 (by decide) ?_
      rw [← hQ]
      exact o_rz cx rx hw (iv_nz01 (iv_w (⟨by decide, by decide⟩ : Iv 0 0 0) (by decide))) dX10_again_21 ⟨fr, (iv_w (⟨by decide, by decide⟩ : Iv 0 0 0) (by decide)), (by intro V h; exact h), (by intro V h; exact Or.inr ⟨(by have : (0 : Int32).toInt = 0 := (by decide); have : (1 : Int32).toInt = 1 := (by decide); have : (2 : Int32).toInt = 2 := (by decide); have := (i5).1; have := (i5).2; have : (0 : Int32).toInt ≤ (a1 : Int32).toInt := iv_le.mp (iv_nlt c1); have : (2 : Int32).toInt ≤ (a1 : Int32).toInt := iv_le.mp c4; have : (0 : Int32).toInt = 0 := (by decide); have : (2 : Int32).toInt = 2 := (by decide); omega), fun z => by have z1 := z.1.1; have z2 := z.1.2; exact absurd z1 (by have : (0 : Int32).toInt = 0 := (by decide); have : (1 : Int32).toInt = 1 := (by decide); have : (2 : Int32).toInt = 2 := (by decide); have := (i5).1; have := (i5).2; have : (0 : Int32).toInt ≤ (a1 : Int32).toInt := iv_le.mp (iv_nlt c1); have : (2 : Int32).toInt ≤ (a1 : Int32).toInt := iv_le.mp c4; have : (0 : Int32).toInt = 0 := (by decide); have : (2 : Int32).toInt = 2 := (by decide); omega)⟩)⟩
    · --
      have i6 : Iv a1 0 1 := iv_lt1 (iv_nle c4) i3 (⟨by decide, by decide⟩ : Iv 2 2 2) (by decide)
      refine lv_aload_n hx hb dX10_again_9 rfl (lv_at hl 0 rfl) ?_
      refine g_587 cx hw ha0 k_f_X10_114 dX10_again_10 (fun v7 e7 => ?_)
      rw [show v7 = (σ.1 587 a0) from e7.trans rfl]
      refine lv_iload_n hx hb dX10_again_13 rfl (lv_at hl 1 rfl) ?_
      refine lv_ishr hx hb dX10_again_14 ?_
      refine lv_topi (fun v8 e8 => ?_)
      refine lv_iconst (v := 1) hx hb dX10_again_15 (by decide) ?_
      refine lv_iand hx hb dX10_again_16 ?_
      refine lv_topi (fun v9 e9 => ?_)
      have i9 : Iv v9 0 1 := iv_and e9 (⟨by decide, by decide⟩ : Iv 1 1 1) (by decide)
      refine lv_if_ne (tgt := 22) hx hb dX10_again_17 (by decide) (fun c10 => ?_) (fun c10 => ?_)
      · --
        have i11 : Iv v9 1 1 := iv_ne1 c10 i9 (⟨by decide, by decide⟩ : Iv 0 0 0) (by decide)
        refine lv_aload_n hx hb dX10_again_22 rfl (lv_at hl 0 rfl) ?_
        refine g_581 cx hw ha0 k_f_X10_49 dX10_again_23 (fun v12 e12 h12 => ?_)
        rw [show v12 = b581 from Option.some.inj (e12.symm.trans (hF581))]
        refine lv_aload_n hx hb dX10_again_26 rfl (lv_at hl 0 rfl) ?_
        refine g_586 cx hw ha0 k_f_X10_79 dX10_again_27 (fun v13 e13 h13 => ?_)
        rw [show v13 = b586 from Option.some.inj (e13.symm.trans (hF586))]
        refine lv_iload_n hx hb dX10_again_30 rfl (lv_at hl 1 rfl) ?_
        refine o_aald cx hw hb586 (by decide) rfl (iv_in i6 (by decide)) (by decide) dX10_again_31 (fun v14 e14 h14 => ?_)
        have i15 : Iv (σ.1 327 b581) 0 6 := o_fb (j := 327) hw hb581 rfl
        have i16 : Iv (σ.1 327 v14) 0 6 := o_fb (j := 327) hw h14 rfl
        refine o_cv hw (oRunV cx hA hw q_X6_copyFrom k_m_X10_131 rfl hb581 (by decide) (As := [.ref v14]) (c_X6_copyFrom b581 hb581 v14 h14) (by decide) rfl hl.1 rfl (Nat.le_of_ble_eq_true rfl) dX10_again_32 (by decide)) (fun σ17 H locs hp hw => ?_)
        obtain ⟨p18_0, p18_1⟩ := hp
        have fr := oFr_tr fr p18_0 (by decide)
        have i19 : Iv (σ17.1 327 b581) 0 6 := o_fb (j := 327) hw hb581 rfl
        have i20 : Iv (σ17.1 327 v14) 0 6 := o_fb (j := 327) hw h14 rfl
        have nn21 : ∀ V, NV σ a0 V → NV σ17 a0 V := fun V h => by
          have h1 : NV σ a0 V := h
          exact nv_c h1 p18_0 (by decide +kernel) (u_v (u_cp p18_1) (nv_K h1 (hF586) (show a1.toNatClampNeg < 2 by have q9 := nat_of i6 (by decide); have := (i6).2; omega) e14 (eq_true_of_ne_false (fun z => c10 ((kb_test (nv_b h1) i6 e8 e9).mpr z)))))
        refine lv_aload_n hx hb dX10_again_35 rfl (lv_at hl 0 rfl) ?_
        refine g_585 cx hw ha0 k_f_X10_75 dX10_again_36 (fun v22 e22 h22 => ?_)
        rw [show v22 = b585 from Option.some.inj (e22.symm.trans (((kr_c p18_0 (by decide)).trans hF585)))]
        refine o_cv hw (oRunV cx hA hw q_X3_forget k_m_X10_111 rfl hb585 (by decide) (As := []) (c_X3_forget b585 hb585) (by decide) rfl hl.1 rfl (Nat.le_of_ble_eq_true rfl) dX10_again_39 (by decide)) (fun σ23 H locs hp hw => ?_)
        obtain ⟨p24_0, p24_1⟩ := hp
        have fr := oFr_tr fr p24_0 (by decide)
        have nn25 : ∀ V, NV σ a0 V → NV σ23 a0 V := fun V h => by
          have h1 : NV σ17 a0 V := (nn21 V h)
          exact nv_f h1 p24_0 (by decide +kernel) (((kr_c p18_0 (by decide)).trans hF585)) p24_1
        refine lv_iconst (v := 1) hx hb dX10_again_42 (by decide) ?_
        rw [← hQ]
        exact o_rz cx rx hw (iv_nz01 (iv_w (⟨by decide, by decide⟩ : Iv 1 1 1) (by decide))) dX10_again_43 ⟨fr, (iv_w (⟨by decide, by decide⟩ : Iv 1 1 1) (by decide)), (by intro V h; exact (nn25 V h)), (by intro V h; exact Or.inl ⟨(by have : (0 : Int32).toInt = 0 := (by decide); have : (1 : Int32).toInt = 1 := (by decide); have : (2 : Int32).toInt = 2 := (by decide); have := (i6).1; have := (i6).2; have := (i19).1; have := (i19).2; have := (i20).1; have := (i20).2; have := (i11).1; have := (i11).2; have := (i15).1; have := (i15).2; have := (i16).1; have := (i16).2; have : (σ23.1 587 a0).toInt = ((σ.1 587 a0) : Int32).toInt := congrArg Int32.toInt (show σ23.1 587 a0 = (σ.1 587 a0) from ((kp_c p24_0 (by decide)).trans ((kp_c p18_0 (by decide)).trans rfl))); have : (σ23.1 327 b581).toInt = ((σ17.1 327 b581) : Int32).toInt := congrArg Int32.toInt (show σ23.1 327 b581 = (σ17.1 327 b581) from ((kp_c p24_0 (by decide)).trans rfl)); have : (σ23.1 327 v14).toInt = ((σ17.1 327 v14) : Int32).toInt := congrArg Int32.toInt (show σ23.1 327 v14 = (σ17.1 327 v14) from ((kp_c p24_0 (by decide)).trans rfl)); have : (0 : Int32).toInt ≤ (a1 : Int32).toInt := iv_le.mp (iv_nlt c1); have : (a1 : Int32).toInt < (2 : Int32).toInt := iv_lt.mp (iv_nle c4); have : (0 : Int32).toInt = 0 := (by decide); have : (1 : Int32).toInt = 1 := (by decide); have : (2 : Int32).toInt = 2 := (by decide); omega), i6, eq_true_of_ne_false (fun z => c10 ((kb_test (nv_b h) i6 e8 e9).mpr z))⟩)⟩
      · --
        have i26 : Iv v9 0 0 := iv_eq1 c10 i9 (⟨by decide, by decide⟩ : Iv 0 0 0) (by decide)
        refine lv_iconst (v := 0) hx hb dX10_again_20 (by decide) ?_
        rw [← hQ]
        exact o_rz cx rx hw (iv_nz01 (iv_w (⟨by decide, by decide⟩ : Iv 0 0 0) (by decide))) dX10_again_21 ⟨fr, (iv_w (⟨by decide, by decide⟩ : Iv 0 0 0) (by decide)), (by intro V h; exact h), (by intro V h; exact Or.inr ⟨(by have : (0 : Int32).toInt = 0 := (by decide); have : (1 : Int32).toInt = 1 := (by decide); have : (2 : Int32).toInt = 2 := (by decide); have := (i6).1; have := (i6).2; have := (i26).1; have := (i26).2; have : (0 : Int32).toInt ≤ (a1 : Int32).toInt := iv_le.mp (iv_nlt c1); have : (a1 : Int32).toInt < (2 : Int32).toInt := iv_lt.mp (iv_nle c4); have : (v9 : Int32).toInt = (0 : Int32).toInt := congrArg Int32.toInt c10; have : (0 : Int32).toInt = 0 := (by decide); have : (2 : Int32).toInt = 2 := (by decide); omega), fun z => by rw [(kb_test (nv_b h) i6 e8 e9).mp c10] at z; exact absurd z.2 (by decide)⟩)⟩
set_option maxHeartbeats 4000000 in
set_option maxRecDepth 100000 in
theorem c_X10_count (a0 : Nat) (ha0 : oA L τ a0 9) (a1 : Int32) : oMet l A L τ cy D K yX10_count cX10_count 2 (some .int) 1 22 [.ref a0, .int a1] σ (va_Qi (fun r σ1 => σ1 = σ) (oPo A L τ cy D) A) := by
  refine oMk (by decide) (Nat.le_of_ble_eq_true rfl) rfl ?_
  intro p e s m args below meth c ls cx rx hA hw hl
  generalize hQ : MQ below _ args s 0 0 A = Q
  have hx := cx.1.1
  have hb := cx.1.2.1
  have hml := cx.1.2.2.1
  have hown := cx.1.2.2.2.1
  have hts := cx.1.2.2.2.2
  have hl : lv_has ls 2 [(0, .ref a0), (1, .int a1)] := hl
  refine lv_iload_n hx hb dX10_count_0 rfl (lv_at hl 1 rfl) ?_
  by_cases q1 : a1 = 0
  · --
    refine lv_tableIn (tgt := 68) hx hb dX10_count_1 (by rw [q1]; decide) (by rw [q1]; decide) (by rw [q1]; rfl) (by decide) ?_
    have i2 : Iv a1 0 0 := iv_eq1 q1 (iv_top a1) (⟨by decide, by decide⟩ : Iv 0 0 0) (by decide)
    refine lv_aload_n hx hb dX10_count_68 rfl (lv_at hl 0 rfl) ?_
    refine g_578 cx hw ha0 k_f_X10_26 dX10_count_69 (fun v3 e3 h3 => ?_)
    refine g_64 cx hw h3 k_f_X10_121 dX10_count_72 (fun v4 e4 i4 => ?_)
    rw [← hQ]
    exact o_ri cx rx hw dX10_count_75 rfl
  by_cases q5 : a1 = 1
  · --
    refine lv_tableIn (tgt := 76) hx hb dX10_count_1 (by rw [q5]; decide) (by rw [q5]; decide) (by rw [q5]; rfl) (by decide) ?_
    have i6 : Iv a1 1 1 := iv_eq1 q5 (iv_top a1) (⟨by decide, by decide⟩ : Iv 1 1 1) (by decide)
    refine lv_aload_n hx hb dX10_count_76 rfl (lv_at hl 0 rfl) ?_
    refine g_578 cx hw ha0 k_f_X10_26 dX10_count_77 (fun v7 e7 h7 => ?_)
    refine g_65 cx hw h7 k_f_X10_124 dX10_count_80 (fun v8 e8 i8 => ?_)
    rw [← hQ]
    exact o_ri cx rx hw dX10_count_83 rfl
  by_cases q9 : a1 = 2
  · --
    refine lv_tableIn (tgt := 84) hx hb dX10_count_1 (by rw [q9]; decide) (by rw [q9]; decide) (by rw [q9]; rfl) (by decide) ?_
    have i10 : Iv a1 2 2 := iv_eq1 q9 (iv_top a1) (⟨by decide, by decide⟩ : Iv 2 2 2) (by decide)
    refine lv_aload_n hx hb dX10_count_84 rfl (lv_at hl 0 rfl) ?_
    refine g_578 cx hw ha0 k_f_X10_26 dX10_count_85 (fun v11 e11 h11 => ?_)
    refine g_66 cx hw h11 k_f_X10_306 dX10_count_88 (fun v12 e12 i12 => ?_)
    rw [← hQ]
    exact o_ri cx rx hw dX10_count_91 rfl
  by_cases q13 : a1 = 3
  · --
    refine lv_tableIn (tgt := 92) hx hb dX10_count_1 (by rw [q13]; decide) (by rw [q13]; decide) (by rw [q13]; rfl) (by decide) ?_
    have i14 : Iv a1 3 3 := iv_eq1 q13 (iv_top a1) (⟨by decide, by decide⟩ : Iv 3 3 3) (by decide)
    refine lv_aload_n hx hb dX10_count_92 rfl (lv_at hl 0 rfl) ?_
    refine g_581 cx hw ha0 k_f_X10_49 dX10_count_93 (fun v15 e15 h15 => ?_)
    refine g_330 cx hw h15 k_f_X10_154 dX10_count_96 (fun v16 e16 => ?_)
    rw [← hQ]
    exact o_ri cx rx hw dX10_count_99 rfl
  by_cases q17 : a1 = 4
  · --
    refine lv_tableIn (tgt := 100) hx hb dX10_count_1 (by rw [q17]; decide) (by rw [q17]; decide) (by rw [q17]; rfl) (by decide) ?_
    have i18 : Iv a1 4 4 := iv_eq1 q17 (iv_top a1) (⟨by decide, by decide⟩ : Iv 4 4 4) (by decide)
    refine lv_aload_n hx hb dX10_count_100 rfl (lv_at hl 0 rfl) ?_
    refine g_581 cx hw ha0 k_f_X10_49 dX10_count_101 (fun v19 e19 h19 => ?_)
    refine g_327 cx hw h19 k_f_X10_206 dX10_count_104 (fun v20 e20 i20 => ?_)
    rw [← hQ]
    exact o_ri cx rx hw dX10_count_107 rfl
  by_cases q21 : a1 = 5
  · --
    refine lv_tableIn (tgt := 108) hx hb dX10_count_1 (by rw [q21]; decide) (by rw [q21]; decide) (by rw [q21]; rfl) (by decide) ?_
    have i22 : Iv a1 5 5 := iv_eq1 q21 (iv_top a1) (⟨by decide, by decide⟩ : Iv 5 5 5) (by decide)
    refine lv_aload_n hx hb dX10_count_108 rfl (lv_at hl 0 rfl) ?_
    refine g_581 cx hw ha0 k_f_X10_49 dX10_count_109 (fun v23 e23 h23 => ?_)
    refine g_329 cx hw h23 k_f_X10_192 dX10_count_112 (fun v24 e24 => ?_)
    rw [← hQ]
    exact o_ri cx rx hw dX10_count_115 rfl
  by_cases q25 : a1 = 6
  · --
    refine lv_tableIn (tgt := 116) hx hb dX10_count_1 (by rw [q25]; decide) (by rw [q25]; decide) (by rw [q25]; rfl) (by decide) ?_
    have i26 : Iv a1 6 6 := iv_eq1 q25 (iv_top a1) (⟨by decide, by decide⟩ : Iv 6 6 6) (by decide)
    refine lv_aload_n hx hb dX10_count_116 rfl (lv_at hl 0 rfl) ?_
    refine g_581 cx hw ha0 k_f_X10_49 dX10_count_117 (fun v27 e27 h27 => ?_)
    refine g_331 cx hw h27 k_f_X10_463 dX10_count_120 (fun v28 e28 => ?_)
    rw [← hQ]
    exact o_ri cx rx hw dX10_count_123 rfl
  by_cases q29 : a1 = 7
  · --
    refine lv_tableIn (tgt := 124) hx hb dX10_count_1 (by rw [q29]; decide) (by rw [q29]; decide) (by rw [q29]; rfl) (by decide) ?_
    have i30 : Iv a1 7 7 := iv_eq1 q29 (iv_top a1) (⟨by decide, by decide⟩ : Iv 7 7 7) (by decide)
    refine lv_aload_n hx hb dX10_count_124 rfl (lv_at hl 0 rfl) ?_
    refine g_580 cx hw ha0 k_f_X10_42 dX10_count_125 (fun v31 e31 h31 => ?_)
    refine g_514 cx hw h31 k_f_X10_167 dX10_count_128 (fun v32 e32 => ?_)
    rw [← hQ]
    exact o_ri cx rx hw dX10_count_131 rfl
  by_cases q33 : a1 = 8
  · --
    refine lv_tableIn (tgt := 132) hx hb dX10_count_1 (by rw [q33]; decide) (by rw [q33]; decide) (by rw [q33]; rfl) (by decide) ?_
    have i34 : Iv a1 8 8 := iv_eq1 q33 (iv_top a1) (⟨by decide, by decide⟩ : Iv 8 8 8) (by decide)
    refine lv_aload_n hx hb dX10_count_132 rfl (lv_at hl 0 rfl) ?_
    refine g_580 cx hw ha0 k_f_X10_42 dX10_count_133 (fun v35 e35 h35 => ?_)
    refine g_515 cx hw h35 k_f_X10_203 dX10_count_136 (fun v36 e36 => ?_)
    rw [← hQ]
    exact o_ri cx rx hw dX10_count_139 rfl
  by_cases q37 : a1 = 9
  · --
    refine lv_tableIn (tgt := 140) hx hb dX10_count_1 (by rw [q37]; decide) (by rw [q37]; decide) (by rw [q37]; rfl) (by decide) ?_
    have i38 : Iv a1 9 9 := iv_eq1 q37 (iv_top a1) (⟨by decide, by decide⟩ : Iv 9 9 9) (by decide)
    refine lv_aload_n hx hb dX10_count_140 rfl (lv_at hl 0 rfl) ?_
    refine g_581 cx hw ha0 k_f_X10_49 dX10_count_141 (fun v39 e39 h39 => ?_)
    refine o_ci hw (oRunV cx hA hw q_X6_grassInAll k_m_X10_466 rfl h39 (by decide) (As := []) (c_X6_grassInAll v39 h39) (by decide) rfl hl.1 rfl (Nat.le_of_ble_eq_true rfl) dX10_count_144 (by decide)) (fun v41 σ40 H locs hp hw => ?_)
    have p41_0 := hp
    rw [p41_0] at hw
    rw [← hQ]
    exact o_ri cx rx hw dX10_count_147 rfl
  by_cases q42 : a1 = 10
  · --
    refine lv_tableIn (tgt := 148) hx hb dX10_count_1 (by rw [q42]; decide) (by rw [q42]; decide) (by rw [q42]; rfl) (by decide) ?_
    have i43 : Iv a1 10 10 := iv_eq1 q42 (iv_top a1) (⟨by decide, by decide⟩ : Iv 10 10 10) (by decide)
    refine lv_aload_n hx hb dX10_count_148 rfl (lv_at hl 0 rfl) ?_
    refine g_585 cx hw ha0 k_f_X10_75 dX10_count_149 (fun v44 e44 h44 => ?_)
    refine g_130 cx hw h44 k_f_X10_303 dX10_count_152 (fun v45 e45 i45 => ?_)
    rw [← hQ]
    exact o_ri cx rx hw dX10_count_155 rfl
  by_cases q46 : a1 = 11
  · --
    refine lv_tableIn (tgt := 156) hx hb dX10_count_1 (by rw [q46]; decide) (by rw [q46]; decide) (by rw [q46]; rfl) (by decide) ?_
    have i47 : Iv a1 11 11 := iv_eq1 q46 (iv_top a1) (⟨by decide, by decide⟩ : Iv 11 11 11) (by decide)
    refine lv_aload_n hx hb dX10_count_156 rfl (lv_at hl 0 rfl) ?_
    refine g_577 cx hw ha0 k_f_X10_19 dX10_count_157 (fun v48 e48 h48 => ?_)
    refine g_193 cx hw h48 k_f_X10_469 dX10_count_160 (fun v49 e49 i49 => ?_)
    rw [← hQ]
    exact o_ri cx rx hw dX10_count_163 rfl
  by_cases q50 : a1 = 12
  · --
    refine lv_tableIn (tgt := 164) hx hb dX10_count_1 (by rw [q50]; decide) (by rw [q50]; decide) (by rw [q50]; rfl) (by decide) ?_
    have i51 : Iv a1 12 12 := iv_eq1 q50 (iv_top a1) (⟨by decide, by decide⟩ : Iv 12 12 12) (by decide)
    refine lv_aload_n hx hb dX10_count_164 rfl (lv_at hl 0 rfl) ?_
    refine g_576 cx hw ha0 k_f_X10_10 dX10_count_165 (fun v52 e52 h52 => ?_)
    refine g_385 cx hw h52 k_f_X10_100 dX10_count_168 (fun v53 e53 i53 => ?_)
    rw [← hQ]
    exact o_ri cx rx hw dX10_count_171 rfl
  have q1 := iv_nt q1 (k := 0) (by decide)
  have q5 := iv_nt q5 (k := 1) (by decide)
  have q9 := iv_nt q9 (k := 2) (by decide)
  have q13 := iv_nt q13 (k := 3) (by decide)
  have q17 := iv_nt q17 (k := 4) (by decide)
  have q21 := iv_nt q21 (k := 5) (by decide)
  have q25 := iv_nt q25 (k := 6) (by decide)
  have q29 := iv_nt q29 (k := 7) (by decide)
  have q33 := iv_nt q33 (k := 8) (by decide)
  have q37 := iv_nt q37 (k := 9) (by decide)
  have q42 := iv_nt q42 (k := 10) (by decide)
  have q46 := iv_nt q46 (k := 11) (by decide)
  have q50 := iv_nt q50 (k := 12) (by decide)
  refine lv_tableOut (tgt := 172) hx hb dX10_count_1 (by omega) (by decide) ?_
  refine lv_iconst (v := (-1)) hx hb dX10_count_172 (by decide) ?_
  rw [← hQ]
  exact o_ri cx rx hw dX10_count_173 rfl
end OM
